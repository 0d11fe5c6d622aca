theorem cl_J13_314 : Cond.constantLong RJ13 314 6148914691236517205 ∈ lw_gd := zm (List.mem_of_getElem? (i := 1128) (by decide +kernel)) rfl
theorem cl_J13_316 : Cond.constantLong RJ13 316 3689348814741910323 ∈ lw_gd := zm (List.mem_of_getElem? (i := 1129) (by decide +kernel)) rfl
theorem cl_J13_318 : Cond.constantLong RJ13 318 1085102592571150095 ∈ lw_gd := zm (List.mem_of_getElem? (i := 1130) (by decide +kernel)) rfl
theorem co_J13_bitCount_95d88 : Cond.code yJ13_bitCount_95d88 cJ13_bitCount_95d88 2 (some .int) ∈ lw_gd := zm (List.mem_of_getElem? (i := 1127) (by decide +kernel)) rfl
theorem co_X10_gather : Cond.code yX10_gather cX10_gather 7 (some .int) ∈ lw_gd := zm (List.mem_of_getElem? (i := 1118) (by decide +kernel)) rfl
theorem co_X10_tree : Cond.code yX10_tree cX10_tree 8 (some .long) ∈ lw_gd := zm (List.mem_of_getElem? (i := 1122) (by decide +kernel)) rfl
theorem co_X1_freedWith : Cond.code yX1_freedWith cX1_freedWith 2 (some .int) ∈ lw_gd := zm (List.mem_of_getElem? (i := 1134) (by decide +kernel)) rfl
theorem co_X1_release : Cond.code yX1_release cX1_release 8 (some .int) ∈ lw_gd := zm (List.mem_of_getElem? (i := 998) (by decide +kernel)) rfl
theorem co_X8_inUse : Cond.code yX8_inUse cX8_inUse 2 (some .boolean) ∈ lw_gd := zm (List.mem_of_getElem? (i := 1147) (by decide +kernel)) rfl
theorem co_X8_isFresh : Cond.code yX8_isFresh cX8_isFresh 2 (some .boolean) ∈ lw_gd := zm (List.mem_of_getElem? (i := 985) (by decide +kernel)) rfl
theorem co_X8_levelOf : Cond.code yX8_levelOf cX8_levelOf 2 (some .int) ∈ lw_gd := zm (List.mem_of_getElem? (i := 1143) (by decide +kernel)) rfl
theorem co_X8_sizeOf : Cond.code yX8_sizeOf cX8_sizeOf 2 (some .int) ∈ lw_gd := zm (List.mem_of_getElem? (i := 1151) (by decide +kernel)) rfl
theorem fl_X10_15 : Cond.fieldLink RX10 15 "CloneVolumes$Walk" "keys" "[I" ∈ lw_gd := zm (List.mem_of_getElem? (i := 429) (by decide +kernel)) rfl
theorem fl_X10_18 : Cond.fieldLink RX10 18 "CloneVolumes$Walk" "values" "[I" ∈ lw_gd := zm (List.mem_of_getElem? (i := 431) (by decide +kernel)) rfl
theorem fl_X10_42 : Cond.fieldLink RX10 42 "CloneVolumes$State" "keys" "[I" ∈ lw_gd := zm (List.mem_of_getElem? (i := 584) (by decide +kernel)) rfl
theorem fl_X11_165 : Cond.fieldLink RX11 165 "CloneVolumes$State" "roots" "[I" ∈ lw_gd := zm (List.mem_of_getElem? (i := 597) (by decide +kernel)) rfl
theorem fl_X11_172 : Cond.fieldLink RX11 172 "CloneVolumes$State" "level" "[I" ∈ lw_gd := zm (List.mem_of_getElem? (i := 576) (by decide +kernel)) rfl
theorem fl_X11_191 : Cond.fieldLink RX11 191 "CloneVolumes$State" "count" "[I" ∈ lw_gd := zm (List.mem_of_getElem? (i := 567) (by decide +kernel)) rfl
theorem fl_X11_194 : Cond.fieldLink RX11 194 "CloneVolumes$State" "saved" "[I" ∈ lw_gd := zm (List.mem_of_getElem? (i := 571) (by decide +kernel)) rfl
theorem fl_X11_49 : Cond.fieldLink RX11 49 "CloneVolumes" "walk" "LCloneVolumes$Walk;" ∈ lw_gd := zm (List.mem_of_getElem? (i := 705) (by decide +kernel)) rfl
theorem fl_X1_12 : Cond.fieldLink RX1 12 "CloneVolumes$Forest" "now" "LCloneVolumes$State;" ∈ lw_gd := zm (List.mem_of_getElem? (i := 668) (by decide +kernel)) rfl
theorem fl_X1_150 : Cond.fieldLink RX1 150 "CloneVolumes$State" "level" "[I" ∈ lw_gd := zm (List.mem_of_getElem? (i := 577) (by decide +kernel)) rfl
theorem fl_X1_155 : Cond.fieldLink RX1 155 "CloneVolumes$State" "size" "[I" ∈ lw_gd := zm (List.mem_of_getElem? (i := 581) (by decide +kernel)) rfl
theorem fl_X1_181 : Cond.fieldLink RX1 181 "CloneVolumes$State" "count" "[I" ∈ lw_gd := zm (List.mem_of_getElem? (i := 568) (by decide +kernel)) rfl
theorem fl_X1_217 : Cond.fieldLink RX1 217 "CloneVolumes$State" "values" "[I" ∈ lw_gd := zm (List.mem_of_getElem? (i := 592) (by decide +kernel)) rfl
theorem fl_X1_37 : Cond.fieldLink RX1 37 "CloneVolumes$Forest" "chain" "[I" ∈ lw_gd := zm (List.mem_of_getElem? (i := 678) (by decide +kernel)) rfl
theorem fl_X1_44 : Cond.fieldLink RX1 44 "CloneVolumes$Forest" "counts" "[I" ∈ lw_gd := zm (List.mem_of_getElem? (i := 680) (by decide +kernel)) rfl
theorem fl_X8_18 : Cond.fieldLink RX8 18 "CloneVolumes$State" "level" "[I" ∈ lw_gd := zm (List.mem_of_getElem? (i := 573) (by decide +kernel)) rfl
theorem fl_X8_21 : Cond.fieldLink RX8 21 "CloneVolumes$State" "size" "[I" ∈ lw_gd := zm (List.mem_of_getElem? (i := 578) (by decide +kernel)) rfl
theorem im_X10_gather : Cond.instanceMethod yX10_gather ∈ lw_gd := zm (List.mem_of_getElem? (i := 1116) (by decide +kernel)) rfl
theorem im_X10_tree : Cond.instanceMethod yX10_tree ∈ lw_gd := zm (List.mem_of_getElem? (i := 1120) (by decide +kernel)) rfl
theorem im_X1_freedWith : Cond.instanceMethod yX1_freedWith ∈ lw_gd := zm (List.mem_of_getElem? (i := 1132) (by decide +kernel)) rfl
theorem im_X1_release : Cond.instanceMethod yX1_release ∈ lw_gd := zm (List.mem_of_getElem? (i := 997) (by decide +kernel)) rfl
theorem im_X8_inUse : Cond.instanceMethod yX8_inUse ∈ lw_gd := zm (List.mem_of_getElem? (i := 1145) (by decide +kernel)) rfl
theorem im_X8_isFresh : Cond.instanceMethod yX8_isFresh ∈ lw_gd := zm (List.mem_of_getElem? (i := 983) (by decide +kernel)) rfl
theorem im_X8_levelOf : Cond.instanceMethod yX8_levelOf ∈ lw_gd := zm (List.mem_of_getElem? (i := 1141) (by decide +kernel)) rfl
theorem im_X8_sizeOf : Cond.instanceMethod yX8_sizeOf ∈ lw_gd := zm (List.mem_of_getElem? (i := 1149) (by decide +kernel)) rfl
theorem in_J13 : Cond.initialized RJ13 ∈ lw_gd := zm (List.mem_of_getElem? (i := 217) (by decide +kernel)) rfl
theorem in_X1 : Cond.initialized RX1 ∈ lw_gd := zm (List.mem_of_getElem? (i := 211) (by decide +kernel)) rfl
theorem in_X10 : Cond.initialized RX10 ∈ lw_gd := zm (List.mem_of_getElem? (i := 208) (by decide +kernel)) rfl
theorem in_sys : Cond.initialized "java/lang/System" ∈ lw_gd := zm (List.mem_of_getElem? (i := 215) (by decide +kernel)) rfl
theorem ml_X10_38 : Cond.methodLink RX10 38 yX10_tree ∈ lw_gd := zm (List.mem_of_getElem? (i := 1119) (by decide +kernel)) rfl
theorem ml_X11_161 : Cond.methodLink RX11 161 yX8_isVolume ∈ lw_gd := zm (List.mem_of_getElem? (i := 1114) (by decide +kernel)) rfl
theorem ml_X11_168 : Cond.methodLink RX11 168 yX10_gather ∈ lw_gd := zm (List.mem_of_getElem? (i := 1115) (by decide +kernel)) rfl
theorem ml_X11_175 : Cond.methodLink RX11 175 yX10_tree ∈ lw_gd := zm (List.mem_of_getElem? (i := 1124) (by decide +kernel)) rfl
theorem ml_X11_179 : Cond.methodLink RX11 179 yJ13_bitCount_95d88 ∈ lw_gd := zm (List.mem_of_getElem? (i := 1125) (by decide +kernel)) rfl
theorem ml_X11_185 : Cond.methodLink RX11 185 yX1_freedWith ∈ lw_gd := zm (List.mem_of_getElem? (i := 1131) (by decide +kernel)) rfl
theorem ml_X11_188 : Cond.methodLink RX11 188 yX8_isBlock ∈ lw_gd := zm (List.mem_of_getElem? (i := 1139) (by decide +kernel)) rfl
theorem ml_X11_197 : Cond.methodLink RX11 197 yX8_levelOf ∈ lw_gd := zm (List.mem_of_getElem? (i := 1140) (by decide +kernel)) rfl
theorem ml_X11_200 : Cond.methodLink RX11 200 yX8_sizeOf ∈ lw_gd := zm (List.mem_of_getElem? (i := 1148) (by decide +kernel)) rfl
theorem ml_X11_203 : Cond.methodLink RX11 203 yX8_isFresh ∈ lw_gd := zm (List.mem_of_getElem? (i := 1152) (by decide +kernel)) rfl
theorem ml_X11_206 : Cond.methodLink RX11 206 yX8_isHeld ∈ lw_gd := zm (List.mem_of_getElem? (i := 1153) (by decide +kernel)) rfl
theorem ml_X1_220 : Cond.methodLink RX1 220 yX8_slot ∈ lw_gd := zm (List.mem_of_getElem? (i := 990) (by decide +kernel)) rfl
theorem ml_X1_223 : Cond.methodLink RX1 223 yX1_release ∈ lw_gd := zm (List.mem_of_getElem? (i := 995) (by decide +kernel)) rfl
theorem ml_X1_230 : Cond.methodLink RX1 230 arraycopyName ∈ lw_gd := zm (List.mem_of_getElem? (i := 994) (by decide +kernel)) rfl
theorem ml_X8_61 : Cond.methodLink RX8 61 yX8_inUse ∈ lw_gd := zm (List.mem_of_getElem? (i := 1144) (by decide +kernel)) rfl
theorem na_cpy : Cond.native arraycopyName ∈ lw_gd := zm (List.mem_of_getElem? (i := 930) (by decide +kernel)) rfl
theorem se_X10_gather : Cond.selects RX10 yX10_gather yX10_gather ∈ lw_gd := zm (List.mem_of_getElem? (i := 1117) (by decide +kernel)) rfl
theorem se_X10_tree : Cond.selects RX10 yX10_tree yX10_tree ∈ lw_gd := zm (List.mem_of_getElem? (i := 1121) (by decide +kernel)) rfl
theorem se_X1_freedWith : Cond.selects RX1 yX1_freedWith yX1_freedWith ∈ lw_gd := zm (List.mem_of_getElem? (i := 1133) (by decide +kernel)) rfl
theorem se_X1_release : Cond.selects RX1 yX1_release yX1_release ∈ lw_gd := zm (List.mem_of_getElem? (i := 36) (by decide +kernel)) rfl
theorem se_X8_inUse : Cond.selects RX8 yX8_inUse yX8_inUse ∈ lw_gd := zm (List.mem_of_getElem? (i := 1146) (by decide +kernel)) rfl
theorem se_X8_isFresh : Cond.selects RX8 yX8_isFresh yX8_isFresh ∈ lw_gd := zm (List.mem_of_getElem? (i := 984) (by decide +kernel)) rfl
theorem se_X8_levelOf : Cond.selects RX8 yX8_levelOf yX8_levelOf ∈ lw_gd := zm (List.mem_of_getElem? (i := 1142) (by decide +kernel)) rfl
theorem se_X8_sizeOf : Cond.selects RX8 yX8_sizeOf yX8_sizeOf ∈ lw_gd := zm (List.mem_of_getElem? (i := 1150) (by decide +kernel)) rfl
theorem st_J13_bitCount_95d88 : Cond.static yJ13_bitCount_95d88 ∈ lw_gd := zm (List.mem_of_getElem? (i := 1126) (by decide +kernel)) rfl
theorem st_cpy : Cond.static arraycopyName ∈ lw_gd := zm (List.mem_of_getElem? (i := 929) (by decide +kernel)) rfl
theorem dJ13_bitCount_95d88_0 : decode cJ13_bitCount_95d88 0 = .ok (.lload_n 0, 1) := by decide +kernel
theorem dJ13_bitCount_95d88_1 : decode cJ13_bitCount_95d88 1 = .ok (.lload_n 0, 1) := by decide +kernel
theorem dJ13_bitCount_95d88_2 : decode cJ13_bitCount_95d88 2 = .ok (.iconst 1, 1) := by decide +kernel
theorem dJ13_bitCount_95d88_3 : decode cJ13_bitCount_95d88 3 = .ok (.lushr, 1) := by decide +kernel
theorem dJ13_bitCount_95d88_4 : decode cJ13_bitCount_95d88 4 = .ok (.ldc2_w 314, 3) := by decide +kernel
theorem dJ13_bitCount_95d88_7 : decode cJ13_bitCount_95d88 7 = .ok (.land, 1) := by decide +kernel
theorem dJ13_bitCount_95d88_8 : decode cJ13_bitCount_95d88 8 = .ok (.lsub, 1) := by decide +kernel
theorem dJ13_bitCount_95d88_9 : decode cJ13_bitCount_95d88 9 = .ok (.lstore_n 0, 1) := by decide +kernel
theorem dJ13_bitCount_95d88_10 : decode cJ13_bitCount_95d88 10 = .ok (.lload_n 0, 1) := by decide +kernel
theorem dJ13_bitCount_95d88_11 : decode cJ13_bitCount_95d88 11 = .ok (.ldc2_w 316, 3) := by decide +kernel
theorem dJ13_bitCount_95d88_14 : decode cJ13_bitCount_95d88 14 = .ok (.land, 1) := by decide +kernel
theorem dJ13_bitCount_95d88_15 : decode cJ13_bitCount_95d88 15 = .ok (.lload_n 0, 1) := by decide +kernel
theorem dJ13_bitCount_95d88_16 : decode cJ13_bitCount_95d88 16 = .ok (.iconst 2, 1) := by decide +kernel
theorem dJ13_bitCount_95d88_17 : decode cJ13_bitCount_95d88 17 = .ok (.lushr, 1) := by decide +kernel
theorem dJ13_bitCount_95d88_18 : decode cJ13_bitCount_95d88 18 = .ok (.ldc2_w 316, 3) := by decide +kernel
theorem dJ13_bitCount_95d88_21 : decode cJ13_bitCount_95d88 21 = .ok (.land, 1) := by decide +kernel
theorem dJ13_bitCount_95d88_22 : decode cJ13_bitCount_95d88 22 = .ok (.ladd, 1) := by decide +kernel
theorem dJ13_bitCount_95d88_23 : decode cJ13_bitCount_95d88 23 = .ok (.lstore_n 0, 1) := by decide +kernel
theorem dJ13_bitCount_95d88_24 : decode cJ13_bitCount_95d88 24 = .ok (.lload_n 0, 1) := by decide +kernel
theorem dJ13_bitCount_95d88_25 : decode cJ13_bitCount_95d88 25 = .ok (.lload_n 0, 1) := by decide +kernel
theorem dJ13_bitCount_95d88_26 : decode cJ13_bitCount_95d88 26 = .ok (.iconst 4, 1) := by decide +kernel
theorem dJ13_bitCount_95d88_27 : decode cJ13_bitCount_95d88 27 = .ok (.lushr, 1) := by decide +kernel
theorem dJ13_bitCount_95d88_28 : decode cJ13_bitCount_95d88 28 = .ok (.ladd, 1) := by decide +kernel
theorem dJ13_bitCount_95d88_29 : decode cJ13_bitCount_95d88 29 = .ok (.ldc2_w 318, 3) := by decide +kernel
theorem dJ13_bitCount_95d88_32 : decode cJ13_bitCount_95d88 32 = .ok (.land, 1) := by decide +kernel
theorem dJ13_bitCount_95d88_33 : decode cJ13_bitCount_95d88 33 = .ok (.lstore_n 0, 1) := by decide +kernel
theorem dJ13_bitCount_95d88_34 : decode cJ13_bitCount_95d88 34 = .ok (.lload_n 0, 1) := by decide +kernel
theorem dJ13_bitCount_95d88_35 : decode cJ13_bitCount_95d88 35 = .ok (.lload_n 0, 1) := by decide +kernel
theorem dJ13_bitCount_95d88_36 : decode cJ13_bitCount_95d88 36 = .ok (.bipush 8, 2) := by decide +kernel
theorem dJ13_bitCount_95d88_38 : decode cJ13_bitCount_95d88 38 = .ok (.lushr, 1) := by decide +kernel
theorem dJ13_bitCount_95d88_39 : decode cJ13_bitCount_95d88 39 = .ok (.ladd, 1) := by decide +kernel
theorem dJ13_bitCount_95d88_40 : decode cJ13_bitCount_95d88 40 = .ok (.lstore_n 0, 1) := by decide +kernel
theorem dJ13_bitCount_95d88_41 : decode cJ13_bitCount_95d88 41 = .ok (.lload_n 0, 1) := by decide +kernel
theorem dJ13_bitCount_95d88_42 : decode cJ13_bitCount_95d88 42 = .ok (.lload_n 0, 1) := by decide +kernel
theorem dJ13_bitCount_95d88_43 : decode cJ13_bitCount_95d88 43 = .ok (.bipush 16, 2) := by decide +kernel
theorem dJ13_bitCount_95d88_45 : decode cJ13_bitCount_95d88 45 = .ok (.lushr, 1) := by decide +kernel
theorem dJ13_bitCount_95d88_46 : decode cJ13_bitCount_95d88 46 = .ok (.ladd, 1) := by decide +kernel
theorem dJ13_bitCount_95d88_47 : decode cJ13_bitCount_95d88 47 = .ok (.lstore_n 0, 1) := by decide +kernel
theorem dJ13_bitCount_95d88_48 : decode cJ13_bitCount_95d88 48 = .ok (.lload_n 0, 1) := by decide +kernel
theorem dJ13_bitCount_95d88_49 : decode cJ13_bitCount_95d88 49 = .ok (.lload_n 0, 1) := by decide +kernel
theorem dJ13_bitCount_95d88_50 : decode cJ13_bitCount_95d88 50 = .ok (.bipush 32, 2) := by decide +kernel
theorem dJ13_bitCount_95d88_52 : decode cJ13_bitCount_95d88 52 = .ok (.lushr, 1) := by decide +kernel
theorem dJ13_bitCount_95d88_53 : decode cJ13_bitCount_95d88 53 = .ok (.ladd, 1) := by decide +kernel
theorem dJ13_bitCount_95d88_54 : decode cJ13_bitCount_95d88 54 = .ok (.lstore_n 0, 1) := by decide +kernel
theorem dJ13_bitCount_95d88_55 : decode cJ13_bitCount_95d88 55 = .ok (.lload_n 0, 1) := by decide +kernel
theorem dJ13_bitCount_95d88_56 : decode cJ13_bitCount_95d88 56 = .ok (.l2i, 1) := by decide +kernel
theorem dJ13_bitCount_95d88_57 : decode cJ13_bitCount_95d88 57 = .ok (.bipush 127, 2) := by decide +kernel
theorem dJ13_bitCount_95d88_59 : decode cJ13_bitCount_95d88 59 = .ok (.iand, 1) := by decide +kernel
theorem dJ13_bitCount_95d88_60 : decode cJ13_bitCount_95d88 60 = .ok (.ireturn, 1) := by decide +kernel
theorem dX10_gather_0 : decode cX10_gather 0 = .ok (.aload_n 0, 1) := by decide +kernel
theorem dX10_gather_1 : decode cX10_gather 1 = .ok (.aload_n 1, 1) := by decide +kernel
theorem dX10_gather_2 : decode cX10_gather 2 = .ok (.iload_n 2, 1) := by decide +kernel
theorem dX10_gather_3 : decode cX10_gather 3 = .ok (.invokevirtual 38, 3) := by decide +kernel
theorem dX10_gather_6 : decode cX10_gather 6 = .ok (.pop2, 1) := by decide +kernel
theorem dX10_gather_7 : decode cX10_gather 7 = .ok (.iconst 0, 1) := by decide +kernel
theorem dX10_gather_8 : decode cX10_gather 8 = .ok (.istore_n 3, 1) := by decide +kernel
theorem dX10_gather_9 : decode cX10_gather 9 = .ok (.iconst 0, 1) := by decide +kernel
theorem dX10_gather_10 : decode cX10_gather 10 = .ok (.istore 4, 2) := by decide +kernel
theorem dX10_gather_12 : decode cX10_gather 12 = .ok (.iload 4, 2) := by decide +kernel
theorem dX10_gather_14 : decode cX10_gather 14 = .ok (.aload_n 0, 1) := by decide +kernel
theorem dX10_gather_15 : decode cX10_gather 15 = .ok (.getfield 21, 3) := by decide +kernel
theorem dX10_gather_18 : decode cX10_gather 18 = .ok (.if_icmp .ge 116, 3) := by decide +kernel
theorem dX10_gather_21 : decode cX10_gather 21 = .ok (.aload_n 1, 1) := by decide +kernel
theorem dX10_gather_22 : decode cX10_gather 22 = .ok (.getfield 25, 3) := by decide +kernel
theorem dX10_gather_25 : decode cX10_gather 25 = .ok (.aload_n 0, 1) := by decide +kernel
theorem dX10_gather_26 : decode cX10_gather 26 = .ok (.getfield 9, 3) := by decide +kernel
theorem dX10_gather_29 : decode cX10_gather 29 = .ok (.iload 4, 2) := by decide +kernel
theorem dX10_gather_31 : decode cX10_gather 31 = .ok (.iaload, 1) := by decide +kernel
theorem dX10_gather_32 : decode cX10_gather 32 = .ok (.iaload, 1) := by decide +kernel
theorem dX10_gather_33 : decode cX10_gather 33 = .ok (.ifCond .ne 18, 3) := by decide +kernel
theorem dX10_gather_36 : decode cX10_gather 36 = .ok (.aload_n 1, 1) := by decide +kernel
theorem dX10_gather_37 : decode cX10_gather 37 = .ok (.getfield 30, 3) := by decide +kernel
theorem dX10_gather_40 : decode cX10_gather 40 = .ok (.aload_n 0, 1) := by decide +kernel
theorem dX10_gather_41 : decode cX10_gather 41 = .ok (.getfield 9, 3) := by decide +kernel
theorem dX10_gather_44 : decode cX10_gather 44 = .ok (.iload 4, 2) := by decide +kernel
theorem dX10_gather_46 : decode cX10_gather 46 = .ok (.iaload, 1) := by decide +kernel
theorem dX10_gather_47 : decode cX10_gather 47 = .ok (.iaload, 1) := by decide +kernel
theorem dX10_gather_48 : decode cX10_gather 48 = .ok (.goto 4, 3) := by decide +kernel
theorem dX10_gather_51 : decode cX10_gather 51 = .ok (.iconst 0, 1) := by decide +kernel
theorem dX10_gather_52 : decode cX10_gather 52 = .ok (.istore 5, 2) := by decide +kernel
theorem dX10_gather_54 : decode cX10_gather 54 = .ok (.iconst 0, 1) := by decide +kernel
theorem dX10_gather_55 : decode cX10_gather 55 = .ok (.istore 6, 2) := by decide +kernel
theorem dX10_gather_57 : decode cX10_gather 57 = .ok (.iload 6, 2) := by decide +kernel
theorem dX10_gather_59 : decode cX10_gather 59 = .ok (.iload 5, 2) := by decide +kernel
theorem dX10_gather_61 : decode cX10_gather 61 = .ok (.if_icmp .ge 67, 3) := by decide +kernel
theorem dX10_gather_64 : decode cX10_gather 64 = .ok (.iload_n 3, 1) := by decide +kernel
theorem dX10_gather_65 : decode cX10_gather 65 = .ok (.sipush 288, 3) := by decide +kernel
theorem dX10_gather_68 : decode cX10_gather 68 = .ok (.if_icmp .ge 60, 3) := by decide +kernel
theorem dX10_gather_71 : decode cX10_gather 71 = .ok (.aload_n 0, 1) := by decide +kernel
theorem dX10_gather_72 : decode cX10_gather 72 = .ok (.getfield 15, 3) := by decide +kernel
theorem dX10_gather_75 : decode cX10_gather 75 = .ok (.iload_n 3, 1) := by decide +kernel
theorem dX10_gather_76 : decode cX10_gather 76 = .ok (.aload_n 1, 1) := by decide +kernel
theorem dX10_gather_77 : decode cX10_gather 77 = .ok (.getfield 42, 3) := by decide +kernel
theorem dX10_gather_80 : decode cX10_gather 80 = .ok (.aload_n 1, 1) := by decide +kernel
theorem dX10_gather_81 : decode cX10_gather 81 = .ok (.aload_n 0, 1) := by decide +kernel
theorem dX10_gather_82 : decode cX10_gather 82 = .ok (.getfield 9, 3) := by decide +kernel
theorem dX10_gather_85 : decode cX10_gather 85 = .ok (.iload 4, 2) := by decide +kernel
theorem dX10_gather_87 : decode cX10_gather 87 = .ok (.iaload, 1) := by decide +kernel
theorem dX10_gather_88 : decode cX10_gather 88 = .ok (.iload 6, 2) := by decide +kernel
theorem dX10_gather_90 : decode cX10_gather 90 = .ok (.invokevirtual 34, 3) := by decide +kernel
theorem dX10_gather_93 : decode cX10_gather 93 = .ok (.iaload, 1) := by decide +kernel
theorem dX10_gather_94 : decode cX10_gather 94 = .ok (.iastore, 1) := by decide +kernel
theorem dX10_gather_95 : decode cX10_gather 95 = .ok (.aload_n 0, 1) := by decide +kernel
theorem dX10_gather_96 : decode cX10_gather 96 = .ok (.getfield 18, 3) := by decide +kernel
theorem dX10_gather_99 : decode cX10_gather 99 = .ok (.iload_n 3, 1) := by decide +kernel
theorem dX10_gather_100 : decode cX10_gather 100 = .ok (.aload_n 1, 1) := by decide +kernel
theorem dX10_gather_101 : decode cX10_gather 101 = .ok (.getfield 33, 3) := by decide +kernel
theorem dX10_gather_104 : decode cX10_gather 104 = .ok (.aload_n 1, 1) := by decide +kernel
theorem dX10_gather_105 : decode cX10_gather 105 = .ok (.aload_n 0, 1) := by decide +kernel
theorem dX10_gather_106 : decode cX10_gather 106 = .ok (.getfield 9, 3) := by decide +kernel
theorem dX10_gather_109 : decode cX10_gather 109 = .ok (.iload 4, 2) := by decide +kernel
theorem dX10_gather_111 : decode cX10_gather 111 = .ok (.iaload, 1) := by decide +kernel
theorem dX10_gather_112 : decode cX10_gather 112 = .ok (.iload 6, 2) := by decide +kernel
theorem dX10_gather_114 : decode cX10_gather 114 = .ok (.invokevirtual 34, 3) := by decide +kernel
theorem dX10_gather_117 : decode cX10_gather 117 = .ok (.iaload, 1) := by decide +kernel
theorem dX10_gather_118 : decode cX10_gather 118 = .ok (.iastore, 1) := by decide +kernel
theorem dX10_gather_119 : decode cX10_gather 119 = .ok (.iinc 3 1, 3) := by decide +kernel
theorem dX10_gather_122 : decode cX10_gather 122 = .ok (.iinc 6 1, 3) := by decide +kernel
theorem dX10_gather_125 : decode cX10_gather 125 = .ok (.goto (-68), 3) := by decide +kernel
theorem dX10_gather_128 : decode cX10_gather 128 = .ok (.iinc 4 1, 3) := by decide +kernel
theorem dX10_gather_131 : decode cX10_gather 131 = .ok (.goto (-119), 3) := by decide +kernel
theorem dX10_gather_134 : decode cX10_gather 134 = .ok (.iload_n 3, 1) := by decide +kernel
theorem dX10_gather_135 : decode cX10_gather 135 = .ok (.ireturn, 1) := by decide +kernel
theorem dX11_block_0 : decode cX11_block 0 = .ok (.aload_n 0, 1) := by decide +kernel
theorem dX11_block_1 : decode cX11_block 1 = .ok (.getfield 79, 3) := by decide +kernel
theorem dX11_block_4 : decode cX11_block 4 = .ok (.getfield 125, 3) := by decide +kernel
theorem dX11_block_7 : decode cX11_block 7 = .ok (.astore_n 3, 1) := by decide +kernel
theorem dX11_block_8 : decode cX11_block 8 = .ok (.aload_n 3, 1) := by decide +kernel
theorem dX11_block_9 : decode cX11_block 9 = .ok (.iload_n 1, 1) := by decide +kernel
theorem dX11_block_10 : decode cX11_block 10 = .ok (.invokevirtual 188, 3) := by decide +kernel
theorem dX11_block_13 : decode cX11_block 13 = .ok (.ifCond .ne 5, 3) := by decide +kernel
theorem dX11_block_16 : decode cX11_block 16 = .ok (.iconst (-1), 1) := by decide +kernel
theorem dX11_block_17 : decode cX11_block 17 = .ok (.ireturn, 1) := by decide +kernel
theorem dX11_block_18 : decode cX11_block 18 = .ok (.iload_n 2, 1) := by decide +kernel
theorem dX11_block_19 : decode cX11_block 19 = .ok (.tableswitch 91 0 5 #[37, 44, 51, 57, 63, 77], 37) := by decide +kernel
theorem dX11_block_56 : decode cX11_block 56 = .ok (.aload_n 3, 1) := by decide +kernel
theorem dX11_block_57 : decode cX11_block 57 = .ok (.getfield 191, 3) := by decide +kernel
theorem dX11_block_60 : decode cX11_block 60 = .ok (.iload_n 1, 1) := by decide +kernel
theorem dX11_block_61 : decode cX11_block 61 = .ok (.iaload, 1) := by decide +kernel
theorem dX11_block_62 : decode cX11_block 62 = .ok (.ireturn, 1) := by decide +kernel
theorem dX11_block_63 : decode cX11_block 63 = .ok (.aload_n 3, 1) := by decide +kernel
theorem dX11_block_64 : decode cX11_block 64 = .ok (.getfield 194, 3) := by decide +kernel
theorem dX11_block_67 : decode cX11_block 67 = .ok (.iload_n 1, 1) := by decide +kernel
theorem dX11_block_68 : decode cX11_block 68 = .ok (.iaload, 1) := by decide +kernel
theorem dX11_block_69 : decode cX11_block 69 = .ok (.ireturn, 1) := by decide +kernel
theorem dX11_block_70 : decode cX11_block 70 = .ok (.aload_n 3, 1) := by decide +kernel
theorem dX11_block_71 : decode cX11_block 71 = .ok (.iload_n 1, 1) := by decide +kernel
theorem dX11_block_72 : decode cX11_block 72 = .ok (.invokevirtual 197, 3) := by decide +kernel
theorem dX11_block_75 : decode cX11_block 75 = .ok (.ireturn, 1) := by decide +kernel
theorem dX11_block_76 : decode cX11_block 76 = .ok (.aload_n 3, 1) := by decide +kernel
theorem dX11_block_77 : decode cX11_block 77 = .ok (.iload_n 1, 1) := by decide +kernel
theorem dX11_block_78 : decode cX11_block 78 = .ok (.invokevirtual 200, 3) := by decide +kernel
theorem dX11_block_81 : decode cX11_block 81 = .ok (.ireturn, 1) := by decide +kernel
theorem dX11_block_82 : decode cX11_block 82 = .ok (.aload_n 3, 1) := by decide +kernel
theorem dX11_block_83 : decode cX11_block 83 = .ok (.iload_n 1, 1) := by decide +kernel
theorem dX11_block_84 : decode cX11_block 84 = .ok (.invokevirtual 203, 3) := by decide +kernel
theorem dX11_block_87 : decode cX11_block 87 = .ok (.ifCond .eq 7, 3) := by decide +kernel
theorem dX11_block_90 : decode cX11_block 90 = .ok (.iconst 1, 1) := by decide +kernel
theorem dX11_block_91 : decode cX11_block 91 = .ok (.goto 4, 3) := by decide +kernel
theorem dX11_block_94 : decode cX11_block 94 = .ok (.iconst 0, 1) := by decide +kernel
theorem dX11_block_95 : decode cX11_block 95 = .ok (.ireturn, 1) := by decide +kernel
theorem dX11_block_96 : decode cX11_block 96 = .ok (.aload_n 3, 1) := by decide +kernel
theorem dX11_block_97 : decode cX11_block 97 = .ok (.iload_n 1, 1) := by decide +kernel
theorem dX11_block_98 : decode cX11_block 98 = .ok (.invokevirtual 206, 3) := by decide +kernel
theorem dX11_block_101 : decode cX11_block 101 = .ok (.ifCond .eq 7, 3) := by decide +kernel
theorem dX11_block_104 : decode cX11_block 104 = .ok (.iconst 1, 1) := by decide +kernel
theorem dX11_block_105 : decode cX11_block 105 = .ok (.goto 4, 3) := by decide +kernel
theorem dX11_block_108 : decode cX11_block 108 = .ok (.iconst 0, 1) := by decide +kernel
theorem dX11_block_109 : decode cX11_block 109 = .ok (.ireturn, 1) := by decide +kernel
theorem dX11_block_110 : decode cX11_block 110 = .ok (.iconst (-1), 1) := by decide +kernel
theorem dX11_block_111 : decode cX11_block 111 = .ok (.ireturn, 1) := by decide +kernel
theorem dX11_volume_0 : decode cX11_volume 0 = .ok (.aload_n 0, 1) := by decide +kernel
theorem dX11_volume_1 : decode cX11_volume 1 = .ok (.getfield 79, 3) := by decide +kernel
theorem dX11_volume_4 : decode cX11_volume 4 = .ok (.getfield 125, 3) := by decide +kernel
theorem dX11_volume_7 : decode cX11_volume 7 = .ok (.astore_n 3, 1) := by decide +kernel
theorem dX11_volume_8 : decode cX11_volume 8 = .ok (.aload_n 3, 1) := by decide +kernel
theorem dX11_volume_9 : decode cX11_volume 9 = .ok (.iload_n 1, 1) := by decide +kernel
theorem dX11_volume_10 : decode cX11_volume 10 = .ok (.invokevirtual 161, 3) := by decide +kernel
theorem dX11_volume_13 : decode cX11_volume 13 = .ok (.ifCond .ne 5, 3) := by decide +kernel
theorem dX11_volume_16 : decode cX11_volume 16 = .ok (.iconst (-1), 1) := by decide +kernel
theorem dX11_volume_17 : decode cX11_volume 17 = .ok (.ireturn, 1) := by decide +kernel
theorem dX11_volume_18 : decode cX11_volume 18 = .ok (.aload_n 3, 1) := by decide +kernel
theorem dX11_volume_19 : decode cX11_volume 19 = .ok (.getfield 165, 3) := by decide +kernel
theorem dX11_volume_22 : decode cX11_volume 22 = .ok (.iload_n 1, 1) := by decide +kernel
theorem dX11_volume_23 : decode cX11_volume 23 = .ok (.iaload, 1) := by decide +kernel
theorem dX11_volume_24 : decode cX11_volume 24 = .ok (.istore 4, 2) := by decide +kernel
theorem dX11_volume_26 : decode cX11_volume 26 = .ok (.iload_n 2, 1) := by decide +kernel
theorem dX11_volume_27 : decode cX11_volume 27 = .ok (.tableswitch 91 0 4 #[33, 36, 47, 67, 81], 33) := by decide +kernel
theorem dX11_volume_60 : decode cX11_volume 60 = .ok (.iload 4, 2) := by decide +kernel
theorem dX11_volume_62 : decode cX11_volume 62 = .ok (.ireturn, 1) := by decide +kernel
theorem dX11_volume_63 : decode cX11_volume 63 = .ok (.aload_n 0, 1) := by decide +kernel
theorem dX11_volume_64 : decode cX11_volume 64 = .ok (.getfield 49, 3) := by decide +kernel
theorem dX11_volume_67 : decode cX11_volume 67 = .ok (.aload_n 3, 1) := by decide +kernel
theorem dX11_volume_68 : decode cX11_volume 68 = .ok (.iload 4, 2) := by decide +kernel
theorem dX11_volume_70 : decode cX11_volume 70 = .ok (.invokevirtual 168, 3) := by decide +kernel
theorem dX11_volume_73 : decode cX11_volume 73 = .ok (.ireturn, 1) := by decide +kernel
theorem dX11_volume_74 : decode cX11_volume 74 = .ok (.iload 4, 2) := by decide +kernel
theorem dX11_volume_76 : decode cX11_volume 76 = .ok (.iconst (-1), 1) := by decide +kernel
theorem dX11_volume_77 : decode cX11_volume 77 = .ok (.if_icmp .ne 7, 3) := by decide +kernel
theorem dX11_volume_80 : decode cX11_volume 80 = .ok (.iconst 0, 1) := by decide +kernel
theorem dX11_volume_81 : decode cX11_volume 81 = .ok (.goto 12, 3) := by decide +kernel
theorem dX11_volume_84 : decode cX11_volume 84 = .ok (.aload_n 3, 1) := by decide +kernel
theorem dX11_volume_85 : decode cX11_volume 85 = .ok (.getfield 172, 3) := by decide +kernel
theorem dX11_volume_88 : decode cX11_volume 88 = .ok (.iload 4, 2) := by decide +kernel
theorem dX11_volume_90 : decode cX11_volume 90 = .ok (.iaload, 1) := by decide +kernel
theorem dX11_volume_91 : decode cX11_volume 91 = .ok (.iconst 1, 1) := by decide +kernel
theorem dX11_volume_92 : decode cX11_volume 92 = .ok (.iadd, 1) := by decide +kernel
theorem dX11_volume_93 : decode cX11_volume 93 = .ok (.ireturn, 1) := by decide +kernel
theorem dX11_volume_94 : decode cX11_volume 94 = .ok (.aload_n 0, 1) := by decide +kernel
theorem dX11_volume_95 : decode cX11_volume 95 = .ok (.getfield 49, 3) := by decide +kernel
theorem dX11_volume_98 : decode cX11_volume 98 = .ok (.aload_n 3, 1) := by decide +kernel
theorem dX11_volume_99 : decode cX11_volume 99 = .ok (.iload 4, 2) := by decide +kernel
theorem dX11_volume_101 : decode cX11_volume 101 = .ok (.invokevirtual 175, 3) := by decide +kernel
theorem dX11_volume_104 : decode cX11_volume 104 = .ok (.invokestatic 179, 3) := by decide +kernel
theorem dX11_volume_107 : decode cX11_volume 107 = .ok (.ireturn, 1) := by decide +kernel
theorem dX11_volume_108 : decode cX11_volume 108 = .ok (.aload_n 0, 1) := by decide +kernel
theorem dX11_volume_109 : decode cX11_volume 109 = .ok (.getfield 79, 3) := by decide +kernel
theorem dX11_volume_112 : decode cX11_volume 112 = .ok (.iload 4, 2) := by decide +kernel
theorem dX11_volume_114 : decode cX11_volume 114 = .ok (.invokevirtual 185, 3) := by decide +kernel
theorem dX11_volume_117 : decode cX11_volume 117 = .ok (.ireturn, 1) := by decide +kernel
theorem dX11_volume_118 : decode cX11_volume 118 = .ok (.iconst (-1), 1) := by decide +kernel
theorem dX11_volume_119 : decode cX11_volume 119 = .ok (.ireturn, 1) := by decide +kernel
theorem dX1_freedWith_0 : decode cX1_freedWith 0 = .ok (.iload_n 1, 1) := by decide +kernel
theorem dX1_freedWith_1 : decode cX1_freedWith 1 = .ok (.iconst (-1), 1) := by decide +kernel
theorem dX1_freedWith_2 : decode cX1_freedWith 2 = .ok (.if_icmp .ne 5, 3) := by decide +kernel
theorem dX1_freedWith_5 : decode cX1_freedWith 5 = .ok (.iconst 0, 1) := by decide +kernel
theorem dX1_freedWith_6 : decode cX1_freedWith 6 = .ok (.ireturn, 1) := by decide +kernel
theorem dX1_freedWith_7 : decode cX1_freedWith 7 = .ok (.aload_n 0, 1) := by decide +kernel
theorem dX1_freedWith_8 : decode cX1_freedWith 8 = .ok (.getfield 12, 3) := by decide +kernel
theorem dX1_freedWith_11 : decode cX1_freedWith 11 = .ok (.getfield 181, 3) := by decide +kernel
theorem dX1_freedWith_14 : decode cX1_freedWith 14 = .ok (.iconst 0, 1) := by decide +kernel
theorem dX1_freedWith_15 : decode cX1_freedWith 15 = .ok (.aload_n 0, 1) := by decide +kernel
theorem dX1_freedWith_16 : decode cX1_freedWith 16 = .ok (.getfield 44, 3) := by decide +kernel
theorem dX1_freedWith_19 : decode cX1_freedWith 19 = .ok (.iconst 0, 1) := by decide +kernel
theorem dX1_freedWith_20 : decode cX1_freedWith 20 = .ok (.bipush 48, 2) := by decide +kernel
theorem dX1_freedWith_22 : decode cX1_freedWith 22 = .ok (.invokestatic 230, 3) := by decide +kernel
theorem dX1_freedWith_25 : decode cX1_freedWith 25 = .ok (.aload_n 0, 1) := by decide +kernel
theorem dX1_freedWith_26 : decode cX1_freedWith 26 = .ok (.iload_n 1, 1) := by decide +kernel
theorem dX1_freedWith_27 : decode cX1_freedWith 27 = .ok (.aload_n 0, 1) := by decide +kernel
theorem dX1_freedWith_28 : decode cX1_freedWith 28 = .ok (.getfield 44, 3) := by decide +kernel
theorem dX1_freedWith_31 : decode cX1_freedWith 31 = .ok (.invokevirtual 223, 3) := by decide +kernel
theorem dX1_freedWith_34 : decode cX1_freedWith 34 = .ok (.ireturn, 1) := by decide +kernel
theorem dX1_release_0 : decode cX1_release 0 = .ok (.iconst 0, 1) := by decide +kernel
theorem dX1_release_1 : decode cX1_release 1 = .ok (.istore_n 3, 1) := by decide +kernel
theorem dX1_release_2 : decode cX1_release 2 = .ok (.aload_n 2, 1) := by decide +kernel
theorem dX1_release_3 : decode cX1_release 3 = .ok (.iload_n 1, 1) := by decide +kernel
theorem dX1_release_4 : decode cX1_release 4 = .ok (.dup2, 1) := by decide +kernel
theorem dX1_release_5 : decode cX1_release 5 = .ok (.iaload, 1) := by decide +kernel
theorem dX1_release_6 : decode cX1_release 6 = .ok (.iconst 1, 1) := by decide +kernel
theorem dX1_release_7 : decode cX1_release 7 = .ok (.isub, 1) := by decide +kernel
theorem dX1_release_8 : decode cX1_release 8 = .ok (.iastore, 1) := by decide +kernel
theorem dX1_release_9 : decode cX1_release 9 = .ok (.aload_n 2, 1) := by decide +kernel
theorem dX1_release_10 : decode cX1_release 10 = .ok (.iload_n 1, 1) := by decide +kernel
theorem dX1_release_11 : decode cX1_release 11 = .ok (.iaload, 1) := by decide +kernel
theorem dX1_release_12 : decode cX1_release 12 = .ok (.ifCond .ne 13, 3) := by decide +kernel
theorem dX1_release_15 : decode cX1_release 15 = .ok (.aload_n 0, 1) := by decide +kernel
theorem dX1_release_16 : decode cX1_release 16 = .ok (.getfield 37, 3) := by decide +kernel
theorem dX1_release_19 : decode cX1_release 19 = .ok (.iload_n 3, 1) := by decide +kernel
theorem dX1_release_20 : decode cX1_release 20 = .ok (.iload_n 1, 1) := by decide +kernel
theorem dX1_release_21 : decode cX1_release 21 = .ok (.iastore, 1) := by decide +kernel
theorem dX1_release_22 : decode cX1_release 22 = .ok (.iinc 3 1, 3) := by decide +kernel
theorem dX1_release_25 : decode cX1_release 25 = .ok (.iconst 0, 1) := by decide +kernel
theorem dX1_release_26 : decode cX1_release 26 = .ok (.istore 4, 2) := by decide +kernel
theorem dX1_release_28 : decode cX1_release 28 = .ok (.iload 4, 2) := by decide +kernel
theorem dX1_release_30 : decode cX1_release 30 = .ok (.iload_n 3, 1) := by decide +kernel
theorem dX1_release_31 : decode cX1_release 31 = .ok (.if_icmp .ge 129, 3) := by decide +kernel
theorem dX1_release_34 : decode cX1_release 34 = .ok (.iload 4, 2) := by decide +kernel
theorem dX1_release_36 : decode cX1_release 36 = .ok (.bipush 48, 2) := by decide +kernel
theorem dX1_release_38 : decode cX1_release 38 = .ok (.if_icmp .ge 122, 3) := by decide +kernel
theorem dX1_release_41 : decode cX1_release 41 = .ok (.aload_n 0, 1) := by decide +kernel
theorem dX1_release_42 : decode cX1_release 42 = .ok (.getfield 12, 3) := by decide +kernel
theorem dX1_release_45 : decode cX1_release 45 = .ok (.getfield 150, 3) := by decide +kernel
theorem dX1_release_48 : decode cX1_release 48 = .ok (.aload_n 0, 1) := by decide +kernel
theorem dX1_release_49 : decode cX1_release 49 = .ok (.getfield 37, 3) := by decide +kernel
theorem dX1_release_52 : decode cX1_release 52 = .ok (.iload 4, 2) := by decide +kernel
theorem dX1_release_54 : decode cX1_release 54 = .ok (.iaload, 1) := by decide +kernel
theorem dX1_release_55 : decode cX1_release 55 = .ok (.iaload, 1) := by decide +kernel
theorem dX1_release_56 : decode cX1_release 56 = .ok (.ifCond .le 21, 3) := by decide +kernel
theorem dX1_release_59 : decode cX1_release 59 = .ok (.aload_n 0, 1) := by decide +kernel
theorem dX1_release_60 : decode cX1_release 60 = .ok (.getfield 12, 3) := by decide +kernel
theorem dX1_release_63 : decode cX1_release 63 = .ok (.getfield 155, 3) := by decide +kernel
theorem dX1_release_66 : decode cX1_release 66 = .ok (.aload_n 0, 1) := by decide +kernel
theorem dX1_release_67 : decode cX1_release 67 = .ok (.getfield 37, 3) := by decide +kernel
theorem dX1_release_70 : decode cX1_release 70 = .ok (.iload 4, 2) := by decide +kernel
theorem dX1_release_72 : decode cX1_release 72 = .ok (.iaload, 1) := by decide +kernel
theorem dX1_release_73 : decode cX1_release 73 = .ok (.iaload, 1) := by decide +kernel
theorem dX1_release_74 : decode cX1_release 74 = .ok (.goto 4, 3) := by decide +kernel
theorem dX1_release_77 : decode cX1_release 77 = .ok (.iconst 0, 1) := by decide +kernel
theorem dX1_release_78 : decode cX1_release 78 = .ok (.istore 5, 2) := by decide +kernel
theorem dX1_release_80 : decode cX1_release 80 = .ok (.iconst 0, 1) := by decide +kernel
theorem dX1_release_81 : decode cX1_release 81 = .ok (.istore 6, 2) := by decide +kernel
theorem dX1_release_83 : decode cX1_release 83 = .ok (.iload 6, 2) := by decide +kernel
theorem dX1_release_85 : decode cX1_release 85 = .ok (.iload 5, 2) := by decide +kernel
theorem dX1_release_87 : decode cX1_release 87 = .ok (.if_icmp .ge 67, 3) := by decide +kernel
theorem dX1_release_90 : decode cX1_release 90 = .ok (.aload_n 0, 1) := by decide +kernel
theorem dX1_release_91 : decode cX1_release 91 = .ok (.getfield 12, 3) := by decide +kernel
theorem dX1_release_94 : decode cX1_release 94 = .ok (.getfield 217, 3) := by decide +kernel
theorem dX1_release_97 : decode cX1_release 97 = .ok (.aload_n 0, 1) := by decide +kernel
theorem dX1_release_98 : decode cX1_release 98 = .ok (.getfield 12, 3) := by decide +kernel
theorem dX1_release_101 : decode cX1_release 101 = .ok (.aload_n 0, 1) := by decide +kernel
theorem dX1_release_102 : decode cX1_release 102 = .ok (.getfield 37, 3) := by decide +kernel
theorem dX1_release_105 : decode cX1_release 105 = .ok (.iload 4, 2) := by decide +kernel
theorem dX1_release_107 : decode cX1_release 107 = .ok (.iaload, 1) := by decide +kernel
theorem dX1_release_108 : decode cX1_release 108 = .ok (.iload 6, 2) := by decide +kernel
theorem dX1_release_110 : decode cX1_release 110 = .ok (.invokevirtual 220, 3) := by decide +kernel
theorem dX1_release_113 : decode cX1_release 113 = .ok (.iaload, 1) := by decide +kernel
theorem dX1_release_114 : decode cX1_release 114 = .ok (.istore 7, 2) := by decide +kernel
theorem dX1_release_116 : decode cX1_release 116 = .ok (.aload_n 2, 1) := by decide +kernel
theorem dX1_release_117 : decode cX1_release 117 = .ok (.iload 7, 2) := by decide +kernel
theorem dX1_release_119 : decode cX1_release 119 = .ok (.dup2, 1) := by decide +kernel
theorem dX1_release_120 : decode cX1_release 120 = .ok (.iaload, 1) := by decide +kernel
theorem dX1_release_121 : decode cX1_release 121 = .ok (.iconst 1, 1) := by decide +kernel
theorem dX1_release_122 : decode cX1_release 122 = .ok (.isub, 1) := by decide +kernel
theorem dX1_release_123 : decode cX1_release 123 = .ok (.iastore, 1) := by decide +kernel
theorem dX1_release_124 : decode cX1_release 124 = .ok (.aload_n 2, 1) := by decide +kernel
theorem dX1_release_125 : decode cX1_release 125 = .ok (.iload 7, 2) := by decide +kernel
theorem dX1_release_127 : decode cX1_release 127 = .ok (.iaload, 1) := by decide +kernel
theorem dX1_release_128 : decode cX1_release 128 = .ok (.ifCond .ne 20, 3) := by decide +kernel
theorem dX1_release_131 : decode cX1_release 131 = .ok (.iload_n 3, 1) := by decide +kernel
theorem dX1_release_132 : decode cX1_release 132 = .ok (.bipush 48, 2) := by decide +kernel
theorem dX1_release_134 : decode cX1_release 134 = .ok (.if_icmp .ge 14, 3) := by decide +kernel
theorem dX1_release_137 : decode cX1_release 137 = .ok (.aload_n 0, 1) := by decide +kernel
theorem dX1_release_138 : decode cX1_release 138 = .ok (.getfield 37, 3) := by decide +kernel
theorem dX1_release_141 : decode cX1_release 141 = .ok (.iload_n 3, 1) := by decide +kernel
theorem dX1_release_142 : decode cX1_release 142 = .ok (.iload 7, 2) := by decide +kernel
theorem dX1_release_144 : decode cX1_release 144 = .ok (.iastore, 1) := by decide +kernel
theorem dX1_release_145 : decode cX1_release 145 = .ok (.iinc 3 1, 3) := by decide +kernel
theorem dX1_release_148 : decode cX1_release 148 = .ok (.iinc 6 1, 3) := by decide +kernel
theorem dX1_release_151 : decode cX1_release 151 = .ok (.goto (-68), 3) := by decide +kernel
theorem dX1_release_154 : decode cX1_release 154 = .ok (.iinc 4 1, 3) := by decide +kernel
theorem dX1_release_157 : decode cX1_release 157 = .ok (.goto (-129), 3) := by decide +kernel
theorem dX1_release_160 : decode cX1_release 160 = .ok (.iload_n 3, 1) := by decide +kernel
theorem dX1_release_161 : decode cX1_release 161 = .ok (.ireturn, 1) := by decide +kernel
theorem dX8_inUse_0 : decode cX8_inUse 0 = .ok (.aload_n 0, 1) := by decide +kernel
theorem dX8_inUse_1 : decode cX8_inUse 1 = .ok (.iload_n 1, 1) := by decide +kernel
theorem dX8_inUse_2 : decode cX8_inUse 2 = .ok (.invokevirtual 57, 3) := by decide +kernel
theorem dX8_inUse_5 : decode cX8_inUse 5 = .ok (.ifCond .eq 16, 3) := by decide +kernel
theorem dX8_inUse_8 : decode cX8_inUse 8 = .ok (.aload_n 0, 1) := by decide +kernel
theorem dX8_inUse_9 : decode cX8_inUse 9 = .ok (.getfield 9, 3) := by decide +kernel
theorem dX8_inUse_12 : decode cX8_inUse 12 = .ok (.iload_n 1, 1) := by decide +kernel
theorem dX8_inUse_13 : decode cX8_inUse 13 = .ok (.iaload, 1) := by decide +kernel
theorem dX8_inUse_14 : decode cX8_inUse 14 = .ok (.ifCond .le 7, 3) := by decide +kernel
theorem dX8_inUse_17 : decode cX8_inUse 17 = .ok (.iconst 1, 1) := by decide +kernel
theorem dX8_inUse_18 : decode cX8_inUse 18 = .ok (.goto 4, 3) := by decide +kernel
theorem dX8_inUse_21 : decode cX8_inUse 21 = .ok (.iconst 0, 1) := by decide +kernel
theorem dX8_inUse_22 : decode cX8_inUse 22 = .ok (.ireturn, 1) := by decide +kernel
theorem dX8_isFresh_0 : decode cX8_isFresh 0 = .ok (.aload_n 0, 1) := by decide +kernel
theorem dX8_isFresh_1 : decode cX8_isFresh 1 = .ok (.iload_n 1, 1) := by decide +kernel
theorem dX8_isFresh_2 : decode cX8_isFresh 2 = .ok (.invokevirtual 57, 3) := by decide +kernel
theorem dX8_isFresh_5 : decode cX8_isFresh 5 = .ok (.ifCond .eq 25, 3) := by decide +kernel
theorem dX8_isFresh_8 : decode cX8_isFresh 8 = .ok (.aload_n 0, 1) := by decide +kernel
theorem dX8_isFresh_9 : decode cX8_isFresh 9 = .ok (.getfield 9, 3) := by decide +kernel
theorem dX8_isFresh_12 : decode cX8_isFresh 12 = .ok (.iload_n 1, 1) := by decide +kernel
theorem dX8_isFresh_13 : decode cX8_isFresh 13 = .ok (.iaload, 1) := by decide +kernel
theorem dX8_isFresh_14 : decode cX8_isFresh 14 = .ok (.ifCond .le 16, 3) := by decide +kernel
theorem dX8_isFresh_17 : decode cX8_isFresh 17 = .ok (.aload_n 0, 1) := by decide +kernel
theorem dX8_isFresh_18 : decode cX8_isFresh 18 = .ok (.getfield 15, 3) := by decide +kernel
theorem dX8_isFresh_21 : decode cX8_isFresh 21 = .ok (.iload_n 1, 1) := by decide +kernel
theorem dX8_isFresh_22 : decode cX8_isFresh 22 = .ok (.iaload, 1) := by decide +kernel
theorem dX8_isFresh_23 : decode cX8_isFresh 23 = .ok (.ifCond .ne 7, 3) := by decide +kernel
theorem dX8_isFresh_26 : decode cX8_isFresh 26 = .ok (.iconst 1, 1) := by decide +kernel
theorem dX8_isFresh_27 : decode cX8_isFresh 27 = .ok (.goto 4, 3) := by decide +kernel
theorem dX8_isFresh_30 : decode cX8_isFresh 30 = .ok (.iconst 0, 1) := by decide +kernel
theorem dX8_isFresh_31 : decode cX8_isFresh 31 = .ok (.ireturn, 1) := by decide +kernel
theorem dX8_levelOf_0 : decode cX8_levelOf 0 = .ok (.aload_n 0, 1) := by decide +kernel
theorem dX8_levelOf_1 : decode cX8_levelOf 1 = .ok (.iload_n 1, 1) := by decide +kernel
theorem dX8_levelOf_2 : decode cX8_levelOf 2 = .ok (.invokevirtual 61, 3) := by decide +kernel
theorem dX8_levelOf_5 : decode cX8_levelOf 5 = .ok (.ifCond .ne 11, 3) := by decide +kernel
theorem dX8_levelOf_8 : decode cX8_levelOf 8 = .ok (.aload_n 0, 1) := by decide +kernel
theorem dX8_levelOf_9 : decode cX8_levelOf 9 = .ok (.iload_n 1, 1) := by decide +kernel
theorem dX8_levelOf_10 : decode cX8_levelOf 10 = .ok (.invokevirtual 64, 3) := by decide +kernel
theorem dX8_levelOf_13 : decode cX8_levelOf 13 = .ok (.ifCond .eq 12, 3) := by decide +kernel
theorem dX8_levelOf_16 : decode cX8_levelOf 16 = .ok (.aload_n 0, 1) := by decide +kernel
theorem dX8_levelOf_17 : decode cX8_levelOf 17 = .ok (.getfield 18, 3) := by decide +kernel
theorem dX8_levelOf_20 : decode cX8_levelOf 20 = .ok (.iload_n 1, 1) := by decide +kernel
theorem dX8_levelOf_21 : decode cX8_levelOf 21 = .ok (.iaload, 1) := by decide +kernel
theorem dX8_levelOf_22 : decode cX8_levelOf 22 = .ok (.goto 4, 3) := by decide +kernel
theorem dX8_levelOf_25 : decode cX8_levelOf 25 = .ok (.iconst 0, 1) := by decide +kernel
theorem dX8_levelOf_26 : decode cX8_levelOf 26 = .ok (.ireturn, 1) := by decide +kernel
theorem dX8_sizeOf_0 : decode cX8_sizeOf 0 = .ok (.aload_n 0, 1) := by decide +kernel
theorem dX8_sizeOf_1 : decode cX8_sizeOf 1 = .ok (.iload_n 1, 1) := by decide +kernel
theorem dX8_sizeOf_2 : decode cX8_sizeOf 2 = .ok (.invokevirtual 61, 3) := by decide +kernel
theorem dX8_sizeOf_5 : decode cX8_sizeOf 5 = .ok (.ifCond .ne 11, 3) := by decide +kernel
theorem dX8_sizeOf_8 : decode cX8_sizeOf 8 = .ok (.aload_n 0, 1) := by decide +kernel
theorem dX8_sizeOf_9 : decode cX8_sizeOf 9 = .ok (.iload_n 1, 1) := by decide +kernel
theorem dX8_sizeOf_10 : decode cX8_sizeOf 10 = .ok (.invokevirtual 64, 3) := by decide +kernel
theorem dX8_sizeOf_13 : decode cX8_sizeOf 13 = .ok (.ifCond .eq 12, 3) := by decide +kernel
theorem dX8_sizeOf_16 : decode cX8_sizeOf 16 = .ok (.aload_n 0, 1) := by decide +kernel
theorem dX8_sizeOf_17 : decode cX8_sizeOf 17 = .ok (.getfield 21, 3) := by decide +kernel
theorem dX8_sizeOf_20 : decode cX8_sizeOf 20 = .ok (.iload_n 1, 1) := by decide +kernel
theorem dX8_sizeOf_21 : decode cX8_sizeOf 21 = .ok (.iaload, 1) := by decide +kernel
theorem dX8_sizeOf_22 : decode cX8_sizeOf 22 = .ok (.goto 4, 3) := by decide +kernel
theorem dX8_sizeOf_25 : decode cX8_sizeOf 25 = .ok (.iconst 0, 1) := by decide +kernel
theorem dX8_sizeOf_26 : decode cX8_sizeOf 26 = .ok (.ireturn, 1) := by decide +kernel
def m_x10_gather_J128 (lr12 : Int32 → Int32 → MS → Option (Int32 × MS)) (x4 : Int32) (x5 : Int32) (s6 : MS) : Option (Int32 × MS) :=
  lr12 x4 (x5 + 1) s6
def m_x10_gather_b57 (lr12 : Int32 → Int32 → MS → Option (Int32 × MS)) (lr57 : Int32 → Int32 → Int32 → Int32 → MS → Option (Int32 × MS)) (x7 : Int32) (x8 : Int32) (x9 : Int32) (x10 : Int32) (s11 : MS) : Option (Int32 × MS) :=
  if x9 ≤ x10 then m_x10_gather_J128 lr12 x7 x8 s11 else if 288 ≤ x7 then m_x10_gather_J128 lr12 x7 x8 s11 else rdI (gA s11 22) 48 x8 (fun y14 => bn (m_x8_slot y14 x10 s11) (fun r16 => rdI (gA s11 58) 288 r16 (fun y17 => inb 288 x7 (stn (sA s11 23 (upd (gA s11 23) (Int32.toNatClampNeg x7) y17)) (fun s19 => rdI (gA s19 22) 48 x8 (fun y20 => bn (m_x8_slot y20 x10 s19) (fun r22 => rdI (gA s19 59) 288 r22 (fun y23 => inb 288 x7 (stn (sA s19 24 (upd (gA s19 24) (Int32.toNatClampNeg x7) y23)) (fun s25 => lr57 (x7 + 1) x8 x9 (x10 + 1) s25))))))))))
def m_x10_gather_L57 (lr12 : Int32 → Int32 → MS → Option (Int32 × MS)) (n : Nat) : Int32 → Int32 → Int32 → Int32 → MS → Option (Int32 × MS) := lp (fun _ _ _ _ _ => none) (m_x10_gather_b57 lr12) n
def m_x10_gather_J52 (lr12 : Int32 → Int32 → MS → Option (Int32 × MS)) (x26 : Int32) (x27 : Int32) (x28 : Int32) (s29 : MS) : Option (Int32 × MS) :=
  m_x10_gather_L57 lr12 FU x26 x27 x28 0 s29
def m_x10_gather_b12 (lr12 : Int32 → Int32 → MS → Option (Int32 × MS)) (x1 : Int32) (x2 : Int32) (s3 : MS) : Option (Int32 × MS) :=
  if (gI s3 421) ≤ x2 then some (x1, s3) else rdI (gA s3 22) 48 x2 (fun y31 => rdI (gA s3 56) 48 y31 (fun y32 => if y32 = 0 then rdI (gA s3 22) 48 x2 (fun y34 => rdI (gA s3 57) 48 y34 (fun y35 => m_x10_gather_J52 lr12 x1 x2 y35 s3)) else m_x10_gather_J52 lr12 x1 x2 0 s3))
def m_x10_gather_L12 (n : Nat) : Int32 → Int32 → MS → Option (Int32 × MS) := lp (fun _ _ _ => none) (m_x10_gather_b12) n
def m_x10_gather (p1 : Int32) (s : MS) : Option (Int32 × MS) :=
  bn (m_x10_tree p1 s) (fun qrl38 => m_x10_gather_L12 FU 0 0 qrl38.2)
set_option maxHeartbeats 4000000 in
set_option maxRecDepth 100000 in
theorem k_x10_gather (l : Launch) (D : va_G) (a : Nat → Nat) (p1 : Int32) (sz : Nat) (s : MS) (o : (Int32 × MS)) (h : m_x10_gather p1 s = some o) : yWi l yX10_gather cX10_gather 7 (some .int) { frames := 2, cells := 0, slots := 0, locals := 120 } D sz [.ref (a 21), .ref (a 53), .int p1] (CS D a s) (CS D a o.2) o.1 := by
  refine Met.ofW (cc := cX10_gather) (maxL := 7) (ret := (some .int)) (by decide) rfl ?_
  intro p e s₀ m args below meth c s₁ B hml hv
  obtain ⟨rfl, ⟨hsz, hP, hK, hD0⟩, hN⟩ := hv
  have hx := B.exec
  have hb := B.bytes
  have hr := B.returns
  have hts := atoms_spec (ws := wz yX10_gather cX10_gather 7 (some .int)) B.pre
  have ht : ∀ w ∈ lw_gd, w.before _ s₀ = true := fun w h => hts w (List.mem_cons_of_mem _ h)
  have hown : s₀.vm.findClass RX10 = some m.cls := findClass_of_methodNamed B.named
  have hlocks := B.notSynchronized
  subst hsz
  have hD := hD0.self (sz := s₀.heap.size)
  generalize hAe : va_A (CS D a s) s₀.heap.size = A at hD ⊢
  have hA : ∀ q : Nat, s₀.heap.size ≤ q → A q := fun q h => by rw [← hAe]; exact Or.inr h
  have hS : va_S A s₀.heap s₀.heap [] := va_S.rf
  have hDD : ∀ t : MS, va_D A (CS D a t) := fun t => CW_D t hD
  have hl := lv_entry ([.ref (a 21), .ref (a 53), .int p1]) (n := 7) (Nat.le_of_ble_eq_true rfl)
  rw [lg_entry_eq]
  generalize (lg_sl ([.ref (a 21), .ref (a 53), .int p1]) ++ List.replicate (7 - (lg_sl ([.ref (a 21), .ref (a 53), .int p1])).length) Slot.unset).toArray = ls at hl ⊢
  have hl : lv_has ls 7 [(0, .ref (a 21)), (1, .ref (a 53)), (2, .int p1)] := hl
  unfold m_x10_gather at h
  refine y_loop (pcJ := 12) (σ := Int32 × Int32 × MS) (fun n u H locs ls => va_P D vwCl (CS D a u.2.2) H ∧ va_S A s₀.heap H locs ∧ lv_has ls 7 [(0, .ref (a 21)), (1, .ref (a 53)), (3, .int u.1), (4, .int u.2.1)] ∧ m_x10_gather_L12 n u.1 u.2.1 u.2.2 = some o) (fun u => []) (fun u H locs ls hI => by obtain ⟨_, _, _, h⟩ := hI; cases h) (fun n12 ih12 u H locs ls hI => ?_) (fun J12 => ?_)
  · obtain ⟨hP, hS, hl, h⟩ := hI
    obtain ⟨x1, x2, s3⟩ := u
    have hP : va_P D vwCl (CS D a s3) H := hP
    have hl : lv_has ls 7 [(0, .ref (a 21)), (1, .ref (a 53)), (3, .int x1), (4, .int x2)] := hl
    have h : m_x10_gather_b12 (m_x10_gather_L12 n12) x1 x2 s3 = some o := h
    unfold m_x10_gather_b12 at h
    refine y_head (pcJ := 128) (σ := Int32 × Int32 × MS) (fun u H locs ls => va_P D vwCl (CS D a u.2.2) H ∧ va_S A s₀.heap H locs ∧ lv_has ls 7 [(0, .ref (a 21)), (1, .ref (a 53)), (3, .int u.1), (4, .int u.2.1)] ∧ m_x10_gather_J128 (m_x10_gather_L12 n12) u.1 u.2.1 u.2.2 = some o) (fun u => []) (fun u H locs ls hI => ?_) (fun J128 => ?_)
    · obtain ⟨hP, hS, hl, h⟩ := hI
      obtain ⟨x4, x5, s6⟩ := u
      have hP : va_P D vwCl (CS D a s6) H := hP
      have hl : lv_has ls 7 [(0, .ref (a 21)), (1, .ref (a 53)), (3, .int x4), (4, .int x5)] := hl
      have h : m_x10_gather_J128 (m_x10_gather_L12 n12) x4 x5 s6 = some o := h
      unfold m_x10_gather_J128 at h
      refine lv_iinc (v := x5 + 1) (lv' := [(4, .int (x5 + 1)), (0, .ref (a 21)), (1, .ref (a 53)), (3, .int x4)]) hx hb dX10_gather_128 hl (k := 3) rfl rfl (by decide) rfl (fun ls hl => ?_)
      refine lv_goto (tgt := 12) hx hb dX10_gather_131 (by decide) ?_
      exact ih12 (x4, x5 + 1, s6) _ _ _ ⟨hP, hS, lv_sub hl [1, 2, 3, 0] rfl, h⟩
    refine y_loop (pcJ := 57) (σ := Int32 × Int32 × Int32 × Int32 × MS) (fun n u H locs ls => va_P D vwCl (CS D a u.2.2.2.2) H ∧ va_S A s₀.heap H locs ∧ lv_has ls 7 [(0, .ref (a 21)), (1, .ref (a 53)), (3, .int u.1), (4, .int u.2.1), (5, .int u.2.2.1), (6, .int u.2.2.2.1)] ∧ m_x10_gather_L57 (m_x10_gather_L12 n12) n u.1 u.2.1 u.2.2.1 u.2.2.2.1 u.2.2.2.2 = some o) (fun u => []) (fun u H locs ls hI => by obtain ⟨_, _, _, h⟩ := hI; cases h) (fun n57 ih57 u H locs ls hI => ?_) (fun J57 => ?_)
    · obtain ⟨hP, hS, hl, h⟩ := hI
      obtain ⟨x7, x8, x9, x10, s11⟩ := u
      have hP : va_P D vwCl (CS D a s11) H := hP
      have hl : lv_has ls 7 [(0, .ref (a 21)), (1, .ref (a 53)), (3, .int x7), (4, .int x8), (5, .int x9), (6, .int x10)] := hl
      have h : m_x10_gather_b57 (m_x10_gather_L12 n12) (m_x10_gather_L57 (m_x10_gather_L12 n12) n57) x7 x8 x9 x10 s11 = some o := h
      unfold m_x10_gather_b57 at h
      refine lv_iload hx hb dX10_gather_57 (lv_at hl 5 rfl) ?_
      refine lv_iload hx hb dX10_gather_59 (lv_at hl 4 rfl) ?_
      refine lv_icmp_ge (tgt := 128) hx hb dX10_gather_61 (by decide) (fun c12 => ?_) (fun c12 => ?_)
      · have h := if_t c12 h
        exact J128 (x7, x8, s11) _ _ _ ⟨hP, hS, lv_sub hl [0, 1, 2, 3] rfl, h⟩
      · have h := if_f c12 h
        refine lv_iload_n hx hb dX10_gather_64 rfl (lv_at hl 2 rfl) ?_
        refine lv_sipush (v := 288) hx hb dX10_gather_65 (by decide) ?_
        refine lv_icmp_ge (tgt := 128) hx hb dX10_gather_68 (by decide) (fun c13 => ?_) (fun c13 => ?_)
        · have h := if_t c13 h
          exact J128 (x7, x8, s11) _ _ _ ⟨hP, hS, lv_sub hl [0, 1, 2, 3] rfl, h⟩
        · have h := if_f c13 h
          refine lv_aload_n hx hb dX10_gather_71 rfl (lv_at hl 0 rfl) ?_
          refine va_get (D := D) (ci := 10) (v := .ref (a 23)) (C := RX10) (T := TX10) (N := 4) hx hb ht inX10 hown hK hP 21 CW_21 rfl 2 (by decide) (ht (.fieldLink RX10 15 "CloneVolumes$Walk" "keys" "[I") fl_X10_15) (fun _ h9 => h9) rfl dX10_gather_72 ?_
          refine lv_iload_n hx hb dX10_gather_75 rfl (lv_at hl 2 rfl) ?_
          refine lv_aload_n hx hb dX10_gather_76 rfl (lv_at hl 1 rfl) ?_
          refine va_get (D := D) (ci := 8) (v := .ref (a 58)) (C := RX8) (T := TX8) (N := 11) hx hb ht inX8 hown hK hP 53 CW_53 rfl 7 (by decide) (ht (.fieldLink RX10 42 "CloneVolumes$State" "keys" "[I") fl_X10_42) (fun _ h9 => h9) rfl dX10_gather_77 ?_
          refine lv_aload_n hx hb dX10_gather_80 rfl (lv_at hl 1 rfl) ?_
          refine lv_aload_n hx hb dX10_gather_81 rfl (lv_at hl 0 rfl) ?_
          refine va_get (D := D) (ci := 10) (v := .ref (a 22)) (C := RX10) (T := TX10) (N := 4) hx hb ht inX10 hown hK hP 21 CW_21 rfl 0 (by decide) (ht (.fieldLink RX10 9 "CloneVolumes$Walk" "row" "[I") fl_X10_9) (fun _ h9 => h9) rfl dX10_gather_82 ?_
          refine lv_iload hx hb dX10_gather_85 (lv_at hl 3 rfl) ?_
          obtain ⟨y14, ey14, iy14, h⟩ := rdI_e h
          refine ya_iald hx hb hK hP 22 0 CW_22 rfl ey14 iy14 dX10_gather_87 ?_
          refine lv_iload hx hb dX10_gather_88 (lv_at hl 5 rfl) ?_
          obtain ⟨r16, hc15, h⟩ := bn_e h
          refine ycV (As := [.int y14, .int x10]) (rest := [.ref (a 58), .int x7, .ref (a 23)]) (C := RX8) (n := 2) ⟨hx, hb, hml, hown, ht⟩ (k_x8_slot l D a y14 x10 _ _ hc15) (zgV ml_X10_34 im_X8_slot se_X8_slot in_X8 co_X8_slot) rfl rfl (by decide +kernel) ⟨Nat.le_of_ble_eq_true rfl, Nat.le_of_ble_eq_true rfl⟩ hN hK hP hS 53 CW_53 rfl rfl rfl hl.1 rfl (Nat.le_of_ble_eq_true rfl) dX10_gather_90 ⟨Nat.le_of_ble_eq_true rfl, Nat.le_of_ble_eq_true rfl⟩ (fun H locs hP hS => ?_)
          obtain ⟨y17, ey17, iy17, h⟩ := rdI_e h
          refine ya_iald hx hb hK hP 58 0 CW_58 rfl ey17 iy17 dX10_gather_93 ?_
          obtain ⟨hi18, h⟩ := inb_e h
          refine ya_iast hx hb hK hP (hDD _) hS 23 0 CW_23 rfl hi18 dX10_gather_94 (CW_w23 _) (fun H locs hP hS => ?_)
          obtain ⟨s19, hs19, h⟩ := st_e h
          rw [hs19] at hP
          refine lv_aload_n hx hb dX10_gather_95 rfl (lv_at hl 0 rfl) ?_
          refine va_get (D := D) (ci := 10) (v := .ref (a 24)) (C := RX10) (T := TX10) (N := 4) hx hb ht inX10 hown hK hP 21 CW_21 rfl 3 (by decide) (ht (.fieldLink RX10 18 "CloneVolumes$Walk" "values" "[I") fl_X10_18) (fun _ h9 => h9) rfl dX10_gather_96 ?_
          refine lv_iload_n hx hb dX10_gather_99 rfl (lv_at hl 2 rfl) ?_
          refine lv_aload_n hx hb dX10_gather_100 rfl (lv_at hl 1 rfl) ?_
          refine va_get (D := D) (ci := 8) (v := .ref (a 59)) (C := RX8) (T := TX8) (N := 11) hx hb ht inX8 hown hK hP 53 CW_53 rfl 8 (by decide) (ht (.fieldLink RX10 33 "CloneVolumes$State" "values" "[I") fl_X10_33) (fun _ h9 => h9) rfl dX10_gather_101 ?_
          refine lv_aload_n hx hb dX10_gather_104 rfl (lv_at hl 1 rfl) ?_
          refine lv_aload_n hx hb dX10_gather_105 rfl (lv_at hl 0 rfl) ?_
          refine va_get (D := D) (ci := 10) (v := .ref (a 22)) (C := RX10) (T := TX10) (N := 4) hx hb ht inX10 hown hK hP 21 CW_21 rfl 0 (by decide) (ht (.fieldLink RX10 9 "CloneVolumes$Walk" "row" "[I") fl_X10_9) (fun _ h9 => h9) rfl dX10_gather_106 ?_
          refine lv_iload hx hb dX10_gather_109 (lv_at hl 3 rfl) ?_
          obtain ⟨y20, ey20, iy20, h⟩ := rdI_e h
          refine ya_iald hx hb hK hP 22 0 CW_22 rfl ey20 iy20 dX10_gather_111 ?_
          refine lv_iload hx hb dX10_gather_112 (lv_at hl 5 rfl) ?_
          obtain ⟨r22, hc21, h⟩ := bn_e h
          refine ycV (As := [.int y20, .int x10]) (rest := [.ref (a 59), .int x7, .ref (a 24)]) (C := RX8) (n := 2) ⟨hx, hb, hml, hown, ht⟩ (k_x8_slot l D a y20 x10 _ _ hc21) (zgV ml_X10_34 im_X8_slot se_X8_slot in_X8 co_X8_slot) rfl rfl (by decide +kernel) ⟨Nat.le_of_ble_eq_true rfl, Nat.le_of_ble_eq_true rfl⟩ hN hK hP hS 53 CW_53 rfl rfl rfl hl.1 rfl (Nat.le_of_ble_eq_true rfl) dX10_gather_114 ⟨Nat.le_of_ble_eq_true rfl, Nat.le_of_ble_eq_true rfl⟩ (fun H locs hP hS => ?_)
          obtain ⟨y23, ey23, iy23, h⟩ := rdI_e h
          refine ya_iald hx hb hK hP 59 0 CW_59 rfl ey23 iy23 dX10_gather_117 ?_
          obtain ⟨hi24, h⟩ := inb_e h
          refine ya_iast hx hb hK hP (hDD _) hS 24 0 CW_24 rfl hi24 dX10_gather_118 (CW_w24 _) (fun H locs hP hS => ?_)
          obtain ⟨s25, hs25, h⟩ := st_e h
          rw [hs25] at hP
          refine lv_iinc (v := x7 + 1) (lv' := [(3, .int (x7 + 1)), (0, .ref (a 21)), (1, .ref (a 53)), (4, .int x8), (5, .int x9), (6, .int x10)]) hx hb dX10_gather_119 hl (k := 2) rfl rfl (by decide) rfl (fun ls hl => ?_)
          refine lv_iinc (v := x10 + 1) (lv' := [(6, .int (x10 + 1)), (3, .int (x7 + 1)), (0, .ref (a 21)), (1, .ref (a 53)), (4, .int x8), (5, .int x9)]) hx hb dX10_gather_122 hl (k := 5) rfl rfl (by decide) rfl (fun ls hl => ?_)
          refine lv_goto (tgt := 57) hx hb dX10_gather_125 (by decide) ?_
          exact ih57 (x7 + 1, x8, x9, x10 + 1, s25) _ _ _ ⟨hP, hS, lv_sub hl [2, 3, 1, 4, 5, 0] rfl, h⟩
    refine y_head (pcJ := 52) (σ := Int32 × Int32 × Int32 × MS) (fun u H locs ls => va_P D vwCl (CS D a u.2.2.2) H ∧ va_S A s₀.heap H locs ∧ lv_has ls 7 [(0, .ref (a 21)), (1, .ref (a 53)), (3, .int u.1), (4, .int u.2.1)] ∧ m_x10_gather_J52 (m_x10_gather_L12 n12) u.1 u.2.1 u.2.2.1 u.2.2.2 = some o) (fun u => [.int u.2.2.1]) (fun u H locs ls hI => ?_) (fun J52 => ?_)
    · obtain ⟨hP, hS, hl, h⟩ := hI
      obtain ⟨x26, x27, x28, s29⟩ := u
      have hP : va_P D vwCl (CS D a s29) H := hP
      have hl : lv_has ls 7 [(0, .ref (a 21)), (1, .ref (a 53)), (3, .int x26), (4, .int x27)] := hl
      have h : m_x10_gather_J52 (m_x10_gather_L12 n12) x26 x27 x28 s29 = some o := h
      unfold m_x10_gather_J52 at h
      refine lv_istore (lv' := [(5, .int x28), (0, .ref (a 21)), (1, .ref (a 53)), (3, .int x26), (4, .int x27)]) hx hb dX10_gather_52 hl (by decide) rfl (fun ls hl => ?_)
      refine lv_iconst (v := 0) hx hb dX10_gather_54 (by decide) ?_
      refine lv_istore (lv' := [(6, .int 0), (5, .int x28), (0, .ref (a 21)), (1, .ref (a 53)), (3, .int x26), (4, .int x27)]) hx hb dX10_gather_55 hl (by decide) rfl (fun ls hl => ?_)
      exact J57 FU (x26, x27, x28, 0, s29) _ _ _ ⟨hP, hS, lv_sub hl [2, 3, 4, 5, 1, 0] rfl, h⟩
    refine lv_iload hx hb dX10_gather_12 (lv_at hl 3 rfl) ?_
    refine lv_aload_n hx hb dX10_gather_14 rfl (lv_at hl 0 rfl) ?_
    refine va_get (D := D) (ci := 10) (v := .int (gI s3 421)) (C := RX10) (T := TX10) (N := 4) hx hb ht inX10 hown hK hP 21 CW_21 rfl 1 (by decide) (ht (.fieldLink RX10 21 "CloneVolumes$Walk" "length" "I") fl_X10_21) (fun _ h9 => h9) rfl dX10_gather_15 ?_
    refine lv_icmp_ge (tgt := 134) hx hb dX10_gather_18 (by decide) (fun c30 => ?_) (fun c30 => ?_)
    · have h := if_t c30 h
      refine lv_iload_n hx hb dX10_gather_134 rfl (lv_at hl 2 rfl) ?_
      obtain rfl := Option.some.inj h
      exact W.iret (v := x1) hx hb hr (fun t ht hW => ⟨⟨_, (), rfl, rfl, by rw [ht]; exact hP, va_K.moved hW.alike hK, hDD _⟩, hS.F ht⟩) hS.2.2 dX10_gather_135
    · have h := if_f c30 h
      refine lv_aload_n hx hb dX10_gather_21 rfl (lv_at hl 1 rfl) ?_
      refine va_get (D := D) (ci := 8) (v := .ref (a 56)) (C := RX8) (T := TX8) (N := 11) hx hb ht inX8 hown hK hP 53 CW_53 rfl 5 (by decide) (ht (.fieldLink RX10 25 "CloneVolumes$State" "level" "[I") fl_X10_25) (fun _ h9 => h9) rfl dX10_gather_22 ?_
      refine lv_aload_n hx hb dX10_gather_25 rfl (lv_at hl 0 rfl) ?_
      refine va_get (D := D) (ci := 10) (v := .ref (a 22)) (C := RX10) (T := TX10) (N := 4) hx hb ht inX10 hown hK hP 21 CW_21 rfl 0 (by decide) (ht (.fieldLink RX10 9 "CloneVolumes$Walk" "row" "[I") fl_X10_9) (fun _ h9 => h9) rfl dX10_gather_26 ?_
      refine lv_iload hx hb dX10_gather_29 (lv_at hl 3 rfl) ?_
      obtain ⟨y31, ey31, iy31, h⟩ := rdI_e h
      refine ya_iald hx hb hK hP 22 0 CW_22 rfl ey31 iy31 dX10_gather_31 ?_
      obtain ⟨y32, ey32, iy32, h⟩ := rdI_e h
      refine ya_iald hx hb hK hP 56 0 CW_56 rfl ey32 iy32 dX10_gather_32 ?_
      refine lv_if_ne (tgt := 51) hx hb dX10_gather_33 (by decide) (fun c33 => ?_) (fun c33 => ?_)
      · have h := if_f c33 h
        refine lv_iconst (v := 0) hx hb dX10_gather_51 (by decide) ?_
        exact J52 (x1, x2, 0, s3) _ _ _ ⟨hP, hS, lv_sub hl [0, 1, 2, 3] rfl, h⟩
      · have h := if_t c33 h
        refine lv_aload_n hx hb dX10_gather_36 rfl (lv_at hl 1 rfl) ?_
        refine va_get (D := D) (ci := 8) (v := .ref (a 57)) (C := RX8) (T := TX8) (N := 11) hx hb ht inX8 hown hK hP 53 CW_53 rfl 6 (by decide) (ht (.fieldLink RX10 30 "CloneVolumes$State" "size" "[I") fl_X10_30) (fun _ h9 => h9) rfl dX10_gather_37 ?_
        refine lv_aload_n hx hb dX10_gather_40 rfl (lv_at hl 0 rfl) ?_
        refine va_get (D := D) (ci := 10) (v := .ref (a 22)) (C := RX10) (T := TX10) (N := 4) hx hb ht inX10 hown hK hP 21 CW_21 rfl 0 (by decide) (ht (.fieldLink RX10 9 "CloneVolumes$Walk" "row" "[I") fl_X10_9) (fun _ h9 => h9) rfl dX10_gather_41 ?_
        refine lv_iload hx hb dX10_gather_44 (lv_at hl 3 rfl) ?_
        obtain ⟨y34, ey34, iy34, h⟩ := rdI_e h
        refine ya_iald hx hb hK hP 22 0 CW_22 rfl ey34 iy34 dX10_gather_46 ?_
        obtain ⟨y35, ey35, iy35, h⟩ := rdI_e h
        refine ya_iald hx hb hK hP 57 0 CW_57 rfl ey35 iy35 dX10_gather_47 ?_
        refine lv_goto (tgt := 52) hx hb dX10_gather_48 (by decide) ?_
        exact J52 (x1, x2, y35, s3) _ _ _ ⟨hP, hS, lv_sub hl [0, 1, 2, 3] rfl, h⟩
  refine lv_aload_n hx hb dX10_gather_0 rfl (lv_at hl 0 rfl) ?_
  refine lv_aload_n hx hb dX10_gather_1 rfl (lv_at hl 1 rfl) ?_
  refine lv_iload_n hx hb dX10_gather_2 rfl (lv_at hl 2 rfl) ?_
  obtain ⟨⟨rl38, s37⟩, hc36, h⟩ := bn_e h
  refine ywVl (r0 := rl38) (As := [.ref (a 53), .int p1]) (rest := []) (C := RX10) (n := 2) (ws' := CS D a s37) ⟨hx, hb, hml, hown, ht⟩ (k_x10_tree l D a p1 _ _ _ hc36) (zgV ml_X10_38 im_X10_tree se_X10_tree in_X10 co_X10_tree) rfl rfl (by decide +kernel) ⟨Nat.le_of_ble_eq_true rfl, Nat.le_of_ble_eq_true rfl⟩ hN hK hP (hDD _) hS hA 21 CW_21 rfl rfl rfl hl.1 rfl (Nat.le_of_ble_eq_true rfl) dX10_gather_3 ⟨Nat.le_of_ble_eq_true rfl, Nat.le_of_ble_eq_true rfl⟩ (fun H locs hP hS => ?_)
  refine lv_pop2_2 hx hb dX10_gather_6 rfl ?_
  refine lv_iconst (v := 0) hx hb dX10_gather_7 (by decide) ?_
  refine lv_istore_n (lv' := [(3, .int 0), (0, .ref (a 21)), (1, .ref (a 53)), (2, .int p1)]) hx hb dX10_gather_8 rfl hl (by decide) rfl (fun ls hl => ?_)
  refine lv_iconst (v := 0) hx hb dX10_gather_9 (by decide) ?_
  refine lv_istore (lv' := [(4, .int 0), (3, .int 0), (0, .ref (a 21)), (1, .ref (a 53)), (2, .int p1)]) hx hb dX10_gather_10 hl (by decide) rfl (fun ls hl => ?_)
  exact J12 FU (0, 0, s37) _ _ _ ⟨hP, hS, lv_sub hl [2, 3, 1, 0] rfl, h⟩
def m_j13_bitCount_95d88 (p0 : Int64) (s : MS) : Option Int32 :=
  some ((Int64.toInt32 ((((((((p0 - ((ushrL p0 1) &&& 6148914691236517205)) &&& 3689348814741910323) + ((ushrL (p0 - ((ushrL p0 1) &&& 6148914691236517205)) 2) &&& 3689348814741910323)) + (ushrL (((p0 - ((ushrL p0 1) &&& 6148914691236517205)) &&& 3689348814741910323) + ((ushrL (p0 - ((ushrL p0 1) &&& 6148914691236517205)) 2) &&& 3689348814741910323)) 4)) &&& 1085102592571150095) + (ushrL (((((p0 - ((ushrL p0 1) &&& 6148914691236517205)) &&& 3689348814741910323) + ((ushrL (p0 - ((ushrL p0 1) &&& 6148914691236517205)) 2) &&& 3689348814741910323)) + (ushrL (((p0 - ((ushrL p0 1) &&& 6148914691236517205)) &&& 3689348814741910323) + ((ushrL (p0 - ((ushrL p0 1) &&& 6148914691236517205)) 2) &&& 3689348814741910323)) 4)) &&& 1085102592571150095) 8)) + (ushrL ((((((p0 - ((ushrL p0 1) &&& 6148914691236517205)) &&& 3689348814741910323) + ((ushrL (p0 - ((ushrL p0 1) &&& 6148914691236517205)) 2) &&& 3689348814741910323)) + (ushrL (((p0 - ((ushrL p0 1) &&& 6148914691236517205)) &&& 3689348814741910323) + ((ushrL (p0 - ((ushrL p0 1) &&& 6148914691236517205)) 2) &&& 3689348814741910323)) 4)) &&& 1085102592571150095) + (ushrL (((((p0 - ((ushrL p0 1) &&& 6148914691236517205)) &&& 3689348814741910323) + ((ushrL (p0 - ((ushrL p0 1) &&& 6148914691236517205)) 2) &&& 3689348814741910323)) + (ushrL (((p0 - ((ushrL p0 1) &&& 6148914691236517205)) &&& 3689348814741910323) + ((ushrL (p0 - ((ushrL p0 1) &&& 6148914691236517205)) 2) &&& 3689348814741910323)) 4)) &&& 1085102592571150095) 8)) 16)) + (ushrL (((((((p0 - ((ushrL p0 1) &&& 6148914691236517205)) &&& 3689348814741910323) + ((ushrL (p0 - ((ushrL p0 1) &&& 6148914691236517205)) 2) &&& 3689348814741910323)) + (ushrL (((p0 - ((ushrL p0 1) &&& 6148914691236517205)) &&& 3689348814741910323) + ((ushrL (p0 - ((ushrL p0 1) &&& 6148914691236517205)) 2) &&& 3689348814741910323)) 4)) &&& 1085102592571150095) + (ushrL (((((p0 - ((ushrL p0 1) &&& 6148914691236517205)) &&& 3689348814741910323) + ((ushrL (p0 - ((ushrL p0 1) &&& 6148914691236517205)) 2) &&& 3689348814741910323)) + (ushrL (((p0 - ((ushrL p0 1) &&& 6148914691236517205)) &&& 3689348814741910323) + ((ushrL (p0 - ((ushrL p0 1) &&& 6148914691236517205)) 2) &&& 3689348814741910323)) 4)) &&& 1085102592571150095) 8)) + (ushrL ((((((p0 - ((ushrL p0 1) &&& 6148914691236517205)) &&& 3689348814741910323) + ((ushrL (p0 - ((ushrL p0 1) &&& 6148914691236517205)) 2) &&& 3689348814741910323)) + (ushrL (((p0 - ((ushrL p0 1) &&& 6148914691236517205)) &&& 3689348814741910323) + ((ushrL (p0 - ((ushrL p0 1) &&& 6148914691236517205)) 2) &&& 3689348814741910323)) 4)) &&& 1085102592571150095) + (ushrL (((((p0 - ((ushrL p0 1) &&& 6148914691236517205)) &&& 3689348814741910323) + ((ushrL (p0 - ((ushrL p0 1) &&& 6148914691236517205)) 2) &&& 3689348814741910323)) + (ushrL (((p0 - ((ushrL p0 1) &&& 6148914691236517205)) &&& 3689348814741910323) + ((ushrL (p0 - ((ushrL p0 1) &&& 6148914691236517205)) 2) &&& 3689348814741910323)) 4)) &&& 1085102592571150095) 8)) 16)) 32))) &&& 127)
set_option maxHeartbeats 4000000 in
set_option maxRecDepth 100000 in
theorem k_j13_bitCount_95d88 (l : Launch) (D : va_G) (a : Nat → Nat) (p0 : Int64) (s : MS) (o : Int32) (h : m_j13_bitCount_95d88 p0 s = some o) : yRi l yJ13_bitCount_95d88 cJ13_bitCount_95d88 2 (some .int) { frames := 0, cells := 0, slots := 0, locals := 0 } D [.long p0] (CS D a s) o := by
  refine Met.ofW (cc := cJ13_bitCount_95d88) (maxL := 2) (ret := (some .int)) (by decide) rfl ?_
  intro p e s₀ m args below meth c s₁ B hml hv
  obtain ⟨rfl, ⟨hP, hK⟩, hN⟩ := hv
  have hx := B.exec
  have hb := B.bytes
  have hr := B.returns
  have hts := atoms_spec (ws := wz yJ13_bitCount_95d88 cJ13_bitCount_95d88 2 (some .int)) B.pre
  have ht : ∀ w ∈ lw_gd, w.before _ s₀ = true := fun w h => hts w (List.mem_cons_of_mem _ h)
  have hown : s₀.vm.findClass RJ13 = some m.cls := findClass_of_methodNamed B.named
  have hlocks := B.notSynchronized
  have hS : va_S (fun _ => False) s₀.heap s₀.heap [] := va_S.rf
  have hl := lv_entry ([.long p0]) (n := 2) (Nat.le_of_ble_eq_true rfl)
  rw [lg_entry_eq]
  generalize (lg_sl ([.long p0]) ++ List.replicate (2 - (lg_sl ([.long p0])).length) Slot.unset).toArray = ls at hl ⊢
  have hl : lv_has ls 2 [(0, .long p0)] := hl
  unfold m_j13_bitCount_95d88 at h
  refine lv_lload_n hx hb dJ13_bitCount_95d88_0 rfl (lv_at hl 0 rfl) ?_
  refine lv_lload_n hx hb dJ13_bitCount_95d88_1 rfl (lv_at hl 0 rfl) ?_
  refine lv_iconst (v := 1) hx hb dJ13_bitCount_95d88_2 (by decide) ?_
  refine lv_lushr (v := ushrL p0 1) hx hb dJ13_bitCount_95d88_3 rfl ?_
  refine lv_ldc2 (own := RJ13) (v := 6148914691236517205) hx hb hown (ht _ cl_J13_314) dJ13_bitCount_95d88_4 ?_
  refine lv_land hx hb dJ13_bitCount_95d88_7 ?_
  refine lv_lsub hx hb dJ13_bitCount_95d88_8 ?_
  refine lv_lstore_n (lv' := [(0, .long (p0 - ((ushrL p0 1) &&& 6148914691236517205)))]) hx hb dJ13_bitCount_95d88_9 rfl hl (by decide) rfl (fun ls hl => ?_)
  refine lv_lload_n hx hb dJ13_bitCount_95d88_10 rfl (lv_at hl 0 rfl) ?_
  refine lv_ldc2 (own := RJ13) (v := 3689348814741910323) hx hb hown (ht _ cl_J13_316) dJ13_bitCount_95d88_11 ?_
  refine lv_land hx hb dJ13_bitCount_95d88_14 ?_
  refine lv_lload_n hx hb dJ13_bitCount_95d88_15 rfl (lv_at hl 0 rfl) ?_
  refine lv_iconst (v := 2) hx hb dJ13_bitCount_95d88_16 (by decide) ?_
  refine lv_lushr (v := ushrL (p0 - ((ushrL p0 1) &&& 6148914691236517205)) 2) hx hb dJ13_bitCount_95d88_17 rfl ?_
  refine lv_ldc2 (own := RJ13) (v := 3689348814741910323) hx hb hown (ht _ cl_J13_316) dJ13_bitCount_95d88_18 ?_
  refine lv_land hx hb dJ13_bitCount_95d88_21 ?_
  refine lv_ladd hx hb dJ13_bitCount_95d88_22 ?_
  refine lv_lstore_n (lv' := [(0, .long (((p0 - ((ushrL p0 1) &&& 6148914691236517205)) &&& 3689348814741910323) + ((ushrL (p0 - ((ushrL p0 1) &&& 6148914691236517205)) 2) &&& 3689348814741910323)))]) hx hb dJ13_bitCount_95d88_23 rfl hl (by decide) rfl (fun ls hl => ?_)
  refine lv_lload_n hx hb dJ13_bitCount_95d88_24 rfl (lv_at hl 0 rfl) ?_
  refine lv_lload_n hx hb dJ13_bitCount_95d88_25 rfl (lv_at hl 0 rfl) ?_
  refine lv_iconst (v := 4) hx hb dJ13_bitCount_95d88_26 (by decide) ?_
  refine lv_lushr (v := ushrL (((p0 - ((ushrL p0 1) &&& 6148914691236517205)) &&& 3689348814741910323) + ((ushrL (p0 - ((ushrL p0 1) &&& 6148914691236517205)) 2) &&& 3689348814741910323)) 4) hx hb dJ13_bitCount_95d88_27 rfl ?_
  refine lv_ladd hx hb dJ13_bitCount_95d88_28 ?_
  refine lv_ldc2 (own := RJ13) (v := 1085102592571150095) hx hb hown (ht _ cl_J13_318) dJ13_bitCount_95d88_29 ?_
  refine lv_land hx hb dJ13_bitCount_95d88_32 ?_
  refine lv_lstore_n (lv' := [(0, .long (((((p0 - ((ushrL p0 1) &&& 6148914691236517205)) &&& 3689348814741910323) + ((ushrL (p0 - ((ushrL p0 1) &&& 6148914691236517205)) 2) &&& 3689348814741910323)) + (ushrL (((p0 - ((ushrL p0 1) &&& 6148914691236517205)) &&& 3689348814741910323) + ((ushrL (p0 - ((ushrL p0 1) &&& 6148914691236517205)) 2) &&& 3689348814741910323)) 4)) &&& 1085102592571150095))]) hx hb dJ13_bitCount_95d88_33 rfl hl (by decide) rfl (fun ls hl => ?_)
  refine lv_lload_n hx hb dJ13_bitCount_95d88_34 rfl (lv_at hl 0 rfl) ?_
  refine lv_lload_n hx hb dJ13_bitCount_95d88_35 rfl (lv_at hl 0 rfl) ?_
  refine lv_bipush (v := 8) hx hb dJ13_bitCount_95d88_36 (by decide) ?_
  refine lv_lushr (v := ushrL (((((p0 - ((ushrL p0 1) &&& 6148914691236517205)) &&& 3689348814741910323) + ((ushrL (p0 - ((ushrL p0 1) &&& 6148914691236517205)) 2) &&& 3689348814741910323)) + (ushrL (((p0 - ((ushrL p0 1) &&& 6148914691236517205)) &&& 3689348814741910323) + ((ushrL (p0 - ((ushrL p0 1) &&& 6148914691236517205)) 2) &&& 3689348814741910323)) 4)) &&& 1085102592571150095) 8) hx hb dJ13_bitCount_95d88_38 rfl ?_
  refine lv_ladd hx hb dJ13_bitCount_95d88_39 ?_
  refine lv_lstore_n (lv' := [(0, .long ((((((p0 - ((ushrL p0 1) &&& 6148914691236517205)) &&& 3689348814741910323) + ((ushrL (p0 - ((ushrL p0 1) &&& 6148914691236517205)) 2) &&& 3689348814741910323)) + (ushrL (((p0 - ((ushrL p0 1) &&& 6148914691236517205)) &&& 3689348814741910323) + ((ushrL (p0 - ((ushrL p0 1) &&& 6148914691236517205)) 2) &&& 3689348814741910323)) 4)) &&& 1085102592571150095) + (ushrL (((((p0 - ((ushrL p0 1) &&& 6148914691236517205)) &&& 3689348814741910323) + ((ushrL (p0 - ((ushrL p0 1) &&& 6148914691236517205)) 2) &&& 3689348814741910323)) + (ushrL (((p0 - ((ushrL p0 1) &&& 6148914691236517205)) &&& 3689348814741910323) + ((ushrL (p0 - ((ushrL p0 1) &&& 6148914691236517205)) 2) &&& 3689348814741910323)) 4)) &&& 1085102592571150095) 8)))]) hx hb dJ13_bitCount_95d88_40 rfl hl (by decide) rfl (fun ls hl => ?_)
  refine lv_lload_n hx hb dJ13_bitCount_95d88_41 rfl (lv_at hl 0 rfl) ?_
  refine lv_lload_n hx hb dJ13_bitCount_95d88_42 rfl (lv_at hl 0 rfl) ?_
  refine lv_bipush (v := 16) hx hb dJ13_bitCount_95d88_43 (by decide) ?_
  refine lv_lushr (v := ushrL ((((((p0 - ((ushrL p0 1) &&& 6148914691236517205)) &&& 3689348814741910323) + ((ushrL (p0 - ((ushrL p0 1) &&& 6148914691236517205)) 2) &&& 3689348814741910323)) + (ushrL (((p0 - ((ushrL p0 1) &&& 6148914691236517205)) &&& 3689348814741910323) + ((ushrL (p0 - ((ushrL p0 1) &&& 6148914691236517205)) 2) &&& 3689348814741910323)) 4)) &&& 1085102592571150095) + (ushrL (((((p0 - ((ushrL p0 1) &&& 6148914691236517205)) &&& 3689348814741910323) + ((ushrL (p0 - ((ushrL p0 1) &&& 6148914691236517205)) 2) &&& 3689348814741910323)) + (ushrL (((p0 - ((ushrL p0 1) &&& 6148914691236517205)) &&& 3689348814741910323) + ((ushrL (p0 - ((ushrL p0 1) &&& 6148914691236517205)) 2) &&& 3689348814741910323)) 4)) &&& 1085102592571150095) 8)) 16) hx hb dJ13_bitCount_95d88_45 rfl ?_
  refine lv_ladd hx hb dJ13_bitCount_95d88_46 ?_
  refine lv_lstore_n (lv' := [(0, .long (((((((p0 - ((ushrL p0 1) &&& 6148914691236517205)) &&& 3689348814741910323) + ((ushrL (p0 - ((ushrL p0 1) &&& 6148914691236517205)) 2) &&& 3689348814741910323)) + (ushrL (((p0 - ((ushrL p0 1) &&& 6148914691236517205)) &&& 3689348814741910323) + ((ushrL (p0 - ((ushrL p0 1) &&& 6148914691236517205)) 2) &&& 3689348814741910323)) 4)) &&& 1085102592571150095) + (ushrL (((((p0 - ((ushrL p0 1) &&& 6148914691236517205)) &&& 3689348814741910323) + ((ushrL (p0 - ((ushrL p0 1) &&& 6148914691236517205)) 2) &&& 3689348814741910323)) + (ushrL (((p0 - ((ushrL p0 1) &&& 6148914691236517205)) &&& 3689348814741910323) + ((ushrL (p0 - ((ushrL p0 1) &&& 6148914691236517205)) 2) &&& 3689348814741910323)) 4)) &&& 1085102592571150095) 8)) + (ushrL ((((((p0 - ((ushrL p0 1) &&& 6148914691236517205)) &&& 3689348814741910323) + ((ushrL (p0 - ((ushrL p0 1) &&& 6148914691236517205)) 2) &&& 3689348814741910323)) + (ushrL (((p0 - ((ushrL p0 1) &&& 6148914691236517205)) &&& 3689348814741910323) + ((ushrL (p0 - ((ushrL p0 1) &&& 6148914691236517205)) 2) &&& 3689348814741910323)) 4)) &&& 1085102592571150095) + (ushrL (((((p0 - ((ushrL p0 1) &&& 6148914691236517205)) &&& 3689348814741910323) + ((ushrL (p0 - ((ushrL p0 1) &&& 6148914691236517205)) 2) &&& 3689348814741910323)) + (ushrL (((p0 - ((ushrL p0 1) &&& 6148914691236517205)) &&& 3689348814741910323) + ((ushrL (p0 - ((ushrL p0 1) &&& 6148914691236517205)) 2) &&& 3689348814741910323)) 4)) &&& 1085102592571150095) 8)) 16)))]) hx hb dJ13_bitCount_95d88_47 rfl hl (by decide) rfl (fun ls hl => ?_)
  refine lv_lload_n hx hb dJ13_bitCount_95d88_48 rfl (lv_at hl 0 rfl) ?_
  refine lv_lload_n hx hb dJ13_bitCount_95d88_49 rfl (lv_at hl 0 rfl) ?_
  refine lv_bipush (v := 32) hx hb dJ13_bitCount_95d88_50 (by decide) ?_
  refine lv_lushr (v := ushrL (((((((p0 - ((ushrL p0 1) &&& 6148914691236517205)) &&& 3689348814741910323) + ((ushrL (p0 - ((ushrL p0 1) &&& 6148914691236517205)) 2) &&& 3689348814741910323)) + (ushrL (((p0 - ((ushrL p0 1) &&& 6148914691236517205)) &&& 3689348814741910323) + ((ushrL (p0 - ((ushrL p0 1) &&& 6148914691236517205)) 2) &&& 3689348814741910323)) 4)) &&& 1085102592571150095) + (ushrL (((((p0 - ((ushrL p0 1) &&& 6148914691236517205)) &&& 3689348814741910323) + ((ushrL (p0 - ((ushrL p0 1) &&& 6148914691236517205)) 2) &&& 3689348814741910323)) + (ushrL (((p0 - ((ushrL p0 1) &&& 6148914691236517205)) &&& 3689348814741910323) + ((ushrL (p0 - ((ushrL p0 1) &&& 6148914691236517205)) 2) &&& 3689348814741910323)) 4)) &&& 1085102592571150095) 8)) + (ushrL ((((((p0 - ((ushrL p0 1) &&& 6148914691236517205)) &&& 3689348814741910323) + ((ushrL (p0 - ((ushrL p0 1) &&& 6148914691236517205)) 2) &&& 3689348814741910323)) + (ushrL (((p0 - ((ushrL p0 1) &&& 6148914691236517205)) &&& 3689348814741910323) + ((ushrL (p0 - ((ushrL p0 1) &&& 6148914691236517205)) 2) &&& 3689348814741910323)) 4)) &&& 1085102592571150095) + (ushrL (((((p0 - ((ushrL p0 1) &&& 6148914691236517205)) &&& 3689348814741910323) + ((ushrL (p0 - ((ushrL p0 1) &&& 6148914691236517205)) 2) &&& 3689348814741910323)) + (ushrL (((p0 - ((ushrL p0 1) &&& 6148914691236517205)) &&& 3689348814741910323) + ((ushrL (p0 - ((ushrL p0 1) &&& 6148914691236517205)) 2) &&& 3689348814741910323)) 4)) &&& 1085102592571150095) 8)) 16)) 32) hx hb dJ13_bitCount_95d88_52 rfl ?_
  refine lv_ladd hx hb dJ13_bitCount_95d88_53 ?_
  refine lv_lstore_n (lv' := [(0, .long ((((((((p0 - ((ushrL p0 1) &&& 6148914691236517205)) &&& 3689348814741910323) + ((ushrL (p0 - ((ushrL p0 1) &&& 6148914691236517205)) 2) &&& 3689348814741910323)) + (ushrL (((p0 - ((ushrL p0 1) &&& 6148914691236517205)) &&& 3689348814741910323) + ((ushrL (p0 - ((ushrL p0 1) &&& 6148914691236517205)) 2) &&& 3689348814741910323)) 4)) &&& 1085102592571150095) + (ushrL (((((p0 - ((ushrL p0 1) &&& 6148914691236517205)) &&& 3689348814741910323) + ((ushrL (p0 - ((ushrL p0 1) &&& 6148914691236517205)) 2) &&& 3689348814741910323)) + (ushrL (((p0 - ((ushrL p0 1) &&& 6148914691236517205)) &&& 3689348814741910323) + ((ushrL (p0 - ((ushrL p0 1) &&& 6148914691236517205)) 2) &&& 3689348814741910323)) 4)) &&& 1085102592571150095) 8)) + (ushrL ((((((p0 - ((ushrL p0 1) &&& 6148914691236517205)) &&& 3689348814741910323) + ((ushrL (p0 - ((ushrL p0 1) &&& 6148914691236517205)) 2) &&& 3689348814741910323)) + (ushrL (((p0 - ((ushrL p0 1) &&& 6148914691236517205)) &&& 3689348814741910323) + ((ushrL (p0 - ((ushrL p0 1) &&& 6148914691236517205)) 2) &&& 3689348814741910323)) 4)) &&& 1085102592571150095) + (ushrL (((((p0 - ((ushrL p0 1) &&& 6148914691236517205)) &&& 3689348814741910323) + ((ushrL (p0 - ((ushrL p0 1) &&& 6148914691236517205)) 2) &&& 3689348814741910323)) + (ushrL (((p0 - ((ushrL p0 1) &&& 6148914691236517205)) &&& 3689348814741910323) + ((ushrL (p0 - ((ushrL p0 1) &&& 6148914691236517205)) 2) &&& 3689348814741910323)) 4)) &&& 1085102592571150095) 8)) 16)) + (ushrL (((((((p0 - ((ushrL p0 1) &&& 6148914691236517205)) &&& 3689348814741910323) + ((ushrL (p0 - ((ushrL p0 1) &&& 6148914691236517205)) 2) &&& 3689348814741910323)) + (ushrL (((p0 - ((ushrL p0 1) &&& 6148914691236517205)) &&& 3689348814741910323) + ((ushrL (p0 - ((ushrL p0 1) &&& 6148914691236517205)) 2) &&& 3689348814741910323)) 4)) &&& 1085102592571150095) + (ushrL (((((p0 - ((ushrL p0 1) &&& 6148914691236517205)) &&& 3689348814741910323) + ((ushrL (p0 - ((ushrL p0 1) &&& 6148914691236517205)) 2) &&& 3689348814741910323)) + (ushrL (((p0 - ((ushrL p0 1) &&& 6148914691236517205)) &&& 3689348814741910323) + ((ushrL (p0 - ((ushrL p0 1) &&& 6148914691236517205)) 2) &&& 3689348814741910323)) 4)) &&& 1085102592571150095) 8)) + (ushrL ((((((p0 - ((ushrL p0 1) &&& 6148914691236517205)) &&& 3689348814741910323) + ((ushrL (p0 - ((ushrL p0 1) &&& 6148914691236517205)) 2) &&& 3689348814741910323)) + (ushrL (((p0 - ((ushrL p0 1) &&& 6148914691236517205)) &&& 3689348814741910323) + ((ushrL (p0 - ((ushrL p0 1) &&& 6148914691236517205)) 2) &&& 3689348814741910323)) 4)) &&& 1085102592571150095) + (ushrL (((((p0 - ((ushrL p0 1) &&& 6148914691236517205)) &&& 3689348814741910323) + ((ushrL (p0 - ((ushrL p0 1) &&& 6148914691236517205)) 2) &&& 3689348814741910323)) + (ushrL (((p0 - ((ushrL p0 1) &&& 6148914691236517205)) &&& 3689348814741910323) + ((ushrL (p0 - ((ushrL p0 1) &&& 6148914691236517205)) 2) &&& 3689348814741910323)) 4)) &&& 1085102592571150095) 8)) 16)) 32)))]) hx hb dJ13_bitCount_95d88_54 rfl hl (by decide) rfl (fun ls hl => ?_)
  refine lv_lload_n hx hb dJ13_bitCount_95d88_55 rfl (lv_at hl 0 rfl) ?_
  refine lv_l2i (v := Int64.toInt32 ((((((((p0 - ((ushrL p0 1) &&& 6148914691236517205)) &&& 3689348814741910323) + ((ushrL (p0 - ((ushrL p0 1) &&& 6148914691236517205)) 2) &&& 3689348814741910323)) + (ushrL (((p0 - ((ushrL p0 1) &&& 6148914691236517205)) &&& 3689348814741910323) + ((ushrL (p0 - ((ushrL p0 1) &&& 6148914691236517205)) 2) &&& 3689348814741910323)) 4)) &&& 1085102592571150095) + (ushrL (((((p0 - ((ushrL p0 1) &&& 6148914691236517205)) &&& 3689348814741910323) + ((ushrL (p0 - ((ushrL p0 1) &&& 6148914691236517205)) 2) &&& 3689348814741910323)) + (ushrL (((p0 - ((ushrL p0 1) &&& 6148914691236517205)) &&& 3689348814741910323) + ((ushrL (p0 - ((ushrL p0 1) &&& 6148914691236517205)) 2) &&& 3689348814741910323)) 4)) &&& 1085102592571150095) 8)) + (ushrL ((((((p0 - ((ushrL p0 1) &&& 6148914691236517205)) &&& 3689348814741910323) + ((ushrL (p0 - ((ushrL p0 1) &&& 6148914691236517205)) 2) &&& 3689348814741910323)) + (ushrL (((p0 - ((ushrL p0 1) &&& 6148914691236517205)) &&& 3689348814741910323) + ((ushrL (p0 - ((ushrL p0 1) &&& 6148914691236517205)) 2) &&& 3689348814741910323)) 4)) &&& 1085102592571150095) + (ushrL (((((p0 - ((ushrL p0 1) &&& 6148914691236517205)) &&& 3689348814741910323) + ((ushrL (p0 - ((ushrL p0 1) &&& 6148914691236517205)) 2) &&& 3689348814741910323)) + (ushrL (((p0 - ((ushrL p0 1) &&& 6148914691236517205)) &&& 3689348814741910323) + ((ushrL (p0 - ((ushrL p0 1) &&& 6148914691236517205)) 2) &&& 3689348814741910323)) 4)) &&& 1085102592571150095) 8)) 16)) + (ushrL (((((((p0 - ((ushrL p0 1) &&& 6148914691236517205)) &&& 3689348814741910323) + ((ushrL (p0 - ((ushrL p0 1) &&& 6148914691236517205)) 2) &&& 3689348814741910323)) + (ushrL (((p0 - ((ushrL p0 1) &&& 6148914691236517205)) &&& 3689348814741910323) + ((ushrL (p0 - ((ushrL p0 1) &&& 6148914691236517205)) 2) &&& 3689348814741910323)) 4)) &&& 1085102592571150095) + (ushrL (((((p0 - ((ushrL p0 1) &&& 6148914691236517205)) &&& 3689348814741910323) + ((ushrL (p0 - ((ushrL p0 1) &&& 6148914691236517205)) 2) &&& 3689348814741910323)) + (ushrL (((p0 - ((ushrL p0 1) &&& 6148914691236517205)) &&& 3689348814741910323) + ((ushrL (p0 - ((ushrL p0 1) &&& 6148914691236517205)) 2) &&& 3689348814741910323)) 4)) &&& 1085102592571150095) 8)) + (ushrL ((((((p0 - ((ushrL p0 1) &&& 6148914691236517205)) &&& 3689348814741910323) + ((ushrL (p0 - ((ushrL p0 1) &&& 6148914691236517205)) 2) &&& 3689348814741910323)) + (ushrL (((p0 - ((ushrL p0 1) &&& 6148914691236517205)) &&& 3689348814741910323) + ((ushrL (p0 - ((ushrL p0 1) &&& 6148914691236517205)) 2) &&& 3689348814741910323)) 4)) &&& 1085102592571150095) + (ushrL (((((p0 - ((ushrL p0 1) &&& 6148914691236517205)) &&& 3689348814741910323) + ((ushrL (p0 - ((ushrL p0 1) &&& 6148914691236517205)) 2) &&& 3689348814741910323)) + (ushrL (((p0 - ((ushrL p0 1) &&& 6148914691236517205)) &&& 3689348814741910323) + ((ushrL (p0 - ((ushrL p0 1) &&& 6148914691236517205)) 2) &&& 3689348814741910323)) 4)) &&& 1085102592571150095) 8)) 16)) 32))) hx hb dJ13_bitCount_95d88_56 rfl ?_
  refine lv_bipush (v := 127) hx hb dJ13_bitCount_95d88_57 (by decide) ?_
  refine lv_iand hx hb dJ13_bitCount_95d88_59 ?_
  obtain rfl := Option.some.inj h
  exact W.iret (v := (Int64.toInt32 ((((((((p0 - ((ushrL p0 1) &&& 6148914691236517205)) &&& 3689348814741910323) + ((ushrL (p0 - ((ushrL p0 1) &&& 6148914691236517205)) 2) &&& 3689348814741910323)) + (ushrL (((p0 - ((ushrL p0 1) &&& 6148914691236517205)) &&& 3689348814741910323) + ((ushrL (p0 - ((ushrL p0 1) &&& 6148914691236517205)) 2) &&& 3689348814741910323)) 4)) &&& 1085102592571150095) + (ushrL (((((p0 - ((ushrL p0 1) &&& 6148914691236517205)) &&& 3689348814741910323) + ((ushrL (p0 - ((ushrL p0 1) &&& 6148914691236517205)) 2) &&& 3689348814741910323)) + (ushrL (((p0 - ((ushrL p0 1) &&& 6148914691236517205)) &&& 3689348814741910323) + ((ushrL (p0 - ((ushrL p0 1) &&& 6148914691236517205)) 2) &&& 3689348814741910323)) 4)) &&& 1085102592571150095) 8)) + (ushrL ((((((p0 - ((ushrL p0 1) &&& 6148914691236517205)) &&& 3689348814741910323) + ((ushrL (p0 - ((ushrL p0 1) &&& 6148914691236517205)) 2) &&& 3689348814741910323)) + (ushrL (((p0 - ((ushrL p0 1) &&& 6148914691236517205)) &&& 3689348814741910323) + ((ushrL (p0 - ((ushrL p0 1) &&& 6148914691236517205)) 2) &&& 3689348814741910323)) 4)) &&& 1085102592571150095) + (ushrL (((((p0 - ((ushrL p0 1) &&& 6148914691236517205)) &&& 3689348814741910323) + ((ushrL (p0 - ((ushrL p0 1) &&& 6148914691236517205)) 2) &&& 3689348814741910323)) + (ushrL (((p0 - ((ushrL p0 1) &&& 6148914691236517205)) &&& 3689348814741910323) + ((ushrL (p0 - ((ushrL p0 1) &&& 6148914691236517205)) 2) &&& 3689348814741910323)) 4)) &&& 1085102592571150095) 8)) 16)) + (ushrL (((((((p0 - ((ushrL p0 1) &&& 6148914691236517205)) &&& 3689348814741910323) + ((ushrL (p0 - ((ushrL p0 1) &&& 6148914691236517205)) 2) &&& 3689348814741910323)) + (ushrL (((p0 - ((ushrL p0 1) &&& 6148914691236517205)) &&& 3689348814741910323) + ((ushrL (p0 - ((ushrL p0 1) &&& 6148914691236517205)) 2) &&& 3689348814741910323)) 4)) &&& 1085102592571150095) + (ushrL (((((p0 - ((ushrL p0 1) &&& 6148914691236517205)) &&& 3689348814741910323) + ((ushrL (p0 - ((ushrL p0 1) &&& 6148914691236517205)) 2) &&& 3689348814741910323)) + (ushrL (((p0 - ((ushrL p0 1) &&& 6148914691236517205)) &&& 3689348814741910323) + ((ushrL (p0 - ((ushrL p0 1) &&& 6148914691236517205)) 2) &&& 3689348814741910323)) 4)) &&& 1085102592571150095) 8)) + (ushrL ((((((p0 - ((ushrL p0 1) &&& 6148914691236517205)) &&& 3689348814741910323) + ((ushrL (p0 - ((ushrL p0 1) &&& 6148914691236517205)) 2) &&& 3689348814741910323)) + (ushrL (((p0 - ((ushrL p0 1) &&& 6148914691236517205)) &&& 3689348814741910323) + ((ushrL (p0 - ((ushrL p0 1) &&& 6148914691236517205)) 2) &&& 3689348814741910323)) 4)) &&& 1085102592571150095) + (ushrL (((((p0 - ((ushrL p0 1) &&& 6148914691236517205)) &&& 3689348814741910323) + ((ushrL (p0 - ((ushrL p0 1) &&& 6148914691236517205)) 2) &&& 3689348814741910323)) + (ushrL (((p0 - ((ushrL p0 1) &&& 6148914691236517205)) &&& 3689348814741910323) + ((ushrL (p0 - ((ushrL p0 1) &&& 6148914691236517205)) 2) &&& 3689348814741910323)) 4)) &&& 1085102592571150095) 8)) 16)) 32))) &&& 127) hx hb hr (fun t ht hW => ⟨⟨_, (), rfl, rfl, trivial⟩, hS.F ht⟩) hS.2.2 dJ13_bitCount_95d88_60
def m_x1_release_J160 (x1 : Int32) (s2 : MS) : Option (Int32 × MS) :=
  some (x1, s2)
def m_x1_release_J148 (lr28 : Int32 → Int32 → MS → Option (Int32 × MS)) (lr83 : Int32 → Int32 → Int32 → Int32 → MS → Option (Int32 × MS)) (x11 : Int32) (x12 : Int32) (x13 : Int32) (x14 : Int32) (s15 : MS) : Option (Int32 × MS) :=
  lr83 x11 x12 x13 (x14 + 1) s15
def m_x1_release_b83 (lr28 : Int32 → Int32 → MS → Option (Int32 × MS)) (lr83 : Int32 → Int32 → Int32 → Int32 → MS → Option (Int32 × MS)) (x6 : Int32) (x7 : Int32) (x8 : Int32) (x9 : Int32) (s10 : MS) : Option (Int32 × MS) :=
  if x8 ≤ x9 then lr28 x6 (x7 + 1) s10 else rdI (gA s10 50) 48 x7 (fun y17 => bn (m_x8_slot y17 x9 s10) (fun r19 => rdI (gA s10 59) 288 r19 (fun y20 => rdI (gA s10 52) 48 y20 (fun y21 => inb 48 y20 (stn (sA s10 52 (upd (gA s10 52) (Int32.toNatClampNeg y20) (y21 - 1))) (fun s23 => rdI (gA s23 52) 48 y20 (fun y24 => if y24 = 0 then if 48 ≤ x6 then m_x1_release_J148 lr28 lr83 x6 x7 x8 x9 s23 else inb 48 x6 (stn (sA s23 50 (upd (gA s23 50) (Int32.toNatClampNeg x6) y20)) (fun s28 => m_x1_release_J148 lr28 lr83 (x6 + 1) x7 x8 x9 s28)) else m_x1_release_J148 lr28 lr83 x6 x7 x8 x9 s23)))))))
def m_x1_release_L83 (lr28 : Int32 → Int32 → MS → Option (Int32 × MS)) (n : Nat) : Int32 → Int32 → Int32 → Int32 → MS → Option (Int32 × MS) := lp (fun _ _ _ _ _ => none) (m_x1_release_b83 lr28) n
def m_x1_release_J78 (lr28 : Int32 → Int32 → MS → Option (Int32 × MS)) (x29 : Int32) (x30 : Int32) (x31 : Int32) (s32 : MS) : Option (Int32 × MS) :=
  m_x1_release_L83 lr28 FU x29 x30 x31 0 s32
def m_x1_release_b28 (lr28 : Int32 → Int32 → MS → Option (Int32 × MS)) (x3 : Int32) (x4 : Int32) (s5 : MS) : Option (Int32 × MS) :=
  if x3 ≤ x4 then m_x1_release_J160 x3 s5 else if 48 ≤ x4 then m_x1_release_J160 x3 s5 else rdI (gA s5 50) 48 x4 (fun y35 => rdI (gA s5 56) 48 y35 (fun y36 => if y36 ≤ 0 then m_x1_release_J78 lr28 x3 x4 0 s5 else rdI (gA s5 50) 48 x4 (fun y38 => rdI (gA s5 57) 48 y38 (fun y39 => m_x1_release_J78 lr28 x3 x4 y39 s5))))
def m_x1_release_L28 (n : Nat) : Int32 → Int32 → MS → Option (Int32 × MS) := lp (fun _ _ _ => none) (m_x1_release_b28) n
def m_x1_release_J25 (x40 : Int32) (s41 : MS) : Option (Int32 × MS) :=
  m_x1_release_L28 FU x40 0 s41
def m_x1_release (p0 : Int32) (s : MS) : Option (Int32 × MS) :=
  rdI (gA s 52) 48 p0 (fun y42 => inb 48 p0 (stn (sA s 52 (upd (gA s 52) (Int32.toNatClampNeg p0) (y42 - 1))) (fun s44 => rdI (gA s44 52) 48 p0 (fun y45 => if y45 = 0 then inb 48 0 (stn (sA s44 50 (upd (gA s44 50) (Int32.toNatClampNeg 0) p0)) (fun s48 => m_x1_release_J25 (0 + 1) s48)) else m_x1_release_J25 0 s44))))
set_option maxHeartbeats 4000000 in
set_option maxRecDepth 100000 in
theorem k_x1_release (l : Launch) (D : va_G) (a : Nat → Nat) (p0 : Int32) (sz : Nat) (s : MS) (o : (Int32 × MS)) (h : m_x1_release p0 s = some o) : yWi l yX1_release cX1_release 8 (some .int) { frames := 1, cells := 0, slots := 0, locals := 60 } D sz [.ref (a 49), .int p0, .ref (a 52)] (CS D a s) (CS D a o.2) o.1 := by
  refine Met.ofW (cc := cX1_release) (maxL := 8) (ret := (some .int)) (by decide) rfl ?_
  intro p e s₀ m args below meth c s₁ B hml hv
  obtain ⟨rfl, ⟨hsz, hP, hK, hD0⟩, hN⟩ := hv
  have hx := B.exec
  have hb := B.bytes
  have hr := B.returns
  have hts := atoms_spec (ws := wz yX1_release cX1_release 8 (some .int)) B.pre
  have ht : ∀ w ∈ lw_gd, w.before _ s₀ = true := fun w h => hts w (List.mem_cons_of_mem _ h)
  have hown : s₀.vm.findClass RX1 = some m.cls := findClass_of_methodNamed B.named
  have hlocks := B.notSynchronized
  subst hsz
  have hD := hD0.self (sz := s₀.heap.size)
  generalize hAe : va_A (CS D a s) s₀.heap.size = A at hD ⊢
  have hA : ∀ q : Nat, s₀.heap.size ≤ q → A q := fun q h => by rw [← hAe]; exact Or.inr h
  have hS : va_S A s₀.heap s₀.heap [] := va_S.rf
  have hDD : ∀ t : MS, va_D A (CS D a t) := fun t => CW_D t hD
  have hl := lv_entry ([.ref (a 49), .int p0, .ref (a 52)]) (n := 8) (Nat.le_of_ble_eq_true rfl)
  rw [lg_entry_eq]
  generalize (lg_sl ([.ref (a 49), .int p0, .ref (a 52)]) ++ List.replicate (8 - (lg_sl ([.ref (a 49), .int p0, .ref (a 52)])).length) Slot.unset).toArray = ls at hl ⊢
  have hl : lv_has ls 8 [(0, .ref (a 49)), (1, .int p0), (2, .ref (a 52))] := hl
  unfold m_x1_release at h
  refine y_head (pcJ := 160) (σ := Int32 × MS) (fun u H locs ls => va_P D vwCl (CS D a u.2) H ∧ va_S A s₀.heap H locs ∧ lv_has ls 8 [(3, .int u.1)] ∧ m_x1_release_J160 u.1 u.2 = some o) (fun u => []) (fun u H locs ls hI => ?_) (fun J160 => ?_)
  · obtain ⟨hP, hS, hl, h⟩ := hI
    obtain ⟨x1, s2⟩ := u
    have hP : va_P D vwCl (CS D a s2) H := hP
    have hl : lv_has ls 8 [(3, .int x1)] := hl
    have h : m_x1_release_J160 x1 s2 = some o := h
    unfold m_x1_release_J160 at h
    refine lv_iload_n hx hb dX1_release_160 rfl (lv_at hl 0 rfl) ?_
    obtain rfl := Option.some.inj h
    exact W.iret (v := x1) hx hb hr (fun t ht hW => ⟨⟨_, (), rfl, rfl, by rw [ht]; exact hP, va_K.moved hW.alike hK, hDD _⟩, hS.F ht⟩) hS.2.2 dX1_release_161
  refine y_loop (pcJ := 28) (σ := Int32 × Int32 × MS) (fun n u H locs ls => va_P D vwCl (CS D a u.2.2) H ∧ va_S A s₀.heap H locs ∧ lv_has ls 8 [(0, .ref (a 49)), (2, .ref (a 52)), (3, .int u.1), (4, .int u.2.1)] ∧ m_x1_release_L28 n u.1 u.2.1 u.2.2 = some o) (fun u => []) (fun u H locs ls hI => by obtain ⟨_, _, _, h⟩ := hI; cases h) (fun n28 ih28 u H locs ls hI => ?_) (fun J28 => ?_)
  · obtain ⟨hP, hS, hl, h⟩ := hI
    obtain ⟨x3, x4, s5⟩ := u
    have hP : va_P D vwCl (CS D a s5) H := hP
    have hl : lv_has ls 8 [(0, .ref (a 49)), (2, .ref (a 52)), (3, .int x3), (4, .int x4)] := hl
    have h : m_x1_release_b28 (m_x1_release_L28 n28) x3 x4 s5 = some o := h
    unfold m_x1_release_b28 at h
    refine y_loop (pcJ := 83) (σ := Int32 × Int32 × Int32 × Int32 × MS) (fun n u H locs ls => va_P D vwCl (CS D a u.2.2.2.2) H ∧ va_S A s₀.heap H locs ∧ lv_has ls 8 [(0, .ref (a 49)), (2, .ref (a 52)), (3, .int u.1), (4, .int u.2.1), (5, .int u.2.2.1), (6, .int u.2.2.2.1)] ∧ m_x1_release_L83 (m_x1_release_L28 n28) n u.1 u.2.1 u.2.2.1 u.2.2.2.1 u.2.2.2.2 = some o) (fun u => []) (fun u H locs ls hI => by obtain ⟨_, _, _, h⟩ := hI; cases h) (fun n83 ih83 u H locs ls hI => ?_) (fun J83 => ?_)
    · obtain ⟨hP, hS, hl, h⟩ := hI
      obtain ⟨x6, x7, x8, x9, s10⟩ := u
      have hP : va_P D vwCl (CS D a s10) H := hP
      have hl : lv_has ls 8 [(0, .ref (a 49)), (2, .ref (a 52)), (3, .int x6), (4, .int x7), (5, .int x8), (6, .int x9)] := hl
      have h : m_x1_release_b83 (m_x1_release_L28 n28) (m_x1_release_L83 (m_x1_release_L28 n28) n83) x6 x7 x8 x9 s10 = some o := h
      unfold m_x1_release_b83 at h
      refine y_head (pcJ := 148) (σ := Int32 × Int32 × Int32 × Int32 × MS) (fun u H locs ls => va_P D vwCl (CS D a u.2.2.2.2) H ∧ va_S A s₀.heap H locs ∧ lv_has ls 8 [(0, .ref (a 49)), (2, .ref (a 52)), (3, .int u.1), (4, .int u.2.1), (5, .int u.2.2.1), (6, .int u.2.2.2.1)] ∧ m_x1_release_J148 (m_x1_release_L28 n28) (m_x1_release_L83 (m_x1_release_L28 n28) n83) u.1 u.2.1 u.2.2.1 u.2.2.2.1 u.2.2.2.2 = some o) (fun u => []) (fun u H locs ls hI => ?_) (fun J148 => ?_)
      · obtain ⟨hP, hS, hl, h⟩ := hI
        obtain ⟨x11, x12, x13, x14, s15⟩ := u
        have hP : va_P D vwCl (CS D a s15) H := hP
        have hl : lv_has ls 8 [(0, .ref (a 49)), (2, .ref (a 52)), (3, .int x11), (4, .int x12), (5, .int x13), (6, .int x14)] := hl
        have h : m_x1_release_J148 (m_x1_release_L28 n28) (m_x1_release_L83 (m_x1_release_L28 n28) n83) x11 x12 x13 x14 s15 = some o := h
        unfold m_x1_release_J148 at h
        refine lv_iinc (v := x14 + 1) (lv' := [(6, .int (x14 + 1)), (0, .ref (a 49)), (2, .ref (a 52)), (3, .int x11), (4, .int x12), (5, .int x13)]) hx hb dX1_release_148 hl (k := 5) rfl rfl (by decide) rfl (fun ls hl => ?_)
        refine lv_goto (tgt := 83) hx hb dX1_release_151 (by decide) ?_
        exact ih83 (x11, x12, x13, x14 + 1, s15) _ _ _ ⟨hP, hS, lv_sub hl [1, 2, 3, 4, 5, 0] rfl, h⟩
      refine lv_iload hx hb dX1_release_83 (lv_at hl 5 rfl) ?_
      refine lv_iload hx hb dX1_release_85 (lv_at hl 4 rfl) ?_
      refine lv_icmp_ge (tgt := 154) hx hb dX1_release_87 (by decide) (fun c16 => ?_) (fun c16 => ?_)
      · have h := if_t c16 h
        refine lv_iinc (v := x7 + 1) (lv' := [(4, .int (x7 + 1)), (0, .ref (a 49)), (2, .ref (a 52)), (3, .int x6), (5, .int x8), (6, .int x9)]) hx hb dX1_release_154 hl (k := 3) rfl rfl (by decide) rfl (fun ls hl => ?_)
        refine lv_goto (tgt := 28) hx hb dX1_release_157 (by decide) ?_
        exact ih28 (x6, x7 + 1, s10) _ _ _ ⟨hP, hS, lv_sub hl [1, 2, 3, 0] rfl, h⟩
      · have h := if_f c16 h
        refine lv_aload_n hx hb dX1_release_90 rfl (lv_at hl 0 rfl) ?_
        refine va_get (D := D) (ci := 1) (v := .ref (a 53)) (C := RX1) (T := TX1) (N := 9) hx hb ht inX1 hown hK hP 49 CW_49 rfl 0 (by decide) (ht (.fieldLink RX1 12 "CloneVolumes$Forest" "now" "LCloneVolumes$State;") fl_X1_12) (fun _ h9 => h9) rfl dX1_release_91 ?_
        refine va_get (D := D) (ci := 8) (v := .ref (a 59)) (C := RX8) (T := TX8) (N := 11) hx hb ht inX8 hown hK hP 53 CW_53 rfl 8 (by decide) (ht (.fieldLink RX1 217 "CloneVolumes$State" "values" "[I") fl_X1_217) (fun _ h9 => h9) rfl dX1_release_94 ?_
        refine lv_aload_n hx hb dX1_release_97 rfl (lv_at hl 0 rfl) ?_
        refine va_get (D := D) (ci := 1) (v := .ref (a 53)) (C := RX1) (T := TX1) (N := 9) hx hb ht inX1 hown hK hP 49 CW_49 rfl 0 (by decide) (ht (.fieldLink RX1 12 "CloneVolumes$Forest" "now" "LCloneVolumes$State;") fl_X1_12) (fun _ h9 => h9) rfl dX1_release_98 ?_
        refine lv_aload_n hx hb dX1_release_101 rfl (lv_at hl 0 rfl) ?_
        refine va_get (D := D) (ci := 1) (v := .ref (a 50)) (C := RX1) (T := TX1) (N := 9) hx hb ht inX1 hown hK hP 49 CW_49 rfl 6 (by decide) (ht (.fieldLink RX1 37 "CloneVolumes$Forest" "chain" "[I") fl_X1_37) (fun _ h9 => h9) rfl dX1_release_102 ?_
        refine lv_iload hx hb dX1_release_105 (lv_at hl 3 rfl) ?_
        obtain ⟨y17, ey17, iy17, h⟩ := rdI_e h
        refine ya_iald hx hb hK hP 50 0 CW_50 rfl ey17 iy17 dX1_release_107 ?_
        refine lv_iload hx hb dX1_release_108 (lv_at hl 5 rfl) ?_
        obtain ⟨r19, hc18, h⟩ := bn_e h
        refine ycV (As := [.int y17, .int x9]) (rest := [.ref (a 59)]) (C := RX8) (n := 2) ⟨hx, hb, hml, hown, ht⟩ (k_x8_slot l D a y17 x9 _ _ hc18) (zgV ml_X1_220 im_X8_slot se_X8_slot in_X8 co_X8_slot) rfl rfl (by decide +kernel) ⟨Nat.le_of_ble_eq_true rfl, Nat.le_of_ble_eq_true rfl⟩ hN hK hP hS 53 CW_53 rfl rfl rfl hl.1 rfl (Nat.le_of_ble_eq_true rfl) dX1_release_110 ⟨Nat.le_of_ble_eq_true rfl, Nat.le_of_ble_eq_true rfl⟩ (fun H locs hP hS => ?_)
        obtain ⟨y20, ey20, iy20, h⟩ := rdI_e h
        refine ya_iald hx hb hK hP 59 0 CW_59 rfl ey20 iy20 dX1_release_113 ?_
        refine lv_istore (lv' := [(7, .int y20), (0, .ref (a 49)), (2, .ref (a 52)), (3, .int x6), (4, .int x7), (5, .int x8), (6, .int x9)]) hx hb dX1_release_114 hl (by decide) rfl (fun ls hl => ?_)
        refine lv_aload_n hx hb dX1_release_116 rfl (lv_at hl 2 rfl) ?_
        refine lv_iload hx hb dX1_release_117 (lv_at hl 0 rfl) ?_
        refine lv_dup2_11 hx hb dX1_release_119 rfl rfl ?_
        obtain ⟨y21, ey21, iy21, h⟩ := rdI_e h
        refine ya_iald hx hb hK hP 52 0 CW_52 rfl ey21 iy21 dX1_release_120 ?_
        refine lv_iconst (v := 1) hx hb dX1_release_121 (by decide) ?_
        refine lv_isub hx hb dX1_release_122 ?_
        obtain ⟨hi22, h⟩ := inb_e h
        refine ya_iast hx hb hK hP (hDD _) hS 52 0 CW_52 rfl hi22 dX1_release_123 (CW_w52 _) (fun H locs hP hS => ?_)
        obtain ⟨s23, hs23, h⟩ := st_e h
        rw [hs23] at hP
        refine lv_aload_n hx hb dX1_release_124 rfl (lv_at hl 2 rfl) ?_
        refine lv_iload hx hb dX1_release_125 (lv_at hl 0 rfl) ?_
        obtain ⟨y24, ey24, iy24, h⟩ := rdI_e h
        refine ya_iald hx hb hK hP 52 0 CW_52 rfl ey24 iy24 dX1_release_127 ?_
        refine lv_if_ne (tgt := 148) hx hb dX1_release_128 (by decide) (fun c25 => ?_) (fun c25 => ?_)
        · have h := if_f c25 h
          exact J148 (x6, x7, x8, x9, s23) _ _ _ ⟨hP, hS, lv_sub hl [1, 2, 3, 4, 5, 6] rfl, h⟩
        · have h := if_t c25 h
          refine lv_iload_n hx hb dX1_release_131 rfl (lv_at hl 3 rfl) ?_
          refine lv_bipush (v := 48) hx hb dX1_release_132 (by decide) ?_
          refine lv_icmp_ge (tgt := 148) hx hb dX1_release_134 (by decide) (fun c26 => ?_) (fun c26 => ?_)
          · have h := if_t c26 h
            exact J148 (x6, x7, x8, x9, s23) _ _ _ ⟨hP, hS, lv_sub hl [1, 2, 3, 4, 5, 6] rfl, h⟩
          · have h := if_f c26 h
            refine lv_aload_n hx hb dX1_release_137 rfl (lv_at hl 1 rfl) ?_
            refine va_get (D := D) (ci := 1) (v := .ref (a 50)) (C := RX1) (T := TX1) (N := 9) hx hb ht inX1 hown hK hP 49 CW_49 rfl 6 (by decide) (ht (.fieldLink RX1 37 "CloneVolumes$Forest" "chain" "[I") fl_X1_37) (fun _ h9 => h9) rfl dX1_release_138 ?_
            refine lv_iload_n hx hb dX1_release_141 rfl (lv_at hl 3 rfl) ?_
            refine lv_iload hx hb dX1_release_142 (lv_at hl 0 rfl) ?_
            obtain ⟨hi27, h⟩ := inb_e h
            refine ya_iast hx hb hK hP (hDD _) hS 50 0 CW_50 rfl hi27 dX1_release_144 (CW_w50 _) (fun H locs hP hS => ?_)
            obtain ⟨s28, hs28, h⟩ := st_e h
            rw [hs28] at hP
            refine lv_iinc (v := x6 + 1) (lv' := [(3, .int (x6 + 1)), (7, .int y20), (0, .ref (a 49)), (2, .ref (a 52)), (4, .int x7), (5, .int x8), (6, .int x9)]) hx hb dX1_release_145 hl (k := 3) rfl rfl (by decide) rfl (fun ls hl => ?_)
            exact J148 (x6 + 1, x7, x8, x9, s28) _ _ _ ⟨hP, hS, lv_sub hl [2, 3, 0, 4, 5, 6] rfl, h⟩
    refine y_head (pcJ := 78) (σ := Int32 × Int32 × Int32 × MS) (fun u H locs ls => va_P D vwCl (CS D a u.2.2.2) H ∧ va_S A s₀.heap H locs ∧ lv_has ls 8 [(0, .ref (a 49)), (2, .ref (a 52)), (3, .int u.1), (4, .int u.2.1)] ∧ m_x1_release_J78 (m_x1_release_L28 n28) u.1 u.2.1 u.2.2.1 u.2.2.2 = some o) (fun u => [.int u.2.2.1]) (fun u H locs ls hI => ?_) (fun J78 => ?_)
    · obtain ⟨hP, hS, hl, h⟩ := hI
      obtain ⟨x29, x30, x31, s32⟩ := u
      have hP : va_P D vwCl (CS D a s32) H := hP
      have hl : lv_has ls 8 [(0, .ref (a 49)), (2, .ref (a 52)), (3, .int x29), (4, .int x30)] := hl
      have h : m_x1_release_J78 (m_x1_release_L28 n28) x29 x30 x31 s32 = some o := h
      unfold m_x1_release_J78 at h
      refine lv_istore (lv' := [(5, .int x31), (0, .ref (a 49)), (2, .ref (a 52)), (3, .int x29), (4, .int x30)]) hx hb dX1_release_78 hl (by decide) rfl (fun ls hl => ?_)
      refine lv_iconst (v := 0) hx hb dX1_release_80 (by decide) ?_
      refine lv_istore (lv' := [(6, .int 0), (5, .int x31), (0, .ref (a 49)), (2, .ref (a 52)), (3, .int x29), (4, .int x30)]) hx hb dX1_release_81 hl (by decide) rfl (fun ls hl => ?_)
      exact J83 FU (x29, x30, x31, 0, s32) _ _ _ ⟨hP, hS, lv_sub hl [2, 3, 4, 5, 1, 0] rfl, h⟩
    refine lv_iload hx hb dX1_release_28 (lv_at hl 3 rfl) ?_
    refine lv_iload_n hx hb dX1_release_30 rfl (lv_at hl 2 rfl) ?_
    refine lv_icmp_ge (tgt := 160) hx hb dX1_release_31 (by decide) (fun c33 => ?_) (fun c33 => ?_)
    · have h := if_t c33 h
      exact J160 (x3, s5) _ _ _ ⟨hP, hS, lv_sub hl [2] rfl, h⟩
    · have h := if_f c33 h
      refine lv_iload hx hb dX1_release_34 (lv_at hl 3 rfl) ?_
      refine lv_bipush (v := 48) hx hb dX1_release_36 (by decide) ?_
      refine lv_icmp_ge (tgt := 160) hx hb dX1_release_38 (by decide) (fun c34 => ?_) (fun c34 => ?_)
      · have h := if_t c34 h
        exact J160 (x3, s5) _ _ _ ⟨hP, hS, lv_sub hl [2] rfl, h⟩
      · have h := if_f c34 h
        refine lv_aload_n hx hb dX1_release_41 rfl (lv_at hl 0 rfl) ?_
        refine va_get (D := D) (ci := 1) (v := .ref (a 53)) (C := RX1) (T := TX1) (N := 9) hx hb ht inX1 hown hK hP 49 CW_49 rfl 0 (by decide) (ht (.fieldLink RX1 12 "CloneVolumes$Forest" "now" "LCloneVolumes$State;") fl_X1_12) (fun _ h9 => h9) rfl dX1_release_42 ?_
        refine va_get (D := D) (ci := 8) (v := .ref (a 56)) (C := RX8) (T := TX8) (N := 11) hx hb ht inX8 hown hK hP 53 CW_53 rfl 5 (by decide) (ht (.fieldLink RX1 150 "CloneVolumes$State" "level" "[I") fl_X1_150) (fun _ h9 => h9) rfl dX1_release_45 ?_
        refine lv_aload_n hx hb dX1_release_48 rfl (lv_at hl 0 rfl) ?_
        refine va_get (D := D) (ci := 1) (v := .ref (a 50)) (C := RX1) (T := TX1) (N := 9) hx hb ht inX1 hown hK hP 49 CW_49 rfl 6 (by decide) (ht (.fieldLink RX1 37 "CloneVolumes$Forest" "chain" "[I") fl_X1_37) (fun _ h9 => h9) rfl dX1_release_49 ?_
        refine lv_iload hx hb dX1_release_52 (lv_at hl 3 rfl) ?_
        obtain ⟨y35, ey35, iy35, h⟩ := rdI_e h
        refine ya_iald hx hb hK hP 50 0 CW_50 rfl ey35 iy35 dX1_release_54 ?_
        obtain ⟨y36, ey36, iy36, h⟩ := rdI_e h
        refine ya_iald hx hb hK hP 56 0 CW_56 rfl ey36 iy36 dX1_release_55 ?_
        refine lv_if_le (tgt := 77) hx hb dX1_release_56 (by decide) (fun c37 => ?_) (fun c37 => ?_)
        · have h := if_t c37 h
          refine lv_iconst (v := 0) hx hb dX1_release_77 (by decide) ?_
          exact J78 (x3, x4, 0, s5) _ _ _ ⟨hP, hS, lv_sub hl [0, 1, 2, 3] rfl, h⟩
        · have h := if_f c37 h
          refine lv_aload_n hx hb dX1_release_59 rfl (lv_at hl 0 rfl) ?_
          refine va_get (D := D) (ci := 1) (v := .ref (a 53)) (C := RX1) (T := TX1) (N := 9) hx hb ht inX1 hown hK hP 49 CW_49 rfl 0 (by decide) (ht (.fieldLink RX1 12 "CloneVolumes$Forest" "now" "LCloneVolumes$State;") fl_X1_12) (fun _ h9 => h9) rfl dX1_release_60 ?_
          refine va_get (D := D) (ci := 8) (v := .ref (a 57)) (C := RX8) (T := TX8) (N := 11) hx hb ht inX8 hown hK hP 53 CW_53 rfl 6 (by decide) (ht (.fieldLink RX1 155 "CloneVolumes$State" "size" "[I") fl_X1_155) (fun _ h9 => h9) rfl dX1_release_63 ?_
          refine lv_aload_n hx hb dX1_release_66 rfl (lv_at hl 0 rfl) ?_
          refine va_get (D := D) (ci := 1) (v := .ref (a 50)) (C := RX1) (T := TX1) (N := 9) hx hb ht inX1 hown hK hP 49 CW_49 rfl 6 (by decide) (ht (.fieldLink RX1 37 "CloneVolumes$Forest" "chain" "[I") fl_X1_37) (fun _ h9 => h9) rfl dX1_release_67 ?_
          refine lv_iload hx hb dX1_release_70 (lv_at hl 3 rfl) ?_
          obtain ⟨y38, ey38, iy38, h⟩ := rdI_e h
          refine ya_iald hx hb hK hP 50 0 CW_50 rfl ey38 iy38 dX1_release_72 ?_
          obtain ⟨y39, ey39, iy39, h⟩ := rdI_e h
          refine ya_iald hx hb hK hP 57 0 CW_57 rfl ey39 iy39 dX1_release_73 ?_
          refine lv_goto (tgt := 78) hx hb dX1_release_74 (by decide) ?_
          exact J78 (x3, x4, y39, s5) _ _ _ ⟨hP, hS, lv_sub hl [0, 1, 2, 3] rfl, h⟩
  refine y_head (pcJ := 25) (σ := Int32 × MS) (fun u H locs ls => va_P D vwCl (CS D a u.2) H ∧ va_S A s₀.heap H locs ∧ lv_has ls 8 [(0, .ref (a 49)), (2, .ref (a 52)), (3, .int u.1)] ∧ m_x1_release_J25 u.1 u.2 = some o) (fun u => []) (fun u H locs ls hI => ?_) (fun J25 => ?_)
  · obtain ⟨hP, hS, hl, h⟩ := hI
    obtain ⟨x40, s41⟩ := u
    have hP : va_P D vwCl (CS D a s41) H := hP
    have hl : lv_has ls 8 [(0, .ref (a 49)), (2, .ref (a 52)), (3, .int x40)] := hl
    have h : m_x1_release_J25 x40 s41 = some o := h
    unfold m_x1_release_J25 at h
    refine lv_iconst (v := 0) hx hb dX1_release_25 (by decide) ?_
    refine lv_istore (lv' := [(4, .int 0), (0, .ref (a 49)), (2, .ref (a 52)), (3, .int x40)]) hx hb dX1_release_26 hl (by decide) rfl (fun ls hl => ?_)
    exact J28 FU (x40, 0, s41) _ _ _ ⟨hP, hS, lv_sub hl [1, 2, 3, 0] rfl, h⟩
  refine lv_iconst (v := 0) hx hb dX1_release_0 (by decide) ?_
  refine lv_istore_n (lv' := [(3, .int 0), (0, .ref (a 49)), (1, .int p0), (2, .ref (a 52))]) hx hb dX1_release_1 rfl hl (by decide) rfl (fun ls hl => ?_)
  refine lv_aload_n hx hb dX1_release_2 rfl (lv_at hl 3 rfl) ?_
  refine lv_iload_n hx hb dX1_release_3 rfl (lv_at hl 2 rfl) ?_
  refine lv_dup2_11 hx hb dX1_release_4 rfl rfl ?_
  obtain ⟨y42, ey42, iy42, h⟩ := rdI_e h
  refine ya_iald hx hb hK hP 52 0 CW_52 rfl ey42 iy42 dX1_release_5 ?_
  refine lv_iconst (v := 1) hx hb dX1_release_6 (by decide) ?_
  refine lv_isub hx hb dX1_release_7 ?_
  obtain ⟨hi43, h⟩ := inb_e h
  refine ya_iast hx hb hK hP (hDD _) hS 52 0 CW_52 rfl hi43 dX1_release_8 (CW_w52 _) (fun H locs hP hS => ?_)
  obtain ⟨s44, hs44, h⟩ := st_e h
  rw [hs44] at hP
  refine lv_aload_n hx hb dX1_release_9 rfl (lv_at hl 3 rfl) ?_
  refine lv_iload_n hx hb dX1_release_10 rfl (lv_at hl 2 rfl) ?_
  obtain ⟨y45, ey45, iy45, h⟩ := rdI_e h
  refine ya_iald hx hb hK hP 52 0 CW_52 rfl ey45 iy45 dX1_release_11 ?_
  refine lv_if_ne (tgt := 25) hx hb dX1_release_12 (by decide) (fun c46 => ?_) (fun c46 => ?_)
  · have h := if_f c46 h
    exact J25 (0, s44) _ _ _ ⟨hP, hS, lv_sub hl [1, 3, 0] rfl, h⟩
  · have h := if_t c46 h
    refine lv_aload_n hx hb dX1_release_15 rfl (lv_at hl 1 rfl) ?_
    refine va_get (D := D) (ci := 1) (v := .ref (a 50)) (C := RX1) (T := TX1) (N := 9) hx hb ht inX1 hown hK hP 49 CW_49 rfl 6 (by decide) (ht (.fieldLink RX1 37 "CloneVolumes$Forest" "chain" "[I") fl_X1_37) (fun _ h9 => h9) rfl dX1_release_16 ?_
    refine lv_iload_n hx hb dX1_release_19 rfl (lv_at hl 0 rfl) ?_
    refine lv_iload_n hx hb dX1_release_20 rfl (lv_at hl 2 rfl) ?_
    obtain ⟨hi47, h⟩ := inb_e h
    refine ya_iast hx hb hK hP (hDD _) hS 50 0 CW_50 rfl hi47 dX1_release_21 (CW_w50 _) (fun H locs hP hS => ?_)
    obtain ⟨s48, hs48, h⟩ := st_e h
    rw [hs48] at hP
    refine lv_iinc (v := 0 + 1) (lv' := [(3, .int (0 + 1)), (0, .ref (a 49)), (1, .int p0), (2, .ref (a 52))]) hx hb dX1_release_22 hl (k := 0) rfl rfl (by decide) rfl (fun ls hl => ?_)
    exact J25 (0 + 1, s48) _ _ _ ⟨hP, hS, lv_sub hl [1, 3, 0] rfl, h⟩
def m_x1_freedWith (p0 : Int32) (s : MS) : Option (Int32 × MS) :=
  if p0 = (-1) then some (0, s) else cpg 0 0 48 48 48 (stn (sA s 52 (va_cpy (gA s 54) (gA s 52) (Int32.toNatClampNeg 0) (Int32.toNatClampNeg 0) (Int32.toNatClampNeg 48))) (fun s3 => bn (m_x1_release p0 s3) (fun qr6 => some (qr6.1, qr6.2))))
set_option maxHeartbeats 4000000 in
set_option maxRecDepth 100000 in
theorem k_x1_freedWith (l : Launch) (D : va_G) (a : Nat → Nat) (p0 : Int32) (sz : Nat) (s : MS) (o : (Int32 × MS)) (h : m_x1_freedWith p0 s = some o) : yWi l yX1_freedWith cX1_freedWith 2 (some .int) { frames := 2, cells := 0, slots := 0, locals := 120 } D sz [.ref (a 49), .int p0] (CS D a s) (CS D a o.2) o.1 := by
  refine Met.ofW (cc := cX1_freedWith) (maxL := 2) (ret := (some .int)) (by decide) rfl ?_
  intro p e s₀ m args below meth c s₁ B hml hv
  obtain ⟨rfl, ⟨hsz, hP, hK, hD0⟩, hN⟩ := hv
  have hx := B.exec
  have hb := B.bytes
  have hr := B.returns
  have hts := atoms_spec (ws := wz yX1_freedWith cX1_freedWith 2 (some .int)) B.pre
  have ht : ∀ w ∈ lw_gd, w.before _ s₀ = true := fun w h => hts w (List.mem_cons_of_mem _ h)
  have hown : s₀.vm.findClass RX1 = some m.cls := findClass_of_methodNamed B.named
  have hlocks := B.notSynchronized
  subst hsz
  have hD := hD0.self (sz := s₀.heap.size)
  generalize hAe : va_A (CS D a s) s₀.heap.size = A at hD ⊢
  have hA : ∀ q : Nat, s₀.heap.size ≤ q → A q := fun q h => by rw [← hAe]; exact Or.inr h
  have hS : va_S A s₀.heap s₀.heap [] := va_S.rf
  have hDD : ∀ t : MS, va_D A (CS D a t) := fun t => CW_D t hD
  have hl := lv_entry ([.ref (a 49), .int p0]) (n := 2) (Nat.le_of_ble_eq_true rfl)
  rw [lg_entry_eq]
  generalize (lg_sl ([.ref (a 49), .int p0]) ++ List.replicate (2 - (lg_sl ([.ref (a 49), .int p0])).length) Slot.unset).toArray = ls at hl ⊢
  have hl : lv_has ls 2 [(0, .ref (a 49)), (1, .int p0)] := hl
  unfold m_x1_freedWith at h
  refine lv_iload_n hx hb dX1_freedWith_0 rfl (lv_at hl 1 rfl) ?_
  refine lv_iconst (v := (-1)) hx hb dX1_freedWith_1 (by decide) ?_
  refine lv_icmp_ne (tgt := 7) hx hb dX1_freedWith_2 (by decide) (fun c1 => ?_) (fun c1 => ?_)
  · have h := if_f c1 h
    refine lv_aload_n hx hb dX1_freedWith_7 rfl (lv_at hl 0 rfl) ?_
    refine va_get (D := D) (ci := 1) (v := .ref (a 53)) (C := RX1) (T := TX1) (N := 9) hx hb ht inX1 hown hK hP 49 CW_49 rfl 0 (by decide) (ht (.fieldLink RX1 12 "CloneVolumes$Forest" "now" "LCloneVolumes$State;") fl_X1_12) (fun _ h9 => h9) rfl dX1_freedWith_8 ?_
    refine va_get (D := D) (ci := 8) (v := .ref (a 54)) (C := RX8) (T := TX8) (N := 11) hx hb ht inX8 hown hK hP 53 CW_53 rfl 3 (by decide) (ht (.fieldLink RX1 181 "CloneVolumes$State" "count" "[I") fl_X1_181) (fun _ h9 => h9) rfl dX1_freedWith_11 ?_
    refine lv_iconst (v := 0) hx hb dX1_freedWith_14 (by decide) ?_
    refine lv_aload_n hx hb dX1_freedWith_15 rfl (lv_at hl 0 rfl) ?_
    refine va_get (D := D) (ci := 1) (v := .ref (a 52)) (C := RX1) (T := TX1) (N := 9) hx hb ht inX1 hown hK hP 49 CW_49 rfl 8 (by decide) (ht (.fieldLink RX1 44 "CloneVolumes$Forest" "counts" "[I") fl_X1_44) (fun _ h9 => h9) rfl dX1_freedWith_16 ?_
    refine lv_iconst (v := 0) hx hb dX1_freedWith_19 (by decide) ?_
    refine lv_bipush (v := 48) hx hb dX1_freedWith_20 (by decide) ?_
    obtain ⟨hc2, h⟩ := cpg_e h
    refine ya_copyi hx hb (by rw [hml]; exact hl.1.symm) hown (ht _ ml_X1_230) (ht _ na_cpy) (ht _ st_cpy) (ht _ in_sys) hK hP (hDD _) hS 54 52 CW_54 CW_52 hc2 (Nat.le_of_ble_eq_true rfl) (Nat.le_of_ble_eq_true rfl) dX1_freedWith_22 (CW_w52 _) (fun H locs hP hS => ?_)
    obtain ⟨s3, hs3, h⟩ := st_e h
    rw [hs3] at hP
    refine lv_aload_n hx hb dX1_freedWith_25 rfl (lv_at hl 0 rfl) ?_
    refine lv_iload_n hx hb dX1_freedWith_26 rfl (lv_at hl 1 rfl) ?_
    refine lv_aload_n hx hb dX1_freedWith_27 rfl (lv_at hl 0 rfl) ?_
    refine va_get (D := D) (ci := 1) (v := .ref (a 52)) (C := RX1) (T := TX1) (N := 9) hx hb ht inX1 hown hK hP 49 CW_49 rfl 8 (by decide) (ht (.fieldLink RX1 44 "CloneVolumes$Forest" "counts" "[I") fl_X1_44) (fun _ h9 => h9) rfl dX1_freedWith_28 ?_
    obtain ⟨⟨r6, s5⟩, hc4, h⟩ := bn_e h
    refine ywV (r0 := r6) (As := [.int p0, .ref (a 52)]) (rest := []) (C := RX1) (n := 2) (ws' := CS D a s5) ⟨hx, hb, hml, hown, ht⟩ (k_x1_release l D a p0 _ _ _ hc4) (zgV ml_X1_223 im_X1_release se_X1_release in_X1 co_X1_release) rfl rfl (by decide +kernel) ⟨Nat.le_of_ble_eq_true rfl, Nat.le_of_ble_eq_true rfl⟩ hN hK hP (hDD _) hS hA 49 CW_49 rfl rfl rfl hl.1 rfl (Nat.le_of_ble_eq_true rfl) dX1_freedWith_31 ⟨Nat.le_of_ble_eq_true rfl, Nat.le_of_ble_eq_true rfl⟩ (fun H locs hP hS => ?_)
    obtain rfl := Option.some.inj h
    exact W.iret (v := r6) hx hb hr (fun t ht hW => ⟨⟨_, (), rfl, rfl, by rw [ht]; exact hP, va_K.moved hW.alike hK, hDD _⟩, hS.F ht⟩) hS.2.2 dX1_freedWith_34
  · have h := if_t c1 h
    refine lv_iconst (v := 0) hx hb dX1_freedWith_5 (by decide) ?_
    obtain rfl := Option.some.inj h
    exact W.iret (v := 0) hx hb hr (fun t ht hW => ⟨⟨_, (), rfl, rfl, by rw [ht]; exact hP, va_K.moved hW.alike hK, hDD _⟩, hS.F ht⟩) hS.2.2 dX1_freedWith_6
def m_x11_volume_J93 (x1 : Int32) (s2 : MS) : Option (Int32 × MS) :=
  some (x1, s2)
def m_x11_volume (p0 : Int32) (p1 : Int32) (s : MS) : Option (Int32 × MS) :=
  bn (m_x8_isVolume p0 s) (fun r4 => if r4 = 0 then some ((-1), s) else rdI (gA s 60) 8 p0 (fun y6 => if p1 = 0 then some (y6, s) else if p1 = 1 then bn (m_x10_gather y6 s) (fun qr11 => some (qr11.1, qr11.2)) else if p1 = 2 then if y6 = (-1) then m_x11_volume_J93 0 s else rdI (gA s 56) 48 y6 (fun y14 => m_x11_volume_J93 (y14 + 1) s) else if p1 = 3 then bn (m_x10_tree y6 s) (fun qrl18 => bn (m_j13_bitCount_95d88 qrl18.1 qrl18.2) (fun r20 => some (r20, qrl18.2))) else if p1 = 4 then bn (m_x1_freedWith y6 s) (fun qr24 => some (qr24.1, qr24.2)) else some ((-1), s)))
set_option maxHeartbeats 4000000 in
set_option maxRecDepth 100000 in
theorem k_x11_volume (l : Launch) (D : va_G) (a : Nat → Nat) (p0 : Int32) (p1 : Int32) (sz : Nat) (s : MS) (o : (Int32 × MS)) (h : m_x11_volume p0 p1 s = some o) : yWi l yX11_volume cX11_volume 5 (some .int) { frames := 3, cells := 0, slots := 0, locals := 180 } D sz [.ref (a 0), .int p0, .int p1] (CS D a s) (CS D a o.2) o.1 := by
  refine Met.ofW (cc := cX11_volume) (maxL := 5) (ret := (some .int)) (by decide) rfl ?_
  intro p e s₀ m args below meth c s₁ B hml hv
  obtain ⟨rfl, ⟨hsz, hP, hK, hD0⟩, hN⟩ := hv
  have hx := B.exec
  have hb := B.bytes
  have hr := B.returns
  have hts := atoms_spec (ws := wz yX11_volume cX11_volume 5 (some .int)) B.pre
  have ht : ∀ w ∈ lw_gd, w.before _ s₀ = true := fun w h => hts w (List.mem_cons_of_mem _ h)
  have hown : s₀.vm.findClass RX11 = some m.cls := findClass_of_methodNamed B.named
  have hlocks := B.notSynchronized
  subst hsz
  have hD := hD0.self (sz := s₀.heap.size)
  generalize hAe : va_A (CS D a s) s₀.heap.size = A at hD ⊢
  have hA : ∀ q : Nat, s₀.heap.size ≤ q → A q := fun q h => by rw [← hAe]; exact Or.inr h
  have hS : va_S A s₀.heap s₀.heap [] := va_S.rf
  have hDD : ∀ t : MS, va_D A (CS D a t) := fun t => CW_D t hD
  have hl := lv_entry ([.ref (a 0), .int p0, .int p1]) (n := 5) (Nat.le_of_ble_eq_true rfl)
  rw [lg_entry_eq]
  generalize (lg_sl ([.ref (a 0), .int p0, .int p1]) ++ List.replicate (5 - (lg_sl ([.ref (a 0), .int p0, .int p1])).length) Slot.unset).toArray = ls at hl ⊢
  have hl : lv_has ls 5 [(0, .ref (a 0)), (1, .int p0), (2, .int p1)] := hl
  unfold m_x11_volume at h
  refine y_head (pcJ := 93) (σ := Int32 × MS) (fun u H locs ls => va_P D vwCl (CS D a u.2) H ∧ va_S A s₀.heap H locs ∧ lv_has ls 5 [] ∧ m_x11_volume_J93 u.1 u.2 = some o) (fun u => [.int u.1]) (fun u H locs ls hI => ?_) (fun J93 => ?_)
  · obtain ⟨hP, hS, hl, h⟩ := hI
    obtain ⟨x1, s2⟩ := u
    have hP : va_P D vwCl (CS D a s2) H := hP
    have hl : lv_has ls 5 [] := hl
    have h : m_x11_volume_J93 x1 s2 = some o := h
    unfold m_x11_volume_J93 at h
    obtain rfl := Option.some.inj h
    exact W.iret (v := x1) hx hb hr (fun t ht hW => ⟨⟨_, (), rfl, rfl, by rw [ht]; exact hP, va_K.moved hW.alike hK, hDD _⟩, hS.F ht⟩) hS.2.2 dX11_volume_93
  refine lv_aload_n hx hb dX11_volume_0 rfl (lv_at hl 0 rfl) ?_
  refine va_get (D := D) (ci := 11) (v := .ref (a 49)) (C := RX11) (T := TX11) (N := 13) hx hb ht inX11 hown hK hP 0 CW_0 rfl 11 (by decide) (ht (.fieldLink RX11 79 "CloneVolumes" "forest" "LCloneVolumes$Forest;") fl_X11_79) (fun _ h9 => h9) rfl dX11_volume_1 ?_
  refine va_get (D := D) (ci := 1) (v := .ref (a 53)) (C := RX1) (T := TX1) (N := 9) hx hb ht inX1 hown hK hP 49 CW_49 rfl 0 (by decide) (ht (.fieldLink RX11 125 "CloneVolumes$Forest" "now" "LCloneVolumes$State;") fl_X11_125) (fun _ h9 => h9) rfl dX11_volume_4 ?_
  refine lv_astore_n (lv' := [(3, .ref (a 53)), (0, .ref (a 0)), (1, .int p0), (2, .int p1)]) hx hb dX11_volume_7 rfl hl (by decide) rfl (fun ls hl => ?_)
  refine lv_aload_n hx hb dX11_volume_8 rfl (lv_at hl 0 rfl) ?_
  refine lv_iload_n hx hb dX11_volume_9 rfl (lv_at hl 2 rfl) ?_
  obtain ⟨r4, hc3, h⟩ := bn_e h
  refine ycV (As := [.int p0]) (rest := []) (C := RX8) (n := 1) ⟨hx, hb, hml, hown, ht⟩ (k_x8_isVolume l D a p0 _ _ hc3) (zgV ml_X11_161 im_X8_isVolume se_X8_isVolume in_X8 co_X8_isVolume) rfl rfl (by decide +kernel) ⟨Nat.le_of_ble_eq_true rfl, Nat.le_of_ble_eq_true rfl⟩ hN hK hP hS 53 CW_53 rfl rfl rfl hl.1 rfl (Nat.le_of_ble_eq_true rfl) dX11_volume_10 ⟨Nat.le_of_ble_eq_true rfl, Nat.le_of_ble_eq_true rfl⟩ (fun H locs hP hS => ?_)
  refine lv_if_ne (tgt := 18) hx hb dX11_volume_13 (by decide) (fun c5 => ?_) (fun c5 => ?_)
  · have h := if_f c5 h
    refine lv_aload_n hx hb dX11_volume_18 rfl (lv_at hl 0 rfl) ?_
    refine va_get (D := D) (ci := 8) (v := .ref (a 60)) (C := RX8) (T := TX8) (N := 11) hx hb ht inX8 hown hK hP 53 CW_53 rfl 9 (by decide) (ht (.fieldLink RX11 165 "CloneVolumes$State" "roots" "[I") fl_X11_165) (fun _ h9 => h9) rfl dX11_volume_19 ?_
    refine lv_iload_n hx hb dX11_volume_22 rfl (lv_at hl 2 rfl) ?_
    obtain ⟨y6, ey6, iy6, h⟩ := rdI_e h
    refine ya_iald hx hb hK hP 60 0 CW_60 rfl ey6 iy6 dX11_volume_23 ?_
    refine lv_istore (lv' := [(4, .int y6), (3, .ref (a 53)), (0, .ref (a 0)), (1, .int p0), (2, .int p1)]) hx hb dX11_volume_24 hl (by decide) rfl (fun ls hl => ?_)
    refine lv_iload_n hx hb dX11_volume_26 rfl (lv_at hl 4 rfl) ?_
    by_cases c7 : p1 = 0
    · have h := if_t c7 h
      refine lv_tableIn (off := 33) (tgt := 60) hx hb dX11_volume_27 (by rw [c7]; decide) (by rw [c7]; decide) (by rw [c7]; decide) (by decide) ?_
      refine lv_iload hx hb dX11_volume_60 (lv_at hl 0 rfl) ?_
      obtain rfl := Option.some.inj h
      exact W.iret (v := y6) hx hb hr (fun t ht hW => ⟨⟨_, (), rfl, rfl, by rw [ht]; exact hP, va_K.moved hW.alike hK, hDD _⟩, hS.F ht⟩) hS.2.2 dX11_volume_62
    · have h := if_f c7 h
      by_cases c8 : p1 = 1
      · have h := if_t c8 h
        refine lv_tableIn (off := 36) (tgt := 63) hx hb dX11_volume_27 (by rw [c8]; decide) (by rw [c8]; decide) (by rw [c8]; decide) (by decide) ?_
        refine lv_aload_n hx hb dX11_volume_63 rfl (lv_at hl 2 rfl) ?_
        refine va_get (D := D) (ci := 11) (v := .ref (a 21)) (C := RX11) (T := TX11) (N := 13) hx hb ht inX11 hown hK hP 0 CW_0 rfl 5 (by decide) (ht (.fieldLink RX11 49 "CloneVolumes" "walk" "LCloneVolumes$Walk;") fl_X11_49) (fun _ h9 => h9) rfl dX11_volume_64 ?_
        refine lv_aload_n hx hb dX11_volume_67 rfl (lv_at hl 1 rfl) ?_
        refine lv_iload hx hb dX11_volume_68 (lv_at hl 0 rfl) ?_
        obtain ⟨⟨r11, s10⟩, hc9, h⟩ := bn_e h
        refine ywV (r0 := r11) (As := [.ref (a 53), .int y6]) (rest := []) (C := RX10) (n := 2) (ws' := CS D a s10) ⟨hx, hb, hml, hown, ht⟩ (k_x10_gather l D a y6 _ _ _ hc9) (zgV ml_X11_168 im_X10_gather se_X10_gather in_X10 co_X10_gather) rfl rfl (by decide +kernel) ⟨Nat.le_of_ble_eq_true rfl, Nat.le_of_ble_eq_true rfl⟩ hN hK hP (hDD _) hS hA 21 CW_21 rfl rfl rfl hl.1 rfl (Nat.le_of_ble_eq_true rfl) dX11_volume_70 ⟨Nat.le_of_ble_eq_true rfl, Nat.le_of_ble_eq_true rfl⟩ (fun H locs hP hS => ?_)
        obtain rfl := Option.some.inj h
        exact W.iret (v := r11) hx hb hr (fun t ht hW => ⟨⟨_, (), rfl, rfl, by rw [ht]; exact hP, va_K.moved hW.alike hK, hDD _⟩, hS.F ht⟩) hS.2.2 dX11_volume_73
      · have h := if_f c8 h
        by_cases c12 : p1 = 2
        · have h := if_t c12 h
          refine lv_tableIn (off := 47) (tgt := 74) hx hb dX11_volume_27 (by rw [c12]; decide) (by rw [c12]; decide) (by rw [c12]; decide) (by decide) ?_
          refine lv_iload hx hb dX11_volume_74 (lv_at hl 0 rfl) ?_
          refine lv_iconst (v := (-1)) hx hb dX11_volume_76 (by decide) ?_
          refine lv_icmp_ne (tgt := 84) hx hb dX11_volume_77 (by decide) (fun c13 => ?_) (fun c13 => ?_)
          · have h := if_f c13 h
            refine lv_aload_n hx hb dX11_volume_84 rfl (lv_at hl 1 rfl) ?_
            refine va_get (D := D) (ci := 8) (v := .ref (a 56)) (C := RX8) (T := TX8) (N := 11) hx hb ht inX8 hown hK hP 53 CW_53 rfl 5 (by decide) (ht (.fieldLink RX11 172 "CloneVolumes$State" "level" "[I") fl_X11_172) (fun _ h9 => h9) rfl dX11_volume_85 ?_
            refine lv_iload hx hb dX11_volume_88 (lv_at hl 0 rfl) ?_
            obtain ⟨y14, ey14, iy14, h⟩ := rdI_e h
            refine ya_iald hx hb hK hP 56 0 CW_56 rfl ey14 iy14 dX11_volume_90 ?_
            refine lv_iconst (v := 1) hx hb dX11_volume_91 (by decide) ?_
            refine lv_iadd hx hb dX11_volume_92 ?_
            exact J93 (y14 + 1, s) _ _ _ ⟨hP, hS, lv_sub hl [] rfl, h⟩
          · have h := if_t c13 h
            refine lv_iconst (v := 0) hx hb dX11_volume_80 (by decide) ?_
            refine lv_goto (tgt := 93) hx hb dX11_volume_81 (by decide) ?_
            exact J93 (0, s) _ _ _ ⟨hP, hS, lv_sub hl [] rfl, h⟩
        · have h := if_f c12 h
          by_cases c15 : p1 = 3
          · have h := if_t c15 h
            refine lv_tableIn (off := 67) (tgt := 94) hx hb dX11_volume_27 (by rw [c15]; decide) (by rw [c15]; decide) (by rw [c15]; decide) (by decide) ?_
            refine lv_aload_n hx hb dX11_volume_94 rfl (lv_at hl 2 rfl) ?_
            refine va_get (D := D) (ci := 11) (v := .ref (a 21)) (C := RX11) (T := TX11) (N := 13) hx hb ht inX11 hown hK hP 0 CW_0 rfl 5 (by decide) (ht (.fieldLink RX11 49 "CloneVolumes" "walk" "LCloneVolumes$Walk;") fl_X11_49) (fun _ h9 => h9) rfl dX11_volume_95 ?_
            refine lv_aload_n hx hb dX11_volume_98 rfl (lv_at hl 1 rfl) ?_
            refine lv_iload hx hb dX11_volume_99 (lv_at hl 0 rfl) ?_
            obtain ⟨⟨rl18, s17⟩, hc16, h⟩ := bn_e h
            refine ywVl (r0 := rl18) (As := [.ref (a 53), .int y6]) (rest := []) (C := RX10) (n := 2) (ws' := CS D a s17) ⟨hx, hb, hml, hown, ht⟩ (k_x10_tree l D a y6 _ _ _ hc16) (zgV ml_X11_175 im_X10_tree se_X10_tree in_X10 co_X10_tree) rfl rfl (by decide +kernel) ⟨Nat.le_of_ble_eq_true rfl, Nat.le_of_ble_eq_true rfl⟩ hN hK hP (hDD _) hS hA 21 CW_21 rfl rfl rfl hl.1 rfl (Nat.le_of_ble_eq_true rfl) dX11_volume_101 ⟨Nat.le_of_ble_eq_true rfl, Nat.le_of_ble_eq_true rfl⟩ (fun H locs hP hS => ?_)
            obtain ⟨r20, hc19, h⟩ := bn_e h
            refine ycS (As := [.long rl18]) (rest := []) (n := 1) ⟨hx, hb, hml, hown, ht⟩ (k_j13_bitCount_95d88 l D a rl18 _ _ hc19) (zgT ml_X11_179 st_J13_bitCount_95d88 in_J13 co_J13_bitCount_95d88) rfl rfl (by decide +kernel) ⟨Nat.le_of_ble_eq_true rfl, Nat.le_of_ble_eq_true rfl⟩ hN hK hP hS rfl hl.1 rfl (Nat.le_of_ble_eq_true rfl) dX11_volume_104 ⟨Nat.le_of_ble_eq_true rfl, Nat.le_of_ble_eq_true rfl⟩ (fun H locs hP hS => ?_)
            obtain rfl := Option.some.inj h
            exact W.iret (v := r20) hx hb hr (fun t ht hW => ⟨⟨_, (), rfl, rfl, by rw [ht]; exact hP, va_K.moved hW.alike hK, hDD _⟩, hS.F ht⟩) hS.2.2 dX11_volume_107
          · have h := if_f c15 h
            by_cases c21 : p1 = 4
            · have h := if_t c21 h
              refine lv_tableIn (off := 81) (tgt := 108) hx hb dX11_volume_27 (by rw [c21]; decide) (by rw [c21]; decide) (by rw [c21]; decide) (by decide) ?_
              refine lv_aload_n hx hb dX11_volume_108 rfl (lv_at hl 2 rfl) ?_
              refine va_get (D := D) (ci := 11) (v := .ref (a 49)) (C := RX11) (T := TX11) (N := 13) hx hb ht inX11 hown hK hP 0 CW_0 rfl 11 (by decide) (ht (.fieldLink RX11 79 "CloneVolumes" "forest" "LCloneVolumes$Forest;") fl_X11_79) (fun _ h9 => h9) rfl dX11_volume_109 ?_
              refine lv_iload hx hb dX11_volume_112 (lv_at hl 0 rfl) ?_
              obtain ⟨⟨r24, s23⟩, hc22, h⟩ := bn_e h
              refine ywV (r0 := r24) (As := [.int y6]) (rest := []) (C := RX1) (n := 1) (ws' := CS D a s23) ⟨hx, hb, hml, hown, ht⟩ (k_x1_freedWith l D a y6 _ _ _ hc22) (zgV ml_X11_185 im_X1_freedWith se_X1_freedWith in_X1 co_X1_freedWith) rfl rfl (by decide +kernel) ⟨Nat.le_of_ble_eq_true rfl, Nat.le_of_ble_eq_true rfl⟩ hN hK hP (hDD _) hS hA 49 CW_49 rfl rfl rfl hl.1 rfl (Nat.le_of_ble_eq_true rfl) dX11_volume_114 ⟨Nat.le_of_ble_eq_true rfl, Nat.le_of_ble_eq_true rfl⟩ (fun H locs hP hS => ?_)
              obtain rfl := Option.some.inj h
              exact W.iret (v := r24) hx hb hr (fun t ht hW => ⟨⟨_, (), rfl, rfl, by rw [ht]; exact hP, va_K.moved hW.alike hK, hDD _⟩, hS.F ht⟩) hS.2.2 dX11_volume_117
            · have h := if_f c21 h
              have gc7 := lv_neT (a := 0) c7 (by decide)
              have gc8 := lv_neT (a := 1) c8 (by decide)
              have gc12 := lv_neT (a := 2) c12 (by decide)
              have gc15 := lv_neT (a := 3) c15 (by decide)
              have gc21 := lv_neT (a := 4) c21 (by decide)
              refine lv_tableOut (tgt := 118) hx hb dX11_volume_27 (by omega) (by decide) ?_
              refine lv_iconst (v := (-1)) hx hb dX11_volume_118 (by decide) ?_
              obtain rfl := Option.some.inj h
              exact W.iret (v := (-1)) hx hb hr (fun t ht hW => ⟨⟨_, (), rfl, rfl, by rw [ht]; exact hP, va_K.moved hW.alike hK, hDD _⟩, hS.F ht⟩) hS.2.2 dX11_volume_119
  · have h := if_t c5 h
    refine lv_iconst (v := (-1)) hx hb dX11_volume_16 (by decide) ?_
    obtain rfl := Option.some.inj h
    exact W.iret (v := (-1)) hx hb hr (fun t ht hW => ⟨⟨_, (), rfl, rfl, by rw [ht]; exact hP, va_K.moved hW.alike hK, hDD _⟩, hS.F ht⟩) hS.2.2 dX11_volume_17
def m_x8_inUse_J22 (s : MS) (x1 : Int32) : Option Int32 :=
  bo x1 (some x1)
def m_x8_inUse_J21 (s : MS) (_u : Unit) : Option Int32 :=
  m_x8_inUse_J22 s 0
def m_x8_inUse (p0 : Int32) (s : MS) : Option Int32 :=
  bn (m_x8_isBlock p0 s) (fun r4 => if r4 = 0 then m_x8_inUse_J21 s () else rdI (gA s 54) 48 p0 (fun y6 => if y6 ≤ 0 then m_x8_inUse_J21 s () else m_x8_inUse_J22 s 1))
set_option maxHeartbeats 4000000 in
set_option maxRecDepth 100000 in
theorem k_x8_inUse (l : Launch) (D : va_G) (a : Nat → Nat) (p0 : Int32) (s : MS) (o : Int32) (h : m_x8_inUse p0 s = some o) : yRi l yX8_inUse cX8_inUse 2 (some .boolean) { frames := 1, cells := 0, slots := 0, locals := 60 } D [.ref (a 53), .int p0] (CS D a s) o := by
  refine Met.ofW (cc := cX8_inUse) (maxL := 2) (ret := (some .boolean)) (by decide) rfl ?_
  intro p e s₀ m args below meth c s₁ B hml hv
  obtain ⟨rfl, ⟨hP, hK⟩, hN⟩ := hv
  have hx := B.exec
  have hb := B.bytes
  have hr := B.returns
  have hts := atoms_spec (ws := wz yX8_inUse cX8_inUse 2 (some .boolean)) B.pre
  have ht : ∀ w ∈ lw_gd, w.before _ s₀ = true := fun w h => hts w (List.mem_cons_of_mem _ h)
  have hown : s₀.vm.findClass RX8 = some m.cls := findClass_of_methodNamed B.named
  have hlocks := B.notSynchronized
  have hS : va_S (fun _ => False) s₀.heap s₀.heap [] := va_S.rf
  have hl := lv_entry ([.ref (a 53), .int p0]) (n := 2) (Nat.le_of_ble_eq_true rfl)
  rw [lg_entry_eq]
  generalize (lg_sl ([.ref (a 53), .int p0]) ++ List.replicate (2 - (lg_sl ([.ref (a 53), .int p0])).length) Slot.unset).toArray = ls at hl ⊢
  have hl : lv_has ls 2 [(0, .ref (a 53)), (1, .int p0)] := hl
  unfold m_x8_inUse at h
  refine y_head (pcJ := 22) (σ := Int32) (fun u H locs ls => va_P D vwCl (CS D a s) H ∧ va_S (fun _ => False) s₀.heap H locs ∧ lv_has ls 2 [] ∧ m_x8_inUse_J22 s u = some o) (fun u => [.int u]) (fun u H locs ls hI => ?_) (fun J22 => ?_)
  · obtain ⟨hP, hS, hl, h⟩ := hI
    obtain ⟨x1, rfl⟩ : ∃ z, z = u := ⟨u, rfl⟩
    have hP : va_P D vwCl (CS D a s) H := hP
    have hl : lv_has ls 2 [] := hl
    have h : m_x8_inUse_J22 s x1 = some o := h
    unfold m_x8_inUse_J22 at h
    obtain ⟨hb2, h⟩ := bo_e h
    obtain rfl := Option.some.inj h
    exact W.zret (v := x1) hx hb hr (bo_n hb2) (fun t ht hW => ⟨⟨_, (), rfl, rfl, trivial⟩, hS.F ht⟩) hS.2.2 dX8_inUse_22
  refine y_head (pcJ := 21) (σ := Unit) (fun u H locs ls => va_P D vwCl (CS D a s) H ∧ va_S (fun _ => False) s₀.heap H locs ∧ lv_has ls 2 [] ∧ m_x8_inUse_J21 s u = some o) (fun u => []) (fun u H locs ls hI => ?_) (fun J21 => ?_)
  · obtain ⟨hP, hS, hl, h⟩ := hI
    skip
    have hP : va_P D vwCl (CS D a s) H := hP
    have hl : lv_has ls 2 [] := hl
    have h : m_x8_inUse_J21 s () = some o := h
    unfold m_x8_inUse_J21 at h
    refine lv_iconst (v := 0) hx hb dX8_inUse_21 (by decide) ?_
    exact J22 0 _ _ _ ⟨hP, hS, lv_sub hl [] rfl, h⟩
  refine lv_aload_n hx hb dX8_inUse_0 rfl (lv_at hl 0 rfl) ?_
  refine lv_iload_n hx hb dX8_inUse_1 rfl (lv_at hl 1 rfl) ?_
  obtain ⟨r4, hc3, h⟩ := bn_e h
  refine ycV (As := [.int p0]) (rest := []) (C := RX8) (n := 1) ⟨hx, hb, hml, hown, ht⟩ (k_x8_isBlock l D a p0 _ _ hc3) (zgV ml_X8_57 im_X8_isBlock se_X8_isBlock in_X8 co_X8_isBlock) rfl rfl (by decide +kernel) ⟨Nat.le_of_ble_eq_true rfl, Nat.le_of_ble_eq_true rfl⟩ hN hK hP hS 53 CW_53 rfl rfl rfl hl.1 rfl (Nat.le_of_ble_eq_true rfl) dX8_inUse_2 ⟨Nat.le_of_ble_eq_true rfl, Nat.le_of_ble_eq_true rfl⟩ (fun H locs hP hS => ?_)
  refine lv_if_eq (tgt := 21) hx hb dX8_inUse_5 (by decide) (fun c5 => ?_) (fun c5 => ?_)
  · have h := if_t c5 h
    exact J21 () _ _ _ ⟨hP, hS, lv_sub hl [] rfl, h⟩
  · have h := if_f c5 h
    refine lv_aload_n hx hb dX8_inUse_8 rfl (lv_at hl 0 rfl) ?_
    refine va_get (D := D) (ci := 8) (v := .ref (a 54)) (C := RX8) (T := TX8) (N := 11) hx hb ht inX8 hown hK hP 53 CW_53 rfl 3 (by decide) (ht (.fieldLink RX8 9 "CloneVolumes$State" "count" "[I") fl_X8_9) (fun _ h9 => h9) rfl dX8_inUse_9 ?_
    refine lv_iload_n hx hb dX8_inUse_12 rfl (lv_at hl 1 rfl) ?_
    obtain ⟨y6, ey6, iy6, h⟩ := rdI_e h
    refine ya_iald hx hb hK hP 54 0 CW_54 rfl ey6 iy6 dX8_inUse_13 ?_
    refine lv_if_le (tgt := 21) hx hb dX8_inUse_14 (by decide) (fun c7 => ?_) (fun c7 => ?_)
    · have h := if_t c7 h
      exact J21 () _ _ _ ⟨hP, hS, lv_sub hl [] rfl, h⟩
    · have h := if_f c7 h
      refine lv_iconst (v := 1) hx hb dX8_inUse_17 (by decide) ?_
      refine lv_goto (tgt := 22) hx hb dX8_inUse_18 (by decide) ?_
      exact J22 1 _ _ _ ⟨hP, hS, lv_sub hl [] rfl, h⟩
def m_x8_levelOf_J26 (s : MS) (x1 : Int32) : Option Int32 :=
  some x1
def m_x8_levelOf_J16 (s : MS) (x2 : Int32) : Option Int32 :=
  rdI (gA s 56) 48 x2 (fun y3 => m_x8_levelOf_J26 s y3)
def m_x8_levelOf (p0 : Int32) (s : MS) : Option Int32 :=
  bn (m_x8_inUse p0 s) (fun r5 => if r5 = 0 then bn (m_x8_isHeld p0 s) (fun r8 => if r8 = 0 then m_x8_levelOf_J26 s 0 else m_x8_levelOf_J16 s p0) else m_x8_levelOf_J16 s p0)
set_option maxHeartbeats 4000000 in
set_option maxRecDepth 100000 in
theorem k_x8_levelOf (l : Launch) (D : va_G) (a : Nat → Nat) (p0 : Int32) (s : MS) (o : Int32) (h : m_x8_levelOf p0 s = some o) : yRi l yX8_levelOf cX8_levelOf 2 (some .int) { frames := 2, cells := 0, slots := 0, locals := 120 } D [.ref (a 53), .int p0] (CS D a s) o := by
  refine Met.ofW (cc := cX8_levelOf) (maxL := 2) (ret := (some .int)) (by decide) rfl ?_
  intro p e s₀ m args below meth c s₁ B hml hv
  obtain ⟨rfl, ⟨hP, hK⟩, hN⟩ := hv
  have hx := B.exec
  have hb := B.bytes
  have hr := B.returns
  have hts := atoms_spec (ws := wz yX8_levelOf cX8_levelOf 2 (some .int)) B.pre
  have ht : ∀ w ∈ lw_gd, w.before _ s₀ = true := fun w h => hts w (List.mem_cons_of_mem _ h)
  have hown : s₀.vm.findClass RX8 = some m.cls := findClass_of_methodNamed B.named
  have hlocks := B.notSynchronized
  have hS : va_S (fun _ => False) s₀.heap s₀.heap [] := va_S.rf
  have hl := lv_entry ([.ref (a 53), .int p0]) (n := 2) (Nat.le_of_ble_eq_true rfl)
  rw [lg_entry_eq]
  generalize (lg_sl ([.ref (a 53), .int p0]) ++ List.replicate (2 - (lg_sl ([.ref (a 53), .int p0])).length) Slot.unset).toArray = ls at hl ⊢
  have hl : lv_has ls 2 [(0, .ref (a 53)), (1, .int p0)] := hl
  unfold m_x8_levelOf at h
  refine y_head (pcJ := 26) (σ := Int32) (fun u H locs ls => va_P D vwCl (CS D a s) H ∧ va_S (fun _ => False) s₀.heap H locs ∧ lv_has ls 2 [] ∧ m_x8_levelOf_J26 s u = some o) (fun u => [.int u]) (fun u H locs ls hI => ?_) (fun J26 => ?_)
  · obtain ⟨hP, hS, hl, h⟩ := hI
    obtain ⟨x1, rfl⟩ : ∃ z, z = u := ⟨u, rfl⟩
    have hP : va_P D vwCl (CS D a s) H := hP
    have hl : lv_has ls 2 [] := hl
    have h : m_x8_levelOf_J26 s x1 = some o := h
    unfold m_x8_levelOf_J26 at h
    obtain rfl := Option.some.inj h
    exact W.iret (v := x1) hx hb hr (fun t ht hW => ⟨⟨_, (), rfl, rfl, trivial⟩, hS.F ht⟩) hS.2.2 dX8_levelOf_26
  refine y_head (pcJ := 16) (σ := Int32) (fun u H locs ls => va_P D vwCl (CS D a s) H ∧ va_S (fun _ => False) s₀.heap H locs ∧ lv_has ls 2 [(0, .ref (a 53)), (1, .int u)] ∧ m_x8_levelOf_J16 s u = some o) (fun u => []) (fun u H locs ls hI => ?_) (fun J16 => ?_)
  · obtain ⟨hP, hS, hl, h⟩ := hI
    obtain ⟨x2, rfl⟩ : ∃ z, z = u := ⟨u, rfl⟩
    have hP : va_P D vwCl (CS D a s) H := hP
    have hl : lv_has ls 2 [(0, .ref (a 53)), (1, .int x2)] := hl
    have h : m_x8_levelOf_J16 s x2 = some o := h
    unfold m_x8_levelOf_J16 at h
    refine lv_aload_n hx hb dX8_levelOf_16 rfl (lv_at hl 0 rfl) ?_
    refine va_get (D := D) (ci := 8) (v := .ref (a 56)) (C := RX8) (T := TX8) (N := 11) hx hb ht inX8 hown hK hP 53 CW_53 rfl 5 (by decide) (ht (.fieldLink RX8 18 "CloneVolumes$State" "level" "[I") fl_X8_18) (fun _ h9 => h9) rfl dX8_levelOf_17 ?_
    refine lv_iload_n hx hb dX8_levelOf_20 rfl (lv_at hl 1 rfl) ?_
    obtain ⟨y3, ey3, iy3, h⟩ := rdI_e h
    refine ya_iald hx hb hK hP 56 0 CW_56 rfl ey3 iy3 dX8_levelOf_21 ?_
    refine lv_goto (tgt := 26) hx hb dX8_levelOf_22 (by decide) ?_
    exact J26 y3 _ _ _ ⟨hP, hS, lv_sub hl [] rfl, h⟩
  refine lv_aload_n hx hb dX8_levelOf_0 rfl (lv_at hl 0 rfl) ?_
  refine lv_iload_n hx hb dX8_levelOf_1 rfl (lv_at hl 1 rfl) ?_
  obtain ⟨r5, hc4, h⟩ := bn_e h
  refine ycV (As := [.int p0]) (rest := []) (C := RX8) (n := 1) ⟨hx, hb, hml, hown, ht⟩ (k_x8_inUse l D a p0 _ _ hc4) (zgV ml_X8_61 im_X8_inUse se_X8_inUse in_X8 co_X8_inUse) rfl rfl (by decide +kernel) ⟨Nat.le_of_ble_eq_true rfl, Nat.le_of_ble_eq_true rfl⟩ hN hK hP hS 53 CW_53 rfl rfl rfl hl.1 rfl (Nat.le_of_ble_eq_true rfl) dX8_levelOf_2 ⟨Nat.le_of_ble_eq_true rfl, Nat.le_of_ble_eq_true rfl⟩ (fun H locs hP hS => ?_)
  refine lv_if_ne (tgt := 16) hx hb dX8_levelOf_5 (by decide) (fun c6 => ?_) (fun c6 => ?_)
  · have h := if_f c6 h
    exact J16 p0 _ _ _ ⟨hP, hS, lv_sub hl [0, 1] rfl, h⟩
  · have h := if_t c6 h
    refine lv_aload_n hx hb dX8_levelOf_8 rfl (lv_at hl 0 rfl) ?_
    refine lv_iload_n hx hb dX8_levelOf_9 rfl (lv_at hl 1 rfl) ?_
    obtain ⟨r8, hc7, h⟩ := bn_e h
    refine ycV (As := [.int p0]) (rest := []) (C := RX8) (n := 1) ⟨hx, hb, hml, hown, ht⟩ (k_x8_isHeld l D a p0 _ _ hc7) (zgV ml_X8_64 im_X8_isHeld se_X8_isHeld in_X8 co_X8_isHeld) rfl rfl (by decide +kernel) ⟨Nat.le_of_ble_eq_true rfl, Nat.le_of_ble_eq_true rfl⟩ hN hK hP hS 53 CW_53 rfl rfl rfl hl.1 rfl (Nat.le_of_ble_eq_true rfl) dX8_levelOf_10 ⟨Nat.le_of_ble_eq_true rfl, Nat.le_of_ble_eq_true rfl⟩ (fun H locs hP hS => ?_)
    refine lv_if_eq (tgt := 25) hx hb dX8_levelOf_13 (by decide) (fun c9 => ?_) (fun c9 => ?_)
    · have h := if_t c9 h
      refine lv_iconst (v := 0) hx hb dX8_levelOf_25 (by decide) ?_
      exact J26 0 _ _ _ ⟨hP, hS, lv_sub hl [] rfl, h⟩
    · have h := if_f c9 h
      exact J16 p0 _ _ _ ⟨hP, hS, lv_sub hl [0, 1] rfl, h⟩
def m_x8_sizeOf_J26 (s : MS) (x1 : Int32) : Option Int32 :=
  some x1
def m_x8_sizeOf_J16 (s : MS) (x2 : Int32) : Option Int32 :=
  rdI (gA s 57) 48 x2 (fun y3 => m_x8_sizeOf_J26 s y3)
def m_x8_sizeOf (p0 : Int32) (s : MS) : Option Int32 :=
  bn (m_x8_inUse p0 s) (fun r5 => if r5 = 0 then bn (m_x8_isHeld p0 s) (fun r8 => if r8 = 0 then m_x8_sizeOf_J26 s 0 else m_x8_sizeOf_J16 s p0) else m_x8_sizeOf_J16 s p0)
set_option maxHeartbeats 4000000 in
set_option maxRecDepth 100000 in
theorem k_x8_sizeOf (l : Launch) (D : va_G) (a : Nat → Nat) (p0 : Int32) (s : MS) (o : Int32) (h : m_x8_sizeOf p0 s = some o) : yRi l yX8_sizeOf cX8_sizeOf 2 (some .int) { frames := 2, cells := 0, slots := 0, locals := 120 } D [.ref (a 53), .int p0] (CS D a s) o := by
  refine Met.ofW (cc := cX8_sizeOf) (maxL := 2) (ret := (some .int)) (by decide) rfl ?_
  intro p e s₀ m args below meth c s₁ B hml hv
  obtain ⟨rfl, ⟨hP, hK⟩, hN⟩ := hv
  have hx := B.exec
  have hb := B.bytes
  have hr := B.returns
  have hts := atoms_spec (ws := wz yX8_sizeOf cX8_sizeOf 2 (some .int)) B.pre
  have ht : ∀ w ∈ lw_gd, w.before _ s₀ = true := fun w h => hts w (List.mem_cons_of_mem _ h)
  have hown : s₀.vm.findClass RX8 = some m.cls := findClass_of_methodNamed B.named
  have hlocks := B.notSynchronized
  have hS : va_S (fun _ => False) s₀.heap s₀.heap [] := va_S.rf
  have hl := lv_entry ([.ref (a 53), .int p0]) (n := 2) (Nat.le_of_ble_eq_true rfl)
  rw [lg_entry_eq]
  generalize (lg_sl ([.ref (a 53), .int p0]) ++ List.replicate (2 - (lg_sl ([.ref (a 53), .int p0])).length) Slot.unset).toArray = ls at hl ⊢
  have hl : lv_has ls 2 [(0, .ref (a 53)), (1, .int p0)] := hl
  unfold m_x8_sizeOf at h
  refine y_head (pcJ := 26) (σ := Int32) (fun u H locs ls => va_P D vwCl (CS D a s) H ∧ va_S (fun _ => False) s₀.heap H locs ∧ lv_has ls 2 [] ∧ m_x8_sizeOf_J26 s u = some o) (fun u => [.int u]) (fun u H locs ls hI => ?_) (fun J26 => ?_)
  · obtain ⟨hP, hS, hl, h⟩ := hI
    obtain ⟨x1, rfl⟩ : ∃ z, z = u := ⟨u, rfl⟩
    have hP : va_P D vwCl (CS D a s) H := hP
    have hl : lv_has ls 2 [] := hl
    have h : m_x8_sizeOf_J26 s x1 = some o := h
    unfold m_x8_sizeOf_J26 at h
    obtain rfl := Option.some.inj h
    exact W.iret (v := x1) hx hb hr (fun t ht hW => ⟨⟨_, (), rfl, rfl, trivial⟩, hS.F ht⟩) hS.2.2 dX8_sizeOf_26
  refine y_head (pcJ := 16) (σ := Int32) (fun u H locs ls => va_P D vwCl (CS D a s) H ∧ va_S (fun _ => False) s₀.heap H locs ∧ lv_has ls 2 [(0, .ref (a 53)), (1, .int u)] ∧ m_x8_sizeOf_J16 s u = some o) (fun u => []) (fun u H locs ls hI => ?_) (fun J16 => ?_)
  · obtain ⟨hP, hS, hl, h⟩ := hI
    obtain ⟨x2, rfl⟩ : ∃ z, z = u := ⟨u, rfl⟩
    have hP : va_P D vwCl (CS D a s) H := hP
    have hl : lv_has ls 2 [(0, .ref (a 53)), (1, .int x2)] := hl
    have h : m_x8_sizeOf_J16 s x2 = some o := h
    unfold m_x8_sizeOf_J16 at h
    refine lv_aload_n hx hb dX8_sizeOf_16 rfl (lv_at hl 0 rfl) ?_
    refine va_get (D := D) (ci := 8) (v := .ref (a 57)) (C := RX8) (T := TX8) (N := 11) hx hb ht inX8 hown hK hP 53 CW_53 rfl 6 (by decide) (ht (.fieldLink RX8 21 "CloneVolumes$State" "size" "[I") fl_X8_21) (fun _ h9 => h9) rfl dX8_sizeOf_17 ?_
    refine lv_iload_n hx hb dX8_sizeOf_20 rfl (lv_at hl 1 rfl) ?_
    obtain ⟨y3, ey3, iy3, h⟩ := rdI_e h
    refine ya_iald hx hb hK hP 57 0 CW_57 rfl ey3 iy3 dX8_sizeOf_21 ?_
    refine lv_goto (tgt := 26) hx hb dX8_sizeOf_22 (by decide) ?_
    exact J26 y3 _ _ _ ⟨hP, hS, lv_sub hl [] rfl, h⟩
  refine lv_aload_n hx hb dX8_sizeOf_0 rfl (lv_at hl 0 rfl) ?_
  refine lv_iload_n hx hb dX8_sizeOf_1 rfl (lv_at hl 1 rfl) ?_
  obtain ⟨r5, hc4, h⟩ := bn_e h
  refine ycV (As := [.int p0]) (rest := []) (C := RX8) (n := 1) ⟨hx, hb, hml, hown, ht⟩ (k_x8_inUse l D a p0 _ _ hc4) (zgV ml_X8_61 im_X8_inUse se_X8_inUse in_X8 co_X8_inUse) rfl rfl (by decide +kernel) ⟨Nat.le_of_ble_eq_true rfl, Nat.le_of_ble_eq_true rfl⟩ hN hK hP hS 53 CW_53 rfl rfl rfl hl.1 rfl (Nat.le_of_ble_eq_true rfl) dX8_sizeOf_2 ⟨Nat.le_of_ble_eq_true rfl, Nat.le_of_ble_eq_true rfl⟩ (fun H locs hP hS => ?_)
  refine lv_if_ne (tgt := 16) hx hb dX8_sizeOf_5 (by decide) (fun c6 => ?_) (fun c6 => ?_)
  · have h := if_f c6 h
    exact J16 p0 _ _ _ ⟨hP, hS, lv_sub hl [0, 1] rfl, h⟩
  · have h := if_t c6 h
    refine lv_aload_n hx hb dX8_sizeOf_8 rfl (lv_at hl 0 rfl) ?_
    refine lv_iload_n hx hb dX8_sizeOf_9 rfl (lv_at hl 1 rfl) ?_
    obtain ⟨r8, hc7, h⟩ := bn_e h
    refine ycV (As := [.int p0]) (rest := []) (C := RX8) (n := 1) ⟨hx, hb, hml, hown, ht⟩ (k_x8_isHeld l D a p0 _ _ hc7) (zgV ml_X8_64 im_X8_isHeld se_X8_isHeld in_X8 co_X8_isHeld) rfl rfl (by decide +kernel) ⟨Nat.le_of_ble_eq_true rfl, Nat.le_of_ble_eq_true rfl⟩ hN hK hP hS 53 CW_53 rfl rfl rfl hl.1 rfl (Nat.le_of_ble_eq_true rfl) dX8_sizeOf_10 ⟨Nat.le_of_ble_eq_true rfl, Nat.le_of_ble_eq_true rfl⟩ (fun H locs hP hS => ?_)
    refine lv_if_eq (tgt := 25) hx hb dX8_sizeOf_13 (by decide) (fun c9 => ?_) (fun c9 => ?_)
    · have h := if_t c9 h
      refine lv_iconst (v := 0) hx hb dX8_sizeOf_25 (by decide) ?_
      exact J26 0 _ _ _ ⟨hP, hS, lv_sub hl [] rfl, h⟩
    · have h := if_f c9 h
      exact J16 p0 _ _ _ ⟨hP, hS, lv_sub hl [0, 1] rfl, h⟩
def m_x8_isFresh_J31 (s : MS) (x1 : Int32) : Option Int32 :=
  bo x1 (some x1)
def m_x8_isFresh_J30 (s : MS) (_u : Unit) : Option Int32 :=
  m_x8_isFresh_J31 s 0
def m_x8_isFresh (p0 : Int32) (s : MS) : Option Int32 :=
  bn (m_x8_isBlock p0 s) (fun r4 => if r4 = 0 then m_x8_isFresh_J30 s () else rdI (gA s 54) 48 p0 (fun y6 => if y6 ≤ 0 then m_x8_isFresh_J30 s () else rdI (gA s 55) 48 p0 (fun y8 => if y8 = 0 then m_x8_isFresh_J31 s 1 else m_x8_isFresh_J30 s ())))
set_option maxHeartbeats 4000000 in
set_option maxRecDepth 100000 in
theorem k_x8_isFresh (l : Launch) (D : va_G) (a : Nat → Nat) (p0 : Int32) (s : MS) (o : Int32) (h : m_x8_isFresh p0 s = some o) : yRi l yX8_isFresh cX8_isFresh 2 (some .boolean) { frames := 1, cells := 0, slots := 0, locals := 60 } D [.ref (a 53), .int p0] (CS D a s) o := by
  refine Met.ofW (cc := cX8_isFresh) (maxL := 2) (ret := (some .boolean)) (by decide) rfl ?_
  intro p e s₀ m args below meth c s₁ B hml hv
  obtain ⟨rfl, ⟨hP, hK⟩, hN⟩ := hv
  have hx := B.exec
  have hb := B.bytes
  have hr := B.returns
  have hts := atoms_spec (ws := wz yX8_isFresh cX8_isFresh 2 (some .boolean)) B.pre
  have ht : ∀ w ∈ lw_gd, w.before _ s₀ = true := fun w h => hts w (List.mem_cons_of_mem _ h)
  have hown : s₀.vm.findClass RX8 = some m.cls := findClass_of_methodNamed B.named
  have hlocks := B.notSynchronized
  have hS : va_S (fun _ => False) s₀.heap s₀.heap [] := va_S.rf
  have hl := lv_entry ([.ref (a 53), .int p0]) (n := 2) (Nat.le_of_ble_eq_true rfl)
  rw [lg_entry_eq]
  generalize (lg_sl ([.ref (a 53), .int p0]) ++ List.replicate (2 - (lg_sl ([.ref (a 53), .int p0])).length) Slot.unset).toArray = ls at hl ⊢
  have hl : lv_has ls 2 [(0, .ref (a 53)), (1, .int p0)] := hl
  unfold m_x8_isFresh at h
  refine y_head (pcJ := 31) (σ := Int32) (fun u H locs ls => va_P D vwCl (CS D a s) H ∧ va_S (fun _ => False) s₀.heap H locs ∧ lv_has ls 2 [] ∧ m_x8_isFresh_J31 s u = some o) (fun u => [.int u]) (fun u H locs ls hI => ?_) (fun J31 => ?_)
  · obtain ⟨hP, hS, hl, h⟩ := hI
    obtain ⟨x1, rfl⟩ : ∃ z, z = u := ⟨u, rfl⟩
    have hP : va_P D vwCl (CS D a s) H := hP
    have hl : lv_has ls 2 [] := hl
    have h : m_x8_isFresh_J31 s x1 = some o := h
    unfold m_x8_isFresh_J31 at h
    obtain ⟨hb2, h⟩ := bo_e h
    obtain rfl := Option.some.inj h
    exact W.zret (v := x1) hx hb hr (bo_n hb2) (fun t ht hW => ⟨⟨_, (), rfl, rfl, trivial⟩, hS.F ht⟩) hS.2.2 dX8_isFresh_31
  refine y_head (pcJ := 30) (σ := Unit) (fun u H locs ls => va_P D vwCl (CS D a s) H ∧ va_S (fun _ => False) s₀.heap H locs ∧ lv_has ls 2 [] ∧ m_x8_isFresh_J30 s u = some o) (fun u => []) (fun u H locs ls hI => ?_) (fun J30 => ?_)
  · obtain ⟨hP, hS, hl, h⟩ := hI
    skip
    have hP : va_P D vwCl (CS D a s) H := hP
    have hl : lv_has ls 2 [] := hl
    have h : m_x8_isFresh_J30 s () = some o := h
    unfold m_x8_isFresh_J30 at h
    refine lv_iconst (v := 0) hx hb dX8_isFresh_30 (by decide) ?_
    exact J31 0 _ _ _ ⟨hP, hS, lv_sub hl [] rfl, h⟩
  refine lv_aload_n hx hb dX8_isFresh_0 rfl (lv_at hl 0 rfl) ?_
  refine lv_iload_n hx hb dX8_isFresh_1 rfl (lv_at hl 1 rfl) ?_
  obtain ⟨r4, hc3, h⟩ := bn_e h
  refine ycV (As := [.int p0]) (rest := []) (C := RX8) (n := 1) ⟨hx, hb, hml, hown, ht⟩ (k_x8_isBlock l D a p0 _ _ hc3) (zgV ml_X8_57 im_X8_isBlock se_X8_isBlock in_X8 co_X8_isBlock) rfl rfl (by decide +kernel) ⟨Nat.le_of_ble_eq_true rfl, Nat.le_of_ble_eq_true rfl⟩ hN hK hP hS 53 CW_53 rfl rfl rfl hl.1 rfl (Nat.le_of_ble_eq_true rfl) dX8_isFresh_2 ⟨Nat.le_of_ble_eq_true rfl, Nat.le_of_ble_eq_true rfl⟩ (fun H locs hP hS => ?_)
  refine lv_if_eq (tgt := 30) hx hb dX8_isFresh_5 (by decide) (fun c5 => ?_) (fun c5 => ?_)
  · have h := if_t c5 h
    exact J30 () _ _ _ ⟨hP, hS, lv_sub hl [] rfl, h⟩
  · have h := if_f c5 h
    refine lv_aload_n hx hb dX8_isFresh_8 rfl (lv_at hl 0 rfl) ?_
    refine va_get (D := D) (ci := 8) (v := .ref (a 54)) (C := RX8) (T := TX8) (N := 11) hx hb ht inX8 hown hK hP 53 CW_53 rfl 3 (by decide) (ht (.fieldLink RX8 9 "CloneVolumes$State" "count" "[I") fl_X8_9) (fun _ h9 => h9) rfl dX8_isFresh_9 ?_
    refine lv_iload_n hx hb dX8_isFresh_12 rfl (lv_at hl 1 rfl) ?_
    obtain ⟨y6, ey6, iy6, h⟩ := rdI_e h
    refine ya_iald hx hb hK hP 54 0 CW_54 rfl ey6 iy6 dX8_isFresh_13 ?_
    refine lv_if_le (tgt := 30) hx hb dX8_isFresh_14 (by decide) (fun c7 => ?_) (fun c7 => ?_)
    · have h := if_t c7 h
      exact J30 () _ _ _ ⟨hP, hS, lv_sub hl [] rfl, h⟩
    · have h := if_f c7 h
      refine lv_aload_n hx hb dX8_isFresh_17 rfl (lv_at hl 0 rfl) ?_
      refine va_get (D := D) (ci := 8) (v := .ref (a 55)) (C := RX8) (T := TX8) (N := 11) hx hb ht inX8 hown hK hP 53 CW_53 rfl 4 (by decide) (ht (.fieldLink RX8 15 "CloneVolumes$State" "saved" "[I") fl_X8_15) (fun _ h9 => h9) rfl dX8_isFresh_18 ?_
      refine lv_iload_n hx hb dX8_isFresh_21 rfl (lv_at hl 1 rfl) ?_
      obtain ⟨y8, ey8, iy8, h⟩ := rdI_e h
      refine ya_iald hx hb hK hP 55 0 CW_55 rfl ey8 iy8 dX8_isFresh_22 ?_
      refine lv_if_ne (tgt := 30) hx hb dX8_isFresh_23 (by decide) (fun c9 => ?_) (fun c9 => ?_)
      · have h := if_f c9 h
        exact J30 () _ _ _ ⟨hP, hS, lv_sub hl [] rfl, h⟩
      · have h := if_t c9 h
        refine lv_iconst (v := 1) hx hb dX8_isFresh_26 (by decide) ?_
        refine lv_goto (tgt := 31) hx hb dX8_isFresh_27 (by decide) ?_
        exact J31 1 _ _ _ ⟨hP, hS, lv_sub hl [] rfl, h⟩
def m_x11_block_J109 (s : MS) (x1 : Int32) : Option Int32 :=
  some x1
def m_x11_block_J95 (s : MS) (x2 : Int32) : Option Int32 :=
  some x2
def m_x11_block (p0 : Int32) (p1 : Int32) (s : MS) : Option Int32 :=
  bn (m_x8_isBlock p0 s) (fun r4 => if r4 = 0 then some (-1) else if p1 = 0 then rdI (gA s 54) 48 p0 (fun y7 => some y7) else if p1 = 1 then rdI (gA s 55) 48 p0 (fun y9 => some y9) else if p1 = 2 then bn (m_x8_levelOf p0 s) (fun r12 => some r12) else if p1 = 3 then bn (m_x8_sizeOf p0 s) (fun r15 => some r15) else if p1 = 4 then bn (m_x8_isFresh p0 s) (fun r18 => if r18 = 0 then m_x11_block_J95 s 0 else m_x11_block_J95 s 1) else if p1 = 5 then bn (m_x8_isHeld p0 s) (fun r22 => if r22 = 0 then m_x11_block_J109 s 0 else m_x11_block_J109 s 1) else some (-1))
set_option maxHeartbeats 4000000 in
set_option maxRecDepth 100000 in
theorem k_x11_block (l : Launch) (D : va_G) (a : Nat → Nat) (p0 : Int32) (p1 : Int32) (s : MS) (o : Int32) (h : m_x11_block p0 p1 s = some o) : yRi l yX11_block cX11_block 4 (some .int) { frames := 3, cells := 0, slots := 0, locals := 180 } D [.ref (a 0), .int p0, .int p1] (CS D a s) o := by
  refine Met.ofW (cc := cX11_block) (maxL := 4) (ret := (some .int)) (by decide) rfl ?_
  intro p e s₀ m args below meth c s₁ B hml hv
  obtain ⟨rfl, ⟨hP, hK⟩, hN⟩ := hv
  have hx := B.exec
  have hb := B.bytes
  have hr := B.returns
  have hts := atoms_spec (ws := wz yX11_block cX11_block 4 (some .int)) B.pre
  have ht : ∀ w ∈ lw_gd, w.before _ s₀ = true := fun w h => hts w (List.mem_cons_of_mem _ h)
  have hown : s₀.vm.findClass RX11 = some m.cls := findClass_of_methodNamed B.named
  have hlocks := B.notSynchronized
  have hS : va_S (fun _ => False) s₀.heap s₀.heap [] := va_S.rf
  have hl := lv_entry ([.ref (a 0), .int p0, .int p1]) (n := 4) (Nat.le_of_ble_eq_true rfl)
  rw [lg_entry_eq]
  generalize (lg_sl ([.ref (a 0), .int p0, .int p1]) ++ List.replicate (4 - (lg_sl ([.ref (a 0), .int p0, .int p1])).length) Slot.unset).toArray = ls at hl ⊢
  have hl : lv_has ls 4 [(0, .ref (a 0)), (1, .int p0), (2, .int p1)] := hl
  unfold m_x11_block at h
  refine y_head (pcJ := 109) (σ := Int32) (fun u H locs ls => va_P D vwCl (CS D a s) H ∧ va_S (fun _ => False) s₀.heap H locs ∧ lv_has ls 4 [] ∧ m_x11_block_J109 s u = some o) (fun u => [.int u]) (fun u H locs ls hI => ?_) (fun J109 => ?_)
  · obtain ⟨hP, hS, hl, h⟩ := hI
    obtain ⟨x1, rfl⟩ : ∃ z, z = u := ⟨u, rfl⟩
    have hP : va_P D vwCl (CS D a s) H := hP
    have hl : lv_has ls 4 [] := hl
    have h : m_x11_block_J109 s x1 = some o := h
    unfold m_x11_block_J109 at h
    obtain rfl := Option.some.inj h
    exact W.iret (v := x1) hx hb hr (fun t ht hW => ⟨⟨_, (), rfl, rfl, trivial⟩, hS.F ht⟩) hS.2.2 dX11_block_109
  refine y_head (pcJ := 95) (σ := Int32) (fun u H locs ls => va_P D vwCl (CS D a s) H ∧ va_S (fun _ => False) s₀.heap H locs ∧ lv_has ls 4 [] ∧ m_x11_block_J95 s u = some o) (fun u => [.int u]) (fun u H locs ls hI => ?_) (fun J95 => ?_)
  · obtain ⟨hP, hS, hl, h⟩ := hI
    obtain ⟨x2, rfl⟩ : ∃ z, z = u := ⟨u, rfl⟩
    have hP : va_P D vwCl (CS D a s) H := hP
    have hl : lv_has ls 4 [] := hl
    have h : m_x11_block_J95 s x2 = some o := h
    unfold m_x11_block_J95 at h
    obtain rfl := Option.some.inj h
    exact W.iret (v := x2) hx hb hr (fun t ht hW => ⟨⟨_, (), rfl, rfl, trivial⟩, hS.F ht⟩) hS.2.2 dX11_block_95
  refine lv_aload_n hx hb dX11_block_0 rfl (lv_at hl 0 rfl) ?_
  refine va_get (D := D) (ci := 11) (v := .ref (a 49)) (C := RX11) (T := TX11) (N := 13) hx hb ht inX11 hown hK hP 0 CW_0 rfl 11 (by decide) (ht (.fieldLink RX11 79 "CloneVolumes" "forest" "LCloneVolumes$Forest;") fl_X11_79) (fun _ h9 => h9) rfl dX11_block_1 ?_
  refine va_get (D := D) (ci := 1) (v := .ref (a 53)) (C := RX1) (T := TX1) (N := 9) hx hb ht inX1 hown hK hP 49 CW_49 rfl 0 (by decide) (ht (.fieldLink RX11 125 "CloneVolumes$Forest" "now" "LCloneVolumes$State;") fl_X11_125) (fun _ h9 => h9) rfl dX11_block_4 ?_
  refine lv_astore_n (lv' := [(3, .ref (a 53)), (0, .ref (a 0)), (1, .int p0), (2, .int p1)]) hx hb dX11_block_7 rfl hl (by decide) rfl (fun ls hl => ?_)
  refine lv_aload_n hx hb dX11_block_8 rfl (lv_at hl 0 rfl) ?_
  refine lv_iload_n hx hb dX11_block_9 rfl (lv_at hl 2 rfl) ?_
  obtain ⟨r4, hc3, h⟩ := bn_e h
  refine ycV (As := [.int p0]) (rest := []) (C := RX8) (n := 1) ⟨hx, hb, hml, hown, ht⟩ (k_x8_isBlock l D a p0 _ _ hc3) (zgV ml_X11_188 im_X8_isBlock se_X8_isBlock in_X8 co_X8_isBlock) rfl rfl (by decide +kernel) ⟨Nat.le_of_ble_eq_true rfl, Nat.le_of_ble_eq_true rfl⟩ hN hK hP hS 53 CW_53 rfl rfl rfl hl.1 rfl (Nat.le_of_ble_eq_true rfl) dX11_block_10 ⟨Nat.le_of_ble_eq_true rfl, Nat.le_of_ble_eq_true rfl⟩ (fun H locs hP hS => ?_)
  refine lv_if_ne (tgt := 18) hx hb dX11_block_13 (by decide) (fun c5 => ?_) (fun c5 => ?_)
  · have h := if_f c5 h
    refine lv_iload_n hx hb dX11_block_18 rfl (lv_at hl 3 rfl) ?_
    by_cases c6 : p1 = 0
    · have h := if_t c6 h
      refine lv_tableIn (off := 37) (tgt := 56) hx hb dX11_block_19 (by rw [c6]; decide) (by rw [c6]; decide) (by rw [c6]; decide) (by decide) ?_
      refine lv_aload_n hx hb dX11_block_56 rfl (lv_at hl 0 rfl) ?_
      refine va_get (D := D) (ci := 8) (v := .ref (a 54)) (C := RX8) (T := TX8) (N := 11) hx hb ht inX8 hown hK hP 53 CW_53 rfl 3 (by decide) (ht (.fieldLink RX11 191 "CloneVolumes$State" "count" "[I") fl_X11_191) (fun _ h9 => h9) rfl dX11_block_57 ?_
      refine lv_iload_n hx hb dX11_block_60 rfl (lv_at hl 2 rfl) ?_
      obtain ⟨y7, ey7, iy7, h⟩ := rdI_e h
      refine ya_iald hx hb hK hP 54 0 CW_54 rfl ey7 iy7 dX11_block_61 ?_
      obtain rfl := Option.some.inj h
      exact W.iret (v := y7) hx hb hr (fun t ht hW => ⟨⟨_, (), rfl, rfl, trivial⟩, hS.F ht⟩) hS.2.2 dX11_block_62
    · have h := if_f c6 h
      by_cases c8 : p1 = 1
      · have h := if_t c8 h
        refine lv_tableIn (off := 44) (tgt := 63) hx hb dX11_block_19 (by rw [c8]; decide) (by rw [c8]; decide) (by rw [c8]; decide) (by decide) ?_
        refine lv_aload_n hx hb dX11_block_63 rfl (lv_at hl 0 rfl) ?_
        refine va_get (D := D) (ci := 8) (v := .ref (a 55)) (C := RX8) (T := TX8) (N := 11) hx hb ht inX8 hown hK hP 53 CW_53 rfl 4 (by decide) (ht (.fieldLink RX11 194 "CloneVolumes$State" "saved" "[I") fl_X11_194) (fun _ h9 => h9) rfl dX11_block_64 ?_
        refine lv_iload_n hx hb dX11_block_67 rfl (lv_at hl 2 rfl) ?_
        obtain ⟨y9, ey9, iy9, h⟩ := rdI_e h
        refine ya_iald hx hb hK hP 55 0 CW_55 rfl ey9 iy9 dX11_block_68 ?_
        obtain rfl := Option.some.inj h
        exact W.iret (v := y9) hx hb hr (fun t ht hW => ⟨⟨_, (), rfl, rfl, trivial⟩, hS.F ht⟩) hS.2.2 dX11_block_69
      · have h := if_f c8 h
        by_cases c10 : p1 = 2
        · have h := if_t c10 h
          refine lv_tableIn (off := 51) (tgt := 70) hx hb dX11_block_19 (by rw [c10]; decide) (by rw [c10]; decide) (by rw [c10]; decide) (by decide) ?_
          refine lv_aload_n hx hb dX11_block_70 rfl (lv_at hl 0 rfl) ?_
          refine lv_iload_n hx hb dX11_block_71 rfl (lv_at hl 2 rfl) ?_
          obtain ⟨r12, hc11, h⟩ := bn_e h
          refine ycV (As := [.int p0]) (rest := []) (C := RX8) (n := 1) ⟨hx, hb, hml, hown, ht⟩ (k_x8_levelOf l D a p0 _ _ hc11) (zgV ml_X11_197 im_X8_levelOf se_X8_levelOf in_X8 co_X8_levelOf) rfl rfl (by decide +kernel) ⟨Nat.le_of_ble_eq_true rfl, Nat.le_of_ble_eq_true rfl⟩ hN hK hP hS 53 CW_53 rfl rfl rfl hl.1 rfl (Nat.le_of_ble_eq_true rfl) dX11_block_72 ⟨Nat.le_of_ble_eq_true rfl, Nat.le_of_ble_eq_true rfl⟩ (fun H locs hP hS => ?_)
          obtain rfl := Option.some.inj h
          exact W.iret (v := r12) hx hb hr (fun t ht hW => ⟨⟨_, (), rfl, rfl, trivial⟩, hS.F ht⟩) hS.2.2 dX11_block_75
        · have h := if_f c10 h
          by_cases c13 : p1 = 3
          · have h := if_t c13 h
            refine lv_tableIn (off := 57) (tgt := 76) hx hb dX11_block_19 (by rw [c13]; decide) (by rw [c13]; decide) (by rw [c13]; decide) (by decide) ?_
            refine lv_aload_n hx hb dX11_block_76 rfl (lv_at hl 0 rfl) ?_
            refine lv_iload_n hx hb dX11_block_77 rfl (lv_at hl 2 rfl) ?_
            obtain ⟨r15, hc14, h⟩ := bn_e h
            refine ycV (As := [.int p0]) (rest := []) (C := RX8) (n := 1) ⟨hx, hb, hml, hown, ht⟩ (k_x8_sizeOf l D a p0 _ _ hc14) (zgV ml_X11_200 im_X8_sizeOf se_X8_sizeOf in_X8 co_X8_sizeOf) rfl rfl (by decide +kernel) ⟨Nat.le_of_ble_eq_true rfl, Nat.le_of_ble_eq_true rfl⟩ hN hK hP hS 53 CW_53 rfl rfl rfl hl.1 rfl (Nat.le_of_ble_eq_true rfl) dX11_block_78 ⟨Nat.le_of_ble_eq_true rfl, Nat.le_of_ble_eq_true rfl⟩ (fun H locs hP hS => ?_)
            obtain rfl := Option.some.inj h
            exact W.iret (v := r15) hx hb hr (fun t ht hW => ⟨⟨_, (), rfl, rfl, trivial⟩, hS.F ht⟩) hS.2.2 dX11_block_81
          · have h := if_f c13 h
            by_cases c16 : p1 = 4
            · have h := if_t c16 h
              refine lv_tableIn (off := 63) (tgt := 82) hx hb dX11_block_19 (by rw [c16]; decide) (by rw [c16]; decide) (by rw [c16]; decide) (by decide) ?_
              refine lv_aload_n hx hb dX11_block_82 rfl (lv_at hl 0 rfl) ?_
              refine lv_iload_n hx hb dX11_block_83 rfl (lv_at hl 2 rfl) ?_
              obtain ⟨r18, hc17, h⟩ := bn_e h
              refine ycV (As := [.int p0]) (rest := []) (C := RX8) (n := 1) ⟨hx, hb, hml, hown, ht⟩ (k_x8_isFresh l D a p0 _ _ hc17) (zgV ml_X11_203 im_X8_isFresh se_X8_isFresh in_X8 co_X8_isFresh) rfl rfl (by decide +kernel) ⟨Nat.le_of_ble_eq_true rfl, Nat.le_of_ble_eq_true rfl⟩ hN hK hP hS 53 CW_53 rfl rfl rfl hl.1 rfl (Nat.le_of_ble_eq_true rfl) dX11_block_84 ⟨Nat.le_of_ble_eq_true rfl, Nat.le_of_ble_eq_true rfl⟩ (fun H locs hP hS => ?_)
              refine lv_if_eq (tgt := 94) hx hb dX11_block_87 (by decide) (fun c19 => ?_) (fun c19 => ?_)
              · have h := if_t c19 h
                refine lv_iconst (v := 0) hx hb dX11_block_94 (by decide) ?_
                exact J95 0 _ _ _ ⟨hP, hS, lv_sub hl [] rfl, h⟩
              · have h := if_f c19 h
                refine lv_iconst (v := 1) hx hb dX11_block_90 (by decide) ?_
                refine lv_goto (tgt := 95) hx hb dX11_block_91 (by decide) ?_
                exact J95 1 _ _ _ ⟨hP, hS, lv_sub hl [] rfl, h⟩
            · have h := if_f c16 h
              by_cases c20 : p1 = 5
              · have h := if_t c20 h
                refine lv_tableIn (off := 77) (tgt := 96) hx hb dX11_block_19 (by rw [c20]; decide) (by rw [c20]; decide) (by rw [c20]; decide) (by decide) ?_
                refine lv_aload_n hx hb dX11_block_96 rfl (lv_at hl 0 rfl) ?_
                refine lv_iload_n hx hb dX11_block_97 rfl (lv_at hl 2 rfl) ?_
                obtain ⟨r22, hc21, h⟩ := bn_e h
                refine ycV (As := [.int p0]) (rest := []) (C := RX8) (n := 1) ⟨hx, hb, hml, hown, ht⟩ (k_x8_isHeld l D a p0 _ _ hc21) (zgV ml_X11_206 im_X8_isHeld se_X8_isHeld in_X8 co_X8_isHeld) rfl rfl (by decide +kernel) ⟨Nat.le_of_ble_eq_true rfl, Nat.le_of_ble_eq_true rfl⟩ hN hK hP hS 53 CW_53 rfl rfl rfl hl.1 rfl (Nat.le_of_ble_eq_true rfl) dX11_block_98 ⟨Nat.le_of_ble_eq_true rfl, Nat.le_of_ble_eq_true rfl⟩ (fun H locs hP hS => ?_)
                refine lv_if_eq (tgt := 108) hx hb dX11_block_101 (by decide) (fun c23 => ?_) (fun c23 => ?_)
                · have h := if_t c23 h
                  refine lv_iconst (v := 0) hx hb dX11_block_108 (by decide) ?_
                  exact J109 0 _ _ _ ⟨hP, hS, lv_sub hl [] rfl, h⟩
                · have h := if_f c23 h
                  refine lv_iconst (v := 1) hx hb dX11_block_104 (by decide) ?_
                  refine lv_goto (tgt := 109) hx hb dX11_block_105 (by decide) ?_
                  exact J109 1 _ _ _ ⟨hP, hS, lv_sub hl [] rfl, h⟩
              · have h := if_f c20 h
                have gc6 := lv_neT (a := 0) c6 (by decide)
                have gc8 := lv_neT (a := 1) c8 (by decide)
                have gc10 := lv_neT (a := 2) c10 (by decide)
                have gc13 := lv_neT (a := 3) c13 (by decide)
                have gc16 := lv_neT (a := 4) c16 (by decide)
                have gc20 := lv_neT (a := 5) c20 (by decide)
                refine lv_tableOut (tgt := 110) hx hb dX11_block_19 (by omega) (by decide) ?_
                refine lv_iconst (v := (-1)) hx hb dX11_block_110 (by decide) ?_
                obtain rfl := Option.some.inj h
                exact W.iret (v := (-1)) hx hb hr (fun t ht hW => ⟨⟨_, (), rfl, rfl, trivial⟩, hS.F ht⟩) hS.2.2 dX11_block_111
  · have h := if_t c5 h
    refine lv_iconst (v := (-1)) hx hb dX11_block_16 (by decide) ?_
    obtain rfl := Option.some.inj h
    exact W.iret (v := (-1)) hx hb hr (fun t ht hW => ⟨⟨_, (), rfl, rfl, trivial⟩, hS.F ht⟩) hS.2.2 dX11_block_17
