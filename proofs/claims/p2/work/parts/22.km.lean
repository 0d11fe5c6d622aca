theorem ck_X4_37 : Cond.constant RX4 37 65535 ∈ lw_gd := zm (List.mem_of_getElem? (i := 1458) (by decide +kernel)) rfl
theorem co_X4_add : Cond.code yX4_add cX4_add 2 none ∈ lw_gd := zm (List.mem_of_getElem? (i := 1457) (by decide +kernel)) rfl
theorem co_X4_addPair : Cond.code yX4_addPair cX4_addPair 2 none ∈ lw_gd := zm (List.mem_of_getElem? (i := 1462) (by decide +kernel)) rfl
theorem co_X4_draw : Cond.code yX4_draw cX4_draw 3 (some .int) ∈ lw_gd := zm (List.mem_of_getElem? (i := 1453) (by decide +kernel)) rfl
theorem co_X4_drawBlock : Cond.code yX4_drawBlock cX4_drawBlock 4 none ∈ lw_gd := zm (List.mem_of_getElem? (i := 1470) (by decide +kernel)) rfl
theorem co_X4_isSoundChild : Cond.code yX4_isSoundChild cX4_isSoundChild 5 (some .boolean) ∈ lw_gd := zm (List.mem_of_getElem? (i := 1522) (by decide +kernel)) rfl
theorem co_X4_rootByte : Cond.code yX4_rootByte cX4_rootByte 1 (some .int) ∈ lw_gd := zm (List.mem_of_getElem? (i := 1465) (by decide +kernel)) rfl
theorem co_X4_seal : Cond.code yX4_seal cX4_seal 4 (some .int) ∈ lw_gd := zm (List.mem_of_getElem? (i := 1474) (by decide +kernel)) rfl
theorem fl_X11_339 : Cond.fieldLink RX11 339 "CloneVolumes$Picture" "size" "I" ∈ lw_gd := zm (List.mem_of_getElem? (i := 403) (by decide +kernel)) rfl
theorem fl_X11_342 : Cond.fieldLink RX11 342 "CloneVolumes$Picture" "bytes" "[I" ∈ lw_gd := zm (List.mem_of_getElem? (i := 401) (by decide +kernel)) rfl
theorem fl_X11_42 : Cond.fieldLink RX11 42 "CloneVolumes" "picture" "LCloneVolumes$Picture;" ∈ lw_gd := zm (List.mem_of_getElem? (i := 704) (by decide +kernel)) rfl
theorem fl_X2_31 : Cond.fieldLink RX2 31 "CloneVolumes$History" "depth" "I" ∈ lw_gd := zm (List.mem_of_getElem? (i := 352) (by decide +kernel)) rfl
theorem fl_X4_11 : Cond.fieldLink RX4 11 "CloneVolumes$Picture" "bytes" "[I" ∈ lw_gd := zm (List.mem_of_getElem? (i := 400) (by decide +kernel)) rfl
theorem fl_X4_15 : Cond.fieldLink RX4 15 "CloneVolumes$Picture" "lowest" "[I" ∈ lw_gd := zm (List.mem_of_getElem? (i := 405) (by decide +kernel)) rfl
theorem fl_X4_18 : Cond.fieldLink RX4 18 "CloneVolumes$Picture" "highest" "[I" ∈ lw_gd := zm (List.mem_of_getElem? (i := 406) (by decide +kernel)) rfl
theorem fl_X4_21 : Cond.fieldLink RX4 21 "CloneVolumes$Picture" "refs" "[I" ∈ lw_gd := zm (List.mem_of_getElem? (i := 407) (by decide +kernel)) rfl
theorem fl_X4_24 : Cond.fieldLink RX4 24 "CloneVolumes$Picture" "size" "I" ∈ lw_gd := zm (List.mem_of_getElem? (i := 402) (by decide +kernel)) rfl
theorem fl_X4_28 : Cond.fieldLink RX4 28 "CloneVolumes$State" "spent" "I" ∈ lw_gd := zm (List.mem_of_getElem? (i := 559) (by decide +kernel)) rfl
theorem fl_X4_41 : Cond.fieldLink RX4 41 "CloneVolumes$State" "roots" "[I" ∈ lw_gd := zm (List.mem_of_getElem? (i := 594) (by decide +kernel)) rfl
theorem fl_X4_48 : Cond.fieldLink RX4 48 "CloneVolumes$State" "savedRoots" "[I" ∈ lw_gd := zm (List.mem_of_getElem? (i := 599) (by decide +kernel)) rfl
theorem fl_X4_51 : Cond.fieldLink RX4 51 "CloneVolumes$State" "blocks" "I" ∈ lw_gd := zm (List.mem_of_getElem? (i := 554) (by decide +kernel)) rfl
theorem fl_X4_54 : Cond.fieldLink RX4 54 "CloneVolumes$State" "count" "[I" ∈ lw_gd := zm (List.mem_of_getElem? (i := 565) (by decide +kernel)) rfl
theorem fl_X4_57 : Cond.fieldLink RX4 57 "CloneVolumes$State" "saved" "[I" ∈ lw_gd := zm (List.mem_of_getElem? (i := 570) (by decide +kernel)) rfl
theorem fl_X4_72 : Cond.fieldLink RX4 72 "CloneVolumes$State" "level" "[I" ∈ lw_gd := zm (List.mem_of_getElem? (i := 575) (by decide +kernel)) rfl
theorem fl_X4_75 : Cond.fieldLink RX4 75 "CloneVolumes$State" "size" "[I" ∈ lw_gd := zm (List.mem_of_getElem? (i := 580) (by decide +kernel)) rfl
theorem fl_X4_77 : Cond.fieldLink RX4 77 "CloneVolumes$State" "keys" "[I" ∈ lw_gd := zm (List.mem_of_getElem? (i := 583) (by decide +kernel)) rfl
theorem fl_X4_84 : Cond.fieldLink RX4 84 "CloneVolumes$State" "values" "[I" ∈ lw_gd := zm (List.mem_of_getElem? (i := 590) (by decide +kernel)) rfl
theorem im_X4_add : Cond.instanceMethod yX4_add ∈ lw_gd := zm (List.mem_of_getElem? (i := 1456) (by decide +kernel)) rfl
theorem im_X4_addPair : Cond.instanceMethod yX4_addPair ∈ lw_gd := zm (List.mem_of_getElem? (i := 1461) (by decide +kernel)) rfl
theorem im_X4_draw : Cond.instanceMethod yX4_draw ∈ lw_gd := zm (List.mem_of_getElem? (i := 1451) (by decide +kernel)) rfl
theorem im_X4_drawBlock : Cond.instanceMethod yX4_drawBlock ∈ lw_gd := zm (List.mem_of_getElem? (i := 1469) (by decide +kernel)) rfl
theorem im_X4_isSoundChild : Cond.instanceMethod yX4_isSoundChild ∈ lw_gd := zm (List.mem_of_getElem? (i := 1521) (by decide +kernel)) rfl
theorem in_X4 : Cond.initialized RX4 ∈ lw_gd := zm (List.mem_of_getElem? (i := 207) (by decide +kernel)) rfl
theorem ml_X11_336 : Cond.methodLink RX11 336 yX4_draw ∈ lw_gd := zm (List.mem_of_getElem? (i := 1450) (by decide +kernel)) rfl
theorem ml_X4_136 : Cond.methodLink RX4 136 yX4_isSoundChild ∈ lw_gd := zm (List.mem_of_getElem? (i := 1519) (by decide +kernel)) rfl
theorem ml_X4_140 : Cond.methodLink RX4 140 yX8_isBlock ∈ lw_gd := zm (List.mem_of_getElem? (i := 1523) (by decide +kernel)) rfl
theorem ml_X4_33 : Cond.methodLink RX4 33 yX4_add ∈ lw_gd := zm (List.mem_of_getElem? (i := 1454) (by decide +kernel)) rfl
theorem ml_X4_38 : Cond.methodLink RX4 38 yX4_addPair ∈ lw_gd := zm (List.mem_of_getElem? (i := 1459) (by decide +kernel)) rfl
theorem ml_X4_44 : Cond.methodLink RX4 44 yX4_rootByte ∈ lw_gd := zm (List.mem_of_getElem? (i := 1463) (by decide +kernel)) rfl
theorem ml_X4_60 : Cond.methodLink RX4 60 yX8_isFree ∈ lw_gd := zm (List.mem_of_getElem? (i := 1466) (by decide +kernel)) rfl
theorem ml_X4_64 : Cond.methodLink RX4 64 yX4_drawBlock ∈ lw_gd := zm (List.mem_of_getElem? (i := 1467) (by decide +kernel)) rfl
theorem ml_X4_68 : Cond.methodLink RX4 68 yX4_seal ∈ lw_gd := zm (List.mem_of_getElem? (i := 1472) (by decide +kernel)) rfl
theorem ml_X4_80 : Cond.methodLink RX4 80 yX8_slot ∈ lw_gd := zm (List.mem_of_getElem? (i := 1471) (by decide +kernel)) rfl
theorem se_X4_add : Cond.selects RX4 yX4_add yX4_add ∈ lw_gd := zm (List.mem_of_getElem? (i := 58) (by decide +kernel)) rfl
theorem se_X4_addPair : Cond.selects RX4 yX4_addPair yX4_addPair ∈ lw_gd := zm (List.mem_of_getElem? (i := 59) (by decide +kernel)) rfl
theorem se_X4_draw : Cond.selects RX4 yX4_draw yX4_draw ∈ lw_gd := zm (List.mem_of_getElem? (i := 1452) (by decide +kernel)) rfl
theorem se_X4_drawBlock : Cond.selects RX4 yX4_drawBlock yX4_drawBlock ∈ lw_gd := zm (List.mem_of_getElem? (i := 60) (by decide +kernel)) rfl
theorem se_X4_isSoundChild : Cond.selects RX4 yX4_isSoundChild yX4_isSoundChild ∈ lw_gd := zm (List.mem_of_getElem? (i := 67) (by decide +kernel)) rfl
theorem st_X4_rootByte : Cond.static yX4_rootByte ∈ lw_gd := zm (List.mem_of_getElem? (i := 1464) (by decide +kernel)) rfl
theorem st_X4_seal : Cond.static yX4_seal ∈ lw_gd := zm (List.mem_of_getElem? (i := 1473) (by decide +kernel)) rfl
theorem dX11_image_0 : decode cX11_image 0 = .ok (.aload_n 0, 1) := by decide +kernel
theorem dX11_image_1 : decode cX11_image 1 = .ok (.getfield 42, 3) := by decide +kernel
theorem dX11_image_4 : decode cX11_image 4 = .ok (.aload_n 0, 1) := by decide +kernel
theorem dX11_image_5 : decode cX11_image 5 = .ok (.getfield 79, 3) := by decide +kernel
theorem dX11_image_8 : decode cX11_image 8 = .ok (.getfield 125, 3) := by decide +kernel
theorem dX11_image_11 : decode cX11_image 11 = .ok (.invokevirtual 336, 3) := by decide +kernel
theorem dX11_image_14 : decode cX11_image 14 = .ok (.ireturn, 1) := by decide +kernel
theorem dX11_octet_0 : decode cX11_octet 0 = .ok (.iload_n 1, 1) := by decide +kernel
theorem dX11_octet_1 : decode cX11_octet 1 = .ok (.ifCond .lt 26, 3) := by decide +kernel
theorem dX11_octet_4 : decode cX11_octet 4 = .ok (.iload_n 1, 1) := by decide +kernel
theorem dX11_octet_5 : decode cX11_octet 5 = .ok (.aload_n 0, 1) := by decide +kernel
theorem dX11_octet_6 : decode cX11_octet 6 = .ok (.getfield 42, 3) := by decide +kernel
theorem dX11_octet_9 : decode cX11_octet 9 = .ok (.getfield 339, 3) := by decide +kernel
theorem dX11_octet_12 : decode cX11_octet 12 = .ok (.if_icmp .ge 15, 3) := by decide +kernel
theorem dX11_octet_15 : decode cX11_octet 15 = .ok (.aload_n 0, 1) := by decide +kernel
theorem dX11_octet_16 : decode cX11_octet 16 = .ok (.getfield 42, 3) := by decide +kernel
theorem dX11_octet_19 : decode cX11_octet 19 = .ok (.getfield 342, 3) := by decide +kernel
theorem dX11_octet_22 : decode cX11_octet 22 = .ok (.iload_n 1, 1) := by decide +kernel
theorem dX11_octet_23 : decode cX11_octet 23 = .ok (.iaload, 1) := by decide +kernel
theorem dX11_octet_24 : decode cX11_octet 24 = .ok (.goto 4, 3) := by decide +kernel
theorem dX11_octet_27 : decode cX11_octet 27 = .ok (.iconst (-1), 1) := by decide +kernel
theorem dX11_octet_28 : decode cX11_octet 28 = .ok (.ireturn, 1) := by decide +kernel
theorem dX2_clear_0 : decode cX2_clear 0 = .ok (.aload_n 0, 1) := by decide +kernel
theorem dX2_clear_1 : decode cX2_clear 1 = .ok (.iconst 0, 1) := by decide +kernel
theorem dX2_clear_2 : decode cX2_clear 2 = .ok (.putfield 27, 3) := by decide +kernel
theorem dX2_clear_5 : decode cX2_clear 5 = .ok (.aload_n 0, 1) := by decide +kernel
theorem dX2_clear_6 : decode cX2_clear 6 = .ok (.iconst 0, 1) := by decide +kernel
theorem dX2_clear_7 : decode cX2_clear 7 = .ok (.putfield 31, 3) := by decide +kernel
theorem dX2_clear_10 : decode cX2_clear 10 = .ok (.return_, 1) := by decide +kernel
theorem dX4_add_0 : decode cX4_add 0 = .ok (.aload_n 0, 1) := by decide +kernel
theorem dX4_add_1 : decode cX4_add 1 = .ok (.getfield 24, 3) := by decide +kernel
theorem dX4_add_4 : decode cX4_add 4 = .ok (.aload_n 0, 1) := by decide +kernel
theorem dX4_add_5 : decode cX4_add 5 = .ok (.getfield 11, 3) := by decide +kernel
theorem dX4_add_8 : decode cX4_add 8 = .ok (.arraylength, 1) := by decide +kernel
theorem dX4_add_9 : decode cX4_add 9 = .ok (.if_icmp .ge 27, 3) := by decide +kernel
theorem dX4_add_12 : decode cX4_add 12 = .ok (.aload_n 0, 1) := by decide +kernel
theorem dX4_add_13 : decode cX4_add 13 = .ok (.getfield 11, 3) := by decide +kernel
theorem dX4_add_16 : decode cX4_add 16 = .ok (.aload_n 0, 1) := by decide +kernel
theorem dX4_add_17 : decode cX4_add 17 = .ok (.getfield 24, 3) := by decide +kernel
theorem dX4_add_20 : decode cX4_add 20 = .ok (.iload_n 1, 1) := by decide +kernel
theorem dX4_add_21 : decode cX4_add 21 = .ok (.sipush 255, 3) := by decide +kernel
theorem dX4_add_24 : decode cX4_add 24 = .ok (.iand, 1) := by decide +kernel
theorem dX4_add_25 : decode cX4_add 25 = .ok (.iastore, 1) := by decide +kernel
theorem dX4_add_26 : decode cX4_add 26 = .ok (.aload_n 0, 1) := by decide +kernel
theorem dX4_add_27 : decode cX4_add 27 = .ok (.dup, 1) := by decide +kernel
theorem dX4_add_28 : decode cX4_add 28 = .ok (.getfield 24, 3) := by decide +kernel
theorem dX4_add_31 : decode cX4_add 31 = .ok (.iconst 1, 1) := by decide +kernel
theorem dX4_add_32 : decode cX4_add 32 = .ok (.iadd, 1) := by decide +kernel
theorem dX4_add_33 : decode cX4_add 33 = .ok (.putfield 24, 3) := by decide +kernel
theorem dX4_add_36 : decode cX4_add 36 = .ok (.return_, 1) := by decide +kernel
theorem dX4_addPair_0 : decode cX4_addPair 0 = .ok (.aload_n 0, 1) := by decide +kernel
theorem dX4_addPair_1 : decode cX4_addPair 1 = .ok (.iload_n 1, 1) := by decide +kernel
theorem dX4_addPair_2 : decode cX4_addPair 2 = .ok (.bipush 8, 2) := by decide +kernel
theorem dX4_addPair_4 : decode cX4_addPair 4 = .ok (.iushr, 1) := by decide +kernel
theorem dX4_addPair_5 : decode cX4_addPair 5 = .ok (.invokevirtual 33, 3) := by decide +kernel
theorem dX4_addPair_8 : decode cX4_addPair 8 = .ok (.aload_n 0, 1) := by decide +kernel
theorem dX4_addPair_9 : decode cX4_addPair 9 = .ok (.iload_n 1, 1) := by decide +kernel
theorem dX4_addPair_10 : decode cX4_addPair 10 = .ok (.invokevirtual 33, 3) := by decide +kernel
theorem dX4_addPair_13 : decode cX4_addPair 13 = .ok (.return_, 1) := by decide +kernel
theorem dX4_draw_0 : decode cX4_draw 0 = .ok (.aload_n 0, 1) := by decide +kernel
theorem dX4_draw_1 : decode cX4_draw 1 = .ok (.iconst 0, 1) := by decide +kernel
theorem dX4_draw_2 : decode cX4_draw 2 = .ok (.putfield 24, 3) := by decide +kernel
theorem dX4_draw_5 : decode cX4_draw 5 = .ok (.aload_n 0, 1) := by decide +kernel
theorem dX4_draw_6 : decode cX4_draw 6 = .ok (.aload_n 1, 1) := by decide +kernel
theorem dX4_draw_7 : decode cX4_draw 7 = .ok (.getfield 28, 3) := by decide +kernel
theorem dX4_draw_10 : decode cX4_draw 10 = .ok (.bipush 16, 2) := by decide +kernel
theorem dX4_draw_12 : decode cX4_draw 12 = .ok (.iushr, 1) := by decide +kernel
theorem dX4_draw_13 : decode cX4_draw 13 = .ok (.invokevirtual 33, 3) := by decide +kernel
theorem dX4_draw_16 : decode cX4_draw 16 = .ok (.aload_n 0, 1) := by decide +kernel
theorem dX4_draw_17 : decode cX4_draw 17 = .ok (.aload_n 1, 1) := by decide +kernel
theorem dX4_draw_18 : decode cX4_draw 18 = .ok (.getfield 28, 3) := by decide +kernel
theorem dX4_draw_21 : decode cX4_draw 21 = .ok (.ldc 37, 2) := by decide +kernel
theorem dX4_draw_23 : decode cX4_draw 23 = .ok (.iand, 1) := by decide +kernel
theorem dX4_draw_24 : decode cX4_draw 24 = .ok (.invokevirtual 38, 3) := by decide +kernel
theorem dX4_draw_27 : decode cX4_draw 27 = .ok (.iconst 0, 1) := by decide +kernel
theorem dX4_draw_28 : decode cX4_draw 28 = .ok (.istore_n 2, 1) := by decide +kernel
theorem dX4_draw_29 : decode cX4_draw 29 = .ok (.iload_n 2, 1) := by decide +kernel
theorem dX4_draw_30 : decode cX4_draw 30 = .ok (.bipush 8, 2) := by decide +kernel
theorem dX4_draw_32 : decode cX4_draw 32 = .ok (.if_icmp .ge 35, 3) := by decide +kernel
theorem dX4_draw_35 : decode cX4_draw 35 = .ok (.aload_n 0, 1) := by decide +kernel
theorem dX4_draw_36 : decode cX4_draw 36 = .ok (.aload_n 1, 1) := by decide +kernel
theorem dX4_draw_37 : decode cX4_draw 37 = .ok (.getfield 41, 3) := by decide +kernel
theorem dX4_draw_40 : decode cX4_draw 40 = .ok (.iload_n 2, 1) := by decide +kernel
theorem dX4_draw_41 : decode cX4_draw 41 = .ok (.iaload, 1) := by decide +kernel
theorem dX4_draw_42 : decode cX4_draw 42 = .ok (.invokestatic 44, 3) := by decide +kernel
theorem dX4_draw_45 : decode cX4_draw 45 = .ok (.invokevirtual 33, 3) := by decide +kernel
theorem dX4_draw_48 : decode cX4_draw 48 = .ok (.aload_n 0, 1) := by decide +kernel
theorem dX4_draw_49 : decode cX4_draw 49 = .ok (.aload_n 1, 1) := by decide +kernel
theorem dX4_draw_50 : decode cX4_draw 50 = .ok (.getfield 48, 3) := by decide +kernel
theorem dX4_draw_53 : decode cX4_draw 53 = .ok (.iload_n 2, 1) := by decide +kernel
theorem dX4_draw_54 : decode cX4_draw 54 = .ok (.iaload, 1) := by decide +kernel
theorem dX4_draw_55 : decode cX4_draw 55 = .ok (.invokestatic 44, 3) := by decide +kernel
theorem dX4_draw_58 : decode cX4_draw 58 = .ok (.invokevirtual 33, 3) := by decide +kernel
theorem dX4_draw_61 : decode cX4_draw 61 = .ok (.iinc 2 1, 3) := by decide +kernel
theorem dX4_draw_64 : decode cX4_draw 64 = .ok (.goto (-35), 3) := by decide +kernel
theorem dX4_draw_67 : decode cX4_draw 67 = .ok (.iconst 0, 1) := by decide +kernel
theorem dX4_draw_68 : decode cX4_draw 68 = .ok (.istore_n 2, 1) := by decide +kernel
theorem dX4_draw_69 : decode cX4_draw 69 = .ok (.iload_n 2, 1) := by decide +kernel
theorem dX4_draw_70 : decode cX4_draw 70 = .ok (.aload_n 1, 1) := by decide +kernel
theorem dX4_draw_71 : decode cX4_draw 71 = .ok (.getfield 51, 3) := by decide +kernel
theorem dX4_draw_74 : decode cX4_draw 74 = .ok (.if_icmp .ge 43, 3) := by decide +kernel
theorem dX4_draw_77 : decode cX4_draw 77 = .ok (.aload_n 0, 1) := by decide +kernel
theorem dX4_draw_78 : decode cX4_draw 78 = .ok (.aload_n 1, 1) := by decide +kernel
theorem dX4_draw_79 : decode cX4_draw 79 = .ok (.getfield 54, 3) := by decide +kernel
theorem dX4_draw_82 : decode cX4_draw 82 = .ok (.iload_n 2, 1) := by decide +kernel
theorem dX4_draw_83 : decode cX4_draw 83 = .ok (.iaload, 1) := by decide +kernel
theorem dX4_draw_84 : decode cX4_draw 84 = .ok (.invokevirtual 33, 3) := by decide +kernel
theorem dX4_draw_87 : decode cX4_draw 87 = .ok (.aload_n 0, 1) := by decide +kernel
theorem dX4_draw_88 : decode cX4_draw 88 = .ok (.aload_n 1, 1) := by decide +kernel
theorem dX4_draw_89 : decode cX4_draw 89 = .ok (.getfield 57, 3) := by decide +kernel
theorem dX4_draw_92 : decode cX4_draw 92 = .ok (.iload_n 2, 1) := by decide +kernel
theorem dX4_draw_93 : decode cX4_draw 93 = .ok (.iaload, 1) := by decide +kernel
theorem dX4_draw_94 : decode cX4_draw 94 = .ok (.invokevirtual 33, 3) := by decide +kernel
theorem dX4_draw_97 : decode cX4_draw 97 = .ok (.aload_n 1, 1) := by decide +kernel
theorem dX4_draw_98 : decode cX4_draw 98 = .ok (.iload_n 2, 1) := by decide +kernel
theorem dX4_draw_99 : decode cX4_draw 99 = .ok (.invokevirtual 60, 3) := by decide +kernel
theorem dX4_draw_102 : decode cX4_draw 102 = .ok (.ifCond .ne 9, 3) := by decide +kernel
theorem dX4_draw_105 : decode cX4_draw 105 = .ok (.aload_n 0, 1) := by decide +kernel
theorem dX4_draw_106 : decode cX4_draw 106 = .ok (.aload_n 1, 1) := by decide +kernel
theorem dX4_draw_107 : decode cX4_draw 107 = .ok (.iload_n 2, 1) := by decide +kernel
theorem dX4_draw_108 : decode cX4_draw 108 = .ok (.invokevirtual 64, 3) := by decide +kernel
theorem dX4_draw_111 : decode cX4_draw 111 = .ok (.iinc 2 1, 3) := by decide +kernel
theorem dX4_draw_114 : decode cX4_draw 114 = .ok (.goto (-45), 3) := by decide +kernel
theorem dX4_draw_117 : decode cX4_draw 117 = .ok (.aload_n 0, 1) := by decide +kernel
theorem dX4_draw_118 : decode cX4_draw 118 = .ok (.getfield 11, 3) := by decide +kernel
theorem dX4_draw_121 : decode cX4_draw 121 = .ok (.aload_n 0, 1) := by decide +kernel
theorem dX4_draw_122 : decode cX4_draw 122 = .ok (.getfield 24, 3) := by decide +kernel
theorem dX4_draw_125 : decode cX4_draw 125 = .ok (.invokestatic 68, 3) := by decide +kernel
theorem dX4_draw_128 : decode cX4_draw 128 = .ok (.istore_n 2, 1) := by decide +kernel
theorem dX4_draw_129 : decode cX4_draw 129 = .ok (.aload_n 0, 1) := by decide +kernel
theorem dX4_draw_130 : decode cX4_draw 130 = .ok (.iload_n 2, 1) := by decide +kernel
theorem dX4_draw_131 : decode cX4_draw 131 = .ok (.invokevirtual 33, 3) := by decide +kernel
theorem dX4_draw_134 : decode cX4_draw 134 = .ok (.aload_n 0, 1) := by decide +kernel
theorem dX4_draw_135 : decode cX4_draw 135 = .ok (.getfield 24, 3) := by decide +kernel
theorem dX4_draw_138 : decode cX4_draw 138 = .ok (.ireturn, 1) := by decide +kernel
theorem dX4_drawBlock_0 : decode cX4_drawBlock 0 = .ok (.aload_n 0, 1) := by decide +kernel
theorem dX4_drawBlock_1 : decode cX4_drawBlock 1 = .ok (.aload_n 1, 1) := by decide +kernel
theorem dX4_drawBlock_2 : decode cX4_drawBlock 2 = .ok (.getfield 72, 3) := by decide +kernel
theorem dX4_drawBlock_5 : decode cX4_drawBlock 5 = .ok (.iload_n 2, 1) := by decide +kernel
theorem dX4_drawBlock_6 : decode cX4_drawBlock 6 = .ok (.iaload, 1) := by decide +kernel
theorem dX4_drawBlock_7 : decode cX4_drawBlock 7 = .ok (.invokevirtual 33, 3) := by decide +kernel
theorem dX4_drawBlock_10 : decode cX4_drawBlock 10 = .ok (.aload_n 0, 1) := by decide +kernel
theorem dX4_drawBlock_11 : decode cX4_drawBlock 11 = .ok (.aload_n 1, 1) := by decide +kernel
theorem dX4_drawBlock_12 : decode cX4_drawBlock 12 = .ok (.getfield 75, 3) := by decide +kernel
theorem dX4_drawBlock_15 : decode cX4_drawBlock 15 = .ok (.iload_n 2, 1) := by decide +kernel
theorem dX4_drawBlock_16 : decode cX4_drawBlock 16 = .ok (.iaload, 1) := by decide +kernel
theorem dX4_drawBlock_17 : decode cX4_drawBlock 17 = .ok (.invokevirtual 33, 3) := by decide +kernel
theorem dX4_drawBlock_20 : decode cX4_drawBlock 20 = .ok (.iconst 0, 1) := by decide +kernel
theorem dX4_drawBlock_21 : decode cX4_drawBlock 21 = .ok (.istore_n 3, 1) := by decide +kernel
theorem dX4_drawBlock_22 : decode cX4_drawBlock 22 = .ok (.iload_n 3, 1) := by decide +kernel
theorem dX4_drawBlock_23 : decode cX4_drawBlock 23 = .ok (.aload_n 1, 1) := by decide +kernel
theorem dX4_drawBlock_24 : decode cX4_drawBlock 24 = .ok (.getfield 75, 3) := by decide +kernel
theorem dX4_drawBlock_27 : decode cX4_drawBlock 27 = .ok (.iload_n 2, 1) := by decide +kernel
theorem dX4_drawBlock_28 : decode cX4_drawBlock 28 = .ok (.iaload, 1) := by decide +kernel
theorem dX4_drawBlock_29 : decode cX4_drawBlock 29 = .ok (.if_icmp .ge 39, 3) := by decide +kernel
theorem dX4_drawBlock_32 : decode cX4_drawBlock 32 = .ok (.aload_n 0, 1) := by decide +kernel
theorem dX4_drawBlock_33 : decode cX4_drawBlock 33 = .ok (.aload_n 1, 1) := by decide +kernel
theorem dX4_drawBlock_34 : decode cX4_drawBlock 34 = .ok (.getfield 77, 3) := by decide +kernel
theorem dX4_drawBlock_37 : decode cX4_drawBlock 37 = .ok (.aload_n 1, 1) := by decide +kernel
theorem dX4_drawBlock_38 : decode cX4_drawBlock 38 = .ok (.iload_n 2, 1) := by decide +kernel
theorem dX4_drawBlock_39 : decode cX4_drawBlock 39 = .ok (.iload_n 3, 1) := by decide +kernel
theorem dX4_drawBlock_40 : decode cX4_drawBlock 40 = .ok (.invokevirtual 80, 3) := by decide +kernel
theorem dX4_drawBlock_43 : decode cX4_drawBlock 43 = .ok (.iaload, 1) := by decide +kernel
theorem dX4_drawBlock_44 : decode cX4_drawBlock 44 = .ok (.invokevirtual 38, 3) := by decide +kernel
theorem dX4_drawBlock_47 : decode cX4_drawBlock 47 = .ok (.aload_n 0, 1) := by decide +kernel
theorem dX4_drawBlock_48 : decode cX4_drawBlock 48 = .ok (.aload_n 1, 1) := by decide +kernel
theorem dX4_drawBlock_49 : decode cX4_drawBlock 49 = .ok (.getfield 84, 3) := by decide +kernel
theorem dX4_drawBlock_52 : decode cX4_drawBlock 52 = .ok (.aload_n 1, 1) := by decide +kernel
theorem dX4_drawBlock_53 : decode cX4_drawBlock 53 = .ok (.iload_n 2, 1) := by decide +kernel
theorem dX4_drawBlock_54 : decode cX4_drawBlock 54 = .ok (.iload_n 3, 1) := by decide +kernel
theorem dX4_drawBlock_55 : decode cX4_drawBlock 55 = .ok (.invokevirtual 80, 3) := by decide +kernel
theorem dX4_drawBlock_58 : decode cX4_drawBlock 58 = .ok (.iaload, 1) := by decide +kernel
theorem dX4_drawBlock_59 : decode cX4_drawBlock 59 = .ok (.invokevirtual 38, 3) := by decide +kernel
theorem dX4_drawBlock_62 : decode cX4_drawBlock 62 = .ok (.iinc 3 1, 3) := by decide +kernel
theorem dX4_drawBlock_65 : decode cX4_drawBlock 65 = .ok (.goto (-43), 3) := by decide +kernel
theorem dX4_drawBlock_68 : decode cX4_drawBlock 68 = .ok (.return_, 1) := by decide +kernel
theorem dX4_isSoundBlock_0 : decode cX4_isSoundBlock 0 = .ok (.aload_n 1, 1) := by decide +kernel
theorem dX4_isSoundBlock_1 : decode cX4_isSoundBlock 1 = .ok (.getfield 75, 3) := by decide +kernel
theorem dX4_isSoundBlock_4 : decode cX4_isSoundBlock 4 = .ok (.iload_n 2, 1) := by decide +kernel
theorem dX4_isSoundBlock_5 : decode cX4_isSoundBlock 5 = .ok (.iaload, 1) := by decide +kernel
theorem dX4_isSoundBlock_6 : decode cX4_isSoundBlock 6 = .ok (.iconst 1, 1) := by decide +kernel
theorem dX4_isSoundBlock_7 : decode cX4_isSoundBlock 7 = .ok (.isub, 1) := by decide +kernel
theorem dX4_isSoundBlock_8 : decode cX4_isSoundBlock 8 = .ok (.istore_n 3, 1) := by decide +kernel
theorem dX4_isSoundBlock_9 : decode cX4_isSoundBlock 9 = .ok (.aload_n 1, 1) := by decide +kernel
theorem dX4_isSoundBlock_10 : decode cX4_isSoundBlock 10 = .ok (.getfield 72, 3) := by decide +kernel
theorem dX4_isSoundBlock_13 : decode cX4_isSoundBlock 13 = .ok (.iload_n 2, 1) := by decide +kernel
theorem dX4_isSoundBlock_14 : decode cX4_isSoundBlock 14 = .ok (.iaload, 1) := by decide +kernel
theorem dX4_isSoundBlock_15 : decode cX4_isSoundBlock 15 = .ok (.ifCond .ne 7, 3) := by decide +kernel
theorem dX4_isSoundBlock_18 : decode cX4_isSoundBlock 18 = .ok (.iconst 0, 1) := by decide +kernel
theorem dX4_isSoundBlock_19 : decode cX4_isSoundBlock 19 = .ok (.goto 4, 3) := by decide +kernel
theorem dX4_isSoundBlock_22 : decode cX4_isSoundBlock 22 = .ok (.iconst 1, 1) := by decide +kernel
theorem dX4_isSoundBlock_23 : decode cX4_isSoundBlock 23 = .ok (.istore 4, 2) := by decide +kernel
theorem dX4_isSoundBlock_25 : decode cX4_isSoundBlock 25 = .ok (.iload 4, 2) := by decide +kernel
theorem dX4_isSoundBlock_27 : decode cX4_isSoundBlock 27 = .ok (.istore 5, 2) := by decide +kernel
theorem dX4_isSoundBlock_29 : decode cX4_isSoundBlock 29 = .ok (.iload 5, 2) := by decide +kernel
theorem dX4_isSoundBlock_31 : decode cX4_isSoundBlock 31 = .ok (.iload_n 3, 1) := by decide +kernel
theorem dX4_isSoundBlock_32 : decode cX4_isSoundBlock 32 = .ok (.if_icmp .ge 40, 3) := by decide +kernel
theorem dX4_isSoundBlock_35 : decode cX4_isSoundBlock 35 = .ok (.aload_n 1, 1) := by decide +kernel
theorem dX4_isSoundBlock_36 : decode cX4_isSoundBlock 36 = .ok (.getfield 77, 3) := by decide +kernel
theorem dX4_isSoundBlock_39 : decode cX4_isSoundBlock 39 = .ok (.aload_n 1, 1) := by decide +kernel
theorem dX4_isSoundBlock_40 : decode cX4_isSoundBlock 40 = .ok (.iload_n 2, 1) := by decide +kernel
theorem dX4_isSoundBlock_41 : decode cX4_isSoundBlock 41 = .ok (.iload 5, 2) := by decide +kernel
theorem dX4_isSoundBlock_43 : decode cX4_isSoundBlock 43 = .ok (.invokevirtual 80, 3) := by decide +kernel
theorem dX4_isSoundBlock_46 : decode cX4_isSoundBlock 46 = .ok (.iaload, 1) := by decide +kernel
theorem dX4_isSoundBlock_47 : decode cX4_isSoundBlock 47 = .ok (.aload_n 1, 1) := by decide +kernel
theorem dX4_isSoundBlock_48 : decode cX4_isSoundBlock 48 = .ok (.getfield 77, 3) := by decide +kernel
theorem dX4_isSoundBlock_51 : decode cX4_isSoundBlock 51 = .ok (.aload_n 1, 1) := by decide +kernel
theorem dX4_isSoundBlock_52 : decode cX4_isSoundBlock 52 = .ok (.iload_n 2, 1) := by decide +kernel
theorem dX4_isSoundBlock_53 : decode cX4_isSoundBlock 53 = .ok (.iload 5, 2) := by decide +kernel
theorem dX4_isSoundBlock_55 : decode cX4_isSoundBlock 55 = .ok (.iconst 1, 1) := by decide +kernel
theorem dX4_isSoundBlock_56 : decode cX4_isSoundBlock 56 = .ok (.iadd, 1) := by decide +kernel
theorem dX4_isSoundBlock_57 : decode cX4_isSoundBlock 57 = .ok (.invokevirtual 80, 3) := by decide +kernel
theorem dX4_isSoundBlock_60 : decode cX4_isSoundBlock 60 = .ok (.iaload, 1) := by decide +kernel
theorem dX4_isSoundBlock_61 : decode cX4_isSoundBlock 61 = .ok (.if_icmp .lt 5, 3) := by decide +kernel
theorem dX4_isSoundBlock_64 : decode cX4_isSoundBlock 64 = .ok (.iconst 0, 1) := by decide +kernel
theorem dX4_isSoundBlock_65 : decode cX4_isSoundBlock 65 = .ok (.ireturn, 1) := by decide +kernel
theorem dX4_isSoundBlock_66 : decode cX4_isSoundBlock 66 = .ok (.iinc 5 1, 3) := by decide +kernel
theorem dX4_isSoundBlock_69 : decode cX4_isSoundBlock 69 = .ok (.goto (-40), 3) := by decide +kernel
theorem dX4_isSoundBlock_72 : decode cX4_isSoundBlock 72 = .ok (.aload_n 1, 1) := by decide +kernel
theorem dX4_isSoundBlock_73 : decode cX4_isSoundBlock 73 = .ok (.getfield 72, 3) := by decide +kernel
theorem dX4_isSoundBlock_76 : decode cX4_isSoundBlock 76 = .ok (.iload_n 2, 1) := by decide +kernel
theorem dX4_isSoundBlock_77 : decode cX4_isSoundBlock 77 = .ok (.iaload, 1) := by decide +kernel
theorem dX4_isSoundBlock_78 : decode cX4_isSoundBlock 78 = .ok (.ifCond .ne 39, 3) := by decide +kernel
theorem dX4_isSoundBlock_81 : decode cX4_isSoundBlock 81 = .ok (.aload_n 0, 1) := by decide +kernel
theorem dX4_isSoundBlock_82 : decode cX4_isSoundBlock 82 = .ok (.getfield 15, 3) := by decide +kernel
theorem dX4_isSoundBlock_85 : decode cX4_isSoundBlock 85 = .ok (.iload_n 2, 1) := by decide +kernel
theorem dX4_isSoundBlock_86 : decode cX4_isSoundBlock 86 = .ok (.aload_n 1, 1) := by decide +kernel
theorem dX4_isSoundBlock_87 : decode cX4_isSoundBlock 87 = .ok (.getfield 77, 3) := by decide +kernel
theorem dX4_isSoundBlock_90 : decode cX4_isSoundBlock 90 = .ok (.aload_n 1, 1) := by decide +kernel
theorem dX4_isSoundBlock_91 : decode cX4_isSoundBlock 91 = .ok (.iload_n 2, 1) := by decide +kernel
theorem dX4_isSoundBlock_92 : decode cX4_isSoundBlock 92 = .ok (.iconst 0, 1) := by decide +kernel
theorem dX4_isSoundBlock_93 : decode cX4_isSoundBlock 93 = .ok (.invokevirtual 80, 3) := by decide +kernel
theorem dX4_isSoundBlock_96 : decode cX4_isSoundBlock 96 = .ok (.iaload, 1) := by decide +kernel
theorem dX4_isSoundBlock_97 : decode cX4_isSoundBlock 97 = .ok (.iastore, 1) := by decide +kernel
theorem dX4_isSoundBlock_98 : decode cX4_isSoundBlock 98 = .ok (.aload_n 0, 1) := by decide +kernel
theorem dX4_isSoundBlock_99 : decode cX4_isSoundBlock 99 = .ok (.getfield 18, 3) := by decide +kernel
theorem dX4_isSoundBlock_102 : decode cX4_isSoundBlock 102 = .ok (.iload_n 2, 1) := by decide +kernel
theorem dX4_isSoundBlock_103 : decode cX4_isSoundBlock 103 = .ok (.aload_n 1, 1) := by decide +kernel
theorem dX4_isSoundBlock_104 : decode cX4_isSoundBlock 104 = .ok (.getfield 77, 3) := by decide +kernel
theorem dX4_isSoundBlock_107 : decode cX4_isSoundBlock 107 = .ok (.aload_n 1, 1) := by decide +kernel
theorem dX4_isSoundBlock_108 : decode cX4_isSoundBlock 108 = .ok (.iload_n 2, 1) := by decide +kernel
theorem dX4_isSoundBlock_109 : decode cX4_isSoundBlock 109 = .ok (.iload_n 3, 1) := by decide +kernel
theorem dX4_isSoundBlock_110 : decode cX4_isSoundBlock 110 = .ok (.invokevirtual 80, 3) := by decide +kernel
theorem dX4_isSoundBlock_113 : decode cX4_isSoundBlock 113 = .ok (.iaload, 1) := by decide +kernel
theorem dX4_isSoundBlock_114 : decode cX4_isSoundBlock 114 = .ok (.iastore, 1) := by decide +kernel
theorem dX4_isSoundBlock_115 : decode cX4_isSoundBlock 115 = .ok (.iconst 1, 1) := by decide +kernel
theorem dX4_isSoundBlock_116 : decode cX4_isSoundBlock 116 = .ok (.ireturn, 1) := by decide +kernel
theorem dX4_isSoundBlock_117 : decode cX4_isSoundBlock 117 = .ok (.iconst 0, 1) := by decide +kernel
theorem dX4_isSoundBlock_118 : decode cX4_isSoundBlock 118 = .ok (.istore 5, 2) := by decide +kernel
theorem dX4_isSoundBlock_120 : decode cX4_isSoundBlock 120 = .ok (.iload 5, 2) := by decide +kernel
theorem dX4_isSoundBlock_122 : decode cX4_isSoundBlock 122 = .ok (.iload_n 3, 1) := by decide +kernel
theorem dX4_isSoundBlock_123 : decode cX4_isSoundBlock 123 = .ok (.if_icmp .gt 22, 3) := by decide +kernel
theorem dX4_isSoundBlock_126 : decode cX4_isSoundBlock 126 = .ok (.aload_n 0, 1) := by decide +kernel
theorem dX4_isSoundBlock_127 : decode cX4_isSoundBlock 127 = .ok (.aload_n 1, 1) := by decide +kernel
theorem dX4_isSoundBlock_128 : decode cX4_isSoundBlock 128 = .ok (.iload_n 2, 1) := by decide +kernel
theorem dX4_isSoundBlock_129 : decode cX4_isSoundBlock 129 = .ok (.iload 5, 2) := by decide +kernel
theorem dX4_isSoundBlock_131 : decode cX4_isSoundBlock 131 = .ok (.invokevirtual 136, 3) := by decide +kernel
theorem dX4_isSoundBlock_134 : decode cX4_isSoundBlock 134 = .ok (.ifCond .ne 5, 3) := by decide +kernel
theorem dX4_isSoundBlock_137 : decode cX4_isSoundBlock 137 = .ok (.iconst 0, 1) := by decide +kernel
theorem dX4_isSoundBlock_138 : decode cX4_isSoundBlock 138 = .ok (.ireturn, 1) := by decide +kernel
theorem dX4_isSoundBlock_139 : decode cX4_isSoundBlock 139 = .ok (.iinc 5 1, 3) := by decide +kernel
theorem dX4_isSoundBlock_142 : decode cX4_isSoundBlock 142 = .ok (.goto (-22), 3) := by decide +kernel
theorem dX4_isSoundBlock_145 : decode cX4_isSoundBlock 145 = .ok (.aload_n 0, 1) := by decide +kernel
theorem dX4_isSoundBlock_146 : decode cX4_isSoundBlock 146 = .ok (.getfield 15, 3) := by decide +kernel
theorem dX4_isSoundBlock_149 : decode cX4_isSoundBlock 149 = .ok (.iload_n 2, 1) := by decide +kernel
theorem dX4_isSoundBlock_150 : decode cX4_isSoundBlock 150 = .ok (.aload_n 0, 1) := by decide +kernel
theorem dX4_isSoundBlock_151 : decode cX4_isSoundBlock 151 = .ok (.getfield 15, 3) := by decide +kernel
theorem dX4_isSoundBlock_154 : decode cX4_isSoundBlock 154 = .ok (.aload_n 1, 1) := by decide +kernel
theorem dX4_isSoundBlock_155 : decode cX4_isSoundBlock 155 = .ok (.getfield 84, 3) := by decide +kernel
theorem dX4_isSoundBlock_158 : decode cX4_isSoundBlock 158 = .ok (.aload_n 1, 1) := by decide +kernel
theorem dX4_isSoundBlock_159 : decode cX4_isSoundBlock 159 = .ok (.iload_n 2, 1) := by decide +kernel
theorem dX4_isSoundBlock_160 : decode cX4_isSoundBlock 160 = .ok (.iconst 0, 1) := by decide +kernel
theorem dX4_isSoundBlock_161 : decode cX4_isSoundBlock 161 = .ok (.invokevirtual 80, 3) := by decide +kernel
theorem dX4_isSoundBlock_164 : decode cX4_isSoundBlock 164 = .ok (.iaload, 1) := by decide +kernel
theorem dX4_isSoundBlock_165 : decode cX4_isSoundBlock 165 = .ok (.iaload, 1) := by decide +kernel
theorem dX4_isSoundBlock_166 : decode cX4_isSoundBlock 166 = .ok (.iastore, 1) := by decide +kernel
theorem dX4_isSoundBlock_167 : decode cX4_isSoundBlock 167 = .ok (.aload_n 0, 1) := by decide +kernel
theorem dX4_isSoundBlock_168 : decode cX4_isSoundBlock 168 = .ok (.getfield 18, 3) := by decide +kernel
theorem dX4_isSoundBlock_171 : decode cX4_isSoundBlock 171 = .ok (.iload_n 2, 1) := by decide +kernel
theorem dX4_isSoundBlock_172 : decode cX4_isSoundBlock 172 = .ok (.aload_n 0, 1) := by decide +kernel
theorem dX4_isSoundBlock_173 : decode cX4_isSoundBlock 173 = .ok (.getfield 18, 3) := by decide +kernel
theorem dX4_isSoundBlock_176 : decode cX4_isSoundBlock 176 = .ok (.aload_n 1, 1) := by decide +kernel
theorem dX4_isSoundBlock_177 : decode cX4_isSoundBlock 177 = .ok (.getfield 84, 3) := by decide +kernel
theorem dX4_isSoundBlock_180 : decode cX4_isSoundBlock 180 = .ok (.aload_n 1, 1) := by decide +kernel
theorem dX4_isSoundBlock_181 : decode cX4_isSoundBlock 181 = .ok (.iload_n 2, 1) := by decide +kernel
theorem dX4_isSoundBlock_182 : decode cX4_isSoundBlock 182 = .ok (.iload_n 3, 1) := by decide +kernel
theorem dX4_isSoundBlock_183 : decode cX4_isSoundBlock 183 = .ok (.invokevirtual 80, 3) := by decide +kernel
theorem dX4_isSoundBlock_186 : decode cX4_isSoundBlock 186 = .ok (.iaload, 1) := by decide +kernel
theorem dX4_isSoundBlock_187 : decode cX4_isSoundBlock 187 = .ok (.iaload, 1) := by decide +kernel
theorem dX4_isSoundBlock_188 : decode cX4_isSoundBlock 188 = .ok (.iastore, 1) := by decide +kernel
theorem dX4_isSoundBlock_189 : decode cX4_isSoundBlock 189 = .ok (.iconst 1, 1) := by decide +kernel
theorem dX4_isSoundBlock_190 : decode cX4_isSoundBlock 190 = .ok (.ireturn, 1) := by decide +kernel
theorem dX4_isSoundChild_0 : decode cX4_isSoundChild 0 = .ok (.aload_n 1, 1) := by decide +kernel
theorem dX4_isSoundChild_1 : decode cX4_isSoundChild 1 = .ok (.getfield 84, 3) := by decide +kernel
theorem dX4_isSoundChild_4 : decode cX4_isSoundChild 4 = .ok (.aload_n 1, 1) := by decide +kernel
theorem dX4_isSoundChild_5 : decode cX4_isSoundChild 5 = .ok (.iload_n 2, 1) := by decide +kernel
theorem dX4_isSoundChild_6 : decode cX4_isSoundChild 6 = .ok (.iload_n 3, 1) := by decide +kernel
theorem dX4_isSoundChild_7 : decode cX4_isSoundChild 7 = .ok (.invokevirtual 80, 3) := by decide +kernel
theorem dX4_isSoundChild_10 : decode cX4_isSoundChild 10 = .ok (.iaload, 1) := by decide +kernel
theorem dX4_isSoundChild_11 : decode cX4_isSoundChild 11 = .ok (.istore 4, 2) := by decide +kernel
theorem dX4_isSoundChild_13 : decode cX4_isSoundChild 13 = .ok (.aload_n 1, 1) := by decide +kernel
theorem dX4_isSoundChild_14 : decode cX4_isSoundChild 14 = .ok (.iload 4, 2) := by decide +kernel
theorem dX4_isSoundChild_16 : decode cX4_isSoundChild 16 = .ok (.invokevirtual 140, 3) := by decide +kernel
theorem dX4_isSoundChild_19 : decode cX4_isSoundChild 19 = .ok (.ifCond .eq 30, 3) := by decide +kernel
theorem dX4_isSoundChild_22 : decode cX4_isSoundChild 22 = .ok (.aload_n 1, 1) := by decide +kernel
theorem dX4_isSoundChild_23 : decode cX4_isSoundChild 23 = .ok (.iload 4, 2) := by decide +kernel
theorem dX4_isSoundChild_25 : decode cX4_isSoundChild 25 = .ok (.invokevirtual 60, 3) := by decide +kernel
theorem dX4_isSoundChild_28 : decode cX4_isSoundChild 28 = .ok (.ifCond .ne 21, 3) := by decide +kernel
theorem dX4_isSoundChild_31 : decode cX4_isSoundChild 31 = .ok (.aload_n 1, 1) := by decide +kernel
theorem dX4_isSoundChild_32 : decode cX4_isSoundChild 32 = .ok (.getfield 72, 3) := by decide +kernel
theorem dX4_isSoundChild_35 : decode cX4_isSoundChild 35 = .ok (.iload 4, 2) := by decide +kernel
theorem dX4_isSoundChild_37 : decode cX4_isSoundChild 37 = .ok (.iaload, 1) := by decide +kernel
theorem dX4_isSoundChild_38 : decode cX4_isSoundChild 38 = .ok (.aload_n 1, 1) := by decide +kernel
theorem dX4_isSoundChild_39 : decode cX4_isSoundChild 39 = .ok (.getfield 72, 3) := by decide +kernel
theorem dX4_isSoundChild_42 : decode cX4_isSoundChild 42 = .ok (.iload_n 2, 1) := by decide +kernel
theorem dX4_isSoundChild_43 : decode cX4_isSoundChild 43 = .ok (.iaload, 1) := by decide +kernel
theorem dX4_isSoundChild_44 : decode cX4_isSoundChild 44 = .ok (.iconst 1, 1) := by decide +kernel
theorem dX4_isSoundChild_45 : decode cX4_isSoundChild 45 = .ok (.isub, 1) := by decide +kernel
theorem dX4_isSoundChild_46 : decode cX4_isSoundChild 46 = .ok (.if_icmp .eq 5, 3) := by decide +kernel
theorem dX4_isSoundChild_49 : decode cX4_isSoundChild 49 = .ok (.iconst 0, 1) := by decide +kernel
theorem dX4_isSoundChild_50 : decode cX4_isSoundChild 50 = .ok (.ireturn, 1) := by decide +kernel
theorem dX4_isSoundChild_51 : decode cX4_isSoundChild 51 = .ok (.iload_n 3, 1) := by decide +kernel
theorem dX4_isSoundChild_52 : decode cX4_isSoundChild 52 = .ok (.ifCond .le 26, 3) := by decide +kernel
theorem dX4_isSoundChild_55 : decode cX4_isSoundChild 55 = .ok (.aload_n 0, 1) := by decide +kernel
theorem dX4_isSoundChild_56 : decode cX4_isSoundChild 56 = .ok (.getfield 15, 3) := by decide +kernel
theorem dX4_isSoundChild_59 : decode cX4_isSoundChild 59 = .ok (.iload 4, 2) := by decide +kernel
theorem dX4_isSoundChild_61 : decode cX4_isSoundChild 61 = .ok (.iaload, 1) := by decide +kernel
theorem dX4_isSoundChild_62 : decode cX4_isSoundChild 62 = .ok (.aload_n 1, 1) := by decide +kernel
theorem dX4_isSoundChild_63 : decode cX4_isSoundChild 63 = .ok (.getfield 77, 3) := by decide +kernel
theorem dX4_isSoundChild_66 : decode cX4_isSoundChild 66 = .ok (.aload_n 1, 1) := by decide +kernel
theorem dX4_isSoundChild_67 : decode cX4_isSoundChild 67 = .ok (.iload_n 2, 1) := by decide +kernel
theorem dX4_isSoundChild_68 : decode cX4_isSoundChild 68 = .ok (.iload_n 3, 1) := by decide +kernel
theorem dX4_isSoundChild_69 : decode cX4_isSoundChild 69 = .ok (.invokevirtual 80, 3) := by decide +kernel
theorem dX4_isSoundChild_72 : decode cX4_isSoundChild 72 = .ok (.iaload, 1) := by decide +kernel
theorem dX4_isSoundChild_73 : decode cX4_isSoundChild 73 = .ok (.if_icmp .ge 5, 3) := by decide +kernel
theorem dX4_isSoundChild_76 : decode cX4_isSoundChild 76 = .ok (.iconst 0, 1) := by decide +kernel
theorem dX4_isSoundChild_77 : decode cX4_isSoundChild 77 = .ok (.ireturn, 1) := by decide +kernel
theorem dX4_isSoundChild_78 : decode cX4_isSoundChild 78 = .ok (.iload_n 3, 1) := by decide +kernel
theorem dX4_isSoundChild_79 : decode cX4_isSoundChild 79 = .ok (.iconst 1, 1) := by decide +kernel
theorem dX4_isSoundChild_80 : decode cX4_isSoundChild 80 = .ok (.iadd, 1) := by decide +kernel
theorem dX4_isSoundChild_81 : decode cX4_isSoundChild 81 = .ok (.aload_n 1, 1) := by decide +kernel
theorem dX4_isSoundChild_82 : decode cX4_isSoundChild 82 = .ok (.getfield 75, 3) := by decide +kernel
theorem dX4_isSoundChild_85 : decode cX4_isSoundChild 85 = .ok (.iload_n 2, 1) := by decide +kernel
theorem dX4_isSoundChild_86 : decode cX4_isSoundChild 86 = .ok (.iaload, 1) := by decide +kernel
theorem dX4_isSoundChild_87 : decode cX4_isSoundChild 87 = .ok (.if_icmp .ge 26, 3) := by decide +kernel
theorem dX4_isSoundChild_90 : decode cX4_isSoundChild 90 = .ok (.aload_n 0, 1) := by decide +kernel
theorem dX4_isSoundChild_91 : decode cX4_isSoundChild 91 = .ok (.getfield 18, 3) := by decide +kernel
theorem dX4_isSoundChild_94 : decode cX4_isSoundChild 94 = .ok (.iload 4, 2) := by decide +kernel
theorem dX4_isSoundChild_96 : decode cX4_isSoundChild 96 = .ok (.iaload, 1) := by decide +kernel
theorem dX4_isSoundChild_97 : decode cX4_isSoundChild 97 = .ok (.aload_n 1, 1) := by decide +kernel
theorem dX4_isSoundChild_98 : decode cX4_isSoundChild 98 = .ok (.getfield 77, 3) := by decide +kernel
theorem dX4_isSoundChild_101 : decode cX4_isSoundChild 101 = .ok (.aload_n 1, 1) := by decide +kernel
theorem dX4_isSoundChild_102 : decode cX4_isSoundChild 102 = .ok (.iload_n 2, 1) := by decide +kernel
theorem dX4_isSoundChild_103 : decode cX4_isSoundChild 103 = .ok (.iload_n 3, 1) := by decide +kernel
theorem dX4_isSoundChild_104 : decode cX4_isSoundChild 104 = .ok (.iconst 1, 1) := by decide +kernel
theorem dX4_isSoundChild_105 : decode cX4_isSoundChild 105 = .ok (.iadd, 1) := by decide +kernel
theorem dX4_isSoundChild_106 : decode cX4_isSoundChild 106 = .ok (.invokevirtual 80, 3) := by decide +kernel
theorem dX4_isSoundChild_109 : decode cX4_isSoundChild 109 = .ok (.iaload, 1) := by decide +kernel
theorem dX4_isSoundChild_110 : decode cX4_isSoundChild 110 = .ok (.if_icmp .ge 7, 3) := by decide +kernel
theorem dX4_isSoundChild_113 : decode cX4_isSoundChild 113 = .ok (.iconst 1, 1) := by decide +kernel
theorem dX4_isSoundChild_114 : decode cX4_isSoundChild 114 = .ok (.goto 4, 3) := by decide +kernel
theorem dX4_isSoundChild_117 : decode cX4_isSoundChild 117 = .ok (.iconst 0, 1) := by decide +kernel
theorem dX4_isSoundChild_118 : decode cX4_isSoundChild 118 = .ok (.ireturn, 1) := by decide +kernel
theorem dX4_refsAre_0 : decode cX4_refsAre 0 = .ok (.iconst 0, 1) := by decide +kernel
theorem dX4_refsAre_1 : decode cX4_refsAre 1 = .ok (.istore 4, 2) := by decide +kernel
theorem dX4_refsAre_3 : decode cX4_refsAre 3 = .ok (.iload 4, 2) := by decide +kernel
theorem dX4_refsAre_5 : decode cX4_refsAre 5 = .ok (.aload_n 1, 1) := by decide +kernel
theorem dX4_refsAre_6 : decode cX4_refsAre 6 = .ok (.getfield 51, 3) := by decide +kernel
theorem dX4_refsAre_9 : decode cX4_refsAre 9 = .ok (.if_icmp .ge 17, 3) := by decide +kernel
theorem dX4_refsAre_12 : decode cX4_refsAre 12 = .ok (.aload_n 0, 1) := by decide +kernel
theorem dX4_refsAre_13 : decode cX4_refsAre 13 = .ok (.getfield 21, 3) := by decide +kernel
theorem dX4_refsAre_16 : decode cX4_refsAre 16 = .ok (.iload 4, 2) := by decide +kernel
theorem dX4_refsAre_18 : decode cX4_refsAre 18 = .ok (.iconst 0, 1) := by decide +kernel
theorem dX4_refsAre_19 : decode cX4_refsAre 19 = .ok (.iastore, 1) := by decide +kernel
theorem dX4_refsAre_20 : decode cX4_refsAre 20 = .ok (.iinc 4 1, 3) := by decide +kernel
theorem dX4_refsAre_23 : decode cX4_refsAre 23 = .ok (.goto (-20), 3) := by decide +kernel
theorem dX4_refsAre_26 : decode cX4_refsAre 26 = .ok (.iconst 0, 1) := by decide +kernel
theorem dX4_refsAre_27 : decode cX4_refsAre 27 = .ok (.istore 4, 2) := by decide +kernel
theorem dX4_refsAre_29 : decode cX4_refsAre 29 = .ok (.iload 4, 2) := by decide +kernel
theorem dX4_refsAre_31 : decode cX4_refsAre 31 = .ok (.bipush 8, 2) := by decide +kernel
theorem dX4_refsAre_33 : decode cX4_refsAre 33 = .ok (.if_icmp .ge 29, 3) := by decide +kernel
theorem dX4_refsAre_36 : decode cX4_refsAre 36 = .ok (.aload_n 3, 1) := by decide +kernel
theorem dX4_refsAre_37 : decode cX4_refsAre 37 = .ok (.iload 4, 2) := by decide +kernel
theorem dX4_refsAre_39 : decode cX4_refsAre 39 = .ok (.iaload, 1) := by decide +kernel
theorem dX4_refsAre_40 : decode cX4_refsAre 40 = .ok (.ifCond .lt 16, 3) := by decide +kernel
theorem dX4_refsAre_43 : decode cX4_refsAre 43 = .ok (.aload_n 0, 1) := by decide +kernel
theorem dX4_refsAre_44 : decode cX4_refsAre 44 = .ok (.getfield 21, 3) := by decide +kernel
theorem dX4_refsAre_47 : decode cX4_refsAre 47 = .ok (.aload_n 3, 1) := by decide +kernel
theorem dX4_refsAre_48 : decode cX4_refsAre 48 = .ok (.iload 4, 2) := by decide +kernel
theorem dX4_refsAre_50 : decode cX4_refsAre 50 = .ok (.iaload, 1) := by decide +kernel
theorem dX4_refsAre_51 : decode cX4_refsAre 51 = .ok (.dup2, 1) := by decide +kernel
theorem dX4_refsAre_52 : decode cX4_refsAre 52 = .ok (.iaload, 1) := by decide +kernel
theorem dX4_refsAre_53 : decode cX4_refsAre 53 = .ok (.iconst 1, 1) := by decide +kernel
theorem dX4_refsAre_54 : decode cX4_refsAre 54 = .ok (.iadd, 1) := by decide +kernel
theorem dX4_refsAre_55 : decode cX4_refsAre 55 = .ok (.iastore, 1) := by decide +kernel
theorem dX4_refsAre_56 : decode cX4_refsAre 56 = .ok (.iinc 4 1, 3) := by decide +kernel
theorem dX4_refsAre_59 : decode cX4_refsAre 59 = .ok (.goto (-30), 3) := by decide +kernel
theorem dX4_refsAre_62 : decode cX4_refsAre 62 = .ok (.iconst 0, 1) := by decide +kernel
theorem dX4_refsAre_63 : decode cX4_refsAre 63 = .ok (.istore 4, 2) := by decide +kernel
theorem dX4_refsAre_65 : decode cX4_refsAre 65 = .ok (.iload 4, 2) := by decide +kernel
theorem dX4_refsAre_67 : decode cX4_refsAre 67 = .ok (.aload_n 1, 1) := by decide +kernel
theorem dX4_refsAre_68 : decode cX4_refsAre 68 = .ok (.getfield 51, 3) := by decide +kernel
theorem dX4_refsAre_71 : decode cX4_refsAre 71 = .ok (.if_icmp .ge 77, 3) := by decide +kernel
theorem dX4_refsAre_74 : decode cX4_refsAre 74 = .ok (.aload_n 2, 1) := by decide +kernel
theorem dX4_refsAre_75 : decode cX4_refsAre 75 = .ok (.iload 4, 2) := by decide +kernel
theorem dX4_refsAre_77 : decode cX4_refsAre 77 = .ok (.iaload, 1) := by decide +kernel
theorem dX4_refsAre_78 : decode cX4_refsAre 78 = .ok (.ifCond .le 23, 3) := by decide +kernel
theorem dX4_refsAre_81 : decode cX4_refsAre 81 = .ok (.aload_n 1, 1) := by decide +kernel
theorem dX4_refsAre_82 : decode cX4_refsAre 82 = .ok (.getfield 72, 3) := by decide +kernel
theorem dX4_refsAre_85 : decode cX4_refsAre 85 = .ok (.iload 4, 2) := by decide +kernel
theorem dX4_refsAre_87 : decode cX4_refsAre 87 = .ok (.iaload, 1) := by decide +kernel
theorem dX4_refsAre_88 : decode cX4_refsAre 88 = .ok (.ifCond .le 13, 3) := by decide +kernel
theorem dX4_refsAre_91 : decode cX4_refsAre 91 = .ok (.aload_n 1, 1) := by decide +kernel
theorem dX4_refsAre_92 : decode cX4_refsAre 92 = .ok (.getfield 75, 3) := by decide +kernel
theorem dX4_refsAre_95 : decode cX4_refsAre 95 = .ok (.iload 4, 2) := by decide +kernel
theorem dX4_refsAre_97 : decode cX4_refsAre 97 = .ok (.iaload, 1) := by decide +kernel
theorem dX4_refsAre_98 : decode cX4_refsAre 98 = .ok (.goto 4, 3) := by decide +kernel
theorem dX4_refsAre_101 : decode cX4_refsAre 101 = .ok (.iconst 0, 1) := by decide +kernel
theorem dX4_refsAre_102 : decode cX4_refsAre 102 = .ok (.istore 5, 2) := by decide +kernel
theorem dX4_refsAre_104 : decode cX4_refsAre 104 = .ok (.iconst 0, 1) := by decide +kernel
theorem dX4_refsAre_105 : decode cX4_refsAre 105 = .ok (.istore 6, 2) := by decide +kernel
theorem dX4_refsAre_107 : decode cX4_refsAre 107 = .ok (.iload 6, 2) := by decide +kernel
theorem dX4_refsAre_109 : decode cX4_refsAre 109 = .ok (.iload 5, 2) := by decide +kernel
theorem dX4_refsAre_111 : decode cX4_refsAre 111 = .ok (.if_icmp .ge 31, 3) := by decide +kernel
theorem dX4_refsAre_114 : decode cX4_refsAre 114 = .ok (.aload_n 0, 1) := by decide +kernel
theorem dX4_refsAre_115 : decode cX4_refsAre 115 = .ok (.getfield 21, 3) := by decide +kernel
theorem dX4_refsAre_118 : decode cX4_refsAre 118 = .ok (.aload_n 1, 1) := by decide +kernel
theorem dX4_refsAre_119 : decode cX4_refsAre 119 = .ok (.getfield 84, 3) := by decide +kernel
theorem dX4_refsAre_122 : decode cX4_refsAre 122 = .ok (.aload_n 1, 1) := by decide +kernel
theorem dX4_refsAre_123 : decode cX4_refsAre 123 = .ok (.iload 4, 2) := by decide +kernel
theorem dX4_refsAre_125 : decode cX4_refsAre 125 = .ok (.iload 6, 2) := by decide +kernel
theorem dX4_refsAre_127 : decode cX4_refsAre 127 = .ok (.invokevirtual 80, 3) := by decide +kernel
theorem dX4_refsAre_130 : decode cX4_refsAre 130 = .ok (.iaload, 1) := by decide +kernel
theorem dX4_refsAre_131 : decode cX4_refsAre 131 = .ok (.dup2, 1) := by decide +kernel
theorem dX4_refsAre_132 : decode cX4_refsAre 132 = .ok (.iaload, 1) := by decide +kernel
theorem dX4_refsAre_133 : decode cX4_refsAre 133 = .ok (.iconst 1, 1) := by decide +kernel
theorem dX4_refsAre_134 : decode cX4_refsAre 134 = .ok (.iadd, 1) := by decide +kernel
theorem dX4_refsAre_135 : decode cX4_refsAre 135 = .ok (.iastore, 1) := by decide +kernel
theorem dX4_refsAre_136 : decode cX4_refsAre 136 = .ok (.iinc 6 1, 3) := by decide +kernel
theorem dX4_refsAre_139 : decode cX4_refsAre 139 = .ok (.goto (-32), 3) := by decide +kernel
theorem dX4_refsAre_142 : decode cX4_refsAre 142 = .ok (.iinc 4 1, 3) := by decide +kernel
theorem dX4_refsAre_145 : decode cX4_refsAre 145 = .ok (.goto (-80), 3) := by decide +kernel
theorem dX4_refsAre_148 : decode cX4_refsAre 148 = .ok (.iconst 0, 1) := by decide +kernel
theorem dX4_refsAre_149 : decode cX4_refsAre 149 = .ok (.istore 4, 2) := by decide +kernel
theorem dX4_refsAre_151 : decode cX4_refsAre 151 = .ok (.iload 4, 2) := by decide +kernel
theorem dX4_refsAre_153 : decode cX4_refsAre 153 = .ok (.aload_n 1, 1) := by decide +kernel
theorem dX4_refsAre_154 : decode cX4_refsAre 154 = .ok (.getfield 51, 3) := by decide +kernel
theorem dX4_refsAre_157 : decode cX4_refsAre 157 = .ok (.if_icmp .ge 25, 3) := by decide +kernel
theorem dX4_refsAre_160 : decode cX4_refsAre 160 = .ok (.aload_n 0, 1) := by decide +kernel
theorem dX4_refsAre_161 : decode cX4_refsAre 161 = .ok (.getfield 21, 3) := by decide +kernel
theorem dX4_refsAre_164 : decode cX4_refsAre 164 = .ok (.iload 4, 2) := by decide +kernel
theorem dX4_refsAre_166 : decode cX4_refsAre 166 = .ok (.iaload, 1) := by decide +kernel
theorem dX4_refsAre_167 : decode cX4_refsAre 167 = .ok (.aload_n 2, 1) := by decide +kernel
theorem dX4_refsAre_168 : decode cX4_refsAre 168 = .ok (.iload 4, 2) := by decide +kernel
theorem dX4_refsAre_170 : decode cX4_refsAre 170 = .ok (.iaload, 1) := by decide +kernel
theorem dX4_refsAre_171 : decode cX4_refsAre 171 = .ok (.if_icmp .eq 5, 3) := by decide +kernel
theorem dX4_refsAre_174 : decode cX4_refsAre 174 = .ok (.iconst 0, 1) := by decide +kernel
theorem dX4_refsAre_175 : decode cX4_refsAre 175 = .ok (.ireturn, 1) := by decide +kernel
theorem dX4_refsAre_176 : decode cX4_refsAre 176 = .ok (.iinc 4 1, 3) := by decide +kernel
theorem dX4_refsAre_179 : decode cX4_refsAre 179 = .ok (.goto (-28), 3) := by decide +kernel
theorem dX4_refsAre_182 : decode cX4_refsAre 182 = .ok (.iconst 1, 1) := by decide +kernel
theorem dX4_refsAre_183 : decode cX4_refsAre 183 = .ok (.ireturn, 1) := by decide +kernel
theorem dX4_rootByte_0 : decode cX4_rootByte 0 = .ok (.iload_n 0, 1) := by decide +kernel
theorem dX4_rootByte_1 : decode cX4_rootByte 1 = .ok (.bipush (-2), 2) := by decide +kernel
theorem dX4_rootByte_3 : decode cX4_rootByte 3 = .ok (.if_icmp .ne 7, 3) := by decide +kernel
theorem dX4_rootByte_6 : decode cX4_rootByte 6 = .ok (.sipush 255, 3) := by decide +kernel
theorem dX4_rootByte_9 : decode cX4_rootByte 9 = .ok (.ireturn, 1) := by decide +kernel
theorem dX4_rootByte_10 : decode cX4_rootByte 10 = .ok (.iload_n 0, 1) := by decide +kernel
theorem dX4_rootByte_11 : decode cX4_rootByte 11 = .ok (.iconst (-1), 1) := by decide +kernel
theorem dX4_rootByte_12 : decode cX4_rootByte 12 = .ok (.if_icmp .ne 9, 3) := by decide +kernel
theorem dX4_rootByte_15 : decode cX4_rootByte 15 = .ok (.sipush 254, 3) := by decide +kernel
theorem dX4_rootByte_18 : decode cX4_rootByte 18 = .ok (.goto 4, 3) := by decide +kernel
theorem dX4_rootByte_21 : decode cX4_rootByte 21 = .ok (.iload_n 0, 1) := by decide +kernel
theorem dX4_rootByte_22 : decode cX4_rootByte 22 = .ok (.ireturn, 1) := by decide +kernel
def m_x4_add_J36 (s1 : MS) : Option MS :=
  some s1
def m_x4_add (p0 : Int32) (s : MS) : Option MS :=
  if 1364 ≤ (gI s 321) then m_x4_add_J36 s else inb 1364 (gI s 321) (stn (sA s 17 (upd (gA s 17) (Int32.toNatClampNeg (gI s 321)) (p0 &&& 255))) (fun s4 => stn (sI s4 321 ((gI s4 321) + 1)) (fun s5 => m_x4_add_J36 s5)))
set_option maxHeartbeats 4000000 in
set_option maxRecDepth 100000 in
theorem k_x4_add (l : Launch) (D : va_G) (a : Nat → Nat) (p0 : Int32) (sz : Nat) (s : MS) (o : MS) (h : m_x4_add p0 s = some o) : yWv l yX4_add cX4_add 2 none { frames := 0, cells := 0, slots := 0, locals := 0 } D sz [.ref (a 16), .int p0] (CS D a s) (CS D a o) := by
  refine Met.ofW (cc := cX4_add) (maxL := 2) (ret := none) (by decide) rfl ?_
  intro p e s₀ m args below meth c s₁ B hml hv
  obtain ⟨rfl, ⟨hsz, hP, hK, hD0⟩, hN⟩ := hv
  have hx := B.exec
  have hb := B.bytes
  have hr := B.returns
  have hts := atoms_spec (ws := wz yX4_add cX4_add 2 none) B.pre
  have ht : ∀ w ∈ lw_gd, w.before _ s₀ = true := fun w h => hts w (List.mem_cons_of_mem _ h)
  have hown : s₀.vm.findClass RX4 = some m.cls := findClass_of_methodNamed B.named
  have hlocks := B.notSynchronized
  subst hsz
  have hD := hD0.self (sz := s₀.heap.size)
  generalize hAe : va_A (CS D a s) s₀.heap.size = A at hD ⊢
  have hA : ∀ q : Nat, s₀.heap.size ≤ q → A q := fun q h => by rw [← hAe]; exact Or.inr h
  have hS : va_S A s₀.heap s₀.heap [] := va_S.rf
  have hDD : ∀ t : MS, va_D A (CS D a t) := fun t => CW_D t hD
  have hl := lv_entry ([.ref (a 16), .int p0]) (n := 2) (Nat.le_of_ble_eq_true rfl)
  rw [lg_entry_eq]
  generalize (lg_sl ([.ref (a 16), .int p0]) ++ List.replicate (2 - (lg_sl ([.ref (a 16), .int p0])).length) Slot.unset).toArray = ls at hl ⊢
  have hl : lv_has ls 2 [(0, .ref (a 16)), (1, .int p0)] := hl
  unfold m_x4_add at h
  refine y_head (pcJ := 36) (σ := MS) (fun u H locs ls => va_P D vwCl (CS D a u) H ∧ va_S A s₀.heap H locs ∧ lv_has ls 2 [] ∧ m_x4_add_J36 u = some o) (fun u => []) (fun u H locs ls hI => ?_) (fun J36 => ?_)
  · obtain ⟨hP, hS, hl, h⟩ := hI
    obtain ⟨s1, rfl⟩ : ∃ z, z = u := ⟨u, rfl⟩
    have hP : va_P D vwCl (CS D a s1) H := hP
    have hl : lv_has ls 2 [] := hl
    have h : m_x4_add_J36 s1 = some o := h
    unfold m_x4_add_J36 at h
    obtain rfl := Option.some.inj h
    exact W.vret hx hb hr (fun t ht hW => ⟨⟨(), rfl, trivial, by rw [ht]; exact hP, va_K.moved hW.alike hK, hDD _⟩, hS.F ht⟩) hS.2.2 dX4_add_36
  refine lv_aload_n hx hb dX4_add_0 rfl (lv_at hl 0 rfl) ?_
  refine va_get (D := D) (ci := 4) (v := .int (gI s 321)) (C := RX4) (T := TX4) (N := 6) hx hb ht inX4 hown hK hP 16 CW_16 rfl 1 (by decide) (ht (.fieldLink RX4 24 "CloneVolumes$Picture" "size" "I") fl_X4_24) (fun _ h9 => h9) rfl dX4_add_1 ?_
  refine lv_aload_n hx hb dX4_add_4 rfl (lv_at hl 0 rfl) ?_
  refine va_get (D := D) (ci := 4) (v := .ref (a 17)) (C := RX4) (T := TX4) (N := 6) hx hb ht inX4 hown hK hP 16 CW_16 rfl 0 (by decide) (ht (.fieldLink RX4 11 "CloneVolumes$Picture" "bytes" "[I") fl_X4_11) (fun _ h9 => h9) rfl dX4_add_5 ?_
  refine va_alen (v := 1364) hx hb hK hP 17 0 CW_17 (ty := .int) rfl rfl dX4_add_8 ?_
  refine lv_icmp_ge (tgt := 36) hx hb dX4_add_9 (by decide) (fun c2 => ?_) (fun c2 => ?_)
  · have h := if_t c2 h
    exact J36 s _ _ _ ⟨hP, hS, lv_sub hl [] rfl, h⟩
  · have h := if_f c2 h
    refine lv_aload_n hx hb dX4_add_12 rfl (lv_at hl 0 rfl) ?_
    refine va_get (D := D) (ci := 4) (v := .ref (a 17)) (C := RX4) (T := TX4) (N := 6) hx hb ht inX4 hown hK hP 16 CW_16 rfl 0 (by decide) (ht (.fieldLink RX4 11 "CloneVolumes$Picture" "bytes" "[I") fl_X4_11) (fun _ h9 => h9) rfl dX4_add_13 ?_
    refine lv_aload_n hx hb dX4_add_16 rfl (lv_at hl 0 rfl) ?_
    refine va_get (D := D) (ci := 4) (v := .int (gI s 321)) (C := RX4) (T := TX4) (N := 6) hx hb ht inX4 hown hK hP 16 CW_16 rfl 1 (by decide) (ht (.fieldLink RX4 24 "CloneVolumes$Picture" "size" "I") fl_X4_24) (fun _ h9 => h9) rfl dX4_add_17 ?_
    refine lv_iload_n hx hb dX4_add_20 rfl (lv_at hl 1 rfl) ?_
    refine lv_sipush (v := 255) hx hb dX4_add_21 (by decide) ?_
    refine lv_iand hx hb dX4_add_24 ?_
    obtain ⟨hi3, h⟩ := inb_e h
    refine ya_iast hx hb hK hP (hDD _) hS 17 0 CW_17 rfl hi3 dX4_add_25 (CW_w17 _) (fun H locs hP hS => ?_)
    obtain ⟨s4, hs4, h⟩ := st_e h
    rw [hs4] at hP
    refine lv_aload_n hx hb dX4_add_26 rfl (lv_at hl 0 rfl) ?_
    refine lv_dup hx hb dX4_add_27 rfl ?_
    refine va_get (D := D) (ci := 4) (v := .int (gI s4 321)) (C := RX4) (T := TX4) (N := 6) hx hb ht inX4 hown hK hP 16 CW_16 rfl 1 (by decide) (ht (.fieldLink RX4 24 "CloneVolumes$Picture" "size" "I") fl_X4_24) (fun _ h9 => h9) rfl dX4_add_28 ?_
    refine lv_iconst (v := 1) hx hb dX4_add_31 (by decide) ?_
    refine lv_iadd hx hb dX4_add_32 ?_
    refine ya_put (D := D) (ci := 4) (v := .int ((gI s4 321) + 1)) (ty := .int) (C := RX4) (T := TX4) (N := 6) hx hb ht inX4 tyX4 tyX4_ok nmX4 hown hK hP (hDD _) hS 16 CW_16 rfl 1 (by decide) (ht (.fieldLink RX4 24 "CloneVolumes$Picture" "size" "I") fl_X4_24) (fun _ h9 => h9) rfl (by decide +kernel) rfl rfl (Nat.le_of_ble_eq_true rfl) dX4_add_33 (CW_w16_1 _) (fun H locs hP hS => ?_)
    obtain ⟨s5, hs5, h⟩ := st_e h
    rw [hs5] at hP
    exact J36 s5 _ _ _ ⟨hP, hS, lv_sub hl [] rfl, h⟩
def m_x4_addPair (p0 : Int32) (s : MS) : Option MS :=
  bn (m_x4_add (ushr p0 8) s) (fun s2 => bn (m_x4_add p0 s2) (fun s4 => some s4))
set_option maxHeartbeats 4000000 in
set_option maxRecDepth 100000 in
theorem k_x4_addPair (l : Launch) (D : va_G) (a : Nat → Nat) (p0 : Int32) (sz : Nat) (s : MS) (o : MS) (h : m_x4_addPair p0 s = some o) : yWv l yX4_addPair cX4_addPair 2 none { frames := 1, cells := 0, slots := 0, locals := 60 } D sz [.ref (a 16), .int p0] (CS D a s) (CS D a o) := by
  refine Met.ofW (cc := cX4_addPair) (maxL := 2) (ret := none) (by decide) rfl ?_
  intro p e s₀ m args below meth c s₁ B hml hv
  obtain ⟨rfl, ⟨hsz, hP, hK, hD0⟩, hN⟩ := hv
  have hx := B.exec
  have hb := B.bytes
  have hr := B.returns
  have hts := atoms_spec (ws := wz yX4_addPair cX4_addPair 2 none) B.pre
  have ht : ∀ w ∈ lw_gd, w.before _ s₀ = true := fun w h => hts w (List.mem_cons_of_mem _ h)
  have hown : s₀.vm.findClass RX4 = some m.cls := findClass_of_methodNamed B.named
  have hlocks := B.notSynchronized
  subst hsz
  have hD := hD0.self (sz := s₀.heap.size)
  generalize hAe : va_A (CS D a s) s₀.heap.size = A at hD ⊢
  have hA : ∀ q : Nat, s₀.heap.size ≤ q → A q := fun q h => by rw [← hAe]; exact Or.inr h
  have hS : va_S A s₀.heap s₀.heap [] := va_S.rf
  have hDD : ∀ t : MS, va_D A (CS D a t) := fun t => CW_D t hD
  have hl := lv_entry ([.ref (a 16), .int p0]) (n := 2) (Nat.le_of_ble_eq_true rfl)
  rw [lg_entry_eq]
  generalize (lg_sl ([.ref (a 16), .int p0]) ++ List.replicate (2 - (lg_sl ([.ref (a 16), .int p0])).length) Slot.unset).toArray = ls at hl ⊢
  have hl : lv_has ls 2 [(0, .ref (a 16)), (1, .int p0)] := hl
  unfold m_x4_addPair at h
  refine lv_aload_n hx hb dX4_addPair_0 rfl (lv_at hl 0 rfl) ?_
  refine lv_iload_n hx hb dX4_addPair_1 rfl (lv_at hl 1 rfl) ?_
  refine lv_bipush (v := 8) hx hb dX4_addPair_2 (by decide) ?_
  refine lv_iushr (v := ushr p0 8) hx hb dX4_addPair_4 rfl ?_
  obtain ⟨s2, hc1, h⟩ := bn_e h
  refine ywVv (As := [.int (ushr p0 8)]) (rest := []) (C := RX4) (n := 1) (ws' := CS D a s2) ⟨hx, hb, hml, hown, ht⟩ (k_x4_add l D a (ushr p0 8) _ _ _ hc1) (zgV ml_X4_33 im_X4_add se_X4_add in_X4 co_X4_add) rfl rfl (by decide +kernel) ⟨Nat.le_of_ble_eq_true rfl, Nat.le_of_ble_eq_true rfl⟩ hN hK hP (hDD _) hS hA 16 CW_16 rfl rfl rfl hl.1 rfl (Nat.le_of_ble_eq_true rfl) dX4_addPair_5 ⟨Nat.le_of_ble_eq_true rfl, Nat.le_of_ble_eq_true rfl⟩ (fun H locs hP hS => ?_)
  refine lv_aload_n hx hb dX4_addPair_8 rfl (lv_at hl 0 rfl) ?_
  refine lv_iload_n hx hb dX4_addPair_9 rfl (lv_at hl 1 rfl) ?_
  obtain ⟨s4, hc3, h⟩ := bn_e h
  refine ywVv (As := [.int p0]) (rest := []) (C := RX4) (n := 1) (ws' := CS D a s4) ⟨hx, hb, hml, hown, ht⟩ (k_x4_add l D a p0 _ _ _ hc3) (zgV ml_X4_33 im_X4_add se_X4_add in_X4 co_X4_add) rfl rfl (by decide +kernel) ⟨Nat.le_of_ble_eq_true rfl, Nat.le_of_ble_eq_true rfl⟩ hN hK hP (hDD _) hS hA 16 CW_16 rfl rfl rfl hl.1 rfl (Nat.le_of_ble_eq_true rfl) dX4_addPair_10 ⟨Nat.le_of_ble_eq_true rfl, Nat.le_of_ble_eq_true rfl⟩ (fun H locs hP hS => ?_)
  obtain rfl := Option.some.inj h
  exact W.vret hx hb hr (fun t ht hW => ⟨⟨(), rfl, trivial, by rw [ht]; exact hP, va_K.moved hW.alike hK, hDD _⟩, hS.F ht⟩) hS.2.2 dX4_addPair_13
def m_x4_drawBlock_b22 (lr22 : Int32 → Int32 → MS → Option MS) (x1 : Int32) (x2 : Int32) (s3 : MS) : Option MS :=
  rdI (gA s3 57) 48 x1 (fun y4 => if y4 ≤ x2 then some s3 else bn (m_x8_slot x1 x2 s3) (fun r7 => rdI (gA s3 58) 288 r7 (fun y8 => bn (m_x4_addPair y8 s3) (fun s10 => bn (m_x8_slot x1 x2 s10) (fun r12 => rdI (gA s10 59) 288 r12 (fun y13 => bn (m_x4_addPair y13 s10) (fun s15 => lr22 x1 (x2 + 1) s15)))))))
def m_x4_drawBlock_L22 (n : Nat) : Int32 → Int32 → MS → Option MS := lp (fun _ _ _ => none) (m_x4_drawBlock_b22) n
def m_x4_drawBlock (p1 : Int32) (s : MS) : Option MS :=
  rdI (gA s 56) 48 p1 (fun y16 => bn (m_x4_add y16 s) (fun s18 => rdI (gA s18 57) 48 p1 (fun y19 => bn (m_x4_add y19 s18) (fun s21 => m_x4_drawBlock_L22 FU p1 0 s21))))
set_option maxHeartbeats 4000000 in
set_option maxRecDepth 100000 in
theorem k_x4_drawBlock (l : Launch) (D : va_G) (a : Nat → Nat) (p1 : Int32) (sz : Nat) (s : MS) (o : MS) (h : m_x4_drawBlock p1 s = some o) : yWv l yX4_drawBlock cX4_drawBlock 4 none { frames := 2, cells := 0, slots := 0, locals := 120 } D sz [.ref (a 16), .ref (a 53), .int p1] (CS D a s) (CS D a o) := by
  refine Met.ofW (cc := cX4_drawBlock) (maxL := 4) (ret := none) (by decide) rfl ?_
  intro p e s₀ m args below meth c s₁ B hml hv
  obtain ⟨rfl, ⟨hsz, hP, hK, hD0⟩, hN⟩ := hv
  have hx := B.exec
  have hb := B.bytes
  have hr := B.returns
  have hts := atoms_spec (ws := wz yX4_drawBlock cX4_drawBlock 4 none) B.pre
  have ht : ∀ w ∈ lw_gd, w.before _ s₀ = true := fun w h => hts w (List.mem_cons_of_mem _ h)
  have hown : s₀.vm.findClass RX4 = some m.cls := findClass_of_methodNamed B.named
  have hlocks := B.notSynchronized
  subst hsz
  have hD := hD0.self (sz := s₀.heap.size)
  generalize hAe : va_A (CS D a s) s₀.heap.size = A at hD ⊢
  have hA : ∀ q : Nat, s₀.heap.size ≤ q → A q := fun q h => by rw [← hAe]; exact Or.inr h
  have hS : va_S A s₀.heap s₀.heap [] := va_S.rf
  have hDD : ∀ t : MS, va_D A (CS D a t) := fun t => CW_D t hD
  have hl := lv_entry ([.ref (a 16), .ref (a 53), .int p1]) (n := 4) (Nat.le_of_ble_eq_true rfl)
  rw [lg_entry_eq]
  generalize (lg_sl ([.ref (a 16), .ref (a 53), .int p1]) ++ List.replicate (4 - (lg_sl ([.ref (a 16), .ref (a 53), .int p1])).length) Slot.unset).toArray = ls at hl ⊢
  have hl : lv_has ls 4 [(0, .ref (a 16)), (1, .ref (a 53)), (2, .int p1)] := hl
  unfold m_x4_drawBlock at h
  refine y_loop (pcJ := 22) (σ := Int32 × Int32 × MS) (fun n u H locs ls => va_P D vwCl (CS D a u.2.2) H ∧ va_S A s₀.heap H locs ∧ lv_has ls 4 [(0, .ref (a 16)), (1, .ref (a 53)), (2, .int u.1), (3, .int u.2.1)] ∧ m_x4_drawBlock_L22 n u.1 u.2.1 u.2.2 = some o) (fun u => []) (fun u H locs ls hI => by obtain ⟨_, _, _, h⟩ := hI; cases h) (fun n22 ih22 u H locs ls hI => ?_) (fun J22 => ?_)
  · obtain ⟨hP, hS, hl, h⟩ := hI
    obtain ⟨x1, x2, s3⟩ := u
    have hP : va_P D vwCl (CS D a s3) H := hP
    have hl : lv_has ls 4 [(0, .ref (a 16)), (1, .ref (a 53)), (2, .int x1), (3, .int x2)] := hl
    have h : m_x4_drawBlock_b22 (m_x4_drawBlock_L22 n22) x1 x2 s3 = some o := h
    unfold m_x4_drawBlock_b22 at h
    refine lv_iload_n hx hb dX4_drawBlock_22 rfl (lv_at hl 3 rfl) ?_
    refine lv_aload_n hx hb dX4_drawBlock_23 rfl (lv_at hl 1 rfl) ?_
    refine va_get (D := D) (ci := 8) (v := .ref (a 57)) (C := RX8) (T := TX8) (N := 11) hx hb ht inX8 hown hK hP 53 CW_53 rfl 6 (by decide) (ht (.fieldLink RX4 75 "CloneVolumes$State" "size" "[I") fl_X4_75) (fun _ h9 => h9) rfl dX4_drawBlock_24 ?_
    refine lv_iload_n hx hb dX4_drawBlock_27 rfl (lv_at hl 2 rfl) ?_
    obtain ⟨y4, ey4, iy4, h⟩ := rdI_e h
    refine ya_iald hx hb hK hP 57 0 CW_57 rfl ey4 iy4 dX4_drawBlock_28 ?_
    refine lv_icmp_ge (tgt := 68) hx hb dX4_drawBlock_29 (by decide) (fun c5 => ?_) (fun c5 => ?_)
    · have h := if_t c5 h
      obtain rfl := Option.some.inj h
      exact W.vret hx hb hr (fun t ht hW => ⟨⟨(), rfl, trivial, by rw [ht]; exact hP, va_K.moved hW.alike hK, hDD _⟩, hS.F ht⟩) hS.2.2 dX4_drawBlock_68
    · have h := if_f c5 h
      refine lv_aload_n hx hb dX4_drawBlock_32 rfl (lv_at hl 0 rfl) ?_
      refine lv_aload_n hx hb dX4_drawBlock_33 rfl (lv_at hl 1 rfl) ?_
      refine va_get (D := D) (ci := 8) (v := .ref (a 58)) (C := RX8) (T := TX8) (N := 11) hx hb ht inX8 hown hK hP 53 CW_53 rfl 7 (by decide) (ht (.fieldLink RX4 77 "CloneVolumes$State" "keys" "[I") fl_X4_77) (fun _ h9 => h9) rfl dX4_drawBlock_34 ?_
      refine lv_aload_n hx hb dX4_drawBlock_37 rfl (lv_at hl 1 rfl) ?_
      refine lv_iload_n hx hb dX4_drawBlock_38 rfl (lv_at hl 2 rfl) ?_
      refine lv_iload_n hx hb dX4_drawBlock_39 rfl (lv_at hl 3 rfl) ?_
      obtain ⟨r7, hc6, h⟩ := bn_e h
      refine ycV (As := [.int x1, .int x2]) (rest := [.ref (a 58), .ref (a 16)]) (C := RX8) (n := 2) ⟨hx, hb, hml, hown, ht⟩ (k_x8_slot l D a x1 x2 _ _ hc6) (zgV ml_X4_80 im_X8_slot se_X8_slot in_X8 co_X8_slot) rfl rfl (by decide +kernel) ⟨Nat.le_of_ble_eq_true rfl, Nat.le_of_ble_eq_true rfl⟩ hN hK hP hS 53 CW_53 rfl rfl rfl hl.1 rfl (Nat.le_of_ble_eq_true rfl) dX4_drawBlock_40 ⟨Nat.le_of_ble_eq_true rfl, Nat.le_of_ble_eq_true rfl⟩ (fun H locs hP hS => ?_)
      obtain ⟨y8, ey8, iy8, h⟩ := rdI_e h
      refine ya_iald hx hb hK hP 58 0 CW_58 rfl ey8 iy8 dX4_drawBlock_43 ?_
      obtain ⟨s10, hc9, h⟩ := bn_e h
      refine ywVv (As := [.int y8]) (rest := []) (C := RX4) (n := 1) (ws' := CS D a s10) ⟨hx, hb, hml, hown, ht⟩ (k_x4_addPair l D a y8 _ _ _ hc9) (zgV ml_X4_38 im_X4_addPair se_X4_addPair in_X4 co_X4_addPair) rfl rfl (by decide +kernel) ⟨Nat.le_of_ble_eq_true rfl, Nat.le_of_ble_eq_true rfl⟩ hN hK hP (hDD _) hS hA 16 CW_16 rfl rfl rfl hl.1 rfl (Nat.le_of_ble_eq_true rfl) dX4_drawBlock_44 ⟨Nat.le_of_ble_eq_true rfl, Nat.le_of_ble_eq_true rfl⟩ (fun H locs hP hS => ?_)
      refine lv_aload_n hx hb dX4_drawBlock_47 rfl (lv_at hl 0 rfl) ?_
      refine lv_aload_n hx hb dX4_drawBlock_48 rfl (lv_at hl 1 rfl) ?_
      refine va_get (D := D) (ci := 8) (v := .ref (a 59)) (C := RX8) (T := TX8) (N := 11) hx hb ht inX8 hown hK hP 53 CW_53 rfl 8 (by decide) (ht (.fieldLink RX4 84 "CloneVolumes$State" "values" "[I") fl_X4_84) (fun _ h9 => h9) rfl dX4_drawBlock_49 ?_
      refine lv_aload_n hx hb dX4_drawBlock_52 rfl (lv_at hl 1 rfl) ?_
      refine lv_iload_n hx hb dX4_drawBlock_53 rfl (lv_at hl 2 rfl) ?_
      refine lv_iload_n hx hb dX4_drawBlock_54 rfl (lv_at hl 3 rfl) ?_
      obtain ⟨r12, hc11, h⟩ := bn_e h
      refine ycV (As := [.int x1, .int x2]) (rest := [.ref (a 59), .ref (a 16)]) (C := RX8) (n := 2) ⟨hx, hb, hml, hown, ht⟩ (k_x8_slot l D a x1 x2 _ _ hc11) (zgV ml_X4_80 im_X8_slot se_X8_slot in_X8 co_X8_slot) rfl rfl (by decide +kernel) ⟨Nat.le_of_ble_eq_true rfl, Nat.le_of_ble_eq_true rfl⟩ hN hK hP hS 53 CW_53 rfl rfl rfl hl.1 rfl (Nat.le_of_ble_eq_true rfl) dX4_drawBlock_55 ⟨Nat.le_of_ble_eq_true rfl, Nat.le_of_ble_eq_true rfl⟩ (fun H locs hP hS => ?_)
      obtain ⟨y13, ey13, iy13, h⟩ := rdI_e h
      refine ya_iald hx hb hK hP 59 0 CW_59 rfl ey13 iy13 dX4_drawBlock_58 ?_
      obtain ⟨s15, hc14, h⟩ := bn_e h
      refine ywVv (As := [.int y13]) (rest := []) (C := RX4) (n := 1) (ws' := CS D a s15) ⟨hx, hb, hml, hown, ht⟩ (k_x4_addPair l D a y13 _ _ _ hc14) (zgV ml_X4_38 im_X4_addPair se_X4_addPair in_X4 co_X4_addPair) rfl rfl (by decide +kernel) ⟨Nat.le_of_ble_eq_true rfl, Nat.le_of_ble_eq_true rfl⟩ hN hK hP (hDD _) hS hA 16 CW_16 rfl rfl rfl hl.1 rfl (Nat.le_of_ble_eq_true rfl) dX4_drawBlock_59 ⟨Nat.le_of_ble_eq_true rfl, Nat.le_of_ble_eq_true rfl⟩ (fun H locs hP hS => ?_)
      refine lv_iinc (v := x2 + 1) (lv' := [(3, .int (x2 + 1)), (0, .ref (a 16)), (1, .ref (a 53)), (2, .int x1)]) hx hb dX4_drawBlock_62 hl (k := 3) rfl rfl (by decide) rfl (fun ls hl => ?_)
      refine lv_goto (tgt := 22) hx hb dX4_drawBlock_65 (by decide) ?_
      exact ih22 (x1, x2 + 1, s15) _ _ _ ⟨hP, hS, lv_sub hl [1, 2, 3, 0] rfl, h⟩
  refine lv_aload_n hx hb dX4_drawBlock_0 rfl (lv_at hl 0 rfl) ?_
  refine lv_aload_n hx hb dX4_drawBlock_1 rfl (lv_at hl 1 rfl) ?_
  refine va_get (D := D) (ci := 8) (v := .ref (a 56)) (C := RX8) (T := TX8) (N := 11) hx hb ht inX8 hown hK hP 53 CW_53 rfl 5 (by decide) (ht (.fieldLink RX4 72 "CloneVolumes$State" "level" "[I") fl_X4_72) (fun _ h9 => h9) rfl dX4_drawBlock_2 ?_
  refine lv_iload_n hx hb dX4_drawBlock_5 rfl (lv_at hl 2 rfl) ?_
  obtain ⟨y16, ey16, iy16, h⟩ := rdI_e h
  refine ya_iald hx hb hK hP 56 0 CW_56 rfl ey16 iy16 dX4_drawBlock_6 ?_
  obtain ⟨s18, hc17, h⟩ := bn_e h
  refine ywVv (As := [.int y16]) (rest := []) (C := RX4) (n := 1) (ws' := CS D a s18) ⟨hx, hb, hml, hown, ht⟩ (k_x4_add l D a y16 _ _ _ hc17) (zgV ml_X4_33 im_X4_add se_X4_add in_X4 co_X4_add) rfl rfl (by decide +kernel) ⟨Nat.le_of_ble_eq_true rfl, Nat.le_of_ble_eq_true rfl⟩ hN hK hP (hDD _) hS hA 16 CW_16 rfl rfl rfl hl.1 rfl (Nat.le_of_ble_eq_true rfl) dX4_drawBlock_7 ⟨Nat.le_of_ble_eq_true rfl, Nat.le_of_ble_eq_true rfl⟩ (fun H locs hP hS => ?_)
  refine lv_aload_n hx hb dX4_drawBlock_10 rfl (lv_at hl 0 rfl) ?_
  refine lv_aload_n hx hb dX4_drawBlock_11 rfl (lv_at hl 1 rfl) ?_
  refine va_get (D := D) (ci := 8) (v := .ref (a 57)) (C := RX8) (T := TX8) (N := 11) hx hb ht inX8 hown hK hP 53 CW_53 rfl 6 (by decide) (ht (.fieldLink RX4 75 "CloneVolumes$State" "size" "[I") fl_X4_75) (fun _ h9 => h9) rfl dX4_drawBlock_12 ?_
  refine lv_iload_n hx hb dX4_drawBlock_15 rfl (lv_at hl 2 rfl) ?_
  obtain ⟨y19, ey19, iy19, h⟩ := rdI_e h
  refine ya_iald hx hb hK hP 57 0 CW_57 rfl ey19 iy19 dX4_drawBlock_16 ?_
  obtain ⟨s21, hc20, h⟩ := bn_e h
  refine ywVv (As := [.int y19]) (rest := []) (C := RX4) (n := 1) (ws' := CS D a s21) ⟨hx, hb, hml, hown, ht⟩ (k_x4_add l D a y19 _ _ _ hc20) (zgV ml_X4_33 im_X4_add se_X4_add in_X4 co_X4_add) rfl rfl (by decide +kernel) ⟨Nat.le_of_ble_eq_true rfl, Nat.le_of_ble_eq_true rfl⟩ hN hK hP (hDD _) hS hA 16 CW_16 rfl rfl rfl hl.1 rfl (Nat.le_of_ble_eq_true rfl) dX4_drawBlock_17 ⟨Nat.le_of_ble_eq_true rfl, Nat.le_of_ble_eq_true rfl⟩ (fun H locs hP hS => ?_)
  refine lv_iconst (v := 0) hx hb dX4_drawBlock_20 (by decide) ?_
  refine lv_istore_n (lv' := [(3, .int 0), (0, .ref (a 16)), (1, .ref (a 53)), (2, .int p1)]) hx hb dX4_drawBlock_21 rfl hl (by decide) rfl (fun ls hl => ?_)
  exact J22 FU (p1, 0, s21) _ _ _ ⟨hP, hS, lv_sub hl [1, 2, 3, 0] rfl, h⟩
def m_x4_rootByte_J22 (s : MS) (x1 : Int32) : Option Int32 :=
  some x1
def m_x4_rootByte (p0 : Int32) (s : MS) : Option Int32 :=
  if p0 = (-2) then some 255 else if p0 = (-1) then m_x4_rootByte_J22 s 254 else m_x4_rootByte_J22 s p0
set_option maxHeartbeats 4000000 in
set_option maxRecDepth 100000 in
theorem k_x4_rootByte (l : Launch) (D : va_G) (a : Nat → Nat) (p0 : Int32) (s : MS) (o : Int32) (h : m_x4_rootByte p0 s = some o) : yRi l yX4_rootByte cX4_rootByte 1 (some .int) { frames := 0, cells := 0, slots := 0, locals := 0 } D [.int p0] (CS D a s) o := by
  refine Met.ofW (cc := cX4_rootByte) (maxL := 1) (ret := (some .int)) (by decide) rfl ?_
  intro p e s₀ m args below meth c s₁ B hml hv
  obtain ⟨rfl, ⟨hP, hK⟩, hN⟩ := hv
  have hx := B.exec
  have hb := B.bytes
  have hr := B.returns
  have hts := atoms_spec (ws := wz yX4_rootByte cX4_rootByte 1 (some .int)) B.pre
  have ht : ∀ w ∈ lw_gd, w.before _ s₀ = true := fun w h => hts w (List.mem_cons_of_mem _ h)
  have hown : s₀.vm.findClass RX4 = some m.cls := findClass_of_methodNamed B.named
  have hlocks := B.notSynchronized
  have hS : va_S (fun _ => False) s₀.heap s₀.heap [] := va_S.rf
  have hl := lv_entry ([.int p0]) (n := 1) (Nat.le_of_ble_eq_true rfl)
  rw [lg_entry_eq]
  generalize (lg_sl ([.int p0]) ++ List.replicate (1 - (lg_sl ([.int p0])).length) Slot.unset).toArray = ls at hl ⊢
  have hl : lv_has ls 1 [(0, .int p0)] := hl
  unfold m_x4_rootByte at h
  refine y_head (pcJ := 22) (σ := Int32) (fun u H locs ls => va_P D vwCl (CS D a s) H ∧ va_S (fun _ => False) s₀.heap H locs ∧ lv_has ls 1 [] ∧ m_x4_rootByte_J22 s u = some o) (fun u => [.int u]) (fun u H locs ls hI => ?_) (fun J22 => ?_)
  · obtain ⟨hP, hS, hl, h⟩ := hI
    obtain ⟨x1, rfl⟩ : ∃ z, z = u := ⟨u, rfl⟩
    have hP : va_P D vwCl (CS D a s) H := hP
    have hl : lv_has ls 1 [] := hl
    have h : m_x4_rootByte_J22 s x1 = some o := h
    unfold m_x4_rootByte_J22 at h
    obtain rfl := Option.some.inj h
    exact W.iret (v := x1) hx hb hr (fun t ht hW => ⟨⟨_, (), rfl, rfl, trivial⟩, hS.F ht⟩) hS.2.2 dX4_rootByte_22
  refine lv_iload_n hx hb dX4_rootByte_0 rfl (lv_at hl 0 rfl) ?_
  refine lv_bipush (v := (-2)) hx hb dX4_rootByte_1 (by decide) ?_
  refine lv_icmp_ne (tgt := 10) hx hb dX4_rootByte_3 (by decide) (fun c2 => ?_) (fun c2 => ?_)
  · have h := if_f c2 h
    refine lv_iload_n hx hb dX4_rootByte_10 rfl (lv_at hl 0 rfl) ?_
    refine lv_iconst (v := (-1)) hx hb dX4_rootByte_11 (by decide) ?_
    refine lv_icmp_ne (tgt := 21) hx hb dX4_rootByte_12 (by decide) (fun c3 => ?_) (fun c3 => ?_)
    · have h := if_f c3 h
      refine lv_iload_n hx hb dX4_rootByte_21 rfl (lv_at hl 0 rfl) ?_
      exact J22 p0 _ _ _ ⟨hP, hS, lv_sub hl [] rfl, h⟩
    · have h := if_t c3 h
      refine lv_sipush (v := 254) hx hb dX4_rootByte_15 (by decide) ?_
      refine lv_goto (tgt := 22) hx hb dX4_rootByte_18 (by decide) ?_
      exact J22 254 _ _ _ ⟨hP, hS, lv_sub hl [] rfl, h⟩
  · have h := if_t c2 h
    refine lv_sipush (v := 255) hx hb dX4_rootByte_6 (by decide) ?_
    obtain rfl := Option.some.inj h
    exact W.iret (v := 255) hx hb hr (fun t ht hW => ⟨⟨_, (), rfl, rfl, trivial⟩, hS.F ht⟩) hS.2.2 dX4_rootByte_9
def m_x4_draw_J111 (lr69 : Int32 → MS → Option (Int32 × MS)) (x3 : Int32) (s4 : MS) : Option (Int32 × MS) :=
  lr69 (x3 + 1) s4
def m_x4_draw_b69 (lr69 : Int32 → MS → Option (Int32 × MS)) (x1 : Int32) (s2 : MS) : Option (Int32 × MS) :=
  if (gI s2 1060) ≤ x1 then bn (m_x4_seal (gI s2 321) s2) (fun r7 => bn (m_x4_add r7 s2) (fun s9 => some (gI s9 321, s9))) else rdI (gA s2 54) 48 x1 (fun y10 => bn (m_x4_add y10 s2) (fun s12 => rdI (gA s12 55) 48 x1 (fun y13 => bn (m_x4_add y13 s12) (fun s15 => bn (m_x8_isFree x1 s15) (fun r17 => if r17 = 0 then bn (m_x4_drawBlock x1 s15) (fun s20 => m_x4_draw_J111 lr69 x1 s20) else m_x4_draw_J111 lr69 x1 s15)))))
def m_x4_draw_L69 (n : Nat) : Int32 → MS → Option (Int32 × MS) := lp (fun _ _ => none) (m_x4_draw_b69) n
def m_x4_draw_b29 (lr29 : Int32 → MS → Option (Int32 × MS)) (x21 : Int32) (s22 : MS) : Option (Int32 × MS) :=
  if 8 ≤ x21 then m_x4_draw_L69 FU 0 s22 else rdI (gA s22 60) 8 x21 (fun y24 => bn (m_x4_rootByte y24 s22) (fun r26 => bn (m_x4_add r26 s22) (fun s28 => rdI (gA s28 61) 8 x21 (fun y29 => bn (m_x4_rootByte y29 s28) (fun r31 => bn (m_x4_add r31 s28) (fun s33 => lr29 (x21 + 1) s33))))))
def m_x4_draw_L29 (n : Nat) : Int32 → MS → Option (Int32 × MS) := lp (fun _ _ => none) (m_x4_draw_b29) n
def m_x4_draw (s : MS) : Option (Int32 × MS) :=
  stn (sI s 321 0) (fun s34 => bn (m_x4_add (ushr (gI s34 1061) 16) s34) (fun s36 => bn (m_x4_addPair ((gI s36 1061) &&& 65535) s36) (fun s38 => m_x4_draw_L29 FU 0 s38)))
set_option maxHeartbeats 4000000 in
set_option maxRecDepth 100000 in
theorem k_x4_draw (l : Launch) (D : va_G) (a : Nat → Nat) (sz : Nat) (s : MS) (o : (Int32 × MS)) (h : m_x4_draw s = some o) : yWi l yX4_draw cX4_draw 3 (some .int) { frames := 3, cells := 0, slots := 0, locals := 180 } D sz [.ref (a 16), .ref (a 53)] (CS D a s) (CS D a o.2) o.1 := by
  refine Met.ofW (cc := cX4_draw) (maxL := 3) (ret := (some .int)) (by decide) rfl ?_
  intro p e s₀ m args below meth c s₁ B hml hv
  obtain ⟨rfl, ⟨hsz, hP, hK, hD0⟩, hN⟩ := hv
  have hx := B.exec
  have hb := B.bytes
  have hr := B.returns
  have hts := atoms_spec (ws := wz yX4_draw cX4_draw 3 (some .int)) B.pre
  have ht : ∀ w ∈ lw_gd, w.before _ s₀ = true := fun w h => hts w (List.mem_cons_of_mem _ h)
  have hown : s₀.vm.findClass RX4 = some m.cls := findClass_of_methodNamed B.named
  have hlocks := B.notSynchronized
  subst hsz
  have hD := hD0.self (sz := s₀.heap.size)
  generalize hAe : va_A (CS D a s) s₀.heap.size = A at hD ⊢
  have hA : ∀ q : Nat, s₀.heap.size ≤ q → A q := fun q h => by rw [← hAe]; exact Or.inr h
  have hS : va_S A s₀.heap s₀.heap [] := va_S.rf
  have hDD : ∀ t : MS, va_D A (CS D a t) := fun t => CW_D t hD
  have hl := lv_entry ([.ref (a 16), .ref (a 53)]) (n := 3) (Nat.le_of_ble_eq_true rfl)
  rw [lg_entry_eq]
  generalize (lg_sl ([.ref (a 16), .ref (a 53)]) ++ List.replicate (3 - (lg_sl ([.ref (a 16), .ref (a 53)])).length) Slot.unset).toArray = ls at hl ⊢
  have hl : lv_has ls 3 [(0, .ref (a 16)), (1, .ref (a 53))] := hl
  unfold m_x4_draw at h
  refine y_loop (pcJ := 69) (σ := Int32 × MS) (fun n u H locs ls => va_P D vwCl (CS D a u.2) H ∧ va_S A s₀.heap H locs ∧ lv_has ls 3 [(0, .ref (a 16)), (1, .ref (a 53)), (2, .int u.1)] ∧ m_x4_draw_L69 n u.1 u.2 = some o) (fun u => []) (fun u H locs ls hI => by obtain ⟨_, _, _, h⟩ := hI; cases h) (fun n69 ih69 u H locs ls hI => ?_) (fun J69 => ?_)
  · obtain ⟨hP, hS, hl, h⟩ := hI
    obtain ⟨x1, s2⟩ := u
    have hP : va_P D vwCl (CS D a s2) H := hP
    have hl : lv_has ls 3 [(0, .ref (a 16)), (1, .ref (a 53)), (2, .int x1)] := hl
    have h : m_x4_draw_b69 (m_x4_draw_L69 n69) x1 s2 = some o := h
    unfold m_x4_draw_b69 at h
    refine y_head (pcJ := 111) (σ := Int32 × MS) (fun u H locs ls => va_P D vwCl (CS D a u.2) H ∧ va_S A s₀.heap H locs ∧ lv_has ls 3 [(0, .ref (a 16)), (1, .ref (a 53)), (2, .int u.1)] ∧ m_x4_draw_J111 (m_x4_draw_L69 n69) u.1 u.2 = some o) (fun u => []) (fun u H locs ls hI => ?_) (fun J111 => ?_)
    · obtain ⟨hP, hS, hl, h⟩ := hI
      obtain ⟨x3, s4⟩ := u
      have hP : va_P D vwCl (CS D a s4) H := hP
      have hl : lv_has ls 3 [(0, .ref (a 16)), (1, .ref (a 53)), (2, .int x3)] := hl
      have h : m_x4_draw_J111 (m_x4_draw_L69 n69) x3 s4 = some o := h
      unfold m_x4_draw_J111 at h
      refine lv_iinc (v := x3 + 1) (lv' := [(2, .int (x3 + 1)), (0, .ref (a 16)), (1, .ref (a 53))]) hx hb dX4_draw_111 hl (k := 2) rfl rfl (by decide) rfl (fun ls hl => ?_)
      refine lv_goto (tgt := 69) hx hb dX4_draw_114 (by decide) ?_
      exact ih69 (x3 + 1, s4) _ _ _ ⟨hP, hS, lv_sub hl [1, 2, 0] rfl, h⟩
    refine lv_iload_n hx hb dX4_draw_69 rfl (lv_at hl 2 rfl) ?_
    refine lv_aload_n hx hb dX4_draw_70 rfl (lv_at hl 1 rfl) ?_
    refine va_get (D := D) (ci := 8) (v := .int (gI s2 1060)) (C := RX8) (T := TX8) (N := 11) hx hb ht inX8 hown hK hP 53 CW_53 rfl 0 (by decide) (ht (.fieldLink RX4 51 "CloneVolumes$State" "blocks" "I") fl_X4_51) (fun _ h9 => h9) rfl dX4_draw_71 ?_
    refine lv_icmp_ge (tgt := 117) hx hb dX4_draw_74 (by decide) (fun c5 => ?_) (fun c5 => ?_)
    · have h := if_t c5 h
      refine lv_aload_n hx hb dX4_draw_117 rfl (lv_at hl 0 rfl) ?_
      refine va_get (D := D) (ci := 4) (v := .ref (a 17)) (C := RX4) (T := TX4) (N := 6) hx hb ht inX4 hown hK hP 16 CW_16 rfl 0 (by decide) (ht (.fieldLink RX4 11 "CloneVolumes$Picture" "bytes" "[I") fl_X4_11) (fun _ h9 => h9) rfl dX4_draw_118 ?_
      refine lv_aload_n hx hb dX4_draw_121 rfl (lv_at hl 0 rfl) ?_
      refine va_get (D := D) (ci := 4) (v := .int (gI s2 321)) (C := RX4) (T := TX4) (N := 6) hx hb ht inX4 hown hK hP 16 CW_16 rfl 1 (by decide) (ht (.fieldLink RX4 24 "CloneVolumes$Picture" "size" "I") fl_X4_24) (fun _ h9 => h9) rfl dX4_draw_122 ?_
      obtain ⟨r7, hc6, h⟩ := bn_e h
      refine ycS (As := [.ref (a 17), .int (gI s2 321)]) (rest := []) (n := 2) ⟨hx, hb, hml, hown, ht⟩ (k_x4_seal l D a (gI s2 321) _ _ hc6) (zgT ml_X4_68 st_X4_seal in_X4 co_X4_seal) rfl rfl (by decide +kernel) ⟨Nat.le_of_ble_eq_true rfl, Nat.le_of_ble_eq_true rfl⟩ hN hK hP hS rfl hl.1 rfl (Nat.le_of_ble_eq_true rfl) dX4_draw_125 ⟨Nat.le_of_ble_eq_true rfl, Nat.le_of_ble_eq_true rfl⟩ (fun H locs hP hS => ?_)
      refine lv_istore_n (lv' := [(2, .int r7), (0, .ref (a 16)), (1, .ref (a 53))]) hx hb dX4_draw_128 rfl hl (by decide) rfl (fun ls hl => ?_)
      refine lv_aload_n hx hb dX4_draw_129 rfl (lv_at hl 1 rfl) ?_
      refine lv_iload_n hx hb dX4_draw_130 rfl (lv_at hl 0 rfl) ?_
      obtain ⟨s9, hc8, h⟩ := bn_e h
      refine ywVv (As := [.int r7]) (rest := []) (C := RX4) (n := 1) (ws' := CS D a s9) ⟨hx, hb, hml, hown, ht⟩ (k_x4_add l D a r7 _ _ _ hc8) (zgV ml_X4_33 im_X4_add se_X4_add in_X4 co_X4_add) rfl rfl (by decide +kernel) ⟨Nat.le_of_ble_eq_true rfl, Nat.le_of_ble_eq_true rfl⟩ hN hK hP (hDD _) hS hA 16 CW_16 rfl rfl rfl hl.1 rfl (Nat.le_of_ble_eq_true rfl) dX4_draw_131 ⟨Nat.le_of_ble_eq_true rfl, Nat.le_of_ble_eq_true rfl⟩ (fun H locs hP hS => ?_)
      refine lv_aload_n hx hb dX4_draw_134 rfl (lv_at hl 1 rfl) ?_
      refine va_get (D := D) (ci := 4) (v := .int (gI s9 321)) (C := RX4) (T := TX4) (N := 6) hx hb ht inX4 hown hK hP 16 CW_16 rfl 1 (by decide) (ht (.fieldLink RX4 24 "CloneVolumes$Picture" "size" "I") fl_X4_24) (fun _ h9 => h9) rfl dX4_draw_135 ?_
      obtain rfl := Option.some.inj h
      exact W.iret (v := gI s9 321) hx hb hr (fun t ht hW => ⟨⟨_, (), rfl, rfl, by rw [ht]; exact hP, va_K.moved hW.alike hK, hDD _⟩, hS.F ht⟩) hS.2.2 dX4_draw_138
    · have h := if_f c5 h
      refine lv_aload_n hx hb dX4_draw_77 rfl (lv_at hl 0 rfl) ?_
      refine lv_aload_n hx hb dX4_draw_78 rfl (lv_at hl 1 rfl) ?_
      refine va_get (D := D) (ci := 8) (v := .ref (a 54)) (C := RX8) (T := TX8) (N := 11) hx hb ht inX8 hown hK hP 53 CW_53 rfl 3 (by decide) (ht (.fieldLink RX4 54 "CloneVolumes$State" "count" "[I") fl_X4_54) (fun _ h9 => h9) rfl dX4_draw_79 ?_
      refine lv_iload_n hx hb dX4_draw_82 rfl (lv_at hl 2 rfl) ?_
      obtain ⟨y10, ey10, iy10, h⟩ := rdI_e h
      refine ya_iald hx hb hK hP 54 0 CW_54 rfl ey10 iy10 dX4_draw_83 ?_
      obtain ⟨s12, hc11, h⟩ := bn_e h
      refine ywVv (As := [.int y10]) (rest := []) (C := RX4) (n := 1) (ws' := CS D a s12) ⟨hx, hb, hml, hown, ht⟩ (k_x4_add l D a y10 _ _ _ hc11) (zgV ml_X4_33 im_X4_add se_X4_add in_X4 co_X4_add) rfl rfl (by decide +kernel) ⟨Nat.le_of_ble_eq_true rfl, Nat.le_of_ble_eq_true rfl⟩ hN hK hP (hDD _) hS hA 16 CW_16 rfl rfl rfl hl.1 rfl (Nat.le_of_ble_eq_true rfl) dX4_draw_84 ⟨Nat.le_of_ble_eq_true rfl, Nat.le_of_ble_eq_true rfl⟩ (fun H locs hP hS => ?_)
      refine lv_aload_n hx hb dX4_draw_87 rfl (lv_at hl 0 rfl) ?_
      refine lv_aload_n hx hb dX4_draw_88 rfl (lv_at hl 1 rfl) ?_
      refine va_get (D := D) (ci := 8) (v := .ref (a 55)) (C := RX8) (T := TX8) (N := 11) hx hb ht inX8 hown hK hP 53 CW_53 rfl 4 (by decide) (ht (.fieldLink RX4 57 "CloneVolumes$State" "saved" "[I") fl_X4_57) (fun _ h9 => h9) rfl dX4_draw_89 ?_
      refine lv_iload_n hx hb dX4_draw_92 rfl (lv_at hl 2 rfl) ?_
      obtain ⟨y13, ey13, iy13, h⟩ := rdI_e h
      refine ya_iald hx hb hK hP 55 0 CW_55 rfl ey13 iy13 dX4_draw_93 ?_
      obtain ⟨s15, hc14, h⟩ := bn_e h
      refine ywVv (As := [.int y13]) (rest := []) (C := RX4) (n := 1) (ws' := CS D a s15) ⟨hx, hb, hml, hown, ht⟩ (k_x4_add l D a y13 _ _ _ hc14) (zgV ml_X4_33 im_X4_add se_X4_add in_X4 co_X4_add) rfl rfl (by decide +kernel) ⟨Nat.le_of_ble_eq_true rfl, Nat.le_of_ble_eq_true rfl⟩ hN hK hP (hDD _) hS hA 16 CW_16 rfl rfl rfl hl.1 rfl (Nat.le_of_ble_eq_true rfl) dX4_draw_94 ⟨Nat.le_of_ble_eq_true rfl, Nat.le_of_ble_eq_true rfl⟩ (fun H locs hP hS => ?_)
      refine lv_aload_n hx hb dX4_draw_97 rfl (lv_at hl 1 rfl) ?_
      refine lv_iload_n hx hb dX4_draw_98 rfl (lv_at hl 2 rfl) ?_
      obtain ⟨r17, hc16, h⟩ := bn_e h
      refine ycV (As := [.int x1]) (rest := []) (C := RX8) (n := 1) ⟨hx, hb, hml, hown, ht⟩ (k_x8_isFree l D a x1 _ _ hc16) (zgV ml_X4_60 im_X8_isFree se_X8_isFree in_X8 co_X8_isFree) rfl rfl (by decide +kernel) ⟨Nat.le_of_ble_eq_true rfl, Nat.le_of_ble_eq_true rfl⟩ hN hK hP hS 53 CW_53 rfl rfl rfl hl.1 rfl (Nat.le_of_ble_eq_true rfl) dX4_draw_99 ⟨Nat.le_of_ble_eq_true rfl, Nat.le_of_ble_eq_true rfl⟩ (fun H locs hP hS => ?_)
      refine lv_if_ne (tgt := 111) hx hb dX4_draw_102 (by decide) (fun c18 => ?_) (fun c18 => ?_)
      · have h := if_f c18 h
        exact J111 (x1, s15) _ _ _ ⟨hP, hS, lv_sub hl [0, 1, 2] rfl, h⟩
      · have h := if_t c18 h
        refine lv_aload_n hx hb dX4_draw_105 rfl (lv_at hl 0 rfl) ?_
        refine lv_aload_n hx hb dX4_draw_106 rfl (lv_at hl 1 rfl) ?_
        refine lv_iload_n hx hb dX4_draw_107 rfl (lv_at hl 2 rfl) ?_
        obtain ⟨s20, hc19, h⟩ := bn_e h
        refine ywVv (As := [.ref (a 53), .int x1]) (rest := []) (C := RX4) (n := 2) (ws' := CS D a s20) ⟨hx, hb, hml, hown, ht⟩ (k_x4_drawBlock l D a x1 _ _ _ hc19) (zgV ml_X4_64 im_X4_drawBlock se_X4_drawBlock in_X4 co_X4_drawBlock) rfl rfl (by decide +kernel) ⟨Nat.le_of_ble_eq_true rfl, Nat.le_of_ble_eq_true rfl⟩ hN hK hP (hDD _) hS hA 16 CW_16 rfl rfl rfl hl.1 rfl (Nat.le_of_ble_eq_true rfl) dX4_draw_108 ⟨Nat.le_of_ble_eq_true rfl, Nat.le_of_ble_eq_true rfl⟩ (fun H locs hP hS => ?_)
        exact J111 (x1, s20) _ _ _ ⟨hP, hS, lv_sub hl [0, 1, 2] rfl, h⟩
  refine y_loop (pcJ := 29) (σ := Int32 × MS) (fun n u H locs ls => va_P D vwCl (CS D a u.2) H ∧ va_S A s₀.heap H locs ∧ lv_has ls 3 [(0, .ref (a 16)), (1, .ref (a 53)), (2, .int u.1)] ∧ m_x4_draw_L29 n u.1 u.2 = some o) (fun u => []) (fun u H locs ls hI => by obtain ⟨_, _, _, h⟩ := hI; cases h) (fun n29 ih29 u H locs ls hI => ?_) (fun J29 => ?_)
  · obtain ⟨hP, hS, hl, h⟩ := hI
    obtain ⟨x21, s22⟩ := u
    have hP : va_P D vwCl (CS D a s22) H := hP
    have hl : lv_has ls 3 [(0, .ref (a 16)), (1, .ref (a 53)), (2, .int x21)] := hl
    have h : m_x4_draw_b29 (m_x4_draw_L29 n29) x21 s22 = some o := h
    unfold m_x4_draw_b29 at h
    refine lv_iload_n hx hb dX4_draw_29 rfl (lv_at hl 2 rfl) ?_
    refine lv_bipush (v := 8) hx hb dX4_draw_30 (by decide) ?_
    refine lv_icmp_ge (tgt := 67) hx hb dX4_draw_32 (by decide) (fun c23 => ?_) (fun c23 => ?_)
    · have h := if_t c23 h
      refine lv_iconst (v := 0) hx hb dX4_draw_67 (by decide) ?_
      refine lv_istore_n (lv' := [(2, .int 0), (0, .ref (a 16)), (1, .ref (a 53))]) hx hb dX4_draw_68 rfl hl (by decide) rfl (fun ls hl => ?_)
      exact J69 FU (0, s22) _ _ _ ⟨hP, hS, lv_sub hl [1, 2, 0] rfl, h⟩
    · have h := if_f c23 h
      refine lv_aload_n hx hb dX4_draw_35 rfl (lv_at hl 0 rfl) ?_
      refine lv_aload_n hx hb dX4_draw_36 rfl (lv_at hl 1 rfl) ?_
      refine va_get (D := D) (ci := 8) (v := .ref (a 60)) (C := RX8) (T := TX8) (N := 11) hx hb ht inX8 hown hK hP 53 CW_53 rfl 9 (by decide) (ht (.fieldLink RX4 41 "CloneVolumes$State" "roots" "[I") fl_X4_41) (fun _ h9 => h9) rfl dX4_draw_37 ?_
      refine lv_iload_n hx hb dX4_draw_40 rfl (lv_at hl 2 rfl) ?_
      obtain ⟨y24, ey24, iy24, h⟩ := rdI_e h
      refine ya_iald hx hb hK hP 60 0 CW_60 rfl ey24 iy24 dX4_draw_41 ?_
      obtain ⟨r26, hc25, h⟩ := bn_e h
      refine ycS (As := [.int y24]) (rest := [.ref (a 16)]) (n := 1) ⟨hx, hb, hml, hown, ht⟩ (k_x4_rootByte l D a y24 _ _ hc25) (zgT ml_X4_44 st_X4_rootByte in_X4 co_X4_rootByte) rfl rfl (by decide +kernel) ⟨Nat.le_of_ble_eq_true rfl, Nat.le_of_ble_eq_true rfl⟩ hN hK hP hS rfl hl.1 rfl (Nat.le_of_ble_eq_true rfl) dX4_draw_42 ⟨Nat.le_of_ble_eq_true rfl, Nat.le_of_ble_eq_true rfl⟩ (fun H locs hP hS => ?_)
      obtain ⟨s28, hc27, h⟩ := bn_e h
      refine ywVv (As := [.int r26]) (rest := []) (C := RX4) (n := 1) (ws' := CS D a s28) ⟨hx, hb, hml, hown, ht⟩ (k_x4_add l D a r26 _ _ _ hc27) (zgV ml_X4_33 im_X4_add se_X4_add in_X4 co_X4_add) rfl rfl (by decide +kernel) ⟨Nat.le_of_ble_eq_true rfl, Nat.le_of_ble_eq_true rfl⟩ hN hK hP (hDD _) hS hA 16 CW_16 rfl rfl rfl hl.1 rfl (Nat.le_of_ble_eq_true rfl) dX4_draw_45 ⟨Nat.le_of_ble_eq_true rfl, Nat.le_of_ble_eq_true rfl⟩ (fun H locs hP hS => ?_)
      refine lv_aload_n hx hb dX4_draw_48 rfl (lv_at hl 0 rfl) ?_
      refine lv_aload_n hx hb dX4_draw_49 rfl (lv_at hl 1 rfl) ?_
      refine va_get (D := D) (ci := 8) (v := .ref (a 61)) (C := RX8) (T := TX8) (N := 11) hx hb ht inX8 hown hK hP 53 CW_53 rfl 10 (by decide) (ht (.fieldLink RX4 48 "CloneVolumes$State" "savedRoots" "[I") fl_X4_48) (fun _ h9 => h9) rfl dX4_draw_50 ?_
      refine lv_iload_n hx hb dX4_draw_53 rfl (lv_at hl 2 rfl) ?_
      obtain ⟨y29, ey29, iy29, h⟩ := rdI_e h
      refine ya_iald hx hb hK hP 61 0 CW_61 rfl ey29 iy29 dX4_draw_54 ?_
      obtain ⟨r31, hc30, h⟩ := bn_e h
      refine ycS (As := [.int y29]) (rest := [.ref (a 16)]) (n := 1) ⟨hx, hb, hml, hown, ht⟩ (k_x4_rootByte l D a y29 _ _ hc30) (zgT ml_X4_44 st_X4_rootByte in_X4 co_X4_rootByte) rfl rfl (by decide +kernel) ⟨Nat.le_of_ble_eq_true rfl, Nat.le_of_ble_eq_true rfl⟩ hN hK hP hS rfl hl.1 rfl (Nat.le_of_ble_eq_true rfl) dX4_draw_55 ⟨Nat.le_of_ble_eq_true rfl, Nat.le_of_ble_eq_true rfl⟩ (fun H locs hP hS => ?_)
      obtain ⟨s33, hc32, h⟩ := bn_e h
      refine ywVv (As := [.int r31]) (rest := []) (C := RX4) (n := 1) (ws' := CS D a s33) ⟨hx, hb, hml, hown, ht⟩ (k_x4_add l D a r31 _ _ _ hc32) (zgV ml_X4_33 im_X4_add se_X4_add in_X4 co_X4_add) rfl rfl (by decide +kernel) ⟨Nat.le_of_ble_eq_true rfl, Nat.le_of_ble_eq_true rfl⟩ hN hK hP (hDD _) hS hA 16 CW_16 rfl rfl rfl hl.1 rfl (Nat.le_of_ble_eq_true rfl) dX4_draw_58 ⟨Nat.le_of_ble_eq_true rfl, Nat.le_of_ble_eq_true rfl⟩ (fun H locs hP hS => ?_)
      refine lv_iinc (v := x21 + 1) (lv' := [(2, .int (x21 + 1)), (0, .ref (a 16)), (1, .ref (a 53))]) hx hb dX4_draw_61 hl (k := 2) rfl rfl (by decide) rfl (fun ls hl => ?_)
      refine lv_goto (tgt := 29) hx hb dX4_draw_64 (by decide) ?_
      exact ih29 (x21 + 1, s33) _ _ _ ⟨hP, hS, lv_sub hl [1, 2, 0] rfl, h⟩
  refine lv_aload_n hx hb dX4_draw_0 rfl (lv_at hl 0 rfl) ?_
  refine lv_iconst (v := 0) hx hb dX4_draw_1 (by decide) ?_
  refine ya_put (D := D) (ci := 4) (v := .int 0) (ty := .int) (C := RX4) (T := TX4) (N := 6) hx hb ht inX4 tyX4 tyX4_ok nmX4 hown hK hP (hDD _) hS 16 CW_16 rfl 1 (by decide) (ht (.fieldLink RX4 24 "CloneVolumes$Picture" "size" "I") fl_X4_24) (fun _ h9 => h9) rfl (by decide +kernel) rfl rfl (Nat.le_of_ble_eq_true rfl) dX4_draw_2 (CW_w16_1 _) (fun H locs hP hS => ?_)
  obtain ⟨s34, hs34, h⟩ := st_e h
  rw [hs34] at hP
  refine lv_aload_n hx hb dX4_draw_5 rfl (lv_at hl 0 rfl) ?_
  refine lv_aload_n hx hb dX4_draw_6 rfl (lv_at hl 1 rfl) ?_
  refine va_get (D := D) (ci := 8) (v := .int (gI s34 1061)) (C := RX8) (T := TX8) (N := 11) hx hb ht inX8 hown hK hP 53 CW_53 rfl 1 (by decide) (ht (.fieldLink RX4 28 "CloneVolumes$State" "spent" "I") fl_X4_28) (fun _ h9 => h9) rfl dX4_draw_7 ?_
  refine lv_bipush (v := 16) hx hb dX4_draw_10 (by decide) ?_
  refine lv_iushr (v := ushr (gI s34 1061) 16) hx hb dX4_draw_12 rfl ?_
  obtain ⟨s36, hc35, h⟩ := bn_e h
  refine ywVv (As := [.int (ushr (gI s34 1061) 16)]) (rest := []) (C := RX4) (n := 1) (ws' := CS D a s36) ⟨hx, hb, hml, hown, ht⟩ (k_x4_add l D a (ushr (gI s34 1061) 16) _ _ _ hc35) (zgV ml_X4_33 im_X4_add se_X4_add in_X4 co_X4_add) rfl rfl (by decide +kernel) ⟨Nat.le_of_ble_eq_true rfl, Nat.le_of_ble_eq_true rfl⟩ hN hK hP (hDD _) hS hA 16 CW_16 rfl rfl rfl hl.1 rfl (Nat.le_of_ble_eq_true rfl) dX4_draw_13 ⟨Nat.le_of_ble_eq_true rfl, Nat.le_of_ble_eq_true rfl⟩ (fun H locs hP hS => ?_)
  refine lv_aload_n hx hb dX4_draw_16 rfl (lv_at hl 0 rfl) ?_
  refine lv_aload_n hx hb dX4_draw_17 rfl (lv_at hl 1 rfl) ?_
  refine va_get (D := D) (ci := 8) (v := .int (gI s36 1061)) (C := RX8) (T := TX8) (N := 11) hx hb ht inX8 hown hK hP 53 CW_53 rfl 1 (by decide) (ht (.fieldLink RX4 28 "CloneVolumes$State" "spent" "I") fl_X4_28) (fun _ h9 => h9) rfl dX4_draw_18 ?_
  refine lv_ldc (own := RX4) (v := 65535) hx hb hown (ht _ ck_X4_37) dX4_draw_21 ?_
  refine lv_iand hx hb dX4_draw_23 ?_
  obtain ⟨s38, hc37, h⟩ := bn_e h
  refine ywVv (As := [.int ((gI s36 1061) &&& 65535)]) (rest := []) (C := RX4) (n := 1) (ws' := CS D a s38) ⟨hx, hb, hml, hown, ht⟩ (k_x4_addPair l D a ((gI s36 1061) &&& 65535) _ _ _ hc37) (zgV ml_X4_38 im_X4_addPair se_X4_addPair in_X4 co_X4_addPair) rfl rfl (by decide +kernel) ⟨Nat.le_of_ble_eq_true rfl, Nat.le_of_ble_eq_true rfl⟩ hN hK hP (hDD _) hS hA 16 CW_16 rfl rfl rfl hl.1 rfl (Nat.le_of_ble_eq_true rfl) dX4_draw_24 ⟨Nat.le_of_ble_eq_true rfl, Nat.le_of_ble_eq_true rfl⟩ (fun H locs hP hS => ?_)
  refine lv_iconst (v := 0) hx hb dX4_draw_27 (by decide) ?_
  refine lv_istore_n (lv' := [(2, .int 0), (0, .ref (a 16)), (1, .ref (a 53))]) hx hb dX4_draw_28 rfl hl (by decide) rfl (fun ls hl => ?_)
  exact J29 FU (0, s38) _ _ _ ⟨hP, hS, lv_sub hl [1, 2, 0] rfl, h⟩
def m_x11_image (s : MS) : Option (Int32 × MS) :=
  bn (m_x4_draw s) (fun qr3 => some (qr3.1, qr3.2))
set_option maxHeartbeats 4000000 in
set_option maxRecDepth 100000 in
theorem k_x11_image (l : Launch) (D : va_G) (a : Nat → Nat) (sz : Nat) (s : MS) (o : (Int32 × MS)) (h : m_x11_image s = some o) : yWi l yX11_image cX11_image 1 (some .int) { frames := 4, cells := 0, slots := 0, locals := 240 } D sz [.ref (a 0)] (CS D a s) (CS D a o.2) o.1 := by
  refine Met.ofW (cc := cX11_image) (maxL := 1) (ret := (some .int)) (by decide) rfl ?_
  intro p e s₀ m args below meth c s₁ B hml hv
  obtain ⟨rfl, ⟨hsz, hP, hK, hD0⟩, hN⟩ := hv
  have hx := B.exec
  have hb := B.bytes
  have hr := B.returns
  have hts := atoms_spec (ws := wz yX11_image cX11_image 1 (some .int)) B.pre
  have ht : ∀ w ∈ lw_gd, w.before _ s₀ = true := fun w h => hts w (List.mem_cons_of_mem _ h)
  have hown : s₀.vm.findClass RX11 = some m.cls := findClass_of_methodNamed B.named
  have hlocks := B.notSynchronized
  subst hsz
  have hD := hD0.self (sz := s₀.heap.size)
  generalize hAe : va_A (CS D a s) s₀.heap.size = A at hD ⊢
  have hA : ∀ q : Nat, s₀.heap.size ≤ q → A q := fun q h => by rw [← hAe]; exact Or.inr h
  have hS : va_S A s₀.heap s₀.heap [] := va_S.rf
  have hDD : ∀ t : MS, va_D A (CS D a t) := fun t => CW_D t hD
  have hl := lv_entry ([.ref (a 0)]) (n := 1) (Nat.le_of_ble_eq_true rfl)
  rw [lg_entry_eq]
  generalize (lg_sl ([.ref (a 0)]) ++ List.replicate (1 - (lg_sl ([.ref (a 0)])).length) Slot.unset).toArray = ls at hl ⊢
  have hl : lv_has ls 1 [(0, .ref (a 0))] := hl
  unfold m_x11_image at h
  refine lv_aload_n hx hb dX11_image_0 rfl (lv_at hl 0 rfl) ?_
  refine va_get (D := D) (ci := 11) (v := .ref (a 16)) (C := RX11) (T := TX11) (N := 13) hx hb ht inX11 hown hK hP 0 CW_0 rfl 4 (by decide) (ht (.fieldLink RX11 42 "CloneVolumes" "picture" "LCloneVolumes$Picture;") fl_X11_42) (fun _ h9 => h9) rfl dX11_image_1 ?_
  refine lv_aload_n hx hb dX11_image_4 rfl (lv_at hl 0 rfl) ?_
  refine va_get (D := D) (ci := 11) (v := .ref (a 49)) (C := RX11) (T := TX11) (N := 13) hx hb ht inX11 hown hK hP 0 CW_0 rfl 11 (by decide) (ht (.fieldLink RX11 79 "CloneVolumes" "forest" "LCloneVolumes$Forest;") fl_X11_79) (fun _ h9 => h9) rfl dX11_image_5 ?_
  refine va_get (D := D) (ci := 1) (v := .ref (a 53)) (C := RX1) (T := TX1) (N := 9) hx hb ht inX1 hown hK hP 49 CW_49 rfl 0 (by decide) (ht (.fieldLink RX11 125 "CloneVolumes$Forest" "now" "LCloneVolumes$State;") fl_X11_125) (fun _ h9 => h9) rfl dX11_image_8 ?_
  obtain ⟨⟨r3, s2⟩, hc1, h⟩ := bn_e h
  refine ywV (r0 := r3) (As := [.ref (a 53)]) (rest := []) (C := RX4) (n := 1) (ws' := CS D a s2) ⟨hx, hb, hml, hown, ht⟩ (k_x4_draw l D a _ _ _ hc1) (zgV ml_X11_336 im_X4_draw se_X4_draw in_X4 co_X4_draw) rfl rfl (by decide +kernel) ⟨Nat.le_of_ble_eq_true rfl, Nat.le_of_ble_eq_true rfl⟩ hN hK hP (hDD _) hS hA 16 CW_16 rfl rfl rfl hl.1 rfl (Nat.le_of_ble_eq_true rfl) dX11_image_11 ⟨Nat.le_of_ble_eq_true rfl, Nat.le_of_ble_eq_true rfl⟩ (fun H locs hP hS => ?_)
  obtain rfl := Option.some.inj h
  exact W.iret (v := r3) hx hb hr (fun t ht hW => ⟨⟨_, (), rfl, rfl, by rw [ht]; exact hP, va_K.moved hW.alike hK, hDD _⟩, hS.F ht⟩) hS.2.2 dX11_image_14
def m_x11_octet_J28 (s : MS) (x1 : Int32) : Option Int32 :=
  some x1
def m_x11_octet_J27 (s : MS) (_u : Unit) : Option Int32 :=
  m_x11_octet_J28 s (-1)
def m_x11_octet (p0 : Int32) (s : MS) : Option Int32 :=
  if p0 < 0 then m_x11_octet_J27 s () else if (gI s 321) ≤ p0 then m_x11_octet_J27 s () else rdI (gA s 17) 1364 p0 (fun y4 => m_x11_octet_J28 s y4)
set_option maxHeartbeats 4000000 in
set_option maxRecDepth 100000 in
theorem k_x11_octet (l : Launch) (D : va_G) (a : Nat → Nat) (p0 : Int32) (s : MS) (o : Int32) (h : m_x11_octet p0 s = some o) : yRi l yX11_octet cX11_octet 2 (some .int) { frames := 0, cells := 0, slots := 0, locals := 0 } D [.ref (a 0), .int p0] (CS D a s) o := by
  refine Met.ofW (cc := cX11_octet) (maxL := 2) (ret := (some .int)) (by decide) rfl ?_
  intro p e s₀ m args below meth c s₁ B hml hv
  obtain ⟨rfl, ⟨hP, hK⟩, hN⟩ := hv
  have hx := B.exec
  have hb := B.bytes
  have hr := B.returns
  have hts := atoms_spec (ws := wz yX11_octet cX11_octet 2 (some .int)) B.pre
  have ht : ∀ w ∈ lw_gd, w.before _ s₀ = true := fun w h => hts w (List.mem_cons_of_mem _ h)
  have hown : s₀.vm.findClass RX11 = some m.cls := findClass_of_methodNamed B.named
  have hlocks := B.notSynchronized
  have hS : va_S (fun _ => False) s₀.heap s₀.heap [] := va_S.rf
  have hl := lv_entry ([.ref (a 0), .int p0]) (n := 2) (Nat.le_of_ble_eq_true rfl)
  rw [lg_entry_eq]
  generalize (lg_sl ([.ref (a 0), .int p0]) ++ List.replicate (2 - (lg_sl ([.ref (a 0), .int p0])).length) Slot.unset).toArray = ls at hl ⊢
  have hl : lv_has ls 2 [(0, .ref (a 0)), (1, .int p0)] := hl
  unfold m_x11_octet at h
  refine y_head (pcJ := 28) (σ := Int32) (fun u H locs ls => va_P D vwCl (CS D a s) H ∧ va_S (fun _ => False) s₀.heap H locs ∧ lv_has ls 2 [] ∧ m_x11_octet_J28 s u = some o) (fun u => [.int u]) (fun u H locs ls hI => ?_) (fun J28 => ?_)
  · obtain ⟨hP, hS, hl, h⟩ := hI
    obtain ⟨x1, rfl⟩ : ∃ z, z = u := ⟨u, rfl⟩
    have hP : va_P D vwCl (CS D a s) H := hP
    have hl : lv_has ls 2 [] := hl
    have h : m_x11_octet_J28 s x1 = some o := h
    unfold m_x11_octet_J28 at h
    obtain rfl := Option.some.inj h
    exact W.iret (v := x1) hx hb hr (fun t ht hW => ⟨⟨_, (), rfl, rfl, trivial⟩, hS.F ht⟩) hS.2.2 dX11_octet_28
  refine y_head (pcJ := 27) (σ := Unit) (fun u H locs ls => va_P D vwCl (CS D a s) H ∧ va_S (fun _ => False) s₀.heap H locs ∧ lv_has ls 2 [] ∧ m_x11_octet_J27 s u = some o) (fun u => []) (fun u H locs ls hI => ?_) (fun J27 => ?_)
  · obtain ⟨hP, hS, hl, h⟩ := hI
    skip
    have hP : va_P D vwCl (CS D a s) H := hP
    have hl : lv_has ls 2 [] := hl
    have h : m_x11_octet_J27 s () = some o := h
    unfold m_x11_octet_J27 at h
    refine lv_iconst (v := (-1)) hx hb dX11_octet_27 (by decide) ?_
    exact J28 (-1) _ _ _ ⟨hP, hS, lv_sub hl [] rfl, h⟩
  refine lv_iload_n hx hb dX11_octet_0 rfl (lv_at hl 1 rfl) ?_
  refine lv_if_lt (tgt := 27) hx hb dX11_octet_1 (by decide) (fun c2 => ?_) (fun c2 => ?_)
  · have h := if_t c2 h
    exact J27 () _ _ _ ⟨hP, hS, lv_sub hl [] rfl, h⟩
  · have h := if_f c2 h
    refine lv_iload_n hx hb dX11_octet_4 rfl (lv_at hl 1 rfl) ?_
    refine lv_aload_n hx hb dX11_octet_5 rfl (lv_at hl 0 rfl) ?_
    refine va_get (D := D) (ci := 11) (v := .ref (a 16)) (C := RX11) (T := TX11) (N := 13) hx hb ht inX11 hown hK hP 0 CW_0 rfl 4 (by decide) (ht (.fieldLink RX11 42 "CloneVolumes" "picture" "LCloneVolumes$Picture;") fl_X11_42) (fun _ h9 => h9) rfl dX11_octet_6 ?_
    refine va_get (D := D) (ci := 4) (v := .int (gI s 321)) (C := RX4) (T := TX4) (N := 6) hx hb ht inX4 hown hK hP 16 CW_16 rfl 1 (by decide) (ht (.fieldLink RX11 339 "CloneVolumes$Picture" "size" "I") fl_X11_339) (fun _ h9 => h9) rfl dX11_octet_9 ?_
    refine lv_icmp_ge (tgt := 27) hx hb dX11_octet_12 (by decide) (fun c3 => ?_) (fun c3 => ?_)
    · have h := if_t c3 h
      exact J27 () _ _ _ ⟨hP, hS, lv_sub hl [] rfl, h⟩
    · have h := if_f c3 h
      refine lv_aload_n hx hb dX11_octet_15 rfl (lv_at hl 0 rfl) ?_
      refine va_get (D := D) (ci := 11) (v := .ref (a 16)) (C := RX11) (T := TX11) (N := 13) hx hb ht inX11 hown hK hP 0 CW_0 rfl 4 (by decide) (ht (.fieldLink RX11 42 "CloneVolumes" "picture" "LCloneVolumes$Picture;") fl_X11_42) (fun _ h9 => h9) rfl dX11_octet_16 ?_
      refine va_get (D := D) (ci := 4) (v := .ref (a 17)) (C := RX4) (T := TX4) (N := 6) hx hb ht inX4 hown hK hP 16 CW_16 rfl 0 (by decide) (ht (.fieldLink RX11 342 "CloneVolumes$Picture" "bytes" "[I") fl_X11_342) (fun _ h9 => h9) rfl dX11_octet_19 ?_
      refine lv_iload_n hx hb dX11_octet_22 rfl (lv_at hl 1 rfl) ?_
      obtain ⟨y4, ey4, iy4, h⟩ := rdI_e h
      refine ya_iald hx hb hK hP 17 0 CW_17 rfl ey4 iy4 dX11_octet_23 ?_
      refine lv_goto (tgt := 28) hx hb dX11_octet_24 (by decide) ?_
      exact J28 y4 _ _ _ ⟨hP, hS, lv_sub hl [] rfl, h⟩
def m_x2_clear (s : MS) : Option MS :=
  stn (sI s 143 0) (fun s1 => stn (sI s1 145 0) (fun s2 => some s2))
set_option maxHeartbeats 4000000 in
set_option maxRecDepth 100000 in
theorem k_x2_clear (l : Launch) (D : va_G) (a : Nat → Nat) (sz : Nat) (s : MS) (o : MS) (h : m_x2_clear s = some o) : yWv l yX2_clear cX2_clear 1 none { frames := 0, cells := 0, slots := 0, locals := 0 } D sz [.ref (a 7)] (CS D a s) (CS D a o) := by
  refine Met.ofW (cc := cX2_clear) (maxL := 1) (ret := none) (by decide) rfl ?_
  intro p e s₀ m args below meth c s₁ B hml hv
  obtain ⟨rfl, ⟨hsz, hP, hK, hD0⟩, hN⟩ := hv
  have hx := B.exec
  have hb := B.bytes
  have hr := B.returns
  have hts := atoms_spec (ws := wz yX2_clear cX2_clear 1 none) B.pre
  have ht : ∀ w ∈ lw_gd, w.before _ s₀ = true := fun w h => hts w (List.mem_cons_of_mem _ h)
  have hown : s₀.vm.findClass RX2 = some m.cls := findClass_of_methodNamed B.named
  have hlocks := B.notSynchronized
  subst hsz
  have hD := hD0.self (sz := s₀.heap.size)
  generalize hAe : va_A (CS D a s) s₀.heap.size = A at hD ⊢
  have hA : ∀ q : Nat, s₀.heap.size ≤ q → A q := fun q h => by rw [← hAe]; exact Or.inr h
  have hS : va_S A s₀.heap s₀.heap [] := va_S.rf
  have hDD : ∀ t : MS, va_D A (CS D a t) := fun t => CW_D t hD
  have hl := lv_entry ([.ref (a 7)]) (n := 1) (Nat.le_of_ble_eq_true rfl)
  rw [lg_entry_eq]
  generalize (lg_sl ([.ref (a 7)]) ++ List.replicate (1 - (lg_sl ([.ref (a 7)])).length) Slot.unset).toArray = ls at hl ⊢
  have hl : lv_has ls 1 [(0, .ref (a 7))] := hl
  unfold m_x2_clear at h
  refine lv_aload_n hx hb dX2_clear_0 rfl (lv_at hl 0 rfl) ?_
  refine lv_iconst (v := 0) hx hb dX2_clear_1 (by decide) ?_
  refine ya_put (D := D) (ci := 2) (v := .int 0) (ty := .int) (C := RX2) (T := TX2) (N := 6) hx hb ht inX2 tyX2 tyX2_ok nmX2 hown hK hP (hDD _) hS 7 CW_7 rfl 3 (by decide) (ht (.fieldLink RX2 27 "CloneVolumes$History" "rows" "I") fl_X2_27) (fun _ h9 => h9) rfl (by decide +kernel) rfl rfl (Nat.le_of_ble_eq_true rfl) dX2_clear_2 (CW_w7_3 _) (fun H locs hP hS => ?_)
  obtain ⟨s1, hs1, h⟩ := st_e h
  rw [hs1] at hP
  refine lv_aload_n hx hb dX2_clear_5 rfl (lv_at hl 0 rfl) ?_
  refine lv_iconst (v := 0) hx hb dX2_clear_6 (by decide) ?_
  refine ya_put (D := D) (ci := 2) (v := .int 0) (ty := .int) (C := RX2) (T := TX2) (N := 6) hx hb ht inX2 tyX2 tyX2_ok nmX2 hown hK hP (hDD _) hS 7 CW_7 rfl 5 (by decide) (ht (.fieldLink RX2 31 "CloneVolumes$History" "depth" "I") fl_X2_31) (fun _ h9 => h9) rfl (by decide +kernel) rfl rfl (Nat.le_of_ble_eq_true rfl) dX2_clear_7 (CW_w7_5 _) (fun H locs hP hS => ?_)
  obtain ⟨s2, hs2, h⟩ := st_e h
  rw [hs2] at hP
  obtain rfl := Option.some.inj h
  exact W.vret hx hb hr (fun t ht hW => ⟨⟨(), rfl, trivial, by rw [ht]; exact hP, va_K.moved hW.alike hK, hDD _⟩, hS.F ht⟩) hS.2.2 dX2_clear_10
def m_x8_isBlock_v2_J17 (s : MS) (x1 : Int32) : Option Int32 :=
  bo x1 (some x1)
def m_x8_isBlock_v2_J16 (s : MS) (_u : Unit) : Option Int32 :=
  m_x8_isBlock_v2_J17 s 0
def m_x8_isBlock_v2 (p0 : Int32) (s : MS) : Option Int32 :=
  if p0 < 0 then m_x8_isBlock_v2_J16 s () else if (gI s 1420) ≤ p0 then m_x8_isBlock_v2_J16 s () else m_x8_isBlock_v2_J17 s 1
set_option maxHeartbeats 4000000 in
set_option maxRecDepth 100000 in
theorem k_x8_isBlock_v2 (l : Launch) (D : va_G) (a : Nat → Nat) (p0 : Int32) (s : MS) (o : Int32) (h : m_x8_isBlock_v2 p0 s = some o) : yRi l yX8_isBlock cX8_isBlock 2 (some .boolean) { frames := 0, cells := 0, slots := 0, locals := 0 } D [.ref (a 71), .int p0] (CS D a s) o := by
  refine Met.ofW (cc := cX8_isBlock) (maxL := 2) (ret := (some .boolean)) (by decide) rfl ?_
  intro p e s₀ m args below meth c s₁ B hml hv
  obtain ⟨rfl, ⟨hP, hK⟩, hN⟩ := hv
  have hx := B.exec
  have hb := B.bytes
  have hr := B.returns
  have hts := atoms_spec (ws := wz yX8_isBlock cX8_isBlock 2 (some .boolean)) B.pre
  have ht : ∀ w ∈ lw_gd, w.before _ s₀ = true := fun w h => hts w (List.mem_cons_of_mem _ h)
  have hown : s₀.vm.findClass RX8 = some m.cls := findClass_of_methodNamed B.named
  have hlocks := B.notSynchronized
  have hS : va_S (fun _ => False) s₀.heap s₀.heap [] := va_S.rf
  have hl := lv_entry ([.ref (a 71), .int p0]) (n := 2) (Nat.le_of_ble_eq_true rfl)
  rw [lg_entry_eq]
  generalize (lg_sl ([.ref (a 71), .int p0]) ++ List.replicate (2 - (lg_sl ([.ref (a 71), .int p0])).length) Slot.unset).toArray = ls at hl ⊢
  have hl : lv_has ls 2 [(0, .ref (a 71)), (1, .int p0)] := hl
  unfold m_x8_isBlock_v2 at h
  refine y_head (pcJ := 17) (σ := Int32) (fun u H locs ls => va_P D vwCl (CS D a s) H ∧ va_S (fun _ => False) s₀.heap H locs ∧ lv_has ls 2 [] ∧ m_x8_isBlock_v2_J17 s u = some o) (fun u => [.int u]) (fun u H locs ls hI => ?_) (fun J17 => ?_)
  · obtain ⟨hP, hS, hl, h⟩ := hI
    obtain ⟨x1, rfl⟩ : ∃ z, z = u := ⟨u, rfl⟩
    have hP : va_P D vwCl (CS D a s) H := hP
    have hl : lv_has ls 2 [] := hl
    have h : m_x8_isBlock_v2_J17 s x1 = some o := h
    unfold m_x8_isBlock_v2_J17 at h
    obtain ⟨hb2, h⟩ := bo_e h
    obtain rfl := Option.some.inj h
    exact W.zret (v := x1) hx hb hr (bo_n hb2) (fun t ht hW => ⟨⟨_, (), rfl, rfl, trivial⟩, hS.F ht⟩) hS.2.2 dX8_isBlock_17
  refine y_head (pcJ := 16) (σ := Unit) (fun u H locs ls => va_P D vwCl (CS D a s) H ∧ va_S (fun _ => False) s₀.heap H locs ∧ lv_has ls 2 [] ∧ m_x8_isBlock_v2_J16 s u = some o) (fun u => []) (fun u H locs ls hI => ?_) (fun J16 => ?_)
  · obtain ⟨hP, hS, hl, h⟩ := hI
    skip
    have hP : va_P D vwCl (CS D a s) H := hP
    have hl : lv_has ls 2 [] := hl
    have h : m_x8_isBlock_v2_J16 s () = some o := h
    unfold m_x8_isBlock_v2_J16 at h
    refine lv_iconst (v := 0) hx hb dX8_isBlock_16 (by decide) ?_
    exact J17 0 _ _ _ ⟨hP, hS, lv_sub hl [] rfl, h⟩
  refine lv_iload_n hx hb dX8_isBlock_0 rfl (lv_at hl 1 rfl) ?_
  refine lv_if_lt (tgt := 16) hx hb dX8_isBlock_1 (by decide) (fun c3 => ?_) (fun c3 => ?_)
  · have h := if_t c3 h
    exact J16 () _ _ _ ⟨hP, hS, lv_sub hl [] rfl, h⟩
  · have h := if_f c3 h
    refine lv_iload_n hx hb dX8_isBlock_4 rfl (lv_at hl 1 rfl) ?_
    refine lv_aload_n hx hb dX8_isBlock_5 rfl (lv_at hl 0 rfl) ?_
    refine va_get (D := D) (ci := 8) (v := .int (gI s 1420)) (C := RX8) (T := TX8) (N := 11) hx hb ht inX8 hown hK hP 71 CW_71 rfl 0 (by decide) (ht (.fieldLink RX8 40 "CloneVolumes$State" "blocks" "I") fl_X8_40) (fun _ h9 => h9) rfl dX8_isBlock_6 ?_
    refine lv_icmp_ge (tgt := 16) hx hb dX8_isBlock_9 (by decide) (fun c4 => ?_) (fun c4 => ?_)
    · have h := if_t c4 h
      exact J16 () _ _ _ ⟨hP, hS, lv_sub hl [] rfl, h⟩
    · have h := if_f c4 h
      refine lv_iconst (v := 1) hx hb dX8_isBlock_12 (by decide) ?_
      refine lv_goto (tgt := 17) hx hb dX8_isBlock_13 (by decide) ?_
      exact J17 1 _ _ _ ⟨hP, hS, lv_sub hl [] rfl, h⟩
def m_x8_isFree_v2_J31 (s : MS) (x1 : Int32) : Option Int32 :=
  bo x1 (some x1)
def m_x8_isFree_v2_J30 (s : MS) (_u : Unit) : Option Int32 :=
  m_x8_isFree_v2_J31 s 0
def m_x8_isFree_v2 (p0 : Int32) (s : MS) : Option Int32 :=
  bn (m_x8_isBlock_v2 p0 s) (fun r4 => if r4 = 0 then m_x8_isFree_v2_J30 s () else rdI (gA s 72) 48 p0 (fun y6 => if y6 = 0 then rdI (gA s 73) 48 p0 (fun y8 => if y8 = 0 then m_x8_isFree_v2_J31 s 1 else m_x8_isFree_v2_J30 s ()) else m_x8_isFree_v2_J30 s ()))
set_option maxHeartbeats 4000000 in
set_option maxRecDepth 100000 in
theorem k_x8_isFree_v2 (l : Launch) (D : va_G) (a : Nat → Nat) (p0 : Int32) (s : MS) (o : Int32) (h : m_x8_isFree_v2 p0 s = some o) : yRi l yX8_isFree cX8_isFree 2 (some .boolean) { frames := 1, cells := 0, slots := 0, locals := 60 } D [.ref (a 71), .int p0] (CS D a s) o := by
  refine Met.ofW (cc := cX8_isFree) (maxL := 2) (ret := (some .boolean)) (by decide) rfl ?_
  intro p e s₀ m args below meth c s₁ B hml hv
  obtain ⟨rfl, ⟨hP, hK⟩, hN⟩ := hv
  have hx := B.exec
  have hb := B.bytes
  have hr := B.returns
  have hts := atoms_spec (ws := wz yX8_isFree cX8_isFree 2 (some .boolean)) B.pre
  have ht : ∀ w ∈ lw_gd, w.before _ s₀ = true := fun w h => hts w (List.mem_cons_of_mem _ h)
  have hown : s₀.vm.findClass RX8 = some m.cls := findClass_of_methodNamed B.named
  have hlocks := B.notSynchronized
  have hS : va_S (fun _ => False) s₀.heap s₀.heap [] := va_S.rf
  have hl := lv_entry ([.ref (a 71), .int p0]) (n := 2) (Nat.le_of_ble_eq_true rfl)
  rw [lg_entry_eq]
  generalize (lg_sl ([.ref (a 71), .int p0]) ++ List.replicate (2 - (lg_sl ([.ref (a 71), .int p0])).length) Slot.unset).toArray = ls at hl ⊢
  have hl : lv_has ls 2 [(0, .ref (a 71)), (1, .int p0)] := hl
  unfold m_x8_isFree_v2 at h
  refine y_head (pcJ := 31) (σ := Int32) (fun u H locs ls => va_P D vwCl (CS D a s) H ∧ va_S (fun _ => False) s₀.heap H locs ∧ lv_has ls 2 [] ∧ m_x8_isFree_v2_J31 s u = some o) (fun u => [.int u]) (fun u H locs ls hI => ?_) (fun J31 => ?_)
  · obtain ⟨hP, hS, hl, h⟩ := hI
    obtain ⟨x1, rfl⟩ : ∃ z, z = u := ⟨u, rfl⟩
    have hP : va_P D vwCl (CS D a s) H := hP
    have hl : lv_has ls 2 [] := hl
    have h : m_x8_isFree_v2_J31 s x1 = some o := h
    unfold m_x8_isFree_v2_J31 at h
    obtain ⟨hb2, h⟩ := bo_e h
    obtain rfl := Option.some.inj h
    exact W.zret (v := x1) hx hb hr (bo_n hb2) (fun t ht hW => ⟨⟨_, (), rfl, rfl, trivial⟩, hS.F ht⟩) hS.2.2 dX8_isFree_31
  refine y_head (pcJ := 30) (σ := Unit) (fun u H locs ls => va_P D vwCl (CS D a s) H ∧ va_S (fun _ => False) s₀.heap H locs ∧ lv_has ls 2 [] ∧ m_x8_isFree_v2_J30 s u = some o) (fun u => []) (fun u H locs ls hI => ?_) (fun J30 => ?_)
  · obtain ⟨hP, hS, hl, h⟩ := hI
    skip
    have hP : va_P D vwCl (CS D a s) H := hP
    have hl : lv_has ls 2 [] := hl
    have h : m_x8_isFree_v2_J30 s () = some o := h
    unfold m_x8_isFree_v2_J30 at h
    refine lv_iconst (v := 0) hx hb dX8_isFree_30 (by decide) ?_
    exact J31 0 _ _ _ ⟨hP, hS, lv_sub hl [] rfl, h⟩
  refine lv_aload_n hx hb dX8_isFree_0 rfl (lv_at hl 0 rfl) ?_
  refine lv_iload_n hx hb dX8_isFree_1 rfl (lv_at hl 1 rfl) ?_
  obtain ⟨r4, hc3, h⟩ := bn_e h
  refine ycV (As := [.int p0]) (rest := []) (C := RX8) (n := 1) ⟨hx, hb, hml, hown, ht⟩ (k_x8_isBlock_v2 l D a p0 _ _ hc3) (zgV ml_X8_57 im_X8_isBlock se_X8_isBlock in_X8 co_X8_isBlock) rfl rfl (by decide +kernel) ⟨Nat.le_of_ble_eq_true rfl, Nat.le_of_ble_eq_true rfl⟩ hN hK hP hS 71 CW_71 rfl rfl rfl hl.1 rfl (Nat.le_of_ble_eq_true rfl) dX8_isFree_2 ⟨Nat.le_of_ble_eq_true rfl, Nat.le_of_ble_eq_true rfl⟩ (fun H locs hP hS => ?_)
  refine lv_if_eq (tgt := 30) hx hb dX8_isFree_5 (by decide) (fun c5 => ?_) (fun c5 => ?_)
  · have h := if_t c5 h
    exact J30 () _ _ _ ⟨hP, hS, lv_sub hl [] rfl, h⟩
  · have h := if_f c5 h
    refine lv_aload_n hx hb dX8_isFree_8 rfl (lv_at hl 0 rfl) ?_
    refine va_get (D := D) (ci := 8) (v := .ref (a 72)) (C := RX8) (T := TX8) (N := 11) hx hb ht inX8 hown hK hP 71 CW_71 rfl 3 (by decide) (ht (.fieldLink RX8 9 "CloneVolumes$State" "count" "[I") fl_X8_9) (fun _ h9 => h9) rfl dX8_isFree_9 ?_
    refine lv_iload_n hx hb dX8_isFree_12 rfl (lv_at hl 1 rfl) ?_
    obtain ⟨y6, ey6, iy6, h⟩ := rdI_e h
    refine ya_iald hx hb hK hP 72 0 CW_72 rfl ey6 iy6 dX8_isFree_13 ?_
    refine lv_if_ne (tgt := 30) hx hb dX8_isFree_14 (by decide) (fun c7 => ?_) (fun c7 => ?_)
    · have h := if_f c7 h
      exact J30 () _ _ _ ⟨hP, hS, lv_sub hl [] rfl, h⟩
    · have h := if_t c7 h
      refine lv_aload_n hx hb dX8_isFree_17 rfl (lv_at hl 0 rfl) ?_
      refine va_get (D := D) (ci := 8) (v := .ref (a 73)) (C := RX8) (T := TX8) (N := 11) hx hb ht inX8 hown hK hP 71 CW_71 rfl 4 (by decide) (ht (.fieldLink RX8 15 "CloneVolumes$State" "saved" "[I") fl_X8_15) (fun _ h9 => h9) rfl dX8_isFree_18 ?_
      refine lv_iload_n hx hb dX8_isFree_21 rfl (lv_at hl 1 rfl) ?_
      obtain ⟨y8, ey8, iy8, h⟩ := rdI_e h
      refine ya_iald hx hb hK hP 73 0 CW_73 rfl ey8 iy8 dX8_isFree_22 ?_
      refine lv_if_ne (tgt := 30) hx hb dX8_isFree_23 (by decide) (fun c9 => ?_) (fun c9 => ?_)
      · have h := if_f c9 h
        exact J30 () _ _ _ ⟨hP, hS, lv_sub hl [] rfl, h⟩
      · have h := if_t c9 h
        refine lv_iconst (v := 1) hx hb dX8_isFree_26 (by decide) ?_
        refine lv_goto (tgt := 31) hx hb dX8_isFree_27 (by decide) ?_
        exact J31 1 _ _ _ ⟨hP, hS, lv_sub hl [] rfl, h⟩
def m_x8_slot_v2 (p0 : Int32) (p1 : Int32) (s : MS) : Option Int32 :=
  some ((p0 * 6) + p1)
set_option maxHeartbeats 4000000 in
set_option maxRecDepth 100000 in
theorem k_x8_slot_v2 (l : Launch) (D : va_G) (a : Nat → Nat) (p0 : Int32) (p1 : Int32) (s : MS) (o : Int32) (h : m_x8_slot_v2 p0 p1 s = some o) : yRi l yX8_slot cX8_slot 3 (some .int) { frames := 0, cells := 0, slots := 0, locals := 0 } D [.ref (a 71), .int p0, .int p1] (CS D a s) o := by
  refine Met.ofW (cc := cX8_slot) (maxL := 3) (ret := (some .int)) (by decide) rfl ?_
  intro p e s₀ m args below meth c s₁ B hml hv
  obtain ⟨rfl, ⟨hP, hK⟩, hN⟩ := hv
  have hx := B.exec
  have hb := B.bytes
  have hr := B.returns
  have hts := atoms_spec (ws := wz yX8_slot cX8_slot 3 (some .int)) B.pre
  have ht : ∀ w ∈ lw_gd, w.before _ s₀ = true := fun w h => hts w (List.mem_cons_of_mem _ h)
  have hown : s₀.vm.findClass RX8 = some m.cls := findClass_of_methodNamed B.named
  have hlocks := B.notSynchronized
  have hS : va_S (fun _ => False) s₀.heap s₀.heap [] := va_S.rf
  have hl := lv_entry ([.ref (a 71), .int p0, .int p1]) (n := 3) (Nat.le_of_ble_eq_true rfl)
  rw [lg_entry_eq]
  generalize (lg_sl ([.ref (a 71), .int p0, .int p1]) ++ List.replicate (3 - (lg_sl ([.ref (a 71), .int p0, .int p1])).length) Slot.unset).toArray = ls at hl ⊢
  have hl : lv_has ls 3 [(0, .ref (a 71)), (1, .int p0), (2, .int p1)] := hl
  unfold m_x8_slot_v2 at h
  refine lv_iload_n hx hb dX8_slot_0 rfl (lv_at hl 1 rfl) ?_
  refine lv_bipush (v := 6) hx hb dX8_slot_1 (by decide) ?_
  refine lv_imul hx hb dX8_slot_3 ?_
  refine lv_iload_n hx hb dX8_slot_4 rfl (lv_at hl 2 rfl) ?_
  refine lv_iadd hx hb dX8_slot_5 ?_
  obtain rfl := Option.some.inj h
  exact W.iret (v := (p0 * 6) + p1) hx hb hr (fun t ht hW => ⟨⟨_, (), rfl, rfl, trivial⟩, hS.F ht⟩) hS.2.2 dX8_slot_6
def m_x4_isSoundChild_J118 (s : MS) (x1 : Int32) : Option Int32 :=
  bo x1 (some x1)
def m_x4_isSoundChild_J113 (s : MS) (_u : Unit) : Option Int32 :=
  m_x4_isSoundChild_J118 s 1
def m_x4_isSoundChild_J78 (s : MS) (x3 : Int32) (x4 : Int32) (x5 : Int32) : Option Int32 :=
  rdI (gA s 75) 48 x3 (fun y6 => if y6 ≤ (x4 + 1) then m_x4_isSoundChild_J113 s () else rdI (gA s 19) 48 x5 (fun y8 => bn (m_x8_slot_v2 x3 (x4 + 1) s) (fun r10 => rdI (gA s 76) 288 r10 (fun y11 => if y11 ≤ y8 then m_x4_isSoundChild_J118 s 0 else m_x4_isSoundChild_J113 s ()))))
def m_x4_isSoundChild_J49 (s : MS) (_u : Unit) : Option Int32 :=
  some 0
def m_x4_isSoundChild (p1 : Int32) (p2 : Int32) (s : MS) : Option Int32 :=
  bn (m_x8_slot_v2 p1 p2 s) (fun r14 => rdI (gA s 77) 288 r14 (fun y15 => bn (m_x8_isBlock_v2 y15 s) (fun r17 => if r17 = 0 then m_x4_isSoundChild_J49 s () else bn (m_x8_isFree_v2 y15 s) (fun r20 => if r20 = 0 then rdI (gA s 74) 48 y15 (fun y22 => rdI (gA s 74) 48 p1 (fun y23 => if y22 = (y23 - 1) then if p2 ≤ 0 then m_x4_isSoundChild_J78 s p1 p2 y15 else rdI (gA s 18) 48 y15 (fun y26 => bn (m_x8_slot_v2 p1 p2 s) (fun r28 => rdI (gA s 76) 288 r28 (fun y29 => if y29 ≤ y26 then m_x4_isSoundChild_J78 s p1 p2 y15 else some 0))) else m_x4_isSoundChild_J49 s ())) else m_x4_isSoundChild_J49 s ()))))
set_option maxHeartbeats 4000000 in
set_option maxRecDepth 100000 in
theorem k_x4_isSoundChild (l : Launch) (D : va_G) (a : Nat → Nat) (p1 : Int32) (p2 : Int32) (s : MS) (o : Int32) (h : m_x4_isSoundChild p1 p2 s = some o) : yRi l yX4_isSoundChild cX4_isSoundChild 5 (some .boolean) { frames := 2, cells := 0, slots := 0, locals := 120 } D [.ref (a 16), .ref (a 71), .int p1, .int p2] (CS D a s) o := by
  refine Met.ofW (cc := cX4_isSoundChild) (maxL := 5) (ret := (some .boolean)) (by decide) rfl ?_
  intro p e s₀ m args below meth c s₁ B hml hv
  obtain ⟨rfl, ⟨hP, hK⟩, hN⟩ := hv
  have hx := B.exec
  have hb := B.bytes
  have hr := B.returns
  have hts := atoms_spec (ws := wz yX4_isSoundChild cX4_isSoundChild 5 (some .boolean)) B.pre
  have ht : ∀ w ∈ lw_gd, w.before _ s₀ = true := fun w h => hts w (List.mem_cons_of_mem _ h)
  have hown : s₀.vm.findClass RX4 = some m.cls := findClass_of_methodNamed B.named
  have hlocks := B.notSynchronized
  have hS : va_S (fun _ => False) s₀.heap s₀.heap [] := va_S.rf
  have hl := lv_entry ([.ref (a 16), .ref (a 71), .int p1, .int p2]) (n := 5) (Nat.le_of_ble_eq_true rfl)
  rw [lg_entry_eq]
  generalize (lg_sl ([.ref (a 16), .ref (a 71), .int p1, .int p2]) ++ List.replicate (5 - (lg_sl ([.ref (a 16), .ref (a 71), .int p1, .int p2])).length) Slot.unset).toArray = ls at hl ⊢
  have hl : lv_has ls 5 [(0, .ref (a 16)), (1, .ref (a 71)), (2, .int p1), (3, .int p2)] := hl
  unfold m_x4_isSoundChild at h
  refine y_head (pcJ := 118) (σ := Int32) (fun u H locs ls => va_P D vwCl (CS D a s) H ∧ va_S (fun _ => False) s₀.heap H locs ∧ lv_has ls 5 [] ∧ m_x4_isSoundChild_J118 s u = some o) (fun u => [.int u]) (fun u H locs ls hI => ?_) (fun J118 => ?_)
  · obtain ⟨hP, hS, hl, h⟩ := hI
    obtain ⟨x1, rfl⟩ : ∃ z, z = u := ⟨u, rfl⟩
    have hP : va_P D vwCl (CS D a s) H := hP
    have hl : lv_has ls 5 [] := hl
    have h : m_x4_isSoundChild_J118 s x1 = some o := h
    unfold m_x4_isSoundChild_J118 at h
    obtain ⟨hb2, h⟩ := bo_e h
    obtain rfl := Option.some.inj h
    exact W.zret (v := x1) hx hb hr (bo_n hb2) (fun t ht hW => ⟨⟨_, (), rfl, rfl, trivial⟩, hS.F ht⟩) hS.2.2 dX4_isSoundChild_118
  refine y_head (pcJ := 113) (σ := Unit) (fun u H locs ls => va_P D vwCl (CS D a s) H ∧ va_S (fun _ => False) s₀.heap H locs ∧ lv_has ls 5 [] ∧ m_x4_isSoundChild_J113 s u = some o) (fun u => []) (fun u H locs ls hI => ?_) (fun J113 => ?_)
  · obtain ⟨hP, hS, hl, h⟩ := hI
    skip
    have hP : va_P D vwCl (CS D a s) H := hP
    have hl : lv_has ls 5 [] := hl
    have h : m_x4_isSoundChild_J113 s () = some o := h
    unfold m_x4_isSoundChild_J113 at h
    refine lv_iconst (v := 1) hx hb dX4_isSoundChild_113 (by decide) ?_
    refine lv_goto (tgt := 118) hx hb dX4_isSoundChild_114 (by decide) ?_
    exact J118 1 _ _ _ ⟨hP, hS, lv_sub hl [] rfl, h⟩
  refine y_head (pcJ := 78) (σ := Int32 × Int32 × Int32) (fun u H locs ls => va_P D vwCl (CS D a s) H ∧ va_S (fun _ => False) s₀.heap H locs ∧ lv_has ls 5 [(0, .ref (a 16)), (1, .ref (a 71)), (2, .int u.1), (3, .int u.2.1), (4, .int u.2.2)] ∧ m_x4_isSoundChild_J78 s u.1 u.2.1 u.2.2 = some o) (fun u => []) (fun u H locs ls hI => ?_) (fun J78 => ?_)
  · obtain ⟨hP, hS, hl, h⟩ := hI
    obtain ⟨x3, x4, x5⟩ := u
    have hP : va_P D vwCl (CS D a s) H := hP
    have hl : lv_has ls 5 [(0, .ref (a 16)), (1, .ref (a 71)), (2, .int x3), (3, .int x4), (4, .int x5)] := hl
    have h : m_x4_isSoundChild_J78 s x3 x4 x5 = some o := h
    unfold m_x4_isSoundChild_J78 at h
    refine lv_iload_n hx hb dX4_isSoundChild_78 rfl (lv_at hl 3 rfl) ?_
    refine lv_iconst (v := 1) hx hb dX4_isSoundChild_79 (by decide) ?_
    refine lv_iadd hx hb dX4_isSoundChild_80 ?_
    refine lv_aload_n hx hb dX4_isSoundChild_81 rfl (lv_at hl 1 rfl) ?_
    refine va_get (D := D) (ci := 8) (v := .ref (a 75)) (C := RX8) (T := TX8) (N := 11) hx hb ht inX8 hown hK hP 71 CW_71 rfl 6 (by decide) (ht (.fieldLink RX4 75 "CloneVolumes$State" "size" "[I") fl_X4_75) (fun _ h9 => h9) rfl dX4_isSoundChild_82 ?_
    refine lv_iload_n hx hb dX4_isSoundChild_85 rfl (lv_at hl 2 rfl) ?_
    obtain ⟨y6, ey6, iy6, h⟩ := rdI_e h
    refine ya_iald hx hb hK hP 75 0 CW_75 rfl ey6 iy6 dX4_isSoundChild_86 ?_
    refine lv_icmp_ge (tgt := 113) hx hb dX4_isSoundChild_87 (by decide) (fun c7 => ?_) (fun c7 => ?_)
    · have h := if_t c7 h
      exact J113 () _ _ _ ⟨hP, hS, lv_sub hl [] rfl, h⟩
    · have h := if_f c7 h
      refine lv_aload_n hx hb dX4_isSoundChild_90 rfl (lv_at hl 0 rfl) ?_
      refine va_get (D := D) (ci := 4) (v := .ref (a 19)) (C := RX4) (T := TX4) (N := 6) hx hb ht inX4 hown hK hP 16 CW_16 rfl 4 (by decide) (ht (.fieldLink RX4 18 "CloneVolumes$Picture" "highest" "[I") fl_X4_18) (fun _ h9 => h9) rfl dX4_isSoundChild_91 ?_
      refine lv_iload hx hb dX4_isSoundChild_94 (lv_at hl 4 rfl) ?_
      obtain ⟨y8, ey8, iy8, h⟩ := rdI_e h
      refine ya_iald hx hb hK hP 19 0 CW_19 rfl ey8 iy8 dX4_isSoundChild_96 ?_
      refine lv_aload_n hx hb dX4_isSoundChild_97 rfl (lv_at hl 1 rfl) ?_
      refine va_get (D := D) (ci := 8) (v := .ref (a 76)) (C := RX8) (T := TX8) (N := 11) hx hb ht inX8 hown hK hP 71 CW_71 rfl 7 (by decide) (ht (.fieldLink RX4 77 "CloneVolumes$State" "keys" "[I") fl_X4_77) (fun _ h9 => h9) rfl dX4_isSoundChild_98 ?_
      refine lv_aload_n hx hb dX4_isSoundChild_101 rfl (lv_at hl 1 rfl) ?_
      refine lv_iload_n hx hb dX4_isSoundChild_102 rfl (lv_at hl 2 rfl) ?_
      refine lv_iload_n hx hb dX4_isSoundChild_103 rfl (lv_at hl 3 rfl) ?_
      refine lv_iconst (v := 1) hx hb dX4_isSoundChild_104 (by decide) ?_
      refine lv_iadd hx hb dX4_isSoundChild_105 ?_
      obtain ⟨r10, hc9, h⟩ := bn_e h
      refine ycV (As := [.int x3, .int (x4 + 1)]) (rest := [.ref (a 76), .int y8]) (C := RX8) (n := 2) ⟨hx, hb, hml, hown, ht⟩ (k_x8_slot_v2 l D a x3 (x4 + 1) _ _ hc9) (zgV ml_X4_80 im_X8_slot se_X8_slot in_X8 co_X8_slot) rfl rfl (by decide +kernel) ⟨Nat.le_of_ble_eq_true rfl, Nat.le_of_ble_eq_true rfl⟩ hN hK hP hS 71 CW_71 rfl rfl rfl hl.1 rfl (Nat.le_of_ble_eq_true rfl) dX4_isSoundChild_106 ⟨Nat.le_of_ble_eq_true rfl, Nat.le_of_ble_eq_true rfl⟩ (fun H locs hP hS => ?_)
      obtain ⟨y11, ey11, iy11, h⟩ := rdI_e h
      refine ya_iald hx hb hK hP 76 0 CW_76 rfl ey11 iy11 dX4_isSoundChild_109 ?_
      refine lv_icmp_ge (tgt := 117) hx hb dX4_isSoundChild_110 (by decide) (fun c12 => ?_) (fun c12 => ?_)
      · have h := if_t c12 h
        refine lv_iconst (v := 0) hx hb dX4_isSoundChild_117 (by decide) ?_
        exact J118 0 _ _ _ ⟨hP, hS, lv_sub hl [] rfl, h⟩
      · have h := if_f c12 h
        exact J113 () _ _ _ ⟨hP, hS, lv_sub hl [] rfl, h⟩
  refine y_head (pcJ := 49) (σ := Unit) (fun u H locs ls => va_P D vwCl (CS D a s) H ∧ va_S (fun _ => False) s₀.heap H locs ∧ lv_has ls 5 [] ∧ m_x4_isSoundChild_J49 s u = some o) (fun u => []) (fun u H locs ls hI => ?_) (fun J49 => ?_)
  · obtain ⟨hP, hS, hl, h⟩ := hI
    skip
    have hP : va_P D vwCl (CS D a s) H := hP
    have hl : lv_has ls 5 [] := hl
    have h : m_x4_isSoundChild_J49 s () = some o := h
    unfold m_x4_isSoundChild_J49 at h
    refine lv_iconst (v := 0) hx hb dX4_isSoundChild_49 (by decide) ?_
    obtain rfl := Option.some.inj h
    exact W.zret (v := 0) hx hb hr (by decide) (fun t ht hW => ⟨⟨_, (), rfl, rfl, trivial⟩, hS.F ht⟩) hS.2.2 dX4_isSoundChild_50
  refine lv_aload_n hx hb dX4_isSoundChild_0 rfl (lv_at hl 1 rfl) ?_
  refine va_get (D := D) (ci := 8) (v := .ref (a 77)) (C := RX8) (T := TX8) (N := 11) hx hb ht inX8 hown hK hP 71 CW_71 rfl 8 (by decide) (ht (.fieldLink RX4 84 "CloneVolumes$State" "values" "[I") fl_X4_84) (fun _ h9 => h9) rfl dX4_isSoundChild_1 ?_
  refine lv_aload_n hx hb dX4_isSoundChild_4 rfl (lv_at hl 1 rfl) ?_
  refine lv_iload_n hx hb dX4_isSoundChild_5 rfl (lv_at hl 2 rfl) ?_
  refine lv_iload_n hx hb dX4_isSoundChild_6 rfl (lv_at hl 3 rfl) ?_
  obtain ⟨r14, hc13, h⟩ := bn_e h
  refine ycV (As := [.int p1, .int p2]) (rest := [.ref (a 77)]) (C := RX8) (n := 2) ⟨hx, hb, hml, hown, ht⟩ (k_x8_slot_v2 l D a p1 p2 _ _ hc13) (zgV ml_X4_80 im_X8_slot se_X8_slot in_X8 co_X8_slot) rfl rfl (by decide +kernel) ⟨Nat.le_of_ble_eq_true rfl, Nat.le_of_ble_eq_true rfl⟩ hN hK hP hS 71 CW_71 rfl rfl rfl hl.1 rfl (Nat.le_of_ble_eq_true rfl) dX4_isSoundChild_7 ⟨Nat.le_of_ble_eq_true rfl, Nat.le_of_ble_eq_true rfl⟩ (fun H locs hP hS => ?_)
  obtain ⟨y15, ey15, iy15, h⟩ := rdI_e h
  refine ya_iald hx hb hK hP 77 0 CW_77 rfl ey15 iy15 dX4_isSoundChild_10 ?_
  refine lv_istore (lv' := [(4, .int y15), (0, .ref (a 16)), (1, .ref (a 71)), (2, .int p1), (3, .int p2)]) hx hb dX4_isSoundChild_11 hl (by decide) rfl (fun ls hl => ?_)
  refine lv_aload_n hx hb dX4_isSoundChild_13 rfl (lv_at hl 2 rfl) ?_
  refine lv_iload hx hb dX4_isSoundChild_14 (lv_at hl 0 rfl) ?_
  obtain ⟨r17, hc16, h⟩ := bn_e h
  refine ycV (As := [.int y15]) (rest := []) (C := RX8) (n := 1) ⟨hx, hb, hml, hown, ht⟩ (k_x8_isBlock_v2 l D a y15 _ _ hc16) (zgV ml_X4_140 im_X8_isBlock se_X8_isBlock in_X8 co_X8_isBlock) rfl rfl (by decide +kernel) ⟨Nat.le_of_ble_eq_true rfl, Nat.le_of_ble_eq_true rfl⟩ hN hK hP hS 71 CW_71 rfl rfl rfl hl.1 rfl (Nat.le_of_ble_eq_true rfl) dX4_isSoundChild_16 ⟨Nat.le_of_ble_eq_true rfl, Nat.le_of_ble_eq_true rfl⟩ (fun H locs hP hS => ?_)
  refine lv_if_eq (tgt := 49) hx hb dX4_isSoundChild_19 (by decide) (fun c18 => ?_) (fun c18 => ?_)
  · have h := if_t c18 h
    exact J49 () _ _ _ ⟨hP, hS, lv_sub hl [] rfl, h⟩
  · have h := if_f c18 h
    refine lv_aload_n hx hb dX4_isSoundChild_22 rfl (lv_at hl 2 rfl) ?_
    refine lv_iload hx hb dX4_isSoundChild_23 (lv_at hl 0 rfl) ?_
    obtain ⟨r20, hc19, h⟩ := bn_e h
    refine ycV (As := [.int y15]) (rest := []) (C := RX8) (n := 1) ⟨hx, hb, hml, hown, ht⟩ (k_x8_isFree_v2 l D a y15 _ _ hc19) (zgV ml_X4_60 im_X8_isFree se_X8_isFree in_X8 co_X8_isFree) rfl rfl (by decide +kernel) ⟨Nat.le_of_ble_eq_true rfl, Nat.le_of_ble_eq_true rfl⟩ hN hK hP hS 71 CW_71 rfl rfl rfl hl.1 rfl (Nat.le_of_ble_eq_true rfl) dX4_isSoundChild_25 ⟨Nat.le_of_ble_eq_true rfl, Nat.le_of_ble_eq_true rfl⟩ (fun H locs hP hS => ?_)
    refine lv_if_ne (tgt := 49) hx hb dX4_isSoundChild_28 (by decide) (fun c21 => ?_) (fun c21 => ?_)
    · have h := if_f c21 h
      exact J49 () _ _ _ ⟨hP, hS, lv_sub hl [] rfl, h⟩
    · have h := if_t c21 h
      refine lv_aload_n hx hb dX4_isSoundChild_31 rfl (lv_at hl 2 rfl) ?_
      refine va_get (D := D) (ci := 8) (v := .ref (a 74)) (C := RX8) (T := TX8) (N := 11) hx hb ht inX8 hown hK hP 71 CW_71 rfl 5 (by decide) (ht (.fieldLink RX4 72 "CloneVolumes$State" "level" "[I") fl_X4_72) (fun _ h9 => h9) rfl dX4_isSoundChild_32 ?_
      refine lv_iload hx hb dX4_isSoundChild_35 (lv_at hl 0 rfl) ?_
      obtain ⟨y22, ey22, iy22, h⟩ := rdI_e h
      refine ya_iald hx hb hK hP 74 0 CW_74 rfl ey22 iy22 dX4_isSoundChild_37 ?_
      refine lv_aload_n hx hb dX4_isSoundChild_38 rfl (lv_at hl 2 rfl) ?_
      refine va_get (D := D) (ci := 8) (v := .ref (a 74)) (C := RX8) (T := TX8) (N := 11) hx hb ht inX8 hown hK hP 71 CW_71 rfl 5 (by decide) (ht (.fieldLink RX4 72 "CloneVolumes$State" "level" "[I") fl_X4_72) (fun _ h9 => h9) rfl dX4_isSoundChild_39 ?_
      refine lv_iload_n hx hb dX4_isSoundChild_42 rfl (lv_at hl 3 rfl) ?_
      obtain ⟨y23, ey23, iy23, h⟩ := rdI_e h
      refine ya_iald hx hb hK hP 74 0 CW_74 rfl ey23 iy23 dX4_isSoundChild_43 ?_
      refine lv_iconst (v := 1) hx hb dX4_isSoundChild_44 (by decide) ?_
      refine lv_isub hx hb dX4_isSoundChild_45 ?_
      refine lv_icmp_eq (tgt := 51) hx hb dX4_isSoundChild_46 (by decide) (fun c24 => ?_) (fun c24 => ?_)
      · have h := if_t c24 h
        refine lv_iload_n hx hb dX4_isSoundChild_51 rfl (lv_at hl 4 rfl) ?_
        refine lv_if_le (tgt := 78) hx hb dX4_isSoundChild_52 (by decide) (fun c25 => ?_) (fun c25 => ?_)
        · have h := if_t c25 h
          exact J78 (p1, p2, y15) _ _ _ ⟨hP, hS, lv_sub hl [1, 2, 3, 4, 0] rfl, h⟩
        · have h := if_f c25 h
          refine lv_aload_n hx hb dX4_isSoundChild_55 rfl (lv_at hl 1 rfl) ?_
          refine va_get (D := D) (ci := 4) (v := .ref (a 18)) (C := RX4) (T := TX4) (N := 6) hx hb ht inX4 hown hK hP 16 CW_16 rfl 3 (by decide) (ht (.fieldLink RX4 15 "CloneVolumes$Picture" "lowest" "[I") fl_X4_15) (fun _ h9 => h9) rfl dX4_isSoundChild_56 ?_
          refine lv_iload hx hb dX4_isSoundChild_59 (lv_at hl 0 rfl) ?_
          obtain ⟨y26, ey26, iy26, h⟩ := rdI_e h
          refine ya_iald hx hb hK hP 18 0 CW_18 rfl ey26 iy26 dX4_isSoundChild_61 ?_
          refine lv_aload_n hx hb dX4_isSoundChild_62 rfl (lv_at hl 2 rfl) ?_
          refine va_get (D := D) (ci := 8) (v := .ref (a 76)) (C := RX8) (T := TX8) (N := 11) hx hb ht inX8 hown hK hP 71 CW_71 rfl 7 (by decide) (ht (.fieldLink RX4 77 "CloneVolumes$State" "keys" "[I") fl_X4_77) (fun _ h9 => h9) rfl dX4_isSoundChild_63 ?_
          refine lv_aload_n hx hb dX4_isSoundChild_66 rfl (lv_at hl 2 rfl) ?_
          refine lv_iload_n hx hb dX4_isSoundChild_67 rfl (lv_at hl 3 rfl) ?_
          refine lv_iload_n hx hb dX4_isSoundChild_68 rfl (lv_at hl 4 rfl) ?_
          obtain ⟨r28, hc27, h⟩ := bn_e h
          refine ycV (As := [.int p1, .int p2]) (rest := [.ref (a 76), .int y26]) (C := RX8) (n := 2) ⟨hx, hb, hml, hown, ht⟩ (k_x8_slot_v2 l D a p1 p2 _ _ hc27) (zgV ml_X4_80 im_X8_slot se_X8_slot in_X8 co_X8_slot) rfl rfl (by decide +kernel) ⟨Nat.le_of_ble_eq_true rfl, Nat.le_of_ble_eq_true rfl⟩ hN hK hP hS 71 CW_71 rfl rfl rfl hl.1 rfl (Nat.le_of_ble_eq_true rfl) dX4_isSoundChild_69 ⟨Nat.le_of_ble_eq_true rfl, Nat.le_of_ble_eq_true rfl⟩ (fun H locs hP hS => ?_)
          obtain ⟨y29, ey29, iy29, h⟩ := rdI_e h
          refine ya_iald hx hb hK hP 76 0 CW_76 rfl ey29 iy29 dX4_isSoundChild_72 ?_
          refine lv_icmp_ge (tgt := 78) hx hb dX4_isSoundChild_73 (by decide) (fun c30 => ?_) (fun c30 => ?_)
          · have h := if_t c30 h
            exact J78 (p1, p2, y15) _ _ _ ⟨hP, hS, lv_sub hl [1, 2, 3, 4, 0] rfl, h⟩
          · have h := if_f c30 h
            refine lv_iconst (v := 0) hx hb dX4_isSoundChild_76 (by decide) ?_
            obtain rfl := Option.some.inj h
            exact W.zret (v := 0) hx hb hr (by decide) (fun t ht hW => ⟨⟨_, (), rfl, rfl, trivial⟩, hS.F ht⟩) hS.2.2 dX4_isSoundChild_77
      · have h := if_f c24 h
        exact J49 () _ _ _ ⟨hP, hS, lv_sub hl [] rfl, h⟩
def m_x4_isSoundBlock_b120 (lr120 : Int32 → Int32 → Int32 → MS → Option (Int32 × MS)) (x1 : Int32) (x2 : Int32) (x3 : Int32) (s4 : MS) : Option (Int32 × MS) :=
  if x2 < x3 then bn (m_x8_slot_v2 x1 0 s4) (fun r7 => rdI (gA s4 77) 288 r7 (fun y8 => rdI (gA s4 18) 48 y8 (fun y9 => inb 48 x1 (stn (sA s4 18 (upd (gA s4 18) (Int32.toNatClampNeg x1) y9)) (fun s11 => bn (m_x8_slot_v2 x1 x2 s11) (fun r13 => rdI (gA s11 77) 288 r13 (fun y14 => rdI (gA s11 19) 48 y14 (fun y15 => inb 48 x1 (stn (sA s11 19 (upd (gA s11 19) (Int32.toNatClampNeg x1) y15)) (fun s17 => some (1, s17))))))))))) else bn (m_x4_isSoundChild x1 x3 s4) (fun r19 => if r19 = 0 then some (0, s4) else lr120 x1 x2 (x3 + 1) s4)
def m_x4_isSoundBlock_L120 (n : Nat) : Int32 → Int32 → Int32 → MS → Option (Int32 × MS) := lp (fun _ _ _ _ => none) (m_x4_isSoundBlock_b120) n
def m_x4_isSoundBlock_b29 (lr29 : Int32 → Int32 → Int32 → MS → Option (Int32 × MS)) (x21 : Int32) (x22 : Int32) (x23 : Int32) (s24 : MS) : Option (Int32 × MS) :=
  if x22 ≤ x23 then rdI (gA s24 74) 48 x21 (fun y26 => if y26 = 0 then bn (m_x8_slot_v2 x21 0 s24) (fun r29 => rdI (gA s24 76) 288 r29 (fun y30 => inb 48 x21 (stn (sA s24 18 (upd (gA s24 18) (Int32.toNatClampNeg x21) y30)) (fun s32 => bn (m_x8_slot_v2 x21 x22 s32) (fun r34 => rdI (gA s32 76) 288 r34 (fun y35 => inb 48 x21 (stn (sA s32 19 (upd (gA s32 19) (Int32.toNatClampNeg x21) y35)) (fun s37 => some (1, s37))))))))) else m_x4_isSoundBlock_L120 FU x21 x22 0 s24) else bn (m_x8_slot_v2 x21 x23 s24) (fun r39 => rdI (gA s24 76) 288 r39 (fun y40 => bn (m_x8_slot_v2 x21 (x23 + 1) s24) (fun r42 => rdI (gA s24 76) 288 r42 (fun y43 => if y40 < y43 then lr29 x21 x22 (x23 + 1) s24 else some (0, s24)))))
def m_x4_isSoundBlock_L29 (n : Nat) : Int32 → Int32 → Int32 → MS → Option (Int32 × MS) := lp (fun _ _ _ _ => none) (m_x4_isSoundBlock_b29) n
def m_x4_isSoundBlock_J23 (x45 : Int32) (x46 : Int32) (x47 : Int32) (s48 : MS) : Option (Int32 × MS) :=
  m_x4_isSoundBlock_L29 FU x45 x46 x47 s48
def m_x4_isSoundBlock (p1 : Int32) (s : MS) : Option (Int32 × MS) :=
  rdI (gA s 75) 48 p1 (fun y49 => rdI (gA s 74) 48 p1 (fun y50 => if y50 = 0 then m_x4_isSoundBlock_J23 p1 (y49 - 1) 0 s else m_x4_isSoundBlock_J23 p1 (y49 - 1) 1 s))
set_option maxHeartbeats 4000000 in
set_option maxRecDepth 100000 in
theorem k_x4_isSoundBlock (l : Launch) (D : va_G) (a : Nat → Nat) (p1 : Int32) (sz : Nat) (s : MS) (o : (Int32 × MS)) (h : m_x4_isSoundBlock p1 s = some o) : yWi l yX4_isSoundBlock cX4_isSoundBlock 6 (some .boolean) { frames := 3, cells := 0, slots := 0, locals := 180 } D sz [.ref (a 16), .ref (a 71), .int p1] (CS D a s) (CS D a o.2) o.1 := by
  refine Met.ofW (cc := cX4_isSoundBlock) (maxL := 6) (ret := (some .boolean)) (by decide) rfl ?_
  intro p e s₀ m args below meth c s₁ B hml hv
  obtain ⟨rfl, ⟨hsz, hP, hK, hD0⟩, hN⟩ := hv
  have hx := B.exec
  have hb := B.bytes
  have hr := B.returns
  have hts := atoms_spec (ws := wz yX4_isSoundBlock cX4_isSoundBlock 6 (some .boolean)) B.pre
  have ht : ∀ w ∈ lw_gd, w.before _ s₀ = true := fun w h => hts w (List.mem_cons_of_mem _ h)
  have hown : s₀.vm.findClass RX4 = some m.cls := findClass_of_methodNamed B.named
  have hlocks := B.notSynchronized
  subst hsz
  have hD := hD0.self (sz := s₀.heap.size)
  generalize hAe : va_A (CS D a s) s₀.heap.size = A at hD ⊢
  have hA : ∀ q : Nat, s₀.heap.size ≤ q → A q := fun q h => by rw [← hAe]; exact Or.inr h
  have hS : va_S A s₀.heap s₀.heap [] := va_S.rf
  have hDD : ∀ t : MS, va_D A (CS D a t) := fun t => CW_D t hD
  have hl := lv_entry ([.ref (a 16), .ref (a 71), .int p1]) (n := 6) (Nat.le_of_ble_eq_true rfl)
  rw [lg_entry_eq]
  generalize (lg_sl ([.ref (a 16), .ref (a 71), .int p1]) ++ List.replicate (6 - (lg_sl ([.ref (a 16), .ref (a 71), .int p1])).length) Slot.unset).toArray = ls at hl ⊢
  have hl : lv_has ls 6 [(0, .ref (a 16)), (1, .ref (a 71)), (2, .int p1)] := hl
  unfold m_x4_isSoundBlock at h
  refine y_loop (pcJ := 120) (σ := Int32 × Int32 × Int32 × MS) (fun n u H locs ls => va_P D vwCl (CS D a u.2.2.2) H ∧ va_S A s₀.heap H locs ∧ lv_has ls 6 [(0, .ref (a 16)), (1, .ref (a 71)), (2, .int u.1), (3, .int u.2.1), (5, .int u.2.2.1)] ∧ m_x4_isSoundBlock_L120 n u.1 u.2.1 u.2.2.1 u.2.2.2 = some o) (fun u => []) (fun u H locs ls hI => by obtain ⟨_, _, _, h⟩ := hI; cases h) (fun n120 ih120 u H locs ls hI => ?_) (fun J120 => ?_)
  · obtain ⟨hP, hS, hl, h⟩ := hI
    obtain ⟨x1, x2, x3, s4⟩ := u
    have hP : va_P D vwCl (CS D a s4) H := hP
    have hl : lv_has ls 6 [(0, .ref (a 16)), (1, .ref (a 71)), (2, .int x1), (3, .int x2), (5, .int x3)] := hl
    have h : m_x4_isSoundBlock_b120 (m_x4_isSoundBlock_L120 n120) x1 x2 x3 s4 = some o := h
    unfold m_x4_isSoundBlock_b120 at h
    refine lv_iload hx hb dX4_isSoundBlock_120 (lv_at hl 4 rfl) ?_
    refine lv_iload_n hx hb dX4_isSoundBlock_122 rfl (lv_at hl 3 rfl) ?_
    refine lv_icmp_gt (tgt := 145) hx hb dX4_isSoundBlock_123 (by decide) (fun c5 => ?_) (fun c5 => ?_)
    · have h := if_t c5 h
      refine lv_aload_n hx hb dX4_isSoundBlock_145 rfl (lv_at hl 0 rfl) ?_
      refine va_get (D := D) (ci := 4) (v := .ref (a 18)) (C := RX4) (T := TX4) (N := 6) hx hb ht inX4 hown hK hP 16 CW_16 rfl 3 (by decide) (ht (.fieldLink RX4 15 "CloneVolumes$Picture" "lowest" "[I") fl_X4_15) (fun _ h9 => h9) rfl dX4_isSoundBlock_146 ?_
      refine lv_iload_n hx hb dX4_isSoundBlock_149 rfl (lv_at hl 2 rfl) ?_
      refine lv_aload_n hx hb dX4_isSoundBlock_150 rfl (lv_at hl 0 rfl) ?_
      refine va_get (D := D) (ci := 4) (v := .ref (a 18)) (C := RX4) (T := TX4) (N := 6) hx hb ht inX4 hown hK hP 16 CW_16 rfl 3 (by decide) (ht (.fieldLink RX4 15 "CloneVolumes$Picture" "lowest" "[I") fl_X4_15) (fun _ h9 => h9) rfl dX4_isSoundBlock_151 ?_
      refine lv_aload_n hx hb dX4_isSoundBlock_154 rfl (lv_at hl 1 rfl) ?_
      refine va_get (D := D) (ci := 8) (v := .ref (a 77)) (C := RX8) (T := TX8) (N := 11) hx hb ht inX8 hown hK hP 71 CW_71 rfl 8 (by decide) (ht (.fieldLink RX4 84 "CloneVolumes$State" "values" "[I") fl_X4_84) (fun _ h9 => h9) rfl dX4_isSoundBlock_155 ?_
      refine lv_aload_n hx hb dX4_isSoundBlock_158 rfl (lv_at hl 1 rfl) ?_
      refine lv_iload_n hx hb dX4_isSoundBlock_159 rfl (lv_at hl 2 rfl) ?_
      refine lv_iconst (v := 0) hx hb dX4_isSoundBlock_160 (by decide) ?_
      obtain ⟨r7, hc6, h⟩ := bn_e h
      refine ycV (As := [.int x1, .int 0]) (rest := [.ref (a 77), .ref (a 18), .int x1, .ref (a 18)]) (C := RX8) (n := 2) ⟨hx, hb, hml, hown, ht⟩ (k_x8_slot_v2 l D a x1 0 _ _ hc6) (zgV ml_X4_80 im_X8_slot se_X8_slot in_X8 co_X8_slot) rfl rfl (by decide +kernel) ⟨Nat.le_of_ble_eq_true rfl, Nat.le_of_ble_eq_true rfl⟩ hN hK hP hS 71 CW_71 rfl rfl rfl hl.1 rfl (Nat.le_of_ble_eq_true rfl) dX4_isSoundBlock_161 ⟨Nat.le_of_ble_eq_true rfl, Nat.le_of_ble_eq_true rfl⟩ (fun H locs hP hS => ?_)
      obtain ⟨y8, ey8, iy8, h⟩ := rdI_e h
      refine ya_iald hx hb hK hP 77 0 CW_77 rfl ey8 iy8 dX4_isSoundBlock_164 ?_
      obtain ⟨y9, ey9, iy9, h⟩ := rdI_e h
      refine ya_iald hx hb hK hP 18 0 CW_18 rfl ey9 iy9 dX4_isSoundBlock_165 ?_
      obtain ⟨hi10, h⟩ := inb_e h
      refine ya_iast hx hb hK hP (hDD _) hS 18 0 CW_18 rfl hi10 dX4_isSoundBlock_166 (CW_w18 _) (fun H locs hP hS => ?_)
      obtain ⟨s11, hs11, h⟩ := st_e h
      rw [hs11] at hP
      refine lv_aload_n hx hb dX4_isSoundBlock_167 rfl (lv_at hl 0 rfl) ?_
      refine va_get (D := D) (ci := 4) (v := .ref (a 19)) (C := RX4) (T := TX4) (N := 6) hx hb ht inX4 hown hK hP 16 CW_16 rfl 4 (by decide) (ht (.fieldLink RX4 18 "CloneVolumes$Picture" "highest" "[I") fl_X4_18) (fun _ h9 => h9) rfl dX4_isSoundBlock_168 ?_
      refine lv_iload_n hx hb dX4_isSoundBlock_171 rfl (lv_at hl 2 rfl) ?_
      refine lv_aload_n hx hb dX4_isSoundBlock_172 rfl (lv_at hl 0 rfl) ?_
      refine va_get (D := D) (ci := 4) (v := .ref (a 19)) (C := RX4) (T := TX4) (N := 6) hx hb ht inX4 hown hK hP 16 CW_16 rfl 4 (by decide) (ht (.fieldLink RX4 18 "CloneVolumes$Picture" "highest" "[I") fl_X4_18) (fun _ h9 => h9) rfl dX4_isSoundBlock_173 ?_
      refine lv_aload_n hx hb dX4_isSoundBlock_176 rfl (lv_at hl 1 rfl) ?_
      refine va_get (D := D) (ci := 8) (v := .ref (a 77)) (C := RX8) (T := TX8) (N := 11) hx hb ht inX8 hown hK hP 71 CW_71 rfl 8 (by decide) (ht (.fieldLink RX4 84 "CloneVolumes$State" "values" "[I") fl_X4_84) (fun _ h9 => h9) rfl dX4_isSoundBlock_177 ?_
      refine lv_aload_n hx hb dX4_isSoundBlock_180 rfl (lv_at hl 1 rfl) ?_
      refine lv_iload_n hx hb dX4_isSoundBlock_181 rfl (lv_at hl 2 rfl) ?_
      refine lv_iload_n hx hb dX4_isSoundBlock_182 rfl (lv_at hl 3 rfl) ?_
      obtain ⟨r13, hc12, h⟩ := bn_e h
      refine ycV (As := [.int x1, .int x2]) (rest := [.ref (a 77), .ref (a 19), .int x1, .ref (a 19)]) (C := RX8) (n := 2) ⟨hx, hb, hml, hown, ht⟩ (k_x8_slot_v2 l D a x1 x2 _ _ hc12) (zgV ml_X4_80 im_X8_slot se_X8_slot in_X8 co_X8_slot) rfl rfl (by decide +kernel) ⟨Nat.le_of_ble_eq_true rfl, Nat.le_of_ble_eq_true rfl⟩ hN hK hP hS 71 CW_71 rfl rfl rfl hl.1 rfl (Nat.le_of_ble_eq_true rfl) dX4_isSoundBlock_183 ⟨Nat.le_of_ble_eq_true rfl, Nat.le_of_ble_eq_true rfl⟩ (fun H locs hP hS => ?_)
      obtain ⟨y14, ey14, iy14, h⟩ := rdI_e h
      refine ya_iald hx hb hK hP 77 0 CW_77 rfl ey14 iy14 dX4_isSoundBlock_186 ?_
      obtain ⟨y15, ey15, iy15, h⟩ := rdI_e h
      refine ya_iald hx hb hK hP 19 0 CW_19 rfl ey15 iy15 dX4_isSoundBlock_187 ?_
      obtain ⟨hi16, h⟩ := inb_e h
      refine ya_iast hx hb hK hP (hDD _) hS 19 0 CW_19 rfl hi16 dX4_isSoundBlock_188 (CW_w19 _) (fun H locs hP hS => ?_)
      obtain ⟨s17, hs17, h⟩ := st_e h
      rw [hs17] at hP
      refine lv_iconst (v := 1) hx hb dX4_isSoundBlock_189 (by decide) ?_
      obtain rfl := Option.some.inj h
      exact W.zret (v := 1) hx hb hr (by decide) (fun t ht hW => ⟨⟨_, (), rfl, rfl, by rw [ht]; exact hP, va_K.moved hW.alike hK, hDD _⟩, hS.F ht⟩) hS.2.2 dX4_isSoundBlock_190
    · have h := if_f c5 h
      refine lv_aload_n hx hb dX4_isSoundBlock_126 rfl (lv_at hl 0 rfl) ?_
      refine lv_aload_n hx hb dX4_isSoundBlock_127 rfl (lv_at hl 1 rfl) ?_
      refine lv_iload_n hx hb dX4_isSoundBlock_128 rfl (lv_at hl 2 rfl) ?_
      refine lv_iload hx hb dX4_isSoundBlock_129 (lv_at hl 4 rfl) ?_
      obtain ⟨r19, hc18, h⟩ := bn_e h
      refine ycV (As := [.ref (a 71), .int x1, .int x3]) (rest := []) (C := RX4) (n := 3) ⟨hx, hb, hml, hown, ht⟩ (k_x4_isSoundChild l D a x1 x3 _ _ hc18) (zgV ml_X4_136 im_X4_isSoundChild se_X4_isSoundChild in_X4 co_X4_isSoundChild) rfl rfl (by decide +kernel) ⟨Nat.le_of_ble_eq_true rfl, Nat.le_of_ble_eq_true rfl⟩ hN hK hP hS 16 CW_16 rfl rfl rfl hl.1 rfl (Nat.le_of_ble_eq_true rfl) dX4_isSoundBlock_131 ⟨Nat.le_of_ble_eq_true rfl, Nat.le_of_ble_eq_true rfl⟩ (fun H locs hP hS => ?_)
      refine lv_if_ne (tgt := 139) hx hb dX4_isSoundBlock_134 (by decide) (fun c20 => ?_) (fun c20 => ?_)
      · have h := if_f c20 h
        refine lv_iinc (v := x3 + 1) (lv' := [(5, .int (x3 + 1)), (0, .ref (a 16)), (1, .ref (a 71)), (2, .int x1), (3, .int x2)]) hx hb dX4_isSoundBlock_139 hl (k := 4) rfl rfl (by decide) rfl (fun ls hl => ?_)
        refine lv_goto (tgt := 120) hx hb dX4_isSoundBlock_142 (by decide) ?_
        exact ih120 (x1, x2, x3 + 1, s4) _ _ _ ⟨hP, hS, lv_sub hl [1, 2, 3, 4, 0] rfl, h⟩
      · have h := if_t c20 h
        refine lv_iconst (v := 0) hx hb dX4_isSoundBlock_137 (by decide) ?_
        obtain rfl := Option.some.inj h
        exact W.zret (v := 0) hx hb hr (by decide) (fun t ht hW => ⟨⟨_, (), rfl, rfl, by rw [ht]; exact hP, va_K.moved hW.alike hK, hDD _⟩, hS.F ht⟩) hS.2.2 dX4_isSoundBlock_138
  refine y_loop (pcJ := 29) (σ := Int32 × Int32 × Int32 × MS) (fun n u H locs ls => va_P D vwCl (CS D a u.2.2.2) H ∧ va_S A s₀.heap H locs ∧ lv_has ls 6 [(0, .ref (a 16)), (1, .ref (a 71)), (2, .int u.1), (3, .int u.2.1), (5, .int u.2.2.1)] ∧ m_x4_isSoundBlock_L29 n u.1 u.2.1 u.2.2.1 u.2.2.2 = some o) (fun u => []) (fun u H locs ls hI => by obtain ⟨_, _, _, h⟩ := hI; cases h) (fun n29 ih29 u H locs ls hI => ?_) (fun J29 => ?_)
  · obtain ⟨hP, hS, hl, h⟩ := hI
    obtain ⟨x21, x22, x23, s24⟩ := u
    have hP : va_P D vwCl (CS D a s24) H := hP
    have hl : lv_has ls 6 [(0, .ref (a 16)), (1, .ref (a 71)), (2, .int x21), (3, .int x22), (5, .int x23)] := hl
    have h : m_x4_isSoundBlock_b29 (m_x4_isSoundBlock_L29 n29) x21 x22 x23 s24 = some o := h
    unfold m_x4_isSoundBlock_b29 at h
    refine lv_iload hx hb dX4_isSoundBlock_29 (lv_at hl 4 rfl) ?_
    refine lv_iload_n hx hb dX4_isSoundBlock_31 rfl (lv_at hl 3 rfl) ?_
    refine lv_icmp_ge (tgt := 72) hx hb dX4_isSoundBlock_32 (by decide) (fun c25 => ?_) (fun c25 => ?_)
    · have h := if_t c25 h
      refine lv_aload_n hx hb dX4_isSoundBlock_72 rfl (lv_at hl 1 rfl) ?_
      refine va_get (D := D) (ci := 8) (v := .ref (a 74)) (C := RX8) (T := TX8) (N := 11) hx hb ht inX8 hown hK hP 71 CW_71 rfl 5 (by decide) (ht (.fieldLink RX4 72 "CloneVolumes$State" "level" "[I") fl_X4_72) (fun _ h9 => h9) rfl dX4_isSoundBlock_73 ?_
      refine lv_iload_n hx hb dX4_isSoundBlock_76 rfl (lv_at hl 2 rfl) ?_
      obtain ⟨y26, ey26, iy26, h⟩ := rdI_e h
      refine ya_iald hx hb hK hP 74 0 CW_74 rfl ey26 iy26 dX4_isSoundBlock_77 ?_
      refine lv_if_ne (tgt := 117) hx hb dX4_isSoundBlock_78 (by decide) (fun c27 => ?_) (fun c27 => ?_)
      · have h := if_f c27 h
        refine lv_iconst (v := 0) hx hb dX4_isSoundBlock_117 (by decide) ?_
        refine lv_istore (lv' := [(5, .int 0), (0, .ref (a 16)), (1, .ref (a 71)), (2, .int x21), (3, .int x22)]) hx hb dX4_isSoundBlock_118 hl (by decide) rfl (fun ls hl => ?_)
        exact J120 FU (x21, x22, 0, s24) _ _ _ ⟨hP, hS, lv_sub hl [1, 2, 3, 4, 0] rfl, h⟩
      · have h := if_t c27 h
        refine lv_aload_n hx hb dX4_isSoundBlock_81 rfl (lv_at hl 0 rfl) ?_
        refine va_get (D := D) (ci := 4) (v := .ref (a 18)) (C := RX4) (T := TX4) (N := 6) hx hb ht inX4 hown hK hP 16 CW_16 rfl 3 (by decide) (ht (.fieldLink RX4 15 "CloneVolumes$Picture" "lowest" "[I") fl_X4_15) (fun _ h9 => h9) rfl dX4_isSoundBlock_82 ?_
        refine lv_iload_n hx hb dX4_isSoundBlock_85 rfl (lv_at hl 2 rfl) ?_
        refine lv_aload_n hx hb dX4_isSoundBlock_86 rfl (lv_at hl 1 rfl) ?_
        refine va_get (D := D) (ci := 8) (v := .ref (a 76)) (C := RX8) (T := TX8) (N := 11) hx hb ht inX8 hown hK hP 71 CW_71 rfl 7 (by decide) (ht (.fieldLink RX4 77 "CloneVolumes$State" "keys" "[I") fl_X4_77) (fun _ h9 => h9) rfl dX4_isSoundBlock_87 ?_
        refine lv_aload_n hx hb dX4_isSoundBlock_90 rfl (lv_at hl 1 rfl) ?_
        refine lv_iload_n hx hb dX4_isSoundBlock_91 rfl (lv_at hl 2 rfl) ?_
        refine lv_iconst (v := 0) hx hb dX4_isSoundBlock_92 (by decide) ?_
        obtain ⟨r29, hc28, h⟩ := bn_e h
        refine ycV (As := [.int x21, .int 0]) (rest := [.ref (a 76), .int x21, .ref (a 18)]) (C := RX8) (n := 2) ⟨hx, hb, hml, hown, ht⟩ (k_x8_slot_v2 l D a x21 0 _ _ hc28) (zgV ml_X4_80 im_X8_slot se_X8_slot in_X8 co_X8_slot) rfl rfl (by decide +kernel) ⟨Nat.le_of_ble_eq_true rfl, Nat.le_of_ble_eq_true rfl⟩ hN hK hP hS 71 CW_71 rfl rfl rfl hl.1 rfl (Nat.le_of_ble_eq_true rfl) dX4_isSoundBlock_93 ⟨Nat.le_of_ble_eq_true rfl, Nat.le_of_ble_eq_true rfl⟩ (fun H locs hP hS => ?_)
        obtain ⟨y30, ey30, iy30, h⟩ := rdI_e h
        refine ya_iald hx hb hK hP 76 0 CW_76 rfl ey30 iy30 dX4_isSoundBlock_96 ?_
        obtain ⟨hi31, h⟩ := inb_e h
        refine ya_iast hx hb hK hP (hDD _) hS 18 0 CW_18 rfl hi31 dX4_isSoundBlock_97 (CW_w18 _) (fun H locs hP hS => ?_)
        obtain ⟨s32, hs32, h⟩ := st_e h
        rw [hs32] at hP
        refine lv_aload_n hx hb dX4_isSoundBlock_98 rfl (lv_at hl 0 rfl) ?_
        refine va_get (D := D) (ci := 4) (v := .ref (a 19)) (C := RX4) (T := TX4) (N := 6) hx hb ht inX4 hown hK hP 16 CW_16 rfl 4 (by decide) (ht (.fieldLink RX4 18 "CloneVolumes$Picture" "highest" "[I") fl_X4_18) (fun _ h9 => h9) rfl dX4_isSoundBlock_99 ?_
        refine lv_iload_n hx hb dX4_isSoundBlock_102 rfl (lv_at hl 2 rfl) ?_
        refine lv_aload_n hx hb dX4_isSoundBlock_103 rfl (lv_at hl 1 rfl) ?_
        refine va_get (D := D) (ci := 8) (v := .ref (a 76)) (C := RX8) (T := TX8) (N := 11) hx hb ht inX8 hown hK hP 71 CW_71 rfl 7 (by decide) (ht (.fieldLink RX4 77 "CloneVolumes$State" "keys" "[I") fl_X4_77) (fun _ h9 => h9) rfl dX4_isSoundBlock_104 ?_
        refine lv_aload_n hx hb dX4_isSoundBlock_107 rfl (lv_at hl 1 rfl) ?_
        refine lv_iload_n hx hb dX4_isSoundBlock_108 rfl (lv_at hl 2 rfl) ?_
        refine lv_iload_n hx hb dX4_isSoundBlock_109 rfl (lv_at hl 3 rfl) ?_
        obtain ⟨r34, hc33, h⟩ := bn_e h
        refine ycV (As := [.int x21, .int x22]) (rest := [.ref (a 76), .int x21, .ref (a 19)]) (C := RX8) (n := 2) ⟨hx, hb, hml, hown, ht⟩ (k_x8_slot_v2 l D a x21 x22 _ _ hc33) (zgV ml_X4_80 im_X8_slot se_X8_slot in_X8 co_X8_slot) rfl rfl (by decide +kernel) ⟨Nat.le_of_ble_eq_true rfl, Nat.le_of_ble_eq_true rfl⟩ hN hK hP hS 71 CW_71 rfl rfl rfl hl.1 rfl (Nat.le_of_ble_eq_true rfl) dX4_isSoundBlock_110 ⟨Nat.le_of_ble_eq_true rfl, Nat.le_of_ble_eq_true rfl⟩ (fun H locs hP hS => ?_)
        obtain ⟨y35, ey35, iy35, h⟩ := rdI_e h
        refine ya_iald hx hb hK hP 76 0 CW_76 rfl ey35 iy35 dX4_isSoundBlock_113 ?_
        obtain ⟨hi36, h⟩ := inb_e h
        refine ya_iast hx hb hK hP (hDD _) hS 19 0 CW_19 rfl hi36 dX4_isSoundBlock_114 (CW_w19 _) (fun H locs hP hS => ?_)
        obtain ⟨s37, hs37, h⟩ := st_e h
        rw [hs37] at hP
        refine lv_iconst (v := 1) hx hb dX4_isSoundBlock_115 (by decide) ?_
        obtain rfl := Option.some.inj h
        exact W.zret (v := 1) hx hb hr (by decide) (fun t ht hW => ⟨⟨_, (), rfl, rfl, by rw [ht]; exact hP, va_K.moved hW.alike hK, hDD _⟩, hS.F ht⟩) hS.2.2 dX4_isSoundBlock_116
    · have h := if_f c25 h
      refine lv_aload_n hx hb dX4_isSoundBlock_35 rfl (lv_at hl 1 rfl) ?_
      refine va_get (D := D) (ci := 8) (v := .ref (a 76)) (C := RX8) (T := TX8) (N := 11) hx hb ht inX8 hown hK hP 71 CW_71 rfl 7 (by decide) (ht (.fieldLink RX4 77 "CloneVolumes$State" "keys" "[I") fl_X4_77) (fun _ h9 => h9) rfl dX4_isSoundBlock_36 ?_
      refine lv_aload_n hx hb dX4_isSoundBlock_39 rfl (lv_at hl 1 rfl) ?_
      refine lv_iload_n hx hb dX4_isSoundBlock_40 rfl (lv_at hl 2 rfl) ?_
      refine lv_iload hx hb dX4_isSoundBlock_41 (lv_at hl 4 rfl) ?_
      obtain ⟨r39, hc38, h⟩ := bn_e h
      refine ycV (As := [.int x21, .int x23]) (rest := [.ref (a 76)]) (C := RX8) (n := 2) ⟨hx, hb, hml, hown, ht⟩ (k_x8_slot_v2 l D a x21 x23 _ _ hc38) (zgV ml_X4_80 im_X8_slot se_X8_slot in_X8 co_X8_slot) rfl rfl (by decide +kernel) ⟨Nat.le_of_ble_eq_true rfl, Nat.le_of_ble_eq_true rfl⟩ hN hK hP hS 71 CW_71 rfl rfl rfl hl.1 rfl (Nat.le_of_ble_eq_true rfl) dX4_isSoundBlock_43 ⟨Nat.le_of_ble_eq_true rfl, Nat.le_of_ble_eq_true rfl⟩ (fun H locs hP hS => ?_)
      obtain ⟨y40, ey40, iy40, h⟩ := rdI_e h
      refine ya_iald hx hb hK hP 76 0 CW_76 rfl ey40 iy40 dX4_isSoundBlock_46 ?_
      refine lv_aload_n hx hb dX4_isSoundBlock_47 rfl (lv_at hl 1 rfl) ?_
      refine va_get (D := D) (ci := 8) (v := .ref (a 76)) (C := RX8) (T := TX8) (N := 11) hx hb ht inX8 hown hK hP 71 CW_71 rfl 7 (by decide) (ht (.fieldLink RX4 77 "CloneVolumes$State" "keys" "[I") fl_X4_77) (fun _ h9 => h9) rfl dX4_isSoundBlock_48 ?_
      refine lv_aload_n hx hb dX4_isSoundBlock_51 rfl (lv_at hl 1 rfl) ?_
      refine lv_iload_n hx hb dX4_isSoundBlock_52 rfl (lv_at hl 2 rfl) ?_
      refine lv_iload hx hb dX4_isSoundBlock_53 (lv_at hl 4 rfl) ?_
      refine lv_iconst (v := 1) hx hb dX4_isSoundBlock_55 (by decide) ?_
      refine lv_iadd hx hb dX4_isSoundBlock_56 ?_
      obtain ⟨r42, hc41, h⟩ := bn_e h
      refine ycV (As := [.int x21, .int (x23 + 1)]) (rest := [.ref (a 76), .int y40]) (C := RX8) (n := 2) ⟨hx, hb, hml, hown, ht⟩ (k_x8_slot_v2 l D a x21 (x23 + 1) _ _ hc41) (zgV ml_X4_80 im_X8_slot se_X8_slot in_X8 co_X8_slot) rfl rfl (by decide +kernel) ⟨Nat.le_of_ble_eq_true rfl, Nat.le_of_ble_eq_true rfl⟩ hN hK hP hS 71 CW_71 rfl rfl rfl hl.1 rfl (Nat.le_of_ble_eq_true rfl) dX4_isSoundBlock_57 ⟨Nat.le_of_ble_eq_true rfl, Nat.le_of_ble_eq_true rfl⟩ (fun H locs hP hS => ?_)
      obtain ⟨y43, ey43, iy43, h⟩ := rdI_e h
      refine ya_iald hx hb hK hP 76 0 CW_76 rfl ey43 iy43 dX4_isSoundBlock_60 ?_
      refine lv_icmp_lt (tgt := 66) hx hb dX4_isSoundBlock_61 (by decide) (fun c44 => ?_) (fun c44 => ?_)
      · have h := if_t c44 h
        refine lv_iinc (v := x23 + 1) (lv' := [(5, .int (x23 + 1)), (0, .ref (a 16)), (1, .ref (a 71)), (2, .int x21), (3, .int x22)]) hx hb dX4_isSoundBlock_66 hl (k := 4) rfl rfl (by decide) rfl (fun ls hl => ?_)
        refine lv_goto (tgt := 29) hx hb dX4_isSoundBlock_69 (by decide) ?_
        exact ih29 (x21, x22, x23 + 1, s24) _ _ _ ⟨hP, hS, lv_sub hl [1, 2, 3, 4, 0] rfl, h⟩
      · have h := if_f c44 h
        refine lv_iconst (v := 0) hx hb dX4_isSoundBlock_64 (by decide) ?_
        obtain rfl := Option.some.inj h
        exact W.zret (v := 0) hx hb hr (by decide) (fun t ht hW => ⟨⟨_, (), rfl, rfl, by rw [ht]; exact hP, va_K.moved hW.alike hK, hDD _⟩, hS.F ht⟩) hS.2.2 dX4_isSoundBlock_65
  refine y_head (pcJ := 23) (σ := Int32 × Int32 × Int32 × MS) (fun u H locs ls => va_P D vwCl (CS D a u.2.2.2) H ∧ va_S A s₀.heap H locs ∧ lv_has ls 6 [(0, .ref (a 16)), (1, .ref (a 71)), (2, .int u.1), (3, .int u.2.1)] ∧ m_x4_isSoundBlock_J23 u.1 u.2.1 u.2.2.1 u.2.2.2 = some o) (fun u => [.int u.2.2.1]) (fun u H locs ls hI => ?_) (fun J23 => ?_)
  · obtain ⟨hP, hS, hl, h⟩ := hI
    obtain ⟨x45, x46, x47, s48⟩ := u
    have hP : va_P D vwCl (CS D a s48) H := hP
    have hl : lv_has ls 6 [(0, .ref (a 16)), (1, .ref (a 71)), (2, .int x45), (3, .int x46)] := hl
    have h : m_x4_isSoundBlock_J23 x45 x46 x47 s48 = some o := h
    unfold m_x4_isSoundBlock_J23 at h
    refine lv_istore (lv' := [(4, .int x47), (0, .ref (a 16)), (1, .ref (a 71)), (2, .int x45), (3, .int x46)]) hx hb dX4_isSoundBlock_23 hl (by decide) rfl (fun ls hl => ?_)
    refine lv_iload hx hb dX4_isSoundBlock_25 (lv_at hl 0 rfl) ?_
    refine lv_istore (lv' := [(5, .int x47), (4, .int x47), (0, .ref (a 16)), (1, .ref (a 71)), (2, .int x45), (3, .int x46)]) hx hb dX4_isSoundBlock_27 hl (by decide) rfl (fun ls hl => ?_)
    exact J29 FU (x45, x46, x47, s48) _ _ _ ⟨hP, hS, lv_sub hl [2, 3, 4, 5, 0] rfl, h⟩
  refine lv_aload_n hx hb dX4_isSoundBlock_0 rfl (lv_at hl 1 rfl) ?_
  refine va_get (D := D) (ci := 8) (v := .ref (a 75)) (C := RX8) (T := TX8) (N := 11) hx hb ht inX8 hown hK hP 71 CW_71 rfl 6 (by decide) (ht (.fieldLink RX4 75 "CloneVolumes$State" "size" "[I") fl_X4_75) (fun _ h9 => h9) rfl dX4_isSoundBlock_1 ?_
  refine lv_iload_n hx hb dX4_isSoundBlock_4 rfl (lv_at hl 2 rfl) ?_
  obtain ⟨y49, ey49, iy49, h⟩ := rdI_e h
  refine ya_iald hx hb hK hP 75 0 CW_75 rfl ey49 iy49 dX4_isSoundBlock_5 ?_
  refine lv_iconst (v := 1) hx hb dX4_isSoundBlock_6 (by decide) ?_
  refine lv_isub hx hb dX4_isSoundBlock_7 ?_
  refine lv_istore_n (lv' := [(3, .int (y49 - 1)), (0, .ref (a 16)), (1, .ref (a 71)), (2, .int p1)]) hx hb dX4_isSoundBlock_8 rfl hl (by decide) rfl (fun ls hl => ?_)
  refine lv_aload_n hx hb dX4_isSoundBlock_9 rfl (lv_at hl 2 rfl) ?_
  refine va_get (D := D) (ci := 8) (v := .ref (a 74)) (C := RX8) (T := TX8) (N := 11) hx hb ht inX8 hown hK hP 71 CW_71 rfl 5 (by decide) (ht (.fieldLink RX4 72 "CloneVolumes$State" "level" "[I") fl_X4_72) (fun _ h9 => h9) rfl dX4_isSoundBlock_10 ?_
  refine lv_iload_n hx hb dX4_isSoundBlock_13 rfl (lv_at hl 3 rfl) ?_
  obtain ⟨y50, ey50, iy50, h⟩ := rdI_e h
  refine ya_iald hx hb hK hP 74 0 CW_74 rfl ey50 iy50 dX4_isSoundBlock_14 ?_
  refine lv_if_ne (tgt := 22) hx hb dX4_isSoundBlock_15 (by decide) (fun c51 => ?_) (fun c51 => ?_)
  · have h := if_f c51 h
    refine lv_iconst (v := 1) hx hb dX4_isSoundBlock_22 (by decide) ?_
    exact J23 (p1, y49 - 1, 1, s) _ _ _ ⟨hP, hS, lv_sub hl [1, 2, 3, 0] rfl, h⟩
  · have h := if_t c51 h
    refine lv_iconst (v := 0) hx hb dX4_isSoundBlock_18 (by decide) ?_
    refine lv_goto (tgt := 23) hx hb dX4_isSoundBlock_19 (by decide) ?_
    exact J23 (p1, y49 - 1, 0, s) _ _ _ ⟨hP, hS, lv_sub hl [1, 2, 3, 0] rfl, h⟩
def m_x4_refsAre_b151 (lr151 : Int32 → MS → Option (Int32 × MS)) (x1 : Int32) (s2 : MS) : Option (Int32 × MS) :=
  if (gI s2 1420) ≤ x1 then some (1, s2) else rdI (gA s2 20) 48 x1 (fun y4 => rdI (gA s2 72) 48 x1 (fun y5 => if y4 = y5 then lr151 (x1 + 1) s2 else some (0, s2)))
def m_x4_refsAre_L151 (n : Nat) : Int32 → MS → Option (Int32 × MS) := lp (fun _ _ => none) (m_x4_refsAre_b151) n
def m_x4_refsAre_b107 (lr65 : Int32 → MS → Option (Int32 × MS)) (lr107 : Int32 → Int32 → Int32 → MS → Option (Int32 × MS)) (x9 : Int32) (x10 : Int32) (x11 : Int32) (s12 : MS) : Option (Int32 × MS) :=
  if x10 ≤ x11 then lr65 (x9 + 1) s12 else bn (m_x8_slot_v2 x9 x11 s12) (fun r15 => rdI (gA s12 77) 288 r15 (fun y16 => rdI (gA s12 20) 48 y16 (fun y17 => inb 48 y16 (stn (sA s12 20 (upd (gA s12 20) (Int32.toNatClampNeg y16) (y17 + 1))) (fun s19 => lr107 x9 x10 (x11 + 1) s19)))))
def m_x4_refsAre_L107 (lr65 : Int32 → MS → Option (Int32 × MS)) (n : Nat) : Int32 → Int32 → Int32 → MS → Option (Int32 × MS) := lp (fun _ _ _ _ => none) (m_x4_refsAre_b107 lr65) n
def m_x4_refsAre_J102 (lr65 : Int32 → MS → Option (Int32 × MS)) (x20 : Int32) (x21 : Int32) (s22 : MS) : Option (Int32 × MS) :=
  m_x4_refsAre_L107 lr65 FU x20 x21 0 s22
def m_x4_refsAre_J101 (lr65 : Int32 → MS → Option (Int32 × MS)) (x23 : Int32) (s24 : MS) : Option (Int32 × MS) :=
  m_x4_refsAre_J102 lr65 x23 0 s24
def m_x4_refsAre_b65 (lr65 : Int32 → MS → Option (Int32 × MS)) (x7 : Int32) (s8 : MS) : Option (Int32 × MS) :=
  if (gI s8 1420) ≤ x7 then m_x4_refsAre_L151 FU 0 s8 else rdI (gA s8 72) 48 x7 (fun y26 => if y26 ≤ 0 then m_x4_refsAre_J101 lr65 x7 s8 else rdI (gA s8 74) 48 x7 (fun y28 => if y28 ≤ 0 then m_x4_refsAre_J101 lr65 x7 s8 else rdI (gA s8 75) 48 x7 (fun y30 => m_x4_refsAre_J102 lr65 x7 y30 s8)))
def m_x4_refsAre_L65 (n : Nat) : Int32 → MS → Option (Int32 × MS) := lp (fun _ _ => none) (m_x4_refsAre_b65) n
def m_x4_refsAre_J56 (lr29 : Int32 → MS → Option (Int32 × MS)) (x33 : Int32) (s34 : MS) : Option (Int32 × MS) :=
  lr29 (x33 + 1) s34
def m_x4_refsAre_b29 (lr29 : Int32 → MS → Option (Int32 × MS)) (x31 : Int32) (s32 : MS) : Option (Int32 × MS) :=
  if 8 ≤ x31 then m_x4_refsAre_L65 FU 0 s32 else rdI (gA s32 78) 8 x31 (fun y36 => if y36 < 0 then m_x4_refsAre_J56 lr29 x31 s32 else rdI (gA s32 78) 8 x31 (fun y38 => rdI (gA s32 20) 48 y38 (fun y39 => inb 48 y38 (stn (sA s32 20 (upd (gA s32 20) (Int32.toNatClampNeg y38) (y39 + 1))) (fun s41 => m_x4_refsAre_J56 lr29 x31 s41)))))
def m_x4_refsAre_L29 (n : Nat) : Int32 → MS → Option (Int32 × MS) := lp (fun _ _ => none) (m_x4_refsAre_b29) n
def m_x4_refsAre_b3 (lr3 : Int32 → MS → Option (Int32 × MS)) (x42 : Int32) (s43 : MS) : Option (Int32 × MS) :=
  if (gI s43 1420) ≤ x42 then m_x4_refsAre_L29 FU 0 s43 else inb 48 x42 (stn (sA s43 20 (upd (gA s43 20) (Int32.toNatClampNeg x42) 0)) (fun s46 => lr3 (x42 + 1) s46))
def m_x4_refsAre_L3 (n : Nat) : Int32 → MS → Option (Int32 × MS) := lp (fun _ _ => none) (m_x4_refsAre_b3) n
def m_x4_refsAre (s : MS) : Option (Int32 × MS) :=
  m_x4_refsAre_L3 FU 0 s
set_option maxHeartbeats 4000000 in
set_option maxRecDepth 100000 in
theorem k_x4_refsAre (l : Launch) (D : va_G) (a : Nat → Nat) (sz : Nat) (s : MS) (o : (Int32 × MS)) (h : m_x4_refsAre s = some o) : yWi l yX4_refsAre cX4_refsAre 7 (some .boolean) { frames := 1, cells := 0, slots := 0, locals := 60 } D sz [.ref (a 16), .ref (a 71), .ref (a 72), .ref (a 78)] (CS D a s) (CS D a o.2) o.1 := by
  refine Met.ofW (cc := cX4_refsAre) (maxL := 7) (ret := (some .boolean)) (by decide) rfl ?_
  intro p e s₀ m args below meth c s₁ B hml hv
  obtain ⟨rfl, ⟨hsz, hP, hK, hD0⟩, hN⟩ := hv
  have hx := B.exec
  have hb := B.bytes
  have hr := B.returns
  have hts := atoms_spec (ws := wz yX4_refsAre cX4_refsAre 7 (some .boolean)) B.pre
  have ht : ∀ w ∈ lw_gd, w.before _ s₀ = true := fun w h => hts w (List.mem_cons_of_mem _ h)
  have hown : s₀.vm.findClass RX4 = some m.cls := findClass_of_methodNamed B.named
  have hlocks := B.notSynchronized
  subst hsz
  have hD := hD0.self (sz := s₀.heap.size)
  generalize hAe : va_A (CS D a s) s₀.heap.size = A at hD ⊢
  have hA : ∀ q : Nat, s₀.heap.size ≤ q → A q := fun q h => by rw [← hAe]; exact Or.inr h
  have hS : va_S A s₀.heap s₀.heap [] := va_S.rf
  have hDD : ∀ t : MS, va_D A (CS D a t) := fun t => CW_D t hD
  have hl := lv_entry ([.ref (a 16), .ref (a 71), .ref (a 72), .ref (a 78)]) (n := 7) (Nat.le_of_ble_eq_true rfl)
  rw [lg_entry_eq]
  generalize (lg_sl ([.ref (a 16), .ref (a 71), .ref (a 72), .ref (a 78)]) ++ List.replicate (7 - (lg_sl ([.ref (a 16), .ref (a 71), .ref (a 72), .ref (a 78)])).length) Slot.unset).toArray = ls at hl ⊢
  have hl : lv_has ls 7 [(0, .ref (a 16)), (1, .ref (a 71)), (2, .ref (a 72)), (3, .ref (a 78))] := hl
  unfold m_x4_refsAre at h
  refine y_loop (pcJ := 151) (σ := Int32 × MS) (fun n u H locs ls => va_P D vwCl (CS D a u.2) H ∧ va_S A s₀.heap H locs ∧ lv_has ls 7 [(0, .ref (a 16)), (1, .ref (a 71)), (2, .ref (a 72)), (4, .int u.1)] ∧ m_x4_refsAre_L151 n u.1 u.2 = some o) (fun u => []) (fun u H locs ls hI => by obtain ⟨_, _, _, h⟩ := hI; cases h) (fun n151 ih151 u H locs ls hI => ?_) (fun J151 => ?_)
  · obtain ⟨hP, hS, hl, h⟩ := hI
    obtain ⟨x1, s2⟩ := u
    have hP : va_P D vwCl (CS D a s2) H := hP
    have hl : lv_has ls 7 [(0, .ref (a 16)), (1, .ref (a 71)), (2, .ref (a 72)), (4, .int x1)] := hl
    have h : m_x4_refsAre_b151 (m_x4_refsAre_L151 n151) x1 s2 = some o := h
    unfold m_x4_refsAre_b151 at h
    refine lv_iload hx hb dX4_refsAre_151 (lv_at hl 3 rfl) ?_
    refine lv_aload_n hx hb dX4_refsAre_153 rfl (lv_at hl 1 rfl) ?_
    refine va_get (D := D) (ci := 8) (v := .int (gI s2 1420)) (C := RX8) (T := TX8) (N := 11) hx hb ht inX8 hown hK hP 71 CW_71 rfl 0 (by decide) (ht (.fieldLink RX4 51 "CloneVolumes$State" "blocks" "I") fl_X4_51) (fun _ h9 => h9) rfl dX4_refsAre_154 ?_
    refine lv_icmp_ge (tgt := 182) hx hb dX4_refsAre_157 (by decide) (fun c3 => ?_) (fun c3 => ?_)
    · have h := if_t c3 h
      refine lv_iconst (v := 1) hx hb dX4_refsAre_182 (by decide) ?_
      obtain rfl := Option.some.inj h
      exact W.zret (v := 1) hx hb hr (by decide) (fun t ht hW => ⟨⟨_, (), rfl, rfl, by rw [ht]; exact hP, va_K.moved hW.alike hK, hDD _⟩, hS.F ht⟩) hS.2.2 dX4_refsAre_183
    · have h := if_f c3 h
      refine lv_aload_n hx hb dX4_refsAre_160 rfl (lv_at hl 0 rfl) ?_
      refine va_get (D := D) (ci := 4) (v := .ref (a 20)) (C := RX4) (T := TX4) (N := 6) hx hb ht inX4 hown hK hP 16 CW_16 rfl 5 (by decide) (ht (.fieldLink RX4 21 "CloneVolumes$Picture" "refs" "[I") fl_X4_21) (fun _ h9 => h9) rfl dX4_refsAre_161 ?_
      refine lv_iload hx hb dX4_refsAre_164 (lv_at hl 3 rfl) ?_
      obtain ⟨y4, ey4, iy4, h⟩ := rdI_e h
      refine ya_iald hx hb hK hP 20 0 CW_20 rfl ey4 iy4 dX4_refsAre_166 ?_
      refine lv_aload_n hx hb dX4_refsAre_167 rfl (lv_at hl 2 rfl) ?_
      refine lv_iload hx hb dX4_refsAre_168 (lv_at hl 3 rfl) ?_
      obtain ⟨y5, ey5, iy5, h⟩ := rdI_e h
      refine ya_iald hx hb hK hP 72 0 CW_72 rfl ey5 iy5 dX4_refsAre_170 ?_
      refine lv_icmp_eq (tgt := 176) hx hb dX4_refsAre_171 (by decide) (fun c6 => ?_) (fun c6 => ?_)
      · have h := if_t c6 h
        refine lv_iinc (v := x1 + 1) (lv' := [(4, .int (x1 + 1)), (0, .ref (a 16)), (1, .ref (a 71)), (2, .ref (a 72))]) hx hb dX4_refsAre_176 hl (k := 3) rfl rfl (by decide) rfl (fun ls hl => ?_)
        refine lv_goto (tgt := 151) hx hb dX4_refsAre_179 (by decide) ?_
        exact ih151 (x1 + 1, s2) _ _ _ ⟨hP, hS, lv_sub hl [1, 2, 3, 0] rfl, h⟩
      · have h := if_f c6 h
        refine lv_iconst (v := 0) hx hb dX4_refsAre_174 (by decide) ?_
        obtain rfl := Option.some.inj h
        exact W.zret (v := 0) hx hb hr (by decide) (fun t ht hW => ⟨⟨_, (), rfl, rfl, by rw [ht]; exact hP, va_K.moved hW.alike hK, hDD _⟩, hS.F ht⟩) hS.2.2 dX4_refsAre_175
  refine y_loop (pcJ := 65) (σ := Int32 × MS) (fun n u H locs ls => va_P D vwCl (CS D a u.2) H ∧ va_S A s₀.heap H locs ∧ lv_has ls 7 [(0, .ref (a 16)), (1, .ref (a 71)), (2, .ref (a 72)), (4, .int u.1)] ∧ m_x4_refsAre_L65 n u.1 u.2 = some o) (fun u => []) (fun u H locs ls hI => by obtain ⟨_, _, _, h⟩ := hI; cases h) (fun n65 ih65 u H locs ls hI => ?_) (fun J65 => ?_)
  · obtain ⟨hP, hS, hl, h⟩ := hI
    obtain ⟨x7, s8⟩ := u
    have hP : va_P D vwCl (CS D a s8) H := hP
    have hl : lv_has ls 7 [(0, .ref (a 16)), (1, .ref (a 71)), (2, .ref (a 72)), (4, .int x7)] := hl
    have h : m_x4_refsAre_b65 (m_x4_refsAre_L65 n65) x7 s8 = some o := h
    unfold m_x4_refsAre_b65 at h
    refine y_loop (pcJ := 107) (σ := Int32 × Int32 × Int32 × MS) (fun n u H locs ls => va_P D vwCl (CS D a u.2.2.2) H ∧ va_S A s₀.heap H locs ∧ lv_has ls 7 [(0, .ref (a 16)), (1, .ref (a 71)), (2, .ref (a 72)), (4, .int u.1), (5, .int u.2.1), (6, .int u.2.2.1)] ∧ m_x4_refsAre_L107 (m_x4_refsAre_L65 n65) n u.1 u.2.1 u.2.2.1 u.2.2.2 = some o) (fun u => []) (fun u H locs ls hI => by obtain ⟨_, _, _, h⟩ := hI; cases h) (fun n107 ih107 u H locs ls hI => ?_) (fun J107 => ?_)
    · obtain ⟨hP, hS, hl, h⟩ := hI
      obtain ⟨x9, x10, x11, s12⟩ := u
      have hP : va_P D vwCl (CS D a s12) H := hP
      have hl : lv_has ls 7 [(0, .ref (a 16)), (1, .ref (a 71)), (2, .ref (a 72)), (4, .int x9), (5, .int x10), (6, .int x11)] := hl
      have h : m_x4_refsAre_b107 (m_x4_refsAre_L65 n65) (m_x4_refsAre_L107 (m_x4_refsAre_L65 n65) n107) x9 x10 x11 s12 = some o := h
      unfold m_x4_refsAre_b107 at h
      refine lv_iload hx hb dX4_refsAre_107 (lv_at hl 5 rfl) ?_
      refine lv_iload hx hb dX4_refsAre_109 (lv_at hl 4 rfl) ?_
      refine lv_icmp_ge (tgt := 142) hx hb dX4_refsAre_111 (by decide) (fun c13 => ?_) (fun c13 => ?_)
      · have h := if_t c13 h
        refine lv_iinc (v := x9 + 1) (lv' := [(4, .int (x9 + 1)), (0, .ref (a 16)), (1, .ref (a 71)), (2, .ref (a 72)), (5, .int x10), (6, .int x11)]) hx hb dX4_refsAre_142 hl (k := 3) rfl rfl (by decide) rfl (fun ls hl => ?_)
        refine lv_goto (tgt := 65) hx hb dX4_refsAre_145 (by decide) ?_
        exact ih65 (x9 + 1, s12) _ _ _ ⟨hP, hS, lv_sub hl [1, 2, 3, 0] rfl, h⟩
      · have h := if_f c13 h
        refine lv_aload_n hx hb dX4_refsAre_114 rfl (lv_at hl 0 rfl) ?_
        refine va_get (D := D) (ci := 4) (v := .ref (a 20)) (C := RX4) (T := TX4) (N := 6) hx hb ht inX4 hown hK hP 16 CW_16 rfl 5 (by decide) (ht (.fieldLink RX4 21 "CloneVolumes$Picture" "refs" "[I") fl_X4_21) (fun _ h9 => h9) rfl dX4_refsAre_115 ?_
        refine lv_aload_n hx hb dX4_refsAre_118 rfl (lv_at hl 1 rfl) ?_
        refine va_get (D := D) (ci := 8) (v := .ref (a 77)) (C := RX8) (T := TX8) (N := 11) hx hb ht inX8 hown hK hP 71 CW_71 rfl 8 (by decide) (ht (.fieldLink RX4 84 "CloneVolumes$State" "values" "[I") fl_X4_84) (fun _ h9 => h9) rfl dX4_refsAre_119 ?_
        refine lv_aload_n hx hb dX4_refsAre_122 rfl (lv_at hl 1 rfl) ?_
        refine lv_iload hx hb dX4_refsAre_123 (lv_at hl 3 rfl) ?_
        refine lv_iload hx hb dX4_refsAre_125 (lv_at hl 5 rfl) ?_
        obtain ⟨r15, hc14, h⟩ := bn_e h
        refine ycV (As := [.int x9, .int x11]) (rest := [.ref (a 77), .ref (a 20)]) (C := RX8) (n := 2) ⟨hx, hb, hml, hown, ht⟩ (k_x8_slot_v2 l D a x9 x11 _ _ hc14) (zgV ml_X4_80 im_X8_slot se_X8_slot in_X8 co_X8_slot) rfl rfl (by decide +kernel) ⟨Nat.le_of_ble_eq_true rfl, Nat.le_of_ble_eq_true rfl⟩ hN hK hP hS 71 CW_71 rfl rfl rfl hl.1 rfl (Nat.le_of_ble_eq_true rfl) dX4_refsAre_127 ⟨Nat.le_of_ble_eq_true rfl, Nat.le_of_ble_eq_true rfl⟩ (fun H locs hP hS => ?_)
        obtain ⟨y16, ey16, iy16, h⟩ := rdI_e h
        refine ya_iald hx hb hK hP 77 0 CW_77 rfl ey16 iy16 dX4_refsAre_130 ?_
        refine lv_dup2_11 hx hb dX4_refsAre_131 rfl rfl ?_
        obtain ⟨y17, ey17, iy17, h⟩ := rdI_e h
        refine ya_iald hx hb hK hP 20 0 CW_20 rfl ey17 iy17 dX4_refsAre_132 ?_
        refine lv_iconst (v := 1) hx hb dX4_refsAre_133 (by decide) ?_
        refine lv_iadd hx hb dX4_refsAre_134 ?_
        obtain ⟨hi18, h⟩ := inb_e h
        refine ya_iast hx hb hK hP (hDD _) hS 20 0 CW_20 rfl hi18 dX4_refsAre_135 (CW_w20 _) (fun H locs hP hS => ?_)
        obtain ⟨s19, hs19, h⟩ := st_e h
        rw [hs19] at hP
        refine lv_iinc (v := x11 + 1) (lv' := [(6, .int (x11 + 1)), (0, .ref (a 16)), (1, .ref (a 71)), (2, .ref (a 72)), (4, .int x9), (5, .int x10)]) hx hb dX4_refsAre_136 hl (k := 5) rfl rfl (by decide) rfl (fun ls hl => ?_)
        refine lv_goto (tgt := 107) hx hb dX4_refsAre_139 (by decide) ?_
        exact ih107 (x9, x10, x11 + 1, s19) _ _ _ ⟨hP, hS, lv_sub hl [1, 2, 3, 4, 5, 0] rfl, h⟩
    refine y_head (pcJ := 102) (σ := Int32 × Int32 × MS) (fun u H locs ls => va_P D vwCl (CS D a u.2.2) H ∧ va_S A s₀.heap H locs ∧ lv_has ls 7 [(0, .ref (a 16)), (1, .ref (a 71)), (2, .ref (a 72)), (4, .int u.1)] ∧ m_x4_refsAre_J102 (m_x4_refsAre_L65 n65) u.1 u.2.1 u.2.2 = some o) (fun u => [.int u.2.1]) (fun u H locs ls hI => ?_) (fun J102 => ?_)
    · obtain ⟨hP, hS, hl, h⟩ := hI
      obtain ⟨x20, x21, s22⟩ := u
      have hP : va_P D vwCl (CS D a s22) H := hP
      have hl : lv_has ls 7 [(0, .ref (a 16)), (1, .ref (a 71)), (2, .ref (a 72)), (4, .int x20)] := hl
      have h : m_x4_refsAre_J102 (m_x4_refsAre_L65 n65) x20 x21 s22 = some o := h
      unfold m_x4_refsAre_J102 at h
      refine lv_istore (lv' := [(5, .int x21), (0, .ref (a 16)), (1, .ref (a 71)), (2, .ref (a 72)), (4, .int x20)]) hx hb dX4_refsAre_102 hl (by decide) rfl (fun ls hl => ?_)
      refine lv_iconst (v := 0) hx hb dX4_refsAre_104 (by decide) ?_
      refine lv_istore (lv' := [(6, .int 0), (5, .int x21), (0, .ref (a 16)), (1, .ref (a 71)), (2, .ref (a 72)), (4, .int x20)]) hx hb dX4_refsAre_105 hl (by decide) rfl (fun ls hl => ?_)
      exact J107 FU (x20, x21, 0, s22) _ _ _ ⟨hP, hS, lv_sub hl [2, 3, 4, 5, 1, 0] rfl, h⟩
    refine y_head (pcJ := 101) (σ := Int32 × MS) (fun u H locs ls => va_P D vwCl (CS D a u.2) H ∧ va_S A s₀.heap H locs ∧ lv_has ls 7 [(0, .ref (a 16)), (1, .ref (a 71)), (2, .ref (a 72)), (4, .int u.1)] ∧ m_x4_refsAre_J101 (m_x4_refsAre_L65 n65) u.1 u.2 = some o) (fun u => []) (fun u H locs ls hI => ?_) (fun J101 => ?_)
    · obtain ⟨hP, hS, hl, h⟩ := hI
      obtain ⟨x23, s24⟩ := u
      have hP : va_P D vwCl (CS D a s24) H := hP
      have hl : lv_has ls 7 [(0, .ref (a 16)), (1, .ref (a 71)), (2, .ref (a 72)), (4, .int x23)] := hl
      have h : m_x4_refsAre_J101 (m_x4_refsAre_L65 n65) x23 s24 = some o := h
      unfold m_x4_refsAre_J101 at h
      refine lv_iconst (v := 0) hx hb dX4_refsAre_101 (by decide) ?_
      exact J102 (x23, 0, s24) _ _ _ ⟨hP, hS, lv_sub hl [0, 1, 2, 3] rfl, h⟩
    refine lv_iload hx hb dX4_refsAre_65 (lv_at hl 3 rfl) ?_
    refine lv_aload_n hx hb dX4_refsAre_67 rfl (lv_at hl 1 rfl) ?_
    refine va_get (D := D) (ci := 8) (v := .int (gI s8 1420)) (C := RX8) (T := TX8) (N := 11) hx hb ht inX8 hown hK hP 71 CW_71 rfl 0 (by decide) (ht (.fieldLink RX4 51 "CloneVolumes$State" "blocks" "I") fl_X4_51) (fun _ h9 => h9) rfl dX4_refsAre_68 ?_
    refine lv_icmp_ge (tgt := 148) hx hb dX4_refsAre_71 (by decide) (fun c25 => ?_) (fun c25 => ?_)
    · have h := if_t c25 h
      refine lv_iconst (v := 0) hx hb dX4_refsAre_148 (by decide) ?_
      refine lv_istore (lv' := [(4, .int 0), (0, .ref (a 16)), (1, .ref (a 71)), (2, .ref (a 72))]) hx hb dX4_refsAre_149 hl (by decide) rfl (fun ls hl => ?_)
      exact J151 FU (0, s8) _ _ _ ⟨hP, hS, lv_sub hl [1, 2, 3, 0] rfl, h⟩
    · have h := if_f c25 h
      refine lv_aload_n hx hb dX4_refsAre_74 rfl (lv_at hl 2 rfl) ?_
      refine lv_iload hx hb dX4_refsAre_75 (lv_at hl 3 rfl) ?_
      obtain ⟨y26, ey26, iy26, h⟩ := rdI_e h
      refine ya_iald hx hb hK hP 72 0 CW_72 rfl ey26 iy26 dX4_refsAre_77 ?_
      refine lv_if_le (tgt := 101) hx hb dX4_refsAre_78 (by decide) (fun c27 => ?_) (fun c27 => ?_)
      · have h := if_t c27 h
        exact J101 (x7, s8) _ _ _ ⟨hP, hS, lv_sub hl [0, 1, 2, 3] rfl, h⟩
      · have h := if_f c27 h
        refine lv_aload_n hx hb dX4_refsAre_81 rfl (lv_at hl 1 rfl) ?_
        refine va_get (D := D) (ci := 8) (v := .ref (a 74)) (C := RX8) (T := TX8) (N := 11) hx hb ht inX8 hown hK hP 71 CW_71 rfl 5 (by decide) (ht (.fieldLink RX4 72 "CloneVolumes$State" "level" "[I") fl_X4_72) (fun _ h9 => h9) rfl dX4_refsAre_82 ?_
        refine lv_iload hx hb dX4_refsAre_85 (lv_at hl 3 rfl) ?_
        obtain ⟨y28, ey28, iy28, h⟩ := rdI_e h
        refine ya_iald hx hb hK hP 74 0 CW_74 rfl ey28 iy28 dX4_refsAre_87 ?_
        refine lv_if_le (tgt := 101) hx hb dX4_refsAre_88 (by decide) (fun c29 => ?_) (fun c29 => ?_)
        · have h := if_t c29 h
          exact J101 (x7, s8) _ _ _ ⟨hP, hS, lv_sub hl [0, 1, 2, 3] rfl, h⟩
        · have h := if_f c29 h
          refine lv_aload_n hx hb dX4_refsAre_91 rfl (lv_at hl 1 rfl) ?_
          refine va_get (D := D) (ci := 8) (v := .ref (a 75)) (C := RX8) (T := TX8) (N := 11) hx hb ht inX8 hown hK hP 71 CW_71 rfl 6 (by decide) (ht (.fieldLink RX4 75 "CloneVolumes$State" "size" "[I") fl_X4_75) (fun _ h9 => h9) rfl dX4_refsAre_92 ?_
          refine lv_iload hx hb dX4_refsAre_95 (lv_at hl 3 rfl) ?_
          obtain ⟨y30, ey30, iy30, h⟩ := rdI_e h
          refine ya_iald hx hb hK hP 75 0 CW_75 rfl ey30 iy30 dX4_refsAre_97 ?_
          refine lv_goto (tgt := 102) hx hb dX4_refsAre_98 (by decide) ?_
          exact J102 (x7, y30, s8) _ _ _ ⟨hP, hS, lv_sub hl [0, 1, 2, 3] rfl, h⟩
  refine y_loop (pcJ := 29) (σ := Int32 × MS) (fun n u H locs ls => va_P D vwCl (CS D a u.2) H ∧ va_S A s₀.heap H locs ∧ lv_has ls 7 [(0, .ref (a 16)), (1, .ref (a 71)), (2, .ref (a 72)), (3, .ref (a 78)), (4, .int u.1)] ∧ m_x4_refsAre_L29 n u.1 u.2 = some o) (fun u => []) (fun u H locs ls hI => by obtain ⟨_, _, _, h⟩ := hI; cases h) (fun n29 ih29 u H locs ls hI => ?_) (fun J29 => ?_)
  · obtain ⟨hP, hS, hl, h⟩ := hI
    obtain ⟨x31, s32⟩ := u
    have hP : va_P D vwCl (CS D a s32) H := hP
    have hl : lv_has ls 7 [(0, .ref (a 16)), (1, .ref (a 71)), (2, .ref (a 72)), (3, .ref (a 78)), (4, .int x31)] := hl
    have h : m_x4_refsAre_b29 (m_x4_refsAre_L29 n29) x31 s32 = some o := h
    unfold m_x4_refsAre_b29 at h
    refine y_head (pcJ := 56) (σ := Int32 × MS) (fun u H locs ls => va_P D vwCl (CS D a u.2) H ∧ va_S A s₀.heap H locs ∧ lv_has ls 7 [(0, .ref (a 16)), (1, .ref (a 71)), (2, .ref (a 72)), (3, .ref (a 78)), (4, .int u.1)] ∧ m_x4_refsAre_J56 (m_x4_refsAre_L29 n29) u.1 u.2 = some o) (fun u => []) (fun u H locs ls hI => ?_) (fun J56 => ?_)
    · obtain ⟨hP, hS, hl, h⟩ := hI
      obtain ⟨x33, s34⟩ := u
      have hP : va_P D vwCl (CS D a s34) H := hP
      have hl : lv_has ls 7 [(0, .ref (a 16)), (1, .ref (a 71)), (2, .ref (a 72)), (3, .ref (a 78)), (4, .int x33)] := hl
      have h : m_x4_refsAre_J56 (m_x4_refsAre_L29 n29) x33 s34 = some o := h
      unfold m_x4_refsAre_J56 at h
      refine lv_iinc (v := x33 + 1) (lv' := [(4, .int (x33 + 1)), (0, .ref (a 16)), (1, .ref (a 71)), (2, .ref (a 72)), (3, .ref (a 78))]) hx hb dX4_refsAre_56 hl (k := 4) rfl rfl (by decide) rfl (fun ls hl => ?_)
      refine lv_goto (tgt := 29) hx hb dX4_refsAre_59 (by decide) ?_
      exact ih29 (x33 + 1, s34) _ _ _ ⟨hP, hS, lv_sub hl [1, 2, 3, 4, 0] rfl, h⟩
    refine lv_iload hx hb dX4_refsAre_29 (lv_at hl 4 rfl) ?_
    refine lv_bipush (v := 8) hx hb dX4_refsAre_31 (by decide) ?_
    refine lv_icmp_ge (tgt := 62) hx hb dX4_refsAre_33 (by decide) (fun c35 => ?_) (fun c35 => ?_)
    · have h := if_t c35 h
      refine lv_iconst (v := 0) hx hb dX4_refsAre_62 (by decide) ?_
      refine lv_istore (lv' := [(4, .int 0), (0, .ref (a 16)), (1, .ref (a 71)), (2, .ref (a 72)), (3, .ref (a 78))]) hx hb dX4_refsAre_63 hl (by decide) rfl (fun ls hl => ?_)
      exact J65 FU (0, s32) _ _ _ ⟨hP, hS, lv_sub hl [1, 2, 3, 0] rfl, h⟩
    · have h := if_f c35 h
      refine lv_aload_n hx hb dX4_refsAre_36 rfl (lv_at hl 3 rfl) ?_
      refine lv_iload hx hb dX4_refsAre_37 (lv_at hl 4 rfl) ?_
      obtain ⟨y36, ey36, iy36, h⟩ := rdI_e h
      refine ya_iald hx hb hK hP 78 0 CW_78 rfl ey36 iy36 dX4_refsAre_39 ?_
      refine lv_if_lt (tgt := 56) hx hb dX4_refsAre_40 (by decide) (fun c37 => ?_) (fun c37 => ?_)
      · have h := if_t c37 h
        exact J56 (x31, s32) _ _ _ ⟨hP, hS, lv_sub hl [0, 1, 2, 3, 4] rfl, h⟩
      · have h := if_f c37 h
        refine lv_aload_n hx hb dX4_refsAre_43 rfl (lv_at hl 0 rfl) ?_
        refine va_get (D := D) (ci := 4) (v := .ref (a 20)) (C := RX4) (T := TX4) (N := 6) hx hb ht inX4 hown hK hP 16 CW_16 rfl 5 (by decide) (ht (.fieldLink RX4 21 "CloneVolumes$Picture" "refs" "[I") fl_X4_21) (fun _ h9 => h9) rfl dX4_refsAre_44 ?_
        refine lv_aload_n hx hb dX4_refsAre_47 rfl (lv_at hl 3 rfl) ?_
        refine lv_iload hx hb dX4_refsAre_48 (lv_at hl 4 rfl) ?_
        obtain ⟨y38, ey38, iy38, h⟩ := rdI_e h
        refine ya_iald hx hb hK hP 78 0 CW_78 rfl ey38 iy38 dX4_refsAre_50 ?_
        refine lv_dup2_11 hx hb dX4_refsAre_51 rfl rfl ?_
        obtain ⟨y39, ey39, iy39, h⟩ := rdI_e h
        refine ya_iald hx hb hK hP 20 0 CW_20 rfl ey39 iy39 dX4_refsAre_52 ?_
        refine lv_iconst (v := 1) hx hb dX4_refsAre_53 (by decide) ?_
        refine lv_iadd hx hb dX4_refsAre_54 ?_
        obtain ⟨hi40, h⟩ := inb_e h
        refine ya_iast hx hb hK hP (hDD _) hS 20 0 CW_20 rfl hi40 dX4_refsAre_55 (CW_w20 _) (fun H locs hP hS => ?_)
        obtain ⟨s41, hs41, h⟩ := st_e h
        rw [hs41] at hP
        exact J56 (x31, s41) _ _ _ ⟨hP, hS, lv_sub hl [0, 1, 2, 3, 4] rfl, h⟩
  refine y_loop (pcJ := 3) (σ := Int32 × MS) (fun n u H locs ls => va_P D vwCl (CS D a u.2) H ∧ va_S A s₀.heap H locs ∧ lv_has ls 7 [(0, .ref (a 16)), (1, .ref (a 71)), (2, .ref (a 72)), (3, .ref (a 78)), (4, .int u.1)] ∧ m_x4_refsAre_L3 n u.1 u.2 = some o) (fun u => []) (fun u H locs ls hI => by obtain ⟨_, _, _, h⟩ := hI; cases h) (fun n3 ih3 u H locs ls hI => ?_) (fun J3 => ?_)
  · obtain ⟨hP, hS, hl, h⟩ := hI
    obtain ⟨x42, s43⟩ := u
    have hP : va_P D vwCl (CS D a s43) H := hP
    have hl : lv_has ls 7 [(0, .ref (a 16)), (1, .ref (a 71)), (2, .ref (a 72)), (3, .ref (a 78)), (4, .int x42)] := hl
    have h : m_x4_refsAre_b3 (m_x4_refsAre_L3 n3) x42 s43 = some o := h
    unfold m_x4_refsAre_b3 at h
    refine lv_iload hx hb dX4_refsAre_3 (lv_at hl 4 rfl) ?_
    refine lv_aload_n hx hb dX4_refsAre_5 rfl (lv_at hl 1 rfl) ?_
    refine va_get (D := D) (ci := 8) (v := .int (gI s43 1420)) (C := RX8) (T := TX8) (N := 11) hx hb ht inX8 hown hK hP 71 CW_71 rfl 0 (by decide) (ht (.fieldLink RX4 51 "CloneVolumes$State" "blocks" "I") fl_X4_51) (fun _ h9 => h9) rfl dX4_refsAre_6 ?_
    refine lv_icmp_ge (tgt := 26) hx hb dX4_refsAre_9 (by decide) (fun c44 => ?_) (fun c44 => ?_)
    · have h := if_t c44 h
      refine lv_iconst (v := 0) hx hb dX4_refsAre_26 (by decide) ?_
      refine lv_istore (lv' := [(4, .int 0), (0, .ref (a 16)), (1, .ref (a 71)), (2, .ref (a 72)), (3, .ref (a 78))]) hx hb dX4_refsAre_27 hl (by decide) rfl (fun ls hl => ?_)
      exact J29 FU (0, s43) _ _ _ ⟨hP, hS, lv_sub hl [1, 2, 3, 4, 0] rfl, h⟩
    · have h := if_f c44 h
      refine lv_aload_n hx hb dX4_refsAre_12 rfl (lv_at hl 0 rfl) ?_
      refine va_get (D := D) (ci := 4) (v := .ref (a 20)) (C := RX4) (T := TX4) (N := 6) hx hb ht inX4 hown hK hP 16 CW_16 rfl 5 (by decide) (ht (.fieldLink RX4 21 "CloneVolumes$Picture" "refs" "[I") fl_X4_21) (fun _ h9 => h9) rfl dX4_refsAre_13 ?_
      refine lv_iload hx hb dX4_refsAre_16 (lv_at hl 4 rfl) ?_
      refine lv_iconst (v := 0) hx hb dX4_refsAre_18 (by decide) ?_
      obtain ⟨hi45, h⟩ := inb_e h
      refine ya_iast hx hb hK hP (hDD _) hS 20 0 CW_20 rfl hi45 dX4_refsAre_19 (CW_w20 _) (fun H locs hP hS => ?_)
      obtain ⟨s46, hs46, h⟩ := st_e h
      rw [hs46] at hP
      refine lv_iinc (v := x42 + 1) (lv' := [(4, .int (x42 + 1)), (0, .ref (a 16)), (1, .ref (a 71)), (2, .ref (a 72)), (3, .ref (a 78))]) hx hb dX4_refsAre_20 hl (k := 4) rfl rfl (by decide) rfl (fun ls hl => ?_)
      refine lv_goto (tgt := 3) hx hb dX4_refsAre_23 (by decide) ?_
      exact ih3 (x42 + 1, s46) _ _ _ ⟨hP, hS, lv_sub hl [1, 2, 3, 4, 0] rfl, h⟩
  refine lv_iconst (v := 0) hx hb dX4_refsAre_0 (by decide) ?_
  refine lv_istore (lv' := [(4, .int 0), (0, .ref (a 16)), (1, .ref (a 71)), (2, .ref (a 72)), (3, .ref (a 78))]) hx hb dX4_refsAre_1 hl (by decide) rfl (fun ls hl => ?_)
  exact J3 FU (0, s) _ _ _ ⟨hP, hS, lv_sub hl [1, 2, 3, 4, 0] rfl, h⟩
