theorem ck_X4_37 : Cond.constant RX4 37 65535 ∈ lw_gd := zm (lw_g_6 (List.mem_of_getElem? (i := 61) (by decide +kernel))) rfl
theorem co_X4_add : Cond.code yX4_add cX4_add 2 none ∈ lw_gd := zm (lw_g_6 (List.mem_of_getElem? (i := 60) (by decide +kernel))) rfl
theorem co_X4_addPair : Cond.code yX4_addPair cX4_addPair 2 none ∈ lw_gd := zm (lw_g_6 (List.mem_of_getElem? (i := 65) (by decide +kernel))) rfl
theorem co_X4_draw : Cond.code yX4_draw cX4_draw 3 (some .int) ∈ lw_gd := zm (lw_g_6 (List.mem_of_getElem? (i := 56) (by decide +kernel))) rfl
theorem co_X4_drawBlock : Cond.code yX4_drawBlock cX4_drawBlock 4 none ∈ lw_gd := zm (lw_g_6 (List.mem_of_getElem? (i := 73) (by decide +kernel))) rfl
theorem co_X4_isSoundChild : Cond.code yX4_isSoundChild cX4_isSoundChild 5 (some .boolean) ∈ lw_gd := zm (lw_g_6 (List.mem_of_getElem? (i := 125) (by decide +kernel))) rfl
theorem co_X4_rootByte : Cond.code yX4_rootByte cX4_rootByte 1 (some .int) ∈ lw_gd := zm (lw_g_6 (List.mem_of_getElem? (i := 68) (by decide +kernel))) rfl
theorem co_X4_seal : Cond.code yX4_seal cX4_seal 4 (some .int) ∈ lw_gd := zm (lw_g_6 (List.mem_of_getElem? (i := 77) (by decide +kernel))) rfl
theorem fl_X11_339 : Cond.fieldLink RX11 339 "CloneVolumes$Picture" "size" "I" ∈ lw_gd := zm (lw_g_1 (List.mem_of_getElem? (i := 206) (by decide +kernel))) rfl
theorem fl_X11_342 : Cond.fieldLink RX11 342 "CloneVolumes$Picture" "bytes" "[I" ∈ lw_gd := zm (lw_g_1 (List.mem_of_getElem? (i := 204) (by decide +kernel))) rfl
theorem fl_X4_28 : Cond.fieldLink RX4 28 "CloneVolumes$State" "spent" "I" ∈ lw_gd := zm (lw_g_2 (List.mem_of_getElem? (i := 122) (by decide +kernel))) rfl
theorem fl_X4_41 : Cond.fieldLink RX4 41 "CloneVolumes$State" "roots" "[I" ∈ lw_gd := zm (lw_g_2 (List.mem_of_getElem? (i := 157) (by decide +kernel))) rfl
theorem fl_X4_48 : Cond.fieldLink RX4 48 "CloneVolumes$State" "savedRoots" "[I" ∈ lw_gd := zm (lw_g_2 (List.mem_of_getElem? (i := 162) (by decide +kernel))) rfl
theorem fl_X4_51 : Cond.fieldLink RX4 51 "CloneVolumes$State" "blocks" "I" ∈ lw_gd := zm (lw_g_2 (List.mem_of_getElem? (i := 117) (by decide +kernel))) rfl
theorem fl_X4_54 : Cond.fieldLink RX4 54 "CloneVolumes$State" "count" "[I" ∈ lw_gd := zm (lw_g_2 (List.mem_of_getElem? (i := 128) (by decide +kernel))) rfl
theorem fl_X4_57 : Cond.fieldLink RX4 57 "CloneVolumes$State" "saved" "[I" ∈ lw_gd := zm (lw_g_2 (List.mem_of_getElem? (i := 133) (by decide +kernel))) rfl
theorem fl_X4_72 : Cond.fieldLink RX4 72 "CloneVolumes$State" "level" "[I" ∈ lw_gd := zm (lw_g_2 (List.mem_of_getElem? (i := 138) (by decide +kernel))) rfl
theorem fl_X4_75 : Cond.fieldLink RX4 75 "CloneVolumes$State" "size" "[I" ∈ lw_gd := zm (lw_g_2 (List.mem_of_getElem? (i := 143) (by decide +kernel))) rfl
theorem fl_X4_77 : Cond.fieldLink RX4 77 "CloneVolumes$State" "keys" "[I" ∈ lw_gd := zm (lw_g_2 (List.mem_of_getElem? (i := 146) (by decide +kernel))) rfl
theorem fl_X4_84 : Cond.fieldLink RX4 84 "CloneVolumes$State" "values" "[I" ∈ lw_gd := zm (lw_g_2 (List.mem_of_getElem? (i := 153) (by decide +kernel))) rfl
theorem im_X4_add : Cond.instanceMethod yX4_add ∈ lw_gd := zm (lw_g_6 (List.mem_of_getElem? (i := 59) (by decide +kernel))) rfl
theorem im_X4_addPair : Cond.instanceMethod yX4_addPair ∈ lw_gd := zm (lw_g_6 (List.mem_of_getElem? (i := 64) (by decide +kernel))) rfl
theorem im_X4_draw : Cond.instanceMethod yX4_draw ∈ lw_gd := zm (lw_g_6 (List.mem_of_getElem? (i := 54) (by decide +kernel))) rfl
theorem im_X4_drawBlock : Cond.instanceMethod yX4_drawBlock ∈ lw_gd := zm (lw_g_6 (List.mem_of_getElem? (i := 72) (by decide +kernel))) rfl
theorem im_X4_isSoundChild : Cond.instanceMethod yX4_isSoundChild ∈ lw_gd := zm (lw_g_6 (List.mem_of_getElem? (i := 124) (by decide +kernel))) rfl
theorem ml_X11_336 : Cond.methodLink RX11 336 yX4_draw ∈ lw_gd := zm (lw_g_6 (List.mem_of_getElem? (i := 53) (by decide +kernel))) rfl
theorem ml_X4_136 : Cond.methodLink RX4 136 yX4_isSoundChild ∈ lw_gd := zm (lw_g_6 (List.mem_of_getElem? (i := 122) (by decide +kernel))) rfl
theorem ml_X4_140 : Cond.methodLink RX4 140 yX8_isBlock ∈ lw_gd := zm (lw_g_6 (List.mem_of_getElem? (i := 126) (by decide +kernel))) rfl
theorem ml_X4_33 : Cond.methodLink RX4 33 yX4_add ∈ lw_gd := zm (lw_g_6 (List.mem_of_getElem? (i := 57) (by decide +kernel))) rfl
theorem ml_X4_38 : Cond.methodLink RX4 38 yX4_addPair ∈ lw_gd := zm (lw_g_6 (List.mem_of_getElem? (i := 62) (by decide +kernel))) rfl
theorem ml_X4_44 : Cond.methodLink RX4 44 yX4_rootByte ∈ lw_gd := zm (lw_g_6 (List.mem_of_getElem? (i := 66) (by decide +kernel))) rfl
theorem ml_X4_60 : Cond.methodLink RX4 60 yX8_isFree ∈ lw_gd := zm (lw_g_6 (List.mem_of_getElem? (i := 69) (by decide +kernel))) rfl
theorem ml_X4_64 : Cond.methodLink RX4 64 yX4_drawBlock ∈ lw_gd := zm (lw_g_6 (List.mem_of_getElem? (i := 70) (by decide +kernel))) rfl
theorem ml_X4_68 : Cond.methodLink RX4 68 yX4_seal ∈ lw_gd := zm (lw_g_6 (List.mem_of_getElem? (i := 75) (by decide +kernel))) rfl
theorem ml_X4_80 : Cond.methodLink RX4 80 yX8_slot ∈ lw_gd := zm (lw_g_6 (List.mem_of_getElem? (i := 74) (by decide +kernel))) rfl
theorem se_X4_add : Cond.selects RX4 yX4_add yX4_add ∈ lw_gd := zm (List.mem_of_getElem? (i := 58) (by decide +kernel)) rfl
theorem se_X4_addPair : Cond.selects RX4 yX4_addPair yX4_addPair ∈ lw_gd := zm (List.mem_of_getElem? (i := 59) (by decide +kernel)) rfl
theorem se_X4_draw : Cond.selects RX4 yX4_draw yX4_draw ∈ lw_gd := zm (lw_g_6 (List.mem_of_getElem? (i := 55) (by decide +kernel))) rfl
theorem se_X4_drawBlock : Cond.selects RX4 yX4_drawBlock yX4_drawBlock ∈ lw_gd := zm (List.mem_of_getElem? (i := 60) (by decide +kernel)) rfl
theorem se_X4_isSoundChild : Cond.selects RX4 yX4_isSoundChild yX4_isSoundChild ∈ lw_gd := zm (List.mem_of_getElem? (i := 67) (by decide +kernel)) rfl
theorem st_X4_rootByte : Cond.static yX4_rootByte ∈ lw_gd := zm (lw_g_6 (List.mem_of_getElem? (i := 67) (by decide +kernel))) rfl
theorem st_X4_seal : Cond.static yX4_seal ∈ lw_gd := zm (lw_g_6 (List.mem_of_getElem? (i := 76) (by decide +kernel))) rfl
theorem eX11_image_0 : decode cX11_image 0 = .ok (.aload_n 0, 1) ∧ decode cX11_image 1 = .ok (.getfield 42, 3) ∧ decode cX11_image 4 = .ok (.aload_n 0, 1) ∧ decode cX11_image 5 = .ok (.getfield 79, 3) ∧ decode cX11_image 8 = .ok (.getfield 125, 3) ∧ decode cX11_image 11 = .ok (.invokevirtual 336, 3) ∧ decode cX11_image 14 = .ok (.ireturn, 1) ∧ decode cX11_octet 0 = .ok (.iload_n 1, 1) := by decide +kernel
theorem eX11_octet_1 : decode cX11_octet 1 = .ok (.ifCond .lt 26, 3) ∧ decode cX11_octet 4 = .ok (.iload_n 1, 1) ∧ decode cX11_octet 5 = .ok (.aload_n 0, 1) ∧ decode cX11_octet 6 = .ok (.getfield 42, 3) ∧ decode cX11_octet 9 = .ok (.getfield 339, 3) ∧ decode cX11_octet 12 = .ok (.if_icmp .ge 15, 3) ∧ decode cX11_octet 15 = .ok (.aload_n 0, 1) ∧ decode cX11_octet 16 = .ok (.getfield 42, 3) := by decide +kernel
theorem eX11_octet_19 : decode cX11_octet 19 = .ok (.getfield 342, 3) ∧ decode cX11_octet 22 = .ok (.iload_n 1, 1) ∧ decode cX11_octet 23 = .ok (.iaload, 1) ∧ decode cX11_octet 24 = .ok (.goto 4, 3) ∧ decode cX11_octet 27 = .ok (.iconst (-1), 1) ∧ decode cX11_octet 28 = .ok (.ireturn, 1) ∧ decode cX2_clear 0 = .ok (.aload_n 0, 1) ∧ decode cX2_clear 1 = .ok (.iconst 0, 1) := by decide +kernel
theorem eX2_clear_2 : decode cX2_clear 2 = .ok (.putfield 27, 3) ∧ decode cX2_clear 5 = .ok (.aload_n 0, 1) ∧ decode cX2_clear 6 = .ok (.iconst 0, 1) ∧ decode cX2_clear 7 = .ok (.putfield 31, 3) ∧ decode cX2_clear 10 = .ok (.return_, 1) ∧ decode cX4_addPair 0 = .ok (.aload_n 0, 1) ∧ decode cX4_addPair 1 = .ok (.iload_n 1, 1) ∧ decode cX4_addPair 2 = .ok (.bipush 8, 2) := by decide +kernel
theorem eX4_addPair_4 : decode cX4_addPair 4 = .ok (.iushr, 1) ∧ decode cX4_addPair 5 = .ok (.invokevirtual 33, 3) ∧ decode cX4_addPair 8 = .ok (.aload_n 0, 1) ∧ decode cX4_addPair 9 = .ok (.iload_n 1, 1) ∧ decode cX4_addPair 10 = .ok (.invokevirtual 33, 3) ∧ decode cX4_addPair 13 = .ok (.return_, 1) ∧ decode cX4_draw 0 = .ok (.aload_n 0, 1) ∧ decode cX4_draw 1 = .ok (.iconst 0, 1) := by decide +kernel
theorem eX4_draw_2 : decode cX4_draw 2 = .ok (.putfield 24, 3) ∧ decode cX4_draw 5 = .ok (.aload_n 0, 1) ∧ decode cX4_draw 6 = .ok (.aload_n 1, 1) ∧ decode cX4_draw 7 = .ok (.getfield 28, 3) ∧ decode cX4_draw 10 = .ok (.bipush 16, 2) ∧ decode cX4_draw 12 = .ok (.iushr, 1) ∧ decode cX4_draw 13 = .ok (.invokevirtual 33, 3) ∧ decode cX4_draw 16 = .ok (.aload_n 0, 1) := by decide +kernel
theorem eX4_draw_17 : decode cX4_draw 17 = .ok (.aload_n 1, 1) ∧ decode cX4_draw 18 = .ok (.getfield 28, 3) ∧ decode cX4_draw 21 = .ok (.ldc 37, 2) ∧ decode cX4_draw 23 = .ok (.iand, 1) ∧ decode cX4_draw 24 = .ok (.invokevirtual 38, 3) ∧ decode cX4_draw 27 = .ok (.iconst 0, 1) ∧ decode cX4_draw 28 = .ok (.istore_n 2, 1) ∧ decode cX4_draw 29 = .ok (.iload_n 2, 1) := by decide +kernel
theorem eX4_draw_30 : decode cX4_draw 30 = .ok (.bipush 8, 2) ∧ decode cX4_draw 32 = .ok (.if_icmp .ge 35, 3) ∧ decode cX4_draw 35 = .ok (.aload_n 0, 1) ∧ decode cX4_draw 36 = .ok (.aload_n 1, 1) ∧ decode cX4_draw 37 = .ok (.getfield 41, 3) ∧ decode cX4_draw 40 = .ok (.iload_n 2, 1) ∧ decode cX4_draw 41 = .ok (.iaload, 1) ∧ decode cX4_draw 42 = .ok (.invokestatic 44, 3) := by decide +kernel
theorem eX4_draw_45 : decode cX4_draw 45 = .ok (.invokevirtual 33, 3) ∧ decode cX4_draw 48 = .ok (.aload_n 0, 1) ∧ decode cX4_draw 49 = .ok (.aload_n 1, 1) ∧ decode cX4_draw 50 = .ok (.getfield 48, 3) ∧ decode cX4_draw 53 = .ok (.iload_n 2, 1) ∧ decode cX4_draw 54 = .ok (.iaload, 1) ∧ decode cX4_draw 55 = .ok (.invokestatic 44, 3) ∧ decode cX4_draw 58 = .ok (.invokevirtual 33, 3) := by decide +kernel
theorem eX4_draw_61 : decode cX4_draw 61 = .ok (.iinc 2 1, 3) ∧ decode cX4_draw 64 = .ok (.goto (-35), 3) ∧ decode cX4_draw 67 = .ok (.iconst 0, 1) ∧ decode cX4_draw 68 = .ok (.istore_n 2, 1) ∧ decode cX4_draw 69 = .ok (.iload_n 2, 1) ∧ decode cX4_draw 70 = .ok (.aload_n 1, 1) ∧ decode cX4_draw 71 = .ok (.getfield 51, 3) ∧ decode cX4_draw 74 = .ok (.if_icmp .ge 43, 3) := by decide +kernel
theorem eX4_draw_77 : decode cX4_draw 77 = .ok (.aload_n 0, 1) ∧ decode cX4_draw 78 = .ok (.aload_n 1, 1) ∧ decode cX4_draw 79 = .ok (.getfield 54, 3) ∧ decode cX4_draw 82 = .ok (.iload_n 2, 1) ∧ decode cX4_draw 83 = .ok (.iaload, 1) ∧ decode cX4_draw 84 = .ok (.invokevirtual 33, 3) ∧ decode cX4_draw 87 = .ok (.aload_n 0, 1) ∧ decode cX4_draw 88 = .ok (.aload_n 1, 1) := by decide +kernel
theorem eX4_draw_89 : decode cX4_draw 89 = .ok (.getfield 57, 3) ∧ decode cX4_draw 92 = .ok (.iload_n 2, 1) ∧ decode cX4_draw 93 = .ok (.iaload, 1) ∧ decode cX4_draw 94 = .ok (.invokevirtual 33, 3) ∧ decode cX4_draw 97 = .ok (.aload_n 1, 1) ∧ decode cX4_draw 98 = .ok (.iload_n 2, 1) ∧ decode cX4_draw 99 = .ok (.invokevirtual 60, 3) ∧ decode cX4_draw 102 = .ok (.ifCond .ne 9, 3) := by decide +kernel
theorem eX4_draw_105 : decode cX4_draw 105 = .ok (.aload_n 0, 1) ∧ decode cX4_draw 106 = .ok (.aload_n 1, 1) ∧ decode cX4_draw 107 = .ok (.iload_n 2, 1) ∧ decode cX4_draw 108 = .ok (.invokevirtual 64, 3) ∧ decode cX4_draw 111 = .ok (.iinc 2 1, 3) ∧ decode cX4_draw 114 = .ok (.goto (-45), 3) ∧ decode cX4_draw 117 = .ok (.aload_n 0, 1) ∧ decode cX4_draw 118 = .ok (.getfield 11, 3) := by decide +kernel
theorem eX4_draw_121 : decode cX4_draw 121 = .ok (.aload_n 0, 1) ∧ decode cX4_draw 122 = .ok (.getfield 24, 3) ∧ decode cX4_draw 125 = .ok (.invokestatic 68, 3) ∧ decode cX4_draw 128 = .ok (.istore_n 2, 1) ∧ decode cX4_draw 129 = .ok (.aload_n 0, 1) ∧ decode cX4_draw 130 = .ok (.iload_n 2, 1) ∧ decode cX4_draw 131 = .ok (.invokevirtual 33, 3) ∧ decode cX4_draw 134 = .ok (.aload_n 0, 1) := by decide +kernel
theorem eX4_draw_135 : decode cX4_draw 135 = .ok (.getfield 24, 3) ∧ decode cX4_draw 138 = .ok (.ireturn, 1) ∧ decode cX4_drawBlock 0 = .ok (.aload_n 0, 1) ∧ decode cX4_drawBlock 1 = .ok (.aload_n 1, 1) ∧ decode cX4_drawBlock 2 = .ok (.getfield 72, 3) ∧ decode cX4_drawBlock 5 = .ok (.iload_n 2, 1) ∧ decode cX4_drawBlock 6 = .ok (.iaload, 1) ∧ decode cX4_drawBlock 7 = .ok (.invokevirtual 33, 3) := by decide +kernel
theorem eX4_drawBlock_10 : decode cX4_drawBlock 10 = .ok (.aload_n 0, 1) ∧ decode cX4_drawBlock 11 = .ok (.aload_n 1, 1) ∧ decode cX4_drawBlock 12 = .ok (.getfield 75, 3) ∧ decode cX4_drawBlock 15 = .ok (.iload_n 2, 1) ∧ decode cX4_drawBlock 16 = .ok (.iaload, 1) ∧ decode cX4_drawBlock 17 = .ok (.invokevirtual 33, 3) ∧ decode cX4_drawBlock 20 = .ok (.iconst 0, 1) ∧ decode cX4_drawBlock 21 = .ok (.istore_n 3, 1) := by decide +kernel
theorem eX4_drawBlock_22 : decode cX4_drawBlock 22 = .ok (.iload_n 3, 1) ∧ decode cX4_drawBlock 23 = .ok (.aload_n 1, 1) ∧ decode cX4_drawBlock 24 = .ok (.getfield 75, 3) ∧ decode cX4_drawBlock 27 = .ok (.iload_n 2, 1) ∧ decode cX4_drawBlock 28 = .ok (.iaload, 1) ∧ decode cX4_drawBlock 29 = .ok (.if_icmp .ge 39, 3) ∧ decode cX4_drawBlock 32 = .ok (.aload_n 0, 1) ∧ decode cX4_drawBlock 33 = .ok (.aload_n 1, 1) := by decide +kernel
theorem eX4_drawBlock_34 : decode cX4_drawBlock 34 = .ok (.getfield 77, 3) ∧ decode cX4_drawBlock 37 = .ok (.aload_n 1, 1) ∧ decode cX4_drawBlock 38 = .ok (.iload_n 2, 1) ∧ decode cX4_drawBlock 39 = .ok (.iload_n 3, 1) ∧ decode cX4_drawBlock 40 = .ok (.invokevirtual 80, 3) ∧ decode cX4_drawBlock 43 = .ok (.iaload, 1) ∧ decode cX4_drawBlock 44 = .ok (.invokevirtual 38, 3) ∧ decode cX4_drawBlock 47 = .ok (.aload_n 0, 1) := by decide +kernel
theorem eX4_drawBlock_48 : decode cX4_drawBlock 48 = .ok (.aload_n 1, 1) ∧ decode cX4_drawBlock 49 = .ok (.getfield 84, 3) ∧ decode cX4_drawBlock 52 = .ok (.aload_n 1, 1) ∧ decode cX4_drawBlock 53 = .ok (.iload_n 2, 1) ∧ decode cX4_drawBlock 54 = .ok (.iload_n 3, 1) ∧ decode cX4_drawBlock 55 = .ok (.invokevirtual 80, 3) ∧ decode cX4_drawBlock 58 = .ok (.iaload, 1) ∧ decode cX4_drawBlock 59 = .ok (.invokevirtual 38, 3) := by decide +kernel
theorem eX4_drawBlock_62 : decode cX4_drawBlock 62 = .ok (.iinc 3 1, 3) ∧ decode cX4_drawBlock 65 = .ok (.goto (-43), 3) ∧ decode cX4_drawBlock 68 = .ok (.return_, 1) ∧ decode cX4_isSoundBlock 0 = .ok (.aload_n 1, 1) ∧ decode cX4_isSoundBlock 1 = .ok (.getfield 75, 3) ∧ decode cX4_isSoundBlock 4 = .ok (.iload_n 2, 1) ∧ decode cX4_isSoundBlock 5 = .ok (.iaload, 1) ∧ decode cX4_isSoundBlock 6 = .ok (.iconst 1, 1) := by decide +kernel
theorem eX4_isSoundBlock_7 : decode cX4_isSoundBlock 7 = .ok (.isub, 1) ∧ decode cX4_isSoundBlock 8 = .ok (.istore_n 3, 1) ∧ decode cX4_isSoundBlock 9 = .ok (.aload_n 1, 1) ∧ decode cX4_isSoundBlock 10 = .ok (.getfield 72, 3) ∧ decode cX4_isSoundBlock 13 = .ok (.iload_n 2, 1) ∧ decode cX4_isSoundBlock 14 = .ok (.iaload, 1) ∧ decode cX4_isSoundBlock 15 = .ok (.ifCond .ne 7, 3) ∧ decode cX4_isSoundBlock 18 = .ok (.iconst 0, 1) := by decide +kernel
theorem eX4_isSoundBlock_19 : decode cX4_isSoundBlock 19 = .ok (.goto 4, 3) ∧ decode cX4_isSoundBlock 22 = .ok (.iconst 1, 1) ∧ decode cX4_isSoundBlock 23 = .ok (.istore 4, 2) ∧ decode cX4_isSoundBlock 25 = .ok (.iload 4, 2) ∧ decode cX4_isSoundBlock 27 = .ok (.istore 5, 2) ∧ decode cX4_isSoundBlock 29 = .ok (.iload 5, 2) ∧ decode cX4_isSoundBlock 31 = .ok (.iload_n 3, 1) ∧ decode cX4_isSoundBlock 32 = .ok (.if_icmp .ge 40, 3) := by decide +kernel
theorem eX4_isSoundBlock_35 : decode cX4_isSoundBlock 35 = .ok (.aload_n 1, 1) ∧ decode cX4_isSoundBlock 36 = .ok (.getfield 77, 3) ∧ decode cX4_isSoundBlock 39 = .ok (.aload_n 1, 1) ∧ decode cX4_isSoundBlock 40 = .ok (.iload_n 2, 1) ∧ decode cX4_isSoundBlock 41 = .ok (.iload 5, 2) ∧ decode cX4_isSoundBlock 43 = .ok (.invokevirtual 80, 3) ∧ decode cX4_isSoundBlock 46 = .ok (.iaload, 1) ∧ decode cX4_isSoundBlock 47 = .ok (.aload_n 1, 1) := by decide +kernel
theorem eX4_isSoundBlock_48 : decode cX4_isSoundBlock 48 = .ok (.getfield 77, 3) ∧ decode cX4_isSoundBlock 51 = .ok (.aload_n 1, 1) ∧ decode cX4_isSoundBlock 52 = .ok (.iload_n 2, 1) ∧ decode cX4_isSoundBlock 53 = .ok (.iload 5, 2) ∧ decode cX4_isSoundBlock 55 = .ok (.iconst 1, 1) ∧ decode cX4_isSoundBlock 56 = .ok (.iadd, 1) ∧ decode cX4_isSoundBlock 57 = .ok (.invokevirtual 80, 3) ∧ decode cX4_isSoundBlock 60 = .ok (.iaload, 1) := by decide +kernel
theorem eX4_isSoundBlock_61 : decode cX4_isSoundBlock 61 = .ok (.if_icmp .lt 5, 3) ∧ decode cX4_isSoundBlock 64 = .ok (.iconst 0, 1) ∧ decode cX4_isSoundBlock 65 = .ok (.ireturn, 1) ∧ decode cX4_isSoundBlock 66 = .ok (.iinc 5 1, 3) ∧ decode cX4_isSoundBlock 69 = .ok (.goto (-40), 3) ∧ decode cX4_isSoundBlock 72 = .ok (.aload_n 1, 1) ∧ decode cX4_isSoundBlock 73 = .ok (.getfield 72, 3) ∧ decode cX4_isSoundBlock 76 = .ok (.iload_n 2, 1) := by decide +kernel
theorem eX4_isSoundBlock_77 : decode cX4_isSoundBlock 77 = .ok (.iaload, 1) ∧ decode cX4_isSoundBlock 78 = .ok (.ifCond .ne 39, 3) ∧ decode cX4_isSoundBlock 81 = .ok (.aload_n 0, 1) ∧ decode cX4_isSoundBlock 82 = .ok (.getfield 15, 3) ∧ decode cX4_isSoundBlock 85 = .ok (.iload_n 2, 1) ∧ decode cX4_isSoundBlock 86 = .ok (.aload_n 1, 1) ∧ decode cX4_isSoundBlock 87 = .ok (.getfield 77, 3) ∧ decode cX4_isSoundBlock 90 = .ok (.aload_n 1, 1) := by decide +kernel
theorem eX4_isSoundBlock_91 : decode cX4_isSoundBlock 91 = .ok (.iload_n 2, 1) ∧ decode cX4_isSoundBlock 92 = .ok (.iconst 0, 1) ∧ decode cX4_isSoundBlock 93 = .ok (.invokevirtual 80, 3) ∧ decode cX4_isSoundBlock 96 = .ok (.iaload, 1) ∧ decode cX4_isSoundBlock 97 = .ok (.iastore, 1) ∧ decode cX4_isSoundBlock 98 = .ok (.aload_n 0, 1) ∧ decode cX4_isSoundBlock 99 = .ok (.getfield 18, 3) ∧ decode cX4_isSoundBlock 102 = .ok (.iload_n 2, 1) := by decide +kernel
theorem eX4_isSoundBlock_103 : decode cX4_isSoundBlock 103 = .ok (.aload_n 1, 1) ∧ decode cX4_isSoundBlock 104 = .ok (.getfield 77, 3) ∧ decode cX4_isSoundBlock 107 = .ok (.aload_n 1, 1) ∧ decode cX4_isSoundBlock 108 = .ok (.iload_n 2, 1) ∧ decode cX4_isSoundBlock 109 = .ok (.iload_n 3, 1) ∧ decode cX4_isSoundBlock 110 = .ok (.invokevirtual 80, 3) ∧ decode cX4_isSoundBlock 113 = .ok (.iaload, 1) ∧ decode cX4_isSoundBlock 114 = .ok (.iastore, 1) := by decide +kernel
theorem eX4_isSoundBlock_115 : decode cX4_isSoundBlock 115 = .ok (.iconst 1, 1) ∧ decode cX4_isSoundBlock 116 = .ok (.ireturn, 1) ∧ decode cX4_isSoundBlock 117 = .ok (.iconst 0, 1) ∧ decode cX4_isSoundBlock 118 = .ok (.istore 5, 2) ∧ decode cX4_isSoundBlock 120 = .ok (.iload 5, 2) ∧ decode cX4_isSoundBlock 122 = .ok (.iload_n 3, 1) ∧ decode cX4_isSoundBlock 123 = .ok (.if_icmp .gt 22, 3) ∧ decode cX4_isSoundBlock 126 = .ok (.aload_n 0, 1) := by decide +kernel
theorem eX4_isSoundBlock_127 : decode cX4_isSoundBlock 127 = .ok (.aload_n 1, 1) ∧ decode cX4_isSoundBlock 128 = .ok (.iload_n 2, 1) ∧ decode cX4_isSoundBlock 129 = .ok (.iload 5, 2) ∧ decode cX4_isSoundBlock 131 = .ok (.invokevirtual 136, 3) ∧ decode cX4_isSoundBlock 134 = .ok (.ifCond .ne 5, 3) ∧ decode cX4_isSoundBlock 137 = .ok (.iconst 0, 1) ∧ decode cX4_isSoundBlock 138 = .ok (.ireturn, 1) ∧ decode cX4_isSoundBlock 139 = .ok (.iinc 5 1, 3) := by decide +kernel
theorem eX4_isSoundBlock_142 : decode cX4_isSoundBlock 142 = .ok (.goto (-22), 3) ∧ decode cX4_isSoundBlock 145 = .ok (.aload_n 0, 1) ∧ decode cX4_isSoundBlock 146 = .ok (.getfield 15, 3) ∧ decode cX4_isSoundBlock 149 = .ok (.iload_n 2, 1) ∧ decode cX4_isSoundBlock 150 = .ok (.aload_n 0, 1) ∧ decode cX4_isSoundBlock 151 = .ok (.getfield 15, 3) ∧ decode cX4_isSoundBlock 154 = .ok (.aload_n 1, 1) ∧ decode cX4_isSoundBlock 155 = .ok (.getfield 84, 3) := by decide +kernel
theorem eX4_isSoundBlock_158 : decode cX4_isSoundBlock 158 = .ok (.aload_n 1, 1) ∧ decode cX4_isSoundBlock 159 = .ok (.iload_n 2, 1) ∧ decode cX4_isSoundBlock 160 = .ok (.iconst 0, 1) ∧ decode cX4_isSoundBlock 161 = .ok (.invokevirtual 80, 3) ∧ decode cX4_isSoundBlock 164 = .ok (.iaload, 1) ∧ decode cX4_isSoundBlock 165 = .ok (.iaload, 1) ∧ decode cX4_isSoundBlock 166 = .ok (.iastore, 1) ∧ decode cX4_isSoundBlock 167 = .ok (.aload_n 0, 1) := by decide +kernel
theorem eX4_isSoundBlock_168 : decode cX4_isSoundBlock 168 = .ok (.getfield 18, 3) ∧ decode cX4_isSoundBlock 171 = .ok (.iload_n 2, 1) ∧ decode cX4_isSoundBlock 172 = .ok (.aload_n 0, 1) ∧ decode cX4_isSoundBlock 173 = .ok (.getfield 18, 3) ∧ decode cX4_isSoundBlock 176 = .ok (.aload_n 1, 1) ∧ decode cX4_isSoundBlock 177 = .ok (.getfield 84, 3) ∧ decode cX4_isSoundBlock 180 = .ok (.aload_n 1, 1) ∧ decode cX4_isSoundBlock 181 = .ok (.iload_n 2, 1) := by decide +kernel
theorem eX4_isSoundBlock_182 : decode cX4_isSoundBlock 182 = .ok (.iload_n 3, 1) ∧ decode cX4_isSoundBlock 183 = .ok (.invokevirtual 80, 3) ∧ decode cX4_isSoundBlock 186 = .ok (.iaload, 1) ∧ decode cX4_isSoundBlock 187 = .ok (.iaload, 1) ∧ decode cX4_isSoundBlock 188 = .ok (.iastore, 1) ∧ decode cX4_isSoundBlock 189 = .ok (.iconst 1, 1) ∧ decode cX4_isSoundBlock 190 = .ok (.ireturn, 1) ∧ decode cX4_isSoundChild 0 = .ok (.aload_n 1, 1) := by decide +kernel
theorem eX4_isSoundChild_1 : decode cX4_isSoundChild 1 = .ok (.getfield 84, 3) ∧ decode cX4_isSoundChild 4 = .ok (.aload_n 1, 1) ∧ decode cX4_isSoundChild 5 = .ok (.iload_n 2, 1) ∧ decode cX4_isSoundChild 6 = .ok (.iload_n 3, 1) ∧ decode cX4_isSoundChild 7 = .ok (.invokevirtual 80, 3) ∧ decode cX4_isSoundChild 10 = .ok (.iaload, 1) ∧ decode cX4_isSoundChild 11 = .ok (.istore 4, 2) ∧ decode cX4_isSoundChild 13 = .ok (.aload_n 1, 1) := by decide +kernel
theorem eX4_isSoundChild_14 : decode cX4_isSoundChild 14 = .ok (.iload 4, 2) ∧ decode cX4_isSoundChild 16 = .ok (.invokevirtual 140, 3) ∧ decode cX4_isSoundChild 19 = .ok (.ifCond .eq 30, 3) ∧ decode cX4_isSoundChild 22 = .ok (.aload_n 1, 1) ∧ decode cX4_isSoundChild 23 = .ok (.iload 4, 2) ∧ decode cX4_isSoundChild 25 = .ok (.invokevirtual 60, 3) ∧ decode cX4_isSoundChild 28 = .ok (.ifCond .ne 21, 3) ∧ decode cX4_isSoundChild 31 = .ok (.aload_n 1, 1) := by decide +kernel
theorem eX4_isSoundChild_32 : decode cX4_isSoundChild 32 = .ok (.getfield 72, 3) ∧ decode cX4_isSoundChild 35 = .ok (.iload 4, 2) ∧ decode cX4_isSoundChild 37 = .ok (.iaload, 1) ∧ decode cX4_isSoundChild 38 = .ok (.aload_n 1, 1) ∧ decode cX4_isSoundChild 39 = .ok (.getfield 72, 3) ∧ decode cX4_isSoundChild 42 = .ok (.iload_n 2, 1) ∧ decode cX4_isSoundChild 43 = .ok (.iaload, 1) ∧ decode cX4_isSoundChild 44 = .ok (.iconst 1, 1) := by decide +kernel
theorem eX4_isSoundChild_45 : decode cX4_isSoundChild 45 = .ok (.isub, 1) ∧ decode cX4_isSoundChild 46 = .ok (.if_icmp .eq 5, 3) ∧ decode cX4_isSoundChild 49 = .ok (.iconst 0, 1) ∧ decode cX4_isSoundChild 50 = .ok (.ireturn, 1) ∧ decode cX4_isSoundChild 51 = .ok (.iload_n 3, 1) ∧ decode cX4_isSoundChild 52 = .ok (.ifCond .le 26, 3) ∧ decode cX4_isSoundChild 55 = .ok (.aload_n 0, 1) ∧ decode cX4_isSoundChild 56 = .ok (.getfield 15, 3) := by decide +kernel
theorem eX4_isSoundChild_59 : decode cX4_isSoundChild 59 = .ok (.iload 4, 2) ∧ decode cX4_isSoundChild 61 = .ok (.iaload, 1) ∧ decode cX4_isSoundChild 62 = .ok (.aload_n 1, 1) ∧ decode cX4_isSoundChild 63 = .ok (.getfield 77, 3) ∧ decode cX4_isSoundChild 66 = .ok (.aload_n 1, 1) ∧ decode cX4_isSoundChild 67 = .ok (.iload_n 2, 1) ∧ decode cX4_isSoundChild 68 = .ok (.iload_n 3, 1) ∧ decode cX4_isSoundChild 69 = .ok (.invokevirtual 80, 3) := by decide +kernel
theorem eX4_isSoundChild_72 : decode cX4_isSoundChild 72 = .ok (.iaload, 1) ∧ decode cX4_isSoundChild 73 = .ok (.if_icmp .ge 5, 3) ∧ decode cX4_isSoundChild 76 = .ok (.iconst 0, 1) ∧ decode cX4_isSoundChild 77 = .ok (.ireturn, 1) ∧ decode cX4_isSoundChild 78 = .ok (.iload_n 3, 1) ∧ decode cX4_isSoundChild 79 = .ok (.iconst 1, 1) ∧ decode cX4_isSoundChild 80 = .ok (.iadd, 1) ∧ decode cX4_isSoundChild 81 = .ok (.aload_n 1, 1) := by decide +kernel
theorem eX4_isSoundChild_82 : decode cX4_isSoundChild 82 = .ok (.getfield 75, 3) ∧ decode cX4_isSoundChild 85 = .ok (.iload_n 2, 1) ∧ decode cX4_isSoundChild 86 = .ok (.iaload, 1) ∧ decode cX4_isSoundChild 87 = .ok (.if_icmp .ge 26, 3) ∧ decode cX4_isSoundChild 90 = .ok (.aload_n 0, 1) ∧ decode cX4_isSoundChild 91 = .ok (.getfield 18, 3) ∧ decode cX4_isSoundChild 94 = .ok (.iload 4, 2) ∧ decode cX4_isSoundChild 96 = .ok (.iaload, 1) := by decide +kernel
theorem eX4_isSoundChild_97 : decode cX4_isSoundChild 97 = .ok (.aload_n 1, 1) ∧ decode cX4_isSoundChild 98 = .ok (.getfield 77, 3) ∧ decode cX4_isSoundChild 101 = .ok (.aload_n 1, 1) ∧ decode cX4_isSoundChild 102 = .ok (.iload_n 2, 1) ∧ decode cX4_isSoundChild 103 = .ok (.iload_n 3, 1) ∧ decode cX4_isSoundChild 104 = .ok (.iconst 1, 1) ∧ decode cX4_isSoundChild 105 = .ok (.iadd, 1) ∧ decode cX4_isSoundChild 106 = .ok (.invokevirtual 80, 3) := by decide +kernel
theorem eX4_isSoundChild_109 : decode cX4_isSoundChild 109 = .ok (.iaload, 1) ∧ decode cX4_isSoundChild 110 = .ok (.if_icmp .ge 7, 3) ∧ decode cX4_isSoundChild 113 = .ok (.iconst 1, 1) ∧ decode cX4_isSoundChild 114 = .ok (.goto 4, 3) ∧ decode cX4_isSoundChild 117 = .ok (.iconst 0, 1) ∧ decode cX4_isSoundChild 118 = .ok (.ireturn, 1) ∧ decode cX4_refsAre 0 = .ok (.iconst 0, 1) ∧ decode cX4_refsAre 1 = .ok (.istore 4, 2) := by decide +kernel
theorem eX4_refsAre_3 : decode cX4_refsAre 3 = .ok (.iload 4, 2) ∧ decode cX4_refsAre 5 = .ok (.aload_n 1, 1) ∧ decode cX4_refsAre 6 = .ok (.getfield 51, 3) ∧ decode cX4_refsAre 9 = .ok (.if_icmp .ge 17, 3) ∧ decode cX4_refsAre 12 = .ok (.aload_n 0, 1) ∧ decode cX4_refsAre 13 = .ok (.getfield 21, 3) ∧ decode cX4_refsAre 16 = .ok (.iload 4, 2) ∧ decode cX4_refsAre 18 = .ok (.iconst 0, 1) := by decide +kernel
theorem eX4_refsAre_19 : decode cX4_refsAre 19 = .ok (.iastore, 1) ∧ decode cX4_refsAre 20 = .ok (.iinc 4 1, 3) ∧ decode cX4_refsAre 23 = .ok (.goto (-20), 3) ∧ decode cX4_refsAre 26 = .ok (.iconst 0, 1) ∧ decode cX4_refsAre 27 = .ok (.istore 4, 2) ∧ decode cX4_refsAre 29 = .ok (.iload 4, 2) ∧ decode cX4_refsAre 31 = .ok (.bipush 8, 2) ∧ decode cX4_refsAre 33 = .ok (.if_icmp .ge 29, 3) := by decide +kernel
theorem eX4_refsAre_36 : decode cX4_refsAre 36 = .ok (.aload_n 3, 1) ∧ decode cX4_refsAre 37 = .ok (.iload 4, 2) ∧ decode cX4_refsAre 39 = .ok (.iaload, 1) ∧ decode cX4_refsAre 40 = .ok (.ifCond .lt 16, 3) ∧ decode cX4_refsAre 43 = .ok (.aload_n 0, 1) ∧ decode cX4_refsAre 44 = .ok (.getfield 21, 3) ∧ decode cX4_refsAre 47 = .ok (.aload_n 3, 1) ∧ decode cX4_refsAre 48 = .ok (.iload 4, 2) := by decide +kernel
theorem eX4_refsAre_50 : decode cX4_refsAre 50 = .ok (.iaload, 1) ∧ decode cX4_refsAre 51 = .ok (.dup2, 1) ∧ decode cX4_refsAre 52 = .ok (.iaload, 1) ∧ decode cX4_refsAre 53 = .ok (.iconst 1, 1) ∧ decode cX4_refsAre 54 = .ok (.iadd, 1) ∧ decode cX4_refsAre 55 = .ok (.iastore, 1) ∧ decode cX4_refsAre 56 = .ok (.iinc 4 1, 3) ∧ decode cX4_refsAre 59 = .ok (.goto (-30), 3) := by decide +kernel
theorem eX4_refsAre_62 : decode cX4_refsAre 62 = .ok (.iconst 0, 1) ∧ decode cX4_refsAre 63 = .ok (.istore 4, 2) ∧ decode cX4_refsAre 65 = .ok (.iload 4, 2) ∧ decode cX4_refsAre 67 = .ok (.aload_n 1, 1) ∧ decode cX4_refsAre 68 = .ok (.getfield 51, 3) ∧ decode cX4_refsAre 71 = .ok (.if_icmp .ge 77, 3) ∧ decode cX4_refsAre 74 = .ok (.aload_n 2, 1) ∧ decode cX4_refsAre 75 = .ok (.iload 4, 2) := by decide +kernel
theorem eX4_refsAre_77 : decode cX4_refsAre 77 = .ok (.iaload, 1) ∧ decode cX4_refsAre 78 = .ok (.ifCond .le 23, 3) ∧ decode cX4_refsAre 81 = .ok (.aload_n 1, 1) ∧ decode cX4_refsAre 82 = .ok (.getfield 72, 3) ∧ decode cX4_refsAre 85 = .ok (.iload 4, 2) ∧ decode cX4_refsAre 87 = .ok (.iaload, 1) ∧ decode cX4_refsAre 88 = .ok (.ifCond .le 13, 3) ∧ decode cX4_refsAre 91 = .ok (.aload_n 1, 1) := by decide +kernel
theorem eX4_refsAre_92 : decode cX4_refsAre 92 = .ok (.getfield 75, 3) ∧ decode cX4_refsAre 95 = .ok (.iload 4, 2) ∧ decode cX4_refsAre 97 = .ok (.iaload, 1) ∧ decode cX4_refsAre 98 = .ok (.goto 4, 3) ∧ decode cX4_refsAre 101 = .ok (.iconst 0, 1) ∧ decode cX4_refsAre 102 = .ok (.istore 5, 2) ∧ decode cX4_refsAre 104 = .ok (.iconst 0, 1) ∧ decode cX4_refsAre 105 = .ok (.istore 6, 2) := by decide +kernel
theorem eX4_refsAre_107 : decode cX4_refsAre 107 = .ok (.iload 6, 2) ∧ decode cX4_refsAre 109 = .ok (.iload 5, 2) ∧ decode cX4_refsAre 111 = .ok (.if_icmp .ge 31, 3) ∧ decode cX4_refsAre 114 = .ok (.aload_n 0, 1) ∧ decode cX4_refsAre 115 = .ok (.getfield 21, 3) ∧ decode cX4_refsAre 118 = .ok (.aload_n 1, 1) ∧ decode cX4_refsAre 119 = .ok (.getfield 84, 3) ∧ decode cX4_refsAre 122 = .ok (.aload_n 1, 1) := by decide +kernel
theorem eX4_refsAre_123 : decode cX4_refsAre 123 = .ok (.iload 4, 2) ∧ decode cX4_refsAre 125 = .ok (.iload 6, 2) ∧ decode cX4_refsAre 127 = .ok (.invokevirtual 80, 3) ∧ decode cX4_refsAre 130 = .ok (.iaload, 1) ∧ decode cX4_refsAre 131 = .ok (.dup2, 1) ∧ decode cX4_refsAre 132 = .ok (.iaload, 1) ∧ decode cX4_refsAre 133 = .ok (.iconst 1, 1) ∧ decode cX4_refsAre 134 = .ok (.iadd, 1) := by decide +kernel
theorem eX4_refsAre_135 : decode cX4_refsAre 135 = .ok (.iastore, 1) ∧ decode cX4_refsAre 136 = .ok (.iinc 6 1, 3) ∧ decode cX4_refsAre 139 = .ok (.goto (-32), 3) ∧ decode cX4_refsAre 142 = .ok (.iinc 4 1, 3) ∧ decode cX4_refsAre 145 = .ok (.goto (-80), 3) ∧ decode cX4_refsAre 148 = .ok (.iconst 0, 1) ∧ decode cX4_refsAre 149 = .ok (.istore 4, 2) ∧ decode cX4_refsAre 151 = .ok (.iload 4, 2) := by decide +kernel
theorem eX4_refsAre_153 : decode cX4_refsAre 153 = .ok (.aload_n 1, 1) ∧ decode cX4_refsAre 154 = .ok (.getfield 51, 3) ∧ decode cX4_refsAre 157 = .ok (.if_icmp .ge 25, 3) ∧ decode cX4_refsAre 160 = .ok (.aload_n 0, 1) ∧ decode cX4_refsAre 161 = .ok (.getfield 21, 3) ∧ decode cX4_refsAre 164 = .ok (.iload 4, 2) ∧ decode cX4_refsAre 166 = .ok (.iaload, 1) ∧ decode cX4_refsAre 167 = .ok (.aload_n 2, 1) := by decide +kernel
theorem eX4_refsAre_168 : decode cX4_refsAre 168 = .ok (.iload 4, 2) ∧ decode cX4_refsAre 170 = .ok (.iaload, 1) ∧ decode cX4_refsAre 171 = .ok (.if_icmp .eq 5, 3) ∧ decode cX4_refsAre 174 = .ok (.iconst 0, 1) ∧ decode cX4_refsAre 175 = .ok (.ireturn, 1) ∧ decode cX4_refsAre 176 = .ok (.iinc 4 1, 3) ∧ decode cX4_refsAre 179 = .ok (.goto (-28), 3) ∧ decode cX4_refsAre 182 = .ok (.iconst 1, 1) := by decide +kernel
theorem eX4_refsAre_183 : decode cX4_refsAre 183 = .ok (.ireturn, 1) ∧ decode cX4_rootByte 0 = .ok (.iload_n 0, 1) ∧ decode cX4_rootByte 1 = .ok (.bipush (-2), 2) ∧ decode cX4_rootByte 3 = .ok (.if_icmp .ne 7, 3) ∧ decode cX4_rootByte 6 = .ok (.sipush 255, 3) ∧ decode cX4_rootByte 9 = .ok (.ireturn, 1) ∧ decode cX4_rootByte 10 = .ok (.iload_n 0, 1) ∧ decode cX4_rootByte 11 = .ok (.iconst (-1), 1) := by decide +kernel
theorem eX4_rootByte_12 : decode cX4_rootByte 12 = .ok (.if_icmp .ne 9, 3) ∧ decode cX4_rootByte 15 = .ok (.sipush 254, 3) ∧ decode cX4_rootByte 18 = .ok (.goto 4, 3) ∧ decode cX4_rootByte 21 = .ok (.iload_n 0, 1) ∧ decode cX4_rootByte 22 = .ok (.ireturn, 1) := by decide +kernel
set_option maxHeartbeats 4000000 in
set_option maxRecDepth 100000 in
theorem k_x4_addPair (l : Launch) (D : va_G) (a : Nat → Nat) (p0 : Int) (sz : Nat) (s : MS) (o : MS) (h : m_x4_addPair p0 s = some o) : yWv l yX4_addPair cX4_addPair 2 none { frames := 1, cells := 0, slots := 0, locals := 60 } D sz [.ref (a 16), .int (i2 p0)] (CS D a s) (CS D a o) := by
  refine Met.ofW (cc := cX4_addPair) (maxL := 2) (ret := none) (by decide) rfl ?_
  intro p e s₀ m args below meth c s₁ B hml hv
  obtain ⟨rfl, ⟨hsz, hP, hK, hD0⟩, hN⟩ := hv
  have hx := B.exec
  have hb := B.bytes
  have hr := B.returns
  have hts := atoms_spec (ws := wz yX4_addPair cX4_addPair 2 none) B.pre
  have ht : ∀ w ∈ lw_gd, w.before _ s₀ = true := fun w h => hts w (List.mem_cons_of_mem _ h)
  have hown : s₀.vm.findClass RX4 = some m.cls := findClass_of_methodNamed B.named
  have hlocks := B.notSynchronized
  subst hsz
  have hD := hD0.self (sz := s₀.heap.size)
  generalize hAe : va_A (CS D a s) s₀.heap.size = A at hD ⊢
  have hA : ∀ q : Nat, s₀.heap.size ≤ q → A q := fun q h => by rw [← hAe]; exact Or.inr h
  have hS : va_S A s₀.heap s₀.heap [] := va_S.rf
  have hDD : ∀ t : MS, va_D A (CS D a t) := fun t => CW_D t hD
  have hl := lv_entry ([.ref (a 16), .int (i2 p0)]) (n := 2) (Nat.le_of_ble_eq_true rfl)
  rw [lg_entry_eq]
  generalize (lg_sl ([.ref (a 16), .int (i2 p0)]) ++ List.replicate (2 - (lg_sl ([.ref (a 16), .int (i2 p0)])).length) Slot.unset).toArray = ls at hl ⊢
  have hl : lv_has ls 2 [(0, .ref (a 16)), (1, .int (i2 p0))] := hl
  unfold m_x4_addPair at h
  refine lv_aload_n hx hb eX2_clear_2.2.2.2.2.2.1 rfl (lv_at hl 0 rfl) ?_
  refine lv_iload_n hx hb eX2_clear_2.2.2.2.2.2.2.1 rfl (lv_at hl 1 rfl) ?_
  refine lv_bipush (v := 8) hx hb eX2_clear_2.2.2.2.2.2.2.2 (by decide) ?_
  refine lv_iushr (v := i2 (ushrZ p0 8)) hx hb eX4_addPair_4.1 (i2_of (ushr (i2 p0) (i2 8))).symm ?_
  obtain ⟨s2, hc1, h⟩ := bn_e h
  refine ywVv (As := [.int (i2 (ushrZ p0 8))]) (rest := []) (C := RX4) (n := 1) (ws' := CS D a s2) ⟨hx, hb, hml, hown, ht⟩ (k_x4_add l D a (ushrZ p0 8) _ _ _ hc1) (zgV ml_X4_33 im_X4_add se_X4_add in_X4 co_X4_add) rfl rfl (by decide +kernel) ⟨Nat.le_of_ble_eq_true rfl, Nat.le_of_ble_eq_true rfl⟩ hN hK hP (hDD _) hS hA 16 CW_16 rfl rfl rfl hl.1 rfl (Nat.le_of_ble_eq_true rfl) eX4_addPair_4.2.1 ⟨Nat.le_of_ble_eq_true rfl, Nat.le_of_ble_eq_true rfl⟩ (fun H locs hP hS => ?_)
  refine lv_aload_n hx hb eX4_addPair_4.2.2.1 rfl (lv_at hl 0 rfl) ?_
  refine lv_iload_n hx hb eX4_addPair_4.2.2.2.1 rfl (lv_at hl 1 rfl) ?_
  obtain ⟨s4, hc3, h⟩ := bn_e h
  refine ywVv (As := [.int (i2 p0)]) (rest := []) (C := RX4) (n := 1) (ws' := CS D a s4) ⟨hx, hb, hml, hown, ht⟩ (k_x4_add l D a p0 _ _ _ hc3) (zgV ml_X4_33 im_X4_add se_X4_add in_X4 co_X4_add) rfl rfl (by decide +kernel) ⟨Nat.le_of_ble_eq_true rfl, Nat.le_of_ble_eq_true rfl⟩ hN hK hP (hDD _) hS hA 16 CW_16 rfl rfl rfl hl.1 rfl (Nat.le_of_ble_eq_true rfl) eX4_addPair_4.2.2.2.2.1 ⟨Nat.le_of_ble_eq_true rfl, Nat.le_of_ble_eq_true rfl⟩ (fun H locs hP hS => ?_)
  obtain rfl := Option.some.inj h
  exact W.vret hx hb hr (fun t ht hW => ⟨⟨(), rfl, trivial, by rw [ht]; exact hP, va_K.moved hW.alike hK, hDD _⟩, hS.F ht⟩) hS.2.2 eX4_addPair_4.2.2.2.2.2.1
set_option maxHeartbeats 4000000 in
set_option maxRecDepth 100000 in
theorem k_x4_drawBlock (l : Launch) (D : va_G) (a : Nat → Nat) (p1 : Int) (sz : Nat) (s : MS) (o : MS) (h : m_x4_drawBlock p1 s = some o) : yWv l yX4_drawBlock cX4_drawBlock 4 none { frames := 2, cells := 0, slots := 0, locals := 120 } D sz [.ref (a 16), .ref (a 53), .int (i2 p1)] (CS D a s) (CS D a o) := by
  refine Met.ofW (cc := cX4_drawBlock) (maxL := 4) (ret := none) (by decide) rfl ?_
  intro p e s₀ m args below meth c s₁ B hml hv
  obtain ⟨rfl, ⟨hsz, hP, hK, hD0⟩, hN⟩ := hv
  have hx := B.exec
  have hb := B.bytes
  have hr := B.returns
  have hts := atoms_spec (ws := wz yX4_drawBlock cX4_drawBlock 4 none) B.pre
  have ht : ∀ w ∈ lw_gd, w.before _ s₀ = true := fun w h => hts w (List.mem_cons_of_mem _ h)
  have hown : s₀.vm.findClass RX4 = some m.cls := findClass_of_methodNamed B.named
  have hlocks := B.notSynchronized
  subst hsz
  have hD := hD0.self (sz := s₀.heap.size)
  generalize hAe : va_A (CS D a s) s₀.heap.size = A at hD ⊢
  have hA : ∀ q : Nat, s₀.heap.size ≤ q → A q := fun q h => by rw [← hAe]; exact Or.inr h
  have hS : va_S A s₀.heap s₀.heap [] := va_S.rf
  have hDD : ∀ t : MS, va_D A (CS D a t) := fun t => CW_D t hD
  have hl := lv_entry ([.ref (a 16), .ref (a 53), .int (i2 p1)]) (n := 4) (Nat.le_of_ble_eq_true rfl)
  rw [lg_entry_eq]
  generalize (lg_sl ([.ref (a 16), .ref (a 53), .int (i2 p1)]) ++ List.replicate (4 - (lg_sl ([.ref (a 16), .ref (a 53), .int (i2 p1)])).length) Slot.unset).toArray = ls at hl ⊢
  have hl : lv_has ls 4 [(0, .ref (a 16)), (1, .ref (a 53)), (2, .int (i2 p1))] := hl
  unfold m_x4_drawBlock at h
  refine y_loop (pcJ := 22) (σ := Int × Int × MS) (fun n u H locs ls => va_P D vwCl (CS D a u.2.2) H ∧ va_S A s₀.heap H locs ∧ lv_has ls 4 [(0, .ref (a 16)), (1, .ref (a 53)), (2, .int (i2 u.1)), (3, .int (i2 u.2.1))] ∧ m_x4_drawBlock_L22 n u.1 u.2.1 u.2.2 = some o) (fun u => []) (fun u H locs ls hI => by obtain ⟨_, _, _, h⟩ := hI; cases h) (fun n22 ih22 u H locs ls hI => ?_) (fun J22 => ?_)
  · obtain ⟨hP, hS, hl, h⟩ := hI
    obtain ⟨x1, x2, s3⟩ := u
    have hP : va_P D vwCl (CS D a s3) H := hP
    have hl : lv_has ls 4 [(0, .ref (a 16)), (1, .ref (a 53)), (2, .int (i2 x1)), (3, .int (i2 x2))] := hl
    have h : m_x4_drawBlock_b22 (m_x4_drawBlock_L22 n22) x1 x2 s3 = some o := h
    unfold m_x4_drawBlock_b22 at h
    refine lv_iload_n hx hb eX4_drawBlock_22.1 rfl (lv_at hl 3 rfl) ?_
    refine lv_aload_n hx hb eX4_drawBlock_22.2.1 rfl (lv_at hl 1 rfl) ?_
    refine va_get (D := D) (ci := 8) (v := .ref (a 57)) (C := RX8) (T := TX8) (N := 11) hx hb ht inX8 hown hK hP 53 CW_53 rfl 6 (by decide) (ht (.fieldLink RX4 75 "CloneVolumes$State" "size" "[I") fl_X4_75) (fun _ h9 => h9) rfl eX4_drawBlock_22.2.2.1 ?_
    refine lv_iload_n hx hb eX4_drawBlock_22.2.2.2.1 rfl (lv_at hl 2 rfl) ?_
    obtain ⟨y4, ey4, iy4, h⟩ := rdI_e h
    refine ya_iald (i := x1) hx hb hK hP 57 0 CW_57 rfl (by decide) ey4 iy4 eX4_drawBlock_22.2.2.2.2.1 ?_
    obtain ⟨hr5, h⟩ := rg_e h
    obtain ⟨hr6, h⟩ := rg_e h
    refine lv_icmp_ge (tgt := 68) hx hb eX4_drawBlock_22.2.2.2.2.2.1 (by decide) (fun c7 => ?_) (fun c7 => ?_)
    · have h := if_t ((i2_le (x := y4) (y := x2) hr6 hr5).mp c7) h
      obtain rfl := Option.some.inj h
      exact W.vret hx hb hr (fun t ht hW => ⟨⟨(), rfl, trivial, by rw [ht]; exact hP, va_K.moved hW.alike hK, hDD _⟩, hS.F ht⟩) hS.2.2 eX4_drawBlock_62.2.2.1
    · have h := if_f (mt (i2_le (x := y4) (y := x2) hr6 hr5).mpr c7) h
      refine lv_aload_n hx hb eX4_drawBlock_22.2.2.2.2.2.2.1 rfl (lv_at hl 0 rfl) ?_
      refine lv_aload_n hx hb eX4_drawBlock_22.2.2.2.2.2.2.2 rfl (lv_at hl 1 rfl) ?_
      refine va_get (D := D) (ci := 8) (v := .ref (a 58)) (C := RX8) (T := TX8) (N := 11) hx hb ht inX8 hown hK hP 53 CW_53 rfl 7 (by decide) (ht (.fieldLink RX4 77 "CloneVolumes$State" "keys" "[I") fl_X4_77) (fun _ h9 => h9) rfl eX4_drawBlock_34.1 ?_
      refine lv_aload_n hx hb eX4_drawBlock_34.2.1 rfl (lv_at hl 1 rfl) ?_
      refine lv_iload_n hx hb eX4_drawBlock_34.2.2.1 rfl (lv_at hl 2 rfl) ?_
      refine lv_iload_n hx hb eX4_drawBlock_34.2.2.2.1 rfl (lv_at hl 3 rfl) ?_
      obtain ⟨r9, hc8, h⟩ := bn_e h
      refine ycV (r0 := i2 r9) (As := [.int (i2 x1), .int (i2 x2)]) (rest := [.ref (a 58), .ref (a 16)]) (C := RX8) (n := 2) ⟨hx, hb, hml, hown, ht⟩ (k_x8_slot l D a x1 x2 _ _ hc8) (zgV ml_X4_80 im_X8_slot se_X8_slot in_X8 co_X8_slot) rfl rfl (by decide +kernel) ⟨Nat.le_of_ble_eq_true rfl, Nat.le_of_ble_eq_true rfl⟩ hN hK hP hS 53 CW_53 rfl rfl rfl hl.1 rfl (Nat.le_of_ble_eq_true rfl) eX4_drawBlock_34.2.2.2.2.1 ⟨Nat.le_of_ble_eq_true rfl, Nat.le_of_ble_eq_true rfl⟩ (fun H locs hP hS => ?_)
      obtain ⟨y10, ey10, iy10, h⟩ := rdI_e h
      refine ya_iald (i := r9) hx hb hK hP 58 0 CW_58 rfl (by decide) ey10 iy10 eX4_drawBlock_34.2.2.2.2.2.1 ?_
      obtain ⟨s12, hc11, h⟩ := bn_e h
      refine ywVv (As := [.int (i2 y10)]) (rest := []) (C := RX4) (n := 1) (ws' := CS D a s12) ⟨hx, hb, hml, hown, ht⟩ (k_x4_addPair l D a y10 _ _ _ hc11) (zgV ml_X4_38 im_X4_addPair se_X4_addPair in_X4 co_X4_addPair) rfl rfl (by decide +kernel) ⟨Nat.le_of_ble_eq_true rfl, Nat.le_of_ble_eq_true rfl⟩ hN hK hP (hDD _) hS hA 16 CW_16 rfl rfl rfl hl.1 rfl (Nat.le_of_ble_eq_true rfl) eX4_drawBlock_34.2.2.2.2.2.2.1 ⟨Nat.le_of_ble_eq_true rfl, Nat.le_of_ble_eq_true rfl⟩ (fun H locs hP hS => ?_)
      refine lv_aload_n hx hb eX4_drawBlock_34.2.2.2.2.2.2.2 rfl (lv_at hl 0 rfl) ?_
      refine lv_aload_n hx hb eX4_drawBlock_48.1 rfl (lv_at hl 1 rfl) ?_
      refine va_get (D := D) (ci := 8) (v := .ref (a 59)) (C := RX8) (T := TX8) (N := 11) hx hb ht inX8 hown hK hP 53 CW_53 rfl 8 (by decide) (ht (.fieldLink RX4 84 "CloneVolumes$State" "values" "[I") fl_X4_84) (fun _ h9 => h9) rfl eX4_drawBlock_48.2.1 ?_
      refine lv_aload_n hx hb eX4_drawBlock_48.2.2.1 rfl (lv_at hl 1 rfl) ?_
      refine lv_iload_n hx hb eX4_drawBlock_48.2.2.2.1 rfl (lv_at hl 2 rfl) ?_
      refine lv_iload_n hx hb eX4_drawBlock_48.2.2.2.2.1 rfl (lv_at hl 3 rfl) ?_
      obtain ⟨r14, hc13, h⟩ := bn_e h
      refine ycV (r0 := i2 r14) (As := [.int (i2 x1), .int (i2 x2)]) (rest := [.ref (a 59), .ref (a 16)]) (C := RX8) (n := 2) ⟨hx, hb, hml, hown, ht⟩ (k_x8_slot l D a x1 x2 _ _ hc13) (zgV ml_X4_80 im_X8_slot se_X8_slot in_X8 co_X8_slot) rfl rfl (by decide +kernel) ⟨Nat.le_of_ble_eq_true rfl, Nat.le_of_ble_eq_true rfl⟩ hN hK hP hS 53 CW_53 rfl rfl rfl hl.1 rfl (Nat.le_of_ble_eq_true rfl) eX4_drawBlock_48.2.2.2.2.2.1 ⟨Nat.le_of_ble_eq_true rfl, Nat.le_of_ble_eq_true rfl⟩ (fun H locs hP hS => ?_)
      obtain ⟨y15, ey15, iy15, h⟩ := rdI_e h
      refine ya_iald (i := r14) hx hb hK hP 59 0 CW_59 rfl (by decide) ey15 iy15 eX4_drawBlock_48.2.2.2.2.2.2.1 ?_
      obtain ⟨s17, hc16, h⟩ := bn_e h
      refine ywVv (As := [.int (i2 y15)]) (rest := []) (C := RX4) (n := 1) (ws' := CS D a s17) ⟨hx, hb, hml, hown, ht⟩ (k_x4_addPair l D a y15 _ _ _ hc16) (zgV ml_X4_38 im_X4_addPair se_X4_addPair in_X4 co_X4_addPair) rfl rfl (by decide +kernel) ⟨Nat.le_of_ble_eq_true rfl, Nat.le_of_ble_eq_true rfl⟩ hN hK hP (hDD _) hS hA 16 CW_16 rfl rfl rfl hl.1 rfl (Nat.le_of_ble_eq_true rfl) eX4_drawBlock_48.2.2.2.2.2.2.2 ⟨Nat.le_of_ble_eq_true rfl, Nat.le_of_ble_eq_true rfl⟩ (fun H locs hP hS => ?_)
      refine lv_iinc (v := i2 (x2 + 1)) (lv' := [(3, .int (i2 (x2 + 1))), (0, .ref (a 16)), (1, .ref (a 53)), (2, .int (i2 x1))]) hx hb eX4_drawBlock_62.1 hl (k := 3) rfl (i2_add x2 1) (by decide) rfl (fun ls hl => ?_)
      refine lv_goto (tgt := 22) hx hb eX4_drawBlock_62.2.1 (by decide) ?_
      exact ih22 (x1, x2 + 1, s17) _ _ _ ⟨hP, hS, lv_sub hl [1, 2, 3, 0] rfl, h⟩
  refine lv_aload_n hx hb eX4_draw_135.2.2.1 rfl (lv_at hl 0 rfl) ?_
  refine lv_aload_n hx hb eX4_draw_135.2.2.2.1 rfl (lv_at hl 1 rfl) ?_
  refine va_get (D := D) (ci := 8) (v := .ref (a 56)) (C := RX8) (T := TX8) (N := 11) hx hb ht inX8 hown hK hP 53 CW_53 rfl 5 (by decide) (ht (.fieldLink RX4 72 "CloneVolumes$State" "level" "[I") fl_X4_72) (fun _ h9 => h9) rfl eX4_draw_135.2.2.2.2.1 ?_
  refine lv_iload_n hx hb eX4_draw_135.2.2.2.2.2.1 rfl (lv_at hl 2 rfl) ?_
  obtain ⟨y18, ey18, iy18, h⟩ := rdI_e h
  refine ya_iald (i := p1) hx hb hK hP 56 0 CW_56 rfl (by decide) ey18 iy18 eX4_draw_135.2.2.2.2.2.2.1 ?_
  obtain ⟨s20, hc19, h⟩ := bn_e h
  refine ywVv (As := [.int (i2 y18)]) (rest := []) (C := RX4) (n := 1) (ws' := CS D a s20) ⟨hx, hb, hml, hown, ht⟩ (k_x4_add l D a y18 _ _ _ hc19) (zgV ml_X4_33 im_X4_add se_X4_add in_X4 co_X4_add) rfl rfl (by decide +kernel) ⟨Nat.le_of_ble_eq_true rfl, Nat.le_of_ble_eq_true rfl⟩ hN hK hP (hDD _) hS hA 16 CW_16 rfl rfl rfl hl.1 rfl (Nat.le_of_ble_eq_true rfl) eX4_draw_135.2.2.2.2.2.2.2 ⟨Nat.le_of_ble_eq_true rfl, Nat.le_of_ble_eq_true rfl⟩ (fun H locs hP hS => ?_)
  refine lv_aload_n hx hb eX4_drawBlock_10.1 rfl (lv_at hl 0 rfl) ?_
  refine lv_aload_n hx hb eX4_drawBlock_10.2.1 rfl (lv_at hl 1 rfl) ?_
  refine va_get (D := D) (ci := 8) (v := .ref (a 57)) (C := RX8) (T := TX8) (N := 11) hx hb ht inX8 hown hK hP 53 CW_53 rfl 6 (by decide) (ht (.fieldLink RX4 75 "CloneVolumes$State" "size" "[I") fl_X4_75) (fun _ h9 => h9) rfl eX4_drawBlock_10.2.2.1 ?_
  refine lv_iload_n hx hb eX4_drawBlock_10.2.2.2.1 rfl (lv_at hl 2 rfl) ?_
  obtain ⟨y21, ey21, iy21, h⟩ := rdI_e h
  refine ya_iald (i := p1) hx hb hK hP 57 0 CW_57 rfl (by decide) ey21 iy21 eX4_drawBlock_10.2.2.2.2.1 ?_
  obtain ⟨s23, hc22, h⟩ := bn_e h
  refine ywVv (As := [.int (i2 y21)]) (rest := []) (C := RX4) (n := 1) (ws' := CS D a s23) ⟨hx, hb, hml, hown, ht⟩ (k_x4_add l D a y21 _ _ _ hc22) (zgV ml_X4_33 im_X4_add se_X4_add in_X4 co_X4_add) rfl rfl (by decide +kernel) ⟨Nat.le_of_ble_eq_true rfl, Nat.le_of_ble_eq_true rfl⟩ hN hK hP (hDD _) hS hA 16 CW_16 rfl rfl rfl hl.1 rfl (Nat.le_of_ble_eq_true rfl) eX4_drawBlock_10.2.2.2.2.2.1 ⟨Nat.le_of_ble_eq_true rfl, Nat.le_of_ble_eq_true rfl⟩ (fun H locs hP hS => ?_)
  refine lv_iconst (v := 0) hx hb eX4_drawBlock_10.2.2.2.2.2.2.1 (by decide) ?_
  refine lv_istore_n (lv' := [(3, .int 0), (0, .ref (a 16)), (1, .ref (a 53)), (2, .int (i2 p1))]) hx hb eX4_drawBlock_10.2.2.2.2.2.2.2 rfl hl (by decide) rfl (fun ls hl => ?_)
  exact J22 FU (p1, 0, s23) _ _ _ ⟨hP, hS, lv_sub hl [1, 2, 3, 0] rfl, h⟩
set_option maxHeartbeats 4000000 in
set_option maxRecDepth 100000 in
theorem k_x4_rootByte (l : Launch) (D : va_G) (a : Nat → Nat) (p0 : Int) (s : MS) (o : Int) (h : m_x4_rootByte p0 s = some o) : yRi l yX4_rootByte cX4_rootByte 1 (some .int) { frames := 0, cells := 0, slots := 0, locals := 0 } D [.int (i2 p0)] (CS D a s) (i2 o) := by
  refine Met.ofW (cc := cX4_rootByte) (maxL := 1) (ret := (some .int)) (by decide) rfl ?_
  intro p e s₀ m args below meth c s₁ B hml hv
  obtain ⟨rfl, ⟨hP, hK⟩, hN⟩ := hv
  have hx := B.exec
  have hb := B.bytes
  have hr := B.returns
  have hts := atoms_spec (ws := wz yX4_rootByte cX4_rootByte 1 (some .int)) B.pre
  have ht : ∀ w ∈ lw_gd, w.before _ s₀ = true := fun w h => hts w (List.mem_cons_of_mem _ h)
  have hown : s₀.vm.findClass RX4 = some m.cls := findClass_of_methodNamed B.named
  have hlocks := B.notSynchronized
  have hS : va_S (fun _ => False) s₀.heap s₀.heap [] := va_S.rf
  have hl := lv_entry ([.int (i2 p0)]) (n := 1) (Nat.le_of_ble_eq_true rfl)
  rw [lg_entry_eq]
  generalize (lg_sl ([.int (i2 p0)]) ++ List.replicate (1 - (lg_sl ([.int (i2 p0)])).length) Slot.unset).toArray = ls at hl ⊢
  have hl : lv_has ls 1 [(0, .int (i2 p0))] := hl
  unfold m_x4_rootByte at h
  refine y_head (pcJ := 22) (σ := Int) (fun u H locs ls => va_P D vwCl (CS D a s) H ∧ va_S (fun _ => False) s₀.heap H locs ∧ lv_has ls 1 [] ∧ m_x4_rootByte_J22 s u = some o) (fun u => [.int (i2 u)]) (fun u H locs ls hI => ?_) (fun J22 => ?_)
  · obtain ⟨hP, hS, hl, h⟩ := hI
    obtain ⟨x1, rfl⟩ : ∃ z, z = u := ⟨u, rfl⟩
    have hP : va_P D vwCl (CS D a s) H := hP
    have hl : lv_has ls 1 [] := hl
    have h : m_x4_rootByte_J22 s x1 = some o := h
    unfold m_x4_rootByte_J22 at h
    obtain rfl := Option.some.inj h
    exact W.iret (v := (i2 x1)) hx hb hr (fun t ht hW => ⟨⟨_, (), rfl, rfl, trivial⟩, hS.F ht⟩) hS.2.2 eX4_rootByte_12.2.2.2.2
  refine lv_iload_n hx hb eX4_refsAre_183.2.1 rfl (lv_at hl 0 rfl) ?_
  refine lv_bipush (v := (-2)) hx hb eX4_refsAre_183.2.2.1 (by decide) ?_
  obtain ⟨hr2, h⟩ := rg_e h
  refine lv_icmp_ne (tgt := 10) hx hb eX4_refsAre_183.2.2.2.1 (by decide) (fun c3 => ?_) (fun c3 => ?_)
  · rw [show ((-2) : Int32) = i2 (-2) from by decide] at c3
    have h := if_f (mt (i2_eq (x := p0) (y := (-2)) hr2 (by decide)).mpr c3) h
    refine lv_iload_n hx hb eX4_refsAre_183.2.2.2.2.2.2.1 rfl (lv_at hl 0 rfl) ?_
    refine lv_iconst (v := (-1)) hx hb eX4_refsAre_183.2.2.2.2.2.2.2 (by decide) ?_
    obtain ⟨hr4, h⟩ := rg_e h
    refine lv_icmp_ne (tgt := 21) hx hb eX4_rootByte_12.1 (by decide) (fun c5 => ?_) (fun c5 => ?_)
    · rw [show ((-1) : Int32) = i2 (-1) from by decide] at c5
      have h := if_f (mt (i2_eq (x := p0) (y := (-1)) hr4 (by decide)).mpr c5) h
      refine lv_iload_n hx hb eX4_rootByte_12.2.2.2.1 rfl (lv_at hl 0 rfl) ?_
      exact J22 p0 _ _ _ ⟨hP, hS, lv_sub hl [] rfl, h⟩
    · rw [show ((-1) : Int32) = i2 (-1) from by decide] at c5
      have h := if_t ((i2_eq (x := p0) (y := (-1)) hr4 (by decide)).mp c5) h
      refine lv_sipush (v := 254) hx hb eX4_rootByte_12.2.1 (by decide) ?_
      refine lv_goto (tgt := 22) hx hb eX4_rootByte_12.2.2.1 (by decide) ?_
      exact J22 254 _ _ _ ⟨hP, hS, lv_sub hl [] rfl, h⟩
  · rw [show ((-2) : Int32) = i2 (-2) from by decide] at c3
    have h := if_t ((i2_eq (x := p0) (y := (-2)) hr2 (by decide)).mp c3) h
    refine lv_sipush (v := 255) hx hb eX4_refsAre_183.2.2.2.2.1 (by decide) ?_
    obtain rfl := Option.some.inj h
    exact W.iret (v := 255) hx hb hr (fun t ht hW => ⟨⟨_, (), rfl, rfl, trivial⟩, hS.F ht⟩) hS.2.2 eX4_refsAre_183.2.2.2.2.2.1
set_option maxHeartbeats 4000000 in
set_option maxRecDepth 100000 in
theorem k_x4_draw (l : Launch) (D : va_G) (a : Nat → Nat) (sz : Nat) (s : MS) (o : (Int × MS)) (h : m_x4_draw s = some o) : yWi l yX4_draw cX4_draw 3 (some .int) { frames := 3, cells := 0, slots := 0, locals := 180 } D sz [.ref (a 16), .ref (a 53)] (CS D a s) (CS D a o.2) (i2 o.1) := by
  refine Met.ofW (cc := cX4_draw) (maxL := 3) (ret := (some .int)) (by decide) rfl ?_
  intro p e s₀ m args below meth c s₁ B hml hv
  obtain ⟨rfl, ⟨hsz, hP, hK, hD0⟩, hN⟩ := hv
  have hx := B.exec
  have hb := B.bytes
  have hr := B.returns
  have hts := atoms_spec (ws := wz yX4_draw cX4_draw 3 (some .int)) B.pre
  have ht : ∀ w ∈ lw_gd, w.before _ s₀ = true := fun w h => hts w (List.mem_cons_of_mem _ h)
  have hown : s₀.vm.findClass RX4 = some m.cls := findClass_of_methodNamed B.named
  have hlocks := B.notSynchronized
  subst hsz
  have hD := hD0.self (sz := s₀.heap.size)
  generalize hAe : va_A (CS D a s) s₀.heap.size = A at hD ⊢
  have hA : ∀ q : Nat, s₀.heap.size ≤ q → A q := fun q h => by rw [← hAe]; exact Or.inr h
  have hS : va_S A s₀.heap s₀.heap [] := va_S.rf
  have hDD : ∀ t : MS, va_D A (CS D a t) := fun t => CW_D t hD
  have hl := lv_entry ([.ref (a 16), .ref (a 53)]) (n := 3) (Nat.le_of_ble_eq_true rfl)
  rw [lg_entry_eq]
  generalize (lg_sl ([.ref (a 16), .ref (a 53)]) ++ List.replicate (3 - (lg_sl ([.ref (a 16), .ref (a 53)])).length) Slot.unset).toArray = ls at hl ⊢
  have hl : lv_has ls 3 [(0, .ref (a 16)), (1, .ref (a 53))] := hl
  unfold m_x4_draw at h
  refine y_loop (pcJ := 69) (σ := Int × MS) (fun n u H locs ls => va_P D vwCl (CS D a u.2) H ∧ va_S A s₀.heap H locs ∧ lv_has ls 3 [(0, .ref (a 16)), (1, .ref (a 53)), (2, .int (i2 u.1))] ∧ m_x4_draw_L69 n u.1 u.2 = some o) (fun u => []) (fun u H locs ls hI => by obtain ⟨_, _, _, h⟩ := hI; cases h) (fun n69 ih69 u H locs ls hI => ?_) (fun J69 => ?_)
  · obtain ⟨hP, hS, hl, h⟩ := hI
    obtain ⟨x1, s2⟩ := u
    have hP : va_P D vwCl (CS D a s2) H := hP
    have hl : lv_has ls 3 [(0, .ref (a 16)), (1, .ref (a 53)), (2, .int (i2 x1))] := hl
    have h : m_x4_draw_b69 (m_x4_draw_L69 n69) x1 s2 = some o := h
    unfold m_x4_draw_b69 at h
    refine y_head (pcJ := 111) (σ := Int × MS) (fun u H locs ls => va_P D vwCl (CS D a u.2) H ∧ va_S A s₀.heap H locs ∧ lv_has ls 3 [(0, .ref (a 16)), (1, .ref (a 53)), (2, .int (i2 u.1))] ∧ m_x4_draw_J111 (m_x4_draw_L69 n69) u.1 u.2 = some o) (fun u => []) (fun u H locs ls hI => ?_) (fun J111 => ?_)
    · obtain ⟨hP, hS, hl, h⟩ := hI
      obtain ⟨x3, s4⟩ := u
      have hP : va_P D vwCl (CS D a s4) H := hP
      have hl : lv_has ls 3 [(0, .ref (a 16)), (1, .ref (a 53)), (2, .int (i2 x3))] := hl
      have h : m_x4_draw_J111 (m_x4_draw_L69 n69) x3 s4 = some o := h
      unfold m_x4_draw_J111 at h
      refine lv_iinc (v := i2 (x3 + 1)) (lv' := [(2, .int (i2 (x3 + 1))), (0, .ref (a 16)), (1, .ref (a 53))]) hx hb eX4_draw_105.2.2.2.2.1 hl (k := 2) rfl (i2_add x3 1) (by decide) rfl (fun ls hl => ?_)
      refine lv_goto (tgt := 69) hx hb eX4_draw_105.2.2.2.2.2.1 (by decide) ?_
      exact ih69 (x3 + 1, s4) _ _ _ ⟨hP, hS, lv_sub hl [1, 2, 0] rfl, h⟩
    refine lv_iload_n hx hb eX4_draw_61.2.2.2.2.1 rfl (lv_at hl 2 rfl) ?_
    refine lv_aload_n hx hb eX4_draw_61.2.2.2.2.2.1 rfl (lv_at hl 1 rfl) ?_
    refine va_get (D := D) (ci := 8) (v := .int (i2 (gI s2 1060))) (C := RX8) (T := TX8) (N := 11) hx hb ht inX8 hown hK hP 53 CW_53 rfl 0 (by decide) (ht (.fieldLink RX4 51 "CloneVolumes$State" "blocks" "I") fl_X4_51) (fun _ h9 => h9) rfl eX4_draw_61.2.2.2.2.2.2.1 ?_
    obtain ⟨hr5, h⟩ := rg_e h
    obtain ⟨hr6, h⟩ := rg_e h
    refine lv_icmp_ge (tgt := 117) hx hb eX4_draw_61.2.2.2.2.2.2.2 (by decide) (fun c7 => ?_) (fun c7 => ?_)
    · have h := if_t ((i2_le (x := (gI s2 1060)) (y := x1) hr6 hr5).mp c7) h
      refine lv_aload_n hx hb eX4_draw_105.2.2.2.2.2.2.1 rfl (lv_at hl 0 rfl) ?_
      refine va_get (D := D) (ci := 4) (v := .ref (a 17)) (C := RX4) (T := TX4) (N := 6) hx hb ht inX4 hown hK hP 16 CW_16 rfl 0 (by decide) (ht (.fieldLink RX4 11 "CloneVolumes$Picture" "bytes" "[I") fl_X4_11) (fun _ h9 => h9) rfl eX4_draw_105.2.2.2.2.2.2.2 ?_
      refine lv_aload_n hx hb eX4_draw_121.1 rfl (lv_at hl 0 rfl) ?_
      refine va_get (D := D) (ci := 4) (v := .int (i2 (gI s2 321))) (C := RX4) (T := TX4) (N := 6) hx hb ht inX4 hown hK hP 16 CW_16 rfl 1 (by decide) (ht (.fieldLink RX4 24 "CloneVolumes$Picture" "size" "I") fl_X4_24) (fun _ h9 => h9) rfl eX4_draw_121.2.1 ?_
      obtain ⟨r9, hc8, h⟩ := bn_e h
      refine ycS (r0 := i2 r9) (As := [.ref (a 17), .int (i2 (gI s2 321))]) (rest := []) (n := 2) ⟨hx, hb, hml, hown, ht⟩ (k_x4_seal l D a (gI s2 321) _ _ hc8) (zgT ml_X4_68 st_X4_seal in_X4 co_X4_seal) rfl rfl (by decide +kernel) ⟨Nat.le_of_ble_eq_true rfl, Nat.le_of_ble_eq_true rfl⟩ hN hK hP hS rfl hl.1 rfl (Nat.le_of_ble_eq_true rfl) eX4_draw_121.2.2.1 ⟨Nat.le_of_ble_eq_true rfl, Nat.le_of_ble_eq_true rfl⟩ (fun H locs hP hS => ?_)
      refine lv_istore_n (lv' := [(2, .int (i2 r9)), (0, .ref (a 16)), (1, .ref (a 53))]) hx hb eX4_draw_121.2.2.2.1 rfl hl (by decide) rfl (fun ls hl => ?_)
      refine lv_aload_n hx hb eX4_draw_121.2.2.2.2.1 rfl (lv_at hl 1 rfl) ?_
      refine lv_iload_n hx hb eX4_draw_121.2.2.2.2.2.1 rfl (lv_at hl 0 rfl) ?_
      obtain ⟨s11, hc10, h⟩ := bn_e h
      refine ywVv (As := [.int (i2 r9)]) (rest := []) (C := RX4) (n := 1) (ws' := CS D a s11) ⟨hx, hb, hml, hown, ht⟩ (k_x4_add l D a r9 _ _ _ hc10) (zgV ml_X4_33 im_X4_add se_X4_add in_X4 co_X4_add) rfl rfl (by decide +kernel) ⟨Nat.le_of_ble_eq_true rfl, Nat.le_of_ble_eq_true rfl⟩ hN hK hP (hDD _) hS hA 16 CW_16 rfl rfl rfl hl.1 rfl (Nat.le_of_ble_eq_true rfl) eX4_draw_121.2.2.2.2.2.2.1 ⟨Nat.le_of_ble_eq_true rfl, Nat.le_of_ble_eq_true rfl⟩ (fun H locs hP hS => ?_)
      refine lv_aload_n hx hb eX4_draw_121.2.2.2.2.2.2.2 rfl (lv_at hl 1 rfl) ?_
      refine va_get (D := D) (ci := 4) (v := .int (i2 (gI s11 321))) (C := RX4) (T := TX4) (N := 6) hx hb ht inX4 hown hK hP 16 CW_16 rfl 1 (by decide) (ht (.fieldLink RX4 24 "CloneVolumes$Picture" "size" "I") fl_X4_24) (fun _ h9 => h9) rfl eX4_draw_135.1 ?_
      obtain rfl := Option.some.inj h
      exact W.iret (v := (i2 (gI s11 321))) hx hb hr (fun t ht hW => ⟨⟨_, (), rfl, rfl, by rw [ht]; exact hP, va_K.moved hW.alike hK, hDD _⟩, hS.F ht⟩) hS.2.2 eX4_draw_135.2.1
    · have h := if_f (mt (i2_le (x := (gI s2 1060)) (y := x1) hr6 hr5).mpr c7) h
      refine lv_aload_n hx hb eX4_draw_77.1 rfl (lv_at hl 0 rfl) ?_
      refine lv_aload_n hx hb eX4_draw_77.2.1 rfl (lv_at hl 1 rfl) ?_
      refine va_get (D := D) (ci := 8) (v := .ref (a 54)) (C := RX8) (T := TX8) (N := 11) hx hb ht inX8 hown hK hP 53 CW_53 rfl 3 (by decide) (ht (.fieldLink RX4 54 "CloneVolumes$State" "count" "[I") fl_X4_54) (fun _ h9 => h9) rfl eX4_draw_77.2.2.1 ?_
      refine lv_iload_n hx hb eX4_draw_77.2.2.2.1 rfl (lv_at hl 2 rfl) ?_
      obtain ⟨y12, ey12, iy12, h⟩ := rdI_e h
      refine ya_iald (i := x1) hx hb hK hP 54 0 CW_54 rfl (by decide) ey12 iy12 eX4_draw_77.2.2.2.2.1 ?_
      obtain ⟨s14, hc13, h⟩ := bn_e h
      refine ywVv (As := [.int (i2 y12)]) (rest := []) (C := RX4) (n := 1) (ws' := CS D a s14) ⟨hx, hb, hml, hown, ht⟩ (k_x4_add l D a y12 _ _ _ hc13) (zgV ml_X4_33 im_X4_add se_X4_add in_X4 co_X4_add) rfl rfl (by decide +kernel) ⟨Nat.le_of_ble_eq_true rfl, Nat.le_of_ble_eq_true rfl⟩ hN hK hP (hDD _) hS hA 16 CW_16 rfl rfl rfl hl.1 rfl (Nat.le_of_ble_eq_true rfl) eX4_draw_77.2.2.2.2.2.1 ⟨Nat.le_of_ble_eq_true rfl, Nat.le_of_ble_eq_true rfl⟩ (fun H locs hP hS => ?_)
      refine lv_aload_n hx hb eX4_draw_77.2.2.2.2.2.2.1 rfl (lv_at hl 0 rfl) ?_
      refine lv_aload_n hx hb eX4_draw_77.2.2.2.2.2.2.2 rfl (lv_at hl 1 rfl) ?_
      refine va_get (D := D) (ci := 8) (v := .ref (a 55)) (C := RX8) (T := TX8) (N := 11) hx hb ht inX8 hown hK hP 53 CW_53 rfl 4 (by decide) (ht (.fieldLink RX4 57 "CloneVolumes$State" "saved" "[I") fl_X4_57) (fun _ h9 => h9) rfl eX4_draw_89.1 ?_
      refine lv_iload_n hx hb eX4_draw_89.2.1 rfl (lv_at hl 2 rfl) ?_
      obtain ⟨y15, ey15, iy15, h⟩ := rdI_e h
      refine ya_iald (i := x1) hx hb hK hP 55 0 CW_55 rfl (by decide) ey15 iy15 eX4_draw_89.2.2.1 ?_
      obtain ⟨s17, hc16, h⟩ := bn_e h
      refine ywVv (As := [.int (i2 y15)]) (rest := []) (C := RX4) (n := 1) (ws' := CS D a s17) ⟨hx, hb, hml, hown, ht⟩ (k_x4_add l D a y15 _ _ _ hc16) (zgV ml_X4_33 im_X4_add se_X4_add in_X4 co_X4_add) rfl rfl (by decide +kernel) ⟨Nat.le_of_ble_eq_true rfl, Nat.le_of_ble_eq_true rfl⟩ hN hK hP (hDD _) hS hA 16 CW_16 rfl rfl rfl hl.1 rfl (Nat.le_of_ble_eq_true rfl) eX4_draw_89.2.2.2.1 ⟨Nat.le_of_ble_eq_true rfl, Nat.le_of_ble_eq_true rfl⟩ (fun H locs hP hS => ?_)
      refine lv_aload_n hx hb eX4_draw_89.2.2.2.2.1 rfl (lv_at hl 1 rfl) ?_
      refine lv_iload_n hx hb eX4_draw_89.2.2.2.2.2.1 rfl (lv_at hl 2 rfl) ?_
      obtain ⟨r19, hc18, h⟩ := bn_e h
      refine ycV (r0 := i2 r19) (As := [.int (i2 x1)]) (rest := []) (C := RX8) (n := 1) ⟨hx, hb, hml, hown, ht⟩ (k_x8_isFree l D a x1 _ _ hc18) (zgV ml_X4_60 im_X8_isFree se_X8_isFree in_X8 co_X8_isFree) rfl rfl (by decide +kernel) ⟨Nat.le_of_ble_eq_true rfl, Nat.le_of_ble_eq_true rfl⟩ hN hK hP hS 53 CW_53 rfl rfl rfl hl.1 rfl (Nat.le_of_ble_eq_true rfl) eX4_draw_89.2.2.2.2.2.2.1 ⟨Nat.le_of_ble_eq_true rfl, Nat.le_of_ble_eq_true rfl⟩ (fun H locs hP hS => ?_)
      obtain ⟨hr20, h⟩ := rg_e h
      refine lv_if_ne (tgt := 111) hx hb eX4_draw_89.2.2.2.2.2.2.2 (by decide) (fun c21 => ?_) (fun c21 => ?_)
      · have h := if_f (mt (i2_eq (x := r19) (y := 0) hr20 (by decide)).mpr c21) h
        exact J111 (x1, s17) _ _ _ ⟨hP, hS, lv_sub hl [0, 1, 2] rfl, h⟩
      · have h := if_t ((i2_eq (x := r19) (y := 0) hr20 (by decide)).mp c21) h
        refine lv_aload_n hx hb eX4_draw_105.1 rfl (lv_at hl 0 rfl) ?_
        refine lv_aload_n hx hb eX4_draw_105.2.1 rfl (lv_at hl 1 rfl) ?_
        refine lv_iload_n hx hb eX4_draw_105.2.2.1 rfl (lv_at hl 2 rfl) ?_
        obtain ⟨s23, hc22, h⟩ := bn_e h
        refine ywVv (As := [.ref (a 53), .int (i2 x1)]) (rest := []) (C := RX4) (n := 2) (ws' := CS D a s23) ⟨hx, hb, hml, hown, ht⟩ (k_x4_drawBlock l D a x1 _ _ _ hc22) (zgV ml_X4_64 im_X4_drawBlock se_X4_drawBlock in_X4 co_X4_drawBlock) rfl rfl (by decide +kernel) ⟨Nat.le_of_ble_eq_true rfl, Nat.le_of_ble_eq_true rfl⟩ hN hK hP (hDD _) hS hA 16 CW_16 rfl rfl rfl hl.1 rfl (Nat.le_of_ble_eq_true rfl) eX4_draw_105.2.2.2.1 ⟨Nat.le_of_ble_eq_true rfl, Nat.le_of_ble_eq_true rfl⟩ (fun H locs hP hS => ?_)
        exact J111 (x1, s23) _ _ _ ⟨hP, hS, lv_sub hl [0, 1, 2] rfl, h⟩
  refine y_loop (pcJ := 29) (σ := Int × MS) (fun n u H locs ls => va_P D vwCl (CS D a u.2) H ∧ va_S A s₀.heap H locs ∧ lv_has ls 3 [(0, .ref (a 16)), (1, .ref (a 53)), (2, .int (i2 u.1))] ∧ m_x4_draw_L29 n u.1 u.2 = some o) (fun u => []) (fun u H locs ls hI => by obtain ⟨_, _, _, h⟩ := hI; cases h) (fun n29 ih29 u H locs ls hI => ?_) (fun J29 => ?_)
  · obtain ⟨hP, hS, hl, h⟩ := hI
    obtain ⟨x24, s25⟩ := u
    have hP : va_P D vwCl (CS D a s25) H := hP
    have hl : lv_has ls 3 [(0, .ref (a 16)), (1, .ref (a 53)), (2, .int (i2 x24))] := hl
    have h : m_x4_draw_b29 (m_x4_draw_L29 n29) x24 s25 = some o := h
    unfold m_x4_draw_b29 at h
    refine lv_iload_n hx hb eX4_draw_17.2.2.2.2.2.2.2 rfl (lv_at hl 2 rfl) ?_
    refine lv_bipush (v := 8) hx hb eX4_draw_30.1 (by decide) ?_
    obtain ⟨hr26, h⟩ := rg_e h
    refine lv_icmp_ge (tgt := 67) hx hb eX4_draw_30.2.1 (by decide) (fun c27 => ?_) (fun c27 => ?_)
    · have h := if_t ((i2_le (x := 8) (y := x24) (by decide) hr26).mp c27) h
      refine lv_iconst (v := 0) hx hb eX4_draw_61.2.2.1 (by decide) ?_
      refine lv_istore_n (lv' := [(2, .int 0), (0, .ref (a 16)), (1, .ref (a 53))]) hx hb eX4_draw_61.2.2.2.1 rfl hl (by decide) rfl (fun ls hl => ?_)
      exact J69 FU (0, s25) _ _ _ ⟨hP, hS, lv_sub hl [1, 2, 0] rfl, h⟩
    · have h := if_f (mt (i2_le (x := 8) (y := x24) (by decide) hr26).mpr c27) h
      refine lv_aload_n hx hb eX4_draw_30.2.2.1 rfl (lv_at hl 0 rfl) ?_
      refine lv_aload_n hx hb eX4_draw_30.2.2.2.1 rfl (lv_at hl 1 rfl) ?_
      refine va_get (D := D) (ci := 8) (v := .ref (a 60)) (C := RX8) (T := TX8) (N := 11) hx hb ht inX8 hown hK hP 53 CW_53 rfl 9 (by decide) (ht (.fieldLink RX4 41 "CloneVolumes$State" "roots" "[I") fl_X4_41) (fun _ h9 => h9) rfl eX4_draw_30.2.2.2.2.1 ?_
      refine lv_iload_n hx hb eX4_draw_30.2.2.2.2.2.1 rfl (lv_at hl 2 rfl) ?_
      obtain ⟨y28, ey28, iy28, h⟩ := rdI_e h
      refine ya_iald (i := x24) hx hb hK hP 60 0 CW_60 rfl (by decide) ey28 iy28 eX4_draw_30.2.2.2.2.2.2.1 ?_
      obtain ⟨r30, hc29, h⟩ := bn_e h
      refine ycS (r0 := i2 r30) (As := [.int (i2 y28)]) (rest := [.ref (a 16)]) (n := 1) ⟨hx, hb, hml, hown, ht⟩ (k_x4_rootByte l D a y28 _ _ hc29) (zgT ml_X4_44 st_X4_rootByte in_X4 co_X4_rootByte) rfl rfl (by decide +kernel) ⟨Nat.le_of_ble_eq_true rfl, Nat.le_of_ble_eq_true rfl⟩ hN hK hP hS rfl hl.1 rfl (Nat.le_of_ble_eq_true rfl) eX4_draw_30.2.2.2.2.2.2.2 ⟨Nat.le_of_ble_eq_true rfl, Nat.le_of_ble_eq_true rfl⟩ (fun H locs hP hS => ?_)
      obtain ⟨s32, hc31, h⟩ := bn_e h
      refine ywVv (As := [.int (i2 r30)]) (rest := []) (C := RX4) (n := 1) (ws' := CS D a s32) ⟨hx, hb, hml, hown, ht⟩ (k_x4_add l D a r30 _ _ _ hc31) (zgV ml_X4_33 im_X4_add se_X4_add in_X4 co_X4_add) rfl rfl (by decide +kernel) ⟨Nat.le_of_ble_eq_true rfl, Nat.le_of_ble_eq_true rfl⟩ hN hK hP (hDD _) hS hA 16 CW_16 rfl rfl rfl hl.1 rfl (Nat.le_of_ble_eq_true rfl) eX4_draw_45.1 ⟨Nat.le_of_ble_eq_true rfl, Nat.le_of_ble_eq_true rfl⟩ (fun H locs hP hS => ?_)
      refine lv_aload_n hx hb eX4_draw_45.2.1 rfl (lv_at hl 0 rfl) ?_
      refine lv_aload_n hx hb eX4_draw_45.2.2.1 rfl (lv_at hl 1 rfl) ?_
      refine va_get (D := D) (ci := 8) (v := .ref (a 61)) (C := RX8) (T := TX8) (N := 11) hx hb ht inX8 hown hK hP 53 CW_53 rfl 10 (by decide) (ht (.fieldLink RX4 48 "CloneVolumes$State" "savedRoots" "[I") fl_X4_48) (fun _ h9 => h9) rfl eX4_draw_45.2.2.2.1 ?_
      refine lv_iload_n hx hb eX4_draw_45.2.2.2.2.1 rfl (lv_at hl 2 rfl) ?_
      obtain ⟨y33, ey33, iy33, h⟩ := rdI_e h
      refine ya_iald (i := x24) hx hb hK hP 61 0 CW_61 rfl (by decide) ey33 iy33 eX4_draw_45.2.2.2.2.2.1 ?_
      obtain ⟨r35, hc34, h⟩ := bn_e h
      refine ycS (r0 := i2 r35) (As := [.int (i2 y33)]) (rest := [.ref (a 16)]) (n := 1) ⟨hx, hb, hml, hown, ht⟩ (k_x4_rootByte l D a y33 _ _ hc34) (zgT ml_X4_44 st_X4_rootByte in_X4 co_X4_rootByte) rfl rfl (by decide +kernel) ⟨Nat.le_of_ble_eq_true rfl, Nat.le_of_ble_eq_true rfl⟩ hN hK hP hS rfl hl.1 rfl (Nat.le_of_ble_eq_true rfl) eX4_draw_45.2.2.2.2.2.2.1 ⟨Nat.le_of_ble_eq_true rfl, Nat.le_of_ble_eq_true rfl⟩ (fun H locs hP hS => ?_)
      obtain ⟨s37, hc36, h⟩ := bn_e h
      refine ywVv (As := [.int (i2 r35)]) (rest := []) (C := RX4) (n := 1) (ws' := CS D a s37) ⟨hx, hb, hml, hown, ht⟩ (k_x4_add l D a r35 _ _ _ hc36) (zgV ml_X4_33 im_X4_add se_X4_add in_X4 co_X4_add) rfl rfl (by decide +kernel) ⟨Nat.le_of_ble_eq_true rfl, Nat.le_of_ble_eq_true rfl⟩ hN hK hP (hDD _) hS hA 16 CW_16 rfl rfl rfl hl.1 rfl (Nat.le_of_ble_eq_true rfl) eX4_draw_45.2.2.2.2.2.2.2 ⟨Nat.le_of_ble_eq_true rfl, Nat.le_of_ble_eq_true rfl⟩ (fun H locs hP hS => ?_)
      refine lv_iinc (v := i2 (x24 + 1)) (lv' := [(2, .int (i2 (x24 + 1))), (0, .ref (a 16)), (1, .ref (a 53))]) hx hb eX4_draw_61.1 hl (k := 2) rfl (i2_add x24 1) (by decide) rfl (fun ls hl => ?_)
      refine lv_goto (tgt := 29) hx hb eX4_draw_61.2.1 (by decide) ?_
      exact ih29 (x24 + 1, s37) _ _ _ ⟨hP, hS, lv_sub hl [1, 2, 0] rfl, h⟩
  refine lv_aload_n hx hb eX4_addPair_4.2.2.2.2.2.2.1 rfl (lv_at hl 0 rfl) ?_
  refine lv_iconst (v := 0) hx hb eX4_addPair_4.2.2.2.2.2.2.2 (by decide) ?_
  refine ya_put (D := D) (ci := 4) (v := .int 0) (ty := .int) (C := RX4) (T := TX4) (N := 6) hx hb ht inX4 tyX4 tyX4_ok nmX4 hown hK hP (hDD _) hS 16 CW_16 rfl 1 (by decide) (ht (.fieldLink RX4 24 "CloneVolumes$Picture" "size" "I") fl_X4_24) (fun _ h9 => h9) rfl (by decide +kernel) rfl rfl (Nat.le_of_ble_eq_true rfl) eX4_draw_2.1 (CW_w16_1 0) (fun H locs hP hS => ?_)
  obtain ⟨s38, hs38, h⟩ := st_e h
  rw [hs38] at hP
  refine lv_aload_n hx hb eX4_draw_2.2.1 rfl (lv_at hl 0 rfl) ?_
  refine lv_aload_n hx hb eX4_draw_2.2.2.1 rfl (lv_at hl 1 rfl) ?_
  refine va_get (D := D) (ci := 8) (v := .int (i2 (gI s38 1061))) (C := RX8) (T := TX8) (N := 11) hx hb ht inX8 hown hK hP 53 CW_53 rfl 1 (by decide) (ht (.fieldLink RX4 28 "CloneVolumes$State" "spent" "I") fl_X4_28) (fun _ h9 => h9) rfl eX4_draw_2.2.2.2.1 ?_
  refine lv_bipush (v := 16) hx hb eX4_draw_2.2.2.2.2.1 (by decide) ?_
  refine lv_iushr (v := i2 (ushrZ (gI s38 1061) 16)) hx hb eX4_draw_2.2.2.2.2.2.1 (i2_of (ushr (i2 (gI s38 1061)) (i2 16))).symm ?_
  obtain ⟨s40, hc39, h⟩ := bn_e h
  refine ywVv (As := [.int (i2 (ushrZ (gI s38 1061) 16))]) (rest := []) (C := RX4) (n := 1) (ws' := CS D a s40) ⟨hx, hb, hml, hown, ht⟩ (k_x4_add l D a (ushrZ (gI s38 1061) 16) _ _ _ hc39) (zgV ml_X4_33 im_X4_add se_X4_add in_X4 co_X4_add) rfl rfl (by decide +kernel) ⟨Nat.le_of_ble_eq_true rfl, Nat.le_of_ble_eq_true rfl⟩ hN hK hP (hDD _) hS hA 16 CW_16 rfl rfl rfl hl.1 rfl (Nat.le_of_ble_eq_true rfl) eX4_draw_2.2.2.2.2.2.2.1 ⟨Nat.le_of_ble_eq_true rfl, Nat.le_of_ble_eq_true rfl⟩ (fun H locs hP hS => ?_)
  refine lv_aload_n hx hb eX4_draw_2.2.2.2.2.2.2.2 rfl (lv_at hl 0 rfl) ?_
  refine lv_aload_n hx hb eX4_draw_17.1 rfl (lv_at hl 1 rfl) ?_
  refine va_get (D := D) (ci := 8) (v := .int (i2 (gI s40 1061))) (C := RX8) (T := TX8) (N := 11) hx hb ht inX8 hown hK hP 53 CW_53 rfl 1 (by decide) (ht (.fieldLink RX4 28 "CloneVolumes$State" "spent" "I") fl_X4_28) (fun _ h9 => h9) rfl eX4_draw_17.2.1 ?_
  refine lv_ldc (own := RX4) (v := 65535) hx hb hown (ht _ ck_X4_37) eX4_draw_17.2.2.1 ?_
  refine lv_iand hx hb eX4_draw_17.2.2.2.1 ?_
  refine z_topi (y := i2 (andZ (gI s40 1061) 65535)) (i2_of (i2 (gI s40 1061) &&& i2 65535)).symm ?_
  obtain ⟨s42, hc41, h⟩ := bn_e h
  refine ywVv (As := [.int (i2 (andZ (gI s40 1061) 65535))]) (rest := []) (C := RX4) (n := 1) (ws' := CS D a s42) ⟨hx, hb, hml, hown, ht⟩ (k_x4_addPair l D a (andZ (gI s40 1061) 65535) _ _ _ hc41) (zgV ml_X4_38 im_X4_addPair se_X4_addPair in_X4 co_X4_addPair) rfl rfl (by decide +kernel) ⟨Nat.le_of_ble_eq_true rfl, Nat.le_of_ble_eq_true rfl⟩ hN hK hP (hDD _) hS hA 16 CW_16 rfl rfl rfl hl.1 rfl (Nat.le_of_ble_eq_true rfl) eX4_draw_17.2.2.2.2.1 ⟨Nat.le_of_ble_eq_true rfl, Nat.le_of_ble_eq_true rfl⟩ (fun H locs hP hS => ?_)
  refine lv_iconst (v := 0) hx hb eX4_draw_17.2.2.2.2.2.1 (by decide) ?_
  refine lv_istore_n (lv' := [(2, .int 0), (0, .ref (a 16)), (1, .ref (a 53))]) hx hb eX4_draw_17.2.2.2.2.2.2.1 rfl hl (by decide) rfl (fun ls hl => ?_)
  exact J29 FU (0, s42) _ _ _ ⟨hP, hS, lv_sub hl [1, 2, 0] rfl, h⟩
set_option maxHeartbeats 4000000 in
set_option maxRecDepth 100000 in
theorem k_x11_image (l : Launch) (D : va_G) (a : Nat → Nat) (sz : Nat) (s : MS) (o : (Int × MS)) (h : m_x11_image s = some o) : yWi l yX11_image cX11_image 1 (some .int) { frames := 4, cells := 0, slots := 0, locals := 240 } D sz [.ref (a 0)] (CS D a s) (CS D a o.2) (i2 o.1) := by
  refine Met.ofW (cc := cX11_image) (maxL := 1) (ret := (some .int)) (by decide) rfl ?_
  intro p e s₀ m args below meth c s₁ B hml hv
  obtain ⟨rfl, ⟨hsz, hP, hK, hD0⟩, hN⟩ := hv
  have hx := B.exec
  have hb := B.bytes
  have hr := B.returns
  have hts := atoms_spec (ws := wz yX11_image cX11_image 1 (some .int)) B.pre
  have ht : ∀ w ∈ lw_gd, w.before _ s₀ = true := fun w h => hts w (List.mem_cons_of_mem _ h)
  have hown : s₀.vm.findClass RX11 = some m.cls := findClass_of_methodNamed B.named
  have hlocks := B.notSynchronized
  subst hsz
  have hD := hD0.self (sz := s₀.heap.size)
  generalize hAe : va_A (CS D a s) s₀.heap.size = A at hD ⊢
  have hA : ∀ q : Nat, s₀.heap.size ≤ q → A q := fun q h => by rw [← hAe]; exact Or.inr h
  have hS : va_S A s₀.heap s₀.heap [] := va_S.rf
  have hDD : ∀ t : MS, va_D A (CS D a t) := fun t => CW_D t hD
  have hl := lv_entry ([.ref (a 0)]) (n := 1) (Nat.le_of_ble_eq_true rfl)
  rw [lg_entry_eq]
  generalize (lg_sl ([.ref (a 0)]) ++ List.replicate (1 - (lg_sl ([.ref (a 0)])).length) Slot.unset).toArray = ls at hl ⊢
  have hl : lv_has ls 1 [(0, .ref (a 0))] := hl
  unfold m_x11_image at h
  refine lv_aload_n hx hb eX11_image_0.1 rfl (lv_at hl 0 rfl) ?_
  refine va_get (D := D) (ci := 11) (v := .ref (a 16)) (C := RX11) (T := TX11) (N := 13) hx hb ht inX11 hown hK hP 0 CW_0 rfl 4 (by decide) (ht (.fieldLink RX11 42 "CloneVolumes" "picture" "LCloneVolumes$Picture;") fl_X11_42) (fun _ h9 => h9) rfl eX11_image_0.2.1 ?_
  refine lv_aload_n hx hb eX11_image_0.2.2.1 rfl (lv_at hl 0 rfl) ?_
  refine va_get (D := D) (ci := 11) (v := .ref (a 49)) (C := RX11) (T := TX11) (N := 13) hx hb ht inX11 hown hK hP 0 CW_0 rfl 11 (by decide) (ht (.fieldLink RX11 79 "CloneVolumes" "forest" "LCloneVolumes$Forest;") fl_X11_79) (fun _ h9 => h9) rfl eX11_image_0.2.2.2.1 ?_
  refine va_get (D := D) (ci := 1) (v := .ref (a 53)) (C := RX1) (T := TX1) (N := 9) hx hb ht inX1 hown hK hP 49 CW_49 rfl 0 (by decide) (ht (.fieldLink RX11 125 "CloneVolumes$Forest" "now" "LCloneVolumes$State;") fl_X11_125) (fun _ h9 => h9) rfl eX11_image_0.2.2.2.2.1 ?_
  obtain ⟨⟨r3, s2⟩, hc1, h⟩ := bn_e h
  refine ywV (r0 := i2 r3) (As := [.ref (a 53)]) (rest := []) (C := RX4) (n := 1) (ws' := CS D a s2) ⟨hx, hb, hml, hown, ht⟩ (k_x4_draw l D a _ _ _ hc1) (zgV ml_X11_336 im_X4_draw se_X4_draw in_X4 co_X4_draw) rfl rfl (by decide +kernel) ⟨Nat.le_of_ble_eq_true rfl, Nat.le_of_ble_eq_true rfl⟩ hN hK hP (hDD _) hS hA 16 CW_16 rfl rfl rfl hl.1 rfl (Nat.le_of_ble_eq_true rfl) eX11_image_0.2.2.2.2.2.1 ⟨Nat.le_of_ble_eq_true rfl, Nat.le_of_ble_eq_true rfl⟩ (fun H locs hP hS => ?_)
  obtain rfl := Option.some.inj h
  exact W.iret (v := (i2 r3)) hx hb hr (fun t ht hW => ⟨⟨_, (), rfl, rfl, by rw [ht]; exact hP, va_K.moved hW.alike hK, hDD _⟩, hS.F ht⟩) hS.2.2 eX11_image_0.2.2.2.2.2.2.1
set_option maxHeartbeats 4000000 in
set_option maxRecDepth 100000 in
theorem k_x11_octet (l : Launch) (D : va_G) (a : Nat → Nat) (p0 : Int) (s : MS) (o : Int) (h : m_x11_octet p0 s = some o) : yRi l yX11_octet cX11_octet 2 (some .int) { frames := 0, cells := 0, slots := 0, locals := 0 } D [.ref (a 0), .int (i2 p0)] (CS D a s) (i2 o) := by
  refine Met.ofW (cc := cX11_octet) (maxL := 2) (ret := (some .int)) (by decide) rfl ?_
  intro p e s₀ m args below meth c s₁ B hml hv
  obtain ⟨rfl, ⟨hP, hK⟩, hN⟩ := hv
  have hx := B.exec
  have hb := B.bytes
  have hr := B.returns
  have hts := atoms_spec (ws := wz yX11_octet cX11_octet 2 (some .int)) B.pre
  have ht : ∀ w ∈ lw_gd, w.before _ s₀ = true := fun w h => hts w (List.mem_cons_of_mem _ h)
  have hown : s₀.vm.findClass RX11 = some m.cls := findClass_of_methodNamed B.named
  have hlocks := B.notSynchronized
  have hS : va_S (fun _ => False) s₀.heap s₀.heap [] := va_S.rf
  have hl := lv_entry ([.ref (a 0), .int (i2 p0)]) (n := 2) (Nat.le_of_ble_eq_true rfl)
  rw [lg_entry_eq]
  generalize (lg_sl ([.ref (a 0), .int (i2 p0)]) ++ List.replicate (2 - (lg_sl ([.ref (a 0), .int (i2 p0)])).length) Slot.unset).toArray = ls at hl ⊢
  have hl : lv_has ls 2 [(0, .ref (a 0)), (1, .int (i2 p0))] := hl
  unfold m_x11_octet at h
  refine y_head (pcJ := 28) (σ := Int) (fun u H locs ls => va_P D vwCl (CS D a s) H ∧ va_S (fun _ => False) s₀.heap H locs ∧ lv_has ls 2 [] ∧ m_x11_octet_J28 s u = some o) (fun u => [.int (i2 u)]) (fun u H locs ls hI => ?_) (fun J28 => ?_)
  · obtain ⟨hP, hS, hl, h⟩ := hI
    obtain ⟨x1, rfl⟩ : ∃ z, z = u := ⟨u, rfl⟩
    have hP : va_P D vwCl (CS D a s) H := hP
    have hl : lv_has ls 2 [] := hl
    have h : m_x11_octet_J28 s x1 = some o := h
    unfold m_x11_octet_J28 at h
    obtain rfl := Option.some.inj h
    exact W.iret (v := (i2 x1)) hx hb hr (fun t ht hW => ⟨⟨_, (), rfl, rfl, trivial⟩, hS.F ht⟩) hS.2.2 eX11_octet_19.2.2.2.2.2.1
  refine y_head (pcJ := 27) (σ := Unit) (fun u H locs ls => va_P D vwCl (CS D a s) H ∧ va_S (fun _ => False) s₀.heap H locs ∧ lv_has ls 2 [] ∧ m_x11_octet_J27 s u = some o) (fun u => []) (fun u H locs ls hI => ?_) (fun J27 => ?_)
  · obtain ⟨hP, hS, hl, h⟩ := hI
    skip
    have hP : va_P D vwCl (CS D a s) H := hP
    have hl : lv_has ls 2 [] := hl
    have h : m_x11_octet_J27 s () = some o := h
    unfold m_x11_octet_J27 at h
    refine lv_iconst (v := (-1)) hx hb eX11_octet_19.2.2.2.2.1 (by decide) ?_
    exact J28 (-1) _ _ _ ⟨hP, hS, lv_sub hl [] rfl, h⟩
  refine lv_iload_n hx hb eX11_image_0.2.2.2.2.2.2.2 rfl (lv_at hl 1 rfl) ?_
  obtain ⟨hr2, h⟩ := rg_e h
  refine lv_if_lt (tgt := 27) hx hb eX11_octet_1.1 (by decide) (fun c3 => ?_) (fun c3 => ?_)
  · have h := if_t ((i2_lt (x := p0) (y := 0) hr2 (by decide)).mp c3) h
    exact J27 () _ _ _ ⟨hP, hS, lv_sub hl [] rfl, h⟩
  · have h := if_f (mt (i2_lt (x := p0) (y := 0) hr2 (by decide)).mpr c3) h
    refine lv_iload_n hx hb eX11_octet_1.2.1 rfl (lv_at hl 1 rfl) ?_
    refine lv_aload_n hx hb eX11_octet_1.2.2.1 rfl (lv_at hl 0 rfl) ?_
    refine va_get (D := D) (ci := 11) (v := .ref (a 16)) (C := RX11) (T := TX11) (N := 13) hx hb ht inX11 hown hK hP 0 CW_0 rfl 4 (by decide) (ht (.fieldLink RX11 42 "CloneVolumes" "picture" "LCloneVolumes$Picture;") fl_X11_42) (fun _ h9 => h9) rfl eX11_octet_1.2.2.2.1 ?_
    refine va_get (D := D) (ci := 4) (v := .int (i2 (gI s 321))) (C := RX4) (T := TX4) (N := 6) hx hb ht inX4 hown hK hP 16 CW_16 rfl 1 (by decide) (ht (.fieldLink RX11 339 "CloneVolumes$Picture" "size" "I") fl_X11_339) (fun _ h9 => h9) rfl eX11_octet_1.2.2.2.2.1 ?_
    obtain ⟨hr4, h⟩ := rg_e h
    obtain ⟨hr5, h⟩ := rg_e h
    refine lv_icmp_ge (tgt := 27) hx hb eX11_octet_1.2.2.2.2.2.1 (by decide) (fun c6 => ?_) (fun c6 => ?_)
    · have h := if_t ((i2_le (x := (gI s 321)) (y := p0) hr5 hr4).mp c6) h
      exact J27 () _ _ _ ⟨hP, hS, lv_sub hl [] rfl, h⟩
    · have h := if_f (mt (i2_le (x := (gI s 321)) (y := p0) hr5 hr4).mpr c6) h
      refine lv_aload_n hx hb eX11_octet_1.2.2.2.2.2.2.1 rfl (lv_at hl 0 rfl) ?_
      refine va_get (D := D) (ci := 11) (v := .ref (a 16)) (C := RX11) (T := TX11) (N := 13) hx hb ht inX11 hown hK hP 0 CW_0 rfl 4 (by decide) (ht (.fieldLink RX11 42 "CloneVolumes" "picture" "LCloneVolumes$Picture;") fl_X11_42) (fun _ h9 => h9) rfl eX11_octet_1.2.2.2.2.2.2.2 ?_
      refine va_get (D := D) (ci := 4) (v := .ref (a 17)) (C := RX4) (T := TX4) (N := 6) hx hb ht inX4 hown hK hP 16 CW_16 rfl 0 (by decide) (ht (.fieldLink RX11 342 "CloneVolumes$Picture" "bytes" "[I") fl_X11_342) (fun _ h9 => h9) rfl eX11_octet_19.1 ?_
      refine lv_iload_n hx hb eX11_octet_19.2.1 rfl (lv_at hl 1 rfl) ?_
      obtain ⟨y7, ey7, iy7, h⟩ := rdI_e h
      refine ya_iald (i := p0) hx hb hK hP 17 0 CW_17 rfl (by decide) ey7 iy7 eX11_octet_19.2.2.1 ?_
      refine lv_goto (tgt := 28) hx hb eX11_octet_19.2.2.2.1 (by decide) ?_
      exact J28 y7 _ _ _ ⟨hP, hS, lv_sub hl [] rfl, h⟩
set_option maxHeartbeats 4000000 in
set_option maxRecDepth 100000 in
theorem k_x2_clear (l : Launch) (D : va_G) (a : Nat → Nat) (sz : Nat) (s : MS) (o : MS) (h : m_x2_clear s = some o) : yWv l yX2_clear cX2_clear 1 none { frames := 0, cells := 0, slots := 0, locals := 0 } D sz [.ref (a 7)] (CS D a s) (CS D a o) := by
  refine Met.ofW (cc := cX2_clear) (maxL := 1) (ret := none) (by decide) rfl ?_
  intro p e s₀ m args below meth c s₁ B hml hv
  obtain ⟨rfl, ⟨hsz, hP, hK, hD0⟩, hN⟩ := hv
  have hx := B.exec
  have hb := B.bytes
  have hr := B.returns
  have hts := atoms_spec (ws := wz yX2_clear cX2_clear 1 none) B.pre
  have ht : ∀ w ∈ lw_gd, w.before _ s₀ = true := fun w h => hts w (List.mem_cons_of_mem _ h)
  have hown : s₀.vm.findClass RX2 = some m.cls := findClass_of_methodNamed B.named
  have hlocks := B.notSynchronized
  subst hsz
  have hD := hD0.self (sz := s₀.heap.size)
  generalize hAe : va_A (CS D a s) s₀.heap.size = A at hD ⊢
  have hA : ∀ q : Nat, s₀.heap.size ≤ q → A q := fun q h => by rw [← hAe]; exact Or.inr h
  have hS : va_S A s₀.heap s₀.heap [] := va_S.rf
  have hDD : ∀ t : MS, va_D A (CS D a t) := fun t => CW_D t hD
  have hl := lv_entry ([.ref (a 7)]) (n := 1) (Nat.le_of_ble_eq_true rfl)
  rw [lg_entry_eq]
  generalize (lg_sl ([.ref (a 7)]) ++ List.replicate (1 - (lg_sl ([.ref (a 7)])).length) Slot.unset).toArray = ls at hl ⊢
  have hl : lv_has ls 1 [(0, .ref (a 7))] := hl
  unfold m_x2_clear at h
  refine lv_aload_n hx hb eX11_octet_19.2.2.2.2.2.2.1 rfl (lv_at hl 0 rfl) ?_
  refine lv_iconst (v := 0) hx hb eX11_octet_19.2.2.2.2.2.2.2 (by decide) ?_
  refine ya_put (D := D) (ci := 2) (v := .int 0) (ty := .int) (C := RX2) (T := TX2) (N := 6) hx hb ht inX2 tyX2 tyX2_ok nmX2 hown hK hP (hDD _) hS 7 CW_7 rfl 3 (by decide) (ht (.fieldLink RX2 27 "CloneVolumes$History" "rows" "I") fl_X2_27) (fun _ h9 => h9) rfl (by decide +kernel) rfl rfl (Nat.le_of_ble_eq_true rfl) eX2_clear_2.1 (CW_w7_3 0) (fun H locs hP hS => ?_)
  obtain ⟨s1, hs1, h⟩ := st_e h
  rw [hs1] at hP
  refine lv_aload_n hx hb eX2_clear_2.2.1 rfl (lv_at hl 0 rfl) ?_
  refine lv_iconst (v := 0) hx hb eX2_clear_2.2.2.1 (by decide) ?_
  refine ya_put (D := D) (ci := 2) (v := .int 0) (ty := .int) (C := RX2) (T := TX2) (N := 6) hx hb ht inX2 tyX2 tyX2_ok nmX2 hown hK hP (hDD _) hS 7 CW_7 rfl 5 (by decide) (ht (.fieldLink RX2 31 "CloneVolumes$History" "depth" "I") fl_X2_31) (fun _ h9 => h9) rfl (by decide +kernel) rfl rfl (Nat.le_of_ble_eq_true rfl) eX2_clear_2.2.2.2.1 (CW_w7_5 0) (fun H locs hP hS => ?_)
  obtain ⟨s2, hs2, h⟩ := st_e h
  rw [hs2] at hP
  obtain rfl := Option.some.inj h
  exact W.vret hx hb hr (fun t ht hW => ⟨⟨(), rfl, trivial, by rw [ht]; exact hP, va_K.moved hW.alike hK, hDD _⟩, hS.F ht⟩) hS.2.2 eX2_clear_2.2.2.2.2.1
set_option maxHeartbeats 4000000 in
set_option maxRecDepth 100000 in
theorem k_x8_isBlock_v2 (l : Launch) (D : va_G) (a : Nat → Nat) (p0 : Int) (s : MS) (o : Int) (h : m_x8_isBlock_v2 p0 s = some o) : yRi l yX8_isBlock cX8_isBlock 2 (some .boolean) { frames := 0, cells := 0, slots := 0, locals := 0 } D [.ref (a 71), .int (i2 p0)] (CS D a s) (i2 o) := by
  refine Met.ofW (cc := cX8_isBlock) (maxL := 2) (ret := (some .boolean)) (by decide) rfl ?_
  intro p e s₀ m args below meth c s₁ B hml hv
  obtain ⟨rfl, ⟨hP, hK⟩, hN⟩ := hv
  have hx := B.exec
  have hb := B.bytes
  have hr := B.returns
  have hts := atoms_spec (ws := wz yX8_isBlock cX8_isBlock 2 (some .boolean)) B.pre
  have ht : ∀ w ∈ lw_gd, w.before _ s₀ = true := fun w h => hts w (List.mem_cons_of_mem _ h)
  have hown : s₀.vm.findClass RX8 = some m.cls := findClass_of_methodNamed B.named
  have hlocks := B.notSynchronized
  have hS : va_S (fun _ => False) s₀.heap s₀.heap [] := va_S.rf
  have hl := lv_entry ([.ref (a 71), .int (i2 p0)]) (n := 2) (Nat.le_of_ble_eq_true rfl)
  rw [lg_entry_eq]
  generalize (lg_sl ([.ref (a 71), .int (i2 p0)]) ++ List.replicate (2 - (lg_sl ([.ref (a 71), .int (i2 p0)])).length) Slot.unset).toArray = ls at hl ⊢
  have hl : lv_has ls 2 [(0, .ref (a 71)), (1, .int (i2 p0))] := hl
  unfold m_x8_isBlock_v2 at h
  refine y_head (pcJ := 17) (σ := Int) (fun u H locs ls => va_P D vwCl (CS D a s) H ∧ va_S (fun _ => False) s₀.heap H locs ∧ lv_has ls 2 [] ∧ m_x8_isBlock_v2_J17 s u = some o) (fun u => [.int (i2 u)]) (fun u H locs ls hI => ?_) (fun J17 => ?_)
  · obtain ⟨hP, hS, hl, h⟩ := hI
    obtain ⟨x1, rfl⟩ : ∃ z, z = u := ⟨u, rfl⟩
    have hP : va_P D vwCl (CS D a s) H := hP
    have hl : lv_has ls 2 [] := hl
    have h : m_x8_isBlock_v2_J17 s x1 = some o := h
    unfold m_x8_isBlock_v2_J17 at h
    obtain ⟨hb2, h⟩ := bo_e h
    obtain rfl := Option.some.inj h
    exact W.zret (v := (i2 x1)) hx hb hr (bo_n hb2) (fun t ht hW => ⟨⟨_, (), rfl, rfl, trivial⟩, hS.F ht⟩) hS.2.2 eX8_isBlock_9.2.2.2.2.1
  refine y_head (pcJ := 16) (σ := Unit) (fun u H locs ls => va_P D vwCl (CS D a s) H ∧ va_S (fun _ => False) s₀.heap H locs ∧ lv_has ls 2 [] ∧ m_x8_isBlock_v2_J16 s u = some o) (fun u => []) (fun u H locs ls hI => ?_) (fun J16 => ?_)
  · obtain ⟨hP, hS, hl, h⟩ := hI
    skip
    have hP : va_P D vwCl (CS D a s) H := hP
    have hl : lv_has ls 2 [] := hl
    have h : m_x8_isBlock_v2_J16 s () = some o := h
    unfold m_x8_isBlock_v2_J16 at h
    refine lv_iconst (v := 0) hx hb eX8_isBlock_9.2.2.2.1 (by decide) ?_
    exact J17 0 _ _ _ ⟨hP, hS, lv_sub hl [] rfl, h⟩
  refine lv_iload_n hx hb eX8_held_31.2.2.2.1 rfl (lv_at hl 1 rfl) ?_
  obtain ⟨hr3, h⟩ := rg_e h
  refine lv_if_lt (tgt := 16) hx hb eX8_held_31.2.2.2.2.1 (by decide) (fun c4 => ?_) (fun c4 => ?_)
  · have h := if_t ((i2_lt (x := p0) (y := 0) hr3 (by decide)).mp c4) h
    exact J16 () _ _ _ ⟨hP, hS, lv_sub hl [] rfl, h⟩
  · have h := if_f (mt (i2_lt (x := p0) (y := 0) hr3 (by decide)).mpr c4) h
    refine lv_iload_n hx hb eX8_held_31.2.2.2.2.2.1 rfl (lv_at hl 1 rfl) ?_
    refine lv_aload_n hx hb eX8_held_31.2.2.2.2.2.2.1 rfl (lv_at hl 0 rfl) ?_
    refine va_get (D := D) (ci := 8) (v := .int (i2 (gI s 1420))) (C := RX8) (T := TX8) (N := 11) hx hb ht inX8 hown hK hP 71 CW_71 rfl 0 (by decide) (ht (.fieldLink RX8 40 "CloneVolumes$State" "blocks" "I") fl_X8_40) (fun _ h9 => h9) rfl eX8_held_31.2.2.2.2.2.2.2 ?_
    obtain ⟨hr5, h⟩ := rg_e h
    obtain ⟨hr6, h⟩ := rg_e h
    refine lv_icmp_ge (tgt := 16) hx hb eX8_isBlock_9.1 (by decide) (fun c7 => ?_) (fun c7 => ?_)
    · have h := if_t ((i2_le (x := (gI s 1420)) (y := p0) hr6 hr5).mp c7) h
      exact J16 () _ _ _ ⟨hP, hS, lv_sub hl [] rfl, h⟩
    · have h := if_f (mt (i2_le (x := (gI s 1420)) (y := p0) hr6 hr5).mpr c7) h
      refine lv_iconst (v := 1) hx hb eX8_isBlock_9.2.1 (by decide) ?_
      refine lv_goto (tgt := 17) hx hb eX8_isBlock_9.2.2.1 (by decide) ?_
      exact J17 1 _ _ _ ⟨hP, hS, lv_sub hl [] rfl, h⟩
set_option maxHeartbeats 4000000 in
set_option maxRecDepth 100000 in
theorem k_x8_isFree_v2 (l : Launch) (D : va_G) (a : Nat → Nat) (p0 : Int) (s : MS) (o : Int) (h : m_x8_isFree_v2 p0 s = some o) : yRi l yX8_isFree cX8_isFree 2 (some .boolean) { frames := 1, cells := 0, slots := 0, locals := 60 } D [.ref (a 71), .int (i2 p0)] (CS D a s) (i2 o) := by
  refine Met.ofW (cc := cX8_isFree) (maxL := 2) (ret := (some .boolean)) (by decide) rfl ?_
  intro p e s₀ m args below meth c s₁ B hml hv
  obtain ⟨rfl, ⟨hP, hK⟩, hN⟩ := hv
  have hx := B.exec
  have hb := B.bytes
  have hr := B.returns
  have hts := atoms_spec (ws := wz yX8_isFree cX8_isFree 2 (some .boolean)) B.pre
  have ht : ∀ w ∈ lw_gd, w.before _ s₀ = true := fun w h => hts w (List.mem_cons_of_mem _ h)
  have hown : s₀.vm.findClass RX8 = some m.cls := findClass_of_methodNamed B.named
  have hlocks := B.notSynchronized
  have hS : va_S (fun _ => False) s₀.heap s₀.heap [] := va_S.rf
  have hl := lv_entry ([.ref (a 71), .int (i2 p0)]) (n := 2) (Nat.le_of_ble_eq_true rfl)
  rw [lg_entry_eq]
  generalize (lg_sl ([.ref (a 71), .int (i2 p0)]) ++ List.replicate (2 - (lg_sl ([.ref (a 71), .int (i2 p0)])).length) Slot.unset).toArray = ls at hl ⊢
  have hl : lv_has ls 2 [(0, .ref (a 71)), (1, .int (i2 p0))] := hl
  unfold m_x8_isFree_v2 at h
  refine y_head (pcJ := 31) (σ := Int) (fun u H locs ls => va_P D vwCl (CS D a s) H ∧ va_S (fun _ => False) s₀.heap H locs ∧ lv_has ls 2 [] ∧ m_x8_isFree_v2_J31 s u = some o) (fun u => [.int (i2 u)]) (fun u H locs ls hI => ?_) (fun J31 => ?_)
  · obtain ⟨hP, hS, hl, h⟩ := hI
    obtain ⟨x1, rfl⟩ : ∃ z, z = u := ⟨u, rfl⟩
    have hP : va_P D vwCl (CS D a s) H := hP
    have hl : lv_has ls 2 [] := hl
    have h : m_x8_isFree_v2_J31 s x1 = some o := h
    unfold m_x8_isFree_v2_J31 at h
    obtain ⟨hb2, h⟩ := bo_e h
    obtain rfl := Option.some.inj h
    exact W.zret (v := (i2 x1)) hx hb hr (bo_n hb2) (fun t ht hW => ⟨⟨_, (), rfl, rfl, trivial⟩, hS.F ht⟩) hS.2.2 eX8_isFree_18.2.2.2.2.2.2.2
  refine y_head (pcJ := 30) (σ := Unit) (fun u H locs ls => va_P D vwCl (CS D a s) H ∧ va_S (fun _ => False) s₀.heap H locs ∧ lv_has ls 2 [] ∧ m_x8_isFree_v2_J30 s u = some o) (fun u => []) (fun u H locs ls hI => ?_) (fun J30 => ?_)
  · obtain ⟨hP, hS, hl, h⟩ := hI
    skip
    have hP : va_P D vwCl (CS D a s) H := hP
    have hl : lv_has ls 2 [] := hl
    have h : m_x8_isFree_v2_J30 s () = some o := h
    unfold m_x8_isFree_v2_J30 at h
    refine lv_iconst (v := 0) hx hb eX8_isFree_18.2.2.2.2.2.2.1 (by decide) ?_
    exact J31 0 _ _ _ ⟨hP, hS, lv_sub hl [] rfl, h⟩
  refine lv_aload_n hx hb eX3_value_116.2.2.2.2.2.2.1 rfl (lv_at hl 0 rfl) ?_
  refine lv_iload_n hx hb eX3_value_116.2.2.2.2.2.2.2 rfl (lv_at hl 1 rfl) ?_
  obtain ⟨r4, hc3, h⟩ := bn_e h
  refine ycV (r0 := i2 r4) (As := [.int (i2 p0)]) (rest := []) (C := RX8) (n := 1) ⟨hx, hb, hml, hown, ht⟩ (k_x8_isBlock_v2 l D a p0 _ _ hc3) (zgV ml_X8_57 im_X8_isBlock se_X8_isBlock in_X8 co_X8_isBlock) rfl rfl (by decide +kernel) ⟨Nat.le_of_ble_eq_true rfl, Nat.le_of_ble_eq_true rfl⟩ hN hK hP hS 71 CW_71 rfl rfl rfl hl.1 rfl (Nat.le_of_ble_eq_true rfl) eX8_isFree_2.1 ⟨Nat.le_of_ble_eq_true rfl, Nat.le_of_ble_eq_true rfl⟩ (fun H locs hP hS => ?_)
  obtain ⟨hr5, h⟩ := rg_e h
  refine lv_if_eq (tgt := 30) hx hb eX8_isFree_2.2.1 (by decide) (fun c6 => ?_) (fun c6 => ?_)
  · have h := if_t ((i2_eq (x := r4) (y := 0) hr5 (by decide)).mp c6) h
    exact J30 () _ _ _ ⟨hP, hS, lv_sub hl [] rfl, h⟩
  · have h := if_f (mt (i2_eq (x := r4) (y := 0) hr5 (by decide)).mpr c6) h
    refine lv_aload_n hx hb eX8_isFree_2.2.2.1 rfl (lv_at hl 0 rfl) ?_
    refine va_get (D := D) (ci := 8) (v := .ref (a 72)) (C := RX8) (T := TX8) (N := 11) hx hb ht inX8 hown hK hP 71 CW_71 rfl 3 (by decide) (ht (.fieldLink RX8 9 "CloneVolumes$State" "count" "[I") fl_X8_9) (fun _ h9 => h9) rfl eX8_isFree_2.2.2.2.1 ?_
    refine lv_iload_n hx hb eX8_isFree_2.2.2.2.2.1 rfl (lv_at hl 1 rfl) ?_
    obtain ⟨y7, ey7, iy7, h⟩ := rdI_e h
    refine ya_iald (i := p0) hx hb hK hP 72 0 CW_72 rfl (by decide) ey7 iy7 eX8_isFree_2.2.2.2.2.2.1 ?_
    obtain ⟨hr8, h⟩ := rg_e h
    refine lv_if_ne (tgt := 30) hx hb eX8_isFree_2.2.2.2.2.2.2.1 (by decide) (fun c9 => ?_) (fun c9 => ?_)
    · have h := if_f (mt (i2_eq (x := y7) (y := 0) hr8 (by decide)).mpr c9) h
      exact J30 () _ _ _ ⟨hP, hS, lv_sub hl [] rfl, h⟩
    · have h := if_t ((i2_eq (x := y7) (y := 0) hr8 (by decide)).mp c9) h
      refine lv_aload_n hx hb eX8_isFree_2.2.2.2.2.2.2.2 rfl (lv_at hl 0 rfl) ?_
      refine va_get (D := D) (ci := 8) (v := .ref (a 73)) (C := RX8) (T := TX8) (N := 11) hx hb ht inX8 hown hK hP 71 CW_71 rfl 4 (by decide) (ht (.fieldLink RX8 15 "CloneVolumes$State" "saved" "[I") fl_X8_15) (fun _ h9 => h9) rfl eX8_isFree_18.1 ?_
      refine lv_iload_n hx hb eX8_isFree_18.2.1 rfl (lv_at hl 1 rfl) ?_
      obtain ⟨y10, ey10, iy10, h⟩ := rdI_e h
      refine ya_iald (i := p0) hx hb hK hP 73 0 CW_73 rfl (by decide) ey10 iy10 eX8_isFree_18.2.2.1 ?_
      obtain ⟨hr11, h⟩ := rg_e h
      refine lv_if_ne (tgt := 30) hx hb eX8_isFree_18.2.2.2.1 (by decide) (fun c12 => ?_) (fun c12 => ?_)
      · have h := if_f (mt (i2_eq (x := y10) (y := 0) hr11 (by decide)).mpr c12) h
        exact J30 () _ _ _ ⟨hP, hS, lv_sub hl [] rfl, h⟩
      · have h := if_t ((i2_eq (x := y10) (y := 0) hr11 (by decide)).mp c12) h
        refine lv_iconst (v := 1) hx hb eX8_isFree_18.2.2.2.2.1 (by decide) ?_
        refine lv_goto (tgt := 31) hx hb eX8_isFree_18.2.2.2.2.2.1 (by decide) ?_
        exact J31 1 _ _ _ ⟨hP, hS, lv_sub hl [] rfl, h⟩
set_option maxHeartbeats 4000000 in
set_option maxRecDepth 100000 in
theorem k_x8_slot_v2 (l : Launch) (D : va_G) (a : Nat → Nat) (p0 : Int) (p1 : Int) (s : MS) (o : Int) (h : m_x8_slot_v2 p0 p1 s = some o) : yRi l yX8_slot cX8_slot 3 (some .int) { frames := 0, cells := 0, slots := 0, locals := 0 } D [.ref (a 71), .int (i2 p0), .int (i2 p1)] (CS D a s) (i2 o) := by
  refine Met.ofW (cc := cX8_slot) (maxL := 3) (ret := (some .int)) (by decide) rfl ?_
  intro p e s₀ m args below meth c s₁ B hml hv
  obtain ⟨rfl, ⟨hP, hK⟩, hN⟩ := hv
  have hx := B.exec
  have hb := B.bytes
  have hr := B.returns
  have hts := atoms_spec (ws := wz yX8_slot cX8_slot 3 (some .int)) B.pre
  have ht : ∀ w ∈ lw_gd, w.before _ s₀ = true := fun w h => hts w (List.mem_cons_of_mem _ h)
  have hown : s₀.vm.findClass RX8 = some m.cls := findClass_of_methodNamed B.named
  have hlocks := B.notSynchronized
  have hS : va_S (fun _ => False) s₀.heap s₀.heap [] := va_S.rf
  have hl := lv_entry ([.ref (a 71), .int (i2 p0), .int (i2 p1)]) (n := 3) (Nat.le_of_ble_eq_true rfl)
  rw [lg_entry_eq]
  generalize (lg_sl ([.ref (a 71), .int (i2 p0), .int (i2 p1)]) ++ List.replicate (3 - (lg_sl ([.ref (a 71), .int (i2 p0), .int (i2 p1)])).length) Slot.unset).toArray = ls at hl ⊢
  have hl : lv_has ls 3 [(0, .ref (a 71)), (1, .int (i2 p0)), (2, .int (i2 p1))] := hl
  unfold m_x8_slot_v2 at h
  refine lv_iload_n hx hb eX8_isVolume_16.2.2.2.2.2.2.1 rfl (lv_at hl 1 rfl) ?_
  refine lv_bipush (v := 6) hx hb eX8_isVolume_16.2.2.2.2.2.2.2 (by decide) ?_
  refine lv_imul hx hb eX8_slot_3.1 ?_
  refine z_topi (y := i2 (p0 * 6)) (i2_mul p0 6) ?_
  refine lv_iload_n hx hb eX8_slot_3.2.1 rfl (lv_at hl 2 rfl) ?_
  refine lv_iadd hx hb eX8_slot_3.2.2.1 ?_
  refine z_topi (y := i2 ((p0 * 6) + p1)) (i2_add (p0 * 6) p1) ?_
  obtain rfl := Option.some.inj h
  exact W.iret (v := (i2 ((p0 * 6) + p1))) hx hb hr (fun t ht hW => ⟨⟨_, (), rfl, rfl, trivial⟩, hS.F ht⟩) hS.2.2 eX8_slot_3.2.2.2.1
set_option maxHeartbeats 4000000 in
set_option maxRecDepth 100000 in
theorem k_x4_isSoundChild (l : Launch) (D : va_G) (a : Nat → Nat) (p1 : Int) (p2 : Int) (s : MS) (o : Int) (h : m_x4_isSoundChild p1 p2 s = some o) : yRi l yX4_isSoundChild cX4_isSoundChild 5 (some .boolean) { frames := 2, cells := 0, slots := 0, locals := 120 } D [.ref (a 16), .ref (a 71), .int (i2 p1), .int (i2 p2)] (CS D a s) (i2 o) := by
  refine Met.ofW (cc := cX4_isSoundChild) (maxL := 5) (ret := (some .boolean)) (by decide) rfl ?_
  intro p e s₀ m args below meth c s₁ B hml hv
  obtain ⟨rfl, ⟨hP, hK⟩, hN⟩ := hv
  have hx := B.exec
  have hb := B.bytes
  have hr := B.returns
  have hts := atoms_spec (ws := wz yX4_isSoundChild cX4_isSoundChild 5 (some .boolean)) B.pre
  have ht : ∀ w ∈ lw_gd, w.before _ s₀ = true := fun w h => hts w (List.mem_cons_of_mem _ h)
  have hown : s₀.vm.findClass RX4 = some m.cls := findClass_of_methodNamed B.named
  have hlocks := B.notSynchronized
  have hS : va_S (fun _ => False) s₀.heap s₀.heap [] := va_S.rf
  have hl := lv_entry ([.ref (a 16), .ref (a 71), .int (i2 p1), .int (i2 p2)]) (n := 5) (Nat.le_of_ble_eq_true rfl)
  rw [lg_entry_eq]
  generalize (lg_sl ([.ref (a 16), .ref (a 71), .int (i2 p1), .int (i2 p2)]) ++ List.replicate (5 - (lg_sl ([.ref (a 16), .ref (a 71), .int (i2 p1), .int (i2 p2)])).length) Slot.unset).toArray = ls at hl ⊢
  have hl : lv_has ls 5 [(0, .ref (a 16)), (1, .ref (a 71)), (2, .int (i2 p1)), (3, .int (i2 p2))] := hl
  unfold m_x4_isSoundChild at h
  refine y_head (pcJ := 118) (σ := Int) (fun u H locs ls => va_P D vwCl (CS D a s) H ∧ va_S (fun _ => False) s₀.heap H locs ∧ lv_has ls 5 [] ∧ m_x4_isSoundChild_J118 s u = some o) (fun u => [.int (i2 u)]) (fun u H locs ls hI => ?_) (fun J118 => ?_)
  · obtain ⟨hP, hS, hl, h⟩ := hI
    obtain ⟨x1, rfl⟩ : ∃ z, z = u := ⟨u, rfl⟩
    have hP : va_P D vwCl (CS D a s) H := hP
    have hl : lv_has ls 5 [] := hl
    have h : m_x4_isSoundChild_J118 s x1 = some o := h
    unfold m_x4_isSoundChild_J118 at h
    obtain ⟨hb2, h⟩ := bo_e h
    obtain rfl := Option.some.inj h
    exact W.zret (v := (i2 x1)) hx hb hr (bo_n hb2) (fun t ht hW => ⟨⟨_, (), rfl, rfl, trivial⟩, hS.F ht⟩) hS.2.2 eX4_isSoundChild_109.2.2.2.2.2.1
  refine y_head (pcJ := 113) (σ := Unit) (fun u H locs ls => va_P D vwCl (CS D a s) H ∧ va_S (fun _ => False) s₀.heap H locs ∧ lv_has ls 5 [] ∧ m_x4_isSoundChild_J113 s u = some o) (fun u => []) (fun u H locs ls hI => ?_) (fun J113 => ?_)
  · obtain ⟨hP, hS, hl, h⟩ := hI
    skip
    have hP : va_P D vwCl (CS D a s) H := hP
    have hl : lv_has ls 5 [] := hl
    have h : m_x4_isSoundChild_J113 s () = some o := h
    unfold m_x4_isSoundChild_J113 at h
    refine lv_iconst (v := 1) hx hb eX4_isSoundChild_109.2.2.1 (by decide) ?_
    refine lv_goto (tgt := 118) hx hb eX4_isSoundChild_109.2.2.2.1 (by decide) ?_
    exact J118 1 _ _ _ ⟨hP, hS, lv_sub hl [] rfl, h⟩
  refine y_head (pcJ := 78) (σ := Int × Int × Int) (fun u H locs ls => va_P D vwCl (CS D a s) H ∧ va_S (fun _ => False) s₀.heap H locs ∧ lv_has ls 5 [(0, .ref (a 16)), (1, .ref (a 71)), (2, .int (i2 u.1)), (3, .int (i2 u.2.1)), (4, .int (i2 u.2.2))] ∧ m_x4_isSoundChild_J78 s u.1 u.2.1 u.2.2 = some o) (fun u => []) (fun u H locs ls hI => ?_) (fun J78 => ?_)
  · obtain ⟨hP, hS, hl, h⟩ := hI
    obtain ⟨x3, x4, x5⟩ := u
    have hP : va_P D vwCl (CS D a s) H := hP
    have hl : lv_has ls 5 [(0, .ref (a 16)), (1, .ref (a 71)), (2, .int (i2 x3)), (3, .int (i2 x4)), (4, .int (i2 x5))] := hl
    have h : m_x4_isSoundChild_J78 s x3 x4 x5 = some o := h
    unfold m_x4_isSoundChild_J78 at h
    refine lv_iload_n hx hb eX4_isSoundChild_72.2.2.2.2.1 rfl (lv_at hl 3 rfl) ?_
    refine lv_iconst (v := 1) hx hb eX4_isSoundChild_72.2.2.2.2.2.1 (by decide) ?_
    refine lv_iadd hx hb eX4_isSoundChild_72.2.2.2.2.2.2.1 ?_
    refine z_topi (y := i2 (x4 + 1)) (i2_add x4 1) ?_
    refine lv_aload_n hx hb eX4_isSoundChild_72.2.2.2.2.2.2.2 rfl (lv_at hl 1 rfl) ?_
    refine va_get (D := D) (ci := 8) (v := .ref (a 75)) (C := RX8) (T := TX8) (N := 11) hx hb ht inX8 hown hK hP 71 CW_71 rfl 6 (by decide) (ht (.fieldLink RX4 75 "CloneVolumes$State" "size" "[I") fl_X4_75) (fun _ h9 => h9) rfl eX4_isSoundChild_82.1 ?_
    refine lv_iload_n hx hb eX4_isSoundChild_82.2.1 rfl (lv_at hl 2 rfl) ?_
    obtain ⟨y6, ey6, iy6, h⟩ := rdI_e h
    refine ya_iald (i := x3) hx hb hK hP 75 0 CW_75 rfl (by decide) ey6 iy6 eX4_isSoundChild_82.2.2.1 ?_
    obtain ⟨hr7, h⟩ := rg_e h
    obtain ⟨hr8, h⟩ := rg_e h
    refine lv_icmp_ge (tgt := 113) hx hb eX4_isSoundChild_82.2.2.2.1 (by decide) (fun c9 => ?_) (fun c9 => ?_)
    · have h := if_t ((i2_le (x := y6) (y := (x4 + 1)) hr8 hr7).mp c9) h
      exact J113 () _ _ _ ⟨hP, hS, lv_sub hl [] rfl, h⟩
    · have h := if_f (mt (i2_le (x := y6) (y := (x4 + 1)) hr8 hr7).mpr c9) h
      refine lv_aload_n hx hb eX4_isSoundChild_82.2.2.2.2.1 rfl (lv_at hl 0 rfl) ?_
      refine va_get (D := D) (ci := 4) (v := .ref (a 19)) (C := RX4) (T := TX4) (N := 6) hx hb ht inX4 hown hK hP 16 CW_16 rfl 4 (by decide) (ht (.fieldLink RX4 18 "CloneVolumes$Picture" "highest" "[I") fl_X4_18) (fun _ h9 => h9) rfl eX4_isSoundChild_82.2.2.2.2.2.1 ?_
      refine lv_iload hx hb eX4_isSoundChild_82.2.2.2.2.2.2.1 (lv_at hl 4 rfl) ?_
      obtain ⟨y10, ey10, iy10, h⟩ := rdI_e h
      refine ya_iald (i := x5) hx hb hK hP 19 0 CW_19 rfl (by decide) ey10 iy10 eX4_isSoundChild_82.2.2.2.2.2.2.2 ?_
      refine lv_aload_n hx hb eX4_isSoundChild_97.1 rfl (lv_at hl 1 rfl) ?_
      refine va_get (D := D) (ci := 8) (v := .ref (a 76)) (C := RX8) (T := TX8) (N := 11) hx hb ht inX8 hown hK hP 71 CW_71 rfl 7 (by decide) (ht (.fieldLink RX4 77 "CloneVolumes$State" "keys" "[I") fl_X4_77) (fun _ h9 => h9) rfl eX4_isSoundChild_97.2.1 ?_
      refine lv_aload_n hx hb eX4_isSoundChild_97.2.2.1 rfl (lv_at hl 1 rfl) ?_
      refine lv_iload_n hx hb eX4_isSoundChild_97.2.2.2.1 rfl (lv_at hl 2 rfl) ?_
      refine lv_iload_n hx hb eX4_isSoundChild_97.2.2.2.2.1 rfl (lv_at hl 3 rfl) ?_
      refine lv_iconst (v := 1) hx hb eX4_isSoundChild_97.2.2.2.2.2.1 (by decide) ?_
      refine lv_iadd hx hb eX4_isSoundChild_97.2.2.2.2.2.2.1 ?_
      refine z_topi (y := i2 (x4 + 1)) (i2_add x4 1) ?_
      obtain ⟨r12, hc11, h⟩ := bn_e h
      refine ycV (r0 := i2 r12) (As := [.int (i2 x3), .int (i2 (x4 + 1))]) (rest := [.ref (a 76), .int (i2 y10)]) (C := RX8) (n := 2) ⟨hx, hb, hml, hown, ht⟩ (k_x8_slot_v2 l D a x3 (x4 + 1) _ _ hc11) (zgV ml_X4_80 im_X8_slot se_X8_slot in_X8 co_X8_slot) rfl rfl (by decide +kernel) ⟨Nat.le_of_ble_eq_true rfl, Nat.le_of_ble_eq_true rfl⟩ hN hK hP hS 71 CW_71 rfl rfl rfl hl.1 rfl (Nat.le_of_ble_eq_true rfl) eX4_isSoundChild_97.2.2.2.2.2.2.2 ⟨Nat.le_of_ble_eq_true rfl, Nat.le_of_ble_eq_true rfl⟩ (fun H locs hP hS => ?_)
      obtain ⟨y13, ey13, iy13, h⟩ := rdI_e h
      refine ya_iald (i := r12) hx hb hK hP 76 0 CW_76 rfl (by decide) ey13 iy13 eX4_isSoundChild_109.1 ?_
      obtain ⟨hr14, h⟩ := rg_e h
      obtain ⟨hr15, h⟩ := rg_e h
      refine lv_icmp_ge (tgt := 117) hx hb eX4_isSoundChild_109.2.1 (by decide) (fun c16 => ?_) (fun c16 => ?_)
      · have h := if_t ((i2_le (x := y13) (y := y10) hr15 hr14).mp c16) h
        refine lv_iconst (v := 0) hx hb eX4_isSoundChild_109.2.2.2.2.1 (by decide) ?_
        exact J118 0 _ _ _ ⟨hP, hS, lv_sub hl [] rfl, h⟩
      · have h := if_f (mt (i2_le (x := y13) (y := y10) hr15 hr14).mpr c16) h
        exact J113 () _ _ _ ⟨hP, hS, lv_sub hl [] rfl, h⟩
  refine y_head (pcJ := 49) (σ := Unit) (fun u H locs ls => va_P D vwCl (CS D a s) H ∧ va_S (fun _ => False) s₀.heap H locs ∧ lv_has ls 5 [] ∧ m_x4_isSoundChild_J49 s u = some o) (fun u => []) (fun u H locs ls hI => ?_) (fun J49 => ?_)
  · obtain ⟨hP, hS, hl, h⟩ := hI
    skip
    have hP : va_P D vwCl (CS D a s) H := hP
    have hl : lv_has ls 5 [] := hl
    have h : m_x4_isSoundChild_J49 s () = some o := h
    unfold m_x4_isSoundChild_J49 at h
    refine lv_iconst (v := 0) hx hb eX4_isSoundChild_45.2.2.1 (by decide) ?_
    obtain rfl := Option.some.inj h
    exact W.zret (v := 0) hx hb hr (by decide) (fun t ht hW => ⟨⟨_, (), rfl, rfl, trivial⟩, hS.F ht⟩) hS.2.2 eX4_isSoundChild_45.2.2.2.1
  refine lv_aload_n hx hb eX4_isSoundBlock_182.2.2.2.2.2.2.2 rfl (lv_at hl 1 rfl) ?_
  refine va_get (D := D) (ci := 8) (v := .ref (a 77)) (C := RX8) (T := TX8) (N := 11) hx hb ht inX8 hown hK hP 71 CW_71 rfl 8 (by decide) (ht (.fieldLink RX4 84 "CloneVolumes$State" "values" "[I") fl_X4_84) (fun _ h9 => h9) rfl eX4_isSoundChild_1.1 ?_
  refine lv_aload_n hx hb eX4_isSoundChild_1.2.1 rfl (lv_at hl 1 rfl) ?_
  refine lv_iload_n hx hb eX4_isSoundChild_1.2.2.1 rfl (lv_at hl 2 rfl) ?_
  refine lv_iload_n hx hb eX4_isSoundChild_1.2.2.2.1 rfl (lv_at hl 3 rfl) ?_
  obtain ⟨r18, hc17, h⟩ := bn_e h
  refine ycV (r0 := i2 r18) (As := [.int (i2 p1), .int (i2 p2)]) (rest := [.ref (a 77)]) (C := RX8) (n := 2) ⟨hx, hb, hml, hown, ht⟩ (k_x8_slot_v2 l D a p1 p2 _ _ hc17) (zgV ml_X4_80 im_X8_slot se_X8_slot in_X8 co_X8_slot) rfl rfl (by decide +kernel) ⟨Nat.le_of_ble_eq_true rfl, Nat.le_of_ble_eq_true rfl⟩ hN hK hP hS 71 CW_71 rfl rfl rfl hl.1 rfl (Nat.le_of_ble_eq_true rfl) eX4_isSoundChild_1.2.2.2.2.1 ⟨Nat.le_of_ble_eq_true rfl, Nat.le_of_ble_eq_true rfl⟩ (fun H locs hP hS => ?_)
  obtain ⟨y19, ey19, iy19, h⟩ := rdI_e h
  refine ya_iald (i := r18) hx hb hK hP 77 0 CW_77 rfl (by decide) ey19 iy19 eX4_isSoundChild_1.2.2.2.2.2.1 ?_
  refine lv_istore (lv' := [(4, .int (i2 y19)), (0, .ref (a 16)), (1, .ref (a 71)), (2, .int (i2 p1)), (3, .int (i2 p2))]) hx hb eX4_isSoundChild_1.2.2.2.2.2.2.1 hl (by decide) rfl (fun ls hl => ?_)
  refine lv_aload_n hx hb eX4_isSoundChild_1.2.2.2.2.2.2.2 rfl (lv_at hl 2 rfl) ?_
  refine lv_iload hx hb eX4_isSoundChild_14.1 (lv_at hl 0 rfl) ?_
  obtain ⟨r21, hc20, h⟩ := bn_e h
  refine ycV (r0 := i2 r21) (As := [.int (i2 y19)]) (rest := []) (C := RX8) (n := 1) ⟨hx, hb, hml, hown, ht⟩ (k_x8_isBlock_v2 l D a y19 _ _ hc20) (zgV ml_X4_140 im_X8_isBlock se_X8_isBlock in_X8 co_X8_isBlock) rfl rfl (by decide +kernel) ⟨Nat.le_of_ble_eq_true rfl, Nat.le_of_ble_eq_true rfl⟩ hN hK hP hS 71 CW_71 rfl rfl rfl hl.1 rfl (Nat.le_of_ble_eq_true rfl) eX4_isSoundChild_14.2.1 ⟨Nat.le_of_ble_eq_true rfl, Nat.le_of_ble_eq_true rfl⟩ (fun H locs hP hS => ?_)
  obtain ⟨hr22, h⟩ := rg_e h
  refine lv_if_eq (tgt := 49) hx hb eX4_isSoundChild_14.2.2.1 (by decide) (fun c23 => ?_) (fun c23 => ?_)
  · have h := if_t ((i2_eq (x := r21) (y := 0) hr22 (by decide)).mp c23) h
    exact J49 () _ _ _ ⟨hP, hS, lv_sub hl [] rfl, h⟩
  · have h := if_f (mt (i2_eq (x := r21) (y := 0) hr22 (by decide)).mpr c23) h
    refine lv_aload_n hx hb eX4_isSoundChild_14.2.2.2.1 rfl (lv_at hl 2 rfl) ?_
    refine lv_iload hx hb eX4_isSoundChild_14.2.2.2.2.1 (lv_at hl 0 rfl) ?_
    obtain ⟨r25, hc24, h⟩ := bn_e h
    refine ycV (r0 := i2 r25) (As := [.int (i2 y19)]) (rest := []) (C := RX8) (n := 1) ⟨hx, hb, hml, hown, ht⟩ (k_x8_isFree_v2 l D a y19 _ _ hc24) (zgV ml_X4_60 im_X8_isFree se_X8_isFree in_X8 co_X8_isFree) rfl rfl (by decide +kernel) ⟨Nat.le_of_ble_eq_true rfl, Nat.le_of_ble_eq_true rfl⟩ hN hK hP hS 71 CW_71 rfl rfl rfl hl.1 rfl (Nat.le_of_ble_eq_true rfl) eX4_isSoundChild_14.2.2.2.2.2.1 ⟨Nat.le_of_ble_eq_true rfl, Nat.le_of_ble_eq_true rfl⟩ (fun H locs hP hS => ?_)
    obtain ⟨hr26, h⟩ := rg_e h
    refine lv_if_ne (tgt := 49) hx hb eX4_isSoundChild_14.2.2.2.2.2.2.1 (by decide) (fun c27 => ?_) (fun c27 => ?_)
    · have h := if_f (mt (i2_eq (x := r25) (y := 0) hr26 (by decide)).mpr c27) h
      exact J49 () _ _ _ ⟨hP, hS, lv_sub hl [] rfl, h⟩
    · have h := if_t ((i2_eq (x := r25) (y := 0) hr26 (by decide)).mp c27) h
      refine lv_aload_n hx hb eX4_isSoundChild_14.2.2.2.2.2.2.2 rfl (lv_at hl 2 rfl) ?_
      refine va_get (D := D) (ci := 8) (v := .ref (a 74)) (C := RX8) (T := TX8) (N := 11) hx hb ht inX8 hown hK hP 71 CW_71 rfl 5 (by decide) (ht (.fieldLink RX4 72 "CloneVolumes$State" "level" "[I") fl_X4_72) (fun _ h9 => h9) rfl eX4_isSoundChild_32.1 ?_
      refine lv_iload hx hb eX4_isSoundChild_32.2.1 (lv_at hl 0 rfl) ?_
      obtain ⟨y28, ey28, iy28, h⟩ := rdI_e h
      refine ya_iald (i := y19) hx hb hK hP 74 0 CW_74 rfl (by decide) ey28 iy28 eX4_isSoundChild_32.2.2.1 ?_
      refine lv_aload_n hx hb eX4_isSoundChild_32.2.2.2.1 rfl (lv_at hl 2 rfl) ?_
      refine va_get (D := D) (ci := 8) (v := .ref (a 74)) (C := RX8) (T := TX8) (N := 11) hx hb ht inX8 hown hK hP 71 CW_71 rfl 5 (by decide) (ht (.fieldLink RX4 72 "CloneVolumes$State" "level" "[I") fl_X4_72) (fun _ h9 => h9) rfl eX4_isSoundChild_32.2.2.2.2.1 ?_
      refine lv_iload_n hx hb eX4_isSoundChild_32.2.2.2.2.2.1 rfl (lv_at hl 3 rfl) ?_
      obtain ⟨y29, ey29, iy29, h⟩ := rdI_e h
      refine ya_iald (i := p1) hx hb hK hP 74 0 CW_74 rfl (by decide) ey29 iy29 eX4_isSoundChild_32.2.2.2.2.2.2.1 ?_
      refine lv_iconst (v := 1) hx hb eX4_isSoundChild_32.2.2.2.2.2.2.2 (by decide) ?_
      refine lv_isub hx hb eX4_isSoundChild_45.1 ?_
      refine z_topi (y := i2 (y29 - 1)) (i2_sub y29 1) ?_
      obtain ⟨hr30, h⟩ := rg_e h
      obtain ⟨hr31, h⟩ := rg_e h
      refine lv_icmp_eq (tgt := 51) hx hb eX4_isSoundChild_45.2.1 (by decide) (fun c32 => ?_) (fun c32 => ?_)
      · have h := if_t ((i2_eq (x := y28) (y := (y29 - 1)) hr30 hr31).mp c32) h
        refine lv_iload_n hx hb eX4_isSoundChild_45.2.2.2.2.1 rfl (lv_at hl 4 rfl) ?_
        obtain ⟨hr33, h⟩ := rg_e h
        refine lv_if_le (tgt := 78) hx hb eX4_isSoundChild_45.2.2.2.2.2.1 (by decide) (fun c34 => ?_) (fun c34 => ?_)
        · have h := if_t ((i2_le (x := p2) (y := 0) hr33 (by decide)).mp c34) h
          exact J78 (p1, p2, y19) _ _ _ ⟨hP, hS, lv_sub hl [1, 2, 3, 4, 0] rfl, h⟩
        · have h := if_f (mt (i2_le (x := p2) (y := 0) hr33 (by decide)).mpr c34) h
          refine lv_aload_n hx hb eX4_isSoundChild_45.2.2.2.2.2.2.1 rfl (lv_at hl 1 rfl) ?_
          refine va_get (D := D) (ci := 4) (v := .ref (a 18)) (C := RX4) (T := TX4) (N := 6) hx hb ht inX4 hown hK hP 16 CW_16 rfl 3 (by decide) (ht (.fieldLink RX4 15 "CloneVolumes$Picture" "lowest" "[I") fl_X4_15) (fun _ h9 => h9) rfl eX4_isSoundChild_45.2.2.2.2.2.2.2 ?_
          refine lv_iload hx hb eX4_isSoundChild_59.1 (lv_at hl 0 rfl) ?_
          obtain ⟨y35, ey35, iy35, h⟩ := rdI_e h
          refine ya_iald (i := y19) hx hb hK hP 18 0 CW_18 rfl (by decide) ey35 iy35 eX4_isSoundChild_59.2.1 ?_
          refine lv_aload_n hx hb eX4_isSoundChild_59.2.2.1 rfl (lv_at hl 2 rfl) ?_
          refine va_get (D := D) (ci := 8) (v := .ref (a 76)) (C := RX8) (T := TX8) (N := 11) hx hb ht inX8 hown hK hP 71 CW_71 rfl 7 (by decide) (ht (.fieldLink RX4 77 "CloneVolumes$State" "keys" "[I") fl_X4_77) (fun _ h9 => h9) rfl eX4_isSoundChild_59.2.2.2.1 ?_
          refine lv_aload_n hx hb eX4_isSoundChild_59.2.2.2.2.1 rfl (lv_at hl 2 rfl) ?_
          refine lv_iload_n hx hb eX4_isSoundChild_59.2.2.2.2.2.1 rfl (lv_at hl 3 rfl) ?_
          refine lv_iload_n hx hb eX4_isSoundChild_59.2.2.2.2.2.2.1 rfl (lv_at hl 4 rfl) ?_
          obtain ⟨r37, hc36, h⟩ := bn_e h
          refine ycV (r0 := i2 r37) (As := [.int (i2 p1), .int (i2 p2)]) (rest := [.ref (a 76), .int (i2 y35)]) (C := RX8) (n := 2) ⟨hx, hb, hml, hown, ht⟩ (k_x8_slot_v2 l D a p1 p2 _ _ hc36) (zgV ml_X4_80 im_X8_slot se_X8_slot in_X8 co_X8_slot) rfl rfl (by decide +kernel) ⟨Nat.le_of_ble_eq_true rfl, Nat.le_of_ble_eq_true rfl⟩ hN hK hP hS 71 CW_71 rfl rfl rfl hl.1 rfl (Nat.le_of_ble_eq_true rfl) eX4_isSoundChild_59.2.2.2.2.2.2.2 ⟨Nat.le_of_ble_eq_true rfl, Nat.le_of_ble_eq_true rfl⟩ (fun H locs hP hS => ?_)
          obtain ⟨y38, ey38, iy38, h⟩ := rdI_e h
          refine ya_iald (i := r37) hx hb hK hP 76 0 CW_76 rfl (by decide) ey38 iy38 eX4_isSoundChild_72.1 ?_
          obtain ⟨hr39, h⟩ := rg_e h
          obtain ⟨hr40, h⟩ := rg_e h
          refine lv_icmp_ge (tgt := 78) hx hb eX4_isSoundChild_72.2.1 (by decide) (fun c41 => ?_) (fun c41 => ?_)
          · have h := if_t ((i2_le (x := y38) (y := y35) hr40 hr39).mp c41) h
            exact J78 (p1, p2, y19) _ _ _ ⟨hP, hS, lv_sub hl [1, 2, 3, 4, 0] rfl, h⟩
          · have h := if_f (mt (i2_le (x := y38) (y := y35) hr40 hr39).mpr c41) h
            refine lv_iconst (v := 0) hx hb eX4_isSoundChild_72.2.2.1 (by decide) ?_
            obtain rfl := Option.some.inj h
            exact W.zret (v := 0) hx hb hr (by decide) (fun t ht hW => ⟨⟨_, (), rfl, rfl, trivial⟩, hS.F ht⟩) hS.2.2 eX4_isSoundChild_72.2.2.2.1
      · have h := if_f (mt (i2_eq (x := y28) (y := (y29 - 1)) hr30 hr31).mpr c32) h
        exact J49 () _ _ _ ⟨hP, hS, lv_sub hl [] rfl, h⟩
set_option maxHeartbeats 4000000 in
set_option maxRecDepth 100000 in
theorem k_x4_isSoundBlock (l : Launch) (D : va_G) (a : Nat → Nat) (p1 : Int) (sz : Nat) (s : MS) (o : (Int × MS)) (h : m_x4_isSoundBlock p1 s = some o) : yWi l yX4_isSoundBlock cX4_isSoundBlock 6 (some .boolean) { frames := 3, cells := 0, slots := 0, locals := 180 } D sz [.ref (a 16), .ref (a 71), .int (i2 p1)] (CS D a s) (CS D a o.2) (i2 o.1) := by
  refine Met.ofW (cc := cX4_isSoundBlock) (maxL := 6) (ret := (some .boolean)) (by decide) rfl ?_
  intro p e s₀ m args below meth c s₁ B hml hv
  obtain ⟨rfl, ⟨hsz, hP, hK, hD0⟩, hN⟩ := hv
  have hx := B.exec
  have hb := B.bytes
  have hr := B.returns
  have hts := atoms_spec (ws := wz yX4_isSoundBlock cX4_isSoundBlock 6 (some .boolean)) B.pre
  have ht : ∀ w ∈ lw_gd, w.before _ s₀ = true := fun w h => hts w (List.mem_cons_of_mem _ h)
  have hown : s₀.vm.findClass RX4 = some m.cls := findClass_of_methodNamed B.named
  have hlocks := B.notSynchronized
  subst hsz
  have hD := hD0.self (sz := s₀.heap.size)
  generalize hAe : va_A (CS D a s) s₀.heap.size = A at hD ⊢
  have hA : ∀ q : Nat, s₀.heap.size ≤ q → A q := fun q h => by rw [← hAe]; exact Or.inr h
  have hS : va_S A s₀.heap s₀.heap [] := va_S.rf
  have hDD : ∀ t : MS, va_D A (CS D a t) := fun t => CW_D t hD
  have hl := lv_entry ([.ref (a 16), .ref (a 71), .int (i2 p1)]) (n := 6) (Nat.le_of_ble_eq_true rfl)
  rw [lg_entry_eq]
  generalize (lg_sl ([.ref (a 16), .ref (a 71), .int (i2 p1)]) ++ List.replicate (6 - (lg_sl ([.ref (a 16), .ref (a 71), .int (i2 p1)])).length) Slot.unset).toArray = ls at hl ⊢
  have hl : lv_has ls 6 [(0, .ref (a 16)), (1, .ref (a 71)), (2, .int (i2 p1))] := hl
  unfold m_x4_isSoundBlock at h
  refine y_loop (pcJ := 120) (σ := Int × Int × Int × MS) (fun n u H locs ls => va_P D vwCl (CS D a u.2.2.2) H ∧ va_S A s₀.heap H locs ∧ lv_has ls 6 [(0, .ref (a 16)), (1, .ref (a 71)), (2, .int (i2 u.1)), (3, .int (i2 u.2.1)), (5, .int (i2 u.2.2.1))] ∧ m_x4_isSoundBlock_L120 n u.1 u.2.1 u.2.2.1 u.2.2.2 = some o) (fun u => []) (fun u H locs ls hI => by obtain ⟨_, _, _, h⟩ := hI; cases h) (fun n120 ih120 u H locs ls hI => ?_) (fun J120 => ?_)
  · obtain ⟨hP, hS, hl, h⟩ := hI
    obtain ⟨x1, x2, x3, s4⟩ := u
    have hP : va_P D vwCl (CS D a s4) H := hP
    have hl : lv_has ls 6 [(0, .ref (a 16)), (1, .ref (a 71)), (2, .int (i2 x1)), (3, .int (i2 x2)), (5, .int (i2 x3))] := hl
    have h : m_x4_isSoundBlock_b120 (m_x4_isSoundBlock_L120 n120) x1 x2 x3 s4 = some o := h
    unfold m_x4_isSoundBlock_b120 at h
    refine lv_iload hx hb eX4_isSoundBlock_115.2.2.2.2.1 (lv_at hl 4 rfl) ?_
    refine lv_iload_n hx hb eX4_isSoundBlock_115.2.2.2.2.2.1 rfl (lv_at hl 3 rfl) ?_
    obtain ⟨hr5, h⟩ := rg_e h
    obtain ⟨hr6, h⟩ := rg_e h
    refine lv_icmp_gt (tgt := 145) hx hb eX4_isSoundBlock_115.2.2.2.2.2.2.1 (by decide) (fun c7 => ?_) (fun c7 => ?_)
    · have h := if_t ((i2_lt (x := x2) (y := x3) hr6 hr5).mp c7) h
      refine lv_aload_n hx hb eX4_isSoundBlock_142.2.1 rfl (lv_at hl 0 rfl) ?_
      refine va_get (D := D) (ci := 4) (v := .ref (a 18)) (C := RX4) (T := TX4) (N := 6) hx hb ht inX4 hown hK hP 16 CW_16 rfl 3 (by decide) (ht (.fieldLink RX4 15 "CloneVolumes$Picture" "lowest" "[I") fl_X4_15) (fun _ h9 => h9) rfl eX4_isSoundBlock_142.2.2.1 ?_
      refine lv_iload_n hx hb eX4_isSoundBlock_142.2.2.2.1 rfl (lv_at hl 2 rfl) ?_
      refine lv_aload_n hx hb eX4_isSoundBlock_142.2.2.2.2.1 rfl (lv_at hl 0 rfl) ?_
      refine va_get (D := D) (ci := 4) (v := .ref (a 18)) (C := RX4) (T := TX4) (N := 6) hx hb ht inX4 hown hK hP 16 CW_16 rfl 3 (by decide) (ht (.fieldLink RX4 15 "CloneVolumes$Picture" "lowest" "[I") fl_X4_15) (fun _ h9 => h9) rfl eX4_isSoundBlock_142.2.2.2.2.2.1 ?_
      refine lv_aload_n hx hb eX4_isSoundBlock_142.2.2.2.2.2.2.1 rfl (lv_at hl 1 rfl) ?_
      refine va_get (D := D) (ci := 8) (v := .ref (a 77)) (C := RX8) (T := TX8) (N := 11) hx hb ht inX8 hown hK hP 71 CW_71 rfl 8 (by decide) (ht (.fieldLink RX4 84 "CloneVolumes$State" "values" "[I") fl_X4_84) (fun _ h9 => h9) rfl eX4_isSoundBlock_142.2.2.2.2.2.2.2 ?_
      refine lv_aload_n hx hb eX4_isSoundBlock_158.1 rfl (lv_at hl 1 rfl) ?_
      refine lv_iload_n hx hb eX4_isSoundBlock_158.2.1 rfl (lv_at hl 2 rfl) ?_
      refine lv_iconst (v := 0) hx hb eX4_isSoundBlock_158.2.2.1 (by decide) ?_
      obtain ⟨r9, hc8, h⟩ := bn_e h
      refine ycV (r0 := i2 r9) (As := [.int (i2 x1), .int 0]) (rest := [.ref (a 77), .ref (a 18), .int (i2 x1), .ref (a 18)]) (C := RX8) (n := 2) ⟨hx, hb, hml, hown, ht⟩ (k_x8_slot_v2 l D a x1 0 _ _ hc8) (zgV ml_X4_80 im_X8_slot se_X8_slot in_X8 co_X8_slot) rfl rfl (by decide +kernel) ⟨Nat.le_of_ble_eq_true rfl, Nat.le_of_ble_eq_true rfl⟩ hN hK hP hS 71 CW_71 rfl rfl rfl hl.1 rfl (Nat.le_of_ble_eq_true rfl) eX4_isSoundBlock_158.2.2.2.1 ⟨Nat.le_of_ble_eq_true rfl, Nat.le_of_ble_eq_true rfl⟩ (fun H locs hP hS => ?_)
      obtain ⟨y10, ey10, iy10, h⟩ := rdI_e h
      refine ya_iald (i := r9) hx hb hK hP 77 0 CW_77 rfl (by decide) ey10 iy10 eX4_isSoundBlock_158.2.2.2.2.1 ?_
      obtain ⟨y11, ey11, iy11, h⟩ := rdI_e h
      refine ya_iald (i := y10) hx hb hK hP 18 0 CW_18 rfl (by decide) ey11 iy11 eX4_isSoundBlock_158.2.2.2.2.2.1 ?_
      obtain ⟨hi12, h⟩ := inb_e h
      refine ya_iast (i := x1) (x := y11) hx hb hK hP (hDD _) hS 18 0 CW_18 rfl (by decide) hi12 eX4_isSoundBlock_158.2.2.2.2.2.2.1 (CW_w18 _) (fun H locs hP hS => ?_)
      obtain ⟨s13, hs13, h⟩ := st_e h
      rw [hs13] at hP
      refine lv_aload_n hx hb eX4_isSoundBlock_158.2.2.2.2.2.2.2 rfl (lv_at hl 0 rfl) ?_
      refine va_get (D := D) (ci := 4) (v := .ref (a 19)) (C := RX4) (T := TX4) (N := 6) hx hb ht inX4 hown hK hP 16 CW_16 rfl 4 (by decide) (ht (.fieldLink RX4 18 "CloneVolumes$Picture" "highest" "[I") fl_X4_18) (fun _ h9 => h9) rfl eX4_isSoundBlock_168.1 ?_
      refine lv_iload_n hx hb eX4_isSoundBlock_168.2.1 rfl (lv_at hl 2 rfl) ?_
      refine lv_aload_n hx hb eX4_isSoundBlock_168.2.2.1 rfl (lv_at hl 0 rfl) ?_
      refine va_get (D := D) (ci := 4) (v := .ref (a 19)) (C := RX4) (T := TX4) (N := 6) hx hb ht inX4 hown hK hP 16 CW_16 rfl 4 (by decide) (ht (.fieldLink RX4 18 "CloneVolumes$Picture" "highest" "[I") fl_X4_18) (fun _ h9 => h9) rfl eX4_isSoundBlock_168.2.2.2.1 ?_
      refine lv_aload_n hx hb eX4_isSoundBlock_168.2.2.2.2.1 rfl (lv_at hl 1 rfl) ?_
      refine va_get (D := D) (ci := 8) (v := .ref (a 77)) (C := RX8) (T := TX8) (N := 11) hx hb ht inX8 hown hK hP 71 CW_71 rfl 8 (by decide) (ht (.fieldLink RX4 84 "CloneVolumes$State" "values" "[I") fl_X4_84) (fun _ h9 => h9) rfl eX4_isSoundBlock_168.2.2.2.2.2.1 ?_
      refine lv_aload_n hx hb eX4_isSoundBlock_168.2.2.2.2.2.2.1 rfl (lv_at hl 1 rfl) ?_
      refine lv_iload_n hx hb eX4_isSoundBlock_168.2.2.2.2.2.2.2 rfl (lv_at hl 2 rfl) ?_
      refine lv_iload_n hx hb eX4_isSoundBlock_182.1 rfl (lv_at hl 3 rfl) ?_
      obtain ⟨r15, hc14, h⟩ := bn_e h
      refine ycV (r0 := i2 r15) (As := [.int (i2 x1), .int (i2 x2)]) (rest := [.ref (a 77), .ref (a 19), .int (i2 x1), .ref (a 19)]) (C := RX8) (n := 2) ⟨hx, hb, hml, hown, ht⟩ (k_x8_slot_v2 l D a x1 x2 _ _ hc14) (zgV ml_X4_80 im_X8_slot se_X8_slot in_X8 co_X8_slot) rfl rfl (by decide +kernel) ⟨Nat.le_of_ble_eq_true rfl, Nat.le_of_ble_eq_true rfl⟩ hN hK hP hS 71 CW_71 rfl rfl rfl hl.1 rfl (Nat.le_of_ble_eq_true rfl) eX4_isSoundBlock_182.2.1 ⟨Nat.le_of_ble_eq_true rfl, Nat.le_of_ble_eq_true rfl⟩ (fun H locs hP hS => ?_)
      obtain ⟨y16, ey16, iy16, h⟩ := rdI_e h
      refine ya_iald (i := r15) hx hb hK hP 77 0 CW_77 rfl (by decide) ey16 iy16 eX4_isSoundBlock_182.2.2.1 ?_
      obtain ⟨y17, ey17, iy17, h⟩ := rdI_e h
      refine ya_iald (i := y16) hx hb hK hP 19 0 CW_19 rfl (by decide) ey17 iy17 eX4_isSoundBlock_182.2.2.2.1 ?_
      obtain ⟨hi18, h⟩ := inb_e h
      refine ya_iast (i := x1) (x := y17) hx hb hK hP (hDD _) hS 19 0 CW_19 rfl (by decide) hi18 eX4_isSoundBlock_182.2.2.2.2.1 (CW_w19 _) (fun H locs hP hS => ?_)
      obtain ⟨s19, hs19, h⟩ := st_e h
      rw [hs19] at hP
      refine lv_iconst (v := 1) hx hb eX4_isSoundBlock_182.2.2.2.2.2.1 (by decide) ?_
      obtain rfl := Option.some.inj h
      exact W.zret (v := 1) hx hb hr (by decide) (fun t ht hW => ⟨⟨_, (), rfl, rfl, by rw [ht]; exact hP, va_K.moved hW.alike hK, hDD _⟩, hS.F ht⟩) hS.2.2 eX4_isSoundBlock_182.2.2.2.2.2.2.1
    · have h := if_f (mt (i2_lt (x := x2) (y := x3) hr6 hr5).mpr c7) h
      refine lv_aload_n hx hb eX4_isSoundBlock_115.2.2.2.2.2.2.2 rfl (lv_at hl 0 rfl) ?_
      refine lv_aload_n hx hb eX4_isSoundBlock_127.1 rfl (lv_at hl 1 rfl) ?_
      refine lv_iload_n hx hb eX4_isSoundBlock_127.2.1 rfl (lv_at hl 2 rfl) ?_
      refine lv_iload hx hb eX4_isSoundBlock_127.2.2.1 (lv_at hl 4 rfl) ?_
      obtain ⟨r21, hc20, h⟩ := bn_e h
      refine ycV (r0 := i2 r21) (As := [.ref (a 71), .int (i2 x1), .int (i2 x3)]) (rest := []) (C := RX4) (n := 3) ⟨hx, hb, hml, hown, ht⟩ (k_x4_isSoundChild l D a x1 x3 _ _ hc20) (zgV ml_X4_136 im_X4_isSoundChild se_X4_isSoundChild in_X4 co_X4_isSoundChild) rfl rfl (by decide +kernel) ⟨Nat.le_of_ble_eq_true rfl, Nat.le_of_ble_eq_true rfl⟩ hN hK hP hS 16 CW_16 rfl rfl rfl hl.1 rfl (Nat.le_of_ble_eq_true rfl) eX4_isSoundBlock_127.2.2.2.1 ⟨Nat.le_of_ble_eq_true rfl, Nat.le_of_ble_eq_true rfl⟩ (fun H locs hP hS => ?_)
      obtain ⟨hr22, h⟩ := rg_e h
      refine lv_if_ne (tgt := 139) hx hb eX4_isSoundBlock_127.2.2.2.2.1 (by decide) (fun c23 => ?_) (fun c23 => ?_)
      · have h := if_f (mt (i2_eq (x := r21) (y := 0) hr22 (by decide)).mpr c23) h
        refine lv_iinc (v := i2 (x3 + 1)) (lv' := [(5, .int (i2 (x3 + 1))), (0, .ref (a 16)), (1, .ref (a 71)), (2, .int (i2 x1)), (3, .int (i2 x2))]) hx hb eX4_isSoundBlock_127.2.2.2.2.2.2.2 hl (k := 4) rfl (i2_add x3 1) (by decide) rfl (fun ls hl => ?_)
        refine lv_goto (tgt := 120) hx hb eX4_isSoundBlock_142.1 (by decide) ?_
        exact ih120 (x1, x2, x3 + 1, s4) _ _ _ ⟨hP, hS, lv_sub hl [1, 2, 3, 4, 0] rfl, h⟩
      · have h := if_t ((i2_eq (x := r21) (y := 0) hr22 (by decide)).mp c23) h
        refine lv_iconst (v := 0) hx hb eX4_isSoundBlock_127.2.2.2.2.2.1 (by decide) ?_
        obtain rfl := Option.some.inj h
        exact W.zret (v := 0) hx hb hr (by decide) (fun t ht hW => ⟨⟨_, (), rfl, rfl, by rw [ht]; exact hP, va_K.moved hW.alike hK, hDD _⟩, hS.F ht⟩) hS.2.2 eX4_isSoundBlock_127.2.2.2.2.2.2.1
  refine y_loop (pcJ := 29) (σ := Int × Int × Int × MS) (fun n u H locs ls => va_P D vwCl (CS D a u.2.2.2) H ∧ va_S A s₀.heap H locs ∧ lv_has ls 6 [(0, .ref (a 16)), (1, .ref (a 71)), (2, .int (i2 u.1)), (3, .int (i2 u.2.1)), (5, .int (i2 u.2.2.1))] ∧ m_x4_isSoundBlock_L29 n u.1 u.2.1 u.2.2.1 u.2.2.2 = some o) (fun u => []) (fun u H locs ls hI => by obtain ⟨_, _, _, h⟩ := hI; cases h) (fun n29 ih29 u H locs ls hI => ?_) (fun J29 => ?_)
  · obtain ⟨hP, hS, hl, h⟩ := hI
    obtain ⟨x24, x25, x26, s27⟩ := u
    have hP : va_P D vwCl (CS D a s27) H := hP
    have hl : lv_has ls 6 [(0, .ref (a 16)), (1, .ref (a 71)), (2, .int (i2 x24)), (3, .int (i2 x25)), (5, .int (i2 x26))] := hl
    have h : m_x4_isSoundBlock_b29 (m_x4_isSoundBlock_L29 n29) x24 x25 x26 s27 = some o := h
    unfold m_x4_isSoundBlock_b29 at h
    refine lv_iload hx hb eX4_isSoundBlock_19.2.2.2.2.2.1 (lv_at hl 4 rfl) ?_
    refine lv_iload_n hx hb eX4_isSoundBlock_19.2.2.2.2.2.2.1 rfl (lv_at hl 3 rfl) ?_
    obtain ⟨hr28, h⟩ := rg_e h
    obtain ⟨hr29, h⟩ := rg_e h
    refine lv_icmp_ge (tgt := 72) hx hb eX4_isSoundBlock_19.2.2.2.2.2.2.2 (by decide) (fun c30 => ?_) (fun c30 => ?_)
    · have h := if_t ((i2_le (x := x25) (y := x26) hr29 hr28).mp c30) h
      refine lv_aload_n hx hb eX4_isSoundBlock_61.2.2.2.2.2.1 rfl (lv_at hl 1 rfl) ?_
      refine va_get (D := D) (ci := 8) (v := .ref (a 74)) (C := RX8) (T := TX8) (N := 11) hx hb ht inX8 hown hK hP 71 CW_71 rfl 5 (by decide) (ht (.fieldLink RX4 72 "CloneVolumes$State" "level" "[I") fl_X4_72) (fun _ h9 => h9) rfl eX4_isSoundBlock_61.2.2.2.2.2.2.1 ?_
      refine lv_iload_n hx hb eX4_isSoundBlock_61.2.2.2.2.2.2.2 rfl (lv_at hl 2 rfl) ?_
      obtain ⟨y31, ey31, iy31, h⟩ := rdI_e h
      refine ya_iald (i := x24) hx hb hK hP 74 0 CW_74 rfl (by decide) ey31 iy31 eX4_isSoundBlock_77.1 ?_
      obtain ⟨hr32, h⟩ := rg_e h
      refine lv_if_ne (tgt := 117) hx hb eX4_isSoundBlock_77.2.1 (by decide) (fun c33 => ?_) (fun c33 => ?_)
      · have h := if_f (mt (i2_eq (x := y31) (y := 0) hr32 (by decide)).mpr c33) h
        refine lv_iconst (v := 0) hx hb eX4_isSoundBlock_115.2.2.1 (by decide) ?_
        refine lv_istore (lv' := [(5, .int 0), (0, .ref (a 16)), (1, .ref (a 71)), (2, .int (i2 x24)), (3, .int (i2 x25))]) hx hb eX4_isSoundBlock_115.2.2.2.1 hl (by decide) rfl (fun ls hl => ?_)
        exact J120 FU (x24, x25, 0, s27) _ _ _ ⟨hP, hS, lv_sub hl [1, 2, 3, 4, 0] rfl, h⟩
      · have h := if_t ((i2_eq (x := y31) (y := 0) hr32 (by decide)).mp c33) h
        refine lv_aload_n hx hb eX4_isSoundBlock_77.2.2.1 rfl (lv_at hl 0 rfl) ?_
        refine va_get (D := D) (ci := 4) (v := .ref (a 18)) (C := RX4) (T := TX4) (N := 6) hx hb ht inX4 hown hK hP 16 CW_16 rfl 3 (by decide) (ht (.fieldLink RX4 15 "CloneVolumes$Picture" "lowest" "[I") fl_X4_15) (fun _ h9 => h9) rfl eX4_isSoundBlock_77.2.2.2.1 ?_
        refine lv_iload_n hx hb eX4_isSoundBlock_77.2.2.2.2.1 rfl (lv_at hl 2 rfl) ?_
        refine lv_aload_n hx hb eX4_isSoundBlock_77.2.2.2.2.2.1 rfl (lv_at hl 1 rfl) ?_
        refine va_get (D := D) (ci := 8) (v := .ref (a 76)) (C := RX8) (T := TX8) (N := 11) hx hb ht inX8 hown hK hP 71 CW_71 rfl 7 (by decide) (ht (.fieldLink RX4 77 "CloneVolumes$State" "keys" "[I") fl_X4_77) (fun _ h9 => h9) rfl eX4_isSoundBlock_77.2.2.2.2.2.2.1 ?_
        refine lv_aload_n hx hb eX4_isSoundBlock_77.2.2.2.2.2.2.2 rfl (lv_at hl 1 rfl) ?_
        refine lv_iload_n hx hb eX4_isSoundBlock_91.1 rfl (lv_at hl 2 rfl) ?_
        refine lv_iconst (v := 0) hx hb eX4_isSoundBlock_91.2.1 (by decide) ?_
        obtain ⟨r35, hc34, h⟩ := bn_e h
        refine ycV (r0 := i2 r35) (As := [.int (i2 x24), .int 0]) (rest := [.ref (a 76), .int (i2 x24), .ref (a 18)]) (C := RX8) (n := 2) ⟨hx, hb, hml, hown, ht⟩ (k_x8_slot_v2 l D a x24 0 _ _ hc34) (zgV ml_X4_80 im_X8_slot se_X8_slot in_X8 co_X8_slot) rfl rfl (by decide +kernel) ⟨Nat.le_of_ble_eq_true rfl, Nat.le_of_ble_eq_true rfl⟩ hN hK hP hS 71 CW_71 rfl rfl rfl hl.1 rfl (Nat.le_of_ble_eq_true rfl) eX4_isSoundBlock_91.2.2.1 ⟨Nat.le_of_ble_eq_true rfl, Nat.le_of_ble_eq_true rfl⟩ (fun H locs hP hS => ?_)
        obtain ⟨y36, ey36, iy36, h⟩ := rdI_e h
        refine ya_iald (i := r35) hx hb hK hP 76 0 CW_76 rfl (by decide) ey36 iy36 eX4_isSoundBlock_91.2.2.2.1 ?_
        obtain ⟨hi37, h⟩ := inb_e h
        refine ya_iast (i := x24) (x := y36) hx hb hK hP (hDD _) hS 18 0 CW_18 rfl (by decide) hi37 eX4_isSoundBlock_91.2.2.2.2.1 (CW_w18 _) (fun H locs hP hS => ?_)
        obtain ⟨s38, hs38, h⟩ := st_e h
        rw [hs38] at hP
        refine lv_aload_n hx hb eX4_isSoundBlock_91.2.2.2.2.2.1 rfl (lv_at hl 0 rfl) ?_
        refine va_get (D := D) (ci := 4) (v := .ref (a 19)) (C := RX4) (T := TX4) (N := 6) hx hb ht inX4 hown hK hP 16 CW_16 rfl 4 (by decide) (ht (.fieldLink RX4 18 "CloneVolumes$Picture" "highest" "[I") fl_X4_18) (fun _ h9 => h9) rfl eX4_isSoundBlock_91.2.2.2.2.2.2.1 ?_
        refine lv_iload_n hx hb eX4_isSoundBlock_91.2.2.2.2.2.2.2 rfl (lv_at hl 2 rfl) ?_
        refine lv_aload_n hx hb eX4_isSoundBlock_103.1 rfl (lv_at hl 1 rfl) ?_
        refine va_get (D := D) (ci := 8) (v := .ref (a 76)) (C := RX8) (T := TX8) (N := 11) hx hb ht inX8 hown hK hP 71 CW_71 rfl 7 (by decide) (ht (.fieldLink RX4 77 "CloneVolumes$State" "keys" "[I") fl_X4_77) (fun _ h9 => h9) rfl eX4_isSoundBlock_103.2.1 ?_
        refine lv_aload_n hx hb eX4_isSoundBlock_103.2.2.1 rfl (lv_at hl 1 rfl) ?_
        refine lv_iload_n hx hb eX4_isSoundBlock_103.2.2.2.1 rfl (lv_at hl 2 rfl) ?_
        refine lv_iload_n hx hb eX4_isSoundBlock_103.2.2.2.2.1 rfl (lv_at hl 3 rfl) ?_
        obtain ⟨r40, hc39, h⟩ := bn_e h
        refine ycV (r0 := i2 r40) (As := [.int (i2 x24), .int (i2 x25)]) (rest := [.ref (a 76), .int (i2 x24), .ref (a 19)]) (C := RX8) (n := 2) ⟨hx, hb, hml, hown, ht⟩ (k_x8_slot_v2 l D a x24 x25 _ _ hc39) (zgV ml_X4_80 im_X8_slot se_X8_slot in_X8 co_X8_slot) rfl rfl (by decide +kernel) ⟨Nat.le_of_ble_eq_true rfl, Nat.le_of_ble_eq_true rfl⟩ hN hK hP hS 71 CW_71 rfl rfl rfl hl.1 rfl (Nat.le_of_ble_eq_true rfl) eX4_isSoundBlock_103.2.2.2.2.2.1 ⟨Nat.le_of_ble_eq_true rfl, Nat.le_of_ble_eq_true rfl⟩ (fun H locs hP hS => ?_)
        obtain ⟨y41, ey41, iy41, h⟩ := rdI_e h
        refine ya_iald (i := r40) hx hb hK hP 76 0 CW_76 rfl (by decide) ey41 iy41 eX4_isSoundBlock_103.2.2.2.2.2.2.1 ?_
        obtain ⟨hi42, h⟩ := inb_e h
        refine ya_iast (i := x24) (x := y41) hx hb hK hP (hDD _) hS 19 0 CW_19 rfl (by decide) hi42 eX4_isSoundBlock_103.2.2.2.2.2.2.2 (CW_w19 _) (fun H locs hP hS => ?_)
        obtain ⟨s43, hs43, h⟩ := st_e h
        rw [hs43] at hP
        refine lv_iconst (v := 1) hx hb eX4_isSoundBlock_115.1 (by decide) ?_
        obtain rfl := Option.some.inj h
        exact W.zret (v := 1) hx hb hr (by decide) (fun t ht hW => ⟨⟨_, (), rfl, rfl, by rw [ht]; exact hP, va_K.moved hW.alike hK, hDD _⟩, hS.F ht⟩) hS.2.2 eX4_isSoundBlock_115.2.1
    · have h := if_f (mt (i2_le (x := x25) (y := x26) hr29 hr28).mpr c30) h
      refine lv_aload_n hx hb eX4_isSoundBlock_35.1 rfl (lv_at hl 1 rfl) ?_
      refine va_get (D := D) (ci := 8) (v := .ref (a 76)) (C := RX8) (T := TX8) (N := 11) hx hb ht inX8 hown hK hP 71 CW_71 rfl 7 (by decide) (ht (.fieldLink RX4 77 "CloneVolumes$State" "keys" "[I") fl_X4_77) (fun _ h9 => h9) rfl eX4_isSoundBlock_35.2.1 ?_
      refine lv_aload_n hx hb eX4_isSoundBlock_35.2.2.1 rfl (lv_at hl 1 rfl) ?_
      refine lv_iload_n hx hb eX4_isSoundBlock_35.2.2.2.1 rfl (lv_at hl 2 rfl) ?_
      refine lv_iload hx hb eX4_isSoundBlock_35.2.2.2.2.1 (lv_at hl 4 rfl) ?_
      obtain ⟨r45, hc44, h⟩ := bn_e h
      refine ycV (r0 := i2 r45) (As := [.int (i2 x24), .int (i2 x26)]) (rest := [.ref (a 76)]) (C := RX8) (n := 2) ⟨hx, hb, hml, hown, ht⟩ (k_x8_slot_v2 l D a x24 x26 _ _ hc44) (zgV ml_X4_80 im_X8_slot se_X8_slot in_X8 co_X8_slot) rfl rfl (by decide +kernel) ⟨Nat.le_of_ble_eq_true rfl, Nat.le_of_ble_eq_true rfl⟩ hN hK hP hS 71 CW_71 rfl rfl rfl hl.1 rfl (Nat.le_of_ble_eq_true rfl) eX4_isSoundBlock_35.2.2.2.2.2.1 ⟨Nat.le_of_ble_eq_true rfl, Nat.le_of_ble_eq_true rfl⟩ (fun H locs hP hS => ?_)
      obtain ⟨y46, ey46, iy46, h⟩ := rdI_e h
      refine ya_iald (i := r45) hx hb hK hP 76 0 CW_76 rfl (by decide) ey46 iy46 eX4_isSoundBlock_35.2.2.2.2.2.2.1 ?_
      refine lv_aload_n hx hb eX4_isSoundBlock_35.2.2.2.2.2.2.2 rfl (lv_at hl 1 rfl) ?_
      refine va_get (D := D) (ci := 8) (v := .ref (a 76)) (C := RX8) (T := TX8) (N := 11) hx hb ht inX8 hown hK hP 71 CW_71 rfl 7 (by decide) (ht (.fieldLink RX4 77 "CloneVolumes$State" "keys" "[I") fl_X4_77) (fun _ h9 => h9) rfl eX4_isSoundBlock_48.1 ?_
      refine lv_aload_n hx hb eX4_isSoundBlock_48.2.1 rfl (lv_at hl 1 rfl) ?_
      refine lv_iload_n hx hb eX4_isSoundBlock_48.2.2.1 rfl (lv_at hl 2 rfl) ?_
      refine lv_iload hx hb eX4_isSoundBlock_48.2.2.2.1 (lv_at hl 4 rfl) ?_
      refine lv_iconst (v := 1) hx hb eX4_isSoundBlock_48.2.2.2.2.1 (by decide) ?_
      refine lv_iadd hx hb eX4_isSoundBlock_48.2.2.2.2.2.1 ?_
      refine z_topi (y := i2 (x26 + 1)) (i2_add x26 1) ?_
      obtain ⟨r48, hc47, h⟩ := bn_e h
      refine ycV (r0 := i2 r48) (As := [.int (i2 x24), .int (i2 (x26 + 1))]) (rest := [.ref (a 76), .int (i2 y46)]) (C := RX8) (n := 2) ⟨hx, hb, hml, hown, ht⟩ (k_x8_slot_v2 l D a x24 (x26 + 1) _ _ hc47) (zgV ml_X4_80 im_X8_slot se_X8_slot in_X8 co_X8_slot) rfl rfl (by decide +kernel) ⟨Nat.le_of_ble_eq_true rfl, Nat.le_of_ble_eq_true rfl⟩ hN hK hP hS 71 CW_71 rfl rfl rfl hl.1 rfl (Nat.le_of_ble_eq_true rfl) eX4_isSoundBlock_48.2.2.2.2.2.2.1 ⟨Nat.le_of_ble_eq_true rfl, Nat.le_of_ble_eq_true rfl⟩ (fun H locs hP hS => ?_)
      obtain ⟨y49, ey49, iy49, h⟩ := rdI_e h
      refine ya_iald (i := r48) hx hb hK hP 76 0 CW_76 rfl (by decide) ey49 iy49 eX4_isSoundBlock_48.2.2.2.2.2.2.2 ?_
      obtain ⟨hr50, h⟩ := rg_e h
      obtain ⟨hr51, h⟩ := rg_e h
      refine lv_icmp_lt (tgt := 66) hx hb eX4_isSoundBlock_61.1 (by decide) (fun c52 => ?_) (fun c52 => ?_)
      · have h := if_t ((i2_lt (x := y46) (y := y49) hr50 hr51).mp c52) h
        refine lv_iinc (v := i2 (x26 + 1)) (lv' := [(5, .int (i2 (x26 + 1))), (0, .ref (a 16)), (1, .ref (a 71)), (2, .int (i2 x24)), (3, .int (i2 x25))]) hx hb eX4_isSoundBlock_61.2.2.2.1 hl (k := 4) rfl (i2_add x26 1) (by decide) rfl (fun ls hl => ?_)
        refine lv_goto (tgt := 29) hx hb eX4_isSoundBlock_61.2.2.2.2.1 (by decide) ?_
        exact ih29 (x24, x25, x26 + 1, s27) _ _ _ ⟨hP, hS, lv_sub hl [1, 2, 3, 4, 0] rfl, h⟩
      · have h := if_f (mt (i2_lt (x := y46) (y := y49) hr50 hr51).mpr c52) h
        refine lv_iconst (v := 0) hx hb eX4_isSoundBlock_61.2.1 (by decide) ?_
        obtain rfl := Option.some.inj h
        exact W.zret (v := 0) hx hb hr (by decide) (fun t ht hW => ⟨⟨_, (), rfl, rfl, by rw [ht]; exact hP, va_K.moved hW.alike hK, hDD _⟩, hS.F ht⟩) hS.2.2 eX4_isSoundBlock_61.2.2.1
  refine y_head (pcJ := 23) (σ := Int × Int × Int × MS) (fun u H locs ls => va_P D vwCl (CS D a u.2.2.2) H ∧ va_S A s₀.heap H locs ∧ lv_has ls 6 [(0, .ref (a 16)), (1, .ref (a 71)), (2, .int (i2 u.1)), (3, .int (i2 u.2.1))] ∧ m_x4_isSoundBlock_J23 u.1 u.2.1 u.2.2.1 u.2.2.2 = some o) (fun u => [.int (i2 u.2.2.1)]) (fun u H locs ls hI => ?_) (fun J23 => ?_)
  · obtain ⟨hP, hS, hl, h⟩ := hI
    obtain ⟨x53, x54, x55, s56⟩ := u
    have hP : va_P D vwCl (CS D a s56) H := hP
    have hl : lv_has ls 6 [(0, .ref (a 16)), (1, .ref (a 71)), (2, .int (i2 x53)), (3, .int (i2 x54))] := hl
    have h : m_x4_isSoundBlock_J23 x53 x54 x55 s56 = some o := h
    unfold m_x4_isSoundBlock_J23 at h
    refine lv_istore (lv' := [(4, .int (i2 x55)), (0, .ref (a 16)), (1, .ref (a 71)), (2, .int (i2 x53)), (3, .int (i2 x54))]) hx hb eX4_isSoundBlock_19.2.2.1 hl (by decide) rfl (fun ls hl => ?_)
    refine lv_iload hx hb eX4_isSoundBlock_19.2.2.2.1 (lv_at hl 0 rfl) ?_
    refine lv_istore (lv' := [(5, .int (i2 x55)), (4, .int (i2 x55)), (0, .ref (a 16)), (1, .ref (a 71)), (2, .int (i2 x53)), (3, .int (i2 x54))]) hx hb eX4_isSoundBlock_19.2.2.2.2.1 hl (by decide) rfl (fun ls hl => ?_)
    exact J29 FU (x53, x54, x55, s56) _ _ _ ⟨hP, hS, lv_sub hl [2, 3, 4, 5, 0] rfl, h⟩
  refine lv_aload_n hx hb eX4_drawBlock_62.2.2.2.1 rfl (lv_at hl 1 rfl) ?_
  refine va_get (D := D) (ci := 8) (v := .ref (a 75)) (C := RX8) (T := TX8) (N := 11) hx hb ht inX8 hown hK hP 71 CW_71 rfl 6 (by decide) (ht (.fieldLink RX4 75 "CloneVolumes$State" "size" "[I") fl_X4_75) (fun _ h9 => h9) rfl eX4_drawBlock_62.2.2.2.2.1 ?_
  refine lv_iload_n hx hb eX4_drawBlock_62.2.2.2.2.2.1 rfl (lv_at hl 2 rfl) ?_
  obtain ⟨y57, ey57, iy57, h⟩ := rdI_e h
  refine ya_iald (i := p1) hx hb hK hP 75 0 CW_75 rfl (by decide) ey57 iy57 eX4_drawBlock_62.2.2.2.2.2.2.1 ?_
  refine lv_iconst (v := 1) hx hb eX4_drawBlock_62.2.2.2.2.2.2.2 (by decide) ?_
  refine lv_isub hx hb eX4_isSoundBlock_7.1 ?_
  refine z_topi (y := i2 (y57 - 1)) (i2_sub y57 1) ?_
  refine lv_istore_n (lv' := [(3, .int (i2 (y57 - 1))), (0, .ref (a 16)), (1, .ref (a 71)), (2, .int (i2 p1))]) hx hb eX4_isSoundBlock_7.2.1 rfl hl (by decide) rfl (fun ls hl => ?_)
  refine lv_aload_n hx hb eX4_isSoundBlock_7.2.2.1 rfl (lv_at hl 2 rfl) ?_
  refine va_get (D := D) (ci := 8) (v := .ref (a 74)) (C := RX8) (T := TX8) (N := 11) hx hb ht inX8 hown hK hP 71 CW_71 rfl 5 (by decide) (ht (.fieldLink RX4 72 "CloneVolumes$State" "level" "[I") fl_X4_72) (fun _ h9 => h9) rfl eX4_isSoundBlock_7.2.2.2.1 ?_
  refine lv_iload_n hx hb eX4_isSoundBlock_7.2.2.2.2.1 rfl (lv_at hl 3 rfl) ?_
  obtain ⟨y58, ey58, iy58, h⟩ := rdI_e h
  refine ya_iald (i := p1) hx hb hK hP 74 0 CW_74 rfl (by decide) ey58 iy58 eX4_isSoundBlock_7.2.2.2.2.2.1 ?_
  obtain ⟨hr59, h⟩ := rg_e h
  refine lv_if_ne (tgt := 22) hx hb eX4_isSoundBlock_7.2.2.2.2.2.2.1 (by decide) (fun c60 => ?_) (fun c60 => ?_)
  · have h := if_f (mt (i2_eq (x := y58) (y := 0) hr59 (by decide)).mpr c60) h
    refine lv_iconst (v := 1) hx hb eX4_isSoundBlock_19.2.1 (by decide) ?_
    exact J23 (p1, y57 - 1, 1, s) _ _ _ ⟨hP, hS, lv_sub hl [1, 2, 3, 0] rfl, h⟩
  · have h := if_t ((i2_eq (x := y58) (y := 0) hr59 (by decide)).mp c60) h
    refine lv_iconst (v := 0) hx hb eX4_isSoundBlock_7.2.2.2.2.2.2.2 (by decide) ?_
    refine lv_goto (tgt := 23) hx hb eX4_isSoundBlock_19.1 (by decide) ?_
    exact J23 (p1, y57 - 1, 0, s) _ _ _ ⟨hP, hS, lv_sub hl [1, 2, 3, 0] rfl, h⟩
set_option maxHeartbeats 4000000 in
set_option maxRecDepth 100000 in
theorem k_x4_refsAre (l : Launch) (D : va_G) (a : Nat → Nat) (sz : Nat) (s : MS) (o : (Int × MS)) (h : m_x4_refsAre s = some o) : yWi l yX4_refsAre cX4_refsAre 7 (some .boolean) { frames := 1, cells := 0, slots := 0, locals := 60 } D sz [.ref (a 16), .ref (a 71), .ref (a 72), .ref (a 78)] (CS D a s) (CS D a o.2) (i2 o.1) := by
  refine Met.ofW (cc := cX4_refsAre) (maxL := 7) (ret := (some .boolean)) (by decide) rfl ?_
  intro p e s₀ m args below meth c s₁ B hml hv
  obtain ⟨rfl, ⟨hsz, hP, hK, hD0⟩, hN⟩ := hv
  have hx := B.exec
  have hb := B.bytes
  have hr := B.returns
  have hts := atoms_spec (ws := wz yX4_refsAre cX4_refsAre 7 (some .boolean)) B.pre
  have ht : ∀ w ∈ lw_gd, w.before _ s₀ = true := fun w h => hts w (List.mem_cons_of_mem _ h)
  have hown : s₀.vm.findClass RX4 = some m.cls := findClass_of_methodNamed B.named
  have hlocks := B.notSynchronized
  subst hsz
  have hD := hD0.self (sz := s₀.heap.size)
  generalize hAe : va_A (CS D a s) s₀.heap.size = A at hD ⊢
  have hA : ∀ q : Nat, s₀.heap.size ≤ q → A q := fun q h => by rw [← hAe]; exact Or.inr h
  have hS : va_S A s₀.heap s₀.heap [] := va_S.rf
  have hDD : ∀ t : MS, va_D A (CS D a t) := fun t => CW_D t hD
  have hl := lv_entry ([.ref (a 16), .ref (a 71), .ref (a 72), .ref (a 78)]) (n := 7) (Nat.le_of_ble_eq_true rfl)
  rw [lg_entry_eq]
  generalize (lg_sl ([.ref (a 16), .ref (a 71), .ref (a 72), .ref (a 78)]) ++ List.replicate (7 - (lg_sl ([.ref (a 16), .ref (a 71), .ref (a 72), .ref (a 78)])).length) Slot.unset).toArray = ls at hl ⊢
  have hl : lv_has ls 7 [(0, .ref (a 16)), (1, .ref (a 71)), (2, .ref (a 72)), (3, .ref (a 78))] := hl
  unfold m_x4_refsAre at h
  refine y_loop (pcJ := 151) (σ := Int × MS) (fun n u H locs ls => va_P D vwCl (CS D a u.2) H ∧ va_S A s₀.heap H locs ∧ lv_has ls 7 [(0, .ref (a 16)), (1, .ref (a 71)), (2, .ref (a 72)), (4, .int (i2 u.1))] ∧ m_x4_refsAre_L151 n u.1 u.2 = some o) (fun u => []) (fun u H locs ls hI => by obtain ⟨_, _, _, h⟩ := hI; cases h) (fun n151 ih151 u H locs ls hI => ?_) (fun J151 => ?_)
  · obtain ⟨hP, hS, hl, h⟩ := hI
    obtain ⟨x1, s2⟩ := u
    have hP : va_P D vwCl (CS D a s2) H := hP
    have hl : lv_has ls 7 [(0, .ref (a 16)), (1, .ref (a 71)), (2, .ref (a 72)), (4, .int (i2 x1))] := hl
    have h : m_x4_refsAre_b151 (m_x4_refsAre_L151 n151) x1 s2 = some o := h
    unfold m_x4_refsAre_b151 at h
    refine lv_iload hx hb eX4_refsAre_135.2.2.2.2.2.2.2 (lv_at hl 3 rfl) ?_
    refine lv_aload_n hx hb eX4_refsAre_153.1 rfl (lv_at hl 1 rfl) ?_
    refine va_get (D := D) (ci := 8) (v := .int (i2 (gI s2 1420))) (C := RX8) (T := TX8) (N := 11) hx hb ht inX8 hown hK hP 71 CW_71 rfl 0 (by decide) (ht (.fieldLink RX4 51 "CloneVolumes$State" "blocks" "I") fl_X4_51) (fun _ h9 => h9) rfl eX4_refsAre_153.2.1 ?_
    obtain ⟨hr3, h⟩ := rg_e h
    obtain ⟨hr4, h⟩ := rg_e h
    refine lv_icmp_ge (tgt := 182) hx hb eX4_refsAre_153.2.2.1 (by decide) (fun c5 => ?_) (fun c5 => ?_)
    · have h := if_t ((i2_le (x := (gI s2 1420)) (y := x1) hr4 hr3).mp c5) h
      refine lv_iconst (v := 1) hx hb eX4_refsAre_168.2.2.2.2.2.2.2 (by decide) ?_
      obtain rfl := Option.some.inj h
      exact W.zret (v := 1) hx hb hr (by decide) (fun t ht hW => ⟨⟨_, (), rfl, rfl, by rw [ht]; exact hP, va_K.moved hW.alike hK, hDD _⟩, hS.F ht⟩) hS.2.2 eX4_refsAre_183.1
    · have h := if_f (mt (i2_le (x := (gI s2 1420)) (y := x1) hr4 hr3).mpr c5) h
      refine lv_aload_n hx hb eX4_refsAre_153.2.2.2.1 rfl (lv_at hl 0 rfl) ?_
      refine va_get (D := D) (ci := 4) (v := .ref (a 20)) (C := RX4) (T := TX4) (N := 6) hx hb ht inX4 hown hK hP 16 CW_16 rfl 5 (by decide) (ht (.fieldLink RX4 21 "CloneVolumes$Picture" "refs" "[I") fl_X4_21) (fun _ h9 => h9) rfl eX4_refsAre_153.2.2.2.2.1 ?_
      refine lv_iload hx hb eX4_refsAre_153.2.2.2.2.2.1 (lv_at hl 3 rfl) ?_
      obtain ⟨y6, ey6, iy6, h⟩ := rdI_e h
      refine ya_iald (i := x1) hx hb hK hP 20 0 CW_20 rfl (by decide) ey6 iy6 eX4_refsAre_153.2.2.2.2.2.2.1 ?_
      refine lv_aload_n hx hb eX4_refsAre_153.2.2.2.2.2.2.2 rfl (lv_at hl 2 rfl) ?_
      refine lv_iload hx hb eX4_refsAre_168.1 (lv_at hl 3 rfl) ?_
      obtain ⟨y7, ey7, iy7, h⟩ := rdI_e h
      refine ya_iald (i := x1) hx hb hK hP 72 0 CW_72 rfl (by decide) ey7 iy7 eX4_refsAre_168.2.1 ?_
      obtain ⟨hr8, h⟩ := rg_e h
      obtain ⟨hr9, h⟩ := rg_e h
      refine lv_icmp_eq (tgt := 176) hx hb eX4_refsAre_168.2.2.1 (by decide) (fun c10 => ?_) (fun c10 => ?_)
      · have h := if_t ((i2_eq (x := y6) (y := y7) hr8 hr9).mp c10) h
        refine lv_iinc (v := i2 (x1 + 1)) (lv' := [(4, .int (i2 (x1 + 1))), (0, .ref (a 16)), (1, .ref (a 71)), (2, .ref (a 72))]) hx hb eX4_refsAre_168.2.2.2.2.2.1 hl (k := 3) rfl (i2_add x1 1) (by decide) rfl (fun ls hl => ?_)
        refine lv_goto (tgt := 151) hx hb eX4_refsAre_168.2.2.2.2.2.2.1 (by decide) ?_
        exact ih151 (x1 + 1, s2) _ _ _ ⟨hP, hS, lv_sub hl [1, 2, 3, 0] rfl, h⟩
      · have h := if_f (mt (i2_eq (x := y6) (y := y7) hr8 hr9).mpr c10) h
        refine lv_iconst (v := 0) hx hb eX4_refsAre_168.2.2.2.1 (by decide) ?_
        obtain rfl := Option.some.inj h
        exact W.zret (v := 0) hx hb hr (by decide) (fun t ht hW => ⟨⟨_, (), rfl, rfl, by rw [ht]; exact hP, va_K.moved hW.alike hK, hDD _⟩, hS.F ht⟩) hS.2.2 eX4_refsAre_168.2.2.2.2.1
  refine y_loop (pcJ := 65) (σ := Int × MS) (fun n u H locs ls => va_P D vwCl (CS D a u.2) H ∧ va_S A s₀.heap H locs ∧ lv_has ls 7 [(0, .ref (a 16)), (1, .ref (a 71)), (2, .ref (a 72)), (4, .int (i2 u.1))] ∧ m_x4_refsAre_L65 n u.1 u.2 = some o) (fun u => []) (fun u H locs ls hI => by obtain ⟨_, _, _, h⟩ := hI; cases h) (fun n65 ih65 u H locs ls hI => ?_) (fun J65 => ?_)
  · obtain ⟨hP, hS, hl, h⟩ := hI
    obtain ⟨x11, s12⟩ := u
    have hP : va_P D vwCl (CS D a s12) H := hP
    have hl : lv_has ls 7 [(0, .ref (a 16)), (1, .ref (a 71)), (2, .ref (a 72)), (4, .int (i2 x11))] := hl
    have h : m_x4_refsAre_b65 (m_x4_refsAre_L65 n65) x11 s12 = some o := h
    unfold m_x4_refsAre_b65 at h
    refine y_loop (pcJ := 107) (σ := Int × Int × Int × MS) (fun n u H locs ls => va_P D vwCl (CS D a u.2.2.2) H ∧ va_S A s₀.heap H locs ∧ lv_has ls 7 [(0, .ref (a 16)), (1, .ref (a 71)), (2, .ref (a 72)), (4, .int (i2 u.1)), (5, .int (i2 u.2.1)), (6, .int (i2 u.2.2.1))] ∧ m_x4_refsAre_L107 (m_x4_refsAre_L65 n65) n u.1 u.2.1 u.2.2.1 u.2.2.2 = some o) (fun u => []) (fun u H locs ls hI => by obtain ⟨_, _, _, h⟩ := hI; cases h) (fun n107 ih107 u H locs ls hI => ?_) (fun J107 => ?_)
    · obtain ⟨hP, hS, hl, h⟩ := hI
      obtain ⟨x13, x14, x15, s16⟩ := u
      have hP : va_P D vwCl (CS D a s16) H := hP
      have hl : lv_has ls 7 [(0, .ref (a 16)), (1, .ref (a 71)), (2, .ref (a 72)), (4, .int (i2 x13)), (5, .int (i2 x14)), (6, .int (i2 x15))] := hl
      have h : m_x4_refsAre_b107 (m_x4_refsAre_L65 n65) (m_x4_refsAre_L107 (m_x4_refsAre_L65 n65) n107) x13 x14 x15 s16 = some o := h
      unfold m_x4_refsAre_b107 at h
      refine lv_iload hx hb eX4_refsAre_107.1 (lv_at hl 5 rfl) ?_
      refine lv_iload hx hb eX4_refsAre_107.2.1 (lv_at hl 4 rfl) ?_
      obtain ⟨hr17, h⟩ := rg_e h
      obtain ⟨hr18, h⟩ := rg_e h
      refine lv_icmp_ge (tgt := 142) hx hb eX4_refsAre_107.2.2.1 (by decide) (fun c19 => ?_) (fun c19 => ?_)
      · have h := if_t ((i2_le (x := x14) (y := x15) hr18 hr17).mp c19) h
        refine lv_iinc (v := i2 (x13 + 1)) (lv' := [(4, .int (i2 (x13 + 1))), (0, .ref (a 16)), (1, .ref (a 71)), (2, .ref (a 72)), (5, .int (i2 x14)), (6, .int (i2 x15))]) hx hb eX4_refsAre_135.2.2.2.1 hl (k := 3) rfl (i2_add x13 1) (by decide) rfl (fun ls hl => ?_)
        refine lv_goto (tgt := 65) hx hb eX4_refsAre_135.2.2.2.2.1 (by decide) ?_
        exact ih65 (x13 + 1, s16) _ _ _ ⟨hP, hS, lv_sub hl [1, 2, 3, 0] rfl, h⟩
      · have h := if_f (mt (i2_le (x := x14) (y := x15) hr18 hr17).mpr c19) h
        refine lv_aload_n hx hb eX4_refsAre_107.2.2.2.1 rfl (lv_at hl 0 rfl) ?_
        refine va_get (D := D) (ci := 4) (v := .ref (a 20)) (C := RX4) (T := TX4) (N := 6) hx hb ht inX4 hown hK hP 16 CW_16 rfl 5 (by decide) (ht (.fieldLink RX4 21 "CloneVolumes$Picture" "refs" "[I") fl_X4_21) (fun _ h9 => h9) rfl eX4_refsAre_107.2.2.2.2.1 ?_
        refine lv_aload_n hx hb eX4_refsAre_107.2.2.2.2.2.1 rfl (lv_at hl 1 rfl) ?_
        refine va_get (D := D) (ci := 8) (v := .ref (a 77)) (C := RX8) (T := TX8) (N := 11) hx hb ht inX8 hown hK hP 71 CW_71 rfl 8 (by decide) (ht (.fieldLink RX4 84 "CloneVolumes$State" "values" "[I") fl_X4_84) (fun _ h9 => h9) rfl eX4_refsAre_107.2.2.2.2.2.2.1 ?_
        refine lv_aload_n hx hb eX4_refsAre_107.2.2.2.2.2.2.2 rfl (lv_at hl 1 rfl) ?_
        refine lv_iload hx hb eX4_refsAre_123.1 (lv_at hl 3 rfl) ?_
        refine lv_iload hx hb eX4_refsAre_123.2.1 (lv_at hl 5 rfl) ?_
        obtain ⟨r21, hc20, h⟩ := bn_e h
        refine ycV (r0 := i2 r21) (As := [.int (i2 x13), .int (i2 x15)]) (rest := [.ref (a 77), .ref (a 20)]) (C := RX8) (n := 2) ⟨hx, hb, hml, hown, ht⟩ (k_x8_slot_v2 l D a x13 x15 _ _ hc20) (zgV ml_X4_80 im_X8_slot se_X8_slot in_X8 co_X8_slot) rfl rfl (by decide +kernel) ⟨Nat.le_of_ble_eq_true rfl, Nat.le_of_ble_eq_true rfl⟩ hN hK hP hS 71 CW_71 rfl rfl rfl hl.1 rfl (Nat.le_of_ble_eq_true rfl) eX4_refsAre_123.2.2.1 ⟨Nat.le_of_ble_eq_true rfl, Nat.le_of_ble_eq_true rfl⟩ (fun H locs hP hS => ?_)
        obtain ⟨y22, ey22, iy22, h⟩ := rdI_e h
        refine ya_iald (i := r21) hx hb hK hP 77 0 CW_77 rfl (by decide) ey22 iy22 eX4_refsAre_123.2.2.2.1 ?_
        refine lv_dup2_11 hx hb eX4_refsAre_123.2.2.2.2.1 rfl rfl ?_
        obtain ⟨y23, ey23, iy23, h⟩ := rdI_e h
        refine ya_iald (i := y22) hx hb hK hP 20 0 CW_20 rfl (by decide) ey23 iy23 eX4_refsAre_123.2.2.2.2.2.1 ?_
        refine lv_iconst (v := 1) hx hb eX4_refsAre_123.2.2.2.2.2.2.1 (by decide) ?_
        refine lv_iadd hx hb eX4_refsAre_123.2.2.2.2.2.2.2 ?_
        refine z_topi (y := i2 (y23 + 1)) (i2_add y23 1) ?_
        obtain ⟨hi24, h⟩ := inb_e h
        refine ya_iast (i := y22) (x := (y23 + 1)) hx hb hK hP (hDD _) hS 20 0 CW_20 rfl (by decide) hi24 eX4_refsAre_135.1 (CW_w20 _) (fun H locs hP hS => ?_)
        obtain ⟨s25, hs25, h⟩ := st_e h
        rw [hs25] at hP
        refine lv_iinc (v := i2 (x15 + 1)) (lv' := [(6, .int (i2 (x15 + 1))), (0, .ref (a 16)), (1, .ref (a 71)), (2, .ref (a 72)), (4, .int (i2 x13)), (5, .int (i2 x14))]) hx hb eX4_refsAre_135.2.1 hl (k := 5) rfl (i2_add x15 1) (by decide) rfl (fun ls hl => ?_)
        refine lv_goto (tgt := 107) hx hb eX4_refsAre_135.2.2.1 (by decide) ?_
        exact ih107 (x13, x14, x15 + 1, s25) _ _ _ ⟨hP, hS, lv_sub hl [1, 2, 3, 4, 5, 0] rfl, h⟩
    refine y_head (pcJ := 102) (σ := Int × Int × MS) (fun u H locs ls => va_P D vwCl (CS D a u.2.2) H ∧ va_S A s₀.heap H locs ∧ lv_has ls 7 [(0, .ref (a 16)), (1, .ref (a 71)), (2, .ref (a 72)), (4, .int (i2 u.1))] ∧ m_x4_refsAre_J102 (m_x4_refsAre_L65 n65) u.1 u.2.1 u.2.2 = some o) (fun u => [.int (i2 u.2.1)]) (fun u H locs ls hI => ?_) (fun J102 => ?_)
    · obtain ⟨hP, hS, hl, h⟩ := hI
      obtain ⟨x26, x27, s28⟩ := u
      have hP : va_P D vwCl (CS D a s28) H := hP
      have hl : lv_has ls 7 [(0, .ref (a 16)), (1, .ref (a 71)), (2, .ref (a 72)), (4, .int (i2 x26))] := hl
      have h : m_x4_refsAre_J102 (m_x4_refsAre_L65 n65) x26 x27 s28 = some o := h
      unfold m_x4_refsAre_J102 at h
      refine lv_istore (lv' := [(5, .int (i2 x27)), (0, .ref (a 16)), (1, .ref (a 71)), (2, .ref (a 72)), (4, .int (i2 x26))]) hx hb eX4_refsAre_92.2.2.2.2.2.1 hl (by decide) rfl (fun ls hl => ?_)
      refine lv_iconst (v := 0) hx hb eX4_refsAre_92.2.2.2.2.2.2.1 (by decide) ?_
      refine lv_istore (lv' := [(6, .int 0), (5, .int (i2 x27)), (0, .ref (a 16)), (1, .ref (a 71)), (2, .ref (a 72)), (4, .int (i2 x26))]) hx hb eX4_refsAre_92.2.2.2.2.2.2.2 hl (by decide) rfl (fun ls hl => ?_)
      exact J107 FU (x26, x27, 0, s28) _ _ _ ⟨hP, hS, lv_sub hl [2, 3, 4, 5, 1, 0] rfl, h⟩
    refine y_head (pcJ := 101) (σ := Int × MS) (fun u H locs ls => va_P D vwCl (CS D a u.2) H ∧ va_S A s₀.heap H locs ∧ lv_has ls 7 [(0, .ref (a 16)), (1, .ref (a 71)), (2, .ref (a 72)), (4, .int (i2 u.1))] ∧ m_x4_refsAre_J101 (m_x4_refsAre_L65 n65) u.1 u.2 = some o) (fun u => []) (fun u H locs ls hI => ?_) (fun J101 => ?_)
    · obtain ⟨hP, hS, hl, h⟩ := hI
      obtain ⟨x29, s30⟩ := u
      have hP : va_P D vwCl (CS D a s30) H := hP
      have hl : lv_has ls 7 [(0, .ref (a 16)), (1, .ref (a 71)), (2, .ref (a 72)), (4, .int (i2 x29))] := hl
      have h : m_x4_refsAre_J101 (m_x4_refsAre_L65 n65) x29 s30 = some o := h
      unfold m_x4_refsAre_J101 at h
      refine lv_iconst (v := 0) hx hb eX4_refsAre_92.2.2.2.2.1 (by decide) ?_
      exact J102 (x29, 0, s30) _ _ _ ⟨hP, hS, lv_sub hl [0, 1, 2, 3] rfl, h⟩
    refine lv_iload hx hb eX4_refsAre_62.2.2.1 (lv_at hl 3 rfl) ?_
    refine lv_aload_n hx hb eX4_refsAre_62.2.2.2.1 rfl (lv_at hl 1 rfl) ?_
    refine va_get (D := D) (ci := 8) (v := .int (i2 (gI s12 1420))) (C := RX8) (T := TX8) (N := 11) hx hb ht inX8 hown hK hP 71 CW_71 rfl 0 (by decide) (ht (.fieldLink RX4 51 "CloneVolumes$State" "blocks" "I") fl_X4_51) (fun _ h9 => h9) rfl eX4_refsAre_62.2.2.2.2.1 ?_
    obtain ⟨hr31, h⟩ := rg_e h
    obtain ⟨hr32, h⟩ := rg_e h
    refine lv_icmp_ge (tgt := 148) hx hb eX4_refsAre_62.2.2.2.2.2.1 (by decide) (fun c33 => ?_) (fun c33 => ?_)
    · have h := if_t ((i2_le (x := (gI s12 1420)) (y := x11) hr32 hr31).mp c33) h
      refine lv_iconst (v := 0) hx hb eX4_refsAre_135.2.2.2.2.2.1 (by decide) ?_
      refine lv_istore (lv' := [(4, .int 0), (0, .ref (a 16)), (1, .ref (a 71)), (2, .ref (a 72))]) hx hb eX4_refsAre_135.2.2.2.2.2.2.1 hl (by decide) rfl (fun ls hl => ?_)
      exact J151 FU (0, s12) _ _ _ ⟨hP, hS, lv_sub hl [1, 2, 3, 0] rfl, h⟩
    · have h := if_f (mt (i2_le (x := (gI s12 1420)) (y := x11) hr32 hr31).mpr c33) h
      refine lv_aload_n hx hb eX4_refsAre_62.2.2.2.2.2.2.1 rfl (lv_at hl 2 rfl) ?_
      refine lv_iload hx hb eX4_refsAre_62.2.2.2.2.2.2.2 (lv_at hl 3 rfl) ?_
      obtain ⟨y34, ey34, iy34, h⟩ := rdI_e h
      refine ya_iald (i := x11) hx hb hK hP 72 0 CW_72 rfl (by decide) ey34 iy34 eX4_refsAre_77.1 ?_
      obtain ⟨hr35, h⟩ := rg_e h
      refine lv_if_le (tgt := 101) hx hb eX4_refsAre_77.2.1 (by decide) (fun c36 => ?_) (fun c36 => ?_)
      · have h := if_t ((i2_le (x := y34) (y := 0) hr35 (by decide)).mp c36) h
        exact J101 (x11, s12) _ _ _ ⟨hP, hS, lv_sub hl [0, 1, 2, 3] rfl, h⟩
      · have h := if_f (mt (i2_le (x := y34) (y := 0) hr35 (by decide)).mpr c36) h
        refine lv_aload_n hx hb eX4_refsAre_77.2.2.1 rfl (lv_at hl 1 rfl) ?_
        refine va_get (D := D) (ci := 8) (v := .ref (a 74)) (C := RX8) (T := TX8) (N := 11) hx hb ht inX8 hown hK hP 71 CW_71 rfl 5 (by decide) (ht (.fieldLink RX4 72 "CloneVolumes$State" "level" "[I") fl_X4_72) (fun _ h9 => h9) rfl eX4_refsAre_77.2.2.2.1 ?_
        refine lv_iload hx hb eX4_refsAre_77.2.2.2.2.1 (lv_at hl 3 rfl) ?_
        obtain ⟨y37, ey37, iy37, h⟩ := rdI_e h
        refine ya_iald (i := x11) hx hb hK hP 74 0 CW_74 rfl (by decide) ey37 iy37 eX4_refsAre_77.2.2.2.2.2.1 ?_
        obtain ⟨hr38, h⟩ := rg_e h
        refine lv_if_le (tgt := 101) hx hb eX4_refsAre_77.2.2.2.2.2.2.1 (by decide) (fun c39 => ?_) (fun c39 => ?_)
        · have h := if_t ((i2_le (x := y37) (y := 0) hr38 (by decide)).mp c39) h
          exact J101 (x11, s12) _ _ _ ⟨hP, hS, lv_sub hl [0, 1, 2, 3] rfl, h⟩
        · have h := if_f (mt (i2_le (x := y37) (y := 0) hr38 (by decide)).mpr c39) h
          refine lv_aload_n hx hb eX4_refsAre_77.2.2.2.2.2.2.2 rfl (lv_at hl 1 rfl) ?_
          refine va_get (D := D) (ci := 8) (v := .ref (a 75)) (C := RX8) (T := TX8) (N := 11) hx hb ht inX8 hown hK hP 71 CW_71 rfl 6 (by decide) (ht (.fieldLink RX4 75 "CloneVolumes$State" "size" "[I") fl_X4_75) (fun _ h9 => h9) rfl eX4_refsAre_92.1 ?_
          refine lv_iload hx hb eX4_refsAre_92.2.1 (lv_at hl 3 rfl) ?_
          obtain ⟨y40, ey40, iy40, h⟩ := rdI_e h
          refine ya_iald (i := x11) hx hb hK hP 75 0 CW_75 rfl (by decide) ey40 iy40 eX4_refsAre_92.2.2.1 ?_
          refine lv_goto (tgt := 102) hx hb eX4_refsAre_92.2.2.2.1 (by decide) ?_
          exact J102 (x11, y40, s12) _ _ _ ⟨hP, hS, lv_sub hl [0, 1, 2, 3] rfl, h⟩
  refine y_loop (pcJ := 29) (σ := Int × MS) (fun n u H locs ls => va_P D vwCl (CS D a u.2) H ∧ va_S A s₀.heap H locs ∧ lv_has ls 7 [(0, .ref (a 16)), (1, .ref (a 71)), (2, .ref (a 72)), (3, .ref (a 78)), (4, .int (i2 u.1))] ∧ m_x4_refsAre_L29 n u.1 u.2 = some o) (fun u => []) (fun u H locs ls hI => by obtain ⟨_, _, _, h⟩ := hI; cases h) (fun n29 ih29 u H locs ls hI => ?_) (fun J29 => ?_)
  · obtain ⟨hP, hS, hl, h⟩ := hI
    obtain ⟨x41, s42⟩ := u
    have hP : va_P D vwCl (CS D a s42) H := hP
    have hl : lv_has ls 7 [(0, .ref (a 16)), (1, .ref (a 71)), (2, .ref (a 72)), (3, .ref (a 78)), (4, .int (i2 x41))] := hl
    have h : m_x4_refsAre_b29 (m_x4_refsAre_L29 n29) x41 s42 = some o := h
    unfold m_x4_refsAre_b29 at h
    refine y_head (pcJ := 56) (σ := Int × MS) (fun u H locs ls => va_P D vwCl (CS D a u.2) H ∧ va_S A s₀.heap H locs ∧ lv_has ls 7 [(0, .ref (a 16)), (1, .ref (a 71)), (2, .ref (a 72)), (3, .ref (a 78)), (4, .int (i2 u.1))] ∧ m_x4_refsAre_J56 (m_x4_refsAre_L29 n29) u.1 u.2 = some o) (fun u => []) (fun u H locs ls hI => ?_) (fun J56 => ?_)
    · obtain ⟨hP, hS, hl, h⟩ := hI
      obtain ⟨x43, s44⟩ := u
      have hP : va_P D vwCl (CS D a s44) H := hP
      have hl : lv_has ls 7 [(0, .ref (a 16)), (1, .ref (a 71)), (2, .ref (a 72)), (3, .ref (a 78)), (4, .int (i2 x43))] := hl
      have h : m_x4_refsAre_J56 (m_x4_refsAre_L29 n29) x43 s44 = some o := h
      unfold m_x4_refsAre_J56 at h
      refine lv_iinc (v := i2 (x43 + 1)) (lv' := [(4, .int (i2 (x43 + 1))), (0, .ref (a 16)), (1, .ref (a 71)), (2, .ref (a 72)), (3, .ref (a 78))]) hx hb eX4_refsAre_50.2.2.2.2.2.2.1 hl (k := 4) rfl (i2_add x43 1) (by decide) rfl (fun ls hl => ?_)
      refine lv_goto (tgt := 29) hx hb eX4_refsAre_50.2.2.2.2.2.2.2 (by decide) ?_
      exact ih29 (x43 + 1, s44) _ _ _ ⟨hP, hS, lv_sub hl [1, 2, 3, 4, 0] rfl, h⟩
    refine lv_iload hx hb eX4_refsAre_19.2.2.2.2.2.1 (lv_at hl 4 rfl) ?_
    refine lv_bipush (v := 8) hx hb eX4_refsAre_19.2.2.2.2.2.2.1 (by decide) ?_
    obtain ⟨hr45, h⟩ := rg_e h
    refine lv_icmp_ge (tgt := 62) hx hb eX4_refsAre_19.2.2.2.2.2.2.2 (by decide) (fun c46 => ?_) (fun c46 => ?_)
    · have h := if_t ((i2_le (x := 8) (y := x41) (by decide) hr45).mp c46) h
      refine lv_iconst (v := 0) hx hb eX4_refsAre_62.1 (by decide) ?_
      refine lv_istore (lv' := [(4, .int 0), (0, .ref (a 16)), (1, .ref (a 71)), (2, .ref (a 72)), (3, .ref (a 78))]) hx hb eX4_refsAre_62.2.1 hl (by decide) rfl (fun ls hl => ?_)
      exact J65 FU (0, s42) _ _ _ ⟨hP, hS, lv_sub hl [1, 2, 3, 0] rfl, h⟩
    · have h := if_f (mt (i2_le (x := 8) (y := x41) (by decide) hr45).mpr c46) h
      refine lv_aload_n hx hb eX4_refsAre_36.1 rfl (lv_at hl 3 rfl) ?_
      refine lv_iload hx hb eX4_refsAre_36.2.1 (lv_at hl 4 rfl) ?_
      obtain ⟨y47, ey47, iy47, h⟩ := rdI_e h
      refine ya_iald (i := x41) hx hb hK hP 78 0 CW_78 rfl (by decide) ey47 iy47 eX4_refsAre_36.2.2.1 ?_
      obtain ⟨hr48, h⟩ := rg_e h
      refine lv_if_lt (tgt := 56) hx hb eX4_refsAre_36.2.2.2.1 (by decide) (fun c49 => ?_) (fun c49 => ?_)
      · have h := if_t ((i2_lt (x := y47) (y := 0) hr48 (by decide)).mp c49) h
        exact J56 (x41, s42) _ _ _ ⟨hP, hS, lv_sub hl [0, 1, 2, 3, 4] rfl, h⟩
      · have h := if_f (mt (i2_lt (x := y47) (y := 0) hr48 (by decide)).mpr c49) h
        refine lv_aload_n hx hb eX4_refsAre_36.2.2.2.2.1 rfl (lv_at hl 0 rfl) ?_
        refine va_get (D := D) (ci := 4) (v := .ref (a 20)) (C := RX4) (T := TX4) (N := 6) hx hb ht inX4 hown hK hP 16 CW_16 rfl 5 (by decide) (ht (.fieldLink RX4 21 "CloneVolumes$Picture" "refs" "[I") fl_X4_21) (fun _ h9 => h9) rfl eX4_refsAre_36.2.2.2.2.2.1 ?_
        refine lv_aload_n hx hb eX4_refsAre_36.2.2.2.2.2.2.1 rfl (lv_at hl 3 rfl) ?_
        refine lv_iload hx hb eX4_refsAre_36.2.2.2.2.2.2.2 (lv_at hl 4 rfl) ?_
        obtain ⟨y50, ey50, iy50, h⟩ := rdI_e h
        refine ya_iald (i := x41) hx hb hK hP 78 0 CW_78 rfl (by decide) ey50 iy50 eX4_refsAre_50.1 ?_
        refine lv_dup2_11 hx hb eX4_refsAre_50.2.1 rfl rfl ?_
        obtain ⟨y51, ey51, iy51, h⟩ := rdI_e h
        refine ya_iald (i := y50) hx hb hK hP 20 0 CW_20 rfl (by decide) ey51 iy51 eX4_refsAre_50.2.2.1 ?_
        refine lv_iconst (v := 1) hx hb eX4_refsAre_50.2.2.2.1 (by decide) ?_
        refine lv_iadd hx hb eX4_refsAre_50.2.2.2.2.1 ?_
        refine z_topi (y := i2 (y51 + 1)) (i2_add y51 1) ?_
        obtain ⟨hi52, h⟩ := inb_e h
        refine ya_iast (i := y50) (x := (y51 + 1)) hx hb hK hP (hDD _) hS 20 0 CW_20 rfl (by decide) hi52 eX4_refsAre_50.2.2.2.2.2.1 (CW_w20 _) (fun H locs hP hS => ?_)
        obtain ⟨s53, hs53, h⟩ := st_e h
        rw [hs53] at hP
        exact J56 (x41, s53) _ _ _ ⟨hP, hS, lv_sub hl [0, 1, 2, 3, 4] rfl, h⟩
  refine y_loop (pcJ := 3) (σ := Int × MS) (fun n u H locs ls => va_P D vwCl (CS D a u.2) H ∧ va_S A s₀.heap H locs ∧ lv_has ls 7 [(0, .ref (a 16)), (1, .ref (a 71)), (2, .ref (a 72)), (3, .ref (a 78)), (4, .int (i2 u.1))] ∧ m_x4_refsAre_L3 n u.1 u.2 = some o) (fun u => []) (fun u H locs ls hI => by obtain ⟨_, _, _, h⟩ := hI; cases h) (fun n3 ih3 u H locs ls hI => ?_) (fun J3 => ?_)
  · obtain ⟨hP, hS, hl, h⟩ := hI
    obtain ⟨x54, s55⟩ := u
    have hP : va_P D vwCl (CS D a s55) H := hP
    have hl : lv_has ls 7 [(0, .ref (a 16)), (1, .ref (a 71)), (2, .ref (a 72)), (3, .ref (a 78)), (4, .int (i2 x54))] := hl
    have h : m_x4_refsAre_b3 (m_x4_refsAre_L3 n3) x54 s55 = some o := h
    unfold m_x4_refsAre_b3 at h
    refine lv_iload hx hb eX4_refsAre_3.1 (lv_at hl 4 rfl) ?_
    refine lv_aload_n hx hb eX4_refsAre_3.2.1 rfl (lv_at hl 1 rfl) ?_
    refine va_get (D := D) (ci := 8) (v := .int (i2 (gI s55 1420))) (C := RX8) (T := TX8) (N := 11) hx hb ht inX8 hown hK hP 71 CW_71 rfl 0 (by decide) (ht (.fieldLink RX4 51 "CloneVolumes$State" "blocks" "I") fl_X4_51) (fun _ h9 => h9) rfl eX4_refsAre_3.2.2.1 ?_
    obtain ⟨hr56, h⟩ := rg_e h
    obtain ⟨hr57, h⟩ := rg_e h
    refine lv_icmp_ge (tgt := 26) hx hb eX4_refsAre_3.2.2.2.1 (by decide) (fun c58 => ?_) (fun c58 => ?_)
    · have h := if_t ((i2_le (x := (gI s55 1420)) (y := x54) hr57 hr56).mp c58) h
      refine lv_iconst (v := 0) hx hb eX4_refsAre_19.2.2.2.1 (by decide) ?_
      refine lv_istore (lv' := [(4, .int 0), (0, .ref (a 16)), (1, .ref (a 71)), (2, .ref (a 72)), (3, .ref (a 78))]) hx hb eX4_refsAre_19.2.2.2.2.1 hl (by decide) rfl (fun ls hl => ?_)
      exact J29 FU (0, s55) _ _ _ ⟨hP, hS, lv_sub hl [1, 2, 3, 4, 0] rfl, h⟩
    · have h := if_f (mt (i2_le (x := (gI s55 1420)) (y := x54) hr57 hr56).mpr c58) h
      refine lv_aload_n hx hb eX4_refsAre_3.2.2.2.2.1 rfl (lv_at hl 0 rfl) ?_
      refine va_get (D := D) (ci := 4) (v := .ref (a 20)) (C := RX4) (T := TX4) (N := 6) hx hb ht inX4 hown hK hP 16 CW_16 rfl 5 (by decide) (ht (.fieldLink RX4 21 "CloneVolumes$Picture" "refs" "[I") fl_X4_21) (fun _ h9 => h9) rfl eX4_refsAre_3.2.2.2.2.2.1 ?_
      refine lv_iload hx hb eX4_refsAre_3.2.2.2.2.2.2.1 (lv_at hl 4 rfl) ?_
      refine lv_iconst (v := 0) hx hb eX4_refsAre_3.2.2.2.2.2.2.2 (by decide) ?_
      obtain ⟨hi59, h⟩ := inb_e h
      refine ya_iast (i := x54) (x := 0) hx hb hK hP (hDD _) hS 20 0 CW_20 rfl (by decide) hi59 eX4_refsAre_19.1 (CW_w20 _) (fun H locs hP hS => ?_)
      obtain ⟨s60, hs60, h⟩ := st_e h
      rw [hs60] at hP
      refine lv_iinc (v := i2 (x54 + 1)) (lv' := [(4, .int (i2 (x54 + 1))), (0, .ref (a 16)), (1, .ref (a 71)), (2, .ref (a 72)), (3, .ref (a 78))]) hx hb eX4_refsAre_19.2.1 hl (k := 4) rfl (i2_add x54 1) (by decide) rfl (fun ls hl => ?_)
      refine lv_goto (tgt := 3) hx hb eX4_refsAre_19.2.2.1 (by decide) ?_
      exact ih3 (x54 + 1, s60) _ _ _ ⟨hP, hS, lv_sub hl [1, 2, 3, 4, 0] rfl, h⟩
  refine lv_iconst (v := 0) hx hb eX4_isSoundChild_109.2.2.2.2.2.2.1 (by decide) ?_
  refine lv_istore (lv' := [(4, .int 0), (0, .ref (a 16)), (1, .ref (a 71)), (2, .ref (a 72)), (3, .ref (a 78))]) hx hb eX4_isSoundChild_109.2.2.2.2.2.2.2 hl (by decide) rfl (fun ls hl => ?_)
  exact J3 FU (0, s) _ _ _ ⟨hP, hS, lv_sub hl [1, 2, 3, 4, 0] rfl, h⟩
