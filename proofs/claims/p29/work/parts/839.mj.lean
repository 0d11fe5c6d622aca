theorem cl_X12_619 : Cond.constantLong RX12 619 2 ∈ lw_gd := zm (lw_g_9 (List.mem_of_getElem? (i := 203) (by decide +kernel))) rfl
theorem cl_X12_624 : Cond.constantLong RX12 624 999 ∈ lw_gd := zm (lw_g_9 (List.mem_of_getElem? (i := 220) (by decide +kernel))) rfl
theorem co_X12_isBlock : Cond.code yX12_isBlock cX12_isBlock 3 (some .boolean) ∈ lw_gd := zm (lw_g_9 (List.mem_of_getElem? (i := 194) (by decide +kernel))) rfl
theorem co_X12_laysWrites : Cond.code yX12_laysWrites cX12_laysWrites 4 none ∈ lw_gd := zm (lw_g_10 (List.mem_of_getElem? (i := 0) (by decide +kernel))) rfl
theorem co_X12_unlike : Cond.code yX12_unlike cX12_unlike 6 (some .int) ∈ lw_gd := zm (lw_g_9 (List.mem_of_getElem? (i := 232) (by decide +kernel))) rfl
theorem fl_X12_629 : Cond.fieldLink RX12 629 "CloneVolumesModel" "writeMany" "I" ∈ lw_gd := zm (lw_g_6 (List.mem_of_getElem? (i := 211) (by decide +kernel))) rfl
theorem fl_X12_632 : Cond.fieldLink RX12 632 "CloneVolumesModel" "writeCost" "I" ∈ lw_gd := zm (lw_g_6 (List.mem_of_getElem? (i := 212) (by decide +kernel))) rfl
theorem im_X12_isBlock : Cond.instanceMethod yX12_isBlock ∈ lw_gd := zm (lw_g_9 (List.mem_of_getElem? (i := 193) (by decide +kernel))) rfl
theorem im_X12_laysWrites : Cond.instanceMethod yX12_laysWrites ∈ lw_gd := zm (lw_g_9 (List.mem_of_getElem? (i := 239) (by decide +kernel))) rfl
theorem im_X12_unlike : Cond.instanceMethod yX12_unlike ∈ lw_gd := zm (lw_g_9 (List.mem_of_getElem? (i := 231) (by decide +kernel))) rfl
theorem ml_X12_616 : Cond.methodLink RX12 616 yX12_isBlock ∈ lw_gd := zm (lw_g_9 (List.mem_of_getElem? (i := 191) (by decide +kernel))) rfl
theorem ml_X12_626 : Cond.methodLink RX12 626 yX12_unlike ∈ lw_gd := zm (lw_g_9 (List.mem_of_getElem? (i := 229) (by decide +kernel))) rfl
theorem ml_X12_635 : Cond.methodLink RX12 635 yX12_laysWrites ∈ lw_gd := zm (lw_g_9 (List.mem_of_getElem? (i := 237) (by decide +kernel))) rfl
theorem se_X12_isBlock : Cond.selects RX12 yX12_isBlock yX12_isBlock ∈ lw_gd := zm (List.mem_of_getElem? (i := 160) (by decide +kernel)) rfl
theorem se_X12_laysWrites : Cond.selects RX12 yX12_laysWrites yX12_laysWrites ∈ lw_gd := zm (List.mem_of_getElem? (i := 162) (by decide +kernel)) rfl
theorem se_X12_unlike : Cond.selects RX12 yX12_unlike yX12_unlike ∈ lw_gd := zm (List.mem_of_getElem? (i := 161) (by decide +kernel)) rfl
theorem eX12_block_0 : decode cX12_block 0 = .ok (.aload_n 0, 1) ∧ decode cX12_block 1 = .ok (.iload_n 1, 1) ∧ decode cX12_block 2 = .ok (.i2l, 1) ∧ decode cX12_block 3 = .ok (.invokevirtual 616, 3) ∧ decode cX12_block 6 = .ok (.ifCond .ne 5, 3) ∧ decode cX12_block 9 = .ok (.iconst (-1), 1) ∧ decode cX12_block 10 = .ok (.ireturn, 1) ∧ decode cX12_block 11 = .ok (.iload_n 2, 1) := by decide +kernel
theorem eX12_block_12 : decode cX12_block 12 = .ok (.tableswitch 116 0 5 #[40, 46, 52, 70, 88, 102], 40) ∧ decode cX12_block 52 = .ok (.aload_n 0, 1) ∧ decode cX12_block 53 = .ok (.iload_n 1, 1) ∧ decode cX12_block 54 = .ok (.invokevirtual 432, 3) ∧ decode cX12_block 57 = .ok (.ireturn, 1) ∧ decode cX12_block 58 = .ok (.aload_n 0, 1) ∧ decode cX12_block 59 = .ok (.iload_n 1, 1) ∧ decode cX12_block 60 = .ok (.invokevirtual 438, 3) := by decide +kernel
theorem eX12_block_63 : decode cX12_block 63 = .ok (.ireturn, 1) ∧ decode cX12_block 64 = .ok (.aload_n 0, 1) ∧ decode cX12_block 65 = .ok (.iload_n 1, 1) ∧ decode cX12_block 66 = .ok (.invokevirtual 496, 3) ∧ decode cX12_block 69 = .ok (.ifCond .eq 11, 3) ∧ decode cX12_block 72 = .ok (.aload_n 0, 1) ∧ decode cX12_block 73 = .ok (.iload_n 1, 1) ∧ decode cX12_block 74 = .ok (.invokevirtual 460, 3) := by decide +kernel
theorem eX12_block_77 : decode cX12_block 77 = .ok (.goto 4, 3) ∧ decode cX12_block 80 = .ok (.iconst 0, 1) ∧ decode cX12_block 81 = .ok (.ireturn, 1) ∧ decode cX12_block 82 = .ok (.aload_n 0, 1) ∧ decode cX12_block 83 = .ok (.iload_n 1, 1) ∧ decode cX12_block 84 = .ok (.invokevirtual 496, 3) ∧ decode cX12_block 87 = .ok (.ifCond .eq 11, 3) ∧ decode cX12_block 90 = .ok (.aload_n 0, 1) := by decide +kernel
theorem eX12_block_91 : decode cX12_block 91 = .ok (.iload_n 1, 1) ∧ decode cX12_block 92 = .ok (.invokevirtual 466, 3) ∧ decode cX12_block 95 = .ok (.goto 4, 3) ∧ decode cX12_block 98 = .ok (.iconst 0, 1) ∧ decode cX12_block 99 = .ok (.ireturn, 1) ∧ decode cX12_block 100 = .ok (.aload_n 0, 1) ∧ decode cX12_block 101 = .ok (.iload_n 1, 1) ∧ decode cX12_block 102 = .ok (.invokevirtual 508, 3) := by decide +kernel
theorem eX12_block_105 : decode cX12_block 105 = .ok (.ifCond .eq 7, 3) ∧ decode cX12_block 108 = .ok (.iconst 1, 1) ∧ decode cX12_block 109 = .ok (.goto 4, 3) ∧ decode cX12_block 112 = .ok (.iconst 0, 1) ∧ decode cX12_block 113 = .ok (.ireturn, 1) ∧ decode cX12_block 114 = .ok (.aload_n 0, 1) ∧ decode cX12_block 115 = .ok (.iload_n 1, 1) ∧ decode cX12_block 116 = .ok (.invokevirtual 575, 3) := by decide +kernel
theorem eX12_block_119 : decode cX12_block 119 = .ok (.ifCond .eq 7, 3) ∧ decode cX12_block 122 = .ok (.iconst 1, 1) ∧ decode cX12_block 123 = .ok (.goto 4, 3) ∧ decode cX12_block 126 = .ok (.iconst 0, 1) ∧ decode cX12_block 127 = .ok (.ireturn, 1) ∧ decode cX12_block 128 = .ok (.iconst (-1), 1) ∧ decode cX12_block 129 = .ok (.ireturn, 1) ∧ decode cX12_differs 0 = .ok (.aload_n 0, 1) := by decide +kernel
theorem eX12_differs_1 : decode cX12_differs 1 = .ok (.iload_n 1, 1) ∧ decode cX12_differs 2 = .ok (.i2l, 1) ∧ decode cX12_differs 3 = .ok (.invokevirtual 571, 3) ∧ decode cX12_differs 6 = .ok (.ifCond .eq 37, 3) ∧ decode cX12_differs 9 = .ok (.aload_n 0, 1) ∧ decode cX12_differs 10 = .ok (.iload_n 2, 1) ∧ decode cX12_differs 11 = .ok (.i2l, 1) ∧ decode cX12_differs 12 = .ok (.invokevirtual 571, 3) := by decide +kernel
theorem eX12_differs_15 : decode cX12_differs 15 = .ok (.ifCond .eq 28, 3) ∧ decode cX12_differs 18 = .ok (.iload_n 3, 1) ∧ decode cX12_differs 19 = .ok (.iconst (-1), 1) ∧ decode cX12_differs 20 = .ok (.if_icmp .lt 23, 3) ∧ decode cX12_differs 23 = .ok (.aload_n 0, 1) ∧ decode cX12_differs 24 = .ok (.aload_n 0, 1) ∧ decode cX12_differs 25 = .ok (.getfield 121, 3) ∧ decode cX12_differs 28 = .ok (.iload_n 1, 1) := by decide +kernel
theorem eX12_differs_29 : decode cX12_differs 29 = .ok (.iaload, 1) ∧ decode cX12_differs 30 = .ok (.aload_n 0, 1) ∧ decode cX12_differs 31 = .ok (.getfield 121, 3) ∧ decode cX12_differs 34 = .ok (.iload_n 2, 1) ∧ decode cX12_differs 35 = .ok (.iaload, 1) ∧ decode cX12_differs 36 = .ok (.iload_n 3, 1) ∧ decode cX12_differs 37 = .ok (.invokevirtual 626, 3) ∧ decode cX12_differs 40 = .ok (.goto 4, 3) := by decide +kernel
theorem eX12_differs_43 : decode cX12_differs 43 = .ok (.iconst (-1), 1) ∧ decode cX12_differs 44 = .ok (.ireturn, 1) ∧ decode cX12_entry 0 = .ok (.aload_n 0, 1) ∧ decode cX12_entry 1 = .ok (.iload_n 1, 1) ∧ decode cX12_entry 2 = .ok (.i2l, 1) ∧ decode cX12_entry 3 = .ok (.invokevirtual 616, 3) ∧ decode cX12_entry 6 = .ok (.ifCond .eq 38, 3) ∧ decode cX12_entry 9 = .ok (.aload_n 0, 1) := by decide +kernel
theorem eX12_entry_10 : decode cX12_entry 10 = .ok (.iload_n 1, 1) ∧ decode cX12_entry 11 = .ok (.invokevirtual 496, 3) ∧ decode cX12_entry 14 = .ok (.ifCond .eq 30, 3) ∧ decode cX12_entry 17 = .ok (.iload_n 2, 1) ∧ decode cX12_entry 18 = .ok (.i2l, 1) ∧ decode cX12_entry 19 = .ok (.lconst 0, 1) ∧ decode cX12_entry 20 = .ok (.aload_n 0, 1) ∧ decode cX12_entry 21 = .ok (.iload_n 1, 1) := by decide +kernel
theorem eX12_entry_22 : decode cX12_entry 22 = .ok (.invokevirtual 466, 3) ∧ decode cX12_entry 25 = .ok (.iconst 1, 1) ∧ decode cX12_entry 26 = .ok (.isub, 1) ∧ decode cX12_entry 27 = .ok (.i2l, 1) ∧ decode cX12_entry 28 = .ok (.invokestatic 309, 3) ∧ decode cX12_entry 31 = .ok (.ifCond .eq 13, 3) ∧ decode cX12_entry 34 = .ok (.iload_n 3, 1) ∧ decode cX12_entry 35 = .ok (.i2l, 1) := by decide +kernel
theorem eX12_entry_36 : decode cX12_entry 36 = .ok (.lconst 0, 1) ∧ decode cX12_entry 37 = .ok (.lconst 1, 1) ∧ decode cX12_entry 38 = .ok (.invokestatic 309, 3) ∧ decode cX12_entry 41 = .ok (.ifCond .ne 5, 3) ∧ decode cX12_entry 44 = .ok (.iconst (-1), 1) ∧ decode cX12_entry 45 = .ok (.ireturn, 1) ∧ decode cX12_entry 46 = .ok (.iload_n 3, 1) ∧ decode cX12_entry 47 = .ok (.ifCond .ne 12, 3) := by decide +kernel
theorem eX12_entry_50 : decode cX12_entry 50 = .ok (.aload_n 0, 1) ∧ decode cX12_entry 51 = .ok (.iload_n 1, 1) ∧ decode cX12_entry 52 = .ok (.iload_n 2, 1) ∧ decode cX12_entry 53 = .ok (.invokevirtual 517, 3) ∧ decode cX12_entry 56 = .ok (.goto 9, 3) ∧ decode cX12_entry 59 = .ok (.aload_n 0, 1) ∧ decode cX12_entry 60 = .ok (.iload_n 1, 1) ∧ decode cX12_entry 61 = .ok (.iload_n 2, 1) := by decide +kernel
theorem eX12_entry_62 : decode cX12_entry 62 = .ok (.invokevirtual 505, 3) ∧ decode cX12_entry 65 = .ok (.ireturn, 1) ∧ decode cX12_kept 0 = .ok (.iload_n 1, 1) ∧ decode cX12_kept 1 = .ok (.i2l, 1) ∧ decode cX12_kept 2 = .ok (.lconst 0, 1) ∧ decode cX12_kept 3 = .ok (.aload_n 0, 1) ∧ decode cX12_kept 4 = .ok (.getfield 121, 3) ∧ decode cX12_kept 7 = .ok (.sipush 785, 3) := by decide +kernel
theorem eX12_kept_10 : decode cX12_kept 10 = .ok (.iaload, 1) ∧ decode cX12_kept 11 = .ok (.iconst 1, 1) ∧ decode cX12_kept 12 = .ok (.isub, 1) ∧ decode cX12_kept 13 = .ok (.i2l, 1) ∧ decode cX12_kept 14 = .ok (.invokestatic 309, 3) ∧ decode cX12_kept 17 = .ok (.ifCond .eq 32, 3) ∧ decode cX12_kept 20 = .ok (.iload_n 2, 1) ∧ decode cX12_kept 21 = .ok (.i2l, 1) := by decide +kernel
theorem eX12_kept_22 : decode cX12_kept 22 = .ok (.lconst 0, 1) ∧ decode cX12_kept 23 = .ok (.ldc2_w 619, 3) ∧ decode cX12_kept 26 = .ok (.invokestatic 309, 3) ∧ decode cX12_kept 29 = .ok (.ifCond .eq 20, 3) ∧ decode cX12_kept 32 = .ok (.aload_n 0, 1) ∧ decode cX12_kept 33 = .ok (.getfield 121, 3) ∧ decode cX12_kept 36 = .ok (.sipush 786, 3) ∧ decode cX12_kept 39 = .ok (.iconst 3, 1) := by decide +kernel
theorem eX12_kept_40 : decode cX12_kept 40 = .ok (.iload_n 1, 1) ∧ decode cX12_kept 41 = .ok (.imul, 1) ∧ decode cX12_kept 42 = .ok (.iadd, 1) ∧ decode cX12_kept 43 = .ok (.iload_n 2, 1) ∧ decode cX12_kept 44 = .ok (.iadd, 1) ∧ decode cX12_kept 45 = .ok (.iaload, 1) ∧ decode cX12_kept 46 = .ok (.goto 4, 3) ∧ decode cX12_kept 49 = .ok (.iconst (-1), 1) := by decide +kernel
theorem eX12_kept_50 : decode cX12_kept 50 = .ok (.ireturn, 1) ∧ decode cX12_key 0 = .ok (.aload_n 0, 1) ∧ decode cX12_key 1 = .ok (.iload_n 1, 1) ∧ decode cX12_key 2 = .ok (.i2l, 1) ∧ decode cX12_key 3 = .ok (.invokevirtual 571, 3) ∧ decode cX12_key 6 = .ok (.ifCond .ne 5, 3) ∧ decode cX12_key 9 = .ok (.iconst (-1), 1) ∧ decode cX12_key 10 = .ok (.ireturn, 1) := by decide +kernel
theorem eX12_key_11 : decode cX12_key 11 = .ok (.aload_n 0, 1) ∧ decode cX12_key 12 = .ok (.aload_n 0, 1) ∧ decode cX12_key 13 = .ok (.getfield 121, 3) ∧ decode cX12_key 16 = .ok (.iload_n 1, 1) ∧ decode cX12_key 17 = .ok (.iaload, 1) ∧ decode cX12_key 18 = .ok (.invokevirtual 610, 3) ∧ decode cX12_key 21 = .ok (.iload_n 2, 1) ∧ decode cX12_key 22 = .ok (.i2l, 1) := by decide +kernel
theorem eX12_key_23 : decode cX12_key 23 = .ok (.lconst 0, 1) ∧ decode cX12_key 24 = .ok (.aload_n 0, 1) ∧ decode cX12_key 25 = .ok (.getfield 592, 3) ∧ decode cX12_key 28 = .ok (.iconst 1, 1) ∧ decode cX12_key 29 = .ok (.isub, 1) ∧ decode cX12_key 30 = .ok (.i2l, 1) ∧ decode cX12_key 31 = .ok (.invokestatic 309, 3) ∧ decode cX12_key 34 = .ok (.ifCond .eq 12, 3) := by decide +kernel
theorem eX12_key_37 : decode cX12_key 37 = .ok (.aload_n 0, 1) ∧ decode cX12_key 38 = .ok (.getfield 152, 3) ∧ decode cX12_key 41 = .ok (.iload_n 2, 1) ∧ decode cX12_key 42 = .ok (.iaload, 1) ∧ decode cX12_key 43 = .ok (.goto 4, 3) ∧ decode cX12_key 46 = .ok (.iconst (-1), 1) ∧ decode cX12_key 47 = .ok (.ireturn, 1) ∧ decode cX12_laysWrites 0 = .ok (.aload_n 0, 1) := by decide +kernel
theorem eX12_laysWrites_1 : decode cX12_laysWrites 1 = .ok (.iconst (-1), 1) ∧ decode cX12_laysWrites 2 = .ok (.putfield 629, 3) ∧ decode cX12_laysWrites 5 = .ok (.aload_n 0, 1) ∧ decode cX12_laysWrites 6 = .ok (.iconst (-1), 1) ∧ decode cX12_laysWrites 7 = .ok (.putfield 632, 3) ∧ decode cX12_laysWrites 10 = .ok (.aload_n 0, 1) ∧ decode cX12_laysWrites 11 = .ok (.iload_n 1, 1) ∧ decode cX12_laysWrites 12 = .ok (.iload_n 2, 1) := by decide +kernel
theorem eX12_laysWrites_13 : decode cX12_laysWrites 13 = .ok (.invokevirtual 559, 3) ∧ decode cX12_laysWrites 16 = .ok (.istore_n 3, 1) ∧ decode cX12_laysWrites 17 = .ok (.aload_n 0, 1) ∧ decode cX12_laysWrites 18 = .ok (.invokevirtual 601, 3) ∧ decode cX12_laysWrites 21 = .ok (.aload_n 0, 1) ∧ decode cX12_laysWrites 22 = .ok (.iconst 2, 1) ∧ decode cX12_laysWrites 23 = .ok (.iload_n 1, 1) ∧ decode cX12_laysWrites 24 = .ok (.iload_n 2, 1) := by decide +kernel
theorem eX12_laysWrites_25 : decode cX12_laysWrites 25 = .ok (.iload_n 3, 1) ∧ decode cX12_laysWrites 26 = .ok (.ifCond .ne 7, 3) ∧ decode cX12_laysWrites 29 = .ok (.iconst 1, 1) ∧ decode cX12_laysWrites 30 = .ok (.goto 4, 3) ∧ decode cX12_laysWrites 33 = .ok (.iconst 0, 1) ∧ decode cX12_laysWrites 34 = .ok (.invokevirtual 425, 3) ∧ decode cX12_laysWrites 37 = .ok (.ifCond .eq 19, 3) ∧ decode cX12_laysWrites 40 = .ok (.aload_n 0, 1) := by decide +kernel
theorem eX12_laysWrites_41 : decode cX12_laysWrites 41 = .ok (.aload_n 0, 1) ∧ decode cX12_laysWrites 42 = .ok (.invokevirtual 486, 3) ∧ decode cX12_laysWrites 45 = .ok (.putfield 629, 3) ∧ decode cX12_laysWrites 48 = .ok (.aload_n 0, 1) ∧ decode cX12_laysWrites 49 = .ok (.aload_n 0, 1) ∧ decode cX12_laysWrites 50 = .ok (.invokevirtual 489, 3) ∧ decode cX12_laysWrites 53 = .ok (.putfield 632, 3) ∧ decode cX12_laysWrites 56 = .ok (.aload_n 0, 1) := by decide +kernel
theorem eX12_laysWrites_57 : decode cX12_laysWrites 57 = .ok (.invokevirtual 607, 3) ∧ decode cX12_laysWrites 60 = .ok (.return_, 1) ∧ decode cX12_path 0 = .ok (.aload_n 0, 1) ∧ decode cX12_path 1 = .ok (.iload_n 1, 1) ∧ decode cX12_path 2 = .ok (.i2l, 1) ∧ decode cX12_path 3 = .ok (.invokevirtual 571, 3) ∧ decode cX12_path 6 = .ok (.ifCond .eq 31, 3) ∧ decode cX12_path 9 = .ok (.iload_n 2, 1) := by decide +kernel
theorem eX12_path_10 : decode cX12_path 10 = .ok (.i2l, 1) ∧ decode cX12_path 11 = .ok (.lconst 0, 1) ∧ decode cX12_path 12 = .ok (.ldc2_w 624, 3) ∧ decode cX12_path 15 = .ok (.invokestatic 309, 3) ∧ decode cX12_path 18 = .ok (.ifCond .eq 19, 3) ∧ decode cX12_path 21 = .ok (.aload_n 0, 1) ∧ decode cX12_path 22 = .ok (.getfield 121, 3) ∧ decode cX12_path 25 = .ok (.iload_n 1, 1) := by decide +kernel
theorem eX12_path_26 : decode cX12_path 26 = .ok (.iaload, 1) ∧ decode cX12_path 27 = .ok (.sipush 254, 3) ∧ decode cX12_path 30 = .ok (.if_icmp .eq 7, 3) ∧ decode cX12_path 33 = .ok (.iload_n 3, 1) ∧ decode cX12_path 34 = .ok (.ifCond .ge 5, 3) ∧ decode cX12_path 37 = .ok (.iconst (-1), 1) ∧ decode cX12_path 38 = .ok (.ireturn, 1) ∧ decode cX12_path 39 = .ok (.aload_n 0, 1) := by decide +kernel
theorem eX12_path_40 : decode cX12_path 40 = .ok (.getfield 121, 3) ∧ decode cX12_path 43 = .ok (.iload_n 1, 1) ∧ decode cX12_path 44 = .ok (.iaload, 1) ∧ decode cX12_path 45 = .ok (.istore 4, 2) ∧ decode cX12_path 47 = .ok (.iconst 0, 1) ∧ decode cX12_path 48 = .ok (.istore 5, 2) ∧ decode cX12_path 50 = .ok (.iload 5, 2) ∧ decode cX12_path 52 = .ok (.iload_n 3, 1) := by decide +kernel
theorem eX12_path_53 : decode cX12_path 53 = .ok (.if_icmp .ge 35, 3) ∧ decode cX12_path 56 = .ok (.aload_n 0, 1) ∧ decode cX12_path 57 = .ok (.iload 4, 2) ∧ decode cX12_path 59 = .ok (.invokevirtual 460, 3) ∧ decode cX12_path 62 = .ok (.ifCond .ne 5, 3) ∧ decode cX12_path 65 = .ok (.iconst (-1), 1) ∧ decode cX12_path 66 = .ok (.ireturn, 1) ∧ decode cX12_path 67 = .ok (.aload_n 0, 1) := by decide +kernel
theorem eX12_path_68 : decode cX12_path 68 = .ok (.iload 4, 2) ∧ decode cX12_path 70 = .ok (.aload_n 0, 1) ∧ decode cX12_path 71 = .ok (.iload 4, 2) ∧ decode cX12_path 73 = .ok (.iload_n 2, 1) ∧ decode cX12_path 74 = .ok (.invokevirtual 543, 3) ∧ decode cX12_path 77 = .ok (.invokevirtual 505, 3) ∧ decode cX12_path 80 = .ok (.istore 4, 2) ∧ decode cX12_path 82 = .ok (.iinc 5 1, 3) := by decide +kernel
theorem eX12_path_85 : decode cX12_path 85 = .ok (.goto (-35), 3) ∧ decode cX12_path 88 = .ok (.iload 4, 2) ∧ decode cX12_path 90 = .ok (.ireturn, 1) ∧ decode cX12_read 0 = .ok (.aload_n 0, 1) ∧ decode cX12_read 1 = .ok (.iload_n 1, 1) ∧ decode cX12_read 2 = .ok (.i2l, 1) ∧ decode cX12_read 3 = .ok (.invokevirtual 571, 3) ∧ decode cX12_read 6 = .ok (.ifCond .eq 12, 3) := by decide +kernel
theorem eX12_read_9 : decode cX12_read 9 = .ok (.aload_n 0, 1) ∧ decode cX12_read 10 = .ok (.iload_n 1, 1) ∧ decode cX12_read 11 = .ok (.iload_n 2, 1) ∧ decode cX12_read 12 = .ok (.invokevirtual 559, 3) ∧ decode cX12_read 15 = .ok (.goto 4, 3) ∧ decode cX12_read 18 = .ok (.iconst (-1), 1) ∧ decode cX12_read 19 = .ok (.ireturn, 1) ∧ decode cX12_shared 0 = .ok (.aload_n 0, 1) := by decide +kernel
theorem eX12_shared_1 : decode cX12_shared 1 = .ok (.iload_n 1, 1) ∧ decode cX12_shared 2 = .ok (.i2l, 1) ∧ decode cX12_shared 3 = .ok (.invokevirtual 571, 3) ∧ decode cX12_shared 6 = .ok (.ifCond .eq 12, 3) ∧ decode cX12_shared 9 = .ok (.aload_n 0, 1) ∧ decode cX12_shared 10 = .ok (.iload_n 2, 1) ∧ decode cX12_shared 11 = .ok (.i2l, 1) ∧ decode cX12_shared 12 = .ok (.invokevirtual 571, 3) := by decide +kernel
theorem eX12_shared_15 : decode cX12_shared 15 = .ok (.ifCond .ne 5, 3) ∧ decode cX12_shared 18 = .ok (.iconst (-1), 1) ∧ decode cX12_shared 19 = .ok (.ireturn, 1) ∧ decode cX12_shared 20 = .ok (.aload_n 0, 1) ∧ decode cX12_shared 21 = .ok (.aload_n 0, 1) ∧ decode cX12_shared 22 = .ok (.getfield 121, 3) ∧ decode cX12_shared 25 = .ok (.iload_n 1, 1) ∧ decode cX12_shared 26 = .ok (.iaload, 1) := by decide +kernel
theorem eX12_shared_27 : decode cX12_shared 27 = .ok (.invokevirtual 610, 3) ∧ decode cX12_shared 30 = .ok (.iconst 0, 1) ∧ decode cX12_shared 31 = .ok (.istore_n 3, 1) ∧ decode cX12_shared 32 = .ok (.iload_n 3, 1) ∧ decode cX12_shared 33 = .ok (.bipush 48, 2) ∧ decode cX12_shared 35 = .ok (.if_icmp .ge 21, 3) ∧ decode cX12_shared 38 = .ok (.aload_n 0, 1) ∧ decode cX12_shared 39 = .ok (.getfield 161, 3) := by decide +kernel
theorem eX12_shared_42 : decode cX12_shared 42 = .ok (.iload_n 3, 1) ∧ decode cX12_shared 43 = .ok (.aload_n 0, 1) ∧ decode cX12_shared 44 = .ok (.getfield 149, 3) ∧ decode cX12_shared 47 = .ok (.iload_n 3, 1) ∧ decode cX12_shared 48 = .ok (.baload, 1) ∧ decode cX12_shared 49 = .ok (.bastore, 1) ∧ decode cX12_shared 50 = .ok (.iinc 3 1, 3) ∧ decode cX12_shared 53 = .ok (.goto (-21), 3) := by decide +kernel
theorem eX12_shared_56 : decode cX12_shared 56 = .ok (.aload_n 0, 1) ∧ decode cX12_shared 57 = .ok (.aload_n 0, 1) ∧ decode cX12_shared 58 = .ok (.getfield 121, 3) ∧ decode cX12_shared 61 = .ok (.iload_n 2, 1) ∧ decode cX12_shared 62 = .ok (.iaload, 1) ∧ decode cX12_shared 63 = .ok (.invokevirtual 610, 3) ∧ decode cX12_shared 66 = .ok (.iconst 0, 1) ∧ decode cX12_shared 67 = .ok (.istore_n 3, 1) := by decide +kernel
theorem eX12_shared_68 : decode cX12_shared 68 = .ok (.iconst 0, 1) ∧ decode cX12_shared 69 = .ok (.istore 4, 2) ∧ decode cX12_shared 71 = .ok (.iload 4, 2) ∧ decode cX12_shared 73 = .ok (.bipush 48, 2) ∧ decode cX12_shared 75 = .ok (.if_icmp .ge 32, 3) ∧ decode cX12_shared 78 = .ok (.aload_n 0, 1) ∧ decode cX12_shared 79 = .ok (.getfield 161, 3) ∧ decode cX12_shared 82 = .ok (.iload 4, 2) := by decide +kernel
theorem eX12_shared_84 : decode cX12_shared 84 = .ok (.baload, 1) ∧ decode cX12_shared 85 = .ok (.ifCond .eq 16, 3) ∧ decode cX12_shared 88 = .ok (.aload_n 0, 1) ∧ decode cX12_shared 89 = .ok (.getfield 149, 3) ∧ decode cX12_shared 92 = .ok (.iload 4, 2) ∧ decode cX12_shared 94 = .ok (.baload, 1) ∧ decode cX12_shared 95 = .ok (.ifCond .eq 6, 3) ∧ decode cX12_shared 98 = .ok (.iinc 3 1, 3) := by decide +kernel
theorem eX12_shared_101 : decode cX12_shared 101 = .ok (.iinc 4 1, 3) ∧ decode cX12_shared 104 = .ok (.goto (-33), 3) ∧ decode cX12_shared 107 = .ok (.iload_n 3, 1) ∧ decode cX12_shared 108 = .ok (.ireturn, 1) ∧ decode cX12_total 0 = .ok (.aload_n 0, 1) ∧ decode cX12_total 1 = .ok (.iload_n 1, 1) ∧ decode cX12_total 2 = .ok (.i2l, 1) ∧ decode cX12_total 3 = .ok (.invokevirtual 571, 3) := by decide +kernel
theorem eX12_total_6 : decode cX12_total 6 = .ok (.ifCond .ne 5, 3) ∧ decode cX12_total 9 = .ok (.iconst (-1), 1) ∧ decode cX12_total 10 = .ok (.ireturn, 1) ∧ decode cX12_total 11 = .ok (.iconst 0, 1) ∧ decode cX12_total 12 = .ok (.istore 4, 2) ∧ decode cX12_total 14 = .ok (.aload_n 0, 1) ∧ decode cX12_total 15 = .ok (.aload_n 0, 1) ∧ decode cX12_total 16 = .ok (.getfield 121, 3) := by decide +kernel
theorem eX12_total_19 : decode cX12_total 19 = .ok (.iload_n 1, 1) ∧ decode cX12_total 20 = .ok (.iaload, 1) ∧ decode cX12_total 21 = .ok (.invokevirtual 610, 3) ∧ decode cX12_total 24 = .ok (.iconst 0, 1) ∧ decode cX12_total 25 = .ok (.istore 5, 2) ∧ decode cX12_total 27 = .ok (.iload 5, 2) ∧ decode cX12_total 29 = .ok (.aload_n 0, 1) ∧ decode cX12_total 30 = .ok (.getfield 592, 3) := by decide +kernel
theorem eX12_total_33 : decode cX12_total 33 = .ok (.if_icmp .ge 39, 3) ∧ decode cX12_total 36 = .ok (.aload_n 0, 1) ∧ decode cX12_total 37 = .ok (.getfield 152, 3) ∧ decode cX12_total 40 = .ok (.iload 5, 2) ∧ decode cX12_total 42 = .ok (.iaload, 1) ∧ decode cX12_total 43 = .ok (.i2l, 1) ∧ decode cX12_total 44 = .ok (.iload_n 2, 1) ∧ decode cX12_total 45 = .ok (.i2l, 1) := by decide +kernel
theorem eX12_total_46 : decode cX12_total 46 = .ok (.iload_n 3, 1) ∧ decode cX12_total 47 = .ok (.i2l, 1) ∧ decode cX12_total 48 = .ok (.invokestatic 309, 3) ∧ decode cX12_total 51 = .ok (.ifCond .eq 15, 3) ∧ decode cX12_total 54 = .ok (.iload 4, 2) ∧ decode cX12_total 56 = .ok (.aload_n 0, 1) ∧ decode cX12_total 57 = .ok (.getfield 155, 3) ∧ decode cX12_total 60 = .ok (.iload 5, 2) := by decide +kernel
theorem eX12_total_62 : decode cX12_total 62 = .ok (.iaload, 1) ∧ decode cX12_total 63 = .ok (.iadd, 1) ∧ decode cX12_total 64 = .ok (.istore 4, 2) ∧ decode cX12_total 66 = .ok (.iinc 5 1, 3) ∧ decode cX12_total 69 = .ok (.goto (-42), 3) ∧ decode cX12_total 72 = .ok (.iload 4, 2) ∧ decode cX12_total 74 = .ok (.ireturn, 1) ∧ decode cX12_unlike 0 = .ok (.iconst 0, 1) := by decide +kernel
theorem eX12_unlike_1 : decode cX12_unlike 1 = .ok (.istore 4, 2) ∧ decode cX12_unlike 3 = .ok (.iconst 0, 1) ∧ decode cX12_unlike 4 = .ok (.istore 5, 2) ∧ decode cX12_unlike 6 = .ok (.iload 5, 2) ∧ decode cX12_unlike 8 = .ok (.sipush 999, 3) ∧ decode cX12_unlike 11 = .ok (.if_icmp .gt 41, 3) ∧ decode cX12_unlike 14 = .ok (.aload_n 0, 1) ∧ decode cX12_unlike 15 = .ok (.iload_n 1, 1) := by decide +kernel
theorem eX12_unlike_16 : decode cX12_unlike 16 = .ok (.iload 5, 2) ∧ decode cX12_unlike 18 = .ok (.invokevirtual 621, 3) ∧ decode cX12_unlike 21 = .ok (.aload_n 0, 1) ∧ decode cX12_unlike 22 = .ok (.iload_n 2, 1) ∧ decode cX12_unlike 23 = .ok (.iload 5, 2) ∧ decode cX12_unlike 25 = .ok (.invokevirtual 621, 3) ∧ decode cX12_unlike 28 = .ok (.if_icmp .ne 6, 3) ∧ decode cX12_unlike 31 = .ok (.goto 15, 3) := by decide +kernel
theorem eX12_unlike_34 : decode cX12_unlike 34 = .ok (.iload 4, 2) ∧ decode cX12_unlike 36 = .ok (.iload_n 3, 1) ∧ decode cX12_unlike 37 = .ok (.if_icmp .ne 6, 3) ∧ decode cX12_unlike 40 = .ok (.iload 5, 2) ∧ decode cX12_unlike 42 = .ok (.ireturn, 1) ∧ decode cX12_unlike 43 = .ok (.iinc 4 1, 3) ∧ decode cX12_unlike 46 = .ok (.iinc 5 1, 3) ∧ decode cX12_unlike 49 = .ok (.goto (-43), 3) := by decide +kernel
theorem eX12_unlike_52 : decode cX12_unlike 52 = .ok (.iload_n 3, 1) ∧ decode cX12_unlike 53 = .ok (.iconst (-1), 1) ∧ decode cX12_unlike 54 = .ok (.if_icmp .ne 8, 3) ∧ decode cX12_unlike 57 = .ok (.iload 4, 2) ∧ decode cX12_unlike 59 = .ok (.goto 4, 3) ∧ decode cX12_unlike 62 = .ok (.iconst (-1), 1) ∧ decode cX12_unlike 63 = .ok (.ireturn, 1) ∧ decode cX12_writes 0 = .ok (.aload_n 0, 1) := by decide +kernel
theorem eX12_writes_1 : decode cX12_writes 1 = .ok (.iload_n 1, 1) ∧ decode cX12_writes 2 = .ok (.i2l, 1) ∧ decode cX12_writes 3 = .ok (.invokevirtual 571, 3) ∧ decode cX12_writes 6 = .ok (.ifCond .eq 25, 3) ∧ decode cX12_writes 9 = .ok (.iload_n 2, 1) ∧ decode cX12_writes 10 = .ok (.i2l, 1) ∧ decode cX12_writes 11 = .ok (.lconst 0, 1) ∧ decode cX12_writes 12 = .ok (.ldc2_w 624, 3) := by decide +kernel
theorem eX12_writes_15 : decode cX12_writes 15 = .ok (.invokestatic 309, 3) ∧ decode cX12_writes 18 = .ok (.ifCond .eq 13, 3) ∧ decode cX12_writes 21 = .ok (.iload_n 3, 1) ∧ decode cX12_writes 22 = .ok (.i2l, 1) ∧ decode cX12_writes 23 = .ok (.lconst 0, 1) ∧ decode cX12_writes 24 = .ok (.lconst 1, 1) ∧ decode cX12_writes 25 = .ok (.invokestatic 309, 3) ∧ decode cX12_writes 28 = .ok (.ifCond .ne 5, 3) := by decide +kernel
theorem eX12_writes_31 : decode cX12_writes 31 = .ok (.iconst (-1), 1) ∧ decode cX12_writes 32 = .ok (.ireturn, 1) ∧ decode cX12_writes 33 = .ok (.aload_n 0, 1) ∧ decode cX12_writes 34 = .ok (.iload_n 1, 1) ∧ decode cX12_writes 35 = .ok (.iload_n 2, 1) ∧ decode cX12_writes 36 = .ok (.invokevirtual 635, 3) ∧ decode cX12_writes 39 = .ok (.iload_n 3, 1) ∧ decode cX12_writes 40 = .ok (.ifCond .ne 10, 3) := by decide +kernel
theorem eX12_writes_43 : decode cX12_writes 43 = .ok (.aload_n 0, 1) ∧ decode cX12_writes 44 = .ok (.getfield 629, 3) ∧ decode cX12_writes 47 = .ok (.goto 7, 3) ∧ decode cX12_writes 50 = .ok (.aload_n 0, 1) ∧ decode cX12_writes 51 = .ok (.getfield 632, 3) ∧ decode cX12_writes 54 = .ok (.ireturn, 1) := by decide +kernel
set_option maxHeartbeats 4000000 in
set_option maxRecDepth 100000 in
theorem k_x12_block (l : Launch) (D : va_G) (a : Nat → Nat) (p0 : Int) (p1 : Int) (s : MS) (o : Int) (h : m_x12_block p0 p1 s = some o) : yRi l yX12_block cX12_block 3 (some .int) { frames := 3, cells := 0, slots := 0, locals := 180 } D [.ref (a 200), .int (i2 p0), .int (i2 p1)] (RW D a s) (i2 o) := by
  refine Met.ofW (cc := cX12_block) (maxL := 3) (ret := (some .int)) (by decide) rfl ?_
  intro p e s₀ m args below meth c s₁ B hml hv
  obtain ⟨rfl, ⟨hP, hK⟩, hN⟩ := hv
  have hx := B.exec
  have hb := B.bytes
  have hr := B.returns
  have hts := atoms_spec (ws := wz yX12_block cX12_block 3 (some .int)) B.pre
  have ht : ∀ w ∈ lw_gd, w.before _ s₀ = true := fun w h => hts w (List.mem_cons_of_mem _ h)
  have hown : s₀.vm.findClass RX12 = some m.cls := findClass_of_methodNamed B.named
  have hlocks := B.notSynchronized
  have hS : va_S (fun _ => False) s₀.heap s₀.heap [] := va_S.rf
  have hl := lv_entry ([.ref (a 200), .int (i2 p0), .int (i2 p1)]) (n := 3) (Nat.le_of_ble_eq_true rfl)
  rw [lg_entry_eq]
  generalize (lg_sl ([.ref (a 200), .int (i2 p0), .int (i2 p1)]) ++ List.replicate (3 - (lg_sl ([.ref (a 200), .int (i2 p0), .int (i2 p1)])).length) Slot.unset).toArray = ls at hl ⊢
  have hl : lv_has ls 3 [(0, .ref (a 200)), (1, .int (i2 p0)), (2, .int (i2 p1))] := hl
  unfold m_x12_block at h
  refine y_head (pcJ := 127) (σ := Int) (fun u H locs ls => va_P D vwCl (RW D a s) H ∧ va_S (fun _ => False) s₀.heap H locs ∧ lv_has ls 3 [] ∧ m_x12_block_J127 s u = some o) (fun u => [.int (i2 u)]) (fun u H locs ls hI => ?_) (fun J127 => ?_)
  · obtain ⟨hP, hS, hl, h⟩ := hI
    obtain ⟨x1, rfl⟩ : ∃ z, z = u := ⟨u, rfl⟩
    have hP : va_P D vwCl (RW D a s) H := hP
    have hl : lv_has ls 3 [] := hl
    have h : m_x12_block_J127 s x1 = some o := h
    unfold m_x12_block_J127 at h
    obtain rfl := Option.some.inj h
    exact W.iret (v := (i2 x1)) hx hb hr (fun t ht hW => ⟨⟨_, (), rfl, rfl, trivial⟩, hS.F ht⟩) hS.2.2 eX12_block_119.2.2.2.2.1
  refine y_head (pcJ := 113) (σ := Int) (fun u H locs ls => va_P D vwCl (RW D a s) H ∧ va_S (fun _ => False) s₀.heap H locs ∧ lv_has ls 3 [] ∧ m_x12_block_J113 s u = some o) (fun u => [.int (i2 u)]) (fun u H locs ls hI => ?_) (fun J113 => ?_)
  · obtain ⟨hP, hS, hl, h⟩ := hI
    obtain ⟨x2, rfl⟩ : ∃ z, z = u := ⟨u, rfl⟩
    have hP : va_P D vwCl (RW D a s) H := hP
    have hl : lv_has ls 3 [] := hl
    have h : m_x12_block_J113 s x2 = some o := h
    unfold m_x12_block_J113 at h
    obtain rfl := Option.some.inj h
    exact W.iret (v := (i2 x2)) hx hb hr (fun t ht hW => ⟨⟨_, (), rfl, rfl, trivial⟩, hS.F ht⟩) hS.2.2 eX12_block_105.2.2.2.2.1
  refine y_head (pcJ := 99) (σ := Int) (fun u H locs ls => va_P D vwCl (RW D a s) H ∧ va_S (fun _ => False) s₀.heap H locs ∧ lv_has ls 3 [] ∧ m_x12_block_J99 s u = some o) (fun u => [.int (i2 u)]) (fun u H locs ls hI => ?_) (fun J99 => ?_)
  · obtain ⟨hP, hS, hl, h⟩ := hI
    obtain ⟨x3, rfl⟩ : ∃ z, z = u := ⟨u, rfl⟩
    have hP : va_P D vwCl (RW D a s) H := hP
    have hl : lv_has ls 3 [] := hl
    have h : m_x12_block_J99 s x3 = some o := h
    unfold m_x12_block_J99 at h
    obtain rfl := Option.some.inj h
    exact W.iret (v := (i2 x3)) hx hb hr (fun t ht hW => ⟨⟨_, (), rfl, rfl, trivial⟩, hS.F ht⟩) hS.2.2 eX12_block_91.2.2.2.2.1
  refine y_head (pcJ := 81) (σ := Int) (fun u H locs ls => va_P D vwCl (RW D a s) H ∧ va_S (fun _ => False) s₀.heap H locs ∧ lv_has ls 3 [] ∧ m_x12_block_J81 s u = some o) (fun u => [.int (i2 u)]) (fun u H locs ls hI => ?_) (fun J81 => ?_)
  · obtain ⟨hP, hS, hl, h⟩ := hI
    obtain ⟨x4, rfl⟩ : ∃ z, z = u := ⟨u, rfl⟩
    have hP : va_P D vwCl (RW D a s) H := hP
    have hl : lv_has ls 3 [] := hl
    have h : m_x12_block_J81 s x4 = some o := h
    unfold m_x12_block_J81 at h
    obtain rfl := Option.some.inj h
    exact W.iret (v := (i2 x4)) hx hb hr (fun t ht hW => ⟨⟨_, (), rfl, rfl, trivial⟩, hS.F ht⟩) hS.2.2 eX12_block_77.2.2.1
  refine lv_aload_n hx hb eX12_block_0.1 rfl (lv_at hl 0 rfl) ?_
  refine lv_iload_n hx hb eX12_block_0.2.1 rfl (lv_at hl 1 rfl) ?_
  obtain ⟨hr5, h⟩ := rg_e h
  refine lv_i2l (v := i8 p0) hx hb eX12_block_0.2.2.1 (i2_l hr5) ?_
  obtain ⟨r7, hc6, h⟩ := bn_e h
  refine ycV (r0 := i2 r7) (As := [.long (i8 p0)]) (rest := []) (C := RX12) (n := 1) ⟨hx, hb, hml, hown, ht⟩ (k_x12_isBlock l D a p0 _ _ hc6) (zgV ml_X12_616 im_X12_isBlock se_X12_isBlock in_X12 co_X12_isBlock) rfl rfl (by decide +kernel) ⟨Nat.le_of_ble_eq_true rfl, Nat.le_of_ble_eq_true rfl⟩ hN hK hP hS 0 RW_0 rfl rfl rfl hl.1 rfl (Nat.le_of_ble_eq_true rfl) eX12_block_0.2.2.2.1 ⟨Nat.le_of_ble_eq_true rfl, Nat.le_of_ble_eq_true rfl⟩ (fun H locs hP hS => ?_)
  obtain ⟨hr8, h⟩ := rg_e h
  refine lv_if_ne (tgt := 11) hx hb eX12_block_0.2.2.2.2.1 (by decide) (fun c9 => ?_) (fun c9 => ?_)
  · have h := if_f (mt (i2_eq (x := r7) (y := 0) hr8 (by decide)).mpr c9) h
    refine lv_iload_n hx hb eX12_block_0.2.2.2.2.2.2.2 rfl (lv_at hl 2 rfl) ?_
    obtain ⟨hr10, h⟩ := rg_e h
    by_cases c11 : p1 = 0
    · have h := if_t c11 h
      refine lv_tableIn (off := 40) (tgt := 52) hx hb eX12_block_12.1 (by rw [c11]; decide) (by rw [c11]; decide) (by rw [c11]; decide) (by decide) ?_
      refine lv_aload_n hx hb eX12_block_12.2.1 rfl (lv_at hl 0 rfl) ?_
      refine lv_iload_n hx hb eX12_block_12.2.2.1 rfl (lv_at hl 1 rfl) ?_
      obtain ⟨r13, hc12, h⟩ := bn_e h
      refine ycV (r0 := i2 r13) (As := [.int (i2 p0)]) (rest := []) (C := RX12) (n := 1) ⟨hx, hb, hml, hown, ht⟩ (k_x12_countOf l D a p0 _ _ hc12) (zgV ml_X12_432 im_X12_countOf se_X12_countOf in_X12 co_X12_countOf) rfl rfl (by decide +kernel) ⟨Nat.le_of_ble_eq_true rfl, Nat.le_of_ble_eq_true rfl⟩ hN hK hP hS 0 RW_0 rfl rfl rfl hl.1 rfl (Nat.le_of_ble_eq_true rfl) eX12_block_12.2.2.2.1 ⟨Nat.le_of_ble_eq_true rfl, Nat.le_of_ble_eq_true rfl⟩ (fun H locs hP hS => ?_)
      obtain rfl := Option.some.inj h
      exact W.iret (v := (i2 r13)) hx hb hr (fun t ht hW => ⟨⟨_, (), rfl, rfl, trivial⟩, hS.F ht⟩) hS.2.2 eX12_block_12.2.2.2.2.1
    · have h := if_f c11 h
      by_cases c14 : p1 = 1
      · have h := if_t c14 h
        refine lv_tableIn (off := 46) (tgt := 58) hx hb eX12_block_12.1 (by rw [c14]; decide) (by rw [c14]; decide) (by rw [c14]; decide) (by decide) ?_
        refine lv_aload_n hx hb eX12_block_12.2.2.2.2.2.1 rfl (lv_at hl 0 rfl) ?_
        refine lv_iload_n hx hb eX12_block_12.2.2.2.2.2.2.1 rfl (lv_at hl 1 rfl) ?_
        obtain ⟨r16, hc15, h⟩ := bn_e h
        refine ycV (r0 := i2 r16) (As := [.int (i2 p0)]) (rest := []) (C := RX12) (n := 1) ⟨hx, hb, hml, hown, ht⟩ (k_x12_savedOf l D a p0 _ _ hc15) (zgV ml_X12_438 im_X12_savedOf se_X12_savedOf in_X12 co_X12_savedOf) rfl rfl (by decide +kernel) ⟨Nat.le_of_ble_eq_true rfl, Nat.le_of_ble_eq_true rfl⟩ hN hK hP hS 0 RW_0 rfl rfl rfl hl.1 rfl (Nat.le_of_ble_eq_true rfl) eX12_block_12.2.2.2.2.2.2.2 ⟨Nat.le_of_ble_eq_true rfl, Nat.le_of_ble_eq_true rfl⟩ (fun H locs hP hS => ?_)
        obtain rfl := Option.some.inj h
        exact W.iret (v := (i2 r16)) hx hb hr (fun t ht hW => ⟨⟨_, (), rfl, rfl, trivial⟩, hS.F ht⟩) hS.2.2 eX12_block_63.1
      · have h := if_f c14 h
        by_cases c17 : p1 = 2
        · have h := if_t c17 h
          refine lv_tableIn (off := 52) (tgt := 64) hx hb eX12_block_12.1 (by rw [c17]; decide) (by rw [c17]; decide) (by rw [c17]; decide) (by decide) ?_
          refine lv_aload_n hx hb eX12_block_63.2.1 rfl (lv_at hl 0 rfl) ?_
          refine lv_iload_n hx hb eX12_block_63.2.2.1 rfl (lv_at hl 1 rfl) ?_
          obtain ⟨r19, hc18, h⟩ := bn_e h
          refine ycV (r0 := i2 r19) (As := [.int (i2 p0)]) (rest := []) (C := RX12) (n := 1) ⟨hx, hb, hml, hown, ht⟩ (k_x12_isThere l D a p0 _ _ hc18) (zgV ml_X12_496 im_X12_isThere se_X12_isThere in_X12 co_X12_isThere) rfl rfl (by decide +kernel) ⟨Nat.le_of_ble_eq_true rfl, Nat.le_of_ble_eq_true rfl⟩ hN hK hP hS 0 RW_0 rfl rfl rfl hl.1 rfl (Nat.le_of_ble_eq_true rfl) eX12_block_63.2.2.2.1 ⟨Nat.le_of_ble_eq_true rfl, Nat.le_of_ble_eq_true rfl⟩ (fun H locs hP hS => ?_)
          obtain ⟨hr20, h⟩ := rg_e h
          refine lv_if_eq (tgt := 80) hx hb eX12_block_63.2.2.2.2.1 (by decide) (fun c21 => ?_) (fun c21 => ?_)
          · have h := if_t ((i2_eq (x := r19) (y := 0) hr20 (by decide)).mp c21) h
            refine lv_iconst (v := 0) hx hb eX12_block_77.2.1 (by decide) ?_
            exact J81 0 _ _ _ ⟨hP, hS, lv_sub hl [] rfl, h⟩
          · have h := if_f (mt (i2_eq (x := r19) (y := 0) hr20 (by decide)).mpr c21) h
            refine lv_aload_n hx hb eX12_block_63.2.2.2.2.2.1 rfl (lv_at hl 0 rfl) ?_
            refine lv_iload_n hx hb eX12_block_63.2.2.2.2.2.2.1 rfl (lv_at hl 1 rfl) ?_
            obtain ⟨r23, hc22, h⟩ := bn_e h
            refine ycV (r0 := i2 r23) (As := [.int (i2 p0)]) (rest := []) (C := RX12) (n := 1) ⟨hx, hb, hml, hown, ht⟩ (k_x12_levelOf l D a p0 _ _ hc22) (zgV ml_X12_460 im_X12_levelOf se_X12_levelOf in_X12 co_X12_levelOf) rfl rfl (by decide +kernel) ⟨Nat.le_of_ble_eq_true rfl, Nat.le_of_ble_eq_true rfl⟩ hN hK hP hS 0 RW_0 rfl rfl rfl hl.1 rfl (Nat.le_of_ble_eq_true rfl) eX12_block_63.2.2.2.2.2.2.2 ⟨Nat.le_of_ble_eq_true rfl, Nat.le_of_ble_eq_true rfl⟩ (fun H locs hP hS => ?_)
            refine lv_goto (tgt := 81) hx hb eX12_block_77.1 (by decide) ?_
            exact J81 r23 _ _ _ ⟨hP, hS, lv_sub hl [] rfl, h⟩
        · have h := if_f c17 h
          by_cases c24 : p1 = 3
          · have h := if_t c24 h
            refine lv_tableIn (off := 70) (tgt := 82) hx hb eX12_block_12.1 (by rw [c24]; decide) (by rw [c24]; decide) (by rw [c24]; decide) (by decide) ?_
            refine lv_aload_n hx hb eX12_block_77.2.2.2.1 rfl (lv_at hl 0 rfl) ?_
            refine lv_iload_n hx hb eX12_block_77.2.2.2.2.1 rfl (lv_at hl 1 rfl) ?_
            obtain ⟨r26, hc25, h⟩ := bn_e h
            refine ycV (r0 := i2 r26) (As := [.int (i2 p0)]) (rest := []) (C := RX12) (n := 1) ⟨hx, hb, hml, hown, ht⟩ (k_x12_isThere l D a p0 _ _ hc25) (zgV ml_X12_496 im_X12_isThere se_X12_isThere in_X12 co_X12_isThere) rfl rfl (by decide +kernel) ⟨Nat.le_of_ble_eq_true rfl, Nat.le_of_ble_eq_true rfl⟩ hN hK hP hS 0 RW_0 rfl rfl rfl hl.1 rfl (Nat.le_of_ble_eq_true rfl) eX12_block_77.2.2.2.2.2.1 ⟨Nat.le_of_ble_eq_true rfl, Nat.le_of_ble_eq_true rfl⟩ (fun H locs hP hS => ?_)
            obtain ⟨hr27, h⟩ := rg_e h
            refine lv_if_eq (tgt := 98) hx hb eX12_block_77.2.2.2.2.2.2.1 (by decide) (fun c28 => ?_) (fun c28 => ?_)
            · have h := if_t ((i2_eq (x := r26) (y := 0) hr27 (by decide)).mp c28) h
              refine lv_iconst (v := 0) hx hb eX12_block_91.2.2.2.1 (by decide) ?_
              exact J99 0 _ _ _ ⟨hP, hS, lv_sub hl [] rfl, h⟩
            · have h := if_f (mt (i2_eq (x := r26) (y := 0) hr27 (by decide)).mpr c28) h
              refine lv_aload_n hx hb eX12_block_77.2.2.2.2.2.2.2 rfl (lv_at hl 0 rfl) ?_
              refine lv_iload_n hx hb eX12_block_91.1 rfl (lv_at hl 1 rfl) ?_
              obtain ⟨r30, hc29, h⟩ := bn_e h
              refine ycV (r0 := i2 r30) (As := [.int (i2 p0)]) (rest := []) (C := RX12) (n := 1) ⟨hx, hb, hml, hown, ht⟩ (k_x12_entriesOf l D a p0 _ _ hc29) (zgV ml_X12_466 im_X12_entriesOf se_X12_entriesOf in_X12 co_X12_entriesOf) rfl rfl (by decide +kernel) ⟨Nat.le_of_ble_eq_true rfl, Nat.le_of_ble_eq_true rfl⟩ hN hK hP hS 0 RW_0 rfl rfl rfl hl.1 rfl (Nat.le_of_ble_eq_true rfl) eX12_block_91.2.1 ⟨Nat.le_of_ble_eq_true rfl, Nat.le_of_ble_eq_true rfl⟩ (fun H locs hP hS => ?_)
              refine lv_goto (tgt := 99) hx hb eX12_block_91.2.2.1 (by decide) ?_
              exact J99 r30 _ _ _ ⟨hP, hS, lv_sub hl [] rfl, h⟩
          · have h := if_f c24 h
            by_cases c31 : p1 = 4
            · have h := if_t c31 h
              refine lv_tableIn (off := 88) (tgt := 100) hx hb eX12_block_12.1 (by rw [c31]; decide) (by rw [c31]; decide) (by rw [c31]; decide) (by decide) ?_
              refine lv_aload_n hx hb eX12_block_91.2.2.2.2.2.1 rfl (lv_at hl 0 rfl) ?_
              refine lv_iload_n hx hb eX12_block_91.2.2.2.2.2.2.1 rfl (lv_at hl 1 rfl) ?_
              obtain ⟨r33, hc32, h⟩ := bn_e h
              refine ycV (r0 := i2 r33) (As := [.int (i2 p0)]) (rest := []) (C := RX12) (n := 1) ⟨hx, hb, hml, hown, ht⟩ (k_x12_isFresh l D a p0 _ _ hc32) (zgV ml_X12_508 im_X12_isFresh se_X12_isFresh in_X12 co_X12_isFresh) rfl rfl (by decide +kernel) ⟨Nat.le_of_ble_eq_true rfl, Nat.le_of_ble_eq_true rfl⟩ hN hK hP hS 0 RW_0 rfl rfl rfl hl.1 rfl (Nat.le_of_ble_eq_true rfl) eX12_block_91.2.2.2.2.2.2.2 ⟨Nat.le_of_ble_eq_true rfl, Nat.le_of_ble_eq_true rfl⟩ (fun H locs hP hS => ?_)
              obtain ⟨hr34, h⟩ := rg_e h
              refine lv_if_eq (tgt := 112) hx hb eX12_block_105.1 (by decide) (fun c35 => ?_) (fun c35 => ?_)
              · have h := if_t ((i2_eq (x := r33) (y := 0) hr34 (by decide)).mp c35) h
                refine lv_iconst (v := 0) hx hb eX12_block_105.2.2.2.1 (by decide) ?_
                exact J113 0 _ _ _ ⟨hP, hS, lv_sub hl [] rfl, h⟩
              · have h := if_f (mt (i2_eq (x := r33) (y := 0) hr34 (by decide)).mpr c35) h
                refine lv_iconst (v := 1) hx hb eX12_block_105.2.1 (by decide) ?_
                refine lv_goto (tgt := 113) hx hb eX12_block_105.2.2.1 (by decide) ?_
                exact J113 1 _ _ _ ⟨hP, hS, lv_sub hl [] rfl, h⟩
            · have h := if_f c31 h
              by_cases c36 : p1 = 5
              · have h := if_t c36 h
                refine lv_tableIn (off := 102) (tgt := 114) hx hb eX12_block_12.1 (by rw [c36]; decide) (by rw [c36]; decide) (by rw [c36]; decide) (by decide) ?_
                refine lv_aload_n hx hb eX12_block_105.2.2.2.2.2.1 rfl (lv_at hl 0 rfl) ?_
                refine lv_iload_n hx hb eX12_block_105.2.2.2.2.2.2.1 rfl (lv_at hl 1 rfl) ?_
                obtain ⟨r38, hc37, h⟩ := bn_e h
                refine ycV (r0 := i2 r38) (As := [.int (i2 p0)]) (rest := []) (C := RX12) (n := 1) ⟨hx, hb, hml, hown, ht⟩ (k_x12_isHeld l D a p0 _ _ hc37) (zgV ml_X12_575 im_X12_isHeld se_X12_isHeld in_X12 co_X12_isHeld) rfl rfl (by decide +kernel) ⟨Nat.le_of_ble_eq_true rfl, Nat.le_of_ble_eq_true rfl⟩ hN hK hP hS 0 RW_0 rfl rfl rfl hl.1 rfl (Nat.le_of_ble_eq_true rfl) eX12_block_105.2.2.2.2.2.2.2 ⟨Nat.le_of_ble_eq_true rfl, Nat.le_of_ble_eq_true rfl⟩ (fun H locs hP hS => ?_)
                obtain ⟨hr39, h⟩ := rg_e h
                refine lv_if_eq (tgt := 126) hx hb eX12_block_119.1 (by decide) (fun c40 => ?_) (fun c40 => ?_)
                · have h := if_t ((i2_eq (x := r38) (y := 0) hr39 (by decide)).mp c40) h
                  refine lv_iconst (v := 0) hx hb eX12_block_119.2.2.2.1 (by decide) ?_
                  exact J127 0 _ _ _ ⟨hP, hS, lv_sub hl [] rfl, h⟩
                · have h := if_f (mt (i2_eq (x := r38) (y := 0) hr39 (by decide)).mpr c40) h
                  refine lv_iconst (v := 1) hx hb eX12_block_119.2.1 (by decide) ?_
                  refine lv_goto (tgt := 127) hx hb eX12_block_119.2.2.1 (by decide) ?_
                  exact J127 1 _ _ _ ⟨hP, hS, lv_sub hl [] rfl, h⟩
              · have h := if_f c36 h
                refine lv_tableOut (tgt := 128) hx hb eX12_block_12.1 (by rw [i2_t hr10]; omega) (by decide) ?_
                refine lv_iconst (v := (-1)) hx hb eX12_block_119.2.2.2.2.2.1 (by decide) ?_
                obtain rfl := Option.some.inj h
                exact W.iret (v := (-1)) hx hb hr (fun t ht hW => ⟨⟨_, (), rfl, rfl, trivial⟩, hS.F ht⟩) hS.2.2 eX12_block_119.2.2.2.2.2.2.1
  · have h := if_t ((i2_eq (x := r7) (y := 0) hr8 (by decide)).mp c9) h
    refine lv_iconst (v := (-1)) hx hb eX12_block_0.2.2.2.2.2.1 (by decide) ?_
    obtain rfl := Option.some.inj h
    exact W.iret (v := (-1)) hx hb hr (fun t ht hW => ⟨⟨_, (), rfl, rfl, trivial⟩, hS.F ht⟩) hS.2.2 eX12_block_0.2.2.2.2.2.2.1
set_option maxHeartbeats 4000000 in
set_option maxRecDepth 100000 in
theorem k_x12_entry (l : Launch) (D : va_G) (a : Nat → Nat) (p0 : Int) (p1 : Int) (p2 : Int) (s : MS) (o : Int) (h : m_x12_entry p0 p1 p2 s = some o) : yRi l yX12_entry cX12_entry 4 (some .int) { frames := 3, cells := 0, slots := 0, locals := 180 } D [.ref (a 200), .int (i2 p0), .int (i2 p1), .int (i2 p2)] (RW D a s) (i2 o) := by
  refine Met.ofW (cc := cX12_entry) (maxL := 4) (ret := (some .int)) (by decide) rfl ?_
  intro p e s₀ m args below meth c s₁ B hml hv
  obtain ⟨rfl, ⟨hP, hK⟩, hN⟩ := hv
  have hx := B.exec
  have hb := B.bytes
  have hr := B.returns
  have hts := atoms_spec (ws := wz yX12_entry cX12_entry 4 (some .int)) B.pre
  have ht : ∀ w ∈ lw_gd, w.before _ s₀ = true := fun w h => hts w (List.mem_cons_of_mem _ h)
  have hown : s₀.vm.findClass RX12 = some m.cls := findClass_of_methodNamed B.named
  have hlocks := B.notSynchronized
  have hS : va_S (fun _ => False) s₀.heap s₀.heap [] := va_S.rf
  have hl := lv_entry ([.ref (a 200), .int (i2 p0), .int (i2 p1), .int (i2 p2)]) (n := 4) (Nat.le_of_ble_eq_true rfl)
  rw [lg_entry_eq]
  generalize (lg_sl ([.ref (a 200), .int (i2 p0), .int (i2 p1), .int (i2 p2)]) ++ List.replicate (4 - (lg_sl ([.ref (a 200), .int (i2 p0), .int (i2 p1), .int (i2 p2)])).length) Slot.unset).toArray = ls at hl ⊢
  have hl : lv_has ls 4 [(0, .ref (a 200)), (1, .int (i2 p0)), (2, .int (i2 p1)), (3, .int (i2 p2))] := hl
  unfold m_x12_entry at h
  refine y_head (pcJ := 65) (σ := Int) (fun u H locs ls => va_P D vwCl (RW D a s) H ∧ va_S (fun _ => False) s₀.heap H locs ∧ lv_has ls 4 [] ∧ m_x12_entry_J65 s u = some o) (fun u => [.int (i2 u)]) (fun u H locs ls hI => ?_) (fun J65 => ?_)
  · obtain ⟨hP, hS, hl, h⟩ := hI
    obtain ⟨x1, rfl⟩ : ∃ z, z = u := ⟨u, rfl⟩
    have hP : va_P D vwCl (RW D a s) H := hP
    have hl : lv_has ls 4 [] := hl
    have h : m_x12_entry_J65 s x1 = some o := h
    unfold m_x12_entry_J65 at h
    obtain rfl := Option.some.inj h
    exact W.iret (v := (i2 x1)) hx hb hr (fun t ht hW => ⟨⟨_, (), rfl, rfl, trivial⟩, hS.F ht⟩) hS.2.2 eX12_entry_62.2.1
  refine y_head (pcJ := 44) (σ := Unit) (fun u H locs ls => va_P D vwCl (RW D a s) H ∧ va_S (fun _ => False) s₀.heap H locs ∧ lv_has ls 4 [] ∧ m_x12_entry_J44 s u = some o) (fun u => []) (fun u H locs ls hI => ?_) (fun J44 => ?_)
  · obtain ⟨hP, hS, hl, h⟩ := hI
    skip
    have hP : va_P D vwCl (RW D a s) H := hP
    have hl : lv_has ls 4 [] := hl
    have h : m_x12_entry_J44 s () = some o := h
    unfold m_x12_entry_J44 at h
    refine lv_iconst (v := (-1)) hx hb eX12_entry_36.2.2.2.2.1 (by decide) ?_
    obtain rfl := Option.some.inj h
    exact W.iret (v := (-1)) hx hb hr (fun t ht hW => ⟨⟨_, (), rfl, rfl, trivial⟩, hS.F ht⟩) hS.2.2 eX12_entry_36.2.2.2.2.2.1
  refine lv_aload_n hx hb eX12_differs_43.2.2.1 rfl (lv_at hl 0 rfl) ?_
  refine lv_iload_n hx hb eX12_differs_43.2.2.2.1 rfl (lv_at hl 1 rfl) ?_
  obtain ⟨hr2, h⟩ := rg_e h
  refine lv_i2l (v := i8 p0) hx hb eX12_differs_43.2.2.2.2.1 (i2_l hr2) ?_
  obtain ⟨r4, hc3, h⟩ := bn_e h
  refine ycV (r0 := i2 r4) (As := [.long (i8 p0)]) (rest := []) (C := RX12) (n := 1) ⟨hx, hb, hml, hown, ht⟩ (k_x12_isBlock l D a p0 _ _ hc3) (zgV ml_X12_616 im_X12_isBlock se_X12_isBlock in_X12 co_X12_isBlock) rfl rfl (by decide +kernel) ⟨Nat.le_of_ble_eq_true rfl, Nat.le_of_ble_eq_true rfl⟩ hN hK hP hS 0 RW_0 rfl rfl rfl hl.1 rfl (Nat.le_of_ble_eq_true rfl) eX12_differs_43.2.2.2.2.2.1 ⟨Nat.le_of_ble_eq_true rfl, Nat.le_of_ble_eq_true rfl⟩ (fun H locs hP hS => ?_)
  obtain ⟨hr5, h⟩ := rg_e h
  refine lv_if_eq (tgt := 44) hx hb eX12_differs_43.2.2.2.2.2.2.1 (by decide) (fun c6 => ?_) (fun c6 => ?_)
  · have h := if_t ((i2_eq (x := r4) (y := 0) hr5 (by decide)).mp c6) h
    exact J44 () _ _ _ ⟨hP, hS, lv_sub hl [] rfl, h⟩
  · have h := if_f (mt (i2_eq (x := r4) (y := 0) hr5 (by decide)).mpr c6) h
    refine lv_aload_n hx hb eX12_differs_43.2.2.2.2.2.2.2 rfl (lv_at hl 0 rfl) ?_
    refine lv_iload_n hx hb eX12_entry_10.1 rfl (lv_at hl 1 rfl) ?_
    obtain ⟨r8, hc7, h⟩ := bn_e h
    refine ycV (r0 := i2 r8) (As := [.int (i2 p0)]) (rest := []) (C := RX12) (n := 1) ⟨hx, hb, hml, hown, ht⟩ (k_x12_isThere l D a p0 _ _ hc7) (zgV ml_X12_496 im_X12_isThere se_X12_isThere in_X12 co_X12_isThere) rfl rfl (by decide +kernel) ⟨Nat.le_of_ble_eq_true rfl, Nat.le_of_ble_eq_true rfl⟩ hN hK hP hS 0 RW_0 rfl rfl rfl hl.1 rfl (Nat.le_of_ble_eq_true rfl) eX12_entry_10.2.1 ⟨Nat.le_of_ble_eq_true rfl, Nat.le_of_ble_eq_true rfl⟩ (fun H locs hP hS => ?_)
    obtain ⟨hr9, h⟩ := rg_e h
    refine lv_if_eq (tgt := 44) hx hb eX12_entry_10.2.2.1 (by decide) (fun c10 => ?_) (fun c10 => ?_)
    · have h := if_t ((i2_eq (x := r8) (y := 0) hr9 (by decide)).mp c10) h
      exact J44 () _ _ _ ⟨hP, hS, lv_sub hl [] rfl, h⟩
    · have h := if_f (mt (i2_eq (x := r8) (y := 0) hr9 (by decide)).mpr c10) h
      refine lv_iload_n hx hb eX12_entry_10.2.2.2.1 rfl (lv_at hl 2 rfl) ?_
      obtain ⟨hr11, h⟩ := rg_e h
      refine lv_i2l (v := i8 p1) hx hb eX12_entry_10.2.2.2.2.1 (i2_l hr11) ?_
      refine lv_lconst (v := 0) hx hb eX12_entry_10.2.2.2.2.2.1 (by decide) ?_
      refine lv_aload_n hx hb eX12_entry_10.2.2.2.2.2.2.1 rfl (lv_at hl 0 rfl) ?_
      refine lv_iload_n hx hb eX12_entry_10.2.2.2.2.2.2.2 rfl (lv_at hl 1 rfl) ?_
      obtain ⟨r13, hc12, h⟩ := bn_e h
      refine ycV (r0 := i2 r13) (As := [.int (i2 p0)]) (rest := [.long 0, .long (i8 p1)]) (C := RX12) (n := 1) ⟨hx, hb, hml, hown, ht⟩ (k_x12_entriesOf l D a p0 _ _ hc12) (zgV ml_X12_466 im_X12_entriesOf se_X12_entriesOf in_X12 co_X12_entriesOf) rfl rfl (by decide +kernel) ⟨Nat.le_of_ble_eq_true rfl, Nat.le_of_ble_eq_true rfl⟩ hN hK hP hS 0 RW_0 rfl rfl rfl hl.1 rfl (Nat.le_of_ble_eq_true rfl) eX12_entry_22.1 ⟨Nat.le_of_ble_eq_true rfl, Nat.le_of_ble_eq_true rfl⟩ (fun H locs hP hS => ?_)
      refine lv_iconst (v := 1) hx hb eX12_entry_22.2.1 (by decide) ?_
      refine lv_isub hx hb eX12_entry_22.2.2.1 ?_
      refine z_topi (y := i2 (r13 - 1)) (i2_sub r13 1) ?_
      obtain ⟨hr14, h⟩ := rg_e h
      refine lv_i2l (v := i8 (r13 - 1)) hx hb eX12_entry_22.2.2.2.1 (i2_l hr14) ?_
      obtain ⟨r16, hc15, h⟩ := bn_e h
      refine ycS (r0 := i2 r16) (As := [.long (i8 p1), .long 0, .long (i8 (r13 - 1))]) (rest := []) (n := 3) ⟨hx, hb, hml, hown, ht⟩ (k_x12_isIn l D a p1 0 (r13 - 1) _ _ hc15) (zgT ml_X12_309 st_X12_isIn in_X12 co_X12_isIn) rfl rfl (by decide +kernel) ⟨Nat.le_of_ble_eq_true rfl, Nat.le_of_ble_eq_true rfl⟩ hN hK hP hS rfl hl.1 rfl (Nat.le_of_ble_eq_true rfl) eX12_entry_22.2.2.2.2.1 ⟨Nat.le_of_ble_eq_true rfl, Nat.le_of_ble_eq_true rfl⟩ (fun H locs hP hS => ?_)
      obtain ⟨hr17, h⟩ := rg_e h
      refine lv_if_eq (tgt := 44) hx hb eX12_entry_22.2.2.2.2.2.1 (by decide) (fun c18 => ?_) (fun c18 => ?_)
      · have h := if_t ((i2_eq (x := r16) (y := 0) hr17 (by decide)).mp c18) h
        exact J44 () _ _ _ ⟨hP, hS, lv_sub hl [] rfl, h⟩
      · have h := if_f (mt (i2_eq (x := r16) (y := 0) hr17 (by decide)).mpr c18) h
        refine lv_iload_n hx hb eX12_entry_22.2.2.2.2.2.2.1 rfl (lv_at hl 3 rfl) ?_
        obtain ⟨hr19, h⟩ := rg_e h
        refine lv_i2l (v := i8 p2) hx hb eX12_entry_22.2.2.2.2.2.2.2 (i2_l hr19) ?_
        refine lv_lconst (v := 0) hx hb eX12_entry_36.1 (by decide) ?_
        refine lv_lconst (v := 1) hx hb eX12_entry_36.2.1 (by decide) ?_
        obtain ⟨r21, hc20, h⟩ := bn_e h
        refine ycS (r0 := i2 r21) (As := [.long (i8 p2), .long 0, .long 1]) (rest := []) (n := 3) ⟨hx, hb, hml, hown, ht⟩ (k_x12_isIn l D a p2 0 1 _ _ hc20) (zgT ml_X12_309 st_X12_isIn in_X12 co_X12_isIn) rfl rfl (by decide +kernel) ⟨Nat.le_of_ble_eq_true rfl, Nat.le_of_ble_eq_true rfl⟩ hN hK hP hS rfl hl.1 rfl (Nat.le_of_ble_eq_true rfl) eX12_entry_36.2.2.1 ⟨Nat.le_of_ble_eq_true rfl, Nat.le_of_ble_eq_true rfl⟩ (fun H locs hP hS => ?_)
        obtain ⟨hr22, h⟩ := rg_e h
        refine lv_if_ne (tgt := 46) hx hb eX12_entry_36.2.2.2.1 (by decide) (fun c23 => ?_) (fun c23 => ?_)
        · have h := if_f (mt (i2_eq (x := r21) (y := 0) hr22 (by decide)).mpr c23) h
          refine lv_iload_n hx hb eX12_entry_36.2.2.2.2.2.2.1 rfl (lv_at hl 3 rfl) ?_
          obtain ⟨hr24, h⟩ := rg_e h
          refine lv_if_ne (tgt := 59) hx hb eX12_entry_36.2.2.2.2.2.2.2 (by decide) (fun c25 => ?_) (fun c25 => ?_)
          · have h := if_f (mt (i2_eq (x := p2) (y := 0) hr24 (by decide)).mpr c25) h
            refine lv_aload_n hx hb eX12_entry_50.2.2.2.2.2.1 rfl (lv_at hl 0 rfl) ?_
            refine lv_iload_n hx hb eX12_entry_50.2.2.2.2.2.2.1 rfl (lv_at hl 1 rfl) ?_
            refine lv_iload_n hx hb eX12_entry_50.2.2.2.2.2.2.2 rfl (lv_at hl 2 rfl) ?_
            obtain ⟨r27, hc26, h⟩ := bn_e h
            refine ycV (r0 := i2 r27) (As := [.int (i2 p0), .int (i2 p1)]) (rest := []) (C := RX12) (n := 2) ⟨hx, hb, hml, hown, ht⟩ (k_x12_valueAt l D a p0 p1 _ _ hc26) (zgV ml_X12_505 im_X12_valueAt se_X12_valueAt in_X12 co_X12_valueAt) rfl rfl (by decide +kernel) ⟨Nat.le_of_ble_eq_true rfl, Nat.le_of_ble_eq_true rfl⟩ hN hK hP hS 0 RW_0 rfl rfl rfl hl.1 rfl (Nat.le_of_ble_eq_true rfl) eX12_entry_62.1 ⟨Nat.le_of_ble_eq_true rfl, Nat.le_of_ble_eq_true rfl⟩ (fun H locs hP hS => ?_)
            exact J65 r27 _ _ _ ⟨hP, hS, lv_sub hl [] rfl, h⟩
          · have h := if_t ((i2_eq (x := p2) (y := 0) hr24 (by decide)).mp c25) h
            refine lv_aload_n hx hb eX12_entry_50.1 rfl (lv_at hl 0 rfl) ?_
            refine lv_iload_n hx hb eX12_entry_50.2.1 rfl (lv_at hl 1 rfl) ?_
            refine lv_iload_n hx hb eX12_entry_50.2.2.1 rfl (lv_at hl 2 rfl) ?_
            obtain ⟨r29, hc28, h⟩ := bn_e h
            refine ycV (r0 := i2 r29) (As := [.int (i2 p0), .int (i2 p1)]) (rest := []) (C := RX12) (n := 2) ⟨hx, hb, hml, hown, ht⟩ (k_x12_keyAt l D a p0 p1 _ _ hc28) (zgV ml_X12_517 im_X12_keyAt se_X12_keyAt in_X12 co_X12_keyAt) rfl rfl (by decide +kernel) ⟨Nat.le_of_ble_eq_true rfl, Nat.le_of_ble_eq_true rfl⟩ hN hK hP hS 0 RW_0 rfl rfl rfl hl.1 rfl (Nat.le_of_ble_eq_true rfl) eX12_entry_50.2.2.2.1 ⟨Nat.le_of_ble_eq_true rfl, Nat.le_of_ble_eq_true rfl⟩ (fun H locs hP hS => ?_)
            refine lv_goto (tgt := 65) hx hb eX12_entry_50.2.2.2.2.1 (by decide) ?_
            exact J65 r29 _ _ _ ⟨hP, hS, lv_sub hl [] rfl, h⟩
        · have h := if_t ((i2_eq (x := r21) (y := 0) hr22 (by decide)).mp c23) h
          exact J44 () _ _ _ ⟨hP, hS, lv_sub hl [] rfl, h⟩
set_option maxHeartbeats 4000000 in
set_option maxRecDepth 100000 in
theorem k_x12_kept (l : Launch) (D : va_G) (a : Nat → Nat) (p0 : Int) (p1 : Int) (s : MS) (o : Int) (h : m_x12_kept p0 p1 s = some o) : yRi l yX12_kept cX12_kept 3 (some .int) { frames := 1, cells := 0, slots := 0, locals := 60 } D [.ref (a 200), .int (i2 p0), .int (i2 p1)] (RW D a s) (i2 o) := by
  refine Met.ofW (cc := cX12_kept) (maxL := 3) (ret := (some .int)) (by decide) rfl ?_
  intro p e s₀ m args below meth c s₁ B hml hv
  obtain ⟨rfl, ⟨hP, hK⟩, hN⟩ := hv
  have hx := B.exec
  have hb := B.bytes
  have hr := B.returns
  have hts := atoms_spec (ws := wz yX12_kept cX12_kept 3 (some .int)) B.pre
  have ht : ∀ w ∈ lw_gd, w.before _ s₀ = true := fun w h => hts w (List.mem_cons_of_mem _ h)
  have hown : s₀.vm.findClass RX12 = some m.cls := findClass_of_methodNamed B.named
  have hlocks := B.notSynchronized
  have hS : va_S (fun _ => False) s₀.heap s₀.heap [] := va_S.rf
  have hl := lv_entry ([.ref (a 200), .int (i2 p0), .int (i2 p1)]) (n := 3) (Nat.le_of_ble_eq_true rfl)
  rw [lg_entry_eq]
  generalize (lg_sl ([.ref (a 200), .int (i2 p0), .int (i2 p1)]) ++ List.replicate (3 - (lg_sl ([.ref (a 200), .int (i2 p0), .int (i2 p1)])).length) Slot.unset).toArray = ls at hl ⊢
  have hl : lv_has ls 3 [(0, .ref (a 200)), (1, .int (i2 p0)), (2, .int (i2 p1))] := hl
  unfold m_x12_kept at h
  refine y_head (pcJ := 50) (σ := Int) (fun u H locs ls => va_P D vwCl (RW D a s) H ∧ va_S (fun _ => False) s₀.heap H locs ∧ lv_has ls 3 [] ∧ m_x12_kept_J50 s u = some o) (fun u => [.int (i2 u)]) (fun u H locs ls hI => ?_) (fun J50 => ?_)
  · obtain ⟨hP, hS, hl, h⟩ := hI
    obtain ⟨x1, rfl⟩ : ∃ z, z = u := ⟨u, rfl⟩
    have hP : va_P D vwCl (RW D a s) H := hP
    have hl : lv_has ls 3 [] := hl
    have h : m_x12_kept_J50 s x1 = some o := h
    unfold m_x12_kept_J50 at h
    obtain rfl := Option.some.inj h
    exact W.iret (v := (i2 x1)) hx hb hr (fun t ht hW => ⟨⟨_, (), rfl, rfl, trivial⟩, hS.F ht⟩) hS.2.2 eX12_kept_50.1
  refine y_head (pcJ := 49) (σ := Unit) (fun u H locs ls => va_P D vwCl (RW D a s) H ∧ va_S (fun _ => False) s₀.heap H locs ∧ lv_has ls 3 [] ∧ m_x12_kept_J49 s u = some o) (fun u => []) (fun u H locs ls hI => ?_) (fun J49 => ?_)
  · obtain ⟨hP, hS, hl, h⟩ := hI
    skip
    have hP : va_P D vwCl (RW D a s) H := hP
    have hl : lv_has ls 3 [] := hl
    have h : m_x12_kept_J49 s () = some o := h
    unfold m_x12_kept_J49 at h
    refine lv_iconst (v := (-1)) hx hb eX12_kept_40.2.2.2.2.2.2.2 (by decide) ?_
    exact J50 (-1) _ _ _ ⟨hP, hS, lv_sub hl [] rfl, h⟩
  refine lv_iload_n hx hb eX12_entry_62.2.2.1 rfl (lv_at hl 1 rfl) ?_
  obtain ⟨hr2, h⟩ := rg_e h
  refine lv_i2l (v := i8 p0) hx hb eX12_entry_62.2.2.2.1 (i2_l hr2) ?_
  refine lv_lconst (v := 0) hx hb eX12_entry_62.2.2.2.2.1 (by decide) ?_
  refine lv_aload_n hx hb eX12_entry_62.2.2.2.2.2.1 rfl (lv_at hl 0 rfl) ?_
  refine va_get (D := D) (ci := 12) (v := .ref (a 49)) (C := RX12) (T := TX12) (N := 116) hx hb ht inX12 hown hK hP 0 RW_0 rfl 49 (by decide) (ht (.fieldLink RX12 121 "CloneVolumesModel" "now" "[I") fl_X12_121) (fun _ h9 => h9) mF_49 eX12_entry_62.2.2.2.2.2.2.1 ?_
  refine lv_sipush (v := 785) hx hb eX12_entry_62.2.2.2.2.2.2.2 (by decide) ?_
  obtain ⟨y3, ey3, iy3, h⟩ := rdI_e h
  refine ya_iald (i := 785) hx hb hK hP 36 0 RW_36 rfl (by decide) ey3 iy3 eX12_kept_10.1 ?_
  refine lv_iconst (v := 1) hx hb eX12_kept_10.2.1 (by decide) ?_
  refine lv_isub hx hb eX12_kept_10.2.2.1 ?_
  refine z_topi (y := i2 (y3 - 1)) (i2_sub y3 1) ?_
  obtain ⟨hr4, h⟩ := rg_e h
  refine lv_i2l (v := i8 (y3 - 1)) hx hb eX12_kept_10.2.2.2.1 (i2_l hr4) ?_
  obtain ⟨r6, hc5, h⟩ := bn_e h
  refine ycS (r0 := i2 r6) (As := [.long (i8 p0), .long 0, .long (i8 (y3 - 1))]) (rest := []) (n := 3) ⟨hx, hb, hml, hown, ht⟩ (k_x12_isIn l D a p0 0 (y3 - 1) _ _ hc5) (zgT ml_X12_309 st_X12_isIn in_X12 co_X12_isIn) rfl rfl (by decide +kernel) ⟨Nat.le_of_ble_eq_true rfl, Nat.le_of_ble_eq_true rfl⟩ hN hK hP hS rfl hl.1 rfl (Nat.le_of_ble_eq_true rfl) eX12_kept_10.2.2.2.2.1 ⟨Nat.le_of_ble_eq_true rfl, Nat.le_of_ble_eq_true rfl⟩ (fun H locs hP hS => ?_)
  obtain ⟨hr7, h⟩ := rg_e h
  refine lv_if_eq (tgt := 49) hx hb eX12_kept_10.2.2.2.2.2.1 (by decide) (fun c8 => ?_) (fun c8 => ?_)
  · have h := if_t ((i2_eq (x := r6) (y := 0) hr7 (by decide)).mp c8) h
    exact J49 () _ _ _ ⟨hP, hS, lv_sub hl [] rfl, h⟩
  · have h := if_f (mt (i2_eq (x := r6) (y := 0) hr7 (by decide)).mpr c8) h
    refine lv_iload_n hx hb eX12_kept_10.2.2.2.2.2.2.1 rfl (lv_at hl 2 rfl) ?_
    obtain ⟨hr9, h⟩ := rg_e h
    refine lv_i2l (v := i8 p1) hx hb eX12_kept_10.2.2.2.2.2.2.2 (i2_l hr9) ?_
    refine lv_lconst (v := 0) hx hb eX12_kept_22.1 (by decide) ?_
    refine lv_ldc2 (own := RX12) (v := 2) hx hb hown (ht _ cl_X12_619) eX12_kept_22.2.1 ?_
    obtain ⟨r11, hc10, h⟩ := bn_e h
    refine ycS (r0 := i2 r11) (As := [.long (i8 p1), .long 0, .long 2]) (rest := []) (n := 3) ⟨hx, hb, hml, hown, ht⟩ (k_x12_isIn l D a p1 0 2 _ _ hc10) (zgT ml_X12_309 st_X12_isIn in_X12 co_X12_isIn) rfl rfl (by decide +kernel) ⟨Nat.le_of_ble_eq_true rfl, Nat.le_of_ble_eq_true rfl⟩ hN hK hP hS rfl hl.1 rfl (Nat.le_of_ble_eq_true rfl) eX12_kept_22.2.2.1 ⟨Nat.le_of_ble_eq_true rfl, Nat.le_of_ble_eq_true rfl⟩ (fun H locs hP hS => ?_)
    obtain ⟨hr12, h⟩ := rg_e h
    refine lv_if_eq (tgt := 49) hx hb eX12_kept_22.2.2.2.1 (by decide) (fun c13 => ?_) (fun c13 => ?_)
    · have h := if_t ((i2_eq (x := r11) (y := 0) hr12 (by decide)).mp c13) h
      exact J49 () _ _ _ ⟨hP, hS, lv_sub hl [] rfl, h⟩
    · have h := if_f (mt (i2_eq (x := r11) (y := 0) hr12 (by decide)).mpr c13) h
      refine lv_aload_n hx hb eX12_kept_22.2.2.2.2.1 rfl (lv_at hl 0 rfl) ?_
      refine va_get (D := D) (ci := 12) (v := .ref (a 49)) (C := RX12) (T := TX12) (N := 116) hx hb ht inX12 hown hK hP 0 RW_0 rfl 49 (by decide) (ht (.fieldLink RX12 121 "CloneVolumesModel" "now" "[I") fl_X12_121) (fun _ h9 => h9) mF_49 eX12_kept_22.2.2.2.2.2.1 ?_
      refine lv_sipush (v := 786) hx hb eX12_kept_22.2.2.2.2.2.2.1 (by decide) ?_
      refine lv_iconst (v := 3) hx hb eX12_kept_22.2.2.2.2.2.2.2 (by decide) ?_
      refine lv_iload_n hx hb eX12_kept_40.1 rfl (lv_at hl 1 rfl) ?_
      refine lv_imul hx hb eX12_kept_40.2.1 ?_
      refine z_topi (y := i2 (3 * p0)) (i2_mul 3 p0) ?_
      refine lv_iadd hx hb eX12_kept_40.2.2.1 ?_
      refine z_topi (y := i2 (786 + (3 * p0))) (i2_add 786 (3 * p0)) ?_
      refine lv_iload_n hx hb eX12_kept_40.2.2.2.1 rfl (lv_at hl 2 rfl) ?_
      refine lv_iadd hx hb eX12_kept_40.2.2.2.2.1 ?_
      refine z_topi (y := i2 ((786 + (3 * p0)) + p1)) (i2_add (786 + (3 * p0)) p1) ?_
      obtain ⟨y14, ey14, iy14, h⟩ := rdI_e h
      refine ya_iald (i := ((786 + (3 * p0)) + p1)) hx hb hK hP 36 0 RW_36 rfl (by decide) ey14 iy14 eX12_kept_40.2.2.2.2.2.1 ?_
      refine lv_goto (tgt := 50) hx hb eX12_kept_40.2.2.2.2.2.2.1 (by decide) ?_
      exact J50 y14 _ _ _ ⟨hP, hS, lv_sub hl [] rfl, h⟩
set_option maxHeartbeats 4000000 in
set_option maxRecDepth 100000 in
theorem k_x12_read (l : Launch) (D : va_G) (a : Nat → Nat) (p0 : Int) (p1 : Int) (s : MS) (o : Int) (h : m_x12_read p0 p1 s = some o) : yRi l yX12_read cX12_read 3 (some .int) { frames := 4, cells := 0, slots := 0, locals := 240 } D [.ref (a 200), .int (i2 p0), .int (i2 p1)] (RW D a s) (i2 o) := by
  refine Met.ofW (cc := cX12_read) (maxL := 3) (ret := (some .int)) (by decide) rfl ?_
  intro p e s₀ m args below meth c s₁ B hml hv
  obtain ⟨rfl, ⟨hP, hK⟩, hN⟩ := hv
  have hx := B.exec
  have hb := B.bytes
  have hr := B.returns
  have hts := atoms_spec (ws := wz yX12_read cX12_read 3 (some .int)) B.pre
  have ht : ∀ w ∈ lw_gd, w.before _ s₀ = true := fun w h => hts w (List.mem_cons_of_mem _ h)
  have hown : s₀.vm.findClass RX12 = some m.cls := findClass_of_methodNamed B.named
  have hlocks := B.notSynchronized
  have hS : va_S (fun _ => False) s₀.heap s₀.heap [] := va_S.rf
  have hl := lv_entry ([.ref (a 200), .int (i2 p0), .int (i2 p1)]) (n := 3) (Nat.le_of_ble_eq_true rfl)
  rw [lg_entry_eq]
  generalize (lg_sl ([.ref (a 200), .int (i2 p0), .int (i2 p1)]) ++ List.replicate (3 - (lg_sl ([.ref (a 200), .int (i2 p0), .int (i2 p1)])).length) Slot.unset).toArray = ls at hl ⊢
  have hl : lv_has ls 3 [(0, .ref (a 200)), (1, .int (i2 p0)), (2, .int (i2 p1))] := hl
  unfold m_x12_read at h
  refine y_head (pcJ := 19) (σ := Int) (fun u H locs ls => va_P D vwCl (RW D a s) H ∧ va_S (fun _ => False) s₀.heap H locs ∧ lv_has ls 3 [] ∧ m_x12_read_J19 s u = some o) (fun u => [.int (i2 u)]) (fun u H locs ls hI => ?_) (fun J19 => ?_)
  · obtain ⟨hP, hS, hl, h⟩ := hI
    obtain ⟨x1, rfl⟩ : ∃ z, z = u := ⟨u, rfl⟩
    have hP : va_P D vwCl (RW D a s) H := hP
    have hl : lv_has ls 3 [] := hl
    have h : m_x12_read_J19 s x1 = some o := h
    unfold m_x12_read_J19 at h
    obtain rfl := Option.some.inj h
    exact W.iret (v := (i2 x1)) hx hb hr (fun t ht hW => ⟨⟨_, (), rfl, rfl, trivial⟩, hS.F ht⟩) hS.2.2 eX12_read_9.2.2.2.2.2.2.1
  refine lv_aload_n hx hb eX12_path_85.2.2.2.1 rfl (lv_at hl 0 rfl) ?_
  refine lv_iload_n hx hb eX12_path_85.2.2.2.2.1 rfl (lv_at hl 1 rfl) ?_
  obtain ⟨hr2, h⟩ := rg_e h
  refine lv_i2l (v := i8 p0) hx hb eX12_path_85.2.2.2.2.2.1 (i2_l hr2) ?_
  obtain ⟨r4, hc3, h⟩ := bn_e h
  refine ycV (r0 := i2 r4) (As := [.long (i8 p0)]) (rest := []) (C := RX12) (n := 1) ⟨hx, hb, hml, hown, ht⟩ (k_x12_isVolume l D a p0 _ _ hc3) (zgV ml_X12_571 im_X12_isVolume se_X12_isVolume in_X12 co_X12_isVolume) rfl rfl (by decide +kernel) ⟨Nat.le_of_ble_eq_true rfl, Nat.le_of_ble_eq_true rfl⟩ hN hK hP hS 0 RW_0 rfl rfl rfl hl.1 rfl (Nat.le_of_ble_eq_true rfl) eX12_path_85.2.2.2.2.2.2.1 ⟨Nat.le_of_ble_eq_true rfl, Nat.le_of_ble_eq_true rfl⟩ (fun H locs hP hS => ?_)
  obtain ⟨hr5, h⟩ := rg_e h
  refine lv_if_eq (tgt := 18) hx hb eX12_path_85.2.2.2.2.2.2.2 (by decide) (fun c6 => ?_) (fun c6 => ?_)
  · have h := if_t ((i2_eq (x := r4) (y := 0) hr5 (by decide)).mp c6) h
    refine lv_iconst (v := (-1)) hx hb eX12_read_9.2.2.2.2.2.1 (by decide) ?_
    exact J19 (-1) _ _ _ ⟨hP, hS, lv_sub hl [] rfl, h⟩
  · have h := if_f (mt (i2_eq (x := r4) (y := 0) hr5 (by decide)).mpr c6) h
    refine lv_aload_n hx hb eX12_read_9.1 rfl (lv_at hl 0 rfl) ?_
    refine lv_iload_n hx hb eX12_read_9.2.1 rfl (lv_at hl 1 rfl) ?_
    refine lv_iload_n hx hb eX12_read_9.2.2.1 rfl (lv_at hl 2 rfl) ?_
    obtain ⟨r8, hc7, h⟩ := bn_e h
    refine ycV (r0 := i2 r8) (As := [.int (i2 p0), .int (i2 p1)]) (rest := []) (C := RX12) (n := 2) ⟨hx, hb, hml, hown, ht⟩ (k_x12_valueOf l D a p0 p1 _ _ hc7) (zgV ml_X12_559 im_X12_valueOf se_X12_valueOf in_X12 co_X12_valueOf) rfl rfl (by decide +kernel) ⟨Nat.le_of_ble_eq_true rfl, Nat.le_of_ble_eq_true rfl⟩ hN hK hP hS 0 RW_0 rfl rfl rfl hl.1 rfl (Nat.le_of_ble_eq_true rfl) eX12_read_9.2.2.2.1 ⟨Nat.le_of_ble_eq_true rfl, Nat.le_of_ble_eq_true rfl⟩ (fun H locs hP hS => ?_)
    refine lv_goto (tgt := 19) hx hb eX12_read_9.2.2.2.2.1 (by decide) ?_
    exact J19 r8 _ _ _ ⟨hP, hS, lv_sub hl [] rfl, h⟩
set_option maxHeartbeats 4000000 in
set_option maxRecDepth 100000 in
theorem k_x12_key (l : Launch) (D : va_G) (a : Nat → Nat) (p0 : Int) (p1 : Int) (sz : Nat) (s : MS) (o : (Int × MS)) (h : m_x12_key p0 p1 s = some o) : yWi l yX12_key cX12_key 3 (some .int) { frames := 3, cells := 0, slots := 0, locals := 180 } D sz [.ref (a 200), .int (i2 p0), .int (i2 p1)] (RW D a s) (RW D a o.2) (i2 o.1) := by
  refine Met.ofW (cc := cX12_key) (maxL := 3) (ret := (some .int)) (by decide) rfl ?_
  intro p e s₀ m args below meth c s₁ B hml hv
  obtain ⟨rfl, ⟨hsz, hP, hK, hD0⟩, hN⟩ := hv
  have hx := B.exec
  have hb := B.bytes
  have hr := B.returns
  have hts := atoms_spec (ws := wz yX12_key cX12_key 3 (some .int)) B.pre
  have ht : ∀ w ∈ lw_gd, w.before _ s₀ = true := fun w h => hts w (List.mem_cons_of_mem _ h)
  have hown : s₀.vm.findClass RX12 = some m.cls := findClass_of_methodNamed B.named
  have hlocks := B.notSynchronized
  subst hsz
  have hD := hD0.self (sz := s₀.heap.size)
  generalize hAe : va_A (RW D a s) s₀.heap.size = A at hD ⊢
  have hA : ∀ q : Nat, s₀.heap.size ≤ q → A q := fun q h => by rw [← hAe]; exact Or.inr h
  have hS : va_S A s₀.heap s₀.heap [] := va_S.rf
  have hDD : ∀ t : MS, va_D A (RW D a t) := fun t => RW_D t hD
  have hl := lv_entry ([.ref (a 200), .int (i2 p0), .int (i2 p1)]) (n := 3) (Nat.le_of_ble_eq_true rfl)
  rw [lg_entry_eq]
  generalize (lg_sl ([.ref (a 200), .int (i2 p0), .int (i2 p1)]) ++ List.replicate (3 - (lg_sl ([.ref (a 200), .int (i2 p0), .int (i2 p1)])).length) Slot.unset).toArray = ls at hl ⊢
  have hl : lv_has ls 3 [(0, .ref (a 200)), (1, .int (i2 p0)), (2, .int (i2 p1))] := hl
  unfold m_x12_key at h
  refine y_head (pcJ := 47) (σ := Int × MS) (fun u H locs ls => va_P D vwCl (RW D a u.2) H ∧ va_S A s₀.heap H locs ∧ lv_has ls 3 [] ∧ m_x12_key_J47 u.1 u.2 = some o) (fun u => [.int (i2 u.1)]) (fun u H locs ls hI => ?_) (fun J47 => ?_)
  · obtain ⟨hP, hS, hl, h⟩ := hI
    obtain ⟨x1, s2⟩ := u
    have hP : va_P D vwCl (RW D a s2) H := hP
    have hl : lv_has ls 3 [] := hl
    have h : m_x12_key_J47 x1 s2 = some o := h
    unfold m_x12_key_J47 at h
    obtain rfl := Option.some.inj h
    exact W.iret (v := (i2 x1)) hx hb hr (fun t ht hW => ⟨⟨_, (), rfl, rfl, by rw [ht]; exact hP, va_K.moved hW.alike hK, hDD _⟩, hS.F ht⟩) hS.2.2 eX12_key_37.2.2.2.2.2.2.1
  refine lv_aload_n hx hb eX12_kept_50.2.1 rfl (lv_at hl 0 rfl) ?_
  refine lv_iload_n hx hb eX12_kept_50.2.2.1 rfl (lv_at hl 1 rfl) ?_
  obtain ⟨hr3, h⟩ := rg_e h
  refine lv_i2l (v := i8 p0) hx hb eX12_kept_50.2.2.2.1 (i2_l hr3) ?_
  obtain ⟨r5, hc4, h⟩ := bn_e h
  refine ycV (r0 := i2 r5) (As := [.long (i8 p0)]) (rest := []) (C := RX12) (n := 1) ⟨hx, hb, hml, hown, ht⟩ (k_x12_isVolume l D a p0 _ _ hc4) (zgV ml_X12_571 im_X12_isVolume se_X12_isVolume in_X12 co_X12_isVolume) rfl rfl (by decide +kernel) ⟨Nat.le_of_ble_eq_true rfl, Nat.le_of_ble_eq_true rfl⟩ hN hK hP hS 0 RW_0 rfl rfl rfl hl.1 rfl (Nat.le_of_ble_eq_true rfl) eX12_kept_50.2.2.2.2.1 ⟨Nat.le_of_ble_eq_true rfl, Nat.le_of_ble_eq_true rfl⟩ (fun H locs hP hS => ?_)
  obtain ⟨hr6, h⟩ := rg_e h
  refine lv_if_ne (tgt := 11) hx hb eX12_kept_50.2.2.2.2.2.1 (by decide) (fun c7 => ?_) (fun c7 => ?_)
  · have h := if_f (mt (i2_eq (x := r5) (y := 0) hr6 (by decide)).mpr c7) h
    refine lv_aload_n hx hb eX12_key_11.1 rfl (lv_at hl 0 rfl) ?_
    refine lv_aload_n hx hb eX12_key_11.2.1 rfl (lv_at hl 0 rfl) ?_
    refine va_get (D := D) (ci := 12) (v := .ref (a 49)) (C := RX12) (T := TX12) (N := 116) hx hb ht inX12 hown hK hP 0 RW_0 rfl 49 (by decide) (ht (.fieldLink RX12 121 "CloneVolumesModel" "now" "[I") fl_X12_121) (fun _ h9 => h9) mF_49 eX12_key_11.2.2.1 ?_
    refine lv_iload_n hx hb eX12_key_11.2.2.2.1 rfl (lv_at hl 1 rfl) ?_
    obtain ⟨y8, ey8, iy8, h⟩ := rdI_e h
    refine ya_iald (i := p0) hx hb hK hP 36 0 RW_36 rfl (by decide) ey8 iy8 eX12_key_11.2.2.2.2.1 ?_
    obtain ⟨s10, hc9, h⟩ := bn_e h
    refine ywVv (As := [.int (i2 y8)]) (rest := []) (C := RX12) (n := 1) (ws' := RW D a s10) ⟨hx, hb, hml, hown, ht⟩ (k_x12_laysTree l D a y8 _ _ _ hc9) (zgV ml_X12_610 im_X12_laysTree se_X12_laysTree in_X12 co_X12_laysTree) rfl rfl (by decide +kernel) ⟨Nat.le_of_ble_eq_true rfl, Nat.le_of_ble_eq_true rfl⟩ hN hK hP (hDD _) hS hA 0 RW_0 rfl rfl rfl hl.1 rfl (Nat.le_of_ble_eq_true rfl) eX12_key_11.2.2.2.2.2.1 ⟨Nat.le_of_ble_eq_true rfl, Nat.le_of_ble_eq_true rfl⟩ (fun H locs hP hS => ?_)
    refine lv_iload_n hx hb eX12_key_11.2.2.2.2.2.2.1 rfl (lv_at hl 2 rfl) ?_
    obtain ⟨hr11, h⟩ := rg_e h
    refine lv_i2l (v := i8 p1) hx hb eX12_key_11.2.2.2.2.2.2.2 (i2_l hr11) ?_
    refine lv_lconst (v := 0) hx hb eX12_key_23.1 (by decide) ?_
    refine lv_aload_n hx hb eX12_key_23.2.1 rfl (lv_at hl 0 rfl) ?_
    refine va_get (D := D) (ci := 12) (v := .int (i2 (gI s10 67))) (C := RX12) (T := TX12) (N := 116) hx hb ht inX12 hown hK hP 0 RW_0 rfl 67 (by decide) (ht (.fieldLink RX12 592 "CloneVolumesModel" "keyMany" "I") fl_X12_592) (fun _ h9 => h9) mF_67 eX12_key_23.2.2.1 ?_
    refine lv_iconst (v := 1) hx hb eX12_key_23.2.2.2.1 (by decide) ?_
    refine lv_isub hx hb eX12_key_23.2.2.2.2.1 ?_
    refine z_topi (y := i2 ((gI s10 67) - 1)) (i2_sub (gI s10 67) 1) ?_
    obtain ⟨hr12, h⟩ := rg_e h
    refine lv_i2l (v := i8 ((gI s10 67) - 1)) hx hb eX12_key_23.2.2.2.2.2.1 (i2_l hr12) ?_
    obtain ⟨r14, hc13, h⟩ := bn_e h
    refine ycS (r0 := i2 r14) (As := [.long (i8 p1), .long 0, .long (i8 ((gI s10 67) - 1))]) (rest := []) (n := 3) ⟨hx, hb, hml, hown, ht⟩ (k_x12_isIn l D a p1 0 ((gI s10 67) - 1) _ _ hc13) (zgT ml_X12_309 st_X12_isIn in_X12 co_X12_isIn) rfl rfl (by decide +kernel) ⟨Nat.le_of_ble_eq_true rfl, Nat.le_of_ble_eq_true rfl⟩ hN hK hP hS rfl hl.1 rfl (Nat.le_of_ble_eq_true rfl) eX12_key_23.2.2.2.2.2.2.1 ⟨Nat.le_of_ble_eq_true rfl, Nat.le_of_ble_eq_true rfl⟩ (fun H locs hP hS => ?_)
    obtain ⟨hr15, h⟩ := rg_e h
    refine lv_if_eq (tgt := 46) hx hb eX12_key_23.2.2.2.2.2.2.2 (by decide) (fun c16 => ?_) (fun c16 => ?_)
    · have h := if_t ((i2_eq (x := r14) (y := 0) hr15 (by decide)).mp c16) h
      refine lv_iconst (v := (-1)) hx hb eX12_key_37.2.2.2.2.2.1 (by decide) ?_
      exact J47 ((-1), s10) _ _ _ ⟨hP, hS, lv_sub hl [] rfl, h⟩
    · have h := if_f (mt (i2_eq (x := r14) (y := 0) hr15 (by decide)).mpr c16) h
      refine lv_aload_n hx hb eX12_key_37.1 rfl (lv_at hl 0 rfl) ?_
      refine va_get (D := D) (ci := 12) (v := .ref (a 64)) (C := RX12) (T := TX12) (N := 116) hx hb ht inX12 hown hK hP 0 RW_0 rfl 64 (by decide) (ht (.fieldLink RX12 152 "CloneVolumesModel" "keyRow" "[I") fl_X12_152) (fun _ h9 => h9) mF_64 eX12_key_37.2.1 ?_
      refine lv_iload_n hx hb eX12_key_37.2.2.1 rfl (lv_at hl 2 rfl) ?_
      obtain ⟨y17, ey17, iy17, h⟩ := rdI_e h
      refine ya_iald (i := p1) hx hb hK hP 46 0 RW_46 rfl (by decide) ey17 iy17 eX12_key_37.2.2.2.1 ?_
      refine lv_goto (tgt := 47) hx hb eX12_key_37.2.2.2.2.1 (by decide) ?_
      exact J47 (y17, s10) _ _ _ ⟨hP, hS, lv_sub hl [] rfl, h⟩
  · have h := if_t ((i2_eq (x := r5) (y := 0) hr6 (by decide)).mp c7) h
    refine lv_iconst (v := (-1)) hx hb eX12_kept_50.2.2.2.2.2.2.1 (by decide) ?_
    obtain rfl := Option.some.inj h
    exact W.iret (v := (-1)) hx hb hr (fun t ht hW => ⟨⟨_, (), rfl, rfl, by rw [ht]; exact hP, va_K.moved hW.alike hK, hDD _⟩, hS.F ht⟩) hS.2.2 eX12_kept_50.2.2.2.2.2.2.2
set_option maxHeartbeats 4000000 in
set_option maxRecDepth 100000 in
theorem k_x12_total (l : Launch) (D : va_G) (a : Nat → Nat) (p0 : Int) (p1 : Int) (p2 : Int) (sz : Nat) (s : MS) (o : (Int × MS)) (h : m_x12_total p0 p1 p2 s = some o) : yWi l yX12_total cX12_total 6 (some .int) { frames := 3, cells := 0, slots := 0, locals := 180 } D sz [.ref (a 200), .int (i2 p0), .int (i2 p1), .int (i2 p2)] (RW D a s) (RW D a o.2) (i2 o.1) := by
  refine Met.ofW (cc := cX12_total) (maxL := 6) (ret := (some .int)) (by decide) rfl ?_
  intro p e s₀ m args below meth c s₁ B hml hv
  obtain ⟨rfl, ⟨hsz, hP, hK, hD0⟩, hN⟩ := hv
  have hx := B.exec
  have hb := B.bytes
  have hr := B.returns
  have hts := atoms_spec (ws := wz yX12_total cX12_total 6 (some .int)) B.pre
  have ht : ∀ w ∈ lw_gd, w.before _ s₀ = true := fun w h => hts w (List.mem_cons_of_mem _ h)
  have hown : s₀.vm.findClass RX12 = some m.cls := findClass_of_methodNamed B.named
  have hlocks := B.notSynchronized
  subst hsz
  have hD := hD0.self (sz := s₀.heap.size)
  generalize hAe : va_A (RW D a s) s₀.heap.size = A at hD ⊢
  have hA : ∀ q : Nat, s₀.heap.size ≤ q → A q := fun q h => by rw [← hAe]; exact Or.inr h
  have hS : va_S A s₀.heap s₀.heap [] := va_S.rf
  have hDD : ∀ t : MS, va_D A (RW D a t) := fun t => RW_D t hD
  have hl := lv_entry ([.ref (a 200), .int (i2 p0), .int (i2 p1), .int (i2 p2)]) (n := 6) (Nat.le_of_ble_eq_true rfl)
  rw [lg_entry_eq]
  generalize (lg_sl ([.ref (a 200), .int (i2 p0), .int (i2 p1), .int (i2 p2)]) ++ List.replicate (6 - (lg_sl ([.ref (a 200), .int (i2 p0), .int (i2 p1), .int (i2 p2)])).length) Slot.unset).toArray = ls at hl ⊢
  have hl : lv_has ls 6 [(0, .ref (a 200)), (1, .int (i2 p0)), (2, .int (i2 p1)), (3, .int (i2 p2))] := hl
  unfold m_x12_total at h
  refine y_loop (pcJ := 27) (σ := Int × Int × Int × Int × MS) (fun n u H locs ls => va_P D vwCl (RW D a u.2.2.2.2) H ∧ va_S A s₀.heap H locs ∧ lv_has ls 6 [(0, .ref (a 200)), (2, .int (i2 u.1)), (3, .int (i2 u.2.1)), (4, .int (i2 u.2.2.1)), (5, .int (i2 u.2.2.2.1))] ∧ m_x12_total_L27 n u.1 u.2.1 u.2.2.1 u.2.2.2.1 u.2.2.2.2 = some o) (fun u => []) (fun u H locs ls hI => by obtain ⟨_, _, _, h⟩ := hI; cases h) (fun n27 ih27 u H locs ls hI => ?_) (fun J27 => ?_)
  · obtain ⟨hP, hS, hl, h⟩ := hI
    obtain ⟨x1, x2, x3, x4, s5⟩ := u
    have hP : va_P D vwCl (RW D a s5) H := hP
    have hl : lv_has ls 6 [(0, .ref (a 200)), (2, .int (i2 x1)), (3, .int (i2 x2)), (4, .int (i2 x3)), (5, .int (i2 x4))] := hl
    have h : m_x12_total_b27 (m_x12_total_L27 n27) x1 x2 x3 x4 s5 = some o := h
    unfold m_x12_total_b27 at h
    refine y_head (pcJ := 66) (σ := Int × Int × Int × Int × MS) (fun u H locs ls => va_P D vwCl (RW D a u.2.2.2.2) H ∧ va_S A s₀.heap H locs ∧ lv_has ls 6 [(0, .ref (a 200)), (2, .int (i2 u.1)), (3, .int (i2 u.2.1)), (4, .int (i2 u.2.2.1)), (5, .int (i2 u.2.2.2.1))] ∧ m_x12_total_J66 (m_x12_total_L27 n27) u.1 u.2.1 u.2.2.1 u.2.2.2.1 u.2.2.2.2 = some o) (fun u => []) (fun u H locs ls hI => ?_) (fun J66 => ?_)
    · obtain ⟨hP, hS, hl, h⟩ := hI
      obtain ⟨x6, x7, x8, x9, s10⟩ := u
      have hP : va_P D vwCl (RW D a s10) H := hP
      have hl : lv_has ls 6 [(0, .ref (a 200)), (2, .int (i2 x6)), (3, .int (i2 x7)), (4, .int (i2 x8)), (5, .int (i2 x9))] := hl
      have h : m_x12_total_J66 (m_x12_total_L27 n27) x6 x7 x8 x9 s10 = some o := h
      unfold m_x12_total_J66 at h
      refine lv_iinc (v := i2 (x9 + 1)) (lv' := [(5, .int (i2 (x9 + 1))), (0, .ref (a 200)), (2, .int (i2 x6)), (3, .int (i2 x7)), (4, .int (i2 x8))]) hx hb eX12_total_62.2.2.2.1 hl (k := 4) rfl (i2_add x9 1) (by decide) rfl (fun ls hl => ?_)
      refine lv_goto (tgt := 27) hx hb eX12_total_62.2.2.2.2.1 (by decide) ?_
      exact ih27 (x6, x7, x8, x9 + 1, s10) _ _ _ ⟨hP, hS, lv_sub hl [1, 2, 3, 4, 0] rfl, h⟩
    refine lv_iload hx hb eX12_total_19.2.2.2.2.2.1 (lv_at hl 4 rfl) ?_
    refine lv_aload_n hx hb eX12_total_19.2.2.2.2.2.2.1 rfl (lv_at hl 0 rfl) ?_
    refine va_get (D := D) (ci := 12) (v := .int (i2 (gI s5 67))) (C := RX12) (T := TX12) (N := 116) hx hb ht inX12 hown hK hP 0 RW_0 rfl 67 (by decide) (ht (.fieldLink RX12 592 "CloneVolumesModel" "keyMany" "I") fl_X12_592) (fun _ h9 => h9) mF_67 eX12_total_19.2.2.2.2.2.2.2 ?_
    obtain ⟨hr11, h⟩ := rg_e h
    obtain ⟨hr12, h⟩ := rg_e h
    refine lv_icmp_ge (tgt := 72) hx hb eX12_total_33.1 (by decide) (fun c13 => ?_) (fun c13 => ?_)
    · have h := if_t ((i2_le (x := (gI s5 67)) (y := x4) hr12 hr11).mp c13) h
      refine lv_iload hx hb eX12_total_62.2.2.2.2.2.1 (lv_at hl 3 rfl) ?_
      obtain rfl := Option.some.inj h
      exact W.iret (v := (i2 x3)) hx hb hr (fun t ht hW => ⟨⟨_, (), rfl, rfl, by rw [ht]; exact hP, va_K.moved hW.alike hK, hDD _⟩, hS.F ht⟩) hS.2.2 eX12_total_62.2.2.2.2.2.2.1
    · have h := if_f (mt (i2_le (x := (gI s5 67)) (y := x4) hr12 hr11).mpr c13) h
      refine lv_aload_n hx hb eX12_total_33.2.1 rfl (lv_at hl 0 rfl) ?_
      refine va_get (D := D) (ci := 12) (v := .ref (a 64)) (C := RX12) (T := TX12) (N := 116) hx hb ht inX12 hown hK hP 0 RW_0 rfl 64 (by decide) (ht (.fieldLink RX12 152 "CloneVolumesModel" "keyRow" "[I") fl_X12_152) (fun _ h9 => h9) mF_64 eX12_total_33.2.2.1 ?_
      refine lv_iload hx hb eX12_total_33.2.2.2.1 (lv_at hl 4 rfl) ?_
      obtain ⟨y14, ey14, iy14, h⟩ := rdI_e h
      refine ya_iald (i := x4) hx hb hK hP 46 0 RW_46 rfl (by decide) ey14 iy14 eX12_total_33.2.2.2.2.1 ?_
      obtain ⟨hr15, h⟩ := rg_e h
      refine lv_i2l (v := i8 y14) hx hb eX12_total_33.2.2.2.2.2.1 (i2_l hr15) ?_
      refine lv_iload_n hx hb eX12_total_33.2.2.2.2.2.2.1 rfl (lv_at hl 1 rfl) ?_
      obtain ⟨hr16, h⟩ := rg_e h
      refine lv_i2l (v := i8 x1) hx hb eX12_total_33.2.2.2.2.2.2.2 (i2_l hr16) ?_
      refine lv_iload_n hx hb eX12_total_46.1 rfl (lv_at hl 2 rfl) ?_
      obtain ⟨hr17, h⟩ := rg_e h
      refine lv_i2l (v := i8 x2) hx hb eX12_total_46.2.1 (i2_l hr17) ?_
      obtain ⟨r19, hc18, h⟩ := bn_e h
      refine ycS (r0 := i2 r19) (As := [.long (i8 y14), .long (i8 x1), .long (i8 x2)]) (rest := []) (n := 3) ⟨hx, hb, hml, hown, ht⟩ (k_x12_isIn l D a y14 x1 x2 _ _ hc18) (zgT ml_X12_309 st_X12_isIn in_X12 co_X12_isIn) rfl rfl (by decide +kernel) ⟨Nat.le_of_ble_eq_true rfl, Nat.le_of_ble_eq_true rfl⟩ hN hK hP hS rfl hl.1 rfl (Nat.le_of_ble_eq_true rfl) eX12_total_46.2.2.1 ⟨Nat.le_of_ble_eq_true rfl, Nat.le_of_ble_eq_true rfl⟩ (fun H locs hP hS => ?_)
      obtain ⟨hr20, h⟩ := rg_e h
      refine lv_if_eq (tgt := 66) hx hb eX12_total_46.2.2.2.1 (by decide) (fun c21 => ?_) (fun c21 => ?_)
      · have h := if_t ((i2_eq (x := r19) (y := 0) hr20 (by decide)).mp c21) h
        exact J66 (x1, x2, x3, x4, s5) _ _ _ ⟨hP, hS, lv_sub hl [0, 1, 2, 3, 4] rfl, h⟩
      · have h := if_f (mt (i2_eq (x := r19) (y := 0) hr20 (by decide)).mpr c21) h
        refine lv_iload hx hb eX12_total_46.2.2.2.2.1 (lv_at hl 3 rfl) ?_
        refine lv_aload_n hx hb eX12_total_46.2.2.2.2.2.1 rfl (lv_at hl 0 rfl) ?_
        refine va_get (D := D) (ci := 12) (v := .ref (a 65)) (C := RX12) (T := TX12) (N := 116) hx hb ht inX12 hown hK hP 0 RW_0 rfl 65 (by decide) (ht (.fieldLink RX12 155 "CloneVolumesModel" "valueRow" "[I") fl_X12_155) (fun _ h9 => h9) mF_65 eX12_total_46.2.2.2.2.2.2.1 ?_
        refine lv_iload hx hb eX12_total_46.2.2.2.2.2.2.2 (lv_at hl 4 rfl) ?_
        obtain ⟨y22, ey22, iy22, h⟩ := rdI_e h
        refine ya_iald (i := x4) hx hb hK hP 47 0 RW_47 rfl (by decide) ey22 iy22 eX12_total_62.1 ?_
        refine lv_iadd hx hb eX12_total_62.2.1 ?_
        refine z_topi (y := i2 (x3 + y22)) (i2_add x3 y22) ?_
        refine lv_istore (lv' := [(4, .int (i2 (x3 + y22))), (0, .ref (a 200)), (2, .int (i2 x1)), (3, .int (i2 x2)), (5, .int (i2 x4))]) hx hb eX12_total_62.2.2.1 hl (by decide) rfl (fun ls hl => ?_)
        exact J66 (x1, x2, x3 + y22, x4, s5) _ _ _ ⟨hP, hS, lv_sub hl [1, 2, 3, 0, 4] rfl, h⟩
  refine lv_aload_n hx hb eX12_shared_101.2.2.2.2.1 rfl (lv_at hl 0 rfl) ?_
  refine lv_iload_n hx hb eX12_shared_101.2.2.2.2.2.1 rfl (lv_at hl 1 rfl) ?_
  obtain ⟨hr23, h⟩ := rg_e h
  refine lv_i2l (v := i8 p0) hx hb eX12_shared_101.2.2.2.2.2.2.1 (i2_l hr23) ?_
  obtain ⟨r25, hc24, h⟩ := bn_e h
  refine ycV (r0 := i2 r25) (As := [.long (i8 p0)]) (rest := []) (C := RX12) (n := 1) ⟨hx, hb, hml, hown, ht⟩ (k_x12_isVolume l D a p0 _ _ hc24) (zgV ml_X12_571 im_X12_isVolume se_X12_isVolume in_X12 co_X12_isVolume) rfl rfl (by decide +kernel) ⟨Nat.le_of_ble_eq_true rfl, Nat.le_of_ble_eq_true rfl⟩ hN hK hP hS 0 RW_0 rfl rfl rfl hl.1 rfl (Nat.le_of_ble_eq_true rfl) eX12_shared_101.2.2.2.2.2.2.2 ⟨Nat.le_of_ble_eq_true rfl, Nat.le_of_ble_eq_true rfl⟩ (fun H locs hP hS => ?_)
  obtain ⟨hr26, h⟩ := rg_e h
  refine lv_if_ne (tgt := 11) hx hb eX12_total_6.1 (by decide) (fun c27 => ?_) (fun c27 => ?_)
  · have h := if_f (mt (i2_eq (x := r25) (y := 0) hr26 (by decide)).mpr c27) h
    refine lv_iconst (v := 0) hx hb eX12_total_6.2.2.2.1 (by decide) ?_
    refine lv_istore (lv' := [(4, .int 0), (0, .ref (a 200)), (1, .int (i2 p0)), (2, .int (i2 p1)), (3, .int (i2 p2))]) hx hb eX12_total_6.2.2.2.2.1 hl (by decide) rfl (fun ls hl => ?_)
    refine lv_aload_n hx hb eX12_total_6.2.2.2.2.2.1 rfl (lv_at hl 1 rfl) ?_
    refine lv_aload_n hx hb eX12_total_6.2.2.2.2.2.2.1 rfl (lv_at hl 1 rfl) ?_
    refine va_get (D := D) (ci := 12) (v := .ref (a 49)) (C := RX12) (T := TX12) (N := 116) hx hb ht inX12 hown hK hP 0 RW_0 rfl 49 (by decide) (ht (.fieldLink RX12 121 "CloneVolumesModel" "now" "[I") fl_X12_121) (fun _ h9 => h9) mF_49 eX12_total_6.2.2.2.2.2.2.2 ?_
    refine lv_iload_n hx hb eX12_total_19.1 rfl (lv_at hl 2 rfl) ?_
    obtain ⟨y28, ey28, iy28, h⟩ := rdI_e h
    refine ya_iald (i := p0) hx hb hK hP 36 0 RW_36 rfl (by decide) ey28 iy28 eX12_total_19.2.1 ?_
    obtain ⟨s30, hc29, h⟩ := bn_e h
    refine ywVv (As := [.int (i2 y28)]) (rest := []) (C := RX12) (n := 1) (ws' := RW D a s30) ⟨hx, hb, hml, hown, ht⟩ (k_x12_laysTree l D a y28 _ _ _ hc29) (zgV ml_X12_610 im_X12_laysTree se_X12_laysTree in_X12 co_X12_laysTree) rfl rfl (by decide +kernel) ⟨Nat.le_of_ble_eq_true rfl, Nat.le_of_ble_eq_true rfl⟩ hN hK hP (hDD _) hS hA 0 RW_0 rfl rfl rfl hl.1 rfl (Nat.le_of_ble_eq_true rfl) eX12_total_19.2.2.1 ⟨Nat.le_of_ble_eq_true rfl, Nat.le_of_ble_eq_true rfl⟩ (fun H locs hP hS => ?_)
    refine lv_iconst (v := 0) hx hb eX12_total_19.2.2.2.1 (by decide) ?_
    refine lv_istore (lv' := [(5, .int 0), (4, .int 0), (0, .ref (a 200)), (1, .int (i2 p0)), (2, .int (i2 p1)), (3, .int (i2 p2))]) hx hb eX12_total_19.2.2.2.2.1 hl (by decide) rfl (fun ls hl => ?_)
    exact J27 FU (p1, p2, 0, 0, s30) _ _ _ ⟨hP, hS, lv_sub hl [2, 4, 5, 1, 0] rfl, h⟩
  · have h := if_t ((i2_eq (x := r25) (y := 0) hr26 (by decide)).mp c27) h
    refine lv_iconst (v := (-1)) hx hb eX12_total_6.2.1 (by decide) ?_
    obtain rfl := Option.some.inj h
    exact W.iret (v := (-1)) hx hb hr (fun t ht hW => ⟨⟨_, (), rfl, rfl, by rw [ht]; exact hP, va_K.moved hW.alike hK, hDD _⟩, hS.F ht⟩) hS.2.2 eX12_total_6.2.2.1
set_option maxHeartbeats 4000000 in
set_option maxRecDepth 100000 in
theorem k_x12_path (l : Launch) (D : va_G) (a : Nat → Nat) (p0 : Int) (p1 : Int) (p2 : Int) (s : MS) (o : Int) (h : m_x12_path p0 p1 p2 s = some o) : yRi l yX12_path cX12_path 6 (some .int) { frames := 2, cells := 0, slots := 0, locals := 120 } D [.ref (a 200), .int (i2 p0), .int (i2 p1), .int (i2 p2)] (RW D a s) (i2 o) := by
  refine Met.ofW (cc := cX12_path) (maxL := 6) (ret := (some .int)) (by decide) rfl ?_
  intro p e s₀ m args below meth c s₁ B hml hv
  obtain ⟨rfl, ⟨hP, hK⟩, hN⟩ := hv
  have hx := B.exec
  have hb := B.bytes
  have hr := B.returns
  have hts := atoms_spec (ws := wz yX12_path cX12_path 6 (some .int)) B.pre
  have ht : ∀ w ∈ lw_gd, w.before _ s₀ = true := fun w h => hts w (List.mem_cons_of_mem _ h)
  have hown : s₀.vm.findClass RX12 = some m.cls := findClass_of_methodNamed B.named
  have hlocks := B.notSynchronized
  have hS : va_S (fun _ => False) s₀.heap s₀.heap [] := va_S.rf
  have hl := lv_entry ([.ref (a 200), .int (i2 p0), .int (i2 p1), .int (i2 p2)]) (n := 6) (Nat.le_of_ble_eq_true rfl)
  rw [lg_entry_eq]
  generalize (lg_sl ([.ref (a 200), .int (i2 p0), .int (i2 p1), .int (i2 p2)]) ++ List.replicate (6 - (lg_sl ([.ref (a 200), .int (i2 p0), .int (i2 p1), .int (i2 p2)])).length) Slot.unset).toArray = ls at hl ⊢
  have hl : lv_has ls 6 [(0, .ref (a 200)), (1, .int (i2 p0)), (2, .int (i2 p1)), (3, .int (i2 p2))] := hl
  unfold m_x12_path at h
  refine y_loop (pcJ := 50) (σ := Int × Int × Int × Int) (fun n u H locs ls => va_P D vwCl (RW D a s) H ∧ va_S (fun _ => False) s₀.heap H locs ∧ lv_has ls 6 [(0, .ref (a 200)), (2, .int (i2 u.1)), (3, .int (i2 u.2.1)), (4, .int (i2 u.2.2.1)), (5, .int (i2 u.2.2.2))] ∧ m_x12_path_L50 s n u.1 u.2.1 u.2.2.1 u.2.2.2 = some o) (fun u => []) (fun u H locs ls hI => by obtain ⟨_, _, _, h⟩ := hI; cases h) (fun n50 ih50 u H locs ls hI => ?_) (fun J50 => ?_)
  · obtain ⟨hP, hS, hl, h⟩ := hI
    obtain ⟨x1, x2, x3, x4⟩ := u
    have hP : va_P D vwCl (RW D a s) H := hP
    have hl : lv_has ls 6 [(0, .ref (a 200)), (2, .int (i2 x1)), (3, .int (i2 x2)), (4, .int (i2 x3)), (5, .int (i2 x4))] := hl
    have h : m_x12_path_b50 s (m_x12_path_L50 s n50) x1 x2 x3 x4 = some o := h
    unfold m_x12_path_b50 at h
    refine lv_iload hx hb eX12_path_40.2.2.2.2.2.2.1 (lv_at hl 4 rfl) ?_
    refine lv_iload_n hx hb eX12_path_40.2.2.2.2.2.2.2 rfl (lv_at hl 2 rfl) ?_
    obtain ⟨hr5, h⟩ := rg_e h
    obtain ⟨hr6, h⟩ := rg_e h
    refine lv_icmp_ge (tgt := 88) hx hb eX12_path_53.1 (by decide) (fun c7 => ?_) (fun c7 => ?_)
    · have h := if_t ((i2_le (x := x2) (y := x4) hr6 hr5).mp c7) h
      refine lv_iload hx hb eX12_path_85.2.1 (lv_at hl 3 rfl) ?_
      obtain rfl := Option.some.inj h
      exact W.iret (v := (i2 x3)) hx hb hr (fun t ht hW => ⟨⟨_, (), rfl, rfl, trivial⟩, hS.F ht⟩) hS.2.2 eX12_path_85.2.2.1
    · have h := if_f (mt (i2_le (x := x2) (y := x4) hr6 hr5).mpr c7) h
      refine lv_aload_n hx hb eX12_path_53.2.1 rfl (lv_at hl 0 rfl) ?_
      refine lv_iload hx hb eX12_path_53.2.2.1 (lv_at hl 3 rfl) ?_
      obtain ⟨r9, hc8, h⟩ := bn_e h
      refine ycV (r0 := i2 r9) (As := [.int (i2 x3)]) (rest := []) (C := RX12) (n := 1) ⟨hx, hb, hml, hown, ht⟩ (k_x12_levelOf l D a x3 _ _ hc8) (zgV ml_X12_460 im_X12_levelOf se_X12_levelOf in_X12 co_X12_levelOf) rfl rfl (by decide +kernel) ⟨Nat.le_of_ble_eq_true rfl, Nat.le_of_ble_eq_true rfl⟩ hN hK hP hS 0 RW_0 rfl rfl rfl hl.1 rfl (Nat.le_of_ble_eq_true rfl) eX12_path_53.2.2.2.1 ⟨Nat.le_of_ble_eq_true rfl, Nat.le_of_ble_eq_true rfl⟩ (fun H locs hP hS => ?_)
      obtain ⟨hr10, h⟩ := rg_e h
      refine lv_if_ne (tgt := 67) hx hb eX12_path_53.2.2.2.2.1 (by decide) (fun c11 => ?_) (fun c11 => ?_)
      · have h := if_f (mt (i2_eq (x := r9) (y := 0) hr10 (by decide)).mpr c11) h
        refine lv_aload_n hx hb eX12_path_53.2.2.2.2.2.2.2 rfl (lv_at hl 0 rfl) ?_
        refine lv_iload hx hb eX12_path_68.1 (lv_at hl 3 rfl) ?_
        refine lv_aload_n hx hb eX12_path_68.2.1 rfl (lv_at hl 0 rfl) ?_
        refine lv_iload hx hb eX12_path_68.2.2.1 (lv_at hl 3 rfl) ?_
        refine lv_iload_n hx hb eX12_path_68.2.2.2.1 rfl (lv_at hl 1 rfl) ?_
        obtain ⟨r13, hc12, h⟩ := bn_e h
        refine ycV (r0 := i2 r13) (As := [.int (i2 x3), .int (i2 x1)]) (rest := [.int (i2 x3), .ref (a 200)]) (C := RX12) (n := 2) ⟨hx, hb, hml, hown, ht⟩ (k_x12_placeFor l D a x3 x1 _ _ hc12) (zgV ml_X12_543 im_X12_placeFor se_X12_placeFor in_X12 co_X12_placeFor) rfl rfl (by decide +kernel) ⟨Nat.le_of_ble_eq_true rfl, Nat.le_of_ble_eq_true rfl⟩ hN hK hP hS 0 RW_0 rfl rfl rfl hl.1 rfl (Nat.le_of_ble_eq_true rfl) eX12_path_68.2.2.2.2.1 ⟨Nat.le_of_ble_eq_true rfl, Nat.le_of_ble_eq_true rfl⟩ (fun H locs hP hS => ?_)
        obtain ⟨r15, hc14, h⟩ := bn_e h
        refine ycV (r0 := i2 r15) (As := [.int (i2 x3), .int (i2 r13)]) (rest := []) (C := RX12) (n := 2) ⟨hx, hb, hml, hown, ht⟩ (k_x12_valueAt l D a x3 r13 _ _ hc14) (zgV ml_X12_505 im_X12_valueAt se_X12_valueAt in_X12 co_X12_valueAt) rfl rfl (by decide +kernel) ⟨Nat.le_of_ble_eq_true rfl, Nat.le_of_ble_eq_true rfl⟩ hN hK hP hS 0 RW_0 rfl rfl rfl hl.1 rfl (Nat.le_of_ble_eq_true rfl) eX12_path_68.2.2.2.2.2.1 ⟨Nat.le_of_ble_eq_true rfl, Nat.le_of_ble_eq_true rfl⟩ (fun H locs hP hS => ?_)
        refine lv_istore (lv' := [(4, .int (i2 r15)), (0, .ref (a 200)), (2, .int (i2 x1)), (3, .int (i2 x2)), (5, .int (i2 x4))]) hx hb eX12_path_68.2.2.2.2.2.2.1 hl (by decide) rfl (fun ls hl => ?_)
        refine lv_iinc (v := i2 (x4 + 1)) (lv' := [(5, .int (i2 (x4 + 1))), (4, .int (i2 r15)), (0, .ref (a 200)), (2, .int (i2 x1)), (3, .int (i2 x2))]) hx hb eX12_path_68.2.2.2.2.2.2.2 hl (k := 4) rfl (i2_add x4 1) (by decide) rfl (fun ls hl => ?_)
        refine lv_goto (tgt := 50) hx hb eX12_path_85.1 (by decide) ?_
        exact ih50 (x1, x2, r15, x4 + 1) _ _ _ ⟨hP, hS, lv_sub hl [2, 3, 4, 1, 0] rfl, h⟩
      · have h := if_t ((i2_eq (x := r9) (y := 0) hr10 (by decide)).mp c11) h
        refine lv_iconst (v := (-1)) hx hb eX12_path_53.2.2.2.2.2.1 (by decide) ?_
        obtain rfl := Option.some.inj h
        exact W.iret (v := (-1)) hx hb hr (fun t ht hW => ⟨⟨_, (), rfl, rfl, trivial⟩, hS.F ht⟩) hS.2.2 eX12_path_53.2.2.2.2.2.2.1
  refine y_head (pcJ := 37) (σ := Unit) (fun u H locs ls => va_P D vwCl (RW D a s) H ∧ va_S (fun _ => False) s₀.heap H locs ∧ lv_has ls 6 [] ∧ m_x12_path_J37 s u = some o) (fun u => []) (fun u H locs ls hI => ?_) (fun J37 => ?_)
  · obtain ⟨hP, hS, hl, h⟩ := hI
    skip
    have hP : va_P D vwCl (RW D a s) H := hP
    have hl : lv_has ls 6 [] := hl
    have h : m_x12_path_J37 s () = some o := h
    unfold m_x12_path_J37 at h
    refine lv_iconst (v := (-1)) hx hb eX12_path_26.2.2.2.2.2.1 (by decide) ?_
    obtain rfl := Option.some.inj h
    exact W.iret (v := (-1)) hx hb hr (fun t ht hW => ⟨⟨_, (), rfl, rfl, trivial⟩, hS.F ht⟩) hS.2.2 eX12_path_26.2.2.2.2.2.2.1
  refine lv_aload_n hx hb eX12_laysWrites_57.2.2.1 rfl (lv_at hl 0 rfl) ?_
  refine lv_iload_n hx hb eX12_laysWrites_57.2.2.2.1 rfl (lv_at hl 1 rfl) ?_
  obtain ⟨hr16, h⟩ := rg_e h
  refine lv_i2l (v := i8 p0) hx hb eX12_laysWrites_57.2.2.2.2.1 (i2_l hr16) ?_
  obtain ⟨r18, hc17, h⟩ := bn_e h
  refine ycV (r0 := i2 r18) (As := [.long (i8 p0)]) (rest := []) (C := RX12) (n := 1) ⟨hx, hb, hml, hown, ht⟩ (k_x12_isVolume l D a p0 _ _ hc17) (zgV ml_X12_571 im_X12_isVolume se_X12_isVolume in_X12 co_X12_isVolume) rfl rfl (by decide +kernel) ⟨Nat.le_of_ble_eq_true rfl, Nat.le_of_ble_eq_true rfl⟩ hN hK hP hS 0 RW_0 rfl rfl rfl hl.1 rfl (Nat.le_of_ble_eq_true rfl) eX12_laysWrites_57.2.2.2.2.2.1 ⟨Nat.le_of_ble_eq_true rfl, Nat.le_of_ble_eq_true rfl⟩ (fun H locs hP hS => ?_)
  obtain ⟨hr19, h⟩ := rg_e h
  refine lv_if_eq (tgt := 37) hx hb eX12_laysWrites_57.2.2.2.2.2.2.1 (by decide) (fun c20 => ?_) (fun c20 => ?_)
  · have h := if_t ((i2_eq (x := r18) (y := 0) hr19 (by decide)).mp c20) h
    exact J37 () _ _ _ ⟨hP, hS, lv_sub hl [] rfl, h⟩
  · have h := if_f (mt (i2_eq (x := r18) (y := 0) hr19 (by decide)).mpr c20) h
    refine lv_iload_n hx hb eX12_laysWrites_57.2.2.2.2.2.2.2 rfl (lv_at hl 2 rfl) ?_
    obtain ⟨hr21, h⟩ := rg_e h
    refine lv_i2l (v := i8 p1) hx hb eX12_path_10.1 (i2_l hr21) ?_
    refine lv_lconst (v := 0) hx hb eX12_path_10.2.1 (by decide) ?_
    refine lv_ldc2 (own := RX12) (v := 999) hx hb hown (ht _ cl_X12_624) eX12_path_10.2.2.1 ?_
    obtain ⟨r23, hc22, h⟩ := bn_e h
    refine ycS (r0 := i2 r23) (As := [.long (i8 p1), .long 0, .long 999]) (rest := []) (n := 3) ⟨hx, hb, hml, hown, ht⟩ (k_x12_isIn l D a p1 0 999 _ _ hc22) (zgT ml_X12_309 st_X12_isIn in_X12 co_X12_isIn) rfl rfl (by decide +kernel) ⟨Nat.le_of_ble_eq_true rfl, Nat.le_of_ble_eq_true rfl⟩ hN hK hP hS rfl hl.1 rfl (Nat.le_of_ble_eq_true rfl) eX12_path_10.2.2.2.1 ⟨Nat.le_of_ble_eq_true rfl, Nat.le_of_ble_eq_true rfl⟩ (fun H locs hP hS => ?_)
    obtain ⟨hr24, h⟩ := rg_e h
    refine lv_if_eq (tgt := 37) hx hb eX12_path_10.2.2.2.2.1 (by decide) (fun c25 => ?_) (fun c25 => ?_)
    · have h := if_t ((i2_eq (x := r23) (y := 0) hr24 (by decide)).mp c25) h
      exact J37 () _ _ _ ⟨hP, hS, lv_sub hl [] rfl, h⟩
    · have h := if_f (mt (i2_eq (x := r23) (y := 0) hr24 (by decide)).mpr c25) h
      refine lv_aload_n hx hb eX12_path_10.2.2.2.2.2.1 rfl (lv_at hl 0 rfl) ?_
      refine va_get (D := D) (ci := 12) (v := .ref (a 49)) (C := RX12) (T := TX12) (N := 116) hx hb ht inX12 hown hK hP 0 RW_0 rfl 49 (by decide) (ht (.fieldLink RX12 121 "CloneVolumesModel" "now" "[I") fl_X12_121) (fun _ h9 => h9) mF_49 eX12_path_10.2.2.2.2.2.2.1 ?_
      refine lv_iload_n hx hb eX12_path_10.2.2.2.2.2.2.2 rfl (lv_at hl 1 rfl) ?_
      obtain ⟨y26, ey26, iy26, h⟩ := rdI_e h
      refine ya_iald (i := p0) hx hb hK hP 36 0 RW_36 rfl (by decide) ey26 iy26 eX12_path_26.1 ?_
      refine lv_sipush (v := 254) hx hb eX12_path_26.2.1 (by decide) ?_
      obtain ⟨hr27, h⟩ := rg_e h
      refine lv_icmp_eq (tgt := 37) hx hb eX12_path_26.2.2.1 (by decide) (fun c28 => ?_) (fun c28 => ?_)
      · have h := if_t ((i2_eq (x := y26) (y := 254) hr27 (by decide)).mp c28) h
        exact J37 () _ _ _ ⟨hP, hS, lv_sub hl [] rfl, h⟩
      · have h := if_f (mt (i2_eq (x := y26) (y := 254) hr27 (by decide)).mpr c28) h
        refine lv_iload_n hx hb eX12_path_26.2.2.2.1 rfl (lv_at hl 3 rfl) ?_
        obtain ⟨hr29, h⟩ := rg_e h
        refine lv_if_ge (tgt := 39) hx hb eX12_path_26.2.2.2.2.1 (by decide) (fun c30 => ?_) (fun c30 => ?_)
        · have h := if_t ((i2_le (x := 0) (y := p2) (by decide) hr29).mp c30) h
          refine lv_aload_n hx hb eX12_path_26.2.2.2.2.2.2.2 rfl (lv_at hl 0 rfl) ?_
          refine va_get (D := D) (ci := 12) (v := .ref (a 49)) (C := RX12) (T := TX12) (N := 116) hx hb ht inX12 hown hK hP 0 RW_0 rfl 49 (by decide) (ht (.fieldLink RX12 121 "CloneVolumesModel" "now" "[I") fl_X12_121) (fun _ h9 => h9) mF_49 eX12_path_40.1 ?_
          refine lv_iload_n hx hb eX12_path_40.2.1 rfl (lv_at hl 1 rfl) ?_
          obtain ⟨y31, ey31, iy31, h⟩ := rdI_e h
          refine ya_iald (i := p0) hx hb hK hP 36 0 RW_36 rfl (by decide) ey31 iy31 eX12_path_40.2.2.1 ?_
          refine lv_istore (lv' := [(4, .int (i2 y31)), (0, .ref (a 200)), (1, .int (i2 p0)), (2, .int (i2 p1)), (3, .int (i2 p2))]) hx hb eX12_path_40.2.2.2.1 hl (by decide) rfl (fun ls hl => ?_)
          refine lv_iconst (v := 0) hx hb eX12_path_40.2.2.2.2.1 (by decide) ?_
          refine lv_istore (lv' := [(5, .int 0), (4, .int (i2 y31)), (0, .ref (a 200)), (1, .int (i2 p0)), (2, .int (i2 p1)), (3, .int (i2 p2))]) hx hb eX12_path_40.2.2.2.2.2.1 hl (by decide) rfl (fun ls hl => ?_)
          exact J50 FU (p1, p2, y31, 0) _ _ _ ⟨hP, hS, lv_sub hl [2, 4, 5, 1, 0] rfl, h⟩
        · have h := if_f (mt (i2_le (x := 0) (y := p2) (by decide) hr29).mpr c30) h
          exact J37 () _ _ _ ⟨hP, hS, lv_sub hl [] rfl, h⟩
set_option maxHeartbeats 4000000 in
set_option maxRecDepth 100000 in
theorem k_x12_shared (l : Launch) (D : va_G) (a : Nat → Nat) (p0 : Int) (p1 : Int) (sz : Nat) (s : MS) (o : (Int × MS)) (h : m_x12_shared p0 p1 s = some o) : yWi l yX12_shared cX12_shared 5 (some .int) { frames := 3, cells := 0, slots := 0, locals := 180 } D sz [.ref (a 200), .int (i2 p0), .int (i2 p1)] (RW D a s) (RW D a o.2) (i2 o.1) := by
  refine Met.ofW (cc := cX12_shared) (maxL := 5) (ret := (some .int)) (by decide) rfl ?_
  intro p e s₀ m args below meth c s₁ B hml hv
  obtain ⟨rfl, ⟨hsz, hP, hK, hD0⟩, hN⟩ := hv
  have hx := B.exec
  have hb := B.bytes
  have hr := B.returns
  have hts := atoms_spec (ws := wz yX12_shared cX12_shared 5 (some .int)) B.pre
  have ht : ∀ w ∈ lw_gd, w.before _ s₀ = true := fun w h => hts w (List.mem_cons_of_mem _ h)
  have hown : s₀.vm.findClass RX12 = some m.cls := findClass_of_methodNamed B.named
  have hlocks := B.notSynchronized
  subst hsz
  have hD := hD0.self (sz := s₀.heap.size)
  generalize hAe : va_A (RW D a s) s₀.heap.size = A at hD ⊢
  have hA : ∀ q : Nat, s₀.heap.size ≤ q → A q := fun q h => by rw [← hAe]; exact Or.inr h
  have hS : va_S A s₀.heap s₀.heap [] := va_S.rf
  have hDD : ∀ t : MS, va_D A (RW D a t) := fun t => RW_D t hD
  have hl := lv_entry ([.ref (a 200), .int (i2 p0), .int (i2 p1)]) (n := 5) (Nat.le_of_ble_eq_true rfl)
  rw [lg_entry_eq]
  generalize (lg_sl ([.ref (a 200), .int (i2 p0), .int (i2 p1)]) ++ List.replicate (5 - (lg_sl ([.ref (a 200), .int (i2 p0), .int (i2 p1)])).length) Slot.unset).toArray = ls at hl ⊢
  have hl : lv_has ls 5 [(0, .ref (a 200)), (1, .int (i2 p0)), (2, .int (i2 p1))] := hl
  unfold m_x12_shared at h
  refine y_loop (pcJ := 71) (σ := Int × Int × MS) (fun n u H locs ls => va_P D vwCl (RW D a u.2.2) H ∧ va_S A s₀.heap H locs ∧ lv_has ls 5 [(0, .ref (a 200)), (3, .int (i2 u.1)), (4, .int (i2 u.2.1))] ∧ m_x12_shared_L71 n u.1 u.2.1 u.2.2 = some o) (fun u => []) (fun u H locs ls hI => by obtain ⟨_, _, _, h⟩ := hI; cases h) (fun n71 ih71 u H locs ls hI => ?_) (fun J71 => ?_)
  · obtain ⟨hP, hS, hl, h⟩ := hI
    obtain ⟨x1, x2, s3⟩ := u
    have hP : va_P D vwCl (RW D a s3) H := hP
    have hl : lv_has ls 5 [(0, .ref (a 200)), (3, .int (i2 x1)), (4, .int (i2 x2))] := hl
    have h : m_x12_shared_b71 (m_x12_shared_L71 n71) x1 x2 s3 = some o := h
    unfold m_x12_shared_b71 at h
    refine y_head (pcJ := 101) (σ := Int × Int × MS) (fun u H locs ls => va_P D vwCl (RW D a u.2.2) H ∧ va_S A s₀.heap H locs ∧ lv_has ls 5 [(0, .ref (a 200)), (3, .int (i2 u.1)), (4, .int (i2 u.2.1))] ∧ m_x12_shared_J101 (m_x12_shared_L71 n71) u.1 u.2.1 u.2.2 = some o) (fun u => []) (fun u H locs ls hI => ?_) (fun J101 => ?_)
    · obtain ⟨hP, hS, hl, h⟩ := hI
      obtain ⟨x4, x5, s6⟩ := u
      have hP : va_P D vwCl (RW D a s6) H := hP
      have hl : lv_has ls 5 [(0, .ref (a 200)), (3, .int (i2 x4)), (4, .int (i2 x5))] := hl
      have h : m_x12_shared_J101 (m_x12_shared_L71 n71) x4 x5 s6 = some o := h
      unfold m_x12_shared_J101 at h
      refine lv_iinc (v := i2 (x5 + 1)) (lv' := [(4, .int (i2 (x5 + 1))), (0, .ref (a 200)), (3, .int (i2 x4))]) hx hb eX12_shared_101.1 hl (k := 2) rfl (i2_add x5 1) (by decide) rfl (fun ls hl => ?_)
      refine lv_goto (tgt := 71) hx hb eX12_shared_101.2.1 (by decide) ?_
      exact ih71 (x4, x5 + 1, s6) _ _ _ ⟨hP, hS, lv_sub hl [1, 2, 0] rfl, h⟩
    refine lv_iload hx hb eX12_shared_68.2.2.1 (lv_at hl 2 rfl) ?_
    refine lv_bipush (v := 48) hx hb eX12_shared_68.2.2.2.1 (by decide) ?_
    obtain ⟨hr7, h⟩ := rg_e h
    refine lv_icmp_ge (tgt := 107) hx hb eX12_shared_68.2.2.2.2.1 (by decide) (fun c8 => ?_) (fun c8 => ?_)
    · have h := if_t ((i2_le (x := 48) (y := x2) (by decide) hr7).mp c8) h
      refine lv_iload_n hx hb eX12_shared_101.2.2.1 rfl (lv_at hl 1 rfl) ?_
      obtain rfl := Option.some.inj h
      exact W.iret (v := (i2 x1)) hx hb hr (fun t ht hW => ⟨⟨_, (), rfl, rfl, by rw [ht]; exact hP, va_K.moved hW.alike hK, hDD _⟩, hS.F ht⟩) hS.2.2 eX12_shared_101.2.2.2.1
    · have h := if_f (mt (i2_le (x := 48) (y := x2) (by decide) hr7).mpr c8) h
      refine lv_aload_n hx hb eX12_shared_68.2.2.2.2.2.1 rfl (lv_at hl 0 rfl) ?_
      refine va_get (D := D) (ci := 12) (v := .ref (a 69)) (C := RX12) (T := TX12) (N := 116) hx hb ht inX12 hown hK hP 0 RW_0 rfl 69 (by decide) (ht (.fieldLink RX12 161 "CloneVolumesModel" "wasInTree" "[Z") fl_X12_161) (fun _ h9 => h9) mF_69 eX12_shared_68.2.2.2.2.2.2.1 ?_
      refine lv_iload hx hb eX12_shared_68.2.2.2.2.2.2.2 (lv_at hl 2 rfl) ?_
      obtain ⟨y9, ey9, iy9, h⟩ := rdI_e h
      refine ya_zald (i := x2) hx hb hK hP 49 3 RW_49 rfl (by decide) ey9 iy9 eX12_shared_84.1 ?_
      obtain ⟨hr10, h⟩ := rg_e h
      refine lv_if_eq (tgt := 101) hx hb eX12_shared_84.2.1 (by decide) (fun c11 => ?_) (fun c11 => ?_)
      · have h := if_t ((i2_eq (x := y9) (y := 0) hr10 (by decide)).mp c11) h
        exact J101 (x1, x2, s3) _ _ _ ⟨hP, hS, lv_sub hl [0, 1, 2] rfl, h⟩
      · have h := if_f (mt (i2_eq (x := y9) (y := 0) hr10 (by decide)).mpr c11) h
        refine lv_aload_n hx hb eX12_shared_84.2.2.1 rfl (lv_at hl 0 rfl) ?_
        refine va_get (D := D) (ci := 12) (v := .ref (a 63)) (C := RX12) (T := TX12) (N := 116) hx hb ht inX12 hown hK hP 0 RW_0 rfl 63 (by decide) (ht (.fieldLink RX12 149 "CloneVolumesModel" "isInTree" "[Z") fl_X12_149) (fun _ h9 => h9) mF_63 eX12_shared_84.2.2.2.1 ?_
        refine lv_iload hx hb eX12_shared_84.2.2.2.2.1 (lv_at hl 2 rfl) ?_
        obtain ⟨y12, ey12, iy12, h⟩ := rdI_e h
        refine ya_zald (i := x2) hx hb hK hP 45 3 RW_45 rfl (by decide) ey12 iy12 eX12_shared_84.2.2.2.2.2.1 ?_
        obtain ⟨hr13, h⟩ := rg_e h
        refine lv_if_eq (tgt := 101) hx hb eX12_shared_84.2.2.2.2.2.2.1 (by decide) (fun c14 => ?_) (fun c14 => ?_)
        · have h := if_t ((i2_eq (x := y12) (y := 0) hr13 (by decide)).mp c14) h
          exact J101 (x1, x2, s3) _ _ _ ⟨hP, hS, lv_sub hl [0, 1, 2] rfl, h⟩
        · have h := if_f (mt (i2_eq (x := y12) (y := 0) hr13 (by decide)).mpr c14) h
          refine lv_iinc (v := i2 (x1 + 1)) (lv' := [(3, .int (i2 (x1 + 1))), (0, .ref (a 200)), (4, .int (i2 x2))]) hx hb eX12_shared_84.2.2.2.2.2.2.2 hl (k := 1) rfl (i2_add x1 1) (by decide) rfl (fun ls hl => ?_)
          exact J101 (x1 + 1, x2, s3) _ _ _ ⟨hP, hS, lv_sub hl [1, 0, 2] rfl, h⟩
  refine y_loop (pcJ := 32) (σ := Int × Int × MS) (fun n u H locs ls => va_P D vwCl (RW D a u.2.2) H ∧ va_S A s₀.heap H locs ∧ lv_has ls 5 [(0, .ref (a 200)), (2, .int (i2 u.1)), (3, .int (i2 u.2.1))] ∧ m_x12_shared_L32 n u.1 u.2.1 u.2.2 = some o) (fun u => []) (fun u H locs ls hI => by obtain ⟨_, _, _, h⟩ := hI; cases h) (fun n32 ih32 u H locs ls hI => ?_) (fun J32 => ?_)
  · obtain ⟨hP, hS, hl, h⟩ := hI
    obtain ⟨x15, x16, s17⟩ := u
    have hP : va_P D vwCl (RW D a s17) H := hP
    have hl : lv_has ls 5 [(0, .ref (a 200)), (2, .int (i2 x15)), (3, .int (i2 x16))] := hl
    have h : m_x12_shared_b32 (m_x12_shared_L32 n32) x15 x16 s17 = some o := h
    unfold m_x12_shared_b32 at h
    refine lv_iload_n hx hb eX12_shared_27.2.2.2.1 rfl (lv_at hl 2 rfl) ?_
    refine lv_bipush (v := 48) hx hb eX12_shared_27.2.2.2.2.1 (by decide) ?_
    obtain ⟨hr18, h⟩ := rg_e h
    refine lv_icmp_ge (tgt := 56) hx hb eX12_shared_27.2.2.2.2.2.1 (by decide) (fun c19 => ?_) (fun c19 => ?_)
    · have h := if_t ((i2_le (x := 48) (y := x16) (by decide) hr18).mp c19) h
      refine lv_aload_n hx hb eX12_shared_56.1 rfl (lv_at hl 0 rfl) ?_
      refine lv_aload_n hx hb eX12_shared_56.2.1 rfl (lv_at hl 0 rfl) ?_
      refine va_get (D := D) (ci := 12) (v := .ref (a 49)) (C := RX12) (T := TX12) (N := 116) hx hb ht inX12 hown hK hP 0 RW_0 rfl 49 (by decide) (ht (.fieldLink RX12 121 "CloneVolumesModel" "now" "[I") fl_X12_121) (fun _ h9 => h9) mF_49 eX12_shared_56.2.2.1 ?_
      refine lv_iload_n hx hb eX12_shared_56.2.2.2.1 rfl (lv_at hl 1 rfl) ?_
      obtain ⟨y20, ey20, iy20, h⟩ := rdI_e h
      refine ya_iald (i := x15) hx hb hK hP 36 0 RW_36 rfl (by decide) ey20 iy20 eX12_shared_56.2.2.2.2.1 ?_
      obtain ⟨s22, hc21, h⟩ := bn_e h
      refine ywVv (As := [.int (i2 y20)]) (rest := []) (C := RX12) (n := 1) (ws' := RW D a s22) ⟨hx, hb, hml, hown, ht⟩ (k_x12_laysTree l D a y20 _ _ _ hc21) (zgV ml_X12_610 im_X12_laysTree se_X12_laysTree in_X12 co_X12_laysTree) rfl rfl (by decide +kernel) ⟨Nat.le_of_ble_eq_true rfl, Nat.le_of_ble_eq_true rfl⟩ hN hK hP (hDD _) hS hA 0 RW_0 rfl rfl rfl hl.1 rfl (Nat.le_of_ble_eq_true rfl) eX12_shared_56.2.2.2.2.2.1 ⟨Nat.le_of_ble_eq_true rfl, Nat.le_of_ble_eq_true rfl⟩ (fun H locs hP hS => ?_)
      refine lv_iconst (v := 0) hx hb eX12_shared_56.2.2.2.2.2.2.1 (by decide) ?_
      refine lv_istore_n (lv' := [(3, .int 0), (0, .ref (a 200)), (2, .int (i2 x15))]) hx hb eX12_shared_56.2.2.2.2.2.2.2 rfl hl (by decide) rfl (fun ls hl => ?_)
      refine lv_iconst (v := 0) hx hb eX12_shared_68.1 (by decide) ?_
      refine lv_istore (lv' := [(4, .int 0), (3, .int 0), (0, .ref (a 200)), (2, .int (i2 x15))]) hx hb eX12_shared_68.2.1 hl (by decide) rfl (fun ls hl => ?_)
      exact J71 FU (0, 0, s22) _ _ _ ⟨hP, hS, lv_sub hl [2, 1, 0] rfl, h⟩
    · have h := if_f (mt (i2_le (x := 48) (y := x16) (by decide) hr18).mpr c19) h
      refine lv_aload_n hx hb eX12_shared_27.2.2.2.2.2.2.1 rfl (lv_at hl 0 rfl) ?_
      refine va_get (D := D) (ci := 12) (v := .ref (a 69)) (C := RX12) (T := TX12) (N := 116) hx hb ht inX12 hown hK hP 0 RW_0 rfl 69 (by decide) (ht (.fieldLink RX12 161 "CloneVolumesModel" "wasInTree" "[Z") fl_X12_161) (fun _ h9 => h9) mF_69 eX12_shared_27.2.2.2.2.2.2.2 ?_
      refine lv_iload_n hx hb eX12_shared_42.1 rfl (lv_at hl 2 rfl) ?_
      refine lv_aload_n hx hb eX12_shared_42.2.1 rfl (lv_at hl 0 rfl) ?_
      refine va_get (D := D) (ci := 12) (v := .ref (a 63)) (C := RX12) (T := TX12) (N := 116) hx hb ht inX12 hown hK hP 0 RW_0 rfl 63 (by decide) (ht (.fieldLink RX12 149 "CloneVolumesModel" "isInTree" "[Z") fl_X12_149) (fun _ h9 => h9) mF_63 eX12_shared_42.2.2.1 ?_
      refine lv_iload_n hx hb eX12_shared_42.2.2.2.1 rfl (lv_at hl 2 rfl) ?_
      obtain ⟨y23, ey23, iy23, h⟩ := rdI_e h
      refine ya_zald (i := x16) hx hb hK hP 45 3 RW_45 rfl (by decide) ey23 iy23 eX12_shared_42.2.2.2.2.1 ?_
      obtain ⟨hi24, h⟩ := inb_e h
      obtain ⟨hb25, h⟩ := bo_e h
      refine ya_zast (i := x16) (x := y23) hx hb hK hP (hDD _) hS 49 3 RW_49 rfl (by decide) hi24 hb25 eX12_shared_42.2.2.2.2.2.1 (RW_w49 _) (fun H locs hP hS => ?_)
      obtain ⟨s26, hs26, h⟩ := st_e h
      rw [hs26] at hP
      refine lv_iinc (v := i2 (x16 + 1)) (lv' := [(3, .int (i2 (x16 + 1))), (0, .ref (a 200)), (2, .int (i2 x15))]) hx hb eX12_shared_42.2.2.2.2.2.2.1 hl (k := 2) rfl (i2_add x16 1) (by decide) rfl (fun ls hl => ?_)
      refine lv_goto (tgt := 32) hx hb eX12_shared_42.2.2.2.2.2.2.2 (by decide) ?_
      exact ih32 (x15, x16 + 1, s26) _ _ _ ⟨hP, hS, lv_sub hl [1, 2, 0] rfl, h⟩
  refine y_head (pcJ := 18) (σ := MS) (fun u H locs ls => va_P D vwCl (RW D a u) H ∧ va_S A s₀.heap H locs ∧ lv_has ls 5 [] ∧ m_x12_shared_J18 u = some o) (fun u => []) (fun u H locs ls hI => ?_) (fun J18 => ?_)
  · obtain ⟨hP, hS, hl, h⟩ := hI
    obtain ⟨s27, rfl⟩ : ∃ z, z = u := ⟨u, rfl⟩
    have hP : va_P D vwCl (RW D a s27) H := hP
    have hl : lv_has ls 5 [] := hl
    have h : m_x12_shared_J18 s27 = some o := h
    unfold m_x12_shared_J18 at h
    refine lv_iconst (v := (-1)) hx hb eX12_shared_15.2.1 (by decide) ?_
    obtain rfl := Option.some.inj h
    exact W.iret (v := (-1)) hx hb hr (fun t ht hW => ⟨⟨_, (), rfl, rfl, by rw [ht]; exact hP, va_K.moved hW.alike hK, hDD _⟩, hS.F ht⟩) hS.2.2 eX12_shared_15.2.2.1
  refine lv_aload_n hx hb eX12_read_9.2.2.2.2.2.2.2 rfl (lv_at hl 0 rfl) ?_
  refine lv_iload_n hx hb eX12_shared_1.1 rfl (lv_at hl 1 rfl) ?_
  obtain ⟨hr28, h⟩ := rg_e h
  refine lv_i2l (v := i8 p0) hx hb eX12_shared_1.2.1 (i2_l hr28) ?_
  obtain ⟨r30, hc29, h⟩ := bn_e h
  refine ycV (r0 := i2 r30) (As := [.long (i8 p0)]) (rest := []) (C := RX12) (n := 1) ⟨hx, hb, hml, hown, ht⟩ (k_x12_isVolume l D a p0 _ _ hc29) (zgV ml_X12_571 im_X12_isVolume se_X12_isVolume in_X12 co_X12_isVolume) rfl rfl (by decide +kernel) ⟨Nat.le_of_ble_eq_true rfl, Nat.le_of_ble_eq_true rfl⟩ hN hK hP hS 0 RW_0 rfl rfl rfl hl.1 rfl (Nat.le_of_ble_eq_true rfl) eX12_shared_1.2.2.1 ⟨Nat.le_of_ble_eq_true rfl, Nat.le_of_ble_eq_true rfl⟩ (fun H locs hP hS => ?_)
  obtain ⟨hr31, h⟩ := rg_e h
  refine lv_if_eq (tgt := 18) hx hb eX12_shared_1.2.2.2.1 (by decide) (fun c32 => ?_) (fun c32 => ?_)
  · have h := if_t ((i2_eq (x := r30) (y := 0) hr31 (by decide)).mp c32) h
    exact J18 s _ _ _ ⟨hP, hS, lv_sub hl [] rfl, h⟩
  · have h := if_f (mt (i2_eq (x := r30) (y := 0) hr31 (by decide)).mpr c32) h
    refine lv_aload_n hx hb eX12_shared_1.2.2.2.2.1 rfl (lv_at hl 0 rfl) ?_
    refine lv_iload_n hx hb eX12_shared_1.2.2.2.2.2.1 rfl (lv_at hl 2 rfl) ?_
    obtain ⟨hr33, h⟩ := rg_e h
    refine lv_i2l (v := i8 p1) hx hb eX12_shared_1.2.2.2.2.2.2.1 (i2_l hr33) ?_
    obtain ⟨r35, hc34, h⟩ := bn_e h
    refine ycV (r0 := i2 r35) (As := [.long (i8 p1)]) (rest := []) (C := RX12) (n := 1) ⟨hx, hb, hml, hown, ht⟩ (k_x12_isVolume l D a p1 _ _ hc34) (zgV ml_X12_571 im_X12_isVolume se_X12_isVolume in_X12 co_X12_isVolume) rfl rfl (by decide +kernel) ⟨Nat.le_of_ble_eq_true rfl, Nat.le_of_ble_eq_true rfl⟩ hN hK hP hS 0 RW_0 rfl rfl rfl hl.1 rfl (Nat.le_of_ble_eq_true rfl) eX12_shared_1.2.2.2.2.2.2.2 ⟨Nat.le_of_ble_eq_true rfl, Nat.le_of_ble_eq_true rfl⟩ (fun H locs hP hS => ?_)
    obtain ⟨hr36, h⟩ := rg_e h
    refine lv_if_ne (tgt := 20) hx hb eX12_shared_15.1 (by decide) (fun c37 => ?_) (fun c37 => ?_)
    · have h := if_f (mt (i2_eq (x := r35) (y := 0) hr36 (by decide)).mpr c37) h
      refine lv_aload_n hx hb eX12_shared_15.2.2.2.1 rfl (lv_at hl 0 rfl) ?_
      refine lv_aload_n hx hb eX12_shared_15.2.2.2.2.1 rfl (lv_at hl 0 rfl) ?_
      refine va_get (D := D) (ci := 12) (v := .ref (a 49)) (C := RX12) (T := TX12) (N := 116) hx hb ht inX12 hown hK hP 0 RW_0 rfl 49 (by decide) (ht (.fieldLink RX12 121 "CloneVolumesModel" "now" "[I") fl_X12_121) (fun _ h9 => h9) mF_49 eX12_shared_15.2.2.2.2.2.1 ?_
      refine lv_iload_n hx hb eX12_shared_15.2.2.2.2.2.2.1 rfl (lv_at hl 1 rfl) ?_
      obtain ⟨y38, ey38, iy38, h⟩ := rdI_e h
      refine ya_iald (i := p0) hx hb hK hP 36 0 RW_36 rfl (by decide) ey38 iy38 eX12_shared_15.2.2.2.2.2.2.2 ?_
      obtain ⟨s40, hc39, h⟩ := bn_e h
      refine ywVv (As := [.int (i2 y38)]) (rest := []) (C := RX12) (n := 1) (ws' := RW D a s40) ⟨hx, hb, hml, hown, ht⟩ (k_x12_laysTree l D a y38 _ _ _ hc39) (zgV ml_X12_610 im_X12_laysTree se_X12_laysTree in_X12 co_X12_laysTree) rfl rfl (by decide +kernel) ⟨Nat.le_of_ble_eq_true rfl, Nat.le_of_ble_eq_true rfl⟩ hN hK hP (hDD _) hS hA 0 RW_0 rfl rfl rfl hl.1 rfl (Nat.le_of_ble_eq_true rfl) eX12_shared_27.1 ⟨Nat.le_of_ble_eq_true rfl, Nat.le_of_ble_eq_true rfl⟩ (fun H locs hP hS => ?_)
      refine lv_iconst (v := 0) hx hb eX12_shared_27.2.1 (by decide) ?_
      refine lv_istore_n (lv' := [(3, .int 0), (0, .ref (a 200)), (1, .int (i2 p0)), (2, .int (i2 p1))]) hx hb eX12_shared_27.2.2.1 rfl hl (by decide) rfl (fun ls hl => ?_)
      exact J32 FU (p1, 0, s40) _ _ _ ⟨hP, hS, lv_sub hl [1, 3, 0] rfl, h⟩
    · have h := if_t ((i2_eq (x := r35) (y := 0) hr36 (by decide)).mp c37) h
      exact J18 s _ _ _ ⟨hP, hS, lv_sub hl [] rfl, h⟩
set_option maxHeartbeats 4000000 in
set_option maxRecDepth 100000 in
theorem k_x12_unlike (l : Launch) (D : va_G) (a : Nat → Nat) (p0 : Int) (p1 : Int) (p2 : Int) (s : MS) (o : Int) (h : m_x12_unlike p0 p1 p2 s = some o) : yRi l yX12_unlike cX12_unlike 6 (some .int) { frames := 3, cells := 0, slots := 0, locals := 180 } D [.ref (a 200), .int (i2 p0), .int (i2 p1), .int (i2 p2)] (RW D a s) (i2 o) := by
  refine Met.ofW (cc := cX12_unlike) (maxL := 6) (ret := (some .int)) (by decide) rfl ?_
  intro p e s₀ m args below meth c s₁ B hml hv
  obtain ⟨rfl, ⟨hP, hK⟩, hN⟩ := hv
  have hx := B.exec
  have hb := B.bytes
  have hr := B.returns
  have hts := atoms_spec (ws := wz yX12_unlike cX12_unlike 6 (some .int)) B.pre
  have ht : ∀ w ∈ lw_gd, w.before _ s₀ = true := fun w h => hts w (List.mem_cons_of_mem _ h)
  have hown : s₀.vm.findClass RX12 = some m.cls := findClass_of_methodNamed B.named
  have hlocks := B.notSynchronized
  have hS : va_S (fun _ => False) s₀.heap s₀.heap [] := va_S.rf
  have hl := lv_entry ([.ref (a 200), .int (i2 p0), .int (i2 p1), .int (i2 p2)]) (n := 6) (Nat.le_of_ble_eq_true rfl)
  rw [lg_entry_eq]
  generalize (lg_sl ([.ref (a 200), .int (i2 p0), .int (i2 p1), .int (i2 p2)]) ++ List.replicate (6 - (lg_sl ([.ref (a 200), .int (i2 p0), .int (i2 p1), .int (i2 p2)])).length) Slot.unset).toArray = ls at hl ⊢
  have hl : lv_has ls 6 [(0, .ref (a 200)), (1, .int (i2 p0)), (2, .int (i2 p1)), (3, .int (i2 p2))] := hl
  unfold m_x12_unlike at h
  refine y_head (pcJ := 63) (σ := Int) (fun u H locs ls => va_P D vwCl (RW D a s) H ∧ va_S (fun _ => False) s₀.heap H locs ∧ lv_has ls 6 [] ∧ m_x12_unlike_J63 s u = some o) (fun u => [.int (i2 u)]) (fun u H locs ls hI => ?_) (fun J63 => ?_)
  · obtain ⟨hP, hS, hl, h⟩ := hI
    obtain ⟨x1, rfl⟩ : ∃ z, z = u := ⟨u, rfl⟩
    have hP : va_P D vwCl (RW D a s) H := hP
    have hl : lv_has ls 6 [] := hl
    have h : m_x12_unlike_J63 s x1 = some o := h
    unfold m_x12_unlike_J63 at h
    obtain rfl := Option.some.inj h
    exact W.iret (v := (i2 x1)) hx hb hr (fun t ht hW => ⟨⟨_, (), rfl, rfl, trivial⟩, hS.F ht⟩) hS.2.2 eX12_unlike_52.2.2.2.2.2.2.1
  refine y_loop (pcJ := 6) (σ := Int × Int × Int × Int × Int) (fun n u H locs ls => va_P D vwCl (RW D a s) H ∧ va_S (fun _ => False) s₀.heap H locs ∧ lv_has ls 6 [(0, .ref (a 200)), (1, .int (i2 u.1)), (2, .int (i2 u.2.1)), (3, .int (i2 u.2.2.1)), (4, .int (i2 u.2.2.2.1)), (5, .int (i2 u.2.2.2.2))] ∧ m_x12_unlike_L6 s n u.1 u.2.1 u.2.2.1 u.2.2.2.1 u.2.2.2.2 = some o) (fun u => []) (fun u H locs ls hI => by obtain ⟨_, _, _, h⟩ := hI; cases h) (fun n6 ih6 u H locs ls hI => ?_) (fun J6 => ?_)
  · obtain ⟨hP, hS, hl, h⟩ := hI
    obtain ⟨x2, x3, x4, x5, x6⟩ := u
    have hP : va_P D vwCl (RW D a s) H := hP
    have hl : lv_has ls 6 [(0, .ref (a 200)), (1, .int (i2 x2)), (2, .int (i2 x3)), (3, .int (i2 x4)), (4, .int (i2 x5)), (5, .int (i2 x6))] := hl
    have h : m_x12_unlike_b6 s (m_x12_unlike_L6 s n6) x2 x3 x4 x5 x6 = some o := h
    unfold m_x12_unlike_b6 at h
    refine y_head (pcJ := 46) (σ := Int × Int × Int × Int × Int) (fun u H locs ls => va_P D vwCl (RW D a s) H ∧ va_S (fun _ => False) s₀.heap H locs ∧ lv_has ls 6 [(0, .ref (a 200)), (1, .int (i2 u.1)), (2, .int (i2 u.2.1)), (3, .int (i2 u.2.2.1)), (4, .int (i2 u.2.2.2.1)), (5, .int (i2 u.2.2.2.2))] ∧ m_x12_unlike_J46 s (m_x12_unlike_L6 s n6) u.1 u.2.1 u.2.2.1 u.2.2.2.1 u.2.2.2.2 = some o) (fun u => []) (fun u H locs ls hI => ?_) (fun J46 => ?_)
    · obtain ⟨hP, hS, hl, h⟩ := hI
      obtain ⟨x7, x8, x9, x10, x11⟩ := u
      have hP : va_P D vwCl (RW D a s) H := hP
      have hl : lv_has ls 6 [(0, .ref (a 200)), (1, .int (i2 x7)), (2, .int (i2 x8)), (3, .int (i2 x9)), (4, .int (i2 x10)), (5, .int (i2 x11))] := hl
      have h : m_x12_unlike_J46 s (m_x12_unlike_L6 s n6) x7 x8 x9 x10 x11 = some o := h
      unfold m_x12_unlike_J46 at h
      refine lv_iinc (v := i2 (x11 + 1)) (lv' := [(5, .int (i2 (x11 + 1))), (0, .ref (a 200)), (1, .int (i2 x7)), (2, .int (i2 x8)), (3, .int (i2 x9)), (4, .int (i2 x10))]) hx hb eX12_unlike_34.2.2.2.2.2.2.1 hl (k := 5) rfl (i2_add x11 1) (by decide) rfl (fun ls hl => ?_)
      refine lv_goto (tgt := 6) hx hb eX12_unlike_34.2.2.2.2.2.2.2 (by decide) ?_
      exact ih6 (x7, x8, x9, x10, x11 + 1) _ _ _ ⟨hP, hS, lv_sub hl [1, 2, 3, 4, 5, 0] rfl, h⟩
    refine lv_iload hx hb eX12_unlike_1.2.2.2.1 (lv_at hl 5 rfl) ?_
    refine lv_sipush (v := 999) hx hb eX12_unlike_1.2.2.2.2.1 (by decide) ?_
    obtain ⟨hr12, h⟩ := rg_e h
    refine lv_icmp_gt (tgt := 52) hx hb eX12_unlike_1.2.2.2.2.2.1 (by decide) (fun c13 => ?_) (fun c13 => ?_)
    · have h := if_t ((i2_lt (x := 999) (y := x6) (by decide) hr12).mp c13) h
      refine lv_iload_n hx hb eX12_unlike_52.1 rfl (lv_at hl 3 rfl) ?_
      refine lv_iconst (v := (-1)) hx hb eX12_unlike_52.2.1 (by decide) ?_
      obtain ⟨hr14, h⟩ := rg_e h
      refine lv_icmp_ne (tgt := 62) hx hb eX12_unlike_52.2.2.1 (by decide) (fun c15 => ?_) (fun c15 => ?_)
      · rw [show ((-1) : Int32) = i2 (-1) from by decide] at c15
        have h := if_f (mt (i2_eq (x := x4) (y := (-1)) hr14 (by decide)).mpr c15) h
        refine lv_iconst (v := (-1)) hx hb eX12_unlike_52.2.2.2.2.2.1 (by decide) ?_
        exact J63 (-1) _ _ _ ⟨hP, hS, lv_sub hl [] rfl, h⟩
      · rw [show ((-1) : Int32) = i2 (-1) from by decide] at c15
        have h := if_t ((i2_eq (x := x4) (y := (-1)) hr14 (by decide)).mp c15) h
        refine lv_iload hx hb eX12_unlike_52.2.2.2.1 (lv_at hl 4 rfl) ?_
        refine lv_goto (tgt := 63) hx hb eX12_unlike_52.2.2.2.2.1 (by decide) ?_
        exact J63 x5 _ _ _ ⟨hP, hS, lv_sub hl [] rfl, h⟩
    · have h := if_f (mt (i2_lt (x := 999) (y := x6) (by decide) hr12).mpr c13) h
      refine lv_aload_n hx hb eX12_unlike_1.2.2.2.2.2.2.1 rfl (lv_at hl 0 rfl) ?_
      refine lv_iload_n hx hb eX12_unlike_1.2.2.2.2.2.2.2 rfl (lv_at hl 1 rfl) ?_
      refine lv_iload hx hb eX12_unlike_16.1 (lv_at hl 5 rfl) ?_
      obtain ⟨r17, hc16, h⟩ := bn_e h
      refine ycV (r0 := i2 r17) (As := [.int (i2 x2), .int (i2 x6)]) (rest := []) (C := RX12) (n := 2) ⟨hx, hb, hml, hown, ht⟩ (k_x12_valueFrom l D a x2 x6 _ _ hc16) (zgV ml_X12_621 im_X12_valueFrom se_X12_valueFrom in_X12 co_X12_valueFrom) rfl rfl (by decide +kernel) ⟨Nat.le_of_ble_eq_true rfl, Nat.le_of_ble_eq_true rfl⟩ hN hK hP hS 0 RW_0 rfl rfl rfl hl.1 rfl (Nat.le_of_ble_eq_true rfl) eX12_unlike_16.2.1 ⟨Nat.le_of_ble_eq_true rfl, Nat.le_of_ble_eq_true rfl⟩ (fun H locs hP hS => ?_)
      refine lv_aload_n hx hb eX12_unlike_16.2.2.1 rfl (lv_at hl 0 rfl) ?_
      refine lv_iload_n hx hb eX12_unlike_16.2.2.2.1 rfl (lv_at hl 2 rfl) ?_
      refine lv_iload hx hb eX12_unlike_16.2.2.2.2.1 (lv_at hl 5 rfl) ?_
      obtain ⟨r19, hc18, h⟩ := bn_e h
      refine ycV (r0 := i2 r19) (As := [.int (i2 x3), .int (i2 x6)]) (rest := [.int (i2 r17)]) (C := RX12) (n := 2) ⟨hx, hb, hml, hown, ht⟩ (k_x12_valueFrom l D a x3 x6 _ _ hc18) (zgV ml_X12_621 im_X12_valueFrom se_X12_valueFrom in_X12 co_X12_valueFrom) rfl rfl (by decide +kernel) ⟨Nat.le_of_ble_eq_true rfl, Nat.le_of_ble_eq_true rfl⟩ hN hK hP hS 0 RW_0 rfl rfl rfl hl.1 rfl (Nat.le_of_ble_eq_true rfl) eX12_unlike_16.2.2.2.2.2.1 ⟨Nat.le_of_ble_eq_true rfl, Nat.le_of_ble_eq_true rfl⟩ (fun H locs hP hS => ?_)
      obtain ⟨hr20, h⟩ := rg_e h
      obtain ⟨hr21, h⟩ := rg_e h
      refine lv_icmp_ne (tgt := 34) hx hb eX12_unlike_16.2.2.2.2.2.2.1 (by decide) (fun c22 => ?_) (fun c22 => ?_)
      · have h := if_f (mt (i2_eq (x := r17) (y := r19) hr20 hr21).mpr c22) h
        refine lv_iload hx hb eX12_unlike_34.1 (lv_at hl 4 rfl) ?_
        refine lv_iload_n hx hb eX12_unlike_34.2.1 rfl (lv_at hl 3 rfl) ?_
        obtain ⟨hr23, h⟩ := rg_e h
        obtain ⟨hr24, h⟩ := rg_e h
        refine lv_icmp_ne (tgt := 43) hx hb eX12_unlike_34.2.2.1 (by decide) (fun c25 => ?_) (fun c25 => ?_)
        · have h := if_f (mt (i2_eq (x := x5) (y := x4) hr23 hr24).mpr c25) h
          refine lv_iinc (v := i2 (x5 + 1)) (lv' := [(4, .int (i2 (x5 + 1))), (0, .ref (a 200)), (1, .int (i2 x2)), (2, .int (i2 x3)), (3, .int (i2 x4)), (5, .int (i2 x6))]) hx hb eX12_unlike_34.2.2.2.2.2.1 hl (k := 4) rfl (i2_add x5 1) (by decide) rfl (fun ls hl => ?_)
          exact J46 (x2, x3, x4, x5 + 1, x6) _ _ _ ⟨hP, hS, lv_sub hl [1, 2, 3, 4, 0, 5] rfl, h⟩
        · have h := if_t ((i2_eq (x := x5) (y := x4) hr23 hr24).mp c25) h
          refine lv_iload hx hb eX12_unlike_34.2.2.2.1 (lv_at hl 5 rfl) ?_
          obtain rfl := Option.some.inj h
          exact W.iret (v := (i2 x6)) hx hb hr (fun t ht hW => ⟨⟨_, (), rfl, rfl, trivial⟩, hS.F ht⟩) hS.2.2 eX12_unlike_34.2.2.2.2.1
      · have h := if_t ((i2_eq (x := r17) (y := r19) hr20 hr21).mp c22) h
        refine lv_goto (tgt := 46) hx hb eX12_unlike_16.2.2.2.2.2.2.2 (by decide) ?_
        exact J46 (x2, x3, x4, x5, x6) _ _ _ ⟨hP, hS, lv_sub hl [0, 1, 2, 3, 4, 5] rfl, h⟩
  refine lv_iconst (v := 0) hx hb eX12_total_62.2.2.2.2.2.2.2 (by decide) ?_
  refine lv_istore (lv' := [(4, .int 0), (0, .ref (a 200)), (1, .int (i2 p0)), (2, .int (i2 p1)), (3, .int (i2 p2))]) hx hb eX12_unlike_1.1 hl (by decide) rfl (fun ls hl => ?_)
  refine lv_iconst (v := 0) hx hb eX12_unlike_1.2.1 (by decide) ?_
  refine lv_istore (lv' := [(5, .int 0), (4, .int 0), (0, .ref (a 200)), (1, .int (i2 p0)), (2, .int (i2 p1)), (3, .int (i2 p2))]) hx hb eX12_unlike_1.2.2.1 hl (by decide) rfl (fun ls hl => ?_)
  exact J6 FU (p0, p1, p2, 0, 0) _ _ _ ⟨hP, hS, lv_sub hl [2, 3, 4, 5, 1, 0] rfl, h⟩
set_option maxHeartbeats 4000000 in
set_option maxRecDepth 100000 in
theorem k_x12_differs (l : Launch) (D : va_G) (a : Nat → Nat) (p0 : Int) (p1 : Int) (p2 : Int) (s : MS) (o : Int) (h : m_x12_differs p0 p1 p2 s = some o) : yRi l yX12_differs cX12_differs 4 (some .int) { frames := 4, cells := 0, slots := 0, locals := 240 } D [.ref (a 200), .int (i2 p0), .int (i2 p1), .int (i2 p2)] (RW D a s) (i2 o) := by
  refine Met.ofW (cc := cX12_differs) (maxL := 4) (ret := (some .int)) (by decide) rfl ?_
  intro p e s₀ m args below meth c s₁ B hml hv
  obtain ⟨rfl, ⟨hP, hK⟩, hN⟩ := hv
  have hx := B.exec
  have hb := B.bytes
  have hr := B.returns
  have hts := atoms_spec (ws := wz yX12_differs cX12_differs 4 (some .int)) B.pre
  have ht : ∀ w ∈ lw_gd, w.before _ s₀ = true := fun w h => hts w (List.mem_cons_of_mem _ h)
  have hown : s₀.vm.findClass RX12 = some m.cls := findClass_of_methodNamed B.named
  have hlocks := B.notSynchronized
  have hS : va_S (fun _ => False) s₀.heap s₀.heap [] := va_S.rf
  have hl := lv_entry ([.ref (a 200), .int (i2 p0), .int (i2 p1), .int (i2 p2)]) (n := 4) (Nat.le_of_ble_eq_true rfl)
  rw [lg_entry_eq]
  generalize (lg_sl ([.ref (a 200), .int (i2 p0), .int (i2 p1), .int (i2 p2)]) ++ List.replicate (4 - (lg_sl ([.ref (a 200), .int (i2 p0), .int (i2 p1), .int (i2 p2)])).length) Slot.unset).toArray = ls at hl ⊢
  have hl : lv_has ls 4 [(0, .ref (a 200)), (1, .int (i2 p0)), (2, .int (i2 p1)), (3, .int (i2 p2))] := hl
  unfold m_x12_differs at h
  refine y_head (pcJ := 44) (σ := Int) (fun u H locs ls => va_P D vwCl (RW D a s) H ∧ va_S (fun _ => False) s₀.heap H locs ∧ lv_has ls 4 [] ∧ m_x12_differs_J44 s u = some o) (fun u => [.int (i2 u)]) (fun u H locs ls hI => ?_) (fun J44 => ?_)
  · obtain ⟨hP, hS, hl, h⟩ := hI
    obtain ⟨x1, rfl⟩ : ∃ z, z = u := ⟨u, rfl⟩
    have hP : va_P D vwCl (RW D a s) H := hP
    have hl : lv_has ls 4 [] := hl
    have h : m_x12_differs_J44 s x1 = some o := h
    unfold m_x12_differs_J44 at h
    obtain rfl := Option.some.inj h
    exact W.iret (v := (i2 x1)) hx hb hr (fun t ht hW => ⟨⟨_, (), rfl, rfl, trivial⟩, hS.F ht⟩) hS.2.2 eX12_differs_43.2.1
  refine y_head (pcJ := 43) (σ := Unit) (fun u H locs ls => va_P D vwCl (RW D a s) H ∧ va_S (fun _ => False) s₀.heap H locs ∧ lv_has ls 4 [] ∧ m_x12_differs_J43 s u = some o) (fun u => []) (fun u H locs ls hI => ?_) (fun J43 => ?_)
  · obtain ⟨hP, hS, hl, h⟩ := hI
    skip
    have hP : va_P D vwCl (RW D a s) H := hP
    have hl : lv_has ls 4 [] := hl
    have h : m_x12_differs_J43 s () = some o := h
    unfold m_x12_differs_J43 at h
    refine lv_iconst (v := (-1)) hx hb eX12_differs_43.1 (by decide) ?_
    exact J44 (-1) _ _ _ ⟨hP, hS, lv_sub hl [] rfl, h⟩
  refine lv_aload_n hx hb eX12_block_119.2.2.2.2.2.2.2 rfl (lv_at hl 0 rfl) ?_
  refine lv_iload_n hx hb eX12_differs_1.1 rfl (lv_at hl 1 rfl) ?_
  obtain ⟨hr2, h⟩ := rg_e h
  refine lv_i2l (v := i8 p0) hx hb eX12_differs_1.2.1 (i2_l hr2) ?_
  obtain ⟨r4, hc3, h⟩ := bn_e h
  refine ycV (r0 := i2 r4) (As := [.long (i8 p0)]) (rest := []) (C := RX12) (n := 1) ⟨hx, hb, hml, hown, ht⟩ (k_x12_isVolume l D a p0 _ _ hc3) (zgV ml_X12_571 im_X12_isVolume se_X12_isVolume in_X12 co_X12_isVolume) rfl rfl (by decide +kernel) ⟨Nat.le_of_ble_eq_true rfl, Nat.le_of_ble_eq_true rfl⟩ hN hK hP hS 0 RW_0 rfl rfl rfl hl.1 rfl (Nat.le_of_ble_eq_true rfl) eX12_differs_1.2.2.1 ⟨Nat.le_of_ble_eq_true rfl, Nat.le_of_ble_eq_true rfl⟩ (fun H locs hP hS => ?_)
  obtain ⟨hr5, h⟩ := rg_e h
  refine lv_if_eq (tgt := 43) hx hb eX12_differs_1.2.2.2.1 (by decide) (fun c6 => ?_) (fun c6 => ?_)
  · have h := if_t ((i2_eq (x := r4) (y := 0) hr5 (by decide)).mp c6) h
    exact J43 () _ _ _ ⟨hP, hS, lv_sub hl [] rfl, h⟩
  · have h := if_f (mt (i2_eq (x := r4) (y := 0) hr5 (by decide)).mpr c6) h
    refine lv_aload_n hx hb eX12_differs_1.2.2.2.2.1 rfl (lv_at hl 0 rfl) ?_
    refine lv_iload_n hx hb eX12_differs_1.2.2.2.2.2.1 rfl (lv_at hl 2 rfl) ?_
    obtain ⟨hr7, h⟩ := rg_e h
    refine lv_i2l (v := i8 p1) hx hb eX12_differs_1.2.2.2.2.2.2.1 (i2_l hr7) ?_
    obtain ⟨r9, hc8, h⟩ := bn_e h
    refine ycV (r0 := i2 r9) (As := [.long (i8 p1)]) (rest := []) (C := RX12) (n := 1) ⟨hx, hb, hml, hown, ht⟩ (k_x12_isVolume l D a p1 _ _ hc8) (zgV ml_X12_571 im_X12_isVolume se_X12_isVolume in_X12 co_X12_isVolume) rfl rfl (by decide +kernel) ⟨Nat.le_of_ble_eq_true rfl, Nat.le_of_ble_eq_true rfl⟩ hN hK hP hS 0 RW_0 rfl rfl rfl hl.1 rfl (Nat.le_of_ble_eq_true rfl) eX12_differs_1.2.2.2.2.2.2.2 ⟨Nat.le_of_ble_eq_true rfl, Nat.le_of_ble_eq_true rfl⟩ (fun H locs hP hS => ?_)
    obtain ⟨hr10, h⟩ := rg_e h
    refine lv_if_eq (tgt := 43) hx hb eX12_differs_15.1 (by decide) (fun c11 => ?_) (fun c11 => ?_)
    · have h := if_t ((i2_eq (x := r9) (y := 0) hr10 (by decide)).mp c11) h
      exact J43 () _ _ _ ⟨hP, hS, lv_sub hl [] rfl, h⟩
    · have h := if_f (mt (i2_eq (x := r9) (y := 0) hr10 (by decide)).mpr c11) h
      refine lv_iload_n hx hb eX12_differs_15.2.1 rfl (lv_at hl 3 rfl) ?_
      refine lv_iconst (v := (-1)) hx hb eX12_differs_15.2.2.1 (by decide) ?_
      obtain ⟨hr12, h⟩ := rg_e h
      refine lv_icmp_lt (tgt := 43) hx hb eX12_differs_15.2.2.2.1 (by decide) (fun c13 => ?_) (fun c13 => ?_)
      · rw [show ((-1) : Int32) = i2 (-1) from by decide] at c13
        have h := if_t ((i2_lt (x := p2) (y := (-1)) hr12 (by decide)).mp c13) h
        exact J43 () _ _ _ ⟨hP, hS, lv_sub hl [] rfl, h⟩
      · rw [show ((-1) : Int32) = i2 (-1) from by decide] at c13
        have h := if_f (mt (i2_lt (x := p2) (y := (-1)) hr12 (by decide)).mpr c13) h
        refine lv_aload_n hx hb eX12_differs_15.2.2.2.2.1 rfl (lv_at hl 0 rfl) ?_
        refine lv_aload_n hx hb eX12_differs_15.2.2.2.2.2.1 rfl (lv_at hl 0 rfl) ?_
        refine va_get (D := D) (ci := 12) (v := .ref (a 49)) (C := RX12) (T := TX12) (N := 116) hx hb ht inX12 hown hK hP 0 RW_0 rfl 49 (by decide) (ht (.fieldLink RX12 121 "CloneVolumesModel" "now" "[I") fl_X12_121) (fun _ h9 => h9) mF_49 eX12_differs_15.2.2.2.2.2.2.1 ?_
        refine lv_iload_n hx hb eX12_differs_15.2.2.2.2.2.2.2 rfl (lv_at hl 1 rfl) ?_
        obtain ⟨y14, ey14, iy14, h⟩ := rdI_e h
        refine ya_iald (i := p0) hx hb hK hP 36 0 RW_36 rfl (by decide) ey14 iy14 eX12_differs_29.1 ?_
        refine lv_aload_n hx hb eX12_differs_29.2.1 rfl (lv_at hl 0 rfl) ?_
        refine va_get (D := D) (ci := 12) (v := .ref (a 49)) (C := RX12) (T := TX12) (N := 116) hx hb ht inX12 hown hK hP 0 RW_0 rfl 49 (by decide) (ht (.fieldLink RX12 121 "CloneVolumesModel" "now" "[I") fl_X12_121) (fun _ h9 => h9) mF_49 eX12_differs_29.2.2.1 ?_
        refine lv_iload_n hx hb eX12_differs_29.2.2.2.1 rfl (lv_at hl 2 rfl) ?_
        obtain ⟨y15, ey15, iy15, h⟩ := rdI_e h
        refine ya_iald (i := p1) hx hb hK hP 36 0 RW_36 rfl (by decide) ey15 iy15 eX12_differs_29.2.2.2.2.1 ?_
        refine lv_iload_n hx hb eX12_differs_29.2.2.2.2.2.1 rfl (lv_at hl 3 rfl) ?_
        obtain ⟨r17, hc16, h⟩ := bn_e h
        refine ycV (r0 := i2 r17) (As := [.int (i2 y14), .int (i2 y15), .int (i2 p2)]) (rest := []) (C := RX12) (n := 3) ⟨hx, hb, hml, hown, ht⟩ (k_x12_unlike l D a y14 y15 p2 _ _ hc16) (zgV ml_X12_626 im_X12_unlike se_X12_unlike in_X12 co_X12_unlike) rfl rfl (by decide +kernel) ⟨Nat.le_of_ble_eq_true rfl, Nat.le_of_ble_eq_true rfl⟩ hN hK hP hS 0 RW_0 rfl rfl rfl hl.1 rfl (Nat.le_of_ble_eq_true rfl) eX12_differs_29.2.2.2.2.2.2.1 ⟨Nat.le_of_ble_eq_true rfl, Nat.le_of_ble_eq_true rfl⟩ (fun H locs hP hS => ?_)
        refine lv_goto (tgt := 44) hx hb eX12_differs_29.2.2.2.2.2.2.2 (by decide) ?_
        exact J44 r17 _ _ _ ⟨hP, hS, lv_sub hl [] rfl, h⟩
set_option maxHeartbeats 4000000 in
set_option maxRecDepth 100000 in
theorem k_x12_laysWrites (l : Launch) (D : va_G) (a : Nat → Nat) (p0 : Int) (p1 : Int) (sz : Nat) (s : MS) (o : MS) (h : m_x12_laysWrites p0 p1 s = some o) : yWv l yX12_laysWrites cX12_laysWrites 4 none { frames := 10, cells := 0, slots := 0, locals := 600 } D sz [.ref (a 200), .int (i2 p0), .int (i2 p1)] (RW D a s) (RW D a o) := by
  refine Met.ofW (cc := cX12_laysWrites) (maxL := 4) (ret := none) (by decide) rfl ?_
  intro p e s₀ m args below meth c s₁ B hml hv
  obtain ⟨rfl, ⟨hsz, hP, hK, hD0⟩, hN⟩ := hv
  have hx := B.exec
  have hb := B.bytes
  have hr := B.returns
  have hts := atoms_spec (ws := wz yX12_laysWrites cX12_laysWrites 4 none) B.pre
  have ht : ∀ w ∈ lw_gd, w.before _ s₀ = true := fun w h => hts w (List.mem_cons_of_mem _ h)
  have hown : s₀.vm.findClass RX12 = some m.cls := findClass_of_methodNamed B.named
  have hlocks := B.notSynchronized
  subst hsz
  have hD := hD0.self (sz := s₀.heap.size)
  generalize hAe : va_A (RW D a s) s₀.heap.size = A at hD ⊢
  have hA : ∀ q : Nat, s₀.heap.size ≤ q → A q := fun q h => by rw [← hAe]; exact Or.inr h
  have hS : va_S A s₀.heap s₀.heap [] := va_S.rf
  have hDD : ∀ t : MS, va_D A (RW D a t) := fun t => RW_D t hD
  have hl := lv_entry ([.ref (a 200), .int (i2 p0), .int (i2 p1)]) (n := 4) (Nat.le_of_ble_eq_true rfl)
  rw [lg_entry_eq]
  generalize (lg_sl ([.ref (a 200), .int (i2 p0), .int (i2 p1)]) ++ List.replicate (4 - (lg_sl ([.ref (a 200), .int (i2 p0), .int (i2 p1)])).length) Slot.unset).toArray = ls at hl ⊢
  have hl : lv_has ls 4 [(0, .ref (a 200)), (1, .int (i2 p0)), (2, .int (i2 p1))] := hl
  unfold m_x12_laysWrites at h
  refine y_head (pcJ := 56) (σ := MS) (fun u H locs ls => va_P D vwCl (RW D a u) H ∧ va_S A s₀.heap H locs ∧ lv_has ls 4 [(0, .ref (a 200))] ∧ m_x12_laysWrites_J56 u = some o) (fun u => []) (fun u H locs ls hI => ?_) (fun J56 => ?_)
  · obtain ⟨hP, hS, hl, h⟩ := hI
    obtain ⟨s1, rfl⟩ : ∃ z, z = u := ⟨u, rfl⟩
    have hP : va_P D vwCl (RW D a s1) H := hP
    have hl : lv_has ls 4 [(0, .ref (a 200))] := hl
    have h : m_x12_laysWrites_J56 s1 = some o := h
    unfold m_x12_laysWrites_J56 at h
    refine lv_aload_n hx hb eX12_laysWrites_41.2.2.2.2.2.2.2 rfl (lv_at hl 0 rfl) ?_
    obtain ⟨s3, hc2, h⟩ := bn_e h
    refine ywVv (As := []) (rest := []) (C := RX12) (n := 0) (ws' := RW D a s3) ⟨hx, hb, hml, hown, ht⟩ (k_x12_takesBack l D a _ _ _ hc2) (zgV ml_X12_607 im_X12_takesBack se_X12_takesBack in_X12 co_X12_takesBack) rfl rfl (by decide +kernel) ⟨Nat.le_of_ble_eq_true rfl, Nat.le_of_ble_eq_true rfl⟩ hN hK hP (hDD _) hS hA 0 RW_0 rfl rfl rfl hl.1 rfl (Nat.le_of_ble_eq_true rfl) eX12_laysWrites_57.1 ⟨Nat.le_of_ble_eq_true rfl, Nat.le_of_ble_eq_true rfl⟩ (fun H locs hP hS => ?_)
    obtain rfl := Option.some.inj h
    exact W.vret hx hb hr (fun t ht hW => ⟨⟨(), rfl, trivial, by rw [ht]; exact hP, va_K.moved hW.alike hK, hDD _⟩, hS.F ht⟩) hS.2.2 eX12_laysWrites_57.2.1
  refine y_head (pcJ := 34) (σ := Int × Int × Int × Int × MS) (fun u H locs ls => va_P D vwCl (RW D a u.2.2.2.2) H ∧ va_S A s₀.heap H locs ∧ lv_has ls 4 [(0, .ref (a 200))] ∧ m_x12_laysWrites_J34 u.1 u.2.1 u.2.2.1 u.2.2.2.1 u.2.2.2.2 = some o) (fun u => [.int (i2 u.1), .int (i2 u.2.1), .int (i2 u.2.2.1), .int (i2 u.2.2.2.1), .ref (a 200)]) (fun u H locs ls hI => ?_) (fun J34 => ?_)
  · obtain ⟨hP, hS, hl, h⟩ := hI
    obtain ⟨x4, x5, x6, x7, s8⟩ := u
    have hP : va_P D vwCl (RW D a s8) H := hP
    have hl : lv_has ls 4 [(0, .ref (a 200))] := hl
    have h : m_x12_laysWrites_J34 x4 x5 x6 x7 s8 = some o := h
    unfold m_x12_laysWrites_J34 at h
    obtain ⟨⟨r11, s10⟩, hc9, h⟩ := bn_e h
    refine ywV (r0 := i2 r11) (As := [.int (i2 x7), .int (i2 x6), .int (i2 x5), .int (i2 x4)]) (rest := []) (C := RX12) (n := 4) (ws' := RW D a s10) ⟨hx, hb, hml, hown, ht⟩ (k_x12_tries l D a x7 x6 x5 x4 _ _ _ hc9) (zgV ml_X12_425 im_X12_tries se_X12_tries in_X12 co_X12_tries) rfl rfl (by decide +kernel) ⟨Nat.le_of_ble_eq_true rfl, Nat.le_of_ble_eq_true rfl⟩ hN hK hP (hDD _) hS hA 0 RW_0 rfl rfl rfl hl.1 rfl (Nat.le_of_ble_eq_true rfl) eX12_laysWrites_25.2.2.2.2.2.1 ⟨Nat.le_of_ble_eq_true rfl, Nat.le_of_ble_eq_true rfl⟩ (fun H locs hP hS => ?_)
    obtain ⟨hr12, h⟩ := rg_e h
    refine lv_if_eq (tgt := 56) hx hb eX12_laysWrites_25.2.2.2.2.2.2.1 (by decide) (fun c13 => ?_) (fun c13 => ?_)
    · have h := if_t ((i2_eq (x := r11) (y := 0) hr12 (by decide)).mp c13) h
      exact J56 s10 _ _ _ ⟨hP, hS, lv_sub hl [0] rfl, h⟩
    · have h := if_f (mt (i2_eq (x := r11) (y := 0) hr12 (by decide)).mpr c13) h
      refine lv_aload_n hx hb eX12_laysWrites_25.2.2.2.2.2.2.2 rfl (lv_at hl 0 rfl) ?_
      refine lv_aload_n hx hb eX12_laysWrites_41.1 rfl (lv_at hl 0 rfl) ?_
      obtain ⟨r15, hc14, h⟩ := bn_e h
      refine ycV (r0 := i2 r15) (As := []) (rest := [.ref (a 200)]) (C := RX12) (n := 0) ⟨hx, hb, hml, hown, ht⟩ (k_x12_writtenMany l D a _ _ hc14) (zgV ml_X12_486 im_X12_writtenMany se_X12_writtenMany in_X12 co_X12_writtenMany) rfl rfl (by decide +kernel) ⟨Nat.le_of_ble_eq_true rfl, Nat.le_of_ble_eq_true rfl⟩ hN hK hP hS 0 RW_0 rfl rfl rfl hl.1 rfl (Nat.le_of_ble_eq_true rfl) eX12_laysWrites_41.2.1 ⟨Nat.le_of_ble_eq_true rfl, Nat.le_of_ble_eq_true rfl⟩ (fun H locs hP hS => ?_)
      refine ya_put (D := D) (ci := 12) (v := .int (i2 r15)) (ty := .int) (C := RX12) (T := TX12) (N := 116) hx hb ht inX12 tyX12 tyX12_ok nmX12 hown hK hP (hDD _) hS 0 RW_0 rfl 70 (by decide) (ht (.fieldLink RX12 629 "CloneVolumesModel" "writeMany" "I") fl_X12_629) (fun _ h9 => h9) rfl (by decide +kernel) rfl rfl (by rw [mF_len]; decide) eX12_laysWrites_41.2.2.1 (RW_f70 r15) (fun H locs hP hS => ?_)
      obtain ⟨s16, hs16, h⟩ := st_e h
      rw [hs16] at hP
      refine lv_aload_n hx hb eX12_laysWrites_41.2.2.2.1 rfl (lv_at hl 0 rfl) ?_
      refine lv_aload_n hx hb eX12_laysWrites_41.2.2.2.2.1 rfl (lv_at hl 0 rfl) ?_
      obtain ⟨⟨r19, s18⟩, hc17, h⟩ := bn_e h
      refine ywV (r0 := i2 r19) (As := []) (rest := [.ref (a 200)]) (C := RX12) (n := 0) (ws' := RW D a s18) ⟨hx, hb, hml, hown, ht⟩ (k_x12_writtenCost l D a _ _ _ hc17) (zgV ml_X12_489 im_X12_writtenCost se_X12_writtenCost in_X12 co_X12_writtenCost) rfl rfl (by decide +kernel) ⟨Nat.le_of_ble_eq_true rfl, Nat.le_of_ble_eq_true rfl⟩ hN hK hP (hDD _) hS hA 0 RW_0 rfl rfl rfl hl.1 rfl (Nat.le_of_ble_eq_true rfl) eX12_laysWrites_41.2.2.2.2.2.1 ⟨Nat.le_of_ble_eq_true rfl, Nat.le_of_ble_eq_true rfl⟩ (fun H locs hP hS => ?_)
      refine ya_put (D := D) (ci := 12) (v := .int (i2 r19)) (ty := .int) (C := RX12) (T := TX12) (N := 116) hx hb ht inX12 tyX12 tyX12_ok nmX12 hown hK hP (hDD _) hS 0 RW_0 rfl 71 (by decide) (ht (.fieldLink RX12 632 "CloneVolumesModel" "writeCost" "I") fl_X12_632) (fun _ h9 => h9) rfl (by decide +kernel) rfl rfl (by rw [mF_len]; decide) eX12_laysWrites_41.2.2.2.2.2.2.1 (RW_f71 r19) (fun H locs hP hS => ?_)
      obtain ⟨s20, hs20, h⟩ := st_e h
      rw [hs20] at hP
      exact J56 s20 _ _ _ ⟨hP, hS, lv_sub hl [0] rfl, h⟩
  refine lv_aload_n hx hb eX12_key_37.2.2.2.2.2.2.2 rfl (lv_at hl 0 rfl) ?_
  refine lv_iconst (v := (-1)) hx hb eX12_laysWrites_1.1 (by decide) ?_
  refine ya_put (D := D) (ci := 12) (v := .int (-1)) (ty := .int) (C := RX12) (T := TX12) (N := 116) hx hb ht inX12 tyX12 tyX12_ok nmX12 hown hK hP (hDD _) hS 0 RW_0 rfl 70 (by decide) (ht (.fieldLink RX12 629 "CloneVolumesModel" "writeMany" "I") fl_X12_629) (fun _ h9 => h9) rfl (by decide +kernel) rfl rfl (by rw [mF_len]; decide) eX12_laysWrites_1.2.1 (RW_f70 (-1)) (fun H locs hP hS => ?_)
  obtain ⟨s21, hs21, h⟩ := st_e h
  rw [hs21] at hP
  refine lv_aload_n hx hb eX12_laysWrites_1.2.2.1 rfl (lv_at hl 0 rfl) ?_
  refine lv_iconst (v := (-1)) hx hb eX12_laysWrites_1.2.2.2.1 (by decide) ?_
  refine ya_put (D := D) (ci := 12) (v := .int (-1)) (ty := .int) (C := RX12) (T := TX12) (N := 116) hx hb ht inX12 tyX12 tyX12_ok nmX12 hown hK hP (hDD _) hS 0 RW_0 rfl 71 (by decide) (ht (.fieldLink RX12 632 "CloneVolumesModel" "writeCost" "I") fl_X12_632) (fun _ h9 => h9) rfl (by decide +kernel) rfl rfl (by rw [mF_len]; decide) eX12_laysWrites_1.2.2.2.2.1 (RW_f71 (-1)) (fun H locs hP hS => ?_)
  obtain ⟨s22, hs22, h⟩ := st_e h
  rw [hs22] at hP
  refine lv_aload_n hx hb eX12_laysWrites_1.2.2.2.2.2.1 rfl (lv_at hl 0 rfl) ?_
  refine lv_iload_n hx hb eX12_laysWrites_1.2.2.2.2.2.2.1 rfl (lv_at hl 1 rfl) ?_
  refine lv_iload_n hx hb eX12_laysWrites_1.2.2.2.2.2.2.2 rfl (lv_at hl 2 rfl) ?_
  obtain ⟨r24, hc23, h⟩ := bn_e h
  refine ycV (r0 := i2 r24) (As := [.int (i2 p0), .int (i2 p1)]) (rest := []) (C := RX12) (n := 2) ⟨hx, hb, hml, hown, ht⟩ (k_x12_valueOf l D a p0 p1 _ _ hc23) (zgV ml_X12_559 im_X12_valueOf se_X12_valueOf in_X12 co_X12_valueOf) rfl rfl (by decide +kernel) ⟨Nat.le_of_ble_eq_true rfl, Nat.le_of_ble_eq_true rfl⟩ hN hK hP hS 0 RW_0 rfl rfl rfl hl.1 rfl (Nat.le_of_ble_eq_true rfl) eX12_laysWrites_13.1 ⟨Nat.le_of_ble_eq_true rfl, Nat.le_of_ble_eq_true rfl⟩ (fun H locs hP hS => ?_)
  refine lv_istore_n (lv' := [(3, .int (i2 r24)), (0, .ref (a 200)), (1, .int (i2 p0)), (2, .int (i2 p1))]) hx hb eX12_laysWrites_13.2.1 rfl hl (by decide) rfl (fun ls hl => ?_)
  refine lv_aload_n hx hb eX12_laysWrites_13.2.2.1 rfl (lv_at hl 1 rfl) ?_
  obtain ⟨s26, hc25, h⟩ := bn_e h
  refine ywVv (As := []) (rest := []) (C := RX12) (n := 0) (ws' := RW D a s26) ⟨hx, hb, hml, hown, ht⟩ (k_x12_putsAside l D a _ _ _ hc25) (zgV ml_X12_601 im_X12_putsAside se_X12_putsAside in_X12 co_X12_putsAside) rfl rfl (by decide +kernel) ⟨Nat.le_of_ble_eq_true rfl, Nat.le_of_ble_eq_true rfl⟩ hN hK hP (hDD _) hS hA 0 RW_0 rfl rfl rfl hl.1 rfl (Nat.le_of_ble_eq_true rfl) eX12_laysWrites_13.2.2.2.1 ⟨Nat.le_of_ble_eq_true rfl, Nat.le_of_ble_eq_true rfl⟩ (fun H locs hP hS => ?_)
  refine lv_aload_n hx hb eX12_laysWrites_13.2.2.2.2.1 rfl (lv_at hl 1 rfl) ?_
  refine lv_iconst (v := 2) hx hb eX12_laysWrites_13.2.2.2.2.2.1 (by decide) ?_
  refine lv_iload_n hx hb eX12_laysWrites_13.2.2.2.2.2.2.1 rfl (lv_at hl 2 rfl) ?_
  refine lv_iload_n hx hb eX12_laysWrites_13.2.2.2.2.2.2.2 rfl (lv_at hl 3 rfl) ?_
  refine lv_iload_n hx hb eX12_laysWrites_25.1 rfl (lv_at hl 0 rfl) ?_
  obtain ⟨hr27, h⟩ := rg_e h
  refine lv_if_ne (tgt := 33) hx hb eX12_laysWrites_25.2.1 (by decide) (fun c28 => ?_) (fun c28 => ?_)
  · have h := if_f (mt (i2_eq (x := r24) (y := 0) hr27 (by decide)).mpr c28) h
    refine lv_iconst (v := 0) hx hb eX12_laysWrites_25.2.2.2.2.1 (by decide) ?_
    exact J34 (0, p1, p0, 2, s26) _ _ _ ⟨hP, hS, lv_sub hl [1] rfl, h⟩
  · have h := if_t ((i2_eq (x := r24) (y := 0) hr27 (by decide)).mp c28) h
    refine lv_iconst (v := 1) hx hb eX12_laysWrites_25.2.2.1 (by decide) ?_
    refine lv_goto (tgt := 34) hx hb eX12_laysWrites_25.2.2.2.1 (by decide) ?_
    exact J34 (1, p1, p0, 2, s26) _ _ _ ⟨hP, hS, lv_sub hl [1] rfl, h⟩
set_option maxHeartbeats 4000000 in
set_option maxRecDepth 100000 in
theorem k_x12_writes (l : Launch) (D : va_G) (a : Nat → Nat) (p0 : Int) (p1 : Int) (p2 : Int) (sz : Nat) (s : MS) (o : (Int × MS)) (h : m_x12_writes p0 p1 p2 s = some o) : yWi l yX12_writes cX12_writes 4 (some .int) { frames := 11, cells := 0, slots := 0, locals := 660 } D sz [.ref (a 200), .int (i2 p0), .int (i2 p1), .int (i2 p2)] (RW D a s) (RW D a o.2) (i2 o.1) := by
  refine Met.ofW (cc := cX12_writes) (maxL := 4) (ret := (some .int)) (by decide) rfl ?_
  intro p e s₀ m args below meth c s₁ B hml hv
  obtain ⟨rfl, ⟨hsz, hP, hK, hD0⟩, hN⟩ := hv
  have hx := B.exec
  have hb := B.bytes
  have hr := B.returns
  have hts := atoms_spec (ws := wz yX12_writes cX12_writes 4 (some .int)) B.pre
  have ht : ∀ w ∈ lw_gd, w.before _ s₀ = true := fun w h => hts w (List.mem_cons_of_mem _ h)
  have hown : s₀.vm.findClass RX12 = some m.cls := findClass_of_methodNamed B.named
  have hlocks := B.notSynchronized
  subst hsz
  have hD := hD0.self (sz := s₀.heap.size)
  generalize hAe : va_A (RW D a s) s₀.heap.size = A at hD ⊢
  have hA : ∀ q : Nat, s₀.heap.size ≤ q → A q := fun q h => by rw [← hAe]; exact Or.inr h
  have hS : va_S A s₀.heap s₀.heap [] := va_S.rf
  have hDD : ∀ t : MS, va_D A (RW D a t) := fun t => RW_D t hD
  have hl := lv_entry ([.ref (a 200), .int (i2 p0), .int (i2 p1), .int (i2 p2)]) (n := 4) (Nat.le_of_ble_eq_true rfl)
  rw [lg_entry_eq]
  generalize (lg_sl ([.ref (a 200), .int (i2 p0), .int (i2 p1), .int (i2 p2)]) ++ List.replicate (4 - (lg_sl ([.ref (a 200), .int (i2 p0), .int (i2 p1), .int (i2 p2)])).length) Slot.unset).toArray = ls at hl ⊢
  have hl : lv_has ls 4 [(0, .ref (a 200)), (1, .int (i2 p0)), (2, .int (i2 p1)), (3, .int (i2 p2))] := hl
  unfold m_x12_writes at h
  refine y_head (pcJ := 54) (σ := Int × MS) (fun u H locs ls => va_P D vwCl (RW D a u.2) H ∧ va_S A s₀.heap H locs ∧ lv_has ls 4 [] ∧ m_x12_writes_J54 u.1 u.2 = some o) (fun u => [.int (i2 u.1)]) (fun u H locs ls hI => ?_) (fun J54 => ?_)
  · obtain ⟨hP, hS, hl, h⟩ := hI
    obtain ⟨x1, s2⟩ := u
    have hP : va_P D vwCl (RW D a s2) H := hP
    have hl : lv_has ls 4 [] := hl
    have h : m_x12_writes_J54 x1 s2 = some o := h
    unfold m_x12_writes_J54 at h
    obtain rfl := Option.some.inj h
    exact W.iret (v := (i2 x1)) hx hb hr (fun t ht hW => ⟨⟨_, (), rfl, rfl, by rw [ht]; exact hP, va_K.moved hW.alike hK, hDD _⟩, hS.F ht⟩) hS.2.2 eX12_writes_43.2.2.2.2.2
  refine y_head (pcJ := 31) (σ := MS) (fun u H locs ls => va_P D vwCl (RW D a u) H ∧ va_S A s₀.heap H locs ∧ lv_has ls 4 [] ∧ m_x12_writes_J31 u = some o) (fun u => []) (fun u H locs ls hI => ?_) (fun J31 => ?_)
  · obtain ⟨hP, hS, hl, h⟩ := hI
    obtain ⟨s3, rfl⟩ : ∃ z, z = u := ⟨u, rfl⟩
    have hP : va_P D vwCl (RW D a s3) H := hP
    have hl : lv_has ls 4 [] := hl
    have h : m_x12_writes_J31 s3 = some o := h
    unfold m_x12_writes_J31 at h
    refine lv_iconst (v := (-1)) hx hb eX12_writes_31.1 (by decide) ?_
    obtain rfl := Option.some.inj h
    exact W.iret (v := (-1)) hx hb hr (fun t ht hW => ⟨⟨_, (), rfl, rfl, by rw [ht]; exact hP, va_K.moved hW.alike hK, hDD _⟩, hS.F ht⟩) hS.2.2 eX12_writes_31.2.1
  refine lv_aload_n hx hb eX12_unlike_52.2.2.2.2.2.2.2 rfl (lv_at hl 0 rfl) ?_
  refine lv_iload_n hx hb eX12_writes_1.1 rfl (lv_at hl 1 rfl) ?_
  obtain ⟨hr4, h⟩ := rg_e h
  refine lv_i2l (v := i8 p0) hx hb eX12_writes_1.2.1 (i2_l hr4) ?_
  obtain ⟨r6, hc5, h⟩ := bn_e h
  refine ycV (r0 := i2 r6) (As := [.long (i8 p0)]) (rest := []) (C := RX12) (n := 1) ⟨hx, hb, hml, hown, ht⟩ (k_x12_isVolume l D a p0 _ _ hc5) (zgV ml_X12_571 im_X12_isVolume se_X12_isVolume in_X12 co_X12_isVolume) rfl rfl (by decide +kernel) ⟨Nat.le_of_ble_eq_true rfl, Nat.le_of_ble_eq_true rfl⟩ hN hK hP hS 0 RW_0 rfl rfl rfl hl.1 rfl (Nat.le_of_ble_eq_true rfl) eX12_writes_1.2.2.1 ⟨Nat.le_of_ble_eq_true rfl, Nat.le_of_ble_eq_true rfl⟩ (fun H locs hP hS => ?_)
  obtain ⟨hr7, h⟩ := rg_e h
  refine lv_if_eq (tgt := 31) hx hb eX12_writes_1.2.2.2.1 (by decide) (fun c8 => ?_) (fun c8 => ?_)
  · have h := if_t ((i2_eq (x := r6) (y := 0) hr7 (by decide)).mp c8) h
    exact J31 s _ _ _ ⟨hP, hS, lv_sub hl [] rfl, h⟩
  · have h := if_f (mt (i2_eq (x := r6) (y := 0) hr7 (by decide)).mpr c8) h
    refine lv_iload_n hx hb eX12_writes_1.2.2.2.2.1 rfl (lv_at hl 2 rfl) ?_
    obtain ⟨hr9, h⟩ := rg_e h
    refine lv_i2l (v := i8 p1) hx hb eX12_writes_1.2.2.2.2.2.1 (i2_l hr9) ?_
    refine lv_lconst (v := 0) hx hb eX12_writes_1.2.2.2.2.2.2.1 (by decide) ?_
    refine lv_ldc2 (own := RX12) (v := 999) hx hb hown (ht _ cl_X12_624) eX12_writes_1.2.2.2.2.2.2.2 ?_
    obtain ⟨r11, hc10, h⟩ := bn_e h
    refine ycS (r0 := i2 r11) (As := [.long (i8 p1), .long 0, .long 999]) (rest := []) (n := 3) ⟨hx, hb, hml, hown, ht⟩ (k_x12_isIn l D a p1 0 999 _ _ hc10) (zgT ml_X12_309 st_X12_isIn in_X12 co_X12_isIn) rfl rfl (by decide +kernel) ⟨Nat.le_of_ble_eq_true rfl, Nat.le_of_ble_eq_true rfl⟩ hN hK hP hS rfl hl.1 rfl (Nat.le_of_ble_eq_true rfl) eX12_writes_15.1 ⟨Nat.le_of_ble_eq_true rfl, Nat.le_of_ble_eq_true rfl⟩ (fun H locs hP hS => ?_)
    obtain ⟨hr12, h⟩ := rg_e h
    refine lv_if_eq (tgt := 31) hx hb eX12_writes_15.2.1 (by decide) (fun c13 => ?_) (fun c13 => ?_)
    · have h := if_t ((i2_eq (x := r11) (y := 0) hr12 (by decide)).mp c13) h
      exact J31 s _ _ _ ⟨hP, hS, lv_sub hl [] rfl, h⟩
    · have h := if_f (mt (i2_eq (x := r11) (y := 0) hr12 (by decide)).mpr c13) h
      refine lv_iload_n hx hb eX12_writes_15.2.2.1 rfl (lv_at hl 3 rfl) ?_
      obtain ⟨hr14, h⟩ := rg_e h
      refine lv_i2l (v := i8 p2) hx hb eX12_writes_15.2.2.2.1 (i2_l hr14) ?_
      refine lv_lconst (v := 0) hx hb eX12_writes_15.2.2.2.2.1 (by decide) ?_
      refine lv_lconst (v := 1) hx hb eX12_writes_15.2.2.2.2.2.1 (by decide) ?_
      obtain ⟨r16, hc15, h⟩ := bn_e h
      refine ycS (r0 := i2 r16) (As := [.long (i8 p2), .long 0, .long 1]) (rest := []) (n := 3) ⟨hx, hb, hml, hown, ht⟩ (k_x12_isIn l D a p2 0 1 _ _ hc15) (zgT ml_X12_309 st_X12_isIn in_X12 co_X12_isIn) rfl rfl (by decide +kernel) ⟨Nat.le_of_ble_eq_true rfl, Nat.le_of_ble_eq_true rfl⟩ hN hK hP hS rfl hl.1 rfl (Nat.le_of_ble_eq_true rfl) eX12_writes_15.2.2.2.2.2.2.1 ⟨Nat.le_of_ble_eq_true rfl, Nat.le_of_ble_eq_true rfl⟩ (fun H locs hP hS => ?_)
      obtain ⟨hr17, h⟩ := rg_e h
      refine lv_if_ne (tgt := 33) hx hb eX12_writes_15.2.2.2.2.2.2.2 (by decide) (fun c18 => ?_) (fun c18 => ?_)
      · have h := if_f (mt (i2_eq (x := r16) (y := 0) hr17 (by decide)).mpr c18) h
        refine lv_aload_n hx hb eX12_writes_31.2.2.1 rfl (lv_at hl 0 rfl) ?_
        refine lv_iload_n hx hb eX12_writes_31.2.2.2.1 rfl (lv_at hl 1 rfl) ?_
        refine lv_iload_n hx hb eX12_writes_31.2.2.2.2.1 rfl (lv_at hl 2 rfl) ?_
        obtain ⟨s20, hc19, h⟩ := bn_e h
        refine ywVv (As := [.int (i2 p0), .int (i2 p1)]) (rest := []) (C := RX12) (n := 2) (ws' := RW D a s20) ⟨hx, hb, hml, hown, ht⟩ (k_x12_laysWrites l D a p0 p1 _ _ _ hc19) (zgV ml_X12_635 im_X12_laysWrites se_X12_laysWrites in_X12 co_X12_laysWrites) rfl rfl (by decide +kernel) ⟨Nat.le_of_ble_eq_true rfl, Nat.le_of_ble_eq_true rfl⟩ hN hK hP (hDD _) hS hA 0 RW_0 rfl rfl rfl hl.1 rfl (Nat.le_of_ble_eq_true rfl) eX12_writes_31.2.2.2.2.2.1 ⟨Nat.le_of_ble_eq_true rfl, Nat.le_of_ble_eq_true rfl⟩ (fun H locs hP hS => ?_)
        refine lv_iload_n hx hb eX12_writes_31.2.2.2.2.2.2.1 rfl (lv_at hl 3 rfl) ?_
        obtain ⟨hr21, h⟩ := rg_e h
        refine lv_if_ne (tgt := 50) hx hb eX12_writes_31.2.2.2.2.2.2.2 (by decide) (fun c22 => ?_) (fun c22 => ?_)
        · have h := if_f (mt (i2_eq (x := p2) (y := 0) hr21 (by decide)).mpr c22) h
          refine lv_aload_n hx hb eX12_writes_43.2.2.2.1 rfl (lv_at hl 0 rfl) ?_
          refine va_get (D := D) (ci := 12) (v := .int (i2 (gI s20 71))) (C := RX12) (T := TX12) (N := 116) hx hb ht inX12 hown hK hP 0 RW_0 rfl 71 (by decide) (ht (.fieldLink RX12 632 "CloneVolumesModel" "writeCost" "I") fl_X12_632) (fun _ h9 => h9) mF_71 eX12_writes_43.2.2.2.2.1 ?_
          exact J54 (gI s20 71, s20) _ _ _ ⟨hP, hS, lv_sub hl [] rfl, h⟩
        · have h := if_t ((i2_eq (x := p2) (y := 0) hr21 (by decide)).mp c22) h
          refine lv_aload_n hx hb eX12_writes_43.1 rfl (lv_at hl 0 rfl) ?_
          refine va_get (D := D) (ci := 12) (v := .int (i2 (gI s20 70))) (C := RX12) (T := TX12) (N := 116) hx hb ht inX12 hown hK hP 0 RW_0 rfl 70 (by decide) (ht (.fieldLink RX12 629 "CloneVolumesModel" "writeMany" "I") fl_X12_629) (fun _ h9 => h9) mF_70 eX12_writes_43.2.1 ?_
          refine lv_goto (tgt := 54) hx hb eX12_writes_43.2.2.1 (by decide) ?_
          exact J54 (gI s20 70, s20) _ _ _ ⟨hP, hS, lv_sub hl [] rfl, h⟩
      · have h := if_t ((i2_eq (x := r16) (y := 0) hr17 (by decide)).mp c18) h
        exact J31 s _ _ _ ⟨hP, hS, lv_sub hl [] rfl, h⟩
