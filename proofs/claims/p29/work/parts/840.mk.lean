theorem co_X12_doesFit : Cond.code yX12_doesFit cX12_doesFit 3 (some .boolean) ∈ lw_gd := zm (lw_g_10 (List.mem_of_getElem? (i := 56) (by decide +kernel))) rfl
theorem co_X12_laysLost : Cond.code yX12_laysLost cX12_laysLost 4 none ∈ lw_gd := zm (lw_g_10 (List.mem_of_getElem? (i := 28) (by decide +kernel))) rfl
theorem co_X12_toldOf : Cond.code yX12_toldOf cX12_toldOf 4 (some .int) ∈ lw_gd := zm (lw_g_10 (List.mem_of_getElem? (i := 60) (by decide +kernel))) rfl
theorem im_X12_doesFit : Cond.instanceMethod yX12_doesFit ∈ lw_gd := zm (lw_g_10 (List.mem_of_getElem? (i := 55) (by decide +kernel))) rfl
theorem im_X12_laysLost : Cond.instanceMethod yX12_laysLost ∈ lw_gd := zm (lw_g_10 (List.mem_of_getElem? (i := 27) (by decide +kernel))) rfl
theorem im_X12_toldOf : Cond.instanceMethod yX12_toldOf ∈ lw_gd := zm (lw_g_10 (List.mem_of_getElem? (i := 59) (by decide +kernel))) rfl
theorem ml_X12_638 : Cond.methodLink RX12 638 yX12_laysLost ∈ lw_gd := zm (lw_g_10 (List.mem_of_getElem? (i := 25) (by decide +kernel))) rfl
theorem ml_X12_641 : Cond.methodLink RX12 641 yX12_toldOf ∈ lw_gd := zm (lw_g_10 (List.mem_of_getElem? (i := 57) (by decide +kernel))) rfl
theorem ml_X12_644 : Cond.methodLink RX12 644 yX12_doesFit ∈ lw_gd := zm (lw_g_10 (List.mem_of_getElem? (i := 53) (by decide +kernel))) rfl
theorem se_X12_doesFit : Cond.selects RX12 yX12_doesFit yX12_doesFit ∈ lw_gd := zm (List.mem_of_getElem? (i := 167) (by decide +kernel)) rfl
theorem se_X12_laysLost : Cond.selects RX12 yX12_laysLost yX12_laysLost ∈ lw_gd := zm (List.mem_of_getElem? (i := 166) (by decide +kernel)) rfl
theorem se_X12_toldOf : Cond.selects RX12 yX12_toldOf yX12_toldOf ∈ lw_gd := zm (List.mem_of_getElem? (i := 168) (by decide +kernel)) rfl
theorem eX12_back_0 : decode cX12_back 0 = .ok (.aload_n 0, 1) ∧ decode cX12_back 1 = .ok (.iload_n 1, 1) ∧ decode cX12_back 2 = .ok (.i2l, 1) ∧ decode cX12_back 3 = .ok (.invokevirtual 571, 3) ∧ decode cX12_back 6 = .ok (.ifCond .eq 41, 3) ∧ decode cX12_back 9 = .ok (.aload_n 0, 1) ∧ decode cX12_back 10 = .ok (.getfield 121, 3) ∧ decode cX12_back 13 = .ok (.bipush 8, 2) := by decide +kernel
theorem eX12_back_15 : decode cX12_back 15 = .ok (.iload_n 1, 1) ∧ decode cX12_back 16 = .ok (.iadd, 1) ∧ decode cX12_back 17 = .ok (.iaload, 1) ∧ decode cX12_back 18 = .ok (.sipush 255, 3) ∧ decode cX12_back 21 = .ok (.if_icmp .eq 26, 3) ∧ decode cX12_back 24 = .ok (.aload_n 0, 1) ∧ decode cX12_back 25 = .ok (.aload_n 0, 1) ∧ decode cX12_back 26 = .ok (.getfield 121, 3) := by decide +kernel
theorem eX12_back_29 : decode cX12_back 29 = .ok (.iload_n 1, 1) ∧ decode cX12_back 30 = .ok (.iaload, 1) ∧ decode cX12_back 31 = .ok (.aload_n 0, 1) ∧ decode cX12_back 32 = .ok (.getfield 121, 3) ∧ decode cX12_back 35 = .ok (.bipush 8, 2) ∧ decode cX12_back 37 = .ok (.iload_n 1, 1) ∧ decode cX12_back 38 = .ok (.iadd, 1) ∧ decode cX12_back 39 = .ok (.iaload, 1) := by decide +kernel
theorem eX12_back_40 : decode cX12_back 40 = .ok (.iconst (-1), 1) ∧ decode cX12_back 41 = .ok (.invokevirtual 626, 3) ∧ decode cX12_back 44 = .ok (.goto 4, 3) ∧ decode cX12_back 47 = .ok (.iconst (-1), 1) ∧ decode cX12_back 48 = .ok (.ireturn, 1) ∧ decode cX12_doesFit 0 = .ok (.aload_n 0, 1) ∧ decode cX12_doesFit 1 = .ok (.iload_n 1, 1) ∧ decode cX12_doesFit 2 = .ok (.i2l, 1) := by decide +kernel
theorem eX12_doesFit_3 : decode cX12_doesFit 3 = .ok (.invokevirtual 571, 3) ∧ decode cX12_doesFit 6 = .ok (.ifCond .ne 5, 3) ∧ decode cX12_doesFit 9 = .ok (.iconst 0, 1) ∧ decode cX12_doesFit 10 = .ok (.ireturn, 1) ∧ decode cX12_doesFit 11 = .ok (.iconst 0, 1) ∧ decode cX12_doesFit 12 = .ok (.istore_n 2, 1) ∧ decode cX12_doesFit 13 = .ok (.iload_n 2, 1) ∧ decode cX12_doesFit 14 = .ok (.aload_n 0, 1) := by decide +kernel
theorem eX12_doesFit_15 : decode cX12_doesFit 15 = .ok (.getfield 419, 3) ∧ decode cX12_doesFit 18 = .ok (.if_icmp .ge 37, 3) ∧ decode cX12_doesFit 21 = .ok (.aload_n 0, 1) ∧ decode cX12_doesFit 22 = .ok (.iload_n 1, 1) ∧ decode cX12_doesFit 23 = .ok (.aload_n 0, 1) ∧ decode cX12_doesFit 24 = .ok (.getfield 167, 3) ∧ decode cX12_doesFit 27 = .ok (.iconst 2, 1) ∧ decode cX12_doesFit 28 = .ok (.iload_n 2, 1) := by decide +kernel
theorem eX12_doesFit_29 : decode cX12_doesFit 29 = .ok (.imul, 1) ∧ decode cX12_doesFit 30 = .ok (.iaload, 1) ∧ decode cX12_doesFit 31 = .ok (.invokevirtual 641, 3) ∧ decode cX12_doesFit 34 = .ok (.aload_n 0, 1) ∧ decode cX12_doesFit 35 = .ok (.getfield 167, 3) ∧ decode cX12_doesFit 38 = .ok (.iconst 2, 1) ∧ decode cX12_doesFit 39 = .ok (.iload_n 2, 1) ∧ decode cX12_doesFit 40 = .ok (.imul, 1) := by decide +kernel
theorem eX12_doesFit_41 : decode cX12_doesFit 41 = .ok (.iconst 1, 1) ∧ decode cX12_doesFit 42 = .ok (.iadd, 1) ∧ decode cX12_doesFit 43 = .ok (.iaload, 1) ∧ decode cX12_doesFit 44 = .ok (.if_icmp .eq 5, 3) ∧ decode cX12_doesFit 47 = .ok (.iconst 0, 1) ∧ decode cX12_doesFit 48 = .ok (.ireturn, 1) ∧ decode cX12_doesFit 49 = .ok (.iinc 2 1, 3) ∧ decode cX12_doesFit 52 = .ok (.goto (-39), 3) := by decide +kernel
theorem eX12_doesFit_55 : decode cX12_doesFit 55 = .ok (.iconst 1, 1) ∧ decode cX12_doesFit 56 = .ok (.ireturn, 1) ∧ decode cX12_fits 0 = .ok (.iload_n 1, 1) ∧ decode cX12_fits 1 = .ok (.iconst (-1), 1) ∧ decode cX12_fits 2 = .ok (.if_icmp .ge 5, 3) ∧ decode cX12_fits 5 = .ok (.iconst (-1), 1) ∧ decode cX12_fits 6 = .ok (.ireturn, 1) ∧ decode cX12_fits 7 = .ok (.iconst 0, 1) := by decide +kernel
theorem eX12_fits_8 : decode cX12_fits 8 = .ok (.istore_n 2, 1) ∧ decode cX12_fits 9 = .ok (.iconst 0, 1) ∧ decode cX12_fits 10 = .ok (.istore_n 3, 1) ∧ decode cX12_fits 11 = .ok (.iload_n 3, 1) ∧ decode cX12_fits 12 = .ok (.bipush 8, 2) ∧ decode cX12_fits 14 = .ok (.if_icmp .ge 30, 3) ∧ decode cX12_fits 17 = .ok (.aload_n 0, 1) ∧ decode cX12_fits 18 = .ok (.iload_n 3, 1) := by decide +kernel
theorem eX12_fits_19 : decode cX12_fits 19 = .ok (.invokevirtual 644, 3) ∧ decode cX12_fits 22 = .ok (.ifCond .ne 6, 3) ∧ decode cX12_fits 25 = .ok (.goto 13, 3) ∧ decode cX12_fits 28 = .ok (.iload_n 2, 1) ∧ decode cX12_fits 29 = .ok (.iload_n 1, 1) ∧ decode cX12_fits 30 = .ok (.if_icmp .ne 5, 3) ∧ decode cX12_fits 33 = .ok (.iload_n 3, 1) ∧ decode cX12_fits 34 = .ok (.ireturn, 1) := by decide +kernel
theorem eX12_fits_35 : decode cX12_fits 35 = .ok (.iinc 2 1, 3) ∧ decode cX12_fits 38 = .ok (.iinc 3 1, 3) ∧ decode cX12_fits 41 = .ok (.goto (-30), 3) ∧ decode cX12_fits 44 = .ok (.iload_n 1, 1) ∧ decode cX12_fits 45 = .ok (.iconst (-1), 1) ∧ decode cX12_fits 46 = .ok (.if_icmp .ne 7, 3) ∧ decode cX12_fits 49 = .ok (.iload_n 2, 1) ∧ decode cX12_fits 50 = .ok (.goto 4, 3) := by decide +kernel
theorem eX12_fits_53 : decode cX12_fits 53 = .ok (.iconst (-1), 1) ∧ decode cX12_fits 54 = .ok (.ireturn, 1) ∧ decode cX12_laysLost 0 = .ok (.iconst 0, 1) ∧ decode cX12_laysLost 1 = .ok (.istore_n 1, 1) ∧ decode cX12_laysLost 2 = .ok (.iload_n 1, 1) ∧ decode cX12_laysLost 3 = .ok (.bipush 48, 2) ∧ decode cX12_laysLost 5 = .ok (.if_icmp .ge 16, 3) ∧ decode cX12_laysLost 8 = .ok (.aload_n 0, 1) := by decide +kernel
theorem eX12_laysLost_9 : decode cX12_laysLost 9 = .ok (.getfield 164, 3) ∧ decode cX12_laysLost 12 = .ok (.iload_n 1, 1) ∧ decode cX12_laysLost 13 = .ok (.iconst 0, 1) ∧ decode cX12_laysLost 14 = .ok (.iastore, 1) ∧ decode cX12_laysLost 15 = .ok (.iinc 1 1, 3) ∧ decode cX12_laysLost 18 = .ok (.goto (-16), 3) ∧ decode cX12_laysLost 21 = .ok (.iconst 0, 1) ∧ decode cX12_laysLost 22 = .ok (.istore_n 1, 1) := by decide +kernel
theorem eX12_laysLost_23 : decode cX12_laysLost 23 = .ok (.iload_n 1, 1) ∧ decode cX12_laysLost 24 = .ok (.bipush 8, 2) ∧ decode cX12_laysLost 26 = .ok (.if_icmp .ge 102, 3) ∧ decode cX12_laysLost 29 = .ok (.aload_n 0, 1) ∧ decode cX12_laysLost 30 = .ok (.iload_n 1, 1) ∧ decode cX12_laysLost 31 = .ok (.i2l, 1) ∧ decode cX12_laysLost 32 = .ok (.invokevirtual 571, 3) ∧ decode cX12_laysLost 35 = .ok (.ifCond .ne 6, 3) := by decide +kernel
theorem eX12_laysLost_38 : decode cX12_laysLost 38 = .ok (.goto 84, 3) ∧ decode cX12_laysLost 41 = .ok (.aload_n 0, 1) ∧ decode cX12_laysLost 42 = .ok (.aload_n 0, 1) ∧ decode cX12_laysLost 43 = .ok (.getfield 121, 3) ∧ decode cX12_laysLost 46 = .ok (.iload_n 1, 1) ∧ decode cX12_laysLost 47 = .ok (.iaload, 1) ∧ decode cX12_laysLost 48 = .ok (.invokevirtual 610, 3) ∧ decode cX12_laysLost 51 = .ok (.iconst 0, 1) := by decide +kernel
theorem eX12_laysLost_52 : decode cX12_laysLost 52 = .ok (.istore_n 2, 1) ∧ decode cX12_laysLost 53 = .ok (.iload_n 2, 1) ∧ decode cX12_laysLost 54 = .ok (.aload_n 0, 1) ∧ decode cX12_laysLost 55 = .ok (.getfield 592, 3) ∧ decode cX12_laysLost 58 = .ok (.if_icmp .ge 64, 3) ∧ decode cX12_laysLost 61 = .ok (.aload_n 0, 1) ∧ decode cX12_laysLost 62 = .ok (.getfield 121, 3) ∧ decode cX12_laysLost 65 = .ok (.iload_n 1, 1) := by decide +kernel
theorem eX12_laysLost_66 : decode cX12_laysLost 66 = .ok (.iaload, 1) ∧ decode cX12_laysLost 67 = .ok (.istore_n 3, 1) ∧ decode cX12_laysLost 68 = .ok (.aload_n 0, 1) ∧ decode cX12_laysLost 69 = .ok (.iload_n 3, 1) ∧ decode cX12_laysLost 70 = .ok (.invokevirtual 460, 3) ∧ decode cX12_laysLost 73 = .ok (.ifCond .le 33, 3) ∧ decode cX12_laysLost 76 = .ok (.aload_n 0, 1) ∧ decode cX12_laysLost 77 = .ok (.getfield 164, 3) := by decide +kernel
theorem eX12_laysLost_80 : decode cX12_laysLost 80 = .ok (.iload_n 3, 1) ∧ decode cX12_laysLost 81 = .ok (.dup2, 1) ∧ decode cX12_laysLost 82 = .ok (.iaload, 1) ∧ decode cX12_laysLost 83 = .ok (.iconst 1, 1) ∧ decode cX12_laysLost 84 = .ok (.iadd, 1) ∧ decode cX12_laysLost 85 = .ok (.iastore, 1) ∧ decode cX12_laysLost 86 = .ok (.aload_n 0, 1) ∧ decode cX12_laysLost 87 = .ok (.iload_n 3, 1) := by decide +kernel
theorem eX12_laysLost_88 : decode cX12_laysLost 88 = .ok (.aload_n 0, 1) ∧ decode cX12_laysLost 89 = .ok (.iload_n 3, 1) ∧ decode cX12_laysLost 90 = .ok (.aload_n 0, 1) ∧ decode cX12_laysLost 91 = .ok (.getfield 152, 3) ∧ decode cX12_laysLost 94 = .ok (.iload_n 2, 1) ∧ decode cX12_laysLost 95 = .ok (.iaload, 1) ∧ decode cX12_laysLost 96 = .ok (.invokevirtual 543, 3) ∧ decode cX12_laysLost 99 = .ok (.invokevirtual 505, 3) := by decide +kernel
theorem eX12_laysLost_102 : decode cX12_laysLost 102 = .ok (.istore_n 3, 1) ∧ decode cX12_laysLost 103 = .ok (.goto (-35), 3) ∧ decode cX12_laysLost 106 = .ok (.aload_n 0, 1) ∧ decode cX12_laysLost 107 = .ok (.getfield 164, 3) ∧ decode cX12_laysLost 110 = .ok (.iload_n 3, 1) ∧ decode cX12_laysLost 111 = .ok (.dup2, 1) ∧ decode cX12_laysLost 112 = .ok (.iaload, 1) ∧ decode cX12_laysLost 113 = .ok (.iconst 1, 1) := by decide +kernel
theorem eX12_laysLost_114 : decode cX12_laysLost 114 = .ok (.iadd, 1) ∧ decode cX12_laysLost 115 = .ok (.iastore, 1) ∧ decode cX12_laysLost 116 = .ok (.iinc 2 1, 3) ∧ decode cX12_laysLost 119 = .ok (.goto (-66), 3) ∧ decode cX12_laysLost 122 = .ok (.iinc 1 1, 3) ∧ decode cX12_laysLost 125 = .ok (.goto (-102), 3) ∧ decode cX12_laysLost 128 = .ok (.return_, 1) ∧ decode cX12_lost 0 = .ok (.aload_n 0, 1) := by decide +kernel
theorem eX12_lost_1 : decode cX12_lost 1 = .ok (.iload_n 1, 1) ∧ decode cX12_lost 2 = .ok (.i2l, 1) ∧ decode cX12_lost 3 = .ok (.invokevirtual 616, 3) ∧ decode cX12_lost 6 = .ok (.ifCond .ne 5, 3) ∧ decode cX12_lost 9 = .ok (.iconst (-1), 1) ∧ decode cX12_lost 10 = .ok (.ireturn, 1) ∧ decode cX12_lost 11 = .ok (.aload_n 0, 1) ∧ decode cX12_lost 12 = .ok (.invokevirtual 638, 3) := by decide +kernel
theorem eX12_lost_15 : decode cX12_lost 15 = .ok (.aload_n 0, 1) ∧ decode cX12_lost 16 = .ok (.getfield 164, 3) ∧ decode cX12_lost 19 = .ok (.iload_n 1, 1) ∧ decode cX12_lost 20 = .ok (.iaload, 1) ∧ decode cX12_lost 21 = .ok (.ireturn, 1) ∧ decode cX12_room 0 = .ok (.aload_n 0, 1) ∧ decode cX12_room 1 = .ok (.getfield 406, 3) ∧ decode cX12_room 4 = .ok (.ifCond .eq 15, 3) := by decide +kernel
theorem eX12_room_7 : decode cX12_room 7 = .ok (.iload_n 1, 1) ∧ decode cX12_room 8 = .ok (.i2l, 1) ∧ decode cX12_room 9 = .ok (.lconst 0, 1) ∧ decode cX12_room 10 = .ok (.ldc2_w 619, 3) ∧ decode cX12_room 13 = .ok (.invokestatic 309, 3) ∧ decode cX12_room 16 = .ok (.ifCond .ne 5, 3) ∧ decode cX12_room 19 = .ok (.iconst (-1), 1) ∧ decode cX12_room 20 = .ok (.ireturn, 1) := by decide +kernel
theorem eX12_room_21 : decode cX12_room 21 = .ok (.iload_n 1, 1) ∧ decode cX12_room 22 = .ok (.iconst 2, 1) ∧ decode cX12_room 23 = .ok (.if_icmp .ge 21, 3) ∧ decode cX12_room 26 = .ok (.aload_n 0, 1) ∧ decode cX12_room 27 = .ok (.invokevirtual 587, 3) ∧ decode cX12_room 30 = .ok (.iload_n 1, 1) ∧ decode cX12_room 31 = .ok (.ifCond .ne 7, 3) ∧ decode cX12_room 34 = .ok (.iconst 0, 1) := by decide +kernel
theorem eX12_room_35 : decode cX12_room 35 = .ok (.goto 7, 3) ∧ decode cX12_room 38 = .ok (.aload_n 0, 1) ∧ decode cX12_room 39 = .ok (.invokevirtual 581, 3) ∧ decode cX12_room 42 = .ok (.iadd, 1) ∧ decode cX12_room 43 = .ok (.ireturn, 1) ∧ decode cX12_room 44 = .ok (.iconst 0, 1) ∧ decode cX12_room 45 = .ok (.istore_n 2, 1) ∧ decode cX12_room 46 = .ok (.iconst 0, 1) := by decide +kernel
theorem eX12_room_47 : decode cX12_room 47 = .ok (.istore_n 3, 1) ∧ decode cX12_room 48 = .ok (.iload_n 3, 1) ∧ decode cX12_room 49 = .ok (.aload_n 0, 1) ∧ decode cX12_room 50 = .ok (.invokevirtual 429, 3) ∧ decode cX12_room 53 = .ok (.if_icmp .ge 20, 3) ∧ decode cX12_room 56 = .ok (.aload_n 0, 1) ∧ decode cX12_room 57 = .ok (.iload_n 3, 1) ∧ decode cX12_room 58 = .ok (.invokevirtual 438, 3) := by decide +kernel
theorem eX12_room_61 : decode cX12_room 61 = .ok (.ifCond .ne 6, 3) ∧ decode cX12_room 64 = .ok (.iinc 2 1, 3) ∧ decode cX12_room 67 = .ok (.iinc 3 1, 3) ∧ decode cX12_room 70 = .ok (.goto (-22), 3) ∧ decode cX12_room 73 = .ok (.iload_n 2, 1) ∧ decode cX12_room 74 = .ok (.ireturn, 1) ∧ decode cX12_see 0 = .ok (.aload_n 0, 1) ∧ decode cX12_see 1 = .ok (.getfield 263, 3) := by decide +kernel
theorem eX12_see_4 : decode cX12_see 4 = .ok (.istore_n 1, 1) ∧ decode cX12_see 5 = .ok (.aload_n 0, 1) ∧ decode cX12_see 6 = .ok (.iconst 0, 1) ∧ decode cX12_see 7 = .ok (.putfield 263, 3) ∧ decode cX12_see 10 = .ok (.iload_n 1, 1) ∧ decode cX12_see 11 = .ok (.ifCond .le 21, 3) ∧ decode cX12_see 14 = .ok (.iload_n 1, 1) ∧ decode cX12_see 15 = .ok (.iconst 4, 1) := by decide +kernel
theorem eX12_see_16 : decode cX12_see 16 = .ok (.irem, 1) ∧ decode cX12_see 17 = .ok (.ifCond .ne 15, 3) ∧ decode cX12_see 20 = .ok (.iload_n 1, 1) ∧ decode cX12_see 21 = .ok (.iconst 4, 1) ∧ decode cX12_see 22 = .ok (.idiv, 1) ∧ decode cX12_see 23 = .ok (.bipush 12, 2) ∧ decode cX12_see 25 = .ok (.if_icmp .gt 7, 3) ∧ decode cX12_see 28 = .ok (.iconst 1, 1) := by decide +kernel
theorem eX12_see_29 : decode cX12_see 29 = .ok (.goto 4, 3) ∧ decode cX12_see 32 = .ok (.iconst 0, 1) ∧ decode cX12_see 33 = .ok (.istore_n 2, 1) ∧ decode cX12_see 34 = .ok (.iconst 0, 1) ∧ decode cX12_see 35 = .ok (.istore_n 3, 1) ∧ decode cX12_see 36 = .ok (.iload_n 3, 1) ∧ decode cX12_see 37 = .ok (.iload_n 1, 1) ∧ decode cX12_see 38 = .ok (.if_icmp .ge 71, 3) := by decide +kernel
theorem eX12_see_41 : decode cX12_see 41 = .ok (.iload_n 2, 1) ∧ decode cX12_see 42 = .ok (.ifCond .eq 67, 3) ∧ decode cX12_see 45 = .ok (.sipush 256, 3) ∧ decode cX12_see 48 = .ok (.aload_n 0, 1) ∧ decode cX12_see 49 = .ok (.getfield 7, 3) ∧ decode cX12_see 52 = .ok (.iload_n 3, 1) ∧ decode cX12_see 53 = .ok (.iaload, 1) ∧ decode cX12_see 54 = .ok (.imul, 1) := by decide +kernel
theorem eX12_see_55 : decode cX12_see 55 = .ok (.aload_n 0, 1) ∧ decode cX12_see 56 = .ok (.getfield 7, 3) ∧ decode cX12_see 59 = .ok (.iload_n 3, 1) ∧ decode cX12_see 60 = .ok (.iconst 1, 1) ∧ decode cX12_see 61 = .ok (.iadd, 1) ∧ decode cX12_see 62 = .ok (.iaload, 1) ∧ decode cX12_see 63 = .ok (.iadd, 1) ∧ decode cX12_see 64 = .ok (.sipush 999, 3) := by decide +kernel
theorem eX12_see_67 : decode cX12_see 67 = .ok (.if_icmp .gt 34, 3) ∧ decode cX12_see 70 = .ok (.sipush 256, 3) ∧ decode cX12_see 73 = .ok (.aload_n 0, 1) ∧ decode cX12_see 74 = .ok (.getfield 7, 3) ∧ decode cX12_see 77 = .ok (.iload_n 3, 1) ∧ decode cX12_see 78 = .ok (.iconst 2, 1) ∧ decode cX12_see 79 = .ok (.iadd, 1) ∧ decode cX12_see 80 = .ok (.iaload, 1) := by decide +kernel
theorem eX12_see_81 : decode cX12_see 81 = .ok (.imul, 1) ∧ decode cX12_see 82 = .ok (.aload_n 0, 1) ∧ decode cX12_see 83 = .ok (.getfield 7, 3) ∧ decode cX12_see 86 = .ok (.iload_n 3, 1) ∧ decode cX12_see 87 = .ok (.iconst 3, 1) ∧ decode cX12_see 88 = .ok (.iadd, 1) ∧ decode cX12_see 89 = .ok (.iaload, 1) ∧ decode cX12_see 90 = .ok (.iadd, 1) := by decide +kernel
theorem eX12_see_91 : decode cX12_see 91 = .ok (.sipush 1000, 3) ∧ decode cX12_see 94 = .ok (.if_icmp .gt 7, 3) ∧ decode cX12_see 97 = .ok (.iconst 1, 1) ∧ decode cX12_see 98 = .ok (.goto 4, 3) ∧ decode cX12_see 101 = .ok (.iconst 0, 1) ∧ decode cX12_see 102 = .ok (.istore_n 2, 1) ∧ decode cX12_see 103 = .ok (.iinc 3 4, 3) ∧ decode cX12_see 106 = .ok (.goto (-70), 3) := by decide +kernel
theorem eX12_see_109 : decode cX12_see 109 = .ok (.iload_n 2, 1) ∧ decode cX12_see 110 = .ok (.ifCond .ne 9, 3) ∧ decode cX12_see 113 = .ok (.aload_n 0, 1) ∧ decode cX12_see 114 = .ok (.iconst 1, 1) ∧ decode cX12_see 115 = .ok (.invokevirtual 399, 3) ∧ decode cX12_see 118 = .ok (.ireturn, 1) ∧ decode cX12_see 119 = .ok (.iconst 0, 1) ∧ decode cX12_see 120 = .ok (.istore_n 3, 1) := by decide +kernel
theorem eX12_see_121 : decode cX12_see 121 = .ok (.iload_n 3, 1) ∧ decode cX12_see 122 = .ok (.iload_n 1, 1) ∧ decode cX12_see 123 = .ok (.iconst 2, 1) ∧ decode cX12_see 124 = .ok (.idiv, 1) ∧ decode cX12_see 125 = .ok (.if_icmp .ge 38, 3) ∧ decode cX12_see 128 = .ok (.aload_n 0, 1) ∧ decode cX12_see 129 = .ok (.getfield 167, 3) ∧ decode cX12_see 132 = .ok (.iload_n 3, 1) := by decide +kernel
theorem eX12_see_133 : decode cX12_see 133 = .ok (.sipush 256, 3) ∧ decode cX12_see 136 = .ok (.aload_n 0, 1) ∧ decode cX12_see 137 = .ok (.getfield 7, 3) ∧ decode cX12_see 140 = .ok (.iconst 2, 1) ∧ decode cX12_see 141 = .ok (.iload_n 3, 1) ∧ decode cX12_see 142 = .ok (.imul, 1) ∧ decode cX12_see 143 = .ok (.iaload, 1) ∧ decode cX12_see 144 = .ok (.imul, 1) := by decide +kernel
theorem eX12_see_145 : decode cX12_see 145 = .ok (.aload_n 0, 1) ∧ decode cX12_see 146 = .ok (.getfield 7, 3) ∧ decode cX12_see 149 = .ok (.iconst 2, 1) ∧ decode cX12_see 150 = .ok (.iload_n 3, 1) ∧ decode cX12_see 151 = .ok (.imul, 1) ∧ decode cX12_see 152 = .ok (.iconst 1, 1) ∧ decode cX12_see 153 = .ok (.iadd, 1) ∧ decode cX12_see 154 = .ok (.iaload, 1) := by decide +kernel
theorem eX12_see_155 : decode cX12_see 155 = .ok (.iadd, 1) ∧ decode cX12_see 156 = .ok (.iastore, 1) ∧ decode cX12_see 157 = .ok (.iinc 3 1, 3) ∧ decode cX12_see 160 = .ok (.goto (-39), 3) ∧ decode cX12_see 163 = .ok (.aload_n 0, 1) ∧ decode cX12_see 164 = .ok (.iload_n 1, 1) ∧ decode cX12_see 165 = .ok (.iconst 4, 1) ∧ decode cX12_see 166 = .ok (.idiv, 1) := by decide +kernel
theorem eX12_see_167 : decode cX12_see 167 = .ok (.putfield 419, 3) ∧ decode cX12_see 170 = .ok (.aload_n 0, 1) ∧ decode cX12_see 171 = .ok (.getfield 419, 3) ∧ decode cX12_see 174 = .ok (.ireturn, 1) ∧ decode cX12_spread 0 = .ok (.aload_n 0, 1) ∧ decode cX12_spread 1 = .ok (.iload_n 1, 1) ∧ decode cX12_spread 2 = .ok (.i2l, 1) ∧ decode cX12_spread 3 = .ok (.invokevirtual 571, 3) := by decide +kernel
theorem eX12_spread_6 : decode cX12_spread 6 = .ok (.ifCond .eq 8, 3) ∧ decode cX12_spread 9 = .ok (.iload_n 2, 1) ∧ decode cX12_spread 10 = .ok (.iconst (-1), 1) ∧ decode cX12_spread 11 = .ok (.if_icmp .ge 5, 3) ∧ decode cX12_spread 14 = .ok (.iconst (-1), 1) ∧ decode cX12_spread 15 = .ok (.ireturn, 1) ∧ decode cX12_spread 16 = .ok (.iconst 0, 1) ∧ decode cX12_spread 17 = .ok (.istore_n 3, 1) := by decide +kernel
theorem eX12_spread_18 : decode cX12_spread 18 = .ok (.iconst 0, 1) ∧ decode cX12_spread 19 = .ok (.istore 4, 2) ∧ decode cX12_spread 21 = .ok (.iload 4, 2) ∧ decode cX12_spread 23 = .ok (.bipush 100, 2) ∧ decode cX12_spread 25 = .ok (.if_icmp .ge 27, 3) ∧ decode cX12_spread 28 = .ok (.aload_n 0, 1) ∧ decode cX12_spread 29 = .ok (.iload_n 1, 1) ∧ decode cX12_spread 30 = .ok (.iload 4, 2) := by decide +kernel
theorem eX12_spread_32 : decode cX12_spread 32 = .ok (.invokevirtual 635, 3) ∧ decode cX12_spread 35 = .ok (.aload_n 0, 1) ∧ decode cX12_spread 36 = .ok (.getfield 629, 3) ∧ decode cX12_spread 39 = .ok (.iload_n 2, 1) ∧ decode cX12_spread 40 = .ok (.if_icmp .ne 6, 3) ∧ decode cX12_spread 43 = .ok (.iinc 3 1, 3) ∧ decode cX12_spread 46 = .ok (.iinc 4 1, 3) ∧ decode cX12_spread 49 = .ok (.goto (-28), 3) := by decide +kernel
theorem eX12_spread_52 : decode cX12_spread 52 = .ok (.iload_n 3, 1) ∧ decode cX12_spread 53 = .ok (.ireturn, 1) ∧ decode cX12_toldOf 0 = .ok (.aload_n 0, 1) ∧ decode cX12_toldOf 1 = .ok (.iload_n 1, 1) ∧ decode cX12_toldOf 2 = .ok (.iload_n 2, 1) ∧ decode cX12_toldOf 3 = .ok (.invokevirtual 559, 3) ∧ decode cX12_toldOf 6 = .ok (.istore_n 3, 1) ∧ decode cX12_toldOf 7 = .ok (.iload_n 3, 1) := by decide +kernel
theorem eX12_toldOf_8 : decode cX12_toldOf 8 = .ok (.iconst (-1), 1) ∧ decode cX12_toldOf 9 = .ok (.if_icmp .ne 9, 3) ∧ decode cX12_toldOf 12 = .ok (.sipush 1000, 3) ∧ decode cX12_toldOf 15 = .ok (.goto 4, 3) ∧ decode cX12_toldOf 18 = .ok (.iload_n 3, 1) ∧ decode cX12_toldOf 19 = .ok (.ireturn, 1) ∧ decode cX12_victim 0 = .ok (.iload_n 1, 1) ∧ decode cX12_victim 1 = .ok (.i2l, 1) := by decide +kernel
theorem eX12_victim_2 : decode cX12_victim 2 = .ok (.lconst 0, 1) ∧ decode cX12_victim 3 = .ok (.lconst 1, 1) ∧ decode cX12_victim 4 = .ok (.invokestatic 309, 3) ∧ decode cX12_victim 7 = .ok (.ifCond .ne 5, 3) ∧ decode cX12_victim 10 = .ok (.iconst (-1), 1) ∧ decode cX12_victim 11 = .ok (.ireturn, 1) ∧ decode cX12_victim 12 = .ok (.iconst (-1), 1) ∧ decode cX12_victim 13 = .ok (.istore_n 2, 1) := by decide +kernel
theorem eX12_victim_14 : decode cX12_victim 14 = .ok (.iconst (-1), 1) ∧ decode cX12_victim 15 = .ok (.istore_n 3, 1) ∧ decode cX12_victim 16 = .ok (.iconst 0, 1) ∧ decode cX12_victim 17 = .ok (.istore 4, 2) ∧ decode cX12_victim 19 = .ok (.iload 4, 2) ∧ decode cX12_victim 21 = .ok (.bipush 8, 2) ∧ decode cX12_victim 23 = .ok (.if_icmp .ge 46, 3) ∧ decode cX12_victim 26 = .ok (.aload_n 0, 1) := by decide +kernel
theorem eX12_victim_27 : decode cX12_victim 27 = .ok (.iload 4, 2) ∧ decode cX12_victim 29 = .ok (.i2l, 1) ∧ decode cX12_victim 30 = .ok (.invokevirtual 571, 3) ∧ decode cX12_victim 33 = .ok (.ifCond .eq 12, 3) ∧ decode cX12_victim 36 = .ok (.aload_n 0, 1) ∧ decode cX12_victim 37 = .ok (.iload 4, 2) ∧ decode cX12_victim 39 = .ok (.invokevirtual 613, 3) ∧ decode cX12_victim 42 = .ok (.goto 4, 3) := by decide +kernel
theorem eX12_victim_45 : decode cX12_victim 45 = .ok (.iconst (-1), 1) ∧ decode cX12_victim 46 = .ok (.istore 5, 2) ∧ decode cX12_victim 48 = .ok (.iload 5, 2) ∧ decode cX12_victim 50 = .ok (.iload_n 3, 1) ∧ decode cX12_victim 51 = .ok (.if_icmp .gt 6, 3) ∧ decode cX12_victim 54 = .ok (.goto 9, 3) ∧ decode cX12_victim 57 = .ok (.iload 4, 2) ∧ decode cX12_victim 59 = .ok (.istore_n 2, 1) := by decide +kernel
theorem eX12_victim_60 : decode cX12_victim 60 = .ok (.iload 5, 2) ∧ decode cX12_victim 62 = .ok (.istore_n 3, 1) ∧ decode cX12_victim 63 = .ok (.iinc 4 1, 3) ∧ decode cX12_victim 66 = .ok (.goto (-47), 3) ∧ decode cX12_victim 69 = .ok (.iload_n 1, 1) ∧ decode cX12_victim 70 = .ok (.ifCond .ne 7, 3) ∧ decode cX12_victim 73 = .ok (.iload_n 2, 1) ∧ decode cX12_victim 74 = .ok (.goto 4, 3) := by decide +kernel
theorem eX12_victim_77 : decode cX12_victim 77 = .ok (.iload_n 3, 1) ∧ decode cX12_victim 78 = .ok (.ireturn, 1) ∧ decode cX12_worst 0 = .ok (.iload_n 1, 1) ∧ decode cX12_worst 1 = .ok (.i2l, 1) ∧ decode cX12_worst 2 = .ok (.lconst 0, 1) ∧ decode cX12_worst 3 = .ok (.lconst 1, 1) ∧ decode cX12_worst 4 = .ok (.invokestatic 309, 3) ∧ decode cX12_worst 7 = .ok (.ifCond .ne 5, 3) := by decide +kernel
theorem eX12_worst_10 : decode cX12_worst 10 = .ok (.iconst (-1), 1) ∧ decode cX12_worst 11 = .ok (.ireturn, 1) ∧ decode cX12_worst 12 = .ok (.aload_n 0, 1) ∧ decode cX12_worst 13 = .ok (.invokevirtual 638, 3) ∧ decode cX12_worst 16 = .ok (.iconst 0, 1) ∧ decode cX12_worst 17 = .ok (.istore_n 2, 1) ∧ decode cX12_worst 18 = .ok (.iconst 1, 1) ∧ decode cX12_worst 19 = .ok (.istore_n 3, 1) := by decide +kernel
theorem eX12_worst_20 : decode cX12_worst 20 = .ok (.iload_n 3, 1) ∧ decode cX12_worst 21 = .ok (.bipush 48, 2) ∧ decode cX12_worst 23 = .ok (.if_icmp .ge 26, 3) ∧ decode cX12_worst 26 = .ok (.aload_n 0, 1) ∧ decode cX12_worst 27 = .ok (.getfield 164, 3) ∧ decode cX12_worst 30 = .ok (.iload_n 3, 1) ∧ decode cX12_worst 31 = .ok (.iaload, 1) ∧ decode cX12_worst 32 = .ok (.aload_n 0, 1) := by decide +kernel
theorem eX12_worst_33 : decode cX12_worst 33 = .ok (.getfield 164, 3) ∧ decode cX12_worst 36 = .ok (.iload_n 2, 1) ∧ decode cX12_worst 37 = .ok (.iaload, 1) ∧ decode cX12_worst 38 = .ok (.if_icmp .le 5, 3) ∧ decode cX12_worst 41 = .ok (.iload_n 3, 1) ∧ decode cX12_worst 42 = .ok (.istore_n 2, 1) ∧ decode cX12_worst 43 = .ok (.iinc 3 1, 3) ∧ decode cX12_worst 46 = .ok (.goto (-26), 3) := by decide +kernel
theorem eX12_worst_49 : decode cX12_worst 49 = .ok (.aload_n 0, 1) ∧ decode cX12_worst 50 = .ok (.getfield 164, 3) ∧ decode cX12_worst 53 = .ok (.iload_n 2, 1) ∧ decode cX12_worst 54 = .ok (.iaload, 1) ∧ decode cX12_worst 55 = .ok (.ifCond .ne 7, 3) ∧ decode cX12_worst 58 = .ok (.iconst (-1), 1) ∧ decode cX12_worst 59 = .ok (.goto 17, 3) ∧ decode cX12_worst 62 = .ok (.iload_n 1, 1) := by decide +kernel
theorem eX12_worst_63 : decode cX12_worst 63 = .ok (.ifCond .ne 7, 3) ∧ decode cX12_worst 66 = .ok (.iload_n 2, 1) ∧ decode cX12_worst 67 = .ok (.goto 9, 3) ∧ decode cX12_worst 70 = .ok (.aload_n 0, 1) ∧ decode cX12_worst 71 = .ok (.getfield 164, 3) ∧ decode cX12_worst 74 = .ok (.iload_n 2, 1) ∧ decode cX12_worst 75 = .ok (.iaload, 1) ∧ decode cX12_worst 76 = .ok (.ireturn, 1) := by decide +kernel
set_option maxHeartbeats 4000000 in
set_option maxRecDepth 100000 in
theorem k_x12_spread (l : Launch) (D : va_G) (a : Nat → Nat) (p0 : Int) (p1 : Int) (sz : Nat) (s : MS) (o : (Int × MS)) (h : m_x12_spread p0 p1 s = some o) : yWi l yX12_spread cX12_spread 5 (some .int) { frames := 11, cells := 0, slots := 0, locals := 660 } D sz [.ref (a 200), .int (i2 p0), .int (i2 p1)] (RW D a s) (RW D a o.2) (i2 o.1) := by
  refine Met.ofW (cc := cX12_spread) (maxL := 5) (ret := (some .int)) (by decide) rfl ?_
  intro p e s₀ m args below meth c s₁ B hml hv
  obtain ⟨rfl, ⟨hsz, hP, hK, hD0⟩, hN⟩ := hv
  have hx := B.exec
  have hb := B.bytes
  have hr := B.returns
  have hts := atoms_spec (ws := wz yX12_spread cX12_spread 5 (some .int)) B.pre
  have ht : ∀ w ∈ lw_gd, w.before _ s₀ = true := fun w h => hts w (List.mem_cons_of_mem _ h)
  have hown : s₀.vm.findClass RX12 = some m.cls := findClass_of_methodNamed B.named
  have hlocks := B.notSynchronized
  subst hsz
  have hD := hD0.self (sz := s₀.heap.size)
  generalize hAe : va_A (RW D a s) s₀.heap.size = A at hD ⊢
  have hA : ∀ q : Nat, s₀.heap.size ≤ q → A q := fun q h => by rw [← hAe]; exact Or.inr h
  have hS : va_S A s₀.heap s₀.heap [] := va_S.rf
  have hDD : ∀ t : MS, va_D A (RW D a t) := fun t => RW_D t hD
  have hl := lv_entry ([.ref (a 200), .int (i2 p0), .int (i2 p1)]) (n := 5) (Nat.le_of_ble_eq_true rfl)
  rw [lg_entry_eq]
  generalize (lg_sl ([.ref (a 200), .int (i2 p0), .int (i2 p1)]) ++ List.replicate (5 - (lg_sl ([.ref (a 200), .int (i2 p0), .int (i2 p1)])).length) Slot.unset).toArray = ls at hl ⊢
  have hl : lv_has ls 5 [(0, .ref (a 200)), (1, .int (i2 p0)), (2, .int (i2 p1))] := hl
  unfold m_x12_spread at h
  refine y_loop (pcJ := 21) (σ := Int × Int × Int × Int × MS) (fun n u H locs ls => va_P D vwCl (RW D a u.2.2.2.2) H ∧ va_S A s₀.heap H locs ∧ lv_has ls 5 [(0, .ref (a 200)), (1, .int (i2 u.1)), (2, .int (i2 u.2.1)), (3, .int (i2 u.2.2.1)), (4, .int (i2 u.2.2.2.1))] ∧ m_x12_spread_L21 n u.1 u.2.1 u.2.2.1 u.2.2.2.1 u.2.2.2.2 = some o) (fun u => []) (fun u H locs ls hI => by obtain ⟨_, _, _, h⟩ := hI; cases h) (fun n21 ih21 u H locs ls hI => ?_) (fun J21 => ?_)
  · obtain ⟨hP, hS, hl, h⟩ := hI
    obtain ⟨x1, x2, x3, x4, s5⟩ := u
    have hP : va_P D vwCl (RW D a s5) H := hP
    have hl : lv_has ls 5 [(0, .ref (a 200)), (1, .int (i2 x1)), (2, .int (i2 x2)), (3, .int (i2 x3)), (4, .int (i2 x4))] := hl
    have h : m_x12_spread_b21 (m_x12_spread_L21 n21) x1 x2 x3 x4 s5 = some o := h
    unfold m_x12_spread_b21 at h
    refine y_head (pcJ := 46) (σ := Int × Int × Int × Int × MS) (fun u H locs ls => va_P D vwCl (RW D a u.2.2.2.2) H ∧ va_S A s₀.heap H locs ∧ lv_has ls 5 [(0, .ref (a 200)), (1, .int (i2 u.1)), (2, .int (i2 u.2.1)), (3, .int (i2 u.2.2.1)), (4, .int (i2 u.2.2.2.1))] ∧ m_x12_spread_J46 (m_x12_spread_L21 n21) u.1 u.2.1 u.2.2.1 u.2.2.2.1 u.2.2.2.2 = some o) (fun u => []) (fun u H locs ls hI => ?_) (fun J46 => ?_)
    · obtain ⟨hP, hS, hl, h⟩ := hI
      obtain ⟨x6, x7, x8, x9, s10⟩ := u
      have hP : va_P D vwCl (RW D a s10) H := hP
      have hl : lv_has ls 5 [(0, .ref (a 200)), (1, .int (i2 x6)), (2, .int (i2 x7)), (3, .int (i2 x8)), (4, .int (i2 x9))] := hl
      have h : m_x12_spread_J46 (m_x12_spread_L21 n21) x6 x7 x8 x9 s10 = some o := h
      unfold m_x12_spread_J46 at h
      refine lv_iinc (v := i2 (x9 + 1)) (lv' := [(4, .int (i2 (x9 + 1))), (0, .ref (a 200)), (1, .int (i2 x6)), (2, .int (i2 x7)), (3, .int (i2 x8))]) hx hb eX12_spread_32.2.2.2.2.2.2.1 hl (k := 4) rfl (i2_add x9 1) (by decide) rfl (fun ls hl => ?_)
      refine lv_goto (tgt := 21) hx hb eX12_spread_32.2.2.2.2.2.2.2 (by decide) ?_
      exact ih21 (x6, x7, x8, x9 + 1, s10) _ _ _ ⟨hP, hS, lv_sub hl [1, 2, 3, 4, 0] rfl, h⟩
    refine lv_iload hx hb eX12_spread_18.2.2.1 (lv_at hl 4 rfl) ?_
    refine lv_bipush (v := 100) hx hb eX12_spread_18.2.2.2.1 (by decide) ?_
    obtain ⟨hr11, h⟩ := rg_e h
    refine lv_icmp_ge (tgt := 52) hx hb eX12_spread_18.2.2.2.2.1 (by decide) (fun c12 => ?_) (fun c12 => ?_)
    · have h := if_t ((i2_le (x := 100) (y := x4) (by decide) hr11).mp c12) h
      refine lv_iload_n hx hb eX12_spread_52.1 rfl (lv_at hl 3 rfl) ?_
      obtain rfl := Option.some.inj h
      exact W.iret (v := (i2 x3)) hx hb hr (fun t ht hW => ⟨⟨_, (), rfl, rfl, by rw [ht]; exact hP, va_K.moved hW.alike hK, hDD _⟩, hS.F ht⟩) hS.2.2 eX12_spread_52.2.1
    · have h := if_f (mt (i2_le (x := 100) (y := x4) (by decide) hr11).mpr c12) h
      refine lv_aload_n hx hb eX12_spread_18.2.2.2.2.2.1 rfl (lv_at hl 0 rfl) ?_
      refine lv_iload_n hx hb eX12_spread_18.2.2.2.2.2.2.1 rfl (lv_at hl 1 rfl) ?_
      refine lv_iload hx hb eX12_spread_18.2.2.2.2.2.2.2 (lv_at hl 4 rfl) ?_
      obtain ⟨s14, hc13, h⟩ := bn_e h
      refine ywVv (As := [.int (i2 x1), .int (i2 x4)]) (rest := []) (C := RX12) (n := 2) (ws' := RW D a s14) ⟨hx, hb, hml, hown, ht⟩ (k_x12_laysWrites l D a x1 x4 _ _ _ hc13) (zgV ml_X12_635 im_X12_laysWrites se_X12_laysWrites in_X12 co_X12_laysWrites) rfl rfl (by decide +kernel) ⟨Nat.le_of_ble_eq_true rfl, Nat.le_of_ble_eq_true rfl⟩ hN hK hP (hDD _) hS hA 0 RW_0 rfl rfl rfl hl.1 rfl (Nat.le_of_ble_eq_true rfl) eX12_spread_32.1 ⟨Nat.le_of_ble_eq_true rfl, Nat.le_of_ble_eq_true rfl⟩ (fun H locs hP hS => ?_)
      refine lv_aload_n hx hb eX12_spread_32.2.1 rfl (lv_at hl 0 rfl) ?_
      refine va_get (D := D) (ci := 12) (v := .int (i2 (gI s14 70))) (C := RX12) (T := TX12) (N := 116) hx hb ht inX12 hown hK hP 0 RW_0 rfl 70 (by decide) (ht (.fieldLink RX12 629 "CloneVolumesModel" "writeMany" "I") fl_X12_629) (fun _ h9 => h9) mF_70 eX12_spread_32.2.2.1 ?_
      refine lv_iload_n hx hb eX12_spread_32.2.2.2.1 rfl (lv_at hl 2 rfl) ?_
      obtain ⟨hr15, h⟩ := rg_e h
      obtain ⟨hr16, h⟩ := rg_e h
      refine lv_icmp_ne (tgt := 46) hx hb eX12_spread_32.2.2.2.2.1 (by decide) (fun c17 => ?_) (fun c17 => ?_)
      · have h := if_f (mt (i2_eq (x := (gI s14 70)) (y := x2) hr15 hr16).mpr c17) h
        exact J46 (x1, x2, x3, x4, s14) _ _ _ ⟨hP, hS, lv_sub hl [0, 1, 2, 3, 4] rfl, h⟩
      · have h := if_t ((i2_eq (x := (gI s14 70)) (y := x2) hr15 hr16).mp c17) h
        refine lv_iinc (v := i2 (x3 + 1)) (lv' := [(3, .int (i2 (x3 + 1))), (0, .ref (a 200)), (1, .int (i2 x1)), (2, .int (i2 x2)), (4, .int (i2 x4))]) hx hb eX12_spread_32.2.2.2.2.2.1 hl (k := 3) rfl (i2_add x3 1) (by decide) rfl (fun ls hl => ?_)
        exact J46 (x1, x2, x3 + 1, x4, s14) _ _ _ ⟨hP, hS, lv_sub hl [1, 2, 3, 0, 4] rfl, h⟩
  refine y_head (pcJ := 14) (σ := MS) (fun u H locs ls => va_P D vwCl (RW D a u) H ∧ va_S A s₀.heap H locs ∧ lv_has ls 5 [] ∧ m_x12_spread_J14 u = some o) (fun u => []) (fun u H locs ls hI => ?_) (fun J14 => ?_)
  · obtain ⟨hP, hS, hl, h⟩ := hI
    obtain ⟨s18, rfl⟩ : ∃ z, z = u := ⟨u, rfl⟩
    have hP : va_P D vwCl (RW D a s18) H := hP
    have hl : lv_has ls 5 [] := hl
    have h : m_x12_spread_J14 s18 = some o := h
    unfold m_x12_spread_J14 at h
    refine lv_iconst (v := (-1)) hx hb eX12_spread_6.2.2.2.2.1 (by decide) ?_
    obtain rfl := Option.some.inj h
    exact W.iret (v := (-1)) hx hb hr (fun t ht hW => ⟨⟨_, (), rfl, rfl, by rw [ht]; exact hP, va_K.moved hW.alike hK, hDD _⟩, hS.F ht⟩) hS.2.2 eX12_spread_6.2.2.2.2.2.1
  refine lv_aload_n hx hb eX12_see_167.2.2.2.2.1 rfl (lv_at hl 0 rfl) ?_
  refine lv_iload_n hx hb eX12_see_167.2.2.2.2.2.1 rfl (lv_at hl 1 rfl) ?_
  obtain ⟨hr19, h⟩ := rg_e h
  refine lv_i2l (v := i8 p0) hx hb eX12_see_167.2.2.2.2.2.2.1 (i2_l hr19) ?_
  obtain ⟨r21, hc20, h⟩ := bn_e h
  refine ycV (r0 := i2 r21) (As := [.long (i8 p0)]) (rest := []) (C := RX12) (n := 1) ⟨hx, hb, hml, hown, ht⟩ (k_x12_isVolume l D a p0 _ _ hc20) (zgV ml_X12_571 im_X12_isVolume se_X12_isVolume in_X12 co_X12_isVolume) rfl rfl (by decide +kernel) ⟨Nat.le_of_ble_eq_true rfl, Nat.le_of_ble_eq_true rfl⟩ hN hK hP hS 0 RW_0 rfl rfl rfl hl.1 rfl (Nat.le_of_ble_eq_true rfl) eX12_see_167.2.2.2.2.2.2.2 ⟨Nat.le_of_ble_eq_true rfl, Nat.le_of_ble_eq_true rfl⟩ (fun H locs hP hS => ?_)
  obtain ⟨hr22, h⟩ := rg_e h
  refine lv_if_eq (tgt := 14) hx hb eX12_spread_6.1 (by decide) (fun c23 => ?_) (fun c23 => ?_)
  · have h := if_t ((i2_eq (x := r21) (y := 0) hr22 (by decide)).mp c23) h
    exact J14 s _ _ _ ⟨hP, hS, lv_sub hl [] rfl, h⟩
  · have h := if_f (mt (i2_eq (x := r21) (y := 0) hr22 (by decide)).mpr c23) h
    refine lv_iload_n hx hb eX12_spread_6.2.1 rfl (lv_at hl 2 rfl) ?_
    refine lv_iconst (v := (-1)) hx hb eX12_spread_6.2.2.1 (by decide) ?_
    obtain ⟨hr24, h⟩ := rg_e h
    refine lv_icmp_ge (tgt := 16) hx hb eX12_spread_6.2.2.2.1 (by decide) (fun c25 => ?_) (fun c25 => ?_)
    · rw [show ((-1) : Int32) = i2 (-1) from by decide] at c25
      have h := if_t ((i2_le (x := (-1)) (y := p1) (by decide) hr24).mp c25) h
      refine lv_iconst (v := 0) hx hb eX12_spread_6.2.2.2.2.2.2.1 (by decide) ?_
      refine lv_istore_n (lv' := [(3, .int 0), (0, .ref (a 200)), (1, .int (i2 p0)), (2, .int (i2 p1))]) hx hb eX12_spread_6.2.2.2.2.2.2.2 rfl hl (by decide) rfl (fun ls hl => ?_)
      refine lv_iconst (v := 0) hx hb eX12_spread_18.1 (by decide) ?_
      refine lv_istore (lv' := [(4, .int 0), (3, .int 0), (0, .ref (a 200)), (1, .int (i2 p0)), (2, .int (i2 p1))]) hx hb eX12_spread_18.2.1 hl (by decide) rfl (fun ls hl => ?_)
      exact J21 FU (p0, p1, 0, 0, s) _ _ _ ⟨hP, hS, lv_sub hl [2, 3, 4, 1, 0] rfl, h⟩
    · rw [show ((-1) : Int32) = i2 (-1) from by decide] at c25
      have h := if_f (mt (i2_le (x := (-1)) (y := p1) (by decide) hr24).mpr c25) h
      exact J14 s _ _ _ ⟨hP, hS, lv_sub hl [] rfl, h⟩
set_option maxHeartbeats 4000000 in
set_option maxRecDepth 100000 in
theorem k_x12_laysLost (l : Launch) (D : va_G) (a : Nat → Nat) (sz : Nat) (s : MS) (o : MS) (h : m_x12_laysLost s = some o) : yWv l yX12_laysLost cX12_laysLost 4 none { frames := 3, cells := 0, slots := 0, locals := 180 } D sz [.ref (a 200)] (RW D a s) (RW D a o) := by
  refine Met.ofW (cc := cX12_laysLost) (maxL := 4) (ret := none) (by decide) rfl ?_
  intro p e s₀ m args below meth c s₁ B hml hv
  obtain ⟨rfl, ⟨hsz, hP, hK, hD0⟩, hN⟩ := hv
  have hx := B.exec
  have hb := B.bytes
  have hr := B.returns
  have hts := atoms_spec (ws := wz yX12_laysLost cX12_laysLost 4 none) B.pre
  have ht : ∀ w ∈ lw_gd, w.before _ s₀ = true := fun w h => hts w (List.mem_cons_of_mem _ h)
  have hown : s₀.vm.findClass RX12 = some m.cls := findClass_of_methodNamed B.named
  have hlocks := B.notSynchronized
  subst hsz
  have hD := hD0.self (sz := s₀.heap.size)
  generalize hAe : va_A (RW D a s) s₀.heap.size = A at hD ⊢
  have hA : ∀ q : Nat, s₀.heap.size ≤ q → A q := fun q h => by rw [← hAe]; exact Or.inr h
  have hS : va_S A s₀.heap s₀.heap [] := va_S.rf
  have hDD : ∀ t : MS, va_D A (RW D a t) := fun t => RW_D t hD
  have hl := lv_entry ([.ref (a 200)]) (n := 4) (Nat.le_of_ble_eq_true rfl)
  rw [lg_entry_eq]
  generalize (lg_sl ([.ref (a 200)]) ++ List.replicate (4 - (lg_sl ([.ref (a 200)])).length) Slot.unset).toArray = ls at hl ⊢
  have hl : lv_has ls 4 [(0, .ref (a 200))] := hl
  unfold m_x12_laysLost at h
  refine y_loop (pcJ := 23) (σ := Int × MS) (fun n u H locs ls => va_P D vwCl (RW D a u.2) H ∧ va_S A s₀.heap H locs ∧ lv_has ls 4 [(0, .ref (a 200)), (1, .int (i2 u.1))] ∧ m_x12_laysLost_L23 n u.1 u.2 = some o) (fun u => []) (fun u H locs ls hI => by obtain ⟨_, _, _, h⟩ := hI; cases h) (fun n23 ih23 u H locs ls hI => ?_) (fun J23 => ?_)
  · obtain ⟨hP, hS, hl, h⟩ := hI
    obtain ⟨x1, s2⟩ := u
    have hP : va_P D vwCl (RW D a s2) H := hP
    have hl : lv_has ls 4 [(0, .ref (a 200)), (1, .int (i2 x1))] := hl
    have h : m_x12_laysLost_b23 (m_x12_laysLost_L23 n23) x1 s2 = some o := h
    unfold m_x12_laysLost_b23 at h
    refine y_head (pcJ := 122) (σ := Int × MS) (fun u H locs ls => va_P D vwCl (RW D a u.2) H ∧ va_S A s₀.heap H locs ∧ lv_has ls 4 [(0, .ref (a 200)), (1, .int (i2 u.1))] ∧ m_x12_laysLost_J122 (m_x12_laysLost_L23 n23) u.1 u.2 = some o) (fun u => []) (fun u H locs ls hI => ?_) (fun J122 => ?_)
    · obtain ⟨hP, hS, hl, h⟩ := hI
      obtain ⟨x3, s4⟩ := u
      have hP : va_P D vwCl (RW D a s4) H := hP
      have hl : lv_has ls 4 [(0, .ref (a 200)), (1, .int (i2 x3))] := hl
      have h : m_x12_laysLost_J122 (m_x12_laysLost_L23 n23) x3 s4 = some o := h
      unfold m_x12_laysLost_J122 at h
      refine lv_iinc (v := i2 (x3 + 1)) (lv' := [(1, .int (i2 (x3 + 1))), (0, .ref (a 200))]) hx hb eX12_laysLost_114.2.2.2.2.1 hl (k := 1) rfl (i2_add x3 1) (by decide) rfl (fun ls hl => ?_)
      refine lv_goto (tgt := 23) hx hb eX12_laysLost_114.2.2.2.2.2.1 (by decide) ?_
      exact ih23 (x3 + 1, s4) _ _ _ ⟨hP, hS, lv_sub hl [1, 0] rfl, h⟩
    refine y_loop (pcJ := 53) (σ := Int × Int × MS) (fun n u H locs ls => va_P D vwCl (RW D a u.2.2) H ∧ va_S A s₀.heap H locs ∧ lv_has ls 4 [(0, .ref (a 200)), (1, .int (i2 u.1)), (2, .int (i2 u.2.1))] ∧ m_x12_laysLost_L53 (m_x12_laysLost_L23 n23) n u.1 u.2.1 u.2.2 = some o) (fun u => []) (fun u H locs ls hI => by obtain ⟨_, _, _, h⟩ := hI; cases h) (fun n53 ih53 u H locs ls hI => ?_) (fun J53 => ?_)
    · obtain ⟨hP, hS, hl, h⟩ := hI
      obtain ⟨x5, x6, s7⟩ := u
      have hP : va_P D vwCl (RW D a s7) H := hP
      have hl : lv_has ls 4 [(0, .ref (a 200)), (1, .int (i2 x5)), (2, .int (i2 x6))] := hl
      have h : m_x12_laysLost_b53 (m_x12_laysLost_L23 n23) (m_x12_laysLost_L53 (m_x12_laysLost_L23 n23) n53) x5 x6 s7 = some o := h
      unfold m_x12_laysLost_b53 at h
      refine y_loop (pcJ := 68) (σ := Int × Int × Int × MS) (fun n u H locs ls => va_P D vwCl (RW D a u.2.2.2) H ∧ va_S A s₀.heap H locs ∧ lv_has ls 4 [(0, .ref (a 200)), (1, .int (i2 u.1)), (2, .int (i2 u.2.1)), (3, .int (i2 u.2.2.1))] ∧ m_x12_laysLost_L68 (m_x12_laysLost_L23 n23) (m_x12_laysLost_L53 (m_x12_laysLost_L23 n23) n53) n u.1 u.2.1 u.2.2.1 u.2.2.2 = some o) (fun u => []) (fun u H locs ls hI => by obtain ⟨_, _, _, h⟩ := hI; cases h) (fun n68 ih68 u H locs ls hI => ?_) (fun J68 => ?_)
      · obtain ⟨hP, hS, hl, h⟩ := hI
        obtain ⟨x8, x9, x10, s11⟩ := u
        have hP : va_P D vwCl (RW D a s11) H := hP
        have hl : lv_has ls 4 [(0, .ref (a 200)), (1, .int (i2 x8)), (2, .int (i2 x9)), (3, .int (i2 x10))] := hl
        have h : m_x12_laysLost_b68 (m_x12_laysLost_L23 n23) (m_x12_laysLost_L53 (m_x12_laysLost_L23 n23) n53) (m_x12_laysLost_L68 (m_x12_laysLost_L23 n23) (m_x12_laysLost_L53 (m_x12_laysLost_L23 n23) n53) n68) x8 x9 x10 s11 = some o := h
        unfold m_x12_laysLost_b68 at h
        refine lv_aload_n hx hb eX12_laysLost_66.2.2.1 rfl (lv_at hl 0 rfl) ?_
        refine lv_iload_n hx hb eX12_laysLost_66.2.2.2.1 rfl (lv_at hl 3 rfl) ?_
        obtain ⟨r13, hc12, h⟩ := bn_e h
        refine ycV (r0 := i2 r13) (As := [.int (i2 x10)]) (rest := []) (C := RX12) (n := 1) ⟨hx, hb, hml, hown, ht⟩ (k_x12_levelOf l D a x10 _ _ hc12) (zgV ml_X12_460 im_X12_levelOf se_X12_levelOf in_X12 co_X12_levelOf) rfl rfl (by decide +kernel) ⟨Nat.le_of_ble_eq_true rfl, Nat.le_of_ble_eq_true rfl⟩ hN hK hP hS 0 RW_0 rfl rfl rfl hl.1 rfl (Nat.le_of_ble_eq_true rfl) eX12_laysLost_66.2.2.2.2.1 ⟨Nat.le_of_ble_eq_true rfl, Nat.le_of_ble_eq_true rfl⟩ (fun H locs hP hS => ?_)
        obtain ⟨hr14, h⟩ := rg_e h
        refine lv_if_le (tgt := 106) hx hb eX12_laysLost_66.2.2.2.2.2.1 (by decide) (fun c15 => ?_) (fun c15 => ?_)
        · have h := if_t ((i2_le (x := r13) (y := 0) hr14 (by decide)).mp c15) h
          refine lv_aload_n hx hb eX12_laysLost_102.2.2.1 rfl (lv_at hl 0 rfl) ?_
          refine va_get (D := D) (ci := 12) (v := .ref (a 72)) (C := RX12) (T := TX12) (N := 116) hx hb ht inX12 hown hK hP 0 RW_0 rfl 72 (by decide) (ht (.fieldLink RX12 164 "CloneVolumesModel" "lostBy" "[I") fl_X12_164) (fun _ h9 => h9) mF_72 eX12_laysLost_102.2.2.2.1 ?_
          refine lv_iload_n hx hb eX12_laysLost_102.2.2.2.2.1 rfl (lv_at hl 3 rfl) ?_
          refine lv_dup2_11 hx hb eX12_laysLost_102.2.2.2.2.2.1 rfl rfl ?_
          obtain ⟨y16, ey16, iy16, h⟩ := rdI_e h
          refine ya_iald (i := x10) hx hb hK hP 50 0 RW_50 rfl (by decide) ey16 iy16 eX12_laysLost_102.2.2.2.2.2.2.1 ?_
          refine lv_iconst (v := 1) hx hb eX12_laysLost_102.2.2.2.2.2.2.2 (by decide) ?_
          refine lv_iadd hx hb eX12_laysLost_114.1 ?_
          refine z_topi (y := i2 (y16 + 1)) (i2_add y16 1) ?_
          obtain ⟨hi17, h⟩ := inb_e h
          refine ya_iast (i := x10) (x := (y16 + 1)) hx hb hK hP (hDD _) hS 50 0 RW_50 rfl (by decide) hi17 eX12_laysLost_114.2.1 (RW_w50 _) (fun H locs hP hS => ?_)
          obtain ⟨s18, hs18, h⟩ := st_e h
          rw [hs18] at hP
          refine lv_iinc (v := i2 (x9 + 1)) (lv' := [(2, .int (i2 (x9 + 1))), (0, .ref (a 200)), (1, .int (i2 x8)), (3, .int (i2 x10))]) hx hb eX12_laysLost_114.2.2.1 hl (k := 2) rfl (i2_add x9 1) (by decide) rfl (fun ls hl => ?_)
          refine lv_goto (tgt := 53) hx hb eX12_laysLost_114.2.2.2.1 (by decide) ?_
          exact ih53 (x8, x9 + 1, s18) _ _ _ ⟨hP, hS, lv_sub hl [1, 2, 0] rfl, h⟩
        · have h := if_f (mt (i2_le (x := r13) (y := 0) hr14 (by decide)).mpr c15) h
          refine lv_aload_n hx hb eX12_laysLost_66.2.2.2.2.2.2.1 rfl (lv_at hl 0 rfl) ?_
          refine va_get (D := D) (ci := 12) (v := .ref (a 72)) (C := RX12) (T := TX12) (N := 116) hx hb ht inX12 hown hK hP 0 RW_0 rfl 72 (by decide) (ht (.fieldLink RX12 164 "CloneVolumesModel" "lostBy" "[I") fl_X12_164) (fun _ h9 => h9) mF_72 eX12_laysLost_66.2.2.2.2.2.2.2 ?_
          refine lv_iload_n hx hb eX12_laysLost_80.1 rfl (lv_at hl 3 rfl) ?_
          refine lv_dup2_11 hx hb eX12_laysLost_80.2.1 rfl rfl ?_
          obtain ⟨y19, ey19, iy19, h⟩ := rdI_e h
          refine ya_iald (i := x10) hx hb hK hP 50 0 RW_50 rfl (by decide) ey19 iy19 eX12_laysLost_80.2.2.1 ?_
          refine lv_iconst (v := 1) hx hb eX12_laysLost_80.2.2.2.1 (by decide) ?_
          refine lv_iadd hx hb eX12_laysLost_80.2.2.2.2.1 ?_
          refine z_topi (y := i2 (y19 + 1)) (i2_add y19 1) ?_
          obtain ⟨hi20, h⟩ := inb_e h
          refine ya_iast (i := x10) (x := (y19 + 1)) hx hb hK hP (hDD _) hS 50 0 RW_50 rfl (by decide) hi20 eX12_laysLost_80.2.2.2.2.2.1 (RW_w50 _) (fun H locs hP hS => ?_)
          obtain ⟨s21, hs21, h⟩ := st_e h
          rw [hs21] at hP
          refine lv_aload_n hx hb eX12_laysLost_80.2.2.2.2.2.2.1 rfl (lv_at hl 0 rfl) ?_
          refine lv_iload_n hx hb eX12_laysLost_80.2.2.2.2.2.2.2 rfl (lv_at hl 3 rfl) ?_
          refine lv_aload_n hx hb eX12_laysLost_88.1 rfl (lv_at hl 0 rfl) ?_
          refine lv_iload_n hx hb eX12_laysLost_88.2.1 rfl (lv_at hl 3 rfl) ?_
          refine lv_aload_n hx hb eX12_laysLost_88.2.2.1 rfl (lv_at hl 0 rfl) ?_
          refine va_get (D := D) (ci := 12) (v := .ref (a 64)) (C := RX12) (T := TX12) (N := 116) hx hb ht inX12 hown hK hP 0 RW_0 rfl 64 (by decide) (ht (.fieldLink RX12 152 "CloneVolumesModel" "keyRow" "[I") fl_X12_152) (fun _ h9 => h9) mF_64 eX12_laysLost_88.2.2.2.1 ?_
          refine lv_iload_n hx hb eX12_laysLost_88.2.2.2.2.1 rfl (lv_at hl 2 rfl) ?_
          obtain ⟨y22, ey22, iy22, h⟩ := rdI_e h
          refine ya_iald (i := x9) hx hb hK hP 46 0 RW_46 rfl (by decide) ey22 iy22 eX12_laysLost_88.2.2.2.2.2.1 ?_
          obtain ⟨r24, hc23, h⟩ := bn_e h
          refine ycV (r0 := i2 r24) (As := [.int (i2 x10), .int (i2 y22)]) (rest := [.int (i2 x10), .ref (a 200)]) (C := RX12) (n := 2) ⟨hx, hb, hml, hown, ht⟩ (k_x12_placeFor l D a x10 y22 _ _ hc23) (zgV ml_X12_543 im_X12_placeFor se_X12_placeFor in_X12 co_X12_placeFor) rfl rfl (by decide +kernel) ⟨Nat.le_of_ble_eq_true rfl, Nat.le_of_ble_eq_true rfl⟩ hN hK hP hS 0 RW_0 rfl rfl rfl hl.1 rfl (Nat.le_of_ble_eq_true rfl) eX12_laysLost_88.2.2.2.2.2.2.1 ⟨Nat.le_of_ble_eq_true rfl, Nat.le_of_ble_eq_true rfl⟩ (fun H locs hP hS => ?_)
          obtain ⟨r26, hc25, h⟩ := bn_e h
          refine ycV (r0 := i2 r26) (As := [.int (i2 x10), .int (i2 r24)]) (rest := []) (C := RX12) (n := 2) ⟨hx, hb, hml, hown, ht⟩ (k_x12_valueAt l D a x10 r24 _ _ hc25) (zgV ml_X12_505 im_X12_valueAt se_X12_valueAt in_X12 co_X12_valueAt) rfl rfl (by decide +kernel) ⟨Nat.le_of_ble_eq_true rfl, Nat.le_of_ble_eq_true rfl⟩ hN hK hP hS 0 RW_0 rfl rfl rfl hl.1 rfl (Nat.le_of_ble_eq_true rfl) eX12_laysLost_88.2.2.2.2.2.2.2 ⟨Nat.le_of_ble_eq_true rfl, Nat.le_of_ble_eq_true rfl⟩ (fun H locs hP hS => ?_)
          refine lv_istore_n (lv' := [(3, .int (i2 r26)), (0, .ref (a 200)), (1, .int (i2 x8)), (2, .int (i2 x9))]) hx hb eX12_laysLost_102.1 rfl hl (by decide) rfl (fun ls hl => ?_)
          refine lv_goto (tgt := 68) hx hb eX12_laysLost_102.2.1 (by decide) ?_
          exact ih68 (x8, x9, r26, s21) _ _ _ ⟨hP, hS, lv_sub hl [1, 2, 3, 0] rfl, h⟩
      refine lv_iload_n hx hb eX12_laysLost_52.2.1 rfl (lv_at hl 2 rfl) ?_
      refine lv_aload_n hx hb eX12_laysLost_52.2.2.1 rfl (lv_at hl 0 rfl) ?_
      refine va_get (D := D) (ci := 12) (v := .int (i2 (gI s7 67))) (C := RX12) (T := TX12) (N := 116) hx hb ht inX12 hown hK hP 0 RW_0 rfl 67 (by decide) (ht (.fieldLink RX12 592 "CloneVolumesModel" "keyMany" "I") fl_X12_592) (fun _ h9 => h9) mF_67 eX12_laysLost_52.2.2.2.1 ?_
      obtain ⟨hr27, h⟩ := rg_e h
      obtain ⟨hr28, h⟩ := rg_e h
      refine lv_icmp_ge (tgt := 122) hx hb eX12_laysLost_52.2.2.2.2.1 (by decide) (fun c29 => ?_) (fun c29 => ?_)
      · have h := if_t ((i2_le (x := (gI s7 67)) (y := x6) hr28 hr27).mp c29) h
        exact J122 (x5, s7) _ _ _ ⟨hP, hS, lv_sub hl [0, 1] rfl, h⟩
      · have h := if_f (mt (i2_le (x := (gI s7 67)) (y := x6) hr28 hr27).mpr c29) h
        refine lv_aload_n hx hb eX12_laysLost_52.2.2.2.2.2.1 rfl (lv_at hl 0 rfl) ?_
        refine va_get (D := D) (ci := 12) (v := .ref (a 49)) (C := RX12) (T := TX12) (N := 116) hx hb ht inX12 hown hK hP 0 RW_0 rfl 49 (by decide) (ht (.fieldLink RX12 121 "CloneVolumesModel" "now" "[I") fl_X12_121) (fun _ h9 => h9) mF_49 eX12_laysLost_52.2.2.2.2.2.2.1 ?_
        refine lv_iload_n hx hb eX12_laysLost_52.2.2.2.2.2.2.2 rfl (lv_at hl 1 rfl) ?_
        obtain ⟨y30, ey30, iy30, h⟩ := rdI_e h
        refine ya_iald (i := x5) hx hb hK hP 36 0 RW_36 rfl (by decide) ey30 iy30 eX12_laysLost_66.1 ?_
        refine lv_istore_n (lv' := [(3, .int (i2 y30)), (0, .ref (a 200)), (1, .int (i2 x5)), (2, .int (i2 x6))]) hx hb eX12_laysLost_66.2.1 rfl hl (by decide) rfl (fun ls hl => ?_)
        exact J68 FU (x5, x6, y30, s7) _ _ _ ⟨hP, hS, lv_sub hl [1, 2, 3, 0] rfl, h⟩
    refine lv_iload_n hx hb eX12_laysLost_23.1 rfl (lv_at hl 1 rfl) ?_
    refine lv_bipush (v := 8) hx hb eX12_laysLost_23.2.1 (by decide) ?_
    obtain ⟨hr31, h⟩ := rg_e h
    refine lv_icmp_ge (tgt := 128) hx hb eX12_laysLost_23.2.2.1 (by decide) (fun c32 => ?_) (fun c32 => ?_)
    · have h := if_t ((i2_le (x := 8) (y := x1) (by decide) hr31).mp c32) h
      obtain rfl := Option.some.inj h
      exact W.vret hx hb hr (fun t ht hW => ⟨⟨(), rfl, trivial, by rw [ht]; exact hP, va_K.moved hW.alike hK, hDD _⟩, hS.F ht⟩) hS.2.2 eX12_laysLost_114.2.2.2.2.2.2.1
    · have h := if_f (mt (i2_le (x := 8) (y := x1) (by decide) hr31).mpr c32) h
      refine lv_aload_n hx hb eX12_laysLost_23.2.2.2.1 rfl (lv_at hl 0 rfl) ?_
      refine lv_iload_n hx hb eX12_laysLost_23.2.2.2.2.1 rfl (lv_at hl 1 rfl) ?_
      obtain ⟨hr33, h⟩ := rg_e h
      refine lv_i2l (v := i8 x1) hx hb eX12_laysLost_23.2.2.2.2.2.1 (i2_l hr33) ?_
      obtain ⟨r35, hc34, h⟩ := bn_e h
      refine ycV (r0 := i2 r35) (As := [.long (i8 x1)]) (rest := []) (C := RX12) (n := 1) ⟨hx, hb, hml, hown, ht⟩ (k_x12_isVolume l D a x1 _ _ hc34) (zgV ml_X12_571 im_X12_isVolume se_X12_isVolume in_X12 co_X12_isVolume) rfl rfl (by decide +kernel) ⟨Nat.le_of_ble_eq_true rfl, Nat.le_of_ble_eq_true rfl⟩ hN hK hP hS 0 RW_0 rfl rfl rfl hl.1 rfl (Nat.le_of_ble_eq_true rfl) eX12_laysLost_23.2.2.2.2.2.2.1 ⟨Nat.le_of_ble_eq_true rfl, Nat.le_of_ble_eq_true rfl⟩ (fun H locs hP hS => ?_)
      obtain ⟨hr36, h⟩ := rg_e h
      refine lv_if_ne (tgt := 41) hx hb eX12_laysLost_23.2.2.2.2.2.2.2 (by decide) (fun c37 => ?_) (fun c37 => ?_)
      · have h := if_f (mt (i2_eq (x := r35) (y := 0) hr36 (by decide)).mpr c37) h
        refine lv_aload_n hx hb eX12_laysLost_38.2.1 rfl (lv_at hl 0 rfl) ?_
        refine lv_aload_n hx hb eX12_laysLost_38.2.2.1 rfl (lv_at hl 0 rfl) ?_
        refine va_get (D := D) (ci := 12) (v := .ref (a 49)) (C := RX12) (T := TX12) (N := 116) hx hb ht inX12 hown hK hP 0 RW_0 rfl 49 (by decide) (ht (.fieldLink RX12 121 "CloneVolumesModel" "now" "[I") fl_X12_121) (fun _ h9 => h9) mF_49 eX12_laysLost_38.2.2.2.1 ?_
        refine lv_iload_n hx hb eX12_laysLost_38.2.2.2.2.1 rfl (lv_at hl 1 rfl) ?_
        obtain ⟨y38, ey38, iy38, h⟩ := rdI_e h
        refine ya_iald (i := x1) hx hb hK hP 36 0 RW_36 rfl (by decide) ey38 iy38 eX12_laysLost_38.2.2.2.2.2.1 ?_
        obtain ⟨s40, hc39, h⟩ := bn_e h
        refine ywVv (As := [.int (i2 y38)]) (rest := []) (C := RX12) (n := 1) (ws' := RW D a s40) ⟨hx, hb, hml, hown, ht⟩ (k_x12_laysTree l D a y38 _ _ _ hc39) (zgV ml_X12_610 im_X12_laysTree se_X12_laysTree in_X12 co_X12_laysTree) rfl rfl (by decide +kernel) ⟨Nat.le_of_ble_eq_true rfl, Nat.le_of_ble_eq_true rfl⟩ hN hK hP (hDD _) hS hA 0 RW_0 rfl rfl rfl hl.1 rfl (Nat.le_of_ble_eq_true rfl) eX12_laysLost_38.2.2.2.2.2.2.1 ⟨Nat.le_of_ble_eq_true rfl, Nat.le_of_ble_eq_true rfl⟩ (fun H locs hP hS => ?_)
        refine lv_iconst (v := 0) hx hb eX12_laysLost_38.2.2.2.2.2.2.2 (by decide) ?_
        refine lv_istore_n (lv' := [(2, .int 0), (0, .ref (a 200)), (1, .int (i2 x1))]) hx hb eX12_laysLost_52.1 rfl hl (by decide) rfl (fun ls hl => ?_)
        exact J53 FU (x1, 0, s40) _ _ _ ⟨hP, hS, lv_sub hl [1, 2, 0] rfl, h⟩
      · have h := if_t ((i2_eq (x := r35) (y := 0) hr36 (by decide)).mp c37) h
        refine lv_goto (tgt := 122) hx hb eX12_laysLost_38.1 (by decide) ?_
        exact J122 (x1, s2) _ _ _ ⟨hP, hS, lv_sub hl [0, 1] rfl, h⟩
  refine y_loop (pcJ := 2) (σ := Int × MS) (fun n u H locs ls => va_P D vwCl (RW D a u.2) H ∧ va_S A s₀.heap H locs ∧ lv_has ls 4 [(0, .ref (a 200)), (1, .int (i2 u.1))] ∧ m_x12_laysLost_L2 n u.1 u.2 = some o) (fun u => []) (fun u H locs ls hI => by obtain ⟨_, _, _, h⟩ := hI; cases h) (fun n2 ih2 u H locs ls hI => ?_) (fun J2 => ?_)
  · obtain ⟨hP, hS, hl, h⟩ := hI
    obtain ⟨x41, s42⟩ := u
    have hP : va_P D vwCl (RW D a s42) H := hP
    have hl : lv_has ls 4 [(0, .ref (a 200)), (1, .int (i2 x41))] := hl
    have h : m_x12_laysLost_b2 (m_x12_laysLost_L2 n2) x41 s42 = some o := h
    unfold m_x12_laysLost_b2 at h
    refine lv_iload_n hx hb eX12_fits_53.2.2.2.2.1 rfl (lv_at hl 1 rfl) ?_
    refine lv_bipush (v := 48) hx hb eX12_fits_53.2.2.2.2.2.1 (by decide) ?_
    obtain ⟨hr43, h⟩ := rg_e h
    refine lv_icmp_ge (tgt := 21) hx hb eX12_fits_53.2.2.2.2.2.2.1 (by decide) (fun c44 => ?_) (fun c44 => ?_)
    · have h := if_t ((i2_le (x := 48) (y := x41) (by decide) hr43).mp c44) h
      refine lv_iconst (v := 0) hx hb eX12_laysLost_9.2.2.2.2.2.2.1 (by decide) ?_
      refine lv_istore_n (lv' := [(1, .int 0), (0, .ref (a 200))]) hx hb eX12_laysLost_9.2.2.2.2.2.2.2 rfl hl (by decide) rfl (fun ls hl => ?_)
      exact J23 FU (0, s42) _ _ _ ⟨hP, hS, lv_sub hl [1, 0] rfl, h⟩
    · have h := if_f (mt (i2_le (x := 48) (y := x41) (by decide) hr43).mpr c44) h
      refine lv_aload_n hx hb eX12_fits_53.2.2.2.2.2.2.2 rfl (lv_at hl 0 rfl) ?_
      refine va_get (D := D) (ci := 12) (v := .ref (a 72)) (C := RX12) (T := TX12) (N := 116) hx hb ht inX12 hown hK hP 0 RW_0 rfl 72 (by decide) (ht (.fieldLink RX12 164 "CloneVolumesModel" "lostBy" "[I") fl_X12_164) (fun _ h9 => h9) mF_72 eX12_laysLost_9.1 ?_
      refine lv_iload_n hx hb eX12_laysLost_9.2.1 rfl (lv_at hl 1 rfl) ?_
      refine lv_iconst (v := 0) hx hb eX12_laysLost_9.2.2.1 (by decide) ?_
      obtain ⟨hi45, h⟩ := inb_e h
      refine ya_iast (i := x41) (x := 0) hx hb hK hP (hDD _) hS 50 0 RW_50 rfl (by decide) hi45 eX12_laysLost_9.2.2.2.1 (RW_w50 _) (fun H locs hP hS => ?_)
      obtain ⟨s46, hs46, h⟩ := st_e h
      rw [hs46] at hP
      refine lv_iinc (v := i2 (x41 + 1)) (lv' := [(1, .int (i2 (x41 + 1))), (0, .ref (a 200))]) hx hb eX12_laysLost_9.2.2.2.2.1 hl (k := 1) rfl (i2_add x41 1) (by decide) rfl (fun ls hl => ?_)
      refine lv_goto (tgt := 2) hx hb eX12_laysLost_9.2.2.2.2.2.1 (by decide) ?_
      exact ih2 (x41 + 1, s46) _ _ _ ⟨hP, hS, lv_sub hl [1, 0] rfl, h⟩
  refine lv_iconst (v := 0) hx hb eX12_fits_53.2.2.1 (by decide) ?_
  refine lv_istore_n (lv' := [(1, .int 0), (0, .ref (a 200))]) hx hb eX12_fits_53.2.2.2.1 rfl hl (by decide) rfl (fun ls hl => ?_)
  exact J2 FU (0, s) _ _ _ ⟨hP, hS, lv_sub hl [1, 0] rfl, h⟩
set_option maxHeartbeats 4000000 in
set_option maxRecDepth 100000 in
theorem k_x12_lost (l : Launch) (D : va_G) (a : Nat → Nat) (p0 : Int) (sz : Nat) (s : MS) (o : (Int × MS)) (h : m_x12_lost p0 s = some o) : yWi l yX12_lost cX12_lost 2 (some .int) { frames := 4, cells := 0, slots := 0, locals := 240 } D sz [.ref (a 200), .int (i2 p0)] (RW D a s) (RW D a o.2) (i2 o.1) := by
  refine Met.ofW (cc := cX12_lost) (maxL := 2) (ret := (some .int)) (by decide) rfl ?_
  intro p e s₀ m args below meth c s₁ B hml hv
  obtain ⟨rfl, ⟨hsz, hP, hK, hD0⟩, hN⟩ := hv
  have hx := B.exec
  have hb := B.bytes
  have hr := B.returns
  have hts := atoms_spec (ws := wz yX12_lost cX12_lost 2 (some .int)) B.pre
  have ht : ∀ w ∈ lw_gd, w.before _ s₀ = true := fun w h => hts w (List.mem_cons_of_mem _ h)
  have hown : s₀.vm.findClass RX12 = some m.cls := findClass_of_methodNamed B.named
  have hlocks := B.notSynchronized
  subst hsz
  have hD := hD0.self (sz := s₀.heap.size)
  generalize hAe : va_A (RW D a s) s₀.heap.size = A at hD ⊢
  have hA : ∀ q : Nat, s₀.heap.size ≤ q → A q := fun q h => by rw [← hAe]; exact Or.inr h
  have hS : va_S A s₀.heap s₀.heap [] := va_S.rf
  have hDD : ∀ t : MS, va_D A (RW D a t) := fun t => RW_D t hD
  have hl := lv_entry ([.ref (a 200), .int (i2 p0)]) (n := 2) (Nat.le_of_ble_eq_true rfl)
  rw [lg_entry_eq]
  generalize (lg_sl ([.ref (a 200), .int (i2 p0)]) ++ List.replicate (2 - (lg_sl ([.ref (a 200), .int (i2 p0)])).length) Slot.unset).toArray = ls at hl ⊢
  have hl : lv_has ls 2 [(0, .ref (a 200)), (1, .int (i2 p0))] := hl
  unfold m_x12_lost at h
  refine lv_aload_n hx hb eX12_laysLost_114.2.2.2.2.2.2.2 rfl (lv_at hl 0 rfl) ?_
  refine lv_iload_n hx hb eX12_lost_1.1 rfl (lv_at hl 1 rfl) ?_
  obtain ⟨hr1, h⟩ := rg_e h
  refine lv_i2l (v := i8 p0) hx hb eX12_lost_1.2.1 (i2_l hr1) ?_
  obtain ⟨r3, hc2, h⟩ := bn_e h
  refine ycV (r0 := i2 r3) (As := [.long (i8 p0)]) (rest := []) (C := RX12) (n := 1) ⟨hx, hb, hml, hown, ht⟩ (k_x12_isBlock l D a p0 _ _ hc2) (zgV ml_X12_616 im_X12_isBlock se_X12_isBlock in_X12 co_X12_isBlock) rfl rfl (by decide +kernel) ⟨Nat.le_of_ble_eq_true rfl, Nat.le_of_ble_eq_true rfl⟩ hN hK hP hS 0 RW_0 rfl rfl rfl hl.1 rfl (Nat.le_of_ble_eq_true rfl) eX12_lost_1.2.2.1 ⟨Nat.le_of_ble_eq_true rfl, Nat.le_of_ble_eq_true rfl⟩ (fun H locs hP hS => ?_)
  obtain ⟨hr4, h⟩ := rg_e h
  refine lv_if_ne (tgt := 11) hx hb eX12_lost_1.2.2.2.1 (by decide) (fun c5 => ?_) (fun c5 => ?_)
  · have h := if_f (mt (i2_eq (x := r3) (y := 0) hr4 (by decide)).mpr c5) h
    refine lv_aload_n hx hb eX12_lost_1.2.2.2.2.2.2.1 rfl (lv_at hl 0 rfl) ?_
    obtain ⟨s7, hc6, h⟩ := bn_e h
    refine ywVv (As := []) (rest := []) (C := RX12) (n := 0) (ws' := RW D a s7) ⟨hx, hb, hml, hown, ht⟩ (k_x12_laysLost l D a _ _ _ hc6) (zgV ml_X12_638 im_X12_laysLost se_X12_laysLost in_X12 co_X12_laysLost) rfl rfl (by decide +kernel) ⟨Nat.le_of_ble_eq_true rfl, Nat.le_of_ble_eq_true rfl⟩ hN hK hP (hDD _) hS hA 0 RW_0 rfl rfl rfl hl.1 rfl (Nat.le_of_ble_eq_true rfl) eX12_lost_1.2.2.2.2.2.2.2 ⟨Nat.le_of_ble_eq_true rfl, Nat.le_of_ble_eq_true rfl⟩ (fun H locs hP hS => ?_)
    refine lv_aload_n hx hb eX12_lost_15.1 rfl (lv_at hl 0 rfl) ?_
    refine va_get (D := D) (ci := 12) (v := .ref (a 72)) (C := RX12) (T := TX12) (N := 116) hx hb ht inX12 hown hK hP 0 RW_0 rfl 72 (by decide) (ht (.fieldLink RX12 164 "CloneVolumesModel" "lostBy" "[I") fl_X12_164) (fun _ h9 => h9) mF_72 eX12_lost_15.2.1 ?_
    refine lv_iload_n hx hb eX12_lost_15.2.2.1 rfl (lv_at hl 1 rfl) ?_
    obtain ⟨y8, ey8, iy8, h⟩ := rdI_e h
    refine ya_iald (i := p0) hx hb hK hP 50 0 RW_50 rfl (by decide) ey8 iy8 eX12_lost_15.2.2.2.1 ?_
    obtain rfl := Option.some.inj h
    exact W.iret (v := (i2 y8)) hx hb hr (fun t ht hW => ⟨⟨_, (), rfl, rfl, by rw [ht]; exact hP, va_K.moved hW.alike hK, hDD _⟩, hS.F ht⟩) hS.2.2 eX12_lost_15.2.2.2.2.1
  · have h := if_t ((i2_eq (x := r3) (y := 0) hr4 (by decide)).mp c5) h
    refine lv_iconst (v := (-1)) hx hb eX12_lost_1.2.2.2.2.1 (by decide) ?_
    obtain rfl := Option.some.inj h
    exact W.iret (v := (-1)) hx hb hr (fun t ht hW => ⟨⟨_, (), rfl, rfl, by rw [ht]; exact hP, va_K.moved hW.alike hK, hDD _⟩, hS.F ht⟩) hS.2.2 eX12_lost_1.2.2.2.2.2.1
set_option maxHeartbeats 4000000 in
set_option maxRecDepth 100000 in
theorem k_x12_worst (l : Launch) (D : va_G) (a : Nat → Nat) (p0 : Int) (sz : Nat) (s : MS) (o : (Int × MS)) (h : m_x12_worst p0 s = some o) : yWi l yX12_worst cX12_worst 4 (some .int) { frames := 4, cells := 0, slots := 0, locals := 240 } D sz [.ref (a 200), .int (i2 p0)] (RW D a s) (RW D a o.2) (i2 o.1) := by
  refine Met.ofW (cc := cX12_worst) (maxL := 4) (ret := (some .int)) (by decide) rfl ?_
  intro p e s₀ m args below meth c s₁ B hml hv
  obtain ⟨rfl, ⟨hsz, hP, hK, hD0⟩, hN⟩ := hv
  have hx := B.exec
  have hb := B.bytes
  have hr := B.returns
  have hts := atoms_spec (ws := wz yX12_worst cX12_worst 4 (some .int)) B.pre
  have ht : ∀ w ∈ lw_gd, w.before _ s₀ = true := fun w h => hts w (List.mem_cons_of_mem _ h)
  have hown : s₀.vm.findClass RX12 = some m.cls := findClass_of_methodNamed B.named
  have hlocks := B.notSynchronized
  subst hsz
  have hD := hD0.self (sz := s₀.heap.size)
  generalize hAe : va_A (RW D a s) s₀.heap.size = A at hD ⊢
  have hA : ∀ q : Nat, s₀.heap.size ≤ q → A q := fun q h => by rw [← hAe]; exact Or.inr h
  have hS : va_S A s₀.heap s₀.heap [] := va_S.rf
  have hDD : ∀ t : MS, va_D A (RW D a t) := fun t => RW_D t hD
  have hl := lv_entry ([.ref (a 200), .int (i2 p0)]) (n := 4) (Nat.le_of_ble_eq_true rfl)
  rw [lg_entry_eq]
  generalize (lg_sl ([.ref (a 200), .int (i2 p0)]) ++ List.replicate (4 - (lg_sl ([.ref (a 200), .int (i2 p0)])).length) Slot.unset).toArray = ls at hl ⊢
  have hl : lv_has ls 4 [(0, .ref (a 200)), (1, .int (i2 p0))] := hl
  unfold m_x12_worst at h
  refine y_head (pcJ := 76) (σ := Int × MS) (fun u H locs ls => va_P D vwCl (RW D a u.2) H ∧ va_S A s₀.heap H locs ∧ lv_has ls 4 [] ∧ m_x12_worst_J76 u.1 u.2 = some o) (fun u => [.int (i2 u.1)]) (fun u H locs ls hI => ?_) (fun J76 => ?_)
  · obtain ⟨hP, hS, hl, h⟩ := hI
    obtain ⟨x1, s2⟩ := u
    have hP : va_P D vwCl (RW D a s2) H := hP
    have hl : lv_has ls 4 [] := hl
    have h : m_x12_worst_J76 x1 s2 = some o := h
    unfold m_x12_worst_J76 at h
    obtain rfl := Option.some.inj h
    exact W.iret (v := (i2 x1)) hx hb hr (fun t ht hW => ⟨⟨_, (), rfl, rfl, by rw [ht]; exact hP, va_K.moved hW.alike hK, hDD _⟩, hS.F ht⟩) hS.2.2 eX12_worst_63.2.2.2.2.2.2.2
  refine y_loop (pcJ := 20) (σ := Int × Int × Int × MS) (fun n u H locs ls => va_P D vwCl (RW D a u.2.2.2) H ∧ va_S A s₀.heap H locs ∧ lv_has ls 4 [(0, .ref (a 200)), (1, .int (i2 u.1)), (2, .int (i2 u.2.1)), (3, .int (i2 u.2.2.1))] ∧ m_x12_worst_L20 n u.1 u.2.1 u.2.2.1 u.2.2.2 = some o) (fun u => []) (fun u H locs ls hI => by obtain ⟨_, _, _, h⟩ := hI; cases h) (fun n20 ih20 u H locs ls hI => ?_) (fun J20 => ?_)
  · obtain ⟨hP, hS, hl, h⟩ := hI
    obtain ⟨x3, x4, x5, s6⟩ := u
    have hP : va_P D vwCl (RW D a s6) H := hP
    have hl : lv_has ls 4 [(0, .ref (a 200)), (1, .int (i2 x3)), (2, .int (i2 x4)), (3, .int (i2 x5))] := hl
    have h : m_x12_worst_b20 (m_x12_worst_L20 n20) x3 x4 x5 s6 = some o := h
    unfold m_x12_worst_b20 at h
    refine y_head (pcJ := 43) (σ := Int × Int × Int × MS) (fun u H locs ls => va_P D vwCl (RW D a u.2.2.2) H ∧ va_S A s₀.heap H locs ∧ lv_has ls 4 [(0, .ref (a 200)), (1, .int (i2 u.1)), (2, .int (i2 u.2.1)), (3, .int (i2 u.2.2.1))] ∧ m_x12_worst_J43 (m_x12_worst_L20 n20) u.1 u.2.1 u.2.2.1 u.2.2.2 = some o) (fun u => []) (fun u H locs ls hI => ?_) (fun J43 => ?_)
    · obtain ⟨hP, hS, hl, h⟩ := hI
      obtain ⟨x7, x8, x9, s10⟩ := u
      have hP : va_P D vwCl (RW D a s10) H := hP
      have hl : lv_has ls 4 [(0, .ref (a 200)), (1, .int (i2 x7)), (2, .int (i2 x8)), (3, .int (i2 x9))] := hl
      have h : m_x12_worst_J43 (m_x12_worst_L20 n20) x7 x8 x9 s10 = some o := h
      unfold m_x12_worst_J43 at h
      refine lv_iinc (v := i2 (x9 + 1)) (lv' := [(3, .int (i2 (x9 + 1))), (0, .ref (a 200)), (1, .int (i2 x7)), (2, .int (i2 x8))]) hx hb eX12_worst_33.2.2.2.2.2.2.1 hl (k := 3) rfl (i2_add x9 1) (by decide) rfl (fun ls hl => ?_)
      refine lv_goto (tgt := 20) hx hb eX12_worst_33.2.2.2.2.2.2.2 (by decide) ?_
      exact ih20 (x7, x8, x9 + 1, s10) _ _ _ ⟨hP, hS, lv_sub hl [1, 2, 3, 0] rfl, h⟩
    refine lv_iload_n hx hb eX12_worst_20.1 rfl (lv_at hl 3 rfl) ?_
    refine lv_bipush (v := 48) hx hb eX12_worst_20.2.1 (by decide) ?_
    obtain ⟨hr11, h⟩ := rg_e h
    refine lv_icmp_ge (tgt := 49) hx hb eX12_worst_20.2.2.1 (by decide) (fun c12 => ?_) (fun c12 => ?_)
    · have h := if_t ((i2_le (x := 48) (y := x5) (by decide) hr11).mp c12) h
      refine lv_aload_n hx hb eX12_worst_49.1 rfl (lv_at hl 0 rfl) ?_
      refine va_get (D := D) (ci := 12) (v := .ref (a 72)) (C := RX12) (T := TX12) (N := 116) hx hb ht inX12 hown hK hP 0 RW_0 rfl 72 (by decide) (ht (.fieldLink RX12 164 "CloneVolumesModel" "lostBy" "[I") fl_X12_164) (fun _ h9 => h9) mF_72 eX12_worst_49.2.1 ?_
      refine lv_iload_n hx hb eX12_worst_49.2.2.1 rfl (lv_at hl 2 rfl) ?_
      obtain ⟨y13, ey13, iy13, h⟩ := rdI_e h
      refine ya_iald (i := x4) hx hb hK hP 50 0 RW_50 rfl (by decide) ey13 iy13 eX12_worst_49.2.2.2.1 ?_
      obtain ⟨hr14, h⟩ := rg_e h
      refine lv_if_ne (tgt := 62) hx hb eX12_worst_49.2.2.2.2.1 (by decide) (fun c15 => ?_) (fun c15 => ?_)
      · have h := if_f (mt (i2_eq (x := y13) (y := 0) hr14 (by decide)).mpr c15) h
        refine lv_iload_n hx hb eX12_worst_49.2.2.2.2.2.2.2 rfl (lv_at hl 1 rfl) ?_
        obtain ⟨hr16, h⟩ := rg_e h
        refine lv_if_ne (tgt := 70) hx hb eX12_worst_63.1 (by decide) (fun c17 => ?_) (fun c17 => ?_)
        · have h := if_f (mt (i2_eq (x := x3) (y := 0) hr16 (by decide)).mpr c17) h
          refine lv_aload_n hx hb eX12_worst_63.2.2.2.1 rfl (lv_at hl 0 rfl) ?_
          refine va_get (D := D) (ci := 12) (v := .ref (a 72)) (C := RX12) (T := TX12) (N := 116) hx hb ht inX12 hown hK hP 0 RW_0 rfl 72 (by decide) (ht (.fieldLink RX12 164 "CloneVolumesModel" "lostBy" "[I") fl_X12_164) (fun _ h9 => h9) mF_72 eX12_worst_63.2.2.2.2.1 ?_
          refine lv_iload_n hx hb eX12_worst_63.2.2.2.2.2.1 rfl (lv_at hl 2 rfl) ?_
          obtain ⟨y18, ey18, iy18, h⟩ := rdI_e h
          refine ya_iald (i := x4) hx hb hK hP 50 0 RW_50 rfl (by decide) ey18 iy18 eX12_worst_63.2.2.2.2.2.2.1 ?_
          exact J76 (y18, s6) _ _ _ ⟨hP, hS, lv_sub hl [] rfl, h⟩
        · have h := if_t ((i2_eq (x := x3) (y := 0) hr16 (by decide)).mp c17) h
          refine lv_iload_n hx hb eX12_worst_63.2.1 rfl (lv_at hl 2 rfl) ?_
          refine lv_goto (tgt := 76) hx hb eX12_worst_63.2.2.1 (by decide) ?_
          exact J76 (x4, s6) _ _ _ ⟨hP, hS, lv_sub hl [] rfl, h⟩
      · have h := if_t ((i2_eq (x := y13) (y := 0) hr14 (by decide)).mp c15) h
        refine lv_iconst (v := (-1)) hx hb eX12_worst_49.2.2.2.2.2.1 (by decide) ?_
        refine lv_goto (tgt := 76) hx hb eX12_worst_49.2.2.2.2.2.2.1 (by decide) ?_
        exact J76 ((-1), s6) _ _ _ ⟨hP, hS, lv_sub hl [] rfl, h⟩
    · have h := if_f (mt (i2_le (x := 48) (y := x5) (by decide) hr11).mpr c12) h
      refine lv_aload_n hx hb eX12_worst_20.2.2.2.1 rfl (lv_at hl 0 rfl) ?_
      refine va_get (D := D) (ci := 12) (v := .ref (a 72)) (C := RX12) (T := TX12) (N := 116) hx hb ht inX12 hown hK hP 0 RW_0 rfl 72 (by decide) (ht (.fieldLink RX12 164 "CloneVolumesModel" "lostBy" "[I") fl_X12_164) (fun _ h9 => h9) mF_72 eX12_worst_20.2.2.2.2.1 ?_
      refine lv_iload_n hx hb eX12_worst_20.2.2.2.2.2.1 rfl (lv_at hl 3 rfl) ?_
      obtain ⟨y19, ey19, iy19, h⟩ := rdI_e h
      refine ya_iald (i := x5) hx hb hK hP 50 0 RW_50 rfl (by decide) ey19 iy19 eX12_worst_20.2.2.2.2.2.2.1 ?_
      refine lv_aload_n hx hb eX12_worst_20.2.2.2.2.2.2.2 rfl (lv_at hl 0 rfl) ?_
      refine va_get (D := D) (ci := 12) (v := .ref (a 72)) (C := RX12) (T := TX12) (N := 116) hx hb ht inX12 hown hK hP 0 RW_0 rfl 72 (by decide) (ht (.fieldLink RX12 164 "CloneVolumesModel" "lostBy" "[I") fl_X12_164) (fun _ h9 => h9) mF_72 eX12_worst_33.1 ?_
      refine lv_iload_n hx hb eX12_worst_33.2.1 rfl (lv_at hl 2 rfl) ?_
      obtain ⟨y20, ey20, iy20, h⟩ := rdI_e h
      refine ya_iald (i := x4) hx hb hK hP 50 0 RW_50 rfl (by decide) ey20 iy20 eX12_worst_33.2.2.1 ?_
      obtain ⟨hr21, h⟩ := rg_e h
      obtain ⟨hr22, h⟩ := rg_e h
      refine lv_icmp_le (tgt := 43) hx hb eX12_worst_33.2.2.2.1 (by decide) (fun c23 => ?_) (fun c23 => ?_)
      · have h := if_t ((i2_le (x := y19) (y := y20) hr21 hr22).mp c23) h
        exact J43 (x3, x4, x5, s6) _ _ _ ⟨hP, hS, lv_sub hl [0, 1, 2, 3] rfl, h⟩
      · have h := if_f (mt (i2_le (x := y19) (y := y20) hr21 hr22).mpr c23) h
        refine lv_iload_n hx hb eX12_worst_33.2.2.2.2.1 rfl (lv_at hl 3 rfl) ?_
        refine lv_istore_n (lv' := [(2, .int (i2 x5)), (0, .ref (a 200)), (1, .int (i2 x3)), (3, .int (i2 x5))]) hx hb eX12_worst_33.2.2.2.2.2.1 rfl hl (by decide) rfl (fun ls hl => ?_)
        exact J43 (x3, x5, x5, s6) _ _ _ ⟨hP, hS, lv_sub hl [1, 2, 0, 3] rfl, h⟩
  refine lv_iload_n hx hb eX12_victim_77.2.2.1 rfl (lv_at hl 1 rfl) ?_
  obtain ⟨hr24, h⟩ := rg_e h
  refine lv_i2l (v := i8 p0) hx hb eX12_victim_77.2.2.2.1 (i2_l hr24) ?_
  refine lv_lconst (v := 0) hx hb eX12_victim_77.2.2.2.2.1 (by decide) ?_
  refine lv_lconst (v := 1) hx hb eX12_victim_77.2.2.2.2.2.1 (by decide) ?_
  obtain ⟨r26, hc25, h⟩ := bn_e h
  refine ycS (r0 := i2 r26) (As := [.long (i8 p0), .long 0, .long 1]) (rest := []) (n := 3) ⟨hx, hb, hml, hown, ht⟩ (k_x12_isIn l D a p0 0 1 _ _ hc25) (zgT ml_X12_309 st_X12_isIn in_X12 co_X12_isIn) rfl rfl (by decide +kernel) ⟨Nat.le_of_ble_eq_true rfl, Nat.le_of_ble_eq_true rfl⟩ hN hK hP hS rfl hl.1 rfl (Nat.le_of_ble_eq_true rfl) eX12_victim_77.2.2.2.2.2.2.1 ⟨Nat.le_of_ble_eq_true rfl, Nat.le_of_ble_eq_true rfl⟩ (fun H locs hP hS => ?_)
  obtain ⟨hr27, h⟩ := rg_e h
  refine lv_if_ne (tgt := 12) hx hb eX12_victim_77.2.2.2.2.2.2.2 (by decide) (fun c28 => ?_) (fun c28 => ?_)
  · have h := if_f (mt (i2_eq (x := r26) (y := 0) hr27 (by decide)).mpr c28) h
    refine lv_aload_n hx hb eX12_worst_10.2.2.1 rfl (lv_at hl 0 rfl) ?_
    obtain ⟨s30, hc29, h⟩ := bn_e h
    refine ywVv (As := []) (rest := []) (C := RX12) (n := 0) (ws' := RW D a s30) ⟨hx, hb, hml, hown, ht⟩ (k_x12_laysLost l D a _ _ _ hc29) (zgV ml_X12_638 im_X12_laysLost se_X12_laysLost in_X12 co_X12_laysLost) rfl rfl (by decide +kernel) ⟨Nat.le_of_ble_eq_true rfl, Nat.le_of_ble_eq_true rfl⟩ hN hK hP (hDD _) hS hA 0 RW_0 rfl rfl rfl hl.1 rfl (Nat.le_of_ble_eq_true rfl) eX12_worst_10.2.2.2.1 ⟨Nat.le_of_ble_eq_true rfl, Nat.le_of_ble_eq_true rfl⟩ (fun H locs hP hS => ?_)
    refine lv_iconst (v := 0) hx hb eX12_worst_10.2.2.2.2.1 (by decide) ?_
    refine lv_istore_n (lv' := [(2, .int 0), (0, .ref (a 200)), (1, .int (i2 p0))]) hx hb eX12_worst_10.2.2.2.2.2.1 rfl hl (by decide) rfl (fun ls hl => ?_)
    refine lv_iconst (v := 1) hx hb eX12_worst_10.2.2.2.2.2.2.1 (by decide) ?_
    refine lv_istore_n (lv' := [(3, .int 1), (2, .int 0), (0, .ref (a 200)), (1, .int (i2 p0))]) hx hb eX12_worst_10.2.2.2.2.2.2.2 rfl hl (by decide) rfl (fun ls hl => ?_)
    exact J20 FU (p0, 0, 1, s30) _ _ _ ⟨hP, hS, lv_sub hl [2, 3, 1, 0] rfl, h⟩
  · have h := if_t ((i2_eq (x := r26) (y := 0) hr27 (by decide)).mp c28) h
    refine lv_iconst (v := (-1)) hx hb eX12_worst_10.1 (by decide) ?_
    obtain rfl := Option.some.inj h
    exact W.iret (v := (-1)) hx hb hr (fun t ht hW => ⟨⟨_, (), rfl, rfl, by rw [ht]; exact hP, va_K.moved hW.alike hK, hDD _⟩, hS.F ht⟩) hS.2.2 eX12_worst_10.2.1
set_option maxHeartbeats 4000000 in
set_option maxRecDepth 100000 in
theorem k_x12_victim (l : Launch) (D : va_G) (a : Nat → Nat) (p0 : Int) (sz : Nat) (s : MS) (o : (Int × MS)) (h : m_x12_victim p0 s = some o) : yWi l yX12_victim cX12_victim 6 (some .int) { frames := 5, cells := 0, slots := 0, locals := 300 } D sz [.ref (a 200), .int (i2 p0)] (RW D a s) (RW D a o.2) (i2 o.1) := by
  refine Met.ofW (cc := cX12_victim) (maxL := 6) (ret := (some .int)) (by decide) rfl ?_
  intro p e s₀ m args below meth c s₁ B hml hv
  obtain ⟨rfl, ⟨hsz, hP, hK, hD0⟩, hN⟩ := hv
  have hx := B.exec
  have hb := B.bytes
  have hr := B.returns
  have hts := atoms_spec (ws := wz yX12_victim cX12_victim 6 (some .int)) B.pre
  have ht : ∀ w ∈ lw_gd, w.before _ s₀ = true := fun w h => hts w (List.mem_cons_of_mem _ h)
  have hown : s₀.vm.findClass RX12 = some m.cls := findClass_of_methodNamed B.named
  have hlocks := B.notSynchronized
  subst hsz
  have hD := hD0.self (sz := s₀.heap.size)
  generalize hAe : va_A (RW D a s) s₀.heap.size = A at hD ⊢
  have hA : ∀ q : Nat, s₀.heap.size ≤ q → A q := fun q h => by rw [← hAe]; exact Or.inr h
  have hS : va_S A s₀.heap s₀.heap [] := va_S.rf
  have hDD : ∀ t : MS, va_D A (RW D a t) := fun t => RW_D t hD
  have hl := lv_entry ([.ref (a 200), .int (i2 p0)]) (n := 6) (Nat.le_of_ble_eq_true rfl)
  rw [lg_entry_eq]
  generalize (lg_sl ([.ref (a 200), .int (i2 p0)]) ++ List.replicate (6 - (lg_sl ([.ref (a 200), .int (i2 p0)])).length) Slot.unset).toArray = ls at hl ⊢
  have hl : lv_has ls 6 [(0, .ref (a 200)), (1, .int (i2 p0))] := hl
  unfold m_x12_victim at h
  refine y_head (pcJ := 78) (σ := Int × MS) (fun u H locs ls => va_P D vwCl (RW D a u.2) H ∧ va_S A s₀.heap H locs ∧ lv_has ls 6 [] ∧ m_x12_victim_J78 u.1 u.2 = some o) (fun u => [.int (i2 u.1)]) (fun u H locs ls hI => ?_) (fun J78 => ?_)
  · obtain ⟨hP, hS, hl, h⟩ := hI
    obtain ⟨x1, s2⟩ := u
    have hP : va_P D vwCl (RW D a s2) H := hP
    have hl : lv_has ls 6 [] := hl
    have h : m_x12_victim_J78 x1 s2 = some o := h
    unfold m_x12_victim_J78 at h
    obtain rfl := Option.some.inj h
    exact W.iret (v := (i2 x1)) hx hb hr (fun t ht hW => ⟨⟨_, (), rfl, rfl, by rw [ht]; exact hP, va_K.moved hW.alike hK, hDD _⟩, hS.F ht⟩) hS.2.2 eX12_victim_77.2.1
  refine y_loop (pcJ := 19) (σ := Int × Int × Int × Int × MS) (fun n u H locs ls => va_P D vwCl (RW D a u.2.2.2.2) H ∧ va_S A s₀.heap H locs ∧ lv_has ls 6 [(0, .ref (a 200)), (1, .int (i2 u.1)), (2, .int (i2 u.2.1)), (3, .int (i2 u.2.2.1)), (4, .int (i2 u.2.2.2.1))] ∧ m_x12_victim_L19 n u.1 u.2.1 u.2.2.1 u.2.2.2.1 u.2.2.2.2 = some o) (fun u => []) (fun u H locs ls hI => by obtain ⟨_, _, _, h⟩ := hI; cases h) (fun n19 ih19 u H locs ls hI => ?_) (fun J19 => ?_)
  · obtain ⟨hP, hS, hl, h⟩ := hI
    obtain ⟨x3, x4, x5, x6, s7⟩ := u
    have hP : va_P D vwCl (RW D a s7) H := hP
    have hl : lv_has ls 6 [(0, .ref (a 200)), (1, .int (i2 x3)), (2, .int (i2 x4)), (3, .int (i2 x5)), (4, .int (i2 x6))] := hl
    have h : m_x12_victim_b19 (m_x12_victim_L19 n19) x3 x4 x5 x6 s7 = some o := h
    unfold m_x12_victim_b19 at h
    refine y_head (pcJ := 63) (σ := Int × Int × Int × Int × MS) (fun u H locs ls => va_P D vwCl (RW D a u.2.2.2.2) H ∧ va_S A s₀.heap H locs ∧ lv_has ls 6 [(0, .ref (a 200)), (1, .int (i2 u.1)), (2, .int (i2 u.2.1)), (3, .int (i2 u.2.2.1)), (4, .int (i2 u.2.2.2.1))] ∧ m_x12_victim_J63 (m_x12_victim_L19 n19) u.1 u.2.1 u.2.2.1 u.2.2.2.1 u.2.2.2.2 = some o) (fun u => []) (fun u H locs ls hI => ?_) (fun J63 => ?_)
    · obtain ⟨hP, hS, hl, h⟩ := hI
      obtain ⟨x8, x9, x10, x11, s12⟩ := u
      have hP : va_P D vwCl (RW D a s12) H := hP
      have hl : lv_has ls 6 [(0, .ref (a 200)), (1, .int (i2 x8)), (2, .int (i2 x9)), (3, .int (i2 x10)), (4, .int (i2 x11))] := hl
      have h : m_x12_victim_J63 (m_x12_victim_L19 n19) x8 x9 x10 x11 s12 = some o := h
      unfold m_x12_victim_J63 at h
      refine lv_iinc (v := i2 (x11 + 1)) (lv' := [(4, .int (i2 (x11 + 1))), (0, .ref (a 200)), (1, .int (i2 x8)), (2, .int (i2 x9)), (3, .int (i2 x10))]) hx hb eX12_victim_60.2.2.1 hl (k := 4) rfl (i2_add x11 1) (by decide) rfl (fun ls hl => ?_)
      refine lv_goto (tgt := 19) hx hb eX12_victim_60.2.2.2.1 (by decide) ?_
      exact ih19 (x8, x9, x10, x11 + 1, s12) _ _ _ ⟨hP, hS, lv_sub hl [1, 2, 3, 4, 0] rfl, h⟩
    refine y_head (pcJ := 46) (σ := Int × Int × Int × Int × Int × MS) (fun u H locs ls => va_P D vwCl (RW D a u.2.2.2.2.2) H ∧ va_S A s₀.heap H locs ∧ lv_has ls 6 [(0, .ref (a 200)), (1, .int (i2 u.1)), (2, .int (i2 u.2.1)), (3, .int (i2 u.2.2.1)), (4, .int (i2 u.2.2.2.1))] ∧ m_x12_victim_J46 (m_x12_victim_L19 n19) u.1 u.2.1 u.2.2.1 u.2.2.2.1 u.2.2.2.2.1 u.2.2.2.2.2 = some o) (fun u => [.int (i2 u.2.2.2.2.1)]) (fun u H locs ls hI => ?_) (fun J46 => ?_)
    · obtain ⟨hP, hS, hl, h⟩ := hI
      obtain ⟨x13, x14, x15, x16, x17, s18⟩ := u
      have hP : va_P D vwCl (RW D a s18) H := hP
      have hl : lv_has ls 6 [(0, .ref (a 200)), (1, .int (i2 x13)), (2, .int (i2 x14)), (3, .int (i2 x15)), (4, .int (i2 x16))] := hl
      have h : m_x12_victim_J46 (m_x12_victim_L19 n19) x13 x14 x15 x16 x17 s18 = some o := h
      unfold m_x12_victim_J46 at h
      refine lv_istore (lv' := [(5, .int (i2 x17)), (0, .ref (a 200)), (1, .int (i2 x13)), (2, .int (i2 x14)), (3, .int (i2 x15)), (4, .int (i2 x16))]) hx hb eX12_victim_45.2.1 hl (by decide) rfl (fun ls hl => ?_)
      refine lv_iload hx hb eX12_victim_45.2.2.1 (lv_at hl 0 rfl) ?_
      refine lv_iload_n hx hb eX12_victim_45.2.2.2.1 rfl (lv_at hl 4 rfl) ?_
      obtain ⟨hr19, h⟩ := rg_e h
      obtain ⟨hr20, h⟩ := rg_e h
      refine lv_icmp_gt (tgt := 57) hx hb eX12_victim_45.2.2.2.2.1 (by decide) (fun c21 => ?_) (fun c21 => ?_)
      · have h := if_t ((i2_lt (x := x15) (y := x17) hr20 hr19).mp c21) h
        refine lv_iload hx hb eX12_victim_45.2.2.2.2.2.2.1 (lv_at hl 5 rfl) ?_
        refine lv_istore_n (lv' := [(2, .int (i2 x16)), (5, .int (i2 x17)), (0, .ref (a 200)), (1, .int (i2 x13)), (3, .int (i2 x15)), (4, .int (i2 x16))]) hx hb eX12_victim_45.2.2.2.2.2.2.2 rfl hl (by decide) rfl (fun ls hl => ?_)
        refine lv_iload hx hb eX12_victim_60.1 (lv_at hl 1 rfl) ?_
        refine lv_istore_n (lv' := [(3, .int (i2 x17)), (2, .int (i2 x16)), (5, .int (i2 x17)), (0, .ref (a 200)), (1, .int (i2 x13)), (4, .int (i2 x16))]) hx hb eX12_victim_60.2.1 rfl hl (by decide) rfl (fun ls hl => ?_)
        exact J63 (x13, x16, x17, x16, s18) _ _ _ ⟨hP, hS, lv_sub hl [3, 4, 1, 0, 5] rfl, h⟩
      · have h := if_f (mt (i2_lt (x := x15) (y := x17) hr20 hr19).mpr c21) h
        refine lv_goto (tgt := 63) hx hb eX12_victim_45.2.2.2.2.2.1 (by decide) ?_
        exact J63 (x13, x14, x15, x16, s18) _ _ _ ⟨hP, hS, lv_sub hl [1, 2, 3, 4, 5] rfl, h⟩
    refine lv_iload hx hb eX12_victim_14.2.2.2.2.1 (lv_at hl 4 rfl) ?_
    refine lv_bipush (v := 8) hx hb eX12_victim_14.2.2.2.2.2.1 (by decide) ?_
    obtain ⟨hr22, h⟩ := rg_e h
    refine lv_icmp_ge (tgt := 69) hx hb eX12_victim_14.2.2.2.2.2.2.1 (by decide) (fun c23 => ?_) (fun c23 => ?_)
    · have h := if_t ((i2_le (x := 8) (y := x6) (by decide) hr22).mp c23) h
      refine lv_iload_n hx hb eX12_victim_60.2.2.2.2.1 rfl (lv_at hl 1 rfl) ?_
      obtain ⟨hr24, h⟩ := rg_e h
      refine lv_if_ne (tgt := 77) hx hb eX12_victim_60.2.2.2.2.2.1 (by decide) (fun c25 => ?_) (fun c25 => ?_)
      · have h := if_f (mt (i2_eq (x := x3) (y := 0) hr24 (by decide)).mpr c25) h
        refine lv_iload_n hx hb eX12_victim_77.1 rfl (lv_at hl 3 rfl) ?_
        exact J78 (x5, s7) _ _ _ ⟨hP, hS, lv_sub hl [] rfl, h⟩
      · have h := if_t ((i2_eq (x := x3) (y := 0) hr24 (by decide)).mp c25) h
        refine lv_iload_n hx hb eX12_victim_60.2.2.2.2.2.2.1 rfl (lv_at hl 2 rfl) ?_
        refine lv_goto (tgt := 78) hx hb eX12_victim_60.2.2.2.2.2.2.2 (by decide) ?_
        exact J78 (x4, s7) _ _ _ ⟨hP, hS, lv_sub hl [] rfl, h⟩
    · have h := if_f (mt (i2_le (x := 8) (y := x6) (by decide) hr22).mpr c23) h
      refine lv_aload_n hx hb eX12_victim_14.2.2.2.2.2.2.2 rfl (lv_at hl 0 rfl) ?_
      refine lv_iload hx hb eX12_victim_27.1 (lv_at hl 4 rfl) ?_
      obtain ⟨hr26, h⟩ := rg_e h
      refine lv_i2l (v := i8 x6) hx hb eX12_victim_27.2.1 (i2_l hr26) ?_
      obtain ⟨r28, hc27, h⟩ := bn_e h
      refine ycV (r0 := i2 r28) (As := [.long (i8 x6)]) (rest := []) (C := RX12) (n := 1) ⟨hx, hb, hml, hown, ht⟩ (k_x12_isVolume l D a x6 _ _ hc27) (zgV ml_X12_571 im_X12_isVolume se_X12_isVolume in_X12 co_X12_isVolume) rfl rfl (by decide +kernel) ⟨Nat.le_of_ble_eq_true rfl, Nat.le_of_ble_eq_true rfl⟩ hN hK hP hS 0 RW_0 rfl rfl rfl hl.1 rfl (Nat.le_of_ble_eq_true rfl) eX12_victim_27.2.2.1 ⟨Nat.le_of_ble_eq_true rfl, Nat.le_of_ble_eq_true rfl⟩ (fun H locs hP hS => ?_)
      obtain ⟨hr29, h⟩ := rg_e h
      refine lv_if_eq (tgt := 45) hx hb eX12_victim_27.2.2.2.1 (by decide) (fun c30 => ?_) (fun c30 => ?_)
      · have h := if_t ((i2_eq (x := r28) (y := 0) hr29 (by decide)).mp c30) h
        refine lv_iconst (v := (-1)) hx hb eX12_victim_45.1 (by decide) ?_
        exact J46 (x3, x4, x5, x6, (-1), s7) _ _ _ ⟨hP, hS, lv_sub hl [0, 1, 2, 3, 4] rfl, h⟩
      · have h := if_f (mt (i2_eq (x := r28) (y := 0) hr29 (by decide)).mpr c30) h
        refine lv_aload_n hx hb eX12_victim_27.2.2.2.2.1 rfl (lv_at hl 0 rfl) ?_
        refine lv_iload hx hb eX12_victim_27.2.2.2.2.2.1 (lv_at hl 4 rfl) ?_
        obtain ⟨⟨r33, s32⟩, hc31, h⟩ := bn_e h
        refine ywV (r0 := i2 r33) (As := [.int (i2 x6)]) (rest := []) (C := RX12) (n := 1) (ws' := RW D a s32) ⟨hx, hb, hml, hown, ht⟩ (k_x12_dropsMany l D a x6 _ _ _ hc31) (zgV ml_X12_613 im_X12_dropsMany se_X12_dropsMany in_X12 co_X12_dropsMany) rfl rfl (by decide +kernel) ⟨Nat.le_of_ble_eq_true rfl, Nat.le_of_ble_eq_true rfl⟩ hN hK hP (hDD _) hS hA 0 RW_0 rfl rfl rfl hl.1 rfl (Nat.le_of_ble_eq_true rfl) eX12_victim_27.2.2.2.2.2.2.1 ⟨Nat.le_of_ble_eq_true rfl, Nat.le_of_ble_eq_true rfl⟩ (fun H locs hP hS => ?_)
        refine lv_goto (tgt := 46) hx hb eX12_victim_27.2.2.2.2.2.2.2 (by decide) ?_
        exact J46 (x3, x4, x5, x6, r33, s32) _ _ _ ⟨hP, hS, lv_sub hl [0, 1, 2, 3, 4] rfl, h⟩
  refine lv_iload_n hx hb eX12_toldOf_8.2.2.2.2.2.2.1 rfl (lv_at hl 1 rfl) ?_
  obtain ⟨hr34, h⟩ := rg_e h
  refine lv_i2l (v := i8 p0) hx hb eX12_toldOf_8.2.2.2.2.2.2.2 (i2_l hr34) ?_
  refine lv_lconst (v := 0) hx hb eX12_victim_2.1 (by decide) ?_
  refine lv_lconst (v := 1) hx hb eX12_victim_2.2.1 (by decide) ?_
  obtain ⟨r36, hc35, h⟩ := bn_e h
  refine ycS (r0 := i2 r36) (As := [.long (i8 p0), .long 0, .long 1]) (rest := []) (n := 3) ⟨hx, hb, hml, hown, ht⟩ (k_x12_isIn l D a p0 0 1 _ _ hc35) (zgT ml_X12_309 st_X12_isIn in_X12 co_X12_isIn) rfl rfl (by decide +kernel) ⟨Nat.le_of_ble_eq_true rfl, Nat.le_of_ble_eq_true rfl⟩ hN hK hP hS rfl hl.1 rfl (Nat.le_of_ble_eq_true rfl) eX12_victim_2.2.2.1 ⟨Nat.le_of_ble_eq_true rfl, Nat.le_of_ble_eq_true rfl⟩ (fun H locs hP hS => ?_)
  obtain ⟨hr37, h⟩ := rg_e h
  refine lv_if_ne (tgt := 12) hx hb eX12_victim_2.2.2.2.1 (by decide) (fun c38 => ?_) (fun c38 => ?_)
  · have h := if_f (mt (i2_eq (x := r36) (y := 0) hr37 (by decide)).mpr c38) h
    refine lv_iconst (v := (-1)) hx hb eX12_victim_2.2.2.2.2.2.2.1 (by decide) ?_
    refine lv_istore_n (lv' := [(2, .int (-1)), (0, .ref (a 200)), (1, .int (i2 p0))]) hx hb eX12_victim_2.2.2.2.2.2.2.2 rfl hl (by decide) rfl (fun ls hl => ?_)
    refine lv_iconst (v := (-1)) hx hb eX12_victim_14.1 (by decide) ?_
    refine lv_istore_n (lv' := [(3, .int (-1)), (2, .int (-1)), (0, .ref (a 200)), (1, .int (i2 p0))]) hx hb eX12_victim_14.2.1 rfl hl (by decide) rfl (fun ls hl => ?_)
    refine lv_iconst (v := 0) hx hb eX12_victim_14.2.2.1 (by decide) ?_
    refine lv_istore (lv' := [(4, .int 0), (3, .int (-1)), (2, .int (-1)), (0, .ref (a 200)), (1, .int (i2 p0))]) hx hb eX12_victim_14.2.2.2.1 hl (by decide) rfl (fun ls hl => ?_)
    exact J19 FU (p0, (-1), (-1), 0, s) _ _ _ ⟨hP, hS, lv_sub hl [3, 4, 2, 1, 0] rfl, h⟩
  · have h := if_t ((i2_eq (x := r36) (y := 0) hr37 (by decide)).mp c38) h
    refine lv_iconst (v := (-1)) hx hb eX12_victim_2.2.2.2.2.1 (by decide) ?_
    obtain rfl := Option.some.inj h
    exact W.iret (v := (-1)) hx hb hr (fun t ht hW => ⟨⟨_, (), rfl, rfl, by rw [ht]; exact hP, va_K.moved hW.alike hK, hDD _⟩, hS.F ht⟩) hS.2.2 eX12_victim_2.2.2.2.2.2.1
set_option maxHeartbeats 4000000 in
set_option maxRecDepth 100000 in
theorem k_x12_room (l : Launch) (D : va_G) (a : Nat → Nat) (p0 : Int) (s : MS) (o : Int) (h : m_x12_room p0 s = some o) : yRi l yX12_room cX12_room 4 (some .int) { frames := 5, cells := 0, slots := 0, locals := 300 } D [.ref (a 200), .int (i2 p0)] (RW D a s) (i2 o) := by
  refine Met.ofW (cc := cX12_room) (maxL := 4) (ret := (some .int)) (by decide) rfl ?_
  intro p e s₀ m args below meth c s₁ B hml hv
  obtain ⟨rfl, ⟨hP, hK⟩, hN⟩ := hv
  have hx := B.exec
  have hb := B.bytes
  have hr := B.returns
  have hts := atoms_spec (ws := wz yX12_room cX12_room 4 (some .int)) B.pre
  have ht : ∀ w ∈ lw_gd, w.before _ s₀ = true := fun w h => hts w (List.mem_cons_of_mem _ h)
  have hown : s₀.vm.findClass RX12 = some m.cls := findClass_of_methodNamed B.named
  have hlocks := B.notSynchronized
  have hS : va_S (fun _ => False) s₀.heap s₀.heap [] := va_S.rf
  have hl := lv_entry ([.ref (a 200), .int (i2 p0)]) (n := 4) (Nat.le_of_ble_eq_true rfl)
  rw [lg_entry_eq]
  generalize (lg_sl ([.ref (a 200), .int (i2 p0)]) ++ List.replicate (4 - (lg_sl ([.ref (a 200), .int (i2 p0)])).length) Slot.unset).toArray = ls at hl ⊢
  have hl : lv_has ls 4 [(0, .ref (a 200)), (1, .int (i2 p0))] := hl
  unfold m_x12_room at h
  refine y_loop (pcJ := 48) (σ := Int × Int) (fun n u H locs ls => va_P D vwCl (RW D a s) H ∧ va_S (fun _ => False) s₀.heap H locs ∧ lv_has ls 4 [(0, .ref (a 200)), (2, .int (i2 u.1)), (3, .int (i2 u.2))] ∧ m_x12_room_L48 s n u.1 u.2 = some o) (fun u => []) (fun u H locs ls hI => by obtain ⟨_, _, _, h⟩ := hI; cases h) (fun n48 ih48 u H locs ls hI => ?_) (fun J48 => ?_)
  · obtain ⟨hP, hS, hl, h⟩ := hI
    obtain ⟨x1, x2⟩ := u
    have hP : va_P D vwCl (RW D a s) H := hP
    have hl : lv_has ls 4 [(0, .ref (a 200)), (2, .int (i2 x1)), (3, .int (i2 x2))] := hl
    have h : m_x12_room_b48 s (m_x12_room_L48 s n48) x1 x2 = some o := h
    unfold m_x12_room_b48 at h
    refine y_head (pcJ := 67) (σ := Int × Int) (fun u H locs ls => va_P D vwCl (RW D a s) H ∧ va_S (fun _ => False) s₀.heap H locs ∧ lv_has ls 4 [(0, .ref (a 200)), (2, .int (i2 u.1)), (3, .int (i2 u.2))] ∧ m_x12_room_J67 s (m_x12_room_L48 s n48) u.1 u.2 = some o) (fun u => []) (fun u H locs ls hI => ?_) (fun J67 => ?_)
    · obtain ⟨hP, hS, hl, h⟩ := hI
      obtain ⟨x3, x4⟩ := u
      have hP : va_P D vwCl (RW D a s) H := hP
      have hl : lv_has ls 4 [(0, .ref (a 200)), (2, .int (i2 x3)), (3, .int (i2 x4))] := hl
      have h : m_x12_room_J67 s (m_x12_room_L48 s n48) x3 x4 = some o := h
      unfold m_x12_room_J67 at h
      refine lv_iinc (v := i2 (x4 + 1)) (lv' := [(3, .int (i2 (x4 + 1))), (0, .ref (a 200)), (2, .int (i2 x3))]) hx hb eX12_room_61.2.2.1 hl (k := 2) rfl (i2_add x4 1) (by decide) rfl (fun ls hl => ?_)
      refine lv_goto (tgt := 48) hx hb eX12_room_61.2.2.2.1 (by decide) ?_
      exact ih48 (x3, x4 + 1) _ _ _ ⟨hP, hS, lv_sub hl [1, 2, 0] rfl, h⟩
    refine lv_iload_n hx hb eX12_room_47.2.1 rfl (lv_at hl 2 rfl) ?_
    refine lv_aload_n hx hb eX12_room_47.2.2.1 rfl (lv_at hl 0 rfl) ?_
    obtain ⟨r6, hc5, h⟩ := bn_e h
    refine ycV (r0 := i2 r6) (As := []) (rest := [.int (i2 x2)]) (C := RX12) (n := 0) ⟨hx, hb, hml, hown, ht⟩ (k_x12_blockMany l D a _ _ hc5) (zgV ml_X12_429 im_X12_blockMany se_X12_blockMany in_X12 co_X12_blockMany) rfl rfl (by decide +kernel) ⟨Nat.le_of_ble_eq_true rfl, Nat.le_of_ble_eq_true rfl⟩ hN hK hP hS 0 RW_0 rfl rfl rfl hl.1 rfl (Nat.le_of_ble_eq_true rfl) eX12_room_47.2.2.2.1 ⟨Nat.le_of_ble_eq_true rfl, Nat.le_of_ble_eq_true rfl⟩ (fun H locs hP hS => ?_)
    obtain ⟨hr7, h⟩ := rg_e h
    obtain ⟨hr8, h⟩ := rg_e h
    refine lv_icmp_ge (tgt := 73) hx hb eX12_room_47.2.2.2.2.1 (by decide) (fun c9 => ?_) (fun c9 => ?_)
    · have h := if_t ((i2_le (x := r6) (y := x2) hr8 hr7).mp c9) h
      refine lv_iload_n hx hb eX12_room_61.2.2.2.2.1 rfl (lv_at hl 1 rfl) ?_
      obtain rfl := Option.some.inj h
      exact W.iret (v := (i2 x1)) hx hb hr (fun t ht hW => ⟨⟨_, (), rfl, rfl, trivial⟩, hS.F ht⟩) hS.2.2 eX12_room_61.2.2.2.2.2.1
    · have h := if_f (mt (i2_le (x := r6) (y := x2) hr8 hr7).mpr c9) h
      refine lv_aload_n hx hb eX12_room_47.2.2.2.2.2.1 rfl (lv_at hl 0 rfl) ?_
      refine lv_iload_n hx hb eX12_room_47.2.2.2.2.2.2.1 rfl (lv_at hl 2 rfl) ?_
      obtain ⟨r11, hc10, h⟩ := bn_e h
      refine ycV (r0 := i2 r11) (As := [.int (i2 x2)]) (rest := []) (C := RX12) (n := 1) ⟨hx, hb, hml, hown, ht⟩ (k_x12_savedOf l D a x2 _ _ hc10) (zgV ml_X12_438 im_X12_savedOf se_X12_savedOf in_X12 co_X12_savedOf) rfl rfl (by decide +kernel) ⟨Nat.le_of_ble_eq_true rfl, Nat.le_of_ble_eq_true rfl⟩ hN hK hP hS 0 RW_0 rfl rfl rfl hl.1 rfl (Nat.le_of_ble_eq_true rfl) eX12_room_47.2.2.2.2.2.2.2 ⟨Nat.le_of_ble_eq_true rfl, Nat.le_of_ble_eq_true rfl⟩ (fun H locs hP hS => ?_)
      obtain ⟨hr12, h⟩ := rg_e h
      refine lv_if_ne (tgt := 67) hx hb eX12_room_61.1 (by decide) (fun c13 => ?_) (fun c13 => ?_)
      · have h := if_f (mt (i2_eq (x := r11) (y := 0) hr12 (by decide)).mpr c13) h
        exact J67 (x1, x2) _ _ _ ⟨hP, hS, lv_sub hl [0, 1, 2] rfl, h⟩
      · have h := if_t ((i2_eq (x := r11) (y := 0) hr12 (by decide)).mp c13) h
        refine lv_iinc (v := i2 (x1 + 1)) (lv' := [(2, .int (i2 (x1 + 1))), (0, .ref (a 200)), (3, .int (i2 x2))]) hx hb eX12_room_61.2.1 hl (k := 1) rfl (i2_add x1 1) (by decide) rfl (fun ls hl => ?_)
        exact J67 (x1 + 1, x2) _ _ _ ⟨hP, hS, lv_sub hl [1, 0, 2] rfl, h⟩
  refine y_head (pcJ := 42) (σ := Int × Int) (fun u H locs ls => va_P D vwCl (RW D a s) H ∧ va_S (fun _ => False) s₀.heap H locs ∧ lv_has ls 4 [] ∧ m_x12_room_J42 s u.1 u.2 = some o) (fun u => [.int (i2 u.1), .int (i2 u.2)]) (fun u H locs ls hI => ?_) (fun J42 => ?_)
  · obtain ⟨hP, hS, hl, h⟩ := hI
    obtain ⟨x14, x15⟩ := u
    have hP : va_P D vwCl (RW D a s) H := hP
    have hl : lv_has ls 4 [] := hl
    have h : m_x12_room_J42 s x14 x15 = some o := h
    unfold m_x12_room_J42 at h
    refine lv_iadd hx hb eX12_room_35.2.2.2.1 ?_
    refine z_topi (y := i2 (x15 + x14)) (i2_add x15 x14) ?_
    obtain rfl := Option.some.inj h
    exact W.iret (v := (i2 (x15 + x14))) hx hb hr (fun t ht hW => ⟨⟨_, (), rfl, rfl, trivial⟩, hS.F ht⟩) hS.2.2 eX12_room_35.2.2.2.2.1
  refine y_head (pcJ := 19) (σ := Unit) (fun u H locs ls => va_P D vwCl (RW D a s) H ∧ va_S (fun _ => False) s₀.heap H locs ∧ lv_has ls 4 [] ∧ m_x12_room_J19 s u = some o) (fun u => []) (fun u H locs ls hI => ?_) (fun J19 => ?_)
  · obtain ⟨hP, hS, hl, h⟩ := hI
    skip
    have hP : va_P D vwCl (RW D a s) H := hP
    have hl : lv_has ls 4 [] := hl
    have h : m_x12_room_J19 s () = some o := h
    unfold m_x12_room_J19 at h
    refine lv_iconst (v := (-1)) hx hb eX12_room_7.2.2.2.2.2.2.1 (by decide) ?_
    obtain rfl := Option.some.inj h
    exact W.iret (v := (-1)) hx hb hr (fun t ht hW => ⟨⟨_, (), rfl, rfl, trivial⟩, hS.F ht⟩) hS.2.2 eX12_room_7.2.2.2.2.2.2.2
  refine lv_aload_n hx hb eX12_lost_15.2.2.2.2.2.1 rfl (lv_at hl 0 rfl) ?_
  refine va_get (D := D) (ci := 12) (v := .int (i2 (gI s 47))) (C := RX12) (T := TX12) (N := 116) hx hb ht inX12 hown hK hP 0 RW_0 rfl 47 (by decide) (ht (.fieldLink RX12 406 "CloneVolumesModel" "isTold" "Z") fl_X12_406) (fun _ h9 => h9) mF_47 eX12_lost_15.2.2.2.2.2.2.1 ?_
  obtain ⟨hr16, h⟩ := rg_e h
  refine lv_if_eq (tgt := 19) hx hb eX12_lost_15.2.2.2.2.2.2.2 (by decide) (fun c17 => ?_) (fun c17 => ?_)
  · have h := if_t ((i2_eq (x := (gI s 47)) (y := 0) hr16 (by decide)).mp c17) h
    exact J19 () _ _ _ ⟨hP, hS, lv_sub hl [] rfl, h⟩
  · have h := if_f (mt (i2_eq (x := (gI s 47)) (y := 0) hr16 (by decide)).mpr c17) h
    refine lv_iload_n hx hb eX12_room_7.1 rfl (lv_at hl 1 rfl) ?_
    obtain ⟨hr18, h⟩ := rg_e h
    refine lv_i2l (v := i8 p0) hx hb eX12_room_7.2.1 (i2_l hr18) ?_
    refine lv_lconst (v := 0) hx hb eX12_room_7.2.2.1 (by decide) ?_
    refine lv_ldc2 (own := RX12) (v := 2) hx hb hown (ht _ cl_X12_619) eX12_room_7.2.2.2.1 ?_
    obtain ⟨r20, hc19, h⟩ := bn_e h
    refine ycS (r0 := i2 r20) (As := [.long (i8 p0), .long 0, .long 2]) (rest := []) (n := 3) ⟨hx, hb, hml, hown, ht⟩ (k_x12_isIn l D a p0 0 2 _ _ hc19) (zgT ml_X12_309 st_X12_isIn in_X12 co_X12_isIn) rfl rfl (by decide +kernel) ⟨Nat.le_of_ble_eq_true rfl, Nat.le_of_ble_eq_true rfl⟩ hN hK hP hS rfl hl.1 rfl (Nat.le_of_ble_eq_true rfl) eX12_room_7.2.2.2.2.1 ⟨Nat.le_of_ble_eq_true rfl, Nat.le_of_ble_eq_true rfl⟩ (fun H locs hP hS => ?_)
    obtain ⟨hr21, h⟩ := rg_e h
    refine lv_if_ne (tgt := 21) hx hb eX12_room_7.2.2.2.2.2.1 (by decide) (fun c22 => ?_) (fun c22 => ?_)
    · have h := if_f (mt (i2_eq (x := r20) (y := 0) hr21 (by decide)).mpr c22) h
      refine lv_iload_n hx hb eX12_room_21.1 rfl (lv_at hl 1 rfl) ?_
      refine lv_iconst (v := 2) hx hb eX12_room_21.2.1 (by decide) ?_
      obtain ⟨hr23, h⟩ := rg_e h
      refine lv_icmp_ge (tgt := 44) hx hb eX12_room_21.2.2.1 (by decide) (fun c24 => ?_) (fun c24 => ?_)
      · have h := if_t ((i2_le (x := 2) (y := p0) (by decide) hr23).mp c24) h
        refine lv_iconst (v := 0) hx hb eX12_room_35.2.2.2.2.2.1 (by decide) ?_
        refine lv_istore_n (lv' := [(2, .int 0), (0, .ref (a 200)), (1, .int (i2 p0))]) hx hb eX12_room_35.2.2.2.2.2.2.1 rfl hl (by decide) rfl (fun ls hl => ?_)
        refine lv_iconst (v := 0) hx hb eX12_room_35.2.2.2.2.2.2.2 (by decide) ?_
        refine lv_istore_n (lv' := [(3, .int 0), (2, .int 0), (0, .ref (a 200)), (1, .int (i2 p0))]) hx hb eX12_room_47.1 rfl hl (by decide) rfl (fun ls hl => ?_)
        exact J48 FU (0, 0) _ _ _ ⟨hP, hS, lv_sub hl [2, 1, 0] rfl, h⟩
      · have h := if_f (mt (i2_le (x := 2) (y := p0) (by decide) hr23).mpr c24) h
        refine lv_aload_n hx hb eX12_room_21.2.2.2.1 rfl (lv_at hl 0 rfl) ?_
        obtain ⟨r26, hc25, h⟩ := bn_e h
        refine ycV (r0 := i2 r26) (As := []) (rest := []) (C := RX12) (n := 0) ⟨hx, hb, hml, hown, ht⟩ (k_x12_freeMany l D a _ _ hc25) (zgV ml_X12_587 im_X12_freeMany se_X12_freeMany in_X12 co_X12_freeMany) rfl rfl (by decide +kernel) ⟨Nat.le_of_ble_eq_true rfl, Nat.le_of_ble_eq_true rfl⟩ hN hK hP hS 0 RW_0 rfl rfl rfl hl.1 rfl (Nat.le_of_ble_eq_true rfl) eX12_room_21.2.2.2.2.1 ⟨Nat.le_of_ble_eq_true rfl, Nat.le_of_ble_eq_true rfl⟩ (fun H locs hP hS => ?_)
        refine lv_iload_n hx hb eX12_room_21.2.2.2.2.2.1 rfl (lv_at hl 1 rfl) ?_
        obtain ⟨hr27, h⟩ := rg_e h
        refine lv_if_ne (tgt := 38) hx hb eX12_room_21.2.2.2.2.2.2.1 (by decide) (fun c28 => ?_) (fun c28 => ?_)
        · have h := if_f (mt (i2_eq (x := p0) (y := 0) hr27 (by decide)).mpr c28) h
          refine lv_aload_n hx hb eX12_room_35.2.1 rfl (lv_at hl 0 rfl) ?_
          obtain ⟨r30, hc29, h⟩ := bn_e h
          refine ycV (r0 := i2 r30) (As := []) (rest := [.int (i2 r26)]) (C := RX12) (n := 0) ⟨hx, hb, hml, hown, ht⟩ (k_x12_heldMany l D a _ _ hc29) (zgV ml_X12_581 im_X12_heldMany se_X12_heldMany in_X12 co_X12_heldMany) rfl rfl (by decide +kernel) ⟨Nat.le_of_ble_eq_true rfl, Nat.le_of_ble_eq_true rfl⟩ hN hK hP hS 0 RW_0 rfl rfl rfl hl.1 rfl (Nat.le_of_ble_eq_true rfl) eX12_room_35.2.2.1 ⟨Nat.le_of_ble_eq_true rfl, Nat.le_of_ble_eq_true rfl⟩ (fun H locs hP hS => ?_)
          exact J42 (r30, r26) _ _ _ ⟨hP, hS, lv_sub hl [] rfl, h⟩
        · have h := if_t ((i2_eq (x := p0) (y := 0) hr27 (by decide)).mp c28) h
          refine lv_iconst (v := 0) hx hb eX12_room_21.2.2.2.2.2.2.2 (by decide) ?_
          refine lv_goto (tgt := 42) hx hb eX12_room_35.1 (by decide) ?_
          exact J42 (0, r26) _ _ _ ⟨hP, hS, lv_sub hl [] rfl, h⟩
    · have h := if_t ((i2_eq (x := r20) (y := 0) hr21 (by decide)).mp c22) h
      exact J19 () _ _ _ ⟨hP, hS, lv_sub hl [] rfl, h⟩
set_option maxHeartbeats 4000000 in
set_option maxRecDepth 100000 in
theorem k_x12_back (l : Launch) (D : va_G) (a : Nat → Nat) (p0 : Int) (s : MS) (o : Int) (h : m_x12_back p0 s = some o) : yRi l yX12_back cX12_back 2 (some .int) { frames := 4, cells := 0, slots := 0, locals := 240 } D [.ref (a 200), .int (i2 p0)] (RW D a s) (i2 o) := by
  refine Met.ofW (cc := cX12_back) (maxL := 2) (ret := (some .int)) (by decide) rfl ?_
  intro p e s₀ m args below meth c s₁ B hml hv
  obtain ⟨rfl, ⟨hP, hK⟩, hN⟩ := hv
  have hx := B.exec
  have hb := B.bytes
  have hr := B.returns
  have hts := atoms_spec (ws := wz yX12_back cX12_back 2 (some .int)) B.pre
  have ht : ∀ w ∈ lw_gd, w.before _ s₀ = true := fun w h => hts w (List.mem_cons_of_mem _ h)
  have hown : s₀.vm.findClass RX12 = some m.cls := findClass_of_methodNamed B.named
  have hlocks := B.notSynchronized
  have hS : va_S (fun _ => False) s₀.heap s₀.heap [] := va_S.rf
  have hl := lv_entry ([.ref (a 200), .int (i2 p0)]) (n := 2) (Nat.le_of_ble_eq_true rfl)
  rw [lg_entry_eq]
  generalize (lg_sl ([.ref (a 200), .int (i2 p0)]) ++ List.replicate (2 - (lg_sl ([.ref (a 200), .int (i2 p0)])).length) Slot.unset).toArray = ls at hl ⊢
  have hl : lv_has ls 2 [(0, .ref (a 200)), (1, .int (i2 p0))] := hl
  unfold m_x12_back at h
  refine y_head (pcJ := 48) (σ := Int) (fun u H locs ls => va_P D vwCl (RW D a s) H ∧ va_S (fun _ => False) s₀.heap H locs ∧ lv_has ls 2 [] ∧ m_x12_back_J48 s u = some o) (fun u => [.int (i2 u)]) (fun u H locs ls hI => ?_) (fun J48 => ?_)
  · obtain ⟨hP, hS, hl, h⟩ := hI
    obtain ⟨x1, rfl⟩ : ∃ z, z = u := ⟨u, rfl⟩
    have hP : va_P D vwCl (RW D a s) H := hP
    have hl : lv_has ls 2 [] := hl
    have h : m_x12_back_J48 s x1 = some o := h
    unfold m_x12_back_J48 at h
    obtain rfl := Option.some.inj h
    exact W.iret (v := (i2 x1)) hx hb hr (fun t ht hW => ⟨⟨_, (), rfl, rfl, trivial⟩, hS.F ht⟩) hS.2.2 eX12_back_40.2.2.2.2.1
  refine y_head (pcJ := 47) (σ := Unit) (fun u H locs ls => va_P D vwCl (RW D a s) H ∧ va_S (fun _ => False) s₀.heap H locs ∧ lv_has ls 2 [] ∧ m_x12_back_J47 s u = some o) (fun u => []) (fun u H locs ls hI => ?_) (fun J47 => ?_)
  · obtain ⟨hP, hS, hl, h⟩ := hI
    skip
    have hP : va_P D vwCl (RW D a s) H := hP
    have hl : lv_has ls 2 [] := hl
    have h : m_x12_back_J47 s () = some o := h
    unfold m_x12_back_J47 at h
    refine lv_iconst (v := (-1)) hx hb eX12_back_40.2.2.2.1 (by decide) ?_
    exact J48 (-1) _ _ _ ⟨hP, hS, lv_sub hl [] rfl, h⟩
  refine lv_aload_n hx hb eX12_back_0.1 rfl (lv_at hl 0 rfl) ?_
  refine lv_iload_n hx hb eX12_back_0.2.1 rfl (lv_at hl 1 rfl) ?_
  obtain ⟨hr2, h⟩ := rg_e h
  refine lv_i2l (v := i8 p0) hx hb eX12_back_0.2.2.1 (i2_l hr2) ?_
  obtain ⟨r4, hc3, h⟩ := bn_e h
  refine ycV (r0 := i2 r4) (As := [.long (i8 p0)]) (rest := []) (C := RX12) (n := 1) ⟨hx, hb, hml, hown, ht⟩ (k_x12_isVolume l D a p0 _ _ hc3) (zgV ml_X12_571 im_X12_isVolume se_X12_isVolume in_X12 co_X12_isVolume) rfl rfl (by decide +kernel) ⟨Nat.le_of_ble_eq_true rfl, Nat.le_of_ble_eq_true rfl⟩ hN hK hP hS 0 RW_0 rfl rfl rfl hl.1 rfl (Nat.le_of_ble_eq_true rfl) eX12_back_0.2.2.2.1 ⟨Nat.le_of_ble_eq_true rfl, Nat.le_of_ble_eq_true rfl⟩ (fun H locs hP hS => ?_)
  obtain ⟨hr5, h⟩ := rg_e h
  refine lv_if_eq (tgt := 47) hx hb eX12_back_0.2.2.2.2.1 (by decide) (fun c6 => ?_) (fun c6 => ?_)
  · have h := if_t ((i2_eq (x := r4) (y := 0) hr5 (by decide)).mp c6) h
    exact J47 () _ _ _ ⟨hP, hS, lv_sub hl [] rfl, h⟩
  · have h := if_f (mt (i2_eq (x := r4) (y := 0) hr5 (by decide)).mpr c6) h
    refine lv_aload_n hx hb eX12_back_0.2.2.2.2.2.1 rfl (lv_at hl 0 rfl) ?_
    refine va_get (D := D) (ci := 12) (v := .ref (a 49)) (C := RX12) (T := TX12) (N := 116) hx hb ht inX12 hown hK hP 0 RW_0 rfl 49 (by decide) (ht (.fieldLink RX12 121 "CloneVolumesModel" "now" "[I") fl_X12_121) (fun _ h9 => h9) mF_49 eX12_back_0.2.2.2.2.2.2.1 ?_
    refine lv_bipush (v := 8) hx hb eX12_back_0.2.2.2.2.2.2.2 (by decide) ?_
    refine lv_iload_n hx hb eX12_back_15.1 rfl (lv_at hl 1 rfl) ?_
    refine lv_iadd hx hb eX12_back_15.2.1 ?_
    refine z_topi (y := i2 (8 + p0)) (i2_add 8 p0) ?_
    obtain ⟨y7, ey7, iy7, h⟩ := rdI_e h
    refine ya_iald (i := (8 + p0)) hx hb hK hP 36 0 RW_36 rfl (by decide) ey7 iy7 eX12_back_15.2.2.1 ?_
    refine lv_sipush (v := 255) hx hb eX12_back_15.2.2.2.1 (by decide) ?_
    obtain ⟨hr8, h⟩ := rg_e h
    refine lv_icmp_eq (tgt := 47) hx hb eX12_back_15.2.2.2.2.1 (by decide) (fun c9 => ?_) (fun c9 => ?_)
    · have h := if_t ((i2_eq (x := y7) (y := 255) hr8 (by decide)).mp c9) h
      exact J47 () _ _ _ ⟨hP, hS, lv_sub hl [] rfl, h⟩
    · have h := if_f (mt (i2_eq (x := y7) (y := 255) hr8 (by decide)).mpr c9) h
      refine lv_aload_n hx hb eX12_back_15.2.2.2.2.2.1 rfl (lv_at hl 0 rfl) ?_
      refine lv_aload_n hx hb eX12_back_15.2.2.2.2.2.2.1 rfl (lv_at hl 0 rfl) ?_
      refine va_get (D := D) (ci := 12) (v := .ref (a 49)) (C := RX12) (T := TX12) (N := 116) hx hb ht inX12 hown hK hP 0 RW_0 rfl 49 (by decide) (ht (.fieldLink RX12 121 "CloneVolumesModel" "now" "[I") fl_X12_121) (fun _ h9 => h9) mF_49 eX12_back_15.2.2.2.2.2.2.2 ?_
      refine lv_iload_n hx hb eX12_back_29.1 rfl (lv_at hl 1 rfl) ?_
      obtain ⟨y10, ey10, iy10, h⟩ := rdI_e h
      refine ya_iald (i := p0) hx hb hK hP 36 0 RW_36 rfl (by decide) ey10 iy10 eX12_back_29.2.1 ?_
      refine lv_aload_n hx hb eX12_back_29.2.2.1 rfl (lv_at hl 0 rfl) ?_
      refine va_get (D := D) (ci := 12) (v := .ref (a 49)) (C := RX12) (T := TX12) (N := 116) hx hb ht inX12 hown hK hP 0 RW_0 rfl 49 (by decide) (ht (.fieldLink RX12 121 "CloneVolumesModel" "now" "[I") fl_X12_121) (fun _ h9 => h9) mF_49 eX12_back_29.2.2.2.1 ?_
      refine lv_bipush (v := 8) hx hb eX12_back_29.2.2.2.2.1 (by decide) ?_
      refine lv_iload_n hx hb eX12_back_29.2.2.2.2.2.1 rfl (lv_at hl 1 rfl) ?_
      refine lv_iadd hx hb eX12_back_29.2.2.2.2.2.2.1 ?_
      refine z_topi (y := i2 (8 + p0)) (i2_add 8 p0) ?_
      obtain ⟨y11, ey11, iy11, h⟩ := rdI_e h
      refine ya_iald (i := (8 + p0)) hx hb hK hP 36 0 RW_36 rfl (by decide) ey11 iy11 eX12_back_29.2.2.2.2.2.2.2 ?_
      refine lv_iconst (v := (-1)) hx hb eX12_back_40.1 (by decide) ?_
      obtain ⟨r13, hc12, h⟩ := bn_e h
      refine ycV (r0 := i2 r13) (As := [.int (i2 y10), .int (i2 y11), .int (-1)]) (rest := []) (C := RX12) (n := 3) ⟨hx, hb, hml, hown, ht⟩ (k_x12_unlike l D a y10 y11 (-1) _ _ hc12) (zgV ml_X12_626 im_X12_unlike se_X12_unlike in_X12 co_X12_unlike) rfl rfl (by decide +kernel) ⟨Nat.le_of_ble_eq_true rfl, Nat.le_of_ble_eq_true rfl⟩ hN hK hP hS 0 RW_0 rfl rfl rfl hl.1 rfl (Nat.le_of_ble_eq_true rfl) eX12_back_40.2.1 ⟨Nat.le_of_ble_eq_true rfl, Nat.le_of_ble_eq_true rfl⟩ (fun H locs hP hS => ?_)
      refine lv_goto (tgt := 48) hx hb eX12_back_40.2.2.1 (by decide) ?_
      exact J48 r13 _ _ _ ⟨hP, hS, lv_sub hl [] rfl, h⟩
set_option maxHeartbeats 4000000 in
set_option maxRecDepth 100000 in
theorem k_x12_see (l : Launch) (D : va_G) (a : Nat → Nat) (sz : Nat) (s : MS) (o : (Int × MS)) (h : m_x12_see s = some o) : yWi l yX12_see cX12_see 4 (some .int) { frames := 1, cells := 0, slots := 0, locals := 60 } D sz [.ref (a 200)] (RW D a s) (RW D a o.2) (i2 o.1) := by
  refine Met.ofW (cc := cX12_see) (maxL := 4) (ret := (some .int)) (by decide) rfl ?_
  intro p e s₀ m args below meth c s₁ B hml hv
  obtain ⟨rfl, ⟨hsz, hP, hK, hD0⟩, hN⟩ := hv
  have hx := B.exec
  have hb := B.bytes
  have hr := B.returns
  have hts := atoms_spec (ws := wz yX12_see cX12_see 4 (some .int)) B.pre
  have ht : ∀ w ∈ lw_gd, w.before _ s₀ = true := fun w h => hts w (List.mem_cons_of_mem _ h)
  have hown : s₀.vm.findClass RX12 = some m.cls := findClass_of_methodNamed B.named
  have hlocks := B.notSynchronized
  subst hsz
  have hD := hD0.self (sz := s₀.heap.size)
  generalize hAe : va_A (RW D a s) s₀.heap.size = A at hD ⊢
  have hA : ∀ q : Nat, s₀.heap.size ≤ q → A q := fun q h => by rw [← hAe]; exact Or.inr h
  have hS : va_S A s₀.heap s₀.heap [] := va_S.rf
  have hDD : ∀ t : MS, va_D A (RW D a t) := fun t => RW_D t hD
  have hl := lv_entry ([.ref (a 200)]) (n := 4) (Nat.le_of_ble_eq_true rfl)
  rw [lg_entry_eq]
  generalize (lg_sl ([.ref (a 200)]) ++ List.replicate (4 - (lg_sl ([.ref (a 200)])).length) Slot.unset).toArray = ls at hl ⊢
  have hl : lv_has ls 4 [(0, .ref (a 200))] := hl
  unfold m_x12_see at h
  refine y_loop (pcJ := 121) (σ := Int × Int × MS) (fun n u H locs ls => va_P D vwCl (RW D a u.2.2) H ∧ va_S A s₀.heap H locs ∧ lv_has ls 4 [(0, .ref (a 200)), (1, .int (i2 u.1)), (3, .int (i2 u.2.1))] ∧ m_x12_see_L121 n u.1 u.2.1 u.2.2 = some o) (fun u => []) (fun u H locs ls hI => by obtain ⟨_, _, _, h⟩ := hI; cases h) (fun n121 ih121 u H locs ls hI => ?_) (fun J121 => ?_)
  · obtain ⟨hP, hS, hl, h⟩ := hI
    obtain ⟨x1, x2, s3⟩ := u
    have hP : va_P D vwCl (RW D a s3) H := hP
    have hl : lv_has ls 4 [(0, .ref (a 200)), (1, .int (i2 x1)), (3, .int (i2 x2))] := hl
    have h : m_x12_see_b121 (m_x12_see_L121 n121) x1 x2 s3 = some o := h
    unfold m_x12_see_b121 at h
    refine lv_iload_n hx hb eX12_see_121.1 rfl (lv_at hl 2 rfl) ?_
    refine lv_iload_n hx hb eX12_see_121.2.1 rfl (lv_at hl 1 rfl) ?_
    refine lv_iconst (v := 2) hx hb eX12_see_121.2.2.1 (by decide) ?_
    obtain ⟨hn4, h⟩ := dv_e h
    refine lv_idiv hx hb eX12_see_121.2.2.2.1 (dv_nz hn4) ?_
    refine z_topi (y := i2 (Int.tdiv x1 2)) (by rw [show (2 : Int32) = i2 2 from by decide +kernel]; exact dv_d hn4) ?_
    obtain ⟨hr5, h⟩ := rg_e h
    obtain ⟨hr6, h⟩ := rg_e h
    refine lv_icmp_ge (tgt := 163) hx hb eX12_see_121.2.2.2.2.1 (by decide) (fun c7 => ?_) (fun c7 => ?_)
    · have h := if_t ((i2_le (x := (Int.tdiv x1 2)) (y := x2) hr6 hr5).mp c7) h
      refine lv_aload_n hx hb eX12_see_155.2.2.2.2.1 rfl (lv_at hl 0 rfl) ?_
      refine lv_iload_n hx hb eX12_see_155.2.2.2.2.2.1 rfl (lv_at hl 1 rfl) ?_
      refine lv_iconst (v := 4) hx hb eX12_see_155.2.2.2.2.2.2.1 (by decide) ?_
      obtain ⟨hn8, h⟩ := dv_e h
      refine lv_idiv hx hb eX12_see_155.2.2.2.2.2.2.2 (dv_nz hn8) ?_
      refine z_topi (y := i2 (Int.tdiv x1 4)) (by rw [show (4 : Int32) = i2 4 from by decide +kernel]; exact dv_d hn8) ?_
      refine ya_put (D := D) (ci := 12) (v := .int (i2 (Int.tdiv x1 4))) (ty := .int) (C := RX12) (T := TX12) (N := 116) hx hb ht inX12 tyX12 tyX12_ok nmX12 hown hK hP (hDD _) hS 0 RW_0 rfl 73 (by decide) (ht (.fieldLink RX12 419 "CloneVolumesModel" "rowMany" "I") fl_X12_419) (fun _ h9 => h9) rfl (by decide +kernel) rfl rfl (by rw [mF_len]; decide) eX12_see_167.1 (RW_f73 (Int.tdiv x1 4)) (fun H locs hP hS => ?_)
      obtain ⟨s9, hs9, h⟩ := st_e h
      rw [hs9] at hP
      refine lv_aload_n hx hb eX12_see_167.2.1 rfl (lv_at hl 0 rfl) ?_
      refine va_get (D := D) (ci := 12) (v := .int (i2 (gI s9 73))) (C := RX12) (T := TX12) (N := 116) hx hb ht inX12 hown hK hP 0 RW_0 rfl 73 (by decide) (ht (.fieldLink RX12 419 "CloneVolumesModel" "rowMany" "I") fl_X12_419) (fun _ h9 => h9) mF_73 eX12_see_167.2.2.1 ?_
      obtain rfl := Option.some.inj h
      exact W.iret (v := (i2 (gI s9 73))) hx hb hr (fun t ht hW => ⟨⟨_, (), rfl, rfl, by rw [ht]; exact hP, va_K.moved hW.alike hK, hDD _⟩, hS.F ht⟩) hS.2.2 eX12_see_167.2.2.2.1
    · have h := if_f (mt (i2_le (x := (Int.tdiv x1 2)) (y := x2) hr6 hr5).mpr c7) h
      refine lv_aload_n hx hb eX12_see_121.2.2.2.2.2.1 rfl (lv_at hl 0 rfl) ?_
      refine va_get (D := D) (ci := 12) (v := .ref (a 74)) (C := RX12) (T := TX12) (N := 116) hx hb ht inX12 hown hK hP 0 RW_0 rfl 74 (by decide) (ht (.fieldLink RX12 167 "CloneVolumesModel" "rows" "[I") fl_X12_167) (fun _ h9 => h9) mF_74 eX12_see_121.2.2.2.2.2.2.1 ?_
      refine lv_iload_n hx hb eX12_see_121.2.2.2.2.2.2.2 rfl (lv_at hl 2 rfl) ?_
      refine lv_sipush (v := 256) hx hb eX12_see_133.1 (by decide) ?_
      refine lv_aload_n hx hb eX12_see_133.2.1 rfl (lv_at hl 0 rfl) ?_
      refine va_get (D := D) (ci := 12) (v := .ref (a 0)) (C := RX12) (T := TX12) (N := 116) hx hb ht inX12 hown hK hP 0 RW_0 rfl 0 (by decide) (ht (.fieldLink RX12 7 "CloneVolumesModel" "tape" "[I") fl_X12_7) (fun _ h9 => h9) mF_0 eX12_see_133.2.2.1 ?_
      refine lv_iconst (v := 2) hx hb eX12_see_133.2.2.2.1 (by decide) ?_
      refine lv_iload_n hx hb eX12_see_133.2.2.2.2.1 rfl (lv_at hl 2 rfl) ?_
      refine lv_imul hx hb eX12_see_133.2.2.2.2.2.1 ?_
      refine z_topi (y := i2 (2 * x2)) (i2_mul 2 x2) ?_
      obtain ⟨y10, ey10, iy10, h⟩ := rdI_e h
      refine ya_iald (i := (2 * x2)) hx hb hK hP 1 0 RW_1 rfl (by decide) ey10 iy10 eX12_see_133.2.2.2.2.2.2.1 ?_
      refine lv_imul hx hb eX12_see_133.2.2.2.2.2.2.2 ?_
      refine z_topi (y := i2 (256 * y10)) (i2_mul 256 y10) ?_
      refine lv_aload_n hx hb eX12_see_145.1 rfl (lv_at hl 0 rfl) ?_
      refine va_get (D := D) (ci := 12) (v := .ref (a 0)) (C := RX12) (T := TX12) (N := 116) hx hb ht inX12 hown hK hP 0 RW_0 rfl 0 (by decide) (ht (.fieldLink RX12 7 "CloneVolumesModel" "tape" "[I") fl_X12_7) (fun _ h9 => h9) mF_0 eX12_see_145.2.1 ?_
      refine lv_iconst (v := 2) hx hb eX12_see_145.2.2.1 (by decide) ?_
      refine lv_iload_n hx hb eX12_see_145.2.2.2.1 rfl (lv_at hl 2 rfl) ?_
      refine lv_imul hx hb eX12_see_145.2.2.2.2.1 ?_
      refine z_topi (y := i2 (2 * x2)) (i2_mul 2 x2) ?_
      refine lv_iconst (v := 1) hx hb eX12_see_145.2.2.2.2.2.1 (by decide) ?_
      refine lv_iadd hx hb eX12_see_145.2.2.2.2.2.2.1 ?_
      refine z_topi (y := i2 ((2 * x2) + 1)) (i2_add (2 * x2) 1) ?_
      obtain ⟨y11, ey11, iy11, h⟩ := rdI_e h
      refine ya_iald (i := ((2 * x2) + 1)) hx hb hK hP 1 0 RW_1 rfl (by decide) ey11 iy11 eX12_see_145.2.2.2.2.2.2.2 ?_
      refine lv_iadd hx hb eX12_see_155.1 ?_
      refine z_topi (y := i2 ((256 * y10) + y11)) (i2_add (256 * y10) y11) ?_
      obtain ⟨hi12, h⟩ := inb_e h
      refine ya_iast (i := x2) (x := ((256 * y10) + y11)) hx hb hK hP (hDD _) hS 51 0 RW_51 rfl (by decide) hi12 eX12_see_155.2.1 (RW_w51 _) (fun H locs hP hS => ?_)
      obtain ⟨s13, hs13, h⟩ := st_e h
      rw [hs13] at hP
      refine lv_iinc (v := i2 (x2 + 1)) (lv' := [(3, .int (i2 (x2 + 1))), (0, .ref (a 200)), (1, .int (i2 x1))]) hx hb eX12_see_155.2.2.1 hl (k := 2) rfl (i2_add x2 1) (by decide) rfl (fun ls hl => ?_)
      refine lv_goto (tgt := 121) hx hb eX12_see_155.2.2.2.1 (by decide) ?_
      exact ih121 (x1, x2 + 1, s13) _ _ _ ⟨hP, hS, lv_sub hl [1, 2, 0] rfl, h⟩
  refine y_head (pcJ := 109) (σ := Int × Int × MS) (fun u H locs ls => va_P D vwCl (RW D a u.2.2) H ∧ va_S A s₀.heap H locs ∧ lv_has ls 4 [(0, .ref (a 200)), (1, .int (i2 u.1)), (2, .int (i2 u.2.1))] ∧ m_x12_see_J109 u.1 u.2.1 u.2.2 = some o) (fun u => []) (fun u H locs ls hI => ?_) (fun J109 => ?_)
  · obtain ⟨hP, hS, hl, h⟩ := hI
    obtain ⟨x14, x15, s16⟩ := u
    have hP : va_P D vwCl (RW D a s16) H := hP
    have hl : lv_has ls 4 [(0, .ref (a 200)), (1, .int (i2 x14)), (2, .int (i2 x15))] := hl
    have h : m_x12_see_J109 x14 x15 s16 = some o := h
    unfold m_x12_see_J109 at h
    refine lv_iload_n hx hb eX12_see_109.1 rfl (lv_at hl 2 rfl) ?_
    obtain ⟨hr17, h⟩ := rg_e h
    refine lv_if_ne (tgt := 119) hx hb eX12_see_109.2.1 (by decide) (fun c18 => ?_) (fun c18 => ?_)
    · have h := if_f (mt (i2_eq (x := x15) (y := 0) hr17 (by decide)).mpr c18) h
      refine lv_iconst (v := 0) hx hb eX12_see_109.2.2.2.2.2.2.1 (by decide) ?_
      refine lv_istore_n (lv' := [(3, .int 0), (0, .ref (a 200)), (1, .int (i2 x14)), (2, .int (i2 x15))]) hx hb eX12_see_109.2.2.2.2.2.2.2 rfl hl (by decide) rfl (fun ls hl => ?_)
      exact J121 FU (x14, 0, s16) _ _ _ ⟨hP, hS, lv_sub hl [1, 2, 0] rfl, h⟩
    · have h := if_t ((i2_eq (x := x15) (y := 0) hr17 (by decide)).mp c18) h
      refine lv_aload_n hx hb eX12_see_109.2.2.1 rfl (lv_at hl 0 rfl) ?_
      refine lv_iconst (v := 1) hx hb eX12_see_109.2.2.2.1 (by decide) ?_
      obtain ⟨⟨r21, s20⟩, hc19, h⟩ := bn_e h
      refine ywV (r0 := i2 r21) (As := [.int 1]) (rest := []) (C := RX12) (n := 1) (ws' := RW D a s20) ⟨hx, hb, hml, hown, ht⟩ (k_x12_refuses l D a 1 _ _ _ hc19) (zgV ml_X12_399 im_X12_refuses se_X12_refuses in_X12 co_X12_refuses) rfl rfl (by decide +kernel) ⟨Nat.le_of_ble_eq_true rfl, Nat.le_of_ble_eq_true rfl⟩ hN hK hP (hDD _) hS hA 0 RW_0 rfl rfl rfl hl.1 rfl (Nat.le_of_ble_eq_true rfl) eX12_see_109.2.2.2.2.1 ⟨Nat.le_of_ble_eq_true rfl, Nat.le_of_ble_eq_true rfl⟩ (fun H locs hP hS => ?_)
      obtain rfl := Option.some.inj h
      exact W.iret (v := (i2 r21)) hx hb hr (fun t ht hW => ⟨⟨_, (), rfl, rfl, by rw [ht]; exact hP, va_K.moved hW.alike hK, hDD _⟩, hS.F ht⟩) hS.2.2 eX12_see_109.2.2.2.2.2.1
  refine y_loop (pcJ := 36) (σ := Int × Int × Int × MS) (fun n u H locs ls => va_P D vwCl (RW D a u.2.2.2) H ∧ va_S A s₀.heap H locs ∧ lv_has ls 4 [(0, .ref (a 200)), (1, .int (i2 u.1)), (2, .int (i2 u.2.1)), (3, .int (i2 u.2.2.1))] ∧ m_x12_see_L36 n u.1 u.2.1 u.2.2.1 u.2.2.2 = some o) (fun u => []) (fun u H locs ls hI => by obtain ⟨_, _, _, h⟩ := hI; cases h) (fun n36 ih36 u H locs ls hI => ?_) (fun J36 => ?_)
  · obtain ⟨hP, hS, hl, h⟩ := hI
    obtain ⟨x22, x23, x24, s25⟩ := u
    have hP : va_P D vwCl (RW D a s25) H := hP
    have hl : lv_has ls 4 [(0, .ref (a 200)), (1, .int (i2 x22)), (2, .int (i2 x23)), (3, .int (i2 x24))] := hl
    have h : m_x12_see_b36 (m_x12_see_L36 n36) x22 x23 x24 s25 = some o := h
    unfold m_x12_see_b36 at h
    refine y_head (pcJ := 102) (σ := Int × Int × Int × MS) (fun u H locs ls => va_P D vwCl (RW D a u.2.2.2) H ∧ va_S A s₀.heap H locs ∧ lv_has ls 4 [(0, .ref (a 200)), (1, .int (i2 u.1)), (3, .int (i2 u.2.1))] ∧ m_x12_see_J102 (m_x12_see_L36 n36) u.1 u.2.1 u.2.2.1 u.2.2.2 = some o) (fun u => [.int (i2 u.2.2.1)]) (fun u H locs ls hI => ?_) (fun J102 => ?_)
    · obtain ⟨hP, hS, hl, h⟩ := hI
      obtain ⟨x26, x27, x28, s29⟩ := u
      have hP : va_P D vwCl (RW D a s29) H := hP
      have hl : lv_has ls 4 [(0, .ref (a 200)), (1, .int (i2 x26)), (3, .int (i2 x27))] := hl
      have h : m_x12_see_J102 (m_x12_see_L36 n36) x26 x27 x28 s29 = some o := h
      unfold m_x12_see_J102 at h
      refine lv_istore_n (lv' := [(2, .int (i2 x28)), (0, .ref (a 200)), (1, .int (i2 x26)), (3, .int (i2 x27))]) hx hb eX12_see_91.2.2.2.2.2.1 rfl hl (by decide) rfl (fun ls hl => ?_)
      refine lv_iinc (v := i2 (x27 + 4)) (lv' := [(3, .int (i2 (x27 + 4))), (2, .int (i2 x28)), (0, .ref (a 200)), (1, .int (i2 x26))]) hx hb eX12_see_91.2.2.2.2.2.2.1 hl (k := 3) rfl (i2_add x27 4) (by decide) rfl (fun ls hl => ?_)
      refine lv_goto (tgt := 36) hx hb eX12_see_91.2.2.2.2.2.2.2 (by decide) ?_
      exact ih36 (x26, x28, x27 + 4, s29) _ _ _ ⟨hP, hS, lv_sub hl [2, 3, 1, 0] rfl, h⟩
    refine y_head (pcJ := 101) (σ := Int × Int × MS) (fun u H locs ls => va_P D vwCl (RW D a u.2.2) H ∧ va_S A s₀.heap H locs ∧ lv_has ls 4 [(0, .ref (a 200)), (1, .int (i2 u.1)), (3, .int (i2 u.2.1))] ∧ m_x12_see_J101 (m_x12_see_L36 n36) u.1 u.2.1 u.2.2 = some o) (fun u => []) (fun u H locs ls hI => ?_) (fun J101 => ?_)
    · obtain ⟨hP, hS, hl, h⟩ := hI
      obtain ⟨x30, x31, s32⟩ := u
      have hP : va_P D vwCl (RW D a s32) H := hP
      have hl : lv_has ls 4 [(0, .ref (a 200)), (1, .int (i2 x30)), (3, .int (i2 x31))] := hl
      have h : m_x12_see_J101 (m_x12_see_L36 n36) x30 x31 s32 = some o := h
      unfold m_x12_see_J101 at h
      refine lv_iconst (v := 0) hx hb eX12_see_91.2.2.2.2.1 (by decide) ?_
      exact J102 (x30, x31, 0, s32) _ _ _ ⟨hP, hS, lv_sub hl [0, 1, 2] rfl, h⟩
    refine lv_iload_n hx hb eX12_see_29.2.2.2.2.2.1 rfl (lv_at hl 3 rfl) ?_
    refine lv_iload_n hx hb eX12_see_29.2.2.2.2.2.2.1 rfl (lv_at hl 1 rfl) ?_
    obtain ⟨hr33, h⟩ := rg_e h
    obtain ⟨hr34, h⟩ := rg_e h
    refine lv_icmp_ge (tgt := 109) hx hb eX12_see_29.2.2.2.2.2.2.2 (by decide) (fun c35 => ?_) (fun c35 => ?_)
    · have h := if_t ((i2_le (x := x22) (y := x24) hr34 hr33).mp c35) h
      exact J109 (x22, x23, s25) _ _ _ ⟨hP, hS, lv_sub hl [0, 1, 2] rfl, h⟩
    · have h := if_f (mt (i2_le (x := x22) (y := x24) hr34 hr33).mpr c35) h
      refine lv_iload_n hx hb eX12_see_41.1 rfl (lv_at hl 2 rfl) ?_
      obtain ⟨hr36, h⟩ := rg_e h
      refine lv_if_eq (tgt := 109) hx hb eX12_see_41.2.1 (by decide) (fun c37 => ?_) (fun c37 => ?_)
      · have h := if_t ((i2_eq (x := x23) (y := 0) hr36 (by decide)).mp c37) h
        exact J109 (x22, x23, s25) _ _ _ ⟨hP, hS, lv_sub hl [0, 1, 2] rfl, h⟩
      · have h := if_f (mt (i2_eq (x := x23) (y := 0) hr36 (by decide)).mpr c37) h
        refine lv_sipush (v := 256) hx hb eX12_see_41.2.2.1 (by decide) ?_
        refine lv_aload_n hx hb eX12_see_41.2.2.2.1 rfl (lv_at hl 0 rfl) ?_
        refine va_get (D := D) (ci := 12) (v := .ref (a 0)) (C := RX12) (T := TX12) (N := 116) hx hb ht inX12 hown hK hP 0 RW_0 rfl 0 (by decide) (ht (.fieldLink RX12 7 "CloneVolumesModel" "tape" "[I") fl_X12_7) (fun _ h9 => h9) mF_0 eX12_see_41.2.2.2.2.1 ?_
        refine lv_iload_n hx hb eX12_see_41.2.2.2.2.2.1 rfl (lv_at hl 3 rfl) ?_
        obtain ⟨y38, ey38, iy38, h⟩ := rdI_e h
        refine ya_iald (i := x24) hx hb hK hP 1 0 RW_1 rfl (by decide) ey38 iy38 eX12_see_41.2.2.2.2.2.2.1 ?_
        refine lv_imul hx hb eX12_see_41.2.2.2.2.2.2.2 ?_
        refine z_topi (y := i2 (256 * y38)) (i2_mul 256 y38) ?_
        refine lv_aload_n hx hb eX12_see_55.1 rfl (lv_at hl 0 rfl) ?_
        refine va_get (D := D) (ci := 12) (v := .ref (a 0)) (C := RX12) (T := TX12) (N := 116) hx hb ht inX12 hown hK hP 0 RW_0 rfl 0 (by decide) (ht (.fieldLink RX12 7 "CloneVolumesModel" "tape" "[I") fl_X12_7) (fun _ h9 => h9) mF_0 eX12_see_55.2.1 ?_
        refine lv_iload_n hx hb eX12_see_55.2.2.1 rfl (lv_at hl 3 rfl) ?_
        refine lv_iconst (v := 1) hx hb eX12_see_55.2.2.2.1 (by decide) ?_
        refine lv_iadd hx hb eX12_see_55.2.2.2.2.1 ?_
        refine z_topi (y := i2 (x24 + 1)) (i2_add x24 1) ?_
        obtain ⟨y39, ey39, iy39, h⟩ := rdI_e h
        refine ya_iald (i := (x24 + 1)) hx hb hK hP 1 0 RW_1 rfl (by decide) ey39 iy39 eX12_see_55.2.2.2.2.2.1 ?_
        refine lv_iadd hx hb eX12_see_55.2.2.2.2.2.2.1 ?_
        refine z_topi (y := i2 ((256 * y38) + y39)) (i2_add (256 * y38) y39) ?_
        refine lv_sipush (v := 999) hx hb eX12_see_55.2.2.2.2.2.2.2 (by decide) ?_
        obtain ⟨hr40, h⟩ := rg_e h
        refine lv_icmp_gt (tgt := 101) hx hb eX12_see_67.1 (by decide) (fun c41 => ?_) (fun c41 => ?_)
        · have h := if_t ((i2_lt (x := 999) (y := ((256 * y38) + y39)) (by decide) hr40).mp c41) h
          exact J101 (x22, x24, s25) _ _ _ ⟨hP, hS, lv_sub hl [0, 1, 3] rfl, h⟩
        · have h := if_f (mt (i2_lt (x := 999) (y := ((256 * y38) + y39)) (by decide) hr40).mpr c41) h
          refine lv_sipush (v := 256) hx hb eX12_see_67.2.1 (by decide) ?_
          refine lv_aload_n hx hb eX12_see_67.2.2.1 rfl (lv_at hl 0 rfl) ?_
          refine va_get (D := D) (ci := 12) (v := .ref (a 0)) (C := RX12) (T := TX12) (N := 116) hx hb ht inX12 hown hK hP 0 RW_0 rfl 0 (by decide) (ht (.fieldLink RX12 7 "CloneVolumesModel" "tape" "[I") fl_X12_7) (fun _ h9 => h9) mF_0 eX12_see_67.2.2.2.1 ?_
          refine lv_iload_n hx hb eX12_see_67.2.2.2.2.1 rfl (lv_at hl 3 rfl) ?_
          refine lv_iconst (v := 2) hx hb eX12_see_67.2.2.2.2.2.1 (by decide) ?_
          refine lv_iadd hx hb eX12_see_67.2.2.2.2.2.2.1 ?_
          refine z_topi (y := i2 (x24 + 2)) (i2_add x24 2) ?_
          obtain ⟨y42, ey42, iy42, h⟩ := rdI_e h
          refine ya_iald (i := (x24 + 2)) hx hb hK hP 1 0 RW_1 rfl (by decide) ey42 iy42 eX12_see_67.2.2.2.2.2.2.2 ?_
          refine lv_imul hx hb eX12_see_81.1 ?_
          refine z_topi (y := i2 (256 * y42)) (i2_mul 256 y42) ?_
          refine lv_aload_n hx hb eX12_see_81.2.1 rfl (lv_at hl 0 rfl) ?_
          refine va_get (D := D) (ci := 12) (v := .ref (a 0)) (C := RX12) (T := TX12) (N := 116) hx hb ht inX12 hown hK hP 0 RW_0 rfl 0 (by decide) (ht (.fieldLink RX12 7 "CloneVolumesModel" "tape" "[I") fl_X12_7) (fun _ h9 => h9) mF_0 eX12_see_81.2.2.1 ?_
          refine lv_iload_n hx hb eX12_see_81.2.2.2.1 rfl (lv_at hl 3 rfl) ?_
          refine lv_iconst (v := 3) hx hb eX12_see_81.2.2.2.2.1 (by decide) ?_
          refine lv_iadd hx hb eX12_see_81.2.2.2.2.2.1 ?_
          refine z_topi (y := i2 (x24 + 3)) (i2_add x24 3) ?_
          obtain ⟨y43, ey43, iy43, h⟩ := rdI_e h
          refine ya_iald (i := (x24 + 3)) hx hb hK hP 1 0 RW_1 rfl (by decide) ey43 iy43 eX12_see_81.2.2.2.2.2.2.1 ?_
          refine lv_iadd hx hb eX12_see_81.2.2.2.2.2.2.2 ?_
          refine z_topi (y := i2 ((256 * y42) + y43)) (i2_add (256 * y42) y43) ?_
          refine lv_sipush (v := 1000) hx hb eX12_see_91.1 (by decide) ?_
          obtain ⟨hr44, h⟩ := rg_e h
          refine lv_icmp_gt (tgt := 101) hx hb eX12_see_91.2.1 (by decide) (fun c45 => ?_) (fun c45 => ?_)
          · have h := if_t ((i2_lt (x := 1000) (y := ((256 * y42) + y43)) (by decide) hr44).mp c45) h
            exact J101 (x22, x24, s25) _ _ _ ⟨hP, hS, lv_sub hl [0, 1, 3] rfl, h⟩
          · have h := if_f (mt (i2_lt (x := 1000) (y := ((256 * y42) + y43)) (by decide) hr44).mpr c45) h
            refine lv_iconst (v := 1) hx hb eX12_see_91.2.2.1 (by decide) ?_
            refine lv_goto (tgt := 102) hx hb eX12_see_91.2.2.2.1 (by decide) ?_
            exact J102 (x22, x24, 1, s25) _ _ _ ⟨hP, hS, lv_sub hl [0, 1, 3] rfl, h⟩
  refine y_head (pcJ := 33) (σ := Int × Int × MS) (fun u H locs ls => va_P D vwCl (RW D a u.2.2) H ∧ va_S A s₀.heap H locs ∧ lv_has ls 4 [(0, .ref (a 200)), (1, .int (i2 u.1))] ∧ m_x12_see_J33 u.1 u.2.1 u.2.2 = some o) (fun u => [.int (i2 u.2.1)]) (fun u H locs ls hI => ?_) (fun J33 => ?_)
  · obtain ⟨hP, hS, hl, h⟩ := hI
    obtain ⟨x46, x47, s48⟩ := u
    have hP : va_P D vwCl (RW D a s48) H := hP
    have hl : lv_has ls 4 [(0, .ref (a 200)), (1, .int (i2 x46))] := hl
    have h : m_x12_see_J33 x46 x47 s48 = some o := h
    unfold m_x12_see_J33 at h
    refine lv_istore_n (lv' := [(2, .int (i2 x47)), (0, .ref (a 200)), (1, .int (i2 x46))]) hx hb eX12_see_29.2.2.1 rfl hl (by decide) rfl (fun ls hl => ?_)
    refine lv_iconst (v := 0) hx hb eX12_see_29.2.2.2.1 (by decide) ?_
    refine lv_istore_n (lv' := [(3, .int 0), (2, .int (i2 x47)), (0, .ref (a 200)), (1, .int (i2 x46))]) hx hb eX12_see_29.2.2.2.2.1 rfl hl (by decide) rfl (fun ls hl => ?_)
    exact J36 FU (x46, x47, 0, s48) _ _ _ ⟨hP, hS, lv_sub hl [2, 3, 1, 0] rfl, h⟩
  refine y_head (pcJ := 32) (σ := Int × MS) (fun u H locs ls => va_P D vwCl (RW D a u.2) H ∧ va_S A s₀.heap H locs ∧ lv_has ls 4 [(0, .ref (a 200)), (1, .int (i2 u.1))] ∧ m_x12_see_J32 u.1 u.2 = some o) (fun u => []) (fun u H locs ls hI => ?_) (fun J32 => ?_)
  · obtain ⟨hP, hS, hl, h⟩ := hI
    obtain ⟨x49, s50⟩ := u
    have hP : va_P D vwCl (RW D a s50) H := hP
    have hl : lv_has ls 4 [(0, .ref (a 200)), (1, .int (i2 x49))] := hl
    have h : m_x12_see_J32 x49 s50 = some o := h
    unfold m_x12_see_J32 at h
    refine lv_iconst (v := 0) hx hb eX12_see_29.2.1 (by decide) ?_
    exact J33 (x49, 0, s50) _ _ _ ⟨hP, hS, lv_sub hl [0, 1] rfl, h⟩
  refine lv_aload_n hx hb eX12_room_61.2.2.2.2.2.2.1 rfl (lv_at hl 0 rfl) ?_
  refine va_get (D := D) (ci := 12) (v := .int (i2 (gI s 1))) (C := RX12) (T := TX12) (N := 116) hx hb ht inX12 hown hK hP 0 RW_0 rfl 1 (by decide) (ht (.fieldLink RX12 263 "CloneVolumesModel" "taped" "I") fl_X12_263) (fun _ h9 => h9) mF_1 eX12_room_61.2.2.2.2.2.2.2 ?_
  refine lv_istore_n (lv' := [(1, .int (i2 (gI s 1))), (0, .ref (a 200))]) hx hb eX12_see_4.1 rfl hl (by decide) rfl (fun ls hl => ?_)
  refine lv_aload_n hx hb eX12_see_4.2.1 rfl (lv_at hl 1 rfl) ?_
  refine lv_iconst (v := 0) hx hb eX12_see_4.2.2.1 (by decide) ?_
  refine ya_put (D := D) (ci := 12) (v := .int 0) (ty := .int) (C := RX12) (T := TX12) (N := 116) hx hb ht inX12 tyX12 tyX12_ok nmX12 hown hK hP (hDD _) hS 0 RW_0 rfl 1 (by decide) (ht (.fieldLink RX12 263 "CloneVolumesModel" "taped" "I") fl_X12_263) (fun _ h9 => h9) rfl (by decide +kernel) rfl rfl (by rw [mF_len]; decide) eX12_see_4.2.2.2.1 (RW_f1 0) (fun H locs hP hS => ?_)
  obtain ⟨s51, hs51, h⟩ := st_e h
  rw [hs51] at hP
  refine lv_iload_n hx hb eX12_see_4.2.2.2.2.1 rfl (lv_at hl 0 rfl) ?_
  obtain ⟨hr52, h⟩ := rg_e h
  refine lv_if_le (tgt := 32) hx hb eX12_see_4.2.2.2.2.2.1 (by decide) (fun c53 => ?_) (fun c53 => ?_)
  · have h := if_t ((i2_le (x := (gI s 1)) (y := 0) hr52 (by decide)).mp c53) h
    exact J32 (gI s 1, s51) _ _ _ ⟨hP, hS, lv_sub hl [1, 0] rfl, h⟩
  · have h := if_f (mt (i2_le (x := (gI s 1)) (y := 0) hr52 (by decide)).mpr c53) h
    refine lv_iload_n hx hb eX12_see_4.2.2.2.2.2.2.1 rfl (lv_at hl 0 rfl) ?_
    refine lv_iconst (v := 4) hx hb eX12_see_4.2.2.2.2.2.2.2 (by decide) ?_
    obtain ⟨hn54, h⟩ := dv_e h
    refine lv_irem hx hb eX12_see_16.1 (dv_nz hn54) ?_
    refine z_topi (y := i2 (Int.tmod (gI s 1) 4)) (by rw [show (4 : Int32) = i2 4 from by decide +kernel]; exact dv_r hn54) ?_
    obtain ⟨hr55, h⟩ := rg_e h
    refine lv_if_ne (tgt := 32) hx hb eX12_see_16.2.1 (by decide) (fun c56 => ?_) (fun c56 => ?_)
    · have h := if_f (mt (i2_eq (x := (Int.tmod (gI s 1) 4)) (y := 0) hr55 (by decide)).mpr c56) h
      exact J32 (gI s 1, s51) _ _ _ ⟨hP, hS, lv_sub hl [1, 0] rfl, h⟩
    · have h := if_t ((i2_eq (x := (Int.tmod (gI s 1) 4)) (y := 0) hr55 (by decide)).mp c56) h
      refine lv_iload_n hx hb eX12_see_16.2.2.1 rfl (lv_at hl 0 rfl) ?_
      refine lv_iconst (v := 4) hx hb eX12_see_16.2.2.2.1 (by decide) ?_
      obtain ⟨hn57, h⟩ := dv_e h
      refine lv_idiv hx hb eX12_see_16.2.2.2.2.1 (dv_nz hn57) ?_
      refine z_topi (y := i2 (Int.tdiv (gI s 1) 4)) (by rw [show (4 : Int32) = i2 4 from by decide +kernel]; exact dv_d hn57) ?_
      refine lv_bipush (v := 12) hx hb eX12_see_16.2.2.2.2.2.1 (by decide) ?_
      obtain ⟨hr58, h⟩ := rg_e h
      refine lv_icmp_gt (tgt := 32) hx hb eX12_see_16.2.2.2.2.2.2.1 (by decide) (fun c59 => ?_) (fun c59 => ?_)
      · have h := if_t ((i2_lt (x := 12) (y := (Int.tdiv (gI s 1) 4)) (by decide) hr58).mp c59) h
        exact J32 (gI s 1, s51) _ _ _ ⟨hP, hS, lv_sub hl [1, 0] rfl, h⟩
      · have h := if_f (mt (i2_lt (x := 12) (y := (Int.tdiv (gI s 1) 4)) (by decide) hr58).mpr c59) h
        refine lv_iconst (v := 1) hx hb eX12_see_16.2.2.2.2.2.2.2 (by decide) ?_
        refine lv_goto (tgt := 33) hx hb eX12_see_29.1 (by decide) ?_
        exact J33 (gI s 1, 1, s51) _ _ _ ⟨hP, hS, lv_sub hl [1, 0] rfl, h⟩
set_option maxHeartbeats 4000000 in
set_option maxRecDepth 100000 in
theorem k_x12_toldOf (l : Launch) (D : va_G) (a : Nat → Nat) (p0 : Int) (p1 : Int) (s : MS) (o : Int) (h : m_x12_toldOf p0 p1 s = some o) : yRi l yX12_toldOf cX12_toldOf 4 (some .int) { frames := 4, cells := 0, slots := 0, locals := 240 } D [.ref (a 200), .int (i2 p0), .int (i2 p1)] (RW D a s) (i2 o) := by
  refine Met.ofW (cc := cX12_toldOf) (maxL := 4) (ret := (some .int)) (by decide) rfl ?_
  intro p e s₀ m args below meth c s₁ B hml hv
  obtain ⟨rfl, ⟨hP, hK⟩, hN⟩ := hv
  have hx := B.exec
  have hb := B.bytes
  have hr := B.returns
  have hts := atoms_spec (ws := wz yX12_toldOf cX12_toldOf 4 (some .int)) B.pre
  have ht : ∀ w ∈ lw_gd, w.before _ s₀ = true := fun w h => hts w (List.mem_cons_of_mem _ h)
  have hown : s₀.vm.findClass RX12 = some m.cls := findClass_of_methodNamed B.named
  have hlocks := B.notSynchronized
  have hS : va_S (fun _ => False) s₀.heap s₀.heap [] := va_S.rf
  have hl := lv_entry ([.ref (a 200), .int (i2 p0), .int (i2 p1)]) (n := 4) (Nat.le_of_ble_eq_true rfl)
  rw [lg_entry_eq]
  generalize (lg_sl ([.ref (a 200), .int (i2 p0), .int (i2 p1)]) ++ List.replicate (4 - (lg_sl ([.ref (a 200), .int (i2 p0), .int (i2 p1)])).length) Slot.unset).toArray = ls at hl ⊢
  have hl : lv_has ls 4 [(0, .ref (a 200)), (1, .int (i2 p0)), (2, .int (i2 p1))] := hl
  unfold m_x12_toldOf at h
  refine y_head (pcJ := 19) (σ := Int) (fun u H locs ls => va_P D vwCl (RW D a s) H ∧ va_S (fun _ => False) s₀.heap H locs ∧ lv_has ls 4 [] ∧ m_x12_toldOf_J19 s u = some o) (fun u => [.int (i2 u)]) (fun u H locs ls hI => ?_) (fun J19 => ?_)
  · obtain ⟨hP, hS, hl, h⟩ := hI
    obtain ⟨x1, rfl⟩ : ∃ z, z = u := ⟨u, rfl⟩
    have hP : va_P D vwCl (RW D a s) H := hP
    have hl : lv_has ls 4 [] := hl
    have h : m_x12_toldOf_J19 s x1 = some o := h
    unfold m_x12_toldOf_J19 at h
    obtain rfl := Option.some.inj h
    exact W.iret (v := (i2 x1)) hx hb hr (fun t ht hW => ⟨⟨_, (), rfl, rfl, trivial⟩, hS.F ht⟩) hS.2.2 eX12_toldOf_8.2.2.2.2.2.1
  refine lv_aload_n hx hb eX12_spread_52.2.2.1 rfl (lv_at hl 0 rfl) ?_
  refine lv_iload_n hx hb eX12_spread_52.2.2.2.1 rfl (lv_at hl 1 rfl) ?_
  refine lv_iload_n hx hb eX12_spread_52.2.2.2.2.1 rfl (lv_at hl 2 rfl) ?_
  obtain ⟨r3, hc2, h⟩ := bn_e h
  refine ycV (r0 := i2 r3) (As := [.int (i2 p0), .int (i2 p1)]) (rest := []) (C := RX12) (n := 2) ⟨hx, hb, hml, hown, ht⟩ (k_x12_valueOf l D a p0 p1 _ _ hc2) (zgV ml_X12_559 im_X12_valueOf se_X12_valueOf in_X12 co_X12_valueOf) rfl rfl (by decide +kernel) ⟨Nat.le_of_ble_eq_true rfl, Nat.le_of_ble_eq_true rfl⟩ hN hK hP hS 0 RW_0 rfl rfl rfl hl.1 rfl (Nat.le_of_ble_eq_true rfl) eX12_spread_52.2.2.2.2.2.1 ⟨Nat.le_of_ble_eq_true rfl, Nat.le_of_ble_eq_true rfl⟩ (fun H locs hP hS => ?_)
  refine lv_istore_n (lv' := [(3, .int (i2 r3)), (0, .ref (a 200)), (1, .int (i2 p0)), (2, .int (i2 p1))]) hx hb eX12_spread_52.2.2.2.2.2.2.1 rfl hl (by decide) rfl (fun ls hl => ?_)
  refine lv_iload_n hx hb eX12_spread_52.2.2.2.2.2.2.2 rfl (lv_at hl 0 rfl) ?_
  refine lv_iconst (v := (-1)) hx hb eX12_toldOf_8.1 (by decide) ?_
  obtain ⟨hr4, h⟩ := rg_e h
  refine lv_icmp_ne (tgt := 18) hx hb eX12_toldOf_8.2.1 (by decide) (fun c5 => ?_) (fun c5 => ?_)
  · rw [show ((-1) : Int32) = i2 (-1) from by decide] at c5
    have h := if_f (mt (i2_eq (x := r3) (y := (-1)) hr4 (by decide)).mpr c5) h
    refine lv_iload_n hx hb eX12_toldOf_8.2.2.2.2.1 rfl (lv_at hl 0 rfl) ?_
    exact J19 r3 _ _ _ ⟨hP, hS, lv_sub hl [] rfl, h⟩
  · rw [show ((-1) : Int32) = i2 (-1) from by decide] at c5
    have h := if_t ((i2_eq (x := r3) (y := (-1)) hr4 (by decide)).mp c5) h
    refine lv_sipush (v := 1000) hx hb eX12_toldOf_8.2.2.1 (by decide) ?_
    refine lv_goto (tgt := 19) hx hb eX12_toldOf_8.2.2.2.1 (by decide) ?_
    exact J19 1000 _ _ _ ⟨hP, hS, lv_sub hl [] rfl, h⟩
set_option maxHeartbeats 4000000 in
set_option maxRecDepth 100000 in
theorem k_x12_doesFit (l : Launch) (D : va_G) (a : Nat → Nat) (p0 : Int) (s : MS) (o : Int) (h : m_x12_doesFit p0 s = some o) : yRi l yX12_doesFit cX12_doesFit 3 (some .boolean) { frames := 5, cells := 0, slots := 0, locals := 300 } D [.ref (a 200), .int (i2 p0)] (RW D a s) (i2 o) := by
  refine Met.ofW (cc := cX12_doesFit) (maxL := 3) (ret := (some .boolean)) (by decide) rfl ?_
  intro p e s₀ m args below meth c s₁ B hml hv
  obtain ⟨rfl, ⟨hP, hK⟩, hN⟩ := hv
  have hx := B.exec
  have hb := B.bytes
  have hr := B.returns
  have hts := atoms_spec (ws := wz yX12_doesFit cX12_doesFit 3 (some .boolean)) B.pre
  have ht : ∀ w ∈ lw_gd, w.before _ s₀ = true := fun w h => hts w (List.mem_cons_of_mem _ h)
  have hown : s₀.vm.findClass RX12 = some m.cls := findClass_of_methodNamed B.named
  have hlocks := B.notSynchronized
  have hS : va_S (fun _ => False) s₀.heap s₀.heap [] := va_S.rf
  have hl := lv_entry ([.ref (a 200), .int (i2 p0)]) (n := 3) (Nat.le_of_ble_eq_true rfl)
  rw [lg_entry_eq]
  generalize (lg_sl ([.ref (a 200), .int (i2 p0)]) ++ List.replicate (3 - (lg_sl ([.ref (a 200), .int (i2 p0)])).length) Slot.unset).toArray = ls at hl ⊢
  have hl : lv_has ls 3 [(0, .ref (a 200)), (1, .int (i2 p0))] := hl
  unfold m_x12_doesFit at h
  refine y_loop (pcJ := 13) (σ := Int × Int) (fun n u H locs ls => va_P D vwCl (RW D a s) H ∧ va_S (fun _ => False) s₀.heap H locs ∧ lv_has ls 3 [(0, .ref (a 200)), (1, .int (i2 u.1)), (2, .int (i2 u.2))] ∧ m_x12_doesFit_L13 s n u.1 u.2 = some o) (fun u => []) (fun u H locs ls hI => by obtain ⟨_, _, _, h⟩ := hI; cases h) (fun n13 ih13 u H locs ls hI => ?_) (fun J13 => ?_)
  · obtain ⟨hP, hS, hl, h⟩ := hI
    obtain ⟨x1, x2⟩ := u
    have hP : va_P D vwCl (RW D a s) H := hP
    have hl : lv_has ls 3 [(0, .ref (a 200)), (1, .int (i2 x1)), (2, .int (i2 x2))] := hl
    have h : m_x12_doesFit_b13 s (m_x12_doesFit_L13 s n13) x1 x2 = some o := h
    unfold m_x12_doesFit_b13 at h
    refine lv_iload_n hx hb eX12_doesFit_3.2.2.2.2.2.2.1 rfl (lv_at hl 2 rfl) ?_
    refine lv_aload_n hx hb eX12_doesFit_3.2.2.2.2.2.2.2 rfl (lv_at hl 0 rfl) ?_
    refine va_get (D := D) (ci := 12) (v := .int (i2 (gI s 73))) (C := RX12) (T := TX12) (N := 116) hx hb ht inX12 hown hK hP 0 RW_0 rfl 73 (by decide) (ht (.fieldLink RX12 419 "CloneVolumesModel" "rowMany" "I") fl_X12_419) (fun _ h9 => h9) mF_73 eX12_doesFit_15.1 ?_
    obtain ⟨hr3, h⟩ := rg_e h
    obtain ⟨hr4, h⟩ := rg_e h
    refine lv_icmp_ge (tgt := 55) hx hb eX12_doesFit_15.2.1 (by decide) (fun c5 => ?_) (fun c5 => ?_)
    · have h := if_t ((i2_le (x := (gI s 73)) (y := x2) hr4 hr3).mp c5) h
      refine lv_iconst (v := 1) hx hb eX12_doesFit_55.1 (by decide) ?_
      obtain rfl := Option.some.inj h
      exact W.zret (v := 1) hx hb hr (by decide) (fun t ht hW => ⟨⟨_, (), rfl, rfl, trivial⟩, hS.F ht⟩) hS.2.2 eX12_doesFit_55.2.1
    · have h := if_f (mt (i2_le (x := (gI s 73)) (y := x2) hr4 hr3).mpr c5) h
      refine lv_aload_n hx hb eX12_doesFit_15.2.2.1 rfl (lv_at hl 0 rfl) ?_
      refine lv_iload_n hx hb eX12_doesFit_15.2.2.2.1 rfl (lv_at hl 1 rfl) ?_
      refine lv_aload_n hx hb eX12_doesFit_15.2.2.2.2.1 rfl (lv_at hl 0 rfl) ?_
      refine va_get (D := D) (ci := 12) (v := .ref (a 74)) (C := RX12) (T := TX12) (N := 116) hx hb ht inX12 hown hK hP 0 RW_0 rfl 74 (by decide) (ht (.fieldLink RX12 167 "CloneVolumesModel" "rows" "[I") fl_X12_167) (fun _ h9 => h9) mF_74 eX12_doesFit_15.2.2.2.2.2.1 ?_
      refine lv_iconst (v := 2) hx hb eX12_doesFit_15.2.2.2.2.2.2.1 (by decide) ?_
      refine lv_iload_n hx hb eX12_doesFit_15.2.2.2.2.2.2.2 rfl (lv_at hl 2 rfl) ?_
      refine lv_imul hx hb eX12_doesFit_29.1 ?_
      refine z_topi (y := i2 (2 * x2)) (i2_mul 2 x2) ?_
      obtain ⟨y6, ey6, iy6, h⟩ := rdI_e h
      refine ya_iald (i := (2 * x2)) hx hb hK hP 51 0 RW_51 rfl (by decide) ey6 iy6 eX12_doesFit_29.2.1 ?_
      obtain ⟨r8, hc7, h⟩ := bn_e h
      refine ycV (r0 := i2 r8) (As := [.int (i2 x1), .int (i2 y6)]) (rest := []) (C := RX12) (n := 2) ⟨hx, hb, hml, hown, ht⟩ (k_x12_toldOf l D a x1 y6 _ _ hc7) (zgV ml_X12_641 im_X12_toldOf se_X12_toldOf in_X12 co_X12_toldOf) rfl rfl (by decide +kernel) ⟨Nat.le_of_ble_eq_true rfl, Nat.le_of_ble_eq_true rfl⟩ hN hK hP hS 0 RW_0 rfl rfl rfl hl.1 rfl (Nat.le_of_ble_eq_true rfl) eX12_doesFit_29.2.2.1 ⟨Nat.le_of_ble_eq_true rfl, Nat.le_of_ble_eq_true rfl⟩ (fun H locs hP hS => ?_)
      refine lv_aload_n hx hb eX12_doesFit_29.2.2.2.1 rfl (lv_at hl 0 rfl) ?_
      refine va_get (D := D) (ci := 12) (v := .ref (a 74)) (C := RX12) (T := TX12) (N := 116) hx hb ht inX12 hown hK hP 0 RW_0 rfl 74 (by decide) (ht (.fieldLink RX12 167 "CloneVolumesModel" "rows" "[I") fl_X12_167) (fun _ h9 => h9) mF_74 eX12_doesFit_29.2.2.2.2.1 ?_
      refine lv_iconst (v := 2) hx hb eX12_doesFit_29.2.2.2.2.2.1 (by decide) ?_
      refine lv_iload_n hx hb eX12_doesFit_29.2.2.2.2.2.2.1 rfl (lv_at hl 2 rfl) ?_
      refine lv_imul hx hb eX12_doesFit_29.2.2.2.2.2.2.2 ?_
      refine z_topi (y := i2 (2 * x2)) (i2_mul 2 x2) ?_
      refine lv_iconst (v := 1) hx hb eX12_doesFit_41.1 (by decide) ?_
      refine lv_iadd hx hb eX12_doesFit_41.2.1 ?_
      refine z_topi (y := i2 ((2 * x2) + 1)) (i2_add (2 * x2) 1) ?_
      obtain ⟨y9, ey9, iy9, h⟩ := rdI_e h
      refine ya_iald (i := ((2 * x2) + 1)) hx hb hK hP 51 0 RW_51 rfl (by decide) ey9 iy9 eX12_doesFit_41.2.2.1 ?_
      obtain ⟨hr10, h⟩ := rg_e h
      obtain ⟨hr11, h⟩ := rg_e h
      refine lv_icmp_eq (tgt := 49) hx hb eX12_doesFit_41.2.2.2.1 (by decide) (fun c12 => ?_) (fun c12 => ?_)
      · have h := if_t ((i2_eq (x := r8) (y := y9) hr10 hr11).mp c12) h
        refine lv_iinc (v := i2 (x2 + 1)) (lv' := [(2, .int (i2 (x2 + 1))), (0, .ref (a 200)), (1, .int (i2 x1))]) hx hb eX12_doesFit_41.2.2.2.2.2.2.1 hl (k := 2) rfl (i2_add x2 1) (by decide) rfl (fun ls hl => ?_)
        refine lv_goto (tgt := 13) hx hb eX12_doesFit_41.2.2.2.2.2.2.2 (by decide) ?_
        exact ih13 (x1, x2 + 1) _ _ _ ⟨hP, hS, lv_sub hl [1, 2, 0] rfl, h⟩
      · have h := if_f (mt (i2_eq (x := r8) (y := y9) hr10 hr11).mpr c12) h
        refine lv_iconst (v := 0) hx hb eX12_doesFit_41.2.2.2.2.1 (by decide) ?_
        obtain rfl := Option.some.inj h
        exact W.zret (v := 0) hx hb hr (by decide) (fun t ht hW => ⟨⟨_, (), rfl, rfl, trivial⟩, hS.F ht⟩) hS.2.2 eX12_doesFit_41.2.2.2.2.2.1
  refine lv_aload_n hx hb eX12_back_40.2.2.2.2.2.1 rfl (lv_at hl 0 rfl) ?_
  refine lv_iload_n hx hb eX12_back_40.2.2.2.2.2.2.1 rfl (lv_at hl 1 rfl) ?_
  obtain ⟨hr13, h⟩ := rg_e h
  refine lv_i2l (v := i8 p0) hx hb eX12_back_40.2.2.2.2.2.2.2 (i2_l hr13) ?_
  obtain ⟨r15, hc14, h⟩ := bn_e h
  refine ycV (r0 := i2 r15) (As := [.long (i8 p0)]) (rest := []) (C := RX12) (n := 1) ⟨hx, hb, hml, hown, ht⟩ (k_x12_isVolume l D a p0 _ _ hc14) (zgV ml_X12_571 im_X12_isVolume se_X12_isVolume in_X12 co_X12_isVolume) rfl rfl (by decide +kernel) ⟨Nat.le_of_ble_eq_true rfl, Nat.le_of_ble_eq_true rfl⟩ hN hK hP hS 0 RW_0 rfl rfl rfl hl.1 rfl (Nat.le_of_ble_eq_true rfl) eX12_doesFit_3.1 ⟨Nat.le_of_ble_eq_true rfl, Nat.le_of_ble_eq_true rfl⟩ (fun H locs hP hS => ?_)
  obtain ⟨hr16, h⟩ := rg_e h
  refine lv_if_ne (tgt := 11) hx hb eX12_doesFit_3.2.1 (by decide) (fun c17 => ?_) (fun c17 => ?_)
  · have h := if_f (mt (i2_eq (x := r15) (y := 0) hr16 (by decide)).mpr c17) h
    refine lv_iconst (v := 0) hx hb eX12_doesFit_3.2.2.2.2.1 (by decide) ?_
    refine lv_istore_n (lv' := [(2, .int 0), (0, .ref (a 200)), (1, .int (i2 p0))]) hx hb eX12_doesFit_3.2.2.2.2.2.1 rfl hl (by decide) rfl (fun ls hl => ?_)
    exact J13 FU (p0, 0) _ _ _ ⟨hP, hS, lv_sub hl [1, 2, 0] rfl, h⟩
  · have h := if_t ((i2_eq (x := r15) (y := 0) hr16 (by decide)).mp c17) h
    refine lv_iconst (v := 0) hx hb eX12_doesFit_3.2.2.1 (by decide) ?_
    obtain rfl := Option.some.inj h
    exact W.zret (v := 0) hx hb hr (by decide) (fun t ht hW => ⟨⟨_, (), rfl, rfl, trivial⟩, hS.F ht⟩) hS.2.2 eX12_doesFit_3.2.2.2.1
set_option maxHeartbeats 4000000 in
set_option maxRecDepth 100000 in
theorem k_x12_fits (l : Launch) (D : va_G) (a : Nat → Nat) (p0 : Int) (s : MS) (o : Int) (h : m_x12_fits p0 s = some o) : yRi l yX12_fits cX12_fits 4 (some .int) { frames := 6, cells := 0, slots := 0, locals := 360 } D [.ref (a 200), .int (i2 p0)] (RW D a s) (i2 o) := by
  refine Met.ofW (cc := cX12_fits) (maxL := 4) (ret := (some .int)) (by decide) rfl ?_
  intro p e s₀ m args below meth c s₁ B hml hv
  obtain ⟨rfl, ⟨hP, hK⟩, hN⟩ := hv
  have hx := B.exec
  have hb := B.bytes
  have hr := B.returns
  have hts := atoms_spec (ws := wz yX12_fits cX12_fits 4 (some .int)) B.pre
  have ht : ∀ w ∈ lw_gd, w.before _ s₀ = true := fun w h => hts w (List.mem_cons_of_mem _ h)
  have hown : s₀.vm.findClass RX12 = some m.cls := findClass_of_methodNamed B.named
  have hlocks := B.notSynchronized
  have hS : va_S (fun _ => False) s₀.heap s₀.heap [] := va_S.rf
  have hl := lv_entry ([.ref (a 200), .int (i2 p0)]) (n := 4) (Nat.le_of_ble_eq_true rfl)
  rw [lg_entry_eq]
  generalize (lg_sl ([.ref (a 200), .int (i2 p0)]) ++ List.replicate (4 - (lg_sl ([.ref (a 200), .int (i2 p0)])).length) Slot.unset).toArray = ls at hl ⊢
  have hl : lv_has ls 4 [(0, .ref (a 200)), (1, .int (i2 p0))] := hl
  unfold m_x12_fits at h
  refine y_head (pcJ := 54) (σ := Int) (fun u H locs ls => va_P D vwCl (RW D a s) H ∧ va_S (fun _ => False) s₀.heap H locs ∧ lv_has ls 4 [] ∧ m_x12_fits_J54 s u = some o) (fun u => [.int (i2 u)]) (fun u H locs ls hI => ?_) (fun J54 => ?_)
  · obtain ⟨hP, hS, hl, h⟩ := hI
    obtain ⟨x1, rfl⟩ : ∃ z, z = u := ⟨u, rfl⟩
    have hP : va_P D vwCl (RW D a s) H := hP
    have hl : lv_has ls 4 [] := hl
    have h : m_x12_fits_J54 s x1 = some o := h
    unfold m_x12_fits_J54 at h
    obtain rfl := Option.some.inj h
    exact W.iret (v := (i2 x1)) hx hb hr (fun t ht hW => ⟨⟨_, (), rfl, rfl, trivial⟩, hS.F ht⟩) hS.2.2 eX12_fits_53.2.1
  refine y_loop (pcJ := 11) (σ := Int × Int × Int) (fun n u H locs ls => va_P D vwCl (RW D a s) H ∧ va_S (fun _ => False) s₀.heap H locs ∧ lv_has ls 4 [(0, .ref (a 200)), (1, .int (i2 u.1)), (2, .int (i2 u.2.1)), (3, .int (i2 u.2.2))] ∧ m_x12_fits_L11 s n u.1 u.2.1 u.2.2 = some o) (fun u => []) (fun u H locs ls hI => by obtain ⟨_, _, _, h⟩ := hI; cases h) (fun n11 ih11 u H locs ls hI => ?_) (fun J11 => ?_)
  · obtain ⟨hP, hS, hl, h⟩ := hI
    obtain ⟨x2, x3, x4⟩ := u
    have hP : va_P D vwCl (RW D a s) H := hP
    have hl : lv_has ls 4 [(0, .ref (a 200)), (1, .int (i2 x2)), (2, .int (i2 x3)), (3, .int (i2 x4))] := hl
    have h : m_x12_fits_b11 s (m_x12_fits_L11 s n11) x2 x3 x4 = some o := h
    unfold m_x12_fits_b11 at h
    refine y_head (pcJ := 38) (σ := Int × Int × Int) (fun u H locs ls => va_P D vwCl (RW D a s) H ∧ va_S (fun _ => False) s₀.heap H locs ∧ lv_has ls 4 [(0, .ref (a 200)), (1, .int (i2 u.1)), (2, .int (i2 u.2.1)), (3, .int (i2 u.2.2))] ∧ m_x12_fits_J38 s (m_x12_fits_L11 s n11) u.1 u.2.1 u.2.2 = some o) (fun u => []) (fun u H locs ls hI => ?_) (fun J38 => ?_)
    · obtain ⟨hP, hS, hl, h⟩ := hI
      obtain ⟨x5, x6, x7⟩ := u
      have hP : va_P D vwCl (RW D a s) H := hP
      have hl : lv_has ls 4 [(0, .ref (a 200)), (1, .int (i2 x5)), (2, .int (i2 x6)), (3, .int (i2 x7))] := hl
      have h : m_x12_fits_J38 s (m_x12_fits_L11 s n11) x5 x6 x7 = some o := h
      unfold m_x12_fits_J38 at h
      refine lv_iinc (v := i2 (x7 + 1)) (lv' := [(3, .int (i2 (x7 + 1))), (0, .ref (a 200)), (1, .int (i2 x5)), (2, .int (i2 x6))]) hx hb eX12_fits_35.2.1 hl (k := 3) rfl (i2_add x7 1) (by decide) rfl (fun ls hl => ?_)
      refine lv_goto (tgt := 11) hx hb eX12_fits_35.2.2.1 (by decide) ?_
      exact ih11 (x5, x6, x7 + 1) _ _ _ ⟨hP, hS, lv_sub hl [1, 2, 3, 0] rfl, h⟩
    refine lv_iload_n hx hb eX12_fits_8.2.2.2.1 rfl (lv_at hl 3 rfl) ?_
    refine lv_bipush (v := 8) hx hb eX12_fits_8.2.2.2.2.1 (by decide) ?_
    obtain ⟨hr8, h⟩ := rg_e h
    refine lv_icmp_ge (tgt := 44) hx hb eX12_fits_8.2.2.2.2.2.1 (by decide) (fun c9 => ?_) (fun c9 => ?_)
    · have h := if_t ((i2_le (x := 8) (y := x4) (by decide) hr8).mp c9) h
      refine lv_iload_n hx hb eX12_fits_35.2.2.2.1 rfl (lv_at hl 1 rfl) ?_
      refine lv_iconst (v := (-1)) hx hb eX12_fits_35.2.2.2.2.1 (by decide) ?_
      obtain ⟨hr10, h⟩ := rg_e h
      refine lv_icmp_ne (tgt := 53) hx hb eX12_fits_35.2.2.2.2.2.1 (by decide) (fun c11 => ?_) (fun c11 => ?_)
      · rw [show ((-1) : Int32) = i2 (-1) from by decide] at c11
        have h := if_f (mt (i2_eq (x := x2) (y := (-1)) hr10 (by decide)).mpr c11) h
        refine lv_iconst (v := (-1)) hx hb eX12_fits_53.1 (by decide) ?_
        exact J54 (-1) _ _ _ ⟨hP, hS, lv_sub hl [] rfl, h⟩
      · rw [show ((-1) : Int32) = i2 (-1) from by decide] at c11
        have h := if_t ((i2_eq (x := x2) (y := (-1)) hr10 (by decide)).mp c11) h
        refine lv_iload_n hx hb eX12_fits_35.2.2.2.2.2.2.1 rfl (lv_at hl 2 rfl) ?_
        refine lv_goto (tgt := 54) hx hb eX12_fits_35.2.2.2.2.2.2.2 (by decide) ?_
        exact J54 x3 _ _ _ ⟨hP, hS, lv_sub hl [] rfl, h⟩
    · have h := if_f (mt (i2_le (x := 8) (y := x4) (by decide) hr8).mpr c9) h
      refine lv_aload_n hx hb eX12_fits_8.2.2.2.2.2.2.1 rfl (lv_at hl 0 rfl) ?_
      refine lv_iload_n hx hb eX12_fits_8.2.2.2.2.2.2.2 rfl (lv_at hl 3 rfl) ?_
      obtain ⟨r13, hc12, h⟩ := bn_e h
      refine ycV (r0 := i2 r13) (As := [.int (i2 x4)]) (rest := []) (C := RX12) (n := 1) ⟨hx, hb, hml, hown, ht⟩ (k_x12_doesFit l D a x4 _ _ hc12) (zgV ml_X12_644 im_X12_doesFit se_X12_doesFit in_X12 co_X12_doesFit) rfl rfl (by decide +kernel) ⟨Nat.le_of_ble_eq_true rfl, Nat.le_of_ble_eq_true rfl⟩ hN hK hP hS 0 RW_0 rfl rfl rfl hl.1 rfl (Nat.le_of_ble_eq_true rfl) eX12_fits_19.1 ⟨Nat.le_of_ble_eq_true rfl, Nat.le_of_ble_eq_true rfl⟩ (fun H locs hP hS => ?_)
      obtain ⟨hr14, h⟩ := rg_e h
      refine lv_if_ne (tgt := 28) hx hb eX12_fits_19.2.1 (by decide) (fun c15 => ?_) (fun c15 => ?_)
      · have h := if_f (mt (i2_eq (x := r13) (y := 0) hr14 (by decide)).mpr c15) h
        refine lv_iload_n hx hb eX12_fits_19.2.2.2.1 rfl (lv_at hl 2 rfl) ?_
        refine lv_iload_n hx hb eX12_fits_19.2.2.2.2.1 rfl (lv_at hl 1 rfl) ?_
        obtain ⟨hr16, h⟩ := rg_e h
        obtain ⟨hr17, h⟩ := rg_e h
        refine lv_icmp_ne (tgt := 35) hx hb eX12_fits_19.2.2.2.2.2.1 (by decide) (fun c18 => ?_) (fun c18 => ?_)
        · have h := if_f (mt (i2_eq (x := x3) (y := x2) hr16 hr17).mpr c18) h
          refine lv_iinc (v := i2 (x3 + 1)) (lv' := [(2, .int (i2 (x3 + 1))), (0, .ref (a 200)), (1, .int (i2 x2)), (3, .int (i2 x4))]) hx hb eX12_fits_35.1 hl (k := 2) rfl (i2_add x3 1) (by decide) rfl (fun ls hl => ?_)
          exact J38 (x2, x3 + 1, x4) _ _ _ ⟨hP, hS, lv_sub hl [1, 2, 0, 3] rfl, h⟩
        · have h := if_t ((i2_eq (x := x3) (y := x2) hr16 hr17).mp c18) h
          refine lv_iload_n hx hb eX12_fits_19.2.2.2.2.2.2.1 rfl (lv_at hl 3 rfl) ?_
          obtain rfl := Option.some.inj h
          exact W.iret (v := (i2 x4)) hx hb hr (fun t ht hW => ⟨⟨_, (), rfl, rfl, trivial⟩, hS.F ht⟩) hS.2.2 eX12_fits_19.2.2.2.2.2.2.2
      · have h := if_t ((i2_eq (x := r13) (y := 0) hr14 (by decide)).mp c15) h
        refine lv_goto (tgt := 38) hx hb eX12_fits_19.2.2.1 (by decide) ?_
        exact J38 (x2, x3, x4) _ _ _ ⟨hP, hS, lv_sub hl [0, 1, 2, 3] rfl, h⟩
  refine lv_iload_n hx hb eX12_doesFit_55.2.2.1 rfl (lv_at hl 1 rfl) ?_
  refine lv_iconst (v := (-1)) hx hb eX12_doesFit_55.2.2.2.1 (by decide) ?_
  obtain ⟨hr19, h⟩ := rg_e h
  refine lv_icmp_ge (tgt := 7) hx hb eX12_doesFit_55.2.2.2.2.1 (by decide) (fun c20 => ?_) (fun c20 => ?_)
  · rw [show ((-1) : Int32) = i2 (-1) from by decide] at c20
    have h := if_t ((i2_le (x := (-1)) (y := p0) (by decide) hr19).mp c20) h
    refine lv_iconst (v := 0) hx hb eX12_doesFit_55.2.2.2.2.2.2.2 (by decide) ?_
    refine lv_istore_n (lv' := [(2, .int 0), (0, .ref (a 200)), (1, .int (i2 p0))]) hx hb eX12_fits_8.1 rfl hl (by decide) rfl (fun ls hl => ?_)
    refine lv_iconst (v := 0) hx hb eX12_fits_8.2.1 (by decide) ?_
    refine lv_istore_n (lv' := [(3, .int 0), (2, .int 0), (0, .ref (a 200)), (1, .int (i2 p0))]) hx hb eX12_fits_8.2.2.1 rfl hl (by decide) rfl (fun ls hl => ?_)
    exact J11 FU (p0, 0, 0) _ _ _ ⟨hP, hS, lv_sub hl [2, 3, 1, 0] rfl, h⟩
  · rw [show ((-1) : Int32) = i2 (-1) from by decide] at c20
    have h := if_f (mt (i2_le (x := (-1)) (y := p0) (by decide) hr19).mpr c20) h
    refine lv_iconst (v := (-1)) hx hb eX12_doesFit_55.2.2.2.2.2.1 (by decide) ?_
    obtain rfl := Option.some.inj h
    exact W.iret (v := (-1)) hx hb hr (fun t ht hW => ⟨⟨_, (), rfl, rfl, trivial⟩, hS.F ht⟩) hS.2.2 eX12_doesFit_55.2.2.2.2.2.2.1
