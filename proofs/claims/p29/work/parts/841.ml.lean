theorem co_X12_canBe : Cond.code yX12_canBe cX12_canBe 7 (some .boolean) ∈ lw_gd := zm (lw_g_10 (List.mem_of_getElem? (i := 81) (by decide +kernel))) rfl
theorem co_X12_crashes : Cond.code yX12_crashes cX12_crashes 2 none ∈ lw_gd := zm (lw_g_10 (List.mem_of_getElem? (i := 118) (by decide +kernel))) rfl
theorem co_X12_fits : Cond.code yX12_fits cX12_fits 4 (some .int) ∈ lw_gd := zm (lw_g_10 (List.mem_of_getElem? (i := 52) (by decide +kernel))) rfl
theorem co_X12_freeNumber : Cond.code yX12_freeNumber cX12_freeNumber 2 (some .int) ∈ lw_gd := zm (lw_g_10 (List.mem_of_getElem? (i := 102) (by decide +kernel))) rfl
theorem co_X12_isKept : Cond.code yX12_isKept cX12_isKept 5 none ∈ lw_gd := zm (lw_g_10 (List.mem_of_getElem? (i := 89) (by decide +kernel))) rfl
theorem co_X12_keeps : Cond.code yX12_keeps cX12_keeps 2 none ∈ lw_gd := zm (lw_g_10 (List.mem_of_getElem? (i := 85) (by decide +kernel))) rfl
theorem co_X12_mostAlike : Cond.code yX12_mostAlike cX12_mostAlike 6 (some .int) ∈ lw_gd := zm (lw_g_10 (List.mem_of_getElem? (i := 69) (by decide +kernel))) rfl
theorem fl_X12_653 : Cond.fieldLink RX12 653 "CloneVolumesModel" "newest" "I" ∈ lw_gd := zm (lw_g_6 (List.mem_of_getElem? (i := 218) (by decide +kernel))) rfl
theorem im_X12_canBe : Cond.instanceMethod yX12_canBe ∈ lw_gd := zm (lw_g_10 (List.mem_of_getElem? (i := 80) (by decide +kernel))) rfl
theorem im_X12_crashes : Cond.instanceMethod yX12_crashes ∈ lw_gd := zm (lw_g_10 (List.mem_of_getElem? (i := 117) (by decide +kernel))) rfl
theorem im_X12_fits : Cond.instanceMethod yX12_fits ∈ lw_gd := zm (lw_g_10 (List.mem_of_getElem? (i := 50) (by decide +kernel))) rfl
theorem im_X12_freeNumber : Cond.instanceMethod yX12_freeNumber ∈ lw_gd := zm (lw_g_10 (List.mem_of_getElem? (i := 101) (by decide +kernel))) rfl
theorem im_X12_isKept : Cond.instanceMethod yX12_isKept ∈ lw_gd := zm (lw_g_10 (List.mem_of_getElem? (i := 88) (by decide +kernel))) rfl
theorem im_X12_keeps : Cond.instanceMethod yX12_keeps ∈ lw_gd := zm (lw_g_10 (List.mem_of_getElem? (i := 84) (by decide +kernel))) rfl
theorem im_X12_mostAlike : Cond.instanceMethod yX12_mostAlike ∈ lw_gd := zm (lw_g_10 (List.mem_of_getElem? (i := 68) (by decide +kernel))) rfl
theorem ml_X12_647 : Cond.methodLink RX12 647 yX12_fits ∈ lw_gd := zm (lw_g_10 (List.mem_of_getElem? (i := 65) (by decide +kernel))) rfl
theorem ml_X12_650 : Cond.methodLink RX12 650 yX12_mostAlike ∈ lw_gd := zm (lw_g_10 (List.mem_of_getElem? (i := 66) (by decide +kernel))) rfl
theorem ml_X12_656 : Cond.methodLink RX12 656 yX12_canBe ∈ lw_gd := zm (lw_g_10 (List.mem_of_getElem? (i := 78) (by decide +kernel))) rfl
theorem ml_X12_659 : Cond.methodLink RX12 659 yX12_isKept ∈ lw_gd := zm (lw_g_10 (List.mem_of_getElem? (i := 86) (by decide +kernel))) rfl
theorem ml_X12_662 : Cond.methodLink RX12 662 yX12_keeps ∈ lw_gd := zm (lw_g_10 (List.mem_of_getElem? (i := 82) (by decide +kernel))) rfl
theorem ml_X12_665 : Cond.methodLink RX12 665 yX12_freeNumber ∈ lw_gd := zm (lw_g_10 (List.mem_of_getElem? (i := 99) (by decide +kernel))) rfl
theorem ml_X12_668 : Cond.methodLink RX12 668 yX12_crashes ∈ lw_gd := zm (lw_g_10 (List.mem_of_getElem? (i := 115) (by decide +kernel))) rfl
theorem se_X12_canBe : Cond.selects RX12 yX12_canBe yX12_canBe ∈ lw_gd := zm (List.mem_of_getElem? (i := 170) (by decide +kernel)) rfl
theorem se_X12_crashes : Cond.selects RX12 yX12_crashes yX12_crashes ∈ lw_gd := zm (List.mem_of_getElem? (i := 174) (by decide +kernel)) rfl
theorem se_X12_fits : Cond.selects RX12 yX12_fits yX12_fits ∈ lw_gd := zm (lw_g_10 (List.mem_of_getElem? (i := 51) (by decide +kernel))) rfl
theorem se_X12_freeNumber : Cond.selects RX12 yX12_freeNumber yX12_freeNumber ∈ lw_gd := zm (List.mem_of_getElem? (i := 173) (by decide +kernel)) rfl
theorem se_X12_isKept : Cond.selects RX12 yX12_isKept yX12_isKept ∈ lw_gd := zm (List.mem_of_getElem? (i := 172) (by decide +kernel)) rfl
theorem se_X12_keeps : Cond.selects RX12 yX12_keeps yX12_keeps ∈ lw_gd := zm (List.mem_of_getElem? (i := 171) (by decide +kernel)) rfl
theorem se_X12_mostAlike : Cond.selects RX12 yX12_mostAlike yX12_mostAlike ∈ lw_gd := zm (List.mem_of_getElem? (i := 169) (by decide +kernel)) rfl
theorem eX12_canBe_0 : decode cX12_canBe 0 = .ok (.iconst 0, 1) ∧ decode cX12_canBe 1 = .ok (.istore 5, 2) ∧ decode cX12_canBe 3 = .ok (.iload 5, 2) ∧ decode cX12_canBe 5 = .ok (.sipush 785, 3) ∧ decode cX12_canBe 8 = .ok (.if_icmp .ge 23, 3) ∧ decode cX12_canBe 11 = .ok (.aload_n 0, 1) ∧ decode cX12_canBe 12 = .ok (.getfield 143, 3) ∧ decode cX12_canBe 15 = .ok (.iload 5, 2) := by decide +kernel
theorem eX12_canBe_17 : decode cX12_canBe 17 = .ok (.aload_n 0, 1) ∧ decode cX12_canBe 18 = .ok (.getfield 121, 3) ∧ decode cX12_canBe 21 = .ok (.iload 5, 2) ∧ decode cX12_canBe 23 = .ok (.iaload, 1) ∧ decode cX12_canBe 24 = .ok (.iastore, 1) ∧ decode cX12_canBe 25 = .ok (.iinc 5 1, 3) ∧ decode cX12_canBe 28 = .ok (.goto (-25), 3) ∧ decode cX12_canBe 31 = .ok (.aload_n 0, 1) := by decide +kernel
theorem eX12_canBe_32 : decode cX12_canBe 32 = .ok (.iload_n 1, 1) ∧ decode cX12_canBe 33 = .ok (.iload_n 2, 1) ∧ decode cX12_canBe 34 = .ok (.iload_n 3, 1) ∧ decode cX12_canBe 35 = .ok (.iload 4, 2) ∧ decode cX12_canBe 37 = .ok (.invokevirtual 425, 3) ∧ decode cX12_canBe 40 = .ok (.ifCond .ne 5, 3) ∧ decode cX12_canBe 43 = .ok (.iconst 0, 1) ∧ decode cX12_canBe 44 = .ok (.ireturn, 1) := by decide +kernel
theorem eX12_canBe_45 : decode cX12_canBe 45 = .ok (.iconst 0, 1) ∧ decode cX12_canBe 46 = .ok (.istore 5, 2) ∧ decode cX12_canBe 48 = .ok (.iload 5, 2) ∧ decode cX12_canBe 50 = .ok (.sipush 785, 3) ∧ decode cX12_canBe 53 = .ok (.if_icmp .ge 41, 3) ∧ decode cX12_canBe 56 = .ok (.aload_n 0, 1) ∧ decode cX12_canBe 57 = .ok (.getfield 121, 3) ∧ decode cX12_canBe 60 = .ok (.iload 5, 2) := by decide +kernel
theorem eX12_canBe_62 : decode cX12_canBe 62 = .ok (.iaload, 1) ∧ decode cX12_canBe 63 = .ok (.istore 6, 2) ∧ decode cX12_canBe 65 = .ok (.aload_n 0, 1) ∧ decode cX12_canBe 66 = .ok (.getfield 121, 3) ∧ decode cX12_canBe 69 = .ok (.iload 5, 2) ∧ decode cX12_canBe 71 = .ok (.aload_n 0, 1) ∧ decode cX12_canBe 72 = .ok (.getfield 143, 3) ∧ decode cX12_canBe 75 = .ok (.iload 5, 2) := by decide +kernel
theorem eX12_canBe_77 : decode cX12_canBe 77 = .ok (.iaload, 1) ∧ decode cX12_canBe 78 = .ok (.iastore, 1) ∧ decode cX12_canBe 79 = .ok (.aload_n 0, 1) ∧ decode cX12_canBe 80 = .ok (.getfield 143, 3) ∧ decode cX12_canBe 83 = .ok (.iload 5, 2) ∧ decode cX12_canBe 85 = .ok (.iload 6, 2) ∧ decode cX12_canBe 87 = .ok (.iastore, 1) ∧ decode cX12_canBe 88 = .ok (.iinc 5 1, 3) := by decide +kernel
theorem eX12_canBe_91 : decode cX12_canBe 91 = .ok (.goto (-43), 3) ∧ decode cX12_canBe 94 = .ok (.aload_n 0, 1) ∧ decode cX12_canBe 95 = .ok (.invokevirtual 662, 3) ∧ decode cX12_canBe 98 = .ok (.iconst 0, 1) ∧ decode cX12_canBe 99 = .ok (.istore 5, 2) ∧ decode cX12_canBe 101 = .ok (.iload 5, 2) ∧ decode cX12_canBe 103 = .ok (.sipush 785, 3) ∧ decode cX12_canBe 106 = .ok (.if_icmp .ge 23, 3) := by decide +kernel
theorem eX12_canBe_109 : decode cX12_canBe 109 = .ok (.aload_n 0, 1) ∧ decode cX12_canBe 110 = .ok (.getfield 121, 3) ∧ decode cX12_canBe 113 = .ok (.iload 5, 2) ∧ decode cX12_canBe 115 = .ok (.aload_n 0, 1) ∧ decode cX12_canBe 116 = .ok (.getfield 143, 3) ∧ decode cX12_canBe 119 = .ok (.iload 5, 2) ∧ decode cX12_canBe 121 = .ok (.iaload, 1) ∧ decode cX12_canBe 122 = .ok (.iastore, 1) := by decide +kernel
theorem eX12_canBe_123 : decode cX12_canBe 123 = .ok (.iinc 5 1, 3) ∧ decode cX12_canBe 126 = .ok (.goto (-25), 3) ∧ decode cX12_canBe 129 = .ok (.iconst 1, 1) ∧ decode cX12_canBe 130 = .ok (.ireturn, 1) ∧ decode cX12_checkpoint 0 = .ok (.aload_n 0, 1) ∧ decode cX12_checkpoint 1 = .ok (.getfield 406, 3) ∧ decode cX12_checkpoint 4 = .ok (.ifCond .ne 9, 3) ∧ decode cX12_checkpoint 7 = .ok (.aload_n 0, 1) := by decide +kernel
theorem eX12_checkpoint_8 : decode cX12_checkpoint 8 = .ok (.iconst 3, 1) ∧ decode cX12_checkpoint 9 = .ok (.invokevirtual 399, 3) ∧ decode cX12_checkpoint 12 = .ok (.ireturn, 1) ∧ decode cX12_checkpoint 13 = .ok (.aload_n 0, 1) ∧ decode cX12_checkpoint 14 = .ok (.invokevirtual 662, 3) ∧ decode cX12_checkpoint 17 = .ok (.aload_n 0, 1) ∧ decode cX12_checkpoint 18 = .ok (.invokevirtual 568, 3) ∧ decode cX12_checkpoint 21 = .ok (.aload_n 0, 1) := by decide +kernel
theorem eX12_checkpoint_22 : decode cX12_checkpoint 22 = .ok (.invokevirtual 581, 3) ∧ decode cX12_checkpoint 25 = .ok (.istore_n 1, 1) ∧ decode cX12_checkpoint 26 = .ok (.aload_n 0, 1) ∧ decode cX12_checkpoint 27 = .ok (.invokevirtual 413, 3) ∧ decode cX12_checkpoint 30 = .ok (.aload_n 0, 1) ∧ decode cX12_checkpoint 31 = .ok (.iconst 4, 1) ∧ decode cX12_checkpoint 32 = .ok (.sipush 255, 3) ∧ decode cX12_checkpoint 35 = .ok (.invokevirtual 659, 3) := by decide +kernel
theorem eX12_checkpoint_38 : decode cX12_checkpoint 38 = .ok (.iload_n 1, 1) ∧ decode cX12_checkpoint 39 = .ok (.ireturn, 1) ∧ decode cX12_copy 0 = .ok (.aload_n 0, 1) ∧ decode cX12_copy 1 = .ok (.invokevirtual 665, 3) ∧ decode cX12_copy 4 = .ok (.istore_n 2, 1) ∧ decode cX12_copy 5 = .ok (.aload_n 0, 1) ∧ decode cX12_copy 6 = .ok (.iload_n 1, 1) ∧ decode cX12_copy 7 = .ok (.i2l, 1) := by decide +kernel
theorem eX12_copy_8 : decode cX12_copy 8 = .ok (.invokevirtual 571, 3) ∧ decode cX12_copy 11 = .ok (.ifCond .eq 9, 3) ∧ decode cX12_copy 14 = .ok (.iload_n 2, 1) ∧ decode cX12_copy 15 = .ok (.bipush 8, 2) ∧ decode cX12_copy 17 = .ok (.if_icmp .ne 9, 3) ∧ decode cX12_copy 20 = .ok (.aload_n 0, 1) ∧ decode cX12_copy 21 = .ok (.iconst 2, 1) ∧ decode cX12_copy 22 = .ok (.invokevirtual 399, 3) := by decide +kernel
theorem eX12_copy_25 : decode cX12_copy 25 = .ok (.ireturn, 1) ∧ decode cX12_copy 26 = .ok (.aload_n 0, 1) ∧ decode cX12_copy 27 = .ok (.invokevirtual 662, 3) ∧ decode cX12_copy 30 = .ok (.aload_n 0, 1) ∧ decode cX12_copy 31 = .ok (.invokevirtual 568, 3) ∧ decode cX12_copy 34 = .ok (.aload_n 0, 1) ∧ decode cX12_copy 35 = .ok (.iload_n 1, 1) ∧ decode cX12_copy 36 = .ok (.iload_n 2, 1) := by decide +kernel
theorem eX12_copy_37 : decode cX12_copy 37 = .ok (.invokevirtual 422, 3) ∧ decode cX12_copy 40 = .ok (.aload_n 0, 1) ∧ decode cX12_copy 41 = .ok (.iconst 2, 1) ∧ decode cX12_copy 42 = .ok (.iload_n 2, 1) ∧ decode cX12_copy 43 = .ok (.invokevirtual 659, 3) ∧ decode cX12_copy 46 = .ok (.iload_n 2, 1) ∧ decode cX12_copy 47 = .ok (.ireturn, 1) ∧ decode cX12_crash 0 = .ok (.aload_n 0, 1) := by decide +kernel
theorem eX12_crash_1 : decode cX12_crash 1 = .ok (.getfield 406, 3) ∧ decode cX12_crash 4 = .ok (.ifCond .ne 9, 3) ∧ decode cX12_crash 7 = .ok (.aload_n 0, 1) ∧ decode cX12_crash 8 = .ok (.iconst 3, 1) ∧ decode cX12_crash 9 = .ok (.invokevirtual 399, 3) ∧ decode cX12_crash 12 = .ok (.ireturn, 1) ∧ decode cX12_crash 13 = .ok (.aload_n 0, 1) ∧ decode cX12_crash 14 = .ok (.invokevirtual 662, 3) := by decide +kernel
theorem eX12_crash_17 : decode cX12_crash 17 = .ok (.aload_n 0, 1) ∧ decode cX12_crash 18 = .ok (.invokevirtual 568, 3) ∧ decode cX12_crash 21 = .ok (.iconst 0, 1) ∧ decode cX12_crash 22 = .ok (.istore_n 1, 1) ∧ decode cX12_crash 23 = .ok (.iconst 0, 1) ∧ decode cX12_crash 24 = .ok (.istore_n 2, 1) ∧ decode cX12_crash 25 = .ok (.iload_n 2, 1) ∧ decode cX12_crash 26 = .ok (.aload_n 0, 1) := by decide +kernel
theorem eX12_crash_27 : decode cX12_crash 27 = .ok (.invokevirtual 429, 3) ∧ decode cX12_crash 30 = .ok (.if_icmp .ge 20, 3) ∧ decode cX12_crash 33 = .ok (.aload_n 0, 1) ∧ decode cX12_crash 34 = .ok (.iload_n 2, 1) ∧ decode cX12_crash 35 = .ok (.invokevirtual 508, 3) ∧ decode cX12_crash 38 = .ok (.ifCond .eq 6, 3) ∧ decode cX12_crash 41 = .ok (.iinc 1 1, 3) ∧ decode cX12_crash 44 = .ok (.iinc 2 1, 3) := by decide +kernel
theorem eX12_crash_47 : decode cX12_crash 47 = .ok (.goto (-22), 3) ∧ decode cX12_crash 50 = .ok (.aload_n 0, 1) ∧ decode cX12_crash 51 = .ok (.invokevirtual 668, 3) ∧ decode cX12_crash 54 = .ok (.aload_n 0, 1) ∧ decode cX12_crash 55 = .ok (.iconst 5, 1) ∧ decode cX12_crash 56 = .ok (.sipush 255, 3) ∧ decode cX12_crash 59 = .ok (.invokevirtual 659, 3) ∧ decode cX12_crash 62 = .ok (.iload_n 1, 1) := by decide +kernel
theorem eX12_crash_63 : decode cX12_crash 63 = .ok (.ireturn, 1) ∧ decode cX12_drop 0 = .ok (.aload_n 0, 1) ∧ decode cX12_drop 1 = .ok (.iload_n 1, 1) ∧ decode cX12_drop 2 = .ok (.i2l, 1) ∧ decode cX12_drop 3 = .ok (.invokevirtual 571, 3) ∧ decode cX12_drop 6 = .ok (.ifCond .ne 9, 3) ∧ decode cX12_drop 9 = .ok (.aload_n 0, 1) ∧ decode cX12_drop 10 = .ok (.iconst 2, 1) := by decide +kernel
theorem eX12_drop_11 : decode cX12_drop 11 = .ok (.invokevirtual 399, 3) ∧ decode cX12_drop 14 = .ok (.ireturn, 1) ∧ decode cX12_drop 15 = .ok (.aload_n 0, 1) ∧ decode cX12_drop 16 = .ok (.invokevirtual 662, 3) ∧ decode cX12_drop 19 = .ok (.aload_n 0, 1) ∧ decode cX12_drop 20 = .ok (.invokevirtual 568, 3) ∧ decode cX12_drop 23 = .ok (.aload_n 0, 1) ∧ decode cX12_drop 24 = .ok (.invokevirtual 578, 3) := by decide +kernel
theorem eX12_drop_27 : decode cX12_drop 27 = .ok (.istore_n 2, 1) ∧ decode cX12_drop 28 = .ok (.aload_n 0, 1) ∧ decode cX12_drop 29 = .ok (.iload_n 1, 1) ∧ decode cX12_drop 30 = .ok (.invokevirtual 604, 3) ∧ decode cX12_drop 33 = .ok (.aload_n 0, 1) ∧ decode cX12_drop 34 = .ok (.iconst 3, 1) ∧ decode cX12_drop 35 = .ok (.iload_n 1, 1) ∧ decode cX12_drop 36 = .ok (.invokevirtual 659, 3) := by decide +kernel
theorem eX12_drop_39 : decode cX12_drop 39 = .ok (.iload_n 2, 1) ∧ decode cX12_drop 40 = .ok (.aload_n 0, 1) ∧ decode cX12_drop 41 = .ok (.invokevirtual 578, 3) ∧ decode cX12_drop 44 = .ok (.isub, 1) ∧ decode cX12_drop 45 = .ok (.ireturn, 1) ∧ decode cX12_freeNumber 0 = .ok (.iconst 0, 1) ∧ decode cX12_freeNumber 1 = .ok (.istore_n 1, 1) ∧ decode cX12_freeNumber 2 = .ok (.iload_n 1, 1) := by decide +kernel
theorem eX12_freeNumber_3 : decode cX12_freeNumber 3 = .ok (.bipush 8, 2) ∧ decode cX12_freeNumber 5 = .ok (.if_icmp .ge 21, 3) ∧ decode cX12_freeNumber 8 = .ok (.aload_n 0, 1) ∧ decode cX12_freeNumber 9 = .ok (.getfield 121, 3) ∧ decode cX12_freeNumber 12 = .ok (.iload_n 1, 1) ∧ decode cX12_freeNumber 13 = .ok (.iaload, 1) ∧ decode cX12_freeNumber 14 = .ok (.sipush 255, 3) ∧ decode cX12_freeNumber 17 = .ok (.if_icmp .eq 9, 3) := by decide +kernel
theorem eX12_freeNumber_20 : decode cX12_freeNumber 20 = .ok (.iinc 1 1, 3) ∧ decode cX12_freeNumber 23 = .ok (.goto (-21), 3) ∧ decode cX12_freeNumber 26 = .ok (.iload_n 1, 1) ∧ decode cX12_freeNumber 27 = .ok (.ireturn, 1) ∧ decode cX12_isRefused 0 = .ok (.aload_n 0, 1) ∧ decode cX12_isRefused 1 = .ok (.getfield 17, 3) ∧ decode cX12_isRefused 4 = .ok (.iload_n 1, 1) ∧ decode cX12_isRefused 5 = .ok (.dup2, 1) := by decide +kernel
theorem eX12_isRefused_6 : decode cX12_isRefused 6 = .ok (.iaload, 1) ∧ decode cX12_isRefused 7 = .ok (.iconst 1, 1) ∧ decode cX12_isRefused 8 = .ok (.iadd, 1) ∧ decode cX12_isRefused 9 = .ok (.iastore, 1) ∧ decode cX12_isRefused 10 = .ok (.iconst 0, 1) ∧ decode cX12_isRefused 11 = .ok (.ireturn, 1) ∧ decode cX12_keeps 0 = .ok (.aload_n 0, 1) ∧ decode cX12_keeps 1 = .ok (.aload_n 0, 1) := by decide +kernel
theorem eX12_keeps_2 : decode cX12_keeps 2 = .ok (.getfield 653, 3) ∧ decode cX12_keeps 5 = .ok (.iconst 1, 1) ∧ decode cX12_keeps 6 = .ok (.iadd, 1) ∧ decode cX12_keeps 7 = .ok (.bipush 20, 2) ∧ decode cX12_keeps 9 = .ok (.irem, 1) ∧ decode cX12_keeps 10 = .ok (.putfield 653, 3) ∧ decode cX12_keeps 13 = .ok (.iconst 0, 1) ∧ decode cX12_keeps 14 = .ok (.istore_n 1, 1) := by decide +kernel
theorem eX12_keeps_15 : decode cX12_keeps 15 = .ok (.iload_n 1, 1) ∧ decode cX12_keeps 16 = .ok (.sipush 906, 3) ∧ decode cX12_keeps 19 = .ok (.if_icmp .ge 30, 3) ∧ decode cX12_keeps 22 = .ok (.aload_n 0, 1) ∧ decode cX12_keeps 23 = .ok (.getfield 170, 3) ∧ decode cX12_keeps 26 = .ok (.sipush 906, 3) ∧ decode cX12_keeps 29 = .ok (.aload_n 0, 1) ∧ decode cX12_keeps 30 = .ok (.getfield 653, 3) := by decide +kernel
theorem eX12_keeps_33 : decode cX12_keeps 33 = .ok (.imul, 1) ∧ decode cX12_keeps 34 = .ok (.iload_n 1, 1) ∧ decode cX12_keeps 35 = .ok (.iadd, 1) ∧ decode cX12_keeps 36 = .ok (.aload_n 0, 1) ∧ decode cX12_keeps 37 = .ok (.getfield 121, 3) ∧ decode cX12_keeps 40 = .ok (.iload_n 1, 1) ∧ decode cX12_keeps 41 = .ok (.iaload, 1) ∧ decode cX12_keeps 42 = .ok (.iastore, 1) := by decide +kernel
theorem eX12_keeps_43 : decode cX12_keeps 43 = .ok (.iinc 1 1, 3) ∧ decode cX12_keeps 46 = .ok (.goto (-31), 3) ∧ decode cX12_keeps 49 = .ok (.aload_n 0, 1) ∧ decode cX12_keeps 50 = .ok (.getfield 416, 3) ∧ decode cX12_keeps 53 = .ok (.bipush 20, 2) ∧ decode cX12_keeps 55 = .ok (.if_icmp .ge 13, 3) ∧ decode cX12_keeps 58 = .ok (.aload_n 0, 1) ∧ decode cX12_keeps 59 = .ok (.dup, 1) := by decide +kernel
theorem eX12_keeps_60 : decode cX12_keeps 60 = .ok (.getfield 416, 3) ∧ decode cX12_keeps 63 = .ok (.iconst 1, 1) ∧ decode cX12_keeps 64 = .ok (.iadd, 1) ∧ decode cX12_keeps 65 = .ok (.putfield 416, 3) ∧ decode cX12_keeps 68 = .ok (.return_, 1) ∧ decode cX12_mostAlike 0 = .ok (.iconst 0, 1) ∧ decode cX12_mostAlike 1 = .ok (.istore_n 2, 1) ∧ decode cX12_mostAlike 2 = .ok (.iconst 0, 1) := by decide +kernel
theorem eX12_mostAlike_3 : decode cX12_mostAlike 3 = .ok (.istore_n 3, 1) ∧ decode cX12_mostAlike 4 = .ok (.iload_n 3, 1) ∧ decode cX12_mostAlike 5 = .ok (.bipush 8, 2) ∧ decode cX12_mostAlike 7 = .ok (.if_icmp .ge 76, 3) ∧ decode cX12_mostAlike 10 = .ok (.aload_n 0, 1) ∧ decode cX12_mostAlike 11 = .ok (.iload_n 3, 1) ∧ decode cX12_mostAlike 12 = .ok (.invokevirtual 644, 3) ∧ decode cX12_mostAlike 15 = .ok (.ifCond .ne 6, 3) := by decide +kernel
theorem eX12_mostAlike_18 : decode cX12_mostAlike 18 = .ok (.goto 59, 3) ∧ decode cX12_mostAlike 21 = .ok (.iconst 0, 1) ∧ decode cX12_mostAlike 22 = .ok (.istore 4, 2) ∧ decode cX12_mostAlike 24 = .ok (.iconst 0, 1) ∧ decode cX12_mostAlike 25 = .ok (.istore 5, 2) ∧ decode cX12_mostAlike 27 = .ok (.iload 5, 2) ∧ decode cX12_mostAlike 29 = .ok (.bipush 8, 2) ∧ decode cX12_mostAlike 31 = .ok (.if_icmp .ge 37, 3) := by decide +kernel
theorem eX12_mostAlike_34 : decode cX12_mostAlike 34 = .ok (.aload_n 0, 1) ∧ decode cX12_mostAlike 35 = .ok (.iload 5, 2) ∧ decode cX12_mostAlike 37 = .ok (.invokevirtual 644, 3) ∧ decode cX12_mostAlike 40 = .ok (.ifCond .eq 22, 3) ∧ decode cX12_mostAlike 43 = .ok (.aload_n 0, 1) ∧ decode cX12_mostAlike 44 = .ok (.iload 5, 2) ∧ decode cX12_mostAlike 46 = .ok (.iload_n 1, 1) ∧ decode cX12_mostAlike 47 = .ok (.invokevirtual 641, 3) := by decide +kernel
theorem eX12_mostAlike_50 : decode cX12_mostAlike 50 = .ok (.aload_n 0, 1) ∧ decode cX12_mostAlike 51 = .ok (.iload_n 3, 1) ∧ decode cX12_mostAlike 52 = .ok (.iload_n 1, 1) ∧ decode cX12_mostAlike 53 = .ok (.invokevirtual 641, 3) ∧ decode cX12_mostAlike 56 = .ok (.if_icmp .ne 6, 3) ∧ decode cX12_mostAlike 59 = .ok (.iinc 4 1, 3) ∧ decode cX12_mostAlike 62 = .ok (.iinc 5 1, 3) ∧ decode cX12_mostAlike 65 = .ok (.goto (-38), 3) := by decide +kernel
theorem eX12_mostAlike_68 : decode cX12_mostAlike 68 = .ok (.iload 4, 2) ∧ decode cX12_mostAlike 70 = .ok (.iload_n 2, 1) ∧ decode cX12_mostAlike 71 = .ok (.if_icmp .le 6, 3) ∧ decode cX12_mostAlike 74 = .ok (.iload 4, 2) ∧ decode cX12_mostAlike 76 = .ok (.istore_n 2, 1) ∧ decode cX12_mostAlike 77 = .ok (.iinc 3 1, 3) ∧ decode cX12_mostAlike 80 = .ok (.goto (-76), 3) ∧ decode cX12_mostAlike 83 = .ok (.iload_n 2, 1) := by decide +kernel
theorem eX12_mostAlike_84 : decode cX12_mostAlike 84 = .ok (.ireturn, 1) ∧ decode cX12_put 0 = .ok (.aload_n 0, 1) ∧ decode cX12_put 1 = .ok (.iload_n 1, 1) ∧ decode cX12_put 2 = .ok (.i2l, 1) ∧ decode cX12_put 3 = .ok (.invokevirtual 571, 3) ∧ decode cX12_put 6 = .ok (.ifCond .eq 27, 3) ∧ decode cX12_put 9 = .ok (.iload_n 2, 1) ∧ decode cX12_put 10 = .ok (.i2l, 1) := by decide +kernel
theorem eX12_put_11 : decode cX12_put 11 = .ok (.lconst 0, 1) ∧ decode cX12_put 12 = .ok (.ldc2_w 624, 3) ∧ decode cX12_put 15 = .ok (.invokestatic 309, 3) ∧ decode cX12_put 18 = .ok (.ifCond .eq 15, 3) ∧ decode cX12_put 21 = .ok (.iload_n 3, 1) ∧ decode cX12_put 22 = .ok (.i2l, 1) ∧ decode cX12_put 23 = .ok (.lconst 0, 1) ∧ decode cX12_put 24 = .ok (.ldc2_w 624, 3) := by decide +kernel
theorem eX12_put_27 : decode cX12_put 27 = .ok (.invokestatic 309, 3) ∧ decode cX12_put 30 = .ok (.ifCond .ne 9, 3) ∧ decode cX12_put 33 = .ok (.aload_n 0, 1) ∧ decode cX12_put 34 = .ok (.iconst 2, 1) ∧ decode cX12_put 35 = .ok (.invokevirtual 399, 3) ∧ decode cX12_put 38 = .ok (.ireturn, 1) ∧ decode cX12_put 39 = .ok (.aload_n 0, 1) ∧ decode cX12_put 40 = .ok (.invokevirtual 568, 3) := by decide +kernel
theorem eX12_put_43 : decode cX12_put 43 = .ok (.aload_n 0, 1) ∧ decode cX12_put 44 = .ok (.iconst 2, 1) ∧ decode cX12_put 45 = .ok (.iload_n 1, 1) ∧ decode cX12_put 46 = .ok (.iload_n 2, 1) ∧ decode cX12_put 47 = .ok (.iload_n 3, 1) ∧ decode cX12_put 48 = .ok (.invokevirtual 656, 3) ∧ decode cX12_put 51 = .ok (.ifCond .ne 9, 3) ∧ decode cX12_put 54 = .ok (.aload_n 0, 1) := by decide +kernel
theorem eX12_put_55 : decode cX12_put 55 = .ok (.iconst 2, 1) ∧ decode cX12_put 56 = .ok (.invokevirtual 399, 3) ∧ decode cX12_put 59 = .ok (.ireturn, 1) ∧ decode cX12_put 60 = .ok (.aload_n 0, 1) ∧ decode cX12_put 61 = .ok (.iconst 0, 1) ∧ decode cX12_put 62 = .ok (.iload_n 1, 1) ∧ decode cX12_put 63 = .ok (.invokevirtual 659, 3) ∧ decode cX12_put 66 = .ok (.aload_n 0, 1) := by decide +kernel
theorem eX12_put_67 : decode cX12_put 67 = .ok (.invokevirtual 486, 3) ∧ decode cX12_put 70 = .ok (.ireturn, 1) ∧ decode cX12_remove 0 = .ok (.aload_n 0, 1) ∧ decode cX12_remove 1 = .ok (.iload_n 1, 1) ∧ decode cX12_remove 2 = .ok (.i2l, 1) ∧ decode cX12_remove 3 = .ok (.invokevirtual 571, 3) ∧ decode cX12_remove 6 = .ok (.ifCond .ne 9, 3) ∧ decode cX12_remove 9 = .ok (.aload_n 0, 1) := by decide +kernel
theorem eX12_remove_10 : decode cX12_remove 10 = .ok (.iconst 2, 1) ∧ decode cX12_remove 11 = .ok (.invokevirtual 399, 3) ∧ decode cX12_remove 14 = .ok (.ireturn, 1) ∧ decode cX12_remove 15 = .ok (.aload_n 0, 1) ∧ decode cX12_remove 16 = .ok (.invokevirtual 568, 3) ∧ decode cX12_remove 19 = .ok (.aload_n 0, 1) ∧ decode cX12_remove 20 = .ok (.iconst 3, 1) ∧ decode cX12_remove 21 = .ok (.iload_n 1, 1) := by decide +kernel
theorem eX12_remove_22 : decode cX12_remove 22 = .ok (.iload_n 2, 1) ∧ decode cX12_remove 23 = .ok (.iconst 0, 1) ∧ decode cX12_remove 24 = .ok (.invokevirtual 656, 3) ∧ decode cX12_remove 27 = .ok (.ifCond .ne 9, 3) ∧ decode cX12_remove 30 = .ok (.aload_n 0, 1) ∧ decode cX12_remove 31 = .ok (.iconst 2, 1) ∧ decode cX12_remove 32 = .ok (.invokevirtual 399, 3) ∧ decode cX12_remove 35 = .ok (.ireturn, 1) := by decide +kernel
theorem eX12_remove_36 : decode cX12_remove 36 = .ok (.aload_n 0, 1) ∧ decode cX12_remove 37 = .ok (.iconst 1, 1) ∧ decode cX12_remove 38 = .ok (.iload_n 1, 1) ∧ decode cX12_remove 39 = .ok (.invokevirtual 659, 3) ∧ decode cX12_remove 42 = .ok (.aload_n 0, 1) ∧ decode cX12_remove 43 = .ok (.invokevirtual 486, 3) ∧ decode cX12_remove 46 = .ok (.ireturn, 1) ∧ decode cX12_tells 0 = .ok (.iload_n 1, 1) := by decide +kernel
theorem eX12_tells_1 : decode cX12_tells 1 = .ok (.i2l, 1) ∧ decode cX12_tells 2 = .ok (.lconst 0, 1) ∧ decode cX12_tells 3 = .ok (.lconst 1, 1) ∧ decode cX12_tells 4 = .ok (.invokestatic 309, 3) ∧ decode cX12_tells 7 = .ok (.ifCond .eq 11, 3) ∧ decode cX12_tells 10 = .ok (.aload_n 0, 1) ∧ decode cX12_tells 11 = .ok (.iconst (-1), 1) ∧ decode cX12_tells 12 = .ok (.invokevirtual 647, 3) := by decide +kernel
theorem eX12_tells_15 : decode cX12_tells 15 = .ok (.ifCond .ne 5, 3) ∧ decode cX12_tells 18 = .ok (.iconst (-1), 1) ∧ decode cX12_tells 19 = .ok (.ireturn, 1) ∧ decode cX12_tells 20 = .ok (.iconst (-1), 1) ∧ decode cX12_tells 21 = .ok (.istore_n 2, 1) ∧ decode cX12_tells 22 = .ok (.iconst (-1), 1) ∧ decode cX12_tells 23 = .ok (.istore_n 3, 1) ∧ decode cX12_tells 24 = .ok (.iconst 0, 1) := by decide +kernel
theorem eX12_tells_25 : decode cX12_tells 25 = .ok (.istore 4, 2) ∧ decode cX12_tells 27 = .ok (.iload 4, 2) ∧ decode cX12_tells 29 = .ok (.bipush 100, 2) ∧ decode cX12_tells 31 = .ok (.if_icmp .ge 37, 3) ∧ decode cX12_tells 34 = .ok (.aload_n 0, 1) ∧ decode cX12_tells 35 = .ok (.iload 4, 2) ∧ decode cX12_tells 37 = .ok (.invokevirtual 650, 3) ∧ decode cX12_tells 40 = .ok (.istore 5, 2) := by decide +kernel
theorem eX12_tells_42 : decode cX12_tells 42 = .ok (.iload_n 2, 1) ∧ decode cX12_tells 43 = .ok (.iconst (-1), 1) ∧ decode cX12_tells 44 = .ok (.if_icmp .eq 12, 3) ∧ decode cX12_tells 47 = .ok (.iload 5, 2) ∧ decode cX12_tells 49 = .ok (.iload_n 3, 1) ∧ decode cX12_tells 50 = .ok (.if_icmp .lt 6, 3) ∧ decode cX12_tells 53 = .ok (.goto 9, 3) ∧ decode cX12_tells 56 = .ok (.iload 4, 2) := by decide +kernel
theorem eX12_tells_58 : decode cX12_tells 58 = .ok (.istore_n 2, 1) ∧ decode cX12_tells 59 = .ok (.iload 5, 2) ∧ decode cX12_tells 61 = .ok (.istore_n 3, 1) ∧ decode cX12_tells 62 = .ok (.iinc 4 1, 3) ∧ decode cX12_tells 65 = .ok (.goto (-38), 3) ∧ decode cX12_tells 68 = .ok (.iload_n 1, 1) ∧ decode cX12_tells 69 = .ok (.ifCond .ne 7, 3) ∧ decode cX12_tells 72 = .ok (.iload_n 2, 1) := by decide +kernel
theorem eX12_tells_73 : decode cX12_tells 73 = .ok (.goto 4, 3) ∧ decode cX12_tells 76 = .ok (.iload_n 3, 1) ∧ decode cX12_tells 77 = .ok (.ireturn, 1) ∧ decode cX12_undo 0 = .ok (.aload_n 0, 1) ∧ decode cX12_undo 1 = .ok (.getfield 416, 3) ∧ decode cX12_undo 4 = .ok (.ifCond .ne 15, 3) ∧ decode cX12_undo 7 = .ok (.aload_n 0, 1) ∧ decode cX12_undo 8 = .ok (.getfield 17, 3) := by decide +kernel
theorem eX12_undo_11 : decode cX12_undo 11 = .ok (.iconst 4, 1) ∧ decode cX12_undo 12 = .ok (.dup2, 1) ∧ decode cX12_undo 13 = .ok (.iaload, 1) ∧ decode cX12_undo 14 = .ok (.iconst 1, 1) ∧ decode cX12_undo 15 = .ok (.iadd, 1) ∧ decode cX12_undo 16 = .ok (.iastore, 1) ∧ decode cX12_undo 17 = .ok (.iconst 0, 1) ∧ decode cX12_undo 18 = .ok (.ireturn, 1) := by decide +kernel
theorem eX12_undo_19 : decode cX12_undo 19 = .ok (.iconst 0, 1) ∧ decode cX12_undo 20 = .ok (.istore_n 1, 1) ∧ decode cX12_undo 21 = .ok (.iload_n 1, 1) ∧ decode cX12_undo 22 = .ok (.sipush 906, 3) ∧ decode cX12_undo 25 = .ok (.if_icmp .ge 30, 3) ∧ decode cX12_undo 28 = .ok (.aload_n 0, 1) ∧ decode cX12_undo 29 = .ok (.getfield 121, 3) ∧ decode cX12_undo 32 = .ok (.iload_n 1, 1) := by decide +kernel
theorem eX12_undo_33 : decode cX12_undo 33 = .ok (.aload_n 0, 1) ∧ decode cX12_undo 34 = .ok (.getfield 170, 3) ∧ decode cX12_undo 37 = .ok (.sipush 906, 3) ∧ decode cX12_undo 40 = .ok (.aload_n 0, 1) ∧ decode cX12_undo 41 = .ok (.getfield 653, 3) ∧ decode cX12_undo 44 = .ok (.imul, 1) ∧ decode cX12_undo 45 = .ok (.iload_n 1, 1) ∧ decode cX12_undo 46 = .ok (.iadd, 1) := by decide +kernel
theorem eX12_undo_47 : decode cX12_undo 47 = .ok (.iaload, 1) ∧ decode cX12_undo 48 = .ok (.iastore, 1) ∧ decode cX12_undo 49 = .ok (.iinc 1 1, 3) ∧ decode cX12_undo 52 = .ok (.goto (-31), 3) ∧ decode cX12_undo 55 = .ok (.aload_n 0, 1) ∧ decode cX12_undo 56 = .ok (.aload_n 0, 1) ∧ decode cX12_undo 57 = .ok (.getfield 653, 3) ∧ decode cX12_undo 60 = .ok (.bipush 20, 2) := by decide +kernel
theorem eX12_undo_62 : decode cX12_undo 62 = .ok (.iadd, 1) ∧ decode cX12_undo 63 = .ok (.iconst 1, 1) ∧ decode cX12_undo 64 = .ok (.isub, 1) ∧ decode cX12_undo 65 = .ok (.bipush 20, 2) ∧ decode cX12_undo 67 = .ok (.irem, 1) ∧ decode cX12_undo 68 = .ok (.putfield 653, 3) ∧ decode cX12_undo 71 = .ok (.aload_n 0, 1) ∧ decode cX12_undo 72 = .ok (.dup, 1) := by decide +kernel
theorem eX12_undo_73 : decode cX12_undo 73 = .ok (.getfield 416, 3) ∧ decode cX12_undo 76 = .ok (.iconst 1, 1) ∧ decode cX12_undo 77 = .ok (.isub, 1) ∧ decode cX12_undo 78 = .ok (.putfield 416, 3) ∧ decode cX12_undo 81 = .ok (.iconst 1, 1) ∧ decode cX12_undo 82 = .ok (.ireturn, 1) := by decide +kernel
set_option maxHeartbeats 4000000 in
set_option maxRecDepth 100000 in
theorem k_x12_mostAlike (l : Launch) (D : va_G) (a : Nat → Nat) (p0 : Int) (s : MS) (o : Int) (h : m_x12_mostAlike p0 s = some o) : yRi l yX12_mostAlike cX12_mostAlike 6 (some .int) { frames := 6, cells := 0, slots := 0, locals := 360 } D [.ref (a 200), .int (i2 p0)] (RW D a s) (i2 o) := by
  refine Met.ofW (cc := cX12_mostAlike) (maxL := 6) (ret := (some .int)) (by decide) rfl ?_
  intro p e s₀ m args below meth c s₁ B hml hv
  obtain ⟨rfl, ⟨hP, hK⟩, hN⟩ := hv
  have hx := B.exec
  have hb := B.bytes
  have hr := B.returns
  have hts := atoms_spec (ws := wz yX12_mostAlike cX12_mostAlike 6 (some .int)) B.pre
  have ht : ∀ w ∈ lw_gd, w.before _ s₀ = true := fun w h => hts w (List.mem_cons_of_mem _ h)
  have hown : s₀.vm.findClass RX12 = some m.cls := findClass_of_methodNamed B.named
  have hlocks := B.notSynchronized
  have hS : va_S (fun _ => False) s₀.heap s₀.heap [] := va_S.rf
  have hl := lv_entry ([.ref (a 200), .int (i2 p0)]) (n := 6) (Nat.le_of_ble_eq_true rfl)
  rw [lg_entry_eq]
  generalize (lg_sl ([.ref (a 200), .int (i2 p0)]) ++ List.replicate (6 - (lg_sl ([.ref (a 200), .int (i2 p0)])).length) Slot.unset).toArray = ls at hl ⊢
  have hl : lv_has ls 6 [(0, .ref (a 200)), (1, .int (i2 p0))] := hl
  unfold m_x12_mostAlike at h
  refine y_loop (pcJ := 4) (σ := Int × Int × Int) (fun n u H locs ls => va_P D vwCl (RW D a s) H ∧ va_S (fun _ => False) s₀.heap H locs ∧ lv_has ls 6 [(0, .ref (a 200)), (1, .int (i2 u.1)), (2, .int (i2 u.2.1)), (3, .int (i2 u.2.2))] ∧ m_x12_mostAlike_L4 s n u.1 u.2.1 u.2.2 = some o) (fun u => []) (fun u H locs ls hI => by obtain ⟨_, _, _, h⟩ := hI; cases h) (fun n4 ih4 u H locs ls hI => ?_) (fun J4 => ?_)
  · obtain ⟨hP, hS, hl, h⟩ := hI
    obtain ⟨x1, x2, x3⟩ := u
    have hP : va_P D vwCl (RW D a s) H := hP
    have hl : lv_has ls 6 [(0, .ref (a 200)), (1, .int (i2 x1)), (2, .int (i2 x2)), (3, .int (i2 x3))] := hl
    have h : m_x12_mostAlike_b4 s (m_x12_mostAlike_L4 s n4) x1 x2 x3 = some o := h
    unfold m_x12_mostAlike_b4 at h
    refine y_head (pcJ := 77) (σ := Int × Int × Int) (fun u H locs ls => va_P D vwCl (RW D a s) H ∧ va_S (fun _ => False) s₀.heap H locs ∧ lv_has ls 6 [(0, .ref (a 200)), (1, .int (i2 u.1)), (2, .int (i2 u.2.1)), (3, .int (i2 u.2.2))] ∧ m_x12_mostAlike_J77 s (m_x12_mostAlike_L4 s n4) u.1 u.2.1 u.2.2 = some o) (fun u => []) (fun u H locs ls hI => ?_) (fun J77 => ?_)
    · obtain ⟨hP, hS, hl, h⟩ := hI
      obtain ⟨x4, x5, x6⟩ := u
      have hP : va_P D vwCl (RW D a s) H := hP
      have hl : lv_has ls 6 [(0, .ref (a 200)), (1, .int (i2 x4)), (2, .int (i2 x5)), (3, .int (i2 x6))] := hl
      have h : m_x12_mostAlike_J77 s (m_x12_mostAlike_L4 s n4) x4 x5 x6 = some o := h
      unfold m_x12_mostAlike_J77 at h
      refine lv_iinc (v := i2 (x6 + 1)) (lv' := [(3, .int (i2 (x6 + 1))), (0, .ref (a 200)), (1, .int (i2 x4)), (2, .int (i2 x5))]) hx hb eX12_mostAlike_68.2.2.2.2.2.1 hl (k := 3) rfl (i2_add x6 1) (by decide) rfl (fun ls hl => ?_)
      refine lv_goto (tgt := 4) hx hb eX12_mostAlike_68.2.2.2.2.2.2.1 (by decide) ?_
      exact ih4 (x4, x5, x6 + 1) _ _ _ ⟨hP, hS, lv_sub hl [1, 2, 3, 0] rfl, h⟩
    refine y_loop (pcJ := 27) (σ := Int × Int × Int × Int × Int) (fun n u H locs ls => va_P D vwCl (RW D a s) H ∧ va_S (fun _ => False) s₀.heap H locs ∧ lv_has ls 6 [(0, .ref (a 200)), (1, .int (i2 u.1)), (2, .int (i2 u.2.1)), (3, .int (i2 u.2.2.1)), (4, .int (i2 u.2.2.2.1)), (5, .int (i2 u.2.2.2.2))] ∧ m_x12_mostAlike_L27 s (m_x12_mostAlike_L4 s n4) n u.1 u.2.1 u.2.2.1 u.2.2.2.1 u.2.2.2.2 = some o) (fun u => []) (fun u H locs ls hI => by obtain ⟨_, _, _, h⟩ := hI; cases h) (fun n27 ih27 u H locs ls hI => ?_) (fun J27 => ?_)
    · obtain ⟨hP, hS, hl, h⟩ := hI
      obtain ⟨x7, x8, x9, x10, x11⟩ := u
      have hP : va_P D vwCl (RW D a s) H := hP
      have hl : lv_has ls 6 [(0, .ref (a 200)), (1, .int (i2 x7)), (2, .int (i2 x8)), (3, .int (i2 x9)), (4, .int (i2 x10)), (5, .int (i2 x11))] := hl
      have h : m_x12_mostAlike_b27 s (m_x12_mostAlike_L4 s n4) (m_x12_mostAlike_L27 s (m_x12_mostAlike_L4 s n4) n27) x7 x8 x9 x10 x11 = some o := h
      unfold m_x12_mostAlike_b27 at h
      refine y_head (pcJ := 62) (σ := Int × Int × Int × Int × Int) (fun u H locs ls => va_P D vwCl (RW D a s) H ∧ va_S (fun _ => False) s₀.heap H locs ∧ lv_has ls 6 [(0, .ref (a 200)), (1, .int (i2 u.1)), (2, .int (i2 u.2.1)), (3, .int (i2 u.2.2.1)), (4, .int (i2 u.2.2.2.1)), (5, .int (i2 u.2.2.2.2))] ∧ m_x12_mostAlike_J62 s (m_x12_mostAlike_L4 s n4) (m_x12_mostAlike_L27 s (m_x12_mostAlike_L4 s n4) n27) u.1 u.2.1 u.2.2.1 u.2.2.2.1 u.2.2.2.2 = some o) (fun u => []) (fun u H locs ls hI => ?_) (fun J62 => ?_)
      · obtain ⟨hP, hS, hl, h⟩ := hI
        obtain ⟨x12, x13, x14, x15, x16⟩ := u
        have hP : va_P D vwCl (RW D a s) H := hP
        have hl : lv_has ls 6 [(0, .ref (a 200)), (1, .int (i2 x12)), (2, .int (i2 x13)), (3, .int (i2 x14)), (4, .int (i2 x15)), (5, .int (i2 x16))] := hl
        have h : m_x12_mostAlike_J62 s (m_x12_mostAlike_L4 s n4) (m_x12_mostAlike_L27 s (m_x12_mostAlike_L4 s n4) n27) x12 x13 x14 x15 x16 = some o := h
        unfold m_x12_mostAlike_J62 at h
        refine lv_iinc (v := i2 (x16 + 1)) (lv' := [(5, .int (i2 (x16 + 1))), (0, .ref (a 200)), (1, .int (i2 x12)), (2, .int (i2 x13)), (3, .int (i2 x14)), (4, .int (i2 x15))]) hx hb eX12_mostAlike_50.2.2.2.2.2.2.1 hl (k := 5) rfl (i2_add x16 1) (by decide) rfl (fun ls hl => ?_)
        refine lv_goto (tgt := 27) hx hb eX12_mostAlike_50.2.2.2.2.2.2.2 (by decide) ?_
        exact ih27 (x12, x13, x14, x15, x16 + 1) _ _ _ ⟨hP, hS, lv_sub hl [1, 2, 3, 4, 5, 0] rfl, h⟩
      refine lv_iload hx hb eX12_mostAlike_18.2.2.2.2.2.1 (lv_at hl 5 rfl) ?_
      refine lv_bipush (v := 8) hx hb eX12_mostAlike_18.2.2.2.2.2.2.1 (by decide) ?_
      obtain ⟨hr17, h⟩ := rg_e h
      refine lv_icmp_ge (tgt := 68) hx hb eX12_mostAlike_18.2.2.2.2.2.2.2 (by decide) (fun c18 => ?_) (fun c18 => ?_)
      · have h := if_t ((i2_le (x := 8) (y := x11) (by decide) hr17).mp c18) h
        refine lv_iload hx hb eX12_mostAlike_68.1 (lv_at hl 4 rfl) ?_
        refine lv_iload_n hx hb eX12_mostAlike_68.2.1 rfl (lv_at hl 2 rfl) ?_
        obtain ⟨hr19, h⟩ := rg_e h
        obtain ⟨hr20, h⟩ := rg_e h
        refine lv_icmp_le (tgt := 77) hx hb eX12_mostAlike_68.2.2.1 (by decide) (fun c21 => ?_) (fun c21 => ?_)
        · have h := if_t ((i2_le (x := x10) (y := x8) hr19 hr20).mp c21) h
          exact J77 (x7, x8, x9) _ _ _ ⟨hP, hS, lv_sub hl [0, 1, 2, 3] rfl, h⟩
        · have h := if_f (mt (i2_le (x := x10) (y := x8) hr19 hr20).mpr c21) h
          refine lv_iload hx hb eX12_mostAlike_68.2.2.2.1 (lv_at hl 4 rfl) ?_
          refine lv_istore_n (lv' := [(2, .int (i2 x10)), (0, .ref (a 200)), (1, .int (i2 x7)), (3, .int (i2 x9)), (4, .int (i2 x10)), (5, .int (i2 x11))]) hx hb eX12_mostAlike_68.2.2.2.2.1 rfl hl (by decide) rfl (fun ls hl => ?_)
          exact J77 (x7, x10, x9) _ _ _ ⟨hP, hS, lv_sub hl [1, 2, 0, 3] rfl, h⟩
      · have h := if_f (mt (i2_le (x := 8) (y := x11) (by decide) hr17).mpr c18) h
        refine lv_aload_n hx hb eX12_mostAlike_34.1 rfl (lv_at hl 0 rfl) ?_
        refine lv_iload hx hb eX12_mostAlike_34.2.1 (lv_at hl 5 rfl) ?_
        obtain ⟨r23, hc22, h⟩ := bn_e h
        refine ycV (r0 := i2 r23) (As := [.int (i2 x11)]) (rest := []) (C := RX12) (n := 1) ⟨hx, hb, hml, hown, ht⟩ (k_x12_doesFit l D a x11 _ _ hc22) (zgV ml_X12_644 im_X12_doesFit se_X12_doesFit in_X12 co_X12_doesFit) rfl rfl (by decide +kernel) ⟨Nat.le_of_ble_eq_true rfl, Nat.le_of_ble_eq_true rfl⟩ hN hK hP hS 0 RW_0 rfl rfl rfl hl.1 rfl (Nat.le_of_ble_eq_true rfl) eX12_mostAlike_34.2.2.1 ⟨Nat.le_of_ble_eq_true rfl, Nat.le_of_ble_eq_true rfl⟩ (fun H locs hP hS => ?_)
        obtain ⟨hr24, h⟩ := rg_e h
        refine lv_if_eq (tgt := 62) hx hb eX12_mostAlike_34.2.2.2.1 (by decide) (fun c25 => ?_) (fun c25 => ?_)
        · have h := if_t ((i2_eq (x := r23) (y := 0) hr24 (by decide)).mp c25) h
          exact J62 (x7, x8, x9, x10, x11) _ _ _ ⟨hP, hS, lv_sub hl [0, 1, 2, 3, 4, 5] rfl, h⟩
        · have h := if_f (mt (i2_eq (x := r23) (y := 0) hr24 (by decide)).mpr c25) h
          refine lv_aload_n hx hb eX12_mostAlike_34.2.2.2.2.1 rfl (lv_at hl 0 rfl) ?_
          refine lv_iload hx hb eX12_mostAlike_34.2.2.2.2.2.1 (lv_at hl 5 rfl) ?_
          refine lv_iload_n hx hb eX12_mostAlike_34.2.2.2.2.2.2.1 rfl (lv_at hl 1 rfl) ?_
          obtain ⟨r27, hc26, h⟩ := bn_e h
          refine ycV (r0 := i2 r27) (As := [.int (i2 x11), .int (i2 x7)]) (rest := []) (C := RX12) (n := 2) ⟨hx, hb, hml, hown, ht⟩ (k_x12_toldOf l D a x11 x7 _ _ hc26) (zgV ml_X12_641 im_X12_toldOf se_X12_toldOf in_X12 co_X12_toldOf) rfl rfl (by decide +kernel) ⟨Nat.le_of_ble_eq_true rfl, Nat.le_of_ble_eq_true rfl⟩ hN hK hP hS 0 RW_0 rfl rfl rfl hl.1 rfl (Nat.le_of_ble_eq_true rfl) eX12_mostAlike_34.2.2.2.2.2.2.2 ⟨Nat.le_of_ble_eq_true rfl, Nat.le_of_ble_eq_true rfl⟩ (fun H locs hP hS => ?_)
          refine lv_aload_n hx hb eX12_mostAlike_50.1 rfl (lv_at hl 0 rfl) ?_
          refine lv_iload_n hx hb eX12_mostAlike_50.2.1 rfl (lv_at hl 3 rfl) ?_
          refine lv_iload_n hx hb eX12_mostAlike_50.2.2.1 rfl (lv_at hl 1 rfl) ?_
          obtain ⟨r29, hc28, h⟩ := bn_e h
          refine ycV (r0 := i2 r29) (As := [.int (i2 x9), .int (i2 x7)]) (rest := [.int (i2 r27)]) (C := RX12) (n := 2) ⟨hx, hb, hml, hown, ht⟩ (k_x12_toldOf l D a x9 x7 _ _ hc28) (zgV ml_X12_641 im_X12_toldOf se_X12_toldOf in_X12 co_X12_toldOf) rfl rfl (by decide +kernel) ⟨Nat.le_of_ble_eq_true rfl, Nat.le_of_ble_eq_true rfl⟩ hN hK hP hS 0 RW_0 rfl rfl rfl hl.1 rfl (Nat.le_of_ble_eq_true rfl) eX12_mostAlike_50.2.2.2.1 ⟨Nat.le_of_ble_eq_true rfl, Nat.le_of_ble_eq_true rfl⟩ (fun H locs hP hS => ?_)
          obtain ⟨hr30, h⟩ := rg_e h
          obtain ⟨hr31, h⟩ := rg_e h
          refine lv_icmp_ne (tgt := 62) hx hb eX12_mostAlike_50.2.2.2.2.1 (by decide) (fun c32 => ?_) (fun c32 => ?_)
          · have h := if_f (mt (i2_eq (x := r27) (y := r29) hr30 hr31).mpr c32) h
            exact J62 (x7, x8, x9, x10, x11) _ _ _ ⟨hP, hS, lv_sub hl [0, 1, 2, 3, 4, 5] rfl, h⟩
          · have h := if_t ((i2_eq (x := r27) (y := r29) hr30 hr31).mp c32) h
            refine lv_iinc (v := i2 (x10 + 1)) (lv' := [(4, .int (i2 (x10 + 1))), (0, .ref (a 200)), (1, .int (i2 x7)), (2, .int (i2 x8)), (3, .int (i2 x9)), (5, .int (i2 x11))]) hx hb eX12_mostAlike_50.2.2.2.2.2.1 hl (k := 4) rfl (i2_add x10 1) (by decide) rfl (fun ls hl => ?_)
            exact J62 (x7, x8, x9, x10 + 1, x11) _ _ _ ⟨hP, hS, lv_sub hl [1, 2, 3, 4, 0, 5] rfl, h⟩
    refine lv_iload_n hx hb eX12_mostAlike_3.2.1 rfl (lv_at hl 3 rfl) ?_
    refine lv_bipush (v := 8) hx hb eX12_mostAlike_3.2.2.1 (by decide) ?_
    obtain ⟨hr33, h⟩ := rg_e h
    refine lv_icmp_ge (tgt := 83) hx hb eX12_mostAlike_3.2.2.2.1 (by decide) (fun c34 => ?_) (fun c34 => ?_)
    · have h := if_t ((i2_le (x := 8) (y := x3) (by decide) hr33).mp c34) h
      refine lv_iload_n hx hb eX12_mostAlike_68.2.2.2.2.2.2.2 rfl (lv_at hl 2 rfl) ?_
      obtain rfl := Option.some.inj h
      exact W.iret (v := (i2 x2)) hx hb hr (fun t ht hW => ⟨⟨_, (), rfl, rfl, trivial⟩, hS.F ht⟩) hS.2.2 eX12_mostAlike_84.1
    · have h := if_f (mt (i2_le (x := 8) (y := x3) (by decide) hr33).mpr c34) h
      refine lv_aload_n hx hb eX12_mostAlike_3.2.2.2.2.1 rfl (lv_at hl 0 rfl) ?_
      refine lv_iload_n hx hb eX12_mostAlike_3.2.2.2.2.2.1 rfl (lv_at hl 3 rfl) ?_
      obtain ⟨r36, hc35, h⟩ := bn_e h
      refine ycV (r0 := i2 r36) (As := [.int (i2 x3)]) (rest := []) (C := RX12) (n := 1) ⟨hx, hb, hml, hown, ht⟩ (k_x12_doesFit l D a x3 _ _ hc35) (zgV ml_X12_644 im_X12_doesFit se_X12_doesFit in_X12 co_X12_doesFit) rfl rfl (by decide +kernel) ⟨Nat.le_of_ble_eq_true rfl, Nat.le_of_ble_eq_true rfl⟩ hN hK hP hS 0 RW_0 rfl rfl rfl hl.1 rfl (Nat.le_of_ble_eq_true rfl) eX12_mostAlike_3.2.2.2.2.2.2.1 ⟨Nat.le_of_ble_eq_true rfl, Nat.le_of_ble_eq_true rfl⟩ (fun H locs hP hS => ?_)
      obtain ⟨hr37, h⟩ := rg_e h
      refine lv_if_ne (tgt := 21) hx hb eX12_mostAlike_3.2.2.2.2.2.2.2 (by decide) (fun c38 => ?_) (fun c38 => ?_)
      · have h := if_f (mt (i2_eq (x := r36) (y := 0) hr37 (by decide)).mpr c38) h
        refine lv_iconst (v := 0) hx hb eX12_mostAlike_18.2.1 (by decide) ?_
        refine lv_istore (lv' := [(4, .int 0), (0, .ref (a 200)), (1, .int (i2 x1)), (2, .int (i2 x2)), (3, .int (i2 x3))]) hx hb eX12_mostAlike_18.2.2.1 hl (by decide) rfl (fun ls hl => ?_)
        refine lv_iconst (v := 0) hx hb eX12_mostAlike_18.2.2.2.1 (by decide) ?_
        refine lv_istore (lv' := [(5, .int 0), (4, .int 0), (0, .ref (a 200)), (1, .int (i2 x1)), (2, .int (i2 x2)), (3, .int (i2 x3))]) hx hb eX12_mostAlike_18.2.2.2.2.1 hl (by decide) rfl (fun ls hl => ?_)
        exact J27 FU (x1, x2, x3, 0, 0) _ _ _ ⟨hP, hS, lv_sub hl [2, 3, 4, 5, 1, 0] rfl, h⟩
      · have h := if_t ((i2_eq (x := r36) (y := 0) hr37 (by decide)).mp c38) h
        refine lv_goto (tgt := 77) hx hb eX12_mostAlike_18.1 (by decide) ?_
        exact J77 (x1, x2, x3) _ _ _ ⟨hP, hS, lv_sub hl [0, 1, 2, 3] rfl, h⟩
  refine lv_iconst (v := 0) hx hb eX12_keeps_60.2.2.2.2.2.1 (by decide) ?_
  refine lv_istore_n (lv' := [(2, .int 0), (0, .ref (a 200)), (1, .int (i2 p0))]) hx hb eX12_keeps_60.2.2.2.2.2.2.1 rfl hl (by decide) rfl (fun ls hl => ?_)
  refine lv_iconst (v := 0) hx hb eX12_keeps_60.2.2.2.2.2.2.2 (by decide) ?_
  refine lv_istore_n (lv' := [(3, .int 0), (2, .int 0), (0, .ref (a 200)), (1, .int (i2 p0))]) hx hb eX12_mostAlike_3.1 rfl hl (by decide) rfl (fun ls hl => ?_)
  exact J4 FU (p0, 0, 0) _ _ _ ⟨hP, hS, lv_sub hl [2, 3, 1, 0] rfl, h⟩
set_option maxHeartbeats 4000000 in
set_option maxRecDepth 100000 in
theorem k_x12_tells (l : Launch) (D : va_G) (a : Nat → Nat) (p0 : Int) (s : MS) (o : Int) (h : m_x12_tells p0 s = some o) : yRi l yX12_tells cX12_tells 6 (some .int) { frames := 7, cells := 0, slots := 0, locals := 420 } D [.ref (a 200), .int (i2 p0)] (RW D a s) (i2 o) := by
  refine Met.ofW (cc := cX12_tells) (maxL := 6) (ret := (some .int)) (by decide) rfl ?_
  intro p e s₀ m args below meth c s₁ B hml hv
  obtain ⟨rfl, ⟨hP, hK⟩, hN⟩ := hv
  have hx := B.exec
  have hb := B.bytes
  have hr := B.returns
  have hts := atoms_spec (ws := wz yX12_tells cX12_tells 6 (some .int)) B.pre
  have ht : ∀ w ∈ lw_gd, w.before _ s₀ = true := fun w h => hts w (List.mem_cons_of_mem _ h)
  have hown : s₀.vm.findClass RX12 = some m.cls := findClass_of_methodNamed B.named
  have hlocks := B.notSynchronized
  have hS : va_S (fun _ => False) s₀.heap s₀.heap [] := va_S.rf
  have hl := lv_entry ([.ref (a 200), .int (i2 p0)]) (n := 6) (Nat.le_of_ble_eq_true rfl)
  rw [lg_entry_eq]
  generalize (lg_sl ([.ref (a 200), .int (i2 p0)]) ++ List.replicate (6 - (lg_sl ([.ref (a 200), .int (i2 p0)])).length) Slot.unset).toArray = ls at hl ⊢
  have hl : lv_has ls 6 [(0, .ref (a 200)), (1, .int (i2 p0))] := hl
  unfold m_x12_tells at h
  refine y_head (pcJ := 77) (σ := Int) (fun u H locs ls => va_P D vwCl (RW D a s) H ∧ va_S (fun _ => False) s₀.heap H locs ∧ lv_has ls 6 [] ∧ m_x12_tells_J77 s u = some o) (fun u => [.int (i2 u)]) (fun u H locs ls hI => ?_) (fun J77 => ?_)
  · obtain ⟨hP, hS, hl, h⟩ := hI
    obtain ⟨x1, rfl⟩ : ∃ z, z = u := ⟨u, rfl⟩
    have hP : va_P D vwCl (RW D a s) H := hP
    have hl : lv_has ls 6 [] := hl
    have h : m_x12_tells_J77 s x1 = some o := h
    unfold m_x12_tells_J77 at h
    obtain rfl := Option.some.inj h
    exact W.iret (v := (i2 x1)) hx hb hr (fun t ht hW => ⟨⟨_, (), rfl, rfl, trivial⟩, hS.F ht⟩) hS.2.2 eX12_tells_73.2.2.1
  refine y_loop (pcJ := 27) (σ := Int × Int × Int × Int) (fun n u H locs ls => va_P D vwCl (RW D a s) H ∧ va_S (fun _ => False) s₀.heap H locs ∧ lv_has ls 6 [(0, .ref (a 200)), (1, .int (i2 u.1)), (2, .int (i2 u.2.1)), (3, .int (i2 u.2.2.1)), (4, .int (i2 u.2.2.2))] ∧ m_x12_tells_L27 s n u.1 u.2.1 u.2.2.1 u.2.2.2 = some o) (fun u => []) (fun u H locs ls hI => by obtain ⟨_, _, _, h⟩ := hI; cases h) (fun n27 ih27 u H locs ls hI => ?_) (fun J27 => ?_)
  · obtain ⟨hP, hS, hl, h⟩ := hI
    obtain ⟨x2, x3, x4, x5⟩ := u
    have hP : va_P D vwCl (RW D a s) H := hP
    have hl : lv_has ls 6 [(0, .ref (a 200)), (1, .int (i2 x2)), (2, .int (i2 x3)), (3, .int (i2 x4)), (4, .int (i2 x5))] := hl
    have h : m_x12_tells_b27 s (m_x12_tells_L27 s n27) x2 x3 x4 x5 = some o := h
    unfold m_x12_tells_b27 at h
    refine y_head (pcJ := 62) (σ := Int × Int × Int × Int) (fun u H locs ls => va_P D vwCl (RW D a s) H ∧ va_S (fun _ => False) s₀.heap H locs ∧ lv_has ls 6 [(0, .ref (a 200)), (1, .int (i2 u.1)), (2, .int (i2 u.2.1)), (3, .int (i2 u.2.2.1)), (4, .int (i2 u.2.2.2))] ∧ m_x12_tells_J62 s (m_x12_tells_L27 s n27) u.1 u.2.1 u.2.2.1 u.2.2.2 = some o) (fun u => []) (fun u H locs ls hI => ?_) (fun J62 => ?_)
    · obtain ⟨hP, hS, hl, h⟩ := hI
      obtain ⟨x6, x7, x8, x9⟩ := u
      have hP : va_P D vwCl (RW D a s) H := hP
      have hl : lv_has ls 6 [(0, .ref (a 200)), (1, .int (i2 x6)), (2, .int (i2 x7)), (3, .int (i2 x8)), (4, .int (i2 x9))] := hl
      have h : m_x12_tells_J62 s (m_x12_tells_L27 s n27) x6 x7 x8 x9 = some o := h
      unfold m_x12_tells_J62 at h
      refine lv_iinc (v := i2 (x9 + 1)) (lv' := [(4, .int (i2 (x9 + 1))), (0, .ref (a 200)), (1, .int (i2 x6)), (2, .int (i2 x7)), (3, .int (i2 x8))]) hx hb eX12_tells_58.2.2.2.1 hl (k := 4) rfl (i2_add x9 1) (by decide) rfl (fun ls hl => ?_)
      refine lv_goto (tgt := 27) hx hb eX12_tells_58.2.2.2.2.1 (by decide) ?_
      exact ih27 (x6, x7, x8, x9 + 1) _ _ _ ⟨hP, hS, lv_sub hl [1, 2, 3, 4, 0] rfl, h⟩
    refine y_head (pcJ := 56) (σ := Int × Int × Int) (fun u H locs ls => va_P D vwCl (RW D a s) H ∧ va_S (fun _ => False) s₀.heap H locs ∧ lv_has ls 6 [(0, .ref (a 200)), (1, .int (i2 u.1)), (4, .int (i2 u.2.1)), (5, .int (i2 u.2.2))] ∧ m_x12_tells_J56 s (m_x12_tells_L27 s n27) u.1 u.2.1 u.2.2 = some o) (fun u => []) (fun u H locs ls hI => ?_) (fun J56 => ?_)
    · obtain ⟨hP, hS, hl, h⟩ := hI
      obtain ⟨x10, x11, x12⟩ := u
      have hP : va_P D vwCl (RW D a s) H := hP
      have hl : lv_has ls 6 [(0, .ref (a 200)), (1, .int (i2 x10)), (4, .int (i2 x11)), (5, .int (i2 x12))] := hl
      have h : m_x12_tells_J56 s (m_x12_tells_L27 s n27) x10 x11 x12 = some o := h
      unfold m_x12_tells_J56 at h
      refine lv_iload hx hb eX12_tells_42.2.2.2.2.2.2.2 (lv_at hl 2 rfl) ?_
      refine lv_istore_n (lv' := [(2, .int (i2 x11)), (0, .ref (a 200)), (1, .int (i2 x10)), (4, .int (i2 x11)), (5, .int (i2 x12))]) hx hb eX12_tells_58.1 rfl hl (by decide) rfl (fun ls hl => ?_)
      refine lv_iload hx hb eX12_tells_58.2.1 (lv_at hl 4 rfl) ?_
      refine lv_istore_n (lv' := [(3, .int (i2 x12)), (2, .int (i2 x11)), (0, .ref (a 200)), (1, .int (i2 x10)), (4, .int (i2 x11)), (5, .int (i2 x12))]) hx hb eX12_tells_58.2.2.1 rfl hl (by decide) rfl (fun ls hl => ?_)
      exact J62 (x10, x11, x12, x11) _ _ _ ⟨hP, hS, lv_sub hl [2, 3, 1, 0, 4] rfl, h⟩
    refine lv_iload hx hb eX12_tells_25.2.1 (lv_at hl 4 rfl) ?_
    refine lv_bipush (v := 100) hx hb eX12_tells_25.2.2.1 (by decide) ?_
    obtain ⟨hr13, h⟩ := rg_e h
    refine lv_icmp_ge (tgt := 68) hx hb eX12_tells_25.2.2.2.1 (by decide) (fun c14 => ?_) (fun c14 => ?_)
    · have h := if_t ((i2_le (x := 100) (y := x5) (by decide) hr13).mp c14) h
      refine lv_iload_n hx hb eX12_tells_58.2.2.2.2.2.1 rfl (lv_at hl 1 rfl) ?_
      obtain ⟨hr15, h⟩ := rg_e h
      refine lv_if_ne (tgt := 76) hx hb eX12_tells_58.2.2.2.2.2.2.1 (by decide) (fun c16 => ?_) (fun c16 => ?_)
      · have h := if_f (mt (i2_eq (x := x2) (y := 0) hr15 (by decide)).mpr c16) h
        refine lv_iload_n hx hb eX12_tells_73.2.1 rfl (lv_at hl 3 rfl) ?_
        exact J77 x4 _ _ _ ⟨hP, hS, lv_sub hl [] rfl, h⟩
      · have h := if_t ((i2_eq (x := x2) (y := 0) hr15 (by decide)).mp c16) h
        refine lv_iload_n hx hb eX12_tells_58.2.2.2.2.2.2.2 rfl (lv_at hl 2 rfl) ?_
        refine lv_goto (tgt := 77) hx hb eX12_tells_73.1 (by decide) ?_
        exact J77 x3 _ _ _ ⟨hP, hS, lv_sub hl [] rfl, h⟩
    · have h := if_f (mt (i2_le (x := 100) (y := x5) (by decide) hr13).mpr c14) h
      refine lv_aload_n hx hb eX12_tells_25.2.2.2.2.1 rfl (lv_at hl 0 rfl) ?_
      refine lv_iload hx hb eX12_tells_25.2.2.2.2.2.1 (lv_at hl 4 rfl) ?_
      obtain ⟨r18, hc17, h⟩ := bn_e h
      refine ycV (r0 := i2 r18) (As := [.int (i2 x5)]) (rest := []) (C := RX12) (n := 1) ⟨hx, hb, hml, hown, ht⟩ (k_x12_mostAlike l D a x5 _ _ hc17) (zgV ml_X12_650 im_X12_mostAlike se_X12_mostAlike in_X12 co_X12_mostAlike) rfl rfl (by decide +kernel) ⟨Nat.le_of_ble_eq_true rfl, Nat.le_of_ble_eq_true rfl⟩ hN hK hP hS 0 RW_0 rfl rfl rfl hl.1 rfl (Nat.le_of_ble_eq_true rfl) eX12_tells_25.2.2.2.2.2.2.1 ⟨Nat.le_of_ble_eq_true rfl, Nat.le_of_ble_eq_true rfl⟩ (fun H locs hP hS => ?_)
      refine lv_istore (lv' := [(5, .int (i2 r18)), (0, .ref (a 200)), (1, .int (i2 x2)), (2, .int (i2 x3)), (3, .int (i2 x4)), (4, .int (i2 x5))]) hx hb eX12_tells_25.2.2.2.2.2.2.2 hl (by decide) rfl (fun ls hl => ?_)
      refine lv_iload_n hx hb eX12_tells_42.1 rfl (lv_at hl 3 rfl) ?_
      refine lv_iconst (v := (-1)) hx hb eX12_tells_42.2.1 (by decide) ?_
      obtain ⟨hr19, h⟩ := rg_e h
      refine lv_icmp_eq (tgt := 56) hx hb eX12_tells_42.2.2.1 (by decide) (fun c20 => ?_) (fun c20 => ?_)
      · rw [show ((-1) : Int32) = i2 (-1) from by decide] at c20
        have h := if_t ((i2_eq (x := x3) (y := (-1)) hr19 (by decide)).mp c20) h
        exact J56 (x2, x5, r18) _ _ _ ⟨hP, hS, lv_sub hl [1, 2, 5, 0] rfl, h⟩
      · rw [show ((-1) : Int32) = i2 (-1) from by decide] at c20
        have h := if_f (mt (i2_eq (x := x3) (y := (-1)) hr19 (by decide)).mpr c20) h
        refine lv_iload hx hb eX12_tells_42.2.2.2.1 (lv_at hl 0 rfl) ?_
        refine lv_iload_n hx hb eX12_tells_42.2.2.2.2.1 rfl (lv_at hl 4 rfl) ?_
        obtain ⟨hr21, h⟩ := rg_e h
        obtain ⟨hr22, h⟩ := rg_e h
        refine lv_icmp_lt (tgt := 56) hx hb eX12_tells_42.2.2.2.2.2.1 (by decide) (fun c23 => ?_) (fun c23 => ?_)
        · have h := if_t ((i2_lt (x := r18) (y := x4) hr21 hr22).mp c23) h
          exact J56 (x2, x5, r18) _ _ _ ⟨hP, hS, lv_sub hl [1, 2, 5, 0] rfl, h⟩
        · have h := if_f (mt (i2_lt (x := r18) (y := x4) hr21 hr22).mpr c23) h
          refine lv_goto (tgt := 62) hx hb eX12_tells_42.2.2.2.2.2.2.1 (by decide) ?_
          exact J62 (x2, x3, x4, x5) _ _ _ ⟨hP, hS, lv_sub hl [1, 2, 3, 4, 5] rfl, h⟩
  refine y_head (pcJ := 18) (σ := Unit) (fun u H locs ls => va_P D vwCl (RW D a s) H ∧ va_S (fun _ => False) s₀.heap H locs ∧ lv_has ls 6 [] ∧ m_x12_tells_J18 s u = some o) (fun u => []) (fun u H locs ls hI => ?_) (fun J18 => ?_)
  · obtain ⟨hP, hS, hl, h⟩ := hI
    skip
    have hP : va_P D vwCl (RW D a s) H := hP
    have hl : lv_has ls 6 [] := hl
    have h : m_x12_tells_J18 s () = some o := h
    unfold m_x12_tells_J18 at h
    refine lv_iconst (v := (-1)) hx hb eX12_tells_15.2.1 (by decide) ?_
    obtain rfl := Option.some.inj h
    exact W.iret (v := (-1)) hx hb hr (fun t ht hW => ⟨⟨_, (), rfl, rfl, trivial⟩, hS.F ht⟩) hS.2.2 eX12_tells_15.2.2.1
  refine lv_iload_n hx hb eX12_remove_36.2.2.2.2.2.2.2 rfl (lv_at hl 1 rfl) ?_
  obtain ⟨hr24, h⟩ := rg_e h
  refine lv_i2l (v := i8 p0) hx hb eX12_tells_1.1 (i2_l hr24) ?_
  refine lv_lconst (v := 0) hx hb eX12_tells_1.2.1 (by decide) ?_
  refine lv_lconst (v := 1) hx hb eX12_tells_1.2.2.1 (by decide) ?_
  obtain ⟨r26, hc25, h⟩ := bn_e h
  refine ycS (r0 := i2 r26) (As := [.long (i8 p0), .long 0, .long 1]) (rest := []) (n := 3) ⟨hx, hb, hml, hown, ht⟩ (k_x12_isIn l D a p0 0 1 _ _ hc25) (zgT ml_X12_309 st_X12_isIn in_X12 co_X12_isIn) rfl rfl (by decide +kernel) ⟨Nat.le_of_ble_eq_true rfl, Nat.le_of_ble_eq_true rfl⟩ hN hK hP hS rfl hl.1 rfl (Nat.le_of_ble_eq_true rfl) eX12_tells_1.2.2.2.1 ⟨Nat.le_of_ble_eq_true rfl, Nat.le_of_ble_eq_true rfl⟩ (fun H locs hP hS => ?_)
  obtain ⟨hr27, h⟩ := rg_e h
  refine lv_if_eq (tgt := 18) hx hb eX12_tells_1.2.2.2.2.1 (by decide) (fun c28 => ?_) (fun c28 => ?_)
  · have h := if_t ((i2_eq (x := r26) (y := 0) hr27 (by decide)).mp c28) h
    exact J18 () _ _ _ ⟨hP, hS, lv_sub hl [] rfl, h⟩
  · have h := if_f (mt (i2_eq (x := r26) (y := 0) hr27 (by decide)).mpr c28) h
    refine lv_aload_n hx hb eX12_tells_1.2.2.2.2.2.1 rfl (lv_at hl 0 rfl) ?_
    refine lv_iconst (v := (-1)) hx hb eX12_tells_1.2.2.2.2.2.2.1 (by decide) ?_
    obtain ⟨r30, hc29, h⟩ := bn_e h
    refine ycV (r0 := i2 r30) (As := [.int (-1)]) (rest := []) (C := RX12) (n := 1) ⟨hx, hb, hml, hown, ht⟩ (k_x12_fits l D a (-1) _ _ hc29) (zgV ml_X12_647 im_X12_fits se_X12_fits in_X12 co_X12_fits) rfl rfl (by decide +kernel) ⟨Nat.le_of_ble_eq_true rfl, Nat.le_of_ble_eq_true rfl⟩ hN hK hP hS 0 RW_0 rfl rfl rfl hl.1 rfl (Nat.le_of_ble_eq_true rfl) eX12_tells_1.2.2.2.2.2.2.2 ⟨Nat.le_of_ble_eq_true rfl, Nat.le_of_ble_eq_true rfl⟩ (fun H locs hP hS => ?_)
    obtain ⟨hr31, h⟩ := rg_e h
    refine lv_if_ne (tgt := 20) hx hb eX12_tells_15.1 (by decide) (fun c32 => ?_) (fun c32 => ?_)
    · have h := if_f (mt (i2_eq (x := r30) (y := 0) hr31 (by decide)).mpr c32) h
      refine lv_iconst (v := (-1)) hx hb eX12_tells_15.2.2.2.1 (by decide) ?_
      refine lv_istore_n (lv' := [(2, .int (-1)), (0, .ref (a 200)), (1, .int (i2 p0))]) hx hb eX12_tells_15.2.2.2.2.1 rfl hl (by decide) rfl (fun ls hl => ?_)
      refine lv_iconst (v := (-1)) hx hb eX12_tells_15.2.2.2.2.2.1 (by decide) ?_
      refine lv_istore_n (lv' := [(3, .int (-1)), (2, .int (-1)), (0, .ref (a 200)), (1, .int (i2 p0))]) hx hb eX12_tells_15.2.2.2.2.2.2.1 rfl hl (by decide) rfl (fun ls hl => ?_)
      refine lv_iconst (v := 0) hx hb eX12_tells_15.2.2.2.2.2.2.2 (by decide) ?_
      refine lv_istore (lv' := [(4, .int 0), (3, .int (-1)), (2, .int (-1)), (0, .ref (a 200)), (1, .int (i2 p0))]) hx hb eX12_tells_25.1 hl (by decide) rfl (fun ls hl => ?_)
      exact J27 FU (p0, (-1), (-1), 0) _ _ _ ⟨hP, hS, lv_sub hl [3, 4, 2, 1, 0] rfl, h⟩
    · have h := if_t ((i2_eq (x := r30) (y := 0) hr31 (by decide)).mp c32) h
      exact J18 () _ _ _ ⟨hP, hS, lv_sub hl [] rfl, h⟩
set_option maxHeartbeats 4000000 in
set_option maxRecDepth 100000 in
theorem k_x12_keeps (l : Launch) (D : va_G) (a : Nat → Nat) (sz : Nat) (s : MS) (o : MS) (h : m_x12_keeps s = some o) : yWv l yX12_keeps cX12_keeps 2 none { frames := 0, cells := 0, slots := 0, locals := 0 } D sz [.ref (a 200)] (RW D a s) (RW D a o) := by
  refine Met.ofW (cc := cX12_keeps) (maxL := 2) (ret := none) (by decide) rfl ?_
  intro p e s₀ m args below meth c s₁ B hml hv
  obtain ⟨rfl, ⟨hsz, hP, hK, hD0⟩, hN⟩ := hv
  have hx := B.exec
  have hb := B.bytes
  have hr := B.returns
  have hts := atoms_spec (ws := wz yX12_keeps cX12_keeps 2 none) B.pre
  have ht : ∀ w ∈ lw_gd, w.before _ s₀ = true := fun w h => hts w (List.mem_cons_of_mem _ h)
  have hown : s₀.vm.findClass RX12 = some m.cls := findClass_of_methodNamed B.named
  have hlocks := B.notSynchronized
  subst hsz
  have hD := hD0.self (sz := s₀.heap.size)
  generalize hAe : va_A (RW D a s) s₀.heap.size = A at hD ⊢
  have hA : ∀ q : Nat, s₀.heap.size ≤ q → A q := fun q h => by rw [← hAe]; exact Or.inr h
  have hS : va_S A s₀.heap s₀.heap [] := va_S.rf
  have hDD : ∀ t : MS, va_D A (RW D a t) := fun t => RW_D t hD
  have hl := lv_entry ([.ref (a 200)]) (n := 2) (Nat.le_of_ble_eq_true rfl)
  rw [lg_entry_eq]
  generalize (lg_sl ([.ref (a 200)]) ++ List.replicate (2 - (lg_sl ([.ref (a 200)])).length) Slot.unset).toArray = ls at hl ⊢
  have hl : lv_has ls 2 [(0, .ref (a 200))] := hl
  unfold m_x12_keeps at h
  refine y_head (pcJ := 68) (σ := MS) (fun u H locs ls => va_P D vwCl (RW D a u) H ∧ va_S A s₀.heap H locs ∧ lv_has ls 2 [] ∧ m_x12_keeps_J68 u = some o) (fun u => []) (fun u H locs ls hI => ?_) (fun J68 => ?_)
  · obtain ⟨hP, hS, hl, h⟩ := hI
    obtain ⟨s1, rfl⟩ : ∃ z, z = u := ⟨u, rfl⟩
    have hP : va_P D vwCl (RW D a s1) H := hP
    have hl : lv_has ls 2 [] := hl
    have h : m_x12_keeps_J68 s1 = some o := h
    unfold m_x12_keeps_J68 at h
    obtain rfl := Option.some.inj h
    exact W.vret hx hb hr (fun t ht hW => ⟨⟨(), rfl, trivial, by rw [ht]; exact hP, va_K.moved hW.alike hK, hDD _⟩, hS.F ht⟩) hS.2.2 eX12_keeps_60.2.2.2.2.1
  refine y_loop (pcJ := 15) (σ := Int × MS) (fun n u H locs ls => va_P D vwCl (RW D a u.2) H ∧ va_S A s₀.heap H locs ∧ lv_has ls 2 [(0, .ref (a 200)), (1, .int (i2 u.1))] ∧ m_x12_keeps_L15 n u.1 u.2 = some o) (fun u => []) (fun u H locs ls hI => by obtain ⟨_, _, _, h⟩ := hI; cases h) (fun n15 ih15 u H locs ls hI => ?_) (fun J15 => ?_)
  · obtain ⟨hP, hS, hl, h⟩ := hI
    obtain ⟨x2, s3⟩ := u
    have hP : va_P D vwCl (RW D a s3) H := hP
    have hl : lv_has ls 2 [(0, .ref (a 200)), (1, .int (i2 x2))] := hl
    have h : m_x12_keeps_b15 (m_x12_keeps_L15 n15) x2 s3 = some o := h
    unfold m_x12_keeps_b15 at h
    refine lv_iload_n hx hb eX12_keeps_15.1 rfl (lv_at hl 1 rfl) ?_
    refine lv_sipush (v := 906) hx hb eX12_keeps_15.2.1 (by decide) ?_
    obtain ⟨hr4, h⟩ := rg_e h
    refine lv_icmp_ge (tgt := 49) hx hb eX12_keeps_15.2.2.1 (by decide) (fun c5 => ?_) (fun c5 => ?_)
    · have h := if_t ((i2_le (x := 906) (y := x2) (by decide) hr4).mp c5) h
      refine lv_aload_n hx hb eX12_keeps_43.2.2.1 rfl (lv_at hl 0 rfl) ?_
      refine va_get (D := D) (ci := 12) (v := .int (i2 (gI s3 76))) (C := RX12) (T := TX12) (N := 116) hx hb ht inX12 hown hK hP 0 RW_0 rfl 76 (by decide) (ht (.fieldLink RX12 416 "CloneVolumesModel" "undoable" "I") fl_X12_416) (fun _ h9 => h9) mF_76 eX12_keeps_43.2.2.2.1 ?_
      refine lv_bipush (v := 20) hx hb eX12_keeps_43.2.2.2.2.1 (by decide) ?_
      obtain ⟨hr6, h⟩ := rg_e h
      refine lv_icmp_ge (tgt := 68) hx hb eX12_keeps_43.2.2.2.2.2.1 (by decide) (fun c7 => ?_) (fun c7 => ?_)
      · have h := if_t ((i2_le (x := 20) (y := (gI s3 76)) (by decide) hr6).mp c7) h
        exact J68 s3 _ _ _ ⟨hP, hS, lv_sub hl [] rfl, h⟩
      · have h := if_f (mt (i2_le (x := 20) (y := (gI s3 76)) (by decide) hr6).mpr c7) h
        refine lv_aload_n hx hb eX12_keeps_43.2.2.2.2.2.2.1 rfl (lv_at hl 0 rfl) ?_
        refine lv_dup hx hb eX12_keeps_43.2.2.2.2.2.2.2 rfl ?_
        refine va_get (D := D) (ci := 12) (v := .int (i2 (gI s3 76))) (C := RX12) (T := TX12) (N := 116) hx hb ht inX12 hown hK hP 0 RW_0 rfl 76 (by decide) (ht (.fieldLink RX12 416 "CloneVolumesModel" "undoable" "I") fl_X12_416) (fun _ h9 => h9) mF_76 eX12_keeps_60.1 ?_
        refine lv_iconst (v := 1) hx hb eX12_keeps_60.2.1 (by decide) ?_
        refine lv_iadd hx hb eX12_keeps_60.2.2.1 ?_
        refine z_topi (y := i2 ((gI s3 76) + 1)) (i2_add (gI s3 76) 1) ?_
        refine ya_put (D := D) (ci := 12) (v := .int (i2 ((gI s3 76) + 1))) (ty := .int) (C := RX12) (T := TX12) (N := 116) hx hb ht inX12 tyX12 tyX12_ok nmX12 hown hK hP (hDD _) hS 0 RW_0 rfl 76 (by decide) (ht (.fieldLink RX12 416 "CloneVolumesModel" "undoable" "I") fl_X12_416) (fun _ h9 => h9) rfl (by decide +kernel) rfl rfl (by rw [mF_len]; decide) eX12_keeps_60.2.2.2.1 (RW_f76 ((gI s3 76) + 1)) (fun H locs hP hS => ?_)
        obtain ⟨s8, hs8, h⟩ := st_e h
        rw [hs8] at hP
        exact J68 s8 _ _ _ ⟨hP, hS, lv_sub hl [] rfl, h⟩
    · have h := if_f (mt (i2_le (x := 906) (y := x2) (by decide) hr4).mpr c5) h
      refine lv_aload_n hx hb eX12_keeps_15.2.2.2.1 rfl (lv_at hl 0 rfl) ?_
      refine va_get (D := D) (ci := 12) (v := .ref (a 75)) (C := RX12) (T := TX12) (N := 116) hx hb ht inX12 hown hK hP 0 RW_0 rfl 75 (by decide) (ht (.fieldLink RX12 170 "CloneVolumesModel" "kept0" "[I") fl_X12_170) (fun _ h9 => h9) mF_75 eX12_keeps_15.2.2.2.2.1 ?_
      refine lv_sipush (v := 906) hx hb eX12_keeps_15.2.2.2.2.2.1 (by decide) ?_
      refine lv_aload_n hx hb eX12_keeps_15.2.2.2.2.2.2.1 rfl (lv_at hl 0 rfl) ?_
      refine va_get (D := D) (ci := 12) (v := .int (i2 (gI s3 77))) (C := RX12) (T := TX12) (N := 116) hx hb ht inX12 hown hK hP 0 RW_0 rfl 77 (by decide) (ht (.fieldLink RX12 653 "CloneVolumesModel" "newest" "I") fl_X12_653) (fun _ h9 => h9) mF_77 eX12_keeps_15.2.2.2.2.2.2.2 ?_
      refine lv_imul hx hb eX12_keeps_33.1 ?_
      refine z_topi (y := i2 (906 * (gI s3 77))) (i2_mul 906 (gI s3 77)) ?_
      refine lv_iload_n hx hb eX12_keeps_33.2.1 rfl (lv_at hl 1 rfl) ?_
      refine lv_iadd hx hb eX12_keeps_33.2.2.1 ?_
      refine z_topi (y := i2 ((906 * (gI s3 77)) + x2)) (i2_add (906 * (gI s3 77)) x2) ?_
      refine lv_aload_n hx hb eX12_keeps_33.2.2.2.1 rfl (lv_at hl 0 rfl) ?_
      refine va_get (D := D) (ci := 12) (v := .ref (a 49)) (C := RX12) (T := TX12) (N := 116) hx hb ht inX12 hown hK hP 0 RW_0 rfl 49 (by decide) (ht (.fieldLink RX12 121 "CloneVolumesModel" "now" "[I") fl_X12_121) (fun _ h9 => h9) mF_49 eX12_keeps_33.2.2.2.2.1 ?_
      refine lv_iload_n hx hb eX12_keeps_33.2.2.2.2.2.1 rfl (lv_at hl 1 rfl) ?_
      obtain ⟨y9, ey9, iy9, h⟩ := rdI_e h
      refine ya_iald (i := x2) hx hb hK hP 36 0 RW_36 rfl (by decide) ey9 iy9 eX12_keeps_33.2.2.2.2.2.2.1 ?_
      obtain ⟨hi10, h⟩ := inb_e h
      refine ya_iast (i := ((906 * (gI s3 77)) + x2)) (x := y9) hx hb hK hP (hDD _) hS 52 0 RW_52 rfl (by decide) hi10 eX12_keeps_33.2.2.2.2.2.2.2 (RW_w52 _) (fun H locs hP hS => ?_)
      obtain ⟨s11, hs11, h⟩ := st_e h
      rw [hs11] at hP
      refine lv_iinc (v := i2 (x2 + 1)) (lv' := [(1, .int (i2 (x2 + 1))), (0, .ref (a 200))]) hx hb eX12_keeps_43.1 hl (k := 1) rfl (i2_add x2 1) (by decide) rfl (fun ls hl => ?_)
      refine lv_goto (tgt := 15) hx hb eX12_keeps_43.2.1 (by decide) ?_
      exact ih15 (x2 + 1, s11) _ _ _ ⟨hP, hS, lv_sub hl [1, 0] rfl, h⟩
  refine lv_aload_n hx hb eX12_isRefused_6.2.2.2.2.2.2.1 rfl (lv_at hl 0 rfl) ?_
  refine lv_aload_n hx hb eX12_isRefused_6.2.2.2.2.2.2.2 rfl (lv_at hl 0 rfl) ?_
  refine va_get (D := D) (ci := 12) (v := .int (i2 (gI s 77))) (C := RX12) (T := TX12) (N := 116) hx hb ht inX12 hown hK hP 0 RW_0 rfl 77 (by decide) (ht (.fieldLink RX12 653 "CloneVolumesModel" "newest" "I") fl_X12_653) (fun _ h9 => h9) mF_77 eX12_keeps_2.1 ?_
  refine lv_iconst (v := 1) hx hb eX12_keeps_2.2.1 (by decide) ?_
  refine lv_iadd hx hb eX12_keeps_2.2.2.1 ?_
  refine z_topi (y := i2 ((gI s 77) + 1)) (i2_add (gI s 77) 1) ?_
  refine lv_bipush (v := 20) hx hb eX12_keeps_2.2.2.2.1 (by decide) ?_
  obtain ⟨hn12, h⟩ := dv_e h
  refine lv_irem hx hb eX12_keeps_2.2.2.2.2.1 (dv_nz hn12) ?_
  refine z_topi (y := i2 (Int.tmod ((gI s 77) + 1) 20)) (by rw [show (20 : Int32) = i2 20 from by decide +kernel]; exact dv_r hn12) ?_
  refine ya_put (D := D) (ci := 12) (v := .int (i2 (Int.tmod ((gI s 77) + 1) 20))) (ty := .int) (C := RX12) (T := TX12) (N := 116) hx hb ht inX12 tyX12 tyX12_ok nmX12 hown hK hP (hDD _) hS 0 RW_0 rfl 77 (by decide) (ht (.fieldLink RX12 653 "CloneVolumesModel" "newest" "I") fl_X12_653) (fun _ h9 => h9) rfl (by decide +kernel) rfl rfl (by rw [mF_len]; decide) eX12_keeps_2.2.2.2.2.2.1 (RW_f77 (Int.tmod ((gI s 77) + 1) 20)) (fun H locs hP hS => ?_)
  obtain ⟨s13, hs13, h⟩ := st_e h
  rw [hs13] at hP
  refine lv_iconst (v := 0) hx hb eX12_keeps_2.2.2.2.2.2.2.1 (by decide) ?_
  refine lv_istore_n (lv' := [(1, .int 0), (0, .ref (a 200))]) hx hb eX12_keeps_2.2.2.2.2.2.2.2 rfl hl (by decide) rfl (fun ls hl => ?_)
  exact J15 FU (0, s13) _ _ _ ⟨hP, hS, lv_sub hl [1, 0] rfl, h⟩
set_option maxHeartbeats 4000000 in
set_option maxRecDepth 100000 in
theorem k_x12_undo (l : Launch) (D : va_G) (a : Nat → Nat) (sz : Nat) (s : MS) (o : (Int × MS)) (h : m_x12_undo s = some o) : yWi l yX12_undo cX12_undo 2 (some .boolean) { frames := 0, cells := 0, slots := 0, locals := 0 } D sz [.ref (a 200)] (RW D a s) (RW D a o.2) (i2 o.1) := by
  refine Met.ofW (cc := cX12_undo) (maxL := 2) (ret := (some .boolean)) (by decide) rfl ?_
  intro p e s₀ m args below meth c s₁ B hml hv
  obtain ⟨rfl, ⟨hsz, hP, hK, hD0⟩, hN⟩ := hv
  have hx := B.exec
  have hb := B.bytes
  have hr := B.returns
  have hts := atoms_spec (ws := wz yX12_undo cX12_undo 2 (some .boolean)) B.pre
  have ht : ∀ w ∈ lw_gd, w.before _ s₀ = true := fun w h => hts w (List.mem_cons_of_mem _ h)
  have hown : s₀.vm.findClass RX12 = some m.cls := findClass_of_methodNamed B.named
  have hlocks := B.notSynchronized
  subst hsz
  have hD := hD0.self (sz := s₀.heap.size)
  generalize hAe : va_A (RW D a s) s₀.heap.size = A at hD ⊢
  have hA : ∀ q : Nat, s₀.heap.size ≤ q → A q := fun q h => by rw [← hAe]; exact Or.inr h
  have hS : va_S A s₀.heap s₀.heap [] := va_S.rf
  have hDD : ∀ t : MS, va_D A (RW D a t) := fun t => RW_D t hD
  have hl := lv_entry ([.ref (a 200)]) (n := 2) (Nat.le_of_ble_eq_true rfl)
  rw [lg_entry_eq]
  generalize (lg_sl ([.ref (a 200)]) ++ List.replicate (2 - (lg_sl ([.ref (a 200)])).length) Slot.unset).toArray = ls at hl ⊢
  have hl : lv_has ls 2 [(0, .ref (a 200))] := hl
  unfold m_x12_undo at h
  refine y_loop (pcJ := 21) (σ := Int × MS) (fun n u H locs ls => va_P D vwCl (RW D a u.2) H ∧ va_S A s₀.heap H locs ∧ lv_has ls 2 [(0, .ref (a 200)), (1, .int (i2 u.1))] ∧ m_x12_undo_L21 n u.1 u.2 = some o) (fun u => []) (fun u H locs ls hI => by obtain ⟨_, _, _, h⟩ := hI; cases h) (fun n21 ih21 u H locs ls hI => ?_) (fun J21 => ?_)
  · obtain ⟨hP, hS, hl, h⟩ := hI
    obtain ⟨x1, s2⟩ := u
    have hP : va_P D vwCl (RW D a s2) H := hP
    have hl : lv_has ls 2 [(0, .ref (a 200)), (1, .int (i2 x1))] := hl
    have h : m_x12_undo_b21 (m_x12_undo_L21 n21) x1 s2 = some o := h
    unfold m_x12_undo_b21 at h
    refine lv_iload_n hx hb eX12_undo_19.2.2.1 rfl (lv_at hl 1 rfl) ?_
    refine lv_sipush (v := 906) hx hb eX12_undo_19.2.2.2.1 (by decide) ?_
    obtain ⟨hr3, h⟩ := rg_e h
    refine lv_icmp_ge (tgt := 55) hx hb eX12_undo_19.2.2.2.2.1 (by decide) (fun c4 => ?_) (fun c4 => ?_)
    · have h := if_t ((i2_le (x := 906) (y := x1) (by decide) hr3).mp c4) h
      refine lv_aload_n hx hb eX12_undo_47.2.2.2.2.1 rfl (lv_at hl 0 rfl) ?_
      refine lv_aload_n hx hb eX12_undo_47.2.2.2.2.2.1 rfl (lv_at hl 0 rfl) ?_
      refine va_get (D := D) (ci := 12) (v := .int (i2 (gI s2 77))) (C := RX12) (T := TX12) (N := 116) hx hb ht inX12 hown hK hP 0 RW_0 rfl 77 (by decide) (ht (.fieldLink RX12 653 "CloneVolumesModel" "newest" "I") fl_X12_653) (fun _ h9 => h9) mF_77 eX12_undo_47.2.2.2.2.2.2.1 ?_
      refine lv_bipush (v := 20) hx hb eX12_undo_47.2.2.2.2.2.2.2 (by decide) ?_
      refine lv_iadd hx hb eX12_undo_62.1 ?_
      refine z_topi (y := i2 ((gI s2 77) + 20)) (i2_add (gI s2 77) 20) ?_
      refine lv_iconst (v := 1) hx hb eX12_undo_62.2.1 (by decide) ?_
      refine lv_isub hx hb eX12_undo_62.2.2.1 ?_
      refine z_topi (y := i2 (((gI s2 77) + 20) - 1)) (i2_sub ((gI s2 77) + 20) 1) ?_
      refine lv_bipush (v := 20) hx hb eX12_undo_62.2.2.2.1 (by decide) ?_
      obtain ⟨hn5, h⟩ := dv_e h
      refine lv_irem hx hb eX12_undo_62.2.2.2.2.1 (dv_nz hn5) ?_
      refine z_topi (y := i2 (Int.tmod (((gI s2 77) + 20) - 1) 20)) (by rw [show (20 : Int32) = i2 20 from by decide +kernel]; exact dv_r hn5) ?_
      refine ya_put (D := D) (ci := 12) (v := .int (i2 (Int.tmod (((gI s2 77) + 20) - 1) 20))) (ty := .int) (C := RX12) (T := TX12) (N := 116) hx hb ht inX12 tyX12 tyX12_ok nmX12 hown hK hP (hDD _) hS 0 RW_0 rfl 77 (by decide) (ht (.fieldLink RX12 653 "CloneVolumesModel" "newest" "I") fl_X12_653) (fun _ h9 => h9) rfl (by decide +kernel) rfl rfl (by rw [mF_len]; decide) eX12_undo_62.2.2.2.2.2.1 (RW_f77 (Int.tmod (((gI s2 77) + 20) - 1) 20)) (fun H locs hP hS => ?_)
      obtain ⟨s6, hs6, h⟩ := st_e h
      rw [hs6] at hP
      refine lv_aload_n hx hb eX12_undo_62.2.2.2.2.2.2.1 rfl (lv_at hl 0 rfl) ?_
      refine lv_dup hx hb eX12_undo_62.2.2.2.2.2.2.2 rfl ?_
      refine va_get (D := D) (ci := 12) (v := .int (i2 (gI s6 76))) (C := RX12) (T := TX12) (N := 116) hx hb ht inX12 hown hK hP 0 RW_0 rfl 76 (by decide) (ht (.fieldLink RX12 416 "CloneVolumesModel" "undoable" "I") fl_X12_416) (fun _ h9 => h9) mF_76 eX12_undo_73.1 ?_
      refine lv_iconst (v := 1) hx hb eX12_undo_73.2.1 (by decide) ?_
      refine lv_isub hx hb eX12_undo_73.2.2.1 ?_
      refine z_topi (y := i2 ((gI s6 76) - 1)) (i2_sub (gI s6 76) 1) ?_
      refine ya_put (D := D) (ci := 12) (v := .int (i2 ((gI s6 76) - 1))) (ty := .int) (C := RX12) (T := TX12) (N := 116) hx hb ht inX12 tyX12 tyX12_ok nmX12 hown hK hP (hDD _) hS 0 RW_0 rfl 76 (by decide) (ht (.fieldLink RX12 416 "CloneVolumesModel" "undoable" "I") fl_X12_416) (fun _ h9 => h9) rfl (by decide +kernel) rfl rfl (by rw [mF_len]; decide) eX12_undo_73.2.2.2.1 (RW_f76 ((gI s6 76) - 1)) (fun H locs hP hS => ?_)
      obtain ⟨s7, hs7, h⟩ := st_e h
      rw [hs7] at hP
      refine lv_iconst (v := 1) hx hb eX12_undo_73.2.2.2.2.1 (by decide) ?_
      obtain rfl := Option.some.inj h
      exact W.zret (v := 1) hx hb hr (by decide) (fun t ht hW => ⟨⟨_, (), rfl, rfl, by rw [ht]; exact hP, va_K.moved hW.alike hK, hDD _⟩, hS.F ht⟩) hS.2.2 eX12_undo_73.2.2.2.2.2
    · have h := if_f (mt (i2_le (x := 906) (y := x1) (by decide) hr3).mpr c4) h
      refine lv_aload_n hx hb eX12_undo_19.2.2.2.2.2.1 rfl (lv_at hl 0 rfl) ?_
      refine va_get (D := D) (ci := 12) (v := .ref (a 49)) (C := RX12) (T := TX12) (N := 116) hx hb ht inX12 hown hK hP 0 RW_0 rfl 49 (by decide) (ht (.fieldLink RX12 121 "CloneVolumesModel" "now" "[I") fl_X12_121) (fun _ h9 => h9) mF_49 eX12_undo_19.2.2.2.2.2.2.1 ?_
      refine lv_iload_n hx hb eX12_undo_19.2.2.2.2.2.2.2 rfl (lv_at hl 1 rfl) ?_
      refine lv_aload_n hx hb eX12_undo_33.1 rfl (lv_at hl 0 rfl) ?_
      refine va_get (D := D) (ci := 12) (v := .ref (a 75)) (C := RX12) (T := TX12) (N := 116) hx hb ht inX12 hown hK hP 0 RW_0 rfl 75 (by decide) (ht (.fieldLink RX12 170 "CloneVolumesModel" "kept0" "[I") fl_X12_170) (fun _ h9 => h9) mF_75 eX12_undo_33.2.1 ?_
      refine lv_sipush (v := 906) hx hb eX12_undo_33.2.2.1 (by decide) ?_
      refine lv_aload_n hx hb eX12_undo_33.2.2.2.1 rfl (lv_at hl 0 rfl) ?_
      refine va_get (D := D) (ci := 12) (v := .int (i2 (gI s2 77))) (C := RX12) (T := TX12) (N := 116) hx hb ht inX12 hown hK hP 0 RW_0 rfl 77 (by decide) (ht (.fieldLink RX12 653 "CloneVolumesModel" "newest" "I") fl_X12_653) (fun _ h9 => h9) mF_77 eX12_undo_33.2.2.2.2.1 ?_
      refine lv_imul hx hb eX12_undo_33.2.2.2.2.2.1 ?_
      refine z_topi (y := i2 (906 * (gI s2 77))) (i2_mul 906 (gI s2 77)) ?_
      refine lv_iload_n hx hb eX12_undo_33.2.2.2.2.2.2.1 rfl (lv_at hl 1 rfl) ?_
      refine lv_iadd hx hb eX12_undo_33.2.2.2.2.2.2.2 ?_
      refine z_topi (y := i2 ((906 * (gI s2 77)) + x1)) (i2_add (906 * (gI s2 77)) x1) ?_
      obtain ⟨y8, ey8, iy8, h⟩ := rdI_e h
      refine ya_iald (i := ((906 * (gI s2 77)) + x1)) hx hb hK hP 52 0 RW_52 rfl (by decide) ey8 iy8 eX12_undo_47.1 ?_
      obtain ⟨hi9, h⟩ := inb_e h
      refine ya_iast (i := x1) (x := y8) hx hb hK hP (hDD _) hS 36 0 RW_36 rfl (by decide) hi9 eX12_undo_47.2.1 (RW_w36 _) (fun H locs hP hS => ?_)
      obtain ⟨s10, hs10, h⟩ := st_e h
      rw [hs10] at hP
      refine lv_iinc (v := i2 (x1 + 1)) (lv' := [(1, .int (i2 (x1 + 1))), (0, .ref (a 200))]) hx hb eX12_undo_47.2.2.1 hl (k := 1) rfl (i2_add x1 1) (by decide) rfl (fun ls hl => ?_)
      refine lv_goto (tgt := 21) hx hb eX12_undo_47.2.2.2.1 (by decide) ?_
      exact ih21 (x1 + 1, s10) _ _ _ ⟨hP, hS, lv_sub hl [1, 0] rfl, h⟩
  refine lv_aload_n hx hb eX12_tells_73.2.2.2.1 rfl (lv_at hl 0 rfl) ?_
  refine va_get (D := D) (ci := 12) (v := .int (i2 (gI s 76))) (C := RX12) (T := TX12) (N := 116) hx hb ht inX12 hown hK hP 0 RW_0 rfl 76 (by decide) (ht (.fieldLink RX12 416 "CloneVolumesModel" "undoable" "I") fl_X12_416) (fun _ h9 => h9) mF_76 eX12_tells_73.2.2.2.2.1 ?_
  obtain ⟨hr11, h⟩ := rg_e h
  refine lv_if_ne (tgt := 19) hx hb eX12_tells_73.2.2.2.2.2.1 (by decide) (fun c12 => ?_) (fun c12 => ?_)
  · have h := if_f (mt (i2_eq (x := (gI s 76)) (y := 0) hr11 (by decide)).mpr c12) h
    refine lv_iconst (v := 0) hx hb eX12_undo_19.1 (by decide) ?_
    refine lv_istore_n (lv' := [(1, .int 0), (0, .ref (a 200))]) hx hb eX12_undo_19.2.1 rfl hl (by decide) rfl (fun ls hl => ?_)
    exact J21 FU (0, s) _ _ _ ⟨hP, hS, lv_sub hl [1, 0] rfl, h⟩
  · have h := if_t ((i2_eq (x := (gI s 76)) (y := 0) hr11 (by decide)).mp c12) h
    refine lv_aload_n hx hb eX12_tells_73.2.2.2.2.2.2.1 rfl (lv_at hl 0 rfl) ?_
    refine va_get (D := D) (ci := 12) (v := .ref (a 9)) (C := RX12) (T := TX12) (N := 116) hx hb ht inX12 hown hK hP 0 RW_0 rfl 9 (by decide) (ht (.fieldLink RX12 17 "CloneVolumesModel" "refused" "[I") fl_X12_17) (fun _ h9 => h9) mF_9 eX12_tells_73.2.2.2.2.2.2.2 ?_
    refine lv_iconst (v := 4) hx hb eX12_undo_11.1 (by decide) ?_
    refine lv_dup2_11 hx hb eX12_undo_11.2.1 rfl rfl ?_
    obtain ⟨y13, ey13, iy13, h⟩ := rdI_e h
    refine ya_iald (i := 4) hx hb hK hP 2 0 RW_2 rfl (by decide) ey13 iy13 eX12_undo_11.2.2.1 ?_
    refine lv_iconst (v := 1) hx hb eX12_undo_11.2.2.2.1 (by decide) ?_
    refine lv_iadd hx hb eX12_undo_11.2.2.2.2.1 ?_
    refine z_topi (y := i2 (y13 + 1)) (i2_add y13 1) ?_
    obtain ⟨hi14, h⟩ := inb_e h
    refine ya_iast (i := 4) (x := (y13 + 1)) hx hb hK hP (hDD _) hS 2 0 RW_2 rfl (by decide) hi14 eX12_undo_11.2.2.2.2.2.1 (RW_w2 _) (fun H locs hP hS => ?_)
    obtain ⟨s15, hs15, h⟩ := st_e h
    rw [hs15] at hP
    refine lv_iconst (v := 0) hx hb eX12_undo_11.2.2.2.2.2.2.1 (by decide) ?_
    obtain rfl := Option.some.inj h
    exact W.zret (v := 0) hx hb hr (by decide) (fun t ht hW => ⟨⟨_, (), rfl, rfl, by rw [ht]; exact hP, va_K.moved hW.alike hK, hDD _⟩, hS.F ht⟩) hS.2.2 eX12_undo_11.2.2.2.2.2.2.2
set_option maxHeartbeats 4000000 in
set_option maxRecDepth 100000 in
theorem k_x12_isRefused (l : Launch) (D : va_G) (a : Nat → Nat) (p0 : Int) (sz : Nat) (s : MS) (o : (Int × MS)) (h : m_x12_isRefused p0 s = some o) : yWi l yX12_isRefused cX12_isRefused 2 (some .boolean) { frames := 0, cells := 0, slots := 0, locals := 0 } D sz [.ref (a 200), .int (i2 p0)] (RW D a s) (RW D a o.2) (i2 o.1) := by
  refine Met.ofW (cc := cX12_isRefused) (maxL := 2) (ret := (some .boolean)) (by decide) rfl ?_
  intro p e s₀ m args below meth c s₁ B hml hv
  obtain ⟨rfl, ⟨hsz, hP, hK, hD0⟩, hN⟩ := hv
  have hx := B.exec
  have hb := B.bytes
  have hr := B.returns
  have hts := atoms_spec (ws := wz yX12_isRefused cX12_isRefused 2 (some .boolean)) B.pre
  have ht : ∀ w ∈ lw_gd, w.before _ s₀ = true := fun w h => hts w (List.mem_cons_of_mem _ h)
  have hown : s₀.vm.findClass RX12 = some m.cls := findClass_of_methodNamed B.named
  have hlocks := B.notSynchronized
  subst hsz
  have hD := hD0.self (sz := s₀.heap.size)
  generalize hAe : va_A (RW D a s) s₀.heap.size = A at hD ⊢
  have hA : ∀ q : Nat, s₀.heap.size ≤ q → A q := fun q h => by rw [← hAe]; exact Or.inr h
  have hS : va_S A s₀.heap s₀.heap [] := va_S.rf
  have hDD : ∀ t : MS, va_D A (RW D a t) := fun t => RW_D t hD
  have hl := lv_entry ([.ref (a 200), .int (i2 p0)]) (n := 2) (Nat.le_of_ble_eq_true rfl)
  rw [lg_entry_eq]
  generalize (lg_sl ([.ref (a 200), .int (i2 p0)]) ++ List.replicate (2 - (lg_sl ([.ref (a 200), .int (i2 p0)])).length) Slot.unset).toArray = ls at hl ⊢
  have hl : lv_has ls 2 [(0, .ref (a 200)), (1, .int (i2 p0))] := hl
  unfold m_x12_isRefused at h
  refine lv_aload_n hx hb eX12_freeNumber_20.2.2.2.2.1 rfl (lv_at hl 0 rfl) ?_
  refine va_get (D := D) (ci := 12) (v := .ref (a 9)) (C := RX12) (T := TX12) (N := 116) hx hb ht inX12 hown hK hP 0 RW_0 rfl 9 (by decide) (ht (.fieldLink RX12 17 "CloneVolumesModel" "refused" "[I") fl_X12_17) (fun _ h9 => h9) mF_9 eX12_freeNumber_20.2.2.2.2.2.1 ?_
  refine lv_iload_n hx hb eX12_freeNumber_20.2.2.2.2.2.2.1 rfl (lv_at hl 1 rfl) ?_
  refine lv_dup2_11 hx hb eX12_freeNumber_20.2.2.2.2.2.2.2 rfl rfl ?_
  obtain ⟨y1, ey1, iy1, h⟩ := rdI_e h
  refine ya_iald (i := p0) hx hb hK hP 2 0 RW_2 rfl (by decide) ey1 iy1 eX12_isRefused_6.1 ?_
  refine lv_iconst (v := 1) hx hb eX12_isRefused_6.2.1 (by decide) ?_
  refine lv_iadd hx hb eX12_isRefused_6.2.2.1 ?_
  refine z_topi (y := i2 (y1 + 1)) (i2_add y1 1) ?_
  obtain ⟨hi2, h⟩ := inb_e h
  refine ya_iast (i := p0) (x := (y1 + 1)) hx hb hK hP (hDD _) hS 2 0 RW_2 rfl (by decide) hi2 eX12_isRefused_6.2.2.2.1 (RW_w2 _) (fun H locs hP hS => ?_)
  obtain ⟨s3, hs3, h⟩ := st_e h
  rw [hs3] at hP
  refine lv_iconst (v := 0) hx hb eX12_isRefused_6.2.2.2.2.1 (by decide) ?_
  obtain rfl := Option.some.inj h
  exact W.zret (v := 0) hx hb hr (by decide) (fun t ht hW => ⟨⟨_, (), rfl, rfl, by rw [ht]; exact hP, va_K.moved hW.alike hK, hDD _⟩, hS.F ht⟩) hS.2.2 eX12_isRefused_6.2.2.2.2.2.1
set_option maxHeartbeats 4000000 in
set_option maxRecDepth 100000 in
theorem k_x12_canBe (l : Launch) (D : va_G) (a : Nat → Nat) (p0 : Int) (p1 : Int) (p2 : Int) (p3 : Int) (sz : Nat) (s : MS) (o : (Int × MS)) (h : m_x12_canBe p0 p1 p2 p3 s = some o) : yWi l yX12_canBe cX12_canBe 7 (some .boolean) { frames := 10, cells := 0, slots := 0, locals := 600 } D sz [.ref (a 200), .int (i2 p0), .int (i2 p1), .int (i2 p2), .int (i2 p3)] (RW D a s) (RW D a o.2) (i2 o.1) := by
  refine Met.ofW (cc := cX12_canBe) (maxL := 7) (ret := (some .boolean)) (by decide) rfl ?_
  intro p e s₀ m args below meth c s₁ B hml hv
  obtain ⟨rfl, ⟨hsz, hP, hK, hD0⟩, hN⟩ := hv
  have hx := B.exec
  have hb := B.bytes
  have hr := B.returns
  have hts := atoms_spec (ws := wz yX12_canBe cX12_canBe 7 (some .boolean)) B.pre
  have ht : ∀ w ∈ lw_gd, w.before _ s₀ = true := fun w h => hts w (List.mem_cons_of_mem _ h)
  have hown : s₀.vm.findClass RX12 = some m.cls := findClass_of_methodNamed B.named
  have hlocks := B.notSynchronized
  subst hsz
  have hD := hD0.self (sz := s₀.heap.size)
  generalize hAe : va_A (RW D a s) s₀.heap.size = A at hD ⊢
  have hA : ∀ q : Nat, s₀.heap.size ≤ q → A q := fun q h => by rw [← hAe]; exact Or.inr h
  have hS : va_S A s₀.heap s₀.heap [] := va_S.rf
  have hDD : ∀ t : MS, va_D A (RW D a t) := fun t => RW_D t hD
  have hl := lv_entry ([.ref (a 200), .int (i2 p0), .int (i2 p1), .int (i2 p2), .int (i2 p3)]) (n := 7) (Nat.le_of_ble_eq_true rfl)
  rw [lg_entry_eq]
  generalize (lg_sl ([.ref (a 200), .int (i2 p0), .int (i2 p1), .int (i2 p2), .int (i2 p3)]) ++ List.replicate (7 - (lg_sl ([.ref (a 200), .int (i2 p0), .int (i2 p1), .int (i2 p2), .int (i2 p3)])).length) Slot.unset).toArray = ls at hl ⊢
  have hl : lv_has ls 7 [(0, .ref (a 200)), (1, .int (i2 p0)), (2, .int (i2 p1)), (3, .int (i2 p2)), (4, .int (i2 p3))] := hl
  unfold m_x12_canBe at h
  refine y_loop (pcJ := 101) (σ := Int × MS) (fun n u H locs ls => va_P D vwCl (RW D a u.2) H ∧ va_S A s₀.heap H locs ∧ lv_has ls 7 [(0, .ref (a 200)), (5, .int (i2 u.1))] ∧ m_x12_canBe_L101 n u.1 u.2 = some o) (fun u => []) (fun u H locs ls hI => by obtain ⟨_, _, _, h⟩ := hI; cases h) (fun n101 ih101 u H locs ls hI => ?_) (fun J101 => ?_)
  · obtain ⟨hP, hS, hl, h⟩ := hI
    obtain ⟨x1, s2⟩ := u
    have hP : va_P D vwCl (RW D a s2) H := hP
    have hl : lv_has ls 7 [(0, .ref (a 200)), (5, .int (i2 x1))] := hl
    have h : m_x12_canBe_b101 (m_x12_canBe_L101 n101) x1 s2 = some o := h
    unfold m_x12_canBe_b101 at h
    refine lv_iload hx hb eX12_canBe_91.2.2.2.2.2.1 (lv_at hl 1 rfl) ?_
    refine lv_sipush (v := 785) hx hb eX12_canBe_91.2.2.2.2.2.2.1 (by decide) ?_
    obtain ⟨hr3, h⟩ := rg_e h
    refine lv_icmp_ge (tgt := 129) hx hb eX12_canBe_91.2.2.2.2.2.2.2 (by decide) (fun c4 => ?_) (fun c4 => ?_)
    · have h := if_t ((i2_le (x := 785) (y := x1) (by decide) hr3).mp c4) h
      refine lv_iconst (v := 1) hx hb eX12_canBe_123.2.2.1 (by decide) ?_
      obtain rfl := Option.some.inj h
      exact W.zret (v := 1) hx hb hr (by decide) (fun t ht hW => ⟨⟨_, (), rfl, rfl, by rw [ht]; exact hP, va_K.moved hW.alike hK, hDD _⟩, hS.F ht⟩) hS.2.2 eX12_canBe_123.2.2.2.1
    · have h := if_f (mt (i2_le (x := 785) (y := x1) (by decide) hr3).mpr c4) h
      refine lv_aload_n hx hb eX12_canBe_109.1 rfl (lv_at hl 0 rfl) ?_
      refine va_get (D := D) (ci := 12) (v := .ref (a 49)) (C := RX12) (T := TX12) (N := 116) hx hb ht inX12 hown hK hP 0 RW_0 rfl 49 (by decide) (ht (.fieldLink RX12 121 "CloneVolumesModel" "now" "[I") fl_X12_121) (fun _ h9 => h9) mF_49 eX12_canBe_109.2.1 ?_
      refine lv_iload hx hb eX12_canBe_109.2.2.1 (lv_at hl 1 rfl) ?_
      refine lv_aload_n hx hb eX12_canBe_109.2.2.2.1 rfl (lv_at hl 0 rfl) ?_
      refine va_get (D := D) (ci := 12) (v := .ref (a 61)) (C := RX12) (T := TX12) (N := 116) hx hb ht inX12 hown hK hP 0 RW_0 rfl 61 (by decide) (ht (.fieldLink RX12 143 "CloneVolumesModel" "aside" "[I") fl_X12_143) (fun _ h9 => h9) mF_61 eX12_canBe_109.2.2.2.2.1 ?_
      refine lv_iload hx hb eX12_canBe_109.2.2.2.2.2.1 (lv_at hl 1 rfl) ?_
      obtain ⟨y5, ey5, iy5, h⟩ := rdI_e h
      refine ya_iald (i := x1) hx hb hK hP 43 0 RW_43 rfl (by decide) ey5 iy5 eX12_canBe_109.2.2.2.2.2.2.1 ?_
      obtain ⟨hi6, h⟩ := inb_e h
      refine ya_iast (i := x1) (x := y5) hx hb hK hP (hDD _) hS 36 0 RW_36 rfl (by decide) hi6 eX12_canBe_109.2.2.2.2.2.2.2 (RW_w36 _) (fun H locs hP hS => ?_)
      obtain ⟨s7, hs7, h⟩ := st_e h
      rw [hs7] at hP
      refine lv_iinc (v := i2 (x1 + 1)) (lv' := [(5, .int (i2 (x1 + 1))), (0, .ref (a 200))]) hx hb eX12_canBe_123.1 hl (k := 1) rfl (i2_add x1 1) (by decide) rfl (fun ls hl => ?_)
      refine lv_goto (tgt := 101) hx hb eX12_canBe_123.2.1 (by decide) ?_
      exact ih101 (x1 + 1, s7) _ _ _ ⟨hP, hS, lv_sub hl [1, 0] rfl, h⟩
  refine y_loop (pcJ := 48) (σ := Int × MS) (fun n u H locs ls => va_P D vwCl (RW D a u.2) H ∧ va_S A s₀.heap H locs ∧ lv_has ls 7 [(0, .ref (a 200)), (5, .int (i2 u.1))] ∧ m_x12_canBe_L48 n u.1 u.2 = some o) (fun u => []) (fun u H locs ls hI => by obtain ⟨_, _, _, h⟩ := hI; cases h) (fun n48 ih48 u H locs ls hI => ?_) (fun J48 => ?_)
  · obtain ⟨hP, hS, hl, h⟩ := hI
    obtain ⟨x8, s9⟩ := u
    have hP : va_P D vwCl (RW D a s9) H := hP
    have hl : lv_has ls 7 [(0, .ref (a 200)), (5, .int (i2 x8))] := hl
    have h : m_x12_canBe_b48 (m_x12_canBe_L48 n48) x8 s9 = some o := h
    unfold m_x12_canBe_b48 at h
    refine lv_iload hx hb eX12_canBe_45.2.2.1 (lv_at hl 1 rfl) ?_
    refine lv_sipush (v := 785) hx hb eX12_canBe_45.2.2.2.1 (by decide) ?_
    obtain ⟨hr10, h⟩ := rg_e h
    refine lv_icmp_ge (tgt := 94) hx hb eX12_canBe_45.2.2.2.2.1 (by decide) (fun c11 => ?_) (fun c11 => ?_)
    · have h := if_t ((i2_le (x := 785) (y := x8) (by decide) hr10).mp c11) h
      refine lv_aload_n hx hb eX12_canBe_91.2.1 rfl (lv_at hl 0 rfl) ?_
      obtain ⟨s13, hc12, h⟩ := bn_e h
      refine ywVv (As := []) (rest := []) (C := RX12) (n := 0) (ws' := RW D a s13) ⟨hx, hb, hml, hown, ht⟩ (k_x12_keeps l D a _ _ _ hc12) (zgV ml_X12_662 im_X12_keeps se_X12_keeps in_X12 co_X12_keeps) rfl rfl (by decide +kernel) ⟨Nat.le_of_ble_eq_true rfl, Nat.le_of_ble_eq_true rfl⟩ hN hK hP (hDD _) hS hA 0 RW_0 rfl rfl rfl hl.1 rfl (Nat.le_of_ble_eq_true rfl) eX12_canBe_91.2.2.1 ⟨Nat.le_of_ble_eq_true rfl, Nat.le_of_ble_eq_true rfl⟩ (fun H locs hP hS => ?_)
      refine lv_iconst (v := 0) hx hb eX12_canBe_91.2.2.2.1 (by decide) ?_
      refine lv_istore (lv' := [(5, .int 0), (0, .ref (a 200))]) hx hb eX12_canBe_91.2.2.2.2.1 hl (by decide) rfl (fun ls hl => ?_)
      exact J101 FU (0, s13) _ _ _ ⟨hP, hS, lv_sub hl [1, 0] rfl, h⟩
    · have h := if_f (mt (i2_le (x := 785) (y := x8) (by decide) hr10).mpr c11) h
      refine lv_aload_n hx hb eX12_canBe_45.2.2.2.2.2.1 rfl (lv_at hl 0 rfl) ?_
      refine va_get (D := D) (ci := 12) (v := .ref (a 49)) (C := RX12) (T := TX12) (N := 116) hx hb ht inX12 hown hK hP 0 RW_0 rfl 49 (by decide) (ht (.fieldLink RX12 121 "CloneVolumesModel" "now" "[I") fl_X12_121) (fun _ h9 => h9) mF_49 eX12_canBe_45.2.2.2.2.2.2.1 ?_
      refine lv_iload hx hb eX12_canBe_45.2.2.2.2.2.2.2 (lv_at hl 1 rfl) ?_
      obtain ⟨y14, ey14, iy14, h⟩ := rdI_e h
      refine ya_iald (i := x8) hx hb hK hP 36 0 RW_36 rfl (by decide) ey14 iy14 eX12_canBe_62.1 ?_
      refine lv_istore (lv' := [(6, .int (i2 y14)), (0, .ref (a 200)), (5, .int (i2 x8))]) hx hb eX12_canBe_62.2.1 hl (by decide) rfl (fun ls hl => ?_)
      refine lv_aload_n hx hb eX12_canBe_62.2.2.1 rfl (lv_at hl 1 rfl) ?_
      refine va_get (D := D) (ci := 12) (v := .ref (a 49)) (C := RX12) (T := TX12) (N := 116) hx hb ht inX12 hown hK hP 0 RW_0 rfl 49 (by decide) (ht (.fieldLink RX12 121 "CloneVolumesModel" "now" "[I") fl_X12_121) (fun _ h9 => h9) mF_49 eX12_canBe_62.2.2.2.1 ?_
      refine lv_iload hx hb eX12_canBe_62.2.2.2.2.1 (lv_at hl 2 rfl) ?_
      refine lv_aload_n hx hb eX12_canBe_62.2.2.2.2.2.1 rfl (lv_at hl 1 rfl) ?_
      refine va_get (D := D) (ci := 12) (v := .ref (a 61)) (C := RX12) (T := TX12) (N := 116) hx hb ht inX12 hown hK hP 0 RW_0 rfl 61 (by decide) (ht (.fieldLink RX12 143 "CloneVolumesModel" "aside" "[I") fl_X12_143) (fun _ h9 => h9) mF_61 eX12_canBe_62.2.2.2.2.2.2.1 ?_
      refine lv_iload hx hb eX12_canBe_62.2.2.2.2.2.2.2 (lv_at hl 2 rfl) ?_
      obtain ⟨y15, ey15, iy15, h⟩ := rdI_e h
      refine ya_iald (i := x8) hx hb hK hP 43 0 RW_43 rfl (by decide) ey15 iy15 eX12_canBe_77.1 ?_
      obtain ⟨hi16, h⟩ := inb_e h
      refine ya_iast (i := x8) (x := y15) hx hb hK hP (hDD _) hS 36 0 RW_36 rfl (by decide) hi16 eX12_canBe_77.2.1 (RW_w36 _) (fun H locs hP hS => ?_)
      obtain ⟨s17, hs17, h⟩ := st_e h
      rw [hs17] at hP
      refine lv_aload_n hx hb eX12_canBe_77.2.2.1 rfl (lv_at hl 1 rfl) ?_
      refine va_get (D := D) (ci := 12) (v := .ref (a 61)) (C := RX12) (T := TX12) (N := 116) hx hb ht inX12 hown hK hP 0 RW_0 rfl 61 (by decide) (ht (.fieldLink RX12 143 "CloneVolumesModel" "aside" "[I") fl_X12_143) (fun _ h9 => h9) mF_61 eX12_canBe_77.2.2.2.1 ?_
      refine lv_iload hx hb eX12_canBe_77.2.2.2.2.1 (lv_at hl 2 rfl) ?_
      refine lv_iload hx hb eX12_canBe_77.2.2.2.2.2.1 (lv_at hl 0 rfl) ?_
      obtain ⟨hi18, h⟩ := inb_e h
      refine ya_iast (i := x8) (x := y14) hx hb hK hP (hDD _) hS 43 0 RW_43 rfl (by decide) hi18 eX12_canBe_77.2.2.2.2.2.2.1 (RW_w43 _) (fun H locs hP hS => ?_)
      obtain ⟨s19, hs19, h⟩ := st_e h
      rw [hs19] at hP
      refine lv_iinc (v := i2 (x8 + 1)) (lv' := [(5, .int (i2 (x8 + 1))), (6, .int (i2 y14)), (0, .ref (a 200))]) hx hb eX12_canBe_77.2.2.2.2.2.2.2 hl (k := 2) rfl (i2_add x8 1) (by decide) rfl (fun ls hl => ?_)
      refine lv_goto (tgt := 48) hx hb eX12_canBe_91.1 (by decide) ?_
      exact ih48 (x8 + 1, s19) _ _ _ ⟨hP, hS, lv_sub hl [2, 0] rfl, h⟩
  refine y_loop (pcJ := 3) (σ := Int × Int × Int × Int × Int × MS) (fun n u H locs ls => va_P D vwCl (RW D a u.2.2.2.2.2) H ∧ va_S A s₀.heap H locs ∧ lv_has ls 7 [(0, .ref (a 200)), (1, .int (i2 u.1)), (2, .int (i2 u.2.1)), (3, .int (i2 u.2.2.1)), (4, .int (i2 u.2.2.2.1)), (5, .int (i2 u.2.2.2.2.1))] ∧ m_x12_canBe_L3 n u.1 u.2.1 u.2.2.1 u.2.2.2.1 u.2.2.2.2.1 u.2.2.2.2.2 = some o) (fun u => []) (fun u H locs ls hI => by obtain ⟨_, _, _, h⟩ := hI; cases h) (fun n3 ih3 u H locs ls hI => ?_) (fun J3 => ?_)
  · obtain ⟨hP, hS, hl, h⟩ := hI
    obtain ⟨x20, x21, x22, x23, x24, s25⟩ := u
    have hP : va_P D vwCl (RW D a s25) H := hP
    have hl : lv_has ls 7 [(0, .ref (a 200)), (1, .int (i2 x20)), (2, .int (i2 x21)), (3, .int (i2 x22)), (4, .int (i2 x23)), (5, .int (i2 x24))] := hl
    have h : m_x12_canBe_b3 (m_x12_canBe_L3 n3) x20 x21 x22 x23 x24 s25 = some o := h
    unfold m_x12_canBe_b3 at h
    refine lv_iload hx hb eX12_canBe_0.2.2.1 (lv_at hl 5 rfl) ?_
    refine lv_sipush (v := 785) hx hb eX12_canBe_0.2.2.2.1 (by decide) ?_
    obtain ⟨hr26, h⟩ := rg_e h
    refine lv_icmp_ge (tgt := 31) hx hb eX12_canBe_0.2.2.2.2.1 (by decide) (fun c27 => ?_) (fun c27 => ?_)
    · have h := if_t ((i2_le (x := 785) (y := x24) (by decide) hr26).mp c27) h
      refine lv_aload_n hx hb eX12_canBe_17.2.2.2.2.2.2.2 rfl (lv_at hl 0 rfl) ?_
      refine lv_iload_n hx hb eX12_canBe_32.1 rfl (lv_at hl 1 rfl) ?_
      refine lv_iload_n hx hb eX12_canBe_32.2.1 rfl (lv_at hl 2 rfl) ?_
      refine lv_iload_n hx hb eX12_canBe_32.2.2.1 rfl (lv_at hl 3 rfl) ?_
      refine lv_iload hx hb eX12_canBe_32.2.2.2.1 (lv_at hl 4 rfl) ?_
      obtain ⟨⟨r30, s29⟩, hc28, h⟩ := bn_e h
      refine ywV (r0 := i2 r30) (As := [.int (i2 x20), .int (i2 x21), .int (i2 x22), .int (i2 x23)]) (rest := []) (C := RX12) (n := 4) (ws' := RW D a s29) ⟨hx, hb, hml, hown, ht⟩ (k_x12_tries l D a x20 x21 x22 x23 _ _ _ hc28) (zgV ml_X12_425 im_X12_tries se_X12_tries in_X12 co_X12_tries) rfl rfl (by decide +kernel) ⟨Nat.le_of_ble_eq_true rfl, Nat.le_of_ble_eq_true rfl⟩ hN hK hP (hDD _) hS hA 0 RW_0 rfl rfl rfl hl.1 rfl (Nat.le_of_ble_eq_true rfl) eX12_canBe_32.2.2.2.2.1 ⟨Nat.le_of_ble_eq_true rfl, Nat.le_of_ble_eq_true rfl⟩ (fun H locs hP hS => ?_)
      obtain ⟨hr31, h⟩ := rg_e h
      refine lv_if_ne (tgt := 45) hx hb eX12_canBe_32.2.2.2.2.2.1 (by decide) (fun c32 => ?_) (fun c32 => ?_)
      · have h := if_f (mt (i2_eq (x := r30) (y := 0) hr31 (by decide)).mpr c32) h
        refine lv_iconst (v := 0) hx hb eX12_canBe_45.1 (by decide) ?_
        refine lv_istore (lv' := [(5, .int 0), (0, .ref (a 200)), (1, .int (i2 x20)), (2, .int (i2 x21)), (3, .int (i2 x22)), (4, .int (i2 x23))]) hx hb eX12_canBe_45.2.1 hl (by decide) rfl (fun ls hl => ?_)
        exact J48 FU (0, s29) _ _ _ ⟨hP, hS, lv_sub hl [1, 0] rfl, h⟩
      · have h := if_t ((i2_eq (x := r30) (y := 0) hr31 (by decide)).mp c32) h
        refine lv_iconst (v := 0) hx hb eX12_canBe_32.2.2.2.2.2.2.1 (by decide) ?_
        obtain rfl := Option.some.inj h
        exact W.zret (v := 0) hx hb hr (by decide) (fun t ht hW => ⟨⟨_, (), rfl, rfl, by rw [ht]; exact hP, va_K.moved hW.alike hK, hDD _⟩, hS.F ht⟩) hS.2.2 eX12_canBe_32.2.2.2.2.2.2.2
    · have h := if_f (mt (i2_le (x := 785) (y := x24) (by decide) hr26).mpr c27) h
      refine lv_aload_n hx hb eX12_canBe_0.2.2.2.2.2.1 rfl (lv_at hl 0 rfl) ?_
      refine va_get (D := D) (ci := 12) (v := .ref (a 61)) (C := RX12) (T := TX12) (N := 116) hx hb ht inX12 hown hK hP 0 RW_0 rfl 61 (by decide) (ht (.fieldLink RX12 143 "CloneVolumesModel" "aside" "[I") fl_X12_143) (fun _ h9 => h9) mF_61 eX12_canBe_0.2.2.2.2.2.2.1 ?_
      refine lv_iload hx hb eX12_canBe_0.2.2.2.2.2.2.2 (lv_at hl 5 rfl) ?_
      refine lv_aload_n hx hb eX12_canBe_17.1 rfl (lv_at hl 0 rfl) ?_
      refine va_get (D := D) (ci := 12) (v := .ref (a 49)) (C := RX12) (T := TX12) (N := 116) hx hb ht inX12 hown hK hP 0 RW_0 rfl 49 (by decide) (ht (.fieldLink RX12 121 "CloneVolumesModel" "now" "[I") fl_X12_121) (fun _ h9 => h9) mF_49 eX12_canBe_17.2.1 ?_
      refine lv_iload hx hb eX12_canBe_17.2.2.1 (lv_at hl 5 rfl) ?_
      obtain ⟨y33, ey33, iy33, h⟩ := rdI_e h
      refine ya_iald (i := x24) hx hb hK hP 36 0 RW_36 rfl (by decide) ey33 iy33 eX12_canBe_17.2.2.2.1 ?_
      obtain ⟨hi34, h⟩ := inb_e h
      refine ya_iast (i := x24) (x := y33) hx hb hK hP (hDD _) hS 43 0 RW_43 rfl (by decide) hi34 eX12_canBe_17.2.2.2.2.1 (RW_w43 _) (fun H locs hP hS => ?_)
      obtain ⟨s35, hs35, h⟩ := st_e h
      rw [hs35] at hP
      refine lv_iinc (v := i2 (x24 + 1)) (lv' := [(5, .int (i2 (x24 + 1))), (0, .ref (a 200)), (1, .int (i2 x20)), (2, .int (i2 x21)), (3, .int (i2 x22)), (4, .int (i2 x23))]) hx hb eX12_canBe_17.2.2.2.2.2.1 hl (k := 5) rfl (i2_add x24 1) (by decide) rfl (fun ls hl => ?_)
      refine lv_goto (tgt := 3) hx hb eX12_canBe_17.2.2.2.2.2.2.1 (by decide) ?_
      exact ih3 (x20, x21, x22, x23, x24 + 1, s35) _ _ _ ⟨hP, hS, lv_sub hl [1, 2, 3, 4, 5, 0] rfl, h⟩
  refine lv_iconst (v := 0) hx hb eX12_canBe_0.1 (by decide) ?_
  refine lv_istore (lv' := [(5, .int 0), (0, .ref (a 200)), (1, .int (i2 p0)), (2, .int (i2 p1)), (3, .int (i2 p2)), (4, .int (i2 p3))]) hx hb eX12_canBe_0.2.1 hl (by decide) rfl (fun ls hl => ?_)
  exact J3 FU (p0, p1, p2, p3, 0, s) _ _ _ ⟨hP, hS, lv_sub hl [1, 2, 3, 4, 5, 0] rfl, h⟩
set_option maxHeartbeats 4000000 in
set_option maxRecDepth 100000 in
theorem k_x12_put (l : Launch) (D : va_G) (a : Nat → Nat) (p0 : Int) (p1 : Int) (p2 : Int) (sz : Nat) (s : MS) (o : (Int × MS)) (h : m_x12_put p0 p1 p2 s = some o) : yWi l yX12_put cX12_put 4 (some .int) { frames := 11, cells := 0, slots := 0, locals := 660 } D sz [.ref (a 200), .int (i2 p0), .int (i2 p1), .int (i2 p2)] (RW D a s) (RW D a o.2) (i2 o.1) := by
  refine Met.ofW (cc := cX12_put) (maxL := 4) (ret := (some .int)) (by decide) rfl ?_
  intro p e s₀ m args below meth c s₁ B hml hv
  obtain ⟨rfl, ⟨hsz, hP, hK, hD0⟩, hN⟩ := hv
  have hx := B.exec
  have hb := B.bytes
  have hr := B.returns
  have hts := atoms_spec (ws := wz yX12_put cX12_put 4 (some .int)) B.pre
  have ht : ∀ w ∈ lw_gd, w.before _ s₀ = true := fun w h => hts w (List.mem_cons_of_mem _ h)
  have hown : s₀.vm.findClass RX12 = some m.cls := findClass_of_methodNamed B.named
  have hlocks := B.notSynchronized
  subst hsz
  have hD := hD0.self (sz := s₀.heap.size)
  generalize hAe : va_A (RW D a s) s₀.heap.size = A at hD ⊢
  have hA : ∀ q : Nat, s₀.heap.size ≤ q → A q := fun q h => by rw [← hAe]; exact Or.inr h
  have hS : va_S A s₀.heap s₀.heap [] := va_S.rf
  have hDD : ∀ t : MS, va_D A (RW D a t) := fun t => RW_D t hD
  have hl := lv_entry ([.ref (a 200), .int (i2 p0), .int (i2 p1), .int (i2 p2)]) (n := 4) (Nat.le_of_ble_eq_true rfl)
  rw [lg_entry_eq]
  generalize (lg_sl ([.ref (a 200), .int (i2 p0), .int (i2 p1), .int (i2 p2)]) ++ List.replicate (4 - (lg_sl ([.ref (a 200), .int (i2 p0), .int (i2 p1), .int (i2 p2)])).length) Slot.unset).toArray = ls at hl ⊢
  have hl : lv_has ls 4 [(0, .ref (a 200)), (1, .int (i2 p0)), (2, .int (i2 p1)), (3, .int (i2 p2))] := hl
  unfold m_x12_put at h
  refine y_head (pcJ := 33) (σ := MS) (fun u H locs ls => va_P D vwCl (RW D a u) H ∧ va_S A s₀.heap H locs ∧ lv_has ls 4 [(0, .ref (a 200))] ∧ m_x12_put_J33 u = some o) (fun u => []) (fun u H locs ls hI => ?_) (fun J33 => ?_)
  · obtain ⟨hP, hS, hl, h⟩ := hI
    obtain ⟨s1, rfl⟩ : ∃ z, z = u := ⟨u, rfl⟩
    have hP : va_P D vwCl (RW D a s1) H := hP
    have hl : lv_has ls 4 [(0, .ref (a 200))] := hl
    have h : m_x12_put_J33 s1 = some o := h
    unfold m_x12_put_J33 at h
    refine lv_aload_n hx hb eX12_put_27.2.2.1 rfl (lv_at hl 0 rfl) ?_
    refine lv_iconst (v := 2) hx hb eX12_put_27.2.2.2.1 (by decide) ?_
    obtain ⟨⟨r4, s3⟩, hc2, h⟩ := bn_e h
    refine ywV (r0 := i2 r4) (As := [.int 2]) (rest := []) (C := RX12) (n := 1) (ws' := RW D a s3) ⟨hx, hb, hml, hown, ht⟩ (k_x12_refuses l D a 2 _ _ _ hc2) (zgV ml_X12_399 im_X12_refuses se_X12_refuses in_X12 co_X12_refuses) rfl rfl (by decide +kernel) ⟨Nat.le_of_ble_eq_true rfl, Nat.le_of_ble_eq_true rfl⟩ hN hK hP (hDD _) hS hA 0 RW_0 rfl rfl rfl hl.1 rfl (Nat.le_of_ble_eq_true rfl) eX12_put_27.2.2.2.2.1 ⟨Nat.le_of_ble_eq_true rfl, Nat.le_of_ble_eq_true rfl⟩ (fun H locs hP hS => ?_)
    obtain rfl := Option.some.inj h
    exact W.iret (v := (i2 r4)) hx hb hr (fun t ht hW => ⟨⟨_, (), rfl, rfl, by rw [ht]; exact hP, va_K.moved hW.alike hK, hDD _⟩, hS.F ht⟩) hS.2.2 eX12_put_27.2.2.2.2.2.1
  refine lv_aload_n hx hb eX12_mostAlike_84.2.1 rfl (lv_at hl 0 rfl) ?_
  refine lv_iload_n hx hb eX12_mostAlike_84.2.2.1 rfl (lv_at hl 1 rfl) ?_
  obtain ⟨hr5, h⟩ := rg_e h
  refine lv_i2l (v := i8 p0) hx hb eX12_mostAlike_84.2.2.2.1 (i2_l hr5) ?_
  obtain ⟨r7, hc6, h⟩ := bn_e h
  refine ycV (r0 := i2 r7) (As := [.long (i8 p0)]) (rest := []) (C := RX12) (n := 1) ⟨hx, hb, hml, hown, ht⟩ (k_x12_isVolume l D a p0 _ _ hc6) (zgV ml_X12_571 im_X12_isVolume se_X12_isVolume in_X12 co_X12_isVolume) rfl rfl (by decide +kernel) ⟨Nat.le_of_ble_eq_true rfl, Nat.le_of_ble_eq_true rfl⟩ hN hK hP hS 0 RW_0 rfl rfl rfl hl.1 rfl (Nat.le_of_ble_eq_true rfl) eX12_mostAlike_84.2.2.2.2.1 ⟨Nat.le_of_ble_eq_true rfl, Nat.le_of_ble_eq_true rfl⟩ (fun H locs hP hS => ?_)
  obtain ⟨hr8, h⟩ := rg_e h
  refine lv_if_eq (tgt := 33) hx hb eX12_mostAlike_84.2.2.2.2.2.1 (by decide) (fun c9 => ?_) (fun c9 => ?_)
  · have h := if_t ((i2_eq (x := r7) (y := 0) hr8 (by decide)).mp c9) h
    exact J33 s _ _ _ ⟨hP, hS, lv_sub hl [0] rfl, h⟩
  · have h := if_f (mt (i2_eq (x := r7) (y := 0) hr8 (by decide)).mpr c9) h
    refine lv_iload_n hx hb eX12_mostAlike_84.2.2.2.2.2.2.1 rfl (lv_at hl 2 rfl) ?_
    obtain ⟨hr10, h⟩ := rg_e h
    refine lv_i2l (v := i8 p1) hx hb eX12_mostAlike_84.2.2.2.2.2.2.2 (i2_l hr10) ?_
    refine lv_lconst (v := 0) hx hb eX12_put_11.1 (by decide) ?_
    refine lv_ldc2 (own := RX12) (v := 999) hx hb hown (ht _ cl_X12_624) eX12_put_11.2.1 ?_
    obtain ⟨r12, hc11, h⟩ := bn_e h
    refine ycS (r0 := i2 r12) (As := [.long (i8 p1), .long 0, .long 999]) (rest := []) (n := 3) ⟨hx, hb, hml, hown, ht⟩ (k_x12_isIn l D a p1 0 999 _ _ hc11) (zgT ml_X12_309 st_X12_isIn in_X12 co_X12_isIn) rfl rfl (by decide +kernel) ⟨Nat.le_of_ble_eq_true rfl, Nat.le_of_ble_eq_true rfl⟩ hN hK hP hS rfl hl.1 rfl (Nat.le_of_ble_eq_true rfl) eX12_put_11.2.2.1 ⟨Nat.le_of_ble_eq_true rfl, Nat.le_of_ble_eq_true rfl⟩ (fun H locs hP hS => ?_)
    obtain ⟨hr13, h⟩ := rg_e h
    refine lv_if_eq (tgt := 33) hx hb eX12_put_11.2.2.2.1 (by decide) (fun c14 => ?_) (fun c14 => ?_)
    · have h := if_t ((i2_eq (x := r12) (y := 0) hr13 (by decide)).mp c14) h
      exact J33 s _ _ _ ⟨hP, hS, lv_sub hl [0] rfl, h⟩
    · have h := if_f (mt (i2_eq (x := r12) (y := 0) hr13 (by decide)).mpr c14) h
      refine lv_iload_n hx hb eX12_put_11.2.2.2.2.1 rfl (lv_at hl 3 rfl) ?_
      obtain ⟨hr15, h⟩ := rg_e h
      refine lv_i2l (v := i8 p2) hx hb eX12_put_11.2.2.2.2.2.1 (i2_l hr15) ?_
      refine lv_lconst (v := 0) hx hb eX12_put_11.2.2.2.2.2.2.1 (by decide) ?_
      refine lv_ldc2 (own := RX12) (v := 999) hx hb hown (ht _ cl_X12_624) eX12_put_11.2.2.2.2.2.2.2 ?_
      obtain ⟨r17, hc16, h⟩ := bn_e h
      refine ycS (r0 := i2 r17) (As := [.long (i8 p2), .long 0, .long 999]) (rest := []) (n := 3) ⟨hx, hb, hml, hown, ht⟩ (k_x12_isIn l D a p2 0 999 _ _ hc16) (zgT ml_X12_309 st_X12_isIn in_X12 co_X12_isIn) rfl rfl (by decide +kernel) ⟨Nat.le_of_ble_eq_true rfl, Nat.le_of_ble_eq_true rfl⟩ hN hK hP hS rfl hl.1 rfl (Nat.le_of_ble_eq_true rfl) eX12_put_27.1 ⟨Nat.le_of_ble_eq_true rfl, Nat.le_of_ble_eq_true rfl⟩ (fun H locs hP hS => ?_)
      obtain ⟨hr18, h⟩ := rg_e h
      refine lv_if_ne (tgt := 39) hx hb eX12_put_27.2.1 (by decide) (fun c19 => ?_) (fun c19 => ?_)
      · have h := if_f (mt (i2_eq (x := r17) (y := 0) hr18 (by decide)).mpr c19) h
        refine lv_aload_n hx hb eX12_put_27.2.2.2.2.2.2.1 rfl (lv_at hl 0 rfl) ?_
        obtain ⟨s21, hc20, h⟩ := bn_e h
        refine ywVv (As := []) (rest := []) (C := RX12) (n := 0) (ws' := RW D a s21) ⟨hx, hb, hml, hown, ht⟩ (k_x12_clearsTouched l D a _ _ _ hc20) (zgV ml_X12_568 im_X12_clearsTouched se_X12_clearsTouched in_X12 co_X12_clearsTouched) rfl rfl (by decide +kernel) ⟨Nat.le_of_ble_eq_true rfl, Nat.le_of_ble_eq_true rfl⟩ hN hK hP (hDD _) hS hA 0 RW_0 rfl rfl rfl hl.1 rfl (Nat.le_of_ble_eq_true rfl) eX12_put_27.2.2.2.2.2.2.2 ⟨Nat.le_of_ble_eq_true rfl, Nat.le_of_ble_eq_true rfl⟩ (fun H locs hP hS => ?_)
        refine lv_aload_n hx hb eX12_put_43.1 rfl (lv_at hl 0 rfl) ?_
        refine lv_iconst (v := 2) hx hb eX12_put_43.2.1 (by decide) ?_
        refine lv_iload_n hx hb eX12_put_43.2.2.1 rfl (lv_at hl 1 rfl) ?_
        refine lv_iload_n hx hb eX12_put_43.2.2.2.1 rfl (lv_at hl 2 rfl) ?_
        refine lv_iload_n hx hb eX12_put_43.2.2.2.2.1 rfl (lv_at hl 3 rfl) ?_
        obtain ⟨⟨r24, s23⟩, hc22, h⟩ := bn_e h
        refine ywV (r0 := i2 r24) (As := [.int 2, .int (i2 p0), .int (i2 p1), .int (i2 p2)]) (rest := []) (C := RX12) (n := 4) (ws' := RW D a s23) ⟨hx, hb, hml, hown, ht⟩ (k_x12_canBe l D a 2 p0 p1 p2 _ _ _ hc22) (zgV ml_X12_656 im_X12_canBe se_X12_canBe in_X12 co_X12_canBe) rfl rfl (by decide +kernel) ⟨Nat.le_of_ble_eq_true rfl, Nat.le_of_ble_eq_true rfl⟩ hN hK hP (hDD _) hS hA 0 RW_0 rfl rfl rfl hl.1 rfl (Nat.le_of_ble_eq_true rfl) eX12_put_43.2.2.2.2.2.1 ⟨Nat.le_of_ble_eq_true rfl, Nat.le_of_ble_eq_true rfl⟩ (fun H locs hP hS => ?_)
        obtain ⟨hr25, h⟩ := rg_e h
        refine lv_if_ne (tgt := 60) hx hb eX12_put_43.2.2.2.2.2.2.1 (by decide) (fun c26 => ?_) (fun c26 => ?_)
        · have h := if_f (mt (i2_eq (x := r24) (y := 0) hr25 (by decide)).mpr c26) h
          refine lv_aload_n hx hb eX12_put_55.2.2.2.1 rfl (lv_at hl 0 rfl) ?_
          refine lv_iconst (v := 0) hx hb eX12_put_55.2.2.2.2.1 (by decide) ?_
          refine lv_iload_n hx hb eX12_put_55.2.2.2.2.2.1 rfl (lv_at hl 1 rfl) ?_
          obtain ⟨s28, hc27, h⟩ := bn_e h
          refine ywVv (As := [.int 0, .int (i2 p0)]) (rest := []) (C := RX12) (n := 2) (ws' := RW D a s28) ⟨hx, hb, hml, hown, ht⟩ (k_x12_isKept l D a 0 p0 _ _ _ hc27) (zgV ml_X12_659 im_X12_isKept se_X12_isKept in_X12 co_X12_isKept) rfl rfl (by decide +kernel) ⟨Nat.le_of_ble_eq_true rfl, Nat.le_of_ble_eq_true rfl⟩ hN hK hP (hDD _) hS hA 0 RW_0 rfl rfl rfl hl.1 rfl (Nat.le_of_ble_eq_true rfl) eX12_put_55.2.2.2.2.2.2.1 ⟨Nat.le_of_ble_eq_true rfl, Nat.le_of_ble_eq_true rfl⟩ (fun H locs hP hS => ?_)
          refine lv_aload_n hx hb eX12_put_55.2.2.2.2.2.2.2 rfl (lv_at hl 0 rfl) ?_
          obtain ⟨r30, hc29, h⟩ := bn_e h
          refine ycV (r0 := i2 r30) (As := []) (rest := []) (C := RX12) (n := 0) ⟨hx, hb, hml, hown, ht⟩ (k_x12_writtenMany l D a _ _ hc29) (zgV ml_X12_486 im_X12_writtenMany se_X12_writtenMany in_X12 co_X12_writtenMany) rfl rfl (by decide +kernel) ⟨Nat.le_of_ble_eq_true rfl, Nat.le_of_ble_eq_true rfl⟩ hN hK hP hS 0 RW_0 rfl rfl rfl hl.1 rfl (Nat.le_of_ble_eq_true rfl) eX12_put_67.1 ⟨Nat.le_of_ble_eq_true rfl, Nat.le_of_ble_eq_true rfl⟩ (fun H locs hP hS => ?_)
          obtain rfl := Option.some.inj h
          exact W.iret (v := (i2 r30)) hx hb hr (fun t ht hW => ⟨⟨_, (), rfl, rfl, by rw [ht]; exact hP, va_K.moved hW.alike hK, hDD _⟩, hS.F ht⟩) hS.2.2 eX12_put_67.2.1
        · have h := if_t ((i2_eq (x := r24) (y := 0) hr25 (by decide)).mp c26) h
          refine lv_aload_n hx hb eX12_put_43.2.2.2.2.2.2.2 rfl (lv_at hl 0 rfl) ?_
          refine lv_iconst (v := 2) hx hb eX12_put_55.1 (by decide) ?_
          obtain ⟨⟨r33, s32⟩, hc31, h⟩ := bn_e h
          refine ywV (r0 := i2 r33) (As := [.int 2]) (rest := []) (C := RX12) (n := 1) (ws' := RW D a s32) ⟨hx, hb, hml, hown, ht⟩ (k_x12_refuses l D a 2 _ _ _ hc31) (zgV ml_X12_399 im_X12_refuses se_X12_refuses in_X12 co_X12_refuses) rfl rfl (by decide +kernel) ⟨Nat.le_of_ble_eq_true rfl, Nat.le_of_ble_eq_true rfl⟩ hN hK hP (hDD _) hS hA 0 RW_0 rfl rfl rfl hl.1 rfl (Nat.le_of_ble_eq_true rfl) eX12_put_55.2.1 ⟨Nat.le_of_ble_eq_true rfl, Nat.le_of_ble_eq_true rfl⟩ (fun H locs hP hS => ?_)
          obtain rfl := Option.some.inj h
          exact W.iret (v := (i2 r33)) hx hb hr (fun t ht hW => ⟨⟨_, (), rfl, rfl, by rw [ht]; exact hP, va_K.moved hW.alike hK, hDD _⟩, hS.F ht⟩) hS.2.2 eX12_put_55.2.2.1
      · have h := if_t ((i2_eq (x := r17) (y := 0) hr18 (by decide)).mp c19) h
        exact J33 s _ _ _ ⟨hP, hS, lv_sub hl [0] rfl, h⟩
set_option maxHeartbeats 4000000 in
set_option maxRecDepth 100000 in
theorem k_x12_remove (l : Launch) (D : va_G) (a : Nat → Nat) (p0 : Int) (p1 : Int) (sz : Nat) (s : MS) (o : (Int × MS)) (h : m_x12_remove p0 p1 s = some o) : yWi l yX12_remove cX12_remove 3 (some .int) { frames := 11, cells := 0, slots := 0, locals := 660 } D sz [.ref (a 200), .int (i2 p0), .int (i2 p1)] (RW D a s) (RW D a o.2) (i2 o.1) := by
  refine Met.ofW (cc := cX12_remove) (maxL := 3) (ret := (some .int)) (by decide) rfl ?_
  intro p e s₀ m args below meth c s₁ B hml hv
  obtain ⟨rfl, ⟨hsz, hP, hK, hD0⟩, hN⟩ := hv
  have hx := B.exec
  have hb := B.bytes
  have hr := B.returns
  have hts := atoms_spec (ws := wz yX12_remove cX12_remove 3 (some .int)) B.pre
  have ht : ∀ w ∈ lw_gd, w.before _ s₀ = true := fun w h => hts w (List.mem_cons_of_mem _ h)
  have hown : s₀.vm.findClass RX12 = some m.cls := findClass_of_methodNamed B.named
  have hlocks := B.notSynchronized
  subst hsz
  have hD := hD0.self (sz := s₀.heap.size)
  generalize hAe : va_A (RW D a s) s₀.heap.size = A at hD ⊢
  have hA : ∀ q : Nat, s₀.heap.size ≤ q → A q := fun q h => by rw [← hAe]; exact Or.inr h
  have hS : va_S A s₀.heap s₀.heap [] := va_S.rf
  have hDD : ∀ t : MS, va_D A (RW D a t) := fun t => RW_D t hD
  have hl := lv_entry ([.ref (a 200), .int (i2 p0), .int (i2 p1)]) (n := 3) (Nat.le_of_ble_eq_true rfl)
  rw [lg_entry_eq]
  generalize (lg_sl ([.ref (a 200), .int (i2 p0), .int (i2 p1)]) ++ List.replicate (3 - (lg_sl ([.ref (a 200), .int (i2 p0), .int (i2 p1)])).length) Slot.unset).toArray = ls at hl ⊢
  have hl : lv_has ls 3 [(0, .ref (a 200)), (1, .int (i2 p0)), (2, .int (i2 p1))] := hl
  unfold m_x12_remove at h
  refine lv_aload_n hx hb eX12_put_67.2.2.1 rfl (lv_at hl 0 rfl) ?_
  refine lv_iload_n hx hb eX12_put_67.2.2.2.1 rfl (lv_at hl 1 rfl) ?_
  obtain ⟨hr1, h⟩ := rg_e h
  refine lv_i2l (v := i8 p0) hx hb eX12_put_67.2.2.2.2.1 (i2_l hr1) ?_
  obtain ⟨r3, hc2, h⟩ := bn_e h
  refine ycV (r0 := i2 r3) (As := [.long (i8 p0)]) (rest := []) (C := RX12) (n := 1) ⟨hx, hb, hml, hown, ht⟩ (k_x12_isVolume l D a p0 _ _ hc2) (zgV ml_X12_571 im_X12_isVolume se_X12_isVolume in_X12 co_X12_isVolume) rfl rfl (by decide +kernel) ⟨Nat.le_of_ble_eq_true rfl, Nat.le_of_ble_eq_true rfl⟩ hN hK hP hS 0 RW_0 rfl rfl rfl hl.1 rfl (Nat.le_of_ble_eq_true rfl) eX12_put_67.2.2.2.2.2.1 ⟨Nat.le_of_ble_eq_true rfl, Nat.le_of_ble_eq_true rfl⟩ (fun H locs hP hS => ?_)
  obtain ⟨hr4, h⟩ := rg_e h
  refine lv_if_ne (tgt := 15) hx hb eX12_put_67.2.2.2.2.2.2.1 (by decide) (fun c5 => ?_) (fun c5 => ?_)
  · have h := if_f (mt (i2_eq (x := r3) (y := 0) hr4 (by decide)).mpr c5) h
    refine lv_aload_n hx hb eX12_remove_10.2.2.2.1 rfl (lv_at hl 0 rfl) ?_
    obtain ⟨s7, hc6, h⟩ := bn_e h
    refine ywVv (As := []) (rest := []) (C := RX12) (n := 0) (ws' := RW D a s7) ⟨hx, hb, hml, hown, ht⟩ (k_x12_clearsTouched l D a _ _ _ hc6) (zgV ml_X12_568 im_X12_clearsTouched se_X12_clearsTouched in_X12 co_X12_clearsTouched) rfl rfl (by decide +kernel) ⟨Nat.le_of_ble_eq_true rfl, Nat.le_of_ble_eq_true rfl⟩ hN hK hP (hDD _) hS hA 0 RW_0 rfl rfl rfl hl.1 rfl (Nat.le_of_ble_eq_true rfl) eX12_remove_10.2.2.2.2.1 ⟨Nat.le_of_ble_eq_true rfl, Nat.le_of_ble_eq_true rfl⟩ (fun H locs hP hS => ?_)
    refine lv_aload_n hx hb eX12_remove_10.2.2.2.2.2.1 rfl (lv_at hl 0 rfl) ?_
    refine lv_iconst (v := 3) hx hb eX12_remove_10.2.2.2.2.2.2.1 (by decide) ?_
    refine lv_iload_n hx hb eX12_remove_10.2.2.2.2.2.2.2 rfl (lv_at hl 1 rfl) ?_
    refine lv_iload_n hx hb eX12_remove_22.1 rfl (lv_at hl 2 rfl) ?_
    refine lv_iconst (v := 0) hx hb eX12_remove_22.2.1 (by decide) ?_
    obtain ⟨⟨r10, s9⟩, hc8, h⟩ := bn_e h
    refine ywV (r0 := i2 r10) (As := [.int 3, .int (i2 p0), .int (i2 p1), .int 0]) (rest := []) (C := RX12) (n := 4) (ws' := RW D a s9) ⟨hx, hb, hml, hown, ht⟩ (k_x12_canBe l D a 3 p0 p1 0 _ _ _ hc8) (zgV ml_X12_656 im_X12_canBe se_X12_canBe in_X12 co_X12_canBe) rfl rfl (by decide +kernel) ⟨Nat.le_of_ble_eq_true rfl, Nat.le_of_ble_eq_true rfl⟩ hN hK hP (hDD _) hS hA 0 RW_0 rfl rfl rfl hl.1 rfl (Nat.le_of_ble_eq_true rfl) eX12_remove_22.2.2.1 ⟨Nat.le_of_ble_eq_true rfl, Nat.le_of_ble_eq_true rfl⟩ (fun H locs hP hS => ?_)
    obtain ⟨hr11, h⟩ := rg_e h
    refine lv_if_ne (tgt := 36) hx hb eX12_remove_22.2.2.2.1 (by decide) (fun c12 => ?_) (fun c12 => ?_)
    · have h := if_f (mt (i2_eq (x := r10) (y := 0) hr11 (by decide)).mpr c12) h
      refine lv_aload_n hx hb eX12_remove_36.1 rfl (lv_at hl 0 rfl) ?_
      refine lv_iconst (v := 1) hx hb eX12_remove_36.2.1 (by decide) ?_
      refine lv_iload_n hx hb eX12_remove_36.2.2.1 rfl (lv_at hl 1 rfl) ?_
      obtain ⟨s14, hc13, h⟩ := bn_e h
      refine ywVv (As := [.int 1, .int (i2 p0)]) (rest := []) (C := RX12) (n := 2) (ws' := RW D a s14) ⟨hx, hb, hml, hown, ht⟩ (k_x12_isKept l D a 1 p0 _ _ _ hc13) (zgV ml_X12_659 im_X12_isKept se_X12_isKept in_X12 co_X12_isKept) rfl rfl (by decide +kernel) ⟨Nat.le_of_ble_eq_true rfl, Nat.le_of_ble_eq_true rfl⟩ hN hK hP (hDD _) hS hA 0 RW_0 rfl rfl rfl hl.1 rfl (Nat.le_of_ble_eq_true rfl) eX12_remove_36.2.2.2.1 ⟨Nat.le_of_ble_eq_true rfl, Nat.le_of_ble_eq_true rfl⟩ (fun H locs hP hS => ?_)
      refine lv_aload_n hx hb eX12_remove_36.2.2.2.2.1 rfl (lv_at hl 0 rfl) ?_
      obtain ⟨r16, hc15, h⟩ := bn_e h
      refine ycV (r0 := i2 r16) (As := []) (rest := []) (C := RX12) (n := 0) ⟨hx, hb, hml, hown, ht⟩ (k_x12_writtenMany l D a _ _ hc15) (zgV ml_X12_486 im_X12_writtenMany se_X12_writtenMany in_X12 co_X12_writtenMany) rfl rfl (by decide +kernel) ⟨Nat.le_of_ble_eq_true rfl, Nat.le_of_ble_eq_true rfl⟩ hN hK hP hS 0 RW_0 rfl rfl rfl hl.1 rfl (Nat.le_of_ble_eq_true rfl) eX12_remove_36.2.2.2.2.2.1 ⟨Nat.le_of_ble_eq_true rfl, Nat.le_of_ble_eq_true rfl⟩ (fun H locs hP hS => ?_)
      obtain rfl := Option.some.inj h
      exact W.iret (v := (i2 r16)) hx hb hr (fun t ht hW => ⟨⟨_, (), rfl, rfl, by rw [ht]; exact hP, va_K.moved hW.alike hK, hDD _⟩, hS.F ht⟩) hS.2.2 eX12_remove_36.2.2.2.2.2.2.1
    · have h := if_t ((i2_eq (x := r10) (y := 0) hr11 (by decide)).mp c12) h
      refine lv_aload_n hx hb eX12_remove_22.2.2.2.2.1 rfl (lv_at hl 0 rfl) ?_
      refine lv_iconst (v := 2) hx hb eX12_remove_22.2.2.2.2.2.1 (by decide) ?_
      obtain ⟨⟨r19, s18⟩, hc17, h⟩ := bn_e h
      refine ywV (r0 := i2 r19) (As := [.int 2]) (rest := []) (C := RX12) (n := 1) (ws' := RW D a s18) ⟨hx, hb, hml, hown, ht⟩ (k_x12_refuses l D a 2 _ _ _ hc17) (zgV ml_X12_399 im_X12_refuses se_X12_refuses in_X12 co_X12_refuses) rfl rfl (by decide +kernel) ⟨Nat.le_of_ble_eq_true rfl, Nat.le_of_ble_eq_true rfl⟩ hN hK hP (hDD _) hS hA 0 RW_0 rfl rfl rfl hl.1 rfl (Nat.le_of_ble_eq_true rfl) eX12_remove_22.2.2.2.2.2.2.1 ⟨Nat.le_of_ble_eq_true rfl, Nat.le_of_ble_eq_true rfl⟩ (fun H locs hP hS => ?_)
      obtain rfl := Option.some.inj h
      exact W.iret (v := (i2 r19)) hx hb hr (fun t ht hW => ⟨⟨_, (), rfl, rfl, by rw [ht]; exact hP, va_K.moved hW.alike hK, hDD _⟩, hS.F ht⟩) hS.2.2 eX12_remove_22.2.2.2.2.2.2.2
  · have h := if_t ((i2_eq (x := r3) (y := 0) hr4 (by decide)).mp c5) h
    refine lv_aload_n hx hb eX12_put_67.2.2.2.2.2.2.2 rfl (lv_at hl 0 rfl) ?_
    refine lv_iconst (v := 2) hx hb eX12_remove_10.1 (by decide) ?_
    obtain ⟨⟨r22, s21⟩, hc20, h⟩ := bn_e h
    refine ywV (r0 := i2 r22) (As := [.int 2]) (rest := []) (C := RX12) (n := 1) (ws' := RW D a s21) ⟨hx, hb, hml, hown, ht⟩ (k_x12_refuses l D a 2 _ _ _ hc20) (zgV ml_X12_399 im_X12_refuses se_X12_refuses in_X12 co_X12_refuses) rfl rfl (by decide +kernel) ⟨Nat.le_of_ble_eq_true rfl, Nat.le_of_ble_eq_true rfl⟩ hN hK hP (hDD _) hS hA 0 RW_0 rfl rfl rfl hl.1 rfl (Nat.le_of_ble_eq_true rfl) eX12_remove_10.2.1 ⟨Nat.le_of_ble_eq_true rfl, Nat.le_of_ble_eq_true rfl⟩ (fun H locs hP hS => ?_)
    obtain rfl := Option.some.inj h
    exact W.iret (v := (i2 r22)) hx hb hr (fun t ht hW => ⟨⟨_, (), rfl, rfl, by rw [ht]; exact hP, va_K.moved hW.alike hK, hDD _⟩, hS.F ht⟩) hS.2.2 eX12_remove_10.2.2.1
set_option maxHeartbeats 4000000 in
set_option maxRecDepth 100000 in
theorem k_x12_freeNumber (l : Launch) (D : va_G) (a : Nat → Nat) (s : MS) (o : Int) (h : m_x12_freeNumber s = some o) : yRi l yX12_freeNumber cX12_freeNumber 2 (some .int) { frames := 0, cells := 0, slots := 0, locals := 0 } D [.ref (a 200)] (RW D a s) (i2 o) := by
  refine Met.ofW (cc := cX12_freeNumber) (maxL := 2) (ret := (some .int)) (by decide) rfl ?_
  intro p e s₀ m args below meth c s₁ B hml hv
  obtain ⟨rfl, ⟨hP, hK⟩, hN⟩ := hv
  have hx := B.exec
  have hb := B.bytes
  have hr := B.returns
  have hts := atoms_spec (ws := wz yX12_freeNumber cX12_freeNumber 2 (some .int)) B.pre
  have ht : ∀ w ∈ lw_gd, w.before _ s₀ = true := fun w h => hts w (List.mem_cons_of_mem _ h)
  have hown : s₀.vm.findClass RX12 = some m.cls := findClass_of_methodNamed B.named
  have hlocks := B.notSynchronized
  have hS : va_S (fun _ => False) s₀.heap s₀.heap [] := va_S.rf
  have hl := lv_entry ([.ref (a 200)]) (n := 2) (Nat.le_of_ble_eq_true rfl)
  rw [lg_entry_eq]
  generalize (lg_sl ([.ref (a 200)]) ++ List.replicate (2 - (lg_sl ([.ref (a 200)])).length) Slot.unset).toArray = ls at hl ⊢
  have hl : lv_has ls 2 [(0, .ref (a 200))] := hl
  unfold m_x12_freeNumber at h
  refine y_head (pcJ := 26) (σ := Int) (fun u H locs ls => va_P D vwCl (RW D a s) H ∧ va_S (fun _ => False) s₀.heap H locs ∧ lv_has ls 2 [(1, .int (i2 u))] ∧ m_x12_freeNumber_J26 s u = some o) (fun u => []) (fun u H locs ls hI => ?_) (fun J26 => ?_)
  · obtain ⟨hP, hS, hl, h⟩ := hI
    obtain ⟨x1, rfl⟩ : ∃ z, z = u := ⟨u, rfl⟩
    have hP : va_P D vwCl (RW D a s) H := hP
    have hl : lv_has ls 2 [(1, .int (i2 x1))] := hl
    have h : m_x12_freeNumber_J26 s x1 = some o := h
    unfold m_x12_freeNumber_J26 at h
    refine lv_iload_n hx hb eX12_freeNumber_20.2.2.1 rfl (lv_at hl 0 rfl) ?_
    obtain rfl := Option.some.inj h
    exact W.iret (v := (i2 x1)) hx hb hr (fun t ht hW => ⟨⟨_, (), rfl, rfl, trivial⟩, hS.F ht⟩) hS.2.2 eX12_freeNumber_20.2.2.2.1
  refine y_loop (pcJ := 2) (σ := Int) (fun n u H locs ls => va_P D vwCl (RW D a s) H ∧ va_S (fun _ => False) s₀.heap H locs ∧ lv_has ls 2 [(0, .ref (a 200)), (1, .int (i2 u))] ∧ m_x12_freeNumber_L2 s n u = some o) (fun u => []) (fun u H locs ls hI => by obtain ⟨_, _, _, h⟩ := hI; cases h) (fun n2 ih2 u H locs ls hI => ?_) (fun J2 => ?_)
  · obtain ⟨hP, hS, hl, h⟩ := hI
    obtain ⟨x2, rfl⟩ : ∃ z, z = u := ⟨u, rfl⟩
    have hP : va_P D vwCl (RW D a s) H := hP
    have hl : lv_has ls 2 [(0, .ref (a 200)), (1, .int (i2 x2))] := hl
    have h : m_x12_freeNumber_b2 s (m_x12_freeNumber_L2 s n2) x2 = some o := h
    unfold m_x12_freeNumber_b2 at h
    refine lv_iload_n hx hb eX12_drop_39.2.2.2.2.2.2.2 rfl (lv_at hl 1 rfl) ?_
    refine lv_bipush (v := 8) hx hb eX12_freeNumber_3.1 (by decide) ?_
    obtain ⟨hr3, h⟩ := rg_e h
    refine lv_icmp_ge (tgt := 26) hx hb eX12_freeNumber_3.2.1 (by decide) (fun c4 => ?_) (fun c4 => ?_)
    · have h := if_t ((i2_le (x := 8) (y := x2) (by decide) hr3).mp c4) h
      exact J26 x2 _ _ _ ⟨hP, hS, lv_sub hl [1] rfl, h⟩
    · have h := if_f (mt (i2_le (x := 8) (y := x2) (by decide) hr3).mpr c4) h
      refine lv_aload_n hx hb eX12_freeNumber_3.2.2.1 rfl (lv_at hl 0 rfl) ?_
      refine va_get (D := D) (ci := 12) (v := .ref (a 49)) (C := RX12) (T := TX12) (N := 116) hx hb ht inX12 hown hK hP 0 RW_0 rfl 49 (by decide) (ht (.fieldLink RX12 121 "CloneVolumesModel" "now" "[I") fl_X12_121) (fun _ h9 => h9) mF_49 eX12_freeNumber_3.2.2.2.1 ?_
      refine lv_iload_n hx hb eX12_freeNumber_3.2.2.2.2.1 rfl (lv_at hl 1 rfl) ?_
      obtain ⟨y5, ey5, iy5, h⟩ := rdI_e h
      refine ya_iald (i := x2) hx hb hK hP 36 0 RW_36 rfl (by decide) ey5 iy5 eX12_freeNumber_3.2.2.2.2.2.1 ?_
      refine lv_sipush (v := 255) hx hb eX12_freeNumber_3.2.2.2.2.2.2.1 (by decide) ?_
      obtain ⟨hr6, h⟩ := rg_e h
      refine lv_icmp_eq (tgt := 26) hx hb eX12_freeNumber_3.2.2.2.2.2.2.2 (by decide) (fun c7 => ?_) (fun c7 => ?_)
      · have h := if_t ((i2_eq (x := y5) (y := 255) hr6 (by decide)).mp c7) h
        exact J26 x2 _ _ _ ⟨hP, hS, lv_sub hl [1] rfl, h⟩
      · have h := if_f (mt (i2_eq (x := y5) (y := 255) hr6 (by decide)).mpr c7) h
        refine lv_iinc (v := i2 (x2 + 1)) (lv' := [(1, .int (i2 (x2 + 1))), (0, .ref (a 200))]) hx hb eX12_freeNumber_20.1 hl (k := 1) rfl (i2_add x2 1) (by decide) rfl (fun ls hl => ?_)
        refine lv_goto (tgt := 2) hx hb eX12_freeNumber_20.2.1 (by decide) ?_
        exact ih2 (x2 + 1) _ _ _ ⟨hP, hS, lv_sub hl [1, 0] rfl, h⟩
  refine lv_iconst (v := 0) hx hb eX12_drop_39.2.2.2.2.2.1 (by decide) ?_
  refine lv_istore_n (lv' := [(1, .int 0), (0, .ref (a 200))]) hx hb eX12_drop_39.2.2.2.2.2.2.1 rfl hl (by decide) rfl (fun ls hl => ?_)
  exact J2 FU 0 _ _ _ ⟨hP, hS, lv_sub hl [1, 0] rfl, h⟩
set_option maxHeartbeats 4000000 in
set_option maxRecDepth 100000 in
theorem k_x12_copy (l : Launch) (D : va_G) (a : Nat → Nat) (p0 : Int) (sz : Nat) (s : MS) (o : (Int × MS)) (h : m_x12_copy p0 s = some o) : yWi l yX12_copy cX12_copy 3 (some .int) { frames := 8, cells := 0, slots := 0, locals := 480 } D sz [.ref (a 200), .int (i2 p0)] (RW D a s) (RW D a o.2) (i2 o.1) := by
  refine Met.ofW (cc := cX12_copy) (maxL := 3) (ret := (some .int)) (by decide) rfl ?_
  intro p e s₀ m args below meth c s₁ B hml hv
  obtain ⟨rfl, ⟨hsz, hP, hK, hD0⟩, hN⟩ := hv
  have hx := B.exec
  have hb := B.bytes
  have hr := B.returns
  have hts := atoms_spec (ws := wz yX12_copy cX12_copy 3 (some .int)) B.pre
  have ht : ∀ w ∈ lw_gd, w.before _ s₀ = true := fun w h => hts w (List.mem_cons_of_mem _ h)
  have hown : s₀.vm.findClass RX12 = some m.cls := findClass_of_methodNamed B.named
  have hlocks := B.notSynchronized
  subst hsz
  have hD := hD0.self (sz := s₀.heap.size)
  generalize hAe : va_A (RW D a s) s₀.heap.size = A at hD ⊢
  have hA : ∀ q : Nat, s₀.heap.size ≤ q → A q := fun q h => by rw [← hAe]; exact Or.inr h
  have hS : va_S A s₀.heap s₀.heap [] := va_S.rf
  have hDD : ∀ t : MS, va_D A (RW D a t) := fun t => RW_D t hD
  have hl := lv_entry ([.ref (a 200), .int (i2 p0)]) (n := 3) (Nat.le_of_ble_eq_true rfl)
  rw [lg_entry_eq]
  generalize (lg_sl ([.ref (a 200), .int (i2 p0)]) ++ List.replicate (3 - (lg_sl ([.ref (a 200), .int (i2 p0)])).length) Slot.unset).toArray = ls at hl ⊢
  have hl : lv_has ls 3 [(0, .ref (a 200)), (1, .int (i2 p0))] := hl
  unfold m_x12_copy at h
  refine y_head (pcJ := 20) (σ := MS) (fun u H locs ls => va_P D vwCl (RW D a u) H ∧ va_S A s₀.heap H locs ∧ lv_has ls 3 [(0, .ref (a 200))] ∧ m_x12_copy_J20 u = some o) (fun u => []) (fun u H locs ls hI => ?_) (fun J20 => ?_)
  · obtain ⟨hP, hS, hl, h⟩ := hI
    obtain ⟨s1, rfl⟩ : ∃ z, z = u := ⟨u, rfl⟩
    have hP : va_P D vwCl (RW D a s1) H := hP
    have hl : lv_has ls 3 [(0, .ref (a 200))] := hl
    have h : m_x12_copy_J20 s1 = some o := h
    unfold m_x12_copy_J20 at h
    refine lv_aload_n hx hb eX12_copy_8.2.2.2.2.2.1 rfl (lv_at hl 0 rfl) ?_
    refine lv_iconst (v := 2) hx hb eX12_copy_8.2.2.2.2.2.2.1 (by decide) ?_
    obtain ⟨⟨r4, s3⟩, hc2, h⟩ := bn_e h
    refine ywV (r0 := i2 r4) (As := [.int 2]) (rest := []) (C := RX12) (n := 1) (ws' := RW D a s3) ⟨hx, hb, hml, hown, ht⟩ (k_x12_refuses l D a 2 _ _ _ hc2) (zgV ml_X12_399 im_X12_refuses se_X12_refuses in_X12 co_X12_refuses) rfl rfl (by decide +kernel) ⟨Nat.le_of_ble_eq_true rfl, Nat.le_of_ble_eq_true rfl⟩ hN hK hP (hDD _) hS hA 0 RW_0 rfl rfl rfl hl.1 rfl (Nat.le_of_ble_eq_true rfl) eX12_copy_8.2.2.2.2.2.2.2 ⟨Nat.le_of_ble_eq_true rfl, Nat.le_of_ble_eq_true rfl⟩ (fun H locs hP hS => ?_)
    obtain rfl := Option.some.inj h
    exact W.iret (v := (i2 r4)) hx hb hr (fun t ht hW => ⟨⟨_, (), rfl, rfl, by rw [ht]; exact hP, va_K.moved hW.alike hK, hDD _⟩, hS.F ht⟩) hS.2.2 eX12_copy_25.1
  refine lv_aload_n hx hb eX12_checkpoint_38.2.2.1 rfl (lv_at hl 0 rfl) ?_
  obtain ⟨r6, hc5, h⟩ := bn_e h
  refine ycV (r0 := i2 r6) (As := []) (rest := []) (C := RX12) (n := 0) ⟨hx, hb, hml, hown, ht⟩ (k_x12_freeNumber l D a _ _ hc5) (zgV ml_X12_665 im_X12_freeNumber se_X12_freeNumber in_X12 co_X12_freeNumber) rfl rfl (by decide +kernel) ⟨Nat.le_of_ble_eq_true rfl, Nat.le_of_ble_eq_true rfl⟩ hN hK hP hS 0 RW_0 rfl rfl rfl hl.1 rfl (Nat.le_of_ble_eq_true rfl) eX12_checkpoint_38.2.2.2.1 ⟨Nat.le_of_ble_eq_true rfl, Nat.le_of_ble_eq_true rfl⟩ (fun H locs hP hS => ?_)
  refine lv_istore_n (lv' := [(2, .int (i2 r6)), (0, .ref (a 200)), (1, .int (i2 p0))]) hx hb eX12_checkpoint_38.2.2.2.2.1 rfl hl (by decide) rfl (fun ls hl => ?_)
  refine lv_aload_n hx hb eX12_checkpoint_38.2.2.2.2.2.1 rfl (lv_at hl 1 rfl) ?_
  refine lv_iload_n hx hb eX12_checkpoint_38.2.2.2.2.2.2.1 rfl (lv_at hl 2 rfl) ?_
  obtain ⟨hr7, h⟩ := rg_e h
  refine lv_i2l (v := i8 p0) hx hb eX12_checkpoint_38.2.2.2.2.2.2.2 (i2_l hr7) ?_
  obtain ⟨r9, hc8, h⟩ := bn_e h
  refine ycV (r0 := i2 r9) (As := [.long (i8 p0)]) (rest := []) (C := RX12) (n := 1) ⟨hx, hb, hml, hown, ht⟩ (k_x12_isVolume l D a p0 _ _ hc8) (zgV ml_X12_571 im_X12_isVolume se_X12_isVolume in_X12 co_X12_isVolume) rfl rfl (by decide +kernel) ⟨Nat.le_of_ble_eq_true rfl, Nat.le_of_ble_eq_true rfl⟩ hN hK hP hS 0 RW_0 rfl rfl rfl hl.1 rfl (Nat.le_of_ble_eq_true rfl) eX12_copy_8.1 ⟨Nat.le_of_ble_eq_true rfl, Nat.le_of_ble_eq_true rfl⟩ (fun H locs hP hS => ?_)
  obtain ⟨hr10, h⟩ := rg_e h
  refine lv_if_eq (tgt := 20) hx hb eX12_copy_8.2.1 (by decide) (fun c11 => ?_) (fun c11 => ?_)
  · have h := if_t ((i2_eq (x := r9) (y := 0) hr10 (by decide)).mp c11) h
    exact J20 s _ _ _ ⟨hP, hS, lv_sub hl [1] rfl, h⟩
  · have h := if_f (mt (i2_eq (x := r9) (y := 0) hr10 (by decide)).mpr c11) h
    refine lv_iload_n hx hb eX12_copy_8.2.2.1 rfl (lv_at hl 0 rfl) ?_
    refine lv_bipush (v := 8) hx hb eX12_copy_8.2.2.2.1 (by decide) ?_
    obtain ⟨hr12, h⟩ := rg_e h
    refine lv_icmp_ne (tgt := 26) hx hb eX12_copy_8.2.2.2.2.1 (by decide) (fun c13 => ?_) (fun c13 => ?_)
    · have h := if_f (mt (i2_eq (x := r6) (y := 8) hr12 (by decide)).mpr c13) h
      refine lv_aload_n hx hb eX12_copy_25.2.1 rfl (lv_at hl 1 rfl) ?_
      obtain ⟨s15, hc14, h⟩ := bn_e h
      refine ywVv (As := []) (rest := []) (C := RX12) (n := 0) (ws' := RW D a s15) ⟨hx, hb, hml, hown, ht⟩ (k_x12_keeps l D a _ _ _ hc14) (zgV ml_X12_662 im_X12_keeps se_X12_keeps in_X12 co_X12_keeps) rfl rfl (by decide +kernel) ⟨Nat.le_of_ble_eq_true rfl, Nat.le_of_ble_eq_true rfl⟩ hN hK hP (hDD _) hS hA 0 RW_0 rfl rfl rfl hl.1 rfl (Nat.le_of_ble_eq_true rfl) eX12_copy_25.2.2.1 ⟨Nat.le_of_ble_eq_true rfl, Nat.le_of_ble_eq_true rfl⟩ (fun H locs hP hS => ?_)
      refine lv_aload_n hx hb eX12_copy_25.2.2.2.1 rfl (lv_at hl 1 rfl) ?_
      obtain ⟨s17, hc16, h⟩ := bn_e h
      refine ywVv (As := []) (rest := []) (C := RX12) (n := 0) (ws' := RW D a s17) ⟨hx, hb, hml, hown, ht⟩ (k_x12_clearsTouched l D a _ _ _ hc16) (zgV ml_X12_568 im_X12_clearsTouched se_X12_clearsTouched in_X12 co_X12_clearsTouched) rfl rfl (by decide +kernel) ⟨Nat.le_of_ble_eq_true rfl, Nat.le_of_ble_eq_true rfl⟩ hN hK hP (hDD _) hS hA 0 RW_0 rfl rfl rfl hl.1 rfl (Nat.le_of_ble_eq_true rfl) eX12_copy_25.2.2.2.2.1 ⟨Nat.le_of_ble_eq_true rfl, Nat.le_of_ble_eq_true rfl⟩ (fun H locs hP hS => ?_)
      refine lv_aload_n hx hb eX12_copy_25.2.2.2.2.2.1 rfl (lv_at hl 1 rfl) ?_
      refine lv_iload_n hx hb eX12_copy_25.2.2.2.2.2.2.1 rfl (lv_at hl 2 rfl) ?_
      refine lv_iload_n hx hb eX12_copy_25.2.2.2.2.2.2.2 rfl (lv_at hl 0 rfl) ?_
      obtain ⟨s19, hc18, h⟩ := bn_e h
      refine ywVv (As := [.int (i2 p0), .int (i2 r6)]) (rest := []) (C := RX12) (n := 2) (ws' := RW D a s19) ⟨hx, hb, hml, hown, ht⟩ (k_x12_copies l D a p0 r6 _ _ _ hc18) (zgV ml_X12_422 im_X12_copies se_X12_copies in_X12 co_X12_copies) rfl rfl (by decide +kernel) ⟨Nat.le_of_ble_eq_true rfl, Nat.le_of_ble_eq_true rfl⟩ hN hK hP (hDD _) hS hA 0 RW_0 rfl rfl rfl hl.1 rfl (Nat.le_of_ble_eq_true rfl) eX12_copy_37.1 ⟨Nat.le_of_ble_eq_true rfl, Nat.le_of_ble_eq_true rfl⟩ (fun H locs hP hS => ?_)
      refine lv_aload_n hx hb eX12_copy_37.2.1 rfl (lv_at hl 1 rfl) ?_
      refine lv_iconst (v := 2) hx hb eX12_copy_37.2.2.1 (by decide) ?_
      refine lv_iload_n hx hb eX12_copy_37.2.2.2.1 rfl (lv_at hl 0 rfl) ?_
      obtain ⟨s21, hc20, h⟩ := bn_e h
      refine ywVv (As := [.int 2, .int (i2 r6)]) (rest := []) (C := RX12) (n := 2) (ws' := RW D a s21) ⟨hx, hb, hml, hown, ht⟩ (k_x12_isKept l D a 2 r6 _ _ _ hc20) (zgV ml_X12_659 im_X12_isKept se_X12_isKept in_X12 co_X12_isKept) rfl rfl (by decide +kernel) ⟨Nat.le_of_ble_eq_true rfl, Nat.le_of_ble_eq_true rfl⟩ hN hK hP (hDD _) hS hA 0 RW_0 rfl rfl rfl hl.1 rfl (Nat.le_of_ble_eq_true rfl) eX12_copy_37.2.2.2.2.1 ⟨Nat.le_of_ble_eq_true rfl, Nat.le_of_ble_eq_true rfl⟩ (fun H locs hP hS => ?_)
      refine lv_iload_n hx hb eX12_copy_37.2.2.2.2.2.1 rfl (lv_at hl 0 rfl) ?_
      obtain rfl := Option.some.inj h
      exact W.iret (v := (i2 r6)) hx hb hr (fun t ht hW => ⟨⟨_, (), rfl, rfl, by rw [ht]; exact hP, va_K.moved hW.alike hK, hDD _⟩, hS.F ht⟩) hS.2.2 eX12_copy_37.2.2.2.2.2.2.1
    · have h := if_t ((i2_eq (x := r6) (y := 8) hr12 (by decide)).mp c13) h
      exact J20 s _ _ _ ⟨hP, hS, lv_sub hl [1] rfl, h⟩
set_option maxHeartbeats 4000000 in
set_option maxRecDepth 100000 in
theorem k_x12_drop (l : Launch) (D : va_G) (a : Nat → Nat) (p0 : Int) (sz : Nat) (s : MS) (o : (Int × MS)) (h : m_x12_drop p0 s = some o) : yWi l yX12_drop cX12_drop 3 (some .int) { frames := 8, cells := 0, slots := 0, locals := 480 } D sz [.ref (a 200), .int (i2 p0)] (RW D a s) (RW D a o.2) (i2 o.1) := by
  refine Met.ofW (cc := cX12_drop) (maxL := 3) (ret := (some .int)) (by decide) rfl ?_
  intro p e s₀ m args below meth c s₁ B hml hv
  obtain ⟨rfl, ⟨hsz, hP, hK, hD0⟩, hN⟩ := hv
  have hx := B.exec
  have hb := B.bytes
  have hr := B.returns
  have hts := atoms_spec (ws := wz yX12_drop cX12_drop 3 (some .int)) B.pre
  have ht : ∀ w ∈ lw_gd, w.before _ s₀ = true := fun w h => hts w (List.mem_cons_of_mem _ h)
  have hown : s₀.vm.findClass RX12 = some m.cls := findClass_of_methodNamed B.named
  have hlocks := B.notSynchronized
  subst hsz
  have hD := hD0.self (sz := s₀.heap.size)
  generalize hAe : va_A (RW D a s) s₀.heap.size = A at hD ⊢
  have hA : ∀ q : Nat, s₀.heap.size ≤ q → A q := fun q h => by rw [← hAe]; exact Or.inr h
  have hS : va_S A s₀.heap s₀.heap [] := va_S.rf
  have hDD : ∀ t : MS, va_D A (RW D a t) := fun t => RW_D t hD
  have hl := lv_entry ([.ref (a 200), .int (i2 p0)]) (n := 3) (Nat.le_of_ble_eq_true rfl)
  rw [lg_entry_eq]
  generalize (lg_sl ([.ref (a 200), .int (i2 p0)]) ++ List.replicate (3 - (lg_sl ([.ref (a 200), .int (i2 p0)])).length) Slot.unset).toArray = ls at hl ⊢
  have hl : lv_has ls 3 [(0, .ref (a 200)), (1, .int (i2 p0))] := hl
  unfold m_x12_drop at h
  refine lv_aload_n hx hb eX12_crash_63.2.1 rfl (lv_at hl 0 rfl) ?_
  refine lv_iload_n hx hb eX12_crash_63.2.2.1 rfl (lv_at hl 1 rfl) ?_
  obtain ⟨hr1, h⟩ := rg_e h
  refine lv_i2l (v := i8 p0) hx hb eX12_crash_63.2.2.2.1 (i2_l hr1) ?_
  obtain ⟨r3, hc2, h⟩ := bn_e h
  refine ycV (r0 := i2 r3) (As := [.long (i8 p0)]) (rest := []) (C := RX12) (n := 1) ⟨hx, hb, hml, hown, ht⟩ (k_x12_isVolume l D a p0 _ _ hc2) (zgV ml_X12_571 im_X12_isVolume se_X12_isVolume in_X12 co_X12_isVolume) rfl rfl (by decide +kernel) ⟨Nat.le_of_ble_eq_true rfl, Nat.le_of_ble_eq_true rfl⟩ hN hK hP hS 0 RW_0 rfl rfl rfl hl.1 rfl (Nat.le_of_ble_eq_true rfl) eX12_crash_63.2.2.2.2.1 ⟨Nat.le_of_ble_eq_true rfl, Nat.le_of_ble_eq_true rfl⟩ (fun H locs hP hS => ?_)
  obtain ⟨hr4, h⟩ := rg_e h
  refine lv_if_ne (tgt := 15) hx hb eX12_crash_63.2.2.2.2.2.1 (by decide) (fun c5 => ?_) (fun c5 => ?_)
  · have h := if_f (mt (i2_eq (x := r3) (y := 0) hr4 (by decide)).mpr c5) h
    refine lv_aload_n hx hb eX12_drop_11.2.2.1 rfl (lv_at hl 0 rfl) ?_
    obtain ⟨s7, hc6, h⟩ := bn_e h
    refine ywVv (As := []) (rest := []) (C := RX12) (n := 0) (ws' := RW D a s7) ⟨hx, hb, hml, hown, ht⟩ (k_x12_keeps l D a _ _ _ hc6) (zgV ml_X12_662 im_X12_keeps se_X12_keeps in_X12 co_X12_keeps) rfl rfl (by decide +kernel) ⟨Nat.le_of_ble_eq_true rfl, Nat.le_of_ble_eq_true rfl⟩ hN hK hP (hDD _) hS hA 0 RW_0 rfl rfl rfl hl.1 rfl (Nat.le_of_ble_eq_true rfl) eX12_drop_11.2.2.2.1 ⟨Nat.le_of_ble_eq_true rfl, Nat.le_of_ble_eq_true rfl⟩ (fun H locs hP hS => ?_)
    refine lv_aload_n hx hb eX12_drop_11.2.2.2.2.1 rfl (lv_at hl 0 rfl) ?_
    obtain ⟨s9, hc8, h⟩ := bn_e h
    refine ywVv (As := []) (rest := []) (C := RX12) (n := 0) (ws' := RW D a s9) ⟨hx, hb, hml, hown, ht⟩ (k_x12_clearsTouched l D a _ _ _ hc8) (zgV ml_X12_568 im_X12_clearsTouched se_X12_clearsTouched in_X12 co_X12_clearsTouched) rfl rfl (by decide +kernel) ⟨Nat.le_of_ble_eq_true rfl, Nat.le_of_ble_eq_true rfl⟩ hN hK hP (hDD _) hS hA 0 RW_0 rfl rfl rfl hl.1 rfl (Nat.le_of_ble_eq_true rfl) eX12_drop_11.2.2.2.2.2.1 ⟨Nat.le_of_ble_eq_true rfl, Nat.le_of_ble_eq_true rfl⟩ (fun H locs hP hS => ?_)
    refine lv_aload_n hx hb eX12_drop_11.2.2.2.2.2.2.1 rfl (lv_at hl 0 rfl) ?_
    obtain ⟨r11, hc10, h⟩ := bn_e h
    refine ycV (r0 := i2 r11) (As := []) (rest := []) (C := RX12) (n := 0) ⟨hx, hb, hml, hown, ht⟩ (k_x12_usedMany l D a _ _ hc10) (zgV ml_X12_578 im_X12_usedMany se_X12_usedMany in_X12 co_X12_usedMany) rfl rfl (by decide +kernel) ⟨Nat.le_of_ble_eq_true rfl, Nat.le_of_ble_eq_true rfl⟩ hN hK hP hS 0 RW_0 rfl rfl rfl hl.1 rfl (Nat.le_of_ble_eq_true rfl) eX12_drop_11.2.2.2.2.2.2.2 ⟨Nat.le_of_ble_eq_true rfl, Nat.le_of_ble_eq_true rfl⟩ (fun H locs hP hS => ?_)
    refine lv_istore_n (lv' := [(2, .int (i2 r11)), (0, .ref (a 200)), (1, .int (i2 p0))]) hx hb eX12_drop_27.1 rfl hl (by decide) rfl (fun ls hl => ?_)
    refine lv_aload_n hx hb eX12_drop_27.2.1 rfl (lv_at hl 1 rfl) ?_
    refine lv_iload_n hx hb eX12_drop_27.2.2.1 rfl (lv_at hl 2 rfl) ?_
    obtain ⟨s13, hc12, h⟩ := bn_e h
    refine ywVv (As := [.int (i2 p0)]) (rest := []) (C := RX12) (n := 1) (ws' := RW D a s13) ⟨hx, hb, hml, hown, ht⟩ (k_x12_drops l D a p0 _ _ _ hc12) (zgV ml_X12_604 im_X12_drops se_X12_drops in_X12 co_X12_drops) rfl rfl (by decide +kernel) ⟨Nat.le_of_ble_eq_true rfl, Nat.le_of_ble_eq_true rfl⟩ hN hK hP (hDD _) hS hA 0 RW_0 rfl rfl rfl hl.1 rfl (Nat.le_of_ble_eq_true rfl) eX12_drop_27.2.2.2.1 ⟨Nat.le_of_ble_eq_true rfl, Nat.le_of_ble_eq_true rfl⟩ (fun H locs hP hS => ?_)
    refine lv_aload_n hx hb eX12_drop_27.2.2.2.2.1 rfl (lv_at hl 1 rfl) ?_
    refine lv_iconst (v := 3) hx hb eX12_drop_27.2.2.2.2.2.1 (by decide) ?_
    refine lv_iload_n hx hb eX12_drop_27.2.2.2.2.2.2.1 rfl (lv_at hl 2 rfl) ?_
    obtain ⟨s15, hc14, h⟩ := bn_e h
    refine ywVv (As := [.int 3, .int (i2 p0)]) (rest := []) (C := RX12) (n := 2) (ws' := RW D a s15) ⟨hx, hb, hml, hown, ht⟩ (k_x12_isKept l D a 3 p0 _ _ _ hc14) (zgV ml_X12_659 im_X12_isKept se_X12_isKept in_X12 co_X12_isKept) rfl rfl (by decide +kernel) ⟨Nat.le_of_ble_eq_true rfl, Nat.le_of_ble_eq_true rfl⟩ hN hK hP (hDD _) hS hA 0 RW_0 rfl rfl rfl hl.1 rfl (Nat.le_of_ble_eq_true rfl) eX12_drop_27.2.2.2.2.2.2.2 ⟨Nat.le_of_ble_eq_true rfl, Nat.le_of_ble_eq_true rfl⟩ (fun H locs hP hS => ?_)
    refine lv_iload_n hx hb eX12_drop_39.1 rfl (lv_at hl 0 rfl) ?_
    refine lv_aload_n hx hb eX12_drop_39.2.1 rfl (lv_at hl 1 rfl) ?_
    obtain ⟨r17, hc16, h⟩ := bn_e h
    refine ycV (r0 := i2 r17) (As := []) (rest := [.int (i2 r11)]) (C := RX12) (n := 0) ⟨hx, hb, hml, hown, ht⟩ (k_x12_usedMany l D a _ _ hc16) (zgV ml_X12_578 im_X12_usedMany se_X12_usedMany in_X12 co_X12_usedMany) rfl rfl (by decide +kernel) ⟨Nat.le_of_ble_eq_true rfl, Nat.le_of_ble_eq_true rfl⟩ hN hK hP hS 0 RW_0 rfl rfl rfl hl.1 rfl (Nat.le_of_ble_eq_true rfl) eX12_drop_39.2.2.1 ⟨Nat.le_of_ble_eq_true rfl, Nat.le_of_ble_eq_true rfl⟩ (fun H locs hP hS => ?_)
    refine lv_isub hx hb eX12_drop_39.2.2.2.1 ?_
    refine z_topi (y := i2 (r11 - r17)) (i2_sub r11 r17) ?_
    obtain rfl := Option.some.inj h
    exact W.iret (v := (i2 (r11 - r17))) hx hb hr (fun t ht hW => ⟨⟨_, (), rfl, rfl, by rw [ht]; exact hP, va_K.moved hW.alike hK, hDD _⟩, hS.F ht⟩) hS.2.2 eX12_drop_39.2.2.2.2.1
  · have h := if_t ((i2_eq (x := r3) (y := 0) hr4 (by decide)).mp c5) h
    refine lv_aload_n hx hb eX12_crash_63.2.2.2.2.2.2.1 rfl (lv_at hl 0 rfl) ?_
    refine lv_iconst (v := 2) hx hb eX12_crash_63.2.2.2.2.2.2.2 (by decide) ?_
    obtain ⟨⟨r20, s19⟩, hc18, h⟩ := bn_e h
    refine ywV (r0 := i2 r20) (As := [.int 2]) (rest := []) (C := RX12) (n := 1) (ws' := RW D a s19) ⟨hx, hb, hml, hown, ht⟩ (k_x12_refuses l D a 2 _ _ _ hc18) (zgV ml_X12_399 im_X12_refuses se_X12_refuses in_X12 co_X12_refuses) rfl rfl (by decide +kernel) ⟨Nat.le_of_ble_eq_true rfl, Nat.le_of_ble_eq_true rfl⟩ hN hK hP (hDD _) hS hA 0 RW_0 rfl rfl rfl hl.1 rfl (Nat.le_of_ble_eq_true rfl) eX12_drop_11.1 ⟨Nat.le_of_ble_eq_true rfl, Nat.le_of_ble_eq_true rfl⟩ (fun H locs hP hS => ?_)
    obtain rfl := Option.some.inj h
    exact W.iret (v := (i2 r20)) hx hb hr (fun t ht hW => ⟨⟨_, (), rfl, rfl, by rw [ht]; exact hP, va_K.moved hW.alike hK, hDD _⟩, hS.F ht⟩) hS.2.2 eX12_drop_11.2.1
set_option maxHeartbeats 4000000 in
set_option maxRecDepth 100000 in
theorem k_x12_checkpoint (l : Launch) (D : va_G) (a : Nat → Nat) (sz : Nat) (s : MS) (o : (Int × MS)) (h : m_x12_checkpoint s = some o) : yWi l yX12_checkpoint cX12_checkpoint 2 (some .int) { frames := 8, cells := 0, slots := 0, locals := 480 } D sz [.ref (a 200)] (RW D a s) (RW D a o.2) (i2 o.1) := by
  refine Met.ofW (cc := cX12_checkpoint) (maxL := 2) (ret := (some .int)) (by decide) rfl ?_
  intro p e s₀ m args below meth c s₁ B hml hv
  obtain ⟨rfl, ⟨hsz, hP, hK, hD0⟩, hN⟩ := hv
  have hx := B.exec
  have hb := B.bytes
  have hr := B.returns
  have hts := atoms_spec (ws := wz yX12_checkpoint cX12_checkpoint 2 (some .int)) B.pre
  have ht : ∀ w ∈ lw_gd, w.before _ s₀ = true := fun w h => hts w (List.mem_cons_of_mem _ h)
  have hown : s₀.vm.findClass RX12 = some m.cls := findClass_of_methodNamed B.named
  have hlocks := B.notSynchronized
  subst hsz
  have hD := hD0.self (sz := s₀.heap.size)
  generalize hAe : va_A (RW D a s) s₀.heap.size = A at hD ⊢
  have hA : ∀ q : Nat, s₀.heap.size ≤ q → A q := fun q h => by rw [← hAe]; exact Or.inr h
  have hS : va_S A s₀.heap s₀.heap [] := va_S.rf
  have hDD : ∀ t : MS, va_D A (RW D a t) := fun t => RW_D t hD
  have hl := lv_entry ([.ref (a 200)]) (n := 2) (Nat.le_of_ble_eq_true rfl)
  rw [lg_entry_eq]
  generalize (lg_sl ([.ref (a 200)]) ++ List.replicate (2 - (lg_sl ([.ref (a 200)])).length) Slot.unset).toArray = ls at hl ⊢
  have hl : lv_has ls 2 [(0, .ref (a 200))] := hl
  unfold m_x12_checkpoint at h
  refine lv_aload_n hx hb eX12_canBe_123.2.2.2.2.1 rfl (lv_at hl 0 rfl) ?_
  refine va_get (D := D) (ci := 12) (v := .int (i2 (gI s 47))) (C := RX12) (T := TX12) (N := 116) hx hb ht inX12 hown hK hP 0 RW_0 rfl 47 (by decide) (ht (.fieldLink RX12 406 "CloneVolumesModel" "isTold" "Z") fl_X12_406) (fun _ h9 => h9) mF_47 eX12_canBe_123.2.2.2.2.2.1 ?_
  obtain ⟨hr1, h⟩ := rg_e h
  refine lv_if_ne (tgt := 13) hx hb eX12_canBe_123.2.2.2.2.2.2.1 (by decide) (fun c2 => ?_) (fun c2 => ?_)
  · have h := if_f (mt (i2_eq (x := (gI s 47)) (y := 0) hr1 (by decide)).mpr c2) h
    refine lv_aload_n hx hb eX12_checkpoint_8.2.2.2.1 rfl (lv_at hl 0 rfl) ?_
    obtain ⟨s4, hc3, h⟩ := bn_e h
    refine ywVv (As := []) (rest := []) (C := RX12) (n := 0) (ws' := RW D a s4) ⟨hx, hb, hml, hown, ht⟩ (k_x12_keeps l D a _ _ _ hc3) (zgV ml_X12_662 im_X12_keeps se_X12_keeps in_X12 co_X12_keeps) rfl rfl (by decide +kernel) ⟨Nat.le_of_ble_eq_true rfl, Nat.le_of_ble_eq_true rfl⟩ hN hK hP (hDD _) hS hA 0 RW_0 rfl rfl rfl hl.1 rfl (Nat.le_of_ble_eq_true rfl) eX12_checkpoint_8.2.2.2.2.1 ⟨Nat.le_of_ble_eq_true rfl, Nat.le_of_ble_eq_true rfl⟩ (fun H locs hP hS => ?_)
    refine lv_aload_n hx hb eX12_checkpoint_8.2.2.2.2.2.1 rfl (lv_at hl 0 rfl) ?_
    obtain ⟨s6, hc5, h⟩ := bn_e h
    refine ywVv (As := []) (rest := []) (C := RX12) (n := 0) (ws' := RW D a s6) ⟨hx, hb, hml, hown, ht⟩ (k_x12_clearsTouched l D a _ _ _ hc5) (zgV ml_X12_568 im_X12_clearsTouched se_X12_clearsTouched in_X12 co_X12_clearsTouched) rfl rfl (by decide +kernel) ⟨Nat.le_of_ble_eq_true rfl, Nat.le_of_ble_eq_true rfl⟩ hN hK hP (hDD _) hS hA 0 RW_0 rfl rfl rfl hl.1 rfl (Nat.le_of_ble_eq_true rfl) eX12_checkpoint_8.2.2.2.2.2.2.1 ⟨Nat.le_of_ble_eq_true rfl, Nat.le_of_ble_eq_true rfl⟩ (fun H locs hP hS => ?_)
    refine lv_aload_n hx hb eX12_checkpoint_8.2.2.2.2.2.2.2 rfl (lv_at hl 0 rfl) ?_
    obtain ⟨r8, hc7, h⟩ := bn_e h
    refine ycV (r0 := i2 r8) (As := []) (rest := []) (C := RX12) (n := 0) ⟨hx, hb, hml, hown, ht⟩ (k_x12_heldMany l D a _ _ hc7) (zgV ml_X12_581 im_X12_heldMany se_X12_heldMany in_X12 co_X12_heldMany) rfl rfl (by decide +kernel) ⟨Nat.le_of_ble_eq_true rfl, Nat.le_of_ble_eq_true rfl⟩ hN hK hP hS 0 RW_0 rfl rfl rfl hl.1 rfl (Nat.le_of_ble_eq_true rfl) eX12_checkpoint_22.1 ⟨Nat.le_of_ble_eq_true rfl, Nat.le_of_ble_eq_true rfl⟩ (fun H locs hP hS => ?_)
    refine lv_istore_n (lv' := [(1, .int (i2 r8)), (0, .ref (a 200))]) hx hb eX12_checkpoint_22.2.1 rfl hl (by decide) rfl (fun ls hl => ?_)
    refine lv_aload_n hx hb eX12_checkpoint_22.2.2.1 rfl (lv_at hl 1 rfl) ?_
    obtain ⟨s10, hc9, h⟩ := bn_e h
    refine ywVv (As := []) (rest := []) (C := RX12) (n := 0) (ws' := RW D a s10) ⟨hx, hb, hml, hown, ht⟩ (k_x12_checks l D a _ _ _ hc9) (zgV ml_X12_413 im_X12_checks se_X12_checks in_X12 co_X12_checks) rfl rfl (by decide +kernel) ⟨Nat.le_of_ble_eq_true rfl, Nat.le_of_ble_eq_true rfl⟩ hN hK hP (hDD _) hS hA 0 RW_0 rfl rfl rfl hl.1 rfl (Nat.le_of_ble_eq_true rfl) eX12_checkpoint_22.2.2.2.1 ⟨Nat.le_of_ble_eq_true rfl, Nat.le_of_ble_eq_true rfl⟩ (fun H locs hP hS => ?_)
    refine lv_aload_n hx hb eX12_checkpoint_22.2.2.2.2.1 rfl (lv_at hl 1 rfl) ?_
    refine lv_iconst (v := 4) hx hb eX12_checkpoint_22.2.2.2.2.2.1 (by decide) ?_
    refine lv_sipush (v := 255) hx hb eX12_checkpoint_22.2.2.2.2.2.2.1 (by decide) ?_
    obtain ⟨s12, hc11, h⟩ := bn_e h
    refine ywVv (As := [.int 4, .int 255]) (rest := []) (C := RX12) (n := 2) (ws' := RW D a s12) ⟨hx, hb, hml, hown, ht⟩ (k_x12_isKept l D a 4 255 _ _ _ hc11) (zgV ml_X12_659 im_X12_isKept se_X12_isKept in_X12 co_X12_isKept) rfl rfl (by decide +kernel) ⟨Nat.le_of_ble_eq_true rfl, Nat.le_of_ble_eq_true rfl⟩ hN hK hP (hDD _) hS hA 0 RW_0 rfl rfl rfl hl.1 rfl (Nat.le_of_ble_eq_true rfl) eX12_checkpoint_22.2.2.2.2.2.2.2 ⟨Nat.le_of_ble_eq_true rfl, Nat.le_of_ble_eq_true rfl⟩ (fun H locs hP hS => ?_)
    refine lv_iload_n hx hb eX12_checkpoint_38.1 rfl (lv_at hl 0 rfl) ?_
    obtain rfl := Option.some.inj h
    exact W.iret (v := (i2 r8)) hx hb hr (fun t ht hW => ⟨⟨_, (), rfl, rfl, by rw [ht]; exact hP, va_K.moved hW.alike hK, hDD _⟩, hS.F ht⟩) hS.2.2 eX12_checkpoint_38.2.1
  · have h := if_t ((i2_eq (x := (gI s 47)) (y := 0) hr1 (by decide)).mp c2) h
    refine lv_aload_n hx hb eX12_canBe_123.2.2.2.2.2.2.2 rfl (lv_at hl 0 rfl) ?_
    refine lv_iconst (v := 3) hx hb eX12_checkpoint_8.1 (by decide) ?_
    obtain ⟨⟨r15, s14⟩, hc13, h⟩ := bn_e h
    refine ywV (r0 := i2 r15) (As := [.int 3]) (rest := []) (C := RX12) (n := 1) (ws' := RW D a s14) ⟨hx, hb, hml, hown, ht⟩ (k_x12_refuses l D a 3 _ _ _ hc13) (zgV ml_X12_399 im_X12_refuses se_X12_refuses in_X12 co_X12_refuses) rfl rfl (by decide +kernel) ⟨Nat.le_of_ble_eq_true rfl, Nat.le_of_ble_eq_true rfl⟩ hN hK hP (hDD _) hS hA 0 RW_0 rfl rfl rfl hl.1 rfl (Nat.le_of_ble_eq_true rfl) eX12_checkpoint_8.2.1 ⟨Nat.le_of_ble_eq_true rfl, Nat.le_of_ble_eq_true rfl⟩ (fun H locs hP hS => ?_)
    obtain rfl := Option.some.inj h
    exact W.iret (v := (i2 r15)) hx hb hr (fun t ht hW => ⟨⟨_, (), rfl, rfl, by rw [ht]; exact hP, va_K.moved hW.alike hK, hDD _⟩, hS.F ht⟩) hS.2.2 eX12_checkpoint_8.2.2.1
set_option maxHeartbeats 4000000 in
set_option maxRecDepth 100000 in
theorem k_x12_crash (l : Launch) (D : va_G) (a : Nat → Nat) (sz : Nat) (s : MS) (o : (Int × MS)) (h : m_x12_crash s = some o) : yWi l yX12_crash cX12_crash 3 (some .int) { frames := 8, cells := 0, slots := 0, locals := 480 } D sz [.ref (a 200)] (RW D a s) (RW D a o.2) (i2 o.1) := by
  refine Met.ofW (cc := cX12_crash) (maxL := 3) (ret := (some .int)) (by decide) rfl ?_
  intro p e s₀ m args below meth c s₁ B hml hv
  obtain ⟨rfl, ⟨hsz, hP, hK, hD0⟩, hN⟩ := hv
  have hx := B.exec
  have hb := B.bytes
  have hr := B.returns
  have hts := atoms_spec (ws := wz yX12_crash cX12_crash 3 (some .int)) B.pre
  have ht : ∀ w ∈ lw_gd, w.before _ s₀ = true := fun w h => hts w (List.mem_cons_of_mem _ h)
  have hown : s₀.vm.findClass RX12 = some m.cls := findClass_of_methodNamed B.named
  have hlocks := B.notSynchronized
  subst hsz
  have hD := hD0.self (sz := s₀.heap.size)
  generalize hAe : va_A (RW D a s) s₀.heap.size = A at hD ⊢
  have hA : ∀ q : Nat, s₀.heap.size ≤ q → A q := fun q h => by rw [← hAe]; exact Or.inr h
  have hS : va_S A s₀.heap s₀.heap [] := va_S.rf
  have hDD : ∀ t : MS, va_D A (RW D a t) := fun t => RW_D t hD
  have hl := lv_entry ([.ref (a 200)]) (n := 3) (Nat.le_of_ble_eq_true rfl)
  rw [lg_entry_eq]
  generalize (lg_sl ([.ref (a 200)]) ++ List.replicate (3 - (lg_sl ([.ref (a 200)])).length) Slot.unset).toArray = ls at hl ⊢
  have hl : lv_has ls 3 [(0, .ref (a 200))] := hl
  unfold m_x12_crash at h
  refine y_loop (pcJ := 25) (σ := Int × Int × MS) (fun n u H locs ls => va_P D vwCl (RW D a u.2.2) H ∧ va_S A s₀.heap H locs ∧ lv_has ls 3 [(0, .ref (a 200)), (1, .int (i2 u.1)), (2, .int (i2 u.2.1))] ∧ m_x12_crash_L25 n u.1 u.2.1 u.2.2 = some o) (fun u => []) (fun u H locs ls hI => by obtain ⟨_, _, _, h⟩ := hI; cases h) (fun n25 ih25 u H locs ls hI => ?_) (fun J25 => ?_)
  · obtain ⟨hP, hS, hl, h⟩ := hI
    obtain ⟨x1, x2, s3⟩ := u
    have hP : va_P D vwCl (RW D a s3) H := hP
    have hl : lv_has ls 3 [(0, .ref (a 200)), (1, .int (i2 x1)), (2, .int (i2 x2))] := hl
    have h : m_x12_crash_b25 (m_x12_crash_L25 n25) x1 x2 s3 = some o := h
    unfold m_x12_crash_b25 at h
    refine y_head (pcJ := 44) (σ := Int × Int × MS) (fun u H locs ls => va_P D vwCl (RW D a u.2.2) H ∧ va_S A s₀.heap H locs ∧ lv_has ls 3 [(0, .ref (a 200)), (1, .int (i2 u.1)), (2, .int (i2 u.2.1))] ∧ m_x12_crash_J44 (m_x12_crash_L25 n25) u.1 u.2.1 u.2.2 = some o) (fun u => []) (fun u H locs ls hI => ?_) (fun J44 => ?_)
    · obtain ⟨hP, hS, hl, h⟩ := hI
      obtain ⟨x4, x5, s6⟩ := u
      have hP : va_P D vwCl (RW D a s6) H := hP
      have hl : lv_has ls 3 [(0, .ref (a 200)), (1, .int (i2 x4)), (2, .int (i2 x5))] := hl
      have h : m_x12_crash_J44 (m_x12_crash_L25 n25) x4 x5 s6 = some o := h
      unfold m_x12_crash_J44 at h
      refine lv_iinc (v := i2 (x5 + 1)) (lv' := [(2, .int (i2 (x5 + 1))), (0, .ref (a 200)), (1, .int (i2 x4))]) hx hb eX12_crash_27.2.2.2.2.2.2.2 hl (k := 2) rfl (i2_add x5 1) (by decide) rfl (fun ls hl => ?_)
      refine lv_goto (tgt := 25) hx hb eX12_crash_47.1 (by decide) ?_
      exact ih25 (x4, x5 + 1, s6) _ _ _ ⟨hP, hS, lv_sub hl [1, 2, 0] rfl, h⟩
    refine lv_iload_n hx hb eX12_crash_17.2.2.2.2.2.2.1 rfl (lv_at hl 2 rfl) ?_
    refine lv_aload_n hx hb eX12_crash_17.2.2.2.2.2.2.2 rfl (lv_at hl 0 rfl) ?_
    obtain ⟨r8, hc7, h⟩ := bn_e h
    refine ycV (r0 := i2 r8) (As := []) (rest := [.int (i2 x2)]) (C := RX12) (n := 0) ⟨hx, hb, hml, hown, ht⟩ (k_x12_blockMany l D a _ _ hc7) (zgV ml_X12_429 im_X12_blockMany se_X12_blockMany in_X12 co_X12_blockMany) rfl rfl (by decide +kernel) ⟨Nat.le_of_ble_eq_true rfl, Nat.le_of_ble_eq_true rfl⟩ hN hK hP hS 0 RW_0 rfl rfl rfl hl.1 rfl (Nat.le_of_ble_eq_true rfl) eX12_crash_27.1 ⟨Nat.le_of_ble_eq_true rfl, Nat.le_of_ble_eq_true rfl⟩ (fun H locs hP hS => ?_)
    obtain ⟨hr9, h⟩ := rg_e h
    obtain ⟨hr10, h⟩ := rg_e h
    refine lv_icmp_ge (tgt := 50) hx hb eX12_crash_27.2.1 (by decide) (fun c11 => ?_) (fun c11 => ?_)
    · have h := if_t ((i2_le (x := r8) (y := x2) hr10 hr9).mp c11) h
      refine lv_aload_n hx hb eX12_crash_47.2.1 rfl (lv_at hl 0 rfl) ?_
      obtain ⟨s13, hc12, h⟩ := bn_e h
      refine ywVv (As := []) (rest := []) (C := RX12) (n := 0) (ws' := RW D a s13) ⟨hx, hb, hml, hown, ht⟩ (k_x12_crashes l D a _ _ _ hc12) (zgV ml_X12_668 im_X12_crashes se_X12_crashes in_X12 co_X12_crashes) rfl rfl (by decide +kernel) ⟨Nat.le_of_ble_eq_true rfl, Nat.le_of_ble_eq_true rfl⟩ hN hK hP (hDD _) hS hA 0 RW_0 rfl rfl rfl hl.1 rfl (Nat.le_of_ble_eq_true rfl) eX12_crash_47.2.2.1 ⟨Nat.le_of_ble_eq_true rfl, Nat.le_of_ble_eq_true rfl⟩ (fun H locs hP hS => ?_)
      refine lv_aload_n hx hb eX12_crash_47.2.2.2.1 rfl (lv_at hl 0 rfl) ?_
      refine lv_iconst (v := 5) hx hb eX12_crash_47.2.2.2.2.1 (by decide) ?_
      refine lv_sipush (v := 255) hx hb eX12_crash_47.2.2.2.2.2.1 (by decide) ?_
      obtain ⟨s15, hc14, h⟩ := bn_e h
      refine ywVv (As := [.int 5, .int 255]) (rest := []) (C := RX12) (n := 2) (ws' := RW D a s15) ⟨hx, hb, hml, hown, ht⟩ (k_x12_isKept l D a 5 255 _ _ _ hc14) (zgV ml_X12_659 im_X12_isKept se_X12_isKept in_X12 co_X12_isKept) rfl rfl (by decide +kernel) ⟨Nat.le_of_ble_eq_true rfl, Nat.le_of_ble_eq_true rfl⟩ hN hK hP (hDD _) hS hA 0 RW_0 rfl rfl rfl hl.1 rfl (Nat.le_of_ble_eq_true rfl) eX12_crash_47.2.2.2.2.2.2.1 ⟨Nat.le_of_ble_eq_true rfl, Nat.le_of_ble_eq_true rfl⟩ (fun H locs hP hS => ?_)
      refine lv_iload_n hx hb eX12_crash_47.2.2.2.2.2.2.2 rfl (lv_at hl 1 rfl) ?_
      obtain rfl := Option.some.inj h
      exact W.iret (v := (i2 x1)) hx hb hr (fun t ht hW => ⟨⟨_, (), rfl, rfl, by rw [ht]; exact hP, va_K.moved hW.alike hK, hDD _⟩, hS.F ht⟩) hS.2.2 eX12_crash_63.1
    · have h := if_f (mt (i2_le (x := r8) (y := x2) hr10 hr9).mpr c11) h
      refine lv_aload_n hx hb eX12_crash_27.2.2.1 rfl (lv_at hl 0 rfl) ?_
      refine lv_iload_n hx hb eX12_crash_27.2.2.2.1 rfl (lv_at hl 2 rfl) ?_
      obtain ⟨r17, hc16, h⟩ := bn_e h
      refine ycV (r0 := i2 r17) (As := [.int (i2 x2)]) (rest := []) (C := RX12) (n := 1) ⟨hx, hb, hml, hown, ht⟩ (k_x12_isFresh l D a x2 _ _ hc16) (zgV ml_X12_508 im_X12_isFresh se_X12_isFresh in_X12 co_X12_isFresh) rfl rfl (by decide +kernel) ⟨Nat.le_of_ble_eq_true rfl, Nat.le_of_ble_eq_true rfl⟩ hN hK hP hS 0 RW_0 rfl rfl rfl hl.1 rfl (Nat.le_of_ble_eq_true rfl) eX12_crash_27.2.2.2.2.1 ⟨Nat.le_of_ble_eq_true rfl, Nat.le_of_ble_eq_true rfl⟩ (fun H locs hP hS => ?_)
      obtain ⟨hr18, h⟩ := rg_e h
      refine lv_if_eq (tgt := 44) hx hb eX12_crash_27.2.2.2.2.2.1 (by decide) (fun c19 => ?_) (fun c19 => ?_)
      · have h := if_t ((i2_eq (x := r17) (y := 0) hr18 (by decide)).mp c19) h
        exact J44 (x1, x2, s3) _ _ _ ⟨hP, hS, lv_sub hl [0, 1, 2] rfl, h⟩
      · have h := if_f (mt (i2_eq (x := r17) (y := 0) hr18 (by decide)).mpr c19) h
        refine lv_iinc (v := i2 (x1 + 1)) (lv' := [(1, .int (i2 (x1 + 1))), (0, .ref (a 200)), (2, .int (i2 x2))]) hx hb eX12_crash_27.2.2.2.2.2.2.1 hl (k := 1) rfl (i2_add x1 1) (by decide) rfl (fun ls hl => ?_)
        exact J44 (x1 + 1, x2, s3) _ _ _ ⟨hP, hS, lv_sub hl [1, 0, 2] rfl, h⟩
  refine lv_aload_n hx hb eX12_copy_37.2.2.2.2.2.2.2 rfl (lv_at hl 0 rfl) ?_
  refine va_get (D := D) (ci := 12) (v := .int (i2 (gI s 47))) (C := RX12) (T := TX12) (N := 116) hx hb ht inX12 hown hK hP 0 RW_0 rfl 47 (by decide) (ht (.fieldLink RX12 406 "CloneVolumesModel" "isTold" "Z") fl_X12_406) (fun _ h9 => h9) mF_47 eX12_crash_1.1 ?_
  obtain ⟨hr20, h⟩ := rg_e h
  refine lv_if_ne (tgt := 13) hx hb eX12_crash_1.2.1 (by decide) (fun c21 => ?_) (fun c21 => ?_)
  · have h := if_f (mt (i2_eq (x := (gI s 47)) (y := 0) hr20 (by decide)).mpr c21) h
    refine lv_aload_n hx hb eX12_crash_1.2.2.2.2.2.2.1 rfl (lv_at hl 0 rfl) ?_
    obtain ⟨s23, hc22, h⟩ := bn_e h
    refine ywVv (As := []) (rest := []) (C := RX12) (n := 0) (ws' := RW D a s23) ⟨hx, hb, hml, hown, ht⟩ (k_x12_keeps l D a _ _ _ hc22) (zgV ml_X12_662 im_X12_keeps se_X12_keeps in_X12 co_X12_keeps) rfl rfl (by decide +kernel) ⟨Nat.le_of_ble_eq_true rfl, Nat.le_of_ble_eq_true rfl⟩ hN hK hP (hDD _) hS hA 0 RW_0 rfl rfl rfl hl.1 rfl (Nat.le_of_ble_eq_true rfl) eX12_crash_1.2.2.2.2.2.2.2 ⟨Nat.le_of_ble_eq_true rfl, Nat.le_of_ble_eq_true rfl⟩ (fun H locs hP hS => ?_)
    refine lv_aload_n hx hb eX12_crash_17.1 rfl (lv_at hl 0 rfl) ?_
    obtain ⟨s25, hc24, h⟩ := bn_e h
    refine ywVv (As := []) (rest := []) (C := RX12) (n := 0) (ws' := RW D a s25) ⟨hx, hb, hml, hown, ht⟩ (k_x12_clearsTouched l D a _ _ _ hc24) (zgV ml_X12_568 im_X12_clearsTouched se_X12_clearsTouched in_X12 co_X12_clearsTouched) rfl rfl (by decide +kernel) ⟨Nat.le_of_ble_eq_true rfl, Nat.le_of_ble_eq_true rfl⟩ hN hK hP (hDD _) hS hA 0 RW_0 rfl rfl rfl hl.1 rfl (Nat.le_of_ble_eq_true rfl) eX12_crash_17.2.1 ⟨Nat.le_of_ble_eq_true rfl, Nat.le_of_ble_eq_true rfl⟩ (fun H locs hP hS => ?_)
    refine lv_iconst (v := 0) hx hb eX12_crash_17.2.2.1 (by decide) ?_
    refine lv_istore_n (lv' := [(1, .int 0), (0, .ref (a 200))]) hx hb eX12_crash_17.2.2.2.1 rfl hl (by decide) rfl (fun ls hl => ?_)
    refine lv_iconst (v := 0) hx hb eX12_crash_17.2.2.2.2.1 (by decide) ?_
    refine lv_istore_n (lv' := [(2, .int 0), (1, .int 0), (0, .ref (a 200))]) hx hb eX12_crash_17.2.2.2.2.2.1 rfl hl (by decide) rfl (fun ls hl => ?_)
    exact J25 FU (0, 0, s25) _ _ _ ⟨hP, hS, lv_sub hl [2, 1, 0] rfl, h⟩
  · have h := if_t ((i2_eq (x := (gI s 47)) (y := 0) hr20 (by decide)).mp c21) h
    refine lv_aload_n hx hb eX12_crash_1.2.2.1 rfl (lv_at hl 0 rfl) ?_
    refine lv_iconst (v := 3) hx hb eX12_crash_1.2.2.2.1 (by decide) ?_
    obtain ⟨⟨r28, s27⟩, hc26, h⟩ := bn_e h
    refine ywV (r0 := i2 r28) (As := [.int 3]) (rest := []) (C := RX12) (n := 1) (ws' := RW D a s27) ⟨hx, hb, hml, hown, ht⟩ (k_x12_refuses l D a 3 _ _ _ hc26) (zgV ml_X12_399 im_X12_refuses se_X12_refuses in_X12 co_X12_refuses) rfl rfl (by decide +kernel) ⟨Nat.le_of_ble_eq_true rfl, Nat.le_of_ble_eq_true rfl⟩ hN hK hP (hDD _) hS hA 0 RW_0 rfl rfl rfl hl.1 rfl (Nat.le_of_ble_eq_true rfl) eX12_crash_1.2.2.2.2.1 ⟨Nat.le_of_ble_eq_true rfl, Nat.le_of_ble_eq_true rfl⟩ (fun H locs hP hS => ?_)
    obtain rfl := Option.some.inj h
    exact W.iret (v := (i2 r28)) hx hb hr (fun t ht hW => ⟨⟨_, (), rfl, rfl, by rw [ht]; exact hP, va_K.moved hW.alike hK, hDD _⟩, hS.F ht⟩) hS.2.2 eX12_crash_1.2.2.2.2.2.1
