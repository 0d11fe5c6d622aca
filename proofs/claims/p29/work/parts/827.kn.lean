theorem ck_X4_117 : Cond.constant RX4 117 65536 ∈ lw_gd := zm (lw_g_6 (List.mem_of_getElem? (i := 100) (by decide +kernel))) rfl
theorem ck_X4_121 : Cond.constant RX4 121 999999 ∈ lw_gd := zm (lw_g_6 (List.mem_of_getElem? (i := 105) (by decide +kernel))) rfl
theorem co_X4_isSound : Cond.code yX4_isSound cX4_isSound 4 (some .boolean) ∈ lw_gd := zm (lw_g_6 (List.mem_of_getElem? (i := 117) (by decide +kernel))) rfl
theorem co_X4_isSoundBlock : Cond.code yX4_isSoundBlock cX4_isSoundBlock 6 (some .boolean) ∈ lw_gd := zm (lw_g_6 (List.mem_of_getElem? (i := 121) (by decide +kernel))) rfl
theorem co_X4_loadBlock : Cond.code yX4_loadBlock cX4_loadBlock 9 (some .boolean) ∈ lw_gd := zm (lw_g_6 (List.mem_of_getElem? (i := 112) (by decide +kernel))) rfl
theorem co_X4_loadHead : Cond.code yX4_loadHead cX4_loadHead 6 (some .boolean) ∈ lw_gd := zm (lw_g_6 (List.mem_of_getElem? (i := 95) (by decide +kernel))) rfl
theorem co_X4_next : Cond.code yX4_next cX4_next 3 (some .int) ∈ lw_gd := zm (lw_g_6 (List.mem_of_getElem? (i := 99) (by decide +kernel))) rfl
theorem co_X4_nextPair : Cond.code yX4_nextPair cX4_nextPair 3 (some .int) ∈ lw_gd := zm (lw_g_6 (List.mem_of_getElem? (i := 104) (by decide +kernel))) rfl
theorem co_X4_refsAre : Cond.code yX4_refsAre cX4_refsAre 7 (some .boolean) ∈ lw_gd := zm (lw_g_6 (List.mem_of_getElem? (i := 130) (by decide +kernel))) rfl
theorem co_X4_rootOf : Cond.code yX4_rootOf cX4_rootOf 1 (some .int) ∈ lw_gd := zm (lw_g_6 (List.mem_of_getElem? (i := 108) (by decide +kernel))) rfl
theorem fl_X4_87 : Cond.fieldLink RX4 87 "CloneVolumes$Tape" "length" "I" ∈ lw_gd := zm (lw_g_1 (List.mem_of_getElem? (i := 42) (by decide +kernel))) rfl
theorem fl_X4_95 : Cond.fieldLink RX4 95 "CloneVolumes$Tape" "bytes" "[I" ∈ lw_gd := zm (lw_g_1 (List.mem_of_getElem? (i := 37) (by decide +kernel))) rfl
theorem fl_X4_99 : Cond.fieldLink RX4 99 "CloneVolumes$Picture" "at" "I" ∈ lw_gd := zm (lw_g_1 (List.mem_of_getElem? (i := 207) (by decide +kernel))) rfl
theorem im_X4_isSound : Cond.instanceMethod yX4_isSound ∈ lw_gd := zm (lw_g_6 (List.mem_of_getElem? (i := 116) (by decide +kernel))) rfl
theorem im_X4_isSoundBlock : Cond.instanceMethod yX4_isSoundBlock ∈ lw_gd := zm (lw_g_6 (List.mem_of_getElem? (i := 120) (by decide +kernel))) rfl
theorem im_X4_loadBlock : Cond.instanceMethod yX4_loadBlock ∈ lw_gd := zm (lw_g_6 (List.mem_of_getElem? (i := 111) (by decide +kernel))) rfl
theorem im_X4_loadHead : Cond.instanceMethod yX4_loadHead ∈ lw_gd := zm (lw_g_6 (List.mem_of_getElem? (i := 94) (by decide +kernel))) rfl
theorem im_X4_next : Cond.instanceMethod yX4_next ∈ lw_gd := zm (lw_g_6 (List.mem_of_getElem? (i := 98) (by decide +kernel))) rfl
theorem im_X4_nextPair : Cond.instanceMethod yX4_nextPair ∈ lw_gd := zm (lw_g_6 (List.mem_of_getElem? (i := 103) (by decide +kernel))) rfl
theorem im_X4_refsAre : Cond.instanceMethod yX4_refsAre ∈ lw_gd := zm (lw_g_6 (List.mem_of_getElem? (i := 129) (by decide +kernel))) rfl
theorem ml_X4_101 : Cond.methodLink RX4 101 yX4_loadHead ∈ lw_gd := zm (lw_g_6 (List.mem_of_getElem? (i := 92) (by decide +kernel))) rfl
theorem ml_X4_105 : Cond.methodLink RX4 105 yX4_loadBlock ∈ lw_gd := zm (lw_g_6 (List.mem_of_getElem? (i := 109) (by decide +kernel))) rfl
theorem ml_X4_109 : Cond.methodLink RX4 109 yX4_isSound ∈ lw_gd := zm (lw_g_6 (List.mem_of_getElem? (i := 114) (by decide +kernel))) rfl
theorem ml_X4_113 : Cond.methodLink RX4 113 yX4_next ∈ lw_gd := zm (lw_g_6 (List.mem_of_getElem? (i := 96) (by decide +kernel))) rfl
theorem ml_X4_118 : Cond.methodLink RX4 118 yX4_nextPair ∈ lw_gd := zm (lw_g_6 (List.mem_of_getElem? (i := 101) (by decide +kernel))) rfl
theorem ml_X4_122 : Cond.methodLink RX4 122 yX4_rootOf ∈ lw_gd := zm (lw_g_6 (List.mem_of_getElem? (i := 106) (by decide +kernel))) rfl
theorem ml_X4_128 : Cond.methodLink RX4 128 yX4_isSoundBlock ∈ lw_gd := zm (lw_g_6 (List.mem_of_getElem? (i := 118) (by decide +kernel))) rfl
theorem ml_X4_132 : Cond.methodLink RX4 132 yX4_refsAre ∈ lw_gd := zm (lw_g_6 (List.mem_of_getElem? (i := 127) (by decide +kernel))) rfl
theorem ml_X4_92 : Cond.methodLink RX4 92 yX9_at ∈ lw_gd := zm (lw_g_6 (List.mem_of_getElem? (i := 90) (by decide +kernel))) rfl
theorem ml_X4_96 : Cond.methodLink RX4 96 yX8_clear ∈ lw_gd := zm (lw_g_6 (List.mem_of_getElem? (i := 91) (by decide +kernel))) rfl
theorem se_X4_isSound : Cond.selects RX4 yX4_isSound yX4_isSound ∈ lw_gd := zm (List.mem_of_getElem? (i := 65) (by decide +kernel)) rfl
theorem se_X4_isSoundBlock : Cond.selects RX4 yX4_isSoundBlock yX4_isSoundBlock ∈ lw_gd := zm (List.mem_of_getElem? (i := 66) (by decide +kernel)) rfl
theorem se_X4_loadBlock : Cond.selects RX4 yX4_loadBlock yX4_loadBlock ∈ lw_gd := zm (List.mem_of_getElem? (i := 64) (by decide +kernel)) rfl
theorem se_X4_loadHead : Cond.selects RX4 yX4_loadHead yX4_loadHead ∈ lw_gd := zm (List.mem_of_getElem? (i := 61) (by decide +kernel)) rfl
theorem se_X4_next : Cond.selects RX4 yX4_next yX4_next ∈ lw_gd := zm (List.mem_of_getElem? (i := 62) (by decide +kernel)) rfl
theorem se_X4_nextPair : Cond.selects RX4 yX4_nextPair yX4_nextPair ∈ lw_gd := zm (List.mem_of_getElem? (i := 63) (by decide +kernel)) rfl
theorem se_X4_refsAre : Cond.selects RX4 yX4_refsAre yX4_refsAre ∈ lw_gd := zm (List.mem_of_getElem? (i := 68) (by decide +kernel)) rfl
theorem st_X4_rootOf : Cond.static yX4_rootOf ∈ lw_gd := zm (lw_g_6 (List.mem_of_getElem? (i := 107) (by decide +kernel))) rfl
theorem eX4_isSound_0 : decode cX4_isSound 0 = .ok (.iconst 0, 1) ∧ decode cX4_isSound 1 = .ok (.istore_n 2, 1) ∧ decode cX4_isSound 2 = .ok (.iload_n 2, 1) ∧ decode cX4_isSound 3 = .ok (.bipush 48, 2) ∧ decode cX4_isSound 5 = .ok (.if_icmp .ge 54, 3) ∧ decode cX4_isSound 8 = .ok (.iconst 0, 1) ∧ decode cX4_isSound 9 = .ok (.istore_n 3, 1) ∧ decode cX4_isSound 10 = .ok (.iload_n 3, 1) := by decide +kernel
theorem eX4_isSound_11 : decode cX4_isSound 11 = .ok (.aload_n 1, 1) ∧ decode cX4_isSound 12 = .ok (.getfield 51, 3) ∧ decode cX4_isSound 15 = .ok (.if_icmp .ge 38, 3) ∧ decode cX4_isSound 18 = .ok (.aload_n 1, 1) ∧ decode cX4_isSound 19 = .ok (.iload_n 3, 1) ∧ decode cX4_isSound 20 = .ok (.invokevirtual 60, 3) ∧ decode cX4_isSound 23 = .ok (.ifCond .ne 24, 3) ∧ decode cX4_isSound 26 = .ok (.aload_n 1, 1) := by decide +kernel
theorem eX4_isSound_27 : decode cX4_isSound 27 = .ok (.getfield 72, 3) ∧ decode cX4_isSound 30 = .ok (.iload_n 3, 1) ∧ decode cX4_isSound 31 = .ok (.iaload, 1) ∧ decode cX4_isSound 32 = .ok (.iload_n 2, 1) ∧ decode cX4_isSound 33 = .ok (.if_icmp .ne 14, 3) ∧ decode cX4_isSound 36 = .ok (.aload_n 0, 1) ∧ decode cX4_isSound 37 = .ok (.aload_n 1, 1) ∧ decode cX4_isSound 38 = .ok (.iload_n 3, 1) := by decide +kernel
theorem eX4_isSound_39 : decode cX4_isSound 39 = .ok (.invokevirtual 128, 3) ∧ decode cX4_isSound 42 = .ok (.ifCond .ne 5, 3) ∧ decode cX4_isSound 45 = .ok (.iconst 0, 1) ∧ decode cX4_isSound 46 = .ok (.ireturn, 1) ∧ decode cX4_isSound 47 = .ok (.iinc 3 1, 3) ∧ decode cX4_isSound 50 = .ok (.goto (-40), 3) ∧ decode cX4_isSound 53 = .ok (.iinc 2 1, 3) ∧ decode cX4_isSound 56 = .ok (.goto (-54), 3) := by decide +kernel
theorem eX4_isSound_59 : decode cX4_isSound 59 = .ok (.aload_n 0, 1) ∧ decode cX4_isSound 60 = .ok (.aload_n 1, 1) ∧ decode cX4_isSound 61 = .ok (.aload_n 1, 1) ∧ decode cX4_isSound 62 = .ok (.getfield 54, 3) ∧ decode cX4_isSound 65 = .ok (.aload_n 1, 1) ∧ decode cX4_isSound 66 = .ok (.getfield 41, 3) ∧ decode cX4_isSound 69 = .ok (.invokevirtual 132, 3) ∧ decode cX4_isSound 72 = .ok (.ifCond .eq 23, 3) := by decide +kernel
theorem eX4_isSound_75 : decode cX4_isSound 75 = .ok (.aload_n 0, 1) ∧ decode cX4_isSound 76 = .ok (.aload_n 1, 1) ∧ decode cX4_isSound 77 = .ok (.aload_n 1, 1) ∧ decode cX4_isSound 78 = .ok (.getfield 57, 3) ∧ decode cX4_isSound 81 = .ok (.aload_n 1, 1) ∧ decode cX4_isSound 82 = .ok (.getfield 48, 3) ∧ decode cX4_isSound 85 = .ok (.invokevirtual 132, 3) ∧ decode cX4_isSound 88 = .ok (.ifCond .eq 7, 3) := by decide +kernel
theorem eX4_isSound_91 : decode cX4_isSound 91 = .ok (.iconst 1, 1) ∧ decode cX4_isSound 92 = .ok (.goto 4, 3) ∧ decode cX4_isSound 95 = .ok (.iconst 0, 1) ∧ decode cX4_isSound 96 = .ok (.ireturn, 1) ∧ decode cX4_load 0 = .ok (.aload_n 1, 1) ∧ decode cX4_load 1 = .ok (.getfield 87, 3) ∧ decode cX4_load 4 = .ok (.iconst 1, 1) ∧ decode cX4_load 5 = .ok (.isub, 1) := by decide +kernel
theorem eX4_load_6 : decode cX4_load 6 = .ok (.istore 5, 2) ∧ decode cX4_load 8 = .ok (.iload 5, 2) ∧ decode cX4_load 10 = .ok (.bipush 19, 2) ∧ decode cX4_load 12 = .ok (.if_icmp .lt 21, 3) ∧ decode cX4_load 15 = .ok (.aload_n 1, 1) ∧ decode cX4_load 16 = .ok (.iload 5, 2) ∧ decode cX4_load 18 = .ok (.invokevirtual 92, 3) ∧ decode cX4_load 21 = .ok (.aload_n 1, 1) := by decide +kernel
theorem eX4_load_22 : decode cX4_load 22 = .ok (.getfield 95, 3) ∧ decode cX4_load 25 = .ok (.iload 5, 2) ∧ decode cX4_load 27 = .ok (.invokestatic 68, 3) ∧ decode cX4_load 30 = .ok (.if_icmp .eq 5, 3) ∧ decode cX4_load 33 = .ok (.iconst 0, 1) ∧ decode cX4_load 34 = .ok (.ireturn, 1) ∧ decode cX4_load 35 = .ok (.aload_n 2, 1) ∧ decode cX4_load 36 = .ok (.iload_n 3, 1) := by decide +kernel
theorem eX4_load_37 : decode cX4_load 37 = .ok (.invokevirtual 96, 3) ∧ decode cX4_load 40 = .ok (.aload_n 0, 1) ∧ decode cX4_load 41 = .ok (.iconst 0, 1) ∧ decode cX4_load 42 = .ok (.putfield 99, 3) ∧ decode cX4_load 45 = .ok (.aload_n 0, 1) ∧ decode cX4_load 46 = .ok (.aload_n 1, 1) ∧ decode cX4_load 47 = .ok (.aload_n 2, 1) ∧ decode cX4_load 48 = .ok (.invokevirtual 101, 3) := by decide +kernel
theorem eX4_load_51 : decode cX4_load 51 = .ok (.ifCond .ne 5, 3) ∧ decode cX4_load 54 = .ok (.iconst 0, 1) ∧ decode cX4_load 55 = .ok (.ireturn, 1) ∧ decode cX4_load 56 = .ok (.iconst 0, 1) ∧ decode cX4_load 57 = .ok (.istore 6, 2) ∧ decode cX4_load 59 = .ok (.iload 6, 2) ∧ decode cX4_load 61 = .ok (.iload_n 3, 1) ∧ decode cX4_load 62 = .ok (.if_icmp .ge 24, 3) := by decide +kernel
theorem eX4_load_65 : decode cX4_load 65 = .ok (.aload_n 0, 1) ∧ decode cX4_load 66 = .ok (.aload_n 1, 1) ∧ decode cX4_load 67 = .ok (.aload_n 2, 1) ∧ decode cX4_load 68 = .ok (.iload 6, 2) ∧ decode cX4_load 70 = .ok (.iload 4, 2) ∧ decode cX4_load 72 = .ok (.invokevirtual 105, 3) ∧ decode cX4_load 75 = .ok (.ifCond .ne 5, 3) ∧ decode cX4_load 78 = .ok (.iconst 0, 1) := by decide +kernel
theorem eX4_load_79 : decode cX4_load 79 = .ok (.ireturn, 1) ∧ decode cX4_load 80 = .ok (.iinc 6 1, 3) ∧ decode cX4_load 83 = .ok (.goto (-24), 3) ∧ decode cX4_load 86 = .ok (.aload_n 0, 1) ∧ decode cX4_load 87 = .ok (.getfield 99, 3) ∧ decode cX4_load 90 = .ok (.iload 5, 2) ∧ decode cX4_load 92 = .ok (.if_icmp .ne 15, 3) ∧ decode cX4_load 95 = .ok (.aload_n 0, 1) := by decide +kernel
theorem eX4_load_96 : decode cX4_load 96 = .ok (.aload_n 2, 1) ∧ decode cX4_load 97 = .ok (.invokevirtual 109, 3) ∧ decode cX4_load 100 = .ok (.ifCond .eq 7, 3) ∧ decode cX4_load 103 = .ok (.iconst 1, 1) ∧ decode cX4_load 104 = .ok (.goto 4, 3) ∧ decode cX4_load 107 = .ok (.iconst 0, 1) ∧ decode cX4_load 108 = .ok (.ireturn, 1) ∧ decode cX4_loadBlock 0 = .ok (.aload_n 2, 1) := by decide +kernel
theorem eX4_loadBlock_1 : decode cX4_loadBlock 1 = .ok (.getfield 54, 3) ∧ decode cX4_loadBlock 4 = .ok (.iload_n 3, 1) ∧ decode cX4_loadBlock 5 = .ok (.aload_n 0, 1) ∧ decode cX4_loadBlock 6 = .ok (.aload_n 1, 1) ∧ decode cX4_loadBlock 7 = .ok (.invokevirtual 113, 3) ∧ decode cX4_loadBlock 10 = .ok (.iastore, 1) ∧ decode cX4_loadBlock 11 = .ok (.aload_n 2, 1) ∧ decode cX4_loadBlock 12 = .ok (.getfield 57, 3) := by decide +kernel
theorem eX4_loadBlock_15 : decode cX4_loadBlock 15 = .ok (.iload_n 3, 1) ∧ decode cX4_loadBlock 16 = .ok (.aload_n 0, 1) ∧ decode cX4_loadBlock 17 = .ok (.aload_n 1, 1) ∧ decode cX4_loadBlock 18 = .ok (.invokevirtual 113, 3) ∧ decode cX4_loadBlock 21 = .ok (.iastore, 1) ∧ decode cX4_loadBlock 22 = .ok (.aload_n 2, 1) ∧ decode cX4_loadBlock 23 = .ok (.getfield 54, 3) ∧ decode cX4_loadBlock 26 = .ok (.iload_n 3, 1) := by decide +kernel
theorem eX4_loadBlock_27 : decode cX4_loadBlock 27 = .ok (.iaload, 1) ∧ decode cX4_loadBlock 28 = .ok (.ifCond .lt 12, 3) ∧ decode cX4_loadBlock 31 = .ok (.aload_n 2, 1) ∧ decode cX4_loadBlock 32 = .ok (.getfield 57, 3) ∧ decode cX4_loadBlock 35 = .ok (.iload_n 3, 1) ∧ decode cX4_loadBlock 36 = .ok (.iaload, 1) ∧ decode cX4_loadBlock 37 = .ok (.ifCond .ge 5, 3) ∧ decode cX4_loadBlock 40 = .ok (.iconst 0, 1) := by decide +kernel
theorem eX4_loadBlock_41 : decode cX4_loadBlock 41 = .ok (.ireturn, 1) ∧ decode cX4_loadBlock 42 = .ok (.aload_n 2, 1) ∧ decode cX4_loadBlock 43 = .ok (.iload_n 3, 1) ∧ decode cX4_loadBlock 44 = .ok (.invokevirtual 60, 3) ∧ decode cX4_loadBlock 47 = .ok (.ifCond .eq 5, 3) ∧ decode cX4_loadBlock 50 = .ok (.iconst 1, 1) ∧ decode cX4_loadBlock 51 = .ok (.ireturn, 1) ∧ decode cX4_loadBlock 52 = .ok (.aload_n 2, 1) := by decide +kernel
theorem eX4_loadBlock_53 : decode cX4_loadBlock 53 = .ok (.getfield 72, 3) ∧ decode cX4_loadBlock 56 = .ok (.iload_n 3, 1) ∧ decode cX4_loadBlock 57 = .ok (.aload_n 0, 1) ∧ decode cX4_loadBlock 58 = .ok (.aload_n 1, 1) ∧ decode cX4_loadBlock 59 = .ok (.invokevirtual 113, 3) ∧ decode cX4_loadBlock 62 = .ok (.iastore, 1) ∧ decode cX4_loadBlock 63 = .ok (.aload_n 2, 1) ∧ decode cX4_loadBlock 64 = .ok (.getfield 75, 3) := by decide +kernel
theorem eX4_loadBlock_67 : decode cX4_loadBlock 67 = .ok (.iload_n 3, 1) ∧ decode cX4_loadBlock 68 = .ok (.aload_n 0, 1) ∧ decode cX4_loadBlock 69 = .ok (.aload_n 1, 1) ∧ decode cX4_loadBlock 70 = .ok (.invokevirtual 113, 3) ∧ decode cX4_loadBlock 73 = .ok (.iastore, 1) ∧ decode cX4_loadBlock 74 = .ok (.aload_n 2, 1) ∧ decode cX4_loadBlock 75 = .ok (.getfield 72, 3) ∧ decode cX4_loadBlock 78 = .ok (.iload_n 3, 1) := by decide +kernel
theorem eX4_loadBlock_79 : decode cX4_loadBlock 79 = .ok (.iaload, 1) ∧ decode cX4_loadBlock 80 = .ok (.ifCond .lt 35, 3) ∧ decode cX4_loadBlock 83 = .ok (.aload_n 2, 1) ∧ decode cX4_loadBlock 84 = .ok (.getfield 72, 3) ∧ decode cX4_loadBlock 87 = .ok (.iload_n 3, 1) ∧ decode cX4_loadBlock 88 = .ok (.iaload, 1) ∧ decode cX4_loadBlock 89 = .ok (.bipush 48, 2) ∧ decode cX4_loadBlock 91 = .ok (.if_icmp .ge 24, 3) := by decide +kernel
theorem eX4_loadBlock_94 : decode cX4_loadBlock 94 = .ok (.aload_n 2, 1) ∧ decode cX4_loadBlock 95 = .ok (.getfield 75, 3) ∧ decode cX4_loadBlock 98 = .ok (.iload_n 3, 1) ∧ decode cX4_loadBlock 99 = .ok (.iaload, 1) ∧ decode cX4_loadBlock 100 = .ok (.iconst 1, 1) ∧ decode cX4_loadBlock 101 = .ok (.if_icmp .lt 14, 3) ∧ decode cX4_loadBlock 104 = .ok (.aload_n 2, 1) ∧ decode cX4_loadBlock 105 = .ok (.getfield 75, 3) := by decide +kernel
theorem eX4_loadBlock_108 : decode cX4_loadBlock 108 = .ok (.iload_n 3, 1) ∧ decode cX4_loadBlock 109 = .ok (.iaload, 1) ∧ decode cX4_loadBlock 110 = .ok (.iload 4, 2) ∧ decode cX4_loadBlock 112 = .ok (.if_icmp .le 5, 3) ∧ decode cX4_loadBlock 115 = .ok (.iconst 0, 1) ∧ decode cX4_loadBlock 116 = .ok (.ireturn, 1) ∧ decode cX4_loadBlock 117 = .ok (.iconst 1, 1) ∧ decode cX4_loadBlock 118 = .ok (.istore 5, 2) := by decide +kernel
theorem eX4_loadBlock_120 : decode cX4_loadBlock 120 = .ok (.iconst 0, 1) ∧ decode cX4_loadBlock 121 = .ok (.istore 6, 2) ∧ decode cX4_loadBlock 123 = .ok (.iload 6, 2) ∧ decode cX4_loadBlock 125 = .ok (.aload_n 2, 1) ∧ decode cX4_loadBlock 126 = .ok (.getfield 75, 3) ∧ decode cX4_loadBlock 129 = .ok (.iload_n 3, 1) ∧ decode cX4_loadBlock 130 = .ok (.iaload, 1) ∧ decode cX4_loadBlock 131 = .ok (.if_icmp .ge 79, 3) := by decide +kernel
theorem eX4_loadBlock_134 : decode cX4_loadBlock 134 = .ok (.aload_n 0, 1) ∧ decode cX4_loadBlock 135 = .ok (.aload_n 1, 1) ∧ decode cX4_loadBlock 136 = .ok (.invokevirtual 118, 3) ∧ decode cX4_loadBlock 139 = .ok (.istore 7, 2) ∧ decode cX4_loadBlock 141 = .ok (.aload_n 0, 1) ∧ decode cX4_loadBlock 142 = .ok (.aload_n 1, 1) ∧ decode cX4_loadBlock 143 = .ok (.invokevirtual 118, 3) ∧ decode cX4_loadBlock 146 = .ok (.istore 8, 2) := by decide +kernel
theorem eX4_loadBlock_148 : decode cX4_loadBlock 148 = .ok (.aload_n 2, 1) ∧ decode cX4_loadBlock 149 = .ok (.getfield 77, 3) ∧ decode cX4_loadBlock 152 = .ok (.aload_n 2, 1) ∧ decode cX4_loadBlock 153 = .ok (.iload_n 3, 1) ∧ decode cX4_loadBlock 154 = .ok (.iload 6, 2) ∧ decode cX4_loadBlock 156 = .ok (.invokevirtual 80, 3) ∧ decode cX4_loadBlock 159 = .ok (.iload 7, 2) ∧ decode cX4_loadBlock 161 = .ok (.iastore, 1) := by decide +kernel
theorem eX4_loadBlock_162 : decode cX4_loadBlock 162 = .ok (.aload_n 2, 1) ∧ decode cX4_loadBlock 163 = .ok (.getfield 84, 3) ∧ decode cX4_loadBlock 166 = .ok (.aload_n 2, 1) ∧ decode cX4_loadBlock 167 = .ok (.iload_n 3, 1) ∧ decode cX4_loadBlock 168 = .ok (.iload 6, 2) ∧ decode cX4_loadBlock 170 = .ok (.invokevirtual 80, 3) ∧ decode cX4_loadBlock 173 = .ok (.iload 8, 2) ∧ decode cX4_loadBlock 175 = .ok (.iastore, 1) := by decide +kernel
theorem eX4_loadBlock_176 : decode cX4_loadBlock 176 = .ok (.iload 5, 2) ∧ decode cX4_loadBlock 178 = .ok (.ifCond .eq 23, 3) ∧ decode cX4_loadBlock 181 = .ok (.iload 7, 2) ∧ decode cX4_loadBlock 183 = .ok (.invokestatic 125, 3) ∧ decode cX4_loadBlock 186 = .ok (.ifCond .eq 15, 3) ∧ decode cX4_loadBlock 189 = .ok (.iload 8, 2) ∧ decode cX4_loadBlock 191 = .ok (.invokestatic 125, 3) ∧ decode cX4_loadBlock 194 = .ok (.ifCond .eq 7, 3) := by decide +kernel
theorem eX4_loadBlock_197 : decode cX4_loadBlock 197 = .ok (.iconst 1, 1) ∧ decode cX4_loadBlock 198 = .ok (.goto 4, 3) ∧ decode cX4_loadBlock 201 = .ok (.iconst 0, 1) ∧ decode cX4_loadBlock 202 = .ok (.istore 5, 2) ∧ decode cX4_loadBlock 204 = .ok (.iinc 6 1, 3) ∧ decode cX4_loadBlock 207 = .ok (.goto (-84), 3) ∧ decode cX4_loadBlock 210 = .ok (.iload 5, 2) ∧ decode cX4_loadBlock 212 = .ok (.ireturn, 1) := by decide +kernel
theorem eX4_loadHead_0 : decode cX4_loadHead 0 = .ok (.aload_n 0, 1) ∧ decode cX4_loadHead 1 = .ok (.aload_n 1, 1) ∧ decode cX4_loadHead 2 = .ok (.invokevirtual 113, 3) ∧ decode cX4_loadHead 5 = .ok (.istore_n 3, 1) ∧ decode cX4_loadHead 6 = .ok (.aload_n 2, 1) ∧ decode cX4_loadHead 7 = .ok (.iload_n 3, 1) ∧ decode cX4_loadHead 8 = .ok (.ldc 117, 2) ∧ decode cX4_loadHead 10 = .ok (.imul, 1) := by decide +kernel
theorem eX4_loadHead_11 : decode cX4_loadHead 11 = .ok (.aload_n 0, 1) ∧ decode cX4_loadHead 12 = .ok (.aload_n 1, 1) ∧ decode cX4_loadHead 13 = .ok (.invokevirtual 118, 3) ∧ decode cX4_loadHead 16 = .ok (.iadd, 1) ∧ decode cX4_loadHead 17 = .ok (.putfield 28, 3) ∧ decode cX4_loadHead 20 = .ok (.aload_n 2, 1) ∧ decode cX4_loadHead 21 = .ok (.getfield 28, 3) ∧ decode cX4_loadHead 24 = .ok (.ldc 121, 2) := by decide +kernel
theorem eX4_loadHead_26 : decode cX4_loadHead 26 = .ok (.if_icmp .gt 7, 3) ∧ decode cX4_loadHead 29 = .ok (.iconst 1, 1) ∧ decode cX4_loadHead 30 = .ok (.goto 4, 3) ∧ decode cX4_loadHead 33 = .ok (.iconst 0, 1) ∧ decode cX4_loadHead 34 = .ok (.istore 4, 2) ∧ decode cX4_loadHead 36 = .ok (.iconst 0, 1) ∧ decode cX4_loadHead 37 = .ok (.istore 5, 2) ∧ decode cX4_loadHead 39 = .ok (.iload 5, 2) := by decide +kernel
theorem eX4_loadHead_41 : decode cX4_loadHead 41 = .ok (.bipush 8, 2) ∧ decode cX4_loadHead 43 = .ok (.if_icmp .ge 79, 3) ∧ decode cX4_loadHead 46 = .ok (.aload_n 2, 1) ∧ decode cX4_loadHead 47 = .ok (.getfield 41, 3) ∧ decode cX4_loadHead 50 = .ok (.iload 5, 2) ∧ decode cX4_loadHead 52 = .ok (.aload_n 0, 1) ∧ decode cX4_loadHead 53 = .ok (.aload_n 1, 1) ∧ decode cX4_loadHead 54 = .ok (.invokevirtual 113, 3) := by decide +kernel
theorem eX4_loadHead_57 : decode cX4_loadHead 57 = .ok (.invokestatic 122, 3) ∧ decode cX4_loadHead 60 = .ok (.iastore, 1) ∧ decode cX4_loadHead 61 = .ok (.aload_n 2, 1) ∧ decode cX4_loadHead 62 = .ok (.getfield 48, 3) ∧ decode cX4_loadHead 65 = .ok (.iload 5, 2) ∧ decode cX4_loadHead 67 = .ok (.aload_n 0, 1) ∧ decode cX4_loadHead 68 = .ok (.aload_n 1, 1) ∧ decode cX4_loadHead 69 = .ok (.invokevirtual 113, 3) := by decide +kernel
theorem eX4_loadHead_72 : decode cX4_loadHead 72 = .ok (.invokestatic 122, 3) ∧ decode cX4_loadHead 75 = .ok (.iastore, 1) ∧ decode cX4_loadHead 76 = .ok (.iload 4, 2) ∧ decode cX4_loadHead 78 = .ok (.ifCond .eq 35, 3) ∧ decode cX4_loadHead 81 = .ok (.aload_n 2, 1) ∧ decode cX4_loadHead 82 = .ok (.getfield 41, 3) ∧ decode cX4_loadHead 85 = .ok (.iload 5, 2) ∧ decode cX4_loadHead 87 = .ok (.iaload, 1) := by decide +kernel
theorem eX4_loadHead_88 : decode cX4_loadHead 88 = .ok (.aload_n 2, 1) ∧ decode cX4_loadHead 89 = .ok (.getfield 51, 3) ∧ decode cX4_loadHead 92 = .ok (.if_icmp .ge 21, 3) ∧ decode cX4_loadHead 95 = .ok (.aload_n 2, 1) ∧ decode cX4_loadHead 96 = .ok (.getfield 48, 3) ∧ decode cX4_loadHead 99 = .ok (.iload 5, 2) ∧ decode cX4_loadHead 101 = .ok (.iaload, 1) ∧ decode cX4_loadHead 102 = .ok (.aload_n 2, 1) := by decide +kernel
theorem eX4_loadHead_103 : decode cX4_loadHead 103 = .ok (.getfield 51, 3) ∧ decode cX4_loadHead 106 = .ok (.if_icmp .ge 7, 3) ∧ decode cX4_loadHead 109 = .ok (.iconst 1, 1) ∧ decode cX4_loadHead 110 = .ok (.goto 4, 3) ∧ decode cX4_loadHead 113 = .ok (.iconst 0, 1) ∧ decode cX4_loadHead 114 = .ok (.istore 4, 2) ∧ decode cX4_loadHead 116 = .ok (.iinc 5 1, 3) ∧ decode cX4_loadHead 119 = .ok (.goto (-80), 3) := by decide +kernel
theorem eX4_loadHead_122 : decode cX4_loadHead 122 = .ok (.iload 4, 2) ∧ decode cX4_loadHead 124 = .ok (.ireturn, 1) ∧ decode cX4_next 0 = .ok (.aload_n 1, 1) ∧ decode cX4_next 1 = .ok (.aload_n 0, 1) ∧ decode cX4_next 2 = .ok (.getfield 99, 3) ∧ decode cX4_next 5 = .ok (.invokevirtual 92, 3) ∧ decode cX4_next 8 = .ok (.istore_n 2, 1) ∧ decode cX4_next 9 = .ok (.aload_n 0, 1) := by decide +kernel
theorem eX4_next_10 : decode cX4_next 10 = .ok (.dup, 1) ∧ decode cX4_next 11 = .ok (.getfield 99, 3) ∧ decode cX4_next 14 = .ok (.iconst 1, 1) ∧ decode cX4_next 15 = .ok (.iadd, 1) ∧ decode cX4_next 16 = .ok (.putfield 99, 3) ∧ decode cX4_next 19 = .ok (.iload_n 2, 1) ∧ decode cX4_next 20 = .ok (.ireturn, 1) ∧ decode cX4_nextPair 0 = .ok (.aload_n 0, 1) := by decide +kernel
theorem eX4_nextPair_1 : decode cX4_nextPair 1 = .ok (.aload_n 1, 1) ∧ decode cX4_nextPair 2 = .ok (.invokevirtual 113, 3) ∧ decode cX4_nextPair 5 = .ok (.istore_n 2, 1) ∧ decode cX4_nextPair 6 = .ok (.iload_n 2, 1) ∧ decode cX4_nextPair 7 = .ok (.sipush 256, 3) ∧ decode cX4_nextPair 10 = .ok (.imul, 1) ∧ decode cX4_nextPair 11 = .ok (.aload_n 0, 1) ∧ decode cX4_nextPair 12 = .ok (.aload_n 1, 1) := by decide +kernel
theorem eX4_nextPair_13 : decode cX4_nextPair 13 = .ok (.invokevirtual 113, 3) ∧ decode cX4_nextPair 16 = .ok (.iadd, 1) ∧ decode cX4_nextPair 17 = .ok (.ireturn, 1) ∧ decode cX4_rootOf 0 = .ok (.iload_n 0, 1) ∧ decode cX4_rootOf 1 = .ok (.sipush 255, 3) ∧ decode cX4_rootOf 4 = .ok (.if_icmp .ne 6, 3) ∧ decode cX4_rootOf 7 = .ok (.bipush (-2), 2) ∧ decode cX4_rootOf 9 = .ok (.ireturn, 1) := by decide +kernel
theorem eX4_rootOf_10 : decode cX4_rootOf 10 = .ok (.iload_n 0, 1) ∧ decode cX4_rootOf 11 = .ok (.sipush 254, 3) ∧ decode cX4_rootOf 14 = .ok (.if_icmp .ne 7, 3) ∧ decode cX4_rootOf 17 = .ok (.iconst (-1), 1) ∧ decode cX4_rootOf 18 = .ok (.goto 4, 3) ∧ decode cX4_rootOf 21 = .ok (.iload_n 0, 1) ∧ decode cX4_rootOf 22 = .ok (.ireturn, 1) := by decide +kernel
set_option maxHeartbeats 4000000 in
set_option maxRecDepth 100000 in
theorem k_x4_refsAre_v2 (l : Launch) (D : va_G) (a : Nat → Nat) (sz : Nat) (s : MS) (o : (Int × MS)) (h : m_x4_refsAre_v2 s = some o) : yWi l yX4_refsAre cX4_refsAre 7 (some .boolean) { frames := 1, cells := 0, slots := 0, locals := 60 } D sz [.ref (a 16), .ref (a 71), .ref (a 73), .ref (a 79)] (CS D a s) (CS D a o.2) (i2 o.1) := by
  refine Met.ofW (cc := cX4_refsAre) (maxL := 7) (ret := (some .boolean)) (by decide) rfl ?_
  intro p e s₀ m args below meth c s₁ B hml hv
  obtain ⟨rfl, ⟨hsz, hP, hK, hD0⟩, hN⟩ := hv
  have hx := B.exec
  have hb := B.bytes
  have hr := B.returns
  have hts := atoms_spec (ws := wz yX4_refsAre cX4_refsAre 7 (some .boolean)) B.pre
  have ht : ∀ w ∈ lw_gd, w.before _ s₀ = true := fun w h => hts w (List.mem_cons_of_mem _ h)
  have hown : s₀.vm.findClass RX4 = some m.cls := findClass_of_methodNamed B.named
  have hlocks := B.notSynchronized
  subst hsz
  have hD := hD0.self (sz := s₀.heap.size)
  generalize hAe : va_A (CS D a s) s₀.heap.size = A at hD ⊢
  have hA : ∀ q : Nat, s₀.heap.size ≤ q → A q := fun q h => by rw [← hAe]; exact Or.inr h
  have hS : va_S A s₀.heap s₀.heap [] := va_S.rf
  have hDD : ∀ t : MS, va_D A (CS D a t) := fun t => CW_D t hD
  have hl := lv_entry ([.ref (a 16), .ref (a 71), .ref (a 73), .ref (a 79)]) (n := 7) (Nat.le_of_ble_eq_true rfl)
  rw [lg_entry_eq]
  generalize (lg_sl ([.ref (a 16), .ref (a 71), .ref (a 73), .ref (a 79)]) ++ List.replicate (7 - (lg_sl ([.ref (a 16), .ref (a 71), .ref (a 73), .ref (a 79)])).length) Slot.unset).toArray = ls at hl ⊢
  have hl : lv_has ls 7 [(0, .ref (a 16)), (1, .ref (a 71)), (2, .ref (a 73)), (3, .ref (a 79))] := hl
  unfold m_x4_refsAre_v2 at h
  refine y_loop (pcJ := 151) (σ := Int × MS) (fun n u H locs ls => va_P D vwCl (CS D a u.2) H ∧ va_S A s₀.heap H locs ∧ lv_has ls 7 [(0, .ref (a 16)), (1, .ref (a 71)), (2, .ref (a 73)), (4, .int (i2 u.1))] ∧ m_x4_refsAre_v2_L151 n u.1 u.2 = some o) (fun u => []) (fun u H locs ls hI => by obtain ⟨_, _, _, h⟩ := hI; cases h) (fun n151 ih151 u H locs ls hI => ?_) (fun J151 => ?_)
  · obtain ⟨hP, hS, hl, h⟩ := hI
    obtain ⟨x1, s2⟩ := u
    have hP : va_P D vwCl (CS D a s2) H := hP
    have hl : lv_has ls 7 [(0, .ref (a 16)), (1, .ref (a 71)), (2, .ref (a 73)), (4, .int (i2 x1))] := hl
    have h : m_x4_refsAre_v2_b151 (m_x4_refsAre_v2_L151 n151) x1 s2 = some o := h
    unfold m_x4_refsAre_v2_b151 at h
    refine lv_iload hx hb eX4_refsAre_135.2.2.2.2.2.2.2 (lv_at hl 3 rfl) ?_
    refine lv_aload_n hx hb eX4_refsAre_153.1 rfl (lv_at hl 1 rfl) ?_
    refine va_get (D := D) (ci := 8) (v := .int (i2 (gI s2 1420))) (C := RX8) (T := TX8) (N := 11) hx hb ht inX8 hown hK hP 71 CW_71 rfl 0 (by decide) (ht (.fieldLink RX4 51 "CloneVolumes$State" "blocks" "I") fl_X4_51) (fun _ h9 => h9) rfl eX4_refsAre_153.2.1 ?_
    obtain ⟨hr3, h⟩ := rg_e h
    obtain ⟨hr4, h⟩ := rg_e h
    refine lv_icmp_ge (tgt := 182) hx hb eX4_refsAre_153.2.2.1 (by decide) (fun c5 => ?_) (fun c5 => ?_)
    · have h := if_t ((i2_le (x := (gI s2 1420)) (y := x1) hr4 hr3).mp c5) h
      refine lv_iconst (v := 1) hx hb eX4_refsAre_168.2.2.2.2.2.2.2 (by decide) ?_
      obtain rfl := Option.some.inj h
      exact W.zret (v := 1) hx hb hr (by decide) (fun t ht hW => ⟨⟨_, (), rfl, rfl, by rw [ht]; exact hP, va_K.moved hW.alike hK, hDD _⟩, hS.F ht⟩) hS.2.2 eX4_refsAre_183.1
    · have h := if_f (mt (i2_le (x := (gI s2 1420)) (y := x1) hr4 hr3).mpr c5) h
      refine lv_aload_n hx hb eX4_refsAre_153.2.2.2.1 rfl (lv_at hl 0 rfl) ?_
      refine va_get (D := D) (ci := 4) (v := .ref (a 20)) (C := RX4) (T := TX4) (N := 6) hx hb ht inX4 hown hK hP 16 CW_16 rfl 5 (by decide) (ht (.fieldLink RX4 21 "CloneVolumes$Picture" "refs" "[I") fl_X4_21) (fun _ h9 => h9) rfl eX4_refsAre_153.2.2.2.2.1 ?_
      refine lv_iload hx hb eX4_refsAre_153.2.2.2.2.2.1 (lv_at hl 3 rfl) ?_
      obtain ⟨y6, ey6, iy6, h⟩ := rdI_e h
      refine ya_iald (i := x1) hx hb hK hP 20 0 CW_20 rfl (by decide) ey6 iy6 eX4_refsAre_153.2.2.2.2.2.2.1 ?_
      refine lv_aload_n hx hb eX4_refsAre_153.2.2.2.2.2.2.2 rfl (lv_at hl 2 rfl) ?_
      refine lv_iload hx hb eX4_refsAre_168.1 (lv_at hl 3 rfl) ?_
      obtain ⟨y7, ey7, iy7, h⟩ := rdI_e h
      refine ya_iald (i := x1) hx hb hK hP 73 0 CW_73 rfl (by decide) ey7 iy7 eX4_refsAre_168.2.1 ?_
      obtain ⟨hr8, h⟩ := rg_e h
      obtain ⟨hr9, h⟩ := rg_e h
      refine lv_icmp_eq (tgt := 176) hx hb eX4_refsAre_168.2.2.1 (by decide) (fun c10 => ?_) (fun c10 => ?_)
      · have h := if_t ((i2_eq (x := y6) (y := y7) hr8 hr9).mp c10) h
        refine lv_iinc (v := i2 (x1 + 1)) (lv' := [(4, .int (i2 (x1 + 1))), (0, .ref (a 16)), (1, .ref (a 71)), (2, .ref (a 73))]) hx hb eX4_refsAre_168.2.2.2.2.2.1 hl (k := 3) rfl (i2_add x1 1) (by decide) rfl (fun ls hl => ?_)
        refine lv_goto (tgt := 151) hx hb eX4_refsAre_168.2.2.2.2.2.2.1 (by decide) ?_
        exact ih151 (x1 + 1, s2) _ _ _ ⟨hP, hS, lv_sub hl [1, 2, 3, 0] rfl, h⟩
      · have h := if_f (mt (i2_eq (x := y6) (y := y7) hr8 hr9).mpr c10) h
        refine lv_iconst (v := 0) hx hb eX4_refsAre_168.2.2.2.1 (by decide) ?_
        obtain rfl := Option.some.inj h
        exact W.zret (v := 0) hx hb hr (by decide) (fun t ht hW => ⟨⟨_, (), rfl, rfl, by rw [ht]; exact hP, va_K.moved hW.alike hK, hDD _⟩, hS.F ht⟩) hS.2.2 eX4_refsAre_168.2.2.2.2.1
  refine y_loop (pcJ := 65) (σ := Int × MS) (fun n u H locs ls => va_P D vwCl (CS D a u.2) H ∧ va_S A s₀.heap H locs ∧ lv_has ls 7 [(0, .ref (a 16)), (1, .ref (a 71)), (2, .ref (a 73)), (4, .int (i2 u.1))] ∧ m_x4_refsAre_v2_L65 n u.1 u.2 = some o) (fun u => []) (fun u H locs ls hI => by obtain ⟨_, _, _, h⟩ := hI; cases h) (fun n65 ih65 u H locs ls hI => ?_) (fun J65 => ?_)
  · obtain ⟨hP, hS, hl, h⟩ := hI
    obtain ⟨x11, s12⟩ := u
    have hP : va_P D vwCl (CS D a s12) H := hP
    have hl : lv_has ls 7 [(0, .ref (a 16)), (1, .ref (a 71)), (2, .ref (a 73)), (4, .int (i2 x11))] := hl
    have h : m_x4_refsAre_v2_b65 (m_x4_refsAre_v2_L65 n65) x11 s12 = some o := h
    unfold m_x4_refsAre_v2_b65 at h
    refine y_loop (pcJ := 107) (σ := Int × Int × Int × MS) (fun n u H locs ls => va_P D vwCl (CS D a u.2.2.2) H ∧ va_S A s₀.heap H locs ∧ lv_has ls 7 [(0, .ref (a 16)), (1, .ref (a 71)), (2, .ref (a 73)), (4, .int (i2 u.1)), (5, .int (i2 u.2.1)), (6, .int (i2 u.2.2.1))] ∧ m_x4_refsAre_v2_L107 (m_x4_refsAre_v2_L65 n65) n u.1 u.2.1 u.2.2.1 u.2.2.2 = some o) (fun u => []) (fun u H locs ls hI => by obtain ⟨_, _, _, h⟩ := hI; cases h) (fun n107 ih107 u H locs ls hI => ?_) (fun J107 => ?_)
    · obtain ⟨hP, hS, hl, h⟩ := hI
      obtain ⟨x13, x14, x15, s16⟩ := u
      have hP : va_P D vwCl (CS D a s16) H := hP
      have hl : lv_has ls 7 [(0, .ref (a 16)), (1, .ref (a 71)), (2, .ref (a 73)), (4, .int (i2 x13)), (5, .int (i2 x14)), (6, .int (i2 x15))] := hl
      have h : m_x4_refsAre_v2_b107 (m_x4_refsAre_v2_L65 n65) (m_x4_refsAre_v2_L107 (m_x4_refsAre_v2_L65 n65) n107) x13 x14 x15 s16 = some o := h
      unfold m_x4_refsAre_v2_b107 at h
      refine lv_iload hx hb eX4_refsAre_107.1 (lv_at hl 5 rfl) ?_
      refine lv_iload hx hb eX4_refsAre_107.2.1 (lv_at hl 4 rfl) ?_
      obtain ⟨hr17, h⟩ := rg_e h
      obtain ⟨hr18, h⟩ := rg_e h
      refine lv_icmp_ge (tgt := 142) hx hb eX4_refsAre_107.2.2.1 (by decide) (fun c19 => ?_) (fun c19 => ?_)
      · have h := if_t ((i2_le (x := x14) (y := x15) hr18 hr17).mp c19) h
        refine lv_iinc (v := i2 (x13 + 1)) (lv' := [(4, .int (i2 (x13 + 1))), (0, .ref (a 16)), (1, .ref (a 71)), (2, .ref (a 73)), (5, .int (i2 x14)), (6, .int (i2 x15))]) hx hb eX4_refsAre_135.2.2.2.1 hl (k := 3) rfl (i2_add x13 1) (by decide) rfl (fun ls hl => ?_)
        refine lv_goto (tgt := 65) hx hb eX4_refsAre_135.2.2.2.2.1 (by decide) ?_
        exact ih65 (x13 + 1, s16) _ _ _ ⟨hP, hS, lv_sub hl [1, 2, 3, 0] rfl, h⟩
      · have h := if_f (mt (i2_le (x := x14) (y := x15) hr18 hr17).mpr c19) h
        refine lv_aload_n hx hb eX4_refsAre_107.2.2.2.1 rfl (lv_at hl 0 rfl) ?_
        refine va_get (D := D) (ci := 4) (v := .ref (a 20)) (C := RX4) (T := TX4) (N := 6) hx hb ht inX4 hown hK hP 16 CW_16 rfl 5 (by decide) (ht (.fieldLink RX4 21 "CloneVolumes$Picture" "refs" "[I") fl_X4_21) (fun _ h9 => h9) rfl eX4_refsAre_107.2.2.2.2.1 ?_
        refine lv_aload_n hx hb eX4_refsAre_107.2.2.2.2.2.1 rfl (lv_at hl 1 rfl) ?_
        refine va_get (D := D) (ci := 8) (v := .ref (a 77)) (C := RX8) (T := TX8) (N := 11) hx hb ht inX8 hown hK hP 71 CW_71 rfl 8 (by decide) (ht (.fieldLink RX4 84 "CloneVolumes$State" "values" "[I") fl_X4_84) (fun _ h9 => h9) rfl eX4_refsAre_107.2.2.2.2.2.2.1 ?_
        refine lv_aload_n hx hb eX4_refsAre_107.2.2.2.2.2.2.2 rfl (lv_at hl 1 rfl) ?_
        refine lv_iload hx hb eX4_refsAre_123.1 (lv_at hl 3 rfl) ?_
        refine lv_iload hx hb eX4_refsAre_123.2.1 (lv_at hl 5 rfl) ?_
        obtain ⟨r21, hc20, h⟩ := bn_e h
        refine ycV (r0 := i2 r21) (As := [.int (i2 x13), .int (i2 x15)]) (rest := [.ref (a 77), .ref (a 20)]) (C := RX8) (n := 2) ⟨hx, hb, hml, hown, ht⟩ (k_x8_slot_v2 l D a x13 x15 _ _ hc20) (zgV ml_X4_80 im_X8_slot se_X8_slot in_X8 co_X8_slot) rfl rfl (by decide +kernel) ⟨Nat.le_of_ble_eq_true rfl, Nat.le_of_ble_eq_true rfl⟩ hN hK hP hS 71 CW_71 rfl rfl rfl hl.1 rfl (Nat.le_of_ble_eq_true rfl) eX4_refsAre_123.2.2.1 ⟨Nat.le_of_ble_eq_true rfl, Nat.le_of_ble_eq_true rfl⟩ (fun H locs hP hS => ?_)
        obtain ⟨y22, ey22, iy22, h⟩ := rdI_e h
        refine ya_iald (i := r21) hx hb hK hP 77 0 CW_77 rfl (by decide) ey22 iy22 eX4_refsAre_123.2.2.2.1 ?_
        refine lv_dup2_11 hx hb eX4_refsAre_123.2.2.2.2.1 rfl rfl ?_
        obtain ⟨y23, ey23, iy23, h⟩ := rdI_e h
        refine ya_iald (i := y22) hx hb hK hP 20 0 CW_20 rfl (by decide) ey23 iy23 eX4_refsAre_123.2.2.2.2.2.1 ?_
        refine lv_iconst (v := 1) hx hb eX4_refsAre_123.2.2.2.2.2.2.1 (by decide) ?_
        refine lv_iadd hx hb eX4_refsAre_123.2.2.2.2.2.2.2 ?_
        refine z_topi (y := i2 (y23 + 1)) (i2_add y23 1) ?_
        obtain ⟨hi24, h⟩ := inb_e h
        refine ya_iast (i := y22) (x := (y23 + 1)) hx hb hK hP (hDD _) hS 20 0 CW_20 rfl (by decide) hi24 eX4_refsAre_135.1 (CW_w20 _) (fun H locs hP hS => ?_)
        obtain ⟨s25, hs25, h⟩ := st_e h
        rw [hs25] at hP
        refine lv_iinc (v := i2 (x15 + 1)) (lv' := [(6, .int (i2 (x15 + 1))), (0, .ref (a 16)), (1, .ref (a 71)), (2, .ref (a 73)), (4, .int (i2 x13)), (5, .int (i2 x14))]) hx hb eX4_refsAre_135.2.1 hl (k := 5) rfl (i2_add x15 1) (by decide) rfl (fun ls hl => ?_)
        refine lv_goto (tgt := 107) hx hb eX4_refsAre_135.2.2.1 (by decide) ?_
        exact ih107 (x13, x14, x15 + 1, s25) _ _ _ ⟨hP, hS, lv_sub hl [1, 2, 3, 4, 5, 0] rfl, h⟩
    refine y_head (pcJ := 102) (σ := Int × Int × MS) (fun u H locs ls => va_P D vwCl (CS D a u.2.2) H ∧ va_S A s₀.heap H locs ∧ lv_has ls 7 [(0, .ref (a 16)), (1, .ref (a 71)), (2, .ref (a 73)), (4, .int (i2 u.1))] ∧ m_x4_refsAre_v2_J102 (m_x4_refsAre_v2_L65 n65) u.1 u.2.1 u.2.2 = some o) (fun u => [.int (i2 u.2.1)]) (fun u H locs ls hI => ?_) (fun J102 => ?_)
    · obtain ⟨hP, hS, hl, h⟩ := hI
      obtain ⟨x26, x27, s28⟩ := u
      have hP : va_P D vwCl (CS D a s28) H := hP
      have hl : lv_has ls 7 [(0, .ref (a 16)), (1, .ref (a 71)), (2, .ref (a 73)), (4, .int (i2 x26))] := hl
      have h : m_x4_refsAre_v2_J102 (m_x4_refsAre_v2_L65 n65) x26 x27 s28 = some o := h
      unfold m_x4_refsAre_v2_J102 at h
      refine lv_istore (lv' := [(5, .int (i2 x27)), (0, .ref (a 16)), (1, .ref (a 71)), (2, .ref (a 73)), (4, .int (i2 x26))]) hx hb eX4_refsAre_92.2.2.2.2.2.1 hl (by decide) rfl (fun ls hl => ?_)
      refine lv_iconst (v := 0) hx hb eX4_refsAre_92.2.2.2.2.2.2.1 (by decide) ?_
      refine lv_istore (lv' := [(6, .int 0), (5, .int (i2 x27)), (0, .ref (a 16)), (1, .ref (a 71)), (2, .ref (a 73)), (4, .int (i2 x26))]) hx hb eX4_refsAre_92.2.2.2.2.2.2.2 hl (by decide) rfl (fun ls hl => ?_)
      exact J107 FU (x26, x27, 0, s28) _ _ _ ⟨hP, hS, lv_sub hl [2, 3, 4, 5, 1, 0] rfl, h⟩
    refine y_head (pcJ := 101) (σ := Int × MS) (fun u H locs ls => va_P D vwCl (CS D a u.2) H ∧ va_S A s₀.heap H locs ∧ lv_has ls 7 [(0, .ref (a 16)), (1, .ref (a 71)), (2, .ref (a 73)), (4, .int (i2 u.1))] ∧ m_x4_refsAre_v2_J101 (m_x4_refsAre_v2_L65 n65) u.1 u.2 = some o) (fun u => []) (fun u H locs ls hI => ?_) (fun J101 => ?_)
    · obtain ⟨hP, hS, hl, h⟩ := hI
      obtain ⟨x29, s30⟩ := u
      have hP : va_P D vwCl (CS D a s30) H := hP
      have hl : lv_has ls 7 [(0, .ref (a 16)), (1, .ref (a 71)), (2, .ref (a 73)), (4, .int (i2 x29))] := hl
      have h : m_x4_refsAre_v2_J101 (m_x4_refsAre_v2_L65 n65) x29 s30 = some o := h
      unfold m_x4_refsAre_v2_J101 at h
      refine lv_iconst (v := 0) hx hb eX4_refsAre_92.2.2.2.2.1 (by decide) ?_
      exact J102 (x29, 0, s30) _ _ _ ⟨hP, hS, lv_sub hl [0, 1, 2, 3] rfl, h⟩
    refine lv_iload hx hb eX4_refsAre_62.2.2.1 (lv_at hl 3 rfl) ?_
    refine lv_aload_n hx hb eX4_refsAre_62.2.2.2.1 rfl (lv_at hl 1 rfl) ?_
    refine va_get (D := D) (ci := 8) (v := .int (i2 (gI s12 1420))) (C := RX8) (T := TX8) (N := 11) hx hb ht inX8 hown hK hP 71 CW_71 rfl 0 (by decide) (ht (.fieldLink RX4 51 "CloneVolumes$State" "blocks" "I") fl_X4_51) (fun _ h9 => h9) rfl eX4_refsAre_62.2.2.2.2.1 ?_
    obtain ⟨hr31, h⟩ := rg_e h
    obtain ⟨hr32, h⟩ := rg_e h
    refine lv_icmp_ge (tgt := 148) hx hb eX4_refsAre_62.2.2.2.2.2.1 (by decide) (fun c33 => ?_) (fun c33 => ?_)
    · have h := if_t ((i2_le (x := (gI s12 1420)) (y := x11) hr32 hr31).mp c33) h
      refine lv_iconst (v := 0) hx hb eX4_refsAre_135.2.2.2.2.2.1 (by decide) ?_
      refine lv_istore (lv' := [(4, .int 0), (0, .ref (a 16)), (1, .ref (a 71)), (2, .ref (a 73))]) hx hb eX4_refsAre_135.2.2.2.2.2.2.1 hl (by decide) rfl (fun ls hl => ?_)
      exact J151 FU (0, s12) _ _ _ ⟨hP, hS, lv_sub hl [1, 2, 3, 0] rfl, h⟩
    · have h := if_f (mt (i2_le (x := (gI s12 1420)) (y := x11) hr32 hr31).mpr c33) h
      refine lv_aload_n hx hb eX4_refsAre_62.2.2.2.2.2.2.1 rfl (lv_at hl 2 rfl) ?_
      refine lv_iload hx hb eX4_refsAre_62.2.2.2.2.2.2.2 (lv_at hl 3 rfl) ?_
      obtain ⟨y34, ey34, iy34, h⟩ := rdI_e h
      refine ya_iald (i := x11) hx hb hK hP 73 0 CW_73 rfl (by decide) ey34 iy34 eX4_refsAre_77.1 ?_
      obtain ⟨hr35, h⟩ := rg_e h
      refine lv_if_le (tgt := 101) hx hb eX4_refsAre_77.2.1 (by decide) (fun c36 => ?_) (fun c36 => ?_)
      · have h := if_t ((i2_le (x := y34) (y := 0) hr35 (by decide)).mp c36) h
        exact J101 (x11, s12) _ _ _ ⟨hP, hS, lv_sub hl [0, 1, 2, 3] rfl, h⟩
      · have h := if_f (mt (i2_le (x := y34) (y := 0) hr35 (by decide)).mpr c36) h
        refine lv_aload_n hx hb eX4_refsAre_77.2.2.1 rfl (lv_at hl 1 rfl) ?_
        refine va_get (D := D) (ci := 8) (v := .ref (a 74)) (C := RX8) (T := TX8) (N := 11) hx hb ht inX8 hown hK hP 71 CW_71 rfl 5 (by decide) (ht (.fieldLink RX4 72 "CloneVolumes$State" "level" "[I") fl_X4_72) (fun _ h9 => h9) rfl eX4_refsAre_77.2.2.2.1 ?_
        refine lv_iload hx hb eX4_refsAre_77.2.2.2.2.1 (lv_at hl 3 rfl) ?_
        obtain ⟨y37, ey37, iy37, h⟩ := rdI_e h
        refine ya_iald (i := x11) hx hb hK hP 74 0 CW_74 rfl (by decide) ey37 iy37 eX4_refsAre_77.2.2.2.2.2.1 ?_
        obtain ⟨hr38, h⟩ := rg_e h
        refine lv_if_le (tgt := 101) hx hb eX4_refsAre_77.2.2.2.2.2.2.1 (by decide) (fun c39 => ?_) (fun c39 => ?_)
        · have h := if_t ((i2_le (x := y37) (y := 0) hr38 (by decide)).mp c39) h
          exact J101 (x11, s12) _ _ _ ⟨hP, hS, lv_sub hl [0, 1, 2, 3] rfl, h⟩
        · have h := if_f (mt (i2_le (x := y37) (y := 0) hr38 (by decide)).mpr c39) h
          refine lv_aload_n hx hb eX4_refsAre_77.2.2.2.2.2.2.2 rfl (lv_at hl 1 rfl) ?_
          refine va_get (D := D) (ci := 8) (v := .ref (a 75)) (C := RX8) (T := TX8) (N := 11) hx hb ht inX8 hown hK hP 71 CW_71 rfl 6 (by decide) (ht (.fieldLink RX4 75 "CloneVolumes$State" "size" "[I") fl_X4_75) (fun _ h9 => h9) rfl eX4_refsAre_92.1 ?_
          refine lv_iload hx hb eX4_refsAre_92.2.1 (lv_at hl 3 rfl) ?_
          obtain ⟨y40, ey40, iy40, h⟩ := rdI_e h
          refine ya_iald (i := x11) hx hb hK hP 75 0 CW_75 rfl (by decide) ey40 iy40 eX4_refsAre_92.2.2.1 ?_
          refine lv_goto (tgt := 102) hx hb eX4_refsAre_92.2.2.2.1 (by decide) ?_
          exact J102 (x11, y40, s12) _ _ _ ⟨hP, hS, lv_sub hl [0, 1, 2, 3] rfl, h⟩
  refine y_loop (pcJ := 29) (σ := Int × MS) (fun n u H locs ls => va_P D vwCl (CS D a u.2) H ∧ va_S A s₀.heap H locs ∧ lv_has ls 7 [(0, .ref (a 16)), (1, .ref (a 71)), (2, .ref (a 73)), (3, .ref (a 79)), (4, .int (i2 u.1))] ∧ m_x4_refsAre_v2_L29 n u.1 u.2 = some o) (fun u => []) (fun u H locs ls hI => by obtain ⟨_, _, _, h⟩ := hI; cases h) (fun n29 ih29 u H locs ls hI => ?_) (fun J29 => ?_)
  · obtain ⟨hP, hS, hl, h⟩ := hI
    obtain ⟨x41, s42⟩ := u
    have hP : va_P D vwCl (CS D a s42) H := hP
    have hl : lv_has ls 7 [(0, .ref (a 16)), (1, .ref (a 71)), (2, .ref (a 73)), (3, .ref (a 79)), (4, .int (i2 x41))] := hl
    have h : m_x4_refsAre_v2_b29 (m_x4_refsAre_v2_L29 n29) x41 s42 = some o := h
    unfold m_x4_refsAre_v2_b29 at h
    refine y_head (pcJ := 56) (σ := Int × MS) (fun u H locs ls => va_P D vwCl (CS D a u.2) H ∧ va_S A s₀.heap H locs ∧ lv_has ls 7 [(0, .ref (a 16)), (1, .ref (a 71)), (2, .ref (a 73)), (3, .ref (a 79)), (4, .int (i2 u.1))] ∧ m_x4_refsAre_v2_J56 (m_x4_refsAre_v2_L29 n29) u.1 u.2 = some o) (fun u => []) (fun u H locs ls hI => ?_) (fun J56 => ?_)
    · obtain ⟨hP, hS, hl, h⟩ := hI
      obtain ⟨x43, s44⟩ := u
      have hP : va_P D vwCl (CS D a s44) H := hP
      have hl : lv_has ls 7 [(0, .ref (a 16)), (1, .ref (a 71)), (2, .ref (a 73)), (3, .ref (a 79)), (4, .int (i2 x43))] := hl
      have h : m_x4_refsAre_v2_J56 (m_x4_refsAre_v2_L29 n29) x43 s44 = some o := h
      unfold m_x4_refsAre_v2_J56 at h
      refine lv_iinc (v := i2 (x43 + 1)) (lv' := [(4, .int (i2 (x43 + 1))), (0, .ref (a 16)), (1, .ref (a 71)), (2, .ref (a 73)), (3, .ref (a 79))]) hx hb eX4_refsAre_50.2.2.2.2.2.2.1 hl (k := 4) rfl (i2_add x43 1) (by decide) rfl (fun ls hl => ?_)
      refine lv_goto (tgt := 29) hx hb eX4_refsAre_50.2.2.2.2.2.2.2 (by decide) ?_
      exact ih29 (x43 + 1, s44) _ _ _ ⟨hP, hS, lv_sub hl [1, 2, 3, 4, 0] rfl, h⟩
    refine lv_iload hx hb eX4_refsAre_19.2.2.2.2.2.1 (lv_at hl 4 rfl) ?_
    refine lv_bipush (v := 8) hx hb eX4_refsAre_19.2.2.2.2.2.2.1 (by decide) ?_
    obtain ⟨hr45, h⟩ := rg_e h
    refine lv_icmp_ge (tgt := 62) hx hb eX4_refsAre_19.2.2.2.2.2.2.2 (by decide) (fun c46 => ?_) (fun c46 => ?_)
    · have h := if_t ((i2_le (x := 8) (y := x41) (by decide) hr45).mp c46) h
      refine lv_iconst (v := 0) hx hb eX4_refsAre_62.1 (by decide) ?_
      refine lv_istore (lv' := [(4, .int 0), (0, .ref (a 16)), (1, .ref (a 71)), (2, .ref (a 73)), (3, .ref (a 79))]) hx hb eX4_refsAre_62.2.1 hl (by decide) rfl (fun ls hl => ?_)
      exact J65 FU (0, s42) _ _ _ ⟨hP, hS, lv_sub hl [1, 2, 3, 0] rfl, h⟩
    · have h := if_f (mt (i2_le (x := 8) (y := x41) (by decide) hr45).mpr c46) h
      refine lv_aload_n hx hb eX4_refsAre_36.1 rfl (lv_at hl 3 rfl) ?_
      refine lv_iload hx hb eX4_refsAre_36.2.1 (lv_at hl 4 rfl) ?_
      obtain ⟨y47, ey47, iy47, h⟩ := rdI_e h
      refine ya_iald (i := x41) hx hb hK hP 79 0 CW_79 rfl (by decide) ey47 iy47 eX4_refsAre_36.2.2.1 ?_
      obtain ⟨hr48, h⟩ := rg_e h
      refine lv_if_lt (tgt := 56) hx hb eX4_refsAre_36.2.2.2.1 (by decide) (fun c49 => ?_) (fun c49 => ?_)
      · have h := if_t ((i2_lt (x := y47) (y := 0) hr48 (by decide)).mp c49) h
        exact J56 (x41, s42) _ _ _ ⟨hP, hS, lv_sub hl [0, 1, 2, 3, 4] rfl, h⟩
      · have h := if_f (mt (i2_lt (x := y47) (y := 0) hr48 (by decide)).mpr c49) h
        refine lv_aload_n hx hb eX4_refsAre_36.2.2.2.2.1 rfl (lv_at hl 0 rfl) ?_
        refine va_get (D := D) (ci := 4) (v := .ref (a 20)) (C := RX4) (T := TX4) (N := 6) hx hb ht inX4 hown hK hP 16 CW_16 rfl 5 (by decide) (ht (.fieldLink RX4 21 "CloneVolumes$Picture" "refs" "[I") fl_X4_21) (fun _ h9 => h9) rfl eX4_refsAre_36.2.2.2.2.2.1 ?_
        refine lv_aload_n hx hb eX4_refsAre_36.2.2.2.2.2.2.1 rfl (lv_at hl 3 rfl) ?_
        refine lv_iload hx hb eX4_refsAre_36.2.2.2.2.2.2.2 (lv_at hl 4 rfl) ?_
        obtain ⟨y50, ey50, iy50, h⟩ := rdI_e h
        refine ya_iald (i := x41) hx hb hK hP 79 0 CW_79 rfl (by decide) ey50 iy50 eX4_refsAre_50.1 ?_
        refine lv_dup2_11 hx hb eX4_refsAre_50.2.1 rfl rfl ?_
        obtain ⟨y51, ey51, iy51, h⟩ := rdI_e h
        refine ya_iald (i := y50) hx hb hK hP 20 0 CW_20 rfl (by decide) ey51 iy51 eX4_refsAre_50.2.2.1 ?_
        refine lv_iconst (v := 1) hx hb eX4_refsAre_50.2.2.2.1 (by decide) ?_
        refine lv_iadd hx hb eX4_refsAre_50.2.2.2.2.1 ?_
        refine z_topi (y := i2 (y51 + 1)) (i2_add y51 1) ?_
        obtain ⟨hi52, h⟩ := inb_e h
        refine ya_iast (i := y50) (x := (y51 + 1)) hx hb hK hP (hDD _) hS 20 0 CW_20 rfl (by decide) hi52 eX4_refsAre_50.2.2.2.2.2.1 (CW_w20 _) (fun H locs hP hS => ?_)
        obtain ⟨s53, hs53, h⟩ := st_e h
        rw [hs53] at hP
        exact J56 (x41, s53) _ _ _ ⟨hP, hS, lv_sub hl [0, 1, 2, 3, 4] rfl, h⟩
  refine y_loop (pcJ := 3) (σ := Int × MS) (fun n u H locs ls => va_P D vwCl (CS D a u.2) H ∧ va_S A s₀.heap H locs ∧ lv_has ls 7 [(0, .ref (a 16)), (1, .ref (a 71)), (2, .ref (a 73)), (3, .ref (a 79)), (4, .int (i2 u.1))] ∧ m_x4_refsAre_v2_L3 n u.1 u.2 = some o) (fun u => []) (fun u H locs ls hI => by obtain ⟨_, _, _, h⟩ := hI; cases h) (fun n3 ih3 u H locs ls hI => ?_) (fun J3 => ?_)
  · obtain ⟨hP, hS, hl, h⟩ := hI
    obtain ⟨x54, s55⟩ := u
    have hP : va_P D vwCl (CS D a s55) H := hP
    have hl : lv_has ls 7 [(0, .ref (a 16)), (1, .ref (a 71)), (2, .ref (a 73)), (3, .ref (a 79)), (4, .int (i2 x54))] := hl
    have h : m_x4_refsAre_v2_b3 (m_x4_refsAre_v2_L3 n3) x54 s55 = some o := h
    unfold m_x4_refsAre_v2_b3 at h
    refine lv_iload hx hb eX4_refsAre_3.1 (lv_at hl 4 rfl) ?_
    refine lv_aload_n hx hb eX4_refsAre_3.2.1 rfl (lv_at hl 1 rfl) ?_
    refine va_get (D := D) (ci := 8) (v := .int (i2 (gI s55 1420))) (C := RX8) (T := TX8) (N := 11) hx hb ht inX8 hown hK hP 71 CW_71 rfl 0 (by decide) (ht (.fieldLink RX4 51 "CloneVolumes$State" "blocks" "I") fl_X4_51) (fun _ h9 => h9) rfl eX4_refsAre_3.2.2.1 ?_
    obtain ⟨hr56, h⟩ := rg_e h
    obtain ⟨hr57, h⟩ := rg_e h
    refine lv_icmp_ge (tgt := 26) hx hb eX4_refsAre_3.2.2.2.1 (by decide) (fun c58 => ?_) (fun c58 => ?_)
    · have h := if_t ((i2_le (x := (gI s55 1420)) (y := x54) hr57 hr56).mp c58) h
      refine lv_iconst (v := 0) hx hb eX4_refsAre_19.2.2.2.1 (by decide) ?_
      refine lv_istore (lv' := [(4, .int 0), (0, .ref (a 16)), (1, .ref (a 71)), (2, .ref (a 73)), (3, .ref (a 79))]) hx hb eX4_refsAre_19.2.2.2.2.1 hl (by decide) rfl (fun ls hl => ?_)
      exact J29 FU (0, s55) _ _ _ ⟨hP, hS, lv_sub hl [1, 2, 3, 4, 0] rfl, h⟩
    · have h := if_f (mt (i2_le (x := (gI s55 1420)) (y := x54) hr57 hr56).mpr c58) h
      refine lv_aload_n hx hb eX4_refsAre_3.2.2.2.2.1 rfl (lv_at hl 0 rfl) ?_
      refine va_get (D := D) (ci := 4) (v := .ref (a 20)) (C := RX4) (T := TX4) (N := 6) hx hb ht inX4 hown hK hP 16 CW_16 rfl 5 (by decide) (ht (.fieldLink RX4 21 "CloneVolumes$Picture" "refs" "[I") fl_X4_21) (fun _ h9 => h9) rfl eX4_refsAre_3.2.2.2.2.2.1 ?_
      refine lv_iload hx hb eX4_refsAre_3.2.2.2.2.2.2.1 (lv_at hl 4 rfl) ?_
      refine lv_iconst (v := 0) hx hb eX4_refsAre_3.2.2.2.2.2.2.2 (by decide) ?_
      obtain ⟨hi59, h⟩ := inb_e h
      refine ya_iast (i := x54) (x := 0) hx hb hK hP (hDD _) hS 20 0 CW_20 rfl (by decide) hi59 eX4_refsAre_19.1 (CW_w20 _) (fun H locs hP hS => ?_)
      obtain ⟨s60, hs60, h⟩ := st_e h
      rw [hs60] at hP
      refine lv_iinc (v := i2 (x54 + 1)) (lv' := [(4, .int (i2 (x54 + 1))), (0, .ref (a 16)), (1, .ref (a 71)), (2, .ref (a 73)), (3, .ref (a 79))]) hx hb eX4_refsAre_19.2.1 hl (k := 4) rfl (i2_add x54 1) (by decide) rfl (fun ls hl => ?_)
      refine lv_goto (tgt := 3) hx hb eX4_refsAre_19.2.2.1 (by decide) ?_
      exact ih3 (x54 + 1, s60) _ _ _ ⟨hP, hS, lv_sub hl [1, 2, 3, 4, 0] rfl, h⟩
  refine lv_iconst (v := 0) hx hb eX4_isSoundChild_109.2.2.2.2.2.2.1 (by decide) ?_
  refine lv_istore (lv' := [(4, .int 0), (0, .ref (a 16)), (1, .ref (a 71)), (2, .ref (a 73)), (3, .ref (a 79))]) hx hb eX4_isSoundChild_109.2.2.2.2.2.2.2 hl (by decide) rfl (fun ls hl => ?_)
  exact J3 FU (0, s) _ _ _ ⟨hP, hS, lv_sub hl [1, 2, 3, 4, 0] rfl, h⟩
set_option maxHeartbeats 4000000 in
set_option maxRecDepth 100000 in
theorem k_x4_isSound (l : Launch) (D : va_G) (a : Nat → Nat) (sz : Nat) (s : MS) (o : (Int × MS)) (h : m_x4_isSound s = some o) : yWi l yX4_isSound cX4_isSound 4 (some .boolean) { frames := 4, cells := 0, slots := 0, locals := 240 } D sz [.ref (a 16), .ref (a 71)] (CS D a s) (CS D a o.2) (i2 o.1) := by
  refine Met.ofW (cc := cX4_isSound) (maxL := 4) (ret := (some .boolean)) (by decide) rfl ?_
  intro p e s₀ m args below meth c s₁ B hml hv
  obtain ⟨rfl, ⟨hsz, hP, hK, hD0⟩, hN⟩ := hv
  have hx := B.exec
  have hb := B.bytes
  have hr := B.returns
  have hts := atoms_spec (ws := wz yX4_isSound cX4_isSound 4 (some .boolean)) B.pre
  have ht : ∀ w ∈ lw_gd, w.before _ s₀ = true := fun w h => hts w (List.mem_cons_of_mem _ h)
  have hown : s₀.vm.findClass RX4 = some m.cls := findClass_of_methodNamed B.named
  have hlocks := B.notSynchronized
  subst hsz
  have hD := hD0.self (sz := s₀.heap.size)
  generalize hAe : va_A (CS D a s) s₀.heap.size = A at hD ⊢
  have hA : ∀ q : Nat, s₀.heap.size ≤ q → A q := fun q h => by rw [← hAe]; exact Or.inr h
  have hS : va_S A s₀.heap s₀.heap [] := va_S.rf
  have hDD : ∀ t : MS, va_D A (CS D a t) := fun t => CW_D t hD
  have hl := lv_entry ([.ref (a 16), .ref (a 71)]) (n := 4) (Nat.le_of_ble_eq_true rfl)
  rw [lg_entry_eq]
  generalize (lg_sl ([.ref (a 16), .ref (a 71)]) ++ List.replicate (4 - (lg_sl ([.ref (a 16), .ref (a 71)])).length) Slot.unset).toArray = ls at hl ⊢
  have hl : lv_has ls 4 [(0, .ref (a 16)), (1, .ref (a 71))] := hl
  unfold m_x4_isSound at h
  refine y_head (pcJ := 96) (σ := Int × MS) (fun u H locs ls => va_P D vwCl (CS D a u.2) H ∧ va_S A s₀.heap H locs ∧ lv_has ls 4 [] ∧ m_x4_isSound_J96 u.1 u.2 = some o) (fun u => [.int (i2 u.1)]) (fun u H locs ls hI => ?_) (fun J96 => ?_)
  · obtain ⟨hP, hS, hl, h⟩ := hI
    obtain ⟨x1, s2⟩ := u
    have hP : va_P D vwCl (CS D a s2) H := hP
    have hl : lv_has ls 4 [] := hl
    have h : m_x4_isSound_J96 x1 s2 = some o := h
    unfold m_x4_isSound_J96 at h
    obtain ⟨hb3, h⟩ := bo_e h
    obtain rfl := Option.some.inj h
    exact W.zret (v := (i2 x1)) hx hb hr (bo_n hb3) (fun t ht hW => ⟨⟨_, (), rfl, rfl, by rw [ht]; exact hP, va_K.moved hW.alike hK, hDD _⟩, hS.F ht⟩) hS.2.2 eX4_isSound_91.2.2.2.1
  refine y_head (pcJ := 95) (σ := MS) (fun u H locs ls => va_P D vwCl (CS D a u) H ∧ va_S A s₀.heap H locs ∧ lv_has ls 4 [] ∧ m_x4_isSound_J95 u = some o) (fun u => []) (fun u H locs ls hI => ?_) (fun J95 => ?_)
  · obtain ⟨hP, hS, hl, h⟩ := hI
    obtain ⟨s4, rfl⟩ : ∃ z, z = u := ⟨u, rfl⟩
    have hP : va_P D vwCl (CS D a s4) H := hP
    have hl : lv_has ls 4 [] := hl
    have h : m_x4_isSound_J95 s4 = some o := h
    unfold m_x4_isSound_J95 at h
    refine lv_iconst (v := 0) hx hb eX4_isSound_91.2.2.1 (by decide) ?_
    exact J96 (0, s4) _ _ _ ⟨hP, hS, lv_sub hl [] rfl, h⟩
  refine y_loop (pcJ := 2) (σ := Int × MS) (fun n u H locs ls => va_P D vwCl (CS D a u.2) H ∧ va_S A s₀.heap H locs ∧ lv_has ls 4 [(0, .ref (a 16)), (1, .ref (a 71)), (2, .int (i2 u.1))] ∧ m_x4_isSound_L2 n u.1 u.2 = some o) (fun u => []) (fun u H locs ls hI => by obtain ⟨_, _, _, h⟩ := hI; cases h) (fun n2 ih2 u H locs ls hI => ?_) (fun J2 => ?_)
  · obtain ⟨hP, hS, hl, h⟩ := hI
    obtain ⟨x5, s6⟩ := u
    have hP : va_P D vwCl (CS D a s6) H := hP
    have hl : lv_has ls 4 [(0, .ref (a 16)), (1, .ref (a 71)), (2, .int (i2 x5))] := hl
    have h : m_x4_isSound_b2 (m_x4_isSound_L2 n2) x5 s6 = some o := h
    unfold m_x4_isSound_b2 at h
    refine y_loop (pcJ := 10) (σ := Int × Int × MS) (fun n u H locs ls => va_P D vwCl (CS D a u.2.2) H ∧ va_S A s₀.heap H locs ∧ lv_has ls 4 [(0, .ref (a 16)), (1, .ref (a 71)), (2, .int (i2 u.1)), (3, .int (i2 u.2.1))] ∧ m_x4_isSound_L10 (m_x4_isSound_L2 n2) n u.1 u.2.1 u.2.2 = some o) (fun u => []) (fun u H locs ls hI => by obtain ⟨_, _, _, h⟩ := hI; cases h) (fun n10 ih10 u H locs ls hI => ?_) (fun J10 => ?_)
    · obtain ⟨hP, hS, hl, h⟩ := hI
      obtain ⟨x7, x8, s9⟩ := u
      have hP : va_P D vwCl (CS D a s9) H := hP
      have hl : lv_has ls 4 [(0, .ref (a 16)), (1, .ref (a 71)), (2, .int (i2 x7)), (3, .int (i2 x8))] := hl
      have h : m_x4_isSound_b10 (m_x4_isSound_L2 n2) (m_x4_isSound_L10 (m_x4_isSound_L2 n2) n10) x7 x8 s9 = some o := h
      unfold m_x4_isSound_b10 at h
      refine y_head (pcJ := 47) (σ := Int × Int × MS) (fun u H locs ls => va_P D vwCl (CS D a u.2.2) H ∧ va_S A s₀.heap H locs ∧ lv_has ls 4 [(0, .ref (a 16)), (1, .ref (a 71)), (2, .int (i2 u.1)), (3, .int (i2 u.2.1))] ∧ m_x4_isSound_J47 (m_x4_isSound_L2 n2) (m_x4_isSound_L10 (m_x4_isSound_L2 n2) n10) u.1 u.2.1 u.2.2 = some o) (fun u => []) (fun u H locs ls hI => ?_) (fun J47 => ?_)
      · obtain ⟨hP, hS, hl, h⟩ := hI
        obtain ⟨x10, x11, s12⟩ := u
        have hP : va_P D vwCl (CS D a s12) H := hP
        have hl : lv_has ls 4 [(0, .ref (a 16)), (1, .ref (a 71)), (2, .int (i2 x10)), (3, .int (i2 x11))] := hl
        have h : m_x4_isSound_J47 (m_x4_isSound_L2 n2) (m_x4_isSound_L10 (m_x4_isSound_L2 n2) n10) x10 x11 s12 = some o := h
        unfold m_x4_isSound_J47 at h
        refine lv_iinc (v := i2 (x11 + 1)) (lv' := [(3, .int (i2 (x11 + 1))), (0, .ref (a 16)), (1, .ref (a 71)), (2, .int (i2 x10))]) hx hb eX4_isSound_39.2.2.2.2.1 hl (k := 3) rfl (i2_add x11 1) (by decide) rfl (fun ls hl => ?_)
        refine lv_goto (tgt := 10) hx hb eX4_isSound_39.2.2.2.2.2.1 (by decide) ?_
        exact ih10 (x10, x11 + 1, s12) _ _ _ ⟨hP, hS, lv_sub hl [1, 2, 3, 0] rfl, h⟩
      refine lv_iload_n hx hb eX4_isSound_0.2.2.2.2.2.2.2 rfl (lv_at hl 3 rfl) ?_
      refine lv_aload_n hx hb eX4_isSound_11.1 rfl (lv_at hl 1 rfl) ?_
      refine va_get (D := D) (ci := 8) (v := .int (i2 (gI s9 1420))) (C := RX8) (T := TX8) (N := 11) hx hb ht inX8 hown hK hP 71 CW_71 rfl 0 (by decide) (ht (.fieldLink RX4 51 "CloneVolumes$State" "blocks" "I") fl_X4_51) (fun _ h9 => h9) rfl eX4_isSound_11.2.1 ?_
      obtain ⟨hr13, h⟩ := rg_e h
      obtain ⟨hr14, h⟩ := rg_e h
      refine lv_icmp_ge (tgt := 53) hx hb eX4_isSound_11.2.2.1 (by decide) (fun c15 => ?_) (fun c15 => ?_)
      · have h := if_t ((i2_le (x := (gI s9 1420)) (y := x8) hr14 hr13).mp c15) h
        refine lv_iinc (v := i2 (x7 + 1)) (lv' := [(2, .int (i2 (x7 + 1))), (0, .ref (a 16)), (1, .ref (a 71)), (3, .int (i2 x8))]) hx hb eX4_isSound_39.2.2.2.2.2.2.1 hl (k := 2) rfl (i2_add x7 1) (by decide) rfl (fun ls hl => ?_)
        refine lv_goto (tgt := 2) hx hb eX4_isSound_39.2.2.2.2.2.2.2 (by decide) ?_
        exact ih2 (x7 + 1, s9) _ _ _ ⟨hP, hS, lv_sub hl [1, 2, 0] rfl, h⟩
      · have h := if_f (mt (i2_le (x := (gI s9 1420)) (y := x8) hr14 hr13).mpr c15) h
        refine lv_aload_n hx hb eX4_isSound_11.2.2.2.1 rfl (lv_at hl 1 rfl) ?_
        refine lv_iload_n hx hb eX4_isSound_11.2.2.2.2.1 rfl (lv_at hl 3 rfl) ?_
        obtain ⟨r17, hc16, h⟩ := bn_e h
        refine ycV (r0 := i2 r17) (As := [.int (i2 x8)]) (rest := []) (C := RX8) (n := 1) ⟨hx, hb, hml, hown, ht⟩ (k_x8_isFree_v2 l D a x8 _ _ hc16) (zgV ml_X4_60 im_X8_isFree se_X8_isFree in_X8 co_X8_isFree) rfl rfl (by decide +kernel) ⟨Nat.le_of_ble_eq_true rfl, Nat.le_of_ble_eq_true rfl⟩ hN hK hP hS 71 CW_71 rfl rfl rfl hl.1 rfl (Nat.le_of_ble_eq_true rfl) eX4_isSound_11.2.2.2.2.2.1 ⟨Nat.le_of_ble_eq_true rfl, Nat.le_of_ble_eq_true rfl⟩ (fun H locs hP hS => ?_)
        obtain ⟨hr18, h⟩ := rg_e h
        refine lv_if_ne (tgt := 47) hx hb eX4_isSound_11.2.2.2.2.2.2.1 (by decide) (fun c19 => ?_) (fun c19 => ?_)
        · have h := if_f (mt (i2_eq (x := r17) (y := 0) hr18 (by decide)).mpr c19) h
          exact J47 (x7, x8, s9) _ _ _ ⟨hP, hS, lv_sub hl [0, 1, 2, 3] rfl, h⟩
        · have h := if_t ((i2_eq (x := r17) (y := 0) hr18 (by decide)).mp c19) h
          refine lv_aload_n hx hb eX4_isSound_11.2.2.2.2.2.2.2 rfl (lv_at hl 1 rfl) ?_
          refine va_get (D := D) (ci := 8) (v := .ref (a 74)) (C := RX8) (T := TX8) (N := 11) hx hb ht inX8 hown hK hP 71 CW_71 rfl 5 (by decide) (ht (.fieldLink RX4 72 "CloneVolumes$State" "level" "[I") fl_X4_72) (fun _ h9 => h9) rfl eX4_isSound_27.1 ?_
          refine lv_iload_n hx hb eX4_isSound_27.2.1 rfl (lv_at hl 3 rfl) ?_
          obtain ⟨y20, ey20, iy20, h⟩ := rdI_e h
          refine ya_iald (i := x8) hx hb hK hP 74 0 CW_74 rfl (by decide) ey20 iy20 eX4_isSound_27.2.2.1 ?_
          refine lv_iload_n hx hb eX4_isSound_27.2.2.2.1 rfl (lv_at hl 2 rfl) ?_
          obtain ⟨hr21, h⟩ := rg_e h
          obtain ⟨hr22, h⟩ := rg_e h
          refine lv_icmp_ne (tgt := 47) hx hb eX4_isSound_27.2.2.2.2.1 (by decide) (fun c23 => ?_) (fun c23 => ?_)
          · have h := if_f (mt (i2_eq (x := y20) (y := x7) hr21 hr22).mpr c23) h
            exact J47 (x7, x8, s9) _ _ _ ⟨hP, hS, lv_sub hl [0, 1, 2, 3] rfl, h⟩
          · have h := if_t ((i2_eq (x := y20) (y := x7) hr21 hr22).mp c23) h
            refine lv_aload_n hx hb eX4_isSound_27.2.2.2.2.2.1 rfl (lv_at hl 0 rfl) ?_
            refine lv_aload_n hx hb eX4_isSound_27.2.2.2.2.2.2.1 rfl (lv_at hl 1 rfl) ?_
            refine lv_iload_n hx hb eX4_isSound_27.2.2.2.2.2.2.2 rfl (lv_at hl 3 rfl) ?_
            obtain ⟨⟨r26, s25⟩, hc24, h⟩ := bn_e h
            refine ywV (r0 := i2 r26) (As := [.ref (a 71), .int (i2 x8)]) (rest := []) (C := RX4) (n := 2) (ws' := CS D a s25) ⟨hx, hb, hml, hown, ht⟩ (k_x4_isSoundBlock l D a x8 _ _ _ hc24) (zgV ml_X4_128 im_X4_isSoundBlock se_X4_isSoundBlock in_X4 co_X4_isSoundBlock) rfl rfl (by decide +kernel) ⟨Nat.le_of_ble_eq_true rfl, Nat.le_of_ble_eq_true rfl⟩ hN hK hP (hDD _) hS hA 16 CW_16 rfl rfl rfl hl.1 rfl (Nat.le_of_ble_eq_true rfl) eX4_isSound_39.1 ⟨Nat.le_of_ble_eq_true rfl, Nat.le_of_ble_eq_true rfl⟩ (fun H locs hP hS => ?_)
            obtain ⟨hr27, h⟩ := rg_e h
            refine lv_if_ne (tgt := 47) hx hb eX4_isSound_39.2.1 (by decide) (fun c28 => ?_) (fun c28 => ?_)
            · have h := if_f (mt (i2_eq (x := r26) (y := 0) hr27 (by decide)).mpr c28) h
              exact J47 (x7, x8, s25) _ _ _ ⟨hP, hS, lv_sub hl [0, 1, 2, 3] rfl, h⟩
            · have h := if_t ((i2_eq (x := r26) (y := 0) hr27 (by decide)).mp c28) h
              refine lv_iconst (v := 0) hx hb eX4_isSound_39.2.2.1 (by decide) ?_
              obtain rfl := Option.some.inj h
              exact W.zret (v := 0) hx hb hr (by decide) (fun t ht hW => ⟨⟨_, (), rfl, rfl, by rw [ht]; exact hP, va_K.moved hW.alike hK, hDD _⟩, hS.F ht⟩) hS.2.2 eX4_isSound_39.2.2.2.1
    refine lv_iload_n hx hb eX4_isSound_0.2.2.1 rfl (lv_at hl 2 rfl) ?_
    refine lv_bipush (v := 48) hx hb eX4_isSound_0.2.2.2.1 (by decide) ?_
    obtain ⟨hr29, h⟩ := rg_e h
    refine lv_icmp_ge (tgt := 59) hx hb eX4_isSound_0.2.2.2.2.1 (by decide) (fun c30 => ?_) (fun c30 => ?_)
    · have h := if_t ((i2_le (x := 48) (y := x5) (by decide) hr29).mp c30) h
      refine lv_aload_n hx hb eX4_isSound_59.1 rfl (lv_at hl 0 rfl) ?_
      refine lv_aload_n hx hb eX4_isSound_59.2.1 rfl (lv_at hl 1 rfl) ?_
      refine lv_aload_n hx hb eX4_isSound_59.2.2.1 rfl (lv_at hl 1 rfl) ?_
      refine va_get (D := D) (ci := 8) (v := .ref (a 72)) (C := RX8) (T := TX8) (N := 11) hx hb ht inX8 hown hK hP 71 CW_71 rfl 3 (by decide) (ht (.fieldLink RX4 54 "CloneVolumes$State" "count" "[I") fl_X4_54) (fun _ h9 => h9) rfl eX4_isSound_59.2.2.2.1 ?_
      refine lv_aload_n hx hb eX4_isSound_59.2.2.2.2.1 rfl (lv_at hl 1 rfl) ?_
      refine va_get (D := D) (ci := 8) (v := .ref (a 78)) (C := RX8) (T := TX8) (N := 11) hx hb ht inX8 hown hK hP 71 CW_71 rfl 9 (by decide) (ht (.fieldLink RX4 41 "CloneVolumes$State" "roots" "[I") fl_X4_41) (fun _ h9 => h9) rfl eX4_isSound_59.2.2.2.2.2.1 ?_
      obtain ⟨⟨r33, s32⟩, hc31, h⟩ := bn_e h
      refine ywV (r0 := i2 r33) (As := [.ref (a 71), .ref (a 72), .ref (a 78)]) (rest := []) (C := RX4) (n := 3) (ws' := CS D a s32) ⟨hx, hb, hml, hown, ht⟩ (k_x4_refsAre l D a _ _ _ hc31) (zgV ml_X4_132 im_X4_refsAre se_X4_refsAre in_X4 co_X4_refsAre) rfl rfl (by decide +kernel) ⟨Nat.le_of_ble_eq_true rfl, Nat.le_of_ble_eq_true rfl⟩ hN hK hP (hDD _) hS hA 16 CW_16 rfl rfl rfl hl.1 rfl (Nat.le_of_ble_eq_true rfl) eX4_isSound_59.2.2.2.2.2.2.1 ⟨Nat.le_of_ble_eq_true rfl, Nat.le_of_ble_eq_true rfl⟩ (fun H locs hP hS => ?_)
      obtain ⟨hr34, h⟩ := rg_e h
      refine lv_if_eq (tgt := 95) hx hb eX4_isSound_59.2.2.2.2.2.2.2 (by decide) (fun c35 => ?_) (fun c35 => ?_)
      · have h := if_t ((i2_eq (x := r33) (y := 0) hr34 (by decide)).mp c35) h
        exact J95 s32 _ _ _ ⟨hP, hS, lv_sub hl [] rfl, h⟩
      · have h := if_f (mt (i2_eq (x := r33) (y := 0) hr34 (by decide)).mpr c35) h
        refine lv_aload_n hx hb eX4_isSound_75.1 rfl (lv_at hl 0 rfl) ?_
        refine lv_aload_n hx hb eX4_isSound_75.2.1 rfl (lv_at hl 1 rfl) ?_
        refine lv_aload_n hx hb eX4_isSound_75.2.2.1 rfl (lv_at hl 1 rfl) ?_
        refine va_get (D := D) (ci := 8) (v := .ref (a 73)) (C := RX8) (T := TX8) (N := 11) hx hb ht inX8 hown hK hP 71 CW_71 rfl 4 (by decide) (ht (.fieldLink RX4 57 "CloneVolumes$State" "saved" "[I") fl_X4_57) (fun _ h9 => h9) rfl eX4_isSound_75.2.2.2.1 ?_
        refine lv_aload_n hx hb eX4_isSound_75.2.2.2.2.1 rfl (lv_at hl 1 rfl) ?_
        refine va_get (D := D) (ci := 8) (v := .ref (a 79)) (C := RX8) (T := TX8) (N := 11) hx hb ht inX8 hown hK hP 71 CW_71 rfl 10 (by decide) (ht (.fieldLink RX4 48 "CloneVolumes$State" "savedRoots" "[I") fl_X4_48) (fun _ h9 => h9) rfl eX4_isSound_75.2.2.2.2.2.1 ?_
        obtain ⟨⟨r38, s37⟩, hc36, h⟩ := bn_e h
        refine ywV (r0 := i2 r38) (As := [.ref (a 71), .ref (a 73), .ref (a 79)]) (rest := []) (C := RX4) (n := 3) (ws' := CS D a s37) ⟨hx, hb, hml, hown, ht⟩ (k_x4_refsAre_v2 l D a _ _ _ hc36) (zgV ml_X4_132 im_X4_refsAre se_X4_refsAre in_X4 co_X4_refsAre) rfl rfl (by decide +kernel) ⟨Nat.le_of_ble_eq_true rfl, Nat.le_of_ble_eq_true rfl⟩ hN hK hP (hDD _) hS hA 16 CW_16 rfl rfl rfl hl.1 rfl (Nat.le_of_ble_eq_true rfl) eX4_isSound_75.2.2.2.2.2.2.1 ⟨Nat.le_of_ble_eq_true rfl, Nat.le_of_ble_eq_true rfl⟩ (fun H locs hP hS => ?_)
        obtain ⟨hr39, h⟩ := rg_e h
        refine lv_if_eq (tgt := 95) hx hb eX4_isSound_75.2.2.2.2.2.2.2 (by decide) (fun c40 => ?_) (fun c40 => ?_)
        · have h := if_t ((i2_eq (x := r38) (y := 0) hr39 (by decide)).mp c40) h
          exact J95 s37 _ _ _ ⟨hP, hS, lv_sub hl [] rfl, h⟩
        · have h := if_f (mt (i2_eq (x := r38) (y := 0) hr39 (by decide)).mpr c40) h
          refine lv_iconst (v := 1) hx hb eX4_isSound_91.1 (by decide) ?_
          refine lv_goto (tgt := 96) hx hb eX4_isSound_91.2.1 (by decide) ?_
          exact J96 (1, s37) _ _ _ ⟨hP, hS, lv_sub hl [] rfl, h⟩
    · have h := if_f (mt (i2_le (x := 48) (y := x5) (by decide) hr29).mpr c30) h
      refine lv_iconst (v := 0) hx hb eX4_isSound_0.2.2.2.2.2.1 (by decide) ?_
      refine lv_istore_n (lv' := [(3, .int 0), (0, .ref (a 16)), (1, .ref (a 71)), (2, .int (i2 x5))]) hx hb eX4_isSound_0.2.2.2.2.2.2.1 rfl hl (by decide) rfl (fun ls hl => ?_)
      exact J10 FU (x5, 0, s6) _ _ _ ⟨hP, hS, lv_sub hl [1, 2, 3, 0] rfl, h⟩
  refine lv_iconst (v := 0) hx hb eX4_isSound_0.1 (by decide) ?_
  refine lv_istore_n (lv' := [(2, .int 0), (0, .ref (a 16)), (1, .ref (a 71))]) hx hb eX4_isSound_0.2.1 rfl hl (by decide) rfl (fun ls hl => ?_)
  exact J2 FU (0, s) _ _ _ ⟨hP, hS, lv_sub hl [1, 2, 0] rfl, h⟩
set_option maxHeartbeats 4000000 in
set_option maxRecDepth 100000 in
theorem k_x4_next (l : Launch) (D : va_G) (a : Nat → Nat) (sz : Nat) (s : MS) (o : (Int × MS)) (h : m_x4_next s = some o) : yWi l yX4_next cX4_next 3 (some .int) { frames := 1, cells := 0, slots := 0, locals := 60 } D sz [.ref (a 16), .ref (a 3)] (CS D a s) (CS D a o.2) (i2 o.1) := by
  refine Met.ofW (cc := cX4_next) (maxL := 3) (ret := (some .int)) (by decide) rfl ?_
  intro p e s₀ m args below meth c s₁ B hml hv
  obtain ⟨rfl, ⟨hsz, hP, hK, hD0⟩, hN⟩ := hv
  have hx := B.exec
  have hb := B.bytes
  have hr := B.returns
  have hts := atoms_spec (ws := wz yX4_next cX4_next 3 (some .int)) B.pre
  have ht : ∀ w ∈ lw_gd, w.before _ s₀ = true := fun w h => hts w (List.mem_cons_of_mem _ h)
  have hown : s₀.vm.findClass RX4 = some m.cls := findClass_of_methodNamed B.named
  have hlocks := B.notSynchronized
  subst hsz
  have hD := hD0.self (sz := s₀.heap.size)
  generalize hAe : va_A (CS D a s) s₀.heap.size = A at hD ⊢
  have hA : ∀ q : Nat, s₀.heap.size ≤ q → A q := fun q h => by rw [← hAe]; exact Or.inr h
  have hS : va_S A s₀.heap s₀.heap [] := va_S.rf
  have hDD : ∀ t : MS, va_D A (CS D a t) := fun t => CW_D t hD
  have hl := lv_entry ([.ref (a 16), .ref (a 3)]) (n := 3) (Nat.le_of_ble_eq_true rfl)
  rw [lg_entry_eq]
  generalize (lg_sl ([.ref (a 16), .ref (a 3)]) ++ List.replicate (3 - (lg_sl ([.ref (a 16), .ref (a 3)])).length) Slot.unset).toArray = ls at hl ⊢
  have hl : lv_has ls 3 [(0, .ref (a 16)), (1, .ref (a 3))] := hl
  unfold m_x4_next at h
  refine lv_aload_n hx hb eX4_loadHead_122.2.2.1 rfl (lv_at hl 1 rfl) ?_
  refine lv_aload_n hx hb eX4_loadHead_122.2.2.2.1 rfl (lv_at hl 0 rfl) ?_
  refine va_get (D := D) (ci := 4) (v := .int (i2 (gI s 322))) (C := RX4) (T := TX4) (N := 6) hx hb ht inX4 hown hK hP 16 CW_16 rfl 2 (by decide) (ht (.fieldLink RX4 99 "CloneVolumes$Picture" "at" "I") fl_X4_99) (fun _ h9 => h9) rfl eX4_loadHead_122.2.2.2.2.1 ?_
  obtain ⟨r2, hc1, h⟩ := bn_e h
  refine ycV (r0 := i2 r2) (As := [.int (i2 (gI s 322))]) (rest := []) (C := RX9) (n := 1) ⟨hx, hb, hml, hown, ht⟩ (k_x9_at l D a (gI s 322) _ _ hc1) (zgV ml_X4_92 im_X9_at se_X9_at in_X9 co_X9_at) rfl rfl (by decide +kernel) ⟨Nat.le_of_ble_eq_true rfl, Nat.le_of_ble_eq_true rfl⟩ hN hK hP hS 3 CW_3 rfl rfl rfl hl.1 rfl (Nat.le_of_ble_eq_true rfl) eX4_loadHead_122.2.2.2.2.2.1 ⟨Nat.le_of_ble_eq_true rfl, Nat.le_of_ble_eq_true rfl⟩ (fun H locs hP hS => ?_)
  refine lv_istore_n (lv' := [(2, .int (i2 r2)), (0, .ref (a 16)), (1, .ref (a 3))]) hx hb eX4_loadHead_122.2.2.2.2.2.2.1 rfl hl (by decide) rfl (fun ls hl => ?_)
  refine lv_aload_n hx hb eX4_loadHead_122.2.2.2.2.2.2.2 rfl (lv_at hl 1 rfl) ?_
  refine lv_dup hx hb eX4_next_10.1 rfl ?_
  refine va_get (D := D) (ci := 4) (v := .int (i2 (gI s 322))) (C := RX4) (T := TX4) (N := 6) hx hb ht inX4 hown hK hP 16 CW_16 rfl 2 (by decide) (ht (.fieldLink RX4 99 "CloneVolumes$Picture" "at" "I") fl_X4_99) (fun _ h9 => h9) rfl eX4_next_10.2.1 ?_
  refine lv_iconst (v := 1) hx hb eX4_next_10.2.2.1 (by decide) ?_
  refine lv_iadd hx hb eX4_next_10.2.2.2.1 ?_
  refine z_topi (y := i2 ((gI s 322) + 1)) (i2_add (gI s 322) 1) ?_
  refine ya_put (D := D) (ci := 4) (v := .int (i2 ((gI s 322) + 1))) (ty := .int) (C := RX4) (T := TX4) (N := 6) hx hb ht inX4 tyX4 tyX4_ok nmX4 hown hK hP (hDD _) hS 16 CW_16 rfl 2 (by decide) (ht (.fieldLink RX4 99 "CloneVolumes$Picture" "at" "I") fl_X4_99) (fun _ h9 => h9) rfl (by decide +kernel) rfl rfl (Nat.le_of_ble_eq_true rfl) eX4_next_10.2.2.2.2.1 (CW_w16_2 ((gI s 322) + 1)) (fun H locs hP hS => ?_)
  obtain ⟨s3, hs3, h⟩ := st_e h
  rw [hs3] at hP
  refine lv_iload_n hx hb eX4_next_10.2.2.2.2.2.1 rfl (lv_at hl 0 rfl) ?_
  obtain rfl := Option.some.inj h
  exact W.iret (v := (i2 r2)) hx hb hr (fun t ht hW => ⟨⟨_, (), rfl, rfl, by rw [ht]; exact hP, va_K.moved hW.alike hK, hDD _⟩, hS.F ht⟩) hS.2.2 eX4_next_10.2.2.2.2.2.2.1
set_option maxHeartbeats 4000000 in
set_option maxRecDepth 100000 in
theorem k_x4_nextPair (l : Launch) (D : va_G) (a : Nat → Nat) (sz : Nat) (s : MS) (o : (Int × MS)) (h : m_x4_nextPair s = some o) : yWi l yX4_nextPair cX4_nextPair 3 (some .int) { frames := 2, cells := 0, slots := 0, locals := 120 } D sz [.ref (a 16), .ref (a 3)] (CS D a s) (CS D a o.2) (i2 o.1) := by
  refine Met.ofW (cc := cX4_nextPair) (maxL := 3) (ret := (some .int)) (by decide) rfl ?_
  intro p e s₀ m args below meth c s₁ B hml hv
  obtain ⟨rfl, ⟨hsz, hP, hK, hD0⟩, hN⟩ := hv
  have hx := B.exec
  have hb := B.bytes
  have hr := B.returns
  have hts := atoms_spec (ws := wz yX4_nextPair cX4_nextPair 3 (some .int)) B.pre
  have ht : ∀ w ∈ lw_gd, w.before _ s₀ = true := fun w h => hts w (List.mem_cons_of_mem _ h)
  have hown : s₀.vm.findClass RX4 = some m.cls := findClass_of_methodNamed B.named
  have hlocks := B.notSynchronized
  subst hsz
  have hD := hD0.self (sz := s₀.heap.size)
  generalize hAe : va_A (CS D a s) s₀.heap.size = A at hD ⊢
  have hA : ∀ q : Nat, s₀.heap.size ≤ q → A q := fun q h => by rw [← hAe]; exact Or.inr h
  have hS : va_S A s₀.heap s₀.heap [] := va_S.rf
  have hDD : ∀ t : MS, va_D A (CS D a t) := fun t => CW_D t hD
  have hl := lv_entry ([.ref (a 16), .ref (a 3)]) (n := 3) (Nat.le_of_ble_eq_true rfl)
  rw [lg_entry_eq]
  generalize (lg_sl ([.ref (a 16), .ref (a 3)]) ++ List.replicate (3 - (lg_sl ([.ref (a 16), .ref (a 3)])).length) Slot.unset).toArray = ls at hl ⊢
  have hl : lv_has ls 3 [(0, .ref (a 16)), (1, .ref (a 3))] := hl
  unfold m_x4_nextPair at h
  refine lv_aload_n hx hb eX4_next_10.2.2.2.2.2.2.2 rfl (lv_at hl 0 rfl) ?_
  refine lv_aload_n hx hb eX4_nextPair_1.1 rfl (lv_at hl 1 rfl) ?_
  obtain ⟨⟨r3, s2⟩, hc1, h⟩ := bn_e h
  refine ywV (r0 := i2 r3) (As := [.ref (a 3)]) (rest := []) (C := RX4) (n := 1) (ws' := CS D a s2) ⟨hx, hb, hml, hown, ht⟩ (k_x4_next l D a _ _ _ hc1) (zgV ml_X4_113 im_X4_next se_X4_next in_X4 co_X4_next) rfl rfl (by decide +kernel) ⟨Nat.le_of_ble_eq_true rfl, Nat.le_of_ble_eq_true rfl⟩ hN hK hP (hDD _) hS hA 16 CW_16 rfl rfl rfl hl.1 rfl (Nat.le_of_ble_eq_true rfl) eX4_nextPair_1.2.1 ⟨Nat.le_of_ble_eq_true rfl, Nat.le_of_ble_eq_true rfl⟩ (fun H locs hP hS => ?_)
  refine lv_istore_n (lv' := [(2, .int (i2 r3)), (0, .ref (a 16)), (1, .ref (a 3))]) hx hb eX4_nextPair_1.2.2.1 rfl hl (by decide) rfl (fun ls hl => ?_)
  refine lv_iload_n hx hb eX4_nextPair_1.2.2.2.1 rfl (lv_at hl 0 rfl) ?_
  refine lv_sipush (v := 256) hx hb eX4_nextPair_1.2.2.2.2.1 (by decide) ?_
  refine lv_imul hx hb eX4_nextPair_1.2.2.2.2.2.1 ?_
  refine z_topi (y := i2 (r3 * 256)) (i2_mul r3 256) ?_
  refine lv_aload_n hx hb eX4_nextPair_1.2.2.2.2.2.2.1 rfl (lv_at hl 1 rfl) ?_
  refine lv_aload_n hx hb eX4_nextPair_1.2.2.2.2.2.2.2 rfl (lv_at hl 2 rfl) ?_
  obtain ⟨⟨r6, s5⟩, hc4, h⟩ := bn_e h
  refine ywV (r0 := i2 r6) (As := [.ref (a 3)]) (rest := [.int (i2 (r3 * 256))]) (C := RX4) (n := 1) (ws' := CS D a s5) ⟨hx, hb, hml, hown, ht⟩ (k_x4_next l D a _ _ _ hc4) (zgV ml_X4_113 im_X4_next se_X4_next in_X4 co_X4_next) rfl rfl (by decide +kernel) ⟨Nat.le_of_ble_eq_true rfl, Nat.le_of_ble_eq_true rfl⟩ hN hK hP (hDD _) hS hA 16 CW_16 rfl rfl rfl hl.1 rfl (Nat.le_of_ble_eq_true rfl) eX4_nextPair_13.1 ⟨Nat.le_of_ble_eq_true rfl, Nat.le_of_ble_eq_true rfl⟩ (fun H locs hP hS => ?_)
  refine lv_iadd hx hb eX4_nextPair_13.2.1 ?_
  refine z_topi (y := i2 ((r3 * 256) + r6)) (i2_add (r3 * 256) r6) ?_
  obtain rfl := Option.some.inj h
  exact W.iret (v := (i2 ((r3 * 256) + r6))) hx hb hr (fun t ht hW => ⟨⟨_, (), rfl, rfl, by rw [ht]; exact hP, va_K.moved hW.alike hK, hDD _⟩, hS.F ht⟩) hS.2.2 eX4_nextPair_13.2.2.1
set_option maxHeartbeats 4000000 in
set_option maxRecDepth 100000 in
theorem k_x4_loadBlock (l : Launch) (D : va_G) (a : Nat → Nat) (p2 : Int) (p3 : Int) (sz : Nat) (s : MS) (o : (Int × MS)) (h : m_x4_loadBlock p2 p3 s = some o) : yWi l yX4_loadBlock cX4_loadBlock 9 (some .boolean) { frames := 3, cells := 0, slots := 0, locals := 180 } D sz [.ref (a 16), .ref (a 3), .ref (a 71), .int (i2 p2), .int (i2 p3)] (CS D a s) (CS D a o.2) (i2 o.1) := by
  refine Met.ofW (cc := cX4_loadBlock) (maxL := 9) (ret := (some .boolean)) (by decide) rfl ?_
  intro p e s₀ m args below meth c s₁ B hml hv
  obtain ⟨rfl, ⟨hsz, hP, hK, hD0⟩, hN⟩ := hv
  have hx := B.exec
  have hb := B.bytes
  have hr := B.returns
  have hts := atoms_spec (ws := wz yX4_loadBlock cX4_loadBlock 9 (some .boolean)) B.pre
  have ht : ∀ w ∈ lw_gd, w.before _ s₀ = true := fun w h => hts w (List.mem_cons_of_mem _ h)
  have hown : s₀.vm.findClass RX4 = some m.cls := findClass_of_methodNamed B.named
  have hlocks := B.notSynchronized
  subst hsz
  have hD := hD0.self (sz := s₀.heap.size)
  generalize hAe : va_A (CS D a s) s₀.heap.size = A at hD ⊢
  have hA : ∀ q : Nat, s₀.heap.size ≤ q → A q := fun q h => by rw [← hAe]; exact Or.inr h
  have hS : va_S A s₀.heap s₀.heap [] := va_S.rf
  have hDD : ∀ t : MS, va_D A (CS D a t) := fun t => CW_D t hD
  have hl := lv_entry ([.ref (a 16), .ref (a 3), .ref (a 71), .int (i2 p2), .int (i2 p3)]) (n := 9) (Nat.le_of_ble_eq_true rfl)
  rw [lg_entry_eq]
  generalize (lg_sl ([.ref (a 16), .ref (a 3), .ref (a 71), .int (i2 p2), .int (i2 p3)]) ++ List.replicate (9 - (lg_sl ([.ref (a 16), .ref (a 3), .ref (a 71), .int (i2 p2), .int (i2 p3)])).length) Slot.unset).toArray = ls at hl ⊢
  have hl : lv_has ls 9 [(0, .ref (a 16)), (1, .ref (a 3)), (2, .ref (a 71)), (3, .int (i2 p2)), (4, .int (i2 p3))] := hl
  unfold m_x4_loadBlock at h
  refine y_loop (pcJ := 123) (σ := Int × Int × Int × MS) (fun n u H locs ls => va_P D vwCl (CS D a u.2.2.2) H ∧ va_S A s₀.heap H locs ∧ lv_has ls 9 [(0, .ref (a 16)), (1, .ref (a 3)), (2, .ref (a 71)), (3, .int (i2 u.1)), (5, .int (i2 u.2.1)), (6, .int (i2 u.2.2.1))] ∧ m_x4_loadBlock_L123 n u.1 u.2.1 u.2.2.1 u.2.2.2 = some o) (fun u => []) (fun u H locs ls hI => by obtain ⟨_, _, _, h⟩ := hI; cases h) (fun n123 ih123 u H locs ls hI => ?_) (fun J123 => ?_)
  · obtain ⟨hP, hS, hl, h⟩ := hI
    obtain ⟨x1, x2, x3, s4⟩ := u
    have hP : va_P D vwCl (CS D a s4) H := hP
    have hl : lv_has ls 9 [(0, .ref (a 16)), (1, .ref (a 3)), (2, .ref (a 71)), (3, .int (i2 x1)), (5, .int (i2 x2)), (6, .int (i2 x3))] := hl
    have h : m_x4_loadBlock_b123 (m_x4_loadBlock_L123 n123) x1 x2 x3 s4 = some o := h
    unfold m_x4_loadBlock_b123 at h
    refine y_head (pcJ := 202) (σ := Int × Int × Int × MS) (fun u H locs ls => va_P D vwCl (CS D a u.2.2.2) H ∧ va_S A s₀.heap H locs ∧ lv_has ls 9 [(0, .ref (a 16)), (1, .ref (a 3)), (2, .ref (a 71)), (3, .int (i2 u.1)), (6, .int (i2 u.2.1))] ∧ m_x4_loadBlock_J202 (m_x4_loadBlock_L123 n123) u.1 u.2.1 u.2.2.1 u.2.2.2 = some o) (fun u => [.int (i2 u.2.2.1)]) (fun u H locs ls hI => ?_) (fun J202 => ?_)
    · obtain ⟨hP, hS, hl, h⟩ := hI
      obtain ⟨x5, x6, x7, s8⟩ := u
      have hP : va_P D vwCl (CS D a s8) H := hP
      have hl : lv_has ls 9 [(0, .ref (a 16)), (1, .ref (a 3)), (2, .ref (a 71)), (3, .int (i2 x5)), (6, .int (i2 x6))] := hl
      have h : m_x4_loadBlock_J202 (m_x4_loadBlock_L123 n123) x5 x6 x7 s8 = some o := h
      unfold m_x4_loadBlock_J202 at h
      refine lv_istore (lv' := [(5, .int (i2 x7)), (0, .ref (a 16)), (1, .ref (a 3)), (2, .ref (a 71)), (3, .int (i2 x5)), (6, .int (i2 x6))]) hx hb eX4_loadBlock_197.2.2.2.1 hl (by decide) rfl (fun ls hl => ?_)
      refine lv_iinc (v := i2 (x6 + 1)) (lv' := [(6, .int (i2 (x6 + 1))), (5, .int (i2 x7)), (0, .ref (a 16)), (1, .ref (a 3)), (2, .ref (a 71)), (3, .int (i2 x5))]) hx hb eX4_loadBlock_197.2.2.2.2.1 hl (k := 5) rfl (i2_add x6 1) (by decide) rfl (fun ls hl => ?_)
      refine lv_goto (tgt := 123) hx hb eX4_loadBlock_197.2.2.2.2.2.1 (by decide) ?_
      exact ih123 (x5, x7, x6 + 1, s8) _ _ _ ⟨hP, hS, lv_sub hl [2, 3, 4, 5, 1, 0] rfl, h⟩
    refine y_head (pcJ := 201) (σ := Int × Int × MS) (fun u H locs ls => va_P D vwCl (CS D a u.2.2) H ∧ va_S A s₀.heap H locs ∧ lv_has ls 9 [(0, .ref (a 16)), (1, .ref (a 3)), (2, .ref (a 71)), (3, .int (i2 u.1)), (6, .int (i2 u.2.1))] ∧ m_x4_loadBlock_J201 (m_x4_loadBlock_L123 n123) u.1 u.2.1 u.2.2 = some o) (fun u => []) (fun u H locs ls hI => ?_) (fun J201 => ?_)
    · obtain ⟨hP, hS, hl, h⟩ := hI
      obtain ⟨x9, x10, s11⟩ := u
      have hP : va_P D vwCl (CS D a s11) H := hP
      have hl : lv_has ls 9 [(0, .ref (a 16)), (1, .ref (a 3)), (2, .ref (a 71)), (3, .int (i2 x9)), (6, .int (i2 x10))] := hl
      have h : m_x4_loadBlock_J201 (m_x4_loadBlock_L123 n123) x9 x10 s11 = some o := h
      unfold m_x4_loadBlock_J201 at h
      refine lv_iconst (v := 0) hx hb eX4_loadBlock_197.2.2.1 (by decide) ?_
      exact J202 (x9, x10, 0, s11) _ _ _ ⟨hP, hS, lv_sub hl [0, 1, 2, 3, 4] rfl, h⟩
    refine lv_iload hx hb eX4_loadBlock_120.2.2.1 (lv_at hl 5 rfl) ?_
    refine lv_aload_n hx hb eX4_loadBlock_120.2.2.2.1 rfl (lv_at hl 2 rfl) ?_
    refine va_get (D := D) (ci := 8) (v := .ref (a 75)) (C := RX8) (T := TX8) (N := 11) hx hb ht inX8 hown hK hP 71 CW_71 rfl 6 (by decide) (ht (.fieldLink RX4 75 "CloneVolumes$State" "size" "[I") fl_X4_75) (fun _ h9 => h9) rfl eX4_loadBlock_120.2.2.2.2.1 ?_
    refine lv_iload_n hx hb eX4_loadBlock_120.2.2.2.2.2.1 rfl (lv_at hl 3 rfl) ?_
    obtain ⟨y12, ey12, iy12, h⟩ := rdI_e h
    refine ya_iald (i := x1) hx hb hK hP 75 0 CW_75 rfl (by decide) ey12 iy12 eX4_loadBlock_120.2.2.2.2.2.2.1 ?_
    obtain ⟨hr13, h⟩ := rg_e h
    obtain ⟨hr14, h⟩ := rg_e h
    refine lv_icmp_ge (tgt := 210) hx hb eX4_loadBlock_120.2.2.2.2.2.2.2 (by decide) (fun c15 => ?_) (fun c15 => ?_)
    · have h := if_t ((i2_le (x := y12) (y := x3) hr14 hr13).mp c15) h
      refine lv_iload hx hb eX4_loadBlock_197.2.2.2.2.2.2.1 (lv_at hl 4 rfl) ?_
      obtain ⟨hb16, h⟩ := bo_e h
      obtain rfl := Option.some.inj h
      exact W.zret (v := (i2 x2)) hx hb hr (bo_n hb16) (fun t ht hW => ⟨⟨_, (), rfl, rfl, by rw [ht]; exact hP, va_K.moved hW.alike hK, hDD _⟩, hS.F ht⟩) hS.2.2 eX4_loadBlock_197.2.2.2.2.2.2.2
    · have h := if_f (mt (i2_le (x := y12) (y := x3) hr14 hr13).mpr c15) h
      refine lv_aload_n hx hb eX4_loadBlock_134.1 rfl (lv_at hl 0 rfl) ?_
      refine lv_aload_n hx hb eX4_loadBlock_134.2.1 rfl (lv_at hl 1 rfl) ?_
      obtain ⟨⟨r19, s18⟩, hc17, h⟩ := bn_e h
      refine ywV (r0 := i2 r19) (As := [.ref (a 3)]) (rest := []) (C := RX4) (n := 1) (ws' := CS D a s18) ⟨hx, hb, hml, hown, ht⟩ (k_x4_nextPair l D a _ _ _ hc17) (zgV ml_X4_118 im_X4_nextPair se_X4_nextPair in_X4 co_X4_nextPair) rfl rfl (by decide +kernel) ⟨Nat.le_of_ble_eq_true rfl, Nat.le_of_ble_eq_true rfl⟩ hN hK hP (hDD _) hS hA 16 CW_16 rfl rfl rfl hl.1 rfl (Nat.le_of_ble_eq_true rfl) eX4_loadBlock_134.2.2.1 ⟨Nat.le_of_ble_eq_true rfl, Nat.le_of_ble_eq_true rfl⟩ (fun H locs hP hS => ?_)
      refine lv_istore (lv' := [(7, .int (i2 r19)), (0, .ref (a 16)), (1, .ref (a 3)), (2, .ref (a 71)), (3, .int (i2 x1)), (5, .int (i2 x2)), (6, .int (i2 x3))]) hx hb eX4_loadBlock_134.2.2.2.1 hl (by decide) rfl (fun ls hl => ?_)
      refine lv_aload_n hx hb eX4_loadBlock_134.2.2.2.2.1 rfl (lv_at hl 1 rfl) ?_
      refine lv_aload_n hx hb eX4_loadBlock_134.2.2.2.2.2.1 rfl (lv_at hl 2 rfl) ?_
      obtain ⟨⟨r22, s21⟩, hc20, h⟩ := bn_e h
      refine ywV (r0 := i2 r22) (As := [.ref (a 3)]) (rest := []) (C := RX4) (n := 1) (ws' := CS D a s21) ⟨hx, hb, hml, hown, ht⟩ (k_x4_nextPair l D a _ _ _ hc20) (zgV ml_X4_118 im_X4_nextPair se_X4_nextPair in_X4 co_X4_nextPair) rfl rfl (by decide +kernel) ⟨Nat.le_of_ble_eq_true rfl, Nat.le_of_ble_eq_true rfl⟩ hN hK hP (hDD _) hS hA 16 CW_16 rfl rfl rfl hl.1 rfl (Nat.le_of_ble_eq_true rfl) eX4_loadBlock_134.2.2.2.2.2.2.1 ⟨Nat.le_of_ble_eq_true rfl, Nat.le_of_ble_eq_true rfl⟩ (fun H locs hP hS => ?_)
      refine lv_istore (lv' := [(8, .int (i2 r22)), (7, .int (i2 r19)), (0, .ref (a 16)), (1, .ref (a 3)), (2, .ref (a 71)), (3, .int (i2 x1)), (5, .int (i2 x2)), (6, .int (i2 x3))]) hx hb eX4_loadBlock_134.2.2.2.2.2.2.2 hl (by decide) rfl (fun ls hl => ?_)
      refine lv_aload_n hx hb eX4_loadBlock_148.1 rfl (lv_at hl 4 rfl) ?_
      refine va_get (D := D) (ci := 8) (v := .ref (a 76)) (C := RX8) (T := TX8) (N := 11) hx hb ht inX8 hown hK hP 71 CW_71 rfl 7 (by decide) (ht (.fieldLink RX4 77 "CloneVolumes$State" "keys" "[I") fl_X4_77) (fun _ h9 => h9) rfl eX4_loadBlock_148.2.1 ?_
      refine lv_aload_n hx hb eX4_loadBlock_148.2.2.1 rfl (lv_at hl 4 rfl) ?_
      refine lv_iload_n hx hb eX4_loadBlock_148.2.2.2.1 rfl (lv_at hl 5 rfl) ?_
      refine lv_iload hx hb eX4_loadBlock_148.2.2.2.2.1 (lv_at hl 7 rfl) ?_
      obtain ⟨r24, hc23, h⟩ := bn_e h
      refine ycV (r0 := i2 r24) (As := [.int (i2 x1), .int (i2 x3)]) (rest := [.ref (a 76)]) (C := RX8) (n := 2) ⟨hx, hb, hml, hown, ht⟩ (k_x8_slot_v2 l D a x1 x3 _ _ hc23) (zgV ml_X4_80 im_X8_slot se_X8_slot in_X8 co_X8_slot) rfl rfl (by decide +kernel) ⟨Nat.le_of_ble_eq_true rfl, Nat.le_of_ble_eq_true rfl⟩ hN hK hP hS 71 CW_71 rfl rfl rfl hl.1 rfl (Nat.le_of_ble_eq_true rfl) eX4_loadBlock_148.2.2.2.2.2.1 ⟨Nat.le_of_ble_eq_true rfl, Nat.le_of_ble_eq_true rfl⟩ (fun H locs hP hS => ?_)
      refine lv_iload hx hb eX4_loadBlock_148.2.2.2.2.2.2.1 (lv_at hl 1 rfl) ?_
      obtain ⟨hi25, h⟩ := inb_e h
      refine ya_iast (i := r24) (x := r19) hx hb hK hP (hDD _) hS 76 0 CW_76 rfl (by decide) hi25 eX4_loadBlock_148.2.2.2.2.2.2.2 (CW_w76 _) (fun H locs hP hS => ?_)
      obtain ⟨s26, hs26, h⟩ := st_e h
      rw [hs26] at hP
      refine lv_aload_n hx hb eX4_loadBlock_162.1 rfl (lv_at hl 4 rfl) ?_
      refine va_get (D := D) (ci := 8) (v := .ref (a 77)) (C := RX8) (T := TX8) (N := 11) hx hb ht inX8 hown hK hP 71 CW_71 rfl 8 (by decide) (ht (.fieldLink RX4 84 "CloneVolumes$State" "values" "[I") fl_X4_84) (fun _ h9 => h9) rfl eX4_loadBlock_162.2.1 ?_
      refine lv_aload_n hx hb eX4_loadBlock_162.2.2.1 rfl (lv_at hl 4 rfl) ?_
      refine lv_iload_n hx hb eX4_loadBlock_162.2.2.2.1 rfl (lv_at hl 5 rfl) ?_
      refine lv_iload hx hb eX4_loadBlock_162.2.2.2.2.1 (lv_at hl 7 rfl) ?_
      obtain ⟨r28, hc27, h⟩ := bn_e h
      refine ycV (r0 := i2 r28) (As := [.int (i2 x1), .int (i2 x3)]) (rest := [.ref (a 77)]) (C := RX8) (n := 2) ⟨hx, hb, hml, hown, ht⟩ (k_x8_slot_v2 l D a x1 x3 _ _ hc27) (zgV ml_X4_80 im_X8_slot se_X8_slot in_X8 co_X8_slot) rfl rfl (by decide +kernel) ⟨Nat.le_of_ble_eq_true rfl, Nat.le_of_ble_eq_true rfl⟩ hN hK hP hS 71 CW_71 rfl rfl rfl hl.1 rfl (Nat.le_of_ble_eq_true rfl) eX4_loadBlock_162.2.2.2.2.2.1 ⟨Nat.le_of_ble_eq_true rfl, Nat.le_of_ble_eq_true rfl⟩ (fun H locs hP hS => ?_)
      refine lv_iload hx hb eX4_loadBlock_162.2.2.2.2.2.2.1 (lv_at hl 0 rfl) ?_
      obtain ⟨hi29, h⟩ := inb_e h
      refine ya_iast (i := r28) (x := r22) hx hb hK hP (hDD _) hS 77 0 CW_77 rfl (by decide) hi29 eX4_loadBlock_162.2.2.2.2.2.2.2 (CW_w77 _) (fun H locs hP hS => ?_)
      obtain ⟨s30, hs30, h⟩ := st_e h
      rw [hs30] at hP
      refine lv_iload hx hb eX4_loadBlock_176.1 (lv_at hl 6 rfl) ?_
      obtain ⟨hr31, h⟩ := rg_e h
      refine lv_if_eq (tgt := 201) hx hb eX4_loadBlock_176.2.1 (by decide) (fun c32 => ?_) (fun c32 => ?_)
      · have h := if_t ((i2_eq (x := x2) (y := 0) hr31 (by decide)).mp c32) h
        exact J201 (x1, x3, s30) _ _ _ ⟨hP, hS, lv_sub hl [2, 3, 4, 5, 7] rfl, h⟩
      · have h := if_f (mt (i2_eq (x := x2) (y := 0) hr31 (by decide)).mpr c32) h
        refine lv_iload hx hb eX4_loadBlock_176.2.2.1 (lv_at hl 1 rfl) ?_
        obtain ⟨r34, hc33, h⟩ := bn_e h
        refine ycN (r0 := i2 r34) (As := [.int (i2 r19)]) (rest := []) (n := 1) ⟨hx, hb, hml, hown, ht⟩ (k_x11_isKey l D a r19 _ _ hc33) co_X11_isKey in_X11 hN st_X11_isKey rfl rfl (by decide +kernel) ⟨Nat.le_of_ble_eq_true rfl, Nat.le_of_ble_eq_true rfl⟩ hN hK hP hS rfl hl.1 rfl (Nat.le_of_ble_eq_true rfl) eX4_loadBlock_176.2.2.2.1 ⟨Nat.le_of_ble_eq_true rfl, Nat.le_of_ble_eq_true rfl⟩ (fun H locs hP hS => ?_)
        obtain ⟨hr35, h⟩ := rg_e h
        refine lv_if_eq (tgt := 201) hx hb eX4_loadBlock_176.2.2.2.2.1 (by decide) (fun c36 => ?_) (fun c36 => ?_)
        · have h := if_t ((i2_eq (x := r34) (y := 0) hr35 (by decide)).mp c36) h
          exact J201 (x1, x3, s30) _ _ _ ⟨hP, hS, lv_sub hl [2, 3, 4, 5, 7] rfl, h⟩
        · have h := if_f (mt (i2_eq (x := r34) (y := 0) hr35 (by decide)).mpr c36) h
          refine lv_iload hx hb eX4_loadBlock_176.2.2.2.2.2.1 (lv_at hl 0 rfl) ?_
          obtain ⟨r38, hc37, h⟩ := bn_e h
          refine ycN (r0 := i2 r38) (As := [.int (i2 r22)]) (rest := []) (n := 1) ⟨hx, hb, hml, hown, ht⟩ (k_x11_isKey l D a r22 _ _ hc37) co_X11_isKey in_X11 hN st_X11_isKey rfl rfl (by decide +kernel) ⟨Nat.le_of_ble_eq_true rfl, Nat.le_of_ble_eq_true rfl⟩ hN hK hP hS rfl hl.1 rfl (Nat.le_of_ble_eq_true rfl) eX4_loadBlock_176.2.2.2.2.2.2.1 ⟨Nat.le_of_ble_eq_true rfl, Nat.le_of_ble_eq_true rfl⟩ (fun H locs hP hS => ?_)
          obtain ⟨hr39, h⟩ := rg_e h
          refine lv_if_eq (tgt := 201) hx hb eX4_loadBlock_176.2.2.2.2.2.2.2 (by decide) (fun c40 => ?_) (fun c40 => ?_)
          · have h := if_t ((i2_eq (x := r38) (y := 0) hr39 (by decide)).mp c40) h
            exact J201 (x1, x3, s30) _ _ _ ⟨hP, hS, lv_sub hl [2, 3, 4, 5, 7] rfl, h⟩
          · have h := if_f (mt (i2_eq (x := r38) (y := 0) hr39 (by decide)).mpr c40) h
            refine lv_iconst (v := 1) hx hb eX4_loadBlock_197.1 (by decide) ?_
            refine lv_goto (tgt := 202) hx hb eX4_loadBlock_197.2.1 (by decide) ?_
            exact J202 (x1, x3, 1, s30) _ _ _ ⟨hP, hS, lv_sub hl [2, 3, 4, 5, 7] rfl, h⟩
  refine y_head (pcJ := 115) (σ := MS) (fun u H locs ls => va_P D vwCl (CS D a u) H ∧ va_S A s₀.heap H locs ∧ lv_has ls 9 [] ∧ m_x4_loadBlock_J115 u = some o) (fun u => []) (fun u H locs ls hI => ?_) (fun J115 => ?_)
  · obtain ⟨hP, hS, hl, h⟩ := hI
    obtain ⟨s41, rfl⟩ : ∃ z, z = u := ⟨u, rfl⟩
    have hP : va_P D vwCl (CS D a s41) H := hP
    have hl : lv_has ls 9 [] := hl
    have h : m_x4_loadBlock_J115 s41 = some o := h
    unfold m_x4_loadBlock_J115 at h
    refine lv_iconst (v := 0) hx hb eX4_loadBlock_108.2.2.2.2.1 (by decide) ?_
    obtain rfl := Option.some.inj h
    exact W.zret (v := 0) hx hb hr (by decide) (fun t ht hW => ⟨⟨_, (), rfl, rfl, by rw [ht]; exact hP, va_K.moved hW.alike hK, hDD _⟩, hS.F ht⟩) hS.2.2 eX4_loadBlock_108.2.2.2.2.2.1
  refine y_head (pcJ := 40) (σ := MS) (fun u H locs ls => va_P D vwCl (CS D a u) H ∧ va_S A s₀.heap H locs ∧ lv_has ls 9 [] ∧ m_x4_loadBlock_J40 u = some o) (fun u => []) (fun u H locs ls hI => ?_) (fun J40 => ?_)
  · obtain ⟨hP, hS, hl, h⟩ := hI
    obtain ⟨s42, rfl⟩ : ∃ z, z = u := ⟨u, rfl⟩
    have hP : va_P D vwCl (CS D a s42) H := hP
    have hl : lv_has ls 9 [] := hl
    have h : m_x4_loadBlock_J40 s42 = some o := h
    unfold m_x4_loadBlock_J40 at h
    refine lv_iconst (v := 0) hx hb eX4_loadBlock_27.2.2.2.2.2.2.2 (by decide) ?_
    obtain rfl := Option.some.inj h
    exact W.zret (v := 0) hx hb hr (by decide) (fun t ht hW => ⟨⟨_, (), rfl, rfl, by rw [ht]; exact hP, va_K.moved hW.alike hK, hDD _⟩, hS.F ht⟩) hS.2.2 eX4_loadBlock_41.1
  refine lv_aload_n hx hb eX4_load_96.2.2.2.2.2.2.2 rfl (lv_at hl 2 rfl) ?_
  refine va_get (D := D) (ci := 8) (v := .ref (a 72)) (C := RX8) (T := TX8) (N := 11) hx hb ht inX8 hown hK hP 71 CW_71 rfl 3 (by decide) (ht (.fieldLink RX4 54 "CloneVolumes$State" "count" "[I") fl_X4_54) (fun _ h9 => h9) rfl eX4_loadBlock_1.1 ?_
  refine lv_iload_n hx hb eX4_loadBlock_1.2.1 rfl (lv_at hl 3 rfl) ?_
  refine lv_aload_n hx hb eX4_loadBlock_1.2.2.1 rfl (lv_at hl 0 rfl) ?_
  refine lv_aload_n hx hb eX4_loadBlock_1.2.2.2.1 rfl (lv_at hl 1 rfl) ?_
  obtain ⟨⟨r45, s44⟩, hc43, h⟩ := bn_e h
  refine ywV (r0 := i2 r45) (As := [.ref (a 3)]) (rest := [.int (i2 p2), .ref (a 72)]) (C := RX4) (n := 1) (ws' := CS D a s44) ⟨hx, hb, hml, hown, ht⟩ (k_x4_next l D a _ _ _ hc43) (zgV ml_X4_113 im_X4_next se_X4_next in_X4 co_X4_next) rfl rfl (by decide +kernel) ⟨Nat.le_of_ble_eq_true rfl, Nat.le_of_ble_eq_true rfl⟩ hN hK hP (hDD _) hS hA 16 CW_16 rfl rfl rfl hl.1 rfl (Nat.le_of_ble_eq_true rfl) eX4_loadBlock_1.2.2.2.2.1 ⟨Nat.le_of_ble_eq_true rfl, Nat.le_of_ble_eq_true rfl⟩ (fun H locs hP hS => ?_)
  obtain ⟨hi46, h⟩ := inb_e h
  refine ya_iast (i := p2) (x := r45) hx hb hK hP (hDD _) hS 72 0 CW_72 rfl (by decide) hi46 eX4_loadBlock_1.2.2.2.2.2.1 (CW_w72 _) (fun H locs hP hS => ?_)
  obtain ⟨s47, hs47, h⟩ := st_e h
  rw [hs47] at hP
  refine lv_aload_n hx hb eX4_loadBlock_1.2.2.2.2.2.2.1 rfl (lv_at hl 2 rfl) ?_
  refine va_get (D := D) (ci := 8) (v := .ref (a 73)) (C := RX8) (T := TX8) (N := 11) hx hb ht inX8 hown hK hP 71 CW_71 rfl 4 (by decide) (ht (.fieldLink RX4 57 "CloneVolumes$State" "saved" "[I") fl_X4_57) (fun _ h9 => h9) rfl eX4_loadBlock_1.2.2.2.2.2.2.2 ?_
  refine lv_iload_n hx hb eX4_loadBlock_15.1 rfl (lv_at hl 3 rfl) ?_
  refine lv_aload_n hx hb eX4_loadBlock_15.2.1 rfl (lv_at hl 0 rfl) ?_
  refine lv_aload_n hx hb eX4_loadBlock_15.2.2.1 rfl (lv_at hl 1 rfl) ?_
  obtain ⟨⟨r50, s49⟩, hc48, h⟩ := bn_e h
  refine ywV (r0 := i2 r50) (As := [.ref (a 3)]) (rest := [.int (i2 p2), .ref (a 73)]) (C := RX4) (n := 1) (ws' := CS D a s49) ⟨hx, hb, hml, hown, ht⟩ (k_x4_next l D a _ _ _ hc48) (zgV ml_X4_113 im_X4_next se_X4_next in_X4 co_X4_next) rfl rfl (by decide +kernel) ⟨Nat.le_of_ble_eq_true rfl, Nat.le_of_ble_eq_true rfl⟩ hN hK hP (hDD _) hS hA 16 CW_16 rfl rfl rfl hl.1 rfl (Nat.le_of_ble_eq_true rfl) eX4_loadBlock_15.2.2.2.1 ⟨Nat.le_of_ble_eq_true rfl, Nat.le_of_ble_eq_true rfl⟩ (fun H locs hP hS => ?_)
  obtain ⟨hi51, h⟩ := inb_e h
  refine ya_iast (i := p2) (x := r50) hx hb hK hP (hDD _) hS 73 0 CW_73 rfl (by decide) hi51 eX4_loadBlock_15.2.2.2.2.1 (CW_w73 _) (fun H locs hP hS => ?_)
  obtain ⟨s52, hs52, h⟩ := st_e h
  rw [hs52] at hP
  refine lv_aload_n hx hb eX4_loadBlock_15.2.2.2.2.2.1 rfl (lv_at hl 2 rfl) ?_
  refine va_get (D := D) (ci := 8) (v := .ref (a 72)) (C := RX8) (T := TX8) (N := 11) hx hb ht inX8 hown hK hP 71 CW_71 rfl 3 (by decide) (ht (.fieldLink RX4 54 "CloneVolumes$State" "count" "[I") fl_X4_54) (fun _ h9 => h9) rfl eX4_loadBlock_15.2.2.2.2.2.2.1 ?_
  refine lv_iload_n hx hb eX4_loadBlock_15.2.2.2.2.2.2.2 rfl (lv_at hl 3 rfl) ?_
  obtain ⟨y53, ey53, iy53, h⟩ := rdI_e h
  refine ya_iald (i := p2) hx hb hK hP 72 0 CW_72 rfl (by decide) ey53 iy53 eX4_loadBlock_27.1 ?_
  obtain ⟨hr54, h⟩ := rg_e h
  refine lv_if_lt (tgt := 40) hx hb eX4_loadBlock_27.2.1 (by decide) (fun c55 => ?_) (fun c55 => ?_)
  · have h := if_t ((i2_lt (x := y53) (y := 0) hr54 (by decide)).mp c55) h
    exact J40 s52 _ _ _ ⟨hP, hS, lv_sub hl [] rfl, h⟩
  · have h := if_f (mt (i2_lt (x := y53) (y := 0) hr54 (by decide)).mpr c55) h
    refine lv_aload_n hx hb eX4_loadBlock_27.2.2.1 rfl (lv_at hl 2 rfl) ?_
    refine va_get (D := D) (ci := 8) (v := .ref (a 73)) (C := RX8) (T := TX8) (N := 11) hx hb ht inX8 hown hK hP 71 CW_71 rfl 4 (by decide) (ht (.fieldLink RX4 57 "CloneVolumes$State" "saved" "[I") fl_X4_57) (fun _ h9 => h9) rfl eX4_loadBlock_27.2.2.2.1 ?_
    refine lv_iload_n hx hb eX4_loadBlock_27.2.2.2.2.1 rfl (lv_at hl 3 rfl) ?_
    obtain ⟨y56, ey56, iy56, h⟩ := rdI_e h
    refine ya_iald (i := p2) hx hb hK hP 73 0 CW_73 rfl (by decide) ey56 iy56 eX4_loadBlock_27.2.2.2.2.2.1 ?_
    obtain ⟨hr57, h⟩ := rg_e h
    refine lv_if_ge (tgt := 42) hx hb eX4_loadBlock_27.2.2.2.2.2.2.1 (by decide) (fun c58 => ?_) (fun c58 => ?_)
    · have h := if_t ((i2_le (x := 0) (y := y56) (by decide) hr57).mp c58) h
      refine lv_aload_n hx hb eX4_loadBlock_41.2.1 rfl (lv_at hl 2 rfl) ?_
      refine lv_iload_n hx hb eX4_loadBlock_41.2.2.1 rfl (lv_at hl 3 rfl) ?_
      obtain ⟨r60, hc59, h⟩ := bn_e h
      refine ycV (r0 := i2 r60) (As := [.int (i2 p2)]) (rest := []) (C := RX8) (n := 1) ⟨hx, hb, hml, hown, ht⟩ (k_x8_isFree_v2 l D a p2 _ _ hc59) (zgV ml_X4_60 im_X8_isFree se_X8_isFree in_X8 co_X8_isFree) rfl rfl (by decide +kernel) ⟨Nat.le_of_ble_eq_true rfl, Nat.le_of_ble_eq_true rfl⟩ hN hK hP hS 71 CW_71 rfl rfl rfl hl.1 rfl (Nat.le_of_ble_eq_true rfl) eX4_loadBlock_41.2.2.2.1 ⟨Nat.le_of_ble_eq_true rfl, Nat.le_of_ble_eq_true rfl⟩ (fun H locs hP hS => ?_)
      obtain ⟨hr61, h⟩ := rg_e h
      refine lv_if_eq (tgt := 52) hx hb eX4_loadBlock_41.2.2.2.2.1 (by decide) (fun c62 => ?_) (fun c62 => ?_)
      · have h := if_t ((i2_eq (x := r60) (y := 0) hr61 (by decide)).mp c62) h
        refine lv_aload_n hx hb eX4_loadBlock_41.2.2.2.2.2.2.2 rfl (lv_at hl 2 rfl) ?_
        refine va_get (D := D) (ci := 8) (v := .ref (a 74)) (C := RX8) (T := TX8) (N := 11) hx hb ht inX8 hown hK hP 71 CW_71 rfl 5 (by decide) (ht (.fieldLink RX4 72 "CloneVolumes$State" "level" "[I") fl_X4_72) (fun _ h9 => h9) rfl eX4_loadBlock_53.1 ?_
        refine lv_iload_n hx hb eX4_loadBlock_53.2.1 rfl (lv_at hl 3 rfl) ?_
        refine lv_aload_n hx hb eX4_loadBlock_53.2.2.1 rfl (lv_at hl 0 rfl) ?_
        refine lv_aload_n hx hb eX4_loadBlock_53.2.2.2.1 rfl (lv_at hl 1 rfl) ?_
        obtain ⟨⟨r65, s64⟩, hc63, h⟩ := bn_e h
        refine ywV (r0 := i2 r65) (As := [.ref (a 3)]) (rest := [.int (i2 p2), .ref (a 74)]) (C := RX4) (n := 1) (ws' := CS D a s64) ⟨hx, hb, hml, hown, ht⟩ (k_x4_next l D a _ _ _ hc63) (zgV ml_X4_113 im_X4_next se_X4_next in_X4 co_X4_next) rfl rfl (by decide +kernel) ⟨Nat.le_of_ble_eq_true rfl, Nat.le_of_ble_eq_true rfl⟩ hN hK hP (hDD _) hS hA 16 CW_16 rfl rfl rfl hl.1 rfl (Nat.le_of_ble_eq_true rfl) eX4_loadBlock_53.2.2.2.2.1 ⟨Nat.le_of_ble_eq_true rfl, Nat.le_of_ble_eq_true rfl⟩ (fun H locs hP hS => ?_)
        obtain ⟨hi66, h⟩ := inb_e h
        refine ya_iast (i := p2) (x := r65) hx hb hK hP (hDD _) hS 74 0 CW_74 rfl (by decide) hi66 eX4_loadBlock_53.2.2.2.2.2.1 (CW_w74 _) (fun H locs hP hS => ?_)
        obtain ⟨s67, hs67, h⟩ := st_e h
        rw [hs67] at hP
        refine lv_aload_n hx hb eX4_loadBlock_53.2.2.2.2.2.2.1 rfl (lv_at hl 2 rfl) ?_
        refine va_get (D := D) (ci := 8) (v := .ref (a 75)) (C := RX8) (T := TX8) (N := 11) hx hb ht inX8 hown hK hP 71 CW_71 rfl 6 (by decide) (ht (.fieldLink RX4 75 "CloneVolumes$State" "size" "[I") fl_X4_75) (fun _ h9 => h9) rfl eX4_loadBlock_53.2.2.2.2.2.2.2 ?_
        refine lv_iload_n hx hb eX4_loadBlock_67.1 rfl (lv_at hl 3 rfl) ?_
        refine lv_aload_n hx hb eX4_loadBlock_67.2.1 rfl (lv_at hl 0 rfl) ?_
        refine lv_aload_n hx hb eX4_loadBlock_67.2.2.1 rfl (lv_at hl 1 rfl) ?_
        obtain ⟨⟨r70, s69⟩, hc68, h⟩ := bn_e h
        refine ywV (r0 := i2 r70) (As := [.ref (a 3)]) (rest := [.int (i2 p2), .ref (a 75)]) (C := RX4) (n := 1) (ws' := CS D a s69) ⟨hx, hb, hml, hown, ht⟩ (k_x4_next l D a _ _ _ hc68) (zgV ml_X4_113 im_X4_next se_X4_next in_X4 co_X4_next) rfl rfl (by decide +kernel) ⟨Nat.le_of_ble_eq_true rfl, Nat.le_of_ble_eq_true rfl⟩ hN hK hP (hDD _) hS hA 16 CW_16 rfl rfl rfl hl.1 rfl (Nat.le_of_ble_eq_true rfl) eX4_loadBlock_67.2.2.2.1 ⟨Nat.le_of_ble_eq_true rfl, Nat.le_of_ble_eq_true rfl⟩ (fun H locs hP hS => ?_)
        obtain ⟨hi71, h⟩ := inb_e h
        refine ya_iast (i := p2) (x := r70) hx hb hK hP (hDD _) hS 75 0 CW_75 rfl (by decide) hi71 eX4_loadBlock_67.2.2.2.2.1 (CW_w75 _) (fun H locs hP hS => ?_)
        obtain ⟨s72, hs72, h⟩ := st_e h
        rw [hs72] at hP
        refine lv_aload_n hx hb eX4_loadBlock_67.2.2.2.2.2.1 rfl (lv_at hl 2 rfl) ?_
        refine va_get (D := D) (ci := 8) (v := .ref (a 74)) (C := RX8) (T := TX8) (N := 11) hx hb ht inX8 hown hK hP 71 CW_71 rfl 5 (by decide) (ht (.fieldLink RX4 72 "CloneVolumes$State" "level" "[I") fl_X4_72) (fun _ h9 => h9) rfl eX4_loadBlock_67.2.2.2.2.2.2.1 ?_
        refine lv_iload_n hx hb eX4_loadBlock_67.2.2.2.2.2.2.2 rfl (lv_at hl 3 rfl) ?_
        obtain ⟨y73, ey73, iy73, h⟩ := rdI_e h
        refine ya_iald (i := p2) hx hb hK hP 74 0 CW_74 rfl (by decide) ey73 iy73 eX4_loadBlock_79.1 ?_
        obtain ⟨hr74, h⟩ := rg_e h
        refine lv_if_lt (tgt := 115) hx hb eX4_loadBlock_79.2.1 (by decide) (fun c75 => ?_) (fun c75 => ?_)
        · have h := if_t ((i2_lt (x := y73) (y := 0) hr74 (by decide)).mp c75) h
          exact J115 s72 _ _ _ ⟨hP, hS, lv_sub hl [] rfl, h⟩
        · have h := if_f (mt (i2_lt (x := y73) (y := 0) hr74 (by decide)).mpr c75) h
          refine lv_aload_n hx hb eX4_loadBlock_79.2.2.1 rfl (lv_at hl 2 rfl) ?_
          refine va_get (D := D) (ci := 8) (v := .ref (a 74)) (C := RX8) (T := TX8) (N := 11) hx hb ht inX8 hown hK hP 71 CW_71 rfl 5 (by decide) (ht (.fieldLink RX4 72 "CloneVolumes$State" "level" "[I") fl_X4_72) (fun _ h9 => h9) rfl eX4_loadBlock_79.2.2.2.1 ?_
          refine lv_iload_n hx hb eX4_loadBlock_79.2.2.2.2.1 rfl (lv_at hl 3 rfl) ?_
          obtain ⟨y76, ey76, iy76, h⟩ := rdI_e h
          refine ya_iald (i := p2) hx hb hK hP 74 0 CW_74 rfl (by decide) ey76 iy76 eX4_loadBlock_79.2.2.2.2.2.1 ?_
          refine lv_bipush (v := 48) hx hb eX4_loadBlock_79.2.2.2.2.2.2.1 (by decide) ?_
          obtain ⟨hr77, h⟩ := rg_e h
          refine lv_icmp_ge (tgt := 115) hx hb eX4_loadBlock_79.2.2.2.2.2.2.2 (by decide) (fun c78 => ?_) (fun c78 => ?_)
          · have h := if_t ((i2_le (x := 48) (y := y76) (by decide) hr77).mp c78) h
            exact J115 s72 _ _ _ ⟨hP, hS, lv_sub hl [] rfl, h⟩
          · have h := if_f (mt (i2_le (x := 48) (y := y76) (by decide) hr77).mpr c78) h
            refine lv_aload_n hx hb eX4_loadBlock_94.1 rfl (lv_at hl 2 rfl) ?_
            refine va_get (D := D) (ci := 8) (v := .ref (a 75)) (C := RX8) (T := TX8) (N := 11) hx hb ht inX8 hown hK hP 71 CW_71 rfl 6 (by decide) (ht (.fieldLink RX4 75 "CloneVolumes$State" "size" "[I") fl_X4_75) (fun _ h9 => h9) rfl eX4_loadBlock_94.2.1 ?_
            refine lv_iload_n hx hb eX4_loadBlock_94.2.2.1 rfl (lv_at hl 3 rfl) ?_
            obtain ⟨y79, ey79, iy79, h⟩ := rdI_e h
            refine ya_iald (i := p2) hx hb hK hP 75 0 CW_75 rfl (by decide) ey79 iy79 eX4_loadBlock_94.2.2.2.1 ?_
            refine lv_iconst (v := 1) hx hb eX4_loadBlock_94.2.2.2.2.1 (by decide) ?_
            obtain ⟨hr80, h⟩ := rg_e h
            refine lv_icmp_lt (tgt := 115) hx hb eX4_loadBlock_94.2.2.2.2.2.1 (by decide) (fun c81 => ?_) (fun c81 => ?_)
            · have h := if_t ((i2_lt (x := y79) (y := 1) hr80 (by decide)).mp c81) h
              exact J115 s72 _ _ _ ⟨hP, hS, lv_sub hl [] rfl, h⟩
            · have h := if_f (mt (i2_lt (x := y79) (y := 1) hr80 (by decide)).mpr c81) h
              refine lv_aload_n hx hb eX4_loadBlock_94.2.2.2.2.2.2.1 rfl (lv_at hl 2 rfl) ?_
              refine va_get (D := D) (ci := 8) (v := .ref (a 75)) (C := RX8) (T := TX8) (N := 11) hx hb ht inX8 hown hK hP 71 CW_71 rfl 6 (by decide) (ht (.fieldLink RX4 75 "CloneVolumes$State" "size" "[I") fl_X4_75) (fun _ h9 => h9) rfl eX4_loadBlock_94.2.2.2.2.2.2.2 ?_
              refine lv_iload_n hx hb eX4_loadBlock_108.1 rfl (lv_at hl 3 rfl) ?_
              obtain ⟨y82, ey82, iy82, h⟩ := rdI_e h
              refine ya_iald (i := p2) hx hb hK hP 75 0 CW_75 rfl (by decide) ey82 iy82 eX4_loadBlock_108.2.1 ?_
              refine lv_iload hx hb eX4_loadBlock_108.2.2.1 (lv_at hl 4 rfl) ?_
              obtain ⟨hr83, h⟩ := rg_e h
              obtain ⟨hr84, h⟩ := rg_e h
              refine lv_icmp_le (tgt := 117) hx hb eX4_loadBlock_108.2.2.2.1 (by decide) (fun c85 => ?_) (fun c85 => ?_)
              · have h := if_t ((i2_le (x := y82) (y := p3) hr83 hr84).mp c85) h
                refine lv_iconst (v := 1) hx hb eX4_loadBlock_108.2.2.2.2.2.2.1 (by decide) ?_
                refine lv_istore (lv' := [(5, .int 1), (0, .ref (a 16)), (1, .ref (a 3)), (2, .ref (a 71)), (3, .int (i2 p2)), (4, .int (i2 p3))]) hx hb eX4_loadBlock_108.2.2.2.2.2.2.2 hl (by decide) rfl (fun ls hl => ?_)
                refine lv_iconst (v := 0) hx hb eX4_loadBlock_120.1 (by decide) ?_
                refine lv_istore (lv' := [(6, .int 0), (5, .int 1), (0, .ref (a 16)), (1, .ref (a 3)), (2, .ref (a 71)), (3, .int (i2 p2)), (4, .int (i2 p3))]) hx hb eX4_loadBlock_120.2.1 hl (by decide) rfl (fun ls hl => ?_)
                exact J123 FU (p2, 1, 0, s72) _ _ _ ⟨hP, hS, lv_sub hl [2, 3, 4, 5, 1, 0] rfl, h⟩
              · have h := if_f (mt (i2_le (x := y82) (y := p3) hr83 hr84).mpr c85) h
                exact J115 s72 _ _ _ ⟨hP, hS, lv_sub hl [] rfl, h⟩
      · have h := if_f (mt (i2_eq (x := r60) (y := 0) hr61 (by decide)).mpr c62) h
        refine lv_iconst (v := 1) hx hb eX4_loadBlock_41.2.2.2.2.2.1 (by decide) ?_
        obtain rfl := Option.some.inj h
        exact W.zret (v := 1) hx hb hr (by decide) (fun t ht hW => ⟨⟨_, (), rfl, rfl, by rw [ht]; exact hP, va_K.moved hW.alike hK, hDD _⟩, hS.F ht⟩) hS.2.2 eX4_loadBlock_41.2.2.2.2.2.2.1
    · have h := if_f (mt (i2_le (x := 0) (y := y56) (by decide) hr57).mpr c58) h
      exact J40 s52 _ _ _ ⟨hP, hS, lv_sub hl [] rfl, h⟩
set_option maxHeartbeats 4000000 in
set_option maxRecDepth 100000 in
theorem k_x4_seal_v2 (l : Launch) (D : va_G) (a : Nat → Nat) (p1 : Int) (s : MS) (o : Int) (h : m_x4_seal_v2 p1 s = some o) : yRi l yX4_seal cX4_seal 4 (some .int) { frames := 0, cells := 0, slots := 0, locals := 0 } D [.ref (a 4), .int (i2 p1)] (CS D a s) (i2 o) := by
  refine Met.ofW (cc := cX4_seal) (maxL := 4) (ret := (some .int)) (by decide) rfl ?_
  intro p e s₀ m args below meth c s₁ B hml hv
  obtain ⟨rfl, ⟨hP, hK⟩, hN⟩ := hv
  have hx := B.exec
  have hb := B.bytes
  have hr := B.returns
  have hts := atoms_spec (ws := wz yX4_seal cX4_seal 4 (some .int)) B.pre
  have ht : ∀ w ∈ lw_gd, w.before _ s₀ = true := fun w h => hts w (List.mem_cons_of_mem _ h)
  have hown : s₀.vm.findClass RX4 = some m.cls := findClass_of_methodNamed B.named
  have hlocks := B.notSynchronized
  have hS : va_S (fun _ => False) s₀.heap s₀.heap [] := va_S.rf
  have hl := lv_entry ([.ref (a 4), .int (i2 p1)]) (n := 4) (Nat.le_of_ble_eq_true rfl)
  rw [lg_entry_eq]
  generalize (lg_sl ([.ref (a 4), .int (i2 p1)]) ++ List.replicate (4 - (lg_sl ([.ref (a 4), .int (i2 p1)])).length) Slot.unset).toArray = ls at hl ⊢
  have hl : lv_has ls 4 [(0, .ref (a 4)), (1, .int (i2 p1))] := hl
  unfold m_x4_seal_v2 at h
  refine y_head (pcJ := 35) (σ := Int) (fun u H locs ls => va_P D vwCl (CS D a s) H ∧ va_S (fun _ => False) s₀.heap H locs ∧ lv_has ls 4 [(2, .int (i2 u))] ∧ m_x4_seal_v2_J35 s u = some o) (fun u => []) (fun u H locs ls hI => ?_) (fun J35 => ?_)
  · obtain ⟨hP, hS, hl, h⟩ := hI
    obtain ⟨x1, rfl⟩ : ∃ z, z = u := ⟨u, rfl⟩
    have hP : va_P D vwCl (CS D a s) H := hP
    have hl : lv_has ls 4 [(2, .int (i2 x1))] := hl
    have h : m_x4_seal_v2_J35 s x1 = some o := h
    unfold m_x4_seal_v2_J35 at h
    refine lv_iload_n hx hb eX4_seal_23.2.2.2.2.2.2.1 rfl (lv_at hl 0 rfl) ?_
    obtain rfl := Option.some.inj h
    exact W.iret (v := (i2 x1)) hx hb hr (fun t ht hW => ⟨⟨_, (), rfl, rfl, trivial⟩, hS.F ht⟩) hS.2.2 eX4_seal_23.2.2.2.2.2.2.2
  refine y_loop (pcJ := 6) (σ := Int × Int × Int) (fun n u H locs ls => va_P D vwCl (CS D a s) H ∧ va_S (fun _ => False) s₀.heap H locs ∧ lv_has ls 4 [(0, .ref (a 4)), (1, .int (i2 u.1)), (2, .int (i2 u.2.1)), (3, .int (i2 u.2.2))] ∧ m_x4_seal_v2_L6 s n u.1 u.2.1 u.2.2 = some o) (fun u => []) (fun u H locs ls hI => by obtain ⟨_, _, _, h⟩ := hI; cases h) (fun n6 ih6 u H locs ls hI => ?_) (fun J6 => ?_)
  · obtain ⟨hP, hS, hl, h⟩ := hI
    obtain ⟨x2, x3, x4⟩ := u
    have hP : va_P D vwCl (CS D a s) H := hP
    have hl : lv_has ls 4 [(0, .ref (a 4)), (1, .int (i2 x2)), (2, .int (i2 x3)), (3, .int (i2 x4))] := hl
    have h : m_x4_seal_v2_b6 s (m_x4_seal_v2_L6 s n6) x2 x3 x4 = some o := h
    unfold m_x4_seal_v2_b6 at h
    refine lv_iload_n hx hb eX4_seal_3.2.2.2.1 rfl (lv_at hl 3 rfl) ?_
    refine lv_iload_n hx hb eX4_seal_3.2.2.2.2.1 rfl (lv_at hl 1 rfl) ?_
    obtain ⟨hr5, h⟩ := rg_e h
    obtain ⟨hr6, h⟩ := rg_e h
    refine lv_icmp_ge (tgt := 35) hx hb eX4_seal_3.2.2.2.2.2.1 (by decide) (fun c7 => ?_) (fun c7 => ?_)
    · have h := if_t ((i2_le (x := x2) (y := x4) hr6 hr5).mp c7) h
      exact J35 x3 _ _ _ ⟨hP, hS, lv_sub hl [2] rfl, h⟩
    · have h := if_f (mt (i2_le (x := x2) (y := x4) hr6 hr5).mpr c7) h
      refine lv_iload_n hx hb eX4_seal_3.2.2.2.2.2.2.1 rfl (lv_at hl 3 rfl) ?_
      refine lv_aload_n hx hb eX4_seal_3.2.2.2.2.2.2.2 rfl (lv_at hl 0 rfl) ?_
      refine va_alen (v := 1600) hx hb hK hP 4 0 CW_4 (ty := .int) rfl rfl eX4_seal_13.1 ?_
      obtain ⟨hr8, h⟩ := rg_e h
      refine lv_icmp_ge (tgt := 35) hx hb eX4_seal_13.2.1 (by decide) (fun c9 => ?_) (fun c9 => ?_)
      · have h := if_t ((i2_le (x := 1600) (y := x4) (by decide) hr8).mp c9) h
        exact J35 x3 _ _ _ ⟨hP, hS, lv_sub hl [2] rfl, h⟩
      · have h := if_f (mt (i2_le (x := 1600) (y := x4) (by decide) hr8).mpr c9) h
        refine lv_iconst (v := 3) hx hb eX4_seal_13.2.2.1 (by decide) ?_
        refine lv_iload_n hx hb eX4_seal_13.2.2.2.1 rfl (lv_at hl 2 rfl) ?_
        refine lv_imul hx hb eX4_seal_13.2.2.2.2.1 ?_
        refine z_topi (y := i2 (3 * x3)) (i2_mul 3 x3) ?_
        refine lv_aload_n hx hb eX4_seal_13.2.2.2.2.2.1 rfl (lv_at hl 0 rfl) ?_
        refine lv_iload_n hx hb eX4_seal_13.2.2.2.2.2.2.1 rfl (lv_at hl 3 rfl) ?_
        obtain ⟨y10, ey10, iy10, h⟩ := rdI_e h
        refine ya_iald (i := x4) hx hb hK hP 4 0 CW_4 rfl (by decide) ey10 iy10 eX4_seal_13.2.2.2.2.2.2.2 ?_
        refine lv_iadd hx hb eX4_seal_23.1 ?_
        refine z_topi (y := i2 ((3 * x3) + y10)) (i2_add (3 * x3) y10) ?_
        refine lv_sipush (v := 251) hx hb eX4_seal_23.2.1 (by decide) ?_
        obtain ⟨hn11, h⟩ := dv_e h
        refine lv_irem hx hb eX4_seal_23.2.2.1 (dv_nz hn11) ?_
        refine z_topi (y := i2 (Int.tmod ((3 * x3) + y10) 251)) (by rw [show (251 : Int32) = i2 251 from by decide +kernel]; exact dv_r hn11) ?_
        refine lv_istore_n (lv' := [(2, .int (i2 (Int.tmod ((3 * x3) + y10) 251))), (0, .ref (a 4)), (1, .int (i2 x2)), (3, .int (i2 x4))]) hx hb eX4_seal_23.2.2.2.1 rfl hl (by decide) rfl (fun ls hl => ?_)
        refine lv_iinc (v := i2 (x4 + 1)) (lv' := [(3, .int (i2 (x4 + 1))), (2, .int (i2 (Int.tmod ((3 * x3) + y10) 251))), (0, .ref (a 4)), (1, .int (i2 x2))]) hx hb eX4_seal_23.2.2.2.2.1 hl (k := 3) rfl (i2_add x4 1) (by decide) rfl (fun ls hl => ?_)
        refine lv_goto (tgt := 6) hx hb eX4_seal_23.2.2.2.2.2.1 (by decide) ?_
        exact ih6 (x2, Int.tmod ((3 * x3) + y10) 251, x4 + 1) _ _ _ ⟨hP, hS, lv_sub hl [2, 3, 1, 0] rfl, h⟩
  refine lv_sipush (v := 157) hx hb eX4_add_26.2.2.2.2.2.2.2 (by decide) ?_
  refine lv_istore_n (lv' := [(2, .int 157), (0, .ref (a 4)), (1, .int (i2 p1))]) hx hb eX4_seal_3.1 rfl hl (by decide) rfl (fun ls hl => ?_)
  refine lv_iconst (v := 0) hx hb eX4_seal_3.2.1 (by decide) ?_
  refine lv_istore_n (lv' := [(3, .int 0), (2, .int 157), (0, .ref (a 4)), (1, .int (i2 p1))]) hx hb eX4_seal_3.2.2.1 rfl hl (by decide) rfl (fun ls hl => ?_)
  exact J6 FU (p1, 157, 0) _ _ _ ⟨hP, hS, lv_sub hl [2, 3, 1, 0] rfl, h⟩
set_option maxHeartbeats 4000000 in
set_option maxRecDepth 100000 in
theorem k_x8_clear (l : Launch) (D : va_G) (a : Nat → Nat) (p0 : Int) (sz : Nat) (s : MS) (o : MS) (h : m_x8_clear p0 s = some o) : yWv l yX8_clear cX8_clear 3 none { frames := 0, cells := 0, slots := 0, locals := 0 } D sz [.ref (a 71), .int (i2 p0)] (CS D a s) (CS D a o) := by
  refine Met.ofW (cc := cX8_clear) (maxL := 3) (ret := none) (by decide) rfl ?_
  intro p e s₀ m args below meth c s₁ B hml hv
  obtain ⟨rfl, ⟨hsz, hP, hK, hD0⟩, hN⟩ := hv
  have hx := B.exec
  have hb := B.bytes
  have hr := B.returns
  have hts := atoms_spec (ws := wz yX8_clear cX8_clear 3 none) B.pre
  have ht : ∀ w ∈ lw_gd, w.before _ s₀ = true := fun w h => hts w (List.mem_cons_of_mem _ h)
  have hown : s₀.vm.findClass RX8 = some m.cls := findClass_of_methodNamed B.named
  have hlocks := B.notSynchronized
  subst hsz
  have hD := hD0.self (sz := s₀.heap.size)
  generalize hAe : va_A (CS D a s) s₀.heap.size = A at hD ⊢
  have hA : ∀ q : Nat, s₀.heap.size ≤ q → A q := fun q h => by rw [← hAe]; exact Or.inr h
  have hS : va_S A s₀.heap s₀.heap [] := va_S.rf
  have hDD : ∀ t : MS, va_D A (CS D a t) := fun t => CW_D t hD
  have hl := lv_entry ([.ref (a 71), .int (i2 p0)]) (n := 3) (Nat.le_of_ble_eq_true rfl)
  rw [lg_entry_eq]
  generalize (lg_sl ([.ref (a 71), .int (i2 p0)]) ++ List.replicate (3 - (lg_sl ([.ref (a 71), .int (i2 p0)])).length) Slot.unset).toArray = ls at hl ⊢
  have hl : lv_has ls 3 [(0, .ref (a 71)), (1, .int (i2 p0))] := hl
  unfold m_x8_clear at h
  refine y_loop (pcJ := 59) (σ := Int × MS) (fun n u H locs ls => va_P D vwCl (CS D a u.2) H ∧ va_S A s₀.heap H locs ∧ lv_has ls 3 [(0, .ref (a 71)), (2, .int (i2 u.1))] ∧ m_x8_clear_L59 n u.1 u.2 = some o) (fun u => []) (fun u H locs ls hI => by obtain ⟨_, _, _, h⟩ := hI; cases h) (fun n59 ih59 u H locs ls hI => ?_) (fun J59 => ?_)
  · obtain ⟨hP, hS, hl, h⟩ := hI
    obtain ⟨x1, s2⟩ := u
    have hP : va_P D vwCl (CS D a s2) H := hP
    have hl : lv_has ls 3 [(0, .ref (a 71)), (2, .int (i2 x1))] := hl
    have h : m_x8_clear_b59 (m_x8_clear_L59 n59) x1 s2 = some o := h
    unfold m_x8_clear_b59 at h
    refine lv_iload_n hx hb eX8_clear_58.2.1 rfl (lv_at hl 1 rfl) ?_
    refine lv_bipush (v := 8) hx hb eX8_clear_58.2.2.1 (by decide) ?_
    obtain ⟨hr3, h⟩ := rg_e h
    refine lv_icmp_ge (tgt := 87) hx hb eX8_clear_58.2.2.2.1 (by decide) (fun c4 => ?_) (fun c4 => ?_)
    · have h := if_t ((i2_le (x := 8) (y := x1) (by decide) hr3).mp c4) h
      obtain rfl := Option.some.inj h
      exact W.vret hx hb hr (fun t ht hW => ⟨⟨(), rfl, trivial, by rw [ht]; exact hP, va_K.moved hW.alike hK, hDD _⟩, hS.F ht⟩) hS.2.2 eX8_clear_87.1
    · have h := if_f (mt (i2_le (x := 8) (y := x1) (by decide) hr3).mpr c4) h
      refine lv_aload_n hx hb eX8_clear_58.2.2.2.2.1 rfl (lv_at hl 0 rfl) ?_
      refine va_get (D := D) (ci := 8) (v := .ref (a 78)) (C := RX8) (T := TX8) (N := 11) hx hb ht inX8 hown hK hP 71 CW_71 rfl 9 (by decide) (ht (.fieldLink RX8 30 "CloneVolumes$State" "roots" "[I") fl_X8_30) (fun _ h9 => h9) rfl eX8_clear_58.2.2.2.2.2.1 ?_
      refine lv_iload_n hx hb eX8_clear_58.2.2.2.2.2.2.1 rfl (lv_at hl 1 rfl) ?_
      refine lv_bipush (v := (-2)) hx hb eX8_clear_58.2.2.2.2.2.2.2 (by decide) ?_
      obtain ⟨hi5, h⟩ := inb_e h
      refine ya_iast (i := x1) (x := (-2)) hx hb hK hP (hDD _) hS 78 0 CW_78 rfl (by decide) hi5 eX8_clear_72.1 (CW_w78 _) (fun H locs hP hS => ?_)
      obtain ⟨s6, hs6, h⟩ := st_e h
      rw [hs6] at hP
      refine lv_aload_n hx hb eX8_clear_72.2.1 rfl (lv_at hl 0 rfl) ?_
      refine va_get (D := D) (ci := 8) (v := .ref (a 79)) (C := RX8) (T := TX8) (N := 11) hx hb ht inX8 hown hK hP 71 CW_71 rfl 10 (by decide) (ht (.fieldLink RX8 33 "CloneVolumes$State" "savedRoots" "[I") fl_X8_33) (fun _ h9 => h9) rfl eX8_clear_72.2.2.1 ?_
      refine lv_iload_n hx hb eX8_clear_72.2.2.2.1 rfl (lv_at hl 1 rfl) ?_
      refine lv_bipush (v := (-2)) hx hb eX8_clear_72.2.2.2.2.1 (by decide) ?_
      obtain ⟨hi7, h⟩ := inb_e h
      refine ya_iast (i := x1) (x := (-2)) hx hb hK hP (hDD _) hS 79 0 CW_79 rfl (by decide) hi7 eX8_clear_72.2.2.2.2.2.1 (CW_w79 _) (fun H locs hP hS => ?_)
      obtain ⟨s8, hs8, h⟩ := st_e h
      rw [hs8] at hP
      refine lv_iinc (v := i2 (x1 + 1)) (lv' := [(2, .int (i2 (x1 + 1))), (0, .ref (a 71))]) hx hb eX8_clear_72.2.2.2.2.2.2.1 hl (k := 1) rfl (i2_add x1 1) (by decide) rfl (fun ls hl => ?_)
      refine lv_goto (tgt := 59) hx hb eX8_clear_72.2.2.2.2.2.2.2 (by decide) ?_
      exact ih59 (x1 + 1, s8) _ _ _ ⟨hP, hS, lv_sub hl [1, 0] rfl, h⟩
  refine y_loop (pcJ := 17) (σ := Int × MS) (fun n u H locs ls => va_P D vwCl (CS D a u.2) H ∧ va_S A s₀.heap H locs ∧ lv_has ls 3 [(0, .ref (a 71)), (2, .int (i2 u.1))] ∧ m_x8_clear_L17 n u.1 u.2 = some o) (fun u => []) (fun u H locs ls hI => by obtain ⟨_, _, _, h⟩ := hI; cases h) (fun n17 ih17 u H locs ls hI => ?_) (fun J17 => ?_)
  · obtain ⟨hP, hS, hl, h⟩ := hI
    obtain ⟨x9, s10⟩ := u
    have hP : va_P D vwCl (CS D a s10) H := hP
    have hl : lv_has ls 3 [(0, .ref (a 71)), (2, .int (i2 x9))] := hl
    have h : m_x8_clear_b17 (m_x8_clear_L17 n17) x9 s10 = some o := h
    unfold m_x8_clear_b17 at h
    refine lv_iload_n hx hb eX8_clear_7.2.2.2.2.2.2.1 rfl (lv_at hl 1 rfl) ?_
    refine lv_bipush (v := 48) hx hb eX8_clear_7.2.2.2.2.2.2.2 (by decide) ?_
    obtain ⟨hr11, h⟩ := rg_e h
    refine lv_icmp_ge (tgt := 57) hx hb eX8_clear_20.1 (by decide) (fun c12 => ?_) (fun c12 => ?_)
    · have h := if_t ((i2_le (x := 48) (y := x9) (by decide) hr11).mp c12) h
      refine lv_iconst (v := 0) hx hb eX8_clear_44.2.2.2.2.2.2.2 (by decide) ?_
      refine lv_istore_n (lv' := [(2, .int 0), (0, .ref (a 71))]) hx hb eX8_clear_58.1 rfl hl (by decide) rfl (fun ls hl => ?_)
      exact J59 FU (0, s10) _ _ _ ⟨hP, hS, lv_sub hl [1, 0] rfl, h⟩
    · have h := if_f (mt (i2_le (x := 48) (y := x9) (by decide) hr11).mpr c12) h
      refine lv_aload_n hx hb eX8_clear_20.2.1 rfl (lv_at hl 0 rfl) ?_
      refine va_get (D := D) (ci := 8) (v := .ref (a 72)) (C := RX8) (T := TX8) (N := 11) hx hb ht inX8 hown hK hP 71 CW_71 rfl 3 (by decide) (ht (.fieldLink RX8 9 "CloneVolumes$State" "count" "[I") fl_X8_9) (fun _ h9 => h9) rfl eX8_clear_20.2.2.1 ?_
      refine lv_iload_n hx hb eX8_clear_20.2.2.2.1 rfl (lv_at hl 1 rfl) ?_
      refine lv_iconst (v := 0) hx hb eX8_clear_20.2.2.2.2.1 (by decide) ?_
      obtain ⟨hi13, h⟩ := inb_e h
      refine ya_iast (i := x9) (x := 0) hx hb hK hP (hDD _) hS 72 0 CW_72 rfl (by decide) hi13 eX8_clear_20.2.2.2.2.2.1 (CW_w72 _) (fun H locs hP hS => ?_)
      obtain ⟨s14, hs14, h⟩ := st_e h
      rw [hs14] at hP
      refine lv_aload_n hx hb eX8_clear_20.2.2.2.2.2.2.1 rfl (lv_at hl 0 rfl) ?_
      refine va_get (D := D) (ci := 8) (v := .ref (a 73)) (C := RX8) (T := TX8) (N := 11) hx hb ht inX8 hown hK hP 71 CW_71 rfl 4 (by decide) (ht (.fieldLink RX8 15 "CloneVolumes$State" "saved" "[I") fl_X8_15) (fun _ h9 => h9) rfl eX8_clear_20.2.2.2.2.2.2.2 ?_
      refine lv_iload_n hx hb eX8_clear_34.1 rfl (lv_at hl 1 rfl) ?_
      refine lv_iconst (v := 0) hx hb eX8_clear_34.2.1 (by decide) ?_
      obtain ⟨hi15, h⟩ := inb_e h
      refine ya_iast (i := x9) (x := 0) hx hb hK hP (hDD _) hS 73 0 CW_73 rfl (by decide) hi15 eX8_clear_34.2.2.1 (CW_w73 _) (fun H locs hP hS => ?_)
      obtain ⟨s16, hs16, h⟩ := st_e h
      rw [hs16] at hP
      refine lv_aload_n hx hb eX8_clear_34.2.2.2.1 rfl (lv_at hl 0 rfl) ?_
      refine va_get (D := D) (ci := 8) (v := .ref (a 74)) (C := RX8) (T := TX8) (N := 11) hx hb ht inX8 hown hK hP 71 CW_71 rfl 5 (by decide) (ht (.fieldLink RX8 18 "CloneVolumes$State" "level" "[I") fl_X8_18) (fun _ h9 => h9) rfl eX8_clear_34.2.2.2.2.1 ?_
      refine lv_iload_n hx hb eX8_clear_34.2.2.2.2.2.1 rfl (lv_at hl 1 rfl) ?_
      refine lv_iconst (v := 0) hx hb eX8_clear_34.2.2.2.2.2.2.1 (by decide) ?_
      obtain ⟨hi17, h⟩ := inb_e h
      refine ya_iast (i := x9) (x := 0) hx hb hK hP (hDD _) hS 74 0 CW_74 rfl (by decide) hi17 eX8_clear_34.2.2.2.2.2.2.2 (CW_w74 _) (fun H locs hP hS => ?_)
      obtain ⟨s18, hs18, h⟩ := st_e h
      rw [hs18] at hP
      refine lv_aload_n hx hb eX8_clear_44.1 rfl (lv_at hl 0 rfl) ?_
      refine va_get (D := D) (ci := 8) (v := .ref (a 75)) (C := RX8) (T := TX8) (N := 11) hx hb ht inX8 hown hK hP 71 CW_71 rfl 6 (by decide) (ht (.fieldLink RX8 21 "CloneVolumes$State" "size" "[I") fl_X8_21) (fun _ h9 => h9) rfl eX8_clear_44.2.1 ?_
      refine lv_iload_n hx hb eX8_clear_44.2.2.1 rfl (lv_at hl 1 rfl) ?_
      refine lv_iconst (v := 0) hx hb eX8_clear_44.2.2.2.1 (by decide) ?_
      obtain ⟨hi19, h⟩ := inb_e h
      refine ya_iast (i := x9) (x := 0) hx hb hK hP (hDD _) hS 75 0 CW_75 rfl (by decide) hi19 eX8_clear_44.2.2.2.2.1 (CW_w75 _) (fun H locs hP hS => ?_)
      obtain ⟨s20, hs20, h⟩ := st_e h
      rw [hs20] at hP
      refine lv_iinc (v := i2 (x9 + 1)) (lv' := [(2, .int (i2 (x9 + 1))), (0, .ref (a 71))]) hx hb eX8_clear_44.2.2.2.2.2.1 hl (k := 1) rfl (i2_add x9 1) (by decide) rfl (fun ls hl => ?_)
      refine lv_goto (tgt := 17) hx hb eX8_clear_44.2.2.2.2.2.2.1 (by decide) ?_
      exact ih17 (x9 + 1, s20) _ _ _ ⟨hP, hS, lv_sub hl [1, 0] rfl, h⟩
  refine lv_aload_n hx hb eX1_init_82.2.2.2.1 rfl (lv_at hl 0 rfl) ?_
  refine lv_iload_n hx hb eX1_init_82.2.2.2.2.1 rfl (lv_at hl 1 rfl) ?_
  refine ya_put (D := D) (ci := 8) (v := .int (i2 p0)) (ty := .int) (C := RX8) (T := TX8) (N := 11) hx hb ht inX8 tyX8 tyX8_ok nmX8 hown hK hP (hDD _) hS 71 CW_71 rfl 0 (by decide) (ht (.fieldLink RX8 40 "CloneVolumes$State" "blocks" "I") fl_X8_40) (fun _ h9 => h9) rfl (by decide +kernel) rfl rfl (Nat.le_of_ble_eq_true rfl) eX1_init_82.2.2.2.2.2.1 (CW_w71_0 p0) (fun H locs hP hS => ?_)
  obtain ⟨s21, hs21, h⟩ := st_e h
  rw [hs21] at hP
  refine lv_aload_n hx hb eX1_init_82.2.2.2.2.2.2.1 rfl (lv_at hl 0 rfl) ?_
  refine lv_iconst (v := 0) hx hb eX1_init_82.2.2.2.2.2.2.2 (by decide) ?_
  refine ya_put (D := D) (ci := 8) (v := .int 0) (ty := .int) (C := RX8) (T := TX8) (N := 11) hx hb ht inX8 tyX8 tyX8_ok nmX8 hown hK hP (hDD _) hS 71 CW_71 rfl 1 (by decide) (ht (.fieldLink RX8 44 "CloneVolumes$State" "spent" "I") fl_X8_44) (fun _ h9 => h9) rfl (by decide +kernel) rfl rfl (Nat.le_of_ble_eq_true rfl) eX8_clear_7.1 (CW_w71_1 0) (fun H locs hP hS => ?_)
  obtain ⟨s22, hs22, h⟩ := st_e h
  rw [hs22] at hP
  refine lv_aload_n hx hb eX8_clear_7.2.1 rfl (lv_at hl 0 rfl) ?_
  refine lv_lconst (v := 0) hx hb eX8_clear_7.2.2.1 (by decide) ?_
  refine ya_put (D := D) (ci := 8) (v := .long 0) (ty := .long) (C := RX8) (T := TX8) (N := 11) hx hb ht inX8 tyX8 tyX8_ok nmX8 hown hK hP (hDD _) hS 71 CW_71 rfl 2 (by decide) (ht (.fieldLink RX8 47 "CloneVolumes$State" "written" "J") fl_X8_47) (fun _ h9 => h9) rfl (by decide +kernel) rfl rfl (Nat.le_of_ble_eq_true rfl) eX8_clear_7.2.2.2.1 (CW_w71_2 0) (fun H locs hP hS => ?_)
  obtain ⟨s23, hs23, h⟩ := st_e h
  rw [hs23] at hP
  refine lv_iconst (v := 0) hx hb eX8_clear_7.2.2.2.2.1 (by decide) ?_
  refine lv_istore_n (lv' := [(2, .int 0), (0, .ref (a 71)), (1, .int (i2 p0))]) hx hb eX8_clear_7.2.2.2.2.2.1 rfl hl (by decide) rfl (fun ls hl => ?_)
  exact J17 FU (0, s23) _ _ _ ⟨hP, hS, lv_sub hl [1, 0] rfl, h⟩
set_option maxHeartbeats 4000000 in
set_option maxRecDepth 100000 in
theorem k_x4_rootOf (l : Launch) (D : va_G) (a : Nat → Nat) (p0 : Int) (s : MS) (o : Int) (h : m_x4_rootOf p0 s = some o) : yRi l yX4_rootOf cX4_rootOf 1 (some .int) { frames := 0, cells := 0, slots := 0, locals := 0 } D [.int (i2 p0)] (CS D a s) (i2 o) := by
  refine Met.ofW (cc := cX4_rootOf) (maxL := 1) (ret := (some .int)) (by decide) rfl ?_
  intro p e s₀ m args below meth c s₁ B hml hv
  obtain ⟨rfl, ⟨hP, hK⟩, hN⟩ := hv
  have hx := B.exec
  have hb := B.bytes
  have hr := B.returns
  have hts := atoms_spec (ws := wz yX4_rootOf cX4_rootOf 1 (some .int)) B.pre
  have ht : ∀ w ∈ lw_gd, w.before _ s₀ = true := fun w h => hts w (List.mem_cons_of_mem _ h)
  have hown : s₀.vm.findClass RX4 = some m.cls := findClass_of_methodNamed B.named
  have hlocks := B.notSynchronized
  have hS : va_S (fun _ => False) s₀.heap s₀.heap [] := va_S.rf
  have hl := lv_entry ([.int (i2 p0)]) (n := 1) (Nat.le_of_ble_eq_true rfl)
  rw [lg_entry_eq]
  generalize (lg_sl ([.int (i2 p0)]) ++ List.replicate (1 - (lg_sl ([.int (i2 p0)])).length) Slot.unset).toArray = ls at hl ⊢
  have hl : lv_has ls 1 [(0, .int (i2 p0))] := hl
  unfold m_x4_rootOf at h
  refine y_head (pcJ := 22) (σ := Int) (fun u H locs ls => va_P D vwCl (CS D a s) H ∧ va_S (fun _ => False) s₀.heap H locs ∧ lv_has ls 1 [] ∧ m_x4_rootOf_J22 s u = some o) (fun u => [.int (i2 u)]) (fun u H locs ls hI => ?_) (fun J22 => ?_)
  · obtain ⟨hP, hS, hl, h⟩ := hI
    obtain ⟨x1, rfl⟩ : ∃ z, z = u := ⟨u, rfl⟩
    have hP : va_P D vwCl (CS D a s) H := hP
    have hl : lv_has ls 1 [] := hl
    have h : m_x4_rootOf_J22 s x1 = some o := h
    unfold m_x4_rootOf_J22 at h
    obtain rfl := Option.some.inj h
    exact W.iret (v := (i2 x1)) hx hb hr (fun t ht hW => ⟨⟨_, (), rfl, rfl, trivial⟩, hS.F ht⟩) hS.2.2 eX4_rootOf_10.2.2.2.2.2.2
  refine lv_iload_n hx hb eX4_nextPair_13.2.2.2.1 rfl (lv_at hl 0 rfl) ?_
  refine lv_sipush (v := 255) hx hb eX4_nextPair_13.2.2.2.2.1 (by decide) ?_
  obtain ⟨hr2, h⟩ := rg_e h
  refine lv_icmp_ne (tgt := 10) hx hb eX4_nextPair_13.2.2.2.2.2.1 (by decide) (fun c3 => ?_) (fun c3 => ?_)
  · have h := if_f (mt (i2_eq (x := p0) (y := 255) hr2 (by decide)).mpr c3) h
    refine lv_iload_n hx hb eX4_rootOf_10.1 rfl (lv_at hl 0 rfl) ?_
    refine lv_sipush (v := 254) hx hb eX4_rootOf_10.2.1 (by decide) ?_
    obtain ⟨hr4, h⟩ := rg_e h
    refine lv_icmp_ne (tgt := 21) hx hb eX4_rootOf_10.2.2.1 (by decide) (fun c5 => ?_) (fun c5 => ?_)
    · have h := if_f (mt (i2_eq (x := p0) (y := 254) hr4 (by decide)).mpr c5) h
      refine lv_iload_n hx hb eX4_rootOf_10.2.2.2.2.2.1 rfl (lv_at hl 0 rfl) ?_
      exact J22 p0 _ _ _ ⟨hP, hS, lv_sub hl [] rfl, h⟩
    · have h := if_t ((i2_eq (x := p0) (y := 254) hr4 (by decide)).mp c5) h
      refine lv_iconst (v := (-1)) hx hb eX4_rootOf_10.2.2.2.1 (by decide) ?_
      refine lv_goto (tgt := 22) hx hb eX4_rootOf_10.2.2.2.2.1 (by decide) ?_
      exact J22 (-1) _ _ _ ⟨hP, hS, lv_sub hl [] rfl, h⟩
  · have h := if_t ((i2_eq (x := p0) (y := 255) hr2 (by decide)).mp c3) h
    refine lv_bipush (v := (-2)) hx hb eX4_nextPair_13.2.2.2.2.2.2.1 (by decide) ?_
    obtain rfl := Option.some.inj h
    exact W.iret (v := (-2)) hx hb hr (fun t ht hW => ⟨⟨_, (), rfl, rfl, trivial⟩, hS.F ht⟩) hS.2.2 eX4_nextPair_13.2.2.2.2.2.2.2
set_option maxHeartbeats 4000000 in
set_option maxRecDepth 100000 in
theorem k_x4_loadHead (l : Launch) (D : va_G) (a : Nat → Nat) (sz : Nat) (s : MS) (o : (Int × MS)) (h : m_x4_loadHead s = some o) : yWi l yX4_loadHead cX4_loadHead 6 (some .boolean) { frames := 3, cells := 0, slots := 0, locals := 180 } D sz [.ref (a 16), .ref (a 3), .ref (a 71)] (CS D a s) (CS D a o.2) (i2 o.1) := by
  refine Met.ofW (cc := cX4_loadHead) (maxL := 6) (ret := (some .boolean)) (by decide) rfl ?_
  intro p e s₀ m args below meth c s₁ B hml hv
  obtain ⟨rfl, ⟨hsz, hP, hK, hD0⟩, hN⟩ := hv
  have hx := B.exec
  have hb := B.bytes
  have hr := B.returns
  have hts := atoms_spec (ws := wz yX4_loadHead cX4_loadHead 6 (some .boolean)) B.pre
  have ht : ∀ w ∈ lw_gd, w.before _ s₀ = true := fun w h => hts w (List.mem_cons_of_mem _ h)
  have hown : s₀.vm.findClass RX4 = some m.cls := findClass_of_methodNamed B.named
  have hlocks := B.notSynchronized
  subst hsz
  have hD := hD0.self (sz := s₀.heap.size)
  generalize hAe : va_A (CS D a s) s₀.heap.size = A at hD ⊢
  have hA : ∀ q : Nat, s₀.heap.size ≤ q → A q := fun q h => by rw [← hAe]; exact Or.inr h
  have hS : va_S A s₀.heap s₀.heap [] := va_S.rf
  have hDD : ∀ t : MS, va_D A (CS D a t) := fun t => CW_D t hD
  have hl := lv_entry ([.ref (a 16), .ref (a 3), .ref (a 71)]) (n := 6) (Nat.le_of_ble_eq_true rfl)
  rw [lg_entry_eq]
  generalize (lg_sl ([.ref (a 16), .ref (a 3), .ref (a 71)]) ++ List.replicate (6 - (lg_sl ([.ref (a 16), .ref (a 3), .ref (a 71)])).length) Slot.unset).toArray = ls at hl ⊢
  have hl : lv_has ls 6 [(0, .ref (a 16)), (1, .ref (a 3)), (2, .ref (a 71))] := hl
  unfold m_x4_loadHead at h
  refine y_loop (pcJ := 39) (σ := Int × Int × MS) (fun n u H locs ls => va_P D vwCl (CS D a u.2.2) H ∧ va_S A s₀.heap H locs ∧ lv_has ls 6 [(0, .ref (a 16)), (1, .ref (a 3)), (2, .ref (a 71)), (4, .int (i2 u.1)), (5, .int (i2 u.2.1))] ∧ m_x4_loadHead_L39 n u.1 u.2.1 u.2.2 = some o) (fun u => []) (fun u H locs ls hI => by obtain ⟨_, _, _, h⟩ := hI; cases h) (fun n39 ih39 u H locs ls hI => ?_) (fun J39 => ?_)
  · obtain ⟨hP, hS, hl, h⟩ := hI
    obtain ⟨x1, x2, s3⟩ := u
    have hP : va_P D vwCl (CS D a s3) H := hP
    have hl : lv_has ls 6 [(0, .ref (a 16)), (1, .ref (a 3)), (2, .ref (a 71)), (4, .int (i2 x1)), (5, .int (i2 x2))] := hl
    have h : m_x4_loadHead_b39 (m_x4_loadHead_L39 n39) x1 x2 s3 = some o := h
    unfold m_x4_loadHead_b39 at h
    refine y_head (pcJ := 114) (σ := Int × Int × MS) (fun u H locs ls => va_P D vwCl (CS D a u.2.2) H ∧ va_S A s₀.heap H locs ∧ lv_has ls 6 [(0, .ref (a 16)), (1, .ref (a 3)), (2, .ref (a 71)), (5, .int (i2 u.1))] ∧ m_x4_loadHead_J114 (m_x4_loadHead_L39 n39) u.1 u.2.1 u.2.2 = some o) (fun u => [.int (i2 u.2.1)]) (fun u H locs ls hI => ?_) (fun J114 => ?_)
    · obtain ⟨hP, hS, hl, h⟩ := hI
      obtain ⟨x4, x5, s6⟩ := u
      have hP : va_P D vwCl (CS D a s6) H := hP
      have hl : lv_has ls 6 [(0, .ref (a 16)), (1, .ref (a 3)), (2, .ref (a 71)), (5, .int (i2 x4))] := hl
      have h : m_x4_loadHead_J114 (m_x4_loadHead_L39 n39) x4 x5 s6 = some o := h
      unfold m_x4_loadHead_J114 at h
      refine lv_istore (lv' := [(4, .int (i2 x5)), (0, .ref (a 16)), (1, .ref (a 3)), (2, .ref (a 71)), (5, .int (i2 x4))]) hx hb eX4_loadHead_103.2.2.2.2.2.1 hl (by decide) rfl (fun ls hl => ?_)
      refine lv_iinc (v := i2 (x4 + 1)) (lv' := [(5, .int (i2 (x4 + 1))), (4, .int (i2 x5)), (0, .ref (a 16)), (1, .ref (a 3)), (2, .ref (a 71))]) hx hb eX4_loadHead_103.2.2.2.2.2.2.1 hl (k := 4) rfl (i2_add x4 1) (by decide) rfl (fun ls hl => ?_)
      refine lv_goto (tgt := 39) hx hb eX4_loadHead_103.2.2.2.2.2.2.2 (by decide) ?_
      exact ih39 (x5, x4 + 1, s6) _ _ _ ⟨hP, hS, lv_sub hl [2, 3, 4, 1, 0] rfl, h⟩
    refine y_head (pcJ := 113) (σ := Int × MS) (fun u H locs ls => va_P D vwCl (CS D a u.2) H ∧ va_S A s₀.heap H locs ∧ lv_has ls 6 [(0, .ref (a 16)), (1, .ref (a 3)), (2, .ref (a 71)), (5, .int (i2 u.1))] ∧ m_x4_loadHead_J113 (m_x4_loadHead_L39 n39) u.1 u.2 = some o) (fun u => []) (fun u H locs ls hI => ?_) (fun J113 => ?_)
    · obtain ⟨hP, hS, hl, h⟩ := hI
      obtain ⟨x7, s8⟩ := u
      have hP : va_P D vwCl (CS D a s8) H := hP
      have hl : lv_has ls 6 [(0, .ref (a 16)), (1, .ref (a 3)), (2, .ref (a 71)), (5, .int (i2 x7))] := hl
      have h : m_x4_loadHead_J113 (m_x4_loadHead_L39 n39) x7 s8 = some o := h
      unfold m_x4_loadHead_J113 at h
      refine lv_iconst (v := 0) hx hb eX4_loadHead_103.2.2.2.2.1 (by decide) ?_
      exact J114 (x7, 0, s8) _ _ _ ⟨hP, hS, lv_sub hl [0, 1, 2, 3] rfl, h⟩
    refine lv_iload hx hb eX4_loadHead_26.2.2.2.2.2.2.2 (lv_at hl 4 rfl) ?_
    refine lv_bipush (v := 8) hx hb eX4_loadHead_41.1 (by decide) ?_
    obtain ⟨hr9, h⟩ := rg_e h
    refine lv_icmp_ge (tgt := 122) hx hb eX4_loadHead_41.2.1 (by decide) (fun c10 => ?_) (fun c10 => ?_)
    · have h := if_t ((i2_le (x := 8) (y := x2) (by decide) hr9).mp c10) h
      refine lv_iload hx hb eX4_loadHead_122.1 (lv_at hl 3 rfl) ?_
      obtain ⟨hb11, h⟩ := bo_e h
      obtain rfl := Option.some.inj h
      exact W.zret (v := (i2 x1)) hx hb hr (bo_n hb11) (fun t ht hW => ⟨⟨_, (), rfl, rfl, by rw [ht]; exact hP, va_K.moved hW.alike hK, hDD _⟩, hS.F ht⟩) hS.2.2 eX4_loadHead_122.2.1
    · have h := if_f (mt (i2_le (x := 8) (y := x2) (by decide) hr9).mpr c10) h
      refine lv_aload_n hx hb eX4_loadHead_41.2.2.1 rfl (lv_at hl 2 rfl) ?_
      refine va_get (D := D) (ci := 8) (v := .ref (a 78)) (C := RX8) (T := TX8) (N := 11) hx hb ht inX8 hown hK hP 71 CW_71 rfl 9 (by decide) (ht (.fieldLink RX4 41 "CloneVolumes$State" "roots" "[I") fl_X4_41) (fun _ h9 => h9) rfl eX4_loadHead_41.2.2.2.1 ?_
      refine lv_iload hx hb eX4_loadHead_41.2.2.2.2.1 (lv_at hl 4 rfl) ?_
      refine lv_aload_n hx hb eX4_loadHead_41.2.2.2.2.2.1 rfl (lv_at hl 0 rfl) ?_
      refine lv_aload_n hx hb eX4_loadHead_41.2.2.2.2.2.2.1 rfl (lv_at hl 1 rfl) ?_
      obtain ⟨⟨r14, s13⟩, hc12, h⟩ := bn_e h
      refine ywV (r0 := i2 r14) (As := [.ref (a 3)]) (rest := [.int (i2 x2), .ref (a 78)]) (C := RX4) (n := 1) (ws' := CS D a s13) ⟨hx, hb, hml, hown, ht⟩ (k_x4_next l D a _ _ _ hc12) (zgV ml_X4_113 im_X4_next se_X4_next in_X4 co_X4_next) rfl rfl (by decide +kernel) ⟨Nat.le_of_ble_eq_true rfl, Nat.le_of_ble_eq_true rfl⟩ hN hK hP (hDD _) hS hA 16 CW_16 rfl rfl rfl hl.1 rfl (Nat.le_of_ble_eq_true rfl) eX4_loadHead_41.2.2.2.2.2.2.2 ⟨Nat.le_of_ble_eq_true rfl, Nat.le_of_ble_eq_true rfl⟩ (fun H locs hP hS => ?_)
      obtain ⟨r16, hc15, h⟩ := bn_e h
      refine ycS (r0 := i2 r16) (As := [.int (i2 r14)]) (rest := [.int (i2 x2), .ref (a 78)]) (n := 1) ⟨hx, hb, hml, hown, ht⟩ (k_x4_rootOf l D a r14 _ _ hc15) (zgT ml_X4_122 st_X4_rootOf in_X4 co_X4_rootOf) rfl rfl (by decide +kernel) ⟨Nat.le_of_ble_eq_true rfl, Nat.le_of_ble_eq_true rfl⟩ hN hK hP hS rfl hl.1 rfl (Nat.le_of_ble_eq_true rfl) eX4_loadHead_57.1 ⟨Nat.le_of_ble_eq_true rfl, Nat.le_of_ble_eq_true rfl⟩ (fun H locs hP hS => ?_)
      obtain ⟨hi17, h⟩ := inb_e h
      refine ya_iast (i := x2) (x := r16) hx hb hK hP (hDD _) hS 78 0 CW_78 rfl (by decide) hi17 eX4_loadHead_57.2.1 (CW_w78 _) (fun H locs hP hS => ?_)
      obtain ⟨s18, hs18, h⟩ := st_e h
      rw [hs18] at hP
      refine lv_aload_n hx hb eX4_loadHead_57.2.2.1 rfl (lv_at hl 2 rfl) ?_
      refine va_get (D := D) (ci := 8) (v := .ref (a 79)) (C := RX8) (T := TX8) (N := 11) hx hb ht inX8 hown hK hP 71 CW_71 rfl 10 (by decide) (ht (.fieldLink RX4 48 "CloneVolumes$State" "savedRoots" "[I") fl_X4_48) (fun _ h9 => h9) rfl eX4_loadHead_57.2.2.2.1 ?_
      refine lv_iload hx hb eX4_loadHead_57.2.2.2.2.1 (lv_at hl 4 rfl) ?_
      refine lv_aload_n hx hb eX4_loadHead_57.2.2.2.2.2.1 rfl (lv_at hl 0 rfl) ?_
      refine lv_aload_n hx hb eX4_loadHead_57.2.2.2.2.2.2.1 rfl (lv_at hl 1 rfl) ?_
      obtain ⟨⟨r21, s20⟩, hc19, h⟩ := bn_e h
      refine ywV (r0 := i2 r21) (As := [.ref (a 3)]) (rest := [.int (i2 x2), .ref (a 79)]) (C := RX4) (n := 1) (ws' := CS D a s20) ⟨hx, hb, hml, hown, ht⟩ (k_x4_next l D a _ _ _ hc19) (zgV ml_X4_113 im_X4_next se_X4_next in_X4 co_X4_next) rfl rfl (by decide +kernel) ⟨Nat.le_of_ble_eq_true rfl, Nat.le_of_ble_eq_true rfl⟩ hN hK hP (hDD _) hS hA 16 CW_16 rfl rfl rfl hl.1 rfl (Nat.le_of_ble_eq_true rfl) eX4_loadHead_57.2.2.2.2.2.2.2 ⟨Nat.le_of_ble_eq_true rfl, Nat.le_of_ble_eq_true rfl⟩ (fun H locs hP hS => ?_)
      obtain ⟨r23, hc22, h⟩ := bn_e h
      refine ycS (r0 := i2 r23) (As := [.int (i2 r21)]) (rest := [.int (i2 x2), .ref (a 79)]) (n := 1) ⟨hx, hb, hml, hown, ht⟩ (k_x4_rootOf l D a r21 _ _ hc22) (zgT ml_X4_122 st_X4_rootOf in_X4 co_X4_rootOf) rfl rfl (by decide +kernel) ⟨Nat.le_of_ble_eq_true rfl, Nat.le_of_ble_eq_true rfl⟩ hN hK hP hS rfl hl.1 rfl (Nat.le_of_ble_eq_true rfl) eX4_loadHead_72.1 ⟨Nat.le_of_ble_eq_true rfl, Nat.le_of_ble_eq_true rfl⟩ (fun H locs hP hS => ?_)
      obtain ⟨hi24, h⟩ := inb_e h
      refine ya_iast (i := x2) (x := r23) hx hb hK hP (hDD _) hS 79 0 CW_79 rfl (by decide) hi24 eX4_loadHead_72.2.1 (CW_w79 _) (fun H locs hP hS => ?_)
      obtain ⟨s25, hs25, h⟩ := st_e h
      rw [hs25] at hP
      refine lv_iload hx hb eX4_loadHead_72.2.2.1 (lv_at hl 3 rfl) ?_
      obtain ⟨hr26, h⟩ := rg_e h
      refine lv_if_eq (tgt := 113) hx hb eX4_loadHead_72.2.2.2.1 (by decide) (fun c27 => ?_) (fun c27 => ?_)
      · have h := if_t ((i2_eq (x := x1) (y := 0) hr26 (by decide)).mp c27) h
        exact J113 (x2, s25) _ _ _ ⟨hP, hS, lv_sub hl [0, 1, 2, 4] rfl, h⟩
      · have h := if_f (mt (i2_eq (x := x1) (y := 0) hr26 (by decide)).mpr c27) h
        refine lv_aload_n hx hb eX4_loadHead_72.2.2.2.2.1 rfl (lv_at hl 2 rfl) ?_
        refine va_get (D := D) (ci := 8) (v := .ref (a 78)) (C := RX8) (T := TX8) (N := 11) hx hb ht inX8 hown hK hP 71 CW_71 rfl 9 (by decide) (ht (.fieldLink RX4 41 "CloneVolumes$State" "roots" "[I") fl_X4_41) (fun _ h9 => h9) rfl eX4_loadHead_72.2.2.2.2.2.1 ?_
        refine lv_iload hx hb eX4_loadHead_72.2.2.2.2.2.2.1 (lv_at hl 4 rfl) ?_
        obtain ⟨y28, ey28, iy28, h⟩ := rdI_e h
        refine ya_iald (i := x2) hx hb hK hP 78 0 CW_78 rfl (by decide) ey28 iy28 eX4_loadHead_72.2.2.2.2.2.2.2 ?_
        refine lv_aload_n hx hb eX4_loadHead_88.1 rfl (lv_at hl 2 rfl) ?_
        refine va_get (D := D) (ci := 8) (v := .int (i2 (gI s25 1420))) (C := RX8) (T := TX8) (N := 11) hx hb ht inX8 hown hK hP 71 CW_71 rfl 0 (by decide) (ht (.fieldLink RX4 51 "CloneVolumes$State" "blocks" "I") fl_X4_51) (fun _ h9 => h9) rfl eX4_loadHead_88.2.1 ?_
        obtain ⟨hr29, h⟩ := rg_e h
        obtain ⟨hr30, h⟩ := rg_e h
        refine lv_icmp_ge (tgt := 113) hx hb eX4_loadHead_88.2.2.1 (by decide) (fun c31 => ?_) (fun c31 => ?_)
        · have h := if_t ((i2_le (x := (gI s25 1420)) (y := y28) hr30 hr29).mp c31) h
          exact J113 (x2, s25) _ _ _ ⟨hP, hS, lv_sub hl [0, 1, 2, 4] rfl, h⟩
        · have h := if_f (mt (i2_le (x := (gI s25 1420)) (y := y28) hr30 hr29).mpr c31) h
          refine lv_aload_n hx hb eX4_loadHead_88.2.2.2.1 rfl (lv_at hl 2 rfl) ?_
          refine va_get (D := D) (ci := 8) (v := .ref (a 79)) (C := RX8) (T := TX8) (N := 11) hx hb ht inX8 hown hK hP 71 CW_71 rfl 10 (by decide) (ht (.fieldLink RX4 48 "CloneVolumes$State" "savedRoots" "[I") fl_X4_48) (fun _ h9 => h9) rfl eX4_loadHead_88.2.2.2.2.1 ?_
          refine lv_iload hx hb eX4_loadHead_88.2.2.2.2.2.1 (lv_at hl 4 rfl) ?_
          obtain ⟨y32, ey32, iy32, h⟩ := rdI_e h
          refine ya_iald (i := x2) hx hb hK hP 79 0 CW_79 rfl (by decide) ey32 iy32 eX4_loadHead_88.2.2.2.2.2.2.1 ?_
          refine lv_aload_n hx hb eX4_loadHead_88.2.2.2.2.2.2.2 rfl (lv_at hl 2 rfl) ?_
          refine va_get (D := D) (ci := 8) (v := .int (i2 (gI s25 1420))) (C := RX8) (T := TX8) (N := 11) hx hb ht inX8 hown hK hP 71 CW_71 rfl 0 (by decide) (ht (.fieldLink RX4 51 "CloneVolumes$State" "blocks" "I") fl_X4_51) (fun _ h9 => h9) rfl eX4_loadHead_103.1 ?_
          obtain ⟨hr33, h⟩ := rg_e h
          obtain ⟨hr34, h⟩ := rg_e h
          refine lv_icmp_ge (tgt := 113) hx hb eX4_loadHead_103.2.1 (by decide) (fun c35 => ?_) (fun c35 => ?_)
          · have h := if_t ((i2_le (x := (gI s25 1420)) (y := y32) hr34 hr33).mp c35) h
            exact J113 (x2, s25) _ _ _ ⟨hP, hS, lv_sub hl [0, 1, 2, 4] rfl, h⟩
          · have h := if_f (mt (i2_le (x := (gI s25 1420)) (y := y32) hr34 hr33).mpr c35) h
            refine lv_iconst (v := 1) hx hb eX4_loadHead_103.2.2.1 (by decide) ?_
            refine lv_goto (tgt := 114) hx hb eX4_loadHead_103.2.2.2.1 (by decide) ?_
            exact J114 (x2, 1, s25) _ _ _ ⟨hP, hS, lv_sub hl [0, 1, 2, 4] rfl, h⟩
  refine y_head (pcJ := 34) (σ := Int × MS) (fun u H locs ls => va_P D vwCl (CS D a u.2) H ∧ va_S A s₀.heap H locs ∧ lv_has ls 6 [(0, .ref (a 16)), (1, .ref (a 3)), (2, .ref (a 71))] ∧ m_x4_loadHead_J34 u.1 u.2 = some o) (fun u => [.int (i2 u.1)]) (fun u H locs ls hI => ?_) (fun J34 => ?_)
  · obtain ⟨hP, hS, hl, h⟩ := hI
    obtain ⟨x36, s37⟩ := u
    have hP : va_P D vwCl (CS D a s37) H := hP
    have hl : lv_has ls 6 [(0, .ref (a 16)), (1, .ref (a 3)), (2, .ref (a 71))] := hl
    have h : m_x4_loadHead_J34 x36 s37 = some o := h
    unfold m_x4_loadHead_J34 at h
    refine lv_istore (lv' := [(4, .int (i2 x36)), (0, .ref (a 16)), (1, .ref (a 3)), (2, .ref (a 71))]) hx hb eX4_loadHead_26.2.2.2.2.1 hl (by decide) rfl (fun ls hl => ?_)
    refine lv_iconst (v := 0) hx hb eX4_loadHead_26.2.2.2.2.2.1 (by decide) ?_
    refine lv_istore (lv' := [(5, .int 0), (4, .int (i2 x36)), (0, .ref (a 16)), (1, .ref (a 3)), (2, .ref (a 71))]) hx hb eX4_loadHead_26.2.2.2.2.2.2.1 hl (by decide) rfl (fun ls hl => ?_)
    exact J39 FU (x36, 0, s37) _ _ _ ⟨hP, hS, lv_sub hl [2, 3, 4, 1, 0] rfl, h⟩
  refine lv_aload_n hx hb eX4_loadHead_0.1 rfl (lv_at hl 0 rfl) ?_
  refine lv_aload_n hx hb eX4_loadHead_0.2.1 rfl (lv_at hl 1 rfl) ?_
  obtain ⟨⟨r40, s39⟩, hc38, h⟩ := bn_e h
  refine ywV (r0 := i2 r40) (As := [.ref (a 3)]) (rest := []) (C := RX4) (n := 1) (ws' := CS D a s39) ⟨hx, hb, hml, hown, ht⟩ (k_x4_next l D a _ _ _ hc38) (zgV ml_X4_113 im_X4_next se_X4_next in_X4 co_X4_next) rfl rfl (by decide +kernel) ⟨Nat.le_of_ble_eq_true rfl, Nat.le_of_ble_eq_true rfl⟩ hN hK hP (hDD _) hS hA 16 CW_16 rfl rfl rfl hl.1 rfl (Nat.le_of_ble_eq_true rfl) eX4_loadHead_0.2.2.1 ⟨Nat.le_of_ble_eq_true rfl, Nat.le_of_ble_eq_true rfl⟩ (fun H locs hP hS => ?_)
  refine lv_istore_n (lv' := [(3, .int (i2 r40)), (0, .ref (a 16)), (1, .ref (a 3)), (2, .ref (a 71))]) hx hb eX4_loadHead_0.2.2.2.1 rfl hl (by decide) rfl (fun ls hl => ?_)
  refine lv_aload_n hx hb eX4_loadHead_0.2.2.2.2.1 rfl (lv_at hl 3 rfl) ?_
  refine lv_iload_n hx hb eX4_loadHead_0.2.2.2.2.2.1 rfl (lv_at hl 0 rfl) ?_
  refine lv_ldc (own := RX4) (v := 65536) hx hb hown (ht _ ck_X4_117) eX4_loadHead_0.2.2.2.2.2.2.1 ?_
  refine lv_imul hx hb eX4_loadHead_0.2.2.2.2.2.2.2 ?_
  refine z_topi (y := i2 (r40 * 65536)) (i2_mul r40 65536) ?_
  refine lv_aload_n hx hb eX4_loadHead_11.1 rfl (lv_at hl 1 rfl) ?_
  refine lv_aload_n hx hb eX4_loadHead_11.2.1 rfl (lv_at hl 2 rfl) ?_
  obtain ⟨⟨r43, s42⟩, hc41, h⟩ := bn_e h
  refine ywV (r0 := i2 r43) (As := [.ref (a 3)]) (rest := [.int (i2 (r40 * 65536)), .ref (a 71)]) (C := RX4) (n := 1) (ws' := CS D a s42) ⟨hx, hb, hml, hown, ht⟩ (k_x4_nextPair l D a _ _ _ hc41) (zgV ml_X4_118 im_X4_nextPair se_X4_nextPair in_X4 co_X4_nextPair) rfl rfl (by decide +kernel) ⟨Nat.le_of_ble_eq_true rfl, Nat.le_of_ble_eq_true rfl⟩ hN hK hP (hDD _) hS hA 16 CW_16 rfl rfl rfl hl.1 rfl (Nat.le_of_ble_eq_true rfl) eX4_loadHead_11.2.2.1 ⟨Nat.le_of_ble_eq_true rfl, Nat.le_of_ble_eq_true rfl⟩ (fun H locs hP hS => ?_)
  refine lv_iadd hx hb eX4_loadHead_11.2.2.2.1 ?_
  refine z_topi (y := i2 ((r40 * 65536) + r43)) (i2_add (r40 * 65536) r43) ?_
  refine ya_put (D := D) (ci := 8) (v := .int (i2 ((r40 * 65536) + r43))) (ty := .int) (C := RX8) (T := TX8) (N := 11) hx hb ht inX8 tyX8 tyX8_ok nmX8 hown hK hP (hDD _) hS 71 CW_71 rfl 1 (by decide) (ht (.fieldLink RX4 28 "CloneVolumes$State" "spent" "I") fl_X4_28) (fun _ h9 => h9) rfl (by decide +kernel) rfl rfl (Nat.le_of_ble_eq_true rfl) eX4_loadHead_11.2.2.2.2.1 (CW_w71_1 ((r40 * 65536) + r43)) (fun H locs hP hS => ?_)
  obtain ⟨s44, hs44, h⟩ := st_e h
  rw [hs44] at hP
  refine lv_aload_n hx hb eX4_loadHead_11.2.2.2.2.2.1 rfl (lv_at hl 3 rfl) ?_
  refine va_get (D := D) (ci := 8) (v := .int (i2 (gI s44 1421))) (C := RX8) (T := TX8) (N := 11) hx hb ht inX8 hown hK hP 71 CW_71 rfl 1 (by decide) (ht (.fieldLink RX4 28 "CloneVolumes$State" "spent" "I") fl_X4_28) (fun _ h9 => h9) rfl eX4_loadHead_11.2.2.2.2.2.2.1 ?_
  refine lv_ldc (own := RX4) (v := 999999) hx hb hown (ht _ ck_X4_121) eX4_loadHead_11.2.2.2.2.2.2.2 ?_
  obtain ⟨hr45, h⟩ := rg_e h
  refine lv_icmp_gt (tgt := 33) hx hb eX4_loadHead_26.1 (by decide) (fun c46 => ?_) (fun c46 => ?_)
  · have h := if_t ((i2_lt (x := 999999) (y := (gI s44 1421)) (by decide) hr45).mp c46) h
    refine lv_iconst (v := 0) hx hb eX4_loadHead_26.2.2.2.1 (by decide) ?_
    exact J34 (0, s44) _ _ _ ⟨hP, hS, lv_sub hl [1, 2, 3] rfl, h⟩
  · have h := if_f (mt (i2_lt (x := 999999) (y := (gI s44 1421)) (by decide) hr45).mpr c46) h
    refine lv_iconst (v := 1) hx hb eX4_loadHead_26.2.1 (by decide) ?_
    refine lv_goto (tgt := 34) hx hb eX4_loadHead_26.2.2.1 (by decide) ?_
    exact J34 (1, s44) _ _ _ ⟨hP, hS, lv_sub hl [1, 2, 3] rfl, h⟩
set_option maxHeartbeats 4000000 in
set_option maxRecDepth 100000 in
theorem k_x4_load (l : Launch) (D : va_G) (a : Nat → Nat) (p2 : Int) (p3 : Int) (sz : Nat) (s : MS) (o : (Int × MS)) (h : m_x4_load p2 p3 s = some o) : yWi l yX4_load cX4_load 7 (some .boolean) { frames := 5, cells := 0, slots := 0, locals := 300 } D sz [.ref (a 16), .ref (a 3), .ref (a 71), .int (i2 p2), .int (i2 p3)] (CS D a s) (CS D a o.2) (i2 o.1) := by
  refine Met.ofW (cc := cX4_load) (maxL := 7) (ret := (some .boolean)) (by decide) rfl ?_
  intro p e s₀ m args below meth c s₁ B hml hv
  obtain ⟨rfl, ⟨hsz, hP, hK, hD0⟩, hN⟩ := hv
  have hx := B.exec
  have hb := B.bytes
  have hr := B.returns
  have hts := atoms_spec (ws := wz yX4_load cX4_load 7 (some .boolean)) B.pre
  have ht : ∀ w ∈ lw_gd, w.before _ s₀ = true := fun w h => hts w (List.mem_cons_of_mem _ h)
  have hown : s₀.vm.findClass RX4 = some m.cls := findClass_of_methodNamed B.named
  have hlocks := B.notSynchronized
  subst hsz
  have hD := hD0.self (sz := s₀.heap.size)
  generalize hAe : va_A (CS D a s) s₀.heap.size = A at hD ⊢
  have hA : ∀ q : Nat, s₀.heap.size ≤ q → A q := fun q h => by rw [← hAe]; exact Or.inr h
  have hS : va_S A s₀.heap s₀.heap [] := va_S.rf
  have hDD : ∀ t : MS, va_D A (CS D a t) := fun t => CW_D t hD
  have hl := lv_entry ([.ref (a 16), .ref (a 3), .ref (a 71), .int (i2 p2), .int (i2 p3)]) (n := 7) (Nat.le_of_ble_eq_true rfl)
  rw [lg_entry_eq]
  generalize (lg_sl ([.ref (a 16), .ref (a 3), .ref (a 71), .int (i2 p2), .int (i2 p3)]) ++ List.replicate (7 - (lg_sl ([.ref (a 16), .ref (a 3), .ref (a 71), .int (i2 p2), .int (i2 p3)])).length) Slot.unset).toArray = ls at hl ⊢
  have hl : lv_has ls 7 [(0, .ref (a 16)), (1, .ref (a 3)), (2, .ref (a 71)), (3, .int (i2 p2)), (4, .int (i2 p3))] := hl
  unfold m_x4_load at h
  refine y_head (pcJ := 108) (σ := Int × MS) (fun u H locs ls => va_P D vwCl (CS D a u.2) H ∧ va_S A s₀.heap H locs ∧ lv_has ls 7 [] ∧ m_x4_load_J108 u.1 u.2 = some o) (fun u => [.int (i2 u.1)]) (fun u H locs ls hI => ?_) (fun J108 => ?_)
  · obtain ⟨hP, hS, hl, h⟩ := hI
    obtain ⟨x1, s2⟩ := u
    have hP : va_P D vwCl (CS D a s2) H := hP
    have hl : lv_has ls 7 [] := hl
    have h : m_x4_load_J108 x1 s2 = some o := h
    unfold m_x4_load_J108 at h
    obtain ⟨hb3, h⟩ := bo_e h
    obtain rfl := Option.some.inj h
    exact W.zret (v := (i2 x1)) hx hb hr (bo_n hb3) (fun t ht hW => ⟨⟨_, (), rfl, rfl, by rw [ht]; exact hP, va_K.moved hW.alike hK, hDD _⟩, hS.F ht⟩) hS.2.2 eX4_load_96.2.2.2.2.2.2.1
  refine y_head (pcJ := 107) (σ := MS) (fun u H locs ls => va_P D vwCl (CS D a u) H ∧ va_S A s₀.heap H locs ∧ lv_has ls 7 [] ∧ m_x4_load_J107 u = some o) (fun u => []) (fun u H locs ls hI => ?_) (fun J107 => ?_)
  · obtain ⟨hP, hS, hl, h⟩ := hI
    obtain ⟨s4, rfl⟩ : ∃ z, z = u := ⟨u, rfl⟩
    have hP : va_P D vwCl (CS D a s4) H := hP
    have hl : lv_has ls 7 [] := hl
    have h : m_x4_load_J107 s4 = some o := h
    unfold m_x4_load_J107 at h
    refine lv_iconst (v := 0) hx hb eX4_load_96.2.2.2.2.2.1 (by decide) ?_
    exact J108 (0, s4) _ _ _ ⟨hP, hS, lv_sub hl [] rfl, h⟩
  refine y_loop (pcJ := 59) (σ := Int × Int × Int × Int × MS) (fun n u H locs ls => va_P D vwCl (CS D a u.2.2.2.2) H ∧ va_S A s₀.heap H locs ∧ lv_has ls 7 [(0, .ref (a 16)), (1, .ref (a 3)), (2, .ref (a 71)), (3, .int (i2 u.1)), (4, .int (i2 u.2.1)), (5, .int (i2 u.2.2.1)), (6, .int (i2 u.2.2.2.1))] ∧ m_x4_load_L59 n u.1 u.2.1 u.2.2.1 u.2.2.2.1 u.2.2.2.2 = some o) (fun u => []) (fun u H locs ls hI => by obtain ⟨_, _, _, h⟩ := hI; cases h) (fun n59 ih59 u H locs ls hI => ?_) (fun J59 => ?_)
  · obtain ⟨hP, hS, hl, h⟩ := hI
    obtain ⟨x5, x6, x7, x8, s9⟩ := u
    have hP : va_P D vwCl (CS D a s9) H := hP
    have hl : lv_has ls 7 [(0, .ref (a 16)), (1, .ref (a 3)), (2, .ref (a 71)), (3, .int (i2 x5)), (4, .int (i2 x6)), (5, .int (i2 x7)), (6, .int (i2 x8))] := hl
    have h : m_x4_load_b59 (m_x4_load_L59 n59) x5 x6 x7 x8 s9 = some o := h
    unfold m_x4_load_b59 at h
    refine lv_iload hx hb eX4_load_51.2.2.2.2.2.1 (lv_at hl 6 rfl) ?_
    refine lv_iload_n hx hb eX4_load_51.2.2.2.2.2.2.1 rfl (lv_at hl 3 rfl) ?_
    obtain ⟨hr10, h⟩ := rg_e h
    obtain ⟨hr11, h⟩ := rg_e h
    refine lv_icmp_ge (tgt := 86) hx hb eX4_load_51.2.2.2.2.2.2.2 (by decide) (fun c12 => ?_) (fun c12 => ?_)
    · have h := if_t ((i2_le (x := x5) (y := x8) hr11 hr10).mp c12) h
      refine lv_aload_n hx hb eX4_load_79.2.2.2.1 rfl (lv_at hl 0 rfl) ?_
      refine va_get (D := D) (ci := 4) (v := .int (i2 (gI s9 322))) (C := RX4) (T := TX4) (N := 6) hx hb ht inX4 hown hK hP 16 CW_16 rfl 2 (by decide) (ht (.fieldLink RX4 99 "CloneVolumes$Picture" "at" "I") fl_X4_99) (fun _ h9 => h9) rfl eX4_load_79.2.2.2.2.1 ?_
      refine lv_iload hx hb eX4_load_79.2.2.2.2.2.1 (lv_at hl 5 rfl) ?_
      obtain ⟨hr13, h⟩ := rg_e h
      obtain ⟨hr14, h⟩ := rg_e h
      refine lv_icmp_ne (tgt := 107) hx hb eX4_load_79.2.2.2.2.2.2.1 (by decide) (fun c15 => ?_) (fun c15 => ?_)
      · have h := if_f (mt (i2_eq (x := (gI s9 322)) (y := x7) hr13 hr14).mpr c15) h
        exact J107 s9 _ _ _ ⟨hP, hS, lv_sub hl [] rfl, h⟩
      · have h := if_t ((i2_eq (x := (gI s9 322)) (y := x7) hr13 hr14).mp c15) h
        refine lv_aload_n hx hb eX4_load_79.2.2.2.2.2.2.2 rfl (lv_at hl 0 rfl) ?_
        refine lv_aload_n hx hb eX4_load_96.1 rfl (lv_at hl 2 rfl) ?_
        obtain ⟨⟨r18, s17⟩, hc16, h⟩ := bn_e h
        refine ywV (r0 := i2 r18) (As := [.ref (a 71)]) (rest := []) (C := RX4) (n := 1) (ws' := CS D a s17) ⟨hx, hb, hml, hown, ht⟩ (k_x4_isSound l D a _ _ _ hc16) (zgV ml_X4_109 im_X4_isSound se_X4_isSound in_X4 co_X4_isSound) rfl rfl (by decide +kernel) ⟨Nat.le_of_ble_eq_true rfl, Nat.le_of_ble_eq_true rfl⟩ hN hK hP (hDD _) hS hA 16 CW_16 rfl rfl rfl hl.1 rfl (Nat.le_of_ble_eq_true rfl) eX4_load_96.2.1 ⟨Nat.le_of_ble_eq_true rfl, Nat.le_of_ble_eq_true rfl⟩ (fun H locs hP hS => ?_)
        obtain ⟨hr19, h⟩ := rg_e h
        refine lv_if_eq (tgt := 107) hx hb eX4_load_96.2.2.1 (by decide) (fun c20 => ?_) (fun c20 => ?_)
        · have h := if_t ((i2_eq (x := r18) (y := 0) hr19 (by decide)).mp c20) h
          exact J107 s17 _ _ _ ⟨hP, hS, lv_sub hl [] rfl, h⟩
        · have h := if_f (mt (i2_eq (x := r18) (y := 0) hr19 (by decide)).mpr c20) h
          refine lv_iconst (v := 1) hx hb eX4_load_96.2.2.2.1 (by decide) ?_
          refine lv_goto (tgt := 108) hx hb eX4_load_96.2.2.2.2.1 (by decide) ?_
          exact J108 (1, s17) _ _ _ ⟨hP, hS, lv_sub hl [] rfl, h⟩
    · have h := if_f (mt (i2_le (x := x5) (y := x8) hr11 hr10).mpr c12) h
      refine lv_aload_n hx hb eX4_load_65.1 rfl (lv_at hl 0 rfl) ?_
      refine lv_aload_n hx hb eX4_load_65.2.1 rfl (lv_at hl 1 rfl) ?_
      refine lv_aload_n hx hb eX4_load_65.2.2.1 rfl (lv_at hl 2 rfl) ?_
      refine lv_iload hx hb eX4_load_65.2.2.2.1 (lv_at hl 6 rfl) ?_
      refine lv_iload hx hb eX4_load_65.2.2.2.2.1 (lv_at hl 4 rfl) ?_
      obtain ⟨⟨r23, s22⟩, hc21, h⟩ := bn_e h
      refine ywV (r0 := i2 r23) (As := [.ref (a 3), .ref (a 71), .int (i2 x8), .int (i2 x6)]) (rest := []) (C := RX4) (n := 4) (ws' := CS D a s22) ⟨hx, hb, hml, hown, ht⟩ (k_x4_loadBlock l D a x8 x6 _ _ _ hc21) (zgV ml_X4_105 im_X4_loadBlock se_X4_loadBlock in_X4 co_X4_loadBlock) rfl rfl (by decide +kernel) ⟨Nat.le_of_ble_eq_true rfl, Nat.le_of_ble_eq_true rfl⟩ hN hK hP (hDD _) hS hA 16 CW_16 rfl rfl rfl hl.1 rfl (Nat.le_of_ble_eq_true rfl) eX4_load_65.2.2.2.2.2.1 ⟨Nat.le_of_ble_eq_true rfl, Nat.le_of_ble_eq_true rfl⟩ (fun H locs hP hS => ?_)
      obtain ⟨hr24, h⟩ := rg_e h
      refine lv_if_ne (tgt := 80) hx hb eX4_load_65.2.2.2.2.2.2.1 (by decide) (fun c25 => ?_) (fun c25 => ?_)
      · have h := if_f (mt (i2_eq (x := r23) (y := 0) hr24 (by decide)).mpr c25) h
        refine lv_iinc (v := i2 (x8 + 1)) (lv' := [(6, .int (i2 (x8 + 1))), (0, .ref (a 16)), (1, .ref (a 3)), (2, .ref (a 71)), (3, .int (i2 x5)), (4, .int (i2 x6)), (5, .int (i2 x7))]) hx hb eX4_load_79.2.1 hl (k := 6) rfl (i2_add x8 1) (by decide) rfl (fun ls hl => ?_)
        refine lv_goto (tgt := 59) hx hb eX4_load_79.2.2.1 (by decide) ?_
        exact ih59 (x5, x6, x7, x8 + 1, s22) _ _ _ ⟨hP, hS, lv_sub hl [1, 2, 3, 4, 5, 6, 0] rfl, h⟩
      · have h := if_t ((i2_eq (x := r23) (y := 0) hr24 (by decide)).mp c25) h
        refine lv_iconst (v := 0) hx hb eX4_load_65.2.2.2.2.2.2.2 (by decide) ?_
        obtain rfl := Option.some.inj h
        exact W.zret (v := 0) hx hb hr (by decide) (fun t ht hW => ⟨⟨_, (), rfl, rfl, by rw [ht]; exact hP, va_K.moved hW.alike hK, hDD _⟩, hS.F ht⟩) hS.2.2 eX4_load_79.1
  refine y_head (pcJ := 33) (σ := MS) (fun u H locs ls => va_P D vwCl (CS D a u) H ∧ va_S A s₀.heap H locs ∧ lv_has ls 7 [] ∧ m_x4_load_J33 u = some o) (fun u => []) (fun u H locs ls hI => ?_) (fun J33 => ?_)
  · obtain ⟨hP, hS, hl, h⟩ := hI
    obtain ⟨s26, rfl⟩ : ∃ z, z = u := ⟨u, rfl⟩
    have hP : va_P D vwCl (CS D a s26) H := hP
    have hl : lv_has ls 7 [] := hl
    have h : m_x4_load_J33 s26 = some o := h
    unfold m_x4_load_J33 at h
    refine lv_iconst (v := 0) hx hb eX4_load_22.2.2.2.2.1 (by decide) ?_
    obtain rfl := Option.some.inj h
    exact W.zret (v := 0) hx hb hr (by decide) (fun t ht hW => ⟨⟨_, (), rfl, rfl, by rw [ht]; exact hP, va_K.moved hW.alike hK, hDD _⟩, hS.F ht⟩) hS.2.2 eX4_load_22.2.2.2.2.2.1
  refine lv_aload_n hx hb eX4_isSound_91.2.2.2.2.1 rfl (lv_at hl 1 rfl) ?_
  refine va_get (D := D) (ci := 9) (v := .int (i2 (gI s 61))) (C := RX9) (T := TX9) (N := 2) hx hb ht inX9 hown hK hP 3 CW_3 rfl 1 (by decide) (ht (.fieldLink RX4 87 "CloneVolumes$Tape" "length" "I") fl_X4_87) (fun _ h9 => h9) rfl eX4_isSound_91.2.2.2.2.2.1 ?_
  refine lv_iconst (v := 1) hx hb eX4_isSound_91.2.2.2.2.2.2.1 (by decide) ?_
  refine lv_isub hx hb eX4_isSound_91.2.2.2.2.2.2.2 ?_
  refine z_topi (y := i2 ((gI s 61) - 1)) (i2_sub (gI s 61) 1) ?_
  refine lv_istore (lv' := [(5, .int (i2 ((gI s 61) - 1))), (0, .ref (a 16)), (1, .ref (a 3)), (2, .ref (a 71)), (3, .int (i2 p2)), (4, .int (i2 p3))]) hx hb eX4_load_6.1 hl (by decide) rfl (fun ls hl => ?_)
  refine lv_iload hx hb eX4_load_6.2.1 (lv_at hl 0 rfl) ?_
  refine lv_bipush (v := 19) hx hb eX4_load_6.2.2.1 (by decide) ?_
  obtain ⟨hr27, h⟩ := rg_e h
  refine lv_icmp_lt (tgt := 33) hx hb eX4_load_6.2.2.2.1 (by decide) (fun c28 => ?_) (fun c28 => ?_)
  · have h := if_t ((i2_lt (x := ((gI s 61) - 1)) (y := 19) hr27 (by decide)).mp c28) h
    exact J33 s _ _ _ ⟨hP, hS, lv_sub hl [] rfl, h⟩
  · have h := if_f (mt (i2_lt (x := ((gI s 61) - 1)) (y := 19) hr27 (by decide)).mpr c28) h
    refine lv_aload_n hx hb eX4_load_6.2.2.2.2.1 rfl (lv_at hl 2 rfl) ?_
    refine lv_iload hx hb eX4_load_6.2.2.2.2.2.1 (lv_at hl 0 rfl) ?_
    obtain ⟨r30, hc29, h⟩ := bn_e h
    refine ycV (r0 := i2 r30) (As := [.int (i2 ((gI s 61) - 1))]) (rest := []) (C := RX9) (n := 1) ⟨hx, hb, hml, hown, ht⟩ (k_x9_at l D a ((gI s 61) - 1) _ _ hc29) (zgV ml_X4_92 im_X9_at se_X9_at in_X9 co_X9_at) rfl rfl (by decide +kernel) ⟨Nat.le_of_ble_eq_true rfl, Nat.le_of_ble_eq_true rfl⟩ hN hK hP hS 3 CW_3 rfl rfl rfl hl.1 rfl (Nat.le_of_ble_eq_true rfl) eX4_load_6.2.2.2.2.2.2.1 ⟨Nat.le_of_ble_eq_true rfl, Nat.le_of_ble_eq_true rfl⟩ (fun H locs hP hS => ?_)
    refine lv_aload_n hx hb eX4_load_6.2.2.2.2.2.2.2 rfl (lv_at hl 2 rfl) ?_
    refine va_get (D := D) (ci := 9) (v := .ref (a 4)) (C := RX9) (T := TX9) (N := 2) hx hb ht inX9 hown hK hP 3 CW_3 rfl 0 (by decide) (ht (.fieldLink RX4 95 "CloneVolumes$Tape" "bytes" "[I") fl_X4_95) (fun _ h9 => h9) rfl eX4_load_22.1 ?_
    refine lv_iload hx hb eX4_load_22.2.1 (lv_at hl 0 rfl) ?_
    obtain ⟨r32, hc31, h⟩ := bn_e h
    refine ycS (r0 := i2 r32) (As := [.ref (a 4), .int (i2 ((gI s 61) - 1))]) (rest := [.int (i2 r30)]) (n := 2) ⟨hx, hb, hml, hown, ht⟩ (k_x4_seal_v2 l D a ((gI s 61) - 1) _ _ hc31) (zgT ml_X4_68 st_X4_seal in_X4 co_X4_seal) rfl rfl (by decide +kernel) ⟨Nat.le_of_ble_eq_true rfl, Nat.le_of_ble_eq_true rfl⟩ hN hK hP hS rfl hl.1 rfl (Nat.le_of_ble_eq_true rfl) eX4_load_22.2.2.1 ⟨Nat.le_of_ble_eq_true rfl, Nat.le_of_ble_eq_true rfl⟩ (fun H locs hP hS => ?_)
    obtain ⟨hr33, h⟩ := rg_e h
    obtain ⟨hr34, h⟩ := rg_e h
    refine lv_icmp_eq (tgt := 35) hx hb eX4_load_22.2.2.2.1 (by decide) (fun c35 => ?_) (fun c35 => ?_)
    · have h := if_t ((i2_eq (x := r30) (y := r32) hr33 hr34).mp c35) h
      refine lv_aload_n hx hb eX4_load_22.2.2.2.2.2.2.1 rfl (lv_at hl 3 rfl) ?_
      refine lv_iload_n hx hb eX4_load_22.2.2.2.2.2.2.2 rfl (lv_at hl 4 rfl) ?_
      obtain ⟨s37, hc36, h⟩ := bn_e h
      refine ywVv (As := [.int (i2 p2)]) (rest := []) (C := RX8) (n := 1) (ws' := CS D a s37) ⟨hx, hb, hml, hown, ht⟩ (k_x8_clear l D a p2 _ _ _ hc36) (zgV ml_X4_96 im_X8_clear se_X8_clear in_X8 co_X8_clear) rfl rfl (by decide +kernel) ⟨Nat.le_of_ble_eq_true rfl, Nat.le_of_ble_eq_true rfl⟩ hN hK hP (hDD _) hS hA 71 CW_71 rfl rfl rfl hl.1 rfl (Nat.le_of_ble_eq_true rfl) eX4_load_37.1 ⟨Nat.le_of_ble_eq_true rfl, Nat.le_of_ble_eq_true rfl⟩ (fun H locs hP hS => ?_)
      refine lv_aload_n hx hb eX4_load_37.2.1 rfl (lv_at hl 1 rfl) ?_
      refine lv_iconst (v := 0) hx hb eX4_load_37.2.2.1 (by decide) ?_
      refine ya_put (D := D) (ci := 4) (v := .int 0) (ty := .int) (C := RX4) (T := TX4) (N := 6) hx hb ht inX4 tyX4 tyX4_ok nmX4 hown hK hP (hDD _) hS 16 CW_16 rfl 2 (by decide) (ht (.fieldLink RX4 99 "CloneVolumes$Picture" "at" "I") fl_X4_99) (fun _ h9 => h9) rfl (by decide +kernel) rfl rfl (Nat.le_of_ble_eq_true rfl) eX4_load_37.2.2.2.1 (CW_w16_2 0) (fun H locs hP hS => ?_)
      obtain ⟨s38, hs38, h⟩ := st_e h
      rw [hs38] at hP
      refine lv_aload_n hx hb eX4_load_37.2.2.2.2.1 rfl (lv_at hl 1 rfl) ?_
      refine lv_aload_n hx hb eX4_load_37.2.2.2.2.2.1 rfl (lv_at hl 2 rfl) ?_
      refine lv_aload_n hx hb eX4_load_37.2.2.2.2.2.2.1 rfl (lv_at hl 3 rfl) ?_
      obtain ⟨⟨r41, s40⟩, hc39, h⟩ := bn_e h
      refine ywV (r0 := i2 r41) (As := [.ref (a 3), .ref (a 71)]) (rest := []) (C := RX4) (n := 2) (ws' := CS D a s40) ⟨hx, hb, hml, hown, ht⟩ (k_x4_loadHead l D a _ _ _ hc39) (zgV ml_X4_101 im_X4_loadHead se_X4_loadHead in_X4 co_X4_loadHead) rfl rfl (by decide +kernel) ⟨Nat.le_of_ble_eq_true rfl, Nat.le_of_ble_eq_true rfl⟩ hN hK hP (hDD _) hS hA 16 CW_16 rfl rfl rfl hl.1 rfl (Nat.le_of_ble_eq_true rfl) eX4_load_37.2.2.2.2.2.2.2 ⟨Nat.le_of_ble_eq_true rfl, Nat.le_of_ble_eq_true rfl⟩ (fun H locs hP hS => ?_)
      obtain ⟨hr42, h⟩ := rg_e h
      refine lv_if_ne (tgt := 56) hx hb eX4_load_51.1 (by decide) (fun c43 => ?_) (fun c43 => ?_)
      · have h := if_f (mt (i2_eq (x := r41) (y := 0) hr42 (by decide)).mpr c43) h
        refine lv_iconst (v := 0) hx hb eX4_load_51.2.2.2.1 (by decide) ?_
        refine lv_istore (lv' := [(6, .int 0), (5, .int (i2 ((gI s 61) - 1))), (0, .ref (a 16)), (1, .ref (a 3)), (2, .ref (a 71)), (3, .int (i2 p2)), (4, .int (i2 p3))]) hx hb eX4_load_51.2.2.2.2.1 hl (by decide) rfl (fun ls hl => ?_)
        exact J59 FU (p2, p3, (gI s 61) - 1, 0, s40) _ _ _ ⟨hP, hS, lv_sub hl [2, 3, 4, 5, 6, 1, 0] rfl, h⟩
      · have h := if_t ((i2_eq (x := r41) (y := 0) hr42 (by decide)).mp c43) h
        refine lv_iconst (v := 0) hx hb eX4_load_51.2.1 (by decide) ?_
        obtain rfl := Option.some.inj h
        exact W.zret (v := 0) hx hb hr (by decide) (fun t ht hW => ⟨⟨_, (), rfl, rfl, by rw [ht]; exact hP, va_K.moved hW.alike hK, hDD _⟩, hS.F ht⟩) hS.2.2 eX4_load_51.2.2.1
    · have h := if_f (mt (i2_eq (x := r30) (y := r32) hr33 hr34).mpr c35) h
      exact J33 s _ _ _ ⟨hP, hS, lv_sub hl [] rfl, h⟩
