theorem ck_X4_117 : Cond.constant RX4 117 65536 ∈ lw_gd := zm (List.mem_of_getElem? (i := 1497) (by decide +kernel)) rfl
theorem ck_X4_121 : Cond.constant RX4 121 999999 ∈ lw_gd := zm (List.mem_of_getElem? (i := 1502) (by decide +kernel)) rfl
theorem co_X4_isSoundBlock : Cond.code yX4_isSoundBlock cX4_isSoundBlock 6 (some .boolean) ∈ lw_gd := zm (List.mem_of_getElem? (i := 1518) (by decide +kernel)) rfl
theorem co_X4_next : Cond.code yX4_next cX4_next 3 (some .int) ∈ lw_gd := zm (List.mem_of_getElem? (i := 1496) (by decide +kernel)) rfl
theorem co_X4_nextPair : Cond.code yX4_nextPair cX4_nextPair 3 (some .int) ∈ lw_gd := zm (List.mem_of_getElem? (i := 1501) (by decide +kernel)) rfl
theorem co_X4_refsAre : Cond.code yX4_refsAre cX4_refsAre 7 (some .boolean) ∈ lw_gd := zm (List.mem_of_getElem? (i := 1527) (by decide +kernel)) rfl
theorem co_X4_rootOf : Cond.code yX4_rootOf cX4_rootOf 1 (some .int) ∈ lw_gd := zm (List.mem_of_getElem? (i := 1505) (by decide +kernel)) rfl
theorem fl_X4_99 : Cond.fieldLink RX4 99 "CloneVolumes$Picture" "at" "I" ∈ lw_gd := zm (List.mem_of_getElem? (i := 404) (by decide +kernel)) rfl
theorem im_X4_isSoundBlock : Cond.instanceMethod yX4_isSoundBlock ∈ lw_gd := zm (List.mem_of_getElem? (i := 1517) (by decide +kernel)) rfl
theorem im_X4_next : Cond.instanceMethod yX4_next ∈ lw_gd := zm (List.mem_of_getElem? (i := 1495) (by decide +kernel)) rfl
theorem im_X4_nextPair : Cond.instanceMethod yX4_nextPair ∈ lw_gd := zm (List.mem_of_getElem? (i := 1500) (by decide +kernel)) rfl
theorem im_X4_refsAre : Cond.instanceMethod yX4_refsAre ∈ lw_gd := zm (List.mem_of_getElem? (i := 1526) (by decide +kernel)) rfl
theorem ml_X4_113 : Cond.methodLink RX4 113 yX4_next ∈ lw_gd := zm (List.mem_of_getElem? (i := 1493) (by decide +kernel)) rfl
theorem ml_X4_118 : Cond.methodLink RX4 118 yX4_nextPair ∈ lw_gd := zm (List.mem_of_getElem? (i := 1498) (by decide +kernel)) rfl
theorem ml_X4_122 : Cond.methodLink RX4 122 yX4_rootOf ∈ lw_gd := zm (List.mem_of_getElem? (i := 1503) (by decide +kernel)) rfl
theorem ml_X4_128 : Cond.methodLink RX4 128 yX4_isSoundBlock ∈ lw_gd := zm (List.mem_of_getElem? (i := 1515) (by decide +kernel)) rfl
theorem ml_X4_132 : Cond.methodLink RX4 132 yX4_refsAre ∈ lw_gd := zm (List.mem_of_getElem? (i := 1524) (by decide +kernel)) rfl
theorem ml_X4_92 : Cond.methodLink RX4 92 yX9_at ∈ lw_gd := zm (List.mem_of_getElem? (i := 1487) (by decide +kernel)) rfl
theorem se_X4_isSoundBlock : Cond.selects RX4 yX4_isSoundBlock yX4_isSoundBlock ∈ lw_gd := zm (List.mem_of_getElem? (i := 66) (by decide +kernel)) rfl
theorem se_X4_next : Cond.selects RX4 yX4_next yX4_next ∈ lw_gd := zm (List.mem_of_getElem? (i := 62) (by decide +kernel)) rfl
theorem se_X4_nextPair : Cond.selects RX4 yX4_nextPair yX4_nextPair ∈ lw_gd := zm (List.mem_of_getElem? (i := 63) (by decide +kernel)) rfl
theorem se_X4_refsAre : Cond.selects RX4 yX4_refsAre yX4_refsAre ∈ lw_gd := zm (List.mem_of_getElem? (i := 68) (by decide +kernel)) rfl
theorem st_X4_rootOf : Cond.static yX4_rootOf ∈ lw_gd := zm (List.mem_of_getElem? (i := 1504) (by decide +kernel)) rfl
theorem dX4_isSound_0 : decode cX4_isSound 0 = .ok (.iconst 0, 1) := by decide +kernel
theorem dX4_isSound_1 : decode cX4_isSound 1 = .ok (.istore_n 2, 1) := by decide +kernel
theorem dX4_isSound_2 : decode cX4_isSound 2 = .ok (.iload_n 2, 1) := by decide +kernel
theorem dX4_isSound_3 : decode cX4_isSound 3 = .ok (.bipush 48, 2) := by decide +kernel
theorem dX4_isSound_5 : decode cX4_isSound 5 = .ok (.if_icmp .ge 54, 3) := by decide +kernel
theorem dX4_isSound_8 : decode cX4_isSound 8 = .ok (.iconst 0, 1) := by decide +kernel
theorem dX4_isSound_9 : decode cX4_isSound 9 = .ok (.istore_n 3, 1) := by decide +kernel
theorem dX4_isSound_10 : decode cX4_isSound 10 = .ok (.iload_n 3, 1) := by decide +kernel
theorem dX4_isSound_11 : decode cX4_isSound 11 = .ok (.aload_n 1, 1) := by decide +kernel
theorem dX4_isSound_12 : decode cX4_isSound 12 = .ok (.getfield 51, 3) := by decide +kernel
theorem dX4_isSound_15 : decode cX4_isSound 15 = .ok (.if_icmp .ge 38, 3) := by decide +kernel
theorem dX4_isSound_18 : decode cX4_isSound 18 = .ok (.aload_n 1, 1) := by decide +kernel
theorem dX4_isSound_19 : decode cX4_isSound 19 = .ok (.iload_n 3, 1) := by decide +kernel
theorem dX4_isSound_20 : decode cX4_isSound 20 = .ok (.invokevirtual 60, 3) := by decide +kernel
theorem dX4_isSound_23 : decode cX4_isSound 23 = .ok (.ifCond .ne 24, 3) := by decide +kernel
theorem dX4_isSound_26 : decode cX4_isSound 26 = .ok (.aload_n 1, 1) := by decide +kernel
theorem dX4_isSound_27 : decode cX4_isSound 27 = .ok (.getfield 72, 3) := by decide +kernel
theorem dX4_isSound_30 : decode cX4_isSound 30 = .ok (.iload_n 3, 1) := by decide +kernel
theorem dX4_isSound_31 : decode cX4_isSound 31 = .ok (.iaload, 1) := by decide +kernel
theorem dX4_isSound_32 : decode cX4_isSound 32 = .ok (.iload_n 2, 1) := by decide +kernel
theorem dX4_isSound_33 : decode cX4_isSound 33 = .ok (.if_icmp .ne 14, 3) := by decide +kernel
theorem dX4_isSound_36 : decode cX4_isSound 36 = .ok (.aload_n 0, 1) := by decide +kernel
theorem dX4_isSound_37 : decode cX4_isSound 37 = .ok (.aload_n 1, 1) := by decide +kernel
theorem dX4_isSound_38 : decode cX4_isSound 38 = .ok (.iload_n 3, 1) := by decide +kernel
theorem dX4_isSound_39 : decode cX4_isSound 39 = .ok (.invokevirtual 128, 3) := by decide +kernel
theorem dX4_isSound_42 : decode cX4_isSound 42 = .ok (.ifCond .ne 5, 3) := by decide +kernel
theorem dX4_isSound_45 : decode cX4_isSound 45 = .ok (.iconst 0, 1) := by decide +kernel
theorem dX4_isSound_46 : decode cX4_isSound 46 = .ok (.ireturn, 1) := by decide +kernel
theorem dX4_isSound_47 : decode cX4_isSound 47 = .ok (.iinc 3 1, 3) := by decide +kernel
theorem dX4_isSound_50 : decode cX4_isSound 50 = .ok (.goto (-40), 3) := by decide +kernel
theorem dX4_isSound_53 : decode cX4_isSound 53 = .ok (.iinc 2 1, 3) := by decide +kernel
theorem dX4_isSound_56 : decode cX4_isSound 56 = .ok (.goto (-54), 3) := by decide +kernel
theorem dX4_isSound_59 : decode cX4_isSound 59 = .ok (.aload_n 0, 1) := by decide +kernel
theorem dX4_isSound_60 : decode cX4_isSound 60 = .ok (.aload_n 1, 1) := by decide +kernel
theorem dX4_isSound_61 : decode cX4_isSound 61 = .ok (.aload_n 1, 1) := by decide +kernel
theorem dX4_isSound_62 : decode cX4_isSound 62 = .ok (.getfield 54, 3) := by decide +kernel
theorem dX4_isSound_65 : decode cX4_isSound 65 = .ok (.aload_n 1, 1) := by decide +kernel
theorem dX4_isSound_66 : decode cX4_isSound 66 = .ok (.getfield 41, 3) := by decide +kernel
theorem dX4_isSound_69 : decode cX4_isSound 69 = .ok (.invokevirtual 132, 3) := by decide +kernel
theorem dX4_isSound_72 : decode cX4_isSound 72 = .ok (.ifCond .eq 23, 3) := by decide +kernel
theorem dX4_isSound_75 : decode cX4_isSound 75 = .ok (.aload_n 0, 1) := by decide +kernel
theorem dX4_isSound_76 : decode cX4_isSound 76 = .ok (.aload_n 1, 1) := by decide +kernel
theorem dX4_isSound_77 : decode cX4_isSound 77 = .ok (.aload_n 1, 1) := by decide +kernel
theorem dX4_isSound_78 : decode cX4_isSound 78 = .ok (.getfield 57, 3) := by decide +kernel
theorem dX4_isSound_81 : decode cX4_isSound 81 = .ok (.aload_n 1, 1) := by decide +kernel
theorem dX4_isSound_82 : decode cX4_isSound 82 = .ok (.getfield 48, 3) := by decide +kernel
theorem dX4_isSound_85 : decode cX4_isSound 85 = .ok (.invokevirtual 132, 3) := by decide +kernel
theorem dX4_isSound_88 : decode cX4_isSound 88 = .ok (.ifCond .eq 7, 3) := by decide +kernel
theorem dX4_isSound_91 : decode cX4_isSound 91 = .ok (.iconst 1, 1) := by decide +kernel
theorem dX4_isSound_92 : decode cX4_isSound 92 = .ok (.goto 4, 3) := by decide +kernel
theorem dX4_isSound_95 : decode cX4_isSound 95 = .ok (.iconst 0, 1) := by decide +kernel
theorem dX4_isSound_96 : decode cX4_isSound 96 = .ok (.ireturn, 1) := by decide +kernel
theorem dX4_loadBlock_0 : decode cX4_loadBlock 0 = .ok (.aload_n 2, 1) := by decide +kernel
theorem dX4_loadBlock_1 : decode cX4_loadBlock 1 = .ok (.getfield 54, 3) := by decide +kernel
theorem dX4_loadBlock_4 : decode cX4_loadBlock 4 = .ok (.iload_n 3, 1) := by decide +kernel
theorem dX4_loadBlock_5 : decode cX4_loadBlock 5 = .ok (.aload_n 0, 1) := by decide +kernel
theorem dX4_loadBlock_6 : decode cX4_loadBlock 6 = .ok (.aload_n 1, 1) := by decide +kernel
theorem dX4_loadBlock_7 : decode cX4_loadBlock 7 = .ok (.invokevirtual 113, 3) := by decide +kernel
theorem dX4_loadBlock_10 : decode cX4_loadBlock 10 = .ok (.iastore, 1) := by decide +kernel
theorem dX4_loadBlock_11 : decode cX4_loadBlock 11 = .ok (.aload_n 2, 1) := by decide +kernel
theorem dX4_loadBlock_12 : decode cX4_loadBlock 12 = .ok (.getfield 57, 3) := by decide +kernel
theorem dX4_loadBlock_15 : decode cX4_loadBlock 15 = .ok (.iload_n 3, 1) := by decide +kernel
theorem dX4_loadBlock_16 : decode cX4_loadBlock 16 = .ok (.aload_n 0, 1) := by decide +kernel
theorem dX4_loadBlock_17 : decode cX4_loadBlock 17 = .ok (.aload_n 1, 1) := by decide +kernel
theorem dX4_loadBlock_18 : decode cX4_loadBlock 18 = .ok (.invokevirtual 113, 3) := by decide +kernel
theorem dX4_loadBlock_21 : decode cX4_loadBlock 21 = .ok (.iastore, 1) := by decide +kernel
theorem dX4_loadBlock_22 : decode cX4_loadBlock 22 = .ok (.aload_n 2, 1) := by decide +kernel
theorem dX4_loadBlock_23 : decode cX4_loadBlock 23 = .ok (.getfield 54, 3) := by decide +kernel
theorem dX4_loadBlock_26 : decode cX4_loadBlock 26 = .ok (.iload_n 3, 1) := by decide +kernel
theorem dX4_loadBlock_27 : decode cX4_loadBlock 27 = .ok (.iaload, 1) := by decide +kernel
theorem dX4_loadBlock_28 : decode cX4_loadBlock 28 = .ok (.ifCond .lt 12, 3) := by decide +kernel
theorem dX4_loadBlock_31 : decode cX4_loadBlock 31 = .ok (.aload_n 2, 1) := by decide +kernel
theorem dX4_loadBlock_32 : decode cX4_loadBlock 32 = .ok (.getfield 57, 3) := by decide +kernel
theorem dX4_loadBlock_35 : decode cX4_loadBlock 35 = .ok (.iload_n 3, 1) := by decide +kernel
theorem dX4_loadBlock_36 : decode cX4_loadBlock 36 = .ok (.iaload, 1) := by decide +kernel
theorem dX4_loadBlock_37 : decode cX4_loadBlock 37 = .ok (.ifCond .ge 5, 3) := by decide +kernel
theorem dX4_loadBlock_40 : decode cX4_loadBlock 40 = .ok (.iconst 0, 1) := by decide +kernel
theorem dX4_loadBlock_41 : decode cX4_loadBlock 41 = .ok (.ireturn, 1) := by decide +kernel
theorem dX4_loadBlock_42 : decode cX4_loadBlock 42 = .ok (.aload_n 2, 1) := by decide +kernel
theorem dX4_loadBlock_43 : decode cX4_loadBlock 43 = .ok (.iload_n 3, 1) := by decide +kernel
theorem dX4_loadBlock_44 : decode cX4_loadBlock 44 = .ok (.invokevirtual 60, 3) := by decide +kernel
theorem dX4_loadBlock_47 : decode cX4_loadBlock 47 = .ok (.ifCond .eq 5, 3) := by decide +kernel
theorem dX4_loadBlock_50 : decode cX4_loadBlock 50 = .ok (.iconst 1, 1) := by decide +kernel
theorem dX4_loadBlock_51 : decode cX4_loadBlock 51 = .ok (.ireturn, 1) := by decide +kernel
theorem dX4_loadBlock_52 : decode cX4_loadBlock 52 = .ok (.aload_n 2, 1) := by decide +kernel
theorem dX4_loadBlock_53 : decode cX4_loadBlock 53 = .ok (.getfield 72, 3) := by decide +kernel
theorem dX4_loadBlock_56 : decode cX4_loadBlock 56 = .ok (.iload_n 3, 1) := by decide +kernel
theorem dX4_loadBlock_57 : decode cX4_loadBlock 57 = .ok (.aload_n 0, 1) := by decide +kernel
theorem dX4_loadBlock_58 : decode cX4_loadBlock 58 = .ok (.aload_n 1, 1) := by decide +kernel
theorem dX4_loadBlock_59 : decode cX4_loadBlock 59 = .ok (.invokevirtual 113, 3) := by decide +kernel
theorem dX4_loadBlock_62 : decode cX4_loadBlock 62 = .ok (.iastore, 1) := by decide +kernel
theorem dX4_loadBlock_63 : decode cX4_loadBlock 63 = .ok (.aload_n 2, 1) := by decide +kernel
theorem dX4_loadBlock_64 : decode cX4_loadBlock 64 = .ok (.getfield 75, 3) := by decide +kernel
theorem dX4_loadBlock_67 : decode cX4_loadBlock 67 = .ok (.iload_n 3, 1) := by decide +kernel
theorem dX4_loadBlock_68 : decode cX4_loadBlock 68 = .ok (.aload_n 0, 1) := by decide +kernel
theorem dX4_loadBlock_69 : decode cX4_loadBlock 69 = .ok (.aload_n 1, 1) := by decide +kernel
theorem dX4_loadBlock_70 : decode cX4_loadBlock 70 = .ok (.invokevirtual 113, 3) := by decide +kernel
theorem dX4_loadBlock_73 : decode cX4_loadBlock 73 = .ok (.iastore, 1) := by decide +kernel
theorem dX4_loadBlock_74 : decode cX4_loadBlock 74 = .ok (.aload_n 2, 1) := by decide +kernel
theorem dX4_loadBlock_75 : decode cX4_loadBlock 75 = .ok (.getfield 72, 3) := by decide +kernel
theorem dX4_loadBlock_78 : decode cX4_loadBlock 78 = .ok (.iload_n 3, 1) := by decide +kernel
theorem dX4_loadBlock_79 : decode cX4_loadBlock 79 = .ok (.iaload, 1) := by decide +kernel
theorem dX4_loadBlock_80 : decode cX4_loadBlock 80 = .ok (.ifCond .lt 35, 3) := by decide +kernel
theorem dX4_loadBlock_83 : decode cX4_loadBlock 83 = .ok (.aload_n 2, 1) := by decide +kernel
theorem dX4_loadBlock_84 : decode cX4_loadBlock 84 = .ok (.getfield 72, 3) := by decide +kernel
theorem dX4_loadBlock_87 : decode cX4_loadBlock 87 = .ok (.iload_n 3, 1) := by decide +kernel
theorem dX4_loadBlock_88 : decode cX4_loadBlock 88 = .ok (.iaload, 1) := by decide +kernel
theorem dX4_loadBlock_89 : decode cX4_loadBlock 89 = .ok (.bipush 48, 2) := by decide +kernel
theorem dX4_loadBlock_91 : decode cX4_loadBlock 91 = .ok (.if_icmp .ge 24, 3) := by decide +kernel
theorem dX4_loadBlock_94 : decode cX4_loadBlock 94 = .ok (.aload_n 2, 1) := by decide +kernel
theorem dX4_loadBlock_95 : decode cX4_loadBlock 95 = .ok (.getfield 75, 3) := by decide +kernel
theorem dX4_loadBlock_98 : decode cX4_loadBlock 98 = .ok (.iload_n 3, 1) := by decide +kernel
theorem dX4_loadBlock_99 : decode cX4_loadBlock 99 = .ok (.iaload, 1) := by decide +kernel
theorem dX4_loadBlock_100 : decode cX4_loadBlock 100 = .ok (.iconst 1, 1) := by decide +kernel
theorem dX4_loadBlock_101 : decode cX4_loadBlock 101 = .ok (.if_icmp .lt 14, 3) := by decide +kernel
theorem dX4_loadBlock_104 : decode cX4_loadBlock 104 = .ok (.aload_n 2, 1) := by decide +kernel
theorem dX4_loadBlock_105 : decode cX4_loadBlock 105 = .ok (.getfield 75, 3) := by decide +kernel
theorem dX4_loadBlock_108 : decode cX4_loadBlock 108 = .ok (.iload_n 3, 1) := by decide +kernel
theorem dX4_loadBlock_109 : decode cX4_loadBlock 109 = .ok (.iaload, 1) := by decide +kernel
theorem dX4_loadBlock_110 : decode cX4_loadBlock 110 = .ok (.iload 4, 2) := by decide +kernel
theorem dX4_loadBlock_112 : decode cX4_loadBlock 112 = .ok (.if_icmp .le 5, 3) := by decide +kernel
theorem dX4_loadBlock_115 : decode cX4_loadBlock 115 = .ok (.iconst 0, 1) := by decide +kernel
theorem dX4_loadBlock_116 : decode cX4_loadBlock 116 = .ok (.ireturn, 1) := by decide +kernel
theorem dX4_loadBlock_117 : decode cX4_loadBlock 117 = .ok (.iconst 1, 1) := by decide +kernel
theorem dX4_loadBlock_118 : decode cX4_loadBlock 118 = .ok (.istore 5, 2) := by decide +kernel
theorem dX4_loadBlock_120 : decode cX4_loadBlock 120 = .ok (.iconst 0, 1) := by decide +kernel
theorem dX4_loadBlock_121 : decode cX4_loadBlock 121 = .ok (.istore 6, 2) := by decide +kernel
theorem dX4_loadBlock_123 : decode cX4_loadBlock 123 = .ok (.iload 6, 2) := by decide +kernel
theorem dX4_loadBlock_125 : decode cX4_loadBlock 125 = .ok (.aload_n 2, 1) := by decide +kernel
theorem dX4_loadBlock_126 : decode cX4_loadBlock 126 = .ok (.getfield 75, 3) := by decide +kernel
theorem dX4_loadBlock_129 : decode cX4_loadBlock 129 = .ok (.iload_n 3, 1) := by decide +kernel
theorem dX4_loadBlock_130 : decode cX4_loadBlock 130 = .ok (.iaload, 1) := by decide +kernel
theorem dX4_loadBlock_131 : decode cX4_loadBlock 131 = .ok (.if_icmp .ge 79, 3) := by decide +kernel
theorem dX4_loadBlock_134 : decode cX4_loadBlock 134 = .ok (.aload_n 0, 1) := by decide +kernel
theorem dX4_loadBlock_135 : decode cX4_loadBlock 135 = .ok (.aload_n 1, 1) := by decide +kernel
theorem dX4_loadBlock_136 : decode cX4_loadBlock 136 = .ok (.invokevirtual 118, 3) := by decide +kernel
theorem dX4_loadBlock_139 : decode cX4_loadBlock 139 = .ok (.istore 7, 2) := by decide +kernel
theorem dX4_loadBlock_141 : decode cX4_loadBlock 141 = .ok (.aload_n 0, 1) := by decide +kernel
theorem dX4_loadBlock_142 : decode cX4_loadBlock 142 = .ok (.aload_n 1, 1) := by decide +kernel
theorem dX4_loadBlock_143 : decode cX4_loadBlock 143 = .ok (.invokevirtual 118, 3) := by decide +kernel
theorem dX4_loadBlock_146 : decode cX4_loadBlock 146 = .ok (.istore 8, 2) := by decide +kernel
theorem dX4_loadBlock_148 : decode cX4_loadBlock 148 = .ok (.aload_n 2, 1) := by decide +kernel
theorem dX4_loadBlock_149 : decode cX4_loadBlock 149 = .ok (.getfield 77, 3) := by decide +kernel
theorem dX4_loadBlock_152 : decode cX4_loadBlock 152 = .ok (.aload_n 2, 1) := by decide +kernel
theorem dX4_loadBlock_153 : decode cX4_loadBlock 153 = .ok (.iload_n 3, 1) := by decide +kernel
theorem dX4_loadBlock_154 : decode cX4_loadBlock 154 = .ok (.iload 6, 2) := by decide +kernel
theorem dX4_loadBlock_156 : decode cX4_loadBlock 156 = .ok (.invokevirtual 80, 3) := by decide +kernel
theorem dX4_loadBlock_159 : decode cX4_loadBlock 159 = .ok (.iload 7, 2) := by decide +kernel
theorem dX4_loadBlock_161 : decode cX4_loadBlock 161 = .ok (.iastore, 1) := by decide +kernel
theorem dX4_loadBlock_162 : decode cX4_loadBlock 162 = .ok (.aload_n 2, 1) := by decide +kernel
theorem dX4_loadBlock_163 : decode cX4_loadBlock 163 = .ok (.getfield 84, 3) := by decide +kernel
theorem dX4_loadBlock_166 : decode cX4_loadBlock 166 = .ok (.aload_n 2, 1) := by decide +kernel
theorem dX4_loadBlock_167 : decode cX4_loadBlock 167 = .ok (.iload_n 3, 1) := by decide +kernel
theorem dX4_loadBlock_168 : decode cX4_loadBlock 168 = .ok (.iload 6, 2) := by decide +kernel
theorem dX4_loadBlock_170 : decode cX4_loadBlock 170 = .ok (.invokevirtual 80, 3) := by decide +kernel
theorem dX4_loadBlock_173 : decode cX4_loadBlock 173 = .ok (.iload 8, 2) := by decide +kernel
theorem dX4_loadBlock_175 : decode cX4_loadBlock 175 = .ok (.iastore, 1) := by decide +kernel
theorem dX4_loadBlock_176 : decode cX4_loadBlock 176 = .ok (.iload 5, 2) := by decide +kernel
theorem dX4_loadBlock_178 : decode cX4_loadBlock 178 = .ok (.ifCond .eq 23, 3) := by decide +kernel
theorem dX4_loadBlock_181 : decode cX4_loadBlock 181 = .ok (.iload 7, 2) := by decide +kernel
theorem dX4_loadBlock_183 : decode cX4_loadBlock 183 = .ok (.invokestatic 125, 3) := by decide +kernel
theorem dX4_loadBlock_186 : decode cX4_loadBlock 186 = .ok (.ifCond .eq 15, 3) := by decide +kernel
theorem dX4_loadBlock_189 : decode cX4_loadBlock 189 = .ok (.iload 8, 2) := by decide +kernel
theorem dX4_loadBlock_191 : decode cX4_loadBlock 191 = .ok (.invokestatic 125, 3) := by decide +kernel
theorem dX4_loadBlock_194 : decode cX4_loadBlock 194 = .ok (.ifCond .eq 7, 3) := by decide +kernel
theorem dX4_loadBlock_197 : decode cX4_loadBlock 197 = .ok (.iconst 1, 1) := by decide +kernel
theorem dX4_loadBlock_198 : decode cX4_loadBlock 198 = .ok (.goto 4, 3) := by decide +kernel
theorem dX4_loadBlock_201 : decode cX4_loadBlock 201 = .ok (.iconst 0, 1) := by decide +kernel
theorem dX4_loadBlock_202 : decode cX4_loadBlock 202 = .ok (.istore 5, 2) := by decide +kernel
theorem dX4_loadBlock_204 : decode cX4_loadBlock 204 = .ok (.iinc 6 1, 3) := by decide +kernel
theorem dX4_loadBlock_207 : decode cX4_loadBlock 207 = .ok (.goto (-84), 3) := by decide +kernel
theorem dX4_loadBlock_210 : decode cX4_loadBlock 210 = .ok (.iload 5, 2) := by decide +kernel
theorem dX4_loadBlock_212 : decode cX4_loadBlock 212 = .ok (.ireturn, 1) := by decide +kernel
theorem dX4_loadHead_0 : decode cX4_loadHead 0 = .ok (.aload_n 0, 1) := by decide +kernel
theorem dX4_loadHead_1 : decode cX4_loadHead 1 = .ok (.aload_n 1, 1) := by decide +kernel
theorem dX4_loadHead_2 : decode cX4_loadHead 2 = .ok (.invokevirtual 113, 3) := by decide +kernel
theorem dX4_loadHead_5 : decode cX4_loadHead 5 = .ok (.istore_n 3, 1) := by decide +kernel
theorem dX4_loadHead_6 : decode cX4_loadHead 6 = .ok (.aload_n 2, 1) := by decide +kernel
theorem dX4_loadHead_7 : decode cX4_loadHead 7 = .ok (.iload_n 3, 1) := by decide +kernel
theorem dX4_loadHead_8 : decode cX4_loadHead 8 = .ok (.ldc 117, 2) := by decide +kernel
theorem dX4_loadHead_10 : decode cX4_loadHead 10 = .ok (.imul, 1) := by decide +kernel
theorem dX4_loadHead_11 : decode cX4_loadHead 11 = .ok (.aload_n 0, 1) := by decide +kernel
theorem dX4_loadHead_12 : decode cX4_loadHead 12 = .ok (.aload_n 1, 1) := by decide +kernel
theorem dX4_loadHead_13 : decode cX4_loadHead 13 = .ok (.invokevirtual 118, 3) := by decide +kernel
theorem dX4_loadHead_16 : decode cX4_loadHead 16 = .ok (.iadd, 1) := by decide +kernel
theorem dX4_loadHead_17 : decode cX4_loadHead 17 = .ok (.putfield 28, 3) := by decide +kernel
theorem dX4_loadHead_20 : decode cX4_loadHead 20 = .ok (.aload_n 2, 1) := by decide +kernel
theorem dX4_loadHead_21 : decode cX4_loadHead 21 = .ok (.getfield 28, 3) := by decide +kernel
theorem dX4_loadHead_24 : decode cX4_loadHead 24 = .ok (.ldc 121, 2) := by decide +kernel
theorem dX4_loadHead_26 : decode cX4_loadHead 26 = .ok (.if_icmp .gt 7, 3) := by decide +kernel
theorem dX4_loadHead_29 : decode cX4_loadHead 29 = .ok (.iconst 1, 1) := by decide +kernel
theorem dX4_loadHead_30 : decode cX4_loadHead 30 = .ok (.goto 4, 3) := by decide +kernel
theorem dX4_loadHead_33 : decode cX4_loadHead 33 = .ok (.iconst 0, 1) := by decide +kernel
theorem dX4_loadHead_34 : decode cX4_loadHead 34 = .ok (.istore 4, 2) := by decide +kernel
theorem dX4_loadHead_36 : decode cX4_loadHead 36 = .ok (.iconst 0, 1) := by decide +kernel
theorem dX4_loadHead_37 : decode cX4_loadHead 37 = .ok (.istore 5, 2) := by decide +kernel
theorem dX4_loadHead_39 : decode cX4_loadHead 39 = .ok (.iload 5, 2) := by decide +kernel
theorem dX4_loadHead_41 : decode cX4_loadHead 41 = .ok (.bipush 8, 2) := by decide +kernel
theorem dX4_loadHead_43 : decode cX4_loadHead 43 = .ok (.if_icmp .ge 79, 3) := by decide +kernel
theorem dX4_loadHead_46 : decode cX4_loadHead 46 = .ok (.aload_n 2, 1) := by decide +kernel
theorem dX4_loadHead_47 : decode cX4_loadHead 47 = .ok (.getfield 41, 3) := by decide +kernel
theorem dX4_loadHead_50 : decode cX4_loadHead 50 = .ok (.iload 5, 2) := by decide +kernel
theorem dX4_loadHead_52 : decode cX4_loadHead 52 = .ok (.aload_n 0, 1) := by decide +kernel
theorem dX4_loadHead_53 : decode cX4_loadHead 53 = .ok (.aload_n 1, 1) := by decide +kernel
theorem dX4_loadHead_54 : decode cX4_loadHead 54 = .ok (.invokevirtual 113, 3) := by decide +kernel
theorem dX4_loadHead_57 : decode cX4_loadHead 57 = .ok (.invokestatic 122, 3) := by decide +kernel
theorem dX4_loadHead_60 : decode cX4_loadHead 60 = .ok (.iastore, 1) := by decide +kernel
theorem dX4_loadHead_61 : decode cX4_loadHead 61 = .ok (.aload_n 2, 1) := by decide +kernel
theorem dX4_loadHead_62 : decode cX4_loadHead 62 = .ok (.getfield 48, 3) := by decide +kernel
theorem dX4_loadHead_65 : decode cX4_loadHead 65 = .ok (.iload 5, 2) := by decide +kernel
theorem dX4_loadHead_67 : decode cX4_loadHead 67 = .ok (.aload_n 0, 1) := by decide +kernel
theorem dX4_loadHead_68 : decode cX4_loadHead 68 = .ok (.aload_n 1, 1) := by decide +kernel
theorem dX4_loadHead_69 : decode cX4_loadHead 69 = .ok (.invokevirtual 113, 3) := by decide +kernel
theorem dX4_loadHead_72 : decode cX4_loadHead 72 = .ok (.invokestatic 122, 3) := by decide +kernel
theorem dX4_loadHead_75 : decode cX4_loadHead 75 = .ok (.iastore, 1) := by decide +kernel
theorem dX4_loadHead_76 : decode cX4_loadHead 76 = .ok (.iload 4, 2) := by decide +kernel
theorem dX4_loadHead_78 : decode cX4_loadHead 78 = .ok (.ifCond .eq 35, 3) := by decide +kernel
theorem dX4_loadHead_81 : decode cX4_loadHead 81 = .ok (.aload_n 2, 1) := by decide +kernel
theorem dX4_loadHead_82 : decode cX4_loadHead 82 = .ok (.getfield 41, 3) := by decide +kernel
theorem dX4_loadHead_85 : decode cX4_loadHead 85 = .ok (.iload 5, 2) := by decide +kernel
theorem dX4_loadHead_87 : decode cX4_loadHead 87 = .ok (.iaload, 1) := by decide +kernel
theorem dX4_loadHead_88 : decode cX4_loadHead 88 = .ok (.aload_n 2, 1) := by decide +kernel
theorem dX4_loadHead_89 : decode cX4_loadHead 89 = .ok (.getfield 51, 3) := by decide +kernel
theorem dX4_loadHead_92 : decode cX4_loadHead 92 = .ok (.if_icmp .ge 21, 3) := by decide +kernel
theorem dX4_loadHead_95 : decode cX4_loadHead 95 = .ok (.aload_n 2, 1) := by decide +kernel
theorem dX4_loadHead_96 : decode cX4_loadHead 96 = .ok (.getfield 48, 3) := by decide +kernel
theorem dX4_loadHead_99 : decode cX4_loadHead 99 = .ok (.iload 5, 2) := by decide +kernel
theorem dX4_loadHead_101 : decode cX4_loadHead 101 = .ok (.iaload, 1) := by decide +kernel
theorem dX4_loadHead_102 : decode cX4_loadHead 102 = .ok (.aload_n 2, 1) := by decide +kernel
theorem dX4_loadHead_103 : decode cX4_loadHead 103 = .ok (.getfield 51, 3) := by decide +kernel
theorem dX4_loadHead_106 : decode cX4_loadHead 106 = .ok (.if_icmp .ge 7, 3) := by decide +kernel
theorem dX4_loadHead_109 : decode cX4_loadHead 109 = .ok (.iconst 1, 1) := by decide +kernel
theorem dX4_loadHead_110 : decode cX4_loadHead 110 = .ok (.goto 4, 3) := by decide +kernel
theorem dX4_loadHead_113 : decode cX4_loadHead 113 = .ok (.iconst 0, 1) := by decide +kernel
theorem dX4_loadHead_114 : decode cX4_loadHead 114 = .ok (.istore 4, 2) := by decide +kernel
theorem dX4_loadHead_116 : decode cX4_loadHead 116 = .ok (.iinc 5 1, 3) := by decide +kernel
theorem dX4_loadHead_119 : decode cX4_loadHead 119 = .ok (.goto (-80), 3) := by decide +kernel
theorem dX4_loadHead_122 : decode cX4_loadHead 122 = .ok (.iload 4, 2) := by decide +kernel
theorem dX4_loadHead_124 : decode cX4_loadHead 124 = .ok (.ireturn, 1) := by decide +kernel
theorem dX4_next_0 : decode cX4_next 0 = .ok (.aload_n 1, 1) := by decide +kernel
theorem dX4_next_1 : decode cX4_next 1 = .ok (.aload_n 0, 1) := by decide +kernel
theorem dX4_next_2 : decode cX4_next 2 = .ok (.getfield 99, 3) := by decide +kernel
theorem dX4_next_5 : decode cX4_next 5 = .ok (.invokevirtual 92, 3) := by decide +kernel
theorem dX4_next_8 : decode cX4_next 8 = .ok (.istore_n 2, 1) := by decide +kernel
theorem dX4_next_9 : decode cX4_next 9 = .ok (.aload_n 0, 1) := by decide +kernel
theorem dX4_next_10 : decode cX4_next 10 = .ok (.dup, 1) := by decide +kernel
theorem dX4_next_11 : decode cX4_next 11 = .ok (.getfield 99, 3) := by decide +kernel
theorem dX4_next_14 : decode cX4_next 14 = .ok (.iconst 1, 1) := by decide +kernel
theorem dX4_next_15 : decode cX4_next 15 = .ok (.iadd, 1) := by decide +kernel
theorem dX4_next_16 : decode cX4_next 16 = .ok (.putfield 99, 3) := by decide +kernel
theorem dX4_next_19 : decode cX4_next 19 = .ok (.iload_n 2, 1) := by decide +kernel
theorem dX4_next_20 : decode cX4_next 20 = .ok (.ireturn, 1) := by decide +kernel
theorem dX4_nextPair_0 : decode cX4_nextPair 0 = .ok (.aload_n 0, 1) := by decide +kernel
theorem dX4_nextPair_1 : decode cX4_nextPair 1 = .ok (.aload_n 1, 1) := by decide +kernel
theorem dX4_nextPair_2 : decode cX4_nextPair 2 = .ok (.invokevirtual 113, 3) := by decide +kernel
theorem dX4_nextPair_5 : decode cX4_nextPair 5 = .ok (.istore_n 2, 1) := by decide +kernel
theorem dX4_nextPair_6 : decode cX4_nextPair 6 = .ok (.iload_n 2, 1) := by decide +kernel
theorem dX4_nextPair_7 : decode cX4_nextPair 7 = .ok (.sipush 256, 3) := by decide +kernel
theorem dX4_nextPair_10 : decode cX4_nextPair 10 = .ok (.imul, 1) := by decide +kernel
theorem dX4_nextPair_11 : decode cX4_nextPair 11 = .ok (.aload_n 0, 1) := by decide +kernel
theorem dX4_nextPair_12 : decode cX4_nextPair 12 = .ok (.aload_n 1, 1) := by decide +kernel
theorem dX4_nextPair_13 : decode cX4_nextPair 13 = .ok (.invokevirtual 113, 3) := by decide +kernel
theorem dX4_nextPair_16 : decode cX4_nextPair 16 = .ok (.iadd, 1) := by decide +kernel
theorem dX4_nextPair_17 : decode cX4_nextPair 17 = .ok (.ireturn, 1) := by decide +kernel
theorem dX4_rootOf_0 : decode cX4_rootOf 0 = .ok (.iload_n 0, 1) := by decide +kernel
theorem dX4_rootOf_1 : decode cX4_rootOf 1 = .ok (.sipush 255, 3) := by decide +kernel
theorem dX4_rootOf_4 : decode cX4_rootOf 4 = .ok (.if_icmp .ne 6, 3) := by decide +kernel
theorem dX4_rootOf_7 : decode cX4_rootOf 7 = .ok (.bipush (-2), 2) := by decide +kernel
theorem dX4_rootOf_9 : decode cX4_rootOf 9 = .ok (.ireturn, 1) := by decide +kernel
theorem dX4_rootOf_10 : decode cX4_rootOf 10 = .ok (.iload_n 0, 1) := by decide +kernel
theorem dX4_rootOf_11 : decode cX4_rootOf 11 = .ok (.sipush 254, 3) := by decide +kernel
theorem dX4_rootOf_14 : decode cX4_rootOf 14 = .ok (.if_icmp .ne 7, 3) := by decide +kernel
theorem dX4_rootOf_17 : decode cX4_rootOf 17 = .ok (.iconst (-1), 1) := by decide +kernel
theorem dX4_rootOf_18 : decode cX4_rootOf 18 = .ok (.goto 4, 3) := by decide +kernel
theorem dX4_rootOf_21 : decode cX4_rootOf 21 = .ok (.iload_n 0, 1) := by decide +kernel
theorem dX4_rootOf_22 : decode cX4_rootOf 22 = .ok (.ireturn, 1) := by decide +kernel
theorem dX8_clear_0 : decode cX8_clear 0 = .ok (.aload_n 0, 1) := by decide +kernel
theorem dX8_clear_1 : decode cX8_clear 1 = .ok (.iload_n 1, 1) := by decide +kernel
theorem dX8_clear_2 : decode cX8_clear 2 = .ok (.putfield 40, 3) := by decide +kernel
theorem dX8_clear_5 : decode cX8_clear 5 = .ok (.aload_n 0, 1) := by decide +kernel
theorem dX8_clear_6 : decode cX8_clear 6 = .ok (.iconst 0, 1) := by decide +kernel
theorem dX8_clear_7 : decode cX8_clear 7 = .ok (.putfield 44, 3) := by decide +kernel
theorem dX8_clear_10 : decode cX8_clear 10 = .ok (.aload_n 0, 1) := by decide +kernel
theorem dX8_clear_11 : decode cX8_clear 11 = .ok (.lconst 0, 1) := by decide +kernel
theorem dX8_clear_12 : decode cX8_clear 12 = .ok (.putfield 47, 3) := by decide +kernel
theorem dX8_clear_15 : decode cX8_clear 15 = .ok (.iconst 0, 1) := by decide +kernel
theorem dX8_clear_16 : decode cX8_clear 16 = .ok (.istore_n 2, 1) := by decide +kernel
theorem dX8_clear_17 : decode cX8_clear 17 = .ok (.iload_n 2, 1) := by decide +kernel
theorem dX8_clear_18 : decode cX8_clear 18 = .ok (.bipush 48, 2) := by decide +kernel
theorem dX8_clear_20 : decode cX8_clear 20 = .ok (.if_icmp .ge 37, 3) := by decide +kernel
theorem dX8_clear_23 : decode cX8_clear 23 = .ok (.aload_n 0, 1) := by decide +kernel
theorem dX8_clear_24 : decode cX8_clear 24 = .ok (.getfield 9, 3) := by decide +kernel
theorem dX8_clear_27 : decode cX8_clear 27 = .ok (.iload_n 2, 1) := by decide +kernel
theorem dX8_clear_28 : decode cX8_clear 28 = .ok (.iconst 0, 1) := by decide +kernel
theorem dX8_clear_29 : decode cX8_clear 29 = .ok (.iastore, 1) := by decide +kernel
theorem dX8_clear_30 : decode cX8_clear 30 = .ok (.aload_n 0, 1) := by decide +kernel
theorem dX8_clear_31 : decode cX8_clear 31 = .ok (.getfield 15, 3) := by decide +kernel
theorem dX8_clear_34 : decode cX8_clear 34 = .ok (.iload_n 2, 1) := by decide +kernel
theorem dX8_clear_35 : decode cX8_clear 35 = .ok (.iconst 0, 1) := by decide +kernel
theorem dX8_clear_36 : decode cX8_clear 36 = .ok (.iastore, 1) := by decide +kernel
theorem dX8_clear_37 : decode cX8_clear 37 = .ok (.aload_n 0, 1) := by decide +kernel
theorem dX8_clear_38 : decode cX8_clear 38 = .ok (.getfield 18, 3) := by decide +kernel
theorem dX8_clear_41 : decode cX8_clear 41 = .ok (.iload_n 2, 1) := by decide +kernel
theorem dX8_clear_42 : decode cX8_clear 42 = .ok (.iconst 0, 1) := by decide +kernel
theorem dX8_clear_43 : decode cX8_clear 43 = .ok (.iastore, 1) := by decide +kernel
theorem dX8_clear_44 : decode cX8_clear 44 = .ok (.aload_n 0, 1) := by decide +kernel
theorem dX8_clear_45 : decode cX8_clear 45 = .ok (.getfield 21, 3) := by decide +kernel
theorem dX8_clear_48 : decode cX8_clear 48 = .ok (.iload_n 2, 1) := by decide +kernel
theorem dX8_clear_49 : decode cX8_clear 49 = .ok (.iconst 0, 1) := by decide +kernel
theorem dX8_clear_50 : decode cX8_clear 50 = .ok (.iastore, 1) := by decide +kernel
theorem dX8_clear_51 : decode cX8_clear 51 = .ok (.iinc 2 1, 3) := by decide +kernel
theorem dX8_clear_54 : decode cX8_clear 54 = .ok (.goto (-37), 3) := by decide +kernel
theorem dX8_clear_57 : decode cX8_clear 57 = .ok (.iconst 0, 1) := by decide +kernel
theorem dX8_clear_58 : decode cX8_clear 58 = .ok (.istore_n 2, 1) := by decide +kernel
theorem dX8_clear_59 : decode cX8_clear 59 = .ok (.iload_n 2, 1) := by decide +kernel
theorem dX8_clear_60 : decode cX8_clear 60 = .ok (.bipush 8, 2) := by decide +kernel
theorem dX8_clear_62 : decode cX8_clear 62 = .ok (.if_icmp .ge 25, 3) := by decide +kernel
theorem dX8_clear_65 : decode cX8_clear 65 = .ok (.aload_n 0, 1) := by decide +kernel
theorem dX8_clear_66 : decode cX8_clear 66 = .ok (.getfield 30, 3) := by decide +kernel
theorem dX8_clear_69 : decode cX8_clear 69 = .ok (.iload_n 2, 1) := by decide +kernel
theorem dX8_clear_70 : decode cX8_clear 70 = .ok (.bipush (-2), 2) := by decide +kernel
theorem dX8_clear_72 : decode cX8_clear 72 = .ok (.iastore, 1) := by decide +kernel
theorem dX8_clear_73 : decode cX8_clear 73 = .ok (.aload_n 0, 1) := by decide +kernel
theorem dX8_clear_74 : decode cX8_clear 74 = .ok (.getfield 33, 3) := by decide +kernel
theorem dX8_clear_77 : decode cX8_clear 77 = .ok (.iload_n 2, 1) := by decide +kernel
theorem dX8_clear_78 : decode cX8_clear 78 = .ok (.bipush (-2), 2) := by decide +kernel
theorem dX8_clear_80 : decode cX8_clear 80 = .ok (.iastore, 1) := by decide +kernel
theorem dX8_clear_81 : decode cX8_clear 81 = .ok (.iinc 2 1, 3) := by decide +kernel
theorem dX8_clear_84 : decode cX8_clear 84 = .ok (.goto (-25), 3) := by decide +kernel
theorem dX8_clear_87 : decode cX8_clear 87 = .ok (.return_, 1) := by decide +kernel
def m_x4_refsAre_v2_b151 (lr151 : Int32 → MS → Option (Int32 × MS)) (x1 : Int32) (s2 : MS) : Option (Int32 × MS) :=
  if (gI s2 1420) ≤ x1 then some (1, s2) else rdI (gA s2 20) 48 x1 (fun y4 => rdI (gA s2 73) 48 x1 (fun y5 => if y4 = y5 then lr151 (x1 + 1) s2 else some (0, s2)))
def m_x4_refsAre_v2_L151 (n : Nat) : Int32 → MS → Option (Int32 × MS) := lp (fun _ _ => none) (m_x4_refsAre_v2_b151) n
def m_x4_refsAre_v2_b107 (lr65 : Int32 → MS → Option (Int32 × MS)) (lr107 : Int32 → Int32 → Int32 → MS → Option (Int32 × MS)) (x9 : Int32) (x10 : Int32) (x11 : Int32) (s12 : MS) : Option (Int32 × MS) :=
  if x10 ≤ x11 then lr65 (x9 + 1) s12 else bn (m_x8_slot_v2 x9 x11 s12) (fun r15 => rdI (gA s12 77) 288 r15 (fun y16 => rdI (gA s12 20) 48 y16 (fun y17 => inb 48 y16 (stn (sA s12 20 (upd (gA s12 20) (Int32.toNatClampNeg y16) (y17 + 1))) (fun s19 => lr107 x9 x10 (x11 + 1) s19)))))
def m_x4_refsAre_v2_L107 (lr65 : Int32 → MS → Option (Int32 × MS)) (n : Nat) : Int32 → Int32 → Int32 → MS → Option (Int32 × MS) := lp (fun _ _ _ _ => none) (m_x4_refsAre_v2_b107 lr65) n
def m_x4_refsAre_v2_J102 (lr65 : Int32 → MS → Option (Int32 × MS)) (x20 : Int32) (x21 : Int32) (s22 : MS) : Option (Int32 × MS) :=
  m_x4_refsAre_v2_L107 lr65 FU x20 x21 0 s22
def m_x4_refsAre_v2_J101 (lr65 : Int32 → MS → Option (Int32 × MS)) (x23 : Int32) (s24 : MS) : Option (Int32 × MS) :=
  m_x4_refsAre_v2_J102 lr65 x23 0 s24
def m_x4_refsAre_v2_b65 (lr65 : Int32 → MS → Option (Int32 × MS)) (x7 : Int32) (s8 : MS) : Option (Int32 × MS) :=
  if (gI s8 1420) ≤ x7 then m_x4_refsAre_v2_L151 FU 0 s8 else rdI (gA s8 73) 48 x7 (fun y26 => if y26 ≤ 0 then m_x4_refsAre_v2_J101 lr65 x7 s8 else rdI (gA s8 74) 48 x7 (fun y28 => if y28 ≤ 0 then m_x4_refsAre_v2_J101 lr65 x7 s8 else rdI (gA s8 75) 48 x7 (fun y30 => m_x4_refsAre_v2_J102 lr65 x7 y30 s8)))
def m_x4_refsAre_v2_L65 (n : Nat) : Int32 → MS → Option (Int32 × MS) := lp (fun _ _ => none) (m_x4_refsAre_v2_b65) n
def m_x4_refsAre_v2_J56 (lr29 : Int32 → MS → Option (Int32 × MS)) (x33 : Int32) (s34 : MS) : Option (Int32 × MS) :=
  lr29 (x33 + 1) s34
def m_x4_refsAre_v2_b29 (lr29 : Int32 → MS → Option (Int32 × MS)) (x31 : Int32) (s32 : MS) : Option (Int32 × MS) :=
  if 8 ≤ x31 then m_x4_refsAre_v2_L65 FU 0 s32 else rdI (gA s32 79) 8 x31 (fun y36 => if y36 < 0 then m_x4_refsAre_v2_J56 lr29 x31 s32 else rdI (gA s32 79) 8 x31 (fun y38 => rdI (gA s32 20) 48 y38 (fun y39 => inb 48 y38 (stn (sA s32 20 (upd (gA s32 20) (Int32.toNatClampNeg y38) (y39 + 1))) (fun s41 => m_x4_refsAre_v2_J56 lr29 x31 s41)))))
def m_x4_refsAre_v2_L29 (n : Nat) : Int32 → MS → Option (Int32 × MS) := lp (fun _ _ => none) (m_x4_refsAre_v2_b29) n
def m_x4_refsAre_v2_b3 (lr3 : Int32 → MS → Option (Int32 × MS)) (x42 : Int32) (s43 : MS) : Option (Int32 × MS) :=
  if (gI s43 1420) ≤ x42 then m_x4_refsAre_v2_L29 FU 0 s43 else inb 48 x42 (stn (sA s43 20 (upd (gA s43 20) (Int32.toNatClampNeg x42) 0)) (fun s46 => lr3 (x42 + 1) s46))
def m_x4_refsAre_v2_L3 (n : Nat) : Int32 → MS → Option (Int32 × MS) := lp (fun _ _ => none) (m_x4_refsAre_v2_b3) n
def m_x4_refsAre_v2 (s : MS) : Option (Int32 × MS) :=
  m_x4_refsAre_v2_L3 FU 0 s
set_option maxHeartbeats 4000000 in
set_option maxRecDepth 100000 in
theorem k_x4_refsAre_v2 (l : Launch) (D : va_G) (a : Nat → Nat) (sz : Nat) (s : MS) (o : (Int32 × MS)) (h : m_x4_refsAre_v2 s = some o) : yWi l yX4_refsAre cX4_refsAre 7 (some .boolean) { frames := 1, cells := 0, slots := 0, locals := 60 } D sz [.ref (a 16), .ref (a 71), .ref (a 73), .ref (a 79)] (CS D a s) (CS D a o.2) o.1 := by
  refine Met.ofW (cc := cX4_refsAre) (maxL := 7) (ret := (some .boolean)) (by decide) rfl ?_
  intro p e s₀ m args below meth c s₁ B hml hv
  obtain ⟨rfl, ⟨hsz, hP, hK, hD0⟩, hN⟩ := hv
  have hx := B.exec
  have hb := B.bytes
  have hr := B.returns
  have hts := atoms_spec (ws := wz yX4_refsAre cX4_refsAre 7 (some .boolean)) B.pre
  have ht : ∀ w ∈ lw_gd, w.before _ s₀ = true := fun w h => hts w (List.mem_cons_of_mem _ h)
  have hown : s₀.vm.findClass RX4 = some m.cls := findClass_of_methodNamed B.named
  have hlocks := B.notSynchronized
  subst hsz
  have hD := hD0.self (sz := s₀.heap.size)
  generalize hAe : va_A (CS D a s) s₀.heap.size = A at hD ⊢
  have hA : ∀ q : Nat, s₀.heap.size ≤ q → A q := fun q h => by rw [← hAe]; exact Or.inr h
  have hS : va_S A s₀.heap s₀.heap [] := va_S.rf
  have hDD : ∀ t : MS, va_D A (CS D a t) := fun t => CW_D t hD
  have hl := lv_entry ([.ref (a 16), .ref (a 71), .ref (a 73), .ref (a 79)]) (n := 7) (Nat.le_of_ble_eq_true rfl)
  rw [lg_entry_eq]
  generalize (lg_sl ([.ref (a 16), .ref (a 71), .ref (a 73), .ref (a 79)]) ++ List.replicate (7 - (lg_sl ([.ref (a 16), .ref (a 71), .ref (a 73), .ref (a 79)])).length) Slot.unset).toArray = ls at hl ⊢
  have hl : lv_has ls 7 [(0, .ref (a 16)), (1, .ref (a 71)), (2, .ref (a 73)), (3, .ref (a 79))] := hl
  unfold m_x4_refsAre_v2 at h
  refine y_loop (pcJ := 151) (σ := Int32 × MS) (fun n u H locs ls => va_P D vwCl (CS D a u.2) H ∧ va_S A s₀.heap H locs ∧ lv_has ls 7 [(0, .ref (a 16)), (1, .ref (a 71)), (2, .ref (a 73)), (4, .int u.1)] ∧ m_x4_refsAre_v2_L151 n u.1 u.2 = some o) (fun u => []) (fun u H locs ls hI => by obtain ⟨_, _, _, h⟩ := hI; cases h) (fun n151 ih151 u H locs ls hI => ?_) (fun J151 => ?_)
  · obtain ⟨hP, hS, hl, h⟩ := hI
    obtain ⟨x1, s2⟩ := u
    have hP : va_P D vwCl (CS D a s2) H := hP
    have hl : lv_has ls 7 [(0, .ref (a 16)), (1, .ref (a 71)), (2, .ref (a 73)), (4, .int x1)] := hl
    have h : m_x4_refsAre_v2_b151 (m_x4_refsAre_v2_L151 n151) x1 s2 = some o := h
    unfold m_x4_refsAre_v2_b151 at h
    refine lv_iload hx hb dX4_refsAre_151 (lv_at hl 3 rfl) ?_
    refine lv_aload_n hx hb dX4_refsAre_153 rfl (lv_at hl 1 rfl) ?_
    refine va_get (D := D) (ci := 8) (v := .int (gI s2 1420)) (C := RX8) (T := TX8) (N := 11) hx hb ht inX8 hown hK hP 71 CW_71 rfl 0 (by decide) (ht (.fieldLink RX4 51 "CloneVolumes$State" "blocks" "I") fl_X4_51) (fun _ h9 => h9) rfl dX4_refsAre_154 ?_
    refine lv_icmp_ge (tgt := 182) hx hb dX4_refsAre_157 (by decide) (fun c3 => ?_) (fun c3 => ?_)
    · have h := if_t c3 h
      refine lv_iconst (v := 1) hx hb dX4_refsAre_182 (by decide) ?_
      obtain rfl := Option.some.inj h
      exact W.zret (v := 1) hx hb hr (by decide) (fun t ht hW => ⟨⟨_, (), rfl, rfl, by rw [ht]; exact hP, va_K.moved hW.alike hK, hDD _⟩, hS.F ht⟩) hS.2.2 dX4_refsAre_183
    · have h := if_f c3 h
      refine lv_aload_n hx hb dX4_refsAre_160 rfl (lv_at hl 0 rfl) ?_
      refine va_get (D := D) (ci := 4) (v := .ref (a 20)) (C := RX4) (T := TX4) (N := 6) hx hb ht inX4 hown hK hP 16 CW_16 rfl 5 (by decide) (ht (.fieldLink RX4 21 "CloneVolumes$Picture" "refs" "[I") fl_X4_21) (fun _ h9 => h9) rfl dX4_refsAre_161 ?_
      refine lv_iload hx hb dX4_refsAre_164 (lv_at hl 3 rfl) ?_
      obtain ⟨y4, ey4, iy4, h⟩ := rdI_e h
      refine ya_iald hx hb hK hP 20 0 CW_20 rfl ey4 iy4 dX4_refsAre_166 ?_
      refine lv_aload_n hx hb dX4_refsAre_167 rfl (lv_at hl 2 rfl) ?_
      refine lv_iload hx hb dX4_refsAre_168 (lv_at hl 3 rfl) ?_
      obtain ⟨y5, ey5, iy5, h⟩ := rdI_e h
      refine ya_iald hx hb hK hP 73 0 CW_73 rfl ey5 iy5 dX4_refsAre_170 ?_
      refine lv_icmp_eq (tgt := 176) hx hb dX4_refsAre_171 (by decide) (fun c6 => ?_) (fun c6 => ?_)
      · have h := if_t c6 h
        refine lv_iinc (v := x1 + 1) (lv' := [(4, .int (x1 + 1)), (0, .ref (a 16)), (1, .ref (a 71)), (2, .ref (a 73))]) hx hb dX4_refsAre_176 hl (k := 3) rfl rfl (by decide) rfl (fun ls hl => ?_)
        refine lv_goto (tgt := 151) hx hb dX4_refsAre_179 (by decide) ?_
        exact ih151 (x1 + 1, s2) _ _ _ ⟨hP, hS, lv_sub hl [1, 2, 3, 0] rfl, h⟩
      · have h := if_f c6 h
        refine lv_iconst (v := 0) hx hb dX4_refsAre_174 (by decide) ?_
        obtain rfl := Option.some.inj h
        exact W.zret (v := 0) hx hb hr (by decide) (fun t ht hW => ⟨⟨_, (), rfl, rfl, by rw [ht]; exact hP, va_K.moved hW.alike hK, hDD _⟩, hS.F ht⟩) hS.2.2 dX4_refsAre_175
  refine y_loop (pcJ := 65) (σ := Int32 × MS) (fun n u H locs ls => va_P D vwCl (CS D a u.2) H ∧ va_S A s₀.heap H locs ∧ lv_has ls 7 [(0, .ref (a 16)), (1, .ref (a 71)), (2, .ref (a 73)), (4, .int u.1)] ∧ m_x4_refsAre_v2_L65 n u.1 u.2 = some o) (fun u => []) (fun u H locs ls hI => by obtain ⟨_, _, _, h⟩ := hI; cases h) (fun n65 ih65 u H locs ls hI => ?_) (fun J65 => ?_)
  · obtain ⟨hP, hS, hl, h⟩ := hI
    obtain ⟨x7, s8⟩ := u
    have hP : va_P D vwCl (CS D a s8) H := hP
    have hl : lv_has ls 7 [(0, .ref (a 16)), (1, .ref (a 71)), (2, .ref (a 73)), (4, .int x7)] := hl
    have h : m_x4_refsAre_v2_b65 (m_x4_refsAre_v2_L65 n65) x7 s8 = some o := h
    unfold m_x4_refsAre_v2_b65 at h
    refine y_loop (pcJ := 107) (σ := Int32 × Int32 × Int32 × MS) (fun n u H locs ls => va_P D vwCl (CS D a u.2.2.2) H ∧ va_S A s₀.heap H locs ∧ lv_has ls 7 [(0, .ref (a 16)), (1, .ref (a 71)), (2, .ref (a 73)), (4, .int u.1), (5, .int u.2.1), (6, .int u.2.2.1)] ∧ m_x4_refsAre_v2_L107 (m_x4_refsAre_v2_L65 n65) n u.1 u.2.1 u.2.2.1 u.2.2.2 = some o) (fun u => []) (fun u H locs ls hI => by obtain ⟨_, _, _, h⟩ := hI; cases h) (fun n107 ih107 u H locs ls hI => ?_) (fun J107 => ?_)
    · obtain ⟨hP, hS, hl, h⟩ := hI
      obtain ⟨x9, x10, x11, s12⟩ := u
      have hP : va_P D vwCl (CS D a s12) H := hP
      have hl : lv_has ls 7 [(0, .ref (a 16)), (1, .ref (a 71)), (2, .ref (a 73)), (4, .int x9), (5, .int x10), (6, .int x11)] := hl
      have h : m_x4_refsAre_v2_b107 (m_x4_refsAre_v2_L65 n65) (m_x4_refsAre_v2_L107 (m_x4_refsAre_v2_L65 n65) n107) x9 x10 x11 s12 = some o := h
      unfold m_x4_refsAre_v2_b107 at h
      refine lv_iload hx hb dX4_refsAre_107 (lv_at hl 5 rfl) ?_
      refine lv_iload hx hb dX4_refsAre_109 (lv_at hl 4 rfl) ?_
      refine lv_icmp_ge (tgt := 142) hx hb dX4_refsAre_111 (by decide) (fun c13 => ?_) (fun c13 => ?_)
      · have h := if_t c13 h
        refine lv_iinc (v := x9 + 1) (lv' := [(4, .int (x9 + 1)), (0, .ref (a 16)), (1, .ref (a 71)), (2, .ref (a 73)), (5, .int x10), (6, .int x11)]) hx hb dX4_refsAre_142 hl (k := 3) rfl rfl (by decide) rfl (fun ls hl => ?_)
        refine lv_goto (tgt := 65) hx hb dX4_refsAre_145 (by decide) ?_
        exact ih65 (x9 + 1, s12) _ _ _ ⟨hP, hS, lv_sub hl [1, 2, 3, 0] rfl, h⟩
      · have h := if_f c13 h
        refine lv_aload_n hx hb dX4_refsAre_114 rfl (lv_at hl 0 rfl) ?_
        refine va_get (D := D) (ci := 4) (v := .ref (a 20)) (C := RX4) (T := TX4) (N := 6) hx hb ht inX4 hown hK hP 16 CW_16 rfl 5 (by decide) (ht (.fieldLink RX4 21 "CloneVolumes$Picture" "refs" "[I") fl_X4_21) (fun _ h9 => h9) rfl dX4_refsAre_115 ?_
        refine lv_aload_n hx hb dX4_refsAre_118 rfl (lv_at hl 1 rfl) ?_
        refine va_get (D := D) (ci := 8) (v := .ref (a 77)) (C := RX8) (T := TX8) (N := 11) hx hb ht inX8 hown hK hP 71 CW_71 rfl 8 (by decide) (ht (.fieldLink RX4 84 "CloneVolumes$State" "values" "[I") fl_X4_84) (fun _ h9 => h9) rfl dX4_refsAre_119 ?_
        refine lv_aload_n hx hb dX4_refsAre_122 rfl (lv_at hl 1 rfl) ?_
        refine lv_iload hx hb dX4_refsAre_123 (lv_at hl 3 rfl) ?_
        refine lv_iload hx hb dX4_refsAre_125 (lv_at hl 5 rfl) ?_
        obtain ⟨r15, hc14, h⟩ := bn_e h
        refine ycV (As := [.int x9, .int x11]) (rest := [.ref (a 77), .ref (a 20)]) (C := RX8) (n := 2) ⟨hx, hb, hml, hown, ht⟩ (k_x8_slot_v2 l D a x9 x11 _ _ hc14) (zgV ml_X4_80 im_X8_slot se_X8_slot in_X8 co_X8_slot) rfl rfl (by decide +kernel) ⟨Nat.le_of_ble_eq_true rfl, Nat.le_of_ble_eq_true rfl⟩ hN hK hP hS 71 CW_71 rfl rfl rfl hl.1 rfl (Nat.le_of_ble_eq_true rfl) dX4_refsAre_127 ⟨Nat.le_of_ble_eq_true rfl, Nat.le_of_ble_eq_true rfl⟩ (fun H locs hP hS => ?_)
        obtain ⟨y16, ey16, iy16, h⟩ := rdI_e h
        refine ya_iald hx hb hK hP 77 0 CW_77 rfl ey16 iy16 dX4_refsAre_130 ?_
        refine lv_dup2_11 hx hb dX4_refsAre_131 rfl rfl ?_
        obtain ⟨y17, ey17, iy17, h⟩ := rdI_e h
        refine ya_iald hx hb hK hP 20 0 CW_20 rfl ey17 iy17 dX4_refsAre_132 ?_
        refine lv_iconst (v := 1) hx hb dX4_refsAre_133 (by decide) ?_
        refine lv_iadd hx hb dX4_refsAre_134 ?_
        obtain ⟨hi18, h⟩ := inb_e h
        refine ya_iast hx hb hK hP (hDD _) hS 20 0 CW_20 rfl hi18 dX4_refsAre_135 (CW_w20 _) (fun H locs hP hS => ?_)
        obtain ⟨s19, hs19, h⟩ := st_e h
        rw [hs19] at hP
        refine lv_iinc (v := x11 + 1) (lv' := [(6, .int (x11 + 1)), (0, .ref (a 16)), (1, .ref (a 71)), (2, .ref (a 73)), (4, .int x9), (5, .int x10)]) hx hb dX4_refsAre_136 hl (k := 5) rfl rfl (by decide) rfl (fun ls hl => ?_)
        refine lv_goto (tgt := 107) hx hb dX4_refsAre_139 (by decide) ?_
        exact ih107 (x9, x10, x11 + 1, s19) _ _ _ ⟨hP, hS, lv_sub hl [1, 2, 3, 4, 5, 0] rfl, h⟩
    refine y_head (pcJ := 102) (σ := Int32 × Int32 × MS) (fun u H locs ls => va_P D vwCl (CS D a u.2.2) H ∧ va_S A s₀.heap H locs ∧ lv_has ls 7 [(0, .ref (a 16)), (1, .ref (a 71)), (2, .ref (a 73)), (4, .int u.1)] ∧ m_x4_refsAre_v2_J102 (m_x4_refsAre_v2_L65 n65) u.1 u.2.1 u.2.2 = some o) (fun u => [.int u.2.1]) (fun u H locs ls hI => ?_) (fun J102 => ?_)
    · obtain ⟨hP, hS, hl, h⟩ := hI
      obtain ⟨x20, x21, s22⟩ := u
      have hP : va_P D vwCl (CS D a s22) H := hP
      have hl : lv_has ls 7 [(0, .ref (a 16)), (1, .ref (a 71)), (2, .ref (a 73)), (4, .int x20)] := hl
      have h : m_x4_refsAre_v2_J102 (m_x4_refsAre_v2_L65 n65) x20 x21 s22 = some o := h
      unfold m_x4_refsAre_v2_J102 at h
      refine lv_istore (lv' := [(5, .int x21), (0, .ref (a 16)), (1, .ref (a 71)), (2, .ref (a 73)), (4, .int x20)]) hx hb dX4_refsAre_102 hl (by decide) rfl (fun ls hl => ?_)
      refine lv_iconst (v := 0) hx hb dX4_refsAre_104 (by decide) ?_
      refine lv_istore (lv' := [(6, .int 0), (5, .int x21), (0, .ref (a 16)), (1, .ref (a 71)), (2, .ref (a 73)), (4, .int x20)]) hx hb dX4_refsAre_105 hl (by decide) rfl (fun ls hl => ?_)
      exact J107 FU (x20, x21, 0, s22) _ _ _ ⟨hP, hS, lv_sub hl [2, 3, 4, 5, 1, 0] rfl, h⟩
    refine y_head (pcJ := 101) (σ := Int32 × MS) (fun u H locs ls => va_P D vwCl (CS D a u.2) H ∧ va_S A s₀.heap H locs ∧ lv_has ls 7 [(0, .ref (a 16)), (1, .ref (a 71)), (2, .ref (a 73)), (4, .int u.1)] ∧ m_x4_refsAre_v2_J101 (m_x4_refsAre_v2_L65 n65) u.1 u.2 = some o) (fun u => []) (fun u H locs ls hI => ?_) (fun J101 => ?_)
    · obtain ⟨hP, hS, hl, h⟩ := hI
      obtain ⟨x23, s24⟩ := u
      have hP : va_P D vwCl (CS D a s24) H := hP
      have hl : lv_has ls 7 [(0, .ref (a 16)), (1, .ref (a 71)), (2, .ref (a 73)), (4, .int x23)] := hl
      have h : m_x4_refsAre_v2_J101 (m_x4_refsAre_v2_L65 n65) x23 s24 = some o := h
      unfold m_x4_refsAre_v2_J101 at h
      refine lv_iconst (v := 0) hx hb dX4_refsAre_101 (by decide) ?_
      exact J102 (x23, 0, s24) _ _ _ ⟨hP, hS, lv_sub hl [0, 1, 2, 3] rfl, h⟩
    refine lv_iload hx hb dX4_refsAre_65 (lv_at hl 3 rfl) ?_
    refine lv_aload_n hx hb dX4_refsAre_67 rfl (lv_at hl 1 rfl) ?_
    refine va_get (D := D) (ci := 8) (v := .int (gI s8 1420)) (C := RX8) (T := TX8) (N := 11) hx hb ht inX8 hown hK hP 71 CW_71 rfl 0 (by decide) (ht (.fieldLink RX4 51 "CloneVolumes$State" "blocks" "I") fl_X4_51) (fun _ h9 => h9) rfl dX4_refsAre_68 ?_
    refine lv_icmp_ge (tgt := 148) hx hb dX4_refsAre_71 (by decide) (fun c25 => ?_) (fun c25 => ?_)
    · have h := if_t c25 h
      refine lv_iconst (v := 0) hx hb dX4_refsAre_148 (by decide) ?_
      refine lv_istore (lv' := [(4, .int 0), (0, .ref (a 16)), (1, .ref (a 71)), (2, .ref (a 73))]) hx hb dX4_refsAre_149 hl (by decide) rfl (fun ls hl => ?_)
      exact J151 FU (0, s8) _ _ _ ⟨hP, hS, lv_sub hl [1, 2, 3, 0] rfl, h⟩
    · have h := if_f c25 h
      refine lv_aload_n hx hb dX4_refsAre_74 rfl (lv_at hl 2 rfl) ?_
      refine lv_iload hx hb dX4_refsAre_75 (lv_at hl 3 rfl) ?_
      obtain ⟨y26, ey26, iy26, h⟩ := rdI_e h
      refine ya_iald hx hb hK hP 73 0 CW_73 rfl ey26 iy26 dX4_refsAre_77 ?_
      refine lv_if_le (tgt := 101) hx hb dX4_refsAre_78 (by decide) (fun c27 => ?_) (fun c27 => ?_)
      · have h := if_t c27 h
        exact J101 (x7, s8) _ _ _ ⟨hP, hS, lv_sub hl [0, 1, 2, 3] rfl, h⟩
      · have h := if_f c27 h
        refine lv_aload_n hx hb dX4_refsAre_81 rfl (lv_at hl 1 rfl) ?_
        refine va_get (D := D) (ci := 8) (v := .ref (a 74)) (C := RX8) (T := TX8) (N := 11) hx hb ht inX8 hown hK hP 71 CW_71 rfl 5 (by decide) (ht (.fieldLink RX4 72 "CloneVolumes$State" "level" "[I") fl_X4_72) (fun _ h9 => h9) rfl dX4_refsAre_82 ?_
        refine lv_iload hx hb dX4_refsAre_85 (lv_at hl 3 rfl) ?_
        obtain ⟨y28, ey28, iy28, h⟩ := rdI_e h
        refine ya_iald hx hb hK hP 74 0 CW_74 rfl ey28 iy28 dX4_refsAre_87 ?_
        refine lv_if_le (tgt := 101) hx hb dX4_refsAre_88 (by decide) (fun c29 => ?_) (fun c29 => ?_)
        · have h := if_t c29 h
          exact J101 (x7, s8) _ _ _ ⟨hP, hS, lv_sub hl [0, 1, 2, 3] rfl, h⟩
        · have h := if_f c29 h
          refine lv_aload_n hx hb dX4_refsAre_91 rfl (lv_at hl 1 rfl) ?_
          refine va_get (D := D) (ci := 8) (v := .ref (a 75)) (C := RX8) (T := TX8) (N := 11) hx hb ht inX8 hown hK hP 71 CW_71 rfl 6 (by decide) (ht (.fieldLink RX4 75 "CloneVolumes$State" "size" "[I") fl_X4_75) (fun _ h9 => h9) rfl dX4_refsAre_92 ?_
          refine lv_iload hx hb dX4_refsAre_95 (lv_at hl 3 rfl) ?_
          obtain ⟨y30, ey30, iy30, h⟩ := rdI_e h
          refine ya_iald hx hb hK hP 75 0 CW_75 rfl ey30 iy30 dX4_refsAre_97 ?_
          refine lv_goto (tgt := 102) hx hb dX4_refsAre_98 (by decide) ?_
          exact J102 (x7, y30, s8) _ _ _ ⟨hP, hS, lv_sub hl [0, 1, 2, 3] rfl, h⟩
  refine y_loop (pcJ := 29) (σ := Int32 × MS) (fun n u H locs ls => va_P D vwCl (CS D a u.2) H ∧ va_S A s₀.heap H locs ∧ lv_has ls 7 [(0, .ref (a 16)), (1, .ref (a 71)), (2, .ref (a 73)), (3, .ref (a 79)), (4, .int u.1)] ∧ m_x4_refsAre_v2_L29 n u.1 u.2 = some o) (fun u => []) (fun u H locs ls hI => by obtain ⟨_, _, _, h⟩ := hI; cases h) (fun n29 ih29 u H locs ls hI => ?_) (fun J29 => ?_)
  · obtain ⟨hP, hS, hl, h⟩ := hI
    obtain ⟨x31, s32⟩ := u
    have hP : va_P D vwCl (CS D a s32) H := hP
    have hl : lv_has ls 7 [(0, .ref (a 16)), (1, .ref (a 71)), (2, .ref (a 73)), (3, .ref (a 79)), (4, .int x31)] := hl
    have h : m_x4_refsAre_v2_b29 (m_x4_refsAre_v2_L29 n29) x31 s32 = some o := h
    unfold m_x4_refsAre_v2_b29 at h
    refine y_head (pcJ := 56) (σ := Int32 × MS) (fun u H locs ls => va_P D vwCl (CS D a u.2) H ∧ va_S A s₀.heap H locs ∧ lv_has ls 7 [(0, .ref (a 16)), (1, .ref (a 71)), (2, .ref (a 73)), (3, .ref (a 79)), (4, .int u.1)] ∧ m_x4_refsAre_v2_J56 (m_x4_refsAre_v2_L29 n29) u.1 u.2 = some o) (fun u => []) (fun u H locs ls hI => ?_) (fun J56 => ?_)
    · obtain ⟨hP, hS, hl, h⟩ := hI
      obtain ⟨x33, s34⟩ := u
      have hP : va_P D vwCl (CS D a s34) H := hP
      have hl : lv_has ls 7 [(0, .ref (a 16)), (1, .ref (a 71)), (2, .ref (a 73)), (3, .ref (a 79)), (4, .int x33)] := hl
      have h : m_x4_refsAre_v2_J56 (m_x4_refsAre_v2_L29 n29) x33 s34 = some o := h
      unfold m_x4_refsAre_v2_J56 at h
      refine lv_iinc (v := x33 + 1) (lv' := [(4, .int (x33 + 1)), (0, .ref (a 16)), (1, .ref (a 71)), (2, .ref (a 73)), (3, .ref (a 79))]) hx hb dX4_refsAre_56 hl (k := 4) rfl rfl (by decide) rfl (fun ls hl => ?_)
      refine lv_goto (tgt := 29) hx hb dX4_refsAre_59 (by decide) ?_
      exact ih29 (x33 + 1, s34) _ _ _ ⟨hP, hS, lv_sub hl [1, 2, 3, 4, 0] rfl, h⟩
    refine lv_iload hx hb dX4_refsAre_29 (lv_at hl 4 rfl) ?_
    refine lv_bipush (v := 8) hx hb dX4_refsAre_31 (by decide) ?_
    refine lv_icmp_ge (tgt := 62) hx hb dX4_refsAre_33 (by decide) (fun c35 => ?_) (fun c35 => ?_)
    · have h := if_t c35 h
      refine lv_iconst (v := 0) hx hb dX4_refsAre_62 (by decide) ?_
      refine lv_istore (lv' := [(4, .int 0), (0, .ref (a 16)), (1, .ref (a 71)), (2, .ref (a 73)), (3, .ref (a 79))]) hx hb dX4_refsAre_63 hl (by decide) rfl (fun ls hl => ?_)
      exact J65 FU (0, s32) _ _ _ ⟨hP, hS, lv_sub hl [1, 2, 3, 0] rfl, h⟩
    · have h := if_f c35 h
      refine lv_aload_n hx hb dX4_refsAre_36 rfl (lv_at hl 3 rfl) ?_
      refine lv_iload hx hb dX4_refsAre_37 (lv_at hl 4 rfl) ?_
      obtain ⟨y36, ey36, iy36, h⟩ := rdI_e h
      refine ya_iald hx hb hK hP 79 0 CW_79 rfl ey36 iy36 dX4_refsAre_39 ?_
      refine lv_if_lt (tgt := 56) hx hb dX4_refsAre_40 (by decide) (fun c37 => ?_) (fun c37 => ?_)
      · have h := if_t c37 h
        exact J56 (x31, s32) _ _ _ ⟨hP, hS, lv_sub hl [0, 1, 2, 3, 4] rfl, h⟩
      · have h := if_f c37 h
        refine lv_aload_n hx hb dX4_refsAre_43 rfl (lv_at hl 0 rfl) ?_
        refine va_get (D := D) (ci := 4) (v := .ref (a 20)) (C := RX4) (T := TX4) (N := 6) hx hb ht inX4 hown hK hP 16 CW_16 rfl 5 (by decide) (ht (.fieldLink RX4 21 "CloneVolumes$Picture" "refs" "[I") fl_X4_21) (fun _ h9 => h9) rfl dX4_refsAre_44 ?_
        refine lv_aload_n hx hb dX4_refsAre_47 rfl (lv_at hl 3 rfl) ?_
        refine lv_iload hx hb dX4_refsAre_48 (lv_at hl 4 rfl) ?_
        obtain ⟨y38, ey38, iy38, h⟩ := rdI_e h
        refine ya_iald hx hb hK hP 79 0 CW_79 rfl ey38 iy38 dX4_refsAre_50 ?_
        refine lv_dup2_11 hx hb dX4_refsAre_51 rfl rfl ?_
        obtain ⟨y39, ey39, iy39, h⟩ := rdI_e h
        refine ya_iald hx hb hK hP 20 0 CW_20 rfl ey39 iy39 dX4_refsAre_52 ?_
        refine lv_iconst (v := 1) hx hb dX4_refsAre_53 (by decide) ?_
        refine lv_iadd hx hb dX4_refsAre_54 ?_
        obtain ⟨hi40, h⟩ := inb_e h
        refine ya_iast hx hb hK hP (hDD _) hS 20 0 CW_20 rfl hi40 dX4_refsAre_55 (CW_w20 _) (fun H locs hP hS => ?_)
        obtain ⟨s41, hs41, h⟩ := st_e h
        rw [hs41] at hP
        exact J56 (x31, s41) _ _ _ ⟨hP, hS, lv_sub hl [0, 1, 2, 3, 4] rfl, h⟩
  refine y_loop (pcJ := 3) (σ := Int32 × MS) (fun n u H locs ls => va_P D vwCl (CS D a u.2) H ∧ va_S A s₀.heap H locs ∧ lv_has ls 7 [(0, .ref (a 16)), (1, .ref (a 71)), (2, .ref (a 73)), (3, .ref (a 79)), (4, .int u.1)] ∧ m_x4_refsAre_v2_L3 n u.1 u.2 = some o) (fun u => []) (fun u H locs ls hI => by obtain ⟨_, _, _, h⟩ := hI; cases h) (fun n3 ih3 u H locs ls hI => ?_) (fun J3 => ?_)
  · obtain ⟨hP, hS, hl, h⟩ := hI
    obtain ⟨x42, s43⟩ := u
    have hP : va_P D vwCl (CS D a s43) H := hP
    have hl : lv_has ls 7 [(0, .ref (a 16)), (1, .ref (a 71)), (2, .ref (a 73)), (3, .ref (a 79)), (4, .int x42)] := hl
    have h : m_x4_refsAre_v2_b3 (m_x4_refsAre_v2_L3 n3) x42 s43 = some o := h
    unfold m_x4_refsAre_v2_b3 at h
    refine lv_iload hx hb dX4_refsAre_3 (lv_at hl 4 rfl) ?_
    refine lv_aload_n hx hb dX4_refsAre_5 rfl (lv_at hl 1 rfl) ?_
    refine va_get (D := D) (ci := 8) (v := .int (gI s43 1420)) (C := RX8) (T := TX8) (N := 11) hx hb ht inX8 hown hK hP 71 CW_71 rfl 0 (by decide) (ht (.fieldLink RX4 51 "CloneVolumes$State" "blocks" "I") fl_X4_51) (fun _ h9 => h9) rfl dX4_refsAre_6 ?_
    refine lv_icmp_ge (tgt := 26) hx hb dX4_refsAre_9 (by decide) (fun c44 => ?_) (fun c44 => ?_)
    · have h := if_t c44 h
      refine lv_iconst (v := 0) hx hb dX4_refsAre_26 (by decide) ?_
      refine lv_istore (lv' := [(4, .int 0), (0, .ref (a 16)), (1, .ref (a 71)), (2, .ref (a 73)), (3, .ref (a 79))]) hx hb dX4_refsAre_27 hl (by decide) rfl (fun ls hl => ?_)
      exact J29 FU (0, s43) _ _ _ ⟨hP, hS, lv_sub hl [1, 2, 3, 4, 0] rfl, h⟩
    · have h := if_f c44 h
      refine lv_aload_n hx hb dX4_refsAre_12 rfl (lv_at hl 0 rfl) ?_
      refine va_get (D := D) (ci := 4) (v := .ref (a 20)) (C := RX4) (T := TX4) (N := 6) hx hb ht inX4 hown hK hP 16 CW_16 rfl 5 (by decide) (ht (.fieldLink RX4 21 "CloneVolumes$Picture" "refs" "[I") fl_X4_21) (fun _ h9 => h9) rfl dX4_refsAre_13 ?_
      refine lv_iload hx hb dX4_refsAre_16 (lv_at hl 4 rfl) ?_
      refine lv_iconst (v := 0) hx hb dX4_refsAre_18 (by decide) ?_
      obtain ⟨hi45, h⟩ := inb_e h
      refine ya_iast hx hb hK hP (hDD _) hS 20 0 CW_20 rfl hi45 dX4_refsAre_19 (CW_w20 _) (fun H locs hP hS => ?_)
      obtain ⟨s46, hs46, h⟩ := st_e h
      rw [hs46] at hP
      refine lv_iinc (v := x42 + 1) (lv' := [(4, .int (x42 + 1)), (0, .ref (a 16)), (1, .ref (a 71)), (2, .ref (a 73)), (3, .ref (a 79))]) hx hb dX4_refsAre_20 hl (k := 4) rfl rfl (by decide) rfl (fun ls hl => ?_)
      refine lv_goto (tgt := 3) hx hb dX4_refsAre_23 (by decide) ?_
      exact ih3 (x42 + 1, s46) _ _ _ ⟨hP, hS, lv_sub hl [1, 2, 3, 4, 0] rfl, h⟩
  refine lv_iconst (v := 0) hx hb dX4_refsAre_0 (by decide) ?_
  refine lv_istore (lv' := [(4, .int 0), (0, .ref (a 16)), (1, .ref (a 71)), (2, .ref (a 73)), (3, .ref (a 79))]) hx hb dX4_refsAre_1 hl (by decide) rfl (fun ls hl => ?_)
  exact J3 FU (0, s) _ _ _ ⟨hP, hS, lv_sub hl [1, 2, 3, 4, 0] rfl, h⟩
def m_x4_isSound_J96 (x1 : Int32) (s2 : MS) : Option (Int32 × MS) :=
  bo x1 (some (x1, s2))
def m_x4_isSound_J95 (s4 : MS) : Option (Int32 × MS) :=
  m_x4_isSound_J96 0 s4
def m_x4_isSound_J47 (lr2 : Int32 → MS → Option (Int32 × MS)) (lr10 : Int32 → Int32 → MS → Option (Int32 × MS)) (x10 : Int32) (x11 : Int32) (s12 : MS) : Option (Int32 × MS) :=
  lr10 x10 (x11 + 1) s12
def m_x4_isSound_b10 (lr2 : Int32 → MS → Option (Int32 × MS)) (lr10 : Int32 → Int32 → MS → Option (Int32 × MS)) (x7 : Int32) (x8 : Int32) (s9 : MS) : Option (Int32 × MS) :=
  if (gI s9 1420) ≤ x8 then lr2 (x7 + 1) s9 else bn (m_x8_isFree_v2 x8 s9) (fun r15 => if r15 = 0 then rdI (gA s9 74) 48 x8 (fun y17 => if y17 = x7 then bn (m_x4_isSoundBlock x8 s9) (fun qr21 => if qr21.1 = 0 then some (0, qr21.2) else m_x4_isSound_J47 lr2 lr10 x7 x8 qr21.2) else m_x4_isSound_J47 lr2 lr10 x7 x8 s9) else m_x4_isSound_J47 lr2 lr10 x7 x8 s9)
def m_x4_isSound_L10 (lr2 : Int32 → MS → Option (Int32 × MS)) (n : Nat) : Int32 → Int32 → MS → Option (Int32 × MS) := lp (fun _ _ _ => none) (m_x4_isSound_b10 lr2) n
def m_x4_isSound_b2 (lr2 : Int32 → MS → Option (Int32 × MS)) (x5 : Int32) (s6 : MS) : Option (Int32 × MS) :=
  if 48 ≤ x5 then bn (m_x4_refsAre s6) (fun qr26 => if qr26.1 = 0 then m_x4_isSound_J95 qr26.2 else bn (m_x4_refsAre_v2 qr26.2) (fun qr30 => if qr30.1 = 0 then m_x4_isSound_J95 qr30.2 else m_x4_isSound_J96 1 qr30.2)) else m_x4_isSound_L10 lr2 FU x5 0 s6
def m_x4_isSound_L2 (n : Nat) : Int32 → MS → Option (Int32 × MS) := lp (fun _ _ => none) (m_x4_isSound_b2) n
def m_x4_isSound (s : MS) : Option (Int32 × MS) :=
  m_x4_isSound_L2 FU 0 s
set_option maxHeartbeats 4000000 in
set_option maxRecDepth 100000 in
theorem k_x4_isSound (l : Launch) (D : va_G) (a : Nat → Nat) (sz : Nat) (s : MS) (o : (Int32 × MS)) (h : m_x4_isSound s = some o) : yWi l yX4_isSound cX4_isSound 4 (some .boolean) { frames := 4, cells := 0, slots := 0, locals := 240 } D sz [.ref (a 16), .ref (a 71)] (CS D a s) (CS D a o.2) o.1 := by
  refine Met.ofW (cc := cX4_isSound) (maxL := 4) (ret := (some .boolean)) (by decide) rfl ?_
  intro p e s₀ m args below meth c s₁ B hml hv
  obtain ⟨rfl, ⟨hsz, hP, hK, hD0⟩, hN⟩ := hv
  have hx := B.exec
  have hb := B.bytes
  have hr := B.returns
  have hts := atoms_spec (ws := wz yX4_isSound cX4_isSound 4 (some .boolean)) B.pre
  have ht : ∀ w ∈ lw_gd, w.before _ s₀ = true := fun w h => hts w (List.mem_cons_of_mem _ h)
  have hown : s₀.vm.findClass RX4 = some m.cls := findClass_of_methodNamed B.named
  have hlocks := B.notSynchronized
  subst hsz
  have hD := hD0.self (sz := s₀.heap.size)
  generalize hAe : va_A (CS D a s) s₀.heap.size = A at hD ⊢
  have hA : ∀ q : Nat, s₀.heap.size ≤ q → A q := fun q h => by rw [← hAe]; exact Or.inr h
  have hS : va_S A s₀.heap s₀.heap [] := va_S.rf
  have hDD : ∀ t : MS, va_D A (CS D a t) := fun t => CW_D t hD
  have hl := lv_entry ([.ref (a 16), .ref (a 71)]) (n := 4) (Nat.le_of_ble_eq_true rfl)
  rw [lg_entry_eq]
  generalize (lg_sl ([.ref (a 16), .ref (a 71)]) ++ List.replicate (4 - (lg_sl ([.ref (a 16), .ref (a 71)])).length) Slot.unset).toArray = ls at hl ⊢
  have hl : lv_has ls 4 [(0, .ref (a 16)), (1, .ref (a 71))] := hl
  unfold m_x4_isSound at h
  refine y_head (pcJ := 96) (σ := Int32 × MS) (fun u H locs ls => va_P D vwCl (CS D a u.2) H ∧ va_S A s₀.heap H locs ∧ lv_has ls 4 [] ∧ m_x4_isSound_J96 u.1 u.2 = some o) (fun u => [.int u.1]) (fun u H locs ls hI => ?_) (fun J96 => ?_)
  · obtain ⟨hP, hS, hl, h⟩ := hI
    obtain ⟨x1, s2⟩ := u
    have hP : va_P D vwCl (CS D a s2) H := hP
    have hl : lv_has ls 4 [] := hl
    have h : m_x4_isSound_J96 x1 s2 = some o := h
    unfold m_x4_isSound_J96 at h
    obtain ⟨hb3, h⟩ := bo_e h
    obtain rfl := Option.some.inj h
    exact W.zret (v := x1) hx hb hr (bo_n hb3) (fun t ht hW => ⟨⟨_, (), rfl, rfl, by rw [ht]; exact hP, va_K.moved hW.alike hK, hDD _⟩, hS.F ht⟩) hS.2.2 dX4_isSound_96
  refine y_head (pcJ := 95) (σ := MS) (fun u H locs ls => va_P D vwCl (CS D a u) H ∧ va_S A s₀.heap H locs ∧ lv_has ls 4 [] ∧ m_x4_isSound_J95 u = some o) (fun u => []) (fun u H locs ls hI => ?_) (fun J95 => ?_)
  · obtain ⟨hP, hS, hl, h⟩ := hI
    obtain ⟨s4, rfl⟩ : ∃ z, z = u := ⟨u, rfl⟩
    have hP : va_P D vwCl (CS D a s4) H := hP
    have hl : lv_has ls 4 [] := hl
    have h : m_x4_isSound_J95 s4 = some o := h
    unfold m_x4_isSound_J95 at h
    refine lv_iconst (v := 0) hx hb dX4_isSound_95 (by decide) ?_
    exact J96 (0, s4) _ _ _ ⟨hP, hS, lv_sub hl [] rfl, h⟩
  refine y_loop (pcJ := 2) (σ := Int32 × MS) (fun n u H locs ls => va_P D vwCl (CS D a u.2) H ∧ va_S A s₀.heap H locs ∧ lv_has ls 4 [(0, .ref (a 16)), (1, .ref (a 71)), (2, .int u.1)] ∧ m_x4_isSound_L2 n u.1 u.2 = some o) (fun u => []) (fun u H locs ls hI => by obtain ⟨_, _, _, h⟩ := hI; cases h) (fun n2 ih2 u H locs ls hI => ?_) (fun J2 => ?_)
  · obtain ⟨hP, hS, hl, h⟩ := hI
    obtain ⟨x5, s6⟩ := u
    have hP : va_P D vwCl (CS D a s6) H := hP
    have hl : lv_has ls 4 [(0, .ref (a 16)), (1, .ref (a 71)), (2, .int x5)] := hl
    have h : m_x4_isSound_b2 (m_x4_isSound_L2 n2) x5 s6 = some o := h
    unfold m_x4_isSound_b2 at h
    refine y_loop (pcJ := 10) (σ := Int32 × Int32 × MS) (fun n u H locs ls => va_P D vwCl (CS D a u.2.2) H ∧ va_S A s₀.heap H locs ∧ lv_has ls 4 [(0, .ref (a 16)), (1, .ref (a 71)), (2, .int u.1), (3, .int u.2.1)] ∧ m_x4_isSound_L10 (m_x4_isSound_L2 n2) n u.1 u.2.1 u.2.2 = some o) (fun u => []) (fun u H locs ls hI => by obtain ⟨_, _, _, h⟩ := hI; cases h) (fun n10 ih10 u H locs ls hI => ?_) (fun J10 => ?_)
    · obtain ⟨hP, hS, hl, h⟩ := hI
      obtain ⟨x7, x8, s9⟩ := u
      have hP : va_P D vwCl (CS D a s9) H := hP
      have hl : lv_has ls 4 [(0, .ref (a 16)), (1, .ref (a 71)), (2, .int x7), (3, .int x8)] := hl
      have h : m_x4_isSound_b10 (m_x4_isSound_L2 n2) (m_x4_isSound_L10 (m_x4_isSound_L2 n2) n10) x7 x8 s9 = some o := h
      unfold m_x4_isSound_b10 at h
      refine y_head (pcJ := 47) (σ := Int32 × Int32 × MS) (fun u H locs ls => va_P D vwCl (CS D a u.2.2) H ∧ va_S A s₀.heap H locs ∧ lv_has ls 4 [(0, .ref (a 16)), (1, .ref (a 71)), (2, .int u.1), (3, .int u.2.1)] ∧ m_x4_isSound_J47 (m_x4_isSound_L2 n2) (m_x4_isSound_L10 (m_x4_isSound_L2 n2) n10) u.1 u.2.1 u.2.2 = some o) (fun u => []) (fun u H locs ls hI => ?_) (fun J47 => ?_)
      · obtain ⟨hP, hS, hl, h⟩ := hI
        obtain ⟨x10, x11, s12⟩ := u
        have hP : va_P D vwCl (CS D a s12) H := hP
        have hl : lv_has ls 4 [(0, .ref (a 16)), (1, .ref (a 71)), (2, .int x10), (3, .int x11)] := hl
        have h : m_x4_isSound_J47 (m_x4_isSound_L2 n2) (m_x4_isSound_L10 (m_x4_isSound_L2 n2) n10) x10 x11 s12 = some o := h
        unfold m_x4_isSound_J47 at h
        refine lv_iinc (v := x11 + 1) (lv' := [(3, .int (x11 + 1)), (0, .ref (a 16)), (1, .ref (a 71)), (2, .int x10)]) hx hb dX4_isSound_47 hl (k := 3) rfl rfl (by decide) rfl (fun ls hl => ?_)
        refine lv_goto (tgt := 10) hx hb dX4_isSound_50 (by decide) ?_
        exact ih10 (x10, x11 + 1, s12) _ _ _ ⟨hP, hS, lv_sub hl [1, 2, 3, 0] rfl, h⟩
      refine lv_iload_n hx hb dX4_isSound_10 rfl (lv_at hl 3 rfl) ?_
      refine lv_aload_n hx hb dX4_isSound_11 rfl (lv_at hl 1 rfl) ?_
      refine va_get (D := D) (ci := 8) (v := .int (gI s9 1420)) (C := RX8) (T := TX8) (N := 11) hx hb ht inX8 hown hK hP 71 CW_71 rfl 0 (by decide) (ht (.fieldLink RX4 51 "CloneVolumes$State" "blocks" "I") fl_X4_51) (fun _ h9 => h9) rfl dX4_isSound_12 ?_
      refine lv_icmp_ge (tgt := 53) hx hb dX4_isSound_15 (by decide) (fun c13 => ?_) (fun c13 => ?_)
      · have h := if_t c13 h
        refine lv_iinc (v := x7 + 1) (lv' := [(2, .int (x7 + 1)), (0, .ref (a 16)), (1, .ref (a 71)), (3, .int x8)]) hx hb dX4_isSound_53 hl (k := 2) rfl rfl (by decide) rfl (fun ls hl => ?_)
        refine lv_goto (tgt := 2) hx hb dX4_isSound_56 (by decide) ?_
        exact ih2 (x7 + 1, s9) _ _ _ ⟨hP, hS, lv_sub hl [1, 2, 0] rfl, h⟩
      · have h := if_f c13 h
        refine lv_aload_n hx hb dX4_isSound_18 rfl (lv_at hl 1 rfl) ?_
        refine lv_iload_n hx hb dX4_isSound_19 rfl (lv_at hl 3 rfl) ?_
        obtain ⟨r15, hc14, h⟩ := bn_e h
        refine ycV (As := [.int x8]) (rest := []) (C := RX8) (n := 1) ⟨hx, hb, hml, hown, ht⟩ (k_x8_isFree_v2 l D a x8 _ _ hc14) (zgV ml_X4_60 im_X8_isFree se_X8_isFree in_X8 co_X8_isFree) rfl rfl (by decide +kernel) ⟨Nat.le_of_ble_eq_true rfl, Nat.le_of_ble_eq_true rfl⟩ hN hK hP hS 71 CW_71 rfl rfl rfl hl.1 rfl (Nat.le_of_ble_eq_true rfl) dX4_isSound_20 ⟨Nat.le_of_ble_eq_true rfl, Nat.le_of_ble_eq_true rfl⟩ (fun H locs hP hS => ?_)
        refine lv_if_ne (tgt := 47) hx hb dX4_isSound_23 (by decide) (fun c16 => ?_) (fun c16 => ?_)
        · have h := if_f c16 h
          exact J47 (x7, x8, s9) _ _ _ ⟨hP, hS, lv_sub hl [0, 1, 2, 3] rfl, h⟩
        · have h := if_t c16 h
          refine lv_aload_n hx hb dX4_isSound_26 rfl (lv_at hl 1 rfl) ?_
          refine va_get (D := D) (ci := 8) (v := .ref (a 74)) (C := RX8) (T := TX8) (N := 11) hx hb ht inX8 hown hK hP 71 CW_71 rfl 5 (by decide) (ht (.fieldLink RX4 72 "CloneVolumes$State" "level" "[I") fl_X4_72) (fun _ h9 => h9) rfl dX4_isSound_27 ?_
          refine lv_iload_n hx hb dX4_isSound_30 rfl (lv_at hl 3 rfl) ?_
          obtain ⟨y17, ey17, iy17, h⟩ := rdI_e h
          refine ya_iald hx hb hK hP 74 0 CW_74 rfl ey17 iy17 dX4_isSound_31 ?_
          refine lv_iload_n hx hb dX4_isSound_32 rfl (lv_at hl 2 rfl) ?_
          refine lv_icmp_ne (tgt := 47) hx hb dX4_isSound_33 (by decide) (fun c18 => ?_) (fun c18 => ?_)
          · have h := if_f c18 h
            exact J47 (x7, x8, s9) _ _ _ ⟨hP, hS, lv_sub hl [0, 1, 2, 3] rfl, h⟩
          · have h := if_t c18 h
            refine lv_aload_n hx hb dX4_isSound_36 rfl (lv_at hl 0 rfl) ?_
            refine lv_aload_n hx hb dX4_isSound_37 rfl (lv_at hl 1 rfl) ?_
            refine lv_iload_n hx hb dX4_isSound_38 rfl (lv_at hl 3 rfl) ?_
            obtain ⟨⟨r21, s20⟩, hc19, h⟩ := bn_e h
            refine ywV (r0 := r21) (As := [.ref (a 71), .int x8]) (rest := []) (C := RX4) (n := 2) (ws' := CS D a s20) ⟨hx, hb, hml, hown, ht⟩ (k_x4_isSoundBlock l D a x8 _ _ _ hc19) (zgV ml_X4_128 im_X4_isSoundBlock se_X4_isSoundBlock in_X4 co_X4_isSoundBlock) rfl rfl (by decide +kernel) ⟨Nat.le_of_ble_eq_true rfl, Nat.le_of_ble_eq_true rfl⟩ hN hK hP (hDD _) hS hA 16 CW_16 rfl rfl rfl hl.1 rfl (Nat.le_of_ble_eq_true rfl) dX4_isSound_39 ⟨Nat.le_of_ble_eq_true rfl, Nat.le_of_ble_eq_true rfl⟩ (fun H locs hP hS => ?_)
            refine lv_if_ne (tgt := 47) hx hb dX4_isSound_42 (by decide) (fun c22 => ?_) (fun c22 => ?_)
            · have h := if_f c22 h
              exact J47 (x7, x8, s20) _ _ _ ⟨hP, hS, lv_sub hl [0, 1, 2, 3] rfl, h⟩
            · have h := if_t c22 h
              refine lv_iconst (v := 0) hx hb dX4_isSound_45 (by decide) ?_
              obtain rfl := Option.some.inj h
              exact W.zret (v := 0) hx hb hr (by decide) (fun t ht hW => ⟨⟨_, (), rfl, rfl, by rw [ht]; exact hP, va_K.moved hW.alike hK, hDD _⟩, hS.F ht⟩) hS.2.2 dX4_isSound_46
    refine lv_iload_n hx hb dX4_isSound_2 rfl (lv_at hl 2 rfl) ?_
    refine lv_bipush (v := 48) hx hb dX4_isSound_3 (by decide) ?_
    refine lv_icmp_ge (tgt := 59) hx hb dX4_isSound_5 (by decide) (fun c23 => ?_) (fun c23 => ?_)
    · have h := if_t c23 h
      refine lv_aload_n hx hb dX4_isSound_59 rfl (lv_at hl 0 rfl) ?_
      refine lv_aload_n hx hb dX4_isSound_60 rfl (lv_at hl 1 rfl) ?_
      refine lv_aload_n hx hb dX4_isSound_61 rfl (lv_at hl 1 rfl) ?_
      refine va_get (D := D) (ci := 8) (v := .ref (a 72)) (C := RX8) (T := TX8) (N := 11) hx hb ht inX8 hown hK hP 71 CW_71 rfl 3 (by decide) (ht (.fieldLink RX4 54 "CloneVolumes$State" "count" "[I") fl_X4_54) (fun _ h9 => h9) rfl dX4_isSound_62 ?_
      refine lv_aload_n hx hb dX4_isSound_65 rfl (lv_at hl 1 rfl) ?_
      refine va_get (D := D) (ci := 8) (v := .ref (a 78)) (C := RX8) (T := TX8) (N := 11) hx hb ht inX8 hown hK hP 71 CW_71 rfl 9 (by decide) (ht (.fieldLink RX4 41 "CloneVolumes$State" "roots" "[I") fl_X4_41) (fun _ h9 => h9) rfl dX4_isSound_66 ?_
      obtain ⟨⟨r26, s25⟩, hc24, h⟩ := bn_e h
      refine ywV (r0 := r26) (As := [.ref (a 71), .ref (a 72), .ref (a 78)]) (rest := []) (C := RX4) (n := 3) (ws' := CS D a s25) ⟨hx, hb, hml, hown, ht⟩ (k_x4_refsAre l D a _ _ _ hc24) (zgV ml_X4_132 im_X4_refsAre se_X4_refsAre in_X4 co_X4_refsAre) rfl rfl (by decide +kernel) ⟨Nat.le_of_ble_eq_true rfl, Nat.le_of_ble_eq_true rfl⟩ hN hK hP (hDD _) hS hA 16 CW_16 rfl rfl rfl hl.1 rfl (Nat.le_of_ble_eq_true rfl) dX4_isSound_69 ⟨Nat.le_of_ble_eq_true rfl, Nat.le_of_ble_eq_true rfl⟩ (fun H locs hP hS => ?_)
      refine lv_if_eq (tgt := 95) hx hb dX4_isSound_72 (by decide) (fun c27 => ?_) (fun c27 => ?_)
      · have h := if_t c27 h
        exact J95 s25 _ _ _ ⟨hP, hS, lv_sub hl [] rfl, h⟩
      · have h := if_f c27 h
        refine lv_aload_n hx hb dX4_isSound_75 rfl (lv_at hl 0 rfl) ?_
        refine lv_aload_n hx hb dX4_isSound_76 rfl (lv_at hl 1 rfl) ?_
        refine lv_aload_n hx hb dX4_isSound_77 rfl (lv_at hl 1 rfl) ?_
        refine va_get (D := D) (ci := 8) (v := .ref (a 73)) (C := RX8) (T := TX8) (N := 11) hx hb ht inX8 hown hK hP 71 CW_71 rfl 4 (by decide) (ht (.fieldLink RX4 57 "CloneVolumes$State" "saved" "[I") fl_X4_57) (fun _ h9 => h9) rfl dX4_isSound_78 ?_
        refine lv_aload_n hx hb dX4_isSound_81 rfl (lv_at hl 1 rfl) ?_
        refine va_get (D := D) (ci := 8) (v := .ref (a 79)) (C := RX8) (T := TX8) (N := 11) hx hb ht inX8 hown hK hP 71 CW_71 rfl 10 (by decide) (ht (.fieldLink RX4 48 "CloneVolumes$State" "savedRoots" "[I") fl_X4_48) (fun _ h9 => h9) rfl dX4_isSound_82 ?_
        obtain ⟨⟨r30, s29⟩, hc28, h⟩ := bn_e h
        refine ywV (r0 := r30) (As := [.ref (a 71), .ref (a 73), .ref (a 79)]) (rest := []) (C := RX4) (n := 3) (ws' := CS D a s29) ⟨hx, hb, hml, hown, ht⟩ (k_x4_refsAre_v2 l D a _ _ _ hc28) (zgV ml_X4_132 im_X4_refsAre se_X4_refsAre in_X4 co_X4_refsAre) rfl rfl (by decide +kernel) ⟨Nat.le_of_ble_eq_true rfl, Nat.le_of_ble_eq_true rfl⟩ hN hK hP (hDD _) hS hA 16 CW_16 rfl rfl rfl hl.1 rfl (Nat.le_of_ble_eq_true rfl) dX4_isSound_85 ⟨Nat.le_of_ble_eq_true rfl, Nat.le_of_ble_eq_true rfl⟩ (fun H locs hP hS => ?_)
        refine lv_if_eq (tgt := 95) hx hb dX4_isSound_88 (by decide) (fun c31 => ?_) (fun c31 => ?_)
        · have h := if_t c31 h
          exact J95 s29 _ _ _ ⟨hP, hS, lv_sub hl [] rfl, h⟩
        · have h := if_f c31 h
          refine lv_iconst (v := 1) hx hb dX4_isSound_91 (by decide) ?_
          refine lv_goto (tgt := 96) hx hb dX4_isSound_92 (by decide) ?_
          exact J96 (1, s29) _ _ _ ⟨hP, hS, lv_sub hl [] rfl, h⟩
    · have h := if_f c23 h
      refine lv_iconst (v := 0) hx hb dX4_isSound_8 (by decide) ?_
      refine lv_istore_n (lv' := [(3, .int 0), (0, .ref (a 16)), (1, .ref (a 71)), (2, .int x5)]) hx hb dX4_isSound_9 rfl hl (by decide) rfl (fun ls hl => ?_)
      exact J10 FU (x5, 0, s6) _ _ _ ⟨hP, hS, lv_sub hl [1, 2, 3, 0] rfl, h⟩
  refine lv_iconst (v := 0) hx hb dX4_isSound_0 (by decide) ?_
  refine lv_istore_n (lv' := [(2, .int 0), (0, .ref (a 16)), (1, .ref (a 71))]) hx hb dX4_isSound_1 rfl hl (by decide) rfl (fun ls hl => ?_)
  exact J2 FU (0, s) _ _ _ ⟨hP, hS, lv_sub hl [1, 2, 0] rfl, h⟩
def m_x4_next (s : MS) : Option (Int32 × MS) :=
  bn (m_x9_at (gI s 322) s) (fun r2 => stn (sI s 322 ((gI s 322) + 1)) (fun s3 => some (r2, s3)))
set_option maxHeartbeats 4000000 in
set_option maxRecDepth 100000 in
theorem k_x4_next (l : Launch) (D : va_G) (a : Nat → Nat) (sz : Nat) (s : MS) (o : (Int32 × MS)) (h : m_x4_next s = some o) : yWi l yX4_next cX4_next 3 (some .int) { frames := 1, cells := 0, slots := 0, locals := 60 } D sz [.ref (a 16), .ref (a 3)] (CS D a s) (CS D a o.2) o.1 := by
  refine Met.ofW (cc := cX4_next) (maxL := 3) (ret := (some .int)) (by decide) rfl ?_
  intro p e s₀ m args below meth c s₁ B hml hv
  obtain ⟨rfl, ⟨hsz, hP, hK, hD0⟩, hN⟩ := hv
  have hx := B.exec
  have hb := B.bytes
  have hr := B.returns
  have hts := atoms_spec (ws := wz yX4_next cX4_next 3 (some .int)) B.pre
  have ht : ∀ w ∈ lw_gd, w.before _ s₀ = true := fun w h => hts w (List.mem_cons_of_mem _ h)
  have hown : s₀.vm.findClass RX4 = some m.cls := findClass_of_methodNamed B.named
  have hlocks := B.notSynchronized
  subst hsz
  have hD := hD0.self (sz := s₀.heap.size)
  generalize hAe : va_A (CS D a s) s₀.heap.size = A at hD ⊢
  have hA : ∀ q : Nat, s₀.heap.size ≤ q → A q := fun q h => by rw [← hAe]; exact Or.inr h
  have hS : va_S A s₀.heap s₀.heap [] := va_S.rf
  have hDD : ∀ t : MS, va_D A (CS D a t) := fun t => CW_D t hD
  have hl := lv_entry ([.ref (a 16), .ref (a 3)]) (n := 3) (Nat.le_of_ble_eq_true rfl)
  rw [lg_entry_eq]
  generalize (lg_sl ([.ref (a 16), .ref (a 3)]) ++ List.replicate (3 - (lg_sl ([.ref (a 16), .ref (a 3)])).length) Slot.unset).toArray = ls at hl ⊢
  have hl : lv_has ls 3 [(0, .ref (a 16)), (1, .ref (a 3))] := hl
  unfold m_x4_next at h
  refine lv_aload_n hx hb dX4_next_0 rfl (lv_at hl 1 rfl) ?_
  refine lv_aload_n hx hb dX4_next_1 rfl (lv_at hl 0 rfl) ?_
  refine va_get (D := D) (ci := 4) (v := .int (gI s 322)) (C := RX4) (T := TX4) (N := 6) hx hb ht inX4 hown hK hP 16 CW_16 rfl 2 (by decide) (ht (.fieldLink RX4 99 "CloneVolumes$Picture" "at" "I") fl_X4_99) (fun _ h9 => h9) rfl dX4_next_2 ?_
  obtain ⟨r2, hc1, h⟩ := bn_e h
  refine ycV (As := [.int (gI s 322)]) (rest := []) (C := RX9) (n := 1) ⟨hx, hb, hml, hown, ht⟩ (k_x9_at l D a (gI s 322) _ _ hc1) (zgV ml_X4_92 im_X9_at se_X9_at in_X9 co_X9_at) rfl rfl (by decide +kernel) ⟨Nat.le_of_ble_eq_true rfl, Nat.le_of_ble_eq_true rfl⟩ hN hK hP hS 3 CW_3 rfl rfl rfl hl.1 rfl (Nat.le_of_ble_eq_true rfl) dX4_next_5 ⟨Nat.le_of_ble_eq_true rfl, Nat.le_of_ble_eq_true rfl⟩ (fun H locs hP hS => ?_)
  refine lv_istore_n (lv' := [(2, .int r2), (0, .ref (a 16)), (1, .ref (a 3))]) hx hb dX4_next_8 rfl hl (by decide) rfl (fun ls hl => ?_)
  refine lv_aload_n hx hb dX4_next_9 rfl (lv_at hl 1 rfl) ?_
  refine lv_dup hx hb dX4_next_10 rfl ?_
  refine va_get (D := D) (ci := 4) (v := .int (gI s 322)) (C := RX4) (T := TX4) (N := 6) hx hb ht inX4 hown hK hP 16 CW_16 rfl 2 (by decide) (ht (.fieldLink RX4 99 "CloneVolumes$Picture" "at" "I") fl_X4_99) (fun _ h9 => h9) rfl dX4_next_11 ?_
  refine lv_iconst (v := 1) hx hb dX4_next_14 (by decide) ?_
  refine lv_iadd hx hb dX4_next_15 ?_
  refine ya_put (D := D) (ci := 4) (v := .int ((gI s 322) + 1)) (ty := .int) (C := RX4) (T := TX4) (N := 6) hx hb ht inX4 tyX4 tyX4_ok nmX4 hown hK hP (hDD _) hS 16 CW_16 rfl 2 (by decide) (ht (.fieldLink RX4 99 "CloneVolumes$Picture" "at" "I") fl_X4_99) (fun _ h9 => h9) rfl (by decide +kernel) rfl rfl (Nat.le_of_ble_eq_true rfl) dX4_next_16 (CW_w16_2 _) (fun H locs hP hS => ?_)
  obtain ⟨s3, hs3, h⟩ := st_e h
  rw [hs3] at hP
  refine lv_iload_n hx hb dX4_next_19 rfl (lv_at hl 0 rfl) ?_
  obtain rfl := Option.some.inj h
  exact W.iret (v := r2) hx hb hr (fun t ht hW => ⟨⟨_, (), rfl, rfl, by rw [ht]; exact hP, va_K.moved hW.alike hK, hDD _⟩, hS.F ht⟩) hS.2.2 dX4_next_20
def m_x4_nextPair (s : MS) : Option (Int32 × MS) :=
  bn (m_x4_next s) (fun qr3 => bn (m_x4_next qr3.2) (fun qr6 => some ((qr3.1 * 256) + qr6.1, qr6.2)))
set_option maxHeartbeats 4000000 in
set_option maxRecDepth 100000 in
theorem k_x4_nextPair (l : Launch) (D : va_G) (a : Nat → Nat) (sz : Nat) (s : MS) (o : (Int32 × MS)) (h : m_x4_nextPair s = some o) : yWi l yX4_nextPair cX4_nextPair 3 (some .int) { frames := 2, cells := 0, slots := 0, locals := 120 } D sz [.ref (a 16), .ref (a 3)] (CS D a s) (CS D a o.2) o.1 := by
  refine Met.ofW (cc := cX4_nextPair) (maxL := 3) (ret := (some .int)) (by decide) rfl ?_
  intro p e s₀ m args below meth c s₁ B hml hv
  obtain ⟨rfl, ⟨hsz, hP, hK, hD0⟩, hN⟩ := hv
  have hx := B.exec
  have hb := B.bytes
  have hr := B.returns
  have hts := atoms_spec (ws := wz yX4_nextPair cX4_nextPair 3 (some .int)) B.pre
  have ht : ∀ w ∈ lw_gd, w.before _ s₀ = true := fun w h => hts w (List.mem_cons_of_mem _ h)
  have hown : s₀.vm.findClass RX4 = some m.cls := findClass_of_methodNamed B.named
  have hlocks := B.notSynchronized
  subst hsz
  have hD := hD0.self (sz := s₀.heap.size)
  generalize hAe : va_A (CS D a s) s₀.heap.size = A at hD ⊢
  have hA : ∀ q : Nat, s₀.heap.size ≤ q → A q := fun q h => by rw [← hAe]; exact Or.inr h
  have hS : va_S A s₀.heap s₀.heap [] := va_S.rf
  have hDD : ∀ t : MS, va_D A (CS D a t) := fun t => CW_D t hD
  have hl := lv_entry ([.ref (a 16), .ref (a 3)]) (n := 3) (Nat.le_of_ble_eq_true rfl)
  rw [lg_entry_eq]
  generalize (lg_sl ([.ref (a 16), .ref (a 3)]) ++ List.replicate (3 - (lg_sl ([.ref (a 16), .ref (a 3)])).length) Slot.unset).toArray = ls at hl ⊢
  have hl : lv_has ls 3 [(0, .ref (a 16)), (1, .ref (a 3))] := hl
  unfold m_x4_nextPair at h
  refine lv_aload_n hx hb dX4_nextPair_0 rfl (lv_at hl 0 rfl) ?_
  refine lv_aload_n hx hb dX4_nextPair_1 rfl (lv_at hl 1 rfl) ?_
  obtain ⟨⟨r3, s2⟩, hc1, h⟩ := bn_e h
  refine ywV (r0 := r3) (As := [.ref (a 3)]) (rest := []) (C := RX4) (n := 1) (ws' := CS D a s2) ⟨hx, hb, hml, hown, ht⟩ (k_x4_next l D a _ _ _ hc1) (zgV ml_X4_113 im_X4_next se_X4_next in_X4 co_X4_next) rfl rfl (by decide +kernel) ⟨Nat.le_of_ble_eq_true rfl, Nat.le_of_ble_eq_true rfl⟩ hN hK hP (hDD _) hS hA 16 CW_16 rfl rfl rfl hl.1 rfl (Nat.le_of_ble_eq_true rfl) dX4_nextPair_2 ⟨Nat.le_of_ble_eq_true rfl, Nat.le_of_ble_eq_true rfl⟩ (fun H locs hP hS => ?_)
  refine lv_istore_n (lv' := [(2, .int r3), (0, .ref (a 16)), (1, .ref (a 3))]) hx hb dX4_nextPair_5 rfl hl (by decide) rfl (fun ls hl => ?_)
  refine lv_iload_n hx hb dX4_nextPair_6 rfl (lv_at hl 0 rfl) ?_
  refine lv_sipush (v := 256) hx hb dX4_nextPair_7 (by decide) ?_
  refine lv_imul hx hb dX4_nextPair_10 ?_
  refine lv_aload_n hx hb dX4_nextPair_11 rfl (lv_at hl 1 rfl) ?_
  refine lv_aload_n hx hb dX4_nextPair_12 rfl (lv_at hl 2 rfl) ?_
  obtain ⟨⟨r6, s5⟩, hc4, h⟩ := bn_e h
  refine ywV (r0 := r6) (As := [.ref (a 3)]) (rest := [.int (r3 * 256)]) (C := RX4) (n := 1) (ws' := CS D a s5) ⟨hx, hb, hml, hown, ht⟩ (k_x4_next l D a _ _ _ hc4) (zgV ml_X4_113 im_X4_next se_X4_next in_X4 co_X4_next) rfl rfl (by decide +kernel) ⟨Nat.le_of_ble_eq_true rfl, Nat.le_of_ble_eq_true rfl⟩ hN hK hP (hDD _) hS hA 16 CW_16 rfl rfl rfl hl.1 rfl (Nat.le_of_ble_eq_true rfl) dX4_nextPair_13 ⟨Nat.le_of_ble_eq_true rfl, Nat.le_of_ble_eq_true rfl⟩ (fun H locs hP hS => ?_)
  refine lv_iadd hx hb dX4_nextPair_16 ?_
  obtain rfl := Option.some.inj h
  exact W.iret (v := (r3 * 256) + r6) hx hb hr (fun t ht hW => ⟨⟨_, (), rfl, rfl, by rw [ht]; exact hP, va_K.moved hW.alike hK, hDD _⟩, hS.F ht⟩) hS.2.2 dX4_nextPair_17
def m_x4_loadBlock_J202 (lr123 : Int32 → Int32 → Int32 → MS → Option (Int32 × MS)) (x5 : Int32) (x6 : Int32) (x7 : Int32) (s8 : MS) : Option (Int32 × MS) :=
  lr123 x5 x7 (x6 + 1) s8
def m_x4_loadBlock_J201 (lr123 : Int32 → Int32 → Int32 → MS → Option (Int32 × MS)) (x9 : Int32) (x10 : Int32) (s11 : MS) : Option (Int32 × MS) :=
  m_x4_loadBlock_J202 lr123 x9 x10 0 s11
def m_x4_loadBlock_b123 (lr123 : Int32 → Int32 → Int32 → MS → Option (Int32 × MS)) (x1 : Int32) (x2 : Int32) (x3 : Int32) (s4 : MS) : Option (Int32 × MS) :=
  rdI (gA s4 75) 48 x1 (fun y12 => if y12 ≤ x3 then bo x2 (some (x2, s4)) else bn (m_x4_nextPair s4) (fun qr17 => bn (m_x4_nextPair qr17.2) (fun qr20 => bn (m_x8_slot_v2 x1 x3 qr20.2) (fun r22 => inb 288 r22 (stn (sA qr20.2 76 (upd (gA qr20.2 76) (Int32.toNatClampNeg r22) qr17.1)) (fun s24 => bn (m_x8_slot_v2 x1 x3 s24) (fun r26 => inb 288 r26 (stn (sA s24 77 (upd (gA s24 77) (Int32.toNatClampNeg r26) qr20.1)) (fun s28 => if x2 = 0 then m_x4_loadBlock_J201 lr123 x1 x3 s28 else bn (m_x11_isKey qr17.1 s28) (fun r31 => if r31 = 0 then m_x4_loadBlock_J201 lr123 x1 x3 s28 else bn (m_x11_isKey qr20.1 s28) (fun r34 => if r34 = 0 then m_x4_loadBlock_J201 lr123 x1 x3 s28 else m_x4_loadBlock_J202 lr123 x1 x3 1 s28)))))))))))
def m_x4_loadBlock_L123 (n : Nat) : Int32 → Int32 → Int32 → MS → Option (Int32 × MS) := lp (fun _ _ _ _ => none) (m_x4_loadBlock_b123) n
def m_x4_loadBlock_J115 (s36 : MS) : Option (Int32 × MS) :=
  some (0, s36)
def m_x4_loadBlock_J40 (s37 : MS) : Option (Int32 × MS) :=
  some (0, s37)
def m_x4_loadBlock (p2 : Int32) (p3 : Int32) (s : MS) : Option (Int32 × MS) :=
  bn (m_x4_next s) (fun qr40 => inb 48 p2 (stn (sA qr40.2 72 (upd (gA qr40.2 72) (Int32.toNatClampNeg p2) qr40.1)) (fun s42 => bn (m_x4_next s42) (fun qr45 => inb 48 p2 (stn (sA qr45.2 73 (upd (gA qr45.2 73) (Int32.toNatClampNeg p2) qr45.1)) (fun s47 => rdI (gA s47 72) 48 p2 (fun y48 => if y48 < 0 then m_x4_loadBlock_J40 s47 else rdI (gA s47 73) 48 p2 (fun y50 => if 0 ≤ y50 then bn (m_x8_isFree_v2 p2 s47) (fun r53 => if r53 = 0 then bn (m_x4_next s47) (fun qr57 => inb 48 p2 (stn (sA qr57.2 74 (upd (gA qr57.2 74) (Int32.toNatClampNeg p2) qr57.1)) (fun s59 => bn (m_x4_next s59) (fun qr62 => inb 48 p2 (stn (sA qr62.2 75 (upd (gA qr62.2 75) (Int32.toNatClampNeg p2) qr62.1)) (fun s64 => rdI (gA s64 74) 48 p2 (fun y65 => if y65 < 0 then m_x4_loadBlock_J115 s64 else rdI (gA s64 74) 48 p2 (fun y67 => if 48 ≤ y67 then m_x4_loadBlock_J115 s64 else rdI (gA s64 75) 48 p2 (fun y69 => if y69 < 1 then m_x4_loadBlock_J115 s64 else rdI (gA s64 75) 48 p2 (fun y71 => if y71 ≤ p3 then m_x4_loadBlock_L123 FU p2 1 0 s64 else m_x4_loadBlock_J115 s64)))))))))) else some (1, s47)) else m_x4_loadBlock_J40 s47))))))))
set_option maxHeartbeats 4000000 in
set_option maxRecDepth 100000 in
theorem k_x4_loadBlock (l : Launch) (D : va_G) (a : Nat → Nat) (p2 : Int32) (p3 : Int32) (sz : Nat) (s : MS) (o : (Int32 × MS)) (h : m_x4_loadBlock p2 p3 s = some o) : yWi l yX4_loadBlock cX4_loadBlock 9 (some .boolean) { frames := 3, cells := 0, slots := 0, locals := 180 } D sz [.ref (a 16), .ref (a 3), .ref (a 71), .int p2, .int p3] (CS D a s) (CS D a o.2) o.1 := by
  refine Met.ofW (cc := cX4_loadBlock) (maxL := 9) (ret := (some .boolean)) (by decide) rfl ?_
  intro p e s₀ m args below meth c s₁ B hml hv
  obtain ⟨rfl, ⟨hsz, hP, hK, hD0⟩, hN⟩ := hv
  have hx := B.exec
  have hb := B.bytes
  have hr := B.returns
  have hts := atoms_spec (ws := wz yX4_loadBlock cX4_loadBlock 9 (some .boolean)) B.pre
  have ht : ∀ w ∈ lw_gd, w.before _ s₀ = true := fun w h => hts w (List.mem_cons_of_mem _ h)
  have hown : s₀.vm.findClass RX4 = some m.cls := findClass_of_methodNamed B.named
  have hlocks := B.notSynchronized
  subst hsz
  have hD := hD0.self (sz := s₀.heap.size)
  generalize hAe : va_A (CS D a s) s₀.heap.size = A at hD ⊢
  have hA : ∀ q : Nat, s₀.heap.size ≤ q → A q := fun q h => by rw [← hAe]; exact Or.inr h
  have hS : va_S A s₀.heap s₀.heap [] := va_S.rf
  have hDD : ∀ t : MS, va_D A (CS D a t) := fun t => CW_D t hD
  have hl := lv_entry ([.ref (a 16), .ref (a 3), .ref (a 71), .int p2, .int p3]) (n := 9) (Nat.le_of_ble_eq_true rfl)
  rw [lg_entry_eq]
  generalize (lg_sl ([.ref (a 16), .ref (a 3), .ref (a 71), .int p2, .int p3]) ++ List.replicate (9 - (lg_sl ([.ref (a 16), .ref (a 3), .ref (a 71), .int p2, .int p3])).length) Slot.unset).toArray = ls at hl ⊢
  have hl : lv_has ls 9 [(0, .ref (a 16)), (1, .ref (a 3)), (2, .ref (a 71)), (3, .int p2), (4, .int p3)] := hl
  unfold m_x4_loadBlock at h
  refine y_loop (pcJ := 123) (σ := Int32 × Int32 × Int32 × MS) (fun n u H locs ls => va_P D vwCl (CS D a u.2.2.2) H ∧ va_S A s₀.heap H locs ∧ lv_has ls 9 [(0, .ref (a 16)), (1, .ref (a 3)), (2, .ref (a 71)), (3, .int u.1), (5, .int u.2.1), (6, .int u.2.2.1)] ∧ m_x4_loadBlock_L123 n u.1 u.2.1 u.2.2.1 u.2.2.2 = some o) (fun u => []) (fun u H locs ls hI => by obtain ⟨_, _, _, h⟩ := hI; cases h) (fun n123 ih123 u H locs ls hI => ?_) (fun J123 => ?_)
  · obtain ⟨hP, hS, hl, h⟩ := hI
    obtain ⟨x1, x2, x3, s4⟩ := u
    have hP : va_P D vwCl (CS D a s4) H := hP
    have hl : lv_has ls 9 [(0, .ref (a 16)), (1, .ref (a 3)), (2, .ref (a 71)), (3, .int x1), (5, .int x2), (6, .int x3)] := hl
    have h : m_x4_loadBlock_b123 (m_x4_loadBlock_L123 n123) x1 x2 x3 s4 = some o := h
    unfold m_x4_loadBlock_b123 at h
    refine y_head (pcJ := 202) (σ := Int32 × Int32 × Int32 × MS) (fun u H locs ls => va_P D vwCl (CS D a u.2.2.2) H ∧ va_S A s₀.heap H locs ∧ lv_has ls 9 [(0, .ref (a 16)), (1, .ref (a 3)), (2, .ref (a 71)), (3, .int u.1), (6, .int u.2.1)] ∧ m_x4_loadBlock_J202 (m_x4_loadBlock_L123 n123) u.1 u.2.1 u.2.2.1 u.2.2.2 = some o) (fun u => [.int u.2.2.1]) (fun u H locs ls hI => ?_) (fun J202 => ?_)
    · obtain ⟨hP, hS, hl, h⟩ := hI
      obtain ⟨x5, x6, x7, s8⟩ := u
      have hP : va_P D vwCl (CS D a s8) H := hP
      have hl : lv_has ls 9 [(0, .ref (a 16)), (1, .ref (a 3)), (2, .ref (a 71)), (3, .int x5), (6, .int x6)] := hl
      have h : m_x4_loadBlock_J202 (m_x4_loadBlock_L123 n123) x5 x6 x7 s8 = some o := h
      unfold m_x4_loadBlock_J202 at h
      refine lv_istore (lv' := [(5, .int x7), (0, .ref (a 16)), (1, .ref (a 3)), (2, .ref (a 71)), (3, .int x5), (6, .int x6)]) hx hb dX4_loadBlock_202 hl (by decide) rfl (fun ls hl => ?_)
      refine lv_iinc (v := x6 + 1) (lv' := [(6, .int (x6 + 1)), (5, .int x7), (0, .ref (a 16)), (1, .ref (a 3)), (2, .ref (a 71)), (3, .int x5)]) hx hb dX4_loadBlock_204 hl (k := 5) rfl rfl (by decide) rfl (fun ls hl => ?_)
      refine lv_goto (tgt := 123) hx hb dX4_loadBlock_207 (by decide) ?_
      exact ih123 (x5, x7, x6 + 1, s8) _ _ _ ⟨hP, hS, lv_sub hl [2, 3, 4, 5, 1, 0] rfl, h⟩
    refine y_head (pcJ := 201) (σ := Int32 × Int32 × MS) (fun u H locs ls => va_P D vwCl (CS D a u.2.2) H ∧ va_S A s₀.heap H locs ∧ lv_has ls 9 [(0, .ref (a 16)), (1, .ref (a 3)), (2, .ref (a 71)), (3, .int u.1), (6, .int u.2.1)] ∧ m_x4_loadBlock_J201 (m_x4_loadBlock_L123 n123) u.1 u.2.1 u.2.2 = some o) (fun u => []) (fun u H locs ls hI => ?_) (fun J201 => ?_)
    · obtain ⟨hP, hS, hl, h⟩ := hI
      obtain ⟨x9, x10, s11⟩ := u
      have hP : va_P D vwCl (CS D a s11) H := hP
      have hl : lv_has ls 9 [(0, .ref (a 16)), (1, .ref (a 3)), (2, .ref (a 71)), (3, .int x9), (6, .int x10)] := hl
      have h : m_x4_loadBlock_J201 (m_x4_loadBlock_L123 n123) x9 x10 s11 = some o := h
      unfold m_x4_loadBlock_J201 at h
      refine lv_iconst (v := 0) hx hb dX4_loadBlock_201 (by decide) ?_
      exact J202 (x9, x10, 0, s11) _ _ _ ⟨hP, hS, lv_sub hl [0, 1, 2, 3, 4] rfl, h⟩
    refine lv_iload hx hb dX4_loadBlock_123 (lv_at hl 5 rfl) ?_
    refine lv_aload_n hx hb dX4_loadBlock_125 rfl (lv_at hl 2 rfl) ?_
    refine va_get (D := D) (ci := 8) (v := .ref (a 75)) (C := RX8) (T := TX8) (N := 11) hx hb ht inX8 hown hK hP 71 CW_71 rfl 6 (by decide) (ht (.fieldLink RX4 75 "CloneVolumes$State" "size" "[I") fl_X4_75) (fun _ h9 => h9) rfl dX4_loadBlock_126 ?_
    refine lv_iload_n hx hb dX4_loadBlock_129 rfl (lv_at hl 3 rfl) ?_
    obtain ⟨y12, ey12, iy12, h⟩ := rdI_e h
    refine ya_iald hx hb hK hP 75 0 CW_75 rfl ey12 iy12 dX4_loadBlock_130 ?_
    refine lv_icmp_ge (tgt := 210) hx hb dX4_loadBlock_131 (by decide) (fun c13 => ?_) (fun c13 => ?_)
    · have h := if_t c13 h
      refine lv_iload hx hb dX4_loadBlock_210 (lv_at hl 4 rfl) ?_
      obtain ⟨hb14, h⟩ := bo_e h
      obtain rfl := Option.some.inj h
      exact W.zret (v := x2) hx hb hr (bo_n hb14) (fun t ht hW => ⟨⟨_, (), rfl, rfl, by rw [ht]; exact hP, va_K.moved hW.alike hK, hDD _⟩, hS.F ht⟩) hS.2.2 dX4_loadBlock_212
    · have h := if_f c13 h
      refine lv_aload_n hx hb dX4_loadBlock_134 rfl (lv_at hl 0 rfl) ?_
      refine lv_aload_n hx hb dX4_loadBlock_135 rfl (lv_at hl 1 rfl) ?_
      obtain ⟨⟨r17, s16⟩, hc15, h⟩ := bn_e h
      refine ywV (r0 := r17) (As := [.ref (a 3)]) (rest := []) (C := RX4) (n := 1) (ws' := CS D a s16) ⟨hx, hb, hml, hown, ht⟩ (k_x4_nextPair l D a _ _ _ hc15) (zgV ml_X4_118 im_X4_nextPair se_X4_nextPair in_X4 co_X4_nextPair) rfl rfl (by decide +kernel) ⟨Nat.le_of_ble_eq_true rfl, Nat.le_of_ble_eq_true rfl⟩ hN hK hP (hDD _) hS hA 16 CW_16 rfl rfl rfl hl.1 rfl (Nat.le_of_ble_eq_true rfl) dX4_loadBlock_136 ⟨Nat.le_of_ble_eq_true rfl, Nat.le_of_ble_eq_true rfl⟩ (fun H locs hP hS => ?_)
      refine lv_istore (lv' := [(7, .int r17), (0, .ref (a 16)), (1, .ref (a 3)), (2, .ref (a 71)), (3, .int x1), (5, .int x2), (6, .int x3)]) hx hb dX4_loadBlock_139 hl (by decide) rfl (fun ls hl => ?_)
      refine lv_aload_n hx hb dX4_loadBlock_141 rfl (lv_at hl 1 rfl) ?_
      refine lv_aload_n hx hb dX4_loadBlock_142 rfl (lv_at hl 2 rfl) ?_
      obtain ⟨⟨r20, s19⟩, hc18, h⟩ := bn_e h
      refine ywV (r0 := r20) (As := [.ref (a 3)]) (rest := []) (C := RX4) (n := 1) (ws' := CS D a s19) ⟨hx, hb, hml, hown, ht⟩ (k_x4_nextPair l D a _ _ _ hc18) (zgV ml_X4_118 im_X4_nextPair se_X4_nextPair in_X4 co_X4_nextPair) rfl rfl (by decide +kernel) ⟨Nat.le_of_ble_eq_true rfl, Nat.le_of_ble_eq_true rfl⟩ hN hK hP (hDD _) hS hA 16 CW_16 rfl rfl rfl hl.1 rfl (Nat.le_of_ble_eq_true rfl) dX4_loadBlock_143 ⟨Nat.le_of_ble_eq_true rfl, Nat.le_of_ble_eq_true rfl⟩ (fun H locs hP hS => ?_)
      refine lv_istore (lv' := [(8, .int r20), (7, .int r17), (0, .ref (a 16)), (1, .ref (a 3)), (2, .ref (a 71)), (3, .int x1), (5, .int x2), (6, .int x3)]) hx hb dX4_loadBlock_146 hl (by decide) rfl (fun ls hl => ?_)
      refine lv_aload_n hx hb dX4_loadBlock_148 rfl (lv_at hl 4 rfl) ?_
      refine va_get (D := D) (ci := 8) (v := .ref (a 76)) (C := RX8) (T := TX8) (N := 11) hx hb ht inX8 hown hK hP 71 CW_71 rfl 7 (by decide) (ht (.fieldLink RX4 77 "CloneVolumes$State" "keys" "[I") fl_X4_77) (fun _ h9 => h9) rfl dX4_loadBlock_149 ?_
      refine lv_aload_n hx hb dX4_loadBlock_152 rfl (lv_at hl 4 rfl) ?_
      refine lv_iload_n hx hb dX4_loadBlock_153 rfl (lv_at hl 5 rfl) ?_
      refine lv_iload hx hb dX4_loadBlock_154 (lv_at hl 7 rfl) ?_
      obtain ⟨r22, hc21, h⟩ := bn_e h
      refine ycV (As := [.int x1, .int x3]) (rest := [.ref (a 76)]) (C := RX8) (n := 2) ⟨hx, hb, hml, hown, ht⟩ (k_x8_slot_v2 l D a x1 x3 _ _ hc21) (zgV ml_X4_80 im_X8_slot se_X8_slot in_X8 co_X8_slot) rfl rfl (by decide +kernel) ⟨Nat.le_of_ble_eq_true rfl, Nat.le_of_ble_eq_true rfl⟩ hN hK hP hS 71 CW_71 rfl rfl rfl hl.1 rfl (Nat.le_of_ble_eq_true rfl) dX4_loadBlock_156 ⟨Nat.le_of_ble_eq_true rfl, Nat.le_of_ble_eq_true rfl⟩ (fun H locs hP hS => ?_)
      refine lv_iload hx hb dX4_loadBlock_159 (lv_at hl 1 rfl) ?_
      obtain ⟨hi23, h⟩ := inb_e h
      refine ya_iast hx hb hK hP (hDD _) hS 76 0 CW_76 rfl hi23 dX4_loadBlock_161 (CW_w76 _) (fun H locs hP hS => ?_)
      obtain ⟨s24, hs24, h⟩ := st_e h
      rw [hs24] at hP
      refine lv_aload_n hx hb dX4_loadBlock_162 rfl (lv_at hl 4 rfl) ?_
      refine va_get (D := D) (ci := 8) (v := .ref (a 77)) (C := RX8) (T := TX8) (N := 11) hx hb ht inX8 hown hK hP 71 CW_71 rfl 8 (by decide) (ht (.fieldLink RX4 84 "CloneVolumes$State" "values" "[I") fl_X4_84) (fun _ h9 => h9) rfl dX4_loadBlock_163 ?_
      refine lv_aload_n hx hb dX4_loadBlock_166 rfl (lv_at hl 4 rfl) ?_
      refine lv_iload_n hx hb dX4_loadBlock_167 rfl (lv_at hl 5 rfl) ?_
      refine lv_iload hx hb dX4_loadBlock_168 (lv_at hl 7 rfl) ?_
      obtain ⟨r26, hc25, h⟩ := bn_e h
      refine ycV (As := [.int x1, .int x3]) (rest := [.ref (a 77)]) (C := RX8) (n := 2) ⟨hx, hb, hml, hown, ht⟩ (k_x8_slot_v2 l D a x1 x3 _ _ hc25) (zgV ml_X4_80 im_X8_slot se_X8_slot in_X8 co_X8_slot) rfl rfl (by decide +kernel) ⟨Nat.le_of_ble_eq_true rfl, Nat.le_of_ble_eq_true rfl⟩ hN hK hP hS 71 CW_71 rfl rfl rfl hl.1 rfl (Nat.le_of_ble_eq_true rfl) dX4_loadBlock_170 ⟨Nat.le_of_ble_eq_true rfl, Nat.le_of_ble_eq_true rfl⟩ (fun H locs hP hS => ?_)
      refine lv_iload hx hb dX4_loadBlock_173 (lv_at hl 0 rfl) ?_
      obtain ⟨hi27, h⟩ := inb_e h
      refine ya_iast hx hb hK hP (hDD _) hS 77 0 CW_77 rfl hi27 dX4_loadBlock_175 (CW_w77 _) (fun H locs hP hS => ?_)
      obtain ⟨s28, hs28, h⟩ := st_e h
      rw [hs28] at hP
      refine lv_iload hx hb dX4_loadBlock_176 (lv_at hl 6 rfl) ?_
      refine lv_if_eq (tgt := 201) hx hb dX4_loadBlock_178 (by decide) (fun c29 => ?_) (fun c29 => ?_)
      · have h := if_t c29 h
        exact J201 (x1, x3, s28) _ _ _ ⟨hP, hS, lv_sub hl [2, 3, 4, 5, 7] rfl, h⟩
      · have h := if_f c29 h
        refine lv_iload hx hb dX4_loadBlock_181 (lv_at hl 1 rfl) ?_
        obtain ⟨r31, hc30, h⟩ := bn_e h
        refine ycN (As := [.int r17]) (rest := []) (n := 1) ⟨hx, hb, hml, hown, ht⟩ (k_x11_isKey l D a r17 _ _ hc30) co_X11_isKey in_X11 hN st_X11_isKey rfl rfl (by decide +kernel) ⟨Nat.le_of_ble_eq_true rfl, Nat.le_of_ble_eq_true rfl⟩ hN hK hP hS rfl hl.1 rfl (Nat.le_of_ble_eq_true rfl) dX4_loadBlock_183 ⟨Nat.le_of_ble_eq_true rfl, Nat.le_of_ble_eq_true rfl⟩ (fun H locs hP hS => ?_)
        refine lv_if_eq (tgt := 201) hx hb dX4_loadBlock_186 (by decide) (fun c32 => ?_) (fun c32 => ?_)
        · have h := if_t c32 h
          exact J201 (x1, x3, s28) _ _ _ ⟨hP, hS, lv_sub hl [2, 3, 4, 5, 7] rfl, h⟩
        · have h := if_f c32 h
          refine lv_iload hx hb dX4_loadBlock_189 (lv_at hl 0 rfl) ?_
          obtain ⟨r34, hc33, h⟩ := bn_e h
          refine ycN (As := [.int r20]) (rest := []) (n := 1) ⟨hx, hb, hml, hown, ht⟩ (k_x11_isKey l D a r20 _ _ hc33) co_X11_isKey in_X11 hN st_X11_isKey rfl rfl (by decide +kernel) ⟨Nat.le_of_ble_eq_true rfl, Nat.le_of_ble_eq_true rfl⟩ hN hK hP hS rfl hl.1 rfl (Nat.le_of_ble_eq_true rfl) dX4_loadBlock_191 ⟨Nat.le_of_ble_eq_true rfl, Nat.le_of_ble_eq_true rfl⟩ (fun H locs hP hS => ?_)
          refine lv_if_eq (tgt := 201) hx hb dX4_loadBlock_194 (by decide) (fun c35 => ?_) (fun c35 => ?_)
          · have h := if_t c35 h
            exact J201 (x1, x3, s28) _ _ _ ⟨hP, hS, lv_sub hl [2, 3, 4, 5, 7] rfl, h⟩
          · have h := if_f c35 h
            refine lv_iconst (v := 1) hx hb dX4_loadBlock_197 (by decide) ?_
            refine lv_goto (tgt := 202) hx hb dX4_loadBlock_198 (by decide) ?_
            exact J202 (x1, x3, 1, s28) _ _ _ ⟨hP, hS, lv_sub hl [2, 3, 4, 5, 7] rfl, h⟩
  refine y_head (pcJ := 115) (σ := MS) (fun u H locs ls => va_P D vwCl (CS D a u) H ∧ va_S A s₀.heap H locs ∧ lv_has ls 9 [] ∧ m_x4_loadBlock_J115 u = some o) (fun u => []) (fun u H locs ls hI => ?_) (fun J115 => ?_)
  · obtain ⟨hP, hS, hl, h⟩ := hI
    obtain ⟨s36, rfl⟩ : ∃ z, z = u := ⟨u, rfl⟩
    have hP : va_P D vwCl (CS D a s36) H := hP
    have hl : lv_has ls 9 [] := hl
    have h : m_x4_loadBlock_J115 s36 = some o := h
    unfold m_x4_loadBlock_J115 at h
    refine lv_iconst (v := 0) hx hb dX4_loadBlock_115 (by decide) ?_
    obtain rfl := Option.some.inj h
    exact W.zret (v := 0) hx hb hr (by decide) (fun t ht hW => ⟨⟨_, (), rfl, rfl, by rw [ht]; exact hP, va_K.moved hW.alike hK, hDD _⟩, hS.F ht⟩) hS.2.2 dX4_loadBlock_116
  refine y_head (pcJ := 40) (σ := MS) (fun u H locs ls => va_P D vwCl (CS D a u) H ∧ va_S A s₀.heap H locs ∧ lv_has ls 9 [] ∧ m_x4_loadBlock_J40 u = some o) (fun u => []) (fun u H locs ls hI => ?_) (fun J40 => ?_)
  · obtain ⟨hP, hS, hl, h⟩ := hI
    obtain ⟨s37, rfl⟩ : ∃ z, z = u := ⟨u, rfl⟩
    have hP : va_P D vwCl (CS D a s37) H := hP
    have hl : lv_has ls 9 [] := hl
    have h : m_x4_loadBlock_J40 s37 = some o := h
    unfold m_x4_loadBlock_J40 at h
    refine lv_iconst (v := 0) hx hb dX4_loadBlock_40 (by decide) ?_
    obtain rfl := Option.some.inj h
    exact W.zret (v := 0) hx hb hr (by decide) (fun t ht hW => ⟨⟨_, (), rfl, rfl, by rw [ht]; exact hP, va_K.moved hW.alike hK, hDD _⟩, hS.F ht⟩) hS.2.2 dX4_loadBlock_41
  refine lv_aload_n hx hb dX4_loadBlock_0 rfl (lv_at hl 2 rfl) ?_
  refine va_get (D := D) (ci := 8) (v := .ref (a 72)) (C := RX8) (T := TX8) (N := 11) hx hb ht inX8 hown hK hP 71 CW_71 rfl 3 (by decide) (ht (.fieldLink RX4 54 "CloneVolumes$State" "count" "[I") fl_X4_54) (fun _ h9 => h9) rfl dX4_loadBlock_1 ?_
  refine lv_iload_n hx hb dX4_loadBlock_4 rfl (lv_at hl 3 rfl) ?_
  refine lv_aload_n hx hb dX4_loadBlock_5 rfl (lv_at hl 0 rfl) ?_
  refine lv_aload_n hx hb dX4_loadBlock_6 rfl (lv_at hl 1 rfl) ?_
  obtain ⟨⟨r40, s39⟩, hc38, h⟩ := bn_e h
  refine ywV (r0 := r40) (As := [.ref (a 3)]) (rest := [.int p2, .ref (a 72)]) (C := RX4) (n := 1) (ws' := CS D a s39) ⟨hx, hb, hml, hown, ht⟩ (k_x4_next l D a _ _ _ hc38) (zgV ml_X4_113 im_X4_next se_X4_next in_X4 co_X4_next) rfl rfl (by decide +kernel) ⟨Nat.le_of_ble_eq_true rfl, Nat.le_of_ble_eq_true rfl⟩ hN hK hP (hDD _) hS hA 16 CW_16 rfl rfl rfl hl.1 rfl (Nat.le_of_ble_eq_true rfl) dX4_loadBlock_7 ⟨Nat.le_of_ble_eq_true rfl, Nat.le_of_ble_eq_true rfl⟩ (fun H locs hP hS => ?_)
  obtain ⟨hi41, h⟩ := inb_e h
  refine ya_iast hx hb hK hP (hDD _) hS 72 0 CW_72 rfl hi41 dX4_loadBlock_10 (CW_w72 _) (fun H locs hP hS => ?_)
  obtain ⟨s42, hs42, h⟩ := st_e h
  rw [hs42] at hP
  refine lv_aload_n hx hb dX4_loadBlock_11 rfl (lv_at hl 2 rfl) ?_
  refine va_get (D := D) (ci := 8) (v := .ref (a 73)) (C := RX8) (T := TX8) (N := 11) hx hb ht inX8 hown hK hP 71 CW_71 rfl 4 (by decide) (ht (.fieldLink RX4 57 "CloneVolumes$State" "saved" "[I") fl_X4_57) (fun _ h9 => h9) rfl dX4_loadBlock_12 ?_
  refine lv_iload_n hx hb dX4_loadBlock_15 rfl (lv_at hl 3 rfl) ?_
  refine lv_aload_n hx hb dX4_loadBlock_16 rfl (lv_at hl 0 rfl) ?_
  refine lv_aload_n hx hb dX4_loadBlock_17 rfl (lv_at hl 1 rfl) ?_
  obtain ⟨⟨r45, s44⟩, hc43, h⟩ := bn_e h
  refine ywV (r0 := r45) (As := [.ref (a 3)]) (rest := [.int p2, .ref (a 73)]) (C := RX4) (n := 1) (ws' := CS D a s44) ⟨hx, hb, hml, hown, ht⟩ (k_x4_next l D a _ _ _ hc43) (zgV ml_X4_113 im_X4_next se_X4_next in_X4 co_X4_next) rfl rfl (by decide +kernel) ⟨Nat.le_of_ble_eq_true rfl, Nat.le_of_ble_eq_true rfl⟩ hN hK hP (hDD _) hS hA 16 CW_16 rfl rfl rfl hl.1 rfl (Nat.le_of_ble_eq_true rfl) dX4_loadBlock_18 ⟨Nat.le_of_ble_eq_true rfl, Nat.le_of_ble_eq_true rfl⟩ (fun H locs hP hS => ?_)
  obtain ⟨hi46, h⟩ := inb_e h
  refine ya_iast hx hb hK hP (hDD _) hS 73 0 CW_73 rfl hi46 dX4_loadBlock_21 (CW_w73 _) (fun H locs hP hS => ?_)
  obtain ⟨s47, hs47, h⟩ := st_e h
  rw [hs47] at hP
  refine lv_aload_n hx hb dX4_loadBlock_22 rfl (lv_at hl 2 rfl) ?_
  refine va_get (D := D) (ci := 8) (v := .ref (a 72)) (C := RX8) (T := TX8) (N := 11) hx hb ht inX8 hown hK hP 71 CW_71 rfl 3 (by decide) (ht (.fieldLink RX4 54 "CloneVolumes$State" "count" "[I") fl_X4_54) (fun _ h9 => h9) rfl dX4_loadBlock_23 ?_
  refine lv_iload_n hx hb dX4_loadBlock_26 rfl (lv_at hl 3 rfl) ?_
  obtain ⟨y48, ey48, iy48, h⟩ := rdI_e h
  refine ya_iald hx hb hK hP 72 0 CW_72 rfl ey48 iy48 dX4_loadBlock_27 ?_
  refine lv_if_lt (tgt := 40) hx hb dX4_loadBlock_28 (by decide) (fun c49 => ?_) (fun c49 => ?_)
  · have h := if_t c49 h
    exact J40 s47 _ _ _ ⟨hP, hS, lv_sub hl [] rfl, h⟩
  · have h := if_f c49 h
    refine lv_aload_n hx hb dX4_loadBlock_31 rfl (lv_at hl 2 rfl) ?_
    refine va_get (D := D) (ci := 8) (v := .ref (a 73)) (C := RX8) (T := TX8) (N := 11) hx hb ht inX8 hown hK hP 71 CW_71 rfl 4 (by decide) (ht (.fieldLink RX4 57 "CloneVolumes$State" "saved" "[I") fl_X4_57) (fun _ h9 => h9) rfl dX4_loadBlock_32 ?_
    refine lv_iload_n hx hb dX4_loadBlock_35 rfl (lv_at hl 3 rfl) ?_
    obtain ⟨y50, ey50, iy50, h⟩ := rdI_e h
    refine ya_iald hx hb hK hP 73 0 CW_73 rfl ey50 iy50 dX4_loadBlock_36 ?_
    refine lv_if_ge (tgt := 42) hx hb dX4_loadBlock_37 (by decide) (fun c51 => ?_) (fun c51 => ?_)
    · have h := if_t c51 h
      refine lv_aload_n hx hb dX4_loadBlock_42 rfl (lv_at hl 2 rfl) ?_
      refine lv_iload_n hx hb dX4_loadBlock_43 rfl (lv_at hl 3 rfl) ?_
      obtain ⟨r53, hc52, h⟩ := bn_e h
      refine ycV (As := [.int p2]) (rest := []) (C := RX8) (n := 1) ⟨hx, hb, hml, hown, ht⟩ (k_x8_isFree_v2 l D a p2 _ _ hc52) (zgV ml_X4_60 im_X8_isFree se_X8_isFree in_X8 co_X8_isFree) rfl rfl (by decide +kernel) ⟨Nat.le_of_ble_eq_true rfl, Nat.le_of_ble_eq_true rfl⟩ hN hK hP hS 71 CW_71 rfl rfl rfl hl.1 rfl (Nat.le_of_ble_eq_true rfl) dX4_loadBlock_44 ⟨Nat.le_of_ble_eq_true rfl, Nat.le_of_ble_eq_true rfl⟩ (fun H locs hP hS => ?_)
      refine lv_if_eq (tgt := 52) hx hb dX4_loadBlock_47 (by decide) (fun c54 => ?_) (fun c54 => ?_)
      · have h := if_t c54 h
        refine lv_aload_n hx hb dX4_loadBlock_52 rfl (lv_at hl 2 rfl) ?_
        refine va_get (D := D) (ci := 8) (v := .ref (a 74)) (C := RX8) (T := TX8) (N := 11) hx hb ht inX8 hown hK hP 71 CW_71 rfl 5 (by decide) (ht (.fieldLink RX4 72 "CloneVolumes$State" "level" "[I") fl_X4_72) (fun _ h9 => h9) rfl dX4_loadBlock_53 ?_
        refine lv_iload_n hx hb dX4_loadBlock_56 rfl (lv_at hl 3 rfl) ?_
        refine lv_aload_n hx hb dX4_loadBlock_57 rfl (lv_at hl 0 rfl) ?_
        refine lv_aload_n hx hb dX4_loadBlock_58 rfl (lv_at hl 1 rfl) ?_
        obtain ⟨⟨r57, s56⟩, hc55, h⟩ := bn_e h
        refine ywV (r0 := r57) (As := [.ref (a 3)]) (rest := [.int p2, .ref (a 74)]) (C := RX4) (n := 1) (ws' := CS D a s56) ⟨hx, hb, hml, hown, ht⟩ (k_x4_next l D a _ _ _ hc55) (zgV ml_X4_113 im_X4_next se_X4_next in_X4 co_X4_next) rfl rfl (by decide +kernel) ⟨Nat.le_of_ble_eq_true rfl, Nat.le_of_ble_eq_true rfl⟩ hN hK hP (hDD _) hS hA 16 CW_16 rfl rfl rfl hl.1 rfl (Nat.le_of_ble_eq_true rfl) dX4_loadBlock_59 ⟨Nat.le_of_ble_eq_true rfl, Nat.le_of_ble_eq_true rfl⟩ (fun H locs hP hS => ?_)
        obtain ⟨hi58, h⟩ := inb_e h
        refine ya_iast hx hb hK hP (hDD _) hS 74 0 CW_74 rfl hi58 dX4_loadBlock_62 (CW_w74 _) (fun H locs hP hS => ?_)
        obtain ⟨s59, hs59, h⟩ := st_e h
        rw [hs59] at hP
        refine lv_aload_n hx hb dX4_loadBlock_63 rfl (lv_at hl 2 rfl) ?_
        refine va_get (D := D) (ci := 8) (v := .ref (a 75)) (C := RX8) (T := TX8) (N := 11) hx hb ht inX8 hown hK hP 71 CW_71 rfl 6 (by decide) (ht (.fieldLink RX4 75 "CloneVolumes$State" "size" "[I") fl_X4_75) (fun _ h9 => h9) rfl dX4_loadBlock_64 ?_
        refine lv_iload_n hx hb dX4_loadBlock_67 rfl (lv_at hl 3 rfl) ?_
        refine lv_aload_n hx hb dX4_loadBlock_68 rfl (lv_at hl 0 rfl) ?_
        refine lv_aload_n hx hb dX4_loadBlock_69 rfl (lv_at hl 1 rfl) ?_
        obtain ⟨⟨r62, s61⟩, hc60, h⟩ := bn_e h
        refine ywV (r0 := r62) (As := [.ref (a 3)]) (rest := [.int p2, .ref (a 75)]) (C := RX4) (n := 1) (ws' := CS D a s61) ⟨hx, hb, hml, hown, ht⟩ (k_x4_next l D a _ _ _ hc60) (zgV ml_X4_113 im_X4_next se_X4_next in_X4 co_X4_next) rfl rfl (by decide +kernel) ⟨Nat.le_of_ble_eq_true rfl, Nat.le_of_ble_eq_true rfl⟩ hN hK hP (hDD _) hS hA 16 CW_16 rfl rfl rfl hl.1 rfl (Nat.le_of_ble_eq_true rfl) dX4_loadBlock_70 ⟨Nat.le_of_ble_eq_true rfl, Nat.le_of_ble_eq_true rfl⟩ (fun H locs hP hS => ?_)
        obtain ⟨hi63, h⟩ := inb_e h
        refine ya_iast hx hb hK hP (hDD _) hS 75 0 CW_75 rfl hi63 dX4_loadBlock_73 (CW_w75 _) (fun H locs hP hS => ?_)
        obtain ⟨s64, hs64, h⟩ := st_e h
        rw [hs64] at hP
        refine lv_aload_n hx hb dX4_loadBlock_74 rfl (lv_at hl 2 rfl) ?_
        refine va_get (D := D) (ci := 8) (v := .ref (a 74)) (C := RX8) (T := TX8) (N := 11) hx hb ht inX8 hown hK hP 71 CW_71 rfl 5 (by decide) (ht (.fieldLink RX4 72 "CloneVolumes$State" "level" "[I") fl_X4_72) (fun _ h9 => h9) rfl dX4_loadBlock_75 ?_
        refine lv_iload_n hx hb dX4_loadBlock_78 rfl (lv_at hl 3 rfl) ?_
        obtain ⟨y65, ey65, iy65, h⟩ := rdI_e h
        refine ya_iald hx hb hK hP 74 0 CW_74 rfl ey65 iy65 dX4_loadBlock_79 ?_
        refine lv_if_lt (tgt := 115) hx hb dX4_loadBlock_80 (by decide) (fun c66 => ?_) (fun c66 => ?_)
        · have h := if_t c66 h
          exact J115 s64 _ _ _ ⟨hP, hS, lv_sub hl [] rfl, h⟩
        · have h := if_f c66 h
          refine lv_aload_n hx hb dX4_loadBlock_83 rfl (lv_at hl 2 rfl) ?_
          refine va_get (D := D) (ci := 8) (v := .ref (a 74)) (C := RX8) (T := TX8) (N := 11) hx hb ht inX8 hown hK hP 71 CW_71 rfl 5 (by decide) (ht (.fieldLink RX4 72 "CloneVolumes$State" "level" "[I") fl_X4_72) (fun _ h9 => h9) rfl dX4_loadBlock_84 ?_
          refine lv_iload_n hx hb dX4_loadBlock_87 rfl (lv_at hl 3 rfl) ?_
          obtain ⟨y67, ey67, iy67, h⟩ := rdI_e h
          refine ya_iald hx hb hK hP 74 0 CW_74 rfl ey67 iy67 dX4_loadBlock_88 ?_
          refine lv_bipush (v := 48) hx hb dX4_loadBlock_89 (by decide) ?_
          refine lv_icmp_ge (tgt := 115) hx hb dX4_loadBlock_91 (by decide) (fun c68 => ?_) (fun c68 => ?_)
          · have h := if_t c68 h
            exact J115 s64 _ _ _ ⟨hP, hS, lv_sub hl [] rfl, h⟩
          · have h := if_f c68 h
            refine lv_aload_n hx hb dX4_loadBlock_94 rfl (lv_at hl 2 rfl) ?_
            refine va_get (D := D) (ci := 8) (v := .ref (a 75)) (C := RX8) (T := TX8) (N := 11) hx hb ht inX8 hown hK hP 71 CW_71 rfl 6 (by decide) (ht (.fieldLink RX4 75 "CloneVolumes$State" "size" "[I") fl_X4_75) (fun _ h9 => h9) rfl dX4_loadBlock_95 ?_
            refine lv_iload_n hx hb dX4_loadBlock_98 rfl (lv_at hl 3 rfl) ?_
            obtain ⟨y69, ey69, iy69, h⟩ := rdI_e h
            refine ya_iald hx hb hK hP 75 0 CW_75 rfl ey69 iy69 dX4_loadBlock_99 ?_
            refine lv_iconst (v := 1) hx hb dX4_loadBlock_100 (by decide) ?_
            refine lv_icmp_lt (tgt := 115) hx hb dX4_loadBlock_101 (by decide) (fun c70 => ?_) (fun c70 => ?_)
            · have h := if_t c70 h
              exact J115 s64 _ _ _ ⟨hP, hS, lv_sub hl [] rfl, h⟩
            · have h := if_f c70 h
              refine lv_aload_n hx hb dX4_loadBlock_104 rfl (lv_at hl 2 rfl) ?_
              refine va_get (D := D) (ci := 8) (v := .ref (a 75)) (C := RX8) (T := TX8) (N := 11) hx hb ht inX8 hown hK hP 71 CW_71 rfl 6 (by decide) (ht (.fieldLink RX4 75 "CloneVolumes$State" "size" "[I") fl_X4_75) (fun _ h9 => h9) rfl dX4_loadBlock_105 ?_
              refine lv_iload_n hx hb dX4_loadBlock_108 rfl (lv_at hl 3 rfl) ?_
              obtain ⟨y71, ey71, iy71, h⟩ := rdI_e h
              refine ya_iald hx hb hK hP 75 0 CW_75 rfl ey71 iy71 dX4_loadBlock_109 ?_
              refine lv_iload hx hb dX4_loadBlock_110 (lv_at hl 4 rfl) ?_
              refine lv_icmp_le (tgt := 117) hx hb dX4_loadBlock_112 (by decide) (fun c72 => ?_) (fun c72 => ?_)
              · have h := if_t c72 h
                refine lv_iconst (v := 1) hx hb dX4_loadBlock_117 (by decide) ?_
                refine lv_istore (lv' := [(5, .int 1), (0, .ref (a 16)), (1, .ref (a 3)), (2, .ref (a 71)), (3, .int p2), (4, .int p3)]) hx hb dX4_loadBlock_118 hl (by decide) rfl (fun ls hl => ?_)
                refine lv_iconst (v := 0) hx hb dX4_loadBlock_120 (by decide) ?_
                refine lv_istore (lv' := [(6, .int 0), (5, .int 1), (0, .ref (a 16)), (1, .ref (a 3)), (2, .ref (a 71)), (3, .int p2), (4, .int p3)]) hx hb dX4_loadBlock_121 hl (by decide) rfl (fun ls hl => ?_)
                exact J123 FU (p2, 1, 0, s64) _ _ _ ⟨hP, hS, lv_sub hl [2, 3, 4, 5, 1, 0] rfl, h⟩
              · have h := if_f c72 h
                exact J115 s64 _ _ _ ⟨hP, hS, lv_sub hl [] rfl, h⟩
      · have h := if_f c54 h
        refine lv_iconst (v := 1) hx hb dX4_loadBlock_50 (by decide) ?_
        obtain rfl := Option.some.inj h
        exact W.zret (v := 1) hx hb hr (by decide) (fun t ht hW => ⟨⟨_, (), rfl, rfl, by rw [ht]; exact hP, va_K.moved hW.alike hK, hDD _⟩, hS.F ht⟩) hS.2.2 dX4_loadBlock_51
    · have h := if_f c51 h
      exact J40 s47 _ _ _ ⟨hP, hS, lv_sub hl [] rfl, h⟩
def m_x4_seal_v2_J35 (s : MS) (x1 : Int32) : Option Int32 :=
  some x1
def m_x4_seal_v2_b6 (s : MS) (lr6 : Int32 → Int32 → Int32 → Option Int32) (x2 : Int32) (x3 : Int32) (x4 : Int32) : Option Int32 :=
  if x2 ≤ x4 then m_x4_seal_v2_J35 s x3 else if 1600 ≤ x4 then m_x4_seal_v2_J35 s x3 else rdI (gA s 4) 1600 x4 (fun y7 => lr6 x2 (((3 * x3) + y7) - ((3 * x3) + y7) / 251 * 251) (x4 + 1))
def m_x4_seal_v2_L6 (s : MS) (n : Nat) : Int32 → Int32 → Int32 → Option Int32 := lp (fun _ _ _ => none) (m_x4_seal_v2_b6 s) n
def m_x4_seal_v2 (p1 : Int32) (s : MS) : Option Int32 :=
  m_x4_seal_v2_L6 s FU p1 157 0
set_option maxHeartbeats 4000000 in
set_option maxRecDepth 100000 in
theorem k_x4_seal_v2 (l : Launch) (D : va_G) (a : Nat → Nat) (p1 : Int32) (s : MS) (o : Int32) (h : m_x4_seal_v2 p1 s = some o) : yRi l yX4_seal cX4_seal 4 (some .int) { frames := 0, cells := 0, slots := 0, locals := 0 } D [.ref (a 4), .int p1] (CS D a s) o := by
  refine Met.ofW (cc := cX4_seal) (maxL := 4) (ret := (some .int)) (by decide) rfl ?_
  intro p e s₀ m args below meth c s₁ B hml hv
  obtain ⟨rfl, ⟨hP, hK⟩, hN⟩ := hv
  have hx := B.exec
  have hb := B.bytes
  have hr := B.returns
  have hts := atoms_spec (ws := wz yX4_seal cX4_seal 4 (some .int)) B.pre
  have ht : ∀ w ∈ lw_gd, w.before _ s₀ = true := fun w h => hts w (List.mem_cons_of_mem _ h)
  have hown : s₀.vm.findClass RX4 = some m.cls := findClass_of_methodNamed B.named
  have hlocks := B.notSynchronized
  have hS : va_S (fun _ => False) s₀.heap s₀.heap [] := va_S.rf
  have hl := lv_entry ([.ref (a 4), .int p1]) (n := 4) (Nat.le_of_ble_eq_true rfl)
  rw [lg_entry_eq]
  generalize (lg_sl ([.ref (a 4), .int p1]) ++ List.replicate (4 - (lg_sl ([.ref (a 4), .int p1])).length) Slot.unset).toArray = ls at hl ⊢
  have hl : lv_has ls 4 [(0, .ref (a 4)), (1, .int p1)] := hl
  unfold m_x4_seal_v2 at h
  refine y_head (pcJ := 35) (σ := Int32) (fun u H locs ls => va_P D vwCl (CS D a s) H ∧ va_S (fun _ => False) s₀.heap H locs ∧ lv_has ls 4 [(2, .int u)] ∧ m_x4_seal_v2_J35 s u = some o) (fun u => []) (fun u H locs ls hI => ?_) (fun J35 => ?_)
  · obtain ⟨hP, hS, hl, h⟩ := hI
    obtain ⟨x1, rfl⟩ : ∃ z, z = u := ⟨u, rfl⟩
    have hP : va_P D vwCl (CS D a s) H := hP
    have hl : lv_has ls 4 [(2, .int x1)] := hl
    have h : m_x4_seal_v2_J35 s x1 = some o := h
    unfold m_x4_seal_v2_J35 at h
    refine lv_iload_n hx hb dX4_seal_35 rfl (lv_at hl 0 rfl) ?_
    obtain rfl := Option.some.inj h
    exact W.iret (v := x1) hx hb hr (fun t ht hW => ⟨⟨_, (), rfl, rfl, trivial⟩, hS.F ht⟩) hS.2.2 dX4_seal_36
  refine y_loop (pcJ := 6) (σ := Int32 × Int32 × Int32) (fun n u H locs ls => va_P D vwCl (CS D a s) H ∧ va_S (fun _ => False) s₀.heap H locs ∧ lv_has ls 4 [(0, .ref (a 4)), (1, .int u.1), (2, .int u.2.1), (3, .int u.2.2)] ∧ m_x4_seal_v2_L6 s n u.1 u.2.1 u.2.2 = some o) (fun u => []) (fun u H locs ls hI => by obtain ⟨_, _, _, h⟩ := hI; cases h) (fun n6 ih6 u H locs ls hI => ?_) (fun J6 => ?_)
  · obtain ⟨hP, hS, hl, h⟩ := hI
    obtain ⟨x2, x3, x4⟩ := u
    have hP : va_P D vwCl (CS D a s) H := hP
    have hl : lv_has ls 4 [(0, .ref (a 4)), (1, .int x2), (2, .int x3), (3, .int x4)] := hl
    have h : m_x4_seal_v2_b6 s (m_x4_seal_v2_L6 s n6) x2 x3 x4 = some o := h
    unfold m_x4_seal_v2_b6 at h
    refine lv_iload_n hx hb dX4_seal_6 rfl (lv_at hl 3 rfl) ?_
    refine lv_iload_n hx hb dX4_seal_7 rfl (lv_at hl 1 rfl) ?_
    refine lv_icmp_ge (tgt := 35) hx hb dX4_seal_8 (by decide) (fun c5 => ?_) (fun c5 => ?_)
    · have h := if_t c5 h
      exact J35 x3 _ _ _ ⟨hP, hS, lv_sub hl [2] rfl, h⟩
    · have h := if_f c5 h
      refine lv_iload_n hx hb dX4_seal_11 rfl (lv_at hl 3 rfl) ?_
      refine lv_aload_n hx hb dX4_seal_12 rfl (lv_at hl 0 rfl) ?_
      refine va_alen (v := 1600) hx hb hK hP 4 0 CW_4 (ty := .int) rfl rfl dX4_seal_13 ?_
      refine lv_icmp_ge (tgt := 35) hx hb dX4_seal_14 (by decide) (fun c6 => ?_) (fun c6 => ?_)
      · have h := if_t c6 h
        exact J35 x3 _ _ _ ⟨hP, hS, lv_sub hl [2] rfl, h⟩
      · have h := if_f c6 h
        refine lv_iconst (v := 3) hx hb dX4_seal_17 (by decide) ?_
        refine lv_iload_n hx hb dX4_seal_18 rfl (lv_at hl 2 rfl) ?_
        refine lv_imul hx hb dX4_seal_19 ?_
        refine lv_aload_n hx hb dX4_seal_20 rfl (lv_at hl 0 rfl) ?_
        refine lv_iload_n hx hb dX4_seal_21 rfl (lv_at hl 3 rfl) ?_
        obtain ⟨y7, ey7, iy7, h⟩ := rdI_e h
        refine ya_iald hx hb hK hP 4 0 CW_4 rfl ey7 iy7 dX4_seal_22 ?_
        refine lv_iadd hx hb dX4_seal_23 ?_
        refine lv_sipush (v := 251) hx hb dX4_seal_24 (by decide) ?_
        refine lv_irem hx hb dX4_seal_27 (by decide) ?_
        refine lv_istore_n (lv' := [(2, .int (((3 * x3) + y7) - ((3 * x3) + y7) / 251 * 251)), (0, .ref (a 4)), (1, .int x2), (3, .int x4)]) hx hb dX4_seal_28 rfl hl (by decide) rfl (fun ls hl => ?_)
        refine lv_iinc (v := x4 + 1) (lv' := [(3, .int (x4 + 1)), (2, .int (((3 * x3) + y7) - ((3 * x3) + y7) / 251 * 251)), (0, .ref (a 4)), (1, .int x2)]) hx hb dX4_seal_29 hl (k := 3) rfl rfl (by decide) rfl (fun ls hl => ?_)
        refine lv_goto (tgt := 6) hx hb dX4_seal_32 (by decide) ?_
        exact ih6 (x2, ((3 * x3) + y7) - ((3 * x3) + y7) / 251 * 251, x4 + 1) _ _ _ ⟨hP, hS, lv_sub hl [2, 3, 1, 0] rfl, h⟩
  refine lv_sipush (v := 157) hx hb dX4_seal_0 (by decide) ?_
  refine lv_istore_n (lv' := [(2, .int 157), (0, .ref (a 4)), (1, .int p1)]) hx hb dX4_seal_3 rfl hl (by decide) rfl (fun ls hl => ?_)
  refine lv_iconst (v := 0) hx hb dX4_seal_4 (by decide) ?_
  refine lv_istore_n (lv' := [(3, .int 0), (2, .int 157), (0, .ref (a 4)), (1, .int p1)]) hx hb dX4_seal_5 rfl hl (by decide) rfl (fun ls hl => ?_)
  exact J6 FU (p1, 157, 0) _ _ _ ⟨hP, hS, lv_sub hl [2, 3, 1, 0] rfl, h⟩
def m_x8_clear_b59 (lr59 : Int32 → MS → Option MS) (x1 : Int32) (s2 : MS) : Option MS :=
  if 8 ≤ x1 then some s2 else inb 8 x1 (stn (sA s2 78 (upd (gA s2 78) (Int32.toNatClampNeg x1) (-2))) (fun s5 => inb 8 x1 (stn (sA s5 79 (upd (gA s5 79) (Int32.toNatClampNeg x1) (-2))) (fun s7 => lr59 (x1 + 1) s7))))
def m_x8_clear_L59 (n : Nat) : Int32 → MS → Option MS := lp (fun _ _ => none) (m_x8_clear_b59) n
def m_x8_clear_b17 (lr17 : Int32 → MS → Option MS) (x8 : Int32) (s9 : MS) : Option MS :=
  if 48 ≤ x8 then m_x8_clear_L59 FU 0 s9 else inb 48 x8 (stn (sA s9 72 (upd (gA s9 72) (Int32.toNatClampNeg x8) 0)) (fun s12 => inb 48 x8 (stn (sA s12 73 (upd (gA s12 73) (Int32.toNatClampNeg x8) 0)) (fun s14 => inb 48 x8 (stn (sA s14 74 (upd (gA s14 74) (Int32.toNatClampNeg x8) 0)) (fun s16 => inb 48 x8 (stn (sA s16 75 (upd (gA s16 75) (Int32.toNatClampNeg x8) 0)) (fun s18 => lr17 (x8 + 1) s18))))))))
def m_x8_clear_L17 (n : Nat) : Int32 → MS → Option MS := lp (fun _ _ => none) (m_x8_clear_b17) n
def m_x8_clear (p0 : Int32) (s : MS) : Option MS :=
  stn (sI s 1420 p0) (fun s19 => stn (sI s19 1421 0) (fun s20 => stn (sL s20 1422 0) (fun s21 => m_x8_clear_L17 FU 0 s21)))
set_option maxHeartbeats 4000000 in
set_option maxRecDepth 100000 in
theorem k_x8_clear (l : Launch) (D : va_G) (a : Nat → Nat) (p0 : Int32) (sz : Nat) (s : MS) (o : MS) (h : m_x8_clear p0 s = some o) : yWv l yX8_clear cX8_clear 3 none { frames := 0, cells := 0, slots := 0, locals := 0 } D sz [.ref (a 71), .int p0] (CS D a s) (CS D a o) := by
  refine Met.ofW (cc := cX8_clear) (maxL := 3) (ret := none) (by decide) rfl ?_
  intro p e s₀ m args below meth c s₁ B hml hv
  obtain ⟨rfl, ⟨hsz, hP, hK, hD0⟩, hN⟩ := hv
  have hx := B.exec
  have hb := B.bytes
  have hr := B.returns
  have hts := atoms_spec (ws := wz yX8_clear cX8_clear 3 none) B.pre
  have ht : ∀ w ∈ lw_gd, w.before _ s₀ = true := fun w h => hts w (List.mem_cons_of_mem _ h)
  have hown : s₀.vm.findClass RX8 = some m.cls := findClass_of_methodNamed B.named
  have hlocks := B.notSynchronized
  subst hsz
  have hD := hD0.self (sz := s₀.heap.size)
  generalize hAe : va_A (CS D a s) s₀.heap.size = A at hD ⊢
  have hA : ∀ q : Nat, s₀.heap.size ≤ q → A q := fun q h => by rw [← hAe]; exact Or.inr h
  have hS : va_S A s₀.heap s₀.heap [] := va_S.rf
  have hDD : ∀ t : MS, va_D A (CS D a t) := fun t => CW_D t hD
  have hl := lv_entry ([.ref (a 71), .int p0]) (n := 3) (Nat.le_of_ble_eq_true rfl)
  rw [lg_entry_eq]
  generalize (lg_sl ([.ref (a 71), .int p0]) ++ List.replicate (3 - (lg_sl ([.ref (a 71), .int p0])).length) Slot.unset).toArray = ls at hl ⊢
  have hl : lv_has ls 3 [(0, .ref (a 71)), (1, .int p0)] := hl
  unfold m_x8_clear at h
  refine y_loop (pcJ := 59) (σ := Int32 × MS) (fun n u H locs ls => va_P D vwCl (CS D a u.2) H ∧ va_S A s₀.heap H locs ∧ lv_has ls 3 [(0, .ref (a 71)), (2, .int u.1)] ∧ m_x8_clear_L59 n u.1 u.2 = some o) (fun u => []) (fun u H locs ls hI => by obtain ⟨_, _, _, h⟩ := hI; cases h) (fun n59 ih59 u H locs ls hI => ?_) (fun J59 => ?_)
  · obtain ⟨hP, hS, hl, h⟩ := hI
    obtain ⟨x1, s2⟩ := u
    have hP : va_P D vwCl (CS D a s2) H := hP
    have hl : lv_has ls 3 [(0, .ref (a 71)), (2, .int x1)] := hl
    have h : m_x8_clear_b59 (m_x8_clear_L59 n59) x1 s2 = some o := h
    unfold m_x8_clear_b59 at h
    refine lv_iload_n hx hb dX8_clear_59 rfl (lv_at hl 1 rfl) ?_
    refine lv_bipush (v := 8) hx hb dX8_clear_60 (by decide) ?_
    refine lv_icmp_ge (tgt := 87) hx hb dX8_clear_62 (by decide) (fun c3 => ?_) (fun c3 => ?_)
    · have h := if_t c3 h
      obtain rfl := Option.some.inj h
      exact W.vret hx hb hr (fun t ht hW => ⟨⟨(), rfl, trivial, by rw [ht]; exact hP, va_K.moved hW.alike hK, hDD _⟩, hS.F ht⟩) hS.2.2 dX8_clear_87
    · have h := if_f c3 h
      refine lv_aload_n hx hb dX8_clear_65 rfl (lv_at hl 0 rfl) ?_
      refine va_get (D := D) (ci := 8) (v := .ref (a 78)) (C := RX8) (T := TX8) (N := 11) hx hb ht inX8 hown hK hP 71 CW_71 rfl 9 (by decide) (ht (.fieldLink RX8 30 "CloneVolumes$State" "roots" "[I") fl_X8_30) (fun _ h9 => h9) rfl dX8_clear_66 ?_
      refine lv_iload_n hx hb dX8_clear_69 rfl (lv_at hl 1 rfl) ?_
      refine lv_bipush (v := (-2)) hx hb dX8_clear_70 (by decide) ?_
      obtain ⟨hi4, h⟩ := inb_e h
      refine ya_iast hx hb hK hP (hDD _) hS 78 0 CW_78 rfl hi4 dX8_clear_72 (CW_w78 _) (fun H locs hP hS => ?_)
      obtain ⟨s5, hs5, h⟩ := st_e h
      rw [hs5] at hP
      refine lv_aload_n hx hb dX8_clear_73 rfl (lv_at hl 0 rfl) ?_
      refine va_get (D := D) (ci := 8) (v := .ref (a 79)) (C := RX8) (T := TX8) (N := 11) hx hb ht inX8 hown hK hP 71 CW_71 rfl 10 (by decide) (ht (.fieldLink RX8 33 "CloneVolumes$State" "savedRoots" "[I") fl_X8_33) (fun _ h9 => h9) rfl dX8_clear_74 ?_
      refine lv_iload_n hx hb dX8_clear_77 rfl (lv_at hl 1 rfl) ?_
      refine lv_bipush (v := (-2)) hx hb dX8_clear_78 (by decide) ?_
      obtain ⟨hi6, h⟩ := inb_e h
      refine ya_iast hx hb hK hP (hDD _) hS 79 0 CW_79 rfl hi6 dX8_clear_80 (CW_w79 _) (fun H locs hP hS => ?_)
      obtain ⟨s7, hs7, h⟩ := st_e h
      rw [hs7] at hP
      refine lv_iinc (v := x1 + 1) (lv' := [(2, .int (x1 + 1)), (0, .ref (a 71))]) hx hb dX8_clear_81 hl (k := 1) rfl rfl (by decide) rfl (fun ls hl => ?_)
      refine lv_goto (tgt := 59) hx hb dX8_clear_84 (by decide) ?_
      exact ih59 (x1 + 1, s7) _ _ _ ⟨hP, hS, lv_sub hl [1, 0] rfl, h⟩
  refine y_loop (pcJ := 17) (σ := Int32 × MS) (fun n u H locs ls => va_P D vwCl (CS D a u.2) H ∧ va_S A s₀.heap H locs ∧ lv_has ls 3 [(0, .ref (a 71)), (2, .int u.1)] ∧ m_x8_clear_L17 n u.1 u.2 = some o) (fun u => []) (fun u H locs ls hI => by obtain ⟨_, _, _, h⟩ := hI; cases h) (fun n17 ih17 u H locs ls hI => ?_) (fun J17 => ?_)
  · obtain ⟨hP, hS, hl, h⟩ := hI
    obtain ⟨x8, s9⟩ := u
    have hP : va_P D vwCl (CS D a s9) H := hP
    have hl : lv_has ls 3 [(0, .ref (a 71)), (2, .int x8)] := hl
    have h : m_x8_clear_b17 (m_x8_clear_L17 n17) x8 s9 = some o := h
    unfold m_x8_clear_b17 at h
    refine lv_iload_n hx hb dX8_clear_17 rfl (lv_at hl 1 rfl) ?_
    refine lv_bipush (v := 48) hx hb dX8_clear_18 (by decide) ?_
    refine lv_icmp_ge (tgt := 57) hx hb dX8_clear_20 (by decide) (fun c10 => ?_) (fun c10 => ?_)
    · have h := if_t c10 h
      refine lv_iconst (v := 0) hx hb dX8_clear_57 (by decide) ?_
      refine lv_istore_n (lv' := [(2, .int 0), (0, .ref (a 71))]) hx hb dX8_clear_58 rfl hl (by decide) rfl (fun ls hl => ?_)
      exact J59 FU (0, s9) _ _ _ ⟨hP, hS, lv_sub hl [1, 0] rfl, h⟩
    · have h := if_f c10 h
      refine lv_aload_n hx hb dX8_clear_23 rfl (lv_at hl 0 rfl) ?_
      refine va_get (D := D) (ci := 8) (v := .ref (a 72)) (C := RX8) (T := TX8) (N := 11) hx hb ht inX8 hown hK hP 71 CW_71 rfl 3 (by decide) (ht (.fieldLink RX8 9 "CloneVolumes$State" "count" "[I") fl_X8_9) (fun _ h9 => h9) rfl dX8_clear_24 ?_
      refine lv_iload_n hx hb dX8_clear_27 rfl (lv_at hl 1 rfl) ?_
      refine lv_iconst (v := 0) hx hb dX8_clear_28 (by decide) ?_
      obtain ⟨hi11, h⟩ := inb_e h
      refine ya_iast hx hb hK hP (hDD _) hS 72 0 CW_72 rfl hi11 dX8_clear_29 (CW_w72 _) (fun H locs hP hS => ?_)
      obtain ⟨s12, hs12, h⟩ := st_e h
      rw [hs12] at hP
      refine lv_aload_n hx hb dX8_clear_30 rfl (lv_at hl 0 rfl) ?_
      refine va_get (D := D) (ci := 8) (v := .ref (a 73)) (C := RX8) (T := TX8) (N := 11) hx hb ht inX8 hown hK hP 71 CW_71 rfl 4 (by decide) (ht (.fieldLink RX8 15 "CloneVolumes$State" "saved" "[I") fl_X8_15) (fun _ h9 => h9) rfl dX8_clear_31 ?_
      refine lv_iload_n hx hb dX8_clear_34 rfl (lv_at hl 1 rfl) ?_
      refine lv_iconst (v := 0) hx hb dX8_clear_35 (by decide) ?_
      obtain ⟨hi13, h⟩ := inb_e h
      refine ya_iast hx hb hK hP (hDD _) hS 73 0 CW_73 rfl hi13 dX8_clear_36 (CW_w73 _) (fun H locs hP hS => ?_)
      obtain ⟨s14, hs14, h⟩ := st_e h
      rw [hs14] at hP
      refine lv_aload_n hx hb dX8_clear_37 rfl (lv_at hl 0 rfl) ?_
      refine va_get (D := D) (ci := 8) (v := .ref (a 74)) (C := RX8) (T := TX8) (N := 11) hx hb ht inX8 hown hK hP 71 CW_71 rfl 5 (by decide) (ht (.fieldLink RX8 18 "CloneVolumes$State" "level" "[I") fl_X8_18) (fun _ h9 => h9) rfl dX8_clear_38 ?_
      refine lv_iload_n hx hb dX8_clear_41 rfl (lv_at hl 1 rfl) ?_
      refine lv_iconst (v := 0) hx hb dX8_clear_42 (by decide) ?_
      obtain ⟨hi15, h⟩ := inb_e h
      refine ya_iast hx hb hK hP (hDD _) hS 74 0 CW_74 rfl hi15 dX8_clear_43 (CW_w74 _) (fun H locs hP hS => ?_)
      obtain ⟨s16, hs16, h⟩ := st_e h
      rw [hs16] at hP
      refine lv_aload_n hx hb dX8_clear_44 rfl (lv_at hl 0 rfl) ?_
      refine va_get (D := D) (ci := 8) (v := .ref (a 75)) (C := RX8) (T := TX8) (N := 11) hx hb ht inX8 hown hK hP 71 CW_71 rfl 6 (by decide) (ht (.fieldLink RX8 21 "CloneVolumes$State" "size" "[I") fl_X8_21) (fun _ h9 => h9) rfl dX8_clear_45 ?_
      refine lv_iload_n hx hb dX8_clear_48 rfl (lv_at hl 1 rfl) ?_
      refine lv_iconst (v := 0) hx hb dX8_clear_49 (by decide) ?_
      obtain ⟨hi17, h⟩ := inb_e h
      refine ya_iast hx hb hK hP (hDD _) hS 75 0 CW_75 rfl hi17 dX8_clear_50 (CW_w75 _) (fun H locs hP hS => ?_)
      obtain ⟨s18, hs18, h⟩ := st_e h
      rw [hs18] at hP
      refine lv_iinc (v := x8 + 1) (lv' := [(2, .int (x8 + 1)), (0, .ref (a 71))]) hx hb dX8_clear_51 hl (k := 1) rfl rfl (by decide) rfl (fun ls hl => ?_)
      refine lv_goto (tgt := 17) hx hb dX8_clear_54 (by decide) ?_
      exact ih17 (x8 + 1, s18) _ _ _ ⟨hP, hS, lv_sub hl [1, 0] rfl, h⟩
  refine lv_aload_n hx hb dX8_clear_0 rfl (lv_at hl 0 rfl) ?_
  refine lv_iload_n hx hb dX8_clear_1 rfl (lv_at hl 1 rfl) ?_
  refine ya_put (D := D) (ci := 8) (v := .int p0) (ty := .int) (C := RX8) (T := TX8) (N := 11) hx hb ht inX8 tyX8 tyX8_ok nmX8 hown hK hP (hDD _) hS 71 CW_71 rfl 0 (by decide) (ht (.fieldLink RX8 40 "CloneVolumes$State" "blocks" "I") fl_X8_40) (fun _ h9 => h9) rfl (by decide +kernel) rfl rfl (Nat.le_of_ble_eq_true rfl) dX8_clear_2 (CW_w71_0 _) (fun H locs hP hS => ?_)
  obtain ⟨s19, hs19, h⟩ := st_e h
  rw [hs19] at hP
  refine lv_aload_n hx hb dX8_clear_5 rfl (lv_at hl 0 rfl) ?_
  refine lv_iconst (v := 0) hx hb dX8_clear_6 (by decide) ?_
  refine ya_put (D := D) (ci := 8) (v := .int 0) (ty := .int) (C := RX8) (T := TX8) (N := 11) hx hb ht inX8 tyX8 tyX8_ok nmX8 hown hK hP (hDD _) hS 71 CW_71 rfl 1 (by decide) (ht (.fieldLink RX8 44 "CloneVolumes$State" "spent" "I") fl_X8_44) (fun _ h9 => h9) rfl (by decide +kernel) rfl rfl (Nat.le_of_ble_eq_true rfl) dX8_clear_7 (CW_w71_1 _) (fun H locs hP hS => ?_)
  obtain ⟨s20, hs20, h⟩ := st_e h
  rw [hs20] at hP
  refine lv_aload_n hx hb dX8_clear_10 rfl (lv_at hl 0 rfl) ?_
  refine lv_lconst (v := 0) hx hb dX8_clear_11 (by decide) ?_
  refine ya_put (D := D) (ci := 8) (v := .long 0) (ty := .long) (C := RX8) (T := TX8) (N := 11) hx hb ht inX8 tyX8 tyX8_ok nmX8 hown hK hP (hDD _) hS 71 CW_71 rfl 2 (by decide) (ht (.fieldLink RX8 47 "CloneVolumes$State" "written" "J") fl_X8_47) (fun _ h9 => h9) rfl (by decide +kernel) rfl rfl (Nat.le_of_ble_eq_true rfl) dX8_clear_12 (CW_w71_2 _) (fun H locs hP hS => ?_)
  obtain ⟨s21, hs21, h⟩ := st_e h
  rw [hs21] at hP
  refine lv_iconst (v := 0) hx hb dX8_clear_15 (by decide) ?_
  refine lv_istore_n (lv' := [(2, .int 0), (0, .ref (a 71)), (1, .int p0)]) hx hb dX8_clear_16 rfl hl (by decide) rfl (fun ls hl => ?_)
  exact J17 FU (0, s21) _ _ _ ⟨hP, hS, lv_sub hl [1, 0] rfl, h⟩
def m_x4_rootOf_J22 (s : MS) (x1 : Int32) : Option Int32 :=
  some x1
def m_x4_rootOf (p0 : Int32) (s : MS) : Option Int32 :=
  if p0 = 255 then some (-2) else if p0 = 254 then m_x4_rootOf_J22 s (-1) else m_x4_rootOf_J22 s p0
set_option maxHeartbeats 4000000 in
set_option maxRecDepth 100000 in
theorem k_x4_rootOf (l : Launch) (D : va_G) (a : Nat → Nat) (p0 : Int32) (s : MS) (o : Int32) (h : m_x4_rootOf p0 s = some o) : yRi l yX4_rootOf cX4_rootOf 1 (some .int) { frames := 0, cells := 0, slots := 0, locals := 0 } D [.int p0] (CS D a s) o := by
  refine Met.ofW (cc := cX4_rootOf) (maxL := 1) (ret := (some .int)) (by decide) rfl ?_
  intro p e s₀ m args below meth c s₁ B hml hv
  obtain ⟨rfl, ⟨hP, hK⟩, hN⟩ := hv
  have hx := B.exec
  have hb := B.bytes
  have hr := B.returns
  have hts := atoms_spec (ws := wz yX4_rootOf cX4_rootOf 1 (some .int)) B.pre
  have ht : ∀ w ∈ lw_gd, w.before _ s₀ = true := fun w h => hts w (List.mem_cons_of_mem _ h)
  have hown : s₀.vm.findClass RX4 = some m.cls := findClass_of_methodNamed B.named
  have hlocks := B.notSynchronized
  have hS : va_S (fun _ => False) s₀.heap s₀.heap [] := va_S.rf
  have hl := lv_entry ([.int p0]) (n := 1) (Nat.le_of_ble_eq_true rfl)
  rw [lg_entry_eq]
  generalize (lg_sl ([.int p0]) ++ List.replicate (1 - (lg_sl ([.int p0])).length) Slot.unset).toArray = ls at hl ⊢
  have hl : lv_has ls 1 [(0, .int p0)] := hl
  unfold m_x4_rootOf at h
  refine y_head (pcJ := 22) (σ := Int32) (fun u H locs ls => va_P D vwCl (CS D a s) H ∧ va_S (fun _ => False) s₀.heap H locs ∧ lv_has ls 1 [] ∧ m_x4_rootOf_J22 s u = some o) (fun u => [.int u]) (fun u H locs ls hI => ?_) (fun J22 => ?_)
  · obtain ⟨hP, hS, hl, h⟩ := hI
    obtain ⟨x1, rfl⟩ : ∃ z, z = u := ⟨u, rfl⟩
    have hP : va_P D vwCl (CS D a s) H := hP
    have hl : lv_has ls 1 [] := hl
    have h : m_x4_rootOf_J22 s x1 = some o := h
    unfold m_x4_rootOf_J22 at h
    obtain rfl := Option.some.inj h
    exact W.iret (v := x1) hx hb hr (fun t ht hW => ⟨⟨_, (), rfl, rfl, trivial⟩, hS.F ht⟩) hS.2.2 dX4_rootOf_22
  refine lv_iload_n hx hb dX4_rootOf_0 rfl (lv_at hl 0 rfl) ?_
  refine lv_sipush (v := 255) hx hb dX4_rootOf_1 (by decide) ?_
  refine lv_icmp_ne (tgt := 10) hx hb dX4_rootOf_4 (by decide) (fun c2 => ?_) (fun c2 => ?_)
  · have h := if_f c2 h
    refine lv_iload_n hx hb dX4_rootOf_10 rfl (lv_at hl 0 rfl) ?_
    refine lv_sipush (v := 254) hx hb dX4_rootOf_11 (by decide) ?_
    refine lv_icmp_ne (tgt := 21) hx hb dX4_rootOf_14 (by decide) (fun c3 => ?_) (fun c3 => ?_)
    · have h := if_f c3 h
      refine lv_iload_n hx hb dX4_rootOf_21 rfl (lv_at hl 0 rfl) ?_
      exact J22 p0 _ _ _ ⟨hP, hS, lv_sub hl [] rfl, h⟩
    · have h := if_t c3 h
      refine lv_iconst (v := (-1)) hx hb dX4_rootOf_17 (by decide) ?_
      refine lv_goto (tgt := 22) hx hb dX4_rootOf_18 (by decide) ?_
      exact J22 (-1) _ _ _ ⟨hP, hS, lv_sub hl [] rfl, h⟩
  · have h := if_t c2 h
    refine lv_bipush (v := (-2)) hx hb dX4_rootOf_7 (by decide) ?_
    obtain rfl := Option.some.inj h
    exact W.iret (v := (-2)) hx hb hr (fun t ht hW => ⟨⟨_, (), rfl, rfl, trivial⟩, hS.F ht⟩) hS.2.2 dX4_rootOf_9
def m_x4_loadHead_J114 (lr39 : Int32 → Int32 → MS → Option (Int32 × MS)) (x4 : Int32) (x5 : Int32) (s6 : MS) : Option (Int32 × MS) :=
  lr39 x5 (x4 + 1) s6
def m_x4_loadHead_J113 (lr39 : Int32 → Int32 → MS → Option (Int32 × MS)) (x7 : Int32) (s8 : MS) : Option (Int32 × MS) :=
  m_x4_loadHead_J114 lr39 x7 0 s8
def m_x4_loadHead_b39 (lr39 : Int32 → Int32 → MS → Option (Int32 × MS)) (x1 : Int32) (x2 : Int32) (s3 : MS) : Option (Int32 × MS) :=
  if 8 ≤ x2 then bo x1 (some (x1, s3)) else bn (m_x4_next s3) (fun qr13 => bn (m_x4_rootOf qr13.1 qr13.2) (fun r15 => inb 8 x2 (stn (sA qr13.2 78 (upd (gA qr13.2 78) (Int32.toNatClampNeg x2) r15)) (fun s17 => bn (m_x4_next s17) (fun qr20 => bn (m_x4_rootOf qr20.1 qr20.2) (fun r22 => inb 8 x2 (stn (sA qr20.2 79 (upd (gA qr20.2 79) (Int32.toNatClampNeg x2) r22)) (fun s24 => if x1 = 0 then m_x4_loadHead_J113 lr39 x2 s24 else rdI (gA s24 78) 8 x2 (fun y26 => if (gI s24 1420) ≤ y26 then m_x4_loadHead_J113 lr39 x2 s24 else rdI (gA s24 79) 8 x2 (fun y28 => if (gI s24 1420) ≤ y28 then m_x4_loadHead_J113 lr39 x2 s24 else m_x4_loadHead_J114 lr39 x2 1 s24))))))))))
def m_x4_loadHead_L39 (n : Nat) : Int32 → Int32 → MS → Option (Int32 × MS) := lp (fun _ _ _ => none) (m_x4_loadHead_b39) n
def m_x4_loadHead_J34 (x30 : Int32) (s31 : MS) : Option (Int32 × MS) :=
  m_x4_loadHead_L39 FU x30 0 s31
def m_x4_loadHead (s : MS) : Option (Int32 × MS) :=
  bn (m_x4_next s) (fun qr34 => bn (m_x4_nextPair qr34.2) (fun qr37 => stn (sI qr37.2 1421 ((qr34.1 * 65536) + qr37.1)) (fun s38 => if 999999 < (gI s38 1421) then m_x4_loadHead_J34 0 s38 else m_x4_loadHead_J34 1 s38)))
set_option maxHeartbeats 4000000 in
set_option maxRecDepth 100000 in
theorem k_x4_loadHead (l : Launch) (D : va_G) (a : Nat → Nat) (sz : Nat) (s : MS) (o : (Int32 × MS)) (h : m_x4_loadHead s = some o) : yWi l yX4_loadHead cX4_loadHead 6 (some .boolean) { frames := 3, cells := 0, slots := 0, locals := 180 } D sz [.ref (a 16), .ref (a 3), .ref (a 71)] (CS D a s) (CS D a o.2) o.1 := by
  refine Met.ofW (cc := cX4_loadHead) (maxL := 6) (ret := (some .boolean)) (by decide) rfl ?_
  intro p e s₀ m args below meth c s₁ B hml hv
  obtain ⟨rfl, ⟨hsz, hP, hK, hD0⟩, hN⟩ := hv
  have hx := B.exec
  have hb := B.bytes
  have hr := B.returns
  have hts := atoms_spec (ws := wz yX4_loadHead cX4_loadHead 6 (some .boolean)) B.pre
  have ht : ∀ w ∈ lw_gd, w.before _ s₀ = true := fun w h => hts w (List.mem_cons_of_mem _ h)
  have hown : s₀.vm.findClass RX4 = some m.cls := findClass_of_methodNamed B.named
  have hlocks := B.notSynchronized
  subst hsz
  have hD := hD0.self (sz := s₀.heap.size)
  generalize hAe : va_A (CS D a s) s₀.heap.size = A at hD ⊢
  have hA : ∀ q : Nat, s₀.heap.size ≤ q → A q := fun q h => by rw [← hAe]; exact Or.inr h
  have hS : va_S A s₀.heap s₀.heap [] := va_S.rf
  have hDD : ∀ t : MS, va_D A (CS D a t) := fun t => CW_D t hD
  have hl := lv_entry ([.ref (a 16), .ref (a 3), .ref (a 71)]) (n := 6) (Nat.le_of_ble_eq_true rfl)
  rw [lg_entry_eq]
  generalize (lg_sl ([.ref (a 16), .ref (a 3), .ref (a 71)]) ++ List.replicate (6 - (lg_sl ([.ref (a 16), .ref (a 3), .ref (a 71)])).length) Slot.unset).toArray = ls at hl ⊢
  have hl : lv_has ls 6 [(0, .ref (a 16)), (1, .ref (a 3)), (2, .ref (a 71))] := hl
  unfold m_x4_loadHead at h
  refine y_loop (pcJ := 39) (σ := Int32 × Int32 × MS) (fun n u H locs ls => va_P D vwCl (CS D a u.2.2) H ∧ va_S A s₀.heap H locs ∧ lv_has ls 6 [(0, .ref (a 16)), (1, .ref (a 3)), (2, .ref (a 71)), (4, .int u.1), (5, .int u.2.1)] ∧ m_x4_loadHead_L39 n u.1 u.2.1 u.2.2 = some o) (fun u => []) (fun u H locs ls hI => by obtain ⟨_, _, _, h⟩ := hI; cases h) (fun n39 ih39 u H locs ls hI => ?_) (fun J39 => ?_)
  · obtain ⟨hP, hS, hl, h⟩ := hI
    obtain ⟨x1, x2, s3⟩ := u
    have hP : va_P D vwCl (CS D a s3) H := hP
    have hl : lv_has ls 6 [(0, .ref (a 16)), (1, .ref (a 3)), (2, .ref (a 71)), (4, .int x1), (5, .int x2)] := hl
    have h : m_x4_loadHead_b39 (m_x4_loadHead_L39 n39) x1 x2 s3 = some o := h
    unfold m_x4_loadHead_b39 at h
    refine y_head (pcJ := 114) (σ := Int32 × Int32 × MS) (fun u H locs ls => va_P D vwCl (CS D a u.2.2) H ∧ va_S A s₀.heap H locs ∧ lv_has ls 6 [(0, .ref (a 16)), (1, .ref (a 3)), (2, .ref (a 71)), (5, .int u.1)] ∧ m_x4_loadHead_J114 (m_x4_loadHead_L39 n39) u.1 u.2.1 u.2.2 = some o) (fun u => [.int u.2.1]) (fun u H locs ls hI => ?_) (fun J114 => ?_)
    · obtain ⟨hP, hS, hl, h⟩ := hI
      obtain ⟨x4, x5, s6⟩ := u
      have hP : va_P D vwCl (CS D a s6) H := hP
      have hl : lv_has ls 6 [(0, .ref (a 16)), (1, .ref (a 3)), (2, .ref (a 71)), (5, .int x4)] := hl
      have h : m_x4_loadHead_J114 (m_x4_loadHead_L39 n39) x4 x5 s6 = some o := h
      unfold m_x4_loadHead_J114 at h
      refine lv_istore (lv' := [(4, .int x5), (0, .ref (a 16)), (1, .ref (a 3)), (2, .ref (a 71)), (5, .int x4)]) hx hb dX4_loadHead_114 hl (by decide) rfl (fun ls hl => ?_)
      refine lv_iinc (v := x4 + 1) (lv' := [(5, .int (x4 + 1)), (4, .int x5), (0, .ref (a 16)), (1, .ref (a 3)), (2, .ref (a 71))]) hx hb dX4_loadHead_116 hl (k := 4) rfl rfl (by decide) rfl (fun ls hl => ?_)
      refine lv_goto (tgt := 39) hx hb dX4_loadHead_119 (by decide) ?_
      exact ih39 (x5, x4 + 1, s6) _ _ _ ⟨hP, hS, lv_sub hl [2, 3, 4, 1, 0] rfl, h⟩
    refine y_head (pcJ := 113) (σ := Int32 × MS) (fun u H locs ls => va_P D vwCl (CS D a u.2) H ∧ va_S A s₀.heap H locs ∧ lv_has ls 6 [(0, .ref (a 16)), (1, .ref (a 3)), (2, .ref (a 71)), (5, .int u.1)] ∧ m_x4_loadHead_J113 (m_x4_loadHead_L39 n39) u.1 u.2 = some o) (fun u => []) (fun u H locs ls hI => ?_) (fun J113 => ?_)
    · obtain ⟨hP, hS, hl, h⟩ := hI
      obtain ⟨x7, s8⟩ := u
      have hP : va_P D vwCl (CS D a s8) H := hP
      have hl : lv_has ls 6 [(0, .ref (a 16)), (1, .ref (a 3)), (2, .ref (a 71)), (5, .int x7)] := hl
      have h : m_x4_loadHead_J113 (m_x4_loadHead_L39 n39) x7 s8 = some o := h
      unfold m_x4_loadHead_J113 at h
      refine lv_iconst (v := 0) hx hb dX4_loadHead_113 (by decide) ?_
      exact J114 (x7, 0, s8) _ _ _ ⟨hP, hS, lv_sub hl [0, 1, 2, 3] rfl, h⟩
    refine lv_iload hx hb dX4_loadHead_39 (lv_at hl 4 rfl) ?_
    refine lv_bipush (v := 8) hx hb dX4_loadHead_41 (by decide) ?_
    refine lv_icmp_ge (tgt := 122) hx hb dX4_loadHead_43 (by decide) (fun c9 => ?_) (fun c9 => ?_)
    · have h := if_t c9 h
      refine lv_iload hx hb dX4_loadHead_122 (lv_at hl 3 rfl) ?_
      obtain ⟨hb10, h⟩ := bo_e h
      obtain rfl := Option.some.inj h
      exact W.zret (v := x1) hx hb hr (bo_n hb10) (fun t ht hW => ⟨⟨_, (), rfl, rfl, by rw [ht]; exact hP, va_K.moved hW.alike hK, hDD _⟩, hS.F ht⟩) hS.2.2 dX4_loadHead_124
    · have h := if_f c9 h
      refine lv_aload_n hx hb dX4_loadHead_46 rfl (lv_at hl 2 rfl) ?_
      refine va_get (D := D) (ci := 8) (v := .ref (a 78)) (C := RX8) (T := TX8) (N := 11) hx hb ht inX8 hown hK hP 71 CW_71 rfl 9 (by decide) (ht (.fieldLink RX4 41 "CloneVolumes$State" "roots" "[I") fl_X4_41) (fun _ h9 => h9) rfl dX4_loadHead_47 ?_
      refine lv_iload hx hb dX4_loadHead_50 (lv_at hl 4 rfl) ?_
      refine lv_aload_n hx hb dX4_loadHead_52 rfl (lv_at hl 0 rfl) ?_
      refine lv_aload_n hx hb dX4_loadHead_53 rfl (lv_at hl 1 rfl) ?_
      obtain ⟨⟨r13, s12⟩, hc11, h⟩ := bn_e h
      refine ywV (r0 := r13) (As := [.ref (a 3)]) (rest := [.int x2, .ref (a 78)]) (C := RX4) (n := 1) (ws' := CS D a s12) ⟨hx, hb, hml, hown, ht⟩ (k_x4_next l D a _ _ _ hc11) (zgV ml_X4_113 im_X4_next se_X4_next in_X4 co_X4_next) rfl rfl (by decide +kernel) ⟨Nat.le_of_ble_eq_true rfl, Nat.le_of_ble_eq_true rfl⟩ hN hK hP (hDD _) hS hA 16 CW_16 rfl rfl rfl hl.1 rfl (Nat.le_of_ble_eq_true rfl) dX4_loadHead_54 ⟨Nat.le_of_ble_eq_true rfl, Nat.le_of_ble_eq_true rfl⟩ (fun H locs hP hS => ?_)
      obtain ⟨r15, hc14, h⟩ := bn_e h
      refine ycS (As := [.int r13]) (rest := [.int x2, .ref (a 78)]) (n := 1) ⟨hx, hb, hml, hown, ht⟩ (k_x4_rootOf l D a r13 _ _ hc14) (zgT ml_X4_122 st_X4_rootOf in_X4 co_X4_rootOf) rfl rfl (by decide +kernel) ⟨Nat.le_of_ble_eq_true rfl, Nat.le_of_ble_eq_true rfl⟩ hN hK hP hS rfl hl.1 rfl (Nat.le_of_ble_eq_true rfl) dX4_loadHead_57 ⟨Nat.le_of_ble_eq_true rfl, Nat.le_of_ble_eq_true rfl⟩ (fun H locs hP hS => ?_)
      obtain ⟨hi16, h⟩ := inb_e h
      refine ya_iast hx hb hK hP (hDD _) hS 78 0 CW_78 rfl hi16 dX4_loadHead_60 (CW_w78 _) (fun H locs hP hS => ?_)
      obtain ⟨s17, hs17, h⟩ := st_e h
      rw [hs17] at hP
      refine lv_aload_n hx hb dX4_loadHead_61 rfl (lv_at hl 2 rfl) ?_
      refine va_get (D := D) (ci := 8) (v := .ref (a 79)) (C := RX8) (T := TX8) (N := 11) hx hb ht inX8 hown hK hP 71 CW_71 rfl 10 (by decide) (ht (.fieldLink RX4 48 "CloneVolumes$State" "savedRoots" "[I") fl_X4_48) (fun _ h9 => h9) rfl dX4_loadHead_62 ?_
      refine lv_iload hx hb dX4_loadHead_65 (lv_at hl 4 rfl) ?_
      refine lv_aload_n hx hb dX4_loadHead_67 rfl (lv_at hl 0 rfl) ?_
      refine lv_aload_n hx hb dX4_loadHead_68 rfl (lv_at hl 1 rfl) ?_
      obtain ⟨⟨r20, s19⟩, hc18, h⟩ := bn_e h
      refine ywV (r0 := r20) (As := [.ref (a 3)]) (rest := [.int x2, .ref (a 79)]) (C := RX4) (n := 1) (ws' := CS D a s19) ⟨hx, hb, hml, hown, ht⟩ (k_x4_next l D a _ _ _ hc18) (zgV ml_X4_113 im_X4_next se_X4_next in_X4 co_X4_next) rfl rfl (by decide +kernel) ⟨Nat.le_of_ble_eq_true rfl, Nat.le_of_ble_eq_true rfl⟩ hN hK hP (hDD _) hS hA 16 CW_16 rfl rfl rfl hl.1 rfl (Nat.le_of_ble_eq_true rfl) dX4_loadHead_69 ⟨Nat.le_of_ble_eq_true rfl, Nat.le_of_ble_eq_true rfl⟩ (fun H locs hP hS => ?_)
      obtain ⟨r22, hc21, h⟩ := bn_e h
      refine ycS (As := [.int r20]) (rest := [.int x2, .ref (a 79)]) (n := 1) ⟨hx, hb, hml, hown, ht⟩ (k_x4_rootOf l D a r20 _ _ hc21) (zgT ml_X4_122 st_X4_rootOf in_X4 co_X4_rootOf) rfl rfl (by decide +kernel) ⟨Nat.le_of_ble_eq_true rfl, Nat.le_of_ble_eq_true rfl⟩ hN hK hP hS rfl hl.1 rfl (Nat.le_of_ble_eq_true rfl) dX4_loadHead_72 ⟨Nat.le_of_ble_eq_true rfl, Nat.le_of_ble_eq_true rfl⟩ (fun H locs hP hS => ?_)
      obtain ⟨hi23, h⟩ := inb_e h
      refine ya_iast hx hb hK hP (hDD _) hS 79 0 CW_79 rfl hi23 dX4_loadHead_75 (CW_w79 _) (fun H locs hP hS => ?_)
      obtain ⟨s24, hs24, h⟩ := st_e h
      rw [hs24] at hP
      refine lv_iload hx hb dX4_loadHead_76 (lv_at hl 3 rfl) ?_
      refine lv_if_eq (tgt := 113) hx hb dX4_loadHead_78 (by decide) (fun c25 => ?_) (fun c25 => ?_)
      · have h := if_t c25 h
        exact J113 (x2, s24) _ _ _ ⟨hP, hS, lv_sub hl [0, 1, 2, 4] rfl, h⟩
      · have h := if_f c25 h
        refine lv_aload_n hx hb dX4_loadHead_81 rfl (lv_at hl 2 rfl) ?_
        refine va_get (D := D) (ci := 8) (v := .ref (a 78)) (C := RX8) (T := TX8) (N := 11) hx hb ht inX8 hown hK hP 71 CW_71 rfl 9 (by decide) (ht (.fieldLink RX4 41 "CloneVolumes$State" "roots" "[I") fl_X4_41) (fun _ h9 => h9) rfl dX4_loadHead_82 ?_
        refine lv_iload hx hb dX4_loadHead_85 (lv_at hl 4 rfl) ?_
        obtain ⟨y26, ey26, iy26, h⟩ := rdI_e h
        refine ya_iald hx hb hK hP 78 0 CW_78 rfl ey26 iy26 dX4_loadHead_87 ?_
        refine lv_aload_n hx hb dX4_loadHead_88 rfl (lv_at hl 2 rfl) ?_
        refine va_get (D := D) (ci := 8) (v := .int (gI s24 1420)) (C := RX8) (T := TX8) (N := 11) hx hb ht inX8 hown hK hP 71 CW_71 rfl 0 (by decide) (ht (.fieldLink RX4 51 "CloneVolumes$State" "blocks" "I") fl_X4_51) (fun _ h9 => h9) rfl dX4_loadHead_89 ?_
        refine lv_icmp_ge (tgt := 113) hx hb dX4_loadHead_92 (by decide) (fun c27 => ?_) (fun c27 => ?_)
        · have h := if_t c27 h
          exact J113 (x2, s24) _ _ _ ⟨hP, hS, lv_sub hl [0, 1, 2, 4] rfl, h⟩
        · have h := if_f c27 h
          refine lv_aload_n hx hb dX4_loadHead_95 rfl (lv_at hl 2 rfl) ?_
          refine va_get (D := D) (ci := 8) (v := .ref (a 79)) (C := RX8) (T := TX8) (N := 11) hx hb ht inX8 hown hK hP 71 CW_71 rfl 10 (by decide) (ht (.fieldLink RX4 48 "CloneVolumes$State" "savedRoots" "[I") fl_X4_48) (fun _ h9 => h9) rfl dX4_loadHead_96 ?_
          refine lv_iload hx hb dX4_loadHead_99 (lv_at hl 4 rfl) ?_
          obtain ⟨y28, ey28, iy28, h⟩ := rdI_e h
          refine ya_iald hx hb hK hP 79 0 CW_79 rfl ey28 iy28 dX4_loadHead_101 ?_
          refine lv_aload_n hx hb dX4_loadHead_102 rfl (lv_at hl 2 rfl) ?_
          refine va_get (D := D) (ci := 8) (v := .int (gI s24 1420)) (C := RX8) (T := TX8) (N := 11) hx hb ht inX8 hown hK hP 71 CW_71 rfl 0 (by decide) (ht (.fieldLink RX4 51 "CloneVolumes$State" "blocks" "I") fl_X4_51) (fun _ h9 => h9) rfl dX4_loadHead_103 ?_
          refine lv_icmp_ge (tgt := 113) hx hb dX4_loadHead_106 (by decide) (fun c29 => ?_) (fun c29 => ?_)
          · have h := if_t c29 h
            exact J113 (x2, s24) _ _ _ ⟨hP, hS, lv_sub hl [0, 1, 2, 4] rfl, h⟩
          · have h := if_f c29 h
            refine lv_iconst (v := 1) hx hb dX4_loadHead_109 (by decide) ?_
            refine lv_goto (tgt := 114) hx hb dX4_loadHead_110 (by decide) ?_
            exact J114 (x2, 1, s24) _ _ _ ⟨hP, hS, lv_sub hl [0, 1, 2, 4] rfl, h⟩
  refine y_head (pcJ := 34) (σ := Int32 × MS) (fun u H locs ls => va_P D vwCl (CS D a u.2) H ∧ va_S A s₀.heap H locs ∧ lv_has ls 6 [(0, .ref (a 16)), (1, .ref (a 3)), (2, .ref (a 71))] ∧ m_x4_loadHead_J34 u.1 u.2 = some o) (fun u => [.int u.1]) (fun u H locs ls hI => ?_) (fun J34 => ?_)
  · obtain ⟨hP, hS, hl, h⟩ := hI
    obtain ⟨x30, s31⟩ := u
    have hP : va_P D vwCl (CS D a s31) H := hP
    have hl : lv_has ls 6 [(0, .ref (a 16)), (1, .ref (a 3)), (2, .ref (a 71))] := hl
    have h : m_x4_loadHead_J34 x30 s31 = some o := h
    unfold m_x4_loadHead_J34 at h
    refine lv_istore (lv' := [(4, .int x30), (0, .ref (a 16)), (1, .ref (a 3)), (2, .ref (a 71))]) hx hb dX4_loadHead_34 hl (by decide) rfl (fun ls hl => ?_)
    refine lv_iconst (v := 0) hx hb dX4_loadHead_36 (by decide) ?_
    refine lv_istore (lv' := [(5, .int 0), (4, .int x30), (0, .ref (a 16)), (1, .ref (a 3)), (2, .ref (a 71))]) hx hb dX4_loadHead_37 hl (by decide) rfl (fun ls hl => ?_)
    exact J39 FU (x30, 0, s31) _ _ _ ⟨hP, hS, lv_sub hl [2, 3, 4, 1, 0] rfl, h⟩
  refine lv_aload_n hx hb dX4_loadHead_0 rfl (lv_at hl 0 rfl) ?_
  refine lv_aload_n hx hb dX4_loadHead_1 rfl (lv_at hl 1 rfl) ?_
  obtain ⟨⟨r34, s33⟩, hc32, h⟩ := bn_e h
  refine ywV (r0 := r34) (As := [.ref (a 3)]) (rest := []) (C := RX4) (n := 1) (ws' := CS D a s33) ⟨hx, hb, hml, hown, ht⟩ (k_x4_next l D a _ _ _ hc32) (zgV ml_X4_113 im_X4_next se_X4_next in_X4 co_X4_next) rfl rfl (by decide +kernel) ⟨Nat.le_of_ble_eq_true rfl, Nat.le_of_ble_eq_true rfl⟩ hN hK hP (hDD _) hS hA 16 CW_16 rfl rfl rfl hl.1 rfl (Nat.le_of_ble_eq_true rfl) dX4_loadHead_2 ⟨Nat.le_of_ble_eq_true rfl, Nat.le_of_ble_eq_true rfl⟩ (fun H locs hP hS => ?_)
  refine lv_istore_n (lv' := [(3, .int r34), (0, .ref (a 16)), (1, .ref (a 3)), (2, .ref (a 71))]) hx hb dX4_loadHead_5 rfl hl (by decide) rfl (fun ls hl => ?_)
  refine lv_aload_n hx hb dX4_loadHead_6 rfl (lv_at hl 3 rfl) ?_
  refine lv_iload_n hx hb dX4_loadHead_7 rfl (lv_at hl 0 rfl) ?_
  refine lv_ldc (own := RX4) (v := 65536) hx hb hown (ht _ ck_X4_117) dX4_loadHead_8 ?_
  refine lv_imul hx hb dX4_loadHead_10 ?_
  refine lv_aload_n hx hb dX4_loadHead_11 rfl (lv_at hl 1 rfl) ?_
  refine lv_aload_n hx hb dX4_loadHead_12 rfl (lv_at hl 2 rfl) ?_
  obtain ⟨⟨r37, s36⟩, hc35, h⟩ := bn_e h
  refine ywV (r0 := r37) (As := [.ref (a 3)]) (rest := [.int (r34 * 65536), .ref (a 71)]) (C := RX4) (n := 1) (ws' := CS D a s36) ⟨hx, hb, hml, hown, ht⟩ (k_x4_nextPair l D a _ _ _ hc35) (zgV ml_X4_118 im_X4_nextPair se_X4_nextPair in_X4 co_X4_nextPair) rfl rfl (by decide +kernel) ⟨Nat.le_of_ble_eq_true rfl, Nat.le_of_ble_eq_true rfl⟩ hN hK hP (hDD _) hS hA 16 CW_16 rfl rfl rfl hl.1 rfl (Nat.le_of_ble_eq_true rfl) dX4_loadHead_13 ⟨Nat.le_of_ble_eq_true rfl, Nat.le_of_ble_eq_true rfl⟩ (fun H locs hP hS => ?_)
  refine lv_iadd hx hb dX4_loadHead_16 ?_
  refine ya_put (D := D) (ci := 8) (v := .int ((r34 * 65536) + r37)) (ty := .int) (C := RX8) (T := TX8) (N := 11) hx hb ht inX8 tyX8 tyX8_ok nmX8 hown hK hP (hDD _) hS 71 CW_71 rfl 1 (by decide) (ht (.fieldLink RX4 28 "CloneVolumes$State" "spent" "I") fl_X4_28) (fun _ h9 => h9) rfl (by decide +kernel) rfl rfl (Nat.le_of_ble_eq_true rfl) dX4_loadHead_17 (CW_w71_1 _) (fun H locs hP hS => ?_)
  obtain ⟨s38, hs38, h⟩ := st_e h
  rw [hs38] at hP
  refine lv_aload_n hx hb dX4_loadHead_20 rfl (lv_at hl 3 rfl) ?_
  refine va_get (D := D) (ci := 8) (v := .int (gI s38 1421)) (C := RX8) (T := TX8) (N := 11) hx hb ht inX8 hown hK hP 71 CW_71 rfl 1 (by decide) (ht (.fieldLink RX4 28 "CloneVolumes$State" "spent" "I") fl_X4_28) (fun _ h9 => h9) rfl dX4_loadHead_21 ?_
  refine lv_ldc (own := RX4) (v := 999999) hx hb hown (ht _ ck_X4_121) dX4_loadHead_24 ?_
  refine lv_icmp_gt (tgt := 33) hx hb dX4_loadHead_26 (by decide) (fun c39 => ?_) (fun c39 => ?_)
  · have h := if_t c39 h
    refine lv_iconst (v := 0) hx hb dX4_loadHead_33 (by decide) ?_
    exact J34 (0, s38) _ _ _ ⟨hP, hS, lv_sub hl [1, 2, 3] rfl, h⟩
  · have h := if_f c39 h
    refine lv_iconst (v := 1) hx hb dX4_loadHead_29 (by decide) ?_
    refine lv_goto (tgt := 34) hx hb dX4_loadHead_30 (by decide) ?_
    exact J34 (1, s38) _ _ _ ⟨hP, hS, lv_sub hl [1, 2, 3] rfl, h⟩
