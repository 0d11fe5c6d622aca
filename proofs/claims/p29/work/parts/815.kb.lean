theorem ck_X6_209 : Cond.constant RX6 209 1000000 ∈ lw_gd := zm (lw_g_3 (List.mem_of_getElem? (i := 189) (by decide +kernel))) rfl
theorem co_X6_comparison : Cond.code yX6_comparison cX6_comparison 2 (some .int) ∈ lw_gd := zm (lw_g_3 (List.mem_of_getElem? (i := 233) (by decide +kernel))) rfl
theorem co_X6_expectNumber : Cond.code yX6_expectNumber cX6_expectNumber 5 (some .int) ∈ lw_gd := zm (lw_g_3 (List.mem_of_getElem? (i := 132) (by decide +kernel))) rfl
theorem co_X6_isFact : Cond.code yX6_isFact cX6_isFact 1 (some .boolean) ∈ lw_gd := zm (lw_g_3 (List.mem_of_getElem? (i := 217) (by decide +kernel))) rfl
theorem co_X6_isWord : Cond.code yX6_isWord cX6_isWord 2 (some .boolean) ∈ lw_gd := zm (lw_g_3 (List.mem_of_getElem? (i := 140) (by decide +kernel))) rfl
theorem co_X6_readChoice : Cond.code yX6_readChoice cX6_readChoice 2 none ∈ lw_gd := zm (lw_g_3 (List.mem_of_getElem? (i := 209) (by decide +kernel))) rfl
theorem co_X6_readFact : Cond.code yX6_readFact cX6_readFact 2 none ∈ lw_gd := zm (lw_g_3 (List.mem_of_getElem? (i := 229) (by decide +kernel))) rfl
theorem co_X6_readOther : Cond.code yX6_readOther cX6_readOther 2 none ∈ lw_gd := zm (lw_g_3 (List.mem_of_getElem? (i := 213) (by decide +kernel))) rfl
theorem co_X6_readProduct : Cond.code yX6_readProduct cX6_readProduct 3 none ∈ lw_gd := zm (lw_g_3 (List.mem_of_getElem? (i := 184) (by decide +kernel))) rfl
theorem co_X6_readTest : Cond.code yX6_readTest cX6_readTest 2 none ∈ lw_gd := zm (lw_g_3 (List.mem_of_getElem? (i := 221) (by decide +kernel))) rfl
theorem fl_X6_69 : Cond.fieldLink RX6 69 "CloneVolumes$Reader" "mode" "I" ∈ lw_gd := zm (lw_g_1 (List.mem_of_getElem? (i := 108) (by decide +kernel))) rfl
theorem im_X6_comparison : Cond.instanceMethod yX6_comparison ∈ lw_gd := zm (lw_g_3 (List.mem_of_getElem? (i := 232) (by decide +kernel))) rfl
theorem im_X6_expectNumber : Cond.instanceMethod yX6_expectNumber ∈ lw_gd := zm (lw_g_3 (List.mem_of_getElem? (i := 131) (by decide +kernel))) rfl
theorem im_X6_isFact : Cond.instanceMethod yX6_isFact ∈ lw_gd := zm (lw_g_3 (List.mem_of_getElem? (i := 216) (by decide +kernel))) rfl
theorem im_X6_isWord : Cond.instanceMethod yX6_isWord ∈ lw_gd := zm (lw_g_3 (List.mem_of_getElem? (i := 139) (by decide +kernel))) rfl
theorem im_X6_readChoice : Cond.instanceMethod yX6_readChoice ∈ lw_gd := zm (lw_g_3 (List.mem_of_getElem? (i := 208) (by decide +kernel))) rfl
theorem im_X6_readFact : Cond.instanceMethod yX6_readFact ∈ lw_gd := zm (lw_g_3 (List.mem_of_getElem? (i := 228) (by decide +kernel))) rfl
theorem im_X6_readOther : Cond.instanceMethod yX6_readOther ∈ lw_gd := zm (lw_g_3 (List.mem_of_getElem? (i := 212) (by decide +kernel))) rfl
theorem im_X6_readProduct : Cond.instanceMethod yX6_readProduct ∈ lw_gd := zm (lw_g_3 (List.mem_of_getElem? (i := 183) (by decide +kernel))) rfl
theorem im_X6_readTest : Cond.instanceMethod yX6_readTest ∈ lw_gd := zm (lw_g_3 (List.mem_of_getElem? (i := 220) (by decide +kernel))) rfl
theorem ml_X6_121 : Cond.methodLink RX6 121 yX6_isWord ∈ lw_gd := zm (lw_g_3 (List.mem_of_getElem? (i := 137) (by decide +kernel))) rfl
theorem ml_X6_151 : Cond.methodLink RX6 151 yX6_expectNumber ∈ lw_gd := zm (lw_g_3 (List.mem_of_getElem? (i := 129) (by decide +kernel))) rfl
theorem ml_X6_194 : Cond.methodLink RX6 194 yX6_readFact ∈ lw_gd := zm (lw_g_3 (List.mem_of_getElem? (i := 226) (by decide +kernel))) rfl
theorem ml_X6_200 : Cond.methodLink RX6 200 yX6_comparison ∈ lw_gd := zm (lw_g_3 (List.mem_of_getElem? (i := 230) (by decide +kernel))) rfl
theorem ml_X6_203 : Cond.methodLink RX6 203 yX6_readProduct ∈ lw_gd := zm (lw_g_3 (List.mem_of_getElem? (i := 181) (by decide +kernel))) rfl
theorem ml_X6_210 : Cond.methodLink RX6 210 yX6_readChoice ∈ lw_gd := zm (lw_g_3 (List.mem_of_getElem? (i := 206) (by decide +kernel))) rfl
theorem ml_X6_213 : Cond.methodLink RX6 213 yX6_readOther ∈ lw_gd := zm (lw_g_3 (List.mem_of_getElem? (i := 210) (by decide +kernel))) rfl
theorem ml_X6_216 : Cond.methodLink RX6 216 yX6_isFact ∈ lw_gd := zm (lw_g_3 (List.mem_of_getElem? (i := 214) (by decide +kernel))) rfl
theorem ml_X6_78 : Cond.methodLink RX6 78 yX6_readTest ∈ lw_gd := zm (lw_g_3 (List.mem_of_getElem? (i := 218) (by decide +kernel))) rfl
theorem se_X6_comparison : Cond.selects RX6 yX6_comparison yX6_comparison ∈ lw_gd := zm (List.mem_of_getElem? (i := 27) (by decide +kernel)) rfl
theorem se_X6_expectNumber : Cond.selects RX6 yX6_expectNumber yX6_expectNumber ∈ lw_gd := zm (List.mem_of_getElem? (i := 7) (by decide +kernel)) rfl
theorem se_X6_isFact : Cond.selects RX6 yX6_isFact yX6_isFact ∈ lw_gd := zm (List.mem_of_getElem? (i := 23) (by decide +kernel)) rfl
theorem se_X6_isWord : Cond.selects RX6 yX6_isWord yX6_isWord ∈ lw_gd := zm (List.mem_of_getElem? (i := 9) (by decide +kernel)) rfl
theorem se_X6_readChoice : Cond.selects RX6 yX6_readChoice yX6_readChoice ∈ lw_gd := zm (List.mem_of_getElem? (i := 21) (by decide +kernel)) rfl
theorem se_X6_readFact : Cond.selects RX6 yX6_readFact yX6_readFact ∈ lw_gd := zm (List.mem_of_getElem? (i := 26) (by decide +kernel)) rfl
theorem se_X6_readOther : Cond.selects RX6 yX6_readOther yX6_readOther ∈ lw_gd := zm (List.mem_of_getElem? (i := 22) (by decide +kernel)) rfl
theorem se_X6_readProduct : Cond.selects RX6 yX6_readProduct yX6_readProduct ∈ lw_gd := zm (List.mem_of_getElem? (i := 16) (by decide +kernel)) rfl
theorem se_X6_readTest : Cond.selects RX6 yX6_readTest yX6_readTest ∈ lw_gd := zm (List.mem_of_getElem? (i := 24) (by decide +kernel)) rfl
theorem eX6_comparison_0 : decode cX6_comparison 0 = .ok (.bipush (-9), 2) ∧ decode cX6_comparison 2 = .ok (.istore_n 1, 1) ∧ decode cX6_comparison 3 = .ok (.aload_n 0, 1) ∧ decode cX6_comparison 4 = .ok (.bipush 60, 2) ∧ decode cX6_comparison 6 = .ok (.invokevirtual 124, 3) ∧ decode cX6_comparison 9 = .ok (.ifCond .eq 9, 3) ∧ decode cX6_comparison 12 = .ok (.bipush (-7), 2) ∧ decode cX6_comparison 14 = .ok (.istore_n 1, 1) := by decide +kernel
theorem eX6_comparison_15 : decode cX6_comparison 15 = .ok (.goto 37, 3) ∧ decode cX6_comparison 18 = .ok (.aload_n 0, 1) ∧ decode cX6_comparison 19 = .ok (.bipush 62, 2) ∧ decode cX6_comparison 21 = .ok (.invokevirtual 124, 3) ∧ decode cX6_comparison 24 = .ok (.ifCond .eq 9, 3) ∧ decode cX6_comparison 27 = .ok (.bipush (-8), 2) ∧ decode cX6_comparison 29 = .ok (.istore_n 1, 1) ∧ decode cX6_comparison 30 = .ok (.goto 22, 3) := by decide +kernel
theorem eX6_comparison_33 : decode cX6_comparison 33 = .ok (.aload_n 0, 1) ∧ decode cX6_comparison 34 = .ok (.bipush 61, 2) ∧ decode cX6_comparison 36 = .ok (.invokevirtual 124, 3) ∧ decode cX6_comparison 39 = .ok (.ifCond .ne 13, 3) ∧ decode cX6_comparison 42 = .ok (.aload_n 0, 1) ∧ decode cX6_comparison 43 = .ok (.iconst 1, 1) ∧ decode cX6_comparison 44 = .ok (.aload_n 0, 1) ∧ decode cX6_comparison 45 = .ok (.getfield 51, 3) := by decide +kernel
theorem eX6_comparison_48 : decode cX6_comparison 48 = .ok (.invokevirtual 54, 3) ∧ decode cX6_comparison 51 = .ok (.pop, 1) ∧ decode cX6_comparison 52 = .ok (.aload_n 0, 1) ∧ decode cX6_comparison 53 = .ok (.invokevirtual 75, 3) ∧ decode cX6_comparison 56 = .ok (.iload_n 1, 1) ∧ decode cX6_comparison 57 = .ok (.ireturn, 1) ∧ decode cX6_expectNumber 0 = .ok (.aload_n 0, 1) ∧ decode cX6_expectNumber 1 = .ok (.getfield 44, 3) := by decide +kernel
theorem eX6_expectNumber_4 : decode cX6_expectNumber 4 = .ok (.iconst 2, 1) ∧ decode cX6_expectNumber 5 = .ok (.if_icmp .eq 15, 3) ∧ decode cX6_expectNumber 8 = .ok (.aload_n 0, 1) ∧ decode cX6_expectNumber 9 = .ok (.iconst 1, 1) ∧ decode cX6_expectNumber 10 = .ok (.aload_n 0, 1) ∧ decode cX6_expectNumber 11 = .ok (.getfield 51, 3) ∧ decode cX6_expectNumber 14 = .ok (.invokevirtual 54, 3) ∧ decode cX6_expectNumber 17 = .ok (.pop, 1) := by decide +kernel
theorem eX6_expectNumber_18 : decode cX6_expectNumber 18 = .ok (.iload_n 1, 1) ∧ decode cX6_expectNumber 19 = .ok (.ireturn, 1) ∧ decode cX6_expectNumber 20 = .ok (.aload_n 0, 1) ∧ decode cX6_expectNumber 21 = .ok (.getfield 88, 3) ∧ decode cX6_expectNumber 24 = .ok (.aload_n 0, 1) ∧ decode cX6_expectNumber 25 = .ok (.getfield 51, 3) ∧ decode cX6_expectNumber 28 = .ok (.isub, 1) ∧ decode cX6_expectNumber 29 = .ok (.iconst 4, 1) := by decide +kernel
theorem eX6_expectNumber_30 : decode cX6_expectNumber 30 = .ok (.if_icmp .le 17, 3) ∧ decode cX6_expectNumber 33 = .ok (.aload_n 0, 1) ∧ decode cX6_expectNumber 34 = .ok (.iconst 1, 1) ∧ decode cX6_expectNumber 35 = .ok (.aload_n 0, 1) ∧ decode cX6_expectNumber 36 = .ok (.getfield 51, 3) ∧ decode cX6_expectNumber 39 = .ok (.iconst 4, 1) ∧ decode cX6_expectNumber 40 = .ok (.iadd, 1) ∧ decode cX6_expectNumber 41 = .ok (.invokevirtual 54, 3) := by decide +kernel
theorem eX6_expectNumber_44 : decode cX6_expectNumber 44 = .ok (.pop, 1) ∧ decode cX6_expectNumber 45 = .ok (.iload_n 1, 1) ∧ decode cX6_expectNumber 46 = .ok (.ireturn, 1) ∧ decode cX6_expectNumber 47 = .ok (.iconst 0, 1) ∧ decode cX6_expectNumber 48 = .ok (.istore_n 3, 1) ∧ decode cX6_expectNumber 49 = .ok (.aload_n 0, 1) ∧ decode cX6_expectNumber 50 = .ok (.getfield 51, 3) ∧ decode cX6_expectNumber 53 = .ok (.istore 4, 2) := by decide +kernel
theorem eX6_expectNumber_55 : decode cX6_expectNumber 55 = .ok (.iload 4, 2) ∧ decode cX6_expectNumber 57 = .ok (.aload_n 0, 1) ∧ decode cX6_expectNumber 58 = .ok (.getfield 88, 3) ∧ decode cX6_expectNumber 61 = .ok (.if_icmp .ge 27, 3) ∧ decode cX6_expectNumber 64 = .ok (.iload_n 3, 1) ∧ decode cX6_expectNumber 65 = .ok (.bipush 10, 2) ∧ decode cX6_expectNumber 67 = .ok (.imul, 1) ∧ decode cX6_expectNumber 68 = .ok (.aload_n 0, 1) := by decide +kernel
theorem eX6_expectNumber_69 : decode cX6_expectNumber 69 = .ok (.getfield 27, 3) ∧ decode cX6_expectNumber 72 = .ok (.iload 4, 2) ∧ decode cX6_expectNumber 74 = .ok (.invokevirtual 104, 3) ∧ decode cX6_expectNumber 77 = .ok (.iadd, 1) ∧ decode cX6_expectNumber 78 = .ok (.bipush 48, 2) ∧ decode cX6_expectNumber 80 = .ok (.isub, 1) ∧ decode cX6_expectNumber 81 = .ok (.istore_n 3, 1) ∧ decode cX6_expectNumber 82 = .ok (.iinc 4 1, 3) := by decide +kernel
theorem eX6_expectNumber_85 : decode cX6_expectNumber 85 = .ok (.goto (-30), 3) ∧ decode cX6_expectNumber 88 = .ok (.iload_n 3, 1) ∧ decode cX6_expectNumber 89 = .ok (.iload_n 1, 1) ∧ decode cX6_expectNumber 90 = .ok (.if_icmp .lt 8, 3) ∧ decode cX6_expectNumber 93 = .ok (.iload_n 3, 1) ∧ decode cX6_expectNumber 94 = .ok (.iload_n 2, 1) ∧ decode cX6_expectNumber 95 = .ok (.if_icmp .le 15, 3) ∧ decode cX6_expectNumber 98 = .ok (.aload_n 0, 1) := by decide +kernel
theorem eX6_expectNumber_99 : decode cX6_expectNumber 99 = .ok (.iconst 2, 1) ∧ decode cX6_expectNumber 100 = .ok (.aload_n 0, 1) ∧ decode cX6_expectNumber 101 = .ok (.getfield 51, 3) ∧ decode cX6_expectNumber 104 = .ok (.invokevirtual 54, 3) ∧ decode cX6_expectNumber 107 = .ok (.pop, 1) ∧ decode cX6_expectNumber 108 = .ok (.iload_n 1, 1) ∧ decode cX6_expectNumber 109 = .ok (.ireturn, 1) ∧ decode cX6_expectNumber 110 = .ok (.aload_n 0, 1) := by decide +kernel
theorem eX6_expectNumber_111 : decode cX6_expectNumber 111 = .ok (.invokevirtual 75, 3) ∧ decode cX6_expectNumber 114 = .ok (.iload_n 3, 1) ∧ decode cX6_expectNumber 115 = .ok (.ireturn, 1) ∧ decode cX6_isFact 0 = .ok (.aload_n 0, 1) ∧ decode cX6_isFact 1 = .ok (.getfield 44, 3) ∧ decode cX6_isFact 4 = .ok (.iconst 1, 1) ∧ decode cX6_isFact 5 = .ok (.if_icmp .eq 5, 3) ∧ decode cX6_isFact 8 = .ok (.iconst 0, 1) := by decide +kernel
theorem eX6_isFact_9 : decode cX6_isFact 9 = .ok (.ireturn, 1) ∧ decode cX6_isFact 10 = .ok (.aload_n 0, 1) ∧ decode cX6_isFact 11 = .ok (.getfield 72, 3) ∧ decode cX6_isFact 14 = .ok (.tableswitch 109 11 18 #[48, 69, 46, 82, 95, 95, 95, 95], 46) ∧ decode cX6_isFact 60 = .ok (.iconst 1, 1) ∧ decode cX6_isFact 61 = .ok (.ireturn, 1) ∧ decode cX6_isFact 62 = .ok (.aload_n 0, 1) ∧ decode cX6_isFact 63 = .ok (.getfield 69, 3) := by decide +kernel
theorem eX6_isFact_66 : decode cX6_isFact 66 = .ok (.ifCond .eq 11, 3) ∧ decode cX6_isFact 69 = .ok (.aload_n 0, 1) ∧ decode cX6_isFact 70 = .ok (.getfield 69, 3) ∧ decode cX6_isFact 73 = .ok (.iconst 2, 1) ∧ decode cX6_isFact 74 = .ok (.if_icmp .ne 7, 3) ∧ decode cX6_isFact 77 = .ok (.iconst 1, 1) ∧ decode cX6_isFact 78 = .ok (.goto 4, 3) ∧ decode cX6_isFact 81 = .ok (.iconst 0, 1) := by decide +kernel
theorem eX6_isFact_82 : decode cX6_isFact 82 = .ok (.ireturn, 1) ∧ decode cX6_isFact 83 = .ok (.aload_n 0, 1) ∧ decode cX6_isFact 84 = .ok (.getfield 69, 3) ∧ decode cX6_isFact 87 = .ok (.ifCond .ne 7, 3) ∧ decode cX6_isFact 90 = .ok (.iconst 1, 1) ∧ decode cX6_isFact 91 = .ok (.goto 4, 3) ∧ decode cX6_isFact 94 = .ok (.iconst 0, 1) ∧ decode cX6_isFact 95 = .ok (.ireturn, 1) := by decide +kernel
theorem eX6_isFact_96 : decode cX6_isFact 96 = .ok (.aload_n 0, 1) ∧ decode cX6_isFact 97 = .ok (.getfield 69, 3) ∧ decode cX6_isFact 100 = .ok (.ifCond .eq 7, 3) ∧ decode cX6_isFact 103 = .ok (.iconst 1, 1) ∧ decode cX6_isFact 104 = .ok (.goto 4, 3) ∧ decode cX6_isFact 107 = .ok (.iconst 0, 1) ∧ decode cX6_isFact 108 = .ok (.ireturn, 1) ∧ decode cX6_isFact 109 = .ok (.aload_n 0, 1) := by decide +kernel
theorem eX6_isFact_110 : decode cX6_isFact 110 = .ok (.getfield 69, 3) ∧ decode cX6_isFact 113 = .ok (.iconst 3, 1) ∧ decode cX6_isFact 114 = .ok (.if_icmp .ne 7, 3) ∧ decode cX6_isFact 117 = .ok (.iconst 1, 1) ∧ decode cX6_isFact 118 = .ok (.goto 4, 3) ∧ decode cX6_isFact 121 = .ok (.iconst 0, 1) ∧ decode cX6_isFact 122 = .ok (.ireturn, 1) ∧ decode cX6_isFact 123 = .ok (.iconst 0, 1) := by decide +kernel
theorem eX6_isFact_124 : decode cX6_isFact 124 = .ok (.ireturn, 1) ∧ decode cX6_isWord 0 = .ok (.aload_n 0, 1) ∧ decode cX6_isWord 1 = .ok (.getfield 44, 3) ∧ decode cX6_isWord 4 = .ok (.iconst 1, 1) ∧ decode cX6_isWord 5 = .ok (.if_icmp .ne 15, 3) ∧ decode cX6_isWord 8 = .ok (.aload_n 0, 1) ∧ decode cX6_isWord 9 = .ok (.getfield 72, 3) ∧ decode cX6_isWord 12 = .ok (.iload_n 1, 1) := by decide +kernel
theorem eX6_isWord_13 : decode cX6_isWord 13 = .ok (.if_icmp .ne 7, 3) ∧ decode cX6_isWord 16 = .ok (.iconst 1, 1) ∧ decode cX6_isWord 17 = .ok (.goto 4, 3) ∧ decode cX6_isWord 20 = .ok (.iconst 0, 1) ∧ decode cX6_isWord 21 = .ok (.ireturn, 1) ∧ decode cX6_readFact 0 = .ok (.aload_n 0, 1) ∧ decode cX6_readFact 1 = .ok (.bipush 23, 2) ∧ decode cX6_readFact 3 = .ok (.invokevirtual 121, 3) := by decide +kernel
theorem eX6_readFact_6 : decode cX6_readFact 6 = .ok (.ifCond .eq 40, 3) ∧ decode cX6_readFact 9 = .ok (.aload_n 0, 1) ∧ decode cX6_readFact 10 = .ok (.invokevirtual 197, 3) ∧ decode cX6_readFact 13 = .ok (.ifCond .eq 121, 3) ∧ decode cX6_readFact 16 = .ok (.aload_n 0, 1) ∧ decode cX6_readFact 17 = .ok (.invokevirtual 75, 3) ∧ decode cX6_readFact 20 = .ok (.aload_n 0, 1) ∧ decode cX6_readFact 21 = .ok (.invokevirtual 194, 3) := by decide +kernel
theorem eX6_readFact_24 : decode cX6_readFact 24 = .ok (.aload_n 0, 1) ∧ decode cX6_readFact 25 = .ok (.getfield 84, 3) ∧ decode cX6_readFact 28 = .ok (.bipush (-12), 2) ∧ decode cX6_readFact 30 = .ok (.invokevirtual 191, 3) ∧ decode cX6_readFact 33 = .ok (.aload_n 0, 1) ∧ decode cX6_readFact 34 = .ok (.dup, 1) ∧ decode cX6_readFact 35 = .ok (.getfield 85, 3) ∧ decode cX6_readFact 38 = .ok (.iconst 1, 1) := by decide +kernel
theorem eX6_readFact_39 : decode cX6_readFact 39 = .ok (.isub, 1) ∧ decode cX6_readFact 40 = .ok (.putfield 85, 3) ∧ decode cX6_readFact 43 = .ok (.goto 91, 3) ∧ decode cX6_readFact 46 = .ok (.aload_n 0, 1) ∧ decode cX6_readFact 47 = .ok (.bipush 91, 2) ∧ decode cX6_readFact 49 = .ok (.invokevirtual 124, 3) ∧ decode cX6_readFact 52 = .ok (.ifCond .eq 37, 3) ∧ decode cX6_readFact 55 = .ok (.aload_n 0, 1) := by decide +kernel
theorem eX6_readFact_56 : decode cX6_readFact 56 = .ok (.invokevirtual 197, 3) ∧ decode cX6_readFact 59 = .ok (.ifCond .eq 75, 3) ∧ decode cX6_readFact 62 = .ok (.aload_n 0, 1) ∧ decode cX6_readFact 63 = .ok (.invokevirtual 75, 3) ∧ decode cX6_readFact 66 = .ok (.aload_n 0, 1) ∧ decode cX6_readFact 67 = .ok (.invokevirtual 78, 3) ∧ decode cX6_readFact 70 = .ok (.aload_n 0, 1) ∧ decode cX6_readFact 71 = .ok (.bipush 93, 2) := by decide +kernel
theorem eX6_readFact_73 : decode cX6_readFact 73 = .ok (.invokevirtual 158, 3) ∧ decode cX6_readFact 76 = .ok (.aload_n 0, 1) ∧ decode cX6_readFact 77 = .ok (.dup, 1) ∧ decode cX6_readFact 78 = .ok (.getfield 85, 3) ∧ decode cX6_readFact 81 = .ok (.iconst 1, 1) ∧ decode cX6_readFact 82 = .ok (.isub, 1) ∧ decode cX6_readFact 83 = .ok (.putfield 85, 3) ∧ decode cX6_readFact 86 = .ok (.goto 48, 3) := by decide +kernel
theorem eX6_readFact_89 : decode cX6_readFact 89 = .ok (.aload_n 0, 1) ∧ decode cX6_readFact 90 = .ok (.bipush 24, 2) ∧ decode cX6_readFact 92 = .ok (.invokevirtual 121, 3) ∧ decode cX6_readFact 95 = .ok (.ifCond .eq 18, 3) ∧ decode cX6_readFact 98 = .ok (.aload_n 0, 1) ∧ decode cX6_readFact 99 = .ok (.getfield 84, 3) ∧ decode cX6_readFact 102 = .ok (.iconst 1, 1) ∧ decode cX6_readFact 103 = .ok (.invokevirtual 191, 3) := by decide +kernel
theorem eX6_readFact_106 : decode cX6_readFact 106 = .ok (.aload_n 0, 1) ∧ decode cX6_readFact 107 = .ok (.invokevirtual 75, 3) ∧ decode cX6_readFact 110 = .ok (.goto 24, 3) ∧ decode cX6_readFact 113 = .ok (.aload_n 0, 1) ∧ decode cX6_readFact 114 = .ok (.invokevirtual 81, 3) ∧ decode cX6_readFact 117 = .ok (.aload_n 0, 1) ∧ decode cX6_readFact 118 = .ok (.invokevirtual 200, 3) ∧ decode cX6_readFact 121 = .ok (.istore_n 1, 1) := by decide +kernel
theorem eX6_readFact_122 : decode cX6_readFact 122 = .ok (.aload_n 0, 1) ∧ decode cX6_readFact 123 = .ok (.invokevirtual 81, 3) ∧ decode cX6_readFact 126 = .ok (.aload_n 0, 1) ∧ decode cX6_readFact 127 = .ok (.getfield 84, 3) ∧ decode cX6_readFact 130 = .ok (.iload_n 1, 1) ∧ decode cX6_readFact 131 = .ok (.invokevirtual 191, 3) ∧ decode cX6_readFact 134 = .ok (.return_, 1) ∧ decode cX6_readPart 0 = .ok (.aload_n 0, 1) := by decide +kernel
theorem eX6_readPart_1 : decode cX6_readPart 1 = .ok (.getfield 44, 3) ∧ decode cX6_readPart 4 = .ok (.iconst 2, 1) ∧ decode cX6_readPart 5 = .ok (.if_icmp .ne 20, 3) ∧ decode cX6_readPart 8 = .ok (.aload_n 0, 1) ∧ decode cX6_readPart 9 = .ok (.getfield 84, 3) ∧ decode cX6_readPart 12 = .ok (.aload_n 0, 1) ∧ decode cX6_readPart 13 = .ok (.iconst 0, 1) ∧ decode cX6_readPart 14 = .ok (.ldc 209, 2) := by decide +kernel
theorem eX6_readPart_16 : decode cX6_readPart 16 = .ok (.invokevirtual 151, 3) ∧ decode cX6_readPart 19 = .ok (.invokevirtual 191, 3) ∧ decode cX6_readPart 22 = .ok (.goto 174, 3) ∧ decode cX6_readPart 25 = .ok (.aload_n 0, 1) ∧ decode cX6_readPart 26 = .ok (.bipush 40, 2) ∧ decode cX6_readPart 28 = .ok (.invokevirtual 124, 3) ∧ decode cX6_readPart 31 = .ok (.ifCond .eq 37, 3) ∧ decode cX6_readPart 34 = .ok (.aload_n 0, 1) := by decide +kernel
theorem eX6_readPart_35 : decode cX6_readPart 35 = .ok (.invokevirtual 197, 3) ∧ decode cX6_readPart 38 = .ok (.ifCond .eq 158, 3) ∧ decode cX6_readPart 41 = .ok (.aload_n 0, 1) ∧ decode cX6_readPart 42 = .ok (.invokevirtual 75, 3) ∧ decode cX6_readPart 45 = .ok (.aload_n 0, 1) ∧ decode cX6_readPart 46 = .ok (.invokevirtual 81, 3) ∧ decode cX6_readPart 49 = .ok (.aload_n 0, 1) ∧ decode cX6_readPart 50 = .ok (.bipush 41, 2) := by decide +kernel
theorem eX6_readPart_52 : decode cX6_readPart 52 = .ok (.invokevirtual 158, 3) ∧ decode cX6_readPart 55 = .ok (.aload_n 0, 1) ∧ decode cX6_readPart 56 = .ok (.dup, 1) ∧ decode cX6_readPart 57 = .ok (.getfield 85, 3) ∧ decode cX6_readPart 60 = .ok (.iconst 1, 1) ∧ decode cX6_readPart 61 = .ok (.isub, 1) ∧ decode cX6_readPart 62 = .ok (.putfield 85, 3) ∧ decode cX6_readPart 65 = .ok (.goto 131, 3) := by decide +kernel
theorem eX6_readPart_68 : decode cX6_readPart 68 = .ok (.aload_n 0, 1) ∧ decode cX6_readPart 69 = .ok (.bipush 25, 2) ∧ decode cX6_readPart 71 = .ok (.invokevirtual 121, 3) ∧ decode cX6_readPart 74 = .ok (.ifCond .ne 12, 3) ∧ decode cX6_readPart 77 = .ok (.aload_n 0, 1) ∧ decode cX6_readPart 78 = .ok (.bipush 26, 2) ∧ decode cX6_readPart 80 = .ok (.invokevirtual 121, 3) ∧ decode cX6_readPart 83 = .ok (.ifCond .eq 26, 3) := by decide +kernel
theorem eX6_readPart_86 : decode cX6_readPart 86 = .ok (.aload_n 0, 1) ∧ decode cX6_readPart 87 = .ok (.aload_n 0, 1) ∧ decode cX6_readPart 88 = .ok (.bipush 25, 2) ∧ decode cX6_readPart 90 = .ok (.invokevirtual 121, 3) ∧ decode cX6_readPart 93 = .ok (.ifCond .eq 8, 3) ∧ decode cX6_readPart 96 = .ok (.bipush (-5), 2) ∧ decode cX6_readPart 98 = .ok (.goto 5, 3) ∧ decode cX6_readPart 101 = .ok (.bipush (-6), 2) := by decide +kernel
theorem eX6_readPart_103 : decode cX6_readPart 103 = .ok (.invokevirtual 210, 3) ∧ decode cX6_readPart 106 = .ok (.goto 90, 3) ∧ decode cX6_readPart 109 = .ok (.aload_n 0, 1) ∧ decode cX6_readPart 110 = .ok (.getfield 69, 3) ∧ decode cX6_readPart 113 = .ok (.iconst 3, 1) ∧ decode cX6_readPart 114 = .ok (.if_icmp .ne 44, 3) ∧ decode cX6_readPart 117 = .ok (.aload_n 0, 1) ∧ decode cX6_readPart 118 = .ok (.bipush 19, 2) := by decide +kernel
theorem eX6_readPart_120 : decode cX6_readPart 120 = .ok (.invokevirtual 121, 3) ∧ decode cX6_readPart 123 = .ok (.ifCond .ne 12, 3) ∧ decode cX6_readPart 126 = .ok (.aload_n 0, 1) ∧ decode cX6_readPart 127 = .ok (.bipush 20, 2) ∧ decode cX6_readPart 129 = .ok (.invokevirtual 121, 3) ∧ decode cX6_readPart 132 = .ok (.ifCond .eq 26, 3) ∧ decode cX6_readPart 135 = .ok (.aload_n 0, 1) ∧ decode cX6_readPart 136 = .ok (.aload_n 0, 1) := by decide +kernel
theorem eX6_readPart_137 : decode cX6_readPart 137 = .ok (.bipush 19, 2) ∧ decode cX6_readPart 139 = .ok (.invokevirtual 121, 3) ∧ decode cX6_readPart 142 = .ok (.ifCond .eq 8, 3) ∧ decode cX6_readPart 145 = .ok (.bipush (-13), 2) ∧ decode cX6_readPart 147 = .ok (.goto 5, 3) ∧ decode cX6_readPart 150 = .ok (.bipush (-14), 2) ∧ decode cX6_readPart 152 = .ok (.invokevirtual 213, 3) ∧ decode cX6_readPart 155 = .ok (.goto 41, 3) := by decide +kernel
theorem eX6_readPart_158 : decode cX6_readPart 158 = .ok (.aload_n 0, 1) ∧ decode cX6_readPart 159 = .ok (.invokevirtual 216, 3) ∧ decode cX6_readPart 162 = .ok (.ifCond .eq 24, 3) ∧ decode cX6_readPart 165 = .ok (.aload_n 0, 1) ∧ decode cX6_readPart 166 = .ok (.getfield 84, 3) ∧ decode cX6_readPart 169 = .ok (.bipush (-100), 2) ∧ decode cX6_readPart 171 = .ok (.aload_n 0, 1) ∧ decode cX6_readPart 172 = .ok (.getfield 72, 3) := by decide +kernel
theorem eX6_readPart_175 : decode cX6_readPart 175 = .ok (.isub, 1) ∧ decode cX6_readPart 176 = .ok (.invokevirtual 191, 3) ∧ decode cX6_readPart 179 = .ok (.aload_n 0, 1) ∧ decode cX6_readPart 180 = .ok (.invokevirtual 75, 3) ∧ decode cX6_readPart 183 = .ok (.goto 13, 3) ∧ decode cX6_readPart 186 = .ok (.aload_n 0, 1) ∧ decode cX6_readPart 187 = .ok (.iconst 1, 1) ∧ decode cX6_readPart 188 = .ok (.aload_n 0, 1) := by decide +kernel
theorem eX6_readPart_189 : decode cX6_readPart 189 = .ok (.getfield 51, 3) ∧ decode cX6_readPart 192 = .ok (.invokevirtual 54, 3) ∧ decode cX6_readPart 195 = .ok (.pop, 1) ∧ decode cX6_readPart 196 = .ok (.return_, 1) ∧ decode cX6_readProduct 0 = .ok (.aload_n 0, 1) ∧ decode cX6_readProduct 1 = .ok (.invokevirtual 206, 3) ∧ decode cX6_readProduct 4 = .ok (.iconst 0, 1) ∧ decode cX6_readProduct 5 = .ok (.istore_n 1, 1) := by decide +kernel
theorem eX6_readProduct_6 : decode cX6_readProduct 6 = .ok (.iload_n 1, 1) ∧ decode cX6_readProduct 7 = .ok (.sipush 1600, 3) ∧ decode cX6_readProduct 10 = .ok (.if_icmp .ge 60, 3) ∧ decode cX6_readProduct 13 = .ok (.aload_n 0, 1) ∧ decode cX6_readProduct 14 = .ok (.bipush 42, 2) ∧ decode cX6_readProduct 16 = .ok (.invokevirtual 124, 3) ∧ decode cX6_readProduct 19 = .ok (.ifCond .ne 12, 3) ∧ decode cX6_readProduct 22 = .ok (.aload_n 0, 1) := by decide +kernel
theorem eX6_readProduct_23 : decode cX6_readProduct 23 = .ok (.bipush 47, 2) ∧ decode cX6_readProduct 25 = .ok (.invokevirtual 124, 3) ∧ decode cX6_readProduct 28 = .ok (.ifCond .eq 42, 3) ∧ decode cX6_readProduct 31 = .ok (.aload_n 0, 1) ∧ decode cX6_readProduct 32 = .ok (.bipush 42, 2) ∧ decode cX6_readProduct 34 = .ok (.invokevirtual 124, 3) ∧ decode cX6_readProduct 37 = .ok (.ifCond .eq 8, 3) ∧ decode cX6_readProduct 40 = .ok (.bipush (-3), 2) := by decide +kernel
theorem eX6_readProduct_42 : decode cX6_readProduct 42 = .ok (.goto 5, 3) ∧ decode cX6_readProduct 45 = .ok (.bipush (-4), 2) ∧ decode cX6_readProduct 47 = .ok (.istore_n 2, 1) ∧ decode cX6_readProduct 48 = .ok (.aload_n 0, 1) ∧ decode cX6_readProduct 49 = .ok (.invokevirtual 75, 3) ∧ decode cX6_readProduct 52 = .ok (.aload_n 0, 1) ∧ decode cX6_readProduct 53 = .ok (.invokevirtual 206, 3) ∧ decode cX6_readProduct 56 = .ok (.aload_n 0, 1) := by decide +kernel
theorem eX6_readProduct_57 : decode cX6_readProduct 57 = .ok (.getfield 84, 3) ∧ decode cX6_readProduct 60 = .ok (.iload_n 2, 1) ∧ decode cX6_readProduct 61 = .ok (.invokevirtual 191, 3) ∧ decode cX6_readProduct 64 = .ok (.iinc 1 1, 3) ∧ decode cX6_readProduct 67 = .ok (.goto (-61), 3) ∧ decode cX6_readProduct 70 = .ok (.return_, 1) ∧ decode cX6_readSum 0 = .ok (.aload_n 0, 1) ∧ decode cX6_readSum 1 = .ok (.invokevirtual 203, 3) := by decide +kernel
theorem eX6_readSum_4 : decode cX6_readSum 4 = .ok (.iconst 0, 1) ∧ decode cX6_readSum 5 = .ok (.istore_n 1, 1) ∧ decode cX6_readSum 6 = .ok (.iload_n 1, 1) ∧ decode cX6_readSum 7 = .ok (.sipush 1600, 3) ∧ decode cX6_readSum 10 = .ok (.if_icmp .ge 59, 3) ∧ decode cX6_readSum 13 = .ok (.aload_n 0, 1) ∧ decode cX6_readSum 14 = .ok (.bipush 43, 2) ∧ decode cX6_readSum 16 = .ok (.invokevirtual 124, 3) := by decide +kernel
theorem eX6_readSum_19 : decode cX6_readSum 19 = .ok (.ifCond .ne 12, 3) ∧ decode cX6_readSum 22 = .ok (.aload_n 0, 1) ∧ decode cX6_readSum 23 = .ok (.bipush 45, 2) ∧ decode cX6_readSum 25 = .ok (.invokevirtual 124, 3) ∧ decode cX6_readSum 28 = .ok (.ifCond .eq 41, 3) ∧ decode cX6_readSum 31 = .ok (.aload_n 0, 1) ∧ decode cX6_readSum 32 = .ok (.bipush 43, 2) ∧ decode cX6_readSum 34 = .ok (.invokevirtual 124, 3) := by decide +kernel
theorem eX6_readSum_37 : decode cX6_readSum 37 = .ok (.ifCond .eq 7, 3) ∧ decode cX6_readSum 40 = .ok (.iconst (-1), 1) ∧ decode cX6_readSum 41 = .ok (.goto 5, 3) ∧ decode cX6_readSum 44 = .ok (.bipush (-2), 2) ∧ decode cX6_readSum 46 = .ok (.istore_n 2, 1) ∧ decode cX6_readSum 47 = .ok (.aload_n 0, 1) ∧ decode cX6_readSum 48 = .ok (.invokevirtual 75, 3) ∧ decode cX6_readSum 51 = .ok (.aload_n 0, 1) := by decide +kernel
theorem eX6_readSum_52 : decode cX6_readSum 52 = .ok (.invokevirtual 203, 3) ∧ decode cX6_readSum 55 = .ok (.aload_n 0, 1) ∧ decode cX6_readSum 56 = .ok (.getfield 84, 3) ∧ decode cX6_readSum 59 = .ok (.iload_n 2, 1) ∧ decode cX6_readSum 60 = .ok (.invokevirtual 191, 3) ∧ decode cX6_readSum 63 = .ok (.iinc 1 1, 3) ∧ decode cX6_readSum 66 = .ok (.goto (-60), 3) ∧ decode cX6_readSum 69 = .ok (.return_, 1) := by decide +kernel
set_option maxHeartbeats 4000000 in
set_option maxRecDepth 100000 in
theorem k_x6_isFact (l : Launch) (D : va_G) (a : Nat → Nat) (s : MS) (o : Int) (h : m_x6_isFact s = some o) : yRi l yX6_isFact cX6_isFact 1 (some .boolean) { frames := 0, cells := 0, slots := 0, locals := 0 } D [.ref (a 5)] (CS D a s) (i2 o) := by
  refine Met.ofW (cc := cX6_isFact) (maxL := 1) (ret := (some .boolean)) (by decide) rfl ?_
  intro p e s₀ m args below meth c s₁ B hml hv
  obtain ⟨rfl, ⟨hP, hK⟩, hN⟩ := hv
  have hx := B.exec
  have hb := B.bytes
  have hr := B.returns
  have hts := atoms_spec (ws := wz yX6_isFact cX6_isFact 1 (some .boolean)) B.pre
  have ht : ∀ w ∈ lw_gd, w.before _ s₀ = true := fun w h => hts w (List.mem_cons_of_mem _ h)
  have hown : s₀.vm.findClass RX6 = some m.cls := findClass_of_methodNamed B.named
  have hlocks := B.notSynchronized
  have hS : va_S (fun _ => False) s₀.heap s₀.heap [] := va_S.rf
  have hl := lv_entry ([.ref (a 5)]) (n := 1) (Nat.le_of_ble_eq_true rfl)
  rw [lg_entry_eq]
  generalize (lg_sl ([.ref (a 5)]) ++ List.replicate (1 - (lg_sl ([.ref (a 5)])).length) Slot.unset).toArray = ls at hl ⊢
  have hl : lv_has ls 1 [(0, .ref (a 5))] := hl
  unfold m_x6_isFact at h
  refine y_head (pcJ := 122) (σ := Int) (fun u H locs ls => va_P D vwCl (CS D a s) H ∧ va_S (fun _ => False) s₀.heap H locs ∧ lv_has ls 1 [] ∧ m_x6_isFact_J122 s u = some o) (fun u => [.int (i2 u)]) (fun u H locs ls hI => ?_) (fun J122 => ?_)
  · obtain ⟨hP, hS, hl, h⟩ := hI
    obtain ⟨x1, rfl⟩ : ∃ z, z = u := ⟨u, rfl⟩
    have hP : va_P D vwCl (CS D a s) H := hP
    have hl : lv_has ls 1 [] := hl
    have h : m_x6_isFact_J122 s x1 = some o := h
    unfold m_x6_isFact_J122 at h
    obtain ⟨hb2, h⟩ := bo_e h
    obtain rfl := Option.some.inj h
    exact W.zret (v := (i2 x1)) hx hb hr (bo_n hb2) (fun t ht hW => ⟨⟨_, (), rfl, rfl, trivial⟩, hS.F ht⟩) hS.2.2 eX6_isFact_110.2.2.2.2.2.2.1
  refine y_head (pcJ := 109) (σ := Unit) (fun u H locs ls => va_P D vwCl (CS D a s) H ∧ va_S (fun _ => False) s₀.heap H locs ∧ lv_has ls 1 [(0, .ref (a 5))] ∧ m_x6_isFact_J109 s u = some o) (fun u => []) (fun u H locs ls hI => ?_) (fun J109 => ?_)
  · obtain ⟨hP, hS, hl, h⟩ := hI
    skip
    have hP : va_P D vwCl (CS D a s) H := hP
    have hl : lv_has ls 1 [(0, .ref (a 5))] := hl
    have h : m_x6_isFact_J109 s () = some o := h
    unfold m_x6_isFact_J109 at h
    refine lv_aload_n hx hb eX6_isFact_96.2.2.2.2.2.2.2 rfl (lv_at hl 0 rfl) ?_
    refine va_get (D := D) (ci := 6) (v := .int (i2 (gI s 105))) (C := RX6) (T := TX6) (N := 12) hx hb ht inX6 hown hK hP 5 CW_5 rfl 5 (by decide) (ht (.fieldLink RX6 69 "CloneVolumes$Reader" "mode" "I") fl_X6_69) (fun _ h9 => h9) rfl eX6_isFact_110.1 ?_
    refine lv_iconst (v := 3) hx hb eX6_isFact_110.2.1 (by decide) ?_
    obtain ⟨hr3, h⟩ := rg_e h
    refine lv_icmp_ne (tgt := 121) hx hb eX6_isFact_110.2.2.1 (by decide) (fun c4 => ?_) (fun c4 => ?_)
    · have h := if_f (mt (i2_eq (x := (gI s 105)) (y := 3) hr3 (by decide)).mpr c4) h
      refine lv_iconst (v := 0) hx hb eX6_isFact_110.2.2.2.2.2.1 (by decide) ?_
      exact J122 0 _ _ _ ⟨hP, hS, lv_sub hl [] rfl, h⟩
    · have h := if_t ((i2_eq (x := (gI s 105)) (y := 3) hr3 (by decide)).mp c4) h
      refine lv_iconst (v := 1) hx hb eX6_isFact_110.2.2.2.1 (by decide) ?_
      refine lv_goto (tgt := 122) hx hb eX6_isFact_110.2.2.2.2.1 (by decide) ?_
      exact J122 1 _ _ _ ⟨hP, hS, lv_sub hl [] rfl, h⟩
  refine y_head (pcJ := 108) (σ := Int) (fun u H locs ls => va_P D vwCl (CS D a s) H ∧ va_S (fun _ => False) s₀.heap H locs ∧ lv_has ls 1 [] ∧ m_x6_isFact_J108 s u = some o) (fun u => [.int (i2 u)]) (fun u H locs ls hI => ?_) (fun J108 => ?_)
  · obtain ⟨hP, hS, hl, h⟩ := hI
    obtain ⟨x5, rfl⟩ : ∃ z, z = u := ⟨u, rfl⟩
    have hP : va_P D vwCl (CS D a s) H := hP
    have hl : lv_has ls 1 [] := hl
    have h : m_x6_isFact_J108 s x5 = some o := h
    unfold m_x6_isFact_J108 at h
    obtain ⟨hb6, h⟩ := bo_e h
    obtain rfl := Option.some.inj h
    exact W.zret (v := (i2 x5)) hx hb hr (bo_n hb6) (fun t ht hW => ⟨⟨_, (), rfl, rfl, trivial⟩, hS.F ht⟩) hS.2.2 eX6_isFact_96.2.2.2.2.2.2.1
  refine y_head (pcJ := 95) (σ := Int) (fun u H locs ls => va_P D vwCl (CS D a s) H ∧ va_S (fun _ => False) s₀.heap H locs ∧ lv_has ls 1 [] ∧ m_x6_isFact_J95 s u = some o) (fun u => [.int (i2 u)]) (fun u H locs ls hI => ?_) (fun J95 => ?_)
  · obtain ⟨hP, hS, hl, h⟩ := hI
    obtain ⟨x7, rfl⟩ : ∃ z, z = u := ⟨u, rfl⟩
    have hP : va_P D vwCl (CS D a s) H := hP
    have hl : lv_has ls 1 [] := hl
    have h : m_x6_isFact_J95 s x7 = some o := h
    unfold m_x6_isFact_J95 at h
    obtain ⟨hb8, h⟩ := bo_e h
    obtain rfl := Option.some.inj h
    exact W.zret (v := (i2 x7)) hx hb hr (bo_n hb8) (fun t ht hW => ⟨⟨_, (), rfl, rfl, trivial⟩, hS.F ht⟩) hS.2.2 eX6_isFact_82.2.2.2.2.2.2.2
  refine y_head (pcJ := 82) (σ := Int) (fun u H locs ls => va_P D vwCl (CS D a s) H ∧ va_S (fun _ => False) s₀.heap H locs ∧ lv_has ls 1 [] ∧ m_x6_isFact_J82 s u = some o) (fun u => [.int (i2 u)]) (fun u H locs ls hI => ?_) (fun J82 => ?_)
  · obtain ⟨hP, hS, hl, h⟩ := hI
    obtain ⟨x9, rfl⟩ : ∃ z, z = u := ⟨u, rfl⟩
    have hP : va_P D vwCl (CS D a s) H := hP
    have hl : lv_has ls 1 [] := hl
    have h : m_x6_isFact_J82 s x9 = some o := h
    unfold m_x6_isFact_J82 at h
    obtain ⟨hb10, h⟩ := bo_e h
    obtain rfl := Option.some.inj h
    exact W.zret (v := (i2 x9)) hx hb hr (bo_n hb10) (fun t ht hW => ⟨⟨_, (), rfl, rfl, trivial⟩, hS.F ht⟩) hS.2.2 eX6_isFact_82.1
  refine y_head (pcJ := 77) (σ := Unit) (fun u H locs ls => va_P D vwCl (CS D a s) H ∧ va_S (fun _ => False) s₀.heap H locs ∧ lv_has ls 1 [] ∧ m_x6_isFact_J77 s u = some o) (fun u => []) (fun u H locs ls hI => ?_) (fun J77 => ?_)
  · obtain ⟨hP, hS, hl, h⟩ := hI
    skip
    have hP : va_P D vwCl (CS D a s) H := hP
    have hl : lv_has ls 1 [] := hl
    have h : m_x6_isFact_J77 s () = some o := h
    unfold m_x6_isFact_J77 at h
    refine lv_iconst (v := 1) hx hb eX6_isFact_66.2.2.2.2.2.1 (by decide) ?_
    refine lv_goto (tgt := 82) hx hb eX6_isFact_66.2.2.2.2.2.2.1 (by decide) ?_
    exact J82 1 _ _ _ ⟨hP, hS, lv_sub hl [] rfl, h⟩
  refine lv_aload_n hx hb eX6_expectNumber_111.2.2.2.1 rfl (lv_at hl 0 rfl) ?_
  refine va_get (D := D) (ci := 6) (v := .int (i2 (gI s 107))) (C := RX6) (T := TX6) (N := 12) hx hb ht inX6 hown hK hP 5 CW_5 rfl 7 (by decide) (ht (.fieldLink RX6 44 "CloneVolumes$Reader" "kind" "I") fl_X6_44) (fun _ h9 => h9) rfl eX6_expectNumber_111.2.2.2.2.1 ?_
  refine lv_iconst (v := 1) hx hb eX6_expectNumber_111.2.2.2.2.2.1 (by decide) ?_
  obtain ⟨hr11, h⟩ := rg_e h
  refine lv_icmp_eq (tgt := 10) hx hb eX6_expectNumber_111.2.2.2.2.2.2.1 (by decide) (fun c12 => ?_) (fun c12 => ?_)
  · have h := if_t ((i2_eq (x := (gI s 107)) (y := 1) hr11 (by decide)).mp c12) h
    refine lv_aload_n hx hb eX6_isFact_9.2.1 rfl (lv_at hl 0 rfl) ?_
    refine va_get (D := D) (ci := 6) (v := .int (i2 (gI s 110))) (C := RX6) (T := TX6) (N := 12) hx hb ht inX6 hown hK hP 5 CW_5 rfl 10 (by decide) (ht (.fieldLink RX6 72 "CloneVolumes$Reader" "word" "I") fl_X6_72) (fun _ h9 => h9) rfl eX6_isFact_9.2.2.1 ?_
    obtain ⟨hr13, h⟩ := rg_e h
    by_cases c14 : (gI s 110) = 11
    · have h := if_t c14 h
      refine lv_tableIn (off := 48) (tgt := 62) hx hb eX6_isFact_9.2.2.2.1 (by rw [c14]; decide) (by rw [c14]; decide) (by rw [c14]; decide) (by decide) ?_
      refine lv_aload_n hx hb eX6_isFact_9.2.2.2.2.2.2.1 rfl (lv_at hl 0 rfl) ?_
      refine va_get (D := D) (ci := 6) (v := .int (i2 (gI s 105))) (C := RX6) (T := TX6) (N := 12) hx hb ht inX6 hown hK hP 5 CW_5 rfl 5 (by decide) (ht (.fieldLink RX6 69 "CloneVolumes$Reader" "mode" "I") fl_X6_69) (fun _ h9 => h9) rfl eX6_isFact_9.2.2.2.2.2.2.2 ?_
      obtain ⟨hr15, h⟩ := rg_e h
      refine lv_if_eq (tgt := 77) hx hb eX6_isFact_66.1 (by decide) (fun c16 => ?_) (fun c16 => ?_)
      · have h := if_t ((i2_eq (x := (gI s 105)) (y := 0) hr15 (by decide)).mp c16) h
        exact J77 () _ _ _ ⟨hP, hS, lv_sub hl [] rfl, h⟩
      · have h := if_f (mt (i2_eq (x := (gI s 105)) (y := 0) hr15 (by decide)).mpr c16) h
        refine lv_aload_n hx hb eX6_isFact_66.2.1 rfl (lv_at hl 0 rfl) ?_
        refine va_get (D := D) (ci := 6) (v := .int (i2 (gI s 105))) (C := RX6) (T := TX6) (N := 12) hx hb ht inX6 hown hK hP 5 CW_5 rfl 5 (by decide) (ht (.fieldLink RX6 69 "CloneVolumes$Reader" "mode" "I") fl_X6_69) (fun _ h9 => h9) rfl eX6_isFact_66.2.2.1 ?_
        refine lv_iconst (v := 2) hx hb eX6_isFact_66.2.2.2.1 (by decide) ?_
        obtain ⟨hr17, h⟩ := rg_e h
        refine lv_icmp_ne (tgt := 81) hx hb eX6_isFact_66.2.2.2.2.1 (by decide) (fun c18 => ?_) (fun c18 => ?_)
        · have h := if_f (mt (i2_eq (x := (gI s 105)) (y := 2) hr17 (by decide)).mpr c18) h
          refine lv_iconst (v := 0) hx hb eX6_isFact_66.2.2.2.2.2.2.2 (by decide) ?_
          exact J82 0 _ _ _ ⟨hP, hS, lv_sub hl [] rfl, h⟩
        · have h := if_t ((i2_eq (x := (gI s 105)) (y := 2) hr17 (by decide)).mp c18) h
          exact J77 () _ _ _ ⟨hP, hS, lv_sub hl [] rfl, h⟩
    · have h := if_f c14 h
      by_cases c19 : (gI s 110) = 12
      · have h := if_t c19 h
        refine lv_tableIn (off := 69) (tgt := 83) hx hb eX6_isFact_9.2.2.2.1 (by rw [c19]; decide) (by rw [c19]; decide) (by rw [c19]; decide) (by decide) ?_
        refine lv_aload_n hx hb eX6_isFact_82.2.1 rfl (lv_at hl 0 rfl) ?_
        refine va_get (D := D) (ci := 6) (v := .int (i2 (gI s 105))) (C := RX6) (T := TX6) (N := 12) hx hb ht inX6 hown hK hP 5 CW_5 rfl 5 (by decide) (ht (.fieldLink RX6 69 "CloneVolumes$Reader" "mode" "I") fl_X6_69) (fun _ h9 => h9) rfl eX6_isFact_82.2.2.1 ?_
        obtain ⟨hr20, h⟩ := rg_e h
        refine lv_if_ne (tgt := 94) hx hb eX6_isFact_82.2.2.2.1 (by decide) (fun c21 => ?_) (fun c21 => ?_)
        · have h := if_f (mt (i2_eq (x := (gI s 105)) (y := 0) hr20 (by decide)).mpr c21) h
          refine lv_iconst (v := 0) hx hb eX6_isFact_82.2.2.2.2.2.2.1 (by decide) ?_
          exact J95 0 _ _ _ ⟨hP, hS, lv_sub hl [] rfl, h⟩
        · have h := if_t ((i2_eq (x := (gI s 105)) (y := 0) hr20 (by decide)).mp c21) h
          refine lv_iconst (v := 1) hx hb eX6_isFact_82.2.2.2.2.1 (by decide) ?_
          refine lv_goto (tgt := 95) hx hb eX6_isFact_82.2.2.2.2.2.1 (by decide) ?_
          exact J95 1 _ _ _ ⟨hP, hS, lv_sub hl [] rfl, h⟩
      · have h := if_f c19 h
        by_cases c22 : (gI s 110) = 13
        · have h := if_t c22 h
          refine lv_tableIn (off := 46) (tgt := 60) hx hb eX6_isFact_9.2.2.2.1 (by rw [c22]; decide) (by rw [c22]; decide) (by rw [c22]; decide) (by decide) ?_
          refine lv_iconst (v := 1) hx hb eX6_isFact_9.2.2.2.2.1 (by decide) ?_
          obtain rfl := Option.some.inj h
          exact W.zret (v := 1) hx hb hr (by decide) (fun t ht hW => ⟨⟨_, (), rfl, rfl, trivial⟩, hS.F ht⟩) hS.2.2 eX6_isFact_9.2.2.2.2.2.1
        · have h := if_f c22 h
          by_cases c23 : (gI s 110) = 14
          · have h := if_t c23 h
            refine lv_tableIn (off := 82) (tgt := 96) hx hb eX6_isFact_9.2.2.2.1 (by rw [c23]; decide) (by rw [c23]; decide) (by rw [c23]; decide) (by decide) ?_
            refine lv_aload_n hx hb eX6_isFact_96.1 rfl (lv_at hl 0 rfl) ?_
            refine va_get (D := D) (ci := 6) (v := .int (i2 (gI s 105))) (C := RX6) (T := TX6) (N := 12) hx hb ht inX6 hown hK hP 5 CW_5 rfl 5 (by decide) (ht (.fieldLink RX6 69 "CloneVolumes$Reader" "mode" "I") fl_X6_69) (fun _ h9 => h9) rfl eX6_isFact_96.2.1 ?_
            obtain ⟨hr24, h⟩ := rg_e h
            refine lv_if_eq (tgt := 107) hx hb eX6_isFact_96.2.2.1 (by decide) (fun c25 => ?_) (fun c25 => ?_)
            · have h := if_t ((i2_eq (x := (gI s 105)) (y := 0) hr24 (by decide)).mp c25) h
              refine lv_iconst (v := 0) hx hb eX6_isFact_96.2.2.2.2.2.1 (by decide) ?_
              exact J108 0 _ _ _ ⟨hP, hS, lv_sub hl [] rfl, h⟩
            · have h := if_f (mt (i2_eq (x := (gI s 105)) (y := 0) hr24 (by decide)).mpr c25) h
              refine lv_iconst (v := 1) hx hb eX6_isFact_96.2.2.2.1 (by decide) ?_
              refine lv_goto (tgt := 108) hx hb eX6_isFact_96.2.2.2.2.1 (by decide) ?_
              exact J108 1 _ _ _ ⟨hP, hS, lv_sub hl [] rfl, h⟩
          · have h := if_f c23 h
            by_cases c26 : (gI s 110) = 15
            · have h := if_t c26 h
              refine lv_tableIn (off := 95) (tgt := 109) hx hb eX6_isFact_9.2.2.2.1 (by rw [c26]; decide) (by rw [c26]; decide) (by rw [c26]; decide) (by decide) ?_
              exact J109 () _ _ _ ⟨hP, hS, lv_sub hl [0] rfl, h⟩
            · have h := if_f c26 h
              by_cases c27 : (gI s 110) = 16
              · have h := if_t c27 h
                refine lv_tableIn (off := 95) (tgt := 109) hx hb eX6_isFact_9.2.2.2.1 (by rw [c27]; decide) (by rw [c27]; decide) (by rw [c27]; decide) (by decide) ?_
                exact J109 () _ _ _ ⟨hP, hS, lv_sub hl [0] rfl, h⟩
              · have h := if_f c27 h
                by_cases c28 : (gI s 110) = 17
                · have h := if_t c28 h
                  refine lv_tableIn (off := 95) (tgt := 109) hx hb eX6_isFact_9.2.2.2.1 (by rw [c28]; decide) (by rw [c28]; decide) (by rw [c28]; decide) (by decide) ?_
                  exact J109 () _ _ _ ⟨hP, hS, lv_sub hl [0] rfl, h⟩
                · have h := if_f c28 h
                  by_cases c29 : (gI s 110) = 18
                  · have h := if_t c29 h
                    refine lv_tableIn (off := 95) (tgt := 109) hx hb eX6_isFact_9.2.2.2.1 (by rw [c29]; decide) (by rw [c29]; decide) (by rw [c29]; decide) (by decide) ?_
                    exact J109 () _ _ _ ⟨hP, hS, lv_sub hl [0] rfl, h⟩
                  · have h := if_f c29 h
                    refine lv_tableOut (tgt := 123) hx hb eX6_isFact_9.2.2.2.1 (by rw [i2_t hr13]; omega) (by decide) ?_
                    refine lv_iconst (v := 0) hx hb eX6_isFact_110.2.2.2.2.2.2.2 (by decide) ?_
                    obtain rfl := Option.some.inj h
                    exact W.zret (v := 0) hx hb hr (by decide) (fun t ht hW => ⟨⟨_, (), rfl, rfl, trivial⟩, hS.F ht⟩) hS.2.2 eX6_isFact_124.1
  · have h := if_f (mt (i2_eq (x := (gI s 107)) (y := 1) hr11 (by decide)).mpr c12) h
    refine lv_iconst (v := 0) hx hb eX6_expectNumber_111.2.2.2.2.2.2.2 (by decide) ?_
    obtain rfl := Option.some.inj h
    exact W.zret (v := 0) hx hb hr (by decide) (fun t ht hW => ⟨⟨_, (), rfl, rfl, trivial⟩, hS.F ht⟩) hS.2.2 eX6_isFact_9.1
set_option maxHeartbeats 4000000 in
set_option maxRecDepth 100000 in
theorem k_x6_isWord (l : Launch) (D : va_G) (a : Nat → Nat) (p0 : Int) (s : MS) (o : Int) (h : m_x6_isWord p0 s = some o) : yRi l yX6_isWord cX6_isWord 2 (some .boolean) { frames := 0, cells := 0, slots := 0, locals := 0 } D [.ref (a 5), .int (i2 p0)] (CS D a s) (i2 o) := by
  refine Met.ofW (cc := cX6_isWord) (maxL := 2) (ret := (some .boolean)) (by decide) rfl ?_
  intro p e s₀ m args below meth c s₁ B hml hv
  obtain ⟨rfl, ⟨hP, hK⟩, hN⟩ := hv
  have hx := B.exec
  have hb := B.bytes
  have hr := B.returns
  have hts := atoms_spec (ws := wz yX6_isWord cX6_isWord 2 (some .boolean)) B.pre
  have ht : ∀ w ∈ lw_gd, w.before _ s₀ = true := fun w h => hts w (List.mem_cons_of_mem _ h)
  have hown : s₀.vm.findClass RX6 = some m.cls := findClass_of_methodNamed B.named
  have hlocks := B.notSynchronized
  have hS : va_S (fun _ => False) s₀.heap s₀.heap [] := va_S.rf
  have hl := lv_entry ([.ref (a 5), .int (i2 p0)]) (n := 2) (Nat.le_of_ble_eq_true rfl)
  rw [lg_entry_eq]
  generalize (lg_sl ([.ref (a 5), .int (i2 p0)]) ++ List.replicate (2 - (lg_sl ([.ref (a 5), .int (i2 p0)])).length) Slot.unset).toArray = ls at hl ⊢
  have hl : lv_has ls 2 [(0, .ref (a 5)), (1, .int (i2 p0))] := hl
  unfold m_x6_isWord at h
  refine y_head (pcJ := 21) (σ := Int) (fun u H locs ls => va_P D vwCl (CS D a s) H ∧ va_S (fun _ => False) s₀.heap H locs ∧ lv_has ls 2 [] ∧ m_x6_isWord_J21 s u = some o) (fun u => [.int (i2 u)]) (fun u H locs ls hI => ?_) (fun J21 => ?_)
  · obtain ⟨hP, hS, hl, h⟩ := hI
    obtain ⟨x1, rfl⟩ : ∃ z, z = u := ⟨u, rfl⟩
    have hP : va_P D vwCl (CS D a s) H := hP
    have hl : lv_has ls 2 [] := hl
    have h : m_x6_isWord_J21 s x1 = some o := h
    unfold m_x6_isWord_J21 at h
    obtain ⟨hb2, h⟩ := bo_e h
    obtain rfl := Option.some.inj h
    exact W.zret (v := (i2 x1)) hx hb hr (bo_n hb2) (fun t ht hW => ⟨⟨_, (), rfl, rfl, trivial⟩, hS.F ht⟩) hS.2.2 eX6_isWord_13.2.2.2.2.1
  refine y_head (pcJ := 20) (σ := Unit) (fun u H locs ls => va_P D vwCl (CS D a s) H ∧ va_S (fun _ => False) s₀.heap H locs ∧ lv_has ls 2 [] ∧ m_x6_isWord_J20 s u = some o) (fun u => []) (fun u H locs ls hI => ?_) (fun J20 => ?_)
  · obtain ⟨hP, hS, hl, h⟩ := hI
    skip
    have hP : va_P D vwCl (CS D a s) H := hP
    have hl : lv_has ls 2 [] := hl
    have h : m_x6_isWord_J20 s () = some o := h
    unfold m_x6_isWord_J20 at h
    refine lv_iconst (v := 0) hx hb eX6_isWord_13.2.2.2.1 (by decide) ?_
    exact J21 0 _ _ _ ⟨hP, hS, lv_sub hl [] rfl, h⟩
  refine lv_aload_n hx hb eX6_isFact_124.2.1 rfl (lv_at hl 0 rfl) ?_
  refine va_get (D := D) (ci := 6) (v := .int (i2 (gI s 107))) (C := RX6) (T := TX6) (N := 12) hx hb ht inX6 hown hK hP 5 CW_5 rfl 7 (by decide) (ht (.fieldLink RX6 44 "CloneVolumes$Reader" "kind" "I") fl_X6_44) (fun _ h9 => h9) rfl eX6_isFact_124.2.2.1 ?_
  refine lv_iconst (v := 1) hx hb eX6_isFact_124.2.2.2.1 (by decide) ?_
  obtain ⟨hr3, h⟩ := rg_e h
  refine lv_icmp_ne (tgt := 20) hx hb eX6_isFact_124.2.2.2.2.1 (by decide) (fun c4 => ?_) (fun c4 => ?_)
  · have h := if_f (mt (i2_eq (x := (gI s 107)) (y := 1) hr3 (by decide)).mpr c4) h
    exact J20 () _ _ _ ⟨hP, hS, lv_sub hl [] rfl, h⟩
  · have h := if_t ((i2_eq (x := (gI s 107)) (y := 1) hr3 (by decide)).mp c4) h
    refine lv_aload_n hx hb eX6_isFact_124.2.2.2.2.2.1 rfl (lv_at hl 0 rfl) ?_
    refine va_get (D := D) (ci := 6) (v := .int (i2 (gI s 110))) (C := RX6) (T := TX6) (N := 12) hx hb ht inX6 hown hK hP 5 CW_5 rfl 10 (by decide) (ht (.fieldLink RX6 72 "CloneVolumes$Reader" "word" "I") fl_X6_72) (fun _ h9 => h9) rfl eX6_isFact_124.2.2.2.2.2.2.1 ?_
    refine lv_iload_n hx hb eX6_isFact_124.2.2.2.2.2.2.2 rfl (lv_at hl 1 rfl) ?_
    obtain ⟨hr5, h⟩ := rg_e h
    obtain ⟨hr6, h⟩ := rg_e h
    refine lv_icmp_ne (tgt := 20) hx hb eX6_isWord_13.1 (by decide) (fun c7 => ?_) (fun c7 => ?_)
    · have h := if_f (mt (i2_eq (x := (gI s 110)) (y := p0) hr5 hr6).mpr c7) h
      exact J20 () _ _ _ ⟨hP, hS, lv_sub hl [] rfl, h⟩
    · have h := if_t ((i2_eq (x := (gI s 110)) (y := p0) hr5 hr6).mp c7) h
      refine lv_iconst (v := 1) hx hb eX6_isWord_13.2.1 (by decide) ?_
      refine lv_goto (tgt := 21) hx hb eX6_isWord_13.2.2.1 (by decide) ?_
      exact J21 1 _ _ _ ⟨hP, hS, lv_sub hl [] rfl, h⟩
set_option maxHeartbeats 4000000 in
set_option maxRecDepth 100000 in
theorem k_x6_expectNumber (l : Launch) (D : va_G) (a : Nat → Nat) (p0 : Int) (p1 : Int) (sz : Nat) (s : MS) (o : (Int × MS)) (h : m_x6_expectNumber p0 p1 s = some o) : yWi l yX6_expectNumber cX6_expectNumber 5 (some .int) { frames := 2, cells := 0, slots := 0, locals := 120 } D sz [.ref (a 5), .int (i2 p0), .int (i2 p1)] (CS D a s) (CS D a o.2) (i2 o.1) := by
  refine Met.ofW (cc := cX6_expectNumber) (maxL := 5) (ret := (some .int)) (by decide) rfl ?_
  intro p e s₀ m args below meth c s₁ B hml hv
  obtain ⟨rfl, ⟨hsz, hP, hK, hD0⟩, hN⟩ := hv
  have hx := B.exec
  have hb := B.bytes
  have hr := B.returns
  have hts := atoms_spec (ws := wz yX6_expectNumber cX6_expectNumber 5 (some .int)) B.pre
  have ht : ∀ w ∈ lw_gd, w.before _ s₀ = true := fun w h => hts w (List.mem_cons_of_mem _ h)
  have hown : s₀.vm.findClass RX6 = some m.cls := findClass_of_methodNamed B.named
  have hlocks := B.notSynchronized
  subst hsz
  have hD := hD0.self (sz := s₀.heap.size)
  generalize hAe : va_A (CS D a s) s₀.heap.size = A at hD ⊢
  have hA : ∀ q : Nat, s₀.heap.size ≤ q → A q := fun q h => by rw [← hAe]; exact Or.inr h
  have hS : va_S A s₀.heap s₀.heap [] := va_S.rf
  have hDD : ∀ t : MS, va_D A (CS D a t) := fun t => CW_D t hD
  have hl := lv_entry ([.ref (a 5), .int (i2 p0), .int (i2 p1)]) (n := 5) (Nat.le_of_ble_eq_true rfl)
  rw [lg_entry_eq]
  generalize (lg_sl ([.ref (a 5), .int (i2 p0), .int (i2 p1)]) ++ List.replicate (5 - (lg_sl ([.ref (a 5), .int (i2 p0), .int (i2 p1)])).length) Slot.unset).toArray = ls at hl ⊢
  have hl : lv_has ls 5 [(0, .ref (a 5)), (1, .int (i2 p0)), (2, .int (i2 p1))] := hl
  unfold m_x6_expectNumber at h
  refine y_head (pcJ := 98) (σ := Int × MS) (fun u H locs ls => va_P D vwCl (CS D a u.2) H ∧ va_S A s₀.heap H locs ∧ lv_has ls 5 [(0, .ref (a 5)), (1, .int (i2 u.1))] ∧ m_x6_expectNumber_J98 u.1 u.2 = some o) (fun u => []) (fun u H locs ls hI => ?_) (fun J98 => ?_)
  · obtain ⟨hP, hS, hl, h⟩ := hI
    obtain ⟨x1, s2⟩ := u
    have hP : va_P D vwCl (CS D a s2) H := hP
    have hl : lv_has ls 5 [(0, .ref (a 5)), (1, .int (i2 x1))] := hl
    have h : m_x6_expectNumber_J98 x1 s2 = some o := h
    unfold m_x6_expectNumber_J98 at h
    refine lv_aload_n hx hb eX6_expectNumber_85.2.2.2.2.2.2.2 rfl (lv_at hl 0 rfl) ?_
    refine lv_iconst (v := 2) hx hb eX6_expectNumber_99.1 (by decide) ?_
    refine lv_aload_n hx hb eX6_expectNumber_99.2.1 rfl (lv_at hl 0 rfl) ?_
    refine va_get (D := D) (ci := 6) (v := .int (i2 (gI s2 108))) (C := RX6) (T := TX6) (N := 12) hx hb ht inX6 hown hK hP 5 CW_5 rfl 8 (by decide) (ht (.fieldLink RX6 51 "CloneVolumes$Reader" "start" "I") fl_X6_51) (fun _ h9 => h9) rfl eX6_expectNumber_99.2.2.1 ?_
    obtain ⟨⟨r5, s4⟩, hc3, h⟩ := bn_e h
    refine ywV (r0 := i2 r5) (As := [.int 2, .int (i2 (gI s2 108))]) (rest := []) (C := RX6) (n := 2) (ws' := CS D a s4) ⟨hx, hb, hml, hown, ht⟩ (k_x6_fail l D a 2 (gI s2 108) _ _ _ hc3) (zgV ml_X6_54 im_X6_fail se_X6_fail in_X6 co_X6_fail) rfl rfl (by decide +kernel) ⟨Nat.le_of_ble_eq_true rfl, Nat.le_of_ble_eq_true rfl⟩ hN hK hP (hDD _) hS hA 5 CW_5 rfl rfl rfl hl.1 rfl (Nat.le_of_ble_eq_true rfl) eX6_expectNumber_99.2.2.2.1 ⟨Nat.le_of_ble_eq_true rfl, Nat.le_of_ble_eq_true rfl⟩ (fun H locs hP hS => ?_)
    refine lv_pop hx hb eX6_expectNumber_99.2.2.2.2.1 rfl ?_
    refine lv_iload_n hx hb eX6_expectNumber_99.2.2.2.2.2.1 rfl (lv_at hl 1 rfl) ?_
    obtain rfl := Option.some.inj h
    exact W.iret (v := (i2 x1)) hx hb hr (fun t ht hW => ⟨⟨_, (), rfl, rfl, by rw [ht]; exact hP, va_K.moved hW.alike hK, hDD _⟩, hS.F ht⟩) hS.2.2 eX6_expectNumber_99.2.2.2.2.2.2.1
  refine y_loop (pcJ := 55) (σ := Int × Int × Int × Int × MS) (fun n u H locs ls => va_P D vwCl (CS D a u.2.2.2.2) H ∧ va_S A s₀.heap H locs ∧ lv_has ls 5 [(0, .ref (a 5)), (1, .int (i2 u.1)), (2, .int (i2 u.2.1)), (3, .int (i2 u.2.2.1)), (4, .int (i2 u.2.2.2.1))] ∧ m_x6_expectNumber_L55 n u.1 u.2.1 u.2.2.1 u.2.2.2.1 u.2.2.2.2 = some o) (fun u => []) (fun u H locs ls hI => by obtain ⟨_, _, _, h⟩ := hI; cases h) (fun n55 ih55 u H locs ls hI => ?_) (fun J55 => ?_)
  · obtain ⟨hP, hS, hl, h⟩ := hI
    obtain ⟨x6, x7, x8, x9, s10⟩ := u
    have hP : va_P D vwCl (CS D a s10) H := hP
    have hl : lv_has ls 5 [(0, .ref (a 5)), (1, .int (i2 x6)), (2, .int (i2 x7)), (3, .int (i2 x8)), (4, .int (i2 x9))] := hl
    have h : m_x6_expectNumber_b55 (m_x6_expectNumber_L55 n55) x6 x7 x8 x9 s10 = some o := h
    unfold m_x6_expectNumber_b55 at h
    refine lv_iload hx hb eX6_expectNumber_55.1 (lv_at hl 4 rfl) ?_
    refine lv_aload_n hx hb eX6_expectNumber_55.2.1 rfl (lv_at hl 0 rfl) ?_
    refine va_get (D := D) (ci := 6) (v := .int (i2 (gI s10 109))) (C := RX6) (T := TX6) (N := 12) hx hb ht inX6 hown hK hP 5 CW_5 rfl 9 (by decide) (ht (.fieldLink RX6 88 "CloneVolumes$Reader" "stop" "I") fl_X6_88) (fun _ h9 => h9) rfl eX6_expectNumber_55.2.2.1 ?_
    obtain ⟨hr11, h⟩ := rg_e h
    obtain ⟨hr12, h⟩ := rg_e h
    refine lv_icmp_ge (tgt := 88) hx hb eX6_expectNumber_55.2.2.2.1 (by decide) (fun c13 => ?_) (fun c13 => ?_)
    · have h := if_t ((i2_le (x := (gI s10 109)) (y := x9) hr12 hr11).mp c13) h
      refine lv_iload_n hx hb eX6_expectNumber_85.2.1 rfl (lv_at hl 3 rfl) ?_
      refine lv_iload_n hx hb eX6_expectNumber_85.2.2.1 rfl (lv_at hl 1 rfl) ?_
      obtain ⟨hr14, h⟩ := rg_e h
      obtain ⟨hr15, h⟩ := rg_e h
      refine lv_icmp_lt (tgt := 98) hx hb eX6_expectNumber_85.2.2.2.1 (by decide) (fun c16 => ?_) (fun c16 => ?_)
      · have h := if_t ((i2_lt (x := x8) (y := x6) hr14 hr15).mp c16) h
        exact J98 (x6, s10) _ _ _ ⟨hP, hS, lv_sub hl [0, 1] rfl, h⟩
      · have h := if_f (mt (i2_lt (x := x8) (y := x6) hr14 hr15).mpr c16) h
        refine lv_iload_n hx hb eX6_expectNumber_85.2.2.2.2.1 rfl (lv_at hl 3 rfl) ?_
        refine lv_iload_n hx hb eX6_expectNumber_85.2.2.2.2.2.1 rfl (lv_at hl 2 rfl) ?_
        obtain ⟨hr17, h⟩ := rg_e h
        obtain ⟨hr18, h⟩ := rg_e h
        refine lv_icmp_le (tgt := 110) hx hb eX6_expectNumber_85.2.2.2.2.2.2.1 (by decide) (fun c19 => ?_) (fun c19 => ?_)
        · have h := if_t ((i2_le (x := x8) (y := x7) hr17 hr18).mp c19) h
          refine lv_aload_n hx hb eX6_expectNumber_99.2.2.2.2.2.2.2 rfl (lv_at hl 0 rfl) ?_
          obtain ⟨s21, hc20, h⟩ := bn_e h
          refine ywVv (As := []) (rest := []) (C := RX6) (n := 0) (ws' := CS D a s21) ⟨hx, hb, hml, hown, ht⟩ (k_x6_advance l D a _ _ _ hc20) (zgV ml_X6_75 im_X6_advance se_X6_advance in_X6 co_X6_advance) rfl rfl (by decide +kernel) ⟨Nat.le_of_ble_eq_true rfl, Nat.le_of_ble_eq_true rfl⟩ hN hK hP (hDD _) hS hA 5 CW_5 rfl rfl rfl hl.1 rfl (Nat.le_of_ble_eq_true rfl) eX6_expectNumber_111.1 ⟨Nat.le_of_ble_eq_true rfl, Nat.le_of_ble_eq_true rfl⟩ (fun H locs hP hS => ?_)
          refine lv_iload_n hx hb eX6_expectNumber_111.2.1 rfl (lv_at hl 3 rfl) ?_
          obtain rfl := Option.some.inj h
          exact W.iret (v := (i2 x8)) hx hb hr (fun t ht hW => ⟨⟨_, (), rfl, rfl, by rw [ht]; exact hP, va_K.moved hW.alike hK, hDD _⟩, hS.F ht⟩) hS.2.2 eX6_expectNumber_111.2.2.1
        · have h := if_f (mt (i2_le (x := x8) (y := x7) hr17 hr18).mpr c19) h
          exact J98 (x6, s10) _ _ _ ⟨hP, hS, lv_sub hl [0, 1] rfl, h⟩
    · have h := if_f (mt (i2_le (x := (gI s10 109)) (y := x9) hr12 hr11).mpr c13) h
      refine lv_iload_n hx hb eX6_expectNumber_55.2.2.2.2.1 rfl (lv_at hl 3 rfl) ?_
      refine lv_bipush (v := 10) hx hb eX6_expectNumber_55.2.2.2.2.2.1 (by decide) ?_
      refine lv_imul hx hb eX6_expectNumber_55.2.2.2.2.2.2.1 ?_
      refine z_topi (y := i2 (x8 * 10)) (i2_mul x8 10) ?_
      refine lv_aload_n hx hb eX6_expectNumber_55.2.2.2.2.2.2.2 rfl (lv_at hl 0 rfl) ?_
      refine va_get (D := D) (ci := 6) (v := .ref (a 3)) (C := RX6) (T := TX6) (N := 12) hx hb ht inX6 hown hK hP 5 CW_5 rfl 2 (by decide) (ht (.fieldLink RX6 27 "CloneVolumes$Reader" "tape" "LCloneVolumes$Tape;") fl_X6_27) (fun _ h9 => h9) rfl eX6_expectNumber_69.1 ?_
      refine lv_iload hx hb eX6_expectNumber_69.2.1 (lv_at hl 4 rfl) ?_
      obtain ⟨r23, hc22, h⟩ := bn_e h
      refine ycV (r0 := i2 r23) (As := [.int (i2 x9)]) (rest := [.int (i2 (x8 * 10))]) (C := RX9) (n := 1) ⟨hx, hb, hml, hown, ht⟩ (k_x9_at l D a x9 _ _ hc22) (zgV ml_X6_104 im_X9_at se_X9_at in_X9 co_X9_at) rfl rfl (by decide +kernel) ⟨Nat.le_of_ble_eq_true rfl, Nat.le_of_ble_eq_true rfl⟩ hN hK hP hS 3 CW_3 rfl rfl rfl hl.1 rfl (Nat.le_of_ble_eq_true rfl) eX6_expectNumber_69.2.2.1 ⟨Nat.le_of_ble_eq_true rfl, Nat.le_of_ble_eq_true rfl⟩ (fun H locs hP hS => ?_)
      refine lv_iadd hx hb eX6_expectNumber_69.2.2.2.1 ?_
      refine z_topi (y := i2 ((x8 * 10) + r23)) (i2_add (x8 * 10) r23) ?_
      refine lv_bipush (v := 48) hx hb eX6_expectNumber_69.2.2.2.2.1 (by decide) ?_
      refine lv_isub hx hb eX6_expectNumber_69.2.2.2.2.2.1 ?_
      refine z_topi (y := i2 (((x8 * 10) + r23) - 48)) (i2_sub ((x8 * 10) + r23) 48) ?_
      refine lv_istore_n (lv' := [(3, .int (i2 (((x8 * 10) + r23) - 48))), (0, .ref (a 5)), (1, .int (i2 x6)), (2, .int (i2 x7)), (4, .int (i2 x9))]) hx hb eX6_expectNumber_69.2.2.2.2.2.2.1 rfl hl (by decide) rfl (fun ls hl => ?_)
      refine lv_iinc (v := i2 (x9 + 1)) (lv' := [(4, .int (i2 (x9 + 1))), (3, .int (i2 (((x8 * 10) + r23) - 48))), (0, .ref (a 5)), (1, .int (i2 x6)), (2, .int (i2 x7))]) hx hb eX6_expectNumber_69.2.2.2.2.2.2.2 hl (k := 4) rfl (i2_add x9 1) (by decide) rfl (fun ls hl => ?_)
      refine lv_goto (tgt := 55) hx hb eX6_expectNumber_85.1 (by decide) ?_
      exact ih55 (x6, x7, ((x8 * 10) + r23) - 48, x9 + 1, s10) _ _ _ ⟨hP, hS, lv_sub hl [2, 3, 4, 1, 0] rfl, h⟩
  refine lv_aload_n hx hb eX6_comparison_48.2.2.2.2.2.2.1 rfl (lv_at hl 0 rfl) ?_
  refine va_get (D := D) (ci := 6) (v := .int (i2 (gI s 107))) (C := RX6) (T := TX6) (N := 12) hx hb ht inX6 hown hK hP 5 CW_5 rfl 7 (by decide) (ht (.fieldLink RX6 44 "CloneVolumes$Reader" "kind" "I") fl_X6_44) (fun _ h9 => h9) rfl eX6_comparison_48.2.2.2.2.2.2.2 ?_
  refine lv_iconst (v := 2) hx hb eX6_expectNumber_4.1 (by decide) ?_
  obtain ⟨hr24, h⟩ := rg_e h
  refine lv_icmp_eq (tgt := 20) hx hb eX6_expectNumber_4.2.1 (by decide) (fun c25 => ?_) (fun c25 => ?_)
  · have h := if_t ((i2_eq (x := (gI s 107)) (y := 2) hr24 (by decide)).mp c25) h
    refine lv_aload_n hx hb eX6_expectNumber_18.2.2.1 rfl (lv_at hl 0 rfl) ?_
    refine va_get (D := D) (ci := 6) (v := .int (i2 (gI s 109))) (C := RX6) (T := TX6) (N := 12) hx hb ht inX6 hown hK hP 5 CW_5 rfl 9 (by decide) (ht (.fieldLink RX6 88 "CloneVolumes$Reader" "stop" "I") fl_X6_88) (fun _ h9 => h9) rfl eX6_expectNumber_18.2.2.2.1 ?_
    refine lv_aload_n hx hb eX6_expectNumber_18.2.2.2.2.1 rfl (lv_at hl 0 rfl) ?_
    refine va_get (D := D) (ci := 6) (v := .int (i2 (gI s 108))) (C := RX6) (T := TX6) (N := 12) hx hb ht inX6 hown hK hP 5 CW_5 rfl 8 (by decide) (ht (.fieldLink RX6 51 "CloneVolumes$Reader" "start" "I") fl_X6_51) (fun _ h9 => h9) rfl eX6_expectNumber_18.2.2.2.2.2.1 ?_
    refine lv_isub hx hb eX6_expectNumber_18.2.2.2.2.2.2.1 ?_
    refine z_topi (y := i2 ((gI s 109) - (gI s 108))) (i2_sub (gI s 109) (gI s 108)) ?_
    refine lv_iconst (v := 4) hx hb eX6_expectNumber_18.2.2.2.2.2.2.2 (by decide) ?_
    obtain ⟨hr26, h⟩ := rg_e h
    refine lv_icmp_le (tgt := 47) hx hb eX6_expectNumber_30.1 (by decide) (fun c27 => ?_) (fun c27 => ?_)
    · have h := if_t ((i2_le (x := ((gI s 109) - (gI s 108))) (y := 4) hr26 (by decide)).mp c27) h
      refine lv_iconst (v := 0) hx hb eX6_expectNumber_44.2.2.2.1 (by decide) ?_
      refine lv_istore_n (lv' := [(3, .int 0), (0, .ref (a 5)), (1, .int (i2 p0)), (2, .int (i2 p1))]) hx hb eX6_expectNumber_44.2.2.2.2.1 rfl hl (by decide) rfl (fun ls hl => ?_)
      refine lv_aload_n hx hb eX6_expectNumber_44.2.2.2.2.2.1 rfl (lv_at hl 1 rfl) ?_
      refine va_get (D := D) (ci := 6) (v := .int (i2 (gI s 108))) (C := RX6) (T := TX6) (N := 12) hx hb ht inX6 hown hK hP 5 CW_5 rfl 8 (by decide) (ht (.fieldLink RX6 51 "CloneVolumes$Reader" "start" "I") fl_X6_51) (fun _ h9 => h9) rfl eX6_expectNumber_44.2.2.2.2.2.2.1 ?_
      refine lv_istore (lv' := [(4, .int (i2 (gI s 108))), (3, .int 0), (0, .ref (a 5)), (1, .int (i2 p0)), (2, .int (i2 p1))]) hx hb eX6_expectNumber_44.2.2.2.2.2.2.2 hl (by decide) rfl (fun ls hl => ?_)
      exact J55 FU (p0, p1, 0, gI s 108, s) _ _ _ ⟨hP, hS, lv_sub hl [2, 3, 4, 1, 0] rfl, h⟩
    · have h := if_f (mt (i2_le (x := ((gI s 109) - (gI s 108))) (y := 4) hr26 (by decide)).mpr c27) h
      refine lv_aload_n hx hb eX6_expectNumber_30.2.1 rfl (lv_at hl 0 rfl) ?_
      refine lv_iconst (v := 1) hx hb eX6_expectNumber_30.2.2.1 (by decide) ?_
      refine lv_aload_n hx hb eX6_expectNumber_30.2.2.2.1 rfl (lv_at hl 0 rfl) ?_
      refine va_get (D := D) (ci := 6) (v := .int (i2 (gI s 108))) (C := RX6) (T := TX6) (N := 12) hx hb ht inX6 hown hK hP 5 CW_5 rfl 8 (by decide) (ht (.fieldLink RX6 51 "CloneVolumes$Reader" "start" "I") fl_X6_51) (fun _ h9 => h9) rfl eX6_expectNumber_30.2.2.2.2.1 ?_
      refine lv_iconst (v := 4) hx hb eX6_expectNumber_30.2.2.2.2.2.1 (by decide) ?_
      refine lv_iadd hx hb eX6_expectNumber_30.2.2.2.2.2.2.1 ?_
      refine z_topi (y := i2 ((gI s 108) + 4)) (i2_add (gI s 108) 4) ?_
      obtain ⟨⟨r30, s29⟩, hc28, h⟩ := bn_e h
      refine ywV (r0 := i2 r30) (As := [.int 1, .int (i2 ((gI s 108) + 4))]) (rest := []) (C := RX6) (n := 2) (ws' := CS D a s29) ⟨hx, hb, hml, hown, ht⟩ (k_x6_fail l D a 1 ((gI s 108) + 4) _ _ _ hc28) (zgV ml_X6_54 im_X6_fail se_X6_fail in_X6 co_X6_fail) rfl rfl (by decide +kernel) ⟨Nat.le_of_ble_eq_true rfl, Nat.le_of_ble_eq_true rfl⟩ hN hK hP (hDD _) hS hA 5 CW_5 rfl rfl rfl hl.1 rfl (Nat.le_of_ble_eq_true rfl) eX6_expectNumber_30.2.2.2.2.2.2.2 ⟨Nat.le_of_ble_eq_true rfl, Nat.le_of_ble_eq_true rfl⟩ (fun H locs hP hS => ?_)
      refine lv_pop hx hb eX6_expectNumber_44.1 rfl ?_
      refine lv_iload_n hx hb eX6_expectNumber_44.2.1 rfl (lv_at hl 1 rfl) ?_
      obtain rfl := Option.some.inj h
      exact W.iret (v := (i2 p0)) hx hb hr (fun t ht hW => ⟨⟨_, (), rfl, rfl, by rw [ht]; exact hP, va_K.moved hW.alike hK, hDD _⟩, hS.F ht⟩) hS.2.2 eX6_expectNumber_44.2.2.1
  · have h := if_f (mt (i2_eq (x := (gI s 107)) (y := 2) hr24 (by decide)).mpr c25) h
    refine lv_aload_n hx hb eX6_expectNumber_4.2.2.1 rfl (lv_at hl 0 rfl) ?_
    refine lv_iconst (v := 1) hx hb eX6_expectNumber_4.2.2.2.1 (by decide) ?_
    refine lv_aload_n hx hb eX6_expectNumber_4.2.2.2.2.1 rfl (lv_at hl 0 rfl) ?_
    refine va_get (D := D) (ci := 6) (v := .int (i2 (gI s 108))) (C := RX6) (T := TX6) (N := 12) hx hb ht inX6 hown hK hP 5 CW_5 rfl 8 (by decide) (ht (.fieldLink RX6 51 "CloneVolumes$Reader" "start" "I") fl_X6_51) (fun _ h9 => h9) rfl eX6_expectNumber_4.2.2.2.2.2.1 ?_
    obtain ⟨⟨r33, s32⟩, hc31, h⟩ := bn_e h
    refine ywV (r0 := i2 r33) (As := [.int 1, .int (i2 (gI s 108))]) (rest := []) (C := RX6) (n := 2) (ws' := CS D a s32) ⟨hx, hb, hml, hown, ht⟩ (k_x6_fail l D a 1 (gI s 108) _ _ _ hc31) (zgV ml_X6_54 im_X6_fail se_X6_fail in_X6 co_X6_fail) rfl rfl (by decide +kernel) ⟨Nat.le_of_ble_eq_true rfl, Nat.le_of_ble_eq_true rfl⟩ hN hK hP (hDD _) hS hA 5 CW_5 rfl rfl rfl hl.1 rfl (Nat.le_of_ble_eq_true rfl) eX6_expectNumber_4.2.2.2.2.2.2.1 ⟨Nat.le_of_ble_eq_true rfl, Nat.le_of_ble_eq_true rfl⟩ (fun H locs hP hS => ?_)
    refine lv_pop hx hb eX6_expectNumber_4.2.2.2.2.2.2.2 rfl ?_
    refine lv_iload_n hx hb eX6_expectNumber_18.1 rfl (lv_at hl 1 rfl) ?_
    obtain rfl := Option.some.inj h
    exact W.iret (v := (i2 p0)) hx hb hr (fun t ht hW => ⟨⟨_, (), rfl, rfl, by rw [ht]; exact hP, va_K.moved hW.alike hK, hDD _⟩, hS.F ht⟩) hS.2.2 eX6_expectNumber_18.2.1
set_option maxHeartbeats 4000000 in
set_option maxRecDepth 100000 in
theorem k_x6_readPart (l : Launch) (D : va_G) (a : Nat → Nat) (d : Nat) (rgs : (MS → Option MS) × (MS → Option MS)) (hRS : ∀ (sz : Nat) (s o : MS), rgs.1 s = some o → yWv l yX6_readSum cX6_readSum 3 none { frames := 8 * d + 16, cells := 0, slots := 0, locals := 60 * (8 * d + 16) } D sz [.ref (a 5)] (CS D a s) (CS D a o)) (hQ : ∀ (sz : Nat) (s o : MS), rgs.2 s = some o → yWv l yX6_readPart cX6_readPart 1 none { frames := 8 * d + 12, cells := 0, slots := 0, locals := 60 * (8 * d + 12) } D sz [.ref (a 5)] (CS D a s) (CS D a o)) (sz : Nat) (s : MS) (o : MS) (h : m_x6_readPart rgs s = some o) : yWv l yX6_readPart cX6_readPart 1 none { frames := 8 * (d + 1) + 12, cells := 0, slots := 0, locals := 60 * (8 * (d + 1) + 12) } D sz [.ref (a 5)] (CS D a s) (CS D a o) := by
  refine Met.ofW (cc := cX6_readPart) (maxL := 1) (ret := none) (by decide) rfl ?_
  intro p e s₀ m args below meth c s₁ B hml hv
  obtain ⟨rfl, ⟨hsz, hP, hK, hD0⟩, hN⟩ := hv
  have hx := B.exec
  have hb := B.bytes
  have hr := B.returns
  have hts := atoms_spec (ws := wz yX6_readPart cX6_readPart 1 none) B.pre
  have ht : ∀ w ∈ lw_gd, w.before _ s₀ = true := fun w h => hts w (List.mem_cons_of_mem _ h)
  have hown : s₀.vm.findClass RX6 = some m.cls := findClass_of_methodNamed B.named
  have hlocks := B.notSynchronized
  subst hsz
  have hD := hD0.self (sz := s₀.heap.size)
  generalize hAe : va_A (CS D a s) s₀.heap.size = A at hD ⊢
  have hA : ∀ q : Nat, s₀.heap.size ≤ q → A q := fun q h => by rw [← hAe]; exact Or.inr h
  have hS : va_S A s₀.heap s₀.heap [] := va_S.rf
  have hDD : ∀ t : MS, va_D A (CS D a t) := fun t => CW_D t hD
  have hl := lv_entry ([.ref (a 5)]) (n := 1) (Nat.le_of_ble_eq_true rfl)
  rw [lg_entry_eq]
  generalize (lg_sl ([.ref (a 5)]) ++ List.replicate (1 - (lg_sl ([.ref (a 5)])).length) Slot.unset).toArray = ls at hl ⊢
  have hl : lv_has ls 1 [(0, .ref (a 5))] := hl
  unfold m_x6_readPart at h
  refine y_head (pcJ := 196) (σ := MS) (fun u H locs ls => va_P D vwCl (CS D a u) H ∧ va_S A s₀.heap H locs ∧ lv_has ls 1 [] ∧ m_x6_readPart_J196 rgs u = some o) (fun u => []) (fun u H locs ls hI => ?_) (fun J196 => ?_)
  · obtain ⟨hP, hS, hl, h⟩ := hI
    obtain ⟨s1, rfl⟩ : ∃ z, z = u := ⟨u, rfl⟩
    have hP : va_P D vwCl (CS D a s1) H := hP
    have hl : lv_has ls 1 [] := hl
    have h : m_x6_readPart_J196 rgs s1 = some o := h
    unfold m_x6_readPart_J196 at h
    obtain rfl := Option.some.inj h
    exact W.vret hx hb hr (fun t ht hW => ⟨⟨(), rfl, trivial, by rw [ht]; exact hP, va_K.moved hW.alike hK, hDD _⟩, hS.F ht⟩) hS.2.2 eX6_readPart_189.2.2.2.1
  refine y_head (pcJ := 158) (σ := MS) (fun u H locs ls => va_P D vwCl (CS D a u) H ∧ va_S A s₀.heap H locs ∧ lv_has ls 1 [(0, .ref (a 5))] ∧ m_x6_readPart_J158 rgs u = some o) (fun u => []) (fun u H locs ls hI => ?_) (fun J158 => ?_)
  · obtain ⟨hP, hS, hl, h⟩ := hI
    obtain ⟨s2, rfl⟩ : ∃ z, z = u := ⟨u, rfl⟩
    have hP : va_P D vwCl (CS D a s2) H := hP
    have hl : lv_has ls 1 [(0, .ref (a 5))] := hl
    have h : m_x6_readPart_J158 rgs s2 = some o := h
    unfold m_x6_readPart_J158 at h
    refine lv_aload_n hx hb eX6_readPart_158.1 rfl (lv_at hl 0 rfl) ?_
    obtain ⟨r4, hc3, h⟩ := bn_e h
    refine ycV (r0 := i2 r4) (As := []) (rest := []) (C := RX6) (n := 0) ⟨hx, hb, hml, hown, ht⟩ (k_x6_isFact l D a _ _ hc3) (zgV ml_X6_216 im_X6_isFact se_X6_isFact in_X6 co_X6_isFact) rfl rfl (by decide +kernel) ⟨by show 0 + 1 ≤ 8 * (d + 1) + 12; omega, by show 8 + (1 + 11) + 0 ≤ 60 * (8 * (d + 1) + 12); omega⟩ hN hK hP hS 5 CW_5 rfl rfl rfl hl.1 rfl (Nat.le_of_ble_eq_true rfl) eX6_readPart_158.2.1 ⟨Nat.le_of_ble_eq_true rfl, Nat.le_of_ble_eq_true rfl⟩ (fun H locs hP hS => ?_)
    obtain ⟨hr5, h⟩ := rg_e h
    refine lv_if_eq (tgt := 186) hx hb eX6_readPart_158.2.2.1 (by decide) (fun c6 => ?_) (fun c6 => ?_)
    · have h := if_t ((i2_eq (x := r4) (y := 0) hr5 (by decide)).mp c6) h
      refine lv_aload_n hx hb eX6_readPart_175.2.2.2.2.2.1 rfl (lv_at hl 0 rfl) ?_
      refine lv_iconst (v := 1) hx hb eX6_readPart_175.2.2.2.2.2.2.1 (by decide) ?_
      refine lv_aload_n hx hb eX6_readPart_175.2.2.2.2.2.2.2 rfl (lv_at hl 0 rfl) ?_
      refine va_get (D := D) (ci := 6) (v := .int (i2 (gI s2 108))) (C := RX6) (T := TX6) (N := 12) hx hb ht inX6 hown hK hP 5 CW_5 rfl 8 (by decide) (ht (.fieldLink RX6 51 "CloneVolumes$Reader" "start" "I") fl_X6_51) (fun _ h9 => h9) rfl eX6_readPart_189.1 ?_
      obtain ⟨⟨r9, s8⟩, hc7, h⟩ := bn_e h
      refine ywV (r0 := i2 r9) (As := [.int 1, .int (i2 (gI s2 108))]) (rest := []) (C := RX6) (n := 2) (ws' := CS D a s8) ⟨hx, hb, hml, hown, ht⟩ (k_x6_fail l D a 1 (gI s2 108) _ _ _ hc7) (zgV ml_X6_54 im_X6_fail se_X6_fail in_X6 co_X6_fail) rfl rfl (by decide +kernel) ⟨by show 0 + 1 ≤ 8 * (d + 1) + 12; omega, by show 8 + (3 + 11) + 0 ≤ 60 * (8 * (d + 1) + 12); omega⟩ hN hK hP (hDD _) hS hA 5 CW_5 rfl rfl rfl hl.1 rfl (Nat.le_of_ble_eq_true rfl) eX6_readPart_189.2.1 ⟨Nat.le_of_ble_eq_true rfl, Nat.le_of_ble_eq_true rfl⟩ (fun H locs hP hS => ?_)
      refine lv_pop hx hb eX6_readPart_189.2.2.1 rfl ?_
      exact J196 s8 _ _ _ ⟨hP, hS, lv_sub hl [] rfl, h⟩
    · have h := if_f (mt (i2_eq (x := r4) (y := 0) hr5 (by decide)).mpr c6) h
      refine lv_aload_n hx hb eX6_readPart_158.2.2.2.1 rfl (lv_at hl 0 rfl) ?_
      obtain ⟨he10, h⟩ := eqg_e h
      refine va_get (D := D) (ci := 6) (v := .ref (a 47)) (C := RX6) (T := TX6) (N := 12) hx hb ht inX6 hown hK hP 5 CW_5 rfl 4 (by decide) (ht (.fieldLink RX6 84 "CloneVolumes$Reader" "code" "LCloneVolumes$Code;") fl_X6_84) (fun _ h9 => h9) (congrArg some (rcv_2 he10)) eX6_readPart_158.2.2.2.2.1 ?_
      refine lv_bipush (v := (-100)) hx hb eX6_readPart_158.2.2.2.2.2.1 (by decide) ?_
      refine lv_aload_n hx hb eX6_readPart_158.2.2.2.2.2.2.1 rfl (lv_at hl 0 rfl) ?_
      refine va_get (D := D) (ci := 6) (v := .int (i2 (gI s2 110))) (C := RX6) (T := TX6) (N := 12) hx hb ht inX6 hown hK hP 5 CW_5 rfl 10 (by decide) (ht (.fieldLink RX6 72 "CloneVolumes$Reader" "word" "I") fl_X6_72) (fun _ h9 => h9) rfl eX6_readPart_158.2.2.2.2.2.2.2 ?_
      refine lv_isub hx hb eX6_readPart_175.1 ?_
      refine z_topi (y := i2 ((-100) - (gI s2 110))) (by rw [show ((-100) : Int32) = i2 (-100) from by decide]; exact (i2_sub (-100) (gI s2 110))) ?_
      obtain ⟨s12, hc11, h⟩ := bn_e h
      refine ywVv (As := [.int (i2 ((-100) - (gI s2 110)))]) (rest := []) (C := RX0) (n := 1) (ws' := CS D a s12) ⟨hx, hb, hml, hown, ht⟩ (k_x0_add l D a ((-100) - (gI s2 110)) _ _ _ hc11) (zgV ml_X6_191 im_X0_add se_X0_add in_X0 co_X0_add) rfl rfl (by decide +kernel) ⟨by show 0 + 1 ≤ 8 * (d + 1) + 12; omega, by show 8 + (2 + 11) + 0 ≤ 60 * (8 * (d + 1) + 12); omega⟩ hN hK hP (hDD _) hS hA 47 CW_47 rfl rfl rfl hl.1 rfl (Nat.le_of_ble_eq_true rfl) eX6_readPart_175.2.1 ⟨Nat.le_of_ble_eq_true rfl, Nat.le_of_ble_eq_true rfl⟩ (fun H locs hP hS => ?_)
      refine lv_aload_n hx hb eX6_readPart_175.2.2.1 rfl (lv_at hl 0 rfl) ?_
      obtain ⟨s14, hc13, h⟩ := bn_e h
      refine ywVv (As := []) (rest := []) (C := RX6) (n := 0) (ws' := CS D a s14) ⟨hx, hb, hml, hown, ht⟩ (k_x6_advance l D a _ _ _ hc13) (zgV ml_X6_75 im_X6_advance se_X6_advance in_X6 co_X6_advance) rfl rfl (by decide +kernel) ⟨by show 1 + 1 ≤ 8 * (d + 1) + 12; omega, by show 8 + (2 + 11) + 60 ≤ 60 * (8 * (d + 1) + 12); omega⟩ hN hK hP (hDD _) hS hA 5 CW_5 rfl rfl rfl hl.1 rfl (Nat.le_of_ble_eq_true rfl) eX6_readPart_175.2.2.2.1 ⟨Nat.le_of_ble_eq_true rfl, Nat.le_of_ble_eq_true rfl⟩ (fun H locs hP hS => ?_)
      refine lv_goto (tgt := 196) hx hb eX6_readPart_175.2.2.2.2.1 (by decide) ?_
      exact J196 s14 _ _ _ ⟨hP, hS, lv_sub hl [] rfl, h⟩
  refine y_head (pcJ := 152) (σ := Int × MS) (fun u H locs ls => va_P D vwCl (CS D a u.2) H ∧ va_S A s₀.heap H locs ∧ lv_has ls 1 [] ∧ m_x6_readPart_J152 rgs u.1 u.2 = some o) (fun u => [.int (i2 u.1), .ref (a 5)]) (fun u H locs ls hI => ?_) (fun J152 => ?_)
  · obtain ⟨hP, hS, hl, h⟩ := hI
    obtain ⟨x15, s16⟩ := u
    have hP : va_P D vwCl (CS D a s16) H := hP
    have hl : lv_has ls 1 [] := hl
    have h : m_x6_readPart_J152 rgs x15 s16 = some o := h
    unfold m_x6_readPart_J152 at h
    obtain ⟨s18, hc17, h⟩ := bn_e h
    refine ywVv (As := [.int (i2 x15)]) (rest := []) (C := RX6) (n := 1) (ws' := CS D a s18) ⟨hx, hb, hml, hown, ht⟩ (k_x6_readOther l D a d rgs hRS hQ x15 _ _ _ hc17) (zgV ml_X6_213 im_X6_readOther se_X6_readOther in_X6 co_X6_readOther) rfl rfl (by decide +kernel) ⟨by show (8 * d + 13) + 1 ≤ 8 * (d + 1) + 12; omega, by show 8 + (2 + 11) + 60 * (8 * d + 13) ≤ 60 * (8 * (d + 1) + 12); omega⟩ hN hK hP (hDD _) hS hA 5 CW_5 rfl rfl rfl hl.1 rfl (Nat.le_of_ble_eq_true rfl) eX6_readPart_137.2.2.2.2.2.2.1 ⟨Nat.le_of_ble_eq_true rfl, Nat.le_of_ble_eq_true rfl⟩ (fun H locs hP hS => ?_)
    refine lv_goto (tgt := 196) hx hb eX6_readPart_137.2.2.2.2.2.2.2 (by decide) ?_
    exact J196 s18 _ _ _ ⟨hP, hS, lv_sub hl [] rfl, h⟩
  refine y_head (pcJ := 135) (σ := MS) (fun u H locs ls => va_P D vwCl (CS D a u) H ∧ va_S A s₀.heap H locs ∧ lv_has ls 1 [(0, .ref (a 5))] ∧ m_x6_readPart_J135 rgs u = some o) (fun u => []) (fun u H locs ls hI => ?_) (fun J135 => ?_)
  · obtain ⟨hP, hS, hl, h⟩ := hI
    obtain ⟨s19, rfl⟩ : ∃ z, z = u := ⟨u, rfl⟩
    have hP : va_P D vwCl (CS D a s19) H := hP
    have hl : lv_has ls 1 [(0, .ref (a 5))] := hl
    have h : m_x6_readPart_J135 rgs s19 = some o := h
    unfold m_x6_readPart_J135 at h
    refine lv_aload_n hx hb eX6_readPart_120.2.2.2.2.2.2.1 rfl (lv_at hl 0 rfl) ?_
    refine lv_aload_n hx hb eX6_readPart_120.2.2.2.2.2.2.2 rfl (lv_at hl 0 rfl) ?_
    refine lv_bipush (v := 19) hx hb eX6_readPart_137.1 (by decide) ?_
    obtain ⟨r21, hc20, h⟩ := bn_e h
    refine ycV (r0 := i2 r21) (As := [.int 19]) (rest := [.ref (a 5)]) (C := RX6) (n := 1) ⟨hx, hb, hml, hown, ht⟩ (k_x6_isWord l D a 19 _ _ hc20) (zgV ml_X6_121 im_X6_isWord se_X6_isWord in_X6 co_X6_isWord) rfl rfl (by decide +kernel) ⟨by show 0 + 1 ≤ 8 * (d + 1) + 12; omega, by show 8 + (2 + 11) + 0 ≤ 60 * (8 * (d + 1) + 12); omega⟩ hN hK hP hS 5 CW_5 rfl rfl rfl hl.1 rfl (Nat.le_of_ble_eq_true rfl) eX6_readPart_137.2.1 ⟨Nat.le_of_ble_eq_true rfl, Nat.le_of_ble_eq_true rfl⟩ (fun H locs hP hS => ?_)
    obtain ⟨hr22, h⟩ := rg_e h
    refine lv_if_eq (tgt := 150) hx hb eX6_readPart_137.2.2.1 (by decide) (fun c23 => ?_) (fun c23 => ?_)
    · have h := if_t ((i2_eq (x := r21) (y := 0) hr22 (by decide)).mp c23) h
      refine lv_bipush (v := (-14)) hx hb eX6_readPart_137.2.2.2.2.2.1 (by decide) ?_
      exact J152 ((-14), s19) _ _ _ ⟨hP, hS, lv_sub hl [] rfl, h⟩
    · have h := if_f (mt (i2_eq (x := r21) (y := 0) hr22 (by decide)).mpr c23) h
      refine lv_bipush (v := (-13)) hx hb eX6_readPart_137.2.2.2.1 (by decide) ?_
      refine lv_goto (tgt := 152) hx hb eX6_readPart_137.2.2.2.2.1 (by decide) ?_
      exact J152 ((-13), s19) _ _ _ ⟨hP, hS, lv_sub hl [] rfl, h⟩
  refine y_head (pcJ := 103) (σ := Int × MS) (fun u H locs ls => va_P D vwCl (CS D a u.2) H ∧ va_S A s₀.heap H locs ∧ lv_has ls 1 [] ∧ m_x6_readPart_J103 rgs u.1 u.2 = some o) (fun u => [.int (i2 u.1), .ref (a 5)]) (fun u H locs ls hI => ?_) (fun J103 => ?_)
  · obtain ⟨hP, hS, hl, h⟩ := hI
    obtain ⟨x24, s25⟩ := u
    have hP : va_P D vwCl (CS D a s25) H := hP
    have hl : lv_has ls 1 [] := hl
    have h : m_x6_readPart_J103 rgs x24 s25 = some o := h
    unfold m_x6_readPart_J103 at h
    obtain ⟨s27, hc26, h⟩ := bn_e h
    refine ywVv (As := [.int (i2 x24)]) (rest := []) (C := RX6) (n := 1) (ws' := CS D a s27) ⟨hx, hb, hml, hown, ht⟩ (k_x6_readChoice l D a d rgs hRS hQ x24 _ _ _ hc26) (zgV ml_X6_210 im_X6_readChoice se_X6_readChoice in_X6 co_X6_readChoice) rfl rfl (by decide +kernel) ⟨by show (8 * d + 17) + 1 ≤ 8 * (d + 1) + 12; omega, by show 8 + (2 + 11) + 60 * (8 * d + 17) ≤ 60 * (8 * (d + 1) + 12); omega⟩ hN hK hP (hDD _) hS hA 5 CW_5 rfl rfl rfl hl.1 rfl (Nat.le_of_ble_eq_true rfl) eX6_readPart_103.1 ⟨Nat.le_of_ble_eq_true rfl, Nat.le_of_ble_eq_true rfl⟩ (fun H locs hP hS => ?_)
    refine lv_goto (tgt := 196) hx hb eX6_readPart_103.2.1 (by decide) ?_
    exact J196 s27 _ _ _ ⟨hP, hS, lv_sub hl [] rfl, h⟩
  refine y_head (pcJ := 86) (σ := MS) (fun u H locs ls => va_P D vwCl (CS D a u) H ∧ va_S A s₀.heap H locs ∧ lv_has ls 1 [(0, .ref (a 5))] ∧ m_x6_readPart_J86 rgs u = some o) (fun u => []) (fun u H locs ls hI => ?_) (fun J86 => ?_)
  · obtain ⟨hP, hS, hl, h⟩ := hI
    obtain ⟨s28, rfl⟩ : ∃ z, z = u := ⟨u, rfl⟩
    have hP : va_P D vwCl (CS D a s28) H := hP
    have hl : lv_has ls 1 [(0, .ref (a 5))] := hl
    have h : m_x6_readPart_J86 rgs s28 = some o := h
    unfold m_x6_readPart_J86 at h
    refine lv_aload_n hx hb eX6_readPart_86.1 rfl (lv_at hl 0 rfl) ?_
    refine lv_aload_n hx hb eX6_readPart_86.2.1 rfl (lv_at hl 0 rfl) ?_
    refine lv_bipush (v := 25) hx hb eX6_readPart_86.2.2.1 (by decide) ?_
    obtain ⟨r30, hc29, h⟩ := bn_e h
    refine ycV (r0 := i2 r30) (As := [.int 25]) (rest := [.ref (a 5)]) (C := RX6) (n := 1) ⟨hx, hb, hml, hown, ht⟩ (k_x6_isWord l D a 25 _ _ hc29) (zgV ml_X6_121 im_X6_isWord se_X6_isWord in_X6 co_X6_isWord) rfl rfl (by decide +kernel) ⟨by show 0 + 1 ≤ 8 * (d + 1) + 12; omega, by show 8 + (2 + 11) + 0 ≤ 60 * (8 * (d + 1) + 12); omega⟩ hN hK hP hS 5 CW_5 rfl rfl rfl hl.1 rfl (Nat.le_of_ble_eq_true rfl) eX6_readPart_86.2.2.2.1 ⟨Nat.le_of_ble_eq_true rfl, Nat.le_of_ble_eq_true rfl⟩ (fun H locs hP hS => ?_)
    obtain ⟨hr31, h⟩ := rg_e h
    refine lv_if_eq (tgt := 101) hx hb eX6_readPart_86.2.2.2.2.1 (by decide) (fun c32 => ?_) (fun c32 => ?_)
    · have h := if_t ((i2_eq (x := r30) (y := 0) hr31 (by decide)).mp c32) h
      refine lv_bipush (v := (-6)) hx hb eX6_readPart_86.2.2.2.2.2.2.2 (by decide) ?_
      exact J103 ((-6), s28) _ _ _ ⟨hP, hS, lv_sub hl [] rfl, h⟩
    · have h := if_f (mt (i2_eq (x := r30) (y := 0) hr31 (by decide)).mpr c32) h
      refine lv_bipush (v := (-5)) hx hb eX6_readPart_86.2.2.2.2.2.1 (by decide) ?_
      refine lv_goto (tgt := 103) hx hb eX6_readPart_86.2.2.2.2.2.2.1 (by decide) ?_
      exact J103 ((-5), s28) _ _ _ ⟨hP, hS, lv_sub hl [] rfl, h⟩
  refine lv_aload_n hx hb eX6_readFact_122.2.2.2.2.2.2.2 rfl (lv_at hl 0 rfl) ?_
  refine va_get (D := D) (ci := 6) (v := .int (i2 (gI s 107))) (C := RX6) (T := TX6) (N := 12) hx hb ht inX6 hown hK hP 5 CW_5 rfl 7 (by decide) (ht (.fieldLink RX6 44 "CloneVolumes$Reader" "kind" "I") fl_X6_44) (fun _ h9 => h9) rfl eX6_readPart_1.1 ?_
  refine lv_iconst (v := 2) hx hb eX6_readPart_1.2.1 (by decide) ?_
  obtain ⟨hr33, h⟩ := rg_e h
  refine lv_icmp_ne (tgt := 25) hx hb eX6_readPart_1.2.2.1 (by decide) (fun c34 => ?_) (fun c34 => ?_)
  · have h := if_f (mt (i2_eq (x := (gI s 107)) (y := 2) hr33 (by decide)).mpr c34) h
    refine lv_aload_n hx hb eX6_readPart_16.2.2.2.1 rfl (lv_at hl 0 rfl) ?_
    refine lv_bipush (v := 40) hx hb eX6_readPart_16.2.2.2.2.1 (by decide) ?_
    obtain ⟨r36, hc35, h⟩ := bn_e h
    refine ycV (r0 := i2 r36) (As := [.int 40]) (rest := []) (C := RX6) (n := 1) ⟨hx, hb, hml, hown, ht⟩ (k_x6_isSign l D a 40 _ _ hc35) (zgV ml_X6_124 im_X6_isSign se_X6_isSign in_X6 co_X6_isSign) rfl rfl (by decide +kernel) ⟨by show 0 + 1 ≤ 8 * (d + 1) + 12; omega, by show 8 + (2 + 11) + 0 ≤ 60 * (8 * (d + 1) + 12); omega⟩ hN hK hP hS 5 CW_5 rfl rfl rfl hl.1 rfl (Nat.le_of_ble_eq_true rfl) eX6_readPart_16.2.2.2.2.2.1 ⟨Nat.le_of_ble_eq_true rfl, Nat.le_of_ble_eq_true rfl⟩ (fun H locs hP hS => ?_)
    obtain ⟨hr37, h⟩ := rg_e h
    refine lv_if_eq (tgt := 68) hx hb eX6_readPart_16.2.2.2.2.2.2.1 (by decide) (fun c38 => ?_) (fun c38 => ?_)
    · have h := if_t ((i2_eq (x := r36) (y := 0) hr37 (by decide)).mp c38) h
      refine lv_aload_n hx hb eX6_readPart_68.1 rfl (lv_at hl 0 rfl) ?_
      refine lv_bipush (v := 25) hx hb eX6_readPart_68.2.1 (by decide) ?_
      obtain ⟨r40, hc39, h⟩ := bn_e h
      refine ycV (r0 := i2 r40) (As := [.int 25]) (rest := []) (C := RX6) (n := 1) ⟨hx, hb, hml, hown, ht⟩ (k_x6_isWord l D a 25 _ _ hc39) (zgV ml_X6_121 im_X6_isWord se_X6_isWord in_X6 co_X6_isWord) rfl rfl (by decide +kernel) ⟨by show 0 + 1 ≤ 8 * (d + 1) + 12; omega, by show 8 + (2 + 11) + 0 ≤ 60 * (8 * (d + 1) + 12); omega⟩ hN hK hP hS 5 CW_5 rfl rfl rfl hl.1 rfl (Nat.le_of_ble_eq_true rfl) eX6_readPart_68.2.2.1 ⟨Nat.le_of_ble_eq_true rfl, Nat.le_of_ble_eq_true rfl⟩ (fun H locs hP hS => ?_)
      obtain ⟨hr41, h⟩ := rg_e h
      refine lv_if_ne (tgt := 86) hx hb eX6_readPart_68.2.2.2.1 (by decide) (fun c42 => ?_) (fun c42 => ?_)
      · have h := if_f (mt (i2_eq (x := r40) (y := 0) hr41 (by decide)).mpr c42) h
        exact J86 s _ _ _ ⟨hP, hS, lv_sub hl [0] rfl, h⟩
      · have h := if_t ((i2_eq (x := r40) (y := 0) hr41 (by decide)).mp c42) h
        refine lv_aload_n hx hb eX6_readPart_68.2.2.2.2.1 rfl (lv_at hl 0 rfl) ?_
        refine lv_bipush (v := 26) hx hb eX6_readPart_68.2.2.2.2.2.1 (by decide) ?_
        obtain ⟨r44, hc43, h⟩ := bn_e h
        refine ycV (r0 := i2 r44) (As := [.int 26]) (rest := []) (C := RX6) (n := 1) ⟨hx, hb, hml, hown, ht⟩ (k_x6_isWord l D a 26 _ _ hc43) (zgV ml_X6_121 im_X6_isWord se_X6_isWord in_X6 co_X6_isWord) rfl rfl (by decide +kernel) ⟨by show 0 + 1 ≤ 8 * (d + 1) + 12; omega, by show 8 + (2 + 11) + 0 ≤ 60 * (8 * (d + 1) + 12); omega⟩ hN hK hP hS 5 CW_5 rfl rfl rfl hl.1 rfl (Nat.le_of_ble_eq_true rfl) eX6_readPart_68.2.2.2.2.2.2.1 ⟨Nat.le_of_ble_eq_true rfl, Nat.le_of_ble_eq_true rfl⟩ (fun H locs hP hS => ?_)
        obtain ⟨hr45, h⟩ := rg_e h
        refine lv_if_eq (tgt := 109) hx hb eX6_readPart_68.2.2.2.2.2.2.2 (by decide) (fun c46 => ?_) (fun c46 => ?_)
        · have h := if_t ((i2_eq (x := r44) (y := 0) hr45 (by decide)).mp c46) h
          refine lv_aload_n hx hb eX6_readPart_103.2.2.1 rfl (lv_at hl 0 rfl) ?_
          refine va_get (D := D) (ci := 6) (v := .int (i2 (gI s 105))) (C := RX6) (T := TX6) (N := 12) hx hb ht inX6 hown hK hP 5 CW_5 rfl 5 (by decide) (ht (.fieldLink RX6 69 "CloneVolumes$Reader" "mode" "I") fl_X6_69) (fun _ h9 => h9) rfl eX6_readPart_103.2.2.2.1 ?_
          refine lv_iconst (v := 3) hx hb eX6_readPart_103.2.2.2.2.1 (by decide) ?_
          obtain ⟨hr47, h⟩ := rg_e h
          refine lv_icmp_ne (tgt := 158) hx hb eX6_readPart_103.2.2.2.2.2.1 (by decide) (fun c48 => ?_) (fun c48 => ?_)
          · have h := if_f (mt (i2_eq (x := (gI s 105)) (y := 3) hr47 (by decide)).mpr c48) h
            exact J158 s _ _ _ ⟨hP, hS, lv_sub hl [0] rfl, h⟩
          · have h := if_t ((i2_eq (x := (gI s 105)) (y := 3) hr47 (by decide)).mp c48) h
            refine lv_aload_n hx hb eX6_readPart_103.2.2.2.2.2.2.1 rfl (lv_at hl 0 rfl) ?_
            refine lv_bipush (v := 19) hx hb eX6_readPart_103.2.2.2.2.2.2.2 (by decide) ?_
            obtain ⟨r50, hc49, h⟩ := bn_e h
            refine ycV (r0 := i2 r50) (As := [.int 19]) (rest := []) (C := RX6) (n := 1) ⟨hx, hb, hml, hown, ht⟩ (k_x6_isWord l D a 19 _ _ hc49) (zgV ml_X6_121 im_X6_isWord se_X6_isWord in_X6 co_X6_isWord) rfl rfl (by decide +kernel) ⟨by show 0 + 1 ≤ 8 * (d + 1) + 12; omega, by show 8 + (2 + 11) + 0 ≤ 60 * (8 * (d + 1) + 12); omega⟩ hN hK hP hS 5 CW_5 rfl rfl rfl hl.1 rfl (Nat.le_of_ble_eq_true rfl) eX6_readPart_120.1 ⟨Nat.le_of_ble_eq_true rfl, Nat.le_of_ble_eq_true rfl⟩ (fun H locs hP hS => ?_)
            obtain ⟨hr51, h⟩ := rg_e h
            refine lv_if_ne (tgt := 135) hx hb eX6_readPart_120.2.1 (by decide) (fun c52 => ?_) (fun c52 => ?_)
            · have h := if_f (mt (i2_eq (x := r50) (y := 0) hr51 (by decide)).mpr c52) h
              exact J135 s _ _ _ ⟨hP, hS, lv_sub hl [0] rfl, h⟩
            · have h := if_t ((i2_eq (x := r50) (y := 0) hr51 (by decide)).mp c52) h
              refine lv_aload_n hx hb eX6_readPart_120.2.2.1 rfl (lv_at hl 0 rfl) ?_
              refine lv_bipush (v := 20) hx hb eX6_readPart_120.2.2.2.1 (by decide) ?_
              obtain ⟨r54, hc53, h⟩ := bn_e h
              refine ycV (r0 := i2 r54) (As := [.int 20]) (rest := []) (C := RX6) (n := 1) ⟨hx, hb, hml, hown, ht⟩ (k_x6_isWord l D a 20 _ _ hc53) (zgV ml_X6_121 im_X6_isWord se_X6_isWord in_X6 co_X6_isWord) rfl rfl (by decide +kernel) ⟨by show 0 + 1 ≤ 8 * (d + 1) + 12; omega, by show 8 + (2 + 11) + 0 ≤ 60 * (8 * (d + 1) + 12); omega⟩ hN hK hP hS 5 CW_5 rfl rfl rfl hl.1 rfl (Nat.le_of_ble_eq_true rfl) eX6_readPart_120.2.2.2.2.1 ⟨Nat.le_of_ble_eq_true rfl, Nat.le_of_ble_eq_true rfl⟩ (fun H locs hP hS => ?_)
              obtain ⟨hr55, h⟩ := rg_e h
              refine lv_if_eq (tgt := 158) hx hb eX6_readPart_120.2.2.2.2.2.1 (by decide) (fun c56 => ?_) (fun c56 => ?_)
              · have h := if_t ((i2_eq (x := r54) (y := 0) hr55 (by decide)).mp c56) h
                exact J158 s _ _ _ ⟨hP, hS, lv_sub hl [0] rfl, h⟩
              · have h := if_f (mt (i2_eq (x := r54) (y := 0) hr55 (by decide)).mpr c56) h
                exact J135 s _ _ _ ⟨hP, hS, lv_sub hl [0] rfl, h⟩
        · have h := if_f (mt (i2_eq (x := r44) (y := 0) hr45 (by decide)).mpr c46) h
          exact J86 s _ _ _ ⟨hP, hS, lv_sub hl [0] rfl, h⟩
    · have h := if_f (mt (i2_eq (x := r36) (y := 0) hr37 (by decide)).mpr c38) h
      refine lv_aload_n hx hb eX6_readPart_16.2.2.2.2.2.2.2 rfl (lv_at hl 0 rfl) ?_
      obtain ⟨⟨r59, s58⟩, hc57, h⟩ := bn_e h
      refine ywV (r0 := i2 r59) (As := []) (rest := []) (C := RX6) (n := 0) (ws' := CS D a s58) ⟨hx, hb, hml, hown, ht⟩ (k_x6_opens l D a _ _ _ hc57) (zgV ml_X6_197 im_X6_opens se_X6_opens in_X6 co_X6_opens) rfl rfl (by decide +kernel) ⟨by show 1 + 1 ≤ 8 * (d + 1) + 12; omega, by show 8 + (1 + 11) + 60 ≤ 60 * (8 * (d + 1) + 12); omega⟩ hN hK hP (hDD _) hS hA 5 CW_5 rfl rfl rfl hl.1 rfl (Nat.le_of_ble_eq_true rfl) eX6_readPart_35.1 ⟨Nat.le_of_ble_eq_true rfl, Nat.le_of_ble_eq_true rfl⟩ (fun H locs hP hS => ?_)
      obtain ⟨hr60, h⟩ := rg_e h
      refine lv_if_eq (tgt := 196) hx hb eX6_readPart_35.2.1 (by decide) (fun c61 => ?_) (fun c61 => ?_)
      · have h := if_t ((i2_eq (x := r59) (y := 0) hr60 (by decide)).mp c61) h
        exact J196 s58 _ _ _ ⟨hP, hS, lv_sub hl [] rfl, h⟩
      · have h := if_f (mt (i2_eq (x := r59) (y := 0) hr60 (by decide)).mpr c61) h
        refine lv_aload_n hx hb eX6_readPart_35.2.2.1 rfl (lv_at hl 0 rfl) ?_
        obtain ⟨s63, hc62, h⟩ := bn_e h
        refine ywVv (As := []) (rest := []) (C := RX6) (n := 0) (ws' := CS D a s63) ⟨hx, hb, hml, hown, ht⟩ (k_x6_advance l D a _ _ _ hc62) (zgV ml_X6_75 im_X6_advance se_X6_advance in_X6 co_X6_advance) rfl rfl (by decide +kernel) ⟨by show 1 + 1 ≤ 8 * (d + 1) + 12; omega, by show 8 + (2 + 11) + 60 ≤ 60 * (8 * (d + 1) + 12); omega⟩ hN hK hP (hDD _) hS hA 5 CW_5 rfl rfl rfl hl.1 rfl (Nat.le_of_ble_eq_true rfl) eX6_readPart_35.2.2.2.1 ⟨Nat.le_of_ble_eq_true rfl, Nat.le_of_ble_eq_true rfl⟩ (fun H locs hP hS => ?_)
        refine lv_aload_n hx hb eX6_readPart_35.2.2.2.2.1 rfl (lv_at hl 0 rfl) ?_
        obtain ⟨s65, hc64, h⟩ := bn_e h
        refine ywVv (As := []) (rest := []) (C := RX6) (n := 0) (ws' := CS D a s65) ⟨hx, hb, hml, hown, ht⟩ (hRS _ _ _ hc64) (zgV ml_X6_81 im_X6_readSum se_X6_readSum in_X6 co_X6_readSum) rfl rfl (by decide +kernel) ⟨by show (8 * d + 16) + 1 ≤ 8 * (d + 1) + 12; omega, by show 8 + (3 + 11) + 60 * (8 * d + 16) ≤ 60 * (8 * (d + 1) + 12); omega⟩ hN hK hP (hDD _) hS hA 5 CW_5 rfl rfl rfl hl.1 rfl (Nat.le_of_ble_eq_true rfl) eX6_readPart_35.2.2.2.2.2.1 ⟨Nat.le_of_ble_eq_true rfl, Nat.le_of_ble_eq_true rfl⟩ (fun H locs hP hS => ?_)
        refine lv_aload_n hx hb eX6_readPart_35.2.2.2.2.2.2.1 rfl (lv_at hl 0 rfl) ?_
        refine lv_bipush (v := 41) hx hb eX6_readPart_35.2.2.2.2.2.2.2 (by decide) ?_
        obtain ⟨s67, hc66, h⟩ := bn_e h
        refine ywVv (As := [.int 41]) (rest := []) (C := RX6) (n := 1) (ws' := CS D a s67) ⟨hx, hb, hml, hown, ht⟩ (k_x6_expectSign l D a 41 _ _ _ hc66) (zgV ml_X6_158 im_X6_expectSign se_X6_expectSign in_X6 co_X6_expectSign) rfl rfl (by decide +kernel) ⟨by show 2 + 1 ≤ 8 * (d + 1) + 12; omega, by show 8 + (2 + 11) + 120 ≤ 60 * (8 * (d + 1) + 12); omega⟩ hN hK hP (hDD _) hS hA 5 CW_5 rfl rfl rfl hl.1 rfl (Nat.le_of_ble_eq_true rfl) eX6_readPart_52.1 ⟨Nat.le_of_ble_eq_true rfl, Nat.le_of_ble_eq_true rfl⟩ (fun H locs hP hS => ?_)
        refine lv_aload_n hx hb eX6_readPart_52.2.1 rfl (lv_at hl 0 rfl) ?_
        refine lv_dup hx hb eX6_readPart_52.2.2.1 rfl ?_
        refine va_get (D := D) (ci := 6) (v := .int (i2 (gI s67 106))) (C := RX6) (T := TX6) (N := 12) hx hb ht inX6 hown hK hP 5 CW_5 rfl 6 (by decide) (ht (.fieldLink RX6 85 "CloneVolumes$Reader" "open" "I") fl_X6_85) (fun _ h9 => h9) rfl eX6_readPart_52.2.2.2.1 ?_
        refine lv_iconst (v := 1) hx hb eX6_readPart_52.2.2.2.2.1 (by decide) ?_
        refine lv_isub hx hb eX6_readPart_52.2.2.2.2.2.1 ?_
        refine z_topi (y := i2 ((gI s67 106) - 1)) (i2_sub (gI s67 106) 1) ?_
        refine ya_put (D := D) (ci := 6) (v := .int (i2 ((gI s67 106) - 1))) (ty := .int) (C := RX6) (T := TX6) (N := 12) hx hb ht inX6 tyX6 tyX6_ok nmX6 hown hK hP (hDD _) hS 5 CW_5 rfl 6 (by decide) (ht (.fieldLink RX6 85 "CloneVolumes$Reader" "open" "I") fl_X6_85) (fun _ h9 => h9) rfl (by decide +kernel) rfl rfl (Nat.le_of_ble_eq_true rfl) eX6_readPart_52.2.2.2.2.2.2.1 (CW_w5_6 ((gI s67 106) - 1)) (fun H locs hP hS => ?_)
        obtain ⟨s68, hs68, h⟩ := st_e h
        rw [hs68] at hP
        refine lv_goto (tgt := 196) hx hb eX6_readPart_52.2.2.2.2.2.2.2 (by decide) ?_
        exact J196 s68 _ _ _ ⟨hP, hS, lv_sub hl [] rfl, h⟩
  · have h := if_t ((i2_eq (x := (gI s 107)) (y := 2) hr33 (by decide)).mp c34) h
    refine lv_aload_n hx hb eX6_readPart_1.2.2.2.1 rfl (lv_at hl 0 rfl) ?_
    obtain ⟨he69, h⟩ := eqg_e h
    refine va_get (D := D) (ci := 6) (v := .ref (a 47)) (C := RX6) (T := TX6) (N := 12) hx hb ht inX6 hown hK hP 5 CW_5 rfl 4 (by decide) (ht (.fieldLink RX6 84 "CloneVolumes$Reader" "code" "LCloneVolumes$Code;") fl_X6_84) (fun _ h9 => h9) (congrArg some (rcv_2 he69)) eX6_readPart_1.2.2.2.2.1 ?_
    refine lv_aload_n hx hb eX6_readPart_1.2.2.2.2.2.1 rfl (lv_at hl 0 rfl) ?_
    refine lv_iconst (v := 0) hx hb eX6_readPart_1.2.2.2.2.2.2.1 (by decide) ?_
    refine lv_ldc (own := RX6) (v := 1000000) hx hb hown (ht _ ck_X6_209) eX6_readPart_1.2.2.2.2.2.2.2 ?_
    obtain ⟨⟨r72, s71⟩, hc70, h⟩ := bn_e h
    refine ywV (r0 := i2 r72) (As := [.int 0, .int 1000000]) (rest := [.ref (a 47)]) (C := RX6) (n := 2) (ws' := CS D a s71) ⟨hx, hb, hml, hown, ht⟩ (k_x6_expectNumber l D a 0 1000000 _ _ _ hc70) (zgV ml_X6_151 im_X6_expectNumber se_X6_expectNumber in_X6 co_X6_expectNumber) rfl rfl (by decide +kernel) ⟨by show 2 + 1 ≤ 8 * (d + 1) + 12; omega, by show 8 + (5 + 11) + 120 ≤ 60 * (8 * (d + 1) + 12); omega⟩ hN hK hP (hDD _) hS hA 5 CW_5 rfl rfl rfl hl.1 rfl (Nat.le_of_ble_eq_true rfl) eX6_readPart_16.1 ⟨Nat.le_of_ble_eq_true rfl, Nat.le_of_ble_eq_true rfl⟩ (fun H locs hP hS => ?_)
    obtain ⟨s74, hc73, h⟩ := bn_e h
    refine ywVv (As := [.int (i2 r72)]) (rest := []) (C := RX0) (n := 1) (ws' := CS D a s74) ⟨hx, hb, hml, hown, ht⟩ (k_x0_add l D a r72 _ _ _ hc73) (zgV ml_X6_191 im_X0_add se_X0_add in_X0 co_X0_add) rfl rfl (by decide +kernel) ⟨by show 0 + 1 ≤ 8 * (d + 1) + 12; omega, by show 8 + (2 + 11) + 0 ≤ 60 * (8 * (d + 1) + 12); omega⟩ hN hK hP (hDD _) hS hA 47 CW_47 rfl rfl rfl hl.1 rfl (Nat.le_of_ble_eq_true rfl) eX6_readPart_16.2.1 ⟨Nat.le_of_ble_eq_true rfl, Nat.le_of_ble_eq_true rfl⟩ (fun H locs hP hS => ?_)
    refine lv_goto (tgt := 196) hx hb eX6_readPart_16.2.2.1 (by decide) ?_
    exact J196 s74 _ _ _ ⟨hP, hS, lv_sub hl [] rfl, h⟩
set_option maxHeartbeats 4000000 in
set_option maxRecDepth 100000 in
theorem k_x6_readProduct (l : Launch) (D : va_G) (a : Nat → Nat) (d : Nat) (rgs : (MS → Option MS) × (MS → Option MS)) (hRS : ∀ (sz : Nat) (s o : MS), rgs.1 s = some o → yWv l yX6_readSum cX6_readSum 3 none { frames := 8 * d + 16, cells := 0, slots := 0, locals := 60 * (8 * d + 16) } D sz [.ref (a 5)] (CS D a s) (CS D a o)) (hQ : ∀ (sz : Nat) (s o : MS), rgs.2 s = some o → yWv l yX6_readPart cX6_readPart 1 none { frames := 8 * d + 12, cells := 0, slots := 0, locals := 60 * (8 * d + 12) } D sz [.ref (a 5)] (CS D a s) (CS D a o)) (sz : Nat) (s : MS) (o : MS) (h : m_x6_readProduct rgs s = some o) : yWv l yX6_readProduct cX6_readProduct 3 none { frames := 8 * d + 21, cells := 0, slots := 0, locals := 60 * (8 * d + 21) } D sz [.ref (a 5)] (CS D a s) (CS D a o) := by
  refine Met.ofW (cc := cX6_readProduct) (maxL := 3) (ret := none) (by decide) rfl ?_
  intro p e s₀ m args below meth c s₁ B hml hv
  obtain ⟨rfl, ⟨hsz, hP, hK, hD0⟩, hN⟩ := hv
  have hx := B.exec
  have hb := B.bytes
  have hr := B.returns
  have hts := atoms_spec (ws := wz yX6_readProduct cX6_readProduct 3 none) B.pre
  have ht : ∀ w ∈ lw_gd, w.before _ s₀ = true := fun w h => hts w (List.mem_cons_of_mem _ h)
  have hown : s₀.vm.findClass RX6 = some m.cls := findClass_of_methodNamed B.named
  have hlocks := B.notSynchronized
  subst hsz
  have hD := hD0.self (sz := s₀.heap.size)
  generalize hAe : va_A (CS D a s) s₀.heap.size = A at hD ⊢
  have hA : ∀ q : Nat, s₀.heap.size ≤ q → A q := fun q h => by rw [← hAe]; exact Or.inr h
  have hS : va_S A s₀.heap s₀.heap [] := va_S.rf
  have hDD : ∀ t : MS, va_D A (CS D a t) := fun t => CW_D t hD
  have hl := lv_entry ([.ref (a 5)]) (n := 3) (Nat.le_of_ble_eq_true rfl)
  rw [lg_entry_eq]
  generalize (lg_sl ([.ref (a 5)]) ++ List.replicate (3 - (lg_sl ([.ref (a 5)])).length) Slot.unset).toArray = ls at hl ⊢
  have hl : lv_has ls 3 [(0, .ref (a 5))] := hl
  unfold m_x6_readProduct at h
  refine y_head (pcJ := 70) (σ := MS) (fun u H locs ls => va_P D vwCl (CS D a u) H ∧ va_S A s₀.heap H locs ∧ lv_has ls 3 [] ∧ m_x6_readProduct_J70 rgs u = some o) (fun u => []) (fun u H locs ls hI => ?_) (fun J70 => ?_)
  · obtain ⟨hP, hS, hl, h⟩ := hI
    obtain ⟨s1, rfl⟩ : ∃ z, z = u := ⟨u, rfl⟩
    have hP : va_P D vwCl (CS D a s1) H := hP
    have hl : lv_has ls 3 [] := hl
    have h : m_x6_readProduct_J70 rgs s1 = some o := h
    unfold m_x6_readProduct_J70 at h
    obtain rfl := Option.some.inj h
    exact W.vret hx hb hr (fun t ht hW => ⟨⟨(), rfl, trivial, by rw [ht]; exact hP, va_K.moved hW.alike hK, hDD _⟩, hS.F ht⟩) hS.2.2 eX6_readProduct_57.2.2.2.2.2.1
  refine y_loop (pcJ := 6) (σ := Int × MS) (fun n u H locs ls => va_P D vwCl (CS D a u.2) H ∧ va_S A s₀.heap H locs ∧ lv_has ls 3 [(0, .ref (a 5)), (1, .int (i2 u.1))] ∧ m_x6_readProduct_L6 rgs n u.1 u.2 = some o) (fun u => []) (fun u H locs ls hI => by obtain ⟨_, _, _, h⟩ := hI; cases h) (fun n6 ih6 u H locs ls hI => ?_) (fun J6 => ?_)
  · obtain ⟨hP, hS, hl, h⟩ := hI
    obtain ⟨x2, s3⟩ := u
    have hP : va_P D vwCl (CS D a s3) H := hP
    have hl : lv_has ls 3 [(0, .ref (a 5)), (1, .int (i2 x2))] := hl
    have h : m_x6_readProduct_b6 rgs (m_x6_readProduct_L6 rgs n6) x2 s3 = some o := h
    unfold m_x6_readProduct_b6 at h
    refine y_head (pcJ := 47) (σ := Int × Int × MS) (fun u H locs ls => va_P D vwCl (CS D a u.2.2) H ∧ va_S A s₀.heap H locs ∧ lv_has ls 3 [(0, .ref (a 5)), (1, .int (i2 u.1))] ∧ m_x6_readProduct_J47 rgs (m_x6_readProduct_L6 rgs n6) u.1 u.2.1 u.2.2 = some o) (fun u => [.int (i2 u.2.1)]) (fun u H locs ls hI => ?_) (fun J47 => ?_)
    · obtain ⟨hP, hS, hl, h⟩ := hI
      obtain ⟨x4, x5, s6⟩ := u
      have hP : va_P D vwCl (CS D a s6) H := hP
      have hl : lv_has ls 3 [(0, .ref (a 5)), (1, .int (i2 x4))] := hl
      have h : m_x6_readProduct_J47 rgs (m_x6_readProduct_L6 rgs n6) x4 x5 s6 = some o := h
      unfold m_x6_readProduct_J47 at h
      refine lv_istore_n (lv' := [(2, .int (i2 x5)), (0, .ref (a 5)), (1, .int (i2 x4))]) hx hb eX6_readProduct_42.2.2.1 rfl hl (by decide) rfl (fun ls hl => ?_)
      refine lv_aload_n hx hb eX6_readProduct_42.2.2.2.1 rfl (lv_at hl 1 rfl) ?_
      obtain ⟨s8, hc7, h⟩ := bn_e h
      refine ywVv (As := []) (rest := []) (C := RX6) (n := 0) (ws' := CS D a s8) ⟨hx, hb, hml, hown, ht⟩ (k_x6_advance l D a _ _ _ hc7) (zgV ml_X6_75 im_X6_advance se_X6_advance in_X6 co_X6_advance) rfl rfl (by decide +kernel) ⟨by show 1 + 1 ≤ 8 * d + 21; omega, by show 8 + (2 + 11) + 60 ≤ 60 * (8 * d + 21); omega⟩ hN hK hP (hDD _) hS hA 5 CW_5 rfl rfl rfl hl.1 rfl (Nat.le_of_ble_eq_true rfl) eX6_readProduct_42.2.2.2.2.1 ⟨Nat.le_of_ble_eq_true rfl, Nat.le_of_ble_eq_true rfl⟩ (fun H locs hP hS => ?_)
      refine lv_aload_n hx hb eX6_readProduct_42.2.2.2.2.2.1 rfl (lv_at hl 1 rfl) ?_
      obtain ⟨s10, hc9, h⟩ := bn_e h
      refine ywVv (As := []) (rest := []) (C := RX6) (n := 0) (ws' := CS D a s10) ⟨hx, hb, hml, hown, ht⟩ (k_x6_readPart l D a d rgs hRS hQ _ _ _ hc9) (zgV ml_X6_206 im_X6_readPart se_X6_readPart in_X6 co_X6_readPart) rfl rfl (by decide +kernel) ⟨by show (8 * (d + 1) + 12) + 1 ≤ 8 * d + 21; omega, by show 8 + (1 + 11) + 60 * (8 * (d + 1) + 12) ≤ 60 * (8 * d + 21); omega⟩ hN hK hP (hDD _) hS hA 5 CW_5 rfl rfl rfl hl.1 rfl (Nat.le_of_ble_eq_true rfl) eX6_readProduct_42.2.2.2.2.2.2.1 ⟨Nat.le_of_ble_eq_true rfl, Nat.le_of_ble_eq_true rfl⟩ (fun H locs hP hS => ?_)
      refine lv_aload_n hx hb eX6_readProduct_42.2.2.2.2.2.2.2 rfl (lv_at hl 1 rfl) ?_
      obtain ⟨he11, h⟩ := eqg_e h
      refine va_get (D := D) (ci := 6) (v := .ref (a 47)) (C := RX6) (T := TX6) (N := 12) hx hb ht inX6 hown hK hP 5 CW_5 rfl 4 (by decide) (ht (.fieldLink RX6 84 "CloneVolumes$Reader" "code" "LCloneVolumes$Code;") fl_X6_84) (fun _ h9 => h9) (congrArg some (rcv_2 he11)) eX6_readProduct_57.1 ?_
      refine lv_iload_n hx hb eX6_readProduct_57.2.1 rfl (lv_at hl 0 rfl) ?_
      obtain ⟨s13, hc12, h⟩ := bn_e h
      refine ywVv (As := [.int (i2 x5)]) (rest := []) (C := RX0) (n := 1) (ws' := CS D a s13) ⟨hx, hb, hml, hown, ht⟩ (k_x0_add l D a x5 _ _ _ hc12) (zgV ml_X6_191 im_X0_add se_X0_add in_X0 co_X0_add) rfl rfl (by decide +kernel) ⟨by show 0 + 1 ≤ 8 * d + 21; omega, by show 8 + (2 + 11) + 0 ≤ 60 * (8 * d + 21); omega⟩ hN hK hP (hDD _) hS hA 47 CW_47 rfl rfl rfl hl.1 rfl (Nat.le_of_ble_eq_true rfl) eX6_readProduct_57.2.2.1 ⟨Nat.le_of_ble_eq_true rfl, Nat.le_of_ble_eq_true rfl⟩ (fun H locs hP hS => ?_)
      refine lv_iinc (v := i2 (x4 + 1)) (lv' := [(1, .int (i2 (x4 + 1))), (2, .int (i2 x5)), (0, .ref (a 5))]) hx hb eX6_readProduct_57.2.2.2.1 hl (k := 2) rfl (i2_add x4 1) (by decide) rfl (fun ls hl => ?_)
      refine lv_goto (tgt := 6) hx hb eX6_readProduct_57.2.2.2.2.1 (by decide) ?_
      exact ih6 (x4 + 1, s13) _ _ _ ⟨hP, hS, lv_sub hl [2, 0] rfl, h⟩
    refine y_head (pcJ := 31) (σ := Int × MS) (fun u H locs ls => va_P D vwCl (CS D a u.2) H ∧ va_S A s₀.heap H locs ∧ lv_has ls 3 [(0, .ref (a 5)), (1, .int (i2 u.1))] ∧ m_x6_readProduct_J31 rgs (m_x6_readProduct_L6 rgs n6) u.1 u.2 = some o) (fun u => []) (fun u H locs ls hI => ?_) (fun J31 => ?_)
    · obtain ⟨hP, hS, hl, h⟩ := hI
      obtain ⟨x14, s15⟩ := u
      have hP : va_P D vwCl (CS D a s15) H := hP
      have hl : lv_has ls 3 [(0, .ref (a 5)), (1, .int (i2 x14))] := hl
      have h : m_x6_readProduct_J31 rgs (m_x6_readProduct_L6 rgs n6) x14 s15 = some o := h
      unfold m_x6_readProduct_J31 at h
      refine lv_aload_n hx hb eX6_readProduct_23.2.2.2.1 rfl (lv_at hl 0 rfl) ?_
      refine lv_bipush (v := 42) hx hb eX6_readProduct_23.2.2.2.2.1 (by decide) ?_
      obtain ⟨r17, hc16, h⟩ := bn_e h
      refine ycV (r0 := i2 r17) (As := [.int 42]) (rest := []) (C := RX6) (n := 1) ⟨hx, hb, hml, hown, ht⟩ (k_x6_isSign l D a 42 _ _ hc16) (zgV ml_X6_124 im_X6_isSign se_X6_isSign in_X6 co_X6_isSign) rfl rfl (by decide +kernel) ⟨by show 0 + 1 ≤ 8 * d + 21; omega, by show 8 + (2 + 11) + 0 ≤ 60 * (8 * d + 21); omega⟩ hN hK hP hS 5 CW_5 rfl rfl rfl hl.1 rfl (Nat.le_of_ble_eq_true rfl) eX6_readProduct_23.2.2.2.2.2.1 ⟨Nat.le_of_ble_eq_true rfl, Nat.le_of_ble_eq_true rfl⟩ (fun H locs hP hS => ?_)
      obtain ⟨hr18, h⟩ := rg_e h
      refine lv_if_eq (tgt := 45) hx hb eX6_readProduct_23.2.2.2.2.2.2.1 (by decide) (fun c19 => ?_) (fun c19 => ?_)
      · have h := if_t ((i2_eq (x := r17) (y := 0) hr18 (by decide)).mp c19) h
        refine lv_bipush (v := (-4)) hx hb eX6_readProduct_42.2.1 (by decide) ?_
        exact J47 (x14, (-4), s15) _ _ _ ⟨hP, hS, lv_sub hl [0, 1] rfl, h⟩
      · have h := if_f (mt (i2_eq (x := r17) (y := 0) hr18 (by decide)).mpr c19) h
        refine lv_bipush (v := (-3)) hx hb eX6_readProduct_23.2.2.2.2.2.2.2 (by decide) ?_
        refine lv_goto (tgt := 47) hx hb eX6_readProduct_42.1 (by decide) ?_
        exact J47 (x14, (-3), s15) _ _ _ ⟨hP, hS, lv_sub hl [0, 1] rfl, h⟩
    refine lv_iload_n hx hb eX6_readProduct_6.1 rfl (lv_at hl 1 rfl) ?_
    refine lv_sipush (v := 1600) hx hb eX6_readProduct_6.2.1 (by decide) ?_
    obtain ⟨hr20, h⟩ := rg_e h
    refine lv_icmp_ge (tgt := 70) hx hb eX6_readProduct_6.2.2.1 (by decide) (fun c21 => ?_) (fun c21 => ?_)
    · have h := if_t ((i2_le (x := 1600) (y := x2) (by decide) hr20).mp c21) h
      exact J70 s3 _ _ _ ⟨hP, hS, lv_sub hl [] rfl, h⟩
    · have h := if_f (mt (i2_le (x := 1600) (y := x2) (by decide) hr20).mpr c21) h
      refine lv_aload_n hx hb eX6_readProduct_6.2.2.2.1 rfl (lv_at hl 0 rfl) ?_
      refine lv_bipush (v := 42) hx hb eX6_readProduct_6.2.2.2.2.1 (by decide) ?_
      obtain ⟨r23, hc22, h⟩ := bn_e h
      refine ycV (r0 := i2 r23) (As := [.int 42]) (rest := []) (C := RX6) (n := 1) ⟨hx, hb, hml, hown, ht⟩ (k_x6_isSign l D a 42 _ _ hc22) (zgV ml_X6_124 im_X6_isSign se_X6_isSign in_X6 co_X6_isSign) rfl rfl (by decide +kernel) ⟨by show 0 + 1 ≤ 8 * d + 21; omega, by show 8 + (2 + 11) + 0 ≤ 60 * (8 * d + 21); omega⟩ hN hK hP hS 5 CW_5 rfl rfl rfl hl.1 rfl (Nat.le_of_ble_eq_true rfl) eX6_readProduct_6.2.2.2.2.2.1 ⟨Nat.le_of_ble_eq_true rfl, Nat.le_of_ble_eq_true rfl⟩ (fun H locs hP hS => ?_)
      obtain ⟨hr24, h⟩ := rg_e h
      refine lv_if_ne (tgt := 31) hx hb eX6_readProduct_6.2.2.2.2.2.2.1 (by decide) (fun c25 => ?_) (fun c25 => ?_)
      · have h := if_f (mt (i2_eq (x := r23) (y := 0) hr24 (by decide)).mpr c25) h
        exact J31 (x2, s3) _ _ _ ⟨hP, hS, lv_sub hl [0, 1] rfl, h⟩
      · have h := if_t ((i2_eq (x := r23) (y := 0) hr24 (by decide)).mp c25) h
        refine lv_aload_n hx hb eX6_readProduct_6.2.2.2.2.2.2.2 rfl (lv_at hl 0 rfl) ?_
        refine lv_bipush (v := 47) hx hb eX6_readProduct_23.1 (by decide) ?_
        obtain ⟨r27, hc26, h⟩ := bn_e h
        refine ycV (r0 := i2 r27) (As := [.int 47]) (rest := []) (C := RX6) (n := 1) ⟨hx, hb, hml, hown, ht⟩ (k_x6_isSign l D a 47 _ _ hc26) (zgV ml_X6_124 im_X6_isSign se_X6_isSign in_X6 co_X6_isSign) rfl rfl (by decide +kernel) ⟨by show 0 + 1 ≤ 8 * d + 21; omega, by show 8 + (2 + 11) + 0 ≤ 60 * (8 * d + 21); omega⟩ hN hK hP hS 5 CW_5 rfl rfl rfl hl.1 rfl (Nat.le_of_ble_eq_true rfl) eX6_readProduct_23.2.1 ⟨Nat.le_of_ble_eq_true rfl, Nat.le_of_ble_eq_true rfl⟩ (fun H locs hP hS => ?_)
        obtain ⟨hr28, h⟩ := rg_e h
        refine lv_if_eq (tgt := 70) hx hb eX6_readProduct_23.2.2.1 (by decide) (fun c29 => ?_) (fun c29 => ?_)
        · have h := if_t ((i2_eq (x := r27) (y := 0) hr28 (by decide)).mp c29) h
          exact J70 s3 _ _ _ ⟨hP, hS, lv_sub hl [] rfl, h⟩
        · have h := if_f (mt (i2_eq (x := r27) (y := 0) hr28 (by decide)).mpr c29) h
          exact J31 (x2, s3) _ _ _ ⟨hP, hS, lv_sub hl [0, 1] rfl, h⟩
  refine lv_aload_n hx hb eX6_readPart_189.2.2.2.2.1 rfl (lv_at hl 0 rfl) ?_
  obtain ⟨s31, hc30, h⟩ := bn_e h
  refine ywVv (As := []) (rest := []) (C := RX6) (n := 0) (ws' := CS D a s31) ⟨hx, hb, hml, hown, ht⟩ (k_x6_readPart l D a d rgs hRS hQ _ _ _ hc30) (zgV ml_X6_206 im_X6_readPart se_X6_readPart in_X6 co_X6_readPart) rfl rfl (by decide +kernel) ⟨by show (8 * (d + 1) + 12) + 1 ≤ 8 * d + 21; omega, by show 8 + (1 + 11) + 60 * (8 * (d + 1) + 12) ≤ 60 * (8 * d + 21); omega⟩ hN hK hP (hDD _) hS hA 5 CW_5 rfl rfl rfl hl.1 rfl (Nat.le_of_ble_eq_true rfl) eX6_readPart_189.2.2.2.2.2.1 ⟨Nat.le_of_ble_eq_true rfl, Nat.le_of_ble_eq_true rfl⟩ (fun H locs hP hS => ?_)
  refine lv_iconst (v := 0) hx hb eX6_readPart_189.2.2.2.2.2.2.1 (by decide) ?_
  refine lv_istore_n (lv' := [(1, .int 0), (0, .ref (a 5))]) hx hb eX6_readPart_189.2.2.2.2.2.2.2 rfl hl (by decide) rfl (fun ls hl => ?_)
  exact J6 FU (0, s31) _ _ _ ⟨hP, hS, lv_sub hl [1, 0] rfl, h⟩
set_option maxHeartbeats 4000000 in
set_option maxRecDepth 100000 in
theorem k_x6_readSum (l : Launch) (D : va_G) (a : Nat → Nat) (d : Nat) (rgs : (MS → Option MS) × (MS → Option MS)) (hRS : ∀ (sz : Nat) (s o : MS), rgs.1 s = some o → yWv l yX6_readSum cX6_readSum 3 none { frames := 8 * d + 16, cells := 0, slots := 0, locals := 60 * (8 * d + 16) } D sz [.ref (a 5)] (CS D a s) (CS D a o)) (hQ : ∀ (sz : Nat) (s o : MS), rgs.2 s = some o → yWv l yX6_readPart cX6_readPart 1 none { frames := 8 * d + 12, cells := 0, slots := 0, locals := 60 * (8 * d + 12) } D sz [.ref (a 5)] (CS D a s) (CS D a o)) (sz : Nat) (s : MS) (o : MS) (h : m_x6_readSum rgs s = some o) : yWv l yX6_readSum cX6_readSum 3 none { frames := 8 * (d + 1) + 16, cells := 0, slots := 0, locals := 60 * (8 * (d + 1) + 16) } D sz [.ref (a 5)] (CS D a s) (CS D a o) := by
  refine Met.ofW (cc := cX6_readSum) (maxL := 3) (ret := none) (by decide) rfl ?_
  intro p e s₀ m args below meth c s₁ B hml hv
  obtain ⟨rfl, ⟨hsz, hP, hK, hD0⟩, hN⟩ := hv
  have hx := B.exec
  have hb := B.bytes
  have hr := B.returns
  have hts := atoms_spec (ws := wz yX6_readSum cX6_readSum 3 none) B.pre
  have ht : ∀ w ∈ lw_gd, w.before _ s₀ = true := fun w h => hts w (List.mem_cons_of_mem _ h)
  have hown : s₀.vm.findClass RX6 = some m.cls := findClass_of_methodNamed B.named
  have hlocks := B.notSynchronized
  subst hsz
  have hD := hD0.self (sz := s₀.heap.size)
  generalize hAe : va_A (CS D a s) s₀.heap.size = A at hD ⊢
  have hA : ∀ q : Nat, s₀.heap.size ≤ q → A q := fun q h => by rw [← hAe]; exact Or.inr h
  have hS : va_S A s₀.heap s₀.heap [] := va_S.rf
  have hDD : ∀ t : MS, va_D A (CS D a t) := fun t => CW_D t hD
  have hl := lv_entry ([.ref (a 5)]) (n := 3) (Nat.le_of_ble_eq_true rfl)
  rw [lg_entry_eq]
  generalize (lg_sl ([.ref (a 5)]) ++ List.replicate (3 - (lg_sl ([.ref (a 5)])).length) Slot.unset).toArray = ls at hl ⊢
  have hl : lv_has ls 3 [(0, .ref (a 5))] := hl
  unfold m_x6_readSum at h
  refine y_head (pcJ := 69) (σ := MS) (fun u H locs ls => va_P D vwCl (CS D a u) H ∧ va_S A s₀.heap H locs ∧ lv_has ls 3 [] ∧ m_x6_readSum_J69 rgs u = some o) (fun u => []) (fun u H locs ls hI => ?_) (fun J69 => ?_)
  · obtain ⟨hP, hS, hl, h⟩ := hI
    obtain ⟨s1, rfl⟩ : ∃ z, z = u := ⟨u, rfl⟩
    have hP : va_P D vwCl (CS D a s1) H := hP
    have hl : lv_has ls 3 [] := hl
    have h : m_x6_readSum_J69 rgs s1 = some o := h
    unfold m_x6_readSum_J69 at h
    obtain rfl := Option.some.inj h
    exact W.vret hx hb hr (fun t ht hW => ⟨⟨(), rfl, trivial, by rw [ht]; exact hP, va_K.moved hW.alike hK, hDD _⟩, hS.F ht⟩) hS.2.2 eX6_readSum_52.2.2.2.2.2.2.2
  refine y_loop (pcJ := 6) (σ := Int × MS) (fun n u H locs ls => va_P D vwCl (CS D a u.2) H ∧ va_S A s₀.heap H locs ∧ lv_has ls 3 [(0, .ref (a 5)), (1, .int (i2 u.1))] ∧ m_x6_readSum_L6 rgs n u.1 u.2 = some o) (fun u => []) (fun u H locs ls hI => by obtain ⟨_, _, _, h⟩ := hI; cases h) (fun n6 ih6 u H locs ls hI => ?_) (fun J6 => ?_)
  · obtain ⟨hP, hS, hl, h⟩ := hI
    obtain ⟨x2, s3⟩ := u
    have hP : va_P D vwCl (CS D a s3) H := hP
    have hl : lv_has ls 3 [(0, .ref (a 5)), (1, .int (i2 x2))] := hl
    have h : m_x6_readSum_b6 rgs (m_x6_readSum_L6 rgs n6) x2 s3 = some o := h
    unfold m_x6_readSum_b6 at h
    refine y_head (pcJ := 46) (σ := Int × Int × MS) (fun u H locs ls => va_P D vwCl (CS D a u.2.2) H ∧ va_S A s₀.heap H locs ∧ lv_has ls 3 [(0, .ref (a 5)), (1, .int (i2 u.1))] ∧ m_x6_readSum_J46 rgs (m_x6_readSum_L6 rgs n6) u.1 u.2.1 u.2.2 = some o) (fun u => [.int (i2 u.2.1)]) (fun u H locs ls hI => ?_) (fun J46 => ?_)
    · obtain ⟨hP, hS, hl, h⟩ := hI
      obtain ⟨x4, x5, s6⟩ := u
      have hP : va_P D vwCl (CS D a s6) H := hP
      have hl : lv_has ls 3 [(0, .ref (a 5)), (1, .int (i2 x4))] := hl
      have h : m_x6_readSum_J46 rgs (m_x6_readSum_L6 rgs n6) x4 x5 s6 = some o := h
      unfold m_x6_readSum_J46 at h
      refine lv_istore_n (lv' := [(2, .int (i2 x5)), (0, .ref (a 5)), (1, .int (i2 x4))]) hx hb eX6_readSum_37.2.2.2.2.1 rfl hl (by decide) rfl (fun ls hl => ?_)
      refine lv_aload_n hx hb eX6_readSum_37.2.2.2.2.2.1 rfl (lv_at hl 1 rfl) ?_
      obtain ⟨s8, hc7, h⟩ := bn_e h
      refine ywVv (As := []) (rest := []) (C := RX6) (n := 0) (ws' := CS D a s8) ⟨hx, hb, hml, hown, ht⟩ (k_x6_advance l D a _ _ _ hc7) (zgV ml_X6_75 im_X6_advance se_X6_advance in_X6 co_X6_advance) rfl rfl (by decide +kernel) ⟨by show 1 + 1 ≤ 8 * (d + 1) + 16; omega, by show 8 + (2 + 11) + 60 ≤ 60 * (8 * (d + 1) + 16); omega⟩ hN hK hP (hDD _) hS hA 5 CW_5 rfl rfl rfl hl.1 rfl (Nat.le_of_ble_eq_true rfl) eX6_readSum_37.2.2.2.2.2.2.1 ⟨Nat.le_of_ble_eq_true rfl, Nat.le_of_ble_eq_true rfl⟩ (fun H locs hP hS => ?_)
      refine lv_aload_n hx hb eX6_readSum_37.2.2.2.2.2.2.2 rfl (lv_at hl 1 rfl) ?_
      obtain ⟨s10, hc9, h⟩ := bn_e h
      refine ywVv (As := []) (rest := []) (C := RX6) (n := 0) (ws' := CS D a s10) ⟨hx, hb, hml, hown, ht⟩ (k_x6_readProduct l D a d rgs hRS hQ _ _ _ hc9) (zgV ml_X6_203 im_X6_readProduct se_X6_readProduct in_X6 co_X6_readProduct) rfl rfl (by decide +kernel) ⟨by show (8 * d + 21) + 1 ≤ 8 * (d + 1) + 16; omega, by show 8 + (3 + 11) + 60 * (8 * d + 21) ≤ 60 * (8 * (d + 1) + 16); omega⟩ hN hK hP (hDD _) hS hA 5 CW_5 rfl rfl rfl hl.1 rfl (Nat.le_of_ble_eq_true rfl) eX6_readSum_52.1 ⟨Nat.le_of_ble_eq_true rfl, Nat.le_of_ble_eq_true rfl⟩ (fun H locs hP hS => ?_)
      refine lv_aload_n hx hb eX6_readSum_52.2.1 rfl (lv_at hl 1 rfl) ?_
      obtain ⟨he11, h⟩ := eqg_e h
      refine va_get (D := D) (ci := 6) (v := .ref (a 47)) (C := RX6) (T := TX6) (N := 12) hx hb ht inX6 hown hK hP 5 CW_5 rfl 4 (by decide) (ht (.fieldLink RX6 84 "CloneVolumes$Reader" "code" "LCloneVolumes$Code;") fl_X6_84) (fun _ h9 => h9) (congrArg some (rcv_2 he11)) eX6_readSum_52.2.2.1 ?_
      refine lv_iload_n hx hb eX6_readSum_52.2.2.2.1 rfl (lv_at hl 0 rfl) ?_
      obtain ⟨s13, hc12, h⟩ := bn_e h
      refine ywVv (As := [.int (i2 x5)]) (rest := []) (C := RX0) (n := 1) (ws' := CS D a s13) ⟨hx, hb, hml, hown, ht⟩ (k_x0_add l D a x5 _ _ _ hc12) (zgV ml_X6_191 im_X0_add se_X0_add in_X0 co_X0_add) rfl rfl (by decide +kernel) ⟨by show 0 + 1 ≤ 8 * (d + 1) + 16; omega, by show 8 + (2 + 11) + 0 ≤ 60 * (8 * (d + 1) + 16); omega⟩ hN hK hP (hDD _) hS hA 47 CW_47 rfl rfl rfl hl.1 rfl (Nat.le_of_ble_eq_true rfl) eX6_readSum_52.2.2.2.2.1 ⟨Nat.le_of_ble_eq_true rfl, Nat.le_of_ble_eq_true rfl⟩ (fun H locs hP hS => ?_)
      refine lv_iinc (v := i2 (x4 + 1)) (lv' := [(1, .int (i2 (x4 + 1))), (2, .int (i2 x5)), (0, .ref (a 5))]) hx hb eX6_readSum_52.2.2.2.2.2.1 hl (k := 2) rfl (i2_add x4 1) (by decide) rfl (fun ls hl => ?_)
      refine lv_goto (tgt := 6) hx hb eX6_readSum_52.2.2.2.2.2.2.1 (by decide) ?_
      exact ih6 (x4 + 1, s13) _ _ _ ⟨hP, hS, lv_sub hl [2, 0] rfl, h⟩
    refine y_head (pcJ := 31) (σ := Int × MS) (fun u H locs ls => va_P D vwCl (CS D a u.2) H ∧ va_S A s₀.heap H locs ∧ lv_has ls 3 [(0, .ref (a 5)), (1, .int (i2 u.1))] ∧ m_x6_readSum_J31 rgs (m_x6_readSum_L6 rgs n6) u.1 u.2 = some o) (fun u => []) (fun u H locs ls hI => ?_) (fun J31 => ?_)
    · obtain ⟨hP, hS, hl, h⟩ := hI
      obtain ⟨x14, s15⟩ := u
      have hP : va_P D vwCl (CS D a s15) H := hP
      have hl : lv_has ls 3 [(0, .ref (a 5)), (1, .int (i2 x14))] := hl
      have h : m_x6_readSum_J31 rgs (m_x6_readSum_L6 rgs n6) x14 s15 = some o := h
      unfold m_x6_readSum_J31 at h
      refine lv_aload_n hx hb eX6_readSum_19.2.2.2.2.2.1 rfl (lv_at hl 0 rfl) ?_
      refine lv_bipush (v := 43) hx hb eX6_readSum_19.2.2.2.2.2.2.1 (by decide) ?_
      obtain ⟨r17, hc16, h⟩ := bn_e h
      refine ycV (r0 := i2 r17) (As := [.int 43]) (rest := []) (C := RX6) (n := 1) ⟨hx, hb, hml, hown, ht⟩ (k_x6_isSign l D a 43 _ _ hc16) (zgV ml_X6_124 im_X6_isSign se_X6_isSign in_X6 co_X6_isSign) rfl rfl (by decide +kernel) ⟨by show 0 + 1 ≤ 8 * (d + 1) + 16; omega, by show 8 + (2 + 11) + 0 ≤ 60 * (8 * (d + 1) + 16); omega⟩ hN hK hP hS 5 CW_5 rfl rfl rfl hl.1 rfl (Nat.le_of_ble_eq_true rfl) eX6_readSum_19.2.2.2.2.2.2.2 ⟨Nat.le_of_ble_eq_true rfl, Nat.le_of_ble_eq_true rfl⟩ (fun H locs hP hS => ?_)
      obtain ⟨hr18, h⟩ := rg_e h
      refine lv_if_eq (tgt := 44) hx hb eX6_readSum_37.1 (by decide) (fun c19 => ?_) (fun c19 => ?_)
      · have h := if_t ((i2_eq (x := r17) (y := 0) hr18 (by decide)).mp c19) h
        refine lv_bipush (v := (-2)) hx hb eX6_readSum_37.2.2.2.1 (by decide) ?_
        exact J46 (x14, (-2), s15) _ _ _ ⟨hP, hS, lv_sub hl [0, 1] rfl, h⟩
      · have h := if_f (mt (i2_eq (x := r17) (y := 0) hr18 (by decide)).mpr c19) h
        refine lv_iconst (v := (-1)) hx hb eX6_readSum_37.2.1 (by decide) ?_
        refine lv_goto (tgt := 46) hx hb eX6_readSum_37.2.2.1 (by decide) ?_
        exact J46 (x14, (-1), s15) _ _ _ ⟨hP, hS, lv_sub hl [0, 1] rfl, h⟩
    refine lv_iload_n hx hb eX6_readSum_4.2.2.1 rfl (lv_at hl 1 rfl) ?_
    refine lv_sipush (v := 1600) hx hb eX6_readSum_4.2.2.2.1 (by decide) ?_
    obtain ⟨hr20, h⟩ := rg_e h
    refine lv_icmp_ge (tgt := 69) hx hb eX6_readSum_4.2.2.2.2.1 (by decide) (fun c21 => ?_) (fun c21 => ?_)
    · have h := if_t ((i2_le (x := 1600) (y := x2) (by decide) hr20).mp c21) h
      exact J69 s3 _ _ _ ⟨hP, hS, lv_sub hl [] rfl, h⟩
    · have h := if_f (mt (i2_le (x := 1600) (y := x2) (by decide) hr20).mpr c21) h
      refine lv_aload_n hx hb eX6_readSum_4.2.2.2.2.2.1 rfl (lv_at hl 0 rfl) ?_
      refine lv_bipush (v := 43) hx hb eX6_readSum_4.2.2.2.2.2.2.1 (by decide) ?_
      obtain ⟨r23, hc22, h⟩ := bn_e h
      refine ycV (r0 := i2 r23) (As := [.int 43]) (rest := []) (C := RX6) (n := 1) ⟨hx, hb, hml, hown, ht⟩ (k_x6_isSign l D a 43 _ _ hc22) (zgV ml_X6_124 im_X6_isSign se_X6_isSign in_X6 co_X6_isSign) rfl rfl (by decide +kernel) ⟨by show 0 + 1 ≤ 8 * (d + 1) + 16; omega, by show 8 + (2 + 11) + 0 ≤ 60 * (8 * (d + 1) + 16); omega⟩ hN hK hP hS 5 CW_5 rfl rfl rfl hl.1 rfl (Nat.le_of_ble_eq_true rfl) eX6_readSum_4.2.2.2.2.2.2.2 ⟨Nat.le_of_ble_eq_true rfl, Nat.le_of_ble_eq_true rfl⟩ (fun H locs hP hS => ?_)
      obtain ⟨hr24, h⟩ := rg_e h
      refine lv_if_ne (tgt := 31) hx hb eX6_readSum_19.1 (by decide) (fun c25 => ?_) (fun c25 => ?_)
      · have h := if_f (mt (i2_eq (x := r23) (y := 0) hr24 (by decide)).mpr c25) h
        exact J31 (x2, s3) _ _ _ ⟨hP, hS, lv_sub hl [0, 1] rfl, h⟩
      · have h := if_t ((i2_eq (x := r23) (y := 0) hr24 (by decide)).mp c25) h
        refine lv_aload_n hx hb eX6_readSum_19.2.1 rfl (lv_at hl 0 rfl) ?_
        refine lv_bipush (v := 45) hx hb eX6_readSum_19.2.2.1 (by decide) ?_
        obtain ⟨r27, hc26, h⟩ := bn_e h
        refine ycV (r0 := i2 r27) (As := [.int 45]) (rest := []) (C := RX6) (n := 1) ⟨hx, hb, hml, hown, ht⟩ (k_x6_isSign l D a 45 _ _ hc26) (zgV ml_X6_124 im_X6_isSign se_X6_isSign in_X6 co_X6_isSign) rfl rfl (by decide +kernel) ⟨by show 0 + 1 ≤ 8 * (d + 1) + 16; omega, by show 8 + (2 + 11) + 0 ≤ 60 * (8 * (d + 1) + 16); omega⟩ hN hK hP hS 5 CW_5 rfl rfl rfl hl.1 rfl (Nat.le_of_ble_eq_true rfl) eX6_readSum_19.2.2.2.1 ⟨Nat.le_of_ble_eq_true rfl, Nat.le_of_ble_eq_true rfl⟩ (fun H locs hP hS => ?_)
        obtain ⟨hr28, h⟩ := rg_e h
        refine lv_if_eq (tgt := 69) hx hb eX6_readSum_19.2.2.2.2.1 (by decide) (fun c29 => ?_) (fun c29 => ?_)
        · have h := if_t ((i2_eq (x := r27) (y := 0) hr28 (by decide)).mp c29) h
          exact J69 s3 _ _ _ ⟨hP, hS, lv_sub hl [] rfl, h⟩
        · have h := if_f (mt (i2_eq (x := r27) (y := 0) hr28 (by decide)).mpr c29) h
          exact J31 (x2, s3) _ _ _ ⟨hP, hS, lv_sub hl [0, 1] rfl, h⟩
  refine lv_aload_n hx hb eX6_readProduct_57.2.2.2.2.2.2.1 rfl (lv_at hl 0 rfl) ?_
  obtain ⟨s31, hc30, h⟩ := bn_e h
  refine ywVv (As := []) (rest := []) (C := RX6) (n := 0) (ws' := CS D a s31) ⟨hx, hb, hml, hown, ht⟩ (k_x6_readProduct l D a d rgs hRS hQ _ _ _ hc30) (zgV ml_X6_203 im_X6_readProduct se_X6_readProduct in_X6 co_X6_readProduct) rfl rfl (by decide +kernel) ⟨by show (8 * d + 21) + 1 ≤ 8 * (d + 1) + 16; omega, by show 8 + (3 + 11) + 60 * (8 * d + 21) ≤ 60 * (8 * (d + 1) + 16); omega⟩ hN hK hP (hDD _) hS hA 5 CW_5 rfl rfl rfl hl.1 rfl (Nat.le_of_ble_eq_true rfl) eX6_readProduct_57.2.2.2.2.2.2.2 ⟨Nat.le_of_ble_eq_true rfl, Nat.le_of_ble_eq_true rfl⟩ (fun H locs hP hS => ?_)
  refine lv_iconst (v := 0) hx hb eX6_readSum_4.1 (by decide) ?_
  refine lv_istore_n (lv' := [(1, .int 0), (0, .ref (a 5))]) hx hb eX6_readSum_4.2.1 rfl hl (by decide) rfl (fun ls hl => ?_)
  exact J6 FU (0, s31) _ _ _ ⟨hP, hS, lv_sub hl [1, 0] rfl, h⟩
theorem rg1_met (l : Launch) (D : va_G) (a : Nat → Nat) : ∀ d : Nat, (∀ (sz : Nat) (s o : MS), (RG1 d).1 s = some o → yWv l yX6_readSum cX6_readSum 3 none { frames := 8 * d + 16, cells := 0, slots := 0, locals := 60 * (8 * d + 16) } D sz [.ref (a 5)] (CS D a s) (CS D a o)) ∧ (∀ (sz : Nat) (s o : MS), (RG1 d).2 s = some o → yWv l yX6_readPart cX6_readPart 1 none { frames := 8 * d + 12, cells := 0, slots := 0, locals := 60 * (8 * d + 12) } D sz [.ref (a 5)] (CS D a s) (CS D a o)) := by
  intro d
  induction d with
  | zero => exact ⟨fun sz s o h => (by cases h), fun sz s o h => (by cases h)⟩
  | succ d ih => exact ⟨fun sz s o h => k_x6_readSum l D a d (RG1 d) ih.1 ih.2 sz s o h, fun sz s o h => k_x6_readPart l D a d (RG1 d) ih.1 ih.2 sz s o h⟩
theorem k_x6_readSumC (l : Launch) (D : va_G) (a : Nat → Nat) (sz : Nat) (s o : MS) (h : m_x6_readSumC s = some o) : yWv l yX6_readSum cX6_readSum 3 none { frames := 8 * 8 + 16, cells := 0, slots := 0, locals := 60 * (8 * 8 + 16) } D sz [.ref (a 5)] (CS D a s) (CS D a o) := (rg1_met l D a 8).1 sz s o h
set_option maxHeartbeats 4000000 in
set_option maxRecDepth 100000 in
theorem k_x6_comparison (l : Launch) (D : va_G) (a : Nat → Nat) (sz : Nat) (s : MS) (o : (Int × MS)) (h : m_x6_comparison s = some o) : yWi l yX6_comparison cX6_comparison 2 (some .int) { frames := 2, cells := 0, slots := 0, locals := 120 } D sz [.ref (a 5)] (CS D a s) (CS D a o.2) (i2 o.1) := by
  refine Met.ofW (cc := cX6_comparison) (maxL := 2) (ret := (some .int)) (by decide) rfl ?_
  intro p e s₀ m args below meth c s₁ B hml hv
  obtain ⟨rfl, ⟨hsz, hP, hK, hD0⟩, hN⟩ := hv
  have hx := B.exec
  have hb := B.bytes
  have hr := B.returns
  have hts := atoms_spec (ws := wz yX6_comparison cX6_comparison 2 (some .int)) B.pre
  have ht : ∀ w ∈ lw_gd, w.before _ s₀ = true := fun w h => hts w (List.mem_cons_of_mem _ h)
  have hown : s₀.vm.findClass RX6 = some m.cls := findClass_of_methodNamed B.named
  have hlocks := B.notSynchronized
  subst hsz
  have hD := hD0.self (sz := s₀.heap.size)
  generalize hAe : va_A (CS D a s) s₀.heap.size = A at hD ⊢
  have hA : ∀ q : Nat, s₀.heap.size ≤ q → A q := fun q h => by rw [← hAe]; exact Or.inr h
  have hS : va_S A s₀.heap s₀.heap [] := va_S.rf
  have hDD : ∀ t : MS, va_D A (CS D a t) := fun t => CW_D t hD
  have hl := lv_entry ([.ref (a 5)]) (n := 2) (Nat.le_of_ble_eq_true rfl)
  rw [lg_entry_eq]
  generalize (lg_sl ([.ref (a 5)]) ++ List.replicate (2 - (lg_sl ([.ref (a 5)])).length) Slot.unset).toArray = ls at hl ⊢
  have hl : lv_has ls 2 [(0, .ref (a 5))] := hl
  unfold m_x6_comparison at h
  refine y_head (pcJ := 52) (σ := Int × MS) (fun u H locs ls => va_P D vwCl (CS D a u.2) H ∧ va_S A s₀.heap H locs ∧ lv_has ls 2 [(0, .ref (a 5)), (1, .int (i2 u.1))] ∧ m_x6_comparison_J52 u.1 u.2 = some o) (fun u => []) (fun u H locs ls hI => ?_) (fun J52 => ?_)
  · obtain ⟨hP, hS, hl, h⟩ := hI
    obtain ⟨x1, s2⟩ := u
    have hP : va_P D vwCl (CS D a s2) H := hP
    have hl : lv_has ls 2 [(0, .ref (a 5)), (1, .int (i2 x1))] := hl
    have h : m_x6_comparison_J52 x1 s2 = some o := h
    unfold m_x6_comparison_J52 at h
    refine lv_aload_n hx hb eX6_comparison_48.2.2.1 rfl (lv_at hl 0 rfl) ?_
    obtain ⟨s4, hc3, h⟩ := bn_e h
    refine ywVv (As := []) (rest := []) (C := RX6) (n := 0) (ws' := CS D a s4) ⟨hx, hb, hml, hown, ht⟩ (k_x6_advance l D a _ _ _ hc3) (zgV ml_X6_75 im_X6_advance se_X6_advance in_X6 co_X6_advance) rfl rfl (by decide +kernel) ⟨Nat.le_of_ble_eq_true rfl, Nat.le_of_ble_eq_true rfl⟩ hN hK hP (hDD _) hS hA 5 CW_5 rfl rfl rfl hl.1 rfl (Nat.le_of_ble_eq_true rfl) eX6_comparison_48.2.2.2.1 ⟨Nat.le_of_ble_eq_true rfl, Nat.le_of_ble_eq_true rfl⟩ (fun H locs hP hS => ?_)
    refine lv_iload_n hx hb eX6_comparison_48.2.2.2.2.1 rfl (lv_at hl 1 rfl) ?_
    obtain rfl := Option.some.inj h
    exact W.iret (v := (i2 x1)) hx hb hr (fun t ht hW => ⟨⟨_, (), rfl, rfl, by rw [ht]; exact hP, va_K.moved hW.alike hK, hDD _⟩, hS.F ht⟩) hS.2.2 eX6_comparison_48.2.2.2.2.2.1
  refine lv_bipush (v := (-9)) hx hb eX6_comparison_0.1 (by decide) ?_
  refine lv_istore_n (lv' := [(1, .int (-9)), (0, .ref (a 5))]) hx hb eX6_comparison_0.2.1 rfl hl (by decide) rfl (fun ls hl => ?_)
  refine lv_aload_n hx hb eX6_comparison_0.2.2.1 rfl (lv_at hl 1 rfl) ?_
  refine lv_bipush (v := 60) hx hb eX6_comparison_0.2.2.2.1 (by decide) ?_
  obtain ⟨r6, hc5, h⟩ := bn_e h
  refine ycV (r0 := i2 r6) (As := [.int 60]) (rest := []) (C := RX6) (n := 1) ⟨hx, hb, hml, hown, ht⟩ (k_x6_isSign l D a 60 _ _ hc5) (zgV ml_X6_124 im_X6_isSign se_X6_isSign in_X6 co_X6_isSign) rfl rfl (by decide +kernel) ⟨Nat.le_of_ble_eq_true rfl, Nat.le_of_ble_eq_true rfl⟩ hN hK hP hS 5 CW_5 rfl rfl rfl hl.1 rfl (Nat.le_of_ble_eq_true rfl) eX6_comparison_0.2.2.2.2.1 ⟨Nat.le_of_ble_eq_true rfl, Nat.le_of_ble_eq_true rfl⟩ (fun H locs hP hS => ?_)
  obtain ⟨hr7, h⟩ := rg_e h
  refine lv_if_eq (tgt := 18) hx hb eX6_comparison_0.2.2.2.2.2.1 (by decide) (fun c8 => ?_) (fun c8 => ?_)
  · have h := if_t ((i2_eq (x := r6) (y := 0) hr7 (by decide)).mp c8) h
    refine lv_aload_n hx hb eX6_comparison_15.2.1 rfl (lv_at hl 1 rfl) ?_
    refine lv_bipush (v := 62) hx hb eX6_comparison_15.2.2.1 (by decide) ?_
    obtain ⟨r10, hc9, h⟩ := bn_e h
    refine ycV (r0 := i2 r10) (As := [.int 62]) (rest := []) (C := RX6) (n := 1) ⟨hx, hb, hml, hown, ht⟩ (k_x6_isSign l D a 62 _ _ hc9) (zgV ml_X6_124 im_X6_isSign se_X6_isSign in_X6 co_X6_isSign) rfl rfl (by decide +kernel) ⟨Nat.le_of_ble_eq_true rfl, Nat.le_of_ble_eq_true rfl⟩ hN hK hP hS 5 CW_5 rfl rfl rfl hl.1 rfl (Nat.le_of_ble_eq_true rfl) eX6_comparison_15.2.2.2.1 ⟨Nat.le_of_ble_eq_true rfl, Nat.le_of_ble_eq_true rfl⟩ (fun H locs hP hS => ?_)
    obtain ⟨hr11, h⟩ := rg_e h
    refine lv_if_eq (tgt := 33) hx hb eX6_comparison_15.2.2.2.2.1 (by decide) (fun c12 => ?_) (fun c12 => ?_)
    · have h := if_t ((i2_eq (x := r10) (y := 0) hr11 (by decide)).mp c12) h
      refine lv_aload_n hx hb eX6_comparison_33.1 rfl (lv_at hl 1 rfl) ?_
      refine lv_bipush (v := 61) hx hb eX6_comparison_33.2.1 (by decide) ?_
      obtain ⟨r14, hc13, h⟩ := bn_e h
      refine ycV (r0 := i2 r14) (As := [.int 61]) (rest := []) (C := RX6) (n := 1) ⟨hx, hb, hml, hown, ht⟩ (k_x6_isSign l D a 61 _ _ hc13) (zgV ml_X6_124 im_X6_isSign se_X6_isSign in_X6 co_X6_isSign) rfl rfl (by decide +kernel) ⟨Nat.le_of_ble_eq_true rfl, Nat.le_of_ble_eq_true rfl⟩ hN hK hP hS 5 CW_5 rfl rfl rfl hl.1 rfl (Nat.le_of_ble_eq_true rfl) eX6_comparison_33.2.2.1 ⟨Nat.le_of_ble_eq_true rfl, Nat.le_of_ble_eq_true rfl⟩ (fun H locs hP hS => ?_)
      obtain ⟨hr15, h⟩ := rg_e h
      refine lv_if_ne (tgt := 52) hx hb eX6_comparison_33.2.2.2.1 (by decide) (fun c16 => ?_) (fun c16 => ?_)
      · have h := if_f (mt (i2_eq (x := r14) (y := 0) hr15 (by decide)).mpr c16) h
        exact J52 ((-9), s) _ _ _ ⟨hP, hS, lv_sub hl [1, 0] rfl, h⟩
      · have h := if_t ((i2_eq (x := r14) (y := 0) hr15 (by decide)).mp c16) h
        refine lv_aload_n hx hb eX6_comparison_33.2.2.2.2.1 rfl (lv_at hl 1 rfl) ?_
        refine lv_iconst (v := 1) hx hb eX6_comparison_33.2.2.2.2.2.1 (by decide) ?_
        refine lv_aload_n hx hb eX6_comparison_33.2.2.2.2.2.2.1 rfl (lv_at hl 1 rfl) ?_
        refine va_get (D := D) (ci := 6) (v := .int (i2 (gI s 108))) (C := RX6) (T := TX6) (N := 12) hx hb ht inX6 hown hK hP 5 CW_5 rfl 8 (by decide) (ht (.fieldLink RX6 51 "CloneVolumes$Reader" "start" "I") fl_X6_51) (fun _ h9 => h9) rfl eX6_comparison_33.2.2.2.2.2.2.2 ?_
        obtain ⟨⟨r19, s18⟩, hc17, h⟩ := bn_e h
        refine ywV (r0 := i2 r19) (As := [.int 1, .int (i2 (gI s 108))]) (rest := []) (C := RX6) (n := 2) (ws' := CS D a s18) ⟨hx, hb, hml, hown, ht⟩ (k_x6_fail l D a 1 (gI s 108) _ _ _ hc17) (zgV ml_X6_54 im_X6_fail se_X6_fail in_X6 co_X6_fail) rfl rfl (by decide +kernel) ⟨Nat.le_of_ble_eq_true rfl, Nat.le_of_ble_eq_true rfl⟩ hN hK hP (hDD _) hS hA 5 CW_5 rfl rfl rfl hl.1 rfl (Nat.le_of_ble_eq_true rfl) eX6_comparison_48.1 ⟨Nat.le_of_ble_eq_true rfl, Nat.le_of_ble_eq_true rfl⟩ (fun H locs hP hS => ?_)
        refine lv_pop hx hb eX6_comparison_48.2.1 rfl ?_
        exact J52 ((-9), s18) _ _ _ ⟨hP, hS, lv_sub hl [1, 0] rfl, h⟩
    · have h := if_f (mt (i2_eq (x := r10) (y := 0) hr11 (by decide)).mpr c12) h
      refine lv_bipush (v := (-8)) hx hb eX6_comparison_15.2.2.2.2.2.1 (by decide) ?_
      refine lv_istore_n (lv' := [(1, .int (-8)), (0, .ref (a 5))]) hx hb eX6_comparison_15.2.2.2.2.2.2.1 rfl hl (by decide) rfl (fun ls hl => ?_)
      refine lv_goto (tgt := 52) hx hb eX6_comparison_15.2.2.2.2.2.2.2 (by decide) ?_
      exact J52 ((-8), s) _ _ _ ⟨hP, hS, lv_sub hl [1, 0] rfl, h⟩
  · have h := if_f (mt (i2_eq (x := r6) (y := 0) hr7 (by decide)).mpr c8) h
    refine lv_bipush (v := (-7)) hx hb eX6_comparison_0.2.2.2.2.2.2.1 (by decide) ?_
    refine lv_istore_n (lv' := [(1, .int (-7)), (0, .ref (a 5))]) hx hb eX6_comparison_0.2.2.2.2.2.2.2 rfl hl (by decide) rfl (fun ls hl => ?_)
    refine lv_goto (tgt := 52) hx hb eX6_comparison_15.1 (by decide) ?_
    exact J52 ((-7), s) _ _ _ ⟨hP, hS, lv_sub hl [1, 0] rfl, h⟩
set_option maxHeartbeats 4000000 in
set_option maxRecDepth 100000 in
theorem k_x6_readFact (l : Launch) (D : va_G) (a : Nat → Nat) (d : Nat) (rgs : (MS → Option MS) × (MS → Option MS)) (hF : ∀ (sz : Nat) (s o : MS), rgs.1 s = some o → yWv l yX6_readFact cX6_readFact 2 none { frames := 8 * d + 92, cells := 0, slots := 0, locals := 60 * (8 * d + 92) } D sz [.ref (a 5)] (CS D a s) (CS D a o)) (hT : ∀ (sz : Nat) (s o : MS), rgs.2 s = some o → yWv l yX6_readTest cX6_readTest 2 none { frames := 8 * d + 96, cells := 0, slots := 0, locals := 60 * (8 * d + 96) } D sz [.ref (a 5)] (CS D a s) (CS D a o)) (sz : Nat) (s : MS) (o : MS) (h : m_x6_readFact rgs s = some o) : yWv l yX6_readFact cX6_readFact 2 none { frames := 8 * (d + 1) + 92, cells := 0, slots := 0, locals := 60 * (8 * (d + 1) + 92) } D sz [.ref (a 5)] (CS D a s) (CS D a o) := by
  refine Met.ofW (cc := cX6_readFact) (maxL := 2) (ret := none) (by decide) rfl ?_
  intro p e s₀ m args below meth c s₁ B hml hv
  obtain ⟨rfl, ⟨hsz, hP, hK, hD0⟩, hN⟩ := hv
  have hx := B.exec
  have hb := B.bytes
  have hr := B.returns
  have hts := atoms_spec (ws := wz yX6_readFact cX6_readFact 2 none) B.pre
  have ht : ∀ w ∈ lw_gd, w.before _ s₀ = true := fun w h => hts w (List.mem_cons_of_mem _ h)
  have hown : s₀.vm.findClass RX6 = some m.cls := findClass_of_methodNamed B.named
  have hlocks := B.notSynchronized
  subst hsz
  have hD := hD0.self (sz := s₀.heap.size)
  generalize hAe : va_A (CS D a s) s₀.heap.size = A at hD ⊢
  have hA : ∀ q : Nat, s₀.heap.size ≤ q → A q := fun q h => by rw [← hAe]; exact Or.inr h
  have hS : va_S A s₀.heap s₀.heap [] := va_S.rf
  have hDD : ∀ t : MS, va_D A (CS D a t) := fun t => CW_D t hD
  have hl := lv_entry ([.ref (a 5)]) (n := 2) (Nat.le_of_ble_eq_true rfl)
  rw [lg_entry_eq]
  generalize (lg_sl ([.ref (a 5)]) ++ List.replicate (2 - (lg_sl ([.ref (a 5)])).length) Slot.unset).toArray = ls at hl ⊢
  have hl : lv_has ls 2 [(0, .ref (a 5))] := hl
  unfold m_x6_readFact at h
  refine y_head (pcJ := 134) (σ := MS) (fun u H locs ls => va_P D vwCl (CS D a u) H ∧ va_S A s₀.heap H locs ∧ lv_has ls 2 [] ∧ m_x6_readFact_J134 rgs u = some o) (fun u => []) (fun u H locs ls hI => ?_) (fun J134 => ?_)
  · obtain ⟨hP, hS, hl, h⟩ := hI
    obtain ⟨s1, rfl⟩ : ∃ z, z = u := ⟨u, rfl⟩
    have hP : va_P D vwCl (CS D a s1) H := hP
    have hl : lv_has ls 2 [] := hl
    have h : m_x6_readFact_J134 rgs s1 = some o := h
    unfold m_x6_readFact_J134 at h
    obtain rfl := Option.some.inj h
    exact W.vret hx hb hr (fun t ht hW => ⟨⟨(), rfl, trivial, by rw [ht]; exact hP, va_K.moved hW.alike hK, hDD _⟩, hS.F ht⟩) hS.2.2 eX6_readFact_122.2.2.2.2.2.2.1
  refine lv_aload_n hx hb eX6_isWord_13.2.2.2.2.2.1 rfl (lv_at hl 0 rfl) ?_
  refine lv_bipush (v := 23) hx hb eX6_isWord_13.2.2.2.2.2.2.1 (by decide) ?_
  obtain ⟨r3, hc2, h⟩ := bn_e h
  refine ycV (r0 := i2 r3) (As := [.int 23]) (rest := []) (C := RX6) (n := 1) ⟨hx, hb, hml, hown, ht⟩ (k_x6_isWord l D a 23 _ _ hc2) (zgV ml_X6_121 im_X6_isWord se_X6_isWord in_X6 co_X6_isWord) rfl rfl (by decide +kernel) ⟨by show 0 + 1 ≤ 8 * (d + 1) + 92; omega, by show 8 + (2 + 11) + 0 ≤ 60 * (8 * (d + 1) + 92); omega⟩ hN hK hP hS 5 CW_5 rfl rfl rfl hl.1 rfl (Nat.le_of_ble_eq_true rfl) eX6_isWord_13.2.2.2.2.2.2.2 ⟨Nat.le_of_ble_eq_true rfl, Nat.le_of_ble_eq_true rfl⟩ (fun H locs hP hS => ?_)
  obtain ⟨hr4, h⟩ := rg_e h
  refine lv_if_eq (tgt := 46) hx hb eX6_readFact_6.1 (by decide) (fun c5 => ?_) (fun c5 => ?_)
  · have h := if_t ((i2_eq (x := r3) (y := 0) hr4 (by decide)).mp c5) h
    refine lv_aload_n hx hb eX6_readFact_39.2.2.2.1 rfl (lv_at hl 0 rfl) ?_
    refine lv_bipush (v := 91) hx hb eX6_readFact_39.2.2.2.2.1 (by decide) ?_
    obtain ⟨r7, hc6, h⟩ := bn_e h
    refine ycV (r0 := i2 r7) (As := [.int 91]) (rest := []) (C := RX6) (n := 1) ⟨hx, hb, hml, hown, ht⟩ (k_x6_isSign l D a 91 _ _ hc6) (zgV ml_X6_124 im_X6_isSign se_X6_isSign in_X6 co_X6_isSign) rfl rfl (by decide +kernel) ⟨by show 0 + 1 ≤ 8 * (d + 1) + 92; omega, by show 8 + (2 + 11) + 0 ≤ 60 * (8 * (d + 1) + 92); omega⟩ hN hK hP hS 5 CW_5 rfl rfl rfl hl.1 rfl (Nat.le_of_ble_eq_true rfl) eX6_readFact_39.2.2.2.2.2.1 ⟨Nat.le_of_ble_eq_true rfl, Nat.le_of_ble_eq_true rfl⟩ (fun H locs hP hS => ?_)
    obtain ⟨hr8, h⟩ := rg_e h
    refine lv_if_eq (tgt := 89) hx hb eX6_readFact_39.2.2.2.2.2.2.1 (by decide) (fun c9 => ?_) (fun c9 => ?_)
    · have h := if_t ((i2_eq (x := r7) (y := 0) hr8 (by decide)).mp c9) h
      refine lv_aload_n hx hb eX6_readFact_89.1 rfl (lv_at hl 0 rfl) ?_
      refine lv_bipush (v := 24) hx hb eX6_readFact_89.2.1 (by decide) ?_
      obtain ⟨r11, hc10, h⟩ := bn_e h
      refine ycV (r0 := i2 r11) (As := [.int 24]) (rest := []) (C := RX6) (n := 1) ⟨hx, hb, hml, hown, ht⟩ (k_x6_isWord l D a 24 _ _ hc10) (zgV ml_X6_121 im_X6_isWord se_X6_isWord in_X6 co_X6_isWord) rfl rfl (by decide +kernel) ⟨by show 0 + 1 ≤ 8 * (d + 1) + 92; omega, by show 8 + (2 + 11) + 0 ≤ 60 * (8 * (d + 1) + 92); omega⟩ hN hK hP hS 5 CW_5 rfl rfl rfl hl.1 rfl (Nat.le_of_ble_eq_true rfl) eX6_readFact_89.2.2.1 ⟨Nat.le_of_ble_eq_true rfl, Nat.le_of_ble_eq_true rfl⟩ (fun H locs hP hS => ?_)
      obtain ⟨hr12, h⟩ := rg_e h
      refine lv_if_eq (tgt := 113) hx hb eX6_readFact_89.2.2.2.1 (by decide) (fun c13 => ?_) (fun c13 => ?_)
      · have h := if_t ((i2_eq (x := r11) (y := 0) hr12 (by decide)).mp c13) h
        refine lv_aload_n hx hb eX6_readFact_106.2.2.2.1 rfl (lv_at hl 0 rfl) ?_
        obtain ⟨s15, hc14, h⟩ := bn_e h
        refine ywVv (As := []) (rest := []) (C := RX6) (n := 0) (ws' := CS D a s15) ⟨hx, hb, hml, hown, ht⟩ (k_x6_readSumC l D a _ _ _ hc14) (zgV ml_X6_81 im_X6_readSum se_X6_readSum in_X6 co_X6_readSum) rfl rfl (by decide +kernel) ⟨by show (8 * 8 + 16) + 1 ≤ 8 * (d + 1) + 92; omega, by show 8 + (3 + 11) + 60 * (8 * 8 + 16) ≤ 60 * (8 * (d + 1) + 92); omega⟩ hN hK hP (hDD _) hS hA 5 CW_5 rfl rfl rfl hl.1 rfl (Nat.le_of_ble_eq_true rfl) eX6_readFact_106.2.2.2.2.1 ⟨Nat.le_of_ble_eq_true rfl, Nat.le_of_ble_eq_true rfl⟩ (fun H locs hP hS => ?_)
        refine lv_aload_n hx hb eX6_readFact_106.2.2.2.2.2.1 rfl (lv_at hl 0 rfl) ?_
        obtain ⟨⟨r18, s17⟩, hc16, h⟩ := bn_e h
        refine ywV (r0 := i2 r18) (As := []) (rest := []) (C := RX6) (n := 0) (ws' := CS D a s17) ⟨hx, hb, hml, hown, ht⟩ (k_x6_comparison l D a _ _ _ hc16) (zgV ml_X6_200 im_X6_comparison se_X6_comparison in_X6 co_X6_comparison) rfl rfl (by decide +kernel) ⟨by show 2 + 1 ≤ 8 * (d + 1) + 92; omega, by show 8 + (2 + 11) + 120 ≤ 60 * (8 * (d + 1) + 92); omega⟩ hN hK hP (hDD _) hS hA 5 CW_5 rfl rfl rfl hl.1 rfl (Nat.le_of_ble_eq_true rfl) eX6_readFact_106.2.2.2.2.2.2.1 ⟨Nat.le_of_ble_eq_true rfl, Nat.le_of_ble_eq_true rfl⟩ (fun H locs hP hS => ?_)
        refine lv_istore_n (lv' := [(1, .int (i2 r18)), (0, .ref (a 5))]) hx hb eX6_readFact_106.2.2.2.2.2.2.2 rfl hl (by decide) rfl (fun ls hl => ?_)
        refine lv_aload_n hx hb eX6_readFact_122.1 rfl (lv_at hl 1 rfl) ?_
        obtain ⟨s20, hc19, h⟩ := bn_e h
        refine ywVv (As := []) (rest := []) (C := RX6) (n := 0) (ws' := CS D a s20) ⟨hx, hb, hml, hown, ht⟩ (k_x6_readSumC l D a _ _ _ hc19) (zgV ml_X6_81 im_X6_readSum se_X6_readSum in_X6 co_X6_readSum) rfl rfl (by decide +kernel) ⟨by show (8 * 8 + 16) + 1 ≤ 8 * (d + 1) + 92; omega, by show 8 + (3 + 11) + 60 * (8 * 8 + 16) ≤ 60 * (8 * (d + 1) + 92); omega⟩ hN hK hP (hDD _) hS hA 5 CW_5 rfl rfl rfl hl.1 rfl (Nat.le_of_ble_eq_true rfl) eX6_readFact_122.2.1 ⟨Nat.le_of_ble_eq_true rfl, Nat.le_of_ble_eq_true rfl⟩ (fun H locs hP hS => ?_)
        refine lv_aload_n hx hb eX6_readFact_122.2.2.1 rfl (lv_at hl 1 rfl) ?_
        obtain ⟨he21, h⟩ := eqg_e h
        refine va_get (D := D) (ci := 6) (v := .ref (a 47)) (C := RX6) (T := TX6) (N := 12) hx hb ht inX6 hown hK hP 5 CW_5 rfl 4 (by decide) (ht (.fieldLink RX6 84 "CloneVolumes$Reader" "code" "LCloneVolumes$Code;") fl_X6_84) (fun _ h9 => h9) (congrArg some (rcv_2 he21)) eX6_readFact_122.2.2.2.1 ?_
        refine lv_iload_n hx hb eX6_readFact_122.2.2.2.2.1 rfl (lv_at hl 0 rfl) ?_
        obtain ⟨s23, hc22, h⟩ := bn_e h
        refine ywVv (As := [.int (i2 r18)]) (rest := []) (C := RX0) (n := 1) (ws' := CS D a s23) ⟨hx, hb, hml, hown, ht⟩ (k_x0_add l D a r18 _ _ _ hc22) (zgV ml_X6_191 im_X0_add se_X0_add in_X0 co_X0_add) rfl rfl (by decide +kernel) ⟨by show 0 + 1 ≤ 8 * (d + 1) + 92; omega, by show 8 + (2 + 11) + 0 ≤ 60 * (8 * (d + 1) + 92); omega⟩ hN hK hP (hDD _) hS hA 47 CW_47 rfl rfl rfl hl.1 rfl (Nat.le_of_ble_eq_true rfl) eX6_readFact_122.2.2.2.2.2.1 ⟨Nat.le_of_ble_eq_true rfl, Nat.le_of_ble_eq_true rfl⟩ (fun H locs hP hS => ?_)
        exact J134 s23 _ _ _ ⟨hP, hS, lv_sub hl [] rfl, h⟩
      · have h := if_f (mt (i2_eq (x := r11) (y := 0) hr12 (by decide)).mpr c13) h
        refine lv_aload_n hx hb eX6_readFact_89.2.2.2.2.1 rfl (lv_at hl 0 rfl) ?_
        obtain ⟨he24, h⟩ := eqg_e h
        refine va_get (D := D) (ci := 6) (v := .ref (a 47)) (C := RX6) (T := TX6) (N := 12) hx hb ht inX6 hown hK hP 5 CW_5 rfl 4 (by decide) (ht (.fieldLink RX6 84 "CloneVolumes$Reader" "code" "LCloneVolumes$Code;") fl_X6_84) (fun _ h9 => h9) (congrArg some (rcv_2 he24)) eX6_readFact_89.2.2.2.2.2.1 ?_
        refine lv_iconst (v := 1) hx hb eX6_readFact_89.2.2.2.2.2.2.1 (by decide) ?_
        obtain ⟨s26, hc25, h⟩ := bn_e h
        refine ywVv (As := [.int 1]) (rest := []) (C := RX0) (n := 1) (ws' := CS D a s26) ⟨hx, hb, hml, hown, ht⟩ (k_x0_add l D a 1 _ _ _ hc25) (zgV ml_X6_191 im_X0_add se_X0_add in_X0 co_X0_add) rfl rfl (by decide +kernel) ⟨by show 0 + 1 ≤ 8 * (d + 1) + 92; omega, by show 8 + (2 + 11) + 0 ≤ 60 * (8 * (d + 1) + 92); omega⟩ hN hK hP (hDD _) hS hA 47 CW_47 rfl rfl rfl hl.1 rfl (Nat.le_of_ble_eq_true rfl) eX6_readFact_89.2.2.2.2.2.2.2 ⟨Nat.le_of_ble_eq_true rfl, Nat.le_of_ble_eq_true rfl⟩ (fun H locs hP hS => ?_)
        refine lv_aload_n hx hb eX6_readFact_106.1 rfl (lv_at hl 0 rfl) ?_
        obtain ⟨s28, hc27, h⟩ := bn_e h
        refine ywVv (As := []) (rest := []) (C := RX6) (n := 0) (ws' := CS D a s28) ⟨hx, hb, hml, hown, ht⟩ (k_x6_advance l D a _ _ _ hc27) (zgV ml_X6_75 im_X6_advance se_X6_advance in_X6 co_X6_advance) rfl rfl (by decide +kernel) ⟨by show 1 + 1 ≤ 8 * (d + 1) + 92; omega, by show 8 + (2 + 11) + 60 ≤ 60 * (8 * (d + 1) + 92); omega⟩ hN hK hP (hDD _) hS hA 5 CW_5 rfl rfl rfl hl.1 rfl (Nat.le_of_ble_eq_true rfl) eX6_readFact_106.2.1 ⟨Nat.le_of_ble_eq_true rfl, Nat.le_of_ble_eq_true rfl⟩ (fun H locs hP hS => ?_)
        refine lv_goto (tgt := 134) hx hb eX6_readFact_106.2.2.1 (by decide) ?_
        exact J134 s28 _ _ _ ⟨hP, hS, lv_sub hl [] rfl, h⟩
    · have h := if_f (mt (i2_eq (x := r7) (y := 0) hr8 (by decide)).mpr c9) h
      refine lv_aload_n hx hb eX6_readFact_39.2.2.2.2.2.2.2 rfl (lv_at hl 0 rfl) ?_
      obtain ⟨⟨r31, s30⟩, hc29, h⟩ := bn_e h
      refine ywV (r0 := i2 r31) (As := []) (rest := []) (C := RX6) (n := 0) (ws' := CS D a s30) ⟨hx, hb, hml, hown, ht⟩ (k_x6_opens l D a _ _ _ hc29) (zgV ml_X6_197 im_X6_opens se_X6_opens in_X6 co_X6_opens) rfl rfl (by decide +kernel) ⟨by show 1 + 1 ≤ 8 * (d + 1) + 92; omega, by show 8 + (1 + 11) + 60 ≤ 60 * (8 * (d + 1) + 92); omega⟩ hN hK hP (hDD _) hS hA 5 CW_5 rfl rfl rfl hl.1 rfl (Nat.le_of_ble_eq_true rfl) eX6_readFact_56.1 ⟨Nat.le_of_ble_eq_true rfl, Nat.le_of_ble_eq_true rfl⟩ (fun H locs hP hS => ?_)
      obtain ⟨hr32, h⟩ := rg_e h
      refine lv_if_eq (tgt := 134) hx hb eX6_readFact_56.2.1 (by decide) (fun c33 => ?_) (fun c33 => ?_)
      · have h := if_t ((i2_eq (x := r31) (y := 0) hr32 (by decide)).mp c33) h
        exact J134 s30 _ _ _ ⟨hP, hS, lv_sub hl [] rfl, h⟩
      · have h := if_f (mt (i2_eq (x := r31) (y := 0) hr32 (by decide)).mpr c33) h
        refine lv_aload_n hx hb eX6_readFact_56.2.2.1 rfl (lv_at hl 0 rfl) ?_
        obtain ⟨s35, hc34, h⟩ := bn_e h
        refine ywVv (As := []) (rest := []) (C := RX6) (n := 0) (ws' := CS D a s35) ⟨hx, hb, hml, hown, ht⟩ (k_x6_advance l D a _ _ _ hc34) (zgV ml_X6_75 im_X6_advance se_X6_advance in_X6 co_X6_advance) rfl rfl (by decide +kernel) ⟨by show 1 + 1 ≤ 8 * (d + 1) + 92; omega, by show 8 + (2 + 11) + 60 ≤ 60 * (8 * (d + 1) + 92); omega⟩ hN hK hP (hDD _) hS hA 5 CW_5 rfl rfl rfl hl.1 rfl (Nat.le_of_ble_eq_true rfl) eX6_readFact_56.2.2.2.1 ⟨Nat.le_of_ble_eq_true rfl, Nat.le_of_ble_eq_true rfl⟩ (fun H locs hP hS => ?_)
        refine lv_aload_n hx hb eX6_readFact_56.2.2.2.2.1 rfl (lv_at hl 0 rfl) ?_
        obtain ⟨s37, hc36, h⟩ := bn_e h
        refine ywVv (As := []) (rest := []) (C := RX6) (n := 0) (ws' := CS D a s37) ⟨hx, hb, hml, hown, ht⟩ (hT _ _ _ hc36) (zgV ml_X6_78 im_X6_readTest se_X6_readTest in_X6 co_X6_readTest) rfl rfl (by decide +kernel) ⟨by show (8 * d + 96) + 1 ≤ 8 * (d + 1) + 92; omega, by show 8 + (2 + 11) + 60 * (8 * d + 96) ≤ 60 * (8 * (d + 1) + 92); omega⟩ hN hK hP (hDD _) hS hA 5 CW_5 rfl rfl rfl hl.1 rfl (Nat.le_of_ble_eq_true rfl) eX6_readFact_56.2.2.2.2.2.1 ⟨Nat.le_of_ble_eq_true rfl, Nat.le_of_ble_eq_true rfl⟩ (fun H locs hP hS => ?_)
        refine lv_aload_n hx hb eX6_readFact_56.2.2.2.2.2.2.1 rfl (lv_at hl 0 rfl) ?_
        refine lv_bipush (v := 93) hx hb eX6_readFact_56.2.2.2.2.2.2.2 (by decide) ?_
        obtain ⟨s39, hc38, h⟩ := bn_e h
        refine ywVv (As := [.int 93]) (rest := []) (C := RX6) (n := 1) (ws' := CS D a s39) ⟨hx, hb, hml, hown, ht⟩ (k_x6_expectSign l D a 93 _ _ _ hc38) (zgV ml_X6_158 im_X6_expectSign se_X6_expectSign in_X6 co_X6_expectSign) rfl rfl (by decide +kernel) ⟨by show 2 + 1 ≤ 8 * (d + 1) + 92; omega, by show 8 + (2 + 11) + 120 ≤ 60 * (8 * (d + 1) + 92); omega⟩ hN hK hP (hDD _) hS hA 5 CW_5 rfl rfl rfl hl.1 rfl (Nat.le_of_ble_eq_true rfl) eX6_readFact_73.1 ⟨Nat.le_of_ble_eq_true rfl, Nat.le_of_ble_eq_true rfl⟩ (fun H locs hP hS => ?_)
        refine lv_aload_n hx hb eX6_readFact_73.2.1 rfl (lv_at hl 0 rfl) ?_
        refine lv_dup hx hb eX6_readFact_73.2.2.1 rfl ?_
        refine va_get (D := D) (ci := 6) (v := .int (i2 (gI s39 106))) (C := RX6) (T := TX6) (N := 12) hx hb ht inX6 hown hK hP 5 CW_5 rfl 6 (by decide) (ht (.fieldLink RX6 85 "CloneVolumes$Reader" "open" "I") fl_X6_85) (fun _ h9 => h9) rfl eX6_readFact_73.2.2.2.1 ?_
        refine lv_iconst (v := 1) hx hb eX6_readFact_73.2.2.2.2.1 (by decide) ?_
        refine lv_isub hx hb eX6_readFact_73.2.2.2.2.2.1 ?_
        refine z_topi (y := i2 ((gI s39 106) - 1)) (i2_sub (gI s39 106) 1) ?_
        refine ya_put (D := D) (ci := 6) (v := .int (i2 ((gI s39 106) - 1))) (ty := .int) (C := RX6) (T := TX6) (N := 12) hx hb ht inX6 tyX6 tyX6_ok nmX6 hown hK hP (hDD _) hS 5 CW_5 rfl 6 (by decide) (ht (.fieldLink RX6 85 "CloneVolumes$Reader" "open" "I") fl_X6_85) (fun _ h9 => h9) rfl (by decide +kernel) rfl rfl (Nat.le_of_ble_eq_true rfl) eX6_readFact_73.2.2.2.2.2.2.1 (CW_w5_6 ((gI s39 106) - 1)) (fun H locs hP hS => ?_)
        obtain ⟨s40, hs40, h⟩ := st_e h
        rw [hs40] at hP
        refine lv_goto (tgt := 134) hx hb eX6_readFact_73.2.2.2.2.2.2.2 (by decide) ?_
        exact J134 s40 _ _ _ ⟨hP, hS, lv_sub hl [] rfl, h⟩
  · have h := if_f (mt (i2_eq (x := r3) (y := 0) hr4 (by decide)).mpr c5) h
    refine lv_aload_n hx hb eX6_readFact_6.2.1 rfl (lv_at hl 0 rfl) ?_
    obtain ⟨⟨r43, s42⟩, hc41, h⟩ := bn_e h
    refine ywV (r0 := i2 r43) (As := []) (rest := []) (C := RX6) (n := 0) (ws' := CS D a s42) ⟨hx, hb, hml, hown, ht⟩ (k_x6_opens l D a _ _ _ hc41) (zgV ml_X6_197 im_X6_opens se_X6_opens in_X6 co_X6_opens) rfl rfl (by decide +kernel) ⟨by show 1 + 1 ≤ 8 * (d + 1) + 92; omega, by show 8 + (1 + 11) + 60 ≤ 60 * (8 * (d + 1) + 92); omega⟩ hN hK hP (hDD _) hS hA 5 CW_5 rfl rfl rfl hl.1 rfl (Nat.le_of_ble_eq_true rfl) eX6_readFact_6.2.2.1 ⟨Nat.le_of_ble_eq_true rfl, Nat.le_of_ble_eq_true rfl⟩ (fun H locs hP hS => ?_)
    obtain ⟨hr44, h⟩ := rg_e h
    refine lv_if_eq (tgt := 134) hx hb eX6_readFact_6.2.2.2.1 (by decide) (fun c45 => ?_) (fun c45 => ?_)
    · have h := if_t ((i2_eq (x := r43) (y := 0) hr44 (by decide)).mp c45) h
      exact J134 s42 _ _ _ ⟨hP, hS, lv_sub hl [] rfl, h⟩
    · have h := if_f (mt (i2_eq (x := r43) (y := 0) hr44 (by decide)).mpr c45) h
      refine lv_aload_n hx hb eX6_readFact_6.2.2.2.2.1 rfl (lv_at hl 0 rfl) ?_
      obtain ⟨s47, hc46, h⟩ := bn_e h
      refine ywVv (As := []) (rest := []) (C := RX6) (n := 0) (ws' := CS D a s47) ⟨hx, hb, hml, hown, ht⟩ (k_x6_advance l D a _ _ _ hc46) (zgV ml_X6_75 im_X6_advance se_X6_advance in_X6 co_X6_advance) rfl rfl (by decide +kernel) ⟨by show 1 + 1 ≤ 8 * (d + 1) + 92; omega, by show 8 + (2 + 11) + 60 ≤ 60 * (8 * (d + 1) + 92); omega⟩ hN hK hP (hDD _) hS hA 5 CW_5 rfl rfl rfl hl.1 rfl (Nat.le_of_ble_eq_true rfl) eX6_readFact_6.2.2.2.2.2.1 ⟨Nat.le_of_ble_eq_true rfl, Nat.le_of_ble_eq_true rfl⟩ (fun H locs hP hS => ?_)
      refine lv_aload_n hx hb eX6_readFact_6.2.2.2.2.2.2.1 rfl (lv_at hl 0 rfl) ?_
      obtain ⟨s49, hc48, h⟩ := bn_e h
      refine ywVv (As := []) (rest := []) (C := RX6) (n := 0) (ws' := CS D a s49) ⟨hx, hb, hml, hown, ht⟩ (hF _ _ _ hc48) (zgV ml_X6_194 im_X6_readFact se_X6_readFact in_X6 co_X6_readFact) rfl rfl (by decide +kernel) ⟨by show (8 * d + 92) + 1 ≤ 8 * (d + 1) + 92; omega, by show 8 + (2 + 11) + 60 * (8 * d + 92) ≤ 60 * (8 * (d + 1) + 92); omega⟩ hN hK hP (hDD _) hS hA 5 CW_5 rfl rfl rfl hl.1 rfl (Nat.le_of_ble_eq_true rfl) eX6_readFact_6.2.2.2.2.2.2.2 ⟨Nat.le_of_ble_eq_true rfl, Nat.le_of_ble_eq_true rfl⟩ (fun H locs hP hS => ?_)
      refine lv_aload_n hx hb eX6_readFact_24.1 rfl (lv_at hl 0 rfl) ?_
      obtain ⟨he50, h⟩ := eqg_e h
      refine va_get (D := D) (ci := 6) (v := .ref (a 47)) (C := RX6) (T := TX6) (N := 12) hx hb ht inX6 hown hK hP 5 CW_5 rfl 4 (by decide) (ht (.fieldLink RX6 84 "CloneVolumes$Reader" "code" "LCloneVolumes$Code;") fl_X6_84) (fun _ h9 => h9) (congrArg some (rcv_2 he50)) eX6_readFact_24.2.1 ?_
      refine lv_bipush (v := (-12)) hx hb eX6_readFact_24.2.2.1 (by decide) ?_
      obtain ⟨s52, hc51, h⟩ := bn_e h
      refine ywVv (As := [.int (-12)]) (rest := []) (C := RX0) (n := 1) (ws' := CS D a s52) ⟨hx, hb, hml, hown, ht⟩ (k_x0_add l D a (-12) _ _ _ hc51) (zgV ml_X6_191 im_X0_add se_X0_add in_X0 co_X0_add) rfl rfl (by decide +kernel) ⟨by show 0 + 1 ≤ 8 * (d + 1) + 92; omega, by show 8 + (2 + 11) + 0 ≤ 60 * (8 * (d + 1) + 92); omega⟩ hN hK hP (hDD _) hS hA 47 CW_47 rfl rfl rfl hl.1 rfl (Nat.le_of_ble_eq_true rfl) eX6_readFact_24.2.2.2.1 ⟨Nat.le_of_ble_eq_true rfl, Nat.le_of_ble_eq_true rfl⟩ (fun H locs hP hS => ?_)
      refine lv_aload_n hx hb eX6_readFact_24.2.2.2.2.1 rfl (lv_at hl 0 rfl) ?_
      refine lv_dup hx hb eX6_readFact_24.2.2.2.2.2.1 rfl ?_
      refine va_get (D := D) (ci := 6) (v := .int (i2 (gI s52 106))) (C := RX6) (T := TX6) (N := 12) hx hb ht inX6 hown hK hP 5 CW_5 rfl 6 (by decide) (ht (.fieldLink RX6 85 "CloneVolumes$Reader" "open" "I") fl_X6_85) (fun _ h9 => h9) rfl eX6_readFact_24.2.2.2.2.2.2.1 ?_
      refine lv_iconst (v := 1) hx hb eX6_readFact_24.2.2.2.2.2.2.2 (by decide) ?_
      refine lv_isub hx hb eX6_readFact_39.1 ?_
      refine z_topi (y := i2 ((gI s52 106) - 1)) (i2_sub (gI s52 106) 1) ?_
      refine ya_put (D := D) (ci := 6) (v := .int (i2 ((gI s52 106) - 1))) (ty := .int) (C := RX6) (T := TX6) (N := 12) hx hb ht inX6 tyX6 tyX6_ok nmX6 hown hK hP (hDD _) hS 5 CW_5 rfl 6 (by decide) (ht (.fieldLink RX6 85 "CloneVolumes$Reader" "open" "I") fl_X6_85) (fun _ h9 => h9) rfl (by decide +kernel) rfl rfl (Nat.le_of_ble_eq_true rfl) eX6_readFact_39.2.1 (CW_w5_6 ((gI s52 106) - 1)) (fun H locs hP hS => ?_)
      obtain ⟨s53, hs53, h⟩ := st_e h
      rw [hs53] at hP
      refine lv_goto (tgt := 134) hx hb eX6_readFact_39.2.2.1 (by decide) ?_
      exact J134 s53 _ _ _ ⟨hP, hS, lv_sub hl [] rfl, h⟩
