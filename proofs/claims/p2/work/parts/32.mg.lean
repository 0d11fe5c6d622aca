theorem co_X12_doesSplit : Cond.code yX12_doesSplit cX12_doesSplit 3 (some .boolean) ∈ lw_gd := zm (List.mem_of_getElem? (i := 2201) (by decide +kernel)) rfl
theorem co_X12_half : Cond.code yX12_half cX12_half 9 (some .int) ∈ lw_gd := zm (List.mem_of_getElem? (i := 2213) (by decide +kernel)) rfl
theorem co_X12_inserts : Cond.code yX12_inserts cX12_inserts 6 none ∈ lw_gd := zm (List.mem_of_getElem? (i := 2185) (by decide +kernel)) rfl
theorem co_X12_puts : Cond.code yX12_puts cX12_puts 8 none ∈ lw_gd := zm (List.mem_of_getElem? (i := 2125) (by decide +kernel)) rfl
theorem co_X12_putsIn : Cond.code yX12_putsIn cX12_putsIn 6 none ∈ lw_gd := zm (List.mem_of_getElem? (i := 2217) (by decide +kernel)) rfl
theorem co_X12_removes : Cond.code yX12_removes cX12_removes 8 none ∈ lw_gd := zm (List.mem_of_getElem? (i := 2221) (by decide +kernel)) rfl
theorem co_X12_roomOf : Cond.code yX12_roomOf cX12_roomOf 1 (some .int) ∈ lw_gd := zm (List.mem_of_getElem? (i := 2205) (by decide +kernel)) rfl
theorem co_X12_rootSplit : Cond.code yX12_rootSplit cX12_rootSplit 5 (some .int) ∈ lw_gd := zm (List.mem_of_getElem? (i := 2209) (by decide +kernel)) rfl
theorem co_X12_valueFrom : Cond.code yX12_valueFrom cX12_valueFrom 5 (some .int) ∈ lw_gd := zm (List.mem_of_getElem? (i := 2097) (by decide +kernel)) rfl
theorem co_X12_valueOf : Cond.code yX12_valueOf cX12_valueOf 3 (some .int) ∈ lw_gd := zm (List.mem_of_getElem? (i := 2093) (by decide +kernel)) rfl
theorem fl_X12_137 : Cond.fieldLink RX12 137 "CloneVolumesModel" "tried" "[I" ∈ lw_gd := zm (List.mem_of_getElem? (i := 1597) (by decide +kernel)) rfl
theorem fl_X12_140 : Cond.fieldLink RX12 140 "CloneVolumesModel" "wasTouched" "[Z" ∈ lw_gd := zm (List.mem_of_getElem? (i := 1598) (by decide +kernel)) rfl
theorem im_X12_doesSplit : Cond.instanceMethod yX12_doesSplit ∈ lw_gd := zm (List.mem_of_getElem? (i := 2200) (by decide +kernel)) rfl
theorem im_X12_half : Cond.instanceMethod yX12_half ∈ lw_gd := zm (List.mem_of_getElem? (i := 2212) (by decide +kernel)) rfl
theorem im_X12_inserts : Cond.instanceMethod yX12_inserts ∈ lw_gd := zm (List.mem_of_getElem? (i := 2184) (by decide +kernel)) rfl
theorem im_X12_puts : Cond.instanceMethod yX12_puts ∈ lw_gd := zm (List.mem_of_getElem? (i := 2124) (by decide +kernel)) rfl
theorem im_X12_putsIn : Cond.instanceMethod yX12_putsIn ∈ lw_gd := zm (List.mem_of_getElem? (i := 2216) (by decide +kernel)) rfl
theorem im_X12_removes : Cond.instanceMethod yX12_removes ∈ lw_gd := zm (List.mem_of_getElem? (i := 2220) (by decide +kernel)) rfl
theorem im_X12_roomOf : Cond.instanceMethod yX12_roomOf ∈ lw_gd := zm (List.mem_of_getElem? (i := 2204) (by decide +kernel)) rfl
theorem im_X12_rootSplit : Cond.instanceMethod yX12_rootSplit ∈ lw_gd := zm (List.mem_of_getElem? (i := 2208) (by decide +kernel)) rfl
theorem im_X12_valueFrom : Cond.instanceMethod yX12_valueFrom ∈ lw_gd := zm (List.mem_of_getElem? (i := 2096) (by decide +kernel)) rfl
theorem im_X12_valueOf : Cond.instanceMethod yX12_valueOf ∈ lw_gd := zm (List.mem_of_getElem? (i := 2092) (by decide +kernel)) rfl
theorem ml_X12_523 : Cond.methodLink RX12 523 yX12_roomOf ∈ lw_gd := zm (List.mem_of_getElem? (i := 2202) (by decide +kernel)) rfl
theorem ml_X12_526 : Cond.methodLink RX12 526 yX12_inserts ∈ lw_gd := zm (List.mem_of_getElem? (i := 2182) (by decide +kernel)) rfl
theorem ml_X12_529 : Cond.methodLink RX12 529 yX12_half ∈ lw_gd := zm (List.mem_of_getElem? (i := 2210) (by decide +kernel)) rfl
theorem ml_X12_536 : Cond.methodLink RX12 536 yX12_doesSplit ∈ lw_gd := zm (List.mem_of_getElem? (i := 2198) (by decide +kernel)) rfl
theorem ml_X12_539 : Cond.methodLink RX12 539 yX12_rootSplit ∈ lw_gd := zm (List.mem_of_getElem? (i := 2206) (by decide +kernel)) rfl
theorem ml_X12_546 : Cond.methodLink RX12 546 yX12_putsIn ∈ lw_gd := zm (List.mem_of_getElem? (i := 2214) (by decide +kernel)) rfl
theorem ml_X12_559 : Cond.methodLink RX12 559 yX12_valueOf ∈ lw_gd := zm (List.mem_of_getElem? (i := 2090) (by decide +kernel)) rfl
theorem ml_X12_562 : Cond.methodLink RX12 562 yX12_puts ∈ lw_gd := zm (List.mem_of_getElem? (i := 2122) (by decide +kernel)) rfl
theorem ml_X12_565 : Cond.methodLink RX12 565 yX12_removes ∈ lw_gd := zm (List.mem_of_getElem? (i := 2218) (by decide +kernel)) rfl
theorem ml_X12_621 : Cond.methodLink RX12 621 yX12_valueFrom ∈ lw_gd := zm (List.mem_of_getElem? (i := 2094) (by decide +kernel)) rfl
theorem se_X12_doesSplit : Cond.selects RX12 yX12_doesSplit yX12_doesSplit ∈ lw_gd := zm (List.mem_of_getElem? (i := 138) (by decide +kernel)) rfl
theorem se_X12_half : Cond.selects RX12 yX12_half yX12_half ∈ lw_gd := zm (List.mem_of_getElem? (i := 141) (by decide +kernel)) rfl
theorem se_X12_inserts : Cond.selects RX12 yX12_inserts yX12_inserts ∈ lw_gd := zm (List.mem_of_getElem? (i := 134) (by decide +kernel)) rfl
theorem se_X12_puts : Cond.selects RX12 yX12_puts yX12_puts ∈ lw_gd := zm (List.mem_of_getElem? (i := 121) (by decide +kernel)) rfl
theorem se_X12_putsIn : Cond.selects RX12 yX12_putsIn yX12_putsIn ∈ lw_gd := zm (List.mem_of_getElem? (i := 142) (by decide +kernel)) rfl
theorem se_X12_removes : Cond.selects RX12 yX12_removes yX12_removes ∈ lw_gd := zm (List.mem_of_getElem? (i := 143) (by decide +kernel)) rfl
theorem se_X12_roomOf : Cond.selects RX12 yX12_roomOf yX12_roomOf ∈ lw_gd := zm (List.mem_of_getElem? (i := 139) (by decide +kernel)) rfl
theorem se_X12_rootSplit : Cond.selects RX12 yX12_rootSplit yX12_rootSplit ∈ lw_gd := zm (List.mem_of_getElem? (i := 140) (by decide +kernel)) rfl
theorem se_X12_valueFrom : Cond.selects RX12 yX12_valueFrom yX12_valueFrom ∈ lw_gd := zm (List.mem_of_getElem? (i := 114) (by decide +kernel)) rfl
theorem se_X12_valueOf : Cond.selects RX12 yX12_valueOf yX12_valueOf ∈ lw_gd := zm (List.mem_of_getElem? (i := 113) (by decide +kernel)) rfl
theorem dX12_doesSplit_0 : decode cX12_doesSplit 0 = .ok (.aload_n 0, 1) := by decide +kernel
theorem dX12_doesSplit_1 : decode cX12_doesSplit 1 = .ok (.iload_n 1, 1) := by decide +kernel
theorem dX12_doesSplit_2 : decode cX12_doesSplit 2 = .ok (.invokevirtual 466, 3) := by decide +kernel
theorem dX12_doesSplit_5 : decode cX12_doesSplit 5 = .ok (.istore_n 2, 1) := by decide +kernel
theorem dX12_doesSplit_6 : decode cX12_doesSplit 6 = .ok (.iload_n 2, 1) := by decide +kernel
theorem dX12_doesSplit_7 : decode cX12_doesSplit 7 = .ok (.aload_n 0, 1) := by decide +kernel
theorem dX12_doesSplit_8 : decode cX12_doesSplit 8 = .ok (.invokevirtual 523, 3) := by decide +kernel
theorem dX12_doesSplit_11 : decode cX12_doesSplit 11 = .ok (.if_icmp .lt 5, 3) := by decide +kernel
theorem dX12_doesSplit_14 : decode cX12_doesSplit 14 = .ok (.iconst 1, 1) := by decide +kernel
theorem dX12_doesSplit_15 : decode cX12_doesSplit 15 = .ok (.ireturn, 1) := by decide +kernel
theorem dX12_doesSplit_16 : decode cX12_doesSplit 16 = .ok (.iload_n 2, 1) := by decide +kernel
theorem dX12_doesSplit_17 : decode cX12_doesSplit 17 = .ok (.iconst 2, 1) := by decide +kernel
theorem dX12_doesSplit_18 : decode cX12_doesSplit 18 = .ok (.if_icmp .lt 11, 3) := by decide +kernel
theorem dX12_doesSplit_21 : decode cX12_doesSplit 21 = .ok (.aload_n 0, 1) := by decide +kernel
theorem dX12_doesSplit_22 : decode cX12_doesSplit 22 = .ok (.iconst 1, 1) := by decide +kernel
theorem dX12_doesSplit_23 : decode cX12_doesSplit 23 = .ok (.invokevirtual 472, 3) := by decide +kernel
theorem dX12_doesSplit_26 : decode cX12_doesSplit 26 = .ok (.ifCond .ne 5, 3) := by decide +kernel
theorem dX12_doesSplit_29 : decode cX12_doesSplit 29 = .ok (.iconst 0, 1) := by decide +kernel
theorem dX12_doesSplit_30 : decode cX12_doesSplit 30 = .ok (.ireturn, 1) := by decide +kernel
theorem dX12_doesSplit_31 : decode cX12_doesSplit 31 = .ok (.aload_n 0, 1) := by decide +kernel
theorem dX12_doesSplit_32 : decode cX12_doesSplit 32 = .ok (.aload_n 0, 1) := by decide +kernel
theorem dX12_doesSplit_33 : decode cX12_doesSplit 33 = .ok (.iload_n 1, 1) := by decide +kernel
theorem dX12_doesSplit_34 : decode cX12_doesSplit 34 = .ok (.invokevirtual 460, 3) := by decide +kernel
theorem dX12_doesSplit_37 : decode cX12_doesSplit 37 = .ok (.putfield 463, 3) := by decide +kernel
theorem dX12_doesSplit_40 : decode cX12_doesSplit 40 = .ok (.aload_n 0, 1) := by decide +kernel
theorem dX12_doesSplit_41 : decode cX12_doesSplit 41 = .ok (.iload_n 2, 1) := by decide +kernel
theorem dX12_doesSplit_42 : decode cX12_doesSplit 42 = .ok (.putfield 469, 3) := by decide +kernel
theorem dX12_doesSplit_45 : decode cX12_doesSplit 45 = .ok (.aload_n 0, 1) := by decide +kernel
theorem dX12_doesSplit_46 : decode cX12_doesSplit 46 = .ok (.iconst 1, 1) := by decide +kernel
theorem dX12_doesSplit_47 : decode cX12_doesSplit 47 = .ok (.invokevirtual 475, 3) := by decide +kernel
theorem dX12_doesSplit_50 : decode cX12_doesSplit 50 = .ok (.lconst 1, 1) := by decide +kernel
theorem dX12_doesSplit_51 : decode cX12_doesSplit 51 = .ok (.lcmp, 1) := by decide +kernel
theorem dX12_doesSplit_52 : decode cX12_doesSplit 52 = .ok (.ifCond .ne 7, 3) := by decide +kernel
theorem dX12_doesSplit_55 : decode cX12_doesSplit 55 = .ok (.iconst 1, 1) := by decide +kernel
theorem dX12_doesSplit_56 : decode cX12_doesSplit 56 = .ok (.goto 4, 3) := by decide +kernel
theorem dX12_doesSplit_59 : decode cX12_doesSplit 59 = .ok (.iconst 0, 1) := by decide +kernel
theorem dX12_doesSplit_60 : decode cX12_doesSplit 60 = .ok (.ireturn, 1) := by decide +kernel
theorem dX12_half_0 : decode cX12_half 0 = .ok (.aload_n 0, 1) := by decide +kernel
theorem dX12_half_1 : decode cX12_half 1 = .ok (.aload_n 0, 1) := by decide +kernel
theorem dX12_half_2 : decode cX12_half 2 = .ok (.iload_n 3, 1) := by decide +kernel
theorem dX12_half_3 : decode cX12_half 3 = .ok (.invokevirtual 460, 3) := by decide +kernel
theorem dX12_half_6 : decode cX12_half 6 = .ok (.iload_n 3, 1) := by decide +kernel
theorem dX12_half_7 : decode cX12_half 7 = .ok (.invokevirtual 511, 3) := by decide +kernel
theorem dX12_half_10 : decode cX12_half 10 = .ok (.istore 5, 2) := by decide +kernel
theorem dX12_half_12 : decode cX12_half 12 = .ok (.aload_n 0, 1) := by decide +kernel
theorem dX12_half_13 : decode cX12_half 13 = .ok (.getfield 493, 3) := by decide +kernel
theorem dX12_half_16 : decode cX12_half 16 = .ok (.ifCond .eq 5, 3) := by decide +kernel
theorem dX12_half_19 : decode cX12_half 19 = .ok (.iload_n 3, 1) := by decide +kernel
theorem dX12_half_20 : decode cX12_half 20 = .ok (.ireturn, 1) := by decide +kernel
theorem dX12_half_21 : decode cX12_half 21 = .ok (.aload_n 0, 1) := by decide +kernel
theorem dX12_half_22 : decode cX12_half 22 = .ok (.iload_n 3, 1) := by decide +kernel
theorem dX12_half_23 : decode cX12_half 23 = .ok (.invokevirtual 466, 3) := by decide +kernel
theorem dX12_half_26 : decode cX12_half 26 = .ok (.iconst 2, 1) := by decide +kernel
theorem dX12_half_27 : decode cX12_half 27 = .ok (.idiv, 1) := by decide +kernel
theorem dX12_half_28 : decode cX12_half 28 = .ok (.istore 6, 2) := by decide +kernel
theorem dX12_half_30 : decode cX12_half 30 = .ok (.aload_n 0, 1) := by decide +kernel
theorem dX12_half_31 : decode cX12_half 31 = .ok (.iload_n 3, 1) := by decide +kernel
theorem dX12_half_32 : decode cX12_half 32 = .ok (.invokevirtual 466, 3) := by decide +kernel
theorem dX12_half_35 : decode cX12_half 35 = .ok (.iload 6, 2) := by decide +kernel
theorem dX12_half_37 : decode cX12_half 37 = .ok (.isub, 1) := by decide +kernel
theorem dX12_half_38 : decode cX12_half 38 = .ok (.istore 7, 2) := by decide +kernel
theorem dX12_half_40 : decode cX12_half 40 = .ok (.iconst 0, 1) := by decide +kernel
theorem dX12_half_41 : decode cX12_half 41 = .ok (.istore 8, 2) := by decide +kernel
theorem dX12_half_43 : decode cX12_half 43 = .ok (.iload 8, 2) := by decide +kernel
theorem dX12_half_45 : decode cX12_half 45 = .ok (.iload 6, 2) := by decide +kernel
theorem dX12_half_47 : decode cX12_half 47 = .ok (.if_icmp .ge 37, 3) := by decide +kernel
theorem dX12_half_50 : decode cX12_half 50 = .ok (.aload_n 0, 1) := by decide +kernel
theorem dX12_half_51 : decode cX12_half 51 = .ok (.iload 5, 2) := by decide +kernel
theorem dX12_half_53 : decode cX12_half 53 = .ok (.iload 8, 2) := by decide +kernel
theorem dX12_half_55 : decode cX12_half 55 = .ok (.aload_n 0, 1) := by decide +kernel
theorem dX12_half_56 : decode cX12_half 56 = .ok (.iload_n 3, 1) := by decide +kernel
theorem dX12_half_57 : decode cX12_half 57 = .ok (.iload 7, 2) := by decide +kernel
theorem dX12_half_59 : decode cX12_half 59 = .ok (.iload 8, 2) := by decide +kernel
theorem dX12_half_61 : decode cX12_half 61 = .ok (.iadd, 1) := by decide +kernel
theorem dX12_half_62 : decode cX12_half 62 = .ok (.invokevirtual 517, 3) := by decide +kernel
theorem dX12_half_65 : decode cX12_half 65 = .ok (.aload_n 0, 1) := by decide +kernel
theorem dX12_half_66 : decode cX12_half 66 = .ok (.iload_n 3, 1) := by decide +kernel
theorem dX12_half_67 : decode cX12_half 67 = .ok (.iload 7, 2) := by decide +kernel
theorem dX12_half_69 : decode cX12_half 69 = .ok (.iload 8, 2) := by decide +kernel
theorem dX12_half_71 : decode cX12_half 71 = .ok (.iadd, 1) := by decide +kernel
theorem dX12_half_72 : decode cX12_half 72 = .ok (.invokevirtual 505, 3) := by decide +kernel
theorem dX12_half_75 : decode cX12_half 75 = .ok (.invokevirtual 526, 3) := by decide +kernel
theorem dX12_half_78 : decode cX12_half 78 = .ok (.iinc 8 1, 3) := by decide +kernel
theorem dX12_half_81 : decode cX12_half 81 = .ok (.goto (-38), 3) := by decide +kernel
theorem dX12_half_84 : decode cX12_half 84 = .ok (.aload_n 0, 1) := by decide +kernel
theorem dX12_half_85 : decode cX12_half 85 = .ok (.getfield 121, 3) := by decide +kernel
theorem dX12_half_88 : decode cX12_half 88 = .ok (.bipush 17, 2) := by decide +kernel
theorem dX12_half_90 : decode cX12_half 90 = .ok (.bipush 16, 2) := by decide +kernel
theorem dX12_half_92 : decode cX12_half 92 = .ok (.iload_n 3, 1) := by decide +kernel
theorem dX12_half_93 : decode cX12_half 93 = .ok (.imul, 1) := by decide +kernel
theorem dX12_half_94 : decode cX12_half 94 = .ok (.iadd, 1) := by decide +kernel
theorem dX12_half_95 : decode cX12_half 95 = .ok (.iconst 3, 1) := by decide +kernel
theorem dX12_half_96 : decode cX12_half 96 = .ok (.iadd, 1) := by decide +kernel
theorem dX12_half_97 : decode cX12_half 97 = .ok (.iload 7, 2) := by decide +kernel
theorem dX12_half_99 : decode cX12_half 99 = .ok (.iastore, 1) := by decide +kernel
theorem dX12_half_100 : decode cX12_half 100 = .ok (.aload_n 0, 1) := by decide +kernel
theorem dX12_half_101 : decode cX12_half 101 = .ok (.getfield 124, 3) := by decide +kernel
theorem dX12_half_104 : decode cX12_half 104 = .ok (.iload_n 3, 1) := by decide +kernel
theorem dX12_half_105 : decode cX12_half 105 = .ok (.iconst 1, 1) := by decide +kernel
theorem dX12_half_106 : decode cX12_half 106 = .ok (.bastore, 1) := by decide +kernel
theorem dX12_half_107 : decode cX12_half 107 = .ok (.aload_n 0, 1) := by decide +kernel
theorem dX12_half_108 : decode cX12_half 108 = .ok (.iload_n 1, 1) := by decide +kernel
theorem dX12_half_109 : decode cX12_half 109 = .ok (.iload_n 2, 1) := by decide +kernel
theorem dX12_half_110 : decode cX12_half 110 = .ok (.iconst 1, 1) := by decide +kernel
theorem dX12_half_111 : decode cX12_half 111 = .ok (.iadd, 1) := by decide +kernel
theorem dX12_half_112 : decode cX12_half 112 = .ok (.aload_n 0, 1) := by decide +kernel
theorem dX12_half_113 : decode cX12_half 113 = .ok (.iload 5, 2) := by decide +kernel
theorem dX12_half_115 : decode cX12_half 115 = .ok (.iconst 0, 1) := by decide +kernel
theorem dX12_half_116 : decode cX12_half 116 = .ok (.invokevirtual 517, 3) := by decide +kernel
theorem dX12_half_119 : decode cX12_half 119 = .ok (.iload 5, 2) := by decide +kernel
theorem dX12_half_121 : decode cX12_half 121 = .ok (.invokevirtual 526, 3) := by decide +kernel
theorem dX12_half_124 : decode cX12_half 124 = .ok (.aload_n 0, 1) := by decide +kernel
theorem dX12_half_125 : decode cX12_half 125 = .ok (.iload 5, 2) := by decide +kernel
theorem dX12_half_127 : decode cX12_half 127 = .ok (.iconst 0, 1) := by decide +kernel
theorem dX12_half_128 : decode cX12_half 128 = .ok (.invokevirtual 517, 3) := by decide +kernel
theorem dX12_half_131 : decode cX12_half 131 = .ok (.iload 4, 2) := by decide +kernel
theorem dX12_half_133 : decode cX12_half 133 = .ok (.if_icmp .gt 8, 3) := by decide +kernel
theorem dX12_half_136 : decode cX12_half 136 = .ok (.iload 5, 2) := by decide +kernel
theorem dX12_half_138 : decode cX12_half 138 = .ok (.goto 4, 3) := by decide +kernel
theorem dX12_half_141 : decode cX12_half 141 = .ok (.iload_n 3, 1) := by decide +kernel
theorem dX12_half_142 : decode cX12_half 142 = .ok (.ireturn, 1) := by decide +kernel
theorem dX12_puts_0 : decode cX12_puts 0 = .ok (.aload_n 0, 1) := by decide +kernel
theorem dX12_puts_1 : decode cX12_puts 1 = .ok (.getfield 121, 3) := by decide +kernel
theorem dX12_puts_4 : decode cX12_puts 4 = .ok (.iload_n 1, 1) := by decide +kernel
theorem dX12_puts_5 : decode cX12_puts 5 = .ok (.iaload, 1) := by decide +kernel
theorem dX12_puts_6 : decode cX12_puts 6 = .ok (.sipush 254, 3) := by decide +kernel
theorem dX12_puts_9 : decode cX12_puts 9 = .ok (.if_icmp .ne 38, 3) := by decide +kernel
theorem dX12_puts_12 : decode cX12_puts 12 = .ok (.aload_n 0, 1) := by decide +kernel
theorem dX12_puts_13 : decode cX12_puts 13 = .ok (.iconst 0, 1) := by decide +kernel
theorem dX12_puts_14 : decode cX12_puts 14 = .ok (.bipush 48, 2) := by decide +kernel
theorem dX12_puts_16 : decode cX12_puts 16 = .ok (.invokevirtual 511, 3) := by decide +kernel
theorem dX12_puts_19 : decode cX12_puts 19 = .ok (.istore 4, 2) := by decide +kernel
theorem dX12_puts_21 : decode cX12_puts 21 = .ok (.aload_n 0, 1) := by decide +kernel
theorem dX12_puts_22 : decode cX12_puts 22 = .ok (.getfield 493, 3) := by decide +kernel
theorem dX12_puts_25 : decode cX12_puts 25 = .ok (.ifCond .eq 4, 3) := by decide +kernel
theorem dX12_puts_28 : decode cX12_puts 28 = .ok (.return_, 1) := by decide +kernel
theorem dX12_puts_29 : decode cX12_puts 29 = .ok (.aload_n 0, 1) := by decide +kernel
theorem dX12_puts_30 : decode cX12_puts 30 = .ok (.iload 4, 2) := by decide +kernel
theorem dX12_puts_32 : decode cX12_puts 32 = .ok (.iconst 0, 1) := by decide +kernel
theorem dX12_puts_33 : decode cX12_puts 33 = .ok (.iload_n 2, 1) := by decide +kernel
theorem dX12_puts_34 : decode cX12_puts 34 = .ok (.iload_n 3, 1) := by decide +kernel
theorem dX12_puts_35 : decode cX12_puts 35 = .ok (.invokevirtual 526, 3) := by decide +kernel
theorem dX12_puts_38 : decode cX12_puts 38 = .ok (.aload_n 0, 1) := by decide +kernel
theorem dX12_puts_39 : decode cX12_puts 39 = .ok (.getfield 121, 3) := by decide +kernel
theorem dX12_puts_42 : decode cX12_puts 42 = .ok (.iload_n 1, 1) := by decide +kernel
theorem dX12_puts_43 : decode cX12_puts 43 = .ok (.iload 4, 2) := by decide +kernel
theorem dX12_puts_45 : decode cX12_puts 45 = .ok (.iastore, 1) := by decide +kernel
theorem dX12_puts_46 : decode cX12_puts 46 = .ok (.return_, 1) := by decide +kernel
theorem dX12_puts_47 : decode cX12_puts 47 = .ok (.aload_n 0, 1) := by decide +kernel
theorem dX12_puts_48 : decode cX12_puts 48 = .ok (.aload_n 0, 1) := by decide +kernel
theorem dX12_puts_49 : decode cX12_puts 49 = .ok (.getfield 121, 3) := by decide +kernel
theorem dX12_puts_52 : decode cX12_puts 52 = .ok (.iload_n 1, 1) := by decide +kernel
theorem dX12_puts_53 : decode cX12_puts 53 = .ok (.iaload, 1) := by decide +kernel
theorem dX12_puts_54 : decode cX12_puts 54 = .ok (.invokevirtual 533, 3) := by decide +kernel
theorem dX12_puts_57 : decode cX12_puts 57 = .ok (.istore 4, 2) := by decide +kernel
theorem dX12_puts_59 : decode cX12_puts 59 = .ok (.aload_n 0, 1) := by decide +kernel
theorem dX12_puts_60 : decode cX12_puts 60 = .ok (.getfield 493, 3) := by decide +kernel
theorem dX12_puts_63 : decode cX12_puts 63 = .ok (.ifCond .eq 4, 3) := by decide +kernel
theorem dX12_puts_66 : decode cX12_puts 66 = .ok (.return_, 1) := by decide +kernel
theorem dX12_puts_67 : decode cX12_puts 67 = .ok (.aload_n 0, 1) := by decide +kernel
theorem dX12_puts_68 : decode cX12_puts 68 = .ok (.getfield 121, 3) := by decide +kernel
theorem dX12_puts_71 : decode cX12_puts 71 = .ok (.iload_n 1, 1) := by decide +kernel
theorem dX12_puts_72 : decode cX12_puts 72 = .ok (.iload 4, 2) := by decide +kernel
theorem dX12_puts_74 : decode cX12_puts 74 = .ok (.iastore, 1) := by decide +kernel
theorem dX12_puts_75 : decode cX12_puts 75 = .ok (.aload_n 0, 1) := by decide +kernel
theorem dX12_puts_76 : decode cX12_puts 76 = .ok (.iload 4, 2) := by decide +kernel
theorem dX12_puts_78 : decode cX12_puts 78 = .ok (.invokevirtual 536, 3) := by decide +kernel
theorem dX12_puts_81 : decode cX12_puts 81 = .ok (.ifCond .eq 13, 3) := by decide +kernel
theorem dX12_puts_84 : decode cX12_puts 84 = .ok (.aload_n 0, 1) := by decide +kernel
theorem dX12_puts_85 : decode cX12_puts 85 = .ok (.iload_n 1, 1) := by decide +kernel
theorem dX12_puts_86 : decode cX12_puts 86 = .ok (.iload 4, 2) := by decide +kernel
theorem dX12_puts_88 : decode cX12_puts 88 = .ok (.iload_n 2, 1) := by decide +kernel
theorem dX12_puts_89 : decode cX12_puts 89 = .ok (.invokevirtual 539, 3) := by decide +kernel
theorem dX12_puts_92 : decode cX12_puts 92 = .ok (.istore 4, 2) := by decide +kernel
theorem dX12_puts_94 : decode cX12_puts 94 = .ok (.aload_n 0, 1) := by decide +kernel
theorem dX12_puts_95 : decode cX12_puts 95 = .ok (.getfield 493, 3) := by decide +kernel
theorem dX12_puts_98 : decode cX12_puts 98 = .ok (.ifCond .ne 100, 3) := by decide +kernel
theorem dX12_puts_101 : decode cX12_puts 101 = .ok (.aload_n 0, 1) := by decide +kernel
theorem dX12_puts_102 : decode cX12_puts 102 = .ok (.iload 4, 2) := by decide +kernel
theorem dX12_puts_104 : decode cX12_puts 104 = .ok (.invokevirtual 460, 3) := by decide +kernel
theorem dX12_puts_107 : decode cX12_puts 107 = .ok (.ifCond .le 91, 3) := by decide +kernel
theorem dX12_puts_110 : decode cX12_puts 110 = .ok (.aload_n 0, 1) := by decide +kernel
theorem dX12_puts_111 : decode cX12_puts 111 = .ok (.iload 4, 2) := by decide +kernel
theorem dX12_puts_113 : decode cX12_puts 113 = .ok (.iload_n 2, 1) := by decide +kernel
theorem dX12_puts_114 : decode cX12_puts 114 = .ok (.invokevirtual 543, 3) := by decide +kernel
theorem dX12_puts_117 : decode cX12_puts 117 = .ok (.istore 5, 2) := by decide +kernel
theorem dX12_puts_119 : decode cX12_puts 119 = .ok (.aload_n 0, 1) := by decide +kernel
theorem dX12_puts_120 : decode cX12_puts 120 = .ok (.iload 4, 2) := by decide +kernel
theorem dX12_puts_122 : decode cX12_puts 122 = .ok (.iload 5, 2) := by decide +kernel
theorem dX12_puts_124 : decode cX12_puts 124 = .ok (.invokevirtual 505, 3) := by decide +kernel
theorem dX12_puts_127 : decode cX12_puts 127 = .ok (.istore 6, 2) := by decide +kernel
theorem dX12_puts_129 : decode cX12_puts 129 = .ok (.aload_n 0, 1) := by decide +kernel
theorem dX12_puts_130 : decode cX12_puts 130 = .ok (.iload 6, 2) := by decide +kernel
theorem dX12_puts_132 : decode cX12_puts 132 = .ok (.invokevirtual 533, 3) := by decide +kernel
theorem dX12_puts_135 : decode cX12_puts 135 = .ok (.istore 7, 2) := by decide +kernel
theorem dX12_puts_137 : decode cX12_puts 137 = .ok (.iload 7, 2) := by decide +kernel
theorem dX12_puts_139 : decode cX12_puts 139 = .ok (.iload 6, 2) := by decide +kernel
theorem dX12_puts_141 : decode cX12_puts 141 = .ok (.if_icmp .eq 21, 3) := by decide +kernel
theorem dX12_puts_144 : decode cX12_puts 144 = .ok (.aload_n 0, 1) := by decide +kernel
theorem dX12_puts_145 : decode cX12_puts 145 = .ok (.iload 4, 2) := by decide +kernel
theorem dX12_puts_147 : decode cX12_puts 147 = .ok (.iload 5, 2) := by decide +kernel
theorem dX12_puts_149 : decode cX12_puts 149 = .ok (.aload_n 0, 1) := by decide +kernel
theorem dX12_puts_150 : decode cX12_puts 150 = .ok (.iload 4, 2) := by decide +kernel
theorem dX12_puts_152 : decode cX12_puts 152 = .ok (.iload 5, 2) := by decide +kernel
theorem dX12_puts_154 : decode cX12_puts 154 = .ok (.invokevirtual 517, 3) := by decide +kernel
theorem dX12_puts_157 : decode cX12_puts 157 = .ok (.iload 7, 2) := by decide +kernel
theorem dX12_puts_159 : decode cX12_puts 159 = .ok (.invokevirtual 520, 3) := by decide +kernel
theorem dX12_puts_162 : decode cX12_puts 162 = .ok (.aload_n 0, 1) := by decide +kernel
theorem dX12_puts_163 : decode cX12_puts 163 = .ok (.getfield 493, 3) := by decide +kernel
theorem dX12_puts_166 : decode cX12_puts 166 = .ok (.ifCond .ne 25, 3) := by decide +kernel
theorem dX12_puts_169 : decode cX12_puts 169 = .ok (.aload_n 0, 1) := by decide +kernel
theorem dX12_puts_170 : decode cX12_puts 170 = .ok (.iload 7, 2) := by decide +kernel
theorem dX12_puts_172 : decode cX12_puts 172 = .ok (.invokevirtual 536, 3) := by decide +kernel
theorem dX12_puts_175 : decode cX12_puts 175 = .ok (.ifCond .eq 16, 3) := by decide +kernel
theorem dX12_puts_178 : decode cX12_puts 178 = .ok (.aload_n 0, 1) := by decide +kernel
theorem dX12_puts_179 : decode cX12_puts 179 = .ok (.iload 4, 2) := by decide +kernel
theorem dX12_puts_181 : decode cX12_puts 181 = .ok (.iload 5, 2) := by decide +kernel
theorem dX12_puts_183 : decode cX12_puts 183 = .ok (.iload 7, 2) := by decide +kernel
theorem dX12_puts_185 : decode cX12_puts 185 = .ok (.iload_n 2, 1) := by decide +kernel
theorem dX12_puts_186 : decode cX12_puts 186 = .ok (.invokevirtual 529, 3) := by decide +kernel
theorem dX12_puts_189 : decode cX12_puts 189 = .ok (.istore 7, 2) := by decide +kernel
theorem dX12_puts_191 : decode cX12_puts 191 = .ok (.iload 7, 2) := by decide +kernel
theorem dX12_puts_193 : decode cX12_puts 193 = .ok (.istore 4, 2) := by decide +kernel
theorem dX12_puts_195 : decode cX12_puts 195 = .ok (.goto (-101), 3) := by decide +kernel
theorem dX12_puts_198 : decode cX12_puts 198 = .ok (.aload_n 0, 1) := by decide +kernel
theorem dX12_puts_199 : decode cX12_puts 199 = .ok (.getfield 493, 3) := by decide +kernel
theorem dX12_puts_202 : decode cX12_puts 202 = .ok (.ifCond .ne 11, 3) := by decide +kernel
theorem dX12_puts_205 : decode cX12_puts 205 = .ok (.aload_n 0, 1) := by decide +kernel
theorem dX12_puts_206 : decode cX12_puts 206 = .ok (.iload 4, 2) := by decide +kernel
theorem dX12_puts_208 : decode cX12_puts 208 = .ok (.iload_n 2, 1) := by decide +kernel
theorem dX12_puts_209 : decode cX12_puts 209 = .ok (.iload_n 3, 1) := by decide +kernel
theorem dX12_puts_210 : decode cX12_puts 210 = .ok (.invokevirtual 546, 3) := by decide +kernel
theorem dX12_puts_213 : decode cX12_puts 213 = .ok (.return_, 1) := by decide +kernel
theorem dX12_putsIn_0 : decode cX12_putsIn 0 = .ok (.aload_n 0, 1) := by decide +kernel
theorem dX12_putsIn_1 : decode cX12_putsIn 1 = .ok (.iload_n 1, 1) := by decide +kernel
theorem dX12_putsIn_2 : decode cX12_putsIn 2 = .ok (.iload_n 2, 1) := by decide +kernel
theorem dX12_putsIn_3 : decode cX12_putsIn 3 = .ok (.invokevirtual 550, 3) := by decide +kernel
theorem dX12_putsIn_6 : decode cX12_putsIn 6 = .ok (.istore 4, 2) := by decide +kernel
theorem dX12_putsIn_8 : decode cX12_putsIn 8 = .ok (.iload 4, 2) := by decide +kernel
theorem dX12_putsIn_10 : decode cX12_putsIn 10 = .ok (.aload_n 0, 1) := by decide +kernel
theorem dX12_putsIn_11 : decode cX12_putsIn 11 = .ok (.iload_n 1, 1) := by decide +kernel
theorem dX12_putsIn_12 : decode cX12_putsIn 12 = .ok (.invokevirtual 466, 3) := by decide +kernel
theorem dX12_putsIn_15 : decode cX12_putsIn 15 = .ok (.if_icmp .ge 18, 3) := by decide +kernel
theorem dX12_putsIn_18 : decode cX12_putsIn 18 = .ok (.aload_n 0, 1) := by decide +kernel
theorem dX12_putsIn_19 : decode cX12_putsIn 19 = .ok (.iload_n 1, 1) := by decide +kernel
theorem dX12_putsIn_20 : decode cX12_putsIn 20 = .ok (.iload 4, 2) := by decide +kernel
theorem dX12_putsIn_22 : decode cX12_putsIn 22 = .ok (.invokevirtual 517, 3) := by decide +kernel
theorem dX12_putsIn_25 : decode cX12_putsIn 25 = .ok (.iload_n 2, 1) := by decide +kernel
theorem dX12_putsIn_26 : decode cX12_putsIn 26 = .ok (.if_icmp .ne 7, 3) := by decide +kernel
theorem dX12_putsIn_29 : decode cX12_putsIn 29 = .ok (.iconst 1, 1) := by decide +kernel
theorem dX12_putsIn_30 : decode cX12_putsIn 30 = .ok (.goto 4, 3) := by decide +kernel
theorem dX12_putsIn_33 : decode cX12_putsIn 33 = .ok (.iconst 0, 1) := by decide +kernel
theorem dX12_putsIn_34 : decode cX12_putsIn 34 = .ok (.istore 5, 2) := by decide +kernel
theorem dX12_putsIn_36 : decode cX12_putsIn 36 = .ok (.iload 5, 2) := by decide +kernel
theorem dX12_putsIn_38 : decode cX12_putsIn 38 = .ok (.ifCond .ne 15, 3) := by decide +kernel
theorem dX12_putsIn_41 : decode cX12_putsIn 41 = .ok (.aload_n 0, 1) := by decide +kernel
theorem dX12_putsIn_42 : decode cX12_putsIn 42 = .ok (.iload_n 1, 1) := by decide +kernel
theorem dX12_putsIn_43 : decode cX12_putsIn 43 = .ok (.iload 4, 2) := by decide +kernel
theorem dX12_putsIn_45 : decode cX12_putsIn 45 = .ok (.iload_n 2, 1) := by decide +kernel
theorem dX12_putsIn_46 : decode cX12_putsIn 46 = .ok (.iload_n 3, 1) := by decide +kernel
theorem dX12_putsIn_47 : decode cX12_putsIn 47 = .ok (.invokevirtual 526, 3) := by decide +kernel
theorem dX12_putsIn_50 : decode cX12_putsIn 50 = .ok (.goto 23, 3) := by decide +kernel
theorem dX12_putsIn_53 : decode cX12_putsIn 53 = .ok (.aload_n 0, 1) := by decide +kernel
theorem dX12_putsIn_54 : decode cX12_putsIn 54 = .ok (.iload_n 1, 1) := by decide +kernel
theorem dX12_putsIn_55 : decode cX12_putsIn 55 = .ok (.iload 4, 2) := by decide +kernel
theorem dX12_putsIn_57 : decode cX12_putsIn 57 = .ok (.invokevirtual 505, 3) := by decide +kernel
theorem dX12_putsIn_60 : decode cX12_putsIn 60 = .ok (.iload_n 3, 1) := by decide +kernel
theorem dX12_putsIn_61 : decode cX12_putsIn 61 = .ok (.if_icmp .eq 12, 3) := by decide +kernel
theorem dX12_putsIn_64 : decode cX12_putsIn 64 = .ok (.aload_n 0, 1) := by decide +kernel
theorem dX12_putsIn_65 : decode cX12_putsIn 65 = .ok (.iload_n 1, 1) := by decide +kernel
theorem dX12_putsIn_66 : decode cX12_putsIn 66 = .ok (.iload 4, 2) := by decide +kernel
theorem dX12_putsIn_68 : decode cX12_putsIn 68 = .ok (.iload_n 2, 1) := by decide +kernel
theorem dX12_putsIn_69 : decode cX12_putsIn 69 = .ok (.iload_n 3, 1) := by decide +kernel
theorem dX12_putsIn_70 : decode cX12_putsIn 70 = .ok (.invokevirtual 520, 3) := by decide +kernel
theorem dX12_putsIn_73 : decode cX12_putsIn 73 = .ok (.return_, 1) := by decide +kernel
theorem dX12_roomOf_0 : decode cX12_roomOf 0 = .ok (.aload_n 0, 1) := by decide +kernel
theorem dX12_roomOf_1 : decode cX12_roomOf 1 = .ok (.getfield 102, 3) := by decide +kernel
theorem dX12_roomOf_4 : decode cX12_roomOf 4 = .ok (.bipush 6, 2) := by decide +kernel
theorem dX12_roomOf_6 : decode cX12_roomOf 6 = .ok (.iaload, 1) := by decide +kernel
theorem dX12_roomOf_7 : decode cX12_roomOf 7 = .ok (.ireturn, 1) := by decide +kernel
theorem dX12_rootSplit_0 : decode cX12_rootSplit 0 = .ok (.aload_n 0, 1) := by decide +kernel
theorem dX12_rootSplit_1 : decode cX12_rootSplit 1 = .ok (.aload_n 0, 1) := by decide +kernel
theorem dX12_rootSplit_2 : decode cX12_rootSplit 2 = .ok (.iload_n 2, 1) := by decide +kernel
theorem dX12_rootSplit_3 : decode cX12_rootSplit 3 = .ok (.invokevirtual 460, 3) := by decide +kernel
theorem dX12_rootSplit_6 : decode cX12_rootSplit 6 = .ok (.iconst 1, 1) := by decide +kernel
theorem dX12_rootSplit_7 : decode cX12_rootSplit 7 = .ok (.iadd, 1) := by decide +kernel
theorem dX12_rootSplit_8 : decode cX12_rootSplit 8 = .ok (.bipush 48, 2) := by decide +kernel
theorem dX12_rootSplit_10 : decode cX12_rootSplit 10 = .ok (.invokevirtual 511, 3) := by decide +kernel
theorem dX12_rootSplit_13 : decode cX12_rootSplit 13 = .ok (.istore 4, 2) := by decide +kernel
theorem dX12_rootSplit_15 : decode cX12_rootSplit 15 = .ok (.aload_n 0, 1) := by decide +kernel
theorem dX12_rootSplit_16 : decode cX12_rootSplit 16 = .ok (.getfield 493, 3) := by decide +kernel
theorem dX12_rootSplit_19 : decode cX12_rootSplit 19 = .ok (.ifCond .eq 5, 3) := by decide +kernel
theorem dX12_rootSplit_22 : decode cX12_rootSplit 22 = .ok (.iload_n 2, 1) := by decide +kernel
theorem dX12_rootSplit_23 : decode cX12_rootSplit 23 = .ok (.ireturn, 1) := by decide +kernel
theorem dX12_rootSplit_24 : decode cX12_rootSplit 24 = .ok (.aload_n 0, 1) := by decide +kernel
theorem dX12_rootSplit_25 : decode cX12_rootSplit 25 = .ok (.iload 4, 2) := by decide +kernel
theorem dX12_rootSplit_27 : decode cX12_rootSplit 27 = .ok (.iconst 0, 1) := by decide +kernel
theorem dX12_rootSplit_28 : decode cX12_rootSplit 28 = .ok (.aload_n 0, 1) := by decide +kernel
theorem dX12_rootSplit_29 : decode cX12_rootSplit 29 = .ok (.iload_n 2, 1) := by decide +kernel
theorem dX12_rootSplit_30 : decode cX12_rootSplit 30 = .ok (.iconst 0, 1) := by decide +kernel
theorem dX12_rootSplit_31 : decode cX12_rootSplit 31 = .ok (.invokevirtual 517, 3) := by decide +kernel
theorem dX12_rootSplit_34 : decode cX12_rootSplit 34 = .ok (.iload_n 2, 1) := by decide +kernel
theorem dX12_rootSplit_35 : decode cX12_rootSplit 35 = .ok (.invokevirtual 526, 3) := by decide +kernel
theorem dX12_rootSplit_38 : decode cX12_rootSplit 38 = .ok (.aload_n 0, 1) := by decide +kernel
theorem dX12_rootSplit_39 : decode cX12_rootSplit 39 = .ok (.getfield 121, 3) := by decide +kernel
theorem dX12_rootSplit_42 : decode cX12_rootSplit 42 = .ok (.iload_n 1, 1) := by decide +kernel
theorem dX12_rootSplit_43 : decode cX12_rootSplit 43 = .ok (.iload 4, 2) := by decide +kernel
theorem dX12_rootSplit_45 : decode cX12_rootSplit 45 = .ok (.iastore, 1) := by decide +kernel
theorem dX12_rootSplit_46 : decode cX12_rootSplit 46 = .ok (.aload_n 0, 1) := by decide +kernel
theorem dX12_rootSplit_47 : decode cX12_rootSplit 47 = .ok (.iload 4, 2) := by decide +kernel
theorem dX12_rootSplit_49 : decode cX12_rootSplit 49 = .ok (.iconst 0, 1) := by decide +kernel
theorem dX12_rootSplit_50 : decode cX12_rootSplit 50 = .ok (.iload_n 2, 1) := by decide +kernel
theorem dX12_rootSplit_51 : decode cX12_rootSplit 51 = .ok (.iload_n 3, 1) := by decide +kernel
theorem dX12_rootSplit_52 : decode cX12_rootSplit 52 = .ok (.invokevirtual 529, 3) := by decide +kernel
theorem dX12_rootSplit_55 : decode cX12_rootSplit 55 = .ok (.ireturn, 1) := by decide +kernel
theorem dX12_tries_0 : decode cX12_tries 0 = .ok (.iconst 0, 1) := by decide +kernel
theorem dX12_tries_1 : decode cX12_tries 1 = .ok (.istore 5, 2) := by decide +kernel
theorem dX12_tries_3 : decode cX12_tries 3 = .ok (.iload 5, 2) := by decide +kernel
theorem dX12_tries_5 : decode cX12_tries 5 = .ok (.sipush 785, 3) := by decide +kernel
theorem dX12_tries_8 : decode cX12_tries 8 = .ok (.if_icmp .ge 23, 3) := by decide +kernel
theorem dX12_tries_11 : decode cX12_tries 11 = .ok (.aload_n 0, 1) := by decide +kernel
theorem dX12_tries_12 : decode cX12_tries 12 = .ok (.getfield 137, 3) := by decide +kernel
theorem dX12_tries_15 : decode cX12_tries 15 = .ok (.iload 5, 2) := by decide +kernel
theorem dX12_tries_17 : decode cX12_tries 17 = .ok (.aload_n 0, 1) := by decide +kernel
theorem dX12_tries_18 : decode cX12_tries 18 = .ok (.getfield 121, 3) := by decide +kernel
theorem dX12_tries_21 : decode cX12_tries 21 = .ok (.iload 5, 2) := by decide +kernel
theorem dX12_tries_23 : decode cX12_tries 23 = .ok (.iaload, 1) := by decide +kernel
theorem dX12_tries_24 : decode cX12_tries 24 = .ok (.iastore, 1) := by decide +kernel
theorem dX12_tries_25 : decode cX12_tries 25 = .ok (.iinc 5 1, 3) := by decide +kernel
theorem dX12_tries_28 : decode cX12_tries 28 = .ok (.goto (-25), 3) := by decide +kernel
theorem dX12_tries_31 : decode cX12_tries 31 = .ok (.iconst 0, 1) := by decide +kernel
theorem dX12_tries_32 : decode cX12_tries 32 = .ok (.istore 5, 2) := by decide +kernel
theorem dX12_tries_34 : decode cX12_tries 34 = .ok (.iload 5, 2) := by decide +kernel
theorem dX12_tries_36 : decode cX12_tries 36 = .ok (.bipush 48, 2) := by decide +kernel
theorem dX12_tries_38 : decode cX12_tries 38 = .ok (.if_icmp .ge 23, 3) := by decide +kernel
theorem dX12_tries_41 : decode cX12_tries 41 = .ok (.aload_n 0, 1) := by decide +kernel
theorem dX12_tries_42 : decode cX12_tries 42 = .ok (.getfield 140, 3) := by decide +kernel
theorem dX12_tries_45 : decode cX12_tries 45 = .ok (.iload 5, 2) := by decide +kernel
theorem dX12_tries_47 : decode cX12_tries 47 = .ok (.aload_n 0, 1) := by decide +kernel
theorem dX12_tries_48 : decode cX12_tries 48 = .ok (.getfield 124, 3) := by decide +kernel
theorem dX12_tries_51 : decode cX12_tries 51 = .ok (.iload 5, 2) := by decide +kernel
theorem dX12_tries_53 : decode cX12_tries 53 = .ok (.baload, 1) := by decide +kernel
theorem dX12_tries_54 : decode cX12_tries 54 = .ok (.bastore, 1) := by decide +kernel
theorem dX12_tries_55 : decode cX12_tries 55 = .ok (.iinc 5 1, 3) := by decide +kernel
theorem dX12_tries_58 : decode cX12_tries 58 = .ok (.goto (-24), 3) := by decide +kernel
theorem dX12_tries_61 : decode cX12_tries 61 = .ok (.aload_n 0, 1) := by decide +kernel
theorem dX12_tries_62 : decode cX12_tries 62 = .ok (.iload_n 1, 1) := by decide +kernel
theorem dX12_tries_63 : decode cX12_tries 63 = .ok (.iconst 3, 1) := by decide +kernel
theorem dX12_tries_64 : decode cX12_tries 64 = .ok (.if_icmp .ne 17, 3) := by decide +kernel
theorem dX12_tries_67 : decode cX12_tries 67 = .ok (.aload_n 0, 1) := by decide +kernel
theorem dX12_tries_68 : decode cX12_tries 68 = .ok (.iload_n 2, 1) := by decide +kernel
theorem dX12_tries_69 : decode cX12_tries 69 = .ok (.iload_n 3, 1) := by decide +kernel
theorem dX12_tries_70 : decode cX12_tries 70 = .ok (.invokevirtual 559, 3) := by decide +kernel
theorem dX12_tries_73 : decode cX12_tries 73 = .ok (.iconst (-1), 1) := by decide +kernel
theorem dX12_tries_74 : decode cX12_tries 74 = .ok (.if_icmp .ne 7, 3) := by decide +kernel
theorem dX12_tries_77 : decode cX12_tries 77 = .ok (.iconst 1, 1) := by decide +kernel
theorem dX12_tries_78 : decode cX12_tries 78 = .ok (.goto 4, 3) := by decide +kernel
theorem dX12_tries_81 : decode cX12_tries 81 = .ok (.iconst 0, 1) := by decide +kernel
theorem dX12_tries_82 : decode cX12_tries 82 = .ok (.putfield 493, 3) := by decide +kernel
theorem dX12_tries_85 : decode cX12_tries 85 = .ok (.aload_n 0, 1) := by decide +kernel
theorem dX12_tries_86 : decode cX12_tries 86 = .ok (.getfield 493, 3) := by decide +kernel
theorem dX12_tries_89 : decode cX12_tries 89 = .ok (.ifCond .ne 19, 3) := by decide +kernel
theorem dX12_tries_92 : decode cX12_tries 92 = .ok (.iload_n 1, 1) := by decide +kernel
theorem dX12_tries_93 : decode cX12_tries 93 = .ok (.iconst 2, 1) := by decide +kernel
theorem dX12_tries_94 : decode cX12_tries 94 = .ok (.if_icmp .ne 14, 3) := by decide +kernel
theorem dX12_tries_97 : decode cX12_tries 97 = .ok (.aload_n 0, 1) := by decide +kernel
theorem dX12_tries_98 : decode cX12_tries 98 = .ok (.iload_n 2, 1) := by decide +kernel
theorem dX12_tries_99 : decode cX12_tries 99 = .ok (.iload_n 3, 1) := by decide +kernel
theorem dX12_tries_100 : decode cX12_tries 100 = .ok (.iload 4, 2) := by decide +kernel
theorem dX12_tries_102 : decode cX12_tries 102 = .ok (.invokevirtual 562, 3) := by decide +kernel
theorem dX12_tries_105 : decode cX12_tries 105 = .ok (.goto 16, 3) := by decide +kernel
theorem dX12_tries_108 : decode cX12_tries 108 = .ok (.aload_n 0, 1) := by decide +kernel
theorem dX12_tries_109 : decode cX12_tries 109 = .ok (.getfield 493, 3) := by decide +kernel
theorem dX12_tries_112 : decode cX12_tries 112 = .ok (.ifCond .ne 9, 3) := by decide +kernel
theorem dX12_tries_115 : decode cX12_tries 115 = .ok (.aload_n 0, 1) := by decide +kernel
theorem dX12_tries_116 : decode cX12_tries 116 = .ok (.iload_n 2, 1) := by decide +kernel
theorem dX12_tries_117 : decode cX12_tries 117 = .ok (.iload_n 3, 1) := by decide +kernel
theorem dX12_tries_118 : decode cX12_tries 118 = .ok (.invokevirtual 565, 3) := by decide +kernel
theorem dX12_tries_121 : decode cX12_tries 121 = .ok (.aload_n 0, 1) := by decide +kernel
theorem dX12_tries_122 : decode cX12_tries 122 = .ok (.getfield 493, 3) := by decide +kernel
theorem dX12_tries_125 : decode cX12_tries 125 = .ok (.ifCond .ne 5, 3) := by decide +kernel
theorem dX12_tries_128 : decode cX12_tries 128 = .ok (.iconst 1, 1) := by decide +kernel
theorem dX12_tries_129 : decode cX12_tries 129 = .ok (.ireturn, 1) := by decide +kernel
theorem dX12_tries_130 : decode cX12_tries 130 = .ok (.iconst 0, 1) := by decide +kernel
theorem dX12_tries_131 : decode cX12_tries 131 = .ok (.istore 5, 2) := by decide +kernel
theorem dX12_tries_133 : decode cX12_tries 133 = .ok (.iload 5, 2) := by decide +kernel
theorem dX12_tries_135 : decode cX12_tries 135 = .ok (.sipush 785, 3) := by decide +kernel
theorem dX12_tries_138 : decode cX12_tries 138 = .ok (.if_icmp .ge 23, 3) := by decide +kernel
theorem dX12_tries_141 : decode cX12_tries 141 = .ok (.aload_n 0, 1) := by decide +kernel
theorem dX12_tries_142 : decode cX12_tries 142 = .ok (.getfield 121, 3) := by decide +kernel
theorem dX12_tries_145 : decode cX12_tries 145 = .ok (.iload 5, 2) := by decide +kernel
theorem dX12_tries_147 : decode cX12_tries 147 = .ok (.aload_n 0, 1) := by decide +kernel
theorem dX12_tries_148 : decode cX12_tries 148 = .ok (.getfield 137, 3) := by decide +kernel
theorem dX12_tries_151 : decode cX12_tries 151 = .ok (.iload 5, 2) := by decide +kernel
theorem dX12_tries_153 : decode cX12_tries 153 = .ok (.iaload, 1) := by decide +kernel
theorem dX12_tries_154 : decode cX12_tries 154 = .ok (.iastore, 1) := by decide +kernel
theorem dX12_tries_155 : decode cX12_tries 155 = .ok (.iinc 5 1, 3) := by decide +kernel
theorem dX12_tries_158 : decode cX12_tries 158 = .ok (.goto (-25), 3) := by decide +kernel
theorem dX12_tries_161 : decode cX12_tries 161 = .ok (.iconst 0, 1) := by decide +kernel
theorem dX12_tries_162 : decode cX12_tries 162 = .ok (.istore 5, 2) := by decide +kernel
theorem dX12_tries_164 : decode cX12_tries 164 = .ok (.iload 5, 2) := by decide +kernel
theorem dX12_tries_166 : decode cX12_tries 166 = .ok (.bipush 48, 2) := by decide +kernel
theorem dX12_tries_168 : decode cX12_tries 168 = .ok (.if_icmp .ge 23, 3) := by decide +kernel
theorem dX12_tries_171 : decode cX12_tries 171 = .ok (.aload_n 0, 1) := by decide +kernel
theorem dX12_tries_172 : decode cX12_tries 172 = .ok (.getfield 124, 3) := by decide +kernel
theorem dX12_tries_175 : decode cX12_tries 175 = .ok (.iload 5, 2) := by decide +kernel
theorem dX12_tries_177 : decode cX12_tries 177 = .ok (.aload_n 0, 1) := by decide +kernel
theorem dX12_tries_178 : decode cX12_tries 178 = .ok (.getfield 140, 3) := by decide +kernel
theorem dX12_tries_181 : decode cX12_tries 181 = .ok (.iload 5, 2) := by decide +kernel
theorem dX12_tries_183 : decode cX12_tries 183 = .ok (.baload, 1) := by decide +kernel
theorem dX12_tries_184 : decode cX12_tries 184 = .ok (.bastore, 1) := by decide +kernel
theorem dX12_tries_185 : decode cX12_tries 185 = .ok (.iinc 5 1, 3) := by decide +kernel
theorem dX12_tries_188 : decode cX12_tries 188 = .ok (.goto (-24), 3) := by decide +kernel
theorem dX12_tries_191 : decode cX12_tries 191 = .ok (.aload_n 0, 1) := by decide +kernel
theorem dX12_tries_192 : decode cX12_tries 192 = .ok (.iconst 0, 1) := by decide +kernel
theorem dX12_tries_193 : decode cX12_tries 193 = .ok (.putfield 493, 3) := by decide +kernel
theorem dX12_tries_196 : decode cX12_tries 196 = .ok (.iconst 0, 1) := by decide +kernel
theorem dX12_tries_197 : decode cX12_tries 197 = .ok (.ireturn, 1) := by decide +kernel
theorem dX12_valueFrom_0 : decode cX12_valueFrom 0 = .ok (.iload_n 1, 1) := by decide +kernel
theorem dX12_valueFrom_1 : decode cX12_valueFrom 1 = .ok (.sipush 254, 3) := by decide +kernel
theorem dX12_valueFrom_4 : decode cX12_valueFrom 4 = .ok (.if_icmp .lt 5, 3) := by decide +kernel
theorem dX12_valueFrom_7 : decode cX12_valueFrom 7 = .ok (.iconst (-1), 1) := by decide +kernel
theorem dX12_valueFrom_8 : decode cX12_valueFrom 8 = .ok (.ireturn, 1) := by decide +kernel
theorem dX12_valueFrom_9 : decode cX12_valueFrom 9 = .ok (.iload_n 1, 1) := by decide +kernel
theorem dX12_valueFrom_10 : decode cX12_valueFrom 10 = .ok (.istore_n 3, 1) := by decide +kernel
theorem dX12_valueFrom_11 : decode cX12_valueFrom 11 = .ok (.aload_n 0, 1) := by decide +kernel
theorem dX12_valueFrom_12 : decode cX12_valueFrom 12 = .ok (.iload_n 3, 1) := by decide +kernel
theorem dX12_valueFrom_13 : decode cX12_valueFrom 13 = .ok (.invokevirtual 460, 3) := by decide +kernel
theorem dX12_valueFrom_16 : decode cX12_valueFrom 16 = .ok (.ifCond .le 18, 3) := by decide +kernel
theorem dX12_valueFrom_19 : decode cX12_valueFrom 19 = .ok (.aload_n 0, 1) := by decide +kernel
theorem dX12_valueFrom_20 : decode cX12_valueFrom 20 = .ok (.iload_n 3, 1) := by decide +kernel
theorem dX12_valueFrom_21 : decode cX12_valueFrom 21 = .ok (.aload_n 0, 1) := by decide +kernel
theorem dX12_valueFrom_22 : decode cX12_valueFrom 22 = .ok (.iload_n 3, 1) := by decide +kernel
theorem dX12_valueFrom_23 : decode cX12_valueFrom 23 = .ok (.iload_n 2, 1) := by decide +kernel
theorem dX12_valueFrom_24 : decode cX12_valueFrom 24 = .ok (.invokevirtual 543, 3) := by decide +kernel
theorem dX12_valueFrom_27 : decode cX12_valueFrom 27 = .ok (.invokevirtual 505, 3) := by decide +kernel
theorem dX12_valueFrom_30 : decode cX12_valueFrom 30 = .ok (.istore_n 3, 1) := by decide +kernel
theorem dX12_valueFrom_31 : decode cX12_valueFrom 31 = .ok (.goto (-20), 3) := by decide +kernel
theorem dX12_valueFrom_34 : decode cX12_valueFrom 34 = .ok (.aload_n 0, 1) := by decide +kernel
theorem dX12_valueFrom_35 : decode cX12_valueFrom 35 = .ok (.iload_n 3, 1) := by decide +kernel
theorem dX12_valueFrom_36 : decode cX12_valueFrom 36 = .ok (.iload_n 2, 1) := by decide +kernel
theorem dX12_valueFrom_37 : decode cX12_valueFrom 37 = .ok (.invokevirtual 550, 3) := by decide +kernel
theorem dX12_valueFrom_40 : decode cX12_valueFrom 40 = .ok (.istore 4, 2) := by decide +kernel
theorem dX12_valueFrom_42 : decode cX12_valueFrom 42 = .ok (.iload 4, 2) := by decide +kernel
theorem dX12_valueFrom_44 : decode cX12_valueFrom 44 = .ok (.aload_n 0, 1) := by decide +kernel
theorem dX12_valueFrom_45 : decode cX12_valueFrom 45 = .ok (.iload_n 3, 1) := by decide +kernel
theorem dX12_valueFrom_46 : decode cX12_valueFrom 46 = .ok (.invokevirtual 466, 3) := by decide +kernel
theorem dX12_valueFrom_49 : decode cX12_valueFrom 49 = .ok (.if_icmp .ge 24, 3) := by decide +kernel
theorem dX12_valueFrom_52 : decode cX12_valueFrom 52 = .ok (.aload_n 0, 1) := by decide +kernel
theorem dX12_valueFrom_53 : decode cX12_valueFrom 53 = .ok (.iload_n 3, 1) := by decide +kernel
theorem dX12_valueFrom_54 : decode cX12_valueFrom 54 = .ok (.iload 4, 2) := by decide +kernel
theorem dX12_valueFrom_56 : decode cX12_valueFrom 56 = .ok (.invokevirtual 517, 3) := by decide +kernel
theorem dX12_valueFrom_59 : decode cX12_valueFrom 59 = .ok (.iload_n 2, 1) := by decide +kernel
theorem dX12_valueFrom_60 : decode cX12_valueFrom 60 = .ok (.if_icmp .ne 13, 3) := by decide +kernel
theorem dX12_valueFrom_63 : decode cX12_valueFrom 63 = .ok (.aload_n 0, 1) := by decide +kernel
theorem dX12_valueFrom_64 : decode cX12_valueFrom 64 = .ok (.iload_n 3, 1) := by decide +kernel
theorem dX12_valueFrom_65 : decode cX12_valueFrom 65 = .ok (.iload 4, 2) := by decide +kernel
theorem dX12_valueFrom_67 : decode cX12_valueFrom 67 = .ok (.invokevirtual 505, 3) := by decide +kernel
theorem dX12_valueFrom_70 : decode cX12_valueFrom 70 = .ok (.goto 4, 3) := by decide +kernel
theorem dX12_valueFrom_73 : decode cX12_valueFrom 73 = .ok (.iconst (-1), 1) := by decide +kernel
theorem dX12_valueFrom_74 : decode cX12_valueFrom 74 = .ok (.ireturn, 1) := by decide +kernel
theorem dX12_valueOf_0 : decode cX12_valueOf 0 = .ok (.aload_n 0, 1) := by decide +kernel
theorem dX12_valueOf_1 : decode cX12_valueOf 1 = .ok (.aload_n 0, 1) := by decide +kernel
theorem dX12_valueOf_2 : decode cX12_valueOf 2 = .ok (.getfield 121, 3) := by decide +kernel
theorem dX12_valueOf_5 : decode cX12_valueOf 5 = .ok (.iload_n 1, 1) := by decide +kernel
theorem dX12_valueOf_6 : decode cX12_valueOf 6 = .ok (.iaload, 1) := by decide +kernel
theorem dX12_valueOf_7 : decode cX12_valueOf 7 = .ok (.iload_n 2, 1) := by decide +kernel
theorem dX12_valueOf_8 : decode cX12_valueOf 8 = .ok (.invokevirtual 621, 3) := by decide +kernel
theorem dX12_valueOf_11 : decode cX12_valueOf 11 = .ok (.ireturn, 1) := by decide +kernel
def m_x12_putsIn_J73 (s1 : MS) : Option MS :=
  some s1
def m_x12_putsIn_J34 (x2 : Int32) (x3 : Int32) (x4 : Int32) (x5 : Int32) (x6 : Int32) (s7 : MS) : Option MS :=
  if x6 = 0 then bn (m_x12_inserts x2 x5 x3 x4 s7) (fun s15 => m_x12_putsIn_J73 s15) else bn (m_x12_valueAt x2 x5 s7) (fun r10 => if r10 = x4 then m_x12_putsIn_J73 s7 else bn (m_x12_setsEntry x2 x5 x3 x4 s7) (fun s13 => m_x12_putsIn_J73 s13))
def m_x12_putsIn_J33 (x16 : Int32) (x17 : Int32) (x18 : Int32) (x19 : Int32) (s20 : MS) : Option MS :=
  m_x12_putsIn_J34 x16 x17 x18 x19 0 s20
def m_x12_putsIn (p0 : Int32) (p1 : Int32) (p2 : Int32) (s : MS) : Option MS :=
  bn (m_x12_placeIn p0 p1 s) (fun r22 => bn (m_x12_entriesOf p0 s) (fun r24 => if r24 ≤ r22 then m_x12_putsIn_J33 p0 p1 p2 r22 s else bn (m_x12_keyAt p0 r22 s) (fun r27 => if r27 = p1 then m_x12_putsIn_J34 p0 p1 p2 r22 1 s else m_x12_putsIn_J33 p0 p1 p2 r22 s)))
set_option maxHeartbeats 4000000 in
set_option maxRecDepth 100000 in
theorem k_x12_putsIn (l : Launch) (D : va_G) (a : Nat → Nat) (p0 : Int32) (p1 : Int32) (p2 : Int32) (sz : Nat) (s : MS) (o : MS) (h : m_x12_putsIn p0 p1 p2 s = some o) : yWv l yX12_putsIn cX12_putsIn 6 none { frames := 2, cells := 0, slots := 0, locals := 120 } D sz [.ref (a 200), .int p0, .int p1, .int p2] (RW D a s) (RW D a o) := by
  refine Met.ofW (cc := cX12_putsIn) (maxL := 6) (ret := none) (by decide) rfl ?_
  intro p e s₀ m args below meth c s₁ B hml hv
  obtain ⟨rfl, ⟨hsz, hP, hK, hD0⟩, hN⟩ := hv
  have hx := B.exec
  have hb := B.bytes
  have hr := B.returns
  have hts := atoms_spec (ws := wz yX12_putsIn cX12_putsIn 6 none) B.pre
  have ht : ∀ w ∈ lw_gd, w.before _ s₀ = true := fun w h => hts w (List.mem_cons_of_mem _ h)
  have hown : s₀.vm.findClass RX12 = some m.cls := findClass_of_methodNamed B.named
  have hlocks := B.notSynchronized
  subst hsz
  have hD := hD0.self (sz := s₀.heap.size)
  generalize hAe : va_A (RW D a s) s₀.heap.size = A at hD ⊢
  have hA : ∀ q : Nat, s₀.heap.size ≤ q → A q := fun q h => by rw [← hAe]; exact Or.inr h
  have hS : va_S A s₀.heap s₀.heap [] := va_S.rf
  have hDD : ∀ t : MS, va_D A (RW D a t) := fun t => RW_D t hD
  have hl := lv_entry ([.ref (a 200), .int p0, .int p1, .int p2]) (n := 6) (Nat.le_of_ble_eq_true rfl)
  rw [lg_entry_eq]
  generalize (lg_sl ([.ref (a 200), .int p0, .int p1, .int p2]) ++ List.replicate (6 - (lg_sl ([.ref (a 200), .int p0, .int p1, .int p2])).length) Slot.unset).toArray = ls at hl ⊢
  have hl : lv_has ls 6 [(0, .ref (a 200)), (1, .int p0), (2, .int p1), (3, .int p2)] := hl
  unfold m_x12_putsIn at h
  refine y_head (pcJ := 73) (σ := MS) (fun u H locs ls => va_P D vwCl (RW D a u) H ∧ va_S A s₀.heap H locs ∧ lv_has ls 6 [] ∧ m_x12_putsIn_J73 u = some o) (fun u => []) (fun u H locs ls hI => ?_) (fun J73 => ?_)
  · obtain ⟨hP, hS, hl, h⟩ := hI
    obtain ⟨s1, rfl⟩ : ∃ z, z = u := ⟨u, rfl⟩
    have hP : va_P D vwCl (RW D a s1) H := hP
    have hl : lv_has ls 6 [] := hl
    have h : m_x12_putsIn_J73 s1 = some o := h
    unfold m_x12_putsIn_J73 at h
    obtain rfl := Option.some.inj h
    exact W.vret hx hb hr (fun t ht hW => ⟨⟨(), rfl, trivial, by rw [ht]; exact hP, va_K.moved hW.alike hK, hDD _⟩, hS.F ht⟩) hS.2.2 dX12_putsIn_73
  refine y_head (pcJ := 34) (σ := Int32 × Int32 × Int32 × Int32 × Int32 × MS) (fun u H locs ls => va_P D vwCl (RW D a u.2.2.2.2.2) H ∧ va_S A s₀.heap H locs ∧ lv_has ls 6 [(0, .ref (a 200)), (1, .int u.1), (2, .int u.2.1), (3, .int u.2.2.1), (4, .int u.2.2.2.1)] ∧ m_x12_putsIn_J34 u.1 u.2.1 u.2.2.1 u.2.2.2.1 u.2.2.2.2.1 u.2.2.2.2.2 = some o) (fun u => [.int u.2.2.2.2.1]) (fun u H locs ls hI => ?_) (fun J34 => ?_)
  · obtain ⟨hP, hS, hl, h⟩ := hI
    obtain ⟨x2, x3, x4, x5, x6, s7⟩ := u
    have hP : va_P D vwCl (RW D a s7) H := hP
    have hl : lv_has ls 6 [(0, .ref (a 200)), (1, .int x2), (2, .int x3), (3, .int x4), (4, .int x5)] := hl
    have h : m_x12_putsIn_J34 x2 x3 x4 x5 x6 s7 = some o := h
    unfold m_x12_putsIn_J34 at h
    refine lv_istore (lv' := [(5, .int x6), (0, .ref (a 200)), (1, .int x2), (2, .int x3), (3, .int x4), (4, .int x5)]) hx hb dX12_putsIn_34 hl (by decide) rfl (fun ls hl => ?_)
    refine lv_iload hx hb dX12_putsIn_36 (lv_at hl 0 rfl) ?_
    refine lv_if_ne (tgt := 53) hx hb dX12_putsIn_38 (by decide) (fun c8 => ?_) (fun c8 => ?_)
    · have h := if_f c8 h
      refine lv_aload_n hx hb dX12_putsIn_53 rfl (lv_at hl 1 rfl) ?_
      refine lv_iload_n hx hb dX12_putsIn_54 rfl (lv_at hl 2 rfl) ?_
      refine lv_iload hx hb dX12_putsIn_55 (lv_at hl 5 rfl) ?_
      obtain ⟨r10, hc9, h⟩ := bn_e h
      refine ycV (As := [.int x2, .int x5]) (rest := []) (C := RX12) (n := 2) ⟨hx, hb, hml, hown, ht⟩ (k_x12_valueAt l D a x2 x5 _ _ hc9) (zgV ml_X12_505 im_X12_valueAt se_X12_valueAt in_X12 co_X12_valueAt) rfl rfl (by decide +kernel) ⟨Nat.le_of_ble_eq_true rfl, Nat.le_of_ble_eq_true rfl⟩ hN hK hP hS 0 RW_0 rfl rfl rfl hl.1 rfl (Nat.le_of_ble_eq_true rfl) dX12_putsIn_57 ⟨Nat.le_of_ble_eq_true rfl, Nat.le_of_ble_eq_true rfl⟩ (fun H locs hP hS => ?_)
      refine lv_iload_n hx hb dX12_putsIn_60 rfl (lv_at hl 4 rfl) ?_
      refine lv_icmp_eq (tgt := 73) hx hb dX12_putsIn_61 (by decide) (fun c11 => ?_) (fun c11 => ?_)
      · have h := if_t c11 h
        exact J73 s7 _ _ _ ⟨hP, hS, lv_sub hl [] rfl, h⟩
      · have h := if_f c11 h
        refine lv_aload_n hx hb dX12_putsIn_64 rfl (lv_at hl 1 rfl) ?_
        refine lv_iload_n hx hb dX12_putsIn_65 rfl (lv_at hl 2 rfl) ?_
        refine lv_iload hx hb dX12_putsIn_66 (lv_at hl 5 rfl) ?_
        refine lv_iload_n hx hb dX12_putsIn_68 rfl (lv_at hl 3 rfl) ?_
        refine lv_iload_n hx hb dX12_putsIn_69 rfl (lv_at hl 4 rfl) ?_
        obtain ⟨s13, hc12, h⟩ := bn_e h
        refine ywVv (As := [.int x2, .int x5, .int x3, .int x4]) (rest := []) (C := RX12) (n := 4) (ws' := RW D a s13) ⟨hx, hb, hml, hown, ht⟩ (k_x12_setsEntry l D a x2 x5 x3 x4 _ _ _ hc12) (zgV ml_X12_520 im_X12_setsEntry se_X12_setsEntry in_X12 co_X12_setsEntry) rfl rfl (by decide +kernel) ⟨Nat.le_of_ble_eq_true rfl, Nat.le_of_ble_eq_true rfl⟩ hN hK hP (hDD _) hS hA 0 RW_0 rfl rfl rfl hl.1 rfl (Nat.le_of_ble_eq_true rfl) dX12_putsIn_70 ⟨Nat.le_of_ble_eq_true rfl, Nat.le_of_ble_eq_true rfl⟩ (fun H locs hP hS => ?_)
        exact J73 s13 _ _ _ ⟨hP, hS, lv_sub hl [] rfl, h⟩
    · have h := if_t c8 h
      refine lv_aload_n hx hb dX12_putsIn_41 rfl (lv_at hl 1 rfl) ?_
      refine lv_iload_n hx hb dX12_putsIn_42 rfl (lv_at hl 2 rfl) ?_
      refine lv_iload hx hb dX12_putsIn_43 (lv_at hl 5 rfl) ?_
      refine lv_iload_n hx hb dX12_putsIn_45 rfl (lv_at hl 3 rfl) ?_
      refine lv_iload_n hx hb dX12_putsIn_46 rfl (lv_at hl 4 rfl) ?_
      obtain ⟨s15, hc14, h⟩ := bn_e h
      refine ywVv (As := [.int x2, .int x5, .int x3, .int x4]) (rest := []) (C := RX12) (n := 4) (ws' := RW D a s15) ⟨hx, hb, hml, hown, ht⟩ (k_x12_inserts l D a x2 x5 x3 x4 _ _ _ hc14) (zgV ml_X12_526 im_X12_inserts se_X12_inserts in_X12 co_X12_inserts) rfl rfl (by decide +kernel) ⟨Nat.le_of_ble_eq_true rfl, Nat.le_of_ble_eq_true rfl⟩ hN hK hP (hDD _) hS hA 0 RW_0 rfl rfl rfl hl.1 rfl (Nat.le_of_ble_eq_true rfl) dX12_putsIn_47 ⟨Nat.le_of_ble_eq_true rfl, Nat.le_of_ble_eq_true rfl⟩ (fun H locs hP hS => ?_)
      refine lv_goto (tgt := 73) hx hb dX12_putsIn_50 (by decide) ?_
      exact J73 s15 _ _ _ ⟨hP, hS, lv_sub hl [] rfl, h⟩
  refine y_head (pcJ := 33) (σ := Int32 × Int32 × Int32 × Int32 × MS) (fun u H locs ls => va_P D vwCl (RW D a u.2.2.2.2) H ∧ va_S A s₀.heap H locs ∧ lv_has ls 6 [(0, .ref (a 200)), (1, .int u.1), (2, .int u.2.1), (3, .int u.2.2.1), (4, .int u.2.2.2.1)] ∧ m_x12_putsIn_J33 u.1 u.2.1 u.2.2.1 u.2.2.2.1 u.2.2.2.2 = some o) (fun u => []) (fun u H locs ls hI => ?_) (fun J33 => ?_)
  · obtain ⟨hP, hS, hl, h⟩ := hI
    obtain ⟨x16, x17, x18, x19, s20⟩ := u
    have hP : va_P D vwCl (RW D a s20) H := hP
    have hl : lv_has ls 6 [(0, .ref (a 200)), (1, .int x16), (2, .int x17), (3, .int x18), (4, .int x19)] := hl
    have h : m_x12_putsIn_J33 x16 x17 x18 x19 s20 = some o := h
    unfold m_x12_putsIn_J33 at h
    refine lv_iconst (v := 0) hx hb dX12_putsIn_33 (by decide) ?_
    exact J34 (x16, x17, x18, x19, 0, s20) _ _ _ ⟨hP, hS, lv_sub hl [0, 1, 2, 3, 4] rfl, h⟩
  refine lv_aload_n hx hb dX12_putsIn_0 rfl (lv_at hl 0 rfl) ?_
  refine lv_iload_n hx hb dX12_putsIn_1 rfl (lv_at hl 1 rfl) ?_
  refine lv_iload_n hx hb dX12_putsIn_2 rfl (lv_at hl 2 rfl) ?_
  obtain ⟨r22, hc21, h⟩ := bn_e h
  refine ycV (As := [.int p0, .int p1]) (rest := []) (C := RX12) (n := 2) ⟨hx, hb, hml, hown, ht⟩ (k_x12_placeIn l D a p0 p1 _ _ hc21) (zgV ml_X12_550 im_X12_placeIn se_X12_placeIn in_X12 co_X12_placeIn) rfl rfl (by decide +kernel) ⟨Nat.le_of_ble_eq_true rfl, Nat.le_of_ble_eq_true rfl⟩ hN hK hP hS 0 RW_0 rfl rfl rfl hl.1 rfl (Nat.le_of_ble_eq_true rfl) dX12_putsIn_3 ⟨Nat.le_of_ble_eq_true rfl, Nat.le_of_ble_eq_true rfl⟩ (fun H locs hP hS => ?_)
  refine lv_istore (lv' := [(4, .int r22), (0, .ref (a 200)), (1, .int p0), (2, .int p1), (3, .int p2)]) hx hb dX12_putsIn_6 hl (by decide) rfl (fun ls hl => ?_)
  refine lv_iload hx hb dX12_putsIn_8 (lv_at hl 0 rfl) ?_
  refine lv_aload_n hx hb dX12_putsIn_10 rfl (lv_at hl 1 rfl) ?_
  refine lv_iload_n hx hb dX12_putsIn_11 rfl (lv_at hl 2 rfl) ?_
  obtain ⟨r24, hc23, h⟩ := bn_e h
  refine ycV (As := [.int p0]) (rest := [.int r22]) (C := RX12) (n := 1) ⟨hx, hb, hml, hown, ht⟩ (k_x12_entriesOf l D a p0 _ _ hc23) (zgV ml_X12_466 im_X12_entriesOf se_X12_entriesOf in_X12 co_X12_entriesOf) rfl rfl (by decide +kernel) ⟨Nat.le_of_ble_eq_true rfl, Nat.le_of_ble_eq_true rfl⟩ hN hK hP hS 0 RW_0 rfl rfl rfl hl.1 rfl (Nat.le_of_ble_eq_true rfl) dX12_putsIn_12 ⟨Nat.le_of_ble_eq_true rfl, Nat.le_of_ble_eq_true rfl⟩ (fun H locs hP hS => ?_)
  refine lv_icmp_ge (tgt := 33) hx hb dX12_putsIn_15 (by decide) (fun c25 => ?_) (fun c25 => ?_)
  · have h := if_t c25 h
    exact J33 (p0, p1, p2, r22, s) _ _ _ ⟨hP, hS, lv_sub hl [1, 2, 3, 4, 0] rfl, h⟩
  · have h := if_f c25 h
    refine lv_aload_n hx hb dX12_putsIn_18 rfl (lv_at hl 1 rfl) ?_
    refine lv_iload_n hx hb dX12_putsIn_19 rfl (lv_at hl 2 rfl) ?_
    refine lv_iload hx hb dX12_putsIn_20 (lv_at hl 0 rfl) ?_
    obtain ⟨r27, hc26, h⟩ := bn_e h
    refine ycV (As := [.int p0, .int r22]) (rest := []) (C := RX12) (n := 2) ⟨hx, hb, hml, hown, ht⟩ (k_x12_keyAt l D a p0 r22 _ _ hc26) (zgV ml_X12_517 im_X12_keyAt se_X12_keyAt in_X12 co_X12_keyAt) rfl rfl (by decide +kernel) ⟨Nat.le_of_ble_eq_true rfl, Nat.le_of_ble_eq_true rfl⟩ hN hK hP hS 0 RW_0 rfl rfl rfl hl.1 rfl (Nat.le_of_ble_eq_true rfl) dX12_putsIn_22 ⟨Nat.le_of_ble_eq_true rfl, Nat.le_of_ble_eq_true rfl⟩ (fun H locs hP hS => ?_)
    refine lv_iload_n hx hb dX12_putsIn_25 rfl (lv_at hl 3 rfl) ?_
    refine lv_icmp_ne (tgt := 33) hx hb dX12_putsIn_26 (by decide) (fun c28 => ?_) (fun c28 => ?_)
    · have h := if_f c28 h
      exact J33 (p0, p1, p2, r22, s) _ _ _ ⟨hP, hS, lv_sub hl [1, 2, 3, 4, 0] rfl, h⟩
    · have h := if_t c28 h
      refine lv_iconst (v := 1) hx hb dX12_putsIn_29 (by decide) ?_
      refine lv_goto (tgt := 34) hx hb dX12_putsIn_30 (by decide) ?_
      exact J34 (p0, p1, p2, r22, 1, s) _ _ _ ⟨hP, hS, lv_sub hl [1, 2, 3, 4, 0] rfl, h⟩
def m_x12_roomOf (s : MS) : Option Int32 :=
  rdI (gA s 39) 10 6 (fun y1 => some y1)
set_option maxHeartbeats 4000000 in
set_option maxRecDepth 100000 in
theorem k_x12_roomOf (l : Launch) (D : va_G) (a : Nat → Nat) (s : MS) (o : Int32) (h : m_x12_roomOf s = some o) : yRi l yX12_roomOf cX12_roomOf 1 (some .int) { frames := 0, cells := 0, slots := 0, locals := 0 } D [.ref (a 200)] (RW D a s) o := by
  refine Met.ofW (cc := cX12_roomOf) (maxL := 1) (ret := (some .int)) (by decide) rfl ?_
  intro p e s₀ m args below meth c s₁ B hml hv
  obtain ⟨rfl, ⟨hP, hK⟩, hN⟩ := hv
  have hx := B.exec
  have hb := B.bytes
  have hr := B.returns
  have hts := atoms_spec (ws := wz yX12_roomOf cX12_roomOf 1 (some .int)) B.pre
  have ht : ∀ w ∈ lw_gd, w.before _ s₀ = true := fun w h => hts w (List.mem_cons_of_mem _ h)
  have hown : s₀.vm.findClass RX12 = some m.cls := findClass_of_methodNamed B.named
  have hlocks := B.notSynchronized
  have hS : va_S (fun _ => False) s₀.heap s₀.heap [] := va_S.rf
  have hl := lv_entry ([.ref (a 200)]) (n := 1) (Nat.le_of_ble_eq_true rfl)
  rw [lg_entry_eq]
  generalize (lg_sl ([.ref (a 200)]) ++ List.replicate (1 - (lg_sl ([.ref (a 200)])).length) Slot.unset).toArray = ls at hl ⊢
  have hl : lv_has ls 1 [(0, .ref (a 200))] := hl
  unfold m_x12_roomOf at h
  refine lv_aload_n hx hb dX12_roomOf_0 rfl (lv_at hl 0 rfl) ?_
  refine va_get (D := D) (ci := 12) (v := .ref (a 39)) (C := RX12) (T := TX12) (N := 116) hx hb ht inX12 hown hK hP 0 RW_0 rfl 39 (by decide) (ht (.fieldLink RX12 102 "CloneVolumesModel" "many" "[I") fl_X12_102) (fun _ h9 => h9) mF_39 dX12_roomOf_1 ?_
  refine lv_bipush (v := 6) hx hb dX12_roomOf_4 (by decide) ?_
  obtain ⟨y1, ey1, iy1, h⟩ := rdI_e h
  refine ya_iald hx hb hK hP 30 0 RW_30 rfl ey1 iy1 dX12_roomOf_6 ?_
  obtain rfl := Option.some.inj h
  exact W.iret (v := y1) hx hb hr (fun t ht hW => ⟨⟨_, (), rfl, rfl, trivial⟩, hS.F ht⟩) hS.2.2 dX12_roomOf_7
def m_x12_doesSplit_J60 (x1 : Int32) (s2 : MS) : Option (Int32 × MS) :=
  bo x1 (some (x1, s2))
def m_x12_doesSplit_J29 (s4 : MS) : Option (Int32 × MS) :=
  some (0, s4)
def m_x12_doesSplit (p0 : Int32) (s : MS) : Option (Int32 × MS) :=
  bn (m_x12_entriesOf p0 s) (fun r6 => bn (m_x12_roomOf s) (fun r8 => if r6 < r8 then if r6 < 2 then m_x12_doesSplit_J29 s else bn (m_x12_isCoded 1 s) (fun r12 => if r12 = 0 then m_x12_doesSplit_J29 s else bn (m_x12_levelOf p0 s) (fun r15 => stn (sI s 52 r15) (fun s16 => stn (sI s16 53 r6) (fun s17 => bn (m_x12_codesTell 1 s17) (fun qrl20 => if (lg_cmp qrl20.1 1) = 0 then m_x12_doesSplit_J60 1 qrl20.2 else m_x12_doesSplit_J60 0 qrl20.2))))) else some (1, s)))
set_option maxHeartbeats 4000000 in
set_option maxRecDepth 100000 in
theorem k_x12_doesSplit (l : Launch) (D : va_G) (a : Nat → Nat) (p0 : Int32) (sz : Nat) (s : MS) (o : (Int32 × MS)) (h : m_x12_doesSplit p0 s = some o) : yWi l yX12_doesSplit cX12_doesSplit 3 (some .boolean) { frames := 5, cells := 0, slots := 0, locals := 300 } D sz [.ref (a 200), .int p0] (RW D a s) (RW D a o.2) o.1 := by
  refine Met.ofW (cc := cX12_doesSplit) (maxL := 3) (ret := (some .boolean)) (by decide) rfl ?_
  intro p e s₀ m args below meth c s₁ B hml hv
  obtain ⟨rfl, ⟨hsz, hP, hK, hD0⟩, hN⟩ := hv
  have hx := B.exec
  have hb := B.bytes
  have hr := B.returns
  have hts := atoms_spec (ws := wz yX12_doesSplit cX12_doesSplit 3 (some .boolean)) B.pre
  have ht : ∀ w ∈ lw_gd, w.before _ s₀ = true := fun w h => hts w (List.mem_cons_of_mem _ h)
  have hown : s₀.vm.findClass RX12 = some m.cls := findClass_of_methodNamed B.named
  have hlocks := B.notSynchronized
  subst hsz
  have hD := hD0.self (sz := s₀.heap.size)
  generalize hAe : va_A (RW D a s) s₀.heap.size = A at hD ⊢
  have hA : ∀ q : Nat, s₀.heap.size ≤ q → A q := fun q h => by rw [← hAe]; exact Or.inr h
  have hS : va_S A s₀.heap s₀.heap [] := va_S.rf
  have hDD : ∀ t : MS, va_D A (RW D a t) := fun t => RW_D t hD
  have hl := lv_entry ([.ref (a 200), .int p0]) (n := 3) (Nat.le_of_ble_eq_true rfl)
  rw [lg_entry_eq]
  generalize (lg_sl ([.ref (a 200), .int p0]) ++ List.replicate (3 - (lg_sl ([.ref (a 200), .int p0])).length) Slot.unset).toArray = ls at hl ⊢
  have hl : lv_has ls 3 [(0, .ref (a 200)), (1, .int p0)] := hl
  unfold m_x12_doesSplit at h
  refine y_head (pcJ := 60) (σ := Int32 × MS) (fun u H locs ls => va_P D vwCl (RW D a u.2) H ∧ va_S A s₀.heap H locs ∧ lv_has ls 3 [] ∧ m_x12_doesSplit_J60 u.1 u.2 = some o) (fun u => [.int u.1]) (fun u H locs ls hI => ?_) (fun J60 => ?_)
  · obtain ⟨hP, hS, hl, h⟩ := hI
    obtain ⟨x1, s2⟩ := u
    have hP : va_P D vwCl (RW D a s2) H := hP
    have hl : lv_has ls 3 [] := hl
    have h : m_x12_doesSplit_J60 x1 s2 = some o := h
    unfold m_x12_doesSplit_J60 at h
    obtain ⟨hb3, h⟩ := bo_e h
    obtain rfl := Option.some.inj h
    exact W.zret (v := x1) hx hb hr (bo_n hb3) (fun t ht hW => ⟨⟨_, (), rfl, rfl, by rw [ht]; exact hP, va_K.moved hW.alike hK, hDD _⟩, hS.F ht⟩) hS.2.2 dX12_doesSplit_60
  refine y_head (pcJ := 29) (σ := MS) (fun u H locs ls => va_P D vwCl (RW D a u) H ∧ va_S A s₀.heap H locs ∧ lv_has ls 3 [] ∧ m_x12_doesSplit_J29 u = some o) (fun u => []) (fun u H locs ls hI => ?_) (fun J29 => ?_)
  · obtain ⟨hP, hS, hl, h⟩ := hI
    obtain ⟨s4, rfl⟩ : ∃ z, z = u := ⟨u, rfl⟩
    have hP : va_P D vwCl (RW D a s4) H := hP
    have hl : lv_has ls 3 [] := hl
    have h : m_x12_doesSplit_J29 s4 = some o := h
    unfold m_x12_doesSplit_J29 at h
    refine lv_iconst (v := 0) hx hb dX12_doesSplit_29 (by decide) ?_
    obtain rfl := Option.some.inj h
    exact W.zret (v := 0) hx hb hr (by decide) (fun t ht hW => ⟨⟨_, (), rfl, rfl, by rw [ht]; exact hP, va_K.moved hW.alike hK, hDD _⟩, hS.F ht⟩) hS.2.2 dX12_doesSplit_30
  refine lv_aload_n hx hb dX12_doesSplit_0 rfl (lv_at hl 0 rfl) ?_
  refine lv_iload_n hx hb dX12_doesSplit_1 rfl (lv_at hl 1 rfl) ?_
  obtain ⟨r6, hc5, h⟩ := bn_e h
  refine ycV (As := [.int p0]) (rest := []) (C := RX12) (n := 1) ⟨hx, hb, hml, hown, ht⟩ (k_x12_entriesOf l D a p0 _ _ hc5) (zgV ml_X12_466 im_X12_entriesOf se_X12_entriesOf in_X12 co_X12_entriesOf) rfl rfl (by decide +kernel) ⟨Nat.le_of_ble_eq_true rfl, Nat.le_of_ble_eq_true rfl⟩ hN hK hP hS 0 RW_0 rfl rfl rfl hl.1 rfl (Nat.le_of_ble_eq_true rfl) dX12_doesSplit_2 ⟨Nat.le_of_ble_eq_true rfl, Nat.le_of_ble_eq_true rfl⟩ (fun H locs hP hS => ?_)
  refine lv_istore_n (lv' := [(2, .int r6), (0, .ref (a 200)), (1, .int p0)]) hx hb dX12_doesSplit_5 rfl hl (by decide) rfl (fun ls hl => ?_)
  refine lv_iload_n hx hb dX12_doesSplit_6 rfl (lv_at hl 0 rfl) ?_
  refine lv_aload_n hx hb dX12_doesSplit_7 rfl (lv_at hl 1 rfl) ?_
  obtain ⟨r8, hc7, h⟩ := bn_e h
  refine ycV (As := []) (rest := [.int r6]) (C := RX12) (n := 0) ⟨hx, hb, hml, hown, ht⟩ (k_x12_roomOf l D a _ _ hc7) (zgV ml_X12_523 im_X12_roomOf se_X12_roomOf in_X12 co_X12_roomOf) rfl rfl (by decide +kernel) ⟨Nat.le_of_ble_eq_true rfl, Nat.le_of_ble_eq_true rfl⟩ hN hK hP hS 0 RW_0 rfl rfl rfl hl.1 rfl (Nat.le_of_ble_eq_true rfl) dX12_doesSplit_8 ⟨Nat.le_of_ble_eq_true rfl, Nat.le_of_ble_eq_true rfl⟩ (fun H locs hP hS => ?_)
  refine lv_icmp_lt (tgt := 16) hx hb dX12_doesSplit_11 (by decide) (fun c9 => ?_) (fun c9 => ?_)
  · have h := if_t c9 h
    refine lv_iload_n hx hb dX12_doesSplit_16 rfl (lv_at hl 0 rfl) ?_
    refine lv_iconst (v := 2) hx hb dX12_doesSplit_17 (by decide) ?_
    refine lv_icmp_lt (tgt := 29) hx hb dX12_doesSplit_18 (by decide) (fun c10 => ?_) (fun c10 => ?_)
    · have h := if_t c10 h
      exact J29 s _ _ _ ⟨hP, hS, lv_sub hl [] rfl, h⟩
    · have h := if_f c10 h
      refine lv_aload_n hx hb dX12_doesSplit_21 rfl (lv_at hl 1 rfl) ?_
      refine lv_iconst (v := 1) hx hb dX12_doesSplit_22 (by decide) ?_
      obtain ⟨r12, hc11, h⟩ := bn_e h
      refine ycV (As := [.int 1]) (rest := []) (C := RX12) (n := 1) ⟨hx, hb, hml, hown, ht⟩ (k_x12_isCoded l D a 1 _ _ hc11) (zgV ml_X12_472 im_X12_isCoded se_X12_isCoded in_X12 co_X12_isCoded) rfl rfl (by decide +kernel) ⟨Nat.le_of_ble_eq_true rfl, Nat.le_of_ble_eq_true rfl⟩ hN hK hP hS 0 RW_0 rfl rfl rfl hl.1 rfl (Nat.le_of_ble_eq_true rfl) dX12_doesSplit_23 ⟨Nat.le_of_ble_eq_true rfl, Nat.le_of_ble_eq_true rfl⟩ (fun H locs hP hS => ?_)
      refine lv_if_ne (tgt := 31) hx hb dX12_doesSplit_26 (by decide) (fun c13 => ?_) (fun c13 => ?_)
      · have h := if_f c13 h
        refine lv_aload_n hx hb dX12_doesSplit_31 rfl (lv_at hl 1 rfl) ?_
        refine lv_aload_n hx hb dX12_doesSplit_32 rfl (lv_at hl 1 rfl) ?_
        refine lv_iload_n hx hb dX12_doesSplit_33 rfl (lv_at hl 2 rfl) ?_
        obtain ⟨r15, hc14, h⟩ := bn_e h
        refine ycV (As := [.int p0]) (rest := [.ref (a 200)]) (C := RX12) (n := 1) ⟨hx, hb, hml, hown, ht⟩ (k_x12_levelOf l D a p0 _ _ hc14) (zgV ml_X12_460 im_X12_levelOf se_X12_levelOf in_X12 co_X12_levelOf) rfl rfl (by decide +kernel) ⟨Nat.le_of_ble_eq_true rfl, Nat.le_of_ble_eq_true rfl⟩ hN hK hP hS 0 RW_0 rfl rfl rfl hl.1 rfl (Nat.le_of_ble_eq_true rfl) dX12_doesSplit_34 ⟨Nat.le_of_ble_eq_true rfl, Nat.le_of_ble_eq_true rfl⟩ (fun H locs hP hS => ?_)
        refine ya_put (D := D) (ci := 12) (v := .int r15) (ty := .int) (C := RX12) (T := TX12) (N := 116) hx hb ht inX12 tyX12 tyX12_ok nmX12 hown hK hP (hDD _) hS 0 RW_0 rfl 52 (by decide) (ht (.fieldLink RX12 463 "CloneVolumesModel" "askLevel" "I") fl_X12_463) (fun _ h9 => h9) rfl (by decide +kernel) rfl rfl (by rw [mF_len]; decide) dX12_doesSplit_37 (RW_f52 _) (fun H locs hP hS => ?_)
        obtain ⟨s16, hs16, h⟩ := st_e h
        rw [hs16] at hP
        refine lv_aload_n hx hb dX12_doesSplit_40 rfl (lv_at hl 1 rfl) ?_
        refine lv_iload_n hx hb dX12_doesSplit_41 rfl (lv_at hl 0 rfl) ?_
        refine ya_put (D := D) (ci := 12) (v := .int r6) (ty := .int) (C := RX12) (T := TX12) (N := 116) hx hb ht inX12 tyX12 tyX12_ok nmX12 hown hK hP (hDD _) hS 0 RW_0 rfl 53 (by decide) (ht (.fieldLink RX12 469 "CloneVolumesModel" "askEntries" "I") fl_X12_469) (fun _ h9 => h9) rfl (by decide +kernel) rfl rfl (by rw [mF_len]; decide) dX12_doesSplit_42 (RW_f53 _) (fun H locs hP hS => ?_)
        obtain ⟨s17, hs17, h⟩ := st_e h
        rw [hs17] at hP
        refine lv_aload_n hx hb dX12_doesSplit_45 rfl (lv_at hl 1 rfl) ?_
        refine lv_iconst (v := 1) hx hb dX12_doesSplit_46 (by decide) ?_
        obtain ⟨⟨rl20, s19⟩, hc18, h⟩ := bn_e h
        refine ywVl (r0 := rl20) (As := [.int 1]) (rest := []) (C := RX12) (n := 1) (ws' := RW D a s19) ⟨hx, hb, hml, hown, ht⟩ (k_x12_codesTell l D a 1 _ _ _ hc18) (zgV ml_X12_475 im_X12_codesTell se_X12_codesTell in_X12 co_X12_codesTell) rfl rfl (by decide +kernel) ⟨Nat.le_of_ble_eq_true rfl, Nat.le_of_ble_eq_true rfl⟩ hN hK hP (hDD _) hS hA 0 RW_0 rfl rfl rfl hl.1 rfl (Nat.le_of_ble_eq_true rfl) dX12_doesSplit_47 ⟨Nat.le_of_ble_eq_true rfl, Nat.le_of_ble_eq_true rfl⟩ (fun H locs hP hS => ?_)
        refine lv_lconst (v := 1) hx hb dX12_doesSplit_50 (by decide) ?_
        refine W.lcmp hx hb dX12_doesSplit_51 ?_
        refine lv_if_ne (tgt := 59) hx hb dX12_doesSplit_52 (by decide) (fun c21 => ?_) (fun c21 => ?_)
        · have h := if_f c21 h
          refine lv_iconst (v := 0) hx hb dX12_doesSplit_59 (by decide) ?_
          exact J60 (0, s19) _ _ _ ⟨hP, hS, lv_sub hl [] rfl, h⟩
        · have h := if_t c21 h
          refine lv_iconst (v := 1) hx hb dX12_doesSplit_55 (by decide) ?_
          refine lv_goto (tgt := 60) hx hb dX12_doesSplit_56 (by decide) ?_
          exact J60 (1, s19) _ _ _ ⟨hP, hS, lv_sub hl [] rfl, h⟩
      · have h := if_t c13 h
        exact J29 s _ _ _ ⟨hP, hS, lv_sub hl [] rfl, h⟩
  · have h := if_f c9 h
    refine lv_iconst (v := 1) hx hb dX12_doesSplit_14 (by decide) ?_
    obtain rfl := Option.some.inj h
    exact W.zret (v := 1) hx hb hr (by decide) (fun t ht hW => ⟨⟨_, (), rfl, rfl, by rw [ht]; exact hP, va_K.moved hW.alike hK, hDD _⟩, hS.F ht⟩) hS.2.2 dX12_doesSplit_15
def m_x12_half_J142 (x1 : Int32) (s2 : MS) : Option (Int32 × MS) :=
  some (x1, s2)
def m_x12_half_b43 (lr43 : Int32 → Int32 → Int32 → Int32 → Int32 → Int32 → Int32 → Int32 → MS → Option (Int32 × MS)) (x3 : Int32) (x4 : Int32) (x5 : Int32) (x6 : Int32) (x7 : Int32) (x8 : Int32) (x9 : Int32) (x10 : Int32) (s11 : MS) : Option (Int32 × MS) :=
  if x8 ≤ x10 then inb 906 ((17 + (16 * x5)) + 3) (stn (sA s11 49 (upd (gA s11 49) (Int32.toNatClampNeg ((17 + (16 * x5)) + 3)) x9)) (fun s14 => inb 48 x5 (stn (sA s14 54 (upd (gA s14 54) (Int32.toNatClampNeg x5) (vp_nar .boolean 1))) (fun s16 => bn (m_x12_keyAt x7 0 s16) (fun r18 => bn (m_x12_inserts x3 (x4 + 1) r18 x7 s16) (fun s20 => bn (m_x12_keyAt x7 0 s20) (fun r22 => if x6 < r22 then m_x12_half_J142 x5 s20 else m_x12_half_J142 x7 s20))))))) else bn (m_x12_keyAt x5 (x9 + x10) s11) (fun r25 => bn (m_x12_valueAt x5 (x9 + x10) s11) (fun r27 => bn (m_x12_inserts x7 x10 r25 r27 s11) (fun s29 => lr43 x3 x4 x5 x6 x7 x8 x9 (x10 + 1) s29)))
def m_x12_half_L43 (n : Nat) : Int32 → Int32 → Int32 → Int32 → Int32 → Int32 → Int32 → Int32 → MS → Option (Int32 × MS) := lp (fun _ _ _ _ _ _ _ _ _ => none) (m_x12_half_b43) n
def m_x12_half (p0 : Int32) (p1 : Int32) (p2 : Int32) (p3 : Int32) (s : MS) : Option (Int32 × MS) :=
  bn (m_x12_levelOf p2 s) (fun r31 => bn (m_x12_taken r31 p2 s) (fun qr34 => if (gI qr34.2 55) = 0 then bn (m_x12_entriesOf p2 qr34.2) (fun r37 => bn (m_x12_entriesOf p2 qr34.2) (fun r39 => m_x12_half_L43 FU p0 p1 p2 p3 qr34.1 (r37 / 2) (r39 - (r37 / 2)) 0 qr34.2)) else some (p2, qr34.2)))
set_option maxHeartbeats 4000000 in
set_option maxRecDepth 100000 in
theorem k_x12_half (l : Launch) (D : va_G) (a : Nat → Nat) (p0 : Int32) (p1 : Int32) (p2 : Int32) (p3 : Int32) (sz : Nat) (s : MS) (o : (Int32 × MS)) (h : m_x12_half p0 p1 p2 p3 s = some o) : yWi l yX12_half cX12_half 9 (some .int) { frames := 6, cells := 0, slots := 0, locals := 360 } D sz [.ref (a 200), .int p0, .int p1, .int p2, .int p3] (RW D a s) (RW D a o.2) o.1 := by
  refine Met.ofW (cc := cX12_half) (maxL := 9) (ret := (some .int)) (by decide) rfl ?_
  intro p e s₀ m args below meth c s₁ B hml hv
  obtain ⟨rfl, ⟨hsz, hP, hK, hD0⟩, hN⟩ := hv
  have hx := B.exec
  have hb := B.bytes
  have hr := B.returns
  have hts := atoms_spec (ws := wz yX12_half cX12_half 9 (some .int)) B.pre
  have ht : ∀ w ∈ lw_gd, w.before _ s₀ = true := fun w h => hts w (List.mem_cons_of_mem _ h)
  have hown : s₀.vm.findClass RX12 = some m.cls := findClass_of_methodNamed B.named
  have hlocks := B.notSynchronized
  subst hsz
  have hD := hD0.self (sz := s₀.heap.size)
  generalize hAe : va_A (RW D a s) s₀.heap.size = A at hD ⊢
  have hA : ∀ q : Nat, s₀.heap.size ≤ q → A q := fun q h => by rw [← hAe]; exact Or.inr h
  have hS : va_S A s₀.heap s₀.heap [] := va_S.rf
  have hDD : ∀ t : MS, va_D A (RW D a t) := fun t => RW_D t hD
  have hl := lv_entry ([.ref (a 200), .int p0, .int p1, .int p2, .int p3]) (n := 9) (Nat.le_of_ble_eq_true rfl)
  rw [lg_entry_eq]
  generalize (lg_sl ([.ref (a 200), .int p0, .int p1, .int p2, .int p3]) ++ List.replicate (9 - (lg_sl ([.ref (a 200), .int p0, .int p1, .int p2, .int p3])).length) Slot.unset).toArray = ls at hl ⊢
  have hl : lv_has ls 9 [(0, .ref (a 200)), (1, .int p0), (2, .int p1), (3, .int p2), (4, .int p3)] := hl
  unfold m_x12_half at h
  refine y_head (pcJ := 142) (σ := Int32 × MS) (fun u H locs ls => va_P D vwCl (RW D a u.2) H ∧ va_S A s₀.heap H locs ∧ lv_has ls 9 [] ∧ m_x12_half_J142 u.1 u.2 = some o) (fun u => [.int u.1]) (fun u H locs ls hI => ?_) (fun J142 => ?_)
  · obtain ⟨hP, hS, hl, h⟩ := hI
    obtain ⟨x1, s2⟩ := u
    have hP : va_P D vwCl (RW D a s2) H := hP
    have hl : lv_has ls 9 [] := hl
    have h : m_x12_half_J142 x1 s2 = some o := h
    unfold m_x12_half_J142 at h
    obtain rfl := Option.some.inj h
    exact W.iret (v := x1) hx hb hr (fun t ht hW => ⟨⟨_, (), rfl, rfl, by rw [ht]; exact hP, va_K.moved hW.alike hK, hDD _⟩, hS.F ht⟩) hS.2.2 dX12_half_142
  refine y_loop (pcJ := 43) (σ := Int32 × Int32 × Int32 × Int32 × Int32 × Int32 × Int32 × Int32 × MS) (fun n u H locs ls => va_P D vwCl (RW D a u.2.2.2.2.2.2.2.2) H ∧ va_S A s₀.heap H locs ∧ lv_has ls 9 [(0, .ref (a 200)), (1, .int u.1), (2, .int u.2.1), (3, .int u.2.2.1), (4, .int u.2.2.2.1), (5, .int u.2.2.2.2.1), (6, .int u.2.2.2.2.2.1), (7, .int u.2.2.2.2.2.2.1), (8, .int u.2.2.2.2.2.2.2.1)] ∧ m_x12_half_L43 n u.1 u.2.1 u.2.2.1 u.2.2.2.1 u.2.2.2.2.1 u.2.2.2.2.2.1 u.2.2.2.2.2.2.1 u.2.2.2.2.2.2.2.1 u.2.2.2.2.2.2.2.2 = some o) (fun u => []) (fun u H locs ls hI => by obtain ⟨_, _, _, h⟩ := hI; cases h) (fun n43 ih43 u H locs ls hI => ?_) (fun J43 => ?_)
  · obtain ⟨hP, hS, hl, h⟩ := hI
    obtain ⟨x3, x4, x5, x6, x7, x8, x9, x10, s11⟩ := u
    have hP : va_P D vwCl (RW D a s11) H := hP
    have hl : lv_has ls 9 [(0, .ref (a 200)), (1, .int x3), (2, .int x4), (3, .int x5), (4, .int x6), (5, .int x7), (6, .int x8), (7, .int x9), (8, .int x10)] := hl
    have h : m_x12_half_b43 (m_x12_half_L43 n43) x3 x4 x5 x6 x7 x8 x9 x10 s11 = some o := h
    unfold m_x12_half_b43 at h
    refine lv_iload hx hb dX12_half_43 (lv_at hl 8 rfl) ?_
    refine lv_iload hx hb dX12_half_45 (lv_at hl 6 rfl) ?_
    refine lv_icmp_ge (tgt := 84) hx hb dX12_half_47 (by decide) (fun c12 => ?_) (fun c12 => ?_)
    · have h := if_t c12 h
      refine lv_aload_n hx hb dX12_half_84 rfl (lv_at hl 0 rfl) ?_
      refine va_get (D := D) (ci := 12) (v := .ref (a 49)) (C := RX12) (T := TX12) (N := 116) hx hb ht inX12 hown hK hP 0 RW_0 rfl 49 (by decide) (ht (.fieldLink RX12 121 "CloneVolumesModel" "now" "[I") fl_X12_121) (fun _ h9 => h9) mF_49 dX12_half_85 ?_
      refine lv_bipush (v := 17) hx hb dX12_half_88 (by decide) ?_
      refine lv_bipush (v := 16) hx hb dX12_half_90 (by decide) ?_
      refine lv_iload_n hx hb dX12_half_92 rfl (lv_at hl 3 rfl) ?_
      refine lv_imul hx hb dX12_half_93 ?_
      refine lv_iadd hx hb dX12_half_94 ?_
      refine lv_iconst (v := 3) hx hb dX12_half_95 (by decide) ?_
      refine lv_iadd hx hb dX12_half_96 ?_
      refine lv_iload hx hb dX12_half_97 (lv_at hl 7 rfl) ?_
      obtain ⟨hi13, h⟩ := inb_e h
      refine ya_iast hx hb hK hP (hDD _) hS 36 0 RW_36 rfl hi13 dX12_half_99 (RW_w36 _) (fun H locs hP hS => ?_)
      obtain ⟨s14, hs14, h⟩ := st_e h
      rw [hs14] at hP
      refine lv_aload_n hx hb dX12_half_100 rfl (lv_at hl 0 rfl) ?_
      refine va_get (D := D) (ci := 12) (v := .ref (a 54)) (C := RX12) (T := TX12) (N := 116) hx hb ht inX12 hown hK hP 0 RW_0 rfl 54 (by decide) (ht (.fieldLink RX12 124 "CloneVolumesModel" "isTouched" "[Z") fl_X12_124) (fun _ h9 => h9) mF_54 dX12_half_101 ?_
      refine lv_iload_n hx hb dX12_half_104 rfl (lv_at hl 3 rfl) ?_
      refine lv_iconst (v := 1) hx hb dX12_half_105 (by decide) ?_
      obtain ⟨hi15, h⟩ := inb_e h
      refine ya_zast hx hb hK hP (hDD _) hS 37 3 RW_37 rfl hi15 dX12_half_106 (RW_w37 _) (fun H locs hP hS => ?_)
      obtain ⟨s16, hs16, h⟩ := st_e h
      rw [hs16] at hP
      refine lv_aload_n hx hb dX12_half_107 rfl (lv_at hl 0 rfl) ?_
      refine lv_iload_n hx hb dX12_half_108 rfl (lv_at hl 1 rfl) ?_
      refine lv_iload_n hx hb dX12_half_109 rfl (lv_at hl 2 rfl) ?_
      refine lv_iconst (v := 1) hx hb dX12_half_110 (by decide) ?_
      refine lv_iadd hx hb dX12_half_111 ?_
      refine lv_aload_n hx hb dX12_half_112 rfl (lv_at hl 0 rfl) ?_
      refine lv_iload hx hb dX12_half_113 (lv_at hl 5 rfl) ?_
      refine lv_iconst (v := 0) hx hb dX12_half_115 (by decide) ?_
      obtain ⟨r18, hc17, h⟩ := bn_e h
      refine ycV (As := [.int x7, .int 0]) (rest := [.int (x4 + 1), .int x3, .ref (a 200)]) (C := RX12) (n := 2) ⟨hx, hb, hml, hown, ht⟩ (k_x12_keyAt l D a x7 0 _ _ hc17) (zgV ml_X12_517 im_X12_keyAt se_X12_keyAt in_X12 co_X12_keyAt) rfl rfl (by decide +kernel) ⟨Nat.le_of_ble_eq_true rfl, Nat.le_of_ble_eq_true rfl⟩ hN hK hP hS 0 RW_0 rfl rfl rfl hl.1 rfl (Nat.le_of_ble_eq_true rfl) dX12_half_116 ⟨Nat.le_of_ble_eq_true rfl, Nat.le_of_ble_eq_true rfl⟩ (fun H locs hP hS => ?_)
      refine lv_iload hx hb dX12_half_119 (lv_at hl 5 rfl) ?_
      obtain ⟨s20, hc19, h⟩ := bn_e h
      refine ywVv (As := [.int x3, .int (x4 + 1), .int r18, .int x7]) (rest := []) (C := RX12) (n := 4) (ws' := RW D a s20) ⟨hx, hb, hml, hown, ht⟩ (k_x12_inserts l D a x3 (x4 + 1) r18 x7 _ _ _ hc19) (zgV ml_X12_526 im_X12_inserts se_X12_inserts in_X12 co_X12_inserts) rfl rfl (by decide +kernel) ⟨Nat.le_of_ble_eq_true rfl, Nat.le_of_ble_eq_true rfl⟩ hN hK hP (hDD _) hS hA 0 RW_0 rfl rfl rfl hl.1 rfl (Nat.le_of_ble_eq_true rfl) dX12_half_121 ⟨Nat.le_of_ble_eq_true rfl, Nat.le_of_ble_eq_true rfl⟩ (fun H locs hP hS => ?_)
      refine lv_aload_n hx hb dX12_half_124 rfl (lv_at hl 0 rfl) ?_
      refine lv_iload hx hb dX12_half_125 (lv_at hl 5 rfl) ?_
      refine lv_iconst (v := 0) hx hb dX12_half_127 (by decide) ?_
      obtain ⟨r22, hc21, h⟩ := bn_e h
      refine ycV (As := [.int x7, .int 0]) (rest := []) (C := RX12) (n := 2) ⟨hx, hb, hml, hown, ht⟩ (k_x12_keyAt l D a x7 0 _ _ hc21) (zgV ml_X12_517 im_X12_keyAt se_X12_keyAt in_X12 co_X12_keyAt) rfl rfl (by decide +kernel) ⟨Nat.le_of_ble_eq_true rfl, Nat.le_of_ble_eq_true rfl⟩ hN hK hP hS 0 RW_0 rfl rfl rfl hl.1 rfl (Nat.le_of_ble_eq_true rfl) dX12_half_128 ⟨Nat.le_of_ble_eq_true rfl, Nat.le_of_ble_eq_true rfl⟩ (fun H locs hP hS => ?_)
      refine lv_iload hx hb dX12_half_131 (lv_at hl 4 rfl) ?_
      refine lv_icmp_gt (tgt := 141) hx hb dX12_half_133 (by decide) (fun c23 => ?_) (fun c23 => ?_)
      · have h := if_t c23 h
        refine lv_iload_n hx hb dX12_half_141 rfl (lv_at hl 3 rfl) ?_
        exact J142 (x5, s20) _ _ _ ⟨hP, hS, lv_sub hl [] rfl, h⟩
      · have h := if_f c23 h
        refine lv_iload hx hb dX12_half_136 (lv_at hl 5 rfl) ?_
        refine lv_goto (tgt := 142) hx hb dX12_half_138 (by decide) ?_
        exact J142 (x7, s20) _ _ _ ⟨hP, hS, lv_sub hl [] rfl, h⟩
    · have h := if_f c12 h
      refine lv_aload_n hx hb dX12_half_50 rfl (lv_at hl 0 rfl) ?_
      refine lv_iload hx hb dX12_half_51 (lv_at hl 5 rfl) ?_
      refine lv_iload hx hb dX12_half_53 (lv_at hl 8 rfl) ?_
      refine lv_aload_n hx hb dX12_half_55 rfl (lv_at hl 0 rfl) ?_
      refine lv_iload_n hx hb dX12_half_56 rfl (lv_at hl 3 rfl) ?_
      refine lv_iload hx hb dX12_half_57 (lv_at hl 7 rfl) ?_
      refine lv_iload hx hb dX12_half_59 (lv_at hl 8 rfl) ?_
      refine lv_iadd hx hb dX12_half_61 ?_
      obtain ⟨r25, hc24, h⟩ := bn_e h
      refine ycV (As := [.int x5, .int (x9 + x10)]) (rest := [.int x10, .int x7, .ref (a 200)]) (C := RX12) (n := 2) ⟨hx, hb, hml, hown, ht⟩ (k_x12_keyAt l D a x5 (x9 + x10) _ _ hc24) (zgV ml_X12_517 im_X12_keyAt se_X12_keyAt in_X12 co_X12_keyAt) rfl rfl (by decide +kernel) ⟨Nat.le_of_ble_eq_true rfl, Nat.le_of_ble_eq_true rfl⟩ hN hK hP hS 0 RW_0 rfl rfl rfl hl.1 rfl (Nat.le_of_ble_eq_true rfl) dX12_half_62 ⟨Nat.le_of_ble_eq_true rfl, Nat.le_of_ble_eq_true rfl⟩ (fun H locs hP hS => ?_)
      refine lv_aload_n hx hb dX12_half_65 rfl (lv_at hl 0 rfl) ?_
      refine lv_iload_n hx hb dX12_half_66 rfl (lv_at hl 3 rfl) ?_
      refine lv_iload hx hb dX12_half_67 (lv_at hl 7 rfl) ?_
      refine lv_iload hx hb dX12_half_69 (lv_at hl 8 rfl) ?_
      refine lv_iadd hx hb dX12_half_71 ?_
      obtain ⟨r27, hc26, h⟩ := bn_e h
      refine ycV (As := [.int x5, .int (x9 + x10)]) (rest := [.int r25, .int x10, .int x7, .ref (a 200)]) (C := RX12) (n := 2) ⟨hx, hb, hml, hown, ht⟩ (k_x12_valueAt l D a x5 (x9 + x10) _ _ hc26) (zgV ml_X12_505 im_X12_valueAt se_X12_valueAt in_X12 co_X12_valueAt) rfl rfl (by decide +kernel) ⟨Nat.le_of_ble_eq_true rfl, Nat.le_of_ble_eq_true rfl⟩ hN hK hP hS 0 RW_0 rfl rfl rfl hl.1 rfl (Nat.le_of_ble_eq_true rfl) dX12_half_72 ⟨Nat.le_of_ble_eq_true rfl, Nat.le_of_ble_eq_true rfl⟩ (fun H locs hP hS => ?_)
      obtain ⟨s29, hc28, h⟩ := bn_e h
      refine ywVv (As := [.int x7, .int x10, .int r25, .int r27]) (rest := []) (C := RX12) (n := 4) (ws' := RW D a s29) ⟨hx, hb, hml, hown, ht⟩ (k_x12_inserts l D a x7 x10 r25 r27 _ _ _ hc28) (zgV ml_X12_526 im_X12_inserts se_X12_inserts in_X12 co_X12_inserts) rfl rfl (by decide +kernel) ⟨Nat.le_of_ble_eq_true rfl, Nat.le_of_ble_eq_true rfl⟩ hN hK hP (hDD _) hS hA 0 RW_0 rfl rfl rfl hl.1 rfl (Nat.le_of_ble_eq_true rfl) dX12_half_75 ⟨Nat.le_of_ble_eq_true rfl, Nat.le_of_ble_eq_true rfl⟩ (fun H locs hP hS => ?_)
      refine lv_iinc (v := x10 + 1) (lv' := [(8, .int (x10 + 1)), (0, .ref (a 200)), (1, .int x3), (2, .int x4), (3, .int x5), (4, .int x6), (5, .int x7), (6, .int x8), (7, .int x9)]) hx hb dX12_half_78 hl (k := 8) rfl rfl (by decide) rfl (fun ls hl => ?_)
      refine lv_goto (tgt := 43) hx hb dX12_half_81 (by decide) ?_
      exact ih43 (x3, x4, x5, x6, x7, x8, x9, x10 + 1, s29) _ _ _ ⟨hP, hS, lv_sub hl [1, 2, 3, 4, 5, 6, 7, 8, 0] rfl, h⟩
  refine lv_aload_n hx hb dX12_half_0 rfl (lv_at hl 0 rfl) ?_
  refine lv_aload_n hx hb dX12_half_1 rfl (lv_at hl 0 rfl) ?_
  refine lv_iload_n hx hb dX12_half_2 rfl (lv_at hl 3 rfl) ?_
  obtain ⟨r31, hc30, h⟩ := bn_e h
  refine ycV (As := [.int p2]) (rest := [.ref (a 200)]) (C := RX12) (n := 1) ⟨hx, hb, hml, hown, ht⟩ (k_x12_levelOf l D a p2 _ _ hc30) (zgV ml_X12_460 im_X12_levelOf se_X12_levelOf in_X12 co_X12_levelOf) rfl rfl (by decide +kernel) ⟨Nat.le_of_ble_eq_true rfl, Nat.le_of_ble_eq_true rfl⟩ hN hK hP hS 0 RW_0 rfl rfl rfl hl.1 rfl (Nat.le_of_ble_eq_true rfl) dX12_half_3 ⟨Nat.le_of_ble_eq_true rfl, Nat.le_of_ble_eq_true rfl⟩ (fun H locs hP hS => ?_)
  refine lv_iload_n hx hb dX12_half_6 rfl (lv_at hl 3 rfl) ?_
  obtain ⟨⟨r34, s33⟩, hc32, h⟩ := bn_e h
  refine ywV (r0 := r34) (As := [.int r31, .int p2]) (rest := []) (C := RX12) (n := 2) (ws' := RW D a s33) ⟨hx, hb, hml, hown, ht⟩ (k_x12_taken l D a r31 p2 _ _ _ hc32) (zgV ml_X12_511 im_X12_taken se_X12_taken in_X12 co_X12_taken) rfl rfl (by decide +kernel) ⟨Nat.le_of_ble_eq_true rfl, Nat.le_of_ble_eq_true rfl⟩ hN hK hP (hDD _) hS hA 0 RW_0 rfl rfl rfl hl.1 rfl (Nat.le_of_ble_eq_true rfl) dX12_half_7 ⟨Nat.le_of_ble_eq_true rfl, Nat.le_of_ble_eq_true rfl⟩ (fun H locs hP hS => ?_)
  refine lv_istore (lv' := [(5, .int r34), (0, .ref (a 200)), (1, .int p0), (2, .int p1), (3, .int p2), (4, .int p3)]) hx hb dX12_half_10 hl (by decide) rfl (fun ls hl => ?_)
  refine lv_aload_n hx hb dX12_half_12 rfl (lv_at hl 1 rfl) ?_
  refine va_get (D := D) (ci := 12) (v := .int (gI s33 55)) (C := RX12) (T := TX12) (N := 116) hx hb ht inX12 hown hK hP 0 RW_0 rfl 55 (by decide) (ht (.fieldLink RX12 493 "CloneVolumesModel" "isFull" "Z") fl_X12_493) (fun _ h9 => h9) mF_55 dX12_half_13 ?_
  refine lv_if_eq (tgt := 21) hx hb dX12_half_16 (by decide) (fun c35 => ?_) (fun c35 => ?_)
  · have h := if_t c35 h
    refine lv_aload_n hx hb dX12_half_21 rfl (lv_at hl 1 rfl) ?_
    refine lv_iload_n hx hb dX12_half_22 rfl (lv_at hl 4 rfl) ?_
    obtain ⟨r37, hc36, h⟩ := bn_e h
    refine ycV (As := [.int p2]) (rest := []) (C := RX12) (n := 1) ⟨hx, hb, hml, hown, ht⟩ (k_x12_entriesOf l D a p2 _ _ hc36) (zgV ml_X12_466 im_X12_entriesOf se_X12_entriesOf in_X12 co_X12_entriesOf) rfl rfl (by decide +kernel) ⟨Nat.le_of_ble_eq_true rfl, Nat.le_of_ble_eq_true rfl⟩ hN hK hP hS 0 RW_0 rfl rfl rfl hl.1 rfl (Nat.le_of_ble_eq_true rfl) dX12_half_23 ⟨Nat.le_of_ble_eq_true rfl, Nat.le_of_ble_eq_true rfl⟩ (fun H locs hP hS => ?_)
    refine lv_iconst (v := 2) hx hb dX12_half_26 (by decide) ?_
    refine lv_idiv hx hb dX12_half_27 (by decide) ?_
    refine lv_istore (lv' := [(6, .int (r37 / 2)), (5, .int r34), (0, .ref (a 200)), (1, .int p0), (2, .int p1), (3, .int p2), (4, .int p3)]) hx hb dX12_half_28 hl (by decide) rfl (fun ls hl => ?_)
    refine lv_aload_n hx hb dX12_half_30 rfl (lv_at hl 2 rfl) ?_
    refine lv_iload_n hx hb dX12_half_31 rfl (lv_at hl 5 rfl) ?_
    obtain ⟨r39, hc38, h⟩ := bn_e h
    refine ycV (As := [.int p2]) (rest := []) (C := RX12) (n := 1) ⟨hx, hb, hml, hown, ht⟩ (k_x12_entriesOf l D a p2 _ _ hc38) (zgV ml_X12_466 im_X12_entriesOf se_X12_entriesOf in_X12 co_X12_entriesOf) rfl rfl (by decide +kernel) ⟨Nat.le_of_ble_eq_true rfl, Nat.le_of_ble_eq_true rfl⟩ hN hK hP hS 0 RW_0 rfl rfl rfl hl.1 rfl (Nat.le_of_ble_eq_true rfl) dX12_half_32 ⟨Nat.le_of_ble_eq_true rfl, Nat.le_of_ble_eq_true rfl⟩ (fun H locs hP hS => ?_)
    refine lv_iload hx hb dX12_half_35 (lv_at hl 0 rfl) ?_
    refine lv_isub hx hb dX12_half_37 ?_
    refine lv_istore (lv' := [(7, .int (r39 - (r37 / 2))), (6, .int (r37 / 2)), (5, .int r34), (0, .ref (a 200)), (1, .int p0), (2, .int p1), (3, .int p2), (4, .int p3)]) hx hb dX12_half_38 hl (by decide) rfl (fun ls hl => ?_)
    refine lv_iconst (v := 0) hx hb dX12_half_40 (by decide) ?_
    refine lv_istore (lv' := [(8, .int 0), (7, .int (r39 - (r37 / 2))), (6, .int (r37 / 2)), (5, .int r34), (0, .ref (a 200)), (1, .int p0), (2, .int p1), (3, .int p2), (4, .int p3)]) hx hb dX12_half_41 hl (by decide) rfl (fun ls hl => ?_)
    exact J43 FU (p0, p1, p2, p3, r34, r37 / 2, r39 - (r37 / 2), 0, s33) _ _ _ ⟨hP, hS, lv_sub hl [4, 5, 6, 7, 8, 3, 2, 1, 0] rfl, h⟩
  · have h := if_f c35 h
    refine lv_iload_n hx hb dX12_half_19 rfl (lv_at hl 4 rfl) ?_
    obtain rfl := Option.some.inj h
    exact W.iret (v := p2) hx hb hr (fun t ht hW => ⟨⟨_, (), rfl, rfl, by rw [ht]; exact hP, va_K.moved hW.alike hK, hDD _⟩, hS.F ht⟩) hS.2.2 dX12_half_20
def m_x12_rootSplit (p0 : Int32) (p1 : Int32) (p2 : Int32) (s : MS) : Option (Int32 × MS) :=
  bn (m_x12_levelOf p1 s) (fun r2 => bn (m_x12_taken (r2 + 1) 48 s) (fun qr5 => if (gI qr5.2 55) = 0 then bn (m_x12_keyAt p1 0 qr5.2) (fun r8 => bn (m_x12_inserts qr5.1 0 r8 p1 qr5.2) (fun s10 => inb 906 p0 (stn (sA s10 49 (upd (gA s10 49) (Int32.toNatClampNeg p0) qr5.1)) (fun s12 => bn (m_x12_half qr5.1 0 p1 p2 s12) (fun qr15 => some (qr15.1, qr15.2)))))) else some (p1, qr5.2)))
set_option maxHeartbeats 4000000 in
set_option maxRecDepth 100000 in
theorem k_x12_rootSplit (l : Launch) (D : va_G) (a : Nat → Nat) (p0 : Int32) (p1 : Int32) (p2 : Int32) (sz : Nat) (s : MS) (o : (Int32 × MS)) (h : m_x12_rootSplit p0 p1 p2 s = some o) : yWi l yX12_rootSplit cX12_rootSplit 5 (some .int) { frames := 7, cells := 0, slots := 0, locals := 420 } D sz [.ref (a 200), .int p0, .int p1, .int p2] (RW D a s) (RW D a o.2) o.1 := by
  refine Met.ofW (cc := cX12_rootSplit) (maxL := 5) (ret := (some .int)) (by decide) rfl ?_
  intro p e s₀ m args below meth c s₁ B hml hv
  obtain ⟨rfl, ⟨hsz, hP, hK, hD0⟩, hN⟩ := hv
  have hx := B.exec
  have hb := B.bytes
  have hr := B.returns
  have hts := atoms_spec (ws := wz yX12_rootSplit cX12_rootSplit 5 (some .int)) B.pre
  have ht : ∀ w ∈ lw_gd, w.before _ s₀ = true := fun w h => hts w (List.mem_cons_of_mem _ h)
  have hown : s₀.vm.findClass RX12 = some m.cls := findClass_of_methodNamed B.named
  have hlocks := B.notSynchronized
  subst hsz
  have hD := hD0.self (sz := s₀.heap.size)
  generalize hAe : va_A (RW D a s) s₀.heap.size = A at hD ⊢
  have hA : ∀ q : Nat, s₀.heap.size ≤ q → A q := fun q h => by rw [← hAe]; exact Or.inr h
  have hS : va_S A s₀.heap s₀.heap [] := va_S.rf
  have hDD : ∀ t : MS, va_D A (RW D a t) := fun t => RW_D t hD
  have hl := lv_entry ([.ref (a 200), .int p0, .int p1, .int p2]) (n := 5) (Nat.le_of_ble_eq_true rfl)
  rw [lg_entry_eq]
  generalize (lg_sl ([.ref (a 200), .int p0, .int p1, .int p2]) ++ List.replicate (5 - (lg_sl ([.ref (a 200), .int p0, .int p1, .int p2])).length) Slot.unset).toArray = ls at hl ⊢
  have hl : lv_has ls 5 [(0, .ref (a 200)), (1, .int p0), (2, .int p1), (3, .int p2)] := hl
  unfold m_x12_rootSplit at h
  refine lv_aload_n hx hb dX12_rootSplit_0 rfl (lv_at hl 0 rfl) ?_
  refine lv_aload_n hx hb dX12_rootSplit_1 rfl (lv_at hl 0 rfl) ?_
  refine lv_iload_n hx hb dX12_rootSplit_2 rfl (lv_at hl 2 rfl) ?_
  obtain ⟨r2, hc1, h⟩ := bn_e h
  refine ycV (As := [.int p1]) (rest := [.ref (a 200)]) (C := RX12) (n := 1) ⟨hx, hb, hml, hown, ht⟩ (k_x12_levelOf l D a p1 _ _ hc1) (zgV ml_X12_460 im_X12_levelOf se_X12_levelOf in_X12 co_X12_levelOf) rfl rfl (by decide +kernel) ⟨Nat.le_of_ble_eq_true rfl, Nat.le_of_ble_eq_true rfl⟩ hN hK hP hS 0 RW_0 rfl rfl rfl hl.1 rfl (Nat.le_of_ble_eq_true rfl) dX12_rootSplit_3 ⟨Nat.le_of_ble_eq_true rfl, Nat.le_of_ble_eq_true rfl⟩ (fun H locs hP hS => ?_)
  refine lv_iconst (v := 1) hx hb dX12_rootSplit_6 (by decide) ?_
  refine lv_iadd hx hb dX12_rootSplit_7 ?_
  refine lv_bipush (v := 48) hx hb dX12_rootSplit_8 (by decide) ?_
  obtain ⟨⟨r5, s4⟩, hc3, h⟩ := bn_e h
  refine ywV (r0 := r5) (As := [.int (r2 + 1), .int 48]) (rest := []) (C := RX12) (n := 2) (ws' := RW D a s4) ⟨hx, hb, hml, hown, ht⟩ (k_x12_taken l D a (r2 + 1) 48 _ _ _ hc3) (zgV ml_X12_511 im_X12_taken se_X12_taken in_X12 co_X12_taken) rfl rfl (by decide +kernel) ⟨Nat.le_of_ble_eq_true rfl, Nat.le_of_ble_eq_true rfl⟩ hN hK hP (hDD _) hS hA 0 RW_0 rfl rfl rfl hl.1 rfl (Nat.le_of_ble_eq_true rfl) dX12_rootSplit_10 ⟨Nat.le_of_ble_eq_true rfl, Nat.le_of_ble_eq_true rfl⟩ (fun H locs hP hS => ?_)
  refine lv_istore (lv' := [(4, .int r5), (0, .ref (a 200)), (1, .int p0), (2, .int p1), (3, .int p2)]) hx hb dX12_rootSplit_13 hl (by decide) rfl (fun ls hl => ?_)
  refine lv_aload_n hx hb dX12_rootSplit_15 rfl (lv_at hl 1 rfl) ?_
  refine va_get (D := D) (ci := 12) (v := .int (gI s4 55)) (C := RX12) (T := TX12) (N := 116) hx hb ht inX12 hown hK hP 0 RW_0 rfl 55 (by decide) (ht (.fieldLink RX12 493 "CloneVolumesModel" "isFull" "Z") fl_X12_493) (fun _ h9 => h9) mF_55 dX12_rootSplit_16 ?_
  refine lv_if_eq (tgt := 24) hx hb dX12_rootSplit_19 (by decide) (fun c6 => ?_) (fun c6 => ?_)
  · have h := if_t c6 h
    refine lv_aload_n hx hb dX12_rootSplit_24 rfl (lv_at hl 1 rfl) ?_
    refine lv_iload hx hb dX12_rootSplit_25 (lv_at hl 0 rfl) ?_
    refine lv_iconst (v := 0) hx hb dX12_rootSplit_27 (by decide) ?_
    refine lv_aload_n hx hb dX12_rootSplit_28 rfl (lv_at hl 1 rfl) ?_
    refine lv_iload_n hx hb dX12_rootSplit_29 rfl (lv_at hl 3 rfl) ?_
    refine lv_iconst (v := 0) hx hb dX12_rootSplit_30 (by decide) ?_
    obtain ⟨r8, hc7, h⟩ := bn_e h
    refine ycV (As := [.int p1, .int 0]) (rest := [.int 0, .int r5, .ref (a 200)]) (C := RX12) (n := 2) ⟨hx, hb, hml, hown, ht⟩ (k_x12_keyAt l D a p1 0 _ _ hc7) (zgV ml_X12_517 im_X12_keyAt se_X12_keyAt in_X12 co_X12_keyAt) rfl rfl (by decide +kernel) ⟨Nat.le_of_ble_eq_true rfl, Nat.le_of_ble_eq_true rfl⟩ hN hK hP hS 0 RW_0 rfl rfl rfl hl.1 rfl (Nat.le_of_ble_eq_true rfl) dX12_rootSplit_31 ⟨Nat.le_of_ble_eq_true rfl, Nat.le_of_ble_eq_true rfl⟩ (fun H locs hP hS => ?_)
    refine lv_iload_n hx hb dX12_rootSplit_34 rfl (lv_at hl 3 rfl) ?_
    obtain ⟨s10, hc9, h⟩ := bn_e h
    refine ywVv (As := [.int r5, .int 0, .int r8, .int p1]) (rest := []) (C := RX12) (n := 4) (ws' := RW D a s10) ⟨hx, hb, hml, hown, ht⟩ (k_x12_inserts l D a r5 0 r8 p1 _ _ _ hc9) (zgV ml_X12_526 im_X12_inserts se_X12_inserts in_X12 co_X12_inserts) rfl rfl (by decide +kernel) ⟨Nat.le_of_ble_eq_true rfl, Nat.le_of_ble_eq_true rfl⟩ hN hK hP (hDD _) hS hA 0 RW_0 rfl rfl rfl hl.1 rfl (Nat.le_of_ble_eq_true rfl) dX12_rootSplit_35 ⟨Nat.le_of_ble_eq_true rfl, Nat.le_of_ble_eq_true rfl⟩ (fun H locs hP hS => ?_)
    refine lv_aload_n hx hb dX12_rootSplit_38 rfl (lv_at hl 1 rfl) ?_
    refine va_get (D := D) (ci := 12) (v := .ref (a 49)) (C := RX12) (T := TX12) (N := 116) hx hb ht inX12 hown hK hP 0 RW_0 rfl 49 (by decide) (ht (.fieldLink RX12 121 "CloneVolumesModel" "now" "[I") fl_X12_121) (fun _ h9 => h9) mF_49 dX12_rootSplit_39 ?_
    refine lv_iload_n hx hb dX12_rootSplit_42 rfl (lv_at hl 2 rfl) ?_
    refine lv_iload hx hb dX12_rootSplit_43 (lv_at hl 0 rfl) ?_
    obtain ⟨hi11, h⟩ := inb_e h
    refine ya_iast hx hb hK hP (hDD _) hS 36 0 RW_36 rfl hi11 dX12_rootSplit_45 (RW_w36 _) (fun H locs hP hS => ?_)
    obtain ⟨s12, hs12, h⟩ := st_e h
    rw [hs12] at hP
    refine lv_aload_n hx hb dX12_rootSplit_46 rfl (lv_at hl 1 rfl) ?_
    refine lv_iload hx hb dX12_rootSplit_47 (lv_at hl 0 rfl) ?_
    refine lv_iconst (v := 0) hx hb dX12_rootSplit_49 (by decide) ?_
    refine lv_iload_n hx hb dX12_rootSplit_50 rfl (lv_at hl 3 rfl) ?_
    refine lv_iload_n hx hb dX12_rootSplit_51 rfl (lv_at hl 4 rfl) ?_
    obtain ⟨⟨r15, s14⟩, hc13, h⟩ := bn_e h
    refine ywV (r0 := r15) (As := [.int r5, .int 0, .int p1, .int p2]) (rest := []) (C := RX12) (n := 4) (ws' := RW D a s14) ⟨hx, hb, hml, hown, ht⟩ (k_x12_half l D a r5 0 p1 p2 _ _ _ hc13) (zgV ml_X12_529 im_X12_half se_X12_half in_X12 co_X12_half) rfl rfl (by decide +kernel) ⟨Nat.le_of_ble_eq_true rfl, Nat.le_of_ble_eq_true rfl⟩ hN hK hP (hDD _) hS hA 0 RW_0 rfl rfl rfl hl.1 rfl (Nat.le_of_ble_eq_true rfl) dX12_rootSplit_52 ⟨Nat.le_of_ble_eq_true rfl, Nat.le_of_ble_eq_true rfl⟩ (fun H locs hP hS => ?_)
    obtain rfl := Option.some.inj h
    exact W.iret (v := r15) hx hb hr (fun t ht hW => ⟨⟨_, (), rfl, rfl, by rw [ht]; exact hP, va_K.moved hW.alike hK, hDD _⟩, hS.F ht⟩) hS.2.2 dX12_rootSplit_55
  · have h := if_f c6 h
    refine lv_iload_n hx hb dX12_rootSplit_22 rfl (lv_at hl 3 rfl) ?_
    obtain rfl := Option.some.inj h
    exact W.iret (v := p1) hx hb hr (fun t ht hW => ⟨⟨_, (), rfl, rfl, by rw [ht]; exact hP, va_K.moved hW.alike hK, hDD _⟩, hS.F ht⟩) hS.2.2 dX12_rootSplit_23
def m_x12_puts_J213 (s1 : MS) : Option MS :=
  some s1
def m_x12_puts_J198 (x2 : Int32) (x3 : Int32) (x4 : Int32) (s5 : MS) : Option MS :=
  if (gI s5 55) = 0 then bn (m_x12_putsIn x4 x2 x3 s5) (fun s8 => m_x12_puts_J213 s8) else m_x12_puts_J213 s5
def m_x12_puts_J191 (lr94 : Int32 → Int32 → Int32 → MS → Option MS) (x13 : Int32) (x14 : Int32) (x15 : Int32) (s16 : MS) : Option MS :=
  lr94 x13 x14 x15 s16
def m_x12_puts_J162 (lr94 : Int32 → Int32 → Int32 → MS → Option MS) (x17 : Int32) (x18 : Int32) (x19 : Int32) (x20 : Int32) (x21 : Int32) (s22 : MS) : Option MS :=
  if (gI s22 55) = 0 then bn (m_x12_doesSplit x21 s22) (fun qr26 => if qr26.1 = 0 then m_x12_puts_J191 lr94 x17 x18 x21 qr26.2 else bn (m_x12_half x19 x20 x21 x17 qr26.2) (fun qr30 => m_x12_puts_J191 lr94 x17 x18 qr30.1 qr30.2)) else m_x12_puts_J191 lr94 x17 x18 x21 s22
def m_x12_puts_b94 (lr94 : Int32 → Int32 → Int32 → MS → Option MS) (x9 : Int32) (x10 : Int32) (x11 : Int32) (s12 : MS) : Option MS :=
  if (gI s12 55) = 0 then bn (m_x12_levelOf x11 s12) (fun r33 => if r33 ≤ 0 then m_x12_puts_J198 x9 x10 x11 s12 else bn (m_x12_placeFor x11 x9 s12) (fun r36 => bn (m_x12_valueAt x11 r36 s12) (fun r38 => bn (m_x12_owned r38 s12) (fun qr41 => if qr41.1 = r38 then m_x12_puts_J162 lr94 x9 x10 x11 r36 qr41.1 qr41.2 else bn (m_x12_keyAt x11 r36 qr41.2) (fun r44 => bn (m_x12_setsEntry x11 r36 r44 qr41.1 qr41.2) (fun s46 => m_x12_puts_J162 lr94 x9 x10 x11 r36 qr41.1 s46)))))) else m_x12_puts_J198 x9 x10 x11 s12
def m_x12_puts_L94 (n : Nat) : Int32 → Int32 → Int32 → MS → Option MS := lp (fun _ _ _ _ => none) (m_x12_puts_b94) n
def m_x12_puts (p0 : Int32) (p1 : Int32) (p2 : Int32) (s : MS) : Option MS :=
  rdI (gA s 49) 906 p0 (fun y47 => if y47 = 254 then bn (m_x12_taken 0 48 s) (fun qr65 => if (gI qr65.2 55) = 0 then bn (m_x12_inserts qr65.1 0 p1 p2 qr65.2) (fun s68 => inb 906 p0 (stn (sA s68 49 (upd (gA s68 49) (Int32.toNatClampNeg p0) qr65.1)) (fun s70 => some s70))) else some qr65.2) else rdI (gA s 49) 906 p0 (fun y49 => bn (m_x12_owned y49 s) (fun qr52 => if (gI qr52.2 55) = 0 then inb 906 p0 (stn (sA qr52.2 49 (upd (gA qr52.2 49) (Int32.toNatClampNeg p0) qr52.1)) (fun s55 => bn (m_x12_doesSplit qr52.1 s55) (fun qr58 => if qr58.1 = 0 then m_x12_puts_L94 FU p1 p2 qr52.1 qr58.2 else bn (m_x12_rootSplit p0 qr52.1 p1 qr58.2) (fun qr62 => m_x12_puts_L94 FU p1 p2 qr62.1 qr62.2)))) else some qr52.2)))
set_option maxHeartbeats 4000000 in
set_option maxRecDepth 100000 in
theorem k_x12_puts (l : Launch) (D : va_G) (a : Nat → Nat) (p0 : Int32) (p1 : Int32) (p2 : Int32) (sz : Nat) (s : MS) (o : MS) (h : m_x12_puts p0 p1 p2 s = some o) : yWv l yX12_puts cX12_puts 8 none { frames := 8, cells := 0, slots := 0, locals := 480 } D sz [.ref (a 200), .int p0, .int p1, .int p2] (RW D a s) (RW D a o) := by
  refine Met.ofW (cc := cX12_puts) (maxL := 8) (ret := none) (by decide) rfl ?_
  intro p e s₀ m args below meth c s₁ B hml hv
  obtain ⟨rfl, ⟨hsz, hP, hK, hD0⟩, hN⟩ := hv
  have hx := B.exec
  have hb := B.bytes
  have hr := B.returns
  have hts := atoms_spec (ws := wz yX12_puts cX12_puts 8 none) B.pre
  have ht : ∀ w ∈ lw_gd, w.before _ s₀ = true := fun w h => hts w (List.mem_cons_of_mem _ h)
  have hown : s₀.vm.findClass RX12 = some m.cls := findClass_of_methodNamed B.named
  have hlocks := B.notSynchronized
  subst hsz
  have hD := hD0.self (sz := s₀.heap.size)
  generalize hAe : va_A (RW D a s) s₀.heap.size = A at hD ⊢
  have hA : ∀ q : Nat, s₀.heap.size ≤ q → A q := fun q h => by rw [← hAe]; exact Or.inr h
  have hS : va_S A s₀.heap s₀.heap [] := va_S.rf
  have hDD : ∀ t : MS, va_D A (RW D a t) := fun t => RW_D t hD
  have hl := lv_entry ([.ref (a 200), .int p0, .int p1, .int p2]) (n := 8) (Nat.le_of_ble_eq_true rfl)
  rw [lg_entry_eq]
  generalize (lg_sl ([.ref (a 200), .int p0, .int p1, .int p2]) ++ List.replicate (8 - (lg_sl ([.ref (a 200), .int p0, .int p1, .int p2])).length) Slot.unset).toArray = ls at hl ⊢
  have hl : lv_has ls 8 [(0, .ref (a 200)), (1, .int p0), (2, .int p1), (3, .int p2)] := hl
  unfold m_x12_puts at h
  refine y_head (pcJ := 213) (σ := MS) (fun u H locs ls => va_P D vwCl (RW D a u) H ∧ va_S A s₀.heap H locs ∧ lv_has ls 8 [] ∧ m_x12_puts_J213 u = some o) (fun u => []) (fun u H locs ls hI => ?_) (fun J213 => ?_)
  · obtain ⟨hP, hS, hl, h⟩ := hI
    obtain ⟨s1, rfl⟩ : ∃ z, z = u := ⟨u, rfl⟩
    have hP : va_P D vwCl (RW D a s1) H := hP
    have hl : lv_has ls 8 [] := hl
    have h : m_x12_puts_J213 s1 = some o := h
    unfold m_x12_puts_J213 at h
    obtain rfl := Option.some.inj h
    exact W.vret hx hb hr (fun t ht hW => ⟨⟨(), rfl, trivial, by rw [ht]; exact hP, va_K.moved hW.alike hK, hDD _⟩, hS.F ht⟩) hS.2.2 dX12_puts_213
  refine y_head (pcJ := 198) (σ := Int32 × Int32 × Int32 × MS) (fun u H locs ls => va_P D vwCl (RW D a u.2.2.2) H ∧ va_S A s₀.heap H locs ∧ lv_has ls 8 [(0, .ref (a 200)), (2, .int u.1), (3, .int u.2.1), (4, .int u.2.2.1)] ∧ m_x12_puts_J198 u.1 u.2.1 u.2.2.1 u.2.2.2 = some o) (fun u => []) (fun u H locs ls hI => ?_) (fun J198 => ?_)
  · obtain ⟨hP, hS, hl, h⟩ := hI
    obtain ⟨x2, x3, x4, s5⟩ := u
    have hP : va_P D vwCl (RW D a s5) H := hP
    have hl : lv_has ls 8 [(0, .ref (a 200)), (2, .int x2), (3, .int x3), (4, .int x4)] := hl
    have h : m_x12_puts_J198 x2 x3 x4 s5 = some o := h
    unfold m_x12_puts_J198 at h
    refine lv_aload_n hx hb dX12_puts_198 rfl (lv_at hl 0 rfl) ?_
    refine va_get (D := D) (ci := 12) (v := .int (gI s5 55)) (C := RX12) (T := TX12) (N := 116) hx hb ht inX12 hown hK hP 0 RW_0 rfl 55 (by decide) (ht (.fieldLink RX12 493 "CloneVolumesModel" "isFull" "Z") fl_X12_493) (fun _ h9 => h9) mF_55 dX12_puts_199 ?_
    refine lv_if_ne (tgt := 213) hx hb dX12_puts_202 (by decide) (fun c6 => ?_) (fun c6 => ?_)
    · have h := if_f c6 h
      exact J213 s5 _ _ _ ⟨hP, hS, lv_sub hl [] rfl, h⟩
    · have h := if_t c6 h
      refine lv_aload_n hx hb dX12_puts_205 rfl (lv_at hl 0 rfl) ?_
      refine lv_iload hx hb dX12_puts_206 (lv_at hl 3 rfl) ?_
      refine lv_iload_n hx hb dX12_puts_208 rfl (lv_at hl 1 rfl) ?_
      refine lv_iload_n hx hb dX12_puts_209 rfl (lv_at hl 2 rfl) ?_
      obtain ⟨s8, hc7, h⟩ := bn_e h
      refine ywVv (As := [.int x4, .int x2, .int x3]) (rest := []) (C := RX12) (n := 3) (ws' := RW D a s8) ⟨hx, hb, hml, hown, ht⟩ (k_x12_putsIn l D a x4 x2 x3 _ _ _ hc7) (zgV ml_X12_546 im_X12_putsIn se_X12_putsIn in_X12 co_X12_putsIn) rfl rfl (by decide +kernel) ⟨Nat.le_of_ble_eq_true rfl, Nat.le_of_ble_eq_true rfl⟩ hN hK hP (hDD _) hS hA 0 RW_0 rfl rfl rfl hl.1 rfl (Nat.le_of_ble_eq_true rfl) dX12_puts_210 ⟨Nat.le_of_ble_eq_true rfl, Nat.le_of_ble_eq_true rfl⟩ (fun H locs hP hS => ?_)
      exact J213 s8 _ _ _ ⟨hP, hS, lv_sub hl [] rfl, h⟩
  refine y_loop (pcJ := 94) (σ := Int32 × Int32 × Int32 × MS) (fun n u H locs ls => va_P D vwCl (RW D a u.2.2.2) H ∧ va_S A s₀.heap H locs ∧ lv_has ls 8 [(0, .ref (a 200)), (2, .int u.1), (3, .int u.2.1), (4, .int u.2.2.1)] ∧ m_x12_puts_L94 n u.1 u.2.1 u.2.2.1 u.2.2.2 = some o) (fun u => []) (fun u H locs ls hI => by obtain ⟨_, _, _, h⟩ := hI; cases h) (fun n94 ih94 u H locs ls hI => ?_) (fun J94 => ?_)
  · obtain ⟨hP, hS, hl, h⟩ := hI
    obtain ⟨x9, x10, x11, s12⟩ := u
    have hP : va_P D vwCl (RW D a s12) H := hP
    have hl : lv_has ls 8 [(0, .ref (a 200)), (2, .int x9), (3, .int x10), (4, .int x11)] := hl
    have h : m_x12_puts_b94 (m_x12_puts_L94 n94) x9 x10 x11 s12 = some o := h
    unfold m_x12_puts_b94 at h
    refine y_head (pcJ := 191) (σ := Int32 × Int32 × Int32 × MS) (fun u H locs ls => va_P D vwCl (RW D a u.2.2.2) H ∧ va_S A s₀.heap H locs ∧ lv_has ls 8 [(0, .ref (a 200)), (2, .int u.1), (3, .int u.2.1), (7, .int u.2.2.1)] ∧ m_x12_puts_J191 (m_x12_puts_L94 n94) u.1 u.2.1 u.2.2.1 u.2.2.2 = some o) (fun u => []) (fun u H locs ls hI => ?_) (fun J191 => ?_)
    · obtain ⟨hP, hS, hl, h⟩ := hI
      obtain ⟨x13, x14, x15, s16⟩ := u
      have hP : va_P D vwCl (RW D a s16) H := hP
      have hl : lv_has ls 8 [(0, .ref (a 200)), (2, .int x13), (3, .int x14), (7, .int x15)] := hl
      have h : m_x12_puts_J191 (m_x12_puts_L94 n94) x13 x14 x15 s16 = some o := h
      unfold m_x12_puts_J191 at h
      refine lv_iload hx hb dX12_puts_191 (lv_at hl 3 rfl) ?_
      refine lv_istore (lv' := [(4, .int x15), (0, .ref (a 200)), (2, .int x13), (3, .int x14), (7, .int x15)]) hx hb dX12_puts_193 hl (by decide) rfl (fun ls hl => ?_)
      refine lv_goto (tgt := 94) hx hb dX12_puts_195 (by decide) ?_
      exact ih94 (x13, x14, x15, s16) _ _ _ ⟨hP, hS, lv_sub hl [1, 2, 3, 0] rfl, h⟩
    refine y_head (pcJ := 162) (σ := Int32 × Int32 × Int32 × Int32 × Int32 × MS) (fun u H locs ls => va_P D vwCl (RW D a u.2.2.2.2.2) H ∧ va_S A s₀.heap H locs ∧ lv_has ls 8 [(0, .ref (a 200)), (2, .int u.1), (3, .int u.2.1), (4, .int u.2.2.1), (5, .int u.2.2.2.1), (7, .int u.2.2.2.2.1)] ∧ m_x12_puts_J162 (m_x12_puts_L94 n94) u.1 u.2.1 u.2.2.1 u.2.2.2.1 u.2.2.2.2.1 u.2.2.2.2.2 = some o) (fun u => []) (fun u H locs ls hI => ?_) (fun J162 => ?_)
    · obtain ⟨hP, hS, hl, h⟩ := hI
      obtain ⟨x17, x18, x19, x20, x21, s22⟩ := u
      have hP : va_P D vwCl (RW D a s22) H := hP
      have hl : lv_has ls 8 [(0, .ref (a 200)), (2, .int x17), (3, .int x18), (4, .int x19), (5, .int x20), (7, .int x21)] := hl
      have h : m_x12_puts_J162 (m_x12_puts_L94 n94) x17 x18 x19 x20 x21 s22 = some o := h
      unfold m_x12_puts_J162 at h
      refine lv_aload_n hx hb dX12_puts_162 rfl (lv_at hl 0 rfl) ?_
      refine va_get (D := D) (ci := 12) (v := .int (gI s22 55)) (C := RX12) (T := TX12) (N := 116) hx hb ht inX12 hown hK hP 0 RW_0 rfl 55 (by decide) (ht (.fieldLink RX12 493 "CloneVolumesModel" "isFull" "Z") fl_X12_493) (fun _ h9 => h9) mF_55 dX12_puts_163 ?_
      refine lv_if_ne (tgt := 191) hx hb dX12_puts_166 (by decide) (fun c23 => ?_) (fun c23 => ?_)
      · have h := if_f c23 h
        exact J191 (x17, x18, x21, s22) _ _ _ ⟨hP, hS, lv_sub hl [0, 1, 2, 5] rfl, h⟩
      · have h := if_t c23 h
        refine lv_aload_n hx hb dX12_puts_169 rfl (lv_at hl 0 rfl) ?_
        refine lv_iload hx hb dX12_puts_170 (lv_at hl 5 rfl) ?_
        obtain ⟨⟨r26, s25⟩, hc24, h⟩ := bn_e h
        refine ywV (r0 := r26) (As := [.int x21]) (rest := []) (C := RX12) (n := 1) (ws' := RW D a s25) ⟨hx, hb, hml, hown, ht⟩ (k_x12_doesSplit l D a x21 _ _ _ hc24) (zgV ml_X12_536 im_X12_doesSplit se_X12_doesSplit in_X12 co_X12_doesSplit) rfl rfl (by decide +kernel) ⟨Nat.le_of_ble_eq_true rfl, Nat.le_of_ble_eq_true rfl⟩ hN hK hP (hDD _) hS hA 0 RW_0 rfl rfl rfl hl.1 rfl (Nat.le_of_ble_eq_true rfl) dX12_puts_172 ⟨Nat.le_of_ble_eq_true rfl, Nat.le_of_ble_eq_true rfl⟩ (fun H locs hP hS => ?_)
        refine lv_if_eq (tgt := 191) hx hb dX12_puts_175 (by decide) (fun c27 => ?_) (fun c27 => ?_)
        · have h := if_t c27 h
          exact J191 (x17, x18, x21, s25) _ _ _ ⟨hP, hS, lv_sub hl [0, 1, 2, 5] rfl, h⟩
        · have h := if_f c27 h
          refine lv_aload_n hx hb dX12_puts_178 rfl (lv_at hl 0 rfl) ?_
          refine lv_iload hx hb dX12_puts_179 (lv_at hl 3 rfl) ?_
          refine lv_iload hx hb dX12_puts_181 (lv_at hl 4 rfl) ?_
          refine lv_iload hx hb dX12_puts_183 (lv_at hl 5 rfl) ?_
          refine lv_iload_n hx hb dX12_puts_185 rfl (lv_at hl 1 rfl) ?_
          obtain ⟨⟨r30, s29⟩, hc28, h⟩ := bn_e h
          refine ywV (r0 := r30) (As := [.int x19, .int x20, .int x21, .int x17]) (rest := []) (C := RX12) (n := 4) (ws' := RW D a s29) ⟨hx, hb, hml, hown, ht⟩ (k_x12_half l D a x19 x20 x21 x17 _ _ _ hc28) (zgV ml_X12_529 im_X12_half se_X12_half in_X12 co_X12_half) rfl rfl (by decide +kernel) ⟨Nat.le_of_ble_eq_true rfl, Nat.le_of_ble_eq_true rfl⟩ hN hK hP (hDD _) hS hA 0 RW_0 rfl rfl rfl hl.1 rfl (Nat.le_of_ble_eq_true rfl) dX12_puts_186 ⟨Nat.le_of_ble_eq_true rfl, Nat.le_of_ble_eq_true rfl⟩ (fun H locs hP hS => ?_)
          refine lv_istore (lv' := [(7, .int r30), (0, .ref (a 200)), (2, .int x17), (3, .int x18), (4, .int x19), (5, .int x20)]) hx hb dX12_puts_189 hl (by decide) rfl (fun ls hl => ?_)
          exact J191 (x17, x18, r30, s29) _ _ _ ⟨hP, hS, lv_sub hl [1, 2, 3, 0] rfl, h⟩
    refine lv_aload_n hx hb dX12_puts_94 rfl (lv_at hl 0 rfl) ?_
    refine va_get (D := D) (ci := 12) (v := .int (gI s12 55)) (C := RX12) (T := TX12) (N := 116) hx hb ht inX12 hown hK hP 0 RW_0 rfl 55 (by decide) (ht (.fieldLink RX12 493 "CloneVolumesModel" "isFull" "Z") fl_X12_493) (fun _ h9 => h9) mF_55 dX12_puts_95 ?_
    refine lv_if_ne (tgt := 198) hx hb dX12_puts_98 (by decide) (fun c31 => ?_) (fun c31 => ?_)
    · have h := if_f c31 h
      exact J198 (x9, x10, x11, s12) _ _ _ ⟨hP, hS, lv_sub hl [0, 1, 2, 3] rfl, h⟩
    · have h := if_t c31 h
      refine lv_aload_n hx hb dX12_puts_101 rfl (lv_at hl 0 rfl) ?_
      refine lv_iload hx hb dX12_puts_102 (lv_at hl 3 rfl) ?_
      obtain ⟨r33, hc32, h⟩ := bn_e h
      refine ycV (As := [.int x11]) (rest := []) (C := RX12) (n := 1) ⟨hx, hb, hml, hown, ht⟩ (k_x12_levelOf l D a x11 _ _ hc32) (zgV ml_X12_460 im_X12_levelOf se_X12_levelOf in_X12 co_X12_levelOf) rfl rfl (by decide +kernel) ⟨Nat.le_of_ble_eq_true rfl, Nat.le_of_ble_eq_true rfl⟩ hN hK hP hS 0 RW_0 rfl rfl rfl hl.1 rfl (Nat.le_of_ble_eq_true rfl) dX12_puts_104 ⟨Nat.le_of_ble_eq_true rfl, Nat.le_of_ble_eq_true rfl⟩ (fun H locs hP hS => ?_)
      refine lv_if_le (tgt := 198) hx hb dX12_puts_107 (by decide) (fun c34 => ?_) (fun c34 => ?_)
      · have h := if_t c34 h
        exact J198 (x9, x10, x11, s12) _ _ _ ⟨hP, hS, lv_sub hl [0, 1, 2, 3] rfl, h⟩
      · have h := if_f c34 h
        refine lv_aload_n hx hb dX12_puts_110 rfl (lv_at hl 0 rfl) ?_
        refine lv_iload hx hb dX12_puts_111 (lv_at hl 3 rfl) ?_
        refine lv_iload_n hx hb dX12_puts_113 rfl (lv_at hl 1 rfl) ?_
        obtain ⟨r36, hc35, h⟩ := bn_e h
        refine ycV (As := [.int x11, .int x9]) (rest := []) (C := RX12) (n := 2) ⟨hx, hb, hml, hown, ht⟩ (k_x12_placeFor l D a x11 x9 _ _ hc35) (zgV ml_X12_543 im_X12_placeFor se_X12_placeFor in_X12 co_X12_placeFor) rfl rfl (by decide +kernel) ⟨Nat.le_of_ble_eq_true rfl, Nat.le_of_ble_eq_true rfl⟩ hN hK hP hS 0 RW_0 rfl rfl rfl hl.1 rfl (Nat.le_of_ble_eq_true rfl) dX12_puts_114 ⟨Nat.le_of_ble_eq_true rfl, Nat.le_of_ble_eq_true rfl⟩ (fun H locs hP hS => ?_)
        refine lv_istore (lv' := [(5, .int r36), (0, .ref (a 200)), (2, .int x9), (3, .int x10), (4, .int x11)]) hx hb dX12_puts_117 hl (by decide) rfl (fun ls hl => ?_)
        refine lv_aload_n hx hb dX12_puts_119 rfl (lv_at hl 1 rfl) ?_
        refine lv_iload hx hb dX12_puts_120 (lv_at hl 4 rfl) ?_
        refine lv_iload hx hb dX12_puts_122 (lv_at hl 0 rfl) ?_
        obtain ⟨r38, hc37, h⟩ := bn_e h
        refine ycV (As := [.int x11, .int r36]) (rest := []) (C := RX12) (n := 2) ⟨hx, hb, hml, hown, ht⟩ (k_x12_valueAt l D a x11 r36 _ _ hc37) (zgV ml_X12_505 im_X12_valueAt se_X12_valueAt in_X12 co_X12_valueAt) rfl rfl (by decide +kernel) ⟨Nat.le_of_ble_eq_true rfl, Nat.le_of_ble_eq_true rfl⟩ hN hK hP hS 0 RW_0 rfl rfl rfl hl.1 rfl (Nat.le_of_ble_eq_true rfl) dX12_puts_124 ⟨Nat.le_of_ble_eq_true rfl, Nat.le_of_ble_eq_true rfl⟩ (fun H locs hP hS => ?_)
        refine lv_istore (lv' := [(6, .int r38), (5, .int r36), (0, .ref (a 200)), (2, .int x9), (3, .int x10), (4, .int x11)]) hx hb dX12_puts_127 hl (by decide) rfl (fun ls hl => ?_)
        refine lv_aload_n hx hb dX12_puts_129 rfl (lv_at hl 2 rfl) ?_
        refine lv_iload hx hb dX12_puts_130 (lv_at hl 0 rfl) ?_
        obtain ⟨⟨r41, s40⟩, hc39, h⟩ := bn_e h
        refine ywV (r0 := r41) (As := [.int r38]) (rest := []) (C := RX12) (n := 1) (ws' := RW D a s40) ⟨hx, hb, hml, hown, ht⟩ (k_x12_owned l D a r38 _ _ _ hc39) (zgV ml_X12_533 im_X12_owned se_X12_owned in_X12 co_X12_owned) rfl rfl (by decide +kernel) ⟨Nat.le_of_ble_eq_true rfl, Nat.le_of_ble_eq_true rfl⟩ hN hK hP (hDD _) hS hA 0 RW_0 rfl rfl rfl hl.1 rfl (Nat.le_of_ble_eq_true rfl) dX12_puts_132 ⟨Nat.le_of_ble_eq_true rfl, Nat.le_of_ble_eq_true rfl⟩ (fun H locs hP hS => ?_)
        refine lv_istore (lv' := [(7, .int r41), (6, .int r38), (5, .int r36), (0, .ref (a 200)), (2, .int x9), (3, .int x10), (4, .int x11)]) hx hb dX12_puts_135 hl (by decide) rfl (fun ls hl => ?_)
        refine lv_iload hx hb dX12_puts_137 (lv_at hl 0 rfl) ?_
        refine lv_iload hx hb dX12_puts_139 (lv_at hl 1 rfl) ?_
        refine lv_icmp_eq (tgt := 162) hx hb dX12_puts_141 (by decide) (fun c42 => ?_) (fun c42 => ?_)
        · have h := if_t c42 h
          exact J162 (x9, x10, x11, r36, r41, s40) _ _ _ ⟨hP, hS, lv_sub hl [3, 4, 5, 6, 2, 0] rfl, h⟩
        · have h := if_f c42 h
          refine lv_aload_n hx hb dX12_puts_144 rfl (lv_at hl 3 rfl) ?_
          refine lv_iload hx hb dX12_puts_145 (lv_at hl 6 rfl) ?_
          refine lv_iload hx hb dX12_puts_147 (lv_at hl 2 rfl) ?_
          refine lv_aload_n hx hb dX12_puts_149 rfl (lv_at hl 3 rfl) ?_
          refine lv_iload hx hb dX12_puts_150 (lv_at hl 6 rfl) ?_
          refine lv_iload hx hb dX12_puts_152 (lv_at hl 2 rfl) ?_
          obtain ⟨r44, hc43, h⟩ := bn_e h
          refine ycV (As := [.int x11, .int r36]) (rest := [.int r36, .int x11, .ref (a 200)]) (C := RX12) (n := 2) ⟨hx, hb, hml, hown, ht⟩ (k_x12_keyAt l D a x11 r36 _ _ hc43) (zgV ml_X12_517 im_X12_keyAt se_X12_keyAt in_X12 co_X12_keyAt) rfl rfl (by decide +kernel) ⟨Nat.le_of_ble_eq_true rfl, Nat.le_of_ble_eq_true rfl⟩ hN hK hP hS 0 RW_0 rfl rfl rfl hl.1 rfl (Nat.le_of_ble_eq_true rfl) dX12_puts_154 ⟨Nat.le_of_ble_eq_true rfl, Nat.le_of_ble_eq_true rfl⟩ (fun H locs hP hS => ?_)
          refine lv_iload hx hb dX12_puts_157 (lv_at hl 0 rfl) ?_
          obtain ⟨s46, hc45, h⟩ := bn_e h
          refine ywVv (As := [.int x11, .int r36, .int r44, .int r41]) (rest := []) (C := RX12) (n := 4) (ws' := RW D a s46) ⟨hx, hb, hml, hown, ht⟩ (k_x12_setsEntry l D a x11 r36 r44 r41 _ _ _ hc45) (zgV ml_X12_520 im_X12_setsEntry se_X12_setsEntry in_X12 co_X12_setsEntry) rfl rfl (by decide +kernel) ⟨Nat.le_of_ble_eq_true rfl, Nat.le_of_ble_eq_true rfl⟩ hN hK hP (hDD _) hS hA 0 RW_0 rfl rfl rfl hl.1 rfl (Nat.le_of_ble_eq_true rfl) dX12_puts_159 ⟨Nat.le_of_ble_eq_true rfl, Nat.le_of_ble_eq_true rfl⟩ (fun H locs hP hS => ?_)
          exact J162 (x9, x10, x11, r36, r41, s46) _ _ _ ⟨hP, hS, lv_sub hl [3, 4, 5, 6, 2, 0] rfl, h⟩
  refine lv_aload_n hx hb dX12_puts_0 rfl (lv_at hl 0 rfl) ?_
  refine va_get (D := D) (ci := 12) (v := .ref (a 49)) (C := RX12) (T := TX12) (N := 116) hx hb ht inX12 hown hK hP 0 RW_0 rfl 49 (by decide) (ht (.fieldLink RX12 121 "CloneVolumesModel" "now" "[I") fl_X12_121) (fun _ h9 => h9) mF_49 dX12_puts_1 ?_
  refine lv_iload_n hx hb dX12_puts_4 rfl (lv_at hl 1 rfl) ?_
  obtain ⟨y47, ey47, iy47, h⟩ := rdI_e h
  refine ya_iald hx hb hK hP 36 0 RW_36 rfl ey47 iy47 dX12_puts_5 ?_
  refine lv_sipush (v := 254) hx hb dX12_puts_6 (by decide) ?_
  refine lv_icmp_ne (tgt := 47) hx hb dX12_puts_9 (by decide) (fun c48 => ?_) (fun c48 => ?_)
  · have h := if_f c48 h
    refine lv_aload_n hx hb dX12_puts_47 rfl (lv_at hl 0 rfl) ?_
    refine lv_aload_n hx hb dX12_puts_48 rfl (lv_at hl 0 rfl) ?_
    refine va_get (D := D) (ci := 12) (v := .ref (a 49)) (C := RX12) (T := TX12) (N := 116) hx hb ht inX12 hown hK hP 0 RW_0 rfl 49 (by decide) (ht (.fieldLink RX12 121 "CloneVolumesModel" "now" "[I") fl_X12_121) (fun _ h9 => h9) mF_49 dX12_puts_49 ?_
    refine lv_iload_n hx hb dX12_puts_52 rfl (lv_at hl 1 rfl) ?_
    obtain ⟨y49, ey49, iy49, h⟩ := rdI_e h
    refine ya_iald hx hb hK hP 36 0 RW_36 rfl ey49 iy49 dX12_puts_53 ?_
    obtain ⟨⟨r52, s51⟩, hc50, h⟩ := bn_e h
    refine ywV (r0 := r52) (As := [.int y49]) (rest := []) (C := RX12) (n := 1) (ws' := RW D a s51) ⟨hx, hb, hml, hown, ht⟩ (k_x12_owned l D a y49 _ _ _ hc50) (zgV ml_X12_533 im_X12_owned se_X12_owned in_X12 co_X12_owned) rfl rfl (by decide +kernel) ⟨Nat.le_of_ble_eq_true rfl, Nat.le_of_ble_eq_true rfl⟩ hN hK hP (hDD _) hS hA 0 RW_0 rfl rfl rfl hl.1 rfl (Nat.le_of_ble_eq_true rfl) dX12_puts_54 ⟨Nat.le_of_ble_eq_true rfl, Nat.le_of_ble_eq_true rfl⟩ (fun H locs hP hS => ?_)
    refine lv_istore (lv' := [(4, .int r52), (0, .ref (a 200)), (1, .int p0), (2, .int p1), (3, .int p2)]) hx hb dX12_puts_57 hl (by decide) rfl (fun ls hl => ?_)
    refine lv_aload_n hx hb dX12_puts_59 rfl (lv_at hl 1 rfl) ?_
    refine va_get (D := D) (ci := 12) (v := .int (gI s51 55)) (C := RX12) (T := TX12) (N := 116) hx hb ht inX12 hown hK hP 0 RW_0 rfl 55 (by decide) (ht (.fieldLink RX12 493 "CloneVolumesModel" "isFull" "Z") fl_X12_493) (fun _ h9 => h9) mF_55 dX12_puts_60 ?_
    refine lv_if_eq (tgt := 67) hx hb dX12_puts_63 (by decide) (fun c53 => ?_) (fun c53 => ?_)
    · have h := if_t c53 h
      refine lv_aload_n hx hb dX12_puts_67 rfl (lv_at hl 1 rfl) ?_
      refine va_get (D := D) (ci := 12) (v := .ref (a 49)) (C := RX12) (T := TX12) (N := 116) hx hb ht inX12 hown hK hP 0 RW_0 rfl 49 (by decide) (ht (.fieldLink RX12 121 "CloneVolumesModel" "now" "[I") fl_X12_121) (fun _ h9 => h9) mF_49 dX12_puts_68 ?_
      refine lv_iload_n hx hb dX12_puts_71 rfl (lv_at hl 2 rfl) ?_
      refine lv_iload hx hb dX12_puts_72 (lv_at hl 0 rfl) ?_
      obtain ⟨hi54, h⟩ := inb_e h
      refine ya_iast hx hb hK hP (hDD _) hS 36 0 RW_36 rfl hi54 dX12_puts_74 (RW_w36 _) (fun H locs hP hS => ?_)
      obtain ⟨s55, hs55, h⟩ := st_e h
      rw [hs55] at hP
      refine lv_aload_n hx hb dX12_puts_75 rfl (lv_at hl 1 rfl) ?_
      refine lv_iload hx hb dX12_puts_76 (lv_at hl 0 rfl) ?_
      obtain ⟨⟨r58, s57⟩, hc56, h⟩ := bn_e h
      refine ywV (r0 := r58) (As := [.int r52]) (rest := []) (C := RX12) (n := 1) (ws' := RW D a s57) ⟨hx, hb, hml, hown, ht⟩ (k_x12_doesSplit l D a r52 _ _ _ hc56) (zgV ml_X12_536 im_X12_doesSplit se_X12_doesSplit in_X12 co_X12_doesSplit) rfl rfl (by decide +kernel) ⟨Nat.le_of_ble_eq_true rfl, Nat.le_of_ble_eq_true rfl⟩ hN hK hP (hDD _) hS hA 0 RW_0 rfl rfl rfl hl.1 rfl (Nat.le_of_ble_eq_true rfl) dX12_puts_78 ⟨Nat.le_of_ble_eq_true rfl, Nat.le_of_ble_eq_true rfl⟩ (fun H locs hP hS => ?_)
      refine lv_if_eq (tgt := 94) hx hb dX12_puts_81 (by decide) (fun c59 => ?_) (fun c59 => ?_)
      · have h := if_t c59 h
        exact J94 FU (p1, p2, r52, s57) _ _ _ ⟨hP, hS, lv_sub hl [1, 3, 4, 0] rfl, h⟩
      · have h := if_f c59 h
        refine lv_aload_n hx hb dX12_puts_84 rfl (lv_at hl 1 rfl) ?_
        refine lv_iload_n hx hb dX12_puts_85 rfl (lv_at hl 2 rfl) ?_
        refine lv_iload hx hb dX12_puts_86 (lv_at hl 0 rfl) ?_
        refine lv_iload_n hx hb dX12_puts_88 rfl (lv_at hl 3 rfl) ?_
        obtain ⟨⟨r62, s61⟩, hc60, h⟩ := bn_e h
        refine ywV (r0 := r62) (As := [.int p0, .int r52, .int p1]) (rest := []) (C := RX12) (n := 3) (ws' := RW D a s61) ⟨hx, hb, hml, hown, ht⟩ (k_x12_rootSplit l D a p0 r52 p1 _ _ _ hc60) (zgV ml_X12_539 im_X12_rootSplit se_X12_rootSplit in_X12 co_X12_rootSplit) rfl rfl (by decide +kernel) ⟨Nat.le_of_ble_eq_true rfl, Nat.le_of_ble_eq_true rfl⟩ hN hK hP (hDD _) hS hA 0 RW_0 rfl rfl rfl hl.1 rfl (Nat.le_of_ble_eq_true rfl) dX12_puts_89 ⟨Nat.le_of_ble_eq_true rfl, Nat.le_of_ble_eq_true rfl⟩ (fun H locs hP hS => ?_)
        refine lv_istore (lv' := [(4, .int r62), (0, .ref (a 200)), (1, .int p0), (2, .int p1), (3, .int p2)]) hx hb dX12_puts_92 hl (by decide) rfl (fun ls hl => ?_)
        exact J94 FU (p1, p2, r62, s61) _ _ _ ⟨hP, hS, lv_sub hl [1, 3, 4, 0] rfl, h⟩
    · have h := if_f c53 h
      obtain rfl := Option.some.inj h
      exact W.vret hx hb hr (fun t ht hW => ⟨⟨(), rfl, trivial, by rw [ht]; exact hP, va_K.moved hW.alike hK, hDD _⟩, hS.F ht⟩) hS.2.2 dX12_puts_66
  · have h := if_t c48 h
    refine lv_aload_n hx hb dX12_puts_12 rfl (lv_at hl 0 rfl) ?_
    refine lv_iconst (v := 0) hx hb dX12_puts_13 (by decide) ?_
    refine lv_bipush (v := 48) hx hb dX12_puts_14 (by decide) ?_
    obtain ⟨⟨r65, s64⟩, hc63, h⟩ := bn_e h
    refine ywV (r0 := r65) (As := [.int 0, .int 48]) (rest := []) (C := RX12) (n := 2) (ws' := RW D a s64) ⟨hx, hb, hml, hown, ht⟩ (k_x12_taken l D a 0 48 _ _ _ hc63) (zgV ml_X12_511 im_X12_taken se_X12_taken in_X12 co_X12_taken) rfl rfl (by decide +kernel) ⟨Nat.le_of_ble_eq_true rfl, Nat.le_of_ble_eq_true rfl⟩ hN hK hP (hDD _) hS hA 0 RW_0 rfl rfl rfl hl.1 rfl (Nat.le_of_ble_eq_true rfl) dX12_puts_16 ⟨Nat.le_of_ble_eq_true rfl, Nat.le_of_ble_eq_true rfl⟩ (fun H locs hP hS => ?_)
    refine lv_istore (lv' := [(4, .int r65), (0, .ref (a 200)), (1, .int p0), (2, .int p1), (3, .int p2)]) hx hb dX12_puts_19 hl (by decide) rfl (fun ls hl => ?_)
    refine lv_aload_n hx hb dX12_puts_21 rfl (lv_at hl 1 rfl) ?_
    refine va_get (D := D) (ci := 12) (v := .int (gI s64 55)) (C := RX12) (T := TX12) (N := 116) hx hb ht inX12 hown hK hP 0 RW_0 rfl 55 (by decide) (ht (.fieldLink RX12 493 "CloneVolumesModel" "isFull" "Z") fl_X12_493) (fun _ h9 => h9) mF_55 dX12_puts_22 ?_
    refine lv_if_eq (tgt := 29) hx hb dX12_puts_25 (by decide) (fun c66 => ?_) (fun c66 => ?_)
    · have h := if_t c66 h
      refine lv_aload_n hx hb dX12_puts_29 rfl (lv_at hl 1 rfl) ?_
      refine lv_iload hx hb dX12_puts_30 (lv_at hl 0 rfl) ?_
      refine lv_iconst (v := 0) hx hb dX12_puts_32 (by decide) ?_
      refine lv_iload_n hx hb dX12_puts_33 rfl (lv_at hl 3 rfl) ?_
      refine lv_iload_n hx hb dX12_puts_34 rfl (lv_at hl 4 rfl) ?_
      obtain ⟨s68, hc67, h⟩ := bn_e h
      refine ywVv (As := [.int r65, .int 0, .int p1, .int p2]) (rest := []) (C := RX12) (n := 4) (ws' := RW D a s68) ⟨hx, hb, hml, hown, ht⟩ (k_x12_inserts l D a r65 0 p1 p2 _ _ _ hc67) (zgV ml_X12_526 im_X12_inserts se_X12_inserts in_X12 co_X12_inserts) rfl rfl (by decide +kernel) ⟨Nat.le_of_ble_eq_true rfl, Nat.le_of_ble_eq_true rfl⟩ hN hK hP (hDD _) hS hA 0 RW_0 rfl rfl rfl hl.1 rfl (Nat.le_of_ble_eq_true rfl) dX12_puts_35 ⟨Nat.le_of_ble_eq_true rfl, Nat.le_of_ble_eq_true rfl⟩ (fun H locs hP hS => ?_)
      refine lv_aload_n hx hb dX12_puts_38 rfl (lv_at hl 1 rfl) ?_
      refine va_get (D := D) (ci := 12) (v := .ref (a 49)) (C := RX12) (T := TX12) (N := 116) hx hb ht inX12 hown hK hP 0 RW_0 rfl 49 (by decide) (ht (.fieldLink RX12 121 "CloneVolumesModel" "now" "[I") fl_X12_121) (fun _ h9 => h9) mF_49 dX12_puts_39 ?_
      refine lv_iload_n hx hb dX12_puts_42 rfl (lv_at hl 2 rfl) ?_
      refine lv_iload hx hb dX12_puts_43 (lv_at hl 0 rfl) ?_
      obtain ⟨hi69, h⟩ := inb_e h
      refine ya_iast hx hb hK hP (hDD _) hS 36 0 RW_36 rfl hi69 dX12_puts_45 (RW_w36 _) (fun H locs hP hS => ?_)
      obtain ⟨s70, hs70, h⟩ := st_e h
      rw [hs70] at hP
      obtain rfl := Option.some.inj h
      exact W.vret hx hb hr (fun t ht hW => ⟨⟨(), rfl, trivial, by rw [ht]; exact hP, va_K.moved hW.alike hK, hDD _⟩, hS.F ht⟩) hS.2.2 dX12_puts_46
    · have h := if_f c66 h
      obtain rfl := Option.some.inj h
      exact W.vret hx hb hr (fun t ht hW => ⟨⟨(), rfl, trivial, by rw [ht]; exact hP, va_K.moved hW.alike hK, hDD _⟩, hS.F ht⟩) hS.2.2 dX12_puts_28
def m_x12_valueFrom_J74 (s : MS) (x1 : Int32) : Option Int32 :=
  some x1
def m_x12_valueFrom_J73 (s : MS) (_u : Unit) : Option Int32 :=
  m_x12_valueFrom_J74 s (-1)
def m_x12_valueFrom_b11 (s : MS) (lr11 : Int32 → Int32 → Option Int32) (x2 : Int32) (x3 : Int32) : Option Int32 :=
  bn (m_x12_levelOf x3 s) (fun r5 => if r5 ≤ 0 then bn (m_x12_placeIn x3 x2 s) (fun r8 => bn (m_x12_entriesOf x3 s) (fun r10 => if r10 ≤ r8 then m_x12_valueFrom_J73 s () else bn (m_x12_keyAt x3 r8 s) (fun r13 => if r13 = x2 then bn (m_x12_valueAt x3 r8 s) (fun r16 => m_x12_valueFrom_J74 s r16) else m_x12_valueFrom_J73 s ()))) else bn (m_x12_placeFor x3 x2 s) (fun r18 => bn (m_x12_valueAt x3 r18 s) (fun r20 => lr11 x2 r20)))
def m_x12_valueFrom_L11 (s : MS) (n : Nat) : Int32 → Int32 → Option Int32 := lp (fun _ _ => none) (m_x12_valueFrom_b11 s) n
def m_x12_valueFrom (p0 : Int32) (p1 : Int32) (s : MS) : Option Int32 :=
  if p0 < 254 then m_x12_valueFrom_L11 s FU p1 p0 else some (-1)
set_option maxHeartbeats 4000000 in
set_option maxRecDepth 100000 in
theorem k_x12_valueFrom (l : Launch) (D : va_G) (a : Nat → Nat) (p0 : Int32) (p1 : Int32) (s : MS) (o : Int32) (h : m_x12_valueFrom p0 p1 s = some o) : yRi l yX12_valueFrom cX12_valueFrom 5 (some .int) { frames := 2, cells := 0, slots := 0, locals := 120 } D [.ref (a 200), .int p0, .int p1] (RW D a s) o := by
  refine Met.ofW (cc := cX12_valueFrom) (maxL := 5) (ret := (some .int)) (by decide) rfl ?_
  intro p e s₀ m args below meth c s₁ B hml hv
  obtain ⟨rfl, ⟨hP, hK⟩, hN⟩ := hv
  have hx := B.exec
  have hb := B.bytes
  have hr := B.returns
  have hts := atoms_spec (ws := wz yX12_valueFrom cX12_valueFrom 5 (some .int)) B.pre
  have ht : ∀ w ∈ lw_gd, w.before _ s₀ = true := fun w h => hts w (List.mem_cons_of_mem _ h)
  have hown : s₀.vm.findClass RX12 = some m.cls := findClass_of_methodNamed B.named
  have hlocks := B.notSynchronized
  have hS : va_S (fun _ => False) s₀.heap s₀.heap [] := va_S.rf
  have hl := lv_entry ([.ref (a 200), .int p0, .int p1]) (n := 5) (Nat.le_of_ble_eq_true rfl)
  rw [lg_entry_eq]
  generalize (lg_sl ([.ref (a 200), .int p0, .int p1]) ++ List.replicate (5 - (lg_sl ([.ref (a 200), .int p0, .int p1])).length) Slot.unset).toArray = ls at hl ⊢
  have hl : lv_has ls 5 [(0, .ref (a 200)), (1, .int p0), (2, .int p1)] := hl
  unfold m_x12_valueFrom at h
  refine y_head (pcJ := 74) (σ := Int32) (fun u H locs ls => va_P D vwCl (RW D a s) H ∧ va_S (fun _ => False) s₀.heap H locs ∧ lv_has ls 5 [] ∧ m_x12_valueFrom_J74 s u = some o) (fun u => [.int u]) (fun u H locs ls hI => ?_) (fun J74 => ?_)
  · obtain ⟨hP, hS, hl, h⟩ := hI
    obtain ⟨x1, rfl⟩ : ∃ z, z = u := ⟨u, rfl⟩
    have hP : va_P D vwCl (RW D a s) H := hP
    have hl : lv_has ls 5 [] := hl
    have h : m_x12_valueFrom_J74 s x1 = some o := h
    unfold m_x12_valueFrom_J74 at h
    obtain rfl := Option.some.inj h
    exact W.iret (v := x1) hx hb hr (fun t ht hW => ⟨⟨_, (), rfl, rfl, trivial⟩, hS.F ht⟩) hS.2.2 dX12_valueFrom_74
  refine y_head (pcJ := 73) (σ := Unit) (fun u H locs ls => va_P D vwCl (RW D a s) H ∧ va_S (fun _ => False) s₀.heap H locs ∧ lv_has ls 5 [] ∧ m_x12_valueFrom_J73 s u = some o) (fun u => []) (fun u H locs ls hI => ?_) (fun J73 => ?_)
  · obtain ⟨hP, hS, hl, h⟩ := hI
    skip
    have hP : va_P D vwCl (RW D a s) H := hP
    have hl : lv_has ls 5 [] := hl
    have h : m_x12_valueFrom_J73 s () = some o := h
    unfold m_x12_valueFrom_J73 at h
    refine lv_iconst (v := (-1)) hx hb dX12_valueFrom_73 (by decide) ?_
    exact J74 (-1) _ _ _ ⟨hP, hS, lv_sub hl [] rfl, h⟩
  refine y_loop (pcJ := 11) (σ := Int32 × Int32) (fun n u H locs ls => va_P D vwCl (RW D a s) H ∧ va_S (fun _ => False) s₀.heap H locs ∧ lv_has ls 5 [(0, .ref (a 200)), (2, .int u.1), (3, .int u.2)] ∧ m_x12_valueFrom_L11 s n u.1 u.2 = some o) (fun u => []) (fun u H locs ls hI => by obtain ⟨_, _, _, h⟩ := hI; cases h) (fun n11 ih11 u H locs ls hI => ?_) (fun J11 => ?_)
  · obtain ⟨hP, hS, hl, h⟩ := hI
    obtain ⟨x2, x3⟩ := u
    have hP : va_P D vwCl (RW D a s) H := hP
    have hl : lv_has ls 5 [(0, .ref (a 200)), (2, .int x2), (3, .int x3)] := hl
    have h : m_x12_valueFrom_b11 s (m_x12_valueFrom_L11 s n11) x2 x3 = some o := h
    unfold m_x12_valueFrom_b11 at h
    refine lv_aload_n hx hb dX12_valueFrom_11 rfl (lv_at hl 0 rfl) ?_
    refine lv_iload_n hx hb dX12_valueFrom_12 rfl (lv_at hl 2 rfl) ?_
    obtain ⟨r5, hc4, h⟩ := bn_e h
    refine ycV (As := [.int x3]) (rest := []) (C := RX12) (n := 1) ⟨hx, hb, hml, hown, ht⟩ (k_x12_levelOf l D a x3 _ _ hc4) (zgV ml_X12_460 im_X12_levelOf se_X12_levelOf in_X12 co_X12_levelOf) rfl rfl (by decide +kernel) ⟨Nat.le_of_ble_eq_true rfl, Nat.le_of_ble_eq_true rfl⟩ hN hK hP hS 0 RW_0 rfl rfl rfl hl.1 rfl (Nat.le_of_ble_eq_true rfl) dX12_valueFrom_13 ⟨Nat.le_of_ble_eq_true rfl, Nat.le_of_ble_eq_true rfl⟩ (fun H locs hP hS => ?_)
    refine lv_if_le (tgt := 34) hx hb dX12_valueFrom_16 (by decide) (fun c6 => ?_) (fun c6 => ?_)
    · have h := if_t c6 h
      refine lv_aload_n hx hb dX12_valueFrom_34 rfl (lv_at hl 0 rfl) ?_
      refine lv_iload_n hx hb dX12_valueFrom_35 rfl (lv_at hl 2 rfl) ?_
      refine lv_iload_n hx hb dX12_valueFrom_36 rfl (lv_at hl 1 rfl) ?_
      obtain ⟨r8, hc7, h⟩ := bn_e h
      refine ycV (As := [.int x3, .int x2]) (rest := []) (C := RX12) (n := 2) ⟨hx, hb, hml, hown, ht⟩ (k_x12_placeIn l D a x3 x2 _ _ hc7) (zgV ml_X12_550 im_X12_placeIn se_X12_placeIn in_X12 co_X12_placeIn) rfl rfl (by decide +kernel) ⟨Nat.le_of_ble_eq_true rfl, Nat.le_of_ble_eq_true rfl⟩ hN hK hP hS 0 RW_0 rfl rfl rfl hl.1 rfl (Nat.le_of_ble_eq_true rfl) dX12_valueFrom_37 ⟨Nat.le_of_ble_eq_true rfl, Nat.le_of_ble_eq_true rfl⟩ (fun H locs hP hS => ?_)
      refine lv_istore (lv' := [(4, .int r8), (0, .ref (a 200)), (2, .int x2), (3, .int x3)]) hx hb dX12_valueFrom_40 hl (by decide) rfl (fun ls hl => ?_)
      refine lv_iload hx hb dX12_valueFrom_42 (lv_at hl 0 rfl) ?_
      refine lv_aload_n hx hb dX12_valueFrom_44 rfl (lv_at hl 1 rfl) ?_
      refine lv_iload_n hx hb dX12_valueFrom_45 rfl (lv_at hl 3 rfl) ?_
      obtain ⟨r10, hc9, h⟩ := bn_e h
      refine ycV (As := [.int x3]) (rest := [.int r8]) (C := RX12) (n := 1) ⟨hx, hb, hml, hown, ht⟩ (k_x12_entriesOf l D a x3 _ _ hc9) (zgV ml_X12_466 im_X12_entriesOf se_X12_entriesOf in_X12 co_X12_entriesOf) rfl rfl (by decide +kernel) ⟨Nat.le_of_ble_eq_true rfl, Nat.le_of_ble_eq_true rfl⟩ hN hK hP hS 0 RW_0 rfl rfl rfl hl.1 rfl (Nat.le_of_ble_eq_true rfl) dX12_valueFrom_46 ⟨Nat.le_of_ble_eq_true rfl, Nat.le_of_ble_eq_true rfl⟩ (fun H locs hP hS => ?_)
      refine lv_icmp_ge (tgt := 73) hx hb dX12_valueFrom_49 (by decide) (fun c11 => ?_) (fun c11 => ?_)
      · have h := if_t c11 h
        exact J73 () _ _ _ ⟨hP, hS, lv_sub hl [] rfl, h⟩
      · have h := if_f c11 h
        refine lv_aload_n hx hb dX12_valueFrom_52 rfl (lv_at hl 1 rfl) ?_
        refine lv_iload_n hx hb dX12_valueFrom_53 rfl (lv_at hl 3 rfl) ?_
        refine lv_iload hx hb dX12_valueFrom_54 (lv_at hl 0 rfl) ?_
        obtain ⟨r13, hc12, h⟩ := bn_e h
        refine ycV (As := [.int x3, .int r8]) (rest := []) (C := RX12) (n := 2) ⟨hx, hb, hml, hown, ht⟩ (k_x12_keyAt l D a x3 r8 _ _ hc12) (zgV ml_X12_517 im_X12_keyAt se_X12_keyAt in_X12 co_X12_keyAt) rfl rfl (by decide +kernel) ⟨Nat.le_of_ble_eq_true rfl, Nat.le_of_ble_eq_true rfl⟩ hN hK hP hS 0 RW_0 rfl rfl rfl hl.1 rfl (Nat.le_of_ble_eq_true rfl) dX12_valueFrom_56 ⟨Nat.le_of_ble_eq_true rfl, Nat.le_of_ble_eq_true rfl⟩ (fun H locs hP hS => ?_)
        refine lv_iload_n hx hb dX12_valueFrom_59 rfl (lv_at hl 2 rfl) ?_
        refine lv_icmp_ne (tgt := 73) hx hb dX12_valueFrom_60 (by decide) (fun c14 => ?_) (fun c14 => ?_)
        · have h := if_f c14 h
          exact J73 () _ _ _ ⟨hP, hS, lv_sub hl [] rfl, h⟩
        · have h := if_t c14 h
          refine lv_aload_n hx hb dX12_valueFrom_63 rfl (lv_at hl 1 rfl) ?_
          refine lv_iload_n hx hb dX12_valueFrom_64 rfl (lv_at hl 3 rfl) ?_
          refine lv_iload hx hb dX12_valueFrom_65 (lv_at hl 0 rfl) ?_
          obtain ⟨r16, hc15, h⟩ := bn_e h
          refine ycV (As := [.int x3, .int r8]) (rest := []) (C := RX12) (n := 2) ⟨hx, hb, hml, hown, ht⟩ (k_x12_valueAt l D a x3 r8 _ _ hc15) (zgV ml_X12_505 im_X12_valueAt se_X12_valueAt in_X12 co_X12_valueAt) rfl rfl (by decide +kernel) ⟨Nat.le_of_ble_eq_true rfl, Nat.le_of_ble_eq_true rfl⟩ hN hK hP hS 0 RW_0 rfl rfl rfl hl.1 rfl (Nat.le_of_ble_eq_true rfl) dX12_valueFrom_67 ⟨Nat.le_of_ble_eq_true rfl, Nat.le_of_ble_eq_true rfl⟩ (fun H locs hP hS => ?_)
          refine lv_goto (tgt := 74) hx hb dX12_valueFrom_70 (by decide) ?_
          exact J74 r16 _ _ _ ⟨hP, hS, lv_sub hl [] rfl, h⟩
    · have h := if_f c6 h
      refine lv_aload_n hx hb dX12_valueFrom_19 rfl (lv_at hl 0 rfl) ?_
      refine lv_iload_n hx hb dX12_valueFrom_20 rfl (lv_at hl 2 rfl) ?_
      refine lv_aload_n hx hb dX12_valueFrom_21 rfl (lv_at hl 0 rfl) ?_
      refine lv_iload_n hx hb dX12_valueFrom_22 rfl (lv_at hl 2 rfl) ?_
      refine lv_iload_n hx hb dX12_valueFrom_23 rfl (lv_at hl 1 rfl) ?_
      obtain ⟨r18, hc17, h⟩ := bn_e h
      refine ycV (As := [.int x3, .int x2]) (rest := [.int x3, .ref (a 200)]) (C := RX12) (n := 2) ⟨hx, hb, hml, hown, ht⟩ (k_x12_placeFor l D a x3 x2 _ _ hc17) (zgV ml_X12_543 im_X12_placeFor se_X12_placeFor in_X12 co_X12_placeFor) rfl rfl (by decide +kernel) ⟨Nat.le_of_ble_eq_true rfl, Nat.le_of_ble_eq_true rfl⟩ hN hK hP hS 0 RW_0 rfl rfl rfl hl.1 rfl (Nat.le_of_ble_eq_true rfl) dX12_valueFrom_24 ⟨Nat.le_of_ble_eq_true rfl, Nat.le_of_ble_eq_true rfl⟩ (fun H locs hP hS => ?_)
      obtain ⟨r20, hc19, h⟩ := bn_e h
      refine ycV (As := [.int x3, .int r18]) (rest := []) (C := RX12) (n := 2) ⟨hx, hb, hml, hown, ht⟩ (k_x12_valueAt l D a x3 r18 _ _ hc19) (zgV ml_X12_505 im_X12_valueAt se_X12_valueAt in_X12 co_X12_valueAt) rfl rfl (by decide +kernel) ⟨Nat.le_of_ble_eq_true rfl, Nat.le_of_ble_eq_true rfl⟩ hN hK hP hS 0 RW_0 rfl rfl rfl hl.1 rfl (Nat.le_of_ble_eq_true rfl) dX12_valueFrom_27 ⟨Nat.le_of_ble_eq_true rfl, Nat.le_of_ble_eq_true rfl⟩ (fun H locs hP hS => ?_)
      refine lv_istore_n (lv' := [(3, .int r20), (0, .ref (a 200)), (2, .int x2)]) hx hb dX12_valueFrom_30 rfl hl (by decide) rfl (fun ls hl => ?_)
      refine lv_goto (tgt := 11) hx hb dX12_valueFrom_31 (by decide) ?_
      exact ih11 (x2, r20) _ _ _ ⟨hP, hS, lv_sub hl [1, 2, 0] rfl, h⟩
  refine lv_iload_n hx hb dX12_valueFrom_0 rfl (lv_at hl 1 rfl) ?_
  refine lv_sipush (v := 254) hx hb dX12_valueFrom_1 (by decide) ?_
  refine lv_icmp_lt (tgt := 9) hx hb dX12_valueFrom_4 (by decide) (fun c21 => ?_) (fun c21 => ?_)
  · have h := if_t c21 h
    refine lv_iload_n hx hb dX12_valueFrom_9 rfl (lv_at hl 1 rfl) ?_
    refine lv_istore_n (lv' := [(3, .int p0), (0, .ref (a 200)), (1, .int p0), (2, .int p1)]) hx hb dX12_valueFrom_10 rfl hl (by decide) rfl (fun ls hl => ?_)
    exact J11 FU (p1, p0) _ _ _ ⟨hP, hS, lv_sub hl [1, 3, 0] rfl, h⟩
  · have h := if_f c21 h
    refine lv_iconst (v := (-1)) hx hb dX12_valueFrom_7 (by decide) ?_
    obtain rfl := Option.some.inj h
    exact W.iret (v := (-1)) hx hb hr (fun t ht hW => ⟨⟨_, (), rfl, rfl, trivial⟩, hS.F ht⟩) hS.2.2 dX12_valueFrom_8
def m_x12_valueOf (p0 : Int32) (p1 : Int32) (s : MS) : Option Int32 :=
  rdI (gA s 49) 906 p0 (fun y1 => bn (m_x12_valueFrom y1 p1 s) (fun r3 => some r3))
set_option maxHeartbeats 4000000 in
set_option maxRecDepth 100000 in
theorem k_x12_valueOf (l : Launch) (D : va_G) (a : Nat → Nat) (p0 : Int32) (p1 : Int32) (s : MS) (o : Int32) (h : m_x12_valueOf p0 p1 s = some o) : yRi l yX12_valueOf cX12_valueOf 3 (some .int) { frames := 3, cells := 0, slots := 0, locals := 180 } D [.ref (a 200), .int p0, .int p1] (RW D a s) o := by
  refine Met.ofW (cc := cX12_valueOf) (maxL := 3) (ret := (some .int)) (by decide) rfl ?_
  intro p e s₀ m args below meth c s₁ B hml hv
  obtain ⟨rfl, ⟨hP, hK⟩, hN⟩ := hv
  have hx := B.exec
  have hb := B.bytes
  have hr := B.returns
  have hts := atoms_spec (ws := wz yX12_valueOf cX12_valueOf 3 (some .int)) B.pre
  have ht : ∀ w ∈ lw_gd, w.before _ s₀ = true := fun w h => hts w (List.mem_cons_of_mem _ h)
  have hown : s₀.vm.findClass RX12 = some m.cls := findClass_of_methodNamed B.named
  have hlocks := B.notSynchronized
  have hS : va_S (fun _ => False) s₀.heap s₀.heap [] := va_S.rf
  have hl := lv_entry ([.ref (a 200), .int p0, .int p1]) (n := 3) (Nat.le_of_ble_eq_true rfl)
  rw [lg_entry_eq]
  generalize (lg_sl ([.ref (a 200), .int p0, .int p1]) ++ List.replicate (3 - (lg_sl ([.ref (a 200), .int p0, .int p1])).length) Slot.unset).toArray = ls at hl ⊢
  have hl : lv_has ls 3 [(0, .ref (a 200)), (1, .int p0), (2, .int p1)] := hl
  unfold m_x12_valueOf at h
  refine lv_aload_n hx hb dX12_valueOf_0 rfl (lv_at hl 0 rfl) ?_
  refine lv_aload_n hx hb dX12_valueOf_1 rfl (lv_at hl 0 rfl) ?_
  refine va_get (D := D) (ci := 12) (v := .ref (a 49)) (C := RX12) (T := TX12) (N := 116) hx hb ht inX12 hown hK hP 0 RW_0 rfl 49 (by decide) (ht (.fieldLink RX12 121 "CloneVolumesModel" "now" "[I") fl_X12_121) (fun _ h9 => h9) mF_49 dX12_valueOf_2 ?_
  refine lv_iload_n hx hb dX12_valueOf_5 rfl (lv_at hl 1 rfl) ?_
  obtain ⟨y1, ey1, iy1, h⟩ := rdI_e h
  refine ya_iald hx hb hK hP 36 0 RW_36 rfl ey1 iy1 dX12_valueOf_6 ?_
  refine lv_iload_n hx hb dX12_valueOf_7 rfl (lv_at hl 2 rfl) ?_
  obtain ⟨r3, hc2, h⟩ := bn_e h
  refine ycV (As := [.int y1, .int p1]) (rest := []) (C := RX12) (n := 2) ⟨hx, hb, hml, hown, ht⟩ (k_x12_valueFrom l D a y1 p1 _ _ hc2) (zgV ml_X12_621 im_X12_valueFrom se_X12_valueFrom in_X12 co_X12_valueFrom) rfl rfl (by decide +kernel) ⟨Nat.le_of_ble_eq_true rfl, Nat.le_of_ble_eq_true rfl⟩ hN hK hP hS 0 RW_0 rfl rfl rfl hl.1 rfl (Nat.le_of_ble_eq_true rfl) dX12_valueOf_8 ⟨Nat.le_of_ble_eq_true rfl, Nat.le_of_ble_eq_true rfl⟩ (fun H locs hP hS => ?_)
  obtain rfl := Option.some.inj h
  exact W.iret (v := r3) hx hb hr (fun t ht hW => ⟨⟨_, (), rfl, rfl, trivial⟩, hS.F ht⟩) hS.2.2 dX12_valueOf_11
def m_x12_tries_b164 (lr164 : Int32 → MS → Option (Int32 × MS)) (x1 : Int32) (s2 : MS) : Option (Int32 × MS) :=
  if 48 ≤ x1 then stn (sI s2 55 0) (fun s4 => some (0, s4)) else rdI (gA s2 60) 48 x1 (fun y5 => inb 48 x1 (stn (sA s2 54 (upd (gA s2 54) (Int32.toNatClampNeg x1) (vp_nar .boolean y5))) (fun s7 => lr164 (x1 + 1) s7)))
def m_x12_tries_L164 (n : Nat) : Int32 → MS → Option (Int32 × MS) := lp (fun _ _ => none) (m_x12_tries_b164) n
def m_x12_tries_b133 (lr133 : Int32 → MS → Option (Int32 × MS)) (x8 : Int32) (s9 : MS) : Option (Int32 × MS) :=
  if 785 ≤ x8 then m_x12_tries_L164 FU 0 s9 else rdI (gA s9 59) 785 x8 (fun y11 => inb 906 x8 (stn (sA s9 49 (upd (gA s9 49) (Int32.toNatClampNeg x8) y11)) (fun s13 => lr133 (x8 + 1) s13)))
def m_x12_tries_L133 (n : Nat) : Int32 → MS → Option (Int32 × MS) := lp (fun _ _ => none) (m_x12_tries_b133) n
def m_x12_tries_J121 (s14 : MS) : Option (Int32 × MS) :=
  if (gI s14 55) = 0 then some (1, s14) else m_x12_tries_L133 FU 0 s14
def m_x12_tries_J108 (x16 : Int32) (x17 : Int32) (s18 : MS) : Option (Int32 × MS) :=
  if (gI s18 55) = 0 then bn (m_x12_removes x16 x17 s18) (fun s21 => m_x12_tries_J121 s21) else m_x12_tries_J121 s18
def m_x12_tries_J82 (x22 : Int32) (x23 : Int32) (x24 : Int32) (x25 : Int32) (x26 : Int32) (s27 : MS) : Option (Int32 × MS) :=
  bo x26 (stn (sI s27 55 x26) (fun s29 => if (gI s29 55) = 0 then if x22 = 2 then bn (m_x12_puts x23 x24 x25 s29) (fun s33 => m_x12_tries_J121 s33) else m_x12_tries_J108 x23 x24 s29 else m_x12_tries_J108 x23 x24 s29))
def m_x12_tries_J81 (x34 : Int32) (x35 : Int32) (x36 : Int32) (x37 : Int32) (s38 : MS) : Option (Int32 × MS) :=
  m_x12_tries_J82 x34 x35 x36 x37 0 s38
def m_x12_tries_b34 (lr34 : Int32 → Int32 → Int32 → Int32 → Int32 → MS → Option (Int32 × MS)) (x39 : Int32) (x40 : Int32) (x41 : Int32) (x42 : Int32) (x43 : Int32) (s44 : MS) : Option (Int32 × MS) :=
  if 48 ≤ x43 then if x39 = 3 then bn (m_x12_valueOf x40 x41 s44) (fun r48 => if r48 = (-1) then m_x12_tries_J82 x39 x40 x41 x42 1 s44 else m_x12_tries_J81 x39 x40 x41 x42 s44) else m_x12_tries_J81 x39 x40 x41 x42 s44 else rdI (gA s44 54) 48 x43 (fun y50 => inb 48 x43 (stn (sA s44 60 (upd (gA s44 60) (Int32.toNatClampNeg x43) (vp_nar .boolean y50))) (fun s52 => lr34 x39 x40 x41 x42 (x43 + 1) s52)))
def m_x12_tries_L34 (n : Nat) : Int32 → Int32 → Int32 → Int32 → Int32 → MS → Option (Int32 × MS) := lp (fun _ _ _ _ _ _ => none) (m_x12_tries_b34) n
def m_x12_tries_b3 (lr3 : Int32 → Int32 → Int32 → Int32 → Int32 → MS → Option (Int32 × MS)) (x53 : Int32) (x54 : Int32) (x55 : Int32) (x56 : Int32) (x57 : Int32) (s58 : MS) : Option (Int32 × MS) :=
  if 785 ≤ x57 then m_x12_tries_L34 FU x53 x54 x55 x56 0 s58 else rdI (gA s58 49) 906 x57 (fun y60 => inb 785 x57 (stn (sA s58 59 (upd (gA s58 59) (Int32.toNatClampNeg x57) y60)) (fun s62 => lr3 x53 x54 x55 x56 (x57 + 1) s62)))
def m_x12_tries_L3 (n : Nat) : Int32 → Int32 → Int32 → Int32 → Int32 → MS → Option (Int32 × MS) := lp (fun _ _ _ _ _ _ => none) (m_x12_tries_b3) n
def m_x12_tries (p0 : Int32) (p1 : Int32) (p2 : Int32) (p3 : Int32) (s : MS) : Option (Int32 × MS) :=
  m_x12_tries_L3 FU p0 p1 p2 p3 0 s
set_option maxHeartbeats 4000000 in
set_option maxRecDepth 100000 in
theorem k_x12_tries (l : Launch) (D : va_G) (a : Nat → Nat) (p0 : Int32) (p1 : Int32) (p2 : Int32) (p3 : Int32) (sz : Nat) (s : MS) (o : (Int32 × MS)) (h : m_x12_tries p0 p1 p2 p3 s = some o) : yWi l yX12_tries cX12_tries 6 (some .boolean) { frames := 9, cells := 0, slots := 0, locals := 540 } D sz [.ref (a 200), .int p0, .int p1, .int p2, .int p3] (RW D a s) (RW D a o.2) o.1 := by
  refine Met.ofW (cc := cX12_tries) (maxL := 6) (ret := (some .boolean)) (by decide) rfl ?_
  intro p e s₀ m args below meth c s₁ B hml hv
  obtain ⟨rfl, ⟨hsz, hP, hK, hD0⟩, hN⟩ := hv
  have hx := B.exec
  have hb := B.bytes
  have hr := B.returns
  have hts := atoms_spec (ws := wz yX12_tries cX12_tries 6 (some .boolean)) B.pre
  have ht : ∀ w ∈ lw_gd, w.before _ s₀ = true := fun w h => hts w (List.mem_cons_of_mem _ h)
  have hown : s₀.vm.findClass RX12 = some m.cls := findClass_of_methodNamed B.named
  have hlocks := B.notSynchronized
  subst hsz
  have hD := hD0.self (sz := s₀.heap.size)
  generalize hAe : va_A (RW D a s) s₀.heap.size = A at hD ⊢
  have hA : ∀ q : Nat, s₀.heap.size ≤ q → A q := fun q h => by rw [← hAe]; exact Or.inr h
  have hS : va_S A s₀.heap s₀.heap [] := va_S.rf
  have hDD : ∀ t : MS, va_D A (RW D a t) := fun t => RW_D t hD
  have hl := lv_entry ([.ref (a 200), .int p0, .int p1, .int p2, .int p3]) (n := 6) (Nat.le_of_ble_eq_true rfl)
  rw [lg_entry_eq]
  generalize (lg_sl ([.ref (a 200), .int p0, .int p1, .int p2, .int p3]) ++ List.replicate (6 - (lg_sl ([.ref (a 200), .int p0, .int p1, .int p2, .int p3])).length) Slot.unset).toArray = ls at hl ⊢
  have hl : lv_has ls 6 [(0, .ref (a 200)), (1, .int p0), (2, .int p1), (3, .int p2), (4, .int p3)] := hl
  unfold m_x12_tries at h
  refine y_loop (pcJ := 164) (σ := Int32 × MS) (fun n u H locs ls => va_P D vwCl (RW D a u.2) H ∧ va_S A s₀.heap H locs ∧ lv_has ls 6 [(0, .ref (a 200)), (5, .int u.1)] ∧ m_x12_tries_L164 n u.1 u.2 = some o) (fun u => []) (fun u H locs ls hI => by obtain ⟨_, _, _, h⟩ := hI; cases h) (fun n164 ih164 u H locs ls hI => ?_) (fun J164 => ?_)
  · obtain ⟨hP, hS, hl, h⟩ := hI
    obtain ⟨x1, s2⟩ := u
    have hP : va_P D vwCl (RW D a s2) H := hP
    have hl : lv_has ls 6 [(0, .ref (a 200)), (5, .int x1)] := hl
    have h : m_x12_tries_b164 (m_x12_tries_L164 n164) x1 s2 = some o := h
    unfold m_x12_tries_b164 at h
    refine lv_iload hx hb dX12_tries_164 (lv_at hl 1 rfl) ?_
    refine lv_bipush (v := 48) hx hb dX12_tries_166 (by decide) ?_
    refine lv_icmp_ge (tgt := 191) hx hb dX12_tries_168 (by decide) (fun c3 => ?_) (fun c3 => ?_)
    · have h := if_t c3 h
      refine lv_aload_n hx hb dX12_tries_191 rfl (lv_at hl 0 rfl) ?_
      refine lv_iconst (v := 0) hx hb dX12_tries_192 (by decide) ?_
      refine ya_put (D := D) (ci := 12) (v := .int 0) (ty := .boolean) (C := RX12) (T := TX12) (N := 116) hx hb ht inX12 tyX12 tyX12_ok nmX12 hown hK hP (hDD _) hS 0 RW_0 rfl 55 (by decide) (ht (.fieldLink RX12 493 "CloneVolumesModel" "isFull" "Z") fl_X12_493) (fun _ h9 => h9) rfl (by decide +kernel) (by decide) (by decide) (by rw [mF_len]; decide) dX12_tries_193 (RW_f55 _) (fun H locs hP hS => ?_)
      obtain ⟨s4, hs4, h⟩ := st_e h
      rw [hs4] at hP
      refine lv_iconst (v := 0) hx hb dX12_tries_196 (by decide) ?_
      obtain rfl := Option.some.inj h
      exact W.zret (v := 0) hx hb hr (by decide) (fun t ht hW => ⟨⟨_, (), rfl, rfl, by rw [ht]; exact hP, va_K.moved hW.alike hK, hDD _⟩, hS.F ht⟩) hS.2.2 dX12_tries_197
    · have h := if_f c3 h
      refine lv_aload_n hx hb dX12_tries_171 rfl (lv_at hl 0 rfl) ?_
      refine va_get (D := D) (ci := 12) (v := .ref (a 54)) (C := RX12) (T := TX12) (N := 116) hx hb ht inX12 hown hK hP 0 RW_0 rfl 54 (by decide) (ht (.fieldLink RX12 124 "CloneVolumesModel" "isTouched" "[Z") fl_X12_124) (fun _ h9 => h9) mF_54 dX12_tries_172 ?_
      refine lv_iload hx hb dX12_tries_175 (lv_at hl 1 rfl) ?_
      refine lv_aload_n hx hb dX12_tries_177 rfl (lv_at hl 0 rfl) ?_
      refine va_get (D := D) (ci := 12) (v := .ref (a 60)) (C := RX12) (T := TX12) (N := 116) hx hb ht inX12 hown hK hP 0 RW_0 rfl 60 (by decide) (ht (.fieldLink RX12 140 "CloneVolumesModel" "wasTouched" "[Z") fl_X12_140) (fun _ h9 => h9) mF_60 dX12_tries_178 ?_
      refine lv_iload hx hb dX12_tries_181 (lv_at hl 1 rfl) ?_
      obtain ⟨y5, ey5, iy5, h⟩ := rdI_e h
      refine ya_zald hx hb hK hP 42 3 RW_42 rfl ey5 iy5 dX12_tries_183 ?_
      obtain ⟨hi6, h⟩ := inb_e h
      refine ya_zast hx hb hK hP (hDD _) hS 37 3 RW_37 rfl hi6 dX12_tries_184 (RW_w37 _) (fun H locs hP hS => ?_)
      obtain ⟨s7, hs7, h⟩ := st_e h
      rw [hs7] at hP
      refine lv_iinc (v := x1 + 1) (lv' := [(5, .int (x1 + 1)), (0, .ref (a 200))]) hx hb dX12_tries_185 hl (k := 1) rfl rfl (by decide) rfl (fun ls hl => ?_)
      refine lv_goto (tgt := 164) hx hb dX12_tries_188 (by decide) ?_
      exact ih164 (x1 + 1, s7) _ _ _ ⟨hP, hS, lv_sub hl [1, 0] rfl, h⟩
  refine y_loop (pcJ := 133) (σ := Int32 × MS) (fun n u H locs ls => va_P D vwCl (RW D a u.2) H ∧ va_S A s₀.heap H locs ∧ lv_has ls 6 [(0, .ref (a 200)), (5, .int u.1)] ∧ m_x12_tries_L133 n u.1 u.2 = some o) (fun u => []) (fun u H locs ls hI => by obtain ⟨_, _, _, h⟩ := hI; cases h) (fun n133 ih133 u H locs ls hI => ?_) (fun J133 => ?_)
  · obtain ⟨hP, hS, hl, h⟩ := hI
    obtain ⟨x8, s9⟩ := u
    have hP : va_P D vwCl (RW D a s9) H := hP
    have hl : lv_has ls 6 [(0, .ref (a 200)), (5, .int x8)] := hl
    have h : m_x12_tries_b133 (m_x12_tries_L133 n133) x8 s9 = some o := h
    unfold m_x12_tries_b133 at h
    refine lv_iload hx hb dX12_tries_133 (lv_at hl 1 rfl) ?_
    refine lv_sipush (v := 785) hx hb dX12_tries_135 (by decide) ?_
    refine lv_icmp_ge (tgt := 161) hx hb dX12_tries_138 (by decide) (fun c10 => ?_) (fun c10 => ?_)
    · have h := if_t c10 h
      refine lv_iconst (v := 0) hx hb dX12_tries_161 (by decide) ?_
      refine lv_istore (lv' := [(5, .int 0), (0, .ref (a 200))]) hx hb dX12_tries_162 hl (by decide) rfl (fun ls hl => ?_)
      exact J164 FU (0, s9) _ _ _ ⟨hP, hS, lv_sub hl [1, 0] rfl, h⟩
    · have h := if_f c10 h
      refine lv_aload_n hx hb dX12_tries_141 rfl (lv_at hl 0 rfl) ?_
      refine va_get (D := D) (ci := 12) (v := .ref (a 49)) (C := RX12) (T := TX12) (N := 116) hx hb ht inX12 hown hK hP 0 RW_0 rfl 49 (by decide) (ht (.fieldLink RX12 121 "CloneVolumesModel" "now" "[I") fl_X12_121) (fun _ h9 => h9) mF_49 dX12_tries_142 ?_
      refine lv_iload hx hb dX12_tries_145 (lv_at hl 1 rfl) ?_
      refine lv_aload_n hx hb dX12_tries_147 rfl (lv_at hl 0 rfl) ?_
      refine va_get (D := D) (ci := 12) (v := .ref (a 59)) (C := RX12) (T := TX12) (N := 116) hx hb ht inX12 hown hK hP 0 RW_0 rfl 59 (by decide) (ht (.fieldLink RX12 137 "CloneVolumesModel" "tried" "[I") fl_X12_137) (fun _ h9 => h9) mF_59 dX12_tries_148 ?_
      refine lv_iload hx hb dX12_tries_151 (lv_at hl 1 rfl) ?_
      obtain ⟨y11, ey11, iy11, h⟩ := rdI_e h
      refine ya_iald hx hb hK hP 41 0 RW_41 rfl ey11 iy11 dX12_tries_153 ?_
      obtain ⟨hi12, h⟩ := inb_e h
      refine ya_iast hx hb hK hP (hDD _) hS 36 0 RW_36 rfl hi12 dX12_tries_154 (RW_w36 _) (fun H locs hP hS => ?_)
      obtain ⟨s13, hs13, h⟩ := st_e h
      rw [hs13] at hP
      refine lv_iinc (v := x8 + 1) (lv' := [(5, .int (x8 + 1)), (0, .ref (a 200))]) hx hb dX12_tries_155 hl (k := 1) rfl rfl (by decide) rfl (fun ls hl => ?_)
      refine lv_goto (tgt := 133) hx hb dX12_tries_158 (by decide) ?_
      exact ih133 (x8 + 1, s13) _ _ _ ⟨hP, hS, lv_sub hl [1, 0] rfl, h⟩
  refine y_head (pcJ := 121) (σ := MS) (fun u H locs ls => va_P D vwCl (RW D a u) H ∧ va_S A s₀.heap H locs ∧ lv_has ls 6 [(0, .ref (a 200))] ∧ m_x12_tries_J121 u = some o) (fun u => []) (fun u H locs ls hI => ?_) (fun J121 => ?_)
  · obtain ⟨hP, hS, hl, h⟩ := hI
    obtain ⟨s14, rfl⟩ : ∃ z, z = u := ⟨u, rfl⟩
    have hP : va_P D vwCl (RW D a s14) H := hP
    have hl : lv_has ls 6 [(0, .ref (a 200))] := hl
    have h : m_x12_tries_J121 s14 = some o := h
    unfold m_x12_tries_J121 at h
    refine lv_aload_n hx hb dX12_tries_121 rfl (lv_at hl 0 rfl) ?_
    refine va_get (D := D) (ci := 12) (v := .int (gI s14 55)) (C := RX12) (T := TX12) (N := 116) hx hb ht inX12 hown hK hP 0 RW_0 rfl 55 (by decide) (ht (.fieldLink RX12 493 "CloneVolumesModel" "isFull" "Z") fl_X12_493) (fun _ h9 => h9) mF_55 dX12_tries_122 ?_
    refine lv_if_ne (tgt := 130) hx hb dX12_tries_125 (by decide) (fun c15 => ?_) (fun c15 => ?_)
    · have h := if_f c15 h
      refine lv_iconst (v := 0) hx hb dX12_tries_130 (by decide) ?_
      refine lv_istore (lv' := [(5, .int 0), (0, .ref (a 200))]) hx hb dX12_tries_131 hl (by decide) rfl (fun ls hl => ?_)
      exact J133 FU (0, s14) _ _ _ ⟨hP, hS, lv_sub hl [1, 0] rfl, h⟩
    · have h := if_t c15 h
      refine lv_iconst (v := 1) hx hb dX12_tries_128 (by decide) ?_
      obtain rfl := Option.some.inj h
      exact W.zret (v := 1) hx hb hr (by decide) (fun t ht hW => ⟨⟨_, (), rfl, rfl, by rw [ht]; exact hP, va_K.moved hW.alike hK, hDD _⟩, hS.F ht⟩) hS.2.2 dX12_tries_129
  refine y_head (pcJ := 108) (σ := Int32 × Int32 × MS) (fun u H locs ls => va_P D vwCl (RW D a u.2.2) H ∧ va_S A s₀.heap H locs ∧ lv_has ls 6 [(0, .ref (a 200)), (2, .int u.1), (3, .int u.2.1)] ∧ m_x12_tries_J108 u.1 u.2.1 u.2.2 = some o) (fun u => []) (fun u H locs ls hI => ?_) (fun J108 => ?_)
  · obtain ⟨hP, hS, hl, h⟩ := hI
    obtain ⟨x16, x17, s18⟩ := u
    have hP : va_P D vwCl (RW D a s18) H := hP
    have hl : lv_has ls 6 [(0, .ref (a 200)), (2, .int x16), (3, .int x17)] := hl
    have h : m_x12_tries_J108 x16 x17 s18 = some o := h
    unfold m_x12_tries_J108 at h
    refine lv_aload_n hx hb dX12_tries_108 rfl (lv_at hl 0 rfl) ?_
    refine va_get (D := D) (ci := 12) (v := .int (gI s18 55)) (C := RX12) (T := TX12) (N := 116) hx hb ht inX12 hown hK hP 0 RW_0 rfl 55 (by decide) (ht (.fieldLink RX12 493 "CloneVolumesModel" "isFull" "Z") fl_X12_493) (fun _ h9 => h9) mF_55 dX12_tries_109 ?_
    refine lv_if_ne (tgt := 121) hx hb dX12_tries_112 (by decide) (fun c19 => ?_) (fun c19 => ?_)
    · have h := if_f c19 h
      exact J121 s18 _ _ _ ⟨hP, hS, lv_sub hl [0] rfl, h⟩
    · have h := if_t c19 h
      refine lv_aload_n hx hb dX12_tries_115 rfl (lv_at hl 0 rfl) ?_
      refine lv_iload_n hx hb dX12_tries_116 rfl (lv_at hl 1 rfl) ?_
      refine lv_iload_n hx hb dX12_tries_117 rfl (lv_at hl 2 rfl) ?_
      obtain ⟨s21, hc20, h⟩ := bn_e h
      refine ywVv (As := [.int x16, .int x17]) (rest := []) (C := RX12) (n := 2) (ws' := RW D a s21) ⟨hx, hb, hml, hown, ht⟩ (k_x12_removes l D a x16 x17 _ _ _ hc20) (zgV ml_X12_565 im_X12_removes se_X12_removes in_X12 co_X12_removes) rfl rfl (by decide +kernel) ⟨Nat.le_of_ble_eq_true rfl, Nat.le_of_ble_eq_true rfl⟩ hN hK hP (hDD _) hS hA 0 RW_0 rfl rfl rfl hl.1 rfl (Nat.le_of_ble_eq_true rfl) dX12_tries_118 ⟨Nat.le_of_ble_eq_true rfl, Nat.le_of_ble_eq_true rfl⟩ (fun H locs hP hS => ?_)
      exact J121 s21 _ _ _ ⟨hP, hS, lv_sub hl [0] rfl, h⟩
  refine y_head (pcJ := 82) (σ := Int32 × Int32 × Int32 × Int32 × Int32 × MS) (fun u H locs ls => va_P D vwCl (RW D a u.2.2.2.2.2) H ∧ va_S A s₀.heap H locs ∧ lv_has ls 6 [(0, .ref (a 200)), (1, .int u.1), (2, .int u.2.1), (3, .int u.2.2.1), (4, .int u.2.2.2.1)] ∧ m_x12_tries_J82 u.1 u.2.1 u.2.2.1 u.2.2.2.1 u.2.2.2.2.1 u.2.2.2.2.2 = some o) (fun u => [.int u.2.2.2.2.1, .ref (a 200)]) (fun u H locs ls hI => ?_) (fun J82 => ?_)
  · obtain ⟨hP, hS, hl, h⟩ := hI
    obtain ⟨x22, x23, x24, x25, x26, s27⟩ := u
    have hP : va_P D vwCl (RW D a s27) H := hP
    have hl : lv_has ls 6 [(0, .ref (a 200)), (1, .int x22), (2, .int x23), (3, .int x24), (4, .int x25)] := hl
    have h : m_x12_tries_J82 x22 x23 x24 x25 x26 s27 = some o := h
    unfold m_x12_tries_J82 at h
    obtain ⟨hb28, h⟩ := bo_e h
    refine ya_put (D := D) (ci := 12) (v := .int x26) (ty := .boolean) (C := RX12) (T := TX12) (N := 116) hx hb ht inX12 tyX12 tyX12_ok nmX12 hown hK hP (hDD _) hS 0 RW_0 rfl 55 (by decide) (ht (.fieldLink RX12 493 "CloneVolumesModel" "isFull" "Z") fl_X12_493) (fun _ h9 => h9) rfl (by decide +kernel) (bo_n hb28) (bo_f hb28) (by rw [mF_len]; decide) dX12_tries_82 (RW_f55 _) (fun H locs hP hS => ?_)
    obtain ⟨s29, hs29, h⟩ := st_e h
    rw [hs29] at hP
    refine lv_aload_n hx hb dX12_tries_85 rfl (lv_at hl 0 rfl) ?_
    refine va_get (D := D) (ci := 12) (v := .int (gI s29 55)) (C := RX12) (T := TX12) (N := 116) hx hb ht inX12 hown hK hP 0 RW_0 rfl 55 (by decide) (ht (.fieldLink RX12 493 "CloneVolumesModel" "isFull" "Z") fl_X12_493) (fun _ h9 => h9) mF_55 dX12_tries_86 ?_
    refine lv_if_ne (tgt := 108) hx hb dX12_tries_89 (by decide) (fun c30 => ?_) (fun c30 => ?_)
    · have h := if_f c30 h
      exact J108 (x23, x24, s29) _ _ _ ⟨hP, hS, lv_sub hl [0, 2, 3] rfl, h⟩
    · have h := if_t c30 h
      refine lv_iload_n hx hb dX12_tries_92 rfl (lv_at hl 1 rfl) ?_
      refine lv_iconst (v := 2) hx hb dX12_tries_93 (by decide) ?_
      refine lv_icmp_ne (tgt := 108) hx hb dX12_tries_94 (by decide) (fun c31 => ?_) (fun c31 => ?_)
      · have h := if_f c31 h
        exact J108 (x23, x24, s29) _ _ _ ⟨hP, hS, lv_sub hl [0, 2, 3] rfl, h⟩
      · have h := if_t c31 h
        refine lv_aload_n hx hb dX12_tries_97 rfl (lv_at hl 0 rfl) ?_
        refine lv_iload_n hx hb dX12_tries_98 rfl (lv_at hl 2 rfl) ?_
        refine lv_iload_n hx hb dX12_tries_99 rfl (lv_at hl 3 rfl) ?_
        refine lv_iload hx hb dX12_tries_100 (lv_at hl 4 rfl) ?_
        obtain ⟨s33, hc32, h⟩ := bn_e h
        refine ywVv (As := [.int x23, .int x24, .int x25]) (rest := []) (C := RX12) (n := 3) (ws' := RW D a s33) ⟨hx, hb, hml, hown, ht⟩ (k_x12_puts l D a x23 x24 x25 _ _ _ hc32) (zgV ml_X12_562 im_X12_puts se_X12_puts in_X12 co_X12_puts) rfl rfl (by decide +kernel) ⟨Nat.le_of_ble_eq_true rfl, Nat.le_of_ble_eq_true rfl⟩ hN hK hP (hDD _) hS hA 0 RW_0 rfl rfl rfl hl.1 rfl (Nat.le_of_ble_eq_true rfl) dX12_tries_102 ⟨Nat.le_of_ble_eq_true rfl, Nat.le_of_ble_eq_true rfl⟩ (fun H locs hP hS => ?_)
        refine lv_goto (tgt := 121) hx hb dX12_tries_105 (by decide) ?_
        exact J121 s33 _ _ _ ⟨hP, hS, lv_sub hl [0] rfl, h⟩
  refine y_head (pcJ := 81) (σ := Int32 × Int32 × Int32 × Int32 × MS) (fun u H locs ls => va_P D vwCl (RW D a u.2.2.2.2) H ∧ va_S A s₀.heap H locs ∧ lv_has ls 6 [(0, .ref (a 200)), (1, .int u.1), (2, .int u.2.1), (3, .int u.2.2.1), (4, .int u.2.2.2.1)] ∧ m_x12_tries_J81 u.1 u.2.1 u.2.2.1 u.2.2.2.1 u.2.2.2.2 = some o) (fun u => [.ref (a 200)]) (fun u H locs ls hI => ?_) (fun J81 => ?_)
  · obtain ⟨hP, hS, hl, h⟩ := hI
    obtain ⟨x34, x35, x36, x37, s38⟩ := u
    have hP : va_P D vwCl (RW D a s38) H := hP
    have hl : lv_has ls 6 [(0, .ref (a 200)), (1, .int x34), (2, .int x35), (3, .int x36), (4, .int x37)] := hl
    have h : m_x12_tries_J81 x34 x35 x36 x37 s38 = some o := h
    unfold m_x12_tries_J81 at h
    refine lv_iconst (v := 0) hx hb dX12_tries_81 (by decide) ?_
    exact J82 (x34, x35, x36, x37, 0, s38) _ _ _ ⟨hP, hS, lv_sub hl [0, 1, 2, 3, 4] rfl, h⟩
  refine y_loop (pcJ := 34) (σ := Int32 × Int32 × Int32 × Int32 × Int32 × MS) (fun n u H locs ls => va_P D vwCl (RW D a u.2.2.2.2.2) H ∧ va_S A s₀.heap H locs ∧ lv_has ls 6 [(0, .ref (a 200)), (1, .int u.1), (2, .int u.2.1), (3, .int u.2.2.1), (4, .int u.2.2.2.1), (5, .int u.2.2.2.2.1)] ∧ m_x12_tries_L34 n u.1 u.2.1 u.2.2.1 u.2.2.2.1 u.2.2.2.2.1 u.2.2.2.2.2 = some o) (fun u => []) (fun u H locs ls hI => by obtain ⟨_, _, _, h⟩ := hI; cases h) (fun n34 ih34 u H locs ls hI => ?_) (fun J34 => ?_)
  · obtain ⟨hP, hS, hl, h⟩ := hI
    obtain ⟨x39, x40, x41, x42, x43, s44⟩ := u
    have hP : va_P D vwCl (RW D a s44) H := hP
    have hl : lv_has ls 6 [(0, .ref (a 200)), (1, .int x39), (2, .int x40), (3, .int x41), (4, .int x42), (5, .int x43)] := hl
    have h : m_x12_tries_b34 (m_x12_tries_L34 n34) x39 x40 x41 x42 x43 s44 = some o := h
    unfold m_x12_tries_b34 at h
    refine lv_iload hx hb dX12_tries_34 (lv_at hl 5 rfl) ?_
    refine lv_bipush (v := 48) hx hb dX12_tries_36 (by decide) ?_
    refine lv_icmp_ge (tgt := 61) hx hb dX12_tries_38 (by decide) (fun c45 => ?_) (fun c45 => ?_)
    · have h := if_t c45 h
      refine lv_aload_n hx hb dX12_tries_61 rfl (lv_at hl 0 rfl) ?_
      refine lv_iload_n hx hb dX12_tries_62 rfl (lv_at hl 1 rfl) ?_
      refine lv_iconst (v := 3) hx hb dX12_tries_63 (by decide) ?_
      refine lv_icmp_ne (tgt := 81) hx hb dX12_tries_64 (by decide) (fun c46 => ?_) (fun c46 => ?_)
      · have h := if_f c46 h
        exact J81 (x39, x40, x41, x42, s44) _ _ _ ⟨hP, hS, lv_sub hl [0, 1, 2, 3, 4] rfl, h⟩
      · have h := if_t c46 h
        refine lv_aload_n hx hb dX12_tries_67 rfl (lv_at hl 0 rfl) ?_
        refine lv_iload_n hx hb dX12_tries_68 rfl (lv_at hl 2 rfl) ?_
        refine lv_iload_n hx hb dX12_tries_69 rfl (lv_at hl 3 rfl) ?_
        obtain ⟨r48, hc47, h⟩ := bn_e h
        refine ycV (As := [.int x40, .int x41]) (rest := [.ref (a 200)]) (C := RX12) (n := 2) ⟨hx, hb, hml, hown, ht⟩ (k_x12_valueOf l D a x40 x41 _ _ hc47) (zgV ml_X12_559 im_X12_valueOf se_X12_valueOf in_X12 co_X12_valueOf) rfl rfl (by decide +kernel) ⟨Nat.le_of_ble_eq_true rfl, Nat.le_of_ble_eq_true rfl⟩ hN hK hP hS 0 RW_0 rfl rfl rfl hl.1 rfl (Nat.le_of_ble_eq_true rfl) dX12_tries_70 ⟨Nat.le_of_ble_eq_true rfl, Nat.le_of_ble_eq_true rfl⟩ (fun H locs hP hS => ?_)
        refine lv_iconst (v := (-1)) hx hb dX12_tries_73 (by decide) ?_
        refine lv_icmp_ne (tgt := 81) hx hb dX12_tries_74 (by decide) (fun c49 => ?_) (fun c49 => ?_)
        · have h := if_f c49 h
          exact J81 (x39, x40, x41, x42, s44) _ _ _ ⟨hP, hS, lv_sub hl [0, 1, 2, 3, 4] rfl, h⟩
        · have h := if_t c49 h
          refine lv_iconst (v := 1) hx hb dX12_tries_77 (by decide) ?_
          refine lv_goto (tgt := 82) hx hb dX12_tries_78 (by decide) ?_
          exact J82 (x39, x40, x41, x42, 1, s44) _ _ _ ⟨hP, hS, lv_sub hl [0, 1, 2, 3, 4] rfl, h⟩
    · have h := if_f c45 h
      refine lv_aload_n hx hb dX12_tries_41 rfl (lv_at hl 0 rfl) ?_
      refine va_get (D := D) (ci := 12) (v := .ref (a 60)) (C := RX12) (T := TX12) (N := 116) hx hb ht inX12 hown hK hP 0 RW_0 rfl 60 (by decide) (ht (.fieldLink RX12 140 "CloneVolumesModel" "wasTouched" "[Z") fl_X12_140) (fun _ h9 => h9) mF_60 dX12_tries_42 ?_
      refine lv_iload hx hb dX12_tries_45 (lv_at hl 5 rfl) ?_
      refine lv_aload_n hx hb dX12_tries_47 rfl (lv_at hl 0 rfl) ?_
      refine va_get (D := D) (ci := 12) (v := .ref (a 54)) (C := RX12) (T := TX12) (N := 116) hx hb ht inX12 hown hK hP 0 RW_0 rfl 54 (by decide) (ht (.fieldLink RX12 124 "CloneVolumesModel" "isTouched" "[Z") fl_X12_124) (fun _ h9 => h9) mF_54 dX12_tries_48 ?_
      refine lv_iload hx hb dX12_tries_51 (lv_at hl 5 rfl) ?_
      obtain ⟨y50, ey50, iy50, h⟩ := rdI_e h
      refine ya_zald hx hb hK hP 37 3 RW_37 rfl ey50 iy50 dX12_tries_53 ?_
      obtain ⟨hi51, h⟩ := inb_e h
      refine ya_zast hx hb hK hP (hDD _) hS 42 3 RW_42 rfl hi51 dX12_tries_54 (RW_w42 _) (fun H locs hP hS => ?_)
      obtain ⟨s52, hs52, h⟩ := st_e h
      rw [hs52] at hP
      refine lv_iinc (v := x43 + 1) (lv' := [(5, .int (x43 + 1)), (0, .ref (a 200)), (1, .int x39), (2, .int x40), (3, .int x41), (4, .int x42)]) hx hb dX12_tries_55 hl (k := 5) rfl rfl (by decide) rfl (fun ls hl => ?_)
      refine lv_goto (tgt := 34) hx hb dX12_tries_58 (by decide) ?_
      exact ih34 (x39, x40, x41, x42, x43 + 1, s52) _ _ _ ⟨hP, hS, lv_sub hl [1, 2, 3, 4, 5, 0] rfl, h⟩
  refine y_loop (pcJ := 3) (σ := Int32 × Int32 × Int32 × Int32 × Int32 × MS) (fun n u H locs ls => va_P D vwCl (RW D a u.2.2.2.2.2) H ∧ va_S A s₀.heap H locs ∧ lv_has ls 6 [(0, .ref (a 200)), (1, .int u.1), (2, .int u.2.1), (3, .int u.2.2.1), (4, .int u.2.2.2.1), (5, .int u.2.2.2.2.1)] ∧ m_x12_tries_L3 n u.1 u.2.1 u.2.2.1 u.2.2.2.1 u.2.2.2.2.1 u.2.2.2.2.2 = some o) (fun u => []) (fun u H locs ls hI => by obtain ⟨_, _, _, h⟩ := hI; cases h) (fun n3 ih3 u H locs ls hI => ?_) (fun J3 => ?_)
  · obtain ⟨hP, hS, hl, h⟩ := hI
    obtain ⟨x53, x54, x55, x56, x57, s58⟩ := u
    have hP : va_P D vwCl (RW D a s58) H := hP
    have hl : lv_has ls 6 [(0, .ref (a 200)), (1, .int x53), (2, .int x54), (3, .int x55), (4, .int x56), (5, .int x57)] := hl
    have h : m_x12_tries_b3 (m_x12_tries_L3 n3) x53 x54 x55 x56 x57 s58 = some o := h
    unfold m_x12_tries_b3 at h
    refine lv_iload hx hb dX12_tries_3 (lv_at hl 5 rfl) ?_
    refine lv_sipush (v := 785) hx hb dX12_tries_5 (by decide) ?_
    refine lv_icmp_ge (tgt := 31) hx hb dX12_tries_8 (by decide) (fun c59 => ?_) (fun c59 => ?_)
    · have h := if_t c59 h
      refine lv_iconst (v := 0) hx hb dX12_tries_31 (by decide) ?_
      refine lv_istore (lv' := [(5, .int 0), (0, .ref (a 200)), (1, .int x53), (2, .int x54), (3, .int x55), (4, .int x56)]) hx hb dX12_tries_32 hl (by decide) rfl (fun ls hl => ?_)
      exact J34 FU (x53, x54, x55, x56, 0, s58) _ _ _ ⟨hP, hS, lv_sub hl [1, 2, 3, 4, 5, 0] rfl, h⟩
    · have h := if_f c59 h
      refine lv_aload_n hx hb dX12_tries_11 rfl (lv_at hl 0 rfl) ?_
      refine va_get (D := D) (ci := 12) (v := .ref (a 59)) (C := RX12) (T := TX12) (N := 116) hx hb ht inX12 hown hK hP 0 RW_0 rfl 59 (by decide) (ht (.fieldLink RX12 137 "CloneVolumesModel" "tried" "[I") fl_X12_137) (fun _ h9 => h9) mF_59 dX12_tries_12 ?_
      refine lv_iload hx hb dX12_tries_15 (lv_at hl 5 rfl) ?_
      refine lv_aload_n hx hb dX12_tries_17 rfl (lv_at hl 0 rfl) ?_
      refine va_get (D := D) (ci := 12) (v := .ref (a 49)) (C := RX12) (T := TX12) (N := 116) hx hb ht inX12 hown hK hP 0 RW_0 rfl 49 (by decide) (ht (.fieldLink RX12 121 "CloneVolumesModel" "now" "[I") fl_X12_121) (fun _ h9 => h9) mF_49 dX12_tries_18 ?_
      refine lv_iload hx hb dX12_tries_21 (lv_at hl 5 rfl) ?_
      obtain ⟨y60, ey60, iy60, h⟩ := rdI_e h
      refine ya_iald hx hb hK hP 36 0 RW_36 rfl ey60 iy60 dX12_tries_23 ?_
      obtain ⟨hi61, h⟩ := inb_e h
      refine ya_iast hx hb hK hP (hDD _) hS 41 0 RW_41 rfl hi61 dX12_tries_24 (RW_w41 _) (fun H locs hP hS => ?_)
      obtain ⟨s62, hs62, h⟩ := st_e h
      rw [hs62] at hP
      refine lv_iinc (v := x57 + 1) (lv' := [(5, .int (x57 + 1)), (0, .ref (a 200)), (1, .int x53), (2, .int x54), (3, .int x55), (4, .int x56)]) hx hb dX12_tries_25 hl (k := 5) rfl rfl (by decide) rfl (fun ls hl => ?_)
      refine lv_goto (tgt := 3) hx hb dX12_tries_28 (by decide) ?_
      exact ih3 (x53, x54, x55, x56, x57 + 1, s62) _ _ _ ⟨hP, hS, lv_sub hl [1, 2, 3, 4, 5, 0] rfl, h⟩
  refine lv_iconst (v := 0) hx hb dX12_tries_0 (by decide) ?_
  refine lv_istore (lv' := [(5, .int 0), (0, .ref (a 200)), (1, .int p0), (2, .int p1), (3, .int p2), (4, .int p3)]) hx hb dX12_tries_1 hl (by decide) rfl (fun ls hl => ?_)
  exact J3 FU (p0, p1, p2, p3, 0, s) _ _ _ ⟨hP, hS, lv_sub hl [1, 2, 3, 4, 5, 0] rfl, h⟩
