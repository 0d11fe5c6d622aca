theorem co_X12_areBetween : Cond.code yX12_areBetween cX12_areBetween 7 (some .boolean) ∈ lw_gd := zm (List.mem_of_getElem? (i := 2602) (by decide +kernel)) rfl
theorem co_X12_areCounts : Cond.code yX12_areCounts cX12_areCounts 4 (some .boolean) ∈ lw_gd := zm (List.mem_of_getElem? (i := 2594) (by decide +kernel)) rfl
theorem co_X12_areKeys : Cond.code yX12_areKeys cX12_areKeys 4 (some .boolean) ∈ lw_gd := zm (List.mem_of_getElem? (i := 2598) (by decide +kernel)) rfl
theorem co_X12_areValues : Cond.code yX12_areValues cX12_areValues 4 (some .boolean) ∈ lw_gd := zm (List.mem_of_getElem? (i := 2586) (by decide +kernel)) rfl
theorem co_X12_isImage : Cond.code yX12_isImage cX12_isImage 4 (some .boolean) ∈ lw_gd := zm (List.mem_of_getElem? (i := 2566) (by decide +kernel)) rfl
theorem co_X12_isLaid : Cond.code yX12_isLaid cX12_isLaid 6 (some .boolean) ∈ lw_gd := zm (List.mem_of_getElem? (i := 2570) (by decide +kernel)) rfl
theorem co_X12_laidOf : Cond.code yX12_laidOf cX12_laidOf 3 (some .int) ∈ lw_gd := zm (List.mem_of_getElem? (i := 2590) (by decide +kernel)) rfl
theorem fl_X12_258 : Cond.fieldLink RX12 258 "CloneVolumesModel" "recount" "[I" ∈ lw_gd := zm (List.mem_of_getElem? (i := 1653) (by decide +kernel)) rfl
theorem im_X12_areBetween : Cond.instanceMethod yX12_areBetween ∈ lw_gd := zm (List.mem_of_getElem? (i := 2601) (by decide +kernel)) rfl
theorem im_X12_areCounts : Cond.instanceMethod yX12_areCounts ∈ lw_gd := zm (List.mem_of_getElem? (i := 2593) (by decide +kernel)) rfl
theorem im_X12_areKeys : Cond.instanceMethod yX12_areKeys ∈ lw_gd := zm (List.mem_of_getElem? (i := 2597) (by decide +kernel)) rfl
theorem im_X12_areValues : Cond.instanceMethod yX12_areValues ∈ lw_gd := zm (List.mem_of_getElem? (i := 2585) (by decide +kernel)) rfl
theorem im_X12_isImage : Cond.instanceMethod yX12_isImage ∈ lw_gd := zm (List.mem_of_getElem? (i := 2565) (by decide +kernel)) rfl
theorem im_X12_isLaid : Cond.instanceMethod yX12_isLaid ∈ lw_gd := zm (List.mem_of_getElem? (i := 2569) (by decide +kernel)) rfl
theorem im_X12_laidOf : Cond.instanceMethod yX12_laidOf ∈ lw_gd := zm (List.mem_of_getElem? (i := 2589) (by decide +kernel)) rfl
theorem ml_X12_816 : Cond.methodLink RX12 816 yX12_laidOf ∈ lw_gd := zm (List.mem_of_getElem? (i := 2587) (by decide +kernel)) rfl
theorem ml_X12_819 : Cond.methodLink RX12 819 yX12_areBetween ∈ lw_gd := zm (List.mem_of_getElem? (i := 2599) (by decide +kernel)) rfl
theorem ml_X12_823 : Cond.methodLink RX12 823 yX12_isLaid ∈ lw_gd := zm (List.mem_of_getElem? (i := 2567) (by decide +kernel)) rfl
theorem ml_X12_826 : Cond.methodLink RX12 826 yX12_areValues ∈ lw_gd := zm (List.mem_of_getElem? (i := 2583) (by decide +kernel)) rfl
theorem ml_X12_829 : Cond.methodLink RX12 829 yX12_areCounts ∈ lw_gd := zm (List.mem_of_getElem? (i := 2591) (by decide +kernel)) rfl
theorem ml_X12_832 : Cond.methodLink RX12 832 yX12_areKeys ∈ lw_gd := zm (List.mem_of_getElem? (i := 2595) (by decide +kernel)) rfl
theorem ml_X12_835 : Cond.methodLink RX12 835 yX12_isImage ∈ lw_gd := zm (List.mem_of_getElem? (i := 2563) (by decide +kernel)) rfl
theorem se_X12_areBetween : Cond.selects RX12 yX12_areBetween yX12_areBetween ∈ lw_gd := zm (List.mem_of_getElem? (i := 196) (by decide +kernel)) rfl
theorem se_X12_areCounts : Cond.selects RX12 yX12_areCounts yX12_areCounts ∈ lw_gd := zm (List.mem_of_getElem? (i := 194) (by decide +kernel)) rfl
theorem se_X12_areKeys : Cond.selects RX12 yX12_areKeys yX12_areKeys ∈ lw_gd := zm (List.mem_of_getElem? (i := 195) (by decide +kernel)) rfl
theorem se_X12_areValues : Cond.selects RX12 yX12_areValues yX12_areValues ∈ lw_gd := zm (List.mem_of_getElem? (i := 192) (by decide +kernel)) rfl
theorem se_X12_isImage : Cond.selects RX12 yX12_isImage yX12_isImage ∈ lw_gd := zm (List.mem_of_getElem? (i := 187) (by decide +kernel)) rfl
theorem se_X12_isLaid : Cond.selects RX12 yX12_isLaid yX12_isLaid ∈ lw_gd := zm (List.mem_of_getElem? (i := 188) (by decide +kernel)) rfl
theorem se_X12_laidOf : Cond.selects RX12 yX12_laidOf yX12_laidOf ∈ lw_gd := zm (List.mem_of_getElem? (i := 193) (by decide +kernel)) rfl
theorem dX12_areBetween_0 : decode cX12_areBetween 0 = .ok (.iconst 1, 1) := by decide +kernel
theorem dX12_areBetween_1 : decode cX12_areBetween 1 = .ok (.istore 4, 2) := by decide +kernel
theorem dX12_areBetween_3 : decode cX12_areBetween 3 = .ok (.aload_n 0, 1) := by decide +kernel
theorem dX12_areBetween_4 : decode cX12_areBetween 4 = .ok (.getfield 146, 3) := by decide +kernel
theorem dX12_areBetween_7 : decode cX12_areBetween 7 = .ok (.iconst 0, 1) := by decide +kernel
theorem dX12_areBetween_8 : decode cX12_areBetween 8 = .ok (.iload_n 1, 1) := by decide +kernel
theorem dX12_areBetween_9 : decode cX12_areBetween 9 = .ok (.iastore, 1) := by decide +kernel
theorem dX12_areBetween_10 : decode cX12_areBetween 10 = .ok (.iload 4, 2) := by decide +kernel
theorem dX12_areBetween_12 : decode cX12_areBetween 12 = .ok (.ifCond .le 93, 3) := by decide +kernel
theorem dX12_areBetween_15 : decode cX12_areBetween 15 = .ok (.iinc 4 (-1), 3) := by decide +kernel
theorem dX12_areBetween_18 : decode cX12_areBetween 18 = .ok (.aload_n 0, 1) := by decide +kernel
theorem dX12_areBetween_19 : decode cX12_areBetween 19 = .ok (.getfield 146, 3) := by decide +kernel
theorem dX12_areBetween_22 : decode cX12_areBetween 22 = .ok (.iload 4, 2) := by decide +kernel
theorem dX12_areBetween_24 : decode cX12_areBetween 24 = .ok (.iaload, 1) := by decide +kernel
theorem dX12_areBetween_25 : decode cX12_areBetween 25 = .ok (.istore 5, 2) := by decide +kernel
theorem dX12_areBetween_27 : decode cX12_areBetween 27 = .ok (.iconst 0, 1) := by decide +kernel
theorem dX12_areBetween_28 : decode cX12_areBetween 28 = .ok (.istore 6, 2) := by decide +kernel
theorem dX12_areBetween_30 : decode cX12_areBetween 30 = .ok (.iload 6, 2) := by decide +kernel
theorem dX12_areBetween_32 : decode cX12_areBetween 32 = .ok (.aload_n 0, 1) := by decide +kernel
theorem dX12_areBetween_33 : decode cX12_areBetween 33 = .ok (.iload 5, 2) := by decide +kernel
theorem dX12_areBetween_35 : decode cX12_areBetween 35 = .ok (.iconst 3, 1) := by decide +kernel
theorem dX12_areBetween_36 : decode cX12_areBetween 36 = .ok (.invokevirtual 816, 3) := by decide +kernel
theorem dX12_areBetween_39 : decode cX12_areBetween 39 = .ok (.if_icmp .ge 63, 3) := by decide +kernel
theorem dX12_areBetween_42 : decode cX12_areBetween 42 = .ok (.aload_n 0, 1) := by decide +kernel
theorem dX12_areBetween_43 : decode cX12_areBetween 43 = .ok (.iload 5, 2) := by decide +kernel
theorem dX12_areBetween_45 : decode cX12_areBetween 45 = .ok (.iconst 2, 1) := by decide +kernel
theorem dX12_areBetween_46 : decode cX12_areBetween 46 = .ok (.invokevirtual 816, 3) := by decide +kernel
theorem dX12_areBetween_49 : decode cX12_areBetween 49 = .ok (.ifCond .ne 26, 3) := by decide +kernel
theorem dX12_areBetween_52 : decode cX12_areBetween 52 = .ok (.aload_n 0, 1) := by decide +kernel
theorem dX12_areBetween_53 : decode cX12_areBetween 53 = .ok (.iload 5, 2) := by decide +kernel
theorem dX12_areBetween_55 : decode cX12_areBetween 55 = .ok (.iconst 4, 1) := by decide +kernel
theorem dX12_areBetween_56 : decode cX12_areBetween 56 = .ok (.iload 6, 2) := by decide +kernel
theorem dX12_areBetween_58 : decode cX12_areBetween 58 = .ok (.iadd, 1) := by decide +kernel
theorem dX12_areBetween_59 : decode cX12_areBetween 59 = .ok (.invokevirtual 816, 3) := by decide +kernel
theorem dX12_areBetween_62 : decode cX12_areBetween 62 = .ok (.i2l, 1) := by decide +kernel
theorem dX12_areBetween_63 : decode cX12_areBetween 63 = .ok (.iload_n 2, 1) := by decide +kernel
theorem dX12_areBetween_64 : decode cX12_areBetween 64 = .ok (.i2l, 1) := by decide +kernel
theorem dX12_areBetween_65 : decode cX12_areBetween 65 = .ok (.iload_n 3, 1) := by decide +kernel
theorem dX12_areBetween_66 : decode cX12_areBetween 66 = .ok (.i2l, 1) := by decide +kernel
theorem dX12_areBetween_67 : decode cX12_areBetween 67 = .ok (.invokestatic 309, 3) := by decide +kernel
theorem dX12_areBetween_70 : decode cX12_areBetween 70 = .ok (.ifCond .ne 26, 3) := by decide +kernel
theorem dX12_areBetween_73 : decode cX12_areBetween 73 = .ok (.iconst 0, 1) := by decide +kernel
theorem dX12_areBetween_74 : decode cX12_areBetween 74 = .ok (.ireturn, 1) := by decide +kernel
theorem dX12_areBetween_75 : decode cX12_areBetween 75 = .ok (.aload_n 0, 1) := by decide +kernel
theorem dX12_areBetween_76 : decode cX12_areBetween 76 = .ok (.getfield 146, 3) := by decide +kernel
theorem dX12_areBetween_79 : decode cX12_areBetween 79 = .ok (.iload 4, 2) := by decide +kernel
theorem dX12_areBetween_81 : decode cX12_areBetween 81 = .ok (.aload_n 0, 1) := by decide +kernel
theorem dX12_areBetween_82 : decode cX12_areBetween 82 = .ok (.iload 5, 2) := by decide +kernel
theorem dX12_areBetween_84 : decode cX12_areBetween 84 = .ok (.bipush 10, 2) := by decide +kernel
theorem dX12_areBetween_86 : decode cX12_areBetween 86 = .ok (.iload 6, 2) := by decide +kernel
theorem dX12_areBetween_88 : decode cX12_areBetween 88 = .ok (.iadd, 1) := by decide +kernel
theorem dX12_areBetween_89 : decode cX12_areBetween 89 = .ok (.invokevirtual 816, 3) := by decide +kernel
theorem dX12_areBetween_92 : decode cX12_areBetween 92 = .ok (.iastore, 1) := by decide +kernel
theorem dX12_areBetween_93 : decode cX12_areBetween 93 = .ok (.iinc 4 1, 3) := by decide +kernel
theorem dX12_areBetween_96 : decode cX12_areBetween 96 = .ok (.iinc 6 1, 3) := by decide +kernel
theorem dX12_areBetween_99 : decode cX12_areBetween 99 = .ok (.goto (-69), 3) := by decide +kernel
theorem dX12_areBetween_102 : decode cX12_areBetween 102 = .ok (.goto (-92), 3) := by decide +kernel
theorem dX12_areBetween_105 : decode cX12_areBetween 105 = .ok (.iconst 1, 1) := by decide +kernel
theorem dX12_areBetween_106 : decode cX12_areBetween 106 = .ok (.ireturn, 1) := by decide +kernel
theorem dX12_areCounts_0 : decode cX12_areCounts 0 = .ok (.iconst 0, 1) := by decide +kernel
theorem dX12_areCounts_1 : decode cX12_areCounts 1 = .ok (.istore_n 2, 1) := by decide +kernel
theorem dX12_areCounts_2 : decode cX12_areCounts 2 = .ok (.iload_n 2, 1) := by decide +kernel
theorem dX12_areCounts_3 : decode cX12_areCounts 3 = .ok (.bipush 48, 2) := by decide +kernel
theorem dX12_areCounts_5 : decode cX12_areCounts 5 = .ok (.if_icmp .ge 16, 3) := by decide +kernel
theorem dX12_areCounts_8 : decode cX12_areCounts 8 = .ok (.aload_n 0, 1) := by decide +kernel
theorem dX12_areCounts_9 : decode cX12_areCounts 9 = .ok (.getfield 258, 3) := by decide +kernel
theorem dX12_areCounts_12 : decode cX12_areCounts 12 = .ok (.iload_n 2, 1) := by decide +kernel
theorem dX12_areCounts_13 : decode cX12_areCounts 13 = .ok (.iconst 0, 1) := by decide +kernel
theorem dX12_areCounts_14 : decode cX12_areCounts 14 = .ok (.iastore, 1) := by decide +kernel
theorem dX12_areCounts_15 : decode cX12_areCounts 15 = .ok (.iinc 2 1, 3) := by decide +kernel
theorem dX12_areCounts_18 : decode cX12_areCounts 18 = .ok (.goto (-16), 3) := by decide +kernel
theorem dX12_areCounts_21 : decode cX12_areCounts 21 = .ok (.iconst 0, 1) := by decide +kernel
theorem dX12_areCounts_22 : decode cX12_areCounts 22 = .ok (.istore_n 2, 1) := by decide +kernel
theorem dX12_areCounts_23 : decode cX12_areCounts 23 = .ok (.iload_n 2, 1) := by decide +kernel
theorem dX12_areCounts_24 : decode cX12_areCounts 24 = .ok (.bipush 8, 2) := by decide +kernel
theorem dX12_areCounts_26 : decode cX12_areCounts 26 = .ok (.if_icmp .ge 52, 3) := by decide +kernel
theorem dX12_areCounts_29 : decode cX12_areCounts 29 = .ok (.aload_n 0, 1) := by decide +kernel
theorem dX12_areCounts_30 : decode cX12_areCounts 30 = .ok (.getfield 255, 3) := by decide +kernel
theorem dX12_areCounts_33 : decode cX12_areCounts 33 = .ok (.bipush 8, 2) := by decide +kernel
theorem dX12_areCounts_35 : decode cX12_areCounts 35 = .ok (.iload_n 1, 1) := by decide +kernel
theorem dX12_areCounts_36 : decode cX12_areCounts 36 = .ok (.imul, 1) := by decide +kernel
theorem dX12_areCounts_37 : decode cX12_areCounts 37 = .ok (.iload_n 2, 1) := by decide +kernel
theorem dX12_areCounts_38 : decode cX12_areCounts 38 = .ok (.iadd, 1) := by decide +kernel
theorem dX12_areCounts_39 : decode cX12_areCounts 39 = .ok (.iaload, 1) := by decide +kernel
theorem dX12_areCounts_40 : decode cX12_areCounts 40 = .ok (.istore_n 3, 1) := by decide +kernel
theorem dX12_areCounts_41 : decode cX12_areCounts 41 = .ok (.iload_n 3, 1) := by decide +kernel
theorem dX12_areCounts_42 : decode cX12_areCounts 42 = .ok (.sipush 254, 3) := by decide +kernel
theorem dX12_areCounts_45 : decode cX12_areCounts 45 = .ok (.if_icmp .lt 6, 3) := by decide +kernel
theorem dX12_areCounts_48 : decode cX12_areCounts 48 = .ok (.goto 24, 3) := by decide +kernel
theorem dX12_areCounts_51 : decode cX12_areCounts 51 = .ok (.aload_n 0, 1) := by decide +kernel
theorem dX12_areCounts_52 : decode cX12_areCounts 52 = .ok (.iload_n 3, 1) := by decide +kernel
theorem dX12_areCounts_53 : decode cX12_areCounts 53 = .ok (.i2l, 1) := by decide +kernel
theorem dX12_areCounts_54 : decode cX12_areCounts 54 = .ok (.invokevirtual 616, 3) := by decide +kernel
theorem dX12_areCounts_57 : decode cX12_areCounts 57 = .ok (.ifCond .ne 5, 3) := by decide +kernel
theorem dX12_areCounts_60 : decode cX12_areCounts 60 = .ok (.iconst 0, 1) := by decide +kernel
theorem dX12_areCounts_61 : decode cX12_areCounts 61 = .ok (.ireturn, 1) := by decide +kernel
theorem dX12_areCounts_62 : decode cX12_areCounts 62 = .ok (.aload_n 0, 1) := by decide +kernel
theorem dX12_areCounts_63 : decode cX12_areCounts 63 = .ok (.getfield 258, 3) := by decide +kernel
theorem dX12_areCounts_66 : decode cX12_areCounts 66 = .ok (.iload_n 3, 1) := by decide +kernel
theorem dX12_areCounts_67 : decode cX12_areCounts 67 = .ok (.dup2, 1) := by decide +kernel
theorem dX12_areCounts_68 : decode cX12_areCounts 68 = .ok (.iaload, 1) := by decide +kernel
theorem dX12_areCounts_69 : decode cX12_areCounts 69 = .ok (.iconst 1, 1) := by decide +kernel
theorem dX12_areCounts_70 : decode cX12_areCounts 70 = .ok (.iadd, 1) := by decide +kernel
theorem dX12_areCounts_71 : decode cX12_areCounts 71 = .ok (.iastore, 1) := by decide +kernel
theorem dX12_areCounts_72 : decode cX12_areCounts 72 = .ok (.iinc 2 1, 3) := by decide +kernel
theorem dX12_areCounts_75 : decode cX12_areCounts 75 = .ok (.goto (-52), 3) := by decide +kernel
theorem dX12_areCounts_78 : decode cX12_areCounts 78 = .ok (.iconst 0, 1) := by decide +kernel
theorem dX12_areCounts_79 : decode cX12_areCounts 79 = .ok (.istore_n 2, 1) := by decide +kernel
theorem dX12_areCounts_80 : decode cX12_areCounts 80 = .ok (.iload_n 2, 1) := by decide +kernel
theorem dX12_areCounts_81 : decode cX12_areCounts 81 = .ok (.aload_n 0, 1) := by decide +kernel
theorem dX12_areCounts_82 : decode cX12_areCounts 82 = .ok (.invokevirtual 429, 3) := by decide +kernel
theorem dX12_areCounts_85 : decode cX12_areCounts 85 = .ok (.if_icmp .ge 66, 3) := by decide +kernel
theorem dX12_areCounts_88 : decode cX12_areCounts 88 = .ok (.aload_n 0, 1) := by decide +kernel
theorem dX12_areCounts_89 : decode cX12_areCounts 89 = .ok (.iload_n 2, 1) := by decide +kernel
theorem dX12_areCounts_90 : decode cX12_areCounts 90 = .ok (.iload_n 1, 1) := by decide +kernel
theorem dX12_areCounts_91 : decode cX12_areCounts 91 = .ok (.invokevirtual 816, 3) := by decide +kernel
theorem dX12_areCounts_94 : decode cX12_areCounts 94 = .ok (.ifCond .eq 51, 3) := by decide +kernel
theorem dX12_areCounts_97 : decode cX12_areCounts 97 = .ok (.aload_n 0, 1) := by decide +kernel
theorem dX12_areCounts_98 : decode cX12_areCounts 98 = .ok (.iload_n 2, 1) := by decide +kernel
theorem dX12_areCounts_99 : decode cX12_areCounts 99 = .ok (.iconst 2, 1) := by decide +kernel
theorem dX12_areCounts_100 : decode cX12_areCounts 100 = .ok (.invokevirtual 816, 3) := by decide +kernel
theorem dX12_areCounts_103 : decode cX12_areCounts 103 = .ok (.ifCond .ne 6, 3) := by decide +kernel
theorem dX12_areCounts_106 : decode cX12_areCounts 106 = .ok (.goto 39, 3) := by decide +kernel
theorem dX12_areCounts_109 : decode cX12_areCounts 109 = .ok (.iconst 0, 1) := by decide +kernel
theorem dX12_areCounts_110 : decode cX12_areCounts 110 = .ok (.istore_n 3, 1) := by decide +kernel
theorem dX12_areCounts_111 : decode cX12_areCounts 111 = .ok (.iload_n 3, 1) := by decide +kernel
theorem dX12_areCounts_112 : decode cX12_areCounts 112 = .ok (.aload_n 0, 1) := by decide +kernel
theorem dX12_areCounts_113 : decode cX12_areCounts 113 = .ok (.iload_n 2, 1) := by decide +kernel
theorem dX12_areCounts_114 : decode cX12_areCounts 114 = .ok (.iconst 3, 1) := by decide +kernel
theorem dX12_areCounts_115 : decode cX12_areCounts 115 = .ok (.invokevirtual 816, 3) := by decide +kernel
theorem dX12_areCounts_118 : decode cX12_areCounts 118 = .ok (.if_icmp .ge 27, 3) := by decide +kernel
theorem dX12_areCounts_121 : decode cX12_areCounts 121 = .ok (.aload_n 0, 1) := by decide +kernel
theorem dX12_areCounts_122 : decode cX12_areCounts 122 = .ok (.getfield 258, 3) := by decide +kernel
theorem dX12_areCounts_125 : decode cX12_areCounts 125 = .ok (.aload_n 0, 1) := by decide +kernel
theorem dX12_areCounts_126 : decode cX12_areCounts 126 = .ok (.iload_n 2, 1) := by decide +kernel
theorem dX12_areCounts_127 : decode cX12_areCounts 127 = .ok (.bipush 10, 2) := by decide +kernel
theorem dX12_areCounts_129 : decode cX12_areCounts 129 = .ok (.iload_n 3, 1) := by decide +kernel
theorem dX12_areCounts_130 : decode cX12_areCounts 130 = .ok (.iadd, 1) := by decide +kernel
theorem dX12_areCounts_131 : decode cX12_areCounts 131 = .ok (.invokevirtual 816, 3) := by decide +kernel
theorem dX12_areCounts_134 : decode cX12_areCounts 134 = .ok (.dup2, 1) := by decide +kernel
theorem dX12_areCounts_135 : decode cX12_areCounts 135 = .ok (.iaload, 1) := by decide +kernel
theorem dX12_areCounts_136 : decode cX12_areCounts 136 = .ok (.iconst 1, 1) := by decide +kernel
theorem dX12_areCounts_137 : decode cX12_areCounts 137 = .ok (.iadd, 1) := by decide +kernel
theorem dX12_areCounts_138 : decode cX12_areCounts 138 = .ok (.iastore, 1) := by decide +kernel
theorem dX12_areCounts_139 : decode cX12_areCounts 139 = .ok (.iinc 3 1, 3) := by decide +kernel
theorem dX12_areCounts_142 : decode cX12_areCounts 142 = .ok (.goto (-31), 3) := by decide +kernel
theorem dX12_areCounts_145 : decode cX12_areCounts 145 = .ok (.iinc 2 1, 3) := by decide +kernel
theorem dX12_areCounts_148 : decode cX12_areCounts 148 = .ok (.goto (-68), 3) := by decide +kernel
theorem dX12_areCounts_151 : decode cX12_areCounts 151 = .ok (.iconst 0, 1) := by decide +kernel
theorem dX12_areCounts_152 : decode cX12_areCounts 152 = .ok (.istore_n 2, 1) := by decide +kernel
theorem dX12_areCounts_153 : decode cX12_areCounts 153 = .ok (.iload_n 2, 1) := by decide +kernel
theorem dX12_areCounts_154 : decode cX12_areCounts 154 = .ok (.aload_n 0, 1) := by decide +kernel
theorem dX12_areCounts_155 : decode cX12_areCounts 155 = .ok (.invokevirtual 429, 3) := by decide +kernel
theorem dX12_areCounts_158 : decode cX12_areCounts 158 = .ok (.if_icmp .ge 26, 3) := by decide +kernel
theorem dX12_areCounts_161 : decode cX12_areCounts 161 = .ok (.aload_n 0, 1) := by decide +kernel
theorem dX12_areCounts_162 : decode cX12_areCounts 162 = .ok (.getfield 258, 3) := by decide +kernel
theorem dX12_areCounts_165 : decode cX12_areCounts 165 = .ok (.iload_n 2, 1) := by decide +kernel
theorem dX12_areCounts_166 : decode cX12_areCounts 166 = .ok (.iaload, 1) := by decide +kernel
theorem dX12_areCounts_167 : decode cX12_areCounts 167 = .ok (.aload_n 0, 1) := by decide +kernel
theorem dX12_areCounts_168 : decode cX12_areCounts 168 = .ok (.iload_n 2, 1) := by decide +kernel
theorem dX12_areCounts_169 : decode cX12_areCounts 169 = .ok (.iload_n 1, 1) := by decide +kernel
theorem dX12_areCounts_170 : decode cX12_areCounts 170 = .ok (.invokevirtual 816, 3) := by decide +kernel
theorem dX12_areCounts_173 : decode cX12_areCounts 173 = .ok (.if_icmp .eq 5, 3) := by decide +kernel
theorem dX12_areCounts_176 : decode cX12_areCounts 176 = .ok (.iconst 0, 1) := by decide +kernel
theorem dX12_areCounts_177 : decode cX12_areCounts 177 = .ok (.ireturn, 1) := by decide +kernel
theorem dX12_areCounts_178 : decode cX12_areCounts 178 = .ok (.iinc 2 1, 3) := by decide +kernel
theorem dX12_areCounts_181 : decode cX12_areCounts 181 = .ok (.goto (-28), 3) := by decide +kernel
theorem dX12_areCounts_184 : decode cX12_areCounts 184 = .ok (.iconst 1, 1) := by decide +kernel
theorem dX12_areCounts_185 : decode cX12_areCounts 185 = .ok (.ireturn, 1) := by decide +kernel
theorem dX12_areKeys_0 : decode cX12_areKeys 0 = .ok (.aload_n 0, 1) := by decide +kernel
theorem dX12_areKeys_1 : decode cX12_areKeys 1 = .ok (.iload_n 1, 1) := by decide +kernel
theorem dX12_areKeys_2 : decode cX12_areKeys 2 = .ok (.iconst 3, 1) := by decide +kernel
theorem dX12_areKeys_3 : decode cX12_areKeys 3 = .ok (.invokevirtual 816, 3) := by decide +kernel
theorem dX12_areKeys_6 : decode cX12_areKeys 6 = .ok (.istore_n 2, 1) := by decide +kernel
theorem dX12_areKeys_7 : decode cX12_areKeys 7 = .ok (.iconst 0, 1) := by decide +kernel
theorem dX12_areKeys_8 : decode cX12_areKeys 8 = .ok (.istore_n 3, 1) := by decide +kernel
theorem dX12_areKeys_9 : decode cX12_areKeys 9 = .ok (.iload_n 3, 1) := by decide +kernel
theorem dX12_areKeys_10 : decode cX12_areKeys 10 = .ok (.iload_n 2, 1) := by decide +kernel
theorem dX12_areKeys_11 : decode cX12_areKeys 11 = .ok (.if_icmp .ge 75, 3) := by decide +kernel
theorem dX12_areKeys_14 : decode cX12_areKeys 14 = .ok (.aload_n 0, 1) := by decide +kernel
theorem dX12_areKeys_15 : decode cX12_areKeys 15 = .ok (.iload_n 1, 1) := by decide +kernel
theorem dX12_areKeys_16 : decode cX12_areKeys 16 = .ok (.iconst 2, 1) := by decide +kernel
theorem dX12_areKeys_17 : decode cX12_areKeys 17 = .ok (.invokevirtual 816, 3) := by decide +kernel
theorem dX12_areKeys_20 : decode cX12_areKeys 20 = .ok (.ifCond .le 66, 3) := by decide +kernel
theorem dX12_areKeys_23 : decode cX12_areKeys 23 = .ok (.aload_n 0, 1) := by decide +kernel
theorem dX12_areKeys_24 : decode cX12_areKeys 24 = .ok (.aload_n 0, 1) := by decide +kernel
theorem dX12_areKeys_25 : decode cX12_areKeys 25 = .ok (.iload_n 1, 1) := by decide +kernel
theorem dX12_areKeys_26 : decode cX12_areKeys 26 = .ok (.bipush 10, 2) := by decide +kernel
theorem dX12_areKeys_28 : decode cX12_areKeys 28 = .ok (.iload_n 3, 1) := by decide +kernel
theorem dX12_areKeys_29 : decode cX12_areKeys 29 = .ok (.iadd, 1) := by decide +kernel
theorem dX12_areKeys_30 : decode cX12_areKeys 30 = .ok (.invokevirtual 816, 3) := by decide +kernel
theorem dX12_areKeys_33 : decode cX12_areKeys 33 = .ok (.iload_n 3, 1) := by decide +kernel
theorem dX12_areKeys_34 : decode cX12_areKeys 34 = .ok (.ifCond .ne 7, 3) := by decide +kernel
theorem dX12_areKeys_37 : decode cX12_areKeys 37 = .ok (.iconst 0, 1) := by decide +kernel
theorem dX12_areKeys_38 : decode cX12_areKeys 38 = .ok (.goto 11, 3) := by decide +kernel
theorem dX12_areKeys_41 : decode cX12_areKeys 41 = .ok (.aload_n 0, 1) := by decide +kernel
theorem dX12_areKeys_42 : decode cX12_areKeys 42 = .ok (.iload_n 1, 1) := by decide +kernel
theorem dX12_areKeys_43 : decode cX12_areKeys 43 = .ok (.iconst 4, 1) := by decide +kernel
theorem dX12_areKeys_44 : decode cX12_areKeys 44 = .ok (.iload_n 3, 1) := by decide +kernel
theorem dX12_areKeys_45 : decode cX12_areKeys 45 = .ok (.iadd, 1) := by decide +kernel
theorem dX12_areKeys_46 : decode cX12_areKeys 46 = .ok (.invokevirtual 816, 3) := by decide +kernel
theorem dX12_areKeys_49 : decode cX12_areKeys 49 = .ok (.iload_n 3, 1) := by decide +kernel
theorem dX12_areKeys_50 : decode cX12_areKeys 50 = .ok (.iconst 1, 1) := by decide +kernel
theorem dX12_areKeys_51 : decode cX12_areKeys 51 = .ok (.iadd, 1) := by decide +kernel
theorem dX12_areKeys_52 : decode cX12_areKeys 52 = .ok (.iload_n 2, 1) := by decide +kernel
theorem dX12_areKeys_53 : decode cX12_areKeys 53 = .ok (.if_icmp .ge 16, 3) := by decide +kernel
theorem dX12_areKeys_56 : decode cX12_areKeys 56 = .ok (.aload_n 0, 1) := by decide +kernel
theorem dX12_areKeys_57 : decode cX12_areKeys 57 = .ok (.iload_n 1, 1) := by decide +kernel
theorem dX12_areKeys_58 : decode cX12_areKeys 58 = .ok (.iconst 5, 1) := by decide +kernel
theorem dX12_areKeys_59 : decode cX12_areKeys 59 = .ok (.iload_n 3, 1) := by decide +kernel
theorem dX12_areKeys_60 : decode cX12_areKeys 60 = .ok (.iadd, 1) := by decide +kernel
theorem dX12_areKeys_61 : decode cX12_areKeys 61 = .ok (.invokevirtual 816, 3) := by decide +kernel
theorem dX12_areKeys_64 : decode cX12_areKeys 64 = .ok (.iconst 1, 1) := by decide +kernel
theorem dX12_areKeys_65 : decode cX12_areKeys 65 = .ok (.isub, 1) := by decide +kernel
theorem dX12_areKeys_66 : decode cX12_areKeys 66 = .ok (.goto 6, 3) := by decide +kernel
theorem dX12_areKeys_69 : decode cX12_areKeys 69 = .ok (.sipush 999, 3) := by decide +kernel
theorem dX12_areKeys_72 : decode cX12_areKeys 72 = .ok (.invokevirtual 819, 3) := by decide +kernel
theorem dX12_areKeys_75 : decode cX12_areKeys 75 = .ok (.ifCond .ne 5, 3) := by decide +kernel
theorem dX12_areKeys_78 : decode cX12_areKeys 78 = .ok (.iconst 0, 1) := by decide +kernel
theorem dX12_areKeys_79 : decode cX12_areKeys 79 = .ok (.ireturn, 1) := by decide +kernel
theorem dX12_areKeys_80 : decode cX12_areKeys 80 = .ok (.iinc 3 1, 3) := by decide +kernel
theorem dX12_areKeys_83 : decode cX12_areKeys 83 = .ok (.goto (-74), 3) := by decide +kernel
theorem dX12_areKeys_86 : decode cX12_areKeys 86 = .ok (.iconst 1, 1) := by decide +kernel
theorem dX12_areKeys_87 : decode cX12_areKeys 87 = .ok (.ireturn, 1) := by decide +kernel
theorem dX12_areValues_0 : decode cX12_areValues 0 = .ok (.iconst 0, 1) := by decide +kernel
theorem dX12_areValues_1 : decode cX12_areValues 1 = .ok (.istore_n 2, 1) := by decide +kernel
theorem dX12_areValues_2 : decode cX12_areValues 2 = .ok (.iload_n 2, 1) := by decide +kernel
theorem dX12_areValues_3 : decode cX12_areValues 3 = .ok (.aload_n 0, 1) := by decide +kernel
theorem dX12_areValues_4 : decode cX12_areValues 4 = .ok (.iload_n 1, 1) := by decide +kernel
theorem dX12_areValues_5 : decode cX12_areValues 5 = .ok (.iconst 3, 1) := by decide +kernel
theorem dX12_areValues_6 : decode cX12_areValues 6 = .ok (.invokevirtual 816, 3) := by decide +kernel
theorem dX12_areValues_9 : decode cX12_areValues 9 = .ok (.if_icmp .ge 87, 3) := by decide +kernel
theorem dX12_areValues_12 : decode cX12_areValues 12 = .ok (.aload_n 0, 1) := by decide +kernel
theorem dX12_areValues_13 : decode cX12_areValues 13 = .ok (.iload_n 1, 1) := by decide +kernel
theorem dX12_areValues_14 : decode cX12_areValues 14 = .ok (.bipush 10, 2) := by decide +kernel
theorem dX12_areValues_16 : decode cX12_areValues 16 = .ok (.iload_n 2, 1) := by decide +kernel
theorem dX12_areValues_17 : decode cX12_areValues 17 = .ok (.iadd, 1) := by decide +kernel
theorem dX12_areValues_18 : decode cX12_areValues 18 = .ok (.invokevirtual 816, 3) := by decide +kernel
theorem dX12_areValues_21 : decode cX12_areValues 21 = .ok (.istore_n 3, 1) := by decide +kernel
theorem dX12_areValues_22 : decode cX12_areValues 22 = .ok (.aload_n 0, 1) := by decide +kernel
theorem dX12_areValues_23 : decode cX12_areValues 23 = .ok (.iload_n 1, 1) := by decide +kernel
theorem dX12_areValues_24 : decode cX12_areValues 24 = .ok (.iconst 2, 1) := by decide +kernel
theorem dX12_areValues_25 : decode cX12_areValues 25 = .ok (.invokevirtual 816, 3) := by decide +kernel
theorem dX12_areValues_28 : decode cX12_areValues 28 = .ok (.ifCond .ne 18, 3) := by decide +kernel
theorem dX12_areValues_31 : decode cX12_areValues 31 = .ok (.iload_n 3, 1) := by decide +kernel
theorem dX12_areValues_32 : decode cX12_areValues 32 = .ok (.i2l, 1) := by decide +kernel
theorem dX12_areValues_33 : decode cX12_areValues 33 = .ok (.lconst 0, 1) := by decide +kernel
theorem dX12_areValues_34 : decode cX12_areValues 34 = .ok (.ldc2_w 624, 3) := by decide +kernel
theorem dX12_areValues_37 : decode cX12_areValues 37 = .ok (.invokestatic 309, 3) := by decide +kernel
theorem dX12_areValues_40 : decode cX12_areValues 40 = .ok (.ifCond .ne 50, 3) := by decide +kernel
theorem dX12_areValues_43 : decode cX12_areValues 43 = .ok (.goto 45, 3) := by decide +kernel
theorem dX12_areValues_46 : decode cX12_areValues 46 = .ok (.aload_n 0, 1) := by decide +kernel
theorem dX12_areValues_47 : decode cX12_areValues 47 = .ok (.iload_n 3, 1) := by decide +kernel
theorem dX12_areValues_48 : decode cX12_areValues 48 = .ok (.i2l, 1) := by decide +kernel
theorem dX12_areValues_49 : decode cX12_areValues 49 = .ok (.invokevirtual 616, 3) := by decide +kernel
theorem dX12_areValues_52 : decode cX12_areValues 52 = .ok (.ifCond .eq 36, 3) := by decide +kernel
theorem dX12_areValues_55 : decode cX12_areValues 55 = .ok (.aload_n 0, 1) := by decide +kernel
theorem dX12_areValues_56 : decode cX12_areValues 56 = .ok (.iload_n 3, 1) := by decide +kernel
theorem dX12_areValues_57 : decode cX12_areValues 57 = .ok (.iconst 0, 1) := by decide +kernel
theorem dX12_areValues_58 : decode cX12_areValues 58 = .ok (.invokevirtual 816, 3) := by decide +kernel
theorem dX12_areValues_61 : decode cX12_areValues 61 = .ok (.aload_n 0, 1) := by decide +kernel
theorem dX12_areValues_62 : decode cX12_areValues 62 = .ok (.iload_n 3, 1) := by decide +kernel
theorem dX12_areValues_63 : decode cX12_areValues 63 = .ok (.iconst 1, 1) := by decide +kernel
theorem dX12_areValues_64 : decode cX12_areValues 64 = .ok (.invokevirtual 816, 3) := by decide +kernel
theorem dX12_areValues_67 : decode cX12_areValues 67 = .ok (.iadd, 1) := by decide +kernel
theorem dX12_areValues_68 : decode cX12_areValues 68 = .ok (.ifCond .eq 20, 3) := by decide +kernel
theorem dX12_areValues_71 : decode cX12_areValues 71 = .ok (.aload_n 0, 1) := by decide +kernel
theorem dX12_areValues_72 : decode cX12_areValues 72 = .ok (.iload_n 3, 1) := by decide +kernel
theorem dX12_areValues_73 : decode cX12_areValues 73 = .ok (.iconst 2, 1) := by decide +kernel
theorem dX12_areValues_74 : decode cX12_areValues 74 = .ok (.invokevirtual 816, 3) := by decide +kernel
theorem dX12_areValues_77 : decode cX12_areValues 77 = .ok (.aload_n 0, 1) := by decide +kernel
theorem dX12_areValues_78 : decode cX12_areValues 78 = .ok (.iload_n 1, 1) := by decide +kernel
theorem dX12_areValues_79 : decode cX12_areValues 79 = .ok (.iconst 2, 1) := by decide +kernel
theorem dX12_areValues_80 : decode cX12_areValues 80 = .ok (.invokevirtual 816, 3) := by decide +kernel
theorem dX12_areValues_83 : decode cX12_areValues 83 = .ok (.iconst 1, 1) := by decide +kernel
theorem dX12_areValues_84 : decode cX12_areValues 84 = .ok (.isub, 1) := by decide +kernel
theorem dX12_areValues_85 : decode cX12_areValues 85 = .ok (.if_icmp .eq 5, 3) := by decide +kernel
theorem dX12_areValues_88 : decode cX12_areValues 88 = .ok (.iconst 0, 1) := by decide +kernel
theorem dX12_areValues_89 : decode cX12_areValues 89 = .ok (.ireturn, 1) := by decide +kernel
theorem dX12_areValues_90 : decode cX12_areValues 90 = .ok (.iinc 2 1, 3) := by decide +kernel
theorem dX12_areValues_93 : decode cX12_areValues 93 = .ok (.goto (-91), 3) := by decide +kernel
theorem dX12_areValues_96 : decode cX12_areValues 96 = .ok (.iconst 1, 1) := by decide +kernel
theorem dX12_areValues_97 : decode cX12_areValues 97 = .ok (.ireturn, 1) := by decide +kernel
theorem dX12_isImage_0 : decode cX12_isImage 0 = .ok (.aload_n 0, 1) := by decide +kernel
theorem dX12_isImage_1 : decode cX12_isImage 1 = .ok (.getfield 406, 3) := by decide +kernel
theorem dX12_isImage_4 : decode cX12_isImage 4 = .ok (.ifCond .eq 40, 3) := by decide +kernel
theorem dX12_isImage_7 : decode cX12_isImage 7 = .ok (.iload_n 1, 1) := by decide +kernel
theorem dX12_isImage_8 : decode cX12_isImage 8 = .ok (.bipush 20, 2) := by decide +kernel
theorem dX12_isImage_10 : decode cX12_isImage 10 = .ok (.if_icmp .lt 34, 3) := by decide +kernel
theorem dX12_isImage_13 : decode cX12_isImage 13 = .ok (.aload_n 0, 1) := by decide +kernel
theorem dX12_isImage_14 : decode cX12_isImage 14 = .ok (.getfield 7, 3) := by decide +kernel
theorem dX12_isImage_17 : decode cX12_isImage 17 = .ok (.iload_n 1, 1) := by decide +kernel
theorem dX12_isImage_18 : decode cX12_isImage 18 = .ok (.iconst 1, 1) := by decide +kernel
theorem dX12_isImage_19 : decode cX12_isImage 19 = .ok (.isub, 1) := by decide +kernel
theorem dX12_isImage_20 : decode cX12_isImage 20 = .ok (.iaload, 1) := by decide +kernel
theorem dX12_isImage_21 : decode cX12_isImage 21 = .ok (.aload_n 0, 1) := by decide +kernel
theorem dX12_isImage_22 : decode cX12_isImage 22 = .ok (.getfield 7, 3) := by decide +kernel
theorem dX12_isImage_25 : decode cX12_isImage 25 = .ok (.iload_n 1, 1) := by decide +kernel
theorem dX12_isImage_26 : decode cX12_isImage 26 = .ok (.iconst 1, 1) := by decide +kernel
theorem dX12_isImage_27 : decode cX12_isImage 27 = .ok (.isub, 1) := by decide +kernel
theorem dX12_isImage_28 : decode cX12_isImage 28 = .ok (.invokestatic 799, 3) := by decide +kernel
theorem dX12_isImage_31 : decode cX12_isImage 31 = .ok (.if_icmp .ne 13, 3) := by decide +kernel
theorem dX12_isImage_34 : decode cX12_isImage 34 = .ok (.aload_n 0, 1) := by decide +kernel
theorem dX12_isImage_35 : decode cX12_isImage 35 = .ok (.iload_n 1, 1) := by decide +kernel
theorem dX12_isImage_36 : decode cX12_isImage 36 = .ok (.iconst 1, 1) := by decide +kernel
theorem dX12_isImage_37 : decode cX12_isImage 37 = .ok (.isub, 1) := by decide +kernel
theorem dX12_isImage_38 : decode cX12_isImage 38 = .ok (.invokevirtual 823, 3) := by decide +kernel
theorem dX12_isImage_41 : decode cX12_isImage 41 = .ok (.ifCond .ne 5, 3) := by decide +kernel
theorem dX12_isImage_44 : decode cX12_isImage 44 = .ok (.iconst 0, 1) := by decide +kernel
theorem dX12_isImage_45 : decode cX12_isImage 45 = .ok (.ireturn, 1) := by decide +kernel
theorem dX12_isImage_46 : decode cX12_isImage 46 = .ok (.iconst 0, 1) := by decide +kernel
theorem dX12_isImage_47 : decode cX12_isImage 47 = .ok (.istore_n 2, 1) := by decide +kernel
theorem dX12_isImage_48 : decode cX12_isImage 48 = .ok (.iload_n 2, 1) := by decide +kernel
theorem dX12_isImage_49 : decode cX12_isImage 49 = .ok (.aload_n 0, 1) := by decide +kernel
theorem dX12_isImage_50 : decode cX12_isImage 50 = .ok (.invokevirtual 429, 3) := by decide +kernel
theorem dX12_isImage_53 : decode cX12_isImage 53 = .ok (.if_icmp .ge 19, 3) := by decide +kernel
theorem dX12_isImage_56 : decode cX12_isImage 56 = .ok (.aload_n 0, 1) := by decide +kernel
theorem dX12_isImage_57 : decode cX12_isImage 57 = .ok (.iload_n 2, 1) := by decide +kernel
theorem dX12_isImage_58 : decode cX12_isImage 58 = .ok (.invokevirtual 826, 3) := by decide +kernel
theorem dX12_isImage_61 : decode cX12_isImage 61 = .ok (.ifCond .ne 5, 3) := by decide +kernel
theorem dX12_isImage_64 : decode cX12_isImage 64 = .ok (.iconst 0, 1) := by decide +kernel
theorem dX12_isImage_65 : decode cX12_isImage 65 = .ok (.ireturn, 1) := by decide +kernel
theorem dX12_isImage_66 : decode cX12_isImage 66 = .ok (.iinc 2 1, 3) := by decide +kernel
theorem dX12_isImage_69 : decode cX12_isImage 69 = .ok (.goto (-21), 3) := by decide +kernel
theorem dX12_isImage_72 : decode cX12_isImage 72 = .ok (.aload_n 0, 1) := by decide +kernel
theorem dX12_isImage_73 : decode cX12_isImage 73 = .ok (.iconst 0, 1) := by decide +kernel
theorem dX12_isImage_74 : decode cX12_isImage 74 = .ok (.invokevirtual 829, 3) := by decide +kernel
theorem dX12_isImage_77 : decode cX12_isImage 77 = .ok (.ifCond .eq 11, 3) := by decide +kernel
theorem dX12_isImage_80 : decode cX12_isImage 80 = .ok (.aload_n 0, 1) := by decide +kernel
theorem dX12_isImage_81 : decode cX12_isImage 81 = .ok (.iconst 1, 1) := by decide +kernel
theorem dX12_isImage_82 : decode cX12_isImage 82 = .ok (.invokevirtual 829, 3) := by decide +kernel
theorem dX12_isImage_85 : decode cX12_isImage 85 = .ok (.ifCond .ne 5, 3) := by decide +kernel
theorem dX12_isImage_88 : decode cX12_isImage 88 = .ok (.iconst 0, 1) := by decide +kernel
theorem dX12_isImage_89 : decode cX12_isImage 89 = .ok (.ireturn, 1) := by decide +kernel
theorem dX12_isImage_90 : decode cX12_isImage 90 = .ok (.iconst 1, 1) := by decide +kernel
theorem dX12_isImage_91 : decode cX12_isImage 91 = .ok (.istore_n 2, 1) := by decide +kernel
theorem dX12_isImage_92 : decode cX12_isImage 92 = .ok (.iload_n 2, 1) := by decide +kernel
theorem dX12_isImage_93 : decode cX12_isImage 93 = .ok (.sipush 256, 3) := by decide +kernel
theorem dX12_isImage_96 : decode cX12_isImage 96 = .ok (.if_icmp .ge 45, 3) := by decide +kernel
theorem dX12_isImage_99 : decode cX12_isImage 99 = .ok (.iconst 0, 1) := by decide +kernel
theorem dX12_isImage_100 : decode cX12_isImage 100 = .ok (.istore_n 3, 1) := by decide +kernel
theorem dX12_isImage_101 : decode cX12_isImage 101 = .ok (.iload_n 3, 1) := by decide +kernel
theorem dX12_isImage_102 : decode cX12_isImage 102 = .ok (.aload_n 0, 1) := by decide +kernel
theorem dX12_isImage_103 : decode cX12_isImage 103 = .ok (.invokevirtual 429, 3) := by decide +kernel
theorem dX12_isImage_106 : decode cX12_isImage 106 = .ok (.if_icmp .ge 29, 3) := by decide +kernel
theorem dX12_isImage_109 : decode cX12_isImage 109 = .ok (.aload_n 0, 1) := by decide +kernel
theorem dX12_isImage_110 : decode cX12_isImage 110 = .ok (.iload_n 3, 1) := by decide +kernel
theorem dX12_isImage_111 : decode cX12_isImage 111 = .ok (.iconst 2, 1) := by decide +kernel
theorem dX12_isImage_112 : decode cX12_isImage 112 = .ok (.invokevirtual 816, 3) := by decide +kernel
theorem dX12_isImage_115 : decode cX12_isImage 115 = .ok (.iload_n 2, 1) := by decide +kernel
theorem dX12_isImage_116 : decode cX12_isImage 116 = .ok (.if_icmp .ne 13, 3) := by decide +kernel
theorem dX12_isImage_119 : decode cX12_isImage 119 = .ok (.aload_n 0, 1) := by decide +kernel
theorem dX12_isImage_120 : decode cX12_isImage 120 = .ok (.iload_n 3, 1) := by decide +kernel
theorem dX12_isImage_121 : decode cX12_isImage 121 = .ok (.invokevirtual 832, 3) := by decide +kernel
theorem dX12_isImage_124 : decode cX12_isImage 124 = .ok (.ifCond .ne 5, 3) := by decide +kernel
theorem dX12_isImage_127 : decode cX12_isImage 127 = .ok (.iconst 0, 1) := by decide +kernel
theorem dX12_isImage_128 : decode cX12_isImage 128 = .ok (.ireturn, 1) := by decide +kernel
theorem dX12_isImage_129 : decode cX12_isImage 129 = .ok (.iinc 3 1, 3) := by decide +kernel
theorem dX12_isImage_132 : decode cX12_isImage 132 = .ok (.goto (-31), 3) := by decide +kernel
theorem dX12_isImage_135 : decode cX12_isImage 135 = .ok (.iinc 2 1, 3) := by decide +kernel
theorem dX12_isImage_138 : decode cX12_isImage 138 = .ok (.goto (-46), 3) := by decide +kernel
theorem dX12_isImage_141 : decode cX12_isImage 141 = .ok (.iconst 1, 1) := by decide +kernel
theorem dX12_isImage_142 : decode cX12_isImage 142 = .ok (.ireturn, 1) := by decide +kernel
theorem dX12_on_0 : decode cX12_on 0 = .ok (.aload_n 0, 1) := by decide +kernel
theorem dX12_on_1 : decode cX12_on 1 = .ok (.getfield 263, 3) := by decide +kernel
theorem dX12_on_4 : decode cX12_on 4 = .ok (.istore_n 1, 1) := by decide +kernel
theorem dX12_on_5 : decode cX12_on 5 = .ok (.aload_n 0, 1) := by decide +kernel
theorem dX12_on_6 : decode cX12_on 6 = .ok (.iconst 0, 1) := by decide +kernel
theorem dX12_on_7 : decode cX12_on 7 = .ok (.putfield 263, 3) := by decide +kernel
theorem dX12_on_10 : decode cX12_on 10 = .ok (.aload_n 0, 1) := by decide +kernel
theorem dX12_on_11 : decode cX12_on 11 = .ok (.iload_n 1, 1) := by decide +kernel
theorem dX12_on_12 : decode cX12_on 12 = .ok (.invokevirtual 835, 3) := by decide +kernel
theorem dX12_on_15 : decode cX12_on 15 = .ok (.ifCond .ne 9, 3) := by decide +kernel
theorem dX12_on_18 : decode cX12_on 18 = .ok (.aload_n 0, 1) := by decide +kernel
theorem dX12_on_19 : decode cX12_on 19 = .ok (.iconst 5, 1) := by decide +kernel
theorem dX12_on_20 : decode cX12_on 20 = .ok (.invokevirtual 671, 3) := by decide +kernel
theorem dX12_on_23 : decode cX12_on 23 = .ok (.ireturn, 1) := by decide +kernel
theorem dX12_on_24 : decode cX12_on 24 = .ok (.iconst 0, 1) := by decide +kernel
theorem dX12_on_25 : decode cX12_on 25 = .ok (.istore_n 2, 1) := by decide +kernel
theorem dX12_on_26 : decode cX12_on 26 = .ok (.iload_n 2, 1) := by decide +kernel
theorem dX12_on_27 : decode cX12_on 27 = .ok (.sipush 785, 3) := by decide +kernel
theorem dX12_on_30 : decode cX12_on 30 = .ok (.if_icmp .ge 21, 3) := by decide +kernel
theorem dX12_on_33 : decode cX12_on 33 = .ok (.aload_n 0, 1) := by decide +kernel
theorem dX12_on_34 : decode cX12_on 34 = .ok (.getfield 121, 3) := by decide +kernel
theorem dX12_on_37 : decode cX12_on 37 = .ok (.iload_n 2, 1) := by decide +kernel
theorem dX12_on_38 : decode cX12_on 38 = .ok (.aload_n 0, 1) := by decide +kernel
theorem dX12_on_39 : decode cX12_on 39 = .ok (.getfield 255, 3) := by decide +kernel
theorem dX12_on_42 : decode cX12_on 42 = .ok (.iload_n 2, 1) := by decide +kernel
theorem dX12_on_43 : decode cX12_on 43 = .ok (.iaload, 1) := by decide +kernel
theorem dX12_on_44 : decode cX12_on 44 = .ok (.iastore, 1) := by decide +kernel
theorem dX12_on_45 : decode cX12_on 45 = .ok (.iinc 2 1, 3) := by decide +kernel
theorem dX12_on_48 : decode cX12_on 48 = .ok (.goto (-22), 3) := by decide +kernel
theorem dX12_on_51 : decode cX12_on 51 = .ok (.aload_n 0, 1) := by decide +kernel
theorem dX12_on_52 : decode cX12_on 52 = .ok (.getfield 121, 3) := by decide +kernel
theorem dX12_on_55 : decode cX12_on 55 = .ok (.sipush 785, 3) := by decide +kernel
theorem dX12_on_58 : decode cX12_on 58 = .ok (.iconst 0, 1) := by decide +kernel
theorem dX12_on_59 : decode cX12_on 59 = .ok (.iastore, 1) := by decide +kernel
theorem dX12_on_60 : decode cX12_on 60 = .ok (.aload_n 0, 1) := by decide +kernel
theorem dX12_on_61 : decode cX12_on 61 = .ok (.iconst 0, 1) := by decide +kernel
theorem dX12_on_62 : decode cX12_on 62 = .ok (.putfield 416, 3) := by decide +kernel
theorem dX12_on_65 : decode cX12_on 65 = .ok (.iconst 1, 1) := by decide +kernel
theorem dX12_on_66 : decode cX12_on 66 = .ok (.ireturn, 1) := by decide +kernel
def m_x12_areValues_J88 (s : MS) (_u : Unit) : Option Int32 :=
  some 0
def m_x12_areValues_J90 (s : MS) (lr2 : Int32 → Int32 → Option Int32) (x3 : Int32) (x4 : Int32) : Option Int32 :=
  lr2 x3 (x4 + 1)
def m_x12_areValues_b2 (s : MS) (lr2 : Int32 → Int32 → Option Int32) (x1 : Int32) (x2 : Int32) : Option Int32 :=
  bn (m_x12_laidOf x1 3 s) (fun r6 => if r6 ≤ x2 then some 1 else bn (m_x12_laidOf x1 (10 + x2) s) (fun r9 => bn (m_x12_laidOf x1 2 s) (fun r11 => if r11 = 0 then bn (m_x12_isIn (Int32.toInt64 r9) 0 999 s) (fun r27 => if r27 = 0 then m_x12_areValues_J88 s () else m_x12_areValues_J90 s lr2 x1 x2) else bn (m_x12_isBlock (Int32.toInt64 r9) s) (fun r14 => if r14 = 0 then m_x12_areValues_J88 s () else bn (m_x12_laidOf r9 0 s) (fun r17 => bn (m_x12_laidOf r9 1 s) (fun r19 => if (r17 + r19) = 0 then m_x12_areValues_J88 s () else bn (m_x12_laidOf r9 2 s) (fun r22 => bn (m_x12_laidOf x1 2 s) (fun r24 => if r22 = (r24 - 1) then m_x12_areValues_J90 s lr2 x1 x2 else m_x12_areValues_J88 s ()))))))))
def m_x12_areValues_L2 (s : MS) (n : Nat) : Int32 → Int32 → Option Int32 := lp (fun _ _ => none) (m_x12_areValues_b2 s) n
def m_x12_areValues (p0 : Int32) (s : MS) : Option Int32 :=
  m_x12_areValues_L2 s FU p0 0
set_option maxHeartbeats 4000000 in
set_option maxRecDepth 100000 in
theorem k_x12_areValues (l : Launch) (D : va_G) (a : Nat → Nat) (p0 : Int32) (s : MS) (o : Int32) (h : m_x12_areValues p0 s = some o) : yRi l yX12_areValues cX12_areValues 4 (some .boolean) { frames := 2, cells := 0, slots := 0, locals := 120 } D [.ref (a 200), .int p0] (RW D a s) o := by
  refine Met.ofW (cc := cX12_areValues) (maxL := 4) (ret := (some .boolean)) (by decide) rfl ?_
  intro p e s₀ m args below meth c s₁ B hml hv
  obtain ⟨rfl, ⟨hP, hK⟩, hN⟩ := hv
  have hx := B.exec
  have hb := B.bytes
  have hr := B.returns
  have hts := atoms_spec (ws := wz yX12_areValues cX12_areValues 4 (some .boolean)) B.pre
  have ht : ∀ w ∈ lw_gd, w.before _ s₀ = true := fun w h => hts w (List.mem_cons_of_mem _ h)
  have hown : s₀.vm.findClass RX12 = some m.cls := findClass_of_methodNamed B.named
  have hlocks := B.notSynchronized
  have hS : va_S (fun _ => False) s₀.heap s₀.heap [] := va_S.rf
  have hl := lv_entry ([.ref (a 200), .int p0]) (n := 4) (Nat.le_of_ble_eq_true rfl)
  rw [lg_entry_eq]
  generalize (lg_sl ([.ref (a 200), .int p0]) ++ List.replicate (4 - (lg_sl ([.ref (a 200), .int p0])).length) Slot.unset).toArray = ls at hl ⊢
  have hl : lv_has ls 4 [(0, .ref (a 200)), (1, .int p0)] := hl
  unfold m_x12_areValues at h
  refine y_head (pcJ := 88) (σ := Unit) (fun u H locs ls => va_P D vwCl (RW D a s) H ∧ va_S (fun _ => False) s₀.heap H locs ∧ lv_has ls 4 [] ∧ m_x12_areValues_J88 s u = some o) (fun u => []) (fun u H locs ls hI => ?_) (fun J88 => ?_)
  · obtain ⟨hP, hS, hl, h⟩ := hI
    skip
    have hP : va_P D vwCl (RW D a s) H := hP
    have hl : lv_has ls 4 [] := hl
    have h : m_x12_areValues_J88 s () = some o := h
    unfold m_x12_areValues_J88 at h
    refine lv_iconst (v := 0) hx hb dX12_areValues_88 (by decide) ?_
    obtain rfl := Option.some.inj h
    exact W.zret (v := 0) hx hb hr (by decide) (fun t ht hW => ⟨⟨_, (), rfl, rfl, trivial⟩, hS.F ht⟩) hS.2.2 dX12_areValues_89
  refine y_loop (pcJ := 2) (σ := Int32 × Int32) (fun n u H locs ls => va_P D vwCl (RW D a s) H ∧ va_S (fun _ => False) s₀.heap H locs ∧ lv_has ls 4 [(0, .ref (a 200)), (1, .int u.1), (2, .int u.2)] ∧ m_x12_areValues_L2 s n u.1 u.2 = some o) (fun u => []) (fun u H locs ls hI => by obtain ⟨_, _, _, h⟩ := hI; cases h) (fun n2 ih2 u H locs ls hI => ?_) (fun J2 => ?_)
  · obtain ⟨hP, hS, hl, h⟩ := hI
    obtain ⟨x1, x2⟩ := u
    have hP : va_P D vwCl (RW D a s) H := hP
    have hl : lv_has ls 4 [(0, .ref (a 200)), (1, .int x1), (2, .int x2)] := hl
    have h : m_x12_areValues_b2 s (m_x12_areValues_L2 s n2) x1 x2 = some o := h
    unfold m_x12_areValues_b2 at h
    refine y_head (pcJ := 90) (σ := Int32 × Int32) (fun u H locs ls => va_P D vwCl (RW D a s) H ∧ va_S (fun _ => False) s₀.heap H locs ∧ lv_has ls 4 [(0, .ref (a 200)), (1, .int u.1), (2, .int u.2)] ∧ m_x12_areValues_J90 s (m_x12_areValues_L2 s n2) u.1 u.2 = some o) (fun u => []) (fun u H locs ls hI => ?_) (fun J90 => ?_)
    · obtain ⟨hP, hS, hl, h⟩ := hI
      obtain ⟨x3, x4⟩ := u
      have hP : va_P D vwCl (RW D a s) H := hP
      have hl : lv_has ls 4 [(0, .ref (a 200)), (1, .int x3), (2, .int x4)] := hl
      have h : m_x12_areValues_J90 s (m_x12_areValues_L2 s n2) x3 x4 = some o := h
      unfold m_x12_areValues_J90 at h
      refine lv_iinc (v := x4 + 1) (lv' := [(2, .int (x4 + 1)), (0, .ref (a 200)), (1, .int x3)]) hx hb dX12_areValues_90 hl (k := 2) rfl rfl (by decide) rfl (fun ls hl => ?_)
      refine lv_goto (tgt := 2) hx hb dX12_areValues_93 (by decide) ?_
      exact ih2 (x3, x4 + 1) _ _ _ ⟨hP, hS, lv_sub hl [1, 2, 0] rfl, h⟩
    refine lv_iload_n hx hb dX12_areValues_2 rfl (lv_at hl 2 rfl) ?_
    refine lv_aload_n hx hb dX12_areValues_3 rfl (lv_at hl 0 rfl) ?_
    refine lv_iload_n hx hb dX12_areValues_4 rfl (lv_at hl 1 rfl) ?_
    refine lv_iconst (v := 3) hx hb dX12_areValues_5 (by decide) ?_
    obtain ⟨r6, hc5, h⟩ := bn_e h
    refine ycV (As := [.int x1, .int 3]) (rest := [.int x2]) (C := RX12) (n := 2) ⟨hx, hb, hml, hown, ht⟩ (k_x12_laidOf l D a x1 3 _ _ hc5) (zgV ml_X12_816 im_X12_laidOf se_X12_laidOf in_X12 co_X12_laidOf) rfl rfl (by decide +kernel) ⟨Nat.le_of_ble_eq_true rfl, Nat.le_of_ble_eq_true rfl⟩ hN hK hP hS 0 RW_0 rfl rfl rfl hl.1 rfl (Nat.le_of_ble_eq_true rfl) dX12_areValues_6 ⟨Nat.le_of_ble_eq_true rfl, Nat.le_of_ble_eq_true rfl⟩ (fun H locs hP hS => ?_)
    refine lv_icmp_ge (tgt := 96) hx hb dX12_areValues_9 (by decide) (fun c7 => ?_) (fun c7 => ?_)
    · have h := if_t c7 h
      refine lv_iconst (v := 1) hx hb dX12_areValues_96 (by decide) ?_
      obtain rfl := Option.some.inj h
      exact W.zret (v := 1) hx hb hr (by decide) (fun t ht hW => ⟨⟨_, (), rfl, rfl, trivial⟩, hS.F ht⟩) hS.2.2 dX12_areValues_97
    · have h := if_f c7 h
      refine lv_aload_n hx hb dX12_areValues_12 rfl (lv_at hl 0 rfl) ?_
      refine lv_iload_n hx hb dX12_areValues_13 rfl (lv_at hl 1 rfl) ?_
      refine lv_bipush (v := 10) hx hb dX12_areValues_14 (by decide) ?_
      refine lv_iload_n hx hb dX12_areValues_16 rfl (lv_at hl 2 rfl) ?_
      refine lv_iadd hx hb dX12_areValues_17 ?_
      obtain ⟨r9, hc8, h⟩ := bn_e h
      refine ycV (As := [.int x1, .int (10 + x2)]) (rest := []) (C := RX12) (n := 2) ⟨hx, hb, hml, hown, ht⟩ (k_x12_laidOf l D a x1 (10 + x2) _ _ hc8) (zgV ml_X12_816 im_X12_laidOf se_X12_laidOf in_X12 co_X12_laidOf) rfl rfl (by decide +kernel) ⟨Nat.le_of_ble_eq_true rfl, Nat.le_of_ble_eq_true rfl⟩ hN hK hP hS 0 RW_0 rfl rfl rfl hl.1 rfl (Nat.le_of_ble_eq_true rfl) dX12_areValues_18 ⟨Nat.le_of_ble_eq_true rfl, Nat.le_of_ble_eq_true rfl⟩ (fun H locs hP hS => ?_)
      refine lv_istore_n (lv' := [(3, .int r9), (0, .ref (a 200)), (1, .int x1), (2, .int x2)]) hx hb dX12_areValues_21 rfl hl (by decide) rfl (fun ls hl => ?_)
      refine lv_aload_n hx hb dX12_areValues_22 rfl (lv_at hl 1 rfl) ?_
      refine lv_iload_n hx hb dX12_areValues_23 rfl (lv_at hl 2 rfl) ?_
      refine lv_iconst (v := 2) hx hb dX12_areValues_24 (by decide) ?_
      obtain ⟨r11, hc10, h⟩ := bn_e h
      refine ycV (As := [.int x1, .int 2]) (rest := []) (C := RX12) (n := 2) ⟨hx, hb, hml, hown, ht⟩ (k_x12_laidOf l D a x1 2 _ _ hc10) (zgV ml_X12_816 im_X12_laidOf se_X12_laidOf in_X12 co_X12_laidOf) rfl rfl (by decide +kernel) ⟨Nat.le_of_ble_eq_true rfl, Nat.le_of_ble_eq_true rfl⟩ hN hK hP hS 0 RW_0 rfl rfl rfl hl.1 rfl (Nat.le_of_ble_eq_true rfl) dX12_areValues_25 ⟨Nat.le_of_ble_eq_true rfl, Nat.le_of_ble_eq_true rfl⟩ (fun H locs hP hS => ?_)
      refine lv_if_ne (tgt := 46) hx hb dX12_areValues_28 (by decide) (fun c12 => ?_) (fun c12 => ?_)
      · have h := if_f c12 h
        refine lv_aload_n hx hb dX12_areValues_46 rfl (lv_at hl 1 rfl) ?_
        refine lv_iload_n hx hb dX12_areValues_47 rfl (lv_at hl 0 rfl) ?_
        refine lv_i2l (v := Int32.toInt64 r9) hx hb dX12_areValues_48 rfl ?_
        obtain ⟨r14, hc13, h⟩ := bn_e h
        refine ycV (As := [.long (Int32.toInt64 r9)]) (rest := []) (C := RX12) (n := 1) ⟨hx, hb, hml, hown, ht⟩ (k_x12_isBlock l D a (Int32.toInt64 r9) _ _ hc13) (zgV ml_X12_616 im_X12_isBlock se_X12_isBlock in_X12 co_X12_isBlock) rfl rfl (by decide +kernel) ⟨Nat.le_of_ble_eq_true rfl, Nat.le_of_ble_eq_true rfl⟩ hN hK hP hS 0 RW_0 rfl rfl rfl hl.1 rfl (Nat.le_of_ble_eq_true rfl) dX12_areValues_49 ⟨Nat.le_of_ble_eq_true rfl, Nat.le_of_ble_eq_true rfl⟩ (fun H locs hP hS => ?_)
        refine lv_if_eq (tgt := 88) hx hb dX12_areValues_52 (by decide) (fun c15 => ?_) (fun c15 => ?_)
        · have h := if_t c15 h
          exact J88 () _ _ _ ⟨hP, hS, lv_sub hl [] rfl, h⟩
        · have h := if_f c15 h
          refine lv_aload_n hx hb dX12_areValues_55 rfl (lv_at hl 1 rfl) ?_
          refine lv_iload_n hx hb dX12_areValues_56 rfl (lv_at hl 0 rfl) ?_
          refine lv_iconst (v := 0) hx hb dX12_areValues_57 (by decide) ?_
          obtain ⟨r17, hc16, h⟩ := bn_e h
          refine ycV (As := [.int r9, .int 0]) (rest := []) (C := RX12) (n := 2) ⟨hx, hb, hml, hown, ht⟩ (k_x12_laidOf l D a r9 0 _ _ hc16) (zgV ml_X12_816 im_X12_laidOf se_X12_laidOf in_X12 co_X12_laidOf) rfl rfl (by decide +kernel) ⟨Nat.le_of_ble_eq_true rfl, Nat.le_of_ble_eq_true rfl⟩ hN hK hP hS 0 RW_0 rfl rfl rfl hl.1 rfl (Nat.le_of_ble_eq_true rfl) dX12_areValues_58 ⟨Nat.le_of_ble_eq_true rfl, Nat.le_of_ble_eq_true rfl⟩ (fun H locs hP hS => ?_)
          refine lv_aload_n hx hb dX12_areValues_61 rfl (lv_at hl 1 rfl) ?_
          refine lv_iload_n hx hb dX12_areValues_62 rfl (lv_at hl 0 rfl) ?_
          refine lv_iconst (v := 1) hx hb dX12_areValues_63 (by decide) ?_
          obtain ⟨r19, hc18, h⟩ := bn_e h
          refine ycV (As := [.int r9, .int 1]) (rest := [.int r17]) (C := RX12) (n := 2) ⟨hx, hb, hml, hown, ht⟩ (k_x12_laidOf l D a r9 1 _ _ hc18) (zgV ml_X12_816 im_X12_laidOf se_X12_laidOf in_X12 co_X12_laidOf) rfl rfl (by decide +kernel) ⟨Nat.le_of_ble_eq_true rfl, Nat.le_of_ble_eq_true rfl⟩ hN hK hP hS 0 RW_0 rfl rfl rfl hl.1 rfl (Nat.le_of_ble_eq_true rfl) dX12_areValues_64 ⟨Nat.le_of_ble_eq_true rfl, Nat.le_of_ble_eq_true rfl⟩ (fun H locs hP hS => ?_)
          refine lv_iadd hx hb dX12_areValues_67 ?_
          refine lv_if_eq (tgt := 88) hx hb dX12_areValues_68 (by decide) (fun c20 => ?_) (fun c20 => ?_)
          · have h := if_t c20 h
            exact J88 () _ _ _ ⟨hP, hS, lv_sub hl [] rfl, h⟩
          · have h := if_f c20 h
            refine lv_aload_n hx hb dX12_areValues_71 rfl (lv_at hl 1 rfl) ?_
            refine lv_iload_n hx hb dX12_areValues_72 rfl (lv_at hl 0 rfl) ?_
            refine lv_iconst (v := 2) hx hb dX12_areValues_73 (by decide) ?_
            obtain ⟨r22, hc21, h⟩ := bn_e h
            refine ycV (As := [.int r9, .int 2]) (rest := []) (C := RX12) (n := 2) ⟨hx, hb, hml, hown, ht⟩ (k_x12_laidOf l D a r9 2 _ _ hc21) (zgV ml_X12_816 im_X12_laidOf se_X12_laidOf in_X12 co_X12_laidOf) rfl rfl (by decide +kernel) ⟨Nat.le_of_ble_eq_true rfl, Nat.le_of_ble_eq_true rfl⟩ hN hK hP hS 0 RW_0 rfl rfl rfl hl.1 rfl (Nat.le_of_ble_eq_true rfl) dX12_areValues_74 ⟨Nat.le_of_ble_eq_true rfl, Nat.le_of_ble_eq_true rfl⟩ (fun H locs hP hS => ?_)
            refine lv_aload_n hx hb dX12_areValues_77 rfl (lv_at hl 1 rfl) ?_
            refine lv_iload_n hx hb dX12_areValues_78 rfl (lv_at hl 2 rfl) ?_
            refine lv_iconst (v := 2) hx hb dX12_areValues_79 (by decide) ?_
            obtain ⟨r24, hc23, h⟩ := bn_e h
            refine ycV (As := [.int x1, .int 2]) (rest := [.int r22]) (C := RX12) (n := 2) ⟨hx, hb, hml, hown, ht⟩ (k_x12_laidOf l D a x1 2 _ _ hc23) (zgV ml_X12_816 im_X12_laidOf se_X12_laidOf in_X12 co_X12_laidOf) rfl rfl (by decide +kernel) ⟨Nat.le_of_ble_eq_true rfl, Nat.le_of_ble_eq_true rfl⟩ hN hK hP hS 0 RW_0 rfl rfl rfl hl.1 rfl (Nat.le_of_ble_eq_true rfl) dX12_areValues_80 ⟨Nat.le_of_ble_eq_true rfl, Nat.le_of_ble_eq_true rfl⟩ (fun H locs hP hS => ?_)
            refine lv_iconst (v := 1) hx hb dX12_areValues_83 (by decide) ?_
            refine lv_isub hx hb dX12_areValues_84 ?_
            refine lv_icmp_eq (tgt := 90) hx hb dX12_areValues_85 (by decide) (fun c25 => ?_) (fun c25 => ?_)
            · have h := if_t c25 h
              exact J90 (x1, x2) _ _ _ ⟨hP, hS, lv_sub hl [1, 2, 3] rfl, h⟩
            · have h := if_f c25 h
              exact J88 () _ _ _ ⟨hP, hS, lv_sub hl [] rfl, h⟩
      · have h := if_t c12 h
        refine lv_iload_n hx hb dX12_areValues_31 rfl (lv_at hl 0 rfl) ?_
        refine lv_i2l (v := Int32.toInt64 r9) hx hb dX12_areValues_32 rfl ?_
        refine lv_lconst (v := 0) hx hb dX12_areValues_33 (by decide) ?_
        refine lv_ldc2 (own := RX12) (v := 999) hx hb hown (ht _ cl_X12_624) dX12_areValues_34 ?_
        obtain ⟨r27, hc26, h⟩ := bn_e h
        refine ycS (As := [.long (Int32.toInt64 r9), .long 0, .long 999]) (rest := []) (n := 3) ⟨hx, hb, hml, hown, ht⟩ (k_x12_isIn l D a (Int32.toInt64 r9) 0 999 _ _ hc26) (zgT ml_X12_309 st_X12_isIn in_X12 co_X12_isIn) rfl rfl (by decide +kernel) ⟨Nat.le_of_ble_eq_true rfl, Nat.le_of_ble_eq_true rfl⟩ hN hK hP hS rfl hl.1 rfl (Nat.le_of_ble_eq_true rfl) dX12_areValues_37 ⟨Nat.le_of_ble_eq_true rfl, Nat.le_of_ble_eq_true rfl⟩ (fun H locs hP hS => ?_)
        refine lv_if_ne (tgt := 90) hx hb dX12_areValues_40 (by decide) (fun c28 => ?_) (fun c28 => ?_)
        · have h := if_f c28 h
          exact J90 (x1, x2) _ _ _ ⟨hP, hS, lv_sub hl [1, 2, 3] rfl, h⟩
        · have h := if_t c28 h
          refine lv_goto (tgt := 88) hx hb dX12_areValues_43 (by decide) ?_
          exact J88 () _ _ _ ⟨hP, hS, lv_sub hl [] rfl, h⟩
  refine lv_iconst (v := 0) hx hb dX12_areValues_0 (by decide) ?_
  refine lv_istore_n (lv' := [(2, .int 0), (0, .ref (a 200)), (1, .int p0)]) hx hb dX12_areValues_1 rfl hl (by decide) rfl (fun ls hl => ?_)
  exact J2 FU (p0, 0) _ _ _ ⟨hP, hS, lv_sub hl [1, 2, 0] rfl, h⟩
def m_x12_areCounts_b153 (lr153 : Int32 → Int32 → MS → Option (Int32 × MS)) (x1 : Int32) (x2 : Int32) (s3 : MS) : Option (Int32 × MS) :=
  bn (m_x12_blockMany s3) (fun r5 => if r5 ≤ x2 then some (1, s3) else rdI (gA s3 115) 48 x2 (fun y7 => bn (m_x12_laidOf x2 x1 s3) (fun r9 => if y7 = r9 then lr153 x1 (x2 + 1) s3 else some (0, s3))))
def m_x12_areCounts_L153 (n : Nat) : Int32 → Int32 → MS → Option (Int32 × MS) := lp (fun _ _ _ => none) (m_x12_areCounts_b153) n
def m_x12_areCounts_J145 (lr80 : Int32 → Int32 → MS → Option (Int32 × MS)) (x14 : Int32) (x15 : Int32) (s16 : MS) : Option (Int32 × MS) :=
  lr80 x14 (x15 + 1) s16
def m_x12_areCounts_b111 (lr80 : Int32 → Int32 → MS → Option (Int32 × MS)) (lr111 : Int32 → Int32 → Int32 → MS → Option (Int32 × MS)) (x17 : Int32) (x18 : Int32) (x19 : Int32) (s20 : MS) : Option (Int32 × MS) :=
  bn (m_x12_laidOf x18 3 s20) (fun r22 => if r22 ≤ x19 then m_x12_areCounts_J145 lr80 x17 x18 s20 else bn (m_x12_laidOf x18 (10 + x19) s20) (fun r25 => rdI (gA s20 115) 48 r25 (fun y26 => inb 48 r25 (stn (sA s20 115 (upd (gA s20 115) (Int32.toNatClampNeg r25) (y26 + 1))) (fun s28 => lr111 x17 x18 (x19 + 1) s28)))))
def m_x12_areCounts_L111 (lr80 : Int32 → Int32 → MS → Option (Int32 × MS)) (n : Nat) : Int32 → Int32 → Int32 → MS → Option (Int32 × MS) := lp (fun _ _ _ _ => none) (m_x12_areCounts_b111 lr80) n
def m_x12_areCounts_b80 (lr80 : Int32 → Int32 → MS → Option (Int32 × MS)) (x11 : Int32) (x12 : Int32) (s13 : MS) : Option (Int32 × MS) :=
  bn (m_x12_blockMany s13) (fun r30 => if r30 ≤ x12 then m_x12_areCounts_L153 FU x11 0 s13 else bn (m_x12_laidOf x12 x11 s13) (fun r33 => if r33 = 0 then m_x12_areCounts_J145 lr80 x11 x12 s13 else bn (m_x12_laidOf x12 2 s13) (fun r36 => if r36 = 0 then m_x12_areCounts_J145 lr80 x11 x12 s13 else m_x12_areCounts_L111 lr80 FU x11 x12 0 s13)))
def m_x12_areCounts_L80 (n : Nat) : Int32 → Int32 → MS → Option (Int32 × MS) := lp (fun _ _ _ => none) (m_x12_areCounts_b80) n
def m_x12_areCounts_J72 (lr23 : Int32 → Int32 → MS → Option (Int32 × MS)) (x41 : Int32) (x42 : Int32) (s43 : MS) : Option (Int32 × MS) :=
  lr23 x41 (x42 + 1) s43
def m_x12_areCounts_b23 (lr23 : Int32 → Int32 → MS → Option (Int32 × MS)) (x38 : Int32) (x39 : Int32) (s40 : MS) : Option (Int32 × MS) :=
  if 8 ≤ x39 then m_x12_areCounts_L80 FU x38 0 s40 else rdI (gA s40 113) 785 ((8 * x38) + x39) (fun y45 => if y45 < 254 then bn (m_x12_isBlock (Int32.toInt64 y45) s40) (fun r48 => if r48 = 0 then some (0, s40) else rdI (gA s40 115) 48 y45 (fun y50 => inb 48 y45 (stn (sA s40 115 (upd (gA s40 115) (Int32.toNatClampNeg y45) (y50 + 1))) (fun s52 => m_x12_areCounts_J72 lr23 x38 x39 s52)))) else m_x12_areCounts_J72 lr23 x38 x39 s40)
def m_x12_areCounts_L23 (n : Nat) : Int32 → Int32 → MS → Option (Int32 × MS) := lp (fun _ _ _ => none) (m_x12_areCounts_b23) n
def m_x12_areCounts_b2 (lr2 : Int32 → Int32 → MS → Option (Int32 × MS)) (x53 : Int32) (x54 : Int32) (s55 : MS) : Option (Int32 × MS) :=
  if 48 ≤ x54 then m_x12_areCounts_L23 FU x53 0 s55 else inb 48 x54 (stn (sA s55 115 (upd (gA s55 115) (Int32.toNatClampNeg x54) 0)) (fun s58 => lr2 x53 (x54 + 1) s58))
def m_x12_areCounts_L2 (n : Nat) : Int32 → Int32 → MS → Option (Int32 × MS) := lp (fun _ _ _ => none) (m_x12_areCounts_b2) n
def m_x12_areCounts (p0 : Int32) (s : MS) : Option (Int32 × MS) :=
  m_x12_areCounts_L2 FU p0 0 s
set_option maxHeartbeats 4000000 in
set_option maxRecDepth 100000 in
theorem k_x12_areCounts (l : Launch) (D : va_G) (a : Nat → Nat) (p0 : Int32) (sz : Nat) (s : MS) (o : (Int32 × MS)) (h : m_x12_areCounts p0 s = some o) : yWi l yX12_areCounts cX12_areCounts 4 (some .boolean) { frames := 2, cells := 0, slots := 0, locals := 120 } D sz [.ref (a 200), .int p0] (RW D a s) (RW D a o.2) o.1 := by
  refine Met.ofW (cc := cX12_areCounts) (maxL := 4) (ret := (some .boolean)) (by decide) rfl ?_
  intro p e s₀ m args below meth c s₁ B hml hv
  obtain ⟨rfl, ⟨hsz, hP, hK, hD0⟩, hN⟩ := hv
  have hx := B.exec
  have hb := B.bytes
  have hr := B.returns
  have hts := atoms_spec (ws := wz yX12_areCounts cX12_areCounts 4 (some .boolean)) B.pre
  have ht : ∀ w ∈ lw_gd, w.before _ s₀ = true := fun w h => hts w (List.mem_cons_of_mem _ h)
  have hown : s₀.vm.findClass RX12 = some m.cls := findClass_of_methodNamed B.named
  have hlocks := B.notSynchronized
  subst hsz
  have hD := hD0.self (sz := s₀.heap.size)
  generalize hAe : va_A (RW D a s) s₀.heap.size = A at hD ⊢
  have hA : ∀ q : Nat, s₀.heap.size ≤ q → A q := fun q h => by rw [← hAe]; exact Or.inr h
  have hS : va_S A s₀.heap s₀.heap [] := va_S.rf
  have hDD : ∀ t : MS, va_D A (RW D a t) := fun t => RW_D t hD
  have hl := lv_entry ([.ref (a 200), .int p0]) (n := 4) (Nat.le_of_ble_eq_true rfl)
  rw [lg_entry_eq]
  generalize (lg_sl ([.ref (a 200), .int p0]) ++ List.replicate (4 - (lg_sl ([.ref (a 200), .int p0])).length) Slot.unset).toArray = ls at hl ⊢
  have hl : lv_has ls 4 [(0, .ref (a 200)), (1, .int p0)] := hl
  unfold m_x12_areCounts at h
  refine y_loop (pcJ := 153) (σ := Int32 × Int32 × MS) (fun n u H locs ls => va_P D vwCl (RW D a u.2.2) H ∧ va_S A s₀.heap H locs ∧ lv_has ls 4 [(0, .ref (a 200)), (1, .int u.1), (2, .int u.2.1)] ∧ m_x12_areCounts_L153 n u.1 u.2.1 u.2.2 = some o) (fun u => []) (fun u H locs ls hI => by obtain ⟨_, _, _, h⟩ := hI; cases h) (fun n153 ih153 u H locs ls hI => ?_) (fun J153 => ?_)
  · obtain ⟨hP, hS, hl, h⟩ := hI
    obtain ⟨x1, x2, s3⟩ := u
    have hP : va_P D vwCl (RW D a s3) H := hP
    have hl : lv_has ls 4 [(0, .ref (a 200)), (1, .int x1), (2, .int x2)] := hl
    have h : m_x12_areCounts_b153 (m_x12_areCounts_L153 n153) x1 x2 s3 = some o := h
    unfold m_x12_areCounts_b153 at h
    refine lv_iload_n hx hb dX12_areCounts_153 rfl (lv_at hl 2 rfl) ?_
    refine lv_aload_n hx hb dX12_areCounts_154 rfl (lv_at hl 0 rfl) ?_
    obtain ⟨r5, hc4, h⟩ := bn_e h
    refine ycV (As := []) (rest := [.int x2]) (C := RX12) (n := 0) ⟨hx, hb, hml, hown, ht⟩ (k_x12_blockMany l D a _ _ hc4) (zgV ml_X12_429 im_X12_blockMany se_X12_blockMany in_X12 co_X12_blockMany) rfl rfl (by decide +kernel) ⟨Nat.le_of_ble_eq_true rfl, Nat.le_of_ble_eq_true rfl⟩ hN hK hP hS 0 RW_0 rfl rfl rfl hl.1 rfl (Nat.le_of_ble_eq_true rfl) dX12_areCounts_155 ⟨Nat.le_of_ble_eq_true rfl, Nat.le_of_ble_eq_true rfl⟩ (fun H locs hP hS => ?_)
    refine lv_icmp_ge (tgt := 184) hx hb dX12_areCounts_158 (by decide) (fun c6 => ?_) (fun c6 => ?_)
    · have h := if_t c6 h
      refine lv_iconst (v := 1) hx hb dX12_areCounts_184 (by decide) ?_
      obtain rfl := Option.some.inj h
      exact W.zret (v := 1) hx hb hr (by decide) (fun t ht hW => ⟨⟨_, (), rfl, rfl, by rw [ht]; exact hP, va_K.moved hW.alike hK, hDD _⟩, hS.F ht⟩) hS.2.2 dX12_areCounts_185
    · have h := if_f c6 h
      refine lv_aload_n hx hb dX12_areCounts_161 rfl (lv_at hl 0 rfl) ?_
      refine va_get (D := D) (ci := 12) (v := .ref (a 115)) (C := RX12) (T := TX12) (N := 116) hx hb ht inX12 hown hK hP 0 RW_0 rfl 115 (by decide) (ht (.fieldLink RX12 258 "CloneVolumesModel" "recount" "[I") fl_X12_258) (fun _ h9 => h9) mF_115 dX12_areCounts_162 ?_
      refine lv_iload_n hx hb dX12_areCounts_165 rfl (lv_at hl 2 rfl) ?_
      obtain ⟨y7, ey7, iy7, h⟩ := rdI_e h
      refine ya_iald hx hb hK hP 80 0 RW_80 rfl ey7 iy7 dX12_areCounts_166 ?_
      refine lv_aload_n hx hb dX12_areCounts_167 rfl (lv_at hl 0 rfl) ?_
      refine lv_iload_n hx hb dX12_areCounts_168 rfl (lv_at hl 2 rfl) ?_
      refine lv_iload_n hx hb dX12_areCounts_169 rfl (lv_at hl 1 rfl) ?_
      obtain ⟨r9, hc8, h⟩ := bn_e h
      refine ycV (As := [.int x2, .int x1]) (rest := [.int y7]) (C := RX12) (n := 2) ⟨hx, hb, hml, hown, ht⟩ (k_x12_laidOf l D a x2 x1 _ _ hc8) (zgV ml_X12_816 im_X12_laidOf se_X12_laidOf in_X12 co_X12_laidOf) rfl rfl (by decide +kernel) ⟨Nat.le_of_ble_eq_true rfl, Nat.le_of_ble_eq_true rfl⟩ hN hK hP hS 0 RW_0 rfl rfl rfl hl.1 rfl (Nat.le_of_ble_eq_true rfl) dX12_areCounts_170 ⟨Nat.le_of_ble_eq_true rfl, Nat.le_of_ble_eq_true rfl⟩ (fun H locs hP hS => ?_)
      refine lv_icmp_eq (tgt := 178) hx hb dX12_areCounts_173 (by decide) (fun c10 => ?_) (fun c10 => ?_)
      · have h := if_t c10 h
        refine lv_iinc (v := x2 + 1) (lv' := [(2, .int (x2 + 1)), (0, .ref (a 200)), (1, .int x1)]) hx hb dX12_areCounts_178 hl (k := 2) rfl rfl (by decide) rfl (fun ls hl => ?_)
        refine lv_goto (tgt := 153) hx hb dX12_areCounts_181 (by decide) ?_
        exact ih153 (x1, x2 + 1, s3) _ _ _ ⟨hP, hS, lv_sub hl [1, 2, 0] rfl, h⟩
      · have h := if_f c10 h
        refine lv_iconst (v := 0) hx hb dX12_areCounts_176 (by decide) ?_
        obtain rfl := Option.some.inj h
        exact W.zret (v := 0) hx hb hr (by decide) (fun t ht hW => ⟨⟨_, (), rfl, rfl, by rw [ht]; exact hP, va_K.moved hW.alike hK, hDD _⟩, hS.F ht⟩) hS.2.2 dX12_areCounts_177
  refine y_loop (pcJ := 80) (σ := Int32 × Int32 × MS) (fun n u H locs ls => va_P D vwCl (RW D a u.2.2) H ∧ va_S A s₀.heap H locs ∧ lv_has ls 4 [(0, .ref (a 200)), (1, .int u.1), (2, .int u.2.1)] ∧ m_x12_areCounts_L80 n u.1 u.2.1 u.2.2 = some o) (fun u => []) (fun u H locs ls hI => by obtain ⟨_, _, _, h⟩ := hI; cases h) (fun n80 ih80 u H locs ls hI => ?_) (fun J80 => ?_)
  · obtain ⟨hP, hS, hl, h⟩ := hI
    obtain ⟨x11, x12, s13⟩ := u
    have hP : va_P D vwCl (RW D a s13) H := hP
    have hl : lv_has ls 4 [(0, .ref (a 200)), (1, .int x11), (2, .int x12)] := hl
    have h : m_x12_areCounts_b80 (m_x12_areCounts_L80 n80) x11 x12 s13 = some o := h
    unfold m_x12_areCounts_b80 at h
    refine y_head (pcJ := 145) (σ := Int32 × Int32 × MS) (fun u H locs ls => va_P D vwCl (RW D a u.2.2) H ∧ va_S A s₀.heap H locs ∧ lv_has ls 4 [(0, .ref (a 200)), (1, .int u.1), (2, .int u.2.1)] ∧ m_x12_areCounts_J145 (m_x12_areCounts_L80 n80) u.1 u.2.1 u.2.2 = some o) (fun u => []) (fun u H locs ls hI => ?_) (fun J145 => ?_)
    · obtain ⟨hP, hS, hl, h⟩ := hI
      obtain ⟨x14, x15, s16⟩ := u
      have hP : va_P D vwCl (RW D a s16) H := hP
      have hl : lv_has ls 4 [(0, .ref (a 200)), (1, .int x14), (2, .int x15)] := hl
      have h : m_x12_areCounts_J145 (m_x12_areCounts_L80 n80) x14 x15 s16 = some o := h
      unfold m_x12_areCounts_J145 at h
      refine lv_iinc (v := x15 + 1) (lv' := [(2, .int (x15 + 1)), (0, .ref (a 200)), (1, .int x14)]) hx hb dX12_areCounts_145 hl (k := 2) rfl rfl (by decide) rfl (fun ls hl => ?_)
      refine lv_goto (tgt := 80) hx hb dX12_areCounts_148 (by decide) ?_
      exact ih80 (x14, x15 + 1, s16) _ _ _ ⟨hP, hS, lv_sub hl [1, 2, 0] rfl, h⟩
    refine y_loop (pcJ := 111) (σ := Int32 × Int32 × Int32 × MS) (fun n u H locs ls => va_P D vwCl (RW D a u.2.2.2) H ∧ va_S A s₀.heap H locs ∧ lv_has ls 4 [(0, .ref (a 200)), (1, .int u.1), (2, .int u.2.1), (3, .int u.2.2.1)] ∧ m_x12_areCounts_L111 (m_x12_areCounts_L80 n80) n u.1 u.2.1 u.2.2.1 u.2.2.2 = some o) (fun u => []) (fun u H locs ls hI => by obtain ⟨_, _, _, h⟩ := hI; cases h) (fun n111 ih111 u H locs ls hI => ?_) (fun J111 => ?_)
    · obtain ⟨hP, hS, hl, h⟩ := hI
      obtain ⟨x17, x18, x19, s20⟩ := u
      have hP : va_P D vwCl (RW D a s20) H := hP
      have hl : lv_has ls 4 [(0, .ref (a 200)), (1, .int x17), (2, .int x18), (3, .int x19)] := hl
      have h : m_x12_areCounts_b111 (m_x12_areCounts_L80 n80) (m_x12_areCounts_L111 (m_x12_areCounts_L80 n80) n111) x17 x18 x19 s20 = some o := h
      unfold m_x12_areCounts_b111 at h
      refine lv_iload_n hx hb dX12_areCounts_111 rfl (lv_at hl 3 rfl) ?_
      refine lv_aload_n hx hb dX12_areCounts_112 rfl (lv_at hl 0 rfl) ?_
      refine lv_iload_n hx hb dX12_areCounts_113 rfl (lv_at hl 2 rfl) ?_
      refine lv_iconst (v := 3) hx hb dX12_areCounts_114 (by decide) ?_
      obtain ⟨r22, hc21, h⟩ := bn_e h
      refine ycV (As := [.int x18, .int 3]) (rest := [.int x19]) (C := RX12) (n := 2) ⟨hx, hb, hml, hown, ht⟩ (k_x12_laidOf l D a x18 3 _ _ hc21) (zgV ml_X12_816 im_X12_laidOf se_X12_laidOf in_X12 co_X12_laidOf) rfl rfl (by decide +kernel) ⟨Nat.le_of_ble_eq_true rfl, Nat.le_of_ble_eq_true rfl⟩ hN hK hP hS 0 RW_0 rfl rfl rfl hl.1 rfl (Nat.le_of_ble_eq_true rfl) dX12_areCounts_115 ⟨Nat.le_of_ble_eq_true rfl, Nat.le_of_ble_eq_true rfl⟩ (fun H locs hP hS => ?_)
      refine lv_icmp_ge (tgt := 145) hx hb dX12_areCounts_118 (by decide) (fun c23 => ?_) (fun c23 => ?_)
      · have h := if_t c23 h
        exact J145 (x17, x18, s20) _ _ _ ⟨hP, hS, lv_sub hl [0, 1, 2] rfl, h⟩
      · have h := if_f c23 h
        refine lv_aload_n hx hb dX12_areCounts_121 rfl (lv_at hl 0 rfl) ?_
        refine va_get (D := D) (ci := 12) (v := .ref (a 115)) (C := RX12) (T := TX12) (N := 116) hx hb ht inX12 hown hK hP 0 RW_0 rfl 115 (by decide) (ht (.fieldLink RX12 258 "CloneVolumesModel" "recount" "[I") fl_X12_258) (fun _ h9 => h9) mF_115 dX12_areCounts_122 ?_
        refine lv_aload_n hx hb dX12_areCounts_125 rfl (lv_at hl 0 rfl) ?_
        refine lv_iload_n hx hb dX12_areCounts_126 rfl (lv_at hl 2 rfl) ?_
        refine lv_bipush (v := 10) hx hb dX12_areCounts_127 (by decide) ?_
        refine lv_iload_n hx hb dX12_areCounts_129 rfl (lv_at hl 3 rfl) ?_
        refine lv_iadd hx hb dX12_areCounts_130 ?_
        obtain ⟨r25, hc24, h⟩ := bn_e h
        refine ycV (As := [.int x18, .int (10 + x19)]) (rest := [.ref (a 115)]) (C := RX12) (n := 2) ⟨hx, hb, hml, hown, ht⟩ (k_x12_laidOf l D a x18 (10 + x19) _ _ hc24) (zgV ml_X12_816 im_X12_laidOf se_X12_laidOf in_X12 co_X12_laidOf) rfl rfl (by decide +kernel) ⟨Nat.le_of_ble_eq_true rfl, Nat.le_of_ble_eq_true rfl⟩ hN hK hP hS 0 RW_0 rfl rfl rfl hl.1 rfl (Nat.le_of_ble_eq_true rfl) dX12_areCounts_131 ⟨Nat.le_of_ble_eq_true rfl, Nat.le_of_ble_eq_true rfl⟩ (fun H locs hP hS => ?_)
        refine lv_dup2_11 hx hb dX12_areCounts_134 rfl rfl ?_
        obtain ⟨y26, ey26, iy26, h⟩ := rdI_e h
        refine ya_iald hx hb hK hP 80 0 RW_80 rfl ey26 iy26 dX12_areCounts_135 ?_
        refine lv_iconst (v := 1) hx hb dX12_areCounts_136 (by decide) ?_
        refine lv_iadd hx hb dX12_areCounts_137 ?_
        obtain ⟨hi27, h⟩ := inb_e h
        refine ya_iast hx hb hK hP (hDD _) hS 80 0 RW_80 rfl hi27 dX12_areCounts_138 (RW_w80 _) (fun H locs hP hS => ?_)
        obtain ⟨s28, hs28, h⟩ := st_e h
        rw [hs28] at hP
        refine lv_iinc (v := x19 + 1) (lv' := [(3, .int (x19 + 1)), (0, .ref (a 200)), (1, .int x17), (2, .int x18)]) hx hb dX12_areCounts_139 hl (k := 3) rfl rfl (by decide) rfl (fun ls hl => ?_)
        refine lv_goto (tgt := 111) hx hb dX12_areCounts_142 (by decide) ?_
        exact ih111 (x17, x18, x19 + 1, s28) _ _ _ ⟨hP, hS, lv_sub hl [1, 2, 3, 0] rfl, h⟩
    refine lv_iload_n hx hb dX12_areCounts_80 rfl (lv_at hl 2 rfl) ?_
    refine lv_aload_n hx hb dX12_areCounts_81 rfl (lv_at hl 0 rfl) ?_
    obtain ⟨r30, hc29, h⟩ := bn_e h
    refine ycV (As := []) (rest := [.int x12]) (C := RX12) (n := 0) ⟨hx, hb, hml, hown, ht⟩ (k_x12_blockMany l D a _ _ hc29) (zgV ml_X12_429 im_X12_blockMany se_X12_blockMany in_X12 co_X12_blockMany) rfl rfl (by decide +kernel) ⟨Nat.le_of_ble_eq_true rfl, Nat.le_of_ble_eq_true rfl⟩ hN hK hP hS 0 RW_0 rfl rfl rfl hl.1 rfl (Nat.le_of_ble_eq_true rfl) dX12_areCounts_82 ⟨Nat.le_of_ble_eq_true rfl, Nat.le_of_ble_eq_true rfl⟩ (fun H locs hP hS => ?_)
    refine lv_icmp_ge (tgt := 151) hx hb dX12_areCounts_85 (by decide) (fun c31 => ?_) (fun c31 => ?_)
    · have h := if_t c31 h
      refine lv_iconst (v := 0) hx hb dX12_areCounts_151 (by decide) ?_
      refine lv_istore_n (lv' := [(2, .int 0), (0, .ref (a 200)), (1, .int x11)]) hx hb dX12_areCounts_152 rfl hl (by decide) rfl (fun ls hl => ?_)
      exact J153 FU (x11, 0, s13) _ _ _ ⟨hP, hS, lv_sub hl [1, 2, 0] rfl, h⟩
    · have h := if_f c31 h
      refine lv_aload_n hx hb dX12_areCounts_88 rfl (lv_at hl 0 rfl) ?_
      refine lv_iload_n hx hb dX12_areCounts_89 rfl (lv_at hl 2 rfl) ?_
      refine lv_iload_n hx hb dX12_areCounts_90 rfl (lv_at hl 1 rfl) ?_
      obtain ⟨r33, hc32, h⟩ := bn_e h
      refine ycV (As := [.int x12, .int x11]) (rest := []) (C := RX12) (n := 2) ⟨hx, hb, hml, hown, ht⟩ (k_x12_laidOf l D a x12 x11 _ _ hc32) (zgV ml_X12_816 im_X12_laidOf se_X12_laidOf in_X12 co_X12_laidOf) rfl rfl (by decide +kernel) ⟨Nat.le_of_ble_eq_true rfl, Nat.le_of_ble_eq_true rfl⟩ hN hK hP hS 0 RW_0 rfl rfl rfl hl.1 rfl (Nat.le_of_ble_eq_true rfl) dX12_areCounts_91 ⟨Nat.le_of_ble_eq_true rfl, Nat.le_of_ble_eq_true rfl⟩ (fun H locs hP hS => ?_)
      refine lv_if_eq (tgt := 145) hx hb dX12_areCounts_94 (by decide) (fun c34 => ?_) (fun c34 => ?_)
      · have h := if_t c34 h
        exact J145 (x11, x12, s13) _ _ _ ⟨hP, hS, lv_sub hl [0, 1, 2] rfl, h⟩
      · have h := if_f c34 h
        refine lv_aload_n hx hb dX12_areCounts_97 rfl (lv_at hl 0 rfl) ?_
        refine lv_iload_n hx hb dX12_areCounts_98 rfl (lv_at hl 2 rfl) ?_
        refine lv_iconst (v := 2) hx hb dX12_areCounts_99 (by decide) ?_
        obtain ⟨r36, hc35, h⟩ := bn_e h
        refine ycV (As := [.int x12, .int 2]) (rest := []) (C := RX12) (n := 2) ⟨hx, hb, hml, hown, ht⟩ (k_x12_laidOf l D a x12 2 _ _ hc35) (zgV ml_X12_816 im_X12_laidOf se_X12_laidOf in_X12 co_X12_laidOf) rfl rfl (by decide +kernel) ⟨Nat.le_of_ble_eq_true rfl, Nat.le_of_ble_eq_true rfl⟩ hN hK hP hS 0 RW_0 rfl rfl rfl hl.1 rfl (Nat.le_of_ble_eq_true rfl) dX12_areCounts_100 ⟨Nat.le_of_ble_eq_true rfl, Nat.le_of_ble_eq_true rfl⟩ (fun H locs hP hS => ?_)
        refine lv_if_ne (tgt := 109) hx hb dX12_areCounts_103 (by decide) (fun c37 => ?_) (fun c37 => ?_)
        · have h := if_f c37 h
          refine lv_iconst (v := 0) hx hb dX12_areCounts_109 (by decide) ?_
          refine lv_istore_n (lv' := [(3, .int 0), (0, .ref (a 200)), (1, .int x11), (2, .int x12)]) hx hb dX12_areCounts_110 rfl hl (by decide) rfl (fun ls hl => ?_)
          exact J111 FU (x11, x12, 0, s13) _ _ _ ⟨hP, hS, lv_sub hl [1, 2, 3, 0] rfl, h⟩
        · have h := if_t c37 h
          refine lv_goto (tgt := 145) hx hb dX12_areCounts_106 (by decide) ?_
          exact J145 (x11, x12, s13) _ _ _ ⟨hP, hS, lv_sub hl [0, 1, 2] rfl, h⟩
  refine y_loop (pcJ := 23) (σ := Int32 × Int32 × MS) (fun n u H locs ls => va_P D vwCl (RW D a u.2.2) H ∧ va_S A s₀.heap H locs ∧ lv_has ls 4 [(0, .ref (a 200)), (1, .int u.1), (2, .int u.2.1)] ∧ m_x12_areCounts_L23 n u.1 u.2.1 u.2.2 = some o) (fun u => []) (fun u H locs ls hI => by obtain ⟨_, _, _, h⟩ := hI; cases h) (fun n23 ih23 u H locs ls hI => ?_) (fun J23 => ?_)
  · obtain ⟨hP, hS, hl, h⟩ := hI
    obtain ⟨x38, x39, s40⟩ := u
    have hP : va_P D vwCl (RW D a s40) H := hP
    have hl : lv_has ls 4 [(0, .ref (a 200)), (1, .int x38), (2, .int x39)] := hl
    have h : m_x12_areCounts_b23 (m_x12_areCounts_L23 n23) x38 x39 s40 = some o := h
    unfold m_x12_areCounts_b23 at h
    refine y_head (pcJ := 72) (σ := Int32 × Int32 × MS) (fun u H locs ls => va_P D vwCl (RW D a u.2.2) H ∧ va_S A s₀.heap H locs ∧ lv_has ls 4 [(0, .ref (a 200)), (1, .int u.1), (2, .int u.2.1)] ∧ m_x12_areCounts_J72 (m_x12_areCounts_L23 n23) u.1 u.2.1 u.2.2 = some o) (fun u => []) (fun u H locs ls hI => ?_) (fun J72 => ?_)
    · obtain ⟨hP, hS, hl, h⟩ := hI
      obtain ⟨x41, x42, s43⟩ := u
      have hP : va_P D vwCl (RW D a s43) H := hP
      have hl : lv_has ls 4 [(0, .ref (a 200)), (1, .int x41), (2, .int x42)] := hl
      have h : m_x12_areCounts_J72 (m_x12_areCounts_L23 n23) x41 x42 s43 = some o := h
      unfold m_x12_areCounts_J72 at h
      refine lv_iinc (v := x42 + 1) (lv' := [(2, .int (x42 + 1)), (0, .ref (a 200)), (1, .int x41)]) hx hb dX12_areCounts_72 hl (k := 2) rfl rfl (by decide) rfl (fun ls hl => ?_)
      refine lv_goto (tgt := 23) hx hb dX12_areCounts_75 (by decide) ?_
      exact ih23 (x41, x42 + 1, s43) _ _ _ ⟨hP, hS, lv_sub hl [1, 2, 0] rfl, h⟩
    refine lv_iload_n hx hb dX12_areCounts_23 rfl (lv_at hl 2 rfl) ?_
    refine lv_bipush (v := 8) hx hb dX12_areCounts_24 (by decide) ?_
    refine lv_icmp_ge (tgt := 78) hx hb dX12_areCounts_26 (by decide) (fun c44 => ?_) (fun c44 => ?_)
    · have h := if_t c44 h
      refine lv_iconst (v := 0) hx hb dX12_areCounts_78 (by decide) ?_
      refine lv_istore_n (lv' := [(2, .int 0), (0, .ref (a 200)), (1, .int x38)]) hx hb dX12_areCounts_79 rfl hl (by decide) rfl (fun ls hl => ?_)
      exact J80 FU (x38, 0, s40) _ _ _ ⟨hP, hS, lv_sub hl [1, 2, 0] rfl, h⟩
    · have h := if_f c44 h
      refine lv_aload_n hx hb dX12_areCounts_29 rfl (lv_at hl 0 rfl) ?_
      refine va_get (D := D) (ci := 12) (v := .ref (a 113)) (C := RX12) (T := TX12) (N := 116) hx hb ht inX12 hown hK hP 0 RW_0 rfl 113 (by decide) (ht (.fieldLink RX12 255 "CloneVolumesModel" "laid" "[I") fl_X12_255) (fun _ h9 => h9) mF_113 dX12_areCounts_30 ?_
      refine lv_bipush (v := 8) hx hb dX12_areCounts_33 (by decide) ?_
      refine lv_iload_n hx hb dX12_areCounts_35 rfl (lv_at hl 1 rfl) ?_
      refine lv_imul hx hb dX12_areCounts_36 ?_
      refine lv_iload_n hx hb dX12_areCounts_37 rfl (lv_at hl 2 rfl) ?_
      refine lv_iadd hx hb dX12_areCounts_38 ?_
      obtain ⟨y45, ey45, iy45, h⟩ := rdI_e h
      refine ya_iald hx hb hK hP 79 0 RW_79 rfl ey45 iy45 dX12_areCounts_39 ?_
      refine lv_istore_n (lv' := [(3, .int y45), (0, .ref (a 200)), (1, .int x38), (2, .int x39)]) hx hb dX12_areCounts_40 rfl hl (by decide) rfl (fun ls hl => ?_)
      refine lv_iload_n hx hb dX12_areCounts_41 rfl (lv_at hl 0 rfl) ?_
      refine lv_sipush (v := 254) hx hb dX12_areCounts_42 (by decide) ?_
      refine lv_icmp_lt (tgt := 51) hx hb dX12_areCounts_45 (by decide) (fun c46 => ?_) (fun c46 => ?_)
      · have h := if_t c46 h
        refine lv_aload_n hx hb dX12_areCounts_51 rfl (lv_at hl 1 rfl) ?_
        refine lv_iload_n hx hb dX12_areCounts_52 rfl (lv_at hl 0 rfl) ?_
        refine lv_i2l (v := Int32.toInt64 y45) hx hb dX12_areCounts_53 rfl ?_
        obtain ⟨r48, hc47, h⟩ := bn_e h
        refine ycV (As := [.long (Int32.toInt64 y45)]) (rest := []) (C := RX12) (n := 1) ⟨hx, hb, hml, hown, ht⟩ (k_x12_isBlock l D a (Int32.toInt64 y45) _ _ hc47) (zgV ml_X12_616 im_X12_isBlock se_X12_isBlock in_X12 co_X12_isBlock) rfl rfl (by decide +kernel) ⟨Nat.le_of_ble_eq_true rfl, Nat.le_of_ble_eq_true rfl⟩ hN hK hP hS 0 RW_0 rfl rfl rfl hl.1 rfl (Nat.le_of_ble_eq_true rfl) dX12_areCounts_54 ⟨Nat.le_of_ble_eq_true rfl, Nat.le_of_ble_eq_true rfl⟩ (fun H locs hP hS => ?_)
        refine lv_if_ne (tgt := 62) hx hb dX12_areCounts_57 (by decide) (fun c49 => ?_) (fun c49 => ?_)
        · have h := if_f c49 h
          refine lv_aload_n hx hb dX12_areCounts_62 rfl (lv_at hl 1 rfl) ?_
          refine va_get (D := D) (ci := 12) (v := .ref (a 115)) (C := RX12) (T := TX12) (N := 116) hx hb ht inX12 hown hK hP 0 RW_0 rfl 115 (by decide) (ht (.fieldLink RX12 258 "CloneVolumesModel" "recount" "[I") fl_X12_258) (fun _ h9 => h9) mF_115 dX12_areCounts_63 ?_
          refine lv_iload_n hx hb dX12_areCounts_66 rfl (lv_at hl 0 rfl) ?_
          refine lv_dup2_11 hx hb dX12_areCounts_67 rfl rfl ?_
          obtain ⟨y50, ey50, iy50, h⟩ := rdI_e h
          refine ya_iald hx hb hK hP 80 0 RW_80 rfl ey50 iy50 dX12_areCounts_68 ?_
          refine lv_iconst (v := 1) hx hb dX12_areCounts_69 (by decide) ?_
          refine lv_iadd hx hb dX12_areCounts_70 ?_
          obtain ⟨hi51, h⟩ := inb_e h
          refine ya_iast hx hb hK hP (hDD _) hS 80 0 RW_80 rfl hi51 dX12_areCounts_71 (RW_w80 _) (fun H locs hP hS => ?_)
          obtain ⟨s52, hs52, h⟩ := st_e h
          rw [hs52] at hP
          exact J72 (x38, x39, s52) _ _ _ ⟨hP, hS, lv_sub hl [1, 2, 3] rfl, h⟩
        · have h := if_t c49 h
          refine lv_iconst (v := 0) hx hb dX12_areCounts_60 (by decide) ?_
          obtain rfl := Option.some.inj h
          exact W.zret (v := 0) hx hb hr (by decide) (fun t ht hW => ⟨⟨_, (), rfl, rfl, by rw [ht]; exact hP, va_K.moved hW.alike hK, hDD _⟩, hS.F ht⟩) hS.2.2 dX12_areCounts_61
      · have h := if_f c46 h
        refine lv_goto (tgt := 72) hx hb dX12_areCounts_48 (by decide) ?_
        exact J72 (x38, x39, s40) _ _ _ ⟨hP, hS, lv_sub hl [1, 2, 3] rfl, h⟩
  refine y_loop (pcJ := 2) (σ := Int32 × Int32 × MS) (fun n u H locs ls => va_P D vwCl (RW D a u.2.2) H ∧ va_S A s₀.heap H locs ∧ lv_has ls 4 [(0, .ref (a 200)), (1, .int u.1), (2, .int u.2.1)] ∧ m_x12_areCounts_L2 n u.1 u.2.1 u.2.2 = some o) (fun u => []) (fun u H locs ls hI => by obtain ⟨_, _, _, h⟩ := hI; cases h) (fun n2 ih2 u H locs ls hI => ?_) (fun J2 => ?_)
  · obtain ⟨hP, hS, hl, h⟩ := hI
    obtain ⟨x53, x54, s55⟩ := u
    have hP : va_P D vwCl (RW D a s55) H := hP
    have hl : lv_has ls 4 [(0, .ref (a 200)), (1, .int x53), (2, .int x54)] := hl
    have h : m_x12_areCounts_b2 (m_x12_areCounts_L2 n2) x53 x54 s55 = some o := h
    unfold m_x12_areCounts_b2 at h
    refine lv_iload_n hx hb dX12_areCounts_2 rfl (lv_at hl 2 rfl) ?_
    refine lv_bipush (v := 48) hx hb dX12_areCounts_3 (by decide) ?_
    refine lv_icmp_ge (tgt := 21) hx hb dX12_areCounts_5 (by decide) (fun c56 => ?_) (fun c56 => ?_)
    · have h := if_t c56 h
      refine lv_iconst (v := 0) hx hb dX12_areCounts_21 (by decide) ?_
      refine lv_istore_n (lv' := [(2, .int 0), (0, .ref (a 200)), (1, .int x53)]) hx hb dX12_areCounts_22 rfl hl (by decide) rfl (fun ls hl => ?_)
      exact J23 FU (x53, 0, s55) _ _ _ ⟨hP, hS, lv_sub hl [1, 2, 0] rfl, h⟩
    · have h := if_f c56 h
      refine lv_aload_n hx hb dX12_areCounts_8 rfl (lv_at hl 0 rfl) ?_
      refine va_get (D := D) (ci := 12) (v := .ref (a 115)) (C := RX12) (T := TX12) (N := 116) hx hb ht inX12 hown hK hP 0 RW_0 rfl 115 (by decide) (ht (.fieldLink RX12 258 "CloneVolumesModel" "recount" "[I") fl_X12_258) (fun _ h9 => h9) mF_115 dX12_areCounts_9 ?_
      refine lv_iload_n hx hb dX12_areCounts_12 rfl (lv_at hl 2 rfl) ?_
      refine lv_iconst (v := 0) hx hb dX12_areCounts_13 (by decide) ?_
      obtain ⟨hi57, h⟩ := inb_e h
      refine ya_iast hx hb hK hP (hDD _) hS 80 0 RW_80 rfl hi57 dX12_areCounts_14 (RW_w80 _) (fun H locs hP hS => ?_)
      obtain ⟨s58, hs58, h⟩ := st_e h
      rw [hs58] at hP
      refine lv_iinc (v := x54 + 1) (lv' := [(2, .int (x54 + 1)), (0, .ref (a 200)), (1, .int x53)]) hx hb dX12_areCounts_15 hl (k := 2) rfl rfl (by decide) rfl (fun ls hl => ?_)
      refine lv_goto (tgt := 2) hx hb dX12_areCounts_18 (by decide) ?_
      exact ih2 (x53, x54 + 1, s58) _ _ _ ⟨hP, hS, lv_sub hl [1, 2, 0] rfl, h⟩
  refine lv_iconst (v := 0) hx hb dX12_areCounts_0 (by decide) ?_
  refine lv_istore_n (lv' := [(2, .int 0), (0, .ref (a 200)), (1, .int p0)]) hx hb dX12_areCounts_1 rfl hl (by decide) rfl (fun ls hl => ?_)
  exact J2 FU (p0, 0, s) _ _ _ ⟨hP, hS, lv_sub hl [1, 2, 0] rfl, h⟩
def m_x12_areBetween_J96 (lr10 : Int32 → Int32 → Int32 → MS → Option (Int32 × MS)) (lr30 : Int32 → Int32 → Int32 → Int32 → Int32 → MS → Option (Int32 × MS)) (x11 : Int32) (x12 : Int32) (x13 : Int32) (x14 : Int32) (x15 : Int32) (s16 : MS) : Option (Int32 × MS) :=
  lr30 x11 x12 x13 x14 (x15 + 1) s16
def m_x12_areBetween_b30 (lr10 : Int32 → Int32 → Int32 → MS → Option (Int32 × MS)) (lr30 : Int32 → Int32 → Int32 → Int32 → Int32 → MS → Option (Int32 × MS)) (x5 : Int32) (x6 : Int32) (x7 : Int32) (x8 : Int32) (x9 : Int32) (s10 : MS) : Option (Int32 × MS) :=
  bn (m_x12_laidOf x8 3 s10) (fun r18 => if r18 ≤ x9 then lr10 x5 x6 x7 s10 else bn (m_x12_laidOf x8 2 s10) (fun r21 => if r21 = 0 then bn (m_x12_laidOf x8 (4 + x9) s10) (fun r28 => bn (m_x12_isIn (Int32.toInt64 r28) (Int32.toInt64 x5) (Int32.toInt64 x6) s10) (fun r30 => if r30 = 0 then some (0, s10) else m_x12_areBetween_J96 lr10 lr30 x5 x6 x7 x8 x9 s10)) else bn (m_x12_laidOf x8 (10 + x9) s10) (fun r24 => inb 300 x7 (stn (sA s10 62 (upd (gA s10 62) (Int32.toNatClampNeg x7) r24)) (fun s26 => m_x12_areBetween_J96 lr10 lr30 x5 x6 (x7 + 1) x8 x9 s26)))))
def m_x12_areBetween_L30 (lr10 : Int32 → Int32 → Int32 → MS → Option (Int32 × MS)) (n : Nat) : Int32 → Int32 → Int32 → Int32 → Int32 → MS → Option (Int32 × MS) := lp (fun _ _ _ _ _ _ => none) (m_x12_areBetween_b30 lr10) n
def m_x12_areBetween_b10 (lr10 : Int32 → Int32 → Int32 → MS → Option (Int32 × MS)) (x1 : Int32) (x2 : Int32) (x3 : Int32) (s4 : MS) : Option (Int32 × MS) :=
  if x3 ≤ 0 then some (1, s4) else rdI (gA s4 62) 300 (x3 + (-1)) (fun y33 => m_x12_areBetween_L30 lr10 FU x1 x2 (x3 + (-1)) y33 0 s4)
def m_x12_areBetween_L10 (n : Nat) : Int32 → Int32 → Int32 → MS → Option (Int32 × MS) := lp (fun _ _ _ _ => none) (m_x12_areBetween_b10) n
def m_x12_areBetween (p0 : Int32) (p1 : Int32) (p2 : Int32) (s : MS) : Option (Int32 × MS) :=
  inb 300 0 (stn (sA s 62 (upd (gA s 62) (Int32.toNatClampNeg 0) p0)) (fun s35 => m_x12_areBetween_L10 FU p1 p2 1 s35))
set_option maxHeartbeats 4000000 in
set_option maxRecDepth 100000 in
theorem k_x12_areBetween (l : Launch) (D : va_G) (a : Nat → Nat) (p0 : Int32) (p1 : Int32) (p2 : Int32) (sz : Nat) (s : MS) (o : (Int32 × MS)) (h : m_x12_areBetween p0 p1 p2 s = some o) : yWi l yX12_areBetween cX12_areBetween 7 (some .boolean) { frames := 1, cells := 0, slots := 0, locals := 60 } D sz [.ref (a 200), .int p0, .int p1, .int p2] (RW D a s) (RW D a o.2) o.1 := by
  refine Met.ofW (cc := cX12_areBetween) (maxL := 7) (ret := (some .boolean)) (by decide) rfl ?_
  intro p e s₀ m args below meth c s₁ B hml hv
  obtain ⟨rfl, ⟨hsz, hP, hK, hD0⟩, hN⟩ := hv
  have hx := B.exec
  have hb := B.bytes
  have hr := B.returns
  have hts := atoms_spec (ws := wz yX12_areBetween cX12_areBetween 7 (some .boolean)) B.pre
  have ht : ∀ w ∈ lw_gd, w.before _ s₀ = true := fun w h => hts w (List.mem_cons_of_mem _ h)
  have hown : s₀.vm.findClass RX12 = some m.cls := findClass_of_methodNamed B.named
  have hlocks := B.notSynchronized
  subst hsz
  have hD := hD0.self (sz := s₀.heap.size)
  generalize hAe : va_A (RW D a s) s₀.heap.size = A at hD ⊢
  have hA : ∀ q : Nat, s₀.heap.size ≤ q → A q := fun q h => by rw [← hAe]; exact Or.inr h
  have hS : va_S A s₀.heap s₀.heap [] := va_S.rf
  have hDD : ∀ t : MS, va_D A (RW D a t) := fun t => RW_D t hD
  have hl := lv_entry ([.ref (a 200), .int p0, .int p1, .int p2]) (n := 7) (Nat.le_of_ble_eq_true rfl)
  rw [lg_entry_eq]
  generalize (lg_sl ([.ref (a 200), .int p0, .int p1, .int p2]) ++ List.replicate (7 - (lg_sl ([.ref (a 200), .int p0, .int p1, .int p2])).length) Slot.unset).toArray = ls at hl ⊢
  have hl : lv_has ls 7 [(0, .ref (a 200)), (1, .int p0), (2, .int p1), (3, .int p2)] := hl
  unfold m_x12_areBetween at h
  refine y_loop (pcJ := 10) (σ := Int32 × Int32 × Int32 × MS) (fun n u H locs ls => va_P D vwCl (RW D a u.2.2.2) H ∧ va_S A s₀.heap H locs ∧ lv_has ls 7 [(0, .ref (a 200)), (2, .int u.1), (3, .int u.2.1), (4, .int u.2.2.1)] ∧ m_x12_areBetween_L10 n u.1 u.2.1 u.2.2.1 u.2.2.2 = some o) (fun u => []) (fun u H locs ls hI => by obtain ⟨_, _, _, h⟩ := hI; cases h) (fun n10 ih10 u H locs ls hI => ?_) (fun J10 => ?_)
  · obtain ⟨hP, hS, hl, h⟩ := hI
    obtain ⟨x1, x2, x3, s4⟩ := u
    have hP : va_P D vwCl (RW D a s4) H := hP
    have hl : lv_has ls 7 [(0, .ref (a 200)), (2, .int x1), (3, .int x2), (4, .int x3)] := hl
    have h : m_x12_areBetween_b10 (m_x12_areBetween_L10 n10) x1 x2 x3 s4 = some o := h
    unfold m_x12_areBetween_b10 at h
    refine y_loop (pcJ := 30) (σ := Int32 × Int32 × Int32 × Int32 × Int32 × MS) (fun n u H locs ls => va_P D vwCl (RW D a u.2.2.2.2.2) H ∧ va_S A s₀.heap H locs ∧ lv_has ls 7 [(0, .ref (a 200)), (2, .int u.1), (3, .int u.2.1), (4, .int u.2.2.1), (5, .int u.2.2.2.1), (6, .int u.2.2.2.2.1)] ∧ m_x12_areBetween_L30 (m_x12_areBetween_L10 n10) n u.1 u.2.1 u.2.2.1 u.2.2.2.1 u.2.2.2.2.1 u.2.2.2.2.2 = some o) (fun u => []) (fun u H locs ls hI => by obtain ⟨_, _, _, h⟩ := hI; cases h) (fun n30 ih30 u H locs ls hI => ?_) (fun J30 => ?_)
    · obtain ⟨hP, hS, hl, h⟩ := hI
      obtain ⟨x5, x6, x7, x8, x9, s10⟩ := u
      have hP : va_P D vwCl (RW D a s10) H := hP
      have hl : lv_has ls 7 [(0, .ref (a 200)), (2, .int x5), (3, .int x6), (4, .int x7), (5, .int x8), (6, .int x9)] := hl
      have h : m_x12_areBetween_b30 (m_x12_areBetween_L10 n10) (m_x12_areBetween_L30 (m_x12_areBetween_L10 n10) n30) x5 x6 x7 x8 x9 s10 = some o := h
      unfold m_x12_areBetween_b30 at h
      refine y_head (pcJ := 96) (σ := Int32 × Int32 × Int32 × Int32 × Int32 × MS) (fun u H locs ls => va_P D vwCl (RW D a u.2.2.2.2.2) H ∧ va_S A s₀.heap H locs ∧ lv_has ls 7 [(0, .ref (a 200)), (2, .int u.1), (3, .int u.2.1), (4, .int u.2.2.1), (5, .int u.2.2.2.1), (6, .int u.2.2.2.2.1)] ∧ m_x12_areBetween_J96 (m_x12_areBetween_L10 n10) (m_x12_areBetween_L30 (m_x12_areBetween_L10 n10) n30) u.1 u.2.1 u.2.2.1 u.2.2.2.1 u.2.2.2.2.1 u.2.2.2.2.2 = some o) (fun u => []) (fun u H locs ls hI => ?_) (fun J96 => ?_)
      · obtain ⟨hP, hS, hl, h⟩ := hI
        obtain ⟨x11, x12, x13, x14, x15, s16⟩ := u
        have hP : va_P D vwCl (RW D a s16) H := hP
        have hl : lv_has ls 7 [(0, .ref (a 200)), (2, .int x11), (3, .int x12), (4, .int x13), (5, .int x14), (6, .int x15)] := hl
        have h : m_x12_areBetween_J96 (m_x12_areBetween_L10 n10) (m_x12_areBetween_L30 (m_x12_areBetween_L10 n10) n30) x11 x12 x13 x14 x15 s16 = some o := h
        unfold m_x12_areBetween_J96 at h
        refine lv_iinc (v := x15 + 1) (lv' := [(6, .int (x15 + 1)), (0, .ref (a 200)), (2, .int x11), (3, .int x12), (4, .int x13), (5, .int x14)]) hx hb dX12_areBetween_96 hl (k := 5) rfl rfl (by decide) rfl (fun ls hl => ?_)
        refine lv_goto (tgt := 30) hx hb dX12_areBetween_99 (by decide) ?_
        exact ih30 (x11, x12, x13, x14, x15 + 1, s16) _ _ _ ⟨hP, hS, lv_sub hl [1, 2, 3, 4, 5, 0] rfl, h⟩
      refine lv_iload hx hb dX12_areBetween_30 (lv_at hl 5 rfl) ?_
      refine lv_aload_n hx hb dX12_areBetween_32 rfl (lv_at hl 0 rfl) ?_
      refine lv_iload hx hb dX12_areBetween_33 (lv_at hl 4 rfl) ?_
      refine lv_iconst (v := 3) hx hb dX12_areBetween_35 (by decide) ?_
      obtain ⟨r18, hc17, h⟩ := bn_e h
      refine ycV (As := [.int x8, .int 3]) (rest := [.int x9]) (C := RX12) (n := 2) ⟨hx, hb, hml, hown, ht⟩ (k_x12_laidOf l D a x8 3 _ _ hc17) (zgV ml_X12_816 im_X12_laidOf se_X12_laidOf in_X12 co_X12_laidOf) rfl rfl (by decide +kernel) ⟨Nat.le_of_ble_eq_true rfl, Nat.le_of_ble_eq_true rfl⟩ hN hK hP hS 0 RW_0 rfl rfl rfl hl.1 rfl (Nat.le_of_ble_eq_true rfl) dX12_areBetween_36 ⟨Nat.le_of_ble_eq_true rfl, Nat.le_of_ble_eq_true rfl⟩ (fun H locs hP hS => ?_)
      refine lv_icmp_ge (tgt := 102) hx hb dX12_areBetween_39 (by decide) (fun c19 => ?_) (fun c19 => ?_)
      · have h := if_t c19 h
        refine lv_goto (tgt := 10) hx hb dX12_areBetween_102 (by decide) ?_
        exact ih10 (x5, x6, x7, s10) _ _ _ ⟨hP, hS, lv_sub hl [0, 1, 2, 3] rfl, h⟩
      · have h := if_f c19 h
        refine lv_aload_n hx hb dX12_areBetween_42 rfl (lv_at hl 0 rfl) ?_
        refine lv_iload hx hb dX12_areBetween_43 (lv_at hl 4 rfl) ?_
        refine lv_iconst (v := 2) hx hb dX12_areBetween_45 (by decide) ?_
        obtain ⟨r21, hc20, h⟩ := bn_e h
        refine ycV (As := [.int x8, .int 2]) (rest := []) (C := RX12) (n := 2) ⟨hx, hb, hml, hown, ht⟩ (k_x12_laidOf l D a x8 2 _ _ hc20) (zgV ml_X12_816 im_X12_laidOf se_X12_laidOf in_X12 co_X12_laidOf) rfl rfl (by decide +kernel) ⟨Nat.le_of_ble_eq_true rfl, Nat.le_of_ble_eq_true rfl⟩ hN hK hP hS 0 RW_0 rfl rfl rfl hl.1 rfl (Nat.le_of_ble_eq_true rfl) dX12_areBetween_46 ⟨Nat.le_of_ble_eq_true rfl, Nat.le_of_ble_eq_true rfl⟩ (fun H locs hP hS => ?_)
        refine lv_if_ne (tgt := 75) hx hb dX12_areBetween_49 (by decide) (fun c22 => ?_) (fun c22 => ?_)
        · have h := if_f c22 h
          refine lv_aload_n hx hb dX12_areBetween_75 rfl (lv_at hl 0 rfl) ?_
          refine va_get (D := D) (ci := 12) (v := .ref (a 62)) (C := RX12) (T := TX12) (N := 116) hx hb ht inX12 hown hK hP 0 RW_0 rfl 62 (by decide) (ht (.fieldLink RX12 146 "CloneVolumesModel" "treeRow" "[I") fl_X12_146) (fun _ h9 => h9) mF_62 dX12_areBetween_76 ?_
          refine lv_iload hx hb dX12_areBetween_79 (lv_at hl 3 rfl) ?_
          refine lv_aload_n hx hb dX12_areBetween_81 rfl (lv_at hl 0 rfl) ?_
          refine lv_iload hx hb dX12_areBetween_82 (lv_at hl 4 rfl) ?_
          refine lv_bipush (v := 10) hx hb dX12_areBetween_84 (by decide) ?_
          refine lv_iload hx hb dX12_areBetween_86 (lv_at hl 5 rfl) ?_
          refine lv_iadd hx hb dX12_areBetween_88 ?_
          obtain ⟨r24, hc23, h⟩ := bn_e h
          refine ycV (As := [.int x8, .int (10 + x9)]) (rest := [.int x7, .ref (a 62)]) (C := RX12) (n := 2) ⟨hx, hb, hml, hown, ht⟩ (k_x12_laidOf l D a x8 (10 + x9) _ _ hc23) (zgV ml_X12_816 im_X12_laidOf se_X12_laidOf in_X12 co_X12_laidOf) rfl rfl (by decide +kernel) ⟨Nat.le_of_ble_eq_true rfl, Nat.le_of_ble_eq_true rfl⟩ hN hK hP hS 0 RW_0 rfl rfl rfl hl.1 rfl (Nat.le_of_ble_eq_true rfl) dX12_areBetween_89 ⟨Nat.le_of_ble_eq_true rfl, Nat.le_of_ble_eq_true rfl⟩ (fun H locs hP hS => ?_)
          obtain ⟨hi25, h⟩ := inb_e h
          refine ya_iast hx hb hK hP (hDD _) hS 44 0 RW_44 rfl hi25 dX12_areBetween_92 (RW_w44 _) (fun H locs hP hS => ?_)
          obtain ⟨s26, hs26, h⟩ := st_e h
          rw [hs26] at hP
          refine lv_iinc (v := x7 + 1) (lv' := [(4, .int (x7 + 1)), (0, .ref (a 200)), (2, .int x5), (3, .int x6), (5, .int x8), (6, .int x9)]) hx hb dX12_areBetween_93 hl (k := 3) rfl rfl (by decide) rfl (fun ls hl => ?_)
          exact J96 (x5, x6, x7 + 1, x8, x9, s26) _ _ _ ⟨hP, hS, lv_sub hl [1, 2, 3, 0, 4, 5] rfl, h⟩
        · have h := if_t c22 h
          refine lv_aload_n hx hb dX12_areBetween_52 rfl (lv_at hl 0 rfl) ?_
          refine lv_iload hx hb dX12_areBetween_53 (lv_at hl 4 rfl) ?_
          refine lv_iconst (v := 4) hx hb dX12_areBetween_55 (by decide) ?_
          refine lv_iload hx hb dX12_areBetween_56 (lv_at hl 5 rfl) ?_
          refine lv_iadd hx hb dX12_areBetween_58 ?_
          obtain ⟨r28, hc27, h⟩ := bn_e h
          refine ycV (As := [.int x8, .int (4 + x9)]) (rest := []) (C := RX12) (n := 2) ⟨hx, hb, hml, hown, ht⟩ (k_x12_laidOf l D a x8 (4 + x9) _ _ hc27) (zgV ml_X12_816 im_X12_laidOf se_X12_laidOf in_X12 co_X12_laidOf) rfl rfl (by decide +kernel) ⟨Nat.le_of_ble_eq_true rfl, Nat.le_of_ble_eq_true rfl⟩ hN hK hP hS 0 RW_0 rfl rfl rfl hl.1 rfl (Nat.le_of_ble_eq_true rfl) dX12_areBetween_59 ⟨Nat.le_of_ble_eq_true rfl, Nat.le_of_ble_eq_true rfl⟩ (fun H locs hP hS => ?_)
          refine lv_i2l (v := Int32.toInt64 r28) hx hb dX12_areBetween_62 rfl ?_
          refine lv_iload_n hx hb dX12_areBetween_63 rfl (lv_at hl 1 rfl) ?_
          refine lv_i2l (v := Int32.toInt64 x5) hx hb dX12_areBetween_64 rfl ?_
          refine lv_iload_n hx hb dX12_areBetween_65 rfl (lv_at hl 2 rfl) ?_
          refine lv_i2l (v := Int32.toInt64 x6) hx hb dX12_areBetween_66 rfl ?_
          obtain ⟨r30, hc29, h⟩ := bn_e h
          refine ycS (As := [.long (Int32.toInt64 r28), .long (Int32.toInt64 x5), .long (Int32.toInt64 x6)]) (rest := []) (n := 3) ⟨hx, hb, hml, hown, ht⟩ (k_x12_isIn l D a (Int32.toInt64 r28) (Int32.toInt64 x5) (Int32.toInt64 x6) _ _ hc29) (zgT ml_X12_309 st_X12_isIn in_X12 co_X12_isIn) rfl rfl (by decide +kernel) ⟨Nat.le_of_ble_eq_true rfl, Nat.le_of_ble_eq_true rfl⟩ hN hK hP hS rfl hl.1 rfl (Nat.le_of_ble_eq_true rfl) dX12_areBetween_67 ⟨Nat.le_of_ble_eq_true rfl, Nat.le_of_ble_eq_true rfl⟩ (fun H locs hP hS => ?_)
          refine lv_if_ne (tgt := 96) hx hb dX12_areBetween_70 (by decide) (fun c31 => ?_) (fun c31 => ?_)
          · have h := if_f c31 h
            exact J96 (x5, x6, x7, x8, x9, s10) _ _ _ ⟨hP, hS, lv_sub hl [0, 1, 2, 3, 4, 5] rfl, h⟩
          · have h := if_t c31 h
            refine lv_iconst (v := 0) hx hb dX12_areBetween_73 (by decide) ?_
            obtain rfl := Option.some.inj h
            exact W.zret (v := 0) hx hb hr (by decide) (fun t ht hW => ⟨⟨_, (), rfl, rfl, by rw [ht]; exact hP, va_K.moved hW.alike hK, hDD _⟩, hS.F ht⟩) hS.2.2 dX12_areBetween_74
    refine lv_iload hx hb dX12_areBetween_10 (lv_at hl 3 rfl) ?_
    refine lv_if_le (tgt := 105) hx hb dX12_areBetween_12 (by decide) (fun c32 => ?_) (fun c32 => ?_)
    · have h := if_t c32 h
      refine lv_iconst (v := 1) hx hb dX12_areBetween_105 (by decide) ?_
      obtain rfl := Option.some.inj h
      exact W.zret (v := 1) hx hb hr (by decide) (fun t ht hW => ⟨⟨_, (), rfl, rfl, by rw [ht]; exact hP, va_K.moved hW.alike hK, hDD _⟩, hS.F ht⟩) hS.2.2 dX12_areBetween_106
    · have h := if_f c32 h
      refine lv_iinc (v := x3 + (-1)) (lv' := [(4, .int (x3 + (-1))), (0, .ref (a 200)), (2, .int x1), (3, .int x2)]) hx hb dX12_areBetween_15 hl (k := 3) rfl rfl (by decide) rfl (fun ls hl => ?_)
      refine lv_aload_n hx hb dX12_areBetween_18 rfl (lv_at hl 1 rfl) ?_
      refine va_get (D := D) (ci := 12) (v := .ref (a 62)) (C := RX12) (T := TX12) (N := 116) hx hb ht inX12 hown hK hP 0 RW_0 rfl 62 (by decide) (ht (.fieldLink RX12 146 "CloneVolumesModel" "treeRow" "[I") fl_X12_146) (fun _ h9 => h9) mF_62 dX12_areBetween_19 ?_
      refine lv_iload hx hb dX12_areBetween_22 (lv_at hl 0 rfl) ?_
      obtain ⟨y33, ey33, iy33, h⟩ := rdI_e h
      refine ya_iald hx hb hK hP 44 0 RW_44 rfl ey33 iy33 dX12_areBetween_24 ?_
      refine lv_istore (lv' := [(5, .int y33), (4, .int (x3 + (-1))), (0, .ref (a 200)), (2, .int x1), (3, .int x2)]) hx hb dX12_areBetween_25 hl (by decide) rfl (fun ls hl => ?_)
      refine lv_iconst (v := 0) hx hb dX12_areBetween_27 (by decide) ?_
      refine lv_istore (lv' := [(6, .int 0), (5, .int y33), (4, .int (x3 + (-1))), (0, .ref (a 200)), (2, .int x1), (3, .int x2)]) hx hb dX12_areBetween_28 hl (by decide) rfl (fun ls hl => ?_)
      exact J30 FU (x1, x2, x3 + (-1), y33, 0, s4) _ _ _ ⟨hP, hS, lv_sub hl [3, 4, 5, 2, 1, 0] rfl, h⟩
  refine lv_iconst (v := 1) hx hb dX12_areBetween_0 (by decide) ?_
  refine lv_istore (lv' := [(4, .int 1), (0, .ref (a 200)), (1, .int p0), (2, .int p1), (3, .int p2)]) hx hb dX12_areBetween_1 hl (by decide) rfl (fun ls hl => ?_)
  refine lv_aload_n hx hb dX12_areBetween_3 rfl (lv_at hl 1 rfl) ?_
  refine va_get (D := D) (ci := 12) (v := .ref (a 62)) (C := RX12) (T := TX12) (N := 116) hx hb ht inX12 hown hK hP 0 RW_0 rfl 62 (by decide) (ht (.fieldLink RX12 146 "CloneVolumesModel" "treeRow" "[I") fl_X12_146) (fun _ h9 => h9) mF_62 dX12_areBetween_4 ?_
  refine lv_iconst (v := 0) hx hb dX12_areBetween_7 (by decide) ?_
  refine lv_iload_n hx hb dX12_areBetween_8 rfl (lv_at hl 2 rfl) ?_
  obtain ⟨hi34, h⟩ := inb_e h
  refine ya_iast hx hb hK hP (hDD _) hS 44 0 RW_44 rfl hi34 dX12_areBetween_9 (RW_w44 _) (fun H locs hP hS => ?_)
  obtain ⟨s35, hs35, h⟩ := st_e h
  rw [hs35] at hP
  exact J10 FU (p1, p2, 1, s35) _ _ _ ⟨hP, hS, lv_sub hl [1, 3, 4, 0] rfl, h⟩
def m_x12_areKeys_J86 (s1 : MS) : Option (Int32 × MS) :=
  some (1, s1)
def m_x12_areKeys_J72 (lr9 : Int32 → Int32 → Int32 → MS → Option (Int32 × MS)) (x6 : Int32) (x7 : Int32) (x8 : Int32) (x9 : Int32) (x10 : Int32) (x11 : Int32) (s12 : MS) : Option (Int32 × MS) :=
  bn (m_x12_areBetween x11 x10 x9 s12) (fun qr15 => if qr15.1 = 0 then some (0, qr15.2) else lr9 x6 x7 (x8 + 1) qr15.2)
def m_x12_areKeys_J49 (lr9 : Int32 → Int32 → Int32 → MS → Option (Int32 × MS)) (x17 : Int32) (x18 : Int32) (x19 : Int32) (x20 : Int32) (x21 : Int32) (s22 : MS) : Option (Int32 × MS) :=
  if x18 ≤ (x19 + 1) then m_x12_areKeys_J72 lr9 x17 x18 x19 999 x20 x21 s22 else bn (m_x12_laidOf x17 (5 + x19) s22) (fun r25 => m_x12_areKeys_J72 lr9 x17 x18 x19 (r25 - 1) x20 x21 s22)
def m_x12_areKeys_b9 (lr9 : Int32 → Int32 → Int32 → MS → Option (Int32 × MS)) (x2 : Int32) (x3 : Int32) (x4 : Int32) (s5 : MS) : Option (Int32 × MS) :=
  if x3 ≤ x4 then m_x12_areKeys_J86 s5 else bn (m_x12_laidOf x2 2 s5) (fun r28 => if r28 ≤ 0 then m_x12_areKeys_J86 s5 else bn (m_x12_laidOf x2 (10 + x4) s5) (fun r31 => if x4 = 0 then m_x12_areKeys_J49 lr9 x2 x3 x4 0 r31 s5 else bn (m_x12_laidOf x2 (4 + x4) s5) (fun r34 => m_x12_areKeys_J49 lr9 x2 x3 x4 r34 r31 s5)))
def m_x12_areKeys_L9 (n : Nat) : Int32 → Int32 → Int32 → MS → Option (Int32 × MS) := lp (fun _ _ _ _ => none) (m_x12_areKeys_b9) n
def m_x12_areKeys (p0 : Int32) (s : MS) : Option (Int32 × MS) :=
  bn (m_x12_laidOf p0 3 s) (fun r36 => m_x12_areKeys_L9 FU p0 r36 0 s)
set_option maxHeartbeats 4000000 in
set_option maxRecDepth 100000 in
theorem k_x12_areKeys (l : Launch) (D : va_G) (a : Nat → Nat) (p0 : Int32) (sz : Nat) (s : MS) (o : (Int32 × MS)) (h : m_x12_areKeys p0 s = some o) : yWi l yX12_areKeys cX12_areKeys 4 (some .boolean) { frames := 2, cells := 0, slots := 0, locals := 120 } D sz [.ref (a 200), .int p0] (RW D a s) (RW D a o.2) o.1 := by
  refine Met.ofW (cc := cX12_areKeys) (maxL := 4) (ret := (some .boolean)) (by decide) rfl ?_
  intro p e s₀ m args below meth c s₁ B hml hv
  obtain ⟨rfl, ⟨hsz, hP, hK, hD0⟩, hN⟩ := hv
  have hx := B.exec
  have hb := B.bytes
  have hr := B.returns
  have hts := atoms_spec (ws := wz yX12_areKeys cX12_areKeys 4 (some .boolean)) B.pre
  have ht : ∀ w ∈ lw_gd, w.before _ s₀ = true := fun w h => hts w (List.mem_cons_of_mem _ h)
  have hown : s₀.vm.findClass RX12 = some m.cls := findClass_of_methodNamed B.named
  have hlocks := B.notSynchronized
  subst hsz
  have hD := hD0.self (sz := s₀.heap.size)
  generalize hAe : va_A (RW D a s) s₀.heap.size = A at hD ⊢
  have hA : ∀ q : Nat, s₀.heap.size ≤ q → A q := fun q h => by rw [← hAe]; exact Or.inr h
  have hS : va_S A s₀.heap s₀.heap [] := va_S.rf
  have hDD : ∀ t : MS, va_D A (RW D a t) := fun t => RW_D t hD
  have hl := lv_entry ([.ref (a 200), .int p0]) (n := 4) (Nat.le_of_ble_eq_true rfl)
  rw [lg_entry_eq]
  generalize (lg_sl ([.ref (a 200), .int p0]) ++ List.replicate (4 - (lg_sl ([.ref (a 200), .int p0])).length) Slot.unset).toArray = ls at hl ⊢
  have hl : lv_has ls 4 [(0, .ref (a 200)), (1, .int p0)] := hl
  unfold m_x12_areKeys at h
  refine y_head (pcJ := 86) (σ := MS) (fun u H locs ls => va_P D vwCl (RW D a u) H ∧ va_S A s₀.heap H locs ∧ lv_has ls 4 [] ∧ m_x12_areKeys_J86 u = some o) (fun u => []) (fun u H locs ls hI => ?_) (fun J86 => ?_)
  · obtain ⟨hP, hS, hl, h⟩ := hI
    obtain ⟨s1, rfl⟩ : ∃ z, z = u := ⟨u, rfl⟩
    have hP : va_P D vwCl (RW D a s1) H := hP
    have hl : lv_has ls 4 [] := hl
    have h : m_x12_areKeys_J86 s1 = some o := h
    unfold m_x12_areKeys_J86 at h
    refine lv_iconst (v := 1) hx hb dX12_areKeys_86 (by decide) ?_
    obtain rfl := Option.some.inj h
    exact W.zret (v := 1) hx hb hr (by decide) (fun t ht hW => ⟨⟨_, (), rfl, rfl, by rw [ht]; exact hP, va_K.moved hW.alike hK, hDD _⟩, hS.F ht⟩) hS.2.2 dX12_areKeys_87
  refine y_loop (pcJ := 9) (σ := Int32 × Int32 × Int32 × MS) (fun n u H locs ls => va_P D vwCl (RW D a u.2.2.2) H ∧ va_S A s₀.heap H locs ∧ lv_has ls 4 [(0, .ref (a 200)), (1, .int u.1), (2, .int u.2.1), (3, .int u.2.2.1)] ∧ m_x12_areKeys_L9 n u.1 u.2.1 u.2.2.1 u.2.2.2 = some o) (fun u => []) (fun u H locs ls hI => by obtain ⟨_, _, _, h⟩ := hI; cases h) (fun n9 ih9 u H locs ls hI => ?_) (fun J9 => ?_)
  · obtain ⟨hP, hS, hl, h⟩ := hI
    obtain ⟨x2, x3, x4, s5⟩ := u
    have hP : va_P D vwCl (RW D a s5) H := hP
    have hl : lv_has ls 4 [(0, .ref (a 200)), (1, .int x2), (2, .int x3), (3, .int x4)] := hl
    have h : m_x12_areKeys_b9 (m_x12_areKeys_L9 n9) x2 x3 x4 s5 = some o := h
    unfold m_x12_areKeys_b9 at h
    refine y_head (pcJ := 72) (σ := Int32 × Int32 × Int32 × Int32 × Int32 × Int32 × MS) (fun u H locs ls => va_P D vwCl (RW D a u.2.2.2.2.2.2) H ∧ va_S A s₀.heap H locs ∧ lv_has ls 4 [(0, .ref (a 200)), (1, .int u.1), (2, .int u.2.1), (3, .int u.2.2.1)] ∧ m_x12_areKeys_J72 (m_x12_areKeys_L9 n9) u.1 u.2.1 u.2.2.1 u.2.2.2.1 u.2.2.2.2.1 u.2.2.2.2.2.1 u.2.2.2.2.2.2 = some o) (fun u => [.int u.2.2.2.1, .int u.2.2.2.2.1, .int u.2.2.2.2.2.1, .ref (a 200)]) (fun u H locs ls hI => ?_) (fun J72 => ?_)
    · obtain ⟨hP, hS, hl, h⟩ := hI
      obtain ⟨x6, x7, x8, x9, x10, x11, s12⟩ := u
      have hP : va_P D vwCl (RW D a s12) H := hP
      have hl : lv_has ls 4 [(0, .ref (a 200)), (1, .int x6), (2, .int x7), (3, .int x8)] := hl
      have h : m_x12_areKeys_J72 (m_x12_areKeys_L9 n9) x6 x7 x8 x9 x10 x11 s12 = some o := h
      unfold m_x12_areKeys_J72 at h
      obtain ⟨⟨r15, s14⟩, hc13, h⟩ := bn_e h
      refine ywV (r0 := r15) (As := [.int x11, .int x10, .int x9]) (rest := []) (C := RX12) (n := 3) (ws' := RW D a s14) ⟨hx, hb, hml, hown, ht⟩ (k_x12_areBetween l D a x11 x10 x9 _ _ _ hc13) (zgV ml_X12_819 im_X12_areBetween se_X12_areBetween in_X12 co_X12_areBetween) rfl rfl (by decide +kernel) ⟨Nat.le_of_ble_eq_true rfl, Nat.le_of_ble_eq_true rfl⟩ hN hK hP (hDD _) hS hA 0 RW_0 rfl rfl rfl hl.1 rfl (Nat.le_of_ble_eq_true rfl) dX12_areKeys_72 ⟨Nat.le_of_ble_eq_true rfl, Nat.le_of_ble_eq_true rfl⟩ (fun H locs hP hS => ?_)
      refine lv_if_ne (tgt := 80) hx hb dX12_areKeys_75 (by decide) (fun c16 => ?_) (fun c16 => ?_)
      · have h := if_f c16 h
        refine lv_iinc (v := x8 + 1) (lv' := [(3, .int (x8 + 1)), (0, .ref (a 200)), (1, .int x6), (2, .int x7)]) hx hb dX12_areKeys_80 hl (k := 3) rfl rfl (by decide) rfl (fun ls hl => ?_)
        refine lv_goto (tgt := 9) hx hb dX12_areKeys_83 (by decide) ?_
        exact ih9 (x6, x7, x8 + 1, s14) _ _ _ ⟨hP, hS, lv_sub hl [1, 2, 3, 0] rfl, h⟩
      · have h := if_t c16 h
        refine lv_iconst (v := 0) hx hb dX12_areKeys_78 (by decide) ?_
        obtain rfl := Option.some.inj h
        exact W.zret (v := 0) hx hb hr (by decide) (fun t ht hW => ⟨⟨_, (), rfl, rfl, by rw [ht]; exact hP, va_K.moved hW.alike hK, hDD _⟩, hS.F ht⟩) hS.2.2 dX12_areKeys_79
    refine y_head (pcJ := 49) (σ := Int32 × Int32 × Int32 × Int32 × Int32 × MS) (fun u H locs ls => va_P D vwCl (RW D a u.2.2.2.2.2) H ∧ va_S A s₀.heap H locs ∧ lv_has ls 4 [(0, .ref (a 200)), (1, .int u.1), (2, .int u.2.1), (3, .int u.2.2.1)] ∧ m_x12_areKeys_J49 (m_x12_areKeys_L9 n9) u.1 u.2.1 u.2.2.1 u.2.2.2.1 u.2.2.2.2.1 u.2.2.2.2.2 = some o) (fun u => [.int u.2.2.2.1, .int u.2.2.2.2.1, .ref (a 200)]) (fun u H locs ls hI => ?_) (fun J49 => ?_)
    · obtain ⟨hP, hS, hl, h⟩ := hI
      obtain ⟨x17, x18, x19, x20, x21, s22⟩ := u
      have hP : va_P D vwCl (RW D a s22) H := hP
      have hl : lv_has ls 4 [(0, .ref (a 200)), (1, .int x17), (2, .int x18), (3, .int x19)] := hl
      have h : m_x12_areKeys_J49 (m_x12_areKeys_L9 n9) x17 x18 x19 x20 x21 s22 = some o := h
      unfold m_x12_areKeys_J49 at h
      refine lv_iload_n hx hb dX12_areKeys_49 rfl (lv_at hl 3 rfl) ?_
      refine lv_iconst (v := 1) hx hb dX12_areKeys_50 (by decide) ?_
      refine lv_iadd hx hb dX12_areKeys_51 ?_
      refine lv_iload_n hx hb dX12_areKeys_52 rfl (lv_at hl 2 rfl) ?_
      refine lv_icmp_ge (tgt := 69) hx hb dX12_areKeys_53 (by decide) (fun c23 => ?_) (fun c23 => ?_)
      · have h := if_t c23 h
        refine lv_sipush (v := 999) hx hb dX12_areKeys_69 (by decide) ?_
        exact J72 (x17, x18, x19, 999, x20, x21, s22) _ _ _ ⟨hP, hS, lv_sub hl [0, 1, 2, 3] rfl, h⟩
      · have h := if_f c23 h
        refine lv_aload_n hx hb dX12_areKeys_56 rfl (lv_at hl 0 rfl) ?_
        refine lv_iload_n hx hb dX12_areKeys_57 rfl (lv_at hl 1 rfl) ?_
        refine lv_iconst (v := 5) hx hb dX12_areKeys_58 (by decide) ?_
        refine lv_iload_n hx hb dX12_areKeys_59 rfl (lv_at hl 3 rfl) ?_
        refine lv_iadd hx hb dX12_areKeys_60 ?_
        obtain ⟨r25, hc24, h⟩ := bn_e h
        refine ycV (As := [.int x17, .int (5 + x19)]) (rest := [.int x20, .int x21, .ref (a 200)]) (C := RX12) (n := 2) ⟨hx, hb, hml, hown, ht⟩ (k_x12_laidOf l D a x17 (5 + x19) _ _ hc24) (zgV ml_X12_816 im_X12_laidOf se_X12_laidOf in_X12 co_X12_laidOf) rfl rfl (by decide +kernel) ⟨Nat.le_of_ble_eq_true rfl, Nat.le_of_ble_eq_true rfl⟩ hN hK hP hS 0 RW_0 rfl rfl rfl hl.1 rfl (Nat.le_of_ble_eq_true rfl) dX12_areKeys_61 ⟨Nat.le_of_ble_eq_true rfl, Nat.le_of_ble_eq_true rfl⟩ (fun H locs hP hS => ?_)
        refine lv_iconst (v := 1) hx hb dX12_areKeys_64 (by decide) ?_
        refine lv_isub hx hb dX12_areKeys_65 ?_
        refine lv_goto (tgt := 72) hx hb dX12_areKeys_66 (by decide) ?_
        exact J72 (x17, x18, x19, r25 - 1, x20, x21, s22) _ _ _ ⟨hP, hS, lv_sub hl [0, 1, 2, 3] rfl, h⟩
    refine lv_iload_n hx hb dX12_areKeys_9 rfl (lv_at hl 3 rfl) ?_
    refine lv_iload_n hx hb dX12_areKeys_10 rfl (lv_at hl 2 rfl) ?_
    refine lv_icmp_ge (tgt := 86) hx hb dX12_areKeys_11 (by decide) (fun c26 => ?_) (fun c26 => ?_)
    · have h := if_t c26 h
      exact J86 s5 _ _ _ ⟨hP, hS, lv_sub hl [] rfl, h⟩
    · have h := if_f c26 h
      refine lv_aload_n hx hb dX12_areKeys_14 rfl (lv_at hl 0 rfl) ?_
      refine lv_iload_n hx hb dX12_areKeys_15 rfl (lv_at hl 1 rfl) ?_
      refine lv_iconst (v := 2) hx hb dX12_areKeys_16 (by decide) ?_
      obtain ⟨r28, hc27, h⟩ := bn_e h
      refine ycV (As := [.int x2, .int 2]) (rest := []) (C := RX12) (n := 2) ⟨hx, hb, hml, hown, ht⟩ (k_x12_laidOf l D a x2 2 _ _ hc27) (zgV ml_X12_816 im_X12_laidOf se_X12_laidOf in_X12 co_X12_laidOf) rfl rfl (by decide +kernel) ⟨Nat.le_of_ble_eq_true rfl, Nat.le_of_ble_eq_true rfl⟩ hN hK hP hS 0 RW_0 rfl rfl rfl hl.1 rfl (Nat.le_of_ble_eq_true rfl) dX12_areKeys_17 ⟨Nat.le_of_ble_eq_true rfl, Nat.le_of_ble_eq_true rfl⟩ (fun H locs hP hS => ?_)
      refine lv_if_le (tgt := 86) hx hb dX12_areKeys_20 (by decide) (fun c29 => ?_) (fun c29 => ?_)
      · have h := if_t c29 h
        exact J86 s5 _ _ _ ⟨hP, hS, lv_sub hl [] rfl, h⟩
      · have h := if_f c29 h
        refine lv_aload_n hx hb dX12_areKeys_23 rfl (lv_at hl 0 rfl) ?_
        refine lv_aload_n hx hb dX12_areKeys_24 rfl (lv_at hl 0 rfl) ?_
        refine lv_iload_n hx hb dX12_areKeys_25 rfl (lv_at hl 1 rfl) ?_
        refine lv_bipush (v := 10) hx hb dX12_areKeys_26 (by decide) ?_
        refine lv_iload_n hx hb dX12_areKeys_28 rfl (lv_at hl 3 rfl) ?_
        refine lv_iadd hx hb dX12_areKeys_29 ?_
        obtain ⟨r31, hc30, h⟩ := bn_e h
        refine ycV (As := [.int x2, .int (10 + x4)]) (rest := [.ref (a 200)]) (C := RX12) (n := 2) ⟨hx, hb, hml, hown, ht⟩ (k_x12_laidOf l D a x2 (10 + x4) _ _ hc30) (zgV ml_X12_816 im_X12_laidOf se_X12_laidOf in_X12 co_X12_laidOf) rfl rfl (by decide +kernel) ⟨Nat.le_of_ble_eq_true rfl, Nat.le_of_ble_eq_true rfl⟩ hN hK hP hS 0 RW_0 rfl rfl rfl hl.1 rfl (Nat.le_of_ble_eq_true rfl) dX12_areKeys_30 ⟨Nat.le_of_ble_eq_true rfl, Nat.le_of_ble_eq_true rfl⟩ (fun H locs hP hS => ?_)
        refine lv_iload_n hx hb dX12_areKeys_33 rfl (lv_at hl 3 rfl) ?_
        refine lv_if_ne (tgt := 41) hx hb dX12_areKeys_34 (by decide) (fun c32 => ?_) (fun c32 => ?_)
        · have h := if_f c32 h
          refine lv_aload_n hx hb dX12_areKeys_41 rfl (lv_at hl 0 rfl) ?_
          refine lv_iload_n hx hb dX12_areKeys_42 rfl (lv_at hl 1 rfl) ?_
          refine lv_iconst (v := 4) hx hb dX12_areKeys_43 (by decide) ?_
          refine lv_iload_n hx hb dX12_areKeys_44 rfl (lv_at hl 3 rfl) ?_
          refine lv_iadd hx hb dX12_areKeys_45 ?_
          obtain ⟨r34, hc33, h⟩ := bn_e h
          refine ycV (As := [.int x2, .int (4 + x4)]) (rest := [.int r31, .ref (a 200)]) (C := RX12) (n := 2) ⟨hx, hb, hml, hown, ht⟩ (k_x12_laidOf l D a x2 (4 + x4) _ _ hc33) (zgV ml_X12_816 im_X12_laidOf se_X12_laidOf in_X12 co_X12_laidOf) rfl rfl (by decide +kernel) ⟨Nat.le_of_ble_eq_true rfl, Nat.le_of_ble_eq_true rfl⟩ hN hK hP hS 0 RW_0 rfl rfl rfl hl.1 rfl (Nat.le_of_ble_eq_true rfl) dX12_areKeys_46 ⟨Nat.le_of_ble_eq_true rfl, Nat.le_of_ble_eq_true rfl⟩ (fun H locs hP hS => ?_)
          exact J49 (x2, x3, x4, r34, r31, s5) _ _ _ ⟨hP, hS, lv_sub hl [0, 1, 2, 3] rfl, h⟩
        · have h := if_t c32 h
          refine lv_iconst (v := 0) hx hb dX12_areKeys_37 (by decide) ?_
          refine lv_goto (tgt := 49) hx hb dX12_areKeys_38 (by decide) ?_
          exact J49 (x2, x3, x4, 0, r31, s5) _ _ _ ⟨hP, hS, lv_sub hl [0, 1, 2, 3] rfl, h⟩
  refine lv_aload_n hx hb dX12_areKeys_0 rfl (lv_at hl 0 rfl) ?_
  refine lv_iload_n hx hb dX12_areKeys_1 rfl (lv_at hl 1 rfl) ?_
  refine lv_iconst (v := 3) hx hb dX12_areKeys_2 (by decide) ?_
  obtain ⟨r36, hc35, h⟩ := bn_e h
  refine ycV (As := [.int p0, .int 3]) (rest := []) (C := RX12) (n := 2) ⟨hx, hb, hml, hown, ht⟩ (k_x12_laidOf l D a p0 3 _ _ hc35) (zgV ml_X12_816 im_X12_laidOf se_X12_laidOf in_X12 co_X12_laidOf) rfl rfl (by decide +kernel) ⟨Nat.le_of_ble_eq_true rfl, Nat.le_of_ble_eq_true rfl⟩ hN hK hP hS 0 RW_0 rfl rfl rfl hl.1 rfl (Nat.le_of_ble_eq_true rfl) dX12_areKeys_3 ⟨Nat.le_of_ble_eq_true rfl, Nat.le_of_ble_eq_true rfl⟩ (fun H locs hP hS => ?_)
  refine lv_istore_n (lv' := [(2, .int r36), (0, .ref (a 200)), (1, .int p0)]) hx hb dX12_areKeys_6 rfl hl (by decide) rfl (fun ls hl => ?_)
  refine lv_iconst (v := 0) hx hb dX12_areKeys_7 (by decide) ?_
  refine lv_istore_n (lv' := [(3, .int 0), (2, .int r36), (0, .ref (a 200)), (1, .int p0)]) hx hb dX12_areKeys_8 rfl hl (by decide) rfl (fun ls hl => ?_)
  exact J9 FU (p0, r36, 0, s) _ _ _ ⟨hP, hS, lv_sub hl [2, 3, 1, 0] rfl, h⟩
def m_x12_checked_v2_b6 (s : MS) (lr6 : Int32 → Int32 → Int32 → Option Int32) (x1 : Int32) (x2 : Int32) (x3 : Int32) : Option Int32 :=
  if x1 ≤ x3 then some x2 else rdI (gA s 0) 1600 x3 (fun y5 => lr6 x1 (((3 * x2) + y5) - ((3 * x2) + y5) / 251 * 251) (x3 + 1))
def m_x12_checked_v2_L6 (s : MS) (n : Nat) : Int32 → Int32 → Int32 → Option Int32 := lp (fun _ _ _ => none) (m_x12_checked_v2_b6 s) n
def m_x12_checked_v2 (p1 : Int32) (s : MS) : Option Int32 :=
  m_x12_checked_v2_L6 s FU p1 157 0
set_option maxHeartbeats 4000000 in
set_option maxRecDepth 100000 in
theorem k_x12_checked_v2 (l : Launch) (D : va_G) (a : Nat → Nat) (p1 : Int32) (s : MS) (o : Int32) (h : m_x12_checked_v2 p1 s = some o) : yRi l yX12_checked cX12_checked 4 (some .int) { frames := 0, cells := 0, slots := 0, locals := 0 } D [.ref (a 0), .int p1] (RW D a s) o := by
  refine Met.ofW (cc := cX12_checked) (maxL := 4) (ret := (some .int)) (by decide) rfl ?_
  intro p e s₀ m args below meth c s₁ B hml hv
  obtain ⟨rfl, ⟨hP, hK⟩, hN⟩ := hv
  have hx := B.exec
  have hb := B.bytes
  have hr := B.returns
  have hts := atoms_spec (ws := wz yX12_checked cX12_checked 4 (some .int)) B.pre
  have ht : ∀ w ∈ lw_gd, w.before _ s₀ = true := fun w h => hts w (List.mem_cons_of_mem _ h)
  have hown : s₀.vm.findClass RX12 = some m.cls := findClass_of_methodNamed B.named
  have hlocks := B.notSynchronized
  have hS : va_S (fun _ => False) s₀.heap s₀.heap [] := va_S.rf
  have hl := lv_entry ([.ref (a 0), .int p1]) (n := 4) (Nat.le_of_ble_eq_true rfl)
  rw [lg_entry_eq]
  generalize (lg_sl ([.ref (a 0), .int p1]) ++ List.replicate (4 - (lg_sl ([.ref (a 0), .int p1])).length) Slot.unset).toArray = ls at hl ⊢
  have hl : lv_has ls 4 [(0, .ref (a 0)), (1, .int p1)] := hl
  unfold m_x12_checked_v2 at h
  refine y_loop (pcJ := 6) (σ := Int32 × Int32 × Int32) (fun n u H locs ls => va_P D vwCl (RW D a s) H ∧ va_S (fun _ => False) s₀.heap H locs ∧ lv_has ls 4 [(0, .ref (a 0)), (1, .int u.1), (2, .int u.2.1), (3, .int u.2.2)] ∧ m_x12_checked_v2_L6 s n u.1 u.2.1 u.2.2 = some o) (fun u => []) (fun u H locs ls hI => by obtain ⟨_, _, _, h⟩ := hI; cases h) (fun n6 ih6 u H locs ls hI => ?_) (fun J6 => ?_)
  · obtain ⟨hP, hS, hl, h⟩ := hI
    obtain ⟨x1, x2, x3⟩ := u
    have hP : va_P D vwCl (RW D a s) H := hP
    have hl : lv_has ls 4 [(0, .ref (a 0)), (1, .int x1), (2, .int x2), (3, .int x3)] := hl
    have h : m_x12_checked_v2_b6 s (m_x12_checked_v2_L6 s n6) x1 x2 x3 = some o := h
    unfold m_x12_checked_v2_b6 at h
    refine lv_iload_n hx hb dX12_checked_6 rfl (lv_at hl 3 rfl) ?_
    refine lv_iload_n hx hb dX12_checked_7 rfl (lv_at hl 1 rfl) ?_
    refine lv_icmp_ge (tgt := 29) hx hb dX12_checked_8 (by decide) (fun c4 => ?_) (fun c4 => ?_)
    · have h := if_t c4 h
      refine lv_iload_n hx hb dX12_checked_29 rfl (lv_at hl 2 rfl) ?_
      obtain rfl := Option.some.inj h
      exact W.iret (v := x2) hx hb hr (fun t ht hW => ⟨⟨_, (), rfl, rfl, trivial⟩, hS.F ht⟩) hS.2.2 dX12_checked_30
    · have h := if_f c4 h
      refine lv_iconst (v := 3) hx hb dX12_checked_11 (by decide) ?_
      refine lv_iload_n hx hb dX12_checked_12 rfl (lv_at hl 2 rfl) ?_
      refine lv_imul hx hb dX12_checked_13 ?_
      refine lv_aload_n hx hb dX12_checked_14 rfl (lv_at hl 0 rfl) ?_
      refine lv_iload_n hx hb dX12_checked_15 rfl (lv_at hl 3 rfl) ?_
      obtain ⟨y5, ey5, iy5, h⟩ := rdI_e h
      refine ya_iald hx hb hK hP 1 0 RW_1 rfl ey5 iy5 dX12_checked_16 ?_
      refine lv_iadd hx hb dX12_checked_17 ?_
      refine lv_sipush (v := 251) hx hb dX12_checked_18 (by decide) ?_
      refine lv_irem hx hb dX12_checked_21 (by decide) ?_
      refine lv_istore_n (lv' := [(2, .int (((3 * x2) + y5) - ((3 * x2) + y5) / 251 * 251)), (0, .ref (a 0)), (1, .int x1), (3, .int x3)]) hx hb dX12_checked_22 rfl hl (by decide) rfl (fun ls hl => ?_)
      refine lv_iinc (v := x3 + 1) (lv' := [(3, .int (x3 + 1)), (2, .int (((3 * x2) + y5) - ((3 * x2) + y5) / 251 * 251)), (0, .ref (a 0)), (1, .int x1)]) hx hb dX12_checked_23 hl (k := 3) rfl rfl (by decide) rfl (fun ls hl => ?_)
      refine lv_goto (tgt := 6) hx hb dX12_checked_26 (by decide) ?_
      exact ih6 (x1, ((3 * x2) + y5) - ((3 * x2) + y5) / 251 * 251, x3 + 1) _ _ _ ⟨hP, hS, lv_sub hl [2, 3, 1, 0] rfl, h⟩
  refine lv_sipush (v := 157) hx hb dX12_checked_0 (by decide) ?_
  refine lv_istore_n (lv' := [(2, .int 157), (0, .ref (a 0)), (1, .int p1)]) hx hb dX12_checked_3 rfl hl (by decide) rfl (fun ls hl => ?_)
  refine lv_iconst (v := 0) hx hb dX12_checked_4 (by decide) ?_
  refine lv_istore_n (lv' := [(3, .int 0), (2, .int 157), (0, .ref (a 0)), (1, .int p1)]) hx hb dX12_checked_5 rfl hl (by decide) rfl (fun ls hl => ?_)
  exact J6 FU (p1, 157, 0) _ _ _ ⟨hP, hS, lv_sub hl [2, 3, 1, 0] rfl, h⟩
def m_x12_isImage_J129 (lr92 : Int32 → MS → Option (Int32 × MS)) (lr101 : Int32 → Int32 → MS → Option (Int32 × MS)) (x6 : Int32) (x7 : Int32) (s8 : MS) : Option (Int32 × MS) :=
  lr101 x6 (x7 + 1) s8
def m_x12_isImage_b101 (lr92 : Int32 → MS → Option (Int32 × MS)) (lr101 : Int32 → Int32 → MS → Option (Int32 × MS)) (x3 : Int32) (x4 : Int32) (s5 : MS) : Option (Int32 × MS) :=
  bn (m_x12_blockMany s5) (fun r10 => if r10 ≤ x4 then lr92 (x3 + 1) s5 else bn (m_x12_laidOf x4 2 s5) (fun r13 => if r13 = x3 then bn (m_x12_areKeys x4 s5) (fun qr17 => if qr17.1 = 0 then some (0, qr17.2) else m_x12_isImage_J129 lr92 lr101 x3 x4 qr17.2) else m_x12_isImage_J129 lr92 lr101 x3 x4 s5))
def m_x12_isImage_L101 (lr92 : Int32 → MS → Option (Int32 × MS)) (n : Nat) : Int32 → Int32 → MS → Option (Int32 × MS) := lp (fun _ _ _ => none) (m_x12_isImage_b101 lr92) n
def m_x12_isImage_b92 (lr92 : Int32 → MS → Option (Int32 × MS)) (x1 : Int32) (s2 : MS) : Option (Int32 × MS) :=
  if 256 ≤ x1 then some (1, s2) else m_x12_isImage_L101 lr92 FU x1 0 s2
def m_x12_isImage_L92 (n : Nat) : Int32 → MS → Option (Int32 × MS) := lp (fun _ _ => none) (m_x12_isImage_b92) n
def m_x12_isImage_J88 (s20 : MS) : Option (Int32 × MS) :=
  some (0, s20)
def m_x12_isImage_b48 (lr48 : Int32 → MS → Option (Int32 × MS)) (x21 : Int32) (s22 : MS) : Option (Int32 × MS) :=
  bn (m_x12_blockMany s22) (fun r24 => if r24 ≤ x21 then bn (m_x12_areCounts 0 s22) (fun qr28 => if qr28.1 = 0 then m_x12_isImage_J88 qr28.2 else bn (m_x12_areCounts 1 qr28.2) (fun qr32 => if qr32.1 = 0 then m_x12_isImage_J88 qr32.2 else m_x12_isImage_L92 FU 1 qr32.2)) else bn (m_x12_areValues x21 s22) (fun r35 => if r35 = 0 then some (0, s22) else lr48 (x21 + 1) s22))
def m_x12_isImage_L48 (n : Nat) : Int32 → MS → Option (Int32 × MS) := lp (fun _ _ => none) (m_x12_isImage_b48) n
def m_x12_isImage_J44 (s37 : MS) : Option (Int32 × MS) :=
  some (0, s37)
def m_x12_isImage (p0 : Int32) (s : MS) : Option (Int32 × MS) :=
  if (gI s 47) = 0 then m_x12_isImage_J44 s else if p0 < 20 then m_x12_isImage_J44 s else rdI (gA s 0) 1600 (p0 - 1) (fun y40 => bn (m_x12_checked_v2 (p0 - 1) s) (fun r42 => if y40 = r42 then bn (m_x12_isLaid (p0 - 1) s) (fun qr46 => if qr46.1 = 0 then m_x12_isImage_J44 qr46.2 else m_x12_isImage_L48 FU 0 qr46.2) else m_x12_isImage_J44 s))
set_option maxHeartbeats 4000000 in
set_option maxRecDepth 100000 in
theorem k_x12_isImage (l : Launch) (D : va_G) (a : Nat → Nat) (p0 : Int32) (sz : Nat) (s : MS) (o : (Int32 × MS)) (h : m_x12_isImage p0 s = some o) : yWi l yX12_isImage cX12_isImage 4 (some .boolean) { frames := 4, cells := 0, slots := 0, locals := 240 } D sz [.ref (a 200), .int p0] (RW D a s) (RW D a o.2) o.1 := by
  refine Met.ofW (cc := cX12_isImage) (maxL := 4) (ret := (some .boolean)) (by decide) rfl ?_
  intro p e s₀ m args below meth c s₁ B hml hv
  obtain ⟨rfl, ⟨hsz, hP, hK, hD0⟩, hN⟩ := hv
  have hx := B.exec
  have hb := B.bytes
  have hr := B.returns
  have hts := atoms_spec (ws := wz yX12_isImage cX12_isImage 4 (some .boolean)) B.pre
  have ht : ∀ w ∈ lw_gd, w.before _ s₀ = true := fun w h => hts w (List.mem_cons_of_mem _ h)
  have hown : s₀.vm.findClass RX12 = some m.cls := findClass_of_methodNamed B.named
  have hlocks := B.notSynchronized
  subst hsz
  have hD := hD0.self (sz := s₀.heap.size)
  generalize hAe : va_A (RW D a s) s₀.heap.size = A at hD ⊢
  have hA : ∀ q : Nat, s₀.heap.size ≤ q → A q := fun q h => by rw [← hAe]; exact Or.inr h
  have hS : va_S A s₀.heap s₀.heap [] := va_S.rf
  have hDD : ∀ t : MS, va_D A (RW D a t) := fun t => RW_D t hD
  have hl := lv_entry ([.ref (a 200), .int p0]) (n := 4) (Nat.le_of_ble_eq_true rfl)
  rw [lg_entry_eq]
  generalize (lg_sl ([.ref (a 200), .int p0]) ++ List.replicate (4 - (lg_sl ([.ref (a 200), .int p0])).length) Slot.unset).toArray = ls at hl ⊢
  have hl : lv_has ls 4 [(0, .ref (a 200)), (1, .int p0)] := hl
  unfold m_x12_isImage at h
  refine y_loop (pcJ := 92) (σ := Int32 × MS) (fun n u H locs ls => va_P D vwCl (RW D a u.2) H ∧ va_S A s₀.heap H locs ∧ lv_has ls 4 [(0, .ref (a 200)), (2, .int u.1)] ∧ m_x12_isImage_L92 n u.1 u.2 = some o) (fun u => []) (fun u H locs ls hI => by obtain ⟨_, _, _, h⟩ := hI; cases h) (fun n92 ih92 u H locs ls hI => ?_) (fun J92 => ?_)
  · obtain ⟨hP, hS, hl, h⟩ := hI
    obtain ⟨x1, s2⟩ := u
    have hP : va_P D vwCl (RW D a s2) H := hP
    have hl : lv_has ls 4 [(0, .ref (a 200)), (2, .int x1)] := hl
    have h : m_x12_isImage_b92 (m_x12_isImage_L92 n92) x1 s2 = some o := h
    unfold m_x12_isImage_b92 at h
    refine y_loop (pcJ := 101) (σ := Int32 × Int32 × MS) (fun n u H locs ls => va_P D vwCl (RW D a u.2.2) H ∧ va_S A s₀.heap H locs ∧ lv_has ls 4 [(0, .ref (a 200)), (2, .int u.1), (3, .int u.2.1)] ∧ m_x12_isImage_L101 (m_x12_isImage_L92 n92) n u.1 u.2.1 u.2.2 = some o) (fun u => []) (fun u H locs ls hI => by obtain ⟨_, _, _, h⟩ := hI; cases h) (fun n101 ih101 u H locs ls hI => ?_) (fun J101 => ?_)
    · obtain ⟨hP, hS, hl, h⟩ := hI
      obtain ⟨x3, x4, s5⟩ := u
      have hP : va_P D vwCl (RW D a s5) H := hP
      have hl : lv_has ls 4 [(0, .ref (a 200)), (2, .int x3), (3, .int x4)] := hl
      have h : m_x12_isImage_b101 (m_x12_isImage_L92 n92) (m_x12_isImage_L101 (m_x12_isImage_L92 n92) n101) x3 x4 s5 = some o := h
      unfold m_x12_isImage_b101 at h
      refine y_head (pcJ := 129) (σ := Int32 × Int32 × MS) (fun u H locs ls => va_P D vwCl (RW D a u.2.2) H ∧ va_S A s₀.heap H locs ∧ lv_has ls 4 [(0, .ref (a 200)), (2, .int u.1), (3, .int u.2.1)] ∧ m_x12_isImage_J129 (m_x12_isImage_L92 n92) (m_x12_isImage_L101 (m_x12_isImage_L92 n92) n101) u.1 u.2.1 u.2.2 = some o) (fun u => []) (fun u H locs ls hI => ?_) (fun J129 => ?_)
      · obtain ⟨hP, hS, hl, h⟩ := hI
        obtain ⟨x6, x7, s8⟩ := u
        have hP : va_P D vwCl (RW D a s8) H := hP
        have hl : lv_has ls 4 [(0, .ref (a 200)), (2, .int x6), (3, .int x7)] := hl
        have h : m_x12_isImage_J129 (m_x12_isImage_L92 n92) (m_x12_isImage_L101 (m_x12_isImage_L92 n92) n101) x6 x7 s8 = some o := h
        unfold m_x12_isImage_J129 at h
        refine lv_iinc (v := x7 + 1) (lv' := [(3, .int (x7 + 1)), (0, .ref (a 200)), (2, .int x6)]) hx hb dX12_isImage_129 hl (k := 2) rfl rfl (by decide) rfl (fun ls hl => ?_)
        refine lv_goto (tgt := 101) hx hb dX12_isImage_132 (by decide) ?_
        exact ih101 (x6, x7 + 1, s8) _ _ _ ⟨hP, hS, lv_sub hl [1, 2, 0] rfl, h⟩
      refine lv_iload_n hx hb dX12_isImage_101 rfl (lv_at hl 2 rfl) ?_
      refine lv_aload_n hx hb dX12_isImage_102 rfl (lv_at hl 0 rfl) ?_
      obtain ⟨r10, hc9, h⟩ := bn_e h
      refine ycV (As := []) (rest := [.int x4]) (C := RX12) (n := 0) ⟨hx, hb, hml, hown, ht⟩ (k_x12_blockMany l D a _ _ hc9) (zgV ml_X12_429 im_X12_blockMany se_X12_blockMany in_X12 co_X12_blockMany) rfl rfl (by decide +kernel) ⟨Nat.le_of_ble_eq_true rfl, Nat.le_of_ble_eq_true rfl⟩ hN hK hP hS 0 RW_0 rfl rfl rfl hl.1 rfl (Nat.le_of_ble_eq_true rfl) dX12_isImage_103 ⟨Nat.le_of_ble_eq_true rfl, Nat.le_of_ble_eq_true rfl⟩ (fun H locs hP hS => ?_)
      refine lv_icmp_ge (tgt := 135) hx hb dX12_isImage_106 (by decide) (fun c11 => ?_) (fun c11 => ?_)
      · have h := if_t c11 h
        refine lv_iinc (v := x3 + 1) (lv' := [(2, .int (x3 + 1)), (0, .ref (a 200)), (3, .int x4)]) hx hb dX12_isImage_135 hl (k := 1) rfl rfl (by decide) rfl (fun ls hl => ?_)
        refine lv_goto (tgt := 92) hx hb dX12_isImage_138 (by decide) ?_
        exact ih92 (x3 + 1, s5) _ _ _ ⟨hP, hS, lv_sub hl [1, 0] rfl, h⟩
      · have h := if_f c11 h
        refine lv_aload_n hx hb dX12_isImage_109 rfl (lv_at hl 0 rfl) ?_
        refine lv_iload_n hx hb dX12_isImage_110 rfl (lv_at hl 2 rfl) ?_
        refine lv_iconst (v := 2) hx hb dX12_isImage_111 (by decide) ?_
        obtain ⟨r13, hc12, h⟩ := bn_e h
        refine ycV (As := [.int x4, .int 2]) (rest := []) (C := RX12) (n := 2) ⟨hx, hb, hml, hown, ht⟩ (k_x12_laidOf l D a x4 2 _ _ hc12) (zgV ml_X12_816 im_X12_laidOf se_X12_laidOf in_X12 co_X12_laidOf) rfl rfl (by decide +kernel) ⟨Nat.le_of_ble_eq_true rfl, Nat.le_of_ble_eq_true rfl⟩ hN hK hP hS 0 RW_0 rfl rfl rfl hl.1 rfl (Nat.le_of_ble_eq_true rfl) dX12_isImage_112 ⟨Nat.le_of_ble_eq_true rfl, Nat.le_of_ble_eq_true rfl⟩ (fun H locs hP hS => ?_)
        refine lv_iload_n hx hb dX12_isImage_115 rfl (lv_at hl 1 rfl) ?_
        refine lv_icmp_ne (tgt := 129) hx hb dX12_isImage_116 (by decide) (fun c14 => ?_) (fun c14 => ?_)
        · have h := if_f c14 h
          exact J129 (x3, x4, s5) _ _ _ ⟨hP, hS, lv_sub hl [0, 1, 2] rfl, h⟩
        · have h := if_t c14 h
          refine lv_aload_n hx hb dX12_isImage_119 rfl (lv_at hl 0 rfl) ?_
          refine lv_iload_n hx hb dX12_isImage_120 rfl (lv_at hl 2 rfl) ?_
          obtain ⟨⟨r17, s16⟩, hc15, h⟩ := bn_e h
          refine ywV (r0 := r17) (As := [.int x4]) (rest := []) (C := RX12) (n := 1) (ws' := RW D a s16) ⟨hx, hb, hml, hown, ht⟩ (k_x12_areKeys l D a x4 _ _ _ hc15) (zgV ml_X12_832 im_X12_areKeys se_X12_areKeys in_X12 co_X12_areKeys) rfl rfl (by decide +kernel) ⟨Nat.le_of_ble_eq_true rfl, Nat.le_of_ble_eq_true rfl⟩ hN hK hP (hDD _) hS hA 0 RW_0 rfl rfl rfl hl.1 rfl (Nat.le_of_ble_eq_true rfl) dX12_isImage_121 ⟨Nat.le_of_ble_eq_true rfl, Nat.le_of_ble_eq_true rfl⟩ (fun H locs hP hS => ?_)
          refine lv_if_ne (tgt := 129) hx hb dX12_isImage_124 (by decide) (fun c18 => ?_) (fun c18 => ?_)
          · have h := if_f c18 h
            exact J129 (x3, x4, s16) _ _ _ ⟨hP, hS, lv_sub hl [0, 1, 2] rfl, h⟩
          · have h := if_t c18 h
            refine lv_iconst (v := 0) hx hb dX12_isImage_127 (by decide) ?_
            obtain rfl := Option.some.inj h
            exact W.zret (v := 0) hx hb hr (by decide) (fun t ht hW => ⟨⟨_, (), rfl, rfl, by rw [ht]; exact hP, va_K.moved hW.alike hK, hDD _⟩, hS.F ht⟩) hS.2.2 dX12_isImage_128
    refine lv_iload_n hx hb dX12_isImage_92 rfl (lv_at hl 1 rfl) ?_
    refine lv_sipush (v := 256) hx hb dX12_isImage_93 (by decide) ?_
    refine lv_icmp_ge (tgt := 141) hx hb dX12_isImage_96 (by decide) (fun c19 => ?_) (fun c19 => ?_)
    · have h := if_t c19 h
      refine lv_iconst (v := 1) hx hb dX12_isImage_141 (by decide) ?_
      obtain rfl := Option.some.inj h
      exact W.zret (v := 1) hx hb hr (by decide) (fun t ht hW => ⟨⟨_, (), rfl, rfl, by rw [ht]; exact hP, va_K.moved hW.alike hK, hDD _⟩, hS.F ht⟩) hS.2.2 dX12_isImage_142
    · have h := if_f c19 h
      refine lv_iconst (v := 0) hx hb dX12_isImage_99 (by decide) ?_
      refine lv_istore_n (lv' := [(3, .int 0), (0, .ref (a 200)), (2, .int x1)]) hx hb dX12_isImage_100 rfl hl (by decide) rfl (fun ls hl => ?_)
      exact J101 FU (x1, 0, s2) _ _ _ ⟨hP, hS, lv_sub hl [1, 2, 0] rfl, h⟩
  refine y_head (pcJ := 88) (σ := MS) (fun u H locs ls => va_P D vwCl (RW D a u) H ∧ va_S A s₀.heap H locs ∧ lv_has ls 4 [] ∧ m_x12_isImage_J88 u = some o) (fun u => []) (fun u H locs ls hI => ?_) (fun J88 => ?_)
  · obtain ⟨hP, hS, hl, h⟩ := hI
    obtain ⟨s20, rfl⟩ : ∃ z, z = u := ⟨u, rfl⟩
    have hP : va_P D vwCl (RW D a s20) H := hP
    have hl : lv_has ls 4 [] := hl
    have h : m_x12_isImage_J88 s20 = some o := h
    unfold m_x12_isImage_J88 at h
    refine lv_iconst (v := 0) hx hb dX12_isImage_88 (by decide) ?_
    obtain rfl := Option.some.inj h
    exact W.zret (v := 0) hx hb hr (by decide) (fun t ht hW => ⟨⟨_, (), rfl, rfl, by rw [ht]; exact hP, va_K.moved hW.alike hK, hDD _⟩, hS.F ht⟩) hS.2.2 dX12_isImage_89
  refine y_loop (pcJ := 48) (σ := Int32 × MS) (fun n u H locs ls => va_P D vwCl (RW D a u.2) H ∧ va_S A s₀.heap H locs ∧ lv_has ls 4 [(0, .ref (a 200)), (2, .int u.1)] ∧ m_x12_isImage_L48 n u.1 u.2 = some o) (fun u => []) (fun u H locs ls hI => by obtain ⟨_, _, _, h⟩ := hI; cases h) (fun n48 ih48 u H locs ls hI => ?_) (fun J48 => ?_)
  · obtain ⟨hP, hS, hl, h⟩ := hI
    obtain ⟨x21, s22⟩ := u
    have hP : va_P D vwCl (RW D a s22) H := hP
    have hl : lv_has ls 4 [(0, .ref (a 200)), (2, .int x21)] := hl
    have h : m_x12_isImage_b48 (m_x12_isImage_L48 n48) x21 s22 = some o := h
    unfold m_x12_isImage_b48 at h
    refine lv_iload_n hx hb dX12_isImage_48 rfl (lv_at hl 1 rfl) ?_
    refine lv_aload_n hx hb dX12_isImage_49 rfl (lv_at hl 0 rfl) ?_
    obtain ⟨r24, hc23, h⟩ := bn_e h
    refine ycV (As := []) (rest := [.int x21]) (C := RX12) (n := 0) ⟨hx, hb, hml, hown, ht⟩ (k_x12_blockMany l D a _ _ hc23) (zgV ml_X12_429 im_X12_blockMany se_X12_blockMany in_X12 co_X12_blockMany) rfl rfl (by decide +kernel) ⟨Nat.le_of_ble_eq_true rfl, Nat.le_of_ble_eq_true rfl⟩ hN hK hP hS 0 RW_0 rfl rfl rfl hl.1 rfl (Nat.le_of_ble_eq_true rfl) dX12_isImage_50 ⟨Nat.le_of_ble_eq_true rfl, Nat.le_of_ble_eq_true rfl⟩ (fun H locs hP hS => ?_)
    refine lv_icmp_ge (tgt := 72) hx hb dX12_isImage_53 (by decide) (fun c25 => ?_) (fun c25 => ?_)
    · have h := if_t c25 h
      refine lv_aload_n hx hb dX12_isImage_72 rfl (lv_at hl 0 rfl) ?_
      refine lv_iconst (v := 0) hx hb dX12_isImage_73 (by decide) ?_
      obtain ⟨⟨r28, s27⟩, hc26, h⟩ := bn_e h
      refine ywV (r0 := r28) (As := [.int 0]) (rest := []) (C := RX12) (n := 1) (ws' := RW D a s27) ⟨hx, hb, hml, hown, ht⟩ (k_x12_areCounts l D a 0 _ _ _ hc26) (zgV ml_X12_829 im_X12_areCounts se_X12_areCounts in_X12 co_X12_areCounts) rfl rfl (by decide +kernel) ⟨Nat.le_of_ble_eq_true rfl, Nat.le_of_ble_eq_true rfl⟩ hN hK hP (hDD _) hS hA 0 RW_0 rfl rfl rfl hl.1 rfl (Nat.le_of_ble_eq_true rfl) dX12_isImage_74 ⟨Nat.le_of_ble_eq_true rfl, Nat.le_of_ble_eq_true rfl⟩ (fun H locs hP hS => ?_)
      refine lv_if_eq (tgt := 88) hx hb dX12_isImage_77 (by decide) (fun c29 => ?_) (fun c29 => ?_)
      · have h := if_t c29 h
        exact J88 s27 _ _ _ ⟨hP, hS, lv_sub hl [] rfl, h⟩
      · have h := if_f c29 h
        refine lv_aload_n hx hb dX12_isImage_80 rfl (lv_at hl 0 rfl) ?_
        refine lv_iconst (v := 1) hx hb dX12_isImage_81 (by decide) ?_
        obtain ⟨⟨r32, s31⟩, hc30, h⟩ := bn_e h
        refine ywV (r0 := r32) (As := [.int 1]) (rest := []) (C := RX12) (n := 1) (ws' := RW D a s31) ⟨hx, hb, hml, hown, ht⟩ (k_x12_areCounts l D a 1 _ _ _ hc30) (zgV ml_X12_829 im_X12_areCounts se_X12_areCounts in_X12 co_X12_areCounts) rfl rfl (by decide +kernel) ⟨Nat.le_of_ble_eq_true rfl, Nat.le_of_ble_eq_true rfl⟩ hN hK hP (hDD _) hS hA 0 RW_0 rfl rfl rfl hl.1 rfl (Nat.le_of_ble_eq_true rfl) dX12_isImage_82 ⟨Nat.le_of_ble_eq_true rfl, Nat.le_of_ble_eq_true rfl⟩ (fun H locs hP hS => ?_)
        refine lv_if_ne (tgt := 90) hx hb dX12_isImage_85 (by decide) (fun c33 => ?_) (fun c33 => ?_)
        · have h := if_f c33 h
          refine lv_iconst (v := 1) hx hb dX12_isImage_90 (by decide) ?_
          refine lv_istore_n (lv' := [(2, .int 1), (0, .ref (a 200))]) hx hb dX12_isImage_91 rfl hl (by decide) rfl (fun ls hl => ?_)
          exact J92 FU (1, s31) _ _ _ ⟨hP, hS, lv_sub hl [1, 0] rfl, h⟩
        · have h := if_t c33 h
          exact J88 s31 _ _ _ ⟨hP, hS, lv_sub hl [] rfl, h⟩
    · have h := if_f c25 h
      refine lv_aload_n hx hb dX12_isImage_56 rfl (lv_at hl 0 rfl) ?_
      refine lv_iload_n hx hb dX12_isImage_57 rfl (lv_at hl 1 rfl) ?_
      obtain ⟨r35, hc34, h⟩ := bn_e h
      refine ycV (As := [.int x21]) (rest := []) (C := RX12) (n := 1) ⟨hx, hb, hml, hown, ht⟩ (k_x12_areValues l D a x21 _ _ hc34) (zgV ml_X12_826 im_X12_areValues se_X12_areValues in_X12 co_X12_areValues) rfl rfl (by decide +kernel) ⟨Nat.le_of_ble_eq_true rfl, Nat.le_of_ble_eq_true rfl⟩ hN hK hP hS 0 RW_0 rfl rfl rfl hl.1 rfl (Nat.le_of_ble_eq_true rfl) dX12_isImage_58 ⟨Nat.le_of_ble_eq_true rfl, Nat.le_of_ble_eq_true rfl⟩ (fun H locs hP hS => ?_)
      refine lv_if_ne (tgt := 66) hx hb dX12_isImage_61 (by decide) (fun c36 => ?_) (fun c36 => ?_)
      · have h := if_f c36 h
        refine lv_iinc (v := x21 + 1) (lv' := [(2, .int (x21 + 1)), (0, .ref (a 200))]) hx hb dX12_isImage_66 hl (k := 1) rfl rfl (by decide) rfl (fun ls hl => ?_)
        refine lv_goto (tgt := 48) hx hb dX12_isImage_69 (by decide) ?_
        exact ih48 (x21 + 1, s22) _ _ _ ⟨hP, hS, lv_sub hl [1, 0] rfl, h⟩
      · have h := if_t c36 h
        refine lv_iconst (v := 0) hx hb dX12_isImage_64 (by decide) ?_
        obtain rfl := Option.some.inj h
        exact W.zret (v := 0) hx hb hr (by decide) (fun t ht hW => ⟨⟨_, (), rfl, rfl, by rw [ht]; exact hP, va_K.moved hW.alike hK, hDD _⟩, hS.F ht⟩) hS.2.2 dX12_isImage_65
  refine y_head (pcJ := 44) (σ := MS) (fun u H locs ls => va_P D vwCl (RW D a u) H ∧ va_S A s₀.heap H locs ∧ lv_has ls 4 [] ∧ m_x12_isImage_J44 u = some o) (fun u => []) (fun u H locs ls hI => ?_) (fun J44 => ?_)
  · obtain ⟨hP, hS, hl, h⟩ := hI
    obtain ⟨s37, rfl⟩ : ∃ z, z = u := ⟨u, rfl⟩
    have hP : va_P D vwCl (RW D a s37) H := hP
    have hl : lv_has ls 4 [] := hl
    have h : m_x12_isImage_J44 s37 = some o := h
    unfold m_x12_isImage_J44 at h
    refine lv_iconst (v := 0) hx hb dX12_isImage_44 (by decide) ?_
    obtain rfl := Option.some.inj h
    exact W.zret (v := 0) hx hb hr (by decide) (fun t ht hW => ⟨⟨_, (), rfl, rfl, by rw [ht]; exact hP, va_K.moved hW.alike hK, hDD _⟩, hS.F ht⟩) hS.2.2 dX12_isImage_45
  refine lv_aload_n hx hb dX12_isImage_0 rfl (lv_at hl 0 rfl) ?_
  refine va_get (D := D) (ci := 12) (v := .int (gI s 47)) (C := RX12) (T := TX12) (N := 116) hx hb ht inX12 hown hK hP 0 RW_0 rfl 47 (by decide) (ht (.fieldLink RX12 406 "CloneVolumesModel" "isTold" "Z") fl_X12_406) (fun _ h9 => h9) mF_47 dX12_isImage_1 ?_
  refine lv_if_eq (tgt := 44) hx hb dX12_isImage_4 (by decide) (fun c38 => ?_) (fun c38 => ?_)
  · have h := if_t c38 h
    exact J44 s _ _ _ ⟨hP, hS, lv_sub hl [] rfl, h⟩
  · have h := if_f c38 h
    refine lv_iload_n hx hb dX12_isImage_7 rfl (lv_at hl 1 rfl) ?_
    refine lv_bipush (v := 20) hx hb dX12_isImage_8 (by decide) ?_
    refine lv_icmp_lt (tgt := 44) hx hb dX12_isImage_10 (by decide) (fun c39 => ?_) (fun c39 => ?_)
    · have h := if_t c39 h
      exact J44 s _ _ _ ⟨hP, hS, lv_sub hl [] rfl, h⟩
    · have h := if_f c39 h
      refine lv_aload_n hx hb dX12_isImage_13 rfl (lv_at hl 0 rfl) ?_
      refine va_get (D := D) (ci := 12) (v := .ref (a 0)) (C := RX12) (T := TX12) (N := 116) hx hb ht inX12 hown hK hP 0 RW_0 rfl 0 (by decide) (ht (.fieldLink RX12 7 "CloneVolumesModel" "tape" "[I") fl_X12_7) (fun _ h9 => h9) mF_0 dX12_isImage_14 ?_
      refine lv_iload_n hx hb dX12_isImage_17 rfl (lv_at hl 1 rfl) ?_
      refine lv_iconst (v := 1) hx hb dX12_isImage_18 (by decide) ?_
      refine lv_isub hx hb dX12_isImage_19 ?_
      obtain ⟨y40, ey40, iy40, h⟩ := rdI_e h
      refine ya_iald hx hb hK hP 1 0 RW_1 rfl ey40 iy40 dX12_isImage_20 ?_
      refine lv_aload_n hx hb dX12_isImage_21 rfl (lv_at hl 0 rfl) ?_
      refine va_get (D := D) (ci := 12) (v := .ref (a 0)) (C := RX12) (T := TX12) (N := 116) hx hb ht inX12 hown hK hP 0 RW_0 rfl 0 (by decide) (ht (.fieldLink RX12 7 "CloneVolumesModel" "tape" "[I") fl_X12_7) (fun _ h9 => h9) mF_0 dX12_isImage_22 ?_
      refine lv_iload_n hx hb dX12_isImage_25 rfl (lv_at hl 1 rfl) ?_
      refine lv_iconst (v := 1) hx hb dX12_isImage_26 (by decide) ?_
      refine lv_isub hx hb dX12_isImage_27 ?_
      obtain ⟨r42, hc41, h⟩ := bn_e h
      refine ycS (As := [.ref (a 0), .int (p0 - 1)]) (rest := [.int y40]) (n := 2) ⟨hx, hb, hml, hown, ht⟩ (k_x12_checked_v2 l D a (p0 - 1) _ _ hc41) (zgT ml_X12_799 st_X12_checked in_X12 co_X12_checked) rfl rfl (by decide +kernel) ⟨Nat.le_of_ble_eq_true rfl, Nat.le_of_ble_eq_true rfl⟩ hN hK hP hS rfl hl.1 rfl (Nat.le_of_ble_eq_true rfl) dX12_isImage_28 ⟨Nat.le_of_ble_eq_true rfl, Nat.le_of_ble_eq_true rfl⟩ (fun H locs hP hS => ?_)
      refine lv_icmp_ne (tgt := 44) hx hb dX12_isImage_31 (by decide) (fun c43 => ?_) (fun c43 => ?_)
      · have h := if_f c43 h
        exact J44 s _ _ _ ⟨hP, hS, lv_sub hl [] rfl, h⟩
      · have h := if_t c43 h
        refine lv_aload_n hx hb dX12_isImage_34 rfl (lv_at hl 0 rfl) ?_
        refine lv_iload_n hx hb dX12_isImage_35 rfl (lv_at hl 1 rfl) ?_
        refine lv_iconst (v := 1) hx hb dX12_isImage_36 (by decide) ?_
        refine lv_isub hx hb dX12_isImage_37 ?_
        obtain ⟨⟨r46, s45⟩, hc44, h⟩ := bn_e h
        refine ywV (r0 := r46) (As := [.int (p0 - 1)]) (rest := []) (C := RX12) (n := 1) (ws' := RW D a s45) ⟨hx, hb, hml, hown, ht⟩ (k_x12_isLaid l D a (p0 - 1) _ _ _ hc44) (zgV ml_X12_823 im_X12_isLaid se_X12_isLaid in_X12 co_X12_isLaid) rfl rfl (by decide +kernel) ⟨Nat.le_of_ble_eq_true rfl, Nat.le_of_ble_eq_true rfl⟩ hN hK hP (hDD _) hS hA 0 RW_0 rfl rfl rfl hl.1 rfl (Nat.le_of_ble_eq_true rfl) dX12_isImage_38 ⟨Nat.le_of_ble_eq_true rfl, Nat.le_of_ble_eq_true rfl⟩ (fun H locs hP hS => ?_)
        refine lv_if_ne (tgt := 46) hx hb dX12_isImage_41 (by decide) (fun c47 => ?_) (fun c47 => ?_)
        · have h := if_f c47 h
          refine lv_iconst (v := 0) hx hb dX12_isImage_46 (by decide) ?_
          refine lv_istore_n (lv' := [(2, .int 0), (0, .ref (a 200)), (1, .int p0)]) hx hb dX12_isImage_47 rfl hl (by decide) rfl (fun ls hl => ?_)
          exact J48 FU (0, s45) _ _ _ ⟨hP, hS, lv_sub hl [1, 0] rfl, h⟩
        · have h := if_t c47 h
          exact J44 s45 _ _ _ ⟨hP, hS, lv_sub hl [] rfl, h⟩
def m_x12_on_b26 (lr26 : Int32 → MS → Option (Int32 × MS)) (x1 : Int32) (s2 : MS) : Option (Int32 × MS) :=
  if 785 ≤ x1 then inb 906 785 (stn (sA s2 49 (upd (gA s2 49) (Int32.toNatClampNeg 785) 0)) (fun s5 => stn (sI s5 76 0) (fun s6 => some (1, s6)))) else rdI (gA s2 113) 785 x1 (fun y7 => inb 906 x1 (stn (sA s2 49 (upd (gA s2 49) (Int32.toNatClampNeg x1) y7)) (fun s9 => lr26 (x1 + 1) s9)))
def m_x12_on_L26 (n : Nat) : Int32 → MS → Option (Int32 × MS) := lp (fun _ _ => none) (m_x12_on_b26) n
def m_x12_on (s : MS) : Option (Int32 × MS) :=
  stn (sI s 1 0) (fun s10 => bn (m_x12_isImage (gI s 1) s10) (fun qr13 => if qr13.1 = 0 then bn (m_x12_isRefused 5 qr13.2) (fun qr17 => bo qr17.1 (some (qr17.1, qr17.2))) else m_x12_on_L26 FU 0 qr13.2))
set_option maxHeartbeats 4000000 in
set_option maxRecDepth 100000 in
theorem k_x12_on (l : Launch) (D : va_G) (a : Nat → Nat) (sz : Nat) (s : MS) (o : (Int32 × MS)) (h : m_x12_on s = some o) : yWi l yX12_on cX12_on 3 (some .boolean) { frames := 5, cells := 0, slots := 0, locals := 300 } D sz [.ref (a 200)] (RW D a s) (RW D a o.2) o.1 := by
  refine Met.ofW (cc := cX12_on) (maxL := 3) (ret := (some .boolean)) (by decide) rfl ?_
  intro p e s₀ m args below meth c s₁ B hml hv
  obtain ⟨rfl, ⟨hsz, hP, hK, hD0⟩, hN⟩ := hv
  have hx := B.exec
  have hb := B.bytes
  have hr := B.returns
  have hts := atoms_spec (ws := wz yX12_on cX12_on 3 (some .boolean)) B.pre
  have ht : ∀ w ∈ lw_gd, w.before _ s₀ = true := fun w h => hts w (List.mem_cons_of_mem _ h)
  have hown : s₀.vm.findClass RX12 = some m.cls := findClass_of_methodNamed B.named
  have hlocks := B.notSynchronized
  subst hsz
  have hD := hD0.self (sz := s₀.heap.size)
  generalize hAe : va_A (RW D a s) s₀.heap.size = A at hD ⊢
  have hA : ∀ q : Nat, s₀.heap.size ≤ q → A q := fun q h => by rw [← hAe]; exact Or.inr h
  have hS : va_S A s₀.heap s₀.heap [] := va_S.rf
  have hDD : ∀ t : MS, va_D A (RW D a t) := fun t => RW_D t hD
  have hl := lv_entry ([.ref (a 200)]) (n := 3) (Nat.le_of_ble_eq_true rfl)
  rw [lg_entry_eq]
  generalize (lg_sl ([.ref (a 200)]) ++ List.replicate (3 - (lg_sl ([.ref (a 200)])).length) Slot.unset).toArray = ls at hl ⊢
  have hl : lv_has ls 3 [(0, .ref (a 200))] := hl
  unfold m_x12_on at h
  refine y_loop (pcJ := 26) (σ := Int32 × MS) (fun n u H locs ls => va_P D vwCl (RW D a u.2) H ∧ va_S A s₀.heap H locs ∧ lv_has ls 3 [(0, .ref (a 200)), (2, .int u.1)] ∧ m_x12_on_L26 n u.1 u.2 = some o) (fun u => []) (fun u H locs ls hI => by obtain ⟨_, _, _, h⟩ := hI; cases h) (fun n26 ih26 u H locs ls hI => ?_) (fun J26 => ?_)
  · obtain ⟨hP, hS, hl, h⟩ := hI
    obtain ⟨x1, s2⟩ := u
    have hP : va_P D vwCl (RW D a s2) H := hP
    have hl : lv_has ls 3 [(0, .ref (a 200)), (2, .int x1)] := hl
    have h : m_x12_on_b26 (m_x12_on_L26 n26) x1 s2 = some o := h
    unfold m_x12_on_b26 at h
    refine lv_iload_n hx hb dX12_on_26 rfl (lv_at hl 1 rfl) ?_
    refine lv_sipush (v := 785) hx hb dX12_on_27 (by decide) ?_
    refine lv_icmp_ge (tgt := 51) hx hb dX12_on_30 (by decide) (fun c3 => ?_) (fun c3 => ?_)
    · have h := if_t c3 h
      refine lv_aload_n hx hb dX12_on_51 rfl (lv_at hl 0 rfl) ?_
      refine va_get (D := D) (ci := 12) (v := .ref (a 49)) (C := RX12) (T := TX12) (N := 116) hx hb ht inX12 hown hK hP 0 RW_0 rfl 49 (by decide) (ht (.fieldLink RX12 121 "CloneVolumesModel" "now" "[I") fl_X12_121) (fun _ h9 => h9) mF_49 dX12_on_52 ?_
      refine lv_sipush (v := 785) hx hb dX12_on_55 (by decide) ?_
      refine lv_iconst (v := 0) hx hb dX12_on_58 (by decide) ?_
      obtain ⟨hi4, h⟩ := inb_e h
      refine ya_iast hx hb hK hP (hDD _) hS 36 0 RW_36 rfl hi4 dX12_on_59 (RW_w36 _) (fun H locs hP hS => ?_)
      obtain ⟨s5, hs5, h⟩ := st_e h
      rw [hs5] at hP
      refine lv_aload_n hx hb dX12_on_60 rfl (lv_at hl 0 rfl) ?_
      refine lv_iconst (v := 0) hx hb dX12_on_61 (by decide) ?_
      refine ya_put (D := D) (ci := 12) (v := .int 0) (ty := .int) (C := RX12) (T := TX12) (N := 116) hx hb ht inX12 tyX12 tyX12_ok nmX12 hown hK hP (hDD _) hS 0 RW_0 rfl 76 (by decide) (ht (.fieldLink RX12 416 "CloneVolumesModel" "undoable" "I") fl_X12_416) (fun _ h9 => h9) rfl (by decide +kernel) rfl rfl (by rw [mF_len]; decide) dX12_on_62 (RW_f76 _) (fun H locs hP hS => ?_)
      obtain ⟨s6, hs6, h⟩ := st_e h
      rw [hs6] at hP
      refine lv_iconst (v := 1) hx hb dX12_on_65 (by decide) ?_
      obtain rfl := Option.some.inj h
      exact W.zret (v := 1) hx hb hr (by decide) (fun t ht hW => ⟨⟨_, (), rfl, rfl, by rw [ht]; exact hP, va_K.moved hW.alike hK, hDD _⟩, hS.F ht⟩) hS.2.2 dX12_on_66
    · have h := if_f c3 h
      refine lv_aload_n hx hb dX12_on_33 rfl (lv_at hl 0 rfl) ?_
      refine va_get (D := D) (ci := 12) (v := .ref (a 49)) (C := RX12) (T := TX12) (N := 116) hx hb ht inX12 hown hK hP 0 RW_0 rfl 49 (by decide) (ht (.fieldLink RX12 121 "CloneVolumesModel" "now" "[I") fl_X12_121) (fun _ h9 => h9) mF_49 dX12_on_34 ?_
      refine lv_iload_n hx hb dX12_on_37 rfl (lv_at hl 1 rfl) ?_
      refine lv_aload_n hx hb dX12_on_38 rfl (lv_at hl 0 rfl) ?_
      refine va_get (D := D) (ci := 12) (v := .ref (a 113)) (C := RX12) (T := TX12) (N := 116) hx hb ht inX12 hown hK hP 0 RW_0 rfl 113 (by decide) (ht (.fieldLink RX12 255 "CloneVolumesModel" "laid" "[I") fl_X12_255) (fun _ h9 => h9) mF_113 dX12_on_39 ?_
      refine lv_iload_n hx hb dX12_on_42 rfl (lv_at hl 1 rfl) ?_
      obtain ⟨y7, ey7, iy7, h⟩ := rdI_e h
      refine ya_iald hx hb hK hP 79 0 RW_79 rfl ey7 iy7 dX12_on_43 ?_
      obtain ⟨hi8, h⟩ := inb_e h
      refine ya_iast hx hb hK hP (hDD _) hS 36 0 RW_36 rfl hi8 dX12_on_44 (RW_w36 _) (fun H locs hP hS => ?_)
      obtain ⟨s9, hs9, h⟩ := st_e h
      rw [hs9] at hP
      refine lv_iinc (v := x1 + 1) (lv' := [(2, .int (x1 + 1)), (0, .ref (a 200))]) hx hb dX12_on_45 hl (k := 1) rfl rfl (by decide) rfl (fun ls hl => ?_)
      refine lv_goto (tgt := 26) hx hb dX12_on_48 (by decide) ?_
      exact ih26 (x1 + 1, s9) _ _ _ ⟨hP, hS, lv_sub hl [1, 0] rfl, h⟩
  refine lv_aload_n hx hb dX12_on_0 rfl (lv_at hl 0 rfl) ?_
  refine va_get (D := D) (ci := 12) (v := .int (gI s 1)) (C := RX12) (T := TX12) (N := 116) hx hb ht inX12 hown hK hP 0 RW_0 rfl 1 (by decide) (ht (.fieldLink RX12 263 "CloneVolumesModel" "taped" "I") fl_X12_263) (fun _ h9 => h9) mF_1 dX12_on_1 ?_
  refine lv_istore_n (lv' := [(1, .int (gI s 1)), (0, .ref (a 200))]) hx hb dX12_on_4 rfl hl (by decide) rfl (fun ls hl => ?_)
  refine lv_aload_n hx hb dX12_on_5 rfl (lv_at hl 1 rfl) ?_
  refine lv_iconst (v := 0) hx hb dX12_on_6 (by decide) ?_
  refine ya_put (D := D) (ci := 12) (v := .int 0) (ty := .int) (C := RX12) (T := TX12) (N := 116) hx hb ht inX12 tyX12 tyX12_ok nmX12 hown hK hP (hDD _) hS 0 RW_0 rfl 1 (by decide) (ht (.fieldLink RX12 263 "CloneVolumesModel" "taped" "I") fl_X12_263) (fun _ h9 => h9) rfl (by decide +kernel) rfl rfl (by rw [mF_len]; decide) dX12_on_7 (RW_f1 _) (fun H locs hP hS => ?_)
  obtain ⟨s10, hs10, h⟩ := st_e h
  rw [hs10] at hP
  refine lv_aload_n hx hb dX12_on_10 rfl (lv_at hl 1 rfl) ?_
  refine lv_iload_n hx hb dX12_on_11 rfl (lv_at hl 0 rfl) ?_
  obtain ⟨⟨r13, s12⟩, hc11, h⟩ := bn_e h
  refine ywV (r0 := r13) (As := [.int (gI s 1)]) (rest := []) (C := RX12) (n := 1) (ws' := RW D a s12) ⟨hx, hb, hml, hown, ht⟩ (k_x12_isImage l D a (gI s 1) _ _ _ hc11) (zgV ml_X12_835 im_X12_isImage se_X12_isImage in_X12 co_X12_isImage) rfl rfl (by decide +kernel) ⟨Nat.le_of_ble_eq_true rfl, Nat.le_of_ble_eq_true rfl⟩ hN hK hP (hDD _) hS hA 0 RW_0 rfl rfl rfl hl.1 rfl (Nat.le_of_ble_eq_true rfl) dX12_on_12 ⟨Nat.le_of_ble_eq_true rfl, Nat.le_of_ble_eq_true rfl⟩ (fun H locs hP hS => ?_)
  refine lv_if_ne (tgt := 24) hx hb dX12_on_15 (by decide) (fun c14 => ?_) (fun c14 => ?_)
  · have h := if_f c14 h
    refine lv_iconst (v := 0) hx hb dX12_on_24 (by decide) ?_
    refine lv_istore_n (lv' := [(2, .int 0), (1, .int (gI s 1)), (0, .ref (a 200))]) hx hb dX12_on_25 rfl hl (by decide) rfl (fun ls hl => ?_)
    exact J26 FU (0, s12) _ _ _ ⟨hP, hS, lv_sub hl [2, 0] rfl, h⟩
  · have h := if_t c14 h
    refine lv_aload_n hx hb dX12_on_18 rfl (lv_at hl 1 rfl) ?_
    refine lv_iconst (v := 5) hx hb dX12_on_19 (by decide) ?_
    obtain ⟨⟨r17, s16⟩, hc15, h⟩ := bn_e h
    refine ywV (r0 := r17) (As := [.int 5]) (rest := []) (C := RX12) (n := 1) (ws' := RW D a s16) ⟨hx, hb, hml, hown, ht⟩ (k_x12_isRefused l D a 5 _ _ _ hc15) (zgV ml_X12_671 im_X12_isRefused se_X12_isRefused in_X12 co_X12_isRefused) rfl rfl (by decide +kernel) ⟨Nat.le_of_ble_eq_true rfl, Nat.le_of_ble_eq_true rfl⟩ hN hK hP (hDD _) hS hA 0 RW_0 rfl rfl rfl hl.1 rfl (Nat.le_of_ble_eq_true rfl) dX12_on_20 ⟨Nat.le_of_ble_eq_true rfl, Nat.le_of_ble_eq_true rfl⟩ (fun H locs hP hS => ?_)
    obtain ⟨hb18, h⟩ := bo_e h
    obtain rfl := Option.some.inj h
    exact W.zret (v := r17) hx hb hr (bo_n hb18) (fun t ht hW => ⟨⟨_, (), rfl, rfl, by rw [ht]; exact hP, va_K.moved hW.alike hK, hDD _⟩, hS.F ht⟩) hS.2.2 dX12_on_23
