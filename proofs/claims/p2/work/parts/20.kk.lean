theorem co_X1_lowerRoot : Cond.code yX1_lowerRoot cX1_lowerRoot 5 none ∈ lw_gd := zm (List.mem_of_getElem? (i := 1062) (by decide +kernel)) rfl
theorem co_X1_prune : Cond.code yX1_prune cX1_prune 5 none ∈ lw_gd := zm (List.mem_of_getElem? (i := 1054) (by decide +kernel)) rfl
theorem co_X1_uproot : Cond.code yX1_uproot cX1_uproot 8 (some .boolean) ∈ lw_gd := zm (List.mem_of_getElem? (i := 1050) (by decide +kernel)) rfl
theorem co_X8_delete : Cond.code yX8_delete cX8_delete 5 none ∈ lw_gd := zm (List.mem_of_getElem? (i := 1058) (by decide +kernel)) rfl
theorem fl_X1_21 : Cond.fieldLink RX1 21 "CloneVolumes$Forest" "inner" "LCloneVolumes$State;" ∈ lw_gd := zm (List.mem_of_getElem? (i := 672) (by decide +kernel)) rfl
theorem fl_X1_41 : Cond.fieldLink RX1 41 "CloneVolumes$Forest" "turns" "[I" ∈ lw_gd := zm (List.mem_of_getElem? (i := 679) (by decide +kernel)) rfl
theorem im_X1_lowerRoot : Cond.instanceMethod yX1_lowerRoot ∈ lw_gd := zm (List.mem_of_getElem? (i := 1061) (by decide +kernel)) rfl
theorem im_X1_prune : Cond.instanceMethod yX1_prune ∈ lw_gd := zm (List.mem_of_getElem? (i := 1053) (by decide +kernel)) rfl
theorem im_X1_uproot : Cond.instanceMethod yX1_uproot ∈ lw_gd := zm (List.mem_of_getElem? (i := 1049) (by decide +kernel)) rfl
theorem im_X8_delete : Cond.instanceMethod yX8_delete ∈ lw_gd := zm (List.mem_of_getElem? (i := 1056) (by decide +kernel)) rfl
theorem ml_X1_265 : Cond.methodLink RX1 265 yX1_uproot ∈ lw_gd := zm (List.mem_of_getElem? (i := 1047) (by decide +kernel)) rfl
theorem ml_X1_268 : Cond.methodLink RX1 268 yX1_prune ∈ lw_gd := zm (List.mem_of_getElem? (i := 1051) (by decide +kernel)) rfl
theorem ml_X1_271 : Cond.methodLink RX1 271 yX1_lowerRoot ∈ lw_gd := zm (List.mem_of_getElem? (i := 1059) (by decide +kernel)) rfl
theorem ml_X1_274 : Cond.methodLink RX1 274 yX8_delete ∈ lw_gd := zm (List.mem_of_getElem? (i := 1055) (by decide +kernel)) rfl
theorem se_X1_lowerRoot : Cond.selects RX1 yX1_lowerRoot yX1_lowerRoot ∈ lw_gd := zm (List.mem_of_getElem? (i := 43) (by decide +kernel)) rfl
theorem se_X1_prune : Cond.selects RX1 yX1_prune yX1_prune ∈ lw_gd := zm (List.mem_of_getElem? (i := 42) (by decide +kernel)) rfl
theorem se_X1_uproot : Cond.selects RX1 yX1_uproot yX1_uproot ∈ lw_gd := zm (List.mem_of_getElem? (i := 41) (by decide +kernel)) rfl
theorem se_X8_delete : Cond.selects RX8 yX8_delete yX8_delete ∈ lw_gd := zm (List.mem_of_getElem? (i := 1057) (by decide +kernel)) rfl
theorem dX1_letGo_0 : decode cX1_letGo 0 = .ok (.aload_n 0, 1) := by decide +kernel
theorem dX1_letGo_1 : decode cX1_letGo 1 = .ok (.getfield 12, 3) := by decide +kernel
theorem dX1_letGo_4 : decode cX1_letGo 4 = .ok (.getfield 69, 3) := by decide +kernel
theorem dX1_letGo_7 : decode cX1_letGo 7 = .ok (.iload_n 1, 1) := by decide +kernel
theorem dX1_letGo_8 : decode cX1_letGo 8 = .ok (.iaload, 1) := by decide +kernel
theorem dX1_letGo_9 : decode cX1_letGo 9 = .ok (.iconst (-1), 1) := by decide +kernel
theorem dX1_letGo_10 : decode cX1_letGo 10 = .ok (.if_icmp .eq 24, 3) := by decide +kernel
theorem dX1_letGo_13 : decode cX1_letGo 13 = .ok (.aload_n 0, 1) := by decide +kernel
theorem dX1_letGo_14 : decode cX1_letGo 14 = .ok (.aload_n 0, 1) := by decide +kernel
theorem dX1_letGo_15 : decode cX1_letGo 15 = .ok (.getfield 12, 3) := by decide +kernel
theorem dX1_letGo_18 : decode cX1_letGo 18 = .ok (.getfield 69, 3) := by decide +kernel
theorem dX1_letGo_21 : decode cX1_letGo 21 = .ok (.iload_n 1, 1) := by decide +kernel
theorem dX1_letGo_22 : decode cX1_letGo 22 = .ok (.iaload, 1) := by decide +kernel
theorem dX1_letGo_23 : decode cX1_letGo 23 = .ok (.aload_n 0, 1) := by decide +kernel
theorem dX1_letGo_24 : decode cX1_letGo 24 = .ok (.getfield 12, 3) := by decide +kernel
theorem dX1_letGo_27 : decode cX1_letGo 27 = .ok (.getfield 181, 3) := by decide +kernel
theorem dX1_letGo_30 : decode cX1_letGo 30 = .ok (.invokevirtual 223, 3) := by decide +kernel
theorem dX1_letGo_33 : decode cX1_letGo 33 = .ok (.pop, 1) := by decide +kernel
theorem dX1_letGo_34 : decode cX1_letGo 34 = .ok (.aload_n 0, 1) := by decide +kernel
theorem dX1_letGo_35 : decode cX1_letGo 35 = .ok (.getfield 12, 3) := by decide +kernel
theorem dX1_letGo_38 : decode cX1_letGo 38 = .ok (.getfield 69, 3) := by decide +kernel
theorem dX1_letGo_41 : decode cX1_letGo 41 = .ok (.iload_n 1, 1) := by decide +kernel
theorem dX1_letGo_42 : decode cX1_letGo 42 = .ok (.bipush (-2), 2) := by decide +kernel
theorem dX1_letGo_44 : decode cX1_letGo 44 = .ok (.iastore, 1) := by decide +kernel
theorem dX1_letGo_45 : decode cX1_letGo 45 = .ok (.return_, 1) := by decide +kernel
theorem dX1_lowerRoot_0 : decode cX1_lowerRoot 0 = .ok (.iconst 0, 1) := by decide +kernel
theorem dX1_lowerRoot_1 : decode cX1_lowerRoot 1 = .ok (.istore_n 2, 1) := by decide +kernel
theorem dX1_lowerRoot_2 : decode cX1_lowerRoot 2 = .ok (.iload_n 2, 1) := by decide +kernel
theorem dX1_lowerRoot_3 : decode cX1_lowerRoot 3 = .ok (.bipush 48, 2) := by decide +kernel
theorem dX1_lowerRoot_5 : decode cX1_lowerRoot 5 = .ok (.if_icmp .ge 107, 3) := by decide +kernel
theorem dX1_lowerRoot_8 : decode cX1_lowerRoot 8 = .ok (.aload_n 0, 1) := by decide +kernel
theorem dX1_lowerRoot_9 : decode cX1_lowerRoot 9 = .ok (.getfield 12, 3) := by decide +kernel
theorem dX1_lowerRoot_12 : decode cX1_lowerRoot 12 = .ok (.getfield 69, 3) := by decide +kernel
theorem dX1_lowerRoot_15 : decode cX1_lowerRoot 15 = .ok (.iload_n 1, 1) := by decide +kernel
theorem dX1_lowerRoot_16 : decode cX1_lowerRoot 16 = .ok (.iaload, 1) := by decide +kernel
theorem dX1_lowerRoot_17 : decode cX1_lowerRoot 17 = .ok (.istore_n 3, 1) := by decide +kernel
theorem dX1_lowerRoot_18 : decode cX1_lowerRoot 18 = .ok (.iload_n 3, 1) := by decide +kernel
theorem dX1_lowerRoot_19 : decode cX1_lowerRoot 19 = .ok (.iconst (-1), 1) := by decide +kernel
theorem dX1_lowerRoot_20 : decode cX1_lowerRoot 20 = .ok (.if_icmp .eq 28, 3) := by decide +kernel
theorem dX1_lowerRoot_23 : decode cX1_lowerRoot 23 = .ok (.aload_n 0, 1) := by decide +kernel
theorem dX1_lowerRoot_24 : decode cX1_lowerRoot 24 = .ok (.getfield 12, 3) := by decide +kernel
theorem dX1_lowerRoot_27 : decode cX1_lowerRoot 27 = .ok (.getfield 150, 3) := by decide +kernel
theorem dX1_lowerRoot_30 : decode cX1_lowerRoot 30 = .ok (.iload_n 3, 1) := by decide +kernel
theorem dX1_lowerRoot_31 : decode cX1_lowerRoot 31 = .ok (.iaload, 1) := by decide +kernel
theorem dX1_lowerRoot_32 : decode cX1_lowerRoot 32 = .ok (.ifCond .eq 16, 3) := by decide +kernel
theorem dX1_lowerRoot_35 : decode cX1_lowerRoot 35 = .ok (.aload_n 0, 1) := by decide +kernel
theorem dX1_lowerRoot_36 : decode cX1_lowerRoot 36 = .ok (.getfield 12, 3) := by decide +kernel
theorem dX1_lowerRoot_39 : decode cX1_lowerRoot 39 = .ok (.getfield 155, 3) := by decide +kernel
theorem dX1_lowerRoot_42 : decode cX1_lowerRoot 42 = .ok (.iload_n 3, 1) := by decide +kernel
theorem dX1_lowerRoot_43 : decode cX1_lowerRoot 43 = .ok (.iaload, 1) := by decide +kernel
theorem dX1_lowerRoot_44 : decode cX1_lowerRoot 44 = .ok (.iconst 1, 1) := by decide +kernel
theorem dX1_lowerRoot_45 : decode cX1_lowerRoot 45 = .ok (.if_icmp .eq 4, 3) := by decide +kernel
theorem dX1_lowerRoot_48 : decode cX1_lowerRoot 48 = .ok (.return_, 1) := by decide +kernel
theorem dX1_lowerRoot_49 : decode cX1_lowerRoot 49 = .ok (.aload_n 0, 1) := by decide +kernel
theorem dX1_lowerRoot_50 : decode cX1_lowerRoot 50 = .ok (.getfield 12, 3) := by decide +kernel
theorem dX1_lowerRoot_53 : decode cX1_lowerRoot 53 = .ok (.getfield 217, 3) := by decide +kernel
theorem dX1_lowerRoot_56 : decode cX1_lowerRoot 56 = .ok (.aload_n 0, 1) := by decide +kernel
theorem dX1_lowerRoot_57 : decode cX1_lowerRoot 57 = .ok (.getfield 12, 3) := by decide +kernel
theorem dX1_lowerRoot_60 : decode cX1_lowerRoot 60 = .ok (.iload_n 3, 1) := by decide +kernel
theorem dX1_lowerRoot_61 : decode cX1_lowerRoot 61 = .ok (.iconst 0, 1) := by decide +kernel
theorem dX1_lowerRoot_62 : decode cX1_lowerRoot 62 = .ok (.invokevirtual 220, 3) := by decide +kernel
theorem dX1_lowerRoot_65 : decode cX1_lowerRoot 65 = .ok (.iaload, 1) := by decide +kernel
theorem dX1_lowerRoot_66 : decode cX1_lowerRoot 66 = .ok (.istore 4, 2) := by decide +kernel
theorem dX1_lowerRoot_68 : decode cX1_lowerRoot 68 = .ok (.aload_n 0, 1) := by decide +kernel
theorem dX1_lowerRoot_69 : decode cX1_lowerRoot 69 = .ok (.getfield 12, 3) := by decide +kernel
theorem dX1_lowerRoot_72 : decode cX1_lowerRoot 72 = .ok (.getfield 181, 3) := by decide +kernel
theorem dX1_lowerRoot_75 : decode cX1_lowerRoot 75 = .ok (.iload 4, 2) := by decide +kernel
theorem dX1_lowerRoot_77 : decode cX1_lowerRoot 77 = .ok (.dup2, 1) := by decide +kernel
theorem dX1_lowerRoot_78 : decode cX1_lowerRoot 78 = .ok (.iaload, 1) := by decide +kernel
theorem dX1_lowerRoot_79 : decode cX1_lowerRoot 79 = .ok (.iconst 1, 1) := by decide +kernel
theorem dX1_lowerRoot_80 : decode cX1_lowerRoot 80 = .ok (.iadd, 1) := by decide +kernel
theorem dX1_lowerRoot_81 : decode cX1_lowerRoot 81 = .ok (.iastore, 1) := by decide +kernel
theorem dX1_lowerRoot_82 : decode cX1_lowerRoot 82 = .ok (.aload_n 0, 1) := by decide +kernel
theorem dX1_lowerRoot_83 : decode cX1_lowerRoot 83 = .ok (.getfield 12, 3) := by decide +kernel
theorem dX1_lowerRoot_86 : decode cX1_lowerRoot 86 = .ok (.getfield 69, 3) := by decide +kernel
theorem dX1_lowerRoot_89 : decode cX1_lowerRoot 89 = .ok (.iload_n 1, 1) := by decide +kernel
theorem dX1_lowerRoot_90 : decode cX1_lowerRoot 90 = .ok (.iload 4, 2) := by decide +kernel
theorem dX1_lowerRoot_92 : decode cX1_lowerRoot 92 = .ok (.iastore, 1) := by decide +kernel
theorem dX1_lowerRoot_93 : decode cX1_lowerRoot 93 = .ok (.aload_n 0, 1) := by decide +kernel
theorem dX1_lowerRoot_94 : decode cX1_lowerRoot 94 = .ok (.iload_n 3, 1) := by decide +kernel
theorem dX1_lowerRoot_95 : decode cX1_lowerRoot 95 = .ok (.aload_n 0, 1) := by decide +kernel
theorem dX1_lowerRoot_96 : decode cX1_lowerRoot 96 = .ok (.getfield 12, 3) := by decide +kernel
theorem dX1_lowerRoot_99 : decode cX1_lowerRoot 99 = .ok (.getfield 181, 3) := by decide +kernel
theorem dX1_lowerRoot_102 : decode cX1_lowerRoot 102 = .ok (.invokevirtual 223, 3) := by decide +kernel
theorem dX1_lowerRoot_105 : decode cX1_lowerRoot 105 = .ok (.pop, 1) := by decide +kernel
theorem dX1_lowerRoot_106 : decode cX1_lowerRoot 106 = .ok (.iinc 2 1, 3) := by decide +kernel
theorem dX1_lowerRoot_109 : decode cX1_lowerRoot 109 = .ok (.goto (-107), 3) := by decide +kernel
theorem dX1_lowerRoot_112 : decode cX1_lowerRoot 112 = .ok (.return_, 1) := by decide +kernel
theorem dX1_prune_0 : decode cX1_prune 0 = .ok (.aload_n 0, 1) := by decide +kernel
theorem dX1_prune_1 : decode cX1_prune 1 = .ok (.getfield 37, 3) := by decide +kernel
theorem dX1_prune_4 : decode cX1_prune 4 = .ok (.iconst 0, 1) := by decide +kernel
theorem dX1_prune_5 : decode cX1_prune 5 = .ok (.aload_n 0, 1) := by decide +kernel
theorem dX1_prune_6 : decode cX1_prune 6 = .ok (.getfield 12, 3) := by decide +kernel
theorem dX1_prune_9 : decode cX1_prune 9 = .ok (.getfield 69, 3) := by decide +kernel
theorem dX1_prune_12 : decode cX1_prune 12 = .ok (.iload_n 1, 1) := by decide +kernel
theorem dX1_prune_13 : decode cX1_prune 13 = .ok (.iaload, 1) := by decide +kernel
theorem dX1_prune_14 : decode cX1_prune 14 = .ok (.iastore, 1) := by decide +kernel
theorem dX1_prune_15 : decode cX1_prune 15 = .ok (.iconst 0, 1) := by decide +kernel
theorem dX1_prune_16 : decode cX1_prune 16 = .ok (.istore 4, 2) := by decide +kernel
theorem dX1_prune_18 : decode cX1_prune 18 = .ok (.iload 4, 2) := by decide +kernel
theorem dX1_prune_20 : decode cX1_prune 20 = .ok (.iload_n 3, 1) := by decide +kernel
theorem dX1_prune_21 : decode cX1_prune 21 = .ok (.if_icmp .ge 47, 3) := by decide +kernel
theorem dX1_prune_24 : decode cX1_prune 24 = .ok (.aload_n 0, 1) := by decide +kernel
theorem dX1_prune_25 : decode cX1_prune 25 = .ok (.getfield 37, 3) := by decide +kernel
theorem dX1_prune_28 : decode cX1_prune 28 = .ok (.iload 4, 2) := by decide +kernel
theorem dX1_prune_30 : decode cX1_prune 30 = .ok (.iconst 1, 1) := by decide +kernel
theorem dX1_prune_31 : decode cX1_prune 31 = .ok (.iadd, 1) := by decide +kernel
theorem dX1_prune_32 : decode cX1_prune 32 = .ok (.aload_n 0, 1) := by decide +kernel
theorem dX1_prune_33 : decode cX1_prune 33 = .ok (.getfield 12, 3) := by decide +kernel
theorem dX1_prune_36 : decode cX1_prune 36 = .ok (.getfield 217, 3) := by decide +kernel
theorem dX1_prune_39 : decode cX1_prune 39 = .ok (.aload_n 0, 1) := by decide +kernel
theorem dX1_prune_40 : decode cX1_prune 40 = .ok (.getfield 12, 3) := by decide +kernel
theorem dX1_prune_43 : decode cX1_prune 43 = .ok (.aload_n 0, 1) := by decide +kernel
theorem dX1_prune_44 : decode cX1_prune 44 = .ok (.getfield 37, 3) := by decide +kernel
theorem dX1_prune_47 : decode cX1_prune 47 = .ok (.iload 4, 2) := by decide +kernel
theorem dX1_prune_49 : decode cX1_prune 49 = .ok (.iaload, 1) := by decide +kernel
theorem dX1_prune_50 : decode cX1_prune 50 = .ok (.aload_n 0, 1) := by decide +kernel
theorem dX1_prune_51 : decode cX1_prune 51 = .ok (.getfield 41, 3) := by decide +kernel
theorem dX1_prune_54 : decode cX1_prune 54 = .ok (.iload 4, 2) := by decide +kernel
theorem dX1_prune_56 : decode cX1_prune 56 = .ok (.iaload, 1) := by decide +kernel
theorem dX1_prune_57 : decode cX1_prune 57 = .ok (.invokevirtual 220, 3) := by decide +kernel
theorem dX1_prune_60 : decode cX1_prune 60 = .ok (.iaload, 1) := by decide +kernel
theorem dX1_prune_61 : decode cX1_prune 61 = .ok (.iastore, 1) := by decide +kernel
theorem dX1_prune_62 : decode cX1_prune 62 = .ok (.iinc 4 1, 3) := by decide +kernel
theorem dX1_prune_65 : decode cX1_prune 65 = .ok (.goto (-47), 3) := by decide +kernel
theorem dX1_prune_68 : decode cX1_prune 68 = .ok (.aload_n 0, 1) := by decide +kernel
theorem dX1_prune_69 : decode cX1_prune 69 = .ok (.getfield 12, 3) := by decide +kernel
theorem dX1_prune_72 : decode cX1_prune 72 = .ok (.aload_n 0, 1) := by decide +kernel
theorem dX1_prune_73 : decode cX1_prune 73 = .ok (.getfield 37, 3) := by decide +kernel
theorem dX1_prune_76 : decode cX1_prune 76 = .ok (.iload_n 3, 1) := by decide +kernel
theorem dX1_prune_77 : decode cX1_prune 77 = .ok (.iaload, 1) := by decide +kernel
theorem dX1_prune_78 : decode cX1_prune 78 = .ok (.aload_n 0, 1) := by decide +kernel
theorem dX1_prune_79 : decode cX1_prune 79 = .ok (.getfield 12, 3) := by decide +kernel
theorem dX1_prune_82 : decode cX1_prune 82 = .ok (.aload_n 0, 1) := by decide +kernel
theorem dX1_prune_83 : decode cX1_prune 83 = .ok (.getfield 37, 3) := by decide +kernel
theorem dX1_prune_86 : decode cX1_prune 86 = .ok (.iload_n 3, 1) := by decide +kernel
theorem dX1_prune_87 : decode cX1_prune 87 = .ok (.iaload, 1) := by decide +kernel
theorem dX1_prune_88 : decode cX1_prune 88 = .ok (.iload_n 2, 1) := by decide +kernel
theorem dX1_prune_89 : decode cX1_prune 89 = .ok (.invokevirtual 262, 3) := by decide +kernel
theorem dX1_prune_92 : decode cX1_prune 92 = .ok (.invokevirtual 274, 3) := by decide +kernel
theorem dX1_prune_95 : decode cX1_prune 95 = .ok (.iload_n 3, 1) := by decide +kernel
theorem dX1_prune_96 : decode cX1_prune 96 = .ok (.istore 4, 2) := by decide +kernel
theorem dX1_prune_98 : decode cX1_prune 98 = .ok (.iload 4, 2) := by decide +kernel
theorem dX1_prune_100 : decode cX1_prune 100 = .ok (.ifCond .lt 86, 3) := by decide +kernel
theorem dX1_prune_103 : decode cX1_prune 103 = .ok (.aload_n 0, 1) := by decide +kernel
theorem dX1_prune_104 : decode cX1_prune 104 = .ok (.getfield 12, 3) := by decide +kernel
theorem dX1_prune_107 : decode cX1_prune 107 = .ok (.getfield 155, 3) := by decide +kernel
theorem dX1_prune_110 : decode cX1_prune 110 = .ok (.aload_n 0, 1) := by decide +kernel
theorem dX1_prune_111 : decode cX1_prune 111 = .ok (.getfield 37, 3) := by decide +kernel
theorem dX1_prune_114 : decode cX1_prune 114 = .ok (.iload 4, 2) := by decide +kernel
theorem dX1_prune_116 : decode cX1_prune 116 = .ok (.iaload, 1) := by decide +kernel
theorem dX1_prune_117 : decode cX1_prune 117 = .ok (.iaload, 1) := by decide +kernel
theorem dX1_prune_118 : decode cX1_prune 118 = .ok (.ifCond .ne 68, 3) := by decide +kernel
theorem dX1_prune_121 : decode cX1_prune 121 = .ok (.aload_n 0, 1) := by decide +kernel
theorem dX1_prune_122 : decode cX1_prune 122 = .ok (.getfield 12, 3) := by decide +kernel
theorem dX1_prune_125 : decode cX1_prune 125 = .ok (.getfield 181, 3) := by decide +kernel
theorem dX1_prune_128 : decode cX1_prune 128 = .ok (.aload_n 0, 1) := by decide +kernel
theorem dX1_prune_129 : decode cX1_prune 129 = .ok (.getfield 37, 3) := by decide +kernel
theorem dX1_prune_132 : decode cX1_prune 132 = .ok (.iload 4, 2) := by decide +kernel
theorem dX1_prune_134 : decode cX1_prune 134 = .ok (.iaload, 1) := by decide +kernel
theorem dX1_prune_135 : decode cX1_prune 135 = .ok (.iconst 0, 1) := by decide +kernel
theorem dX1_prune_136 : decode cX1_prune 136 = .ok (.iastore, 1) := by decide +kernel
theorem dX1_prune_137 : decode cX1_prune 137 = .ok (.iload 4, 2) := by decide +kernel
theorem dX1_prune_139 : decode cX1_prune 139 = .ok (.ifCond .le 31, 3) := by decide +kernel
theorem dX1_prune_142 : decode cX1_prune 142 = .ok (.aload_n 0, 1) := by decide +kernel
theorem dX1_prune_143 : decode cX1_prune 143 = .ok (.getfield 12, 3) := by decide +kernel
theorem dX1_prune_146 : decode cX1_prune 146 = .ok (.aload_n 0, 1) := by decide +kernel
theorem dX1_prune_147 : decode cX1_prune 147 = .ok (.getfield 37, 3) := by decide +kernel
theorem dX1_prune_150 : decode cX1_prune 150 = .ok (.iload 4, 2) := by decide +kernel
theorem dX1_prune_152 : decode cX1_prune 152 = .ok (.iconst 1, 1) := by decide +kernel
theorem dX1_prune_153 : decode cX1_prune 153 = .ok (.isub, 1) := by decide +kernel
theorem dX1_prune_154 : decode cX1_prune 154 = .ok (.iaload, 1) := by decide +kernel
theorem dX1_prune_155 : decode cX1_prune 155 = .ok (.aload_n 0, 1) := by decide +kernel
theorem dX1_prune_156 : decode cX1_prune 156 = .ok (.getfield 41, 3) := by decide +kernel
theorem dX1_prune_159 : decode cX1_prune 159 = .ok (.iload 4, 2) := by decide +kernel
theorem dX1_prune_161 : decode cX1_prune 161 = .ok (.iconst 1, 1) := by decide +kernel
theorem dX1_prune_162 : decode cX1_prune 162 = .ok (.isub, 1) := by decide +kernel
theorem dX1_prune_163 : decode cX1_prune 163 = .ok (.iaload, 1) := by decide +kernel
theorem dX1_prune_164 : decode cX1_prune 164 = .ok (.invokevirtual 274, 3) := by decide +kernel
theorem dX1_prune_167 : decode cX1_prune 167 = .ok (.goto 13, 3) := by decide +kernel
theorem dX1_prune_170 : decode cX1_prune 170 = .ok (.aload_n 0, 1) := by decide +kernel
theorem dX1_prune_171 : decode cX1_prune 171 = .ok (.getfield 12, 3) := by decide +kernel
theorem dX1_prune_174 : decode cX1_prune 174 = .ok (.getfield 69, 3) := by decide +kernel
theorem dX1_prune_177 : decode cX1_prune 177 = .ok (.iload_n 1, 1) := by decide +kernel
theorem dX1_prune_178 : decode cX1_prune 178 = .ok (.iconst (-1), 1) := by decide +kernel
theorem dX1_prune_179 : decode cX1_prune 179 = .ok (.iastore, 1) := by decide +kernel
theorem dX1_prune_180 : decode cX1_prune 180 = .ok (.iinc 4 (-1), 3) := by decide +kernel
theorem dX1_prune_183 : decode cX1_prune 183 = .ok (.goto (-85), 3) := by decide +kernel
theorem dX1_prune_186 : decode cX1_prune 186 = .ok (.return_, 1) := by decide +kernel
theorem dX1_share_0 : decode cX1_share 0 = .ok (.aload_n 0, 1) := by decide +kernel
theorem dX1_share_1 : decode cX1_share 1 = .ok (.getfield 12, 3) := by decide +kernel
theorem dX1_share_4 : decode cX1_share 4 = .ok (.getfield 69, 3) := by decide +kernel
theorem dX1_share_7 : decode cX1_share 7 = .ok (.iload_n 2, 1) := by decide +kernel
theorem dX1_share_8 : decode cX1_share 8 = .ok (.aload_n 0, 1) := by decide +kernel
theorem dX1_share_9 : decode cX1_share 9 = .ok (.getfield 12, 3) := by decide +kernel
theorem dX1_share_12 : decode cX1_share 12 = .ok (.getfield 69, 3) := by decide +kernel
theorem dX1_share_15 : decode cX1_share 15 = .ok (.iload_n 1, 1) := by decide +kernel
theorem dX1_share_16 : decode cX1_share 16 = .ok (.iaload, 1) := by decide +kernel
theorem dX1_share_17 : decode cX1_share 17 = .ok (.iastore, 1) := by decide +kernel
theorem dX1_share_18 : decode cX1_share 18 = .ok (.aload_n 0, 1) := by decide +kernel
theorem dX1_share_19 : decode cX1_share 19 = .ok (.getfield 12, 3) := by decide +kernel
theorem dX1_share_22 : decode cX1_share 22 = .ok (.getfield 69, 3) := by decide +kernel
theorem dX1_share_25 : decode cX1_share 25 = .ok (.iload_n 1, 1) := by decide +kernel
theorem dX1_share_26 : decode cX1_share 26 = .ok (.iaload, 1) := by decide +kernel
theorem dX1_share_27 : decode cX1_share 27 = .ok (.iconst (-1), 1) := by decide +kernel
theorem dX1_share_28 : decode cX1_share 28 = .ok (.if_icmp .eq 24, 3) := by decide +kernel
theorem dX1_share_31 : decode cX1_share 31 = .ok (.aload_n 0, 1) := by decide +kernel
theorem dX1_share_32 : decode cX1_share 32 = .ok (.getfield 12, 3) := by decide +kernel
theorem dX1_share_35 : decode cX1_share 35 = .ok (.getfield 181, 3) := by decide +kernel
theorem dX1_share_38 : decode cX1_share 38 = .ok (.aload_n 0, 1) := by decide +kernel
theorem dX1_share_39 : decode cX1_share 39 = .ok (.getfield 12, 3) := by decide +kernel
theorem dX1_share_42 : decode cX1_share 42 = .ok (.getfield 69, 3) := by decide +kernel
theorem dX1_share_45 : decode cX1_share 45 = .ok (.iload_n 1, 1) := by decide +kernel
theorem dX1_share_46 : decode cX1_share 46 = .ok (.iaload, 1) := by decide +kernel
theorem dX1_share_47 : decode cX1_share 47 = .ok (.dup2, 1) := by decide +kernel
theorem dX1_share_48 : decode cX1_share 48 = .ok (.iaload, 1) := by decide +kernel
theorem dX1_share_49 : decode cX1_share 49 = .ok (.iconst 1, 1) := by decide +kernel
theorem dX1_share_50 : decode cX1_share 50 = .ok (.iadd, 1) := by decide +kernel
theorem dX1_share_51 : decode cX1_share 51 = .ok (.iastore, 1) := by decide +kernel
theorem dX1_share_52 : decode cX1_share 52 = .ok (.return_, 1) := by decide +kernel
theorem dX1_tryPlant_0 : decode cX1_tryPlant 0 = .ok (.aload_n 0, 1) := by decide +kernel
theorem dX1_tryPlant_1 : decode cX1_tryPlant 1 = .ok (.getfield 21, 3) := by decide +kernel
theorem dX1_tryPlant_4 : decode cX1_tryPlant 4 = .ok (.aload_n 0, 1) := by decide +kernel
theorem dX1_tryPlant_5 : decode cX1_tryPlant 5 = .ok (.getfield 12, 3) := by decide +kernel
theorem dX1_tryPlant_8 : decode cX1_tryPlant 8 = .ok (.invokevirtual 100, 3) := by decide +kernel
theorem dX1_tryPlant_11 : decode cX1_tryPlant 11 = .ok (.aload_n 0, 1) := by decide +kernel
theorem dX1_tryPlant_12 : decode cX1_tryPlant 12 = .ok (.iload_n 1, 1) := by decide +kernel
theorem dX1_tryPlant_13 : decode cX1_tryPlant 13 = .ok (.iload_n 2, 1) := by decide +kernel
theorem dX1_tryPlant_14 : decode cX1_tryPlant 14 = .ok (.iload_n 3, 1) := by decide +kernel
theorem dX1_tryPlant_15 : decode cX1_tryPlant 15 = .ok (.invokevirtual 141, 3) := by decide +kernel
theorem dX1_tryPlant_18 : decode cX1_tryPlant 18 = .ok (.istore 4, 2) := by decide +kernel
theorem dX1_tryPlant_20 : decode cX1_tryPlant 20 = .ok (.iload 4, 2) := by decide +kernel
theorem dX1_tryPlant_22 : decode cX1_tryPlant 22 = .ok (.ifCond .ne 14, 3) := by decide +kernel
theorem dX1_tryPlant_25 : decode cX1_tryPlant 25 = .ok (.aload_n 0, 1) := by decide +kernel
theorem dX1_tryPlant_26 : decode cX1_tryPlant 26 = .ok (.getfield 12, 3) := by decide +kernel
theorem dX1_tryPlant_29 : decode cX1_tryPlant 29 = .ok (.aload_n 0, 1) := by decide +kernel
theorem dX1_tryPlant_30 : decode cX1_tryPlant 30 = .ok (.getfield 21, 3) := by decide +kernel
theorem dX1_tryPlant_33 : decode cX1_tryPlant 33 = .ok (.invokevirtual 100, 3) := by decide +kernel
theorem dX1_tryPlant_36 : decode cX1_tryPlant 36 = .ok (.iload 4, 2) := by decide +kernel
theorem dX1_tryPlant_38 : decode cX1_tryPlant 38 = .ok (.ireturn, 1) := by decide +kernel
theorem dX1_tryUproot_0 : decode cX1_tryUproot 0 = .ok (.aload_n 0, 1) := by decide +kernel
theorem dX1_tryUproot_1 : decode cX1_tryUproot 1 = .ok (.getfield 12, 3) := by decide +kernel
theorem dX1_tryUproot_4 : decode cX1_tryUproot 4 = .ok (.aload_n 0, 1) := by decide +kernel
theorem dX1_tryUproot_5 : decode cX1_tryUproot 5 = .ok (.getfield 12, 3) := by decide +kernel
theorem dX1_tryUproot_8 : decode cX1_tryUproot 8 = .ok (.getfield 69, 3) := by decide +kernel
theorem dX1_tryUproot_11 : decode cX1_tryUproot 11 = .ok (.iload_n 1, 1) := by decide +kernel
theorem dX1_tryUproot_12 : decode cX1_tryUproot 12 = .ok (.iaload, 1) := by decide +kernel
theorem dX1_tryUproot_13 : decode cX1_tryUproot 13 = .ok (.iload_n 2, 1) := by decide +kernel
theorem dX1_tryUproot_14 : decode cX1_tryUproot 14 = .ok (.invokevirtual 138, 3) := by decide +kernel
theorem dX1_tryUproot_17 : decode cX1_tryUproot 17 = .ok (.iconst (-1), 1) := by decide +kernel
theorem dX1_tryUproot_18 : decode cX1_tryUproot 18 = .ok (.if_icmp .ne 5, 3) := by decide +kernel
theorem dX1_tryUproot_21 : decode cX1_tryUproot 21 = .ok (.iconst 0, 1) := by decide +kernel
theorem dX1_tryUproot_22 : decode cX1_tryUproot 22 = .ok (.ireturn, 1) := by decide +kernel
theorem dX1_tryUproot_23 : decode cX1_tryUproot 23 = .ok (.aload_n 0, 1) := by decide +kernel
theorem dX1_tryUproot_24 : decode cX1_tryUproot 24 = .ok (.getfield 21, 3) := by decide +kernel
theorem dX1_tryUproot_27 : decode cX1_tryUproot 27 = .ok (.aload_n 0, 1) := by decide +kernel
theorem dX1_tryUproot_28 : decode cX1_tryUproot 28 = .ok (.getfield 12, 3) := by decide +kernel
theorem dX1_tryUproot_31 : decode cX1_tryUproot 31 = .ok (.invokevirtual 100, 3) := by decide +kernel
theorem dX1_tryUproot_34 : decode cX1_tryUproot 34 = .ok (.aload_n 0, 1) := by decide +kernel
theorem dX1_tryUproot_35 : decode cX1_tryUproot 35 = .ok (.iload_n 1, 1) := by decide +kernel
theorem dX1_tryUproot_36 : decode cX1_tryUproot 36 = .ok (.iload_n 2, 1) := by decide +kernel
theorem dX1_tryUproot_37 : decode cX1_tryUproot 37 = .ok (.invokevirtual 265, 3) := by decide +kernel
theorem dX1_tryUproot_40 : decode cX1_tryUproot 40 = .ok (.istore_n 3, 1) := by decide +kernel
theorem dX1_tryUproot_41 : decode cX1_tryUproot 41 = .ok (.iload_n 3, 1) := by decide +kernel
theorem dX1_tryUproot_42 : decode cX1_tryUproot 42 = .ok (.ifCond .ne 14, 3) := by decide +kernel
theorem dX1_tryUproot_45 : decode cX1_tryUproot 45 = .ok (.aload_n 0, 1) := by decide +kernel
theorem dX1_tryUproot_46 : decode cX1_tryUproot 46 = .ok (.getfield 12, 3) := by decide +kernel
theorem dX1_tryUproot_49 : decode cX1_tryUproot 49 = .ok (.aload_n 0, 1) := by decide +kernel
theorem dX1_tryUproot_50 : decode cX1_tryUproot 50 = .ok (.getfield 21, 3) := by decide +kernel
theorem dX1_tryUproot_53 : decode cX1_tryUproot 53 = .ok (.invokevirtual 100, 3) := by decide +kernel
theorem dX1_tryUproot_56 : decode cX1_tryUproot 56 = .ok (.iload_n 3, 1) := by decide +kernel
theorem dX1_tryUproot_57 : decode cX1_tryUproot 57 = .ok (.ireturn, 1) := by decide +kernel
theorem dX1_uproot_0 : decode cX1_uproot 0 = .ok (.aload_n 0, 1) := by decide +kernel
theorem dX1_uproot_1 : decode cX1_uproot 1 = .ok (.getfield 12, 3) := by decide +kernel
theorem dX1_uproot_4 : decode cX1_uproot 4 = .ok (.getfield 150, 3) := by decide +kernel
theorem dX1_uproot_7 : decode cX1_uproot 7 = .ok (.aload_n 0, 1) := by decide +kernel
theorem dX1_uproot_8 : decode cX1_uproot 8 = .ok (.getfield 12, 3) := by decide +kernel
theorem dX1_uproot_11 : decode cX1_uproot 11 = .ok (.getfield 69, 3) := by decide +kernel
theorem dX1_uproot_14 : decode cX1_uproot 14 = .ok (.iload_n 1, 1) := by decide +kernel
theorem dX1_uproot_15 : decode cX1_uproot 15 = .ok (.iaload, 1) := by decide +kernel
theorem dX1_uproot_16 : decode cX1_uproot 16 = .ok (.iaload, 1) := by decide +kernel
theorem dX1_uproot_17 : decode cX1_uproot 17 = .ok (.istore_n 3, 1) := by decide +kernel
theorem dX1_uproot_18 : decode cX1_uproot 18 = .ok (.aload_n 0, 1) := by decide +kernel
theorem dX1_uproot_19 : decode cX1_uproot 19 = .ok (.aload_n 0, 1) := by decide +kernel
theorem dX1_uproot_20 : decode cX1_uproot 20 = .ok (.getfield 12, 3) := by decide +kernel
theorem dX1_uproot_23 : decode cX1_uproot 23 = .ok (.getfield 69, 3) := by decide +kernel
theorem dX1_uproot_26 : decode cX1_uproot 26 = .ok (.iload_n 1, 1) := by decide +kernel
theorem dX1_uproot_27 : decode cX1_uproot 27 = .ok (.iaload, 1) := by decide +kernel
theorem dX1_uproot_28 : decode cX1_uproot 28 = .ok (.invokevirtual 236, 3) := by decide +kernel
theorem dX1_uproot_31 : decode cX1_uproot 31 = .ok (.istore 4, 2) := by decide +kernel
theorem dX1_uproot_33 : decode cX1_uproot 33 = .ok (.iload 4, 2) := by decide +kernel
theorem dX1_uproot_35 : decode cX1_uproot 35 = .ok (.iconst (-1), 1) := by decide +kernel
theorem dX1_uproot_36 : decode cX1_uproot 36 = .ok (.if_icmp .ne 5, 3) := by decide +kernel
theorem dX1_uproot_39 : decode cX1_uproot 39 = .ok (.iconst 0, 1) := by decide +kernel
theorem dX1_uproot_40 : decode cX1_uproot 40 = .ok (.ireturn, 1) := by decide +kernel
theorem dX1_uproot_41 : decode cX1_uproot 41 = .ok (.aload_n 0, 1) := by decide +kernel
theorem dX1_uproot_42 : decode cX1_uproot 42 = .ok (.getfield 12, 3) := by decide +kernel
theorem dX1_uproot_45 : decode cX1_uproot 45 = .ok (.getfield 69, 3) := by decide +kernel
theorem dX1_uproot_48 : decode cX1_uproot 48 = .ok (.iload_n 1, 1) := by decide +kernel
theorem dX1_uproot_49 : decode cX1_uproot 49 = .ok (.iload 4, 2) := by decide +kernel
theorem dX1_uproot_51 : decode cX1_uproot 51 = .ok (.iastore, 1) := by decide +kernel
theorem dX1_uproot_52 : decode cX1_uproot 52 = .ok (.iconst 0, 1) := by decide +kernel
theorem dX1_uproot_53 : decode cX1_uproot 53 = .ok (.istore 5, 2) := by decide +kernel
theorem dX1_uproot_55 : decode cX1_uproot 55 = .ok (.iload 5, 2) := by decide +kernel
theorem dX1_uproot_57 : decode cX1_uproot 57 = .ok (.iload_n 3, 1) := by decide +kernel
theorem dX1_uproot_58 : decode cX1_uproot 58 = .ok (.if_icmp .ge 80, 3) := by decide +kernel
theorem dX1_uproot_61 : decode cX1_uproot 61 = .ok (.aload_n 0, 1) := by decide +kernel
theorem dX1_uproot_62 : decode cX1_uproot 62 = .ok (.getfield 12, 3) := by decide +kernel
theorem dX1_uproot_65 : decode cX1_uproot 65 = .ok (.iload 4, 2) := by decide +kernel
theorem dX1_uproot_67 : decode cX1_uproot 67 = .ok (.iload_n 2, 1) := by decide +kernel
theorem dX1_uproot_68 : decode cX1_uproot 68 = .ok (.invokevirtual 249, 3) := by decide +kernel
theorem dX1_uproot_71 : decode cX1_uproot 71 = .ok (.istore 6, 2) := by decide +kernel
theorem dX1_uproot_73 : decode cX1_uproot 73 = .ok (.aload_n 0, 1) := by decide +kernel
theorem dX1_uproot_74 : decode cX1_uproot 74 = .ok (.aload_n 0, 1) := by decide +kernel
theorem dX1_uproot_75 : decode cX1_uproot 75 = .ok (.getfield 12, 3) := by decide +kernel
theorem dX1_uproot_78 : decode cX1_uproot 78 = .ok (.getfield 217, 3) := by decide +kernel
theorem dX1_uproot_81 : decode cX1_uproot 81 = .ok (.aload_n 0, 1) := by decide +kernel
theorem dX1_uproot_82 : decode cX1_uproot 82 = .ok (.getfield 12, 3) := by decide +kernel
theorem dX1_uproot_85 : decode cX1_uproot 85 = .ok (.iload 4, 2) := by decide +kernel
theorem dX1_uproot_87 : decode cX1_uproot 87 = .ok (.iload 6, 2) := by decide +kernel
theorem dX1_uproot_89 : decode cX1_uproot 89 = .ok (.invokevirtual 220, 3) := by decide +kernel
theorem dX1_uproot_92 : decode cX1_uproot 92 = .ok (.iaload, 1) := by decide +kernel
theorem dX1_uproot_93 : decode cX1_uproot 93 = .ok (.invokevirtual 236, 3) := by decide +kernel
theorem dX1_uproot_96 : decode cX1_uproot 96 = .ok (.istore 7, 2) := by decide +kernel
theorem dX1_uproot_98 : decode cX1_uproot 98 = .ok (.iload 7, 2) := by decide +kernel
theorem dX1_uproot_100 : decode cX1_uproot 100 = .ok (.iconst (-1), 1) := by decide +kernel
theorem dX1_uproot_101 : decode cX1_uproot 101 = .ok (.if_icmp .ne 5, 3) := by decide +kernel
theorem dX1_uproot_104 : decode cX1_uproot 104 = .ok (.iconst 0, 1) := by decide +kernel
theorem dX1_uproot_105 : decode cX1_uproot 105 = .ok (.ireturn, 1) := by decide +kernel
theorem dX1_uproot_106 : decode cX1_uproot 106 = .ok (.aload_n 0, 1) := by decide +kernel
theorem dX1_uproot_107 : decode cX1_uproot 107 = .ok (.getfield 12, 3) := by decide +kernel
theorem dX1_uproot_110 : decode cX1_uproot 110 = .ok (.iload 4, 2) := by decide +kernel
theorem dX1_uproot_112 : decode cX1_uproot 112 = .ok (.iload 6, 2) := by decide +kernel
theorem dX1_uproot_114 : decode cX1_uproot 114 = .ok (.iload 7, 2) := by decide +kernel
theorem dX1_uproot_116 : decode cX1_uproot 116 = .ok (.invokevirtual 252, 3) := by decide +kernel
theorem dX1_uproot_119 : decode cX1_uproot 119 = .ok (.aload_n 0, 1) := by decide +kernel
theorem dX1_uproot_120 : decode cX1_uproot 120 = .ok (.getfield 41, 3) := by decide +kernel
theorem dX1_uproot_123 : decode cX1_uproot 123 = .ok (.iload 5, 2) := by decide +kernel
theorem dX1_uproot_125 : decode cX1_uproot 125 = .ok (.iload 6, 2) := by decide +kernel
theorem dX1_uproot_127 : decode cX1_uproot 127 = .ok (.iastore, 1) := by decide +kernel
theorem dX1_uproot_128 : decode cX1_uproot 128 = .ok (.iload 7, 2) := by decide +kernel
theorem dX1_uproot_130 : decode cX1_uproot 130 = .ok (.istore 4, 2) := by decide +kernel
theorem dX1_uproot_132 : decode cX1_uproot 132 = .ok (.iinc 5 1, 3) := by decide +kernel
theorem dX1_uproot_135 : decode cX1_uproot 135 = .ok (.goto (-80), 3) := by decide +kernel
theorem dX1_uproot_138 : decode cX1_uproot 138 = .ok (.aload_n 0, 1) := by decide +kernel
theorem dX1_uproot_139 : decode cX1_uproot 139 = .ok (.iload_n 1, 1) := by decide +kernel
theorem dX1_uproot_140 : decode cX1_uproot 140 = .ok (.iload_n 2, 1) := by decide +kernel
theorem dX1_uproot_141 : decode cX1_uproot 141 = .ok (.iload_n 3, 1) := by decide +kernel
theorem dX1_uproot_142 : decode cX1_uproot 142 = .ok (.invokevirtual 268, 3) := by decide +kernel
theorem dX1_uproot_145 : decode cX1_uproot 145 = .ok (.aload_n 0, 1) := by decide +kernel
theorem dX1_uproot_146 : decode cX1_uproot 146 = .ok (.iload_n 1, 1) := by decide +kernel
theorem dX1_uproot_147 : decode cX1_uproot 147 = .ok (.invokevirtual 271, 3) := by decide +kernel
theorem dX1_uproot_150 : decode cX1_uproot 150 = .ok (.iconst 1, 1) := by decide +kernel
theorem dX1_uproot_151 : decode cX1_uproot 151 = .ok (.ireturn, 1) := by decide +kernel
theorem dX8_delete_0 : decode cX8_delete 0 = .ok (.iload_n 2, 1) := by decide +kernel
theorem dX8_delete_1 : decode cX8_delete 1 = .ok (.ifCond .lt 13, 3) := by decide +kernel
theorem dX8_delete_4 : decode cX8_delete 4 = .ok (.iload_n 2, 1) := by decide +kernel
theorem dX8_delete_5 : decode cX8_delete 5 = .ok (.aload_n 0, 1) := by decide +kernel
theorem dX8_delete_6 : decode cX8_delete 6 = .ok (.getfield 21, 3) := by decide +kernel
theorem dX8_delete_9 : decode cX8_delete 9 = .ok (.iload_n 1, 1) := by decide +kernel
theorem dX8_delete_10 : decode cX8_delete 10 = .ok (.iaload, 1) := by decide +kernel
theorem dX8_delete_11 : decode cX8_delete 11 = .ok (.if_icmp .lt 4, 3) := by decide +kernel
theorem dX8_delete_14 : decode cX8_delete 14 = .ok (.return_, 1) := by decide +kernel
theorem dX8_delete_15 : decode cX8_delete 15 = .ok (.aload_n 0, 1) := by decide +kernel
theorem dX8_delete_16 : decode cX8_delete 16 = .ok (.getfield 21, 3) := by decide +kernel
theorem dX8_delete_19 : decode cX8_delete 19 = .ok (.iload_n 1, 1) := by decide +kernel
theorem dX8_delete_20 : decode cX8_delete 20 = .ok (.dup2, 1) := by decide +kernel
theorem dX8_delete_21 : decode cX8_delete 21 = .ok (.iaload, 1) := by decide +kernel
theorem dX8_delete_22 : decode cX8_delete 22 = .ok (.iconst 1, 1) := by decide +kernel
theorem dX8_delete_23 : decode cX8_delete 23 = .ok (.isub, 1) := by decide +kernel
theorem dX8_delete_24 : decode cX8_delete 24 = .ok (.iastore, 1) := by decide +kernel
theorem dX8_delete_25 : decode cX8_delete 25 = .ok (.aload_n 0, 1) := by decide +kernel
theorem dX8_delete_26 : decode cX8_delete 26 = .ok (.iload_n 1, 1) := by decide +kernel
theorem dX8_delete_27 : decode cX8_delete 27 = .ok (.aload_n 0, 1) := by decide +kernel
theorem dX8_delete_28 : decode cX8_delete 28 = .ok (.getfield 21, 3) := by decide +kernel
theorem dX8_delete_31 : decode cX8_delete 31 = .ok (.iload_n 1, 1) := by decide +kernel
theorem dX8_delete_32 : decode cX8_delete 32 = .ok (.iaload, 1) := by decide +kernel
theorem dX8_delete_33 : decode cX8_delete 33 = .ok (.invokevirtual 73, 3) := by decide +kernel
theorem dX8_delete_36 : decode cX8_delete 36 = .ok (.istore_n 3, 1) := by decide +kernel
theorem dX8_delete_37 : decode cX8_delete 37 = .ok (.aload_n 0, 1) := by decide +kernel
theorem dX8_delete_38 : decode cX8_delete 38 = .ok (.iload_n 1, 1) := by decide +kernel
theorem dX8_delete_39 : decode cX8_delete 39 = .ok (.iload_n 2, 1) := by decide +kernel
theorem dX8_delete_40 : decode cX8_delete 40 = .ok (.invokevirtual 73, 3) := by decide +kernel
theorem dX8_delete_43 : decode cX8_delete 43 = .ok (.istore 4, 2) := by decide +kernel
theorem dX8_delete_45 : decode cX8_delete 45 = .ok (.iload 4, 2) := by decide +kernel
theorem dX8_delete_47 : decode cX8_delete 47 = .ok (.iload_n 3, 1) := by decide +kernel
theorem dX8_delete_48 : decode cX8_delete 48 = .ok (.if_icmp .ge 41, 3) := by decide +kernel
theorem dX8_delete_51 : decode cX8_delete 51 = .ok (.aload_n 0, 1) := by decide +kernel
theorem dX8_delete_52 : decode cX8_delete 52 = .ok (.getfield 24, 3) := by decide +kernel
theorem dX8_delete_55 : decode cX8_delete 55 = .ok (.iload 4, 2) := by decide +kernel
theorem dX8_delete_57 : decode cX8_delete 57 = .ok (.aload_n 0, 1) := by decide +kernel
theorem dX8_delete_58 : decode cX8_delete 58 = .ok (.getfield 24, 3) := by decide +kernel
theorem dX8_delete_61 : decode cX8_delete 61 = .ok (.iload 4, 2) := by decide +kernel
theorem dX8_delete_63 : decode cX8_delete 63 = .ok (.iconst 1, 1) := by decide +kernel
theorem dX8_delete_64 : decode cX8_delete 64 = .ok (.iadd, 1) := by decide +kernel
theorem dX8_delete_65 : decode cX8_delete 65 = .ok (.iaload, 1) := by decide +kernel
theorem dX8_delete_66 : decode cX8_delete 66 = .ok (.iastore, 1) := by decide +kernel
theorem dX8_delete_67 : decode cX8_delete 67 = .ok (.aload_n 0, 1) := by decide +kernel
theorem dX8_delete_68 : decode cX8_delete 68 = .ok (.getfield 27, 3) := by decide +kernel
theorem dX8_delete_71 : decode cX8_delete 71 = .ok (.iload 4, 2) := by decide +kernel
theorem dX8_delete_73 : decode cX8_delete 73 = .ok (.aload_n 0, 1) := by decide +kernel
theorem dX8_delete_74 : decode cX8_delete 74 = .ok (.getfield 27, 3) := by decide +kernel
theorem dX8_delete_77 : decode cX8_delete 77 = .ok (.iload 4, 2) := by decide +kernel
theorem dX8_delete_79 : decode cX8_delete 79 = .ok (.iconst 1, 1) := by decide +kernel
theorem dX8_delete_80 : decode cX8_delete 80 = .ok (.iadd, 1) := by decide +kernel
theorem dX8_delete_81 : decode cX8_delete 81 = .ok (.iaload, 1) := by decide +kernel
theorem dX8_delete_82 : decode cX8_delete 82 = .ok (.iastore, 1) := by decide +kernel
theorem dX8_delete_83 : decode cX8_delete 83 = .ok (.iinc 4 1, 3) := by decide +kernel
theorem dX8_delete_86 : decode cX8_delete 86 = .ok (.goto (-41), 3) := by decide +kernel
theorem dX8_delete_89 : decode cX8_delete 89 = .ok (.aload_n 0, 1) := by decide +kernel
theorem dX8_delete_90 : decode cX8_delete 90 = .ok (.iload_n 1, 1) := by decide +kernel
theorem dX8_delete_91 : decode cX8_delete 91 = .ok (.invokevirtual 86, 3) := by decide +kernel
theorem dX8_delete_94 : decode cX8_delete 94 = .ok (.return_, 1) := by decide +kernel
theorem dX8_freeNumber_0 : decode cX8_freeNumber 0 = .ok (.iconst 0, 1) := by decide +kernel
theorem dX8_freeNumber_1 : decode cX8_freeNumber 1 = .ok (.istore_n 1, 1) := by decide +kernel
theorem dX8_freeNumber_2 : decode cX8_freeNumber 2 = .ok (.iload_n 1, 1) := by decide +kernel
theorem dX8_freeNumber_3 : decode cX8_freeNumber 3 = .ok (.bipush 8, 2) := by decide +kernel
theorem dX8_freeNumber_5 : decode cX8_freeNumber 5 = .ok (.if_icmp .ge 19, 3) := by decide +kernel
theorem dX8_freeNumber_8 : decode cX8_freeNumber 8 = .ok (.aload_n 0, 1) := by decide +kernel
theorem dX8_freeNumber_9 : decode cX8_freeNumber 9 = .ok (.iload_n 1, 1) := by decide +kernel
theorem dX8_freeNumber_10 : decode cX8_freeNumber 10 = .ok (.invokevirtual 67, 3) := by decide +kernel
theorem dX8_freeNumber_13 : decode cX8_freeNumber 13 = .ok (.ifCond .ne 5, 3) := by decide +kernel
theorem dX8_freeNumber_16 : decode cX8_freeNumber 16 = .ok (.iload_n 1, 1) := by decide +kernel
theorem dX8_freeNumber_17 : decode cX8_freeNumber 17 = .ok (.ireturn, 1) := by decide +kernel
theorem dX8_freeNumber_18 : decode cX8_freeNumber 18 = .ok (.iinc 1 1, 3) := by decide +kernel
theorem dX8_freeNumber_21 : decode cX8_freeNumber 21 = .ok (.goto (-19), 3) := by decide +kernel
theorem dX8_freeNumber_24 : decode cX8_freeNumber 24 = .ok (.iconst (-1), 1) := by decide +kernel
theorem dX8_freeNumber_25 : decode cX8_freeNumber 25 = .ok (.ireturn, 1) := by decide +kernel
def m_x8_become_v4 (s : MS) : Option MS :=
  stn (sI s 1060 (gI s 1420)) (fun s1 => stn (sI s1 1061 (gI s1 1421)) (fun s2 => stn (sL s2 1062 (gL s2 1422)) (fun s3 => cpg 0 0 48 48 48 (stn (sA s3 54 (va_cpy (gA s3 72) (gA s3 54) (Int32.toNatClampNeg 0) (Int32.toNatClampNeg 0) (Int32.toNatClampNeg 48))) (fun s5 => cpg 0 0 48 48 48 (stn (sA s5 55 (va_cpy (gA s5 73) (gA s5 55) (Int32.toNatClampNeg 0) (Int32.toNatClampNeg 0) (Int32.toNatClampNeg 48))) (fun s7 => cpg 0 0 48 48 48 (stn (sA s7 56 (va_cpy (gA s7 74) (gA s7 56) (Int32.toNatClampNeg 0) (Int32.toNatClampNeg 0) (Int32.toNatClampNeg 48))) (fun s9 => cpg 0 0 48 48 48 (stn (sA s9 57 (va_cpy (gA s9 75) (gA s9 57) (Int32.toNatClampNeg 0) (Int32.toNatClampNeg 0) (Int32.toNatClampNeg 48))) (fun s11 => cpg 0 0 288 288 288 (stn (sA s11 58 (va_cpy (gA s11 76) (gA s11 58) (Int32.toNatClampNeg 0) (Int32.toNatClampNeg 0) (Int32.toNatClampNeg 288))) (fun s13 => cpg 0 0 288 288 288 (stn (sA s13 59 (va_cpy (gA s13 77) (gA s13 59) (Int32.toNatClampNeg 0) (Int32.toNatClampNeg 0) (Int32.toNatClampNeg 288))) (fun s15 => cpg 0 0 8 8 8 (stn (sA s15 60 (va_cpy (gA s15 78) (gA s15 60) (Int32.toNatClampNeg 0) (Int32.toNatClampNeg 0) (Int32.toNatClampNeg 8))) (fun s17 => cpg 0 0 8 8 8 (stn (sA s17 61 (va_cpy (gA s17 79) (gA s17 61) (Int32.toNatClampNeg 0) (Int32.toNatClampNeg 0) (Int32.toNatClampNeg 8))) (fun s19 => some s19)))))))))))))))))))
set_option maxHeartbeats 4000000 in
set_option maxRecDepth 100000 in
theorem k_x8_become_v4 (l : Launch) (D : va_G) (a : Nat → Nat) (sz : Nat) (s : MS) (o : MS) (h : m_x8_become_v4 s = some o) : yWv l yX8_become cX8_become 2 none { frames := 1, cells := 0, slots := 0, locals := 60 } D sz [.ref (a 53), .ref (a 71)] (CS D a s) (CS D a o) := by
  refine Met.ofW (cc := cX8_become) (maxL := 2) (ret := none) (by decide) rfl ?_
  intro p e s₀ m args below meth c s₁ B hml hv
  obtain ⟨rfl, ⟨hsz, hP, hK, hD0⟩, hN⟩ := hv
  have hx := B.exec
  have hb := B.bytes
  have hr := B.returns
  have hts := atoms_spec (ws := wz yX8_become cX8_become 2 none) B.pre
  have ht : ∀ w ∈ lw_gd, w.before _ s₀ = true := fun w h => hts w (List.mem_cons_of_mem _ h)
  have hown : s₀.vm.findClass RX8 = some m.cls := findClass_of_methodNamed B.named
  have hlocks := B.notSynchronized
  subst hsz
  have hD := hD0.self (sz := s₀.heap.size)
  generalize hAe : va_A (CS D a s) s₀.heap.size = A at hD ⊢
  have hA : ∀ q : Nat, s₀.heap.size ≤ q → A q := fun q h => by rw [← hAe]; exact Or.inr h
  have hS : va_S A s₀.heap s₀.heap [] := va_S.rf
  have hDD : ∀ t : MS, va_D A (CS D a t) := fun t => CW_D t hD
  have hl := lv_entry ([.ref (a 53), .ref (a 71)]) (n := 2) (Nat.le_of_ble_eq_true rfl)
  rw [lg_entry_eq]
  generalize (lg_sl ([.ref (a 53), .ref (a 71)]) ++ List.replicate (2 - (lg_sl ([.ref (a 53), .ref (a 71)])).length) Slot.unset).toArray = ls at hl ⊢
  have hl : lv_has ls 2 [(0, .ref (a 53)), (1, .ref (a 71))] := hl
  unfold m_x8_become_v4 at h
  refine lv_aload_n hx hb dX8_become_0 rfl (lv_at hl 0 rfl) ?_
  refine lv_aload_n hx hb dX8_become_1 rfl (lv_at hl 1 rfl) ?_
  refine va_get (D := D) (ci := 8) (v := .int (gI s 1420)) (C := RX8) (T := TX8) (N := 11) hx hb ht inX8 hown hK hP 71 CW_71 rfl 0 (by decide) (ht (.fieldLink RX8 40 "CloneVolumes$State" "blocks" "I") fl_X8_40) (fun _ h9 => h9) rfl dX8_become_2 ?_
  refine ya_put (D := D) (ci := 8) (v := .int (gI s 1420)) (ty := .int) (C := RX8) (T := TX8) (N := 11) hx hb ht inX8 tyX8 tyX8_ok nmX8 hown hK hP (hDD _) hS 53 CW_53 rfl 0 (by decide) (ht (.fieldLink RX8 40 "CloneVolumes$State" "blocks" "I") fl_X8_40) (fun _ h9 => h9) rfl (by decide +kernel) rfl rfl (Nat.le_of_ble_eq_true rfl) dX8_become_5 (CW_w53_0 _) (fun H locs hP hS => ?_)
  obtain ⟨s1, hs1, h⟩ := st_e h
  rw [hs1] at hP
  refine lv_aload_n hx hb dX8_become_8 rfl (lv_at hl 0 rfl) ?_
  refine lv_aload_n hx hb dX8_become_9 rfl (lv_at hl 1 rfl) ?_
  refine va_get (D := D) (ci := 8) (v := .int (gI s1 1421)) (C := RX8) (T := TX8) (N := 11) hx hb ht inX8 hown hK hP 71 CW_71 rfl 1 (by decide) (ht (.fieldLink RX8 44 "CloneVolumes$State" "spent" "I") fl_X8_44) (fun _ h9 => h9) rfl dX8_become_10 ?_
  refine ya_put (D := D) (ci := 8) (v := .int (gI s1 1421)) (ty := .int) (C := RX8) (T := TX8) (N := 11) hx hb ht inX8 tyX8 tyX8_ok nmX8 hown hK hP (hDD _) hS 53 CW_53 rfl 1 (by decide) (ht (.fieldLink RX8 44 "CloneVolumes$State" "spent" "I") fl_X8_44) (fun _ h9 => h9) rfl (by decide +kernel) rfl rfl (Nat.le_of_ble_eq_true rfl) dX8_become_13 (CW_w53_1 _) (fun H locs hP hS => ?_)
  obtain ⟨s2, hs2, h⟩ := st_e h
  rw [hs2] at hP
  refine lv_aload_n hx hb dX8_become_16 rfl (lv_at hl 0 rfl) ?_
  refine lv_aload_n hx hb dX8_become_17 rfl (lv_at hl 1 rfl) ?_
  refine va_get (D := D) (ci := 8) (v := .long (gL s2 1422)) (C := RX8) (T := TX8) (N := 11) hx hb ht inX8 hown hK hP 71 CW_71 rfl 2 (by decide) (ht (.fieldLink RX8 47 "CloneVolumes$State" "written" "J") fl_X8_47) (fun _ h9 => h9) rfl dX8_become_18 ?_
  refine ya_put (D := D) (ci := 8) (v := .long (gL s2 1422)) (ty := .long) (C := RX8) (T := TX8) (N := 11) hx hb ht inX8 tyX8 tyX8_ok nmX8 hown hK hP (hDD _) hS 53 CW_53 rfl 2 (by decide) (ht (.fieldLink RX8 47 "CloneVolumes$State" "written" "J") fl_X8_47) (fun _ h9 => h9) rfl (by decide +kernel) rfl rfl (Nat.le_of_ble_eq_true rfl) dX8_become_21 (CW_w53_2 _) (fun H locs hP hS => ?_)
  obtain ⟨s3, hs3, h⟩ := st_e h
  rw [hs3] at hP
  refine lv_aload_n hx hb dX8_become_24 rfl (lv_at hl 1 rfl) ?_
  refine va_get (D := D) (ci := 8) (v := .ref (a 72)) (C := RX8) (T := TX8) (N := 11) hx hb ht inX8 hown hK hP 71 CW_71 rfl 3 (by decide) (ht (.fieldLink RX8 9 "CloneVolumes$State" "count" "[I") fl_X8_9) (fun _ h9 => h9) rfl dX8_become_25 ?_
  refine lv_iconst (v := 0) hx hb dX8_become_28 (by decide) ?_
  refine lv_aload_n hx hb dX8_become_29 rfl (lv_at hl 0 rfl) ?_
  refine va_get (D := D) (ci := 8) (v := .ref (a 54)) (C := RX8) (T := TX8) (N := 11) hx hb ht inX8 hown hK hP 53 CW_53 rfl 3 (by decide) (ht (.fieldLink RX8 9 "CloneVolumes$State" "count" "[I") fl_X8_9) (fun _ h9 => h9) rfl dX8_become_30 ?_
  refine lv_iconst (v := 0) hx hb dX8_become_33 (by decide) ?_
  refine lv_bipush (v := 48) hx hb dX8_become_34 (by decide) ?_
  obtain ⟨hc4, h⟩ := cpg_e h
  refine ya_copyi hx hb (by rw [hml]; exact hl.1.symm) hown (ht _ ml_X8_51) (ht _ na_cpy) (ht _ st_cpy) (ht _ in_sys) hK hP (hDD _) hS 72 54 CW_72 CW_54 hc4 (Nat.le_of_ble_eq_true rfl) (Nat.le_of_ble_eq_true rfl) dX8_become_36 (CW_w54 _) (fun H locs hP hS => ?_)
  obtain ⟨s5, hs5, h⟩ := st_e h
  rw [hs5] at hP
  refine lv_aload_n hx hb dX8_become_39 rfl (lv_at hl 1 rfl) ?_
  refine va_get (D := D) (ci := 8) (v := .ref (a 73)) (C := RX8) (T := TX8) (N := 11) hx hb ht inX8 hown hK hP 71 CW_71 rfl 4 (by decide) (ht (.fieldLink RX8 15 "CloneVolumes$State" "saved" "[I") fl_X8_15) (fun _ h9 => h9) rfl dX8_become_40 ?_
  refine lv_iconst (v := 0) hx hb dX8_become_43 (by decide) ?_
  refine lv_aload_n hx hb dX8_become_44 rfl (lv_at hl 0 rfl) ?_
  refine va_get (D := D) (ci := 8) (v := .ref (a 55)) (C := RX8) (T := TX8) (N := 11) hx hb ht inX8 hown hK hP 53 CW_53 rfl 4 (by decide) (ht (.fieldLink RX8 15 "CloneVolumes$State" "saved" "[I") fl_X8_15) (fun _ h9 => h9) rfl dX8_become_45 ?_
  refine lv_iconst (v := 0) hx hb dX8_become_48 (by decide) ?_
  refine lv_bipush (v := 48) hx hb dX8_become_49 (by decide) ?_
  obtain ⟨hc6, h⟩ := cpg_e h
  refine ya_copyi hx hb (by rw [hml]; exact hl.1.symm) hown (ht _ ml_X8_51) (ht _ na_cpy) (ht _ st_cpy) (ht _ in_sys) hK hP (hDD _) hS 73 55 CW_73 CW_55 hc6 (Nat.le_of_ble_eq_true rfl) (Nat.le_of_ble_eq_true rfl) dX8_become_51 (CW_w55 _) (fun H locs hP hS => ?_)
  obtain ⟨s7, hs7, h⟩ := st_e h
  rw [hs7] at hP
  refine lv_aload_n hx hb dX8_become_54 rfl (lv_at hl 1 rfl) ?_
  refine va_get (D := D) (ci := 8) (v := .ref (a 74)) (C := RX8) (T := TX8) (N := 11) hx hb ht inX8 hown hK hP 71 CW_71 rfl 5 (by decide) (ht (.fieldLink RX8 18 "CloneVolumes$State" "level" "[I") fl_X8_18) (fun _ h9 => h9) rfl dX8_become_55 ?_
  refine lv_iconst (v := 0) hx hb dX8_become_58 (by decide) ?_
  refine lv_aload_n hx hb dX8_become_59 rfl (lv_at hl 0 rfl) ?_
  refine va_get (D := D) (ci := 8) (v := .ref (a 56)) (C := RX8) (T := TX8) (N := 11) hx hb ht inX8 hown hK hP 53 CW_53 rfl 5 (by decide) (ht (.fieldLink RX8 18 "CloneVolumes$State" "level" "[I") fl_X8_18) (fun _ h9 => h9) rfl dX8_become_60 ?_
  refine lv_iconst (v := 0) hx hb dX8_become_63 (by decide) ?_
  refine lv_bipush (v := 48) hx hb dX8_become_64 (by decide) ?_
  obtain ⟨hc8, h⟩ := cpg_e h
  refine ya_copyi hx hb (by rw [hml]; exact hl.1.symm) hown (ht _ ml_X8_51) (ht _ na_cpy) (ht _ st_cpy) (ht _ in_sys) hK hP (hDD _) hS 74 56 CW_74 CW_56 hc8 (Nat.le_of_ble_eq_true rfl) (Nat.le_of_ble_eq_true rfl) dX8_become_66 (CW_w56 _) (fun H locs hP hS => ?_)
  obtain ⟨s9, hs9, h⟩ := st_e h
  rw [hs9] at hP
  refine lv_aload_n hx hb dX8_become_69 rfl (lv_at hl 1 rfl) ?_
  refine va_get (D := D) (ci := 8) (v := .ref (a 75)) (C := RX8) (T := TX8) (N := 11) hx hb ht inX8 hown hK hP 71 CW_71 rfl 6 (by decide) (ht (.fieldLink RX8 21 "CloneVolumes$State" "size" "[I") fl_X8_21) (fun _ h9 => h9) rfl dX8_become_70 ?_
  refine lv_iconst (v := 0) hx hb dX8_become_73 (by decide) ?_
  refine lv_aload_n hx hb dX8_become_74 rfl (lv_at hl 0 rfl) ?_
  refine va_get (D := D) (ci := 8) (v := .ref (a 57)) (C := RX8) (T := TX8) (N := 11) hx hb ht inX8 hown hK hP 53 CW_53 rfl 6 (by decide) (ht (.fieldLink RX8 21 "CloneVolumes$State" "size" "[I") fl_X8_21) (fun _ h9 => h9) rfl dX8_become_75 ?_
  refine lv_iconst (v := 0) hx hb dX8_become_78 (by decide) ?_
  refine lv_bipush (v := 48) hx hb dX8_become_79 (by decide) ?_
  obtain ⟨hc10, h⟩ := cpg_e h
  refine ya_copyi hx hb (by rw [hml]; exact hl.1.symm) hown (ht _ ml_X8_51) (ht _ na_cpy) (ht _ st_cpy) (ht _ in_sys) hK hP (hDD _) hS 75 57 CW_75 CW_57 hc10 (Nat.le_of_ble_eq_true rfl) (Nat.le_of_ble_eq_true rfl) dX8_become_81 (CW_w57 _) (fun H locs hP hS => ?_)
  obtain ⟨s11, hs11, h⟩ := st_e h
  rw [hs11] at hP
  refine lv_aload_n hx hb dX8_become_84 rfl (lv_at hl 1 rfl) ?_
  refine va_get (D := D) (ci := 8) (v := .ref (a 76)) (C := RX8) (T := TX8) (N := 11) hx hb ht inX8 hown hK hP 71 CW_71 rfl 7 (by decide) (ht (.fieldLink RX8 24 "CloneVolumes$State" "keys" "[I") fl_X8_24) (fun _ h9 => h9) rfl dX8_become_85 ?_
  refine lv_iconst (v := 0) hx hb dX8_become_88 (by decide) ?_
  refine lv_aload_n hx hb dX8_become_89 rfl (lv_at hl 0 rfl) ?_
  refine va_get (D := D) (ci := 8) (v := .ref (a 58)) (C := RX8) (T := TX8) (N := 11) hx hb ht inX8 hown hK hP 53 CW_53 rfl 7 (by decide) (ht (.fieldLink RX8 24 "CloneVolumes$State" "keys" "[I") fl_X8_24) (fun _ h9 => h9) rfl dX8_become_90 ?_
  refine lv_iconst (v := 0) hx hb dX8_become_93 (by decide) ?_
  refine lv_sipush (v := 288) hx hb dX8_become_94 (by decide) ?_
  obtain ⟨hc12, h⟩ := cpg_e h
  refine ya_copyi hx hb (by rw [hml]; exact hl.1.symm) hown (ht _ ml_X8_51) (ht _ na_cpy) (ht _ st_cpy) (ht _ in_sys) hK hP (hDD _) hS 76 58 CW_76 CW_58 hc12 (Nat.le_of_ble_eq_true rfl) (Nat.le_of_ble_eq_true rfl) dX8_become_97 (CW_w58 _) (fun H locs hP hS => ?_)
  obtain ⟨s13, hs13, h⟩ := st_e h
  rw [hs13] at hP
  refine lv_aload_n hx hb dX8_become_100 rfl (lv_at hl 1 rfl) ?_
  refine va_get (D := D) (ci := 8) (v := .ref (a 77)) (C := RX8) (T := TX8) (N := 11) hx hb ht inX8 hown hK hP 71 CW_71 rfl 8 (by decide) (ht (.fieldLink RX8 27 "CloneVolumes$State" "values" "[I") fl_X8_27) (fun _ h9 => h9) rfl dX8_become_101 ?_
  refine lv_iconst (v := 0) hx hb dX8_become_104 (by decide) ?_
  refine lv_aload_n hx hb dX8_become_105 rfl (lv_at hl 0 rfl) ?_
  refine va_get (D := D) (ci := 8) (v := .ref (a 59)) (C := RX8) (T := TX8) (N := 11) hx hb ht inX8 hown hK hP 53 CW_53 rfl 8 (by decide) (ht (.fieldLink RX8 27 "CloneVolumes$State" "values" "[I") fl_X8_27) (fun _ h9 => h9) rfl dX8_become_106 ?_
  refine lv_iconst (v := 0) hx hb dX8_become_109 (by decide) ?_
  refine lv_sipush (v := 288) hx hb dX8_become_110 (by decide) ?_
  obtain ⟨hc14, h⟩ := cpg_e h
  refine ya_copyi hx hb (by rw [hml]; exact hl.1.symm) hown (ht _ ml_X8_51) (ht _ na_cpy) (ht _ st_cpy) (ht _ in_sys) hK hP (hDD _) hS 77 59 CW_77 CW_59 hc14 (Nat.le_of_ble_eq_true rfl) (Nat.le_of_ble_eq_true rfl) dX8_become_113 (CW_w59 _) (fun H locs hP hS => ?_)
  obtain ⟨s15, hs15, h⟩ := st_e h
  rw [hs15] at hP
  refine lv_aload_n hx hb dX8_become_116 rfl (lv_at hl 1 rfl) ?_
  refine va_get (D := D) (ci := 8) (v := .ref (a 78)) (C := RX8) (T := TX8) (N := 11) hx hb ht inX8 hown hK hP 71 CW_71 rfl 9 (by decide) (ht (.fieldLink RX8 30 "CloneVolumes$State" "roots" "[I") fl_X8_30) (fun _ h9 => h9) rfl dX8_become_117 ?_
  refine lv_iconst (v := 0) hx hb dX8_become_120 (by decide) ?_
  refine lv_aload_n hx hb dX8_become_121 rfl (lv_at hl 0 rfl) ?_
  refine va_get (D := D) (ci := 8) (v := .ref (a 60)) (C := RX8) (T := TX8) (N := 11) hx hb ht inX8 hown hK hP 53 CW_53 rfl 9 (by decide) (ht (.fieldLink RX8 30 "CloneVolumes$State" "roots" "[I") fl_X8_30) (fun _ h9 => h9) rfl dX8_become_122 ?_
  refine lv_iconst (v := 0) hx hb dX8_become_125 (by decide) ?_
  refine lv_bipush (v := 8) hx hb dX8_become_126 (by decide) ?_
  obtain ⟨hc16, h⟩ := cpg_e h
  refine ya_copyi hx hb (by rw [hml]; exact hl.1.symm) hown (ht _ ml_X8_51) (ht _ na_cpy) (ht _ st_cpy) (ht _ in_sys) hK hP (hDD _) hS 78 60 CW_78 CW_60 hc16 (Nat.le_of_ble_eq_true rfl) (Nat.le_of_ble_eq_true rfl) dX8_become_128 (CW_w60 _) (fun H locs hP hS => ?_)
  obtain ⟨s17, hs17, h⟩ := st_e h
  rw [hs17] at hP
  refine lv_aload_n hx hb dX8_become_131 rfl (lv_at hl 1 rfl) ?_
  refine va_get (D := D) (ci := 8) (v := .ref (a 79)) (C := RX8) (T := TX8) (N := 11) hx hb ht inX8 hown hK hP 71 CW_71 rfl 10 (by decide) (ht (.fieldLink RX8 33 "CloneVolumes$State" "savedRoots" "[I") fl_X8_33) (fun _ h9 => h9) rfl dX8_become_132 ?_
  refine lv_iconst (v := 0) hx hb dX8_become_135 (by decide) ?_
  refine lv_aload_n hx hb dX8_become_136 rfl (lv_at hl 0 rfl) ?_
  refine va_get (D := D) (ci := 8) (v := .ref (a 61)) (C := RX8) (T := TX8) (N := 11) hx hb ht inX8 hown hK hP 53 CW_53 rfl 10 (by decide) (ht (.fieldLink RX8 33 "CloneVolumes$State" "savedRoots" "[I") fl_X8_33) (fun _ h9 => h9) rfl dX8_become_137 ?_
  refine lv_iconst (v := 0) hx hb dX8_become_140 (by decide) ?_
  refine lv_bipush (v := 8) hx hb dX8_become_141 (by decide) ?_
  obtain ⟨hc18, h⟩ := cpg_e h
  refine ya_copyi hx hb (by rw [hml]; exact hl.1.symm) hown (ht _ ml_X8_51) (ht _ na_cpy) (ht _ st_cpy) (ht _ in_sys) hK hP (hDD _) hS 79 61 CW_79 CW_61 hc18 (Nat.le_of_ble_eq_true rfl) (Nat.le_of_ble_eq_true rfl) dX8_become_143 (CW_w61 _) (fun H locs hP hS => ?_)
  obtain ⟨s19, hs19, h⟩ := st_e h
  rw [hs19] at hP
  obtain rfl := Option.some.inj h
  exact W.vret hx hb hr (fun t ht hW => ⟨⟨(), rfl, trivial, by rw [ht]; exact hP, va_K.moved hW.alike hK, hDD _⟩, hS.F ht⟩) hS.2.2 dX8_become_146
def m_x1_tryPlant_J36 (x1 : Int32) (s2 : MS) : Option (Int32 × MS) :=
  bo x1 (some (x1, s2))
def m_x1_tryPlant (p0 : Int32) (p1 : Int32) (p2 : Int32) (s : MS) : Option (Int32 × MS) :=
  bn (m_x8_become_v3 s) (fun s5 => bn (m_x1_plant p0 p1 p2 s5) (fun qr8 => if qr8.1 = 0 then bn (m_x8_become_v4 qr8.2) (fun s11 => m_x1_tryPlant_J36 qr8.1 s11) else m_x1_tryPlant_J36 qr8.1 qr8.2))
set_option maxHeartbeats 4000000 in
set_option maxRecDepth 100000 in
theorem k_x1_tryPlant (l : Launch) (D : va_G) (a : Nat → Nat) (p0 : Int32) (p1 : Int32) (p2 : Int32) (sz : Nat) (s : MS) (o : (Int32 × MS)) (h : m_x1_tryPlant p0 p1 p2 s = some o) : yWi l yX1_tryPlant cX1_tryPlant 5 (some .boolean) { frames := 5, cells := 0, slots := 0, locals := 300 } D sz [.ref (a 49), .int p0, .int p1, .int p2] (CS D a s) (CS D a o.2) o.1 := by
  refine Met.ofW (cc := cX1_tryPlant) (maxL := 5) (ret := (some .boolean)) (by decide) rfl ?_
  intro p e s₀ m args below meth c s₁ B hml hv
  obtain ⟨rfl, ⟨hsz, hP, hK, hD0⟩, hN⟩ := hv
  have hx := B.exec
  have hb := B.bytes
  have hr := B.returns
  have hts := atoms_spec (ws := wz yX1_tryPlant cX1_tryPlant 5 (some .boolean)) B.pre
  have ht : ∀ w ∈ lw_gd, w.before _ s₀ = true := fun w h => hts w (List.mem_cons_of_mem _ h)
  have hown : s₀.vm.findClass RX1 = some m.cls := findClass_of_methodNamed B.named
  have hlocks := B.notSynchronized
  subst hsz
  have hD := hD0.self (sz := s₀.heap.size)
  generalize hAe : va_A (CS D a s) s₀.heap.size = A at hD ⊢
  have hA : ∀ q : Nat, s₀.heap.size ≤ q → A q := fun q h => by rw [← hAe]; exact Or.inr h
  have hS : va_S A s₀.heap s₀.heap [] := va_S.rf
  have hDD : ∀ t : MS, va_D A (CS D a t) := fun t => CW_D t hD
  have hl := lv_entry ([.ref (a 49), .int p0, .int p1, .int p2]) (n := 5) (Nat.le_of_ble_eq_true rfl)
  rw [lg_entry_eq]
  generalize (lg_sl ([.ref (a 49), .int p0, .int p1, .int p2]) ++ List.replicate (5 - (lg_sl ([.ref (a 49), .int p0, .int p1, .int p2])).length) Slot.unset).toArray = ls at hl ⊢
  have hl : lv_has ls 5 [(0, .ref (a 49)), (1, .int p0), (2, .int p1), (3, .int p2)] := hl
  unfold m_x1_tryPlant at h
  refine y_head (pcJ := 36) (σ := Int32 × MS) (fun u H locs ls => va_P D vwCl (CS D a u.2) H ∧ va_S A s₀.heap H locs ∧ lv_has ls 5 [(4, .int u.1)] ∧ m_x1_tryPlant_J36 u.1 u.2 = some o) (fun u => []) (fun u H locs ls hI => ?_) (fun J36 => ?_)
  · obtain ⟨hP, hS, hl, h⟩ := hI
    obtain ⟨x1, s2⟩ := u
    have hP : va_P D vwCl (CS D a s2) H := hP
    have hl : lv_has ls 5 [(4, .int x1)] := hl
    have h : m_x1_tryPlant_J36 x1 s2 = some o := h
    unfold m_x1_tryPlant_J36 at h
    refine lv_iload hx hb dX1_tryPlant_36 (lv_at hl 0 rfl) ?_
    obtain ⟨hb3, h⟩ := bo_e h
    obtain rfl := Option.some.inj h
    exact W.zret (v := x1) hx hb hr (bo_n hb3) (fun t ht hW => ⟨⟨_, (), rfl, rfl, by rw [ht]; exact hP, va_K.moved hW.alike hK, hDD _⟩, hS.F ht⟩) hS.2.2 dX1_tryPlant_38
  refine lv_aload_n hx hb dX1_tryPlant_0 rfl (lv_at hl 0 rfl) ?_
  refine va_get (D := D) (ci := 1) (v := .ref (a 71)) (C := RX1) (T := TX1) (N := 9) hx hb ht inX1 hown hK hP 49 CW_49 rfl 2 (by decide) (ht (.fieldLink RX1 21 "CloneVolumes$Forest" "inner" "LCloneVolumes$State;") fl_X1_21) (fun _ h9 => h9) rfl dX1_tryPlant_1 ?_
  refine lv_aload_n hx hb dX1_tryPlant_4 rfl (lv_at hl 0 rfl) ?_
  refine va_get (D := D) (ci := 1) (v := .ref (a 53)) (C := RX1) (T := TX1) (N := 9) hx hb ht inX1 hown hK hP 49 CW_49 rfl 0 (by decide) (ht (.fieldLink RX1 12 "CloneVolumes$Forest" "now" "LCloneVolumes$State;") fl_X1_12) (fun _ h9 => h9) rfl dX1_tryPlant_5 ?_
  obtain ⟨s5, hc4, h⟩ := bn_e h
  refine ywVv (As := [.ref (a 53)]) (rest := []) (C := RX8) (n := 1) (ws' := CS D a s5) ⟨hx, hb, hml, hown, ht⟩ (k_x8_become_v3 l D a _ _ _ hc4) (zgV ml_X1_100 im_X8_become se_X8_become in_X8 co_X8_become) rfl rfl (by decide +kernel) ⟨Nat.le_of_ble_eq_true rfl, Nat.le_of_ble_eq_true rfl⟩ hN hK hP (hDD _) hS hA 71 CW_71 rfl rfl rfl hl.1 rfl (Nat.le_of_ble_eq_true rfl) dX1_tryPlant_8 ⟨Nat.le_of_ble_eq_true rfl, Nat.le_of_ble_eq_true rfl⟩ (fun H locs hP hS => ?_)
  refine lv_aload_n hx hb dX1_tryPlant_11 rfl (lv_at hl 0 rfl) ?_
  refine lv_iload_n hx hb dX1_tryPlant_12 rfl (lv_at hl 1 rfl) ?_
  refine lv_iload_n hx hb dX1_tryPlant_13 rfl (lv_at hl 2 rfl) ?_
  refine lv_iload_n hx hb dX1_tryPlant_14 rfl (lv_at hl 3 rfl) ?_
  obtain ⟨⟨r8, s7⟩, hc6, h⟩ := bn_e h
  refine ywV (r0 := r8) (As := [.int p0, .int p1, .int p2]) (rest := []) (C := RX1) (n := 3) (ws' := CS D a s7) ⟨hx, hb, hml, hown, ht⟩ (k_x1_plant l D a p0 p1 p2 _ _ _ hc6) (zgV ml_X1_141 im_X1_plant se_X1_plant in_X1 co_X1_plant) rfl rfl (by decide +kernel) ⟨Nat.le_of_ble_eq_true rfl, Nat.le_of_ble_eq_true rfl⟩ hN hK hP (hDD _) hS hA 49 CW_49 rfl rfl rfl hl.1 rfl (Nat.le_of_ble_eq_true rfl) dX1_tryPlant_15 ⟨Nat.le_of_ble_eq_true rfl, Nat.le_of_ble_eq_true rfl⟩ (fun H locs hP hS => ?_)
  refine lv_istore (lv' := [(4, .int r8), (0, .ref (a 49)), (1, .int p0), (2, .int p1), (3, .int p2)]) hx hb dX1_tryPlant_18 hl (by decide) rfl (fun ls hl => ?_)
  refine lv_iload hx hb dX1_tryPlant_20 (lv_at hl 0 rfl) ?_
  refine lv_if_ne (tgt := 36) hx hb dX1_tryPlant_22 (by decide) (fun c9 => ?_) (fun c9 => ?_)
  · have h := if_f c9 h
    exact J36 (r8, s7) _ _ _ ⟨hP, hS, lv_sub hl [0] rfl, h⟩
  · have h := if_t c9 h
    refine lv_aload_n hx hb dX1_tryPlant_25 rfl (lv_at hl 1 rfl) ?_
    refine va_get (D := D) (ci := 1) (v := .ref (a 53)) (C := RX1) (T := TX1) (N := 9) hx hb ht inX1 hown hK hP 49 CW_49 rfl 0 (by decide) (ht (.fieldLink RX1 12 "CloneVolumes$Forest" "now" "LCloneVolumes$State;") fl_X1_12) (fun _ h9 => h9) rfl dX1_tryPlant_26 ?_
    refine lv_aload_n hx hb dX1_tryPlant_29 rfl (lv_at hl 1 rfl) ?_
    refine va_get (D := D) (ci := 1) (v := .ref (a 71)) (C := RX1) (T := TX1) (N := 9) hx hb ht inX1 hown hK hP 49 CW_49 rfl 2 (by decide) (ht (.fieldLink RX1 21 "CloneVolumes$Forest" "inner" "LCloneVolumes$State;") fl_X1_21) (fun _ h9 => h9) rfl dX1_tryPlant_30 ?_
    obtain ⟨s11, hc10, h⟩ := bn_e h
    refine ywVv (As := [.ref (a 71)]) (rest := []) (C := RX8) (n := 1) (ws' := CS D a s11) ⟨hx, hb, hml, hown, ht⟩ (k_x8_become_v4 l D a _ _ _ hc10) (zgV ml_X1_100 im_X8_become se_X8_become in_X8 co_X8_become) rfl rfl (by decide +kernel) ⟨Nat.le_of_ble_eq_true rfl, Nat.le_of_ble_eq_true rfl⟩ hN hK hP (hDD _) hS hA 53 CW_53 rfl rfl rfl hl.1 rfl (Nat.le_of_ble_eq_true rfl) dX1_tryPlant_33 ⟨Nat.le_of_ble_eq_true rfl, Nat.le_of_ble_eq_true rfl⟩ (fun H locs hP hS => ?_)
    exact J36 (r8, s11) _ _ _ ⟨hP, hS, lv_sub hl [0] rfl, h⟩
def m_x8_delete_b45 (lr45 : Int32 → Int32 → Int32 → MS → Option MS) (x1 : Int32) (x2 : Int32) (x3 : Int32) (s4 : MS) : Option MS :=
  if x2 ≤ x3 then bn (m_x8_mark x1 s4) (fun s7 => some s7) else rdI (gA s4 58) 288 (x3 + 1) (fun y8 => inb 288 x3 (stn (sA s4 58 (upd (gA s4 58) (Int32.toNatClampNeg x3) y8)) (fun s10 => rdI (gA s10 59) 288 (x3 + 1) (fun y11 => inb 288 x3 (stn (sA s10 59 (upd (gA s10 59) (Int32.toNatClampNeg x3) y11)) (fun s13 => lr45 x1 x2 (x3 + 1) s13))))))
def m_x8_delete_L45 (n : Nat) : Int32 → Int32 → Int32 → MS → Option MS := lp (fun _ _ _ _ => none) (m_x8_delete_b45) n
def m_x8_delete_J14 (s14 : MS) : Option MS :=
  some s14
def m_x8_delete (p0 : Int32) (p1 : Int32) (s : MS) : Option MS :=
  if p1 < 0 then m_x8_delete_J14 s else rdI (gA s 57) 48 p0 (fun y16 => if p1 < y16 then rdI (gA s 57) 48 p0 (fun y18 => inb 48 p0 (stn (sA s 57 (upd (gA s 57) (Int32.toNatClampNeg p0) (y18 - 1))) (fun s20 => rdI (gA s20 57) 48 p0 (fun y21 => bn (m_x8_slot p0 y21 s20) (fun r23 => bn (m_x8_slot p0 p1 s20) (fun r25 => m_x8_delete_L45 FU p0 r23 r25 s20)))))) else m_x8_delete_J14 s)
set_option maxHeartbeats 4000000 in
set_option maxRecDepth 100000 in
theorem k_x8_delete (l : Launch) (D : va_G) (a : Nat → Nat) (p0 : Int32) (p1 : Int32) (sz : Nat) (s : MS) (o : MS) (h : m_x8_delete p0 p1 s = some o) : yWv l yX8_delete cX8_delete 5 none { frames := 1, cells := 0, slots := 0, locals := 60 } D sz [.ref (a 53), .int p0, .int p1] (CS D a s) (CS D a o) := by
  refine Met.ofW (cc := cX8_delete) (maxL := 5) (ret := none) (by decide) rfl ?_
  intro p e s₀ m args below meth c s₁ B hml hv
  obtain ⟨rfl, ⟨hsz, hP, hK, hD0⟩, hN⟩ := hv
  have hx := B.exec
  have hb := B.bytes
  have hr := B.returns
  have hts := atoms_spec (ws := wz yX8_delete cX8_delete 5 none) B.pre
  have ht : ∀ w ∈ lw_gd, w.before _ s₀ = true := fun w h => hts w (List.mem_cons_of_mem _ h)
  have hown : s₀.vm.findClass RX8 = some m.cls := findClass_of_methodNamed B.named
  have hlocks := B.notSynchronized
  subst hsz
  have hD := hD0.self (sz := s₀.heap.size)
  generalize hAe : va_A (CS D a s) s₀.heap.size = A at hD ⊢
  have hA : ∀ q : Nat, s₀.heap.size ≤ q → A q := fun q h => by rw [← hAe]; exact Or.inr h
  have hS : va_S A s₀.heap s₀.heap [] := va_S.rf
  have hDD : ∀ t : MS, va_D A (CS D a t) := fun t => CW_D t hD
  have hl := lv_entry ([.ref (a 53), .int p0, .int p1]) (n := 5) (Nat.le_of_ble_eq_true rfl)
  rw [lg_entry_eq]
  generalize (lg_sl ([.ref (a 53), .int p0, .int p1]) ++ List.replicate (5 - (lg_sl ([.ref (a 53), .int p0, .int p1])).length) Slot.unset).toArray = ls at hl ⊢
  have hl : lv_has ls 5 [(0, .ref (a 53)), (1, .int p0), (2, .int p1)] := hl
  unfold m_x8_delete at h
  refine y_loop (pcJ := 45) (σ := Int32 × Int32 × Int32 × MS) (fun n u H locs ls => va_P D vwCl (CS D a u.2.2.2) H ∧ va_S A s₀.heap H locs ∧ lv_has ls 5 [(0, .ref (a 53)), (1, .int u.1), (3, .int u.2.1), (4, .int u.2.2.1)] ∧ m_x8_delete_L45 n u.1 u.2.1 u.2.2.1 u.2.2.2 = some o) (fun u => []) (fun u H locs ls hI => by obtain ⟨_, _, _, h⟩ := hI; cases h) (fun n45 ih45 u H locs ls hI => ?_) (fun J45 => ?_)
  · obtain ⟨hP, hS, hl, h⟩ := hI
    obtain ⟨x1, x2, x3, s4⟩ := u
    have hP : va_P D vwCl (CS D a s4) H := hP
    have hl : lv_has ls 5 [(0, .ref (a 53)), (1, .int x1), (3, .int x2), (4, .int x3)] := hl
    have h : m_x8_delete_b45 (m_x8_delete_L45 n45) x1 x2 x3 s4 = some o := h
    unfold m_x8_delete_b45 at h
    refine lv_iload hx hb dX8_delete_45 (lv_at hl 3 rfl) ?_
    refine lv_iload_n hx hb dX8_delete_47 rfl (lv_at hl 2 rfl) ?_
    refine lv_icmp_ge (tgt := 89) hx hb dX8_delete_48 (by decide) (fun c5 => ?_) (fun c5 => ?_)
    · have h := if_t c5 h
      refine lv_aload_n hx hb dX8_delete_89 rfl (lv_at hl 0 rfl) ?_
      refine lv_iload_n hx hb dX8_delete_90 rfl (lv_at hl 1 rfl) ?_
      obtain ⟨s7, hc6, h⟩ := bn_e h
      refine ywVv (As := [.int x1]) (rest := []) (C := RX8) (n := 1) (ws' := CS D a s7) ⟨hx, hb, hml, hown, ht⟩ (k_x8_mark l D a x1 _ _ _ hc6) (zgV ml_X8_86 im_X8_mark se_X8_mark in_X8 co_X8_mark) rfl rfl (by decide +kernel) ⟨Nat.le_of_ble_eq_true rfl, Nat.le_of_ble_eq_true rfl⟩ hN hK hP (hDD _) hS hA 53 CW_53 rfl rfl rfl hl.1 rfl (Nat.le_of_ble_eq_true rfl) dX8_delete_91 ⟨Nat.le_of_ble_eq_true rfl, Nat.le_of_ble_eq_true rfl⟩ (fun H locs hP hS => ?_)
      obtain rfl := Option.some.inj h
      exact W.vret hx hb hr (fun t ht hW => ⟨⟨(), rfl, trivial, by rw [ht]; exact hP, va_K.moved hW.alike hK, hDD _⟩, hS.F ht⟩) hS.2.2 dX8_delete_94
    · have h := if_f c5 h
      refine lv_aload_n hx hb dX8_delete_51 rfl (lv_at hl 0 rfl) ?_
      refine va_get (D := D) (ci := 8) (v := .ref (a 58)) (C := RX8) (T := TX8) (N := 11) hx hb ht inX8 hown hK hP 53 CW_53 rfl 7 (by decide) (ht (.fieldLink RX8 24 "CloneVolumes$State" "keys" "[I") fl_X8_24) (fun _ h9 => h9) rfl dX8_delete_52 ?_
      refine lv_iload hx hb dX8_delete_55 (lv_at hl 3 rfl) ?_
      refine lv_aload_n hx hb dX8_delete_57 rfl (lv_at hl 0 rfl) ?_
      refine va_get (D := D) (ci := 8) (v := .ref (a 58)) (C := RX8) (T := TX8) (N := 11) hx hb ht inX8 hown hK hP 53 CW_53 rfl 7 (by decide) (ht (.fieldLink RX8 24 "CloneVolumes$State" "keys" "[I") fl_X8_24) (fun _ h9 => h9) rfl dX8_delete_58 ?_
      refine lv_iload hx hb dX8_delete_61 (lv_at hl 3 rfl) ?_
      refine lv_iconst (v := 1) hx hb dX8_delete_63 (by decide) ?_
      refine lv_iadd hx hb dX8_delete_64 ?_
      obtain ⟨y8, ey8, iy8, h⟩ := rdI_e h
      refine ya_iald hx hb hK hP 58 0 CW_58 rfl ey8 iy8 dX8_delete_65 ?_
      obtain ⟨hi9, h⟩ := inb_e h
      refine ya_iast hx hb hK hP (hDD _) hS 58 0 CW_58 rfl hi9 dX8_delete_66 (CW_w58 _) (fun H locs hP hS => ?_)
      obtain ⟨s10, hs10, h⟩ := st_e h
      rw [hs10] at hP
      refine lv_aload_n hx hb dX8_delete_67 rfl (lv_at hl 0 rfl) ?_
      refine va_get (D := D) (ci := 8) (v := .ref (a 59)) (C := RX8) (T := TX8) (N := 11) hx hb ht inX8 hown hK hP 53 CW_53 rfl 8 (by decide) (ht (.fieldLink RX8 27 "CloneVolumes$State" "values" "[I") fl_X8_27) (fun _ h9 => h9) rfl dX8_delete_68 ?_
      refine lv_iload hx hb dX8_delete_71 (lv_at hl 3 rfl) ?_
      refine lv_aload_n hx hb dX8_delete_73 rfl (lv_at hl 0 rfl) ?_
      refine va_get (D := D) (ci := 8) (v := .ref (a 59)) (C := RX8) (T := TX8) (N := 11) hx hb ht inX8 hown hK hP 53 CW_53 rfl 8 (by decide) (ht (.fieldLink RX8 27 "CloneVolumes$State" "values" "[I") fl_X8_27) (fun _ h9 => h9) rfl dX8_delete_74 ?_
      refine lv_iload hx hb dX8_delete_77 (lv_at hl 3 rfl) ?_
      refine lv_iconst (v := 1) hx hb dX8_delete_79 (by decide) ?_
      refine lv_iadd hx hb dX8_delete_80 ?_
      obtain ⟨y11, ey11, iy11, h⟩ := rdI_e h
      refine ya_iald hx hb hK hP 59 0 CW_59 rfl ey11 iy11 dX8_delete_81 ?_
      obtain ⟨hi12, h⟩ := inb_e h
      refine ya_iast hx hb hK hP (hDD _) hS 59 0 CW_59 rfl hi12 dX8_delete_82 (CW_w59 _) (fun H locs hP hS => ?_)
      obtain ⟨s13, hs13, h⟩ := st_e h
      rw [hs13] at hP
      refine lv_iinc (v := x3 + 1) (lv' := [(4, .int (x3 + 1)), (0, .ref (a 53)), (1, .int x1), (3, .int x2)]) hx hb dX8_delete_83 hl (k := 3) rfl rfl (by decide) rfl (fun ls hl => ?_)
      refine lv_goto (tgt := 45) hx hb dX8_delete_86 (by decide) ?_
      exact ih45 (x1, x2, x3 + 1, s13) _ _ _ ⟨hP, hS, lv_sub hl [1, 2, 3, 0] rfl, h⟩
  refine y_head (pcJ := 14) (σ := MS) (fun u H locs ls => va_P D vwCl (CS D a u) H ∧ va_S A s₀.heap H locs ∧ lv_has ls 5 [] ∧ m_x8_delete_J14 u = some o) (fun u => []) (fun u H locs ls hI => ?_) (fun J14 => ?_)
  · obtain ⟨hP, hS, hl, h⟩ := hI
    obtain ⟨s14, rfl⟩ : ∃ z, z = u := ⟨u, rfl⟩
    have hP : va_P D vwCl (CS D a s14) H := hP
    have hl : lv_has ls 5 [] := hl
    have h : m_x8_delete_J14 s14 = some o := h
    unfold m_x8_delete_J14 at h
    obtain rfl := Option.some.inj h
    exact W.vret hx hb hr (fun t ht hW => ⟨⟨(), rfl, trivial, by rw [ht]; exact hP, va_K.moved hW.alike hK, hDD _⟩, hS.F ht⟩) hS.2.2 dX8_delete_14
  refine lv_iload_n hx hb dX8_delete_0 rfl (lv_at hl 2 rfl) ?_
  refine lv_if_lt (tgt := 14) hx hb dX8_delete_1 (by decide) (fun c15 => ?_) (fun c15 => ?_)
  · have h := if_t c15 h
    exact J14 s _ _ _ ⟨hP, hS, lv_sub hl [] rfl, h⟩
  · have h := if_f c15 h
    refine lv_iload_n hx hb dX8_delete_4 rfl (lv_at hl 2 rfl) ?_
    refine lv_aload_n hx hb dX8_delete_5 rfl (lv_at hl 0 rfl) ?_
    refine va_get (D := D) (ci := 8) (v := .ref (a 57)) (C := RX8) (T := TX8) (N := 11) hx hb ht inX8 hown hK hP 53 CW_53 rfl 6 (by decide) (ht (.fieldLink RX8 21 "CloneVolumes$State" "size" "[I") fl_X8_21) (fun _ h9 => h9) rfl dX8_delete_6 ?_
    refine lv_iload_n hx hb dX8_delete_9 rfl (lv_at hl 1 rfl) ?_
    obtain ⟨y16, ey16, iy16, h⟩ := rdI_e h
    refine ya_iald hx hb hK hP 57 0 CW_57 rfl ey16 iy16 dX8_delete_10 ?_
    refine lv_icmp_lt (tgt := 15) hx hb dX8_delete_11 (by decide) (fun c17 => ?_) (fun c17 => ?_)
    · have h := if_t c17 h
      refine lv_aload_n hx hb dX8_delete_15 rfl (lv_at hl 0 rfl) ?_
      refine va_get (D := D) (ci := 8) (v := .ref (a 57)) (C := RX8) (T := TX8) (N := 11) hx hb ht inX8 hown hK hP 53 CW_53 rfl 6 (by decide) (ht (.fieldLink RX8 21 "CloneVolumes$State" "size" "[I") fl_X8_21) (fun _ h9 => h9) rfl dX8_delete_16 ?_
      refine lv_iload_n hx hb dX8_delete_19 rfl (lv_at hl 1 rfl) ?_
      refine lv_dup2_11 hx hb dX8_delete_20 rfl rfl ?_
      obtain ⟨y18, ey18, iy18, h⟩ := rdI_e h
      refine ya_iald hx hb hK hP 57 0 CW_57 rfl ey18 iy18 dX8_delete_21 ?_
      refine lv_iconst (v := 1) hx hb dX8_delete_22 (by decide) ?_
      refine lv_isub hx hb dX8_delete_23 ?_
      obtain ⟨hi19, h⟩ := inb_e h
      refine ya_iast hx hb hK hP (hDD _) hS 57 0 CW_57 rfl hi19 dX8_delete_24 (CW_w57 _) (fun H locs hP hS => ?_)
      obtain ⟨s20, hs20, h⟩ := st_e h
      rw [hs20] at hP
      refine lv_aload_n hx hb dX8_delete_25 rfl (lv_at hl 0 rfl) ?_
      refine lv_iload_n hx hb dX8_delete_26 rfl (lv_at hl 1 rfl) ?_
      refine lv_aload_n hx hb dX8_delete_27 rfl (lv_at hl 0 rfl) ?_
      refine va_get (D := D) (ci := 8) (v := .ref (a 57)) (C := RX8) (T := TX8) (N := 11) hx hb ht inX8 hown hK hP 53 CW_53 rfl 6 (by decide) (ht (.fieldLink RX8 21 "CloneVolumes$State" "size" "[I") fl_X8_21) (fun _ h9 => h9) rfl dX8_delete_28 ?_
      refine lv_iload_n hx hb dX8_delete_31 rfl (lv_at hl 1 rfl) ?_
      obtain ⟨y21, ey21, iy21, h⟩ := rdI_e h
      refine ya_iald hx hb hK hP 57 0 CW_57 rfl ey21 iy21 dX8_delete_32 ?_
      obtain ⟨r23, hc22, h⟩ := bn_e h
      refine ycV (As := [.int p0, .int y21]) (rest := []) (C := RX8) (n := 2) ⟨hx, hb, hml, hown, ht⟩ (k_x8_slot l D a p0 y21 _ _ hc22) (zgV ml_X8_73 im_X8_slot se_X8_slot in_X8 co_X8_slot) rfl rfl (by decide +kernel) ⟨Nat.le_of_ble_eq_true rfl, Nat.le_of_ble_eq_true rfl⟩ hN hK hP hS 53 CW_53 rfl rfl rfl hl.1 rfl (Nat.le_of_ble_eq_true rfl) dX8_delete_33 ⟨Nat.le_of_ble_eq_true rfl, Nat.le_of_ble_eq_true rfl⟩ (fun H locs hP hS => ?_)
      refine lv_istore_n (lv' := [(3, .int r23), (0, .ref (a 53)), (1, .int p0), (2, .int p1)]) hx hb dX8_delete_36 rfl hl (by decide) rfl (fun ls hl => ?_)
      refine lv_aload_n hx hb dX8_delete_37 rfl (lv_at hl 1 rfl) ?_
      refine lv_iload_n hx hb dX8_delete_38 rfl (lv_at hl 2 rfl) ?_
      refine lv_iload_n hx hb dX8_delete_39 rfl (lv_at hl 3 rfl) ?_
      obtain ⟨r25, hc24, h⟩ := bn_e h
      refine ycV (As := [.int p0, .int p1]) (rest := []) (C := RX8) (n := 2) ⟨hx, hb, hml, hown, ht⟩ (k_x8_slot l D a p0 p1 _ _ hc24) (zgV ml_X8_73 im_X8_slot se_X8_slot in_X8 co_X8_slot) rfl rfl (by decide +kernel) ⟨Nat.le_of_ble_eq_true rfl, Nat.le_of_ble_eq_true rfl⟩ hN hK hP hS 53 CW_53 rfl rfl rfl hl.1 rfl (Nat.le_of_ble_eq_true rfl) dX8_delete_40 ⟨Nat.le_of_ble_eq_true rfl, Nat.le_of_ble_eq_true rfl⟩ (fun H locs hP hS => ?_)
      refine lv_istore (lv' := [(4, .int r25), (3, .int r23), (0, .ref (a 53)), (1, .int p0), (2, .int p1)]) hx hb dX8_delete_43 hl (by decide) rfl (fun ls hl => ?_)
      exact J45 FU (p0, r23, r25, s20) _ _ _ ⟨hP, hS, lv_sub hl [2, 3, 1, 0] rfl, h⟩
    · have h := if_f c17 h
      exact J14 s _ _ _ ⟨hP, hS, lv_sub hl [] rfl, h⟩
def m_x1_prune_J186 (s1 : MS) : Option MS :=
  some s1
def m_x1_prune_J180 (lr98 : Int32 → Int32 → MS → Option MS) (x5 : Int32) (x6 : Int32) (s7 : MS) : Option MS :=
  lr98 x5 (x6 + (-1)) s7
def m_x1_prune_b98 (lr98 : Int32 → Int32 → MS → Option MS) (x2 : Int32) (x3 : Int32) (s4 : MS) : Option MS :=
  if x3 < 0 then m_x1_prune_J186 s4 else rdI (gA s4 50) 48 x3 (fun y9 => rdI (gA s4 57) 48 y9 (fun y10 => if y10 = 0 then rdI (gA s4 50) 48 x3 (fun y12 => inb 48 y12 (stn (sA s4 54 (upd (gA s4 54) (Int32.toNatClampNeg y12) 0)) (fun s14 => if x3 ≤ 0 then inb 8 x2 (stn (sA s14 60 (upd (gA s14 60) (Int32.toNatClampNeg x2) (-1))) (fun s17 => m_x1_prune_J180 lr98 x2 x3 s17)) else rdI (gA s14 50) 48 (x3 - 1) (fun y18 => rdI (gA s14 51) 48 (x3 - 1) (fun y19 => bn (m_x8_delete y18 y19 s14) (fun s21 => m_x1_prune_J180 lr98 x2 x3 s21)))))) else m_x1_prune_J186 s4))
def m_x1_prune_L98 (n : Nat) : Int32 → Int32 → MS → Option MS := lp (fun _ _ _ => none) (m_x1_prune_b98) n
def m_x1_prune_b18 (lr18 : Int32 → Int32 → Int32 → Int32 → MS → Option MS) (x22 : Int32) (x23 : Int32) (x24 : Int32) (x25 : Int32) (s26 : MS) : Option MS :=
  if x24 ≤ x25 then rdI (gA s26 50) 48 x24 (fun y28 => rdI (gA s26 50) 48 x24 (fun y29 => bn (m_x8_find y29 x23 s26) (fun r31 => bn (m_x8_delete y28 r31 s26) (fun s33 => m_x1_prune_L98 FU x22 x24 s33)))) else rdI (gA s26 50) 48 x25 (fun y34 => rdI (gA s26 51) 48 x25 (fun y35 => bn (m_x8_slot y34 y35 s26) (fun r37 => rdI (gA s26 59) 288 r37 (fun y38 => inb 48 (x25 + 1) (stn (sA s26 50 (upd (gA s26 50) (Int32.toNatClampNeg (x25 + 1)) y38)) (fun s40 => lr18 x22 x23 x24 (x25 + 1) s40))))))
def m_x1_prune_L18 (n : Nat) : Int32 → Int32 → Int32 → Int32 → MS → Option MS := lp (fun _ _ _ _ _ => none) (m_x1_prune_b18) n
def m_x1_prune (p0 : Int32) (p1 : Int32) (p2 : Int32) (s : MS) : Option MS :=
  rdI (gA s 60) 8 p0 (fun y41 => inb 48 0 (stn (sA s 50 (upd (gA s 50) (Int32.toNatClampNeg 0) y41)) (fun s43 => m_x1_prune_L18 FU p0 p1 p2 0 s43)))
set_option maxHeartbeats 4000000 in
set_option maxRecDepth 100000 in
theorem k_x1_prune (l : Launch) (D : va_G) (a : Nat → Nat) (p0 : Int32) (p1 : Int32) (p2 : Int32) (sz : Nat) (s : MS) (o : MS) (h : m_x1_prune p0 p1 p2 s = some o) : yWv l yX1_prune cX1_prune 5 none { frames := 2, cells := 0, slots := 0, locals := 120 } D sz [.ref (a 49), .int p0, .int p1, .int p2] (CS D a s) (CS D a o) := by
  refine Met.ofW (cc := cX1_prune) (maxL := 5) (ret := none) (by decide) rfl ?_
  intro p e s₀ m args below meth c s₁ B hml hv
  obtain ⟨rfl, ⟨hsz, hP, hK, hD0⟩, hN⟩ := hv
  have hx := B.exec
  have hb := B.bytes
  have hr := B.returns
  have hts := atoms_spec (ws := wz yX1_prune cX1_prune 5 none) B.pre
  have ht : ∀ w ∈ lw_gd, w.before _ s₀ = true := fun w h => hts w (List.mem_cons_of_mem _ h)
  have hown : s₀.vm.findClass RX1 = some m.cls := findClass_of_methodNamed B.named
  have hlocks := B.notSynchronized
  subst hsz
  have hD := hD0.self (sz := s₀.heap.size)
  generalize hAe : va_A (CS D a s) s₀.heap.size = A at hD ⊢
  have hA : ∀ q : Nat, s₀.heap.size ≤ q → A q := fun q h => by rw [← hAe]; exact Or.inr h
  have hS : va_S A s₀.heap s₀.heap [] := va_S.rf
  have hDD : ∀ t : MS, va_D A (CS D a t) := fun t => CW_D t hD
  have hl := lv_entry ([.ref (a 49), .int p0, .int p1, .int p2]) (n := 5) (Nat.le_of_ble_eq_true rfl)
  rw [lg_entry_eq]
  generalize (lg_sl ([.ref (a 49), .int p0, .int p1, .int p2]) ++ List.replicate (5 - (lg_sl ([.ref (a 49), .int p0, .int p1, .int p2])).length) Slot.unset).toArray = ls at hl ⊢
  have hl : lv_has ls 5 [(0, .ref (a 49)), (1, .int p0), (2, .int p1), (3, .int p2)] := hl
  unfold m_x1_prune at h
  refine y_head (pcJ := 186) (σ := MS) (fun u H locs ls => va_P D vwCl (CS D a u) H ∧ va_S A s₀.heap H locs ∧ lv_has ls 5 [] ∧ m_x1_prune_J186 u = some o) (fun u => []) (fun u H locs ls hI => ?_) (fun J186 => ?_)
  · obtain ⟨hP, hS, hl, h⟩ := hI
    obtain ⟨s1, rfl⟩ : ∃ z, z = u := ⟨u, rfl⟩
    have hP : va_P D vwCl (CS D a s1) H := hP
    have hl : lv_has ls 5 [] := hl
    have h : m_x1_prune_J186 s1 = some o := h
    unfold m_x1_prune_J186 at h
    obtain rfl := Option.some.inj h
    exact W.vret hx hb hr (fun t ht hW => ⟨⟨(), rfl, trivial, by rw [ht]; exact hP, va_K.moved hW.alike hK, hDD _⟩, hS.F ht⟩) hS.2.2 dX1_prune_186
  refine y_loop (pcJ := 98) (σ := Int32 × Int32 × MS) (fun n u H locs ls => va_P D vwCl (CS D a u.2.2) H ∧ va_S A s₀.heap H locs ∧ lv_has ls 5 [(0, .ref (a 49)), (1, .int u.1), (4, .int u.2.1)] ∧ m_x1_prune_L98 n u.1 u.2.1 u.2.2 = some o) (fun u => []) (fun u H locs ls hI => by obtain ⟨_, _, _, h⟩ := hI; cases h) (fun n98 ih98 u H locs ls hI => ?_) (fun J98 => ?_)
  · obtain ⟨hP, hS, hl, h⟩ := hI
    obtain ⟨x2, x3, s4⟩ := u
    have hP : va_P D vwCl (CS D a s4) H := hP
    have hl : lv_has ls 5 [(0, .ref (a 49)), (1, .int x2), (4, .int x3)] := hl
    have h : m_x1_prune_b98 (m_x1_prune_L98 n98) x2 x3 s4 = some o := h
    unfold m_x1_prune_b98 at h
    refine y_head (pcJ := 180) (σ := Int32 × Int32 × MS) (fun u H locs ls => va_P D vwCl (CS D a u.2.2) H ∧ va_S A s₀.heap H locs ∧ lv_has ls 5 [(0, .ref (a 49)), (1, .int u.1), (4, .int u.2.1)] ∧ m_x1_prune_J180 (m_x1_prune_L98 n98) u.1 u.2.1 u.2.2 = some o) (fun u => []) (fun u H locs ls hI => ?_) (fun J180 => ?_)
    · obtain ⟨hP, hS, hl, h⟩ := hI
      obtain ⟨x5, x6, s7⟩ := u
      have hP : va_P D vwCl (CS D a s7) H := hP
      have hl : lv_has ls 5 [(0, .ref (a 49)), (1, .int x5), (4, .int x6)] := hl
      have h : m_x1_prune_J180 (m_x1_prune_L98 n98) x5 x6 s7 = some o := h
      unfold m_x1_prune_J180 at h
      refine lv_iinc (v := x6 + (-1)) (lv' := [(4, .int (x6 + (-1))), (0, .ref (a 49)), (1, .int x5)]) hx hb dX1_prune_180 hl (k := 2) rfl rfl (by decide) rfl (fun ls hl => ?_)
      refine lv_goto (tgt := 98) hx hb dX1_prune_183 (by decide) ?_
      exact ih98 (x5, x6 + (-1), s7) _ _ _ ⟨hP, hS, lv_sub hl [1, 2, 0] rfl, h⟩
    refine lv_iload hx hb dX1_prune_98 (lv_at hl 2 rfl) ?_
    refine lv_if_lt (tgt := 186) hx hb dX1_prune_100 (by decide) (fun c8 => ?_) (fun c8 => ?_)
    · have h := if_t c8 h
      exact J186 s4 _ _ _ ⟨hP, hS, lv_sub hl [] rfl, h⟩
    · have h := if_f c8 h
      refine lv_aload_n hx hb dX1_prune_103 rfl (lv_at hl 0 rfl) ?_
      refine va_get (D := D) (ci := 1) (v := .ref (a 53)) (C := RX1) (T := TX1) (N := 9) hx hb ht inX1 hown hK hP 49 CW_49 rfl 0 (by decide) (ht (.fieldLink RX1 12 "CloneVolumes$Forest" "now" "LCloneVolumes$State;") fl_X1_12) (fun _ h9 => h9) rfl dX1_prune_104 ?_
      refine va_get (D := D) (ci := 8) (v := .ref (a 57)) (C := RX8) (T := TX8) (N := 11) hx hb ht inX8 hown hK hP 53 CW_53 rfl 6 (by decide) (ht (.fieldLink RX1 155 "CloneVolumes$State" "size" "[I") fl_X1_155) (fun _ h9 => h9) rfl dX1_prune_107 ?_
      refine lv_aload_n hx hb dX1_prune_110 rfl (lv_at hl 0 rfl) ?_
      refine va_get (D := D) (ci := 1) (v := .ref (a 50)) (C := RX1) (T := TX1) (N := 9) hx hb ht inX1 hown hK hP 49 CW_49 rfl 6 (by decide) (ht (.fieldLink RX1 37 "CloneVolumes$Forest" "chain" "[I") fl_X1_37) (fun _ h9 => h9) rfl dX1_prune_111 ?_
      refine lv_iload hx hb dX1_prune_114 (lv_at hl 2 rfl) ?_
      obtain ⟨y9, ey9, iy9, h⟩ := rdI_e h
      refine ya_iald hx hb hK hP 50 0 CW_50 rfl ey9 iy9 dX1_prune_116 ?_
      obtain ⟨y10, ey10, iy10, h⟩ := rdI_e h
      refine ya_iald hx hb hK hP 57 0 CW_57 rfl ey10 iy10 dX1_prune_117 ?_
      refine lv_if_ne (tgt := 186) hx hb dX1_prune_118 (by decide) (fun c11 => ?_) (fun c11 => ?_)
      · have h := if_f c11 h
        exact J186 s4 _ _ _ ⟨hP, hS, lv_sub hl [] rfl, h⟩
      · have h := if_t c11 h
        refine lv_aload_n hx hb dX1_prune_121 rfl (lv_at hl 0 rfl) ?_
        refine va_get (D := D) (ci := 1) (v := .ref (a 53)) (C := RX1) (T := TX1) (N := 9) hx hb ht inX1 hown hK hP 49 CW_49 rfl 0 (by decide) (ht (.fieldLink RX1 12 "CloneVolumes$Forest" "now" "LCloneVolumes$State;") fl_X1_12) (fun _ h9 => h9) rfl dX1_prune_122 ?_
        refine va_get (D := D) (ci := 8) (v := .ref (a 54)) (C := RX8) (T := TX8) (N := 11) hx hb ht inX8 hown hK hP 53 CW_53 rfl 3 (by decide) (ht (.fieldLink RX1 181 "CloneVolumes$State" "count" "[I") fl_X1_181) (fun _ h9 => h9) rfl dX1_prune_125 ?_
        refine lv_aload_n hx hb dX1_prune_128 rfl (lv_at hl 0 rfl) ?_
        refine va_get (D := D) (ci := 1) (v := .ref (a 50)) (C := RX1) (T := TX1) (N := 9) hx hb ht inX1 hown hK hP 49 CW_49 rfl 6 (by decide) (ht (.fieldLink RX1 37 "CloneVolumes$Forest" "chain" "[I") fl_X1_37) (fun _ h9 => h9) rfl dX1_prune_129 ?_
        refine lv_iload hx hb dX1_prune_132 (lv_at hl 2 rfl) ?_
        obtain ⟨y12, ey12, iy12, h⟩ := rdI_e h
        refine ya_iald hx hb hK hP 50 0 CW_50 rfl ey12 iy12 dX1_prune_134 ?_
        refine lv_iconst (v := 0) hx hb dX1_prune_135 (by decide) ?_
        obtain ⟨hi13, h⟩ := inb_e h
        refine ya_iast hx hb hK hP (hDD _) hS 54 0 CW_54 rfl hi13 dX1_prune_136 (CW_w54 _) (fun H locs hP hS => ?_)
        obtain ⟨s14, hs14, h⟩ := st_e h
        rw [hs14] at hP
        refine lv_iload hx hb dX1_prune_137 (lv_at hl 2 rfl) ?_
        refine lv_if_le (tgt := 170) hx hb dX1_prune_139 (by decide) (fun c15 => ?_) (fun c15 => ?_)
        · have h := if_t c15 h
          refine lv_aload_n hx hb dX1_prune_170 rfl (lv_at hl 0 rfl) ?_
          refine va_get (D := D) (ci := 1) (v := .ref (a 53)) (C := RX1) (T := TX1) (N := 9) hx hb ht inX1 hown hK hP 49 CW_49 rfl 0 (by decide) (ht (.fieldLink RX1 12 "CloneVolumes$Forest" "now" "LCloneVolumes$State;") fl_X1_12) (fun _ h9 => h9) rfl dX1_prune_171 ?_
          refine va_get (D := D) (ci := 8) (v := .ref (a 60)) (C := RX8) (T := TX8) (N := 11) hx hb ht inX8 hown hK hP 53 CW_53 rfl 9 (by decide) (ht (.fieldLink RX1 69 "CloneVolumes$State" "roots" "[I") fl_X1_69) (fun _ h9 => h9) rfl dX1_prune_174 ?_
          refine lv_iload_n hx hb dX1_prune_177 rfl (lv_at hl 1 rfl) ?_
          refine lv_iconst (v := (-1)) hx hb dX1_prune_178 (by decide) ?_
          obtain ⟨hi16, h⟩ := inb_e h
          refine ya_iast hx hb hK hP (hDD _) hS 60 0 CW_60 rfl hi16 dX1_prune_179 (CW_w60 _) (fun H locs hP hS => ?_)
          obtain ⟨s17, hs17, h⟩ := st_e h
          rw [hs17] at hP
          exact J180 (x2, x3, s17) _ _ _ ⟨hP, hS, lv_sub hl [0, 1, 2] rfl, h⟩
        · have h := if_f c15 h
          refine lv_aload_n hx hb dX1_prune_142 rfl (lv_at hl 0 rfl) ?_
          refine va_get (D := D) (ci := 1) (v := .ref (a 53)) (C := RX1) (T := TX1) (N := 9) hx hb ht inX1 hown hK hP 49 CW_49 rfl 0 (by decide) (ht (.fieldLink RX1 12 "CloneVolumes$Forest" "now" "LCloneVolumes$State;") fl_X1_12) (fun _ h9 => h9) rfl dX1_prune_143 ?_
          refine lv_aload_n hx hb dX1_prune_146 rfl (lv_at hl 0 rfl) ?_
          refine va_get (D := D) (ci := 1) (v := .ref (a 50)) (C := RX1) (T := TX1) (N := 9) hx hb ht inX1 hown hK hP 49 CW_49 rfl 6 (by decide) (ht (.fieldLink RX1 37 "CloneVolumes$Forest" "chain" "[I") fl_X1_37) (fun _ h9 => h9) rfl dX1_prune_147 ?_
          refine lv_iload hx hb dX1_prune_150 (lv_at hl 2 rfl) ?_
          refine lv_iconst (v := 1) hx hb dX1_prune_152 (by decide) ?_
          refine lv_isub hx hb dX1_prune_153 ?_
          obtain ⟨y18, ey18, iy18, h⟩ := rdI_e h
          refine ya_iald hx hb hK hP 50 0 CW_50 rfl ey18 iy18 dX1_prune_154 ?_
          refine lv_aload_n hx hb dX1_prune_155 rfl (lv_at hl 0 rfl) ?_
          refine va_get (D := D) (ci := 1) (v := .ref (a 51)) (C := RX1) (T := TX1) (N := 9) hx hb ht inX1 hown hK hP 49 CW_49 rfl 7 (by decide) (ht (.fieldLink RX1 41 "CloneVolumes$Forest" "turns" "[I") fl_X1_41) (fun _ h9 => h9) rfl dX1_prune_156 ?_
          refine lv_iload hx hb dX1_prune_159 (lv_at hl 2 rfl) ?_
          refine lv_iconst (v := 1) hx hb dX1_prune_161 (by decide) ?_
          refine lv_isub hx hb dX1_prune_162 ?_
          obtain ⟨y19, ey19, iy19, h⟩ := rdI_e h
          refine ya_iald hx hb hK hP 51 0 CW_51 rfl ey19 iy19 dX1_prune_163 ?_
          obtain ⟨s21, hc20, h⟩ := bn_e h
          refine ywVv (As := [.int y18, .int y19]) (rest := []) (C := RX8) (n := 2) (ws' := CS D a s21) ⟨hx, hb, hml, hown, ht⟩ (k_x8_delete l D a y18 y19 _ _ _ hc20) (zgV ml_X1_274 im_X8_delete se_X8_delete in_X8 co_X8_delete) rfl rfl (by decide +kernel) ⟨Nat.le_of_ble_eq_true rfl, Nat.le_of_ble_eq_true rfl⟩ hN hK hP (hDD _) hS hA 53 CW_53 rfl rfl rfl hl.1 rfl (Nat.le_of_ble_eq_true rfl) dX1_prune_164 ⟨Nat.le_of_ble_eq_true rfl, Nat.le_of_ble_eq_true rfl⟩ (fun H locs hP hS => ?_)
          refine lv_goto (tgt := 180) hx hb dX1_prune_167 (by decide) ?_
          exact J180 (x2, x3, s21) _ _ _ ⟨hP, hS, lv_sub hl [0, 1, 2] rfl, h⟩
  refine y_loop (pcJ := 18) (σ := Int32 × Int32 × Int32 × Int32 × MS) (fun n u H locs ls => va_P D vwCl (CS D a u.2.2.2.2) H ∧ va_S A s₀.heap H locs ∧ lv_has ls 5 [(0, .ref (a 49)), (1, .int u.1), (2, .int u.2.1), (3, .int u.2.2.1), (4, .int u.2.2.2.1)] ∧ m_x1_prune_L18 n u.1 u.2.1 u.2.2.1 u.2.2.2.1 u.2.2.2.2 = some o) (fun u => []) (fun u H locs ls hI => by obtain ⟨_, _, _, h⟩ := hI; cases h) (fun n18 ih18 u H locs ls hI => ?_) (fun J18 => ?_)
  · obtain ⟨hP, hS, hl, h⟩ := hI
    obtain ⟨x22, x23, x24, x25, s26⟩ := u
    have hP : va_P D vwCl (CS D a s26) H := hP
    have hl : lv_has ls 5 [(0, .ref (a 49)), (1, .int x22), (2, .int x23), (3, .int x24), (4, .int x25)] := hl
    have h : m_x1_prune_b18 (m_x1_prune_L18 n18) x22 x23 x24 x25 s26 = some o := h
    unfold m_x1_prune_b18 at h
    refine lv_iload hx hb dX1_prune_18 (lv_at hl 4 rfl) ?_
    refine lv_iload_n hx hb dX1_prune_20 rfl (lv_at hl 3 rfl) ?_
    refine lv_icmp_ge (tgt := 68) hx hb dX1_prune_21 (by decide) (fun c27 => ?_) (fun c27 => ?_)
    · have h := if_t c27 h
      refine lv_aload_n hx hb dX1_prune_68 rfl (lv_at hl 0 rfl) ?_
      refine va_get (D := D) (ci := 1) (v := .ref (a 53)) (C := RX1) (T := TX1) (N := 9) hx hb ht inX1 hown hK hP 49 CW_49 rfl 0 (by decide) (ht (.fieldLink RX1 12 "CloneVolumes$Forest" "now" "LCloneVolumes$State;") fl_X1_12) (fun _ h9 => h9) rfl dX1_prune_69 ?_
      refine lv_aload_n hx hb dX1_prune_72 rfl (lv_at hl 0 rfl) ?_
      refine va_get (D := D) (ci := 1) (v := .ref (a 50)) (C := RX1) (T := TX1) (N := 9) hx hb ht inX1 hown hK hP 49 CW_49 rfl 6 (by decide) (ht (.fieldLink RX1 37 "CloneVolumes$Forest" "chain" "[I") fl_X1_37) (fun _ h9 => h9) rfl dX1_prune_73 ?_
      refine lv_iload_n hx hb dX1_prune_76 rfl (lv_at hl 3 rfl) ?_
      obtain ⟨y28, ey28, iy28, h⟩ := rdI_e h
      refine ya_iald hx hb hK hP 50 0 CW_50 rfl ey28 iy28 dX1_prune_77 ?_
      refine lv_aload_n hx hb dX1_prune_78 rfl (lv_at hl 0 rfl) ?_
      refine va_get (D := D) (ci := 1) (v := .ref (a 53)) (C := RX1) (T := TX1) (N := 9) hx hb ht inX1 hown hK hP 49 CW_49 rfl 0 (by decide) (ht (.fieldLink RX1 12 "CloneVolumes$Forest" "now" "LCloneVolumes$State;") fl_X1_12) (fun _ h9 => h9) rfl dX1_prune_79 ?_
      refine lv_aload_n hx hb dX1_prune_82 rfl (lv_at hl 0 rfl) ?_
      refine va_get (D := D) (ci := 1) (v := .ref (a 50)) (C := RX1) (T := TX1) (N := 9) hx hb ht inX1 hown hK hP 49 CW_49 rfl 6 (by decide) (ht (.fieldLink RX1 37 "CloneVolumes$Forest" "chain" "[I") fl_X1_37) (fun _ h9 => h9) rfl dX1_prune_83 ?_
      refine lv_iload_n hx hb dX1_prune_86 rfl (lv_at hl 3 rfl) ?_
      obtain ⟨y29, ey29, iy29, h⟩ := rdI_e h
      refine ya_iald hx hb hK hP 50 0 CW_50 rfl ey29 iy29 dX1_prune_87 ?_
      refine lv_iload_n hx hb dX1_prune_88 rfl (lv_at hl 2 rfl) ?_
      obtain ⟨r31, hc30, h⟩ := bn_e h
      refine ycV (As := [.int y29, .int x23]) (rest := [.int y28, .ref (a 53)]) (C := RX8) (n := 2) ⟨hx, hb, hml, hown, ht⟩ (k_x8_find l D a y29 x23 _ _ hc30) (zgV ml_X1_262 im_X8_find se_X8_find in_X8 co_X8_find) rfl rfl (by decide +kernel) ⟨Nat.le_of_ble_eq_true rfl, Nat.le_of_ble_eq_true rfl⟩ hN hK hP hS 53 CW_53 rfl rfl rfl hl.1 rfl (Nat.le_of_ble_eq_true rfl) dX1_prune_89 ⟨Nat.le_of_ble_eq_true rfl, Nat.le_of_ble_eq_true rfl⟩ (fun H locs hP hS => ?_)
      obtain ⟨s33, hc32, h⟩ := bn_e h
      refine ywVv (As := [.int y28, .int r31]) (rest := []) (C := RX8) (n := 2) (ws' := CS D a s33) ⟨hx, hb, hml, hown, ht⟩ (k_x8_delete l D a y28 r31 _ _ _ hc32) (zgV ml_X1_274 im_X8_delete se_X8_delete in_X8 co_X8_delete) rfl rfl (by decide +kernel) ⟨Nat.le_of_ble_eq_true rfl, Nat.le_of_ble_eq_true rfl⟩ hN hK hP (hDD _) hS hA 53 CW_53 rfl rfl rfl hl.1 rfl (Nat.le_of_ble_eq_true rfl) dX1_prune_92 ⟨Nat.le_of_ble_eq_true rfl, Nat.le_of_ble_eq_true rfl⟩ (fun H locs hP hS => ?_)
      refine lv_iload_n hx hb dX1_prune_95 rfl (lv_at hl 3 rfl) ?_
      refine lv_istore (lv' := [(4, .int x24), (0, .ref (a 49)), (1, .int x22), (2, .int x23), (3, .int x24)]) hx hb dX1_prune_96 hl (by decide) rfl (fun ls hl => ?_)
      exact J98 FU (x22, x24, s33) _ _ _ ⟨hP, hS, lv_sub hl [1, 2, 0] rfl, h⟩
    · have h := if_f c27 h
      refine lv_aload_n hx hb dX1_prune_24 rfl (lv_at hl 0 rfl) ?_
      refine va_get (D := D) (ci := 1) (v := .ref (a 50)) (C := RX1) (T := TX1) (N := 9) hx hb ht inX1 hown hK hP 49 CW_49 rfl 6 (by decide) (ht (.fieldLink RX1 37 "CloneVolumes$Forest" "chain" "[I") fl_X1_37) (fun _ h9 => h9) rfl dX1_prune_25 ?_
      refine lv_iload hx hb dX1_prune_28 (lv_at hl 4 rfl) ?_
      refine lv_iconst (v := 1) hx hb dX1_prune_30 (by decide) ?_
      refine lv_iadd hx hb dX1_prune_31 ?_
      refine lv_aload_n hx hb dX1_prune_32 rfl (lv_at hl 0 rfl) ?_
      refine va_get (D := D) (ci := 1) (v := .ref (a 53)) (C := RX1) (T := TX1) (N := 9) hx hb ht inX1 hown hK hP 49 CW_49 rfl 0 (by decide) (ht (.fieldLink RX1 12 "CloneVolumes$Forest" "now" "LCloneVolumes$State;") fl_X1_12) (fun _ h9 => h9) rfl dX1_prune_33 ?_
      refine va_get (D := D) (ci := 8) (v := .ref (a 59)) (C := RX8) (T := TX8) (N := 11) hx hb ht inX8 hown hK hP 53 CW_53 rfl 8 (by decide) (ht (.fieldLink RX1 217 "CloneVolumes$State" "values" "[I") fl_X1_217) (fun _ h9 => h9) rfl dX1_prune_36 ?_
      refine lv_aload_n hx hb dX1_prune_39 rfl (lv_at hl 0 rfl) ?_
      refine va_get (D := D) (ci := 1) (v := .ref (a 53)) (C := RX1) (T := TX1) (N := 9) hx hb ht inX1 hown hK hP 49 CW_49 rfl 0 (by decide) (ht (.fieldLink RX1 12 "CloneVolumes$Forest" "now" "LCloneVolumes$State;") fl_X1_12) (fun _ h9 => h9) rfl dX1_prune_40 ?_
      refine lv_aload_n hx hb dX1_prune_43 rfl (lv_at hl 0 rfl) ?_
      refine va_get (D := D) (ci := 1) (v := .ref (a 50)) (C := RX1) (T := TX1) (N := 9) hx hb ht inX1 hown hK hP 49 CW_49 rfl 6 (by decide) (ht (.fieldLink RX1 37 "CloneVolumes$Forest" "chain" "[I") fl_X1_37) (fun _ h9 => h9) rfl dX1_prune_44 ?_
      refine lv_iload hx hb dX1_prune_47 (lv_at hl 4 rfl) ?_
      obtain ⟨y34, ey34, iy34, h⟩ := rdI_e h
      refine ya_iald hx hb hK hP 50 0 CW_50 rfl ey34 iy34 dX1_prune_49 ?_
      refine lv_aload_n hx hb dX1_prune_50 rfl (lv_at hl 0 rfl) ?_
      refine va_get (D := D) (ci := 1) (v := .ref (a 51)) (C := RX1) (T := TX1) (N := 9) hx hb ht inX1 hown hK hP 49 CW_49 rfl 7 (by decide) (ht (.fieldLink RX1 41 "CloneVolumes$Forest" "turns" "[I") fl_X1_41) (fun _ h9 => h9) rfl dX1_prune_51 ?_
      refine lv_iload hx hb dX1_prune_54 (lv_at hl 4 rfl) ?_
      obtain ⟨y35, ey35, iy35, h⟩ := rdI_e h
      refine ya_iald hx hb hK hP 51 0 CW_51 rfl ey35 iy35 dX1_prune_56 ?_
      obtain ⟨r37, hc36, h⟩ := bn_e h
      refine ycV (As := [.int y34, .int y35]) (rest := [.ref (a 59), .int (x25 + 1), .ref (a 50)]) (C := RX8) (n := 2) ⟨hx, hb, hml, hown, ht⟩ (k_x8_slot l D a y34 y35 _ _ hc36) (zgV ml_X1_220 im_X8_slot se_X8_slot in_X8 co_X8_slot) rfl rfl (by decide +kernel) ⟨Nat.le_of_ble_eq_true rfl, Nat.le_of_ble_eq_true rfl⟩ hN hK hP hS 53 CW_53 rfl rfl rfl hl.1 rfl (Nat.le_of_ble_eq_true rfl) dX1_prune_57 ⟨Nat.le_of_ble_eq_true rfl, Nat.le_of_ble_eq_true rfl⟩ (fun H locs hP hS => ?_)
      obtain ⟨y38, ey38, iy38, h⟩ := rdI_e h
      refine ya_iald hx hb hK hP 59 0 CW_59 rfl ey38 iy38 dX1_prune_60 ?_
      obtain ⟨hi39, h⟩ := inb_e h
      refine ya_iast hx hb hK hP (hDD _) hS 50 0 CW_50 rfl hi39 dX1_prune_61 (CW_w50 _) (fun H locs hP hS => ?_)
      obtain ⟨s40, hs40, h⟩ := st_e h
      rw [hs40] at hP
      refine lv_iinc (v := x25 + 1) (lv' := [(4, .int (x25 + 1)), (0, .ref (a 49)), (1, .int x22), (2, .int x23), (3, .int x24)]) hx hb dX1_prune_62 hl (k := 4) rfl rfl (by decide) rfl (fun ls hl => ?_)
      refine lv_goto (tgt := 18) hx hb dX1_prune_65 (by decide) ?_
      exact ih18 (x22, x23, x24, x25 + 1, s40) _ _ _ ⟨hP, hS, lv_sub hl [1, 2, 3, 4, 0] rfl, h⟩
  refine lv_aload_n hx hb dX1_prune_0 rfl (lv_at hl 0 rfl) ?_
  refine va_get (D := D) (ci := 1) (v := .ref (a 50)) (C := RX1) (T := TX1) (N := 9) hx hb ht inX1 hown hK hP 49 CW_49 rfl 6 (by decide) (ht (.fieldLink RX1 37 "CloneVolumes$Forest" "chain" "[I") fl_X1_37) (fun _ h9 => h9) rfl dX1_prune_1 ?_
  refine lv_iconst (v := 0) hx hb dX1_prune_4 (by decide) ?_
  refine lv_aload_n hx hb dX1_prune_5 rfl (lv_at hl 0 rfl) ?_
  refine va_get (D := D) (ci := 1) (v := .ref (a 53)) (C := RX1) (T := TX1) (N := 9) hx hb ht inX1 hown hK hP 49 CW_49 rfl 0 (by decide) (ht (.fieldLink RX1 12 "CloneVolumes$Forest" "now" "LCloneVolumes$State;") fl_X1_12) (fun _ h9 => h9) rfl dX1_prune_6 ?_
  refine va_get (D := D) (ci := 8) (v := .ref (a 60)) (C := RX8) (T := TX8) (N := 11) hx hb ht inX8 hown hK hP 53 CW_53 rfl 9 (by decide) (ht (.fieldLink RX1 69 "CloneVolumes$State" "roots" "[I") fl_X1_69) (fun _ h9 => h9) rfl dX1_prune_9 ?_
  refine lv_iload_n hx hb dX1_prune_12 rfl (lv_at hl 1 rfl) ?_
  obtain ⟨y41, ey41, iy41, h⟩ := rdI_e h
  refine ya_iald hx hb hK hP 60 0 CW_60 rfl ey41 iy41 dX1_prune_13 ?_
  obtain ⟨hi42, h⟩ := inb_e h
  refine ya_iast hx hb hK hP (hDD _) hS 50 0 CW_50 rfl hi42 dX1_prune_14 (CW_w50 _) (fun H locs hP hS => ?_)
  obtain ⟨s43, hs43, h⟩ := st_e h
  rw [hs43] at hP
  refine lv_iconst (v := 0) hx hb dX1_prune_15 (by decide) ?_
  refine lv_istore (lv' := [(4, .int 0), (0, .ref (a 49)), (1, .int p0), (2, .int p1), (3, .int p2)]) hx hb dX1_prune_16 hl (by decide) rfl (fun ls hl => ?_)
  exact J18 FU (p0, p1, p2, 0, s43) _ _ _ ⟨hP, hS, lv_sub hl [1, 2, 3, 4, 0] rfl, h⟩
def m_x1_lowerRoot_J48 (s1 : MS) : Option MS :=
  some s1
def m_x1_lowerRoot_b2 (lr2 : Int32 → Int32 → MS → Option MS) (x2 : Int32) (x3 : Int32) (s4 : MS) : Option MS :=
  if 48 ≤ x3 then some s4 else rdI (gA s4 60) 8 x2 (fun y6 => if y6 = (-1) then m_x1_lowerRoot_J48 s4 else rdI (gA s4 56) 48 y6 (fun y8 => if y8 = 0 then m_x1_lowerRoot_J48 s4 else rdI (gA s4 57) 48 y6 (fun y10 => if y10 = 1 then bn (m_x8_slot y6 0 s4) (fun r13 => rdI (gA s4 59) 288 r13 (fun y14 => rdI (gA s4 54) 48 y14 (fun y15 => inb 48 y14 (stn (sA s4 54 (upd (gA s4 54) (Int32.toNatClampNeg y14) (y15 + 1))) (fun s17 => inb 8 x2 (stn (sA s17 60 (upd (gA s17 60) (Int32.toNatClampNeg x2) y14)) (fun s19 => bn (m_x1_release_v2 y6 s19) (fun qr22 => lr2 x2 (x3 + 1) qr22.2)))))))) else m_x1_lowerRoot_J48 s4)))
def m_x1_lowerRoot_L2 (n : Nat) : Int32 → Int32 → MS → Option MS := lp (fun _ _ _ => none) (m_x1_lowerRoot_b2) n
def m_x1_lowerRoot (p0 : Int32) (s : MS) : Option MS :=
  m_x1_lowerRoot_L2 FU p0 0 s
set_option maxHeartbeats 4000000 in
set_option maxRecDepth 100000 in
theorem k_x1_lowerRoot (l : Launch) (D : va_G) (a : Nat → Nat) (p0 : Int32) (sz : Nat) (s : MS) (o : MS) (h : m_x1_lowerRoot p0 s = some o) : yWv l yX1_lowerRoot cX1_lowerRoot 5 none { frames := 2, cells := 0, slots := 0, locals := 120 } D sz [.ref (a 49), .int p0] (CS D a s) (CS D a o) := by
  refine Met.ofW (cc := cX1_lowerRoot) (maxL := 5) (ret := none) (by decide) rfl ?_
  intro p e s₀ m args below meth c s₁ B hml hv
  obtain ⟨rfl, ⟨hsz, hP, hK, hD0⟩, hN⟩ := hv
  have hx := B.exec
  have hb := B.bytes
  have hr := B.returns
  have hts := atoms_spec (ws := wz yX1_lowerRoot cX1_lowerRoot 5 none) B.pre
  have ht : ∀ w ∈ lw_gd, w.before _ s₀ = true := fun w h => hts w (List.mem_cons_of_mem _ h)
  have hown : s₀.vm.findClass RX1 = some m.cls := findClass_of_methodNamed B.named
  have hlocks := B.notSynchronized
  subst hsz
  have hD := hD0.self (sz := s₀.heap.size)
  generalize hAe : va_A (CS D a s) s₀.heap.size = A at hD ⊢
  have hA : ∀ q : Nat, s₀.heap.size ≤ q → A q := fun q h => by rw [← hAe]; exact Or.inr h
  have hS : va_S A s₀.heap s₀.heap [] := va_S.rf
  have hDD : ∀ t : MS, va_D A (CS D a t) := fun t => CW_D t hD
  have hl := lv_entry ([.ref (a 49), .int p0]) (n := 5) (Nat.le_of_ble_eq_true rfl)
  rw [lg_entry_eq]
  generalize (lg_sl ([.ref (a 49), .int p0]) ++ List.replicate (5 - (lg_sl ([.ref (a 49), .int p0])).length) Slot.unset).toArray = ls at hl ⊢
  have hl : lv_has ls 5 [(0, .ref (a 49)), (1, .int p0)] := hl
  unfold m_x1_lowerRoot at h
  refine y_head (pcJ := 48) (σ := MS) (fun u H locs ls => va_P D vwCl (CS D a u) H ∧ va_S A s₀.heap H locs ∧ lv_has ls 5 [] ∧ m_x1_lowerRoot_J48 u = some o) (fun u => []) (fun u H locs ls hI => ?_) (fun J48 => ?_)
  · obtain ⟨hP, hS, hl, h⟩ := hI
    obtain ⟨s1, rfl⟩ : ∃ z, z = u := ⟨u, rfl⟩
    have hP : va_P D vwCl (CS D a s1) H := hP
    have hl : lv_has ls 5 [] := hl
    have h : m_x1_lowerRoot_J48 s1 = some o := h
    unfold m_x1_lowerRoot_J48 at h
    obtain rfl := Option.some.inj h
    exact W.vret hx hb hr (fun t ht hW => ⟨⟨(), rfl, trivial, by rw [ht]; exact hP, va_K.moved hW.alike hK, hDD _⟩, hS.F ht⟩) hS.2.2 dX1_lowerRoot_48
  refine y_loop (pcJ := 2) (σ := Int32 × Int32 × MS) (fun n u H locs ls => va_P D vwCl (CS D a u.2.2) H ∧ va_S A s₀.heap H locs ∧ lv_has ls 5 [(0, .ref (a 49)), (1, .int u.1), (2, .int u.2.1)] ∧ m_x1_lowerRoot_L2 n u.1 u.2.1 u.2.2 = some o) (fun u => []) (fun u H locs ls hI => by obtain ⟨_, _, _, h⟩ := hI; cases h) (fun n2 ih2 u H locs ls hI => ?_) (fun J2 => ?_)
  · obtain ⟨hP, hS, hl, h⟩ := hI
    obtain ⟨x2, x3, s4⟩ := u
    have hP : va_P D vwCl (CS D a s4) H := hP
    have hl : lv_has ls 5 [(0, .ref (a 49)), (1, .int x2), (2, .int x3)] := hl
    have h : m_x1_lowerRoot_b2 (m_x1_lowerRoot_L2 n2) x2 x3 s4 = some o := h
    unfold m_x1_lowerRoot_b2 at h
    refine lv_iload_n hx hb dX1_lowerRoot_2 rfl (lv_at hl 2 rfl) ?_
    refine lv_bipush (v := 48) hx hb dX1_lowerRoot_3 (by decide) ?_
    refine lv_icmp_ge (tgt := 112) hx hb dX1_lowerRoot_5 (by decide) (fun c5 => ?_) (fun c5 => ?_)
    · have h := if_t c5 h
      obtain rfl := Option.some.inj h
      exact W.vret hx hb hr (fun t ht hW => ⟨⟨(), rfl, trivial, by rw [ht]; exact hP, va_K.moved hW.alike hK, hDD _⟩, hS.F ht⟩) hS.2.2 dX1_lowerRoot_112
    · have h := if_f c5 h
      refine lv_aload_n hx hb dX1_lowerRoot_8 rfl (lv_at hl 0 rfl) ?_
      refine va_get (D := D) (ci := 1) (v := .ref (a 53)) (C := RX1) (T := TX1) (N := 9) hx hb ht inX1 hown hK hP 49 CW_49 rfl 0 (by decide) (ht (.fieldLink RX1 12 "CloneVolumes$Forest" "now" "LCloneVolumes$State;") fl_X1_12) (fun _ h9 => h9) rfl dX1_lowerRoot_9 ?_
      refine va_get (D := D) (ci := 8) (v := .ref (a 60)) (C := RX8) (T := TX8) (N := 11) hx hb ht inX8 hown hK hP 53 CW_53 rfl 9 (by decide) (ht (.fieldLink RX1 69 "CloneVolumes$State" "roots" "[I") fl_X1_69) (fun _ h9 => h9) rfl dX1_lowerRoot_12 ?_
      refine lv_iload_n hx hb dX1_lowerRoot_15 rfl (lv_at hl 1 rfl) ?_
      obtain ⟨y6, ey6, iy6, h⟩ := rdI_e h
      refine ya_iald hx hb hK hP 60 0 CW_60 rfl ey6 iy6 dX1_lowerRoot_16 ?_
      refine lv_istore_n (lv' := [(3, .int y6), (0, .ref (a 49)), (1, .int x2), (2, .int x3)]) hx hb dX1_lowerRoot_17 rfl hl (by decide) rfl (fun ls hl => ?_)
      refine lv_iload_n hx hb dX1_lowerRoot_18 rfl (lv_at hl 0 rfl) ?_
      refine lv_iconst (v := (-1)) hx hb dX1_lowerRoot_19 (by decide) ?_
      refine lv_icmp_eq (tgt := 48) hx hb dX1_lowerRoot_20 (by decide) (fun c7 => ?_) (fun c7 => ?_)
      · have h := if_t c7 h
        exact J48 s4 _ _ _ ⟨hP, hS, lv_sub hl [] rfl, h⟩
      · have h := if_f c7 h
        refine lv_aload_n hx hb dX1_lowerRoot_23 rfl (lv_at hl 1 rfl) ?_
        refine va_get (D := D) (ci := 1) (v := .ref (a 53)) (C := RX1) (T := TX1) (N := 9) hx hb ht inX1 hown hK hP 49 CW_49 rfl 0 (by decide) (ht (.fieldLink RX1 12 "CloneVolumes$Forest" "now" "LCloneVolumes$State;") fl_X1_12) (fun _ h9 => h9) rfl dX1_lowerRoot_24 ?_
        refine va_get (D := D) (ci := 8) (v := .ref (a 56)) (C := RX8) (T := TX8) (N := 11) hx hb ht inX8 hown hK hP 53 CW_53 rfl 5 (by decide) (ht (.fieldLink RX1 150 "CloneVolumes$State" "level" "[I") fl_X1_150) (fun _ h9 => h9) rfl dX1_lowerRoot_27 ?_
        refine lv_iload_n hx hb dX1_lowerRoot_30 rfl (lv_at hl 0 rfl) ?_
        obtain ⟨y8, ey8, iy8, h⟩ := rdI_e h
        refine ya_iald hx hb hK hP 56 0 CW_56 rfl ey8 iy8 dX1_lowerRoot_31 ?_
        refine lv_if_eq (tgt := 48) hx hb dX1_lowerRoot_32 (by decide) (fun c9 => ?_) (fun c9 => ?_)
        · have h := if_t c9 h
          exact J48 s4 _ _ _ ⟨hP, hS, lv_sub hl [] rfl, h⟩
        · have h := if_f c9 h
          refine lv_aload_n hx hb dX1_lowerRoot_35 rfl (lv_at hl 1 rfl) ?_
          refine va_get (D := D) (ci := 1) (v := .ref (a 53)) (C := RX1) (T := TX1) (N := 9) hx hb ht inX1 hown hK hP 49 CW_49 rfl 0 (by decide) (ht (.fieldLink RX1 12 "CloneVolumes$Forest" "now" "LCloneVolumes$State;") fl_X1_12) (fun _ h9 => h9) rfl dX1_lowerRoot_36 ?_
          refine va_get (D := D) (ci := 8) (v := .ref (a 57)) (C := RX8) (T := TX8) (N := 11) hx hb ht inX8 hown hK hP 53 CW_53 rfl 6 (by decide) (ht (.fieldLink RX1 155 "CloneVolumes$State" "size" "[I") fl_X1_155) (fun _ h9 => h9) rfl dX1_lowerRoot_39 ?_
          refine lv_iload_n hx hb dX1_lowerRoot_42 rfl (lv_at hl 0 rfl) ?_
          obtain ⟨y10, ey10, iy10, h⟩ := rdI_e h
          refine ya_iald hx hb hK hP 57 0 CW_57 rfl ey10 iy10 dX1_lowerRoot_43 ?_
          refine lv_iconst (v := 1) hx hb dX1_lowerRoot_44 (by decide) ?_
          refine lv_icmp_eq (tgt := 49) hx hb dX1_lowerRoot_45 (by decide) (fun c11 => ?_) (fun c11 => ?_)
          · have h := if_t c11 h
            refine lv_aload_n hx hb dX1_lowerRoot_49 rfl (lv_at hl 1 rfl) ?_
            refine va_get (D := D) (ci := 1) (v := .ref (a 53)) (C := RX1) (T := TX1) (N := 9) hx hb ht inX1 hown hK hP 49 CW_49 rfl 0 (by decide) (ht (.fieldLink RX1 12 "CloneVolumes$Forest" "now" "LCloneVolumes$State;") fl_X1_12) (fun _ h9 => h9) rfl dX1_lowerRoot_50 ?_
            refine va_get (D := D) (ci := 8) (v := .ref (a 59)) (C := RX8) (T := TX8) (N := 11) hx hb ht inX8 hown hK hP 53 CW_53 rfl 8 (by decide) (ht (.fieldLink RX1 217 "CloneVolumes$State" "values" "[I") fl_X1_217) (fun _ h9 => h9) rfl dX1_lowerRoot_53 ?_
            refine lv_aload_n hx hb dX1_lowerRoot_56 rfl (lv_at hl 1 rfl) ?_
            refine va_get (D := D) (ci := 1) (v := .ref (a 53)) (C := RX1) (T := TX1) (N := 9) hx hb ht inX1 hown hK hP 49 CW_49 rfl 0 (by decide) (ht (.fieldLink RX1 12 "CloneVolumes$Forest" "now" "LCloneVolumes$State;") fl_X1_12) (fun _ h9 => h9) rfl dX1_lowerRoot_57 ?_
            refine lv_iload_n hx hb dX1_lowerRoot_60 rfl (lv_at hl 0 rfl) ?_
            refine lv_iconst (v := 0) hx hb dX1_lowerRoot_61 (by decide) ?_
            obtain ⟨r13, hc12, h⟩ := bn_e h
            refine ycV (As := [.int y6, .int 0]) (rest := [.ref (a 59)]) (C := RX8) (n := 2) ⟨hx, hb, hml, hown, ht⟩ (k_x8_slot l D a y6 0 _ _ hc12) (zgV ml_X1_220 im_X8_slot se_X8_slot in_X8 co_X8_slot) rfl rfl (by decide +kernel) ⟨Nat.le_of_ble_eq_true rfl, Nat.le_of_ble_eq_true rfl⟩ hN hK hP hS 53 CW_53 rfl rfl rfl hl.1 rfl (Nat.le_of_ble_eq_true rfl) dX1_lowerRoot_62 ⟨Nat.le_of_ble_eq_true rfl, Nat.le_of_ble_eq_true rfl⟩ (fun H locs hP hS => ?_)
            obtain ⟨y14, ey14, iy14, h⟩ := rdI_e h
            refine ya_iald hx hb hK hP 59 0 CW_59 rfl ey14 iy14 dX1_lowerRoot_65 ?_
            refine lv_istore (lv' := [(4, .int y14), (3, .int y6), (0, .ref (a 49)), (1, .int x2), (2, .int x3)]) hx hb dX1_lowerRoot_66 hl (by decide) rfl (fun ls hl => ?_)
            refine lv_aload_n hx hb dX1_lowerRoot_68 rfl (lv_at hl 2 rfl) ?_
            refine va_get (D := D) (ci := 1) (v := .ref (a 53)) (C := RX1) (T := TX1) (N := 9) hx hb ht inX1 hown hK hP 49 CW_49 rfl 0 (by decide) (ht (.fieldLink RX1 12 "CloneVolumes$Forest" "now" "LCloneVolumes$State;") fl_X1_12) (fun _ h9 => h9) rfl dX1_lowerRoot_69 ?_
            refine va_get (D := D) (ci := 8) (v := .ref (a 54)) (C := RX8) (T := TX8) (N := 11) hx hb ht inX8 hown hK hP 53 CW_53 rfl 3 (by decide) (ht (.fieldLink RX1 181 "CloneVolumes$State" "count" "[I") fl_X1_181) (fun _ h9 => h9) rfl dX1_lowerRoot_72 ?_
            refine lv_iload hx hb dX1_lowerRoot_75 (lv_at hl 0 rfl) ?_
            refine lv_dup2_11 hx hb dX1_lowerRoot_77 rfl rfl ?_
            obtain ⟨y15, ey15, iy15, h⟩ := rdI_e h
            refine ya_iald hx hb hK hP 54 0 CW_54 rfl ey15 iy15 dX1_lowerRoot_78 ?_
            refine lv_iconst (v := 1) hx hb dX1_lowerRoot_79 (by decide) ?_
            refine lv_iadd hx hb dX1_lowerRoot_80 ?_
            obtain ⟨hi16, h⟩ := inb_e h
            refine ya_iast hx hb hK hP (hDD _) hS 54 0 CW_54 rfl hi16 dX1_lowerRoot_81 (CW_w54 _) (fun H locs hP hS => ?_)
            obtain ⟨s17, hs17, h⟩ := st_e h
            rw [hs17] at hP
            refine lv_aload_n hx hb dX1_lowerRoot_82 rfl (lv_at hl 2 rfl) ?_
            refine va_get (D := D) (ci := 1) (v := .ref (a 53)) (C := RX1) (T := TX1) (N := 9) hx hb ht inX1 hown hK hP 49 CW_49 rfl 0 (by decide) (ht (.fieldLink RX1 12 "CloneVolumes$Forest" "now" "LCloneVolumes$State;") fl_X1_12) (fun _ h9 => h9) rfl dX1_lowerRoot_83 ?_
            refine va_get (D := D) (ci := 8) (v := .ref (a 60)) (C := RX8) (T := TX8) (N := 11) hx hb ht inX8 hown hK hP 53 CW_53 rfl 9 (by decide) (ht (.fieldLink RX1 69 "CloneVolumes$State" "roots" "[I") fl_X1_69) (fun _ h9 => h9) rfl dX1_lowerRoot_86 ?_
            refine lv_iload_n hx hb dX1_lowerRoot_89 rfl (lv_at hl 3 rfl) ?_
            refine lv_iload hx hb dX1_lowerRoot_90 (lv_at hl 0 rfl) ?_
            obtain ⟨hi18, h⟩ := inb_e h
            refine ya_iast hx hb hK hP (hDD _) hS 60 0 CW_60 rfl hi18 dX1_lowerRoot_92 (CW_w60 _) (fun H locs hP hS => ?_)
            obtain ⟨s19, hs19, h⟩ := st_e h
            rw [hs19] at hP
            refine lv_aload_n hx hb dX1_lowerRoot_93 rfl (lv_at hl 2 rfl) ?_
            refine lv_iload_n hx hb dX1_lowerRoot_94 rfl (lv_at hl 1 rfl) ?_
            refine lv_aload_n hx hb dX1_lowerRoot_95 rfl (lv_at hl 2 rfl) ?_
            refine va_get (D := D) (ci := 1) (v := .ref (a 53)) (C := RX1) (T := TX1) (N := 9) hx hb ht inX1 hown hK hP 49 CW_49 rfl 0 (by decide) (ht (.fieldLink RX1 12 "CloneVolumes$Forest" "now" "LCloneVolumes$State;") fl_X1_12) (fun _ h9 => h9) rfl dX1_lowerRoot_96 ?_
            refine va_get (D := D) (ci := 8) (v := .ref (a 54)) (C := RX8) (T := TX8) (N := 11) hx hb ht inX8 hown hK hP 53 CW_53 rfl 3 (by decide) (ht (.fieldLink RX1 181 "CloneVolumes$State" "count" "[I") fl_X1_181) (fun _ h9 => h9) rfl dX1_lowerRoot_99 ?_
            obtain ⟨⟨r22, s21⟩, hc20, h⟩ := bn_e h
            refine ywV (r0 := r22) (As := [.int y6, .ref (a 54)]) (rest := []) (C := RX1) (n := 2) (ws' := CS D a s21) ⟨hx, hb, hml, hown, ht⟩ (k_x1_release_v2 l D a y6 _ _ _ hc20) (zgV ml_X1_223 im_X1_release se_X1_release in_X1 co_X1_release) rfl rfl (by decide +kernel) ⟨Nat.le_of_ble_eq_true rfl, Nat.le_of_ble_eq_true rfl⟩ hN hK hP (hDD _) hS hA 49 CW_49 rfl rfl rfl hl.1 rfl (Nat.le_of_ble_eq_true rfl) dX1_lowerRoot_102 ⟨Nat.le_of_ble_eq_true rfl, Nat.le_of_ble_eq_true rfl⟩ (fun H locs hP hS => ?_)
            refine lv_pop hx hb dX1_lowerRoot_105 rfl ?_
            refine lv_iinc (v := x3 + 1) (lv' := [(2, .int (x3 + 1)), (4, .int y14), (3, .int y6), (0, .ref (a 49)), (1, .int x2)]) hx hb dX1_lowerRoot_106 hl (k := 4) rfl rfl (by decide) rfl (fun ls hl => ?_)
            refine lv_goto (tgt := 2) hx hb dX1_lowerRoot_109 (by decide) ?_
            exact ih2 (x2, x3 + 1, s21) _ _ _ ⟨hP, hS, lv_sub hl [3, 4, 0] rfl, h⟩
          · have h := if_f c11 h
            exact J48 s4 _ _ _ ⟨hP, hS, lv_sub hl [] rfl, h⟩
  refine lv_iconst (v := 0) hx hb dX1_lowerRoot_0 (by decide) ?_
  refine lv_istore_n (lv' := [(2, .int 0), (0, .ref (a 49)), (1, .int p0)]) hx hb dX1_lowerRoot_1 rfl hl (by decide) rfl (fun ls hl => ?_)
  exact J2 FU (p0, 0, s) _ _ _ ⟨hP, hS, lv_sub hl [1, 2, 0] rfl, h⟩
def m_x1_uproot_b55 (lr55 : Int32 → Int32 → Int32 → Int32 → Int32 → MS → Option (Int32 × MS)) (x1 : Int32) (x2 : Int32) (x3 : Int32) (x4 : Int32) (x5 : Int32) (s6 : MS) : Option (Int32 × MS) :=
  if x3 ≤ x5 then bn (m_x1_prune x1 x2 x3 s6) (fun s9 => bn (m_x1_lowerRoot x1 s9) (fun s11 => some (1, s11))) else bn (m_x8_entryFor x4 x2 s6) (fun r13 => bn (m_x8_slot x4 r13 s6) (fun r15 => rdI (gA s6 59) 288 r15 (fun y16 => bn (m_x1_owned y16 s6) (fun qr19 => if qr19.1 = (-1) then some (0, qr19.2) else bn (m_x8_set x4 r13 qr19.1 qr19.2) (fun s22 => inb 48 x5 (stn (sA s22 51 (upd (gA s22 51) (Int32.toNatClampNeg x5) r13)) (fun s24 => lr55 x1 x2 x3 qr19.1 (x5 + 1) s24)))))))
def m_x1_uproot_L55 (n : Nat) : Int32 → Int32 → Int32 → Int32 → Int32 → MS → Option (Int32 × MS) := lp (fun _ _ _ _ _ _ => none) (m_x1_uproot_b55) n
def m_x1_uproot (p0 : Int32) (p1 : Int32) (s : MS) : Option (Int32 × MS) :=
  rdI (gA s 60) 8 p0 (fun y25 => rdI (gA s 56) 48 y25 (fun y26 => rdI (gA s 60) 8 p0 (fun y27 => bn (m_x1_owned y27 s) (fun qr30 => if qr30.1 = (-1) then some (0, qr30.2) else inb 8 p0 (stn (sA qr30.2 60 (upd (gA qr30.2 60) (Int32.toNatClampNeg p0) qr30.1)) (fun s33 => m_x1_uproot_L55 FU p0 p1 y26 qr30.1 0 s33))))))
set_option maxHeartbeats 4000000 in
set_option maxRecDepth 100000 in
theorem k_x1_uproot (l : Launch) (D : va_G) (a : Nat → Nat) (p0 : Int32) (p1 : Int32) (sz : Nat) (s : MS) (o : (Int32 × MS)) (h : m_x1_uproot p0 p1 s = some o) : yWi l yX1_uproot cX1_uproot 8 (some .boolean) { frames := 4, cells := 0, slots := 0, locals := 240 } D sz [.ref (a 49), .int p0, .int p1] (CS D a s) (CS D a o.2) o.1 := by
  refine Met.ofW (cc := cX1_uproot) (maxL := 8) (ret := (some .boolean)) (by decide) rfl ?_
  intro p e s₀ m args below meth c s₁ B hml hv
  obtain ⟨rfl, ⟨hsz, hP, hK, hD0⟩, hN⟩ := hv
  have hx := B.exec
  have hb := B.bytes
  have hr := B.returns
  have hts := atoms_spec (ws := wz yX1_uproot cX1_uproot 8 (some .boolean)) B.pre
  have ht : ∀ w ∈ lw_gd, w.before _ s₀ = true := fun w h => hts w (List.mem_cons_of_mem _ h)
  have hown : s₀.vm.findClass RX1 = some m.cls := findClass_of_methodNamed B.named
  have hlocks := B.notSynchronized
  subst hsz
  have hD := hD0.self (sz := s₀.heap.size)
  generalize hAe : va_A (CS D a s) s₀.heap.size = A at hD ⊢
  have hA : ∀ q : Nat, s₀.heap.size ≤ q → A q := fun q h => by rw [← hAe]; exact Or.inr h
  have hS : va_S A s₀.heap s₀.heap [] := va_S.rf
  have hDD : ∀ t : MS, va_D A (CS D a t) := fun t => CW_D t hD
  have hl := lv_entry ([.ref (a 49), .int p0, .int p1]) (n := 8) (Nat.le_of_ble_eq_true rfl)
  rw [lg_entry_eq]
  generalize (lg_sl ([.ref (a 49), .int p0, .int p1]) ++ List.replicate (8 - (lg_sl ([.ref (a 49), .int p0, .int p1])).length) Slot.unset).toArray = ls at hl ⊢
  have hl : lv_has ls 8 [(0, .ref (a 49)), (1, .int p0), (2, .int p1)] := hl
  unfold m_x1_uproot at h
  refine y_loop (pcJ := 55) (σ := Int32 × Int32 × Int32 × Int32 × Int32 × MS) (fun n u H locs ls => va_P D vwCl (CS D a u.2.2.2.2.2) H ∧ va_S A s₀.heap H locs ∧ lv_has ls 8 [(0, .ref (a 49)), (1, .int u.1), (2, .int u.2.1), (3, .int u.2.2.1), (4, .int u.2.2.2.1), (5, .int u.2.2.2.2.1)] ∧ m_x1_uproot_L55 n u.1 u.2.1 u.2.2.1 u.2.2.2.1 u.2.2.2.2.1 u.2.2.2.2.2 = some o) (fun u => []) (fun u H locs ls hI => by obtain ⟨_, _, _, h⟩ := hI; cases h) (fun n55 ih55 u H locs ls hI => ?_) (fun J55 => ?_)
  · obtain ⟨hP, hS, hl, h⟩ := hI
    obtain ⟨x1, x2, x3, x4, x5, s6⟩ := u
    have hP : va_P D vwCl (CS D a s6) H := hP
    have hl : lv_has ls 8 [(0, .ref (a 49)), (1, .int x1), (2, .int x2), (3, .int x3), (4, .int x4), (5, .int x5)] := hl
    have h : m_x1_uproot_b55 (m_x1_uproot_L55 n55) x1 x2 x3 x4 x5 s6 = some o := h
    unfold m_x1_uproot_b55 at h
    refine lv_iload hx hb dX1_uproot_55 (lv_at hl 5 rfl) ?_
    refine lv_iload_n hx hb dX1_uproot_57 rfl (lv_at hl 3 rfl) ?_
    refine lv_icmp_ge (tgt := 138) hx hb dX1_uproot_58 (by decide) (fun c7 => ?_) (fun c7 => ?_)
    · have h := if_t c7 h
      refine lv_aload_n hx hb dX1_uproot_138 rfl (lv_at hl 0 rfl) ?_
      refine lv_iload_n hx hb dX1_uproot_139 rfl (lv_at hl 1 rfl) ?_
      refine lv_iload_n hx hb dX1_uproot_140 rfl (lv_at hl 2 rfl) ?_
      refine lv_iload_n hx hb dX1_uproot_141 rfl (lv_at hl 3 rfl) ?_
      obtain ⟨s9, hc8, h⟩ := bn_e h
      refine ywVv (As := [.int x1, .int x2, .int x3]) (rest := []) (C := RX1) (n := 3) (ws' := CS D a s9) ⟨hx, hb, hml, hown, ht⟩ (k_x1_prune l D a x1 x2 x3 _ _ _ hc8) (zgV ml_X1_268 im_X1_prune se_X1_prune in_X1 co_X1_prune) rfl rfl (by decide +kernel) ⟨Nat.le_of_ble_eq_true rfl, Nat.le_of_ble_eq_true rfl⟩ hN hK hP (hDD _) hS hA 49 CW_49 rfl rfl rfl hl.1 rfl (Nat.le_of_ble_eq_true rfl) dX1_uproot_142 ⟨Nat.le_of_ble_eq_true rfl, Nat.le_of_ble_eq_true rfl⟩ (fun H locs hP hS => ?_)
      refine lv_aload_n hx hb dX1_uproot_145 rfl (lv_at hl 0 rfl) ?_
      refine lv_iload_n hx hb dX1_uproot_146 rfl (lv_at hl 1 rfl) ?_
      obtain ⟨s11, hc10, h⟩ := bn_e h
      refine ywVv (As := [.int x1]) (rest := []) (C := RX1) (n := 1) (ws' := CS D a s11) ⟨hx, hb, hml, hown, ht⟩ (k_x1_lowerRoot l D a x1 _ _ _ hc10) (zgV ml_X1_271 im_X1_lowerRoot se_X1_lowerRoot in_X1 co_X1_lowerRoot) rfl rfl (by decide +kernel) ⟨Nat.le_of_ble_eq_true rfl, Nat.le_of_ble_eq_true rfl⟩ hN hK hP (hDD _) hS hA 49 CW_49 rfl rfl rfl hl.1 rfl (Nat.le_of_ble_eq_true rfl) dX1_uproot_147 ⟨Nat.le_of_ble_eq_true rfl, Nat.le_of_ble_eq_true rfl⟩ (fun H locs hP hS => ?_)
      refine lv_iconst (v := 1) hx hb dX1_uproot_150 (by decide) ?_
      obtain rfl := Option.some.inj h
      exact W.zret (v := 1) hx hb hr (by decide) (fun t ht hW => ⟨⟨_, (), rfl, rfl, by rw [ht]; exact hP, va_K.moved hW.alike hK, hDD _⟩, hS.F ht⟩) hS.2.2 dX1_uproot_151
    · have h := if_f c7 h
      refine lv_aload_n hx hb dX1_uproot_61 rfl (lv_at hl 0 rfl) ?_
      refine va_get (D := D) (ci := 1) (v := .ref (a 53)) (C := RX1) (T := TX1) (N := 9) hx hb ht inX1 hown hK hP 49 CW_49 rfl 0 (by decide) (ht (.fieldLink RX1 12 "CloneVolumes$Forest" "now" "LCloneVolumes$State;") fl_X1_12) (fun _ h9 => h9) rfl dX1_uproot_62 ?_
      refine lv_iload hx hb dX1_uproot_65 (lv_at hl 4 rfl) ?_
      refine lv_iload_n hx hb dX1_uproot_67 rfl (lv_at hl 2 rfl) ?_
      obtain ⟨r13, hc12, h⟩ := bn_e h
      refine ycV (As := [.int x4, .int x2]) (rest := []) (C := RX8) (n := 2) ⟨hx, hb, hml, hown, ht⟩ (k_x8_entryFor l D a x4 x2 _ _ hc12) (zgV ml_X1_249 im_X8_entryFor se_X8_entryFor in_X8 co_X8_entryFor) rfl rfl (by decide +kernel) ⟨Nat.le_of_ble_eq_true rfl, Nat.le_of_ble_eq_true rfl⟩ hN hK hP hS 53 CW_53 rfl rfl rfl hl.1 rfl (Nat.le_of_ble_eq_true rfl) dX1_uproot_68 ⟨Nat.le_of_ble_eq_true rfl, Nat.le_of_ble_eq_true rfl⟩ (fun H locs hP hS => ?_)
      refine lv_istore (lv' := [(6, .int r13), (0, .ref (a 49)), (1, .int x1), (2, .int x2), (3, .int x3), (4, .int x4), (5, .int x5)]) hx hb dX1_uproot_71 hl (by decide) rfl (fun ls hl => ?_)
      refine lv_aload_n hx hb dX1_uproot_73 rfl (lv_at hl 1 rfl) ?_
      refine lv_aload_n hx hb dX1_uproot_74 rfl (lv_at hl 1 rfl) ?_
      refine va_get (D := D) (ci := 1) (v := .ref (a 53)) (C := RX1) (T := TX1) (N := 9) hx hb ht inX1 hown hK hP 49 CW_49 rfl 0 (by decide) (ht (.fieldLink RX1 12 "CloneVolumes$Forest" "now" "LCloneVolumes$State;") fl_X1_12) (fun _ h9 => h9) rfl dX1_uproot_75 ?_
      refine va_get (D := D) (ci := 8) (v := .ref (a 59)) (C := RX8) (T := TX8) (N := 11) hx hb ht inX8 hown hK hP 53 CW_53 rfl 8 (by decide) (ht (.fieldLink RX1 217 "CloneVolumes$State" "values" "[I") fl_X1_217) (fun _ h9 => h9) rfl dX1_uproot_78 ?_
      refine lv_aload_n hx hb dX1_uproot_81 rfl (lv_at hl 1 rfl) ?_
      refine va_get (D := D) (ci := 1) (v := .ref (a 53)) (C := RX1) (T := TX1) (N := 9) hx hb ht inX1 hown hK hP 49 CW_49 rfl 0 (by decide) (ht (.fieldLink RX1 12 "CloneVolumes$Forest" "now" "LCloneVolumes$State;") fl_X1_12) (fun _ h9 => h9) rfl dX1_uproot_82 ?_
      refine lv_iload hx hb dX1_uproot_85 (lv_at hl 5 rfl) ?_
      refine lv_iload hx hb dX1_uproot_87 (lv_at hl 0 rfl) ?_
      obtain ⟨r15, hc14, h⟩ := bn_e h
      refine ycV (As := [.int x4, .int r13]) (rest := [.ref (a 59), .ref (a 49)]) (C := RX8) (n := 2) ⟨hx, hb, hml, hown, ht⟩ (k_x8_slot l D a x4 r13 _ _ hc14) (zgV ml_X1_220 im_X8_slot se_X8_slot in_X8 co_X8_slot) rfl rfl (by decide +kernel) ⟨Nat.le_of_ble_eq_true rfl, Nat.le_of_ble_eq_true rfl⟩ hN hK hP hS 53 CW_53 rfl rfl rfl hl.1 rfl (Nat.le_of_ble_eq_true rfl) dX1_uproot_89 ⟨Nat.le_of_ble_eq_true rfl, Nat.le_of_ble_eq_true rfl⟩ (fun H locs hP hS => ?_)
      obtain ⟨y16, ey16, iy16, h⟩ := rdI_e h
      refine ya_iald hx hb hK hP 59 0 CW_59 rfl ey16 iy16 dX1_uproot_92 ?_
      obtain ⟨⟨r19, s18⟩, hc17, h⟩ := bn_e h
      refine ywV (r0 := r19) (As := [.int y16]) (rest := []) (C := RX1) (n := 1) (ws' := CS D a s18) ⟨hx, hb, hml, hown, ht⟩ (k_x1_owned l D a y16 _ _ _ hc17) (zgV ml_X1_236 im_X1_owned se_X1_owned in_X1 co_X1_owned) rfl rfl (by decide +kernel) ⟨Nat.le_of_ble_eq_true rfl, Nat.le_of_ble_eq_true rfl⟩ hN hK hP (hDD _) hS hA 49 CW_49 rfl rfl rfl hl.1 rfl (Nat.le_of_ble_eq_true rfl) dX1_uproot_93 ⟨Nat.le_of_ble_eq_true rfl, Nat.le_of_ble_eq_true rfl⟩ (fun H locs hP hS => ?_)
      refine lv_istore (lv' := [(7, .int r19), (6, .int r13), (0, .ref (a 49)), (1, .int x1), (2, .int x2), (3, .int x3), (4, .int x4), (5, .int x5)]) hx hb dX1_uproot_96 hl (by decide) rfl (fun ls hl => ?_)
      refine lv_iload hx hb dX1_uproot_98 (lv_at hl 0 rfl) ?_
      refine lv_iconst (v := (-1)) hx hb dX1_uproot_100 (by decide) ?_
      refine lv_icmp_ne (tgt := 106) hx hb dX1_uproot_101 (by decide) (fun c20 => ?_) (fun c20 => ?_)
      · have h := if_f c20 h
        refine lv_aload_n hx hb dX1_uproot_106 rfl (lv_at hl 2 rfl) ?_
        refine va_get (D := D) (ci := 1) (v := .ref (a 53)) (C := RX1) (T := TX1) (N := 9) hx hb ht inX1 hown hK hP 49 CW_49 rfl 0 (by decide) (ht (.fieldLink RX1 12 "CloneVolumes$Forest" "now" "LCloneVolumes$State;") fl_X1_12) (fun _ h9 => h9) rfl dX1_uproot_107 ?_
        refine lv_iload hx hb dX1_uproot_110 (lv_at hl 6 rfl) ?_
        refine lv_iload hx hb dX1_uproot_112 (lv_at hl 1 rfl) ?_
        refine lv_iload hx hb dX1_uproot_114 (lv_at hl 0 rfl) ?_
        obtain ⟨s22, hc21, h⟩ := bn_e h
        refine ywVv (As := [.int x4, .int r13, .int r19]) (rest := []) (C := RX8) (n := 3) (ws' := CS D a s22) ⟨hx, hb, hml, hown, ht⟩ (k_x8_set l D a x4 r13 r19 _ _ _ hc21) (zgV ml_X1_252 im_X8_set se_X8_set in_X8 co_X8_set) rfl rfl (by decide +kernel) ⟨Nat.le_of_ble_eq_true rfl, Nat.le_of_ble_eq_true rfl⟩ hN hK hP (hDD _) hS hA 53 CW_53 rfl rfl rfl hl.1 rfl (Nat.le_of_ble_eq_true rfl) dX1_uproot_116 ⟨Nat.le_of_ble_eq_true rfl, Nat.le_of_ble_eq_true rfl⟩ (fun H locs hP hS => ?_)
        refine lv_aload_n hx hb dX1_uproot_119 rfl (lv_at hl 2 rfl) ?_
        refine va_get (D := D) (ci := 1) (v := .ref (a 51)) (C := RX1) (T := TX1) (N := 9) hx hb ht inX1 hown hK hP 49 CW_49 rfl 7 (by decide) (ht (.fieldLink RX1 41 "CloneVolumes$Forest" "turns" "[I") fl_X1_41) (fun _ h9 => h9) rfl dX1_uproot_120 ?_
        refine lv_iload hx hb dX1_uproot_123 (lv_at hl 7 rfl) ?_
        refine lv_iload hx hb dX1_uproot_125 (lv_at hl 1 rfl) ?_
        obtain ⟨hi23, h⟩ := inb_e h
        refine ya_iast hx hb hK hP (hDD _) hS 51 0 CW_51 rfl hi23 dX1_uproot_127 (CW_w51 _) (fun H locs hP hS => ?_)
        obtain ⟨s24, hs24, h⟩ := st_e h
        rw [hs24] at hP
        refine lv_iload hx hb dX1_uproot_128 (lv_at hl 0 rfl) ?_
        refine lv_istore (lv' := [(4, .int r19), (7, .int r19), (6, .int r13), (0, .ref (a 49)), (1, .int x1), (2, .int x2), (3, .int x3), (5, .int x5)]) hx hb dX1_uproot_130 hl (by decide) rfl (fun ls hl => ?_)
        refine lv_iinc (v := x5 + 1) (lv' := [(5, .int (x5 + 1)), (4, .int r19), (7, .int r19), (6, .int r13), (0, .ref (a 49)), (1, .int x1), (2, .int x2), (3, .int x3)]) hx hb dX1_uproot_132 hl (k := 7) rfl rfl (by decide) rfl (fun ls hl => ?_)
        refine lv_goto (tgt := 55) hx hb dX1_uproot_135 (by decide) ?_
        exact ih55 (x1, x2, x3, r19, x5 + 1, s24) _ _ _ ⟨hP, hS, lv_sub hl [4, 5, 6, 7, 1, 0] rfl, h⟩
      · have h := if_t c20 h
        refine lv_iconst (v := 0) hx hb dX1_uproot_104 (by decide) ?_
        obtain rfl := Option.some.inj h
        exact W.zret (v := 0) hx hb hr (by decide) (fun t ht hW => ⟨⟨_, (), rfl, rfl, by rw [ht]; exact hP, va_K.moved hW.alike hK, hDD _⟩, hS.F ht⟩) hS.2.2 dX1_uproot_105
  refine lv_aload_n hx hb dX1_uproot_0 rfl (lv_at hl 0 rfl) ?_
  refine va_get (D := D) (ci := 1) (v := .ref (a 53)) (C := RX1) (T := TX1) (N := 9) hx hb ht inX1 hown hK hP 49 CW_49 rfl 0 (by decide) (ht (.fieldLink RX1 12 "CloneVolumes$Forest" "now" "LCloneVolumes$State;") fl_X1_12) (fun _ h9 => h9) rfl dX1_uproot_1 ?_
  refine va_get (D := D) (ci := 8) (v := .ref (a 56)) (C := RX8) (T := TX8) (N := 11) hx hb ht inX8 hown hK hP 53 CW_53 rfl 5 (by decide) (ht (.fieldLink RX1 150 "CloneVolumes$State" "level" "[I") fl_X1_150) (fun _ h9 => h9) rfl dX1_uproot_4 ?_
  refine lv_aload_n hx hb dX1_uproot_7 rfl (lv_at hl 0 rfl) ?_
  refine va_get (D := D) (ci := 1) (v := .ref (a 53)) (C := RX1) (T := TX1) (N := 9) hx hb ht inX1 hown hK hP 49 CW_49 rfl 0 (by decide) (ht (.fieldLink RX1 12 "CloneVolumes$Forest" "now" "LCloneVolumes$State;") fl_X1_12) (fun _ h9 => h9) rfl dX1_uproot_8 ?_
  refine va_get (D := D) (ci := 8) (v := .ref (a 60)) (C := RX8) (T := TX8) (N := 11) hx hb ht inX8 hown hK hP 53 CW_53 rfl 9 (by decide) (ht (.fieldLink RX1 69 "CloneVolumes$State" "roots" "[I") fl_X1_69) (fun _ h9 => h9) rfl dX1_uproot_11 ?_
  refine lv_iload_n hx hb dX1_uproot_14 rfl (lv_at hl 1 rfl) ?_
  obtain ⟨y25, ey25, iy25, h⟩ := rdI_e h
  refine ya_iald hx hb hK hP 60 0 CW_60 rfl ey25 iy25 dX1_uproot_15 ?_
  obtain ⟨y26, ey26, iy26, h⟩ := rdI_e h
  refine ya_iald hx hb hK hP 56 0 CW_56 rfl ey26 iy26 dX1_uproot_16 ?_
  refine lv_istore_n (lv' := [(3, .int y26), (0, .ref (a 49)), (1, .int p0), (2, .int p1)]) hx hb dX1_uproot_17 rfl hl (by decide) rfl (fun ls hl => ?_)
  refine lv_aload_n hx hb dX1_uproot_18 rfl (lv_at hl 1 rfl) ?_
  refine lv_aload_n hx hb dX1_uproot_19 rfl (lv_at hl 1 rfl) ?_
  refine va_get (D := D) (ci := 1) (v := .ref (a 53)) (C := RX1) (T := TX1) (N := 9) hx hb ht inX1 hown hK hP 49 CW_49 rfl 0 (by decide) (ht (.fieldLink RX1 12 "CloneVolumes$Forest" "now" "LCloneVolumes$State;") fl_X1_12) (fun _ h9 => h9) rfl dX1_uproot_20 ?_
  refine va_get (D := D) (ci := 8) (v := .ref (a 60)) (C := RX8) (T := TX8) (N := 11) hx hb ht inX8 hown hK hP 53 CW_53 rfl 9 (by decide) (ht (.fieldLink RX1 69 "CloneVolumes$State" "roots" "[I") fl_X1_69) (fun _ h9 => h9) rfl dX1_uproot_23 ?_
  refine lv_iload_n hx hb dX1_uproot_26 rfl (lv_at hl 2 rfl) ?_
  obtain ⟨y27, ey27, iy27, h⟩ := rdI_e h
  refine ya_iald hx hb hK hP 60 0 CW_60 rfl ey27 iy27 dX1_uproot_27 ?_
  obtain ⟨⟨r30, s29⟩, hc28, h⟩ := bn_e h
  refine ywV (r0 := r30) (As := [.int y27]) (rest := []) (C := RX1) (n := 1) (ws' := CS D a s29) ⟨hx, hb, hml, hown, ht⟩ (k_x1_owned l D a y27 _ _ _ hc28) (zgV ml_X1_236 im_X1_owned se_X1_owned in_X1 co_X1_owned) rfl rfl (by decide +kernel) ⟨Nat.le_of_ble_eq_true rfl, Nat.le_of_ble_eq_true rfl⟩ hN hK hP (hDD _) hS hA 49 CW_49 rfl rfl rfl hl.1 rfl (Nat.le_of_ble_eq_true rfl) dX1_uproot_28 ⟨Nat.le_of_ble_eq_true rfl, Nat.le_of_ble_eq_true rfl⟩ (fun H locs hP hS => ?_)
  refine lv_istore (lv' := [(4, .int r30), (3, .int y26), (0, .ref (a 49)), (1, .int p0), (2, .int p1)]) hx hb dX1_uproot_31 hl (by decide) rfl (fun ls hl => ?_)
  refine lv_iload hx hb dX1_uproot_33 (lv_at hl 0 rfl) ?_
  refine lv_iconst (v := (-1)) hx hb dX1_uproot_35 (by decide) ?_
  refine lv_icmp_ne (tgt := 41) hx hb dX1_uproot_36 (by decide) (fun c31 => ?_) (fun c31 => ?_)
  · have h := if_f c31 h
    refine lv_aload_n hx hb dX1_uproot_41 rfl (lv_at hl 2 rfl) ?_
    refine va_get (D := D) (ci := 1) (v := .ref (a 53)) (C := RX1) (T := TX1) (N := 9) hx hb ht inX1 hown hK hP 49 CW_49 rfl 0 (by decide) (ht (.fieldLink RX1 12 "CloneVolumes$Forest" "now" "LCloneVolumes$State;") fl_X1_12) (fun _ h9 => h9) rfl dX1_uproot_42 ?_
    refine va_get (D := D) (ci := 8) (v := .ref (a 60)) (C := RX8) (T := TX8) (N := 11) hx hb ht inX8 hown hK hP 53 CW_53 rfl 9 (by decide) (ht (.fieldLink RX1 69 "CloneVolumes$State" "roots" "[I") fl_X1_69) (fun _ h9 => h9) rfl dX1_uproot_45 ?_
    refine lv_iload_n hx hb dX1_uproot_48 rfl (lv_at hl 3 rfl) ?_
    refine lv_iload hx hb dX1_uproot_49 (lv_at hl 0 rfl) ?_
    obtain ⟨hi32, h⟩ := inb_e h
    refine ya_iast hx hb hK hP (hDD _) hS 60 0 CW_60 rfl hi32 dX1_uproot_51 (CW_w60 _) (fun H locs hP hS => ?_)
    obtain ⟨s33, hs33, h⟩ := st_e h
    rw [hs33] at hP
    refine lv_iconst (v := 0) hx hb dX1_uproot_52 (by decide) ?_
    refine lv_istore (lv' := [(5, .int 0), (4, .int r30), (3, .int y26), (0, .ref (a 49)), (1, .int p0), (2, .int p1)]) hx hb dX1_uproot_53 hl (by decide) rfl (fun ls hl => ?_)
    exact J55 FU (p0, p1, y26, r30, 0, s33) _ _ _ ⟨hP, hS, lv_sub hl [3, 4, 5, 2, 1, 0] rfl, h⟩
  · have h := if_t c31 h
    refine lv_iconst (v := 0) hx hb dX1_uproot_39 (by decide) ?_
    obtain rfl := Option.some.inj h
    exact W.zret (v := 0) hx hb hr (by decide) (fun t ht hW => ⟨⟨_, (), rfl, rfl, by rw [ht]; exact hP, va_K.moved hW.alike hK, hDD _⟩, hS.F ht⟩) hS.2.2 dX1_uproot_40
def m_x1_tryUproot_J56 (x1 : Int32) (s2 : MS) : Option (Int32 × MS) :=
  bo x1 (some (x1, s2))
def m_x1_tryUproot (p0 : Int32) (p1 : Int32) (s : MS) : Option (Int32 × MS) :=
  rdI (gA s 60) 8 p0 (fun y4 => bn (m_x8_valueAt y4 p1 s) (fun r6 => if r6 = (-1) then some (0, s) else bn (m_x8_become_v3 s) (fun s9 => bn (m_x1_uproot p0 p1 s9) (fun qr12 => if qr12.1 = 0 then bn (m_x8_become_v4 qr12.2) (fun s15 => m_x1_tryUproot_J56 qr12.1 s15) else m_x1_tryUproot_J56 qr12.1 qr12.2))))
set_option maxHeartbeats 4000000 in
set_option maxRecDepth 100000 in
theorem k_x1_tryUproot (l : Launch) (D : va_G) (a : Nat → Nat) (p0 : Int32) (p1 : Int32) (sz : Nat) (s : MS) (o : (Int32 × MS)) (h : m_x1_tryUproot p0 p1 s = some o) : yWi l yX1_tryUproot cX1_tryUproot 4 (some .boolean) { frames := 5, cells := 0, slots := 0, locals := 300 } D sz [.ref (a 49), .int p0, .int p1] (CS D a s) (CS D a o.2) o.1 := by
  refine Met.ofW (cc := cX1_tryUproot) (maxL := 4) (ret := (some .boolean)) (by decide) rfl ?_
  intro p e s₀ m args below meth c s₁ B hml hv
  obtain ⟨rfl, ⟨hsz, hP, hK, hD0⟩, hN⟩ := hv
  have hx := B.exec
  have hb := B.bytes
  have hr := B.returns
  have hts := atoms_spec (ws := wz yX1_tryUproot cX1_tryUproot 4 (some .boolean)) B.pre
  have ht : ∀ w ∈ lw_gd, w.before _ s₀ = true := fun w h => hts w (List.mem_cons_of_mem _ h)
  have hown : s₀.vm.findClass RX1 = some m.cls := findClass_of_methodNamed B.named
  have hlocks := B.notSynchronized
  subst hsz
  have hD := hD0.self (sz := s₀.heap.size)
  generalize hAe : va_A (CS D a s) s₀.heap.size = A at hD ⊢
  have hA : ∀ q : Nat, s₀.heap.size ≤ q → A q := fun q h => by rw [← hAe]; exact Or.inr h
  have hS : va_S A s₀.heap s₀.heap [] := va_S.rf
  have hDD : ∀ t : MS, va_D A (CS D a t) := fun t => CW_D t hD
  have hl := lv_entry ([.ref (a 49), .int p0, .int p1]) (n := 4) (Nat.le_of_ble_eq_true rfl)
  rw [lg_entry_eq]
  generalize (lg_sl ([.ref (a 49), .int p0, .int p1]) ++ List.replicate (4 - (lg_sl ([.ref (a 49), .int p0, .int p1])).length) Slot.unset).toArray = ls at hl ⊢
  have hl : lv_has ls 4 [(0, .ref (a 49)), (1, .int p0), (2, .int p1)] := hl
  unfold m_x1_tryUproot at h
  refine y_head (pcJ := 56) (σ := Int32 × MS) (fun u H locs ls => va_P D vwCl (CS D a u.2) H ∧ va_S A s₀.heap H locs ∧ lv_has ls 4 [(3, .int u.1)] ∧ m_x1_tryUproot_J56 u.1 u.2 = some o) (fun u => []) (fun u H locs ls hI => ?_) (fun J56 => ?_)
  · obtain ⟨hP, hS, hl, h⟩ := hI
    obtain ⟨x1, s2⟩ := u
    have hP : va_P D vwCl (CS D a s2) H := hP
    have hl : lv_has ls 4 [(3, .int x1)] := hl
    have h : m_x1_tryUproot_J56 x1 s2 = some o := h
    unfold m_x1_tryUproot_J56 at h
    refine lv_iload_n hx hb dX1_tryUproot_56 rfl (lv_at hl 0 rfl) ?_
    obtain ⟨hb3, h⟩ := bo_e h
    obtain rfl := Option.some.inj h
    exact W.zret (v := x1) hx hb hr (bo_n hb3) (fun t ht hW => ⟨⟨_, (), rfl, rfl, by rw [ht]; exact hP, va_K.moved hW.alike hK, hDD _⟩, hS.F ht⟩) hS.2.2 dX1_tryUproot_57
  refine lv_aload_n hx hb dX1_tryUproot_0 rfl (lv_at hl 0 rfl) ?_
  refine va_get (D := D) (ci := 1) (v := .ref (a 53)) (C := RX1) (T := TX1) (N := 9) hx hb ht inX1 hown hK hP 49 CW_49 rfl 0 (by decide) (ht (.fieldLink RX1 12 "CloneVolumes$Forest" "now" "LCloneVolumes$State;") fl_X1_12) (fun _ h9 => h9) rfl dX1_tryUproot_1 ?_
  refine lv_aload_n hx hb dX1_tryUproot_4 rfl (lv_at hl 0 rfl) ?_
  refine va_get (D := D) (ci := 1) (v := .ref (a 53)) (C := RX1) (T := TX1) (N := 9) hx hb ht inX1 hown hK hP 49 CW_49 rfl 0 (by decide) (ht (.fieldLink RX1 12 "CloneVolumes$Forest" "now" "LCloneVolumes$State;") fl_X1_12) (fun _ h9 => h9) rfl dX1_tryUproot_5 ?_
  refine va_get (D := D) (ci := 8) (v := .ref (a 60)) (C := RX8) (T := TX8) (N := 11) hx hb ht inX8 hown hK hP 53 CW_53 rfl 9 (by decide) (ht (.fieldLink RX1 69 "CloneVolumes$State" "roots" "[I") fl_X1_69) (fun _ h9 => h9) rfl dX1_tryUproot_8 ?_
  refine lv_iload_n hx hb dX1_tryUproot_11 rfl (lv_at hl 1 rfl) ?_
  obtain ⟨y4, ey4, iy4, h⟩ := rdI_e h
  refine ya_iald hx hb hK hP 60 0 CW_60 rfl ey4 iy4 dX1_tryUproot_12 ?_
  refine lv_iload_n hx hb dX1_tryUproot_13 rfl (lv_at hl 2 rfl) ?_
  obtain ⟨r6, hc5, h⟩ := bn_e h
  refine ycV (As := [.int y4, .int p1]) (rest := []) (C := RX8) (n := 2) ⟨hx, hb, hml, hown, ht⟩ (k_x8_valueAt l D a y4 p1 _ _ hc5) (zgV ml_X1_138 im_X8_valueAt se_X8_valueAt in_X8 co_X8_valueAt) rfl rfl (by decide +kernel) ⟨Nat.le_of_ble_eq_true rfl, Nat.le_of_ble_eq_true rfl⟩ hN hK hP hS 53 CW_53 rfl rfl rfl hl.1 rfl (Nat.le_of_ble_eq_true rfl) dX1_tryUproot_14 ⟨Nat.le_of_ble_eq_true rfl, Nat.le_of_ble_eq_true rfl⟩ (fun H locs hP hS => ?_)
  refine lv_iconst (v := (-1)) hx hb dX1_tryUproot_17 (by decide) ?_
  refine lv_icmp_ne (tgt := 23) hx hb dX1_tryUproot_18 (by decide) (fun c7 => ?_) (fun c7 => ?_)
  · have h := if_f c7 h
    refine lv_aload_n hx hb dX1_tryUproot_23 rfl (lv_at hl 0 rfl) ?_
    refine va_get (D := D) (ci := 1) (v := .ref (a 71)) (C := RX1) (T := TX1) (N := 9) hx hb ht inX1 hown hK hP 49 CW_49 rfl 2 (by decide) (ht (.fieldLink RX1 21 "CloneVolumes$Forest" "inner" "LCloneVolumes$State;") fl_X1_21) (fun _ h9 => h9) rfl dX1_tryUproot_24 ?_
    refine lv_aload_n hx hb dX1_tryUproot_27 rfl (lv_at hl 0 rfl) ?_
    refine va_get (D := D) (ci := 1) (v := .ref (a 53)) (C := RX1) (T := TX1) (N := 9) hx hb ht inX1 hown hK hP 49 CW_49 rfl 0 (by decide) (ht (.fieldLink RX1 12 "CloneVolumes$Forest" "now" "LCloneVolumes$State;") fl_X1_12) (fun _ h9 => h9) rfl dX1_tryUproot_28 ?_
    obtain ⟨s9, hc8, h⟩ := bn_e h
    refine ywVv (As := [.ref (a 53)]) (rest := []) (C := RX8) (n := 1) (ws' := CS D a s9) ⟨hx, hb, hml, hown, ht⟩ (k_x8_become_v3 l D a _ _ _ hc8) (zgV ml_X1_100 im_X8_become se_X8_become in_X8 co_X8_become) rfl rfl (by decide +kernel) ⟨Nat.le_of_ble_eq_true rfl, Nat.le_of_ble_eq_true rfl⟩ hN hK hP (hDD _) hS hA 71 CW_71 rfl rfl rfl hl.1 rfl (Nat.le_of_ble_eq_true rfl) dX1_tryUproot_31 ⟨Nat.le_of_ble_eq_true rfl, Nat.le_of_ble_eq_true rfl⟩ (fun H locs hP hS => ?_)
    refine lv_aload_n hx hb dX1_tryUproot_34 rfl (lv_at hl 0 rfl) ?_
    refine lv_iload_n hx hb dX1_tryUproot_35 rfl (lv_at hl 1 rfl) ?_
    refine lv_iload_n hx hb dX1_tryUproot_36 rfl (lv_at hl 2 rfl) ?_
    obtain ⟨⟨r12, s11⟩, hc10, h⟩ := bn_e h
    refine ywV (r0 := r12) (As := [.int p0, .int p1]) (rest := []) (C := RX1) (n := 2) (ws' := CS D a s11) ⟨hx, hb, hml, hown, ht⟩ (k_x1_uproot l D a p0 p1 _ _ _ hc10) (zgV ml_X1_265 im_X1_uproot se_X1_uproot in_X1 co_X1_uproot) rfl rfl (by decide +kernel) ⟨Nat.le_of_ble_eq_true rfl, Nat.le_of_ble_eq_true rfl⟩ hN hK hP (hDD _) hS hA 49 CW_49 rfl rfl rfl hl.1 rfl (Nat.le_of_ble_eq_true rfl) dX1_tryUproot_37 ⟨Nat.le_of_ble_eq_true rfl, Nat.le_of_ble_eq_true rfl⟩ (fun H locs hP hS => ?_)
    refine lv_istore_n (lv' := [(3, .int r12), (0, .ref (a 49)), (1, .int p0), (2, .int p1)]) hx hb dX1_tryUproot_40 rfl hl (by decide) rfl (fun ls hl => ?_)
    refine lv_iload_n hx hb dX1_tryUproot_41 rfl (lv_at hl 0 rfl) ?_
    refine lv_if_ne (tgt := 56) hx hb dX1_tryUproot_42 (by decide) (fun c13 => ?_) (fun c13 => ?_)
    · have h := if_f c13 h
      exact J56 (r12, s11) _ _ _ ⟨hP, hS, lv_sub hl [0] rfl, h⟩
    · have h := if_t c13 h
      refine lv_aload_n hx hb dX1_tryUproot_45 rfl (lv_at hl 1 rfl) ?_
      refine va_get (D := D) (ci := 1) (v := .ref (a 53)) (C := RX1) (T := TX1) (N := 9) hx hb ht inX1 hown hK hP 49 CW_49 rfl 0 (by decide) (ht (.fieldLink RX1 12 "CloneVolumes$Forest" "now" "LCloneVolumes$State;") fl_X1_12) (fun _ h9 => h9) rfl dX1_tryUproot_46 ?_
      refine lv_aload_n hx hb dX1_tryUproot_49 rfl (lv_at hl 1 rfl) ?_
      refine va_get (D := D) (ci := 1) (v := .ref (a 71)) (C := RX1) (T := TX1) (N := 9) hx hb ht inX1 hown hK hP 49 CW_49 rfl 2 (by decide) (ht (.fieldLink RX1 21 "CloneVolumes$Forest" "inner" "LCloneVolumes$State;") fl_X1_21) (fun _ h9 => h9) rfl dX1_tryUproot_50 ?_
      obtain ⟨s15, hc14, h⟩ := bn_e h
      refine ywVv (As := [.ref (a 71)]) (rest := []) (C := RX8) (n := 1) (ws' := CS D a s15) ⟨hx, hb, hml, hown, ht⟩ (k_x8_become_v4 l D a _ _ _ hc14) (zgV ml_X1_100 im_X8_become se_X8_become in_X8 co_X8_become) rfl rfl (by decide +kernel) ⟨Nat.le_of_ble_eq_true rfl, Nat.le_of_ble_eq_true rfl⟩ hN hK hP (hDD _) hS hA 53 CW_53 rfl rfl rfl hl.1 rfl (Nat.le_of_ble_eq_true rfl) dX1_tryUproot_53 ⟨Nat.le_of_ble_eq_true rfl, Nat.le_of_ble_eq_true rfl⟩ (fun H locs hP hS => ?_)
      exact J56 (r12, s15) _ _ _ ⟨hP, hS, lv_sub hl [0] rfl, h⟩
  · have h := if_t c7 h
    refine lv_iconst (v := 0) hx hb dX1_tryUproot_21 (by decide) ?_
    obtain rfl := Option.some.inj h
    exact W.zret (v := 0) hx hb hr (by decide) (fun t ht hW => ⟨⟨_, (), rfl, rfl, by rw [ht]; exact hP, va_K.moved hW.alike hK, hDD _⟩, hS.F ht⟩) hS.2.2 dX1_tryUproot_22
def m_x8_freeNumber_b2 (s : MS) (lr2 : Int32 → Option Int32) (x1 : Int32) : Option Int32 :=
  if 8 ≤ x1 then some (-1) else bn (m_x8_isVolume x1 s) (fun r4 => if r4 = 0 then some x1 else lr2 (x1 + 1))
def m_x8_freeNumber_L2 (s : MS) (n : Nat) : Int32 → Option Int32 := lp (fun _ => none) (m_x8_freeNumber_b2 s) n
def m_x8_freeNumber (s : MS) : Option Int32 :=
  m_x8_freeNumber_L2 s FU 0
set_option maxHeartbeats 4000000 in
set_option maxRecDepth 100000 in
theorem k_x8_freeNumber (l : Launch) (D : va_G) (a : Nat → Nat) (s : MS) (o : Int32) (h : m_x8_freeNumber s = some o) : yRi l yX8_freeNumber cX8_freeNumber 2 (some .int) { frames := 1, cells := 0, slots := 0, locals := 60 } D [.ref (a 53)] (CS D a s) o := by
  refine Met.ofW (cc := cX8_freeNumber) (maxL := 2) (ret := (some .int)) (by decide) rfl ?_
  intro p e s₀ m args below meth c s₁ B hml hv
  obtain ⟨rfl, ⟨hP, hK⟩, hN⟩ := hv
  have hx := B.exec
  have hb := B.bytes
  have hr := B.returns
  have hts := atoms_spec (ws := wz yX8_freeNumber cX8_freeNumber 2 (some .int)) B.pre
  have ht : ∀ w ∈ lw_gd, w.before _ s₀ = true := fun w h => hts w (List.mem_cons_of_mem _ h)
  have hown : s₀.vm.findClass RX8 = some m.cls := findClass_of_methodNamed B.named
  have hlocks := B.notSynchronized
  have hS : va_S (fun _ => False) s₀.heap s₀.heap [] := va_S.rf
  have hl := lv_entry ([.ref (a 53)]) (n := 2) (Nat.le_of_ble_eq_true rfl)
  rw [lg_entry_eq]
  generalize (lg_sl ([.ref (a 53)]) ++ List.replicate (2 - (lg_sl ([.ref (a 53)])).length) Slot.unset).toArray = ls at hl ⊢
  have hl : lv_has ls 2 [(0, .ref (a 53))] := hl
  unfold m_x8_freeNumber at h
  refine y_loop (pcJ := 2) (σ := Int32) (fun n u H locs ls => va_P D vwCl (CS D a s) H ∧ va_S (fun _ => False) s₀.heap H locs ∧ lv_has ls 2 [(0, .ref (a 53)), (1, .int u)] ∧ m_x8_freeNumber_L2 s n u = some o) (fun u => []) (fun u H locs ls hI => by obtain ⟨_, _, _, h⟩ := hI; cases h) (fun n2 ih2 u H locs ls hI => ?_) (fun J2 => ?_)
  · obtain ⟨hP, hS, hl, h⟩ := hI
    obtain ⟨x1, rfl⟩ : ∃ z, z = u := ⟨u, rfl⟩
    have hP : va_P D vwCl (CS D a s) H := hP
    have hl : lv_has ls 2 [(0, .ref (a 53)), (1, .int x1)] := hl
    have h : m_x8_freeNumber_b2 s (m_x8_freeNumber_L2 s n2) x1 = some o := h
    unfold m_x8_freeNumber_b2 at h
    refine lv_iload_n hx hb dX8_freeNumber_2 rfl (lv_at hl 1 rfl) ?_
    refine lv_bipush (v := 8) hx hb dX8_freeNumber_3 (by decide) ?_
    refine lv_icmp_ge (tgt := 24) hx hb dX8_freeNumber_5 (by decide) (fun c2 => ?_) (fun c2 => ?_)
    · have h := if_t c2 h
      refine lv_iconst (v := (-1)) hx hb dX8_freeNumber_24 (by decide) ?_
      obtain rfl := Option.some.inj h
      exact W.iret (v := (-1)) hx hb hr (fun t ht hW => ⟨⟨_, (), rfl, rfl, trivial⟩, hS.F ht⟩) hS.2.2 dX8_freeNumber_25
    · have h := if_f c2 h
      refine lv_aload_n hx hb dX8_freeNumber_8 rfl (lv_at hl 0 rfl) ?_
      refine lv_iload_n hx hb dX8_freeNumber_9 rfl (lv_at hl 1 rfl) ?_
      obtain ⟨r4, hc3, h⟩ := bn_e h
      refine ycV (As := [.int x1]) (rest := []) (C := RX8) (n := 1) ⟨hx, hb, hml, hown, ht⟩ (k_x8_isVolume l D a x1 _ _ hc3) (zgV ml_X8_67 im_X8_isVolume se_X8_isVolume in_X8 co_X8_isVolume) rfl rfl (by decide +kernel) ⟨Nat.le_of_ble_eq_true rfl, Nat.le_of_ble_eq_true rfl⟩ hN hK hP hS 53 CW_53 rfl rfl rfl hl.1 rfl (Nat.le_of_ble_eq_true rfl) dX8_freeNumber_10 ⟨Nat.le_of_ble_eq_true rfl, Nat.le_of_ble_eq_true rfl⟩ (fun H locs hP hS => ?_)
      refine lv_if_ne (tgt := 18) hx hb dX8_freeNumber_13 (by decide) (fun c5 => ?_) (fun c5 => ?_)
      · have h := if_f c5 h
        refine lv_iinc (v := x1 + 1) (lv' := [(1, .int (x1 + 1)), (0, .ref (a 53))]) hx hb dX8_freeNumber_18 hl (k := 1) rfl rfl (by decide) rfl (fun ls hl => ?_)
        refine lv_goto (tgt := 2) hx hb dX8_freeNumber_21 (by decide) ?_
        exact ih2 (x1 + 1) _ _ _ ⟨hP, hS, lv_sub hl [1, 0] rfl, h⟩
      · have h := if_t c5 h
        refine lv_iload_n hx hb dX8_freeNumber_16 rfl (lv_at hl 1 rfl) ?_
        obtain rfl := Option.some.inj h
        exact W.iret (v := x1) hx hb hr (fun t ht hW => ⟨⟨_, (), rfl, rfl, trivial⟩, hS.F ht⟩) hS.2.2 dX8_freeNumber_17
  refine lv_iconst (v := 0) hx hb dX8_freeNumber_0 (by decide) ?_
  refine lv_istore_n (lv' := [(1, .int 0), (0, .ref (a 53))]) hx hb dX8_freeNumber_1 rfl hl (by decide) rfl (fun ls hl => ?_)
  exact J2 FU 0 _ _ _ ⟨hP, hS, lv_sub hl [1, 0] rfl, h⟩
def m_x1_share_J52 (s1 : MS) : Option MS :=
  some s1
def m_x1_share (p0 : Int32) (p1 : Int32) (s : MS) : Option MS :=
  rdI (gA s 60) 8 p0 (fun y2 => inb 8 p1 (stn (sA s 60 (upd (gA s 60) (Int32.toNatClampNeg p1) y2)) (fun s4 => rdI (gA s4 60) 8 p0 (fun y5 => if y5 = (-1) then m_x1_share_J52 s4 else rdI (gA s4 60) 8 p0 (fun y7 => rdI (gA s4 54) 48 y7 (fun y8 => inb 48 y7 (stn (sA s4 54 (upd (gA s4 54) (Int32.toNatClampNeg y7) (y8 + 1))) (fun s10 => m_x1_share_J52 s10))))))))
set_option maxHeartbeats 4000000 in
set_option maxRecDepth 100000 in
theorem k_x1_share (l : Launch) (D : va_G) (a : Nat → Nat) (p0 : Int32) (p1 : Int32) (sz : Nat) (s : MS) (o : MS) (h : m_x1_share p0 p1 s = some o) : yWv l yX1_share cX1_share 3 none { frames := 0, cells := 0, slots := 0, locals := 0 } D sz [.ref (a 49), .int p0, .int p1] (CS D a s) (CS D a o) := by
  refine Met.ofW (cc := cX1_share) (maxL := 3) (ret := none) (by decide) rfl ?_
  intro p e s₀ m args below meth c s₁ B hml hv
  obtain ⟨rfl, ⟨hsz, hP, hK, hD0⟩, hN⟩ := hv
  have hx := B.exec
  have hb := B.bytes
  have hr := B.returns
  have hts := atoms_spec (ws := wz yX1_share cX1_share 3 none) B.pre
  have ht : ∀ w ∈ lw_gd, w.before _ s₀ = true := fun w h => hts w (List.mem_cons_of_mem _ h)
  have hown : s₀.vm.findClass RX1 = some m.cls := findClass_of_methodNamed B.named
  have hlocks := B.notSynchronized
  subst hsz
  have hD := hD0.self (sz := s₀.heap.size)
  generalize hAe : va_A (CS D a s) s₀.heap.size = A at hD ⊢
  have hA : ∀ q : Nat, s₀.heap.size ≤ q → A q := fun q h => by rw [← hAe]; exact Or.inr h
  have hS : va_S A s₀.heap s₀.heap [] := va_S.rf
  have hDD : ∀ t : MS, va_D A (CS D a t) := fun t => CW_D t hD
  have hl := lv_entry ([.ref (a 49), .int p0, .int p1]) (n := 3) (Nat.le_of_ble_eq_true rfl)
  rw [lg_entry_eq]
  generalize (lg_sl ([.ref (a 49), .int p0, .int p1]) ++ List.replicate (3 - (lg_sl ([.ref (a 49), .int p0, .int p1])).length) Slot.unset).toArray = ls at hl ⊢
  have hl : lv_has ls 3 [(0, .ref (a 49)), (1, .int p0), (2, .int p1)] := hl
  unfold m_x1_share at h
  refine y_head (pcJ := 52) (σ := MS) (fun u H locs ls => va_P D vwCl (CS D a u) H ∧ va_S A s₀.heap H locs ∧ lv_has ls 3 [] ∧ m_x1_share_J52 u = some o) (fun u => []) (fun u H locs ls hI => ?_) (fun J52 => ?_)
  · obtain ⟨hP, hS, hl, h⟩ := hI
    obtain ⟨s1, rfl⟩ : ∃ z, z = u := ⟨u, rfl⟩
    have hP : va_P D vwCl (CS D a s1) H := hP
    have hl : lv_has ls 3 [] := hl
    have h : m_x1_share_J52 s1 = some o := h
    unfold m_x1_share_J52 at h
    obtain rfl := Option.some.inj h
    exact W.vret hx hb hr (fun t ht hW => ⟨⟨(), rfl, trivial, by rw [ht]; exact hP, va_K.moved hW.alike hK, hDD _⟩, hS.F ht⟩) hS.2.2 dX1_share_52
  refine lv_aload_n hx hb dX1_share_0 rfl (lv_at hl 0 rfl) ?_
  refine va_get (D := D) (ci := 1) (v := .ref (a 53)) (C := RX1) (T := TX1) (N := 9) hx hb ht inX1 hown hK hP 49 CW_49 rfl 0 (by decide) (ht (.fieldLink RX1 12 "CloneVolumes$Forest" "now" "LCloneVolumes$State;") fl_X1_12) (fun _ h9 => h9) rfl dX1_share_1 ?_
  refine va_get (D := D) (ci := 8) (v := .ref (a 60)) (C := RX8) (T := TX8) (N := 11) hx hb ht inX8 hown hK hP 53 CW_53 rfl 9 (by decide) (ht (.fieldLink RX1 69 "CloneVolumes$State" "roots" "[I") fl_X1_69) (fun _ h9 => h9) rfl dX1_share_4 ?_
  refine lv_iload_n hx hb dX1_share_7 rfl (lv_at hl 2 rfl) ?_
  refine lv_aload_n hx hb dX1_share_8 rfl (lv_at hl 0 rfl) ?_
  refine va_get (D := D) (ci := 1) (v := .ref (a 53)) (C := RX1) (T := TX1) (N := 9) hx hb ht inX1 hown hK hP 49 CW_49 rfl 0 (by decide) (ht (.fieldLink RX1 12 "CloneVolumes$Forest" "now" "LCloneVolumes$State;") fl_X1_12) (fun _ h9 => h9) rfl dX1_share_9 ?_
  refine va_get (D := D) (ci := 8) (v := .ref (a 60)) (C := RX8) (T := TX8) (N := 11) hx hb ht inX8 hown hK hP 53 CW_53 rfl 9 (by decide) (ht (.fieldLink RX1 69 "CloneVolumes$State" "roots" "[I") fl_X1_69) (fun _ h9 => h9) rfl dX1_share_12 ?_
  refine lv_iload_n hx hb dX1_share_15 rfl (lv_at hl 1 rfl) ?_
  obtain ⟨y2, ey2, iy2, h⟩ := rdI_e h
  refine ya_iald hx hb hK hP 60 0 CW_60 rfl ey2 iy2 dX1_share_16 ?_
  obtain ⟨hi3, h⟩ := inb_e h
  refine ya_iast hx hb hK hP (hDD _) hS 60 0 CW_60 rfl hi3 dX1_share_17 (CW_w60 _) (fun H locs hP hS => ?_)
  obtain ⟨s4, hs4, h⟩ := st_e h
  rw [hs4] at hP
  refine lv_aload_n hx hb dX1_share_18 rfl (lv_at hl 0 rfl) ?_
  refine va_get (D := D) (ci := 1) (v := .ref (a 53)) (C := RX1) (T := TX1) (N := 9) hx hb ht inX1 hown hK hP 49 CW_49 rfl 0 (by decide) (ht (.fieldLink RX1 12 "CloneVolumes$Forest" "now" "LCloneVolumes$State;") fl_X1_12) (fun _ h9 => h9) rfl dX1_share_19 ?_
  refine va_get (D := D) (ci := 8) (v := .ref (a 60)) (C := RX8) (T := TX8) (N := 11) hx hb ht inX8 hown hK hP 53 CW_53 rfl 9 (by decide) (ht (.fieldLink RX1 69 "CloneVolumes$State" "roots" "[I") fl_X1_69) (fun _ h9 => h9) rfl dX1_share_22 ?_
  refine lv_iload_n hx hb dX1_share_25 rfl (lv_at hl 1 rfl) ?_
  obtain ⟨y5, ey5, iy5, h⟩ := rdI_e h
  refine ya_iald hx hb hK hP 60 0 CW_60 rfl ey5 iy5 dX1_share_26 ?_
  refine lv_iconst (v := (-1)) hx hb dX1_share_27 (by decide) ?_
  refine lv_icmp_eq (tgt := 52) hx hb dX1_share_28 (by decide) (fun c6 => ?_) (fun c6 => ?_)
  · have h := if_t c6 h
    exact J52 s4 _ _ _ ⟨hP, hS, lv_sub hl [] rfl, h⟩
  · have h := if_f c6 h
    refine lv_aload_n hx hb dX1_share_31 rfl (lv_at hl 0 rfl) ?_
    refine va_get (D := D) (ci := 1) (v := .ref (a 53)) (C := RX1) (T := TX1) (N := 9) hx hb ht inX1 hown hK hP 49 CW_49 rfl 0 (by decide) (ht (.fieldLink RX1 12 "CloneVolumes$Forest" "now" "LCloneVolumes$State;") fl_X1_12) (fun _ h9 => h9) rfl dX1_share_32 ?_
    refine va_get (D := D) (ci := 8) (v := .ref (a 54)) (C := RX8) (T := TX8) (N := 11) hx hb ht inX8 hown hK hP 53 CW_53 rfl 3 (by decide) (ht (.fieldLink RX1 181 "CloneVolumes$State" "count" "[I") fl_X1_181) (fun _ h9 => h9) rfl dX1_share_35 ?_
    refine lv_aload_n hx hb dX1_share_38 rfl (lv_at hl 0 rfl) ?_
    refine va_get (D := D) (ci := 1) (v := .ref (a 53)) (C := RX1) (T := TX1) (N := 9) hx hb ht inX1 hown hK hP 49 CW_49 rfl 0 (by decide) (ht (.fieldLink RX1 12 "CloneVolumes$Forest" "now" "LCloneVolumes$State;") fl_X1_12) (fun _ h9 => h9) rfl dX1_share_39 ?_
    refine va_get (D := D) (ci := 8) (v := .ref (a 60)) (C := RX8) (T := TX8) (N := 11) hx hb ht inX8 hown hK hP 53 CW_53 rfl 9 (by decide) (ht (.fieldLink RX1 69 "CloneVolumes$State" "roots" "[I") fl_X1_69) (fun _ h9 => h9) rfl dX1_share_42 ?_
    refine lv_iload_n hx hb dX1_share_45 rfl (lv_at hl 1 rfl) ?_
    obtain ⟨y7, ey7, iy7, h⟩ := rdI_e h
    refine ya_iald hx hb hK hP 60 0 CW_60 rfl ey7 iy7 dX1_share_46 ?_
    refine lv_dup2_11 hx hb dX1_share_47 rfl rfl ?_
    obtain ⟨y8, ey8, iy8, h⟩ := rdI_e h
    refine ya_iald hx hb hK hP 54 0 CW_54 rfl ey8 iy8 dX1_share_48 ?_
    refine lv_iconst (v := 1) hx hb dX1_share_49 (by decide) ?_
    refine lv_iadd hx hb dX1_share_50 ?_
    obtain ⟨hi9, h⟩ := inb_e h
    refine ya_iast hx hb hK hP (hDD _) hS 54 0 CW_54 rfl hi9 dX1_share_51 (CW_w54 _) (fun H locs hP hS => ?_)
    obtain ⟨s10, hs10, h⟩ := st_e h
    rw [hs10] at hP
    exact J52 s10 _ _ _ ⟨hP, hS, lv_sub hl [] rfl, h⟩
def m_x1_letGo_J34 (x1 : Int32) (s2 : MS) : Option MS :=
  inb 8 x1 (stn (sA s2 60 (upd (gA s2 60) (Int32.toNatClampNeg x1) (-2))) (fun s4 => some s4))
def m_x1_letGo (p0 : Int32) (s : MS) : Option MS :=
  rdI (gA s 60) 8 p0 (fun y5 => if y5 = (-1) then m_x1_letGo_J34 p0 s else rdI (gA s 60) 8 p0 (fun y7 => bn (m_x1_release_v2 y7 s) (fun qr10 => m_x1_letGo_J34 p0 qr10.2)))
set_option maxHeartbeats 4000000 in
set_option maxRecDepth 100000 in
theorem k_x1_letGo (l : Launch) (D : va_G) (a : Nat → Nat) (p0 : Int32) (sz : Nat) (s : MS) (o : MS) (h : m_x1_letGo p0 s = some o) : yWv l yX1_letGo cX1_letGo 2 none { frames := 2, cells := 0, slots := 0, locals := 120 } D sz [.ref (a 49), .int p0] (CS D a s) (CS D a o) := by
  refine Met.ofW (cc := cX1_letGo) (maxL := 2) (ret := none) (by decide) rfl ?_
  intro p e s₀ m args below meth c s₁ B hml hv
  obtain ⟨rfl, ⟨hsz, hP, hK, hD0⟩, hN⟩ := hv
  have hx := B.exec
  have hb := B.bytes
  have hr := B.returns
  have hts := atoms_spec (ws := wz yX1_letGo cX1_letGo 2 none) B.pre
  have ht : ∀ w ∈ lw_gd, w.before _ s₀ = true := fun w h => hts w (List.mem_cons_of_mem _ h)
  have hown : s₀.vm.findClass RX1 = some m.cls := findClass_of_methodNamed B.named
  have hlocks := B.notSynchronized
  subst hsz
  have hD := hD0.self (sz := s₀.heap.size)
  generalize hAe : va_A (CS D a s) s₀.heap.size = A at hD ⊢
  have hA : ∀ q : Nat, s₀.heap.size ≤ q → A q := fun q h => by rw [← hAe]; exact Or.inr h
  have hS : va_S A s₀.heap s₀.heap [] := va_S.rf
  have hDD : ∀ t : MS, va_D A (CS D a t) := fun t => CW_D t hD
  have hl := lv_entry ([.ref (a 49), .int p0]) (n := 2) (Nat.le_of_ble_eq_true rfl)
  rw [lg_entry_eq]
  generalize (lg_sl ([.ref (a 49), .int p0]) ++ List.replicate (2 - (lg_sl ([.ref (a 49), .int p0])).length) Slot.unset).toArray = ls at hl ⊢
  have hl : lv_has ls 2 [(0, .ref (a 49)), (1, .int p0)] := hl
  unfold m_x1_letGo at h
  refine y_head (pcJ := 34) (σ := Int32 × MS) (fun u H locs ls => va_P D vwCl (CS D a u.2) H ∧ va_S A s₀.heap H locs ∧ lv_has ls 2 [(0, .ref (a 49)), (1, .int u.1)] ∧ m_x1_letGo_J34 u.1 u.2 = some o) (fun u => []) (fun u H locs ls hI => ?_) (fun J34 => ?_)
  · obtain ⟨hP, hS, hl, h⟩ := hI
    obtain ⟨x1, s2⟩ := u
    have hP : va_P D vwCl (CS D a s2) H := hP
    have hl : lv_has ls 2 [(0, .ref (a 49)), (1, .int x1)] := hl
    have h : m_x1_letGo_J34 x1 s2 = some o := h
    unfold m_x1_letGo_J34 at h
    refine lv_aload_n hx hb dX1_letGo_34 rfl (lv_at hl 0 rfl) ?_
    refine va_get (D := D) (ci := 1) (v := .ref (a 53)) (C := RX1) (T := TX1) (N := 9) hx hb ht inX1 hown hK hP 49 CW_49 rfl 0 (by decide) (ht (.fieldLink RX1 12 "CloneVolumes$Forest" "now" "LCloneVolumes$State;") fl_X1_12) (fun _ h9 => h9) rfl dX1_letGo_35 ?_
    refine va_get (D := D) (ci := 8) (v := .ref (a 60)) (C := RX8) (T := TX8) (N := 11) hx hb ht inX8 hown hK hP 53 CW_53 rfl 9 (by decide) (ht (.fieldLink RX1 69 "CloneVolumes$State" "roots" "[I") fl_X1_69) (fun _ h9 => h9) rfl dX1_letGo_38 ?_
    refine lv_iload_n hx hb dX1_letGo_41 rfl (lv_at hl 1 rfl) ?_
    refine lv_bipush (v := (-2)) hx hb dX1_letGo_42 (by decide) ?_
    obtain ⟨hi3, h⟩ := inb_e h
    refine ya_iast hx hb hK hP (hDD _) hS 60 0 CW_60 rfl hi3 dX1_letGo_44 (CW_w60 _) (fun H locs hP hS => ?_)
    obtain ⟨s4, hs4, h⟩ := st_e h
    rw [hs4] at hP
    obtain rfl := Option.some.inj h
    exact W.vret hx hb hr (fun t ht hW => ⟨⟨(), rfl, trivial, by rw [ht]; exact hP, va_K.moved hW.alike hK, hDD _⟩, hS.F ht⟩) hS.2.2 dX1_letGo_45
  refine lv_aload_n hx hb dX1_letGo_0 rfl (lv_at hl 0 rfl) ?_
  refine va_get (D := D) (ci := 1) (v := .ref (a 53)) (C := RX1) (T := TX1) (N := 9) hx hb ht inX1 hown hK hP 49 CW_49 rfl 0 (by decide) (ht (.fieldLink RX1 12 "CloneVolumes$Forest" "now" "LCloneVolumes$State;") fl_X1_12) (fun _ h9 => h9) rfl dX1_letGo_1 ?_
  refine va_get (D := D) (ci := 8) (v := .ref (a 60)) (C := RX8) (T := TX8) (N := 11) hx hb ht inX8 hown hK hP 53 CW_53 rfl 9 (by decide) (ht (.fieldLink RX1 69 "CloneVolumes$State" "roots" "[I") fl_X1_69) (fun _ h9 => h9) rfl dX1_letGo_4 ?_
  refine lv_iload_n hx hb dX1_letGo_7 rfl (lv_at hl 1 rfl) ?_
  obtain ⟨y5, ey5, iy5, h⟩ := rdI_e h
  refine ya_iald hx hb hK hP 60 0 CW_60 rfl ey5 iy5 dX1_letGo_8 ?_
  refine lv_iconst (v := (-1)) hx hb dX1_letGo_9 (by decide) ?_
  refine lv_icmp_eq (tgt := 34) hx hb dX1_letGo_10 (by decide) (fun c6 => ?_) (fun c6 => ?_)
  · have h := if_t c6 h
    exact J34 (p0, s) _ _ _ ⟨hP, hS, lv_sub hl [0, 1] rfl, h⟩
  · have h := if_f c6 h
    refine lv_aload_n hx hb dX1_letGo_13 rfl (lv_at hl 0 rfl) ?_
    refine lv_aload_n hx hb dX1_letGo_14 rfl (lv_at hl 0 rfl) ?_
    refine va_get (D := D) (ci := 1) (v := .ref (a 53)) (C := RX1) (T := TX1) (N := 9) hx hb ht inX1 hown hK hP 49 CW_49 rfl 0 (by decide) (ht (.fieldLink RX1 12 "CloneVolumes$Forest" "now" "LCloneVolumes$State;") fl_X1_12) (fun _ h9 => h9) rfl dX1_letGo_15 ?_
    refine va_get (D := D) (ci := 8) (v := .ref (a 60)) (C := RX8) (T := TX8) (N := 11) hx hb ht inX8 hown hK hP 53 CW_53 rfl 9 (by decide) (ht (.fieldLink RX1 69 "CloneVolumes$State" "roots" "[I") fl_X1_69) (fun _ h9 => h9) rfl dX1_letGo_18 ?_
    refine lv_iload_n hx hb dX1_letGo_21 rfl (lv_at hl 1 rfl) ?_
    obtain ⟨y7, ey7, iy7, h⟩ := rdI_e h
    refine ya_iald hx hb hK hP 60 0 CW_60 rfl ey7 iy7 dX1_letGo_22 ?_
    refine lv_aload_n hx hb dX1_letGo_23 rfl (lv_at hl 0 rfl) ?_
    refine va_get (D := D) (ci := 1) (v := .ref (a 53)) (C := RX1) (T := TX1) (N := 9) hx hb ht inX1 hown hK hP 49 CW_49 rfl 0 (by decide) (ht (.fieldLink RX1 12 "CloneVolumes$Forest" "now" "LCloneVolumes$State;") fl_X1_12) (fun _ h9 => h9) rfl dX1_letGo_24 ?_
    refine va_get (D := D) (ci := 8) (v := .ref (a 54)) (C := RX8) (T := TX8) (N := 11) hx hb ht inX8 hown hK hP 53 CW_53 rfl 3 (by decide) (ht (.fieldLink RX1 181 "CloneVolumes$State" "count" "[I") fl_X1_181) (fun _ h9 => h9) rfl dX1_letGo_27 ?_
    obtain ⟨⟨r10, s9⟩, hc8, h⟩ := bn_e h
    refine ywV (r0 := r10) (As := [.int y7, .ref (a 54)]) (rest := []) (C := RX1) (n := 2) (ws' := CS D a s9) ⟨hx, hb, hml, hown, ht⟩ (k_x1_release_v2 l D a y7 _ _ _ hc8) (zgV ml_X1_223 im_X1_release se_X1_release in_X1 co_X1_release) rfl rfl (by decide +kernel) ⟨Nat.le_of_ble_eq_true rfl, Nat.le_of_ble_eq_true rfl⟩ hN hK hP (hDD _) hS hA 49 CW_49 rfl rfl rfl hl.1 rfl (Nat.le_of_ble_eq_true rfl) dX1_letGo_30 ⟨Nat.le_of_ble_eq_true rfl, Nat.le_of_ble_eq_true rfl⟩ (fun H locs hP hS => ?_)
    refine lv_pop hx hb dX1_letGo_33 rfl ?_
    exact J34 (p0, s9) _ _ _ ⟨hP, hS, lv_sub hl [0, 1] rfl, h⟩
