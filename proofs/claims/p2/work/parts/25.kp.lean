theorem co_X5_clear : Cond.code yX5_clear cX5_clear 2 none ∈ lw_gd := zm (List.mem_of_getElem? (i := 470) (by decide +kernel)) rfl
theorem co_X6_beginFormula : Cond.code yX6_beginFormula cX6_beginFormula 3 none ∈ lw_gd := zm (List.mem_of_getElem? (i := 853) (by decide +kernel)) rfl
theorem co_X6_readBlocks : Cond.code yX6_readBlocks cX6_readBlocks 2 none ∈ lw_gd := zm (List.mem_of_getElem? (i := 805) (by decide +kernel)) rfl
theorem co_X6_readChange : Cond.code yX6_readChange cX6_readChange 6 none ∈ lw_gd := zm (List.mem_of_getElem? (i := 849) (by decide +kernel)) rfl
theorem co_X6_readStatement : Cond.code yX6_readStatement cX6_readStatement 4 none ∈ lw_gd := zm (List.mem_of_getElem? (i := 797) (by decide +kernel)) rfl
theorem co_X6_readVolume : Cond.code yX6_readVolume cX6_readVolume 6 none ∈ lw_gd := zm (List.mem_of_getElem? (i := 821) (by decide +kernel)) rfl
theorem fl_X5_30 : Cond.fieldLink RX5 30 "CloneVolumes$Plan" "code" "LCloneVolumes$Code;" ∈ lw_gd := zm (List.mem_of_getElem? (i := 498) (by decide +kernel)) rfl
theorem fl_X5_34 : Cond.fieldLink RX5 34 "CloneVolumes$Plan" "begins" "[I" ∈ lw_gd := zm (List.mem_of_getElem? (i := 502) (by decide +kernel)) rfl
theorem fl_X5_37 : Cond.fieldLink RX5 37 "CloneVolumes$Plan" "ends" "[I" ∈ lw_gd := zm (List.mem_of_getElem? (i := 505) (by decide +kernel)) rfl
theorem fl_X5_43 : Cond.fieldLink RX5 43 "CloneVolumes$Plan" "statements" "I" ∈ lw_gd := zm (List.mem_of_getElem? (i := 480) (by decide +kernel)) rfl
theorem fl_X5_53 : Cond.fieldLink RX5 53 "CloneVolumes$Plan" "churn" "I" ∈ lw_gd := zm (List.mem_of_getElem? (i := 477) (by decide +kernel)) rfl
theorem fl_X5_56 : Cond.fieldLink RX5 56 "CloneVolumes$Code" "size" "I" ∈ lw_gd := zm (List.mem_of_getElem? (i := 458) (by decide +kernel)) rfl
theorem fl_X6_148 : Cond.fieldLink RX6 148 "CloneVolumes$Plan" "ends" "[I" ∈ lw_gd := zm (List.mem_of_getElem? (i := 507) (by decide +kernel)) rfl
theorem fl_X6_155 : Cond.fieldLink RX6 155 "CloneVolumes$Plan" "churn" "I" ∈ lw_gd := zm (List.mem_of_getElem? (i := 478) (by decide +kernel)) rfl
theorem fl_X6_162 : Cond.fieldLink RX6 162 "CloneVolumes$Plan" "blocks" "I" ∈ lw_gd := zm (List.mem_of_getElem? (i := 472) (by decide +kernel)) rfl
theorem fl_X6_168 : Cond.fieldLink RX6 168 "CloneVolumes$Plan" "entriesMost" "I" ∈ lw_gd := zm (List.mem_of_getElem? (i := 476) (by decide +kernel)) rfl
theorem fl_X6_185 : Cond.fieldLink RX6 185 "CloneVolumes$Plan" "begins" "[I" ∈ lw_gd := zm (List.mem_of_getElem? (i := 504) (by decide +kernel)) rfl
theorem fl_X6_36 : Cond.fieldLink RX6 36 "CloneVolumes$Plan" "code" "LCloneVolumes$Code;" ∈ lw_gd := zm (List.mem_of_getElem? (i := 499) (by decide +kernel)) rfl
theorem fl_X6_58 : Cond.fieldLink RX6 58 "CloneVolumes$Plan" "statements" "I" ∈ lw_gd := zm (List.mem_of_getElem? (i := 481) (by decide +kernel)) rfl
theorem im_X5_clear : Cond.instanceMethod yX5_clear ∈ lw_gd := zm (List.mem_of_getElem? (i := 468) (by decide +kernel)) rfl
theorem im_X6_beginFormula : Cond.instanceMethod yX6_beginFormula ∈ lw_gd := zm (List.mem_of_getElem? (i := 852) (by decide +kernel)) rfl
theorem im_X6_readBlocks : Cond.instanceMethod yX6_readBlocks ∈ lw_gd := zm (List.mem_of_getElem? (i := 804) (by decide +kernel)) rfl
theorem im_X6_readChange : Cond.instanceMethod yX6_readChange ∈ lw_gd := zm (List.mem_of_getElem? (i := 848) (by decide +kernel)) rfl
theorem im_X6_readStatement : Cond.instanceMethod yX6_readStatement ∈ lw_gd := zm (List.mem_of_getElem? (i := 796) (by decide +kernel)) rfl
theorem im_X6_readVolume : Cond.instanceMethod yX6_readVolume ∈ lw_gd := zm (List.mem_of_getElem? (i := 820) (by decide +kernel)) rfl
theorem ml_X6_135 : Cond.methodLink RX6 135 yX6_readBlocks ∈ lw_gd := zm (List.mem_of_getElem? (i := 802) (by decide +kernel)) rfl
theorem ml_X6_138 : Cond.methodLink RX6 138 yX6_readVolume ∈ lw_gd := zm (List.mem_of_getElem? (i := 818) (by decide +kernel)) rfl
theorem ml_X6_142 : Cond.methodLink RX6 142 yX6_readChange ∈ lw_gd := zm (List.mem_of_getElem? (i := 846) (by decide +kernel)) rfl
theorem ml_X6_145 : Cond.methodLink RX6 145 yX6_beginFormula ∈ lw_gd := zm (List.mem_of_getElem? (i := 850) (by decide +kernel)) rfl
theorem ml_X6_31 : Cond.methodLink RX6 31 yX5_clear ∈ lw_gd := zm (List.mem_of_getElem? (i := 768) (by decide +kernel)) rfl
theorem ml_X6_47 : Cond.methodLink RX6 47 yX6_readStatement ∈ lw_gd := zm (List.mem_of_getElem? (i := 794) (by decide +kernel)) rfl
theorem se_X5_clear : Cond.selects RX5 yX5_clear yX5_clear ∈ lw_gd := zm (List.mem_of_getElem? (i := 469) (by decide +kernel)) rfl
theorem se_X6_beginFormula : Cond.selects RX6 yX6_beginFormula yX6_beginFormula ∈ lw_gd := zm (List.mem_of_getElem? (i := 14) (by decide +kernel)) rfl
theorem se_X6_readBlocks : Cond.selects RX6 yX6_readBlocks yX6_readBlocks ∈ lw_gd := zm (List.mem_of_getElem? (i := 6) (by decide +kernel)) rfl
theorem se_X6_readChange : Cond.selects RX6 yX6_readChange yX6_readChange ∈ lw_gd := zm (List.mem_of_getElem? (i := 13) (by decide +kernel)) rfl
theorem se_X6_readStatement : Cond.selects RX6 yX6_readStatement yX6_readStatement ∈ lw_gd := zm (List.mem_of_getElem? (i := 4) (by decide +kernel)) rfl
theorem se_X6_readVolume : Cond.selects RX6 yX6_readVolume yX6_readVolume ∈ lw_gd := zm (List.mem_of_getElem? (i := 10) (by decide +kernel)) rfl
theorem dX5_clear_0 : decode cX5_clear 0 = .ok (.aload_n 0, 1) := by decide +kernel
theorem dX5_clear_1 : decode cX5_clear 1 = .ok (.iconst 0, 1) := by decide +kernel
theorem dX5_clear_2 : decode cX5_clear 2 = .ok (.putfield 43, 3) := by decide +kernel
theorem dX5_clear_5 : decode cX5_clear 5 = .ok (.aload_n 0, 1) := by decide +kernel
theorem dX5_clear_6 : decode cX5_clear 6 = .ok (.iconst 0, 1) := by decide +kernel
theorem dX5_clear_7 : decode cX5_clear 7 = .ok (.putfield 47, 3) := by decide +kernel
theorem dX5_clear_10 : decode cX5_clear 10 = .ok (.aload_n 0, 1) := by decide +kernel
theorem dX5_clear_11 : decode cX5_clear 11 = .ok (.iconst 0, 1) := by decide +kernel
theorem dX5_clear_12 : decode cX5_clear 12 = .ok (.putfield 50, 3) := by decide +kernel
theorem dX5_clear_15 : decode cX5_clear 15 = .ok (.aload_n 0, 1) := by decide +kernel
theorem dX5_clear_16 : decode cX5_clear 16 = .ok (.iconst 0, 1) := by decide +kernel
theorem dX5_clear_17 : decode cX5_clear 17 = .ok (.putfield 53, 3) := by decide +kernel
theorem dX5_clear_20 : decode cX5_clear 20 = .ok (.aload_n 0, 1) := by decide +kernel
theorem dX5_clear_21 : decode cX5_clear 21 = .ok (.getfield 30, 3) := by decide +kernel
theorem dX5_clear_24 : decode cX5_clear 24 = .ok (.iconst 0, 1) := by decide +kernel
theorem dX5_clear_25 : decode cX5_clear 25 = .ok (.putfield 56, 3) := by decide +kernel
theorem dX5_clear_28 : decode cX5_clear 28 = .ok (.iconst 0, 1) := by decide +kernel
theorem dX5_clear_29 : decode cX5_clear 29 = .ok (.istore_n 1, 1) := by decide +kernel
theorem dX5_clear_30 : decode cX5_clear 30 = .ok (.iload_n 1, 1) := by decide +kernel
theorem dX5_clear_31 : decode cX5_clear 31 = .ok (.iconst 3, 1) := by decide +kernel
theorem dX5_clear_32 : decode cX5_clear 32 = .ok (.if_icmp .ge 23, 3) := by decide +kernel
theorem dX5_clear_35 : decode cX5_clear 35 = .ok (.aload_n 0, 1) := by decide +kernel
theorem dX5_clear_36 : decode cX5_clear 36 = .ok (.getfield 34, 3) := by decide +kernel
theorem dX5_clear_39 : decode cX5_clear 39 = .ok (.iload_n 1, 1) := by decide +kernel
theorem dX5_clear_40 : decode cX5_clear 40 = .ok (.iconst (-1), 1) := by decide +kernel
theorem dX5_clear_41 : decode cX5_clear 41 = .ok (.iastore, 1) := by decide +kernel
theorem dX5_clear_42 : decode cX5_clear 42 = .ok (.aload_n 0, 1) := by decide +kernel
theorem dX5_clear_43 : decode cX5_clear 43 = .ok (.getfield 37, 3) := by decide +kernel
theorem dX5_clear_46 : decode cX5_clear 46 = .ok (.iload_n 1, 1) := by decide +kernel
theorem dX5_clear_47 : decode cX5_clear 47 = .ok (.iconst (-1), 1) := by decide +kernel
theorem dX5_clear_48 : decode cX5_clear 48 = .ok (.iastore, 1) := by decide +kernel
theorem dX5_clear_49 : decode cX5_clear 49 = .ok (.iinc 1 1, 3) := by decide +kernel
theorem dX5_clear_52 : decode cX5_clear 52 = .ok (.goto (-22), 3) := by decide +kernel
theorem dX5_clear_55 : decode cX5_clear 55 = .ok (.return_, 1) := by decide +kernel
theorem dX6_beginFormula_0 : decode cX6_beginFormula 0 = .ok (.aload_n 1, 1) := by decide +kernel
theorem dX6_beginFormula_1 : decode cX6_beginFormula 1 = .ok (.getfield 185, 3) := by decide +kernel
theorem dX6_beginFormula_4 : decode cX6_beginFormula 4 = .ok (.iload_n 2, 1) := by decide +kernel
theorem dX6_beginFormula_5 : decode cX6_beginFormula 5 = .ok (.iaload, 1) := by decide +kernel
theorem dX6_beginFormula_6 : decode cX6_beginFormula 6 = .ok (.iconst (-1), 1) := by decide +kernel
theorem dX6_beginFormula_7 : decode cX6_beginFormula 7 = .ok (.if_icmp .eq 13, 3) := by decide +kernel
theorem dX6_beginFormula_10 : decode cX6_beginFormula 10 = .ok (.aload_n 0, 1) := by decide +kernel
theorem dX6_beginFormula_11 : decode cX6_beginFormula 11 = .ok (.iconst 5, 1) := by decide +kernel
theorem dX6_beginFormula_12 : decode cX6_beginFormula 12 = .ok (.aload_n 0, 1) := by decide +kernel
theorem dX6_beginFormula_13 : decode cX6_beginFormula 13 = .ok (.getfield 51, 3) := by decide +kernel
theorem dX6_beginFormula_16 : decode cX6_beginFormula 16 = .ok (.invokevirtual 54, 3) := by decide +kernel
theorem dX6_beginFormula_19 : decode cX6_beginFormula 19 = .ok (.pop, 1) := by decide +kernel
theorem dX6_beginFormula_20 : decode cX6_beginFormula 20 = .ok (.aload_n 0, 1) := by decide +kernel
theorem dX6_beginFormula_21 : decode cX6_beginFormula 21 = .ok (.invokevirtual 75, 3) := by decide +kernel
theorem dX6_beginFormula_24 : decode cX6_beginFormula 24 = .ok (.aload_n 0, 1) := by decide +kernel
theorem dX6_beginFormula_25 : decode cX6_beginFormula 25 = .ok (.iload_n 2, 1) := by decide +kernel
theorem dX6_beginFormula_26 : decode cX6_beginFormula 26 = .ok (.putfield 69, 3) := by decide +kernel
theorem dX6_beginFormula_29 : decode cX6_beginFormula 29 = .ok (.aload_n 1, 1) := by decide +kernel
theorem dX6_beginFormula_30 : decode cX6_beginFormula 30 = .ok (.getfield 185, 3) := by decide +kernel
theorem dX6_beginFormula_33 : decode cX6_beginFormula 33 = .ok (.iload_n 2, 1) := by decide +kernel
theorem dX6_beginFormula_34 : decode cX6_beginFormula 34 = .ok (.aload_n 0, 1) := by decide +kernel
theorem dX6_beginFormula_35 : decode cX6_beginFormula 35 = .ok (.getfield 84, 3) := by decide +kernel
theorem dX6_beginFormula_38 : decode cX6_beginFormula 38 = .ok (.getfield 64, 3) := by decide +kernel
theorem dX6_beginFormula_41 : decode cX6_beginFormula 41 = .ok (.iastore, 1) := by decide +kernel
theorem dX6_beginFormula_42 : decode cX6_beginFormula 42 = .ok (.return_, 1) := by decide +kernel
theorem dX6_readBlocks_0 : decode cX6_readBlocks 0 = .ok (.aload_n 0, 1) := by decide +kernel
theorem dX6_readBlocks_1 : decode cX6_readBlocks 1 = .ok (.invokevirtual 75, 3) := by decide +kernel
theorem dX6_readBlocks_4 : decode cX6_readBlocks 4 = .ok (.aload_n 1, 1) := by decide +kernel
theorem dX6_readBlocks_5 : decode cX6_readBlocks 5 = .ok (.aload_n 0, 1) := by decide +kernel
theorem dX6_readBlocks_6 : decode cX6_readBlocks 6 = .ok (.bipush 8, 2) := by decide +kernel
theorem dX6_readBlocks_8 : decode cX6_readBlocks 8 = .ok (.bipush 48, 2) := by decide +kernel
theorem dX6_readBlocks_10 : decode cX6_readBlocks 10 = .ok (.invokevirtual 151, 3) := by decide +kernel
theorem dX6_readBlocks_13 : decode cX6_readBlocks 13 = .ok (.putfield 162, 3) := by decide +kernel
theorem dX6_readBlocks_16 : decode cX6_readBlocks 16 = .ok (.aload_n 0, 1) := by decide +kernel
theorem dX6_readBlocks_17 : decode cX6_readBlocks 17 = .ok (.iconst 1, 1) := by decide +kernel
theorem dX6_readBlocks_18 : decode cX6_readBlocks 18 = .ok (.invokevirtual 165, 3) := by decide +kernel
theorem dX6_readBlocks_21 : decode cX6_readBlocks 21 = .ok (.aload_n 1, 1) := by decide +kernel
theorem dX6_readBlocks_22 : decode cX6_readBlocks 22 = .ok (.aload_n 0, 1) := by decide +kernel
theorem dX6_readBlocks_23 : decode cX6_readBlocks 23 = .ok (.iconst 3, 1) := by decide +kernel
theorem dX6_readBlocks_24 : decode cX6_readBlocks 24 = .ok (.bipush 6, 2) := by decide +kernel
theorem dX6_readBlocks_26 : decode cX6_readBlocks 26 = .ok (.invokevirtual 151, 3) := by decide +kernel
theorem dX6_readBlocks_29 : decode cX6_readBlocks 29 = .ok (.putfield 168, 3) := by decide +kernel
theorem dX6_readBlocks_32 : decode cX6_readBlocks 32 = .ok (.return_, 1) := by decide +kernel
theorem dX6_readStatement_0 : decode cX6_readStatement 0 = .ok (.aload_n 0, 1) := by decide +kernel
theorem dX6_readStatement_1 : decode cX6_readStatement 1 = .ok (.getfield 44, 3) := by decide +kernel
theorem dX6_readStatement_4 : decode cX6_readStatement 4 = .ok (.iconst 1, 1) := by decide +kernel
theorem dX6_readStatement_5 : decode cX6_readStatement 5 = .ok (.if_icmp .ne 10, 3) := by decide +kernel
theorem dX6_readStatement_8 : decode cX6_readStatement 8 = .ok (.aload_n 0, 1) := by decide +kernel
theorem dX6_readStatement_9 : decode cX6_readStatement 9 = .ok (.getfield 72, 3) := by decide +kernel
theorem dX6_readStatement_12 : decode cX6_readStatement 12 = .ok (.goto 4, 3) := by decide +kernel
theorem dX6_readStatement_15 : decode cX6_readStatement 15 = .ok (.iconst (-1), 1) := by decide +kernel
theorem dX6_readStatement_16 : decode cX6_readStatement 16 = .ok (.istore_n 2, 1) := by decide +kernel
theorem dX6_readStatement_17 : decode cX6_readStatement 17 = .ok (.aload_n 1, 1) := by decide +kernel
theorem dX6_readStatement_18 : decode cX6_readStatement 18 = .ok (.getfield 58, 3) := by decide +kernel
theorem dX6_readStatement_21 : decode cX6_readStatement 21 = .ok (.ifCond .ne 7, 3) := by decide +kernel
theorem dX6_readStatement_24 : decode cX6_readStatement 24 = .ok (.iconst 1, 1) := by decide +kernel
theorem dX6_readStatement_25 : decode cX6_readStatement 25 = .ok (.goto 4, 3) := by decide +kernel
theorem dX6_readStatement_28 : decode cX6_readStatement 28 = .ok (.iconst 0, 1) := by decide +kernel
theorem dX6_readStatement_29 : decode cX6_readStatement 29 = .ok (.istore_n 3, 1) := by decide +kernel
theorem dX6_readStatement_30 : decode cX6_readStatement 30 = .ok (.iload_n 3, 1) := by decide +kernel
theorem dX6_readStatement_31 : decode cX6_readStatement 31 = .ok (.iload_n 2, 1) := by decide +kernel
theorem dX6_readStatement_32 : decode cX6_readStatement 32 = .ok (.ifCond .ne 7, 3) := by decide +kernel
theorem dX6_readStatement_35 : decode cX6_readStatement 35 = .ok (.iconst 1, 1) := by decide +kernel
theorem dX6_readStatement_36 : decode cX6_readStatement 36 = .ok (.goto 4, 3) := by decide +kernel
theorem dX6_readStatement_39 : decode cX6_readStatement 39 = .ok (.iconst 0, 1) := by decide +kernel
theorem dX6_readStatement_40 : decode cX6_readStatement 40 = .ok (.if_icmp .eq 14, 3) := by decide +kernel
theorem dX6_readStatement_43 : decode cX6_readStatement 43 = .ok (.aload_n 0, 1) := by decide +kernel
theorem dX6_readStatement_44 : decode cX6_readStatement 44 = .ok (.iconst 1, 1) := by decide +kernel
theorem dX6_readStatement_45 : decode cX6_readStatement 45 = .ok (.aload_n 0, 1) := by decide +kernel
theorem dX6_readStatement_46 : decode cX6_readStatement 46 = .ok (.getfield 51, 3) := by decide +kernel
theorem dX6_readStatement_49 : decode cX6_readStatement 49 = .ok (.invokevirtual 54, 3) := by decide +kernel
theorem dX6_readStatement_52 : decode cX6_readStatement 52 = .ok (.pop, 1) := by decide +kernel
theorem dX6_readStatement_53 : decode cX6_readStatement 53 = .ok (.return_, 1) := by decide +kernel
theorem dX6_readStatement_54 : decode cX6_readStatement 54 = .ok (.iload_n 2, 1) := by decide +kernel
theorem dX6_readStatement_55 : decode cX6_readStatement 55 = .ok (.tableswitch 179 0 10 #[57, 179, 65, 65, 179, 74, 74, 83, 109, 135, 161], 57) := by decide +kernel
theorem dX6_readStatement_112 : decode cX6_readStatement 112 = .ok (.aload_n 0, 1) := by decide +kernel
theorem dX6_readStatement_113 : decode cX6_readStatement 113 = .ok (.aload_n 1, 1) := by decide +kernel
theorem dX6_readStatement_114 : decode cX6_readStatement 114 = .ok (.invokevirtual 135, 3) := by decide +kernel
theorem dX6_readStatement_117 : decode cX6_readStatement 117 = .ok (.goto 127, 3) := by decide +kernel
theorem dX6_readStatement_120 : decode cX6_readStatement 120 = .ok (.aload_n 0, 1) := by decide +kernel
theorem dX6_readStatement_121 : decode cX6_readStatement 121 = .ok (.aload_n 1, 1) := by decide +kernel
theorem dX6_readStatement_122 : decode cX6_readStatement 122 = .ok (.iload_n 2, 1) := by decide +kernel
theorem dX6_readStatement_123 : decode cX6_readStatement 123 = .ok (.invokevirtual 138, 3) := by decide +kernel
theorem dX6_readStatement_126 : decode cX6_readStatement 126 = .ok (.goto 118, 3) := by decide +kernel
theorem dX6_readStatement_129 : decode cX6_readStatement 129 = .ok (.aload_n 0, 1) := by decide +kernel
theorem dX6_readStatement_130 : decode cX6_readStatement 130 = .ok (.aload_n 1, 1) := by decide +kernel
theorem dX6_readStatement_131 : decode cX6_readStatement 131 = .ok (.iload_n 2, 1) := by decide +kernel
theorem dX6_readStatement_132 : decode cX6_readStatement 132 = .ok (.invokevirtual 142, 3) := by decide +kernel
theorem dX6_readStatement_135 : decode cX6_readStatement 135 = .ok (.goto 109, 3) := by decide +kernel
theorem dX6_readStatement_138 : decode cX6_readStatement 138 = .ok (.aload_n 0, 1) := by decide +kernel
theorem dX6_readStatement_139 : decode cX6_readStatement 139 = .ok (.aload_n 1, 1) := by decide +kernel
theorem dX6_readStatement_140 : decode cX6_readStatement 140 = .ok (.iconst 0, 1) := by decide +kernel
theorem dX6_readStatement_141 : decode cX6_readStatement 141 = .ok (.invokevirtual 145, 3) := by decide +kernel
theorem dX6_readStatement_144 : decode cX6_readStatement 144 = .ok (.aload_n 0, 1) := by decide +kernel
theorem dX6_readStatement_145 : decode cX6_readStatement 145 = .ok (.invokevirtual 81, 3) := by decide +kernel
theorem dX6_readStatement_148 : decode cX6_readStatement 148 = .ok (.aload_n 1, 1) := by decide +kernel
theorem dX6_readStatement_149 : decode cX6_readStatement 149 = .ok (.getfield 148, 3) := by decide +kernel
theorem dX6_readStatement_152 : decode cX6_readStatement 152 = .ok (.iconst 0, 1) := by decide +kernel
theorem dX6_readStatement_153 : decode cX6_readStatement 153 = .ok (.aload_n 0, 1) := by decide +kernel
theorem dX6_readStatement_154 : decode cX6_readStatement 154 = .ok (.getfield 84, 3) := by decide +kernel
theorem dX6_readStatement_157 : decode cX6_readStatement 157 = .ok (.getfield 64, 3) := by decide +kernel
theorem dX6_readStatement_160 : decode cX6_readStatement 160 = .ok (.iastore, 1) := by decide +kernel
theorem dX6_readStatement_161 : decode cX6_readStatement 161 = .ok (.goto 83, 3) := by decide +kernel
theorem dX6_readStatement_164 : decode cX6_readStatement 164 = .ok (.aload_n 0, 1) := by decide +kernel
theorem dX6_readStatement_165 : decode cX6_readStatement 165 = .ok (.aload_n 1, 1) := by decide +kernel
theorem dX6_readStatement_166 : decode cX6_readStatement 166 = .ok (.iconst 1, 1) := by decide +kernel
theorem dX6_readStatement_167 : decode cX6_readStatement 167 = .ok (.invokevirtual 145, 3) := by decide +kernel
theorem dX6_readStatement_170 : decode cX6_readStatement 170 = .ok (.aload_n 0, 1) := by decide +kernel
theorem dX6_readStatement_171 : decode cX6_readStatement 171 = .ok (.invokevirtual 78, 3) := by decide +kernel
theorem dX6_readStatement_174 : decode cX6_readStatement 174 = .ok (.aload_n 1, 1) := by decide +kernel
theorem dX6_readStatement_175 : decode cX6_readStatement 175 = .ok (.getfield 148, 3) := by decide +kernel
theorem dX6_readStatement_178 : decode cX6_readStatement 178 = .ok (.iconst 1, 1) := by decide +kernel
theorem dX6_readStatement_179 : decode cX6_readStatement 179 = .ok (.aload_n 0, 1) := by decide +kernel
theorem dX6_readStatement_180 : decode cX6_readStatement 180 = .ok (.getfield 84, 3) := by decide +kernel
theorem dX6_readStatement_183 : decode cX6_readStatement 183 = .ok (.getfield 64, 3) := by decide +kernel
theorem dX6_readStatement_186 : decode cX6_readStatement 186 = .ok (.iastore, 1) := by decide +kernel
theorem dX6_readStatement_187 : decode cX6_readStatement 187 = .ok (.goto 57, 3) := by decide +kernel
theorem dX6_readStatement_190 : decode cX6_readStatement 190 = .ok (.aload_n 0, 1) := by decide +kernel
theorem dX6_readStatement_191 : decode cX6_readStatement 191 = .ok (.aload_n 1, 1) := by decide +kernel
theorem dX6_readStatement_192 : decode cX6_readStatement 192 = .ok (.iconst 2, 1) := by decide +kernel
theorem dX6_readStatement_193 : decode cX6_readStatement 193 = .ok (.invokevirtual 145, 3) := by decide +kernel
theorem dX6_readStatement_196 : decode cX6_readStatement 196 = .ok (.aload_n 0, 1) := by decide +kernel
theorem dX6_readStatement_197 : decode cX6_readStatement 197 = .ok (.invokevirtual 81, 3) := by decide +kernel
theorem dX6_readStatement_200 : decode cX6_readStatement 200 = .ok (.aload_n 1, 1) := by decide +kernel
theorem dX6_readStatement_201 : decode cX6_readStatement 201 = .ok (.getfield 148, 3) := by decide +kernel
theorem dX6_readStatement_204 : decode cX6_readStatement 204 = .ok (.iconst 2, 1) := by decide +kernel
theorem dX6_readStatement_205 : decode cX6_readStatement 205 = .ok (.aload_n 0, 1) := by decide +kernel
theorem dX6_readStatement_206 : decode cX6_readStatement 206 = .ok (.getfield 84, 3) := by decide +kernel
theorem dX6_readStatement_209 : decode cX6_readStatement 209 = .ok (.getfield 64, 3) := by decide +kernel
theorem dX6_readStatement_212 : decode cX6_readStatement 212 = .ok (.iastore, 1) := by decide +kernel
theorem dX6_readStatement_213 : decode cX6_readStatement 213 = .ok (.goto 31, 3) := by decide +kernel
theorem dX6_readStatement_216 : decode cX6_readStatement 216 = .ok (.aload_n 0, 1) := by decide +kernel
theorem dX6_readStatement_217 : decode cX6_readStatement 217 = .ok (.invokevirtual 75, 3) := by decide +kernel
theorem dX6_readStatement_220 : decode cX6_readStatement 220 = .ok (.aload_n 1, 1) := by decide +kernel
theorem dX6_readStatement_221 : decode cX6_readStatement 221 = .ok (.aload_n 0, 1) := by decide +kernel
theorem dX6_readStatement_222 : decode cX6_readStatement 222 = .ok (.iconst 0, 1) := by decide +kernel
theorem dX6_readStatement_223 : decode cX6_readStatement 223 = .ok (.bipush 100, 2) := by decide +kernel
theorem dX6_readStatement_225 : decode cX6_readStatement 225 = .ok (.invokevirtual 151, 3) := by decide +kernel
theorem dX6_readStatement_228 : decode cX6_readStatement 228 = .ok (.putfield 155, 3) := by decide +kernel
theorem dX6_readStatement_231 : decode cX6_readStatement 231 = .ok (.goto 13, 3) := by decide +kernel
theorem dX6_readStatement_234 : decode cX6_readStatement 234 = .ok (.aload_n 0, 1) := by decide +kernel
theorem dX6_readStatement_235 : decode cX6_readStatement 235 = .ok (.iconst 1, 1) := by decide +kernel
theorem dX6_readStatement_236 : decode cX6_readStatement 236 = .ok (.aload_n 0, 1) := by decide +kernel
theorem dX6_readStatement_237 : decode cX6_readStatement 237 = .ok (.getfield 51, 3) := by decide +kernel
theorem dX6_readStatement_240 : decode cX6_readStatement 240 = .ok (.invokevirtual 54, 3) := by decide +kernel
theorem dX6_readStatement_243 : decode cX6_readStatement 243 = .ok (.pop, 1) := by decide +kernel
theorem dX6_readStatement_244 : decode cX6_readStatement 244 = .ok (.aload_n 0, 1) := by decide +kernel
theorem dX6_readStatement_245 : decode cX6_readStatement 245 = .ok (.bipush 59, 2) := by decide +kernel
theorem dX6_readStatement_247 : decode cX6_readStatement 247 = .ok (.invokevirtual 158, 3) := by decide +kernel
theorem dX6_readStatement_250 : decode cX6_readStatement 250 = .ok (.aload_n 1, 1) := by decide +kernel
theorem dX6_readStatement_251 : decode cX6_readStatement 251 = .ok (.dup, 1) := by decide +kernel
theorem dX6_readStatement_252 : decode cX6_readStatement 252 = .ok (.getfield 58, 3) := by decide +kernel
theorem dX6_readStatement_255 : decode cX6_readStatement 255 = .ok (.iconst 1, 1) := by decide +kernel
theorem dX6_readStatement_256 : decode cX6_readStatement 256 = .ok (.iadd, 1) := by decide +kernel
theorem dX6_readStatement_257 : decode cX6_readStatement 257 = .ok (.putfield 58, 3) := by decide +kernel
theorem dX6_readStatement_260 : decode cX6_readStatement 260 = .ok (.return_, 1) := by decide +kernel
theorem dX6_readStore_0 : decode cX6_readStore 0 = .ok (.aload_n 1, 1) := by decide +kernel
theorem dX6_readStore_1 : decode cX6_readStore 1 = .ok (.invokevirtual 31, 3) := by decide +kernel
theorem dX6_readStore_4 : decode cX6_readStore 4 = .ok (.aload_n 0, 1) := by decide +kernel
theorem dX6_readStore_5 : decode cX6_readStore 5 = .ok (.aload_n 1, 1) := by decide +kernel
theorem dX6_readStore_6 : decode cX6_readStore 6 = .ok (.getfield 36, 3) := by decide +kernel
theorem dX6_readStore_9 : decode cX6_readStore 9 = .ok (.invokevirtual 40, 3) := by decide +kernel
theorem dX6_readStore_12 : decode cX6_readStore 12 = .ok (.iconst 0, 1) := by decide +kernel
theorem dX6_readStore_13 : decode cX6_readStore 13 = .ok (.istore_n 2, 1) := by decide +kernel
theorem dX6_readStore_14 : decode cX6_readStore 14 = .ok (.iload_n 2, 1) := by decide +kernel
theorem dX6_readStore_15 : decode cX6_readStore 15 = .ok (.bipush 60, 2) := by decide +kernel
theorem dX6_readStore_17 : decode cX6_readStore 17 = .ok (.if_icmp .ge 21, 3) := by decide +kernel
theorem dX6_readStore_20 : decode cX6_readStore 20 = .ok (.aload_n 0, 1) := by decide +kernel
theorem dX6_readStore_21 : decode cX6_readStore 21 = .ok (.getfield 44, 3) := by decide +kernel
theorem dX6_readStore_24 : decode cX6_readStore 24 = .ok (.ifCond .eq 14, 3) := by decide +kernel
theorem dX6_readStore_27 : decode cX6_readStore 27 = .ok (.aload_n 0, 1) := by decide +kernel
theorem dX6_readStore_28 : decode cX6_readStore 28 = .ok (.aload_n 1, 1) := by decide +kernel
theorem dX6_readStore_29 : decode cX6_readStore 29 = .ok (.invokevirtual 47, 3) := by decide +kernel
theorem dX6_readStore_32 : decode cX6_readStore 32 = .ok (.iinc 2 1, 3) := by decide +kernel
theorem dX6_readStore_35 : decode cX6_readStore 35 = .ok (.goto (-21), 3) := by decide +kernel
theorem dX6_readStore_38 : decode cX6_readStore 38 = .ok (.aload_n 0, 1) := by decide +kernel
theorem dX6_readStore_39 : decode cX6_readStore 39 = .ok (.getfield 44, 3) := by decide +kernel
theorem dX6_readStore_42 : decode cX6_readStore 42 = .ok (.ifCond .eq 16, 3) := by decide +kernel
theorem dX6_readStore_45 : decode cX6_readStore 45 = .ok (.aload_n 0, 1) := by decide +kernel
theorem dX6_readStore_46 : decode cX6_readStore 46 = .ok (.iconst 5, 1) := by decide +kernel
theorem dX6_readStore_47 : decode cX6_readStore 47 = .ok (.aload_n 0, 1) := by decide +kernel
theorem dX6_readStore_48 : decode cX6_readStore 48 = .ok (.getfield 51, 3) := by decide +kernel
theorem dX6_readStore_51 : decode cX6_readStore 51 = .ok (.invokevirtual 54, 3) := by decide +kernel
theorem dX6_readStore_54 : decode cX6_readStore 54 = .ok (.pop, 1) := by decide +kernel
theorem dX6_readStore_55 : decode cX6_readStore 55 = .ok (.goto 20, 3) := by decide +kernel
theorem dX6_readStore_58 : decode cX6_readStore 58 = .ok (.aload_n 1, 1) := by decide +kernel
theorem dX6_readStore_59 : decode cX6_readStore 59 = .ok (.getfield 58, 3) := by decide +kernel
theorem dX6_readStore_62 : decode cX6_readStore 62 = .ok (.ifCond .ne 13, 3) := by decide +kernel
theorem dX6_readStore_65 : decode cX6_readStore 65 = .ok (.aload_n 0, 1) := by decide +kernel
theorem dX6_readStore_66 : decode cX6_readStore 66 = .ok (.iconst 1, 1) := by decide +kernel
theorem dX6_readStore_67 : decode cX6_readStore 67 = .ok (.aload_n 0, 1) := by decide +kernel
theorem dX6_readStore_68 : decode cX6_readStore 68 = .ok (.getfield 51, 3) := by decide +kernel
theorem dX6_readStore_71 : decode cX6_readStore 71 = .ok (.invokevirtual 54, 3) := by decide +kernel
theorem dX6_readStore_74 : decode cX6_readStore 74 = .ok (.pop, 1) := by decide +kernel
theorem dX6_readStore_75 : decode cX6_readStore 75 = .ok (.aload_n 0, 1) := by decide +kernel
theorem dX6_readStore_76 : decode cX6_readStore 76 = .ok (.getfield 61, 3) := by decide +kernel
theorem dX6_readStore_79 : decode cX6_readStore 79 = .ok (.ifCond .ne 7, 3) := by decide +kernel
theorem dX6_readStore_82 : decode cX6_readStore 82 = .ok (.iconst 1, 1) := by decide +kernel
theorem dX6_readStore_83 : decode cX6_readStore 83 = .ok (.goto 4, 3) := by decide +kernel
theorem dX6_readStore_86 : decode cX6_readStore 86 = .ok (.iconst 0, 1) := by decide +kernel
theorem dX6_readStore_87 : decode cX6_readStore 87 = .ok (.ireturn, 1) := by decide +kernel
def m_x6_readBlocks (s : MS) : Option MS :=
  bn (m_x6_advance s) (fun s2 => bn (m_x6_expectNumber 8 48 s2) (fun qr5 => stn (sI qr5.2 780 qr5.1) (fun s6 => bn (m_x6_expectWord 1 s6) (fun s8 => bn (m_x6_expectNumber 3 6 s8) (fun qr11 => stn (sI qr11.2 781 qr11.1) (fun s12 => some s12))))))
set_option maxHeartbeats 4000000 in
set_option maxRecDepth 100000 in
theorem k_x6_readBlocks (l : Launch) (D : va_G) (a : Nat → Nat) (sz : Nat) (s : MS) (o : MS) (h : m_x6_readBlocks s = some o) : yWv l yX6_readBlocks cX6_readBlocks 2 none { frames := 3, cells := 0, slots := 0, locals := 180 } D sz [.ref (a 5), .ref (a 39)] (CS D a s) (CS D a o) := by
  refine Met.ofW (cc := cX6_readBlocks) (maxL := 2) (ret := none) (by decide) rfl ?_
  intro p e s₀ m args below meth c s₁ B hml hv
  obtain ⟨rfl, ⟨hsz, hP, hK, hD0⟩, hN⟩ := hv
  have hx := B.exec
  have hb := B.bytes
  have hr := B.returns
  have hts := atoms_spec (ws := wz yX6_readBlocks cX6_readBlocks 2 none) B.pre
  have ht : ∀ w ∈ lw_gd, w.before _ s₀ = true := fun w h => hts w (List.mem_cons_of_mem _ h)
  have hown : s₀.vm.findClass RX6 = some m.cls := findClass_of_methodNamed B.named
  have hlocks := B.notSynchronized
  subst hsz
  have hD := hD0.self (sz := s₀.heap.size)
  generalize hAe : va_A (CS D a s) s₀.heap.size = A at hD ⊢
  have hA : ∀ q : Nat, s₀.heap.size ≤ q → A q := fun q h => by rw [← hAe]; exact Or.inr h
  have hS : va_S A s₀.heap s₀.heap [] := va_S.rf
  have hDD : ∀ t : MS, va_D A (CS D a t) := fun t => CW_D t hD
  have hl := lv_entry ([.ref (a 5), .ref (a 39)]) (n := 2) (Nat.le_of_ble_eq_true rfl)
  rw [lg_entry_eq]
  generalize (lg_sl ([.ref (a 5), .ref (a 39)]) ++ List.replicate (2 - (lg_sl ([.ref (a 5), .ref (a 39)])).length) Slot.unset).toArray = ls at hl ⊢
  have hl : lv_has ls 2 [(0, .ref (a 5)), (1, .ref (a 39))] := hl
  unfold m_x6_readBlocks at h
  refine lv_aload_n hx hb dX6_readBlocks_0 rfl (lv_at hl 0 rfl) ?_
  obtain ⟨s2, hc1, h⟩ := bn_e h
  refine ywVv (As := []) (rest := []) (C := RX6) (n := 0) (ws' := CS D a s2) ⟨hx, hb, hml, hown, ht⟩ (k_x6_advance l D a _ _ _ hc1) (zgV ml_X6_75 im_X6_advance se_X6_advance in_X6 co_X6_advance) rfl rfl (by decide +kernel) ⟨Nat.le_of_ble_eq_true rfl, Nat.le_of_ble_eq_true rfl⟩ hN hK hP (hDD _) hS hA 5 CW_5 rfl rfl rfl hl.1 rfl (Nat.le_of_ble_eq_true rfl) dX6_readBlocks_1 ⟨Nat.le_of_ble_eq_true rfl, Nat.le_of_ble_eq_true rfl⟩ (fun H locs hP hS => ?_)
  refine lv_aload_n hx hb dX6_readBlocks_4 rfl (lv_at hl 1 rfl) ?_
  refine lv_aload_n hx hb dX6_readBlocks_5 rfl (lv_at hl 0 rfl) ?_
  refine lv_bipush (v := 8) hx hb dX6_readBlocks_6 (by decide) ?_
  refine lv_bipush (v := 48) hx hb dX6_readBlocks_8 (by decide) ?_
  obtain ⟨⟨r5, s4⟩, hc3, h⟩ := bn_e h
  refine ywV (r0 := r5) (As := [.int 8, .int 48]) (rest := [.ref (a 39)]) (C := RX6) (n := 2) (ws' := CS D a s4) ⟨hx, hb, hml, hown, ht⟩ (k_x6_expectNumber l D a 8 48 _ _ _ hc3) (zgV ml_X6_151 im_X6_expectNumber se_X6_expectNumber in_X6 co_X6_expectNumber) rfl rfl (by decide +kernel) ⟨Nat.le_of_ble_eq_true rfl, Nat.le_of_ble_eq_true rfl⟩ hN hK hP (hDD _) hS hA 5 CW_5 rfl rfl rfl hl.1 rfl (Nat.le_of_ble_eq_true rfl) dX6_readBlocks_10 ⟨Nat.le_of_ble_eq_true rfl, Nat.le_of_ble_eq_true rfl⟩ (fun H locs hP hS => ?_)
  refine ya_put (D := D) (ci := 5) (v := .int r5) (ty := .int) (C := RX5) (T := TX5) (N := 14) hx hb ht inX5 tyX5 tyX5_ok nmX5 hown hK hP (hDD _) hS 39 CW_39 rfl 0 (by decide) (ht (.fieldLink RX6 162 "CloneVolumes$Plan" "blocks" "I") fl_X6_162) (fun _ h9 => h9) rfl (by decide +kernel) rfl rfl (Nat.le_of_ble_eq_true rfl) dX6_readBlocks_13 (CW_w39_0 _) (fun H locs hP hS => ?_)
  obtain ⟨s6, hs6, h⟩ := st_e h
  rw [hs6] at hP
  refine lv_aload_n hx hb dX6_readBlocks_16 rfl (lv_at hl 0 rfl) ?_
  refine lv_iconst (v := 1) hx hb dX6_readBlocks_17 (by decide) ?_
  obtain ⟨s8, hc7, h⟩ := bn_e h
  refine ywVv (As := [.int 1]) (rest := []) (C := RX6) (n := 1) (ws' := CS D a s8) ⟨hx, hb, hml, hown, ht⟩ (k_x6_expectWord l D a 1 _ _ _ hc7) (zgV ml_X6_165 im_X6_expectWord se_X6_expectWord in_X6 co_X6_expectWord) rfl rfl (by decide +kernel) ⟨Nat.le_of_ble_eq_true rfl, Nat.le_of_ble_eq_true rfl⟩ hN hK hP (hDD _) hS hA 5 CW_5 rfl rfl rfl hl.1 rfl (Nat.le_of_ble_eq_true rfl) dX6_readBlocks_18 ⟨Nat.le_of_ble_eq_true rfl, Nat.le_of_ble_eq_true rfl⟩ (fun H locs hP hS => ?_)
  refine lv_aload_n hx hb dX6_readBlocks_21 rfl (lv_at hl 1 rfl) ?_
  refine lv_aload_n hx hb dX6_readBlocks_22 rfl (lv_at hl 0 rfl) ?_
  refine lv_iconst (v := 3) hx hb dX6_readBlocks_23 (by decide) ?_
  refine lv_bipush (v := 6) hx hb dX6_readBlocks_24 (by decide) ?_
  obtain ⟨⟨r11, s10⟩, hc9, h⟩ := bn_e h
  refine ywV (r0 := r11) (As := [.int 3, .int 6]) (rest := [.ref (a 39)]) (C := RX6) (n := 2) (ws' := CS D a s10) ⟨hx, hb, hml, hown, ht⟩ (k_x6_expectNumber l D a 3 6 _ _ _ hc9) (zgV ml_X6_151 im_X6_expectNumber se_X6_expectNumber in_X6 co_X6_expectNumber) rfl rfl (by decide +kernel) ⟨Nat.le_of_ble_eq_true rfl, Nat.le_of_ble_eq_true rfl⟩ hN hK hP (hDD _) hS hA 5 CW_5 rfl rfl rfl hl.1 rfl (Nat.le_of_ble_eq_true rfl) dX6_readBlocks_26 ⟨Nat.le_of_ble_eq_true rfl, Nat.le_of_ble_eq_true rfl⟩ (fun H locs hP hS => ?_)
  refine ya_put (D := D) (ci := 5) (v := .int r11) (ty := .int) (C := RX5) (T := TX5) (N := 14) hx hb ht inX5 tyX5 tyX5_ok nmX5 hown hK hP (hDD _) hS 39 CW_39 rfl 1 (by decide) (ht (.fieldLink RX6 168 "CloneVolumes$Plan" "entriesMost" "I") fl_X6_168) (fun _ h9 => h9) rfl (by decide +kernel) rfl rfl (Nat.le_of_ble_eq_true rfl) dX6_readBlocks_29 (CW_w39_1 _) (fun H locs hP hS => ?_)
  obtain ⟨s12, hs12, h⟩ := st_e h
  rw [hs12] at hP
  obtain rfl := Option.some.inj h
  exact W.vret hx hb hr (fun t ht hW => ⟨⟨(), rfl, trivial, by rw [ht]; exact hP, va_K.moved hW.alike hK, hDD _⟩, hS.F ht⟩) hS.2.2 dX6_readBlocks_32
def m_x6_beginFormula_J20 (x1 : Int32) (s2 : MS) : Option MS :=
  bn (m_x6_advance s2) (fun s4 => stn (sI s4 105 x1) (fun s5 => eqg (gI s5 9999) 2 (inb 3 x1 (stn (sA s5 45 (upd (gA s5 45) (Int32.toNatClampNeg x1) (gI s5 941))) (fun s8 => some s8)))))
def m_x6_beginFormula (p1 : Int32) (s : MS) : Option MS :=
  rdI (gA s 45) 3 p1 (fun y9 => if y9 = (-1) then m_x6_beginFormula_J20 p1 s else bn (m_x6_fail 5 (gI s 108) s) (fun qr13 => m_x6_beginFormula_J20 p1 qr13.2))
set_option maxHeartbeats 4000000 in
set_option maxRecDepth 100000 in
theorem k_x6_beginFormula (l : Launch) (D : va_G) (a : Nat → Nat) (p1 : Int32) (sz : Nat) (s : MS) (o : MS) (h : m_x6_beginFormula p1 s = some o) : yWv l yX6_beginFormula cX6_beginFormula 3 none { frames := 2, cells := 0, slots := 0, locals := 120 } D sz [.ref (a 5), .ref (a 39), .int p1] (CS D a s) (CS D a o) := by
  refine Met.ofW (cc := cX6_beginFormula) (maxL := 3) (ret := none) (by decide) rfl ?_
  intro p e s₀ m args below meth c s₁ B hml hv
  obtain ⟨rfl, ⟨hsz, hP, hK, hD0⟩, hN⟩ := hv
  have hx := B.exec
  have hb := B.bytes
  have hr := B.returns
  have hts := atoms_spec (ws := wz yX6_beginFormula cX6_beginFormula 3 none) B.pre
  have ht : ∀ w ∈ lw_gd, w.before _ s₀ = true := fun w h => hts w (List.mem_cons_of_mem _ h)
  have hown : s₀.vm.findClass RX6 = some m.cls := findClass_of_methodNamed B.named
  have hlocks := B.notSynchronized
  subst hsz
  have hD := hD0.self (sz := s₀.heap.size)
  generalize hAe : va_A (CS D a s) s₀.heap.size = A at hD ⊢
  have hA : ∀ q : Nat, s₀.heap.size ≤ q → A q := fun q h => by rw [← hAe]; exact Or.inr h
  have hS : va_S A s₀.heap s₀.heap [] := va_S.rf
  have hDD : ∀ t : MS, va_D A (CS D a t) := fun t => CW_D t hD
  have hl := lv_entry ([.ref (a 5), .ref (a 39), .int p1]) (n := 3) (Nat.le_of_ble_eq_true rfl)
  rw [lg_entry_eq]
  generalize (lg_sl ([.ref (a 5), .ref (a 39), .int p1]) ++ List.replicate (3 - (lg_sl ([.ref (a 5), .ref (a 39), .int p1])).length) Slot.unset).toArray = ls at hl ⊢
  have hl : lv_has ls 3 [(0, .ref (a 5)), (1, .ref (a 39)), (2, .int p1)] := hl
  unfold m_x6_beginFormula at h
  refine y_head (pcJ := 20) (σ := Int32 × MS) (fun u H locs ls => va_P D vwCl (CS D a u.2) H ∧ va_S A s₀.heap H locs ∧ lv_has ls 3 [(0, .ref (a 5)), (1, .ref (a 39)), (2, .int u.1)] ∧ m_x6_beginFormula_J20 u.1 u.2 = some o) (fun u => []) (fun u H locs ls hI => ?_) (fun J20 => ?_)
  · obtain ⟨hP, hS, hl, h⟩ := hI
    obtain ⟨x1, s2⟩ := u
    have hP : va_P D vwCl (CS D a s2) H := hP
    have hl : lv_has ls 3 [(0, .ref (a 5)), (1, .ref (a 39)), (2, .int x1)] := hl
    have h : m_x6_beginFormula_J20 x1 s2 = some o := h
    unfold m_x6_beginFormula_J20 at h
    refine lv_aload_n hx hb dX6_beginFormula_20 rfl (lv_at hl 0 rfl) ?_
    obtain ⟨s4, hc3, h⟩ := bn_e h
    refine ywVv (As := []) (rest := []) (C := RX6) (n := 0) (ws' := CS D a s4) ⟨hx, hb, hml, hown, ht⟩ (k_x6_advance l D a _ _ _ hc3) (zgV ml_X6_75 im_X6_advance se_X6_advance in_X6 co_X6_advance) rfl rfl (by decide +kernel) ⟨Nat.le_of_ble_eq_true rfl, Nat.le_of_ble_eq_true rfl⟩ hN hK hP (hDD _) hS hA 5 CW_5 rfl rfl rfl hl.1 rfl (Nat.le_of_ble_eq_true rfl) dX6_beginFormula_21 ⟨Nat.le_of_ble_eq_true rfl, Nat.le_of_ble_eq_true rfl⟩ (fun H locs hP hS => ?_)
    refine lv_aload_n hx hb dX6_beginFormula_24 rfl (lv_at hl 0 rfl) ?_
    refine lv_iload_n hx hb dX6_beginFormula_25 rfl (lv_at hl 2 rfl) ?_
    refine ya_put (D := D) (ci := 6) (v := .int x1) (ty := .int) (C := RX6) (T := TX6) (N := 12) hx hb ht inX6 tyX6 tyX6_ok nmX6 hown hK hP (hDD _) hS 5 CW_5 rfl 5 (by decide) (ht (.fieldLink RX6 69 "CloneVolumes$Reader" "mode" "I") fl_X6_69) (fun _ h9 => h9) rfl (by decide +kernel) rfl rfl (Nat.le_of_ble_eq_true rfl) dX6_beginFormula_26 (CW_w5_5 _) (fun H locs hP hS => ?_)
    obtain ⟨s5, hs5, h⟩ := st_e h
    rw [hs5] at hP
    refine lv_aload_n hx hb dX6_beginFormula_29 rfl (lv_at hl 1 rfl) ?_
    refine va_get (D := D) (ci := 5) (v := .ref (a 45)) (C := RX5) (T := TX5) (N := 14) hx hb ht inX5 hown hK hP 39 CW_39 rfl 12 (by decide) (ht (.fieldLink RX6 185 "CloneVolumes$Plan" "begins" "[I") fl_X6_185) (fun _ h9 => h9) rfl dX6_beginFormula_30 ?_
    refine lv_iload_n hx hb dX6_beginFormula_33 rfl (lv_at hl 2 rfl) ?_
    refine lv_aload_n hx hb dX6_beginFormula_34 rfl (lv_at hl 0 rfl) ?_
    obtain ⟨he6, h⟩ := eqg_e h
    refine va_get (D := D) (ci := 6) (v := .ref (a 47)) (C := RX6) (T := TX6) (N := 12) hx hb ht inX6 hown hK hP 5 CW_5 rfl 4 (by decide) (ht (.fieldLink RX6 84 "CloneVolumes$Reader" "code" "LCloneVolumes$Code;") fl_X6_84) (fun _ h9 => h9) (congrArg some (rcv_2 he6)) dX6_beginFormula_35 ?_
    refine va_get (D := D) (ci := 0) (v := .int (gI s5 941)) (C := RX0) (T := TX0) (N := 2) hx hb ht inX0 hown hK hP 47 CW_47 rfl 1 (by decide) (ht (.fieldLink RX6 64 "CloneVolumes$Code" "size" "I") fl_X6_64) (fun _ h9 => h9) rfl dX6_beginFormula_38 ?_
    obtain ⟨hi7, h⟩ := inb_e h
    refine ya_iast hx hb hK hP (hDD _) hS 45 0 CW_45 rfl hi7 dX6_beginFormula_41 (CW_w45 _) (fun H locs hP hS => ?_)
    obtain ⟨s8, hs8, h⟩ := st_e h
    rw [hs8] at hP
    obtain rfl := Option.some.inj h
    exact W.vret hx hb hr (fun t ht hW => ⟨⟨(), rfl, trivial, by rw [ht]; exact hP, va_K.moved hW.alike hK, hDD _⟩, hS.F ht⟩) hS.2.2 dX6_beginFormula_42
  refine lv_aload_n hx hb dX6_beginFormula_0 rfl (lv_at hl 1 rfl) ?_
  refine va_get (D := D) (ci := 5) (v := .ref (a 45)) (C := RX5) (T := TX5) (N := 14) hx hb ht inX5 hown hK hP 39 CW_39 rfl 12 (by decide) (ht (.fieldLink RX6 185 "CloneVolumes$Plan" "begins" "[I") fl_X6_185) (fun _ h9 => h9) rfl dX6_beginFormula_1 ?_
  refine lv_iload_n hx hb dX6_beginFormula_4 rfl (lv_at hl 2 rfl) ?_
  obtain ⟨y9, ey9, iy9, h⟩ := rdI_e h
  refine ya_iald hx hb hK hP 45 0 CW_45 rfl ey9 iy9 dX6_beginFormula_5 ?_
  refine lv_iconst (v := (-1)) hx hb dX6_beginFormula_6 (by decide) ?_
  refine lv_icmp_eq (tgt := 20) hx hb dX6_beginFormula_7 (by decide) (fun c10 => ?_) (fun c10 => ?_)
  · have h := if_t c10 h
    exact J20 (p1, s) _ _ _ ⟨hP, hS, lv_sub hl [0, 1, 2] rfl, h⟩
  · have h := if_f c10 h
    refine lv_aload_n hx hb dX6_beginFormula_10 rfl (lv_at hl 0 rfl) ?_
    refine lv_iconst (v := 5) hx hb dX6_beginFormula_11 (by decide) ?_
    refine lv_aload_n hx hb dX6_beginFormula_12 rfl (lv_at hl 0 rfl) ?_
    refine va_get (D := D) (ci := 6) (v := .int (gI s 108)) (C := RX6) (T := TX6) (N := 12) hx hb ht inX6 hown hK hP 5 CW_5 rfl 8 (by decide) (ht (.fieldLink RX6 51 "CloneVolumes$Reader" "start" "I") fl_X6_51) (fun _ h9 => h9) rfl dX6_beginFormula_13 ?_
    obtain ⟨⟨r13, s12⟩, hc11, h⟩ := bn_e h
    refine ywV (r0 := r13) (As := [.int 5, .int (gI s 108)]) (rest := []) (C := RX6) (n := 2) (ws' := CS D a s12) ⟨hx, hb, hml, hown, ht⟩ (k_x6_fail l D a 5 (gI s 108) _ _ _ hc11) (zgV ml_X6_54 im_X6_fail se_X6_fail in_X6 co_X6_fail) rfl rfl (by decide +kernel) ⟨Nat.le_of_ble_eq_true rfl, Nat.le_of_ble_eq_true rfl⟩ hN hK hP (hDD _) hS hA 5 CW_5 rfl rfl rfl hl.1 rfl (Nat.le_of_ble_eq_true rfl) dX6_beginFormula_16 ⟨Nat.le_of_ble_eq_true rfl, Nat.le_of_ble_eq_true rfl⟩ (fun H locs hP hS => ?_)
    refine lv_pop hx hb dX6_beginFormula_19 rfl ?_
    exact J20 (p1, s12) _ _ _ ⟨hP, hS, lv_sub hl [0, 1, 2] rfl, h⟩
def m_x6_readStatement_J244 (s1 : MS) : Option MS :=
  bn (m_x6_expectSign 59 s1) (fun s3 => stn (sI s3 783 ((gI s3 783) + 1)) (fun s4 => some s4))
def m_x6_readStatement_J234 (s5 : MS) : Option MS :=
  bn (m_x6_fail 1 (gI s5 108) s5) (fun qr8 => m_x6_readStatement_J244 qr8.2)
def m_x6_readStatement_J129 (x9 : Int32) (s10 : MS) : Option MS :=
  bn (m_x6_readChange x9 s10) (fun s12 => m_x6_readStatement_J244 s12)
def m_x6_readStatement_J120 (x13 : Int32) (s14 : MS) : Option MS :=
  bn (m_x6_readVolume x13 s14) (fun s16 => m_x6_readStatement_J244 s16)
def m_x6_readStatement_J40 (x17 : Int32) (x18 : Int32) (x19 : Int32) (s20 : MS) : Option MS :=
  if x19 = x18 then if x17 = 0 then bn (m_x6_readBlocks s20) (fun s24 => m_x6_readStatement_J244 s24) else if x17 = 1 then m_x6_readStatement_J234 s20 else if x17 = 2 then m_x6_readStatement_J120 x17 s20 else if x17 = 3 then m_x6_readStatement_J120 x17 s20 else if x17 = 4 then m_x6_readStatement_J234 s20 else if x17 = 5 then m_x6_readStatement_J129 x17 s20 else if x17 = 6 then m_x6_readStatement_J129 x17 s20 else if x17 = 7 then bn (m_x6_beginFormula 0 s20) (fun s33 => bn (m_x6_readSumC s33) (fun s35 => eqg (gI s35 9999) 2 (inb 3 0 (stn (sA s35 46 (upd (gA s35 46) (Int32.toNatClampNeg 0) (gI s35 941))) (fun s38 => m_x6_readStatement_J244 s38))))) else if x17 = 8 then bn (m_x6_beginFormula 1 s20) (fun s41 => bn (m_x6_readTestC s41) (fun s43 => eqg (gI s43 9999) 2 (inb 3 1 (stn (sA s43 46 (upd (gA s43 46) (Int32.toNatClampNeg 1) (gI s43 941))) (fun s46 => m_x6_readStatement_J244 s46))))) else if x17 = 9 then bn (m_x6_beginFormula 2 s20) (fun s49 => bn (m_x6_readSumC s49) (fun s51 => eqg (gI s51 9999) 2 (inb 3 2 (stn (sA s51 46 (upd (gA s51 46) (Int32.toNatClampNeg 2) (gI s51 941))) (fun s54 => m_x6_readStatement_J244 s54))))) else if x17 = 10 then bn (m_x6_advance s20) (fun s57 => bn (m_x6_expectNumber 0 100 s57) (fun qr60 => stn (sI qr60.2 782 qr60.1) (fun s61 => m_x6_readStatement_J244 s61))) else m_x6_readStatement_J234 s20 else bn (m_x6_fail 1 (gI s20 108) s20) (fun qr64 => some qr64.2)
def m_x6_readStatement_J29 (x65 : Int32) (x66 : Int32) (s67 : MS) : Option MS :=
  if x65 = 0 then m_x6_readStatement_J40 x65 1 x66 s67 else m_x6_readStatement_J40 x65 0 x66 s67
def m_x6_readStatement_J16 (x69 : Int32) (s70 : MS) : Option MS :=
  if (gI s70 783) = 0 then m_x6_readStatement_J29 x69 1 s70 else m_x6_readStatement_J29 x69 0 s70
def m_x6_readStatement (s : MS) : Option MS :=
  if (gI s 107) = 1 then m_x6_readStatement_J16 (gI s 110) s else m_x6_readStatement_J16 (-1) s
set_option maxHeartbeats 4000000 in
set_option maxRecDepth 100000 in
theorem k_x6_readStatement (l : Launch) (D : va_G) (a : Nat → Nat) (sz : Nat) (s : MS) (o : MS) (h : m_x6_readStatement s = some o) : yWv l yX6_readStatement cX6_readStatement 4 none { frames := 161, cells := 0, slots := 0, locals := 9660 } D sz [.ref (a 5), .ref (a 39)] (CS D a s) (CS D a o) := by
  refine Met.ofW (cc := cX6_readStatement) (maxL := 4) (ret := none) (by decide) rfl ?_
  intro p e s₀ m args below meth c s₁ B hml hv
  obtain ⟨rfl, ⟨hsz, hP, hK, hD0⟩, hN⟩ := hv
  have hx := B.exec
  have hb := B.bytes
  have hr := B.returns
  have hts := atoms_spec (ws := wz yX6_readStatement cX6_readStatement 4 none) B.pre
  have ht : ∀ w ∈ lw_gd, w.before _ s₀ = true := fun w h => hts w (List.mem_cons_of_mem _ h)
  have hown : s₀.vm.findClass RX6 = some m.cls := findClass_of_methodNamed B.named
  have hlocks := B.notSynchronized
  subst hsz
  have hD := hD0.self (sz := s₀.heap.size)
  generalize hAe : va_A (CS D a s) s₀.heap.size = A at hD ⊢
  have hA : ∀ q : Nat, s₀.heap.size ≤ q → A q := fun q h => by rw [← hAe]; exact Or.inr h
  have hS : va_S A s₀.heap s₀.heap [] := va_S.rf
  have hDD : ∀ t : MS, va_D A (CS D a t) := fun t => CW_D t hD
  have hl := lv_entry ([.ref (a 5), .ref (a 39)]) (n := 4) (Nat.le_of_ble_eq_true rfl)
  rw [lg_entry_eq]
  generalize (lg_sl ([.ref (a 5), .ref (a 39)]) ++ List.replicate (4 - (lg_sl ([.ref (a 5), .ref (a 39)])).length) Slot.unset).toArray = ls at hl ⊢
  have hl : lv_has ls 4 [(0, .ref (a 5)), (1, .ref (a 39))] := hl
  unfold m_x6_readStatement at h
  refine y_head (pcJ := 244) (σ := MS) (fun u H locs ls => va_P D vwCl (CS D a u) H ∧ va_S A s₀.heap H locs ∧ lv_has ls 4 [(0, .ref (a 5)), (1, .ref (a 39))] ∧ m_x6_readStatement_J244 u = some o) (fun u => []) (fun u H locs ls hI => ?_) (fun J244 => ?_)
  · obtain ⟨hP, hS, hl, h⟩ := hI
    obtain ⟨s1, rfl⟩ : ∃ z, z = u := ⟨u, rfl⟩
    have hP : va_P D vwCl (CS D a s1) H := hP
    have hl : lv_has ls 4 [(0, .ref (a 5)), (1, .ref (a 39))] := hl
    have h : m_x6_readStatement_J244 s1 = some o := h
    unfold m_x6_readStatement_J244 at h
    refine lv_aload_n hx hb dX6_readStatement_244 rfl (lv_at hl 0 rfl) ?_
    refine lv_bipush (v := 59) hx hb dX6_readStatement_245 (by decide) ?_
    obtain ⟨s3, hc2, h⟩ := bn_e h
    refine ywVv (As := [.int 59]) (rest := []) (C := RX6) (n := 1) (ws' := CS D a s3) ⟨hx, hb, hml, hown, ht⟩ (k_x6_expectSign l D a 59 _ _ _ hc2) (zgV ml_X6_158 im_X6_expectSign se_X6_expectSign in_X6 co_X6_expectSign) rfl rfl (by decide +kernel) ⟨Nat.le_of_ble_eq_true rfl, Nat.le_of_ble_eq_true rfl⟩ hN hK hP (hDD _) hS hA 5 CW_5 rfl rfl rfl hl.1 rfl (Nat.le_of_ble_eq_true rfl) dX6_readStatement_247 ⟨Nat.le_of_ble_eq_true rfl, Nat.le_of_ble_eq_true rfl⟩ (fun H locs hP hS => ?_)
    refine lv_aload_n hx hb dX6_readStatement_250 rfl (lv_at hl 1 rfl) ?_
    refine lv_dup hx hb dX6_readStatement_251 rfl ?_
    refine va_get (D := D) (ci := 5) (v := .int (gI s3 783)) (C := RX5) (T := TX5) (N := 14) hx hb ht inX5 hown hK hP 39 CW_39 rfl 3 (by decide) (ht (.fieldLink RX6 58 "CloneVolumes$Plan" "statements" "I") fl_X6_58) (fun _ h9 => h9) rfl dX6_readStatement_252 ?_
    refine lv_iconst (v := 1) hx hb dX6_readStatement_255 (by decide) ?_
    refine lv_iadd hx hb dX6_readStatement_256 ?_
    refine ya_put (D := D) (ci := 5) (v := .int ((gI s3 783) + 1)) (ty := .int) (C := RX5) (T := TX5) (N := 14) hx hb ht inX5 tyX5 tyX5_ok nmX5 hown hK hP (hDD _) hS 39 CW_39 rfl 3 (by decide) (ht (.fieldLink RX6 58 "CloneVolumes$Plan" "statements" "I") fl_X6_58) (fun _ h9 => h9) rfl (by decide +kernel) rfl rfl (Nat.le_of_ble_eq_true rfl) dX6_readStatement_257 (CW_w39_3 _) (fun H locs hP hS => ?_)
    obtain ⟨s4, hs4, h⟩ := st_e h
    rw [hs4] at hP
    obtain rfl := Option.some.inj h
    exact W.vret hx hb hr (fun t ht hW => ⟨⟨(), rfl, trivial, by rw [ht]; exact hP, va_K.moved hW.alike hK, hDD _⟩, hS.F ht⟩) hS.2.2 dX6_readStatement_260
  refine y_head (pcJ := 234) (σ := MS) (fun u H locs ls => va_P D vwCl (CS D a u) H ∧ va_S A s₀.heap H locs ∧ lv_has ls 4 [(0, .ref (a 5)), (1, .ref (a 39))] ∧ m_x6_readStatement_J234 u = some o) (fun u => []) (fun u H locs ls hI => ?_) (fun J234 => ?_)
  · obtain ⟨hP, hS, hl, h⟩ := hI
    obtain ⟨s5, rfl⟩ : ∃ z, z = u := ⟨u, rfl⟩
    have hP : va_P D vwCl (CS D a s5) H := hP
    have hl : lv_has ls 4 [(0, .ref (a 5)), (1, .ref (a 39))] := hl
    have h : m_x6_readStatement_J234 s5 = some o := h
    unfold m_x6_readStatement_J234 at h
    refine lv_aload_n hx hb dX6_readStatement_234 rfl (lv_at hl 0 rfl) ?_
    refine lv_iconst (v := 1) hx hb dX6_readStatement_235 (by decide) ?_
    refine lv_aload_n hx hb dX6_readStatement_236 rfl (lv_at hl 0 rfl) ?_
    refine va_get (D := D) (ci := 6) (v := .int (gI s5 108)) (C := RX6) (T := TX6) (N := 12) hx hb ht inX6 hown hK hP 5 CW_5 rfl 8 (by decide) (ht (.fieldLink RX6 51 "CloneVolumes$Reader" "start" "I") fl_X6_51) (fun _ h9 => h9) rfl dX6_readStatement_237 ?_
    obtain ⟨⟨r8, s7⟩, hc6, h⟩ := bn_e h
    refine ywV (r0 := r8) (As := [.int 1, .int (gI s5 108)]) (rest := []) (C := RX6) (n := 2) (ws' := CS D a s7) ⟨hx, hb, hml, hown, ht⟩ (k_x6_fail l D a 1 (gI s5 108) _ _ _ hc6) (zgV ml_X6_54 im_X6_fail se_X6_fail in_X6 co_X6_fail) rfl rfl (by decide +kernel) ⟨Nat.le_of_ble_eq_true rfl, Nat.le_of_ble_eq_true rfl⟩ hN hK hP (hDD _) hS hA 5 CW_5 rfl rfl rfl hl.1 rfl (Nat.le_of_ble_eq_true rfl) dX6_readStatement_240 ⟨Nat.le_of_ble_eq_true rfl, Nat.le_of_ble_eq_true rfl⟩ (fun H locs hP hS => ?_)
    refine lv_pop hx hb dX6_readStatement_243 rfl ?_
    exact J244 s7 _ _ _ ⟨hP, hS, lv_sub hl [0, 1] rfl, h⟩
  refine y_head (pcJ := 129) (σ := Int32 × MS) (fun u H locs ls => va_P D vwCl (CS D a u.2) H ∧ va_S A s₀.heap H locs ∧ lv_has ls 4 [(0, .ref (a 5)), (1, .ref (a 39)), (2, .int u.1)] ∧ m_x6_readStatement_J129 u.1 u.2 = some o) (fun u => []) (fun u H locs ls hI => ?_) (fun J129 => ?_)
  · obtain ⟨hP, hS, hl, h⟩ := hI
    obtain ⟨x9, s10⟩ := u
    have hP : va_P D vwCl (CS D a s10) H := hP
    have hl : lv_has ls 4 [(0, .ref (a 5)), (1, .ref (a 39)), (2, .int x9)] := hl
    have h : m_x6_readStatement_J129 x9 s10 = some o := h
    unfold m_x6_readStatement_J129 at h
    refine lv_aload_n hx hb dX6_readStatement_129 rfl (lv_at hl 0 rfl) ?_
    refine lv_aload_n hx hb dX6_readStatement_130 rfl (lv_at hl 1 rfl) ?_
    refine lv_iload_n hx hb dX6_readStatement_131 rfl (lv_at hl 2 rfl) ?_
    obtain ⟨s12, hc11, h⟩ := bn_e h
    refine ywVv (As := [.ref (a 39), .int x9]) (rest := []) (C := RX6) (n := 2) (ws' := CS D a s12) ⟨hx, hb, hml, hown, ht⟩ (k_x6_readChange l D a x9 _ _ _ hc11) (zgV ml_X6_142 im_X6_readChange se_X6_readChange in_X6 co_X6_readChange) rfl rfl (by decide +kernel) ⟨Nat.le_of_ble_eq_true rfl, Nat.le_of_ble_eq_true rfl⟩ hN hK hP (hDD _) hS hA 5 CW_5 rfl rfl rfl hl.1 rfl (Nat.le_of_ble_eq_true rfl) dX6_readStatement_132 ⟨Nat.le_of_ble_eq_true rfl, Nat.le_of_ble_eq_true rfl⟩ (fun H locs hP hS => ?_)
    refine lv_goto (tgt := 244) hx hb dX6_readStatement_135 (by decide) ?_
    exact J244 s12 _ _ _ ⟨hP, hS, lv_sub hl [0, 1] rfl, h⟩
  refine y_head (pcJ := 120) (σ := Int32 × MS) (fun u H locs ls => va_P D vwCl (CS D a u.2) H ∧ va_S A s₀.heap H locs ∧ lv_has ls 4 [(0, .ref (a 5)), (1, .ref (a 39)), (2, .int u.1)] ∧ m_x6_readStatement_J120 u.1 u.2 = some o) (fun u => []) (fun u H locs ls hI => ?_) (fun J120 => ?_)
  · obtain ⟨hP, hS, hl, h⟩ := hI
    obtain ⟨x13, s14⟩ := u
    have hP : va_P D vwCl (CS D a s14) H := hP
    have hl : lv_has ls 4 [(0, .ref (a 5)), (1, .ref (a 39)), (2, .int x13)] := hl
    have h : m_x6_readStatement_J120 x13 s14 = some o := h
    unfold m_x6_readStatement_J120 at h
    refine lv_aload_n hx hb dX6_readStatement_120 rfl (lv_at hl 0 rfl) ?_
    refine lv_aload_n hx hb dX6_readStatement_121 rfl (lv_at hl 1 rfl) ?_
    refine lv_iload_n hx hb dX6_readStatement_122 rfl (lv_at hl 2 rfl) ?_
    obtain ⟨s16, hc15, h⟩ := bn_e h
    refine ywVv (As := [.ref (a 39), .int x13]) (rest := []) (C := RX6) (n := 2) (ws' := CS D a s16) ⟨hx, hb, hml, hown, ht⟩ (k_x6_readVolume l D a x13 _ _ _ hc15) (zgV ml_X6_138 im_X6_readVolume se_X6_readVolume in_X6 co_X6_readVolume) rfl rfl (by decide +kernel) ⟨Nat.le_of_ble_eq_true rfl, Nat.le_of_ble_eq_true rfl⟩ hN hK hP (hDD _) hS hA 5 CW_5 rfl rfl rfl hl.1 rfl (Nat.le_of_ble_eq_true rfl) dX6_readStatement_123 ⟨Nat.le_of_ble_eq_true rfl, Nat.le_of_ble_eq_true rfl⟩ (fun H locs hP hS => ?_)
    refine lv_goto (tgt := 244) hx hb dX6_readStatement_126 (by decide) ?_
    exact J244 s16 _ _ _ ⟨hP, hS, lv_sub hl [0, 1] rfl, h⟩
  refine y_head (pcJ := 40) (σ := Int32 × Int32 × Int32 × MS) (fun u H locs ls => va_P D vwCl (CS D a u.2.2.2) H ∧ va_S A s₀.heap H locs ∧ lv_has ls 4 [(0, .ref (a 5)), (1, .ref (a 39)), (2, .int u.1)] ∧ m_x6_readStatement_J40 u.1 u.2.1 u.2.2.1 u.2.2.2 = some o) (fun u => [.int u.2.1, .int u.2.2.1]) (fun u H locs ls hI => ?_) (fun J40 => ?_)
  · obtain ⟨hP, hS, hl, h⟩ := hI
    obtain ⟨x17, x18, x19, s20⟩ := u
    have hP : va_P D vwCl (CS D a s20) H := hP
    have hl : lv_has ls 4 [(0, .ref (a 5)), (1, .ref (a 39)), (2, .int x17)] := hl
    have h : m_x6_readStatement_J40 x17 x18 x19 s20 = some o := h
    unfold m_x6_readStatement_J40 at h
    refine lv_icmp_eq (tgt := 54) hx hb dX6_readStatement_40 (by decide) (fun c21 => ?_) (fun c21 => ?_)
    · have h := if_t c21 h
      refine lv_iload_n hx hb dX6_readStatement_54 rfl (lv_at hl 2 rfl) ?_
      by_cases c22 : x17 = 0
      · have h := if_t c22 h
        refine lv_tableIn (off := 57) (tgt := 112) hx hb dX6_readStatement_55 (by rw [c22]; decide) (by rw [c22]; decide) (by rw [c22]; decide) (by decide) ?_
        refine lv_aload_n hx hb dX6_readStatement_112 rfl (lv_at hl 0 rfl) ?_
        refine lv_aload_n hx hb dX6_readStatement_113 rfl (lv_at hl 1 rfl) ?_
        obtain ⟨s24, hc23, h⟩ := bn_e h
        refine ywVv (As := [.ref (a 39)]) (rest := []) (C := RX6) (n := 1) (ws' := CS D a s24) ⟨hx, hb, hml, hown, ht⟩ (k_x6_readBlocks l D a _ _ _ hc23) (zgV ml_X6_135 im_X6_readBlocks se_X6_readBlocks in_X6 co_X6_readBlocks) rfl rfl (by decide +kernel) ⟨Nat.le_of_ble_eq_true rfl, Nat.le_of_ble_eq_true rfl⟩ hN hK hP (hDD _) hS hA 5 CW_5 rfl rfl rfl hl.1 rfl (Nat.le_of_ble_eq_true rfl) dX6_readStatement_114 ⟨Nat.le_of_ble_eq_true rfl, Nat.le_of_ble_eq_true rfl⟩ (fun H locs hP hS => ?_)
        refine lv_goto (tgt := 244) hx hb dX6_readStatement_117 (by decide) ?_
        exact J244 s24 _ _ _ ⟨hP, hS, lv_sub hl [0, 1] rfl, h⟩
      · have h := if_f c22 h
        by_cases c25 : x17 = 1
        · have h := if_t c25 h
          refine lv_tableIn (off := 179) (tgt := 234) hx hb dX6_readStatement_55 (by rw [c25]; decide) (by rw [c25]; decide) (by rw [c25]; decide) (by decide) ?_
          exact J234 s20 _ _ _ ⟨hP, hS, lv_sub hl [0, 1] rfl, h⟩
        · have h := if_f c25 h
          by_cases c26 : x17 = 2
          · have h := if_t c26 h
            refine lv_tableIn (off := 65) (tgt := 120) hx hb dX6_readStatement_55 (by rw [c26]; decide) (by rw [c26]; decide) (by rw [c26]; decide) (by decide) ?_
            exact J120 (x17, s20) _ _ _ ⟨hP, hS, lv_sub hl [0, 1, 2] rfl, h⟩
          · have h := if_f c26 h
            by_cases c27 : x17 = 3
            · have h := if_t c27 h
              refine lv_tableIn (off := 65) (tgt := 120) hx hb dX6_readStatement_55 (by rw [c27]; decide) (by rw [c27]; decide) (by rw [c27]; decide) (by decide) ?_
              exact J120 (x17, s20) _ _ _ ⟨hP, hS, lv_sub hl [0, 1, 2] rfl, h⟩
            · have h := if_f c27 h
              by_cases c28 : x17 = 4
              · have h := if_t c28 h
                refine lv_tableIn (off := 179) (tgt := 234) hx hb dX6_readStatement_55 (by rw [c28]; decide) (by rw [c28]; decide) (by rw [c28]; decide) (by decide) ?_
                exact J234 s20 _ _ _ ⟨hP, hS, lv_sub hl [0, 1] rfl, h⟩
              · have h := if_f c28 h
                by_cases c29 : x17 = 5
                · have h := if_t c29 h
                  refine lv_tableIn (off := 74) (tgt := 129) hx hb dX6_readStatement_55 (by rw [c29]; decide) (by rw [c29]; decide) (by rw [c29]; decide) (by decide) ?_
                  exact J129 (x17, s20) _ _ _ ⟨hP, hS, lv_sub hl [0, 1, 2] rfl, h⟩
                · have h := if_f c29 h
                  by_cases c30 : x17 = 6
                  · have h := if_t c30 h
                    refine lv_tableIn (off := 74) (tgt := 129) hx hb dX6_readStatement_55 (by rw [c30]; decide) (by rw [c30]; decide) (by rw [c30]; decide) (by decide) ?_
                    exact J129 (x17, s20) _ _ _ ⟨hP, hS, lv_sub hl [0, 1, 2] rfl, h⟩
                  · have h := if_f c30 h
                    by_cases c31 : x17 = 7
                    · have h := if_t c31 h
                      refine lv_tableIn (off := 83) (tgt := 138) hx hb dX6_readStatement_55 (by rw [c31]; decide) (by rw [c31]; decide) (by rw [c31]; decide) (by decide) ?_
                      refine lv_aload_n hx hb dX6_readStatement_138 rfl (lv_at hl 0 rfl) ?_
                      refine lv_aload_n hx hb dX6_readStatement_139 rfl (lv_at hl 1 rfl) ?_
                      refine lv_iconst (v := 0) hx hb dX6_readStatement_140 (by decide) ?_
                      obtain ⟨s33, hc32, h⟩ := bn_e h
                      refine ywVv (As := [.ref (a 39), .int 0]) (rest := []) (C := RX6) (n := 2) (ws' := CS D a s33) ⟨hx, hb, hml, hown, ht⟩ (k_x6_beginFormula l D a 0 _ _ _ hc32) (zgV ml_X6_145 im_X6_beginFormula se_X6_beginFormula in_X6 co_X6_beginFormula) rfl rfl (by decide +kernel) ⟨Nat.le_of_ble_eq_true rfl, Nat.le_of_ble_eq_true rfl⟩ hN hK hP (hDD _) hS hA 5 CW_5 rfl rfl rfl hl.1 rfl (Nat.le_of_ble_eq_true rfl) dX6_readStatement_141 ⟨Nat.le_of_ble_eq_true rfl, Nat.le_of_ble_eq_true rfl⟩ (fun H locs hP hS => ?_)
                      refine lv_aload_n hx hb dX6_readStatement_144 rfl (lv_at hl 0 rfl) ?_
                      obtain ⟨s35, hc34, h⟩ := bn_e h
                      refine ywVv (As := []) (rest := []) (C := RX6) (n := 0) (ws' := CS D a s35) ⟨hx, hb, hml, hown, ht⟩ (k_x6_readSumC l D a _ _ _ hc34) (zgV ml_X6_81 im_X6_readSum se_X6_readSum in_X6 co_X6_readSum) rfl rfl (by decide +kernel) ⟨Nat.le_of_ble_eq_true rfl, Nat.le_of_ble_eq_true rfl⟩ hN hK hP (hDD _) hS hA 5 CW_5 rfl rfl rfl hl.1 rfl (Nat.le_of_ble_eq_true rfl) dX6_readStatement_145 ⟨Nat.le_of_ble_eq_true rfl, Nat.le_of_ble_eq_true rfl⟩ (fun H locs hP hS => ?_)
                      refine lv_aload_n hx hb dX6_readStatement_148 rfl (lv_at hl 1 rfl) ?_
                      refine va_get (D := D) (ci := 5) (v := .ref (a 46)) (C := RX5) (T := TX5) (N := 14) hx hb ht inX5 hown hK hP 39 CW_39 rfl 13 (by decide) (ht (.fieldLink RX6 148 "CloneVolumes$Plan" "ends" "[I") fl_X6_148) (fun _ h9 => h9) rfl dX6_readStatement_149 ?_
                      refine lv_iconst (v := 0) hx hb dX6_readStatement_152 (by decide) ?_
                      refine lv_aload_n hx hb dX6_readStatement_153 rfl (lv_at hl 0 rfl) ?_
                      obtain ⟨he36, h⟩ := eqg_e h
                      refine va_get (D := D) (ci := 6) (v := .ref (a 47)) (C := RX6) (T := TX6) (N := 12) hx hb ht inX6 hown hK hP 5 CW_5 rfl 4 (by decide) (ht (.fieldLink RX6 84 "CloneVolumes$Reader" "code" "LCloneVolumes$Code;") fl_X6_84) (fun _ h9 => h9) (congrArg some (rcv_2 he36)) dX6_readStatement_154 ?_
                      refine va_get (D := D) (ci := 0) (v := .int (gI s35 941)) (C := RX0) (T := TX0) (N := 2) hx hb ht inX0 hown hK hP 47 CW_47 rfl 1 (by decide) (ht (.fieldLink RX6 64 "CloneVolumes$Code" "size" "I") fl_X6_64) (fun _ h9 => h9) rfl dX6_readStatement_157 ?_
                      obtain ⟨hi37, h⟩ := inb_e h
                      refine ya_iast hx hb hK hP (hDD _) hS 46 0 CW_46 rfl hi37 dX6_readStatement_160 (CW_w46 _) (fun H locs hP hS => ?_)
                      obtain ⟨s38, hs38, h⟩ := st_e h
                      rw [hs38] at hP
                      refine lv_goto (tgt := 244) hx hb dX6_readStatement_161 (by decide) ?_
                      exact J244 s38 _ _ _ ⟨hP, hS, lv_sub hl [0, 1] rfl, h⟩
                    · have h := if_f c31 h
                      by_cases c39 : x17 = 8
                      · have h := if_t c39 h
                        refine lv_tableIn (off := 109) (tgt := 164) hx hb dX6_readStatement_55 (by rw [c39]; decide) (by rw [c39]; decide) (by rw [c39]; decide) (by decide) ?_
                        refine lv_aload_n hx hb dX6_readStatement_164 rfl (lv_at hl 0 rfl) ?_
                        refine lv_aload_n hx hb dX6_readStatement_165 rfl (lv_at hl 1 rfl) ?_
                        refine lv_iconst (v := 1) hx hb dX6_readStatement_166 (by decide) ?_
                        obtain ⟨s41, hc40, h⟩ := bn_e h
                        refine ywVv (As := [.ref (a 39), .int 1]) (rest := []) (C := RX6) (n := 2) (ws' := CS D a s41) ⟨hx, hb, hml, hown, ht⟩ (k_x6_beginFormula l D a 1 _ _ _ hc40) (zgV ml_X6_145 im_X6_beginFormula se_X6_beginFormula in_X6 co_X6_beginFormula) rfl rfl (by decide +kernel) ⟨Nat.le_of_ble_eq_true rfl, Nat.le_of_ble_eq_true rfl⟩ hN hK hP (hDD _) hS hA 5 CW_5 rfl rfl rfl hl.1 rfl (Nat.le_of_ble_eq_true rfl) dX6_readStatement_167 ⟨Nat.le_of_ble_eq_true rfl, Nat.le_of_ble_eq_true rfl⟩ (fun H locs hP hS => ?_)
                        refine lv_aload_n hx hb dX6_readStatement_170 rfl (lv_at hl 0 rfl) ?_
                        obtain ⟨s43, hc42, h⟩ := bn_e h
                        refine ywVv (As := []) (rest := []) (C := RX6) (n := 0) (ws' := CS D a s43) ⟨hx, hb, hml, hown, ht⟩ (k_x6_readTestC l D a _ _ _ hc42) (zgV ml_X6_78 im_X6_readTest se_X6_readTest in_X6 co_X6_readTest) rfl rfl (by decide +kernel) ⟨Nat.le_of_ble_eq_true rfl, Nat.le_of_ble_eq_true rfl⟩ hN hK hP (hDD _) hS hA 5 CW_5 rfl rfl rfl hl.1 rfl (Nat.le_of_ble_eq_true rfl) dX6_readStatement_171 ⟨Nat.le_of_ble_eq_true rfl, Nat.le_of_ble_eq_true rfl⟩ (fun H locs hP hS => ?_)
                        refine lv_aload_n hx hb dX6_readStatement_174 rfl (lv_at hl 1 rfl) ?_
                        refine va_get (D := D) (ci := 5) (v := .ref (a 46)) (C := RX5) (T := TX5) (N := 14) hx hb ht inX5 hown hK hP 39 CW_39 rfl 13 (by decide) (ht (.fieldLink RX6 148 "CloneVolumes$Plan" "ends" "[I") fl_X6_148) (fun _ h9 => h9) rfl dX6_readStatement_175 ?_
                        refine lv_iconst (v := 1) hx hb dX6_readStatement_178 (by decide) ?_
                        refine lv_aload_n hx hb dX6_readStatement_179 rfl (lv_at hl 0 rfl) ?_
                        obtain ⟨he44, h⟩ := eqg_e h
                        refine va_get (D := D) (ci := 6) (v := .ref (a 47)) (C := RX6) (T := TX6) (N := 12) hx hb ht inX6 hown hK hP 5 CW_5 rfl 4 (by decide) (ht (.fieldLink RX6 84 "CloneVolumes$Reader" "code" "LCloneVolumes$Code;") fl_X6_84) (fun _ h9 => h9) (congrArg some (rcv_2 he44)) dX6_readStatement_180 ?_
                        refine va_get (D := D) (ci := 0) (v := .int (gI s43 941)) (C := RX0) (T := TX0) (N := 2) hx hb ht inX0 hown hK hP 47 CW_47 rfl 1 (by decide) (ht (.fieldLink RX6 64 "CloneVolumes$Code" "size" "I") fl_X6_64) (fun _ h9 => h9) rfl dX6_readStatement_183 ?_
                        obtain ⟨hi45, h⟩ := inb_e h
                        refine ya_iast hx hb hK hP (hDD _) hS 46 0 CW_46 rfl hi45 dX6_readStatement_186 (CW_w46 _) (fun H locs hP hS => ?_)
                        obtain ⟨s46, hs46, h⟩ := st_e h
                        rw [hs46] at hP
                        refine lv_goto (tgt := 244) hx hb dX6_readStatement_187 (by decide) ?_
                        exact J244 s46 _ _ _ ⟨hP, hS, lv_sub hl [0, 1] rfl, h⟩
                      · have h := if_f c39 h
                        by_cases c47 : x17 = 9
                        · have h := if_t c47 h
                          refine lv_tableIn (off := 135) (tgt := 190) hx hb dX6_readStatement_55 (by rw [c47]; decide) (by rw [c47]; decide) (by rw [c47]; decide) (by decide) ?_
                          refine lv_aload_n hx hb dX6_readStatement_190 rfl (lv_at hl 0 rfl) ?_
                          refine lv_aload_n hx hb dX6_readStatement_191 rfl (lv_at hl 1 rfl) ?_
                          refine lv_iconst (v := 2) hx hb dX6_readStatement_192 (by decide) ?_
                          obtain ⟨s49, hc48, h⟩ := bn_e h
                          refine ywVv (As := [.ref (a 39), .int 2]) (rest := []) (C := RX6) (n := 2) (ws' := CS D a s49) ⟨hx, hb, hml, hown, ht⟩ (k_x6_beginFormula l D a 2 _ _ _ hc48) (zgV ml_X6_145 im_X6_beginFormula se_X6_beginFormula in_X6 co_X6_beginFormula) rfl rfl (by decide +kernel) ⟨Nat.le_of_ble_eq_true rfl, Nat.le_of_ble_eq_true rfl⟩ hN hK hP (hDD _) hS hA 5 CW_5 rfl rfl rfl hl.1 rfl (Nat.le_of_ble_eq_true rfl) dX6_readStatement_193 ⟨Nat.le_of_ble_eq_true rfl, Nat.le_of_ble_eq_true rfl⟩ (fun H locs hP hS => ?_)
                          refine lv_aload_n hx hb dX6_readStatement_196 rfl (lv_at hl 0 rfl) ?_
                          obtain ⟨s51, hc50, h⟩ := bn_e h
                          refine ywVv (As := []) (rest := []) (C := RX6) (n := 0) (ws' := CS D a s51) ⟨hx, hb, hml, hown, ht⟩ (k_x6_readSumC l D a _ _ _ hc50) (zgV ml_X6_81 im_X6_readSum se_X6_readSum in_X6 co_X6_readSum) rfl rfl (by decide +kernel) ⟨Nat.le_of_ble_eq_true rfl, Nat.le_of_ble_eq_true rfl⟩ hN hK hP (hDD _) hS hA 5 CW_5 rfl rfl rfl hl.1 rfl (Nat.le_of_ble_eq_true rfl) dX6_readStatement_197 ⟨Nat.le_of_ble_eq_true rfl, Nat.le_of_ble_eq_true rfl⟩ (fun H locs hP hS => ?_)
                          refine lv_aload_n hx hb dX6_readStatement_200 rfl (lv_at hl 1 rfl) ?_
                          refine va_get (D := D) (ci := 5) (v := .ref (a 46)) (C := RX5) (T := TX5) (N := 14) hx hb ht inX5 hown hK hP 39 CW_39 rfl 13 (by decide) (ht (.fieldLink RX6 148 "CloneVolumes$Plan" "ends" "[I") fl_X6_148) (fun _ h9 => h9) rfl dX6_readStatement_201 ?_
                          refine lv_iconst (v := 2) hx hb dX6_readStatement_204 (by decide) ?_
                          refine lv_aload_n hx hb dX6_readStatement_205 rfl (lv_at hl 0 rfl) ?_
                          obtain ⟨he52, h⟩ := eqg_e h
                          refine va_get (D := D) (ci := 6) (v := .ref (a 47)) (C := RX6) (T := TX6) (N := 12) hx hb ht inX6 hown hK hP 5 CW_5 rfl 4 (by decide) (ht (.fieldLink RX6 84 "CloneVolumes$Reader" "code" "LCloneVolumes$Code;") fl_X6_84) (fun _ h9 => h9) (congrArg some (rcv_2 he52)) dX6_readStatement_206 ?_
                          refine va_get (D := D) (ci := 0) (v := .int (gI s51 941)) (C := RX0) (T := TX0) (N := 2) hx hb ht inX0 hown hK hP 47 CW_47 rfl 1 (by decide) (ht (.fieldLink RX6 64 "CloneVolumes$Code" "size" "I") fl_X6_64) (fun _ h9 => h9) rfl dX6_readStatement_209 ?_
                          obtain ⟨hi53, h⟩ := inb_e h
                          refine ya_iast hx hb hK hP (hDD _) hS 46 0 CW_46 rfl hi53 dX6_readStatement_212 (CW_w46 _) (fun H locs hP hS => ?_)
                          obtain ⟨s54, hs54, h⟩ := st_e h
                          rw [hs54] at hP
                          refine lv_goto (tgt := 244) hx hb dX6_readStatement_213 (by decide) ?_
                          exact J244 s54 _ _ _ ⟨hP, hS, lv_sub hl [0, 1] rfl, h⟩
                        · have h := if_f c47 h
                          by_cases c55 : x17 = 10
                          · have h := if_t c55 h
                            refine lv_tableIn (off := 161) (tgt := 216) hx hb dX6_readStatement_55 (by rw [c55]; decide) (by rw [c55]; decide) (by rw [c55]; decide) (by decide) ?_
                            refine lv_aload_n hx hb dX6_readStatement_216 rfl (lv_at hl 0 rfl) ?_
                            obtain ⟨s57, hc56, h⟩ := bn_e h
                            refine ywVv (As := []) (rest := []) (C := RX6) (n := 0) (ws' := CS D a s57) ⟨hx, hb, hml, hown, ht⟩ (k_x6_advance l D a _ _ _ hc56) (zgV ml_X6_75 im_X6_advance se_X6_advance in_X6 co_X6_advance) rfl rfl (by decide +kernel) ⟨Nat.le_of_ble_eq_true rfl, Nat.le_of_ble_eq_true rfl⟩ hN hK hP (hDD _) hS hA 5 CW_5 rfl rfl rfl hl.1 rfl (Nat.le_of_ble_eq_true rfl) dX6_readStatement_217 ⟨Nat.le_of_ble_eq_true rfl, Nat.le_of_ble_eq_true rfl⟩ (fun H locs hP hS => ?_)
                            refine lv_aload_n hx hb dX6_readStatement_220 rfl (lv_at hl 1 rfl) ?_
                            refine lv_aload_n hx hb dX6_readStatement_221 rfl (lv_at hl 0 rfl) ?_
                            refine lv_iconst (v := 0) hx hb dX6_readStatement_222 (by decide) ?_
                            refine lv_bipush (v := 100) hx hb dX6_readStatement_223 (by decide) ?_
                            obtain ⟨⟨r60, s59⟩, hc58, h⟩ := bn_e h
                            refine ywV (r0 := r60) (As := [.int 0, .int 100]) (rest := [.ref (a 39)]) (C := RX6) (n := 2) (ws' := CS D a s59) ⟨hx, hb, hml, hown, ht⟩ (k_x6_expectNumber l D a 0 100 _ _ _ hc58) (zgV ml_X6_151 im_X6_expectNumber se_X6_expectNumber in_X6 co_X6_expectNumber) rfl rfl (by decide +kernel) ⟨Nat.le_of_ble_eq_true rfl, Nat.le_of_ble_eq_true rfl⟩ hN hK hP (hDD _) hS hA 5 CW_5 rfl rfl rfl hl.1 rfl (Nat.le_of_ble_eq_true rfl) dX6_readStatement_225 ⟨Nat.le_of_ble_eq_true rfl, Nat.le_of_ble_eq_true rfl⟩ (fun H locs hP hS => ?_)
                            refine ya_put (D := D) (ci := 5) (v := .int r60) (ty := .int) (C := RX5) (T := TX5) (N := 14) hx hb ht inX5 tyX5 tyX5_ok nmX5 hown hK hP (hDD _) hS 39 CW_39 rfl 2 (by decide) (ht (.fieldLink RX6 155 "CloneVolumes$Plan" "churn" "I") fl_X6_155) (fun _ h9 => h9) rfl (by decide +kernel) rfl rfl (Nat.le_of_ble_eq_true rfl) dX6_readStatement_228 (CW_w39_2 _) (fun H locs hP hS => ?_)
                            obtain ⟨s61, hs61, h⟩ := st_e h
                            rw [hs61] at hP
                            refine lv_goto (tgt := 244) hx hb dX6_readStatement_231 (by decide) ?_
                            exact J244 s61 _ _ _ ⟨hP, hS, lv_sub hl [0, 1] rfl, h⟩
                          · have h := if_f c55 h
                            have gc22 := lv_neT (a := 0) c22 (by decide)
                            have gc25 := lv_neT (a := 1) c25 (by decide)
                            have gc26 := lv_neT (a := 2) c26 (by decide)
                            have gc27 := lv_neT (a := 3) c27 (by decide)
                            have gc28 := lv_neT (a := 4) c28 (by decide)
                            have gc29 := lv_neT (a := 5) c29 (by decide)
                            have gc30 := lv_neT (a := 6) c30 (by decide)
                            have gc31 := lv_neT (a := 7) c31 (by decide)
                            have gc39 := lv_neT (a := 8) c39 (by decide)
                            have gc47 := lv_neT (a := 9) c47 (by decide)
                            have gc55 := lv_neT (a := 10) c55 (by decide)
                            refine lv_tableOut (tgt := 234) hx hb dX6_readStatement_55 (by omega) (by decide) ?_
                            exact J234 s20 _ _ _ ⟨hP, hS, lv_sub hl [0, 1] rfl, h⟩
    · have h := if_f c21 h
      refine lv_aload_n hx hb dX6_readStatement_43 rfl (lv_at hl 0 rfl) ?_
      refine lv_iconst (v := 1) hx hb dX6_readStatement_44 (by decide) ?_
      refine lv_aload_n hx hb dX6_readStatement_45 rfl (lv_at hl 0 rfl) ?_
      refine va_get (D := D) (ci := 6) (v := .int (gI s20 108)) (C := RX6) (T := TX6) (N := 12) hx hb ht inX6 hown hK hP 5 CW_5 rfl 8 (by decide) (ht (.fieldLink RX6 51 "CloneVolumes$Reader" "start" "I") fl_X6_51) (fun _ h9 => h9) rfl dX6_readStatement_46 ?_
      obtain ⟨⟨r64, s63⟩, hc62, h⟩ := bn_e h
      refine ywV (r0 := r64) (As := [.int 1, .int (gI s20 108)]) (rest := []) (C := RX6) (n := 2) (ws' := CS D a s63) ⟨hx, hb, hml, hown, ht⟩ (k_x6_fail l D a 1 (gI s20 108) _ _ _ hc62) (zgV ml_X6_54 im_X6_fail se_X6_fail in_X6 co_X6_fail) rfl rfl (by decide +kernel) ⟨Nat.le_of_ble_eq_true rfl, Nat.le_of_ble_eq_true rfl⟩ hN hK hP (hDD _) hS hA 5 CW_5 rfl rfl rfl hl.1 rfl (Nat.le_of_ble_eq_true rfl) dX6_readStatement_49 ⟨Nat.le_of_ble_eq_true rfl, Nat.le_of_ble_eq_true rfl⟩ (fun H locs hP hS => ?_)
      refine lv_pop hx hb dX6_readStatement_52 rfl ?_
      obtain rfl := Option.some.inj h
      exact W.vret hx hb hr (fun t ht hW => ⟨⟨(), rfl, trivial, by rw [ht]; exact hP, va_K.moved hW.alike hK, hDD _⟩, hS.F ht⟩) hS.2.2 dX6_readStatement_53
  refine y_head (pcJ := 29) (σ := Int32 × Int32 × MS) (fun u H locs ls => va_P D vwCl (CS D a u.2.2) H ∧ va_S A s₀.heap H locs ∧ lv_has ls 4 [(0, .ref (a 5)), (1, .ref (a 39)), (2, .int u.1)] ∧ m_x6_readStatement_J29 u.1 u.2.1 u.2.2 = some o) (fun u => [.int u.2.1]) (fun u H locs ls hI => ?_) (fun J29 => ?_)
  · obtain ⟨hP, hS, hl, h⟩ := hI
    obtain ⟨x65, x66, s67⟩ := u
    have hP : va_P D vwCl (CS D a s67) H := hP
    have hl : lv_has ls 4 [(0, .ref (a 5)), (1, .ref (a 39)), (2, .int x65)] := hl
    have h : m_x6_readStatement_J29 x65 x66 s67 = some o := h
    unfold m_x6_readStatement_J29 at h
    refine lv_istore_n (lv' := [(3, .int x66), (0, .ref (a 5)), (1, .ref (a 39)), (2, .int x65)]) hx hb dX6_readStatement_29 rfl hl (by decide) rfl (fun ls hl => ?_)
    refine lv_iload_n hx hb dX6_readStatement_30 rfl (lv_at hl 0 rfl) ?_
    refine lv_iload_n hx hb dX6_readStatement_31 rfl (lv_at hl 3 rfl) ?_
    refine lv_if_ne (tgt := 39) hx hb dX6_readStatement_32 (by decide) (fun c68 => ?_) (fun c68 => ?_)
    · have h := if_f c68 h
      refine lv_iconst (v := 0) hx hb dX6_readStatement_39 (by decide) ?_
      exact J40 (x65, 0, x66, s67) _ _ _ ⟨hP, hS, lv_sub hl [1, 2, 3] rfl, h⟩
    · have h := if_t c68 h
      refine lv_iconst (v := 1) hx hb dX6_readStatement_35 (by decide) ?_
      refine lv_goto (tgt := 40) hx hb dX6_readStatement_36 (by decide) ?_
      exact J40 (x65, 1, x66, s67) _ _ _ ⟨hP, hS, lv_sub hl [1, 2, 3] rfl, h⟩
  refine y_head (pcJ := 16) (σ := Int32 × MS) (fun u H locs ls => va_P D vwCl (CS D a u.2) H ∧ va_S A s₀.heap H locs ∧ lv_has ls 4 [(0, .ref (a 5)), (1, .ref (a 39))] ∧ m_x6_readStatement_J16 u.1 u.2 = some o) (fun u => [.int u.1]) (fun u H locs ls hI => ?_) (fun J16 => ?_)
  · obtain ⟨hP, hS, hl, h⟩ := hI
    obtain ⟨x69, s70⟩ := u
    have hP : va_P D vwCl (CS D a s70) H := hP
    have hl : lv_has ls 4 [(0, .ref (a 5)), (1, .ref (a 39))] := hl
    have h : m_x6_readStatement_J16 x69 s70 = some o := h
    unfold m_x6_readStatement_J16 at h
    refine lv_istore_n (lv' := [(2, .int x69), (0, .ref (a 5)), (1, .ref (a 39))]) hx hb dX6_readStatement_16 rfl hl (by decide) rfl (fun ls hl => ?_)
    refine lv_aload_n hx hb dX6_readStatement_17 rfl (lv_at hl 2 rfl) ?_
    refine va_get (D := D) (ci := 5) (v := .int (gI s70 783)) (C := RX5) (T := TX5) (N := 14) hx hb ht inX5 hown hK hP 39 CW_39 rfl 3 (by decide) (ht (.fieldLink RX6 58 "CloneVolumes$Plan" "statements" "I") fl_X6_58) (fun _ h9 => h9) rfl dX6_readStatement_18 ?_
    refine lv_if_ne (tgt := 28) hx hb dX6_readStatement_21 (by decide) (fun c71 => ?_) (fun c71 => ?_)
    · have h := if_f c71 h
      refine lv_iconst (v := 0) hx hb dX6_readStatement_28 (by decide) ?_
      exact J29 (x69, 0, s70) _ _ _ ⟨hP, hS, lv_sub hl [1, 2, 0] rfl, h⟩
    · have h := if_t c71 h
      refine lv_iconst (v := 1) hx hb dX6_readStatement_24 (by decide) ?_
      refine lv_goto (tgt := 29) hx hb dX6_readStatement_25 (by decide) ?_
      exact J29 (x69, 1, s70) _ _ _ ⟨hP, hS, lv_sub hl [1, 2, 0] rfl, h⟩
  refine lv_aload_n hx hb dX6_readStatement_0 rfl (lv_at hl 0 rfl) ?_
  refine va_get (D := D) (ci := 6) (v := .int (gI s 107)) (C := RX6) (T := TX6) (N := 12) hx hb ht inX6 hown hK hP 5 CW_5 rfl 7 (by decide) (ht (.fieldLink RX6 44 "CloneVolumes$Reader" "kind" "I") fl_X6_44) (fun _ h9 => h9) rfl dX6_readStatement_1 ?_
  refine lv_iconst (v := 1) hx hb dX6_readStatement_4 (by decide) ?_
  refine lv_icmp_ne (tgt := 15) hx hb dX6_readStatement_5 (by decide) (fun c72 => ?_) (fun c72 => ?_)
  · have h := if_f c72 h
    refine lv_iconst (v := (-1)) hx hb dX6_readStatement_15 (by decide) ?_
    exact J16 ((-1), s) _ _ _ ⟨hP, hS, lv_sub hl [0, 1] rfl, h⟩
  · have h := if_t c72 h
    refine lv_aload_n hx hb dX6_readStatement_8 rfl (lv_at hl 0 rfl) ?_
    refine va_get (D := D) (ci := 6) (v := .int (gI s 110)) (C := RX6) (T := TX6) (N := 12) hx hb ht inX6 hown hK hP 5 CW_5 rfl 10 (by decide) (ht (.fieldLink RX6 72 "CloneVolumes$Reader" "word" "I") fl_X6_72) (fun _ h9 => h9) rfl dX6_readStatement_9 ?_
    refine lv_goto (tgt := 16) hx hb dX6_readStatement_12 (by decide) ?_
    exact J16 (gI s 110, s) _ _ _ ⟨hP, hS, lv_sub hl [0, 1] rfl, h⟩
def m_x5_clear_b30 (lr30 : Int32 → MS → Option MS) (x1 : Int32) (s2 : MS) : Option MS :=
  if 3 ≤ x1 then some s2 else inb 3 x1 (stn (sA s2 45 (upd (gA s2 45) (Int32.toNatClampNeg x1) (-1))) (fun s5 => inb 3 x1 (stn (sA s5 46 (upd (gA s5 46) (Int32.toNatClampNeg x1) (-1))) (fun s7 => lr30 (x1 + 1) s7))))
def m_x5_clear_L30 (n : Nat) : Int32 → MS → Option MS := lp (fun _ _ => none) (m_x5_clear_b30) n
def m_x5_clear (s : MS) : Option MS :=
  stn (sI s 783 0) (fun s8 => stn (sI s8 784 0) (fun s9 => stn (sI s9 785 0) (fun s10 => stn (sI s10 782 0) (fun s11 => stn (sI s11 941 0) (fun s12 => m_x5_clear_L30 FU 0 s12)))))
set_option maxHeartbeats 4000000 in
set_option maxRecDepth 100000 in
theorem k_x5_clear (l : Launch) (D : va_G) (a : Nat → Nat) (sz : Nat) (s : MS) (o : MS) (h : m_x5_clear s = some o) : yWv l yX5_clear cX5_clear 2 none { frames := 0, cells := 0, slots := 0, locals := 0 } D sz [.ref (a 39)] (CS D a s) (CS D a o) := by
  refine Met.ofW (cc := cX5_clear) (maxL := 2) (ret := none) (by decide) rfl ?_
  intro p e s₀ m args below meth c s₁ B hml hv
  obtain ⟨rfl, ⟨hsz, hP, hK, hD0⟩, hN⟩ := hv
  have hx := B.exec
  have hb := B.bytes
  have hr := B.returns
  have hts := atoms_spec (ws := wz yX5_clear cX5_clear 2 none) B.pre
  have ht : ∀ w ∈ lw_gd, w.before _ s₀ = true := fun w h => hts w (List.mem_cons_of_mem _ h)
  have hown : s₀.vm.findClass RX5 = some m.cls := findClass_of_methodNamed B.named
  have hlocks := B.notSynchronized
  subst hsz
  have hD := hD0.self (sz := s₀.heap.size)
  generalize hAe : va_A (CS D a s) s₀.heap.size = A at hD ⊢
  have hA : ∀ q : Nat, s₀.heap.size ≤ q → A q := fun q h => by rw [← hAe]; exact Or.inr h
  have hS : va_S A s₀.heap s₀.heap [] := va_S.rf
  have hDD : ∀ t : MS, va_D A (CS D a t) := fun t => CW_D t hD
  have hl := lv_entry ([.ref (a 39)]) (n := 2) (Nat.le_of_ble_eq_true rfl)
  rw [lg_entry_eq]
  generalize (lg_sl ([.ref (a 39)]) ++ List.replicate (2 - (lg_sl ([.ref (a 39)])).length) Slot.unset).toArray = ls at hl ⊢
  have hl : lv_has ls 2 [(0, .ref (a 39))] := hl
  unfold m_x5_clear at h
  refine y_loop (pcJ := 30) (σ := Int32 × MS) (fun n u H locs ls => va_P D vwCl (CS D a u.2) H ∧ va_S A s₀.heap H locs ∧ lv_has ls 2 [(0, .ref (a 39)), (1, .int u.1)] ∧ m_x5_clear_L30 n u.1 u.2 = some o) (fun u => []) (fun u H locs ls hI => by obtain ⟨_, _, _, h⟩ := hI; cases h) (fun n30 ih30 u H locs ls hI => ?_) (fun J30 => ?_)
  · obtain ⟨hP, hS, hl, h⟩ := hI
    obtain ⟨x1, s2⟩ := u
    have hP : va_P D vwCl (CS D a s2) H := hP
    have hl : lv_has ls 2 [(0, .ref (a 39)), (1, .int x1)] := hl
    have h : m_x5_clear_b30 (m_x5_clear_L30 n30) x1 s2 = some o := h
    unfold m_x5_clear_b30 at h
    refine lv_iload_n hx hb dX5_clear_30 rfl (lv_at hl 1 rfl) ?_
    refine lv_iconst (v := 3) hx hb dX5_clear_31 (by decide) ?_
    refine lv_icmp_ge (tgt := 55) hx hb dX5_clear_32 (by decide) (fun c3 => ?_) (fun c3 => ?_)
    · have h := if_t c3 h
      obtain rfl := Option.some.inj h
      exact W.vret hx hb hr (fun t ht hW => ⟨⟨(), rfl, trivial, by rw [ht]; exact hP, va_K.moved hW.alike hK, hDD _⟩, hS.F ht⟩) hS.2.2 dX5_clear_55
    · have h := if_f c3 h
      refine lv_aload_n hx hb dX5_clear_35 rfl (lv_at hl 0 rfl) ?_
      refine va_get (D := D) (ci := 5) (v := .ref (a 45)) (C := RX5) (T := TX5) (N := 14) hx hb ht inX5 hown hK hP 39 CW_39 rfl 12 (by decide) (ht (.fieldLink RX5 34 "CloneVolumes$Plan" "begins" "[I") fl_X5_34) (fun _ h9 => h9) rfl dX5_clear_36 ?_
      refine lv_iload_n hx hb dX5_clear_39 rfl (lv_at hl 1 rfl) ?_
      refine lv_iconst (v := (-1)) hx hb dX5_clear_40 (by decide) ?_
      obtain ⟨hi4, h⟩ := inb_e h
      refine ya_iast hx hb hK hP (hDD _) hS 45 0 CW_45 rfl hi4 dX5_clear_41 (CW_w45 _) (fun H locs hP hS => ?_)
      obtain ⟨s5, hs5, h⟩ := st_e h
      rw [hs5] at hP
      refine lv_aload_n hx hb dX5_clear_42 rfl (lv_at hl 0 rfl) ?_
      refine va_get (D := D) (ci := 5) (v := .ref (a 46)) (C := RX5) (T := TX5) (N := 14) hx hb ht inX5 hown hK hP 39 CW_39 rfl 13 (by decide) (ht (.fieldLink RX5 37 "CloneVolumes$Plan" "ends" "[I") fl_X5_37) (fun _ h9 => h9) rfl dX5_clear_43 ?_
      refine lv_iload_n hx hb dX5_clear_46 rfl (lv_at hl 1 rfl) ?_
      refine lv_iconst (v := (-1)) hx hb dX5_clear_47 (by decide) ?_
      obtain ⟨hi6, h⟩ := inb_e h
      refine ya_iast hx hb hK hP (hDD _) hS 46 0 CW_46 rfl hi6 dX5_clear_48 (CW_w46 _) (fun H locs hP hS => ?_)
      obtain ⟨s7, hs7, h⟩ := st_e h
      rw [hs7] at hP
      refine lv_iinc (v := x1 + 1) (lv' := [(1, .int (x1 + 1)), (0, .ref (a 39))]) hx hb dX5_clear_49 hl (k := 1) rfl rfl (by decide) rfl (fun ls hl => ?_)
      refine lv_goto (tgt := 30) hx hb dX5_clear_52 (by decide) ?_
      exact ih30 (x1 + 1, s7) _ _ _ ⟨hP, hS, lv_sub hl [1, 0] rfl, h⟩
  refine lv_aload_n hx hb dX5_clear_0 rfl (lv_at hl 0 rfl) ?_
  refine lv_iconst (v := 0) hx hb dX5_clear_1 (by decide) ?_
  refine ya_put (D := D) (ci := 5) (v := .int 0) (ty := .int) (C := RX5) (T := TX5) (N := 14) hx hb ht inX5 tyX5 tyX5_ok nmX5 hown hK hP (hDD _) hS 39 CW_39 rfl 3 (by decide) (ht (.fieldLink RX5 43 "CloneVolumes$Plan" "statements" "I") fl_X5_43) (fun _ h9 => h9) rfl (by decide +kernel) rfl rfl (Nat.le_of_ble_eq_true rfl) dX5_clear_2 (CW_w39_3 _) (fun H locs hP hS => ?_)
  obtain ⟨s8, hs8, h⟩ := st_e h
  rw [hs8] at hP
  refine lv_aload_n hx hb dX5_clear_5 rfl (lv_at hl 0 rfl) ?_
  refine lv_iconst (v := 0) hx hb dX5_clear_6 (by decide) ?_
  refine ya_put (D := D) (ci := 5) (v := .int 0) (ty := .int) (C := RX5) (T := TX5) (N := 14) hx hb ht inX5 tyX5 tyX5_ok nmX5 hown hK hP (hDD _) hS 39 CW_39 rfl 4 (by decide) (ht (.fieldLink RX5 47 "CloneVolumes$Plan" "volumes" "I") fl_X5_47) (fun _ h9 => h9) rfl (by decide +kernel) rfl rfl (Nat.le_of_ble_eq_true rfl) dX5_clear_7 (CW_w39_4 _) (fun H locs hP hS => ?_)
  obtain ⟨s9, hs9, h⟩ := st_e h
  rw [hs9] at hP
  refine lv_aload_n hx hb dX5_clear_10 rfl (lv_at hl 0 rfl) ?_
  refine lv_iconst (v := 0) hx hb dX5_clear_11 (by decide) ?_
  refine ya_put (D := D) (ci := 5) (v := .int 0) (ty := .int) (C := RX5) (T := TX5) (N := 14) hx hb ht inX5 tyX5 tyX5_ok nmX5 hown hK hP (hDD _) hS 39 CW_39 rfl 5 (by decide) (ht (.fieldLink RX5 50 "CloneVolumes$Plan" "changes" "I") fl_X5_50) (fun _ h9 => h9) rfl (by decide +kernel) rfl rfl (Nat.le_of_ble_eq_true rfl) dX5_clear_12 (CW_w39_5 _) (fun H locs hP hS => ?_)
  obtain ⟨s10, hs10, h⟩ := st_e h
  rw [hs10] at hP
  refine lv_aload_n hx hb dX5_clear_15 rfl (lv_at hl 0 rfl) ?_
  refine lv_iconst (v := 0) hx hb dX5_clear_16 (by decide) ?_
  refine ya_put (D := D) (ci := 5) (v := .int 0) (ty := .int) (C := RX5) (T := TX5) (N := 14) hx hb ht inX5 tyX5 tyX5_ok nmX5 hown hK hP (hDD _) hS 39 CW_39 rfl 2 (by decide) (ht (.fieldLink RX5 53 "CloneVolumes$Plan" "churn" "I") fl_X5_53) (fun _ h9 => h9) rfl (by decide +kernel) rfl rfl (Nat.le_of_ble_eq_true rfl) dX5_clear_17 (CW_w39_2 _) (fun H locs hP hS => ?_)
  obtain ⟨s11, hs11, h⟩ := st_e h
  rw [hs11] at hP
  refine lv_aload_n hx hb dX5_clear_20 rfl (lv_at hl 0 rfl) ?_
  refine va_get (D := D) (ci := 5) (v := .ref (a 47)) (C := RX5) (T := TX5) (N := 14) hx hb ht inX5 hown hK hP 39 CW_39 rfl 11 (by decide) (ht (.fieldLink RX5 30 "CloneVolumes$Plan" "code" "LCloneVolumes$Code;") fl_X5_30) (fun _ h9 => h9) rfl dX5_clear_21 ?_
  refine lv_iconst (v := 0) hx hb dX5_clear_24 (by decide) ?_
  refine ya_put (D := D) (ci := 0) (v := .int 0) (ty := .int) (C := RX0) (T := TX0) (N := 2) hx hb ht inX0 tyX0 tyX0_ok nmX0 hown hK hP (hDD _) hS 47 CW_47 rfl 1 (by decide) (ht (.fieldLink RX5 56 "CloneVolumes$Code" "size" "I") fl_X5_56) (fun _ h9 => h9) rfl (by decide +kernel) rfl rfl (Nat.le_of_ble_eq_true rfl) dX5_clear_25 (CW_w47_1 _) (fun H locs hP hS => ?_)
  obtain ⟨s12, hs12, h⟩ := st_e h
  rw [hs12] at hP
  refine lv_iconst (v := 0) hx hb dX5_clear_28 (by decide) ?_
  refine lv_istore_n (lv' := [(1, .int 0), (0, .ref (a 39))]) hx hb dX5_clear_29 rfl hl (by decide) rfl (fun ls hl => ?_)
  exact J30 FU (0, s12) _ _ _ ⟨hP, hS, lv_sub hl [1, 0] rfl, h⟩
def m_x6_readStore_J87 (x1 : Int32) (s2 : MS) : Option (Int32 × MS) :=
  bo x1 (some (x1, s2))
def m_x6_readStore_J75 (s4 : MS) : Option (Int32 × MS) :=
  if (gI s4 100) = 0 then m_x6_readStore_J87 1 s4 else m_x6_readStore_J87 0 s4
def m_x6_readStore_J38 (s6 : MS) : Option (Int32 × MS) :=
  if (gI s6 107) = 0 then if (gI s6 783) = 0 then bn (m_x6_fail 1 (gI s6 108) s6) (fun qr11 => m_x6_readStore_J75 qr11.2) else m_x6_readStore_J75 s6 else bn (m_x6_fail 5 (gI s6 108) s6) (fun qr14 => m_x6_readStore_J75 qr14.2)
def m_x6_readStore_b14 (lr14 : Int32 → MS → Option (Int32 × MS)) (x15 : Int32) (s16 : MS) : Option (Int32 × MS) :=
  if 60 ≤ x15 then m_x6_readStore_J38 s16 else if (gI s16 107) = 0 then m_x6_readStore_J38 s16 else bn (m_x6_readStatement s16) (fun s20 => lr14 (x15 + 1) s20)
def m_x6_readStore_L14 (n : Nat) : Int32 → MS → Option (Int32 × MS) := lp (fun _ _ => none) (m_x6_readStore_b14) n
def m_x6_readStore (s : MS) : Option (Int32 × MS) :=
  bn (m_x5_clear s) (fun s22 => bn (m_x6_begin s22) (fun s24 => m_x6_readStore_L14 FU 0 s24))
set_option maxHeartbeats 4000000 in
set_option maxRecDepth 100000 in
theorem k_x6_readStore (l : Launch) (D : va_G) (a : Nat → Nat) (sz : Nat) (s : MS) (o : (Int32 × MS)) (h : m_x6_readStore s = some o) : yWi l yX6_readStore cX6_readStore 3 (some .boolean) { frames := 162, cells := 0, slots := 0, locals := 9720 } D sz [.ref (a 5), .ref (a 39)] (CS D a s) (CS D a o.2) o.1 := by
  refine Met.ofW (cc := cX6_readStore) (maxL := 3) (ret := (some .boolean)) (by decide) rfl ?_
  intro p e s₀ m args below meth c s₁ B hml hv
  obtain ⟨rfl, ⟨hsz, hP, hK, hD0⟩, hN⟩ := hv
  have hx := B.exec
  have hb := B.bytes
  have hr := B.returns
  have hts := atoms_spec (ws := wz yX6_readStore cX6_readStore 3 (some .boolean)) B.pre
  have ht : ∀ w ∈ lw_gd, w.before _ s₀ = true := fun w h => hts w (List.mem_cons_of_mem _ h)
  have hown : s₀.vm.findClass RX6 = some m.cls := findClass_of_methodNamed B.named
  have hlocks := B.notSynchronized
  subst hsz
  have hD := hD0.self (sz := s₀.heap.size)
  generalize hAe : va_A (CS D a s) s₀.heap.size = A at hD ⊢
  have hA : ∀ q : Nat, s₀.heap.size ≤ q → A q := fun q h => by rw [← hAe]; exact Or.inr h
  have hS : va_S A s₀.heap s₀.heap [] := va_S.rf
  have hDD : ∀ t : MS, va_D A (CS D a t) := fun t => CW_D t hD
  have hl := lv_entry ([.ref (a 5), .ref (a 39)]) (n := 3) (Nat.le_of_ble_eq_true rfl)
  rw [lg_entry_eq]
  generalize (lg_sl ([.ref (a 5), .ref (a 39)]) ++ List.replicate (3 - (lg_sl ([.ref (a 5), .ref (a 39)])).length) Slot.unset).toArray = ls at hl ⊢
  have hl : lv_has ls 3 [(0, .ref (a 5)), (1, .ref (a 39))] := hl
  unfold m_x6_readStore at h
  refine y_head (pcJ := 87) (σ := Int32 × MS) (fun u H locs ls => va_P D vwCl (CS D a u.2) H ∧ va_S A s₀.heap H locs ∧ lv_has ls 3 [] ∧ m_x6_readStore_J87 u.1 u.2 = some o) (fun u => [.int u.1]) (fun u H locs ls hI => ?_) (fun J87 => ?_)
  · obtain ⟨hP, hS, hl, h⟩ := hI
    obtain ⟨x1, s2⟩ := u
    have hP : va_P D vwCl (CS D a s2) H := hP
    have hl : lv_has ls 3 [] := hl
    have h : m_x6_readStore_J87 x1 s2 = some o := h
    unfold m_x6_readStore_J87 at h
    obtain ⟨hb3, h⟩ := bo_e h
    obtain rfl := Option.some.inj h
    exact W.zret (v := x1) hx hb hr (bo_n hb3) (fun t ht hW => ⟨⟨_, (), rfl, rfl, by rw [ht]; exact hP, va_K.moved hW.alike hK, hDD _⟩, hS.F ht⟩) hS.2.2 dX6_readStore_87
  refine y_head (pcJ := 75) (σ := MS) (fun u H locs ls => va_P D vwCl (CS D a u) H ∧ va_S A s₀.heap H locs ∧ lv_has ls 3 [(0, .ref (a 5))] ∧ m_x6_readStore_J75 u = some o) (fun u => []) (fun u H locs ls hI => ?_) (fun J75 => ?_)
  · obtain ⟨hP, hS, hl, h⟩ := hI
    obtain ⟨s4, rfl⟩ : ∃ z, z = u := ⟨u, rfl⟩
    have hP : va_P D vwCl (CS D a s4) H := hP
    have hl : lv_has ls 3 [(0, .ref (a 5))] := hl
    have h : m_x6_readStore_J75 s4 = some o := h
    unfold m_x6_readStore_J75 at h
    refine lv_aload_n hx hb dX6_readStore_75 rfl (lv_at hl 0 rfl) ?_
    refine va_get (D := D) (ci := 6) (v := .int (gI s4 100)) (C := RX6) (T := TX6) (N := 12) hx hb ht inX6 hown hK hP 5 CW_5 rfl 0 (by decide) (ht (.fieldLink RX6 61 "CloneVolumes$Reader" "fault" "I") fl_X6_61) (fun _ h9 => h9) rfl dX6_readStore_76 ?_
    refine lv_if_ne (tgt := 86) hx hb dX6_readStore_79 (by decide) (fun c5 => ?_) (fun c5 => ?_)
    · have h := if_f c5 h
      refine lv_iconst (v := 0) hx hb dX6_readStore_86 (by decide) ?_
      exact J87 (0, s4) _ _ _ ⟨hP, hS, lv_sub hl [] rfl, h⟩
    · have h := if_t c5 h
      refine lv_iconst (v := 1) hx hb dX6_readStore_82 (by decide) ?_
      refine lv_goto (tgt := 87) hx hb dX6_readStore_83 (by decide) ?_
      exact J87 (1, s4) _ _ _ ⟨hP, hS, lv_sub hl [] rfl, h⟩
  refine y_head (pcJ := 38) (σ := MS) (fun u H locs ls => va_P D vwCl (CS D a u) H ∧ va_S A s₀.heap H locs ∧ lv_has ls 3 [(0, .ref (a 5)), (1, .ref (a 39))] ∧ m_x6_readStore_J38 u = some o) (fun u => []) (fun u H locs ls hI => ?_) (fun J38 => ?_)
  · obtain ⟨hP, hS, hl, h⟩ := hI
    obtain ⟨s6, rfl⟩ : ∃ z, z = u := ⟨u, rfl⟩
    have hP : va_P D vwCl (CS D a s6) H := hP
    have hl : lv_has ls 3 [(0, .ref (a 5)), (1, .ref (a 39))] := hl
    have h : m_x6_readStore_J38 s6 = some o := h
    unfold m_x6_readStore_J38 at h
    refine lv_aload_n hx hb dX6_readStore_38 rfl (lv_at hl 0 rfl) ?_
    refine va_get (D := D) (ci := 6) (v := .int (gI s6 107)) (C := RX6) (T := TX6) (N := 12) hx hb ht inX6 hown hK hP 5 CW_5 rfl 7 (by decide) (ht (.fieldLink RX6 44 "CloneVolumes$Reader" "kind" "I") fl_X6_44) (fun _ h9 => h9) rfl dX6_readStore_39 ?_
    refine lv_if_eq (tgt := 58) hx hb dX6_readStore_42 (by decide) (fun c7 => ?_) (fun c7 => ?_)
    · have h := if_t c7 h
      refine lv_aload_n hx hb dX6_readStore_58 rfl (lv_at hl 1 rfl) ?_
      refine va_get (D := D) (ci := 5) (v := .int (gI s6 783)) (C := RX5) (T := TX5) (N := 14) hx hb ht inX5 hown hK hP 39 CW_39 rfl 3 (by decide) (ht (.fieldLink RX6 58 "CloneVolumes$Plan" "statements" "I") fl_X6_58) (fun _ h9 => h9) rfl dX6_readStore_59 ?_
      refine lv_if_ne (tgt := 75) hx hb dX6_readStore_62 (by decide) (fun c8 => ?_) (fun c8 => ?_)
      · have h := if_f c8 h
        exact J75 s6 _ _ _ ⟨hP, hS, lv_sub hl [0] rfl, h⟩
      · have h := if_t c8 h
        refine lv_aload_n hx hb dX6_readStore_65 rfl (lv_at hl 0 rfl) ?_
        refine lv_iconst (v := 1) hx hb dX6_readStore_66 (by decide) ?_
        refine lv_aload_n hx hb dX6_readStore_67 rfl (lv_at hl 0 rfl) ?_
        refine va_get (D := D) (ci := 6) (v := .int (gI s6 108)) (C := RX6) (T := TX6) (N := 12) hx hb ht inX6 hown hK hP 5 CW_5 rfl 8 (by decide) (ht (.fieldLink RX6 51 "CloneVolumes$Reader" "start" "I") fl_X6_51) (fun _ h9 => h9) rfl dX6_readStore_68 ?_
        obtain ⟨⟨r11, s10⟩, hc9, h⟩ := bn_e h
        refine ywV (r0 := r11) (As := [.int 1, .int (gI s6 108)]) (rest := []) (C := RX6) (n := 2) (ws' := CS D a s10) ⟨hx, hb, hml, hown, ht⟩ (k_x6_fail l D a 1 (gI s6 108) _ _ _ hc9) (zgV ml_X6_54 im_X6_fail se_X6_fail in_X6 co_X6_fail) rfl rfl (by decide +kernel) ⟨Nat.le_of_ble_eq_true rfl, Nat.le_of_ble_eq_true rfl⟩ hN hK hP (hDD _) hS hA 5 CW_5 rfl rfl rfl hl.1 rfl (Nat.le_of_ble_eq_true rfl) dX6_readStore_71 ⟨Nat.le_of_ble_eq_true rfl, Nat.le_of_ble_eq_true rfl⟩ (fun H locs hP hS => ?_)
        refine lv_pop hx hb dX6_readStore_74 rfl ?_
        exact J75 s10 _ _ _ ⟨hP, hS, lv_sub hl [0] rfl, h⟩
    · have h := if_f c7 h
      refine lv_aload_n hx hb dX6_readStore_45 rfl (lv_at hl 0 rfl) ?_
      refine lv_iconst (v := 5) hx hb dX6_readStore_46 (by decide) ?_
      refine lv_aload_n hx hb dX6_readStore_47 rfl (lv_at hl 0 rfl) ?_
      refine va_get (D := D) (ci := 6) (v := .int (gI s6 108)) (C := RX6) (T := TX6) (N := 12) hx hb ht inX6 hown hK hP 5 CW_5 rfl 8 (by decide) (ht (.fieldLink RX6 51 "CloneVolumes$Reader" "start" "I") fl_X6_51) (fun _ h9 => h9) rfl dX6_readStore_48 ?_
      obtain ⟨⟨r14, s13⟩, hc12, h⟩ := bn_e h
      refine ywV (r0 := r14) (As := [.int 5, .int (gI s6 108)]) (rest := []) (C := RX6) (n := 2) (ws' := CS D a s13) ⟨hx, hb, hml, hown, ht⟩ (k_x6_fail l D a 5 (gI s6 108) _ _ _ hc12) (zgV ml_X6_54 im_X6_fail se_X6_fail in_X6 co_X6_fail) rfl rfl (by decide +kernel) ⟨Nat.le_of_ble_eq_true rfl, Nat.le_of_ble_eq_true rfl⟩ hN hK hP (hDD _) hS hA 5 CW_5 rfl rfl rfl hl.1 rfl (Nat.le_of_ble_eq_true rfl) dX6_readStore_51 ⟨Nat.le_of_ble_eq_true rfl, Nat.le_of_ble_eq_true rfl⟩ (fun H locs hP hS => ?_)
      refine lv_pop hx hb dX6_readStore_54 rfl ?_
      refine lv_goto (tgt := 75) hx hb dX6_readStore_55 (by decide) ?_
      exact J75 s13 _ _ _ ⟨hP, hS, lv_sub hl [0] rfl, h⟩
  refine y_loop (pcJ := 14) (σ := Int32 × MS) (fun n u H locs ls => va_P D vwCl (CS D a u.2) H ∧ va_S A s₀.heap H locs ∧ lv_has ls 3 [(0, .ref (a 5)), (1, .ref (a 39)), (2, .int u.1)] ∧ m_x6_readStore_L14 n u.1 u.2 = some o) (fun u => []) (fun u H locs ls hI => by obtain ⟨_, _, _, h⟩ := hI; cases h) (fun n14 ih14 u H locs ls hI => ?_) (fun J14 => ?_)
  · obtain ⟨hP, hS, hl, h⟩ := hI
    obtain ⟨x15, s16⟩ := u
    have hP : va_P D vwCl (CS D a s16) H := hP
    have hl : lv_has ls 3 [(0, .ref (a 5)), (1, .ref (a 39)), (2, .int x15)] := hl
    have h : m_x6_readStore_b14 (m_x6_readStore_L14 n14) x15 s16 = some o := h
    unfold m_x6_readStore_b14 at h
    refine lv_iload_n hx hb dX6_readStore_14 rfl (lv_at hl 2 rfl) ?_
    refine lv_bipush (v := 60) hx hb dX6_readStore_15 (by decide) ?_
    refine lv_icmp_ge (tgt := 38) hx hb dX6_readStore_17 (by decide) (fun c17 => ?_) (fun c17 => ?_)
    · have h := if_t c17 h
      exact J38 s16 _ _ _ ⟨hP, hS, lv_sub hl [0, 1] rfl, h⟩
    · have h := if_f c17 h
      refine lv_aload_n hx hb dX6_readStore_20 rfl (lv_at hl 0 rfl) ?_
      refine va_get (D := D) (ci := 6) (v := .int (gI s16 107)) (C := RX6) (T := TX6) (N := 12) hx hb ht inX6 hown hK hP 5 CW_5 rfl 7 (by decide) (ht (.fieldLink RX6 44 "CloneVolumes$Reader" "kind" "I") fl_X6_44) (fun _ h9 => h9) rfl dX6_readStore_21 ?_
      refine lv_if_eq (tgt := 38) hx hb dX6_readStore_24 (by decide) (fun c18 => ?_) (fun c18 => ?_)
      · have h := if_t c18 h
        exact J38 s16 _ _ _ ⟨hP, hS, lv_sub hl [0, 1] rfl, h⟩
      · have h := if_f c18 h
        refine lv_aload_n hx hb dX6_readStore_27 rfl (lv_at hl 0 rfl) ?_
        refine lv_aload_n hx hb dX6_readStore_28 rfl (lv_at hl 1 rfl) ?_
        obtain ⟨s20, hc19, h⟩ := bn_e h
        refine ywVv (As := [.ref (a 39)]) (rest := []) (C := RX6) (n := 1) (ws' := CS D a s20) ⟨hx, hb, hml, hown, ht⟩ (k_x6_readStatement l D a _ _ _ hc19) (zgV ml_X6_47 im_X6_readStatement se_X6_readStatement in_X6 co_X6_readStatement) rfl rfl (by decide +kernel) ⟨Nat.le_of_ble_eq_true rfl, Nat.le_of_ble_eq_true rfl⟩ hN hK hP (hDD _) hS hA 5 CW_5 rfl rfl rfl hl.1 rfl (Nat.le_of_ble_eq_true rfl) dX6_readStore_29 ⟨Nat.le_of_ble_eq_true rfl, Nat.le_of_ble_eq_true rfl⟩ (fun H locs hP hS => ?_)
        refine lv_iinc (v := x15 + 1) (lv' := [(2, .int (x15 + 1)), (0, .ref (a 5)), (1, .ref (a 39))]) hx hb dX6_readStore_32 hl (k := 2) rfl rfl (by decide) rfl (fun ls hl => ?_)
        refine lv_goto (tgt := 14) hx hb dX6_readStore_35 (by decide) ?_
        exact ih14 (x15 + 1, s20) _ _ _ ⟨hP, hS, lv_sub hl [1, 2, 0] rfl, h⟩
  refine lv_aload_n hx hb dX6_readStore_0 rfl (lv_at hl 1 rfl) ?_
  obtain ⟨s22, hc21, h⟩ := bn_e h
  refine ywVv (As := []) (rest := []) (C := RX5) (n := 0) (ws' := CS D a s22) ⟨hx, hb, hml, hown, ht⟩ (k_x5_clear l D a _ _ _ hc21) (zgV ml_X6_31 im_X5_clear se_X5_clear in_X5 co_X5_clear) rfl rfl (by decide +kernel) ⟨Nat.le_of_ble_eq_true rfl, Nat.le_of_ble_eq_true rfl⟩ hN hK hP (hDD _) hS hA 39 CW_39 rfl rfl rfl hl.1 rfl (Nat.le_of_ble_eq_true rfl) dX6_readStore_1 ⟨Nat.le_of_ble_eq_true rfl, Nat.le_of_ble_eq_true rfl⟩ (fun H locs hP hS => ?_)
  refine lv_aload_n hx hb dX6_readStore_4 rfl (lv_at hl 0 rfl) ?_
  refine lv_aload_n hx hb dX6_readStore_5 rfl (lv_at hl 1 rfl) ?_
  refine va_get (D := D) (ci := 5) (v := .ref (a 47)) (C := RX5) (T := TX5) (N := 14) hx hb ht inX5 hown hK hP 39 CW_39 rfl 11 (by decide) (ht (.fieldLink RX6 36 "CloneVolumes$Plan" "code" "LCloneVolumes$Code;") fl_X6_36) (fun _ h9 => h9) rfl dX6_readStore_6 ?_
  obtain ⟨s24, hc23, h⟩ := bn_e h
  refine ywVv (As := [.ref (a 47)]) (rest := []) (C := RX6) (n := 1) (ws' := CS D a s24) ⟨hx, hb, hml, hown, ht⟩ (k_x6_begin l D a _ _ _ hc23) (zgV ml_X6_40 im_X6_begin se_X6_begin in_X6 co_X6_begin) rfl rfl (by decide +kernel) ⟨Nat.le_of_ble_eq_true rfl, Nat.le_of_ble_eq_true rfl⟩ hN hK hP (hDD _) hS hA 5 CW_5 rfl rfl rfl hl.1 rfl (Nat.le_of_ble_eq_true rfl) dX6_readStore_9 ⟨Nat.le_of_ble_eq_true rfl, Nat.le_of_ble_eq_true rfl⟩ (fun H locs hP hS => ?_)
  refine lv_iconst (v := 0) hx hb dX6_readStore_12 (by decide) ?_
  refine lv_istore_n (lv' := [(2, .int 0), (0, .ref (a 5)), (1, .ref (a 39))]) hx hb dX6_readStore_13 rfl hl (by decide) rfl (fun ls hl => ?_)
  exact J14 FU (0, s24) _ _ _ ⟨hP, hS, lv_sub hl [1, 2, 0] rfl, h⟩
