theorem ml_X6_197 : Cond.methodLink RX6 197 yX6_opens ∈ lw_gd := zm (List.mem_of_getElem? (i := 875) (by decide +kernel)) rfl
theorem im_X6_opens : Cond.instanceMethod yX6_opens ∈ lw_gd := zm (List.mem_of_getElem? (i := 877) (by decide +kernel)) rfl
theorem se_X6_opens : Cond.selects RX6 yX6_opens yX6_opens ∈ lw_gd := zm (List.mem_of_getElem? (i := 19) (by decide +kernel)) rfl
theorem co_X6_opens : Cond.code yX6_opens cX6_opens 1 (some .boolean) ∈ lw_gd := zm (List.mem_of_getElem? (i := 878) (by decide +kernel)) rfl
theorem ml_X6_206 : Cond.methodLink RX6 206 yX6_readPart ∈ lw_gd := zm (List.mem_of_getElem? (i := 862) (by decide +kernel)) rfl
theorem im_X6_readPart : Cond.instanceMethod yX6_readPart ∈ lw_gd := zm (List.mem_of_getElem? (i := 864) (by decide +kernel)) rfl
theorem se_X6_readPart : Cond.selects RX6 yX6_readPart yX6_readPart ∈ lw_gd := zm (List.mem_of_getElem? (i := 17) (by decide +kernel)) rfl
theorem co_X6_readPart : Cond.code yX6_readPart cX6_readPart 1 none ∈ lw_gd := zm (List.mem_of_getElem? (i := 865) (by decide +kernel)) rfl
theorem fl_X6_84 : Cond.fieldLink RX6 84 "CloneVolumes$Reader" "code" "LCloneVolumes$Code;" ∈ lw_gd := zm (List.mem_of_getElem? (i := 304) (by decide +kernel)) rfl
theorem ml_X6_191 : Cond.methodLink RX6 191 yX0_add ∈ lw_gd := zm (List.mem_of_getElem? (i := 867) (by decide +kernel)) rfl
theorem im_X0_add : Cond.instanceMethod yX0_add ∈ lw_gd := zm (List.mem_of_getElem? (i := 868) (by decide +kernel)) rfl
theorem se_X0_add : Cond.selects RX0 yX0_add yX0_add ∈ lw_gd := zm (List.mem_of_getElem? (i := 869) (by decide +kernel)) rfl
theorem in_X0 : Cond.initialized RX0 ∈ lw_gd := zm (List.mem_of_getElem? (i := 210) (by decide +kernel)) rfl
theorem co_X0_add : Cond.code yX0_add cX0_add 2 none ∈ lw_gd := zm (List.mem_of_getElem? (i := 870) (by decide +kernel)) rfl
theorem ml_X6_81 : Cond.methodLink RX6 81 yX6_readSum ∈ lw_gd := zm (List.mem_of_getElem? (i := 854) (by decide +kernel)) rfl
theorem im_X6_readSum : Cond.instanceMethod yX6_readSum ∈ lw_gd := zm (List.mem_of_getElem? (i := 856) (by decide +kernel)) rfl
theorem se_X6_readSum : Cond.selects RX6 yX6_readSum yX6_readSum ∈ lw_gd := zm (List.mem_of_getElem? (i := 15) (by decide +kernel)) rfl
theorem co_X6_readSum : Cond.code yX6_readSum cX6_readSum 3 none ∈ lw_gd := zm (List.mem_of_getElem? (i := 857) (by decide +kernel)) rfl
theorem ml_X6_158 : Cond.methodLink RX6 158 yX6_expectSign ∈ lw_gd := zm (List.mem_of_getElem? (i := 879) (by decide +kernel)) rfl
theorem im_X6_expectSign : Cond.instanceMethod yX6_expectSign ∈ lw_gd := zm (List.mem_of_getElem? (i := 881) (by decide +kernel)) rfl
theorem se_X6_expectSign : Cond.selects RX6 yX6_expectSign yX6_expectSign ∈ lw_gd := zm (List.mem_of_getElem? (i := 20) (by decide +kernel)) rfl
theorem co_X6_expectSign : Cond.code yX6_expectSign cX6_expectSign 2 none ∈ lw_gd := zm (List.mem_of_getElem? (i := 882) (by decide +kernel)) rfl
theorem ml_X6_210 : Cond.methodLink RX6 210 yX6_readChoice ∈ lw_gd := zm (List.mem_of_getElem? (i := 883) (by decide +kernel)) rfl
theorem im_X6_readChoice : Cond.instanceMethod yX6_readChoice ∈ lw_gd := zm (List.mem_of_getElem? (i := 885) (by decide +kernel)) rfl
theorem se_X6_readChoice : Cond.selects RX6 yX6_readChoice yX6_readChoice ∈ lw_gd := zm (List.mem_of_getElem? (i := 21) (by decide +kernel)) rfl
theorem co_X6_readChoice : Cond.code yX6_readChoice cX6_readChoice 2 none ∈ lw_gd := zm (List.mem_of_getElem? (i := 886) (by decide +kernel)) rfl
theorem ml_X6_216 : Cond.methodLink RX6 216 yX6_isFact ∈ lw_gd := zm (List.mem_of_getElem? (i := 891) (by decide +kernel)) rfl
theorem im_X6_isFact : Cond.instanceMethod yX6_isFact ∈ lw_gd := zm (List.mem_of_getElem? (i := 893) (by decide +kernel)) rfl
theorem se_X6_isFact : Cond.selects RX6 yX6_isFact yX6_isFact ∈ lw_gd := zm (List.mem_of_getElem? (i := 23) (by decide +kernel)) rfl
theorem co_X6_isFact : Cond.code yX6_isFact cX6_isFact 1 (some .boolean) ∈ lw_gd := zm (List.mem_of_getElem? (i := 894) (by decide +kernel)) rfl
theorem ml_X6_213 : Cond.methodLink RX6 213 yX6_readOther ∈ lw_gd := zm (List.mem_of_getElem? (i := 887) (by decide +kernel)) rfl
theorem im_X6_readOther : Cond.instanceMethod yX6_readOther ∈ lw_gd := zm (List.mem_of_getElem? (i := 889) (by decide +kernel)) rfl
theorem se_X6_readOther : Cond.selects RX6 yX6_readOther yX6_readOther ∈ lw_gd := zm (List.mem_of_getElem? (i := 22) (by decide +kernel)) rfl
theorem co_X6_readOther : Cond.code yX6_readOther cX6_readOther 2 none ∈ lw_gd := zm (List.mem_of_getElem? (i := 890) (by decide +kernel)) rfl
theorem ck_X6_209 : Cond.constant RX6 209 1000000 ∈ lw_gd := zm (List.mem_of_getElem? (i := 866) (by decide +kernel)) rfl
theorem ml_X6_151 : Cond.methodLink RX6 151 yX6_expectNumber ∈ lw_gd := zm (List.mem_of_getElem? (i := 806) (by decide +kernel)) rfl
theorem im_X6_expectNumber : Cond.instanceMethod yX6_expectNumber ∈ lw_gd := zm (List.mem_of_getElem? (i := 808) (by decide +kernel)) rfl
theorem se_X6_expectNumber : Cond.selects RX6 yX6_expectNumber yX6_expectNumber ∈ lw_gd := zm (List.mem_of_getElem? (i := 7) (by decide +kernel)) rfl
theorem co_X6_expectNumber : Cond.code yX6_expectNumber cX6_expectNumber 5 (some .int) ∈ lw_gd := zm (List.mem_of_getElem? (i := 809) (by decide +kernel)) rfl
theorem dX6_readChoice_0 : decode cX6_readChoice 0 = .ok (.aload_n 0, 1) := by decide +kernel
theorem dX6_readChoice_1 : decode cX6_readChoice 1 = .ok (.invokevirtual 75, 3) := by decide +kernel
theorem dX6_readChoice_4 : decode cX6_readChoice 4 = .ok (.aload_n 0, 1) := by decide +kernel
theorem dX6_readChoice_5 : decode cX6_readChoice 5 = .ok (.bipush 40, 2) := by decide +kernel
theorem dX6_readChoice_7 : decode cX6_readChoice 7 = .ok (.invokevirtual 124, 3) := by decide +kernel
theorem dX6_readChoice_10 : decode cX6_readChoice 10 = .ok (.ifCond .ne 16, 3) := by decide +kernel
theorem dX6_readChoice_13 : decode cX6_readChoice 13 = .ok (.aload_n 0, 1) := by decide +kernel
theorem dX6_readChoice_14 : decode cX6_readChoice 14 = .ok (.iconst 1, 1) := by decide +kernel
theorem dX6_readChoice_15 : decode cX6_readChoice 15 = .ok (.aload_n 0, 1) := by decide +kernel
theorem dX6_readChoice_16 : decode cX6_readChoice 16 = .ok (.getfield 51, 3) := by decide +kernel
theorem dX6_readChoice_19 : decode cX6_readChoice 19 = .ok (.invokevirtual 54, 3) := by decide +kernel
theorem dX6_readChoice_22 : decode cX6_readChoice 22 = .ok (.pop, 1) := by decide +kernel
theorem dX6_readChoice_23 : decode cX6_readChoice 23 = .ok (.goto 52, 3) := by decide +kernel
theorem dX6_readChoice_26 : decode cX6_readChoice 26 = .ok (.aload_n 0, 1) := by decide +kernel
theorem dX6_readChoice_27 : decode cX6_readChoice 27 = .ok (.invokevirtual 197, 3) := by decide +kernel
theorem dX6_readChoice_30 : decode cX6_readChoice 30 = .ok (.ifCond .eq 45, 3) := by decide +kernel
theorem dX6_readChoice_33 : decode cX6_readChoice 33 = .ok (.aload_n 0, 1) := by decide +kernel
theorem dX6_readChoice_34 : decode cX6_readChoice 34 = .ok (.invokevirtual 75, 3) := by decide +kernel
theorem dX6_readChoice_37 : decode cX6_readChoice 37 = .ok (.aload_n 0, 1) := by decide +kernel
theorem dX6_readChoice_38 : decode cX6_readChoice 38 = .ok (.invokevirtual 81, 3) := by decide +kernel
theorem dX6_readChoice_41 : decode cX6_readChoice 41 = .ok (.aload_n 0, 1) := by decide +kernel
theorem dX6_readChoice_42 : decode cX6_readChoice 42 = .ok (.bipush 44, 2) := by decide +kernel
theorem dX6_readChoice_44 : decode cX6_readChoice 44 = .ok (.invokevirtual 158, 3) := by decide +kernel
theorem dX6_readChoice_47 : decode cX6_readChoice 47 = .ok (.aload_n 0, 1) := by decide +kernel
theorem dX6_readChoice_48 : decode cX6_readChoice 48 = .ok (.invokevirtual 81, 3) := by decide +kernel
theorem dX6_readChoice_51 : decode cX6_readChoice 51 = .ok (.aload_n 0, 1) := by decide +kernel
theorem dX6_readChoice_52 : decode cX6_readChoice 52 = .ok (.bipush 41, 2) := by decide +kernel
theorem dX6_readChoice_54 : decode cX6_readChoice 54 = .ok (.invokevirtual 158, 3) := by decide +kernel
theorem dX6_readChoice_57 : decode cX6_readChoice 57 = .ok (.aload_n 0, 1) := by decide +kernel
theorem dX6_readChoice_58 : decode cX6_readChoice 58 = .ok (.dup, 1) := by decide +kernel
theorem dX6_readChoice_59 : decode cX6_readChoice 59 = .ok (.getfield 85, 3) := by decide +kernel
theorem dX6_readChoice_62 : decode cX6_readChoice 62 = .ok (.iconst 1, 1) := by decide +kernel
theorem dX6_readChoice_63 : decode cX6_readChoice 63 = .ok (.isub, 1) := by decide +kernel
theorem dX6_readChoice_64 : decode cX6_readChoice 64 = .ok (.putfield 85, 3) := by decide +kernel
theorem dX6_readChoice_67 : decode cX6_readChoice 67 = .ok (.aload_n 0, 1) := by decide +kernel
theorem dX6_readChoice_68 : decode cX6_readChoice 68 = .ok (.getfield 84, 3) := by decide +kernel
theorem dX6_readChoice_71 : decode cX6_readChoice 71 = .ok (.iload_n 1, 1) := by decide +kernel
theorem dX6_readChoice_72 : decode cX6_readChoice 72 = .ok (.invokevirtual 191, 3) := by decide +kernel
theorem dX6_readChoice_75 : decode cX6_readChoice 75 = .ok (.return_, 1) := by decide +kernel
theorem dX6_readOther_0 : decode cX6_readOther 0 = .ok (.aload_n 0, 1) := by decide +kernel
theorem dX6_readOther_1 : decode cX6_readOther 1 = .ok (.invokevirtual 197, 3) := by decide +kernel
theorem dX6_readOther_4 : decode cX6_readOther 4 = .ok (.ifCond .eq 29, 3) := by decide +kernel
theorem dX6_readOther_7 : decode cX6_readOther 7 = .ok (.aload_n 0, 1) := by decide +kernel
theorem dX6_readOther_8 : decode cX6_readOther 8 = .ok (.invokevirtual 75, 3) := by decide +kernel
theorem dX6_readOther_11 : decode cX6_readOther 11 = .ok (.aload_n 0, 1) := by decide +kernel
theorem dX6_readOther_12 : decode cX6_readOther 12 = .ok (.invokevirtual 206, 3) := by decide +kernel
theorem dX6_readOther_15 : decode cX6_readOther 15 = .ok (.aload_n 0, 1) := by decide +kernel
theorem dX6_readOther_16 : decode cX6_readOther 16 = .ok (.getfield 84, 3) := by decide +kernel
theorem dX6_readOther_19 : decode cX6_readOther 19 = .ok (.iload_n 1, 1) := by decide +kernel
theorem dX6_readOther_20 : decode cX6_readOther 20 = .ok (.invokevirtual 191, 3) := by decide +kernel
theorem dX6_readOther_23 : decode cX6_readOther 23 = .ok (.aload_n 0, 1) := by decide +kernel
theorem dX6_readOther_24 : decode cX6_readOther 24 = .ok (.dup, 1) := by decide +kernel
theorem dX6_readOther_25 : decode cX6_readOther 25 = .ok (.getfield 85, 3) := by decide +kernel
theorem dX6_readOther_28 : decode cX6_readOther 28 = .ok (.iconst 1, 1) := by decide +kernel
theorem dX6_readOther_29 : decode cX6_readOther 29 = .ok (.isub, 1) := by decide +kernel
theorem dX6_readOther_30 : decode cX6_readOther 30 = .ok (.putfield 85, 3) := by decide +kernel
theorem dX6_readOther_33 : decode cX6_readOther 33 = .ok (.return_, 1) := by decide +kernel
theorem dX6_readPart_0 : decode cX6_readPart 0 = .ok (.aload_n 0, 1) := by decide +kernel
theorem dX6_readPart_1 : decode cX6_readPart 1 = .ok (.getfield 44, 3) := by decide +kernel
theorem dX6_readPart_4 : decode cX6_readPart 4 = .ok (.iconst 2, 1) := by decide +kernel
theorem dX6_readPart_5 : decode cX6_readPart 5 = .ok (.if_icmp .ne 20, 3) := by decide +kernel
theorem dX6_readPart_8 : decode cX6_readPart 8 = .ok (.aload_n 0, 1) := by decide +kernel
theorem dX6_readPart_9 : decode cX6_readPart 9 = .ok (.getfield 84, 3) := by decide +kernel
theorem dX6_readPart_12 : decode cX6_readPart 12 = .ok (.aload_n 0, 1) := by decide +kernel
theorem dX6_readPart_13 : decode cX6_readPart 13 = .ok (.iconst 0, 1) := by decide +kernel
theorem dX6_readPart_14 : decode cX6_readPart 14 = .ok (.ldc 209, 2) := by decide +kernel
theorem dX6_readPart_16 : decode cX6_readPart 16 = .ok (.invokevirtual 151, 3) := by decide +kernel
theorem dX6_readPart_19 : decode cX6_readPart 19 = .ok (.invokevirtual 191, 3) := by decide +kernel
theorem dX6_readPart_22 : decode cX6_readPart 22 = .ok (.goto 174, 3) := by decide +kernel
theorem dX6_readPart_25 : decode cX6_readPart 25 = .ok (.aload_n 0, 1) := by decide +kernel
theorem dX6_readPart_26 : decode cX6_readPart 26 = .ok (.bipush 40, 2) := by decide +kernel
theorem dX6_readPart_28 : decode cX6_readPart 28 = .ok (.invokevirtual 124, 3) := by decide +kernel
theorem dX6_readPart_31 : decode cX6_readPart 31 = .ok (.ifCond .eq 37, 3) := by decide +kernel
theorem dX6_readPart_34 : decode cX6_readPart 34 = .ok (.aload_n 0, 1) := by decide +kernel
theorem dX6_readPart_35 : decode cX6_readPart 35 = .ok (.invokevirtual 197, 3) := by decide +kernel
theorem dX6_readPart_38 : decode cX6_readPart 38 = .ok (.ifCond .eq 158, 3) := by decide +kernel
theorem dX6_readPart_41 : decode cX6_readPart 41 = .ok (.aload_n 0, 1) := by decide +kernel
theorem dX6_readPart_42 : decode cX6_readPart 42 = .ok (.invokevirtual 75, 3) := by decide +kernel
theorem dX6_readPart_45 : decode cX6_readPart 45 = .ok (.aload_n 0, 1) := by decide +kernel
theorem dX6_readPart_46 : decode cX6_readPart 46 = .ok (.invokevirtual 81, 3) := by decide +kernel
theorem dX6_readPart_49 : decode cX6_readPart 49 = .ok (.aload_n 0, 1) := by decide +kernel
theorem dX6_readPart_50 : decode cX6_readPart 50 = .ok (.bipush 41, 2) := by decide +kernel
theorem dX6_readPart_52 : decode cX6_readPart 52 = .ok (.invokevirtual 158, 3) := by decide +kernel
theorem dX6_readPart_55 : decode cX6_readPart 55 = .ok (.aload_n 0, 1) := by decide +kernel
theorem dX6_readPart_56 : decode cX6_readPart 56 = .ok (.dup, 1) := by decide +kernel
theorem dX6_readPart_57 : decode cX6_readPart 57 = .ok (.getfield 85, 3) := by decide +kernel
theorem dX6_readPart_60 : decode cX6_readPart 60 = .ok (.iconst 1, 1) := by decide +kernel
theorem dX6_readPart_61 : decode cX6_readPart 61 = .ok (.isub, 1) := by decide +kernel
theorem dX6_readPart_62 : decode cX6_readPart 62 = .ok (.putfield 85, 3) := by decide +kernel
theorem dX6_readPart_65 : decode cX6_readPart 65 = .ok (.goto 131, 3) := by decide +kernel
theorem dX6_readPart_68 : decode cX6_readPart 68 = .ok (.aload_n 0, 1) := by decide +kernel
theorem dX6_readPart_69 : decode cX6_readPart 69 = .ok (.bipush 25, 2) := by decide +kernel
theorem dX6_readPart_71 : decode cX6_readPart 71 = .ok (.invokevirtual 121, 3) := by decide +kernel
theorem dX6_readPart_74 : decode cX6_readPart 74 = .ok (.ifCond .ne 12, 3) := by decide +kernel
theorem dX6_readPart_77 : decode cX6_readPart 77 = .ok (.aload_n 0, 1) := by decide +kernel
theorem dX6_readPart_78 : decode cX6_readPart 78 = .ok (.bipush 26, 2) := by decide +kernel
theorem dX6_readPart_80 : decode cX6_readPart 80 = .ok (.invokevirtual 121, 3) := by decide +kernel
theorem dX6_readPart_83 : decode cX6_readPart 83 = .ok (.ifCond .eq 26, 3) := by decide +kernel
theorem dX6_readPart_86 : decode cX6_readPart 86 = .ok (.aload_n 0, 1) := by decide +kernel
theorem dX6_readPart_87 : decode cX6_readPart 87 = .ok (.aload_n 0, 1) := by decide +kernel
theorem dX6_readPart_88 : decode cX6_readPart 88 = .ok (.bipush 25, 2) := by decide +kernel
theorem dX6_readPart_90 : decode cX6_readPart 90 = .ok (.invokevirtual 121, 3) := by decide +kernel
theorem dX6_readPart_93 : decode cX6_readPart 93 = .ok (.ifCond .eq 8, 3) := by decide +kernel
theorem dX6_readPart_96 : decode cX6_readPart 96 = .ok (.bipush (-5), 2) := by decide +kernel
theorem dX6_readPart_98 : decode cX6_readPart 98 = .ok (.goto 5, 3) := by decide +kernel
theorem dX6_readPart_101 : decode cX6_readPart 101 = .ok (.bipush (-6), 2) := by decide +kernel
theorem dX6_readPart_103 : decode cX6_readPart 103 = .ok (.invokevirtual 210, 3) := by decide +kernel
theorem dX6_readPart_106 : decode cX6_readPart 106 = .ok (.goto 90, 3) := by decide +kernel
theorem dX6_readPart_109 : decode cX6_readPart 109 = .ok (.aload_n 0, 1) := by decide +kernel
theorem dX6_readPart_110 : decode cX6_readPart 110 = .ok (.getfield 69, 3) := by decide +kernel
theorem dX6_readPart_113 : decode cX6_readPart 113 = .ok (.iconst 3, 1) := by decide +kernel
theorem dX6_readPart_114 : decode cX6_readPart 114 = .ok (.if_icmp .ne 44, 3) := by decide +kernel
theorem dX6_readPart_117 : decode cX6_readPart 117 = .ok (.aload_n 0, 1) := by decide +kernel
theorem dX6_readPart_118 : decode cX6_readPart 118 = .ok (.bipush 19, 2) := by decide +kernel
theorem dX6_readPart_120 : decode cX6_readPart 120 = .ok (.invokevirtual 121, 3) := by decide +kernel
theorem dX6_readPart_123 : decode cX6_readPart 123 = .ok (.ifCond .ne 12, 3) := by decide +kernel
theorem dX6_readPart_126 : decode cX6_readPart 126 = .ok (.aload_n 0, 1) := by decide +kernel
theorem dX6_readPart_127 : decode cX6_readPart 127 = .ok (.bipush 20, 2) := by decide +kernel
theorem dX6_readPart_129 : decode cX6_readPart 129 = .ok (.invokevirtual 121, 3) := by decide +kernel
theorem dX6_readPart_132 : decode cX6_readPart 132 = .ok (.ifCond .eq 26, 3) := by decide +kernel
theorem dX6_readPart_135 : decode cX6_readPart 135 = .ok (.aload_n 0, 1) := by decide +kernel
theorem dX6_readPart_136 : decode cX6_readPart 136 = .ok (.aload_n 0, 1) := by decide +kernel
theorem dX6_readPart_137 : decode cX6_readPart 137 = .ok (.bipush 19, 2) := by decide +kernel
theorem dX6_readPart_139 : decode cX6_readPart 139 = .ok (.invokevirtual 121, 3) := by decide +kernel
theorem dX6_readPart_142 : decode cX6_readPart 142 = .ok (.ifCond .eq 8, 3) := by decide +kernel
theorem dX6_readPart_145 : decode cX6_readPart 145 = .ok (.bipush (-13), 2) := by decide +kernel
theorem dX6_readPart_147 : decode cX6_readPart 147 = .ok (.goto 5, 3) := by decide +kernel
theorem dX6_readPart_150 : decode cX6_readPart 150 = .ok (.bipush (-14), 2) := by decide +kernel
theorem dX6_readPart_152 : decode cX6_readPart 152 = .ok (.invokevirtual 213, 3) := by decide +kernel
theorem dX6_readPart_155 : decode cX6_readPart 155 = .ok (.goto 41, 3) := by decide +kernel
theorem dX6_readPart_158 : decode cX6_readPart 158 = .ok (.aload_n 0, 1) := by decide +kernel
theorem dX6_readPart_159 : decode cX6_readPart 159 = .ok (.invokevirtual 216, 3) := by decide +kernel
theorem dX6_readPart_162 : decode cX6_readPart 162 = .ok (.ifCond .eq 24, 3) := by decide +kernel
theorem dX6_readPart_165 : decode cX6_readPart 165 = .ok (.aload_n 0, 1) := by decide +kernel
theorem dX6_readPart_166 : decode cX6_readPart 166 = .ok (.getfield 84, 3) := by decide +kernel
theorem dX6_readPart_169 : decode cX6_readPart 169 = .ok (.bipush (-100), 2) := by decide +kernel
theorem dX6_readPart_171 : decode cX6_readPart 171 = .ok (.aload_n 0, 1) := by decide +kernel
theorem dX6_readPart_172 : decode cX6_readPart 172 = .ok (.getfield 72, 3) := by decide +kernel
theorem dX6_readPart_175 : decode cX6_readPart 175 = .ok (.isub, 1) := by decide +kernel
theorem dX6_readPart_176 : decode cX6_readPart 176 = .ok (.invokevirtual 191, 3) := by decide +kernel
theorem dX6_readPart_179 : decode cX6_readPart 179 = .ok (.aload_n 0, 1) := by decide +kernel
theorem dX6_readPart_180 : decode cX6_readPart 180 = .ok (.invokevirtual 75, 3) := by decide +kernel
theorem dX6_readPart_183 : decode cX6_readPart 183 = .ok (.goto 13, 3) := by decide +kernel
theorem dX6_readPart_186 : decode cX6_readPart 186 = .ok (.aload_n 0, 1) := by decide +kernel
theorem dX6_readPart_187 : decode cX6_readPart 187 = .ok (.iconst 1, 1) := by decide +kernel
theorem dX6_readPart_188 : decode cX6_readPart 188 = .ok (.aload_n 0, 1) := by decide +kernel
theorem dX6_readPart_189 : decode cX6_readPart 189 = .ok (.getfield 51, 3) := by decide +kernel
theorem dX6_readPart_192 : decode cX6_readPart 192 = .ok (.invokevirtual 54, 3) := by decide +kernel
theorem dX6_readPart_195 : decode cX6_readPart 195 = .ok (.pop, 1) := by decide +kernel
theorem dX6_readPart_196 : decode cX6_readPart 196 = .ok (.return_, 1) := by decide +kernel
def C_readSum (l : Launch) (D : va_G) (d : Nat) : Prop := ∀ (sz : Nat) (h0 h1 h2 h3 h4 h5 : Nat) (fa pl mo ki wo si : Int32) (op s0 sp n cn : Nat) (f fw fc : Nat → Int32) (h_1 : s0 ≤ sp) (h_2 : sp ≤ n) (h_3 : n ≤ 1600) (h_4 : ¬ fa.toInt = 0 → ki.toInt = 0) (h_5 : op ≤ 6) (h_6 : cn ≤ 1600) (h_7 : 6 ≤ op + d), Met l yX6_readSum (wz yX6_readSum cX6_readSum 3 none) { frames := 40 * d + 28, cells := 0, slots := 0, locals := 2400 * d + 1680 } (va_Pc [.ref h0] (zW D sz [(h0, .inr (6, [.int fa, .int pl, .ref h1, .ref h2, .ref h3, .int mo, .int (nI op), .int ki, .int (nI s0), .int (nI sp), .int wo, .int si])), (h1, .inr (9, [.ref h4, .int (nI n)])), (h4, .inl (D.1 13, 1600, .inl f)), (h2, .inl (D.1 14, 179, .inl fw)), (h3, .inr (0, [.ref h5, .int (nI cn)])), (h5, .inl (D.1 13, 1600, .inl fc))])) (va_Qv (fun (u : ((Int32) × (Int32) × (Int32) × (Nat) × (Nat) × (Int32) × (Int32) × (Nat) × (Nat → Int32))) => u.2.2.2.1 ≤ u.2.2.2.2.1 ∧ u.2.2.2.2.1 ≤ n ∧ sp ≤ u.2.2.2.2.1 ∧ (¬ u.1.toInt = 0 → u.2.2.1.toInt = 0) ∧ u.2.2.2.2.2.2.2.1 ≤ 1600) (fun u t => zB D (va_A [(h0, .inr (6, [.int fa, .int pl, .ref h1, .ref h2, .ref h3, .int mo, .int (nI op), .int ki, .int (nI s0), .int (nI sp), .int wo, .int si])), (h1, .inr (9, [.ref h4, .int (nI n)])), (h4, .inl (D.1 13, 1600, .inl f)), (h2, .inl (D.1 14, 179, .inl fw)), (h3, .inr (0, [.ref h5, .int (nI cn)])), (h5, .inl (D.1 13, 1600, .inl fc))] sz) ((fun (u : ((Int32) × (Int32) × (Int32) × (Nat) × (Nat) × (Int32) × (Int32) × (Nat) × (Nat → Int32))) => [(h0, .inr (6, [.int u.1, .int u.2.1, .ref h1, .ref h2, .ref h3, .int mo, .int (nI op), .int u.2.2.1, .int (nI u.2.2.2.1), .int (nI u.2.2.2.2.1), .int u.2.2.2.2.2.1, .int u.2.2.2.2.2.2.1])), (h1, .inr (9, [.ref h4, .int (nI n)])), (h4, .inl (D.1 13, 1600, .inl f)), (h2, .inl (D.1 14, 179, .inl fw)), (h3, .inr (0, [.ref h5, .int (nI u.2.2.2.2.2.2.2.1)])), (h5, .inl (D.1 13, 1600, .inl u.2.2.2.2.2.2.2.2))]) u) t) (va_A [(h0, .inr (6, [.int fa, .int pl, .ref h1, .ref h2, .ref h3, .int mo, .int (nI op), .int ki, .int (nI s0), .int (nI sp), .int wo, .int si])), (h1, .inr (9, [.ref h4, .int (nI n)])), (h4, .inl (D.1 13, 1600, .inl f)), (h2, .inl (D.1 14, 179, .inl fw)), (h3, .inr (0, [.ref h5, .int (nI cn)])), (h5, .inl (D.1 13, 1600, .inl fc))] sz)) 0 0 (va_A [(h0, .inr (6, [.int fa, .int pl, .ref h1, .ref h2, .ref h3, .int mo, .int (nI op), .int ki, .int (nI s0), .int (nI sp), .int wo, .int si])), (h1, .inr (9, [.ref h4, .int (nI n)])), (h4, .inl (D.1 13, 1600, .inl f)), (h2, .inl (D.1 14, 179, .inl fw)), (h3, .inr (0, [.ref h5, .int (nI cn)])), (h5, .inl (D.1 13, 1600, .inl fc))] sz)
def C_readPart (l : Launch) (D : va_G) (d : Nat) : Prop := ∀ (sz : Nat) (h0 h1 h2 h3 h4 h5 : Nat) (fa pl mo ki wo si : Int32) (op s0 sp n cn : Nat) (f fw fc : Nat → Int32) (h_1 : s0 ≤ sp) (h_2 : sp ≤ n) (h_3 : n ≤ 1600) (h_4 : ¬ fa.toInt = 0 → ki.toInt = 0) (h_5 : op ≤ 6) (h_6 : cn ≤ 1600) (h_7 : 6 ≤ op + d), Met l yX6_readPart (wz yX6_readPart cX6_readPart 1 none) { frames := 40 * d + 20, cells := 0, slots := 0, locals := 2400 * d + 1200 } (va_Pc [.ref h0] (zW D sz [(h0, .inr (6, [.int fa, .int pl, .ref h1, .ref h2, .ref h3, .int mo, .int (nI op), .int ki, .int (nI s0), .int (nI sp), .int wo, .int si])), (h1, .inr (9, [.ref h4, .int (nI n)])), (h4, .inl (D.1 13, 1600, .inl f)), (h2, .inl (D.1 14, 179, .inl fw)), (h3, .inr (0, [.ref h5, .int (nI cn)])), (h5, .inl (D.1 13, 1600, .inl fc))])) (va_Qv (fun (u : ((Int32) × (Int32) × (Int32) × (Nat) × (Nat) × (Int32) × (Int32) × (Nat) × (Nat → Int32))) => u.2.2.2.1 ≤ u.2.2.2.2.1 ∧ u.2.2.2.2.1 ≤ n ∧ sp ≤ u.2.2.2.2.1 ∧ (¬ u.1.toInt = 0 → u.2.2.1.toInt = 0) ∧ u.2.2.2.2.2.2.2.1 ≤ 1600) (fun u t => zB D (va_A [(h0, .inr (6, [.int fa, .int pl, .ref h1, .ref h2, .ref h3, .int mo, .int (nI op), .int ki, .int (nI s0), .int (nI sp), .int wo, .int si])), (h1, .inr (9, [.ref h4, .int (nI n)])), (h4, .inl (D.1 13, 1600, .inl f)), (h2, .inl (D.1 14, 179, .inl fw)), (h3, .inr (0, [.ref h5, .int (nI cn)])), (h5, .inl (D.1 13, 1600, .inl fc))] sz) ((fun (u : ((Int32) × (Int32) × (Int32) × (Nat) × (Nat) × (Int32) × (Int32) × (Nat) × (Nat → Int32))) => [(h0, .inr (6, [.int u.1, .int u.2.1, .ref h1, .ref h2, .ref h3, .int mo, .int (nI op), .int u.2.2.1, .int (nI u.2.2.2.1), .int (nI u.2.2.2.2.1), .int u.2.2.2.2.2.1, .int u.2.2.2.2.2.2.1])), (h1, .inr (9, [.ref h4, .int (nI n)])), (h4, .inl (D.1 13, 1600, .inl f)), (h2, .inl (D.1 14, 179, .inl fw)), (h3, .inr (0, [.ref h5, .int (nI u.2.2.2.2.2.2.2.1)])), (h5, .inl (D.1 13, 1600, .inl u.2.2.2.2.2.2.2.2))]) u) t) (va_A [(h0, .inr (6, [.int fa, .int pl, .ref h1, .ref h2, .ref h3, .int mo, .int (nI op), .int ki, .int (nI s0), .int (nI sp), .int wo, .int si])), (h1, .inr (9, [.ref h4, .int (nI n)])), (h4, .inl (D.1 13, 1600, .inl f)), (h2, .inl (D.1 14, 179, .inl fw)), (h3, .inr (0, [.ref h5, .int (nI cn)])), (h5, .inl (D.1 13, 1600, .inl fc))] sz)) 0 0 (va_A [(h0, .inr (6, [.int fa, .int pl, .ref h1, .ref h2, .ref h3, .int mo, .int (nI op), .int ki, .int (nI s0), .int (nI sp), .int wo, .int si])), (h1, .inr (9, [.ref h4, .int (nI n)])), (h4, .inl (D.1 13, 1600, .inl f)), (h2, .inl (D.1 14, 179, .inl fw)), (h3, .inr (0, [.ref h5, .int (nI cn)])), (h5, .inl (D.1 13, 1600, .inl fc))] sz)
set_option maxHeartbeats 4000000 in
set_option maxRecDepth 100000 in
theorem k_X6_readOther (l : Launch) (D : va_G) (sz : Nat) (h0 h1 h2 h3 h4 h5 : Nat) (fa pl mo ki wo si : Int32) (op s0 sp n cn : Nat) (f fw fc : Nat → Int32) (d : Nat) (ih : ∀ e, e + 1 = d → C_readSum l D e ∧ C_readPart l D e) (p0 : Int32) (h_1 : s0 ≤ sp) (h_2 : sp ≤ n) (h_3 : n ≤ 1600) (h_4 : ¬ fa.toInt = 0 → ki.toInt = 0) (h_5 : op ≤ 6) (h_6 : cn ≤ 1600) (h_7 : 6 ≤ op + d) : Met l yX6_readOther (wz yX6_readOther cX6_readOther 2 none) { frames := 40 * d + 12, cells := 0, slots := 0, locals := 2400 * d + 720 } (va_Pc [.ref h0, .int p0] (zW D sz [(h0, .inr (6, [.int fa, .int pl, .ref h1, .ref h2, .ref h3, .int mo, .int (nI op), .int ki, .int (nI s0), .int (nI sp), .int wo, .int si])), (h1, .inr (9, [.ref h4, .int (nI n)])), (h4, .inl (D.1 13, 1600, .inl f)), (h2, .inl (D.1 14, 179, .inl fw)), (h3, .inr (0, [.ref h5, .int (nI cn)])), (h5, .inl (D.1 13, 1600, .inl fc))])) (va_Qv (fun (u : ((Int32) × (Int32) × (Int32) × (Nat) × (Nat) × (Int32) × (Int32) × (Nat) × (Nat → Int32))) => u.2.2.2.1 ≤ u.2.2.2.2.1 ∧ u.2.2.2.2.1 ≤ n ∧ sp ≤ u.2.2.2.2.1 ∧ (¬ u.1.toInt = 0 → u.2.2.1.toInt = 0) ∧ u.2.2.2.2.2.2.2.1 ≤ 1600) (fun u t => zB D (va_A [(h0, .inr (6, [.int fa, .int pl, .ref h1, .ref h2, .ref h3, .int mo, .int (nI op), .int ki, .int (nI s0), .int (nI sp), .int wo, .int si])), (h1, .inr (9, [.ref h4, .int (nI n)])), (h4, .inl (D.1 13, 1600, .inl f)), (h2, .inl (D.1 14, 179, .inl fw)), (h3, .inr (0, [.ref h5, .int (nI cn)])), (h5, .inl (D.1 13, 1600, .inl fc))] sz) ((fun (u : ((Int32) × (Int32) × (Int32) × (Nat) × (Nat) × (Int32) × (Int32) × (Nat) × (Nat → Int32))) => [(h0, .inr (6, [.int u.1, .int u.2.1, .ref h1, .ref h2, .ref h3, .int mo, .int (nI op), .int u.2.2.1, .int (nI u.2.2.2.1), .int (nI u.2.2.2.2.1), .int u.2.2.2.2.2.1, .int u.2.2.2.2.2.2.1])), (h1, .inr (9, [.ref h4, .int (nI n)])), (h4, .inl (D.1 13, 1600, .inl f)), (h2, .inl (D.1 14, 179, .inl fw)), (h3, .inr (0, [.ref h5, .int (nI u.2.2.2.2.2.2.2.1)])), (h5, .inl (D.1 13, 1600, .inl u.2.2.2.2.2.2.2.2))]) u) t) (va_A [(h0, .inr (6, [.int fa, .int pl, .ref h1, .ref h2, .ref h3, .int mo, .int (nI op), .int ki, .int (nI s0), .int (nI sp), .int wo, .int si])), (h1, .inr (9, [.ref h4, .int (nI n)])), (h4, .inl (D.1 13, 1600, .inl f)), (h2, .inl (D.1 14, 179, .inl fw)), (h3, .inr (0, [.ref h5, .int (nI cn)])), (h5, .inl (D.1 13, 1600, .inl fc))] sz)) 0 0 (va_A [(h0, .inr (6, [.int fa, .int pl, .ref h1, .ref h2, .ref h3, .int mo, .int (nI op), .int ki, .int (nI s0), .int (nI sp), .int wo, .int si])), (h1, .inr (9, [.ref h4, .int (nI n)])), (h4, .inl (D.1 13, 1600, .inl f)), (h2, .inl (D.1 14, 179, .inl fw)), (h3, .inr (0, [.ref h5, .int (nI cn)])), (h5, .inl (D.1 13, 1600, .inl fc))] sz) := by
  refine Met.ofW (cc := cX6_readOther) (maxL := 2) (ret := none) (by decide) rfl ?_
  intro p e s m args below meth c s₁ B hml hv
  obtain ⟨rfl, hsz, hP, hK, hD0⟩ := hv
  have hx := B.exec
  have hb := B.bytes
  have hr := B.returns
  have hts := atoms_spec (ws := wz yX6_readOther cX6_readOther 2 none) B.pre
  have ht : ∀ w ∈ lw_gd, w.before _ s = true := fun w h => hts w (List.mem_cons_of_mem _ h)
  have hown : s.vm.findClass RX6 = some m.cls := findClass_of_methodNamed B.named
  have hlocks := B.notSynchronized
  subst hsz
  have hD := hD0.self (sz := s.heap.size)
  generalize hAe : va_A [(h0, .inr (6, [.int fa, .int pl, .ref h1, .ref h2, .ref h3, .int mo, .int (nI op), .int ki, .int (nI s0), .int (nI sp), .int wo, .int si])), (h1, .inr (9, [.ref h4, .int (nI n)])), (h4, .inl (D.1 13, 1600, .inl f)), (h2, .inl (D.1 14, 179, .inl fw)), (h3, .inr (0, [.ref h5, .int (nI cn)])), (h5, .inl (D.1 13, 1600, .inl fc))] s.heap.size = A at hD ⊢
  have hA : ∀ q : Nat, s.heap.size ≤ q → A q := fun q h => by rw [← hAe]; exact Or.inr h
  have hS : va_S A s.heap s.heap [] := va_S.rf
  have zi0 : (0 : Int32).toInt = 0 := rfl
  have zi1 : (1 : Int32).toInt = 1 := rfl
  have zi2 : (2 : Int32).toInt = 2 := rfl
  have zi3 : (3 : Int32).toInt = 3 := rfl
  have zi4 : (4 : Int32).toInt = 4 := rfl
  have hl := lv_entry ([.ref h0, .int p0]) (n := 2) (Nat.le_of_ble_eq_true rfl)
  rw [lg_entry_eq]
  generalize (lg_sl ([.ref h0, .int p0]) ++ List.replicate (2 - (lg_sl ([.ref h0, .int p0])).length) Slot.unset).toArray = ls at hl ⊢
  have hl : lv_has ls 2 [(0, .ref h0), (1, .int p0)] := hl
  refine lv_aload_n hx hb dX6_readOther_0 rfl (lv_at hl 0 rfl) ?_
  refine zwV (As := []) (rest := []) (C := RX6) (n := 0) (wr := [(h3, .inr (0, [.ref h5, .int (nI cn)])), (h5, .inl (D.1 13, 1600, .inl fc))]) ⟨hx, hb, hml, hown, ht⟩ (k_X6_opens l D _ h0 h1 h2 h3 h4 fa pl mo ki wo si op s0 sp n f fw (by first | decide | omega) (by first | decide | omega) (by first | decide | omega) (by first | decide | omega) (by first | decide | omega)) (zgV ml_X6_197 im_X6_opens se_X6_opens in_X6 co_X6_opens) rfl rfl (by decide +kernel) ⟨by show 1 + 1 ≤ 40 * d + 12; omega, by show 8 + (1 + 11) + 60 ≤ 2400 * d + 720; omega⟩ hK hP hD hS hA [0, 1, 2, 3] [4, 5] rfl rfl rfl rfl (by decide) 0 rfl rfl rfl rfl hl.1 rfl (Nat.le_of_ble_eq_true rfl) dX6_readOther_1 ⟨Nat.le_of_ble_eq_true rfl, Nat.le_of_ble_eq_true rfl⟩ (fun r_2 u_1 H locs hw hP hD hS => ?_)
  obtain ⟨x_3, x_4, x_5, n_6⟩ := u_1
  have hP : va_P D vwCl [(h3, .inr (0, [.ref h5, .int (nI cn)])), (h5, .inl (D.1 13, 1600, .inl fc)), (h0, .inr (6, [.int x_3, .int x_4, .ref h1, .ref h2, .ref h3, .int mo, .int (nI (n_6)), .int x_5, .int (nI (s0)), .int (nI (sp)), .int wo, .int si])), (h1, .inr (9, [.ref h4, .int (nI (n))])), (h4, .inl (D.1 13, 1600, .inl f)), (h2, .inl (D.1 14, 179, .inl fw))] H := hP
  have hD : va_D A [(h3, .inr (0, [.ref h5, .int (nI cn)])), (h5, .inl (D.1 13, 1600, .inl fc)), (h0, .inr (6, [.int x_3, .int x_4, .ref h1, .ref h2, .ref h3, .int mo, .int (nI (n_6)), .int x_5, .int (nI (s0)), .int (nI (sp)), .int wo, .int si])), (h1, .inr (9, [.ref h4, .int (nI (n))])), (h4, .inl (D.1 13, 1600, .inl f)), (h2, .inl (D.1 14, 179, .inl fw))] := hD
  rcases hw with ⟨rfl, hw⟩ | ⟨rfl, hw⟩
  · have hw_7 : (n_6 = op + 1 ∧ op < 6) ∧ (n_6 ≤ 6 ∧ (¬ x_3.toInt = 0 → x_5.toInt = 0)) := hw
    refine lv_if_eq (tgt := 33) hx hb dX6_readOther_4 (by decide) (fun c_8 => (z_abs c_8 (by decide)).elim) (fun _ => ?_)
    refine lv_aload_n hx hb dX6_readOther_7 rfl (lv_at hl 0 rfl) ?_
    refine zwVv (As := []) (rest := []) (C := RX6) (n := 0) (wr := [(h3, .inr (0, [.ref h5, .int (nI cn)])), (h5, .inl (D.1 13, 1600, .inl fc))]) ⟨hx, hb, hml, hown, ht⟩ (k_X6_advance l D _ h0 h1 h2 h3 h4 x_3 x_4 mo x_5 wo si n_6 s0 sp n f fw (by first | decide | omega) (by first | decide | omega) (by first | decide | omega) (by first | decide | omega)) (zgV ml_X6_75 im_X6_advance se_X6_advance in_X6 co_X6_advance) rfl rfl (by decide +kernel) ⟨by show 1 + 1 ≤ 40 * d + 12; omega, by show 8 + (2 + 11) + 60 ≤ 2400 * d + 720; omega⟩ hK hP hD hS hA [2, 3, 4, 5] [0, 1] rfl rfl rfl rfl (by decide) 0 rfl rfl rfl rfl hl.1 rfl (Nat.le_of_ble_eq_true rfl) dX6_readOther_8 ⟨Nat.le_of_ble_eq_true rfl, Nat.le_of_ble_eq_true rfl⟩ (fun u_10 H locs hw hP hD hS => ?_)
    obtain ⟨x_12, n_13, n_14, x_15, x_16⟩ := u_10
    have hP : va_P D vwCl [(h3, .inr (0, [.ref h5, .int (nI cn)])), (h5, .inl (D.1 13, 1600, .inl fc)), (h0, .inr (6, [.int x_3, .int x_4, .ref h1, .ref h2, .ref h3, .int mo, .int (nI (n_6)), .int x_12, .int (nI (n_13)), .int (nI (n_14)), .int x_15, .int x_16])), (h1, .inr (9, [.ref h4, .int (nI (n))])), (h4, .inl (D.1 13, 1600, .inl f)), (h2, .inl (D.1 14, 179, .inl fw))] H := hP
    have hD : va_D A [(h3, .inr (0, [.ref h5, .int (nI cn)])), (h5, .inl (D.1 13, 1600, .inl fc)), (h0, .inr (6, [.int x_3, .int x_4, .ref h1, .ref h2, .ref h3, .int mo, .int (nI (n_6)), .int x_12, .int (nI (n_13)), .int (nI (n_14)), .int x_15, .int x_16])), (h1, .inr (9, [.ref h4, .int (nI (n))])), (h4, .inl (D.1 13, 1600, .inl f)), (h2, .inl (D.1 14, 179, .inl fw))] := hD
    have hw_17 : n_13 ≤ n_14 ∧ n_14 ≤ n ∧ sp ≤ n_14 ∧ (x_12.toInt = 0 ∨ (sp < n_14 ∧ n_13 < n_14)) ∧ (¬ x_3.toInt = 0 → x_12.toInt = 0) := hw
    refine lv_aload_n hx hb dX6_readOther_11 rfl (lv_at hl 0 rfl) ?_
    obtain ⟨e_18, he_18⟩ : ∃ e, e + 1 = d := ⟨d - 1, by omega⟩
    refine zwVv (As := []) (rest := []) (C := RX6) (n := 0) (wr := []) ⟨hx, hb, hml, hown, ht⟩ ((ih e_18 he_18).2 _ h0 h1 h2 h3 h4 h5 x_3 x_4 mo x_12 x_15 x_16 n_6 n_13 n_14 n cn f fw fc (by first | decide | omega) (by first | decide | omega) (by first | decide | omega) (by first | decide | omega) (by first | decide | omega) (by first | decide | omega) (by first | decide | omega)) (zgV ml_X6_206 im_X6_readPart se_X6_readPart in_X6 co_X6_readPart) rfl rfl (by decide +kernel) ⟨by show 40 * e_18 + 20 + 1 ≤ 40 * d + 12; omega, by show 8 + (1 + 11) + (2400 * e_18 + 1200) ≤ 2400 * d + 720; omega⟩ hK hP hD hS hA [2, 3, 4, 5, 0, 1] [] rfl rfl rfl rfl (by decide) 0 rfl rfl rfl rfl hl.1 rfl (Nat.le_of_ble_eq_true rfl) dX6_readOther_12 ⟨Nat.le_of_ble_eq_true rfl, Nat.le_of_ble_eq_true rfl⟩ (fun u_19 H locs hw hP hD hS => ?_)
    obtain ⟨x_21, x_22, x_23, n_24, n_25, x_26, x_27, n_28, f_29⟩ := u_19
    have hP : va_P D vwCl [(h0, .inr (6, [.int x_21, .int x_22, .ref h1, .ref h2, .ref h3, .int mo, .int (nI (n_6)), .int x_23, .int (nI (n_24)), .int (nI (n_25)), .int x_26, .int x_27])), (h1, .inr (9, [.ref h4, .int (nI (n))])), (h4, .inl (D.1 13, 1600, .inl f)), (h2, .inl (D.1 14, 179, .inl fw)), (h3, .inr (0, [.ref h5, .int (nI (n_28))])), (h5, .inl (D.1 13, 1600, .inl f_29))] H := hP
    have hD : va_D A [(h0, .inr (6, [.int x_21, .int x_22, .ref h1, .ref h2, .ref h3, .int mo, .int (nI (n_6)), .int x_23, .int (nI (n_24)), .int (nI (n_25)), .int x_26, .int x_27])), (h1, .inr (9, [.ref h4, .int (nI (n))])), (h4, .inl (D.1 13, 1600, .inl f)), (h2, .inl (D.1 14, 179, .inl fw)), (h3, .inr (0, [.ref h5, .int (nI (n_28))])), (h5, .inl (D.1 13, 1600, .inl f_29))] := hD
    have hw_30 : n_24 ≤ n_25 ∧ n_25 ≤ n ∧ n_14 ≤ n_25 ∧ (¬ x_21.toInt = 0 → x_23.toInt = 0) ∧ n_28 ≤ 1600 := hw
    refine lv_aload_n hx hb dX6_readOther_15 rfl (lv_at hl 0 rfl) ?_
    refine va_get (D := D) (ci := 6) (v := .ref h3) (C := RX6) (T := TX6) (N := 12) hx hb ht inX6 hown hK hP 0 rfl rfl 4 (by decide) (ht (.fieldLink RX6 84 "CloneVolumes$Reader" "code" "LCloneVolumes$Code;") fl_X6_84) (fun _ h9 => h9) rfl dX6_readOther_16 ?_
    refine lv_iload_n hx hb dX6_readOther_19 rfl (lv_at hl 1 rfl) ?_
    refine zwVv (As := [.int p0]) (rest := []) (C := RX0) (n := 1) (wr := [(h0, .inr (6, [.int x_21, .int x_22, .ref h1, .ref h2, .ref h3, .int mo, .int (nI (n_6)), .int x_23, .int (nI (n_24)), .int (nI (n_25)), .int x_26, .int x_27])), (h1, .inr (9, [.ref h4, .int (nI (n))])), (h4, .inl (D.1 13, 1600, .inl f)), (h2, .inl (D.1 14, 179, .inl fw))]) ⟨hx, hb, hml, hown, ht⟩ (k_X0_add l D _ h3 h5 n_28 f_29 p0 (by first | decide | omega)) (zgV ml_X6_191 im_X0_add se_X0_add in_X0 co_X0_add) rfl rfl (by decide +kernel) ⟨by show 0 + 1 ≤ 40 * d + 12; omega, by show 8 + (2 + 11) + 0 ≤ 2400 * d + 720; omega⟩ hK hP hD hS hA [4, 5] [0, 1, 2, 3] rfl rfl rfl rfl (by decide) 0 rfl rfl rfl rfl hl.1 rfl (Nat.le_of_ble_eq_true rfl) dX6_readOther_20 ⟨Nat.le_of_ble_eq_true rfl, Nat.le_of_ble_eq_true rfl⟩ (fun u_31 H locs hw hP hD hS => ?_)
    obtain ⟨n_33, f_34⟩ := u_31
    have hP : va_P D vwCl [(h0, .inr (6, [.int x_21, .int x_22, .ref h1, .ref h2, .ref h3, .int mo, .int (nI (n_6)), .int x_23, .int (nI (n_24)), .int (nI (n_25)), .int x_26, .int x_27])), (h1, .inr (9, [.ref h4, .int (nI (n))])), (h4, .inl (D.1 13, 1600, .inl f)), (h2, .inl (D.1 14, 179, .inl fw)), (h3, .inr (0, [.ref h5, .int (nI (n_33))])), (h5, .inl (D.1 13, 1600, .inl f_34))] H := hP
    have hD : va_D A [(h0, .inr (6, [.int x_21, .int x_22, .ref h1, .ref h2, .ref h3, .int mo, .int (nI (n_6)), .int x_23, .int (nI (n_24)), .int (nI (n_25)), .int x_26, .int x_27])), (h1, .inr (9, [.ref h4, .int (nI (n))])), (h4, .inl (D.1 13, 1600, .inl f)), (h2, .inl (D.1 14, 179, .inl fw)), (h3, .inr (0, [.ref h5, .int (nI (n_33))])), (h5, .inl (D.1 13, 1600, .inl f_34))] := hD
    have hw_35 : n_33 ≤ 1600 := hw
    refine lv_aload_n hx hb dX6_readOther_23 rfl (lv_at hl 0 rfl) ?_
    refine lv_dup hx hb dX6_readOther_24 rfl ?_
    refine va_get (D := D) (ci := 6) (v := .int (nI (n_6))) (C := RX6) (T := TX6) (N := 12) hx hb ht inX6 hown hK hP 0 rfl rfl 6 (by decide) (ht (.fieldLink RX6 85 "CloneVolumes$Reader" "open" "I") fl_X6_85) (fun _ h9 => h9) rfl dX6_readOther_25 ?_
    refine lv_iconst (v := 1) hx hb dX6_readOther_28 (by decide) ?_
    refine lv_isub hx hb dX6_readOther_29 ?_
    refine z_topi (y := nI (n_6 - 1)) (z_nsub (a := n_6) (b := 1) (by omega)) ?_
    refine va_put (D := D) (ci := 6) (v := .int (nI (n_6 - 1))) (ty := .int) (C := RX6) (T := TX6) (N := 12) hx hb ht inX6 tyX6 tyX6_ok nmX6 hown hK hP hD hS 0 rfl rfl 6 (by decide) (ht (.fieldLink RX6 85 "CloneVolumes$Reader" "open" "I") fl_X6_85) (fun _ h9 => h9) rfl (by decide +kernel) rfl rfl (Nat.le_of_ble_eq_true rfl) dX6_readOther_30 (fun H locs hP hD hS => ?_)
    have hP : va_P D vwCl [(h0, .inr (6, [.int x_21, .int x_22, .ref h1, .ref h2, .ref h3, .int mo, .int (nI (n_6 - 1)), .int x_23, .int (nI (n_24)), .int (nI (n_25)), .int x_26, .int x_27])), (h1, .inr (9, [.ref h4, .int (nI (n))])), (h4, .inl (D.1 13, 1600, .inl f)), (h2, .inl (D.1 14, 179, .inl fw)), (h3, .inr (0, [.ref h5, .int (nI (n_33))])), (h5, .inl (D.1 13, 1600, .inl f_34))] H := hP
    have hD : va_D A [(h0, .inr (6, [.int x_21, .int x_22, .ref h1, .ref h2, .ref h3, .int mo, .int (nI (n_6 - 1)), .int x_23, .int (nI (n_24)), .int (nI (n_25)), .int x_26, .int x_27])), (h1, .inr (9, [.ref h4, .int (nI (n))])), (h4, .inl (D.1 13, 1600, .inl f)), (h2, .inl (D.1 14, 179, .inl fw)), (h3, .inr (0, [.ref h5, .int (nI (n_33))])), (h5, .inl (D.1 13, 1600, .inl f_34))] := hD
    rw [show n_6 - 1 = op by omega] at hP hD
    have hP9 := hP.sub (ws' := [(h0, .inr (6, [.int x_21, .int x_22, .ref h1, .ref h2, .ref h3, .int mo, .int (nI op), .int x_23, .int (nI n_24), .int (nI n_25), .int x_26, .int x_27])), (h1, .inr (9, [.ref h4, .int (nI n)])), (h4, .inl (D.1 13, 1600, .inl f)), (h2, .inl (D.1 14, 179, .inl fw)), (h3, .inr (0, [.ref h5, .int (nI n_33)])), (h5, .inl (D.1 13, 1600, .inl f_34))]) [0, 1, 2, 3, 4, 5] rfl
    have hD9 := hD.sub (ws' := [(h0, .inr (6, [.int x_21, .int x_22, .ref h1, .ref h2, .ref h3, .int mo, .int (nI op), .int x_23, .int (nI n_24), .int (nI n_25), .int x_26, .int x_27])), (h1, .inr (9, [.ref h4, .int (nI n)])), (h4, .inl (D.1 13, 1600, .inl f)), (h2, .inl (D.1 14, 179, .inl fw)), (h3, .inr (0, [.ref h5, .int (nI n_33)])), (h5, .inl (D.1 13, 1600, .inl f_34))]) [0, 1, 2, 3, 4, 5] (by decide) rfl
    refine W.widen (k := 0) (n := 0) (Nat.le_of_ble_eq_true rfl) (Nat.le_of_ble_eq_true rfl) ?_
    exact W.vret hx hb hr (fun t ht hW => ⟨⟨(x_21, x_22, x_23, n_24, n_25, x_26, x_27, n_33, f_34), rfl, (by first | omega | (dsimp only; omega)), by rw [ht]; exact hP9, va_K.moved hW.alike hK, hD9⟩, hS.F ht⟩) hS.2.2 dX6_readOther_33
  · have hw_7 : (n_6 = op ∧ ¬ x_3.toInt = 0) ∧ (n_6 ≤ 6 ∧ (¬ x_3.toInt = 0 → x_5.toInt = 0)) := hw
    refine lv_if_eq (tgt := 33) hx hb dX6_readOther_4 (by decide) (fun _ => ?_) (fun c_36 => (z_abs c_36 (by decide)).elim)
    rw [show n_6 = op by omega] at hP hD
    have hP9 := hP.sub (ws' := [(h0, .inr (6, [.int x_3, .int x_4, .ref h1, .ref h2, .ref h3, .int mo, .int (nI op), .int x_5, .int (nI s0), .int (nI sp), .int wo, .int si])), (h1, .inr (9, [.ref h4, .int (nI n)])), (h4, .inl (D.1 13, 1600, .inl f)), (h2, .inl (D.1 14, 179, .inl fw)), (h3, .inr (0, [.ref h5, .int (nI cn)])), (h5, .inl (D.1 13, 1600, .inl fc))]) [2, 3, 4, 5, 0, 1] rfl
    have hD9 := hD.sub (ws' := [(h0, .inr (6, [.int x_3, .int x_4, .ref h1, .ref h2, .ref h3, .int mo, .int (nI op), .int x_5, .int (nI s0), .int (nI sp), .int wo, .int si])), (h1, .inr (9, [.ref h4, .int (nI n)])), (h4, .inl (D.1 13, 1600, .inl f)), (h2, .inl (D.1 14, 179, .inl fw)), (h3, .inr (0, [.ref h5, .int (nI cn)])), (h5, .inl (D.1 13, 1600, .inl fc))]) [2, 3, 4, 5, 0, 1] (by decide) rfl
    refine W.widen (k := 0) (n := 0) (Nat.le_of_ble_eq_true rfl) (Nat.le_of_ble_eq_true rfl) ?_
    exact W.vret hx hb hr (fun t ht hW => ⟨⟨(x_3, x_4, x_5, s0, sp, wo, si, cn, fc), rfl, (by first | omega | (dsimp only; omega)), by rw [ht]; exact hP9, va_K.moved hW.alike hK, hD9⟩, hS.F ht⟩) hS.2.2 dX6_readOther_33
set_option maxHeartbeats 4000000 in
set_option maxRecDepth 100000 in
theorem k_X6_readChoice (l : Launch) (D : va_G) (sz : Nat) (h0 h1 h2 h3 h4 h5 : Nat) (fa pl mo ki wo si : Int32) (op s0 sp n cn : Nat) (f fw fc : Nat → Int32) (d : Nat) (ih : ∀ e, e + 1 = d → C_readSum l D e ∧ C_readPart l D e) (p0 : Int32) (h_1 : s0 ≤ sp) (h_2 : sp ≤ n) (h_3 : n ≤ 1600) (h_4 : ¬ fa.toInt = 0 → ki.toInt = 0) (h_5 : op ≤ 6) (h_6 : cn ≤ 1600) (h_7 : 6 ≤ op + d) : Met l yX6_readChoice (wz yX6_readChoice cX6_readChoice 2 none) { frames := 40 * d + 12, cells := 0, slots := 0, locals := 2400 * d + 720 } (va_Pc [.ref h0, .int p0] (zW D sz [(h0, .inr (6, [.int fa, .int pl, .ref h1, .ref h2, .ref h3, .int mo, .int (nI op), .int ki, .int (nI s0), .int (nI sp), .int wo, .int si])), (h1, .inr (9, [.ref h4, .int (nI n)])), (h4, .inl (D.1 13, 1600, .inl f)), (h2, .inl (D.1 14, 179, .inl fw)), (h3, .inr (0, [.ref h5, .int (nI cn)])), (h5, .inl (D.1 13, 1600, .inl fc))])) (va_Qv (fun (u : ((Int32) × (Int32) × (Int32) × (Nat) × (Nat) × (Int32) × (Int32) × (Nat) × (Nat → Int32))) => u.2.2.2.1 ≤ u.2.2.2.2.1 ∧ u.2.2.2.2.1 ≤ n ∧ sp ≤ u.2.2.2.2.1 ∧ (¬ u.1.toInt = 0 → u.2.2.1.toInt = 0) ∧ u.2.2.2.2.2.2.2.1 ≤ 1600) (fun u t => zB D (va_A [(h0, .inr (6, [.int fa, .int pl, .ref h1, .ref h2, .ref h3, .int mo, .int (nI op), .int ki, .int (nI s0), .int (nI sp), .int wo, .int si])), (h1, .inr (9, [.ref h4, .int (nI n)])), (h4, .inl (D.1 13, 1600, .inl f)), (h2, .inl (D.1 14, 179, .inl fw)), (h3, .inr (0, [.ref h5, .int (nI cn)])), (h5, .inl (D.1 13, 1600, .inl fc))] sz) ((fun (u : ((Int32) × (Int32) × (Int32) × (Nat) × (Nat) × (Int32) × (Int32) × (Nat) × (Nat → Int32))) => [(h0, .inr (6, [.int u.1, .int u.2.1, .ref h1, .ref h2, .ref h3, .int mo, .int (nI op), .int u.2.2.1, .int (nI u.2.2.2.1), .int (nI u.2.2.2.2.1), .int u.2.2.2.2.2.1, .int u.2.2.2.2.2.2.1])), (h1, .inr (9, [.ref h4, .int (nI n)])), (h4, .inl (D.1 13, 1600, .inl f)), (h2, .inl (D.1 14, 179, .inl fw)), (h3, .inr (0, [.ref h5, .int (nI u.2.2.2.2.2.2.2.1)])), (h5, .inl (D.1 13, 1600, .inl u.2.2.2.2.2.2.2.2))]) u) t) (va_A [(h0, .inr (6, [.int fa, .int pl, .ref h1, .ref h2, .ref h3, .int mo, .int (nI op), .int ki, .int (nI s0), .int (nI sp), .int wo, .int si])), (h1, .inr (9, [.ref h4, .int (nI n)])), (h4, .inl (D.1 13, 1600, .inl f)), (h2, .inl (D.1 14, 179, .inl fw)), (h3, .inr (0, [.ref h5, .int (nI cn)])), (h5, .inl (D.1 13, 1600, .inl fc))] sz)) 0 0 (va_A [(h0, .inr (6, [.int fa, .int pl, .ref h1, .ref h2, .ref h3, .int mo, .int (nI op), .int ki, .int (nI s0), .int (nI sp), .int wo, .int si])), (h1, .inr (9, [.ref h4, .int (nI n)])), (h4, .inl (D.1 13, 1600, .inl f)), (h2, .inl (D.1 14, 179, .inl fw)), (h3, .inr (0, [.ref h5, .int (nI cn)])), (h5, .inl (D.1 13, 1600, .inl fc))] sz) := by
  refine Met.ofW (cc := cX6_readChoice) (maxL := 2) (ret := none) (by decide) rfl ?_
  intro p e s m args below meth c s₁ B hml hv
  obtain ⟨rfl, hsz, hP, hK, hD0⟩ := hv
  have hx := B.exec
  have hb := B.bytes
  have hr := B.returns
  have hts := atoms_spec (ws := wz yX6_readChoice cX6_readChoice 2 none) B.pre
  have ht : ∀ w ∈ lw_gd, w.before _ s = true := fun w h => hts w (List.mem_cons_of_mem _ h)
  have hown : s.vm.findClass RX6 = some m.cls := findClass_of_methodNamed B.named
  have hlocks := B.notSynchronized
  subst hsz
  have hD := hD0.self (sz := s.heap.size)
  generalize hAe : va_A [(h0, .inr (6, [.int fa, .int pl, .ref h1, .ref h2, .ref h3, .int mo, .int (nI op), .int ki, .int (nI s0), .int (nI sp), .int wo, .int si])), (h1, .inr (9, [.ref h4, .int (nI n)])), (h4, .inl (D.1 13, 1600, .inl f)), (h2, .inl (D.1 14, 179, .inl fw)), (h3, .inr (0, [.ref h5, .int (nI cn)])), (h5, .inl (D.1 13, 1600, .inl fc))] s.heap.size = A at hD ⊢
  have hA : ∀ q : Nat, s.heap.size ≤ q → A q := fun q h => by rw [← hAe]; exact Or.inr h
  have hS : va_S A s.heap s.heap [] := va_S.rf
  have zi0 : (0 : Int32).toInt = 0 := rfl
  have zi1 : (1 : Int32).toInt = 1 := rfl
  have zi2 : (2 : Int32).toInt = 2 := rfl
  have zi3 : (3 : Int32).toInt = 3 := rfl
  have zi4 : (4 : Int32).toInt = 4 := rfl
  have hl := lv_entry ([.ref h0, .int p0]) (n := 2) (Nat.le_of_ble_eq_true rfl)
  rw [lg_entry_eq]
  generalize (lg_sl ([.ref h0, .int p0]) ++ List.replicate (2 - (lg_sl ([.ref h0, .int p0])).length) Slot.unset).toArray = ls at hl ⊢
  have hl : lv_has ls 2 [(0, .ref h0), (1, .int p0)] := hl
  refine lv_aload_n hx hb dX6_readChoice_0 rfl (lv_at hl 0 rfl) ?_
  refine zwVv (As := []) (rest := []) (C := RX6) (n := 0) (wr := [(h3, .inr (0, [.ref h5, .int (nI cn)])), (h5, .inl (D.1 13, 1600, .inl fc))]) ⟨hx, hb, hml, hown, ht⟩ (k_X6_advance l D _ h0 h1 h2 h3 h4 fa pl mo ki wo si op s0 sp n f fw (by first | decide | omega) (by first | decide | omega) (by first | decide | omega) (by first | decide | omega)) (zgV ml_X6_75 im_X6_advance se_X6_advance in_X6 co_X6_advance) rfl rfl (by decide +kernel) ⟨by show 1 + 1 ≤ 40 * d + 12; omega, by show 8 + (2 + 11) + 60 ≤ 2400 * d + 720; omega⟩ hK hP hD hS hA [0, 1, 2, 3] [4, 5] rfl rfl rfl rfl (by decide) 0 rfl rfl rfl rfl hl.1 rfl (Nat.le_of_ble_eq_true rfl) dX6_readChoice_1 ⟨Nat.le_of_ble_eq_true rfl, Nat.le_of_ble_eq_true rfl⟩ (fun u_1 H locs hw hP hD hS => ?_)
  obtain ⟨x_3, n_4, n_5, x_6, x_7⟩ := u_1
  have hP : va_P D vwCl [(h3, .inr (0, [.ref h5, .int (nI cn)])), (h5, .inl (D.1 13, 1600, .inl fc)), (h0, .inr (6, [.int fa, .int pl, .ref h1, .ref h2, .ref h3, .int mo, .int (nI (op)), .int x_3, .int (nI (n_4)), .int (nI (n_5)), .int x_6, .int x_7])), (h1, .inr (9, [.ref h4, .int (nI (n))])), (h4, .inl (D.1 13, 1600, .inl f)), (h2, .inl (D.1 14, 179, .inl fw))] H := hP
  have hD : va_D A [(h3, .inr (0, [.ref h5, .int (nI cn)])), (h5, .inl (D.1 13, 1600, .inl fc)), (h0, .inr (6, [.int fa, .int pl, .ref h1, .ref h2, .ref h3, .int mo, .int (nI (op)), .int x_3, .int (nI (n_4)), .int (nI (n_5)), .int x_6, .int x_7])), (h1, .inr (9, [.ref h4, .int (nI (n))])), (h4, .inl (D.1 13, 1600, .inl f)), (h2, .inl (D.1 14, 179, .inl fw))] := hD
  have hw_8 : n_4 ≤ n_5 ∧ n_5 ≤ n ∧ sp ≤ n_5 ∧ (x_3.toInt = 0 ∨ (sp < n_5 ∧ n_4 < n_5)) ∧ (¬ fa.toInt = 0 → x_3.toInt = 0) := hw
  refine lv_aload_n hx hb dX6_readChoice_4 rfl (lv_at hl 0 rfl) ?_
  refine lv_bipush (v := 40) hx hb dX6_readChoice_5 (by decide) ?_
  have en_9 : (40 : Int32).toInt = 40 := by decide
  refine zcV (As := [.int 40]) (rest := []) (C := RX6) (n := 1) ⟨hx, hb, hml, hown, ht⟩ (k_X6_isSign l D h0 h1 h2 h3 fa pl mo x_3 x_6 x_7 op n_4 n_5 40) (zgV ml_X6_124 im_X6_isSign se_X6_isSign in_X6 co_X6_isSign) rfl rfl (by decide +kernel) ⟨by show 0 + 1 ≤ 40 * d + 12; omega, by show 8 + (2 + 11) + 0 ≤ 2400 * d + 720; omega⟩ hK hP hS [2] rfl 0 rfl rfl rfl rfl hl.1 rfl (Nat.le_of_ble_eq_true rfl) dX6_readChoice_7 ⟨Nat.le_of_ble_eq_true rfl, Nat.le_of_ble_eq_true rfl⟩ (fun r_10 H locs hw hP hS => ?_)
  rcases hw with ⟨rfl, g_11⟩ | ⟨rfl, g_12⟩
  · skip
    refine lv_if_ne (tgt := 26) hx hb dX6_readChoice_10 (by decide) (fun _ => ?_) (fun c_13 => (z_abs c_13 (by decide)).elim)
    refine lv_aload_n hx hb dX6_readChoice_26 rfl (lv_at hl 0 rfl) ?_
    refine zwV (As := []) (rest := []) (C := RX6) (n := 0) (wr := [(h3, .inr (0, [.ref h5, .int (nI cn)])), (h5, .inl (D.1 13, 1600, .inl fc))]) ⟨hx, hb, hml, hown, ht⟩ (k_X6_opens l D _ h0 h1 h2 h3 h4 fa pl mo x_3 x_6 x_7 op n_4 n_5 n f fw (by first | decide | omega) (by first | decide | omega) (by first | decide | omega) (by first | decide | omega) (by first | decide | omega)) (zgV ml_X6_197 im_X6_opens se_X6_opens in_X6 co_X6_opens) rfl rfl (by decide +kernel) ⟨by show 1 + 1 ≤ 40 * d + 12; omega, by show 8 + (1 + 11) + 60 ≤ 2400 * d + 720; omega⟩ hK hP hD hS hA [2, 3, 4, 5] [0, 1] rfl rfl rfl rfl (by decide) 0 rfl rfl rfl rfl hl.1 rfl (Nat.le_of_ble_eq_true rfl) dX6_readChoice_27 ⟨Nat.le_of_ble_eq_true rfl, Nat.le_of_ble_eq_true rfl⟩ (fun r_16 u_15 H locs hw hP hD hS => ?_)
    obtain ⟨x_17, x_18, x_19, n_20⟩ := u_15
    have hP : va_P D vwCl [(h3, .inr (0, [.ref h5, .int (nI cn)])), (h5, .inl (D.1 13, 1600, .inl fc)), (h0, .inr (6, [.int x_17, .int x_18, .ref h1, .ref h2, .ref h3, .int mo, .int (nI (n_20)), .int x_19, .int (nI (n_4)), .int (nI (n_5)), .int x_6, .int x_7])), (h1, .inr (9, [.ref h4, .int (nI (n))])), (h4, .inl (D.1 13, 1600, .inl f)), (h2, .inl (D.1 14, 179, .inl fw))] H := hP
    have hD : va_D A [(h3, .inr (0, [.ref h5, .int (nI cn)])), (h5, .inl (D.1 13, 1600, .inl fc)), (h0, .inr (6, [.int x_17, .int x_18, .ref h1, .ref h2, .ref h3, .int mo, .int (nI (n_20)), .int x_19, .int (nI (n_4)), .int (nI (n_5)), .int x_6, .int x_7])), (h1, .inr (9, [.ref h4, .int (nI (n))])), (h4, .inl (D.1 13, 1600, .inl f)), (h2, .inl (D.1 14, 179, .inl fw))] := hD
    rcases hw with ⟨rfl, hw⟩ | ⟨rfl, hw⟩
    · have hw_21 : (n_20 = op + 1 ∧ op < 6) ∧ (n_20 ≤ 6 ∧ (¬ x_17.toInt = 0 → x_19.toInt = 0)) := hw
      refine lv_if_eq (tgt := 75) hx hb dX6_readChoice_30 (by decide) (fun c_22 => (z_abs c_22 (by decide)).elim) (fun _ => ?_)
      refine lv_aload_n hx hb dX6_readChoice_33 rfl (lv_at hl 0 rfl) ?_
      refine zwVv (As := []) (rest := []) (C := RX6) (n := 0) (wr := [(h3, .inr (0, [.ref h5, .int (nI cn)])), (h5, .inl (D.1 13, 1600, .inl fc))]) ⟨hx, hb, hml, hown, ht⟩ (k_X6_advance l D _ h0 h1 h2 h3 h4 x_17 x_18 mo x_19 x_6 x_7 n_20 n_4 n_5 n f fw (by first | decide | omega) (by first | decide | omega) (by first | decide | omega) (by first | decide | omega)) (zgV ml_X6_75 im_X6_advance se_X6_advance in_X6 co_X6_advance) rfl rfl (by decide +kernel) ⟨by show 1 + 1 ≤ 40 * d + 12; omega, by show 8 + (2 + 11) + 60 ≤ 2400 * d + 720; omega⟩ hK hP hD hS hA [2, 3, 4, 5] [0, 1] rfl rfl rfl rfl (by decide) 0 rfl rfl rfl rfl hl.1 rfl (Nat.le_of_ble_eq_true rfl) dX6_readChoice_34 ⟨Nat.le_of_ble_eq_true rfl, Nat.le_of_ble_eq_true rfl⟩ (fun u_24 H locs hw hP hD hS => ?_)
      obtain ⟨x_26, n_27, n_28, x_29, x_30⟩ := u_24
      have hP : va_P D vwCl [(h3, .inr (0, [.ref h5, .int (nI cn)])), (h5, .inl (D.1 13, 1600, .inl fc)), (h0, .inr (6, [.int x_17, .int x_18, .ref h1, .ref h2, .ref h3, .int mo, .int (nI (n_20)), .int x_26, .int (nI (n_27)), .int (nI (n_28)), .int x_29, .int x_30])), (h1, .inr (9, [.ref h4, .int (nI (n))])), (h4, .inl (D.1 13, 1600, .inl f)), (h2, .inl (D.1 14, 179, .inl fw))] H := hP
      have hD : va_D A [(h3, .inr (0, [.ref h5, .int (nI cn)])), (h5, .inl (D.1 13, 1600, .inl fc)), (h0, .inr (6, [.int x_17, .int x_18, .ref h1, .ref h2, .ref h3, .int mo, .int (nI (n_20)), .int x_26, .int (nI (n_27)), .int (nI (n_28)), .int x_29, .int x_30])), (h1, .inr (9, [.ref h4, .int (nI (n))])), (h4, .inl (D.1 13, 1600, .inl f)), (h2, .inl (D.1 14, 179, .inl fw))] := hD
      have hw_31 : n_27 ≤ n_28 ∧ n_28 ≤ n ∧ n_5 ≤ n_28 ∧ (x_26.toInt = 0 ∨ (n_5 < n_28 ∧ n_27 < n_28)) ∧ (¬ x_17.toInt = 0 → x_26.toInt = 0) := hw
      refine lv_aload_n hx hb dX6_readChoice_37 rfl (lv_at hl 0 rfl) ?_
      obtain ⟨e_32, he_32⟩ : ∃ e, e + 1 = d := ⟨d - 1, by omega⟩
      refine zwVv (As := []) (rest := []) (C := RX6) (n := 0) (wr := []) ⟨hx, hb, hml, hown, ht⟩ ((ih e_32 he_32).1 _ h0 h1 h2 h3 h4 h5 x_17 x_18 mo x_26 x_29 x_30 n_20 n_27 n_28 n cn f fw fc (by first | decide | omega) (by first | decide | omega) (by first | decide | omega) (by first | decide | omega) (by first | decide | omega) (by first | decide | omega) (by first | decide | omega)) (zgV ml_X6_81 im_X6_readSum se_X6_readSum in_X6 co_X6_readSum) rfl rfl (by decide +kernel) ⟨by show 40 * e_32 + 28 + 1 ≤ 40 * d + 12; omega, by show 8 + (3 + 11) + (2400 * e_32 + 1680) ≤ 2400 * d + 720; omega⟩ hK hP hD hS hA [2, 3, 4, 5, 0, 1] [] rfl rfl rfl rfl (by decide) 0 rfl rfl rfl rfl hl.1 rfl (Nat.le_of_ble_eq_true rfl) dX6_readChoice_38 ⟨Nat.le_of_ble_eq_true rfl, Nat.le_of_ble_eq_true rfl⟩ (fun u_33 H locs hw hP hD hS => ?_)
      obtain ⟨x_35, x_36, x_37, n_38, n_39, x_40, x_41, n_42, f_43⟩ := u_33
      have hP : va_P D vwCl [(h0, .inr (6, [.int x_35, .int x_36, .ref h1, .ref h2, .ref h3, .int mo, .int (nI (n_20)), .int x_37, .int (nI (n_38)), .int (nI (n_39)), .int x_40, .int x_41])), (h1, .inr (9, [.ref h4, .int (nI (n))])), (h4, .inl (D.1 13, 1600, .inl f)), (h2, .inl (D.1 14, 179, .inl fw)), (h3, .inr (0, [.ref h5, .int (nI (n_42))])), (h5, .inl (D.1 13, 1600, .inl f_43))] H := hP
      have hD : va_D A [(h0, .inr (6, [.int x_35, .int x_36, .ref h1, .ref h2, .ref h3, .int mo, .int (nI (n_20)), .int x_37, .int (nI (n_38)), .int (nI (n_39)), .int x_40, .int x_41])), (h1, .inr (9, [.ref h4, .int (nI (n))])), (h4, .inl (D.1 13, 1600, .inl f)), (h2, .inl (D.1 14, 179, .inl fw)), (h3, .inr (0, [.ref h5, .int (nI (n_42))])), (h5, .inl (D.1 13, 1600, .inl f_43))] := hD
      have hw_44 : n_38 ≤ n_39 ∧ n_39 ≤ n ∧ n_28 ≤ n_39 ∧ (¬ x_35.toInt = 0 → x_37.toInt = 0) ∧ n_42 ≤ 1600 := hw
      refine lv_aload_n hx hb dX6_readChoice_41 rfl (lv_at hl 0 rfl) ?_
      refine lv_bipush (v := 44) hx hb dX6_readChoice_42 (by decide) ?_
      have en_45 : (44 : Int32).toInt = 44 := by decide
      refine zwVv (As := [.int 44]) (rest := []) (C := RX6) (n := 1) (wr := [(h3, .inr (0, [.ref h5, .int (nI (n_42))])), (h5, .inl (D.1 13, 1600, .inl f_43))]) ⟨hx, hb, hml, hown, ht⟩ (k_X6_expectSign l D _ h0 h1 h2 h3 h4 x_35 x_36 mo x_37 x_40 x_41 n_20 n_38 n_39 n f fw 44 (by first | decide | omega) (by first | decide | omega) (by first | decide | omega) (by first | decide | omega) (by first | decide | omega)) (zgV ml_X6_158 im_X6_expectSign se_X6_expectSign in_X6 co_X6_expectSign) rfl rfl (by decide +kernel) ⟨by show 2 + 1 ≤ 40 * d + 12; omega, by show 8 + (2 + 11) + 120 ≤ 2400 * d + 720; omega⟩ hK hP hD hS hA [0, 1, 2, 3] [4, 5] rfl rfl rfl rfl (by decide) 0 rfl rfl rfl rfl hl.1 rfl (Nat.le_of_ble_eq_true rfl) dX6_readChoice_44 ⟨Nat.le_of_ble_eq_true rfl, Nat.le_of_ble_eq_true rfl⟩ (fun u_46 H locs hw hP hD hS => ?_)
      obtain ⟨x_48, x_49, x_50, n_51, n_52, x_53, x_54⟩ := u_46
      have hP : va_P D vwCl [(h3, .inr (0, [.ref h5, .int (nI (n_42))])), (h5, .inl (D.1 13, 1600, .inl f_43)), (h0, .inr (6, [.int x_48, .int x_49, .ref h1, .ref h2, .ref h3, .int mo, .int (nI (n_20)), .int x_50, .int (nI (n_51)), .int (nI (n_52)), .int x_53, .int x_54])), (h1, .inr (9, [.ref h4, .int (nI (n))])), (h4, .inl (D.1 13, 1600, .inl f)), (h2, .inl (D.1 14, 179, .inl fw))] H := hP
      have hD : va_D A [(h3, .inr (0, [.ref h5, .int (nI (n_42))])), (h5, .inl (D.1 13, 1600, .inl f_43)), (h0, .inr (6, [.int x_48, .int x_49, .ref h1, .ref h2, .ref h3, .int mo, .int (nI (n_20)), .int x_50, .int (nI (n_51)), .int (nI (n_52)), .int x_53, .int x_54])), (h1, .inr (9, [.ref h4, .int (nI (n))])), (h4, .inl (D.1 13, 1600, .inl f)), (h2, .inl (D.1 14, 179, .inl fw))] := hD
      have hw_55 : n_51 ≤ n_52 ∧ n_52 ≤ n ∧ n_39 ≤ n_52 ∧ (¬ x_48.toInt = 0 → x_50.toInt = 0) := hw
      refine lv_aload_n hx hb dX6_readChoice_47 rfl (lv_at hl 0 rfl) ?_
      obtain ⟨e_56, he_56⟩ : ∃ e, e + 1 = d := ⟨d - 1, by omega⟩
      refine zwVv (As := []) (rest := []) (C := RX6) (n := 0) (wr := []) ⟨hx, hb, hml, hown, ht⟩ ((ih e_56 he_56).1 _ h0 h1 h2 h3 h4 h5 x_48 x_49 mo x_50 x_53 x_54 n_20 n_51 n_52 n n_42 f fw f_43 (by first | decide | omega) (by first | decide | omega) (by first | decide | omega) (by first | decide | omega) (by first | decide | omega) (by first | decide | omega) (by first | decide | omega)) (zgV ml_X6_81 im_X6_readSum se_X6_readSum in_X6 co_X6_readSum) rfl rfl (by decide +kernel) ⟨by show 40 * e_56 + 28 + 1 ≤ 40 * d + 12; omega, by show 8 + (3 + 11) + (2400 * e_56 + 1680) ≤ 2400 * d + 720; omega⟩ hK hP hD hS hA [2, 3, 4, 5, 0, 1] [] rfl rfl rfl rfl (by decide) 0 rfl rfl rfl rfl hl.1 rfl (Nat.le_of_ble_eq_true rfl) dX6_readChoice_48 ⟨Nat.le_of_ble_eq_true rfl, Nat.le_of_ble_eq_true rfl⟩ (fun u_57 H locs hw hP hD hS => ?_)
      obtain ⟨x_59, x_60, x_61, n_62, n_63, x_64, x_65, n_66, f_67⟩ := u_57
      have hP : va_P D vwCl [(h0, .inr (6, [.int x_59, .int x_60, .ref h1, .ref h2, .ref h3, .int mo, .int (nI (n_20)), .int x_61, .int (nI (n_62)), .int (nI (n_63)), .int x_64, .int x_65])), (h1, .inr (9, [.ref h4, .int (nI (n))])), (h4, .inl (D.1 13, 1600, .inl f)), (h2, .inl (D.1 14, 179, .inl fw)), (h3, .inr (0, [.ref h5, .int (nI (n_66))])), (h5, .inl (D.1 13, 1600, .inl f_67))] H := hP
      have hD : va_D A [(h0, .inr (6, [.int x_59, .int x_60, .ref h1, .ref h2, .ref h3, .int mo, .int (nI (n_20)), .int x_61, .int (nI (n_62)), .int (nI (n_63)), .int x_64, .int x_65])), (h1, .inr (9, [.ref h4, .int (nI (n))])), (h4, .inl (D.1 13, 1600, .inl f)), (h2, .inl (D.1 14, 179, .inl fw)), (h3, .inr (0, [.ref h5, .int (nI (n_66))])), (h5, .inl (D.1 13, 1600, .inl f_67))] := hD
      have hw_68 : n_62 ≤ n_63 ∧ n_63 ≤ n ∧ n_52 ≤ n_63 ∧ (¬ x_59.toInt = 0 → x_61.toInt = 0) ∧ n_66 ≤ 1600 := hw
      refine lv_aload_n hx hb dX6_readChoice_51 rfl (lv_at hl 0 rfl) ?_
      refine lv_bipush (v := 41) hx hb dX6_readChoice_52 (by decide) ?_
      have en_69 : (41 : Int32).toInt = 41 := by decide
      refine zwVv (As := [.int 41]) (rest := []) (C := RX6) (n := 1) (wr := [(h3, .inr (0, [.ref h5, .int (nI (n_66))])), (h5, .inl (D.1 13, 1600, .inl f_67))]) ⟨hx, hb, hml, hown, ht⟩ (k_X6_expectSign l D _ h0 h1 h2 h3 h4 x_59 x_60 mo x_61 x_64 x_65 n_20 n_62 n_63 n f fw 41 (by first | decide | omega) (by first | decide | omega) (by first | decide | omega) (by first | decide | omega) (by first | decide | omega)) (zgV ml_X6_158 im_X6_expectSign se_X6_expectSign in_X6 co_X6_expectSign) rfl rfl (by decide +kernel) ⟨by show 2 + 1 ≤ 40 * d + 12; omega, by show 8 + (2 + 11) + 120 ≤ 2400 * d + 720; omega⟩ hK hP hD hS hA [0, 1, 2, 3] [4, 5] rfl rfl rfl rfl (by decide) 0 rfl rfl rfl rfl hl.1 rfl (Nat.le_of_ble_eq_true rfl) dX6_readChoice_54 ⟨Nat.le_of_ble_eq_true rfl, Nat.le_of_ble_eq_true rfl⟩ (fun u_70 H locs hw hP hD hS => ?_)
      obtain ⟨x_72, x_73, x_74, n_75, n_76, x_77, x_78⟩ := u_70
      have hP : va_P D vwCl [(h3, .inr (0, [.ref h5, .int (nI (n_66))])), (h5, .inl (D.1 13, 1600, .inl f_67)), (h0, .inr (6, [.int x_72, .int x_73, .ref h1, .ref h2, .ref h3, .int mo, .int (nI (n_20)), .int x_74, .int (nI (n_75)), .int (nI (n_76)), .int x_77, .int x_78])), (h1, .inr (9, [.ref h4, .int (nI (n))])), (h4, .inl (D.1 13, 1600, .inl f)), (h2, .inl (D.1 14, 179, .inl fw))] H := hP
      have hD : va_D A [(h3, .inr (0, [.ref h5, .int (nI (n_66))])), (h5, .inl (D.1 13, 1600, .inl f_67)), (h0, .inr (6, [.int x_72, .int x_73, .ref h1, .ref h2, .ref h3, .int mo, .int (nI (n_20)), .int x_74, .int (nI (n_75)), .int (nI (n_76)), .int x_77, .int x_78])), (h1, .inr (9, [.ref h4, .int (nI (n))])), (h4, .inl (D.1 13, 1600, .inl f)), (h2, .inl (D.1 14, 179, .inl fw))] := hD
      have hw_79 : n_75 ≤ n_76 ∧ n_76 ≤ n ∧ n_63 ≤ n_76 ∧ (¬ x_72.toInt = 0 → x_74.toInt = 0) := hw
      refine lv_aload_n hx hb dX6_readChoice_57 rfl (lv_at hl 0 rfl) ?_
      refine lv_dup hx hb dX6_readChoice_58 rfl ?_
      refine va_get (D := D) (ci := 6) (v := .int (nI (n_20))) (C := RX6) (T := TX6) (N := 12) hx hb ht inX6 hown hK hP 2 rfl rfl 6 (by decide) (ht (.fieldLink RX6 85 "CloneVolumes$Reader" "open" "I") fl_X6_85) (fun _ h9 => h9) rfl dX6_readChoice_59 ?_
      refine lv_iconst (v := 1) hx hb dX6_readChoice_62 (by decide) ?_
      refine lv_isub hx hb dX6_readChoice_63 ?_
      refine z_topi (y := nI (n_20 - 1)) (z_nsub (a := n_20) (b := 1) (by omega)) ?_
      refine va_put (D := D) (ci := 6) (v := .int (nI (n_20 - 1))) (ty := .int) (C := RX6) (T := TX6) (N := 12) hx hb ht inX6 tyX6 tyX6_ok nmX6 hown hK hP hD hS 2 rfl rfl 6 (by decide) (ht (.fieldLink RX6 85 "CloneVolumes$Reader" "open" "I") fl_X6_85) (fun _ h9 => h9) rfl (by decide +kernel) rfl rfl (Nat.le_of_ble_eq_true rfl) dX6_readChoice_64 (fun H locs hP hD hS => ?_)
      have hP : va_P D vwCl [(h3, .inr (0, [.ref h5, .int (nI (n_66))])), (h5, .inl (D.1 13, 1600, .inl f_67)), (h0, .inr (6, [.int x_72, .int x_73, .ref h1, .ref h2, .ref h3, .int mo, .int (nI (n_20 - 1)), .int x_74, .int (nI (n_75)), .int (nI (n_76)), .int x_77, .int x_78])), (h1, .inr (9, [.ref h4, .int (nI (n))])), (h4, .inl (D.1 13, 1600, .inl f)), (h2, .inl (D.1 14, 179, .inl fw))] H := hP
      have hD : va_D A [(h3, .inr (0, [.ref h5, .int (nI (n_66))])), (h5, .inl (D.1 13, 1600, .inl f_67)), (h0, .inr (6, [.int x_72, .int x_73, .ref h1, .ref h2, .ref h3, .int mo, .int (nI (n_20 - 1)), .int x_74, .int (nI (n_75)), .int (nI (n_76)), .int x_77, .int x_78])), (h1, .inr (9, [.ref h4, .int (nI (n))])), (h4, .inl (D.1 13, 1600, .inl f)), (h2, .inl (D.1 14, 179, .inl fw))] := hD
      refine lv_aload_n hx hb dX6_readChoice_67 rfl (lv_at hl 0 rfl) ?_
      refine va_get (D := D) (ci := 6) (v := .ref h3) (C := RX6) (T := TX6) (N := 12) hx hb ht inX6 hown hK hP 2 rfl rfl 4 (by decide) (ht (.fieldLink RX6 84 "CloneVolumes$Reader" "code" "LCloneVolumes$Code;") fl_X6_84) (fun _ h9 => h9) rfl dX6_readChoice_68 ?_
      refine lv_iload_n hx hb dX6_readChoice_71 rfl (lv_at hl 1 rfl) ?_
      refine zwVv (As := [.int p0]) (rest := []) (C := RX0) (n := 1) (wr := [(h0, .inr (6, [.int x_72, .int x_73, .ref h1, .ref h2, .ref h3, .int mo, .int (nI (n_20 - 1)), .int x_74, .int (nI (n_75)), .int (nI (n_76)), .int x_77, .int x_78])), (h1, .inr (9, [.ref h4, .int (nI (n))])), (h4, .inl (D.1 13, 1600, .inl f)), (h2, .inl (D.1 14, 179, .inl fw))]) ⟨hx, hb, hml, hown, ht⟩ (k_X0_add l D _ h3 h5 n_66 f_67 p0 (by first | decide | omega)) (zgV ml_X6_191 im_X0_add se_X0_add in_X0 co_X0_add) rfl rfl (by decide +kernel) ⟨by show 0 + 1 ≤ 40 * d + 12; omega, by show 8 + (2 + 11) + 0 ≤ 2400 * d + 720; omega⟩ hK hP hD hS hA [0, 1] [2, 3, 4, 5] rfl rfl rfl rfl (by decide) 0 rfl rfl rfl rfl hl.1 rfl (Nat.le_of_ble_eq_true rfl) dX6_readChoice_72 ⟨Nat.le_of_ble_eq_true rfl, Nat.le_of_ble_eq_true rfl⟩ (fun u_80 H locs hw hP hD hS => ?_)
      obtain ⟨n_82, f_83⟩ := u_80
      have hP : va_P D vwCl [(h0, .inr (6, [.int x_72, .int x_73, .ref h1, .ref h2, .ref h3, .int mo, .int (nI (n_20 - 1)), .int x_74, .int (nI (n_75)), .int (nI (n_76)), .int x_77, .int x_78])), (h1, .inr (9, [.ref h4, .int (nI (n))])), (h4, .inl (D.1 13, 1600, .inl f)), (h2, .inl (D.1 14, 179, .inl fw)), (h3, .inr (0, [.ref h5, .int (nI (n_82))])), (h5, .inl (D.1 13, 1600, .inl f_83))] H := hP
      have hD : va_D A [(h0, .inr (6, [.int x_72, .int x_73, .ref h1, .ref h2, .ref h3, .int mo, .int (nI (n_20 - 1)), .int x_74, .int (nI (n_75)), .int (nI (n_76)), .int x_77, .int x_78])), (h1, .inr (9, [.ref h4, .int (nI (n))])), (h4, .inl (D.1 13, 1600, .inl f)), (h2, .inl (D.1 14, 179, .inl fw)), (h3, .inr (0, [.ref h5, .int (nI (n_82))])), (h5, .inl (D.1 13, 1600, .inl f_83))] := hD
      have hw_84 : n_82 ≤ 1600 := hw
      rw [show n_20 - 1 = op by omega] at hP hD
      have hP9 := hP.sub (ws' := [(h0, .inr (6, [.int x_72, .int x_73, .ref h1, .ref h2, .ref h3, .int mo, .int (nI op), .int x_74, .int (nI n_75), .int (nI n_76), .int x_77, .int x_78])), (h1, .inr (9, [.ref h4, .int (nI n)])), (h4, .inl (D.1 13, 1600, .inl f)), (h2, .inl (D.1 14, 179, .inl fw)), (h3, .inr (0, [.ref h5, .int (nI n_82)])), (h5, .inl (D.1 13, 1600, .inl f_83))]) [0, 1, 2, 3, 4, 5] rfl
      have hD9 := hD.sub (ws' := [(h0, .inr (6, [.int x_72, .int x_73, .ref h1, .ref h2, .ref h3, .int mo, .int (nI op), .int x_74, .int (nI n_75), .int (nI n_76), .int x_77, .int x_78])), (h1, .inr (9, [.ref h4, .int (nI n)])), (h4, .inl (D.1 13, 1600, .inl f)), (h2, .inl (D.1 14, 179, .inl fw)), (h3, .inr (0, [.ref h5, .int (nI n_82)])), (h5, .inl (D.1 13, 1600, .inl f_83))]) [0, 1, 2, 3, 4, 5] (by decide) rfl
      refine W.widen (k := 0) (n := 0) (Nat.le_of_ble_eq_true rfl) (Nat.le_of_ble_eq_true rfl) ?_
      exact W.vret hx hb hr (fun t ht hW => ⟨⟨(x_72, x_73, x_74, n_75, n_76, x_77, x_78, n_82, f_83), rfl, (by first | omega | (dsimp only; omega)), by rw [ht]; exact hP9, va_K.moved hW.alike hK, hD9⟩, hS.F ht⟩) hS.2.2 dX6_readChoice_75
    · have hw_21 : (n_20 = op ∧ ¬ x_17.toInt = 0) ∧ (n_20 ≤ 6 ∧ (¬ x_17.toInt = 0 → x_19.toInt = 0)) := hw
      refine lv_if_eq (tgt := 75) hx hb dX6_readChoice_30 (by decide) (fun _ => ?_) (fun c_85 => (z_abs c_85 (by decide)).elim)
      rw [show n_20 = op by omega] at hP hD
      have hP9 := hP.sub (ws' := [(h0, .inr (6, [.int x_17, .int x_18, .ref h1, .ref h2, .ref h3, .int mo, .int (nI op), .int x_19, .int (nI n_4), .int (nI n_5), .int x_6, .int x_7])), (h1, .inr (9, [.ref h4, .int (nI n)])), (h4, .inl (D.1 13, 1600, .inl f)), (h2, .inl (D.1 14, 179, .inl fw)), (h3, .inr (0, [.ref h5, .int (nI cn)])), (h5, .inl (D.1 13, 1600, .inl fc))]) [2, 3, 4, 5, 0, 1] rfl
      have hD9 := hD.sub (ws' := [(h0, .inr (6, [.int x_17, .int x_18, .ref h1, .ref h2, .ref h3, .int mo, .int (nI op), .int x_19, .int (nI n_4), .int (nI n_5), .int x_6, .int x_7])), (h1, .inr (9, [.ref h4, .int (nI n)])), (h4, .inl (D.1 13, 1600, .inl f)), (h2, .inl (D.1 14, 179, .inl fw)), (h3, .inr (0, [.ref h5, .int (nI cn)])), (h5, .inl (D.1 13, 1600, .inl fc))]) [2, 3, 4, 5, 0, 1] (by decide) rfl
      refine W.widen (k := 0) (n := 0) (Nat.le_of_ble_eq_true rfl) (Nat.le_of_ble_eq_true rfl) ?_
      exact W.vret hx hb hr (fun t ht hW => ⟨⟨(x_17, x_18, x_19, n_4, n_5, x_6, x_7, cn, fc), rfl, (by first | omega | (dsimp only; omega)), by rw [ht]; exact hP9, va_K.moved hW.alike hK, hD9⟩, hS.F ht⟩) hS.2.2 dX6_readChoice_75
  · skip
    refine lv_if_ne (tgt := 26) hx hb dX6_readChoice_10 (by decide) (fun c_87 => (z_abs c_87 (by decide)).elim) (fun _ => ?_)
    refine lv_aload_n hx hb dX6_readChoice_13 rfl (lv_at hl 0 rfl) ?_
    refine lv_iconst (v := 1) hx hb dX6_readChoice_14 (by decide) ?_
    refine lv_aload_n hx hb dX6_readChoice_15 rfl (lv_at hl 0 rfl) ?_
    refine va_get (D := D) (ci := 6) (v := .int (nI (n_4))) (C := RX6) (T := TX6) (N := 12) hx hb ht inX6 hown hK hP 2 rfl rfl 8 (by decide) (ht (.fieldLink RX6 51 "CloneVolumes$Reader" "start" "I") fl_X6_51) (fun _ h9 => h9) rfl dX6_readChoice_16 ?_
    have en_89 : (1 : Int32).toInt = 1 := by decide
    have en_90 : (nI (n_4)).toInt = ((n_4 : Nat) : Int) := nI_toInt (by omega)
    refine zwV (As := [.int 1, .int (nI (n_4))]) (rest := []) (C := RX6) (n := 2) (wr := [(h3, .inr (0, [.ref h5, .int (nI cn)])), (h5, .inl (D.1 13, 1600, .inl fc)), (h1, .inr (9, [.ref h4, .int (nI (n))])), (h4, .inl (D.1 13, 1600, .inl f)), (h2, .inl (D.1 14, 179, .inl fw))]) ⟨hx, hb, hml, hown, ht⟩ (k_X6_fail l D _ h0 h1 h2 h3 fa pl mo x_3 x_6 x_7 op n_4 n_5 1 (nI (n_4)) (by first | decide | omega)) (zgV ml_X6_54 im_X6_fail se_X6_fail in_X6 co_X6_fail) rfl rfl (by decide +kernel) ⟨by show 0 + 1 ≤ 40 * d + 12; omega, by show 8 + (3 + 11) + 0 ≤ 2400 * d + 720; omega⟩ hK hP hD hS hA [2] [0, 1, 3, 4, 5] rfl rfl rfl rfl (by decide) 0 rfl rfl rfl rfl hl.1 rfl (Nat.le_of_ble_eq_true rfl) dX6_readChoice_19 ⟨Nat.le_of_ble_eq_true rfl, Nat.le_of_ble_eq_true rfl⟩ (fun r_92 u_91 H locs hw hP hD hS => ?_)
    obtain ⟨x_93, x_94, x_95⟩ := u_91
    have hP : va_P D vwCl [(h3, .inr (0, [.ref h5, .int (nI cn)])), (h5, .inl (D.1 13, 1600, .inl fc)), (h1, .inr (9, [.ref h4, .int (nI (n))])), (h4, .inl (D.1 13, 1600, .inl f)), (h2, .inl (D.1 14, 179, .inl fw)), (h0, .inr (6, [.int x_93, .int x_94, .ref h1, .ref h2, .ref h3, .int mo, .int (nI (op)), .int x_95, .int (nI (n_4)), .int (nI (n_5)), .int x_6, .int x_7]))] H := hP
    have hD : va_D A [(h3, .inr (0, [.ref h5, .int (nI cn)])), (h5, .inl (D.1 13, 1600, .inl fc)), (h1, .inr (9, [.ref h4, .int (nI (n))])), (h4, .inl (D.1 13, 1600, .inl f)), (h2, .inl (D.1 14, 179, .inl fw)), (h0, .inr (6, [.int x_93, .int x_94, .ref h1, .ref h2, .ref h3, .int mo, .int (nI (op)), .int x_95, .int (nI (n_4)), .int (nI (n_5)), .int x_6, .int x_7]))] := hD
    obtain ⟨hrr, hw⟩ := hw
    subst hrr
    have hw_96 : (¬ x_93.toInt = 0 → x_95.toInt = 0) ∧ (¬ (1 : Int32).toInt = 0 → ¬ x_93.toInt = 0) := hw
    refine lv_pop hx hb dX6_readChoice_22 rfl ?_
    refine lv_goto (tgt := 75) hx hb dX6_readChoice_23 (by decide) ?_
    have hP9 := hP.sub (ws' := [(h0, .inr (6, [.int x_93, .int x_94, .ref h1, .ref h2, .ref h3, .int mo, .int (nI op), .int x_95, .int (nI n_4), .int (nI n_5), .int x_6, .int x_7])), (h1, .inr (9, [.ref h4, .int (nI n)])), (h4, .inl (D.1 13, 1600, .inl f)), (h2, .inl (D.1 14, 179, .inl fw)), (h3, .inr (0, [.ref h5, .int (nI cn)])), (h5, .inl (D.1 13, 1600, .inl fc))]) [5, 2, 3, 4, 0, 1] rfl
    have hD9 := hD.sub (ws' := [(h0, .inr (6, [.int x_93, .int x_94, .ref h1, .ref h2, .ref h3, .int mo, .int (nI op), .int x_95, .int (nI n_4), .int (nI n_5), .int x_6, .int x_7])), (h1, .inr (9, [.ref h4, .int (nI n)])), (h4, .inl (D.1 13, 1600, .inl f)), (h2, .inl (D.1 14, 179, .inl fw)), (h3, .inr (0, [.ref h5, .int (nI cn)])), (h5, .inl (D.1 13, 1600, .inl fc))]) [5, 2, 3, 4, 0, 1] (by decide) rfl
    refine W.widen (k := 0) (n := 0) (Nat.le_of_ble_eq_true rfl) (Nat.le_of_ble_eq_true rfl) ?_
    exact W.vret hx hb hr (fun t ht hW => ⟨⟨(x_93, x_94, x_95, n_4, n_5, x_6, x_7, cn, fc), rfl, (by first | omega | (dsimp only; omega)), by rw [ht]; exact hP9, va_K.moved hW.alike hK, hD9⟩, hS.F ht⟩) hS.2.2 dX6_readChoice_75
set_option maxHeartbeats 4000000 in
set_option maxRecDepth 100000 in
theorem k_X6_readPart (l : Launch) (D : va_G) (sz : Nat) (h0 h1 h2 h3 h4 h5 : Nat) (fa pl mo ki wo si : Int32) (op s0 sp n cn : Nat) (f fw fc : Nat → Int32) (d : Nat) (ih : ∀ e, e + 1 = d → C_readSum l D e ∧ C_readPart l D e) (h_1 : s0 ≤ sp) (h_2 : sp ≤ n) (h_3 : n ≤ 1600) (h_4 : ¬ fa.toInt = 0 → ki.toInt = 0) (h_5 : op ≤ 6) (h_6 : cn ≤ 1600) (h_7 : 6 ≤ op + d) : Met l yX6_readPart (wz yX6_readPart cX6_readPart 1 none) { frames := 40 * d + 20, cells := 0, slots := 0, locals := 2400 * d + 1200 } (va_Pc [.ref h0] (zW D sz [(h0, .inr (6, [.int fa, .int pl, .ref h1, .ref h2, .ref h3, .int mo, .int (nI op), .int ki, .int (nI s0), .int (nI sp), .int wo, .int si])), (h1, .inr (9, [.ref h4, .int (nI n)])), (h4, .inl (D.1 13, 1600, .inl f)), (h2, .inl (D.1 14, 179, .inl fw)), (h3, .inr (0, [.ref h5, .int (nI cn)])), (h5, .inl (D.1 13, 1600, .inl fc))])) (va_Qv (fun (u : ((Int32) × (Int32) × (Int32) × (Nat) × (Nat) × (Int32) × (Int32) × (Nat) × (Nat → Int32))) => u.2.2.2.1 ≤ u.2.2.2.2.1 ∧ u.2.2.2.2.1 ≤ n ∧ sp ≤ u.2.2.2.2.1 ∧ (¬ u.1.toInt = 0 → u.2.2.1.toInt = 0) ∧ u.2.2.2.2.2.2.2.1 ≤ 1600) (fun u t => zB D (va_A [(h0, .inr (6, [.int fa, .int pl, .ref h1, .ref h2, .ref h3, .int mo, .int (nI op), .int ki, .int (nI s0), .int (nI sp), .int wo, .int si])), (h1, .inr (9, [.ref h4, .int (nI n)])), (h4, .inl (D.1 13, 1600, .inl f)), (h2, .inl (D.1 14, 179, .inl fw)), (h3, .inr (0, [.ref h5, .int (nI cn)])), (h5, .inl (D.1 13, 1600, .inl fc))] sz) ((fun (u : ((Int32) × (Int32) × (Int32) × (Nat) × (Nat) × (Int32) × (Int32) × (Nat) × (Nat → Int32))) => [(h0, .inr (6, [.int u.1, .int u.2.1, .ref h1, .ref h2, .ref h3, .int mo, .int (nI op), .int u.2.2.1, .int (nI u.2.2.2.1), .int (nI u.2.2.2.2.1), .int u.2.2.2.2.2.1, .int u.2.2.2.2.2.2.1])), (h1, .inr (9, [.ref h4, .int (nI n)])), (h4, .inl (D.1 13, 1600, .inl f)), (h2, .inl (D.1 14, 179, .inl fw)), (h3, .inr (0, [.ref h5, .int (nI u.2.2.2.2.2.2.2.1)])), (h5, .inl (D.1 13, 1600, .inl u.2.2.2.2.2.2.2.2))]) u) t) (va_A [(h0, .inr (6, [.int fa, .int pl, .ref h1, .ref h2, .ref h3, .int mo, .int (nI op), .int ki, .int (nI s0), .int (nI sp), .int wo, .int si])), (h1, .inr (9, [.ref h4, .int (nI n)])), (h4, .inl (D.1 13, 1600, .inl f)), (h2, .inl (D.1 14, 179, .inl fw)), (h3, .inr (0, [.ref h5, .int (nI cn)])), (h5, .inl (D.1 13, 1600, .inl fc))] sz)) 0 0 (va_A [(h0, .inr (6, [.int fa, .int pl, .ref h1, .ref h2, .ref h3, .int mo, .int (nI op), .int ki, .int (nI s0), .int (nI sp), .int wo, .int si])), (h1, .inr (9, [.ref h4, .int (nI n)])), (h4, .inl (D.1 13, 1600, .inl f)), (h2, .inl (D.1 14, 179, .inl fw)), (h3, .inr (0, [.ref h5, .int (nI cn)])), (h5, .inl (D.1 13, 1600, .inl fc))] sz) := by
  refine Met.ofW (cc := cX6_readPart) (maxL := 1) (ret := none) (by decide) rfl ?_
  intro p e s m args below meth c s₁ B hml hv
  obtain ⟨rfl, hsz, hP, hK, hD0⟩ := hv
  have hx := B.exec
  have hb := B.bytes
  have hr := B.returns
  have hts := atoms_spec (ws := wz yX6_readPart cX6_readPart 1 none) B.pre
  have ht : ∀ w ∈ lw_gd, w.before _ s = true := fun w h => hts w (List.mem_cons_of_mem _ h)
  have hown : s.vm.findClass RX6 = some m.cls := findClass_of_methodNamed B.named
  have hlocks := B.notSynchronized
  subst hsz
  have hD := hD0.self (sz := s.heap.size)
  generalize hAe : va_A [(h0, .inr (6, [.int fa, .int pl, .ref h1, .ref h2, .ref h3, .int mo, .int (nI op), .int ki, .int (nI s0), .int (nI sp), .int wo, .int si])), (h1, .inr (9, [.ref h4, .int (nI n)])), (h4, .inl (D.1 13, 1600, .inl f)), (h2, .inl (D.1 14, 179, .inl fw)), (h3, .inr (0, [.ref h5, .int (nI cn)])), (h5, .inl (D.1 13, 1600, .inl fc))] s.heap.size = A at hD ⊢
  have hA : ∀ q : Nat, s.heap.size ≤ q → A q := fun q h => by rw [← hAe]; exact Or.inr h
  have hS : va_S A s.heap s.heap [] := va_S.rf
  have zi0 : (0 : Int32).toInt = 0 := rfl
  have zi1 : (1 : Int32).toInt = 1 := rfl
  have zi2 : (2 : Int32).toInt = 2 := rfl
  have zi3 : (3 : Int32).toInt = 3 := rfl
  have zi4 : (4 : Int32).toInt = 4 := rfl
  have hl := lv_entry ([.ref h0]) (n := 1) (Nat.le_of_ble_eq_true rfl)
  rw [lg_entry_eq]
  generalize (lg_sl ([.ref h0]) ++ List.replicate (1 - (lg_sl ([.ref h0])).length) Slot.unset).toArray = ls at hl ⊢
  have hl : lv_has ls 1 [(0, .ref h0)] := hl
  refine lv_aload_n hx hb dX6_readPart_0 rfl (lv_at hl 0 rfl) ?_
  refine va_get (D := D) (ci := 6) (v := .int ki) (C := RX6) (T := TX6) (N := 12) hx hb ht inX6 hown hK hP 0 rfl rfl 7 (by decide) (ht (.fieldLink RX6 44 "CloneVolumes$Reader" "kind" "I") fl_X6_44) (fun _ h9 => h9) rfl dX6_readPart_1 ?_
  refine lv_iconst (v := 2) hx hb dX6_readPart_4 (by decide) ?_
  refine lv_icmp_ne (tgt := 25) hx hb dX6_readPart_5 (by decide) (fun c_1 => ?_) (fun c_1 => ?_)
  · have g_2 : ¬ ki.toInt = 2 := z_ne rfl (by decide) c_1
    refine lv_aload_n hx hb dX6_readPart_25 rfl (lv_at hl 0 rfl) ?_
    refine lv_bipush (v := 40) hx hb dX6_readPart_26 (by decide) ?_
    have en_3 : (40 : Int32).toInt = 40 := by decide
    refine zcV (As := [.int 40]) (rest := []) (C := RX6) (n := 1) ⟨hx, hb, hml, hown, ht⟩ (k_X6_isSign l D h0 h1 h2 h3 fa pl mo ki wo si op s0 sp 40) (zgV ml_X6_124 im_X6_isSign se_X6_isSign in_X6 co_X6_isSign) rfl rfl (by decide +kernel) ⟨by show 0 + 1 ≤ 40 * d + 20; omega, by show 8 + (2 + 11) + 0 ≤ 2400 * d + 1200; omega⟩ hK hP hS [0] rfl 0 rfl rfl rfl rfl hl.1 rfl (Nat.le_of_ble_eq_true rfl) dX6_readPart_28 ⟨Nat.le_of_ble_eq_true rfl, Nat.le_of_ble_eq_true rfl⟩ (fun r_4 H locs hw hP hS => ?_)
    rcases hw with ⟨rfl, g_5⟩ | ⟨rfl, g_6⟩
    · skip
      refine lv_if_eq (tgt := 68) hx hb dX6_readPart_31 (by decide) (fun c_7 => (z_abs c_7 (by decide)).elim) (fun _ => ?_)
      refine lv_aload_n hx hb dX6_readPart_34 rfl (lv_at hl 0 rfl) ?_
      refine zwV (As := []) (rest := []) (C := RX6) (n := 0) (wr := [(h3, .inr (0, [.ref h5, .int (nI cn)])), (h5, .inl (D.1 13, 1600, .inl fc))]) ⟨hx, hb, hml, hown, ht⟩ (k_X6_opens l D _ h0 h1 h2 h3 h4 fa pl mo ki wo si op s0 sp n f fw (by first | decide | omega) (by first | decide | omega) (by first | decide | omega) (by first | decide | omega) (by first | decide | omega)) (zgV ml_X6_197 im_X6_opens se_X6_opens in_X6 co_X6_opens) rfl rfl (by decide +kernel) ⟨by show 1 + 1 ≤ 40 * d + 20; omega, by show 8 + (1 + 11) + 60 ≤ 2400 * d + 1200; omega⟩ hK hP hD hS hA [0, 1, 2, 3] [4, 5] rfl rfl rfl rfl (by decide) 0 rfl rfl rfl rfl hl.1 rfl (Nat.le_of_ble_eq_true rfl) dX6_readPart_35 ⟨Nat.le_of_ble_eq_true rfl, Nat.le_of_ble_eq_true rfl⟩ (fun r_10 u_9 H locs hw hP hD hS => ?_)
      obtain ⟨x_11, x_12, x_13, n_14⟩ := u_9
      have hP : va_P D vwCl [(h3, .inr (0, [.ref h5, .int (nI cn)])), (h5, .inl (D.1 13, 1600, .inl fc)), (h0, .inr (6, [.int x_11, .int x_12, .ref h1, .ref h2, .ref h3, .int mo, .int (nI (n_14)), .int x_13, .int (nI (s0)), .int (nI (sp)), .int wo, .int si])), (h1, .inr (9, [.ref h4, .int (nI (n))])), (h4, .inl (D.1 13, 1600, .inl f)), (h2, .inl (D.1 14, 179, .inl fw))] H := hP
      have hD : va_D A [(h3, .inr (0, [.ref h5, .int (nI cn)])), (h5, .inl (D.1 13, 1600, .inl fc)), (h0, .inr (6, [.int x_11, .int x_12, .ref h1, .ref h2, .ref h3, .int mo, .int (nI (n_14)), .int x_13, .int (nI (s0)), .int (nI (sp)), .int wo, .int si])), (h1, .inr (9, [.ref h4, .int (nI (n))])), (h4, .inl (D.1 13, 1600, .inl f)), (h2, .inl (D.1 14, 179, .inl fw))] := hD
      rcases hw with ⟨rfl, hw⟩ | ⟨rfl, hw⟩
      · have hw_15 : (n_14 = op + 1 ∧ op < 6) ∧ (n_14 ≤ 6 ∧ (¬ x_11.toInt = 0 → x_13.toInt = 0)) := hw
        refine lv_if_eq (tgt := 196) hx hb dX6_readPart_38 (by decide) (fun c_16 => (z_abs c_16 (by decide)).elim) (fun _ => ?_)
        refine lv_aload_n hx hb dX6_readPart_41 rfl (lv_at hl 0 rfl) ?_
        refine zwVv (As := []) (rest := []) (C := RX6) (n := 0) (wr := [(h3, .inr (0, [.ref h5, .int (nI cn)])), (h5, .inl (D.1 13, 1600, .inl fc))]) ⟨hx, hb, hml, hown, ht⟩ (k_X6_advance l D _ h0 h1 h2 h3 h4 x_11 x_12 mo x_13 wo si n_14 s0 sp n f fw (by first | decide | omega) (by first | decide | omega) (by first | decide | omega) (by first | decide | omega)) (zgV ml_X6_75 im_X6_advance se_X6_advance in_X6 co_X6_advance) rfl rfl (by decide +kernel) ⟨by show 1 + 1 ≤ 40 * d + 20; omega, by show 8 + (2 + 11) + 60 ≤ 2400 * d + 1200; omega⟩ hK hP hD hS hA [2, 3, 4, 5] [0, 1] rfl rfl rfl rfl (by decide) 0 rfl rfl rfl rfl hl.1 rfl (Nat.le_of_ble_eq_true rfl) dX6_readPart_42 ⟨Nat.le_of_ble_eq_true rfl, Nat.le_of_ble_eq_true rfl⟩ (fun u_18 H locs hw hP hD hS => ?_)
        obtain ⟨x_20, n_21, n_22, x_23, x_24⟩ := u_18
        have hP : va_P D vwCl [(h3, .inr (0, [.ref h5, .int (nI cn)])), (h5, .inl (D.1 13, 1600, .inl fc)), (h0, .inr (6, [.int x_11, .int x_12, .ref h1, .ref h2, .ref h3, .int mo, .int (nI (n_14)), .int x_20, .int (nI (n_21)), .int (nI (n_22)), .int x_23, .int x_24])), (h1, .inr (9, [.ref h4, .int (nI (n))])), (h4, .inl (D.1 13, 1600, .inl f)), (h2, .inl (D.1 14, 179, .inl fw))] H := hP
        have hD : va_D A [(h3, .inr (0, [.ref h5, .int (nI cn)])), (h5, .inl (D.1 13, 1600, .inl fc)), (h0, .inr (6, [.int x_11, .int x_12, .ref h1, .ref h2, .ref h3, .int mo, .int (nI (n_14)), .int x_20, .int (nI (n_21)), .int (nI (n_22)), .int x_23, .int x_24])), (h1, .inr (9, [.ref h4, .int (nI (n))])), (h4, .inl (D.1 13, 1600, .inl f)), (h2, .inl (D.1 14, 179, .inl fw))] := hD
        have hw_25 : n_21 ≤ n_22 ∧ n_22 ≤ n ∧ sp ≤ n_22 ∧ (x_20.toInt = 0 ∨ (sp < n_22 ∧ n_21 < n_22)) ∧ (¬ x_11.toInt = 0 → x_20.toInt = 0) := hw
        refine lv_aload_n hx hb dX6_readPart_45 rfl (lv_at hl 0 rfl) ?_
        obtain ⟨e_26, he_26⟩ : ∃ e, e + 1 = d := ⟨d - 1, by omega⟩
        refine zwVv (As := []) (rest := []) (C := RX6) (n := 0) (wr := []) ⟨hx, hb, hml, hown, ht⟩ ((ih e_26 he_26).1 _ h0 h1 h2 h3 h4 h5 x_11 x_12 mo x_20 x_23 x_24 n_14 n_21 n_22 n cn f fw fc (by first | decide | omega) (by first | decide | omega) (by first | decide | omega) (by first | decide | omega) (by first | decide | omega) (by first | decide | omega) (by first | decide | omega)) (zgV ml_X6_81 im_X6_readSum se_X6_readSum in_X6 co_X6_readSum) rfl rfl (by decide +kernel) ⟨by show 40 * e_26 + 28 + 1 ≤ 40 * d + 20; omega, by show 8 + (3 + 11) + (2400 * e_26 + 1680) ≤ 2400 * d + 1200; omega⟩ hK hP hD hS hA [2, 3, 4, 5, 0, 1] [] rfl rfl rfl rfl (by decide) 0 rfl rfl rfl rfl hl.1 rfl (Nat.le_of_ble_eq_true rfl) dX6_readPart_46 ⟨Nat.le_of_ble_eq_true rfl, Nat.le_of_ble_eq_true rfl⟩ (fun u_27 H locs hw hP hD hS => ?_)
        obtain ⟨x_29, x_30, x_31, n_32, n_33, x_34, x_35, n_36, f_37⟩ := u_27
        have hP : va_P D vwCl [(h0, .inr (6, [.int x_29, .int x_30, .ref h1, .ref h2, .ref h3, .int mo, .int (nI (n_14)), .int x_31, .int (nI (n_32)), .int (nI (n_33)), .int x_34, .int x_35])), (h1, .inr (9, [.ref h4, .int (nI (n))])), (h4, .inl (D.1 13, 1600, .inl f)), (h2, .inl (D.1 14, 179, .inl fw)), (h3, .inr (0, [.ref h5, .int (nI (n_36))])), (h5, .inl (D.1 13, 1600, .inl f_37))] H := hP
        have hD : va_D A [(h0, .inr (6, [.int x_29, .int x_30, .ref h1, .ref h2, .ref h3, .int mo, .int (nI (n_14)), .int x_31, .int (nI (n_32)), .int (nI (n_33)), .int x_34, .int x_35])), (h1, .inr (9, [.ref h4, .int (nI (n))])), (h4, .inl (D.1 13, 1600, .inl f)), (h2, .inl (D.1 14, 179, .inl fw)), (h3, .inr (0, [.ref h5, .int (nI (n_36))])), (h5, .inl (D.1 13, 1600, .inl f_37))] := hD
        have hw_38 : n_32 ≤ n_33 ∧ n_33 ≤ n ∧ n_22 ≤ n_33 ∧ (¬ x_29.toInt = 0 → x_31.toInt = 0) ∧ n_36 ≤ 1600 := hw
        refine lv_aload_n hx hb dX6_readPart_49 rfl (lv_at hl 0 rfl) ?_
        refine lv_bipush (v := 41) hx hb dX6_readPart_50 (by decide) ?_
        have en_39 : (41 : Int32).toInt = 41 := by decide
        refine zwVv (As := [.int 41]) (rest := []) (C := RX6) (n := 1) (wr := [(h3, .inr (0, [.ref h5, .int (nI (n_36))])), (h5, .inl (D.1 13, 1600, .inl f_37))]) ⟨hx, hb, hml, hown, ht⟩ (k_X6_expectSign l D _ h0 h1 h2 h3 h4 x_29 x_30 mo x_31 x_34 x_35 n_14 n_32 n_33 n f fw 41 (by first | decide | omega) (by first | decide | omega) (by first | decide | omega) (by first | decide | omega) (by first | decide | omega)) (zgV ml_X6_158 im_X6_expectSign se_X6_expectSign in_X6 co_X6_expectSign) rfl rfl (by decide +kernel) ⟨by show 2 + 1 ≤ 40 * d + 20; omega, by show 8 + (2 + 11) + 120 ≤ 2400 * d + 1200; omega⟩ hK hP hD hS hA [0, 1, 2, 3] [4, 5] rfl rfl rfl rfl (by decide) 0 rfl rfl rfl rfl hl.1 rfl (Nat.le_of_ble_eq_true rfl) dX6_readPart_52 ⟨Nat.le_of_ble_eq_true rfl, Nat.le_of_ble_eq_true rfl⟩ (fun u_40 H locs hw hP hD hS => ?_)
        obtain ⟨x_42, x_43, x_44, n_45, n_46, x_47, x_48⟩ := u_40
        have hP : va_P D vwCl [(h3, .inr (0, [.ref h5, .int (nI (n_36))])), (h5, .inl (D.1 13, 1600, .inl f_37)), (h0, .inr (6, [.int x_42, .int x_43, .ref h1, .ref h2, .ref h3, .int mo, .int (nI (n_14)), .int x_44, .int (nI (n_45)), .int (nI (n_46)), .int x_47, .int x_48])), (h1, .inr (9, [.ref h4, .int (nI (n))])), (h4, .inl (D.1 13, 1600, .inl f)), (h2, .inl (D.1 14, 179, .inl fw))] H := hP
        have hD : va_D A [(h3, .inr (0, [.ref h5, .int (nI (n_36))])), (h5, .inl (D.1 13, 1600, .inl f_37)), (h0, .inr (6, [.int x_42, .int x_43, .ref h1, .ref h2, .ref h3, .int mo, .int (nI (n_14)), .int x_44, .int (nI (n_45)), .int (nI (n_46)), .int x_47, .int x_48])), (h1, .inr (9, [.ref h4, .int (nI (n))])), (h4, .inl (D.1 13, 1600, .inl f)), (h2, .inl (D.1 14, 179, .inl fw))] := hD
        have hw_49 : n_45 ≤ n_46 ∧ n_46 ≤ n ∧ n_33 ≤ n_46 ∧ (¬ x_42.toInt = 0 → x_44.toInt = 0) := hw
        refine lv_aload_n hx hb dX6_readPart_55 rfl (lv_at hl 0 rfl) ?_
        refine lv_dup hx hb dX6_readPart_56 rfl ?_
        refine va_get (D := D) (ci := 6) (v := .int (nI (n_14))) (C := RX6) (T := TX6) (N := 12) hx hb ht inX6 hown hK hP 2 rfl rfl 6 (by decide) (ht (.fieldLink RX6 85 "CloneVolumes$Reader" "open" "I") fl_X6_85) (fun _ h9 => h9) rfl dX6_readPart_57 ?_
        refine lv_iconst (v := 1) hx hb dX6_readPart_60 (by decide) ?_
        refine lv_isub hx hb dX6_readPart_61 ?_
        refine z_topi (y := nI (n_14 - 1)) (z_nsub (a := n_14) (b := 1) (by omega)) ?_
        refine va_put (D := D) (ci := 6) (v := .int (nI (n_14 - 1))) (ty := .int) (C := RX6) (T := TX6) (N := 12) hx hb ht inX6 tyX6 tyX6_ok nmX6 hown hK hP hD hS 2 rfl rfl 6 (by decide) (ht (.fieldLink RX6 85 "CloneVolumes$Reader" "open" "I") fl_X6_85) (fun _ h9 => h9) rfl (by decide +kernel) rfl rfl (Nat.le_of_ble_eq_true rfl) dX6_readPart_62 (fun H locs hP hD hS => ?_)
        have hP : va_P D vwCl [(h3, .inr (0, [.ref h5, .int (nI (n_36))])), (h5, .inl (D.1 13, 1600, .inl f_37)), (h0, .inr (6, [.int x_42, .int x_43, .ref h1, .ref h2, .ref h3, .int mo, .int (nI (n_14 - 1)), .int x_44, .int (nI (n_45)), .int (nI (n_46)), .int x_47, .int x_48])), (h1, .inr (9, [.ref h4, .int (nI (n))])), (h4, .inl (D.1 13, 1600, .inl f)), (h2, .inl (D.1 14, 179, .inl fw))] H := hP
        have hD : va_D A [(h3, .inr (0, [.ref h5, .int (nI (n_36))])), (h5, .inl (D.1 13, 1600, .inl f_37)), (h0, .inr (6, [.int x_42, .int x_43, .ref h1, .ref h2, .ref h3, .int mo, .int (nI (n_14 - 1)), .int x_44, .int (nI (n_45)), .int (nI (n_46)), .int x_47, .int x_48])), (h1, .inr (9, [.ref h4, .int (nI (n))])), (h4, .inl (D.1 13, 1600, .inl f)), (h2, .inl (D.1 14, 179, .inl fw))] := hD
        refine lv_goto (tgt := 196) hx hb dX6_readPart_65 (by decide) ?_
        rw [show n_14 - 1 = op by omega] at hP hD
        have hP9 := hP.sub (ws' := [(h0, .inr (6, [.int x_42, .int x_43, .ref h1, .ref h2, .ref h3, .int mo, .int (nI op), .int x_44, .int (nI n_45), .int (nI n_46), .int x_47, .int x_48])), (h1, .inr (9, [.ref h4, .int (nI n)])), (h4, .inl (D.1 13, 1600, .inl f)), (h2, .inl (D.1 14, 179, .inl fw)), (h3, .inr (0, [.ref h5, .int (nI n_36)])), (h5, .inl (D.1 13, 1600, .inl f_37))]) [2, 3, 4, 5, 0, 1] rfl
        have hD9 := hD.sub (ws' := [(h0, .inr (6, [.int x_42, .int x_43, .ref h1, .ref h2, .ref h3, .int mo, .int (nI op), .int x_44, .int (nI n_45), .int (nI n_46), .int x_47, .int x_48])), (h1, .inr (9, [.ref h4, .int (nI n)])), (h4, .inl (D.1 13, 1600, .inl f)), (h2, .inl (D.1 14, 179, .inl fw)), (h3, .inr (0, [.ref h5, .int (nI n_36)])), (h5, .inl (D.1 13, 1600, .inl f_37))]) [2, 3, 4, 5, 0, 1] (by decide) rfl
        refine W.widen (k := 0) (n := 0) (Nat.le_of_ble_eq_true rfl) (Nat.le_of_ble_eq_true rfl) ?_
        exact W.vret hx hb hr (fun t ht hW => ⟨⟨(x_42, x_43, x_44, n_45, n_46, x_47, x_48, n_36, f_37), rfl, (by first | omega | (dsimp only; omega)), by rw [ht]; exact hP9, va_K.moved hW.alike hK, hD9⟩, hS.F ht⟩) hS.2.2 dX6_readPart_196
      · have hw_15 : (n_14 = op ∧ ¬ x_11.toInt = 0) ∧ (n_14 ≤ 6 ∧ (¬ x_11.toInt = 0 → x_13.toInt = 0)) := hw
        refine lv_if_eq (tgt := 196) hx hb dX6_readPart_38 (by decide) (fun _ => ?_) (fun c_50 => (z_abs c_50 (by decide)).elim)
        rw [show n_14 = op by omega] at hP hD
        have hP9 := hP.sub (ws' := [(h0, .inr (6, [.int x_11, .int x_12, .ref h1, .ref h2, .ref h3, .int mo, .int (nI op), .int x_13, .int (nI s0), .int (nI sp), .int wo, .int si])), (h1, .inr (9, [.ref h4, .int (nI n)])), (h4, .inl (D.1 13, 1600, .inl f)), (h2, .inl (D.1 14, 179, .inl fw)), (h3, .inr (0, [.ref h5, .int (nI cn)])), (h5, .inl (D.1 13, 1600, .inl fc))]) [2, 3, 4, 5, 0, 1] rfl
        have hD9 := hD.sub (ws' := [(h0, .inr (6, [.int x_11, .int x_12, .ref h1, .ref h2, .ref h3, .int mo, .int (nI op), .int x_13, .int (nI s0), .int (nI sp), .int wo, .int si])), (h1, .inr (9, [.ref h4, .int (nI n)])), (h4, .inl (D.1 13, 1600, .inl f)), (h2, .inl (D.1 14, 179, .inl fw)), (h3, .inr (0, [.ref h5, .int (nI cn)])), (h5, .inl (D.1 13, 1600, .inl fc))]) [2, 3, 4, 5, 0, 1] (by decide) rfl
        refine W.widen (k := 0) (n := 0) (Nat.le_of_ble_eq_true rfl) (Nat.le_of_ble_eq_true rfl) ?_
        exact W.vret hx hb hr (fun t ht hW => ⟨⟨(x_11, x_12, x_13, s0, sp, wo, si, cn, fc), rfl, (by first | omega | (dsimp only; omega)), by rw [ht]; exact hP9, va_K.moved hW.alike hK, hD9⟩, hS.F ht⟩) hS.2.2 dX6_readPart_196
    · skip
      refine lv_if_eq (tgt := 68) hx hb dX6_readPart_31 (by decide) (fun _ => ?_) (fun c_52 => (z_abs c_52 (by decide)).elim)
      refine lv_aload_n hx hb dX6_readPart_68 rfl (lv_at hl 0 rfl) ?_
      refine lv_bipush (v := 25) hx hb dX6_readPart_69 (by decide) ?_
      have en_54 : (25 : Int32).toInt = 25 := by decide
      refine zcV (As := [.int 25]) (rest := []) (C := RX6) (n := 1) ⟨hx, hb, hml, hown, ht⟩ (k_X6_isWord l D h0 h1 h2 h3 fa pl mo ki wo si op s0 sp 25) (zgV ml_X6_121 im_X6_isWord se_X6_isWord in_X6 co_X6_isWord) rfl rfl (by decide +kernel) ⟨by show 0 + 1 ≤ 40 * d + 20; omega, by show 8 + (2 + 11) + 0 ≤ 2400 * d + 1200; omega⟩ hK hP hS [0] rfl 0 rfl rfl rfl rfl hl.1 rfl (Nat.le_of_ble_eq_true rfl) dX6_readPart_71 ⟨Nat.le_of_ble_eq_true rfl, Nat.le_of_ble_eq_true rfl⟩ (fun r_55 H locs hw hP hS => ?_)
      rcases hw with ⟨rfl, g_56⟩ | ⟨rfl, g_57⟩
      · skip
        refine lv_if_ne (tgt := 86) hx hb dX6_readPart_74 (by decide) (fun _ => ?_) (fun c_58 => (z_abs c_58 (by decide)).elim)
        refine lv_aload_n hx hb dX6_readPart_86 rfl (lv_at hl 0 rfl) ?_
        refine lv_aload_n hx hb dX6_readPart_87 rfl (lv_at hl 0 rfl) ?_
        refine lv_bipush (v := 25) hx hb dX6_readPart_88 (by decide) ?_
        have en_60 : (25 : Int32).toInt = 25 := by decide
        refine zcV (As := [.int 25]) (rest := [.ref h0]) (C := RX6) (n := 1) ⟨hx, hb, hml, hown, ht⟩ (k_X6_isWord l D h0 h1 h2 h3 fa pl mo ki wo si op s0 sp 25) (zgV ml_X6_121 im_X6_isWord se_X6_isWord in_X6 co_X6_isWord) rfl rfl (by decide +kernel) ⟨by show 0 + 1 ≤ 40 * d + 20; omega, by show 8 + (2 + 11) + 0 ≤ 2400 * d + 1200; omega⟩ hK hP hS [0] rfl 0 rfl rfl rfl rfl hl.1 rfl (Nat.le_of_ble_eq_true rfl) dX6_readPart_90 ⟨Nat.le_of_ble_eq_true rfl, Nat.le_of_ble_eq_true rfl⟩ (fun r_61 H locs hw hP hS => ?_)
        rcases hw with ⟨rfl, g_62⟩ | ⟨rfl, g_63⟩
        · skip
          refine lv_if_eq (tgt := 101) hx hb dX6_readPart_93 (by decide) (fun c_64 => (z_abs c_64 (by decide)).elim) (fun _ => ?_)
          refine lv_bipush (v := (-5)) hx hb dX6_readPart_96 (by decide) ?_
          refine lv_goto (tgt := 103) hx hb dX6_readPart_98 (by decide) ?_
          have en_66 : ((-5) : Int32).toInt = (-5) := by decide
          refine zwVv (As := [.int (-5)]) (rest := []) (C := RX6) (n := 1) (wr := []) ⟨hx, hb, hml, hown, ht⟩ (k_X6_readChoice l D _ h0 h1 h2 h3 h4 h5 fa pl mo ki wo si op s0 sp n cn f fw fc d ih (-5) (by first | decide | omega) (by first | decide | omega) (by first | decide | omega) (by first | decide | omega) (by first | decide | omega) (by first | decide | omega) (by first | decide | omega)) (zgV ml_X6_210 im_X6_readChoice se_X6_readChoice in_X6 co_X6_readChoice) rfl rfl (by decide +kernel) ⟨by show 40 * d + 12 + 1 ≤ 40 * d + 20; omega, by show 8 + (2 + 11) + (2400 * d + 720) ≤ 2400 * d + 1200; omega⟩ hK hP hD hS hA [0, 1, 2, 3, 4, 5] [] rfl rfl rfl rfl (by decide) 0 rfl rfl rfl rfl hl.1 rfl (Nat.le_of_ble_eq_true rfl) dX6_readPart_103 ⟨Nat.le_of_ble_eq_true rfl, Nat.le_of_ble_eq_true rfl⟩ (fun u_67 H locs hw hP hD hS => ?_)
          obtain ⟨x_69, x_70, x_71, n_72, n_73, x_74, x_75, n_76, f_77⟩ := u_67
          have hP : va_P D vwCl [(h0, .inr (6, [.int x_69, .int x_70, .ref h1, .ref h2, .ref h3, .int mo, .int (nI (op)), .int x_71, .int (nI (n_72)), .int (nI (n_73)), .int x_74, .int x_75])), (h1, .inr (9, [.ref h4, .int (nI (n))])), (h4, .inl (D.1 13, 1600, .inl f)), (h2, .inl (D.1 14, 179, .inl fw)), (h3, .inr (0, [.ref h5, .int (nI (n_76))])), (h5, .inl (D.1 13, 1600, .inl f_77))] H := hP
          have hD : va_D A [(h0, .inr (6, [.int x_69, .int x_70, .ref h1, .ref h2, .ref h3, .int mo, .int (nI (op)), .int x_71, .int (nI (n_72)), .int (nI (n_73)), .int x_74, .int x_75])), (h1, .inr (9, [.ref h4, .int (nI (n))])), (h4, .inl (D.1 13, 1600, .inl f)), (h2, .inl (D.1 14, 179, .inl fw)), (h3, .inr (0, [.ref h5, .int (nI (n_76))])), (h5, .inl (D.1 13, 1600, .inl f_77))] := hD
          have hw_78 : n_72 ≤ n_73 ∧ n_73 ≤ n ∧ sp ≤ n_73 ∧ (¬ x_69.toInt = 0 → x_71.toInt = 0) ∧ n_76 ≤ 1600 := hw
          refine lv_goto (tgt := 196) hx hb dX6_readPart_106 (by decide) ?_
          have hP9 := hP.sub (ws' := [(h0, .inr (6, [.int x_69, .int x_70, .ref h1, .ref h2, .ref h3, .int mo, .int (nI op), .int x_71, .int (nI n_72), .int (nI n_73), .int x_74, .int x_75])), (h1, .inr (9, [.ref h4, .int (nI n)])), (h4, .inl (D.1 13, 1600, .inl f)), (h2, .inl (D.1 14, 179, .inl fw)), (h3, .inr (0, [.ref h5, .int (nI n_76)])), (h5, .inl (D.1 13, 1600, .inl f_77))]) [0, 1, 2, 3, 4, 5] rfl
          have hD9 := hD.sub (ws' := [(h0, .inr (6, [.int x_69, .int x_70, .ref h1, .ref h2, .ref h3, .int mo, .int (nI op), .int x_71, .int (nI n_72), .int (nI n_73), .int x_74, .int x_75])), (h1, .inr (9, [.ref h4, .int (nI n)])), (h4, .inl (D.1 13, 1600, .inl f)), (h2, .inl (D.1 14, 179, .inl fw)), (h3, .inr (0, [.ref h5, .int (nI n_76)])), (h5, .inl (D.1 13, 1600, .inl f_77))]) [0, 1, 2, 3, 4, 5] (by decide) rfl
          refine W.widen (k := 0) (n := 0) (Nat.le_of_ble_eq_true rfl) (Nat.le_of_ble_eq_true rfl) ?_
          exact W.vret hx hb hr (fun t ht hW => ⟨⟨(x_69, x_70, x_71, n_72, n_73, x_74, x_75, n_76, f_77), rfl, (by first | omega | (dsimp only; omega)), by rw [ht]; exact hP9, va_K.moved hW.alike hK, hD9⟩, hS.F ht⟩) hS.2.2 dX6_readPart_196
        · skip
          refine lv_if_eq (tgt := 101) hx hb dX6_readPart_93 (by decide) (fun _ => ?_) (fun c_79 => (z_abs c_79 (by decide)).elim)
          refine lv_bipush (v := (-6)) hx hb dX6_readPart_101 (by decide) ?_
          have en_81 : ((-6) : Int32).toInt = (-6) := by decide
          refine zwVv (As := [.int (-6)]) (rest := []) (C := RX6) (n := 1) (wr := []) ⟨hx, hb, hml, hown, ht⟩ (k_X6_readChoice l D _ h0 h1 h2 h3 h4 h5 fa pl mo ki wo si op s0 sp n cn f fw fc d ih (-6) (by first | decide | omega) (by first | decide | omega) (by first | decide | omega) (by first | decide | omega) (by first | decide | omega) (by first | decide | omega) (by first | decide | omega)) (zgV ml_X6_210 im_X6_readChoice se_X6_readChoice in_X6 co_X6_readChoice) rfl rfl (by decide +kernel) ⟨by show 40 * d + 12 + 1 ≤ 40 * d + 20; omega, by show 8 + (2 + 11) + (2400 * d + 720) ≤ 2400 * d + 1200; omega⟩ hK hP hD hS hA [0, 1, 2, 3, 4, 5] [] rfl rfl rfl rfl (by decide) 0 rfl rfl rfl rfl hl.1 rfl (Nat.le_of_ble_eq_true rfl) dX6_readPart_103 ⟨Nat.le_of_ble_eq_true rfl, Nat.le_of_ble_eq_true rfl⟩ (fun u_82 H locs hw hP hD hS => ?_)
          obtain ⟨x_84, x_85, x_86, n_87, n_88, x_89, x_90, n_91, f_92⟩ := u_82
          have hP : va_P D vwCl [(h0, .inr (6, [.int x_84, .int x_85, .ref h1, .ref h2, .ref h3, .int mo, .int (nI (op)), .int x_86, .int (nI (n_87)), .int (nI (n_88)), .int x_89, .int x_90])), (h1, .inr (9, [.ref h4, .int (nI (n))])), (h4, .inl (D.1 13, 1600, .inl f)), (h2, .inl (D.1 14, 179, .inl fw)), (h3, .inr (0, [.ref h5, .int (nI (n_91))])), (h5, .inl (D.1 13, 1600, .inl f_92))] H := hP
          have hD : va_D A [(h0, .inr (6, [.int x_84, .int x_85, .ref h1, .ref h2, .ref h3, .int mo, .int (nI (op)), .int x_86, .int (nI (n_87)), .int (nI (n_88)), .int x_89, .int x_90])), (h1, .inr (9, [.ref h4, .int (nI (n))])), (h4, .inl (D.1 13, 1600, .inl f)), (h2, .inl (D.1 14, 179, .inl fw)), (h3, .inr (0, [.ref h5, .int (nI (n_91))])), (h5, .inl (D.1 13, 1600, .inl f_92))] := hD
          have hw_93 : n_87 ≤ n_88 ∧ n_88 ≤ n ∧ sp ≤ n_88 ∧ (¬ x_84.toInt = 0 → x_86.toInt = 0) ∧ n_91 ≤ 1600 := hw
          refine lv_goto (tgt := 196) hx hb dX6_readPart_106 (by decide) ?_
          have hP9 := hP.sub (ws' := [(h0, .inr (6, [.int x_84, .int x_85, .ref h1, .ref h2, .ref h3, .int mo, .int (nI op), .int x_86, .int (nI n_87), .int (nI n_88), .int x_89, .int x_90])), (h1, .inr (9, [.ref h4, .int (nI n)])), (h4, .inl (D.1 13, 1600, .inl f)), (h2, .inl (D.1 14, 179, .inl fw)), (h3, .inr (0, [.ref h5, .int (nI n_91)])), (h5, .inl (D.1 13, 1600, .inl f_92))]) [0, 1, 2, 3, 4, 5] rfl
          have hD9 := hD.sub (ws' := [(h0, .inr (6, [.int x_84, .int x_85, .ref h1, .ref h2, .ref h3, .int mo, .int (nI op), .int x_86, .int (nI n_87), .int (nI n_88), .int x_89, .int x_90])), (h1, .inr (9, [.ref h4, .int (nI n)])), (h4, .inl (D.1 13, 1600, .inl f)), (h2, .inl (D.1 14, 179, .inl fw)), (h3, .inr (0, [.ref h5, .int (nI n_91)])), (h5, .inl (D.1 13, 1600, .inl f_92))]) [0, 1, 2, 3, 4, 5] (by decide) rfl
          refine W.widen (k := 0) (n := 0) (Nat.le_of_ble_eq_true rfl) (Nat.le_of_ble_eq_true rfl) ?_
          exact W.vret hx hb hr (fun t ht hW => ⟨⟨(x_84, x_85, x_86, n_87, n_88, x_89, x_90, n_91, f_92), rfl, (by first | omega | (dsimp only; omega)), by rw [ht]; exact hP9, va_K.moved hW.alike hK, hD9⟩, hS.F ht⟩) hS.2.2 dX6_readPart_196
      · skip
        refine lv_if_ne (tgt := 86) hx hb dX6_readPart_74 (by decide) (fun c_94 => (z_abs c_94 (by decide)).elim) (fun _ => ?_)
        refine lv_aload_n hx hb dX6_readPart_77 rfl (lv_at hl 0 rfl) ?_
        refine lv_bipush (v := 26) hx hb dX6_readPart_78 (by decide) ?_
        have en_96 : (26 : Int32).toInt = 26 := by decide
        refine zcV (As := [.int 26]) (rest := []) (C := RX6) (n := 1) ⟨hx, hb, hml, hown, ht⟩ (k_X6_isWord l D h0 h1 h2 h3 fa pl mo ki wo si op s0 sp 26) (zgV ml_X6_121 im_X6_isWord se_X6_isWord in_X6 co_X6_isWord) rfl rfl (by decide +kernel) ⟨by show 0 + 1 ≤ 40 * d + 20; omega, by show 8 + (2 + 11) + 0 ≤ 2400 * d + 1200; omega⟩ hK hP hS [0] rfl 0 rfl rfl rfl rfl hl.1 rfl (Nat.le_of_ble_eq_true rfl) dX6_readPart_80 ⟨Nat.le_of_ble_eq_true rfl, Nat.le_of_ble_eq_true rfl⟩ (fun r_97 H locs hw hP hS => ?_)
        rcases hw with ⟨rfl, g_98⟩ | ⟨rfl, g_99⟩
        · skip
          refine lv_if_eq (tgt := 109) hx hb dX6_readPart_83 (by decide) (fun c_100 => (z_abs c_100 (by decide)).elim) (fun _ => ?_)
          refine lv_aload_n hx hb dX6_readPart_86 rfl (lv_at hl 0 rfl) ?_
          refine lv_aload_n hx hb dX6_readPart_87 rfl (lv_at hl 0 rfl) ?_
          refine lv_bipush (v := 25) hx hb dX6_readPart_88 (by decide) ?_
          have en_102 : (25 : Int32).toInt = 25 := by decide
          refine zcV (As := [.int 25]) (rest := [.ref h0]) (C := RX6) (n := 1) ⟨hx, hb, hml, hown, ht⟩ (k_X6_isWord l D h0 h1 h2 h3 fa pl mo ki wo si op s0 sp 25) (zgV ml_X6_121 im_X6_isWord se_X6_isWord in_X6 co_X6_isWord) rfl rfl (by decide +kernel) ⟨by show 0 + 1 ≤ 40 * d + 20; omega, by show 8 + (2 + 11) + 0 ≤ 2400 * d + 1200; omega⟩ hK hP hS [0] rfl 0 rfl rfl rfl rfl hl.1 rfl (Nat.le_of_ble_eq_true rfl) dX6_readPart_90 ⟨Nat.le_of_ble_eq_true rfl, Nat.le_of_ble_eq_true rfl⟩ (fun r_103 H locs hw hP hS => ?_)
          rcases hw with ⟨rfl, g_104⟩ | ⟨rfl, g_105⟩
          · skip
            refine lv_if_eq (tgt := 101) hx hb dX6_readPart_93 (by decide) (fun c_106 => (z_abs c_106 (by decide)).elim) (fun _ => ?_)
            refine lv_bipush (v := (-5)) hx hb dX6_readPart_96 (by decide) ?_
            refine lv_goto (tgt := 103) hx hb dX6_readPart_98 (by decide) ?_
            have en_108 : ((-5) : Int32).toInt = (-5) := by decide
            refine zwVv (As := [.int (-5)]) (rest := []) (C := RX6) (n := 1) (wr := []) ⟨hx, hb, hml, hown, ht⟩ (k_X6_readChoice l D _ h0 h1 h2 h3 h4 h5 fa pl mo ki wo si op s0 sp n cn f fw fc d ih (-5) (by first | decide | omega) (by first | decide | omega) (by first | decide | omega) (by first | decide | omega) (by first | decide | omega) (by first | decide | omega) (by first | decide | omega)) (zgV ml_X6_210 im_X6_readChoice se_X6_readChoice in_X6 co_X6_readChoice) rfl rfl (by decide +kernel) ⟨by show 40 * d + 12 + 1 ≤ 40 * d + 20; omega, by show 8 + (2 + 11) + (2400 * d + 720) ≤ 2400 * d + 1200; omega⟩ hK hP hD hS hA [0, 1, 2, 3, 4, 5] [] rfl rfl rfl rfl (by decide) 0 rfl rfl rfl rfl hl.1 rfl (Nat.le_of_ble_eq_true rfl) dX6_readPart_103 ⟨Nat.le_of_ble_eq_true rfl, Nat.le_of_ble_eq_true rfl⟩ (fun u_109 H locs hw hP hD hS => ?_)
            obtain ⟨x_111, x_112, x_113, n_114, n_115, x_116, x_117, n_118, f_119⟩ := u_109
            have hP : va_P D vwCl [(h0, .inr (6, [.int x_111, .int x_112, .ref h1, .ref h2, .ref h3, .int mo, .int (nI (op)), .int x_113, .int (nI (n_114)), .int (nI (n_115)), .int x_116, .int x_117])), (h1, .inr (9, [.ref h4, .int (nI (n))])), (h4, .inl (D.1 13, 1600, .inl f)), (h2, .inl (D.1 14, 179, .inl fw)), (h3, .inr (0, [.ref h5, .int (nI (n_118))])), (h5, .inl (D.1 13, 1600, .inl f_119))] H := hP
            have hD : va_D A [(h0, .inr (6, [.int x_111, .int x_112, .ref h1, .ref h2, .ref h3, .int mo, .int (nI (op)), .int x_113, .int (nI (n_114)), .int (nI (n_115)), .int x_116, .int x_117])), (h1, .inr (9, [.ref h4, .int (nI (n))])), (h4, .inl (D.1 13, 1600, .inl f)), (h2, .inl (D.1 14, 179, .inl fw)), (h3, .inr (0, [.ref h5, .int (nI (n_118))])), (h5, .inl (D.1 13, 1600, .inl f_119))] := hD
            have hw_120 : n_114 ≤ n_115 ∧ n_115 ≤ n ∧ sp ≤ n_115 ∧ (¬ x_111.toInt = 0 → x_113.toInt = 0) ∧ n_118 ≤ 1600 := hw
            refine lv_goto (tgt := 196) hx hb dX6_readPart_106 (by decide) ?_
            have hP9 := hP.sub (ws' := [(h0, .inr (6, [.int x_111, .int x_112, .ref h1, .ref h2, .ref h3, .int mo, .int (nI op), .int x_113, .int (nI n_114), .int (nI n_115), .int x_116, .int x_117])), (h1, .inr (9, [.ref h4, .int (nI n)])), (h4, .inl (D.1 13, 1600, .inl f)), (h2, .inl (D.1 14, 179, .inl fw)), (h3, .inr (0, [.ref h5, .int (nI n_118)])), (h5, .inl (D.1 13, 1600, .inl f_119))]) [0, 1, 2, 3, 4, 5] rfl
            have hD9 := hD.sub (ws' := [(h0, .inr (6, [.int x_111, .int x_112, .ref h1, .ref h2, .ref h3, .int mo, .int (nI op), .int x_113, .int (nI n_114), .int (nI n_115), .int x_116, .int x_117])), (h1, .inr (9, [.ref h4, .int (nI n)])), (h4, .inl (D.1 13, 1600, .inl f)), (h2, .inl (D.1 14, 179, .inl fw)), (h3, .inr (0, [.ref h5, .int (nI n_118)])), (h5, .inl (D.1 13, 1600, .inl f_119))]) [0, 1, 2, 3, 4, 5] (by decide) rfl
            refine W.widen (k := 0) (n := 0) (Nat.le_of_ble_eq_true rfl) (Nat.le_of_ble_eq_true rfl) ?_
            exact W.vret hx hb hr (fun t ht hW => ⟨⟨(x_111, x_112, x_113, n_114, n_115, x_116, x_117, n_118, f_119), rfl, (by first | omega | (dsimp only; omega)), by rw [ht]; exact hP9, va_K.moved hW.alike hK, hD9⟩, hS.F ht⟩) hS.2.2 dX6_readPart_196
          · skip
            refine lv_if_eq (tgt := 101) hx hb dX6_readPart_93 (by decide) (fun _ => ?_) (fun c_121 => (z_abs c_121 (by decide)).elim)
            refine lv_bipush (v := (-6)) hx hb dX6_readPart_101 (by decide) ?_
            have en_123 : ((-6) : Int32).toInt = (-6) := by decide
            refine zwVv (As := [.int (-6)]) (rest := []) (C := RX6) (n := 1) (wr := []) ⟨hx, hb, hml, hown, ht⟩ (k_X6_readChoice l D _ h0 h1 h2 h3 h4 h5 fa pl mo ki wo si op s0 sp n cn f fw fc d ih (-6) (by first | decide | omega) (by first | decide | omega) (by first | decide | omega) (by first | decide | omega) (by first | decide | omega) (by first | decide | omega) (by first | decide | omega)) (zgV ml_X6_210 im_X6_readChoice se_X6_readChoice in_X6 co_X6_readChoice) rfl rfl (by decide +kernel) ⟨by show 40 * d + 12 + 1 ≤ 40 * d + 20; omega, by show 8 + (2 + 11) + (2400 * d + 720) ≤ 2400 * d + 1200; omega⟩ hK hP hD hS hA [0, 1, 2, 3, 4, 5] [] rfl rfl rfl rfl (by decide) 0 rfl rfl rfl rfl hl.1 rfl (Nat.le_of_ble_eq_true rfl) dX6_readPart_103 ⟨Nat.le_of_ble_eq_true rfl, Nat.le_of_ble_eq_true rfl⟩ (fun u_124 H locs hw hP hD hS => ?_)
            obtain ⟨x_126, x_127, x_128, n_129, n_130, x_131, x_132, n_133, f_134⟩ := u_124
            have hP : va_P D vwCl [(h0, .inr (6, [.int x_126, .int x_127, .ref h1, .ref h2, .ref h3, .int mo, .int (nI (op)), .int x_128, .int (nI (n_129)), .int (nI (n_130)), .int x_131, .int x_132])), (h1, .inr (9, [.ref h4, .int (nI (n))])), (h4, .inl (D.1 13, 1600, .inl f)), (h2, .inl (D.1 14, 179, .inl fw)), (h3, .inr (0, [.ref h5, .int (nI (n_133))])), (h5, .inl (D.1 13, 1600, .inl f_134))] H := hP
            have hD : va_D A [(h0, .inr (6, [.int x_126, .int x_127, .ref h1, .ref h2, .ref h3, .int mo, .int (nI (op)), .int x_128, .int (nI (n_129)), .int (nI (n_130)), .int x_131, .int x_132])), (h1, .inr (9, [.ref h4, .int (nI (n))])), (h4, .inl (D.1 13, 1600, .inl f)), (h2, .inl (D.1 14, 179, .inl fw)), (h3, .inr (0, [.ref h5, .int (nI (n_133))])), (h5, .inl (D.1 13, 1600, .inl f_134))] := hD
            have hw_135 : n_129 ≤ n_130 ∧ n_130 ≤ n ∧ sp ≤ n_130 ∧ (¬ x_126.toInt = 0 → x_128.toInt = 0) ∧ n_133 ≤ 1600 := hw
            refine lv_goto (tgt := 196) hx hb dX6_readPart_106 (by decide) ?_
            have hP9 := hP.sub (ws' := [(h0, .inr (6, [.int x_126, .int x_127, .ref h1, .ref h2, .ref h3, .int mo, .int (nI op), .int x_128, .int (nI n_129), .int (nI n_130), .int x_131, .int x_132])), (h1, .inr (9, [.ref h4, .int (nI n)])), (h4, .inl (D.1 13, 1600, .inl f)), (h2, .inl (D.1 14, 179, .inl fw)), (h3, .inr (0, [.ref h5, .int (nI n_133)])), (h5, .inl (D.1 13, 1600, .inl f_134))]) [0, 1, 2, 3, 4, 5] rfl
            have hD9 := hD.sub (ws' := [(h0, .inr (6, [.int x_126, .int x_127, .ref h1, .ref h2, .ref h3, .int mo, .int (nI op), .int x_128, .int (nI n_129), .int (nI n_130), .int x_131, .int x_132])), (h1, .inr (9, [.ref h4, .int (nI n)])), (h4, .inl (D.1 13, 1600, .inl f)), (h2, .inl (D.1 14, 179, .inl fw)), (h3, .inr (0, [.ref h5, .int (nI n_133)])), (h5, .inl (D.1 13, 1600, .inl f_134))]) [0, 1, 2, 3, 4, 5] (by decide) rfl
            refine W.widen (k := 0) (n := 0) (Nat.le_of_ble_eq_true rfl) (Nat.le_of_ble_eq_true rfl) ?_
            exact W.vret hx hb hr (fun t ht hW => ⟨⟨(x_126, x_127, x_128, n_129, n_130, x_131, x_132, n_133, f_134), rfl, (by first | omega | (dsimp only; omega)), by rw [ht]; exact hP9, va_K.moved hW.alike hK, hD9⟩, hS.F ht⟩) hS.2.2 dX6_readPart_196
        · skip
          refine lv_if_eq (tgt := 109) hx hb dX6_readPart_83 (by decide) (fun _ => ?_) (fun c_136 => (z_abs c_136 (by decide)).elim)
          refine lv_aload_n hx hb dX6_readPart_109 rfl (lv_at hl 0 rfl) ?_
          refine va_get (D := D) (ci := 6) (v := .int mo) (C := RX6) (T := TX6) (N := 12) hx hb ht inX6 hown hK hP 0 rfl rfl 5 (by decide) (ht (.fieldLink RX6 69 "CloneVolumes$Reader" "mode" "I") fl_X6_69) (fun _ h9 => h9) rfl dX6_readPart_110 ?_
          refine lv_iconst (v := 3) hx hb dX6_readPart_113 (by decide) ?_
          refine lv_icmp_ne (tgt := 158) hx hb dX6_readPart_114 (by decide) (fun c_138 => ?_) (fun c_138 => ?_)
          · have g_139 : ¬ mo.toInt = 3 := z_ne rfl (by decide) c_138
            refine lv_aload_n hx hb dX6_readPart_158 rfl (lv_at hl 0 rfl) ?_
            refine zcV (As := []) (rest := []) (C := RX6) (n := 0) ⟨hx, hb, hml, hown, ht⟩ (k_X6_isFact l D h0 h1 h2 h3 fa pl mo ki wo si op s0 sp) (zgV ml_X6_216 im_X6_isFact se_X6_isFact in_X6 co_X6_isFact) rfl rfl (by decide +kernel) ⟨by show 0 + 1 ≤ 40 * d + 20; omega, by show 8 + (1 + 11) + 0 ≤ 2400 * d + 1200; omega⟩ hK hP hS [0] rfl 0 rfl rfl rfl rfl hl.1 rfl (Nat.le_of_ble_eq_true rfl) dX6_readPart_159 ⟨Nat.le_of_ble_eq_true rfl, Nat.le_of_ble_eq_true rfl⟩ (fun r_140 H locs hw hP hS => ?_)
            rcases hw with rfl | rfl
            · skip
              refine lv_if_eq (tgt := 186) hx hb dX6_readPart_162 (by decide) (fun _ => ?_) (fun c_141 => (z_abs c_141 (by decide)).elim)
              refine lv_aload_n hx hb dX6_readPart_186 rfl (lv_at hl 0 rfl) ?_
              refine lv_iconst (v := 1) hx hb dX6_readPart_187 (by decide) ?_
              refine lv_aload_n hx hb dX6_readPart_188 rfl (lv_at hl 0 rfl) ?_
              refine va_get (D := D) (ci := 6) (v := .int (nI s0)) (C := RX6) (T := TX6) (N := 12) hx hb ht inX6 hown hK hP 0 rfl rfl 8 (by decide) (ht (.fieldLink RX6 51 "CloneVolumes$Reader" "start" "I") fl_X6_51) (fun _ h9 => h9) rfl dX6_readPart_189 ?_
              have en_143 : (1 : Int32).toInt = 1 := by decide
              have en_144 : (nI s0).toInt = ((s0 : Nat) : Int) := nI_toInt (by omega)
              refine zwV (As := [.int 1, .int (nI s0)]) (rest := []) (C := RX6) (n := 2) (wr := [(h1, .inr (9, [.ref h4, .int (nI n)])), (h4, .inl (D.1 13, 1600, .inl f)), (h2, .inl (D.1 14, 179, .inl fw)), (h3, .inr (0, [.ref h5, .int (nI cn)])), (h5, .inl (D.1 13, 1600, .inl fc))]) ⟨hx, hb, hml, hown, ht⟩ (k_X6_fail l D _ h0 h1 h2 h3 fa pl mo ki wo si op s0 sp 1 (nI s0) (by first | decide | omega)) (zgV ml_X6_54 im_X6_fail se_X6_fail in_X6 co_X6_fail) rfl rfl (by decide +kernel) ⟨by show 0 + 1 ≤ 40 * d + 20; omega, by show 8 + (3 + 11) + 0 ≤ 2400 * d + 1200; omega⟩ hK hP hD hS hA [0] [1, 2, 3, 4, 5] rfl rfl rfl rfl (by decide) 0 rfl rfl rfl rfl hl.1 rfl (Nat.le_of_ble_eq_true rfl) dX6_readPart_192 ⟨Nat.le_of_ble_eq_true rfl, Nat.le_of_ble_eq_true rfl⟩ (fun r_146 u_145 H locs hw hP hD hS => ?_)
              obtain ⟨x_147, x_148, x_149⟩ := u_145
              have hP : va_P D vwCl [(h1, .inr (9, [.ref h4, .int (nI n)])), (h4, .inl (D.1 13, 1600, .inl f)), (h2, .inl (D.1 14, 179, .inl fw)), (h3, .inr (0, [.ref h5, .int (nI cn)])), (h5, .inl (D.1 13, 1600, .inl fc)), (h0, .inr (6, [.int x_147, .int x_148, .ref h1, .ref h2, .ref h3, .int mo, .int (nI (op)), .int x_149, .int (nI (s0)), .int (nI (sp)), .int wo, .int si]))] H := hP
              have hD : va_D A [(h1, .inr (9, [.ref h4, .int (nI n)])), (h4, .inl (D.1 13, 1600, .inl f)), (h2, .inl (D.1 14, 179, .inl fw)), (h3, .inr (0, [.ref h5, .int (nI cn)])), (h5, .inl (D.1 13, 1600, .inl fc)), (h0, .inr (6, [.int x_147, .int x_148, .ref h1, .ref h2, .ref h3, .int mo, .int (nI (op)), .int x_149, .int (nI (s0)), .int (nI (sp)), .int wo, .int si]))] := hD
              obtain ⟨hrr, hw⟩ := hw
              subst hrr
              have hw_150 : (¬ x_147.toInt = 0 → x_149.toInt = 0) ∧ (¬ (1 : Int32).toInt = 0 → ¬ x_147.toInt = 0) := hw
              refine lv_pop hx hb dX6_readPart_195 rfl ?_
              have hP9 := hP.sub (ws' := [(h0, .inr (6, [.int x_147, .int x_148, .ref h1, .ref h2, .ref h3, .int mo, .int (nI op), .int x_149, .int (nI s0), .int (nI sp), .int wo, .int si])), (h1, .inr (9, [.ref h4, .int (nI n)])), (h4, .inl (D.1 13, 1600, .inl f)), (h2, .inl (D.1 14, 179, .inl fw)), (h3, .inr (0, [.ref h5, .int (nI cn)])), (h5, .inl (D.1 13, 1600, .inl fc))]) [5, 0, 1, 2, 3, 4] rfl
              have hD9 := hD.sub (ws' := [(h0, .inr (6, [.int x_147, .int x_148, .ref h1, .ref h2, .ref h3, .int mo, .int (nI op), .int x_149, .int (nI s0), .int (nI sp), .int wo, .int si])), (h1, .inr (9, [.ref h4, .int (nI n)])), (h4, .inl (D.1 13, 1600, .inl f)), (h2, .inl (D.1 14, 179, .inl fw)), (h3, .inr (0, [.ref h5, .int (nI cn)])), (h5, .inl (D.1 13, 1600, .inl fc))]) [5, 0, 1, 2, 3, 4] (by decide) rfl
              refine W.widen (k := 0) (n := 0) (Nat.le_of_ble_eq_true rfl) (Nat.le_of_ble_eq_true rfl) ?_
              exact W.vret hx hb hr (fun t ht hW => ⟨⟨(x_147, x_148, x_149, s0, sp, wo, si, cn, fc), rfl, (by first | omega | (dsimp only; omega)), by rw [ht]; exact hP9, va_K.moved hW.alike hK, hD9⟩, hS.F ht⟩) hS.2.2 dX6_readPart_196
            · skip
              refine lv_if_eq (tgt := 186) hx hb dX6_readPart_162 (by decide) (fun c_151 => (z_abs c_151 (by decide)).elim) (fun _ => ?_)
              refine lv_aload_n hx hb dX6_readPart_165 rfl (lv_at hl 0 rfl) ?_
              refine va_get (D := D) (ci := 6) (v := .ref h3) (C := RX6) (T := TX6) (N := 12) hx hb ht inX6 hown hK hP 0 rfl rfl 4 (by decide) (ht (.fieldLink RX6 84 "CloneVolumes$Reader" "code" "LCloneVolumes$Code;") fl_X6_84) (fun _ h9 => h9) rfl dX6_readPart_166 ?_
              refine lv_bipush (v := (-100)) hx hb dX6_readPart_169 (by decide) ?_
              refine lv_aload_n hx hb dX6_readPart_171 rfl (lv_at hl 0 rfl) ?_
              refine va_get (D := D) (ci := 6) (v := .int wo) (C := RX6) (T := TX6) (N := 12) hx hb ht inX6 hown hK hP 0 rfl rfl 10 (by decide) (ht (.fieldLink RX6 72 "CloneVolumes$Reader" "word" "I") fl_X6_72) (fun _ h9 => h9) rfl dX6_readPart_172 ?_
              refine lv_isub hx hb dX6_readPart_175 ?_
              refine lv_topi (fun x_153 ex_153 => ?_)
              refine zwVv (As := [.int x_153]) (rest := []) (C := RX0) (n := 1) (wr := [(h0, .inr (6, [.int fa, .int pl, .ref h1, .ref h2, .ref h3, .int mo, .int (nI op), .int ki, .int (nI s0), .int (nI sp), .int wo, .int si])), (h1, .inr (9, [.ref h4, .int (nI n)])), (h4, .inl (D.1 13, 1600, .inl f)), (h2, .inl (D.1 14, 179, .inl fw))]) ⟨hx, hb, hml, hown, ht⟩ (k_X0_add l D _ h3 h5 cn fc x_153 (by first | decide | omega)) (zgV ml_X6_191 im_X0_add se_X0_add in_X0 co_X0_add) rfl rfl (by decide +kernel) ⟨by show 0 + 1 ≤ 40 * d + 20; omega, by show 8 + (2 + 11) + 0 ≤ 2400 * d + 1200; omega⟩ hK hP hD hS hA [4, 5] [0, 1, 2, 3] rfl rfl rfl rfl (by decide) 0 rfl rfl rfl rfl hl.1 rfl (Nat.le_of_ble_eq_true rfl) dX6_readPart_176 ⟨Nat.le_of_ble_eq_true rfl, Nat.le_of_ble_eq_true rfl⟩ (fun u_154 H locs hw hP hD hS => ?_)
              obtain ⟨n_156, f_157⟩ := u_154
              have hP : va_P D vwCl [(h0, .inr (6, [.int fa, .int pl, .ref h1, .ref h2, .ref h3, .int mo, .int (nI op), .int ki, .int (nI s0), .int (nI sp), .int wo, .int si])), (h1, .inr (9, [.ref h4, .int (nI n)])), (h4, .inl (D.1 13, 1600, .inl f)), (h2, .inl (D.1 14, 179, .inl fw)), (h3, .inr (0, [.ref h5, .int (nI (n_156))])), (h5, .inl (D.1 13, 1600, .inl f_157))] H := hP
              have hD : va_D A [(h0, .inr (6, [.int fa, .int pl, .ref h1, .ref h2, .ref h3, .int mo, .int (nI op), .int ki, .int (nI s0), .int (nI sp), .int wo, .int si])), (h1, .inr (9, [.ref h4, .int (nI n)])), (h4, .inl (D.1 13, 1600, .inl f)), (h2, .inl (D.1 14, 179, .inl fw)), (h3, .inr (0, [.ref h5, .int (nI (n_156))])), (h5, .inl (D.1 13, 1600, .inl f_157))] := hD
              have hw_158 : n_156 ≤ 1600 := hw
              refine lv_aload_n hx hb dX6_readPart_179 rfl (lv_at hl 0 rfl) ?_
              refine zwVv (As := []) (rest := []) (C := RX6) (n := 0) (wr := [(h3, .inr (0, [.ref h5, .int (nI (n_156))])), (h5, .inl (D.1 13, 1600, .inl f_157))]) ⟨hx, hb, hml, hown, ht⟩ (k_X6_advance l D _ h0 h1 h2 h3 h4 fa pl mo ki wo si op s0 sp n f fw (by first | decide | omega) (by first | decide | omega) (by first | decide | omega) (by first | decide | omega)) (zgV ml_X6_75 im_X6_advance se_X6_advance in_X6 co_X6_advance) rfl rfl (by decide +kernel) ⟨by show 1 + 1 ≤ 40 * d + 20; omega, by show 8 + (2 + 11) + 60 ≤ 2400 * d + 1200; omega⟩ hK hP hD hS hA [0, 1, 2, 3] [4, 5] rfl rfl rfl rfl (by decide) 0 rfl rfl rfl rfl hl.1 rfl (Nat.le_of_ble_eq_true rfl) dX6_readPart_180 ⟨Nat.le_of_ble_eq_true rfl, Nat.le_of_ble_eq_true rfl⟩ (fun u_159 H locs hw hP hD hS => ?_)
              obtain ⟨x_161, n_162, n_163, x_164, x_165⟩ := u_159
              have hP : va_P D vwCl [(h3, .inr (0, [.ref h5, .int (nI (n_156))])), (h5, .inl (D.1 13, 1600, .inl f_157)), (h0, .inr (6, [.int fa, .int pl, .ref h1, .ref h2, .ref h3, .int mo, .int (nI (op)), .int x_161, .int (nI (n_162)), .int (nI (n_163)), .int x_164, .int x_165])), (h1, .inr (9, [.ref h4, .int (nI (n))])), (h4, .inl (D.1 13, 1600, .inl f)), (h2, .inl (D.1 14, 179, .inl fw))] H := hP
              have hD : va_D A [(h3, .inr (0, [.ref h5, .int (nI (n_156))])), (h5, .inl (D.1 13, 1600, .inl f_157)), (h0, .inr (6, [.int fa, .int pl, .ref h1, .ref h2, .ref h3, .int mo, .int (nI (op)), .int x_161, .int (nI (n_162)), .int (nI (n_163)), .int x_164, .int x_165])), (h1, .inr (9, [.ref h4, .int (nI (n))])), (h4, .inl (D.1 13, 1600, .inl f)), (h2, .inl (D.1 14, 179, .inl fw))] := hD
              have hw_166 : n_162 ≤ n_163 ∧ n_163 ≤ n ∧ sp ≤ n_163 ∧ (x_161.toInt = 0 ∨ (sp < n_163 ∧ n_162 < n_163)) ∧ (¬ fa.toInt = 0 → x_161.toInt = 0) := hw
              refine lv_goto (tgt := 196) hx hb dX6_readPart_183 (by decide) ?_
              have hP9 := hP.sub (ws' := [(h0, .inr (6, [.int fa, .int pl, .ref h1, .ref h2, .ref h3, .int mo, .int (nI op), .int x_161, .int (nI n_162), .int (nI n_163), .int x_164, .int x_165])), (h1, .inr (9, [.ref h4, .int (nI n)])), (h4, .inl (D.1 13, 1600, .inl f)), (h2, .inl (D.1 14, 179, .inl fw)), (h3, .inr (0, [.ref h5, .int (nI n_156)])), (h5, .inl (D.1 13, 1600, .inl f_157))]) [2, 3, 4, 5, 0, 1] rfl
              have hD9 := hD.sub (ws' := [(h0, .inr (6, [.int fa, .int pl, .ref h1, .ref h2, .ref h3, .int mo, .int (nI op), .int x_161, .int (nI n_162), .int (nI n_163), .int x_164, .int x_165])), (h1, .inr (9, [.ref h4, .int (nI n)])), (h4, .inl (D.1 13, 1600, .inl f)), (h2, .inl (D.1 14, 179, .inl fw)), (h3, .inr (0, [.ref h5, .int (nI n_156)])), (h5, .inl (D.1 13, 1600, .inl f_157))]) [2, 3, 4, 5, 0, 1] (by decide) rfl
              refine W.widen (k := 0) (n := 0) (Nat.le_of_ble_eq_true rfl) (Nat.le_of_ble_eq_true rfl) ?_
              exact W.vret hx hb hr (fun t ht hW => ⟨⟨(fa, pl, x_161, n_162, n_163, x_164, x_165, n_156, f_157), rfl, (by first | omega | (dsimp only; omega)), by rw [ht]; exact hP9, va_K.moved hW.alike hK, hD9⟩, hS.F ht⟩) hS.2.2 dX6_readPart_196
          · have g_139 : mo.toInt = 3 := z_eq rfl (by decide) c_138
            refine lv_aload_n hx hb dX6_readPart_117 rfl (lv_at hl 0 rfl) ?_
            refine lv_bipush (v := 19) hx hb dX6_readPart_118 (by decide) ?_
            have en_167 : (19 : Int32).toInt = 19 := by decide
            refine zcV (As := [.int 19]) (rest := []) (C := RX6) (n := 1) ⟨hx, hb, hml, hown, ht⟩ (k_X6_isWord l D h0 h1 h2 h3 fa pl mo ki wo si op s0 sp 19) (zgV ml_X6_121 im_X6_isWord se_X6_isWord in_X6 co_X6_isWord) rfl rfl (by decide +kernel) ⟨by show 0 + 1 ≤ 40 * d + 20; omega, by show 8 + (2 + 11) + 0 ≤ 2400 * d + 1200; omega⟩ hK hP hS [0] rfl 0 rfl rfl rfl rfl hl.1 rfl (Nat.le_of_ble_eq_true rfl) dX6_readPart_120 ⟨Nat.le_of_ble_eq_true rfl, Nat.le_of_ble_eq_true rfl⟩ (fun r_168 H locs hw hP hS => ?_)
            rcases hw with ⟨rfl, g_169⟩ | ⟨rfl, g_170⟩
            · skip
              refine lv_if_ne (tgt := 135) hx hb dX6_readPart_123 (by decide) (fun _ => ?_) (fun c_171 => (z_abs c_171 (by decide)).elim)
              refine lv_aload_n hx hb dX6_readPart_135 rfl (lv_at hl 0 rfl) ?_
              refine lv_aload_n hx hb dX6_readPart_136 rfl (lv_at hl 0 rfl) ?_
              refine lv_bipush (v := 19) hx hb dX6_readPart_137 (by decide) ?_
              have en_173 : (19 : Int32).toInt = 19 := by decide
              refine zcV (As := [.int 19]) (rest := [.ref h0]) (C := RX6) (n := 1) ⟨hx, hb, hml, hown, ht⟩ (k_X6_isWord l D h0 h1 h2 h3 fa pl mo ki wo si op s0 sp 19) (zgV ml_X6_121 im_X6_isWord se_X6_isWord in_X6 co_X6_isWord) rfl rfl (by decide +kernel) ⟨by show 0 + 1 ≤ 40 * d + 20; omega, by show 8 + (2 + 11) + 0 ≤ 2400 * d + 1200; omega⟩ hK hP hS [0] rfl 0 rfl rfl rfl rfl hl.1 rfl (Nat.le_of_ble_eq_true rfl) dX6_readPart_139 ⟨Nat.le_of_ble_eq_true rfl, Nat.le_of_ble_eq_true rfl⟩ (fun r_174 H locs hw hP hS => ?_)
              rcases hw with ⟨rfl, g_175⟩ | ⟨rfl, g_176⟩
              · skip
                refine lv_if_eq (tgt := 150) hx hb dX6_readPart_142 (by decide) (fun c_177 => (z_abs c_177 (by decide)).elim) (fun _ => ?_)
                refine lv_bipush (v := (-13)) hx hb dX6_readPart_145 (by decide) ?_
                refine lv_goto (tgt := 152) hx hb dX6_readPart_147 (by decide) ?_
                have en_179 : ((-13) : Int32).toInt = (-13) := by decide
                refine zwVv (As := [.int (-13)]) (rest := []) (C := RX6) (n := 1) (wr := []) ⟨hx, hb, hml, hown, ht⟩ (k_X6_readOther l D _ h0 h1 h2 h3 h4 h5 fa pl mo ki wo si op s0 sp n cn f fw fc d ih (-13) (by first | decide | omega) (by first | decide | omega) (by first | decide | omega) (by first | decide | omega) (by first | decide | omega) (by first | decide | omega) (by first | decide | omega)) (zgV ml_X6_213 im_X6_readOther se_X6_readOther in_X6 co_X6_readOther) rfl rfl (by decide +kernel) ⟨by show 40 * d + 12 + 1 ≤ 40 * d + 20; omega, by show 8 + (2 + 11) + (2400 * d + 720) ≤ 2400 * d + 1200; omega⟩ hK hP hD hS hA [0, 1, 2, 3, 4, 5] [] rfl rfl rfl rfl (by decide) 0 rfl rfl rfl rfl hl.1 rfl (Nat.le_of_ble_eq_true rfl) dX6_readPart_152 ⟨Nat.le_of_ble_eq_true rfl, Nat.le_of_ble_eq_true rfl⟩ (fun u_180 H locs hw hP hD hS => ?_)
                obtain ⟨x_182, x_183, x_184, n_185, n_186, x_187, x_188, n_189, f_190⟩ := u_180
                have hP : va_P D vwCl [(h0, .inr (6, [.int x_182, .int x_183, .ref h1, .ref h2, .ref h3, .int mo, .int (nI (op)), .int x_184, .int (nI (n_185)), .int (nI (n_186)), .int x_187, .int x_188])), (h1, .inr (9, [.ref h4, .int (nI (n))])), (h4, .inl (D.1 13, 1600, .inl f)), (h2, .inl (D.1 14, 179, .inl fw)), (h3, .inr (0, [.ref h5, .int (nI (n_189))])), (h5, .inl (D.1 13, 1600, .inl f_190))] H := hP
                have hD : va_D A [(h0, .inr (6, [.int x_182, .int x_183, .ref h1, .ref h2, .ref h3, .int mo, .int (nI (op)), .int x_184, .int (nI (n_185)), .int (nI (n_186)), .int x_187, .int x_188])), (h1, .inr (9, [.ref h4, .int (nI (n))])), (h4, .inl (D.1 13, 1600, .inl f)), (h2, .inl (D.1 14, 179, .inl fw)), (h3, .inr (0, [.ref h5, .int (nI (n_189))])), (h5, .inl (D.1 13, 1600, .inl f_190))] := hD
                have hw_191 : n_185 ≤ n_186 ∧ n_186 ≤ n ∧ sp ≤ n_186 ∧ (¬ x_182.toInt = 0 → x_184.toInt = 0) ∧ n_189 ≤ 1600 := hw
                refine lv_goto (tgt := 196) hx hb dX6_readPart_155 (by decide) ?_
                have hP9 := hP.sub (ws' := [(h0, .inr (6, [.int x_182, .int x_183, .ref h1, .ref h2, .ref h3, .int mo, .int (nI op), .int x_184, .int (nI n_185), .int (nI n_186), .int x_187, .int x_188])), (h1, .inr (9, [.ref h4, .int (nI n)])), (h4, .inl (D.1 13, 1600, .inl f)), (h2, .inl (D.1 14, 179, .inl fw)), (h3, .inr (0, [.ref h5, .int (nI n_189)])), (h5, .inl (D.1 13, 1600, .inl f_190))]) [0, 1, 2, 3, 4, 5] rfl
                have hD9 := hD.sub (ws' := [(h0, .inr (6, [.int x_182, .int x_183, .ref h1, .ref h2, .ref h3, .int mo, .int (nI op), .int x_184, .int (nI n_185), .int (nI n_186), .int x_187, .int x_188])), (h1, .inr (9, [.ref h4, .int (nI n)])), (h4, .inl (D.1 13, 1600, .inl f)), (h2, .inl (D.1 14, 179, .inl fw)), (h3, .inr (0, [.ref h5, .int (nI n_189)])), (h5, .inl (D.1 13, 1600, .inl f_190))]) [0, 1, 2, 3, 4, 5] (by decide) rfl
                refine W.widen (k := 0) (n := 0) (Nat.le_of_ble_eq_true rfl) (Nat.le_of_ble_eq_true rfl) ?_
                exact W.vret hx hb hr (fun t ht hW => ⟨⟨(x_182, x_183, x_184, n_185, n_186, x_187, x_188, n_189, f_190), rfl, (by first | omega | (dsimp only; omega)), by rw [ht]; exact hP9, va_K.moved hW.alike hK, hD9⟩, hS.F ht⟩) hS.2.2 dX6_readPart_196
              · skip
                refine lv_if_eq (tgt := 150) hx hb dX6_readPart_142 (by decide) (fun _ => ?_) (fun c_192 => (z_abs c_192 (by decide)).elim)
                refine lv_bipush (v := (-14)) hx hb dX6_readPart_150 (by decide) ?_
                have en_194 : ((-14) : Int32).toInt = (-14) := by decide
                refine zwVv (As := [.int (-14)]) (rest := []) (C := RX6) (n := 1) (wr := []) ⟨hx, hb, hml, hown, ht⟩ (k_X6_readOther l D _ h0 h1 h2 h3 h4 h5 fa pl mo ki wo si op s0 sp n cn f fw fc d ih (-14) (by first | decide | omega) (by first | decide | omega) (by first | decide | omega) (by first | decide | omega) (by first | decide | omega) (by first | decide | omega) (by first | decide | omega)) (zgV ml_X6_213 im_X6_readOther se_X6_readOther in_X6 co_X6_readOther) rfl rfl (by decide +kernel) ⟨by show 40 * d + 12 + 1 ≤ 40 * d + 20; omega, by show 8 + (2 + 11) + (2400 * d + 720) ≤ 2400 * d + 1200; omega⟩ hK hP hD hS hA [0, 1, 2, 3, 4, 5] [] rfl rfl rfl rfl (by decide) 0 rfl rfl rfl rfl hl.1 rfl (Nat.le_of_ble_eq_true rfl) dX6_readPart_152 ⟨Nat.le_of_ble_eq_true rfl, Nat.le_of_ble_eq_true rfl⟩ (fun u_195 H locs hw hP hD hS => ?_)
                obtain ⟨x_197, x_198, x_199, n_200, n_201, x_202, x_203, n_204, f_205⟩ := u_195
                have hP : va_P D vwCl [(h0, .inr (6, [.int x_197, .int x_198, .ref h1, .ref h2, .ref h3, .int mo, .int (nI (op)), .int x_199, .int (nI (n_200)), .int (nI (n_201)), .int x_202, .int x_203])), (h1, .inr (9, [.ref h4, .int (nI (n))])), (h4, .inl (D.1 13, 1600, .inl f)), (h2, .inl (D.1 14, 179, .inl fw)), (h3, .inr (0, [.ref h5, .int (nI (n_204))])), (h5, .inl (D.1 13, 1600, .inl f_205))] H := hP
                have hD : va_D A [(h0, .inr (6, [.int x_197, .int x_198, .ref h1, .ref h2, .ref h3, .int mo, .int (nI (op)), .int x_199, .int (nI (n_200)), .int (nI (n_201)), .int x_202, .int x_203])), (h1, .inr (9, [.ref h4, .int (nI (n))])), (h4, .inl (D.1 13, 1600, .inl f)), (h2, .inl (D.1 14, 179, .inl fw)), (h3, .inr (0, [.ref h5, .int (nI (n_204))])), (h5, .inl (D.1 13, 1600, .inl f_205))] := hD
                have hw_206 : n_200 ≤ n_201 ∧ n_201 ≤ n ∧ sp ≤ n_201 ∧ (¬ x_197.toInt = 0 → x_199.toInt = 0) ∧ n_204 ≤ 1600 := hw
                refine lv_goto (tgt := 196) hx hb dX6_readPart_155 (by decide) ?_
                have hP9 := hP.sub (ws' := [(h0, .inr (6, [.int x_197, .int x_198, .ref h1, .ref h2, .ref h3, .int mo, .int (nI op), .int x_199, .int (nI n_200), .int (nI n_201), .int x_202, .int x_203])), (h1, .inr (9, [.ref h4, .int (nI n)])), (h4, .inl (D.1 13, 1600, .inl f)), (h2, .inl (D.1 14, 179, .inl fw)), (h3, .inr (0, [.ref h5, .int (nI n_204)])), (h5, .inl (D.1 13, 1600, .inl f_205))]) [0, 1, 2, 3, 4, 5] rfl
                have hD9 := hD.sub (ws' := [(h0, .inr (6, [.int x_197, .int x_198, .ref h1, .ref h2, .ref h3, .int mo, .int (nI op), .int x_199, .int (nI n_200), .int (nI n_201), .int x_202, .int x_203])), (h1, .inr (9, [.ref h4, .int (nI n)])), (h4, .inl (D.1 13, 1600, .inl f)), (h2, .inl (D.1 14, 179, .inl fw)), (h3, .inr (0, [.ref h5, .int (nI n_204)])), (h5, .inl (D.1 13, 1600, .inl f_205))]) [0, 1, 2, 3, 4, 5] (by decide) rfl
                refine W.widen (k := 0) (n := 0) (Nat.le_of_ble_eq_true rfl) (Nat.le_of_ble_eq_true rfl) ?_
                exact W.vret hx hb hr (fun t ht hW => ⟨⟨(x_197, x_198, x_199, n_200, n_201, x_202, x_203, n_204, f_205), rfl, (by first | omega | (dsimp only; omega)), by rw [ht]; exact hP9, va_K.moved hW.alike hK, hD9⟩, hS.F ht⟩) hS.2.2 dX6_readPart_196
            · skip
              refine lv_if_ne (tgt := 135) hx hb dX6_readPart_123 (by decide) (fun c_207 => (z_abs c_207 (by decide)).elim) (fun _ => ?_)
              refine lv_aload_n hx hb dX6_readPart_126 rfl (lv_at hl 0 rfl) ?_
              refine lv_bipush (v := 20) hx hb dX6_readPart_127 (by decide) ?_
              have en_209 : (20 : Int32).toInt = 20 := by decide
              refine zcV (As := [.int 20]) (rest := []) (C := RX6) (n := 1) ⟨hx, hb, hml, hown, ht⟩ (k_X6_isWord l D h0 h1 h2 h3 fa pl mo ki wo si op s0 sp 20) (zgV ml_X6_121 im_X6_isWord se_X6_isWord in_X6 co_X6_isWord) rfl rfl (by decide +kernel) ⟨by show 0 + 1 ≤ 40 * d + 20; omega, by show 8 + (2 + 11) + 0 ≤ 2400 * d + 1200; omega⟩ hK hP hS [0] rfl 0 rfl rfl rfl rfl hl.1 rfl (Nat.le_of_ble_eq_true rfl) dX6_readPart_129 ⟨Nat.le_of_ble_eq_true rfl, Nat.le_of_ble_eq_true rfl⟩ (fun r_210 H locs hw hP hS => ?_)
              rcases hw with ⟨rfl, g_211⟩ | ⟨rfl, g_212⟩
              · skip
                refine lv_if_eq (tgt := 158) hx hb dX6_readPart_132 (by decide) (fun c_213 => (z_abs c_213 (by decide)).elim) (fun _ => ?_)
                refine lv_aload_n hx hb dX6_readPart_135 rfl (lv_at hl 0 rfl) ?_
                refine lv_aload_n hx hb dX6_readPart_136 rfl (lv_at hl 0 rfl) ?_
                refine lv_bipush (v := 19) hx hb dX6_readPart_137 (by decide) ?_
                have en_215 : (19 : Int32).toInt = 19 := by decide
                refine zcV (As := [.int 19]) (rest := [.ref h0]) (C := RX6) (n := 1) ⟨hx, hb, hml, hown, ht⟩ (k_X6_isWord l D h0 h1 h2 h3 fa pl mo ki wo si op s0 sp 19) (zgV ml_X6_121 im_X6_isWord se_X6_isWord in_X6 co_X6_isWord) rfl rfl (by decide +kernel) ⟨by show 0 + 1 ≤ 40 * d + 20; omega, by show 8 + (2 + 11) + 0 ≤ 2400 * d + 1200; omega⟩ hK hP hS [0] rfl 0 rfl rfl rfl rfl hl.1 rfl (Nat.le_of_ble_eq_true rfl) dX6_readPart_139 ⟨Nat.le_of_ble_eq_true rfl, Nat.le_of_ble_eq_true rfl⟩ (fun r_216 H locs hw hP hS => ?_)
                rcases hw with ⟨rfl, g_217⟩ | ⟨rfl, g_218⟩
                · skip
                  refine lv_if_eq (tgt := 150) hx hb dX6_readPart_142 (by decide) (fun c_219 => (z_abs c_219 (by decide)).elim) (fun _ => ?_)
                  refine lv_bipush (v := (-13)) hx hb dX6_readPart_145 (by decide) ?_
                  refine lv_goto (tgt := 152) hx hb dX6_readPart_147 (by decide) ?_
                  have en_221 : ((-13) : Int32).toInt = (-13) := by decide
                  refine zwVv (As := [.int (-13)]) (rest := []) (C := RX6) (n := 1) (wr := []) ⟨hx, hb, hml, hown, ht⟩ (k_X6_readOther l D _ h0 h1 h2 h3 h4 h5 fa pl mo ki wo si op s0 sp n cn f fw fc d ih (-13) (by first | decide | omega) (by first | decide | omega) (by first | decide | omega) (by first | decide | omega) (by first | decide | omega) (by first | decide | omega) (by first | decide | omega)) (zgV ml_X6_213 im_X6_readOther se_X6_readOther in_X6 co_X6_readOther) rfl rfl (by decide +kernel) ⟨by show 40 * d + 12 + 1 ≤ 40 * d + 20; omega, by show 8 + (2 + 11) + (2400 * d + 720) ≤ 2400 * d + 1200; omega⟩ hK hP hD hS hA [0, 1, 2, 3, 4, 5] [] rfl rfl rfl rfl (by decide) 0 rfl rfl rfl rfl hl.1 rfl (Nat.le_of_ble_eq_true rfl) dX6_readPart_152 ⟨Nat.le_of_ble_eq_true rfl, Nat.le_of_ble_eq_true rfl⟩ (fun u_222 H locs hw hP hD hS => ?_)
                  obtain ⟨x_224, x_225, x_226, n_227, n_228, x_229, x_230, n_231, f_232⟩ := u_222
                  have hP : va_P D vwCl [(h0, .inr (6, [.int x_224, .int x_225, .ref h1, .ref h2, .ref h3, .int mo, .int (nI (op)), .int x_226, .int (nI (n_227)), .int (nI (n_228)), .int x_229, .int x_230])), (h1, .inr (9, [.ref h4, .int (nI (n))])), (h4, .inl (D.1 13, 1600, .inl f)), (h2, .inl (D.1 14, 179, .inl fw)), (h3, .inr (0, [.ref h5, .int (nI (n_231))])), (h5, .inl (D.1 13, 1600, .inl f_232))] H := hP
                  have hD : va_D A [(h0, .inr (6, [.int x_224, .int x_225, .ref h1, .ref h2, .ref h3, .int mo, .int (nI (op)), .int x_226, .int (nI (n_227)), .int (nI (n_228)), .int x_229, .int x_230])), (h1, .inr (9, [.ref h4, .int (nI (n))])), (h4, .inl (D.1 13, 1600, .inl f)), (h2, .inl (D.1 14, 179, .inl fw)), (h3, .inr (0, [.ref h5, .int (nI (n_231))])), (h5, .inl (D.1 13, 1600, .inl f_232))] := hD
                  have hw_233 : n_227 ≤ n_228 ∧ n_228 ≤ n ∧ sp ≤ n_228 ∧ (¬ x_224.toInt = 0 → x_226.toInt = 0) ∧ n_231 ≤ 1600 := hw
                  refine lv_goto (tgt := 196) hx hb dX6_readPart_155 (by decide) ?_
                  have hP9 := hP.sub (ws' := [(h0, .inr (6, [.int x_224, .int x_225, .ref h1, .ref h2, .ref h3, .int mo, .int (nI op), .int x_226, .int (nI n_227), .int (nI n_228), .int x_229, .int x_230])), (h1, .inr (9, [.ref h4, .int (nI n)])), (h4, .inl (D.1 13, 1600, .inl f)), (h2, .inl (D.1 14, 179, .inl fw)), (h3, .inr (0, [.ref h5, .int (nI n_231)])), (h5, .inl (D.1 13, 1600, .inl f_232))]) [0, 1, 2, 3, 4, 5] rfl
                  have hD9 := hD.sub (ws' := [(h0, .inr (6, [.int x_224, .int x_225, .ref h1, .ref h2, .ref h3, .int mo, .int (nI op), .int x_226, .int (nI n_227), .int (nI n_228), .int x_229, .int x_230])), (h1, .inr (9, [.ref h4, .int (nI n)])), (h4, .inl (D.1 13, 1600, .inl f)), (h2, .inl (D.1 14, 179, .inl fw)), (h3, .inr (0, [.ref h5, .int (nI n_231)])), (h5, .inl (D.1 13, 1600, .inl f_232))]) [0, 1, 2, 3, 4, 5] (by decide) rfl
                  refine W.widen (k := 0) (n := 0) (Nat.le_of_ble_eq_true rfl) (Nat.le_of_ble_eq_true rfl) ?_
                  exact W.vret hx hb hr (fun t ht hW => ⟨⟨(x_224, x_225, x_226, n_227, n_228, x_229, x_230, n_231, f_232), rfl, (by first | omega | (dsimp only; omega)), by rw [ht]; exact hP9, va_K.moved hW.alike hK, hD9⟩, hS.F ht⟩) hS.2.2 dX6_readPart_196
                · skip
                  refine lv_if_eq (tgt := 150) hx hb dX6_readPart_142 (by decide) (fun _ => ?_) (fun c_234 => (z_abs c_234 (by decide)).elim)
                  refine lv_bipush (v := (-14)) hx hb dX6_readPart_150 (by decide) ?_
                  have en_236 : ((-14) : Int32).toInt = (-14) := by decide
                  refine zwVv (As := [.int (-14)]) (rest := []) (C := RX6) (n := 1) (wr := []) ⟨hx, hb, hml, hown, ht⟩ (k_X6_readOther l D _ h0 h1 h2 h3 h4 h5 fa pl mo ki wo si op s0 sp n cn f fw fc d ih (-14) (by first | decide | omega) (by first | decide | omega) (by first | decide | omega) (by first | decide | omega) (by first | decide | omega) (by first | decide | omega) (by first | decide | omega)) (zgV ml_X6_213 im_X6_readOther se_X6_readOther in_X6 co_X6_readOther) rfl rfl (by decide +kernel) ⟨by show 40 * d + 12 + 1 ≤ 40 * d + 20; omega, by show 8 + (2 + 11) + (2400 * d + 720) ≤ 2400 * d + 1200; omega⟩ hK hP hD hS hA [0, 1, 2, 3, 4, 5] [] rfl rfl rfl rfl (by decide) 0 rfl rfl rfl rfl hl.1 rfl (Nat.le_of_ble_eq_true rfl) dX6_readPart_152 ⟨Nat.le_of_ble_eq_true rfl, Nat.le_of_ble_eq_true rfl⟩ (fun u_237 H locs hw hP hD hS => ?_)
                  obtain ⟨x_239, x_240, x_241, n_242, n_243, x_244, x_245, n_246, f_247⟩ := u_237
                  have hP : va_P D vwCl [(h0, .inr (6, [.int x_239, .int x_240, .ref h1, .ref h2, .ref h3, .int mo, .int (nI (op)), .int x_241, .int (nI (n_242)), .int (nI (n_243)), .int x_244, .int x_245])), (h1, .inr (9, [.ref h4, .int (nI (n))])), (h4, .inl (D.1 13, 1600, .inl f)), (h2, .inl (D.1 14, 179, .inl fw)), (h3, .inr (0, [.ref h5, .int (nI (n_246))])), (h5, .inl (D.1 13, 1600, .inl f_247))] H := hP
                  have hD : va_D A [(h0, .inr (6, [.int x_239, .int x_240, .ref h1, .ref h2, .ref h3, .int mo, .int (nI (op)), .int x_241, .int (nI (n_242)), .int (nI (n_243)), .int x_244, .int x_245])), (h1, .inr (9, [.ref h4, .int (nI (n))])), (h4, .inl (D.1 13, 1600, .inl f)), (h2, .inl (D.1 14, 179, .inl fw)), (h3, .inr (0, [.ref h5, .int (nI (n_246))])), (h5, .inl (D.1 13, 1600, .inl f_247))] := hD
                  have hw_248 : n_242 ≤ n_243 ∧ n_243 ≤ n ∧ sp ≤ n_243 ∧ (¬ x_239.toInt = 0 → x_241.toInt = 0) ∧ n_246 ≤ 1600 := hw
                  refine lv_goto (tgt := 196) hx hb dX6_readPart_155 (by decide) ?_
                  have hP9 := hP.sub (ws' := [(h0, .inr (6, [.int x_239, .int x_240, .ref h1, .ref h2, .ref h3, .int mo, .int (nI op), .int x_241, .int (nI n_242), .int (nI n_243), .int x_244, .int x_245])), (h1, .inr (9, [.ref h4, .int (nI n)])), (h4, .inl (D.1 13, 1600, .inl f)), (h2, .inl (D.1 14, 179, .inl fw)), (h3, .inr (0, [.ref h5, .int (nI n_246)])), (h5, .inl (D.1 13, 1600, .inl f_247))]) [0, 1, 2, 3, 4, 5] rfl
                  have hD9 := hD.sub (ws' := [(h0, .inr (6, [.int x_239, .int x_240, .ref h1, .ref h2, .ref h3, .int mo, .int (nI op), .int x_241, .int (nI n_242), .int (nI n_243), .int x_244, .int x_245])), (h1, .inr (9, [.ref h4, .int (nI n)])), (h4, .inl (D.1 13, 1600, .inl f)), (h2, .inl (D.1 14, 179, .inl fw)), (h3, .inr (0, [.ref h5, .int (nI n_246)])), (h5, .inl (D.1 13, 1600, .inl f_247))]) [0, 1, 2, 3, 4, 5] (by decide) rfl
                  refine W.widen (k := 0) (n := 0) (Nat.le_of_ble_eq_true rfl) (Nat.le_of_ble_eq_true rfl) ?_
                  exact W.vret hx hb hr (fun t ht hW => ⟨⟨(x_239, x_240, x_241, n_242, n_243, x_244, x_245, n_246, f_247), rfl, (by first | omega | (dsimp only; omega)), by rw [ht]; exact hP9, va_K.moved hW.alike hK, hD9⟩, hS.F ht⟩) hS.2.2 dX6_readPart_196
              · skip
                refine lv_if_eq (tgt := 158) hx hb dX6_readPart_132 (by decide) (fun _ => ?_) (fun c_249 => (z_abs c_249 (by decide)).elim)
                refine lv_aload_n hx hb dX6_readPart_158 rfl (lv_at hl 0 rfl) ?_
                refine zcV (As := []) (rest := []) (C := RX6) (n := 0) ⟨hx, hb, hml, hown, ht⟩ (k_X6_isFact l D h0 h1 h2 h3 fa pl mo ki wo si op s0 sp) (zgV ml_X6_216 im_X6_isFact se_X6_isFact in_X6 co_X6_isFact) rfl rfl (by decide +kernel) ⟨by show 0 + 1 ≤ 40 * d + 20; omega, by show 8 + (1 + 11) + 0 ≤ 2400 * d + 1200; omega⟩ hK hP hS [0] rfl 0 rfl rfl rfl rfl hl.1 rfl (Nat.le_of_ble_eq_true rfl) dX6_readPart_159 ⟨Nat.le_of_ble_eq_true rfl, Nat.le_of_ble_eq_true rfl⟩ (fun r_251 H locs hw hP hS => ?_)
                rcases hw with rfl | rfl
                · skip
                  refine lv_if_eq (tgt := 186) hx hb dX6_readPart_162 (by decide) (fun _ => ?_) (fun c_252 => (z_abs c_252 (by decide)).elim)
                  refine lv_aload_n hx hb dX6_readPart_186 rfl (lv_at hl 0 rfl) ?_
                  refine lv_iconst (v := 1) hx hb dX6_readPart_187 (by decide) ?_
                  refine lv_aload_n hx hb dX6_readPart_188 rfl (lv_at hl 0 rfl) ?_
                  refine va_get (D := D) (ci := 6) (v := .int (nI s0)) (C := RX6) (T := TX6) (N := 12) hx hb ht inX6 hown hK hP 0 rfl rfl 8 (by decide) (ht (.fieldLink RX6 51 "CloneVolumes$Reader" "start" "I") fl_X6_51) (fun _ h9 => h9) rfl dX6_readPart_189 ?_
                  have en_254 : (1 : Int32).toInt = 1 := by decide
                  have en_255 : (nI s0).toInt = ((s0 : Nat) : Int) := nI_toInt (by omega)
                  refine zwV (As := [.int 1, .int (nI s0)]) (rest := []) (C := RX6) (n := 2) (wr := [(h1, .inr (9, [.ref h4, .int (nI n)])), (h4, .inl (D.1 13, 1600, .inl f)), (h2, .inl (D.1 14, 179, .inl fw)), (h3, .inr (0, [.ref h5, .int (nI cn)])), (h5, .inl (D.1 13, 1600, .inl fc))]) ⟨hx, hb, hml, hown, ht⟩ (k_X6_fail l D _ h0 h1 h2 h3 fa pl mo ki wo si op s0 sp 1 (nI s0) (by first | decide | omega)) (zgV ml_X6_54 im_X6_fail se_X6_fail in_X6 co_X6_fail) rfl rfl (by decide +kernel) ⟨by show 0 + 1 ≤ 40 * d + 20; omega, by show 8 + (3 + 11) + 0 ≤ 2400 * d + 1200; omega⟩ hK hP hD hS hA [0] [1, 2, 3, 4, 5] rfl rfl rfl rfl (by decide) 0 rfl rfl rfl rfl hl.1 rfl (Nat.le_of_ble_eq_true rfl) dX6_readPart_192 ⟨Nat.le_of_ble_eq_true rfl, Nat.le_of_ble_eq_true rfl⟩ (fun r_257 u_256 H locs hw hP hD hS => ?_)
                  obtain ⟨x_258, x_259, x_260⟩ := u_256
                  have hP : va_P D vwCl [(h1, .inr (9, [.ref h4, .int (nI n)])), (h4, .inl (D.1 13, 1600, .inl f)), (h2, .inl (D.1 14, 179, .inl fw)), (h3, .inr (0, [.ref h5, .int (nI cn)])), (h5, .inl (D.1 13, 1600, .inl fc)), (h0, .inr (6, [.int x_258, .int x_259, .ref h1, .ref h2, .ref h3, .int mo, .int (nI (op)), .int x_260, .int (nI (s0)), .int (nI (sp)), .int wo, .int si]))] H := hP
                  have hD : va_D A [(h1, .inr (9, [.ref h4, .int (nI n)])), (h4, .inl (D.1 13, 1600, .inl f)), (h2, .inl (D.1 14, 179, .inl fw)), (h3, .inr (0, [.ref h5, .int (nI cn)])), (h5, .inl (D.1 13, 1600, .inl fc)), (h0, .inr (6, [.int x_258, .int x_259, .ref h1, .ref h2, .ref h3, .int mo, .int (nI (op)), .int x_260, .int (nI (s0)), .int (nI (sp)), .int wo, .int si]))] := hD
                  obtain ⟨hrr, hw⟩ := hw
                  subst hrr
                  have hw_261 : (¬ x_258.toInt = 0 → x_260.toInt = 0) ∧ (¬ (1 : Int32).toInt = 0 → ¬ x_258.toInt = 0) := hw
                  refine lv_pop hx hb dX6_readPart_195 rfl ?_
                  have hP9 := hP.sub (ws' := [(h0, .inr (6, [.int x_258, .int x_259, .ref h1, .ref h2, .ref h3, .int mo, .int (nI op), .int x_260, .int (nI s0), .int (nI sp), .int wo, .int si])), (h1, .inr (9, [.ref h4, .int (nI n)])), (h4, .inl (D.1 13, 1600, .inl f)), (h2, .inl (D.1 14, 179, .inl fw)), (h3, .inr (0, [.ref h5, .int (nI cn)])), (h5, .inl (D.1 13, 1600, .inl fc))]) [5, 0, 1, 2, 3, 4] rfl
                  have hD9 := hD.sub (ws' := [(h0, .inr (6, [.int x_258, .int x_259, .ref h1, .ref h2, .ref h3, .int mo, .int (nI op), .int x_260, .int (nI s0), .int (nI sp), .int wo, .int si])), (h1, .inr (9, [.ref h4, .int (nI n)])), (h4, .inl (D.1 13, 1600, .inl f)), (h2, .inl (D.1 14, 179, .inl fw)), (h3, .inr (0, [.ref h5, .int (nI cn)])), (h5, .inl (D.1 13, 1600, .inl fc))]) [5, 0, 1, 2, 3, 4] (by decide) rfl
                  refine W.widen (k := 0) (n := 0) (Nat.le_of_ble_eq_true rfl) (Nat.le_of_ble_eq_true rfl) ?_
                  exact W.vret hx hb hr (fun t ht hW => ⟨⟨(x_258, x_259, x_260, s0, sp, wo, si, cn, fc), rfl, (by first | omega | (dsimp only; omega)), by rw [ht]; exact hP9, va_K.moved hW.alike hK, hD9⟩, hS.F ht⟩) hS.2.2 dX6_readPart_196
                · skip
                  refine lv_if_eq (tgt := 186) hx hb dX6_readPart_162 (by decide) (fun c_262 => (z_abs c_262 (by decide)).elim) (fun _ => ?_)
                  refine lv_aload_n hx hb dX6_readPart_165 rfl (lv_at hl 0 rfl) ?_
                  refine va_get (D := D) (ci := 6) (v := .ref h3) (C := RX6) (T := TX6) (N := 12) hx hb ht inX6 hown hK hP 0 rfl rfl 4 (by decide) (ht (.fieldLink RX6 84 "CloneVolumes$Reader" "code" "LCloneVolumes$Code;") fl_X6_84) (fun _ h9 => h9) rfl dX6_readPart_166 ?_
                  refine lv_bipush (v := (-100)) hx hb dX6_readPart_169 (by decide) ?_
                  refine lv_aload_n hx hb dX6_readPart_171 rfl (lv_at hl 0 rfl) ?_
                  refine va_get (D := D) (ci := 6) (v := .int wo) (C := RX6) (T := TX6) (N := 12) hx hb ht inX6 hown hK hP 0 rfl rfl 10 (by decide) (ht (.fieldLink RX6 72 "CloneVolumes$Reader" "word" "I") fl_X6_72) (fun _ h9 => h9) rfl dX6_readPart_172 ?_
                  refine lv_isub hx hb dX6_readPart_175 ?_
                  refine lv_topi (fun x_264 ex_264 => ?_)
                  refine zwVv (As := [.int x_264]) (rest := []) (C := RX0) (n := 1) (wr := [(h0, .inr (6, [.int fa, .int pl, .ref h1, .ref h2, .ref h3, .int mo, .int (nI op), .int ki, .int (nI s0), .int (nI sp), .int wo, .int si])), (h1, .inr (9, [.ref h4, .int (nI n)])), (h4, .inl (D.1 13, 1600, .inl f)), (h2, .inl (D.1 14, 179, .inl fw))]) ⟨hx, hb, hml, hown, ht⟩ (k_X0_add l D _ h3 h5 cn fc x_264 (by first | decide | omega)) (zgV ml_X6_191 im_X0_add se_X0_add in_X0 co_X0_add) rfl rfl (by decide +kernel) ⟨by show 0 + 1 ≤ 40 * d + 20; omega, by show 8 + (2 + 11) + 0 ≤ 2400 * d + 1200; omega⟩ hK hP hD hS hA [4, 5] [0, 1, 2, 3] rfl rfl rfl rfl (by decide) 0 rfl rfl rfl rfl hl.1 rfl (Nat.le_of_ble_eq_true rfl) dX6_readPart_176 ⟨Nat.le_of_ble_eq_true rfl, Nat.le_of_ble_eq_true rfl⟩ (fun u_265 H locs hw hP hD hS => ?_)
                  obtain ⟨n_267, f_268⟩ := u_265
                  have hP : va_P D vwCl [(h0, .inr (6, [.int fa, .int pl, .ref h1, .ref h2, .ref h3, .int mo, .int (nI op), .int ki, .int (nI s0), .int (nI sp), .int wo, .int si])), (h1, .inr (9, [.ref h4, .int (nI n)])), (h4, .inl (D.1 13, 1600, .inl f)), (h2, .inl (D.1 14, 179, .inl fw)), (h3, .inr (0, [.ref h5, .int (nI (n_267))])), (h5, .inl (D.1 13, 1600, .inl f_268))] H := hP
                  have hD : va_D A [(h0, .inr (6, [.int fa, .int pl, .ref h1, .ref h2, .ref h3, .int mo, .int (nI op), .int ki, .int (nI s0), .int (nI sp), .int wo, .int si])), (h1, .inr (9, [.ref h4, .int (nI n)])), (h4, .inl (D.1 13, 1600, .inl f)), (h2, .inl (D.1 14, 179, .inl fw)), (h3, .inr (0, [.ref h5, .int (nI (n_267))])), (h5, .inl (D.1 13, 1600, .inl f_268))] := hD
                  have hw_269 : n_267 ≤ 1600 := hw
                  refine lv_aload_n hx hb dX6_readPart_179 rfl (lv_at hl 0 rfl) ?_
                  refine zwVv (As := []) (rest := []) (C := RX6) (n := 0) (wr := [(h3, .inr (0, [.ref h5, .int (nI (n_267))])), (h5, .inl (D.1 13, 1600, .inl f_268))]) ⟨hx, hb, hml, hown, ht⟩ (k_X6_advance l D _ h0 h1 h2 h3 h4 fa pl mo ki wo si op s0 sp n f fw (by first | decide | omega) (by first | decide | omega) (by first | decide | omega) (by first | decide | omega)) (zgV ml_X6_75 im_X6_advance se_X6_advance in_X6 co_X6_advance) rfl rfl (by decide +kernel) ⟨by show 1 + 1 ≤ 40 * d + 20; omega, by show 8 + (2 + 11) + 60 ≤ 2400 * d + 1200; omega⟩ hK hP hD hS hA [0, 1, 2, 3] [4, 5] rfl rfl rfl rfl (by decide) 0 rfl rfl rfl rfl hl.1 rfl (Nat.le_of_ble_eq_true rfl) dX6_readPart_180 ⟨Nat.le_of_ble_eq_true rfl, Nat.le_of_ble_eq_true rfl⟩ (fun u_270 H locs hw hP hD hS => ?_)
                  obtain ⟨x_272, n_273, n_274, x_275, x_276⟩ := u_270
                  have hP : va_P D vwCl [(h3, .inr (0, [.ref h5, .int (nI (n_267))])), (h5, .inl (D.1 13, 1600, .inl f_268)), (h0, .inr (6, [.int fa, .int pl, .ref h1, .ref h2, .ref h3, .int mo, .int (nI (op)), .int x_272, .int (nI (n_273)), .int (nI (n_274)), .int x_275, .int x_276])), (h1, .inr (9, [.ref h4, .int (nI (n))])), (h4, .inl (D.1 13, 1600, .inl f)), (h2, .inl (D.1 14, 179, .inl fw))] H := hP
                  have hD : va_D A [(h3, .inr (0, [.ref h5, .int (nI (n_267))])), (h5, .inl (D.1 13, 1600, .inl f_268)), (h0, .inr (6, [.int fa, .int pl, .ref h1, .ref h2, .ref h3, .int mo, .int (nI (op)), .int x_272, .int (nI (n_273)), .int (nI (n_274)), .int x_275, .int x_276])), (h1, .inr (9, [.ref h4, .int (nI (n))])), (h4, .inl (D.1 13, 1600, .inl f)), (h2, .inl (D.1 14, 179, .inl fw))] := hD
                  have hw_277 : n_273 ≤ n_274 ∧ n_274 ≤ n ∧ sp ≤ n_274 ∧ (x_272.toInt = 0 ∨ (sp < n_274 ∧ n_273 < n_274)) ∧ (¬ fa.toInt = 0 → x_272.toInt = 0) := hw
                  refine lv_goto (tgt := 196) hx hb dX6_readPart_183 (by decide) ?_
                  have hP9 := hP.sub (ws' := [(h0, .inr (6, [.int fa, .int pl, .ref h1, .ref h2, .ref h3, .int mo, .int (nI op), .int x_272, .int (nI n_273), .int (nI n_274), .int x_275, .int x_276])), (h1, .inr (9, [.ref h4, .int (nI n)])), (h4, .inl (D.1 13, 1600, .inl f)), (h2, .inl (D.1 14, 179, .inl fw)), (h3, .inr (0, [.ref h5, .int (nI n_267)])), (h5, .inl (D.1 13, 1600, .inl f_268))]) [2, 3, 4, 5, 0, 1] rfl
                  have hD9 := hD.sub (ws' := [(h0, .inr (6, [.int fa, .int pl, .ref h1, .ref h2, .ref h3, .int mo, .int (nI op), .int x_272, .int (nI n_273), .int (nI n_274), .int x_275, .int x_276])), (h1, .inr (9, [.ref h4, .int (nI n)])), (h4, .inl (D.1 13, 1600, .inl f)), (h2, .inl (D.1 14, 179, .inl fw)), (h3, .inr (0, [.ref h5, .int (nI n_267)])), (h5, .inl (D.1 13, 1600, .inl f_268))]) [2, 3, 4, 5, 0, 1] (by decide) rfl
                  refine W.widen (k := 0) (n := 0) (Nat.le_of_ble_eq_true rfl) (Nat.le_of_ble_eq_true rfl) ?_
                  exact W.vret hx hb hr (fun t ht hW => ⟨⟨(fa, pl, x_272, n_273, n_274, x_275, x_276, n_267, f_268), rfl, (by first | omega | (dsimp only; omega)), by rw [ht]; exact hP9, va_K.moved hW.alike hK, hD9⟩, hS.F ht⟩) hS.2.2 dX6_readPart_196
  · have g_2 : ki.toInt = 2 := z_eq rfl (by decide) c_1
    refine lv_aload_n hx hb dX6_readPart_8 rfl (lv_at hl 0 rfl) ?_
    refine va_get (D := D) (ci := 6) (v := .ref h3) (C := RX6) (T := TX6) (N := 12) hx hb ht inX6 hown hK hP 0 rfl rfl 4 (by decide) (ht (.fieldLink RX6 84 "CloneVolumes$Reader" "code" "LCloneVolumes$Code;") fl_X6_84) (fun _ h9 => h9) rfl dX6_readPart_9 ?_
    refine lv_aload_n hx hb dX6_readPart_12 rfl (lv_at hl 0 rfl) ?_
    refine lv_iconst (v := 0) hx hb dX6_readPart_13 (by decide) ?_
    refine lv_ldc (own := RX6) (v := 1000000) hx hb hown (ht _ ck_X6_209) dX6_readPart_14 ?_
    have en_278 : (0 : Int32).toInt = 0 := by decide
    have en_279 : (1000000 : Int32).toInt = 1000000 := by decide
    refine zwV (As := [.int 0, .int 1000000]) (rest := [.ref h3]) (C := RX6) (n := 2) (wr := [(h3, .inr (0, [.ref h5, .int (nI cn)])), (h5, .inl (D.1 13, 1600, .inl fc))]) ⟨hx, hb, hml, hown, ht⟩ (k_X6_expectNumber l D _ h0 h1 h2 h3 h4 fa pl mo ki wo si op s0 sp n f fw 0 1000000 (by first | decide | omega) (by first | decide | omega) (by first | decide | omega) (by first | decide | omega) (by first | decide | omega) (by first | decide | omega)) (zgV ml_X6_151 im_X6_expectNumber se_X6_expectNumber in_X6 co_X6_expectNumber) rfl rfl (by decide +kernel) ⟨by show 2 + 1 ≤ 40 * d + 20; omega, by show 8 + (5 + 11) + 120 ≤ 2400 * d + 1200; omega⟩ hK hP hD hS hA [0, 1, 2, 3] [4, 5] rfl rfl rfl rfl (by decide) 0 rfl rfl rfl rfl hl.1 rfl (Nat.le_of_ble_eq_true rfl) dX6_readPart_16 ⟨Nat.le_of_ble_eq_true rfl, Nat.le_of_ble_eq_true rfl⟩ (fun r_281 u_280 H locs hw hP hD hS => ?_)
    obtain ⟨x_282, x_283, x_284, n_285, n_286, x_287, x_288⟩ := u_280
    have hP : va_P D vwCl [(h3, .inr (0, [.ref h5, .int (nI cn)])), (h5, .inl (D.1 13, 1600, .inl fc)), (h0, .inr (6, [.int x_282, .int x_283, .ref h1, .ref h2, .ref h3, .int mo, .int (nI (op)), .int x_284, .int (nI (n_285)), .int (nI (n_286)), .int x_287, .int x_288])), (h1, .inr (9, [.ref h4, .int (nI (n))])), (h4, .inl (D.1 13, 1600, .inl f)), (h2, .inl (D.1 14, 179, .inl fw))] H := hP
    have hD : va_D A [(h3, .inr (0, [.ref h5, .int (nI cn)])), (h5, .inl (D.1 13, 1600, .inl fc)), (h0, .inr (6, [.int x_282, .int x_283, .ref h1, .ref h2, .ref h3, .int mo, .int (nI (op)), .int x_284, .int (nI (n_285)), .int (nI (n_286)), .int x_287, .int x_288])), (h1, .inr (9, [.ref h4, .int (nI (n))])), (h4, .inl (D.1 13, 1600, .inl f)), (h2, .inl (D.1 14, 179, .inl fw))] := hD
    have hw_289 : n_285 ≤ n_286 ∧ n_286 ≤ n ∧ sp ≤ n_286 ∧ (¬ x_282.toInt = 0 → x_284.toInt = 0) ∧ (0 : Int32).toInt ≤ r_281.toInt ∧ r_281.toInt ≤ (1000000 : Int32).toInt := hw
    refine zwVv (As := [.int r_281]) (rest := []) (C := RX0) (n := 1) (wr := [(h0, .inr (6, [.int x_282, .int x_283, .ref h1, .ref h2, .ref h3, .int mo, .int (nI (op)), .int x_284, .int (nI (n_285)), .int (nI (n_286)), .int x_287, .int x_288])), (h1, .inr (9, [.ref h4, .int (nI (n))])), (h4, .inl (D.1 13, 1600, .inl f)), (h2, .inl (D.1 14, 179, .inl fw))]) ⟨hx, hb, hml, hown, ht⟩ (k_X0_add l D _ h3 h5 cn fc r_281 (by first | decide | omega)) (zgV ml_X6_191 im_X0_add se_X0_add in_X0 co_X0_add) rfl rfl (by decide +kernel) ⟨by show 0 + 1 ≤ 40 * d + 20; omega, by show 8 + (2 + 11) + 0 ≤ 2400 * d + 1200; omega⟩ hK hP hD hS hA [0, 1] [2, 3, 4, 5] rfl rfl rfl rfl (by decide) 0 rfl rfl rfl rfl hl.1 rfl (Nat.le_of_ble_eq_true rfl) dX6_readPart_19 ⟨Nat.le_of_ble_eq_true rfl, Nat.le_of_ble_eq_true rfl⟩ (fun u_290 H locs hw hP hD hS => ?_)
    obtain ⟨n_292, f_293⟩ := u_290
    have hP : va_P D vwCl [(h0, .inr (6, [.int x_282, .int x_283, .ref h1, .ref h2, .ref h3, .int mo, .int (nI (op)), .int x_284, .int (nI (n_285)), .int (nI (n_286)), .int x_287, .int x_288])), (h1, .inr (9, [.ref h4, .int (nI (n))])), (h4, .inl (D.1 13, 1600, .inl f)), (h2, .inl (D.1 14, 179, .inl fw)), (h3, .inr (0, [.ref h5, .int (nI (n_292))])), (h5, .inl (D.1 13, 1600, .inl f_293))] H := hP
    have hD : va_D A [(h0, .inr (6, [.int x_282, .int x_283, .ref h1, .ref h2, .ref h3, .int mo, .int (nI (op)), .int x_284, .int (nI (n_285)), .int (nI (n_286)), .int x_287, .int x_288])), (h1, .inr (9, [.ref h4, .int (nI (n))])), (h4, .inl (D.1 13, 1600, .inl f)), (h2, .inl (D.1 14, 179, .inl fw)), (h3, .inr (0, [.ref h5, .int (nI (n_292))])), (h5, .inl (D.1 13, 1600, .inl f_293))] := hD
    have hw_294 : n_292 ≤ 1600 := hw
    refine lv_goto (tgt := 196) hx hb dX6_readPart_22 (by decide) ?_
    have hP9 := hP.sub (ws' := [(h0, .inr (6, [.int x_282, .int x_283, .ref h1, .ref h2, .ref h3, .int mo, .int (nI op), .int x_284, .int (nI n_285), .int (nI n_286), .int x_287, .int x_288])), (h1, .inr (9, [.ref h4, .int (nI n)])), (h4, .inl (D.1 13, 1600, .inl f)), (h2, .inl (D.1 14, 179, .inl fw)), (h3, .inr (0, [.ref h5, .int (nI n_292)])), (h5, .inl (D.1 13, 1600, .inl f_293))]) [0, 1, 2, 3, 4, 5] rfl
    have hD9 := hD.sub (ws' := [(h0, .inr (6, [.int x_282, .int x_283, .ref h1, .ref h2, .ref h3, .int mo, .int (nI op), .int x_284, .int (nI n_285), .int (nI n_286), .int x_287, .int x_288])), (h1, .inr (9, [.ref h4, .int (nI n)])), (h4, .inl (D.1 13, 1600, .inl f)), (h2, .inl (D.1 14, 179, .inl fw)), (h3, .inr (0, [.ref h5, .int (nI n_292)])), (h5, .inl (D.1 13, 1600, .inl f_293))]) [0, 1, 2, 3, 4, 5] (by decide) rfl
    refine W.widen (k := 0) (n := 0) (Nat.le_of_ble_eq_true rfl) (Nat.le_of_ble_eq_true rfl) ?_
    exact W.vret hx hb hr (fun t ht hW => ⟨⟨(x_282, x_283, x_284, n_285, n_286, x_287, x_288, n_292, f_293), rfl, (by first | omega | (dsimp only; omega)), by rw [ht]; exact hP9, va_K.moved hW.alike hK, hD9⟩, hS.F ht⟩) hS.2.2 dX6_readPart_196
