theorem ck_X3_84 : Cond.constant RX3 84 1000000 ∈ lw_gd := zm (List.mem_of_getElem? (i := 971) (by decide +kernel)) rfl
theorem ck_X3_87 : Cond.constant RX3 87 (-1000000) ∈ lw_gd := zm (List.mem_of_getElem? (i := 973) (by decide +kernel)) rfl
theorem cl_X3_82 : Cond.constantLong RX3 82 1000000 ∈ lw_gd := zm (List.mem_of_getElem? (i := 970) (by decide +kernel)) rfl
theorem cl_X3_85 : Cond.constantLong RX3 85 (-1000000) ∈ lw_gd := zm (List.mem_of_getElem? (i := 972) (by decide +kernel)) rfl
theorem co_X3_changed : Cond.code yX3_changed cX3_changed 3 (some .int) ∈ lw_gd := zm (List.mem_of_getElem? (i := 966) (by decide +kernel)) rfl
theorem co_X3_fact : Cond.code yX3_fact cX3_fact 2 (some .int) ∈ lw_gd := zm (List.mem_of_getElem? (i := 958) (by decide +kernel)) rfl
theorem co_X3_joined : Cond.code yX3_joined cX3_joined 5 (some .int) ∈ lw_gd := zm (List.mem_of_getElem? (i := 969) (by decide +kernel)) rfl
theorem co_X3_pop : Cond.code yX3_pop cX3_pop 1 (some .int) ∈ lw_gd := zm (List.mem_of_getElem? (i := 962) (by decide +kernel)) rfl
theorem co_X3_push : Cond.code yX3_push cX3_push 2 none ∈ lw_gd := zm (List.mem_of_getElem? (i := 954) (by decide +kernel)) rfl
theorem co_X3_value : Cond.code yX3_value cX3_value 7 (some .int) ∈ lw_gd := zm (List.mem_of_getElem? (i := 950) (by decide +kernel)) rfl
theorem co_X8_isFree : Cond.code yX8_isFree cX8_isFree 2 (some .boolean) ∈ lw_gd := zm (List.mem_of_getElem? (i := 942) (by decide +kernel)) rfl
theorem fl_X1_117 : Cond.fieldLink RX1 117 "CloneVolumes$State" "blocks" "I" ∈ lw_gd := zm (List.mem_of_getElem? (i := 555) (by decide +kernel)) rfl
theorem fl_X1_144 : Cond.fieldLink RX1 144 "CloneVolumes$Plan" "begins" "[I" ∈ lw_gd := zm (List.mem_of_getElem? (i := 503) (by decide +kernel)) rfl
theorem fl_X1_147 : Cond.fieldLink RX1 147 "CloneVolumes$Machine" "number" "I" ∈ lw_gd := zm (List.mem_of_getElem? (i := 633) (by decide +kernel)) rfl
theorem fl_X1_153 : Cond.fieldLink RX1 153 "CloneVolumes$Machine" "level" "I" ∈ lw_gd := zm (List.mem_of_getElem? (i := 637) (by decide +kernel)) rfl
theorem fl_X1_161 : Cond.fieldLink RX1 161 "CloneVolumes$Plan" "code" "LCloneVolumes$Code;" ∈ lw_gd := zm (List.mem_of_getElem? (i := 500) (by decide +kernel)) rfl
theorem fl_X1_165 : Cond.fieldLink RX1 165 "CloneVolumes$Plan" "ends" "[I" ∈ lw_gd := zm (List.mem_of_getElem? (i := 506) (by decide +kernel)) rfl
theorem fl_X1_201 : Cond.fieldLink RX1 201 "CloneVolumes$Machine" "source" "I" ∈ lw_gd := zm (List.mem_of_getElem? (i := 635) (by decide +kernel)) rfl
theorem fl_X1_33 : Cond.fieldLink RX1 33 "CloneVolumes$Forest" "machine" "LCloneVolumes$Machine;" ∈ lw_gd := zm (List.mem_of_getElem? (i := 677) (by decide +kernel)) rfl
theorem fl_X1_47 : Cond.fieldLink RX1 47 "CloneVolumes$Forest" "plan" "LCloneVolumes$Plan;" ∈ lw_gd := zm (List.mem_of_getElem? (i := 676) (by decide +kernel)) rfl
theorem fl_X3_11 : Cond.fieldLink RX3 11 "CloneVolumes$Machine" "stack" "[I" ∈ lw_gd := zm (List.mem_of_getElem? (i := 630) (by decide +kernel)) rfl
theorem fl_X3_15 : Cond.fieldLink RX3 15 "CloneVolumes$Machine" "state" "LCloneVolumes$State;" ∈ lw_gd := zm (List.mem_of_getElem? (i := 646) (by decide +kernel)) rfl
theorem fl_X3_19 : Cond.fieldLink RX3 19 "CloneVolumes$Machine" "top" "I" ∈ lw_gd := zm (List.mem_of_getElem? (i := 631) (by decide +kernel)) rfl
theorem fl_X3_23 : Cond.fieldLink RX3 23 "CloneVolumes$Code" "size" "I" ∈ lw_gd := zm (List.mem_of_getElem? (i := 457) (by decide +kernel)) rfl
theorem fl_X3_28 : Cond.fieldLink RX3 28 "CloneVolumes$Code" "steps" "[I" ∈ lw_gd := zm (List.mem_of_getElem? (i := 455) (by decide +kernel)) rfl
theorem fl_X3_51 : Cond.fieldLink RX3 51 "CloneVolumes$Machine" "number" "I" ∈ lw_gd := zm (List.mem_of_getElem? (i := 632) (by decide +kernel)) rfl
theorem fl_X3_54 : Cond.fieldLink RX3 54 "CloneVolumes$Machine" "source" "I" ∈ lw_gd := zm (List.mem_of_getElem? (i := 634) (by decide +kernel)) rfl
theorem fl_X3_57 : Cond.fieldLink RX3 57 "CloneVolumes$Machine" "level" "I" ∈ lw_gd := zm (List.mem_of_getElem? (i := 636) (by decide +kernel)) rfl
theorem fl_X3_60 : Cond.fieldLink RX3 60 "CloneVolumes$Machine" "entries" "I" ∈ lw_gd := zm (List.mem_of_getElem? (i := 638) (by decide +kernel)) rfl
theorem fl_X3_63 : Cond.fieldLink RX3 63 "CloneVolumes$Machine" "count" "I" ∈ lw_gd := zm (List.mem_of_getElem? (i := 640) (by decide +kernel)) rfl
theorem fl_X3_66 : Cond.fieldLink RX3 66 "CloneVolumes$Machine" "fresh" "I" ∈ lw_gd := zm (List.mem_of_getElem? (i := 642) (by decide +kernel)) rfl
theorem fl_X3_69 : Cond.fieldLink RX3 69 "CloneVolumes$Machine" "saved" "I" ∈ lw_gd := zm (List.mem_of_getElem? (i := 644) (by decide +kernel)) rfl
theorem fl_X3_72 : Cond.fieldLink RX3 72 "CloneVolumes$State" "blocks" "I" ∈ lw_gd := zm (List.mem_of_getElem? (i := 556) (by decide +kernel)) rfl
theorem fl_X3_77 : Cond.fieldLink RX3 77 "CloneVolumes$State" "count" "[I" ∈ lw_gd := zm (List.mem_of_getElem? (i := 566) (by decide +kernel)) rfl
theorem fl_X3_79 : Cond.fieldLink RX3 79 "CloneVolumes$State" "keys" "[I" ∈ lw_gd := zm (List.mem_of_getElem? (i := 585) (by decide +kernel)) rfl
theorem im_X3_changed : Cond.instanceMethod yX3_changed ∈ lw_gd := zm (List.mem_of_getElem? (i := 965) (by decide +kernel)) rfl
theorem im_X3_fact : Cond.instanceMethod yX3_fact ∈ lw_gd := zm (List.mem_of_getElem? (i := 957) (by decide +kernel)) rfl
theorem im_X3_pop : Cond.instanceMethod yX3_pop ∈ lw_gd := zm (List.mem_of_getElem? (i := 961) (by decide +kernel)) rfl
theorem im_X3_push : Cond.instanceMethod yX3_push ∈ lw_gd := zm (List.mem_of_getElem? (i := 953) (by decide +kernel)) rfl
theorem im_X3_value : Cond.instanceMethod yX3_value ∈ lw_gd := zm (List.mem_of_getElem? (i := 948) (by decide +kernel)) rfl
theorem im_X8_isFree : Cond.instanceMethod yX8_isFree ∈ lw_gd := zm (List.mem_of_getElem? (i := 940) (by decide +kernel)) rfl
theorem in_X3 : Cond.initialized RX3 ∈ lw_gd := zm (List.mem_of_getElem? (i := 213) (by decide +kernel)) rfl
theorem ml_X1_168 : Cond.methodLink RX1 168 yX3_value ∈ lw_gd := zm (List.mem_of_getElem? (i := 947) (by decide +kernel)) rfl
theorem ml_X1_204 : Cond.methodLink RX1 204 yX8_isFree ∈ lw_gd := zm (List.mem_of_getElem? (i := 939) (by decide +kernel)) rfl
theorem ml_X1_207 : Cond.methodLink RX1 207 yX8_mark ∈ lw_gd := zm (List.mem_of_getElem? (i := 974) (by decide +kernel)) rfl
theorem ml_X3_31 : Cond.methodLink RX3 31 yX3_push ∈ lw_gd := zm (List.mem_of_getElem? (i := 951) (by decide +kernel)) rfl
theorem ml_X3_35 : Cond.methodLink RX3 35 yX3_fact ∈ lw_gd := zm (List.mem_of_getElem? (i := 955) (by decide +kernel)) rfl
theorem ml_X3_39 : Cond.methodLink RX3 39 yX3_pop ∈ lw_gd := zm (List.mem_of_getElem? (i := 959) (by decide +kernel)) rfl
theorem ml_X3_43 : Cond.methodLink RX3 43 yX3_changed ∈ lw_gd := zm (List.mem_of_getElem? (i := 963) (by decide +kernel)) rfl
theorem ml_X3_47 : Cond.methodLink RX3 47 yX3_joined ∈ lw_gd := zm (List.mem_of_getElem? (i := 967) (by decide +kernel)) rfl
theorem se_X3_changed : Cond.selects RX3 yX3_changed yX3_changed ∈ lw_gd := zm (List.mem_of_getElem? (i := 33) (by decide +kernel)) rfl
theorem se_X3_fact : Cond.selects RX3 yX3_fact yX3_fact ∈ lw_gd := zm (List.mem_of_getElem? (i := 31) (by decide +kernel)) rfl
theorem se_X3_pop : Cond.selects RX3 yX3_pop yX3_pop ∈ lw_gd := zm (List.mem_of_getElem? (i := 32) (by decide +kernel)) rfl
theorem se_X3_push : Cond.selects RX3 yX3_push yX3_push ∈ lw_gd := zm (List.mem_of_getElem? (i := 30) (by decide +kernel)) rfl
theorem se_X3_value : Cond.selects RX3 yX3_value yX3_value ∈ lw_gd := zm (List.mem_of_getElem? (i := 949) (by decide +kernel)) rfl
theorem se_X8_isFree : Cond.selects RX8 yX8_isFree yX8_isFree ∈ lw_gd := zm (List.mem_of_getElem? (i := 941) (by decide +kernel)) rfl
theorem st_X3_joined : Cond.static yX3_joined ∈ lw_gd := zm (List.mem_of_getElem? (i := 968) (by decide +kernel)) rfl
theorem dX1_take_0 : decode cX1_take 0 = .ok (.iconst (-1), 1) := by decide +kernel
theorem dX1_take_1 : decode cX1_take 1 = .ok (.istore_n 3, 1) := by decide +kernel
theorem dX1_take_2 : decode cX1_take 2 = .ok (.iconst 0, 1) := by decide +kernel
theorem dX1_take_3 : decode cX1_take 3 = .ok (.istore 4, 2) := by decide +kernel
theorem dX1_take_5 : decode cX1_take 5 = .ok (.aload_n 0, 1) := by decide +kernel
theorem dX1_take_6 : decode cX1_take 6 = .ok (.getfield 47, 3) := by decide +kernel
theorem dX1_take_9 : decode cX1_take 9 = .ok (.getfield 144, 3) := by decide +kernel
theorem dX1_take_12 : decode cX1_take 12 = .ok (.iconst 0, 1) := by decide +kernel
theorem dX1_take_13 : decode cX1_take 13 = .ok (.iaload, 1) := by decide +kernel
theorem dX1_take_14 : decode cX1_take 14 = .ok (.iconst (-1), 1) := by decide +kernel
theorem dX1_take_15 : decode cX1_take 15 = .ok (.if_icmp .eq 7, 3) := by decide +kernel
theorem dX1_take_18 : decode cX1_take 18 = .ok (.iconst 1, 1) := by decide +kernel
theorem dX1_take_19 : decode cX1_take 19 = .ok (.goto 4, 3) := by decide +kernel
theorem dX1_take_22 : decode cX1_take 22 = .ok (.iconst 0, 1) := by decide +kernel
theorem dX1_take_23 : decode cX1_take 23 = .ok (.istore 5, 2) := by decide +kernel
theorem dX1_take_25 : decode cX1_take 25 = .ok (.aload_n 0, 1) := by decide +kernel
theorem dX1_take_26 : decode cX1_take 26 = .ok (.getfield 33, 3) := by decide +kernel
theorem dX1_take_29 : decode cX1_take 29 = .ok (.iload_n 1, 1) := by decide +kernel
theorem dX1_take_30 : decode cX1_take 30 = .ok (.putfield 153, 3) := by decide +kernel
theorem dX1_take_33 : decode cX1_take 33 = .ok (.aload_n 0, 1) := by decide +kernel
theorem dX1_take_34 : decode cX1_take 34 = .ok (.getfield 33, 3) := by decide +kernel
theorem dX1_take_37 : decode cX1_take 37 = .ok (.iload_n 2, 1) := by decide +kernel
theorem dX1_take_38 : decode cX1_take 38 = .ok (.putfield 201, 3) := by decide +kernel
theorem dX1_take_41 : decode cX1_take 41 = .ok (.iconst 0, 1) := by decide +kernel
theorem dX1_take_42 : decode cX1_take 42 = .ok (.istore 6, 2) := by decide +kernel
theorem dX1_take_44 : decode cX1_take 44 = .ok (.iload 6, 2) := by decide +kernel
theorem dX1_take_46 : decode cX1_take 46 = .ok (.aload_n 0, 1) := by decide +kernel
theorem dX1_take_47 : decode cX1_take 47 = .ok (.getfield 12, 3) := by decide +kernel
theorem dX1_take_50 : decode cX1_take 50 = .ok (.getfield 117, 3) := by decide +kernel
theorem dX1_take_53 : decode cX1_take 53 = .ok (.if_icmp .ge 93, 3) := by decide +kernel
theorem dX1_take_56 : decode cX1_take 56 = .ok (.aload_n 0, 1) := by decide +kernel
theorem dX1_take_57 : decode cX1_take 57 = .ok (.getfield 12, 3) := by decide +kernel
theorem dX1_take_60 : decode cX1_take 60 = .ok (.iload 6, 2) := by decide +kernel
theorem dX1_take_62 : decode cX1_take 62 = .ok (.invokevirtual 204, 3) := by decide +kernel
theorem dX1_take_65 : decode cX1_take 65 = .ok (.ifCond .eq 75, 3) := by decide +kernel
theorem dX1_take_68 : decode cX1_take 68 = .ok (.aload_n 0, 1) := by decide +kernel
theorem dX1_take_69 : decode cX1_take 69 = .ok (.getfield 33, 3) := by decide +kernel
theorem dX1_take_72 : decode cX1_take 72 = .ok (.iload 6, 2) := by decide +kernel
theorem dX1_take_74 : decode cX1_take 74 = .ok (.putfield 147, 3) := by decide +kernel
theorem dX1_take_77 : decode cX1_take 77 = .ok (.iload 5, 2) := by decide +kernel
theorem dX1_take_79 : decode cX1_take 79 = .ok (.ifCond .eq 38, 3) := by decide +kernel
theorem dX1_take_82 : decode cX1_take 82 = .ok (.aload_n 0, 1) := by decide +kernel
theorem dX1_take_83 : decode cX1_take 83 = .ok (.getfield 33, 3) := by decide +kernel
theorem dX1_take_86 : decode cX1_take 86 = .ok (.aload_n 0, 1) := by decide +kernel
theorem dX1_take_87 : decode cX1_take 87 = .ok (.getfield 47, 3) := by decide +kernel
theorem dX1_take_90 : decode cX1_take 90 = .ok (.getfield 161, 3) := by decide +kernel
theorem dX1_take_93 : decode cX1_take 93 = .ok (.aload_n 0, 1) := by decide +kernel
theorem dX1_take_94 : decode cX1_take 94 = .ok (.getfield 47, 3) := by decide +kernel
theorem dX1_take_97 : decode cX1_take 97 = .ok (.getfield 144, 3) := by decide +kernel
theorem dX1_take_100 : decode cX1_take 100 = .ok (.iconst 0, 1) := by decide +kernel
theorem dX1_take_101 : decode cX1_take 101 = .ok (.iaload, 1) := by decide +kernel
theorem dX1_take_102 : decode cX1_take 102 = .ok (.aload_n 0, 1) := by decide +kernel
theorem dX1_take_103 : decode cX1_take 103 = .ok (.getfield 47, 3) := by decide +kernel
theorem dX1_take_106 : decode cX1_take 106 = .ok (.getfield 165, 3) := by decide +kernel
theorem dX1_take_109 : decode cX1_take 109 = .ok (.iconst 0, 1) := by decide +kernel
theorem dX1_take_110 : decode cX1_take 110 = .ok (.iaload, 1) := by decide +kernel
theorem dX1_take_111 : decode cX1_take 111 = .ok (.invokevirtual 168, 3) := by decide +kernel
theorem dX1_take_114 : decode cX1_take 114 = .ok (.goto 5, 3) := by decide +kernel
theorem dX1_take_117 : decode cX1_take 117 = .ok (.iload 6, 2) := by decide +kernel
theorem dX1_take_119 : decode cX1_take 119 = .ok (.istore 7, 2) := by decide +kernel
theorem dX1_take_121 : decode cX1_take 121 = .ok (.iload_n 3, 1) := by decide +kernel
theorem dX1_take_122 : decode cX1_take 122 = .ok (.iconst (-1), 1) := by decide +kernel
theorem dX1_take_123 : decode cX1_take 123 = .ok (.if_icmp .eq 10, 3) := by decide +kernel
theorem dX1_take_126 : decode cX1_take 126 = .ok (.iload 7, 2) := by decide +kernel
theorem dX1_take_128 : decode cX1_take 128 = .ok (.iload 4, 2) := by decide +kernel
theorem dX1_take_130 : decode cX1_take 130 = .ok (.if_icmp .ge 10, 3) := by decide +kernel
theorem dX1_take_133 : decode cX1_take 133 = .ok (.iload 6, 2) := by decide +kernel
theorem dX1_take_135 : decode cX1_take 135 = .ok (.istore_n 3, 1) := by decide +kernel
theorem dX1_take_136 : decode cX1_take 136 = .ok (.iload 7, 2) := by decide +kernel
theorem dX1_take_138 : decode cX1_take 138 = .ok (.istore 4, 2) := by decide +kernel
theorem dX1_take_140 : decode cX1_take 140 = .ok (.iinc 6 1, 3) := by decide +kernel
theorem dX1_take_143 : decode cX1_take 143 = .ok (.goto (-99), 3) := by decide +kernel
theorem dX1_take_146 : decode cX1_take 146 = .ok (.iload_n 3, 1) := by decide +kernel
theorem dX1_take_147 : decode cX1_take 147 = .ok (.iconst (-1), 1) := by decide +kernel
theorem dX1_take_148 : decode cX1_take 148 = .ok (.if_icmp .eq 41, 3) := by decide +kernel
theorem dX1_take_151 : decode cX1_take 151 = .ok (.aload_n 0, 1) := by decide +kernel
theorem dX1_take_152 : decode cX1_take 152 = .ok (.getfield 12, 3) := by decide +kernel
theorem dX1_take_155 : decode cX1_take 155 = .ok (.getfield 181, 3) := by decide +kernel
theorem dX1_take_158 : decode cX1_take 158 = .ok (.iload_n 3, 1) := by decide +kernel
theorem dX1_take_159 : decode cX1_take 159 = .ok (.iconst 1, 1) := by decide +kernel
theorem dX1_take_160 : decode cX1_take 160 = .ok (.iastore, 1) := by decide +kernel
theorem dX1_take_161 : decode cX1_take 161 = .ok (.aload_n 0, 1) := by decide +kernel
theorem dX1_take_162 : decode cX1_take 162 = .ok (.getfield 12, 3) := by decide +kernel
theorem dX1_take_165 : decode cX1_take 165 = .ok (.getfield 150, 3) := by decide +kernel
theorem dX1_take_168 : decode cX1_take 168 = .ok (.iload_n 3, 1) := by decide +kernel
theorem dX1_take_169 : decode cX1_take 169 = .ok (.iload_n 1, 1) := by decide +kernel
theorem dX1_take_170 : decode cX1_take 170 = .ok (.iastore, 1) := by decide +kernel
theorem dX1_take_171 : decode cX1_take 171 = .ok (.aload_n 0, 1) := by decide +kernel
theorem dX1_take_172 : decode cX1_take 172 = .ok (.getfield 12, 3) := by decide +kernel
theorem dX1_take_175 : decode cX1_take 175 = .ok (.getfield 155, 3) := by decide +kernel
theorem dX1_take_178 : decode cX1_take 178 = .ok (.iload_n 3, 1) := by decide +kernel
theorem dX1_take_179 : decode cX1_take 179 = .ok (.iconst 0, 1) := by decide +kernel
theorem dX1_take_180 : decode cX1_take 180 = .ok (.iastore, 1) := by decide +kernel
theorem dX1_take_181 : decode cX1_take 181 = .ok (.aload_n 0, 1) := by decide +kernel
theorem dX1_take_182 : decode cX1_take 182 = .ok (.getfield 12, 3) := by decide +kernel
theorem dX1_take_185 : decode cX1_take 185 = .ok (.iload_n 3, 1) := by decide +kernel
theorem dX1_take_186 : decode cX1_take 186 = .ok (.invokevirtual 207, 3) := by decide +kernel
theorem dX1_take_189 : decode cX1_take 189 = .ok (.iload_n 3, 1) := by decide +kernel
theorem dX1_take_190 : decode cX1_take 190 = .ok (.ireturn, 1) := by decide +kernel
theorem dX3_changed_0 : decode cX3_changed 0 = .ok (.iload_n 1, 1) := by decide +kernel
theorem dX3_changed_1 : decode cX3_changed 1 = .ok (.bipush (-12), 2) := by decide +kernel
theorem dX3_changed_3 : decode cX3_changed 3 = .ok (.if_icmp .ne 7, 3) := by decide +kernel
theorem dX3_changed_6 : decode cX3_changed 6 = .ok (.iconst 1, 1) := by decide +kernel
theorem dX3_changed_7 : decode cX3_changed 7 = .ok (.iload_n 2, 1) := by decide +kernel
theorem dX3_changed_8 : decode cX3_changed 8 = .ok (.isub, 1) := by decide +kernel
theorem dX3_changed_9 : decode cX3_changed 9 = .ok (.ireturn, 1) := by decide +kernel
theorem dX3_changed_10 : decode cX3_changed 10 = .ok (.iload_n 2, 1) := by decide +kernel
theorem dX3_changed_11 : decode cX3_changed 11 = .ok (.ifCond .lt 26, 3) := by decide +kernel
theorem dX3_changed_14 : decode cX3_changed 14 = .ok (.iload_n 2, 1) := by decide +kernel
theorem dX3_changed_15 : decode cX3_changed 15 = .ok (.aload_n 0, 1) := by decide +kernel
theorem dX3_changed_16 : decode cX3_changed 16 = .ok (.getfield 15, 3) := by decide +kernel
theorem dX3_changed_19 : decode cX3_changed 19 = .ok (.getfield 72, 3) := by decide +kernel
theorem dX3_changed_22 : decode cX3_changed 22 = .ok (.if_icmp .ge 15, 3) := by decide +kernel
theorem dX3_changed_25 : decode cX3_changed 25 = .ok (.aload_n 0, 1) := by decide +kernel
theorem dX3_changed_26 : decode cX3_changed 26 = .ok (.getfield 15, 3) := by decide +kernel
theorem dX3_changed_29 : decode cX3_changed 29 = .ok (.getfield 77, 3) := by decide +kernel
theorem dX3_changed_32 : decode cX3_changed 32 = .ok (.iload_n 2, 1) := by decide +kernel
theorem dX3_changed_33 : decode cX3_changed 33 = .ok (.iaload, 1) := by decide +kernel
theorem dX3_changed_34 : decode cX3_changed 34 = .ok (.ifCond .ne 5, 3) := by decide +kernel
theorem dX3_changed_37 : decode cX3_changed 37 = .ok (.iconst 0, 1) := by decide +kernel
theorem dX3_changed_38 : decode cX3_changed 38 = .ok (.ireturn, 1) := by decide +kernel
theorem dX3_changed_39 : decode cX3_changed 39 = .ok (.iload_n 1, 1) := by decide +kernel
theorem dX3_changed_40 : decode cX3_changed 40 = .ok (.bipush (-13), 2) := by decide +kernel
theorem dX3_changed_42 : decode cX3_changed 42 = .ok (.if_icmp .ne 15, 3) := by decide +kernel
theorem dX3_changed_45 : decode cX3_changed 45 = .ok (.aload_n 0, 1) := by decide +kernel
theorem dX3_changed_46 : decode cX3_changed 46 = .ok (.getfield 15, 3) := by decide +kernel
theorem dX3_changed_49 : decode cX3_changed 49 = .ok (.getfield 77, 3) := by decide +kernel
theorem dX3_changed_52 : decode cX3_changed 52 = .ok (.iload_n 2, 1) := by decide +kernel
theorem dX3_changed_53 : decode cX3_changed 53 = .ok (.iaload, 1) := by decide +kernel
theorem dX3_changed_54 : decode cX3_changed 54 = .ok (.goto 15, 3) := by decide +kernel
theorem dX3_changed_57 : decode cX3_changed 57 = .ok (.aload_n 0, 1) := by decide +kernel
theorem dX3_changed_58 : decode cX3_changed 58 = .ok (.getfield 15, 3) := by decide +kernel
theorem dX3_changed_61 : decode cX3_changed 61 = .ok (.getfield 79, 3) := by decide +kernel
theorem dX3_changed_64 : decode cX3_changed 64 = .ok (.iload_n 2, 1) := by decide +kernel
theorem dX3_changed_65 : decode cX3_changed 65 = .ok (.bipush 6, 2) := by decide +kernel
theorem dX3_changed_67 : decode cX3_changed 67 = .ok (.imul, 1) := by decide +kernel
theorem dX3_changed_68 : decode cX3_changed 68 = .ok (.iaload, 1) := by decide +kernel
theorem dX3_changed_69 : decode cX3_changed 69 = .ok (.ireturn, 1) := by decide +kernel
theorem dX3_fact_0 : decode cX3_fact 0 = .ok (.iload_n 1, 1) := by decide +kernel
theorem dX3_fact_1 : decode cX3_fact 1 = .ok (.tableswitch 82 11 18 #[47, 52, 57, 62, 47, 67, 72, 77], 47) := by decide +kernel
theorem dX3_fact_48 : decode cX3_fact 48 = .ok (.aload_n 0, 1) := by decide +kernel
theorem dX3_fact_49 : decode cX3_fact 49 = .ok (.getfield 51, 3) := by decide +kernel
theorem dX3_fact_52 : decode cX3_fact 52 = .ok (.ireturn, 1) := by decide +kernel
theorem dX3_fact_53 : decode cX3_fact 53 = .ok (.aload_n 0, 1) := by decide +kernel
theorem dX3_fact_54 : decode cX3_fact 54 = .ok (.getfield 54, 3) := by decide +kernel
theorem dX3_fact_57 : decode cX3_fact 57 = .ok (.ireturn, 1) := by decide +kernel
theorem dX3_fact_58 : decode cX3_fact 58 = .ok (.aload_n 0, 1) := by decide +kernel
theorem dX3_fact_59 : decode cX3_fact 59 = .ok (.getfield 57, 3) := by decide +kernel
theorem dX3_fact_62 : decode cX3_fact 62 = .ok (.ireturn, 1) := by decide +kernel
theorem dX3_fact_63 : decode cX3_fact 63 = .ok (.aload_n 0, 1) := by decide +kernel
theorem dX3_fact_64 : decode cX3_fact 64 = .ok (.getfield 60, 3) := by decide +kernel
theorem dX3_fact_67 : decode cX3_fact 67 = .ok (.ireturn, 1) := by decide +kernel
theorem dX3_fact_68 : decode cX3_fact 68 = .ok (.aload_n 0, 1) := by decide +kernel
theorem dX3_fact_69 : decode cX3_fact 69 = .ok (.getfield 63, 3) := by decide +kernel
theorem dX3_fact_72 : decode cX3_fact 72 = .ok (.ireturn, 1) := by decide +kernel
theorem dX3_fact_73 : decode cX3_fact 73 = .ok (.aload_n 0, 1) := by decide +kernel
theorem dX3_fact_74 : decode cX3_fact 74 = .ok (.getfield 66, 3) := by decide +kernel
theorem dX3_fact_77 : decode cX3_fact 77 = .ok (.ireturn, 1) := by decide +kernel
theorem dX3_fact_78 : decode cX3_fact 78 = .ok (.aload_n 0, 1) := by decide +kernel
theorem dX3_fact_79 : decode cX3_fact 79 = .ok (.getfield 69, 3) := by decide +kernel
theorem dX3_fact_82 : decode cX3_fact 82 = .ok (.ireturn, 1) := by decide +kernel
theorem dX3_fact_83 : decode cX3_fact 83 = .ok (.iconst 0, 1) := by decide +kernel
theorem dX3_fact_84 : decode cX3_fact 84 = .ok (.ireturn, 1) := by decide +kernel
theorem dX3_joined_0 : decode cX3_joined 0 = .ok (.lconst 0, 1) := by decide +kernel
theorem dX3_joined_1 : decode cX3_joined 1 = .ok (.lstore_n 3, 1) := by decide +kernel
theorem dX3_joined_2 : decode cX3_joined 2 = .ok (.iload_n 0, 1) := by decide +kernel
theorem dX3_joined_3 : decode cX3_joined 3 = .ok (.tableswitch 196 (-11) (-1) #[188, 180, 166, 152, 138, 122, 106, 82, 73, 65, 57], 57) := by decide +kernel
theorem dX3_joined_60 : decode cX3_joined 60 = .ok (.iload_n 1, 1) := by decide +kernel
theorem dX3_joined_61 : decode cX3_joined 61 = .ok (.iload_n 2, 1) := by decide +kernel
theorem dX3_joined_62 : decode cX3_joined 62 = .ok (.iadd, 1) := by decide +kernel
theorem dX3_joined_63 : decode cX3_joined 63 = .ok (.i2l, 1) := by decide +kernel
theorem dX3_joined_64 : decode cX3_joined 64 = .ok (.lstore_n 3, 1) := by decide +kernel
theorem dX3_joined_65 : decode cX3_joined 65 = .ok (.goto 134, 3) := by decide +kernel
theorem dX3_joined_68 : decode cX3_joined 68 = .ok (.iload_n 1, 1) := by decide +kernel
theorem dX3_joined_69 : decode cX3_joined 69 = .ok (.iload_n 2, 1) := by decide +kernel
theorem dX3_joined_70 : decode cX3_joined 70 = .ok (.isub, 1) := by decide +kernel
theorem dX3_joined_71 : decode cX3_joined 71 = .ok (.i2l, 1) := by decide +kernel
theorem dX3_joined_72 : decode cX3_joined 72 = .ok (.lstore_n 3, 1) := by decide +kernel
theorem dX3_joined_73 : decode cX3_joined 73 = .ok (.goto 126, 3) := by decide +kernel
theorem dX3_joined_76 : decode cX3_joined 76 = .ok (.iload_n 1, 1) := by decide +kernel
theorem dX3_joined_77 : decode cX3_joined 77 = .ok (.i2l, 1) := by decide +kernel
theorem dX3_joined_78 : decode cX3_joined 78 = .ok (.iload_n 2, 1) := by decide +kernel
theorem dX3_joined_79 : decode cX3_joined 79 = .ok (.i2l, 1) := by decide +kernel
theorem dX3_joined_80 : decode cX3_joined 80 = .ok (.lmul, 1) := by decide +kernel
theorem dX3_joined_81 : decode cX3_joined 81 = .ok (.lstore_n 3, 1) := by decide +kernel
theorem dX3_joined_82 : decode cX3_joined 82 = .ok (.goto 117, 3) := by decide +kernel
theorem dX3_joined_85 : decode cX3_joined 85 = .ok (.iload_n 2, 1) := by decide +kernel
theorem dX3_joined_86 : decode cX3_joined 86 = .ok (.ifCond .ne 7, 3) := by decide +kernel
theorem dX3_joined_89 : decode cX3_joined 89 = .ok (.lconst 0, 1) := by decide +kernel
theorem dX3_joined_90 : decode cX3_joined 90 = .ok (.goto 15, 3) := by decide +kernel
theorem dX3_joined_93 : decode cX3_joined 93 = .ok (.iload_n 1, 1) := by decide +kernel
theorem dX3_joined_94 : decode cX3_joined 94 = .ok (.iload_n 1, 1) := by decide +kernel
theorem dX3_joined_95 : decode cX3_joined 95 = .ok (.iload_n 2, 1) := by decide +kernel
theorem dX3_joined_96 : decode cX3_joined 96 = .ok (.irem, 1) := by decide +kernel
theorem dX3_joined_97 : decode cX3_joined 97 = .ok (.iload_n 2, 1) := by decide +kernel
theorem dX3_joined_98 : decode cX3_joined 98 = .ok (.iadd, 1) := by decide +kernel
theorem dX3_joined_99 : decode cX3_joined 99 = .ok (.iload_n 2, 1) := by decide +kernel
theorem dX3_joined_100 : decode cX3_joined 100 = .ok (.irem, 1) := by decide +kernel
theorem dX3_joined_101 : decode cX3_joined 101 = .ok (.isub, 1) := by decide +kernel
theorem dX3_joined_102 : decode cX3_joined 102 = .ok (.iload_n 2, 1) := by decide +kernel
theorem dX3_joined_103 : decode cX3_joined 103 = .ok (.idiv, 1) := by decide +kernel
theorem dX3_joined_104 : decode cX3_joined 104 = .ok (.i2l, 1) := by decide +kernel
theorem dX3_joined_105 : decode cX3_joined 105 = .ok (.lstore_n 3, 1) := by decide +kernel
theorem dX3_joined_106 : decode cX3_joined 106 = .ok (.goto 93, 3) := by decide +kernel
theorem dX3_joined_109 : decode cX3_joined 109 = .ok (.iload_n 1, 1) := by decide +kernel
theorem dX3_joined_110 : decode cX3_joined 110 = .ok (.iload_n 2, 1) := by decide +kernel
theorem dX3_joined_111 : decode cX3_joined 111 = .ok (.if_icmp .ge 8, 3) := by decide +kernel
theorem dX3_joined_114 : decode cX3_joined 114 = .ok (.iload_n 1, 1) := by decide +kernel
theorem dX3_joined_115 : decode cX3_joined 115 = .ok (.i2l, 1) := by decide +kernel
theorem dX3_joined_116 : decode cX3_joined 116 = .ok (.goto 5, 3) := by decide +kernel
theorem dX3_joined_119 : decode cX3_joined 119 = .ok (.iload_n 2, 1) := by decide +kernel
theorem dX3_joined_120 : decode cX3_joined 120 = .ok (.i2l, 1) := by decide +kernel
theorem dX3_joined_121 : decode cX3_joined 121 = .ok (.lstore_n 3, 1) := by decide +kernel
theorem dX3_joined_122 : decode cX3_joined 122 = .ok (.goto 77, 3) := by decide +kernel
theorem dX3_joined_125 : decode cX3_joined 125 = .ok (.iload_n 1, 1) := by decide +kernel
theorem dX3_joined_126 : decode cX3_joined 126 = .ok (.iload_n 2, 1) := by decide +kernel
theorem dX3_joined_127 : decode cX3_joined 127 = .ok (.if_icmp .le 8, 3) := by decide +kernel
theorem dX3_joined_130 : decode cX3_joined 130 = .ok (.iload_n 1, 1) := by decide +kernel
theorem dX3_joined_131 : decode cX3_joined 131 = .ok (.i2l, 1) := by decide +kernel
theorem dX3_joined_132 : decode cX3_joined 132 = .ok (.goto 5, 3) := by decide +kernel
theorem dX3_joined_135 : decode cX3_joined 135 = .ok (.iload_n 2, 1) := by decide +kernel
theorem dX3_joined_136 : decode cX3_joined 136 = .ok (.i2l, 1) := by decide +kernel
theorem dX3_joined_137 : decode cX3_joined 137 = .ok (.lstore_n 3, 1) := by decide +kernel
theorem dX3_joined_138 : decode cX3_joined 138 = .ok (.goto 61, 3) := by decide +kernel
theorem dX3_joined_141 : decode cX3_joined 141 = .ok (.iload_n 1, 1) := by decide +kernel
theorem dX3_joined_142 : decode cX3_joined 142 = .ok (.iload_n 2, 1) := by decide +kernel
theorem dX3_joined_143 : decode cX3_joined 143 = .ok (.if_icmp .ge 7, 3) := by decide +kernel
theorem dX3_joined_146 : decode cX3_joined 146 = .ok (.lconst 1, 1) := by decide +kernel
theorem dX3_joined_147 : decode cX3_joined 147 = .ok (.goto 4, 3) := by decide +kernel
theorem dX3_joined_150 : decode cX3_joined 150 = .ok (.lconst 0, 1) := by decide +kernel
theorem dX3_joined_151 : decode cX3_joined 151 = .ok (.lstore_n 3, 1) := by decide +kernel
theorem dX3_joined_152 : decode cX3_joined 152 = .ok (.goto 47, 3) := by decide +kernel
theorem dX3_joined_155 : decode cX3_joined 155 = .ok (.iload_n 1, 1) := by decide +kernel
theorem dX3_joined_156 : decode cX3_joined 156 = .ok (.iload_n 2, 1) := by decide +kernel
theorem dX3_joined_157 : decode cX3_joined 157 = .ok (.if_icmp .le 7, 3) := by decide +kernel
theorem dX3_joined_160 : decode cX3_joined 160 = .ok (.lconst 1, 1) := by decide +kernel
theorem dX3_joined_161 : decode cX3_joined 161 = .ok (.goto 4, 3) := by decide +kernel
theorem dX3_joined_164 : decode cX3_joined 164 = .ok (.lconst 0, 1) := by decide +kernel
theorem dX3_joined_165 : decode cX3_joined 165 = .ok (.lstore_n 3, 1) := by decide +kernel
theorem dX3_joined_166 : decode cX3_joined 166 = .ok (.goto 33, 3) := by decide +kernel
theorem dX3_joined_169 : decode cX3_joined 169 = .ok (.iload_n 1, 1) := by decide +kernel
theorem dX3_joined_170 : decode cX3_joined 170 = .ok (.iload_n 2, 1) := by decide +kernel
theorem dX3_joined_171 : decode cX3_joined 171 = .ok (.if_icmp .ne 7, 3) := by decide +kernel
theorem dX3_joined_174 : decode cX3_joined 174 = .ok (.lconst 1, 1) := by decide +kernel
theorem dX3_joined_175 : decode cX3_joined 175 = .ok (.goto 4, 3) := by decide +kernel
theorem dX3_joined_178 : decode cX3_joined 178 = .ok (.lconst 0, 1) := by decide +kernel
theorem dX3_joined_179 : decode cX3_joined 179 = .ok (.lstore_n 3, 1) := by decide +kernel
theorem dX3_joined_180 : decode cX3_joined 180 = .ok (.goto 19, 3) := by decide +kernel
theorem dX3_joined_183 : decode cX3_joined 183 = .ok (.iload_n 1, 1) := by decide +kernel
theorem dX3_joined_184 : decode cX3_joined 184 = .ok (.iload_n 2, 1) := by decide +kernel
theorem dX3_joined_185 : decode cX3_joined 185 = .ok (.iand, 1) := by decide +kernel
theorem dX3_joined_186 : decode cX3_joined 186 = .ok (.i2l, 1) := by decide +kernel
theorem dX3_joined_187 : decode cX3_joined 187 = .ok (.lstore_n 3, 1) := by decide +kernel
theorem dX3_joined_188 : decode cX3_joined 188 = .ok (.goto 11, 3) := by decide +kernel
theorem dX3_joined_191 : decode cX3_joined 191 = .ok (.iload_n 1, 1) := by decide +kernel
theorem dX3_joined_192 : decode cX3_joined 192 = .ok (.iload_n 2, 1) := by decide +kernel
theorem dX3_joined_193 : decode cX3_joined 193 = .ok (.ior, 1) := by decide +kernel
theorem dX3_joined_194 : decode cX3_joined 194 = .ok (.i2l, 1) := by decide +kernel
theorem dX3_joined_195 : decode cX3_joined 195 = .ok (.lstore_n 3, 1) := by decide +kernel
theorem dX3_joined_196 : decode cX3_joined 196 = .ok (.goto 3, 3) := by decide +kernel
theorem dX3_joined_199 : decode cX3_joined 199 = .ok (.lload_n 3, 1) := by decide +kernel
theorem dX3_joined_200 : decode cX3_joined 200 = .ok (.ldc2_w 82, 3) := by decide +kernel
theorem dX3_joined_203 : decode cX3_joined 203 = .ok (.lcmp, 1) := by decide +kernel
theorem dX3_joined_204 : decode cX3_joined 204 = .ok (.ifCond .le 6, 3) := by decide +kernel
theorem dX3_joined_207 : decode cX3_joined 207 = .ok (.ldc 84, 2) := by decide +kernel
theorem dX3_joined_209 : decode cX3_joined 209 = .ok (.ireturn, 1) := by decide +kernel
theorem dX3_joined_210 : decode cX3_joined 210 = .ok (.lload_n 3, 1) := by decide +kernel
theorem dX3_joined_211 : decode cX3_joined 211 = .ok (.ldc2_w 85, 3) := by decide +kernel
theorem dX3_joined_214 : decode cX3_joined 214 = .ok (.lcmp, 1) := by decide +kernel
theorem dX3_joined_215 : decode cX3_joined 215 = .ok (.ifCond .ge 8, 3) := by decide +kernel
theorem dX3_joined_218 : decode cX3_joined 218 = .ok (.ldc 87, 2) := by decide +kernel
theorem dX3_joined_220 : decode cX3_joined 220 = .ok (.goto 5, 3) := by decide +kernel
theorem dX3_joined_223 : decode cX3_joined 223 = .ok (.lload_n 3, 1) := by decide +kernel
theorem dX3_joined_224 : decode cX3_joined 224 = .ok (.l2i, 1) := by decide +kernel
theorem dX3_joined_225 : decode cX3_joined 225 = .ok (.ireturn, 1) := by decide +kernel
theorem dX3_pop_0 : decode cX3_pop 0 = .ok (.aload_n 0, 1) := by decide +kernel
theorem dX3_pop_1 : decode cX3_pop 1 = .ok (.getfield 19, 3) := by decide +kernel
theorem dX3_pop_4 : decode cX3_pop 4 = .ok (.ifCond .gt 5, 3) := by decide +kernel
theorem dX3_pop_7 : decode cX3_pop 7 = .ok (.iconst 0, 1) := by decide +kernel
theorem dX3_pop_8 : decode cX3_pop 8 = .ok (.ireturn, 1) := by decide +kernel
theorem dX3_pop_9 : decode cX3_pop 9 = .ok (.aload_n 0, 1) := by decide +kernel
theorem dX3_pop_10 : decode cX3_pop 10 = .ok (.dup, 1) := by decide +kernel
theorem dX3_pop_11 : decode cX3_pop 11 = .ok (.getfield 19, 3) := by decide +kernel
theorem dX3_pop_14 : decode cX3_pop 14 = .ok (.iconst 1, 1) := by decide +kernel
theorem dX3_pop_15 : decode cX3_pop 15 = .ok (.isub, 1) := by decide +kernel
theorem dX3_pop_16 : decode cX3_pop 16 = .ok (.putfield 19, 3) := by decide +kernel
theorem dX3_pop_19 : decode cX3_pop 19 = .ok (.aload_n 0, 1) := by decide +kernel
theorem dX3_pop_20 : decode cX3_pop 20 = .ok (.getfield 11, 3) := by decide +kernel
theorem dX3_pop_23 : decode cX3_pop 23 = .ok (.aload_n 0, 1) := by decide +kernel
theorem dX3_pop_24 : decode cX3_pop 24 = .ok (.getfield 19, 3) := by decide +kernel
theorem dX3_pop_27 : decode cX3_pop 27 = .ok (.iaload, 1) := by decide +kernel
theorem dX3_pop_28 : decode cX3_pop 28 = .ok (.ireturn, 1) := by decide +kernel
theorem dX3_push_0 : decode cX3_push 0 = .ok (.aload_n 0, 1) := by decide +kernel
theorem dX3_push_1 : decode cX3_push 1 = .ok (.getfield 19, 3) := by decide +kernel
theorem dX3_push_4 : decode cX3_push 4 = .ok (.bipush 64, 2) := by decide +kernel
theorem dX3_push_6 : decode cX3_push 6 = .ok (.if_icmp .ge 23, 3) := by decide +kernel
theorem dX3_push_9 : decode cX3_push 9 = .ok (.aload_n 0, 1) := by decide +kernel
theorem dX3_push_10 : decode cX3_push 10 = .ok (.getfield 11, 3) := by decide +kernel
theorem dX3_push_13 : decode cX3_push 13 = .ok (.aload_n 0, 1) := by decide +kernel
theorem dX3_push_14 : decode cX3_push 14 = .ok (.getfield 19, 3) := by decide +kernel
theorem dX3_push_17 : decode cX3_push 17 = .ok (.iload_n 1, 1) := by decide +kernel
theorem dX3_push_18 : decode cX3_push 18 = .ok (.iastore, 1) := by decide +kernel
theorem dX3_push_19 : decode cX3_push 19 = .ok (.aload_n 0, 1) := by decide +kernel
theorem dX3_push_20 : decode cX3_push 20 = .ok (.dup, 1) := by decide +kernel
theorem dX3_push_21 : decode cX3_push 21 = .ok (.getfield 19, 3) := by decide +kernel
theorem dX3_push_24 : decode cX3_push 24 = .ok (.iconst 1, 1) := by decide +kernel
theorem dX3_push_25 : decode cX3_push 25 = .ok (.iadd, 1) := by decide +kernel
theorem dX3_push_26 : decode cX3_push 26 = .ok (.putfield 19, 3) := by decide +kernel
theorem dX3_push_29 : decode cX3_push 29 = .ok (.return_, 1) := by decide +kernel
theorem dX3_value_0 : decode cX3_value 0 = .ok (.aload_n 0, 1) := by decide +kernel
theorem dX3_value_1 : decode cX3_value 1 = .ok (.iconst 0, 1) := by decide +kernel
theorem dX3_value_2 : decode cX3_value 2 = .ok (.putfield 19, 3) := by decide +kernel
theorem dX3_value_5 : decode cX3_value 5 = .ok (.iload_n 2, 1) := by decide +kernel
theorem dX3_value_6 : decode cX3_value 6 = .ok (.istore 4, 2) := by decide +kernel
theorem dX3_value_8 : decode cX3_value 8 = .ok (.iload 4, 2) := by decide +kernel
theorem dX3_value_10 : decode cX3_value 10 = .ok (.ifCond .lt 115, 3) := by decide +kernel
theorem dX3_value_13 : decode cX3_value 13 = .ok (.iload 4, 2) := by decide +kernel
theorem dX3_value_15 : decode cX3_value 15 = .ok (.iload_n 3, 1) := by decide +kernel
theorem dX3_value_16 : decode cX3_value 16 = .ok (.if_icmp .ge 109, 3) := by decide +kernel
theorem dX3_value_19 : decode cX3_value 19 = .ok (.iload 4, 2) := by decide +kernel
theorem dX3_value_21 : decode cX3_value 21 = .ok (.aload_n 1, 1) := by decide +kernel
theorem dX3_value_22 : decode cX3_value 22 = .ok (.getfield 23, 3) := by decide +kernel
theorem dX3_value_25 : decode cX3_value 25 = .ok (.if_icmp .ge 100, 3) := by decide +kernel
theorem dX3_value_28 : decode cX3_value 28 = .ok (.aload_n 1, 1) := by decide +kernel
theorem dX3_value_29 : decode cX3_value 29 = .ok (.getfield 28, 3) := by decide +kernel
theorem dX3_value_32 : decode cX3_value 32 = .ok (.iload 4, 2) := by decide +kernel
theorem dX3_value_34 : decode cX3_value 34 = .ok (.iaload, 1) := by decide +kernel
theorem dX3_value_35 : decode cX3_value 35 = .ok (.istore 5, 2) := by decide +kernel
theorem dX3_value_37 : decode cX3_value 37 = .ok (.iload 5, 2) := by decide +kernel
theorem dX3_value_39 : decode cX3_value 39 = .ok (.ifCond .lt 12, 3) := by decide +kernel
theorem dX3_value_42 : decode cX3_value 42 = .ok (.aload_n 0, 1) := by decide +kernel
theorem dX3_value_43 : decode cX3_value 43 = .ok (.iload 5, 2) := by decide +kernel
theorem dX3_value_45 : decode cX3_value 45 = .ok (.invokevirtual 31, 3) := by decide +kernel
theorem dX3_value_48 : decode cX3_value 48 = .ok (.goto 71, 3) := by decide +kernel
theorem dX3_value_51 : decode cX3_value 51 = .ok (.iload 5, 2) := by decide +kernel
theorem dX3_value_53 : decode cX3_value 53 = .ok (.bipush (-100), 2) := by decide +kernel
theorem dX3_value_55 : decode cX3_value 55 = .ok (.if_icmp .gt 19, 3) := by decide +kernel
theorem dX3_value_58 : decode cX3_value 58 = .ok (.aload_n 0, 1) := by decide +kernel
theorem dX3_value_59 : decode cX3_value 59 = .ok (.aload_n 0, 1) := by decide +kernel
theorem dX3_value_60 : decode cX3_value 60 = .ok (.bipush (-100), 2) := by decide +kernel
theorem dX3_value_62 : decode cX3_value 62 = .ok (.iload 5, 2) := by decide +kernel
theorem dX3_value_64 : decode cX3_value 64 = .ok (.isub, 1) := by decide +kernel
theorem dX3_value_65 : decode cX3_value 65 = .ok (.invokevirtual 35, 3) := by decide +kernel
theorem dX3_value_68 : decode cX3_value 68 = .ok (.invokevirtual 31, 3) := by decide +kernel
theorem dX3_value_71 : decode cX3_value 71 = .ok (.goto 48, 3) := by decide +kernel
theorem dX3_value_74 : decode cX3_value 74 = .ok (.iload 5, 2) := by decide +kernel
theorem dX3_value_76 : decode cX3_value 76 = .ok (.bipush (-12), 2) := by decide +kernel
theorem dX3_value_78 : decode cX3_value 78 = .ok (.if_icmp .gt 20, 3) := by decide +kernel
theorem dX3_value_81 : decode cX3_value 81 = .ok (.aload_n 0, 1) := by decide +kernel
theorem dX3_value_82 : decode cX3_value 82 = .ok (.aload_n 0, 1) := by decide +kernel
theorem dX3_value_83 : decode cX3_value 83 = .ok (.iload 5, 2) := by decide +kernel
theorem dX3_value_85 : decode cX3_value 85 = .ok (.aload_n 0, 1) := by decide +kernel
theorem dX3_value_86 : decode cX3_value 86 = .ok (.invokevirtual 39, 3) := by decide +kernel
theorem dX3_value_89 : decode cX3_value 89 = .ok (.invokevirtual 43, 3) := by decide +kernel
theorem dX3_value_92 : decode cX3_value 92 = .ok (.invokevirtual 31, 3) := by decide +kernel
theorem dX3_value_95 : decode cX3_value 95 = .ok (.goto 24, 3) := by decide +kernel
theorem dX3_value_98 : decode cX3_value 98 = .ok (.aload_n 0, 1) := by decide +kernel
theorem dX3_value_99 : decode cX3_value 99 = .ok (.invokevirtual 39, 3) := by decide +kernel
theorem dX3_value_102 : decode cX3_value 102 = .ok (.istore 6, 2) := by decide +kernel
theorem dX3_value_104 : decode cX3_value 104 = .ok (.aload_n 0, 1) := by decide +kernel
theorem dX3_value_105 : decode cX3_value 105 = .ok (.iload 5, 2) := by decide +kernel
theorem dX3_value_107 : decode cX3_value 107 = .ok (.aload_n 0, 1) := by decide +kernel
theorem dX3_value_108 : decode cX3_value 108 = .ok (.invokevirtual 39, 3) := by decide +kernel
theorem dX3_value_111 : decode cX3_value 111 = .ok (.iload 6, 2) := by decide +kernel
theorem dX3_value_113 : decode cX3_value 113 = .ok (.invokestatic 47, 3) := by decide +kernel
theorem dX3_value_116 : decode cX3_value 116 = .ok (.invokevirtual 31, 3) := by decide +kernel
theorem dX3_value_119 : decode cX3_value 119 = .ok (.iinc 4 1, 3) := by decide +kernel
theorem dX3_value_122 : decode cX3_value 122 = .ok (.goto (-114), 3) := by decide +kernel
theorem dX3_value_125 : decode cX3_value 125 = .ok (.aload_n 0, 1) := by decide +kernel
theorem dX3_value_126 : decode cX3_value 126 = .ok (.invokevirtual 39, 3) := by decide +kernel
theorem dX3_value_129 : decode cX3_value 129 = .ok (.ireturn, 1) := by decide +kernel
theorem dX8_isFree_0 : decode cX8_isFree 0 = .ok (.aload_n 0, 1) := by decide +kernel
theorem dX8_isFree_1 : decode cX8_isFree 1 = .ok (.iload_n 1, 1) := by decide +kernel
theorem dX8_isFree_2 : decode cX8_isFree 2 = .ok (.invokevirtual 57, 3) := by decide +kernel
theorem dX8_isFree_5 : decode cX8_isFree 5 = .ok (.ifCond .eq 25, 3) := by decide +kernel
theorem dX8_isFree_8 : decode cX8_isFree 8 = .ok (.aload_n 0, 1) := by decide +kernel
theorem dX8_isFree_9 : decode cX8_isFree 9 = .ok (.getfield 9, 3) := by decide +kernel
theorem dX8_isFree_12 : decode cX8_isFree 12 = .ok (.iload_n 1, 1) := by decide +kernel
theorem dX8_isFree_13 : decode cX8_isFree 13 = .ok (.iaload, 1) := by decide +kernel
theorem dX8_isFree_14 : decode cX8_isFree 14 = .ok (.ifCond .ne 16, 3) := by decide +kernel
theorem dX8_isFree_17 : decode cX8_isFree 17 = .ok (.aload_n 0, 1) := by decide +kernel
theorem dX8_isFree_18 : decode cX8_isFree 18 = .ok (.getfield 15, 3) := by decide +kernel
theorem dX8_isFree_21 : decode cX8_isFree 21 = .ok (.iload_n 1, 1) := by decide +kernel
theorem dX8_isFree_22 : decode cX8_isFree 22 = .ok (.iaload, 1) := by decide +kernel
theorem dX8_isFree_23 : decode cX8_isFree 23 = .ok (.ifCond .ne 7, 3) := by decide +kernel
theorem dX8_isFree_26 : decode cX8_isFree 26 = .ok (.iconst 1, 1) := by decide +kernel
theorem dX8_isFree_27 : decode cX8_isFree 27 = .ok (.goto 4, 3) := by decide +kernel
theorem dX8_isFree_30 : decode cX8_isFree 30 = .ok (.iconst 0, 1) := by decide +kernel
theorem dX8_isFree_31 : decode cX8_isFree 31 = .ok (.ireturn, 1) := by decide +kernel
def m_x1_release_v2_J160 (x1 : Int32) (s2 : MS) : Option (Int32 × MS) :=
  some (x1, s2)
def m_x1_release_v2_J148 (lr28 : Int32 → Int32 → MS → Option (Int32 × MS)) (lr83 : Int32 → Int32 → Int32 → Int32 → MS → Option (Int32 × MS)) (x11 : Int32) (x12 : Int32) (x13 : Int32) (x14 : Int32) (s15 : MS) : Option (Int32 × MS) :=
  lr83 x11 x12 x13 (x14 + 1) s15
def m_x1_release_v2_b83 (lr28 : Int32 → Int32 → MS → Option (Int32 × MS)) (lr83 : Int32 → Int32 → Int32 → Int32 → MS → Option (Int32 × MS)) (x6 : Int32) (x7 : Int32) (x8 : Int32) (x9 : Int32) (s10 : MS) : Option (Int32 × MS) :=
  if x8 ≤ x9 then lr28 x6 (x7 + 1) s10 else rdI (gA s10 50) 48 x7 (fun y17 => bn (m_x8_slot y17 x9 s10) (fun r19 => rdI (gA s10 59) 288 r19 (fun y20 => rdI (gA s10 54) 48 y20 (fun y21 => inb 48 y20 (stn (sA s10 54 (upd (gA s10 54) (Int32.toNatClampNeg y20) (y21 - 1))) (fun s23 => rdI (gA s23 54) 48 y20 (fun y24 => if y24 = 0 then if 48 ≤ x6 then m_x1_release_v2_J148 lr28 lr83 x6 x7 x8 x9 s23 else inb 48 x6 (stn (sA s23 50 (upd (gA s23 50) (Int32.toNatClampNeg x6) y20)) (fun s28 => m_x1_release_v2_J148 lr28 lr83 (x6 + 1) x7 x8 x9 s28)) else m_x1_release_v2_J148 lr28 lr83 x6 x7 x8 x9 s23)))))))
def m_x1_release_v2_L83 (lr28 : Int32 → Int32 → MS → Option (Int32 × MS)) (n : Nat) : Int32 → Int32 → Int32 → Int32 → MS → Option (Int32 × MS) := lp (fun _ _ _ _ _ => none) (m_x1_release_v2_b83 lr28) n
def m_x1_release_v2_J78 (lr28 : Int32 → Int32 → MS → Option (Int32 × MS)) (x29 : Int32) (x30 : Int32) (x31 : Int32) (s32 : MS) : Option (Int32 × MS) :=
  m_x1_release_v2_L83 lr28 FU x29 x30 x31 0 s32
def m_x1_release_v2_b28 (lr28 : Int32 → Int32 → MS → Option (Int32 × MS)) (x3 : Int32) (x4 : Int32) (s5 : MS) : Option (Int32 × MS) :=
  if x3 ≤ x4 then m_x1_release_v2_J160 x3 s5 else if 48 ≤ x4 then m_x1_release_v2_J160 x3 s5 else rdI (gA s5 50) 48 x4 (fun y35 => rdI (gA s5 56) 48 y35 (fun y36 => if y36 ≤ 0 then m_x1_release_v2_J78 lr28 x3 x4 0 s5 else rdI (gA s5 50) 48 x4 (fun y38 => rdI (gA s5 57) 48 y38 (fun y39 => m_x1_release_v2_J78 lr28 x3 x4 y39 s5))))
def m_x1_release_v2_L28 (n : Nat) : Int32 → Int32 → MS → Option (Int32 × MS) := lp (fun _ _ _ => none) (m_x1_release_v2_b28) n
def m_x1_release_v2_J25 (x40 : Int32) (s41 : MS) : Option (Int32 × MS) :=
  m_x1_release_v2_L28 FU x40 0 s41
def m_x1_release_v2 (p0 : Int32) (s : MS) : Option (Int32 × MS) :=
  rdI (gA s 54) 48 p0 (fun y42 => inb 48 p0 (stn (sA s 54 (upd (gA s 54) (Int32.toNatClampNeg p0) (y42 - 1))) (fun s44 => rdI (gA s44 54) 48 p0 (fun y45 => if y45 = 0 then inb 48 0 (stn (sA s44 50 (upd (gA s44 50) (Int32.toNatClampNeg 0) p0)) (fun s48 => m_x1_release_v2_J25 (0 + 1) s48)) else m_x1_release_v2_J25 0 s44))))
set_option maxHeartbeats 4000000 in
set_option maxRecDepth 100000 in
theorem k_x1_release_v2 (l : Launch) (D : va_G) (a : Nat → Nat) (p0 : Int32) (sz : Nat) (s : MS) (o : (Int32 × MS)) (h : m_x1_release_v2 p0 s = some o) : yWi l yX1_release cX1_release 8 (some .int) { frames := 1, cells := 0, slots := 0, locals := 60 } D sz [.ref (a 49), .int p0, .ref (a 54)] (CS D a s) (CS D a o.2) o.1 := by
  refine Met.ofW (cc := cX1_release) (maxL := 8) (ret := (some .int)) (by decide) rfl ?_
  intro p e s₀ m args below meth c s₁ B hml hv
  obtain ⟨rfl, ⟨hsz, hP, hK, hD0⟩, hN⟩ := hv
  have hx := B.exec
  have hb := B.bytes
  have hr := B.returns
  have hts := atoms_spec (ws := wz yX1_release cX1_release 8 (some .int)) B.pre
  have ht : ∀ w ∈ lw_gd, w.before _ s₀ = true := fun w h => hts w (List.mem_cons_of_mem _ h)
  have hown : s₀.vm.findClass RX1 = some m.cls := findClass_of_methodNamed B.named
  have hlocks := B.notSynchronized
  subst hsz
  have hD := hD0.self (sz := s₀.heap.size)
  generalize hAe : va_A (CS D a s) s₀.heap.size = A at hD ⊢
  have hA : ∀ q : Nat, s₀.heap.size ≤ q → A q := fun q h => by rw [← hAe]; exact Or.inr h
  have hS : va_S A s₀.heap s₀.heap [] := va_S.rf
  have hDD : ∀ t : MS, va_D A (CS D a t) := fun t => CW_D t hD
  have hl := lv_entry ([.ref (a 49), .int p0, .ref (a 54)]) (n := 8) (Nat.le_of_ble_eq_true rfl)
  rw [lg_entry_eq]
  generalize (lg_sl ([.ref (a 49), .int p0, .ref (a 54)]) ++ List.replicate (8 - (lg_sl ([.ref (a 49), .int p0, .ref (a 54)])).length) Slot.unset).toArray = ls at hl ⊢
  have hl : lv_has ls 8 [(0, .ref (a 49)), (1, .int p0), (2, .ref (a 54))] := hl
  unfold m_x1_release_v2 at h
  refine y_head (pcJ := 160) (σ := Int32 × MS) (fun u H locs ls => va_P D vwCl (CS D a u.2) H ∧ va_S A s₀.heap H locs ∧ lv_has ls 8 [(3, .int u.1)] ∧ m_x1_release_v2_J160 u.1 u.2 = some o) (fun u => []) (fun u H locs ls hI => ?_) (fun J160 => ?_)
  · obtain ⟨hP, hS, hl, h⟩ := hI
    obtain ⟨x1, s2⟩ := u
    have hP : va_P D vwCl (CS D a s2) H := hP
    have hl : lv_has ls 8 [(3, .int x1)] := hl
    have h : m_x1_release_v2_J160 x1 s2 = some o := h
    unfold m_x1_release_v2_J160 at h
    refine lv_iload_n hx hb dX1_release_160 rfl (lv_at hl 0 rfl) ?_
    obtain rfl := Option.some.inj h
    exact W.iret (v := x1) hx hb hr (fun t ht hW => ⟨⟨_, (), rfl, rfl, by rw [ht]; exact hP, va_K.moved hW.alike hK, hDD _⟩, hS.F ht⟩) hS.2.2 dX1_release_161
  refine y_loop (pcJ := 28) (σ := Int32 × Int32 × MS) (fun n u H locs ls => va_P D vwCl (CS D a u.2.2) H ∧ va_S A s₀.heap H locs ∧ lv_has ls 8 [(0, .ref (a 49)), (2, .ref (a 54)), (3, .int u.1), (4, .int u.2.1)] ∧ m_x1_release_v2_L28 n u.1 u.2.1 u.2.2 = some o) (fun u => []) (fun u H locs ls hI => by obtain ⟨_, _, _, h⟩ := hI; cases h) (fun n28 ih28 u H locs ls hI => ?_) (fun J28 => ?_)
  · obtain ⟨hP, hS, hl, h⟩ := hI
    obtain ⟨x3, x4, s5⟩ := u
    have hP : va_P D vwCl (CS D a s5) H := hP
    have hl : lv_has ls 8 [(0, .ref (a 49)), (2, .ref (a 54)), (3, .int x3), (4, .int x4)] := hl
    have h : m_x1_release_v2_b28 (m_x1_release_v2_L28 n28) x3 x4 s5 = some o := h
    unfold m_x1_release_v2_b28 at h
    refine y_loop (pcJ := 83) (σ := Int32 × Int32 × Int32 × Int32 × MS) (fun n u H locs ls => va_P D vwCl (CS D a u.2.2.2.2) H ∧ va_S A s₀.heap H locs ∧ lv_has ls 8 [(0, .ref (a 49)), (2, .ref (a 54)), (3, .int u.1), (4, .int u.2.1), (5, .int u.2.2.1), (6, .int u.2.2.2.1)] ∧ m_x1_release_v2_L83 (m_x1_release_v2_L28 n28) n u.1 u.2.1 u.2.2.1 u.2.2.2.1 u.2.2.2.2 = some o) (fun u => []) (fun u H locs ls hI => by obtain ⟨_, _, _, h⟩ := hI; cases h) (fun n83 ih83 u H locs ls hI => ?_) (fun J83 => ?_)
    · obtain ⟨hP, hS, hl, h⟩ := hI
      obtain ⟨x6, x7, x8, x9, s10⟩ := u
      have hP : va_P D vwCl (CS D a s10) H := hP
      have hl : lv_has ls 8 [(0, .ref (a 49)), (2, .ref (a 54)), (3, .int x6), (4, .int x7), (5, .int x8), (6, .int x9)] := hl
      have h : m_x1_release_v2_b83 (m_x1_release_v2_L28 n28) (m_x1_release_v2_L83 (m_x1_release_v2_L28 n28) n83) x6 x7 x8 x9 s10 = some o := h
      unfold m_x1_release_v2_b83 at h
      refine y_head (pcJ := 148) (σ := Int32 × Int32 × Int32 × Int32 × MS) (fun u H locs ls => va_P D vwCl (CS D a u.2.2.2.2) H ∧ va_S A s₀.heap H locs ∧ lv_has ls 8 [(0, .ref (a 49)), (2, .ref (a 54)), (3, .int u.1), (4, .int u.2.1), (5, .int u.2.2.1), (6, .int u.2.2.2.1)] ∧ m_x1_release_v2_J148 (m_x1_release_v2_L28 n28) (m_x1_release_v2_L83 (m_x1_release_v2_L28 n28) n83) u.1 u.2.1 u.2.2.1 u.2.2.2.1 u.2.2.2.2 = some o) (fun u => []) (fun u H locs ls hI => ?_) (fun J148 => ?_)
      · obtain ⟨hP, hS, hl, h⟩ := hI
        obtain ⟨x11, x12, x13, x14, s15⟩ := u
        have hP : va_P D vwCl (CS D a s15) H := hP
        have hl : lv_has ls 8 [(0, .ref (a 49)), (2, .ref (a 54)), (3, .int x11), (4, .int x12), (5, .int x13), (6, .int x14)] := hl
        have h : m_x1_release_v2_J148 (m_x1_release_v2_L28 n28) (m_x1_release_v2_L83 (m_x1_release_v2_L28 n28) n83) x11 x12 x13 x14 s15 = some o := h
        unfold m_x1_release_v2_J148 at h
        refine lv_iinc (v := x14 + 1) (lv' := [(6, .int (x14 + 1)), (0, .ref (a 49)), (2, .ref (a 54)), (3, .int x11), (4, .int x12), (5, .int x13)]) hx hb dX1_release_148 hl (k := 5) rfl rfl (by decide) rfl (fun ls hl => ?_)
        refine lv_goto (tgt := 83) hx hb dX1_release_151 (by decide) ?_
        exact ih83 (x11, x12, x13, x14 + 1, s15) _ _ _ ⟨hP, hS, lv_sub hl [1, 2, 3, 4, 5, 0] rfl, h⟩
      refine lv_iload hx hb dX1_release_83 (lv_at hl 5 rfl) ?_
      refine lv_iload hx hb dX1_release_85 (lv_at hl 4 rfl) ?_
      refine lv_icmp_ge (tgt := 154) hx hb dX1_release_87 (by decide) (fun c16 => ?_) (fun c16 => ?_)
      · have h := if_t c16 h
        refine lv_iinc (v := x7 + 1) (lv' := [(4, .int (x7 + 1)), (0, .ref (a 49)), (2, .ref (a 54)), (3, .int x6), (5, .int x8), (6, .int x9)]) hx hb dX1_release_154 hl (k := 3) rfl rfl (by decide) rfl (fun ls hl => ?_)
        refine lv_goto (tgt := 28) hx hb dX1_release_157 (by decide) ?_
        exact ih28 (x6, x7 + 1, s10) _ _ _ ⟨hP, hS, lv_sub hl [1, 2, 3, 0] rfl, h⟩
      · have h := if_f c16 h
        refine lv_aload_n hx hb dX1_release_90 rfl (lv_at hl 0 rfl) ?_
        refine va_get (D := D) (ci := 1) (v := .ref (a 53)) (C := RX1) (T := TX1) (N := 9) hx hb ht inX1 hown hK hP 49 CW_49 rfl 0 (by decide) (ht (.fieldLink RX1 12 "CloneVolumes$Forest" "now" "LCloneVolumes$State;") fl_X1_12) (fun _ h9 => h9) rfl dX1_release_91 ?_
        refine va_get (D := D) (ci := 8) (v := .ref (a 59)) (C := RX8) (T := TX8) (N := 11) hx hb ht inX8 hown hK hP 53 CW_53 rfl 8 (by decide) (ht (.fieldLink RX1 217 "CloneVolumes$State" "values" "[I") fl_X1_217) (fun _ h9 => h9) rfl dX1_release_94 ?_
        refine lv_aload_n hx hb dX1_release_97 rfl (lv_at hl 0 rfl) ?_
        refine va_get (D := D) (ci := 1) (v := .ref (a 53)) (C := RX1) (T := TX1) (N := 9) hx hb ht inX1 hown hK hP 49 CW_49 rfl 0 (by decide) (ht (.fieldLink RX1 12 "CloneVolumes$Forest" "now" "LCloneVolumes$State;") fl_X1_12) (fun _ h9 => h9) rfl dX1_release_98 ?_
        refine lv_aload_n hx hb dX1_release_101 rfl (lv_at hl 0 rfl) ?_
        refine va_get (D := D) (ci := 1) (v := .ref (a 50)) (C := RX1) (T := TX1) (N := 9) hx hb ht inX1 hown hK hP 49 CW_49 rfl 6 (by decide) (ht (.fieldLink RX1 37 "CloneVolumes$Forest" "chain" "[I") fl_X1_37) (fun _ h9 => h9) rfl dX1_release_102 ?_
        refine lv_iload hx hb dX1_release_105 (lv_at hl 3 rfl) ?_
        obtain ⟨y17, ey17, iy17, h⟩ := rdI_e h
        refine ya_iald hx hb hK hP 50 0 CW_50 rfl ey17 iy17 dX1_release_107 ?_
        refine lv_iload hx hb dX1_release_108 (lv_at hl 5 rfl) ?_
        obtain ⟨r19, hc18, h⟩ := bn_e h
        refine ycV (As := [.int y17, .int x9]) (rest := [.ref (a 59)]) (C := RX8) (n := 2) ⟨hx, hb, hml, hown, ht⟩ (k_x8_slot l D a y17 x9 _ _ hc18) (zgV ml_X1_220 im_X8_slot se_X8_slot in_X8 co_X8_slot) rfl rfl (by decide +kernel) ⟨Nat.le_of_ble_eq_true rfl, Nat.le_of_ble_eq_true rfl⟩ hN hK hP hS 53 CW_53 rfl rfl rfl hl.1 rfl (Nat.le_of_ble_eq_true rfl) dX1_release_110 ⟨Nat.le_of_ble_eq_true rfl, Nat.le_of_ble_eq_true rfl⟩ (fun H locs hP hS => ?_)
        obtain ⟨y20, ey20, iy20, h⟩ := rdI_e h
        refine ya_iald hx hb hK hP 59 0 CW_59 rfl ey20 iy20 dX1_release_113 ?_
        refine lv_istore (lv' := [(7, .int y20), (0, .ref (a 49)), (2, .ref (a 54)), (3, .int x6), (4, .int x7), (5, .int x8), (6, .int x9)]) hx hb dX1_release_114 hl (by decide) rfl (fun ls hl => ?_)
        refine lv_aload_n hx hb dX1_release_116 rfl (lv_at hl 2 rfl) ?_
        refine lv_iload hx hb dX1_release_117 (lv_at hl 0 rfl) ?_
        refine lv_dup2_11 hx hb dX1_release_119 rfl rfl ?_
        obtain ⟨y21, ey21, iy21, h⟩ := rdI_e h
        refine ya_iald hx hb hK hP 54 0 CW_54 rfl ey21 iy21 dX1_release_120 ?_
        refine lv_iconst (v := 1) hx hb dX1_release_121 (by decide) ?_
        refine lv_isub hx hb dX1_release_122 ?_
        obtain ⟨hi22, h⟩ := inb_e h
        refine ya_iast hx hb hK hP (hDD _) hS 54 0 CW_54 rfl hi22 dX1_release_123 (CW_w54 _) (fun H locs hP hS => ?_)
        obtain ⟨s23, hs23, h⟩ := st_e h
        rw [hs23] at hP
        refine lv_aload_n hx hb dX1_release_124 rfl (lv_at hl 2 rfl) ?_
        refine lv_iload hx hb dX1_release_125 (lv_at hl 0 rfl) ?_
        obtain ⟨y24, ey24, iy24, h⟩ := rdI_e h
        refine ya_iald hx hb hK hP 54 0 CW_54 rfl ey24 iy24 dX1_release_127 ?_
        refine lv_if_ne (tgt := 148) hx hb dX1_release_128 (by decide) (fun c25 => ?_) (fun c25 => ?_)
        · have h := if_f c25 h
          exact J148 (x6, x7, x8, x9, s23) _ _ _ ⟨hP, hS, lv_sub hl [1, 2, 3, 4, 5, 6] rfl, h⟩
        · have h := if_t c25 h
          refine lv_iload_n hx hb dX1_release_131 rfl (lv_at hl 3 rfl) ?_
          refine lv_bipush (v := 48) hx hb dX1_release_132 (by decide) ?_
          refine lv_icmp_ge (tgt := 148) hx hb dX1_release_134 (by decide) (fun c26 => ?_) (fun c26 => ?_)
          · have h := if_t c26 h
            exact J148 (x6, x7, x8, x9, s23) _ _ _ ⟨hP, hS, lv_sub hl [1, 2, 3, 4, 5, 6] rfl, h⟩
          · have h := if_f c26 h
            refine lv_aload_n hx hb dX1_release_137 rfl (lv_at hl 1 rfl) ?_
            refine va_get (D := D) (ci := 1) (v := .ref (a 50)) (C := RX1) (T := TX1) (N := 9) hx hb ht inX1 hown hK hP 49 CW_49 rfl 6 (by decide) (ht (.fieldLink RX1 37 "CloneVolumes$Forest" "chain" "[I") fl_X1_37) (fun _ h9 => h9) rfl dX1_release_138 ?_
            refine lv_iload_n hx hb dX1_release_141 rfl (lv_at hl 3 rfl) ?_
            refine lv_iload hx hb dX1_release_142 (lv_at hl 0 rfl) ?_
            obtain ⟨hi27, h⟩ := inb_e h
            refine ya_iast hx hb hK hP (hDD _) hS 50 0 CW_50 rfl hi27 dX1_release_144 (CW_w50 _) (fun H locs hP hS => ?_)
            obtain ⟨s28, hs28, h⟩ := st_e h
            rw [hs28] at hP
            refine lv_iinc (v := x6 + 1) (lv' := [(3, .int (x6 + 1)), (7, .int y20), (0, .ref (a 49)), (2, .ref (a 54)), (4, .int x7), (5, .int x8), (6, .int x9)]) hx hb dX1_release_145 hl (k := 3) rfl rfl (by decide) rfl (fun ls hl => ?_)
            exact J148 (x6 + 1, x7, x8, x9, s28) _ _ _ ⟨hP, hS, lv_sub hl [2, 3, 0, 4, 5, 6] rfl, h⟩
    refine y_head (pcJ := 78) (σ := Int32 × Int32 × Int32 × MS) (fun u H locs ls => va_P D vwCl (CS D a u.2.2.2) H ∧ va_S A s₀.heap H locs ∧ lv_has ls 8 [(0, .ref (a 49)), (2, .ref (a 54)), (3, .int u.1), (4, .int u.2.1)] ∧ m_x1_release_v2_J78 (m_x1_release_v2_L28 n28) u.1 u.2.1 u.2.2.1 u.2.2.2 = some o) (fun u => [.int u.2.2.1]) (fun u H locs ls hI => ?_) (fun J78 => ?_)
    · obtain ⟨hP, hS, hl, h⟩ := hI
      obtain ⟨x29, x30, x31, s32⟩ := u
      have hP : va_P D vwCl (CS D a s32) H := hP
      have hl : lv_has ls 8 [(0, .ref (a 49)), (2, .ref (a 54)), (3, .int x29), (4, .int x30)] := hl
      have h : m_x1_release_v2_J78 (m_x1_release_v2_L28 n28) x29 x30 x31 s32 = some o := h
      unfold m_x1_release_v2_J78 at h
      refine lv_istore (lv' := [(5, .int x31), (0, .ref (a 49)), (2, .ref (a 54)), (3, .int x29), (4, .int x30)]) hx hb dX1_release_78 hl (by decide) rfl (fun ls hl => ?_)
      refine lv_iconst (v := 0) hx hb dX1_release_80 (by decide) ?_
      refine lv_istore (lv' := [(6, .int 0), (5, .int x31), (0, .ref (a 49)), (2, .ref (a 54)), (3, .int x29), (4, .int x30)]) hx hb dX1_release_81 hl (by decide) rfl (fun ls hl => ?_)
      exact J83 FU (x29, x30, x31, 0, s32) _ _ _ ⟨hP, hS, lv_sub hl [2, 3, 4, 5, 1, 0] rfl, h⟩
    refine lv_iload hx hb dX1_release_28 (lv_at hl 3 rfl) ?_
    refine lv_iload_n hx hb dX1_release_30 rfl (lv_at hl 2 rfl) ?_
    refine lv_icmp_ge (tgt := 160) hx hb dX1_release_31 (by decide) (fun c33 => ?_) (fun c33 => ?_)
    · have h := if_t c33 h
      exact J160 (x3, s5) _ _ _ ⟨hP, hS, lv_sub hl [2] rfl, h⟩
    · have h := if_f c33 h
      refine lv_iload hx hb dX1_release_34 (lv_at hl 3 rfl) ?_
      refine lv_bipush (v := 48) hx hb dX1_release_36 (by decide) ?_
      refine lv_icmp_ge (tgt := 160) hx hb dX1_release_38 (by decide) (fun c34 => ?_) (fun c34 => ?_)
      · have h := if_t c34 h
        exact J160 (x3, s5) _ _ _ ⟨hP, hS, lv_sub hl [2] rfl, h⟩
      · have h := if_f c34 h
        refine lv_aload_n hx hb dX1_release_41 rfl (lv_at hl 0 rfl) ?_
        refine va_get (D := D) (ci := 1) (v := .ref (a 53)) (C := RX1) (T := TX1) (N := 9) hx hb ht inX1 hown hK hP 49 CW_49 rfl 0 (by decide) (ht (.fieldLink RX1 12 "CloneVolumes$Forest" "now" "LCloneVolumes$State;") fl_X1_12) (fun _ h9 => h9) rfl dX1_release_42 ?_
        refine va_get (D := D) (ci := 8) (v := .ref (a 56)) (C := RX8) (T := TX8) (N := 11) hx hb ht inX8 hown hK hP 53 CW_53 rfl 5 (by decide) (ht (.fieldLink RX1 150 "CloneVolumes$State" "level" "[I") fl_X1_150) (fun _ h9 => h9) rfl dX1_release_45 ?_
        refine lv_aload_n hx hb dX1_release_48 rfl (lv_at hl 0 rfl) ?_
        refine va_get (D := D) (ci := 1) (v := .ref (a 50)) (C := RX1) (T := TX1) (N := 9) hx hb ht inX1 hown hK hP 49 CW_49 rfl 6 (by decide) (ht (.fieldLink RX1 37 "CloneVolumes$Forest" "chain" "[I") fl_X1_37) (fun _ h9 => h9) rfl dX1_release_49 ?_
        refine lv_iload hx hb dX1_release_52 (lv_at hl 3 rfl) ?_
        obtain ⟨y35, ey35, iy35, h⟩ := rdI_e h
        refine ya_iald hx hb hK hP 50 0 CW_50 rfl ey35 iy35 dX1_release_54 ?_
        obtain ⟨y36, ey36, iy36, h⟩ := rdI_e h
        refine ya_iald hx hb hK hP 56 0 CW_56 rfl ey36 iy36 dX1_release_55 ?_
        refine lv_if_le (tgt := 77) hx hb dX1_release_56 (by decide) (fun c37 => ?_) (fun c37 => ?_)
        · have h := if_t c37 h
          refine lv_iconst (v := 0) hx hb dX1_release_77 (by decide) ?_
          exact J78 (x3, x4, 0, s5) _ _ _ ⟨hP, hS, lv_sub hl [0, 1, 2, 3] rfl, h⟩
        · have h := if_f c37 h
          refine lv_aload_n hx hb dX1_release_59 rfl (lv_at hl 0 rfl) ?_
          refine va_get (D := D) (ci := 1) (v := .ref (a 53)) (C := RX1) (T := TX1) (N := 9) hx hb ht inX1 hown hK hP 49 CW_49 rfl 0 (by decide) (ht (.fieldLink RX1 12 "CloneVolumes$Forest" "now" "LCloneVolumes$State;") fl_X1_12) (fun _ h9 => h9) rfl dX1_release_60 ?_
          refine va_get (D := D) (ci := 8) (v := .ref (a 57)) (C := RX8) (T := TX8) (N := 11) hx hb ht inX8 hown hK hP 53 CW_53 rfl 6 (by decide) (ht (.fieldLink RX1 155 "CloneVolumes$State" "size" "[I") fl_X1_155) (fun _ h9 => h9) rfl dX1_release_63 ?_
          refine lv_aload_n hx hb dX1_release_66 rfl (lv_at hl 0 rfl) ?_
          refine va_get (D := D) (ci := 1) (v := .ref (a 50)) (C := RX1) (T := TX1) (N := 9) hx hb ht inX1 hown hK hP 49 CW_49 rfl 6 (by decide) (ht (.fieldLink RX1 37 "CloneVolumes$Forest" "chain" "[I") fl_X1_37) (fun _ h9 => h9) rfl dX1_release_67 ?_
          refine lv_iload hx hb dX1_release_70 (lv_at hl 3 rfl) ?_
          obtain ⟨y38, ey38, iy38, h⟩ := rdI_e h
          refine ya_iald hx hb hK hP 50 0 CW_50 rfl ey38 iy38 dX1_release_72 ?_
          obtain ⟨y39, ey39, iy39, h⟩ := rdI_e h
          refine ya_iald hx hb hK hP 57 0 CW_57 rfl ey39 iy39 dX1_release_73 ?_
          refine lv_goto (tgt := 78) hx hb dX1_release_74 (by decide) ?_
          exact J78 (x3, x4, y39, s5) _ _ _ ⟨hP, hS, lv_sub hl [0, 1, 2, 3] rfl, h⟩
  refine y_head (pcJ := 25) (σ := Int32 × MS) (fun u H locs ls => va_P D vwCl (CS D a u.2) H ∧ va_S A s₀.heap H locs ∧ lv_has ls 8 [(0, .ref (a 49)), (2, .ref (a 54)), (3, .int u.1)] ∧ m_x1_release_v2_J25 u.1 u.2 = some o) (fun u => []) (fun u H locs ls hI => ?_) (fun J25 => ?_)
  · obtain ⟨hP, hS, hl, h⟩ := hI
    obtain ⟨x40, s41⟩ := u
    have hP : va_P D vwCl (CS D a s41) H := hP
    have hl : lv_has ls 8 [(0, .ref (a 49)), (2, .ref (a 54)), (3, .int x40)] := hl
    have h : m_x1_release_v2_J25 x40 s41 = some o := h
    unfold m_x1_release_v2_J25 at h
    refine lv_iconst (v := 0) hx hb dX1_release_25 (by decide) ?_
    refine lv_istore (lv' := [(4, .int 0), (0, .ref (a 49)), (2, .ref (a 54)), (3, .int x40)]) hx hb dX1_release_26 hl (by decide) rfl (fun ls hl => ?_)
    exact J28 FU (x40, 0, s41) _ _ _ ⟨hP, hS, lv_sub hl [1, 2, 3, 0] rfl, h⟩
  refine lv_iconst (v := 0) hx hb dX1_release_0 (by decide) ?_
  refine lv_istore_n (lv' := [(3, .int 0), (0, .ref (a 49)), (1, .int p0), (2, .ref (a 54))]) hx hb dX1_release_1 rfl hl (by decide) rfl (fun ls hl => ?_)
  refine lv_aload_n hx hb dX1_release_2 rfl (lv_at hl 3 rfl) ?_
  refine lv_iload_n hx hb dX1_release_3 rfl (lv_at hl 2 rfl) ?_
  refine lv_dup2_11 hx hb dX1_release_4 rfl rfl ?_
  obtain ⟨y42, ey42, iy42, h⟩ := rdI_e h
  refine ya_iald hx hb hK hP 54 0 CW_54 rfl ey42 iy42 dX1_release_5 ?_
  refine lv_iconst (v := 1) hx hb dX1_release_6 (by decide) ?_
  refine lv_isub hx hb dX1_release_7 ?_
  obtain ⟨hi43, h⟩ := inb_e h
  refine ya_iast hx hb hK hP (hDD _) hS 54 0 CW_54 rfl hi43 dX1_release_8 (CW_w54 _) (fun H locs hP hS => ?_)
  obtain ⟨s44, hs44, h⟩ := st_e h
  rw [hs44] at hP
  refine lv_aload_n hx hb dX1_release_9 rfl (lv_at hl 3 rfl) ?_
  refine lv_iload_n hx hb dX1_release_10 rfl (lv_at hl 2 rfl) ?_
  obtain ⟨y45, ey45, iy45, h⟩ := rdI_e h
  refine ya_iald hx hb hK hP 54 0 CW_54 rfl ey45 iy45 dX1_release_11 ?_
  refine lv_if_ne (tgt := 25) hx hb dX1_release_12 (by decide) (fun c46 => ?_) (fun c46 => ?_)
  · have h := if_f c46 h
    exact J25 (0, s44) _ _ _ ⟨hP, hS, lv_sub hl [1, 3, 0] rfl, h⟩
  · have h := if_t c46 h
    refine lv_aload_n hx hb dX1_release_15 rfl (lv_at hl 1 rfl) ?_
    refine va_get (D := D) (ci := 1) (v := .ref (a 50)) (C := RX1) (T := TX1) (N := 9) hx hb ht inX1 hown hK hP 49 CW_49 rfl 6 (by decide) (ht (.fieldLink RX1 37 "CloneVolumes$Forest" "chain" "[I") fl_X1_37) (fun _ h9 => h9) rfl dX1_release_16 ?_
    refine lv_iload_n hx hb dX1_release_19 rfl (lv_at hl 0 rfl) ?_
    refine lv_iload_n hx hb dX1_release_20 rfl (lv_at hl 2 rfl) ?_
    obtain ⟨hi47, h⟩ := inb_e h
    refine ya_iast hx hb hK hP (hDD _) hS 50 0 CW_50 rfl hi47 dX1_release_21 (CW_w50 _) (fun H locs hP hS => ?_)
    obtain ⟨s48, hs48, h⟩ := st_e h
    rw [hs48] at hP
    refine lv_iinc (v := 0 + 1) (lv' := [(3, .int (0 + 1)), (0, .ref (a 49)), (1, .int p0), (2, .ref (a 54))]) hx hb dX1_release_22 hl (k := 0) rfl rfl (by decide) rfl (fun ls hl => ?_)
    exact J25 (0 + 1, s48) _ _ _ ⟨hP, hS, lv_sub hl [1, 3, 0] rfl, h⟩
def m_x8_isFree_J31 (s : MS) (x1 : Int32) : Option Int32 :=
  bo x1 (some x1)
def m_x8_isFree_J30 (s : MS) (_u : Unit) : Option Int32 :=
  m_x8_isFree_J31 s 0
def m_x8_isFree (p0 : Int32) (s : MS) : Option Int32 :=
  bn (m_x8_isBlock p0 s) (fun r4 => if r4 = 0 then m_x8_isFree_J30 s () else rdI (gA s 54) 48 p0 (fun y6 => if y6 = 0 then rdI (gA s 55) 48 p0 (fun y8 => if y8 = 0 then m_x8_isFree_J31 s 1 else m_x8_isFree_J30 s ()) else m_x8_isFree_J30 s ()))
set_option maxHeartbeats 4000000 in
set_option maxRecDepth 100000 in
theorem k_x8_isFree (l : Launch) (D : va_G) (a : Nat → Nat) (p0 : Int32) (s : MS) (o : Int32) (h : m_x8_isFree p0 s = some o) : yRi l yX8_isFree cX8_isFree 2 (some .boolean) { frames := 1, cells := 0, slots := 0, locals := 60 } D [.ref (a 53), .int p0] (CS D a s) o := by
  refine Met.ofW (cc := cX8_isFree) (maxL := 2) (ret := (some .boolean)) (by decide) rfl ?_
  intro p e s₀ m args below meth c s₁ B hml hv
  obtain ⟨rfl, ⟨hP, hK⟩, hN⟩ := hv
  have hx := B.exec
  have hb := B.bytes
  have hr := B.returns
  have hts := atoms_spec (ws := wz yX8_isFree cX8_isFree 2 (some .boolean)) B.pre
  have ht : ∀ w ∈ lw_gd, w.before _ s₀ = true := fun w h => hts w (List.mem_cons_of_mem _ h)
  have hown : s₀.vm.findClass RX8 = some m.cls := findClass_of_methodNamed B.named
  have hlocks := B.notSynchronized
  have hS : va_S (fun _ => False) s₀.heap s₀.heap [] := va_S.rf
  have hl := lv_entry ([.ref (a 53), .int p0]) (n := 2) (Nat.le_of_ble_eq_true rfl)
  rw [lg_entry_eq]
  generalize (lg_sl ([.ref (a 53), .int p0]) ++ List.replicate (2 - (lg_sl ([.ref (a 53), .int p0])).length) Slot.unset).toArray = ls at hl ⊢
  have hl : lv_has ls 2 [(0, .ref (a 53)), (1, .int p0)] := hl
  unfold m_x8_isFree at h
  refine y_head (pcJ := 31) (σ := Int32) (fun u H locs ls => va_P D vwCl (CS D a s) H ∧ va_S (fun _ => False) s₀.heap H locs ∧ lv_has ls 2 [] ∧ m_x8_isFree_J31 s u = some o) (fun u => [.int u]) (fun u H locs ls hI => ?_) (fun J31 => ?_)
  · obtain ⟨hP, hS, hl, h⟩ := hI
    obtain ⟨x1, rfl⟩ : ∃ z, z = u := ⟨u, rfl⟩
    have hP : va_P D vwCl (CS D a s) H := hP
    have hl : lv_has ls 2 [] := hl
    have h : m_x8_isFree_J31 s x1 = some o := h
    unfold m_x8_isFree_J31 at h
    obtain ⟨hb2, h⟩ := bo_e h
    obtain rfl := Option.some.inj h
    exact W.zret (v := x1) hx hb hr (bo_n hb2) (fun t ht hW => ⟨⟨_, (), rfl, rfl, trivial⟩, hS.F ht⟩) hS.2.2 dX8_isFree_31
  refine y_head (pcJ := 30) (σ := Unit) (fun u H locs ls => va_P D vwCl (CS D a s) H ∧ va_S (fun _ => False) s₀.heap H locs ∧ lv_has ls 2 [] ∧ m_x8_isFree_J30 s u = some o) (fun u => []) (fun u H locs ls hI => ?_) (fun J30 => ?_)
  · obtain ⟨hP, hS, hl, h⟩ := hI
    skip
    have hP : va_P D vwCl (CS D a s) H := hP
    have hl : lv_has ls 2 [] := hl
    have h : m_x8_isFree_J30 s () = some o := h
    unfold m_x8_isFree_J30 at h
    refine lv_iconst (v := 0) hx hb dX8_isFree_30 (by decide) ?_
    exact J31 0 _ _ _ ⟨hP, hS, lv_sub hl [] rfl, h⟩
  refine lv_aload_n hx hb dX8_isFree_0 rfl (lv_at hl 0 rfl) ?_
  refine lv_iload_n hx hb dX8_isFree_1 rfl (lv_at hl 1 rfl) ?_
  obtain ⟨r4, hc3, h⟩ := bn_e h
  refine ycV (As := [.int p0]) (rest := []) (C := RX8) (n := 1) ⟨hx, hb, hml, hown, ht⟩ (k_x8_isBlock l D a p0 _ _ hc3) (zgV ml_X8_57 im_X8_isBlock se_X8_isBlock in_X8 co_X8_isBlock) rfl rfl (by decide +kernel) ⟨Nat.le_of_ble_eq_true rfl, Nat.le_of_ble_eq_true rfl⟩ hN hK hP hS 53 CW_53 rfl rfl rfl hl.1 rfl (Nat.le_of_ble_eq_true rfl) dX8_isFree_2 ⟨Nat.le_of_ble_eq_true rfl, Nat.le_of_ble_eq_true rfl⟩ (fun H locs hP hS => ?_)
  refine lv_if_eq (tgt := 30) hx hb dX8_isFree_5 (by decide) (fun c5 => ?_) (fun c5 => ?_)
  · have h := if_t c5 h
    exact J30 () _ _ _ ⟨hP, hS, lv_sub hl [] rfl, h⟩
  · have h := if_f c5 h
    refine lv_aload_n hx hb dX8_isFree_8 rfl (lv_at hl 0 rfl) ?_
    refine va_get (D := D) (ci := 8) (v := .ref (a 54)) (C := RX8) (T := TX8) (N := 11) hx hb ht inX8 hown hK hP 53 CW_53 rfl 3 (by decide) (ht (.fieldLink RX8 9 "CloneVolumes$State" "count" "[I") fl_X8_9) (fun _ h9 => h9) rfl dX8_isFree_9 ?_
    refine lv_iload_n hx hb dX8_isFree_12 rfl (lv_at hl 1 rfl) ?_
    obtain ⟨y6, ey6, iy6, h⟩ := rdI_e h
    refine ya_iald hx hb hK hP 54 0 CW_54 rfl ey6 iy6 dX8_isFree_13 ?_
    refine lv_if_ne (tgt := 30) hx hb dX8_isFree_14 (by decide) (fun c7 => ?_) (fun c7 => ?_)
    · have h := if_f c7 h
      exact J30 () _ _ _ ⟨hP, hS, lv_sub hl [] rfl, h⟩
    · have h := if_t c7 h
      refine lv_aload_n hx hb dX8_isFree_17 rfl (lv_at hl 0 rfl) ?_
      refine va_get (D := D) (ci := 8) (v := .ref (a 55)) (C := RX8) (T := TX8) (N := 11) hx hb ht inX8 hown hK hP 53 CW_53 rfl 4 (by decide) (ht (.fieldLink RX8 15 "CloneVolumes$State" "saved" "[I") fl_X8_15) (fun _ h9 => h9) rfl dX8_isFree_18 ?_
      refine lv_iload_n hx hb dX8_isFree_21 rfl (lv_at hl 1 rfl) ?_
      obtain ⟨y8, ey8, iy8, h⟩ := rdI_e h
      refine ya_iald hx hb hK hP 55 0 CW_55 rfl ey8 iy8 dX8_isFree_22 ?_
      refine lv_if_ne (tgt := 30) hx hb dX8_isFree_23 (by decide) (fun c9 => ?_) (fun c9 => ?_)
      · have h := if_f c9 h
        exact J30 () _ _ _ ⟨hP, hS, lv_sub hl [] rfl, h⟩
      · have h := if_t c9 h
        refine lv_iconst (v := 1) hx hb dX8_isFree_26 (by decide) ?_
        refine lv_goto (tgt := 31) hx hb dX8_isFree_27 (by decide) ?_
        exact J31 1 _ _ _ ⟨hP, hS, lv_sub hl [] rfl, h⟩
def m_x3_pop (s : MS) : Option (Int32 × MS) :=
  if 0 < (gI s 1601) then stn (sI s 1601 ((gI s 1601) - 1)) (fun s2 => rdI (gA s2 81) 64 (gI s2 1601) (fun y3 => some (y3, s2))) else some (0, s)
set_option maxHeartbeats 4000000 in
set_option maxRecDepth 100000 in
theorem k_x3_pop (l : Launch) (D : va_G) (a : Nat → Nat) (sz : Nat) (s : MS) (o : (Int32 × MS)) (h : m_x3_pop s = some o) : yWi l yX3_pop cX3_pop 1 (some .int) { frames := 0, cells := 0, slots := 0, locals := 0 } D sz [.ref (a 80)] (CS D a s) (CS D a o.2) o.1 := by
  refine Met.ofW (cc := cX3_pop) (maxL := 1) (ret := (some .int)) (by decide) rfl ?_
  intro p e s₀ m args below meth c s₁ B hml hv
  obtain ⟨rfl, ⟨hsz, hP, hK, hD0⟩, hN⟩ := hv
  have hx := B.exec
  have hb := B.bytes
  have hr := B.returns
  have hts := atoms_spec (ws := wz yX3_pop cX3_pop 1 (some .int)) B.pre
  have ht : ∀ w ∈ lw_gd, w.before _ s₀ = true := fun w h => hts w (List.mem_cons_of_mem _ h)
  have hown : s₀.vm.findClass RX3 = some m.cls := findClass_of_methodNamed B.named
  have hlocks := B.notSynchronized
  subst hsz
  have hD := hD0.self (sz := s₀.heap.size)
  generalize hAe : va_A (CS D a s) s₀.heap.size = A at hD ⊢
  have hA : ∀ q : Nat, s₀.heap.size ≤ q → A q := fun q h => by rw [← hAe]; exact Or.inr h
  have hS : va_S A s₀.heap s₀.heap [] := va_S.rf
  have hDD : ∀ t : MS, va_D A (CS D a t) := fun t => CW_D t hD
  have hl := lv_entry ([.ref (a 80)]) (n := 1) (Nat.le_of_ble_eq_true rfl)
  rw [lg_entry_eq]
  generalize (lg_sl ([.ref (a 80)]) ++ List.replicate (1 - (lg_sl ([.ref (a 80)])).length) Slot.unset).toArray = ls at hl ⊢
  have hl : lv_has ls 1 [(0, .ref (a 80))] := hl
  unfold m_x3_pop at h
  refine lv_aload_n hx hb dX3_pop_0 rfl (lv_at hl 0 rfl) ?_
  refine va_get (D := D) (ci := 3) (v := .int (gI s 1601)) (C := RX3) (T := TX3) (N := 10) hx hb ht inX3 hown hK hP 80 CW_80 rfl 1 (by decide) (ht (.fieldLink RX3 19 "CloneVolumes$Machine" "top" "I") fl_X3_19) (fun _ h9 => h9) rfl dX3_pop_1 ?_
  refine lv_if_gt (tgt := 9) hx hb dX3_pop_4 (by decide) (fun c1 => ?_) (fun c1 => ?_)
  · have h := if_t c1 h
    refine lv_aload_n hx hb dX3_pop_9 rfl (lv_at hl 0 rfl) ?_
    refine lv_dup hx hb dX3_pop_10 rfl ?_
    refine va_get (D := D) (ci := 3) (v := .int (gI s 1601)) (C := RX3) (T := TX3) (N := 10) hx hb ht inX3 hown hK hP 80 CW_80 rfl 1 (by decide) (ht (.fieldLink RX3 19 "CloneVolumes$Machine" "top" "I") fl_X3_19) (fun _ h9 => h9) rfl dX3_pop_11 ?_
    refine lv_iconst (v := 1) hx hb dX3_pop_14 (by decide) ?_
    refine lv_isub hx hb dX3_pop_15 ?_
    refine ya_put (D := D) (ci := 3) (v := .int ((gI s 1601) - 1)) (ty := .int) (C := RX3) (T := TX3) (N := 10) hx hb ht inX3 tyX3 tyX3_ok nmX3 hown hK hP (hDD _) hS 80 CW_80 rfl 1 (by decide) (ht (.fieldLink RX3 19 "CloneVolumes$Machine" "top" "I") fl_X3_19) (fun _ h9 => h9) rfl (by decide +kernel) rfl rfl (Nat.le_of_ble_eq_true rfl) dX3_pop_16 (CW_w80_1 _) (fun H locs hP hS => ?_)
    obtain ⟨s2, hs2, h⟩ := st_e h
    rw [hs2] at hP
    refine lv_aload_n hx hb dX3_pop_19 rfl (lv_at hl 0 rfl) ?_
    refine va_get (D := D) (ci := 3) (v := .ref (a 81)) (C := RX3) (T := TX3) (N := 10) hx hb ht inX3 hown hK hP 80 CW_80 rfl 0 (by decide) (ht (.fieldLink RX3 11 "CloneVolumes$Machine" "stack" "[I") fl_X3_11) (fun _ h9 => h9) rfl dX3_pop_20 ?_
    refine lv_aload_n hx hb dX3_pop_23 rfl (lv_at hl 0 rfl) ?_
    refine va_get (D := D) (ci := 3) (v := .int (gI s2 1601)) (C := RX3) (T := TX3) (N := 10) hx hb ht inX3 hown hK hP 80 CW_80 rfl 1 (by decide) (ht (.fieldLink RX3 19 "CloneVolumes$Machine" "top" "I") fl_X3_19) (fun _ h9 => h9) rfl dX3_pop_24 ?_
    obtain ⟨y3, ey3, iy3, h⟩ := rdI_e h
    refine ya_iald hx hb hK hP 81 0 CW_81 rfl ey3 iy3 dX3_pop_27 ?_
    obtain rfl := Option.some.inj h
    exact W.iret (v := y3) hx hb hr (fun t ht hW => ⟨⟨_, (), rfl, rfl, by rw [ht]; exact hP, va_K.moved hW.alike hK, hDD _⟩, hS.F ht⟩) hS.2.2 dX3_pop_28
  · have h := if_f c1 h
    refine lv_iconst (v := 0) hx hb dX3_pop_7 (by decide) ?_
    obtain rfl := Option.some.inj h
    exact W.iret (v := 0) hx hb hr (fun t ht hW => ⟨⟨_, (), rfl, rfl, by rw [ht]; exact hP, va_K.moved hW.alike hK, hDD _⟩, hS.F ht⟩) hS.2.2 dX3_pop_8
def m_x3_joined_J225 (s : MS) (x1 : Int32) : Option Int32 :=
  some x1
def m_x3_joined_J199 (s : MS) (z2 : Int64) : Option Int32 :=
  if (lg_cmp z2 1000000) ≤ 0 then if 0 ≤ (lg_cmp z2 (-1000000)) then m_x3_joined_J225 s (Int64.toInt32 z2) else m_x3_joined_J225 s (-1000000) else some 1000000
def m_x3_joined_J179 (s : MS) (z5 : Int64) : Option Int32 :=
  m_x3_joined_J199 s z5
def m_x3_joined_J165 (s : MS) (z6 : Int64) : Option Int32 :=
  m_x3_joined_J199 s z6
def m_x3_joined_J151 (s : MS) (z7 : Int64) : Option Int32 :=
  m_x3_joined_J199 s z7
def m_x3_joined_J137 (s : MS) (z8 : Int64) : Option Int32 :=
  m_x3_joined_J199 s z8
def m_x3_joined_J121 (s : MS) (z9 : Int64) : Option Int32 :=
  m_x3_joined_J199 s z9
def m_x3_joined_J105 (s : MS) (z10 : Int64) : Option Int32 :=
  m_x3_joined_J199 s z10
def m_x3_joined (p0 : Int32) (p1 : Int32) (p2 : Int32) (s : MS) : Option Int32 :=
  if p0 = (-11) then m_x3_joined_J199 s (Int32.toInt64 (p1 ||| p2)) else if p0 = (-10) then m_x3_joined_J199 s (Int32.toInt64 (p1 &&& p2)) else if p0 = (-9) then if p1 = p2 then m_x3_joined_J179 s 1 else m_x3_joined_J179 s 0 else if p0 = (-8) then if p1 ≤ p2 then m_x3_joined_J165 s 0 else m_x3_joined_J165 s 1 else if p0 = (-7) then if p2 ≤ p1 then m_x3_joined_J151 s 0 else m_x3_joined_J151 s 1 else if p0 = (-6) then if p1 ≤ p2 then m_x3_joined_J137 s (Int32.toInt64 p2) else m_x3_joined_J137 s (Int32.toInt64 p1) else if p0 = (-5) then if p2 ≤ p1 then m_x3_joined_J121 s (Int32.toInt64 p2) else m_x3_joined_J121 s (Int32.toInt64 p1) else if p0 = (-4) then if p2 = 0 then m_x3_joined_J105 s 0 else nz p2 (nz p2 (nz p2 (m_x3_joined_J105 s (Int32.toInt64 ((p1 - (((p1 - p1 / p2 * p2) + p2) - ((p1 - p1 / p2 * p2) + p2) / p2 * p2)) / p2))))) else if p0 = (-3) then m_x3_joined_J199 s ((Int32.toInt64 p1) * (Int32.toInt64 p2)) else if p0 = (-2) then m_x3_joined_J199 s (Int32.toInt64 (p1 - p2)) else if p0 = (-1) then m_x3_joined_J199 s (Int32.toInt64 (p1 + p2)) else m_x3_joined_J199 s 0
set_option maxHeartbeats 4000000 in
set_option maxRecDepth 100000 in
theorem k_x3_joined (l : Launch) (D : va_G) (a : Nat → Nat) (p0 : Int32) (p1 : Int32) (p2 : Int32) (s : MS) (o : Int32) (h : m_x3_joined p0 p1 p2 s = some o) : yRi l yX3_joined cX3_joined 5 (some .int) { frames := 0, cells := 0, slots := 0, locals := 0 } D [.int p0, .int p1, .int p2] (CS D a s) o := by
  refine Met.ofW (cc := cX3_joined) (maxL := 5) (ret := (some .int)) (by decide) rfl ?_
  intro p e s₀ m args below meth c s₁ B hml hv
  obtain ⟨rfl, ⟨hP, hK⟩, hN⟩ := hv
  have hx := B.exec
  have hb := B.bytes
  have hr := B.returns
  have hts := atoms_spec (ws := wz yX3_joined cX3_joined 5 (some .int)) B.pre
  have ht : ∀ w ∈ lw_gd, w.before _ s₀ = true := fun w h => hts w (List.mem_cons_of_mem _ h)
  have hown : s₀.vm.findClass RX3 = some m.cls := findClass_of_methodNamed B.named
  have hlocks := B.notSynchronized
  have hS : va_S (fun _ => False) s₀.heap s₀.heap [] := va_S.rf
  have hl := lv_entry ([.int p0, .int p1, .int p2]) (n := 5) (Nat.le_of_ble_eq_true rfl)
  rw [lg_entry_eq]
  generalize (lg_sl ([.int p0, .int p1, .int p2]) ++ List.replicate (5 - (lg_sl ([.int p0, .int p1, .int p2])).length) Slot.unset).toArray = ls at hl ⊢
  have hl : lv_has ls 5 [(0, .int p0), (1, .int p1), (2, .int p2)] := hl
  unfold m_x3_joined at h
  refine y_head (pcJ := 225) (σ := Int32) (fun u H locs ls => va_P D vwCl (CS D a s) H ∧ va_S (fun _ => False) s₀.heap H locs ∧ lv_has ls 5 [] ∧ m_x3_joined_J225 s u = some o) (fun u => [.int u]) (fun u H locs ls hI => ?_) (fun J225 => ?_)
  · obtain ⟨hP, hS, hl, h⟩ := hI
    obtain ⟨x1, rfl⟩ : ∃ z, z = u := ⟨u, rfl⟩
    have hP : va_P D vwCl (CS D a s) H := hP
    have hl : lv_has ls 5 [] := hl
    have h : m_x3_joined_J225 s x1 = some o := h
    unfold m_x3_joined_J225 at h
    obtain rfl := Option.some.inj h
    exact W.iret (v := x1) hx hb hr (fun t ht hW => ⟨⟨_, (), rfl, rfl, trivial⟩, hS.F ht⟩) hS.2.2 dX3_joined_225
  refine y_head (pcJ := 199) (σ := Int64) (fun u H locs ls => va_P D vwCl (CS D a s) H ∧ va_S (fun _ => False) s₀.heap H locs ∧ lv_has ls 5 [(3, .long u)] ∧ m_x3_joined_J199 s u = some o) (fun u => []) (fun u H locs ls hI => ?_) (fun J199 => ?_)
  · obtain ⟨hP, hS, hl, h⟩ := hI
    obtain ⟨z2, rfl⟩ : ∃ z, z = u := ⟨u, rfl⟩
    have hP : va_P D vwCl (CS D a s) H := hP
    have hl : lv_has ls 5 [(3, .long z2)] := hl
    have h : m_x3_joined_J199 s z2 = some o := h
    unfold m_x3_joined_J199 at h
    refine lv_lload_n hx hb dX3_joined_199 rfl (lv_at hl 0 rfl) ?_
    refine lv_ldc2 (own := RX3) (v := 1000000) hx hb hown (ht _ cl_X3_82) dX3_joined_200 ?_
    refine W.lcmp hx hb dX3_joined_203 ?_
    refine lv_if_le (tgt := 210) hx hb dX3_joined_204 (by decide) (fun c3 => ?_) (fun c3 => ?_)
    · have h := if_t c3 h
      refine lv_lload_n hx hb dX3_joined_210 rfl (lv_at hl 0 rfl) ?_
      refine lv_ldc2 (own := RX3) (v := (-1000000)) hx hb hown (ht _ cl_X3_85) dX3_joined_211 ?_
      refine W.lcmp hx hb dX3_joined_214 ?_
      refine lv_if_ge (tgt := 223) hx hb dX3_joined_215 (by decide) (fun c4 => ?_) (fun c4 => ?_)
      · have h := if_t c4 h
        refine lv_lload_n hx hb dX3_joined_223 rfl (lv_at hl 0 rfl) ?_
        refine lv_l2i (v := Int64.toInt32 z2) hx hb dX3_joined_224 rfl ?_
        exact J225 (Int64.toInt32 z2) _ _ _ ⟨hP, hS, lv_sub hl [] rfl, h⟩
      · have h := if_f c4 h
        refine lv_ldc (own := RX3) (v := (-1000000)) hx hb hown (ht _ ck_X3_87) dX3_joined_218 ?_
        refine lv_goto (tgt := 225) hx hb dX3_joined_220 (by decide) ?_
        exact J225 (-1000000) _ _ _ ⟨hP, hS, lv_sub hl [] rfl, h⟩
    · have h := if_f c3 h
      refine lv_ldc (own := RX3) (v := 1000000) hx hb hown (ht _ ck_X3_84) dX3_joined_207 ?_
      obtain rfl := Option.some.inj h
      exact W.iret (v := 1000000) hx hb hr (fun t ht hW => ⟨⟨_, (), rfl, rfl, trivial⟩, hS.F ht⟩) hS.2.2 dX3_joined_209
  refine y_head (pcJ := 179) (σ := Int64) (fun u H locs ls => va_P D vwCl (CS D a s) H ∧ va_S (fun _ => False) s₀.heap H locs ∧ lv_has ls 5 [] ∧ m_x3_joined_J179 s u = some o) (fun u => [.long u]) (fun u H locs ls hI => ?_) (fun J179 => ?_)
  · obtain ⟨hP, hS, hl, h⟩ := hI
    obtain ⟨z5, rfl⟩ : ∃ z, z = u := ⟨u, rfl⟩
    have hP : va_P D vwCl (CS D a s) H := hP
    have hl : lv_has ls 5 [] := hl
    have h : m_x3_joined_J179 s z5 = some o := h
    unfold m_x3_joined_J179 at h
    refine lv_lstore_n (lv' := [(3, .long z5)]) hx hb dX3_joined_179 rfl hl (by decide) rfl (fun ls hl => ?_)
    refine lv_goto (tgt := 199) hx hb dX3_joined_180 (by decide) ?_
    exact J199 z5 _ _ _ ⟨hP, hS, lv_sub hl [0] rfl, h⟩
  refine y_head (pcJ := 165) (σ := Int64) (fun u H locs ls => va_P D vwCl (CS D a s) H ∧ va_S (fun _ => False) s₀.heap H locs ∧ lv_has ls 5 [] ∧ m_x3_joined_J165 s u = some o) (fun u => [.long u]) (fun u H locs ls hI => ?_) (fun J165 => ?_)
  · obtain ⟨hP, hS, hl, h⟩ := hI
    obtain ⟨z6, rfl⟩ : ∃ z, z = u := ⟨u, rfl⟩
    have hP : va_P D vwCl (CS D a s) H := hP
    have hl : lv_has ls 5 [] := hl
    have h : m_x3_joined_J165 s z6 = some o := h
    unfold m_x3_joined_J165 at h
    refine lv_lstore_n (lv' := [(3, .long z6)]) hx hb dX3_joined_165 rfl hl (by decide) rfl (fun ls hl => ?_)
    refine lv_goto (tgt := 199) hx hb dX3_joined_166 (by decide) ?_
    exact J199 z6 _ _ _ ⟨hP, hS, lv_sub hl [0] rfl, h⟩
  refine y_head (pcJ := 151) (σ := Int64) (fun u H locs ls => va_P D vwCl (CS D a s) H ∧ va_S (fun _ => False) s₀.heap H locs ∧ lv_has ls 5 [] ∧ m_x3_joined_J151 s u = some o) (fun u => [.long u]) (fun u H locs ls hI => ?_) (fun J151 => ?_)
  · obtain ⟨hP, hS, hl, h⟩ := hI
    obtain ⟨z7, rfl⟩ : ∃ z, z = u := ⟨u, rfl⟩
    have hP : va_P D vwCl (CS D a s) H := hP
    have hl : lv_has ls 5 [] := hl
    have h : m_x3_joined_J151 s z7 = some o := h
    unfold m_x3_joined_J151 at h
    refine lv_lstore_n (lv' := [(3, .long z7)]) hx hb dX3_joined_151 rfl hl (by decide) rfl (fun ls hl => ?_)
    refine lv_goto (tgt := 199) hx hb dX3_joined_152 (by decide) ?_
    exact J199 z7 _ _ _ ⟨hP, hS, lv_sub hl [0] rfl, h⟩
  refine y_head (pcJ := 137) (σ := Int64) (fun u H locs ls => va_P D vwCl (CS D a s) H ∧ va_S (fun _ => False) s₀.heap H locs ∧ lv_has ls 5 [] ∧ m_x3_joined_J137 s u = some o) (fun u => [.long u]) (fun u H locs ls hI => ?_) (fun J137 => ?_)
  · obtain ⟨hP, hS, hl, h⟩ := hI
    obtain ⟨z8, rfl⟩ : ∃ z, z = u := ⟨u, rfl⟩
    have hP : va_P D vwCl (CS D a s) H := hP
    have hl : lv_has ls 5 [] := hl
    have h : m_x3_joined_J137 s z8 = some o := h
    unfold m_x3_joined_J137 at h
    refine lv_lstore_n (lv' := [(3, .long z8)]) hx hb dX3_joined_137 rfl hl (by decide) rfl (fun ls hl => ?_)
    refine lv_goto (tgt := 199) hx hb dX3_joined_138 (by decide) ?_
    exact J199 z8 _ _ _ ⟨hP, hS, lv_sub hl [0] rfl, h⟩
  refine y_head (pcJ := 121) (σ := Int64) (fun u H locs ls => va_P D vwCl (CS D a s) H ∧ va_S (fun _ => False) s₀.heap H locs ∧ lv_has ls 5 [] ∧ m_x3_joined_J121 s u = some o) (fun u => [.long u]) (fun u H locs ls hI => ?_) (fun J121 => ?_)
  · obtain ⟨hP, hS, hl, h⟩ := hI
    obtain ⟨z9, rfl⟩ : ∃ z, z = u := ⟨u, rfl⟩
    have hP : va_P D vwCl (CS D a s) H := hP
    have hl : lv_has ls 5 [] := hl
    have h : m_x3_joined_J121 s z9 = some o := h
    unfold m_x3_joined_J121 at h
    refine lv_lstore_n (lv' := [(3, .long z9)]) hx hb dX3_joined_121 rfl hl (by decide) rfl (fun ls hl => ?_)
    refine lv_goto (tgt := 199) hx hb dX3_joined_122 (by decide) ?_
    exact J199 z9 _ _ _ ⟨hP, hS, lv_sub hl [0] rfl, h⟩
  refine y_head (pcJ := 105) (σ := Int64) (fun u H locs ls => va_P D vwCl (CS D a s) H ∧ va_S (fun _ => False) s₀.heap H locs ∧ lv_has ls 5 [] ∧ m_x3_joined_J105 s u = some o) (fun u => [.long u]) (fun u H locs ls hI => ?_) (fun J105 => ?_)
  · obtain ⟨hP, hS, hl, h⟩ := hI
    obtain ⟨z10, rfl⟩ : ∃ z, z = u := ⟨u, rfl⟩
    have hP : va_P D vwCl (CS D a s) H := hP
    have hl : lv_has ls 5 [] := hl
    have h : m_x3_joined_J105 s z10 = some o := h
    unfold m_x3_joined_J105 at h
    refine lv_lstore_n (lv' := [(3, .long z10)]) hx hb dX3_joined_105 rfl hl (by decide) rfl (fun ls hl => ?_)
    refine lv_goto (tgt := 199) hx hb dX3_joined_106 (by decide) ?_
    exact J199 z10 _ _ _ ⟨hP, hS, lv_sub hl [0] rfl, h⟩
  refine lv_lconst (v := 0) hx hb dX3_joined_0 (by decide) ?_
  refine lv_lstore_n (lv' := [(3, .long 0), (0, .int p0), (1, .int p1), (2, .int p2)]) hx hb dX3_joined_1 rfl hl (by decide) rfl (fun ls hl => ?_)
  refine lv_iload_n hx hb dX3_joined_2 rfl (lv_at hl 1 rfl) ?_
  by_cases c11 : p0 = (-11)
  · have h := if_t c11 h
    refine lv_tableIn (off := 188) (tgt := 191) hx hb dX3_joined_3 (by rw [c11]; decide) (by rw [c11]; decide) (by rw [c11]; decide) (by decide) ?_
    refine lv_iload_n hx hb dX3_joined_191 rfl (lv_at hl 2 rfl) ?_
    refine lv_iload_n hx hb dX3_joined_192 rfl (lv_at hl 3 rfl) ?_
    refine lv_ior hx hb dX3_joined_193 ?_
    refine lv_i2l (v := Int32.toInt64 (p1 ||| p2)) hx hb dX3_joined_194 rfl ?_
    refine lv_lstore_n (lv' := [(3, .long (Int32.toInt64 (p1 ||| p2))), (0, .int p0), (1, .int p1), (2, .int p2)]) hx hb dX3_joined_195 rfl hl (by decide) rfl (fun ls hl => ?_)
    refine lv_goto (tgt := 199) hx hb dX3_joined_196 (by decide) ?_
    exact J199 (Int32.toInt64 (p1 ||| p2)) _ _ _ ⟨hP, hS, lv_sub hl [0] rfl, h⟩
  · have h := if_f c11 h
    by_cases c12 : p0 = (-10)
    · have h := if_t c12 h
      refine lv_tableIn (off := 180) (tgt := 183) hx hb dX3_joined_3 (by rw [c12]; decide) (by rw [c12]; decide) (by rw [c12]; decide) (by decide) ?_
      refine lv_iload_n hx hb dX3_joined_183 rfl (lv_at hl 2 rfl) ?_
      refine lv_iload_n hx hb dX3_joined_184 rfl (lv_at hl 3 rfl) ?_
      refine lv_iand hx hb dX3_joined_185 ?_
      refine lv_i2l (v := Int32.toInt64 (p1 &&& p2)) hx hb dX3_joined_186 rfl ?_
      refine lv_lstore_n (lv' := [(3, .long (Int32.toInt64 (p1 &&& p2))), (0, .int p0), (1, .int p1), (2, .int p2)]) hx hb dX3_joined_187 rfl hl (by decide) rfl (fun ls hl => ?_)
      refine lv_goto (tgt := 199) hx hb dX3_joined_188 (by decide) ?_
      exact J199 (Int32.toInt64 (p1 &&& p2)) _ _ _ ⟨hP, hS, lv_sub hl [0] rfl, h⟩
    · have h := if_f c12 h
      by_cases c13 : p0 = (-9)
      · have h := if_t c13 h
        refine lv_tableIn (off := 166) (tgt := 169) hx hb dX3_joined_3 (by rw [c13]; decide) (by rw [c13]; decide) (by rw [c13]; decide) (by decide) ?_
        refine lv_iload_n hx hb dX3_joined_169 rfl (lv_at hl 2 rfl) ?_
        refine lv_iload_n hx hb dX3_joined_170 rfl (lv_at hl 3 rfl) ?_
        refine lv_icmp_ne (tgt := 178) hx hb dX3_joined_171 (by decide) (fun c14 => ?_) (fun c14 => ?_)
        · have h := if_f c14 h
          refine lv_lconst (v := 0) hx hb dX3_joined_178 (by decide) ?_
          exact J179 0 _ _ _ ⟨hP, hS, lv_sub hl [] rfl, h⟩
        · have h := if_t c14 h
          refine lv_lconst (v := 1) hx hb dX3_joined_174 (by decide) ?_
          refine lv_goto (tgt := 179) hx hb dX3_joined_175 (by decide) ?_
          exact J179 1 _ _ _ ⟨hP, hS, lv_sub hl [] rfl, h⟩
      · have h := if_f c13 h
        by_cases c15 : p0 = (-8)
        · have h := if_t c15 h
          refine lv_tableIn (off := 152) (tgt := 155) hx hb dX3_joined_3 (by rw [c15]; decide) (by rw [c15]; decide) (by rw [c15]; decide) (by decide) ?_
          refine lv_iload_n hx hb dX3_joined_155 rfl (lv_at hl 2 rfl) ?_
          refine lv_iload_n hx hb dX3_joined_156 rfl (lv_at hl 3 rfl) ?_
          refine lv_icmp_le (tgt := 164) hx hb dX3_joined_157 (by decide) (fun c16 => ?_) (fun c16 => ?_)
          · have h := if_t c16 h
            refine lv_lconst (v := 0) hx hb dX3_joined_164 (by decide) ?_
            exact J165 0 _ _ _ ⟨hP, hS, lv_sub hl [] rfl, h⟩
          · have h := if_f c16 h
            refine lv_lconst (v := 1) hx hb dX3_joined_160 (by decide) ?_
            refine lv_goto (tgt := 165) hx hb dX3_joined_161 (by decide) ?_
            exact J165 1 _ _ _ ⟨hP, hS, lv_sub hl [] rfl, h⟩
        · have h := if_f c15 h
          by_cases c17 : p0 = (-7)
          · have h := if_t c17 h
            refine lv_tableIn (off := 138) (tgt := 141) hx hb dX3_joined_3 (by rw [c17]; decide) (by rw [c17]; decide) (by rw [c17]; decide) (by decide) ?_
            refine lv_iload_n hx hb dX3_joined_141 rfl (lv_at hl 2 rfl) ?_
            refine lv_iload_n hx hb dX3_joined_142 rfl (lv_at hl 3 rfl) ?_
            refine lv_icmp_ge (tgt := 150) hx hb dX3_joined_143 (by decide) (fun c18 => ?_) (fun c18 => ?_)
            · have h := if_t c18 h
              refine lv_lconst (v := 0) hx hb dX3_joined_150 (by decide) ?_
              exact J151 0 _ _ _ ⟨hP, hS, lv_sub hl [] rfl, h⟩
            · have h := if_f c18 h
              refine lv_lconst (v := 1) hx hb dX3_joined_146 (by decide) ?_
              refine lv_goto (tgt := 151) hx hb dX3_joined_147 (by decide) ?_
              exact J151 1 _ _ _ ⟨hP, hS, lv_sub hl [] rfl, h⟩
          · have h := if_f c17 h
            by_cases c19 : p0 = (-6)
            · have h := if_t c19 h
              refine lv_tableIn (off := 122) (tgt := 125) hx hb dX3_joined_3 (by rw [c19]; decide) (by rw [c19]; decide) (by rw [c19]; decide) (by decide) ?_
              refine lv_iload_n hx hb dX3_joined_125 rfl (lv_at hl 2 rfl) ?_
              refine lv_iload_n hx hb dX3_joined_126 rfl (lv_at hl 3 rfl) ?_
              refine lv_icmp_le (tgt := 135) hx hb dX3_joined_127 (by decide) (fun c20 => ?_) (fun c20 => ?_)
              · have h := if_t c20 h
                refine lv_iload_n hx hb dX3_joined_135 rfl (lv_at hl 3 rfl) ?_
                refine lv_i2l (v := Int32.toInt64 p2) hx hb dX3_joined_136 rfl ?_
                exact J137 (Int32.toInt64 p2) _ _ _ ⟨hP, hS, lv_sub hl [] rfl, h⟩
              · have h := if_f c20 h
                refine lv_iload_n hx hb dX3_joined_130 rfl (lv_at hl 2 rfl) ?_
                refine lv_i2l (v := Int32.toInt64 p1) hx hb dX3_joined_131 rfl ?_
                refine lv_goto (tgt := 137) hx hb dX3_joined_132 (by decide) ?_
                exact J137 (Int32.toInt64 p1) _ _ _ ⟨hP, hS, lv_sub hl [] rfl, h⟩
            · have h := if_f c19 h
              by_cases c21 : p0 = (-5)
              · have h := if_t c21 h
                refine lv_tableIn (off := 106) (tgt := 109) hx hb dX3_joined_3 (by rw [c21]; decide) (by rw [c21]; decide) (by rw [c21]; decide) (by decide) ?_
                refine lv_iload_n hx hb dX3_joined_109 rfl (lv_at hl 2 rfl) ?_
                refine lv_iload_n hx hb dX3_joined_110 rfl (lv_at hl 3 rfl) ?_
                refine lv_icmp_ge (tgt := 119) hx hb dX3_joined_111 (by decide) (fun c22 => ?_) (fun c22 => ?_)
                · have h := if_t c22 h
                  refine lv_iload_n hx hb dX3_joined_119 rfl (lv_at hl 3 rfl) ?_
                  refine lv_i2l (v := Int32.toInt64 p2) hx hb dX3_joined_120 rfl ?_
                  exact J121 (Int32.toInt64 p2) _ _ _ ⟨hP, hS, lv_sub hl [] rfl, h⟩
                · have h := if_f c22 h
                  refine lv_iload_n hx hb dX3_joined_114 rfl (lv_at hl 2 rfl) ?_
                  refine lv_i2l (v := Int32.toInt64 p1) hx hb dX3_joined_115 rfl ?_
                  refine lv_goto (tgt := 121) hx hb dX3_joined_116 (by decide) ?_
                  exact J121 (Int32.toInt64 p1) _ _ _ ⟨hP, hS, lv_sub hl [] rfl, h⟩
              · have h := if_f c21 h
                by_cases c23 : p0 = (-4)
                · have h := if_t c23 h
                  refine lv_tableIn (off := 82) (tgt := 85) hx hb dX3_joined_3 (by rw [c23]; decide) (by rw [c23]; decide) (by rw [c23]; decide) (by decide) ?_
                  refine lv_iload_n hx hb dX3_joined_85 rfl (lv_at hl 3 rfl) ?_
                  refine lv_if_ne (tgt := 93) hx hb dX3_joined_86 (by decide) (fun c24 => ?_) (fun c24 => ?_)
                  · have h := if_f c24 h
                    refine lv_iload_n hx hb dX3_joined_93 rfl (lv_at hl 2 rfl) ?_
                    refine lv_iload_n hx hb dX3_joined_94 rfl (lv_at hl 2 rfl) ?_
                    refine lv_iload_n hx hb dX3_joined_95 rfl (lv_at hl 3 rfl) ?_
                    obtain ⟨hn25, h⟩ := nz_e h
                    refine lv_irem hx hb dX3_joined_96 hn25 ?_
                    refine lv_iload_n hx hb dX3_joined_97 rfl (lv_at hl 3 rfl) ?_
                    refine lv_iadd hx hb dX3_joined_98 ?_
                    refine lv_iload_n hx hb dX3_joined_99 rfl (lv_at hl 3 rfl) ?_
                    obtain ⟨hn26, h⟩ := nz_e h
                    refine lv_irem hx hb dX3_joined_100 hn26 ?_
                    refine lv_isub hx hb dX3_joined_101 ?_
                    refine lv_iload_n hx hb dX3_joined_102 rfl (lv_at hl 3 rfl) ?_
                    obtain ⟨hn27, h⟩ := nz_e h
                    refine lv_idiv hx hb dX3_joined_103 hn27 ?_
                    refine lv_i2l (v := Int32.toInt64 ((p1 - (((p1 - p1 / p2 * p2) + p2) - ((p1 - p1 / p2 * p2) + p2) / p2 * p2)) / p2)) hx hb dX3_joined_104 rfl ?_
                    exact J105 (Int32.toInt64 ((p1 - (((p1 - p1 / p2 * p2) + p2) - ((p1 - p1 / p2 * p2) + p2) / p2 * p2)) / p2)) _ _ _ ⟨hP, hS, lv_sub hl [] rfl, h⟩
                  · have h := if_t c24 h
                    refine lv_lconst (v := 0) hx hb dX3_joined_89 (by decide) ?_
                    refine lv_goto (tgt := 105) hx hb dX3_joined_90 (by decide) ?_
                    exact J105 0 _ _ _ ⟨hP, hS, lv_sub hl [] rfl, h⟩
                · have h := if_f c23 h
                  by_cases c28 : p0 = (-3)
                  · have h := if_t c28 h
                    refine lv_tableIn (off := 73) (tgt := 76) hx hb dX3_joined_3 (by rw [c28]; decide) (by rw [c28]; decide) (by rw [c28]; decide) (by decide) ?_
                    refine lv_iload_n hx hb dX3_joined_76 rfl (lv_at hl 2 rfl) ?_
                    refine lv_i2l (v := Int32.toInt64 p1) hx hb dX3_joined_77 rfl ?_
                    refine lv_iload_n hx hb dX3_joined_78 rfl (lv_at hl 3 rfl) ?_
                    refine lv_i2l (v := Int32.toInt64 p2) hx hb dX3_joined_79 rfl ?_
                    refine lv_lmul hx hb dX3_joined_80 ?_
                    refine lv_lstore_n (lv' := [(3, .long ((Int32.toInt64 p1) * (Int32.toInt64 p2))), (0, .int p0), (1, .int p1), (2, .int p2)]) hx hb dX3_joined_81 rfl hl (by decide) rfl (fun ls hl => ?_)
                    refine lv_goto (tgt := 199) hx hb dX3_joined_82 (by decide) ?_
                    exact J199 ((Int32.toInt64 p1) * (Int32.toInt64 p2)) _ _ _ ⟨hP, hS, lv_sub hl [0] rfl, h⟩
                  · have h := if_f c28 h
                    by_cases c29 : p0 = (-2)
                    · have h := if_t c29 h
                      refine lv_tableIn (off := 65) (tgt := 68) hx hb dX3_joined_3 (by rw [c29]; decide) (by rw [c29]; decide) (by rw [c29]; decide) (by decide) ?_
                      refine lv_iload_n hx hb dX3_joined_68 rfl (lv_at hl 2 rfl) ?_
                      refine lv_iload_n hx hb dX3_joined_69 rfl (lv_at hl 3 rfl) ?_
                      refine lv_isub hx hb dX3_joined_70 ?_
                      refine lv_i2l (v := Int32.toInt64 (p1 - p2)) hx hb dX3_joined_71 rfl ?_
                      refine lv_lstore_n (lv' := [(3, .long (Int32.toInt64 (p1 - p2))), (0, .int p0), (1, .int p1), (2, .int p2)]) hx hb dX3_joined_72 rfl hl (by decide) rfl (fun ls hl => ?_)
                      refine lv_goto (tgt := 199) hx hb dX3_joined_73 (by decide) ?_
                      exact J199 (Int32.toInt64 (p1 - p2)) _ _ _ ⟨hP, hS, lv_sub hl [0] rfl, h⟩
                    · have h := if_f c29 h
                      by_cases c30 : p0 = (-1)
                      · have h := if_t c30 h
                        refine lv_tableIn (off := 57) (tgt := 60) hx hb dX3_joined_3 (by rw [c30]; decide) (by rw [c30]; decide) (by rw [c30]; decide) (by decide) ?_
                        refine lv_iload_n hx hb dX3_joined_60 rfl (lv_at hl 2 rfl) ?_
                        refine lv_iload_n hx hb dX3_joined_61 rfl (lv_at hl 3 rfl) ?_
                        refine lv_iadd hx hb dX3_joined_62 ?_
                        refine lv_i2l (v := Int32.toInt64 (p1 + p2)) hx hb dX3_joined_63 rfl ?_
                        refine lv_lstore_n (lv' := [(3, .long (Int32.toInt64 (p1 + p2))), (0, .int p0), (1, .int p1), (2, .int p2)]) hx hb dX3_joined_64 rfl hl (by decide) rfl (fun ls hl => ?_)
                        refine lv_goto (tgt := 199) hx hb dX3_joined_65 (by decide) ?_
                        exact J199 (Int32.toInt64 (p1 + p2)) _ _ _ ⟨hP, hS, lv_sub hl [0] rfl, h⟩
                      · have h := if_f c30 h
                        have gc11 := lv_neT (a := (-11)) c11 (by decide)
                        have gc12 := lv_neT (a := (-10)) c12 (by decide)
                        have gc13 := lv_neT (a := (-9)) c13 (by decide)
                        have gc15 := lv_neT (a := (-8)) c15 (by decide)
                        have gc17 := lv_neT (a := (-7)) c17 (by decide)
                        have gc19 := lv_neT (a := (-6)) c19 (by decide)
                        have gc21 := lv_neT (a := (-5)) c21 (by decide)
                        have gc23 := lv_neT (a := (-4)) c23 (by decide)
                        have gc28 := lv_neT (a := (-3)) c28 (by decide)
                        have gc29 := lv_neT (a := (-2)) c29 (by decide)
                        have gc30 := lv_neT (a := (-1)) c30 (by decide)
                        refine lv_tableOut (tgt := 199) hx hb dX3_joined_3 (by omega) (by decide) ?_
                        exact J199 0 _ _ _ ⟨hP, hS, lv_sub hl [0] rfl, h⟩
def m_x3_push_J29 (s1 : MS) : Option MS :=
  some s1
def m_x3_push (p0 : Int32) (s : MS) : Option MS :=
  if 64 ≤ (gI s 1601) then m_x3_push_J29 s else inb 64 (gI s 1601) (stn (sA s 81 (upd (gA s 81) (Int32.toNatClampNeg (gI s 1601)) p0)) (fun s4 => stn (sI s4 1601 ((gI s4 1601) + 1)) (fun s5 => m_x3_push_J29 s5)))
set_option maxHeartbeats 4000000 in
set_option maxRecDepth 100000 in
theorem k_x3_push (l : Launch) (D : va_G) (a : Nat → Nat) (p0 : Int32) (sz : Nat) (s : MS) (o : MS) (h : m_x3_push p0 s = some o) : yWv l yX3_push cX3_push 2 none { frames := 0, cells := 0, slots := 0, locals := 0 } D sz [.ref (a 80), .int p0] (CS D a s) (CS D a o) := by
  refine Met.ofW (cc := cX3_push) (maxL := 2) (ret := none) (by decide) rfl ?_
  intro p e s₀ m args below meth c s₁ B hml hv
  obtain ⟨rfl, ⟨hsz, hP, hK, hD0⟩, hN⟩ := hv
  have hx := B.exec
  have hb := B.bytes
  have hr := B.returns
  have hts := atoms_spec (ws := wz yX3_push cX3_push 2 none) B.pre
  have ht : ∀ w ∈ lw_gd, w.before _ s₀ = true := fun w h => hts w (List.mem_cons_of_mem _ h)
  have hown : s₀.vm.findClass RX3 = some m.cls := findClass_of_methodNamed B.named
  have hlocks := B.notSynchronized
  subst hsz
  have hD := hD0.self (sz := s₀.heap.size)
  generalize hAe : va_A (CS D a s) s₀.heap.size = A at hD ⊢
  have hA : ∀ q : Nat, s₀.heap.size ≤ q → A q := fun q h => by rw [← hAe]; exact Or.inr h
  have hS : va_S A s₀.heap s₀.heap [] := va_S.rf
  have hDD : ∀ t : MS, va_D A (CS D a t) := fun t => CW_D t hD
  have hl := lv_entry ([.ref (a 80), .int p0]) (n := 2) (Nat.le_of_ble_eq_true rfl)
  rw [lg_entry_eq]
  generalize (lg_sl ([.ref (a 80), .int p0]) ++ List.replicate (2 - (lg_sl ([.ref (a 80), .int p0])).length) Slot.unset).toArray = ls at hl ⊢
  have hl : lv_has ls 2 [(0, .ref (a 80)), (1, .int p0)] := hl
  unfold m_x3_push at h
  refine y_head (pcJ := 29) (σ := MS) (fun u H locs ls => va_P D vwCl (CS D a u) H ∧ va_S A s₀.heap H locs ∧ lv_has ls 2 [] ∧ m_x3_push_J29 u = some o) (fun u => []) (fun u H locs ls hI => ?_) (fun J29 => ?_)
  · obtain ⟨hP, hS, hl, h⟩ := hI
    obtain ⟨s1, rfl⟩ : ∃ z, z = u := ⟨u, rfl⟩
    have hP : va_P D vwCl (CS D a s1) H := hP
    have hl : lv_has ls 2 [] := hl
    have h : m_x3_push_J29 s1 = some o := h
    unfold m_x3_push_J29 at h
    obtain rfl := Option.some.inj h
    exact W.vret hx hb hr (fun t ht hW => ⟨⟨(), rfl, trivial, by rw [ht]; exact hP, va_K.moved hW.alike hK, hDD _⟩, hS.F ht⟩) hS.2.2 dX3_push_29
  refine lv_aload_n hx hb dX3_push_0 rfl (lv_at hl 0 rfl) ?_
  refine va_get (D := D) (ci := 3) (v := .int (gI s 1601)) (C := RX3) (T := TX3) (N := 10) hx hb ht inX3 hown hK hP 80 CW_80 rfl 1 (by decide) (ht (.fieldLink RX3 19 "CloneVolumes$Machine" "top" "I") fl_X3_19) (fun _ h9 => h9) rfl dX3_push_1 ?_
  refine lv_bipush (v := 64) hx hb dX3_push_4 (by decide) ?_
  refine lv_icmp_ge (tgt := 29) hx hb dX3_push_6 (by decide) (fun c2 => ?_) (fun c2 => ?_)
  · have h := if_t c2 h
    exact J29 s _ _ _ ⟨hP, hS, lv_sub hl [] rfl, h⟩
  · have h := if_f c2 h
    refine lv_aload_n hx hb dX3_push_9 rfl (lv_at hl 0 rfl) ?_
    refine va_get (D := D) (ci := 3) (v := .ref (a 81)) (C := RX3) (T := TX3) (N := 10) hx hb ht inX3 hown hK hP 80 CW_80 rfl 0 (by decide) (ht (.fieldLink RX3 11 "CloneVolumes$Machine" "stack" "[I") fl_X3_11) (fun _ h9 => h9) rfl dX3_push_10 ?_
    refine lv_aload_n hx hb dX3_push_13 rfl (lv_at hl 0 rfl) ?_
    refine va_get (D := D) (ci := 3) (v := .int (gI s 1601)) (C := RX3) (T := TX3) (N := 10) hx hb ht inX3 hown hK hP 80 CW_80 rfl 1 (by decide) (ht (.fieldLink RX3 19 "CloneVolumes$Machine" "top" "I") fl_X3_19) (fun _ h9 => h9) rfl dX3_push_14 ?_
    refine lv_iload_n hx hb dX3_push_17 rfl (lv_at hl 1 rfl) ?_
    obtain ⟨hi3, h⟩ := inb_e h
    refine ya_iast hx hb hK hP (hDD _) hS 81 0 CW_81 rfl hi3 dX3_push_18 (CW_w81 _) (fun H locs hP hS => ?_)
    obtain ⟨s4, hs4, h⟩ := st_e h
    rw [hs4] at hP
    refine lv_aload_n hx hb dX3_push_19 rfl (lv_at hl 0 rfl) ?_
    refine lv_dup hx hb dX3_push_20 rfl ?_
    refine va_get (D := D) (ci := 3) (v := .int (gI s4 1601)) (C := RX3) (T := TX3) (N := 10) hx hb ht inX3 hown hK hP 80 CW_80 rfl 1 (by decide) (ht (.fieldLink RX3 19 "CloneVolumes$Machine" "top" "I") fl_X3_19) (fun _ h9 => h9) rfl dX3_push_21 ?_
    refine lv_iconst (v := 1) hx hb dX3_push_24 (by decide) ?_
    refine lv_iadd hx hb dX3_push_25 ?_
    refine ya_put (D := D) (ci := 3) (v := .int ((gI s4 1601) + 1)) (ty := .int) (C := RX3) (T := TX3) (N := 10) hx hb ht inX3 tyX3 tyX3_ok nmX3 hown hK hP (hDD _) hS 80 CW_80 rfl 1 (by decide) (ht (.fieldLink RX3 19 "CloneVolumes$Machine" "top" "I") fl_X3_19) (fun _ h9 => h9) rfl (by decide +kernel) rfl rfl (Nat.le_of_ble_eq_true rfl) dX3_push_26 (CW_w80_1 _) (fun H locs hP hS => ?_)
    obtain ⟨s5, hs5, h⟩ := st_e h
    rw [hs5] at hP
    exact J29 s5 _ _ _ ⟨hP, hS, lv_sub hl [] rfl, h⟩
def m_x3_changed_J69 (s : MS) (x1 : Int32) : Option Int32 :=
  some x1
def m_x3_changed_J37 (s : MS) (_u : Unit) : Option Int32 :=
  some 0
def m_x3_changed (p0 : Int32) (p1 : Int32) (s : MS) : Option Int32 :=
  if p0 = (-12) then some (1 - p1) else if p1 < 0 then m_x3_changed_J37 s () else if (gI s 1060) ≤ p1 then m_x3_changed_J37 s () else rdI (gA s 54) 48 p1 (fun y5 => if y5 = 0 then m_x3_changed_J37 s () else if p0 = (-13) then rdI (gA s 54) 48 p1 (fun y9 => m_x3_changed_J69 s y9) else rdI (gA s 58) 288 (p1 * 6) (fun y8 => m_x3_changed_J69 s y8))
set_option maxHeartbeats 4000000 in
set_option maxRecDepth 100000 in
theorem k_x3_changed (l : Launch) (D : va_G) (a : Nat → Nat) (p0 : Int32) (p1 : Int32) (s : MS) (o : Int32) (h : m_x3_changed p0 p1 s = some o) : yRi l yX3_changed cX3_changed 3 (some .int) { frames := 0, cells := 0, slots := 0, locals := 0 } D [.ref (a 80), .int p0, .int p1] (CS D a s) o := by
  refine Met.ofW (cc := cX3_changed) (maxL := 3) (ret := (some .int)) (by decide) rfl ?_
  intro p e s₀ m args below meth c s₁ B hml hv
  obtain ⟨rfl, ⟨hP, hK⟩, hN⟩ := hv
  have hx := B.exec
  have hb := B.bytes
  have hr := B.returns
  have hts := atoms_spec (ws := wz yX3_changed cX3_changed 3 (some .int)) B.pre
  have ht : ∀ w ∈ lw_gd, w.before _ s₀ = true := fun w h => hts w (List.mem_cons_of_mem _ h)
  have hown : s₀.vm.findClass RX3 = some m.cls := findClass_of_methodNamed B.named
  have hlocks := B.notSynchronized
  have hS : va_S (fun _ => False) s₀.heap s₀.heap [] := va_S.rf
  have hl := lv_entry ([.ref (a 80), .int p0, .int p1]) (n := 3) (Nat.le_of_ble_eq_true rfl)
  rw [lg_entry_eq]
  generalize (lg_sl ([.ref (a 80), .int p0, .int p1]) ++ List.replicate (3 - (lg_sl ([.ref (a 80), .int p0, .int p1])).length) Slot.unset).toArray = ls at hl ⊢
  have hl : lv_has ls 3 [(0, .ref (a 80)), (1, .int p0), (2, .int p1)] := hl
  unfold m_x3_changed at h
  refine y_head (pcJ := 69) (σ := Int32) (fun u H locs ls => va_P D vwCl (CS D a s) H ∧ va_S (fun _ => False) s₀.heap H locs ∧ lv_has ls 3 [] ∧ m_x3_changed_J69 s u = some o) (fun u => [.int u]) (fun u H locs ls hI => ?_) (fun J69 => ?_)
  · obtain ⟨hP, hS, hl, h⟩ := hI
    obtain ⟨x1, rfl⟩ : ∃ z, z = u := ⟨u, rfl⟩
    have hP : va_P D vwCl (CS D a s) H := hP
    have hl : lv_has ls 3 [] := hl
    have h : m_x3_changed_J69 s x1 = some o := h
    unfold m_x3_changed_J69 at h
    obtain rfl := Option.some.inj h
    exact W.iret (v := x1) hx hb hr (fun t ht hW => ⟨⟨_, (), rfl, rfl, trivial⟩, hS.F ht⟩) hS.2.2 dX3_changed_69
  refine y_head (pcJ := 37) (σ := Unit) (fun u H locs ls => va_P D vwCl (CS D a s) H ∧ va_S (fun _ => False) s₀.heap H locs ∧ lv_has ls 3 [] ∧ m_x3_changed_J37 s u = some o) (fun u => []) (fun u H locs ls hI => ?_) (fun J37 => ?_)
  · obtain ⟨hP, hS, hl, h⟩ := hI
    skip
    have hP : va_P D vwCl (CS D a s) H := hP
    have hl : lv_has ls 3 [] := hl
    have h : m_x3_changed_J37 s () = some o := h
    unfold m_x3_changed_J37 at h
    refine lv_iconst (v := 0) hx hb dX3_changed_37 (by decide) ?_
    obtain rfl := Option.some.inj h
    exact W.iret (v := 0) hx hb hr (fun t ht hW => ⟨⟨_, (), rfl, rfl, trivial⟩, hS.F ht⟩) hS.2.2 dX3_changed_38
  refine lv_iload_n hx hb dX3_changed_0 rfl (lv_at hl 1 rfl) ?_
  refine lv_bipush (v := (-12)) hx hb dX3_changed_1 (by decide) ?_
  refine lv_icmp_ne (tgt := 10) hx hb dX3_changed_3 (by decide) (fun c2 => ?_) (fun c2 => ?_)
  · have h := if_f c2 h
    refine lv_iload_n hx hb dX3_changed_10 rfl (lv_at hl 2 rfl) ?_
    refine lv_if_lt (tgt := 37) hx hb dX3_changed_11 (by decide) (fun c3 => ?_) (fun c3 => ?_)
    · have h := if_t c3 h
      exact J37 () _ _ _ ⟨hP, hS, lv_sub hl [] rfl, h⟩
    · have h := if_f c3 h
      refine lv_iload_n hx hb dX3_changed_14 rfl (lv_at hl 2 rfl) ?_
      refine lv_aload_n hx hb dX3_changed_15 rfl (lv_at hl 0 rfl) ?_
      refine va_get (D := D) (ci := 3) (v := .ref (a 53)) (C := RX3) (T := TX3) (N := 10) hx hb ht inX3 hown hK hP 80 CW_80 rfl 9 (by decide) (ht (.fieldLink RX3 15 "CloneVolumes$Machine" "state" "LCloneVolumes$State;") fl_X3_15) (fun _ h9 => h9) rfl dX3_changed_16 ?_
      refine va_get (D := D) (ci := 8) (v := .int (gI s 1060)) (C := RX8) (T := TX8) (N := 11) hx hb ht inX8 hown hK hP 53 CW_53 rfl 0 (by decide) (ht (.fieldLink RX3 72 "CloneVolumes$State" "blocks" "I") fl_X3_72) (fun _ h9 => h9) rfl dX3_changed_19 ?_
      refine lv_icmp_ge (tgt := 37) hx hb dX3_changed_22 (by decide) (fun c4 => ?_) (fun c4 => ?_)
      · have h := if_t c4 h
        exact J37 () _ _ _ ⟨hP, hS, lv_sub hl [] rfl, h⟩
      · have h := if_f c4 h
        refine lv_aload_n hx hb dX3_changed_25 rfl (lv_at hl 0 rfl) ?_
        refine va_get (D := D) (ci := 3) (v := .ref (a 53)) (C := RX3) (T := TX3) (N := 10) hx hb ht inX3 hown hK hP 80 CW_80 rfl 9 (by decide) (ht (.fieldLink RX3 15 "CloneVolumes$Machine" "state" "LCloneVolumes$State;") fl_X3_15) (fun _ h9 => h9) rfl dX3_changed_26 ?_
        refine va_get (D := D) (ci := 8) (v := .ref (a 54)) (C := RX8) (T := TX8) (N := 11) hx hb ht inX8 hown hK hP 53 CW_53 rfl 3 (by decide) (ht (.fieldLink RX3 77 "CloneVolumes$State" "count" "[I") fl_X3_77) (fun _ h9 => h9) rfl dX3_changed_29 ?_
        refine lv_iload_n hx hb dX3_changed_32 rfl (lv_at hl 2 rfl) ?_
        obtain ⟨y5, ey5, iy5, h⟩ := rdI_e h
        refine ya_iald hx hb hK hP 54 0 CW_54 rfl ey5 iy5 dX3_changed_33 ?_
        refine lv_if_ne (tgt := 39) hx hb dX3_changed_34 (by decide) (fun c6 => ?_) (fun c6 => ?_)
        · have h := if_f c6 h
          refine lv_iload_n hx hb dX3_changed_39 rfl (lv_at hl 1 rfl) ?_
          refine lv_bipush (v := (-13)) hx hb dX3_changed_40 (by decide) ?_
          refine lv_icmp_ne (tgt := 57) hx hb dX3_changed_42 (by decide) (fun c7 => ?_) (fun c7 => ?_)
          · have h := if_f c7 h
            refine lv_aload_n hx hb dX3_changed_57 rfl (lv_at hl 0 rfl) ?_
            refine va_get (D := D) (ci := 3) (v := .ref (a 53)) (C := RX3) (T := TX3) (N := 10) hx hb ht inX3 hown hK hP 80 CW_80 rfl 9 (by decide) (ht (.fieldLink RX3 15 "CloneVolumes$Machine" "state" "LCloneVolumes$State;") fl_X3_15) (fun _ h9 => h9) rfl dX3_changed_58 ?_
            refine va_get (D := D) (ci := 8) (v := .ref (a 58)) (C := RX8) (T := TX8) (N := 11) hx hb ht inX8 hown hK hP 53 CW_53 rfl 7 (by decide) (ht (.fieldLink RX3 79 "CloneVolumes$State" "keys" "[I") fl_X3_79) (fun _ h9 => h9) rfl dX3_changed_61 ?_
            refine lv_iload_n hx hb dX3_changed_64 rfl (lv_at hl 2 rfl) ?_
            refine lv_bipush (v := 6) hx hb dX3_changed_65 (by decide) ?_
            refine lv_imul hx hb dX3_changed_67 ?_
            obtain ⟨y8, ey8, iy8, h⟩ := rdI_e h
            refine ya_iald hx hb hK hP 58 0 CW_58 rfl ey8 iy8 dX3_changed_68 ?_
            exact J69 y8 _ _ _ ⟨hP, hS, lv_sub hl [] rfl, h⟩
          · have h := if_t c7 h
            refine lv_aload_n hx hb dX3_changed_45 rfl (lv_at hl 0 rfl) ?_
            refine va_get (D := D) (ci := 3) (v := .ref (a 53)) (C := RX3) (T := TX3) (N := 10) hx hb ht inX3 hown hK hP 80 CW_80 rfl 9 (by decide) (ht (.fieldLink RX3 15 "CloneVolumes$Machine" "state" "LCloneVolumes$State;") fl_X3_15) (fun _ h9 => h9) rfl dX3_changed_46 ?_
            refine va_get (D := D) (ci := 8) (v := .ref (a 54)) (C := RX8) (T := TX8) (N := 11) hx hb ht inX8 hown hK hP 53 CW_53 rfl 3 (by decide) (ht (.fieldLink RX3 77 "CloneVolumes$State" "count" "[I") fl_X3_77) (fun _ h9 => h9) rfl dX3_changed_49 ?_
            refine lv_iload_n hx hb dX3_changed_52 rfl (lv_at hl 2 rfl) ?_
            obtain ⟨y9, ey9, iy9, h⟩ := rdI_e h
            refine ya_iald hx hb hK hP 54 0 CW_54 rfl ey9 iy9 dX3_changed_53 ?_
            refine lv_goto (tgt := 69) hx hb dX3_changed_54 (by decide) ?_
            exact J69 y9 _ _ _ ⟨hP, hS, lv_sub hl [] rfl, h⟩
        · have h := if_t c6 h
          exact J37 () _ _ _ ⟨hP, hS, lv_sub hl [] rfl, h⟩
  · have h := if_t c2 h
    refine lv_iconst (v := 1) hx hb dX3_changed_6 (by decide) ?_
    refine lv_iload_n hx hb dX3_changed_7 rfl (lv_at hl 2 rfl) ?_
    refine lv_isub hx hb dX3_changed_8 ?_
    obtain rfl := Option.some.inj h
    exact W.iret (v := 1 - p1) hx hb hr (fun t ht hW => ⟨⟨_, (), rfl, rfl, trivial⟩, hS.F ht⟩) hS.2.2 dX3_changed_9
def m_x3_fact_J48 (s : MS) (_u : Unit) : Option Int32 :=
  some (gI s 1602)
def m_x3_fact (p0 : Int32) (s : MS) : Option Int32 :=
  if p0 = 11 then m_x3_fact_J48 s () else if p0 = 12 then some (gI s 1603) else if p0 = 13 then some (gI s 1604) else if p0 = 14 then some (gI s 1605) else if p0 = 15 then m_x3_fact_J48 s () else if p0 = 16 then some (gI s 1606) else if p0 = 17 then some (gI s 1607) else if p0 = 18 then some (gI s 1608) else some 0
set_option maxHeartbeats 4000000 in
set_option maxRecDepth 100000 in
theorem k_x3_fact (l : Launch) (D : va_G) (a : Nat → Nat) (p0 : Int32) (s : MS) (o : Int32) (h : m_x3_fact p0 s = some o) : yRi l yX3_fact cX3_fact 2 (some .int) { frames := 0, cells := 0, slots := 0, locals := 0 } D [.ref (a 80), .int p0] (CS D a s) o := by
  refine Met.ofW (cc := cX3_fact) (maxL := 2) (ret := (some .int)) (by decide) rfl ?_
  intro p e s₀ m args below meth c s₁ B hml hv
  obtain ⟨rfl, ⟨hP, hK⟩, hN⟩ := hv
  have hx := B.exec
  have hb := B.bytes
  have hr := B.returns
  have hts := atoms_spec (ws := wz yX3_fact cX3_fact 2 (some .int)) B.pre
  have ht : ∀ w ∈ lw_gd, w.before _ s₀ = true := fun w h => hts w (List.mem_cons_of_mem _ h)
  have hown : s₀.vm.findClass RX3 = some m.cls := findClass_of_methodNamed B.named
  have hlocks := B.notSynchronized
  have hS : va_S (fun _ => False) s₀.heap s₀.heap [] := va_S.rf
  have hl := lv_entry ([.ref (a 80), .int p0]) (n := 2) (Nat.le_of_ble_eq_true rfl)
  rw [lg_entry_eq]
  generalize (lg_sl ([.ref (a 80), .int p0]) ++ List.replicate (2 - (lg_sl ([.ref (a 80), .int p0])).length) Slot.unset).toArray = ls at hl ⊢
  have hl : lv_has ls 2 [(0, .ref (a 80)), (1, .int p0)] := hl
  unfold m_x3_fact at h
  refine y_head (pcJ := 48) (σ := Unit) (fun u H locs ls => va_P D vwCl (CS D a s) H ∧ va_S (fun _ => False) s₀.heap H locs ∧ lv_has ls 2 [(0, .ref (a 80))] ∧ m_x3_fact_J48 s u = some o) (fun u => []) (fun u H locs ls hI => ?_) (fun J48 => ?_)
  · obtain ⟨hP, hS, hl, h⟩ := hI
    skip
    have hP : va_P D vwCl (CS D a s) H := hP
    have hl : lv_has ls 2 [(0, .ref (a 80))] := hl
    have h : m_x3_fact_J48 s () = some o := h
    unfold m_x3_fact_J48 at h
    refine lv_aload_n hx hb dX3_fact_48 rfl (lv_at hl 0 rfl) ?_
    refine va_get (D := D) (ci := 3) (v := .int (gI s 1602)) (C := RX3) (T := TX3) (N := 10) hx hb ht inX3 hown hK hP 80 CW_80 rfl 2 (by decide) (ht (.fieldLink RX3 51 "CloneVolumes$Machine" "number" "I") fl_X3_51) (fun _ h9 => h9) rfl dX3_fact_49 ?_
    obtain rfl := Option.some.inj h
    exact W.iret (v := gI s 1602) hx hb hr (fun t ht hW => ⟨⟨_, (), rfl, rfl, trivial⟩, hS.F ht⟩) hS.2.2 dX3_fact_52
  refine lv_iload_n hx hb dX3_fact_0 rfl (lv_at hl 1 rfl) ?_
  by_cases c1 : p0 = 11
  · have h := if_t c1 h
    refine lv_tableIn (off := 47) (tgt := 48) hx hb dX3_fact_1 (by rw [c1]; decide) (by rw [c1]; decide) (by rw [c1]; decide) (by decide) ?_
    exact J48 () _ _ _ ⟨hP, hS, lv_sub hl [0] rfl, h⟩
  · have h := if_f c1 h
    by_cases c2 : p0 = 12
    · have h := if_t c2 h
      refine lv_tableIn (off := 52) (tgt := 53) hx hb dX3_fact_1 (by rw [c2]; decide) (by rw [c2]; decide) (by rw [c2]; decide) (by decide) ?_
      refine lv_aload_n hx hb dX3_fact_53 rfl (lv_at hl 0 rfl) ?_
      refine va_get (D := D) (ci := 3) (v := .int (gI s 1603)) (C := RX3) (T := TX3) (N := 10) hx hb ht inX3 hown hK hP 80 CW_80 rfl 3 (by decide) (ht (.fieldLink RX3 54 "CloneVolumes$Machine" "source" "I") fl_X3_54) (fun _ h9 => h9) rfl dX3_fact_54 ?_
      obtain rfl := Option.some.inj h
      exact W.iret (v := gI s 1603) hx hb hr (fun t ht hW => ⟨⟨_, (), rfl, rfl, trivial⟩, hS.F ht⟩) hS.2.2 dX3_fact_57
    · have h := if_f c2 h
      by_cases c3 : p0 = 13
      · have h := if_t c3 h
        refine lv_tableIn (off := 57) (tgt := 58) hx hb dX3_fact_1 (by rw [c3]; decide) (by rw [c3]; decide) (by rw [c3]; decide) (by decide) ?_
        refine lv_aload_n hx hb dX3_fact_58 rfl (lv_at hl 0 rfl) ?_
        refine va_get (D := D) (ci := 3) (v := .int (gI s 1604)) (C := RX3) (T := TX3) (N := 10) hx hb ht inX3 hown hK hP 80 CW_80 rfl 4 (by decide) (ht (.fieldLink RX3 57 "CloneVolumes$Machine" "level" "I") fl_X3_57) (fun _ h9 => h9) rfl dX3_fact_59 ?_
        obtain rfl := Option.some.inj h
        exact W.iret (v := gI s 1604) hx hb hr (fun t ht hW => ⟨⟨_, (), rfl, rfl, trivial⟩, hS.F ht⟩) hS.2.2 dX3_fact_62
      · have h := if_f c3 h
        by_cases c4 : p0 = 14
        · have h := if_t c4 h
          refine lv_tableIn (off := 62) (tgt := 63) hx hb dX3_fact_1 (by rw [c4]; decide) (by rw [c4]; decide) (by rw [c4]; decide) (by decide) ?_
          refine lv_aload_n hx hb dX3_fact_63 rfl (lv_at hl 0 rfl) ?_
          refine va_get (D := D) (ci := 3) (v := .int (gI s 1605)) (C := RX3) (T := TX3) (N := 10) hx hb ht inX3 hown hK hP 80 CW_80 rfl 5 (by decide) (ht (.fieldLink RX3 60 "CloneVolumes$Machine" "entries" "I") fl_X3_60) (fun _ h9 => h9) rfl dX3_fact_64 ?_
          obtain rfl := Option.some.inj h
          exact W.iret (v := gI s 1605) hx hb hr (fun t ht hW => ⟨⟨_, (), rfl, rfl, trivial⟩, hS.F ht⟩) hS.2.2 dX3_fact_67
        · have h := if_f c4 h
          by_cases c5 : p0 = 15
          · have h := if_t c5 h
            refine lv_tableIn (off := 47) (tgt := 48) hx hb dX3_fact_1 (by rw [c5]; decide) (by rw [c5]; decide) (by rw [c5]; decide) (by decide) ?_
            exact J48 () _ _ _ ⟨hP, hS, lv_sub hl [0] rfl, h⟩
          · have h := if_f c5 h
            by_cases c6 : p0 = 16
            · have h := if_t c6 h
              refine lv_tableIn (off := 67) (tgt := 68) hx hb dX3_fact_1 (by rw [c6]; decide) (by rw [c6]; decide) (by rw [c6]; decide) (by decide) ?_
              refine lv_aload_n hx hb dX3_fact_68 rfl (lv_at hl 0 rfl) ?_
              refine va_get (D := D) (ci := 3) (v := .int (gI s 1606)) (C := RX3) (T := TX3) (N := 10) hx hb ht inX3 hown hK hP 80 CW_80 rfl 6 (by decide) (ht (.fieldLink RX3 63 "CloneVolumes$Machine" "count" "I") fl_X3_63) (fun _ h9 => h9) rfl dX3_fact_69 ?_
              obtain rfl := Option.some.inj h
              exact W.iret (v := gI s 1606) hx hb hr (fun t ht hW => ⟨⟨_, (), rfl, rfl, trivial⟩, hS.F ht⟩) hS.2.2 dX3_fact_72
            · have h := if_f c6 h
              by_cases c7 : p0 = 17
              · have h := if_t c7 h
                refine lv_tableIn (off := 72) (tgt := 73) hx hb dX3_fact_1 (by rw [c7]; decide) (by rw [c7]; decide) (by rw [c7]; decide) (by decide) ?_
                refine lv_aload_n hx hb dX3_fact_73 rfl (lv_at hl 0 rfl) ?_
                refine va_get (D := D) (ci := 3) (v := .int (gI s 1607)) (C := RX3) (T := TX3) (N := 10) hx hb ht inX3 hown hK hP 80 CW_80 rfl 7 (by decide) (ht (.fieldLink RX3 66 "CloneVolumes$Machine" "fresh" "I") fl_X3_66) (fun _ h9 => h9) rfl dX3_fact_74 ?_
                obtain rfl := Option.some.inj h
                exact W.iret (v := gI s 1607) hx hb hr (fun t ht hW => ⟨⟨_, (), rfl, rfl, trivial⟩, hS.F ht⟩) hS.2.2 dX3_fact_77
              · have h := if_f c7 h
                by_cases c8 : p0 = 18
                · have h := if_t c8 h
                  refine lv_tableIn (off := 77) (tgt := 78) hx hb dX3_fact_1 (by rw [c8]; decide) (by rw [c8]; decide) (by rw [c8]; decide) (by decide) ?_
                  refine lv_aload_n hx hb dX3_fact_78 rfl (lv_at hl 0 rfl) ?_
                  refine va_get (D := D) (ci := 3) (v := .int (gI s 1608)) (C := RX3) (T := TX3) (N := 10) hx hb ht inX3 hown hK hP 80 CW_80 rfl 8 (by decide) (ht (.fieldLink RX3 69 "CloneVolumes$Machine" "saved" "I") fl_X3_69) (fun _ h9 => h9) rfl dX3_fact_79 ?_
                  obtain rfl := Option.some.inj h
                  exact W.iret (v := gI s 1608) hx hb hr (fun t ht hW => ⟨⟨_, (), rfl, rfl, trivial⟩, hS.F ht⟩) hS.2.2 dX3_fact_82
                · have h := if_f c8 h
                  have gc1 := lv_neT (a := 11) c1 (by decide)
                  have gc2 := lv_neT (a := 12) c2 (by decide)
                  have gc3 := lv_neT (a := 13) c3 (by decide)
                  have gc4 := lv_neT (a := 14) c4 (by decide)
                  have gc5 := lv_neT (a := 15) c5 (by decide)
                  have gc6 := lv_neT (a := 16) c6 (by decide)
                  have gc7 := lv_neT (a := 17) c7 (by decide)
                  have gc8 := lv_neT (a := 18) c8 (by decide)
                  refine lv_tableOut (tgt := 83) hx hb dX3_fact_1 (by omega) (by decide) ?_
                  refine lv_iconst (v := 0) hx hb dX3_fact_83 (by decide) ?_
                  obtain rfl := Option.some.inj h
                  exact W.iret (v := 0) hx hb hr (fun t ht hW => ⟨⟨_, (), rfl, rfl, trivial⟩, hS.F ht⟩) hS.2.2 dX3_fact_84
def m_x3_value_J125 (s1 : MS) : Option (Int32 × MS) :=
  bn (m_x3_pop s1) (fun qr4 => some (qr4.1, qr4.2))
def m_x3_value_J119 (lr8 : Int32 → Int32 → MS → Option (Int32 × MS)) (x8 : Int32) (x9 : Int32) (s10 : MS) : Option (Int32 × MS) :=
  lr8 x8 (x9 + 1) s10
def m_x3_value_b8 (lr8 : Int32 → Int32 → MS → Option (Int32 × MS)) (x5 : Int32) (x6 : Int32) (s7 : MS) : Option (Int32 × MS) :=
  if x6 < 0 then m_x3_value_J125 s7 else if x5 ≤ x6 then m_x3_value_J125 s7 else if (gI s7 741) ≤ x6 then m_x3_value_J125 s7 else rdI (gA s7 38) 1600 x6 (fun y14 => if y14 < 0 then if (-100) < y14 then if (-12) < y14 then bn (m_x3_pop s7) (fun qr20 => bn (m_x3_pop qr20.2) (fun qr23 => bn (m_x3_joined y14 qr23.1 qr20.1 qr23.2) (fun r25 => bn (m_x3_push r25 qr23.2) (fun s27 => m_x3_value_J119 lr8 x5 x6 s27)))) else bn (m_x3_pop s7) (fun qr30 => bn (m_x3_changed y14 qr30.1 qr30.2) (fun r32 => bn (m_x3_push r32 qr30.2) (fun s34 => m_x3_value_J119 lr8 x5 x6 s34))) else bn (m_x3_fact ((-100) - y14) s7) (fun r36 => bn (m_x3_push r36 s7) (fun s38 => m_x3_value_J119 lr8 x5 x6 s38)) else bn (m_x3_push y14 s7) (fun s40 => m_x3_value_J119 lr8 x5 x6 s40))
def m_x3_value_L8 (n : Nat) : Int32 → Int32 → MS → Option (Int32 × MS) := lp (fun _ _ _ => none) (m_x3_value_b8) n
def m_x3_value (p1 : Int32) (p2 : Int32) (s : MS) : Option (Int32 × MS) :=
  stn (sI s 1601 0) (fun s41 => m_x3_value_L8 FU p2 p1 s41)
set_option maxHeartbeats 4000000 in
set_option maxRecDepth 100000 in
theorem k_x3_value (l : Launch) (D : va_G) (a : Nat → Nat) (p1 : Int32) (p2 : Int32) (sz : Nat) (s : MS) (o : (Int32 × MS)) (h : m_x3_value p1 p2 s = some o) : yWi l yX3_value cX3_value 7 (some .int) { frames := 1, cells := 0, slots := 0, locals := 60 } D sz [.ref (a 80), .ref (a 37), .int p1, .int p2] (CS D a s) (CS D a o.2) o.1 := by
  refine Met.ofW (cc := cX3_value) (maxL := 7) (ret := (some .int)) (by decide) rfl ?_
  intro p e s₀ m args below meth c s₁ B hml hv
  obtain ⟨rfl, ⟨hsz, hP, hK, hD0⟩, hN⟩ := hv
  have hx := B.exec
  have hb := B.bytes
  have hr := B.returns
  have hts := atoms_spec (ws := wz yX3_value cX3_value 7 (some .int)) B.pre
  have ht : ∀ w ∈ lw_gd, w.before _ s₀ = true := fun w h => hts w (List.mem_cons_of_mem _ h)
  have hown : s₀.vm.findClass RX3 = some m.cls := findClass_of_methodNamed B.named
  have hlocks := B.notSynchronized
  subst hsz
  have hD := hD0.self (sz := s₀.heap.size)
  generalize hAe : va_A (CS D a s) s₀.heap.size = A at hD ⊢
  have hA : ∀ q : Nat, s₀.heap.size ≤ q → A q := fun q h => by rw [← hAe]; exact Or.inr h
  have hS : va_S A s₀.heap s₀.heap [] := va_S.rf
  have hDD : ∀ t : MS, va_D A (CS D a t) := fun t => CW_D t hD
  have hl := lv_entry ([.ref (a 80), .ref (a 37), .int p1, .int p2]) (n := 7) (Nat.le_of_ble_eq_true rfl)
  rw [lg_entry_eq]
  generalize (lg_sl ([.ref (a 80), .ref (a 37), .int p1, .int p2]) ++ List.replicate (7 - (lg_sl ([.ref (a 80), .ref (a 37), .int p1, .int p2])).length) Slot.unset).toArray = ls at hl ⊢
  have hl : lv_has ls 7 [(0, .ref (a 80)), (1, .ref (a 37)), (2, .int p1), (3, .int p2)] := hl
  unfold m_x3_value at h
  refine y_head (pcJ := 125) (σ := MS) (fun u H locs ls => va_P D vwCl (CS D a u) H ∧ va_S A s₀.heap H locs ∧ lv_has ls 7 [(0, .ref (a 80))] ∧ m_x3_value_J125 u = some o) (fun u => []) (fun u H locs ls hI => ?_) (fun J125 => ?_)
  · obtain ⟨hP, hS, hl, h⟩ := hI
    obtain ⟨s1, rfl⟩ : ∃ z, z = u := ⟨u, rfl⟩
    have hP : va_P D vwCl (CS D a s1) H := hP
    have hl : lv_has ls 7 [(0, .ref (a 80))] := hl
    have h : m_x3_value_J125 s1 = some o := h
    unfold m_x3_value_J125 at h
    refine lv_aload_n hx hb dX3_value_125 rfl (lv_at hl 0 rfl) ?_
    obtain ⟨⟨r4, s3⟩, hc2, h⟩ := bn_e h
    refine ywV (r0 := r4) (As := []) (rest := []) (C := RX3) (n := 0) (ws' := CS D a s3) ⟨hx, hb, hml, hown, ht⟩ (k_x3_pop l D a _ _ _ hc2) (zgV ml_X3_39 im_X3_pop se_X3_pop in_X3 co_X3_pop) rfl rfl (by decide +kernel) ⟨Nat.le_of_ble_eq_true rfl, Nat.le_of_ble_eq_true rfl⟩ hN hK hP (hDD _) hS hA 80 CW_80 rfl rfl rfl hl.1 rfl (Nat.le_of_ble_eq_true rfl) dX3_value_126 ⟨Nat.le_of_ble_eq_true rfl, Nat.le_of_ble_eq_true rfl⟩ (fun H locs hP hS => ?_)
    obtain rfl := Option.some.inj h
    exact W.iret (v := r4) hx hb hr (fun t ht hW => ⟨⟨_, (), rfl, rfl, by rw [ht]; exact hP, va_K.moved hW.alike hK, hDD _⟩, hS.F ht⟩) hS.2.2 dX3_value_129
  refine y_loop (pcJ := 8) (σ := Int32 × Int32 × MS) (fun n u H locs ls => va_P D vwCl (CS D a u.2.2) H ∧ va_S A s₀.heap H locs ∧ lv_has ls 7 [(0, .ref (a 80)), (1, .ref (a 37)), (3, .int u.1), (4, .int u.2.1)] ∧ m_x3_value_L8 n u.1 u.2.1 u.2.2 = some o) (fun u => []) (fun u H locs ls hI => by obtain ⟨_, _, _, h⟩ := hI; cases h) (fun n8 ih8 u H locs ls hI => ?_) (fun J8 => ?_)
  · obtain ⟨hP, hS, hl, h⟩ := hI
    obtain ⟨x5, x6, s7⟩ := u
    have hP : va_P D vwCl (CS D a s7) H := hP
    have hl : lv_has ls 7 [(0, .ref (a 80)), (1, .ref (a 37)), (3, .int x5), (4, .int x6)] := hl
    have h : m_x3_value_b8 (m_x3_value_L8 n8) x5 x6 s7 = some o := h
    unfold m_x3_value_b8 at h
    refine y_head (pcJ := 119) (σ := Int32 × Int32 × MS) (fun u H locs ls => va_P D vwCl (CS D a u.2.2) H ∧ va_S A s₀.heap H locs ∧ lv_has ls 7 [(0, .ref (a 80)), (1, .ref (a 37)), (3, .int u.1), (4, .int u.2.1)] ∧ m_x3_value_J119 (m_x3_value_L8 n8) u.1 u.2.1 u.2.2 = some o) (fun u => []) (fun u H locs ls hI => ?_) (fun J119 => ?_)
    · obtain ⟨hP, hS, hl, h⟩ := hI
      obtain ⟨x8, x9, s10⟩ := u
      have hP : va_P D vwCl (CS D a s10) H := hP
      have hl : lv_has ls 7 [(0, .ref (a 80)), (1, .ref (a 37)), (3, .int x8), (4, .int x9)] := hl
      have h : m_x3_value_J119 (m_x3_value_L8 n8) x8 x9 s10 = some o := h
      unfold m_x3_value_J119 at h
      refine lv_iinc (v := x9 + 1) (lv' := [(4, .int (x9 + 1)), (0, .ref (a 80)), (1, .ref (a 37)), (3, .int x8)]) hx hb dX3_value_119 hl (k := 3) rfl rfl (by decide) rfl (fun ls hl => ?_)
      refine lv_goto (tgt := 8) hx hb dX3_value_122 (by decide) ?_
      exact ih8 (x8, x9 + 1, s10) _ _ _ ⟨hP, hS, lv_sub hl [1, 2, 3, 0] rfl, h⟩
    refine lv_iload hx hb dX3_value_8 (lv_at hl 3 rfl) ?_
    refine lv_if_lt (tgt := 125) hx hb dX3_value_10 (by decide) (fun c11 => ?_) (fun c11 => ?_)
    · have h := if_t c11 h
      exact J125 s7 _ _ _ ⟨hP, hS, lv_sub hl [0] rfl, h⟩
    · have h := if_f c11 h
      refine lv_iload hx hb dX3_value_13 (lv_at hl 3 rfl) ?_
      refine lv_iload_n hx hb dX3_value_15 rfl (lv_at hl 2 rfl) ?_
      refine lv_icmp_ge (tgt := 125) hx hb dX3_value_16 (by decide) (fun c12 => ?_) (fun c12 => ?_)
      · have h := if_t c12 h
        exact J125 s7 _ _ _ ⟨hP, hS, lv_sub hl [0] rfl, h⟩
      · have h := if_f c12 h
        refine lv_iload hx hb dX3_value_19 (lv_at hl 3 rfl) ?_
        refine lv_aload_n hx hb dX3_value_21 rfl (lv_at hl 1 rfl) ?_
        refine va_get (D := D) (ci := 0) (v := .int (gI s7 741)) (C := RX0) (T := TX0) (N := 2) hx hb ht inX0 hown hK hP 37 CW_37 rfl 1 (by decide) (ht (.fieldLink RX3 23 "CloneVolumes$Code" "size" "I") fl_X3_23) (fun _ h9 => h9) rfl dX3_value_22 ?_
        refine lv_icmp_ge (tgt := 125) hx hb dX3_value_25 (by decide) (fun c13 => ?_) (fun c13 => ?_)
        · have h := if_t c13 h
          exact J125 s7 _ _ _ ⟨hP, hS, lv_sub hl [0] rfl, h⟩
        · have h := if_f c13 h
          refine lv_aload_n hx hb dX3_value_28 rfl (lv_at hl 1 rfl) ?_
          refine va_get (D := D) (ci := 0) (v := .ref (a 38)) (C := RX0) (T := TX0) (N := 2) hx hb ht inX0 hown hK hP 37 CW_37 rfl 0 (by decide) (ht (.fieldLink RX3 28 "CloneVolumes$Code" "steps" "[I") fl_X3_28) (fun _ h9 => h9) rfl dX3_value_29 ?_
          refine lv_iload hx hb dX3_value_32 (lv_at hl 3 rfl) ?_
          obtain ⟨y14, ey14, iy14, h⟩ := rdI_e h
          refine ya_iald hx hb hK hP 38 0 CW_38 rfl ey14 iy14 dX3_value_34 ?_
          refine lv_istore (lv' := [(5, .int y14), (0, .ref (a 80)), (1, .ref (a 37)), (3, .int x5), (4, .int x6)]) hx hb dX3_value_35 hl (by decide) rfl (fun ls hl => ?_)
          refine lv_iload hx hb dX3_value_37 (lv_at hl 0 rfl) ?_
          refine lv_if_lt (tgt := 51) hx hb dX3_value_39 (by decide) (fun c15 => ?_) (fun c15 => ?_)
          · have h := if_t c15 h
            refine lv_iload hx hb dX3_value_51 (lv_at hl 0 rfl) ?_
            refine lv_bipush (v := (-100)) hx hb dX3_value_53 (by decide) ?_
            refine lv_icmp_gt (tgt := 74) hx hb dX3_value_55 (by decide) (fun c16 => ?_) (fun c16 => ?_)
            · have h := if_t c16 h
              refine lv_iload hx hb dX3_value_74 (lv_at hl 0 rfl) ?_
              refine lv_bipush (v := (-12)) hx hb dX3_value_76 (by decide) ?_
              refine lv_icmp_gt (tgt := 98) hx hb dX3_value_78 (by decide) (fun c17 => ?_) (fun c17 => ?_)
              · have h := if_t c17 h
                refine lv_aload_n hx hb dX3_value_98 rfl (lv_at hl 1 rfl) ?_
                obtain ⟨⟨r20, s19⟩, hc18, h⟩ := bn_e h
                refine ywV (r0 := r20) (As := []) (rest := []) (C := RX3) (n := 0) (ws' := CS D a s19) ⟨hx, hb, hml, hown, ht⟩ (k_x3_pop l D a _ _ _ hc18) (zgV ml_X3_39 im_X3_pop se_X3_pop in_X3 co_X3_pop) rfl rfl (by decide +kernel) ⟨Nat.le_of_ble_eq_true rfl, Nat.le_of_ble_eq_true rfl⟩ hN hK hP (hDD _) hS hA 80 CW_80 rfl rfl rfl hl.1 rfl (Nat.le_of_ble_eq_true rfl) dX3_value_99 ⟨Nat.le_of_ble_eq_true rfl, Nat.le_of_ble_eq_true rfl⟩ (fun H locs hP hS => ?_)
                refine lv_istore (lv' := [(6, .int r20), (5, .int y14), (0, .ref (a 80)), (1, .ref (a 37)), (3, .int x5), (4, .int x6)]) hx hb dX3_value_102 hl (by decide) rfl (fun ls hl => ?_)
                refine lv_aload_n hx hb dX3_value_104 rfl (lv_at hl 2 rfl) ?_
                refine lv_iload hx hb dX3_value_105 (lv_at hl 1 rfl) ?_
                refine lv_aload_n hx hb dX3_value_107 rfl (lv_at hl 2 rfl) ?_
                obtain ⟨⟨r23, s22⟩, hc21, h⟩ := bn_e h
                refine ywV (r0 := r23) (As := []) (rest := [.int y14, .ref (a 80)]) (C := RX3) (n := 0) (ws' := CS D a s22) ⟨hx, hb, hml, hown, ht⟩ (k_x3_pop l D a _ _ _ hc21) (zgV ml_X3_39 im_X3_pop se_X3_pop in_X3 co_X3_pop) rfl rfl (by decide +kernel) ⟨Nat.le_of_ble_eq_true rfl, Nat.le_of_ble_eq_true rfl⟩ hN hK hP (hDD _) hS hA 80 CW_80 rfl rfl rfl hl.1 rfl (Nat.le_of_ble_eq_true rfl) dX3_value_108 ⟨Nat.le_of_ble_eq_true rfl, Nat.le_of_ble_eq_true rfl⟩ (fun H locs hP hS => ?_)
                refine lv_iload hx hb dX3_value_111 (lv_at hl 0 rfl) ?_
                obtain ⟨r25, hc24, h⟩ := bn_e h
                refine ycS (As := [.int y14, .int r23, .int r20]) (rest := [.ref (a 80)]) (n := 3) ⟨hx, hb, hml, hown, ht⟩ (k_x3_joined l D a y14 r23 r20 _ _ hc24) (zgT ml_X3_47 st_X3_joined in_X3 co_X3_joined) rfl rfl (by decide +kernel) ⟨Nat.le_of_ble_eq_true rfl, Nat.le_of_ble_eq_true rfl⟩ hN hK hP hS rfl hl.1 rfl (Nat.le_of_ble_eq_true rfl) dX3_value_113 ⟨Nat.le_of_ble_eq_true rfl, Nat.le_of_ble_eq_true rfl⟩ (fun H locs hP hS => ?_)
                obtain ⟨s27, hc26, h⟩ := bn_e h
                refine ywVv (As := [.int r25]) (rest := []) (C := RX3) (n := 1) (ws' := CS D a s27) ⟨hx, hb, hml, hown, ht⟩ (k_x3_push l D a r25 _ _ _ hc26) (zgV ml_X3_31 im_X3_push se_X3_push in_X3 co_X3_push) rfl rfl (by decide +kernel) ⟨Nat.le_of_ble_eq_true rfl, Nat.le_of_ble_eq_true rfl⟩ hN hK hP (hDD _) hS hA 80 CW_80 rfl rfl rfl hl.1 rfl (Nat.le_of_ble_eq_true rfl) dX3_value_116 ⟨Nat.le_of_ble_eq_true rfl, Nat.le_of_ble_eq_true rfl⟩ (fun H locs hP hS => ?_)
                exact J119 (x5, x6, s27) _ _ _ ⟨hP, hS, lv_sub hl [2, 3, 4, 5] rfl, h⟩
              · have h := if_f c17 h
                refine lv_aload_n hx hb dX3_value_81 rfl (lv_at hl 1 rfl) ?_
                refine lv_aload_n hx hb dX3_value_82 rfl (lv_at hl 1 rfl) ?_
                refine lv_iload hx hb dX3_value_83 (lv_at hl 0 rfl) ?_
                refine lv_aload_n hx hb dX3_value_85 rfl (lv_at hl 1 rfl) ?_
                obtain ⟨⟨r30, s29⟩, hc28, h⟩ := bn_e h
                refine ywV (r0 := r30) (As := []) (rest := [.int y14, .ref (a 80), .ref (a 80)]) (C := RX3) (n := 0) (ws' := CS D a s29) ⟨hx, hb, hml, hown, ht⟩ (k_x3_pop l D a _ _ _ hc28) (zgV ml_X3_39 im_X3_pop se_X3_pop in_X3 co_X3_pop) rfl rfl (by decide +kernel) ⟨Nat.le_of_ble_eq_true rfl, Nat.le_of_ble_eq_true rfl⟩ hN hK hP (hDD _) hS hA 80 CW_80 rfl rfl rfl hl.1 rfl (Nat.le_of_ble_eq_true rfl) dX3_value_86 ⟨Nat.le_of_ble_eq_true rfl, Nat.le_of_ble_eq_true rfl⟩ (fun H locs hP hS => ?_)
                obtain ⟨r32, hc31, h⟩ := bn_e h
                refine ycV (As := [.int y14, .int r30]) (rest := [.ref (a 80)]) (C := RX3) (n := 2) ⟨hx, hb, hml, hown, ht⟩ (k_x3_changed l D a y14 r30 _ _ hc31) (zgV ml_X3_43 im_X3_changed se_X3_changed in_X3 co_X3_changed) rfl rfl (by decide +kernel) ⟨Nat.le_of_ble_eq_true rfl, Nat.le_of_ble_eq_true rfl⟩ hN hK hP hS 80 CW_80 rfl rfl rfl hl.1 rfl (Nat.le_of_ble_eq_true rfl) dX3_value_89 ⟨Nat.le_of_ble_eq_true rfl, Nat.le_of_ble_eq_true rfl⟩ (fun H locs hP hS => ?_)
                obtain ⟨s34, hc33, h⟩ := bn_e h
                refine ywVv (As := [.int r32]) (rest := []) (C := RX3) (n := 1) (ws' := CS D a s34) ⟨hx, hb, hml, hown, ht⟩ (k_x3_push l D a r32 _ _ _ hc33) (zgV ml_X3_31 im_X3_push se_X3_push in_X3 co_X3_push) rfl rfl (by decide +kernel) ⟨Nat.le_of_ble_eq_true rfl, Nat.le_of_ble_eq_true rfl⟩ hN hK hP (hDD _) hS hA 80 CW_80 rfl rfl rfl hl.1 rfl (Nat.le_of_ble_eq_true rfl) dX3_value_92 ⟨Nat.le_of_ble_eq_true rfl, Nat.le_of_ble_eq_true rfl⟩ (fun H locs hP hS => ?_)
                refine lv_goto (tgt := 119) hx hb dX3_value_95 (by decide) ?_
                exact J119 (x5, x6, s34) _ _ _ ⟨hP, hS, lv_sub hl [1, 2, 3, 4] rfl, h⟩
            · have h := if_f c16 h
              refine lv_aload_n hx hb dX3_value_58 rfl (lv_at hl 1 rfl) ?_
              refine lv_aload_n hx hb dX3_value_59 rfl (lv_at hl 1 rfl) ?_
              refine lv_bipush (v := (-100)) hx hb dX3_value_60 (by decide) ?_
              refine lv_iload hx hb dX3_value_62 (lv_at hl 0 rfl) ?_
              refine lv_isub hx hb dX3_value_64 ?_
              obtain ⟨r36, hc35, h⟩ := bn_e h
              refine ycV (As := [.int ((-100) - y14)]) (rest := [.ref (a 80)]) (C := RX3) (n := 1) ⟨hx, hb, hml, hown, ht⟩ (k_x3_fact l D a ((-100) - y14) _ _ hc35) (zgV ml_X3_35 im_X3_fact se_X3_fact in_X3 co_X3_fact) rfl rfl (by decide +kernel) ⟨Nat.le_of_ble_eq_true rfl, Nat.le_of_ble_eq_true rfl⟩ hN hK hP hS 80 CW_80 rfl rfl rfl hl.1 rfl (Nat.le_of_ble_eq_true rfl) dX3_value_65 ⟨Nat.le_of_ble_eq_true rfl, Nat.le_of_ble_eq_true rfl⟩ (fun H locs hP hS => ?_)
              obtain ⟨s38, hc37, h⟩ := bn_e h
              refine ywVv (As := [.int r36]) (rest := []) (C := RX3) (n := 1) (ws' := CS D a s38) ⟨hx, hb, hml, hown, ht⟩ (k_x3_push l D a r36 _ _ _ hc37) (zgV ml_X3_31 im_X3_push se_X3_push in_X3 co_X3_push) rfl rfl (by decide +kernel) ⟨Nat.le_of_ble_eq_true rfl, Nat.le_of_ble_eq_true rfl⟩ hN hK hP (hDD _) hS hA 80 CW_80 rfl rfl rfl hl.1 rfl (Nat.le_of_ble_eq_true rfl) dX3_value_68 ⟨Nat.le_of_ble_eq_true rfl, Nat.le_of_ble_eq_true rfl⟩ (fun H locs hP hS => ?_)
              refine lv_goto (tgt := 119) hx hb dX3_value_71 (by decide) ?_
              exact J119 (x5, x6, s38) _ _ _ ⟨hP, hS, lv_sub hl [1, 2, 3, 4] rfl, h⟩
          · have h := if_f c15 h
            refine lv_aload_n hx hb dX3_value_42 rfl (lv_at hl 1 rfl) ?_
            refine lv_iload hx hb dX3_value_43 (lv_at hl 0 rfl) ?_
            obtain ⟨s40, hc39, h⟩ := bn_e h
            refine ywVv (As := [.int y14]) (rest := []) (C := RX3) (n := 1) (ws' := CS D a s40) ⟨hx, hb, hml, hown, ht⟩ (k_x3_push l D a y14 _ _ _ hc39) (zgV ml_X3_31 im_X3_push se_X3_push in_X3 co_X3_push) rfl rfl (by decide +kernel) ⟨Nat.le_of_ble_eq_true rfl, Nat.le_of_ble_eq_true rfl⟩ hN hK hP (hDD _) hS hA 80 CW_80 rfl rfl rfl hl.1 rfl (Nat.le_of_ble_eq_true rfl) dX3_value_45 ⟨Nat.le_of_ble_eq_true rfl, Nat.le_of_ble_eq_true rfl⟩ (fun H locs hP hS => ?_)
            refine lv_goto (tgt := 119) hx hb dX3_value_48 (by decide) ?_
            exact J119 (x5, x6, s40) _ _ _ ⟨hP, hS, lv_sub hl [1, 2, 3, 4] rfl, h⟩
  refine lv_aload_n hx hb dX3_value_0 rfl (lv_at hl 0 rfl) ?_
  refine lv_iconst (v := 0) hx hb dX3_value_1 (by decide) ?_
  refine ya_put (D := D) (ci := 3) (v := .int 0) (ty := .int) (C := RX3) (T := TX3) (N := 10) hx hb ht inX3 tyX3 tyX3_ok nmX3 hown hK hP (hDD _) hS 80 CW_80 rfl 1 (by decide) (ht (.fieldLink RX3 19 "CloneVolumes$Machine" "top" "I") fl_X3_19) (fun _ h9 => h9) rfl (by decide +kernel) rfl rfl (Nat.le_of_ble_eq_true rfl) dX3_value_2 (CW_w80_1 _) (fun H locs hP hS => ?_)
  obtain ⟨s41, hs41, h⟩ := st_e h
  rw [hs41] at hP
  refine lv_iload_n hx hb dX3_value_5 rfl (lv_at hl 2 rfl) ?_
  refine lv_istore (lv' := [(4, .int p1), (0, .ref (a 80)), (1, .ref (a 37)), (2, .int p1), (3, .int p2)]) hx hb dX3_value_6 hl (by decide) rfl (fun ls hl => ?_)
  exact J8 FU (p2, p1, s41) _ _ _ ⟨hP, hS, lv_sub hl [1, 2, 4, 0] rfl, h⟩
def m_x1_take_J189 (x1 : Int32) (s2 : MS) : Option (Int32 × MS) :=
  some (x1, s2)
def m_x1_take_J140 (lr44 : Int32 → Int32 → Int32 → Int32 → Int32 → MS → Option (Int32 × MS)) (x9 : Int32) (x10 : Int32) (x11 : Int32) (x12 : Int32) (x13 : Int32) (s14 : MS) : Option (Int32 × MS) :=
  lr44 x9 x10 x11 x12 (x13 + 1) s14
def m_x1_take_J133 (lr44 : Int32 → Int32 → Int32 → Int32 → Int32 → MS → Option (Int32 × MS)) (x15 : Int32) (x16 : Int32) (x17 : Int32) (x18 : Int32) (s19 : MS) : Option (Int32 × MS) :=
  m_x1_take_J140 lr44 x15 x17 x18 x16 x17 s19
def m_x1_take_J119 (lr44 : Int32 → Int32 → Int32 → Int32 → Int32 → MS → Option (Int32 × MS)) (x20 : Int32) (x21 : Int32) (x22 : Int32) (x23 : Int32) (x24 : Int32) (x25 : Int32) (s26 : MS) : Option (Int32 × MS) :=
  if x21 = (-1) then m_x1_take_J133 lr44 x20 x23 x24 x25 s26 else if x22 ≤ x25 then m_x1_take_J140 lr44 x20 x21 x22 x23 x24 s26 else m_x1_take_J133 lr44 x20 x23 x24 x25 s26
def m_x1_take_b44 (lr44 : Int32 → Int32 → Int32 → Int32 → Int32 → MS → Option (Int32 × MS)) (x3 : Int32) (x4 : Int32) (x5 : Int32) (x6 : Int32) (x7 : Int32) (s8 : MS) : Option (Int32 × MS) :=
  if (gI s8 1060) ≤ x7 then if x4 = (-1) then m_x1_take_J189 x4 s8 else inb 48 x4 (stn (sA s8 54 (upd (gA s8 54) (Int32.toNatClampNeg x4) 1)) (fun s32 => inb 48 x4 (stn (sA s32 56 (upd (gA s32 56) (Int32.toNatClampNeg x4) x3)) (fun s34 => inb 48 x4 (stn (sA s34 57 (upd (gA s34 57) (Int32.toNatClampNeg x4) 0)) (fun s36 => bn (m_x8_mark x4 s36) (fun s38 => m_x1_take_J189 x4 s38))))))) else bn (m_x8_isFree x7 s8) (fun r40 => if r40 = 0 then m_x1_take_J140 lr44 x3 x4 x5 x6 x7 s8 else stn (sI s8 1602 x7) (fun s42 => if x6 = 0 then m_x1_take_J119 lr44 x3 x4 x5 x6 x7 x7 s42 else rdI (gA s42 35) 3 0 (fun y44 => rdI (gA s42 36) 3 0 (fun y45 => bn (m_x3_value y44 y45 s42) (fun qr48 => m_x1_take_J119 lr44 x3 x4 x5 x6 x7 qr48.1 qr48.2)))))
def m_x1_take_L44 (n : Nat) : Int32 → Int32 → Int32 → Int32 → Int32 → MS → Option (Int32 × MS) := lp (fun _ _ _ _ _ _ => none) (m_x1_take_b44) n
def m_x1_take_J23 (x49 : Int32) (x50 : Int32) (x51 : Int32) (x52 : Int32) (x53 : Int32) (s54 : MS) : Option (Int32 × MS) :=
  stn (sI s54 1604 x49) (fun s55 => stn (sI s55 1603 x50) (fun s56 => m_x1_take_L44 FU x49 x51 x52 x53 0 s56))
def m_x1_take (p0 : Int32) (p1 : Int32) (s : MS) : Option (Int32 × MS) :=
  rdI (gA s 35) 3 0 (fun y57 => if y57 = (-1) then m_x1_take_J23 p0 p1 (-1) 0 0 s else m_x1_take_J23 p0 p1 (-1) 0 1 s)
set_option maxHeartbeats 4000000 in
set_option maxRecDepth 100000 in
theorem k_x1_take (l : Launch) (D : va_G) (a : Nat → Nat) (p0 : Int32) (p1 : Int32) (sz : Nat) (s : MS) (o : (Int32 × MS)) (h : m_x1_take p0 p1 s = some o) : yWi l yX1_take cX1_take 8 (some .int) { frames := 2, cells := 0, slots := 0, locals := 120 } D sz [.ref (a 49), .int p0, .int p1] (CS D a s) (CS D a o.2) o.1 := by
  refine Met.ofW (cc := cX1_take) (maxL := 8) (ret := (some .int)) (by decide) rfl ?_
  intro p e s₀ m args below meth c s₁ B hml hv
  obtain ⟨rfl, ⟨hsz, hP, hK, hD0⟩, hN⟩ := hv
  have hx := B.exec
  have hb := B.bytes
  have hr := B.returns
  have hts := atoms_spec (ws := wz yX1_take cX1_take 8 (some .int)) B.pre
  have ht : ∀ w ∈ lw_gd, w.before _ s₀ = true := fun w h => hts w (List.mem_cons_of_mem _ h)
  have hown : s₀.vm.findClass RX1 = some m.cls := findClass_of_methodNamed B.named
  have hlocks := B.notSynchronized
  subst hsz
  have hD := hD0.self (sz := s₀.heap.size)
  generalize hAe : va_A (CS D a s) s₀.heap.size = A at hD ⊢
  have hA : ∀ q : Nat, s₀.heap.size ≤ q → A q := fun q h => by rw [← hAe]; exact Or.inr h
  have hS : va_S A s₀.heap s₀.heap [] := va_S.rf
  have hDD : ∀ t : MS, va_D A (CS D a t) := fun t => CW_D t hD
  have hl := lv_entry ([.ref (a 49), .int p0, .int p1]) (n := 8) (Nat.le_of_ble_eq_true rfl)
  rw [lg_entry_eq]
  generalize (lg_sl ([.ref (a 49), .int p0, .int p1]) ++ List.replicate (8 - (lg_sl ([.ref (a 49), .int p0, .int p1])).length) Slot.unset).toArray = ls at hl ⊢
  have hl : lv_has ls 8 [(0, .ref (a 49)), (1, .int p0), (2, .int p1)] := hl
  unfold m_x1_take at h
  refine y_head (pcJ := 189) (σ := Int32 × MS) (fun u H locs ls => va_P D vwCl (CS D a u.2) H ∧ va_S A s₀.heap H locs ∧ lv_has ls 8 [(3, .int u.1)] ∧ m_x1_take_J189 u.1 u.2 = some o) (fun u => []) (fun u H locs ls hI => ?_) (fun J189 => ?_)
  · obtain ⟨hP, hS, hl, h⟩ := hI
    obtain ⟨x1, s2⟩ := u
    have hP : va_P D vwCl (CS D a s2) H := hP
    have hl : lv_has ls 8 [(3, .int x1)] := hl
    have h : m_x1_take_J189 x1 s2 = some o := h
    unfold m_x1_take_J189 at h
    refine lv_iload_n hx hb dX1_take_189 rfl (lv_at hl 0 rfl) ?_
    obtain rfl := Option.some.inj h
    exact W.iret (v := x1) hx hb hr (fun t ht hW => ⟨⟨_, (), rfl, rfl, by rw [ht]; exact hP, va_K.moved hW.alike hK, hDD _⟩, hS.F ht⟩) hS.2.2 dX1_take_190
  refine y_loop (pcJ := 44) (σ := Int32 × Int32 × Int32 × Int32 × Int32 × MS) (fun n u H locs ls => va_P D vwCl (CS D a u.2.2.2.2.2) H ∧ va_S A s₀.heap H locs ∧ lv_has ls 8 [(0, .ref (a 49)), (1, .int u.1), (3, .int u.2.1), (4, .int u.2.2.1), (5, .int u.2.2.2.1), (6, .int u.2.2.2.2.1)] ∧ m_x1_take_L44 n u.1 u.2.1 u.2.2.1 u.2.2.2.1 u.2.2.2.2.1 u.2.2.2.2.2 = some o) (fun u => []) (fun u H locs ls hI => by obtain ⟨_, _, _, h⟩ := hI; cases h) (fun n44 ih44 u H locs ls hI => ?_) (fun J44 => ?_)
  · obtain ⟨hP, hS, hl, h⟩ := hI
    obtain ⟨x3, x4, x5, x6, x7, s8⟩ := u
    have hP : va_P D vwCl (CS D a s8) H := hP
    have hl : lv_has ls 8 [(0, .ref (a 49)), (1, .int x3), (3, .int x4), (4, .int x5), (5, .int x6), (6, .int x7)] := hl
    have h : m_x1_take_b44 (m_x1_take_L44 n44) x3 x4 x5 x6 x7 s8 = some o := h
    unfold m_x1_take_b44 at h
    refine y_head (pcJ := 140) (σ := Int32 × Int32 × Int32 × Int32 × Int32 × MS) (fun u H locs ls => va_P D vwCl (CS D a u.2.2.2.2.2) H ∧ va_S A s₀.heap H locs ∧ lv_has ls 8 [(0, .ref (a 49)), (1, .int u.1), (3, .int u.2.1), (4, .int u.2.2.1), (5, .int u.2.2.2.1), (6, .int u.2.2.2.2.1)] ∧ m_x1_take_J140 (m_x1_take_L44 n44) u.1 u.2.1 u.2.2.1 u.2.2.2.1 u.2.2.2.2.1 u.2.2.2.2.2 = some o) (fun u => []) (fun u H locs ls hI => ?_) (fun J140 => ?_)
    · obtain ⟨hP, hS, hl, h⟩ := hI
      obtain ⟨x9, x10, x11, x12, x13, s14⟩ := u
      have hP : va_P D vwCl (CS D a s14) H := hP
      have hl : lv_has ls 8 [(0, .ref (a 49)), (1, .int x9), (3, .int x10), (4, .int x11), (5, .int x12), (6, .int x13)] := hl
      have h : m_x1_take_J140 (m_x1_take_L44 n44) x9 x10 x11 x12 x13 s14 = some o := h
      unfold m_x1_take_J140 at h
      refine lv_iinc (v := x13 + 1) (lv' := [(6, .int (x13 + 1)), (0, .ref (a 49)), (1, .int x9), (3, .int x10), (4, .int x11), (5, .int x12)]) hx hb dX1_take_140 hl (k := 5) rfl rfl (by decide) rfl (fun ls hl => ?_)
      refine lv_goto (tgt := 44) hx hb dX1_take_143 (by decide) ?_
      exact ih44 (x9, x10, x11, x12, x13 + 1, s14) _ _ _ ⟨hP, hS, lv_sub hl [1, 2, 3, 4, 5, 0] rfl, h⟩
    refine y_head (pcJ := 133) (σ := Int32 × Int32 × Int32 × Int32 × MS) (fun u H locs ls => va_P D vwCl (CS D a u.2.2.2.2) H ∧ va_S A s₀.heap H locs ∧ lv_has ls 8 [(0, .ref (a 49)), (1, .int u.1), (5, .int u.2.1), (6, .int u.2.2.1), (7, .int u.2.2.2.1)] ∧ m_x1_take_J133 (m_x1_take_L44 n44) u.1 u.2.1 u.2.2.1 u.2.2.2.1 u.2.2.2.2 = some o) (fun u => []) (fun u H locs ls hI => ?_) (fun J133 => ?_)
    · obtain ⟨hP, hS, hl, h⟩ := hI
      obtain ⟨x15, x16, x17, x18, s19⟩ := u
      have hP : va_P D vwCl (CS D a s19) H := hP
      have hl : lv_has ls 8 [(0, .ref (a 49)), (1, .int x15), (5, .int x16), (6, .int x17), (7, .int x18)] := hl
      have h : m_x1_take_J133 (m_x1_take_L44 n44) x15 x16 x17 x18 s19 = some o := h
      unfold m_x1_take_J133 at h
      refine lv_iload hx hb dX1_take_133 (lv_at hl 3 rfl) ?_
      refine lv_istore_n (lv' := [(3, .int x17), (0, .ref (a 49)), (1, .int x15), (5, .int x16), (6, .int x17), (7, .int x18)]) hx hb dX1_take_135 rfl hl (by decide) rfl (fun ls hl => ?_)
      refine lv_iload hx hb dX1_take_136 (lv_at hl 5 rfl) ?_
      refine lv_istore (lv' := [(4, .int x18), (3, .int x17), (0, .ref (a 49)), (1, .int x15), (5, .int x16), (6, .int x17), (7, .int x18)]) hx hb dX1_take_138 hl (by decide) rfl (fun ls hl => ?_)
      exact J140 (x15, x17, x18, x16, x17, s19) _ _ _ ⟨hP, hS, lv_sub hl [2, 3, 1, 0, 4, 5] rfl, h⟩
    refine y_head (pcJ := 119) (σ := Int32 × Int32 × Int32 × Int32 × Int32 × Int32 × MS) (fun u H locs ls => va_P D vwCl (CS D a u.2.2.2.2.2.2) H ∧ va_S A s₀.heap H locs ∧ lv_has ls 8 [(0, .ref (a 49)), (1, .int u.1), (3, .int u.2.1), (4, .int u.2.2.1), (5, .int u.2.2.2.1), (6, .int u.2.2.2.2.1)] ∧ m_x1_take_J119 (m_x1_take_L44 n44) u.1 u.2.1 u.2.2.1 u.2.2.2.1 u.2.2.2.2.1 u.2.2.2.2.2.1 u.2.2.2.2.2.2 = some o) (fun u => [.int u.2.2.2.2.2.1]) (fun u H locs ls hI => ?_) (fun J119 => ?_)
    · obtain ⟨hP, hS, hl, h⟩ := hI
      obtain ⟨x20, x21, x22, x23, x24, x25, s26⟩ := u
      have hP : va_P D vwCl (CS D a s26) H := hP
      have hl : lv_has ls 8 [(0, .ref (a 49)), (1, .int x20), (3, .int x21), (4, .int x22), (5, .int x23), (6, .int x24)] := hl
      have h : m_x1_take_J119 (m_x1_take_L44 n44) x20 x21 x22 x23 x24 x25 s26 = some o := h
      unfold m_x1_take_J119 at h
      refine lv_istore (lv' := [(7, .int x25), (0, .ref (a 49)), (1, .int x20), (3, .int x21), (4, .int x22), (5, .int x23), (6, .int x24)]) hx hb dX1_take_119 hl (by decide) rfl (fun ls hl => ?_)
      refine lv_iload_n hx hb dX1_take_121 rfl (lv_at hl 3 rfl) ?_
      refine lv_iconst (v := (-1)) hx hb dX1_take_122 (by decide) ?_
      refine lv_icmp_eq (tgt := 133) hx hb dX1_take_123 (by decide) (fun c27 => ?_) (fun c27 => ?_)
      · have h := if_t c27 h
        exact J133 (x20, x23, x24, x25, s26) _ _ _ ⟨hP, hS, lv_sub hl [1, 2, 5, 6, 0] rfl, h⟩
      · have h := if_f c27 h
        refine lv_iload hx hb dX1_take_126 (lv_at hl 0 rfl) ?_
        refine lv_iload hx hb dX1_take_128 (lv_at hl 4 rfl) ?_
        refine lv_icmp_ge (tgt := 140) hx hb dX1_take_130 (by decide) (fun c28 => ?_) (fun c28 => ?_)
        · have h := if_t c28 h
          exact J140 (x20, x21, x22, x23, x24, s26) _ _ _ ⟨hP, hS, lv_sub hl [1, 2, 3, 4, 5, 6] rfl, h⟩
        · have h := if_f c28 h
          exact J133 (x20, x23, x24, x25, s26) _ _ _ ⟨hP, hS, lv_sub hl [1, 2, 5, 6, 0] rfl, h⟩
    refine lv_iload hx hb dX1_take_44 (lv_at hl 5 rfl) ?_
    refine lv_aload_n hx hb dX1_take_46 rfl (lv_at hl 0 rfl) ?_
    refine va_get (D := D) (ci := 1) (v := .ref (a 53)) (C := RX1) (T := TX1) (N := 9) hx hb ht inX1 hown hK hP 49 CW_49 rfl 0 (by decide) (ht (.fieldLink RX1 12 "CloneVolumes$Forest" "now" "LCloneVolumes$State;") fl_X1_12) (fun _ h9 => h9) rfl dX1_take_47 ?_
    refine va_get (D := D) (ci := 8) (v := .int (gI s8 1060)) (C := RX8) (T := TX8) (N := 11) hx hb ht inX8 hown hK hP 53 CW_53 rfl 0 (by decide) (ht (.fieldLink RX1 117 "CloneVolumes$State" "blocks" "I") fl_X1_117) (fun _ h9 => h9) rfl dX1_take_50 ?_
    refine lv_icmp_ge (tgt := 146) hx hb dX1_take_53 (by decide) (fun c29 => ?_) (fun c29 => ?_)
    · have h := if_t c29 h
      refine lv_iload_n hx hb dX1_take_146 rfl (lv_at hl 2 rfl) ?_
      refine lv_iconst (v := (-1)) hx hb dX1_take_147 (by decide) ?_
      refine lv_icmp_eq (tgt := 189) hx hb dX1_take_148 (by decide) (fun c30 => ?_) (fun c30 => ?_)
      · have h := if_t c30 h
        exact J189 (x4, s8) _ _ _ ⟨hP, hS, lv_sub hl [2] rfl, h⟩
      · have h := if_f c30 h
        refine lv_aload_n hx hb dX1_take_151 rfl (lv_at hl 0 rfl) ?_
        refine va_get (D := D) (ci := 1) (v := .ref (a 53)) (C := RX1) (T := TX1) (N := 9) hx hb ht inX1 hown hK hP 49 CW_49 rfl 0 (by decide) (ht (.fieldLink RX1 12 "CloneVolumes$Forest" "now" "LCloneVolumes$State;") fl_X1_12) (fun _ h9 => h9) rfl dX1_take_152 ?_
        refine va_get (D := D) (ci := 8) (v := .ref (a 54)) (C := RX8) (T := TX8) (N := 11) hx hb ht inX8 hown hK hP 53 CW_53 rfl 3 (by decide) (ht (.fieldLink RX1 181 "CloneVolumes$State" "count" "[I") fl_X1_181) (fun _ h9 => h9) rfl dX1_take_155 ?_
        refine lv_iload_n hx hb dX1_take_158 rfl (lv_at hl 2 rfl) ?_
        refine lv_iconst (v := 1) hx hb dX1_take_159 (by decide) ?_
        obtain ⟨hi31, h⟩ := inb_e h
        refine ya_iast hx hb hK hP (hDD _) hS 54 0 CW_54 rfl hi31 dX1_take_160 (CW_w54 _) (fun H locs hP hS => ?_)
        obtain ⟨s32, hs32, h⟩ := st_e h
        rw [hs32] at hP
        refine lv_aload_n hx hb dX1_take_161 rfl (lv_at hl 0 rfl) ?_
        refine va_get (D := D) (ci := 1) (v := .ref (a 53)) (C := RX1) (T := TX1) (N := 9) hx hb ht inX1 hown hK hP 49 CW_49 rfl 0 (by decide) (ht (.fieldLink RX1 12 "CloneVolumes$Forest" "now" "LCloneVolumes$State;") fl_X1_12) (fun _ h9 => h9) rfl dX1_take_162 ?_
        refine va_get (D := D) (ci := 8) (v := .ref (a 56)) (C := RX8) (T := TX8) (N := 11) hx hb ht inX8 hown hK hP 53 CW_53 rfl 5 (by decide) (ht (.fieldLink RX1 150 "CloneVolumes$State" "level" "[I") fl_X1_150) (fun _ h9 => h9) rfl dX1_take_165 ?_
        refine lv_iload_n hx hb dX1_take_168 rfl (lv_at hl 2 rfl) ?_
        refine lv_iload_n hx hb dX1_take_169 rfl (lv_at hl 1 rfl) ?_
        obtain ⟨hi33, h⟩ := inb_e h
        refine ya_iast hx hb hK hP (hDD _) hS 56 0 CW_56 rfl hi33 dX1_take_170 (CW_w56 _) (fun H locs hP hS => ?_)
        obtain ⟨s34, hs34, h⟩ := st_e h
        rw [hs34] at hP
        refine lv_aload_n hx hb dX1_take_171 rfl (lv_at hl 0 rfl) ?_
        refine va_get (D := D) (ci := 1) (v := .ref (a 53)) (C := RX1) (T := TX1) (N := 9) hx hb ht inX1 hown hK hP 49 CW_49 rfl 0 (by decide) (ht (.fieldLink RX1 12 "CloneVolumes$Forest" "now" "LCloneVolumes$State;") fl_X1_12) (fun _ h9 => h9) rfl dX1_take_172 ?_
        refine va_get (D := D) (ci := 8) (v := .ref (a 57)) (C := RX8) (T := TX8) (N := 11) hx hb ht inX8 hown hK hP 53 CW_53 rfl 6 (by decide) (ht (.fieldLink RX1 155 "CloneVolumes$State" "size" "[I") fl_X1_155) (fun _ h9 => h9) rfl dX1_take_175 ?_
        refine lv_iload_n hx hb dX1_take_178 rfl (lv_at hl 2 rfl) ?_
        refine lv_iconst (v := 0) hx hb dX1_take_179 (by decide) ?_
        obtain ⟨hi35, h⟩ := inb_e h
        refine ya_iast hx hb hK hP (hDD _) hS 57 0 CW_57 rfl hi35 dX1_take_180 (CW_w57 _) (fun H locs hP hS => ?_)
        obtain ⟨s36, hs36, h⟩ := st_e h
        rw [hs36] at hP
        refine lv_aload_n hx hb dX1_take_181 rfl (lv_at hl 0 rfl) ?_
        refine va_get (D := D) (ci := 1) (v := .ref (a 53)) (C := RX1) (T := TX1) (N := 9) hx hb ht inX1 hown hK hP 49 CW_49 rfl 0 (by decide) (ht (.fieldLink RX1 12 "CloneVolumes$Forest" "now" "LCloneVolumes$State;") fl_X1_12) (fun _ h9 => h9) rfl dX1_take_182 ?_
        refine lv_iload_n hx hb dX1_take_185 rfl (lv_at hl 2 rfl) ?_
        obtain ⟨s38, hc37, h⟩ := bn_e h
        refine ywVv (As := [.int x4]) (rest := []) (C := RX8) (n := 1) (ws' := CS D a s38) ⟨hx, hb, hml, hown, ht⟩ (k_x8_mark l D a x4 _ _ _ hc37) (zgV ml_X1_207 im_X8_mark se_X8_mark in_X8 co_X8_mark) rfl rfl (by decide +kernel) ⟨Nat.le_of_ble_eq_true rfl, Nat.le_of_ble_eq_true rfl⟩ hN hK hP (hDD _) hS hA 53 CW_53 rfl rfl rfl hl.1 rfl (Nat.le_of_ble_eq_true rfl) dX1_take_186 ⟨Nat.le_of_ble_eq_true rfl, Nat.le_of_ble_eq_true rfl⟩ (fun H locs hP hS => ?_)
        exact J189 (x4, s38) _ _ _ ⟨hP, hS, lv_sub hl [2] rfl, h⟩
    · have h := if_f c29 h
      refine lv_aload_n hx hb dX1_take_56 rfl (lv_at hl 0 rfl) ?_
      refine va_get (D := D) (ci := 1) (v := .ref (a 53)) (C := RX1) (T := TX1) (N := 9) hx hb ht inX1 hown hK hP 49 CW_49 rfl 0 (by decide) (ht (.fieldLink RX1 12 "CloneVolumes$Forest" "now" "LCloneVolumes$State;") fl_X1_12) (fun _ h9 => h9) rfl dX1_take_57 ?_
      refine lv_iload hx hb dX1_take_60 (lv_at hl 5 rfl) ?_
      obtain ⟨r40, hc39, h⟩ := bn_e h
      refine ycV (As := [.int x7]) (rest := []) (C := RX8) (n := 1) ⟨hx, hb, hml, hown, ht⟩ (k_x8_isFree l D a x7 _ _ hc39) (zgV ml_X1_204 im_X8_isFree se_X8_isFree in_X8 co_X8_isFree) rfl rfl (by decide +kernel) ⟨Nat.le_of_ble_eq_true rfl, Nat.le_of_ble_eq_true rfl⟩ hN hK hP hS 53 CW_53 rfl rfl rfl hl.1 rfl (Nat.le_of_ble_eq_true rfl) dX1_take_62 ⟨Nat.le_of_ble_eq_true rfl, Nat.le_of_ble_eq_true rfl⟩ (fun H locs hP hS => ?_)
      refine lv_if_eq (tgt := 140) hx hb dX1_take_65 (by decide) (fun c41 => ?_) (fun c41 => ?_)
      · have h := if_t c41 h
        exact J140 (x3, x4, x5, x6, x7, s8) _ _ _ ⟨hP, hS, lv_sub hl [0, 1, 2, 3, 4, 5] rfl, h⟩
      · have h := if_f c41 h
        refine lv_aload_n hx hb dX1_take_68 rfl (lv_at hl 0 rfl) ?_
        refine va_get (D := D) (ci := 1) (v := .ref (a 80)) (C := RX1) (T := TX1) (N := 9) hx hb ht inX1 hown hK hP 49 CW_49 rfl 5 (by decide) (ht (.fieldLink RX1 33 "CloneVolumes$Forest" "machine" "LCloneVolumes$Machine;") fl_X1_33) (fun _ h9 => h9) rfl dX1_take_69 ?_
        refine lv_iload hx hb dX1_take_72 (lv_at hl 5 rfl) ?_
        refine ya_put (D := D) (ci := 3) (v := .int x7) (ty := .int) (C := RX3) (T := TX3) (N := 10) hx hb ht inX3 tyX3 tyX3_ok nmX3 hown hK hP (hDD _) hS 80 CW_80 rfl 2 (by decide) (ht (.fieldLink RX1 147 "CloneVolumes$Machine" "number" "I") fl_X1_147) (fun _ h9 => h9) rfl (by decide +kernel) rfl rfl (Nat.le_of_ble_eq_true rfl) dX1_take_74 (CW_w80_2 _) (fun H locs hP hS => ?_)
        obtain ⟨s42, hs42, h⟩ := st_e h
        rw [hs42] at hP
        refine lv_iload hx hb dX1_take_77 (lv_at hl 4 rfl) ?_
        refine lv_if_eq (tgt := 117) hx hb dX1_take_79 (by decide) (fun c43 => ?_) (fun c43 => ?_)
        · have h := if_t c43 h
          refine lv_iload hx hb dX1_take_117 (lv_at hl 5 rfl) ?_
          exact J119 (x3, x4, x5, x6, x7, x7, s42) _ _ _ ⟨hP, hS, lv_sub hl [0, 1, 2, 3, 4, 5] rfl, h⟩
        · have h := if_f c43 h
          refine lv_aload_n hx hb dX1_take_82 rfl (lv_at hl 0 rfl) ?_
          refine va_get (D := D) (ci := 1) (v := .ref (a 80)) (C := RX1) (T := TX1) (N := 9) hx hb ht inX1 hown hK hP 49 CW_49 rfl 5 (by decide) (ht (.fieldLink RX1 33 "CloneVolumes$Forest" "machine" "LCloneVolumes$Machine;") fl_X1_33) (fun _ h9 => h9) rfl dX1_take_83 ?_
          refine lv_aload_n hx hb dX1_take_86 rfl (lv_at hl 0 rfl) ?_
          refine va_get (D := D) (ci := 1) (v := .ref (a 29)) (C := RX1) (T := TX1) (N := 9) hx hb ht inX1 hown hK hP 49 CW_49 rfl 4 (by decide) (ht (.fieldLink RX1 47 "CloneVolumes$Forest" "plan" "LCloneVolumes$Plan;") fl_X1_47) (fun _ h9 => h9) rfl dX1_take_87 ?_
          refine va_get (D := D) (ci := 5) (v := .ref (a 37)) (C := RX5) (T := TX5) (N := 14) hx hb ht inX5 hown hK hP 29 CW_29 rfl 11 (by decide) (ht (.fieldLink RX1 161 "CloneVolumes$Plan" "code" "LCloneVolumes$Code;") fl_X1_161) (fun _ h9 => h9) rfl dX1_take_90 ?_
          refine lv_aload_n hx hb dX1_take_93 rfl (lv_at hl 0 rfl) ?_
          refine va_get (D := D) (ci := 1) (v := .ref (a 29)) (C := RX1) (T := TX1) (N := 9) hx hb ht inX1 hown hK hP 49 CW_49 rfl 4 (by decide) (ht (.fieldLink RX1 47 "CloneVolumes$Forest" "plan" "LCloneVolumes$Plan;") fl_X1_47) (fun _ h9 => h9) rfl dX1_take_94 ?_
          refine va_get (D := D) (ci := 5) (v := .ref (a 35)) (C := RX5) (T := TX5) (N := 14) hx hb ht inX5 hown hK hP 29 CW_29 rfl 12 (by decide) (ht (.fieldLink RX1 144 "CloneVolumes$Plan" "begins" "[I") fl_X1_144) (fun _ h9 => h9) rfl dX1_take_97 ?_
          refine lv_iconst (v := 0) hx hb dX1_take_100 (by decide) ?_
          obtain ⟨y44, ey44, iy44, h⟩ := rdI_e h
          refine ya_iald hx hb hK hP 35 0 CW_35 rfl ey44 iy44 dX1_take_101 ?_
          refine lv_aload_n hx hb dX1_take_102 rfl (lv_at hl 0 rfl) ?_
          refine va_get (D := D) (ci := 1) (v := .ref (a 29)) (C := RX1) (T := TX1) (N := 9) hx hb ht inX1 hown hK hP 49 CW_49 rfl 4 (by decide) (ht (.fieldLink RX1 47 "CloneVolumes$Forest" "plan" "LCloneVolumes$Plan;") fl_X1_47) (fun _ h9 => h9) rfl dX1_take_103 ?_
          refine va_get (D := D) (ci := 5) (v := .ref (a 36)) (C := RX5) (T := TX5) (N := 14) hx hb ht inX5 hown hK hP 29 CW_29 rfl 13 (by decide) (ht (.fieldLink RX1 165 "CloneVolumes$Plan" "ends" "[I") fl_X1_165) (fun _ h9 => h9) rfl dX1_take_106 ?_
          refine lv_iconst (v := 0) hx hb dX1_take_109 (by decide) ?_
          obtain ⟨y45, ey45, iy45, h⟩ := rdI_e h
          refine ya_iald hx hb hK hP 36 0 CW_36 rfl ey45 iy45 dX1_take_110 ?_
          obtain ⟨⟨r48, s47⟩, hc46, h⟩ := bn_e h
          refine ywV (r0 := r48) (As := [.ref (a 37), .int y44, .int y45]) (rest := []) (C := RX3) (n := 3) (ws' := CS D a s47) ⟨hx, hb, hml, hown, ht⟩ (k_x3_value l D a y44 y45 _ _ _ hc46) (zgV ml_X1_168 im_X3_value se_X3_value in_X3 co_X3_value) rfl rfl (by decide +kernel) ⟨Nat.le_of_ble_eq_true rfl, Nat.le_of_ble_eq_true rfl⟩ hN hK hP (hDD _) hS hA 80 CW_80 rfl rfl rfl hl.1 rfl (Nat.le_of_ble_eq_true rfl) dX1_take_111 ⟨Nat.le_of_ble_eq_true rfl, Nat.le_of_ble_eq_true rfl⟩ (fun H locs hP hS => ?_)
          refine lv_goto (tgt := 119) hx hb dX1_take_114 (by decide) ?_
          exact J119 (x3, x4, x5, x6, x7, r48, s47) _ _ _ ⟨hP, hS, lv_sub hl [0, 1, 2, 3, 4, 5] rfl, h⟩
  refine y_head (pcJ := 23) (σ := Int32 × Int32 × Int32 × Int32 × Int32 × MS) (fun u H locs ls => va_P D vwCl (CS D a u.2.2.2.2.2) H ∧ va_S A s₀.heap H locs ∧ lv_has ls 8 [(0, .ref (a 49)), (1, .int u.1), (2, .int u.2.1), (3, .int u.2.2.1), (4, .int u.2.2.2.1)] ∧ m_x1_take_J23 u.1 u.2.1 u.2.2.1 u.2.2.2.1 u.2.2.2.2.1 u.2.2.2.2.2 = some o) (fun u => [.int u.2.2.2.2.1]) (fun u H locs ls hI => ?_) (fun J23 => ?_)
  · obtain ⟨hP, hS, hl, h⟩ := hI
    obtain ⟨x49, x50, x51, x52, x53, s54⟩ := u
    have hP : va_P D vwCl (CS D a s54) H := hP
    have hl : lv_has ls 8 [(0, .ref (a 49)), (1, .int x49), (2, .int x50), (3, .int x51), (4, .int x52)] := hl
    have h : m_x1_take_J23 x49 x50 x51 x52 x53 s54 = some o := h
    unfold m_x1_take_J23 at h
    refine lv_istore (lv' := [(5, .int x53), (0, .ref (a 49)), (1, .int x49), (2, .int x50), (3, .int x51), (4, .int x52)]) hx hb dX1_take_23 hl (by decide) rfl (fun ls hl => ?_)
    refine lv_aload_n hx hb dX1_take_25 rfl (lv_at hl 1 rfl) ?_
    refine va_get (D := D) (ci := 1) (v := .ref (a 80)) (C := RX1) (T := TX1) (N := 9) hx hb ht inX1 hown hK hP 49 CW_49 rfl 5 (by decide) (ht (.fieldLink RX1 33 "CloneVolumes$Forest" "machine" "LCloneVolumes$Machine;") fl_X1_33) (fun _ h9 => h9) rfl dX1_take_26 ?_
    refine lv_iload_n hx hb dX1_take_29 rfl (lv_at hl 2 rfl) ?_
    refine ya_put (D := D) (ci := 3) (v := .int x49) (ty := .int) (C := RX3) (T := TX3) (N := 10) hx hb ht inX3 tyX3 tyX3_ok nmX3 hown hK hP (hDD _) hS 80 CW_80 rfl 4 (by decide) (ht (.fieldLink RX1 153 "CloneVolumes$Machine" "level" "I") fl_X1_153) (fun _ h9 => h9) rfl (by decide +kernel) rfl rfl (Nat.le_of_ble_eq_true rfl) dX1_take_30 (CW_w80_4 _) (fun H locs hP hS => ?_)
    obtain ⟨s55, hs55, h⟩ := st_e h
    rw [hs55] at hP
    refine lv_aload_n hx hb dX1_take_33 rfl (lv_at hl 1 rfl) ?_
    refine va_get (D := D) (ci := 1) (v := .ref (a 80)) (C := RX1) (T := TX1) (N := 9) hx hb ht inX1 hown hK hP 49 CW_49 rfl 5 (by decide) (ht (.fieldLink RX1 33 "CloneVolumes$Forest" "machine" "LCloneVolumes$Machine;") fl_X1_33) (fun _ h9 => h9) rfl dX1_take_34 ?_
    refine lv_iload_n hx hb dX1_take_37 rfl (lv_at hl 3 rfl) ?_
    refine ya_put (D := D) (ci := 3) (v := .int x50) (ty := .int) (C := RX3) (T := TX3) (N := 10) hx hb ht inX3 tyX3 tyX3_ok nmX3 hown hK hP (hDD _) hS 80 CW_80 rfl 3 (by decide) (ht (.fieldLink RX1 201 "CloneVolumes$Machine" "source" "I") fl_X1_201) (fun _ h9 => h9) rfl (by decide +kernel) rfl rfl (Nat.le_of_ble_eq_true rfl) dX1_take_38 (CW_w80_3 _) (fun H locs hP hS => ?_)
    obtain ⟨s56, hs56, h⟩ := st_e h
    rw [hs56] at hP
    refine lv_iconst (v := 0) hx hb dX1_take_41 (by decide) ?_
    refine lv_istore (lv' := [(6, .int 0), (5, .int x53), (0, .ref (a 49)), (1, .int x49), (2, .int x50), (3, .int x51), (4, .int x52)]) hx hb dX1_take_42 hl (by decide) rfl (fun ls hl => ?_)
    exact J44 FU (x49, x51, x52, x53, 0, s56) _ _ _ ⟨hP, hS, lv_sub hl [2, 3, 5, 6, 1, 0] rfl, h⟩
  refine lv_iconst (v := (-1)) hx hb dX1_take_0 (by decide) ?_
  refine lv_istore_n (lv' := [(3, .int (-1)), (0, .ref (a 49)), (1, .int p0), (2, .int p1)]) hx hb dX1_take_1 rfl hl (by decide) rfl (fun ls hl => ?_)
  refine lv_iconst (v := 0) hx hb dX1_take_2 (by decide) ?_
  refine lv_istore (lv' := [(4, .int 0), (3, .int (-1)), (0, .ref (a 49)), (1, .int p0), (2, .int p1)]) hx hb dX1_take_3 hl (by decide) rfl (fun ls hl => ?_)
  refine lv_aload_n hx hb dX1_take_5 rfl (lv_at hl 2 rfl) ?_
  refine va_get (D := D) (ci := 1) (v := .ref (a 29)) (C := RX1) (T := TX1) (N := 9) hx hb ht inX1 hown hK hP 49 CW_49 rfl 4 (by decide) (ht (.fieldLink RX1 47 "CloneVolumes$Forest" "plan" "LCloneVolumes$Plan;") fl_X1_47) (fun _ h9 => h9) rfl dX1_take_6 ?_
  refine va_get (D := D) (ci := 5) (v := .ref (a 35)) (C := RX5) (T := TX5) (N := 14) hx hb ht inX5 hown hK hP 29 CW_29 rfl 12 (by decide) (ht (.fieldLink RX1 144 "CloneVolumes$Plan" "begins" "[I") fl_X1_144) (fun _ h9 => h9) rfl dX1_take_9 ?_
  refine lv_iconst (v := 0) hx hb dX1_take_12 (by decide) ?_
  obtain ⟨y57, ey57, iy57, h⟩ := rdI_e h
  refine ya_iald hx hb hK hP 35 0 CW_35 rfl ey57 iy57 dX1_take_13 ?_
  refine lv_iconst (v := (-1)) hx hb dX1_take_14 (by decide) ?_
  refine lv_icmp_eq (tgt := 22) hx hb dX1_take_15 (by decide) (fun c58 => ?_) (fun c58 => ?_)
  · have h := if_t c58 h
    refine lv_iconst (v := 0) hx hb dX1_take_22 (by decide) ?_
    exact J23 (p0, p1, (-1), 0, 0, s) _ _ _ ⟨hP, hS, lv_sub hl [2, 3, 4, 1, 0] rfl, h⟩
  · have h := if_f c58 h
    refine lv_iconst (v := 1) hx hb dX1_take_18 (by decide) ?_
    refine lv_goto (tgt := 23) hx hb dX1_take_19 (by decide) ?_
    exact J23 (p0, p1, (-1), 0, 1, s) _ _ _ ⟨hP, hS, lv_sub hl [2, 3, 4, 1, 0] rfl, h⟩
