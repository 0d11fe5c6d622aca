theorem co_X1_layEntries : Cond.code yX1_layEntries cX1_layEntries 5 none ∈ lw_gd := zm (List.mem_of_getElem? (i := 989) (by decide +kernel)) rfl
theorem co_X1_owned : Cond.code yX1_owned cX1_owned 4 (some .int) ∈ lw_gd := zm (List.mem_of_getElem? (i := 981) (by decide +kernel)) rfl
theorem co_X1_plantLow : Cond.code yX1_plantLow cX1_plantLow 7 none ∈ lw_gd := zm (List.mem_of_getElem? (i := 1028) (by decide +kernel)) rfl
theorem co_X1_raiseRoot : Cond.code yX1_raiseRoot cX1_raiseRoot 4 (some .int) ∈ lw_gd := zm (List.mem_of_getElem? (i := 1006) (by decide +kernel)) rfl
theorem co_X1_split : Cond.code yX1_split cX1_split 8 (some .int) ∈ lw_gd := zm (List.mem_of_getElem? (i := 1016) (by decide +kernel)) rfl
theorem co_X1_splits : Cond.code yX1_splits cX1_splits 2 (some .boolean) ∈ lw_gd := zm (List.mem_of_getElem? (i := 1002) (by decide +kernel)) rfl
theorem co_X1_take : Cond.code yX1_take cX1_take 8 (some .int) ∈ lw_gd := zm (List.mem_of_getElem? (i := 938) (by decide +kernel)) rfl
theorem co_X3_value : Cond.code yX3_value cX3_value 7 (some .int) ∈ lw_gd := zm (List.mem_of_getElem? (i := 950) (by decide +kernel)) rfl
theorem co_X8_isFree : Cond.code yX8_isFree cX8_isFree 2 (some .boolean) ∈ lw_gd := zm (List.mem_of_getElem? (i := 942) (by decide +kernel)) rfl
theorem fl_X1_117 : Cond.fieldLink RX1 117 "CloneVolumes$State" "blocks" "I" ∈ lw_gd := zm (List.mem_of_getElem? (i := 555) (by decide +kernel)) rfl
theorem fl_X1_144 : Cond.fieldLink RX1 144 "CloneVolumes$Plan" "begins" "[I" ∈ lw_gd := zm (List.mem_of_getElem? (i := 503) (by decide +kernel)) rfl
theorem fl_X1_147 : Cond.fieldLink RX1 147 "CloneVolumes$Machine" "number" "I" ∈ lw_gd := zm (List.mem_of_getElem? (i := 633) (by decide +kernel)) rfl
theorem fl_X1_153 : Cond.fieldLink RX1 153 "CloneVolumes$Machine" "level" "I" ∈ lw_gd := zm (List.mem_of_getElem? (i := 637) (by decide +kernel)) rfl
theorem fl_X1_158 : Cond.fieldLink RX1 158 "CloneVolumes$Machine" "entries" "I" ∈ lw_gd := zm (List.mem_of_getElem? (i := 639) (by decide +kernel)) rfl
theorem fl_X1_161 : Cond.fieldLink RX1 161 "CloneVolumes$Plan" "code" "LCloneVolumes$Code;" ∈ lw_gd := zm (List.mem_of_getElem? (i := 500) (by decide +kernel)) rfl
theorem fl_X1_165 : Cond.fieldLink RX1 165 "CloneVolumes$Plan" "ends" "[I" ∈ lw_gd := zm (List.mem_of_getElem? (i := 506) (by decide +kernel)) rfl
theorem fl_X1_172 : Cond.fieldLink RX1 172 "CloneVolumes$Plan" "entriesMost" "I" ∈ lw_gd := zm (List.mem_of_getElem? (i := 475) (by decide +kernel)) rfl
theorem fl_X1_201 : Cond.fieldLink RX1 201 "CloneVolumes$Machine" "source" "I" ∈ lw_gd := zm (List.mem_of_getElem? (i := 635) (by decide +kernel)) rfl
theorem fl_X1_69 : Cond.fieldLink RX1 69 "CloneVolumes$State" "roots" "[I" ∈ lw_gd := zm (List.mem_of_getElem? (i := 595) (by decide +kernel)) rfl
theorem im_X1_layEntries : Cond.instanceMethod yX1_layEntries ∈ lw_gd := zm (List.mem_of_getElem? (i := 988) (by decide +kernel)) rfl
theorem im_X1_owned : Cond.instanceMethod yX1_owned ∈ lw_gd := zm (List.mem_of_getElem? (i := 980) (by decide +kernel)) rfl
theorem im_X1_plantLow : Cond.instanceMethod yX1_plantLow ∈ lw_gd := zm (List.mem_of_getElem? (i := 1027) (by decide +kernel)) rfl
theorem im_X1_raiseRoot : Cond.instanceMethod yX1_raiseRoot ∈ lw_gd := zm (List.mem_of_getElem? (i := 1005) (by decide +kernel)) rfl
theorem im_X1_split : Cond.instanceMethod yX1_split ∈ lw_gd := zm (List.mem_of_getElem? (i := 1015) (by decide +kernel)) rfl
theorem im_X1_splits : Cond.instanceMethod yX1_splits ∈ lw_gd := zm (List.mem_of_getElem? (i := 1001) (by decide +kernel)) rfl
theorem im_X1_take : Cond.instanceMethod yX1_take ∈ lw_gd := zm (List.mem_of_getElem? (i := 937) (by decide +kernel)) rfl
theorem im_X3_value : Cond.instanceMethod yX3_value ∈ lw_gd := zm (List.mem_of_getElem? (i := 948) (by decide +kernel)) rfl
theorem im_X8_isFree : Cond.instanceMethod yX8_isFree ∈ lw_gd := zm (List.mem_of_getElem? (i := 940) (by decide +kernel)) rfl
theorem ml_X1_168 : Cond.methodLink RX1 168 yX3_value ∈ lw_gd := zm (List.mem_of_getElem? (i := 947) (by decide +kernel)) rfl
theorem ml_X1_186 : Cond.methodLink RX1 186 yX8_isFresh ∈ lw_gd := zm (List.mem_of_getElem? (i := 982) (by decide +kernel)) rfl
theorem ml_X1_204 : Cond.methodLink RX1 204 yX8_isFree ∈ lw_gd := zm (List.mem_of_getElem? (i := 939) (by decide +kernel)) rfl
theorem ml_X1_207 : Cond.methodLink RX1 207 yX8_mark ∈ lw_gd := zm (List.mem_of_getElem? (i := 974) (by decide +kernel)) rfl
theorem ml_X1_210 : Cond.methodLink RX1 210 yX1_take ∈ lw_gd := zm (List.mem_of_getElem? (i := 935) (by decide +kernel)) rfl
theorem ml_X1_213 : Cond.methodLink RX1 213 yX1_layEntries ∈ lw_gd := zm (List.mem_of_getElem? (i := 986) (by decide +kernel)) rfl
theorem ml_X1_236 : Cond.methodLink RX1 236 yX1_owned ∈ lw_gd := zm (List.mem_of_getElem? (i := 978) (by decide +kernel)) rfl
theorem ml_X1_239 : Cond.methodLink RX1 239 yX1_splits ∈ lw_gd := zm (List.mem_of_getElem? (i := 999) (by decide +kernel)) rfl
theorem ml_X1_242 : Cond.methodLink RX1 242 yX1_raiseRoot ∈ lw_gd := zm (List.mem_of_getElem? (i := 1003) (by decide +kernel)) rfl
theorem ml_X1_245 : Cond.methodLink RX1 245 yX1_split ∈ lw_gd := zm (List.mem_of_getElem? (i := 1013) (by decide +kernel)) rfl
theorem ml_X1_249 : Cond.methodLink RX1 249 yX8_entryFor ∈ lw_gd := zm (List.mem_of_getElem? (i := 1017) (by decide +kernel)) rfl
theorem ml_X1_255 : Cond.methodLink RX1 255 yX1_plantLow ∈ lw_gd := zm (List.mem_of_getElem? (i := 1025) (by decide +kernel)) rfl
theorem se_X1_layEntries : Cond.selects RX1 yX1_layEntries yX1_layEntries ∈ lw_gd := zm (List.mem_of_getElem? (i := 35) (by decide +kernel)) rfl
theorem se_X1_owned : Cond.selects RX1 yX1_owned yX1_owned ∈ lw_gd := zm (List.mem_of_getElem? (i := 34) (by decide +kernel)) rfl
theorem se_X1_plantLow : Cond.selects RX1 yX1_plantLow yX1_plantLow ∈ lw_gd := zm (List.mem_of_getElem? (i := 40) (by decide +kernel)) rfl
theorem se_X1_raiseRoot : Cond.selects RX1 yX1_raiseRoot yX1_raiseRoot ∈ lw_gd := zm (List.mem_of_getElem? (i := 38) (by decide +kernel)) rfl
theorem se_X1_split : Cond.selects RX1 yX1_split yX1_split ∈ lw_gd := zm (List.mem_of_getElem? (i := 39) (by decide +kernel)) rfl
theorem se_X1_splits : Cond.selects RX1 yX1_splits yX1_splits ∈ lw_gd := zm (List.mem_of_getElem? (i := 37) (by decide +kernel)) rfl
theorem se_X1_take : Cond.selects RX1 yX1_take yX1_take ∈ lw_gd := zm (List.mem_of_getElem? (i := 29) (by decide +kernel)) rfl
theorem se_X3_value : Cond.selects RX3 yX3_value yX3_value ∈ lw_gd := zm (List.mem_of_getElem? (i := 949) (by decide +kernel)) rfl
theorem se_X8_isFree : Cond.selects RX8 yX8_isFree yX8_isFree ∈ lw_gd := zm (List.mem_of_getElem? (i := 941) (by decide +kernel)) rfl
theorem dX1_layEntries_0 : decode cX1_layEntries 0 = .ok (.aload_n 0, 1) := by decide +kernel
theorem dX1_layEntries_1 : decode cX1_layEntries 1 = .ok (.getfield 12, 3) := by decide +kernel
theorem dX1_layEntries_4 : decode cX1_layEntries 4 = .ok (.getfield 155, 3) := by decide +kernel
theorem dX1_layEntries_7 : decode cX1_layEntries 7 = .ok (.iload_n 1, 1) := by decide +kernel
theorem dX1_layEntries_8 : decode cX1_layEntries 8 = .ok (.iaload, 1) := by decide +kernel
theorem dX1_layEntries_9 : decode cX1_layEntries 9 = .ok (.iload_n 2, 1) := by decide +kernel
theorem dX1_layEntries_10 : decode cX1_layEntries 10 = .ok (.isub, 1) := by decide +kernel
theorem dX1_layEntries_11 : decode cX1_layEntries 11 = .ok (.istore 4, 2) := by decide +kernel
theorem dX1_layEntries_13 : decode cX1_layEntries 13 = .ok (.aload_n 0, 1) := by decide +kernel
theorem dX1_layEntries_14 : decode cX1_layEntries 14 = .ok (.getfield 12, 3) := by decide +kernel
theorem dX1_layEntries_17 : decode cX1_layEntries 17 = .ok (.getfield 227, 3) := by decide +kernel
theorem dX1_layEntries_20 : decode cX1_layEntries 20 = .ok (.aload_n 0, 1) := by decide +kernel
theorem dX1_layEntries_21 : decode cX1_layEntries 21 = .ok (.getfield 12, 3) := by decide +kernel
theorem dX1_layEntries_24 : decode cX1_layEntries 24 = .ok (.iload_n 1, 1) := by decide +kernel
theorem dX1_layEntries_25 : decode cX1_layEntries 25 = .ok (.iload_n 2, 1) := by decide +kernel
theorem dX1_layEntries_26 : decode cX1_layEntries 26 = .ok (.invokevirtual 220, 3) := by decide +kernel
theorem dX1_layEntries_29 : decode cX1_layEntries 29 = .ok (.aload_n 0, 1) := by decide +kernel
theorem dX1_layEntries_30 : decode cX1_layEntries 30 = .ok (.getfield 12, 3) := by decide +kernel
theorem dX1_layEntries_33 : decode cX1_layEntries 33 = .ok (.getfield 227, 3) := by decide +kernel
theorem dX1_layEntries_36 : decode cX1_layEntries 36 = .ok (.aload_n 0, 1) := by decide +kernel
theorem dX1_layEntries_37 : decode cX1_layEntries 37 = .ok (.getfield 12, 3) := by decide +kernel
theorem dX1_layEntries_40 : decode cX1_layEntries 40 = .ok (.iload_n 3, 1) := by decide +kernel
theorem dX1_layEntries_41 : decode cX1_layEntries 41 = .ok (.iconst 0, 1) := by decide +kernel
theorem dX1_layEntries_42 : decode cX1_layEntries 42 = .ok (.invokevirtual 220, 3) := by decide +kernel
theorem dX1_layEntries_45 : decode cX1_layEntries 45 = .ok (.iload 4, 2) := by decide +kernel
theorem dX1_layEntries_47 : decode cX1_layEntries 47 = .ok (.invokestatic 230, 3) := by decide +kernel
theorem dX1_layEntries_50 : decode cX1_layEntries 50 = .ok (.aload_n 0, 1) := by decide +kernel
theorem dX1_layEntries_51 : decode cX1_layEntries 51 = .ok (.getfield 12, 3) := by decide +kernel
theorem dX1_layEntries_54 : decode cX1_layEntries 54 = .ok (.getfield 217, 3) := by decide +kernel
theorem dX1_layEntries_57 : decode cX1_layEntries 57 = .ok (.aload_n 0, 1) := by decide +kernel
theorem dX1_layEntries_58 : decode cX1_layEntries 58 = .ok (.getfield 12, 3) := by decide +kernel
theorem dX1_layEntries_61 : decode cX1_layEntries 61 = .ok (.iload_n 1, 1) := by decide +kernel
theorem dX1_layEntries_62 : decode cX1_layEntries 62 = .ok (.iload_n 2, 1) := by decide +kernel
theorem dX1_layEntries_63 : decode cX1_layEntries 63 = .ok (.invokevirtual 220, 3) := by decide +kernel
theorem dX1_layEntries_66 : decode cX1_layEntries 66 = .ok (.aload_n 0, 1) := by decide +kernel
theorem dX1_layEntries_67 : decode cX1_layEntries 67 = .ok (.getfield 12, 3) := by decide +kernel
theorem dX1_layEntries_70 : decode cX1_layEntries 70 = .ok (.getfield 217, 3) := by decide +kernel
theorem dX1_layEntries_73 : decode cX1_layEntries 73 = .ok (.aload_n 0, 1) := by decide +kernel
theorem dX1_layEntries_74 : decode cX1_layEntries 74 = .ok (.getfield 12, 3) := by decide +kernel
theorem dX1_layEntries_77 : decode cX1_layEntries 77 = .ok (.iload_n 3, 1) := by decide +kernel
theorem dX1_layEntries_78 : decode cX1_layEntries 78 = .ok (.iconst 0, 1) := by decide +kernel
theorem dX1_layEntries_79 : decode cX1_layEntries 79 = .ok (.invokevirtual 220, 3) := by decide +kernel
theorem dX1_layEntries_82 : decode cX1_layEntries 82 = .ok (.iload 4, 2) := by decide +kernel
theorem dX1_layEntries_84 : decode cX1_layEntries 84 = .ok (.invokestatic 230, 3) := by decide +kernel
theorem dX1_layEntries_87 : decode cX1_layEntries 87 = .ok (.aload_n 0, 1) := by decide +kernel
theorem dX1_layEntries_88 : decode cX1_layEntries 88 = .ok (.getfield 12, 3) := by decide +kernel
theorem dX1_layEntries_91 : decode cX1_layEntries 91 = .ok (.getfield 155, 3) := by decide +kernel
theorem dX1_layEntries_94 : decode cX1_layEntries 94 = .ok (.iload_n 3, 1) := by decide +kernel
theorem dX1_layEntries_95 : decode cX1_layEntries 95 = .ok (.iload 4, 2) := by decide +kernel
theorem dX1_layEntries_97 : decode cX1_layEntries 97 = .ok (.iastore, 1) := by decide +kernel
theorem dX1_layEntries_98 : decode cX1_layEntries 98 = .ok (.return_, 1) := by decide +kernel
theorem dX1_owned_0 : decode cX1_owned 0 = .ok (.aload_n 0, 1) := by decide +kernel
theorem dX1_owned_1 : decode cX1_owned 1 = .ok (.getfield 12, 3) := by decide +kernel
theorem dX1_owned_4 : decode cX1_owned 4 = .ok (.iload_n 1, 1) := by decide +kernel
theorem dX1_owned_5 : decode cX1_owned 5 = .ok (.invokevirtual 186, 3) := by decide +kernel
theorem dX1_owned_8 : decode cX1_owned 8 = .ok (.ifCond .eq 18, 3) := by decide +kernel
theorem dX1_owned_11 : decode cX1_owned 11 = .ok (.aload_n 0, 1) := by decide +kernel
theorem dX1_owned_12 : decode cX1_owned 12 = .ok (.getfield 12, 3) := by decide +kernel
theorem dX1_owned_15 : decode cX1_owned 15 = .ok (.getfield 181, 3) := by decide +kernel
theorem dX1_owned_18 : decode cX1_owned 18 = .ok (.iload_n 1, 1) := by decide +kernel
theorem dX1_owned_19 : decode cX1_owned 19 = .ok (.iaload, 1) := by decide +kernel
theorem dX1_owned_20 : decode cX1_owned 20 = .ok (.iconst 1, 1) := by decide +kernel
theorem dX1_owned_21 : decode cX1_owned 21 = .ok (.if_icmp .ne 5, 3) := by decide +kernel
theorem dX1_owned_24 : decode cX1_owned 24 = .ok (.iload_n 1, 1) := by decide +kernel
theorem dX1_owned_25 : decode cX1_owned 25 = .ok (.ireturn, 1) := by decide +kernel
theorem dX1_owned_26 : decode cX1_owned 26 = .ok (.aload_n 0, 1) := by decide +kernel
theorem dX1_owned_27 : decode cX1_owned 27 = .ok (.aload_n 0, 1) := by decide +kernel
theorem dX1_owned_28 : decode cX1_owned 28 = .ok (.getfield 12, 3) := by decide +kernel
theorem dX1_owned_31 : decode cX1_owned 31 = .ok (.getfield 150, 3) := by decide +kernel
theorem dX1_owned_34 : decode cX1_owned 34 = .ok (.iload_n 1, 1) := by decide +kernel
theorem dX1_owned_35 : decode cX1_owned 35 = .ok (.iaload, 1) := by decide +kernel
theorem dX1_owned_36 : decode cX1_owned 36 = .ok (.iload_n 1, 1) := by decide +kernel
theorem dX1_owned_37 : decode cX1_owned 37 = .ok (.invokevirtual 210, 3) := by decide +kernel
theorem dX1_owned_40 : decode cX1_owned 40 = .ok (.istore_n 2, 1) := by decide +kernel
theorem dX1_owned_41 : decode cX1_owned 41 = .ok (.iload_n 2, 1) := by decide +kernel
theorem dX1_owned_42 : decode cX1_owned 42 = .ok (.iconst (-1), 1) := by decide +kernel
theorem dX1_owned_43 : decode cX1_owned 43 = .ok (.if_icmp .ne 5, 3) := by decide +kernel
theorem dX1_owned_46 : decode cX1_owned 46 = .ok (.iconst (-1), 1) := by decide +kernel
theorem dX1_owned_47 : decode cX1_owned 47 = .ok (.ireturn, 1) := by decide +kernel
theorem dX1_owned_48 : decode cX1_owned 48 = .ok (.aload_n 0, 1) := by decide +kernel
theorem dX1_owned_49 : decode cX1_owned 49 = .ok (.iload_n 1, 1) := by decide +kernel
theorem dX1_owned_50 : decode cX1_owned 50 = .ok (.iconst 0, 1) := by decide +kernel
theorem dX1_owned_51 : decode cX1_owned 51 = .ok (.iload_n 2, 1) := by decide +kernel
theorem dX1_owned_52 : decode cX1_owned 52 = .ok (.invokevirtual 213, 3) := by decide +kernel
theorem dX1_owned_55 : decode cX1_owned 55 = .ok (.aload_n 0, 1) := by decide +kernel
theorem dX1_owned_56 : decode cX1_owned 56 = .ok (.getfield 12, 3) := by decide +kernel
theorem dX1_owned_59 : decode cX1_owned 59 = .ok (.getfield 150, 3) := by decide +kernel
theorem dX1_owned_62 : decode cX1_owned 62 = .ok (.iload_n 2, 1) := by decide +kernel
theorem dX1_owned_63 : decode cX1_owned 63 = .ok (.iaload, 1) := by decide +kernel
theorem dX1_owned_64 : decode cX1_owned 64 = .ok (.ifCond .le 53, 3) := by decide +kernel
theorem dX1_owned_67 : decode cX1_owned 67 = .ok (.iconst 0, 1) := by decide +kernel
theorem dX1_owned_68 : decode cX1_owned 68 = .ok (.istore_n 3, 1) := by decide +kernel
theorem dX1_owned_69 : decode cX1_owned 69 = .ok (.iload_n 3, 1) := by decide +kernel
theorem dX1_owned_70 : decode cX1_owned 70 = .ok (.aload_n 0, 1) := by decide +kernel
theorem dX1_owned_71 : decode cX1_owned 71 = .ok (.getfield 12, 3) := by decide +kernel
theorem dX1_owned_74 : decode cX1_owned 74 = .ok (.getfield 155, 3) := by decide +kernel
theorem dX1_owned_77 : decode cX1_owned 77 = .ok (.iload_n 2, 1) := by decide +kernel
theorem dX1_owned_78 : decode cX1_owned 78 = .ok (.iaload, 1) := by decide +kernel
theorem dX1_owned_79 : decode cX1_owned 79 = .ok (.if_icmp .ge 38, 3) := by decide +kernel
theorem dX1_owned_82 : decode cX1_owned 82 = .ok (.aload_n 0, 1) := by decide +kernel
theorem dX1_owned_83 : decode cX1_owned 83 = .ok (.getfield 12, 3) := by decide +kernel
theorem dX1_owned_86 : decode cX1_owned 86 = .ok (.getfield 181, 3) := by decide +kernel
theorem dX1_owned_89 : decode cX1_owned 89 = .ok (.aload_n 0, 1) := by decide +kernel
theorem dX1_owned_90 : decode cX1_owned 90 = .ok (.getfield 12, 3) := by decide +kernel
theorem dX1_owned_93 : decode cX1_owned 93 = .ok (.getfield 217, 3) := by decide +kernel
theorem dX1_owned_96 : decode cX1_owned 96 = .ok (.aload_n 0, 1) := by decide +kernel
theorem dX1_owned_97 : decode cX1_owned 97 = .ok (.getfield 12, 3) := by decide +kernel
theorem dX1_owned_100 : decode cX1_owned 100 = .ok (.iload_n 2, 1) := by decide +kernel
theorem dX1_owned_101 : decode cX1_owned 101 = .ok (.iload_n 3, 1) := by decide +kernel
theorem dX1_owned_102 : decode cX1_owned 102 = .ok (.invokevirtual 220, 3) := by decide +kernel
theorem dX1_owned_105 : decode cX1_owned 105 = .ok (.iaload, 1) := by decide +kernel
theorem dX1_owned_106 : decode cX1_owned 106 = .ok (.dup2, 1) := by decide +kernel
theorem dX1_owned_107 : decode cX1_owned 107 = .ok (.iaload, 1) := by decide +kernel
theorem dX1_owned_108 : decode cX1_owned 108 = .ok (.iconst 1, 1) := by decide +kernel
theorem dX1_owned_109 : decode cX1_owned 109 = .ok (.iadd, 1) := by decide +kernel
theorem dX1_owned_110 : decode cX1_owned 110 = .ok (.iastore, 1) := by decide +kernel
theorem dX1_owned_111 : decode cX1_owned 111 = .ok (.iinc 3 1, 3) := by decide +kernel
theorem dX1_owned_114 : decode cX1_owned 114 = .ok (.goto (-45), 3) := by decide +kernel
theorem dX1_owned_117 : decode cX1_owned 117 = .ok (.aload_n 0, 1) := by decide +kernel
theorem dX1_owned_118 : decode cX1_owned 118 = .ok (.iload_n 1, 1) := by decide +kernel
theorem dX1_owned_119 : decode cX1_owned 119 = .ok (.aload_n 0, 1) := by decide +kernel
theorem dX1_owned_120 : decode cX1_owned 120 = .ok (.getfield 12, 3) := by decide +kernel
theorem dX1_owned_123 : decode cX1_owned 123 = .ok (.getfield 181, 3) := by decide +kernel
theorem dX1_owned_126 : decode cX1_owned 126 = .ok (.invokevirtual 223, 3) := by decide +kernel
theorem dX1_owned_129 : decode cX1_owned 129 = .ok (.pop, 1) := by decide +kernel
theorem dX1_owned_130 : decode cX1_owned 130 = .ok (.iload_n 2, 1) := by decide +kernel
theorem dX1_owned_131 : decode cX1_owned 131 = .ok (.ireturn, 1) := by decide +kernel
theorem dX1_plant_0 : decode cX1_plant 0 = .ok (.aload_n 0, 1) := by decide +kernel
theorem dX1_plant_1 : decode cX1_plant 1 = .ok (.getfield 12, 3) := by decide +kernel
theorem dX1_plant_4 : decode cX1_plant 4 = .ok (.getfield 69, 3) := by decide +kernel
theorem dX1_plant_7 : decode cX1_plant 7 = .ok (.iload_n 1, 1) := by decide +kernel
theorem dX1_plant_8 : decode cX1_plant 8 = .ok (.iaload, 1) := by decide +kernel
theorem dX1_plant_9 : decode cX1_plant 9 = .ok (.iconst (-1), 1) := by decide +kernel
theorem dX1_plant_10 : decode cX1_plant 10 = .ok (.if_icmp .ne 13, 3) := by decide +kernel
theorem dX1_plant_13 : decode cX1_plant 13 = .ok (.aload_n 0, 1) := by decide +kernel
theorem dX1_plant_14 : decode cX1_plant 14 = .ok (.iconst 0, 1) := by decide +kernel
theorem dX1_plant_15 : decode cX1_plant 15 = .ok (.bipush 48, 2) := by decide +kernel
theorem dX1_plant_17 : decode cX1_plant 17 = .ok (.invokevirtual 210, 3) := by decide +kernel
theorem dX1_plant_20 : decode cX1_plant 20 = .ok (.goto 16, 3) := by decide +kernel
theorem dX1_plant_23 : decode cX1_plant 23 = .ok (.aload_n 0, 1) := by decide +kernel
theorem dX1_plant_24 : decode cX1_plant 24 = .ok (.aload_n 0, 1) := by decide +kernel
theorem dX1_plant_25 : decode cX1_plant 25 = .ok (.getfield 12, 3) := by decide +kernel
theorem dX1_plant_28 : decode cX1_plant 28 = .ok (.getfield 69, 3) := by decide +kernel
theorem dX1_plant_31 : decode cX1_plant 31 = .ok (.iload_n 1, 1) := by decide +kernel
theorem dX1_plant_32 : decode cX1_plant 32 = .ok (.iaload, 1) := by decide +kernel
theorem dX1_plant_33 : decode cX1_plant 33 = .ok (.invokevirtual 236, 3) := by decide +kernel
theorem dX1_plant_36 : decode cX1_plant 36 = .ok (.istore 4, 2) := by decide +kernel
theorem dX1_plant_38 : decode cX1_plant 38 = .ok (.iload 4, 2) := by decide +kernel
theorem dX1_plant_40 : decode cX1_plant 40 = .ok (.iconst (-1), 1) := by decide +kernel
theorem dX1_plant_41 : decode cX1_plant 41 = .ok (.if_icmp .ne 5, 3) := by decide +kernel
theorem dX1_plant_44 : decode cX1_plant 44 = .ok (.iconst 0, 1) := by decide +kernel
theorem dX1_plant_45 : decode cX1_plant 45 = .ok (.ireturn, 1) := by decide +kernel
theorem dX1_plant_46 : decode cX1_plant 46 = .ok (.aload_n 0, 1) := by decide +kernel
theorem dX1_plant_47 : decode cX1_plant 47 = .ok (.getfield 12, 3) := by decide +kernel
theorem dX1_plant_50 : decode cX1_plant 50 = .ok (.getfield 69, 3) := by decide +kernel
theorem dX1_plant_53 : decode cX1_plant 53 = .ok (.iload_n 1, 1) := by decide +kernel
theorem dX1_plant_54 : decode cX1_plant 54 = .ok (.iload 4, 2) := by decide +kernel
theorem dX1_plant_56 : decode cX1_plant 56 = .ok (.iastore, 1) := by decide +kernel
theorem dX1_plant_57 : decode cX1_plant 57 = .ok (.aload_n 0, 1) := by decide +kernel
theorem dX1_plant_58 : decode cX1_plant 58 = .ok (.iload 4, 2) := by decide +kernel
theorem dX1_plant_60 : decode cX1_plant 60 = .ok (.invokevirtual 239, 3) := by decide +kernel
theorem dX1_plant_63 : decode cX1_plant 63 = .ok (.ifCond .eq 32, 3) := by decide +kernel
theorem dX1_plant_66 : decode cX1_plant 66 = .ok (.aload_n 0, 1) := by decide +kernel
theorem dX1_plant_67 : decode cX1_plant 67 = .ok (.iload_n 1, 1) := by decide +kernel
theorem dX1_plant_68 : decode cX1_plant 68 = .ok (.invokevirtual 242, 3) := by decide +kernel
theorem dX1_plant_71 : decode cX1_plant 71 = .ok (.istore 5, 2) := by decide +kernel
theorem dX1_plant_73 : decode cX1_plant 73 = .ok (.iload 5, 2) := by decide +kernel
theorem dX1_plant_75 : decode cX1_plant 75 = .ok (.iconst (-1), 1) := by decide +kernel
theorem dX1_plant_76 : decode cX1_plant 76 = .ok (.if_icmp .ne 7, 3) := by decide +kernel
theorem dX1_plant_79 : decode cX1_plant 79 = .ok (.iconst (-1), 1) := by decide +kernel
theorem dX1_plant_80 : decode cX1_plant 80 = .ok (.goto 13, 3) := by decide +kernel
theorem dX1_plant_83 : decode cX1_plant 83 = .ok (.aload_n 0, 1) := by decide +kernel
theorem dX1_plant_84 : decode cX1_plant 84 = .ok (.iload 5, 2) := by decide +kernel
theorem dX1_plant_86 : decode cX1_plant 86 = .ok (.iconst 0, 1) := by decide +kernel
theorem dX1_plant_87 : decode cX1_plant 87 = .ok (.iload 4, 2) := by decide +kernel
theorem dX1_plant_89 : decode cX1_plant 89 = .ok (.iload_n 2, 1) := by decide +kernel
theorem dX1_plant_90 : decode cX1_plant 90 = .ok (.invokevirtual 245, 3) := by decide +kernel
theorem dX1_plant_93 : decode cX1_plant 93 = .ok (.istore 4, 2) := by decide +kernel
theorem dX1_plant_95 : decode cX1_plant 95 = .ok (.iload 4, 2) := by decide +kernel
theorem dX1_plant_97 : decode cX1_plant 97 = .ok (.iconst (-1), 1) := by decide +kernel
theorem dX1_plant_98 : decode cX1_plant 98 = .ok (.if_icmp .ne 7, 3) := by decide +kernel
theorem dX1_plant_101 : decode cX1_plant 101 = .ok (.iconst 0, 1) := by decide +kernel
theorem dX1_plant_102 : decode cX1_plant 102 = .ok (.goto 13, 3) := by decide +kernel
theorem dX1_plant_105 : decode cX1_plant 105 = .ok (.aload_n 0, 1) := by decide +kernel
theorem dX1_plant_106 : decode cX1_plant 106 = .ok (.getfield 12, 3) := by decide +kernel
theorem dX1_plant_109 : decode cX1_plant 109 = .ok (.getfield 150, 3) := by decide +kernel
theorem dX1_plant_112 : decode cX1_plant 112 = .ok (.iload 4, 2) := by decide +kernel
theorem dX1_plant_114 : decode cX1_plant 114 = .ok (.iaload, 1) := by decide +kernel
theorem dX1_plant_115 : decode cX1_plant 115 = .ok (.istore 5, 2) := by decide +kernel
theorem dX1_plant_117 : decode cX1_plant 117 = .ok (.iload 5, 2) := by decide +kernel
theorem dX1_plant_119 : decode cX1_plant 119 = .ok (.ifCond .le 100, 3) := by decide +kernel
theorem dX1_plant_122 : decode cX1_plant 122 = .ok (.iload 4, 2) := by decide +kernel
theorem dX1_plant_124 : decode cX1_plant 124 = .ok (.iconst (-1), 1) := by decide +kernel
theorem dX1_plant_125 : decode cX1_plant 125 = .ok (.if_icmp .eq 94, 3) := by decide +kernel
theorem dX1_plant_128 : decode cX1_plant 128 = .ok (.aload_n 0, 1) := by decide +kernel
theorem dX1_plant_129 : decode cX1_plant 129 = .ok (.getfield 12, 3) := by decide +kernel
theorem dX1_plant_132 : decode cX1_plant 132 = .ok (.iload 4, 2) := by decide +kernel
theorem dX1_plant_134 : decode cX1_plant 134 = .ok (.iload_n 2, 1) := by decide +kernel
theorem dX1_plant_135 : decode cX1_plant 135 = .ok (.invokevirtual 249, 3) := by decide +kernel
theorem dX1_plant_138 : decode cX1_plant 138 = .ok (.istore 6, 2) := by decide +kernel
theorem dX1_plant_140 : decode cX1_plant 140 = .ok (.aload_n 0, 1) := by decide +kernel
theorem dX1_plant_141 : decode cX1_plant 141 = .ok (.aload_n 0, 1) := by decide +kernel
theorem dX1_plant_142 : decode cX1_plant 142 = .ok (.getfield 12, 3) := by decide +kernel
theorem dX1_plant_145 : decode cX1_plant 145 = .ok (.getfield 217, 3) := by decide +kernel
theorem dX1_plant_148 : decode cX1_plant 148 = .ok (.aload_n 0, 1) := by decide +kernel
theorem dX1_plant_149 : decode cX1_plant 149 = .ok (.getfield 12, 3) := by decide +kernel
theorem dX1_plant_152 : decode cX1_plant 152 = .ok (.iload 4, 2) := by decide +kernel
theorem dX1_plant_154 : decode cX1_plant 154 = .ok (.iload 6, 2) := by decide +kernel
theorem dX1_plant_156 : decode cX1_plant 156 = .ok (.invokevirtual 220, 3) := by decide +kernel
theorem dX1_plant_159 : decode cX1_plant 159 = .ok (.iaload, 1) := by decide +kernel
theorem dX1_plant_160 : decode cX1_plant 160 = .ok (.invokevirtual 236, 3) := by decide +kernel
theorem dX1_plant_163 : decode cX1_plant 163 = .ok (.istore 7, 2) := by decide +kernel
theorem dX1_plant_165 : decode cX1_plant 165 = .ok (.iload 7, 2) := by decide +kernel
theorem dX1_plant_167 : decode cX1_plant 167 = .ok (.iconst (-1), 1) := by decide +kernel
theorem dX1_plant_168 : decode cX1_plant 168 = .ok (.if_icmp .ne 5, 3) := by decide +kernel
theorem dX1_plant_171 : decode cX1_plant 171 = .ok (.iconst 0, 1) := by decide +kernel
theorem dX1_plant_172 : decode cX1_plant 172 = .ok (.ireturn, 1) := by decide +kernel
theorem dX1_plant_173 : decode cX1_plant 173 = .ok (.aload_n 0, 1) := by decide +kernel
theorem dX1_plant_174 : decode cX1_plant 174 = .ok (.getfield 12, 3) := by decide +kernel
theorem dX1_plant_177 : decode cX1_plant 177 = .ok (.iload 4, 2) := by decide +kernel
theorem dX1_plant_179 : decode cX1_plant 179 = .ok (.iload 6, 2) := by decide +kernel
theorem dX1_plant_181 : decode cX1_plant 181 = .ok (.iload 7, 2) := by decide +kernel
theorem dX1_plant_183 : decode cX1_plant 183 = .ok (.invokevirtual 252, 3) := by decide +kernel
theorem dX1_plant_186 : decode cX1_plant 186 = .ok (.aload_n 0, 1) := by decide +kernel
theorem dX1_plant_187 : decode cX1_plant 187 = .ok (.iload 7, 2) := by decide +kernel
theorem dX1_plant_189 : decode cX1_plant 189 = .ok (.invokevirtual 239, 3) := by decide +kernel
theorem dX1_plant_192 : decode cX1_plant 192 = .ok (.ifCond .eq 17, 3) := by decide +kernel
theorem dX1_plant_195 : decode cX1_plant 195 = .ok (.aload_n 0, 1) := by decide +kernel
theorem dX1_plant_196 : decode cX1_plant 196 = .ok (.iload 4, 2) := by decide +kernel
theorem dX1_plant_198 : decode cX1_plant 198 = .ok (.iload 6, 2) := by decide +kernel
theorem dX1_plant_200 : decode cX1_plant 200 = .ok (.iload 7, 2) := by decide +kernel
theorem dX1_plant_202 : decode cX1_plant 202 = .ok (.iload_n 2, 1) := by decide +kernel
theorem dX1_plant_203 : decode cX1_plant 203 = .ok (.invokevirtual 245, 3) := by decide +kernel
theorem dX1_plant_206 : decode cX1_plant 206 = .ok (.goto 5, 3) := by decide +kernel
theorem dX1_plant_209 : decode cX1_plant 209 = .ok (.iload 7, 2) := by decide +kernel
theorem dX1_plant_211 : decode cX1_plant 211 = .ok (.istore 4, 2) := by decide +kernel
theorem dX1_plant_213 : decode cX1_plant 213 = .ok (.iinc 5 (-1), 3) := by decide +kernel
theorem dX1_plant_216 : decode cX1_plant 216 = .ok (.goto (-99), 3) := by decide +kernel
theorem dX1_plant_219 : decode cX1_plant 219 = .ok (.iload 4, 2) := by decide +kernel
theorem dX1_plant_221 : decode cX1_plant 221 = .ok (.iconst (-1), 1) := by decide +kernel
theorem dX1_plant_222 : decode cX1_plant 222 = .ok (.if_icmp .ne 5, 3) := by decide +kernel
theorem dX1_plant_225 : decode cX1_plant 225 = .ok (.iconst 0, 1) := by decide +kernel
theorem dX1_plant_226 : decode cX1_plant 226 = .ok (.ireturn, 1) := by decide +kernel
theorem dX1_plant_227 : decode cX1_plant 227 = .ok (.aload_n 0, 1) := by decide +kernel
theorem dX1_plant_228 : decode cX1_plant 228 = .ok (.iload 4, 2) := by decide +kernel
theorem dX1_plant_230 : decode cX1_plant 230 = .ok (.iload_n 2, 1) := by decide +kernel
theorem dX1_plant_231 : decode cX1_plant 231 = .ok (.iload_n 3, 1) := by decide +kernel
theorem dX1_plant_232 : decode cX1_plant 232 = .ok (.invokevirtual 255, 3) := by decide +kernel
theorem dX1_plant_235 : decode cX1_plant 235 = .ok (.iconst 1, 1) := by decide +kernel
theorem dX1_plant_236 : decode cX1_plant 236 = .ok (.ireturn, 1) := by decide +kernel
theorem dX1_raiseRoot_0 : decode cX1_raiseRoot 0 = .ok (.aload_n 0, 1) := by decide +kernel
theorem dX1_raiseRoot_1 : decode cX1_raiseRoot 1 = .ok (.getfield 12, 3) := by decide +kernel
theorem dX1_raiseRoot_4 : decode cX1_raiseRoot 4 = .ok (.getfield 69, 3) := by decide +kernel
theorem dX1_raiseRoot_7 : decode cX1_raiseRoot 7 = .ok (.iload_n 1, 1) := by decide +kernel
theorem dX1_raiseRoot_8 : decode cX1_raiseRoot 8 = .ok (.iaload, 1) := by decide +kernel
theorem dX1_raiseRoot_9 : decode cX1_raiseRoot 9 = .ok (.istore_n 2, 1) := by decide +kernel
theorem dX1_raiseRoot_10 : decode cX1_raiseRoot 10 = .ok (.aload_n 0, 1) := by decide +kernel
theorem dX1_raiseRoot_11 : decode cX1_raiseRoot 11 = .ok (.aload_n 0, 1) := by decide +kernel
theorem dX1_raiseRoot_12 : decode cX1_raiseRoot 12 = .ok (.getfield 12, 3) := by decide +kernel
theorem dX1_raiseRoot_15 : decode cX1_raiseRoot 15 = .ok (.getfield 150, 3) := by decide +kernel
theorem dX1_raiseRoot_18 : decode cX1_raiseRoot 18 = .ok (.iload_n 2, 1) := by decide +kernel
theorem dX1_raiseRoot_19 : decode cX1_raiseRoot 19 = .ok (.iaload, 1) := by decide +kernel
theorem dX1_raiseRoot_20 : decode cX1_raiseRoot 20 = .ok (.iconst 1, 1) := by decide +kernel
theorem dX1_raiseRoot_21 : decode cX1_raiseRoot 21 = .ok (.iadd, 1) := by decide +kernel
theorem dX1_raiseRoot_22 : decode cX1_raiseRoot 22 = .ok (.iload_n 2, 1) := by decide +kernel
theorem dX1_raiseRoot_23 : decode cX1_raiseRoot 23 = .ok (.invokevirtual 210, 3) := by decide +kernel
theorem dX1_raiseRoot_26 : decode cX1_raiseRoot 26 = .ok (.istore_n 3, 1) := by decide +kernel
theorem dX1_raiseRoot_27 : decode cX1_raiseRoot 27 = .ok (.iload_n 3, 1) := by decide +kernel
theorem dX1_raiseRoot_28 : decode cX1_raiseRoot 28 = .ok (.iconst (-1), 1) := by decide +kernel
theorem dX1_raiseRoot_29 : decode cX1_raiseRoot 29 = .ok (.if_icmp .eq 40, 3) := by decide +kernel
theorem dX1_raiseRoot_32 : decode cX1_raiseRoot 32 = .ok (.aload_n 0, 1) := by decide +kernel
theorem dX1_raiseRoot_33 : decode cX1_raiseRoot 33 = .ok (.getfield 12, 3) := by decide +kernel
theorem dX1_raiseRoot_36 : decode cX1_raiseRoot 36 = .ok (.iload_n 3, 1) := by decide +kernel
theorem dX1_raiseRoot_37 : decode cX1_raiseRoot 37 = .ok (.iconst 0, 1) := by decide +kernel
theorem dX1_raiseRoot_38 : decode cX1_raiseRoot 38 = .ok (.aload_n 0, 1) := by decide +kernel
theorem dX1_raiseRoot_39 : decode cX1_raiseRoot 39 = .ok (.getfield 12, 3) := by decide +kernel
theorem dX1_raiseRoot_42 : decode cX1_raiseRoot 42 = .ok (.getfield 227, 3) := by decide +kernel
theorem dX1_raiseRoot_45 : decode cX1_raiseRoot 45 = .ok (.aload_n 0, 1) := by decide +kernel
theorem dX1_raiseRoot_46 : decode cX1_raiseRoot 46 = .ok (.getfield 12, 3) := by decide +kernel
theorem dX1_raiseRoot_49 : decode cX1_raiseRoot 49 = .ok (.iload_n 2, 1) := by decide +kernel
theorem dX1_raiseRoot_50 : decode cX1_raiseRoot 50 = .ok (.iconst 0, 1) := by decide +kernel
theorem dX1_raiseRoot_51 : decode cX1_raiseRoot 51 = .ok (.invokevirtual 220, 3) := by decide +kernel
theorem dX1_raiseRoot_54 : decode cX1_raiseRoot 54 = .ok (.iaload, 1) := by decide +kernel
theorem dX1_raiseRoot_55 : decode cX1_raiseRoot 55 = .ok (.iload_n 2, 1) := by decide +kernel
theorem dX1_raiseRoot_56 : decode cX1_raiseRoot 56 = .ok (.invokevirtual 258, 3) := by decide +kernel
theorem dX1_raiseRoot_59 : decode cX1_raiseRoot 59 = .ok (.aload_n 0, 1) := by decide +kernel
theorem dX1_raiseRoot_60 : decode cX1_raiseRoot 60 = .ok (.getfield 12, 3) := by decide +kernel
theorem dX1_raiseRoot_63 : decode cX1_raiseRoot 63 = .ok (.getfield 69, 3) := by decide +kernel
theorem dX1_raiseRoot_66 : decode cX1_raiseRoot 66 = .ok (.iload_n 1, 1) := by decide +kernel
theorem dX1_raiseRoot_67 : decode cX1_raiseRoot 67 = .ok (.iload_n 3, 1) := by decide +kernel
theorem dX1_raiseRoot_68 : decode cX1_raiseRoot 68 = .ok (.iastore, 1) := by decide +kernel
theorem dX1_raiseRoot_69 : decode cX1_raiseRoot 69 = .ok (.iload_n 3, 1) := by decide +kernel
theorem dX1_raiseRoot_70 : decode cX1_raiseRoot 70 = .ok (.ireturn, 1) := by decide +kernel
theorem dX1_split_0 : decode cX1_split 0 = .ok (.aload_n 0, 1) := by decide +kernel
theorem dX1_split_1 : decode cX1_split 1 = .ok (.aload_n 0, 1) := by decide +kernel
theorem dX1_split_2 : decode cX1_split 2 = .ok (.getfield 12, 3) := by decide +kernel
theorem dX1_split_5 : decode cX1_split 5 = .ok (.getfield 150, 3) := by decide +kernel
theorem dX1_split_8 : decode cX1_split 8 = .ok (.iload_n 3, 1) := by decide +kernel
theorem dX1_split_9 : decode cX1_split 9 = .ok (.iaload, 1) := by decide +kernel
theorem dX1_split_10 : decode cX1_split 10 = .ok (.iload_n 3, 1) := by decide +kernel
theorem dX1_split_11 : decode cX1_split 11 = .ok (.invokevirtual 210, 3) := by decide +kernel
theorem dX1_split_14 : decode cX1_split 14 = .ok (.istore 5, 2) := by decide +kernel
theorem dX1_split_16 : decode cX1_split 16 = .ok (.iload 5, 2) := by decide +kernel
theorem dX1_split_18 : decode cX1_split 18 = .ok (.iconst (-1), 1) := by decide +kernel
theorem dX1_split_19 : decode cX1_split 19 = .ok (.if_icmp .ne 5, 3) := by decide +kernel
theorem dX1_split_22 : decode cX1_split 22 = .ok (.iconst (-1), 1) := by decide +kernel
theorem dX1_split_23 : decode cX1_split 23 = .ok (.ireturn, 1) := by decide +kernel
theorem dX1_split_24 : decode cX1_split 24 = .ok (.aload_n 0, 1) := by decide +kernel
theorem dX1_split_25 : decode cX1_split 25 = .ok (.getfield 12, 3) := by decide +kernel
theorem dX1_split_28 : decode cX1_split 28 = .ok (.getfield 155, 3) := by decide +kernel
theorem dX1_split_31 : decode cX1_split 31 = .ok (.iload_n 3, 1) := by decide +kernel
theorem dX1_split_32 : decode cX1_split 32 = .ok (.iaload, 1) := by decide +kernel
theorem dX1_split_33 : decode cX1_split 33 = .ok (.aload_n 0, 1) := by decide +kernel
theorem dX1_split_34 : decode cX1_split 34 = .ok (.getfield 12, 3) := by decide +kernel
theorem dX1_split_37 : decode cX1_split 37 = .ok (.getfield 155, 3) := by decide +kernel
theorem dX1_split_40 : decode cX1_split 40 = .ok (.iload_n 3, 1) := by decide +kernel
theorem dX1_split_41 : decode cX1_split 41 = .ok (.iaload, 1) := by decide +kernel
theorem dX1_split_42 : decode cX1_split 42 = .ok (.iconst 2, 1) := by decide +kernel
theorem dX1_split_43 : decode cX1_split 43 = .ok (.idiv, 1) := by decide +kernel
theorem dX1_split_44 : decode cX1_split 44 = .ok (.isub, 1) := by decide +kernel
theorem dX1_split_45 : decode cX1_split 45 = .ok (.istore 6, 2) := by decide +kernel
theorem dX1_split_47 : decode cX1_split 47 = .ok (.aload_n 0, 1) := by decide +kernel
theorem dX1_split_48 : decode cX1_split 48 = .ok (.iload_n 3, 1) := by decide +kernel
theorem dX1_split_49 : decode cX1_split 49 = .ok (.iload 6, 2) := by decide +kernel
theorem dX1_split_51 : decode cX1_split 51 = .ok (.iload 5, 2) := by decide +kernel
theorem dX1_split_53 : decode cX1_split 53 = .ok (.invokevirtual 213, 3) := by decide +kernel
theorem dX1_split_56 : decode cX1_split 56 = .ok (.aload_n 0, 1) := by decide +kernel
theorem dX1_split_57 : decode cX1_split 57 = .ok (.getfield 12, 3) := by decide +kernel
theorem dX1_split_60 : decode cX1_split 60 = .ok (.getfield 155, 3) := by decide +kernel
theorem dX1_split_63 : decode cX1_split 63 = .ok (.iload_n 3, 1) := by decide +kernel
theorem dX1_split_64 : decode cX1_split 64 = .ok (.iload 6, 2) := by decide +kernel
theorem dX1_split_66 : decode cX1_split 66 = .ok (.iastore, 1) := by decide +kernel
theorem dX1_split_67 : decode cX1_split 67 = .ok (.aload_n 0, 1) := by decide +kernel
theorem dX1_split_68 : decode cX1_split 68 = .ok (.getfield 12, 3) := by decide +kernel
theorem dX1_split_71 : decode cX1_split 71 = .ok (.iload_n 3, 1) := by decide +kernel
theorem dX1_split_72 : decode cX1_split 72 = .ok (.invokevirtual 207, 3) := by decide +kernel
theorem dX1_split_75 : decode cX1_split 75 = .ok (.aload_n 0, 1) := by decide +kernel
theorem dX1_split_76 : decode cX1_split 76 = .ok (.getfield 12, 3) := by decide +kernel
theorem dX1_split_79 : decode cX1_split 79 = .ok (.getfield 227, 3) := by decide +kernel
theorem dX1_split_82 : decode cX1_split 82 = .ok (.aload_n 0, 1) := by decide +kernel
theorem dX1_split_83 : decode cX1_split 83 = .ok (.getfield 12, 3) := by decide +kernel
theorem dX1_split_86 : decode cX1_split 86 = .ok (.iload 5, 2) := by decide +kernel
theorem dX1_split_88 : decode cX1_split 88 = .ok (.iconst 0, 1) := by decide +kernel
theorem dX1_split_89 : decode cX1_split 89 = .ok (.invokevirtual 220, 3) := by decide +kernel
theorem dX1_split_92 : decode cX1_split 92 = .ok (.iaload, 1) := by decide +kernel
theorem dX1_split_93 : decode cX1_split 93 = .ok (.istore 7, 2) := by decide +kernel
theorem dX1_split_95 : decode cX1_split 95 = .ok (.aload_n 0, 1) := by decide +kernel
theorem dX1_split_96 : decode cX1_split 96 = .ok (.getfield 12, 3) := by decide +kernel
theorem dX1_split_99 : decode cX1_split 99 = .ok (.iload_n 1, 1) := by decide +kernel
theorem dX1_split_100 : decode cX1_split 100 = .ok (.iload_n 2, 1) := by decide +kernel
theorem dX1_split_101 : decode cX1_split 101 = .ok (.iconst 1, 1) := by decide +kernel
theorem dX1_split_102 : decode cX1_split 102 = .ok (.iadd, 1) := by decide +kernel
theorem dX1_split_103 : decode cX1_split 103 = .ok (.iload 7, 2) := by decide +kernel
theorem dX1_split_105 : decode cX1_split 105 = .ok (.iload 5, 2) := by decide +kernel
theorem dX1_split_107 : decode cX1_split 107 = .ok (.invokevirtual 258, 3) := by decide +kernel
theorem dX1_split_110 : decode cX1_split 110 = .ok (.iload 7, 2) := by decide +kernel
theorem dX1_split_112 : decode cX1_split 112 = .ok (.iload 4, 2) := by decide +kernel
theorem dX1_split_114 : decode cX1_split 114 = .ok (.if_icmp .gt 8, 3) := by decide +kernel
theorem dX1_split_117 : decode cX1_split 117 = .ok (.iload 5, 2) := by decide +kernel
theorem dX1_split_119 : decode cX1_split 119 = .ok (.goto 4, 3) := by decide +kernel
theorem dX1_split_122 : decode cX1_split 122 = .ok (.iload_n 3, 1) := by decide +kernel
theorem dX1_split_123 : decode cX1_split 123 = .ok (.ireturn, 1) := by decide +kernel
theorem dX1_splits_0 : decode cX1_splits 0 = .ok (.aload_n 0, 1) := by decide +kernel
theorem dX1_splits_1 : decode cX1_splits 1 = .ok (.getfield 12, 3) := by decide +kernel
theorem dX1_splits_4 : decode cX1_splits 4 = .ok (.getfield 155, 3) := by decide +kernel
theorem dX1_splits_7 : decode cX1_splits 7 = .ok (.iload_n 1, 1) := by decide +kernel
theorem dX1_splits_8 : decode cX1_splits 8 = .ok (.iaload, 1) := by decide +kernel
theorem dX1_splits_9 : decode cX1_splits 9 = .ok (.aload_n 0, 1) := by decide +kernel
theorem dX1_splits_10 : decode cX1_splits 10 = .ok (.getfield 47, 3) := by decide +kernel
theorem dX1_splits_13 : decode cX1_splits 13 = .ok (.getfield 172, 3) := by decide +kernel
theorem dX1_splits_16 : decode cX1_splits 16 = .ok (.if_icmp .lt 5, 3) := by decide +kernel
theorem dX1_splits_19 : decode cX1_splits 19 = .ok (.iconst 1, 1) := by decide +kernel
theorem dX1_splits_20 : decode cX1_splits 20 = .ok (.ireturn, 1) := by decide +kernel
theorem dX1_splits_21 : decode cX1_splits 21 = .ok (.aload_n 0, 1) := by decide +kernel
theorem dX1_splits_22 : decode cX1_splits 22 = .ok (.getfield 12, 3) := by decide +kernel
theorem dX1_splits_25 : decode cX1_splits 25 = .ok (.getfield 155, 3) := by decide +kernel
theorem dX1_splits_28 : decode cX1_splits 28 = .ok (.iload_n 1, 1) := by decide +kernel
theorem dX1_splits_29 : decode cX1_splits 29 = .ok (.iaload, 1) := by decide +kernel
theorem dX1_splits_30 : decode cX1_splits 30 = .ok (.iconst 2, 1) := by decide +kernel
theorem dX1_splits_31 : decode cX1_splits 31 = .ok (.if_icmp .lt 16, 3) := by decide +kernel
theorem dX1_splits_34 : decode cX1_splits 34 = .ok (.aload_n 0, 1) := by decide +kernel
theorem dX1_splits_35 : decode cX1_splits 35 = .ok (.getfield 47, 3) := by decide +kernel
theorem dX1_splits_38 : decode cX1_splits 38 = .ok (.getfield 144, 3) := by decide +kernel
theorem dX1_splits_41 : decode cX1_splits 41 = .ok (.iconst 1, 1) := by decide +kernel
theorem dX1_splits_42 : decode cX1_splits 42 = .ok (.iaload, 1) := by decide +kernel
theorem dX1_splits_43 : decode cX1_splits 43 = .ok (.iconst (-1), 1) := by decide +kernel
theorem dX1_splits_44 : decode cX1_splits 44 = .ok (.if_icmp .ne 5, 3) := by decide +kernel
theorem dX1_splits_47 : decode cX1_splits 47 = .ok (.iconst 0, 1) := by decide +kernel
theorem dX1_splits_48 : decode cX1_splits 48 = .ok (.ireturn, 1) := by decide +kernel
theorem dX1_splits_49 : decode cX1_splits 49 = .ok (.aload_n 0, 1) := by decide +kernel
theorem dX1_splits_50 : decode cX1_splits 50 = .ok (.getfield 33, 3) := by decide +kernel
theorem dX1_splits_53 : decode cX1_splits 53 = .ok (.aload_n 0, 1) := by decide +kernel
theorem dX1_splits_54 : decode cX1_splits 54 = .ok (.getfield 12, 3) := by decide +kernel
theorem dX1_splits_57 : decode cX1_splits 57 = .ok (.getfield 150, 3) := by decide +kernel
theorem dX1_splits_60 : decode cX1_splits 60 = .ok (.iload_n 1, 1) := by decide +kernel
theorem dX1_splits_61 : decode cX1_splits 61 = .ok (.iaload, 1) := by decide +kernel
theorem dX1_splits_62 : decode cX1_splits 62 = .ok (.putfield 153, 3) := by decide +kernel
theorem dX1_splits_65 : decode cX1_splits 65 = .ok (.aload_n 0, 1) := by decide +kernel
theorem dX1_splits_66 : decode cX1_splits 66 = .ok (.getfield 33, 3) := by decide +kernel
theorem dX1_splits_69 : decode cX1_splits 69 = .ok (.aload_n 0, 1) := by decide +kernel
theorem dX1_splits_70 : decode cX1_splits 70 = .ok (.getfield 12, 3) := by decide +kernel
theorem dX1_splits_73 : decode cX1_splits 73 = .ok (.getfield 155, 3) := by decide +kernel
theorem dX1_splits_76 : decode cX1_splits 76 = .ok (.iload_n 1, 1) := by decide +kernel
theorem dX1_splits_77 : decode cX1_splits 77 = .ok (.iaload, 1) := by decide +kernel
theorem dX1_splits_78 : decode cX1_splits 78 = .ok (.putfield 158, 3) := by decide +kernel
theorem dX1_splits_81 : decode cX1_splits 81 = .ok (.aload_n 0, 1) := by decide +kernel
theorem dX1_splits_82 : decode cX1_splits 82 = .ok (.getfield 33, 3) := by decide +kernel
theorem dX1_splits_85 : decode cX1_splits 85 = .ok (.aload_n 0, 1) := by decide +kernel
theorem dX1_splits_86 : decode cX1_splits 86 = .ok (.getfield 47, 3) := by decide +kernel
theorem dX1_splits_89 : decode cX1_splits 89 = .ok (.getfield 161, 3) := by decide +kernel
theorem dX1_splits_92 : decode cX1_splits 92 = .ok (.aload_n 0, 1) := by decide +kernel
theorem dX1_splits_93 : decode cX1_splits 93 = .ok (.getfield 47, 3) := by decide +kernel
theorem dX1_splits_96 : decode cX1_splits 96 = .ok (.getfield 144, 3) := by decide +kernel
theorem dX1_splits_99 : decode cX1_splits 99 = .ok (.iconst 1, 1) := by decide +kernel
theorem dX1_splits_100 : decode cX1_splits 100 = .ok (.iaload, 1) := by decide +kernel
theorem dX1_splits_101 : decode cX1_splits 101 = .ok (.aload_n 0, 1) := by decide +kernel
theorem dX1_splits_102 : decode cX1_splits 102 = .ok (.getfield 47, 3) := by decide +kernel
theorem dX1_splits_105 : decode cX1_splits 105 = .ok (.getfield 165, 3) := by decide +kernel
theorem dX1_splits_108 : decode cX1_splits 108 = .ok (.iconst 1, 1) := by decide +kernel
theorem dX1_splits_109 : decode cX1_splits 109 = .ok (.iaload, 1) := by decide +kernel
theorem dX1_splits_110 : decode cX1_splits 110 = .ok (.invokevirtual 168, 3) := by decide +kernel
theorem dX1_splits_113 : decode cX1_splits 113 = .ok (.ifCond .eq 7, 3) := by decide +kernel
theorem dX1_splits_116 : decode cX1_splits 116 = .ok (.iconst 1, 1) := by decide +kernel
theorem dX1_splits_117 : decode cX1_splits 117 = .ok (.goto 4, 3) := by decide +kernel
theorem dX1_splits_120 : decode cX1_splits 120 = .ok (.iconst 0, 1) := by decide +kernel
theorem dX1_splits_121 : decode cX1_splits 121 = .ok (.ireturn, 1) := by decide +kernel
theorem dX1_take_0 : decode cX1_take 0 = .ok (.iconst (-1), 1) := by decide +kernel
theorem dX1_take_1 : decode cX1_take 1 = .ok (.istore_n 3, 1) := by decide +kernel
theorem dX1_take_2 : decode cX1_take 2 = .ok (.iconst 0, 1) := by decide +kernel
theorem dX1_take_3 : decode cX1_take 3 = .ok (.istore 4, 2) := by decide +kernel
theorem dX1_take_5 : decode cX1_take 5 = .ok (.aload_n 0, 1) := by decide +kernel
theorem dX1_take_6 : decode cX1_take 6 = .ok (.getfield 47, 3) := by decide +kernel
theorem dX1_take_9 : decode cX1_take 9 = .ok (.getfield 144, 3) := by decide +kernel
theorem dX1_take_12 : decode cX1_take 12 = .ok (.iconst 0, 1) := by decide +kernel
theorem dX1_take_13 : decode cX1_take 13 = .ok (.iaload, 1) := by decide +kernel
theorem dX1_take_14 : decode cX1_take 14 = .ok (.iconst (-1), 1) := by decide +kernel
theorem dX1_take_15 : decode cX1_take 15 = .ok (.if_icmp .eq 7, 3) := by decide +kernel
theorem dX1_take_18 : decode cX1_take 18 = .ok (.iconst 1, 1) := by decide +kernel
theorem dX1_take_19 : decode cX1_take 19 = .ok (.goto 4, 3) := by decide +kernel
theorem dX1_take_22 : decode cX1_take 22 = .ok (.iconst 0, 1) := by decide +kernel
theorem dX1_take_23 : decode cX1_take 23 = .ok (.istore 5, 2) := by decide +kernel
theorem dX1_take_25 : decode cX1_take 25 = .ok (.aload_n 0, 1) := by decide +kernel
theorem dX1_take_26 : decode cX1_take 26 = .ok (.getfield 33, 3) := by decide +kernel
theorem dX1_take_29 : decode cX1_take 29 = .ok (.iload_n 1, 1) := by decide +kernel
theorem dX1_take_30 : decode cX1_take 30 = .ok (.putfield 153, 3) := by decide +kernel
theorem dX1_take_33 : decode cX1_take 33 = .ok (.aload_n 0, 1) := by decide +kernel
theorem dX1_take_34 : decode cX1_take 34 = .ok (.getfield 33, 3) := by decide +kernel
theorem dX1_take_37 : decode cX1_take 37 = .ok (.iload_n 2, 1) := by decide +kernel
theorem dX1_take_38 : decode cX1_take 38 = .ok (.putfield 201, 3) := by decide +kernel
theorem dX1_take_41 : decode cX1_take 41 = .ok (.iconst 0, 1) := by decide +kernel
theorem dX1_take_42 : decode cX1_take 42 = .ok (.istore 6, 2) := by decide +kernel
theorem dX1_take_44 : decode cX1_take 44 = .ok (.iload 6, 2) := by decide +kernel
theorem dX1_take_46 : decode cX1_take 46 = .ok (.aload_n 0, 1) := by decide +kernel
theorem dX1_take_47 : decode cX1_take 47 = .ok (.getfield 12, 3) := by decide +kernel
theorem dX1_take_50 : decode cX1_take 50 = .ok (.getfield 117, 3) := by decide +kernel
theorem dX1_take_53 : decode cX1_take 53 = .ok (.if_icmp .ge 93, 3) := by decide +kernel
theorem dX1_take_56 : decode cX1_take 56 = .ok (.aload_n 0, 1) := by decide +kernel
theorem dX1_take_57 : decode cX1_take 57 = .ok (.getfield 12, 3) := by decide +kernel
theorem dX1_take_60 : decode cX1_take 60 = .ok (.iload 6, 2) := by decide +kernel
theorem dX1_take_62 : decode cX1_take 62 = .ok (.invokevirtual 204, 3) := by decide +kernel
theorem dX1_take_65 : decode cX1_take 65 = .ok (.ifCond .eq 75, 3) := by decide +kernel
theorem dX1_take_68 : decode cX1_take 68 = .ok (.aload_n 0, 1) := by decide +kernel
theorem dX1_take_69 : decode cX1_take 69 = .ok (.getfield 33, 3) := by decide +kernel
theorem dX1_take_72 : decode cX1_take 72 = .ok (.iload 6, 2) := by decide +kernel
theorem dX1_take_74 : decode cX1_take 74 = .ok (.putfield 147, 3) := by decide +kernel
theorem dX1_take_77 : decode cX1_take 77 = .ok (.iload 5, 2) := by decide +kernel
theorem dX1_take_79 : decode cX1_take 79 = .ok (.ifCond .eq 38, 3) := by decide +kernel
theorem dX1_take_82 : decode cX1_take 82 = .ok (.aload_n 0, 1) := by decide +kernel
theorem dX1_take_83 : decode cX1_take 83 = .ok (.getfield 33, 3) := by decide +kernel
theorem dX1_take_86 : decode cX1_take 86 = .ok (.aload_n 0, 1) := by decide +kernel
theorem dX1_take_87 : decode cX1_take 87 = .ok (.getfield 47, 3) := by decide +kernel
theorem dX1_take_90 : decode cX1_take 90 = .ok (.getfield 161, 3) := by decide +kernel
theorem dX1_take_93 : decode cX1_take 93 = .ok (.aload_n 0, 1) := by decide +kernel
theorem dX1_take_94 : decode cX1_take 94 = .ok (.getfield 47, 3) := by decide +kernel
theorem dX1_take_97 : decode cX1_take 97 = .ok (.getfield 144, 3) := by decide +kernel
theorem dX1_take_100 : decode cX1_take 100 = .ok (.iconst 0, 1) := by decide +kernel
theorem dX1_take_101 : decode cX1_take 101 = .ok (.iaload, 1) := by decide +kernel
theorem dX1_take_102 : decode cX1_take 102 = .ok (.aload_n 0, 1) := by decide +kernel
theorem dX1_take_103 : decode cX1_take 103 = .ok (.getfield 47, 3) := by decide +kernel
theorem dX1_take_106 : decode cX1_take 106 = .ok (.getfield 165, 3) := by decide +kernel
theorem dX1_take_109 : decode cX1_take 109 = .ok (.iconst 0, 1) := by decide +kernel
theorem dX1_take_110 : decode cX1_take 110 = .ok (.iaload, 1) := by decide +kernel
theorem dX1_take_111 : decode cX1_take 111 = .ok (.invokevirtual 168, 3) := by decide +kernel
theorem dX1_take_114 : decode cX1_take 114 = .ok (.goto 5, 3) := by decide +kernel
theorem dX1_take_117 : decode cX1_take 117 = .ok (.iload 6, 2) := by decide +kernel
theorem dX1_take_119 : decode cX1_take 119 = .ok (.istore 7, 2) := by decide +kernel
theorem dX1_take_121 : decode cX1_take 121 = .ok (.iload_n 3, 1) := by decide +kernel
theorem dX1_take_122 : decode cX1_take 122 = .ok (.iconst (-1), 1) := by decide +kernel
theorem dX1_take_123 : decode cX1_take 123 = .ok (.if_icmp .eq 10, 3) := by decide +kernel
theorem dX1_take_126 : decode cX1_take 126 = .ok (.iload 7, 2) := by decide +kernel
theorem dX1_take_128 : decode cX1_take 128 = .ok (.iload 4, 2) := by decide +kernel
theorem dX1_take_130 : decode cX1_take 130 = .ok (.if_icmp .ge 10, 3) := by decide +kernel
theorem dX1_take_133 : decode cX1_take 133 = .ok (.iload 6, 2) := by decide +kernel
theorem dX1_take_135 : decode cX1_take 135 = .ok (.istore_n 3, 1) := by decide +kernel
theorem dX1_take_136 : decode cX1_take 136 = .ok (.iload 7, 2) := by decide +kernel
theorem dX1_take_138 : decode cX1_take 138 = .ok (.istore 4, 2) := by decide +kernel
theorem dX1_take_140 : decode cX1_take 140 = .ok (.iinc 6 1, 3) := by decide +kernel
theorem dX1_take_143 : decode cX1_take 143 = .ok (.goto (-99), 3) := by decide +kernel
theorem dX1_take_146 : decode cX1_take 146 = .ok (.iload_n 3, 1) := by decide +kernel
theorem dX1_take_147 : decode cX1_take 147 = .ok (.iconst (-1), 1) := by decide +kernel
theorem dX1_take_148 : decode cX1_take 148 = .ok (.if_icmp .eq 41, 3) := by decide +kernel
theorem dX1_take_151 : decode cX1_take 151 = .ok (.aload_n 0, 1) := by decide +kernel
theorem dX1_take_152 : decode cX1_take 152 = .ok (.getfield 12, 3) := by decide +kernel
theorem dX1_take_155 : decode cX1_take 155 = .ok (.getfield 181, 3) := by decide +kernel
theorem dX1_take_158 : decode cX1_take 158 = .ok (.iload_n 3, 1) := by decide +kernel
theorem dX1_take_159 : decode cX1_take 159 = .ok (.iconst 1, 1) := by decide +kernel
theorem dX1_take_160 : decode cX1_take 160 = .ok (.iastore, 1) := by decide +kernel
theorem dX1_take_161 : decode cX1_take 161 = .ok (.aload_n 0, 1) := by decide +kernel
theorem dX1_take_162 : decode cX1_take 162 = .ok (.getfield 12, 3) := by decide +kernel
theorem dX1_take_165 : decode cX1_take 165 = .ok (.getfield 150, 3) := by decide +kernel
theorem dX1_take_168 : decode cX1_take 168 = .ok (.iload_n 3, 1) := by decide +kernel
theorem dX1_take_169 : decode cX1_take 169 = .ok (.iload_n 1, 1) := by decide +kernel
theorem dX1_take_170 : decode cX1_take 170 = .ok (.iastore, 1) := by decide +kernel
theorem dX1_take_171 : decode cX1_take 171 = .ok (.aload_n 0, 1) := by decide +kernel
theorem dX1_take_172 : decode cX1_take 172 = .ok (.getfield 12, 3) := by decide +kernel
theorem dX1_take_175 : decode cX1_take 175 = .ok (.getfield 155, 3) := by decide +kernel
theorem dX1_take_178 : decode cX1_take 178 = .ok (.iload_n 3, 1) := by decide +kernel
theorem dX1_take_179 : decode cX1_take 179 = .ok (.iconst 0, 1) := by decide +kernel
theorem dX1_take_180 : decode cX1_take 180 = .ok (.iastore, 1) := by decide +kernel
theorem dX1_take_181 : decode cX1_take 181 = .ok (.aload_n 0, 1) := by decide +kernel
theorem dX1_take_182 : decode cX1_take 182 = .ok (.getfield 12, 3) := by decide +kernel
theorem dX1_take_185 : decode cX1_take 185 = .ok (.iload_n 3, 1) := by decide +kernel
theorem dX1_take_186 : decode cX1_take 186 = .ok (.invokevirtual 207, 3) := by decide +kernel
theorem dX1_take_189 : decode cX1_take 189 = .ok (.iload_n 3, 1) := by decide +kernel
theorem dX1_take_190 : decode cX1_take 190 = .ok (.ireturn, 1) := by decide +kernel
set_option maxHeartbeats 4000000 in
set_option maxRecDepth 100000 in
theorem k_x1_take (l : Launch) (D : va_G) (a : Nat → Nat) (p0 : Int) (p1 : Int) (sz : Nat) (s : MS) (o : (Int × MS)) (h : m_x1_take p0 p1 s = some o) : yWi l yX1_take cX1_take 8 (some .int) { frames := 2, cells := 0, slots := 0, locals := 120 } D sz [.ref (a 49), .int (i2 p0), .int (i2 p1)] (CS D a s) (CS D a o.2) (i2 o.1) := by
  refine Met.ofW (cc := cX1_take) (maxL := 8) (ret := (some .int)) (by decide) rfl ?_
  intro p e s₀ m args below meth c s₁ B hml hv
  obtain ⟨rfl, ⟨hsz, hP, hK, hD0⟩, hN⟩ := hv
  have hx := B.exec
  have hb := B.bytes
  have hr := B.returns
  have hts := atoms_spec (ws := wz yX1_take cX1_take 8 (some .int)) B.pre
  have ht : ∀ w ∈ lw_gd, w.before _ s₀ = true := fun w h => hts w (List.mem_cons_of_mem _ h)
  have hown : s₀.vm.findClass RX1 = some m.cls := findClass_of_methodNamed B.named
  have hlocks := B.notSynchronized
  subst hsz
  have hD := hD0.self (sz := s₀.heap.size)
  generalize hAe : va_A (CS D a s) s₀.heap.size = A at hD ⊢
  have hA : ∀ q : Nat, s₀.heap.size ≤ q → A q := fun q h => by rw [← hAe]; exact Or.inr h
  have hS : va_S A s₀.heap s₀.heap [] := va_S.rf
  have hDD : ∀ t : MS, va_D A (CS D a t) := fun t => CW_D t hD
  have hl := lv_entry ([.ref (a 49), .int (i2 p0), .int (i2 p1)]) (n := 8) (Nat.le_of_ble_eq_true rfl)
  rw [lg_entry_eq]
  generalize (lg_sl ([.ref (a 49), .int (i2 p0), .int (i2 p1)]) ++ List.replicate (8 - (lg_sl ([.ref (a 49), .int (i2 p0), .int (i2 p1)])).length) Slot.unset).toArray = ls at hl ⊢
  have hl : lv_has ls 8 [(0, .ref (a 49)), (1, .int (i2 p0)), (2, .int (i2 p1))] := hl
  unfold m_x1_take at h
  refine y_head (pcJ := 189) (σ := Int × MS) (fun u H locs ls => va_P D vwCl (CS D a u.2) H ∧ va_S A s₀.heap H locs ∧ lv_has ls 8 [(3, .int (i2 u.1))] ∧ m_x1_take_J189 u.1 u.2 = some o) (fun u => []) (fun u H locs ls hI => ?_) (fun J189 => ?_)
  · obtain ⟨hP, hS, hl, h⟩ := hI
    obtain ⟨x1, s2⟩ := u
    have hP : va_P D vwCl (CS D a s2) H := hP
    have hl : lv_has ls 8 [(3, .int (i2 x1))] := hl
    have h : m_x1_take_J189 x1 s2 = some o := h
    unfold m_x1_take_J189 at h
    refine lv_iload_n hx hb dX1_take_189 rfl (lv_at hl 0 rfl) ?_
    obtain rfl := Option.some.inj h
    exact W.iret (v := (i2 x1)) hx hb hr (fun t ht hW => ⟨⟨_, (), rfl, rfl, by rw [ht]; exact hP, va_K.moved hW.alike hK, hDD _⟩, hS.F ht⟩) hS.2.2 dX1_take_190
  refine y_loop (pcJ := 44) (σ := Int × Int × Int × Int × Int × MS) (fun n u H locs ls => va_P D vwCl (CS D a u.2.2.2.2.2) H ∧ va_S A s₀.heap H locs ∧ lv_has ls 8 [(0, .ref (a 49)), (1, .int (i2 u.1)), (3, .int (i2 u.2.1)), (4, .int (i2 u.2.2.1)), (5, .int (i2 u.2.2.2.1)), (6, .int (i2 u.2.2.2.2.1))] ∧ m_x1_take_L44 n u.1 u.2.1 u.2.2.1 u.2.2.2.1 u.2.2.2.2.1 u.2.2.2.2.2 = some o) (fun u => []) (fun u H locs ls hI => by obtain ⟨_, _, _, h⟩ := hI; cases h) (fun n44 ih44 u H locs ls hI => ?_) (fun J44 => ?_)
  · obtain ⟨hP, hS, hl, h⟩ := hI
    obtain ⟨x3, x4, x5, x6, x7, s8⟩ := u
    have hP : va_P D vwCl (CS D a s8) H := hP
    have hl : lv_has ls 8 [(0, .ref (a 49)), (1, .int (i2 x3)), (3, .int (i2 x4)), (4, .int (i2 x5)), (5, .int (i2 x6)), (6, .int (i2 x7))] := hl
    have h : m_x1_take_b44 (m_x1_take_L44 n44) x3 x4 x5 x6 x7 s8 = some o := h
    unfold m_x1_take_b44 at h
    refine y_head (pcJ := 140) (σ := Int × Int × Int × Int × Int × MS) (fun u H locs ls => va_P D vwCl (CS D a u.2.2.2.2.2) H ∧ va_S A s₀.heap H locs ∧ lv_has ls 8 [(0, .ref (a 49)), (1, .int (i2 u.1)), (3, .int (i2 u.2.1)), (4, .int (i2 u.2.2.1)), (5, .int (i2 u.2.2.2.1)), (6, .int (i2 u.2.2.2.2.1))] ∧ m_x1_take_J140 (m_x1_take_L44 n44) u.1 u.2.1 u.2.2.1 u.2.2.2.1 u.2.2.2.2.1 u.2.2.2.2.2 = some o) (fun u => []) (fun u H locs ls hI => ?_) (fun J140 => ?_)
    · obtain ⟨hP, hS, hl, h⟩ := hI
      obtain ⟨x9, x10, x11, x12, x13, s14⟩ := u
      have hP : va_P D vwCl (CS D a s14) H := hP
      have hl : lv_has ls 8 [(0, .ref (a 49)), (1, .int (i2 x9)), (3, .int (i2 x10)), (4, .int (i2 x11)), (5, .int (i2 x12)), (6, .int (i2 x13))] := hl
      have h : m_x1_take_J140 (m_x1_take_L44 n44) x9 x10 x11 x12 x13 s14 = some o := h
      unfold m_x1_take_J140 at h
      refine lv_iinc (v := i2 (x13 + 1)) (lv' := [(6, .int (i2 (x13 + 1))), (0, .ref (a 49)), (1, .int (i2 x9)), (3, .int (i2 x10)), (4, .int (i2 x11)), (5, .int (i2 x12))]) hx hb dX1_take_140 hl (k := 5) rfl (i2_add x13 1) (by decide) rfl (fun ls hl => ?_)
      refine lv_goto (tgt := 44) hx hb dX1_take_143 (by decide) ?_
      exact ih44 (x9, x10, x11, x12, x13 + 1, s14) _ _ _ ⟨hP, hS, lv_sub hl [1, 2, 3, 4, 5, 0] rfl, h⟩
    refine y_head (pcJ := 133) (σ := Int × Int × Int × Int × MS) (fun u H locs ls => va_P D vwCl (CS D a u.2.2.2.2) H ∧ va_S A s₀.heap H locs ∧ lv_has ls 8 [(0, .ref (a 49)), (1, .int (i2 u.1)), (5, .int (i2 u.2.1)), (6, .int (i2 u.2.2.1)), (7, .int (i2 u.2.2.2.1))] ∧ m_x1_take_J133 (m_x1_take_L44 n44) u.1 u.2.1 u.2.2.1 u.2.2.2.1 u.2.2.2.2 = some o) (fun u => []) (fun u H locs ls hI => ?_) (fun J133 => ?_)
    · obtain ⟨hP, hS, hl, h⟩ := hI
      obtain ⟨x15, x16, x17, x18, s19⟩ := u
      have hP : va_P D vwCl (CS D a s19) H := hP
      have hl : lv_has ls 8 [(0, .ref (a 49)), (1, .int (i2 x15)), (5, .int (i2 x16)), (6, .int (i2 x17)), (7, .int (i2 x18))] := hl
      have h : m_x1_take_J133 (m_x1_take_L44 n44) x15 x16 x17 x18 s19 = some o := h
      unfold m_x1_take_J133 at h
      refine lv_iload hx hb dX1_take_133 (lv_at hl 3 rfl) ?_
      refine lv_istore_n (lv' := [(3, .int (i2 x17)), (0, .ref (a 49)), (1, .int (i2 x15)), (5, .int (i2 x16)), (6, .int (i2 x17)), (7, .int (i2 x18))]) hx hb dX1_take_135 rfl hl (by decide) rfl (fun ls hl => ?_)
      refine lv_iload hx hb dX1_take_136 (lv_at hl 5 rfl) ?_
      refine lv_istore (lv' := [(4, .int (i2 x18)), (3, .int (i2 x17)), (0, .ref (a 49)), (1, .int (i2 x15)), (5, .int (i2 x16)), (6, .int (i2 x17)), (7, .int (i2 x18))]) hx hb dX1_take_138 hl (by decide) rfl (fun ls hl => ?_)
      exact J140 (x15, x17, x18, x16, x17, s19) _ _ _ ⟨hP, hS, lv_sub hl [2, 3, 1, 0, 4, 5] rfl, h⟩
    refine y_head (pcJ := 119) (σ := Int × Int × Int × Int × Int × Int × MS) (fun u H locs ls => va_P D vwCl (CS D a u.2.2.2.2.2.2) H ∧ va_S A s₀.heap H locs ∧ lv_has ls 8 [(0, .ref (a 49)), (1, .int (i2 u.1)), (3, .int (i2 u.2.1)), (4, .int (i2 u.2.2.1)), (5, .int (i2 u.2.2.2.1)), (6, .int (i2 u.2.2.2.2.1))] ∧ m_x1_take_J119 (m_x1_take_L44 n44) u.1 u.2.1 u.2.2.1 u.2.2.2.1 u.2.2.2.2.1 u.2.2.2.2.2.1 u.2.2.2.2.2.2 = some o) (fun u => [.int (i2 u.2.2.2.2.2.1)]) (fun u H locs ls hI => ?_) (fun J119 => ?_)
    · obtain ⟨hP, hS, hl, h⟩ := hI
      obtain ⟨x20, x21, x22, x23, x24, x25, s26⟩ := u
      have hP : va_P D vwCl (CS D a s26) H := hP
      have hl : lv_has ls 8 [(0, .ref (a 49)), (1, .int (i2 x20)), (3, .int (i2 x21)), (4, .int (i2 x22)), (5, .int (i2 x23)), (6, .int (i2 x24))] := hl
      have h : m_x1_take_J119 (m_x1_take_L44 n44) x20 x21 x22 x23 x24 x25 s26 = some o := h
      unfold m_x1_take_J119 at h
      refine lv_istore (lv' := [(7, .int (i2 x25)), (0, .ref (a 49)), (1, .int (i2 x20)), (3, .int (i2 x21)), (4, .int (i2 x22)), (5, .int (i2 x23)), (6, .int (i2 x24))]) hx hb dX1_take_119 hl (by decide) rfl (fun ls hl => ?_)
      refine lv_iload_n hx hb dX1_take_121 rfl (lv_at hl 3 rfl) ?_
      refine lv_iconst (v := (-1)) hx hb dX1_take_122 (by decide) ?_
      obtain ⟨hr27, h⟩ := rg_e h
      refine lv_icmp_eq (tgt := 133) hx hb dX1_take_123 (by decide) (fun c28 => ?_) (fun c28 => ?_)
      · rw [show ((-1) : Int32) = i2 (-1) from by decide] at c28
        have h := if_t ((i2_eq (x := x21) (y := (-1)) hr27 (by decide)).mp c28) h
        exact J133 (x20, x23, x24, x25, s26) _ _ _ ⟨hP, hS, lv_sub hl [1, 2, 5, 6, 0] rfl, h⟩
      · rw [show ((-1) : Int32) = i2 (-1) from by decide] at c28
        have h := if_f (mt (i2_eq (x := x21) (y := (-1)) hr27 (by decide)).mpr c28) h
        refine lv_iload hx hb dX1_take_126 (lv_at hl 0 rfl) ?_
        refine lv_iload hx hb dX1_take_128 (lv_at hl 4 rfl) ?_
        obtain ⟨hr29, h⟩ := rg_e h
        obtain ⟨hr30, h⟩ := rg_e h
        refine lv_icmp_ge (tgt := 140) hx hb dX1_take_130 (by decide) (fun c31 => ?_) (fun c31 => ?_)
        · have h := if_t ((i2_le (x := x22) (y := x25) hr30 hr29).mp c31) h
          exact J140 (x20, x21, x22, x23, x24, s26) _ _ _ ⟨hP, hS, lv_sub hl [1, 2, 3, 4, 5, 6] rfl, h⟩
        · have h := if_f (mt (i2_le (x := x22) (y := x25) hr30 hr29).mpr c31) h
          exact J133 (x20, x23, x24, x25, s26) _ _ _ ⟨hP, hS, lv_sub hl [1, 2, 5, 6, 0] rfl, h⟩
    refine lv_iload hx hb dX1_take_44 (lv_at hl 5 rfl) ?_
    refine lv_aload_n hx hb dX1_take_46 rfl (lv_at hl 0 rfl) ?_
    refine va_get (D := D) (ci := 1) (v := .ref (a 53)) (C := RX1) (T := TX1) (N := 9) hx hb ht inX1 hown hK hP 49 CW_49 rfl 0 (by decide) (ht (.fieldLink RX1 12 "CloneVolumes$Forest" "now" "LCloneVolumes$State;") fl_X1_12) (fun _ h9 => h9) rfl dX1_take_47 ?_
    refine va_get (D := D) (ci := 8) (v := .int (i2 (gI s8 1060))) (C := RX8) (T := TX8) (N := 11) hx hb ht inX8 hown hK hP 53 CW_53 rfl 0 (by decide) (ht (.fieldLink RX1 117 "CloneVolumes$State" "blocks" "I") fl_X1_117) (fun _ h9 => h9) rfl dX1_take_50 ?_
    obtain ⟨hr32, h⟩ := rg_e h
    obtain ⟨hr33, h⟩ := rg_e h
    refine lv_icmp_ge (tgt := 146) hx hb dX1_take_53 (by decide) (fun c34 => ?_) (fun c34 => ?_)
    · have h := if_t ((i2_le (x := (gI s8 1060)) (y := x7) hr33 hr32).mp c34) h
      refine lv_iload_n hx hb dX1_take_146 rfl (lv_at hl 2 rfl) ?_
      refine lv_iconst (v := (-1)) hx hb dX1_take_147 (by decide) ?_
      obtain ⟨hr35, h⟩ := rg_e h
      refine lv_icmp_eq (tgt := 189) hx hb dX1_take_148 (by decide) (fun c36 => ?_) (fun c36 => ?_)
      · rw [show ((-1) : Int32) = i2 (-1) from by decide] at c36
        have h := if_t ((i2_eq (x := x4) (y := (-1)) hr35 (by decide)).mp c36) h
        exact J189 (x4, s8) _ _ _ ⟨hP, hS, lv_sub hl [2] rfl, h⟩
      · rw [show ((-1) : Int32) = i2 (-1) from by decide] at c36
        have h := if_f (mt (i2_eq (x := x4) (y := (-1)) hr35 (by decide)).mpr c36) h
        refine lv_aload_n hx hb dX1_take_151 rfl (lv_at hl 0 rfl) ?_
        refine va_get (D := D) (ci := 1) (v := .ref (a 53)) (C := RX1) (T := TX1) (N := 9) hx hb ht inX1 hown hK hP 49 CW_49 rfl 0 (by decide) (ht (.fieldLink RX1 12 "CloneVolumes$Forest" "now" "LCloneVolumes$State;") fl_X1_12) (fun _ h9 => h9) rfl dX1_take_152 ?_
        refine va_get (D := D) (ci := 8) (v := .ref (a 54)) (C := RX8) (T := TX8) (N := 11) hx hb ht inX8 hown hK hP 53 CW_53 rfl 3 (by decide) (ht (.fieldLink RX1 181 "CloneVolumes$State" "count" "[I") fl_X1_181) (fun _ h9 => h9) rfl dX1_take_155 ?_
        refine lv_iload_n hx hb dX1_take_158 rfl (lv_at hl 2 rfl) ?_
        refine lv_iconst (v := 1) hx hb dX1_take_159 (by decide) ?_
        obtain ⟨hi37, h⟩ := inb_e h
        refine ya_iast (i := x4) (x := 1) hx hb hK hP (hDD _) hS 54 0 CW_54 rfl (by decide) hi37 dX1_take_160 (CW_w54 _) (fun H locs hP hS => ?_)
        obtain ⟨s38, hs38, h⟩ := st_e h
        rw [hs38] at hP
        refine lv_aload_n hx hb dX1_take_161 rfl (lv_at hl 0 rfl) ?_
        refine va_get (D := D) (ci := 1) (v := .ref (a 53)) (C := RX1) (T := TX1) (N := 9) hx hb ht inX1 hown hK hP 49 CW_49 rfl 0 (by decide) (ht (.fieldLink RX1 12 "CloneVolumes$Forest" "now" "LCloneVolumes$State;") fl_X1_12) (fun _ h9 => h9) rfl dX1_take_162 ?_
        refine va_get (D := D) (ci := 8) (v := .ref (a 56)) (C := RX8) (T := TX8) (N := 11) hx hb ht inX8 hown hK hP 53 CW_53 rfl 5 (by decide) (ht (.fieldLink RX1 150 "CloneVolumes$State" "level" "[I") fl_X1_150) (fun _ h9 => h9) rfl dX1_take_165 ?_
        refine lv_iload_n hx hb dX1_take_168 rfl (lv_at hl 2 rfl) ?_
        refine lv_iload_n hx hb dX1_take_169 rfl (lv_at hl 1 rfl) ?_
        obtain ⟨hi39, h⟩ := inb_e h
        refine ya_iast (i := x4) (x := x3) hx hb hK hP (hDD _) hS 56 0 CW_56 rfl (by decide) hi39 dX1_take_170 (CW_w56 _) (fun H locs hP hS => ?_)
        obtain ⟨s40, hs40, h⟩ := st_e h
        rw [hs40] at hP
        refine lv_aload_n hx hb dX1_take_171 rfl (lv_at hl 0 rfl) ?_
        refine va_get (D := D) (ci := 1) (v := .ref (a 53)) (C := RX1) (T := TX1) (N := 9) hx hb ht inX1 hown hK hP 49 CW_49 rfl 0 (by decide) (ht (.fieldLink RX1 12 "CloneVolumes$Forest" "now" "LCloneVolumes$State;") fl_X1_12) (fun _ h9 => h9) rfl dX1_take_172 ?_
        refine va_get (D := D) (ci := 8) (v := .ref (a 57)) (C := RX8) (T := TX8) (N := 11) hx hb ht inX8 hown hK hP 53 CW_53 rfl 6 (by decide) (ht (.fieldLink RX1 155 "CloneVolumes$State" "size" "[I") fl_X1_155) (fun _ h9 => h9) rfl dX1_take_175 ?_
        refine lv_iload_n hx hb dX1_take_178 rfl (lv_at hl 2 rfl) ?_
        refine lv_iconst (v := 0) hx hb dX1_take_179 (by decide) ?_
        obtain ⟨hi41, h⟩ := inb_e h
        refine ya_iast (i := x4) (x := 0) hx hb hK hP (hDD _) hS 57 0 CW_57 rfl (by decide) hi41 dX1_take_180 (CW_w57 _) (fun H locs hP hS => ?_)
        obtain ⟨s42, hs42, h⟩ := st_e h
        rw [hs42] at hP
        refine lv_aload_n hx hb dX1_take_181 rfl (lv_at hl 0 rfl) ?_
        refine va_get (D := D) (ci := 1) (v := .ref (a 53)) (C := RX1) (T := TX1) (N := 9) hx hb ht inX1 hown hK hP 49 CW_49 rfl 0 (by decide) (ht (.fieldLink RX1 12 "CloneVolumes$Forest" "now" "LCloneVolumes$State;") fl_X1_12) (fun _ h9 => h9) rfl dX1_take_182 ?_
        refine lv_iload_n hx hb dX1_take_185 rfl (lv_at hl 2 rfl) ?_
        obtain ⟨s44, hc43, h⟩ := bn_e h
        refine ywVv (As := [.int (i2 x4)]) (rest := []) (C := RX8) (n := 1) (ws' := CS D a s44) ⟨hx, hb, hml, hown, ht⟩ (k_x8_mark l D a x4 _ _ _ hc43) (zgV ml_X1_207 im_X8_mark se_X8_mark in_X8 co_X8_mark) rfl rfl (by decide +kernel) ⟨Nat.le_of_ble_eq_true rfl, Nat.le_of_ble_eq_true rfl⟩ hN hK hP (hDD _) hS hA 53 CW_53 rfl rfl rfl hl.1 rfl (Nat.le_of_ble_eq_true rfl) dX1_take_186 ⟨Nat.le_of_ble_eq_true rfl, Nat.le_of_ble_eq_true rfl⟩ (fun H locs hP hS => ?_)
        exact J189 (x4, s44) _ _ _ ⟨hP, hS, lv_sub hl [2] rfl, h⟩
    · have h := if_f (mt (i2_le (x := (gI s8 1060)) (y := x7) hr33 hr32).mpr c34) h
      refine lv_aload_n hx hb dX1_take_56 rfl (lv_at hl 0 rfl) ?_
      refine va_get (D := D) (ci := 1) (v := .ref (a 53)) (C := RX1) (T := TX1) (N := 9) hx hb ht inX1 hown hK hP 49 CW_49 rfl 0 (by decide) (ht (.fieldLink RX1 12 "CloneVolumes$Forest" "now" "LCloneVolumes$State;") fl_X1_12) (fun _ h9 => h9) rfl dX1_take_57 ?_
      refine lv_iload hx hb dX1_take_60 (lv_at hl 5 rfl) ?_
      obtain ⟨r46, hc45, h⟩ := bn_e h
      refine ycV (r0 := i2 r46) (As := [.int (i2 x7)]) (rest := []) (C := RX8) (n := 1) ⟨hx, hb, hml, hown, ht⟩ (k_x8_isFree l D a x7 _ _ hc45) (zgV ml_X1_204 im_X8_isFree se_X8_isFree in_X8 co_X8_isFree) rfl rfl (by decide +kernel) ⟨Nat.le_of_ble_eq_true rfl, Nat.le_of_ble_eq_true rfl⟩ hN hK hP hS 53 CW_53 rfl rfl rfl hl.1 rfl (Nat.le_of_ble_eq_true rfl) dX1_take_62 ⟨Nat.le_of_ble_eq_true rfl, Nat.le_of_ble_eq_true rfl⟩ (fun H locs hP hS => ?_)
      obtain ⟨hr47, h⟩ := rg_e h
      refine lv_if_eq (tgt := 140) hx hb dX1_take_65 (by decide) (fun c48 => ?_) (fun c48 => ?_)
      · have h := if_t ((i2_eq (x := r46) (y := 0) hr47 (by decide)).mp c48) h
        exact J140 (x3, x4, x5, x6, x7, s8) _ _ _ ⟨hP, hS, lv_sub hl [0, 1, 2, 3, 4, 5] rfl, h⟩
      · have h := if_f (mt (i2_eq (x := r46) (y := 0) hr47 (by decide)).mpr c48) h
        refine lv_aload_n hx hb dX1_take_68 rfl (lv_at hl 0 rfl) ?_
        refine va_get (D := D) (ci := 1) (v := .ref (a 80)) (C := RX1) (T := TX1) (N := 9) hx hb ht inX1 hown hK hP 49 CW_49 rfl 5 (by decide) (ht (.fieldLink RX1 33 "CloneVolumes$Forest" "machine" "LCloneVolumes$Machine;") fl_X1_33) (fun _ h9 => h9) rfl dX1_take_69 ?_
        refine lv_iload hx hb dX1_take_72 (lv_at hl 5 rfl) ?_
        refine ya_put (D := D) (ci := 3) (v := .int (i2 x7)) (ty := .int) (C := RX3) (T := TX3) (N := 10) hx hb ht inX3 tyX3 tyX3_ok nmX3 hown hK hP (hDD _) hS 80 CW_80 rfl 2 (by decide) (ht (.fieldLink RX1 147 "CloneVolumes$Machine" "number" "I") fl_X1_147) (fun _ h9 => h9) rfl (by decide +kernel) rfl rfl (Nat.le_of_ble_eq_true rfl) dX1_take_74 (CW_w80_2 x7) (fun H locs hP hS => ?_)
        obtain ⟨s49, hs49, h⟩ := st_e h
        rw [hs49] at hP
        refine lv_iload hx hb dX1_take_77 (lv_at hl 4 rfl) ?_
        obtain ⟨hr50, h⟩ := rg_e h
        refine lv_if_eq (tgt := 117) hx hb dX1_take_79 (by decide) (fun c51 => ?_) (fun c51 => ?_)
        · have h := if_t ((i2_eq (x := x6) (y := 0) hr50 (by decide)).mp c51) h
          refine lv_iload hx hb dX1_take_117 (lv_at hl 5 rfl) ?_
          exact J119 (x3, x4, x5, x6, x7, x7, s49) _ _ _ ⟨hP, hS, lv_sub hl [0, 1, 2, 3, 4, 5] rfl, h⟩
        · have h := if_f (mt (i2_eq (x := x6) (y := 0) hr50 (by decide)).mpr c51) h
          refine lv_aload_n hx hb dX1_take_82 rfl (lv_at hl 0 rfl) ?_
          refine va_get (D := D) (ci := 1) (v := .ref (a 80)) (C := RX1) (T := TX1) (N := 9) hx hb ht inX1 hown hK hP 49 CW_49 rfl 5 (by decide) (ht (.fieldLink RX1 33 "CloneVolumes$Forest" "machine" "LCloneVolumes$Machine;") fl_X1_33) (fun _ h9 => h9) rfl dX1_take_83 ?_
          refine lv_aload_n hx hb dX1_take_86 rfl (lv_at hl 0 rfl) ?_
          refine va_get (D := D) (ci := 1) (v := .ref (a 29)) (C := RX1) (T := TX1) (N := 9) hx hb ht inX1 hown hK hP 49 CW_49 rfl 4 (by decide) (ht (.fieldLink RX1 47 "CloneVolumes$Forest" "plan" "LCloneVolumes$Plan;") fl_X1_47) (fun _ h9 => h9) rfl dX1_take_87 ?_
          refine va_get (D := D) (ci := 5) (v := .ref (a 37)) (C := RX5) (T := TX5) (N := 14) hx hb ht inX5 hown hK hP 29 CW_29 rfl 11 (by decide) (ht (.fieldLink RX1 161 "CloneVolumes$Plan" "code" "LCloneVolumes$Code;") fl_X1_161) (fun _ h9 => h9) rfl dX1_take_90 ?_
          refine lv_aload_n hx hb dX1_take_93 rfl (lv_at hl 0 rfl) ?_
          refine va_get (D := D) (ci := 1) (v := .ref (a 29)) (C := RX1) (T := TX1) (N := 9) hx hb ht inX1 hown hK hP 49 CW_49 rfl 4 (by decide) (ht (.fieldLink RX1 47 "CloneVolumes$Forest" "plan" "LCloneVolumes$Plan;") fl_X1_47) (fun _ h9 => h9) rfl dX1_take_94 ?_
          refine va_get (D := D) (ci := 5) (v := .ref (a 35)) (C := RX5) (T := TX5) (N := 14) hx hb ht inX5 hown hK hP 29 CW_29 rfl 12 (by decide) (ht (.fieldLink RX1 144 "CloneVolumes$Plan" "begins" "[I") fl_X1_144) (fun _ h9 => h9) rfl dX1_take_97 ?_
          refine lv_iconst (v := 0) hx hb dX1_take_100 (by decide) ?_
          obtain ⟨y52, ey52, iy52, h⟩ := rdI_e h
          refine ya_iald (i := 0) hx hb hK hP 35 0 CW_35 rfl (by decide) ey52 iy52 dX1_take_101 ?_
          refine lv_aload_n hx hb dX1_take_102 rfl (lv_at hl 0 rfl) ?_
          refine va_get (D := D) (ci := 1) (v := .ref (a 29)) (C := RX1) (T := TX1) (N := 9) hx hb ht inX1 hown hK hP 49 CW_49 rfl 4 (by decide) (ht (.fieldLink RX1 47 "CloneVolumes$Forest" "plan" "LCloneVolumes$Plan;") fl_X1_47) (fun _ h9 => h9) rfl dX1_take_103 ?_
          refine va_get (D := D) (ci := 5) (v := .ref (a 36)) (C := RX5) (T := TX5) (N := 14) hx hb ht inX5 hown hK hP 29 CW_29 rfl 13 (by decide) (ht (.fieldLink RX1 165 "CloneVolumes$Plan" "ends" "[I") fl_X1_165) (fun _ h9 => h9) rfl dX1_take_106 ?_
          refine lv_iconst (v := 0) hx hb dX1_take_109 (by decide) ?_
          obtain ⟨y53, ey53, iy53, h⟩ := rdI_e h
          refine ya_iald (i := 0) hx hb hK hP 36 0 CW_36 rfl (by decide) ey53 iy53 dX1_take_110 ?_
          obtain ⟨⟨r56, s55⟩, hc54, h⟩ := bn_e h
          refine ywV (r0 := i2 r56) (As := [.ref (a 37), .int (i2 y52), .int (i2 y53)]) (rest := []) (C := RX3) (n := 3) (ws' := CS D a s55) ⟨hx, hb, hml, hown, ht⟩ (k_x3_value l D a y52 y53 _ _ _ hc54) (zgV ml_X1_168 im_X3_value se_X3_value in_X3 co_X3_value) rfl rfl (by decide +kernel) ⟨Nat.le_of_ble_eq_true rfl, Nat.le_of_ble_eq_true rfl⟩ hN hK hP (hDD _) hS hA 80 CW_80 rfl rfl rfl hl.1 rfl (Nat.le_of_ble_eq_true rfl) dX1_take_111 ⟨Nat.le_of_ble_eq_true rfl, Nat.le_of_ble_eq_true rfl⟩ (fun H locs hP hS => ?_)
          refine lv_goto (tgt := 119) hx hb dX1_take_114 (by decide) ?_
          exact J119 (x3, x4, x5, x6, x7, r56, s55) _ _ _ ⟨hP, hS, lv_sub hl [0, 1, 2, 3, 4, 5] rfl, h⟩
  refine y_head (pcJ := 23) (σ := Int × Int × Int × Int × Int × MS) (fun u H locs ls => va_P D vwCl (CS D a u.2.2.2.2.2) H ∧ va_S A s₀.heap H locs ∧ lv_has ls 8 [(0, .ref (a 49)), (1, .int (i2 u.1)), (2, .int (i2 u.2.1)), (3, .int (i2 u.2.2.1)), (4, .int (i2 u.2.2.2.1))] ∧ m_x1_take_J23 u.1 u.2.1 u.2.2.1 u.2.2.2.1 u.2.2.2.2.1 u.2.2.2.2.2 = some o) (fun u => [.int (i2 u.2.2.2.2.1)]) (fun u H locs ls hI => ?_) (fun J23 => ?_)
  · obtain ⟨hP, hS, hl, h⟩ := hI
    obtain ⟨x57, x58, x59, x60, x61, s62⟩ := u
    have hP : va_P D vwCl (CS D a s62) H := hP
    have hl : lv_has ls 8 [(0, .ref (a 49)), (1, .int (i2 x57)), (2, .int (i2 x58)), (3, .int (i2 x59)), (4, .int (i2 x60))] := hl
    have h : m_x1_take_J23 x57 x58 x59 x60 x61 s62 = some o := h
    unfold m_x1_take_J23 at h
    refine lv_istore (lv' := [(5, .int (i2 x61)), (0, .ref (a 49)), (1, .int (i2 x57)), (2, .int (i2 x58)), (3, .int (i2 x59)), (4, .int (i2 x60))]) hx hb dX1_take_23 hl (by decide) rfl (fun ls hl => ?_)
    refine lv_aload_n hx hb dX1_take_25 rfl (lv_at hl 1 rfl) ?_
    refine va_get (D := D) (ci := 1) (v := .ref (a 80)) (C := RX1) (T := TX1) (N := 9) hx hb ht inX1 hown hK hP 49 CW_49 rfl 5 (by decide) (ht (.fieldLink RX1 33 "CloneVolumes$Forest" "machine" "LCloneVolumes$Machine;") fl_X1_33) (fun _ h9 => h9) rfl dX1_take_26 ?_
    refine lv_iload_n hx hb dX1_take_29 rfl (lv_at hl 2 rfl) ?_
    refine ya_put (D := D) (ci := 3) (v := .int (i2 x57)) (ty := .int) (C := RX3) (T := TX3) (N := 10) hx hb ht inX3 tyX3 tyX3_ok nmX3 hown hK hP (hDD _) hS 80 CW_80 rfl 4 (by decide) (ht (.fieldLink RX1 153 "CloneVolumes$Machine" "level" "I") fl_X1_153) (fun _ h9 => h9) rfl (by decide +kernel) rfl rfl (Nat.le_of_ble_eq_true rfl) dX1_take_30 (CW_w80_4 x57) (fun H locs hP hS => ?_)
    obtain ⟨s63, hs63, h⟩ := st_e h
    rw [hs63] at hP
    refine lv_aload_n hx hb dX1_take_33 rfl (lv_at hl 1 rfl) ?_
    refine va_get (D := D) (ci := 1) (v := .ref (a 80)) (C := RX1) (T := TX1) (N := 9) hx hb ht inX1 hown hK hP 49 CW_49 rfl 5 (by decide) (ht (.fieldLink RX1 33 "CloneVolumes$Forest" "machine" "LCloneVolumes$Machine;") fl_X1_33) (fun _ h9 => h9) rfl dX1_take_34 ?_
    refine lv_iload_n hx hb dX1_take_37 rfl (lv_at hl 3 rfl) ?_
    refine ya_put (D := D) (ci := 3) (v := .int (i2 x58)) (ty := .int) (C := RX3) (T := TX3) (N := 10) hx hb ht inX3 tyX3 tyX3_ok nmX3 hown hK hP (hDD _) hS 80 CW_80 rfl 3 (by decide) (ht (.fieldLink RX1 201 "CloneVolumes$Machine" "source" "I") fl_X1_201) (fun _ h9 => h9) rfl (by decide +kernel) rfl rfl (Nat.le_of_ble_eq_true rfl) dX1_take_38 (CW_w80_3 x58) (fun H locs hP hS => ?_)
    obtain ⟨s64, hs64, h⟩ := st_e h
    rw [hs64] at hP
    refine lv_iconst (v := 0) hx hb dX1_take_41 (by decide) ?_
    refine lv_istore (lv' := [(6, .int 0), (5, .int (i2 x61)), (0, .ref (a 49)), (1, .int (i2 x57)), (2, .int (i2 x58)), (3, .int (i2 x59)), (4, .int (i2 x60))]) hx hb dX1_take_42 hl (by decide) rfl (fun ls hl => ?_)
    exact J44 FU (x57, x59, x60, x61, 0, s64) _ _ _ ⟨hP, hS, lv_sub hl [2, 3, 5, 6, 1, 0] rfl, h⟩
  refine lv_iconst (v := (-1)) hx hb dX1_take_0 (by decide) ?_
  refine lv_istore_n (lv' := [(3, .int (-1)), (0, .ref (a 49)), (1, .int (i2 p0)), (2, .int (i2 p1))]) hx hb dX1_take_1 rfl hl (by decide) rfl (fun ls hl => ?_)
  refine lv_iconst (v := 0) hx hb dX1_take_2 (by decide) ?_
  refine lv_istore (lv' := [(4, .int 0), (3, .int (-1)), (0, .ref (a 49)), (1, .int (i2 p0)), (2, .int (i2 p1))]) hx hb dX1_take_3 hl (by decide) rfl (fun ls hl => ?_)
  refine lv_aload_n hx hb dX1_take_5 rfl (lv_at hl 2 rfl) ?_
  refine va_get (D := D) (ci := 1) (v := .ref (a 29)) (C := RX1) (T := TX1) (N := 9) hx hb ht inX1 hown hK hP 49 CW_49 rfl 4 (by decide) (ht (.fieldLink RX1 47 "CloneVolumes$Forest" "plan" "LCloneVolumes$Plan;") fl_X1_47) (fun _ h9 => h9) rfl dX1_take_6 ?_
  refine va_get (D := D) (ci := 5) (v := .ref (a 35)) (C := RX5) (T := TX5) (N := 14) hx hb ht inX5 hown hK hP 29 CW_29 rfl 12 (by decide) (ht (.fieldLink RX1 144 "CloneVolumes$Plan" "begins" "[I") fl_X1_144) (fun _ h9 => h9) rfl dX1_take_9 ?_
  refine lv_iconst (v := 0) hx hb dX1_take_12 (by decide) ?_
  obtain ⟨y65, ey65, iy65, h⟩ := rdI_e h
  refine ya_iald (i := 0) hx hb hK hP 35 0 CW_35 rfl (by decide) ey65 iy65 dX1_take_13 ?_
  refine lv_iconst (v := (-1)) hx hb dX1_take_14 (by decide) ?_
  obtain ⟨hr66, h⟩ := rg_e h
  refine lv_icmp_eq (tgt := 22) hx hb dX1_take_15 (by decide) (fun c67 => ?_) (fun c67 => ?_)
  · rw [show ((-1) : Int32) = i2 (-1) from by decide] at c67
    have h := if_t ((i2_eq (x := y65) (y := (-1)) hr66 (by decide)).mp c67) h
    refine lv_iconst (v := 0) hx hb dX1_take_22 (by decide) ?_
    exact J23 (p0, p1, (-1), 0, 0, s) _ _ _ ⟨hP, hS, lv_sub hl [2, 3, 4, 1, 0] rfl, h⟩
  · rw [show ((-1) : Int32) = i2 (-1) from by decide] at c67
    have h := if_f (mt (i2_eq (x := y65) (y := (-1)) hr66 (by decide)).mpr c67) h
    refine lv_iconst (v := 1) hx hb dX1_take_18 (by decide) ?_
    refine lv_goto (tgt := 23) hx hb dX1_take_19 (by decide) ?_
    exact J23 (p0, p1, (-1), 0, 1, s) _ _ _ ⟨hP, hS, lv_sub hl [2, 3, 4, 1, 0] rfl, h⟩
set_option maxHeartbeats 4000000 in
set_option maxRecDepth 100000 in
theorem k_x1_layEntries (l : Launch) (D : va_G) (a : Nat → Nat) (p0 : Int) (p1 : Int) (p2 : Int) (sz : Nat) (s : MS) (o : MS) (h : m_x1_layEntries p0 p1 p2 s = some o) : yWv l yX1_layEntries cX1_layEntries 5 none { frames := 1, cells := 0, slots := 0, locals := 60 } D sz [.ref (a 49), .int (i2 p0), .int (i2 p1), .int (i2 p2)] (CS D a s) (CS D a o) := by
  refine Met.ofW (cc := cX1_layEntries) (maxL := 5) (ret := none) (by decide) rfl ?_
  intro p e s₀ m args below meth c s₁ B hml hv
  obtain ⟨rfl, ⟨hsz, hP, hK, hD0⟩, hN⟩ := hv
  have hx := B.exec
  have hb := B.bytes
  have hr := B.returns
  have hts := atoms_spec (ws := wz yX1_layEntries cX1_layEntries 5 none) B.pre
  have ht : ∀ w ∈ lw_gd, w.before _ s₀ = true := fun w h => hts w (List.mem_cons_of_mem _ h)
  have hown : s₀.vm.findClass RX1 = some m.cls := findClass_of_methodNamed B.named
  have hlocks := B.notSynchronized
  subst hsz
  have hD := hD0.self (sz := s₀.heap.size)
  generalize hAe : va_A (CS D a s) s₀.heap.size = A at hD ⊢
  have hA : ∀ q : Nat, s₀.heap.size ≤ q → A q := fun q h => by rw [← hAe]; exact Or.inr h
  have hS : va_S A s₀.heap s₀.heap [] := va_S.rf
  have hDD : ∀ t : MS, va_D A (CS D a t) := fun t => CW_D t hD
  have hl := lv_entry ([.ref (a 49), .int (i2 p0), .int (i2 p1), .int (i2 p2)]) (n := 5) (Nat.le_of_ble_eq_true rfl)
  rw [lg_entry_eq]
  generalize (lg_sl ([.ref (a 49), .int (i2 p0), .int (i2 p1), .int (i2 p2)]) ++ List.replicate (5 - (lg_sl ([.ref (a 49), .int (i2 p0), .int (i2 p1), .int (i2 p2)])).length) Slot.unset).toArray = ls at hl ⊢
  have hl : lv_has ls 5 [(0, .ref (a 49)), (1, .int (i2 p0)), (2, .int (i2 p1)), (3, .int (i2 p2))] := hl
  unfold m_x1_layEntries at h
  refine lv_aload_n hx hb dX1_layEntries_0 rfl (lv_at hl 0 rfl) ?_
  refine va_get (D := D) (ci := 1) (v := .ref (a 53)) (C := RX1) (T := TX1) (N := 9) hx hb ht inX1 hown hK hP 49 CW_49 rfl 0 (by decide) (ht (.fieldLink RX1 12 "CloneVolumes$Forest" "now" "LCloneVolumes$State;") fl_X1_12) (fun _ h9 => h9) rfl dX1_layEntries_1 ?_
  refine va_get (D := D) (ci := 8) (v := .ref (a 57)) (C := RX8) (T := TX8) (N := 11) hx hb ht inX8 hown hK hP 53 CW_53 rfl 6 (by decide) (ht (.fieldLink RX1 155 "CloneVolumes$State" "size" "[I") fl_X1_155) (fun _ h9 => h9) rfl dX1_layEntries_4 ?_
  refine lv_iload_n hx hb dX1_layEntries_7 rfl (lv_at hl 1 rfl) ?_
  obtain ⟨y1, ey1, iy1, h⟩ := rdI_e h
  refine ya_iald (i := p0) hx hb hK hP 57 0 CW_57 rfl (by decide) ey1 iy1 dX1_layEntries_8 ?_
  refine lv_iload_n hx hb dX1_layEntries_9 rfl (lv_at hl 2 rfl) ?_
  refine lv_isub hx hb dX1_layEntries_10 ?_
  refine z_topi (y := i2 (y1 - p1)) (i2_sub y1 p1) ?_
  refine lv_istore (lv' := [(4, .int (i2 (y1 - p1))), (0, .ref (a 49)), (1, .int (i2 p0)), (2, .int (i2 p1)), (3, .int (i2 p2))]) hx hb dX1_layEntries_11 hl (by decide) rfl (fun ls hl => ?_)
  refine lv_aload_n hx hb dX1_layEntries_13 rfl (lv_at hl 1 rfl) ?_
  refine va_get (D := D) (ci := 1) (v := .ref (a 53)) (C := RX1) (T := TX1) (N := 9) hx hb ht inX1 hown hK hP 49 CW_49 rfl 0 (by decide) (ht (.fieldLink RX1 12 "CloneVolumes$Forest" "now" "LCloneVolumes$State;") fl_X1_12) (fun _ h9 => h9) rfl dX1_layEntries_14 ?_
  refine va_get (D := D) (ci := 8) (v := .ref (a 58)) (C := RX8) (T := TX8) (N := 11) hx hb ht inX8 hown hK hP 53 CW_53 rfl 7 (by decide) (ht (.fieldLink RX1 227 "CloneVolumes$State" "keys" "[I") fl_X1_227) (fun _ h9 => h9) rfl dX1_layEntries_17 ?_
  refine lv_aload_n hx hb dX1_layEntries_20 rfl (lv_at hl 1 rfl) ?_
  refine va_get (D := D) (ci := 1) (v := .ref (a 53)) (C := RX1) (T := TX1) (N := 9) hx hb ht inX1 hown hK hP 49 CW_49 rfl 0 (by decide) (ht (.fieldLink RX1 12 "CloneVolumes$Forest" "now" "LCloneVolumes$State;") fl_X1_12) (fun _ h9 => h9) rfl dX1_layEntries_21 ?_
  refine lv_iload_n hx hb dX1_layEntries_24 rfl (lv_at hl 2 rfl) ?_
  refine lv_iload_n hx hb dX1_layEntries_25 rfl (lv_at hl 3 rfl) ?_
  obtain ⟨r3, hc2, h⟩ := bn_e h
  refine ycV (r0 := i2 r3) (As := [.int (i2 p0), .int (i2 p1)]) (rest := [.ref (a 58)]) (C := RX8) (n := 2) ⟨hx, hb, hml, hown, ht⟩ (k_x8_slot l D a p0 p1 _ _ hc2) (zgV ml_X1_220 im_X8_slot se_X8_slot in_X8 co_X8_slot) rfl rfl (by decide +kernel) ⟨Nat.le_of_ble_eq_true rfl, Nat.le_of_ble_eq_true rfl⟩ hN hK hP hS 53 CW_53 rfl rfl rfl hl.1 rfl (Nat.le_of_ble_eq_true rfl) dX1_layEntries_26 ⟨Nat.le_of_ble_eq_true rfl, Nat.le_of_ble_eq_true rfl⟩ (fun H locs hP hS => ?_)
  refine lv_aload_n hx hb dX1_layEntries_29 rfl (lv_at hl 1 rfl) ?_
  refine va_get (D := D) (ci := 1) (v := .ref (a 53)) (C := RX1) (T := TX1) (N := 9) hx hb ht inX1 hown hK hP 49 CW_49 rfl 0 (by decide) (ht (.fieldLink RX1 12 "CloneVolumes$Forest" "now" "LCloneVolumes$State;") fl_X1_12) (fun _ h9 => h9) rfl dX1_layEntries_30 ?_
  refine va_get (D := D) (ci := 8) (v := .ref (a 58)) (C := RX8) (T := TX8) (N := 11) hx hb ht inX8 hown hK hP 53 CW_53 rfl 7 (by decide) (ht (.fieldLink RX1 227 "CloneVolumes$State" "keys" "[I") fl_X1_227) (fun _ h9 => h9) rfl dX1_layEntries_33 ?_
  refine lv_aload_n hx hb dX1_layEntries_36 rfl (lv_at hl 1 rfl) ?_
  refine va_get (D := D) (ci := 1) (v := .ref (a 53)) (C := RX1) (T := TX1) (N := 9) hx hb ht inX1 hown hK hP 49 CW_49 rfl 0 (by decide) (ht (.fieldLink RX1 12 "CloneVolumes$Forest" "now" "LCloneVolumes$State;") fl_X1_12) (fun _ h9 => h9) rfl dX1_layEntries_37 ?_
  refine lv_iload_n hx hb dX1_layEntries_40 rfl (lv_at hl 4 rfl) ?_
  refine lv_iconst (v := 0) hx hb dX1_layEntries_41 (by decide) ?_
  obtain ⟨r5, hc4, h⟩ := bn_e h
  refine ycV (r0 := i2 r5) (As := [.int (i2 p2), .int 0]) (rest := [.ref (a 58), .int (i2 r3), .ref (a 58)]) (C := RX8) (n := 2) ⟨hx, hb, hml, hown, ht⟩ (k_x8_slot l D a p2 0 _ _ hc4) (zgV ml_X1_220 im_X8_slot se_X8_slot in_X8 co_X8_slot) rfl rfl (by decide +kernel) ⟨Nat.le_of_ble_eq_true rfl, Nat.le_of_ble_eq_true rfl⟩ hN hK hP hS 53 CW_53 rfl rfl rfl hl.1 rfl (Nat.le_of_ble_eq_true rfl) dX1_layEntries_42 ⟨Nat.le_of_ble_eq_true rfl, Nat.le_of_ble_eq_true rfl⟩ (fun H locs hP hS => ?_)
  refine lv_iload hx hb dX1_layEntries_45 (lv_at hl 0 rfl) ?_
  obtain ⟨hc6, h⟩ := cpg_e h
  refine ya_copyi (sp := r3) (dp := r5) (n := (y1 - p1)) hx hb (by rw [hml]; exact hl.1.symm) hown (ht _ ml_X1_230) (ht _ na_cpy) (ht _ st_cpy) (ht _ in_sys) hK hP (hDD _) hS 58 58 CW_58 CW_58 (by decide) (by decide) hc6 (Nat.le_of_ble_eq_true rfl) (Nat.le_of_ble_eq_true rfl) dX1_layEntries_47 (CW_w58 _) (fun H locs hP hS => ?_)
  obtain ⟨s7, hs7, h⟩ := st_e h
  rw [hs7] at hP
  refine lv_aload_n hx hb dX1_layEntries_50 rfl (lv_at hl 1 rfl) ?_
  refine va_get (D := D) (ci := 1) (v := .ref (a 53)) (C := RX1) (T := TX1) (N := 9) hx hb ht inX1 hown hK hP 49 CW_49 rfl 0 (by decide) (ht (.fieldLink RX1 12 "CloneVolumes$Forest" "now" "LCloneVolumes$State;") fl_X1_12) (fun _ h9 => h9) rfl dX1_layEntries_51 ?_
  refine va_get (D := D) (ci := 8) (v := .ref (a 59)) (C := RX8) (T := TX8) (N := 11) hx hb ht inX8 hown hK hP 53 CW_53 rfl 8 (by decide) (ht (.fieldLink RX1 217 "CloneVolumes$State" "values" "[I") fl_X1_217) (fun _ h9 => h9) rfl dX1_layEntries_54 ?_
  refine lv_aload_n hx hb dX1_layEntries_57 rfl (lv_at hl 1 rfl) ?_
  refine va_get (D := D) (ci := 1) (v := .ref (a 53)) (C := RX1) (T := TX1) (N := 9) hx hb ht inX1 hown hK hP 49 CW_49 rfl 0 (by decide) (ht (.fieldLink RX1 12 "CloneVolumes$Forest" "now" "LCloneVolumes$State;") fl_X1_12) (fun _ h9 => h9) rfl dX1_layEntries_58 ?_
  refine lv_iload_n hx hb dX1_layEntries_61 rfl (lv_at hl 2 rfl) ?_
  refine lv_iload_n hx hb dX1_layEntries_62 rfl (lv_at hl 3 rfl) ?_
  obtain ⟨r9, hc8, h⟩ := bn_e h
  refine ycV (r0 := i2 r9) (As := [.int (i2 p0), .int (i2 p1)]) (rest := [.ref (a 59)]) (C := RX8) (n := 2) ⟨hx, hb, hml, hown, ht⟩ (k_x8_slot l D a p0 p1 _ _ hc8) (zgV ml_X1_220 im_X8_slot se_X8_slot in_X8 co_X8_slot) rfl rfl (by decide +kernel) ⟨Nat.le_of_ble_eq_true rfl, Nat.le_of_ble_eq_true rfl⟩ hN hK hP hS 53 CW_53 rfl rfl rfl hl.1 rfl (Nat.le_of_ble_eq_true rfl) dX1_layEntries_63 ⟨Nat.le_of_ble_eq_true rfl, Nat.le_of_ble_eq_true rfl⟩ (fun H locs hP hS => ?_)
  refine lv_aload_n hx hb dX1_layEntries_66 rfl (lv_at hl 1 rfl) ?_
  refine va_get (D := D) (ci := 1) (v := .ref (a 53)) (C := RX1) (T := TX1) (N := 9) hx hb ht inX1 hown hK hP 49 CW_49 rfl 0 (by decide) (ht (.fieldLink RX1 12 "CloneVolumes$Forest" "now" "LCloneVolumes$State;") fl_X1_12) (fun _ h9 => h9) rfl dX1_layEntries_67 ?_
  refine va_get (D := D) (ci := 8) (v := .ref (a 59)) (C := RX8) (T := TX8) (N := 11) hx hb ht inX8 hown hK hP 53 CW_53 rfl 8 (by decide) (ht (.fieldLink RX1 217 "CloneVolumes$State" "values" "[I") fl_X1_217) (fun _ h9 => h9) rfl dX1_layEntries_70 ?_
  refine lv_aload_n hx hb dX1_layEntries_73 rfl (lv_at hl 1 rfl) ?_
  refine va_get (D := D) (ci := 1) (v := .ref (a 53)) (C := RX1) (T := TX1) (N := 9) hx hb ht inX1 hown hK hP 49 CW_49 rfl 0 (by decide) (ht (.fieldLink RX1 12 "CloneVolumes$Forest" "now" "LCloneVolumes$State;") fl_X1_12) (fun _ h9 => h9) rfl dX1_layEntries_74 ?_
  refine lv_iload_n hx hb dX1_layEntries_77 rfl (lv_at hl 4 rfl) ?_
  refine lv_iconst (v := 0) hx hb dX1_layEntries_78 (by decide) ?_
  obtain ⟨r11, hc10, h⟩ := bn_e h
  refine ycV (r0 := i2 r11) (As := [.int (i2 p2), .int 0]) (rest := [.ref (a 59), .int (i2 r9), .ref (a 59)]) (C := RX8) (n := 2) ⟨hx, hb, hml, hown, ht⟩ (k_x8_slot l D a p2 0 _ _ hc10) (zgV ml_X1_220 im_X8_slot se_X8_slot in_X8 co_X8_slot) rfl rfl (by decide +kernel) ⟨Nat.le_of_ble_eq_true rfl, Nat.le_of_ble_eq_true rfl⟩ hN hK hP hS 53 CW_53 rfl rfl rfl hl.1 rfl (Nat.le_of_ble_eq_true rfl) dX1_layEntries_79 ⟨Nat.le_of_ble_eq_true rfl, Nat.le_of_ble_eq_true rfl⟩ (fun H locs hP hS => ?_)
  refine lv_iload hx hb dX1_layEntries_82 (lv_at hl 0 rfl) ?_
  obtain ⟨hc12, h⟩ := cpg_e h
  refine ya_copyi (sp := r9) (dp := r11) (n := (y1 - p1)) hx hb (by rw [hml]; exact hl.1.symm) hown (ht _ ml_X1_230) (ht _ na_cpy) (ht _ st_cpy) (ht _ in_sys) hK hP (hDD _) hS 59 59 CW_59 CW_59 (by decide) (by decide) hc12 (Nat.le_of_ble_eq_true rfl) (Nat.le_of_ble_eq_true rfl) dX1_layEntries_84 (CW_w59 _) (fun H locs hP hS => ?_)
  obtain ⟨s13, hs13, h⟩ := st_e h
  rw [hs13] at hP
  refine lv_aload_n hx hb dX1_layEntries_87 rfl (lv_at hl 1 rfl) ?_
  refine va_get (D := D) (ci := 1) (v := .ref (a 53)) (C := RX1) (T := TX1) (N := 9) hx hb ht inX1 hown hK hP 49 CW_49 rfl 0 (by decide) (ht (.fieldLink RX1 12 "CloneVolumes$Forest" "now" "LCloneVolumes$State;") fl_X1_12) (fun _ h9 => h9) rfl dX1_layEntries_88 ?_
  refine va_get (D := D) (ci := 8) (v := .ref (a 57)) (C := RX8) (T := TX8) (N := 11) hx hb ht inX8 hown hK hP 53 CW_53 rfl 6 (by decide) (ht (.fieldLink RX1 155 "CloneVolumes$State" "size" "[I") fl_X1_155) (fun _ h9 => h9) rfl dX1_layEntries_91 ?_
  refine lv_iload_n hx hb dX1_layEntries_94 rfl (lv_at hl 4 rfl) ?_
  refine lv_iload hx hb dX1_layEntries_95 (lv_at hl 0 rfl) ?_
  obtain ⟨hi14, h⟩ := inb_e h
  refine ya_iast (i := p2) (x := (y1 - p1)) hx hb hK hP (hDD _) hS 57 0 CW_57 rfl (by decide) hi14 dX1_layEntries_97 (CW_w57 _) (fun H locs hP hS => ?_)
  obtain ⟨s15, hs15, h⟩ := st_e h
  rw [hs15] at hP
  obtain rfl := Option.some.inj h
  exact W.vret hx hb hr (fun t ht hW => ⟨⟨(), rfl, trivial, by rw [ht]; exact hP, va_K.moved hW.alike hK, hDD _⟩, hS.F ht⟩) hS.2.2 dX1_layEntries_98
set_option maxHeartbeats 4000000 in
set_option maxRecDepth 100000 in
theorem k_x1_owned (l : Launch) (D : va_G) (a : Nat → Nat) (p0 : Int) (sz : Nat) (s : MS) (o : (Int × MS)) (h : m_x1_owned p0 s = some o) : yWi l yX1_owned cX1_owned 4 (some .int) { frames := 3, cells := 0, slots := 0, locals := 180 } D sz [.ref (a 49), .int (i2 p0)] (CS D a s) (CS D a o.2) (i2 o.1) := by
  refine Met.ofW (cc := cX1_owned) (maxL := 4) (ret := (some .int)) (by decide) rfl ?_
  intro p e s₀ m args below meth c s₁ B hml hv
  obtain ⟨rfl, ⟨hsz, hP, hK, hD0⟩, hN⟩ := hv
  have hx := B.exec
  have hb := B.bytes
  have hr := B.returns
  have hts := atoms_spec (ws := wz yX1_owned cX1_owned 4 (some .int)) B.pre
  have ht : ∀ w ∈ lw_gd, w.before _ s₀ = true := fun w h => hts w (List.mem_cons_of_mem _ h)
  have hown : s₀.vm.findClass RX1 = some m.cls := findClass_of_methodNamed B.named
  have hlocks := B.notSynchronized
  subst hsz
  have hD := hD0.self (sz := s₀.heap.size)
  generalize hAe : va_A (CS D a s) s₀.heap.size = A at hD ⊢
  have hA : ∀ q : Nat, s₀.heap.size ≤ q → A q := fun q h => by rw [← hAe]; exact Or.inr h
  have hS : va_S A s₀.heap s₀.heap [] := va_S.rf
  have hDD : ∀ t : MS, va_D A (CS D a t) := fun t => CW_D t hD
  have hl := lv_entry ([.ref (a 49), .int (i2 p0)]) (n := 4) (Nat.le_of_ble_eq_true rfl)
  rw [lg_entry_eq]
  generalize (lg_sl ([.ref (a 49), .int (i2 p0)]) ++ List.replicate (4 - (lg_sl ([.ref (a 49), .int (i2 p0)])).length) Slot.unset).toArray = ls at hl ⊢
  have hl : lv_has ls 4 [(0, .ref (a 49)), (1, .int (i2 p0))] := hl
  unfold m_x1_owned at h
  refine y_head (pcJ := 117) (σ := Int × Int × MS) (fun u H locs ls => va_P D vwCl (CS D a u.2.2) H ∧ va_S A s₀.heap H locs ∧ lv_has ls 4 [(0, .ref (a 49)), (1, .int (i2 u.1)), (2, .int (i2 u.2.1))] ∧ m_x1_owned_J117 u.1 u.2.1 u.2.2 = some o) (fun u => []) (fun u H locs ls hI => ?_) (fun J117 => ?_)
  · obtain ⟨hP, hS, hl, h⟩ := hI
    obtain ⟨x1, x2, s3⟩ := u
    have hP : va_P D vwCl (CS D a s3) H := hP
    have hl : lv_has ls 4 [(0, .ref (a 49)), (1, .int (i2 x1)), (2, .int (i2 x2))] := hl
    have h : m_x1_owned_J117 x1 x2 s3 = some o := h
    unfold m_x1_owned_J117 at h
    refine lv_aload_n hx hb dX1_owned_117 rfl (lv_at hl 0 rfl) ?_
    refine lv_iload_n hx hb dX1_owned_118 rfl (lv_at hl 1 rfl) ?_
    refine lv_aload_n hx hb dX1_owned_119 rfl (lv_at hl 0 rfl) ?_
    refine va_get (D := D) (ci := 1) (v := .ref (a 53)) (C := RX1) (T := TX1) (N := 9) hx hb ht inX1 hown hK hP 49 CW_49 rfl 0 (by decide) (ht (.fieldLink RX1 12 "CloneVolumes$Forest" "now" "LCloneVolumes$State;") fl_X1_12) (fun _ h9 => h9) rfl dX1_owned_120 ?_
    refine va_get (D := D) (ci := 8) (v := .ref (a 54)) (C := RX8) (T := TX8) (N := 11) hx hb ht inX8 hown hK hP 53 CW_53 rfl 3 (by decide) (ht (.fieldLink RX1 181 "CloneVolumes$State" "count" "[I") fl_X1_181) (fun _ h9 => h9) rfl dX1_owned_123 ?_
    obtain ⟨⟨r6, s5⟩, hc4, h⟩ := bn_e h
    refine ywV (r0 := i2 r6) (As := [.int (i2 x1), .ref (a 54)]) (rest := []) (C := RX1) (n := 2) (ws' := CS D a s5) ⟨hx, hb, hml, hown, ht⟩ (k_x1_release_v2 l D a x1 _ _ _ hc4) (zgV ml_X1_223 im_X1_release se_X1_release in_X1 co_X1_release) rfl rfl (by decide +kernel) ⟨Nat.le_of_ble_eq_true rfl, Nat.le_of_ble_eq_true rfl⟩ hN hK hP (hDD _) hS hA 49 CW_49 rfl rfl rfl hl.1 rfl (Nat.le_of_ble_eq_true rfl) dX1_owned_126 ⟨Nat.le_of_ble_eq_true rfl, Nat.le_of_ble_eq_true rfl⟩ (fun H locs hP hS => ?_)
    refine lv_pop hx hb dX1_owned_129 rfl ?_
    refine lv_iload_n hx hb dX1_owned_130 rfl (lv_at hl 2 rfl) ?_
    obtain rfl := Option.some.inj h
    exact W.iret (v := (i2 x2)) hx hb hr (fun t ht hW => ⟨⟨_, (), rfl, rfl, by rw [ht]; exact hP, va_K.moved hW.alike hK, hDD _⟩, hS.F ht⟩) hS.2.2 dX1_owned_131
  refine y_loop (pcJ := 69) (σ := Int × Int × Int × MS) (fun n u H locs ls => va_P D vwCl (CS D a u.2.2.2) H ∧ va_S A s₀.heap H locs ∧ lv_has ls 4 [(0, .ref (a 49)), (1, .int (i2 u.1)), (2, .int (i2 u.2.1)), (3, .int (i2 u.2.2.1))] ∧ m_x1_owned_L69 n u.1 u.2.1 u.2.2.1 u.2.2.2 = some o) (fun u => []) (fun u H locs ls hI => by obtain ⟨_, _, _, h⟩ := hI; cases h) (fun n69 ih69 u H locs ls hI => ?_) (fun J69 => ?_)
  · obtain ⟨hP, hS, hl, h⟩ := hI
    obtain ⟨x7, x8, x9, s10⟩ := u
    have hP : va_P D vwCl (CS D a s10) H := hP
    have hl : lv_has ls 4 [(0, .ref (a 49)), (1, .int (i2 x7)), (2, .int (i2 x8)), (3, .int (i2 x9))] := hl
    have h : m_x1_owned_b69 (m_x1_owned_L69 n69) x7 x8 x9 s10 = some o := h
    unfold m_x1_owned_b69 at h
    refine lv_iload_n hx hb dX1_owned_69 rfl (lv_at hl 3 rfl) ?_
    refine lv_aload_n hx hb dX1_owned_70 rfl (lv_at hl 0 rfl) ?_
    refine va_get (D := D) (ci := 1) (v := .ref (a 53)) (C := RX1) (T := TX1) (N := 9) hx hb ht inX1 hown hK hP 49 CW_49 rfl 0 (by decide) (ht (.fieldLink RX1 12 "CloneVolumes$Forest" "now" "LCloneVolumes$State;") fl_X1_12) (fun _ h9 => h9) rfl dX1_owned_71 ?_
    refine va_get (D := D) (ci := 8) (v := .ref (a 57)) (C := RX8) (T := TX8) (N := 11) hx hb ht inX8 hown hK hP 53 CW_53 rfl 6 (by decide) (ht (.fieldLink RX1 155 "CloneVolumes$State" "size" "[I") fl_X1_155) (fun _ h9 => h9) rfl dX1_owned_74 ?_
    refine lv_iload_n hx hb dX1_owned_77 rfl (lv_at hl 2 rfl) ?_
    obtain ⟨y11, ey11, iy11, h⟩ := rdI_e h
    refine ya_iald (i := x8) hx hb hK hP 57 0 CW_57 rfl (by decide) ey11 iy11 dX1_owned_78 ?_
    obtain ⟨hr12, h⟩ := rg_e h
    obtain ⟨hr13, h⟩ := rg_e h
    refine lv_icmp_ge (tgt := 117) hx hb dX1_owned_79 (by decide) (fun c14 => ?_) (fun c14 => ?_)
    · have h := if_t ((i2_le (x := y11) (y := x9) hr13 hr12).mp c14) h
      exact J117 (x7, x8, s10) _ _ _ ⟨hP, hS, lv_sub hl [0, 1, 2] rfl, h⟩
    · have h := if_f (mt (i2_le (x := y11) (y := x9) hr13 hr12).mpr c14) h
      refine lv_aload_n hx hb dX1_owned_82 rfl (lv_at hl 0 rfl) ?_
      refine va_get (D := D) (ci := 1) (v := .ref (a 53)) (C := RX1) (T := TX1) (N := 9) hx hb ht inX1 hown hK hP 49 CW_49 rfl 0 (by decide) (ht (.fieldLink RX1 12 "CloneVolumes$Forest" "now" "LCloneVolumes$State;") fl_X1_12) (fun _ h9 => h9) rfl dX1_owned_83 ?_
      refine va_get (D := D) (ci := 8) (v := .ref (a 54)) (C := RX8) (T := TX8) (N := 11) hx hb ht inX8 hown hK hP 53 CW_53 rfl 3 (by decide) (ht (.fieldLink RX1 181 "CloneVolumes$State" "count" "[I") fl_X1_181) (fun _ h9 => h9) rfl dX1_owned_86 ?_
      refine lv_aload_n hx hb dX1_owned_89 rfl (lv_at hl 0 rfl) ?_
      refine va_get (D := D) (ci := 1) (v := .ref (a 53)) (C := RX1) (T := TX1) (N := 9) hx hb ht inX1 hown hK hP 49 CW_49 rfl 0 (by decide) (ht (.fieldLink RX1 12 "CloneVolumes$Forest" "now" "LCloneVolumes$State;") fl_X1_12) (fun _ h9 => h9) rfl dX1_owned_90 ?_
      refine va_get (D := D) (ci := 8) (v := .ref (a 59)) (C := RX8) (T := TX8) (N := 11) hx hb ht inX8 hown hK hP 53 CW_53 rfl 8 (by decide) (ht (.fieldLink RX1 217 "CloneVolumes$State" "values" "[I") fl_X1_217) (fun _ h9 => h9) rfl dX1_owned_93 ?_
      refine lv_aload_n hx hb dX1_owned_96 rfl (lv_at hl 0 rfl) ?_
      refine va_get (D := D) (ci := 1) (v := .ref (a 53)) (C := RX1) (T := TX1) (N := 9) hx hb ht inX1 hown hK hP 49 CW_49 rfl 0 (by decide) (ht (.fieldLink RX1 12 "CloneVolumes$Forest" "now" "LCloneVolumes$State;") fl_X1_12) (fun _ h9 => h9) rfl dX1_owned_97 ?_
      refine lv_iload_n hx hb dX1_owned_100 rfl (lv_at hl 2 rfl) ?_
      refine lv_iload_n hx hb dX1_owned_101 rfl (lv_at hl 3 rfl) ?_
      obtain ⟨r16, hc15, h⟩ := bn_e h
      refine ycV (r0 := i2 r16) (As := [.int (i2 x8), .int (i2 x9)]) (rest := [.ref (a 59), .ref (a 54)]) (C := RX8) (n := 2) ⟨hx, hb, hml, hown, ht⟩ (k_x8_slot l D a x8 x9 _ _ hc15) (zgV ml_X1_220 im_X8_slot se_X8_slot in_X8 co_X8_slot) rfl rfl (by decide +kernel) ⟨Nat.le_of_ble_eq_true rfl, Nat.le_of_ble_eq_true rfl⟩ hN hK hP hS 53 CW_53 rfl rfl rfl hl.1 rfl (Nat.le_of_ble_eq_true rfl) dX1_owned_102 ⟨Nat.le_of_ble_eq_true rfl, Nat.le_of_ble_eq_true rfl⟩ (fun H locs hP hS => ?_)
      obtain ⟨y17, ey17, iy17, h⟩ := rdI_e h
      refine ya_iald (i := r16) hx hb hK hP 59 0 CW_59 rfl (by decide) ey17 iy17 dX1_owned_105 ?_
      refine lv_dup2_11 hx hb dX1_owned_106 rfl rfl ?_
      obtain ⟨y18, ey18, iy18, h⟩ := rdI_e h
      refine ya_iald (i := y17) hx hb hK hP 54 0 CW_54 rfl (by decide) ey18 iy18 dX1_owned_107 ?_
      refine lv_iconst (v := 1) hx hb dX1_owned_108 (by decide) ?_
      refine lv_iadd hx hb dX1_owned_109 ?_
      refine z_topi (y := i2 (y18 + 1)) (i2_add y18 1) ?_
      obtain ⟨hi19, h⟩ := inb_e h
      refine ya_iast (i := y17) (x := (y18 + 1)) hx hb hK hP (hDD _) hS 54 0 CW_54 rfl (by decide) hi19 dX1_owned_110 (CW_w54 _) (fun H locs hP hS => ?_)
      obtain ⟨s20, hs20, h⟩ := st_e h
      rw [hs20] at hP
      refine lv_iinc (v := i2 (x9 + 1)) (lv' := [(3, .int (i2 (x9 + 1))), (0, .ref (a 49)), (1, .int (i2 x7)), (2, .int (i2 x8))]) hx hb dX1_owned_111 hl (k := 3) rfl (i2_add x9 1) (by decide) rfl (fun ls hl => ?_)
      refine lv_goto (tgt := 69) hx hb dX1_owned_114 (by decide) ?_
      exact ih69 (x7, x8, x9 + 1, s20) _ _ _ ⟨hP, hS, lv_sub hl [1, 2, 3, 0] rfl, h⟩
  refine y_head (pcJ := 26) (σ := Int × MS) (fun u H locs ls => va_P D vwCl (CS D a u.2) H ∧ va_S A s₀.heap H locs ∧ lv_has ls 4 [(0, .ref (a 49)), (1, .int (i2 u.1))] ∧ m_x1_owned_J26 u.1 u.2 = some o) (fun u => []) (fun u H locs ls hI => ?_) (fun J26 => ?_)
  · obtain ⟨hP, hS, hl, h⟩ := hI
    obtain ⟨x21, s22⟩ := u
    have hP : va_P D vwCl (CS D a s22) H := hP
    have hl : lv_has ls 4 [(0, .ref (a 49)), (1, .int (i2 x21))] := hl
    have h : m_x1_owned_J26 x21 s22 = some o := h
    unfold m_x1_owned_J26 at h
    refine lv_aload_n hx hb dX1_owned_26 rfl (lv_at hl 0 rfl) ?_
    refine lv_aload_n hx hb dX1_owned_27 rfl (lv_at hl 0 rfl) ?_
    refine va_get (D := D) (ci := 1) (v := .ref (a 53)) (C := RX1) (T := TX1) (N := 9) hx hb ht inX1 hown hK hP 49 CW_49 rfl 0 (by decide) (ht (.fieldLink RX1 12 "CloneVolumes$Forest" "now" "LCloneVolumes$State;") fl_X1_12) (fun _ h9 => h9) rfl dX1_owned_28 ?_
    refine va_get (D := D) (ci := 8) (v := .ref (a 56)) (C := RX8) (T := TX8) (N := 11) hx hb ht inX8 hown hK hP 53 CW_53 rfl 5 (by decide) (ht (.fieldLink RX1 150 "CloneVolumes$State" "level" "[I") fl_X1_150) (fun _ h9 => h9) rfl dX1_owned_31 ?_
    refine lv_iload_n hx hb dX1_owned_34 rfl (lv_at hl 1 rfl) ?_
    obtain ⟨y23, ey23, iy23, h⟩ := rdI_e h
    refine ya_iald (i := x21) hx hb hK hP 56 0 CW_56 rfl (by decide) ey23 iy23 dX1_owned_35 ?_
    refine lv_iload_n hx hb dX1_owned_36 rfl (lv_at hl 1 rfl) ?_
    obtain ⟨⟨r26, s25⟩, hc24, h⟩ := bn_e h
    refine ywV (r0 := i2 r26) (As := [.int (i2 y23), .int (i2 x21)]) (rest := []) (C := RX1) (n := 2) (ws' := CS D a s25) ⟨hx, hb, hml, hown, ht⟩ (k_x1_take l D a y23 x21 _ _ _ hc24) (zgV ml_X1_210 im_X1_take se_X1_take in_X1 co_X1_take) rfl rfl (by decide +kernel) ⟨Nat.le_of_ble_eq_true rfl, Nat.le_of_ble_eq_true rfl⟩ hN hK hP (hDD _) hS hA 49 CW_49 rfl rfl rfl hl.1 rfl (Nat.le_of_ble_eq_true rfl) dX1_owned_37 ⟨Nat.le_of_ble_eq_true rfl, Nat.le_of_ble_eq_true rfl⟩ (fun H locs hP hS => ?_)
    refine lv_istore_n (lv' := [(2, .int (i2 r26)), (0, .ref (a 49)), (1, .int (i2 x21))]) hx hb dX1_owned_40 rfl hl (by decide) rfl (fun ls hl => ?_)
    refine lv_iload_n hx hb dX1_owned_41 rfl (lv_at hl 0 rfl) ?_
    refine lv_iconst (v := (-1)) hx hb dX1_owned_42 (by decide) ?_
    obtain ⟨hr27, h⟩ := rg_e h
    refine lv_icmp_ne (tgt := 48) hx hb dX1_owned_43 (by decide) (fun c28 => ?_) (fun c28 => ?_)
    · rw [show ((-1) : Int32) = i2 (-1) from by decide] at c28
      have h := if_f (mt (i2_eq (x := r26) (y := (-1)) hr27 (by decide)).mpr c28) h
      refine lv_aload_n hx hb dX1_owned_48 rfl (lv_at hl 1 rfl) ?_
      refine lv_iload_n hx hb dX1_owned_49 rfl (lv_at hl 2 rfl) ?_
      refine lv_iconst (v := 0) hx hb dX1_owned_50 (by decide) ?_
      refine lv_iload_n hx hb dX1_owned_51 rfl (lv_at hl 0 rfl) ?_
      obtain ⟨s30, hc29, h⟩ := bn_e h
      refine ywVv (As := [.int (i2 x21), .int 0, .int (i2 r26)]) (rest := []) (C := RX1) (n := 3) (ws' := CS D a s30) ⟨hx, hb, hml, hown, ht⟩ (k_x1_layEntries l D a x21 0 r26 _ _ _ hc29) (zgV ml_X1_213 im_X1_layEntries se_X1_layEntries in_X1 co_X1_layEntries) rfl rfl (by decide +kernel) ⟨Nat.le_of_ble_eq_true rfl, Nat.le_of_ble_eq_true rfl⟩ hN hK hP (hDD _) hS hA 49 CW_49 rfl rfl rfl hl.1 rfl (Nat.le_of_ble_eq_true rfl) dX1_owned_52 ⟨Nat.le_of_ble_eq_true rfl, Nat.le_of_ble_eq_true rfl⟩ (fun H locs hP hS => ?_)
      refine lv_aload_n hx hb dX1_owned_55 rfl (lv_at hl 1 rfl) ?_
      refine va_get (D := D) (ci := 1) (v := .ref (a 53)) (C := RX1) (T := TX1) (N := 9) hx hb ht inX1 hown hK hP 49 CW_49 rfl 0 (by decide) (ht (.fieldLink RX1 12 "CloneVolumes$Forest" "now" "LCloneVolumes$State;") fl_X1_12) (fun _ h9 => h9) rfl dX1_owned_56 ?_
      refine va_get (D := D) (ci := 8) (v := .ref (a 56)) (C := RX8) (T := TX8) (N := 11) hx hb ht inX8 hown hK hP 53 CW_53 rfl 5 (by decide) (ht (.fieldLink RX1 150 "CloneVolumes$State" "level" "[I") fl_X1_150) (fun _ h9 => h9) rfl dX1_owned_59 ?_
      refine lv_iload_n hx hb dX1_owned_62 rfl (lv_at hl 0 rfl) ?_
      obtain ⟨y31, ey31, iy31, h⟩ := rdI_e h
      refine ya_iald (i := r26) hx hb hK hP 56 0 CW_56 rfl (by decide) ey31 iy31 dX1_owned_63 ?_
      obtain ⟨hr32, h⟩ := rg_e h
      refine lv_if_le (tgt := 117) hx hb dX1_owned_64 (by decide) (fun c33 => ?_) (fun c33 => ?_)
      · have h := if_t ((i2_le (x := y31) (y := 0) hr32 (by decide)).mp c33) h
        exact J117 (x21, r26, s30) _ _ _ ⟨hP, hS, lv_sub hl [1, 2, 0] rfl, h⟩
      · have h := if_f (mt (i2_le (x := y31) (y := 0) hr32 (by decide)).mpr c33) h
        refine lv_iconst (v := 0) hx hb dX1_owned_67 (by decide) ?_
        refine lv_istore_n (lv' := [(3, .int 0), (2, .int (i2 r26)), (0, .ref (a 49)), (1, .int (i2 x21))]) hx hb dX1_owned_68 rfl hl (by decide) rfl (fun ls hl => ?_)
        exact J69 FU (x21, r26, 0, s30) _ _ _ ⟨hP, hS, lv_sub hl [2, 3, 1, 0] rfl, h⟩
    · rw [show ((-1) : Int32) = i2 (-1) from by decide] at c28
      have h := if_t ((i2_eq (x := r26) (y := (-1)) hr27 (by decide)).mp c28) h
      refine lv_iconst (v := (-1)) hx hb dX1_owned_46 (by decide) ?_
      obtain rfl := Option.some.inj h
      exact W.iret (v := (-1)) hx hb hr (fun t ht hW => ⟨⟨_, (), rfl, rfl, by rw [ht]; exact hP, va_K.moved hW.alike hK, hDD _⟩, hS.F ht⟩) hS.2.2 dX1_owned_47
  refine lv_aload_n hx hb dX1_owned_0 rfl (lv_at hl 0 rfl) ?_
  refine va_get (D := D) (ci := 1) (v := .ref (a 53)) (C := RX1) (T := TX1) (N := 9) hx hb ht inX1 hown hK hP 49 CW_49 rfl 0 (by decide) (ht (.fieldLink RX1 12 "CloneVolumes$Forest" "now" "LCloneVolumes$State;") fl_X1_12) (fun _ h9 => h9) rfl dX1_owned_1 ?_
  refine lv_iload_n hx hb dX1_owned_4 rfl (lv_at hl 1 rfl) ?_
  obtain ⟨r35, hc34, h⟩ := bn_e h
  refine ycV (r0 := i2 r35) (As := [.int (i2 p0)]) (rest := []) (C := RX8) (n := 1) ⟨hx, hb, hml, hown, ht⟩ (k_x8_isFresh l D a p0 _ _ hc34) (zgV ml_X1_186 im_X8_isFresh se_X8_isFresh in_X8 co_X8_isFresh) rfl rfl (by decide +kernel) ⟨Nat.le_of_ble_eq_true rfl, Nat.le_of_ble_eq_true rfl⟩ hN hK hP hS 53 CW_53 rfl rfl rfl hl.1 rfl (Nat.le_of_ble_eq_true rfl) dX1_owned_5 ⟨Nat.le_of_ble_eq_true rfl, Nat.le_of_ble_eq_true rfl⟩ (fun H locs hP hS => ?_)
  obtain ⟨hr36, h⟩ := rg_e h
  refine lv_if_eq (tgt := 26) hx hb dX1_owned_8 (by decide) (fun c37 => ?_) (fun c37 => ?_)
  · have h := if_t ((i2_eq (x := r35) (y := 0) hr36 (by decide)).mp c37) h
    exact J26 (p0, s) _ _ _ ⟨hP, hS, lv_sub hl [0, 1] rfl, h⟩
  · have h := if_f (mt (i2_eq (x := r35) (y := 0) hr36 (by decide)).mpr c37) h
    refine lv_aload_n hx hb dX1_owned_11 rfl (lv_at hl 0 rfl) ?_
    refine va_get (D := D) (ci := 1) (v := .ref (a 53)) (C := RX1) (T := TX1) (N := 9) hx hb ht inX1 hown hK hP 49 CW_49 rfl 0 (by decide) (ht (.fieldLink RX1 12 "CloneVolumes$Forest" "now" "LCloneVolumes$State;") fl_X1_12) (fun _ h9 => h9) rfl dX1_owned_12 ?_
    refine va_get (D := D) (ci := 8) (v := .ref (a 54)) (C := RX8) (T := TX8) (N := 11) hx hb ht inX8 hown hK hP 53 CW_53 rfl 3 (by decide) (ht (.fieldLink RX1 181 "CloneVolumes$State" "count" "[I") fl_X1_181) (fun _ h9 => h9) rfl dX1_owned_15 ?_
    refine lv_iload_n hx hb dX1_owned_18 rfl (lv_at hl 1 rfl) ?_
    obtain ⟨y38, ey38, iy38, h⟩ := rdI_e h
    refine ya_iald (i := p0) hx hb hK hP 54 0 CW_54 rfl (by decide) ey38 iy38 dX1_owned_19 ?_
    refine lv_iconst (v := 1) hx hb dX1_owned_20 (by decide) ?_
    obtain ⟨hr39, h⟩ := rg_e h
    refine lv_icmp_ne (tgt := 26) hx hb dX1_owned_21 (by decide) (fun c40 => ?_) (fun c40 => ?_)
    · have h := if_f (mt (i2_eq (x := y38) (y := 1) hr39 (by decide)).mpr c40) h
      exact J26 (p0, s) _ _ _ ⟨hP, hS, lv_sub hl [0, 1] rfl, h⟩
    · have h := if_t ((i2_eq (x := y38) (y := 1) hr39 (by decide)).mp c40) h
      refine lv_iload_n hx hb dX1_owned_24 rfl (lv_at hl 1 rfl) ?_
      obtain rfl := Option.some.inj h
      exact W.iret (v := (i2 p0)) hx hb hr (fun t ht hW => ⟨⟨_, (), rfl, rfl, by rw [ht]; exact hP, va_K.moved hW.alike hK, hDD _⟩, hS.F ht⟩) hS.2.2 dX1_owned_25
set_option maxHeartbeats 4000000 in
set_option maxRecDepth 100000 in
theorem k_x1_splits (l : Launch) (D : va_G) (a : Nat → Nat) (p0 : Int) (sz : Nat) (s : MS) (o : (Int × MS)) (h : m_x1_splits p0 s = some o) : yWi l yX1_splits cX1_splits 2 (some .boolean) { frames := 2, cells := 0, slots := 0, locals := 120 } D sz [.ref (a 49), .int (i2 p0)] (CS D a s) (CS D a o.2) (i2 o.1) := by
  refine Met.ofW (cc := cX1_splits) (maxL := 2) (ret := (some .boolean)) (by decide) rfl ?_
  intro p e s₀ m args below meth c s₁ B hml hv
  obtain ⟨rfl, ⟨hsz, hP, hK, hD0⟩, hN⟩ := hv
  have hx := B.exec
  have hb := B.bytes
  have hr := B.returns
  have hts := atoms_spec (ws := wz yX1_splits cX1_splits 2 (some .boolean)) B.pre
  have ht : ∀ w ∈ lw_gd, w.before _ s₀ = true := fun w h => hts w (List.mem_cons_of_mem _ h)
  have hown : s₀.vm.findClass RX1 = some m.cls := findClass_of_methodNamed B.named
  have hlocks := B.notSynchronized
  subst hsz
  have hD := hD0.self (sz := s₀.heap.size)
  generalize hAe : va_A (CS D a s) s₀.heap.size = A at hD ⊢
  have hA : ∀ q : Nat, s₀.heap.size ≤ q → A q := fun q h => by rw [← hAe]; exact Or.inr h
  have hS : va_S A s₀.heap s₀.heap [] := va_S.rf
  have hDD : ∀ t : MS, va_D A (CS D a t) := fun t => CW_D t hD
  have hl := lv_entry ([.ref (a 49), .int (i2 p0)]) (n := 2) (Nat.le_of_ble_eq_true rfl)
  rw [lg_entry_eq]
  generalize (lg_sl ([.ref (a 49), .int (i2 p0)]) ++ List.replicate (2 - (lg_sl ([.ref (a 49), .int (i2 p0)])).length) Slot.unset).toArray = ls at hl ⊢
  have hl : lv_has ls 2 [(0, .ref (a 49)), (1, .int (i2 p0))] := hl
  unfold m_x1_splits at h
  refine y_head (pcJ := 121) (σ := Int × MS) (fun u H locs ls => va_P D vwCl (CS D a u.2) H ∧ va_S A s₀.heap H locs ∧ lv_has ls 2 [] ∧ m_x1_splits_J121 u.1 u.2 = some o) (fun u => [.int (i2 u.1)]) (fun u H locs ls hI => ?_) (fun J121 => ?_)
  · obtain ⟨hP, hS, hl, h⟩ := hI
    obtain ⟨x1, s2⟩ := u
    have hP : va_P D vwCl (CS D a s2) H := hP
    have hl : lv_has ls 2 [] := hl
    have h : m_x1_splits_J121 x1 s2 = some o := h
    unfold m_x1_splits_J121 at h
    obtain ⟨hb3, h⟩ := bo_e h
    obtain rfl := Option.some.inj h
    exact W.zret (v := (i2 x1)) hx hb hr (bo_n hb3) (fun t ht hW => ⟨⟨_, (), rfl, rfl, by rw [ht]; exact hP, va_K.moved hW.alike hK, hDD _⟩, hS.F ht⟩) hS.2.2 dX1_splits_121
  refine y_head (pcJ := 47) (σ := MS) (fun u H locs ls => va_P D vwCl (CS D a u) H ∧ va_S A s₀.heap H locs ∧ lv_has ls 2 [] ∧ m_x1_splits_J47 u = some o) (fun u => []) (fun u H locs ls hI => ?_) (fun J47 => ?_)
  · obtain ⟨hP, hS, hl, h⟩ := hI
    obtain ⟨s4, rfl⟩ : ∃ z, z = u := ⟨u, rfl⟩
    have hP : va_P D vwCl (CS D a s4) H := hP
    have hl : lv_has ls 2 [] := hl
    have h : m_x1_splits_J47 s4 = some o := h
    unfold m_x1_splits_J47 at h
    refine lv_iconst (v := 0) hx hb dX1_splits_47 (by decide) ?_
    obtain rfl := Option.some.inj h
    exact W.zret (v := 0) hx hb hr (by decide) (fun t ht hW => ⟨⟨_, (), rfl, rfl, by rw [ht]; exact hP, va_K.moved hW.alike hK, hDD _⟩, hS.F ht⟩) hS.2.2 dX1_splits_48
  refine lv_aload_n hx hb dX1_splits_0 rfl (lv_at hl 0 rfl) ?_
  refine va_get (D := D) (ci := 1) (v := .ref (a 53)) (C := RX1) (T := TX1) (N := 9) hx hb ht inX1 hown hK hP 49 CW_49 rfl 0 (by decide) (ht (.fieldLink RX1 12 "CloneVolumes$Forest" "now" "LCloneVolumes$State;") fl_X1_12) (fun _ h9 => h9) rfl dX1_splits_1 ?_
  refine va_get (D := D) (ci := 8) (v := .ref (a 57)) (C := RX8) (T := TX8) (N := 11) hx hb ht inX8 hown hK hP 53 CW_53 rfl 6 (by decide) (ht (.fieldLink RX1 155 "CloneVolumes$State" "size" "[I") fl_X1_155) (fun _ h9 => h9) rfl dX1_splits_4 ?_
  refine lv_iload_n hx hb dX1_splits_7 rfl (lv_at hl 1 rfl) ?_
  obtain ⟨y5, ey5, iy5, h⟩ := rdI_e h
  refine ya_iald (i := p0) hx hb hK hP 57 0 CW_57 rfl (by decide) ey5 iy5 dX1_splits_8 ?_
  refine lv_aload_n hx hb dX1_splits_9 rfl (lv_at hl 0 rfl) ?_
  refine va_get (D := D) (ci := 1) (v := .ref (a 29)) (C := RX1) (T := TX1) (N := 9) hx hb ht inX1 hown hK hP 49 CW_49 rfl 4 (by decide) (ht (.fieldLink RX1 47 "CloneVolumes$Forest" "plan" "LCloneVolumes$Plan;") fl_X1_47) (fun _ h9 => h9) rfl dX1_splits_10 ?_
  refine va_get (D := D) (ci := 5) (v := .int (i2 (gI s 581))) (C := RX5) (T := TX5) (N := 14) hx hb ht inX5 hown hK hP 29 CW_29 rfl 1 (by decide) (ht (.fieldLink RX1 172 "CloneVolumes$Plan" "entriesMost" "I") fl_X1_172) (fun _ h9 => h9) rfl dX1_splits_13 ?_
  obtain ⟨hr6, h⟩ := rg_e h
  obtain ⟨hr7, h⟩ := rg_e h
  refine lv_icmp_lt (tgt := 21) hx hb dX1_splits_16 (by decide) (fun c8 => ?_) (fun c8 => ?_)
  · have h := if_t ((i2_lt (x := y5) (y := (gI s 581)) hr6 hr7).mp c8) h
    refine lv_aload_n hx hb dX1_splits_21 rfl (lv_at hl 0 rfl) ?_
    refine va_get (D := D) (ci := 1) (v := .ref (a 53)) (C := RX1) (T := TX1) (N := 9) hx hb ht inX1 hown hK hP 49 CW_49 rfl 0 (by decide) (ht (.fieldLink RX1 12 "CloneVolumes$Forest" "now" "LCloneVolumes$State;") fl_X1_12) (fun _ h9 => h9) rfl dX1_splits_22 ?_
    refine va_get (D := D) (ci := 8) (v := .ref (a 57)) (C := RX8) (T := TX8) (N := 11) hx hb ht inX8 hown hK hP 53 CW_53 rfl 6 (by decide) (ht (.fieldLink RX1 155 "CloneVolumes$State" "size" "[I") fl_X1_155) (fun _ h9 => h9) rfl dX1_splits_25 ?_
    refine lv_iload_n hx hb dX1_splits_28 rfl (lv_at hl 1 rfl) ?_
    obtain ⟨y9, ey9, iy9, h⟩ := rdI_e h
    refine ya_iald (i := p0) hx hb hK hP 57 0 CW_57 rfl (by decide) ey9 iy9 dX1_splits_29 ?_
    refine lv_iconst (v := 2) hx hb dX1_splits_30 (by decide) ?_
    obtain ⟨hr10, h⟩ := rg_e h
    refine lv_icmp_lt (tgt := 47) hx hb dX1_splits_31 (by decide) (fun c11 => ?_) (fun c11 => ?_)
    · have h := if_t ((i2_lt (x := y9) (y := 2) hr10 (by decide)).mp c11) h
      exact J47 s _ _ _ ⟨hP, hS, lv_sub hl [] rfl, h⟩
    · have h := if_f (mt (i2_lt (x := y9) (y := 2) hr10 (by decide)).mpr c11) h
      refine lv_aload_n hx hb dX1_splits_34 rfl (lv_at hl 0 rfl) ?_
      refine va_get (D := D) (ci := 1) (v := .ref (a 29)) (C := RX1) (T := TX1) (N := 9) hx hb ht inX1 hown hK hP 49 CW_49 rfl 4 (by decide) (ht (.fieldLink RX1 47 "CloneVolumes$Forest" "plan" "LCloneVolumes$Plan;") fl_X1_47) (fun _ h9 => h9) rfl dX1_splits_35 ?_
      refine va_get (D := D) (ci := 5) (v := .ref (a 35)) (C := RX5) (T := TX5) (N := 14) hx hb ht inX5 hown hK hP 29 CW_29 rfl 12 (by decide) (ht (.fieldLink RX1 144 "CloneVolumes$Plan" "begins" "[I") fl_X1_144) (fun _ h9 => h9) rfl dX1_splits_38 ?_
      refine lv_iconst (v := 1) hx hb dX1_splits_41 (by decide) ?_
      obtain ⟨y12, ey12, iy12, h⟩ := rdI_e h
      refine ya_iald (i := 1) hx hb hK hP 35 0 CW_35 rfl (by decide) ey12 iy12 dX1_splits_42 ?_
      refine lv_iconst (v := (-1)) hx hb dX1_splits_43 (by decide) ?_
      obtain ⟨hr13, h⟩ := rg_e h
      refine lv_icmp_ne (tgt := 49) hx hb dX1_splits_44 (by decide) (fun c14 => ?_) (fun c14 => ?_)
      · rw [show ((-1) : Int32) = i2 (-1) from by decide] at c14
        have h := if_f (mt (i2_eq (x := y12) (y := (-1)) hr13 (by decide)).mpr c14) h
        refine lv_aload_n hx hb dX1_splits_49 rfl (lv_at hl 0 rfl) ?_
        refine va_get (D := D) (ci := 1) (v := .ref (a 80)) (C := RX1) (T := TX1) (N := 9) hx hb ht inX1 hown hK hP 49 CW_49 rfl 5 (by decide) (ht (.fieldLink RX1 33 "CloneVolumes$Forest" "machine" "LCloneVolumes$Machine;") fl_X1_33) (fun _ h9 => h9) rfl dX1_splits_50 ?_
        refine lv_aload_n hx hb dX1_splits_53 rfl (lv_at hl 0 rfl) ?_
        refine va_get (D := D) (ci := 1) (v := .ref (a 53)) (C := RX1) (T := TX1) (N := 9) hx hb ht inX1 hown hK hP 49 CW_49 rfl 0 (by decide) (ht (.fieldLink RX1 12 "CloneVolumes$Forest" "now" "LCloneVolumes$State;") fl_X1_12) (fun _ h9 => h9) rfl dX1_splits_54 ?_
        refine va_get (D := D) (ci := 8) (v := .ref (a 56)) (C := RX8) (T := TX8) (N := 11) hx hb ht inX8 hown hK hP 53 CW_53 rfl 5 (by decide) (ht (.fieldLink RX1 150 "CloneVolumes$State" "level" "[I") fl_X1_150) (fun _ h9 => h9) rfl dX1_splits_57 ?_
        refine lv_iload_n hx hb dX1_splits_60 rfl (lv_at hl 1 rfl) ?_
        obtain ⟨y15, ey15, iy15, h⟩ := rdI_e h
        refine ya_iald (i := p0) hx hb hK hP 56 0 CW_56 rfl (by decide) ey15 iy15 dX1_splits_61 ?_
        refine ya_put (D := D) (ci := 3) (v := .int (i2 y15)) (ty := .int) (C := RX3) (T := TX3) (N := 10) hx hb ht inX3 tyX3 tyX3_ok nmX3 hown hK hP (hDD _) hS 80 CW_80 rfl 4 (by decide) (ht (.fieldLink RX1 153 "CloneVolumes$Machine" "level" "I") fl_X1_153) (fun _ h9 => h9) rfl (by decide +kernel) rfl rfl (Nat.le_of_ble_eq_true rfl) dX1_splits_62 (CW_w80_4 y15) (fun H locs hP hS => ?_)
        obtain ⟨s16, hs16, h⟩ := st_e h
        rw [hs16] at hP
        refine lv_aload_n hx hb dX1_splits_65 rfl (lv_at hl 0 rfl) ?_
        refine va_get (D := D) (ci := 1) (v := .ref (a 80)) (C := RX1) (T := TX1) (N := 9) hx hb ht inX1 hown hK hP 49 CW_49 rfl 5 (by decide) (ht (.fieldLink RX1 33 "CloneVolumes$Forest" "machine" "LCloneVolumes$Machine;") fl_X1_33) (fun _ h9 => h9) rfl dX1_splits_66 ?_
        refine lv_aload_n hx hb dX1_splits_69 rfl (lv_at hl 0 rfl) ?_
        refine va_get (D := D) (ci := 1) (v := .ref (a 53)) (C := RX1) (T := TX1) (N := 9) hx hb ht inX1 hown hK hP 49 CW_49 rfl 0 (by decide) (ht (.fieldLink RX1 12 "CloneVolumes$Forest" "now" "LCloneVolumes$State;") fl_X1_12) (fun _ h9 => h9) rfl dX1_splits_70 ?_
        refine va_get (D := D) (ci := 8) (v := .ref (a 57)) (C := RX8) (T := TX8) (N := 11) hx hb ht inX8 hown hK hP 53 CW_53 rfl 6 (by decide) (ht (.fieldLink RX1 155 "CloneVolumes$State" "size" "[I") fl_X1_155) (fun _ h9 => h9) rfl dX1_splits_73 ?_
        refine lv_iload_n hx hb dX1_splits_76 rfl (lv_at hl 1 rfl) ?_
        obtain ⟨y17, ey17, iy17, h⟩ := rdI_e h
        refine ya_iald (i := p0) hx hb hK hP 57 0 CW_57 rfl (by decide) ey17 iy17 dX1_splits_77 ?_
        refine ya_put (D := D) (ci := 3) (v := .int (i2 y17)) (ty := .int) (C := RX3) (T := TX3) (N := 10) hx hb ht inX3 tyX3 tyX3_ok nmX3 hown hK hP (hDD _) hS 80 CW_80 rfl 5 (by decide) (ht (.fieldLink RX1 158 "CloneVolumes$Machine" "entries" "I") fl_X1_158) (fun _ h9 => h9) rfl (by decide +kernel) rfl rfl (Nat.le_of_ble_eq_true rfl) dX1_splits_78 (CW_w80_5 y17) (fun H locs hP hS => ?_)
        obtain ⟨s18, hs18, h⟩ := st_e h
        rw [hs18] at hP
        refine lv_aload_n hx hb dX1_splits_81 rfl (lv_at hl 0 rfl) ?_
        refine va_get (D := D) (ci := 1) (v := .ref (a 80)) (C := RX1) (T := TX1) (N := 9) hx hb ht inX1 hown hK hP 49 CW_49 rfl 5 (by decide) (ht (.fieldLink RX1 33 "CloneVolumes$Forest" "machine" "LCloneVolumes$Machine;") fl_X1_33) (fun _ h9 => h9) rfl dX1_splits_82 ?_
        refine lv_aload_n hx hb dX1_splits_85 rfl (lv_at hl 0 rfl) ?_
        refine va_get (D := D) (ci := 1) (v := .ref (a 29)) (C := RX1) (T := TX1) (N := 9) hx hb ht inX1 hown hK hP 49 CW_49 rfl 4 (by decide) (ht (.fieldLink RX1 47 "CloneVolumes$Forest" "plan" "LCloneVolumes$Plan;") fl_X1_47) (fun _ h9 => h9) rfl dX1_splits_86 ?_
        refine va_get (D := D) (ci := 5) (v := .ref (a 37)) (C := RX5) (T := TX5) (N := 14) hx hb ht inX5 hown hK hP 29 CW_29 rfl 11 (by decide) (ht (.fieldLink RX1 161 "CloneVolumes$Plan" "code" "LCloneVolumes$Code;") fl_X1_161) (fun _ h9 => h9) rfl dX1_splits_89 ?_
        refine lv_aload_n hx hb dX1_splits_92 rfl (lv_at hl 0 rfl) ?_
        refine va_get (D := D) (ci := 1) (v := .ref (a 29)) (C := RX1) (T := TX1) (N := 9) hx hb ht inX1 hown hK hP 49 CW_49 rfl 4 (by decide) (ht (.fieldLink RX1 47 "CloneVolumes$Forest" "plan" "LCloneVolumes$Plan;") fl_X1_47) (fun _ h9 => h9) rfl dX1_splits_93 ?_
        refine va_get (D := D) (ci := 5) (v := .ref (a 35)) (C := RX5) (T := TX5) (N := 14) hx hb ht inX5 hown hK hP 29 CW_29 rfl 12 (by decide) (ht (.fieldLink RX1 144 "CloneVolumes$Plan" "begins" "[I") fl_X1_144) (fun _ h9 => h9) rfl dX1_splits_96 ?_
        refine lv_iconst (v := 1) hx hb dX1_splits_99 (by decide) ?_
        obtain ⟨y19, ey19, iy19, h⟩ := rdI_e h
        refine ya_iald (i := 1) hx hb hK hP 35 0 CW_35 rfl (by decide) ey19 iy19 dX1_splits_100 ?_
        refine lv_aload_n hx hb dX1_splits_101 rfl (lv_at hl 0 rfl) ?_
        refine va_get (D := D) (ci := 1) (v := .ref (a 29)) (C := RX1) (T := TX1) (N := 9) hx hb ht inX1 hown hK hP 49 CW_49 rfl 4 (by decide) (ht (.fieldLink RX1 47 "CloneVolumes$Forest" "plan" "LCloneVolumes$Plan;") fl_X1_47) (fun _ h9 => h9) rfl dX1_splits_102 ?_
        refine va_get (D := D) (ci := 5) (v := .ref (a 36)) (C := RX5) (T := TX5) (N := 14) hx hb ht inX5 hown hK hP 29 CW_29 rfl 13 (by decide) (ht (.fieldLink RX1 165 "CloneVolumes$Plan" "ends" "[I") fl_X1_165) (fun _ h9 => h9) rfl dX1_splits_105 ?_
        refine lv_iconst (v := 1) hx hb dX1_splits_108 (by decide) ?_
        obtain ⟨y20, ey20, iy20, h⟩ := rdI_e h
        refine ya_iald (i := 1) hx hb hK hP 36 0 CW_36 rfl (by decide) ey20 iy20 dX1_splits_109 ?_
        obtain ⟨⟨r23, s22⟩, hc21, h⟩ := bn_e h
        refine ywV (r0 := i2 r23) (As := [.ref (a 37), .int (i2 y19), .int (i2 y20)]) (rest := []) (C := RX3) (n := 3) (ws' := CS D a s22) ⟨hx, hb, hml, hown, ht⟩ (k_x3_value l D a y19 y20 _ _ _ hc21) (zgV ml_X1_168 im_X3_value se_X3_value in_X3 co_X3_value) rfl rfl (by decide +kernel) ⟨Nat.le_of_ble_eq_true rfl, Nat.le_of_ble_eq_true rfl⟩ hN hK hP (hDD _) hS hA 80 CW_80 rfl rfl rfl hl.1 rfl (Nat.le_of_ble_eq_true rfl) dX1_splits_110 ⟨Nat.le_of_ble_eq_true rfl, Nat.le_of_ble_eq_true rfl⟩ (fun H locs hP hS => ?_)
        obtain ⟨hr24, h⟩ := rg_e h
        refine lv_if_eq (tgt := 120) hx hb dX1_splits_113 (by decide) (fun c25 => ?_) (fun c25 => ?_)
        · have h := if_t ((i2_eq (x := r23) (y := 0) hr24 (by decide)).mp c25) h
          refine lv_iconst (v := 0) hx hb dX1_splits_120 (by decide) ?_
          exact J121 (0, s22) _ _ _ ⟨hP, hS, lv_sub hl [] rfl, h⟩
        · have h := if_f (mt (i2_eq (x := r23) (y := 0) hr24 (by decide)).mpr c25) h
          refine lv_iconst (v := 1) hx hb dX1_splits_116 (by decide) ?_
          refine lv_goto (tgt := 121) hx hb dX1_splits_117 (by decide) ?_
          exact J121 (1, s22) _ _ _ ⟨hP, hS, lv_sub hl [] rfl, h⟩
      · rw [show ((-1) : Int32) = i2 (-1) from by decide] at c14
        have h := if_t ((i2_eq (x := y12) (y := (-1)) hr13 (by decide)).mp c14) h
        exact J47 s _ _ _ ⟨hP, hS, lv_sub hl [] rfl, h⟩
  · have h := if_f (mt (i2_lt (x := y5) (y := (gI s 581)) hr6 hr7).mpr c8) h
    refine lv_iconst (v := 1) hx hb dX1_splits_19 (by decide) ?_
    obtain rfl := Option.some.inj h
    exact W.zret (v := 1) hx hb hr (by decide) (fun t ht hW => ⟨⟨_, (), rfl, rfl, by rw [ht]; exact hP, va_K.moved hW.alike hK, hDD _⟩, hS.F ht⟩) hS.2.2 dX1_splits_20
set_option maxHeartbeats 4000000 in
set_option maxRecDepth 100000 in
theorem k_x1_split (l : Launch) (D : va_G) (a : Nat → Nat) (p0 : Int) (p1 : Int) (p2 : Int) (p3 : Int) (sz : Nat) (s : MS) (o : (Int × MS)) (h : m_x1_split p0 p1 p2 p3 s = some o) : yWi l yX1_split cX1_split 8 (some .int) { frames := 3, cells := 0, slots := 0, locals := 180 } D sz [.ref (a 49), .int (i2 p0), .int (i2 p1), .int (i2 p2), .int (i2 p3)] (CS D a s) (CS D a o.2) (i2 o.1) := by
  refine Met.ofW (cc := cX1_split) (maxL := 8) (ret := (some .int)) (by decide) rfl ?_
  intro p e s₀ m args below meth c s₁ B hml hv
  obtain ⟨rfl, ⟨hsz, hP, hK, hD0⟩, hN⟩ := hv
  have hx := B.exec
  have hb := B.bytes
  have hr := B.returns
  have hts := atoms_spec (ws := wz yX1_split cX1_split 8 (some .int)) B.pre
  have ht : ∀ w ∈ lw_gd, w.before _ s₀ = true := fun w h => hts w (List.mem_cons_of_mem _ h)
  have hown : s₀.vm.findClass RX1 = some m.cls := findClass_of_methodNamed B.named
  have hlocks := B.notSynchronized
  subst hsz
  have hD := hD0.self (sz := s₀.heap.size)
  generalize hAe : va_A (CS D a s) s₀.heap.size = A at hD ⊢
  have hA : ∀ q : Nat, s₀.heap.size ≤ q → A q := fun q h => by rw [← hAe]; exact Or.inr h
  have hS : va_S A s₀.heap s₀.heap [] := va_S.rf
  have hDD : ∀ t : MS, va_D A (CS D a t) := fun t => CW_D t hD
  have hl := lv_entry ([.ref (a 49), .int (i2 p0), .int (i2 p1), .int (i2 p2), .int (i2 p3)]) (n := 8) (Nat.le_of_ble_eq_true rfl)
  rw [lg_entry_eq]
  generalize (lg_sl ([.ref (a 49), .int (i2 p0), .int (i2 p1), .int (i2 p2), .int (i2 p3)]) ++ List.replicate (8 - (lg_sl ([.ref (a 49), .int (i2 p0), .int (i2 p1), .int (i2 p2), .int (i2 p3)])).length) Slot.unset).toArray = ls at hl ⊢
  have hl : lv_has ls 8 [(0, .ref (a 49)), (1, .int (i2 p0)), (2, .int (i2 p1)), (3, .int (i2 p2)), (4, .int (i2 p3))] := hl
  unfold m_x1_split at h
  refine y_head (pcJ := 123) (σ := Int × MS) (fun u H locs ls => va_P D vwCl (CS D a u.2) H ∧ va_S A s₀.heap H locs ∧ lv_has ls 8 [] ∧ m_x1_split_J123 u.1 u.2 = some o) (fun u => [.int (i2 u.1)]) (fun u H locs ls hI => ?_) (fun J123 => ?_)
  · obtain ⟨hP, hS, hl, h⟩ := hI
    obtain ⟨x1, s2⟩ := u
    have hP : va_P D vwCl (CS D a s2) H := hP
    have hl : lv_has ls 8 [] := hl
    have h : m_x1_split_J123 x1 s2 = some o := h
    unfold m_x1_split_J123 at h
    obtain rfl := Option.some.inj h
    exact W.iret (v := (i2 x1)) hx hb hr (fun t ht hW => ⟨⟨_, (), rfl, rfl, by rw [ht]; exact hP, va_K.moved hW.alike hK, hDD _⟩, hS.F ht⟩) hS.2.2 dX1_split_123
  refine lv_aload_n hx hb dX1_split_0 rfl (lv_at hl 0 rfl) ?_
  refine lv_aload_n hx hb dX1_split_1 rfl (lv_at hl 0 rfl) ?_
  refine va_get (D := D) (ci := 1) (v := .ref (a 53)) (C := RX1) (T := TX1) (N := 9) hx hb ht inX1 hown hK hP 49 CW_49 rfl 0 (by decide) (ht (.fieldLink RX1 12 "CloneVolumes$Forest" "now" "LCloneVolumes$State;") fl_X1_12) (fun _ h9 => h9) rfl dX1_split_2 ?_
  refine va_get (D := D) (ci := 8) (v := .ref (a 56)) (C := RX8) (T := TX8) (N := 11) hx hb ht inX8 hown hK hP 53 CW_53 rfl 5 (by decide) (ht (.fieldLink RX1 150 "CloneVolumes$State" "level" "[I") fl_X1_150) (fun _ h9 => h9) rfl dX1_split_5 ?_
  refine lv_iload_n hx hb dX1_split_8 rfl (lv_at hl 3 rfl) ?_
  obtain ⟨y3, ey3, iy3, h⟩ := rdI_e h
  refine ya_iald (i := p2) hx hb hK hP 56 0 CW_56 rfl (by decide) ey3 iy3 dX1_split_9 ?_
  refine lv_iload_n hx hb dX1_split_10 rfl (lv_at hl 3 rfl) ?_
  obtain ⟨⟨r6, s5⟩, hc4, h⟩ := bn_e h
  refine ywV (r0 := i2 r6) (As := [.int (i2 y3), .int (i2 p2)]) (rest := []) (C := RX1) (n := 2) (ws' := CS D a s5) ⟨hx, hb, hml, hown, ht⟩ (k_x1_take l D a y3 p2 _ _ _ hc4) (zgV ml_X1_210 im_X1_take se_X1_take in_X1 co_X1_take) rfl rfl (by decide +kernel) ⟨Nat.le_of_ble_eq_true rfl, Nat.le_of_ble_eq_true rfl⟩ hN hK hP (hDD _) hS hA 49 CW_49 rfl rfl rfl hl.1 rfl (Nat.le_of_ble_eq_true rfl) dX1_split_11 ⟨Nat.le_of_ble_eq_true rfl, Nat.le_of_ble_eq_true rfl⟩ (fun H locs hP hS => ?_)
  refine lv_istore (lv' := [(5, .int (i2 r6)), (0, .ref (a 49)), (1, .int (i2 p0)), (2, .int (i2 p1)), (3, .int (i2 p2)), (4, .int (i2 p3))]) hx hb dX1_split_14 hl (by decide) rfl (fun ls hl => ?_)
  refine lv_iload hx hb dX1_split_16 (lv_at hl 0 rfl) ?_
  refine lv_iconst (v := (-1)) hx hb dX1_split_18 (by decide) ?_
  obtain ⟨hr7, h⟩ := rg_e h
  refine lv_icmp_ne (tgt := 24) hx hb dX1_split_19 (by decide) (fun c8 => ?_) (fun c8 => ?_)
  · rw [show ((-1) : Int32) = i2 (-1) from by decide] at c8
    have h := if_f (mt (i2_eq (x := r6) (y := (-1)) hr7 (by decide)).mpr c8) h
    refine lv_aload_n hx hb dX1_split_24 rfl (lv_at hl 1 rfl) ?_
    refine va_get (D := D) (ci := 1) (v := .ref (a 53)) (C := RX1) (T := TX1) (N := 9) hx hb ht inX1 hown hK hP 49 CW_49 rfl 0 (by decide) (ht (.fieldLink RX1 12 "CloneVolumes$Forest" "now" "LCloneVolumes$State;") fl_X1_12) (fun _ h9 => h9) rfl dX1_split_25 ?_
    refine va_get (D := D) (ci := 8) (v := .ref (a 57)) (C := RX8) (T := TX8) (N := 11) hx hb ht inX8 hown hK hP 53 CW_53 rfl 6 (by decide) (ht (.fieldLink RX1 155 "CloneVolumes$State" "size" "[I") fl_X1_155) (fun _ h9 => h9) rfl dX1_split_28 ?_
    refine lv_iload_n hx hb dX1_split_31 rfl (lv_at hl 4 rfl) ?_
    obtain ⟨y9, ey9, iy9, h⟩ := rdI_e h
    refine ya_iald (i := p2) hx hb hK hP 57 0 CW_57 rfl (by decide) ey9 iy9 dX1_split_32 ?_
    refine lv_aload_n hx hb dX1_split_33 rfl (lv_at hl 1 rfl) ?_
    refine va_get (D := D) (ci := 1) (v := .ref (a 53)) (C := RX1) (T := TX1) (N := 9) hx hb ht inX1 hown hK hP 49 CW_49 rfl 0 (by decide) (ht (.fieldLink RX1 12 "CloneVolumes$Forest" "now" "LCloneVolumes$State;") fl_X1_12) (fun _ h9 => h9) rfl dX1_split_34 ?_
    refine va_get (D := D) (ci := 8) (v := .ref (a 57)) (C := RX8) (T := TX8) (N := 11) hx hb ht inX8 hown hK hP 53 CW_53 rfl 6 (by decide) (ht (.fieldLink RX1 155 "CloneVolumes$State" "size" "[I") fl_X1_155) (fun _ h9 => h9) rfl dX1_split_37 ?_
    refine lv_iload_n hx hb dX1_split_40 rfl (lv_at hl 4 rfl) ?_
    obtain ⟨y10, ey10, iy10, h⟩ := rdI_e h
    refine ya_iald (i := p2) hx hb hK hP 57 0 CW_57 rfl (by decide) ey10 iy10 dX1_split_41 ?_
    refine lv_iconst (v := 2) hx hb dX1_split_42 (by decide) ?_
    obtain ⟨hn11, h⟩ := dv_e h
    refine lv_idiv hx hb dX1_split_43 (dv_nz hn11) ?_
    refine z_topi (y := i2 (Int.tdiv y10 2)) (by rw [show (2 : Int32) = i2 2 from by decide +kernel]; exact dv_d hn11) ?_
    refine lv_isub hx hb dX1_split_44 ?_
    refine z_topi (y := i2 (y9 - (Int.tdiv y10 2))) (i2_sub y9 (Int.tdiv y10 2)) ?_
    refine lv_istore (lv' := [(6, .int (i2 (y9 - (Int.tdiv y10 2)))), (5, .int (i2 r6)), (0, .ref (a 49)), (1, .int (i2 p0)), (2, .int (i2 p1)), (3, .int (i2 p2)), (4, .int (i2 p3))]) hx hb dX1_split_45 hl (by decide) rfl (fun ls hl => ?_)
    refine lv_aload_n hx hb dX1_split_47 rfl (lv_at hl 2 rfl) ?_
    refine lv_iload_n hx hb dX1_split_48 rfl (lv_at hl 5 rfl) ?_
    refine lv_iload hx hb dX1_split_49 (lv_at hl 0 rfl) ?_
    refine lv_iload hx hb dX1_split_51 (lv_at hl 1 rfl) ?_
    obtain ⟨s13, hc12, h⟩ := bn_e h
    refine ywVv (As := [.int (i2 p2), .int (i2 (y9 - (Int.tdiv y10 2))), .int (i2 r6)]) (rest := []) (C := RX1) (n := 3) (ws' := CS D a s13) ⟨hx, hb, hml, hown, ht⟩ (k_x1_layEntries l D a p2 (y9 - (Int.tdiv y10 2)) r6 _ _ _ hc12) (zgV ml_X1_213 im_X1_layEntries se_X1_layEntries in_X1 co_X1_layEntries) rfl rfl (by decide +kernel) ⟨Nat.le_of_ble_eq_true rfl, Nat.le_of_ble_eq_true rfl⟩ hN hK hP (hDD _) hS hA 49 CW_49 rfl rfl rfl hl.1 rfl (Nat.le_of_ble_eq_true rfl) dX1_split_53 ⟨Nat.le_of_ble_eq_true rfl, Nat.le_of_ble_eq_true rfl⟩ (fun H locs hP hS => ?_)
    refine lv_aload_n hx hb dX1_split_56 rfl (lv_at hl 2 rfl) ?_
    refine va_get (D := D) (ci := 1) (v := .ref (a 53)) (C := RX1) (T := TX1) (N := 9) hx hb ht inX1 hown hK hP 49 CW_49 rfl 0 (by decide) (ht (.fieldLink RX1 12 "CloneVolumes$Forest" "now" "LCloneVolumes$State;") fl_X1_12) (fun _ h9 => h9) rfl dX1_split_57 ?_
    refine va_get (D := D) (ci := 8) (v := .ref (a 57)) (C := RX8) (T := TX8) (N := 11) hx hb ht inX8 hown hK hP 53 CW_53 rfl 6 (by decide) (ht (.fieldLink RX1 155 "CloneVolumes$State" "size" "[I") fl_X1_155) (fun _ h9 => h9) rfl dX1_split_60 ?_
    refine lv_iload_n hx hb dX1_split_63 rfl (lv_at hl 5 rfl) ?_
    refine lv_iload hx hb dX1_split_64 (lv_at hl 0 rfl) ?_
    obtain ⟨hi14, h⟩ := inb_e h
    refine ya_iast (i := p2) (x := (y9 - (Int.tdiv y10 2))) hx hb hK hP (hDD _) hS 57 0 CW_57 rfl (by decide) hi14 dX1_split_66 (CW_w57 _) (fun H locs hP hS => ?_)
    obtain ⟨s15, hs15, h⟩ := st_e h
    rw [hs15] at hP
    refine lv_aload_n hx hb dX1_split_67 rfl (lv_at hl 2 rfl) ?_
    refine va_get (D := D) (ci := 1) (v := .ref (a 53)) (C := RX1) (T := TX1) (N := 9) hx hb ht inX1 hown hK hP 49 CW_49 rfl 0 (by decide) (ht (.fieldLink RX1 12 "CloneVolumes$Forest" "now" "LCloneVolumes$State;") fl_X1_12) (fun _ h9 => h9) rfl dX1_split_68 ?_
    refine lv_iload_n hx hb dX1_split_71 rfl (lv_at hl 5 rfl) ?_
    obtain ⟨s17, hc16, h⟩ := bn_e h
    refine ywVv (As := [.int (i2 p2)]) (rest := []) (C := RX8) (n := 1) (ws' := CS D a s17) ⟨hx, hb, hml, hown, ht⟩ (k_x8_mark l D a p2 _ _ _ hc16) (zgV ml_X1_207 im_X8_mark se_X8_mark in_X8 co_X8_mark) rfl rfl (by decide +kernel) ⟨Nat.le_of_ble_eq_true rfl, Nat.le_of_ble_eq_true rfl⟩ hN hK hP (hDD _) hS hA 53 CW_53 rfl rfl rfl hl.1 rfl (Nat.le_of_ble_eq_true rfl) dX1_split_72 ⟨Nat.le_of_ble_eq_true rfl, Nat.le_of_ble_eq_true rfl⟩ (fun H locs hP hS => ?_)
    refine lv_aload_n hx hb dX1_split_75 rfl (lv_at hl 2 rfl) ?_
    refine va_get (D := D) (ci := 1) (v := .ref (a 53)) (C := RX1) (T := TX1) (N := 9) hx hb ht inX1 hown hK hP 49 CW_49 rfl 0 (by decide) (ht (.fieldLink RX1 12 "CloneVolumes$Forest" "now" "LCloneVolumes$State;") fl_X1_12) (fun _ h9 => h9) rfl dX1_split_76 ?_
    refine va_get (D := D) (ci := 8) (v := .ref (a 58)) (C := RX8) (T := TX8) (N := 11) hx hb ht inX8 hown hK hP 53 CW_53 rfl 7 (by decide) (ht (.fieldLink RX1 227 "CloneVolumes$State" "keys" "[I") fl_X1_227) (fun _ h9 => h9) rfl dX1_split_79 ?_
    refine lv_aload_n hx hb dX1_split_82 rfl (lv_at hl 2 rfl) ?_
    refine va_get (D := D) (ci := 1) (v := .ref (a 53)) (C := RX1) (T := TX1) (N := 9) hx hb ht inX1 hown hK hP 49 CW_49 rfl 0 (by decide) (ht (.fieldLink RX1 12 "CloneVolumes$Forest" "now" "LCloneVolumes$State;") fl_X1_12) (fun _ h9 => h9) rfl dX1_split_83 ?_
    refine lv_iload hx hb dX1_split_86 (lv_at hl 1 rfl) ?_
    refine lv_iconst (v := 0) hx hb dX1_split_88 (by decide) ?_
    obtain ⟨r19, hc18, h⟩ := bn_e h
    refine ycV (r0 := i2 r19) (As := [.int (i2 r6), .int 0]) (rest := [.ref (a 58)]) (C := RX8) (n := 2) ⟨hx, hb, hml, hown, ht⟩ (k_x8_slot l D a r6 0 _ _ hc18) (zgV ml_X1_220 im_X8_slot se_X8_slot in_X8 co_X8_slot) rfl rfl (by decide +kernel) ⟨Nat.le_of_ble_eq_true rfl, Nat.le_of_ble_eq_true rfl⟩ hN hK hP hS 53 CW_53 rfl rfl rfl hl.1 rfl (Nat.le_of_ble_eq_true rfl) dX1_split_89 ⟨Nat.le_of_ble_eq_true rfl, Nat.le_of_ble_eq_true rfl⟩ (fun H locs hP hS => ?_)
    obtain ⟨y20, ey20, iy20, h⟩ := rdI_e h
    refine ya_iald (i := r19) hx hb hK hP 58 0 CW_58 rfl (by decide) ey20 iy20 dX1_split_92 ?_
    refine lv_istore (lv' := [(7, .int (i2 y20)), (6, .int (i2 (y9 - (Int.tdiv y10 2)))), (5, .int (i2 r6)), (0, .ref (a 49)), (1, .int (i2 p0)), (2, .int (i2 p1)), (3, .int (i2 p2)), (4, .int (i2 p3))]) hx hb dX1_split_93 hl (by decide) rfl (fun ls hl => ?_)
    refine lv_aload_n hx hb dX1_split_95 rfl (lv_at hl 3 rfl) ?_
    refine va_get (D := D) (ci := 1) (v := .ref (a 53)) (C := RX1) (T := TX1) (N := 9) hx hb ht inX1 hown hK hP 49 CW_49 rfl 0 (by decide) (ht (.fieldLink RX1 12 "CloneVolumes$Forest" "now" "LCloneVolumes$State;") fl_X1_12) (fun _ h9 => h9) rfl dX1_split_96 ?_
    refine lv_iload_n hx hb dX1_split_99 rfl (lv_at hl 4 rfl) ?_
    refine lv_iload_n hx hb dX1_split_100 rfl (lv_at hl 5 rfl) ?_
    refine lv_iconst (v := 1) hx hb dX1_split_101 (by decide) ?_
    refine lv_iadd hx hb dX1_split_102 ?_
    refine z_topi (y := i2 (p1 + 1)) (i2_add p1 1) ?_
    refine lv_iload hx hb dX1_split_103 (lv_at hl 0 rfl) ?_
    refine lv_iload hx hb dX1_split_105 (lv_at hl 2 rfl) ?_
    obtain ⟨s22, hc21, h⟩ := bn_e h
    refine ywVv (As := [.int (i2 p0), .int (i2 (p1 + 1)), .int (i2 y20), .int (i2 r6)]) (rest := []) (C := RX8) (n := 4) (ws' := CS D a s22) ⟨hx, hb, hml, hown, ht⟩ (k_x8_insert l D a p0 (p1 + 1) y20 r6 _ _ _ hc21) (zgV ml_X1_258 im_X8_insert se_X8_insert in_X8 co_X8_insert) rfl rfl (by decide +kernel) ⟨Nat.le_of_ble_eq_true rfl, Nat.le_of_ble_eq_true rfl⟩ hN hK hP (hDD _) hS hA 53 CW_53 rfl rfl rfl hl.1 rfl (Nat.le_of_ble_eq_true rfl) dX1_split_107 ⟨Nat.le_of_ble_eq_true rfl, Nat.le_of_ble_eq_true rfl⟩ (fun H locs hP hS => ?_)
    refine lv_iload hx hb dX1_split_110 (lv_at hl 0 rfl) ?_
    refine lv_iload hx hb dX1_split_112 (lv_at hl 7 rfl) ?_
    obtain ⟨hr23, h⟩ := rg_e h
    obtain ⟨hr24, h⟩ := rg_e h
    refine lv_icmp_gt (tgt := 122) hx hb dX1_split_114 (by decide) (fun c25 => ?_) (fun c25 => ?_)
    · have h := if_t ((i2_lt (x := p3) (y := y20) hr24 hr23).mp c25) h
      refine lv_iload_n hx hb dX1_split_122 rfl (lv_at hl 6 rfl) ?_
      exact J123 (p2, s22) _ _ _ ⟨hP, hS, lv_sub hl [] rfl, h⟩
    · have h := if_f (mt (i2_lt (x := p3) (y := y20) hr24 hr23).mpr c25) h
      refine lv_iload hx hb dX1_split_117 (lv_at hl 2 rfl) ?_
      refine lv_goto (tgt := 123) hx hb dX1_split_119 (by decide) ?_
      exact J123 (r6, s22) _ _ _ ⟨hP, hS, lv_sub hl [] rfl, h⟩
  · rw [show ((-1) : Int32) = i2 (-1) from by decide] at c8
    have h := if_t ((i2_eq (x := r6) (y := (-1)) hr7 (by decide)).mp c8) h
    refine lv_iconst (v := (-1)) hx hb dX1_split_22 (by decide) ?_
    obtain rfl := Option.some.inj h
    exact W.iret (v := (-1)) hx hb hr (fun t ht hW => ⟨⟨_, (), rfl, rfl, by rw [ht]; exact hP, va_K.moved hW.alike hK, hDD _⟩, hS.F ht⟩) hS.2.2 dX1_split_23
set_option maxHeartbeats 4000000 in
set_option maxRecDepth 100000 in
theorem k_x1_raiseRoot (l : Launch) (D : va_G) (a : Nat → Nat) (p0 : Int) (sz : Nat) (s : MS) (o : (Int × MS)) (h : m_x1_raiseRoot p0 s = some o) : yWi l yX1_raiseRoot cX1_raiseRoot 4 (some .int) { frames := 3, cells := 0, slots := 0, locals := 180 } D sz [.ref (a 49), .int (i2 p0)] (CS D a s) (CS D a o.2) (i2 o.1) := by
  refine Met.ofW (cc := cX1_raiseRoot) (maxL := 4) (ret := (some .int)) (by decide) rfl ?_
  intro p e s₀ m args below meth c s₁ B hml hv
  obtain ⟨rfl, ⟨hsz, hP, hK, hD0⟩, hN⟩ := hv
  have hx := B.exec
  have hb := B.bytes
  have hr := B.returns
  have hts := atoms_spec (ws := wz yX1_raiseRoot cX1_raiseRoot 4 (some .int)) B.pre
  have ht : ∀ w ∈ lw_gd, w.before _ s₀ = true := fun w h => hts w (List.mem_cons_of_mem _ h)
  have hown : s₀.vm.findClass RX1 = some m.cls := findClass_of_methodNamed B.named
  have hlocks := B.notSynchronized
  subst hsz
  have hD := hD0.self (sz := s₀.heap.size)
  generalize hAe : va_A (CS D a s) s₀.heap.size = A at hD ⊢
  have hA : ∀ q : Nat, s₀.heap.size ≤ q → A q := fun q h => by rw [← hAe]; exact Or.inr h
  have hS : va_S A s₀.heap s₀.heap [] := va_S.rf
  have hDD : ∀ t : MS, va_D A (CS D a t) := fun t => CW_D t hD
  have hl := lv_entry ([.ref (a 49), .int (i2 p0)]) (n := 4) (Nat.le_of_ble_eq_true rfl)
  rw [lg_entry_eq]
  generalize (lg_sl ([.ref (a 49), .int (i2 p0)]) ++ List.replicate (4 - (lg_sl ([.ref (a 49), .int (i2 p0)])).length) Slot.unset).toArray = ls at hl ⊢
  have hl : lv_has ls 4 [(0, .ref (a 49)), (1, .int (i2 p0))] := hl
  unfold m_x1_raiseRoot at h
  refine y_head (pcJ := 69) (σ := Int × MS) (fun u H locs ls => va_P D vwCl (CS D a u.2) H ∧ va_S A s₀.heap H locs ∧ lv_has ls 4 [(3, .int (i2 u.1))] ∧ m_x1_raiseRoot_J69 u.1 u.2 = some o) (fun u => []) (fun u H locs ls hI => ?_) (fun J69 => ?_)
  · obtain ⟨hP, hS, hl, h⟩ := hI
    obtain ⟨x1, s2⟩ := u
    have hP : va_P D vwCl (CS D a s2) H := hP
    have hl : lv_has ls 4 [(3, .int (i2 x1))] := hl
    have h : m_x1_raiseRoot_J69 x1 s2 = some o := h
    unfold m_x1_raiseRoot_J69 at h
    refine lv_iload_n hx hb dX1_raiseRoot_69 rfl (lv_at hl 0 rfl) ?_
    obtain rfl := Option.some.inj h
    exact W.iret (v := (i2 x1)) hx hb hr (fun t ht hW => ⟨⟨_, (), rfl, rfl, by rw [ht]; exact hP, va_K.moved hW.alike hK, hDD _⟩, hS.F ht⟩) hS.2.2 dX1_raiseRoot_70
  refine lv_aload_n hx hb dX1_raiseRoot_0 rfl (lv_at hl 0 rfl) ?_
  refine va_get (D := D) (ci := 1) (v := .ref (a 53)) (C := RX1) (T := TX1) (N := 9) hx hb ht inX1 hown hK hP 49 CW_49 rfl 0 (by decide) (ht (.fieldLink RX1 12 "CloneVolumes$Forest" "now" "LCloneVolumes$State;") fl_X1_12) (fun _ h9 => h9) rfl dX1_raiseRoot_1 ?_
  refine va_get (D := D) (ci := 8) (v := .ref (a 60)) (C := RX8) (T := TX8) (N := 11) hx hb ht inX8 hown hK hP 53 CW_53 rfl 9 (by decide) (ht (.fieldLink RX1 69 "CloneVolumes$State" "roots" "[I") fl_X1_69) (fun _ h9 => h9) rfl dX1_raiseRoot_4 ?_
  refine lv_iload_n hx hb dX1_raiseRoot_7 rfl (lv_at hl 1 rfl) ?_
  obtain ⟨y3, ey3, iy3, h⟩ := rdI_e h
  refine ya_iald (i := p0) hx hb hK hP 60 0 CW_60 rfl (by decide) ey3 iy3 dX1_raiseRoot_8 ?_
  refine lv_istore_n (lv' := [(2, .int (i2 y3)), (0, .ref (a 49)), (1, .int (i2 p0))]) hx hb dX1_raiseRoot_9 rfl hl (by decide) rfl (fun ls hl => ?_)
  refine lv_aload_n hx hb dX1_raiseRoot_10 rfl (lv_at hl 1 rfl) ?_
  refine lv_aload_n hx hb dX1_raiseRoot_11 rfl (lv_at hl 1 rfl) ?_
  refine va_get (D := D) (ci := 1) (v := .ref (a 53)) (C := RX1) (T := TX1) (N := 9) hx hb ht inX1 hown hK hP 49 CW_49 rfl 0 (by decide) (ht (.fieldLink RX1 12 "CloneVolumes$Forest" "now" "LCloneVolumes$State;") fl_X1_12) (fun _ h9 => h9) rfl dX1_raiseRoot_12 ?_
  refine va_get (D := D) (ci := 8) (v := .ref (a 56)) (C := RX8) (T := TX8) (N := 11) hx hb ht inX8 hown hK hP 53 CW_53 rfl 5 (by decide) (ht (.fieldLink RX1 150 "CloneVolumes$State" "level" "[I") fl_X1_150) (fun _ h9 => h9) rfl dX1_raiseRoot_15 ?_
  refine lv_iload_n hx hb dX1_raiseRoot_18 rfl (lv_at hl 0 rfl) ?_
  obtain ⟨y4, ey4, iy4, h⟩ := rdI_e h
  refine ya_iald (i := y3) hx hb hK hP 56 0 CW_56 rfl (by decide) ey4 iy4 dX1_raiseRoot_19 ?_
  refine lv_iconst (v := 1) hx hb dX1_raiseRoot_20 (by decide) ?_
  refine lv_iadd hx hb dX1_raiseRoot_21 ?_
  refine z_topi (y := i2 (y4 + 1)) (i2_add y4 1) ?_
  refine lv_iload_n hx hb dX1_raiseRoot_22 rfl (lv_at hl 0 rfl) ?_
  obtain ⟨⟨r7, s6⟩, hc5, h⟩ := bn_e h
  refine ywV (r0 := i2 r7) (As := [.int (i2 (y4 + 1)), .int (i2 y3)]) (rest := []) (C := RX1) (n := 2) (ws' := CS D a s6) ⟨hx, hb, hml, hown, ht⟩ (k_x1_take l D a (y4 + 1) y3 _ _ _ hc5) (zgV ml_X1_210 im_X1_take se_X1_take in_X1 co_X1_take) rfl rfl (by decide +kernel) ⟨Nat.le_of_ble_eq_true rfl, Nat.le_of_ble_eq_true rfl⟩ hN hK hP (hDD _) hS hA 49 CW_49 rfl rfl rfl hl.1 rfl (Nat.le_of_ble_eq_true rfl) dX1_raiseRoot_23 ⟨Nat.le_of_ble_eq_true rfl, Nat.le_of_ble_eq_true rfl⟩ (fun H locs hP hS => ?_)
  refine lv_istore_n (lv' := [(3, .int (i2 r7)), (2, .int (i2 y3)), (0, .ref (a 49)), (1, .int (i2 p0))]) hx hb dX1_raiseRoot_26 rfl hl (by decide) rfl (fun ls hl => ?_)
  refine lv_iload_n hx hb dX1_raiseRoot_27 rfl (lv_at hl 0 rfl) ?_
  refine lv_iconst (v := (-1)) hx hb dX1_raiseRoot_28 (by decide) ?_
  obtain ⟨hr8, h⟩ := rg_e h
  refine lv_icmp_eq (tgt := 69) hx hb dX1_raiseRoot_29 (by decide) (fun c9 => ?_) (fun c9 => ?_)
  · rw [show ((-1) : Int32) = i2 (-1) from by decide] at c9
    have h := if_t ((i2_eq (x := r7) (y := (-1)) hr8 (by decide)).mp c9) h
    exact J69 (r7, s6) _ _ _ ⟨hP, hS, lv_sub hl [0] rfl, h⟩
  · rw [show ((-1) : Int32) = i2 (-1) from by decide] at c9
    have h := if_f (mt (i2_eq (x := r7) (y := (-1)) hr8 (by decide)).mpr c9) h
    refine lv_aload_n hx hb dX1_raiseRoot_32 rfl (lv_at hl 2 rfl) ?_
    refine va_get (D := D) (ci := 1) (v := .ref (a 53)) (C := RX1) (T := TX1) (N := 9) hx hb ht inX1 hown hK hP 49 CW_49 rfl 0 (by decide) (ht (.fieldLink RX1 12 "CloneVolumes$Forest" "now" "LCloneVolumes$State;") fl_X1_12) (fun _ h9 => h9) rfl dX1_raiseRoot_33 ?_
    refine lv_iload_n hx hb dX1_raiseRoot_36 rfl (lv_at hl 0 rfl) ?_
    refine lv_iconst (v := 0) hx hb dX1_raiseRoot_37 (by decide) ?_
    refine lv_aload_n hx hb dX1_raiseRoot_38 rfl (lv_at hl 2 rfl) ?_
    refine va_get (D := D) (ci := 1) (v := .ref (a 53)) (C := RX1) (T := TX1) (N := 9) hx hb ht inX1 hown hK hP 49 CW_49 rfl 0 (by decide) (ht (.fieldLink RX1 12 "CloneVolumes$Forest" "now" "LCloneVolumes$State;") fl_X1_12) (fun _ h9 => h9) rfl dX1_raiseRoot_39 ?_
    refine va_get (D := D) (ci := 8) (v := .ref (a 58)) (C := RX8) (T := TX8) (N := 11) hx hb ht inX8 hown hK hP 53 CW_53 rfl 7 (by decide) (ht (.fieldLink RX1 227 "CloneVolumes$State" "keys" "[I") fl_X1_227) (fun _ h9 => h9) rfl dX1_raiseRoot_42 ?_
    refine lv_aload_n hx hb dX1_raiseRoot_45 rfl (lv_at hl 2 rfl) ?_
    refine va_get (D := D) (ci := 1) (v := .ref (a 53)) (C := RX1) (T := TX1) (N := 9) hx hb ht inX1 hown hK hP 49 CW_49 rfl 0 (by decide) (ht (.fieldLink RX1 12 "CloneVolumes$Forest" "now" "LCloneVolumes$State;") fl_X1_12) (fun _ h9 => h9) rfl dX1_raiseRoot_46 ?_
    refine lv_iload_n hx hb dX1_raiseRoot_49 rfl (lv_at hl 1 rfl) ?_
    refine lv_iconst (v := 0) hx hb dX1_raiseRoot_50 (by decide) ?_
    obtain ⟨r11, hc10, h⟩ := bn_e h
    refine ycV (r0 := i2 r11) (As := [.int (i2 y3), .int 0]) (rest := [.ref (a 58), .int 0, .int (i2 r7), .ref (a 53)]) (C := RX8) (n := 2) ⟨hx, hb, hml, hown, ht⟩ (k_x8_slot l D a y3 0 _ _ hc10) (zgV ml_X1_220 im_X8_slot se_X8_slot in_X8 co_X8_slot) rfl rfl (by decide +kernel) ⟨Nat.le_of_ble_eq_true rfl, Nat.le_of_ble_eq_true rfl⟩ hN hK hP hS 53 CW_53 rfl rfl rfl hl.1 rfl (Nat.le_of_ble_eq_true rfl) dX1_raiseRoot_51 ⟨Nat.le_of_ble_eq_true rfl, Nat.le_of_ble_eq_true rfl⟩ (fun H locs hP hS => ?_)
    obtain ⟨y12, ey12, iy12, h⟩ := rdI_e h
    refine ya_iald (i := r11) hx hb hK hP 58 0 CW_58 rfl (by decide) ey12 iy12 dX1_raiseRoot_54 ?_
    refine lv_iload_n hx hb dX1_raiseRoot_55 rfl (lv_at hl 1 rfl) ?_
    obtain ⟨s14, hc13, h⟩ := bn_e h
    refine ywVv (As := [.int (i2 r7), .int 0, .int (i2 y12), .int (i2 y3)]) (rest := []) (C := RX8) (n := 4) (ws' := CS D a s14) ⟨hx, hb, hml, hown, ht⟩ (k_x8_insert l D a r7 0 y12 y3 _ _ _ hc13) (zgV ml_X1_258 im_X8_insert se_X8_insert in_X8 co_X8_insert) rfl rfl (by decide +kernel) ⟨Nat.le_of_ble_eq_true rfl, Nat.le_of_ble_eq_true rfl⟩ hN hK hP (hDD _) hS hA 53 CW_53 rfl rfl rfl hl.1 rfl (Nat.le_of_ble_eq_true rfl) dX1_raiseRoot_56 ⟨Nat.le_of_ble_eq_true rfl, Nat.le_of_ble_eq_true rfl⟩ (fun H locs hP hS => ?_)
    refine lv_aload_n hx hb dX1_raiseRoot_59 rfl (lv_at hl 2 rfl) ?_
    refine va_get (D := D) (ci := 1) (v := .ref (a 53)) (C := RX1) (T := TX1) (N := 9) hx hb ht inX1 hown hK hP 49 CW_49 rfl 0 (by decide) (ht (.fieldLink RX1 12 "CloneVolumes$Forest" "now" "LCloneVolumes$State;") fl_X1_12) (fun _ h9 => h9) rfl dX1_raiseRoot_60 ?_
    refine va_get (D := D) (ci := 8) (v := .ref (a 60)) (C := RX8) (T := TX8) (N := 11) hx hb ht inX8 hown hK hP 53 CW_53 rfl 9 (by decide) (ht (.fieldLink RX1 69 "CloneVolumes$State" "roots" "[I") fl_X1_69) (fun _ h9 => h9) rfl dX1_raiseRoot_63 ?_
    refine lv_iload_n hx hb dX1_raiseRoot_66 rfl (lv_at hl 3 rfl) ?_
    refine lv_iload_n hx hb dX1_raiseRoot_67 rfl (lv_at hl 0 rfl) ?_
    obtain ⟨hi15, h⟩ := inb_e h
    refine ya_iast (i := p0) (x := r7) hx hb hK hP (hDD _) hS 60 0 CW_60 rfl (by decide) hi15 dX1_raiseRoot_68 (CW_w60 _) (fun H locs hP hS => ?_)
    obtain ⟨s16, hs16, h⟩ := st_e h
    rw [hs16] at hP
    exact J69 (r7, s16) _ _ _ ⟨hP, hS, lv_sub hl [0] rfl, h⟩
set_option maxHeartbeats 4000000 in
set_option maxRecDepth 100000 in
theorem k_x1_plant (l : Launch) (D : va_G) (a : Nat → Nat) (p0 : Int) (p1 : Int) (p2 : Int) (sz : Nat) (s : MS) (o : (Int × MS)) (h : m_x1_plant p0 p1 p2 s = some o) : yWi l yX1_plant cX1_plant 8 (some .boolean) { frames := 4, cells := 0, slots := 0, locals := 240 } D sz [.ref (a 49), .int (i2 p0), .int (i2 p1), .int (i2 p2)] (CS D a s) (CS D a o.2) (i2 o.1) := by
  refine Met.ofW (cc := cX1_plant) (maxL := 8) (ret := (some .boolean)) (by decide) rfl ?_
  intro p e s₀ m args below meth c s₁ B hml hv
  obtain ⟨rfl, ⟨hsz, hP, hK, hD0⟩, hN⟩ := hv
  have hx := B.exec
  have hb := B.bytes
  have hr := B.returns
  have hts := atoms_spec (ws := wz yX1_plant cX1_plant 8 (some .boolean)) B.pre
  have ht : ∀ w ∈ lw_gd, w.before _ s₀ = true := fun w h => hts w (List.mem_cons_of_mem _ h)
  have hown : s₀.vm.findClass RX1 = some m.cls := findClass_of_methodNamed B.named
  have hlocks := B.notSynchronized
  subst hsz
  have hD := hD0.self (sz := s₀.heap.size)
  generalize hAe : va_A (CS D a s) s₀.heap.size = A at hD ⊢
  have hA : ∀ q : Nat, s₀.heap.size ≤ q → A q := fun q h => by rw [← hAe]; exact Or.inr h
  have hS : va_S A s₀.heap s₀.heap [] := va_S.rf
  have hDD : ∀ t : MS, va_D A (CS D a t) := fun t => CW_D t hD
  have hl := lv_entry ([.ref (a 49), .int (i2 p0), .int (i2 p1), .int (i2 p2)]) (n := 8) (Nat.le_of_ble_eq_true rfl)
  rw [lg_entry_eq]
  generalize (lg_sl ([.ref (a 49), .int (i2 p0), .int (i2 p1), .int (i2 p2)]) ++ List.replicate (8 - (lg_sl ([.ref (a 49), .int (i2 p0), .int (i2 p1), .int (i2 p2)])).length) Slot.unset).toArray = ls at hl ⊢
  have hl : lv_has ls 8 [(0, .ref (a 49)), (1, .int (i2 p0)), (2, .int (i2 p1)), (3, .int (i2 p2))] := hl
  unfold m_x1_plant at h
  refine y_head (pcJ := 219) (σ := Int × Int × Int × MS) (fun u H locs ls => va_P D vwCl (CS D a u.2.2.2) H ∧ va_S A s₀.heap H locs ∧ lv_has ls 8 [(0, .ref (a 49)), (2, .int (i2 u.1)), (3, .int (i2 u.2.1)), (4, .int (i2 u.2.2.1))] ∧ m_x1_plant_J219 u.1 u.2.1 u.2.2.1 u.2.2.2 = some o) (fun u => []) (fun u H locs ls hI => ?_) (fun J219 => ?_)
  · obtain ⟨hP, hS, hl, h⟩ := hI
    obtain ⟨x1, x2, x3, s4⟩ := u
    have hP : va_P D vwCl (CS D a s4) H := hP
    have hl : lv_has ls 8 [(0, .ref (a 49)), (2, .int (i2 x1)), (3, .int (i2 x2)), (4, .int (i2 x3))] := hl
    have h : m_x1_plant_J219 x1 x2 x3 s4 = some o := h
    unfold m_x1_plant_J219 at h
    refine lv_iload hx hb dX1_plant_219 (lv_at hl 3 rfl) ?_
    refine lv_iconst (v := (-1)) hx hb dX1_plant_221 (by decide) ?_
    obtain ⟨hr5, h⟩ := rg_e h
    refine lv_icmp_ne (tgt := 227) hx hb dX1_plant_222 (by decide) (fun c6 => ?_) (fun c6 => ?_)
    · rw [show ((-1) : Int32) = i2 (-1) from by decide] at c6
      have h := if_f (mt (i2_eq (x := x3) (y := (-1)) hr5 (by decide)).mpr c6) h
      refine lv_aload_n hx hb dX1_plant_227 rfl (lv_at hl 0 rfl) ?_
      refine lv_iload hx hb dX1_plant_228 (lv_at hl 3 rfl) ?_
      refine lv_iload_n hx hb dX1_plant_230 rfl (lv_at hl 1 rfl) ?_
      refine lv_iload_n hx hb dX1_plant_231 rfl (lv_at hl 2 rfl) ?_
      obtain ⟨s8, hc7, h⟩ := bn_e h
      refine ywVv (As := [.int (i2 x3), .int (i2 x1), .int (i2 x2)]) (rest := []) (C := RX1) (n := 3) (ws' := CS D a s8) ⟨hx, hb, hml, hown, ht⟩ (k_x1_plantLow l D a x3 x1 x2 _ _ _ hc7) (zgV ml_X1_255 im_X1_plantLow se_X1_plantLow in_X1 co_X1_plantLow) rfl rfl (by decide +kernel) ⟨Nat.le_of_ble_eq_true rfl, Nat.le_of_ble_eq_true rfl⟩ hN hK hP (hDD _) hS hA 49 CW_49 rfl rfl rfl hl.1 rfl (Nat.le_of_ble_eq_true rfl) dX1_plant_232 ⟨Nat.le_of_ble_eq_true rfl, Nat.le_of_ble_eq_true rfl⟩ (fun H locs hP hS => ?_)
      refine lv_iconst (v := 1) hx hb dX1_plant_235 (by decide) ?_
      obtain rfl := Option.some.inj h
      exact W.zret (v := 1) hx hb hr (by decide) (fun t ht hW => ⟨⟨_, (), rfl, rfl, by rw [ht]; exact hP, va_K.moved hW.alike hK, hDD _⟩, hS.F ht⟩) hS.2.2 dX1_plant_236
    · rw [show ((-1) : Int32) = i2 (-1) from by decide] at c6
      have h := if_t ((i2_eq (x := x3) (y := (-1)) hr5 (by decide)).mp c6) h
      refine lv_iconst (v := 0) hx hb dX1_plant_225 (by decide) ?_
      obtain rfl := Option.some.inj h
      exact W.zret (v := 0) hx hb hr (by decide) (fun t ht hW => ⟨⟨_, (), rfl, rfl, by rw [ht]; exact hP, va_K.moved hW.alike hK, hDD _⟩, hS.F ht⟩) hS.2.2 dX1_plant_226
  refine y_loop (pcJ := 117) (σ := Int × Int × Int × Int × MS) (fun n u H locs ls => va_P D vwCl (CS D a u.2.2.2.2) H ∧ va_S A s₀.heap H locs ∧ lv_has ls 8 [(0, .ref (a 49)), (2, .int (i2 u.1)), (3, .int (i2 u.2.1)), (4, .int (i2 u.2.2.1)), (5, .int (i2 u.2.2.2.1))] ∧ m_x1_plant_L117 n u.1 u.2.1 u.2.2.1 u.2.2.2.1 u.2.2.2.2 = some o) (fun u => []) (fun u H locs ls hI => by obtain ⟨_, _, _, h⟩ := hI; cases h) (fun n117 ih117 u H locs ls hI => ?_) (fun J117 => ?_)
  · obtain ⟨hP, hS, hl, h⟩ := hI
    obtain ⟨x9, x10, x11, x12, s13⟩ := u
    have hP : va_P D vwCl (CS D a s13) H := hP
    have hl : lv_has ls 8 [(0, .ref (a 49)), (2, .int (i2 x9)), (3, .int (i2 x10)), (4, .int (i2 x11)), (5, .int (i2 x12))] := hl
    have h : m_x1_plant_b117 (m_x1_plant_L117 n117) x9 x10 x11 x12 s13 = some o := h
    unfold m_x1_plant_b117 at h
    refine y_head (pcJ := 211) (σ := Int × Int × Int × Int × MS) (fun u H locs ls => va_P D vwCl (CS D a u.2.2.2.2) H ∧ va_S A s₀.heap H locs ∧ lv_has ls 8 [(0, .ref (a 49)), (2, .int (i2 u.1)), (3, .int (i2 u.2.1)), (5, .int (i2 u.2.2.1))] ∧ m_x1_plant_J211 (m_x1_plant_L117 n117) u.1 u.2.1 u.2.2.1 u.2.2.2.1 u.2.2.2.2 = some o) (fun u => [.int (i2 u.2.2.2.1)]) (fun u H locs ls hI => ?_) (fun J211 => ?_)
    · obtain ⟨hP, hS, hl, h⟩ := hI
      obtain ⟨x14, x15, x16, x17, s18⟩ := u
      have hP : va_P D vwCl (CS D a s18) H := hP
      have hl : lv_has ls 8 [(0, .ref (a 49)), (2, .int (i2 x14)), (3, .int (i2 x15)), (5, .int (i2 x16))] := hl
      have h : m_x1_plant_J211 (m_x1_plant_L117 n117) x14 x15 x16 x17 s18 = some o := h
      unfold m_x1_plant_J211 at h
      refine lv_istore (lv' := [(4, .int (i2 x17)), (0, .ref (a 49)), (2, .int (i2 x14)), (3, .int (i2 x15)), (5, .int (i2 x16))]) hx hb dX1_plant_211 hl (by decide) rfl (fun ls hl => ?_)
      refine lv_iinc (v := i2 (x16 + (-1))) (lv' := [(5, .int (i2 (x16 + (-1)))), (4, .int (i2 x17)), (0, .ref (a 49)), (2, .int (i2 x14)), (3, .int (i2 x15))]) hx hb dX1_plant_213 hl (k := 4) rfl (i2_add x16 (-1)) (by decide) rfl (fun ls hl => ?_)
      refine lv_goto (tgt := 117) hx hb dX1_plant_216 (by decide) ?_
      exact ih117 (x14, x15, x17, x16 + (-1), s18) _ _ _ ⟨hP, hS, lv_sub hl [2, 3, 4, 1, 0] rfl, h⟩
    refine lv_iload hx hb dX1_plant_117 (lv_at hl 4 rfl) ?_
    obtain ⟨hr19, h⟩ := rg_e h
    refine lv_if_le (tgt := 219) hx hb dX1_plant_119 (by decide) (fun c20 => ?_) (fun c20 => ?_)
    · have h := if_t ((i2_le (x := x12) (y := 0) hr19 (by decide)).mp c20) h
      exact J219 (x9, x10, x11, s13) _ _ _ ⟨hP, hS, lv_sub hl [0, 1, 2, 3] rfl, h⟩
    · have h := if_f (mt (i2_le (x := x12) (y := 0) hr19 (by decide)).mpr c20) h
      refine lv_iload hx hb dX1_plant_122 (lv_at hl 3 rfl) ?_
      refine lv_iconst (v := (-1)) hx hb dX1_plant_124 (by decide) ?_
      obtain ⟨hr21, h⟩ := rg_e h
      refine lv_icmp_eq (tgt := 219) hx hb dX1_plant_125 (by decide) (fun c22 => ?_) (fun c22 => ?_)
      · rw [show ((-1) : Int32) = i2 (-1) from by decide] at c22
        have h := if_t ((i2_eq (x := x11) (y := (-1)) hr21 (by decide)).mp c22) h
        exact J219 (x9, x10, x11, s13) _ _ _ ⟨hP, hS, lv_sub hl [0, 1, 2, 3] rfl, h⟩
      · rw [show ((-1) : Int32) = i2 (-1) from by decide] at c22
        have h := if_f (mt (i2_eq (x := x11) (y := (-1)) hr21 (by decide)).mpr c22) h
        refine lv_aload_n hx hb dX1_plant_128 rfl (lv_at hl 0 rfl) ?_
        refine va_get (D := D) (ci := 1) (v := .ref (a 53)) (C := RX1) (T := TX1) (N := 9) hx hb ht inX1 hown hK hP 49 CW_49 rfl 0 (by decide) (ht (.fieldLink RX1 12 "CloneVolumes$Forest" "now" "LCloneVolumes$State;") fl_X1_12) (fun _ h9 => h9) rfl dX1_plant_129 ?_
        refine lv_iload hx hb dX1_plant_132 (lv_at hl 3 rfl) ?_
        refine lv_iload_n hx hb dX1_plant_134 rfl (lv_at hl 1 rfl) ?_
        obtain ⟨r24, hc23, h⟩ := bn_e h
        refine ycV (r0 := i2 r24) (As := [.int (i2 x11), .int (i2 x9)]) (rest := []) (C := RX8) (n := 2) ⟨hx, hb, hml, hown, ht⟩ (k_x8_entryFor l D a x11 x9 _ _ hc23) (zgV ml_X1_249 im_X8_entryFor se_X8_entryFor in_X8 co_X8_entryFor) rfl rfl (by decide +kernel) ⟨Nat.le_of_ble_eq_true rfl, Nat.le_of_ble_eq_true rfl⟩ hN hK hP hS 53 CW_53 rfl rfl rfl hl.1 rfl (Nat.le_of_ble_eq_true rfl) dX1_plant_135 ⟨Nat.le_of_ble_eq_true rfl, Nat.le_of_ble_eq_true rfl⟩ (fun H locs hP hS => ?_)
        refine lv_istore (lv' := [(6, .int (i2 r24)), (0, .ref (a 49)), (2, .int (i2 x9)), (3, .int (i2 x10)), (4, .int (i2 x11)), (5, .int (i2 x12))]) hx hb dX1_plant_138 hl (by decide) rfl (fun ls hl => ?_)
        refine lv_aload_n hx hb dX1_plant_140 rfl (lv_at hl 1 rfl) ?_
        refine lv_aload_n hx hb dX1_plant_141 rfl (lv_at hl 1 rfl) ?_
        refine va_get (D := D) (ci := 1) (v := .ref (a 53)) (C := RX1) (T := TX1) (N := 9) hx hb ht inX1 hown hK hP 49 CW_49 rfl 0 (by decide) (ht (.fieldLink RX1 12 "CloneVolumes$Forest" "now" "LCloneVolumes$State;") fl_X1_12) (fun _ h9 => h9) rfl dX1_plant_142 ?_
        refine va_get (D := D) (ci := 8) (v := .ref (a 59)) (C := RX8) (T := TX8) (N := 11) hx hb ht inX8 hown hK hP 53 CW_53 rfl 8 (by decide) (ht (.fieldLink RX1 217 "CloneVolumes$State" "values" "[I") fl_X1_217) (fun _ h9 => h9) rfl dX1_plant_145 ?_
        refine lv_aload_n hx hb dX1_plant_148 rfl (lv_at hl 1 rfl) ?_
        refine va_get (D := D) (ci := 1) (v := .ref (a 53)) (C := RX1) (T := TX1) (N := 9) hx hb ht inX1 hown hK hP 49 CW_49 rfl 0 (by decide) (ht (.fieldLink RX1 12 "CloneVolumes$Forest" "now" "LCloneVolumes$State;") fl_X1_12) (fun _ h9 => h9) rfl dX1_plant_149 ?_
        refine lv_iload hx hb dX1_plant_152 (lv_at hl 4 rfl) ?_
        refine lv_iload hx hb dX1_plant_154 (lv_at hl 0 rfl) ?_
        obtain ⟨r26, hc25, h⟩ := bn_e h
        refine ycV (r0 := i2 r26) (As := [.int (i2 x11), .int (i2 r24)]) (rest := [.ref (a 59), .ref (a 49)]) (C := RX8) (n := 2) ⟨hx, hb, hml, hown, ht⟩ (k_x8_slot l D a x11 r24 _ _ hc25) (zgV ml_X1_220 im_X8_slot se_X8_slot in_X8 co_X8_slot) rfl rfl (by decide +kernel) ⟨Nat.le_of_ble_eq_true rfl, Nat.le_of_ble_eq_true rfl⟩ hN hK hP hS 53 CW_53 rfl rfl rfl hl.1 rfl (Nat.le_of_ble_eq_true rfl) dX1_plant_156 ⟨Nat.le_of_ble_eq_true rfl, Nat.le_of_ble_eq_true rfl⟩ (fun H locs hP hS => ?_)
        obtain ⟨y27, ey27, iy27, h⟩ := rdI_e h
        refine ya_iald (i := r26) hx hb hK hP 59 0 CW_59 rfl (by decide) ey27 iy27 dX1_plant_159 ?_
        obtain ⟨⟨r30, s29⟩, hc28, h⟩ := bn_e h
        refine ywV (r0 := i2 r30) (As := [.int (i2 y27)]) (rest := []) (C := RX1) (n := 1) (ws' := CS D a s29) ⟨hx, hb, hml, hown, ht⟩ (k_x1_owned l D a y27 _ _ _ hc28) (zgV ml_X1_236 im_X1_owned se_X1_owned in_X1 co_X1_owned) rfl rfl (by decide +kernel) ⟨Nat.le_of_ble_eq_true rfl, Nat.le_of_ble_eq_true rfl⟩ hN hK hP (hDD _) hS hA 49 CW_49 rfl rfl rfl hl.1 rfl (Nat.le_of_ble_eq_true rfl) dX1_plant_160 ⟨Nat.le_of_ble_eq_true rfl, Nat.le_of_ble_eq_true rfl⟩ (fun H locs hP hS => ?_)
        refine lv_istore (lv' := [(7, .int (i2 r30)), (6, .int (i2 r24)), (0, .ref (a 49)), (2, .int (i2 x9)), (3, .int (i2 x10)), (4, .int (i2 x11)), (5, .int (i2 x12))]) hx hb dX1_plant_163 hl (by decide) rfl (fun ls hl => ?_)
        refine lv_iload hx hb dX1_plant_165 (lv_at hl 0 rfl) ?_
        refine lv_iconst (v := (-1)) hx hb dX1_plant_167 (by decide) ?_
        obtain ⟨hr31, h⟩ := rg_e h
        refine lv_icmp_ne (tgt := 173) hx hb dX1_plant_168 (by decide) (fun c32 => ?_) (fun c32 => ?_)
        · rw [show ((-1) : Int32) = i2 (-1) from by decide] at c32
          have h := if_f (mt (i2_eq (x := r30) (y := (-1)) hr31 (by decide)).mpr c32) h
          refine lv_aload_n hx hb dX1_plant_173 rfl (lv_at hl 2 rfl) ?_
          refine va_get (D := D) (ci := 1) (v := .ref (a 53)) (C := RX1) (T := TX1) (N := 9) hx hb ht inX1 hown hK hP 49 CW_49 rfl 0 (by decide) (ht (.fieldLink RX1 12 "CloneVolumes$Forest" "now" "LCloneVolumes$State;") fl_X1_12) (fun _ h9 => h9) rfl dX1_plant_174 ?_
          refine lv_iload hx hb dX1_plant_177 (lv_at hl 5 rfl) ?_
          refine lv_iload hx hb dX1_plant_179 (lv_at hl 1 rfl) ?_
          refine lv_iload hx hb dX1_plant_181 (lv_at hl 0 rfl) ?_
          obtain ⟨s34, hc33, h⟩ := bn_e h
          refine ywVv (As := [.int (i2 x11), .int (i2 r24), .int (i2 r30)]) (rest := []) (C := RX8) (n := 3) (ws' := CS D a s34) ⟨hx, hb, hml, hown, ht⟩ (k_x8_set l D a x11 r24 r30 _ _ _ hc33) (zgV ml_X1_252 im_X8_set se_X8_set in_X8 co_X8_set) rfl rfl (by decide +kernel) ⟨Nat.le_of_ble_eq_true rfl, Nat.le_of_ble_eq_true rfl⟩ hN hK hP (hDD _) hS hA 53 CW_53 rfl rfl rfl hl.1 rfl (Nat.le_of_ble_eq_true rfl) dX1_plant_183 ⟨Nat.le_of_ble_eq_true rfl, Nat.le_of_ble_eq_true rfl⟩ (fun H locs hP hS => ?_)
          refine lv_aload_n hx hb dX1_plant_186 rfl (lv_at hl 2 rfl) ?_
          refine lv_iload hx hb dX1_plant_187 (lv_at hl 0 rfl) ?_
          obtain ⟨⟨r37, s36⟩, hc35, h⟩ := bn_e h
          refine ywV (r0 := i2 r37) (As := [.int (i2 r30)]) (rest := []) (C := RX1) (n := 1) (ws' := CS D a s36) ⟨hx, hb, hml, hown, ht⟩ (k_x1_splits l D a r30 _ _ _ hc35) (zgV ml_X1_239 im_X1_splits se_X1_splits in_X1 co_X1_splits) rfl rfl (by decide +kernel) ⟨Nat.le_of_ble_eq_true rfl, Nat.le_of_ble_eq_true rfl⟩ hN hK hP (hDD _) hS hA 49 CW_49 rfl rfl rfl hl.1 rfl (Nat.le_of_ble_eq_true rfl) dX1_plant_189 ⟨Nat.le_of_ble_eq_true rfl, Nat.le_of_ble_eq_true rfl⟩ (fun H locs hP hS => ?_)
          obtain ⟨hr38, h⟩ := rg_e h
          refine lv_if_eq (tgt := 209) hx hb dX1_plant_192 (by decide) (fun c39 => ?_) (fun c39 => ?_)
          · have h := if_t ((i2_eq (x := r37) (y := 0) hr38 (by decide)).mp c39) h
            refine lv_iload hx hb dX1_plant_209 (lv_at hl 0 rfl) ?_
            exact J211 (x9, x10, x12, r30, s36) _ _ _ ⟨hP, hS, lv_sub hl [2, 3, 4, 6] rfl, h⟩
          · have h := if_f (mt (i2_eq (x := r37) (y := 0) hr38 (by decide)).mpr c39) h
            refine lv_aload_n hx hb dX1_plant_195 rfl (lv_at hl 2 rfl) ?_
            refine lv_iload hx hb dX1_plant_196 (lv_at hl 5 rfl) ?_
            refine lv_iload hx hb dX1_plant_198 (lv_at hl 1 rfl) ?_
            refine lv_iload hx hb dX1_plant_200 (lv_at hl 0 rfl) ?_
            refine lv_iload_n hx hb dX1_plant_202 rfl (lv_at hl 3 rfl) ?_
            obtain ⟨⟨r42, s41⟩, hc40, h⟩ := bn_e h
            refine ywV (r0 := i2 r42) (As := [.int (i2 x11), .int (i2 r24), .int (i2 r30), .int (i2 x9)]) (rest := []) (C := RX1) (n := 4) (ws' := CS D a s41) ⟨hx, hb, hml, hown, ht⟩ (k_x1_split l D a x11 r24 r30 x9 _ _ _ hc40) (zgV ml_X1_245 im_X1_split se_X1_split in_X1 co_X1_split) rfl rfl (by decide +kernel) ⟨Nat.le_of_ble_eq_true rfl, Nat.le_of_ble_eq_true rfl⟩ hN hK hP (hDD _) hS hA 49 CW_49 rfl rfl rfl hl.1 rfl (Nat.le_of_ble_eq_true rfl) dX1_plant_203 ⟨Nat.le_of_ble_eq_true rfl, Nat.le_of_ble_eq_true rfl⟩ (fun H locs hP hS => ?_)
            refine lv_goto (tgt := 211) hx hb dX1_plant_206 (by decide) ?_
            exact J211 (x9, x10, x12, r42, s41) _ _ _ ⟨hP, hS, lv_sub hl [2, 3, 4, 6] rfl, h⟩
        · rw [show ((-1) : Int32) = i2 (-1) from by decide] at c32
          have h := if_t ((i2_eq (x := r30) (y := (-1)) hr31 (by decide)).mp c32) h
          refine lv_iconst (v := 0) hx hb dX1_plant_171 (by decide) ?_
          obtain rfl := Option.some.inj h
          exact W.zret (v := 0) hx hb hr (by decide) (fun t ht hW => ⟨⟨_, (), rfl, rfl, by rw [ht]; exact hP, va_K.moved hW.alike hK, hDD _⟩, hS.F ht⟩) hS.2.2 dX1_plant_172
  refine y_head (pcJ := 115) (σ := Int × Int × Int × Int × MS) (fun u H locs ls => va_P D vwCl (CS D a u.2.2.2.2) H ∧ va_S A s₀.heap H locs ∧ lv_has ls 8 [(0, .ref (a 49)), (2, .int (i2 u.1)), (3, .int (i2 u.2.1)), (4, .int (i2 u.2.2.1))] ∧ m_x1_plant_J115 u.1 u.2.1 u.2.2.1 u.2.2.2.1 u.2.2.2.2 = some o) (fun u => [.int (i2 u.2.2.2.1)]) (fun u H locs ls hI => ?_) (fun J115 => ?_)
  · obtain ⟨hP, hS, hl, h⟩ := hI
    obtain ⟨x43, x44, x45, x46, s47⟩ := u
    have hP : va_P D vwCl (CS D a s47) H := hP
    have hl : lv_has ls 8 [(0, .ref (a 49)), (2, .int (i2 x43)), (3, .int (i2 x44)), (4, .int (i2 x45))] := hl
    have h : m_x1_plant_J115 x43 x44 x45 x46 s47 = some o := h
    unfold m_x1_plant_J115 at h
    refine lv_istore (lv' := [(5, .int (i2 x46)), (0, .ref (a 49)), (2, .int (i2 x43)), (3, .int (i2 x44)), (4, .int (i2 x45))]) hx hb dX1_plant_115 hl (by decide) rfl (fun ls hl => ?_)
    exact J117 FU (x43, x44, x45, x46, s47) _ _ _ ⟨hP, hS, lv_sub hl [1, 2, 3, 4, 0] rfl, h⟩
  refine y_head (pcJ := 95) (σ := Int × Int × Int × MS) (fun u H locs ls => va_P D vwCl (CS D a u.2.2.2) H ∧ va_S A s₀.heap H locs ∧ lv_has ls 8 [(0, .ref (a 49)), (2, .int (i2 u.1)), (3, .int (i2 u.2.1)), (4, .int (i2 u.2.2.1))] ∧ m_x1_plant_J95 u.1 u.2.1 u.2.2.1 u.2.2.2 = some o) (fun u => []) (fun u H locs ls hI => ?_) (fun J95 => ?_)
  · obtain ⟨hP, hS, hl, h⟩ := hI
    obtain ⟨x48, x49, x50, s51⟩ := u
    have hP : va_P D vwCl (CS D a s51) H := hP
    have hl : lv_has ls 8 [(0, .ref (a 49)), (2, .int (i2 x48)), (3, .int (i2 x49)), (4, .int (i2 x50))] := hl
    have h : m_x1_plant_J95 x48 x49 x50 s51 = some o := h
    unfold m_x1_plant_J95 at h
    refine lv_iload hx hb dX1_plant_95 (lv_at hl 3 rfl) ?_
    refine lv_iconst (v := (-1)) hx hb dX1_plant_97 (by decide) ?_
    obtain ⟨hr52, h⟩ := rg_e h
    refine lv_icmp_ne (tgt := 105) hx hb dX1_plant_98 (by decide) (fun c53 => ?_) (fun c53 => ?_)
    · rw [show ((-1) : Int32) = i2 (-1) from by decide] at c53
      have h := if_f (mt (i2_eq (x := x50) (y := (-1)) hr52 (by decide)).mpr c53) h
      refine lv_aload_n hx hb dX1_plant_105 rfl (lv_at hl 0 rfl) ?_
      refine va_get (D := D) (ci := 1) (v := .ref (a 53)) (C := RX1) (T := TX1) (N := 9) hx hb ht inX1 hown hK hP 49 CW_49 rfl 0 (by decide) (ht (.fieldLink RX1 12 "CloneVolumes$Forest" "now" "LCloneVolumes$State;") fl_X1_12) (fun _ h9 => h9) rfl dX1_plant_106 ?_
      refine va_get (D := D) (ci := 8) (v := .ref (a 56)) (C := RX8) (T := TX8) (N := 11) hx hb ht inX8 hown hK hP 53 CW_53 rfl 5 (by decide) (ht (.fieldLink RX1 150 "CloneVolumes$State" "level" "[I") fl_X1_150) (fun _ h9 => h9) rfl dX1_plant_109 ?_
      refine lv_iload hx hb dX1_plant_112 (lv_at hl 3 rfl) ?_
      obtain ⟨y54, ey54, iy54, h⟩ := rdI_e h
      refine ya_iald (i := x50) hx hb hK hP 56 0 CW_56 rfl (by decide) ey54 iy54 dX1_plant_114 ?_
      exact J115 (x48, x49, x50, y54, s51) _ _ _ ⟨hP, hS, lv_sub hl [0, 1, 2, 3] rfl, h⟩
    · rw [show ((-1) : Int32) = i2 (-1) from by decide] at c53
      have h := if_t ((i2_eq (x := x50) (y := (-1)) hr52 (by decide)).mp c53) h
      refine lv_iconst (v := 0) hx hb dX1_plant_101 (by decide) ?_
      refine lv_goto (tgt := 115) hx hb dX1_plant_102 (by decide) ?_
      exact J115 (x48, x49, x50, 0, s51) _ _ _ ⟨hP, hS, lv_sub hl [0, 1, 2, 3] rfl, h⟩
  refine y_head (pcJ := 93) (σ := Int × Int × Int × MS) (fun u H locs ls => va_P D vwCl (CS D a u.2.2.2) H ∧ va_S A s₀.heap H locs ∧ lv_has ls 8 [(0, .ref (a 49)), (2, .int (i2 u.1)), (3, .int (i2 u.2.1))] ∧ m_x1_plant_J93 u.1 u.2.1 u.2.2.1 u.2.2.2 = some o) (fun u => [.int (i2 u.2.2.1)]) (fun u H locs ls hI => ?_) (fun J93 => ?_)
  · obtain ⟨hP, hS, hl, h⟩ := hI
    obtain ⟨x55, x56, x57, s58⟩ := u
    have hP : va_P D vwCl (CS D a s58) H := hP
    have hl : lv_has ls 8 [(0, .ref (a 49)), (2, .int (i2 x55)), (3, .int (i2 x56))] := hl
    have h : m_x1_plant_J93 x55 x56 x57 s58 = some o := h
    unfold m_x1_plant_J93 at h
    refine lv_istore (lv' := [(4, .int (i2 x57)), (0, .ref (a 49)), (2, .int (i2 x55)), (3, .int (i2 x56))]) hx hb dX1_plant_93 hl (by decide) rfl (fun ls hl => ?_)
    exact J95 (x55, x56, x57, s58) _ _ _ ⟨hP, hS, lv_sub hl [1, 2, 3, 0] rfl, h⟩
  refine y_head (pcJ := 36) (σ := Int × Int × Int × Int × MS) (fun u H locs ls => va_P D vwCl (CS D a u.2.2.2.2) H ∧ va_S A s₀.heap H locs ∧ lv_has ls 8 [(0, .ref (a 49)), (1, .int (i2 u.1)), (2, .int (i2 u.2.1)), (3, .int (i2 u.2.2.1))] ∧ m_x1_plant_J36 u.1 u.2.1 u.2.2.1 u.2.2.2.1 u.2.2.2.2 = some o) (fun u => [.int (i2 u.2.2.2.1)]) (fun u H locs ls hI => ?_) (fun J36 => ?_)
  · obtain ⟨hP, hS, hl, h⟩ := hI
    obtain ⟨x59, x60, x61, x62, s63⟩ := u
    have hP : va_P D vwCl (CS D a s63) H := hP
    have hl : lv_has ls 8 [(0, .ref (a 49)), (1, .int (i2 x59)), (2, .int (i2 x60)), (3, .int (i2 x61))] := hl
    have h : m_x1_plant_J36 x59 x60 x61 x62 s63 = some o := h
    unfold m_x1_plant_J36 at h
    refine lv_istore (lv' := [(4, .int (i2 x62)), (0, .ref (a 49)), (1, .int (i2 x59)), (2, .int (i2 x60)), (3, .int (i2 x61))]) hx hb dX1_plant_36 hl (by decide) rfl (fun ls hl => ?_)
    refine lv_iload hx hb dX1_plant_38 (lv_at hl 0 rfl) ?_
    refine lv_iconst (v := (-1)) hx hb dX1_plant_40 (by decide) ?_
    obtain ⟨hr64, h⟩ := rg_e h
    refine lv_icmp_ne (tgt := 46) hx hb dX1_plant_41 (by decide) (fun c65 => ?_) (fun c65 => ?_)
    · rw [show ((-1) : Int32) = i2 (-1) from by decide] at c65
      have h := if_f (mt (i2_eq (x := x62) (y := (-1)) hr64 (by decide)).mpr c65) h
      refine lv_aload_n hx hb dX1_plant_46 rfl (lv_at hl 1 rfl) ?_
      refine va_get (D := D) (ci := 1) (v := .ref (a 53)) (C := RX1) (T := TX1) (N := 9) hx hb ht inX1 hown hK hP 49 CW_49 rfl 0 (by decide) (ht (.fieldLink RX1 12 "CloneVolumes$Forest" "now" "LCloneVolumes$State;") fl_X1_12) (fun _ h9 => h9) rfl dX1_plant_47 ?_
      refine va_get (D := D) (ci := 8) (v := .ref (a 60)) (C := RX8) (T := TX8) (N := 11) hx hb ht inX8 hown hK hP 53 CW_53 rfl 9 (by decide) (ht (.fieldLink RX1 69 "CloneVolumes$State" "roots" "[I") fl_X1_69) (fun _ h9 => h9) rfl dX1_plant_50 ?_
      refine lv_iload_n hx hb dX1_plant_53 rfl (lv_at hl 2 rfl) ?_
      refine lv_iload hx hb dX1_plant_54 (lv_at hl 0 rfl) ?_
      obtain ⟨hi66, h⟩ := inb_e h
      refine ya_iast (i := x59) (x := x62) hx hb hK hP (hDD _) hS 60 0 CW_60 rfl (by decide) hi66 dX1_plant_56 (CW_w60 _) (fun H locs hP hS => ?_)
      obtain ⟨s67, hs67, h⟩ := st_e h
      rw [hs67] at hP
      refine lv_aload_n hx hb dX1_plant_57 rfl (lv_at hl 1 rfl) ?_
      refine lv_iload hx hb dX1_plant_58 (lv_at hl 0 rfl) ?_
      obtain ⟨⟨r70, s69⟩, hc68, h⟩ := bn_e h
      refine ywV (r0 := i2 r70) (As := [.int (i2 x62)]) (rest := []) (C := RX1) (n := 1) (ws' := CS D a s69) ⟨hx, hb, hml, hown, ht⟩ (k_x1_splits l D a x62 _ _ _ hc68) (zgV ml_X1_239 im_X1_splits se_X1_splits in_X1 co_X1_splits) rfl rfl (by decide +kernel) ⟨Nat.le_of_ble_eq_true rfl, Nat.le_of_ble_eq_true rfl⟩ hN hK hP (hDD _) hS hA 49 CW_49 rfl rfl rfl hl.1 rfl (Nat.le_of_ble_eq_true rfl) dX1_plant_60 ⟨Nat.le_of_ble_eq_true rfl, Nat.le_of_ble_eq_true rfl⟩ (fun H locs hP hS => ?_)
      obtain ⟨hr71, h⟩ := rg_e h
      refine lv_if_eq (tgt := 95) hx hb dX1_plant_63 (by decide) (fun c72 => ?_) (fun c72 => ?_)
      · have h := if_t ((i2_eq (x := r70) (y := 0) hr71 (by decide)).mp c72) h
        exact J95 (x60, x61, x62, s69) _ _ _ ⟨hP, hS, lv_sub hl [1, 3, 4, 0] rfl, h⟩
      · have h := if_f (mt (i2_eq (x := r70) (y := 0) hr71 (by decide)).mpr c72) h
        refine lv_aload_n hx hb dX1_plant_66 rfl (lv_at hl 1 rfl) ?_
        refine lv_iload_n hx hb dX1_plant_67 rfl (lv_at hl 2 rfl) ?_
        obtain ⟨⟨r75, s74⟩, hc73, h⟩ := bn_e h
        refine ywV (r0 := i2 r75) (As := [.int (i2 x59)]) (rest := []) (C := RX1) (n := 1) (ws' := CS D a s74) ⟨hx, hb, hml, hown, ht⟩ (k_x1_raiseRoot l D a x59 _ _ _ hc73) (zgV ml_X1_242 im_X1_raiseRoot se_X1_raiseRoot in_X1 co_X1_raiseRoot) rfl rfl (by decide +kernel) ⟨Nat.le_of_ble_eq_true rfl, Nat.le_of_ble_eq_true rfl⟩ hN hK hP (hDD _) hS hA 49 CW_49 rfl rfl rfl hl.1 rfl (Nat.le_of_ble_eq_true rfl) dX1_plant_68 ⟨Nat.le_of_ble_eq_true rfl, Nat.le_of_ble_eq_true rfl⟩ (fun H locs hP hS => ?_)
        refine lv_istore (lv' := [(5, .int (i2 r75)), (4, .int (i2 x62)), (0, .ref (a 49)), (1, .int (i2 x59)), (2, .int (i2 x60)), (3, .int (i2 x61))]) hx hb dX1_plant_71 hl (by decide) rfl (fun ls hl => ?_)
        refine lv_iload hx hb dX1_plant_73 (lv_at hl 0 rfl) ?_
        refine lv_iconst (v := (-1)) hx hb dX1_plant_75 (by decide) ?_
        obtain ⟨hr76, h⟩ := rg_e h
        refine lv_icmp_ne (tgt := 83) hx hb dX1_plant_76 (by decide) (fun c77 => ?_) (fun c77 => ?_)
        · rw [show ((-1) : Int32) = i2 (-1) from by decide] at c77
          have h := if_f (mt (i2_eq (x := r75) (y := (-1)) hr76 (by decide)).mpr c77) h
          refine lv_aload_n hx hb dX1_plant_83 rfl (lv_at hl 2 rfl) ?_
          refine lv_iload hx hb dX1_plant_84 (lv_at hl 0 rfl) ?_
          refine lv_iconst (v := 0) hx hb dX1_plant_86 (by decide) ?_
          refine lv_iload hx hb dX1_plant_87 (lv_at hl 1 rfl) ?_
          refine lv_iload_n hx hb dX1_plant_89 rfl (lv_at hl 4 rfl) ?_
          obtain ⟨⟨r80, s79⟩, hc78, h⟩ := bn_e h
          refine ywV (r0 := i2 r80) (As := [.int (i2 r75), .int 0, .int (i2 x62), .int (i2 x60)]) (rest := []) (C := RX1) (n := 4) (ws' := CS D a s79) ⟨hx, hb, hml, hown, ht⟩ (k_x1_split l D a r75 0 x62 x60 _ _ _ hc78) (zgV ml_X1_245 im_X1_split se_X1_split in_X1 co_X1_split) rfl rfl (by decide +kernel) ⟨Nat.le_of_ble_eq_true rfl, Nat.le_of_ble_eq_true rfl⟩ hN hK hP (hDD _) hS hA 49 CW_49 rfl rfl rfl hl.1 rfl (Nat.le_of_ble_eq_true rfl) dX1_plant_90 ⟨Nat.le_of_ble_eq_true rfl, Nat.le_of_ble_eq_true rfl⟩ (fun H locs hP hS => ?_)
          exact J93 (x60, x61, r80, s79) _ _ _ ⟨hP, hS, lv_sub hl [2, 4, 5] rfl, h⟩
        · rw [show ((-1) : Int32) = i2 (-1) from by decide] at c77
          have h := if_t ((i2_eq (x := r75) (y := (-1)) hr76 (by decide)).mp c77) h
          refine lv_iconst (v := (-1)) hx hb dX1_plant_79 (by decide) ?_
          refine lv_goto (tgt := 93) hx hb dX1_plant_80 (by decide) ?_
          exact J93 (x60, x61, (-1), s74) _ _ _ ⟨hP, hS, lv_sub hl [2, 4, 5] rfl, h⟩
    · rw [show ((-1) : Int32) = i2 (-1) from by decide] at c65
      have h := if_t ((i2_eq (x := x62) (y := (-1)) hr64 (by decide)).mp c65) h
      refine lv_iconst (v := 0) hx hb dX1_plant_44 (by decide) ?_
      obtain rfl := Option.some.inj h
      exact W.zret (v := 0) hx hb hr (by decide) (fun t ht hW => ⟨⟨_, (), rfl, rfl, by rw [ht]; exact hP, va_K.moved hW.alike hK, hDD _⟩, hS.F ht⟩) hS.2.2 dX1_plant_45
  refine lv_aload_n hx hb dX1_plant_0 rfl (lv_at hl 0 rfl) ?_
  refine va_get (D := D) (ci := 1) (v := .ref (a 53)) (C := RX1) (T := TX1) (N := 9) hx hb ht inX1 hown hK hP 49 CW_49 rfl 0 (by decide) (ht (.fieldLink RX1 12 "CloneVolumes$Forest" "now" "LCloneVolumes$State;") fl_X1_12) (fun _ h9 => h9) rfl dX1_plant_1 ?_
  refine va_get (D := D) (ci := 8) (v := .ref (a 60)) (C := RX8) (T := TX8) (N := 11) hx hb ht inX8 hown hK hP 53 CW_53 rfl 9 (by decide) (ht (.fieldLink RX1 69 "CloneVolumes$State" "roots" "[I") fl_X1_69) (fun _ h9 => h9) rfl dX1_plant_4 ?_
  refine lv_iload_n hx hb dX1_plant_7 rfl (lv_at hl 1 rfl) ?_
  obtain ⟨y81, ey81, iy81, h⟩ := rdI_e h
  refine ya_iald (i := p0) hx hb hK hP 60 0 CW_60 rfl (by decide) ey81 iy81 dX1_plant_8 ?_
  refine lv_iconst (v := (-1)) hx hb dX1_plant_9 (by decide) ?_
  obtain ⟨hr82, h⟩ := rg_e h
  refine lv_icmp_ne (tgt := 23) hx hb dX1_plant_10 (by decide) (fun c83 => ?_) (fun c83 => ?_)
  · rw [show ((-1) : Int32) = i2 (-1) from by decide] at c83
    have h := if_f (mt (i2_eq (x := y81) (y := (-1)) hr82 (by decide)).mpr c83) h
    refine lv_aload_n hx hb dX1_plant_23 rfl (lv_at hl 0 rfl) ?_
    refine lv_aload_n hx hb dX1_plant_24 rfl (lv_at hl 0 rfl) ?_
    refine va_get (D := D) (ci := 1) (v := .ref (a 53)) (C := RX1) (T := TX1) (N := 9) hx hb ht inX1 hown hK hP 49 CW_49 rfl 0 (by decide) (ht (.fieldLink RX1 12 "CloneVolumes$Forest" "now" "LCloneVolumes$State;") fl_X1_12) (fun _ h9 => h9) rfl dX1_plant_25 ?_
    refine va_get (D := D) (ci := 8) (v := .ref (a 60)) (C := RX8) (T := TX8) (N := 11) hx hb ht inX8 hown hK hP 53 CW_53 rfl 9 (by decide) (ht (.fieldLink RX1 69 "CloneVolumes$State" "roots" "[I") fl_X1_69) (fun _ h9 => h9) rfl dX1_plant_28 ?_
    refine lv_iload_n hx hb dX1_plant_31 rfl (lv_at hl 1 rfl) ?_
    obtain ⟨y84, ey84, iy84, h⟩ := rdI_e h
    refine ya_iald (i := p0) hx hb hK hP 60 0 CW_60 rfl (by decide) ey84 iy84 dX1_plant_32 ?_
    obtain ⟨⟨r87, s86⟩, hc85, h⟩ := bn_e h
    refine ywV (r0 := i2 r87) (As := [.int (i2 y84)]) (rest := []) (C := RX1) (n := 1) (ws' := CS D a s86) ⟨hx, hb, hml, hown, ht⟩ (k_x1_owned l D a y84 _ _ _ hc85) (zgV ml_X1_236 im_X1_owned se_X1_owned in_X1 co_X1_owned) rfl rfl (by decide +kernel) ⟨Nat.le_of_ble_eq_true rfl, Nat.le_of_ble_eq_true rfl⟩ hN hK hP (hDD _) hS hA 49 CW_49 rfl rfl rfl hl.1 rfl (Nat.le_of_ble_eq_true rfl) dX1_plant_33 ⟨Nat.le_of_ble_eq_true rfl, Nat.le_of_ble_eq_true rfl⟩ (fun H locs hP hS => ?_)
    exact J36 (p0, p1, p2, r87, s86) _ _ _ ⟨hP, hS, lv_sub hl [0, 1, 2, 3] rfl, h⟩
  · rw [show ((-1) : Int32) = i2 (-1) from by decide] at c83
    have h := if_t ((i2_eq (x := y81) (y := (-1)) hr82 (by decide)).mp c83) h
    refine lv_aload_n hx hb dX1_plant_13 rfl (lv_at hl 0 rfl) ?_
    refine lv_iconst (v := 0) hx hb dX1_plant_14 (by decide) ?_
    refine lv_bipush (v := 48) hx hb dX1_plant_15 (by decide) ?_
    obtain ⟨⟨r90, s89⟩, hc88, h⟩ := bn_e h
    refine ywV (r0 := i2 r90) (As := [.int 0, .int 48]) (rest := []) (C := RX1) (n := 2) (ws' := CS D a s89) ⟨hx, hb, hml, hown, ht⟩ (k_x1_take l D a 0 48 _ _ _ hc88) (zgV ml_X1_210 im_X1_take se_X1_take in_X1 co_X1_take) rfl rfl (by decide +kernel) ⟨Nat.le_of_ble_eq_true rfl, Nat.le_of_ble_eq_true rfl⟩ hN hK hP (hDD _) hS hA 49 CW_49 rfl rfl rfl hl.1 rfl (Nat.le_of_ble_eq_true rfl) dX1_plant_17 ⟨Nat.le_of_ble_eq_true rfl, Nat.le_of_ble_eq_true rfl⟩ (fun H locs hP hS => ?_)
    refine lv_goto (tgt := 36) hx hb dX1_plant_20 (by decide) ?_
    exact J36 (p0, p1, p2, r90, s89) _ _ _ ⟨hP, hS, lv_sub hl [0, 1, 2, 3] rfl, h⟩
