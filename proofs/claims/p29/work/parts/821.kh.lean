theorem co_X1_layEntries : Cond.code yX1_layEntries cX1_layEntries 5 none ∈ lw_gd := zm (lw_g_4 (List.mem_of_getElem? (i := 72) (by decide +kernel))) rfl
theorem co_X1_owned : Cond.code yX1_owned cX1_owned 4 (some .int) ∈ lw_gd := zm (lw_g_4 (List.mem_of_getElem? (i := 64) (by decide +kernel))) rfl
theorem co_X1_plantLow : Cond.code yX1_plantLow cX1_plantLow 7 none ∈ lw_gd := zm (lw_g_4 (List.mem_of_getElem? (i := 111) (by decide +kernel))) rfl
theorem co_X1_raiseRoot : Cond.code yX1_raiseRoot cX1_raiseRoot 4 (some .int) ∈ lw_gd := zm (lw_g_4 (List.mem_of_getElem? (i := 89) (by decide +kernel))) rfl
theorem co_X1_split : Cond.code yX1_split cX1_split 8 (some .int) ∈ lw_gd := zm (lw_g_4 (List.mem_of_getElem? (i := 99) (by decide +kernel))) rfl
theorem co_X1_splits : Cond.code yX1_splits cX1_splits 2 (some .boolean) ∈ lw_gd := zm (lw_g_4 (List.mem_of_getElem? (i := 85) (by decide +kernel))) rfl
theorem co_X1_take : Cond.code yX1_take cX1_take 8 (some .int) ∈ lw_gd := zm (lw_g_4 (List.mem_of_getElem? (i := 21) (by decide +kernel))) rfl
theorem co_X3_value : Cond.code yX3_value cX3_value 7 (some .int) ∈ lw_gd := zm (lw_g_4 (List.mem_of_getElem? (i := 33) (by decide +kernel))) rfl
theorem co_X8_isFree : Cond.code yX8_isFree cX8_isFree 2 (some .boolean) ∈ lw_gd := zm (lw_g_4 (List.mem_of_getElem? (i := 25) (by decide +kernel))) rfl
theorem fl_X1_117 : Cond.fieldLink RX1 117 "CloneVolumes$State" "blocks" "I" ∈ lw_gd := zm (lw_g_2 (List.mem_of_getElem? (i := 118) (by decide +kernel))) rfl
theorem fl_X1_144 : Cond.fieldLink RX1 144 "CloneVolumes$Plan" "begins" "[I" ∈ lw_gd := zm (lw_g_2 (List.mem_of_getElem? (i := 66) (by decide +kernel))) rfl
theorem fl_X1_147 : Cond.fieldLink RX1 147 "CloneVolumes$Machine" "number" "I" ∈ lw_gd := zm (lw_g_2 (List.mem_of_getElem? (i := 196) (by decide +kernel))) rfl
theorem fl_X1_153 : Cond.fieldLink RX1 153 "CloneVolumes$Machine" "level" "I" ∈ lw_gd := zm (lw_g_2 (List.mem_of_getElem? (i := 200) (by decide +kernel))) rfl
theorem fl_X1_158 : Cond.fieldLink RX1 158 "CloneVolumes$Machine" "entries" "I" ∈ lw_gd := zm (lw_g_2 (List.mem_of_getElem? (i := 202) (by decide +kernel))) rfl
theorem fl_X1_161 : Cond.fieldLink RX1 161 "CloneVolumes$Plan" "code" "LCloneVolumes$Code;" ∈ lw_gd := zm (lw_g_2 (List.mem_of_getElem? (i := 63) (by decide +kernel))) rfl
theorem fl_X1_165 : Cond.fieldLink RX1 165 "CloneVolumes$Plan" "ends" "[I" ∈ lw_gd := zm (lw_g_2 (List.mem_of_getElem? (i := 69) (by decide +kernel))) rfl
theorem fl_X1_172 : Cond.fieldLink RX1 172 "CloneVolumes$Plan" "entriesMost" "I" ∈ lw_gd := zm (lw_g_2 (List.mem_of_getElem? (i := 38) (by decide +kernel))) rfl
theorem fl_X1_201 : Cond.fieldLink RX1 201 "CloneVolumes$Machine" "source" "I" ∈ lw_gd := zm (lw_g_2 (List.mem_of_getElem? (i := 198) (by decide +kernel))) rfl
theorem fl_X1_69 : Cond.fieldLink RX1 69 "CloneVolumes$State" "roots" "[I" ∈ lw_gd := zm (lw_g_2 (List.mem_of_getElem? (i := 158) (by decide +kernel))) rfl
theorem im_X1_layEntries : Cond.instanceMethod yX1_layEntries ∈ lw_gd := zm (lw_g_4 (List.mem_of_getElem? (i := 71) (by decide +kernel))) rfl
theorem im_X1_owned : Cond.instanceMethod yX1_owned ∈ lw_gd := zm (lw_g_4 (List.mem_of_getElem? (i := 63) (by decide +kernel))) rfl
theorem im_X1_plantLow : Cond.instanceMethod yX1_plantLow ∈ lw_gd := zm (lw_g_4 (List.mem_of_getElem? (i := 110) (by decide +kernel))) rfl
theorem im_X1_raiseRoot : Cond.instanceMethod yX1_raiseRoot ∈ lw_gd := zm (lw_g_4 (List.mem_of_getElem? (i := 88) (by decide +kernel))) rfl
theorem im_X1_split : Cond.instanceMethod yX1_split ∈ lw_gd := zm (lw_g_4 (List.mem_of_getElem? (i := 98) (by decide +kernel))) rfl
theorem im_X1_splits : Cond.instanceMethod yX1_splits ∈ lw_gd := zm (lw_g_4 (List.mem_of_getElem? (i := 84) (by decide +kernel))) rfl
theorem im_X1_take : Cond.instanceMethod yX1_take ∈ lw_gd := zm (lw_g_4 (List.mem_of_getElem? (i := 20) (by decide +kernel))) rfl
theorem im_X3_value : Cond.instanceMethod yX3_value ∈ lw_gd := zm (lw_g_4 (List.mem_of_getElem? (i := 31) (by decide +kernel))) rfl
theorem im_X8_isFree : Cond.instanceMethod yX8_isFree ∈ lw_gd := zm (lw_g_4 (List.mem_of_getElem? (i := 23) (by decide +kernel))) rfl
theorem ml_X1_168 : Cond.methodLink RX1 168 yX3_value ∈ lw_gd := zm (lw_g_4 (List.mem_of_getElem? (i := 30) (by decide +kernel))) rfl
theorem ml_X1_186 : Cond.methodLink RX1 186 yX8_isFresh ∈ lw_gd := zm (lw_g_4 (List.mem_of_getElem? (i := 65) (by decide +kernel))) rfl
theorem ml_X1_204 : Cond.methodLink RX1 204 yX8_isFree ∈ lw_gd := zm (lw_g_4 (List.mem_of_getElem? (i := 22) (by decide +kernel))) rfl
theorem ml_X1_207 : Cond.methodLink RX1 207 yX8_mark ∈ lw_gd := zm (lw_g_4 (List.mem_of_getElem? (i := 57) (by decide +kernel))) rfl
theorem ml_X1_210 : Cond.methodLink RX1 210 yX1_take ∈ lw_gd := zm (lw_g_4 (List.mem_of_getElem? (i := 18) (by decide +kernel))) rfl
theorem ml_X1_213 : Cond.methodLink RX1 213 yX1_layEntries ∈ lw_gd := zm (lw_g_4 (List.mem_of_getElem? (i := 69) (by decide +kernel))) rfl
theorem ml_X1_236 : Cond.methodLink RX1 236 yX1_owned ∈ lw_gd := zm (lw_g_4 (List.mem_of_getElem? (i := 61) (by decide +kernel))) rfl
theorem ml_X1_239 : Cond.methodLink RX1 239 yX1_splits ∈ lw_gd := zm (lw_g_4 (List.mem_of_getElem? (i := 82) (by decide +kernel))) rfl
theorem ml_X1_242 : Cond.methodLink RX1 242 yX1_raiseRoot ∈ lw_gd := zm (lw_g_4 (List.mem_of_getElem? (i := 86) (by decide +kernel))) rfl
theorem ml_X1_245 : Cond.methodLink RX1 245 yX1_split ∈ lw_gd := zm (lw_g_4 (List.mem_of_getElem? (i := 96) (by decide +kernel))) rfl
theorem ml_X1_249 : Cond.methodLink RX1 249 yX8_entryFor ∈ lw_gd := zm (lw_g_4 (List.mem_of_getElem? (i := 100) (by decide +kernel))) rfl
theorem ml_X1_255 : Cond.methodLink RX1 255 yX1_plantLow ∈ lw_gd := zm (lw_g_4 (List.mem_of_getElem? (i := 108) (by decide +kernel))) rfl
theorem se_X1_layEntries : Cond.selects RX1 yX1_layEntries yX1_layEntries ∈ lw_gd := zm (List.mem_of_getElem? (i := 35) (by decide +kernel)) rfl
theorem se_X1_owned : Cond.selects RX1 yX1_owned yX1_owned ∈ lw_gd := zm (List.mem_of_getElem? (i := 34) (by decide +kernel)) rfl
theorem se_X1_plantLow : Cond.selects RX1 yX1_plantLow yX1_plantLow ∈ lw_gd := zm (List.mem_of_getElem? (i := 40) (by decide +kernel)) rfl
theorem se_X1_raiseRoot : Cond.selects RX1 yX1_raiseRoot yX1_raiseRoot ∈ lw_gd := zm (List.mem_of_getElem? (i := 38) (by decide +kernel)) rfl
theorem se_X1_split : Cond.selects RX1 yX1_split yX1_split ∈ lw_gd := zm (List.mem_of_getElem? (i := 39) (by decide +kernel)) rfl
theorem se_X1_splits : Cond.selects RX1 yX1_splits yX1_splits ∈ lw_gd := zm (List.mem_of_getElem? (i := 37) (by decide +kernel)) rfl
theorem se_X1_take : Cond.selects RX1 yX1_take yX1_take ∈ lw_gd := zm (List.mem_of_getElem? (i := 29) (by decide +kernel)) rfl
theorem se_X3_value : Cond.selects RX3 yX3_value yX3_value ∈ lw_gd := zm (lw_g_4 (List.mem_of_getElem? (i := 32) (by decide +kernel))) rfl
theorem se_X8_isFree : Cond.selects RX8 yX8_isFree yX8_isFree ∈ lw_gd := zm (lw_g_4 (List.mem_of_getElem? (i := 24) (by decide +kernel))) rfl
theorem eX1_layEntries_0 : decode cX1_layEntries 0 = .ok (.aload_n 0, 1) ∧ decode cX1_layEntries 1 = .ok (.getfield 12, 3) ∧ decode cX1_layEntries 4 = .ok (.getfield 155, 3) ∧ decode cX1_layEntries 7 = .ok (.iload_n 1, 1) ∧ decode cX1_layEntries 8 = .ok (.iaload, 1) ∧ decode cX1_layEntries 9 = .ok (.iload_n 2, 1) ∧ decode cX1_layEntries 10 = .ok (.isub, 1) ∧ decode cX1_layEntries 11 = .ok (.istore 4, 2) := by decide +kernel
theorem eX1_layEntries_13 : decode cX1_layEntries 13 = .ok (.aload_n 0, 1) ∧ decode cX1_layEntries 14 = .ok (.getfield 12, 3) ∧ decode cX1_layEntries 17 = .ok (.getfield 227, 3) ∧ decode cX1_layEntries 20 = .ok (.aload_n 0, 1) ∧ decode cX1_layEntries 21 = .ok (.getfield 12, 3) ∧ decode cX1_layEntries 24 = .ok (.iload_n 1, 1) ∧ decode cX1_layEntries 25 = .ok (.iload_n 2, 1) ∧ decode cX1_layEntries 26 = .ok (.invokevirtual 220, 3) := by decide +kernel
theorem eX1_layEntries_29 : decode cX1_layEntries 29 = .ok (.aload_n 0, 1) ∧ decode cX1_layEntries 30 = .ok (.getfield 12, 3) ∧ decode cX1_layEntries 33 = .ok (.getfield 227, 3) ∧ decode cX1_layEntries 36 = .ok (.aload_n 0, 1) ∧ decode cX1_layEntries 37 = .ok (.getfield 12, 3) ∧ decode cX1_layEntries 40 = .ok (.iload_n 3, 1) ∧ decode cX1_layEntries 41 = .ok (.iconst 0, 1) ∧ decode cX1_layEntries 42 = .ok (.invokevirtual 220, 3) := by decide +kernel
theorem eX1_layEntries_45 : decode cX1_layEntries 45 = .ok (.iload 4, 2) ∧ decode cX1_layEntries 47 = .ok (.invokestatic 230, 3) ∧ decode cX1_layEntries 50 = .ok (.aload_n 0, 1) ∧ decode cX1_layEntries 51 = .ok (.getfield 12, 3) ∧ decode cX1_layEntries 54 = .ok (.getfield 217, 3) ∧ decode cX1_layEntries 57 = .ok (.aload_n 0, 1) ∧ decode cX1_layEntries 58 = .ok (.getfield 12, 3) ∧ decode cX1_layEntries 61 = .ok (.iload_n 1, 1) := by decide +kernel
theorem eX1_layEntries_62 : decode cX1_layEntries 62 = .ok (.iload_n 2, 1) ∧ decode cX1_layEntries 63 = .ok (.invokevirtual 220, 3) ∧ decode cX1_layEntries 66 = .ok (.aload_n 0, 1) ∧ decode cX1_layEntries 67 = .ok (.getfield 12, 3) ∧ decode cX1_layEntries 70 = .ok (.getfield 217, 3) ∧ decode cX1_layEntries 73 = .ok (.aload_n 0, 1) ∧ decode cX1_layEntries 74 = .ok (.getfield 12, 3) ∧ decode cX1_layEntries 77 = .ok (.iload_n 3, 1) := by decide +kernel
theorem eX1_layEntries_78 : decode cX1_layEntries 78 = .ok (.iconst 0, 1) ∧ decode cX1_layEntries 79 = .ok (.invokevirtual 220, 3) ∧ decode cX1_layEntries 82 = .ok (.iload 4, 2) ∧ decode cX1_layEntries 84 = .ok (.invokestatic 230, 3) ∧ decode cX1_layEntries 87 = .ok (.aload_n 0, 1) ∧ decode cX1_layEntries 88 = .ok (.getfield 12, 3) ∧ decode cX1_layEntries 91 = .ok (.getfield 155, 3) ∧ decode cX1_layEntries 94 = .ok (.iload_n 3, 1) := by decide +kernel
theorem eX1_layEntries_95 : decode cX1_layEntries 95 = .ok (.iload 4, 2) ∧ decode cX1_layEntries 97 = .ok (.iastore, 1) ∧ decode cX1_layEntries 98 = .ok (.return_, 1) ∧ decode cX1_owned 0 = .ok (.aload_n 0, 1) ∧ decode cX1_owned 1 = .ok (.getfield 12, 3) ∧ decode cX1_owned 4 = .ok (.iload_n 1, 1) ∧ decode cX1_owned 5 = .ok (.invokevirtual 186, 3) ∧ decode cX1_owned 8 = .ok (.ifCond .eq 18, 3) := by decide +kernel
theorem eX1_owned_11 : decode cX1_owned 11 = .ok (.aload_n 0, 1) ∧ decode cX1_owned 12 = .ok (.getfield 12, 3) ∧ decode cX1_owned 15 = .ok (.getfield 181, 3) ∧ decode cX1_owned 18 = .ok (.iload_n 1, 1) ∧ decode cX1_owned 19 = .ok (.iaload, 1) ∧ decode cX1_owned 20 = .ok (.iconst 1, 1) ∧ decode cX1_owned 21 = .ok (.if_icmp .ne 5, 3) ∧ decode cX1_owned 24 = .ok (.iload_n 1, 1) := by decide +kernel
theorem eX1_owned_25 : decode cX1_owned 25 = .ok (.ireturn, 1) ∧ decode cX1_owned 26 = .ok (.aload_n 0, 1) ∧ decode cX1_owned 27 = .ok (.aload_n 0, 1) ∧ decode cX1_owned 28 = .ok (.getfield 12, 3) ∧ decode cX1_owned 31 = .ok (.getfield 150, 3) ∧ decode cX1_owned 34 = .ok (.iload_n 1, 1) ∧ decode cX1_owned 35 = .ok (.iaload, 1) ∧ decode cX1_owned 36 = .ok (.iload_n 1, 1) := by decide +kernel
theorem eX1_owned_37 : decode cX1_owned 37 = .ok (.invokevirtual 210, 3) ∧ decode cX1_owned 40 = .ok (.istore_n 2, 1) ∧ decode cX1_owned 41 = .ok (.iload_n 2, 1) ∧ decode cX1_owned 42 = .ok (.iconst (-1), 1) ∧ decode cX1_owned 43 = .ok (.if_icmp .ne 5, 3) ∧ decode cX1_owned 46 = .ok (.iconst (-1), 1) ∧ decode cX1_owned 47 = .ok (.ireturn, 1) ∧ decode cX1_owned 48 = .ok (.aload_n 0, 1) := by decide +kernel
theorem eX1_owned_49 : decode cX1_owned 49 = .ok (.iload_n 1, 1) ∧ decode cX1_owned 50 = .ok (.iconst 0, 1) ∧ decode cX1_owned 51 = .ok (.iload_n 2, 1) ∧ decode cX1_owned 52 = .ok (.invokevirtual 213, 3) ∧ decode cX1_owned 55 = .ok (.aload_n 0, 1) ∧ decode cX1_owned 56 = .ok (.getfield 12, 3) ∧ decode cX1_owned 59 = .ok (.getfield 150, 3) ∧ decode cX1_owned 62 = .ok (.iload_n 2, 1) := by decide +kernel
theorem eX1_owned_63 : decode cX1_owned 63 = .ok (.iaload, 1) ∧ decode cX1_owned 64 = .ok (.ifCond .le 53, 3) ∧ decode cX1_owned 67 = .ok (.iconst 0, 1) ∧ decode cX1_owned 68 = .ok (.istore_n 3, 1) ∧ decode cX1_owned 69 = .ok (.iload_n 3, 1) ∧ decode cX1_owned 70 = .ok (.aload_n 0, 1) ∧ decode cX1_owned 71 = .ok (.getfield 12, 3) ∧ decode cX1_owned 74 = .ok (.getfield 155, 3) := by decide +kernel
theorem eX1_owned_77 : decode cX1_owned 77 = .ok (.iload_n 2, 1) ∧ decode cX1_owned 78 = .ok (.iaload, 1) ∧ decode cX1_owned 79 = .ok (.if_icmp .ge 38, 3) ∧ decode cX1_owned 82 = .ok (.aload_n 0, 1) ∧ decode cX1_owned 83 = .ok (.getfield 12, 3) ∧ decode cX1_owned 86 = .ok (.getfield 181, 3) ∧ decode cX1_owned 89 = .ok (.aload_n 0, 1) ∧ decode cX1_owned 90 = .ok (.getfield 12, 3) := by decide +kernel
theorem eX1_owned_93 : decode cX1_owned 93 = .ok (.getfield 217, 3) ∧ decode cX1_owned 96 = .ok (.aload_n 0, 1) ∧ decode cX1_owned 97 = .ok (.getfield 12, 3) ∧ decode cX1_owned 100 = .ok (.iload_n 2, 1) ∧ decode cX1_owned 101 = .ok (.iload_n 3, 1) ∧ decode cX1_owned 102 = .ok (.invokevirtual 220, 3) ∧ decode cX1_owned 105 = .ok (.iaload, 1) ∧ decode cX1_owned 106 = .ok (.dup2, 1) := by decide +kernel
theorem eX1_owned_107 : decode cX1_owned 107 = .ok (.iaload, 1) ∧ decode cX1_owned 108 = .ok (.iconst 1, 1) ∧ decode cX1_owned 109 = .ok (.iadd, 1) ∧ decode cX1_owned 110 = .ok (.iastore, 1) ∧ decode cX1_owned 111 = .ok (.iinc 3 1, 3) ∧ decode cX1_owned 114 = .ok (.goto (-45), 3) ∧ decode cX1_owned 117 = .ok (.aload_n 0, 1) ∧ decode cX1_owned 118 = .ok (.iload_n 1, 1) := by decide +kernel
theorem eX1_owned_119 : decode cX1_owned 119 = .ok (.aload_n 0, 1) ∧ decode cX1_owned 120 = .ok (.getfield 12, 3) ∧ decode cX1_owned 123 = .ok (.getfield 181, 3) ∧ decode cX1_owned 126 = .ok (.invokevirtual 223, 3) ∧ decode cX1_owned 129 = .ok (.pop, 1) ∧ decode cX1_owned 130 = .ok (.iload_n 2, 1) ∧ decode cX1_owned 131 = .ok (.ireturn, 1) ∧ decode cX1_plant 0 = .ok (.aload_n 0, 1) := by decide +kernel
theorem eX1_plant_1 : decode cX1_plant 1 = .ok (.getfield 12, 3) ∧ decode cX1_plant 4 = .ok (.getfield 69, 3) ∧ decode cX1_plant 7 = .ok (.iload_n 1, 1) ∧ decode cX1_plant 8 = .ok (.iaload, 1) ∧ decode cX1_plant 9 = .ok (.iconst (-1), 1) ∧ decode cX1_plant 10 = .ok (.if_icmp .ne 13, 3) ∧ decode cX1_plant 13 = .ok (.aload_n 0, 1) ∧ decode cX1_plant 14 = .ok (.iconst 0, 1) := by decide +kernel
theorem eX1_plant_15 : decode cX1_plant 15 = .ok (.bipush 48, 2) ∧ decode cX1_plant 17 = .ok (.invokevirtual 210, 3) ∧ decode cX1_plant 20 = .ok (.goto 16, 3) ∧ decode cX1_plant 23 = .ok (.aload_n 0, 1) ∧ decode cX1_plant 24 = .ok (.aload_n 0, 1) ∧ decode cX1_plant 25 = .ok (.getfield 12, 3) ∧ decode cX1_plant 28 = .ok (.getfield 69, 3) ∧ decode cX1_plant 31 = .ok (.iload_n 1, 1) := by decide +kernel
theorem eX1_plant_32 : decode cX1_plant 32 = .ok (.iaload, 1) ∧ decode cX1_plant 33 = .ok (.invokevirtual 236, 3) ∧ decode cX1_plant 36 = .ok (.istore 4, 2) ∧ decode cX1_plant 38 = .ok (.iload 4, 2) ∧ decode cX1_plant 40 = .ok (.iconst (-1), 1) ∧ decode cX1_plant 41 = .ok (.if_icmp .ne 5, 3) ∧ decode cX1_plant 44 = .ok (.iconst 0, 1) ∧ decode cX1_plant 45 = .ok (.ireturn, 1) := by decide +kernel
theorem eX1_plant_46 : decode cX1_plant 46 = .ok (.aload_n 0, 1) ∧ decode cX1_plant 47 = .ok (.getfield 12, 3) ∧ decode cX1_plant 50 = .ok (.getfield 69, 3) ∧ decode cX1_plant 53 = .ok (.iload_n 1, 1) ∧ decode cX1_plant 54 = .ok (.iload 4, 2) ∧ decode cX1_plant 56 = .ok (.iastore, 1) ∧ decode cX1_plant 57 = .ok (.aload_n 0, 1) ∧ decode cX1_plant 58 = .ok (.iload 4, 2) := by decide +kernel
theorem eX1_plant_60 : decode cX1_plant 60 = .ok (.invokevirtual 239, 3) ∧ decode cX1_plant 63 = .ok (.ifCond .eq 32, 3) ∧ decode cX1_plant 66 = .ok (.aload_n 0, 1) ∧ decode cX1_plant 67 = .ok (.iload_n 1, 1) ∧ decode cX1_plant 68 = .ok (.invokevirtual 242, 3) ∧ decode cX1_plant 71 = .ok (.istore 5, 2) ∧ decode cX1_plant 73 = .ok (.iload 5, 2) ∧ decode cX1_plant 75 = .ok (.iconst (-1), 1) := by decide +kernel
theorem eX1_plant_76 : decode cX1_plant 76 = .ok (.if_icmp .ne 7, 3) ∧ decode cX1_plant 79 = .ok (.iconst (-1), 1) ∧ decode cX1_plant 80 = .ok (.goto 13, 3) ∧ decode cX1_plant 83 = .ok (.aload_n 0, 1) ∧ decode cX1_plant 84 = .ok (.iload 5, 2) ∧ decode cX1_plant 86 = .ok (.iconst 0, 1) ∧ decode cX1_plant 87 = .ok (.iload 4, 2) ∧ decode cX1_plant 89 = .ok (.iload_n 2, 1) := by decide +kernel
theorem eX1_plant_90 : decode cX1_plant 90 = .ok (.invokevirtual 245, 3) ∧ decode cX1_plant 93 = .ok (.istore 4, 2) ∧ decode cX1_plant 95 = .ok (.iload 4, 2) ∧ decode cX1_plant 97 = .ok (.iconst (-1), 1) ∧ decode cX1_plant 98 = .ok (.if_icmp .ne 7, 3) ∧ decode cX1_plant 101 = .ok (.iconst 0, 1) ∧ decode cX1_plant 102 = .ok (.goto 13, 3) ∧ decode cX1_plant 105 = .ok (.aload_n 0, 1) := by decide +kernel
theorem eX1_plant_106 : decode cX1_plant 106 = .ok (.getfield 12, 3) ∧ decode cX1_plant 109 = .ok (.getfield 150, 3) ∧ decode cX1_plant 112 = .ok (.iload 4, 2) ∧ decode cX1_plant 114 = .ok (.iaload, 1) ∧ decode cX1_plant 115 = .ok (.istore 5, 2) ∧ decode cX1_plant 117 = .ok (.iload 5, 2) ∧ decode cX1_plant 119 = .ok (.ifCond .le 100, 3) ∧ decode cX1_plant 122 = .ok (.iload 4, 2) := by decide +kernel
theorem eX1_plant_124 : decode cX1_plant 124 = .ok (.iconst (-1), 1) ∧ decode cX1_plant 125 = .ok (.if_icmp .eq 94, 3) ∧ decode cX1_plant 128 = .ok (.aload_n 0, 1) ∧ decode cX1_plant 129 = .ok (.getfield 12, 3) ∧ decode cX1_plant 132 = .ok (.iload 4, 2) ∧ decode cX1_plant 134 = .ok (.iload_n 2, 1) ∧ decode cX1_plant 135 = .ok (.invokevirtual 249, 3) ∧ decode cX1_plant 138 = .ok (.istore 6, 2) := by decide +kernel
theorem eX1_plant_140 : decode cX1_plant 140 = .ok (.aload_n 0, 1) ∧ decode cX1_plant 141 = .ok (.aload_n 0, 1) ∧ decode cX1_plant 142 = .ok (.getfield 12, 3) ∧ decode cX1_plant 145 = .ok (.getfield 217, 3) ∧ decode cX1_plant 148 = .ok (.aload_n 0, 1) ∧ decode cX1_plant 149 = .ok (.getfield 12, 3) ∧ decode cX1_plant 152 = .ok (.iload 4, 2) ∧ decode cX1_plant 154 = .ok (.iload 6, 2) := by decide +kernel
theorem eX1_plant_156 : decode cX1_plant 156 = .ok (.invokevirtual 220, 3) ∧ decode cX1_plant 159 = .ok (.iaload, 1) ∧ decode cX1_plant 160 = .ok (.invokevirtual 236, 3) ∧ decode cX1_plant 163 = .ok (.istore 7, 2) ∧ decode cX1_plant 165 = .ok (.iload 7, 2) ∧ decode cX1_plant 167 = .ok (.iconst (-1), 1) ∧ decode cX1_plant 168 = .ok (.if_icmp .ne 5, 3) ∧ decode cX1_plant 171 = .ok (.iconst 0, 1) := by decide +kernel
theorem eX1_plant_172 : decode cX1_plant 172 = .ok (.ireturn, 1) ∧ decode cX1_plant 173 = .ok (.aload_n 0, 1) ∧ decode cX1_plant 174 = .ok (.getfield 12, 3) ∧ decode cX1_plant 177 = .ok (.iload 4, 2) ∧ decode cX1_plant 179 = .ok (.iload 6, 2) ∧ decode cX1_plant 181 = .ok (.iload 7, 2) ∧ decode cX1_plant 183 = .ok (.invokevirtual 252, 3) ∧ decode cX1_plant 186 = .ok (.aload_n 0, 1) := by decide +kernel
theorem eX1_plant_187 : decode cX1_plant 187 = .ok (.iload 7, 2) ∧ decode cX1_plant 189 = .ok (.invokevirtual 239, 3) ∧ decode cX1_plant 192 = .ok (.ifCond .eq 17, 3) ∧ decode cX1_plant 195 = .ok (.aload_n 0, 1) ∧ decode cX1_plant 196 = .ok (.iload 4, 2) ∧ decode cX1_plant 198 = .ok (.iload 6, 2) ∧ decode cX1_plant 200 = .ok (.iload 7, 2) ∧ decode cX1_plant 202 = .ok (.iload_n 2, 1) := by decide +kernel
theorem eX1_plant_203 : decode cX1_plant 203 = .ok (.invokevirtual 245, 3) ∧ decode cX1_plant 206 = .ok (.goto 5, 3) ∧ decode cX1_plant 209 = .ok (.iload 7, 2) ∧ decode cX1_plant 211 = .ok (.istore 4, 2) ∧ decode cX1_plant 213 = .ok (.iinc 5 (-1), 3) ∧ decode cX1_plant 216 = .ok (.goto (-99), 3) ∧ decode cX1_plant 219 = .ok (.iload 4, 2) ∧ decode cX1_plant 221 = .ok (.iconst (-1), 1) := by decide +kernel
theorem eX1_plant_222 : decode cX1_plant 222 = .ok (.if_icmp .ne 5, 3) ∧ decode cX1_plant 225 = .ok (.iconst 0, 1) ∧ decode cX1_plant 226 = .ok (.ireturn, 1) ∧ decode cX1_plant 227 = .ok (.aload_n 0, 1) ∧ decode cX1_plant 228 = .ok (.iload 4, 2) ∧ decode cX1_plant 230 = .ok (.iload_n 2, 1) ∧ decode cX1_plant 231 = .ok (.iload_n 3, 1) ∧ decode cX1_plant 232 = .ok (.invokevirtual 255, 3) := by decide +kernel
theorem eX1_plant_235 : decode cX1_plant 235 = .ok (.iconst 1, 1) ∧ decode cX1_plant 236 = .ok (.ireturn, 1) ∧ decode cX1_raiseRoot 0 = .ok (.aload_n 0, 1) ∧ decode cX1_raiseRoot 1 = .ok (.getfield 12, 3) ∧ decode cX1_raiseRoot 4 = .ok (.getfield 69, 3) ∧ decode cX1_raiseRoot 7 = .ok (.iload_n 1, 1) ∧ decode cX1_raiseRoot 8 = .ok (.iaload, 1) ∧ decode cX1_raiseRoot 9 = .ok (.istore_n 2, 1) := by decide +kernel
theorem eX1_raiseRoot_10 : decode cX1_raiseRoot 10 = .ok (.aload_n 0, 1) ∧ decode cX1_raiseRoot 11 = .ok (.aload_n 0, 1) ∧ decode cX1_raiseRoot 12 = .ok (.getfield 12, 3) ∧ decode cX1_raiseRoot 15 = .ok (.getfield 150, 3) ∧ decode cX1_raiseRoot 18 = .ok (.iload_n 2, 1) ∧ decode cX1_raiseRoot 19 = .ok (.iaload, 1) ∧ decode cX1_raiseRoot 20 = .ok (.iconst 1, 1) ∧ decode cX1_raiseRoot 21 = .ok (.iadd, 1) := by decide +kernel
theorem eX1_raiseRoot_22 : decode cX1_raiseRoot 22 = .ok (.iload_n 2, 1) ∧ decode cX1_raiseRoot 23 = .ok (.invokevirtual 210, 3) ∧ decode cX1_raiseRoot 26 = .ok (.istore_n 3, 1) ∧ decode cX1_raiseRoot 27 = .ok (.iload_n 3, 1) ∧ decode cX1_raiseRoot 28 = .ok (.iconst (-1), 1) ∧ decode cX1_raiseRoot 29 = .ok (.if_icmp .eq 40, 3) ∧ decode cX1_raiseRoot 32 = .ok (.aload_n 0, 1) ∧ decode cX1_raiseRoot 33 = .ok (.getfield 12, 3) := by decide +kernel
theorem eX1_raiseRoot_36 : decode cX1_raiseRoot 36 = .ok (.iload_n 3, 1) ∧ decode cX1_raiseRoot 37 = .ok (.iconst 0, 1) ∧ decode cX1_raiseRoot 38 = .ok (.aload_n 0, 1) ∧ decode cX1_raiseRoot 39 = .ok (.getfield 12, 3) ∧ decode cX1_raiseRoot 42 = .ok (.getfield 227, 3) ∧ decode cX1_raiseRoot 45 = .ok (.aload_n 0, 1) ∧ decode cX1_raiseRoot 46 = .ok (.getfield 12, 3) ∧ decode cX1_raiseRoot 49 = .ok (.iload_n 2, 1) := by decide +kernel
theorem eX1_raiseRoot_50 : decode cX1_raiseRoot 50 = .ok (.iconst 0, 1) ∧ decode cX1_raiseRoot 51 = .ok (.invokevirtual 220, 3) ∧ decode cX1_raiseRoot 54 = .ok (.iaload, 1) ∧ decode cX1_raiseRoot 55 = .ok (.iload_n 2, 1) ∧ decode cX1_raiseRoot 56 = .ok (.invokevirtual 258, 3) ∧ decode cX1_raiseRoot 59 = .ok (.aload_n 0, 1) ∧ decode cX1_raiseRoot 60 = .ok (.getfield 12, 3) ∧ decode cX1_raiseRoot 63 = .ok (.getfield 69, 3) := by decide +kernel
theorem eX1_raiseRoot_66 : decode cX1_raiseRoot 66 = .ok (.iload_n 1, 1) ∧ decode cX1_raiseRoot 67 = .ok (.iload_n 3, 1) ∧ decode cX1_raiseRoot 68 = .ok (.iastore, 1) ∧ decode cX1_raiseRoot 69 = .ok (.iload_n 3, 1) ∧ decode cX1_raiseRoot 70 = .ok (.ireturn, 1) ∧ decode cX1_split 0 = .ok (.aload_n 0, 1) ∧ decode cX1_split 1 = .ok (.aload_n 0, 1) ∧ decode cX1_split 2 = .ok (.getfield 12, 3) := by decide +kernel
theorem eX1_split_5 : decode cX1_split 5 = .ok (.getfield 150, 3) ∧ decode cX1_split 8 = .ok (.iload_n 3, 1) ∧ decode cX1_split 9 = .ok (.iaload, 1) ∧ decode cX1_split 10 = .ok (.iload_n 3, 1) ∧ decode cX1_split 11 = .ok (.invokevirtual 210, 3) ∧ decode cX1_split 14 = .ok (.istore 5, 2) ∧ decode cX1_split 16 = .ok (.iload 5, 2) ∧ decode cX1_split 18 = .ok (.iconst (-1), 1) := by decide +kernel
theorem eX1_split_19 : decode cX1_split 19 = .ok (.if_icmp .ne 5, 3) ∧ decode cX1_split 22 = .ok (.iconst (-1), 1) ∧ decode cX1_split 23 = .ok (.ireturn, 1) ∧ decode cX1_split 24 = .ok (.aload_n 0, 1) ∧ decode cX1_split 25 = .ok (.getfield 12, 3) ∧ decode cX1_split 28 = .ok (.getfield 155, 3) ∧ decode cX1_split 31 = .ok (.iload_n 3, 1) ∧ decode cX1_split 32 = .ok (.iaload, 1) := by decide +kernel
theorem eX1_split_33 : decode cX1_split 33 = .ok (.aload_n 0, 1) ∧ decode cX1_split 34 = .ok (.getfield 12, 3) ∧ decode cX1_split 37 = .ok (.getfield 155, 3) ∧ decode cX1_split 40 = .ok (.iload_n 3, 1) ∧ decode cX1_split 41 = .ok (.iaload, 1) ∧ decode cX1_split 42 = .ok (.iconst 2, 1) ∧ decode cX1_split 43 = .ok (.idiv, 1) ∧ decode cX1_split 44 = .ok (.isub, 1) := by decide +kernel
theorem eX1_split_45 : decode cX1_split 45 = .ok (.istore 6, 2) ∧ decode cX1_split 47 = .ok (.aload_n 0, 1) ∧ decode cX1_split 48 = .ok (.iload_n 3, 1) ∧ decode cX1_split 49 = .ok (.iload 6, 2) ∧ decode cX1_split 51 = .ok (.iload 5, 2) ∧ decode cX1_split 53 = .ok (.invokevirtual 213, 3) ∧ decode cX1_split 56 = .ok (.aload_n 0, 1) ∧ decode cX1_split 57 = .ok (.getfield 12, 3) := by decide +kernel
theorem eX1_split_60 : decode cX1_split 60 = .ok (.getfield 155, 3) ∧ decode cX1_split 63 = .ok (.iload_n 3, 1) ∧ decode cX1_split 64 = .ok (.iload 6, 2) ∧ decode cX1_split 66 = .ok (.iastore, 1) ∧ decode cX1_split 67 = .ok (.aload_n 0, 1) ∧ decode cX1_split 68 = .ok (.getfield 12, 3) ∧ decode cX1_split 71 = .ok (.iload_n 3, 1) ∧ decode cX1_split 72 = .ok (.invokevirtual 207, 3) := by decide +kernel
theorem eX1_split_75 : decode cX1_split 75 = .ok (.aload_n 0, 1) ∧ decode cX1_split 76 = .ok (.getfield 12, 3) ∧ decode cX1_split 79 = .ok (.getfield 227, 3) ∧ decode cX1_split 82 = .ok (.aload_n 0, 1) ∧ decode cX1_split 83 = .ok (.getfield 12, 3) ∧ decode cX1_split 86 = .ok (.iload 5, 2) ∧ decode cX1_split 88 = .ok (.iconst 0, 1) ∧ decode cX1_split 89 = .ok (.invokevirtual 220, 3) := by decide +kernel
theorem eX1_split_92 : decode cX1_split 92 = .ok (.iaload, 1) ∧ decode cX1_split 93 = .ok (.istore 7, 2) ∧ decode cX1_split 95 = .ok (.aload_n 0, 1) ∧ decode cX1_split 96 = .ok (.getfield 12, 3) ∧ decode cX1_split 99 = .ok (.iload_n 1, 1) ∧ decode cX1_split 100 = .ok (.iload_n 2, 1) ∧ decode cX1_split 101 = .ok (.iconst 1, 1) ∧ decode cX1_split 102 = .ok (.iadd, 1) := by decide +kernel
theorem eX1_split_103 : decode cX1_split 103 = .ok (.iload 7, 2) ∧ decode cX1_split 105 = .ok (.iload 5, 2) ∧ decode cX1_split 107 = .ok (.invokevirtual 258, 3) ∧ decode cX1_split 110 = .ok (.iload 7, 2) ∧ decode cX1_split 112 = .ok (.iload 4, 2) ∧ decode cX1_split 114 = .ok (.if_icmp .gt 8, 3) ∧ decode cX1_split 117 = .ok (.iload 5, 2) ∧ decode cX1_split 119 = .ok (.goto 4, 3) := by decide +kernel
theorem eX1_split_122 : decode cX1_split 122 = .ok (.iload_n 3, 1) ∧ decode cX1_split 123 = .ok (.ireturn, 1) ∧ decode cX1_splits 0 = .ok (.aload_n 0, 1) ∧ decode cX1_splits 1 = .ok (.getfield 12, 3) ∧ decode cX1_splits 4 = .ok (.getfield 155, 3) ∧ decode cX1_splits 7 = .ok (.iload_n 1, 1) ∧ decode cX1_splits 8 = .ok (.iaload, 1) ∧ decode cX1_splits 9 = .ok (.aload_n 0, 1) := by decide +kernel
theorem eX1_splits_10 : decode cX1_splits 10 = .ok (.getfield 47, 3) ∧ decode cX1_splits 13 = .ok (.getfield 172, 3) ∧ decode cX1_splits 16 = .ok (.if_icmp .lt 5, 3) ∧ decode cX1_splits 19 = .ok (.iconst 1, 1) ∧ decode cX1_splits 20 = .ok (.ireturn, 1) ∧ decode cX1_splits 21 = .ok (.aload_n 0, 1) ∧ decode cX1_splits 22 = .ok (.getfield 12, 3) ∧ decode cX1_splits 25 = .ok (.getfield 155, 3) := by decide +kernel
theorem eX1_splits_28 : decode cX1_splits 28 = .ok (.iload_n 1, 1) ∧ decode cX1_splits 29 = .ok (.iaload, 1) ∧ decode cX1_splits 30 = .ok (.iconst 2, 1) ∧ decode cX1_splits 31 = .ok (.if_icmp .lt 16, 3) ∧ decode cX1_splits 34 = .ok (.aload_n 0, 1) ∧ decode cX1_splits 35 = .ok (.getfield 47, 3) ∧ decode cX1_splits 38 = .ok (.getfield 144, 3) ∧ decode cX1_splits 41 = .ok (.iconst 1, 1) := by decide +kernel
theorem eX1_splits_42 : decode cX1_splits 42 = .ok (.iaload, 1) ∧ decode cX1_splits 43 = .ok (.iconst (-1), 1) ∧ decode cX1_splits 44 = .ok (.if_icmp .ne 5, 3) ∧ decode cX1_splits 47 = .ok (.iconst 0, 1) ∧ decode cX1_splits 48 = .ok (.ireturn, 1) ∧ decode cX1_splits 49 = .ok (.aload_n 0, 1) ∧ decode cX1_splits 50 = .ok (.getfield 33, 3) ∧ decode cX1_splits 53 = .ok (.aload_n 0, 1) := by decide +kernel
theorem eX1_splits_54 : decode cX1_splits 54 = .ok (.getfield 12, 3) ∧ decode cX1_splits 57 = .ok (.getfield 150, 3) ∧ decode cX1_splits 60 = .ok (.iload_n 1, 1) ∧ decode cX1_splits 61 = .ok (.iaload, 1) ∧ decode cX1_splits 62 = .ok (.putfield 153, 3) ∧ decode cX1_splits 65 = .ok (.aload_n 0, 1) ∧ decode cX1_splits 66 = .ok (.getfield 33, 3) ∧ decode cX1_splits 69 = .ok (.aload_n 0, 1) := by decide +kernel
theorem eX1_splits_70 : decode cX1_splits 70 = .ok (.getfield 12, 3) ∧ decode cX1_splits 73 = .ok (.getfield 155, 3) ∧ decode cX1_splits 76 = .ok (.iload_n 1, 1) ∧ decode cX1_splits 77 = .ok (.iaload, 1) ∧ decode cX1_splits 78 = .ok (.putfield 158, 3) ∧ decode cX1_splits 81 = .ok (.aload_n 0, 1) ∧ decode cX1_splits 82 = .ok (.getfield 33, 3) ∧ decode cX1_splits 85 = .ok (.aload_n 0, 1) := by decide +kernel
theorem eX1_splits_86 : decode cX1_splits 86 = .ok (.getfield 47, 3) ∧ decode cX1_splits 89 = .ok (.getfield 161, 3) ∧ decode cX1_splits 92 = .ok (.aload_n 0, 1) ∧ decode cX1_splits 93 = .ok (.getfield 47, 3) ∧ decode cX1_splits 96 = .ok (.getfield 144, 3) ∧ decode cX1_splits 99 = .ok (.iconst 1, 1) ∧ decode cX1_splits 100 = .ok (.iaload, 1) ∧ decode cX1_splits 101 = .ok (.aload_n 0, 1) := by decide +kernel
theorem eX1_splits_102 : decode cX1_splits 102 = .ok (.getfield 47, 3) ∧ decode cX1_splits 105 = .ok (.getfield 165, 3) ∧ decode cX1_splits 108 = .ok (.iconst 1, 1) ∧ decode cX1_splits 109 = .ok (.iaload, 1) ∧ decode cX1_splits 110 = .ok (.invokevirtual 168, 3) ∧ decode cX1_splits 113 = .ok (.ifCond .eq 7, 3) ∧ decode cX1_splits 116 = .ok (.iconst 1, 1) ∧ decode cX1_splits 117 = .ok (.goto 4, 3) := by decide +kernel
theorem eX1_splits_120 : decode cX1_splits 120 = .ok (.iconst 0, 1) ∧ decode cX1_splits 121 = .ok (.ireturn, 1) ∧ decode cX1_take 0 = .ok (.iconst (-1), 1) ∧ decode cX1_take 1 = .ok (.istore_n 3, 1) ∧ decode cX1_take 2 = .ok (.iconst 0, 1) ∧ decode cX1_take 3 = .ok (.istore 4, 2) ∧ decode cX1_take 5 = .ok (.aload_n 0, 1) ∧ decode cX1_take 6 = .ok (.getfield 47, 3) := by decide +kernel
theorem eX1_take_9 : decode cX1_take 9 = .ok (.getfield 144, 3) ∧ decode cX1_take 12 = .ok (.iconst 0, 1) ∧ decode cX1_take 13 = .ok (.iaload, 1) ∧ decode cX1_take 14 = .ok (.iconst (-1), 1) ∧ decode cX1_take 15 = .ok (.if_icmp .eq 7, 3) ∧ decode cX1_take 18 = .ok (.iconst 1, 1) ∧ decode cX1_take 19 = .ok (.goto 4, 3) ∧ decode cX1_take 22 = .ok (.iconst 0, 1) := by decide +kernel
theorem eX1_take_23 : decode cX1_take 23 = .ok (.istore 5, 2) ∧ decode cX1_take 25 = .ok (.aload_n 0, 1) ∧ decode cX1_take 26 = .ok (.getfield 33, 3) ∧ decode cX1_take 29 = .ok (.iload_n 1, 1) ∧ decode cX1_take 30 = .ok (.putfield 153, 3) ∧ decode cX1_take 33 = .ok (.aload_n 0, 1) ∧ decode cX1_take 34 = .ok (.getfield 33, 3) ∧ decode cX1_take 37 = .ok (.iload_n 2, 1) := by decide +kernel
theorem eX1_take_38 : decode cX1_take 38 = .ok (.putfield 201, 3) ∧ decode cX1_take 41 = .ok (.iconst 0, 1) ∧ decode cX1_take 42 = .ok (.istore 6, 2) ∧ decode cX1_take 44 = .ok (.iload 6, 2) ∧ decode cX1_take 46 = .ok (.aload_n 0, 1) ∧ decode cX1_take 47 = .ok (.getfield 12, 3) ∧ decode cX1_take 50 = .ok (.getfield 117, 3) ∧ decode cX1_take 53 = .ok (.if_icmp .ge 93, 3) := by decide +kernel
theorem eX1_take_56 : decode cX1_take 56 = .ok (.aload_n 0, 1) ∧ decode cX1_take 57 = .ok (.getfield 12, 3) ∧ decode cX1_take 60 = .ok (.iload 6, 2) ∧ decode cX1_take 62 = .ok (.invokevirtual 204, 3) ∧ decode cX1_take 65 = .ok (.ifCond .eq 75, 3) ∧ decode cX1_take 68 = .ok (.aload_n 0, 1) ∧ decode cX1_take 69 = .ok (.getfield 33, 3) ∧ decode cX1_take 72 = .ok (.iload 6, 2) := by decide +kernel
theorem eX1_take_74 : decode cX1_take 74 = .ok (.putfield 147, 3) ∧ decode cX1_take 77 = .ok (.iload 5, 2) ∧ decode cX1_take 79 = .ok (.ifCond .eq 38, 3) ∧ decode cX1_take 82 = .ok (.aload_n 0, 1) ∧ decode cX1_take 83 = .ok (.getfield 33, 3) ∧ decode cX1_take 86 = .ok (.aload_n 0, 1) ∧ decode cX1_take 87 = .ok (.getfield 47, 3) ∧ decode cX1_take 90 = .ok (.getfield 161, 3) := by decide +kernel
theorem eX1_take_93 : decode cX1_take 93 = .ok (.aload_n 0, 1) ∧ decode cX1_take 94 = .ok (.getfield 47, 3) ∧ decode cX1_take 97 = .ok (.getfield 144, 3) ∧ decode cX1_take 100 = .ok (.iconst 0, 1) ∧ decode cX1_take 101 = .ok (.iaload, 1) ∧ decode cX1_take 102 = .ok (.aload_n 0, 1) ∧ decode cX1_take 103 = .ok (.getfield 47, 3) ∧ decode cX1_take 106 = .ok (.getfield 165, 3) := by decide +kernel
theorem eX1_take_109 : decode cX1_take 109 = .ok (.iconst 0, 1) ∧ decode cX1_take 110 = .ok (.iaload, 1) ∧ decode cX1_take 111 = .ok (.invokevirtual 168, 3) ∧ decode cX1_take 114 = .ok (.goto 5, 3) ∧ decode cX1_take 117 = .ok (.iload 6, 2) ∧ decode cX1_take 119 = .ok (.istore 7, 2) ∧ decode cX1_take 121 = .ok (.iload_n 3, 1) ∧ decode cX1_take 122 = .ok (.iconst (-1), 1) := by decide +kernel
theorem eX1_take_123 : decode cX1_take 123 = .ok (.if_icmp .eq 10, 3) ∧ decode cX1_take 126 = .ok (.iload 7, 2) ∧ decode cX1_take 128 = .ok (.iload 4, 2) ∧ decode cX1_take 130 = .ok (.if_icmp .ge 10, 3) ∧ decode cX1_take 133 = .ok (.iload 6, 2) ∧ decode cX1_take 135 = .ok (.istore_n 3, 1) ∧ decode cX1_take 136 = .ok (.iload 7, 2) ∧ decode cX1_take 138 = .ok (.istore 4, 2) := by decide +kernel
theorem eX1_take_140 : decode cX1_take 140 = .ok (.iinc 6 1, 3) ∧ decode cX1_take 143 = .ok (.goto (-99), 3) ∧ decode cX1_take 146 = .ok (.iload_n 3, 1) ∧ decode cX1_take 147 = .ok (.iconst (-1), 1) ∧ decode cX1_take 148 = .ok (.if_icmp .eq 41, 3) ∧ decode cX1_take 151 = .ok (.aload_n 0, 1) ∧ decode cX1_take 152 = .ok (.getfield 12, 3) ∧ decode cX1_take 155 = .ok (.getfield 181, 3) := by decide +kernel
theorem eX1_take_158 : decode cX1_take 158 = .ok (.iload_n 3, 1) ∧ decode cX1_take 159 = .ok (.iconst 1, 1) ∧ decode cX1_take 160 = .ok (.iastore, 1) ∧ decode cX1_take 161 = .ok (.aload_n 0, 1) ∧ decode cX1_take 162 = .ok (.getfield 12, 3) ∧ decode cX1_take 165 = .ok (.getfield 150, 3) ∧ decode cX1_take 168 = .ok (.iload_n 3, 1) ∧ decode cX1_take 169 = .ok (.iload_n 1, 1) := by decide +kernel
theorem eX1_take_170 : decode cX1_take 170 = .ok (.iastore, 1) ∧ decode cX1_take 171 = .ok (.aload_n 0, 1) ∧ decode cX1_take 172 = .ok (.getfield 12, 3) ∧ decode cX1_take 175 = .ok (.getfield 155, 3) ∧ decode cX1_take 178 = .ok (.iload_n 3, 1) ∧ decode cX1_take 179 = .ok (.iconst 0, 1) ∧ decode cX1_take 180 = .ok (.iastore, 1) ∧ decode cX1_take 181 = .ok (.aload_n 0, 1) := by decide +kernel
theorem eX1_take_182 : decode cX1_take 182 = .ok (.getfield 12, 3) ∧ decode cX1_take 185 = .ok (.iload_n 3, 1) ∧ decode cX1_take 186 = .ok (.invokevirtual 207, 3) ∧ decode cX1_take 189 = .ok (.iload_n 3, 1) ∧ decode cX1_take 190 = .ok (.ireturn, 1) := by decide +kernel
set_option maxHeartbeats 4000000 in
set_option maxRecDepth 100000 in
theorem k_x1_take (l : Launch) (D : va_G) (a : Nat → Nat) (p0 : Int) (p1 : Int) (sz : Nat) (s : MS) (o : (Int × MS)) (h : m_x1_take p0 p1 s = some o) : yWi l yX1_take cX1_take 8 (some .int) { frames := 2, cells := 0, slots := 0, locals := 120 } D sz [.ref (a 49), .int (i2 p0), .int (i2 p1)] (CS D a s) (CS D a o.2) (i2 o.1) := by
  refine Met.ofW (cc := cX1_take) (maxL := 8) (ret := (some .int)) (by decide) rfl ?_
  intro p e s₀ m args below meth c s₁ B hml hv
  obtain ⟨rfl, ⟨hsz, hP, hK, hD0⟩, hN⟩ := hv
  have hx := B.exec
  have hb := B.bytes
  have hr := B.returns
  have hts := atoms_spec (ws := wz yX1_take cX1_take 8 (some .int)) B.pre
  have ht : ∀ w ∈ lw_gd, w.before _ s₀ = true := fun w h => hts w (List.mem_cons_of_mem _ h)
  have hown : s₀.vm.findClass RX1 = some m.cls := findClass_of_methodNamed B.named
  have hlocks := B.notSynchronized
  subst hsz
  have hD := hD0.self (sz := s₀.heap.size)
  generalize hAe : va_A (CS D a s) s₀.heap.size = A at hD ⊢
  have hA : ∀ q : Nat, s₀.heap.size ≤ q → A q := fun q h => by rw [← hAe]; exact Or.inr h
  have hS : va_S A s₀.heap s₀.heap [] := va_S.rf
  have hDD : ∀ t : MS, va_D A (CS D a t) := fun t => CW_D t hD
  have hl := lv_entry ([.ref (a 49), .int (i2 p0), .int (i2 p1)]) (n := 8) (Nat.le_of_ble_eq_true rfl)
  rw [lg_entry_eq]
  generalize (lg_sl ([.ref (a 49), .int (i2 p0), .int (i2 p1)]) ++ List.replicate (8 - (lg_sl ([.ref (a 49), .int (i2 p0), .int (i2 p1)])).length) Slot.unset).toArray = ls at hl ⊢
  have hl : lv_has ls 8 [(0, .ref (a 49)), (1, .int (i2 p0)), (2, .int (i2 p1))] := hl
  unfold m_x1_take at h
  refine y_head (pcJ := 189) (σ := Int × MS) (fun u H locs ls => va_P D vwCl (CS D a u.2) H ∧ va_S A s₀.heap H locs ∧ lv_has ls 8 [(3, .int (i2 u.1))] ∧ m_x1_take_J189 u.1 u.2 = some o) (fun u => []) (fun u H locs ls hI => ?_) (fun J189 => ?_)
  · obtain ⟨hP, hS, hl, h⟩ := hI
    obtain ⟨x1, s2⟩ := u
    have hP : va_P D vwCl (CS D a s2) H := hP
    have hl : lv_has ls 8 [(3, .int (i2 x1))] := hl
    have h : m_x1_take_J189 x1 s2 = some o := h
    unfold m_x1_take_J189 at h
    refine lv_iload_n hx hb eX1_take_182.2.2.2.1 rfl (lv_at hl 0 rfl) ?_
    obtain rfl := Option.some.inj h
    exact W.iret (v := (i2 x1)) hx hb hr (fun t ht hW => ⟨⟨_, (), rfl, rfl, by rw [ht]; exact hP, va_K.moved hW.alike hK, hDD _⟩, hS.F ht⟩) hS.2.2 eX1_take_182.2.2.2.2
  refine y_loop (pcJ := 44) (σ := Int × Int × Int × Int × Int × MS) (fun n u H locs ls => va_P D vwCl (CS D a u.2.2.2.2.2) H ∧ va_S A s₀.heap H locs ∧ lv_has ls 8 [(0, .ref (a 49)), (1, .int (i2 u.1)), (3, .int (i2 u.2.1)), (4, .int (i2 u.2.2.1)), (5, .int (i2 u.2.2.2.1)), (6, .int (i2 u.2.2.2.2.1))] ∧ m_x1_take_L44 n u.1 u.2.1 u.2.2.1 u.2.2.2.1 u.2.2.2.2.1 u.2.2.2.2.2 = some o) (fun u => []) (fun u H locs ls hI => by obtain ⟨_, _, _, h⟩ := hI; cases h) (fun n44 ih44 u H locs ls hI => ?_) (fun J44 => ?_)
  · obtain ⟨hP, hS, hl, h⟩ := hI
    obtain ⟨x3, x4, x5, x6, x7, s8⟩ := u
    have hP : va_P D vwCl (CS D a s8) H := hP
    have hl : lv_has ls 8 [(0, .ref (a 49)), (1, .int (i2 x3)), (3, .int (i2 x4)), (4, .int (i2 x5)), (5, .int (i2 x6)), (6, .int (i2 x7))] := hl
    have h : m_x1_take_b44 (m_x1_take_L44 n44) x3 x4 x5 x6 x7 s8 = some o := h
    unfold m_x1_take_b44 at h
    refine y_head (pcJ := 140) (σ := Int × Int × Int × Int × Int × MS) (fun u H locs ls => va_P D vwCl (CS D a u.2.2.2.2.2) H ∧ va_S A s₀.heap H locs ∧ lv_has ls 8 [(0, .ref (a 49)), (1, .int (i2 u.1)), (3, .int (i2 u.2.1)), (4, .int (i2 u.2.2.1)), (5, .int (i2 u.2.2.2.1)), (6, .int (i2 u.2.2.2.2.1))] ∧ m_x1_take_J140 (m_x1_take_L44 n44) u.1 u.2.1 u.2.2.1 u.2.2.2.1 u.2.2.2.2.1 u.2.2.2.2.2 = some o) (fun u => []) (fun u H locs ls hI => ?_) (fun J140 => ?_)
    · obtain ⟨hP, hS, hl, h⟩ := hI
      obtain ⟨x9, x10, x11, x12, x13, s14⟩ := u
      have hP : va_P D vwCl (CS D a s14) H := hP
      have hl : lv_has ls 8 [(0, .ref (a 49)), (1, .int (i2 x9)), (3, .int (i2 x10)), (4, .int (i2 x11)), (5, .int (i2 x12)), (6, .int (i2 x13))] := hl
      have h : m_x1_take_J140 (m_x1_take_L44 n44) x9 x10 x11 x12 x13 s14 = some o := h
      unfold m_x1_take_J140 at h
      refine lv_iinc (v := i2 (x13 + 1)) (lv' := [(6, .int (i2 (x13 + 1))), (0, .ref (a 49)), (1, .int (i2 x9)), (3, .int (i2 x10)), (4, .int (i2 x11)), (5, .int (i2 x12))]) hx hb eX1_take_140.1 hl (k := 5) rfl (i2_add x13 1) (by decide) rfl (fun ls hl => ?_)
      refine lv_goto (tgt := 44) hx hb eX1_take_140.2.1 (by decide) ?_
      exact ih44 (x9, x10, x11, x12, x13 + 1, s14) _ _ _ ⟨hP, hS, lv_sub hl [1, 2, 3, 4, 5, 0] rfl, h⟩
    refine y_head (pcJ := 133) (σ := Int × Int × Int × Int × MS) (fun u H locs ls => va_P D vwCl (CS D a u.2.2.2.2) H ∧ va_S A s₀.heap H locs ∧ lv_has ls 8 [(0, .ref (a 49)), (1, .int (i2 u.1)), (5, .int (i2 u.2.1)), (6, .int (i2 u.2.2.1)), (7, .int (i2 u.2.2.2.1))] ∧ m_x1_take_J133 (m_x1_take_L44 n44) u.1 u.2.1 u.2.2.1 u.2.2.2.1 u.2.2.2.2 = some o) (fun u => []) (fun u H locs ls hI => ?_) (fun J133 => ?_)
    · obtain ⟨hP, hS, hl, h⟩ := hI
      obtain ⟨x15, x16, x17, x18, s19⟩ := u
      have hP : va_P D vwCl (CS D a s19) H := hP
      have hl : lv_has ls 8 [(0, .ref (a 49)), (1, .int (i2 x15)), (5, .int (i2 x16)), (6, .int (i2 x17)), (7, .int (i2 x18))] := hl
      have h : m_x1_take_J133 (m_x1_take_L44 n44) x15 x16 x17 x18 s19 = some o := h
      unfold m_x1_take_J133 at h
      refine lv_iload hx hb eX1_take_123.2.2.2.2.1 (lv_at hl 3 rfl) ?_
      refine lv_istore_n (lv' := [(3, .int (i2 x17)), (0, .ref (a 49)), (1, .int (i2 x15)), (5, .int (i2 x16)), (6, .int (i2 x17)), (7, .int (i2 x18))]) hx hb eX1_take_123.2.2.2.2.2.1 rfl hl (by decide) rfl (fun ls hl => ?_)
      refine lv_iload hx hb eX1_take_123.2.2.2.2.2.2.1 (lv_at hl 5 rfl) ?_
      refine lv_istore (lv' := [(4, .int (i2 x18)), (3, .int (i2 x17)), (0, .ref (a 49)), (1, .int (i2 x15)), (5, .int (i2 x16)), (6, .int (i2 x17)), (7, .int (i2 x18))]) hx hb eX1_take_123.2.2.2.2.2.2.2 hl (by decide) rfl (fun ls hl => ?_)
      exact J140 (x15, x17, x18, x16, x17, s19) _ _ _ ⟨hP, hS, lv_sub hl [2, 3, 1, 0, 4, 5] rfl, h⟩
    refine y_head (pcJ := 119) (σ := Int × Int × Int × Int × Int × Int × MS) (fun u H locs ls => va_P D vwCl (CS D a u.2.2.2.2.2.2) H ∧ va_S A s₀.heap H locs ∧ lv_has ls 8 [(0, .ref (a 49)), (1, .int (i2 u.1)), (3, .int (i2 u.2.1)), (4, .int (i2 u.2.2.1)), (5, .int (i2 u.2.2.2.1)), (6, .int (i2 u.2.2.2.2.1))] ∧ m_x1_take_J119 (m_x1_take_L44 n44) u.1 u.2.1 u.2.2.1 u.2.2.2.1 u.2.2.2.2.1 u.2.2.2.2.2.1 u.2.2.2.2.2.2 = some o) (fun u => [.int (i2 u.2.2.2.2.2.1)]) (fun u H locs ls hI => ?_) (fun J119 => ?_)
    · obtain ⟨hP, hS, hl, h⟩ := hI
      obtain ⟨x20, x21, x22, x23, x24, x25, s26⟩ := u
      have hP : va_P D vwCl (CS D a s26) H := hP
      have hl : lv_has ls 8 [(0, .ref (a 49)), (1, .int (i2 x20)), (3, .int (i2 x21)), (4, .int (i2 x22)), (5, .int (i2 x23)), (6, .int (i2 x24))] := hl
      have h : m_x1_take_J119 (m_x1_take_L44 n44) x20 x21 x22 x23 x24 x25 s26 = some o := h
      unfold m_x1_take_J119 at h
      refine lv_istore (lv' := [(7, .int (i2 x25)), (0, .ref (a 49)), (1, .int (i2 x20)), (3, .int (i2 x21)), (4, .int (i2 x22)), (5, .int (i2 x23)), (6, .int (i2 x24))]) hx hb eX1_take_109.2.2.2.2.2.1 hl (by decide) rfl (fun ls hl => ?_)
      refine lv_iload_n hx hb eX1_take_109.2.2.2.2.2.2.1 rfl (lv_at hl 3 rfl) ?_
      refine lv_iconst (v := (-1)) hx hb eX1_take_109.2.2.2.2.2.2.2 (by decide) ?_
      obtain ⟨hr27, h⟩ := rg_e h
      refine lv_icmp_eq (tgt := 133) hx hb eX1_take_123.1 (by decide) (fun c28 => ?_) (fun c28 => ?_)
      · rw [show ((-1) : Int32) = i2 (-1) from by decide] at c28
        have h := if_t ((i2_eq (x := x21) (y := (-1)) hr27 (by decide)).mp c28) h
        exact J133 (x20, x23, x24, x25, s26) _ _ _ ⟨hP, hS, lv_sub hl [1, 2, 5, 6, 0] rfl, h⟩
      · rw [show ((-1) : Int32) = i2 (-1) from by decide] at c28
        have h := if_f (mt (i2_eq (x := x21) (y := (-1)) hr27 (by decide)).mpr c28) h
        refine lv_iload hx hb eX1_take_123.2.1 (lv_at hl 0 rfl) ?_
        refine lv_iload hx hb eX1_take_123.2.2.1 (lv_at hl 4 rfl) ?_
        obtain ⟨hr29, h⟩ := rg_e h
        obtain ⟨hr30, h⟩ := rg_e h
        refine lv_icmp_ge (tgt := 140) hx hb eX1_take_123.2.2.2.1 (by decide) (fun c31 => ?_) (fun c31 => ?_)
        · have h := if_t ((i2_le (x := x22) (y := x25) hr30 hr29).mp c31) h
          exact J140 (x20, x21, x22, x23, x24, s26) _ _ _ ⟨hP, hS, lv_sub hl [1, 2, 3, 4, 5, 6] rfl, h⟩
        · have h := if_f (mt (i2_le (x := x22) (y := x25) hr30 hr29).mpr c31) h
          exact J133 (x20, x23, x24, x25, s26) _ _ _ ⟨hP, hS, lv_sub hl [1, 2, 5, 6, 0] rfl, h⟩
    refine lv_iload hx hb eX1_take_38.2.2.2.1 (lv_at hl 5 rfl) ?_
    refine lv_aload_n hx hb eX1_take_38.2.2.2.2.1 rfl (lv_at hl 0 rfl) ?_
    refine va_get (D := D) (ci := 1) (v := .ref (a 53)) (C := RX1) (T := TX1) (N := 9) hx hb ht inX1 hown hK hP 49 CW_49 rfl 0 (by decide) (ht (.fieldLink RX1 12 "CloneVolumes$Forest" "now" "LCloneVolumes$State;") fl_X1_12) (fun _ h9 => h9) rfl eX1_take_38.2.2.2.2.2.1 ?_
    refine va_get (D := D) (ci := 8) (v := .int (i2 (gI s8 1060))) (C := RX8) (T := TX8) (N := 11) hx hb ht inX8 hown hK hP 53 CW_53 rfl 0 (by decide) (ht (.fieldLink RX1 117 "CloneVolumes$State" "blocks" "I") fl_X1_117) (fun _ h9 => h9) rfl eX1_take_38.2.2.2.2.2.2.1 ?_
    obtain ⟨hr32, h⟩ := rg_e h
    obtain ⟨hr33, h⟩ := rg_e h
    refine lv_icmp_ge (tgt := 146) hx hb eX1_take_38.2.2.2.2.2.2.2 (by decide) (fun c34 => ?_) (fun c34 => ?_)
    · have h := if_t ((i2_le (x := (gI s8 1060)) (y := x7) hr33 hr32).mp c34) h
      refine lv_iload_n hx hb eX1_take_140.2.2.1 rfl (lv_at hl 2 rfl) ?_
      refine lv_iconst (v := (-1)) hx hb eX1_take_140.2.2.2.1 (by decide) ?_
      obtain ⟨hr35, h⟩ := rg_e h
      refine lv_icmp_eq (tgt := 189) hx hb eX1_take_140.2.2.2.2.1 (by decide) (fun c36 => ?_) (fun c36 => ?_)
      · rw [show ((-1) : Int32) = i2 (-1) from by decide] at c36
        have h := if_t ((i2_eq (x := x4) (y := (-1)) hr35 (by decide)).mp c36) h
        exact J189 (x4, s8) _ _ _ ⟨hP, hS, lv_sub hl [2] rfl, h⟩
      · rw [show ((-1) : Int32) = i2 (-1) from by decide] at c36
        have h := if_f (mt (i2_eq (x := x4) (y := (-1)) hr35 (by decide)).mpr c36) h
        refine lv_aload_n hx hb eX1_take_140.2.2.2.2.2.1 rfl (lv_at hl 0 rfl) ?_
        refine va_get (D := D) (ci := 1) (v := .ref (a 53)) (C := RX1) (T := TX1) (N := 9) hx hb ht inX1 hown hK hP 49 CW_49 rfl 0 (by decide) (ht (.fieldLink RX1 12 "CloneVolumes$Forest" "now" "LCloneVolumes$State;") fl_X1_12) (fun _ h9 => h9) rfl eX1_take_140.2.2.2.2.2.2.1 ?_
        refine va_get (D := D) (ci := 8) (v := .ref (a 54)) (C := RX8) (T := TX8) (N := 11) hx hb ht inX8 hown hK hP 53 CW_53 rfl 3 (by decide) (ht (.fieldLink RX1 181 "CloneVolumes$State" "count" "[I") fl_X1_181) (fun _ h9 => h9) rfl eX1_take_140.2.2.2.2.2.2.2 ?_
        refine lv_iload_n hx hb eX1_take_158.1 rfl (lv_at hl 2 rfl) ?_
        refine lv_iconst (v := 1) hx hb eX1_take_158.2.1 (by decide) ?_
        obtain ⟨hi37, h⟩ := inb_e h
        refine ya_iast (i := x4) (x := 1) hx hb hK hP (hDD _) hS 54 0 CW_54 rfl (by decide) hi37 eX1_take_158.2.2.1 (CW_w54 _) (fun H locs hP hS => ?_)
        obtain ⟨s38, hs38, h⟩ := st_e h
        rw [hs38] at hP
        refine lv_aload_n hx hb eX1_take_158.2.2.2.1 rfl (lv_at hl 0 rfl) ?_
        refine va_get (D := D) (ci := 1) (v := .ref (a 53)) (C := RX1) (T := TX1) (N := 9) hx hb ht inX1 hown hK hP 49 CW_49 rfl 0 (by decide) (ht (.fieldLink RX1 12 "CloneVolumes$Forest" "now" "LCloneVolumes$State;") fl_X1_12) (fun _ h9 => h9) rfl eX1_take_158.2.2.2.2.1 ?_
        refine va_get (D := D) (ci := 8) (v := .ref (a 56)) (C := RX8) (T := TX8) (N := 11) hx hb ht inX8 hown hK hP 53 CW_53 rfl 5 (by decide) (ht (.fieldLink RX1 150 "CloneVolumes$State" "level" "[I") fl_X1_150) (fun _ h9 => h9) rfl eX1_take_158.2.2.2.2.2.1 ?_
        refine lv_iload_n hx hb eX1_take_158.2.2.2.2.2.2.1 rfl (lv_at hl 2 rfl) ?_
        refine lv_iload_n hx hb eX1_take_158.2.2.2.2.2.2.2 rfl (lv_at hl 1 rfl) ?_
        obtain ⟨hi39, h⟩ := inb_e h
        refine ya_iast (i := x4) (x := x3) hx hb hK hP (hDD _) hS 56 0 CW_56 rfl (by decide) hi39 eX1_take_170.1 (CW_w56 _) (fun H locs hP hS => ?_)
        obtain ⟨s40, hs40, h⟩ := st_e h
        rw [hs40] at hP
        refine lv_aload_n hx hb eX1_take_170.2.1 rfl (lv_at hl 0 rfl) ?_
        refine va_get (D := D) (ci := 1) (v := .ref (a 53)) (C := RX1) (T := TX1) (N := 9) hx hb ht inX1 hown hK hP 49 CW_49 rfl 0 (by decide) (ht (.fieldLink RX1 12 "CloneVolumes$Forest" "now" "LCloneVolumes$State;") fl_X1_12) (fun _ h9 => h9) rfl eX1_take_170.2.2.1 ?_
        refine va_get (D := D) (ci := 8) (v := .ref (a 57)) (C := RX8) (T := TX8) (N := 11) hx hb ht inX8 hown hK hP 53 CW_53 rfl 6 (by decide) (ht (.fieldLink RX1 155 "CloneVolumes$State" "size" "[I") fl_X1_155) (fun _ h9 => h9) rfl eX1_take_170.2.2.2.1 ?_
        refine lv_iload_n hx hb eX1_take_170.2.2.2.2.1 rfl (lv_at hl 2 rfl) ?_
        refine lv_iconst (v := 0) hx hb eX1_take_170.2.2.2.2.2.1 (by decide) ?_
        obtain ⟨hi41, h⟩ := inb_e h
        refine ya_iast (i := x4) (x := 0) hx hb hK hP (hDD _) hS 57 0 CW_57 rfl (by decide) hi41 eX1_take_170.2.2.2.2.2.2.1 (CW_w57 _) (fun H locs hP hS => ?_)
        obtain ⟨s42, hs42, h⟩ := st_e h
        rw [hs42] at hP
        refine lv_aload_n hx hb eX1_take_170.2.2.2.2.2.2.2 rfl (lv_at hl 0 rfl) ?_
        refine va_get (D := D) (ci := 1) (v := .ref (a 53)) (C := RX1) (T := TX1) (N := 9) hx hb ht inX1 hown hK hP 49 CW_49 rfl 0 (by decide) (ht (.fieldLink RX1 12 "CloneVolumes$Forest" "now" "LCloneVolumes$State;") fl_X1_12) (fun _ h9 => h9) rfl eX1_take_182.1 ?_
        refine lv_iload_n hx hb eX1_take_182.2.1 rfl (lv_at hl 2 rfl) ?_
        obtain ⟨s44, hc43, h⟩ := bn_e h
        refine ywVv (As := [.int (i2 x4)]) (rest := []) (C := RX8) (n := 1) (ws' := CS D a s44) ⟨hx, hb, hml, hown, ht⟩ (k_x8_mark l D a x4 _ _ _ hc43) (zgV ml_X1_207 im_X8_mark se_X8_mark in_X8 co_X8_mark) rfl rfl (by decide +kernel) ⟨Nat.le_of_ble_eq_true rfl, Nat.le_of_ble_eq_true rfl⟩ hN hK hP (hDD _) hS hA 53 CW_53 rfl rfl rfl hl.1 rfl (Nat.le_of_ble_eq_true rfl) eX1_take_182.2.2.1 ⟨Nat.le_of_ble_eq_true rfl, Nat.le_of_ble_eq_true rfl⟩ (fun H locs hP hS => ?_)
        exact J189 (x4, s44) _ _ _ ⟨hP, hS, lv_sub hl [2] rfl, h⟩
    · have h := if_f (mt (i2_le (x := (gI s8 1060)) (y := x7) hr33 hr32).mpr c34) h
      refine lv_aload_n hx hb eX1_take_56.1 rfl (lv_at hl 0 rfl) ?_
      refine va_get (D := D) (ci := 1) (v := .ref (a 53)) (C := RX1) (T := TX1) (N := 9) hx hb ht inX1 hown hK hP 49 CW_49 rfl 0 (by decide) (ht (.fieldLink RX1 12 "CloneVolumes$Forest" "now" "LCloneVolumes$State;") fl_X1_12) (fun _ h9 => h9) rfl eX1_take_56.2.1 ?_
      refine lv_iload hx hb eX1_take_56.2.2.1 (lv_at hl 5 rfl) ?_
      obtain ⟨r46, hc45, h⟩ := bn_e h
      refine ycV (r0 := i2 r46) (As := [.int (i2 x7)]) (rest := []) (C := RX8) (n := 1) ⟨hx, hb, hml, hown, ht⟩ (k_x8_isFree l D a x7 _ _ hc45) (zgV ml_X1_204 im_X8_isFree se_X8_isFree in_X8 co_X8_isFree) rfl rfl (by decide +kernel) ⟨Nat.le_of_ble_eq_true rfl, Nat.le_of_ble_eq_true rfl⟩ hN hK hP hS 53 CW_53 rfl rfl rfl hl.1 rfl (Nat.le_of_ble_eq_true rfl) eX1_take_56.2.2.2.1 ⟨Nat.le_of_ble_eq_true rfl, Nat.le_of_ble_eq_true rfl⟩ (fun H locs hP hS => ?_)
      obtain ⟨hr47, h⟩ := rg_e h
      refine lv_if_eq (tgt := 140) hx hb eX1_take_56.2.2.2.2.1 (by decide) (fun c48 => ?_) (fun c48 => ?_)
      · have h := if_t ((i2_eq (x := r46) (y := 0) hr47 (by decide)).mp c48) h
        exact J140 (x3, x4, x5, x6, x7, s8) _ _ _ ⟨hP, hS, lv_sub hl [0, 1, 2, 3, 4, 5] rfl, h⟩
      · have h := if_f (mt (i2_eq (x := r46) (y := 0) hr47 (by decide)).mpr c48) h
        refine lv_aload_n hx hb eX1_take_56.2.2.2.2.2.1 rfl (lv_at hl 0 rfl) ?_
        refine va_get (D := D) (ci := 1) (v := .ref (a 80)) (C := RX1) (T := TX1) (N := 9) hx hb ht inX1 hown hK hP 49 CW_49 rfl 5 (by decide) (ht (.fieldLink RX1 33 "CloneVolumes$Forest" "machine" "LCloneVolumes$Machine;") fl_X1_33) (fun _ h9 => h9) rfl eX1_take_56.2.2.2.2.2.2.1 ?_
        refine lv_iload hx hb eX1_take_56.2.2.2.2.2.2.2 (lv_at hl 5 rfl) ?_
        refine ya_put (D := D) (ci := 3) (v := .int (i2 x7)) (ty := .int) (C := RX3) (T := TX3) (N := 10) hx hb ht inX3 tyX3 tyX3_ok nmX3 hown hK hP (hDD _) hS 80 CW_80 rfl 2 (by decide) (ht (.fieldLink RX1 147 "CloneVolumes$Machine" "number" "I") fl_X1_147) (fun _ h9 => h9) rfl (by decide +kernel) rfl rfl (Nat.le_of_ble_eq_true rfl) eX1_take_74.1 (CW_w80_2 x7) (fun H locs hP hS => ?_)
        obtain ⟨s49, hs49, h⟩ := st_e h
        rw [hs49] at hP
        refine lv_iload hx hb eX1_take_74.2.1 (lv_at hl 4 rfl) ?_
        obtain ⟨hr50, h⟩ := rg_e h
        refine lv_if_eq (tgt := 117) hx hb eX1_take_74.2.2.1 (by decide) (fun c51 => ?_) (fun c51 => ?_)
        · have h := if_t ((i2_eq (x := x6) (y := 0) hr50 (by decide)).mp c51) h
          refine lv_iload hx hb eX1_take_109.2.2.2.2.1 (lv_at hl 5 rfl) ?_
          exact J119 (x3, x4, x5, x6, x7, x7, s49) _ _ _ ⟨hP, hS, lv_sub hl [0, 1, 2, 3, 4, 5] rfl, h⟩
        · have h := if_f (mt (i2_eq (x := x6) (y := 0) hr50 (by decide)).mpr c51) h
          refine lv_aload_n hx hb eX1_take_74.2.2.2.1 rfl (lv_at hl 0 rfl) ?_
          refine va_get (D := D) (ci := 1) (v := .ref (a 80)) (C := RX1) (T := TX1) (N := 9) hx hb ht inX1 hown hK hP 49 CW_49 rfl 5 (by decide) (ht (.fieldLink RX1 33 "CloneVolumes$Forest" "machine" "LCloneVolumes$Machine;") fl_X1_33) (fun _ h9 => h9) rfl eX1_take_74.2.2.2.2.1 ?_
          refine lv_aload_n hx hb eX1_take_74.2.2.2.2.2.1 rfl (lv_at hl 0 rfl) ?_
          refine va_get (D := D) (ci := 1) (v := .ref (a 29)) (C := RX1) (T := TX1) (N := 9) hx hb ht inX1 hown hK hP 49 CW_49 rfl 4 (by decide) (ht (.fieldLink RX1 47 "CloneVolumes$Forest" "plan" "LCloneVolumes$Plan;") fl_X1_47) (fun _ h9 => h9) rfl eX1_take_74.2.2.2.2.2.2.1 ?_
          refine va_get (D := D) (ci := 5) (v := .ref (a 37)) (C := RX5) (T := TX5) (N := 14) hx hb ht inX5 hown hK hP 29 CW_29 rfl 11 (by decide) (ht (.fieldLink RX1 161 "CloneVolumes$Plan" "code" "LCloneVolumes$Code;") fl_X1_161) (fun _ h9 => h9) rfl eX1_take_74.2.2.2.2.2.2.2 ?_
          refine lv_aload_n hx hb eX1_take_93.1 rfl (lv_at hl 0 rfl) ?_
          refine va_get (D := D) (ci := 1) (v := .ref (a 29)) (C := RX1) (T := TX1) (N := 9) hx hb ht inX1 hown hK hP 49 CW_49 rfl 4 (by decide) (ht (.fieldLink RX1 47 "CloneVolumes$Forest" "plan" "LCloneVolumes$Plan;") fl_X1_47) (fun _ h9 => h9) rfl eX1_take_93.2.1 ?_
          refine va_get (D := D) (ci := 5) (v := .ref (a 35)) (C := RX5) (T := TX5) (N := 14) hx hb ht inX5 hown hK hP 29 CW_29 rfl 12 (by decide) (ht (.fieldLink RX1 144 "CloneVolumes$Plan" "begins" "[I") fl_X1_144) (fun _ h9 => h9) rfl eX1_take_93.2.2.1 ?_
          refine lv_iconst (v := 0) hx hb eX1_take_93.2.2.2.1 (by decide) ?_
          obtain ⟨y52, ey52, iy52, h⟩ := rdI_e h
          refine ya_iald (i := 0) hx hb hK hP 35 0 CW_35 rfl (by decide) ey52 iy52 eX1_take_93.2.2.2.2.1 ?_
          refine lv_aload_n hx hb eX1_take_93.2.2.2.2.2.1 rfl (lv_at hl 0 rfl) ?_
          refine va_get (D := D) (ci := 1) (v := .ref (a 29)) (C := RX1) (T := TX1) (N := 9) hx hb ht inX1 hown hK hP 49 CW_49 rfl 4 (by decide) (ht (.fieldLink RX1 47 "CloneVolumes$Forest" "plan" "LCloneVolumes$Plan;") fl_X1_47) (fun _ h9 => h9) rfl eX1_take_93.2.2.2.2.2.2.1 ?_
          refine va_get (D := D) (ci := 5) (v := .ref (a 36)) (C := RX5) (T := TX5) (N := 14) hx hb ht inX5 hown hK hP 29 CW_29 rfl 13 (by decide) (ht (.fieldLink RX1 165 "CloneVolumes$Plan" "ends" "[I") fl_X1_165) (fun _ h9 => h9) rfl eX1_take_93.2.2.2.2.2.2.2 ?_
          refine lv_iconst (v := 0) hx hb eX1_take_109.1 (by decide) ?_
          obtain ⟨y53, ey53, iy53, h⟩ := rdI_e h
          refine ya_iald (i := 0) hx hb hK hP 36 0 CW_36 rfl (by decide) ey53 iy53 eX1_take_109.2.1 ?_
          obtain ⟨⟨r56, s55⟩, hc54, h⟩ := bn_e h
          refine ywV (r0 := i2 r56) (As := [.ref (a 37), .int (i2 y52), .int (i2 y53)]) (rest := []) (C := RX3) (n := 3) (ws' := CS D a s55) ⟨hx, hb, hml, hown, ht⟩ (k_x3_value l D a y52 y53 _ _ _ hc54) (zgV ml_X1_168 im_X3_value se_X3_value in_X3 co_X3_value) rfl rfl (by decide +kernel) ⟨Nat.le_of_ble_eq_true rfl, Nat.le_of_ble_eq_true rfl⟩ hN hK hP (hDD _) hS hA 80 CW_80 rfl rfl rfl hl.1 rfl (Nat.le_of_ble_eq_true rfl) eX1_take_109.2.2.1 ⟨Nat.le_of_ble_eq_true rfl, Nat.le_of_ble_eq_true rfl⟩ (fun H locs hP hS => ?_)
          refine lv_goto (tgt := 119) hx hb eX1_take_109.2.2.2.1 (by decide) ?_
          exact J119 (x3, x4, x5, x6, x7, r56, s55) _ _ _ ⟨hP, hS, lv_sub hl [0, 1, 2, 3, 4, 5] rfl, h⟩
  refine y_head (pcJ := 23) (σ := Int × Int × Int × Int × Int × MS) (fun u H locs ls => va_P D vwCl (CS D a u.2.2.2.2.2) H ∧ va_S A s₀.heap H locs ∧ lv_has ls 8 [(0, .ref (a 49)), (1, .int (i2 u.1)), (2, .int (i2 u.2.1)), (3, .int (i2 u.2.2.1)), (4, .int (i2 u.2.2.2.1))] ∧ m_x1_take_J23 u.1 u.2.1 u.2.2.1 u.2.2.2.1 u.2.2.2.2.1 u.2.2.2.2.2 = some o) (fun u => [.int (i2 u.2.2.2.2.1)]) (fun u H locs ls hI => ?_) (fun J23 => ?_)
  · obtain ⟨hP, hS, hl, h⟩ := hI
    obtain ⟨x57, x58, x59, x60, x61, s62⟩ := u
    have hP : va_P D vwCl (CS D a s62) H := hP
    have hl : lv_has ls 8 [(0, .ref (a 49)), (1, .int (i2 x57)), (2, .int (i2 x58)), (3, .int (i2 x59)), (4, .int (i2 x60))] := hl
    have h : m_x1_take_J23 x57 x58 x59 x60 x61 s62 = some o := h
    unfold m_x1_take_J23 at h
    refine lv_istore (lv' := [(5, .int (i2 x61)), (0, .ref (a 49)), (1, .int (i2 x57)), (2, .int (i2 x58)), (3, .int (i2 x59)), (4, .int (i2 x60))]) hx hb eX1_take_23.1 hl (by decide) rfl (fun ls hl => ?_)
    refine lv_aload_n hx hb eX1_take_23.2.1 rfl (lv_at hl 1 rfl) ?_
    refine va_get (D := D) (ci := 1) (v := .ref (a 80)) (C := RX1) (T := TX1) (N := 9) hx hb ht inX1 hown hK hP 49 CW_49 rfl 5 (by decide) (ht (.fieldLink RX1 33 "CloneVolumes$Forest" "machine" "LCloneVolumes$Machine;") fl_X1_33) (fun _ h9 => h9) rfl eX1_take_23.2.2.1 ?_
    refine lv_iload_n hx hb eX1_take_23.2.2.2.1 rfl (lv_at hl 2 rfl) ?_
    refine ya_put (D := D) (ci := 3) (v := .int (i2 x57)) (ty := .int) (C := RX3) (T := TX3) (N := 10) hx hb ht inX3 tyX3 tyX3_ok nmX3 hown hK hP (hDD _) hS 80 CW_80 rfl 4 (by decide) (ht (.fieldLink RX1 153 "CloneVolumes$Machine" "level" "I") fl_X1_153) (fun _ h9 => h9) rfl (by decide +kernel) rfl rfl (Nat.le_of_ble_eq_true rfl) eX1_take_23.2.2.2.2.1 (CW_w80_4 x57) (fun H locs hP hS => ?_)
    obtain ⟨s63, hs63, h⟩ := st_e h
    rw [hs63] at hP
    refine lv_aload_n hx hb eX1_take_23.2.2.2.2.2.1 rfl (lv_at hl 1 rfl) ?_
    refine va_get (D := D) (ci := 1) (v := .ref (a 80)) (C := RX1) (T := TX1) (N := 9) hx hb ht inX1 hown hK hP 49 CW_49 rfl 5 (by decide) (ht (.fieldLink RX1 33 "CloneVolumes$Forest" "machine" "LCloneVolumes$Machine;") fl_X1_33) (fun _ h9 => h9) rfl eX1_take_23.2.2.2.2.2.2.1 ?_
    refine lv_iload_n hx hb eX1_take_23.2.2.2.2.2.2.2 rfl (lv_at hl 3 rfl) ?_
    refine ya_put (D := D) (ci := 3) (v := .int (i2 x58)) (ty := .int) (C := RX3) (T := TX3) (N := 10) hx hb ht inX3 tyX3 tyX3_ok nmX3 hown hK hP (hDD _) hS 80 CW_80 rfl 3 (by decide) (ht (.fieldLink RX1 201 "CloneVolumes$Machine" "source" "I") fl_X1_201) (fun _ h9 => h9) rfl (by decide +kernel) rfl rfl (Nat.le_of_ble_eq_true rfl) eX1_take_38.1 (CW_w80_3 x58) (fun H locs hP hS => ?_)
    obtain ⟨s64, hs64, h⟩ := st_e h
    rw [hs64] at hP
    refine lv_iconst (v := 0) hx hb eX1_take_38.2.1 (by decide) ?_
    refine lv_istore (lv' := [(6, .int 0), (5, .int (i2 x61)), (0, .ref (a 49)), (1, .int (i2 x57)), (2, .int (i2 x58)), (3, .int (i2 x59)), (4, .int (i2 x60))]) hx hb eX1_take_38.2.2.1 hl (by decide) rfl (fun ls hl => ?_)
    exact J44 FU (x57, x59, x60, x61, 0, s64) _ _ _ ⟨hP, hS, lv_sub hl [2, 3, 5, 6, 1, 0] rfl, h⟩
  refine lv_iconst (v := (-1)) hx hb eX1_splits_120.2.2.1 (by decide) ?_
  refine lv_istore_n (lv' := [(3, .int (-1)), (0, .ref (a 49)), (1, .int (i2 p0)), (2, .int (i2 p1))]) hx hb eX1_splits_120.2.2.2.1 rfl hl (by decide) rfl (fun ls hl => ?_)
  refine lv_iconst (v := 0) hx hb eX1_splits_120.2.2.2.2.1 (by decide) ?_
  refine lv_istore (lv' := [(4, .int 0), (3, .int (-1)), (0, .ref (a 49)), (1, .int (i2 p0)), (2, .int (i2 p1))]) hx hb eX1_splits_120.2.2.2.2.2.1 hl (by decide) rfl (fun ls hl => ?_)
  refine lv_aload_n hx hb eX1_splits_120.2.2.2.2.2.2.1 rfl (lv_at hl 2 rfl) ?_
  refine va_get (D := D) (ci := 1) (v := .ref (a 29)) (C := RX1) (T := TX1) (N := 9) hx hb ht inX1 hown hK hP 49 CW_49 rfl 4 (by decide) (ht (.fieldLink RX1 47 "CloneVolumes$Forest" "plan" "LCloneVolumes$Plan;") fl_X1_47) (fun _ h9 => h9) rfl eX1_splits_120.2.2.2.2.2.2.2 ?_
  refine va_get (D := D) (ci := 5) (v := .ref (a 35)) (C := RX5) (T := TX5) (N := 14) hx hb ht inX5 hown hK hP 29 CW_29 rfl 12 (by decide) (ht (.fieldLink RX1 144 "CloneVolumes$Plan" "begins" "[I") fl_X1_144) (fun _ h9 => h9) rfl eX1_take_9.1 ?_
  refine lv_iconst (v := 0) hx hb eX1_take_9.2.1 (by decide) ?_
  obtain ⟨y65, ey65, iy65, h⟩ := rdI_e h
  refine ya_iald (i := 0) hx hb hK hP 35 0 CW_35 rfl (by decide) ey65 iy65 eX1_take_9.2.2.1 ?_
  refine lv_iconst (v := (-1)) hx hb eX1_take_9.2.2.2.1 (by decide) ?_
  obtain ⟨hr66, h⟩ := rg_e h
  refine lv_icmp_eq (tgt := 22) hx hb eX1_take_9.2.2.2.2.1 (by decide) (fun c67 => ?_) (fun c67 => ?_)
  · rw [show ((-1) : Int32) = i2 (-1) from by decide] at c67
    have h := if_t ((i2_eq (x := y65) (y := (-1)) hr66 (by decide)).mp c67) h
    refine lv_iconst (v := 0) hx hb eX1_take_9.2.2.2.2.2.2.2 (by decide) ?_
    exact J23 (p0, p1, (-1), 0, 0, s) _ _ _ ⟨hP, hS, lv_sub hl [2, 3, 4, 1, 0] rfl, h⟩
  · rw [show ((-1) : Int32) = i2 (-1) from by decide] at c67
    have h := if_f (mt (i2_eq (x := y65) (y := (-1)) hr66 (by decide)).mpr c67) h
    refine lv_iconst (v := 1) hx hb eX1_take_9.2.2.2.2.2.1 (by decide) ?_
    refine lv_goto (tgt := 23) hx hb eX1_take_9.2.2.2.2.2.2.1 (by decide) ?_
    exact J23 (p0, p1, (-1), 0, 1, s) _ _ _ ⟨hP, hS, lv_sub hl [2, 3, 4, 1, 0] rfl, h⟩
set_option maxHeartbeats 4000000 in
set_option maxRecDepth 100000 in
theorem k_x1_layEntries (l : Launch) (D : va_G) (a : Nat → Nat) (p0 : Int) (p1 : Int) (p2 : Int) (sz : Nat) (s : MS) (o : MS) (h : m_x1_layEntries p0 p1 p2 s = some o) : yWv l yX1_layEntries cX1_layEntries 5 none { frames := 1, cells := 0, slots := 0, locals := 60 } D sz [.ref (a 49), .int (i2 p0), .int (i2 p1), .int (i2 p2)] (CS D a s) (CS D a o) := by
  refine Met.ofW (cc := cX1_layEntries) (maxL := 5) (ret := none) (by decide) rfl ?_
  intro p e s₀ m args below meth c s₁ B hml hv
  obtain ⟨rfl, ⟨hsz, hP, hK, hD0⟩, hN⟩ := hv
  have hx := B.exec
  have hb := B.bytes
  have hr := B.returns
  have hts := atoms_spec (ws := wz yX1_layEntries cX1_layEntries 5 none) B.pre
  have ht : ∀ w ∈ lw_gd, w.before _ s₀ = true := fun w h => hts w (List.mem_cons_of_mem _ h)
  have hown : s₀.vm.findClass RX1 = some m.cls := findClass_of_methodNamed B.named
  have hlocks := B.notSynchronized
  subst hsz
  have hD := hD0.self (sz := s₀.heap.size)
  generalize hAe : va_A (CS D a s) s₀.heap.size = A at hD ⊢
  have hA : ∀ q : Nat, s₀.heap.size ≤ q → A q := fun q h => by rw [← hAe]; exact Or.inr h
  have hS : va_S A s₀.heap s₀.heap [] := va_S.rf
  have hDD : ∀ t : MS, va_D A (CS D a t) := fun t => CW_D t hD
  have hl := lv_entry ([.ref (a 49), .int (i2 p0), .int (i2 p1), .int (i2 p2)]) (n := 5) (Nat.le_of_ble_eq_true rfl)
  rw [lg_entry_eq]
  generalize (lg_sl ([.ref (a 49), .int (i2 p0), .int (i2 p1), .int (i2 p2)]) ++ List.replicate (5 - (lg_sl ([.ref (a 49), .int (i2 p0), .int (i2 p1), .int (i2 p2)])).length) Slot.unset).toArray = ls at hl ⊢
  have hl : lv_has ls 5 [(0, .ref (a 49)), (1, .int (i2 p0)), (2, .int (i2 p1)), (3, .int (i2 p2))] := hl
  unfold m_x1_layEntries at h
  refine lv_aload_n hx hb eX1_layEntries_0.1 rfl (lv_at hl 0 rfl) ?_
  refine va_get (D := D) (ci := 1) (v := .ref (a 53)) (C := RX1) (T := TX1) (N := 9) hx hb ht inX1 hown hK hP 49 CW_49 rfl 0 (by decide) (ht (.fieldLink RX1 12 "CloneVolumes$Forest" "now" "LCloneVolumes$State;") fl_X1_12) (fun _ h9 => h9) rfl eX1_layEntries_0.2.1 ?_
  refine va_get (D := D) (ci := 8) (v := .ref (a 57)) (C := RX8) (T := TX8) (N := 11) hx hb ht inX8 hown hK hP 53 CW_53 rfl 6 (by decide) (ht (.fieldLink RX1 155 "CloneVolumes$State" "size" "[I") fl_X1_155) (fun _ h9 => h9) rfl eX1_layEntries_0.2.2.1 ?_
  refine lv_iload_n hx hb eX1_layEntries_0.2.2.2.1 rfl (lv_at hl 1 rfl) ?_
  obtain ⟨y1, ey1, iy1, h⟩ := rdI_e h
  refine ya_iald (i := p0) hx hb hK hP 57 0 CW_57 rfl (by decide) ey1 iy1 eX1_layEntries_0.2.2.2.2.1 ?_
  refine lv_iload_n hx hb eX1_layEntries_0.2.2.2.2.2.1 rfl (lv_at hl 2 rfl) ?_
  refine lv_isub hx hb eX1_layEntries_0.2.2.2.2.2.2.1 ?_
  refine z_topi (y := i2 (y1 - p1)) (i2_sub y1 p1) ?_
  refine lv_istore (lv' := [(4, .int (i2 (y1 - p1))), (0, .ref (a 49)), (1, .int (i2 p0)), (2, .int (i2 p1)), (3, .int (i2 p2))]) hx hb eX1_layEntries_0.2.2.2.2.2.2.2 hl (by decide) rfl (fun ls hl => ?_)
  refine lv_aload_n hx hb eX1_layEntries_13.1 rfl (lv_at hl 1 rfl) ?_
  refine va_get (D := D) (ci := 1) (v := .ref (a 53)) (C := RX1) (T := TX1) (N := 9) hx hb ht inX1 hown hK hP 49 CW_49 rfl 0 (by decide) (ht (.fieldLink RX1 12 "CloneVolumes$Forest" "now" "LCloneVolumes$State;") fl_X1_12) (fun _ h9 => h9) rfl eX1_layEntries_13.2.1 ?_
  refine va_get (D := D) (ci := 8) (v := .ref (a 58)) (C := RX8) (T := TX8) (N := 11) hx hb ht inX8 hown hK hP 53 CW_53 rfl 7 (by decide) (ht (.fieldLink RX1 227 "CloneVolumes$State" "keys" "[I") fl_X1_227) (fun _ h9 => h9) rfl eX1_layEntries_13.2.2.1 ?_
  refine lv_aload_n hx hb eX1_layEntries_13.2.2.2.1 rfl (lv_at hl 1 rfl) ?_
  refine va_get (D := D) (ci := 1) (v := .ref (a 53)) (C := RX1) (T := TX1) (N := 9) hx hb ht inX1 hown hK hP 49 CW_49 rfl 0 (by decide) (ht (.fieldLink RX1 12 "CloneVolumes$Forest" "now" "LCloneVolumes$State;") fl_X1_12) (fun _ h9 => h9) rfl eX1_layEntries_13.2.2.2.2.1 ?_
  refine lv_iload_n hx hb eX1_layEntries_13.2.2.2.2.2.1 rfl (lv_at hl 2 rfl) ?_
  refine lv_iload_n hx hb eX1_layEntries_13.2.2.2.2.2.2.1 rfl (lv_at hl 3 rfl) ?_
  obtain ⟨r3, hc2, h⟩ := bn_e h
  refine ycV (r0 := i2 r3) (As := [.int (i2 p0), .int (i2 p1)]) (rest := [.ref (a 58)]) (C := RX8) (n := 2) ⟨hx, hb, hml, hown, ht⟩ (k_x8_slot l D a p0 p1 _ _ hc2) (zgV ml_X1_220 im_X8_slot se_X8_slot in_X8 co_X8_slot) rfl rfl (by decide +kernel) ⟨Nat.le_of_ble_eq_true rfl, Nat.le_of_ble_eq_true rfl⟩ hN hK hP hS 53 CW_53 rfl rfl rfl hl.1 rfl (Nat.le_of_ble_eq_true rfl) eX1_layEntries_13.2.2.2.2.2.2.2 ⟨Nat.le_of_ble_eq_true rfl, Nat.le_of_ble_eq_true rfl⟩ (fun H locs hP hS => ?_)
  refine lv_aload_n hx hb eX1_layEntries_29.1 rfl (lv_at hl 1 rfl) ?_
  refine va_get (D := D) (ci := 1) (v := .ref (a 53)) (C := RX1) (T := TX1) (N := 9) hx hb ht inX1 hown hK hP 49 CW_49 rfl 0 (by decide) (ht (.fieldLink RX1 12 "CloneVolumes$Forest" "now" "LCloneVolumes$State;") fl_X1_12) (fun _ h9 => h9) rfl eX1_layEntries_29.2.1 ?_
  refine va_get (D := D) (ci := 8) (v := .ref (a 58)) (C := RX8) (T := TX8) (N := 11) hx hb ht inX8 hown hK hP 53 CW_53 rfl 7 (by decide) (ht (.fieldLink RX1 227 "CloneVolumes$State" "keys" "[I") fl_X1_227) (fun _ h9 => h9) rfl eX1_layEntries_29.2.2.1 ?_
  refine lv_aload_n hx hb eX1_layEntries_29.2.2.2.1 rfl (lv_at hl 1 rfl) ?_
  refine va_get (D := D) (ci := 1) (v := .ref (a 53)) (C := RX1) (T := TX1) (N := 9) hx hb ht inX1 hown hK hP 49 CW_49 rfl 0 (by decide) (ht (.fieldLink RX1 12 "CloneVolumes$Forest" "now" "LCloneVolumes$State;") fl_X1_12) (fun _ h9 => h9) rfl eX1_layEntries_29.2.2.2.2.1 ?_
  refine lv_iload_n hx hb eX1_layEntries_29.2.2.2.2.2.1 rfl (lv_at hl 4 rfl) ?_
  refine lv_iconst (v := 0) hx hb eX1_layEntries_29.2.2.2.2.2.2.1 (by decide) ?_
  obtain ⟨r5, hc4, h⟩ := bn_e h
  refine ycV (r0 := i2 r5) (As := [.int (i2 p2), .int 0]) (rest := [.ref (a 58), .int (i2 r3), .ref (a 58)]) (C := RX8) (n := 2) ⟨hx, hb, hml, hown, ht⟩ (k_x8_slot l D a p2 0 _ _ hc4) (zgV ml_X1_220 im_X8_slot se_X8_slot in_X8 co_X8_slot) rfl rfl (by decide +kernel) ⟨Nat.le_of_ble_eq_true rfl, Nat.le_of_ble_eq_true rfl⟩ hN hK hP hS 53 CW_53 rfl rfl rfl hl.1 rfl (Nat.le_of_ble_eq_true rfl) eX1_layEntries_29.2.2.2.2.2.2.2 ⟨Nat.le_of_ble_eq_true rfl, Nat.le_of_ble_eq_true rfl⟩ (fun H locs hP hS => ?_)
  refine lv_iload hx hb eX1_layEntries_45.1 (lv_at hl 0 rfl) ?_
  obtain ⟨hc6, h⟩ := cpg_e h
  refine ya_copyi (sp := r3) (dp := r5) (n := (y1 - p1)) hx hb (by rw [hml]; exact hl.1.symm) hown (ht _ ml_X1_230) (ht _ na_cpy) (ht _ st_cpy) (ht _ in_sys) hK hP (hDD _) hS 58 58 CW_58 CW_58 (by decide) (by decide) hc6 (Nat.le_of_ble_eq_true rfl) (Nat.le_of_ble_eq_true rfl) eX1_layEntries_45.2.1 (CW_w58 _) (fun H locs hP hS => ?_)
  obtain ⟨s7, hs7, h⟩ := st_e h
  rw [hs7] at hP
  refine lv_aload_n hx hb eX1_layEntries_45.2.2.1 rfl (lv_at hl 1 rfl) ?_
  refine va_get (D := D) (ci := 1) (v := .ref (a 53)) (C := RX1) (T := TX1) (N := 9) hx hb ht inX1 hown hK hP 49 CW_49 rfl 0 (by decide) (ht (.fieldLink RX1 12 "CloneVolumes$Forest" "now" "LCloneVolumes$State;") fl_X1_12) (fun _ h9 => h9) rfl eX1_layEntries_45.2.2.2.1 ?_
  refine va_get (D := D) (ci := 8) (v := .ref (a 59)) (C := RX8) (T := TX8) (N := 11) hx hb ht inX8 hown hK hP 53 CW_53 rfl 8 (by decide) (ht (.fieldLink RX1 217 "CloneVolumes$State" "values" "[I") fl_X1_217) (fun _ h9 => h9) rfl eX1_layEntries_45.2.2.2.2.1 ?_
  refine lv_aload_n hx hb eX1_layEntries_45.2.2.2.2.2.1 rfl (lv_at hl 1 rfl) ?_
  refine va_get (D := D) (ci := 1) (v := .ref (a 53)) (C := RX1) (T := TX1) (N := 9) hx hb ht inX1 hown hK hP 49 CW_49 rfl 0 (by decide) (ht (.fieldLink RX1 12 "CloneVolumes$Forest" "now" "LCloneVolumes$State;") fl_X1_12) (fun _ h9 => h9) rfl eX1_layEntries_45.2.2.2.2.2.2.1 ?_
  refine lv_iload_n hx hb eX1_layEntries_45.2.2.2.2.2.2.2 rfl (lv_at hl 2 rfl) ?_
  refine lv_iload_n hx hb eX1_layEntries_62.1 rfl (lv_at hl 3 rfl) ?_
  obtain ⟨r9, hc8, h⟩ := bn_e h
  refine ycV (r0 := i2 r9) (As := [.int (i2 p0), .int (i2 p1)]) (rest := [.ref (a 59)]) (C := RX8) (n := 2) ⟨hx, hb, hml, hown, ht⟩ (k_x8_slot l D a p0 p1 _ _ hc8) (zgV ml_X1_220 im_X8_slot se_X8_slot in_X8 co_X8_slot) rfl rfl (by decide +kernel) ⟨Nat.le_of_ble_eq_true rfl, Nat.le_of_ble_eq_true rfl⟩ hN hK hP hS 53 CW_53 rfl rfl rfl hl.1 rfl (Nat.le_of_ble_eq_true rfl) eX1_layEntries_62.2.1 ⟨Nat.le_of_ble_eq_true rfl, Nat.le_of_ble_eq_true rfl⟩ (fun H locs hP hS => ?_)
  refine lv_aload_n hx hb eX1_layEntries_62.2.2.1 rfl (lv_at hl 1 rfl) ?_
  refine va_get (D := D) (ci := 1) (v := .ref (a 53)) (C := RX1) (T := TX1) (N := 9) hx hb ht inX1 hown hK hP 49 CW_49 rfl 0 (by decide) (ht (.fieldLink RX1 12 "CloneVolumes$Forest" "now" "LCloneVolumes$State;") fl_X1_12) (fun _ h9 => h9) rfl eX1_layEntries_62.2.2.2.1 ?_
  refine va_get (D := D) (ci := 8) (v := .ref (a 59)) (C := RX8) (T := TX8) (N := 11) hx hb ht inX8 hown hK hP 53 CW_53 rfl 8 (by decide) (ht (.fieldLink RX1 217 "CloneVolumes$State" "values" "[I") fl_X1_217) (fun _ h9 => h9) rfl eX1_layEntries_62.2.2.2.2.1 ?_
  refine lv_aload_n hx hb eX1_layEntries_62.2.2.2.2.2.1 rfl (lv_at hl 1 rfl) ?_
  refine va_get (D := D) (ci := 1) (v := .ref (a 53)) (C := RX1) (T := TX1) (N := 9) hx hb ht inX1 hown hK hP 49 CW_49 rfl 0 (by decide) (ht (.fieldLink RX1 12 "CloneVolumes$Forest" "now" "LCloneVolumes$State;") fl_X1_12) (fun _ h9 => h9) rfl eX1_layEntries_62.2.2.2.2.2.2.1 ?_
  refine lv_iload_n hx hb eX1_layEntries_62.2.2.2.2.2.2.2 rfl (lv_at hl 4 rfl) ?_
  refine lv_iconst (v := 0) hx hb eX1_layEntries_78.1 (by decide) ?_
  obtain ⟨r11, hc10, h⟩ := bn_e h
  refine ycV (r0 := i2 r11) (As := [.int (i2 p2), .int 0]) (rest := [.ref (a 59), .int (i2 r9), .ref (a 59)]) (C := RX8) (n := 2) ⟨hx, hb, hml, hown, ht⟩ (k_x8_slot l D a p2 0 _ _ hc10) (zgV ml_X1_220 im_X8_slot se_X8_slot in_X8 co_X8_slot) rfl rfl (by decide +kernel) ⟨Nat.le_of_ble_eq_true rfl, Nat.le_of_ble_eq_true rfl⟩ hN hK hP hS 53 CW_53 rfl rfl rfl hl.1 rfl (Nat.le_of_ble_eq_true rfl) eX1_layEntries_78.2.1 ⟨Nat.le_of_ble_eq_true rfl, Nat.le_of_ble_eq_true rfl⟩ (fun H locs hP hS => ?_)
  refine lv_iload hx hb eX1_layEntries_78.2.2.1 (lv_at hl 0 rfl) ?_
  obtain ⟨hc12, h⟩ := cpg_e h
  refine ya_copyi (sp := r9) (dp := r11) (n := (y1 - p1)) hx hb (by rw [hml]; exact hl.1.symm) hown (ht _ ml_X1_230) (ht _ na_cpy) (ht _ st_cpy) (ht _ in_sys) hK hP (hDD _) hS 59 59 CW_59 CW_59 (by decide) (by decide) hc12 (Nat.le_of_ble_eq_true rfl) (Nat.le_of_ble_eq_true rfl) eX1_layEntries_78.2.2.2.1 (CW_w59 _) (fun H locs hP hS => ?_)
  obtain ⟨s13, hs13, h⟩ := st_e h
  rw [hs13] at hP
  refine lv_aload_n hx hb eX1_layEntries_78.2.2.2.2.1 rfl (lv_at hl 1 rfl) ?_
  refine va_get (D := D) (ci := 1) (v := .ref (a 53)) (C := RX1) (T := TX1) (N := 9) hx hb ht inX1 hown hK hP 49 CW_49 rfl 0 (by decide) (ht (.fieldLink RX1 12 "CloneVolumes$Forest" "now" "LCloneVolumes$State;") fl_X1_12) (fun _ h9 => h9) rfl eX1_layEntries_78.2.2.2.2.2.1 ?_
  refine va_get (D := D) (ci := 8) (v := .ref (a 57)) (C := RX8) (T := TX8) (N := 11) hx hb ht inX8 hown hK hP 53 CW_53 rfl 6 (by decide) (ht (.fieldLink RX1 155 "CloneVolumes$State" "size" "[I") fl_X1_155) (fun _ h9 => h9) rfl eX1_layEntries_78.2.2.2.2.2.2.1 ?_
  refine lv_iload_n hx hb eX1_layEntries_78.2.2.2.2.2.2.2 rfl (lv_at hl 4 rfl) ?_
  refine lv_iload hx hb eX1_layEntries_95.1 (lv_at hl 0 rfl) ?_
  obtain ⟨hi14, h⟩ := inb_e h
  refine ya_iast (i := p2) (x := (y1 - p1)) hx hb hK hP (hDD _) hS 57 0 CW_57 rfl (by decide) hi14 eX1_layEntries_95.2.1 (CW_w57 _) (fun H locs hP hS => ?_)
  obtain ⟨s15, hs15, h⟩ := st_e h
  rw [hs15] at hP
  obtain rfl := Option.some.inj h
  exact W.vret hx hb hr (fun t ht hW => ⟨⟨(), rfl, trivial, by rw [ht]; exact hP, va_K.moved hW.alike hK, hDD _⟩, hS.F ht⟩) hS.2.2 eX1_layEntries_95.2.2.1
set_option maxHeartbeats 4000000 in
set_option maxRecDepth 100000 in
theorem k_x1_owned (l : Launch) (D : va_G) (a : Nat → Nat) (p0 : Int) (sz : Nat) (s : MS) (o : (Int × MS)) (h : m_x1_owned p0 s = some o) : yWi l yX1_owned cX1_owned 4 (some .int) { frames := 3, cells := 0, slots := 0, locals := 180 } D sz [.ref (a 49), .int (i2 p0)] (CS D a s) (CS D a o.2) (i2 o.1) := by
  refine Met.ofW (cc := cX1_owned) (maxL := 4) (ret := (some .int)) (by decide) rfl ?_
  intro p e s₀ m args below meth c s₁ B hml hv
  obtain ⟨rfl, ⟨hsz, hP, hK, hD0⟩, hN⟩ := hv
  have hx := B.exec
  have hb := B.bytes
  have hr := B.returns
  have hts := atoms_spec (ws := wz yX1_owned cX1_owned 4 (some .int)) B.pre
  have ht : ∀ w ∈ lw_gd, w.before _ s₀ = true := fun w h => hts w (List.mem_cons_of_mem _ h)
  have hown : s₀.vm.findClass RX1 = some m.cls := findClass_of_methodNamed B.named
  have hlocks := B.notSynchronized
  subst hsz
  have hD := hD0.self (sz := s₀.heap.size)
  generalize hAe : va_A (CS D a s) s₀.heap.size = A at hD ⊢
  have hA : ∀ q : Nat, s₀.heap.size ≤ q → A q := fun q h => by rw [← hAe]; exact Or.inr h
  have hS : va_S A s₀.heap s₀.heap [] := va_S.rf
  have hDD : ∀ t : MS, va_D A (CS D a t) := fun t => CW_D t hD
  have hl := lv_entry ([.ref (a 49), .int (i2 p0)]) (n := 4) (Nat.le_of_ble_eq_true rfl)
  rw [lg_entry_eq]
  generalize (lg_sl ([.ref (a 49), .int (i2 p0)]) ++ List.replicate (4 - (lg_sl ([.ref (a 49), .int (i2 p0)])).length) Slot.unset).toArray = ls at hl ⊢
  have hl : lv_has ls 4 [(0, .ref (a 49)), (1, .int (i2 p0))] := hl
  unfold m_x1_owned at h
  refine y_head (pcJ := 117) (σ := Int × Int × MS) (fun u H locs ls => va_P D vwCl (CS D a u.2.2) H ∧ va_S A s₀.heap H locs ∧ lv_has ls 4 [(0, .ref (a 49)), (1, .int (i2 u.1)), (2, .int (i2 u.2.1))] ∧ m_x1_owned_J117 u.1 u.2.1 u.2.2 = some o) (fun u => []) (fun u H locs ls hI => ?_) (fun J117 => ?_)
  · obtain ⟨hP, hS, hl, h⟩ := hI
    obtain ⟨x1, x2, s3⟩ := u
    have hP : va_P D vwCl (CS D a s3) H := hP
    have hl : lv_has ls 4 [(0, .ref (a 49)), (1, .int (i2 x1)), (2, .int (i2 x2))] := hl
    have h : m_x1_owned_J117 x1 x2 s3 = some o := h
    unfold m_x1_owned_J117 at h
    refine lv_aload_n hx hb eX1_owned_107.2.2.2.2.2.2.1 rfl (lv_at hl 0 rfl) ?_
    refine lv_iload_n hx hb eX1_owned_107.2.2.2.2.2.2.2 rfl (lv_at hl 1 rfl) ?_
    refine lv_aload_n hx hb eX1_owned_119.1 rfl (lv_at hl 0 rfl) ?_
    refine va_get (D := D) (ci := 1) (v := .ref (a 53)) (C := RX1) (T := TX1) (N := 9) hx hb ht inX1 hown hK hP 49 CW_49 rfl 0 (by decide) (ht (.fieldLink RX1 12 "CloneVolumes$Forest" "now" "LCloneVolumes$State;") fl_X1_12) (fun _ h9 => h9) rfl eX1_owned_119.2.1 ?_
    refine va_get (D := D) (ci := 8) (v := .ref (a 54)) (C := RX8) (T := TX8) (N := 11) hx hb ht inX8 hown hK hP 53 CW_53 rfl 3 (by decide) (ht (.fieldLink RX1 181 "CloneVolumes$State" "count" "[I") fl_X1_181) (fun _ h9 => h9) rfl eX1_owned_119.2.2.1 ?_
    obtain ⟨⟨r6, s5⟩, hc4, h⟩ := bn_e h
    refine ywV (r0 := i2 r6) (As := [.int (i2 x1), .ref (a 54)]) (rest := []) (C := RX1) (n := 2) (ws' := CS D a s5) ⟨hx, hb, hml, hown, ht⟩ (k_x1_release_v2 l D a x1 _ _ _ hc4) (zgV ml_X1_223 im_X1_release se_X1_release in_X1 co_X1_release) rfl rfl (by decide +kernel) ⟨Nat.le_of_ble_eq_true rfl, Nat.le_of_ble_eq_true rfl⟩ hN hK hP (hDD _) hS hA 49 CW_49 rfl rfl rfl hl.1 rfl (Nat.le_of_ble_eq_true rfl) eX1_owned_119.2.2.2.1 ⟨Nat.le_of_ble_eq_true rfl, Nat.le_of_ble_eq_true rfl⟩ (fun H locs hP hS => ?_)
    refine lv_pop hx hb eX1_owned_119.2.2.2.2.1 rfl ?_
    refine lv_iload_n hx hb eX1_owned_119.2.2.2.2.2.1 rfl (lv_at hl 2 rfl) ?_
    obtain rfl := Option.some.inj h
    exact W.iret (v := (i2 x2)) hx hb hr (fun t ht hW => ⟨⟨_, (), rfl, rfl, by rw [ht]; exact hP, va_K.moved hW.alike hK, hDD _⟩, hS.F ht⟩) hS.2.2 eX1_owned_119.2.2.2.2.2.2.1
  refine y_loop (pcJ := 69) (σ := Int × Int × Int × MS) (fun n u H locs ls => va_P D vwCl (CS D a u.2.2.2) H ∧ va_S A s₀.heap H locs ∧ lv_has ls 4 [(0, .ref (a 49)), (1, .int (i2 u.1)), (2, .int (i2 u.2.1)), (3, .int (i2 u.2.2.1))] ∧ m_x1_owned_L69 n u.1 u.2.1 u.2.2.1 u.2.2.2 = some o) (fun u => []) (fun u H locs ls hI => by obtain ⟨_, _, _, h⟩ := hI; cases h) (fun n69 ih69 u H locs ls hI => ?_) (fun J69 => ?_)
  · obtain ⟨hP, hS, hl, h⟩ := hI
    obtain ⟨x7, x8, x9, s10⟩ := u
    have hP : va_P D vwCl (CS D a s10) H := hP
    have hl : lv_has ls 4 [(0, .ref (a 49)), (1, .int (i2 x7)), (2, .int (i2 x8)), (3, .int (i2 x9))] := hl
    have h : m_x1_owned_b69 (m_x1_owned_L69 n69) x7 x8 x9 s10 = some o := h
    unfold m_x1_owned_b69 at h
    refine lv_iload_n hx hb eX1_owned_63.2.2.2.2.1 rfl (lv_at hl 3 rfl) ?_
    refine lv_aload_n hx hb eX1_owned_63.2.2.2.2.2.1 rfl (lv_at hl 0 rfl) ?_
    refine va_get (D := D) (ci := 1) (v := .ref (a 53)) (C := RX1) (T := TX1) (N := 9) hx hb ht inX1 hown hK hP 49 CW_49 rfl 0 (by decide) (ht (.fieldLink RX1 12 "CloneVolumes$Forest" "now" "LCloneVolumes$State;") fl_X1_12) (fun _ h9 => h9) rfl eX1_owned_63.2.2.2.2.2.2.1 ?_
    refine va_get (D := D) (ci := 8) (v := .ref (a 57)) (C := RX8) (T := TX8) (N := 11) hx hb ht inX8 hown hK hP 53 CW_53 rfl 6 (by decide) (ht (.fieldLink RX1 155 "CloneVolumes$State" "size" "[I") fl_X1_155) (fun _ h9 => h9) rfl eX1_owned_63.2.2.2.2.2.2.2 ?_
    refine lv_iload_n hx hb eX1_owned_77.1 rfl (lv_at hl 2 rfl) ?_
    obtain ⟨y11, ey11, iy11, h⟩ := rdI_e h
    refine ya_iald (i := x8) hx hb hK hP 57 0 CW_57 rfl (by decide) ey11 iy11 eX1_owned_77.2.1 ?_
    obtain ⟨hr12, h⟩ := rg_e h
    obtain ⟨hr13, h⟩ := rg_e h
    refine lv_icmp_ge (tgt := 117) hx hb eX1_owned_77.2.2.1 (by decide) (fun c14 => ?_) (fun c14 => ?_)
    · have h := if_t ((i2_le (x := y11) (y := x9) hr13 hr12).mp c14) h
      exact J117 (x7, x8, s10) _ _ _ ⟨hP, hS, lv_sub hl [0, 1, 2] rfl, h⟩
    · have h := if_f (mt (i2_le (x := y11) (y := x9) hr13 hr12).mpr c14) h
      refine lv_aload_n hx hb eX1_owned_77.2.2.2.1 rfl (lv_at hl 0 rfl) ?_
      refine va_get (D := D) (ci := 1) (v := .ref (a 53)) (C := RX1) (T := TX1) (N := 9) hx hb ht inX1 hown hK hP 49 CW_49 rfl 0 (by decide) (ht (.fieldLink RX1 12 "CloneVolumes$Forest" "now" "LCloneVolumes$State;") fl_X1_12) (fun _ h9 => h9) rfl eX1_owned_77.2.2.2.2.1 ?_
      refine va_get (D := D) (ci := 8) (v := .ref (a 54)) (C := RX8) (T := TX8) (N := 11) hx hb ht inX8 hown hK hP 53 CW_53 rfl 3 (by decide) (ht (.fieldLink RX1 181 "CloneVolumes$State" "count" "[I") fl_X1_181) (fun _ h9 => h9) rfl eX1_owned_77.2.2.2.2.2.1 ?_
      refine lv_aload_n hx hb eX1_owned_77.2.2.2.2.2.2.1 rfl (lv_at hl 0 rfl) ?_
      refine va_get (D := D) (ci := 1) (v := .ref (a 53)) (C := RX1) (T := TX1) (N := 9) hx hb ht inX1 hown hK hP 49 CW_49 rfl 0 (by decide) (ht (.fieldLink RX1 12 "CloneVolumes$Forest" "now" "LCloneVolumes$State;") fl_X1_12) (fun _ h9 => h9) rfl eX1_owned_77.2.2.2.2.2.2.2 ?_
      refine va_get (D := D) (ci := 8) (v := .ref (a 59)) (C := RX8) (T := TX8) (N := 11) hx hb ht inX8 hown hK hP 53 CW_53 rfl 8 (by decide) (ht (.fieldLink RX1 217 "CloneVolumes$State" "values" "[I") fl_X1_217) (fun _ h9 => h9) rfl eX1_owned_93.1 ?_
      refine lv_aload_n hx hb eX1_owned_93.2.1 rfl (lv_at hl 0 rfl) ?_
      refine va_get (D := D) (ci := 1) (v := .ref (a 53)) (C := RX1) (T := TX1) (N := 9) hx hb ht inX1 hown hK hP 49 CW_49 rfl 0 (by decide) (ht (.fieldLink RX1 12 "CloneVolumes$Forest" "now" "LCloneVolumes$State;") fl_X1_12) (fun _ h9 => h9) rfl eX1_owned_93.2.2.1 ?_
      refine lv_iload_n hx hb eX1_owned_93.2.2.2.1 rfl (lv_at hl 2 rfl) ?_
      refine lv_iload_n hx hb eX1_owned_93.2.2.2.2.1 rfl (lv_at hl 3 rfl) ?_
      obtain ⟨r16, hc15, h⟩ := bn_e h
      refine ycV (r0 := i2 r16) (As := [.int (i2 x8), .int (i2 x9)]) (rest := [.ref (a 59), .ref (a 54)]) (C := RX8) (n := 2) ⟨hx, hb, hml, hown, ht⟩ (k_x8_slot l D a x8 x9 _ _ hc15) (zgV ml_X1_220 im_X8_slot se_X8_slot in_X8 co_X8_slot) rfl rfl (by decide +kernel) ⟨Nat.le_of_ble_eq_true rfl, Nat.le_of_ble_eq_true rfl⟩ hN hK hP hS 53 CW_53 rfl rfl rfl hl.1 rfl (Nat.le_of_ble_eq_true rfl) eX1_owned_93.2.2.2.2.2.1 ⟨Nat.le_of_ble_eq_true rfl, Nat.le_of_ble_eq_true rfl⟩ (fun H locs hP hS => ?_)
      obtain ⟨y17, ey17, iy17, h⟩ := rdI_e h
      refine ya_iald (i := r16) hx hb hK hP 59 0 CW_59 rfl (by decide) ey17 iy17 eX1_owned_93.2.2.2.2.2.2.1 ?_
      refine lv_dup2_11 hx hb eX1_owned_93.2.2.2.2.2.2.2 rfl rfl ?_
      obtain ⟨y18, ey18, iy18, h⟩ := rdI_e h
      refine ya_iald (i := y17) hx hb hK hP 54 0 CW_54 rfl (by decide) ey18 iy18 eX1_owned_107.1 ?_
      refine lv_iconst (v := 1) hx hb eX1_owned_107.2.1 (by decide) ?_
      refine lv_iadd hx hb eX1_owned_107.2.2.1 ?_
      refine z_topi (y := i2 (y18 + 1)) (i2_add y18 1) ?_
      obtain ⟨hi19, h⟩ := inb_e h
      refine ya_iast (i := y17) (x := (y18 + 1)) hx hb hK hP (hDD _) hS 54 0 CW_54 rfl (by decide) hi19 eX1_owned_107.2.2.2.1 (CW_w54 _) (fun H locs hP hS => ?_)
      obtain ⟨s20, hs20, h⟩ := st_e h
      rw [hs20] at hP
      refine lv_iinc (v := i2 (x9 + 1)) (lv' := [(3, .int (i2 (x9 + 1))), (0, .ref (a 49)), (1, .int (i2 x7)), (2, .int (i2 x8))]) hx hb eX1_owned_107.2.2.2.2.1 hl (k := 3) rfl (i2_add x9 1) (by decide) rfl (fun ls hl => ?_)
      refine lv_goto (tgt := 69) hx hb eX1_owned_107.2.2.2.2.2.1 (by decide) ?_
      exact ih69 (x7, x8, x9 + 1, s20) _ _ _ ⟨hP, hS, lv_sub hl [1, 2, 3, 0] rfl, h⟩
  refine y_head (pcJ := 26) (σ := Int × MS) (fun u H locs ls => va_P D vwCl (CS D a u.2) H ∧ va_S A s₀.heap H locs ∧ lv_has ls 4 [(0, .ref (a 49)), (1, .int (i2 u.1))] ∧ m_x1_owned_J26 u.1 u.2 = some o) (fun u => []) (fun u H locs ls hI => ?_) (fun J26 => ?_)
  · obtain ⟨hP, hS, hl, h⟩ := hI
    obtain ⟨x21, s22⟩ := u
    have hP : va_P D vwCl (CS D a s22) H := hP
    have hl : lv_has ls 4 [(0, .ref (a 49)), (1, .int (i2 x21))] := hl
    have h : m_x1_owned_J26 x21 s22 = some o := h
    unfold m_x1_owned_J26 at h
    refine lv_aload_n hx hb eX1_owned_25.2.1 rfl (lv_at hl 0 rfl) ?_
    refine lv_aload_n hx hb eX1_owned_25.2.2.1 rfl (lv_at hl 0 rfl) ?_
    refine va_get (D := D) (ci := 1) (v := .ref (a 53)) (C := RX1) (T := TX1) (N := 9) hx hb ht inX1 hown hK hP 49 CW_49 rfl 0 (by decide) (ht (.fieldLink RX1 12 "CloneVolumes$Forest" "now" "LCloneVolumes$State;") fl_X1_12) (fun _ h9 => h9) rfl eX1_owned_25.2.2.2.1 ?_
    refine va_get (D := D) (ci := 8) (v := .ref (a 56)) (C := RX8) (T := TX8) (N := 11) hx hb ht inX8 hown hK hP 53 CW_53 rfl 5 (by decide) (ht (.fieldLink RX1 150 "CloneVolumes$State" "level" "[I") fl_X1_150) (fun _ h9 => h9) rfl eX1_owned_25.2.2.2.2.1 ?_
    refine lv_iload_n hx hb eX1_owned_25.2.2.2.2.2.1 rfl (lv_at hl 1 rfl) ?_
    obtain ⟨y23, ey23, iy23, h⟩ := rdI_e h
    refine ya_iald (i := x21) hx hb hK hP 56 0 CW_56 rfl (by decide) ey23 iy23 eX1_owned_25.2.2.2.2.2.2.1 ?_
    refine lv_iload_n hx hb eX1_owned_25.2.2.2.2.2.2.2 rfl (lv_at hl 1 rfl) ?_
    obtain ⟨⟨r26, s25⟩, hc24, h⟩ := bn_e h
    refine ywV (r0 := i2 r26) (As := [.int (i2 y23), .int (i2 x21)]) (rest := []) (C := RX1) (n := 2) (ws' := CS D a s25) ⟨hx, hb, hml, hown, ht⟩ (k_x1_take l D a y23 x21 _ _ _ hc24) (zgV ml_X1_210 im_X1_take se_X1_take in_X1 co_X1_take) rfl rfl (by decide +kernel) ⟨Nat.le_of_ble_eq_true rfl, Nat.le_of_ble_eq_true rfl⟩ hN hK hP (hDD _) hS hA 49 CW_49 rfl rfl rfl hl.1 rfl (Nat.le_of_ble_eq_true rfl) eX1_owned_37.1 ⟨Nat.le_of_ble_eq_true rfl, Nat.le_of_ble_eq_true rfl⟩ (fun H locs hP hS => ?_)
    refine lv_istore_n (lv' := [(2, .int (i2 r26)), (0, .ref (a 49)), (1, .int (i2 x21))]) hx hb eX1_owned_37.2.1 rfl hl (by decide) rfl (fun ls hl => ?_)
    refine lv_iload_n hx hb eX1_owned_37.2.2.1 rfl (lv_at hl 0 rfl) ?_
    refine lv_iconst (v := (-1)) hx hb eX1_owned_37.2.2.2.1 (by decide) ?_
    obtain ⟨hr27, h⟩ := rg_e h
    refine lv_icmp_ne (tgt := 48) hx hb eX1_owned_37.2.2.2.2.1 (by decide) (fun c28 => ?_) (fun c28 => ?_)
    · rw [show ((-1) : Int32) = i2 (-1) from by decide] at c28
      have h := if_f (mt (i2_eq (x := r26) (y := (-1)) hr27 (by decide)).mpr c28) h
      refine lv_aload_n hx hb eX1_owned_37.2.2.2.2.2.2.2 rfl (lv_at hl 1 rfl) ?_
      refine lv_iload_n hx hb eX1_owned_49.1 rfl (lv_at hl 2 rfl) ?_
      refine lv_iconst (v := 0) hx hb eX1_owned_49.2.1 (by decide) ?_
      refine lv_iload_n hx hb eX1_owned_49.2.2.1 rfl (lv_at hl 0 rfl) ?_
      obtain ⟨s30, hc29, h⟩ := bn_e h
      refine ywVv (As := [.int (i2 x21), .int 0, .int (i2 r26)]) (rest := []) (C := RX1) (n := 3) (ws' := CS D a s30) ⟨hx, hb, hml, hown, ht⟩ (k_x1_layEntries l D a x21 0 r26 _ _ _ hc29) (zgV ml_X1_213 im_X1_layEntries se_X1_layEntries in_X1 co_X1_layEntries) rfl rfl (by decide +kernel) ⟨Nat.le_of_ble_eq_true rfl, Nat.le_of_ble_eq_true rfl⟩ hN hK hP (hDD _) hS hA 49 CW_49 rfl rfl rfl hl.1 rfl (Nat.le_of_ble_eq_true rfl) eX1_owned_49.2.2.2.1 ⟨Nat.le_of_ble_eq_true rfl, Nat.le_of_ble_eq_true rfl⟩ (fun H locs hP hS => ?_)
      refine lv_aload_n hx hb eX1_owned_49.2.2.2.2.1 rfl (lv_at hl 1 rfl) ?_
      refine va_get (D := D) (ci := 1) (v := .ref (a 53)) (C := RX1) (T := TX1) (N := 9) hx hb ht inX1 hown hK hP 49 CW_49 rfl 0 (by decide) (ht (.fieldLink RX1 12 "CloneVolumes$Forest" "now" "LCloneVolumes$State;") fl_X1_12) (fun _ h9 => h9) rfl eX1_owned_49.2.2.2.2.2.1 ?_
      refine va_get (D := D) (ci := 8) (v := .ref (a 56)) (C := RX8) (T := TX8) (N := 11) hx hb ht inX8 hown hK hP 53 CW_53 rfl 5 (by decide) (ht (.fieldLink RX1 150 "CloneVolumes$State" "level" "[I") fl_X1_150) (fun _ h9 => h9) rfl eX1_owned_49.2.2.2.2.2.2.1 ?_
      refine lv_iload_n hx hb eX1_owned_49.2.2.2.2.2.2.2 rfl (lv_at hl 0 rfl) ?_
      obtain ⟨y31, ey31, iy31, h⟩ := rdI_e h
      refine ya_iald (i := r26) hx hb hK hP 56 0 CW_56 rfl (by decide) ey31 iy31 eX1_owned_63.1 ?_
      obtain ⟨hr32, h⟩ := rg_e h
      refine lv_if_le (tgt := 117) hx hb eX1_owned_63.2.1 (by decide) (fun c33 => ?_) (fun c33 => ?_)
      · have h := if_t ((i2_le (x := y31) (y := 0) hr32 (by decide)).mp c33) h
        exact J117 (x21, r26, s30) _ _ _ ⟨hP, hS, lv_sub hl [1, 2, 0] rfl, h⟩
      · have h := if_f (mt (i2_le (x := y31) (y := 0) hr32 (by decide)).mpr c33) h
        refine lv_iconst (v := 0) hx hb eX1_owned_63.2.2.1 (by decide) ?_
        refine lv_istore_n (lv' := [(3, .int 0), (2, .int (i2 r26)), (0, .ref (a 49)), (1, .int (i2 x21))]) hx hb eX1_owned_63.2.2.2.1 rfl hl (by decide) rfl (fun ls hl => ?_)
        exact J69 FU (x21, r26, 0, s30) _ _ _ ⟨hP, hS, lv_sub hl [2, 3, 1, 0] rfl, h⟩
    · rw [show ((-1) : Int32) = i2 (-1) from by decide] at c28
      have h := if_t ((i2_eq (x := r26) (y := (-1)) hr27 (by decide)).mp c28) h
      refine lv_iconst (v := (-1)) hx hb eX1_owned_37.2.2.2.2.2.1 (by decide) ?_
      obtain rfl := Option.some.inj h
      exact W.iret (v := (-1)) hx hb hr (fun t ht hW => ⟨⟨_, (), rfl, rfl, by rw [ht]; exact hP, va_K.moved hW.alike hK, hDD _⟩, hS.F ht⟩) hS.2.2 eX1_owned_37.2.2.2.2.2.2.1
  refine lv_aload_n hx hb eX1_layEntries_95.2.2.2.1 rfl (lv_at hl 0 rfl) ?_
  refine va_get (D := D) (ci := 1) (v := .ref (a 53)) (C := RX1) (T := TX1) (N := 9) hx hb ht inX1 hown hK hP 49 CW_49 rfl 0 (by decide) (ht (.fieldLink RX1 12 "CloneVolumes$Forest" "now" "LCloneVolumes$State;") fl_X1_12) (fun _ h9 => h9) rfl eX1_layEntries_95.2.2.2.2.1 ?_
  refine lv_iload_n hx hb eX1_layEntries_95.2.2.2.2.2.1 rfl (lv_at hl 1 rfl) ?_
  obtain ⟨r35, hc34, h⟩ := bn_e h
  refine ycV (r0 := i2 r35) (As := [.int (i2 p0)]) (rest := []) (C := RX8) (n := 1) ⟨hx, hb, hml, hown, ht⟩ (k_x8_isFresh l D a p0 _ _ hc34) (zgV ml_X1_186 im_X8_isFresh se_X8_isFresh in_X8 co_X8_isFresh) rfl rfl (by decide +kernel) ⟨Nat.le_of_ble_eq_true rfl, Nat.le_of_ble_eq_true rfl⟩ hN hK hP hS 53 CW_53 rfl rfl rfl hl.1 rfl (Nat.le_of_ble_eq_true rfl) eX1_layEntries_95.2.2.2.2.2.2.1 ⟨Nat.le_of_ble_eq_true rfl, Nat.le_of_ble_eq_true rfl⟩ (fun H locs hP hS => ?_)
  obtain ⟨hr36, h⟩ := rg_e h
  refine lv_if_eq (tgt := 26) hx hb eX1_layEntries_95.2.2.2.2.2.2.2 (by decide) (fun c37 => ?_) (fun c37 => ?_)
  · have h := if_t ((i2_eq (x := r35) (y := 0) hr36 (by decide)).mp c37) h
    exact J26 (p0, s) _ _ _ ⟨hP, hS, lv_sub hl [0, 1] rfl, h⟩
  · have h := if_f (mt (i2_eq (x := r35) (y := 0) hr36 (by decide)).mpr c37) h
    refine lv_aload_n hx hb eX1_owned_11.1 rfl (lv_at hl 0 rfl) ?_
    refine va_get (D := D) (ci := 1) (v := .ref (a 53)) (C := RX1) (T := TX1) (N := 9) hx hb ht inX1 hown hK hP 49 CW_49 rfl 0 (by decide) (ht (.fieldLink RX1 12 "CloneVolumes$Forest" "now" "LCloneVolumes$State;") fl_X1_12) (fun _ h9 => h9) rfl eX1_owned_11.2.1 ?_
    refine va_get (D := D) (ci := 8) (v := .ref (a 54)) (C := RX8) (T := TX8) (N := 11) hx hb ht inX8 hown hK hP 53 CW_53 rfl 3 (by decide) (ht (.fieldLink RX1 181 "CloneVolumes$State" "count" "[I") fl_X1_181) (fun _ h9 => h9) rfl eX1_owned_11.2.2.1 ?_
    refine lv_iload_n hx hb eX1_owned_11.2.2.2.1 rfl (lv_at hl 1 rfl) ?_
    obtain ⟨y38, ey38, iy38, h⟩ := rdI_e h
    refine ya_iald (i := p0) hx hb hK hP 54 0 CW_54 rfl (by decide) ey38 iy38 eX1_owned_11.2.2.2.2.1 ?_
    refine lv_iconst (v := 1) hx hb eX1_owned_11.2.2.2.2.2.1 (by decide) ?_
    obtain ⟨hr39, h⟩ := rg_e h
    refine lv_icmp_ne (tgt := 26) hx hb eX1_owned_11.2.2.2.2.2.2.1 (by decide) (fun c40 => ?_) (fun c40 => ?_)
    · have h := if_f (mt (i2_eq (x := y38) (y := 1) hr39 (by decide)).mpr c40) h
      exact J26 (p0, s) _ _ _ ⟨hP, hS, lv_sub hl [0, 1] rfl, h⟩
    · have h := if_t ((i2_eq (x := y38) (y := 1) hr39 (by decide)).mp c40) h
      refine lv_iload_n hx hb eX1_owned_11.2.2.2.2.2.2.2 rfl (lv_at hl 1 rfl) ?_
      obtain rfl := Option.some.inj h
      exact W.iret (v := (i2 p0)) hx hb hr (fun t ht hW => ⟨⟨_, (), rfl, rfl, by rw [ht]; exact hP, va_K.moved hW.alike hK, hDD _⟩, hS.F ht⟩) hS.2.2 eX1_owned_25.1
set_option maxHeartbeats 4000000 in
set_option maxRecDepth 100000 in
theorem k_x1_splits (l : Launch) (D : va_G) (a : Nat → Nat) (p0 : Int) (sz : Nat) (s : MS) (o : (Int × MS)) (h : m_x1_splits p0 s = some o) : yWi l yX1_splits cX1_splits 2 (some .boolean) { frames := 2, cells := 0, slots := 0, locals := 120 } D sz [.ref (a 49), .int (i2 p0)] (CS D a s) (CS D a o.2) (i2 o.1) := by
  refine Met.ofW (cc := cX1_splits) (maxL := 2) (ret := (some .boolean)) (by decide) rfl ?_
  intro p e s₀ m args below meth c s₁ B hml hv
  obtain ⟨rfl, ⟨hsz, hP, hK, hD0⟩, hN⟩ := hv
  have hx := B.exec
  have hb := B.bytes
  have hr := B.returns
  have hts := atoms_spec (ws := wz yX1_splits cX1_splits 2 (some .boolean)) B.pre
  have ht : ∀ w ∈ lw_gd, w.before _ s₀ = true := fun w h => hts w (List.mem_cons_of_mem _ h)
  have hown : s₀.vm.findClass RX1 = some m.cls := findClass_of_methodNamed B.named
  have hlocks := B.notSynchronized
  subst hsz
  have hD := hD0.self (sz := s₀.heap.size)
  generalize hAe : va_A (CS D a s) s₀.heap.size = A at hD ⊢
  have hA : ∀ q : Nat, s₀.heap.size ≤ q → A q := fun q h => by rw [← hAe]; exact Or.inr h
  have hS : va_S A s₀.heap s₀.heap [] := va_S.rf
  have hDD : ∀ t : MS, va_D A (CS D a t) := fun t => CW_D t hD
  have hl := lv_entry ([.ref (a 49), .int (i2 p0)]) (n := 2) (Nat.le_of_ble_eq_true rfl)
  rw [lg_entry_eq]
  generalize (lg_sl ([.ref (a 49), .int (i2 p0)]) ++ List.replicate (2 - (lg_sl ([.ref (a 49), .int (i2 p0)])).length) Slot.unset).toArray = ls at hl ⊢
  have hl : lv_has ls 2 [(0, .ref (a 49)), (1, .int (i2 p0))] := hl
  unfold m_x1_splits at h
  refine y_head (pcJ := 121) (σ := Int × MS) (fun u H locs ls => va_P D vwCl (CS D a u.2) H ∧ va_S A s₀.heap H locs ∧ lv_has ls 2 [] ∧ m_x1_splits_J121 u.1 u.2 = some o) (fun u => [.int (i2 u.1)]) (fun u H locs ls hI => ?_) (fun J121 => ?_)
  · obtain ⟨hP, hS, hl, h⟩ := hI
    obtain ⟨x1, s2⟩ := u
    have hP : va_P D vwCl (CS D a s2) H := hP
    have hl : lv_has ls 2 [] := hl
    have h : m_x1_splits_J121 x1 s2 = some o := h
    unfold m_x1_splits_J121 at h
    obtain ⟨hb3, h⟩ := bo_e h
    obtain rfl := Option.some.inj h
    exact W.zret (v := (i2 x1)) hx hb hr (bo_n hb3) (fun t ht hW => ⟨⟨_, (), rfl, rfl, by rw [ht]; exact hP, va_K.moved hW.alike hK, hDD _⟩, hS.F ht⟩) hS.2.2 eX1_splits_120.2.1
  refine y_head (pcJ := 47) (σ := MS) (fun u H locs ls => va_P D vwCl (CS D a u) H ∧ va_S A s₀.heap H locs ∧ lv_has ls 2 [] ∧ m_x1_splits_J47 u = some o) (fun u => []) (fun u H locs ls hI => ?_) (fun J47 => ?_)
  · obtain ⟨hP, hS, hl, h⟩ := hI
    obtain ⟨s4, rfl⟩ : ∃ z, z = u := ⟨u, rfl⟩
    have hP : va_P D vwCl (CS D a s4) H := hP
    have hl : lv_has ls 2 [] := hl
    have h : m_x1_splits_J47 s4 = some o := h
    unfold m_x1_splits_J47 at h
    refine lv_iconst (v := 0) hx hb eX1_splits_42.2.2.2.1 (by decide) ?_
    obtain rfl := Option.some.inj h
    exact W.zret (v := 0) hx hb hr (by decide) (fun t ht hW => ⟨⟨_, (), rfl, rfl, by rw [ht]; exact hP, va_K.moved hW.alike hK, hDD _⟩, hS.F ht⟩) hS.2.2 eX1_splits_42.2.2.2.2.1
  refine lv_aload_n hx hb eX1_split_122.2.2.1 rfl (lv_at hl 0 rfl) ?_
  refine va_get (D := D) (ci := 1) (v := .ref (a 53)) (C := RX1) (T := TX1) (N := 9) hx hb ht inX1 hown hK hP 49 CW_49 rfl 0 (by decide) (ht (.fieldLink RX1 12 "CloneVolumes$Forest" "now" "LCloneVolumes$State;") fl_X1_12) (fun _ h9 => h9) rfl eX1_split_122.2.2.2.1 ?_
  refine va_get (D := D) (ci := 8) (v := .ref (a 57)) (C := RX8) (T := TX8) (N := 11) hx hb ht inX8 hown hK hP 53 CW_53 rfl 6 (by decide) (ht (.fieldLink RX1 155 "CloneVolumes$State" "size" "[I") fl_X1_155) (fun _ h9 => h9) rfl eX1_split_122.2.2.2.2.1 ?_
  refine lv_iload_n hx hb eX1_split_122.2.2.2.2.2.1 rfl (lv_at hl 1 rfl) ?_
  obtain ⟨y5, ey5, iy5, h⟩ := rdI_e h
  refine ya_iald (i := p0) hx hb hK hP 57 0 CW_57 rfl (by decide) ey5 iy5 eX1_split_122.2.2.2.2.2.2.1 ?_
  refine lv_aload_n hx hb eX1_split_122.2.2.2.2.2.2.2 rfl (lv_at hl 0 rfl) ?_
  refine va_get (D := D) (ci := 1) (v := .ref (a 29)) (C := RX1) (T := TX1) (N := 9) hx hb ht inX1 hown hK hP 49 CW_49 rfl 4 (by decide) (ht (.fieldLink RX1 47 "CloneVolumes$Forest" "plan" "LCloneVolumes$Plan;") fl_X1_47) (fun _ h9 => h9) rfl eX1_splits_10.1 ?_
  refine va_get (D := D) (ci := 5) (v := .int (i2 (gI s 581))) (C := RX5) (T := TX5) (N := 14) hx hb ht inX5 hown hK hP 29 CW_29 rfl 1 (by decide) (ht (.fieldLink RX1 172 "CloneVolumes$Plan" "entriesMost" "I") fl_X1_172) (fun _ h9 => h9) rfl eX1_splits_10.2.1 ?_
  obtain ⟨hr6, h⟩ := rg_e h
  obtain ⟨hr7, h⟩ := rg_e h
  refine lv_icmp_lt (tgt := 21) hx hb eX1_splits_10.2.2.1 (by decide) (fun c8 => ?_) (fun c8 => ?_)
  · have h := if_t ((i2_lt (x := y5) (y := (gI s 581)) hr6 hr7).mp c8) h
    refine lv_aload_n hx hb eX1_splits_10.2.2.2.2.2.1 rfl (lv_at hl 0 rfl) ?_
    refine va_get (D := D) (ci := 1) (v := .ref (a 53)) (C := RX1) (T := TX1) (N := 9) hx hb ht inX1 hown hK hP 49 CW_49 rfl 0 (by decide) (ht (.fieldLink RX1 12 "CloneVolumes$Forest" "now" "LCloneVolumes$State;") fl_X1_12) (fun _ h9 => h9) rfl eX1_splits_10.2.2.2.2.2.2.1 ?_
    refine va_get (D := D) (ci := 8) (v := .ref (a 57)) (C := RX8) (T := TX8) (N := 11) hx hb ht inX8 hown hK hP 53 CW_53 rfl 6 (by decide) (ht (.fieldLink RX1 155 "CloneVolumes$State" "size" "[I") fl_X1_155) (fun _ h9 => h9) rfl eX1_splits_10.2.2.2.2.2.2.2 ?_
    refine lv_iload_n hx hb eX1_splits_28.1 rfl (lv_at hl 1 rfl) ?_
    obtain ⟨y9, ey9, iy9, h⟩ := rdI_e h
    refine ya_iald (i := p0) hx hb hK hP 57 0 CW_57 rfl (by decide) ey9 iy9 eX1_splits_28.2.1 ?_
    refine lv_iconst (v := 2) hx hb eX1_splits_28.2.2.1 (by decide) ?_
    obtain ⟨hr10, h⟩ := rg_e h
    refine lv_icmp_lt (tgt := 47) hx hb eX1_splits_28.2.2.2.1 (by decide) (fun c11 => ?_) (fun c11 => ?_)
    · have h := if_t ((i2_lt (x := y9) (y := 2) hr10 (by decide)).mp c11) h
      exact J47 s _ _ _ ⟨hP, hS, lv_sub hl [] rfl, h⟩
    · have h := if_f (mt (i2_lt (x := y9) (y := 2) hr10 (by decide)).mpr c11) h
      refine lv_aload_n hx hb eX1_splits_28.2.2.2.2.1 rfl (lv_at hl 0 rfl) ?_
      refine va_get (D := D) (ci := 1) (v := .ref (a 29)) (C := RX1) (T := TX1) (N := 9) hx hb ht inX1 hown hK hP 49 CW_49 rfl 4 (by decide) (ht (.fieldLink RX1 47 "CloneVolumes$Forest" "plan" "LCloneVolumes$Plan;") fl_X1_47) (fun _ h9 => h9) rfl eX1_splits_28.2.2.2.2.2.1 ?_
      refine va_get (D := D) (ci := 5) (v := .ref (a 35)) (C := RX5) (T := TX5) (N := 14) hx hb ht inX5 hown hK hP 29 CW_29 rfl 12 (by decide) (ht (.fieldLink RX1 144 "CloneVolumes$Plan" "begins" "[I") fl_X1_144) (fun _ h9 => h9) rfl eX1_splits_28.2.2.2.2.2.2.1 ?_
      refine lv_iconst (v := 1) hx hb eX1_splits_28.2.2.2.2.2.2.2 (by decide) ?_
      obtain ⟨y12, ey12, iy12, h⟩ := rdI_e h
      refine ya_iald (i := 1) hx hb hK hP 35 0 CW_35 rfl (by decide) ey12 iy12 eX1_splits_42.1 ?_
      refine lv_iconst (v := (-1)) hx hb eX1_splits_42.2.1 (by decide) ?_
      obtain ⟨hr13, h⟩ := rg_e h
      refine lv_icmp_ne (tgt := 49) hx hb eX1_splits_42.2.2.1 (by decide) (fun c14 => ?_) (fun c14 => ?_)
      · rw [show ((-1) : Int32) = i2 (-1) from by decide] at c14
        have h := if_f (mt (i2_eq (x := y12) (y := (-1)) hr13 (by decide)).mpr c14) h
        refine lv_aload_n hx hb eX1_splits_42.2.2.2.2.2.1 rfl (lv_at hl 0 rfl) ?_
        refine va_get (D := D) (ci := 1) (v := .ref (a 80)) (C := RX1) (T := TX1) (N := 9) hx hb ht inX1 hown hK hP 49 CW_49 rfl 5 (by decide) (ht (.fieldLink RX1 33 "CloneVolumes$Forest" "machine" "LCloneVolumes$Machine;") fl_X1_33) (fun _ h9 => h9) rfl eX1_splits_42.2.2.2.2.2.2.1 ?_
        refine lv_aload_n hx hb eX1_splits_42.2.2.2.2.2.2.2 rfl (lv_at hl 0 rfl) ?_
        refine va_get (D := D) (ci := 1) (v := .ref (a 53)) (C := RX1) (T := TX1) (N := 9) hx hb ht inX1 hown hK hP 49 CW_49 rfl 0 (by decide) (ht (.fieldLink RX1 12 "CloneVolumes$Forest" "now" "LCloneVolumes$State;") fl_X1_12) (fun _ h9 => h9) rfl eX1_splits_54.1 ?_
        refine va_get (D := D) (ci := 8) (v := .ref (a 56)) (C := RX8) (T := TX8) (N := 11) hx hb ht inX8 hown hK hP 53 CW_53 rfl 5 (by decide) (ht (.fieldLink RX1 150 "CloneVolumes$State" "level" "[I") fl_X1_150) (fun _ h9 => h9) rfl eX1_splits_54.2.1 ?_
        refine lv_iload_n hx hb eX1_splits_54.2.2.1 rfl (lv_at hl 1 rfl) ?_
        obtain ⟨y15, ey15, iy15, h⟩ := rdI_e h
        refine ya_iald (i := p0) hx hb hK hP 56 0 CW_56 rfl (by decide) ey15 iy15 eX1_splits_54.2.2.2.1 ?_
        refine ya_put (D := D) (ci := 3) (v := .int (i2 y15)) (ty := .int) (C := RX3) (T := TX3) (N := 10) hx hb ht inX3 tyX3 tyX3_ok nmX3 hown hK hP (hDD _) hS 80 CW_80 rfl 4 (by decide) (ht (.fieldLink RX1 153 "CloneVolumes$Machine" "level" "I") fl_X1_153) (fun _ h9 => h9) rfl (by decide +kernel) rfl rfl (Nat.le_of_ble_eq_true rfl) eX1_splits_54.2.2.2.2.1 (CW_w80_4 y15) (fun H locs hP hS => ?_)
        obtain ⟨s16, hs16, h⟩ := st_e h
        rw [hs16] at hP
        refine lv_aload_n hx hb eX1_splits_54.2.2.2.2.2.1 rfl (lv_at hl 0 rfl) ?_
        refine va_get (D := D) (ci := 1) (v := .ref (a 80)) (C := RX1) (T := TX1) (N := 9) hx hb ht inX1 hown hK hP 49 CW_49 rfl 5 (by decide) (ht (.fieldLink RX1 33 "CloneVolumes$Forest" "machine" "LCloneVolumes$Machine;") fl_X1_33) (fun _ h9 => h9) rfl eX1_splits_54.2.2.2.2.2.2.1 ?_
        refine lv_aload_n hx hb eX1_splits_54.2.2.2.2.2.2.2 rfl (lv_at hl 0 rfl) ?_
        refine va_get (D := D) (ci := 1) (v := .ref (a 53)) (C := RX1) (T := TX1) (N := 9) hx hb ht inX1 hown hK hP 49 CW_49 rfl 0 (by decide) (ht (.fieldLink RX1 12 "CloneVolumes$Forest" "now" "LCloneVolumes$State;") fl_X1_12) (fun _ h9 => h9) rfl eX1_splits_70.1 ?_
        refine va_get (D := D) (ci := 8) (v := .ref (a 57)) (C := RX8) (T := TX8) (N := 11) hx hb ht inX8 hown hK hP 53 CW_53 rfl 6 (by decide) (ht (.fieldLink RX1 155 "CloneVolumes$State" "size" "[I") fl_X1_155) (fun _ h9 => h9) rfl eX1_splits_70.2.1 ?_
        refine lv_iload_n hx hb eX1_splits_70.2.2.1 rfl (lv_at hl 1 rfl) ?_
        obtain ⟨y17, ey17, iy17, h⟩ := rdI_e h
        refine ya_iald (i := p0) hx hb hK hP 57 0 CW_57 rfl (by decide) ey17 iy17 eX1_splits_70.2.2.2.1 ?_
        refine ya_put (D := D) (ci := 3) (v := .int (i2 y17)) (ty := .int) (C := RX3) (T := TX3) (N := 10) hx hb ht inX3 tyX3 tyX3_ok nmX3 hown hK hP (hDD _) hS 80 CW_80 rfl 5 (by decide) (ht (.fieldLink RX1 158 "CloneVolumes$Machine" "entries" "I") fl_X1_158) (fun _ h9 => h9) rfl (by decide +kernel) rfl rfl (Nat.le_of_ble_eq_true rfl) eX1_splits_70.2.2.2.2.1 (CW_w80_5 y17) (fun H locs hP hS => ?_)
        obtain ⟨s18, hs18, h⟩ := st_e h
        rw [hs18] at hP
        refine lv_aload_n hx hb eX1_splits_70.2.2.2.2.2.1 rfl (lv_at hl 0 rfl) ?_
        refine va_get (D := D) (ci := 1) (v := .ref (a 80)) (C := RX1) (T := TX1) (N := 9) hx hb ht inX1 hown hK hP 49 CW_49 rfl 5 (by decide) (ht (.fieldLink RX1 33 "CloneVolumes$Forest" "machine" "LCloneVolumes$Machine;") fl_X1_33) (fun _ h9 => h9) rfl eX1_splits_70.2.2.2.2.2.2.1 ?_
        refine lv_aload_n hx hb eX1_splits_70.2.2.2.2.2.2.2 rfl (lv_at hl 0 rfl) ?_
        refine va_get (D := D) (ci := 1) (v := .ref (a 29)) (C := RX1) (T := TX1) (N := 9) hx hb ht inX1 hown hK hP 49 CW_49 rfl 4 (by decide) (ht (.fieldLink RX1 47 "CloneVolumes$Forest" "plan" "LCloneVolumes$Plan;") fl_X1_47) (fun _ h9 => h9) rfl eX1_splits_86.1 ?_
        refine va_get (D := D) (ci := 5) (v := .ref (a 37)) (C := RX5) (T := TX5) (N := 14) hx hb ht inX5 hown hK hP 29 CW_29 rfl 11 (by decide) (ht (.fieldLink RX1 161 "CloneVolumes$Plan" "code" "LCloneVolumes$Code;") fl_X1_161) (fun _ h9 => h9) rfl eX1_splits_86.2.1 ?_
        refine lv_aload_n hx hb eX1_splits_86.2.2.1 rfl (lv_at hl 0 rfl) ?_
        refine va_get (D := D) (ci := 1) (v := .ref (a 29)) (C := RX1) (T := TX1) (N := 9) hx hb ht inX1 hown hK hP 49 CW_49 rfl 4 (by decide) (ht (.fieldLink RX1 47 "CloneVolumes$Forest" "plan" "LCloneVolumes$Plan;") fl_X1_47) (fun _ h9 => h9) rfl eX1_splits_86.2.2.2.1 ?_
        refine va_get (D := D) (ci := 5) (v := .ref (a 35)) (C := RX5) (T := TX5) (N := 14) hx hb ht inX5 hown hK hP 29 CW_29 rfl 12 (by decide) (ht (.fieldLink RX1 144 "CloneVolumes$Plan" "begins" "[I") fl_X1_144) (fun _ h9 => h9) rfl eX1_splits_86.2.2.2.2.1 ?_
        refine lv_iconst (v := 1) hx hb eX1_splits_86.2.2.2.2.2.1 (by decide) ?_
        obtain ⟨y19, ey19, iy19, h⟩ := rdI_e h
        refine ya_iald (i := 1) hx hb hK hP 35 0 CW_35 rfl (by decide) ey19 iy19 eX1_splits_86.2.2.2.2.2.2.1 ?_
        refine lv_aload_n hx hb eX1_splits_86.2.2.2.2.2.2.2 rfl (lv_at hl 0 rfl) ?_
        refine va_get (D := D) (ci := 1) (v := .ref (a 29)) (C := RX1) (T := TX1) (N := 9) hx hb ht inX1 hown hK hP 49 CW_49 rfl 4 (by decide) (ht (.fieldLink RX1 47 "CloneVolumes$Forest" "plan" "LCloneVolumes$Plan;") fl_X1_47) (fun _ h9 => h9) rfl eX1_splits_102.1 ?_
        refine va_get (D := D) (ci := 5) (v := .ref (a 36)) (C := RX5) (T := TX5) (N := 14) hx hb ht inX5 hown hK hP 29 CW_29 rfl 13 (by decide) (ht (.fieldLink RX1 165 "CloneVolumes$Plan" "ends" "[I") fl_X1_165) (fun _ h9 => h9) rfl eX1_splits_102.2.1 ?_
        refine lv_iconst (v := 1) hx hb eX1_splits_102.2.2.1 (by decide) ?_
        obtain ⟨y20, ey20, iy20, h⟩ := rdI_e h
        refine ya_iald (i := 1) hx hb hK hP 36 0 CW_36 rfl (by decide) ey20 iy20 eX1_splits_102.2.2.2.1 ?_
        obtain ⟨⟨r23, s22⟩, hc21, h⟩ := bn_e h
        refine ywV (r0 := i2 r23) (As := [.ref (a 37), .int (i2 y19), .int (i2 y20)]) (rest := []) (C := RX3) (n := 3) (ws' := CS D a s22) ⟨hx, hb, hml, hown, ht⟩ (k_x3_value l D a y19 y20 _ _ _ hc21) (zgV ml_X1_168 im_X3_value se_X3_value in_X3 co_X3_value) rfl rfl (by decide +kernel) ⟨Nat.le_of_ble_eq_true rfl, Nat.le_of_ble_eq_true rfl⟩ hN hK hP (hDD _) hS hA 80 CW_80 rfl rfl rfl hl.1 rfl (Nat.le_of_ble_eq_true rfl) eX1_splits_102.2.2.2.2.1 ⟨Nat.le_of_ble_eq_true rfl, Nat.le_of_ble_eq_true rfl⟩ (fun H locs hP hS => ?_)
        obtain ⟨hr24, h⟩ := rg_e h
        refine lv_if_eq (tgt := 120) hx hb eX1_splits_102.2.2.2.2.2.1 (by decide) (fun c25 => ?_) (fun c25 => ?_)
        · have h := if_t ((i2_eq (x := r23) (y := 0) hr24 (by decide)).mp c25) h
          refine lv_iconst (v := 0) hx hb eX1_splits_120.1 (by decide) ?_
          exact J121 (0, s22) _ _ _ ⟨hP, hS, lv_sub hl [] rfl, h⟩
        · have h := if_f (mt (i2_eq (x := r23) (y := 0) hr24 (by decide)).mpr c25) h
          refine lv_iconst (v := 1) hx hb eX1_splits_102.2.2.2.2.2.2.1 (by decide) ?_
          refine lv_goto (tgt := 121) hx hb eX1_splits_102.2.2.2.2.2.2.2 (by decide) ?_
          exact J121 (1, s22) _ _ _ ⟨hP, hS, lv_sub hl [] rfl, h⟩
      · rw [show ((-1) : Int32) = i2 (-1) from by decide] at c14
        have h := if_t ((i2_eq (x := y12) (y := (-1)) hr13 (by decide)).mp c14) h
        exact J47 s _ _ _ ⟨hP, hS, lv_sub hl [] rfl, h⟩
  · have h := if_f (mt (i2_lt (x := y5) (y := (gI s 581)) hr6 hr7).mpr c8) h
    refine lv_iconst (v := 1) hx hb eX1_splits_10.2.2.2.1 (by decide) ?_
    obtain rfl := Option.some.inj h
    exact W.zret (v := 1) hx hb hr (by decide) (fun t ht hW => ⟨⟨_, (), rfl, rfl, by rw [ht]; exact hP, va_K.moved hW.alike hK, hDD _⟩, hS.F ht⟩) hS.2.2 eX1_splits_10.2.2.2.2.1
set_option maxHeartbeats 4000000 in
set_option maxRecDepth 100000 in
theorem k_x1_split (l : Launch) (D : va_G) (a : Nat → Nat) (p0 : Int) (p1 : Int) (p2 : Int) (p3 : Int) (sz : Nat) (s : MS) (o : (Int × MS)) (h : m_x1_split p0 p1 p2 p3 s = some o) : yWi l yX1_split cX1_split 8 (some .int) { frames := 3, cells := 0, slots := 0, locals := 180 } D sz [.ref (a 49), .int (i2 p0), .int (i2 p1), .int (i2 p2), .int (i2 p3)] (CS D a s) (CS D a o.2) (i2 o.1) := by
  refine Met.ofW (cc := cX1_split) (maxL := 8) (ret := (some .int)) (by decide) rfl ?_
  intro p e s₀ m args below meth c s₁ B hml hv
  obtain ⟨rfl, ⟨hsz, hP, hK, hD0⟩, hN⟩ := hv
  have hx := B.exec
  have hb := B.bytes
  have hr := B.returns
  have hts := atoms_spec (ws := wz yX1_split cX1_split 8 (some .int)) B.pre
  have ht : ∀ w ∈ lw_gd, w.before _ s₀ = true := fun w h => hts w (List.mem_cons_of_mem _ h)
  have hown : s₀.vm.findClass RX1 = some m.cls := findClass_of_methodNamed B.named
  have hlocks := B.notSynchronized
  subst hsz
  have hD := hD0.self (sz := s₀.heap.size)
  generalize hAe : va_A (CS D a s) s₀.heap.size = A at hD ⊢
  have hA : ∀ q : Nat, s₀.heap.size ≤ q → A q := fun q h => by rw [← hAe]; exact Or.inr h
  have hS : va_S A s₀.heap s₀.heap [] := va_S.rf
  have hDD : ∀ t : MS, va_D A (CS D a t) := fun t => CW_D t hD
  have hl := lv_entry ([.ref (a 49), .int (i2 p0), .int (i2 p1), .int (i2 p2), .int (i2 p3)]) (n := 8) (Nat.le_of_ble_eq_true rfl)
  rw [lg_entry_eq]
  generalize (lg_sl ([.ref (a 49), .int (i2 p0), .int (i2 p1), .int (i2 p2), .int (i2 p3)]) ++ List.replicate (8 - (lg_sl ([.ref (a 49), .int (i2 p0), .int (i2 p1), .int (i2 p2), .int (i2 p3)])).length) Slot.unset).toArray = ls at hl ⊢
  have hl : lv_has ls 8 [(0, .ref (a 49)), (1, .int (i2 p0)), (2, .int (i2 p1)), (3, .int (i2 p2)), (4, .int (i2 p3))] := hl
  unfold m_x1_split at h
  refine y_head (pcJ := 123) (σ := Int × MS) (fun u H locs ls => va_P D vwCl (CS D a u.2) H ∧ va_S A s₀.heap H locs ∧ lv_has ls 8 [] ∧ m_x1_split_J123 u.1 u.2 = some o) (fun u => [.int (i2 u.1)]) (fun u H locs ls hI => ?_) (fun J123 => ?_)
  · obtain ⟨hP, hS, hl, h⟩ := hI
    obtain ⟨x1, s2⟩ := u
    have hP : va_P D vwCl (CS D a s2) H := hP
    have hl : lv_has ls 8 [] := hl
    have h : m_x1_split_J123 x1 s2 = some o := h
    unfold m_x1_split_J123 at h
    obtain rfl := Option.some.inj h
    exact W.iret (v := (i2 x1)) hx hb hr (fun t ht hW => ⟨⟨_, (), rfl, rfl, by rw [ht]; exact hP, va_K.moved hW.alike hK, hDD _⟩, hS.F ht⟩) hS.2.2 eX1_split_122.2.1
  refine lv_aload_n hx hb eX1_raiseRoot_66.2.2.2.2.2.1 rfl (lv_at hl 0 rfl) ?_
  refine lv_aload_n hx hb eX1_raiseRoot_66.2.2.2.2.2.2.1 rfl (lv_at hl 0 rfl) ?_
  refine va_get (D := D) (ci := 1) (v := .ref (a 53)) (C := RX1) (T := TX1) (N := 9) hx hb ht inX1 hown hK hP 49 CW_49 rfl 0 (by decide) (ht (.fieldLink RX1 12 "CloneVolumes$Forest" "now" "LCloneVolumes$State;") fl_X1_12) (fun _ h9 => h9) rfl eX1_raiseRoot_66.2.2.2.2.2.2.2 ?_
  refine va_get (D := D) (ci := 8) (v := .ref (a 56)) (C := RX8) (T := TX8) (N := 11) hx hb ht inX8 hown hK hP 53 CW_53 rfl 5 (by decide) (ht (.fieldLink RX1 150 "CloneVolumes$State" "level" "[I") fl_X1_150) (fun _ h9 => h9) rfl eX1_split_5.1 ?_
  refine lv_iload_n hx hb eX1_split_5.2.1 rfl (lv_at hl 3 rfl) ?_
  obtain ⟨y3, ey3, iy3, h⟩ := rdI_e h
  refine ya_iald (i := p2) hx hb hK hP 56 0 CW_56 rfl (by decide) ey3 iy3 eX1_split_5.2.2.1 ?_
  refine lv_iload_n hx hb eX1_split_5.2.2.2.1 rfl (lv_at hl 3 rfl) ?_
  obtain ⟨⟨r6, s5⟩, hc4, h⟩ := bn_e h
  refine ywV (r0 := i2 r6) (As := [.int (i2 y3), .int (i2 p2)]) (rest := []) (C := RX1) (n := 2) (ws' := CS D a s5) ⟨hx, hb, hml, hown, ht⟩ (k_x1_take l D a y3 p2 _ _ _ hc4) (zgV ml_X1_210 im_X1_take se_X1_take in_X1 co_X1_take) rfl rfl (by decide +kernel) ⟨Nat.le_of_ble_eq_true rfl, Nat.le_of_ble_eq_true rfl⟩ hN hK hP (hDD _) hS hA 49 CW_49 rfl rfl rfl hl.1 rfl (Nat.le_of_ble_eq_true rfl) eX1_split_5.2.2.2.2.1 ⟨Nat.le_of_ble_eq_true rfl, Nat.le_of_ble_eq_true rfl⟩ (fun H locs hP hS => ?_)
  refine lv_istore (lv' := [(5, .int (i2 r6)), (0, .ref (a 49)), (1, .int (i2 p0)), (2, .int (i2 p1)), (3, .int (i2 p2)), (4, .int (i2 p3))]) hx hb eX1_split_5.2.2.2.2.2.1 hl (by decide) rfl (fun ls hl => ?_)
  refine lv_iload hx hb eX1_split_5.2.2.2.2.2.2.1 (lv_at hl 0 rfl) ?_
  refine lv_iconst (v := (-1)) hx hb eX1_split_5.2.2.2.2.2.2.2 (by decide) ?_
  obtain ⟨hr7, h⟩ := rg_e h
  refine lv_icmp_ne (tgt := 24) hx hb eX1_split_19.1 (by decide) (fun c8 => ?_) (fun c8 => ?_)
  · rw [show ((-1) : Int32) = i2 (-1) from by decide] at c8
    have h := if_f (mt (i2_eq (x := r6) (y := (-1)) hr7 (by decide)).mpr c8) h
    refine lv_aload_n hx hb eX1_split_19.2.2.2.1 rfl (lv_at hl 1 rfl) ?_
    refine va_get (D := D) (ci := 1) (v := .ref (a 53)) (C := RX1) (T := TX1) (N := 9) hx hb ht inX1 hown hK hP 49 CW_49 rfl 0 (by decide) (ht (.fieldLink RX1 12 "CloneVolumes$Forest" "now" "LCloneVolumes$State;") fl_X1_12) (fun _ h9 => h9) rfl eX1_split_19.2.2.2.2.1 ?_
    refine va_get (D := D) (ci := 8) (v := .ref (a 57)) (C := RX8) (T := TX8) (N := 11) hx hb ht inX8 hown hK hP 53 CW_53 rfl 6 (by decide) (ht (.fieldLink RX1 155 "CloneVolumes$State" "size" "[I") fl_X1_155) (fun _ h9 => h9) rfl eX1_split_19.2.2.2.2.2.1 ?_
    refine lv_iload_n hx hb eX1_split_19.2.2.2.2.2.2.1 rfl (lv_at hl 4 rfl) ?_
    obtain ⟨y9, ey9, iy9, h⟩ := rdI_e h
    refine ya_iald (i := p2) hx hb hK hP 57 0 CW_57 rfl (by decide) ey9 iy9 eX1_split_19.2.2.2.2.2.2.2 ?_
    refine lv_aload_n hx hb eX1_split_33.1 rfl (lv_at hl 1 rfl) ?_
    refine va_get (D := D) (ci := 1) (v := .ref (a 53)) (C := RX1) (T := TX1) (N := 9) hx hb ht inX1 hown hK hP 49 CW_49 rfl 0 (by decide) (ht (.fieldLink RX1 12 "CloneVolumes$Forest" "now" "LCloneVolumes$State;") fl_X1_12) (fun _ h9 => h9) rfl eX1_split_33.2.1 ?_
    refine va_get (D := D) (ci := 8) (v := .ref (a 57)) (C := RX8) (T := TX8) (N := 11) hx hb ht inX8 hown hK hP 53 CW_53 rfl 6 (by decide) (ht (.fieldLink RX1 155 "CloneVolumes$State" "size" "[I") fl_X1_155) (fun _ h9 => h9) rfl eX1_split_33.2.2.1 ?_
    refine lv_iload_n hx hb eX1_split_33.2.2.2.1 rfl (lv_at hl 4 rfl) ?_
    obtain ⟨y10, ey10, iy10, h⟩ := rdI_e h
    refine ya_iald (i := p2) hx hb hK hP 57 0 CW_57 rfl (by decide) ey10 iy10 eX1_split_33.2.2.2.2.1 ?_
    refine lv_iconst (v := 2) hx hb eX1_split_33.2.2.2.2.2.1 (by decide) ?_
    obtain ⟨hn11, h⟩ := dv_e h
    refine lv_idiv hx hb eX1_split_33.2.2.2.2.2.2.1 (dv_nz hn11) ?_
    refine z_topi (y := i2 (Int.tdiv y10 2)) (by rw [show (2 : Int32) = i2 2 from by decide +kernel]; exact dv_d hn11) ?_
    refine lv_isub hx hb eX1_split_33.2.2.2.2.2.2.2 ?_
    refine z_topi (y := i2 (y9 - (Int.tdiv y10 2))) (i2_sub y9 (Int.tdiv y10 2)) ?_
    refine lv_istore (lv' := [(6, .int (i2 (y9 - (Int.tdiv y10 2)))), (5, .int (i2 r6)), (0, .ref (a 49)), (1, .int (i2 p0)), (2, .int (i2 p1)), (3, .int (i2 p2)), (4, .int (i2 p3))]) hx hb eX1_split_45.1 hl (by decide) rfl (fun ls hl => ?_)
    refine lv_aload_n hx hb eX1_split_45.2.1 rfl (lv_at hl 2 rfl) ?_
    refine lv_iload_n hx hb eX1_split_45.2.2.1 rfl (lv_at hl 5 rfl) ?_
    refine lv_iload hx hb eX1_split_45.2.2.2.1 (lv_at hl 0 rfl) ?_
    refine lv_iload hx hb eX1_split_45.2.2.2.2.1 (lv_at hl 1 rfl) ?_
    obtain ⟨s13, hc12, h⟩ := bn_e h
    refine ywVv (As := [.int (i2 p2), .int (i2 (y9 - (Int.tdiv y10 2))), .int (i2 r6)]) (rest := []) (C := RX1) (n := 3) (ws' := CS D a s13) ⟨hx, hb, hml, hown, ht⟩ (k_x1_layEntries l D a p2 (y9 - (Int.tdiv y10 2)) r6 _ _ _ hc12) (zgV ml_X1_213 im_X1_layEntries se_X1_layEntries in_X1 co_X1_layEntries) rfl rfl (by decide +kernel) ⟨Nat.le_of_ble_eq_true rfl, Nat.le_of_ble_eq_true rfl⟩ hN hK hP (hDD _) hS hA 49 CW_49 rfl rfl rfl hl.1 rfl (Nat.le_of_ble_eq_true rfl) eX1_split_45.2.2.2.2.2.1 ⟨Nat.le_of_ble_eq_true rfl, Nat.le_of_ble_eq_true rfl⟩ (fun H locs hP hS => ?_)
    refine lv_aload_n hx hb eX1_split_45.2.2.2.2.2.2.1 rfl (lv_at hl 2 rfl) ?_
    refine va_get (D := D) (ci := 1) (v := .ref (a 53)) (C := RX1) (T := TX1) (N := 9) hx hb ht inX1 hown hK hP 49 CW_49 rfl 0 (by decide) (ht (.fieldLink RX1 12 "CloneVolumes$Forest" "now" "LCloneVolumes$State;") fl_X1_12) (fun _ h9 => h9) rfl eX1_split_45.2.2.2.2.2.2.2 ?_
    refine va_get (D := D) (ci := 8) (v := .ref (a 57)) (C := RX8) (T := TX8) (N := 11) hx hb ht inX8 hown hK hP 53 CW_53 rfl 6 (by decide) (ht (.fieldLink RX1 155 "CloneVolumes$State" "size" "[I") fl_X1_155) (fun _ h9 => h9) rfl eX1_split_60.1 ?_
    refine lv_iload_n hx hb eX1_split_60.2.1 rfl (lv_at hl 5 rfl) ?_
    refine lv_iload hx hb eX1_split_60.2.2.1 (lv_at hl 0 rfl) ?_
    obtain ⟨hi14, h⟩ := inb_e h
    refine ya_iast (i := p2) (x := (y9 - (Int.tdiv y10 2))) hx hb hK hP (hDD _) hS 57 0 CW_57 rfl (by decide) hi14 eX1_split_60.2.2.2.1 (CW_w57 _) (fun H locs hP hS => ?_)
    obtain ⟨s15, hs15, h⟩ := st_e h
    rw [hs15] at hP
    refine lv_aload_n hx hb eX1_split_60.2.2.2.2.1 rfl (lv_at hl 2 rfl) ?_
    refine va_get (D := D) (ci := 1) (v := .ref (a 53)) (C := RX1) (T := TX1) (N := 9) hx hb ht inX1 hown hK hP 49 CW_49 rfl 0 (by decide) (ht (.fieldLink RX1 12 "CloneVolumes$Forest" "now" "LCloneVolumes$State;") fl_X1_12) (fun _ h9 => h9) rfl eX1_split_60.2.2.2.2.2.1 ?_
    refine lv_iload_n hx hb eX1_split_60.2.2.2.2.2.2.1 rfl (lv_at hl 5 rfl) ?_
    obtain ⟨s17, hc16, h⟩ := bn_e h
    refine ywVv (As := [.int (i2 p2)]) (rest := []) (C := RX8) (n := 1) (ws' := CS D a s17) ⟨hx, hb, hml, hown, ht⟩ (k_x8_mark l D a p2 _ _ _ hc16) (zgV ml_X1_207 im_X8_mark se_X8_mark in_X8 co_X8_mark) rfl rfl (by decide +kernel) ⟨Nat.le_of_ble_eq_true rfl, Nat.le_of_ble_eq_true rfl⟩ hN hK hP (hDD _) hS hA 53 CW_53 rfl rfl rfl hl.1 rfl (Nat.le_of_ble_eq_true rfl) eX1_split_60.2.2.2.2.2.2.2 ⟨Nat.le_of_ble_eq_true rfl, Nat.le_of_ble_eq_true rfl⟩ (fun H locs hP hS => ?_)
    refine lv_aload_n hx hb eX1_split_75.1 rfl (lv_at hl 2 rfl) ?_
    refine va_get (D := D) (ci := 1) (v := .ref (a 53)) (C := RX1) (T := TX1) (N := 9) hx hb ht inX1 hown hK hP 49 CW_49 rfl 0 (by decide) (ht (.fieldLink RX1 12 "CloneVolumes$Forest" "now" "LCloneVolumes$State;") fl_X1_12) (fun _ h9 => h9) rfl eX1_split_75.2.1 ?_
    refine va_get (D := D) (ci := 8) (v := .ref (a 58)) (C := RX8) (T := TX8) (N := 11) hx hb ht inX8 hown hK hP 53 CW_53 rfl 7 (by decide) (ht (.fieldLink RX1 227 "CloneVolumes$State" "keys" "[I") fl_X1_227) (fun _ h9 => h9) rfl eX1_split_75.2.2.1 ?_
    refine lv_aload_n hx hb eX1_split_75.2.2.2.1 rfl (lv_at hl 2 rfl) ?_
    refine va_get (D := D) (ci := 1) (v := .ref (a 53)) (C := RX1) (T := TX1) (N := 9) hx hb ht inX1 hown hK hP 49 CW_49 rfl 0 (by decide) (ht (.fieldLink RX1 12 "CloneVolumes$Forest" "now" "LCloneVolumes$State;") fl_X1_12) (fun _ h9 => h9) rfl eX1_split_75.2.2.2.2.1 ?_
    refine lv_iload hx hb eX1_split_75.2.2.2.2.2.1 (lv_at hl 1 rfl) ?_
    refine lv_iconst (v := 0) hx hb eX1_split_75.2.2.2.2.2.2.1 (by decide) ?_
    obtain ⟨r19, hc18, h⟩ := bn_e h
    refine ycV (r0 := i2 r19) (As := [.int (i2 r6), .int 0]) (rest := [.ref (a 58)]) (C := RX8) (n := 2) ⟨hx, hb, hml, hown, ht⟩ (k_x8_slot l D a r6 0 _ _ hc18) (zgV ml_X1_220 im_X8_slot se_X8_slot in_X8 co_X8_slot) rfl rfl (by decide +kernel) ⟨Nat.le_of_ble_eq_true rfl, Nat.le_of_ble_eq_true rfl⟩ hN hK hP hS 53 CW_53 rfl rfl rfl hl.1 rfl (Nat.le_of_ble_eq_true rfl) eX1_split_75.2.2.2.2.2.2.2 ⟨Nat.le_of_ble_eq_true rfl, Nat.le_of_ble_eq_true rfl⟩ (fun H locs hP hS => ?_)
    obtain ⟨y20, ey20, iy20, h⟩ := rdI_e h
    refine ya_iald (i := r19) hx hb hK hP 58 0 CW_58 rfl (by decide) ey20 iy20 eX1_split_92.1 ?_
    refine lv_istore (lv' := [(7, .int (i2 y20)), (6, .int (i2 (y9 - (Int.tdiv y10 2)))), (5, .int (i2 r6)), (0, .ref (a 49)), (1, .int (i2 p0)), (2, .int (i2 p1)), (3, .int (i2 p2)), (4, .int (i2 p3))]) hx hb eX1_split_92.2.1 hl (by decide) rfl (fun ls hl => ?_)
    refine lv_aload_n hx hb eX1_split_92.2.2.1 rfl (lv_at hl 3 rfl) ?_
    refine va_get (D := D) (ci := 1) (v := .ref (a 53)) (C := RX1) (T := TX1) (N := 9) hx hb ht inX1 hown hK hP 49 CW_49 rfl 0 (by decide) (ht (.fieldLink RX1 12 "CloneVolumes$Forest" "now" "LCloneVolumes$State;") fl_X1_12) (fun _ h9 => h9) rfl eX1_split_92.2.2.2.1 ?_
    refine lv_iload_n hx hb eX1_split_92.2.2.2.2.1 rfl (lv_at hl 4 rfl) ?_
    refine lv_iload_n hx hb eX1_split_92.2.2.2.2.2.1 rfl (lv_at hl 5 rfl) ?_
    refine lv_iconst (v := 1) hx hb eX1_split_92.2.2.2.2.2.2.1 (by decide) ?_
    refine lv_iadd hx hb eX1_split_92.2.2.2.2.2.2.2 ?_
    refine z_topi (y := i2 (p1 + 1)) (i2_add p1 1) ?_
    refine lv_iload hx hb eX1_split_103.1 (lv_at hl 0 rfl) ?_
    refine lv_iload hx hb eX1_split_103.2.1 (lv_at hl 2 rfl) ?_
    obtain ⟨s22, hc21, h⟩ := bn_e h
    refine ywVv (As := [.int (i2 p0), .int (i2 (p1 + 1)), .int (i2 y20), .int (i2 r6)]) (rest := []) (C := RX8) (n := 4) (ws' := CS D a s22) ⟨hx, hb, hml, hown, ht⟩ (k_x8_insert l D a p0 (p1 + 1) y20 r6 _ _ _ hc21) (zgV ml_X1_258 im_X8_insert se_X8_insert in_X8 co_X8_insert) rfl rfl (by decide +kernel) ⟨Nat.le_of_ble_eq_true rfl, Nat.le_of_ble_eq_true rfl⟩ hN hK hP (hDD _) hS hA 53 CW_53 rfl rfl rfl hl.1 rfl (Nat.le_of_ble_eq_true rfl) eX1_split_103.2.2.1 ⟨Nat.le_of_ble_eq_true rfl, Nat.le_of_ble_eq_true rfl⟩ (fun H locs hP hS => ?_)
    refine lv_iload hx hb eX1_split_103.2.2.2.1 (lv_at hl 0 rfl) ?_
    refine lv_iload hx hb eX1_split_103.2.2.2.2.1 (lv_at hl 7 rfl) ?_
    obtain ⟨hr23, h⟩ := rg_e h
    obtain ⟨hr24, h⟩ := rg_e h
    refine lv_icmp_gt (tgt := 122) hx hb eX1_split_103.2.2.2.2.2.1 (by decide) (fun c25 => ?_) (fun c25 => ?_)
    · have h := if_t ((i2_lt (x := p3) (y := y20) hr24 hr23).mp c25) h
      refine lv_iload_n hx hb eX1_split_122.1 rfl (lv_at hl 6 rfl) ?_
      exact J123 (p2, s22) _ _ _ ⟨hP, hS, lv_sub hl [] rfl, h⟩
    · have h := if_f (mt (i2_lt (x := p3) (y := y20) hr24 hr23).mpr c25) h
      refine lv_iload hx hb eX1_split_103.2.2.2.2.2.2.1 (lv_at hl 2 rfl) ?_
      refine lv_goto (tgt := 123) hx hb eX1_split_103.2.2.2.2.2.2.2 (by decide) ?_
      exact J123 (r6, s22) _ _ _ ⟨hP, hS, lv_sub hl [] rfl, h⟩
  · rw [show ((-1) : Int32) = i2 (-1) from by decide] at c8
    have h := if_t ((i2_eq (x := r6) (y := (-1)) hr7 (by decide)).mp c8) h
    refine lv_iconst (v := (-1)) hx hb eX1_split_19.2.1 (by decide) ?_
    obtain rfl := Option.some.inj h
    exact W.iret (v := (-1)) hx hb hr (fun t ht hW => ⟨⟨_, (), rfl, rfl, by rw [ht]; exact hP, va_K.moved hW.alike hK, hDD _⟩, hS.F ht⟩) hS.2.2 eX1_split_19.2.2.1
set_option maxHeartbeats 4000000 in
set_option maxRecDepth 100000 in
theorem k_x1_raiseRoot (l : Launch) (D : va_G) (a : Nat → Nat) (p0 : Int) (sz : Nat) (s : MS) (o : (Int × MS)) (h : m_x1_raiseRoot p0 s = some o) : yWi l yX1_raiseRoot cX1_raiseRoot 4 (some .int) { frames := 3, cells := 0, slots := 0, locals := 180 } D sz [.ref (a 49), .int (i2 p0)] (CS D a s) (CS D a o.2) (i2 o.1) := by
  refine Met.ofW (cc := cX1_raiseRoot) (maxL := 4) (ret := (some .int)) (by decide) rfl ?_
  intro p e s₀ m args below meth c s₁ B hml hv
  obtain ⟨rfl, ⟨hsz, hP, hK, hD0⟩, hN⟩ := hv
  have hx := B.exec
  have hb := B.bytes
  have hr := B.returns
  have hts := atoms_spec (ws := wz yX1_raiseRoot cX1_raiseRoot 4 (some .int)) B.pre
  have ht : ∀ w ∈ lw_gd, w.before _ s₀ = true := fun w h => hts w (List.mem_cons_of_mem _ h)
  have hown : s₀.vm.findClass RX1 = some m.cls := findClass_of_methodNamed B.named
  have hlocks := B.notSynchronized
  subst hsz
  have hD := hD0.self (sz := s₀.heap.size)
  generalize hAe : va_A (CS D a s) s₀.heap.size = A at hD ⊢
  have hA : ∀ q : Nat, s₀.heap.size ≤ q → A q := fun q h => by rw [← hAe]; exact Or.inr h
  have hS : va_S A s₀.heap s₀.heap [] := va_S.rf
  have hDD : ∀ t : MS, va_D A (CS D a t) := fun t => CW_D t hD
  have hl := lv_entry ([.ref (a 49), .int (i2 p0)]) (n := 4) (Nat.le_of_ble_eq_true rfl)
  rw [lg_entry_eq]
  generalize (lg_sl ([.ref (a 49), .int (i2 p0)]) ++ List.replicate (4 - (lg_sl ([.ref (a 49), .int (i2 p0)])).length) Slot.unset).toArray = ls at hl ⊢
  have hl : lv_has ls 4 [(0, .ref (a 49)), (1, .int (i2 p0))] := hl
  unfold m_x1_raiseRoot at h
  refine y_head (pcJ := 69) (σ := Int × MS) (fun u H locs ls => va_P D vwCl (CS D a u.2) H ∧ va_S A s₀.heap H locs ∧ lv_has ls 4 [(3, .int (i2 u.1))] ∧ m_x1_raiseRoot_J69 u.1 u.2 = some o) (fun u => []) (fun u H locs ls hI => ?_) (fun J69 => ?_)
  · obtain ⟨hP, hS, hl, h⟩ := hI
    obtain ⟨x1, s2⟩ := u
    have hP : va_P D vwCl (CS D a s2) H := hP
    have hl : lv_has ls 4 [(3, .int (i2 x1))] := hl
    have h : m_x1_raiseRoot_J69 x1 s2 = some o := h
    unfold m_x1_raiseRoot_J69 at h
    refine lv_iload_n hx hb eX1_raiseRoot_66.2.2.2.1 rfl (lv_at hl 0 rfl) ?_
    obtain rfl := Option.some.inj h
    exact W.iret (v := (i2 x1)) hx hb hr (fun t ht hW => ⟨⟨_, (), rfl, rfl, by rw [ht]; exact hP, va_K.moved hW.alike hK, hDD _⟩, hS.F ht⟩) hS.2.2 eX1_raiseRoot_66.2.2.2.2.1
  refine lv_aload_n hx hb eX1_plant_235.2.2.1 rfl (lv_at hl 0 rfl) ?_
  refine va_get (D := D) (ci := 1) (v := .ref (a 53)) (C := RX1) (T := TX1) (N := 9) hx hb ht inX1 hown hK hP 49 CW_49 rfl 0 (by decide) (ht (.fieldLink RX1 12 "CloneVolumes$Forest" "now" "LCloneVolumes$State;") fl_X1_12) (fun _ h9 => h9) rfl eX1_plant_235.2.2.2.1 ?_
  refine va_get (D := D) (ci := 8) (v := .ref (a 60)) (C := RX8) (T := TX8) (N := 11) hx hb ht inX8 hown hK hP 53 CW_53 rfl 9 (by decide) (ht (.fieldLink RX1 69 "CloneVolumes$State" "roots" "[I") fl_X1_69) (fun _ h9 => h9) rfl eX1_plant_235.2.2.2.2.1 ?_
  refine lv_iload_n hx hb eX1_plant_235.2.2.2.2.2.1 rfl (lv_at hl 1 rfl) ?_
  obtain ⟨y3, ey3, iy3, h⟩ := rdI_e h
  refine ya_iald (i := p0) hx hb hK hP 60 0 CW_60 rfl (by decide) ey3 iy3 eX1_plant_235.2.2.2.2.2.2.1 ?_
  refine lv_istore_n (lv' := [(2, .int (i2 y3)), (0, .ref (a 49)), (1, .int (i2 p0))]) hx hb eX1_plant_235.2.2.2.2.2.2.2 rfl hl (by decide) rfl (fun ls hl => ?_)
  refine lv_aload_n hx hb eX1_raiseRoot_10.1 rfl (lv_at hl 1 rfl) ?_
  refine lv_aload_n hx hb eX1_raiseRoot_10.2.1 rfl (lv_at hl 1 rfl) ?_
  refine va_get (D := D) (ci := 1) (v := .ref (a 53)) (C := RX1) (T := TX1) (N := 9) hx hb ht inX1 hown hK hP 49 CW_49 rfl 0 (by decide) (ht (.fieldLink RX1 12 "CloneVolumes$Forest" "now" "LCloneVolumes$State;") fl_X1_12) (fun _ h9 => h9) rfl eX1_raiseRoot_10.2.2.1 ?_
  refine va_get (D := D) (ci := 8) (v := .ref (a 56)) (C := RX8) (T := TX8) (N := 11) hx hb ht inX8 hown hK hP 53 CW_53 rfl 5 (by decide) (ht (.fieldLink RX1 150 "CloneVolumes$State" "level" "[I") fl_X1_150) (fun _ h9 => h9) rfl eX1_raiseRoot_10.2.2.2.1 ?_
  refine lv_iload_n hx hb eX1_raiseRoot_10.2.2.2.2.1 rfl (lv_at hl 0 rfl) ?_
  obtain ⟨y4, ey4, iy4, h⟩ := rdI_e h
  refine ya_iald (i := y3) hx hb hK hP 56 0 CW_56 rfl (by decide) ey4 iy4 eX1_raiseRoot_10.2.2.2.2.2.1 ?_
  refine lv_iconst (v := 1) hx hb eX1_raiseRoot_10.2.2.2.2.2.2.1 (by decide) ?_
  refine lv_iadd hx hb eX1_raiseRoot_10.2.2.2.2.2.2.2 ?_
  refine z_topi (y := i2 (y4 + 1)) (i2_add y4 1) ?_
  refine lv_iload_n hx hb eX1_raiseRoot_22.1 rfl (lv_at hl 0 rfl) ?_
  obtain ⟨⟨r7, s6⟩, hc5, h⟩ := bn_e h
  refine ywV (r0 := i2 r7) (As := [.int (i2 (y4 + 1)), .int (i2 y3)]) (rest := []) (C := RX1) (n := 2) (ws' := CS D a s6) ⟨hx, hb, hml, hown, ht⟩ (k_x1_take l D a (y4 + 1) y3 _ _ _ hc5) (zgV ml_X1_210 im_X1_take se_X1_take in_X1 co_X1_take) rfl rfl (by decide +kernel) ⟨Nat.le_of_ble_eq_true rfl, Nat.le_of_ble_eq_true rfl⟩ hN hK hP (hDD _) hS hA 49 CW_49 rfl rfl rfl hl.1 rfl (Nat.le_of_ble_eq_true rfl) eX1_raiseRoot_22.2.1 ⟨Nat.le_of_ble_eq_true rfl, Nat.le_of_ble_eq_true rfl⟩ (fun H locs hP hS => ?_)
  refine lv_istore_n (lv' := [(3, .int (i2 r7)), (2, .int (i2 y3)), (0, .ref (a 49)), (1, .int (i2 p0))]) hx hb eX1_raiseRoot_22.2.2.1 rfl hl (by decide) rfl (fun ls hl => ?_)
  refine lv_iload_n hx hb eX1_raiseRoot_22.2.2.2.1 rfl (lv_at hl 0 rfl) ?_
  refine lv_iconst (v := (-1)) hx hb eX1_raiseRoot_22.2.2.2.2.1 (by decide) ?_
  obtain ⟨hr8, h⟩ := rg_e h
  refine lv_icmp_eq (tgt := 69) hx hb eX1_raiseRoot_22.2.2.2.2.2.1 (by decide) (fun c9 => ?_) (fun c9 => ?_)
  · rw [show ((-1) : Int32) = i2 (-1) from by decide] at c9
    have h := if_t ((i2_eq (x := r7) (y := (-1)) hr8 (by decide)).mp c9) h
    exact J69 (r7, s6) _ _ _ ⟨hP, hS, lv_sub hl [0] rfl, h⟩
  · rw [show ((-1) : Int32) = i2 (-1) from by decide] at c9
    have h := if_f (mt (i2_eq (x := r7) (y := (-1)) hr8 (by decide)).mpr c9) h
    refine lv_aload_n hx hb eX1_raiseRoot_22.2.2.2.2.2.2.1 rfl (lv_at hl 2 rfl) ?_
    refine va_get (D := D) (ci := 1) (v := .ref (a 53)) (C := RX1) (T := TX1) (N := 9) hx hb ht inX1 hown hK hP 49 CW_49 rfl 0 (by decide) (ht (.fieldLink RX1 12 "CloneVolumes$Forest" "now" "LCloneVolumes$State;") fl_X1_12) (fun _ h9 => h9) rfl eX1_raiseRoot_22.2.2.2.2.2.2.2 ?_
    refine lv_iload_n hx hb eX1_raiseRoot_36.1 rfl (lv_at hl 0 rfl) ?_
    refine lv_iconst (v := 0) hx hb eX1_raiseRoot_36.2.1 (by decide) ?_
    refine lv_aload_n hx hb eX1_raiseRoot_36.2.2.1 rfl (lv_at hl 2 rfl) ?_
    refine va_get (D := D) (ci := 1) (v := .ref (a 53)) (C := RX1) (T := TX1) (N := 9) hx hb ht inX1 hown hK hP 49 CW_49 rfl 0 (by decide) (ht (.fieldLink RX1 12 "CloneVolumes$Forest" "now" "LCloneVolumes$State;") fl_X1_12) (fun _ h9 => h9) rfl eX1_raiseRoot_36.2.2.2.1 ?_
    refine va_get (D := D) (ci := 8) (v := .ref (a 58)) (C := RX8) (T := TX8) (N := 11) hx hb ht inX8 hown hK hP 53 CW_53 rfl 7 (by decide) (ht (.fieldLink RX1 227 "CloneVolumes$State" "keys" "[I") fl_X1_227) (fun _ h9 => h9) rfl eX1_raiseRoot_36.2.2.2.2.1 ?_
    refine lv_aload_n hx hb eX1_raiseRoot_36.2.2.2.2.2.1 rfl (lv_at hl 2 rfl) ?_
    refine va_get (D := D) (ci := 1) (v := .ref (a 53)) (C := RX1) (T := TX1) (N := 9) hx hb ht inX1 hown hK hP 49 CW_49 rfl 0 (by decide) (ht (.fieldLink RX1 12 "CloneVolumes$Forest" "now" "LCloneVolumes$State;") fl_X1_12) (fun _ h9 => h9) rfl eX1_raiseRoot_36.2.2.2.2.2.2.1 ?_
    refine lv_iload_n hx hb eX1_raiseRoot_36.2.2.2.2.2.2.2 rfl (lv_at hl 1 rfl) ?_
    refine lv_iconst (v := 0) hx hb eX1_raiseRoot_50.1 (by decide) ?_
    obtain ⟨r11, hc10, h⟩ := bn_e h
    refine ycV (r0 := i2 r11) (As := [.int (i2 y3), .int 0]) (rest := [.ref (a 58), .int 0, .int (i2 r7), .ref (a 53)]) (C := RX8) (n := 2) ⟨hx, hb, hml, hown, ht⟩ (k_x8_slot l D a y3 0 _ _ hc10) (zgV ml_X1_220 im_X8_slot se_X8_slot in_X8 co_X8_slot) rfl rfl (by decide +kernel) ⟨Nat.le_of_ble_eq_true rfl, Nat.le_of_ble_eq_true rfl⟩ hN hK hP hS 53 CW_53 rfl rfl rfl hl.1 rfl (Nat.le_of_ble_eq_true rfl) eX1_raiseRoot_50.2.1 ⟨Nat.le_of_ble_eq_true rfl, Nat.le_of_ble_eq_true rfl⟩ (fun H locs hP hS => ?_)
    obtain ⟨y12, ey12, iy12, h⟩ := rdI_e h
    refine ya_iald (i := r11) hx hb hK hP 58 0 CW_58 rfl (by decide) ey12 iy12 eX1_raiseRoot_50.2.2.1 ?_
    refine lv_iload_n hx hb eX1_raiseRoot_50.2.2.2.1 rfl (lv_at hl 1 rfl) ?_
    obtain ⟨s14, hc13, h⟩ := bn_e h
    refine ywVv (As := [.int (i2 r7), .int 0, .int (i2 y12), .int (i2 y3)]) (rest := []) (C := RX8) (n := 4) (ws' := CS D a s14) ⟨hx, hb, hml, hown, ht⟩ (k_x8_insert l D a r7 0 y12 y3 _ _ _ hc13) (zgV ml_X1_258 im_X8_insert se_X8_insert in_X8 co_X8_insert) rfl rfl (by decide +kernel) ⟨Nat.le_of_ble_eq_true rfl, Nat.le_of_ble_eq_true rfl⟩ hN hK hP (hDD _) hS hA 53 CW_53 rfl rfl rfl hl.1 rfl (Nat.le_of_ble_eq_true rfl) eX1_raiseRoot_50.2.2.2.2.1 ⟨Nat.le_of_ble_eq_true rfl, Nat.le_of_ble_eq_true rfl⟩ (fun H locs hP hS => ?_)
    refine lv_aload_n hx hb eX1_raiseRoot_50.2.2.2.2.2.1 rfl (lv_at hl 2 rfl) ?_
    refine va_get (D := D) (ci := 1) (v := .ref (a 53)) (C := RX1) (T := TX1) (N := 9) hx hb ht inX1 hown hK hP 49 CW_49 rfl 0 (by decide) (ht (.fieldLink RX1 12 "CloneVolumes$Forest" "now" "LCloneVolumes$State;") fl_X1_12) (fun _ h9 => h9) rfl eX1_raiseRoot_50.2.2.2.2.2.2.1 ?_
    refine va_get (D := D) (ci := 8) (v := .ref (a 60)) (C := RX8) (T := TX8) (N := 11) hx hb ht inX8 hown hK hP 53 CW_53 rfl 9 (by decide) (ht (.fieldLink RX1 69 "CloneVolumes$State" "roots" "[I") fl_X1_69) (fun _ h9 => h9) rfl eX1_raiseRoot_50.2.2.2.2.2.2.2 ?_
    refine lv_iload_n hx hb eX1_raiseRoot_66.1 rfl (lv_at hl 3 rfl) ?_
    refine lv_iload_n hx hb eX1_raiseRoot_66.2.1 rfl (lv_at hl 0 rfl) ?_
    obtain ⟨hi15, h⟩ := inb_e h
    refine ya_iast (i := p0) (x := r7) hx hb hK hP (hDD _) hS 60 0 CW_60 rfl (by decide) hi15 eX1_raiseRoot_66.2.2.1 (CW_w60 _) (fun H locs hP hS => ?_)
    obtain ⟨s16, hs16, h⟩ := st_e h
    rw [hs16] at hP
    exact J69 (r7, s16) _ _ _ ⟨hP, hS, lv_sub hl [0] rfl, h⟩
set_option maxHeartbeats 4000000 in
set_option maxRecDepth 100000 in
theorem k_x1_plant (l : Launch) (D : va_G) (a : Nat → Nat) (p0 : Int) (p1 : Int) (p2 : Int) (sz : Nat) (s : MS) (o : (Int × MS)) (h : m_x1_plant p0 p1 p2 s = some o) : yWi l yX1_plant cX1_plant 8 (some .boolean) { frames := 4, cells := 0, slots := 0, locals := 240 } D sz [.ref (a 49), .int (i2 p0), .int (i2 p1), .int (i2 p2)] (CS D a s) (CS D a o.2) (i2 o.1) := by
  refine Met.ofW (cc := cX1_plant) (maxL := 8) (ret := (some .boolean)) (by decide) rfl ?_
  intro p e s₀ m args below meth c s₁ B hml hv
  obtain ⟨rfl, ⟨hsz, hP, hK, hD0⟩, hN⟩ := hv
  have hx := B.exec
  have hb := B.bytes
  have hr := B.returns
  have hts := atoms_spec (ws := wz yX1_plant cX1_plant 8 (some .boolean)) B.pre
  have ht : ∀ w ∈ lw_gd, w.before _ s₀ = true := fun w h => hts w (List.mem_cons_of_mem _ h)
  have hown : s₀.vm.findClass RX1 = some m.cls := findClass_of_methodNamed B.named
  have hlocks := B.notSynchronized
  subst hsz
  have hD := hD0.self (sz := s₀.heap.size)
  generalize hAe : va_A (CS D a s) s₀.heap.size = A at hD ⊢
  have hA : ∀ q : Nat, s₀.heap.size ≤ q → A q := fun q h => by rw [← hAe]; exact Or.inr h
  have hS : va_S A s₀.heap s₀.heap [] := va_S.rf
  have hDD : ∀ t : MS, va_D A (CS D a t) := fun t => CW_D t hD
  have hl := lv_entry ([.ref (a 49), .int (i2 p0), .int (i2 p1), .int (i2 p2)]) (n := 8) (Nat.le_of_ble_eq_true rfl)
  rw [lg_entry_eq]
  generalize (lg_sl ([.ref (a 49), .int (i2 p0), .int (i2 p1), .int (i2 p2)]) ++ List.replicate (8 - (lg_sl ([.ref (a 49), .int (i2 p0), .int (i2 p1), .int (i2 p2)])).length) Slot.unset).toArray = ls at hl ⊢
  have hl : lv_has ls 8 [(0, .ref (a 49)), (1, .int (i2 p0)), (2, .int (i2 p1)), (3, .int (i2 p2))] := hl
  unfold m_x1_plant at h
  refine y_head (pcJ := 219) (σ := Int × Int × Int × MS) (fun u H locs ls => va_P D vwCl (CS D a u.2.2.2) H ∧ va_S A s₀.heap H locs ∧ lv_has ls 8 [(0, .ref (a 49)), (2, .int (i2 u.1)), (3, .int (i2 u.2.1)), (4, .int (i2 u.2.2.1))] ∧ m_x1_plant_J219 u.1 u.2.1 u.2.2.1 u.2.2.2 = some o) (fun u => []) (fun u H locs ls hI => ?_) (fun J219 => ?_)
  · obtain ⟨hP, hS, hl, h⟩ := hI
    obtain ⟨x1, x2, x3, s4⟩ := u
    have hP : va_P D vwCl (CS D a s4) H := hP
    have hl : lv_has ls 8 [(0, .ref (a 49)), (2, .int (i2 x1)), (3, .int (i2 x2)), (4, .int (i2 x3))] := hl
    have h : m_x1_plant_J219 x1 x2 x3 s4 = some o := h
    unfold m_x1_plant_J219 at h
    refine lv_iload hx hb eX1_plant_203.2.2.2.2.2.2.1 (lv_at hl 3 rfl) ?_
    refine lv_iconst (v := (-1)) hx hb eX1_plant_203.2.2.2.2.2.2.2 (by decide) ?_
    obtain ⟨hr5, h⟩ := rg_e h
    refine lv_icmp_ne (tgt := 227) hx hb eX1_plant_222.1 (by decide) (fun c6 => ?_) (fun c6 => ?_)
    · rw [show ((-1) : Int32) = i2 (-1) from by decide] at c6
      have h := if_f (mt (i2_eq (x := x3) (y := (-1)) hr5 (by decide)).mpr c6) h
      refine lv_aload_n hx hb eX1_plant_222.2.2.2.1 rfl (lv_at hl 0 rfl) ?_
      refine lv_iload hx hb eX1_plant_222.2.2.2.2.1 (lv_at hl 3 rfl) ?_
      refine lv_iload_n hx hb eX1_plant_222.2.2.2.2.2.1 rfl (lv_at hl 1 rfl) ?_
      refine lv_iload_n hx hb eX1_plant_222.2.2.2.2.2.2.1 rfl (lv_at hl 2 rfl) ?_
      obtain ⟨s8, hc7, h⟩ := bn_e h
      refine ywVv (As := [.int (i2 x3), .int (i2 x1), .int (i2 x2)]) (rest := []) (C := RX1) (n := 3) (ws' := CS D a s8) ⟨hx, hb, hml, hown, ht⟩ (k_x1_plantLow l D a x3 x1 x2 _ _ _ hc7) (zgV ml_X1_255 im_X1_plantLow se_X1_plantLow in_X1 co_X1_plantLow) rfl rfl (by decide +kernel) ⟨Nat.le_of_ble_eq_true rfl, Nat.le_of_ble_eq_true rfl⟩ hN hK hP (hDD _) hS hA 49 CW_49 rfl rfl rfl hl.1 rfl (Nat.le_of_ble_eq_true rfl) eX1_plant_222.2.2.2.2.2.2.2 ⟨Nat.le_of_ble_eq_true rfl, Nat.le_of_ble_eq_true rfl⟩ (fun H locs hP hS => ?_)
      refine lv_iconst (v := 1) hx hb eX1_plant_235.1 (by decide) ?_
      obtain rfl := Option.some.inj h
      exact W.zret (v := 1) hx hb hr (by decide) (fun t ht hW => ⟨⟨_, (), rfl, rfl, by rw [ht]; exact hP, va_K.moved hW.alike hK, hDD _⟩, hS.F ht⟩) hS.2.2 eX1_plant_235.2.1
    · rw [show ((-1) : Int32) = i2 (-1) from by decide] at c6
      have h := if_t ((i2_eq (x := x3) (y := (-1)) hr5 (by decide)).mp c6) h
      refine lv_iconst (v := 0) hx hb eX1_plant_222.2.1 (by decide) ?_
      obtain rfl := Option.some.inj h
      exact W.zret (v := 0) hx hb hr (by decide) (fun t ht hW => ⟨⟨_, (), rfl, rfl, by rw [ht]; exact hP, va_K.moved hW.alike hK, hDD _⟩, hS.F ht⟩) hS.2.2 eX1_plant_222.2.2.1
  refine y_loop (pcJ := 117) (σ := Int × Int × Int × Int × MS) (fun n u H locs ls => va_P D vwCl (CS D a u.2.2.2.2) H ∧ va_S A s₀.heap H locs ∧ lv_has ls 8 [(0, .ref (a 49)), (2, .int (i2 u.1)), (3, .int (i2 u.2.1)), (4, .int (i2 u.2.2.1)), (5, .int (i2 u.2.2.2.1))] ∧ m_x1_plant_L117 n u.1 u.2.1 u.2.2.1 u.2.2.2.1 u.2.2.2.2 = some o) (fun u => []) (fun u H locs ls hI => by obtain ⟨_, _, _, h⟩ := hI; cases h) (fun n117 ih117 u H locs ls hI => ?_) (fun J117 => ?_)
  · obtain ⟨hP, hS, hl, h⟩ := hI
    obtain ⟨x9, x10, x11, x12, s13⟩ := u
    have hP : va_P D vwCl (CS D a s13) H := hP
    have hl : lv_has ls 8 [(0, .ref (a 49)), (2, .int (i2 x9)), (3, .int (i2 x10)), (4, .int (i2 x11)), (5, .int (i2 x12))] := hl
    have h : m_x1_plant_b117 (m_x1_plant_L117 n117) x9 x10 x11 x12 s13 = some o := h
    unfold m_x1_plant_b117 at h
    refine y_head (pcJ := 211) (σ := Int × Int × Int × Int × MS) (fun u H locs ls => va_P D vwCl (CS D a u.2.2.2.2) H ∧ va_S A s₀.heap H locs ∧ lv_has ls 8 [(0, .ref (a 49)), (2, .int (i2 u.1)), (3, .int (i2 u.2.1)), (5, .int (i2 u.2.2.1))] ∧ m_x1_plant_J211 (m_x1_plant_L117 n117) u.1 u.2.1 u.2.2.1 u.2.2.2.1 u.2.2.2.2 = some o) (fun u => [.int (i2 u.2.2.2.1)]) (fun u H locs ls hI => ?_) (fun J211 => ?_)
    · obtain ⟨hP, hS, hl, h⟩ := hI
      obtain ⟨x14, x15, x16, x17, s18⟩ := u
      have hP : va_P D vwCl (CS D a s18) H := hP
      have hl : lv_has ls 8 [(0, .ref (a 49)), (2, .int (i2 x14)), (3, .int (i2 x15)), (5, .int (i2 x16))] := hl
      have h : m_x1_plant_J211 (m_x1_plant_L117 n117) x14 x15 x16 x17 s18 = some o := h
      unfold m_x1_plant_J211 at h
      refine lv_istore (lv' := [(4, .int (i2 x17)), (0, .ref (a 49)), (2, .int (i2 x14)), (3, .int (i2 x15)), (5, .int (i2 x16))]) hx hb eX1_plant_203.2.2.2.1 hl (by decide) rfl (fun ls hl => ?_)
      refine lv_iinc (v := i2 (x16 + (-1))) (lv' := [(5, .int (i2 (x16 + (-1)))), (4, .int (i2 x17)), (0, .ref (a 49)), (2, .int (i2 x14)), (3, .int (i2 x15))]) hx hb eX1_plant_203.2.2.2.2.1 hl (k := 4) rfl (i2_add x16 (-1)) (by decide) rfl (fun ls hl => ?_)
      refine lv_goto (tgt := 117) hx hb eX1_plant_203.2.2.2.2.2.1 (by decide) ?_
      exact ih117 (x14, x15, x17, x16 + (-1), s18) _ _ _ ⟨hP, hS, lv_sub hl [2, 3, 4, 1, 0] rfl, h⟩
    refine lv_iload hx hb eX1_plant_106.2.2.2.2.2.1 (lv_at hl 4 rfl) ?_
    obtain ⟨hr19, h⟩ := rg_e h
    refine lv_if_le (tgt := 219) hx hb eX1_plant_106.2.2.2.2.2.2.1 (by decide) (fun c20 => ?_) (fun c20 => ?_)
    · have h := if_t ((i2_le (x := x12) (y := 0) hr19 (by decide)).mp c20) h
      exact J219 (x9, x10, x11, s13) _ _ _ ⟨hP, hS, lv_sub hl [0, 1, 2, 3] rfl, h⟩
    · have h := if_f (mt (i2_le (x := x12) (y := 0) hr19 (by decide)).mpr c20) h
      refine lv_iload hx hb eX1_plant_106.2.2.2.2.2.2.2 (lv_at hl 3 rfl) ?_
      refine lv_iconst (v := (-1)) hx hb eX1_plant_124.1 (by decide) ?_
      obtain ⟨hr21, h⟩ := rg_e h
      refine lv_icmp_eq (tgt := 219) hx hb eX1_plant_124.2.1 (by decide) (fun c22 => ?_) (fun c22 => ?_)
      · rw [show ((-1) : Int32) = i2 (-1) from by decide] at c22
        have h := if_t ((i2_eq (x := x11) (y := (-1)) hr21 (by decide)).mp c22) h
        exact J219 (x9, x10, x11, s13) _ _ _ ⟨hP, hS, lv_sub hl [0, 1, 2, 3] rfl, h⟩
      · rw [show ((-1) : Int32) = i2 (-1) from by decide] at c22
        have h := if_f (mt (i2_eq (x := x11) (y := (-1)) hr21 (by decide)).mpr c22) h
        refine lv_aload_n hx hb eX1_plant_124.2.2.1 rfl (lv_at hl 0 rfl) ?_
        refine va_get (D := D) (ci := 1) (v := .ref (a 53)) (C := RX1) (T := TX1) (N := 9) hx hb ht inX1 hown hK hP 49 CW_49 rfl 0 (by decide) (ht (.fieldLink RX1 12 "CloneVolumes$Forest" "now" "LCloneVolumes$State;") fl_X1_12) (fun _ h9 => h9) rfl eX1_plant_124.2.2.2.1 ?_
        refine lv_iload hx hb eX1_plant_124.2.2.2.2.1 (lv_at hl 3 rfl) ?_
        refine lv_iload_n hx hb eX1_plant_124.2.2.2.2.2.1 rfl (lv_at hl 1 rfl) ?_
        obtain ⟨r24, hc23, h⟩ := bn_e h
        refine ycV (r0 := i2 r24) (As := [.int (i2 x11), .int (i2 x9)]) (rest := []) (C := RX8) (n := 2) ⟨hx, hb, hml, hown, ht⟩ (k_x8_entryFor l D a x11 x9 _ _ hc23) (zgV ml_X1_249 im_X8_entryFor se_X8_entryFor in_X8 co_X8_entryFor) rfl rfl (by decide +kernel) ⟨Nat.le_of_ble_eq_true rfl, Nat.le_of_ble_eq_true rfl⟩ hN hK hP hS 53 CW_53 rfl rfl rfl hl.1 rfl (Nat.le_of_ble_eq_true rfl) eX1_plant_124.2.2.2.2.2.2.1 ⟨Nat.le_of_ble_eq_true rfl, Nat.le_of_ble_eq_true rfl⟩ (fun H locs hP hS => ?_)
        refine lv_istore (lv' := [(6, .int (i2 r24)), (0, .ref (a 49)), (2, .int (i2 x9)), (3, .int (i2 x10)), (4, .int (i2 x11)), (5, .int (i2 x12))]) hx hb eX1_plant_124.2.2.2.2.2.2.2 hl (by decide) rfl (fun ls hl => ?_)
        refine lv_aload_n hx hb eX1_plant_140.1 rfl (lv_at hl 1 rfl) ?_
        refine lv_aload_n hx hb eX1_plant_140.2.1 rfl (lv_at hl 1 rfl) ?_
        refine va_get (D := D) (ci := 1) (v := .ref (a 53)) (C := RX1) (T := TX1) (N := 9) hx hb ht inX1 hown hK hP 49 CW_49 rfl 0 (by decide) (ht (.fieldLink RX1 12 "CloneVolumes$Forest" "now" "LCloneVolumes$State;") fl_X1_12) (fun _ h9 => h9) rfl eX1_plant_140.2.2.1 ?_
        refine va_get (D := D) (ci := 8) (v := .ref (a 59)) (C := RX8) (T := TX8) (N := 11) hx hb ht inX8 hown hK hP 53 CW_53 rfl 8 (by decide) (ht (.fieldLink RX1 217 "CloneVolumes$State" "values" "[I") fl_X1_217) (fun _ h9 => h9) rfl eX1_plant_140.2.2.2.1 ?_
        refine lv_aload_n hx hb eX1_plant_140.2.2.2.2.1 rfl (lv_at hl 1 rfl) ?_
        refine va_get (D := D) (ci := 1) (v := .ref (a 53)) (C := RX1) (T := TX1) (N := 9) hx hb ht inX1 hown hK hP 49 CW_49 rfl 0 (by decide) (ht (.fieldLink RX1 12 "CloneVolumes$Forest" "now" "LCloneVolumes$State;") fl_X1_12) (fun _ h9 => h9) rfl eX1_plant_140.2.2.2.2.2.1 ?_
        refine lv_iload hx hb eX1_plant_140.2.2.2.2.2.2.1 (lv_at hl 4 rfl) ?_
        refine lv_iload hx hb eX1_plant_140.2.2.2.2.2.2.2 (lv_at hl 0 rfl) ?_
        obtain ⟨r26, hc25, h⟩ := bn_e h
        refine ycV (r0 := i2 r26) (As := [.int (i2 x11), .int (i2 r24)]) (rest := [.ref (a 59), .ref (a 49)]) (C := RX8) (n := 2) ⟨hx, hb, hml, hown, ht⟩ (k_x8_slot l D a x11 r24 _ _ hc25) (zgV ml_X1_220 im_X8_slot se_X8_slot in_X8 co_X8_slot) rfl rfl (by decide +kernel) ⟨Nat.le_of_ble_eq_true rfl, Nat.le_of_ble_eq_true rfl⟩ hN hK hP hS 53 CW_53 rfl rfl rfl hl.1 rfl (Nat.le_of_ble_eq_true rfl) eX1_plant_156.1 ⟨Nat.le_of_ble_eq_true rfl, Nat.le_of_ble_eq_true rfl⟩ (fun H locs hP hS => ?_)
        obtain ⟨y27, ey27, iy27, h⟩ := rdI_e h
        refine ya_iald (i := r26) hx hb hK hP 59 0 CW_59 rfl (by decide) ey27 iy27 eX1_plant_156.2.1 ?_
        obtain ⟨⟨r30, s29⟩, hc28, h⟩ := bn_e h
        refine ywV (r0 := i2 r30) (As := [.int (i2 y27)]) (rest := []) (C := RX1) (n := 1) (ws' := CS D a s29) ⟨hx, hb, hml, hown, ht⟩ (k_x1_owned l D a y27 _ _ _ hc28) (zgV ml_X1_236 im_X1_owned se_X1_owned in_X1 co_X1_owned) rfl rfl (by decide +kernel) ⟨Nat.le_of_ble_eq_true rfl, Nat.le_of_ble_eq_true rfl⟩ hN hK hP (hDD _) hS hA 49 CW_49 rfl rfl rfl hl.1 rfl (Nat.le_of_ble_eq_true rfl) eX1_plant_156.2.2.1 ⟨Nat.le_of_ble_eq_true rfl, Nat.le_of_ble_eq_true rfl⟩ (fun H locs hP hS => ?_)
        refine lv_istore (lv' := [(7, .int (i2 r30)), (6, .int (i2 r24)), (0, .ref (a 49)), (2, .int (i2 x9)), (3, .int (i2 x10)), (4, .int (i2 x11)), (5, .int (i2 x12))]) hx hb eX1_plant_156.2.2.2.1 hl (by decide) rfl (fun ls hl => ?_)
        refine lv_iload hx hb eX1_plant_156.2.2.2.2.1 (lv_at hl 0 rfl) ?_
        refine lv_iconst (v := (-1)) hx hb eX1_plant_156.2.2.2.2.2.1 (by decide) ?_
        obtain ⟨hr31, h⟩ := rg_e h
        refine lv_icmp_ne (tgt := 173) hx hb eX1_plant_156.2.2.2.2.2.2.1 (by decide) (fun c32 => ?_) (fun c32 => ?_)
        · rw [show ((-1) : Int32) = i2 (-1) from by decide] at c32
          have h := if_f (mt (i2_eq (x := r30) (y := (-1)) hr31 (by decide)).mpr c32) h
          refine lv_aload_n hx hb eX1_plant_172.2.1 rfl (lv_at hl 2 rfl) ?_
          refine va_get (D := D) (ci := 1) (v := .ref (a 53)) (C := RX1) (T := TX1) (N := 9) hx hb ht inX1 hown hK hP 49 CW_49 rfl 0 (by decide) (ht (.fieldLink RX1 12 "CloneVolumes$Forest" "now" "LCloneVolumes$State;") fl_X1_12) (fun _ h9 => h9) rfl eX1_plant_172.2.2.1 ?_
          refine lv_iload hx hb eX1_plant_172.2.2.2.1 (lv_at hl 5 rfl) ?_
          refine lv_iload hx hb eX1_plant_172.2.2.2.2.1 (lv_at hl 1 rfl) ?_
          refine lv_iload hx hb eX1_plant_172.2.2.2.2.2.1 (lv_at hl 0 rfl) ?_
          obtain ⟨s34, hc33, h⟩ := bn_e h
          refine ywVv (As := [.int (i2 x11), .int (i2 r24), .int (i2 r30)]) (rest := []) (C := RX8) (n := 3) (ws' := CS D a s34) ⟨hx, hb, hml, hown, ht⟩ (k_x8_set l D a x11 r24 r30 _ _ _ hc33) (zgV ml_X1_252 im_X8_set se_X8_set in_X8 co_X8_set) rfl rfl (by decide +kernel) ⟨Nat.le_of_ble_eq_true rfl, Nat.le_of_ble_eq_true rfl⟩ hN hK hP (hDD _) hS hA 53 CW_53 rfl rfl rfl hl.1 rfl (Nat.le_of_ble_eq_true rfl) eX1_plant_172.2.2.2.2.2.2.1 ⟨Nat.le_of_ble_eq_true rfl, Nat.le_of_ble_eq_true rfl⟩ (fun H locs hP hS => ?_)
          refine lv_aload_n hx hb eX1_plant_172.2.2.2.2.2.2.2 rfl (lv_at hl 2 rfl) ?_
          refine lv_iload hx hb eX1_plant_187.1 (lv_at hl 0 rfl) ?_
          obtain ⟨⟨r37, s36⟩, hc35, h⟩ := bn_e h
          refine ywV (r0 := i2 r37) (As := [.int (i2 r30)]) (rest := []) (C := RX1) (n := 1) (ws' := CS D a s36) ⟨hx, hb, hml, hown, ht⟩ (k_x1_splits l D a r30 _ _ _ hc35) (zgV ml_X1_239 im_X1_splits se_X1_splits in_X1 co_X1_splits) rfl rfl (by decide +kernel) ⟨Nat.le_of_ble_eq_true rfl, Nat.le_of_ble_eq_true rfl⟩ hN hK hP (hDD _) hS hA 49 CW_49 rfl rfl rfl hl.1 rfl (Nat.le_of_ble_eq_true rfl) eX1_plant_187.2.1 ⟨Nat.le_of_ble_eq_true rfl, Nat.le_of_ble_eq_true rfl⟩ (fun H locs hP hS => ?_)
          obtain ⟨hr38, h⟩ := rg_e h
          refine lv_if_eq (tgt := 209) hx hb eX1_plant_187.2.2.1 (by decide) (fun c39 => ?_) (fun c39 => ?_)
          · have h := if_t ((i2_eq (x := r37) (y := 0) hr38 (by decide)).mp c39) h
            refine lv_iload hx hb eX1_plant_203.2.2.1 (lv_at hl 0 rfl) ?_
            exact J211 (x9, x10, x12, r30, s36) _ _ _ ⟨hP, hS, lv_sub hl [2, 3, 4, 6] rfl, h⟩
          · have h := if_f (mt (i2_eq (x := r37) (y := 0) hr38 (by decide)).mpr c39) h
            refine lv_aload_n hx hb eX1_plant_187.2.2.2.1 rfl (lv_at hl 2 rfl) ?_
            refine lv_iload hx hb eX1_plant_187.2.2.2.2.1 (lv_at hl 5 rfl) ?_
            refine lv_iload hx hb eX1_plant_187.2.2.2.2.2.1 (lv_at hl 1 rfl) ?_
            refine lv_iload hx hb eX1_plant_187.2.2.2.2.2.2.1 (lv_at hl 0 rfl) ?_
            refine lv_iload_n hx hb eX1_plant_187.2.2.2.2.2.2.2 rfl (lv_at hl 3 rfl) ?_
            obtain ⟨⟨r42, s41⟩, hc40, h⟩ := bn_e h
            refine ywV (r0 := i2 r42) (As := [.int (i2 x11), .int (i2 r24), .int (i2 r30), .int (i2 x9)]) (rest := []) (C := RX1) (n := 4) (ws' := CS D a s41) ⟨hx, hb, hml, hown, ht⟩ (k_x1_split l D a x11 r24 r30 x9 _ _ _ hc40) (zgV ml_X1_245 im_X1_split se_X1_split in_X1 co_X1_split) rfl rfl (by decide +kernel) ⟨Nat.le_of_ble_eq_true rfl, Nat.le_of_ble_eq_true rfl⟩ hN hK hP (hDD _) hS hA 49 CW_49 rfl rfl rfl hl.1 rfl (Nat.le_of_ble_eq_true rfl) eX1_plant_203.1 ⟨Nat.le_of_ble_eq_true rfl, Nat.le_of_ble_eq_true rfl⟩ (fun H locs hP hS => ?_)
            refine lv_goto (tgt := 211) hx hb eX1_plant_203.2.1 (by decide) ?_
            exact J211 (x9, x10, x12, r42, s41) _ _ _ ⟨hP, hS, lv_sub hl [2, 3, 4, 6] rfl, h⟩
        · rw [show ((-1) : Int32) = i2 (-1) from by decide] at c32
          have h := if_t ((i2_eq (x := r30) (y := (-1)) hr31 (by decide)).mp c32) h
          refine lv_iconst (v := 0) hx hb eX1_plant_156.2.2.2.2.2.2.2 (by decide) ?_
          obtain rfl := Option.some.inj h
          exact W.zret (v := 0) hx hb hr (by decide) (fun t ht hW => ⟨⟨_, (), rfl, rfl, by rw [ht]; exact hP, va_K.moved hW.alike hK, hDD _⟩, hS.F ht⟩) hS.2.2 eX1_plant_172.1
  refine y_head (pcJ := 115) (σ := Int × Int × Int × Int × MS) (fun u H locs ls => va_P D vwCl (CS D a u.2.2.2.2) H ∧ va_S A s₀.heap H locs ∧ lv_has ls 8 [(0, .ref (a 49)), (2, .int (i2 u.1)), (3, .int (i2 u.2.1)), (4, .int (i2 u.2.2.1))] ∧ m_x1_plant_J115 u.1 u.2.1 u.2.2.1 u.2.2.2.1 u.2.2.2.2 = some o) (fun u => [.int (i2 u.2.2.2.1)]) (fun u H locs ls hI => ?_) (fun J115 => ?_)
  · obtain ⟨hP, hS, hl, h⟩ := hI
    obtain ⟨x43, x44, x45, x46, s47⟩ := u
    have hP : va_P D vwCl (CS D a s47) H := hP
    have hl : lv_has ls 8 [(0, .ref (a 49)), (2, .int (i2 x43)), (3, .int (i2 x44)), (4, .int (i2 x45))] := hl
    have h : m_x1_plant_J115 x43 x44 x45 x46 s47 = some o := h
    unfold m_x1_plant_J115 at h
    refine lv_istore (lv' := [(5, .int (i2 x46)), (0, .ref (a 49)), (2, .int (i2 x43)), (3, .int (i2 x44)), (4, .int (i2 x45))]) hx hb eX1_plant_106.2.2.2.2.1 hl (by decide) rfl (fun ls hl => ?_)
    exact J117 FU (x43, x44, x45, x46, s47) _ _ _ ⟨hP, hS, lv_sub hl [1, 2, 3, 4, 0] rfl, h⟩
  refine y_head (pcJ := 95) (σ := Int × Int × Int × MS) (fun u H locs ls => va_P D vwCl (CS D a u.2.2.2) H ∧ va_S A s₀.heap H locs ∧ lv_has ls 8 [(0, .ref (a 49)), (2, .int (i2 u.1)), (3, .int (i2 u.2.1)), (4, .int (i2 u.2.2.1))] ∧ m_x1_plant_J95 u.1 u.2.1 u.2.2.1 u.2.2.2 = some o) (fun u => []) (fun u H locs ls hI => ?_) (fun J95 => ?_)
  · obtain ⟨hP, hS, hl, h⟩ := hI
    obtain ⟨x48, x49, x50, s51⟩ := u
    have hP : va_P D vwCl (CS D a s51) H := hP
    have hl : lv_has ls 8 [(0, .ref (a 49)), (2, .int (i2 x48)), (3, .int (i2 x49)), (4, .int (i2 x50))] := hl
    have h : m_x1_plant_J95 x48 x49 x50 s51 = some o := h
    unfold m_x1_plant_J95 at h
    refine lv_iload hx hb eX1_plant_90.2.2.1 (lv_at hl 3 rfl) ?_
    refine lv_iconst (v := (-1)) hx hb eX1_plant_90.2.2.2.1 (by decide) ?_
    obtain ⟨hr52, h⟩ := rg_e h
    refine lv_icmp_ne (tgt := 105) hx hb eX1_plant_90.2.2.2.2.1 (by decide) (fun c53 => ?_) (fun c53 => ?_)
    · rw [show ((-1) : Int32) = i2 (-1) from by decide] at c53
      have h := if_f (mt (i2_eq (x := x50) (y := (-1)) hr52 (by decide)).mpr c53) h
      refine lv_aload_n hx hb eX1_plant_90.2.2.2.2.2.2.2 rfl (lv_at hl 0 rfl) ?_
      refine va_get (D := D) (ci := 1) (v := .ref (a 53)) (C := RX1) (T := TX1) (N := 9) hx hb ht inX1 hown hK hP 49 CW_49 rfl 0 (by decide) (ht (.fieldLink RX1 12 "CloneVolumes$Forest" "now" "LCloneVolumes$State;") fl_X1_12) (fun _ h9 => h9) rfl eX1_plant_106.1 ?_
      refine va_get (D := D) (ci := 8) (v := .ref (a 56)) (C := RX8) (T := TX8) (N := 11) hx hb ht inX8 hown hK hP 53 CW_53 rfl 5 (by decide) (ht (.fieldLink RX1 150 "CloneVolumes$State" "level" "[I") fl_X1_150) (fun _ h9 => h9) rfl eX1_plant_106.2.1 ?_
      refine lv_iload hx hb eX1_plant_106.2.2.1 (lv_at hl 3 rfl) ?_
      obtain ⟨y54, ey54, iy54, h⟩ := rdI_e h
      refine ya_iald (i := x50) hx hb hK hP 56 0 CW_56 rfl (by decide) ey54 iy54 eX1_plant_106.2.2.2.1 ?_
      exact J115 (x48, x49, x50, y54, s51) _ _ _ ⟨hP, hS, lv_sub hl [0, 1, 2, 3] rfl, h⟩
    · rw [show ((-1) : Int32) = i2 (-1) from by decide] at c53
      have h := if_t ((i2_eq (x := x50) (y := (-1)) hr52 (by decide)).mp c53) h
      refine lv_iconst (v := 0) hx hb eX1_plant_90.2.2.2.2.2.1 (by decide) ?_
      refine lv_goto (tgt := 115) hx hb eX1_plant_90.2.2.2.2.2.2.1 (by decide) ?_
      exact J115 (x48, x49, x50, 0, s51) _ _ _ ⟨hP, hS, lv_sub hl [0, 1, 2, 3] rfl, h⟩
  refine y_head (pcJ := 93) (σ := Int × Int × Int × MS) (fun u H locs ls => va_P D vwCl (CS D a u.2.2.2) H ∧ va_S A s₀.heap H locs ∧ lv_has ls 8 [(0, .ref (a 49)), (2, .int (i2 u.1)), (3, .int (i2 u.2.1))] ∧ m_x1_plant_J93 u.1 u.2.1 u.2.2.1 u.2.2.2 = some o) (fun u => [.int (i2 u.2.2.1)]) (fun u H locs ls hI => ?_) (fun J93 => ?_)
  · obtain ⟨hP, hS, hl, h⟩ := hI
    obtain ⟨x55, x56, x57, s58⟩ := u
    have hP : va_P D vwCl (CS D a s58) H := hP
    have hl : lv_has ls 8 [(0, .ref (a 49)), (2, .int (i2 x55)), (3, .int (i2 x56))] := hl
    have h : m_x1_plant_J93 x55 x56 x57 s58 = some o := h
    unfold m_x1_plant_J93 at h
    refine lv_istore (lv' := [(4, .int (i2 x57)), (0, .ref (a 49)), (2, .int (i2 x55)), (3, .int (i2 x56))]) hx hb eX1_plant_90.2.1 hl (by decide) rfl (fun ls hl => ?_)
    exact J95 (x55, x56, x57, s58) _ _ _ ⟨hP, hS, lv_sub hl [1, 2, 3, 0] rfl, h⟩
  refine y_head (pcJ := 36) (σ := Int × Int × Int × Int × MS) (fun u H locs ls => va_P D vwCl (CS D a u.2.2.2.2) H ∧ va_S A s₀.heap H locs ∧ lv_has ls 8 [(0, .ref (a 49)), (1, .int (i2 u.1)), (2, .int (i2 u.2.1)), (3, .int (i2 u.2.2.1))] ∧ m_x1_plant_J36 u.1 u.2.1 u.2.2.1 u.2.2.2.1 u.2.2.2.2 = some o) (fun u => [.int (i2 u.2.2.2.1)]) (fun u H locs ls hI => ?_) (fun J36 => ?_)
  · obtain ⟨hP, hS, hl, h⟩ := hI
    obtain ⟨x59, x60, x61, x62, s63⟩ := u
    have hP : va_P D vwCl (CS D a s63) H := hP
    have hl : lv_has ls 8 [(0, .ref (a 49)), (1, .int (i2 x59)), (2, .int (i2 x60)), (3, .int (i2 x61))] := hl
    have h : m_x1_plant_J36 x59 x60 x61 x62 s63 = some o := h
    unfold m_x1_plant_J36 at h
    refine lv_istore (lv' := [(4, .int (i2 x62)), (0, .ref (a 49)), (1, .int (i2 x59)), (2, .int (i2 x60)), (3, .int (i2 x61))]) hx hb eX1_plant_32.2.2.1 hl (by decide) rfl (fun ls hl => ?_)
    refine lv_iload hx hb eX1_plant_32.2.2.2.1 (lv_at hl 0 rfl) ?_
    refine lv_iconst (v := (-1)) hx hb eX1_plant_32.2.2.2.2.1 (by decide) ?_
    obtain ⟨hr64, h⟩ := rg_e h
    refine lv_icmp_ne (tgt := 46) hx hb eX1_plant_32.2.2.2.2.2.1 (by decide) (fun c65 => ?_) (fun c65 => ?_)
    · rw [show ((-1) : Int32) = i2 (-1) from by decide] at c65
      have h := if_f (mt (i2_eq (x := x62) (y := (-1)) hr64 (by decide)).mpr c65) h
      refine lv_aload_n hx hb eX1_plant_46.1 rfl (lv_at hl 1 rfl) ?_
      refine va_get (D := D) (ci := 1) (v := .ref (a 53)) (C := RX1) (T := TX1) (N := 9) hx hb ht inX1 hown hK hP 49 CW_49 rfl 0 (by decide) (ht (.fieldLink RX1 12 "CloneVolumes$Forest" "now" "LCloneVolumes$State;") fl_X1_12) (fun _ h9 => h9) rfl eX1_plant_46.2.1 ?_
      refine va_get (D := D) (ci := 8) (v := .ref (a 60)) (C := RX8) (T := TX8) (N := 11) hx hb ht inX8 hown hK hP 53 CW_53 rfl 9 (by decide) (ht (.fieldLink RX1 69 "CloneVolumes$State" "roots" "[I") fl_X1_69) (fun _ h9 => h9) rfl eX1_plant_46.2.2.1 ?_
      refine lv_iload_n hx hb eX1_plant_46.2.2.2.1 rfl (lv_at hl 2 rfl) ?_
      refine lv_iload hx hb eX1_plant_46.2.2.2.2.1 (lv_at hl 0 rfl) ?_
      obtain ⟨hi66, h⟩ := inb_e h
      refine ya_iast (i := x59) (x := x62) hx hb hK hP (hDD _) hS 60 0 CW_60 rfl (by decide) hi66 eX1_plant_46.2.2.2.2.2.1 (CW_w60 _) (fun H locs hP hS => ?_)
      obtain ⟨s67, hs67, h⟩ := st_e h
      rw [hs67] at hP
      refine lv_aload_n hx hb eX1_plant_46.2.2.2.2.2.2.1 rfl (lv_at hl 1 rfl) ?_
      refine lv_iload hx hb eX1_plant_46.2.2.2.2.2.2.2 (lv_at hl 0 rfl) ?_
      obtain ⟨⟨r70, s69⟩, hc68, h⟩ := bn_e h
      refine ywV (r0 := i2 r70) (As := [.int (i2 x62)]) (rest := []) (C := RX1) (n := 1) (ws' := CS D a s69) ⟨hx, hb, hml, hown, ht⟩ (k_x1_splits l D a x62 _ _ _ hc68) (zgV ml_X1_239 im_X1_splits se_X1_splits in_X1 co_X1_splits) rfl rfl (by decide +kernel) ⟨Nat.le_of_ble_eq_true rfl, Nat.le_of_ble_eq_true rfl⟩ hN hK hP (hDD _) hS hA 49 CW_49 rfl rfl rfl hl.1 rfl (Nat.le_of_ble_eq_true rfl) eX1_plant_60.1 ⟨Nat.le_of_ble_eq_true rfl, Nat.le_of_ble_eq_true rfl⟩ (fun H locs hP hS => ?_)
      obtain ⟨hr71, h⟩ := rg_e h
      refine lv_if_eq (tgt := 95) hx hb eX1_plant_60.2.1 (by decide) (fun c72 => ?_) (fun c72 => ?_)
      · have h := if_t ((i2_eq (x := r70) (y := 0) hr71 (by decide)).mp c72) h
        exact J95 (x60, x61, x62, s69) _ _ _ ⟨hP, hS, lv_sub hl [1, 3, 4, 0] rfl, h⟩
      · have h := if_f (mt (i2_eq (x := r70) (y := 0) hr71 (by decide)).mpr c72) h
        refine lv_aload_n hx hb eX1_plant_60.2.2.1 rfl (lv_at hl 1 rfl) ?_
        refine lv_iload_n hx hb eX1_plant_60.2.2.2.1 rfl (lv_at hl 2 rfl) ?_
        obtain ⟨⟨r75, s74⟩, hc73, h⟩ := bn_e h
        refine ywV (r0 := i2 r75) (As := [.int (i2 x59)]) (rest := []) (C := RX1) (n := 1) (ws' := CS D a s74) ⟨hx, hb, hml, hown, ht⟩ (k_x1_raiseRoot l D a x59 _ _ _ hc73) (zgV ml_X1_242 im_X1_raiseRoot se_X1_raiseRoot in_X1 co_X1_raiseRoot) rfl rfl (by decide +kernel) ⟨Nat.le_of_ble_eq_true rfl, Nat.le_of_ble_eq_true rfl⟩ hN hK hP (hDD _) hS hA 49 CW_49 rfl rfl rfl hl.1 rfl (Nat.le_of_ble_eq_true rfl) eX1_plant_60.2.2.2.2.1 ⟨Nat.le_of_ble_eq_true rfl, Nat.le_of_ble_eq_true rfl⟩ (fun H locs hP hS => ?_)
        refine lv_istore (lv' := [(5, .int (i2 r75)), (4, .int (i2 x62)), (0, .ref (a 49)), (1, .int (i2 x59)), (2, .int (i2 x60)), (3, .int (i2 x61))]) hx hb eX1_plant_60.2.2.2.2.2.1 hl (by decide) rfl (fun ls hl => ?_)
        refine lv_iload hx hb eX1_plant_60.2.2.2.2.2.2.1 (lv_at hl 0 rfl) ?_
        refine lv_iconst (v := (-1)) hx hb eX1_plant_60.2.2.2.2.2.2.2 (by decide) ?_
        obtain ⟨hr76, h⟩ := rg_e h
        refine lv_icmp_ne (tgt := 83) hx hb eX1_plant_76.1 (by decide) (fun c77 => ?_) (fun c77 => ?_)
        · rw [show ((-1) : Int32) = i2 (-1) from by decide] at c77
          have h := if_f (mt (i2_eq (x := r75) (y := (-1)) hr76 (by decide)).mpr c77) h
          refine lv_aload_n hx hb eX1_plant_76.2.2.2.1 rfl (lv_at hl 2 rfl) ?_
          refine lv_iload hx hb eX1_plant_76.2.2.2.2.1 (lv_at hl 0 rfl) ?_
          refine lv_iconst (v := 0) hx hb eX1_plant_76.2.2.2.2.2.1 (by decide) ?_
          refine lv_iload hx hb eX1_plant_76.2.2.2.2.2.2.1 (lv_at hl 1 rfl) ?_
          refine lv_iload_n hx hb eX1_plant_76.2.2.2.2.2.2.2 rfl (lv_at hl 4 rfl) ?_
          obtain ⟨⟨r80, s79⟩, hc78, h⟩ := bn_e h
          refine ywV (r0 := i2 r80) (As := [.int (i2 r75), .int 0, .int (i2 x62), .int (i2 x60)]) (rest := []) (C := RX1) (n := 4) (ws' := CS D a s79) ⟨hx, hb, hml, hown, ht⟩ (k_x1_split l D a r75 0 x62 x60 _ _ _ hc78) (zgV ml_X1_245 im_X1_split se_X1_split in_X1 co_X1_split) rfl rfl (by decide +kernel) ⟨Nat.le_of_ble_eq_true rfl, Nat.le_of_ble_eq_true rfl⟩ hN hK hP (hDD _) hS hA 49 CW_49 rfl rfl rfl hl.1 rfl (Nat.le_of_ble_eq_true rfl) eX1_plant_90.1 ⟨Nat.le_of_ble_eq_true rfl, Nat.le_of_ble_eq_true rfl⟩ (fun H locs hP hS => ?_)
          exact J93 (x60, x61, r80, s79) _ _ _ ⟨hP, hS, lv_sub hl [2, 4, 5] rfl, h⟩
        · rw [show ((-1) : Int32) = i2 (-1) from by decide] at c77
          have h := if_t ((i2_eq (x := r75) (y := (-1)) hr76 (by decide)).mp c77) h
          refine lv_iconst (v := (-1)) hx hb eX1_plant_76.2.1 (by decide) ?_
          refine lv_goto (tgt := 93) hx hb eX1_plant_76.2.2.1 (by decide) ?_
          exact J93 (x60, x61, (-1), s74) _ _ _ ⟨hP, hS, lv_sub hl [2, 4, 5] rfl, h⟩
    · rw [show ((-1) : Int32) = i2 (-1) from by decide] at c65
      have h := if_t ((i2_eq (x := x62) (y := (-1)) hr64 (by decide)).mp c65) h
      refine lv_iconst (v := 0) hx hb eX1_plant_32.2.2.2.2.2.2.1 (by decide) ?_
      obtain rfl := Option.some.inj h
      exact W.zret (v := 0) hx hb hr (by decide) (fun t ht hW => ⟨⟨_, (), rfl, rfl, by rw [ht]; exact hP, va_K.moved hW.alike hK, hDD _⟩, hS.F ht⟩) hS.2.2 eX1_plant_32.2.2.2.2.2.2.2
  refine lv_aload_n hx hb eX1_owned_119.2.2.2.2.2.2.2 rfl (lv_at hl 0 rfl) ?_
  refine va_get (D := D) (ci := 1) (v := .ref (a 53)) (C := RX1) (T := TX1) (N := 9) hx hb ht inX1 hown hK hP 49 CW_49 rfl 0 (by decide) (ht (.fieldLink RX1 12 "CloneVolumes$Forest" "now" "LCloneVolumes$State;") fl_X1_12) (fun _ h9 => h9) rfl eX1_plant_1.1 ?_
  refine va_get (D := D) (ci := 8) (v := .ref (a 60)) (C := RX8) (T := TX8) (N := 11) hx hb ht inX8 hown hK hP 53 CW_53 rfl 9 (by decide) (ht (.fieldLink RX1 69 "CloneVolumes$State" "roots" "[I") fl_X1_69) (fun _ h9 => h9) rfl eX1_plant_1.2.1 ?_
  refine lv_iload_n hx hb eX1_plant_1.2.2.1 rfl (lv_at hl 1 rfl) ?_
  obtain ⟨y81, ey81, iy81, h⟩ := rdI_e h
  refine ya_iald (i := p0) hx hb hK hP 60 0 CW_60 rfl (by decide) ey81 iy81 eX1_plant_1.2.2.2.1 ?_
  refine lv_iconst (v := (-1)) hx hb eX1_plant_1.2.2.2.2.1 (by decide) ?_
  obtain ⟨hr82, h⟩ := rg_e h
  refine lv_icmp_ne (tgt := 23) hx hb eX1_plant_1.2.2.2.2.2.1 (by decide) (fun c83 => ?_) (fun c83 => ?_)
  · rw [show ((-1) : Int32) = i2 (-1) from by decide] at c83
    have h := if_f (mt (i2_eq (x := y81) (y := (-1)) hr82 (by decide)).mpr c83) h
    refine lv_aload_n hx hb eX1_plant_15.2.2.2.1 rfl (lv_at hl 0 rfl) ?_
    refine lv_aload_n hx hb eX1_plant_15.2.2.2.2.1 rfl (lv_at hl 0 rfl) ?_
    refine va_get (D := D) (ci := 1) (v := .ref (a 53)) (C := RX1) (T := TX1) (N := 9) hx hb ht inX1 hown hK hP 49 CW_49 rfl 0 (by decide) (ht (.fieldLink RX1 12 "CloneVolumes$Forest" "now" "LCloneVolumes$State;") fl_X1_12) (fun _ h9 => h9) rfl eX1_plant_15.2.2.2.2.2.1 ?_
    refine va_get (D := D) (ci := 8) (v := .ref (a 60)) (C := RX8) (T := TX8) (N := 11) hx hb ht inX8 hown hK hP 53 CW_53 rfl 9 (by decide) (ht (.fieldLink RX1 69 "CloneVolumes$State" "roots" "[I") fl_X1_69) (fun _ h9 => h9) rfl eX1_plant_15.2.2.2.2.2.2.1 ?_
    refine lv_iload_n hx hb eX1_plant_15.2.2.2.2.2.2.2 rfl (lv_at hl 1 rfl) ?_
    obtain ⟨y84, ey84, iy84, h⟩ := rdI_e h
    refine ya_iald (i := p0) hx hb hK hP 60 0 CW_60 rfl (by decide) ey84 iy84 eX1_plant_32.1 ?_
    obtain ⟨⟨r87, s86⟩, hc85, h⟩ := bn_e h
    refine ywV (r0 := i2 r87) (As := [.int (i2 y84)]) (rest := []) (C := RX1) (n := 1) (ws' := CS D a s86) ⟨hx, hb, hml, hown, ht⟩ (k_x1_owned l D a y84 _ _ _ hc85) (zgV ml_X1_236 im_X1_owned se_X1_owned in_X1 co_X1_owned) rfl rfl (by decide +kernel) ⟨Nat.le_of_ble_eq_true rfl, Nat.le_of_ble_eq_true rfl⟩ hN hK hP (hDD _) hS hA 49 CW_49 rfl rfl rfl hl.1 rfl (Nat.le_of_ble_eq_true rfl) eX1_plant_32.2.1 ⟨Nat.le_of_ble_eq_true rfl, Nat.le_of_ble_eq_true rfl⟩ (fun H locs hP hS => ?_)
    exact J36 (p0, p1, p2, r87, s86) _ _ _ ⟨hP, hS, lv_sub hl [0, 1, 2, 3] rfl, h⟩
  · rw [show ((-1) : Int32) = i2 (-1) from by decide] at c83
    have h := if_t ((i2_eq (x := y81) (y := (-1)) hr82 (by decide)).mp c83) h
    refine lv_aload_n hx hb eX1_plant_1.2.2.2.2.2.2.1 rfl (lv_at hl 0 rfl) ?_
    refine lv_iconst (v := 0) hx hb eX1_plant_1.2.2.2.2.2.2.2 (by decide) ?_
    refine lv_bipush (v := 48) hx hb eX1_plant_15.1 (by decide) ?_
    obtain ⟨⟨r90, s89⟩, hc88, h⟩ := bn_e h
    refine ywV (r0 := i2 r90) (As := [.int 0, .int 48]) (rest := []) (C := RX1) (n := 2) (ws' := CS D a s89) ⟨hx, hb, hml, hown, ht⟩ (k_x1_take l D a 0 48 _ _ _ hc88) (zgV ml_X1_210 im_X1_take se_X1_take in_X1 co_X1_take) rfl rfl (by decide +kernel) ⟨Nat.le_of_ble_eq_true rfl, Nat.le_of_ble_eq_true rfl⟩ hN hK hP (hDD _) hS hA 49 CW_49 rfl rfl rfl hl.1 rfl (Nat.le_of_ble_eq_true rfl) eX1_plant_15.2.1 ⟨Nat.le_of_ble_eq_true rfl, Nat.le_of_ble_eq_true rfl⟩ (fun H locs hP hS => ?_)
    refine lv_goto (tgt := 36) hx hb eX1_plant_15.2.2.1 (by decide) ?_
    exact J36 (p0, p1, p2, r90, s89) _ _ _ ⟨hP, hS, lv_sub hl [0, 1, 2, 3] rfl, h⟩
