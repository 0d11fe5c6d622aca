theorem ck_X3_84 : Cond.constant RX3 84 1000000 ∈ lw_gd := zm (lw_g_4 (List.mem_of_getElem? (i := 54) (by decide +kernel))) rfl
theorem ck_X3_87 : Cond.constant RX3 87 (-1000000) ∈ lw_gd := zm (lw_g_4 (List.mem_of_getElem? (i := 56) (by decide +kernel))) rfl
theorem cl_X3_82 : Cond.constantLong RX3 82 1000000 ∈ lw_gd := zm (lw_g_4 (List.mem_of_getElem? (i := 53) (by decide +kernel))) rfl
theorem cl_X3_85 : Cond.constantLong RX3 85 (-1000000) ∈ lw_gd := zm (lw_g_4 (List.mem_of_getElem? (i := 55) (by decide +kernel))) rfl
theorem co_X3_changed : Cond.code yX3_changed cX3_changed 3 (some .int) ∈ lw_gd := zm (lw_g_4 (List.mem_of_getElem? (i := 49) (by decide +kernel))) rfl
theorem co_X3_fact : Cond.code yX3_fact cX3_fact 2 (some .int) ∈ lw_gd := zm (lw_g_4 (List.mem_of_getElem? (i := 41) (by decide +kernel))) rfl
theorem co_X3_joined : Cond.code yX3_joined cX3_joined 5 (some .int) ∈ lw_gd := zm (lw_g_4 (List.mem_of_getElem? (i := 52) (by decide +kernel))) rfl
theorem co_X3_pop : Cond.code yX3_pop cX3_pop 1 (some .int) ∈ lw_gd := zm (lw_g_4 (List.mem_of_getElem? (i := 45) (by decide +kernel))) rfl
theorem co_X3_push : Cond.code yX3_push cX3_push 2 none ∈ lw_gd := zm (lw_g_4 (List.mem_of_getElem? (i := 37) (by decide +kernel))) rfl
theorem co_X8_insert : Cond.code yX8_insert cX8_insert 7 none ∈ lw_gd := zm (lw_g_4 (List.mem_of_getElem? (i := 93) (by decide +kernel))) rfl
theorem co_X8_set : Cond.code yX8_set cX8_set 5 none ∈ lw_gd := zm (lw_g_4 (List.mem_of_getElem? (i := 107) (by decide +kernel))) rfl
theorem fl_X1_227 : Cond.fieldLink RX1 227 "CloneVolumes$State" "keys" "[I" ∈ lw_gd := zm (lw_g_2 (List.mem_of_getElem? (i := 150) (by decide +kernel))) rfl
theorem fl_X3_19 : Cond.fieldLink RX3 19 "CloneVolumes$Machine" "top" "I" ∈ lw_gd := zm (lw_g_2 (List.mem_of_getElem? (i := 194) (by decide +kernel))) rfl
theorem fl_X3_23 : Cond.fieldLink RX3 23 "CloneVolumes$Code" "size" "I" ∈ lw_gd := zm (lw_g_2 (List.mem_of_getElem? (i := 20) (by decide +kernel))) rfl
theorem fl_X3_28 : Cond.fieldLink RX3 28 "CloneVolumes$Code" "steps" "[I" ∈ lw_gd := zm (lw_g_2 (List.mem_of_getElem? (i := 18) (by decide +kernel))) rfl
theorem fl_X3_51 : Cond.fieldLink RX3 51 "CloneVolumes$Machine" "number" "I" ∈ lw_gd := zm (lw_g_2 (List.mem_of_getElem? (i := 195) (by decide +kernel))) rfl
theorem fl_X3_54 : Cond.fieldLink RX3 54 "CloneVolumes$Machine" "source" "I" ∈ lw_gd := zm (lw_g_2 (List.mem_of_getElem? (i := 197) (by decide +kernel))) rfl
theorem fl_X3_57 : Cond.fieldLink RX3 57 "CloneVolumes$Machine" "level" "I" ∈ lw_gd := zm (lw_g_2 (List.mem_of_getElem? (i := 199) (by decide +kernel))) rfl
theorem fl_X3_60 : Cond.fieldLink RX3 60 "CloneVolumes$Machine" "entries" "I" ∈ lw_gd := zm (lw_g_2 (List.mem_of_getElem? (i := 201) (by decide +kernel))) rfl
theorem fl_X3_63 : Cond.fieldLink RX3 63 "CloneVolumes$Machine" "count" "I" ∈ lw_gd := zm (lw_g_2 (List.mem_of_getElem? (i := 203) (by decide +kernel))) rfl
theorem fl_X3_66 : Cond.fieldLink RX3 66 "CloneVolumes$Machine" "fresh" "I" ∈ lw_gd := zm (lw_g_2 (List.mem_of_getElem? (i := 205) (by decide +kernel))) rfl
theorem fl_X3_69 : Cond.fieldLink RX3 69 "CloneVolumes$Machine" "saved" "I" ∈ lw_gd := zm (lw_g_2 (List.mem_of_getElem? (i := 207) (by decide +kernel))) rfl
theorem fl_X3_72 : Cond.fieldLink RX3 72 "CloneVolumes$State" "blocks" "I" ∈ lw_gd := zm (lw_g_2 (List.mem_of_getElem? (i := 119) (by decide +kernel))) rfl
theorem fl_X3_77 : Cond.fieldLink RX3 77 "CloneVolumes$State" "count" "[I" ∈ lw_gd := zm (lw_g_2 (List.mem_of_getElem? (i := 129) (by decide +kernel))) rfl
theorem fl_X3_79 : Cond.fieldLink RX3 79 "CloneVolumes$State" "keys" "[I" ∈ lw_gd := zm (lw_g_2 (List.mem_of_getElem? (i := 148) (by decide +kernel))) rfl
theorem im_X3_changed : Cond.instanceMethod yX3_changed ∈ lw_gd := zm (lw_g_4 (List.mem_of_getElem? (i := 48) (by decide +kernel))) rfl
theorem im_X3_fact : Cond.instanceMethod yX3_fact ∈ lw_gd := zm (lw_g_4 (List.mem_of_getElem? (i := 40) (by decide +kernel))) rfl
theorem im_X3_pop : Cond.instanceMethod yX3_pop ∈ lw_gd := zm (lw_g_4 (List.mem_of_getElem? (i := 44) (by decide +kernel))) rfl
theorem im_X3_push : Cond.instanceMethod yX3_push ∈ lw_gd := zm (lw_g_4 (List.mem_of_getElem? (i := 36) (by decide +kernel))) rfl
theorem im_X8_insert : Cond.instanceMethod yX8_insert ∈ lw_gd := zm (lw_g_4 (List.mem_of_getElem? (i := 91) (by decide +kernel))) rfl
theorem im_X8_set : Cond.instanceMethod yX8_set ∈ lw_gd := zm (lw_g_4 (List.mem_of_getElem? (i := 105) (by decide +kernel))) rfl
theorem ml_X1_252 : Cond.methodLink RX1 252 yX8_set ∈ lw_gd := zm (lw_g_4 (List.mem_of_getElem? (i := 104) (by decide +kernel))) rfl
theorem ml_X1_258 : Cond.methodLink RX1 258 yX8_insert ∈ lw_gd := zm (lw_g_4 (List.mem_of_getElem? (i := 90) (by decide +kernel))) rfl
theorem ml_X1_262 : Cond.methodLink RX1 262 yX8_find ∈ lw_gd := zm (lw_g_4 (List.mem_of_getElem? (i := 112) (by decide +kernel))) rfl
theorem ml_X3_31 : Cond.methodLink RX3 31 yX3_push ∈ lw_gd := zm (lw_g_4 (List.mem_of_getElem? (i := 34) (by decide +kernel))) rfl
theorem ml_X3_35 : Cond.methodLink RX3 35 yX3_fact ∈ lw_gd := zm (lw_g_4 (List.mem_of_getElem? (i := 38) (by decide +kernel))) rfl
theorem ml_X3_39 : Cond.methodLink RX3 39 yX3_pop ∈ lw_gd := zm (lw_g_4 (List.mem_of_getElem? (i := 42) (by decide +kernel))) rfl
theorem ml_X3_43 : Cond.methodLink RX3 43 yX3_changed ∈ lw_gd := zm (lw_g_4 (List.mem_of_getElem? (i := 46) (by decide +kernel))) rfl
theorem ml_X3_47 : Cond.methodLink RX3 47 yX3_joined ∈ lw_gd := zm (lw_g_4 (List.mem_of_getElem? (i := 50) (by decide +kernel))) rfl
theorem se_X3_changed : Cond.selects RX3 yX3_changed yX3_changed ∈ lw_gd := zm (List.mem_of_getElem? (i := 33) (by decide +kernel)) rfl
theorem se_X3_fact : Cond.selects RX3 yX3_fact yX3_fact ∈ lw_gd := zm (List.mem_of_getElem? (i := 31) (by decide +kernel)) rfl
theorem se_X3_pop : Cond.selects RX3 yX3_pop yX3_pop ∈ lw_gd := zm (List.mem_of_getElem? (i := 32) (by decide +kernel)) rfl
theorem se_X3_push : Cond.selects RX3 yX3_push yX3_push ∈ lw_gd := zm (List.mem_of_getElem? (i := 30) (by decide +kernel)) rfl
theorem se_X8_insert : Cond.selects RX8 yX8_insert yX8_insert ∈ lw_gd := zm (lw_g_4 (List.mem_of_getElem? (i := 92) (by decide +kernel))) rfl
theorem se_X8_set : Cond.selects RX8 yX8_set yX8_set ∈ lw_gd := zm (lw_g_4 (List.mem_of_getElem? (i := 106) (by decide +kernel))) rfl
theorem st_X3_joined : Cond.static yX3_joined ∈ lw_gd := zm (lw_g_4 (List.mem_of_getElem? (i := 51) (by decide +kernel))) rfl
theorem eX1_plantLow_0 : decode cX1_plantLow 0 = .ok (.aload_n 0, 1) ∧ decode cX1_plantLow 1 = .ok (.getfield 12, 3) ∧ decode cX1_plantLow 4 = .ok (.iload_n 1, 1) ∧ decode cX1_plantLow 5 = .ok (.iload_n 2, 1) ∧ decode cX1_plantLow 6 = .ok (.invokevirtual 262, 3) ∧ decode cX1_plantLow 9 = .ok (.istore 4, 2) ∧ decode cX1_plantLow 11 = .ok (.iload 4, 2) ∧ decode cX1_plantLow 13 = .ok (.iconst (-1), 1) := by decide +kernel
theorem eX1_plantLow_14 : decode cX1_plantLow 14 = .ok (.if_icmp .eq 15, 3) ∧ decode cX1_plantLow 17 = .ok (.aload_n 0, 1) ∧ decode cX1_plantLow 18 = .ok (.getfield 12, 3) ∧ decode cX1_plantLow 21 = .ok (.iload_n 1, 1) ∧ decode cX1_plantLow 22 = .ok (.iload 4, 2) ∧ decode cX1_plantLow 24 = .ok (.iload_n 3, 1) ∧ decode cX1_plantLow 25 = .ok (.invokevirtual 252, 3) ∧ decode cX1_plantLow 28 = .ok (.return_, 1) := by decide +kernel
theorem eX1_plantLow_29 : decode cX1_plantLow 29 = .ok (.iconst 0, 1) ∧ decode cX1_plantLow 30 = .ok (.istore 5, 2) ∧ decode cX1_plantLow 32 = .ok (.iconst 0, 1) ∧ decode cX1_plantLow 33 = .ok (.istore 6, 2) ∧ decode cX1_plantLow 35 = .ok (.iload 6, 2) ∧ decode cX1_plantLow 37 = .ok (.aload_n 0, 1) ∧ decode cX1_plantLow 38 = .ok (.getfield 12, 3) ∧ decode cX1_plantLow 41 = .ok (.getfield 155, 3) := by decide +kernel
theorem eX1_plantLow_44 : decode cX1_plantLow 44 = .ok (.iload_n 1, 1) ∧ decode cX1_plantLow 45 = .ok (.iaload, 1) ∧ decode cX1_plantLow 46 = .ok (.if_icmp .ge 41, 3) ∧ decode cX1_plantLow 49 = .ok (.iload 5, 2) ∧ decode cX1_plantLow 51 = .ok (.aload_n 0, 1) ∧ decode cX1_plantLow 52 = .ok (.getfield 12, 3) ∧ decode cX1_plantLow 55 = .ok (.getfield 227, 3) ∧ decode cX1_plantLow 58 = .ok (.aload_n 0, 1) := by decide +kernel
theorem eX1_plantLow_59 : decode cX1_plantLow 59 = .ok (.getfield 12, 3) ∧ decode cX1_plantLow 62 = .ok (.iload_n 1, 1) ∧ decode cX1_plantLow 63 = .ok (.iload 6, 2) ∧ decode cX1_plantLow 65 = .ok (.invokevirtual 220, 3) ∧ decode cX1_plantLow 68 = .ok (.iaload, 1) ∧ decode cX1_plantLow 69 = .ok (.iload_n 2, 1) ∧ decode cX1_plantLow 70 = .ok (.if_icmp .ge 7, 3) ∧ decode cX1_plantLow 73 = .ok (.iconst 1, 1) := by decide +kernel
theorem eX1_plantLow_74 : decode cX1_plantLow 74 = .ok (.goto 4, 3) ∧ decode cX1_plantLow 77 = .ok (.iconst 0, 1) ∧ decode cX1_plantLow 78 = .ok (.iadd, 1) ∧ decode cX1_plantLow 79 = .ok (.istore 5, 2) ∧ decode cX1_plantLow 81 = .ok (.iinc 6 1, 3) ∧ decode cX1_plantLow 84 = .ok (.goto (-49), 3) ∧ decode cX1_plantLow 87 = .ok (.aload_n 0, 1) ∧ decode cX1_plantLow 88 = .ok (.getfield 12, 3) := by decide +kernel
theorem eX1_plantLow_91 : decode cX1_plantLow 91 = .ok (.iload_n 1, 1) ∧ decode cX1_plantLow 92 = .ok (.iload 5, 2) ∧ decode cX1_plantLow 94 = .ok (.iload_n 2, 1) ∧ decode cX1_plantLow 95 = .ok (.iload_n 3, 1) ∧ decode cX1_plantLow 96 = .ok (.invokevirtual 258, 3) ∧ decode cX1_plantLow 99 = .ok (.return_, 1) ∧ decode cX3_changed 0 = .ok (.iload_n 1, 1) ∧ decode cX3_changed 1 = .ok (.bipush (-12), 2) := by decide +kernel
theorem eX3_changed_3 : decode cX3_changed 3 = .ok (.if_icmp .ne 7, 3) ∧ decode cX3_changed 6 = .ok (.iconst 1, 1) ∧ decode cX3_changed 7 = .ok (.iload_n 2, 1) ∧ decode cX3_changed 8 = .ok (.isub, 1) ∧ decode cX3_changed 9 = .ok (.ireturn, 1) ∧ decode cX3_changed 10 = .ok (.iload_n 2, 1) ∧ decode cX3_changed 11 = .ok (.ifCond .lt 26, 3) ∧ decode cX3_changed 14 = .ok (.iload_n 2, 1) := by decide +kernel
theorem eX3_changed_15 : decode cX3_changed 15 = .ok (.aload_n 0, 1) ∧ decode cX3_changed 16 = .ok (.getfield 15, 3) ∧ decode cX3_changed 19 = .ok (.getfield 72, 3) ∧ decode cX3_changed 22 = .ok (.if_icmp .ge 15, 3) ∧ decode cX3_changed 25 = .ok (.aload_n 0, 1) ∧ decode cX3_changed 26 = .ok (.getfield 15, 3) ∧ decode cX3_changed 29 = .ok (.getfield 77, 3) ∧ decode cX3_changed 32 = .ok (.iload_n 2, 1) := by decide +kernel
theorem eX3_changed_33 : decode cX3_changed 33 = .ok (.iaload, 1) ∧ decode cX3_changed 34 = .ok (.ifCond .ne 5, 3) ∧ decode cX3_changed 37 = .ok (.iconst 0, 1) ∧ decode cX3_changed 38 = .ok (.ireturn, 1) ∧ decode cX3_changed 39 = .ok (.iload_n 1, 1) ∧ decode cX3_changed 40 = .ok (.bipush (-13), 2) ∧ decode cX3_changed 42 = .ok (.if_icmp .ne 15, 3) ∧ decode cX3_changed 45 = .ok (.aload_n 0, 1) := by decide +kernel
theorem eX3_changed_46 : decode cX3_changed 46 = .ok (.getfield 15, 3) ∧ decode cX3_changed 49 = .ok (.getfield 77, 3) ∧ decode cX3_changed 52 = .ok (.iload_n 2, 1) ∧ decode cX3_changed 53 = .ok (.iaload, 1) ∧ decode cX3_changed 54 = .ok (.goto 15, 3) ∧ decode cX3_changed 57 = .ok (.aload_n 0, 1) ∧ decode cX3_changed 58 = .ok (.getfield 15, 3) ∧ decode cX3_changed 61 = .ok (.getfield 79, 3) := by decide +kernel
theorem eX3_changed_64 : decode cX3_changed 64 = .ok (.iload_n 2, 1) ∧ decode cX3_changed 65 = .ok (.bipush 6, 2) ∧ decode cX3_changed 67 = .ok (.imul, 1) ∧ decode cX3_changed 68 = .ok (.iaload, 1) ∧ decode cX3_changed 69 = .ok (.ireturn, 1) ∧ decode cX3_fact 0 = .ok (.iload_n 1, 1) ∧ decode cX3_fact 1 = .ok (.tableswitch 82 11 18 #[47, 52, 57, 62, 47, 67, 72, 77], 47) ∧ decode cX3_fact 48 = .ok (.aload_n 0, 1) := by decide +kernel
theorem eX3_fact_49 : decode cX3_fact 49 = .ok (.getfield 51, 3) ∧ decode cX3_fact 52 = .ok (.ireturn, 1) ∧ decode cX3_fact 53 = .ok (.aload_n 0, 1) ∧ decode cX3_fact 54 = .ok (.getfield 54, 3) ∧ decode cX3_fact 57 = .ok (.ireturn, 1) ∧ decode cX3_fact 58 = .ok (.aload_n 0, 1) ∧ decode cX3_fact 59 = .ok (.getfield 57, 3) ∧ decode cX3_fact 62 = .ok (.ireturn, 1) := by decide +kernel
theorem eX3_fact_63 : decode cX3_fact 63 = .ok (.aload_n 0, 1) ∧ decode cX3_fact 64 = .ok (.getfield 60, 3) ∧ decode cX3_fact 67 = .ok (.ireturn, 1) ∧ decode cX3_fact 68 = .ok (.aload_n 0, 1) ∧ decode cX3_fact 69 = .ok (.getfield 63, 3) ∧ decode cX3_fact 72 = .ok (.ireturn, 1) ∧ decode cX3_fact 73 = .ok (.aload_n 0, 1) ∧ decode cX3_fact 74 = .ok (.getfield 66, 3) := by decide +kernel
theorem eX3_fact_77 : decode cX3_fact 77 = .ok (.ireturn, 1) ∧ decode cX3_fact 78 = .ok (.aload_n 0, 1) ∧ decode cX3_fact 79 = .ok (.getfield 69, 3) ∧ decode cX3_fact 82 = .ok (.ireturn, 1) ∧ decode cX3_fact 83 = .ok (.iconst 0, 1) ∧ decode cX3_fact 84 = .ok (.ireturn, 1) ∧ decode cX3_joined 0 = .ok (.lconst 0, 1) ∧ decode cX3_joined 1 = .ok (.lstore_n 3, 1) := by decide +kernel
theorem eX3_joined_2 : decode cX3_joined 2 = .ok (.iload_n 0, 1) ∧ decode cX3_joined 3 = .ok (.tableswitch 196 (-11) (-1) #[188, 180, 166, 152, 138, 122, 106, 82, 73, 65, 57], 57) ∧ decode cX3_joined 60 = .ok (.iload_n 1, 1) ∧ decode cX3_joined 61 = .ok (.iload_n 2, 1) ∧ decode cX3_joined 62 = .ok (.iadd, 1) ∧ decode cX3_joined 63 = .ok (.i2l, 1) ∧ decode cX3_joined 64 = .ok (.lstore_n 3, 1) ∧ decode cX3_joined 65 = .ok (.goto 134, 3) := by decide +kernel
theorem eX3_joined_68 : decode cX3_joined 68 = .ok (.iload_n 1, 1) ∧ decode cX3_joined 69 = .ok (.iload_n 2, 1) ∧ decode cX3_joined 70 = .ok (.isub, 1) ∧ decode cX3_joined 71 = .ok (.i2l, 1) ∧ decode cX3_joined 72 = .ok (.lstore_n 3, 1) ∧ decode cX3_joined 73 = .ok (.goto 126, 3) ∧ decode cX3_joined 76 = .ok (.iload_n 1, 1) ∧ decode cX3_joined 77 = .ok (.i2l, 1) := by decide +kernel
theorem eX3_joined_78 : decode cX3_joined 78 = .ok (.iload_n 2, 1) ∧ decode cX3_joined 79 = .ok (.i2l, 1) ∧ decode cX3_joined 80 = .ok (.lmul, 1) ∧ decode cX3_joined 81 = .ok (.lstore_n 3, 1) ∧ decode cX3_joined 82 = .ok (.goto 117, 3) ∧ decode cX3_joined 85 = .ok (.iload_n 2, 1) ∧ decode cX3_joined 86 = .ok (.ifCond .ne 7, 3) ∧ decode cX3_joined 89 = .ok (.lconst 0, 1) := by decide +kernel
theorem eX3_joined_90 : decode cX3_joined 90 = .ok (.goto 15, 3) ∧ decode cX3_joined 93 = .ok (.iload_n 1, 1) ∧ decode cX3_joined 94 = .ok (.iload_n 1, 1) ∧ decode cX3_joined 95 = .ok (.iload_n 2, 1) ∧ decode cX3_joined 96 = .ok (.irem, 1) ∧ decode cX3_joined 97 = .ok (.iload_n 2, 1) ∧ decode cX3_joined 98 = .ok (.iadd, 1) ∧ decode cX3_joined 99 = .ok (.iload_n 2, 1) := by decide +kernel
theorem eX3_joined_100 : decode cX3_joined 100 = .ok (.irem, 1) ∧ decode cX3_joined 101 = .ok (.isub, 1) ∧ decode cX3_joined 102 = .ok (.iload_n 2, 1) ∧ decode cX3_joined 103 = .ok (.idiv, 1) ∧ decode cX3_joined 104 = .ok (.i2l, 1) ∧ decode cX3_joined 105 = .ok (.lstore_n 3, 1) ∧ decode cX3_joined 106 = .ok (.goto 93, 3) ∧ decode cX3_joined 109 = .ok (.iload_n 1, 1) := by decide +kernel
theorem eX3_joined_110 : decode cX3_joined 110 = .ok (.iload_n 2, 1) ∧ decode cX3_joined 111 = .ok (.if_icmp .ge 8, 3) ∧ decode cX3_joined 114 = .ok (.iload_n 1, 1) ∧ decode cX3_joined 115 = .ok (.i2l, 1) ∧ decode cX3_joined 116 = .ok (.goto 5, 3) ∧ decode cX3_joined 119 = .ok (.iload_n 2, 1) ∧ decode cX3_joined 120 = .ok (.i2l, 1) ∧ decode cX3_joined 121 = .ok (.lstore_n 3, 1) := by decide +kernel
theorem eX3_joined_122 : decode cX3_joined 122 = .ok (.goto 77, 3) ∧ decode cX3_joined 125 = .ok (.iload_n 1, 1) ∧ decode cX3_joined 126 = .ok (.iload_n 2, 1) ∧ decode cX3_joined 127 = .ok (.if_icmp .le 8, 3) ∧ decode cX3_joined 130 = .ok (.iload_n 1, 1) ∧ decode cX3_joined 131 = .ok (.i2l, 1) ∧ decode cX3_joined 132 = .ok (.goto 5, 3) ∧ decode cX3_joined 135 = .ok (.iload_n 2, 1) := by decide +kernel
theorem eX3_joined_136 : decode cX3_joined 136 = .ok (.i2l, 1) ∧ decode cX3_joined 137 = .ok (.lstore_n 3, 1) ∧ decode cX3_joined 138 = .ok (.goto 61, 3) ∧ decode cX3_joined 141 = .ok (.iload_n 1, 1) ∧ decode cX3_joined 142 = .ok (.iload_n 2, 1) ∧ decode cX3_joined 143 = .ok (.if_icmp .ge 7, 3) ∧ decode cX3_joined 146 = .ok (.lconst 1, 1) ∧ decode cX3_joined 147 = .ok (.goto 4, 3) := by decide +kernel
theorem eX3_joined_150 : decode cX3_joined 150 = .ok (.lconst 0, 1) ∧ decode cX3_joined 151 = .ok (.lstore_n 3, 1) ∧ decode cX3_joined 152 = .ok (.goto 47, 3) ∧ decode cX3_joined 155 = .ok (.iload_n 1, 1) ∧ decode cX3_joined 156 = .ok (.iload_n 2, 1) ∧ decode cX3_joined 157 = .ok (.if_icmp .le 7, 3) ∧ decode cX3_joined 160 = .ok (.lconst 1, 1) ∧ decode cX3_joined 161 = .ok (.goto 4, 3) := by decide +kernel
theorem eX3_joined_164 : decode cX3_joined 164 = .ok (.lconst 0, 1) ∧ decode cX3_joined 165 = .ok (.lstore_n 3, 1) ∧ decode cX3_joined 166 = .ok (.goto 33, 3) ∧ decode cX3_joined 169 = .ok (.iload_n 1, 1) ∧ decode cX3_joined 170 = .ok (.iload_n 2, 1) ∧ decode cX3_joined 171 = .ok (.if_icmp .ne 7, 3) ∧ decode cX3_joined 174 = .ok (.lconst 1, 1) ∧ decode cX3_joined 175 = .ok (.goto 4, 3) := by decide +kernel
theorem eX3_joined_178 : decode cX3_joined 178 = .ok (.lconst 0, 1) ∧ decode cX3_joined 179 = .ok (.lstore_n 3, 1) ∧ decode cX3_joined 180 = .ok (.goto 19, 3) ∧ decode cX3_joined 183 = .ok (.iload_n 1, 1) ∧ decode cX3_joined 184 = .ok (.iload_n 2, 1) ∧ decode cX3_joined 185 = .ok (.iand, 1) ∧ decode cX3_joined 186 = .ok (.i2l, 1) ∧ decode cX3_joined 187 = .ok (.lstore_n 3, 1) := by decide +kernel
theorem eX3_joined_188 : decode cX3_joined 188 = .ok (.goto 11, 3) ∧ decode cX3_joined 191 = .ok (.iload_n 1, 1) ∧ decode cX3_joined 192 = .ok (.iload_n 2, 1) ∧ decode cX3_joined 193 = .ok (.ior, 1) ∧ decode cX3_joined 194 = .ok (.i2l, 1) ∧ decode cX3_joined 195 = .ok (.lstore_n 3, 1) ∧ decode cX3_joined 196 = .ok (.goto 3, 3) ∧ decode cX3_joined 199 = .ok (.lload_n 3, 1) := by decide +kernel
theorem eX3_joined_200 : decode cX3_joined 200 = .ok (.ldc2_w 82, 3) ∧ decode cX3_joined 203 = .ok (.lcmp, 1) ∧ decode cX3_joined 204 = .ok (.ifCond .le 6, 3) ∧ decode cX3_joined 207 = .ok (.ldc 84, 2) ∧ decode cX3_joined 209 = .ok (.ireturn, 1) ∧ decode cX3_joined 210 = .ok (.lload_n 3, 1) ∧ decode cX3_joined 211 = .ok (.ldc2_w 85, 3) ∧ decode cX3_joined 214 = .ok (.lcmp, 1) := by decide +kernel
theorem eX3_joined_215 : decode cX3_joined 215 = .ok (.ifCond .ge 8, 3) ∧ decode cX3_joined 218 = .ok (.ldc 87, 2) ∧ decode cX3_joined 220 = .ok (.goto 5, 3) ∧ decode cX3_joined 223 = .ok (.lload_n 3, 1) ∧ decode cX3_joined 224 = .ok (.l2i, 1) ∧ decode cX3_joined 225 = .ok (.ireturn, 1) ∧ decode cX3_pop 0 = .ok (.aload_n 0, 1) ∧ decode cX3_pop 1 = .ok (.getfield 19, 3) := by decide +kernel
theorem eX3_pop_4 : decode cX3_pop 4 = .ok (.ifCond .gt 5, 3) ∧ decode cX3_pop 7 = .ok (.iconst 0, 1) ∧ decode cX3_pop 8 = .ok (.ireturn, 1) ∧ decode cX3_pop 9 = .ok (.aload_n 0, 1) ∧ decode cX3_pop 10 = .ok (.dup, 1) ∧ decode cX3_pop 11 = .ok (.getfield 19, 3) ∧ decode cX3_pop 14 = .ok (.iconst 1, 1) ∧ decode cX3_pop 15 = .ok (.isub, 1) := by decide +kernel
theorem eX3_pop_16 : decode cX3_pop 16 = .ok (.putfield 19, 3) ∧ decode cX3_pop 19 = .ok (.aload_n 0, 1) ∧ decode cX3_pop 20 = .ok (.getfield 11, 3) ∧ decode cX3_pop 23 = .ok (.aload_n 0, 1) ∧ decode cX3_pop 24 = .ok (.getfield 19, 3) ∧ decode cX3_pop 27 = .ok (.iaload, 1) ∧ decode cX3_pop 28 = .ok (.ireturn, 1) ∧ decode cX3_push 0 = .ok (.aload_n 0, 1) := by decide +kernel
theorem eX3_push_1 : decode cX3_push 1 = .ok (.getfield 19, 3) ∧ decode cX3_push 4 = .ok (.bipush 64, 2) ∧ decode cX3_push 6 = .ok (.if_icmp .ge 23, 3) ∧ decode cX3_push 9 = .ok (.aload_n 0, 1) ∧ decode cX3_push 10 = .ok (.getfield 11, 3) ∧ decode cX3_push 13 = .ok (.aload_n 0, 1) ∧ decode cX3_push 14 = .ok (.getfield 19, 3) ∧ decode cX3_push 17 = .ok (.iload_n 1, 1) := by decide +kernel
theorem eX3_push_18 : decode cX3_push 18 = .ok (.iastore, 1) ∧ decode cX3_push 19 = .ok (.aload_n 0, 1) ∧ decode cX3_push 20 = .ok (.dup, 1) ∧ decode cX3_push 21 = .ok (.getfield 19, 3) ∧ decode cX3_push 24 = .ok (.iconst 1, 1) ∧ decode cX3_push 25 = .ok (.iadd, 1) ∧ decode cX3_push 26 = .ok (.putfield 19, 3) ∧ decode cX3_push 29 = .ok (.return_, 1) := by decide +kernel
theorem eX3_value_0 : decode cX3_value 0 = .ok (.aload_n 0, 1) ∧ decode cX3_value 1 = .ok (.iconst 0, 1) ∧ decode cX3_value 2 = .ok (.putfield 19, 3) ∧ decode cX3_value 5 = .ok (.iload_n 2, 1) ∧ decode cX3_value 6 = .ok (.istore 4, 2) ∧ decode cX3_value 8 = .ok (.iload 4, 2) ∧ decode cX3_value 10 = .ok (.ifCond .lt 115, 3) ∧ decode cX3_value 13 = .ok (.iload 4, 2) := by decide +kernel
theorem eX3_value_15 : decode cX3_value 15 = .ok (.iload_n 3, 1) ∧ decode cX3_value 16 = .ok (.if_icmp .ge 109, 3) ∧ decode cX3_value 19 = .ok (.iload 4, 2) ∧ decode cX3_value 21 = .ok (.aload_n 1, 1) ∧ decode cX3_value 22 = .ok (.getfield 23, 3) ∧ decode cX3_value 25 = .ok (.if_icmp .ge 100, 3) ∧ decode cX3_value 28 = .ok (.aload_n 1, 1) ∧ decode cX3_value 29 = .ok (.getfield 28, 3) := by decide +kernel
theorem eX3_value_32 : decode cX3_value 32 = .ok (.iload 4, 2) ∧ decode cX3_value 34 = .ok (.iaload, 1) ∧ decode cX3_value 35 = .ok (.istore 5, 2) ∧ decode cX3_value 37 = .ok (.iload 5, 2) ∧ decode cX3_value 39 = .ok (.ifCond .lt 12, 3) ∧ decode cX3_value 42 = .ok (.aload_n 0, 1) ∧ decode cX3_value 43 = .ok (.iload 5, 2) ∧ decode cX3_value 45 = .ok (.invokevirtual 31, 3) := by decide +kernel
theorem eX3_value_48 : decode cX3_value 48 = .ok (.goto 71, 3) ∧ decode cX3_value 51 = .ok (.iload 5, 2) ∧ decode cX3_value 53 = .ok (.bipush (-100), 2) ∧ decode cX3_value 55 = .ok (.if_icmp .gt 19, 3) ∧ decode cX3_value 58 = .ok (.aload_n 0, 1) ∧ decode cX3_value 59 = .ok (.aload_n 0, 1) ∧ decode cX3_value 60 = .ok (.bipush (-100), 2) ∧ decode cX3_value 62 = .ok (.iload 5, 2) := by decide +kernel
theorem eX3_value_64 : decode cX3_value 64 = .ok (.isub, 1) ∧ decode cX3_value 65 = .ok (.invokevirtual 35, 3) ∧ decode cX3_value 68 = .ok (.invokevirtual 31, 3) ∧ decode cX3_value 71 = .ok (.goto 48, 3) ∧ decode cX3_value 74 = .ok (.iload 5, 2) ∧ decode cX3_value 76 = .ok (.bipush (-12), 2) ∧ decode cX3_value 78 = .ok (.if_icmp .gt 20, 3) ∧ decode cX3_value 81 = .ok (.aload_n 0, 1) := by decide +kernel
theorem eX3_value_82 : decode cX3_value 82 = .ok (.aload_n 0, 1) ∧ decode cX3_value 83 = .ok (.iload 5, 2) ∧ decode cX3_value 85 = .ok (.aload_n 0, 1) ∧ decode cX3_value 86 = .ok (.invokevirtual 39, 3) ∧ decode cX3_value 89 = .ok (.invokevirtual 43, 3) ∧ decode cX3_value 92 = .ok (.invokevirtual 31, 3) ∧ decode cX3_value 95 = .ok (.goto 24, 3) ∧ decode cX3_value 98 = .ok (.aload_n 0, 1) := by decide +kernel
theorem eX3_value_99 : decode cX3_value 99 = .ok (.invokevirtual 39, 3) ∧ decode cX3_value 102 = .ok (.istore 6, 2) ∧ decode cX3_value 104 = .ok (.aload_n 0, 1) ∧ decode cX3_value 105 = .ok (.iload 5, 2) ∧ decode cX3_value 107 = .ok (.aload_n 0, 1) ∧ decode cX3_value 108 = .ok (.invokevirtual 39, 3) ∧ decode cX3_value 111 = .ok (.iload 6, 2) ∧ decode cX3_value 113 = .ok (.invokestatic 47, 3) := by decide +kernel
theorem eX3_value_116 : decode cX3_value 116 = .ok (.invokevirtual 31, 3) ∧ decode cX3_value 119 = .ok (.iinc 4 1, 3) ∧ decode cX3_value 122 = .ok (.goto (-114), 3) ∧ decode cX3_value 125 = .ok (.aload_n 0, 1) ∧ decode cX3_value 126 = .ok (.invokevirtual 39, 3) ∧ decode cX3_value 129 = .ok (.ireturn, 1) ∧ decode cX8_isFree 0 = .ok (.aload_n 0, 1) ∧ decode cX8_isFree 1 = .ok (.iload_n 1, 1) := by decide +kernel
theorem eX8_isFree_2 : decode cX8_isFree 2 = .ok (.invokevirtual 57, 3) ∧ decode cX8_isFree 5 = .ok (.ifCond .eq 25, 3) ∧ decode cX8_isFree 8 = .ok (.aload_n 0, 1) ∧ decode cX8_isFree 9 = .ok (.getfield 9, 3) ∧ decode cX8_isFree 12 = .ok (.iload_n 1, 1) ∧ decode cX8_isFree 13 = .ok (.iaload, 1) ∧ decode cX8_isFree 14 = .ok (.ifCond .ne 16, 3) ∧ decode cX8_isFree 17 = .ok (.aload_n 0, 1) := by decide +kernel
theorem eX8_isFree_18 : decode cX8_isFree 18 = .ok (.getfield 15, 3) ∧ decode cX8_isFree 21 = .ok (.iload_n 1, 1) ∧ decode cX8_isFree 22 = .ok (.iaload, 1) ∧ decode cX8_isFree 23 = .ok (.ifCond .ne 7, 3) ∧ decode cX8_isFree 26 = .ok (.iconst 1, 1) ∧ decode cX8_isFree 27 = .ok (.goto 4, 3) ∧ decode cX8_isFree 30 = .ok (.iconst 0, 1) ∧ decode cX8_isFree 31 = .ok (.ireturn, 1) := by decide +kernel
theorem eX8_set_0 : decode cX8_set 0 = .ok (.aload_n 0, 1) ∧ decode cX8_set 1 = .ok (.iload_n 1, 1) ∧ decode cX8_set 2 = .ok (.iload_n 2, 1) ∧ decode cX8_set 3 = .ok (.invokevirtual 73, 3) ∧ decode cX8_set 6 = .ok (.istore 4, 2) ∧ decode cX8_set 8 = .ok (.aload_n 0, 1) ∧ decode cX8_set 9 = .ok (.getfield 27, 3) ∧ decode cX8_set 12 = .ok (.iload 4, 2) := by decide +kernel
theorem eX8_set_14 : decode cX8_set 14 = .ok (.iaload, 1) ∧ decode cX8_set 15 = .ok (.iload_n 3, 1) ∧ decode cX8_set 16 = .ok (.if_icmp .eq 16, 3) ∧ decode cX8_set 19 = .ok (.aload_n 0, 1) ∧ decode cX8_set 20 = .ok (.getfield 27, 3) ∧ decode cX8_set 23 = .ok (.iload 4, 2) ∧ decode cX8_set 25 = .ok (.iload_n 3, 1) ∧ decode cX8_set 26 = .ok (.iastore, 1) := by decide +kernel
theorem eX8_set_27 : decode cX8_set 27 = .ok (.aload_n 0, 1) ∧ decode cX8_set 28 = .ok (.iload_n 1, 1) ∧ decode cX8_set 29 = .ok (.invokevirtual 86, 3) ∧ decode cX8_set 32 = .ok (.return_, 1) := by decide +kernel
set_option maxHeartbeats 4000000 in
set_option maxRecDepth 100000 in
theorem k_x8_set (l : Launch) (D : va_G) (a : Nat → Nat) (p0 : Int) (p1 : Int) (p2 : Int) (sz : Nat) (s : MS) (o : MS) (h : m_x8_set p0 p1 p2 s = some o) : yWv l yX8_set cX8_set 5 none { frames := 1, cells := 0, slots := 0, locals := 60 } D sz [.ref (a 53), .int (i2 p0), .int (i2 p1), .int (i2 p2)] (CS D a s) (CS D a o) := by
  refine Met.ofW (cc := cX8_set) (maxL := 5) (ret := none) (by decide) rfl ?_
  intro p e s₀ m args below meth c s₁ B hml hv
  obtain ⟨rfl, ⟨hsz, hP, hK, hD0⟩, hN⟩ := hv
  have hx := B.exec
  have hb := B.bytes
  have hr := B.returns
  have hts := atoms_spec (ws := wz yX8_set cX8_set 5 none) B.pre
  have ht : ∀ w ∈ lw_gd, w.before _ s₀ = true := fun w h => hts w (List.mem_cons_of_mem _ h)
  have hown : s₀.vm.findClass RX8 = some m.cls := findClass_of_methodNamed B.named
  have hlocks := B.notSynchronized
  subst hsz
  have hD := hD0.self (sz := s₀.heap.size)
  generalize hAe : va_A (CS D a s) s₀.heap.size = A at hD ⊢
  have hA : ∀ q : Nat, s₀.heap.size ≤ q → A q := fun q h => by rw [← hAe]; exact Or.inr h
  have hS : va_S A s₀.heap s₀.heap [] := va_S.rf
  have hDD : ∀ t : MS, va_D A (CS D a t) := fun t => CW_D t hD
  have hl := lv_entry ([.ref (a 53), .int (i2 p0), .int (i2 p1), .int (i2 p2)]) (n := 5) (Nat.le_of_ble_eq_true rfl)
  rw [lg_entry_eq]
  generalize (lg_sl ([.ref (a 53), .int (i2 p0), .int (i2 p1), .int (i2 p2)]) ++ List.replicate (5 - (lg_sl ([.ref (a 53), .int (i2 p0), .int (i2 p1), .int (i2 p2)])).length) Slot.unset).toArray = ls at hl ⊢
  have hl : lv_has ls 5 [(0, .ref (a 53)), (1, .int (i2 p0)), (2, .int (i2 p1)), (3, .int (i2 p2))] := hl
  unfold m_x8_set at h
  refine y_head (pcJ := 32) (σ := MS) (fun u H locs ls => va_P D vwCl (CS D a u) H ∧ va_S A s₀.heap H locs ∧ lv_has ls 5 [] ∧ m_x8_set_J32 u = some o) (fun u => []) (fun u H locs ls hI => ?_) (fun J32 => ?_)
  · obtain ⟨hP, hS, hl, h⟩ := hI
    obtain ⟨s1, rfl⟩ : ∃ z, z = u := ⟨u, rfl⟩
    have hP : va_P D vwCl (CS D a s1) H := hP
    have hl : lv_has ls 5 [] := hl
    have h : m_x8_set_J32 s1 = some o := h
    unfold m_x8_set_J32 at h
    obtain rfl := Option.some.inj h
    exact W.vret hx hb hr (fun t ht hW => ⟨⟨(), rfl, trivial, by rw [ht]; exact hP, va_K.moved hW.alike hK, hDD _⟩, hS.F ht⟩) hS.2.2 eX8_set_27.2.2.2
  refine lv_aload_n hx hb eX8_set_0.1 rfl (lv_at hl 0 rfl) ?_
  refine lv_iload_n hx hb eX8_set_0.2.1 rfl (lv_at hl 1 rfl) ?_
  refine lv_iload_n hx hb eX8_set_0.2.2.1 rfl (lv_at hl 2 rfl) ?_
  obtain ⟨r3, hc2, h⟩ := bn_e h
  refine ycV (r0 := i2 r3) (As := [.int (i2 p0), .int (i2 p1)]) (rest := []) (C := RX8) (n := 2) ⟨hx, hb, hml, hown, ht⟩ (k_x8_slot l D a p0 p1 _ _ hc2) (zgV ml_X8_73 im_X8_slot se_X8_slot in_X8 co_X8_slot) rfl rfl (by decide +kernel) ⟨Nat.le_of_ble_eq_true rfl, Nat.le_of_ble_eq_true rfl⟩ hN hK hP hS 53 CW_53 rfl rfl rfl hl.1 rfl (Nat.le_of_ble_eq_true rfl) eX8_set_0.2.2.2.1 ⟨Nat.le_of_ble_eq_true rfl, Nat.le_of_ble_eq_true rfl⟩ (fun H locs hP hS => ?_)
  refine lv_istore (lv' := [(4, .int (i2 r3)), (0, .ref (a 53)), (1, .int (i2 p0)), (2, .int (i2 p1)), (3, .int (i2 p2))]) hx hb eX8_set_0.2.2.2.2.1 hl (by decide) rfl (fun ls hl => ?_)
  refine lv_aload_n hx hb eX8_set_0.2.2.2.2.2.1 rfl (lv_at hl 1 rfl) ?_
  refine va_get (D := D) (ci := 8) (v := .ref (a 59)) (C := RX8) (T := TX8) (N := 11) hx hb ht inX8 hown hK hP 53 CW_53 rfl 8 (by decide) (ht (.fieldLink RX8 27 "CloneVolumes$State" "values" "[I") fl_X8_27) (fun _ h9 => h9) rfl eX8_set_0.2.2.2.2.2.2.1 ?_
  refine lv_iload hx hb eX8_set_0.2.2.2.2.2.2.2 (lv_at hl 0 rfl) ?_
  obtain ⟨y4, ey4, iy4, h⟩ := rdI_e h
  refine ya_iald (i := r3) hx hb hK hP 59 0 CW_59 rfl (by decide) ey4 iy4 eX8_set_14.1 ?_
  refine lv_iload_n hx hb eX8_set_14.2.1 rfl (lv_at hl 4 rfl) ?_
  obtain ⟨hr5, h⟩ := rg_e h
  obtain ⟨hr6, h⟩ := rg_e h
  refine lv_icmp_eq (tgt := 32) hx hb eX8_set_14.2.2.1 (by decide) (fun c7 => ?_) (fun c7 => ?_)
  · have h := if_t ((i2_eq (x := y4) (y := p2) hr5 hr6).mp c7) h
    exact J32 s _ _ _ ⟨hP, hS, lv_sub hl [] rfl, h⟩
  · have h := if_f (mt (i2_eq (x := y4) (y := p2) hr5 hr6).mpr c7) h
    refine lv_aload_n hx hb eX8_set_14.2.2.2.1 rfl (lv_at hl 1 rfl) ?_
    refine va_get (D := D) (ci := 8) (v := .ref (a 59)) (C := RX8) (T := TX8) (N := 11) hx hb ht inX8 hown hK hP 53 CW_53 rfl 8 (by decide) (ht (.fieldLink RX8 27 "CloneVolumes$State" "values" "[I") fl_X8_27) (fun _ h9 => h9) rfl eX8_set_14.2.2.2.2.1 ?_
    refine lv_iload hx hb eX8_set_14.2.2.2.2.2.1 (lv_at hl 0 rfl) ?_
    refine lv_iload_n hx hb eX8_set_14.2.2.2.2.2.2.1 rfl (lv_at hl 4 rfl) ?_
    obtain ⟨hi8, h⟩ := inb_e h
    refine ya_iast (i := r3) (x := p2) hx hb hK hP (hDD _) hS 59 0 CW_59 rfl (by decide) hi8 eX8_set_14.2.2.2.2.2.2.2 (CW_w59 _) (fun H locs hP hS => ?_)
    obtain ⟨s9, hs9, h⟩ := st_e h
    rw [hs9] at hP
    refine lv_aload_n hx hb eX8_set_27.1 rfl (lv_at hl 1 rfl) ?_
    refine lv_iload_n hx hb eX8_set_27.2.1 rfl (lv_at hl 2 rfl) ?_
    obtain ⟨s11, hc10, h⟩ := bn_e h
    refine ywVv (As := [.int (i2 p0)]) (rest := []) (C := RX8) (n := 1) (ws' := CS D a s11) ⟨hx, hb, hml, hown, ht⟩ (k_x8_mark l D a p0 _ _ _ hc10) (zgV ml_X8_86 im_X8_mark se_X8_mark in_X8 co_X8_mark) rfl rfl (by decide +kernel) ⟨Nat.le_of_ble_eq_true rfl, Nat.le_of_ble_eq_true rfl⟩ hN hK hP (hDD _) hS hA 53 CW_53 rfl rfl rfl hl.1 rfl (Nat.le_of_ble_eq_true rfl) eX8_set_27.2.2.1 ⟨Nat.le_of_ble_eq_true rfl, Nat.le_of_ble_eq_true rfl⟩ (fun H locs hP hS => ?_)
    exact J32 s11 _ _ _ ⟨hP, hS, lv_sub hl [] rfl, h⟩
set_option maxHeartbeats 4000000 in
set_option maxRecDepth 100000 in
theorem k_x1_plantLow (l : Launch) (D : va_G) (a : Nat → Nat) (p0 : Int) (p1 : Int) (p2 : Int) (sz : Nat) (s : MS) (o : MS) (h : m_x1_plantLow p0 p1 p2 s = some o) : yWv l yX1_plantLow cX1_plantLow 7 none { frames := 2, cells := 0, slots := 0, locals := 120 } D sz [.ref (a 49), .int (i2 p0), .int (i2 p1), .int (i2 p2)] (CS D a s) (CS D a o) := by
  refine Met.ofW (cc := cX1_plantLow) (maxL := 7) (ret := none) (by decide) rfl ?_
  intro p e s₀ m args below meth c s₁ B hml hv
  obtain ⟨rfl, ⟨hsz, hP, hK, hD0⟩, hN⟩ := hv
  have hx := B.exec
  have hb := B.bytes
  have hr := B.returns
  have hts := atoms_spec (ws := wz yX1_plantLow cX1_plantLow 7 none) B.pre
  have ht : ∀ w ∈ lw_gd, w.before _ s₀ = true := fun w h => hts w (List.mem_cons_of_mem _ h)
  have hown : s₀.vm.findClass RX1 = some m.cls := findClass_of_methodNamed B.named
  have hlocks := B.notSynchronized
  subst hsz
  have hD := hD0.self (sz := s₀.heap.size)
  generalize hAe : va_A (CS D a s) s₀.heap.size = A at hD ⊢
  have hA : ∀ q : Nat, s₀.heap.size ≤ q → A q := fun q h => by rw [← hAe]; exact Or.inr h
  have hS : va_S A s₀.heap s₀.heap [] := va_S.rf
  have hDD : ∀ t : MS, va_D A (CS D a t) := fun t => CW_D t hD
  have hl := lv_entry ([.ref (a 49), .int (i2 p0), .int (i2 p1), .int (i2 p2)]) (n := 7) (Nat.le_of_ble_eq_true rfl)
  rw [lg_entry_eq]
  generalize (lg_sl ([.ref (a 49), .int (i2 p0), .int (i2 p1), .int (i2 p2)]) ++ List.replicate (7 - (lg_sl ([.ref (a 49), .int (i2 p0), .int (i2 p1), .int (i2 p2)])).length) Slot.unset).toArray = ls at hl ⊢
  have hl : lv_has ls 7 [(0, .ref (a 49)), (1, .int (i2 p0)), (2, .int (i2 p1)), (3, .int (i2 p2))] := hl
  unfold m_x1_plantLow at h
  refine y_loop (pcJ := 35) (σ := Int × Int × Int × Int × Int × MS) (fun n u H locs ls => va_P D vwCl (CS D a u.2.2.2.2.2) H ∧ va_S A s₀.heap H locs ∧ lv_has ls 7 [(0, .ref (a 49)), (1, .int (i2 u.1)), (2, .int (i2 u.2.1)), (3, .int (i2 u.2.2.1)), (5, .int (i2 u.2.2.2.1)), (6, .int (i2 u.2.2.2.2.1))] ∧ m_x1_plantLow_L35 n u.1 u.2.1 u.2.2.1 u.2.2.2.1 u.2.2.2.2.1 u.2.2.2.2.2 = some o) (fun u => []) (fun u H locs ls hI => by obtain ⟨_, _, _, h⟩ := hI; cases h) (fun n35 ih35 u H locs ls hI => ?_) (fun J35 => ?_)
  · obtain ⟨hP, hS, hl, h⟩ := hI
    obtain ⟨x1, x2, x3, x4, x5, s6⟩ := u
    have hP : va_P D vwCl (CS D a s6) H := hP
    have hl : lv_has ls 7 [(0, .ref (a 49)), (1, .int (i2 x1)), (2, .int (i2 x2)), (3, .int (i2 x3)), (5, .int (i2 x4)), (6, .int (i2 x5))] := hl
    have h : m_x1_plantLow_b35 (m_x1_plantLow_L35 n35) x1 x2 x3 x4 x5 s6 = some o := h
    unfold m_x1_plantLow_b35 at h
    refine y_head (pcJ := 78) (σ := Int × Int × Int × Int × Int × Int × MS) (fun u H locs ls => va_P D vwCl (CS D a u.2.2.2.2.2.2) H ∧ va_S A s₀.heap H locs ∧ lv_has ls 7 [(0, .ref (a 49)), (1, .int (i2 u.1)), (2, .int (i2 u.2.1)), (3, .int (i2 u.2.2.1)), (6, .int (i2 u.2.2.2.1))] ∧ m_x1_plantLow_J78 (m_x1_plantLow_L35 n35) u.1 u.2.1 u.2.2.1 u.2.2.2.1 u.2.2.2.2.1 u.2.2.2.2.2.1 u.2.2.2.2.2.2 = some o) (fun u => [.int (i2 u.2.2.2.2.1), .int (i2 u.2.2.2.2.2.1)]) (fun u H locs ls hI => ?_) (fun J78 => ?_)
    · obtain ⟨hP, hS, hl, h⟩ := hI
      obtain ⟨x7, x8, x9, x10, x11, x12, s13⟩ := u
      have hP : va_P D vwCl (CS D a s13) H := hP
      have hl : lv_has ls 7 [(0, .ref (a 49)), (1, .int (i2 x7)), (2, .int (i2 x8)), (3, .int (i2 x9)), (6, .int (i2 x10))] := hl
      have h : m_x1_plantLow_J78 (m_x1_plantLow_L35 n35) x7 x8 x9 x10 x11 x12 s13 = some o := h
      unfold m_x1_plantLow_J78 at h
      refine lv_iadd hx hb eX1_plantLow_74.2.2.1 ?_
      refine z_topi (y := i2 (x12 + x11)) (i2_add x12 x11) ?_
      refine lv_istore (lv' := [(5, .int (i2 (x12 + x11))), (0, .ref (a 49)), (1, .int (i2 x7)), (2, .int (i2 x8)), (3, .int (i2 x9)), (6, .int (i2 x10))]) hx hb eX1_plantLow_74.2.2.2.1 hl (by decide) rfl (fun ls hl => ?_)
      refine lv_iinc (v := i2 (x10 + 1)) (lv' := [(6, .int (i2 (x10 + 1))), (5, .int (i2 (x12 + x11))), (0, .ref (a 49)), (1, .int (i2 x7)), (2, .int (i2 x8)), (3, .int (i2 x9))]) hx hb eX1_plantLow_74.2.2.2.2.1 hl (k := 5) rfl (i2_add x10 1) (by decide) rfl (fun ls hl => ?_)
      refine lv_goto (tgt := 35) hx hb eX1_plantLow_74.2.2.2.2.2.1 (by decide) ?_
      exact ih35 (x7, x8, x9, x12 + x11, x10 + 1, s13) _ _ _ ⟨hP, hS, lv_sub hl [2, 3, 4, 5, 1, 0] rfl, h⟩
    refine lv_iload hx hb eX1_plantLow_29.2.2.2.2.1 (lv_at hl 5 rfl) ?_
    refine lv_aload_n hx hb eX1_plantLow_29.2.2.2.2.2.1 rfl (lv_at hl 0 rfl) ?_
    refine va_get (D := D) (ci := 1) (v := .ref (a 53)) (C := RX1) (T := TX1) (N := 9) hx hb ht inX1 hown hK hP 49 CW_49 rfl 0 (by decide) (ht (.fieldLink RX1 12 "CloneVolumes$Forest" "now" "LCloneVolumes$State;") fl_X1_12) (fun _ h9 => h9) rfl eX1_plantLow_29.2.2.2.2.2.2.1 ?_
    refine va_get (D := D) (ci := 8) (v := .ref (a 57)) (C := RX8) (T := TX8) (N := 11) hx hb ht inX8 hown hK hP 53 CW_53 rfl 6 (by decide) (ht (.fieldLink RX1 155 "CloneVolumes$State" "size" "[I") fl_X1_155) (fun _ h9 => h9) rfl eX1_plantLow_29.2.2.2.2.2.2.2 ?_
    refine lv_iload_n hx hb eX1_plantLow_44.1 rfl (lv_at hl 1 rfl) ?_
    obtain ⟨y14, ey14, iy14, h⟩ := rdI_e h
    refine ya_iald (i := x1) hx hb hK hP 57 0 CW_57 rfl (by decide) ey14 iy14 eX1_plantLow_44.2.1 ?_
    obtain ⟨hr15, h⟩ := rg_e h
    obtain ⟨hr16, h⟩ := rg_e h
    refine lv_icmp_ge (tgt := 87) hx hb eX1_plantLow_44.2.2.1 (by decide) (fun c17 => ?_) (fun c17 => ?_)
    · have h := if_t ((i2_le (x := y14) (y := x5) hr16 hr15).mp c17) h
      refine lv_aload_n hx hb eX1_plantLow_74.2.2.2.2.2.2.1 rfl (lv_at hl 0 rfl) ?_
      refine va_get (D := D) (ci := 1) (v := .ref (a 53)) (C := RX1) (T := TX1) (N := 9) hx hb ht inX1 hown hK hP 49 CW_49 rfl 0 (by decide) (ht (.fieldLink RX1 12 "CloneVolumes$Forest" "now" "LCloneVolumes$State;") fl_X1_12) (fun _ h9 => h9) rfl eX1_plantLow_74.2.2.2.2.2.2.2 ?_
      refine lv_iload_n hx hb eX1_plantLow_91.1 rfl (lv_at hl 1 rfl) ?_
      refine lv_iload hx hb eX1_plantLow_91.2.1 (lv_at hl 4 rfl) ?_
      refine lv_iload_n hx hb eX1_plantLow_91.2.2.1 rfl (lv_at hl 2 rfl) ?_
      refine lv_iload_n hx hb eX1_plantLow_91.2.2.2.1 rfl (lv_at hl 3 rfl) ?_
      obtain ⟨s19, hc18, h⟩ := bn_e h
      refine ywVv (As := [.int (i2 x1), .int (i2 x4), .int (i2 x2), .int (i2 x3)]) (rest := []) (C := RX8) (n := 4) (ws' := CS D a s19) ⟨hx, hb, hml, hown, ht⟩ (k_x8_insert l D a x1 x4 x2 x3 _ _ _ hc18) (zgV ml_X1_258 im_X8_insert se_X8_insert in_X8 co_X8_insert) rfl rfl (by decide +kernel) ⟨Nat.le_of_ble_eq_true rfl, Nat.le_of_ble_eq_true rfl⟩ hN hK hP (hDD _) hS hA 53 CW_53 rfl rfl rfl hl.1 rfl (Nat.le_of_ble_eq_true rfl) eX1_plantLow_91.2.2.2.2.1 ⟨Nat.le_of_ble_eq_true rfl, Nat.le_of_ble_eq_true rfl⟩ (fun H locs hP hS => ?_)
      obtain rfl := Option.some.inj h
      exact W.vret hx hb hr (fun t ht hW => ⟨⟨(), rfl, trivial, by rw [ht]; exact hP, va_K.moved hW.alike hK, hDD _⟩, hS.F ht⟩) hS.2.2 eX1_plantLow_91.2.2.2.2.2.1
    · have h := if_f (mt (i2_le (x := y14) (y := x5) hr16 hr15).mpr c17) h
      refine lv_iload hx hb eX1_plantLow_44.2.2.2.1 (lv_at hl 4 rfl) ?_
      refine lv_aload_n hx hb eX1_plantLow_44.2.2.2.2.1 rfl (lv_at hl 0 rfl) ?_
      refine va_get (D := D) (ci := 1) (v := .ref (a 53)) (C := RX1) (T := TX1) (N := 9) hx hb ht inX1 hown hK hP 49 CW_49 rfl 0 (by decide) (ht (.fieldLink RX1 12 "CloneVolumes$Forest" "now" "LCloneVolumes$State;") fl_X1_12) (fun _ h9 => h9) rfl eX1_plantLow_44.2.2.2.2.2.1 ?_
      refine va_get (D := D) (ci := 8) (v := .ref (a 58)) (C := RX8) (T := TX8) (N := 11) hx hb ht inX8 hown hK hP 53 CW_53 rfl 7 (by decide) (ht (.fieldLink RX1 227 "CloneVolumes$State" "keys" "[I") fl_X1_227) (fun _ h9 => h9) rfl eX1_plantLow_44.2.2.2.2.2.2.1 ?_
      refine lv_aload_n hx hb eX1_plantLow_44.2.2.2.2.2.2.2 rfl (lv_at hl 0 rfl) ?_
      refine va_get (D := D) (ci := 1) (v := .ref (a 53)) (C := RX1) (T := TX1) (N := 9) hx hb ht inX1 hown hK hP 49 CW_49 rfl 0 (by decide) (ht (.fieldLink RX1 12 "CloneVolumes$Forest" "now" "LCloneVolumes$State;") fl_X1_12) (fun _ h9 => h9) rfl eX1_plantLow_59.1 ?_
      refine lv_iload_n hx hb eX1_plantLow_59.2.1 rfl (lv_at hl 1 rfl) ?_
      refine lv_iload hx hb eX1_plantLow_59.2.2.1 (lv_at hl 5 rfl) ?_
      obtain ⟨r21, hc20, h⟩ := bn_e h
      refine ycV (r0 := i2 r21) (As := [.int (i2 x1), .int (i2 x5)]) (rest := [.ref (a 58), .int (i2 x4)]) (C := RX8) (n := 2) ⟨hx, hb, hml, hown, ht⟩ (k_x8_slot l D a x1 x5 _ _ hc20) (zgV ml_X1_220 im_X8_slot se_X8_slot in_X8 co_X8_slot) rfl rfl (by decide +kernel) ⟨Nat.le_of_ble_eq_true rfl, Nat.le_of_ble_eq_true rfl⟩ hN hK hP hS 53 CW_53 rfl rfl rfl hl.1 rfl (Nat.le_of_ble_eq_true rfl) eX1_plantLow_59.2.2.2.1 ⟨Nat.le_of_ble_eq_true rfl, Nat.le_of_ble_eq_true rfl⟩ (fun H locs hP hS => ?_)
      obtain ⟨y22, ey22, iy22, h⟩ := rdI_e h
      refine ya_iald (i := r21) hx hb hK hP 58 0 CW_58 rfl (by decide) ey22 iy22 eX1_plantLow_59.2.2.2.2.1 ?_
      refine lv_iload_n hx hb eX1_plantLow_59.2.2.2.2.2.1 rfl (lv_at hl 2 rfl) ?_
      obtain ⟨hr23, h⟩ := rg_e h
      obtain ⟨hr24, h⟩ := rg_e h
      refine lv_icmp_ge (tgt := 77) hx hb eX1_plantLow_59.2.2.2.2.2.2.1 (by decide) (fun c25 => ?_) (fun c25 => ?_)
      · have h := if_t ((i2_le (x := x2) (y := y22) hr24 hr23).mp c25) h
        refine lv_iconst (v := 0) hx hb eX1_plantLow_74.2.1 (by decide) ?_
        exact J78 (x1, x2, x3, x5, 0, x4, s6) _ _ _ ⟨hP, hS, lv_sub hl [0, 1, 2, 3, 5] rfl, h⟩
      · have h := if_f (mt (i2_le (x := x2) (y := y22) hr24 hr23).mpr c25) h
        refine lv_iconst (v := 1) hx hb eX1_plantLow_59.2.2.2.2.2.2.2 (by decide) ?_
        refine lv_goto (tgt := 78) hx hb eX1_plantLow_74.1 (by decide) ?_
        exact J78 (x1, x2, x3, x5, 1, x4, s6) _ _ _ ⟨hP, hS, lv_sub hl [0, 1, 2, 3, 5] rfl, h⟩
  refine lv_aload_n hx hb eX1_plantLow_0.1 rfl (lv_at hl 0 rfl) ?_
  refine va_get (D := D) (ci := 1) (v := .ref (a 53)) (C := RX1) (T := TX1) (N := 9) hx hb ht inX1 hown hK hP 49 CW_49 rfl 0 (by decide) (ht (.fieldLink RX1 12 "CloneVolumes$Forest" "now" "LCloneVolumes$State;") fl_X1_12) (fun _ h9 => h9) rfl eX1_plantLow_0.2.1 ?_
  refine lv_iload_n hx hb eX1_plantLow_0.2.2.1 rfl (lv_at hl 1 rfl) ?_
  refine lv_iload_n hx hb eX1_plantLow_0.2.2.2.1 rfl (lv_at hl 2 rfl) ?_
  obtain ⟨r27, hc26, h⟩ := bn_e h
  refine ycV (r0 := i2 r27) (As := [.int (i2 p0), .int (i2 p1)]) (rest := []) (C := RX8) (n := 2) ⟨hx, hb, hml, hown, ht⟩ (k_x8_find l D a p0 p1 _ _ hc26) (zgV ml_X1_262 im_X8_find se_X8_find in_X8 co_X8_find) rfl rfl (by decide +kernel) ⟨Nat.le_of_ble_eq_true rfl, Nat.le_of_ble_eq_true rfl⟩ hN hK hP hS 53 CW_53 rfl rfl rfl hl.1 rfl (Nat.le_of_ble_eq_true rfl) eX1_plantLow_0.2.2.2.2.1 ⟨Nat.le_of_ble_eq_true rfl, Nat.le_of_ble_eq_true rfl⟩ (fun H locs hP hS => ?_)
  refine lv_istore (lv' := [(4, .int (i2 r27)), (0, .ref (a 49)), (1, .int (i2 p0)), (2, .int (i2 p1)), (3, .int (i2 p2))]) hx hb eX1_plantLow_0.2.2.2.2.2.1 hl (by decide) rfl (fun ls hl => ?_)
  refine lv_iload hx hb eX1_plantLow_0.2.2.2.2.2.2.1 (lv_at hl 0 rfl) ?_
  refine lv_iconst (v := (-1)) hx hb eX1_plantLow_0.2.2.2.2.2.2.2 (by decide) ?_
  obtain ⟨hr28, h⟩ := rg_e h
  refine lv_icmp_eq (tgt := 29) hx hb eX1_plantLow_14.1 (by decide) (fun c29 => ?_) (fun c29 => ?_)
  · rw [show ((-1) : Int32) = i2 (-1) from by decide] at c29
    have h := if_t ((i2_eq (x := r27) (y := (-1)) hr28 (by decide)).mp c29) h
    refine lv_iconst (v := 0) hx hb eX1_plantLow_29.1 (by decide) ?_
    refine lv_istore (lv' := [(5, .int 0), (4, .int (i2 r27)), (0, .ref (a 49)), (1, .int (i2 p0)), (2, .int (i2 p1)), (3, .int (i2 p2))]) hx hb eX1_plantLow_29.2.1 hl (by decide) rfl (fun ls hl => ?_)
    refine lv_iconst (v := 0) hx hb eX1_plantLow_29.2.2.1 (by decide) ?_
    refine lv_istore (lv' := [(6, .int 0), (5, .int 0), (4, .int (i2 r27)), (0, .ref (a 49)), (1, .int (i2 p0)), (2, .int (i2 p1)), (3, .int (i2 p2))]) hx hb eX1_plantLow_29.2.2.2.1 hl (by decide) rfl (fun ls hl => ?_)
    exact J35 FU (p0, p1, p2, 0, 0, s) _ _ _ ⟨hP, hS, lv_sub hl [3, 4, 5, 6, 1, 0] rfl, h⟩
  · rw [show ((-1) : Int32) = i2 (-1) from by decide] at c29
    have h := if_f (mt (i2_eq (x := r27) (y := (-1)) hr28 (by decide)).mpr c29) h
    refine lv_aload_n hx hb eX1_plantLow_14.2.1 rfl (lv_at hl 1 rfl) ?_
    refine va_get (D := D) (ci := 1) (v := .ref (a 53)) (C := RX1) (T := TX1) (N := 9) hx hb ht inX1 hown hK hP 49 CW_49 rfl 0 (by decide) (ht (.fieldLink RX1 12 "CloneVolumes$Forest" "now" "LCloneVolumes$State;") fl_X1_12) (fun _ h9 => h9) rfl eX1_plantLow_14.2.2.1 ?_
    refine lv_iload_n hx hb eX1_plantLow_14.2.2.2.1 rfl (lv_at hl 2 rfl) ?_
    refine lv_iload hx hb eX1_plantLow_14.2.2.2.2.1 (lv_at hl 0 rfl) ?_
    refine lv_iload_n hx hb eX1_plantLow_14.2.2.2.2.2.1 rfl (lv_at hl 4 rfl) ?_
    obtain ⟨s31, hc30, h⟩ := bn_e h
    refine ywVv (As := [.int (i2 p0), .int (i2 r27), .int (i2 p2)]) (rest := []) (C := RX8) (n := 3) (ws' := CS D a s31) ⟨hx, hb, hml, hown, ht⟩ (k_x8_set l D a p0 r27 p2 _ _ _ hc30) (zgV ml_X1_252 im_X8_set se_X8_set in_X8 co_X8_set) rfl rfl (by decide +kernel) ⟨Nat.le_of_ble_eq_true rfl, Nat.le_of_ble_eq_true rfl⟩ hN hK hP (hDD _) hS hA 53 CW_53 rfl rfl rfl hl.1 rfl (Nat.le_of_ble_eq_true rfl) eX1_plantLow_14.2.2.2.2.2.2.1 ⟨Nat.le_of_ble_eq_true rfl, Nat.le_of_ble_eq_true rfl⟩ (fun H locs hP hS => ?_)
    obtain rfl := Option.some.inj h
    exact W.vret hx hb hr (fun t ht hW => ⟨⟨(), rfl, trivial, by rw [ht]; exact hP, va_K.moved hW.alike hK, hDD _⟩, hS.F ht⟩) hS.2.2 eX1_plantLow_14.2.2.2.2.2.2.2
set_option maxHeartbeats 4000000 in
set_option maxRecDepth 100000 in
theorem k_x1_release_v2 (l : Launch) (D : va_G) (a : Nat → Nat) (p0 : Int) (sz : Nat) (s : MS) (o : (Int × MS)) (h : m_x1_release_v2 p0 s = some o) : yWi l yX1_release cX1_release 8 (some .int) { frames := 1, cells := 0, slots := 0, locals := 60 } D sz [.ref (a 49), .int (i2 p0), .ref (a 54)] (CS D a s) (CS D a o.2) (i2 o.1) := by
  refine Met.ofW (cc := cX1_release) (maxL := 8) (ret := (some .int)) (by decide) rfl ?_
  intro p e s₀ m args below meth c s₁ B hml hv
  obtain ⟨rfl, ⟨hsz, hP, hK, hD0⟩, hN⟩ := hv
  have hx := B.exec
  have hb := B.bytes
  have hr := B.returns
  have hts := atoms_spec (ws := wz yX1_release cX1_release 8 (some .int)) B.pre
  have ht : ∀ w ∈ lw_gd, w.before _ s₀ = true := fun w h => hts w (List.mem_cons_of_mem _ h)
  have hown : s₀.vm.findClass RX1 = some m.cls := findClass_of_methodNamed B.named
  have hlocks := B.notSynchronized
  subst hsz
  have hD := hD0.self (sz := s₀.heap.size)
  generalize hAe : va_A (CS D a s) s₀.heap.size = A at hD ⊢
  have hA : ∀ q : Nat, s₀.heap.size ≤ q → A q := fun q h => by rw [← hAe]; exact Or.inr h
  have hS : va_S A s₀.heap s₀.heap [] := va_S.rf
  have hDD : ∀ t : MS, va_D A (CS D a t) := fun t => CW_D t hD
  have hl := lv_entry ([.ref (a 49), .int (i2 p0), .ref (a 54)]) (n := 8) (Nat.le_of_ble_eq_true rfl)
  rw [lg_entry_eq]
  generalize (lg_sl ([.ref (a 49), .int (i2 p0), .ref (a 54)]) ++ List.replicate (8 - (lg_sl ([.ref (a 49), .int (i2 p0), .ref (a 54)])).length) Slot.unset).toArray = ls at hl ⊢
  have hl : lv_has ls 8 [(0, .ref (a 49)), (1, .int (i2 p0)), (2, .ref (a 54))] := hl
  unfold m_x1_release_v2 at h
  refine y_head (pcJ := 160) (σ := Int × MS) (fun u H locs ls => va_P D vwCl (CS D a u.2) H ∧ va_S A s₀.heap H locs ∧ lv_has ls 8 [(3, .int (i2 u.1))] ∧ m_x1_release_v2_J160 u.1 u.2 = some o) (fun u => []) (fun u H locs ls hI => ?_) (fun J160 => ?_)
  · obtain ⟨hP, hS, hl, h⟩ := hI
    obtain ⟨x1, s2⟩ := u
    have hP : va_P D vwCl (CS D a s2) H := hP
    have hl : lv_has ls 8 [(3, .int (i2 x1))] := hl
    have h : m_x1_release_v2_J160 x1 s2 = some o := h
    unfold m_x1_release_v2_J160 at h
    refine lv_iload_n hx hb eX1_release_151.2.2.2.1 rfl (lv_at hl 0 rfl) ?_
    obtain rfl := Option.some.inj h
    exact W.iret (v := (i2 x1)) hx hb hr (fun t ht hW => ⟨⟨_, (), rfl, rfl, by rw [ht]; exact hP, va_K.moved hW.alike hK, hDD _⟩, hS.F ht⟩) hS.2.2 eX1_release_151.2.2.2.2.1
  refine y_loop (pcJ := 28) (σ := Int × Int × MS) (fun n u H locs ls => va_P D vwCl (CS D a u.2.2) H ∧ va_S A s₀.heap H locs ∧ lv_has ls 8 [(0, .ref (a 49)), (2, .ref (a 54)), (3, .int (i2 u.1)), (4, .int (i2 u.2.1))] ∧ m_x1_release_v2_L28 n u.1 u.2.1 u.2.2 = some o) (fun u => []) (fun u H locs ls hI => by obtain ⟨_, _, _, h⟩ := hI; cases h) (fun n28 ih28 u H locs ls hI => ?_) (fun J28 => ?_)
  · obtain ⟨hP, hS, hl, h⟩ := hI
    obtain ⟨x3, x4, s5⟩ := u
    have hP : va_P D vwCl (CS D a s5) H := hP
    have hl : lv_has ls 8 [(0, .ref (a 49)), (2, .ref (a 54)), (3, .int (i2 x3)), (4, .int (i2 x4))] := hl
    have h : m_x1_release_v2_b28 (m_x1_release_v2_L28 n28) x3 x4 s5 = some o := h
    unfold m_x1_release_v2_b28 at h
    refine y_loop (pcJ := 83) (σ := Int × Int × Int × Int × MS) (fun n u H locs ls => va_P D vwCl (CS D a u.2.2.2.2) H ∧ va_S A s₀.heap H locs ∧ lv_has ls 8 [(0, .ref (a 49)), (2, .ref (a 54)), (3, .int (i2 u.1)), (4, .int (i2 u.2.1)), (5, .int (i2 u.2.2.1)), (6, .int (i2 u.2.2.2.1))] ∧ m_x1_release_v2_L83 (m_x1_release_v2_L28 n28) n u.1 u.2.1 u.2.2.1 u.2.2.2.1 u.2.2.2.2 = some o) (fun u => []) (fun u H locs ls hI => by obtain ⟨_, _, _, h⟩ := hI; cases h) (fun n83 ih83 u H locs ls hI => ?_) (fun J83 => ?_)
    · obtain ⟨hP, hS, hl, h⟩ := hI
      obtain ⟨x6, x7, x8, x9, s10⟩ := u
      have hP : va_P D vwCl (CS D a s10) H := hP
      have hl : lv_has ls 8 [(0, .ref (a 49)), (2, .ref (a 54)), (3, .int (i2 x6)), (4, .int (i2 x7)), (5, .int (i2 x8)), (6, .int (i2 x9))] := hl
      have h : m_x1_release_v2_b83 (m_x1_release_v2_L28 n28) (m_x1_release_v2_L83 (m_x1_release_v2_L28 n28) n83) x6 x7 x8 x9 s10 = some o := h
      unfold m_x1_release_v2_b83 at h
      refine y_head (pcJ := 148) (σ := Int × Int × Int × Int × MS) (fun u H locs ls => va_P D vwCl (CS D a u.2.2.2.2) H ∧ va_S A s₀.heap H locs ∧ lv_has ls 8 [(0, .ref (a 49)), (2, .ref (a 54)), (3, .int (i2 u.1)), (4, .int (i2 u.2.1)), (5, .int (i2 u.2.2.1)), (6, .int (i2 u.2.2.2.1))] ∧ m_x1_release_v2_J148 (m_x1_release_v2_L28 n28) (m_x1_release_v2_L83 (m_x1_release_v2_L28 n28) n83) u.1 u.2.1 u.2.2.1 u.2.2.2.1 u.2.2.2.2 = some o) (fun u => []) (fun u H locs ls hI => ?_) (fun J148 => ?_)
      · obtain ⟨hP, hS, hl, h⟩ := hI
        obtain ⟨x11, x12, x13, x14, s15⟩ := u
        have hP : va_P D vwCl (CS D a s15) H := hP
        have hl : lv_has ls 8 [(0, .ref (a 49)), (2, .ref (a 54)), (3, .int (i2 x11)), (4, .int (i2 x12)), (5, .int (i2 x13)), (6, .int (i2 x14))] := hl
        have h : m_x1_release_v2_J148 (m_x1_release_v2_L28 n28) (m_x1_release_v2_L83 (m_x1_release_v2_L28 n28) n83) x11 x12 x13 x14 s15 = some o := h
        unfold m_x1_release_v2_J148 at h
        refine lv_iinc (v := i2 (x14 + 1)) (lv' := [(6, .int (i2 (x14 + 1))), (0, .ref (a 49)), (2, .ref (a 54)), (3, .int (i2 x11)), (4, .int (i2 x12)), (5, .int (i2 x13))]) hx hb eX1_release_134.2.2.2.2.2.2.2 hl (k := 5) rfl (i2_add x14 1) (by decide) rfl (fun ls hl => ?_)
        refine lv_goto (tgt := 83) hx hb eX1_release_151.1 (by decide) ?_
        exact ih83 (x11, x12, x13, x14 + 1, s15) _ _ _ ⟨hP, hS, lv_sub hl [1, 2, 3, 4, 5, 0] rfl, h⟩
      refine lv_iload hx hb eX1_release_78.2.2.2.1 (lv_at hl 5 rfl) ?_
      refine lv_iload hx hb eX1_release_78.2.2.2.2.1 (lv_at hl 4 rfl) ?_
      obtain ⟨hr16, h⟩ := rg_e h
      obtain ⟨hr17, h⟩ := rg_e h
      refine lv_icmp_ge (tgt := 154) hx hb eX1_release_78.2.2.2.2.2.1 (by decide) (fun c18 => ?_) (fun c18 => ?_)
      · have h := if_t ((i2_le (x := x8) (y := x9) hr17 hr16).mp c18) h
        refine lv_iinc (v := i2 (x7 + 1)) (lv' := [(4, .int (i2 (x7 + 1))), (0, .ref (a 49)), (2, .ref (a 54)), (3, .int (i2 x6)), (5, .int (i2 x8)), (6, .int (i2 x9))]) hx hb eX1_release_151.2.1 hl (k := 3) rfl (i2_add x7 1) (by decide) rfl (fun ls hl => ?_)
        refine lv_goto (tgt := 28) hx hb eX1_release_151.2.2.1 (by decide) ?_
        exact ih28 (x6, x7 + 1, s10) _ _ _ ⟨hP, hS, lv_sub hl [1, 2, 3, 0] rfl, h⟩
      · have h := if_f (mt (i2_le (x := x8) (y := x9) hr17 hr16).mpr c18) h
        refine lv_aload_n hx hb eX1_release_78.2.2.2.2.2.2.1 rfl (lv_at hl 0 rfl) ?_
        refine va_get (D := D) (ci := 1) (v := .ref (a 53)) (C := RX1) (T := TX1) (N := 9) hx hb ht inX1 hown hK hP 49 CW_49 rfl 0 (by decide) (ht (.fieldLink RX1 12 "CloneVolumes$Forest" "now" "LCloneVolumes$State;") fl_X1_12) (fun _ h9 => h9) rfl eX1_release_78.2.2.2.2.2.2.2 ?_
        refine va_get (D := D) (ci := 8) (v := .ref (a 59)) (C := RX8) (T := TX8) (N := 11) hx hb ht inX8 hown hK hP 53 CW_53 rfl 8 (by decide) (ht (.fieldLink RX1 217 "CloneVolumes$State" "values" "[I") fl_X1_217) (fun _ h9 => h9) rfl eX1_release_94.1 ?_
        refine lv_aload_n hx hb eX1_release_94.2.1 rfl (lv_at hl 0 rfl) ?_
        refine va_get (D := D) (ci := 1) (v := .ref (a 53)) (C := RX1) (T := TX1) (N := 9) hx hb ht inX1 hown hK hP 49 CW_49 rfl 0 (by decide) (ht (.fieldLink RX1 12 "CloneVolumes$Forest" "now" "LCloneVolumes$State;") fl_X1_12) (fun _ h9 => h9) rfl eX1_release_94.2.2.1 ?_
        refine lv_aload_n hx hb eX1_release_94.2.2.2.1 rfl (lv_at hl 0 rfl) ?_
        refine va_get (D := D) (ci := 1) (v := .ref (a 50)) (C := RX1) (T := TX1) (N := 9) hx hb ht inX1 hown hK hP 49 CW_49 rfl 6 (by decide) (ht (.fieldLink RX1 37 "CloneVolumes$Forest" "chain" "[I") fl_X1_37) (fun _ h9 => h9) rfl eX1_release_94.2.2.2.2.1 ?_
        refine lv_iload hx hb eX1_release_94.2.2.2.2.2.1 (lv_at hl 3 rfl) ?_
        obtain ⟨y19, ey19, iy19, h⟩ := rdI_e h
        refine ya_iald (i := x7) hx hb hK hP 50 0 CW_50 rfl (by decide) ey19 iy19 eX1_release_94.2.2.2.2.2.2.1 ?_
        refine lv_iload hx hb eX1_release_94.2.2.2.2.2.2.2 (lv_at hl 5 rfl) ?_
        obtain ⟨r21, hc20, h⟩ := bn_e h
        refine ycV (r0 := i2 r21) (As := [.int (i2 y19), .int (i2 x9)]) (rest := [.ref (a 59)]) (C := RX8) (n := 2) ⟨hx, hb, hml, hown, ht⟩ (k_x8_slot l D a y19 x9 _ _ hc20) (zgV ml_X1_220 im_X8_slot se_X8_slot in_X8 co_X8_slot) rfl rfl (by decide +kernel) ⟨Nat.le_of_ble_eq_true rfl, Nat.le_of_ble_eq_true rfl⟩ hN hK hP hS 53 CW_53 rfl rfl rfl hl.1 rfl (Nat.le_of_ble_eq_true rfl) eX1_release_110.1 ⟨Nat.le_of_ble_eq_true rfl, Nat.le_of_ble_eq_true rfl⟩ (fun H locs hP hS => ?_)
        obtain ⟨y22, ey22, iy22, h⟩ := rdI_e h
        refine ya_iald (i := r21) hx hb hK hP 59 0 CW_59 rfl (by decide) ey22 iy22 eX1_release_110.2.1 ?_
        refine lv_istore (lv' := [(7, .int (i2 y22)), (0, .ref (a 49)), (2, .ref (a 54)), (3, .int (i2 x6)), (4, .int (i2 x7)), (5, .int (i2 x8)), (6, .int (i2 x9))]) hx hb eX1_release_110.2.2.1 hl (by decide) rfl (fun ls hl => ?_)
        refine lv_aload_n hx hb eX1_release_110.2.2.2.1 rfl (lv_at hl 2 rfl) ?_
        refine lv_iload hx hb eX1_release_110.2.2.2.2.1 (lv_at hl 0 rfl) ?_
        refine lv_dup2_11 hx hb eX1_release_110.2.2.2.2.2.1 rfl rfl ?_
        obtain ⟨y23, ey23, iy23, h⟩ := rdI_e h
        refine ya_iald (i := y22) hx hb hK hP 54 0 CW_54 rfl (by decide) ey23 iy23 eX1_release_110.2.2.2.2.2.2.1 ?_
        refine lv_iconst (v := 1) hx hb eX1_release_110.2.2.2.2.2.2.2 (by decide) ?_
        refine lv_isub hx hb eX1_release_122.1 ?_
        refine z_topi (y := i2 (y23 - 1)) (i2_sub y23 1) ?_
        obtain ⟨hi24, h⟩ := inb_e h
        refine ya_iast (i := y22) (x := (y23 - 1)) hx hb hK hP (hDD _) hS 54 0 CW_54 rfl (by decide) hi24 eX1_release_122.2.1 (CW_w54 _) (fun H locs hP hS => ?_)
        obtain ⟨s25, hs25, h⟩ := st_e h
        rw [hs25] at hP
        refine lv_aload_n hx hb eX1_release_122.2.2.1 rfl (lv_at hl 2 rfl) ?_
        refine lv_iload hx hb eX1_release_122.2.2.2.1 (lv_at hl 0 rfl) ?_
        obtain ⟨y26, ey26, iy26, h⟩ := rdI_e h
        refine ya_iald (i := y22) hx hb hK hP 54 0 CW_54 rfl (by decide) ey26 iy26 eX1_release_122.2.2.2.2.1 ?_
        obtain ⟨hr27, h⟩ := rg_e h
        refine lv_if_ne (tgt := 148) hx hb eX1_release_122.2.2.2.2.2.1 (by decide) (fun c28 => ?_) (fun c28 => ?_)
        · have h := if_f (mt (i2_eq (x := y26) (y := 0) hr27 (by decide)).mpr c28) h
          exact J148 (x6, x7, x8, x9, s25) _ _ _ ⟨hP, hS, lv_sub hl [1, 2, 3, 4, 5, 6] rfl, h⟩
        · have h := if_t ((i2_eq (x := y26) (y := 0) hr27 (by decide)).mp c28) h
          refine lv_iload_n hx hb eX1_release_122.2.2.2.2.2.2.1 rfl (lv_at hl 3 rfl) ?_
          refine lv_bipush (v := 48) hx hb eX1_release_122.2.2.2.2.2.2.2 (by decide) ?_
          obtain ⟨hr29, h⟩ := rg_e h
          refine lv_icmp_ge (tgt := 148) hx hb eX1_release_134.1 (by decide) (fun c30 => ?_) (fun c30 => ?_)
          · have h := if_t ((i2_le (x := 48) (y := x6) (by decide) hr29).mp c30) h
            exact J148 (x6, x7, x8, x9, s25) _ _ _ ⟨hP, hS, lv_sub hl [1, 2, 3, 4, 5, 6] rfl, h⟩
          · have h := if_f (mt (i2_le (x := 48) (y := x6) (by decide) hr29).mpr c30) h
            refine lv_aload_n hx hb eX1_release_134.2.1 rfl (lv_at hl 1 rfl) ?_
            refine va_get (D := D) (ci := 1) (v := .ref (a 50)) (C := RX1) (T := TX1) (N := 9) hx hb ht inX1 hown hK hP 49 CW_49 rfl 6 (by decide) (ht (.fieldLink RX1 37 "CloneVolumes$Forest" "chain" "[I") fl_X1_37) (fun _ h9 => h9) rfl eX1_release_134.2.2.1 ?_
            refine lv_iload_n hx hb eX1_release_134.2.2.2.1 rfl (lv_at hl 3 rfl) ?_
            refine lv_iload hx hb eX1_release_134.2.2.2.2.1 (lv_at hl 0 rfl) ?_
            obtain ⟨hi31, h⟩ := inb_e h
            refine ya_iast (i := x6) (x := y22) hx hb hK hP (hDD _) hS 50 0 CW_50 rfl (by decide) hi31 eX1_release_134.2.2.2.2.2.1 (CW_w50 _) (fun H locs hP hS => ?_)
            obtain ⟨s32, hs32, h⟩ := st_e h
            rw [hs32] at hP
            refine lv_iinc (v := i2 (x6 + 1)) (lv' := [(3, .int (i2 (x6 + 1))), (7, .int (i2 y22)), (0, .ref (a 49)), (2, .ref (a 54)), (4, .int (i2 x7)), (5, .int (i2 x8)), (6, .int (i2 x9))]) hx hb eX1_release_134.2.2.2.2.2.2.1 hl (k := 3) rfl (i2_add x6 1) (by decide) rfl (fun ls hl => ?_)
            exact J148 (x6 + 1, x7, x8, x9, s32) _ _ _ ⟨hP, hS, lv_sub hl [2, 3, 0, 4, 5, 6] rfl, h⟩
    refine y_head (pcJ := 78) (σ := Int × Int × Int × MS) (fun u H locs ls => va_P D vwCl (CS D a u.2.2.2) H ∧ va_S A s₀.heap H locs ∧ lv_has ls 8 [(0, .ref (a 49)), (2, .ref (a 54)), (3, .int (i2 u.1)), (4, .int (i2 u.2.1))] ∧ m_x1_release_v2_J78 (m_x1_release_v2_L28 n28) u.1 u.2.1 u.2.2.1 u.2.2.2 = some o) (fun u => [.int (i2 u.2.2.1)]) (fun u H locs ls hI => ?_) (fun J78 => ?_)
    · obtain ⟨hP, hS, hl, h⟩ := hI
      obtain ⟨x33, x34, x35, s36⟩ := u
      have hP : va_P D vwCl (CS D a s36) H := hP
      have hl : lv_has ls 8 [(0, .ref (a 49)), (2, .ref (a 54)), (3, .int (i2 x33)), (4, .int (i2 x34))] := hl
      have h : m_x1_release_v2_J78 (m_x1_release_v2_L28 n28) x33 x34 x35 s36 = some o := h
      unfold m_x1_release_v2_J78 at h
      refine lv_istore (lv' := [(5, .int (i2 x35)), (0, .ref (a 49)), (2, .ref (a 54)), (3, .int (i2 x33)), (4, .int (i2 x34))]) hx hb eX1_release_78.1 hl (by decide) rfl (fun ls hl => ?_)
      refine lv_iconst (v := 0) hx hb eX1_release_78.2.1 (by decide) ?_
      refine lv_istore (lv' := [(6, .int 0), (5, .int (i2 x35)), (0, .ref (a 49)), (2, .ref (a 54)), (3, .int (i2 x33)), (4, .int (i2 x34))]) hx hb eX1_release_78.2.2.1 hl (by decide) rfl (fun ls hl => ?_)
      exact J83 FU (x33, x34, x35, 0, s36) _ _ _ ⟨hP, hS, lv_sub hl [2, 3, 4, 5, 1, 0] rfl, h⟩
    refine lv_iload hx hb eX1_release_16.2.2.2.2.2.2.2 (lv_at hl 3 rfl) ?_
    refine lv_iload_n hx hb eX1_release_30.1 rfl (lv_at hl 2 rfl) ?_
    obtain ⟨hr37, h⟩ := rg_e h
    obtain ⟨hr38, h⟩ := rg_e h
    refine lv_icmp_ge (tgt := 160) hx hb eX1_release_30.2.1 (by decide) (fun c39 => ?_) (fun c39 => ?_)
    · have h := if_t ((i2_le (x := x3) (y := x4) hr38 hr37).mp c39) h
      exact J160 (x3, s5) _ _ _ ⟨hP, hS, lv_sub hl [2] rfl, h⟩
    · have h := if_f (mt (i2_le (x := x3) (y := x4) hr38 hr37).mpr c39) h
      refine lv_iload hx hb eX1_release_30.2.2.1 (lv_at hl 3 rfl) ?_
      refine lv_bipush (v := 48) hx hb eX1_release_30.2.2.2.1 (by decide) ?_
      obtain ⟨hr40, h⟩ := rg_e h
      refine lv_icmp_ge (tgt := 160) hx hb eX1_release_30.2.2.2.2.1 (by decide) (fun c41 => ?_) (fun c41 => ?_)
      · have h := if_t ((i2_le (x := 48) (y := x4) (by decide) hr40).mp c41) h
        exact J160 (x3, s5) _ _ _ ⟨hP, hS, lv_sub hl [2] rfl, h⟩
      · have h := if_f (mt (i2_le (x := 48) (y := x4) (by decide) hr40).mpr c41) h
        refine lv_aload_n hx hb eX1_release_30.2.2.2.2.2.1 rfl (lv_at hl 0 rfl) ?_
        refine va_get (D := D) (ci := 1) (v := .ref (a 53)) (C := RX1) (T := TX1) (N := 9) hx hb ht inX1 hown hK hP 49 CW_49 rfl 0 (by decide) (ht (.fieldLink RX1 12 "CloneVolumes$Forest" "now" "LCloneVolumes$State;") fl_X1_12) (fun _ h9 => h9) rfl eX1_release_30.2.2.2.2.2.2.1 ?_
        refine va_get (D := D) (ci := 8) (v := .ref (a 56)) (C := RX8) (T := TX8) (N := 11) hx hb ht inX8 hown hK hP 53 CW_53 rfl 5 (by decide) (ht (.fieldLink RX1 150 "CloneVolumes$State" "level" "[I") fl_X1_150) (fun _ h9 => h9) rfl eX1_release_30.2.2.2.2.2.2.2 ?_
        refine lv_aload_n hx hb eX1_release_48.1 rfl (lv_at hl 0 rfl) ?_
        refine va_get (D := D) (ci := 1) (v := .ref (a 50)) (C := RX1) (T := TX1) (N := 9) hx hb ht inX1 hown hK hP 49 CW_49 rfl 6 (by decide) (ht (.fieldLink RX1 37 "CloneVolumes$Forest" "chain" "[I") fl_X1_37) (fun _ h9 => h9) rfl eX1_release_48.2.1 ?_
        refine lv_iload hx hb eX1_release_48.2.2.1 (lv_at hl 3 rfl) ?_
        obtain ⟨y42, ey42, iy42, h⟩ := rdI_e h
        refine ya_iald (i := x4) hx hb hK hP 50 0 CW_50 rfl (by decide) ey42 iy42 eX1_release_48.2.2.2.1 ?_
        obtain ⟨y43, ey43, iy43, h⟩ := rdI_e h
        refine ya_iald (i := y42) hx hb hK hP 56 0 CW_56 rfl (by decide) ey43 iy43 eX1_release_48.2.2.2.2.1 ?_
        obtain ⟨hr44, h⟩ := rg_e h
        refine lv_if_le (tgt := 77) hx hb eX1_release_48.2.2.2.2.2.1 (by decide) (fun c45 => ?_) (fun c45 => ?_)
        · have h := if_t ((i2_le (x := y43) (y := 0) hr44 (by decide)).mp c45) h
          refine lv_iconst (v := 0) hx hb eX1_release_63.2.2.2.2.2.2.2 (by decide) ?_
          exact J78 (x3, x4, 0, s5) _ _ _ ⟨hP, hS, lv_sub hl [0, 1, 2, 3] rfl, h⟩
        · have h := if_f (mt (i2_le (x := y43) (y := 0) hr44 (by decide)).mpr c45) h
          refine lv_aload_n hx hb eX1_release_48.2.2.2.2.2.2.1 rfl (lv_at hl 0 rfl) ?_
          refine va_get (D := D) (ci := 1) (v := .ref (a 53)) (C := RX1) (T := TX1) (N := 9) hx hb ht inX1 hown hK hP 49 CW_49 rfl 0 (by decide) (ht (.fieldLink RX1 12 "CloneVolumes$Forest" "now" "LCloneVolumes$State;") fl_X1_12) (fun _ h9 => h9) rfl eX1_release_48.2.2.2.2.2.2.2 ?_
          refine va_get (D := D) (ci := 8) (v := .ref (a 57)) (C := RX8) (T := TX8) (N := 11) hx hb ht inX8 hown hK hP 53 CW_53 rfl 6 (by decide) (ht (.fieldLink RX1 155 "CloneVolumes$State" "size" "[I") fl_X1_155) (fun _ h9 => h9) rfl eX1_release_63.1 ?_
          refine lv_aload_n hx hb eX1_release_63.2.1 rfl (lv_at hl 0 rfl) ?_
          refine va_get (D := D) (ci := 1) (v := .ref (a 50)) (C := RX1) (T := TX1) (N := 9) hx hb ht inX1 hown hK hP 49 CW_49 rfl 6 (by decide) (ht (.fieldLink RX1 37 "CloneVolumes$Forest" "chain" "[I") fl_X1_37) (fun _ h9 => h9) rfl eX1_release_63.2.2.1 ?_
          refine lv_iload hx hb eX1_release_63.2.2.2.1 (lv_at hl 3 rfl) ?_
          obtain ⟨y46, ey46, iy46, h⟩ := rdI_e h
          refine ya_iald (i := x4) hx hb hK hP 50 0 CW_50 rfl (by decide) ey46 iy46 eX1_release_63.2.2.2.2.1 ?_
          obtain ⟨y47, ey47, iy47, h⟩ := rdI_e h
          refine ya_iald (i := y46) hx hb hK hP 57 0 CW_57 rfl (by decide) ey47 iy47 eX1_release_63.2.2.2.2.2.1 ?_
          refine lv_goto (tgt := 78) hx hb eX1_release_63.2.2.2.2.2.2.1 (by decide) ?_
          exact J78 (x3, x4, y47, s5) _ _ _ ⟨hP, hS, lv_sub hl [0, 1, 2, 3] rfl, h⟩
  refine y_head (pcJ := 25) (σ := Int × MS) (fun u H locs ls => va_P D vwCl (CS D a u.2) H ∧ va_S A s₀.heap H locs ∧ lv_has ls 8 [(0, .ref (a 49)), (2, .ref (a 54)), (3, .int (i2 u.1))] ∧ m_x1_release_v2_J25 u.1 u.2 = some o) (fun u => []) (fun u H locs ls hI => ?_) (fun J25 => ?_)
  · obtain ⟨hP, hS, hl, h⟩ := hI
    obtain ⟨x48, s49⟩ := u
    have hP : va_P D vwCl (CS D a s49) H := hP
    have hl : lv_has ls 8 [(0, .ref (a 49)), (2, .ref (a 54)), (3, .int (i2 x48))] := hl
    have h : m_x1_release_v2_J25 x48 s49 = some o := h
    unfold m_x1_release_v2_J25 at h
    refine lv_iconst (v := 0) hx hb eX1_release_16.2.2.2.2.2.1 (by decide) ?_
    refine lv_istore (lv' := [(4, .int 0), (0, .ref (a 49)), (2, .ref (a 54)), (3, .int (i2 x48))]) hx hb eX1_release_16.2.2.2.2.2.2.1 hl (by decide) rfl (fun ls hl => ?_)
    exact J28 FU (x48, 0, s49) _ _ _ ⟨hP, hS, lv_sub hl [1, 2, 3, 0] rfl, h⟩
  refine lv_iconst (v := 0) hx hb eX1_freedWith_31.2.2.1 (by decide) ?_
  refine lv_istore_n (lv' := [(3, .int 0), (0, .ref (a 49)), (1, .int (i2 p0)), (2, .ref (a 54))]) hx hb eX1_freedWith_31.2.2.2.1 rfl hl (by decide) rfl (fun ls hl => ?_)
  refine lv_aload_n hx hb eX1_freedWith_31.2.2.2.2.1 rfl (lv_at hl 3 rfl) ?_
  refine lv_iload_n hx hb eX1_freedWith_31.2.2.2.2.2.1 rfl (lv_at hl 2 rfl) ?_
  refine lv_dup2_11 hx hb eX1_freedWith_31.2.2.2.2.2.2.1 rfl rfl ?_
  obtain ⟨y50, ey50, iy50, h⟩ := rdI_e h
  refine ya_iald (i := p0) hx hb hK hP 54 0 CW_54 rfl (by decide) ey50 iy50 eX1_freedWith_31.2.2.2.2.2.2.2 ?_
  refine lv_iconst (v := 1) hx hb eX1_release_6.1 (by decide) ?_
  refine lv_isub hx hb eX1_release_6.2.1 ?_
  refine z_topi (y := i2 (y50 - 1)) (i2_sub y50 1) ?_
  obtain ⟨hi51, h⟩ := inb_e h
  refine ya_iast (i := p0) (x := (y50 - 1)) hx hb hK hP (hDD _) hS 54 0 CW_54 rfl (by decide) hi51 eX1_release_6.2.2.1 (CW_w54 _) (fun H locs hP hS => ?_)
  obtain ⟨s52, hs52, h⟩ := st_e h
  rw [hs52] at hP
  refine lv_aload_n hx hb eX1_release_6.2.2.2.1 rfl (lv_at hl 3 rfl) ?_
  refine lv_iload_n hx hb eX1_release_6.2.2.2.2.1 rfl (lv_at hl 2 rfl) ?_
  obtain ⟨y53, ey53, iy53, h⟩ := rdI_e h
  refine ya_iald (i := p0) hx hb hK hP 54 0 CW_54 rfl (by decide) ey53 iy53 eX1_release_6.2.2.2.2.2.1 ?_
  obtain ⟨hr54, h⟩ := rg_e h
  refine lv_if_ne (tgt := 25) hx hb eX1_release_6.2.2.2.2.2.2.1 (by decide) (fun c55 => ?_) (fun c55 => ?_)
  · have h := if_f (mt (i2_eq (x := y53) (y := 0) hr54 (by decide)).mpr c55) h
    exact J25 (0, s52) _ _ _ ⟨hP, hS, lv_sub hl [1, 3, 0] rfl, h⟩
  · have h := if_t ((i2_eq (x := y53) (y := 0) hr54 (by decide)).mp c55) h
    refine lv_aload_n hx hb eX1_release_6.2.2.2.2.2.2.2 rfl (lv_at hl 1 rfl) ?_
    refine va_get (D := D) (ci := 1) (v := .ref (a 50)) (C := RX1) (T := TX1) (N := 9) hx hb ht inX1 hown hK hP 49 CW_49 rfl 6 (by decide) (ht (.fieldLink RX1 37 "CloneVolumes$Forest" "chain" "[I") fl_X1_37) (fun _ h9 => h9) rfl eX1_release_16.1 ?_
    refine lv_iload_n hx hb eX1_release_16.2.1 rfl (lv_at hl 0 rfl) ?_
    refine lv_iload_n hx hb eX1_release_16.2.2.1 rfl (lv_at hl 2 rfl) ?_
    obtain ⟨hi56, h⟩ := inb_e h
    refine ya_iast (i := 0) (x := p0) hx hb hK hP (hDD _) hS 50 0 CW_50 rfl (by decide) hi56 eX1_release_16.2.2.2.1 (CW_w50 _) (fun H locs hP hS => ?_)
    obtain ⟨s57, hs57, h⟩ := st_e h
    rw [hs57] at hP
    refine lv_iinc (v := 1) (lv' := [(3, .int 1), (0, .ref (a 49)), (1, .int (i2 p0)), (2, .ref (a 54))]) hx hb eX1_release_16.2.2.2.2.1 hl (k := 0) rfl (by decide) (by decide) rfl (fun ls hl => ?_)
    exact J25 (1, s57) _ _ _ ⟨hP, hS, lv_sub hl [1, 3, 0] rfl, h⟩
set_option maxHeartbeats 4000000 in
set_option maxRecDepth 100000 in
theorem k_x8_isFree (l : Launch) (D : va_G) (a : Nat → Nat) (p0 : Int) (s : MS) (o : Int) (h : m_x8_isFree p0 s = some o) : yRi l yX8_isFree cX8_isFree 2 (some .boolean) { frames := 1, cells := 0, slots := 0, locals := 60 } D [.ref (a 53), .int (i2 p0)] (CS D a s) (i2 o) := by
  refine Met.ofW (cc := cX8_isFree) (maxL := 2) (ret := (some .boolean)) (by decide) rfl ?_
  intro p e s₀ m args below meth c s₁ B hml hv
  obtain ⟨rfl, ⟨hP, hK⟩, hN⟩ := hv
  have hx := B.exec
  have hb := B.bytes
  have hr := B.returns
  have hts := atoms_spec (ws := wz yX8_isFree cX8_isFree 2 (some .boolean)) B.pre
  have ht : ∀ w ∈ lw_gd, w.before _ s₀ = true := fun w h => hts w (List.mem_cons_of_mem _ h)
  have hown : s₀.vm.findClass RX8 = some m.cls := findClass_of_methodNamed B.named
  have hlocks := B.notSynchronized
  have hS : va_S (fun _ => False) s₀.heap s₀.heap [] := va_S.rf
  have hl := lv_entry ([.ref (a 53), .int (i2 p0)]) (n := 2) (Nat.le_of_ble_eq_true rfl)
  rw [lg_entry_eq]
  generalize (lg_sl ([.ref (a 53), .int (i2 p0)]) ++ List.replicate (2 - (lg_sl ([.ref (a 53), .int (i2 p0)])).length) Slot.unset).toArray = ls at hl ⊢
  have hl : lv_has ls 2 [(0, .ref (a 53)), (1, .int (i2 p0))] := hl
  unfold m_x8_isFree at h
  refine y_head (pcJ := 31) (σ := Int) (fun u H locs ls => va_P D vwCl (CS D a s) H ∧ va_S (fun _ => False) s₀.heap H locs ∧ lv_has ls 2 [] ∧ m_x8_isFree_J31 s u = some o) (fun u => [.int (i2 u)]) (fun u H locs ls hI => ?_) (fun J31 => ?_)
  · obtain ⟨hP, hS, hl, h⟩ := hI
    obtain ⟨x1, rfl⟩ : ∃ z, z = u := ⟨u, rfl⟩
    have hP : va_P D vwCl (CS D a s) H := hP
    have hl : lv_has ls 2 [] := hl
    have h : m_x8_isFree_J31 s x1 = some o := h
    unfold m_x8_isFree_J31 at h
    obtain ⟨hb2, h⟩ := bo_e h
    obtain rfl := Option.some.inj h
    exact W.zret (v := (i2 x1)) hx hb hr (bo_n hb2) (fun t ht hW => ⟨⟨_, (), rfl, rfl, trivial⟩, hS.F ht⟩) hS.2.2 eX8_isFree_18.2.2.2.2.2.2.2
  refine y_head (pcJ := 30) (σ := Unit) (fun u H locs ls => va_P D vwCl (CS D a s) H ∧ va_S (fun _ => False) s₀.heap H locs ∧ lv_has ls 2 [] ∧ m_x8_isFree_J30 s u = some o) (fun u => []) (fun u H locs ls hI => ?_) (fun J30 => ?_)
  · obtain ⟨hP, hS, hl, h⟩ := hI
    skip
    have hP : va_P D vwCl (CS D a s) H := hP
    have hl : lv_has ls 2 [] := hl
    have h : m_x8_isFree_J30 s () = some o := h
    unfold m_x8_isFree_J30 at h
    refine lv_iconst (v := 0) hx hb eX8_isFree_18.2.2.2.2.2.2.1 (by decide) ?_
    exact J31 0 _ _ _ ⟨hP, hS, lv_sub hl [] rfl, h⟩
  refine lv_aload_n hx hb eX3_value_116.2.2.2.2.2.2.1 rfl (lv_at hl 0 rfl) ?_
  refine lv_iload_n hx hb eX3_value_116.2.2.2.2.2.2.2 rfl (lv_at hl 1 rfl) ?_
  obtain ⟨r4, hc3, h⟩ := bn_e h
  refine ycV (r0 := i2 r4) (As := [.int (i2 p0)]) (rest := []) (C := RX8) (n := 1) ⟨hx, hb, hml, hown, ht⟩ (k_x8_isBlock l D a p0 _ _ hc3) (zgV ml_X8_57 im_X8_isBlock se_X8_isBlock in_X8 co_X8_isBlock) rfl rfl (by decide +kernel) ⟨Nat.le_of_ble_eq_true rfl, Nat.le_of_ble_eq_true rfl⟩ hN hK hP hS 53 CW_53 rfl rfl rfl hl.1 rfl (Nat.le_of_ble_eq_true rfl) eX8_isFree_2.1 ⟨Nat.le_of_ble_eq_true rfl, Nat.le_of_ble_eq_true rfl⟩ (fun H locs hP hS => ?_)
  obtain ⟨hr5, h⟩ := rg_e h
  refine lv_if_eq (tgt := 30) hx hb eX8_isFree_2.2.1 (by decide) (fun c6 => ?_) (fun c6 => ?_)
  · have h := if_t ((i2_eq (x := r4) (y := 0) hr5 (by decide)).mp c6) h
    exact J30 () _ _ _ ⟨hP, hS, lv_sub hl [] rfl, h⟩
  · have h := if_f (mt (i2_eq (x := r4) (y := 0) hr5 (by decide)).mpr c6) h
    refine lv_aload_n hx hb eX8_isFree_2.2.2.1 rfl (lv_at hl 0 rfl) ?_
    refine va_get (D := D) (ci := 8) (v := .ref (a 54)) (C := RX8) (T := TX8) (N := 11) hx hb ht inX8 hown hK hP 53 CW_53 rfl 3 (by decide) (ht (.fieldLink RX8 9 "CloneVolumes$State" "count" "[I") fl_X8_9) (fun _ h9 => h9) rfl eX8_isFree_2.2.2.2.1 ?_
    refine lv_iload_n hx hb eX8_isFree_2.2.2.2.2.1 rfl (lv_at hl 1 rfl) ?_
    obtain ⟨y7, ey7, iy7, h⟩ := rdI_e h
    refine ya_iald (i := p0) hx hb hK hP 54 0 CW_54 rfl (by decide) ey7 iy7 eX8_isFree_2.2.2.2.2.2.1 ?_
    obtain ⟨hr8, h⟩ := rg_e h
    refine lv_if_ne (tgt := 30) hx hb eX8_isFree_2.2.2.2.2.2.2.1 (by decide) (fun c9 => ?_) (fun c9 => ?_)
    · have h := if_f (mt (i2_eq (x := y7) (y := 0) hr8 (by decide)).mpr c9) h
      exact J30 () _ _ _ ⟨hP, hS, lv_sub hl [] rfl, h⟩
    · have h := if_t ((i2_eq (x := y7) (y := 0) hr8 (by decide)).mp c9) h
      refine lv_aload_n hx hb eX8_isFree_2.2.2.2.2.2.2.2 rfl (lv_at hl 0 rfl) ?_
      refine va_get (D := D) (ci := 8) (v := .ref (a 55)) (C := RX8) (T := TX8) (N := 11) hx hb ht inX8 hown hK hP 53 CW_53 rfl 4 (by decide) (ht (.fieldLink RX8 15 "CloneVolumes$State" "saved" "[I") fl_X8_15) (fun _ h9 => h9) rfl eX8_isFree_18.1 ?_
      refine lv_iload_n hx hb eX8_isFree_18.2.1 rfl (lv_at hl 1 rfl) ?_
      obtain ⟨y10, ey10, iy10, h⟩ := rdI_e h
      refine ya_iald (i := p0) hx hb hK hP 55 0 CW_55 rfl (by decide) ey10 iy10 eX8_isFree_18.2.2.1 ?_
      obtain ⟨hr11, h⟩ := rg_e h
      refine lv_if_ne (tgt := 30) hx hb eX8_isFree_18.2.2.2.1 (by decide) (fun c12 => ?_) (fun c12 => ?_)
      · have h := if_f (mt (i2_eq (x := y10) (y := 0) hr11 (by decide)).mpr c12) h
        exact J30 () _ _ _ ⟨hP, hS, lv_sub hl [] rfl, h⟩
      · have h := if_t ((i2_eq (x := y10) (y := 0) hr11 (by decide)).mp c12) h
        refine lv_iconst (v := 1) hx hb eX8_isFree_18.2.2.2.2.1 (by decide) ?_
        refine lv_goto (tgt := 31) hx hb eX8_isFree_18.2.2.2.2.2.1 (by decide) ?_
        exact J31 1 _ _ _ ⟨hP, hS, lv_sub hl [] rfl, h⟩
set_option maxHeartbeats 4000000 in
set_option maxRecDepth 100000 in
theorem k_x3_pop (l : Launch) (D : va_G) (a : Nat → Nat) (sz : Nat) (s : MS) (o : (Int × MS)) (h : m_x3_pop s = some o) : yWi l yX3_pop cX3_pop 1 (some .int) { frames := 0, cells := 0, slots := 0, locals := 0 } D sz [.ref (a 80)] (CS D a s) (CS D a o.2) (i2 o.1) := by
  refine Met.ofW (cc := cX3_pop) (maxL := 1) (ret := (some .int)) (by decide) rfl ?_
  intro p e s₀ m args below meth c s₁ B hml hv
  obtain ⟨rfl, ⟨hsz, hP, hK, hD0⟩, hN⟩ := hv
  have hx := B.exec
  have hb := B.bytes
  have hr := B.returns
  have hts := atoms_spec (ws := wz yX3_pop cX3_pop 1 (some .int)) B.pre
  have ht : ∀ w ∈ lw_gd, w.before _ s₀ = true := fun w h => hts w (List.mem_cons_of_mem _ h)
  have hown : s₀.vm.findClass RX3 = some m.cls := findClass_of_methodNamed B.named
  have hlocks := B.notSynchronized
  subst hsz
  have hD := hD0.self (sz := s₀.heap.size)
  generalize hAe : va_A (CS D a s) s₀.heap.size = A at hD ⊢
  have hA : ∀ q : Nat, s₀.heap.size ≤ q → A q := fun q h => by rw [← hAe]; exact Or.inr h
  have hS : va_S A s₀.heap s₀.heap [] := va_S.rf
  have hDD : ∀ t : MS, va_D A (CS D a t) := fun t => CW_D t hD
  have hl := lv_entry ([.ref (a 80)]) (n := 1) (Nat.le_of_ble_eq_true rfl)
  rw [lg_entry_eq]
  generalize (lg_sl ([.ref (a 80)]) ++ List.replicate (1 - (lg_sl ([.ref (a 80)])).length) Slot.unset).toArray = ls at hl ⊢
  have hl : lv_has ls 1 [(0, .ref (a 80))] := hl
  unfold m_x3_pop at h
  refine lv_aload_n hx hb eX3_joined_215.2.2.2.2.2.2.1 rfl (lv_at hl 0 rfl) ?_
  refine va_get (D := D) (ci := 3) (v := .int (i2 (gI s 1601))) (C := RX3) (T := TX3) (N := 10) hx hb ht inX3 hown hK hP 80 CW_80 rfl 1 (by decide) (ht (.fieldLink RX3 19 "CloneVolumes$Machine" "top" "I") fl_X3_19) (fun _ h9 => h9) rfl eX3_joined_215.2.2.2.2.2.2.2 ?_
  obtain ⟨hr1, h⟩ := rg_e h
  refine lv_if_gt (tgt := 9) hx hb eX3_pop_4.1 (by decide) (fun c2 => ?_) (fun c2 => ?_)
  · have h := if_t ((i2_lt (x := 0) (y := (gI s 1601)) (by decide) hr1).mp c2) h
    refine lv_aload_n hx hb eX3_pop_4.2.2.2.1 rfl (lv_at hl 0 rfl) ?_
    refine lv_dup hx hb eX3_pop_4.2.2.2.2.1 rfl ?_
    refine va_get (D := D) (ci := 3) (v := .int (i2 (gI s 1601))) (C := RX3) (T := TX3) (N := 10) hx hb ht inX3 hown hK hP 80 CW_80 rfl 1 (by decide) (ht (.fieldLink RX3 19 "CloneVolumes$Machine" "top" "I") fl_X3_19) (fun _ h9 => h9) rfl eX3_pop_4.2.2.2.2.2.1 ?_
    refine lv_iconst (v := 1) hx hb eX3_pop_4.2.2.2.2.2.2.1 (by decide) ?_
    refine lv_isub hx hb eX3_pop_4.2.2.2.2.2.2.2 ?_
    refine z_topi (y := i2 ((gI s 1601) - 1)) (i2_sub (gI s 1601) 1) ?_
    refine ya_put (D := D) (ci := 3) (v := .int (i2 ((gI s 1601) - 1))) (ty := .int) (C := RX3) (T := TX3) (N := 10) hx hb ht inX3 tyX3 tyX3_ok nmX3 hown hK hP (hDD _) hS 80 CW_80 rfl 1 (by decide) (ht (.fieldLink RX3 19 "CloneVolumes$Machine" "top" "I") fl_X3_19) (fun _ h9 => h9) rfl (by decide +kernel) rfl rfl (Nat.le_of_ble_eq_true rfl) eX3_pop_16.1 (CW_w80_1 ((gI s 1601) - 1)) (fun H locs hP hS => ?_)
    obtain ⟨s3, hs3, h⟩ := st_e h
    rw [hs3] at hP
    refine lv_aload_n hx hb eX3_pop_16.2.1 rfl (lv_at hl 0 rfl) ?_
    refine va_get (D := D) (ci := 3) (v := .ref (a 81)) (C := RX3) (T := TX3) (N := 10) hx hb ht inX3 hown hK hP 80 CW_80 rfl 0 (by decide) (ht (.fieldLink RX3 11 "CloneVolumes$Machine" "stack" "[I") fl_X3_11) (fun _ h9 => h9) rfl eX3_pop_16.2.2.1 ?_
    refine lv_aload_n hx hb eX3_pop_16.2.2.2.1 rfl (lv_at hl 0 rfl) ?_
    refine va_get (D := D) (ci := 3) (v := .int (i2 (gI s3 1601))) (C := RX3) (T := TX3) (N := 10) hx hb ht inX3 hown hK hP 80 CW_80 rfl 1 (by decide) (ht (.fieldLink RX3 19 "CloneVolumes$Machine" "top" "I") fl_X3_19) (fun _ h9 => h9) rfl eX3_pop_16.2.2.2.2.1 ?_
    obtain ⟨y4, ey4, iy4, h⟩ := rdI_e h
    refine ya_iald (i := (gI s3 1601)) hx hb hK hP 81 0 CW_81 rfl (by decide) ey4 iy4 eX3_pop_16.2.2.2.2.2.1 ?_
    obtain rfl := Option.some.inj h
    exact W.iret (v := (i2 y4)) hx hb hr (fun t ht hW => ⟨⟨_, (), rfl, rfl, by rw [ht]; exact hP, va_K.moved hW.alike hK, hDD _⟩, hS.F ht⟩) hS.2.2 eX3_pop_16.2.2.2.2.2.2.1
  · have h := if_f (mt (i2_lt (x := 0) (y := (gI s 1601)) (by decide) hr1).mpr c2) h
    refine lv_iconst (v := 0) hx hb eX3_pop_4.2.1 (by decide) ?_
    obtain rfl := Option.some.inj h
    exact W.iret (v := 0) hx hb hr (fun t ht hW => ⟨⟨_, (), rfl, rfl, by rw [ht]; exact hP, va_K.moved hW.alike hK, hDD _⟩, hS.F ht⟩) hS.2.2 eX3_pop_4.2.2.1
set_option maxHeartbeats 4000000 in
set_option maxRecDepth 100000 in
theorem k_x3_joined (l : Launch) (D : va_G) (a : Nat → Nat) (p0 : Int) (p1 : Int) (p2 : Int) (s : MS) (o : Int) (h : m_x3_joined p0 p1 p2 s = some o) : yRi l yX3_joined cX3_joined 5 (some .int) { frames := 0, cells := 0, slots := 0, locals := 0 } D [.int (i2 p0), .int (i2 p1), .int (i2 p2)] (CS D a s) (i2 o) := by
  refine Met.ofW (cc := cX3_joined) (maxL := 5) (ret := (some .int)) (by decide) rfl ?_
  intro p e s₀ m args below meth c s₁ B hml hv
  obtain ⟨rfl, ⟨hP, hK⟩, hN⟩ := hv
  have hx := B.exec
  have hb := B.bytes
  have hr := B.returns
  have hts := atoms_spec (ws := wz yX3_joined cX3_joined 5 (some .int)) B.pre
  have ht : ∀ w ∈ lw_gd, w.before _ s₀ = true := fun w h => hts w (List.mem_cons_of_mem _ h)
  have hown : s₀.vm.findClass RX3 = some m.cls := findClass_of_methodNamed B.named
  have hlocks := B.notSynchronized
  have hS : va_S (fun _ => False) s₀.heap s₀.heap [] := va_S.rf
  have hl := lv_entry ([.int (i2 p0), .int (i2 p1), .int (i2 p2)]) (n := 5) (Nat.le_of_ble_eq_true rfl)
  rw [lg_entry_eq]
  generalize (lg_sl ([.int (i2 p0), .int (i2 p1), .int (i2 p2)]) ++ List.replicate (5 - (lg_sl ([.int (i2 p0), .int (i2 p1), .int (i2 p2)])).length) Slot.unset).toArray = ls at hl ⊢
  have hl : lv_has ls 5 [(0, .int (i2 p0)), (1, .int (i2 p1)), (2, .int (i2 p2))] := hl
  unfold m_x3_joined at h
  refine y_head (pcJ := 225) (σ := Int) (fun u H locs ls => va_P D vwCl (CS D a s) H ∧ va_S (fun _ => False) s₀.heap H locs ∧ lv_has ls 5 [] ∧ m_x3_joined_J225 s u = some o) (fun u => [.int (i2 u)]) (fun u H locs ls hI => ?_) (fun J225 => ?_)
  · obtain ⟨hP, hS, hl, h⟩ := hI
    obtain ⟨x1, rfl⟩ : ∃ z, z = u := ⟨u, rfl⟩
    have hP : va_P D vwCl (CS D a s) H := hP
    have hl : lv_has ls 5 [] := hl
    have h : m_x3_joined_J225 s x1 = some o := h
    unfold m_x3_joined_J225 at h
    obtain rfl := Option.some.inj h
    exact W.iret (v := (i2 x1)) hx hb hr (fun t ht hW => ⟨⟨_, (), rfl, rfl, trivial⟩, hS.F ht⟩) hS.2.2 eX3_joined_215.2.2.2.2.2.1
  refine y_head (pcJ := 199) (σ := Int) (fun u H locs ls => va_P D vwCl (CS D a s) H ∧ va_S (fun _ => False) s₀.heap H locs ∧ lv_has ls 5 [(3, .long (i8 u))] ∧ m_x3_joined_J199 s u = some o) (fun u => []) (fun u H locs ls hI => ?_) (fun J199 => ?_)
  · obtain ⟨hP, hS, hl, h⟩ := hI
    obtain ⟨z2, rfl⟩ : ∃ z, z = u := ⟨u, rfl⟩
    have hP : va_P D vwCl (CS D a s) H := hP
    have hl : lv_has ls 5 [(3, .long (i8 z2))] := hl
    have h : m_x3_joined_J199 s z2 = some o := h
    unfold m_x3_joined_J199 at h
    refine lv_lload_n hx hb eX3_joined_188.2.2.2.2.2.2.2 rfl (lv_at hl 0 rfl) ?_
    refine lv_ldc2 (own := RX3) (v := 1000000) hx hb hown (ht _ cl_X3_82) eX3_joined_200.1 ?_
    refine W.lcmp hx hb eX3_joined_200.2.1 ?_
    obtain ⟨hr3, h⟩ := rgL_e h
    refine lv_if_le (tgt := 210) hx hb eX3_joined_200.2.2.1 (by decide) (fun c4 => ?_) (fun c4 => ?_)
    · have h := if_t ((l_le (x := z2) (y := 1000000) hr3 (by decide)).mp c4) h
      refine lv_lload_n hx hb eX3_joined_200.2.2.2.2.2.1 rfl (lv_at hl 0 rfl) ?_
      refine lv_ldc2 (own := RX3) (v := (-1000000)) hx hb hown (ht _ cl_X3_85) eX3_joined_200.2.2.2.2.2.2.1 ?_
      refine W.lcmp hx hb eX3_joined_200.2.2.2.2.2.2.2 ?_
      obtain ⟨hr5, h⟩ := rgL_e h
      refine lv_if_ge (tgt := 223) hx hb eX3_joined_215.1 (by decide) (fun c6 => ?_) (fun c6 => ?_)
      · rw [show ((-1000000) : Int64) = i8 (-1000000) from by decide +kernel] at c6
        have h := if_t ((l_ge (x := z2) (y := (-1000000)) hr5 (by decide)).mp c6) h
        refine lv_lload_n hx hb eX3_joined_215.2.2.2.1 rfl (lv_at hl 0 rfl) ?_
        refine lv_l2i (v := i2 z2) hx hb eX3_joined_215.2.2.2.2.1 (i8_i z2) ?_
        exact J225 z2 _ _ _ ⟨hP, hS, lv_sub hl [] rfl, h⟩
      · rw [show ((-1000000) : Int64) = i8 (-1000000) from by decide +kernel] at c6
        have h := if_f (mt (l_ge (x := z2) (y := (-1000000)) hr5 (by decide)).mpr c6) h
        refine lv_ldc (own := RX3) (v := (-1000000)) hx hb hown (ht _ ck_X3_87) eX3_joined_215.2.1 ?_
        refine lv_goto (tgt := 225) hx hb eX3_joined_215.2.2.1 (by decide) ?_
        exact J225 (-1000000) _ _ _ ⟨hP, hS, lv_sub hl [] rfl, h⟩
    · have h := if_f (mt (l_le (x := z2) (y := 1000000) hr3 (by decide)).mpr c4) h
      refine lv_ldc (own := RX3) (v := 1000000) hx hb hown (ht _ ck_X3_84) eX3_joined_200.2.2.2.1 ?_
      obtain rfl := Option.some.inj h
      exact W.iret (v := 1000000) hx hb hr (fun t ht hW => ⟨⟨_, (), rfl, rfl, trivial⟩, hS.F ht⟩) hS.2.2 eX3_joined_200.2.2.2.2.1
  refine y_head (pcJ := 179) (σ := Int) (fun u H locs ls => va_P D vwCl (CS D a s) H ∧ va_S (fun _ => False) s₀.heap H locs ∧ lv_has ls 5 [] ∧ m_x3_joined_J179 s u = some o) (fun u => [.long (i8 u)]) (fun u H locs ls hI => ?_) (fun J179 => ?_)
  · obtain ⟨hP, hS, hl, h⟩ := hI
    obtain ⟨z7, rfl⟩ : ∃ z, z = u := ⟨u, rfl⟩
    have hP : va_P D vwCl (CS D a s) H := hP
    have hl : lv_has ls 5 [] := hl
    have h : m_x3_joined_J179 s z7 = some o := h
    unfold m_x3_joined_J179 at h
    refine lv_lstore_n (lv' := [(3, .long (i8 z7))]) hx hb eX3_joined_178.2.1 rfl hl (by decide) rfl (fun ls hl => ?_)
    refine lv_goto (tgt := 199) hx hb eX3_joined_178.2.2.1 (by decide) ?_
    exact J199 z7 _ _ _ ⟨hP, hS, lv_sub hl [0] rfl, h⟩
  refine y_head (pcJ := 165) (σ := Int) (fun u H locs ls => va_P D vwCl (CS D a s) H ∧ va_S (fun _ => False) s₀.heap H locs ∧ lv_has ls 5 [] ∧ m_x3_joined_J165 s u = some o) (fun u => [.long (i8 u)]) (fun u H locs ls hI => ?_) (fun J165 => ?_)
  · obtain ⟨hP, hS, hl, h⟩ := hI
    obtain ⟨z8, rfl⟩ : ∃ z, z = u := ⟨u, rfl⟩
    have hP : va_P D vwCl (CS D a s) H := hP
    have hl : lv_has ls 5 [] := hl
    have h : m_x3_joined_J165 s z8 = some o := h
    unfold m_x3_joined_J165 at h
    refine lv_lstore_n (lv' := [(3, .long (i8 z8))]) hx hb eX3_joined_164.2.1 rfl hl (by decide) rfl (fun ls hl => ?_)
    refine lv_goto (tgt := 199) hx hb eX3_joined_164.2.2.1 (by decide) ?_
    exact J199 z8 _ _ _ ⟨hP, hS, lv_sub hl [0] rfl, h⟩
  refine y_head (pcJ := 151) (σ := Int) (fun u H locs ls => va_P D vwCl (CS D a s) H ∧ va_S (fun _ => False) s₀.heap H locs ∧ lv_has ls 5 [] ∧ m_x3_joined_J151 s u = some o) (fun u => [.long (i8 u)]) (fun u H locs ls hI => ?_) (fun J151 => ?_)
  · obtain ⟨hP, hS, hl, h⟩ := hI
    obtain ⟨z9, rfl⟩ : ∃ z, z = u := ⟨u, rfl⟩
    have hP : va_P D vwCl (CS D a s) H := hP
    have hl : lv_has ls 5 [] := hl
    have h : m_x3_joined_J151 s z9 = some o := h
    unfold m_x3_joined_J151 at h
    refine lv_lstore_n (lv' := [(3, .long (i8 z9))]) hx hb eX3_joined_150.2.1 rfl hl (by decide) rfl (fun ls hl => ?_)
    refine lv_goto (tgt := 199) hx hb eX3_joined_150.2.2.1 (by decide) ?_
    exact J199 z9 _ _ _ ⟨hP, hS, lv_sub hl [0] rfl, h⟩
  refine y_head (pcJ := 137) (σ := Int) (fun u H locs ls => va_P D vwCl (CS D a s) H ∧ va_S (fun _ => False) s₀.heap H locs ∧ lv_has ls 5 [] ∧ m_x3_joined_J137 s u = some o) (fun u => [.long (i8 u)]) (fun u H locs ls hI => ?_) (fun J137 => ?_)
  · obtain ⟨hP, hS, hl, h⟩ := hI
    obtain ⟨z10, rfl⟩ : ∃ z, z = u := ⟨u, rfl⟩
    have hP : va_P D vwCl (CS D a s) H := hP
    have hl : lv_has ls 5 [] := hl
    have h : m_x3_joined_J137 s z10 = some o := h
    unfold m_x3_joined_J137 at h
    refine lv_lstore_n (lv' := [(3, .long (i8 z10))]) hx hb eX3_joined_136.2.1 rfl hl (by decide) rfl (fun ls hl => ?_)
    refine lv_goto (tgt := 199) hx hb eX3_joined_136.2.2.1 (by decide) ?_
    exact J199 z10 _ _ _ ⟨hP, hS, lv_sub hl [0] rfl, h⟩
  refine y_head (pcJ := 121) (σ := Int) (fun u H locs ls => va_P D vwCl (CS D a s) H ∧ va_S (fun _ => False) s₀.heap H locs ∧ lv_has ls 5 [] ∧ m_x3_joined_J121 s u = some o) (fun u => [.long (i8 u)]) (fun u H locs ls hI => ?_) (fun J121 => ?_)
  · obtain ⟨hP, hS, hl, h⟩ := hI
    obtain ⟨z11, rfl⟩ : ∃ z, z = u := ⟨u, rfl⟩
    have hP : va_P D vwCl (CS D a s) H := hP
    have hl : lv_has ls 5 [] := hl
    have h : m_x3_joined_J121 s z11 = some o := h
    unfold m_x3_joined_J121 at h
    refine lv_lstore_n (lv' := [(3, .long (i8 z11))]) hx hb eX3_joined_110.2.2.2.2.2.2.2 rfl hl (by decide) rfl (fun ls hl => ?_)
    refine lv_goto (tgt := 199) hx hb eX3_joined_122.1 (by decide) ?_
    exact J199 z11 _ _ _ ⟨hP, hS, lv_sub hl [0] rfl, h⟩
  refine y_head (pcJ := 105) (σ := Int) (fun u H locs ls => va_P D vwCl (CS D a s) H ∧ va_S (fun _ => False) s₀.heap H locs ∧ lv_has ls 5 [] ∧ m_x3_joined_J105 s u = some o) (fun u => [.long (i8 u)]) (fun u H locs ls hI => ?_) (fun J105 => ?_)
  · obtain ⟨hP, hS, hl, h⟩ := hI
    obtain ⟨z12, rfl⟩ : ∃ z, z = u := ⟨u, rfl⟩
    have hP : va_P D vwCl (CS D a s) H := hP
    have hl : lv_has ls 5 [] := hl
    have h : m_x3_joined_J105 s z12 = some o := h
    unfold m_x3_joined_J105 at h
    refine lv_lstore_n (lv' := [(3, .long (i8 z12))]) hx hb eX3_joined_100.2.2.2.2.2.1 rfl hl (by decide) rfl (fun ls hl => ?_)
    refine lv_goto (tgt := 199) hx hb eX3_joined_100.2.2.2.2.2.2.1 (by decide) ?_
    exact J199 z12 _ _ _ ⟨hP, hS, lv_sub hl [0] rfl, h⟩
  refine lv_lconst (v := 0) hx hb eX3_fact_77.2.2.2.2.2.2.1 (by decide) ?_
  refine lv_lstore_n (lv' := [(3, .long 0), (0, .int (i2 p0)), (1, .int (i2 p1)), (2, .int (i2 p2))]) hx hb eX3_fact_77.2.2.2.2.2.2.2 rfl hl (by decide) rfl (fun ls hl => ?_)
  refine lv_iload_n hx hb eX3_joined_2.1 rfl (lv_at hl 1 rfl) ?_
  obtain ⟨hr13, h⟩ := rg_e h
  by_cases c14 : p0 = (-11)
  · have h := if_t c14 h
    refine lv_tableIn (off := 188) (tgt := 191) hx hb eX3_joined_2.2.1 (by rw [c14]; decide) (by rw [c14]; decide) (by rw [c14]; decide) (by decide) ?_
    refine lv_iload_n hx hb eX3_joined_188.2.1 rfl (lv_at hl 2 rfl) ?_
    refine lv_iload_n hx hb eX3_joined_188.2.2.1 rfl (lv_at hl 3 rfl) ?_
    refine lv_ior hx hb eX3_joined_188.2.2.2.1 ?_
    refine z_topi (y := i2 (orZ p1 p2)) (i2_of (i2 p1 ||| i2 p2)).symm ?_
    obtain ⟨hr15, h⟩ := rg_e h
    refine lv_i2l (v := i8 (orZ p1 p2)) hx hb eX3_joined_188.2.2.2.2.1 (i2_l hr15) ?_
    refine lv_lstore_n (lv' := [(3, .long (i8 (orZ p1 p2))), (0, .int (i2 p0)), (1, .int (i2 p1)), (2, .int (i2 p2))]) hx hb eX3_joined_188.2.2.2.2.2.1 rfl hl (by decide) rfl (fun ls hl => ?_)
    refine lv_goto (tgt := 199) hx hb eX3_joined_188.2.2.2.2.2.2.1 (by decide) ?_
    exact J199 (orZ p1 p2) _ _ _ ⟨hP, hS, lv_sub hl [0] rfl, h⟩
  · have h := if_f c14 h
    by_cases c16 : p0 = (-10)
    · have h := if_t c16 h
      refine lv_tableIn (off := 180) (tgt := 183) hx hb eX3_joined_2.2.1 (by rw [c16]; decide) (by rw [c16]; decide) (by rw [c16]; decide) (by decide) ?_
      refine lv_iload_n hx hb eX3_joined_178.2.2.2.1 rfl (lv_at hl 2 rfl) ?_
      refine lv_iload_n hx hb eX3_joined_178.2.2.2.2.1 rfl (lv_at hl 3 rfl) ?_
      refine lv_iand hx hb eX3_joined_178.2.2.2.2.2.1 ?_
      refine z_topi (y := i2 (andZ p1 p2)) (i2_of (i2 p1 &&& i2 p2)).symm ?_
      obtain ⟨hr17, h⟩ := rg_e h
      refine lv_i2l (v := i8 (andZ p1 p2)) hx hb eX3_joined_178.2.2.2.2.2.2.1 (i2_l hr17) ?_
      refine lv_lstore_n (lv' := [(3, .long (i8 (andZ p1 p2))), (0, .int (i2 p0)), (1, .int (i2 p1)), (2, .int (i2 p2))]) hx hb eX3_joined_178.2.2.2.2.2.2.2 rfl hl (by decide) rfl (fun ls hl => ?_)
      refine lv_goto (tgt := 199) hx hb eX3_joined_188.1 (by decide) ?_
      exact J199 (andZ p1 p2) _ _ _ ⟨hP, hS, lv_sub hl [0] rfl, h⟩
    · have h := if_f c16 h
      by_cases c18 : p0 = (-9)
      · have h := if_t c18 h
        refine lv_tableIn (off := 166) (tgt := 169) hx hb eX3_joined_2.2.1 (by rw [c18]; decide) (by rw [c18]; decide) (by rw [c18]; decide) (by decide) ?_
        refine lv_iload_n hx hb eX3_joined_164.2.2.2.1 rfl (lv_at hl 2 rfl) ?_
        refine lv_iload_n hx hb eX3_joined_164.2.2.2.2.1 rfl (lv_at hl 3 rfl) ?_
        obtain ⟨hr19, h⟩ := rg_e h
        obtain ⟨hr20, h⟩ := rg_e h
        refine lv_icmp_ne (tgt := 178) hx hb eX3_joined_164.2.2.2.2.2.1 (by decide) (fun c21 => ?_) (fun c21 => ?_)
        · have h := if_f (mt (i2_eq (x := p1) (y := p2) hr19 hr20).mpr c21) h
          refine lv_lconst (v := 0) hx hb eX3_joined_178.1 (by decide) ?_
          exact J179 0 _ _ _ ⟨hP, hS, lv_sub hl [] rfl, h⟩
        · have h := if_t ((i2_eq (x := p1) (y := p2) hr19 hr20).mp c21) h
          refine lv_lconst (v := 1) hx hb eX3_joined_164.2.2.2.2.2.2.1 (by decide) ?_
          refine lv_goto (tgt := 179) hx hb eX3_joined_164.2.2.2.2.2.2.2 (by decide) ?_
          exact J179 1 _ _ _ ⟨hP, hS, lv_sub hl [] rfl, h⟩
      · have h := if_f c18 h
        by_cases c22 : p0 = (-8)
        · have h := if_t c22 h
          refine lv_tableIn (off := 152) (tgt := 155) hx hb eX3_joined_2.2.1 (by rw [c22]; decide) (by rw [c22]; decide) (by rw [c22]; decide) (by decide) ?_
          refine lv_iload_n hx hb eX3_joined_150.2.2.2.1 rfl (lv_at hl 2 rfl) ?_
          refine lv_iload_n hx hb eX3_joined_150.2.2.2.2.1 rfl (lv_at hl 3 rfl) ?_
          obtain ⟨hr23, h⟩ := rg_e h
          obtain ⟨hr24, h⟩ := rg_e h
          refine lv_icmp_le (tgt := 164) hx hb eX3_joined_150.2.2.2.2.2.1 (by decide) (fun c25 => ?_) (fun c25 => ?_)
          · have h := if_t ((i2_le (x := p1) (y := p2) hr23 hr24).mp c25) h
            refine lv_lconst (v := 0) hx hb eX3_joined_164.1 (by decide) ?_
            exact J165 0 _ _ _ ⟨hP, hS, lv_sub hl [] rfl, h⟩
          · have h := if_f (mt (i2_le (x := p1) (y := p2) hr23 hr24).mpr c25) h
            refine lv_lconst (v := 1) hx hb eX3_joined_150.2.2.2.2.2.2.1 (by decide) ?_
            refine lv_goto (tgt := 165) hx hb eX3_joined_150.2.2.2.2.2.2.2 (by decide) ?_
            exact J165 1 _ _ _ ⟨hP, hS, lv_sub hl [] rfl, h⟩
        · have h := if_f c22 h
          by_cases c26 : p0 = (-7)
          · have h := if_t c26 h
            refine lv_tableIn (off := 138) (tgt := 141) hx hb eX3_joined_2.2.1 (by rw [c26]; decide) (by rw [c26]; decide) (by rw [c26]; decide) (by decide) ?_
            refine lv_iload_n hx hb eX3_joined_136.2.2.2.1 rfl (lv_at hl 2 rfl) ?_
            refine lv_iload_n hx hb eX3_joined_136.2.2.2.2.1 rfl (lv_at hl 3 rfl) ?_
            obtain ⟨hr27, h⟩ := rg_e h
            obtain ⟨hr28, h⟩ := rg_e h
            refine lv_icmp_ge (tgt := 150) hx hb eX3_joined_136.2.2.2.2.2.1 (by decide) (fun c29 => ?_) (fun c29 => ?_)
            · have h := if_t ((i2_le (x := p2) (y := p1) hr28 hr27).mp c29) h
              refine lv_lconst (v := 0) hx hb eX3_joined_150.1 (by decide) ?_
              exact J151 0 _ _ _ ⟨hP, hS, lv_sub hl [] rfl, h⟩
            · have h := if_f (mt (i2_le (x := p2) (y := p1) hr28 hr27).mpr c29) h
              refine lv_lconst (v := 1) hx hb eX3_joined_136.2.2.2.2.2.2.1 (by decide) ?_
              refine lv_goto (tgt := 151) hx hb eX3_joined_136.2.2.2.2.2.2.2 (by decide) ?_
              exact J151 1 _ _ _ ⟨hP, hS, lv_sub hl [] rfl, h⟩
          · have h := if_f c26 h
            by_cases c30 : p0 = (-6)
            · have h := if_t c30 h
              refine lv_tableIn (off := 122) (tgt := 125) hx hb eX3_joined_2.2.1 (by rw [c30]; decide) (by rw [c30]; decide) (by rw [c30]; decide) (by decide) ?_
              refine lv_iload_n hx hb eX3_joined_122.2.1 rfl (lv_at hl 2 rfl) ?_
              refine lv_iload_n hx hb eX3_joined_122.2.2.1 rfl (lv_at hl 3 rfl) ?_
              obtain ⟨hr31, h⟩ := rg_e h
              obtain ⟨hr32, h⟩ := rg_e h
              refine lv_icmp_le (tgt := 135) hx hb eX3_joined_122.2.2.2.1 (by decide) (fun c33 => ?_) (fun c33 => ?_)
              · have h := if_t ((i2_le (x := p1) (y := p2) hr31 hr32).mp c33) h
                refine lv_iload_n hx hb eX3_joined_122.2.2.2.2.2.2.2 rfl (lv_at hl 3 rfl) ?_
                obtain ⟨hr34, h⟩ := rg_e h
                refine lv_i2l (v := i8 p2) hx hb eX3_joined_136.1 (i2_l hr34) ?_
                exact J137 p2 _ _ _ ⟨hP, hS, lv_sub hl [] rfl, h⟩
              · have h := if_f (mt (i2_le (x := p1) (y := p2) hr31 hr32).mpr c33) h
                refine lv_iload_n hx hb eX3_joined_122.2.2.2.2.1 rfl (lv_at hl 2 rfl) ?_
                obtain ⟨hr35, h⟩ := rg_e h
                refine lv_i2l (v := i8 p1) hx hb eX3_joined_122.2.2.2.2.2.1 (i2_l hr35) ?_
                refine lv_goto (tgt := 137) hx hb eX3_joined_122.2.2.2.2.2.2.1 (by decide) ?_
                exact J137 p1 _ _ _ ⟨hP, hS, lv_sub hl [] rfl, h⟩
            · have h := if_f c30 h
              by_cases c36 : p0 = (-5)
              · have h := if_t c36 h
                refine lv_tableIn (off := 106) (tgt := 109) hx hb eX3_joined_2.2.1 (by rw [c36]; decide) (by rw [c36]; decide) (by rw [c36]; decide) (by decide) ?_
                refine lv_iload_n hx hb eX3_joined_100.2.2.2.2.2.2.2 rfl (lv_at hl 2 rfl) ?_
                refine lv_iload_n hx hb eX3_joined_110.1 rfl (lv_at hl 3 rfl) ?_
                obtain ⟨hr37, h⟩ := rg_e h
                obtain ⟨hr38, h⟩ := rg_e h
                refine lv_icmp_ge (tgt := 119) hx hb eX3_joined_110.2.1 (by decide) (fun c39 => ?_) (fun c39 => ?_)
                · have h := if_t ((i2_le (x := p2) (y := p1) hr38 hr37).mp c39) h
                  refine lv_iload_n hx hb eX3_joined_110.2.2.2.2.2.1 rfl (lv_at hl 3 rfl) ?_
                  obtain ⟨hr40, h⟩ := rg_e h
                  refine lv_i2l (v := i8 p2) hx hb eX3_joined_110.2.2.2.2.2.2.1 (i2_l hr40) ?_
                  exact J121 p2 _ _ _ ⟨hP, hS, lv_sub hl [] rfl, h⟩
                · have h := if_f (mt (i2_le (x := p2) (y := p1) hr38 hr37).mpr c39) h
                  refine lv_iload_n hx hb eX3_joined_110.2.2.1 rfl (lv_at hl 2 rfl) ?_
                  obtain ⟨hr41, h⟩ := rg_e h
                  refine lv_i2l (v := i8 p1) hx hb eX3_joined_110.2.2.2.1 (i2_l hr41) ?_
                  refine lv_goto (tgt := 121) hx hb eX3_joined_110.2.2.2.2.1 (by decide) ?_
                  exact J121 p1 _ _ _ ⟨hP, hS, lv_sub hl [] rfl, h⟩
              · have h := if_f c36 h
                by_cases c42 : p0 = (-4)
                · have h := if_t c42 h
                  refine lv_tableIn (off := 82) (tgt := 85) hx hb eX3_joined_2.2.1 (by rw [c42]; decide) (by rw [c42]; decide) (by rw [c42]; decide) (by decide) ?_
                  refine lv_iload_n hx hb eX3_joined_78.2.2.2.2.2.1 rfl (lv_at hl 3 rfl) ?_
                  obtain ⟨hr43, h⟩ := rg_e h
                  refine lv_if_ne (tgt := 93) hx hb eX3_joined_78.2.2.2.2.2.2.1 (by decide) (fun c44 => ?_) (fun c44 => ?_)
                  · have h := if_f (mt (i2_eq (x := p2) (y := 0) hr43 (by decide)).mpr c44) h
                    refine lv_iload_n hx hb eX3_joined_90.2.1 rfl (lv_at hl 2 rfl) ?_
                    refine lv_iload_n hx hb eX3_joined_90.2.2.1 rfl (lv_at hl 2 rfl) ?_
                    refine lv_iload_n hx hb eX3_joined_90.2.2.2.1 rfl (lv_at hl 3 rfl) ?_
                    obtain ⟨hn45, h⟩ := dv_e h
                    refine lv_irem hx hb eX3_joined_90.2.2.2.2.1 (dv_nz hn45) ?_
                    refine z_topi (y := i2 (Int.tmod p1 p2)) (dv_r hn45) ?_
                    refine lv_iload_n hx hb eX3_joined_90.2.2.2.2.2.1 rfl (lv_at hl 3 rfl) ?_
                    refine lv_iadd hx hb eX3_joined_90.2.2.2.2.2.2.1 ?_
                    refine z_topi (y := i2 ((Int.tmod p1 p2) + p2)) (i2_add (Int.tmod p1 p2) p2) ?_
                    refine lv_iload_n hx hb eX3_joined_90.2.2.2.2.2.2.2 rfl (lv_at hl 3 rfl) ?_
                    obtain ⟨hn46, h⟩ := dv_e h
                    refine lv_irem hx hb eX3_joined_100.1 (dv_nz hn46) ?_
                    refine z_topi (y := i2 (Int.tmod ((Int.tmod p1 p2) + p2) p2)) (dv_r hn46) ?_
                    refine lv_isub hx hb eX3_joined_100.2.1 ?_
                    refine z_topi (y := i2 (p1 - (Int.tmod ((Int.tmod p1 p2) + p2) p2))) (i2_sub p1 (Int.tmod ((Int.tmod p1 p2) + p2) p2)) ?_
                    refine lv_iload_n hx hb eX3_joined_100.2.2.1 rfl (lv_at hl 3 rfl) ?_
                    obtain ⟨hn47, h⟩ := dv_e h
                    refine lv_idiv hx hb eX3_joined_100.2.2.2.1 (dv_nz hn47) ?_
                    refine z_topi (y := i2 (Int.tdiv (p1 - (Int.tmod ((Int.tmod p1 p2) + p2) p2)) p2)) (dv_d hn47) ?_
                    obtain ⟨hr48, h⟩ := rg_e h
                    refine lv_i2l (v := i8 (Int.tdiv (p1 - (Int.tmod ((Int.tmod p1 p2) + p2) p2)) p2)) hx hb eX3_joined_100.2.2.2.2.1 (i2_l hr48) ?_
                    exact J105 (Int.tdiv (p1 - (Int.tmod ((Int.tmod p1 p2) + p2) p2)) p2) _ _ _ ⟨hP, hS, lv_sub hl [] rfl, h⟩
                  · have h := if_t ((i2_eq (x := p2) (y := 0) hr43 (by decide)).mp c44) h
                    refine lv_lconst (v := 0) hx hb eX3_joined_78.2.2.2.2.2.2.2 (by decide) ?_
                    refine lv_goto (tgt := 105) hx hb eX3_joined_90.1 (by decide) ?_
                    exact J105 0 _ _ _ ⟨hP, hS, lv_sub hl [] rfl, h⟩
                · have h := if_f c42 h
                  by_cases c49 : p0 = (-3)
                  · have h := if_t c49 h
                    refine lv_tableIn (off := 73) (tgt := 76) hx hb eX3_joined_2.2.1 (by rw [c49]; decide) (by rw [c49]; decide) (by rw [c49]; decide) (by decide) ?_
                    refine lv_iload_n hx hb eX3_joined_68.2.2.2.2.2.2.1 rfl (lv_at hl 2 rfl) ?_
                    obtain ⟨hr50, h⟩ := rg_e h
                    refine lv_i2l (v := i8 p1) hx hb eX3_joined_68.2.2.2.2.2.2.2 (i2_l hr50) ?_
                    refine lv_iload_n hx hb eX3_joined_78.1 rfl (lv_at hl 3 rfl) ?_
                    obtain ⟨hr51, h⟩ := rg_e h
                    refine lv_i2l (v := i8 p2) hx hb eX3_joined_78.2.1 (i2_l hr51) ?_
                    refine lv_lmul hx hb eX3_joined_78.2.2.1 ?_
                    refine z_topl (y := i8 (p1 * p2)) (i8_mul p1 p2) ?_
                    refine lv_lstore_n (lv' := [(3, .long (i8 (p1 * p2))), (0, .int (i2 p0)), (1, .int (i2 p1)), (2, .int (i2 p2))]) hx hb eX3_joined_78.2.2.2.1 rfl hl (by decide) rfl (fun ls hl => ?_)
                    refine lv_goto (tgt := 199) hx hb eX3_joined_78.2.2.2.2.1 (by decide) ?_
                    exact J199 (p1 * p2) _ _ _ ⟨hP, hS, lv_sub hl [0] rfl, h⟩
                  · have h := if_f c49 h
                    by_cases c52 : p0 = (-2)
                    · have h := if_t c52 h
                      refine lv_tableIn (off := 65) (tgt := 68) hx hb eX3_joined_2.2.1 (by rw [c52]; decide) (by rw [c52]; decide) (by rw [c52]; decide) (by decide) ?_
                      refine lv_iload_n hx hb eX3_joined_68.1 rfl (lv_at hl 2 rfl) ?_
                      refine lv_iload_n hx hb eX3_joined_68.2.1 rfl (lv_at hl 3 rfl) ?_
                      refine lv_isub hx hb eX3_joined_68.2.2.1 ?_
                      refine z_topi (y := i2 (p1 - p2)) (i2_sub p1 p2) ?_
                      obtain ⟨hr53, h⟩ := rg_e h
                      refine lv_i2l (v := i8 (p1 - p2)) hx hb eX3_joined_68.2.2.2.1 (i2_l hr53) ?_
                      refine lv_lstore_n (lv' := [(3, .long (i8 (p1 - p2))), (0, .int (i2 p0)), (1, .int (i2 p1)), (2, .int (i2 p2))]) hx hb eX3_joined_68.2.2.2.2.1 rfl hl (by decide) rfl (fun ls hl => ?_)
                      refine lv_goto (tgt := 199) hx hb eX3_joined_68.2.2.2.2.2.1 (by decide) ?_
                      exact J199 (p1 - p2) _ _ _ ⟨hP, hS, lv_sub hl [0] rfl, h⟩
                    · have h := if_f c52 h
                      by_cases c54 : p0 = (-1)
                      · have h := if_t c54 h
                        refine lv_tableIn (off := 57) (tgt := 60) hx hb eX3_joined_2.2.1 (by rw [c54]; decide) (by rw [c54]; decide) (by rw [c54]; decide) (by decide) ?_
                        refine lv_iload_n hx hb eX3_joined_2.2.2.1 rfl (lv_at hl 2 rfl) ?_
                        refine lv_iload_n hx hb eX3_joined_2.2.2.2.1 rfl (lv_at hl 3 rfl) ?_
                        refine lv_iadd hx hb eX3_joined_2.2.2.2.2.1 ?_
                        refine z_topi (y := i2 (p1 + p2)) (i2_add p1 p2) ?_
                        obtain ⟨hr55, h⟩ := rg_e h
                        refine lv_i2l (v := i8 (p1 + p2)) hx hb eX3_joined_2.2.2.2.2.2.1 (i2_l hr55) ?_
                        refine lv_lstore_n (lv' := [(3, .long (i8 (p1 + p2))), (0, .int (i2 p0)), (1, .int (i2 p1)), (2, .int (i2 p2))]) hx hb eX3_joined_2.2.2.2.2.2.2.1 rfl hl (by decide) rfl (fun ls hl => ?_)
                        refine lv_goto (tgt := 199) hx hb eX3_joined_2.2.2.2.2.2.2.2 (by decide) ?_
                        exact J199 (p1 + p2) _ _ _ ⟨hP, hS, lv_sub hl [0] rfl, h⟩
                      · have h := if_f c54 h
                        refine lv_tableOut (tgt := 199) hx hb eX3_joined_2.2.1 (by rw [i2_t hr13]; omega) (by decide) ?_
                        exact J199 0 _ _ _ ⟨hP, hS, lv_sub hl [0] rfl, h⟩
set_option maxHeartbeats 4000000 in
set_option maxRecDepth 100000 in
theorem k_x3_push (l : Launch) (D : va_G) (a : Nat → Nat) (p0 : Int) (sz : Nat) (s : MS) (o : MS) (h : m_x3_push p0 s = some o) : yWv l yX3_push cX3_push 2 none { frames := 0, cells := 0, slots := 0, locals := 0 } D sz [.ref (a 80), .int (i2 p0)] (CS D a s) (CS D a o) := by
  refine Met.ofW (cc := cX3_push) (maxL := 2) (ret := none) (by decide) rfl ?_
  intro p e s₀ m args below meth c s₁ B hml hv
  obtain ⟨rfl, ⟨hsz, hP, hK, hD0⟩, hN⟩ := hv
  have hx := B.exec
  have hb := B.bytes
  have hr := B.returns
  have hts := atoms_spec (ws := wz yX3_push cX3_push 2 none) B.pre
  have ht : ∀ w ∈ lw_gd, w.before _ s₀ = true := fun w h => hts w (List.mem_cons_of_mem _ h)
  have hown : s₀.vm.findClass RX3 = some m.cls := findClass_of_methodNamed B.named
  have hlocks := B.notSynchronized
  subst hsz
  have hD := hD0.self (sz := s₀.heap.size)
  generalize hAe : va_A (CS D a s) s₀.heap.size = A at hD ⊢
  have hA : ∀ q : Nat, s₀.heap.size ≤ q → A q := fun q h => by rw [← hAe]; exact Or.inr h
  have hS : va_S A s₀.heap s₀.heap [] := va_S.rf
  have hDD : ∀ t : MS, va_D A (CS D a t) := fun t => CW_D t hD
  have hl := lv_entry ([.ref (a 80), .int (i2 p0)]) (n := 2) (Nat.le_of_ble_eq_true rfl)
  rw [lg_entry_eq]
  generalize (lg_sl ([.ref (a 80), .int (i2 p0)]) ++ List.replicate (2 - (lg_sl ([.ref (a 80), .int (i2 p0)])).length) Slot.unset).toArray = ls at hl ⊢
  have hl : lv_has ls 2 [(0, .ref (a 80)), (1, .int (i2 p0))] := hl
  unfold m_x3_push at h
  refine y_head (pcJ := 29) (σ := MS) (fun u H locs ls => va_P D vwCl (CS D a u) H ∧ va_S A s₀.heap H locs ∧ lv_has ls 2 [] ∧ m_x3_push_J29 u = some o) (fun u => []) (fun u H locs ls hI => ?_) (fun J29 => ?_)
  · obtain ⟨hP, hS, hl, h⟩ := hI
    obtain ⟨s1, rfl⟩ : ∃ z, z = u := ⟨u, rfl⟩
    have hP : va_P D vwCl (CS D a s1) H := hP
    have hl : lv_has ls 2 [] := hl
    have h : m_x3_push_J29 s1 = some o := h
    unfold m_x3_push_J29 at h
    obtain rfl := Option.some.inj h
    exact W.vret hx hb hr (fun t ht hW => ⟨⟨(), rfl, trivial, by rw [ht]; exact hP, va_K.moved hW.alike hK, hDD _⟩, hS.F ht⟩) hS.2.2 eX3_push_18.2.2.2.2.2.2.2
  refine lv_aload_n hx hb eX3_pop_16.2.2.2.2.2.2.2 rfl (lv_at hl 0 rfl) ?_
  refine va_get (D := D) (ci := 3) (v := .int (i2 (gI s 1601))) (C := RX3) (T := TX3) (N := 10) hx hb ht inX3 hown hK hP 80 CW_80 rfl 1 (by decide) (ht (.fieldLink RX3 19 "CloneVolumes$Machine" "top" "I") fl_X3_19) (fun _ h9 => h9) rfl eX3_push_1.1 ?_
  refine lv_bipush (v := 64) hx hb eX3_push_1.2.1 (by decide) ?_
  obtain ⟨hr2, h⟩ := rg_e h
  refine lv_icmp_ge (tgt := 29) hx hb eX3_push_1.2.2.1 (by decide) (fun c3 => ?_) (fun c3 => ?_)
  · have h := if_t ((i2_le (x := 64) (y := (gI s 1601)) (by decide) hr2).mp c3) h
    exact J29 s _ _ _ ⟨hP, hS, lv_sub hl [] rfl, h⟩
  · have h := if_f (mt (i2_le (x := 64) (y := (gI s 1601)) (by decide) hr2).mpr c3) h
    refine lv_aload_n hx hb eX3_push_1.2.2.2.1 rfl (lv_at hl 0 rfl) ?_
    refine va_get (D := D) (ci := 3) (v := .ref (a 81)) (C := RX3) (T := TX3) (N := 10) hx hb ht inX3 hown hK hP 80 CW_80 rfl 0 (by decide) (ht (.fieldLink RX3 11 "CloneVolumes$Machine" "stack" "[I") fl_X3_11) (fun _ h9 => h9) rfl eX3_push_1.2.2.2.2.1 ?_
    refine lv_aload_n hx hb eX3_push_1.2.2.2.2.2.1 rfl (lv_at hl 0 rfl) ?_
    refine va_get (D := D) (ci := 3) (v := .int (i2 (gI s 1601))) (C := RX3) (T := TX3) (N := 10) hx hb ht inX3 hown hK hP 80 CW_80 rfl 1 (by decide) (ht (.fieldLink RX3 19 "CloneVolumes$Machine" "top" "I") fl_X3_19) (fun _ h9 => h9) rfl eX3_push_1.2.2.2.2.2.2.1 ?_
    refine lv_iload_n hx hb eX3_push_1.2.2.2.2.2.2.2 rfl (lv_at hl 1 rfl) ?_
    obtain ⟨hi4, h⟩ := inb_e h
    refine ya_iast (i := (gI s 1601)) (x := p0) hx hb hK hP (hDD _) hS 81 0 CW_81 rfl (by decide) hi4 eX3_push_18.1 (CW_w81 _) (fun H locs hP hS => ?_)
    obtain ⟨s5, hs5, h⟩ := st_e h
    rw [hs5] at hP
    refine lv_aload_n hx hb eX3_push_18.2.1 rfl (lv_at hl 0 rfl) ?_
    refine lv_dup hx hb eX3_push_18.2.2.1 rfl ?_
    refine va_get (D := D) (ci := 3) (v := .int (i2 (gI s5 1601))) (C := RX3) (T := TX3) (N := 10) hx hb ht inX3 hown hK hP 80 CW_80 rfl 1 (by decide) (ht (.fieldLink RX3 19 "CloneVolumes$Machine" "top" "I") fl_X3_19) (fun _ h9 => h9) rfl eX3_push_18.2.2.2.1 ?_
    refine lv_iconst (v := 1) hx hb eX3_push_18.2.2.2.2.1 (by decide) ?_
    refine lv_iadd hx hb eX3_push_18.2.2.2.2.2.1 ?_
    refine z_topi (y := i2 ((gI s5 1601) + 1)) (i2_add (gI s5 1601) 1) ?_
    refine ya_put (D := D) (ci := 3) (v := .int (i2 ((gI s5 1601) + 1))) (ty := .int) (C := RX3) (T := TX3) (N := 10) hx hb ht inX3 tyX3 tyX3_ok nmX3 hown hK hP (hDD _) hS 80 CW_80 rfl 1 (by decide) (ht (.fieldLink RX3 19 "CloneVolumes$Machine" "top" "I") fl_X3_19) (fun _ h9 => h9) rfl (by decide +kernel) rfl rfl (Nat.le_of_ble_eq_true rfl) eX3_push_18.2.2.2.2.2.2.1 (CW_w80_1 ((gI s5 1601) + 1)) (fun H locs hP hS => ?_)
    obtain ⟨s6, hs6, h⟩ := st_e h
    rw [hs6] at hP
    exact J29 s6 _ _ _ ⟨hP, hS, lv_sub hl [] rfl, h⟩
set_option maxHeartbeats 4000000 in
set_option maxRecDepth 100000 in
theorem k_x3_changed (l : Launch) (D : va_G) (a : Nat → Nat) (p0 : Int) (p1 : Int) (s : MS) (o : Int) (h : m_x3_changed p0 p1 s = some o) : yRi l yX3_changed cX3_changed 3 (some .int) { frames := 0, cells := 0, slots := 0, locals := 0 } D [.ref (a 80), .int (i2 p0), .int (i2 p1)] (CS D a s) (i2 o) := by
  refine Met.ofW (cc := cX3_changed) (maxL := 3) (ret := (some .int)) (by decide) rfl ?_
  intro p e s₀ m args below meth c s₁ B hml hv
  obtain ⟨rfl, ⟨hP, hK⟩, hN⟩ := hv
  have hx := B.exec
  have hb := B.bytes
  have hr := B.returns
  have hts := atoms_spec (ws := wz yX3_changed cX3_changed 3 (some .int)) B.pre
  have ht : ∀ w ∈ lw_gd, w.before _ s₀ = true := fun w h => hts w (List.mem_cons_of_mem _ h)
  have hown : s₀.vm.findClass RX3 = some m.cls := findClass_of_methodNamed B.named
  have hlocks := B.notSynchronized
  have hS : va_S (fun _ => False) s₀.heap s₀.heap [] := va_S.rf
  have hl := lv_entry ([.ref (a 80), .int (i2 p0), .int (i2 p1)]) (n := 3) (Nat.le_of_ble_eq_true rfl)
  rw [lg_entry_eq]
  generalize (lg_sl ([.ref (a 80), .int (i2 p0), .int (i2 p1)]) ++ List.replicate (3 - (lg_sl ([.ref (a 80), .int (i2 p0), .int (i2 p1)])).length) Slot.unset).toArray = ls at hl ⊢
  have hl : lv_has ls 3 [(0, .ref (a 80)), (1, .int (i2 p0)), (2, .int (i2 p1))] := hl
  unfold m_x3_changed at h
  refine y_head (pcJ := 69) (σ := Int) (fun u H locs ls => va_P D vwCl (CS D a s) H ∧ va_S (fun _ => False) s₀.heap H locs ∧ lv_has ls 3 [] ∧ m_x3_changed_J69 s u = some o) (fun u => [.int (i2 u)]) (fun u H locs ls hI => ?_) (fun J69 => ?_)
  · obtain ⟨hP, hS, hl, h⟩ := hI
    obtain ⟨x1, rfl⟩ : ∃ z, z = u := ⟨u, rfl⟩
    have hP : va_P D vwCl (CS D a s) H := hP
    have hl : lv_has ls 3 [] := hl
    have h : m_x3_changed_J69 s x1 = some o := h
    unfold m_x3_changed_J69 at h
    obtain rfl := Option.some.inj h
    exact W.iret (v := (i2 x1)) hx hb hr (fun t ht hW => ⟨⟨_, (), rfl, rfl, trivial⟩, hS.F ht⟩) hS.2.2 eX3_changed_64.2.2.2.2.1
  refine y_head (pcJ := 37) (σ := Unit) (fun u H locs ls => va_P D vwCl (CS D a s) H ∧ va_S (fun _ => False) s₀.heap H locs ∧ lv_has ls 3 [] ∧ m_x3_changed_J37 s u = some o) (fun u => []) (fun u H locs ls hI => ?_) (fun J37 => ?_)
  · obtain ⟨hP, hS, hl, h⟩ := hI
    skip
    have hP : va_P D vwCl (CS D a s) H := hP
    have hl : lv_has ls 3 [] := hl
    have h : m_x3_changed_J37 s () = some o := h
    unfold m_x3_changed_J37 at h
    refine lv_iconst (v := 0) hx hb eX3_changed_33.2.2.1 (by decide) ?_
    obtain rfl := Option.some.inj h
    exact W.iret (v := 0) hx hb hr (fun t ht hW => ⟨⟨_, (), rfl, rfl, trivial⟩, hS.F ht⟩) hS.2.2 eX3_changed_33.2.2.2.1
  refine lv_iload_n hx hb eX1_plantLow_91.2.2.2.2.2.2.1 rfl (lv_at hl 1 rfl) ?_
  refine lv_bipush (v := (-12)) hx hb eX1_plantLow_91.2.2.2.2.2.2.2 (by decide) ?_
  obtain ⟨hr2, h⟩ := rg_e h
  refine lv_icmp_ne (tgt := 10) hx hb eX3_changed_3.1 (by decide) (fun c3 => ?_) (fun c3 => ?_)
  · rw [show ((-12) : Int32) = i2 (-12) from by decide] at c3
    have h := if_f (mt (i2_eq (x := p0) (y := (-12)) hr2 (by decide)).mpr c3) h
    refine lv_iload_n hx hb eX3_changed_3.2.2.2.2.2.1 rfl (lv_at hl 2 rfl) ?_
    obtain ⟨hr4, h⟩ := rg_e h
    refine lv_if_lt (tgt := 37) hx hb eX3_changed_3.2.2.2.2.2.2.1 (by decide) (fun c5 => ?_) (fun c5 => ?_)
    · have h := if_t ((i2_lt (x := p1) (y := 0) hr4 (by decide)).mp c5) h
      exact J37 () _ _ _ ⟨hP, hS, lv_sub hl [] rfl, h⟩
    · have h := if_f (mt (i2_lt (x := p1) (y := 0) hr4 (by decide)).mpr c5) h
      refine lv_iload_n hx hb eX3_changed_3.2.2.2.2.2.2.2 rfl (lv_at hl 2 rfl) ?_
      refine lv_aload_n hx hb eX3_changed_15.1 rfl (lv_at hl 0 rfl) ?_
      refine va_get (D := D) (ci := 3) (v := .ref (a 53)) (C := RX3) (T := TX3) (N := 10) hx hb ht inX3 hown hK hP 80 CW_80 rfl 9 (by decide) (ht (.fieldLink RX3 15 "CloneVolumes$Machine" "state" "LCloneVolumes$State;") fl_X3_15) (fun _ h9 => h9) rfl eX3_changed_15.2.1 ?_
      refine va_get (D := D) (ci := 8) (v := .int (i2 (gI s 1060))) (C := RX8) (T := TX8) (N := 11) hx hb ht inX8 hown hK hP 53 CW_53 rfl 0 (by decide) (ht (.fieldLink RX3 72 "CloneVolumes$State" "blocks" "I") fl_X3_72) (fun _ h9 => h9) rfl eX3_changed_15.2.2.1 ?_
      obtain ⟨hr6, h⟩ := rg_e h
      obtain ⟨hr7, h⟩ := rg_e h
      refine lv_icmp_ge (tgt := 37) hx hb eX3_changed_15.2.2.2.1 (by decide) (fun c8 => ?_) (fun c8 => ?_)
      · have h := if_t ((i2_le (x := (gI s 1060)) (y := p1) hr7 hr6).mp c8) h
        exact J37 () _ _ _ ⟨hP, hS, lv_sub hl [] rfl, h⟩
      · have h := if_f (mt (i2_le (x := (gI s 1060)) (y := p1) hr7 hr6).mpr c8) h
        refine lv_aload_n hx hb eX3_changed_15.2.2.2.2.1 rfl (lv_at hl 0 rfl) ?_
        refine va_get (D := D) (ci := 3) (v := .ref (a 53)) (C := RX3) (T := TX3) (N := 10) hx hb ht inX3 hown hK hP 80 CW_80 rfl 9 (by decide) (ht (.fieldLink RX3 15 "CloneVolumes$Machine" "state" "LCloneVolumes$State;") fl_X3_15) (fun _ h9 => h9) rfl eX3_changed_15.2.2.2.2.2.1 ?_
        refine va_get (D := D) (ci := 8) (v := .ref (a 54)) (C := RX8) (T := TX8) (N := 11) hx hb ht inX8 hown hK hP 53 CW_53 rfl 3 (by decide) (ht (.fieldLink RX3 77 "CloneVolumes$State" "count" "[I") fl_X3_77) (fun _ h9 => h9) rfl eX3_changed_15.2.2.2.2.2.2.1 ?_
        refine lv_iload_n hx hb eX3_changed_15.2.2.2.2.2.2.2 rfl (lv_at hl 2 rfl) ?_
        obtain ⟨y9, ey9, iy9, h⟩ := rdI_e h
        refine ya_iald (i := p1) hx hb hK hP 54 0 CW_54 rfl (by decide) ey9 iy9 eX3_changed_33.1 ?_
        obtain ⟨hr10, h⟩ := rg_e h
        refine lv_if_ne (tgt := 39) hx hb eX3_changed_33.2.1 (by decide) (fun c11 => ?_) (fun c11 => ?_)
        · have h := if_f (mt (i2_eq (x := y9) (y := 0) hr10 (by decide)).mpr c11) h
          refine lv_iload_n hx hb eX3_changed_33.2.2.2.2.1 rfl (lv_at hl 1 rfl) ?_
          refine lv_bipush (v := (-13)) hx hb eX3_changed_33.2.2.2.2.2.1 (by decide) ?_
          obtain ⟨hr12, h⟩ := rg_e h
          refine lv_icmp_ne (tgt := 57) hx hb eX3_changed_33.2.2.2.2.2.2.1 (by decide) (fun c13 => ?_) (fun c13 => ?_)
          · rw [show ((-13) : Int32) = i2 (-13) from by decide] at c13
            have h := if_f (mt (i2_eq (x := p0) (y := (-13)) hr12 (by decide)).mpr c13) h
            refine lv_aload_n hx hb eX3_changed_46.2.2.2.2.2.1 rfl (lv_at hl 0 rfl) ?_
            refine va_get (D := D) (ci := 3) (v := .ref (a 53)) (C := RX3) (T := TX3) (N := 10) hx hb ht inX3 hown hK hP 80 CW_80 rfl 9 (by decide) (ht (.fieldLink RX3 15 "CloneVolumes$Machine" "state" "LCloneVolumes$State;") fl_X3_15) (fun _ h9 => h9) rfl eX3_changed_46.2.2.2.2.2.2.1 ?_
            refine va_get (D := D) (ci := 8) (v := .ref (a 58)) (C := RX8) (T := TX8) (N := 11) hx hb ht inX8 hown hK hP 53 CW_53 rfl 7 (by decide) (ht (.fieldLink RX3 79 "CloneVolumes$State" "keys" "[I") fl_X3_79) (fun _ h9 => h9) rfl eX3_changed_46.2.2.2.2.2.2.2 ?_
            refine lv_iload_n hx hb eX3_changed_64.1 rfl (lv_at hl 2 rfl) ?_
            refine lv_bipush (v := 6) hx hb eX3_changed_64.2.1 (by decide) ?_
            refine lv_imul hx hb eX3_changed_64.2.2.1 ?_
            refine z_topi (y := i2 (p1 * 6)) (i2_mul p1 6) ?_
            obtain ⟨y14, ey14, iy14, h⟩ := rdI_e h
            refine ya_iald (i := (p1 * 6)) hx hb hK hP 58 0 CW_58 rfl (by decide) ey14 iy14 eX3_changed_64.2.2.2.1 ?_
            exact J69 y14 _ _ _ ⟨hP, hS, lv_sub hl [] rfl, h⟩
          · rw [show ((-13) : Int32) = i2 (-13) from by decide] at c13
            have h := if_t ((i2_eq (x := p0) (y := (-13)) hr12 (by decide)).mp c13) h
            refine lv_aload_n hx hb eX3_changed_33.2.2.2.2.2.2.2 rfl (lv_at hl 0 rfl) ?_
            refine va_get (D := D) (ci := 3) (v := .ref (a 53)) (C := RX3) (T := TX3) (N := 10) hx hb ht inX3 hown hK hP 80 CW_80 rfl 9 (by decide) (ht (.fieldLink RX3 15 "CloneVolumes$Machine" "state" "LCloneVolumes$State;") fl_X3_15) (fun _ h9 => h9) rfl eX3_changed_46.1 ?_
            refine va_get (D := D) (ci := 8) (v := .ref (a 54)) (C := RX8) (T := TX8) (N := 11) hx hb ht inX8 hown hK hP 53 CW_53 rfl 3 (by decide) (ht (.fieldLink RX3 77 "CloneVolumes$State" "count" "[I") fl_X3_77) (fun _ h9 => h9) rfl eX3_changed_46.2.1 ?_
            refine lv_iload_n hx hb eX3_changed_46.2.2.1 rfl (lv_at hl 2 rfl) ?_
            obtain ⟨y15, ey15, iy15, h⟩ := rdI_e h
            refine ya_iald (i := p1) hx hb hK hP 54 0 CW_54 rfl (by decide) ey15 iy15 eX3_changed_46.2.2.2.1 ?_
            refine lv_goto (tgt := 69) hx hb eX3_changed_46.2.2.2.2.1 (by decide) ?_
            exact J69 y15 _ _ _ ⟨hP, hS, lv_sub hl [] rfl, h⟩
        · have h := if_t ((i2_eq (x := y9) (y := 0) hr10 (by decide)).mp c11) h
          exact J37 () _ _ _ ⟨hP, hS, lv_sub hl [] rfl, h⟩
  · rw [show ((-12) : Int32) = i2 (-12) from by decide] at c3
    have h := if_t ((i2_eq (x := p0) (y := (-12)) hr2 (by decide)).mp c3) h
    refine lv_iconst (v := 1) hx hb eX3_changed_3.2.1 (by decide) ?_
    refine lv_iload_n hx hb eX3_changed_3.2.2.1 rfl (lv_at hl 2 rfl) ?_
    refine lv_isub hx hb eX3_changed_3.2.2.2.1 ?_
    refine z_topi (y := i2 (1 - p1)) (i2_sub 1 p1) ?_
    obtain rfl := Option.some.inj h
    exact W.iret (v := (i2 (1 - p1))) hx hb hr (fun t ht hW => ⟨⟨_, (), rfl, rfl, trivial⟩, hS.F ht⟩) hS.2.2 eX3_changed_3.2.2.2.2.1
set_option maxHeartbeats 4000000 in
set_option maxRecDepth 100000 in
theorem k_x3_fact (l : Launch) (D : va_G) (a : Nat → Nat) (p0 : Int) (s : MS) (o : Int) (h : m_x3_fact p0 s = some o) : yRi l yX3_fact cX3_fact 2 (some .int) { frames := 0, cells := 0, slots := 0, locals := 0 } D [.ref (a 80), .int (i2 p0)] (CS D a s) (i2 o) := by
  refine Met.ofW (cc := cX3_fact) (maxL := 2) (ret := (some .int)) (by decide) rfl ?_
  intro p e s₀ m args below meth c s₁ B hml hv
  obtain ⟨rfl, ⟨hP, hK⟩, hN⟩ := hv
  have hx := B.exec
  have hb := B.bytes
  have hr := B.returns
  have hts := atoms_spec (ws := wz yX3_fact cX3_fact 2 (some .int)) B.pre
  have ht : ∀ w ∈ lw_gd, w.before _ s₀ = true := fun w h => hts w (List.mem_cons_of_mem _ h)
  have hown : s₀.vm.findClass RX3 = some m.cls := findClass_of_methodNamed B.named
  have hlocks := B.notSynchronized
  have hS : va_S (fun _ => False) s₀.heap s₀.heap [] := va_S.rf
  have hl := lv_entry ([.ref (a 80), .int (i2 p0)]) (n := 2) (Nat.le_of_ble_eq_true rfl)
  rw [lg_entry_eq]
  generalize (lg_sl ([.ref (a 80), .int (i2 p0)]) ++ List.replicate (2 - (lg_sl ([.ref (a 80), .int (i2 p0)])).length) Slot.unset).toArray = ls at hl ⊢
  have hl : lv_has ls 2 [(0, .ref (a 80)), (1, .int (i2 p0))] := hl
  unfold m_x3_fact at h
  refine y_head (pcJ := 48) (σ := Unit) (fun u H locs ls => va_P D vwCl (CS D a s) H ∧ va_S (fun _ => False) s₀.heap H locs ∧ lv_has ls 2 [(0, .ref (a 80))] ∧ m_x3_fact_J48 s u = some o) (fun u => []) (fun u H locs ls hI => ?_) (fun J48 => ?_)
  · obtain ⟨hP, hS, hl, h⟩ := hI
    skip
    have hP : va_P D vwCl (CS D a s) H := hP
    have hl : lv_has ls 2 [(0, .ref (a 80))] := hl
    have h : m_x3_fact_J48 s () = some o := h
    unfold m_x3_fact_J48 at h
    refine lv_aload_n hx hb eX3_changed_64.2.2.2.2.2.2.2 rfl (lv_at hl 0 rfl) ?_
    refine va_get (D := D) (ci := 3) (v := .int (i2 (gI s 1602))) (C := RX3) (T := TX3) (N := 10) hx hb ht inX3 hown hK hP 80 CW_80 rfl 2 (by decide) (ht (.fieldLink RX3 51 "CloneVolumes$Machine" "number" "I") fl_X3_51) (fun _ h9 => h9) rfl eX3_fact_49.1 ?_
    obtain rfl := Option.some.inj h
    exact W.iret (v := (i2 (gI s 1602))) hx hb hr (fun t ht hW => ⟨⟨_, (), rfl, rfl, trivial⟩, hS.F ht⟩) hS.2.2 eX3_fact_49.2.1
  refine lv_iload_n hx hb eX3_changed_64.2.2.2.2.2.1 rfl (lv_at hl 1 rfl) ?_
  obtain ⟨hr1, h⟩ := rg_e h
  by_cases c2 : p0 = 11
  · have h := if_t c2 h
    refine lv_tableIn (off := 47) (tgt := 48) hx hb eX3_changed_64.2.2.2.2.2.2.1 (by rw [c2]; decide) (by rw [c2]; decide) (by rw [c2]; decide) (by decide) ?_
    exact J48 () _ _ _ ⟨hP, hS, lv_sub hl [0] rfl, h⟩
  · have h := if_f c2 h
    by_cases c3 : p0 = 12
    · have h := if_t c3 h
      refine lv_tableIn (off := 52) (tgt := 53) hx hb eX3_changed_64.2.2.2.2.2.2.1 (by rw [c3]; decide) (by rw [c3]; decide) (by rw [c3]; decide) (by decide) ?_
      refine lv_aload_n hx hb eX3_fact_49.2.2.1 rfl (lv_at hl 0 rfl) ?_
      refine va_get (D := D) (ci := 3) (v := .int (i2 (gI s 1603))) (C := RX3) (T := TX3) (N := 10) hx hb ht inX3 hown hK hP 80 CW_80 rfl 3 (by decide) (ht (.fieldLink RX3 54 "CloneVolumes$Machine" "source" "I") fl_X3_54) (fun _ h9 => h9) rfl eX3_fact_49.2.2.2.1 ?_
      obtain rfl := Option.some.inj h
      exact W.iret (v := (i2 (gI s 1603))) hx hb hr (fun t ht hW => ⟨⟨_, (), rfl, rfl, trivial⟩, hS.F ht⟩) hS.2.2 eX3_fact_49.2.2.2.2.1
    · have h := if_f c3 h
      by_cases c4 : p0 = 13
      · have h := if_t c4 h
        refine lv_tableIn (off := 57) (tgt := 58) hx hb eX3_changed_64.2.2.2.2.2.2.1 (by rw [c4]; decide) (by rw [c4]; decide) (by rw [c4]; decide) (by decide) ?_
        refine lv_aload_n hx hb eX3_fact_49.2.2.2.2.2.1 rfl (lv_at hl 0 rfl) ?_
        refine va_get (D := D) (ci := 3) (v := .int (i2 (gI s 1604))) (C := RX3) (T := TX3) (N := 10) hx hb ht inX3 hown hK hP 80 CW_80 rfl 4 (by decide) (ht (.fieldLink RX3 57 "CloneVolumes$Machine" "level" "I") fl_X3_57) (fun _ h9 => h9) rfl eX3_fact_49.2.2.2.2.2.2.1 ?_
        obtain rfl := Option.some.inj h
        exact W.iret (v := (i2 (gI s 1604))) hx hb hr (fun t ht hW => ⟨⟨_, (), rfl, rfl, trivial⟩, hS.F ht⟩) hS.2.2 eX3_fact_49.2.2.2.2.2.2.2
      · have h := if_f c4 h
        by_cases c5 : p0 = 14
        · have h := if_t c5 h
          refine lv_tableIn (off := 62) (tgt := 63) hx hb eX3_changed_64.2.2.2.2.2.2.1 (by rw [c5]; decide) (by rw [c5]; decide) (by rw [c5]; decide) (by decide) ?_
          refine lv_aload_n hx hb eX3_fact_63.1 rfl (lv_at hl 0 rfl) ?_
          refine va_get (D := D) (ci := 3) (v := .int (i2 (gI s 1605))) (C := RX3) (T := TX3) (N := 10) hx hb ht inX3 hown hK hP 80 CW_80 rfl 5 (by decide) (ht (.fieldLink RX3 60 "CloneVolumes$Machine" "entries" "I") fl_X3_60) (fun _ h9 => h9) rfl eX3_fact_63.2.1 ?_
          obtain rfl := Option.some.inj h
          exact W.iret (v := (i2 (gI s 1605))) hx hb hr (fun t ht hW => ⟨⟨_, (), rfl, rfl, trivial⟩, hS.F ht⟩) hS.2.2 eX3_fact_63.2.2.1
        · have h := if_f c5 h
          by_cases c6 : p0 = 15
          · have h := if_t c6 h
            refine lv_tableIn (off := 47) (tgt := 48) hx hb eX3_changed_64.2.2.2.2.2.2.1 (by rw [c6]; decide) (by rw [c6]; decide) (by rw [c6]; decide) (by decide) ?_
            exact J48 () _ _ _ ⟨hP, hS, lv_sub hl [0] rfl, h⟩
          · have h := if_f c6 h
            by_cases c7 : p0 = 16
            · have h := if_t c7 h
              refine lv_tableIn (off := 67) (tgt := 68) hx hb eX3_changed_64.2.2.2.2.2.2.1 (by rw [c7]; decide) (by rw [c7]; decide) (by rw [c7]; decide) (by decide) ?_
              refine lv_aload_n hx hb eX3_fact_63.2.2.2.1 rfl (lv_at hl 0 rfl) ?_
              refine va_get (D := D) (ci := 3) (v := .int (i2 (gI s 1606))) (C := RX3) (T := TX3) (N := 10) hx hb ht inX3 hown hK hP 80 CW_80 rfl 6 (by decide) (ht (.fieldLink RX3 63 "CloneVolumes$Machine" "count" "I") fl_X3_63) (fun _ h9 => h9) rfl eX3_fact_63.2.2.2.2.1 ?_
              obtain rfl := Option.some.inj h
              exact W.iret (v := (i2 (gI s 1606))) hx hb hr (fun t ht hW => ⟨⟨_, (), rfl, rfl, trivial⟩, hS.F ht⟩) hS.2.2 eX3_fact_63.2.2.2.2.2.1
            · have h := if_f c7 h
              by_cases c8 : p0 = 17
              · have h := if_t c8 h
                refine lv_tableIn (off := 72) (tgt := 73) hx hb eX3_changed_64.2.2.2.2.2.2.1 (by rw [c8]; decide) (by rw [c8]; decide) (by rw [c8]; decide) (by decide) ?_
                refine lv_aload_n hx hb eX3_fact_63.2.2.2.2.2.2.1 rfl (lv_at hl 0 rfl) ?_
                refine va_get (D := D) (ci := 3) (v := .int (i2 (gI s 1607))) (C := RX3) (T := TX3) (N := 10) hx hb ht inX3 hown hK hP 80 CW_80 rfl 7 (by decide) (ht (.fieldLink RX3 66 "CloneVolumes$Machine" "fresh" "I") fl_X3_66) (fun _ h9 => h9) rfl eX3_fact_63.2.2.2.2.2.2.2 ?_
                obtain rfl := Option.some.inj h
                exact W.iret (v := (i2 (gI s 1607))) hx hb hr (fun t ht hW => ⟨⟨_, (), rfl, rfl, trivial⟩, hS.F ht⟩) hS.2.2 eX3_fact_77.1
              · have h := if_f c8 h
                by_cases c9 : p0 = 18
                · have h := if_t c9 h
                  refine lv_tableIn (off := 77) (tgt := 78) hx hb eX3_changed_64.2.2.2.2.2.2.1 (by rw [c9]; decide) (by rw [c9]; decide) (by rw [c9]; decide) (by decide) ?_
                  refine lv_aload_n hx hb eX3_fact_77.2.1 rfl (lv_at hl 0 rfl) ?_
                  refine va_get (D := D) (ci := 3) (v := .int (i2 (gI s 1608))) (C := RX3) (T := TX3) (N := 10) hx hb ht inX3 hown hK hP 80 CW_80 rfl 8 (by decide) (ht (.fieldLink RX3 69 "CloneVolumes$Machine" "saved" "I") fl_X3_69) (fun _ h9 => h9) rfl eX3_fact_77.2.2.1 ?_
                  obtain rfl := Option.some.inj h
                  exact W.iret (v := (i2 (gI s 1608))) hx hb hr (fun t ht hW => ⟨⟨_, (), rfl, rfl, trivial⟩, hS.F ht⟩) hS.2.2 eX3_fact_77.2.2.2.1
                · have h := if_f c9 h
                  refine lv_tableOut (tgt := 83) hx hb eX3_changed_64.2.2.2.2.2.2.1 (by rw [i2_t hr1]; omega) (by decide) ?_
                  refine lv_iconst (v := 0) hx hb eX3_fact_77.2.2.2.2.1 (by decide) ?_
                  obtain rfl := Option.some.inj h
                  exact W.iret (v := 0) hx hb hr (fun t ht hW => ⟨⟨_, (), rfl, rfl, trivial⟩, hS.F ht⟩) hS.2.2 eX3_fact_77.2.2.2.2.2.1
set_option maxHeartbeats 4000000 in
set_option maxRecDepth 100000 in
theorem k_x3_value (l : Launch) (D : va_G) (a : Nat → Nat) (p1 : Int) (p2 : Int) (sz : Nat) (s : MS) (o : (Int × MS)) (h : m_x3_value p1 p2 s = some o) : yWi l yX3_value cX3_value 7 (some .int) { frames := 1, cells := 0, slots := 0, locals := 60 } D sz [.ref (a 80), .ref (a 37), .int (i2 p1), .int (i2 p2)] (CS D a s) (CS D a o.2) (i2 o.1) := by
  refine Met.ofW (cc := cX3_value) (maxL := 7) (ret := (some .int)) (by decide) rfl ?_
  intro p e s₀ m args below meth c s₁ B hml hv
  obtain ⟨rfl, ⟨hsz, hP, hK, hD0⟩, hN⟩ := hv
  have hx := B.exec
  have hb := B.bytes
  have hr := B.returns
  have hts := atoms_spec (ws := wz yX3_value cX3_value 7 (some .int)) B.pre
  have ht : ∀ w ∈ lw_gd, w.before _ s₀ = true := fun w h => hts w (List.mem_cons_of_mem _ h)
  have hown : s₀.vm.findClass RX3 = some m.cls := findClass_of_methodNamed B.named
  have hlocks := B.notSynchronized
  subst hsz
  have hD := hD0.self (sz := s₀.heap.size)
  generalize hAe : va_A (CS D a s) s₀.heap.size = A at hD ⊢
  have hA : ∀ q : Nat, s₀.heap.size ≤ q → A q := fun q h => by rw [← hAe]; exact Or.inr h
  have hS : va_S A s₀.heap s₀.heap [] := va_S.rf
  have hDD : ∀ t : MS, va_D A (CS D a t) := fun t => CW_D t hD
  have hl := lv_entry ([.ref (a 80), .ref (a 37), .int (i2 p1), .int (i2 p2)]) (n := 7) (Nat.le_of_ble_eq_true rfl)
  rw [lg_entry_eq]
  generalize (lg_sl ([.ref (a 80), .ref (a 37), .int (i2 p1), .int (i2 p2)]) ++ List.replicate (7 - (lg_sl ([.ref (a 80), .ref (a 37), .int (i2 p1), .int (i2 p2)])).length) Slot.unset).toArray = ls at hl ⊢
  have hl : lv_has ls 7 [(0, .ref (a 80)), (1, .ref (a 37)), (2, .int (i2 p1)), (3, .int (i2 p2))] := hl
  unfold m_x3_value at h
  refine y_head (pcJ := 125) (σ := MS) (fun u H locs ls => va_P D vwCl (CS D a u) H ∧ va_S A s₀.heap H locs ∧ lv_has ls 7 [(0, .ref (a 80))] ∧ m_x3_value_J125 u = some o) (fun u => []) (fun u H locs ls hI => ?_) (fun J125 => ?_)
  · obtain ⟨hP, hS, hl, h⟩ := hI
    obtain ⟨s1, rfl⟩ : ∃ z, z = u := ⟨u, rfl⟩
    have hP : va_P D vwCl (CS D a s1) H := hP
    have hl : lv_has ls 7 [(0, .ref (a 80))] := hl
    have h : m_x3_value_J125 s1 = some o := h
    unfold m_x3_value_J125 at h
    refine lv_aload_n hx hb eX3_value_116.2.2.2.1 rfl (lv_at hl 0 rfl) ?_
    obtain ⟨⟨r4, s3⟩, hc2, h⟩ := bn_e h
    refine ywV (r0 := i2 r4) (As := []) (rest := []) (C := RX3) (n := 0) (ws' := CS D a s3) ⟨hx, hb, hml, hown, ht⟩ (k_x3_pop l D a _ _ _ hc2) (zgV ml_X3_39 im_X3_pop se_X3_pop in_X3 co_X3_pop) rfl rfl (by decide +kernel) ⟨Nat.le_of_ble_eq_true rfl, Nat.le_of_ble_eq_true rfl⟩ hN hK hP (hDD _) hS hA 80 CW_80 rfl rfl rfl hl.1 rfl (Nat.le_of_ble_eq_true rfl) eX3_value_116.2.2.2.2.1 ⟨Nat.le_of_ble_eq_true rfl, Nat.le_of_ble_eq_true rfl⟩ (fun H locs hP hS => ?_)
    obtain rfl := Option.some.inj h
    exact W.iret (v := (i2 r4)) hx hb hr (fun t ht hW => ⟨⟨_, (), rfl, rfl, by rw [ht]; exact hP, va_K.moved hW.alike hK, hDD _⟩, hS.F ht⟩) hS.2.2 eX3_value_116.2.2.2.2.2.1
  refine y_loop (pcJ := 8) (σ := Int × Int × MS) (fun n u H locs ls => va_P D vwCl (CS D a u.2.2) H ∧ va_S A s₀.heap H locs ∧ lv_has ls 7 [(0, .ref (a 80)), (1, .ref (a 37)), (3, .int (i2 u.1)), (4, .int (i2 u.2.1))] ∧ m_x3_value_L8 n u.1 u.2.1 u.2.2 = some o) (fun u => []) (fun u H locs ls hI => by obtain ⟨_, _, _, h⟩ := hI; cases h) (fun n8 ih8 u H locs ls hI => ?_) (fun J8 => ?_)
  · obtain ⟨hP, hS, hl, h⟩ := hI
    obtain ⟨x5, x6, s7⟩ := u
    have hP : va_P D vwCl (CS D a s7) H := hP
    have hl : lv_has ls 7 [(0, .ref (a 80)), (1, .ref (a 37)), (3, .int (i2 x5)), (4, .int (i2 x6))] := hl
    have h : m_x3_value_b8 (m_x3_value_L8 n8) x5 x6 s7 = some o := h
    unfold m_x3_value_b8 at h
    refine y_head (pcJ := 119) (σ := Int × Int × MS) (fun u H locs ls => va_P D vwCl (CS D a u.2.2) H ∧ va_S A s₀.heap H locs ∧ lv_has ls 7 [(0, .ref (a 80)), (1, .ref (a 37)), (3, .int (i2 u.1)), (4, .int (i2 u.2.1))] ∧ m_x3_value_J119 (m_x3_value_L8 n8) u.1 u.2.1 u.2.2 = some o) (fun u => []) (fun u H locs ls hI => ?_) (fun J119 => ?_)
    · obtain ⟨hP, hS, hl, h⟩ := hI
      obtain ⟨x8, x9, s10⟩ := u
      have hP : va_P D vwCl (CS D a s10) H := hP
      have hl : lv_has ls 7 [(0, .ref (a 80)), (1, .ref (a 37)), (3, .int (i2 x8)), (4, .int (i2 x9))] := hl
      have h : m_x3_value_J119 (m_x3_value_L8 n8) x8 x9 s10 = some o := h
      unfold m_x3_value_J119 at h
      refine lv_iinc (v := i2 (x9 + 1)) (lv' := [(4, .int (i2 (x9 + 1))), (0, .ref (a 80)), (1, .ref (a 37)), (3, .int (i2 x8))]) hx hb eX3_value_116.2.1 hl (k := 3) rfl (i2_add x9 1) (by decide) rfl (fun ls hl => ?_)
      refine lv_goto (tgt := 8) hx hb eX3_value_116.2.2.1 (by decide) ?_
      exact ih8 (x8, x9 + 1, s10) _ _ _ ⟨hP, hS, lv_sub hl [1, 2, 3, 0] rfl, h⟩
    refine lv_iload hx hb eX3_value_0.2.2.2.2.2.1 (lv_at hl 3 rfl) ?_
    obtain ⟨hr11, h⟩ := rg_e h
    refine lv_if_lt (tgt := 125) hx hb eX3_value_0.2.2.2.2.2.2.1 (by decide) (fun c12 => ?_) (fun c12 => ?_)
    · have h := if_t ((i2_lt (x := x6) (y := 0) hr11 (by decide)).mp c12) h
      exact J125 s7 _ _ _ ⟨hP, hS, lv_sub hl [0] rfl, h⟩
    · have h := if_f (mt (i2_lt (x := x6) (y := 0) hr11 (by decide)).mpr c12) h
      refine lv_iload hx hb eX3_value_0.2.2.2.2.2.2.2 (lv_at hl 3 rfl) ?_
      refine lv_iload_n hx hb eX3_value_15.1 rfl (lv_at hl 2 rfl) ?_
      obtain ⟨hr13, h⟩ := rg_e h
      obtain ⟨hr14, h⟩ := rg_e h
      refine lv_icmp_ge (tgt := 125) hx hb eX3_value_15.2.1 (by decide) (fun c15 => ?_) (fun c15 => ?_)
      · have h := if_t ((i2_le (x := x5) (y := x6) hr14 hr13).mp c15) h
        exact J125 s7 _ _ _ ⟨hP, hS, lv_sub hl [0] rfl, h⟩
      · have h := if_f (mt (i2_le (x := x5) (y := x6) hr14 hr13).mpr c15) h
        refine lv_iload hx hb eX3_value_15.2.2.1 (lv_at hl 3 rfl) ?_
        refine lv_aload_n hx hb eX3_value_15.2.2.2.1 rfl (lv_at hl 1 rfl) ?_
        refine va_get (D := D) (ci := 0) (v := .int (i2 (gI s7 741))) (C := RX0) (T := TX0) (N := 2) hx hb ht inX0 hown hK hP 37 CW_37 rfl 1 (by decide) (ht (.fieldLink RX3 23 "CloneVolumes$Code" "size" "I") fl_X3_23) (fun _ h9 => h9) rfl eX3_value_15.2.2.2.2.1 ?_
        obtain ⟨hr16, h⟩ := rg_e h
        obtain ⟨hr17, h⟩ := rg_e h
        refine lv_icmp_ge (tgt := 125) hx hb eX3_value_15.2.2.2.2.2.1 (by decide) (fun c18 => ?_) (fun c18 => ?_)
        · have h := if_t ((i2_le (x := (gI s7 741)) (y := x6) hr17 hr16).mp c18) h
          exact J125 s7 _ _ _ ⟨hP, hS, lv_sub hl [0] rfl, h⟩
        · have h := if_f (mt (i2_le (x := (gI s7 741)) (y := x6) hr17 hr16).mpr c18) h
          refine lv_aload_n hx hb eX3_value_15.2.2.2.2.2.2.1 rfl (lv_at hl 1 rfl) ?_
          refine va_get (D := D) (ci := 0) (v := .ref (a 38)) (C := RX0) (T := TX0) (N := 2) hx hb ht inX0 hown hK hP 37 CW_37 rfl 0 (by decide) (ht (.fieldLink RX3 28 "CloneVolumes$Code" "steps" "[I") fl_X3_28) (fun _ h9 => h9) rfl eX3_value_15.2.2.2.2.2.2.2 ?_
          refine lv_iload hx hb eX3_value_32.1 (lv_at hl 3 rfl) ?_
          obtain ⟨y19, ey19, iy19, h⟩ := rdI_e h
          refine ya_iald (i := x6) hx hb hK hP 38 0 CW_38 rfl (by decide) ey19 iy19 eX3_value_32.2.1 ?_
          refine lv_istore (lv' := [(5, .int (i2 y19)), (0, .ref (a 80)), (1, .ref (a 37)), (3, .int (i2 x5)), (4, .int (i2 x6))]) hx hb eX3_value_32.2.2.1 hl (by decide) rfl (fun ls hl => ?_)
          refine lv_iload hx hb eX3_value_32.2.2.2.1 (lv_at hl 0 rfl) ?_
          obtain ⟨hr20, h⟩ := rg_e h
          refine lv_if_lt (tgt := 51) hx hb eX3_value_32.2.2.2.2.1 (by decide) (fun c21 => ?_) (fun c21 => ?_)
          · have h := if_t ((i2_lt (x := y19) (y := 0) hr20 (by decide)).mp c21) h
            refine lv_iload hx hb eX3_value_48.2.1 (lv_at hl 0 rfl) ?_
            refine lv_bipush (v := (-100)) hx hb eX3_value_48.2.2.1 (by decide) ?_
            obtain ⟨hr22, h⟩ := rg_e h
            refine lv_icmp_gt (tgt := 74) hx hb eX3_value_48.2.2.2.1 (by decide) (fun c23 => ?_) (fun c23 => ?_)
            · rw [show ((-100) : Int32) = i2 (-100) from by decide] at c23
              have h := if_t ((i2_lt (x := (-100)) (y := y19) (by decide) hr22).mp c23) h
              refine lv_iload hx hb eX3_value_64.2.2.2.2.1 (lv_at hl 0 rfl) ?_
              refine lv_bipush (v := (-12)) hx hb eX3_value_64.2.2.2.2.2.1 (by decide) ?_
              obtain ⟨hr24, h⟩ := rg_e h
              refine lv_icmp_gt (tgt := 98) hx hb eX3_value_64.2.2.2.2.2.2.1 (by decide) (fun c25 => ?_) (fun c25 => ?_)
              · rw [show ((-12) : Int32) = i2 (-12) from by decide] at c25
                have h := if_t ((i2_lt (x := (-12)) (y := y19) (by decide) hr24).mp c25) h
                refine lv_aload_n hx hb eX3_value_82.2.2.2.2.2.2.2 rfl (lv_at hl 1 rfl) ?_
                obtain ⟨⟨r28, s27⟩, hc26, h⟩ := bn_e h
                refine ywV (r0 := i2 r28) (As := []) (rest := []) (C := RX3) (n := 0) (ws' := CS D a s27) ⟨hx, hb, hml, hown, ht⟩ (k_x3_pop l D a _ _ _ hc26) (zgV ml_X3_39 im_X3_pop se_X3_pop in_X3 co_X3_pop) rfl rfl (by decide +kernel) ⟨Nat.le_of_ble_eq_true rfl, Nat.le_of_ble_eq_true rfl⟩ hN hK hP (hDD _) hS hA 80 CW_80 rfl rfl rfl hl.1 rfl (Nat.le_of_ble_eq_true rfl) eX3_value_99.1 ⟨Nat.le_of_ble_eq_true rfl, Nat.le_of_ble_eq_true rfl⟩ (fun H locs hP hS => ?_)
                refine lv_istore (lv' := [(6, .int (i2 r28)), (5, .int (i2 y19)), (0, .ref (a 80)), (1, .ref (a 37)), (3, .int (i2 x5)), (4, .int (i2 x6))]) hx hb eX3_value_99.2.1 hl (by decide) rfl (fun ls hl => ?_)
                refine lv_aload_n hx hb eX3_value_99.2.2.1 rfl (lv_at hl 2 rfl) ?_
                refine lv_iload hx hb eX3_value_99.2.2.2.1 (lv_at hl 1 rfl) ?_
                refine lv_aload_n hx hb eX3_value_99.2.2.2.2.1 rfl (lv_at hl 2 rfl) ?_
                obtain ⟨⟨r31, s30⟩, hc29, h⟩ := bn_e h
                refine ywV (r0 := i2 r31) (As := []) (rest := [.int (i2 y19), .ref (a 80)]) (C := RX3) (n := 0) (ws' := CS D a s30) ⟨hx, hb, hml, hown, ht⟩ (k_x3_pop l D a _ _ _ hc29) (zgV ml_X3_39 im_X3_pop se_X3_pop in_X3 co_X3_pop) rfl rfl (by decide +kernel) ⟨Nat.le_of_ble_eq_true rfl, Nat.le_of_ble_eq_true rfl⟩ hN hK hP (hDD _) hS hA 80 CW_80 rfl rfl rfl hl.1 rfl (Nat.le_of_ble_eq_true rfl) eX3_value_99.2.2.2.2.2.1 ⟨Nat.le_of_ble_eq_true rfl, Nat.le_of_ble_eq_true rfl⟩ (fun H locs hP hS => ?_)
                refine lv_iload hx hb eX3_value_99.2.2.2.2.2.2.1 (lv_at hl 0 rfl) ?_
                obtain ⟨r33, hc32, h⟩ := bn_e h
                refine ycS (r0 := i2 r33) (As := [.int (i2 y19), .int (i2 r31), .int (i2 r28)]) (rest := [.ref (a 80)]) (n := 3) ⟨hx, hb, hml, hown, ht⟩ (k_x3_joined l D a y19 r31 r28 _ _ hc32) (zgT ml_X3_47 st_X3_joined in_X3 co_X3_joined) rfl rfl (by decide +kernel) ⟨Nat.le_of_ble_eq_true rfl, Nat.le_of_ble_eq_true rfl⟩ hN hK hP hS rfl hl.1 rfl (Nat.le_of_ble_eq_true rfl) eX3_value_99.2.2.2.2.2.2.2 ⟨Nat.le_of_ble_eq_true rfl, Nat.le_of_ble_eq_true rfl⟩ (fun H locs hP hS => ?_)
                obtain ⟨s35, hc34, h⟩ := bn_e h
                refine ywVv (As := [.int (i2 r33)]) (rest := []) (C := RX3) (n := 1) (ws' := CS D a s35) ⟨hx, hb, hml, hown, ht⟩ (k_x3_push l D a r33 _ _ _ hc34) (zgV ml_X3_31 im_X3_push se_X3_push in_X3 co_X3_push) rfl rfl (by decide +kernel) ⟨Nat.le_of_ble_eq_true rfl, Nat.le_of_ble_eq_true rfl⟩ hN hK hP (hDD _) hS hA 80 CW_80 rfl rfl rfl hl.1 rfl (Nat.le_of_ble_eq_true rfl) eX3_value_116.1 ⟨Nat.le_of_ble_eq_true rfl, Nat.le_of_ble_eq_true rfl⟩ (fun H locs hP hS => ?_)
                exact J119 (x5, x6, s35) _ _ _ ⟨hP, hS, lv_sub hl [2, 3, 4, 5] rfl, h⟩
              · rw [show ((-12) : Int32) = i2 (-12) from by decide] at c25
                have h := if_f (mt (i2_lt (x := (-12)) (y := y19) (by decide) hr24).mpr c25) h
                refine lv_aload_n hx hb eX3_value_64.2.2.2.2.2.2.2 rfl (lv_at hl 1 rfl) ?_
                refine lv_aload_n hx hb eX3_value_82.1 rfl (lv_at hl 1 rfl) ?_
                refine lv_iload hx hb eX3_value_82.2.1 (lv_at hl 0 rfl) ?_
                refine lv_aload_n hx hb eX3_value_82.2.2.1 rfl (lv_at hl 1 rfl) ?_
                obtain ⟨⟨r38, s37⟩, hc36, h⟩ := bn_e h
                refine ywV (r0 := i2 r38) (As := []) (rest := [.int (i2 y19), .ref (a 80), .ref (a 80)]) (C := RX3) (n := 0) (ws' := CS D a s37) ⟨hx, hb, hml, hown, ht⟩ (k_x3_pop l D a _ _ _ hc36) (zgV ml_X3_39 im_X3_pop se_X3_pop in_X3 co_X3_pop) rfl rfl (by decide +kernel) ⟨Nat.le_of_ble_eq_true rfl, Nat.le_of_ble_eq_true rfl⟩ hN hK hP (hDD _) hS hA 80 CW_80 rfl rfl rfl hl.1 rfl (Nat.le_of_ble_eq_true rfl) eX3_value_82.2.2.2.1 ⟨Nat.le_of_ble_eq_true rfl, Nat.le_of_ble_eq_true rfl⟩ (fun H locs hP hS => ?_)
                obtain ⟨r40, hc39, h⟩ := bn_e h
                refine ycV (r0 := i2 r40) (As := [.int (i2 y19), .int (i2 r38)]) (rest := [.ref (a 80)]) (C := RX3) (n := 2) ⟨hx, hb, hml, hown, ht⟩ (k_x3_changed l D a y19 r38 _ _ hc39) (zgV ml_X3_43 im_X3_changed se_X3_changed in_X3 co_X3_changed) rfl rfl (by decide +kernel) ⟨Nat.le_of_ble_eq_true rfl, Nat.le_of_ble_eq_true rfl⟩ hN hK hP hS 80 CW_80 rfl rfl rfl hl.1 rfl (Nat.le_of_ble_eq_true rfl) eX3_value_82.2.2.2.2.1 ⟨Nat.le_of_ble_eq_true rfl, Nat.le_of_ble_eq_true rfl⟩ (fun H locs hP hS => ?_)
                obtain ⟨s42, hc41, h⟩ := bn_e h
                refine ywVv (As := [.int (i2 r40)]) (rest := []) (C := RX3) (n := 1) (ws' := CS D a s42) ⟨hx, hb, hml, hown, ht⟩ (k_x3_push l D a r40 _ _ _ hc41) (zgV ml_X3_31 im_X3_push se_X3_push in_X3 co_X3_push) rfl rfl (by decide +kernel) ⟨Nat.le_of_ble_eq_true rfl, Nat.le_of_ble_eq_true rfl⟩ hN hK hP (hDD _) hS hA 80 CW_80 rfl rfl rfl hl.1 rfl (Nat.le_of_ble_eq_true rfl) eX3_value_82.2.2.2.2.2.1 ⟨Nat.le_of_ble_eq_true rfl, Nat.le_of_ble_eq_true rfl⟩ (fun H locs hP hS => ?_)
                refine lv_goto (tgt := 119) hx hb eX3_value_82.2.2.2.2.2.2.1 (by decide) ?_
                exact J119 (x5, x6, s42) _ _ _ ⟨hP, hS, lv_sub hl [1, 2, 3, 4] rfl, h⟩
            · rw [show ((-100) : Int32) = i2 (-100) from by decide] at c23
              have h := if_f (mt (i2_lt (x := (-100)) (y := y19) (by decide) hr22).mpr c23) h
              refine lv_aload_n hx hb eX3_value_48.2.2.2.2.1 rfl (lv_at hl 1 rfl) ?_
              refine lv_aload_n hx hb eX3_value_48.2.2.2.2.2.1 rfl (lv_at hl 1 rfl) ?_
              refine lv_bipush (v := (-100)) hx hb eX3_value_48.2.2.2.2.2.2.1 (by decide) ?_
              refine lv_iload hx hb eX3_value_48.2.2.2.2.2.2.2 (lv_at hl 0 rfl) ?_
              refine lv_isub hx hb eX3_value_64.1 ?_
              refine z_topi (y := i2 ((-100) - y19)) (by rw [show ((-100) : Int32) = i2 (-100) from by decide]; exact (i2_sub (-100) y19)) ?_
              obtain ⟨r44, hc43, h⟩ := bn_e h
              refine ycV (r0 := i2 r44) (As := [.int (i2 ((-100) - y19))]) (rest := [.ref (a 80)]) (C := RX3) (n := 1) ⟨hx, hb, hml, hown, ht⟩ (k_x3_fact l D a ((-100) - y19) _ _ hc43) (zgV ml_X3_35 im_X3_fact se_X3_fact in_X3 co_X3_fact) rfl rfl (by decide +kernel) ⟨Nat.le_of_ble_eq_true rfl, Nat.le_of_ble_eq_true rfl⟩ hN hK hP hS 80 CW_80 rfl rfl rfl hl.1 rfl (Nat.le_of_ble_eq_true rfl) eX3_value_64.2.1 ⟨Nat.le_of_ble_eq_true rfl, Nat.le_of_ble_eq_true rfl⟩ (fun H locs hP hS => ?_)
              obtain ⟨s46, hc45, h⟩ := bn_e h
              refine ywVv (As := [.int (i2 r44)]) (rest := []) (C := RX3) (n := 1) (ws' := CS D a s46) ⟨hx, hb, hml, hown, ht⟩ (k_x3_push l D a r44 _ _ _ hc45) (zgV ml_X3_31 im_X3_push se_X3_push in_X3 co_X3_push) rfl rfl (by decide +kernel) ⟨Nat.le_of_ble_eq_true rfl, Nat.le_of_ble_eq_true rfl⟩ hN hK hP (hDD _) hS hA 80 CW_80 rfl rfl rfl hl.1 rfl (Nat.le_of_ble_eq_true rfl) eX3_value_64.2.2.1 ⟨Nat.le_of_ble_eq_true rfl, Nat.le_of_ble_eq_true rfl⟩ (fun H locs hP hS => ?_)
              refine lv_goto (tgt := 119) hx hb eX3_value_64.2.2.2.1 (by decide) ?_
              exact J119 (x5, x6, s46) _ _ _ ⟨hP, hS, lv_sub hl [1, 2, 3, 4] rfl, h⟩
          · have h := if_f (mt (i2_lt (x := y19) (y := 0) hr20 (by decide)).mpr c21) h
            refine lv_aload_n hx hb eX3_value_32.2.2.2.2.2.1 rfl (lv_at hl 1 rfl) ?_
            refine lv_iload hx hb eX3_value_32.2.2.2.2.2.2.1 (lv_at hl 0 rfl) ?_
            obtain ⟨s48, hc47, h⟩ := bn_e h
            refine ywVv (As := [.int (i2 y19)]) (rest := []) (C := RX3) (n := 1) (ws' := CS D a s48) ⟨hx, hb, hml, hown, ht⟩ (k_x3_push l D a y19 _ _ _ hc47) (zgV ml_X3_31 im_X3_push se_X3_push in_X3 co_X3_push) rfl rfl (by decide +kernel) ⟨Nat.le_of_ble_eq_true rfl, Nat.le_of_ble_eq_true rfl⟩ hN hK hP (hDD _) hS hA 80 CW_80 rfl rfl rfl hl.1 rfl (Nat.le_of_ble_eq_true rfl) eX3_value_32.2.2.2.2.2.2.2 ⟨Nat.le_of_ble_eq_true rfl, Nat.le_of_ble_eq_true rfl⟩ (fun H locs hP hS => ?_)
            refine lv_goto (tgt := 119) hx hb eX3_value_48.1 (by decide) ?_
            exact J119 (x5, x6, s48) _ _ _ ⟨hP, hS, lv_sub hl [1, 2, 3, 4] rfl, h⟩
  refine lv_aload_n hx hb eX3_value_0.1 rfl (lv_at hl 0 rfl) ?_
  refine lv_iconst (v := 0) hx hb eX3_value_0.2.1 (by decide) ?_
  refine ya_put (D := D) (ci := 3) (v := .int 0) (ty := .int) (C := RX3) (T := TX3) (N := 10) hx hb ht inX3 tyX3 tyX3_ok nmX3 hown hK hP (hDD _) hS 80 CW_80 rfl 1 (by decide) (ht (.fieldLink RX3 19 "CloneVolumes$Machine" "top" "I") fl_X3_19) (fun _ h9 => h9) rfl (by decide +kernel) rfl rfl (Nat.le_of_ble_eq_true rfl) eX3_value_0.2.2.1 (CW_w80_1 0) (fun H locs hP hS => ?_)
  obtain ⟨s49, hs49, h⟩ := st_e h
  rw [hs49] at hP
  refine lv_iload_n hx hb eX3_value_0.2.2.2.1 rfl (lv_at hl 2 rfl) ?_
  refine lv_istore (lv' := [(4, .int (i2 p1)), (0, .ref (a 80)), (1, .ref (a 37)), (2, .int (i2 p1)), (3, .int (i2 p2))]) hx hb eX3_value_0.2.2.2.2.1 hl (by decide) rfl (fun ls hl => ?_)
  exact J8 FU (p2, p1, s49) _ _ _ ⟨hP, hS, lv_sub hl [1, 2, 4, 0] rfl, h⟩
