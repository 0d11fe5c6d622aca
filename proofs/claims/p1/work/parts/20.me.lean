theorem fl_X12_272 : Cond.fieldLink RX12 272 "CloneVolumesModel" "at" "I" ∈ lw_gd := zm (List.mem_of_getElem? (i := 1540) (by decide +kernel)) rfl
theorem fl_X12_275 : Cond.fieldLink RX12 275 "CloneVolumesModel" "end" "I" ∈ lw_gd := zm (List.mem_of_getElem? (i := 1541) (by decide +kernel)) rfl
theorem fl_X12_266 : Cond.fieldLink RX12 266 "CloneVolumesModel" "bad" "I" ∈ lw_gd := zm (List.mem_of_getElem? (i := 1543) (by decide +kernel)) rfl
theorem ml_X12_278 : Cond.methodLink RX12 278 yX12_look ∈ lw_gd := zm (List.mem_of_getElem? (i := 1916) (by decide +kernel)) rfl
theorem im_X12_look : Cond.instanceMethod yX12_look ∈ lw_gd := zm (List.mem_of_getElem? (i := 1918) (by decide +kernel)) rfl
theorem se_X12_look : Cond.selects RX12 yX12_look yX12_look ∈ lw_gd := zm (List.mem_of_getElem? (i := 73) (by decide +kernel)) rfl
theorem co_X12_look : Cond.code yX12_look cX12_look 1 (some .int) ∈ lw_gd := zm (List.mem_of_getElem? (i := 1919) (by decide +kernel)) rfl
theorem ml_X12_282 : Cond.methodLink RX12 282 yX12_isLetter ∈ lw_gd := zm (List.mem_of_getElem? (i := 1920) (by decide +kernel)) rfl
theorem st_X12_isLetter : Cond.static yX12_isLetter ∈ lw_gd := zm (List.mem_of_getElem? (i := 1921) (by decide +kernel)) rfl
theorem co_X12_isLetter : Cond.code yX12_isLetter cX12_isLetter 1 (some .boolean) ∈ lw_gd := zm (List.mem_of_getElem? (i := 1922) (by decide +kernel)) rfl
theorem ml_X12_289 : Cond.methodLink RX12 289 yX12_isHere ∈ lw_gd := zm (List.mem_of_getElem? (i := 1912) (by decide +kernel)) rfl
theorem im_X12_isHere : Cond.instanceMethod yX12_isHere ∈ lw_gd := zm (List.mem_of_getElem? (i := 1914) (by decide +kernel)) rfl
theorem se_X12_isHere : Cond.selects RX12 yX12_isHere yX12_isHere ∈ lw_gd := zm (List.mem_of_getElem? (i := 72) (by decide +kernel)) rfl
theorem co_X12_isHere : Cond.code yX12_isHere cX12_isHere 4 (some .boolean) ∈ lw_gd := zm (List.mem_of_getElem? (i := 1915) (by decide +kernel)) rfl
theorem fl_X12_269 : Cond.fieldLink RX12 269 "CloneVolumesModel" "badPlace" "I" ∈ lw_gd := zm (List.mem_of_getElem? (i := 1544) (by decide +kernel)) rfl
theorem ml_X12_293 : Cond.methodLink RX12 293 yX12_takes ∈ lw_gd := zm (List.mem_of_getElem? (i := 1908) (by decide +kernel)) rfl
theorem im_X12_takes : Cond.instanceMethod yX12_takes ∈ lw_gd := zm (List.mem_of_getElem? (i := 1910) (by decide +kernel)) rfl
theorem se_X12_takes : Cond.selects RX12 yX12_takes yX12_takes ∈ lw_gd := zm (List.mem_of_getElem? (i := 71) (by decide +kernel)) rfl
theorem co_X12_takes : Cond.code yX12_takes cX12_takes 2 (some .boolean) ∈ lw_gd := zm (List.mem_of_getElem? (i := 1911) (by decide +kernel)) rfl
theorem ml_X12_296 : Cond.methodLink RX12 296 yX12_fail ∈ lw_gd := zm (List.mem_of_getElem? (i := 1923) (by decide +kernel)) rfl
theorem im_X12_fail : Cond.instanceMethod yX12_fail ∈ lw_gd := zm (List.mem_of_getElem? (i := 1925) (by decide +kernel)) rfl
theorem se_X12_fail : Cond.selects RX12 yX12_fail yX12_fail ∈ lw_gd := zm (List.mem_of_getElem? (i := 74) (by decide +kernel)) rfl
theorem co_X12_fail : Cond.code yX12_fail cX12_fail 3 none ∈ lw_gd := zm (List.mem_of_getElem? (i := 1926) (by decide +kernel)) rfl
theorem fl_X12_20 : Cond.fieldLink RX12 20 "CloneVolumesModel" "blocksWord" "[C" ∈ lw_gd := zm (List.mem_of_getElem? (i := 1549) (by decide +kernel)) rfl
theorem ml_X12_327 : Cond.methodLink RX12 327 yX12_asks ∈ lw_gd := zm (List.mem_of_getElem? (i := 1904) (by decide +kernel)) rfl
theorem im_X12_asks : Cond.instanceMethod yX12_asks ∈ lw_gd := zm (List.mem_of_getElem? (i := 1906) (by decide +kernel)) rfl
theorem se_X12_asks : Cond.selects RX12 yX12_asks yX12_asks ∈ lw_gd := zm (List.mem_of_getElem? (i := 70) (by decide +kernel)) rfl
theorem co_X12_asks : Cond.code yX12_asks cX12_asks 2 none ∈ lw_gd := zm (List.mem_of_getElem? (i := 1907) (by decide +kernel)) rfl
theorem ml_X12_331 : Cond.methodLink RX12 331 yX12_number ∈ lw_gd := zm (List.mem_of_getElem? (i := 1927) (by decide +kernel)) rfl
theorem im_X12_number : Cond.instanceMethod yX12_number ∈ lw_gd := zm (List.mem_of_getElem? (i := 1929) (by decide +kernel)) rfl
theorem se_X12_number : Cond.selects RX12 yX12_number yX12_number ∈ lw_gd := zm (List.mem_of_getElem? (i := 75) (by decide +kernel)) rfl
theorem co_X12_number : Cond.code yX12_number cX12_number 5 (some .int) ∈ lw_gd := zm (List.mem_of_getElem? (i := 1930) (by decide +kernel)) rfl
theorem fl_X12_24 : Cond.fieldLink RX12 24 "CloneVolumesModel" "roomWord" "[C" ∈ lw_gd := zm (List.mem_of_getElem? (i := 1550) (by decide +kernel)) rfl
theorem ml_X12_335 : Cond.methodLink RX12 335 yX12_asksSign ∈ lw_gd := zm (List.mem_of_getElem? (i := 1937) (by decide +kernel)) rfl
theorem im_X12_asksSign : Cond.instanceMethod yX12_asksSign ∈ lw_gd := zm (List.mem_of_getElem? (i := 1939) (by decide +kernel)) rfl
theorem se_X12_asksSign : Cond.selects RX12 yX12_asksSign yX12_asksSign ∈ lw_gd := zm (List.mem_of_getElem? (i := 76) (by decide +kernel)) rfl
theorem co_X12_asksSign : Cond.code yX12_asksSign cX12_asksSign 2 none ∈ lw_gd := zm (List.mem_of_getElem? (i := 1940) (by decide +kernel)) rfl
theorem fl_X12_286 : Cond.fieldLink RX12 286 "CloneVolumesModel" "ended" "I" ∈ lw_gd := zm (List.mem_of_getElem? (i := 1542) (by decide +kernel)) rfl
theorem fl_X12_371 : Cond.fieldLink RX12 371 "CloneVolumesModel" "coded" "I" ∈ lw_gd := zm (List.mem_of_getElem? (i := 1583) (by decide +kernel)) rfl
theorem fl_X12_112 : Cond.fieldLink RX12 112 "CloneVolumesModel" "codeFrom" "[I" ∈ lw_gd := zm (List.mem_of_getElem? (i := 1580) (by decide +kernel)) rfl
theorem ml_X12_390 : Cond.methodLink RX12 390 yX12_storeTold ∈ lw_gd := zm (List.mem_of_getElem? (i := 1900) (by decide +kernel)) rfl
theorem im_X12_storeTold : Cond.instanceMethod yX12_storeTold ∈ lw_gd := zm (List.mem_of_getElem? (i := 1902) (by decide +kernel)) rfl
theorem se_X12_storeTold : Cond.selects RX12 yX12_storeTold yX12_storeTold ∈ lw_gd := zm (List.mem_of_getElem? (i := 69) (by decide +kernel)) rfl
theorem co_X12_storeTold : Cond.code yX12_storeTold cX12_storeTold 1 none ∈ lw_gd := zm (List.mem_of_getElem? (i := 1903) (by decide +kernel)) rfl
theorem fl_X12_374 : Cond.fieldLink RX12 374 "CloneVolumesModel" "statements" "I" ∈ lw_gd := zm (List.mem_of_getElem? (i := 1584) (by decide +kernel)) rfl
theorem dX12_asks_0 : decode cX12_asks 0 = .ok (.aload_n 0, 1) := by decide +kernel
theorem dX12_asks_1 : decode cX12_asks 1 = .ok (.getfield 266, 3) := by decide +kernel
theorem dX12_asks_4 : decode cX12_asks 4 = .ok (.ifCond .ne 20, 3) := by decide +kernel
theorem dX12_asks_7 : decode cX12_asks 7 = .ok (.aload_n 0, 1) := by decide +kernel
theorem dX12_asks_8 : decode cX12_asks 8 = .ok (.aload_n 1, 1) := by decide +kernel
theorem dX12_asks_9 : decode cX12_asks 9 = .ok (.invokevirtual 293, 3) := by decide +kernel
theorem dX12_asks_12 : decode cX12_asks 12 = .ok (.ifCond .ne 12, 3) := by decide +kernel
theorem dX12_asks_15 : decode cX12_asks 15 = .ok (.aload_n 0, 1) := by decide +kernel
theorem dX12_asks_16 : decode cX12_asks 16 = .ok (.iconst 1, 1) := by decide +kernel
theorem dX12_asks_17 : decode cX12_asks 17 = .ok (.aload_n 0, 1) := by decide +kernel
theorem dX12_asks_18 : decode cX12_asks 18 = .ok (.getfield 272, 3) := by decide +kernel
theorem dX12_asks_21 : decode cX12_asks 21 = .ok (.invokevirtual 296, 3) := by decide +kernel
theorem dX12_asks_24 : decode cX12_asks 24 = .ok (.return_, 1) := by decide +kernel
theorem dX12_asksSign_0 : decode cX12_asksSign 0 = .ok (.aload_n 0, 1) := by decide +kernel
theorem dX12_asksSign_1 : decode cX12_asksSign 1 = .ok (.getfield 266, 3) := by decide +kernel
theorem dX12_asksSign_4 : decode cX12_asksSign 4 = .ok (.ifCond .ne 20, 3) := by decide +kernel
theorem dX12_asksSign_24 : decode cX12_asksSign 24 = .ok (.return_, 1) := by decide +kernel
theorem dX12_fail_0 : decode cX12_fail 0 = .ok (.aload_n 0, 1) := by decide +kernel
theorem dX12_fail_1 : decode cX12_fail 1 = .ok (.getfield 266, 3) := by decide +kernel
theorem dX12_fail_4 : decode cX12_fail 4 = .ok (.ifCond .eq 4, 3) := by decide +kernel
theorem dX12_fail_8 : decode cX12_fail 8 = .ok (.aload_n 0, 1) := by decide +kernel
theorem dX12_fail_9 : decode cX12_fail 9 = .ok (.iload_n 1, 1) := by decide +kernel
theorem dX12_fail_10 : decode cX12_fail 10 = .ok (.putfield 266, 3) := by decide +kernel
theorem dX12_fail_13 : decode cX12_fail 13 = .ok (.aload_n 0, 1) := by decide +kernel
theorem dX12_fail_14 : decode cX12_fail 14 = .ok (.iload_n 2, 1) := by decide +kernel
theorem dX12_fail_15 : decode cX12_fail 15 = .ok (.putfield 269, 3) := by decide +kernel
theorem dX12_fail_18 : decode cX12_fail 18 = .ok (.return_, 1) := by decide +kernel
theorem dX12_isHere_0 : decode cX12_isHere 0 = .ok (.aload_n 0, 1) := by decide +kernel
theorem dX12_isHere_1 : decode cX12_isHere 1 = .ok (.getfield 266, 3) := by decide +kernel
theorem dX12_isHere_4 : decode cX12_isHere 4 = .ok (.ifCond .ne 24, 3) := by decide +kernel
theorem dX12_isHere_7 : decode cX12_isHere 7 = .ok (.aload_n 0, 1) := by decide +kernel
theorem dX12_isHere_8 : decode cX12_isHere 8 = .ok (.invokevirtual 278, 3) := by decide +kernel
theorem dX12_isHere_11 : decode cX12_isHere 11 = .ok (.invokestatic 282, 3) := by decide +kernel
theorem dX12_isHere_14 : decode cX12_isHere 14 = .ok (.ifCond .eq 14, 3) := by decide +kernel
theorem dX12_isHere_28 : decode cX12_isHere 28 = .ok (.iconst 0, 1) := by decide +kernel
theorem dX12_isHere_29 : decode cX12_isHere 29 = .ok (.ireturn, 1) := by decide +kernel
theorem dX12_look_0 : decode cX12_look 0 = .ok (.aload_n 0, 1) := by decide +kernel
theorem dX12_look_1 : decode cX12_look 1 = .ok (.getfield 272, 3) := by decide +kernel
theorem dX12_look_4 : decode cX12_look 4 = .ok (.aload_n 0, 1) := by decide +kernel
theorem dX12_look_5 : decode cX12_look 5 = .ok (.getfield 275, 3) := by decide +kernel
theorem dX12_look_8 : decode cX12_look 8 = .ok (.if_icmp .ge 44, 3) := by decide +kernel
theorem dX12_look_52 : decode cX12_look 52 = .ok (.aload_n 0, 1) := by decide +kernel
theorem dX12_look_53 : decode cX12_look 53 = .ok (.getfield 272, 3) := by decide +kernel
theorem dX12_look_56 : decode cX12_look 56 = .ok (.aload_n 0, 1) := by decide +kernel
theorem dX12_look_57 : decode cX12_look 57 = .ok (.getfield 275, 3) := by decide +kernel
theorem dX12_look_60 : decode cX12_look 60 = .ok (.if_icmp .ge 15, 3) := by decide +kernel
theorem dX12_look_75 : decode cX12_look 75 = .ok (.iconst (-1), 1) := by decide +kernel
theorem dX12_look_76 : decode cX12_look 76 = .ok (.ireturn, 1) := by decide +kernel
theorem dX12_number_0 : decode cX12_number 0 = .ok (.aload_n 0, 1) := by decide +kernel
theorem dX12_number_1 : decode cX12_number 1 = .ok (.getfield 266, 3) := by decide +kernel
theorem dX12_number_4 : decode cX12_number 4 = .ok (.ifCond .eq 5, 3) := by decide +kernel
theorem dX12_number_7 : decode cX12_number 7 = .ok (.iconst 0, 1) := by decide +kernel
theorem dX12_number_8 : decode cX12_number 8 = .ok (.ireturn, 1) := by decide +kernel
theorem dX12_store_0 : decode cX12_store 0 = .ok (.aload_n 0, 1) := by decide +kernel
theorem dX12_store_1 : decode cX12_store 1 = .ok (.aload_n 0, 1) := by decide +kernel
theorem dX12_store_2 : decode cX12_store 2 = .ok (.getfield 263, 3) := by decide +kernel
theorem dX12_store_5 : decode cX12_store 5 = .ok (.putfield 275, 3) := by decide +kernel
theorem dX12_store_8 : decode cX12_store 8 = .ok (.aload_n 0, 1) := by decide +kernel
theorem dX12_store_9 : decode cX12_store 9 = .ok (.iconst 0, 1) := by decide +kernel
theorem dX12_store_10 : decode cX12_store 10 = .ok (.putfield 263, 3) := by decide +kernel
theorem dX12_store_13 : decode cX12_store 13 = .ok (.aload_n 0, 1) := by decide +kernel
theorem dX12_store_14 : decode cX12_store 14 = .ok (.iconst 0, 1) := by decide +kernel
theorem dX12_store_15 : decode cX12_store 15 = .ok (.putfield 272, 3) := by decide +kernel
theorem dX12_store_18 : decode cX12_store 18 = .ok (.aload_n 0, 1) := by decide +kernel
theorem dX12_store_19 : decode cX12_store 19 = .ok (.iconst (-1), 1) := by decide +kernel
theorem dX12_store_20 : decode cX12_store 20 = .ok (.putfield 286, 3) := by decide +kernel
theorem dX12_store_23 : decode cX12_store 23 = .ok (.aload_n 0, 1) := by decide +kernel
theorem dX12_store_24 : decode cX12_store 24 = .ok (.iconst 0, 1) := by decide +kernel
theorem dX12_store_25 : decode cX12_store 25 = .ok (.putfield 266, 3) := by decide +kernel
theorem dX12_store_28 : decode cX12_store 28 = .ok (.aload_n 0, 1) := by decide +kernel
theorem dX12_store_29 : decode cX12_store 29 = .ok (.iconst (-1), 1) := by decide +kernel
theorem dX12_store_30 : decode cX12_store 30 = .ok (.putfield 269, 3) := by decide +kernel
theorem dX12_store_33 : decode cX12_store 33 = .ok (.aload_n 0, 1) := by decide +kernel
theorem dX12_store_34 : decode cX12_store 34 = .ok (.iconst 0, 1) := by decide +kernel
theorem dX12_store_35 : decode cX12_store 35 = .ok (.putfield 371, 3) := by decide +kernel
theorem dX12_store_38 : decode cX12_store 38 = .ok (.iconst 0, 1) := by decide +kernel
theorem dX12_store_39 : decode cX12_store 39 = .ok (.istore_n 1, 1) := by decide +kernel
theorem dX12_store_40 : decode cX12_store 40 = .ok (.iload_n 1, 1) := by decide +kernel
theorem dX12_store_41 : decode cX12_store 41 = .ok (.iconst 5, 1) := by decide +kernel
theorem dX12_store_42 : decode cX12_store 42 = .ok (.if_icmp .ge 16, 3) := by decide +kernel
theorem dX12_store_45 : decode cX12_store 45 = .ok (.aload_n 0, 1) := by decide +kernel
theorem dX12_store_46 : decode cX12_store 46 = .ok (.getfield 102, 3) := by decide +kernel
theorem dX12_store_49 : decode cX12_store 49 = .ok (.iload_n 1, 1) := by decide +kernel
theorem dX12_store_50 : decode cX12_store 50 = .ok (.iconst 0, 1) := by decide +kernel
theorem dX12_store_51 : decode cX12_store 51 = .ok (.iastore, 1) := by decide +kernel
theorem dX12_store_52 : decode cX12_store 52 = .ok (.iinc 1 1, 3) := by decide +kernel
theorem dX12_store_55 : decode cX12_store 55 = .ok (.goto (-15), 3) := by decide +kernel
theorem dX12_store_58 : decode cX12_store 58 = .ok (.iconst 0, 1) := by decide +kernel
theorem dX12_store_59 : decode cX12_store 59 = .ok (.istore_n 1, 1) := by decide +kernel
theorem dX12_store_60 : decode cX12_store 60 = .ok (.iload_n 1, 1) := by decide +kernel
theorem dX12_store_61 : decode cX12_store 61 = .ok (.iconst 3, 1) := by decide +kernel
theorem dX12_store_62 : decode cX12_store 62 = .ok (.if_icmp .ge 16, 3) := by decide +kernel
theorem dX12_store_65 : decode cX12_store 65 = .ok (.aload_n 0, 1) := by decide +kernel
theorem dX12_store_66 : decode cX12_store 66 = .ok (.getfield 112, 3) := by decide +kernel
theorem dX12_store_69 : decode cX12_store 69 = .ok (.iload_n 1, 1) := by decide +kernel
theorem dX12_store_70 : decode cX12_store 70 = .ok (.iconst (-1), 1) := by decide +kernel
theorem dX12_store_71 : decode cX12_store 71 = .ok (.iastore, 1) := by decide +kernel
theorem dX12_store_72 : decode cX12_store 72 = .ok (.iinc 1 1, 3) := by decide +kernel
theorem dX12_store_75 : decode cX12_store 75 = .ok (.goto (-15), 3) := by decide +kernel
theorem dX12_store_78 : decode cX12_store 78 = .ok (.aload_n 0, 1) := by decide +kernel
theorem dX12_store_79 : decode cX12_store 79 = .ok (.invokevirtual 390, 3) := by decide +kernel
theorem dX12_store_82 : decode cX12_store 82 = .ok (.aload_n 0, 1) := by decide +kernel
theorem dX12_store_83 : decode cX12_store 83 = .ok (.iconst 1, 1) := by decide +kernel
theorem dX12_store_84 : decode cX12_store 84 = .ok (.putfield 374, 3) := by decide +kernel
theorem dX12_store_87 : decode cX12_store 87 = .ok (.aload_n 0, 1) := by decide +kernel
theorem dX12_store_88 : decode cX12_store 88 = .ok (.getfield 266, 3) := by decide +kernel
theorem dX12_store_91 : decode cX12_store 91 = .ok (.ifCond .ne 18, 3) := by decide +kernel
theorem dX12_store_109 : decode cX12_store 109 = .ok (.aload_n 0, 1) := by decide +kernel
theorem dX12_store_110 : decode cX12_store 110 = .ok (.aload_n 0, 1) := by decide +kernel
theorem dX12_store_111 : decode cX12_store 111 = .ok (.getfield 266, 3) := by decide +kernel
theorem dX12_store_114 : decode cX12_store 114 = .ok (.putfield 396, 3) := by decide +kernel
theorem dX12_store_117 : decode cX12_store 117 = .ok (.aload_n 0, 1) := by decide +kernel
theorem dX12_store_118 : decode cX12_store 118 = .ok (.aload_n 0, 1) := by decide +kernel
theorem dX12_store_119 : decode cX12_store 119 = .ok (.getfield 269, 3) := by decide +kernel
theorem dX12_store_122 : decode cX12_store 122 = .ok (.putfield 13, 3) := by decide +kernel
theorem dX12_store_125 : decode cX12_store 125 = .ok (.aload_n 0, 1) := by decide +kernel
theorem dX12_store_126 : decode cX12_store 126 = .ok (.getfield 266, 3) := by decide +kernel
theorem dX12_store_129 : decode cX12_store 129 = .ok (.ifCond .eq 9, 3) := by decide +kernel
theorem dX12_store_132 : decode cX12_store 132 = .ok (.aload_n 0, 1) := by decide +kernel
theorem dX12_store_133 : decode cX12_store 133 = .ok (.iconst 1, 1) := by decide +kernel
theorem dX12_store_134 : decode cX12_store 134 = .ok (.invokevirtual 399, 3) := by decide +kernel
theorem dX12_store_137 : decode cX12_store 137 = .ok (.ireturn, 1) := by decide +kernel
theorem dX12_storeTold_0 : decode cX12_storeTold 0 = .ok (.aload_n 0, 1) := by decide +kernel
theorem dX12_storeTold_1 : decode cX12_storeTold 1 = .ok (.aload_n 0, 1) := by decide +kernel
theorem dX12_storeTold_2 : decode cX12_storeTold 2 = .ok (.getfield 20, 3) := by decide +kernel
theorem dX12_storeTold_5 : decode cX12_storeTold 5 = .ok (.invokevirtual 327, 3) := by decide +kernel
theorem dX12_storeTold_8 : decode cX12_storeTold 8 = .ok (.aload_n 0, 1) := by decide +kernel
theorem dX12_storeTold_9 : decode cX12_storeTold 9 = .ok (.getfield 102, 3) := by decide +kernel
theorem dX12_storeTold_12 : decode cX12_storeTold 12 = .ok (.iconst 0, 1) := by decide +kernel
theorem dX12_storeTold_13 : decode cX12_storeTold 13 = .ok (.aload_n 0, 1) := by decide +kernel
theorem dX12_storeTold_14 : decode cX12_storeTold 14 = .ok (.bipush 8, 2) := by decide +kernel
theorem dX12_storeTold_16 : decode cX12_storeTold 16 = .ok (.bipush 48, 2) := by decide +kernel
theorem dX12_storeTold_18 : decode cX12_storeTold 18 = .ok (.invokevirtual 331, 3) := by decide +kernel
theorem dX12_storeTold_21 : decode cX12_storeTold 21 = .ok (.iastore, 1) := by decide +kernel
theorem dX12_storeTold_22 : decode cX12_storeTold 22 = .ok (.aload_n 0, 1) := by decide +kernel
theorem dX12_storeTold_23 : decode cX12_storeTold 23 = .ok (.aload_n 0, 1) := by decide +kernel
theorem dX12_storeTold_24 : decode cX12_storeTold 24 = .ok (.getfield 24, 3) := by decide +kernel
theorem dX12_storeTold_27 : decode cX12_storeTold 27 = .ok (.invokevirtual 327, 3) := by decide +kernel
theorem dX12_storeTold_30 : decode cX12_storeTold 30 = .ok (.aload_n 0, 1) := by decide +kernel
theorem dX12_storeTold_31 : decode cX12_storeTold 31 = .ok (.getfield 102, 3) := by decide +kernel
theorem dX12_storeTold_34 : decode cX12_storeTold 34 = .ok (.iconst 1, 1) := by decide +kernel
theorem dX12_storeTold_35 : decode cX12_storeTold 35 = .ok (.aload_n 0, 1) := by decide +kernel
theorem dX12_storeTold_36 : decode cX12_storeTold 36 = .ok (.iconst 3, 1) := by decide +kernel
theorem dX12_storeTold_37 : decode cX12_storeTold 37 = .ok (.bipush 6, 2) := by decide +kernel
theorem dX12_storeTold_39 : decode cX12_storeTold 39 = .ok (.invokevirtual 331, 3) := by decide +kernel
theorem dX12_storeTold_42 : decode cX12_storeTold 42 = .ok (.iastore, 1) := by decide +kernel
theorem dX12_storeTold_43 : decode cX12_storeTold 43 = .ok (.aload_n 0, 1) := by decide +kernel
theorem dX12_storeTold_44 : decode cX12_storeTold 44 = .ok (.bipush 59, 2) := by decide +kernel
theorem dX12_storeTold_46 : decode cX12_storeTold 46 = .ok (.invokevirtual 335, 3) := by decide +kernel
theorem dX12_storeTold_49 : decode cX12_storeTold 49 = .ok (.return_, 1) := by decide +kernel
theorem dX12_takes_0 : decode cX12_takes 0 = .ok (.aload_n 0, 1) := by decide +kernel
theorem dX12_takes_1 : decode cX12_takes 1 = .ok (.aload_n 1, 1) := by decide +kernel
theorem dX12_takes_2 : decode cX12_takes 2 = .ok (.invokevirtual 289, 3) := by decide +kernel
theorem dX12_takes_5 : decode cX12_takes 5 = .ok (.ifCond .ne 5, 3) := by decide +kernel
theorem dX12_takes_8 : decode cX12_takes 8 = .ok (.iconst 0, 1) := by decide +kernel
theorem dX12_takes_9 : decode cX12_takes 9 = .ok (.ireturn, 1) := by decide +kernel
set_option maxHeartbeats 4000000 in
set_option maxRecDepth 100000 in
theorem k_X12_look1 (l : Launch) (D : va_G) (a : Nat → Nat)  : Met l yX12_look (wz yX12_look cX12_look 1 (some .int)) { frames := 0, cells := 0, slots := 0, locals := 0 } (va_Pc [.ref (a 200)] (zP D [((a 200), .inr (12, mO a 0 0 0 (-1) 0 (-1) 0 (-1) 0 0 1 0))])) (va_Qi (fun r (_ : Unit) => r = (-1)) (fun _ _ => True) (fun _ => False)) 0 0 (fun _ => False) := by
  refine Met.ofW (cc := cX12_look) (maxL := 1) (ret := (some .int)) (by decide) rfl ?_
  intro p e s m args below meth c s₁ B hml hv
  obtain ⟨rfl, hP, hK⟩ := hv
  have hx := B.exec
  have hb := B.bytes
  have hr := B.returns
  have hts := atoms_spec (ws := wz yX12_look cX12_look 1 (some .int)) B.pre
  have ht : ∀ w ∈ lw_gd, w.before _ s = true := fun w h => hts w (List.mem_cons_of_mem _ h)
  have hown : s.vm.findClass RX12 = some m.cls := findClass_of_methodNamed B.named
  have hlocks := B.notSynchronized
  have hS : va_S (fun _ => False) s.heap s.heap [] := va_S.rf
  have hl := lv_entry ([.ref (a 200)]) (n := 1) (Nat.le_of_ble_eq_true rfl)
  rw [lg_entry_eq]
  generalize (lg_sl ([.ref (a 200)]) ++ List.replicate (1 - (lg_sl ([.ref (a 200)])).length) Slot.unset).toArray = ls at hl ⊢
  have hl : lv_has ls 1 [(0, .ref (a 200))] := hl
  refine lv_aload_n hx hb dX12_look_0 rfl (lv_at hl 0 rfl) ?_
  refine va_get (D := D) (ci := 12) (v := .int 0) (C := RX12) (T := TX12) (N := 116) hx hb ht inX12 hown hK hP 0 rfl rfl 2 (by decide) (ht (.fieldLink RX12 272 "CloneVolumesModel" "at" "I") fl_X12_272) (fun _ h9 => h9) rfl dX12_look_1 ?_
  refine lv_aload_n hx hb dX12_look_4 rfl (lv_at hl 0 rfl) ?_
  refine va_get (D := D) (ci := 12) (v := .int 0) (C := RX12) (T := TX12) (N := 116) hx hb ht inX12 hown hK hP 0 rfl rfl 3 (by decide) (ht (.fieldLink RX12 275 "CloneVolumesModel" "end" "I") fl_X12_275) (fun _ h9 => h9) rfl dX12_look_5 ?_
  refine lv_icmp_ge (tgt := 52) hx hb dX12_look_8 (by decide) (fun _ => ?_) (fun c_1 => (z_abs c_1 (by decide)).elim)
  refine lv_aload_n hx hb dX12_look_52 rfl (lv_at hl 0 rfl) ?_
  refine va_get (D := D) (ci := 12) (v := .int 0) (C := RX12) (T := TX12) (N := 116) hx hb ht inX12 hown hK hP 0 rfl rfl 2 (by decide) (ht (.fieldLink RX12 272 "CloneVolumesModel" "at" "I") fl_X12_272) (fun _ h9 => h9) rfl dX12_look_53 ?_
  refine lv_aload_n hx hb dX12_look_56 rfl (lv_at hl 0 rfl) ?_
  refine va_get (D := D) (ci := 12) (v := .int 0) (C := RX12) (T := TX12) (N := 116) hx hb ht inX12 hown hK hP 0 rfl rfl 3 (by decide) (ht (.fieldLink RX12 275 "CloneVolumesModel" "end" "I") fl_X12_275) (fun _ h9 => h9) rfl dX12_look_57 ?_
  refine lv_icmp_ge (tgt := 75) hx hb dX12_look_60 (by decide) (fun _ => ?_) (fun c_3 => (z_abs c_3 (by decide)).elim)
  refine lv_iconst (v := (-1)) hx hb dX12_look_75 (by decide) ?_
  exact W.iret (v := (-1)) hx hb hr (fun t ht hW => ⟨⟨(-1), (), rfl, rfl, trivial⟩, hS.F ht⟩) hS.2.2 dX12_look_76
set_option maxHeartbeats 4000000 in
set_option maxRecDepth 100000 in
theorem k_X12_isHere1 (l : Launch) (D : va_G) (a : Nat → Nat)  : Met l yX12_isHere (wz yX12_isHere cX12_isHere 4 (some .boolean)) { frames := 1, cells := 0, slots := 0, locals := 60 } (va_Pc [.ref (a 200), .ref (a 11)] (zP D [((a 200), .inr (12, mO a 0 0 0 (-1) 0 (-1) 0 (-1) 0 0 1 0))])) (va_Qi (fun r (_ : Unit) => r = 0) (fun _ _ => True) (fun _ => False)) 0 0 (fun _ => False) := by
  refine Met.ofW (cc := cX12_isHere) (maxL := 4) (ret := (some .boolean)) (by decide) rfl ?_
  intro p e s m args below meth c s₁ B hml hv
  obtain ⟨rfl, hP, hK⟩ := hv
  have hx := B.exec
  have hb := B.bytes
  have hr := B.returns
  have hts := atoms_spec (ws := wz yX12_isHere cX12_isHere 4 (some .boolean)) B.pre
  have ht : ∀ w ∈ lw_gd, w.before _ s = true := fun w h => hts w (List.mem_cons_of_mem _ h)
  have hown : s.vm.findClass RX12 = some m.cls := findClass_of_methodNamed B.named
  have hlocks := B.notSynchronized
  have hS : va_S (fun _ => False) s.heap s.heap [] := va_S.rf
  have hl := lv_entry ([.ref (a 200), .ref (a 11)]) (n := 4) (Nat.le_of_ble_eq_true rfl)
  rw [lg_entry_eq]
  generalize (lg_sl ([.ref (a 200), .ref (a 11)]) ++ List.replicate (4 - (lg_sl ([.ref (a 200), .ref (a 11)])).length) Slot.unset).toArray = ls at hl ⊢
  have hl : lv_has ls 4 [(0, .ref (a 200)), (1, .ref (a 11))] := hl
  refine lv_aload_n hx hb dX12_isHere_0 rfl (lv_at hl 0 rfl) ?_
  refine va_get (D := D) (ci := 12) (v := .int 0) (C := RX12) (T := TX12) (N := 116) hx hb ht inX12 hown hK hP 0 rfl rfl 5 (by decide) (ht (.fieldLink RX12 266 "CloneVolumesModel" "bad" "I") fl_X12_266) (fun _ h9 => h9) rfl dX12_isHere_1 ?_
  refine lv_if_ne (tgt := 28) hx hb dX12_isHere_4 (by decide) (fun c_1 => (z_abs c_1 (by decide)).elim) (fun _ => ?_)
  refine lv_aload_n hx hb dX12_isHere_7 rfl (lv_at hl 0 rfl) ?_
  refine zcV (As := []) (rest := []) (C := RX12) (n := 0) ⟨hx, hb, hml, hown, ht⟩ (k_X12_look1 l D a) (zgV ml_X12_278 im_X12_look se_X12_look in_X12 co_X12_look) rfl rfl (by decide +kernel) ⟨Nat.le_of_ble_eq_true rfl, Nat.le_of_ble_eq_true rfl⟩ hK hP hS [0] rfl 0 rfl rfl rfl rfl hl.1 rfl (Nat.le_of_ble_eq_true rfl) dX12_isHere_8 ⟨Nat.le_of_ble_eq_true rfl, Nat.le_of_ble_eq_true rfl⟩ (fun r_3 H locs hw hP hS => ?_)
  subst hw
  refine zcS (As := [.int (-1)]) (rest := []) (n := 1) ⟨hx, hb, hml, hown, ht⟩ (k_X12_isLetter l D (-1)) (zgT ml_X12_282 st_X12_isLetter in_X12 co_X12_isLetter) rfl rfl (by decide +kernel) ⟨Nat.le_of_ble_eq_true rfl, Nat.le_of_ble_eq_true rfl⟩ hK hP hS [] rfl rfl hl.1 rfl (Nat.le_of_ble_eq_true rfl) dX12_isHere_11 ⟨Nat.le_of_ble_eq_true rfl, Nat.le_of_ble_eq_true rfl⟩ (fun r_4 H locs hw hP hS => ?_)
  rcases hw with ⟨rfl, g_5⟩ | ⟨rfl, g_6, g_7⟩ | ⟨rfl, g_8, g_9⟩
  · skip
    have g_5 : ((-1) : Int) < 97 := zt_lt (by decide) (by decide) g_5
    refine lv_if_eq (tgt := 28) hx hb dX12_isHere_14 (by decide) (fun _ => ?_) (fun c_10 => (z_abs c_10 (by decide)).elim)
    refine lv_iconst (v := 0) hx hb dX12_isHere_28 (by decide) ?_
    exact W.zret (v := 0) hx hb hr (by decide) (fun t ht hW => ⟨⟨0, (), rfl, rfl, trivial⟩, hS.F ht⟩) hS.2.2 dX12_isHere_29
  · skip
    have g_6 : 97 ≤ ((-1) : Int) := zt_ge (by decide) (by decide) g_6
    have g_7 : 122 < ((-1) : Int) := zt_gt (by decide) (by decide) g_7
    exfalso; omega
  · skip
    have g_8 : 97 ≤ ((-1) : Int) := zt_ge (by decide) (by decide) g_8
    have g_9 : ((-1) : Int) ≤ 122 := zt_le (by decide) (by decide) g_9
    exfalso; omega
set_option maxHeartbeats 4000000 in
set_option maxRecDepth 100000 in
theorem k_X12_takes1 (l : Launch) (D : va_G) (a : Nat → Nat)  : Met l yX12_takes (wz yX12_takes cX12_takes 2 (some .boolean)) { frames := 2, cells := 0, slots := 0, locals := 120 } (va_Pc [.ref (a 200), .ref (a 11)] (zP D [((a 200), .inr (12, mO a 0 0 0 (-1) 0 (-1) 0 (-1) 0 0 1 0))])) (va_Qi (fun r (_ : Unit) => r = 0) (fun _ _ => True) (fun _ => False)) 0 0 (fun _ => False) := by
  refine Met.ofW (cc := cX12_takes) (maxL := 2) (ret := (some .boolean)) (by decide) rfl ?_
  intro p e s m args below meth c s₁ B hml hv
  obtain ⟨rfl, hP, hK⟩ := hv
  have hx := B.exec
  have hb := B.bytes
  have hr := B.returns
  have hts := atoms_spec (ws := wz yX12_takes cX12_takes 2 (some .boolean)) B.pre
  have ht : ∀ w ∈ lw_gd, w.before _ s = true := fun w h => hts w (List.mem_cons_of_mem _ h)
  have hown : s.vm.findClass RX12 = some m.cls := findClass_of_methodNamed B.named
  have hlocks := B.notSynchronized
  have hS : va_S (fun _ => False) s.heap s.heap [] := va_S.rf
  have hl := lv_entry ([.ref (a 200), .ref (a 11)]) (n := 2) (Nat.le_of_ble_eq_true rfl)
  rw [lg_entry_eq]
  generalize (lg_sl ([.ref (a 200), .ref (a 11)]) ++ List.replicate (2 - (lg_sl ([.ref (a 200), .ref (a 11)])).length) Slot.unset).toArray = ls at hl ⊢
  have hl : lv_has ls 2 [(0, .ref (a 200)), (1, .ref (a 11))] := hl
  refine lv_aload_n hx hb dX12_takes_0 rfl (lv_at hl 0 rfl) ?_
  refine lv_aload_n hx hb dX12_takes_1 rfl (lv_at hl 1 rfl) ?_
  refine zcV (As := [.ref (a 11)]) (rest := []) (C := RX12) (n := 1) ⟨hx, hb, hml, hown, ht⟩ (k_X12_isHere1 l D a) (zgV ml_X12_289 im_X12_isHere se_X12_isHere in_X12 co_X12_isHere) rfl rfl (by decide +kernel) ⟨Nat.le_of_ble_eq_true rfl, Nat.le_of_ble_eq_true rfl⟩ hK hP hS [0] rfl 0 rfl rfl rfl rfl hl.1 rfl (Nat.le_of_ble_eq_true rfl) dX12_takes_2 ⟨Nat.le_of_ble_eq_true rfl, Nat.le_of_ble_eq_true rfl⟩ (fun r_1 H locs hw hP hS => ?_)
  subst hw
  refine lv_if_ne (tgt := 10) hx hb dX12_takes_5 (by decide) (fun c_2 => (z_abs c_2 (by decide)).elim) (fun _ => ?_)
  refine lv_iconst (v := 0) hx hb dX12_takes_8 (by decide) ?_
  exact W.zret (v := 0) hx hb hr (by decide) (fun t ht hW => ⟨⟨0, (), rfl, rfl, trivial⟩, hS.F ht⟩) hS.2.2 dX12_takes_9
set_option maxHeartbeats 4000000 in
set_option maxRecDepth 100000 in
theorem k_X12_fail1 (l : Launch) (D : va_G) (sz : Nat) (a : Nat → Nat)  : Met l yX12_fail (wz yX12_fail cX12_fail 3 none) { frames := 0, cells := 0, slots := 0, locals := 0 } (va_Pc [.ref (a 200), .int 1, .int 0] (zW D sz [((a 200), .inr (12, mO a 0 0 0 (-1) 0 (-1) 0 (-1) 0 0 1 0))])) (va_Qv (fun (_ : Unit) => True) (fun u t => zB D (va_A [((a 200), .inr (12, mO a 0 0 0 (-1) 0 (-1) 0 (-1) 0 0 1 0))] sz) ((fun (u : Unit) => [((a 200), .inr (12, mO a 0 0 0 (-1) 1 0 0 (-1) 0 0 1 0))]) u) t) (va_A [((a 200), .inr (12, mO a 0 0 0 (-1) 0 (-1) 0 (-1) 0 0 1 0))] sz)) 0 0 (va_A [((a 200), .inr (12, mO a 0 0 0 (-1) 0 (-1) 0 (-1) 0 0 1 0))] sz) := by
  refine Met.ofW (cc := cX12_fail) (maxL := 3) (ret := none) (by decide) rfl ?_
  intro p e s m args below meth c s₁ B hml hv
  obtain ⟨rfl, hsz, hP, hK, hD0⟩ := hv
  have hx := B.exec
  have hb := B.bytes
  have hr := B.returns
  have hts := atoms_spec (ws := wz yX12_fail cX12_fail 3 none) B.pre
  have ht : ∀ w ∈ lw_gd, w.before _ s = true := fun w h => hts w (List.mem_cons_of_mem _ h)
  have hown : s.vm.findClass RX12 = some m.cls := findClass_of_methodNamed B.named
  have hlocks := B.notSynchronized
  subst hsz
  have hD := hD0.self (sz := s.heap.size)
  generalize hAe : va_A [((a 200), .inr (12, mO a 0 0 0 (-1) 0 (-1) 0 (-1) 0 0 1 0))] s.heap.size = A at hD ⊢
  have hA : ∀ q : Nat, s.heap.size ≤ q → A q := fun q h => by rw [← hAe]; exact Or.inr h
  have hS : va_S A s.heap s.heap [] := va_S.rf
  have hl := lv_entry ([.ref (a 200), .int 1, .int 0]) (n := 3) (Nat.le_of_ble_eq_true rfl)
  rw [lg_entry_eq]
  generalize (lg_sl ([.ref (a 200), .int 1, .int 0]) ++ List.replicate (3 - (lg_sl ([.ref (a 200), .int 1, .int 0])).length) Slot.unset).toArray = ls at hl ⊢
  have hl : lv_has ls 3 [(0, .ref (a 200)), (1, .int 1), (2, .int 0)] := hl
  refine lv_aload_n hx hb dX12_fail_0 rfl (lv_at hl 0 rfl) ?_
  refine va_get (D := D) (ci := 12) (v := .int 0) (C := RX12) (T := TX12) (N := 116) hx hb ht inX12 hown hK hP 0 rfl rfl 5 (by decide) (ht (.fieldLink RX12 266 "CloneVolumesModel" "bad" "I") fl_X12_266) (fun _ h9 => h9) rfl dX12_fail_1 ?_
  refine lv_if_eq (tgt := 8) hx hb dX12_fail_4 (by decide) (fun _ => ?_) (fun c_1 => (z_abs c_1 (by decide)).elim)
  refine lv_aload_n hx hb dX12_fail_8 rfl (lv_at hl 0 rfl) ?_
  refine lv_iload_n hx hb dX12_fail_9 rfl (lv_at hl 1 rfl) ?_
  refine va_put (D := D) (ci := 12) (v := .int 1) (ty := .int) (C := RX12) (T := TX12) (N := 116) hx hb ht inX12 tyX12 tyX12_ok nmX12 hown hK hP hD hS 0 rfl rfl 5 (by decide) (ht (.fieldLink RX12 266 "CloneVolumesModel" "bad" "I") fl_X12_266) (fun _ h9 => h9) rfl (by decide +kernel) rfl rfl (Nat.le_of_ble_eq_true rfl) dX12_fail_10 (fun H locs hP hD hS => ?_)
  have hP : va_P D vwCl [((a 200), .inr (12, mO a 0 0 0 (-1) 1 (-1) 0 (-1) 0 0 1 0))] H := hP
  have hD : va_D A [((a 200), .inr (12, mO a 0 0 0 (-1) 1 (-1) 0 (-1) 0 0 1 0))] := hD
  refine lv_aload_n hx hb dX12_fail_13 rfl (lv_at hl 0 rfl) ?_
  refine lv_iload_n hx hb dX12_fail_14 rfl (lv_at hl 2 rfl) ?_
  refine va_put (D := D) (ci := 12) (v := .int 0) (ty := .int) (C := RX12) (T := TX12) (N := 116) hx hb ht inX12 tyX12 tyX12_ok nmX12 hown hK hP hD hS 0 rfl rfl 6 (by decide) (ht (.fieldLink RX12 269 "CloneVolumesModel" "badPlace" "I") fl_X12_269) (fun _ h9 => h9) rfl (by decide +kernel) rfl rfl (Nat.le_of_ble_eq_true rfl) dX12_fail_15 (fun H locs hP hD hS => ?_)
  have hP : va_P D vwCl [((a 200), .inr (12, mO a 0 0 0 (-1) 1 0 0 (-1) 0 0 1 0))] H := hP
  have hD : va_D A [((a 200), .inr (12, mO a 0 0 0 (-1) 1 0 0 (-1) 0 0 1 0))] := hD
  have hP9 := hP.sub (ws' := [((a 200), .inr (12, mO a 0 0 0 (-1) 1 0 0 (-1) 0 0 1 0))]) [0] rfl
  have hD9 := hD.sub (ws' := [((a 200), .inr (12, mO a 0 0 0 (-1) 1 0 0 (-1) 0 0 1 0))]) [0] (by decide) rfl
  refine W.widen (k := 0) (n := 0) (Nat.le_of_ble_eq_true rfl) (Nat.le_of_ble_eq_true rfl) ?_
  exact W.vret hx hb hr (fun t ht hW => ⟨⟨(), rfl, trivial, by rw [ht]; exact hP9, va_K.moved hW.alike hK, hD9⟩, hS.F ht⟩) hS.2.2 dX12_fail_18
set_option maxHeartbeats 4000000 in
set_option maxRecDepth 100000 in
theorem k_X12_asks1 (l : Launch) (D : va_G) (sz : Nat) (a : Nat → Nat)  : Met l yX12_asks (wz yX12_asks cX12_asks 2 none) { frames := 3, cells := 0, slots := 0, locals := 180 } (va_Pc [.ref (a 200), .ref (a 11)] (zW D sz [((a 200), .inr (12, mO a 0 0 0 (-1) 0 (-1) 0 (-1) 0 0 1 0))])) (va_Qv (fun (_ : Unit) => True) (fun u t => zB D (va_A [((a 200), .inr (12, mO a 0 0 0 (-1) 0 (-1) 0 (-1) 0 0 1 0))] sz) ((fun (u : Unit) => [((a 200), .inr (12, mO a 0 0 0 (-1) 1 0 0 (-1) 0 0 1 0))]) u) t) (va_A [((a 200), .inr (12, mO a 0 0 0 (-1) 0 (-1) 0 (-1) 0 0 1 0))] sz)) 0 0 (va_A [((a 200), .inr (12, mO a 0 0 0 (-1) 0 (-1) 0 (-1) 0 0 1 0))] sz) := by
  refine Met.ofW (cc := cX12_asks) (maxL := 2) (ret := none) (by decide) rfl ?_
  intro p e s m args below meth c s₁ B hml hv
  obtain ⟨rfl, hsz, hP, hK, hD0⟩ := hv
  have hx := B.exec
  have hb := B.bytes
  have hr := B.returns
  have hts := atoms_spec (ws := wz yX12_asks cX12_asks 2 none) B.pre
  have ht : ∀ w ∈ lw_gd, w.before _ s = true := fun w h => hts w (List.mem_cons_of_mem _ h)
  have hown : s.vm.findClass RX12 = some m.cls := findClass_of_methodNamed B.named
  have hlocks := B.notSynchronized
  subst hsz
  have hD := hD0.self (sz := s.heap.size)
  generalize hAe : va_A [((a 200), .inr (12, mO a 0 0 0 (-1) 0 (-1) 0 (-1) 0 0 1 0))] s.heap.size = A at hD ⊢
  have hA : ∀ q : Nat, s.heap.size ≤ q → A q := fun q h => by rw [← hAe]; exact Or.inr h
  have hS : va_S A s.heap s.heap [] := va_S.rf
  have hl := lv_entry ([.ref (a 200), .ref (a 11)]) (n := 2) (Nat.le_of_ble_eq_true rfl)
  rw [lg_entry_eq]
  generalize (lg_sl ([.ref (a 200), .ref (a 11)]) ++ List.replicate (2 - (lg_sl ([.ref (a 200), .ref (a 11)])).length) Slot.unset).toArray = ls at hl ⊢
  have hl : lv_has ls 2 [(0, .ref (a 200)), (1, .ref (a 11))] := hl
  refine lv_aload_n hx hb dX12_asks_0 rfl (lv_at hl 0 rfl) ?_
  refine va_get (D := D) (ci := 12) (v := .int 0) (C := RX12) (T := TX12) (N := 116) hx hb ht inX12 hown hK hP 0 rfl rfl 5 (by decide) (ht (.fieldLink RX12 266 "CloneVolumesModel" "bad" "I") fl_X12_266) (fun _ h9 => h9) rfl dX12_asks_1 ?_
  refine lv_if_ne (tgt := 24) hx hb dX12_asks_4 (by decide) (fun c_1 => (z_abs c_1 (by decide)).elim) (fun _ => ?_)
  refine lv_aload_n hx hb dX12_asks_7 rfl (lv_at hl 0 rfl) ?_
  refine lv_aload_n hx hb dX12_asks_8 rfl (lv_at hl 1 rfl) ?_
  refine zcV (As := [.ref (a 11)]) (rest := []) (C := RX12) (n := 1) ⟨hx, hb, hml, hown, ht⟩ (k_X12_takes1 l D a) (zgV ml_X12_293 im_X12_takes se_X12_takes in_X12 co_X12_takes) rfl rfl (by decide +kernel) ⟨Nat.le_of_ble_eq_true rfl, Nat.le_of_ble_eq_true rfl⟩ hK hP hS [0] rfl 0 rfl rfl rfl rfl hl.1 rfl (Nat.le_of_ble_eq_true rfl) dX12_asks_9 ⟨Nat.le_of_ble_eq_true rfl, Nat.le_of_ble_eq_true rfl⟩ (fun r_3 H locs hw hP hS => ?_)
  subst hw
  refine lv_if_ne (tgt := 24) hx hb dX12_asks_12 (by decide) (fun c_4 => (z_abs c_4 (by decide)).elim) (fun _ => ?_)
  refine lv_aload_n hx hb dX12_asks_15 rfl (lv_at hl 0 rfl) ?_
  refine lv_iconst (v := 1) hx hb dX12_asks_16 (by decide) ?_
  refine lv_aload_n hx hb dX12_asks_17 rfl (lv_at hl 0 rfl) ?_
  refine va_get (D := D) (ci := 12) (v := .int 0) (C := RX12) (T := TX12) (N := 116) hx hb ht inX12 hown hK hP 0 rfl rfl 2 (by decide) (ht (.fieldLink RX12 272 "CloneVolumesModel" "at" "I") fl_X12_272) (fun _ h9 => h9) rfl dX12_asks_18 ?_
  refine zwVv (As := [.int 1, .int 0]) (rest := []) (C := RX12) (n := 2) (wr := []) ⟨hx, hb, hml, hown, ht⟩ (k_X12_fail1 l D _ a) (zgV ml_X12_296 im_X12_fail se_X12_fail in_X12 co_X12_fail) rfl rfl (by decide +kernel) ⟨Nat.le_of_ble_eq_true rfl, Nat.le_of_ble_eq_true rfl⟩ hK hP hD hS hA [0] [] rfl rfl rfl rfl (by decide) 0 rfl rfl rfl rfl hl.1 rfl (Nat.le_of_ble_eq_true rfl) dX12_asks_21 ⟨Nat.le_of_ble_eq_true rfl, Nat.le_of_ble_eq_true rfl⟩ (fun u_6 H locs hw hP hD hS => ?_)
  have hP : va_P D vwCl [((a 200), .inr (12, mO a 0 0 0 (-1) 1 0 0 (-1) 0 0 1 0))] H := hP
  have hD : va_D A [((a 200), .inr (12, mO a 0 0 0 (-1) 1 0 0 (-1) 0 0 1 0))] := hD
  have hP9 := hP.sub (ws' := [((a 200), .inr (12, mO a 0 0 0 (-1) 1 0 0 (-1) 0 0 1 0))]) [0] rfl
  have hD9 := hD.sub (ws' := [((a 200), .inr (12, mO a 0 0 0 (-1) 1 0 0 (-1) 0 0 1 0))]) [0] (by decide) rfl
  refine W.widen (k := 0) (n := 0) (Nat.le_of_ble_eq_true rfl) (Nat.le_of_ble_eq_true rfl) ?_
  exact W.vret hx hb hr (fun t ht hW => ⟨⟨(), rfl, trivial, by rw [ht]; exact hP9, va_K.moved hW.alike hK, hD9⟩, hS.F ht⟩) hS.2.2 dX12_asks_24
set_option maxHeartbeats 4000000 in
set_option maxRecDepth 100000 in
theorem k_X12_asks2 (l : Launch) (D : va_G) (sz : Nat) (a : Nat → Nat)  : Met l yX12_asks (wz yX12_asks cX12_asks 2 none) { frames := 0, cells := 0, slots := 0, locals := 0 } (va_Pc [.ref (a 200), .ref (a 12)] (zW D sz [((a 200), .inr (12, mO a 0 0 0 (-1) 1 0 0 (-1) 0 0 1 0))])) (va_Qv (fun (_ : Unit) => True) (fun u t => zB D (va_A [((a 200), .inr (12, mO a 0 0 0 (-1) 1 0 0 (-1) 0 0 1 0))] sz) ((fun (u : Unit) => [((a 200), .inr (12, mO a 0 0 0 (-1) 1 0 0 (-1) 0 0 1 0))]) u) t) (va_A [((a 200), .inr (12, mO a 0 0 0 (-1) 1 0 0 (-1) 0 0 1 0))] sz)) 0 0 (va_A [((a 200), .inr (12, mO a 0 0 0 (-1) 1 0 0 (-1) 0 0 1 0))] sz) := by
  refine Met.ofW (cc := cX12_asks) (maxL := 2) (ret := none) (by decide) rfl ?_
  intro p e s m args below meth c s₁ B hml hv
  obtain ⟨rfl, hsz, hP, hK, hD0⟩ := hv
  have hx := B.exec
  have hb := B.bytes
  have hr := B.returns
  have hts := atoms_spec (ws := wz yX12_asks cX12_asks 2 none) B.pre
  have ht : ∀ w ∈ lw_gd, w.before _ s = true := fun w h => hts w (List.mem_cons_of_mem _ h)
  have hown : s.vm.findClass RX12 = some m.cls := findClass_of_methodNamed B.named
  have hlocks := B.notSynchronized
  subst hsz
  have hD := hD0.self (sz := s.heap.size)
  generalize hAe : va_A [((a 200), .inr (12, mO a 0 0 0 (-1) 1 0 0 (-1) 0 0 1 0))] s.heap.size = A at hD ⊢
  have hA : ∀ q : Nat, s.heap.size ≤ q → A q := fun q h => by rw [← hAe]; exact Or.inr h
  have hS : va_S A s.heap s.heap [] := va_S.rf
  have hl := lv_entry ([.ref (a 200), .ref (a 12)]) (n := 2) (Nat.le_of_ble_eq_true rfl)
  rw [lg_entry_eq]
  generalize (lg_sl ([.ref (a 200), .ref (a 12)]) ++ List.replicate (2 - (lg_sl ([.ref (a 200), .ref (a 12)])).length) Slot.unset).toArray = ls at hl ⊢
  have hl : lv_has ls 2 [(0, .ref (a 200)), (1, .ref (a 12))] := hl
  refine lv_aload_n hx hb dX12_asks_0 rfl (lv_at hl 0 rfl) ?_
  refine va_get (D := D) (ci := 12) (v := .int 1) (C := RX12) (T := TX12) (N := 116) hx hb ht inX12 hown hK hP 0 rfl rfl 5 (by decide) (ht (.fieldLink RX12 266 "CloneVolumesModel" "bad" "I") fl_X12_266) (fun _ h9 => h9) rfl dX12_asks_1 ?_
  refine lv_if_ne (tgt := 24) hx hb dX12_asks_4 (by decide) (fun _ => ?_) (fun c_1 => (z_abs c_1 (by decide)).elim)
  have hP9 := hP.sub (ws' := [((a 200), .inr (12, mO a 0 0 0 (-1) 1 0 0 (-1) 0 0 1 0))]) [0] rfl
  have hD9 := hD.sub (ws' := [((a 200), .inr (12, mO a 0 0 0 (-1) 1 0 0 (-1) 0 0 1 0))]) [0] (by decide) rfl
  refine W.widen (k := 0) (n := 0) (Nat.le_of_ble_eq_true rfl) (Nat.le_of_ble_eq_true rfl) ?_
  exact W.vret hx hb hr (fun t ht hW => ⟨⟨(), rfl, trivial, by rw [ht]; exact hP9, va_K.moved hW.alike hK, hD9⟩, hS.F ht⟩) hS.2.2 dX12_asks_24
set_option maxHeartbeats 4000000 in
set_option maxRecDepth 100000 in
theorem k_X12_asksSign2 (l : Launch) (D : va_G) (sz : Nat) (a : Nat → Nat)  : Met l yX12_asksSign (wz yX12_asksSign cX12_asksSign 2 none) { frames := 0, cells := 0, slots := 0, locals := 0 } (va_Pc [.ref (a 200), .int 59] (zW D sz [((a 200), .inr (12, mO a 0 0 0 (-1) 1 0 0 (-1) 0 0 1 0))])) (va_Qv (fun (_ : Unit) => True) (fun u t => zB D (va_A [((a 200), .inr (12, mO a 0 0 0 (-1) 1 0 0 (-1) 0 0 1 0))] sz) ((fun (u : Unit) => [((a 200), .inr (12, mO a 0 0 0 (-1) 1 0 0 (-1) 0 0 1 0))]) u) t) (va_A [((a 200), .inr (12, mO a 0 0 0 (-1) 1 0 0 (-1) 0 0 1 0))] sz)) 0 0 (va_A [((a 200), .inr (12, mO a 0 0 0 (-1) 1 0 0 (-1) 0 0 1 0))] sz) := by
  refine Met.ofW (cc := cX12_asksSign) (maxL := 2) (ret := none) (by decide) rfl ?_
  intro p e s m args below meth c s₁ B hml hv
  obtain ⟨rfl, hsz, hP, hK, hD0⟩ := hv
  have hx := B.exec
  have hb := B.bytes
  have hr := B.returns
  have hts := atoms_spec (ws := wz yX12_asksSign cX12_asksSign 2 none) B.pre
  have ht : ∀ w ∈ lw_gd, w.before _ s = true := fun w h => hts w (List.mem_cons_of_mem _ h)
  have hown : s.vm.findClass RX12 = some m.cls := findClass_of_methodNamed B.named
  have hlocks := B.notSynchronized
  subst hsz
  have hD := hD0.self (sz := s.heap.size)
  generalize hAe : va_A [((a 200), .inr (12, mO a 0 0 0 (-1) 1 0 0 (-1) 0 0 1 0))] s.heap.size = A at hD ⊢
  have hA : ∀ q : Nat, s.heap.size ≤ q → A q := fun q h => by rw [← hAe]; exact Or.inr h
  have hS : va_S A s.heap s.heap [] := va_S.rf
  have hl := lv_entry ([.ref (a 200), .int 59]) (n := 2) (Nat.le_of_ble_eq_true rfl)
  rw [lg_entry_eq]
  generalize (lg_sl ([.ref (a 200), .int 59]) ++ List.replicate (2 - (lg_sl ([.ref (a 200), .int 59])).length) Slot.unset).toArray = ls at hl ⊢
  have hl : lv_has ls 2 [(0, .ref (a 200)), (1, .int 59)] := hl
  refine lv_aload_n hx hb dX12_asksSign_0 rfl (lv_at hl 0 rfl) ?_
  refine va_get (D := D) (ci := 12) (v := .int 1) (C := RX12) (T := TX12) (N := 116) hx hb ht inX12 hown hK hP 0 rfl rfl 5 (by decide) (ht (.fieldLink RX12 266 "CloneVolumesModel" "bad" "I") fl_X12_266) (fun _ h9 => h9) rfl dX12_asksSign_1 ?_
  refine lv_if_ne (tgt := 24) hx hb dX12_asksSign_4 (by decide) (fun _ => ?_) (fun c_1 => (z_abs c_1 (by decide)).elim)
  have hP9 := hP.sub (ws' := [((a 200), .inr (12, mO a 0 0 0 (-1) 1 0 0 (-1) 0 0 1 0))]) [0] rfl
  have hD9 := hD.sub (ws' := [((a 200), .inr (12, mO a 0 0 0 (-1) 1 0 0 (-1) 0 0 1 0))]) [0] (by decide) rfl
  refine W.widen (k := 0) (n := 0) (Nat.le_of_ble_eq_true rfl) (Nat.le_of_ble_eq_true rfl) ?_
  exact W.vret hx hb hr (fun t ht hW => ⟨⟨(), rfl, trivial, by rw [ht]; exact hP9, va_K.moved hW.alike hK, hD9⟩, hS.F ht⟩) hS.2.2 dX12_asksSign_24
set_option maxHeartbeats 4000000 in
set_option maxRecDepth 100000 in
theorem k_X12_number2 (l : Launch) (D : va_G) (a : Nat → Nat) (p0 : Int32) (p1 : Int32) : Met l yX12_number (wz yX12_number cX12_number 5 (some .int)) { frames := 0, cells := 0, slots := 0, locals := 0 } (va_Pc [.ref (a 200), .int p0, .int p1] (zP D [((a 200), .inr (12, mO a 0 0 0 (-1) 1 0 0 (-1) 0 0 1 0))])) (va_Qi (fun r (_ : Unit) => r = 0) (fun _ _ => True) (fun _ => False)) 0 0 (fun _ => False) := by
  refine Met.ofW (cc := cX12_number) (maxL := 5) (ret := (some .int)) (by decide) rfl ?_
  intro p e s m args below meth c s₁ B hml hv
  obtain ⟨rfl, hP, hK⟩ := hv
  have hx := B.exec
  have hb := B.bytes
  have hr := B.returns
  have hts := atoms_spec (ws := wz yX12_number cX12_number 5 (some .int)) B.pre
  have ht : ∀ w ∈ lw_gd, w.before _ s = true := fun w h => hts w (List.mem_cons_of_mem _ h)
  have hown : s.vm.findClass RX12 = some m.cls := findClass_of_methodNamed B.named
  have hlocks := B.notSynchronized
  have hS : va_S (fun _ => False) s.heap s.heap [] := va_S.rf
  have hl := lv_entry ([.ref (a 200), .int p0, .int p1]) (n := 5) (Nat.le_of_ble_eq_true rfl)
  rw [lg_entry_eq]
  generalize (lg_sl ([.ref (a 200), .int p0, .int p1]) ++ List.replicate (5 - (lg_sl ([.ref (a 200), .int p0, .int p1])).length) Slot.unset).toArray = ls at hl ⊢
  have hl : lv_has ls 5 [(0, .ref (a 200)), (1, .int p0), (2, .int p1)] := hl
  refine lv_aload_n hx hb dX12_number_0 rfl (lv_at hl 0 rfl) ?_
  refine va_get (D := D) (ci := 12) (v := .int 1) (C := RX12) (T := TX12) (N := 116) hx hb ht inX12 hown hK hP 0 rfl rfl 5 (by decide) (ht (.fieldLink RX12 266 "CloneVolumesModel" "bad" "I") fl_X12_266) (fun _ h9 => h9) rfl dX12_number_1 ?_
  refine lv_if_eq (tgt := 9) hx hb dX12_number_4 (by decide) (fun c_1 => (z_abs c_1 (by decide)).elim) (fun _ => ?_)
  refine lv_iconst (v := 0) hx hb dX12_number_7 (by decide) ?_
  exact W.iret (v := 0) hx hb hr (fun t ht hW => ⟨⟨0, (), rfl, rfl, trivial⟩, hS.F ht⟩) hS.2.2 dX12_number_8
set_option maxHeartbeats 4000000 in
set_option maxRecDepth 100000 in
theorem k_X12_storeTold1 (l : Launch) (D : va_G) (sz : Nat) (a : Nat → Nat)  : Met l yX12_storeTold (wz yX12_storeTold cX12_storeTold 1 none) { frames := 4, cells := 0, slots := 0, locals := 240 } (va_Pc [.ref (a 200)] (zW D sz [((a 200), .inr (12, mO a 0 0 0 (-1) 0 (-1) 0 (-1) 0 0 1 0)), ((a 39), .inl (D.1 13, 10, .inl (fun _ => 0)))])) (va_Qv (fun (_ : Unit) => True) (fun u t => zB D (va_A [((a 200), .inr (12, mO a 0 0 0 (-1) 0 (-1) 0 (-1) 0 0 1 0)), ((a 39), .inl (D.1 13, 10, .inl (fun _ => 0)))] sz) ((fun (u : Unit) => [((a 39), .inl (D.1 13, 10, .inl (fun _ => 0))), ((a 200), .inr (12, mO a 0 0 0 (-1) 1 0 0 (-1) 0 0 1 0))]) u) t) (va_A [((a 200), .inr (12, mO a 0 0 0 (-1) 0 (-1) 0 (-1) 0 0 1 0)), ((a 39), .inl (D.1 13, 10, .inl (fun _ => 0)))] sz)) 0 0 (va_A [((a 200), .inr (12, mO a 0 0 0 (-1) 0 (-1) 0 (-1) 0 0 1 0)), ((a 39), .inl (D.1 13, 10, .inl (fun _ => 0)))] sz) := by
  refine Met.ofW (cc := cX12_storeTold) (maxL := 1) (ret := none) (by decide) rfl ?_
  intro p e s m args below meth c s₁ B hml hv
  obtain ⟨rfl, hsz, hP, hK, hD0⟩ := hv
  have hx := B.exec
  have hb := B.bytes
  have hr := B.returns
  have hts := atoms_spec (ws := wz yX12_storeTold cX12_storeTold 1 none) B.pre
  have ht : ∀ w ∈ lw_gd, w.before _ s = true := fun w h => hts w (List.mem_cons_of_mem _ h)
  have hown : s.vm.findClass RX12 = some m.cls := findClass_of_methodNamed B.named
  have hlocks := B.notSynchronized
  subst hsz
  have hD := hD0.self (sz := s.heap.size)
  generalize hAe : va_A [((a 200), .inr (12, mO a 0 0 0 (-1) 0 (-1) 0 (-1) 0 0 1 0)), ((a 39), .inl (D.1 13, 10, .inl (fun _ => 0)))] s.heap.size = A at hD ⊢
  have hA : ∀ q : Nat, s.heap.size ≤ q → A q := fun q h => by rw [← hAe]; exact Or.inr h
  have hS : va_S A s.heap s.heap [] := va_S.rf
  have hl := lv_entry ([.ref (a 200)]) (n := 1) (Nat.le_of_ble_eq_true rfl)
  rw [lg_entry_eq]
  generalize (lg_sl ([.ref (a 200)]) ++ List.replicate (1 - (lg_sl ([.ref (a 200)])).length) Slot.unset).toArray = ls at hl ⊢
  have hl : lv_has ls 1 [(0, .ref (a 200))] := hl
  refine lv_aload_n hx hb dX12_storeTold_0 rfl (lv_at hl 0 rfl) ?_
  refine lv_aload_n hx hb dX12_storeTold_1 rfl (lv_at hl 0 rfl) ?_
  refine va_get (D := D) (ci := 12) (v := .ref (a 11)) (C := RX12) (T := TX12) (N := 116) hx hb ht inX12 hown hK hP 0 rfl rfl 11 (by decide) (ht (.fieldLink RX12 20 "CloneVolumesModel" "blocksWord" "[C") fl_X12_20) (fun _ h9 => h9) rfl dX12_storeTold_2 ?_
  refine zwVv (As := [.ref (a 11)]) (rest := []) (C := RX12) (n := 1) (wr := [((a 39), .inl (D.1 13, 10, .inl (fun _ => 0)))]) ⟨hx, hb, hml, hown, ht⟩ (k_X12_asks1 l D _ a) (zgV ml_X12_327 im_X12_asks se_X12_asks in_X12 co_X12_asks) rfl rfl (by decide +kernel) ⟨Nat.le_of_ble_eq_true rfl, Nat.le_of_ble_eq_true rfl⟩ hK hP hD hS hA [0] [1] rfl rfl rfl rfl (by decide) 0 rfl rfl rfl rfl hl.1 rfl (Nat.le_of_ble_eq_true rfl) dX12_storeTold_5 ⟨Nat.le_of_ble_eq_true rfl, Nat.le_of_ble_eq_true rfl⟩ (fun u_1 H locs hw hP hD hS => ?_)
  have hP : va_P D vwCl [((a 39), .inl (D.1 13, 10, .inl (fun _ => 0))), ((a 200), .inr (12, mO a 0 0 0 (-1) 1 0 0 (-1) 0 0 1 0))] H := hP
  have hD : va_D A [((a 39), .inl (D.1 13, 10, .inl (fun _ => 0))), ((a 200), .inr (12, mO a 0 0 0 (-1) 1 0 0 (-1) 0 0 1 0))] := hD
  refine lv_aload_n hx hb dX12_storeTold_8 rfl (lv_at hl 0 rfl) ?_
  refine va_get (D := D) (ci := 12) (v := .ref (a 39)) (C := RX12) (T := TX12) (N := 116) hx hb ht inX12 hown hK hP 1 rfl rfl 39 (by decide) (ht (.fieldLink RX12 102 "CloneVolumesModel" "many" "[I") fl_X12_102) (fun _ h9 => h9) rfl dX12_storeTold_9 ?_
  refine lv_iconst (v := 0) hx hb dX12_storeTold_12 (by decide) ?_
  refine lv_aload_n hx hb dX12_storeTold_13 rfl (lv_at hl 0 rfl) ?_
  refine lv_bipush (v := 8) hx hb dX12_storeTold_14 (by decide) ?_
  refine lv_bipush (v := 48) hx hb dX12_storeTold_16 (by decide) ?_
  refine zcV (As := [.int 8, .int 48]) (rest := [.int 0, .ref (a 39)]) (C := RX12) (n := 2) ⟨hx, hb, hml, hown, ht⟩ (k_X12_number2 l D a 8 48) (zgV ml_X12_331 im_X12_number se_X12_number in_X12 co_X12_number) rfl rfl (by decide +kernel) ⟨Nat.le_of_ble_eq_true rfl, Nat.le_of_ble_eq_true rfl⟩ hK hP hS [1] rfl 0 rfl rfl rfl rfl hl.1 rfl (Nat.le_of_ble_eq_true rfl) dX12_storeTold_18 ⟨Nat.le_of_ble_eq_true rfl, Nat.le_of_ble_eq_true rfl⟩ (fun r_3 H locs hw hP hS => ?_)
  subst hw
  refine va_iast hx hb hK hP hD hS 0 0 rfl rfl (z_in (by decide) (by decide)) dX12_storeTold_21 (fun H locs hP hD hS => ?_)
  rw [z_updc] at hP hD
  have hP : va_P D vwCl [((a 39), .inl (D.1 13, 10, .inl (fun _ => 0))), ((a 200), .inr (12, mO a 0 0 0 (-1) 1 0 0 (-1) 0 0 1 0))] H := hP
  have hD : va_D A [((a 39), .inl (D.1 13, 10, .inl (fun _ => 0))), ((a 200), .inr (12, mO a 0 0 0 (-1) 1 0 0 (-1) 0 0 1 0))] := hD
  refine lv_aload_n hx hb dX12_storeTold_22 rfl (lv_at hl 0 rfl) ?_
  refine lv_aload_n hx hb dX12_storeTold_23 rfl (lv_at hl 0 rfl) ?_
  refine va_get (D := D) (ci := 12) (v := .ref (a 12)) (C := RX12) (T := TX12) (N := 116) hx hb ht inX12 hown hK hP 1 rfl rfl 12 (by decide) (ht (.fieldLink RX12 24 "CloneVolumesModel" "roomWord" "[C") fl_X12_24) (fun _ h9 => h9) rfl dX12_storeTold_24 ?_
  refine zwVv (As := [.ref (a 12)]) (rest := []) (C := RX12) (n := 1) (wr := [((a 39), .inl (D.1 13, 10, .inl (fun _ => 0)))]) ⟨hx, hb, hml, hown, ht⟩ (k_X12_asks2 l D _ a) (zgV ml_X12_327 im_X12_asks se_X12_asks in_X12 co_X12_asks) rfl rfl (by decide +kernel) ⟨Nat.le_of_ble_eq_true rfl, Nat.le_of_ble_eq_true rfl⟩ hK hP hD hS hA [1] [0] rfl rfl rfl rfl (by decide) 0 rfl rfl rfl rfl hl.1 rfl (Nat.le_of_ble_eq_true rfl) dX12_storeTold_27 ⟨Nat.le_of_ble_eq_true rfl, Nat.le_of_ble_eq_true rfl⟩ (fun u_4 H locs hw hP hD hS => ?_)
  have hP : va_P D vwCl [((a 39), .inl (D.1 13, 10, .inl (fun _ => 0))), ((a 200), .inr (12, mO a 0 0 0 (-1) 1 0 0 (-1) 0 0 1 0))] H := hP
  have hD : va_D A [((a 39), .inl (D.1 13, 10, .inl (fun _ => 0))), ((a 200), .inr (12, mO a 0 0 0 (-1) 1 0 0 (-1) 0 0 1 0))] := hD
  refine lv_aload_n hx hb dX12_storeTold_30 rfl (lv_at hl 0 rfl) ?_
  refine va_get (D := D) (ci := 12) (v := .ref (a 39)) (C := RX12) (T := TX12) (N := 116) hx hb ht inX12 hown hK hP 1 rfl rfl 39 (by decide) (ht (.fieldLink RX12 102 "CloneVolumesModel" "many" "[I") fl_X12_102) (fun _ h9 => h9) rfl dX12_storeTold_31 ?_
  refine lv_iconst (v := 1) hx hb dX12_storeTold_34 (by decide) ?_
  refine lv_aload_n hx hb dX12_storeTold_35 rfl (lv_at hl 0 rfl) ?_
  refine lv_iconst (v := 3) hx hb dX12_storeTold_36 (by decide) ?_
  refine lv_bipush (v := 6) hx hb dX12_storeTold_37 (by decide) ?_
  refine zcV (As := [.int 3, .int 6]) (rest := [.int 1, .ref (a 39)]) (C := RX12) (n := 2) ⟨hx, hb, hml, hown, ht⟩ (k_X12_number2 l D a 3 6) (zgV ml_X12_331 im_X12_number se_X12_number in_X12 co_X12_number) rfl rfl (by decide +kernel) ⟨Nat.le_of_ble_eq_true rfl, Nat.le_of_ble_eq_true rfl⟩ hK hP hS [1] rfl 0 rfl rfl rfl rfl hl.1 rfl (Nat.le_of_ble_eq_true rfl) dX12_storeTold_39 ⟨Nat.le_of_ble_eq_true rfl, Nat.le_of_ble_eq_true rfl⟩ (fun r_6 H locs hw hP hS => ?_)
  subst hw
  refine va_iast hx hb hK hP hD hS 0 0 rfl rfl (z_in (by decide) (by decide)) dX12_storeTold_42 (fun H locs hP hD hS => ?_)
  rw [z_updc] at hP hD
  have hP : va_P D vwCl [((a 39), .inl (D.1 13, 10, .inl (fun _ => 0))), ((a 200), .inr (12, mO a 0 0 0 (-1) 1 0 0 (-1) 0 0 1 0))] H := hP
  have hD : va_D A [((a 39), .inl (D.1 13, 10, .inl (fun _ => 0))), ((a 200), .inr (12, mO a 0 0 0 (-1) 1 0 0 (-1) 0 0 1 0))] := hD
  refine lv_aload_n hx hb dX12_storeTold_43 rfl (lv_at hl 0 rfl) ?_
  refine lv_bipush (v := 59) hx hb dX12_storeTold_44 (by decide) ?_
  refine zwVv (As := [.int 59]) (rest := []) (C := RX12) (n := 1) (wr := [((a 39), .inl (D.1 13, 10, .inl (fun _ => 0)))]) ⟨hx, hb, hml, hown, ht⟩ (k_X12_asksSign2 l D _ a) (zgV ml_X12_335 im_X12_asksSign se_X12_asksSign in_X12 co_X12_asksSign) rfl rfl (by decide +kernel) ⟨Nat.le_of_ble_eq_true rfl, Nat.le_of_ble_eq_true rfl⟩ hK hP hD hS hA [1] [0] rfl rfl rfl rfl (by decide) 0 rfl rfl rfl rfl hl.1 rfl (Nat.le_of_ble_eq_true rfl) dX12_storeTold_46 ⟨Nat.le_of_ble_eq_true rfl, Nat.le_of_ble_eq_true rfl⟩ (fun u_7 H locs hw hP hD hS => ?_)
  have hP : va_P D vwCl [((a 39), .inl (D.1 13, 10, .inl (fun _ => 0))), ((a 200), .inr (12, mO a 0 0 0 (-1) 1 0 0 (-1) 0 0 1 0))] H := hP
  have hD : va_D A [((a 39), .inl (D.1 13, 10, .inl (fun _ => 0))), ((a 200), .inr (12, mO a 0 0 0 (-1) 1 0 0 (-1) 0 0 1 0))] := hD
  have hP9 := hP.sub (ws' := [((a 39), .inl (D.1 13, 10, .inl (fun _ => 0))), ((a 200), .inr (12, mO a 0 0 0 (-1) 1 0 0 (-1) 0 0 1 0))]) [0, 1] rfl
  have hD9 := hD.sub (ws' := [((a 39), .inl (D.1 13, 10, .inl (fun _ => 0))), ((a 200), .inr (12, mO a 0 0 0 (-1) 1 0 0 (-1) 0 0 1 0))]) [0, 1] (by decide) rfl
  refine W.widen (k := 0) (n := 0) (Nat.le_of_ble_eq_true rfl) (Nat.le_of_ble_eq_true rfl) ?_
  exact W.vret hx hb hr (fun t ht hW => ⟨⟨(), rfl, trivial, by rw [ht]; exact hP9, va_K.moved hW.alike hK, hD9⟩, hS.F ht⟩) hS.2.2 dX12_storeTold_49
set_option maxHeartbeats 4000000 in
set_option maxRecDepth 100000 in
theorem k_X12_refuses3 (l : Launch) (D : va_G) (sz : Nat) (a : Nat → Nat)  : Met l yX12_refuses (wz yX12_refuses cX12_refuses 2 (some .int)) { frames := 0, cells := 0, slots := 0, locals := 0 } (va_Pc [.ref (a 200), .int 1] (zW D sz [((a 200), .inr (12, mO a 0 0 0 (-1) 1 0 1 0 0 1 1 0)), ((a 9), .inl (D.1 13, 6, .inl (fun _ => 0)))])) (va_Qi (fun r (_ : Unit) => r = (-1)) (fun u t => zB D (va_A [((a 200), .inr (12, mO a 0 0 0 (-1) 1 0 1 0 0 1 1 0)), ((a 9), .inl (D.1 13, 6, .inl (fun _ => 0)))] sz) ((fun (_ : Unit) => []) u) t) (va_A [((a 200), .inr (12, mO a 0 0 0 (-1) 1 0 1 0 0 1 1 0)), ((a 9), .inl (D.1 13, 6, .inl (fun _ => 0)))] sz)) 0 0 (va_A [((a 200), .inr (12, mO a 0 0 0 (-1) 1 0 1 0 0 1 1 0)), ((a 9), .inl (D.1 13, 6, .inl (fun _ => 0)))] sz) := by
  refine Met.ofW (cc := cX12_refuses) (maxL := 2) (ret := (some .int)) (by decide) rfl ?_
  intro p e s m args below meth c s₁ B hml hv
  obtain ⟨rfl, hsz, hP, hK, hD0⟩ := hv
  have hx := B.exec
  have hb := B.bytes
  have hr := B.returns
  have hts := atoms_spec (ws := wz yX12_refuses cX12_refuses 2 (some .int)) B.pre
  have ht : ∀ w ∈ lw_gd, w.before _ s = true := fun w h => hts w (List.mem_cons_of_mem _ h)
  have hown : s.vm.findClass RX12 = some m.cls := findClass_of_methodNamed B.named
  have hlocks := B.notSynchronized
  subst hsz
  have hD := hD0.self (sz := s.heap.size)
  generalize hAe : va_A [((a 200), .inr (12, mO a 0 0 0 (-1) 1 0 1 0 0 1 1 0)), ((a 9), .inl (D.1 13, 6, .inl (fun _ => 0)))] s.heap.size = A at hD ⊢
  have hA : ∀ q : Nat, s.heap.size ≤ q → A q := fun q h => by rw [← hAe]; exact Or.inr h
  have hS : va_S A s.heap s.heap [] := va_S.rf
  have hl := lv_entry ([.ref (a 200), .int 1]) (n := 2) (Nat.le_of_ble_eq_true rfl)
  rw [lg_entry_eq]
  generalize (lg_sl ([.ref (a 200), .int 1]) ++ List.replicate (2 - (lg_sl ([.ref (a 200), .int 1])).length) Slot.unset).toArray = ls at hl ⊢
  have hl : lv_has ls 2 [(0, .ref (a 200)), (1, .int 1)] := hl
  refine lv_aload_n hx hb dX12_refuses_0 rfl (lv_at hl 0 rfl) ?_
  refine va_get (D := D) (ci := 12) (v := .ref (a 9)) (C := RX12) (T := TX12) (N := 116) hx hb ht inX12 hown hK hP 0 rfl rfl 9 (by decide) (ht (.fieldLink RX12 17 "CloneVolumesModel" "refused" "[I") fl_X12_17) (fun _ h9 => h9) rfl dX12_refuses_1 ?_
  refine lv_iload_n hx hb dX12_refuses_4 rfl (lv_at hl 1 rfl) ?_
  refine lv_dup2_11 hx hb dX12_refuses_5 rfl rfl ?_
  refine va_iald hx hb hK hP 1 0 rfl rfl (z_in (by decide) (by decide)) dX12_refuses_6 ?_
  refine z_topi (y := 0) (by decide) ?_
  refine lv_iconst (v := 1) hx hb dX12_refuses_7 (by decide) ?_
  refine lv_iadd hx hb dX12_refuses_8 ?_
  refine z_topi (y := 1) (by decide) ?_
  refine va_iast hx hb hK hP hD hS 1 0 rfl rfl (z_in (by decide) (by decide)) dX12_refuses_9 (fun H locs hP hD hS => ?_)
  generalize hf_1 : upd _ _ _ = f_1 at hP hD
  have hP : va_P D vwCl [((a 200), .inr (12, mO a 0 0 0 (-1) 1 0 1 0 0 1 1 0)), ((a 9), .inl (D.1 13, 6, .inl f_1))] H := hP
  have hD : va_D A [((a 200), .inr (12, mO a 0 0 0 (-1) 1 0 1 0 0 1 1 0)), ((a 9), .inl (D.1 13, 6, .inl f_1))] := hD
  refine lv_iconst (v := (-1)) hx hb dX12_refuses_10 (by decide) ?_
  have hP9 := hP.sub (ws' := []) [] rfl
  have hD9 := hD.sub (ws' := []) [] (by decide) rfl
  refine W.widen (k := 0) (n := 0) (Nat.le_of_ble_eq_true rfl) (Nat.le_of_ble_eq_true rfl) ?_
  exact W.iret (v := (-1)) hx hb hr (fun t ht hW => ⟨⟨(-1), (), rfl, rfl, by rw [ht]; exact hP9, va_K.moved hW.alike hK, hD9⟩, hS.F ht⟩) hS.2.2 dX12_refuses_11
set_option maxHeartbeats 4000000 in
set_option maxRecDepth 100000 in
theorem k_X12_store (l : Launch) (D : va_G) (sz : Nat) (a : Nat → Nat) (fc : Nat → Int32) : Met l yX12_store (wz yX12_store cX12_store 2 (some .int)) { frames := 5, cells := 0, slots := 0, locals := 300 } (va_Pc [.ref (a 200)] (zW D sz [((a 200), .inr (12, mO a 0 0 0 0 0 0 0 (-1) 0 0 1 0)), ((a 39), .inl (D.1 13, 10, .inl (fun _ => 0))), ((a 42), .inl (D.1 13, 6, .inl fc)), ((a 9), .inl (D.1 13, 6, .inl (fun _ => 0)))])) (va_Qi (fun r (_ : Unit) => r = (-1)) (fun u t => zB D (va_A [((a 200), .inr (12, mO a 0 0 0 0 0 0 0 (-1) 0 0 1 0)), ((a 39), .inl (D.1 13, 10, .inl (fun _ => 0))), ((a 42), .inl (D.1 13, 6, .inl fc)), ((a 9), .inl (D.1 13, 6, .inl (fun _ => 0)))] sz) ((fun (_ : Unit) => []) u) t) (va_A [((a 200), .inr (12, mO a 0 0 0 0 0 0 0 (-1) 0 0 1 0)), ((a 39), .inl (D.1 13, 10, .inl (fun _ => 0))), ((a 42), .inl (D.1 13, 6, .inl fc)), ((a 9), .inl (D.1 13, 6, .inl (fun _ => 0)))] sz)) 0 0 (va_A [((a 200), .inr (12, mO a 0 0 0 0 0 0 0 (-1) 0 0 1 0)), ((a 39), .inl (D.1 13, 10, .inl (fun _ => 0))), ((a 42), .inl (D.1 13, 6, .inl fc)), ((a 9), .inl (D.1 13, 6, .inl (fun _ => 0)))] sz) := by
  refine Met.ofW (cc := cX12_store) (maxL := 2) (ret := (some .int)) (by decide) rfl ?_
  intro p e s m args below meth c s₁ B hml hv
  obtain ⟨rfl, hsz, hP, hK, hD0⟩ := hv
  have hx := B.exec
  have hb := B.bytes
  have hr := B.returns
  have hts := atoms_spec (ws := wz yX12_store cX12_store 2 (some .int)) B.pre
  have ht : ∀ w ∈ lw_gd, w.before _ s = true := fun w h => hts w (List.mem_cons_of_mem _ h)
  have hown : s.vm.findClass RX12 = some m.cls := findClass_of_methodNamed B.named
  have hlocks := B.notSynchronized
  subst hsz
  have hD := hD0.self (sz := s.heap.size)
  generalize hAe : va_A [((a 200), .inr (12, mO a 0 0 0 0 0 0 0 (-1) 0 0 1 0)), ((a 39), .inl (D.1 13, 10, .inl (fun _ => 0))), ((a 42), .inl (D.1 13, 6, .inl fc)), ((a 9), .inl (D.1 13, 6, .inl (fun _ => 0)))] s.heap.size = A at hD ⊢
  have hA : ∀ q : Nat, s.heap.size ≤ q → A q := fun q h => by rw [← hAe]; exact Or.inr h
  have hS : va_S A s.heap s.heap [] := va_S.rf
  have hl := lv_entry ([.ref (a 200)]) (n := 2) (Nat.le_of_ble_eq_true rfl)
  rw [lg_entry_eq]
  generalize (lg_sl ([.ref (a 200)]) ++ List.replicate (2 - (lg_sl ([.ref (a 200)])).length) Slot.unset).toArray = ls at hl ⊢
  have hl : lv_has ls 2 [(0, .ref (a 200))] := hl
  refine lv_aload_n hx hb dX12_store_0 rfl (lv_at hl 0 rfl) ?_
  refine lv_aload_n hx hb dX12_store_1 rfl (lv_at hl 0 rfl) ?_
  refine va_get (D := D) (ci := 12) (v := .int 0) (C := RX12) (T := TX12) (N := 116) hx hb ht inX12 hown hK hP 0 rfl rfl 1 (by decide) (ht (.fieldLink RX12 263 "CloneVolumesModel" "taped" "I") fl_X12_263) (fun _ h9 => h9) rfl dX12_store_2 ?_
  refine va_put (D := D) (ci := 12) (v := .int 0) (ty := .int) (C := RX12) (T := TX12) (N := 116) hx hb ht inX12 tyX12 tyX12_ok nmX12 hown hK hP hD hS 0 rfl rfl 3 (by decide) (ht (.fieldLink RX12 275 "CloneVolumesModel" "end" "I") fl_X12_275) (fun _ h9 => h9) rfl (by decide +kernel) rfl rfl (Nat.le_of_ble_eq_true rfl) dX12_store_5 (fun H locs hP hD hS => ?_)
  have hP : va_P D vwCl [((a 200), .inr (12, mO a 0 0 0 0 0 0 0 (-1) 0 0 1 0)), ((a 39), .inl (D.1 13, 10, .inl (fun _ => 0))), ((a 42), .inl (D.1 13, 6, .inl fc)), ((a 9), .inl (D.1 13, 6, .inl (fun _ => 0)))] H := hP
  have hD : va_D A [((a 200), .inr (12, mO a 0 0 0 0 0 0 0 (-1) 0 0 1 0)), ((a 39), .inl (D.1 13, 10, .inl (fun _ => 0))), ((a 42), .inl (D.1 13, 6, .inl fc)), ((a 9), .inl (D.1 13, 6, .inl (fun _ => 0)))] := hD
  refine lv_aload_n hx hb dX12_store_8 rfl (lv_at hl 0 rfl) ?_
  refine lv_iconst (v := 0) hx hb dX12_store_9 (by decide) ?_
  refine va_put (D := D) (ci := 12) (v := .int 0) (ty := .int) (C := RX12) (T := TX12) (N := 116) hx hb ht inX12 tyX12 tyX12_ok nmX12 hown hK hP hD hS 0 rfl rfl 1 (by decide) (ht (.fieldLink RX12 263 "CloneVolumesModel" "taped" "I") fl_X12_263) (fun _ h9 => h9) rfl (by decide +kernel) rfl rfl (Nat.le_of_ble_eq_true rfl) dX12_store_10 (fun H locs hP hD hS => ?_)
  have hP : va_P D vwCl [((a 200), .inr (12, mO a 0 0 0 0 0 0 0 (-1) 0 0 1 0)), ((a 39), .inl (D.1 13, 10, .inl (fun _ => 0))), ((a 42), .inl (D.1 13, 6, .inl fc)), ((a 9), .inl (D.1 13, 6, .inl (fun _ => 0)))] H := hP
  have hD : va_D A [((a 200), .inr (12, mO a 0 0 0 0 0 0 0 (-1) 0 0 1 0)), ((a 39), .inl (D.1 13, 10, .inl (fun _ => 0))), ((a 42), .inl (D.1 13, 6, .inl fc)), ((a 9), .inl (D.1 13, 6, .inl (fun _ => 0)))] := hD
  refine lv_aload_n hx hb dX12_store_13 rfl (lv_at hl 0 rfl) ?_
  refine lv_iconst (v := 0) hx hb dX12_store_14 (by decide) ?_
  refine va_put (D := D) (ci := 12) (v := .int 0) (ty := .int) (C := RX12) (T := TX12) (N := 116) hx hb ht inX12 tyX12 tyX12_ok nmX12 hown hK hP hD hS 0 rfl rfl 2 (by decide) (ht (.fieldLink RX12 272 "CloneVolumesModel" "at" "I") fl_X12_272) (fun _ h9 => h9) rfl (by decide +kernel) rfl rfl (Nat.le_of_ble_eq_true rfl) dX12_store_15 (fun H locs hP hD hS => ?_)
  have hP : va_P D vwCl [((a 200), .inr (12, mO a 0 0 0 0 0 0 0 (-1) 0 0 1 0)), ((a 39), .inl (D.1 13, 10, .inl (fun _ => 0))), ((a 42), .inl (D.1 13, 6, .inl fc)), ((a 9), .inl (D.1 13, 6, .inl (fun _ => 0)))] H := hP
  have hD : va_D A [((a 200), .inr (12, mO a 0 0 0 0 0 0 0 (-1) 0 0 1 0)), ((a 39), .inl (D.1 13, 10, .inl (fun _ => 0))), ((a 42), .inl (D.1 13, 6, .inl fc)), ((a 9), .inl (D.1 13, 6, .inl (fun _ => 0)))] := hD
  refine lv_aload_n hx hb dX12_store_18 rfl (lv_at hl 0 rfl) ?_
  refine lv_iconst (v := (-1)) hx hb dX12_store_19 (by decide) ?_
  refine va_put (D := D) (ci := 12) (v := .int (-1)) (ty := .int) (C := RX12) (T := TX12) (N := 116) hx hb ht inX12 tyX12 tyX12_ok nmX12 hown hK hP hD hS 0 rfl rfl 4 (by decide) (ht (.fieldLink RX12 286 "CloneVolumesModel" "ended" "I") fl_X12_286) (fun _ h9 => h9) rfl (by decide +kernel) rfl rfl (Nat.le_of_ble_eq_true rfl) dX12_store_20 (fun H locs hP hD hS => ?_)
  have hP : va_P D vwCl [((a 200), .inr (12, mO a 0 0 0 (-1) 0 0 0 (-1) 0 0 1 0)), ((a 39), .inl (D.1 13, 10, .inl (fun _ => 0))), ((a 42), .inl (D.1 13, 6, .inl fc)), ((a 9), .inl (D.1 13, 6, .inl (fun _ => 0)))] H := hP
  have hD : va_D A [((a 200), .inr (12, mO a 0 0 0 (-1) 0 0 0 (-1) 0 0 1 0)), ((a 39), .inl (D.1 13, 10, .inl (fun _ => 0))), ((a 42), .inl (D.1 13, 6, .inl fc)), ((a 9), .inl (D.1 13, 6, .inl (fun _ => 0)))] := hD
  refine lv_aload_n hx hb dX12_store_23 rfl (lv_at hl 0 rfl) ?_
  refine lv_iconst (v := 0) hx hb dX12_store_24 (by decide) ?_
  refine va_put (D := D) (ci := 12) (v := .int 0) (ty := .int) (C := RX12) (T := TX12) (N := 116) hx hb ht inX12 tyX12 tyX12_ok nmX12 hown hK hP hD hS 0 rfl rfl 5 (by decide) (ht (.fieldLink RX12 266 "CloneVolumesModel" "bad" "I") fl_X12_266) (fun _ h9 => h9) rfl (by decide +kernel) rfl rfl (Nat.le_of_ble_eq_true rfl) dX12_store_25 (fun H locs hP hD hS => ?_)
  have hP : va_P D vwCl [((a 200), .inr (12, mO a 0 0 0 (-1) 0 0 0 (-1) 0 0 1 0)), ((a 39), .inl (D.1 13, 10, .inl (fun _ => 0))), ((a 42), .inl (D.1 13, 6, .inl fc)), ((a 9), .inl (D.1 13, 6, .inl (fun _ => 0)))] H := hP
  have hD : va_D A [((a 200), .inr (12, mO a 0 0 0 (-1) 0 0 0 (-1) 0 0 1 0)), ((a 39), .inl (D.1 13, 10, .inl (fun _ => 0))), ((a 42), .inl (D.1 13, 6, .inl fc)), ((a 9), .inl (D.1 13, 6, .inl (fun _ => 0)))] := hD
  refine lv_aload_n hx hb dX12_store_28 rfl (lv_at hl 0 rfl) ?_
  refine lv_iconst (v := (-1)) hx hb dX12_store_29 (by decide) ?_
  refine va_put (D := D) (ci := 12) (v := .int (-1)) (ty := .int) (C := RX12) (T := TX12) (N := 116) hx hb ht inX12 tyX12 tyX12_ok nmX12 hown hK hP hD hS 0 rfl rfl 6 (by decide) (ht (.fieldLink RX12 269 "CloneVolumesModel" "badPlace" "I") fl_X12_269) (fun _ h9 => h9) rfl (by decide +kernel) rfl rfl (Nat.le_of_ble_eq_true rfl) dX12_store_30 (fun H locs hP hD hS => ?_)
  have hP : va_P D vwCl [((a 200), .inr (12, mO a 0 0 0 (-1) 0 (-1) 0 (-1) 0 0 1 0)), ((a 39), .inl (D.1 13, 10, .inl (fun _ => 0))), ((a 42), .inl (D.1 13, 6, .inl fc)), ((a 9), .inl (D.1 13, 6, .inl (fun _ => 0)))] H := hP
  have hD : va_D A [((a 200), .inr (12, mO a 0 0 0 (-1) 0 (-1) 0 (-1) 0 0 1 0)), ((a 39), .inl (D.1 13, 10, .inl (fun _ => 0))), ((a 42), .inl (D.1 13, 6, .inl fc)), ((a 9), .inl (D.1 13, 6, .inl (fun _ => 0)))] := hD
  refine lv_aload_n hx hb dX12_store_33 rfl (lv_at hl 0 rfl) ?_
  refine lv_iconst (v := 0) hx hb dX12_store_34 (by decide) ?_
  refine va_put (D := D) (ci := 12) (v := .int 0) (ty := .int) (C := RX12) (T := TX12) (N := 116) hx hb ht inX12 tyX12 tyX12_ok nmX12 hown hK hP hD hS 0 rfl rfl 45 (by decide) (ht (.fieldLink RX12 371 "CloneVolumesModel" "coded" "I") fl_X12_371) (fun _ h9 => h9) rfl (by decide +kernel) rfl rfl (Nat.le_of_ble_eq_true rfl) dX12_store_35 (fun H locs hP hD hS => ?_)
  have hP : va_P D vwCl [((a 200), .inr (12, mO a 0 0 0 (-1) 0 (-1) 0 (-1) 0 0 1 0)), ((a 39), .inl (D.1 13, 10, .inl (fun _ => 0))), ((a 42), .inl (D.1 13, 6, .inl fc)), ((a 9), .inl (D.1 13, 6, .inl (fun _ => 0)))] H := hP
  have hD : va_D A [((a 200), .inr (12, mO a 0 0 0 (-1) 0 (-1) 0 (-1) 0 0 1 0)), ((a 39), .inl (D.1 13, 10, .inl (fun _ => 0))), ((a 42), .inl (D.1 13, 6, .inl fc)), ((a 9), .inl (D.1 13, 6, .inl (fun _ => 0)))] := hD
  refine lv_iconst (v := 0) hx hb dX12_store_38 (by decide) ?_
  refine lv_istore_n (lv' := [(1, .int 0), (0, .ref (a 200))]) hx hb dX12_store_39 rfl hl (by decide) rfl (fun ls hl => ?_)
  refine lv_iload_n hx hb dX12_store_40 rfl (lv_at hl 0 rfl) ?_
  refine lv_iconst (v := 5) hx hb dX12_store_41 (by decide) ?_
  refine lv_icmp_ge (tgt := 58) hx hb dX12_store_42 (by decide) (fun c_1 => (z_abs c_1 (by decide)).elim) (fun _ => ?_)
  refine lv_aload_n hx hb dX12_store_45 rfl (lv_at hl 1 rfl) ?_
  refine va_get (D := D) (ci := 12) (v := .ref (a 39)) (C := RX12) (T := TX12) (N := 116) hx hb ht inX12 hown hK hP 0 rfl rfl 39 (by decide) (ht (.fieldLink RX12 102 "CloneVolumesModel" "many" "[I") fl_X12_102) (fun _ h9 => h9) rfl dX12_store_46 ?_
  refine lv_iload_n hx hb dX12_store_49 rfl (lv_at hl 0 rfl) ?_
  refine lv_iconst (v := 0) hx hb dX12_store_50 (by decide) ?_
  refine va_iast hx hb hK hP hD hS 1 0 rfl rfl (z_in (by decide) (by decide)) dX12_store_51 (fun H locs hP hD hS => ?_)
  rw [z_updc] at hP hD
  have hP : va_P D vwCl [((a 200), .inr (12, mO a 0 0 0 (-1) 0 (-1) 0 (-1) 0 0 1 0)), ((a 39), .inl (D.1 13, 10, .inl (fun _ => 0))), ((a 42), .inl (D.1 13, 6, .inl fc)), ((a 9), .inl (D.1 13, 6, .inl (fun _ => 0)))] H := hP
  have hD : va_D A [((a 200), .inr (12, mO a 0 0 0 (-1) 0 (-1) 0 (-1) 0 0 1 0)), ((a 39), .inl (D.1 13, 10, .inl (fun _ => 0))), ((a 42), .inl (D.1 13, 6, .inl fc)), ((a 9), .inl (D.1 13, 6, .inl (fun _ => 0)))] := hD
  refine lv_iinc (v := 1) (lv' := [(1, .int 1), (0, .ref (a 200))]) hx hb dX12_store_52 hl (k := 0) rfl (by decide) (by decide) rfl (fun ls hl => ?_)
  refine lv_goto (tgt := 40) hx hb dX12_store_55 (by decide) ?_
  refine lv_iload_n hx hb dX12_store_40 rfl (lv_at hl 0 rfl) ?_
  refine lv_iconst (v := 5) hx hb dX12_store_41 (by decide) ?_
  refine lv_icmp_ge (tgt := 58) hx hb dX12_store_42 (by decide) (fun c_3 => (z_abs c_3 (by decide)).elim) (fun _ => ?_)
  refine lv_aload_n hx hb dX12_store_45 rfl (lv_at hl 1 rfl) ?_
  refine va_get (D := D) (ci := 12) (v := .ref (a 39)) (C := RX12) (T := TX12) (N := 116) hx hb ht inX12 hown hK hP 0 rfl rfl 39 (by decide) (ht (.fieldLink RX12 102 "CloneVolumesModel" "many" "[I") fl_X12_102) (fun _ h9 => h9) rfl dX12_store_46 ?_
  refine lv_iload_n hx hb dX12_store_49 rfl (lv_at hl 0 rfl) ?_
  refine lv_iconst (v := 0) hx hb dX12_store_50 (by decide) ?_
  refine va_iast hx hb hK hP hD hS 1 0 rfl rfl (z_in (by decide) (by decide)) dX12_store_51 (fun H locs hP hD hS => ?_)
  rw [z_updc] at hP hD
  have hP : va_P D vwCl [((a 200), .inr (12, mO a 0 0 0 (-1) 0 (-1) 0 (-1) 0 0 1 0)), ((a 39), .inl (D.1 13, 10, .inl (fun _ => 0))), ((a 42), .inl (D.1 13, 6, .inl fc)), ((a 9), .inl (D.1 13, 6, .inl (fun _ => 0)))] H := hP
  have hD : va_D A [((a 200), .inr (12, mO a 0 0 0 (-1) 0 (-1) 0 (-1) 0 0 1 0)), ((a 39), .inl (D.1 13, 10, .inl (fun _ => 0))), ((a 42), .inl (D.1 13, 6, .inl fc)), ((a 9), .inl (D.1 13, 6, .inl (fun _ => 0)))] := hD
  refine lv_iinc (v := 2) (lv' := [(1, .int 2), (0, .ref (a 200))]) hx hb dX12_store_52 hl (k := 0) rfl (by decide) (by decide) rfl (fun ls hl => ?_)
  refine lv_goto (tgt := 40) hx hb dX12_store_55 (by decide) ?_
  refine lv_iload_n hx hb dX12_store_40 rfl (lv_at hl 0 rfl) ?_
  refine lv_iconst (v := 5) hx hb dX12_store_41 (by decide) ?_
  refine lv_icmp_ge (tgt := 58) hx hb dX12_store_42 (by decide) (fun c_5 => (z_abs c_5 (by decide)).elim) (fun _ => ?_)
  refine lv_aload_n hx hb dX12_store_45 rfl (lv_at hl 1 rfl) ?_
  refine va_get (D := D) (ci := 12) (v := .ref (a 39)) (C := RX12) (T := TX12) (N := 116) hx hb ht inX12 hown hK hP 0 rfl rfl 39 (by decide) (ht (.fieldLink RX12 102 "CloneVolumesModel" "many" "[I") fl_X12_102) (fun _ h9 => h9) rfl dX12_store_46 ?_
  refine lv_iload_n hx hb dX12_store_49 rfl (lv_at hl 0 rfl) ?_
  refine lv_iconst (v := 0) hx hb dX12_store_50 (by decide) ?_
  refine va_iast hx hb hK hP hD hS 1 0 rfl rfl (z_in (by decide) (by decide)) dX12_store_51 (fun H locs hP hD hS => ?_)
  rw [z_updc] at hP hD
  have hP : va_P D vwCl [((a 200), .inr (12, mO a 0 0 0 (-1) 0 (-1) 0 (-1) 0 0 1 0)), ((a 39), .inl (D.1 13, 10, .inl (fun _ => 0))), ((a 42), .inl (D.1 13, 6, .inl fc)), ((a 9), .inl (D.1 13, 6, .inl (fun _ => 0)))] H := hP
  have hD : va_D A [((a 200), .inr (12, mO a 0 0 0 (-1) 0 (-1) 0 (-1) 0 0 1 0)), ((a 39), .inl (D.1 13, 10, .inl (fun _ => 0))), ((a 42), .inl (D.1 13, 6, .inl fc)), ((a 9), .inl (D.1 13, 6, .inl (fun _ => 0)))] := hD
  refine lv_iinc (v := 3) (lv' := [(1, .int 3), (0, .ref (a 200))]) hx hb dX12_store_52 hl (k := 0) rfl (by decide) (by decide) rfl (fun ls hl => ?_)
  refine lv_goto (tgt := 40) hx hb dX12_store_55 (by decide) ?_
  refine lv_iload_n hx hb dX12_store_40 rfl (lv_at hl 0 rfl) ?_
  refine lv_iconst (v := 5) hx hb dX12_store_41 (by decide) ?_
  refine lv_icmp_ge (tgt := 58) hx hb dX12_store_42 (by decide) (fun c_7 => (z_abs c_7 (by decide)).elim) (fun _ => ?_)
  refine lv_aload_n hx hb dX12_store_45 rfl (lv_at hl 1 rfl) ?_
  refine va_get (D := D) (ci := 12) (v := .ref (a 39)) (C := RX12) (T := TX12) (N := 116) hx hb ht inX12 hown hK hP 0 rfl rfl 39 (by decide) (ht (.fieldLink RX12 102 "CloneVolumesModel" "many" "[I") fl_X12_102) (fun _ h9 => h9) rfl dX12_store_46 ?_
  refine lv_iload_n hx hb dX12_store_49 rfl (lv_at hl 0 rfl) ?_
  refine lv_iconst (v := 0) hx hb dX12_store_50 (by decide) ?_
  refine va_iast hx hb hK hP hD hS 1 0 rfl rfl (z_in (by decide) (by decide)) dX12_store_51 (fun H locs hP hD hS => ?_)
  rw [z_updc] at hP hD
  have hP : va_P D vwCl [((a 200), .inr (12, mO a 0 0 0 (-1) 0 (-1) 0 (-1) 0 0 1 0)), ((a 39), .inl (D.1 13, 10, .inl (fun _ => 0))), ((a 42), .inl (D.1 13, 6, .inl fc)), ((a 9), .inl (D.1 13, 6, .inl (fun _ => 0)))] H := hP
  have hD : va_D A [((a 200), .inr (12, mO a 0 0 0 (-1) 0 (-1) 0 (-1) 0 0 1 0)), ((a 39), .inl (D.1 13, 10, .inl (fun _ => 0))), ((a 42), .inl (D.1 13, 6, .inl fc)), ((a 9), .inl (D.1 13, 6, .inl (fun _ => 0)))] := hD
  refine lv_iinc (v := 4) (lv' := [(1, .int 4), (0, .ref (a 200))]) hx hb dX12_store_52 hl (k := 0) rfl (by decide) (by decide) rfl (fun ls hl => ?_)
  refine lv_goto (tgt := 40) hx hb dX12_store_55 (by decide) ?_
  refine lv_iload_n hx hb dX12_store_40 rfl (lv_at hl 0 rfl) ?_
  refine lv_iconst (v := 5) hx hb dX12_store_41 (by decide) ?_
  refine lv_icmp_ge (tgt := 58) hx hb dX12_store_42 (by decide) (fun c_9 => (z_abs c_9 (by decide)).elim) (fun _ => ?_)
  refine lv_aload_n hx hb dX12_store_45 rfl (lv_at hl 1 rfl) ?_
  refine va_get (D := D) (ci := 12) (v := .ref (a 39)) (C := RX12) (T := TX12) (N := 116) hx hb ht inX12 hown hK hP 0 rfl rfl 39 (by decide) (ht (.fieldLink RX12 102 "CloneVolumesModel" "many" "[I") fl_X12_102) (fun _ h9 => h9) rfl dX12_store_46 ?_
  refine lv_iload_n hx hb dX12_store_49 rfl (lv_at hl 0 rfl) ?_
  refine lv_iconst (v := 0) hx hb dX12_store_50 (by decide) ?_
  refine va_iast hx hb hK hP hD hS 1 0 rfl rfl (z_in (by decide) (by decide)) dX12_store_51 (fun H locs hP hD hS => ?_)
  rw [z_updc] at hP hD
  have hP : va_P D vwCl [((a 200), .inr (12, mO a 0 0 0 (-1) 0 (-1) 0 (-1) 0 0 1 0)), ((a 39), .inl (D.1 13, 10, .inl (fun _ => 0))), ((a 42), .inl (D.1 13, 6, .inl fc)), ((a 9), .inl (D.1 13, 6, .inl (fun _ => 0)))] H := hP
  have hD : va_D A [((a 200), .inr (12, mO a 0 0 0 (-1) 0 (-1) 0 (-1) 0 0 1 0)), ((a 39), .inl (D.1 13, 10, .inl (fun _ => 0))), ((a 42), .inl (D.1 13, 6, .inl fc)), ((a 9), .inl (D.1 13, 6, .inl (fun _ => 0)))] := hD
  refine lv_iinc (v := 5) (lv' := [(1, .int 5), (0, .ref (a 200))]) hx hb dX12_store_52 hl (k := 0) rfl (by decide) (by decide) rfl (fun ls hl => ?_)
  refine lv_goto (tgt := 40) hx hb dX12_store_55 (by decide) ?_
  refine lv_iload_n hx hb dX12_store_40 rfl (lv_at hl 0 rfl) ?_
  refine lv_iconst (v := 5) hx hb dX12_store_41 (by decide) ?_
  refine lv_icmp_ge (tgt := 58) hx hb dX12_store_42 (by decide) (fun _ => ?_) (fun c_11 => (z_abs c_11 (by decide)).elim)
  refine lv_iconst (v := 0) hx hb dX12_store_58 (by decide) ?_
  refine lv_istore_n (lv' := [(1, .int 0), (0, .ref (a 200))]) hx hb dX12_store_59 rfl hl (by decide) rfl (fun ls hl => ?_)
  refine lv_iload_n hx hb dX12_store_60 rfl (lv_at hl 0 rfl) ?_
  refine lv_iconst (v := 3) hx hb dX12_store_61 (by decide) ?_
  refine lv_icmp_ge (tgt := 78) hx hb dX12_store_62 (by decide) (fun c_13 => (z_abs c_13 (by decide)).elim) (fun _ => ?_)
  refine lv_aload_n hx hb dX12_store_65 rfl (lv_at hl 1 rfl) ?_
  refine va_get (D := D) (ci := 12) (v := .ref (a 42)) (C := RX12) (T := TX12) (N := 116) hx hb ht inX12 hown hK hP 0 rfl rfl 42 (by decide) (ht (.fieldLink RX12 112 "CloneVolumesModel" "codeFrom" "[I") fl_X12_112) (fun _ h9 => h9) rfl dX12_store_66 ?_
  refine lv_iload_n hx hb dX12_store_69 rfl (lv_at hl 0 rfl) ?_
  refine lv_iconst (v := (-1)) hx hb dX12_store_70 (by decide) ?_
  refine va_iast hx hb hK hP hD hS 2 0 rfl rfl (z_in (by decide) (by decide)) dX12_store_71 (fun H locs hP hD hS => ?_)
  generalize hf_15 : upd _ _ _ = f_15 at hP hD
  have hP : va_P D vwCl [((a 200), .inr (12, mO a 0 0 0 (-1) 0 (-1) 0 (-1) 0 0 1 0)), ((a 39), .inl (D.1 13, 10, .inl (fun _ => 0))), ((a 42), .inl (D.1 13, 6, .inl f_15)), ((a 9), .inl (D.1 13, 6, .inl (fun _ => 0)))] H := hP
  have hD : va_D A [((a 200), .inr (12, mO a 0 0 0 (-1) 0 (-1) 0 (-1) 0 0 1 0)), ((a 39), .inl (D.1 13, 10, .inl (fun _ => 0))), ((a 42), .inl (D.1 13, 6, .inl f_15)), ((a 9), .inl (D.1 13, 6, .inl (fun _ => 0)))] := hD
  refine lv_iinc (v := 1) (lv' := [(1, .int 1), (0, .ref (a 200))]) hx hb dX12_store_72 hl (k := 0) rfl (by decide) (by decide) rfl (fun ls hl => ?_)
  refine lv_goto (tgt := 60) hx hb dX12_store_75 (by decide) ?_
  refine lv_iload_n hx hb dX12_store_60 rfl (lv_at hl 0 rfl) ?_
  refine lv_iconst (v := 3) hx hb dX12_store_61 (by decide) ?_
  refine lv_icmp_ge (tgt := 78) hx hb dX12_store_62 (by decide) (fun c_16 => (z_abs c_16 (by decide)).elim) (fun _ => ?_)
  refine lv_aload_n hx hb dX12_store_65 rfl (lv_at hl 1 rfl) ?_
  refine va_get (D := D) (ci := 12) (v := .ref (a 42)) (C := RX12) (T := TX12) (N := 116) hx hb ht inX12 hown hK hP 0 rfl rfl 42 (by decide) (ht (.fieldLink RX12 112 "CloneVolumesModel" "codeFrom" "[I") fl_X12_112) (fun _ h9 => h9) rfl dX12_store_66 ?_
  refine lv_iload_n hx hb dX12_store_69 rfl (lv_at hl 0 rfl) ?_
  refine lv_iconst (v := (-1)) hx hb dX12_store_70 (by decide) ?_
  refine va_iast hx hb hK hP hD hS 2 0 rfl rfl (z_in (by decide) (by decide)) dX12_store_71 (fun H locs hP hD hS => ?_)
  generalize hf_18 : upd _ _ _ = f_18 at hP hD
  have hP : va_P D vwCl [((a 200), .inr (12, mO a 0 0 0 (-1) 0 (-1) 0 (-1) 0 0 1 0)), ((a 39), .inl (D.1 13, 10, .inl (fun _ => 0))), ((a 42), .inl (D.1 13, 6, .inl f_18)), ((a 9), .inl (D.1 13, 6, .inl (fun _ => 0)))] H := hP
  have hD : va_D A [((a 200), .inr (12, mO a 0 0 0 (-1) 0 (-1) 0 (-1) 0 0 1 0)), ((a 39), .inl (D.1 13, 10, .inl (fun _ => 0))), ((a 42), .inl (D.1 13, 6, .inl f_18)), ((a 9), .inl (D.1 13, 6, .inl (fun _ => 0)))] := hD
  refine lv_iinc (v := 2) (lv' := [(1, .int 2), (0, .ref (a 200))]) hx hb dX12_store_72 hl (k := 0) rfl (by decide) (by decide) rfl (fun ls hl => ?_)
  refine lv_goto (tgt := 60) hx hb dX12_store_75 (by decide) ?_
  refine lv_iload_n hx hb dX12_store_60 rfl (lv_at hl 0 rfl) ?_
  refine lv_iconst (v := 3) hx hb dX12_store_61 (by decide) ?_
  refine lv_icmp_ge (tgt := 78) hx hb dX12_store_62 (by decide) (fun c_19 => (z_abs c_19 (by decide)).elim) (fun _ => ?_)
  refine lv_aload_n hx hb dX12_store_65 rfl (lv_at hl 1 rfl) ?_
  refine va_get (D := D) (ci := 12) (v := .ref (a 42)) (C := RX12) (T := TX12) (N := 116) hx hb ht inX12 hown hK hP 0 rfl rfl 42 (by decide) (ht (.fieldLink RX12 112 "CloneVolumesModel" "codeFrom" "[I") fl_X12_112) (fun _ h9 => h9) rfl dX12_store_66 ?_
  refine lv_iload_n hx hb dX12_store_69 rfl (lv_at hl 0 rfl) ?_
  refine lv_iconst (v := (-1)) hx hb dX12_store_70 (by decide) ?_
  refine va_iast hx hb hK hP hD hS 2 0 rfl rfl (z_in (by decide) (by decide)) dX12_store_71 (fun H locs hP hD hS => ?_)
  generalize hf_21 : upd _ _ _ = f_21 at hP hD
  have hP : va_P D vwCl [((a 200), .inr (12, mO a 0 0 0 (-1) 0 (-1) 0 (-1) 0 0 1 0)), ((a 39), .inl (D.1 13, 10, .inl (fun _ => 0))), ((a 42), .inl (D.1 13, 6, .inl f_21)), ((a 9), .inl (D.1 13, 6, .inl (fun _ => 0)))] H := hP
  have hD : va_D A [((a 200), .inr (12, mO a 0 0 0 (-1) 0 (-1) 0 (-1) 0 0 1 0)), ((a 39), .inl (D.1 13, 10, .inl (fun _ => 0))), ((a 42), .inl (D.1 13, 6, .inl f_21)), ((a 9), .inl (D.1 13, 6, .inl (fun _ => 0)))] := hD
  refine lv_iinc (v := 3) (lv' := [(1, .int 3), (0, .ref (a 200))]) hx hb dX12_store_72 hl (k := 0) rfl (by decide) (by decide) rfl (fun ls hl => ?_)
  refine lv_goto (tgt := 60) hx hb dX12_store_75 (by decide) ?_
  refine lv_iload_n hx hb dX12_store_60 rfl (lv_at hl 0 rfl) ?_
  refine lv_iconst (v := 3) hx hb dX12_store_61 (by decide) ?_
  refine lv_icmp_ge (tgt := 78) hx hb dX12_store_62 (by decide) (fun _ => ?_) (fun c_22 => (z_abs c_22 (by decide)).elim)
  refine lv_aload_n hx hb dX12_store_78 rfl (lv_at hl 1 rfl) ?_
  refine zwVv (As := []) (rest := []) (C := RX12) (n := 0) (wr := [((a 42), .inl (D.1 13, 6, .inl f_21)), ((a 9), .inl (D.1 13, 6, .inl (fun _ => 0)))]) ⟨hx, hb, hml, hown, ht⟩ (k_X12_storeTold1 l D _ a) (zgV ml_X12_390 im_X12_storeTold se_X12_storeTold in_X12 co_X12_storeTold) rfl rfl (by decide +kernel) ⟨Nat.le_of_ble_eq_true rfl, Nat.le_of_ble_eq_true rfl⟩ hK hP hD hS hA [0, 1] [2, 3] rfl rfl rfl rfl (by decide) 0 rfl rfl rfl rfl hl.1 rfl (Nat.le_of_ble_eq_true rfl) dX12_store_79 ⟨Nat.le_of_ble_eq_true rfl, Nat.le_of_ble_eq_true rfl⟩ (fun u_24 H locs hw hP hD hS => ?_)
  have hP : va_P D vwCl [((a 42), .inl (D.1 13, 6, .inl f_21)), ((a 9), .inl (D.1 13, 6, .inl (fun _ => 0))), ((a 39), .inl (D.1 13, 10, .inl (fun _ => 0))), ((a 200), .inr (12, mO a 0 0 0 (-1) 1 0 0 (-1) 0 0 1 0))] H := hP
  have hD : va_D A [((a 42), .inl (D.1 13, 6, .inl f_21)), ((a 9), .inl (D.1 13, 6, .inl (fun _ => 0))), ((a 39), .inl (D.1 13, 10, .inl (fun _ => 0))), ((a 200), .inr (12, mO a 0 0 0 (-1) 1 0 0 (-1) 0 0 1 0))] := hD
  refine lv_aload_n hx hb dX12_store_82 rfl (lv_at hl 1 rfl) ?_
  refine lv_iconst (v := 1) hx hb dX12_store_83 (by decide) ?_
  refine va_put (D := D) (ci := 12) (v := .int 1) (ty := .int) (C := RX12) (T := TX12) (N := 116) hx hb ht inX12 tyX12 tyX12_ok nmX12 hown hK hP hD hS 3 rfl rfl 46 (by decide) (ht (.fieldLink RX12 374 "CloneVolumesModel" "statements" "I") fl_X12_374) (fun _ h9 => h9) rfl (by decide +kernel) rfl rfl (Nat.le_of_ble_eq_true rfl) dX12_store_84 (fun H locs hP hD hS => ?_)
  have hP : va_P D vwCl [((a 42), .inl (D.1 13, 6, .inl f_21)), ((a 9), .inl (D.1 13, 6, .inl (fun _ => 0))), ((a 39), .inl (D.1 13, 10, .inl (fun _ => 0))), ((a 200), .inr (12, mO a 0 0 0 (-1) 1 0 0 (-1) 0 1 1 0))] H := hP
  have hD : va_D A [((a 42), .inl (D.1 13, 6, .inl f_21)), ((a 9), .inl (D.1 13, 6, .inl (fun _ => 0))), ((a 39), .inl (D.1 13, 10, .inl (fun _ => 0))), ((a 200), .inr (12, mO a 0 0 0 (-1) 1 0 0 (-1) 0 1 1 0))] := hD
  refine lv_aload_n hx hb dX12_store_87 rfl (lv_at hl 1 rfl) ?_
  refine va_get (D := D) (ci := 12) (v := .int 1) (C := RX12) (T := TX12) (N := 116) hx hb ht inX12 hown hK hP 3 rfl rfl 5 (by decide) (ht (.fieldLink RX12 266 "CloneVolumesModel" "bad" "I") fl_X12_266) (fun _ h9 => h9) rfl dX12_store_88 ?_
  refine lv_if_ne (tgt := 109) hx hb dX12_store_91 (by decide) (fun _ => ?_) (fun c_26 => (z_abs c_26 (by decide)).elim)
  refine lv_aload_n hx hb dX12_store_109 rfl (lv_at hl 1 rfl) ?_
  refine lv_aload_n hx hb dX12_store_110 rfl (lv_at hl 1 rfl) ?_
  refine va_get (D := D) (ci := 12) (v := .int 1) (C := RX12) (T := TX12) (N := 116) hx hb ht inX12 hown hK hP 3 rfl rfl 5 (by decide) (ht (.fieldLink RX12 266 "CloneVolumesModel" "bad" "I") fl_X12_266) (fun _ h9 => h9) rfl dX12_store_111 ?_
  refine va_put (D := D) (ci := 12) (v := .int 1) (ty := .int) (C := RX12) (T := TX12) (N := 116) hx hb ht inX12 tyX12 tyX12_ok nmX12 hown hK hP hD hS 3 rfl rfl 7 (by decide) (ht (.fieldLink RX12 396 "CloneVolumesModel" "fault" "I") fl_X12_396) (fun _ h9 => h9) rfl (by decide +kernel) rfl rfl (Nat.le_of_ble_eq_true rfl) dX12_store_114 (fun H locs hP hD hS => ?_)
  have hP : va_P D vwCl [((a 42), .inl (D.1 13, 6, .inl f_21)), ((a 9), .inl (D.1 13, 6, .inl (fun _ => 0))), ((a 39), .inl (D.1 13, 10, .inl (fun _ => 0))), ((a 200), .inr (12, mO a 0 0 0 (-1) 1 0 1 (-1) 0 1 1 0))] H := hP
  have hD : va_D A [((a 42), .inl (D.1 13, 6, .inl f_21)), ((a 9), .inl (D.1 13, 6, .inl (fun _ => 0))), ((a 39), .inl (D.1 13, 10, .inl (fun _ => 0))), ((a 200), .inr (12, mO a 0 0 0 (-1) 1 0 1 (-1) 0 1 1 0))] := hD
  refine lv_aload_n hx hb dX12_store_117 rfl (lv_at hl 1 rfl) ?_
  refine lv_aload_n hx hb dX12_store_118 rfl (lv_at hl 1 rfl) ?_
  refine va_get (D := D) (ci := 12) (v := .int 0) (C := RX12) (T := TX12) (N := 116) hx hb ht inX12 hown hK hP 3 rfl rfl 6 (by decide) (ht (.fieldLink RX12 269 "CloneVolumesModel" "badPlace" "I") fl_X12_269) (fun _ h9 => h9) rfl dX12_store_119 ?_
  refine va_put (D := D) (ci := 12) (v := .int 0) (ty := .int) (C := RX12) (T := TX12) (N := 116) hx hb ht inX12 tyX12 tyX12_ok nmX12 hown hK hP hD hS 3 rfl rfl 8 (by decide) (ht (.fieldLink RX12 13 "CloneVolumesModel" "faultPlace" "I") fl_X12_13) (fun _ h9 => h9) rfl (by decide +kernel) rfl rfl (Nat.le_of_ble_eq_true rfl) dX12_store_122 (fun H locs hP hD hS => ?_)
  have hP : va_P D vwCl [((a 42), .inl (D.1 13, 6, .inl f_21)), ((a 9), .inl (D.1 13, 6, .inl (fun _ => 0))), ((a 39), .inl (D.1 13, 10, .inl (fun _ => 0))), ((a 200), .inr (12, mO a 0 0 0 (-1) 1 0 1 0 0 1 1 0))] H := hP
  have hD : va_D A [((a 42), .inl (D.1 13, 6, .inl f_21)), ((a 9), .inl (D.1 13, 6, .inl (fun _ => 0))), ((a 39), .inl (D.1 13, 10, .inl (fun _ => 0))), ((a 200), .inr (12, mO a 0 0 0 (-1) 1 0 1 0 0 1 1 0))] := hD
  refine lv_aload_n hx hb dX12_store_125 rfl (lv_at hl 1 rfl) ?_
  refine va_get (D := D) (ci := 12) (v := .int 1) (C := RX12) (T := TX12) (N := 116) hx hb ht inX12 hown hK hP 3 rfl rfl 5 (by decide) (ht (.fieldLink RX12 266 "CloneVolumesModel" "bad" "I") fl_X12_266) (fun _ h9 => h9) rfl dX12_store_126 ?_
  refine lv_if_eq (tgt := 138) hx hb dX12_store_129 (by decide) (fun c_28 => (z_abs c_28 (by decide)).elim) (fun _ => ?_)
  refine lv_aload_n hx hb dX12_store_132 rfl (lv_at hl 1 rfl) ?_
  refine lv_iconst (v := 1) hx hb dX12_store_133 (by decide) ?_
  refine zwV (As := [.int 1]) (rest := []) (C := RX12) (n := 1) (wr := [((a 42), .inl (D.1 13, 6, .inl f_21)), ((a 39), .inl (D.1 13, 10, .inl (fun _ => 0)))]) ⟨hx, hb, hml, hown, ht⟩ (k_X12_refuses3 l D _ a) (zgV ml_X12_399 im_X12_refuses se_X12_refuses in_X12 co_X12_refuses) rfl rfl (by decide +kernel) ⟨Nat.le_of_ble_eq_true rfl, Nat.le_of_ble_eq_true rfl⟩ hK hP hD hS hA [3, 1] [0, 2] rfl rfl rfl rfl (by decide) 0 rfl rfl rfl rfl hl.1 rfl (Nat.le_of_ble_eq_true rfl) dX12_store_134 ⟨Nat.le_of_ble_eq_true rfl, Nat.le_of_ble_eq_true rfl⟩ (fun r_31 u_30 H locs hw hP hD hS => ?_)
  have hP : va_P D vwCl [((a 42), .inl (D.1 13, 6, .inl f_21)), ((a 39), .inl (D.1 13, 10, .inl (fun _ => 0)))] H := hP
  have hD : va_D A [((a 42), .inl (D.1 13, 6, .inl f_21)), ((a 39), .inl (D.1 13, 10, .inl (fun _ => 0)))] := hD
  subst hw
  have hP9 := hP.sub (ws' := []) [] rfl
  have hD9 := hD.sub (ws' := []) [] (by decide) rfl
  refine W.widen (k := 0) (n := 0) (Nat.le_of_ble_eq_true rfl) (Nat.le_of_ble_eq_true rfl) ?_
  exact W.iret (v := (-1)) hx hb hr (fun t ht hW => ⟨⟨(-1), (), rfl, rfl, by rw [ht]; exact hP9, va_K.moved hW.alike hK, hD9⟩, hS.F ht⟩) hS.2.2 dX12_store_137
