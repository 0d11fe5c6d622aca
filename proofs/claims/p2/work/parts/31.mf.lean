theorem co_X12_blockMany : Cond.code yX12_blockMany cX12_blockMany 1 (some .int) ∈ lw_gd := zm (List.mem_of_getElem? (i := 2133) (by decide +kernel)) rfl
theorem co_X12_codesTell : Cond.code yX12_codesTell cX12_codesTell 4 (some .long) ∈ lw_gd := zm (List.mem_of_getElem? (i := 2157) (by decide +kernel)) rfl
theorem co_X12_cutsEntry : Cond.code yX12_cutsEntry cX12_cutsEntry 4 none ∈ lw_gd := zm (List.mem_of_getElem? (i := 2225) (by decide +kernel)) rfl
theorem co_X12_falls : Cond.code yX12_falls cX12_falls 5 none ∈ lw_gd := zm (List.mem_of_getElem? (i := 2197) (by decide +kernel)) rfl
theorem co_X12_isCoded : Cond.code yX12_isCoded cX12_isCoded 2 (some .boolean) ∈ lw_gd := zm (List.mem_of_getElem? (i := 2153) (by decide +kernel)) rfl
theorem co_X12_isFresh : Cond.code yX12_isFresh cX12_isFresh 2 (some .boolean) ∈ lw_gd := zm (List.mem_of_getElem? (i := 2169) (by decide +kernel)) rfl
theorem co_X12_isThere : Cond.code yX12_isThere cX12_isThere 2 (some .boolean) ∈ lw_gd := zm (List.mem_of_getElem? (i := 2137) (by decide +kernel)) rfl
theorem co_X12_lowers : Cond.code yX12_lowers cX12_lowers 4 none ∈ lw_gd := zm (List.mem_of_getElem? (i := 2229) (by decide +kernel)) rfl
theorem co_X12_owned : Cond.code yX12_owned cX12_owned 4 (some .int) ∈ lw_gd := zm (List.mem_of_getElem? (i := 2193) (by decide +kernel)) rfl
theorem co_X12_placeFor : Cond.code yX12_placeFor cX12_placeFor 4 (some .int) ∈ lw_gd := zm (List.mem_of_getElem? (i := 2105) (by decide +kernel)) rfl
theorem co_X12_placeIn : Cond.code yX12_placeIn cX12_placeIn 4 (some .int) ∈ lw_gd := zm (List.mem_of_getElem? (i := 2121) (by decide +kernel)) rfl
theorem co_X12_qJoins : Cond.code yX12_qJoins cX12_qJoins 6 none ∈ lw_gd := zm (List.mem_of_getElem? (i := 2173) (by decide +kernel)) rfl
theorem co_X12_qPartOf : Cond.code yX12_qPartOf cX12_qPartOf 3 (some .long) ∈ lw_gd := zm (List.mem_of_getElem? (i := 2165) (by decide +kernel)) rfl
theorem co_X12_taken : Cond.code yX12_taken cX12_taken 9 (some .int) ∈ lw_gd := zm (List.mem_of_getElem? (i := 2129) (by decide +kernel)) rfl
theorem fl_X12_131 : Cond.fieldLink RX12 131 "CloneVolumesModel" "wayBlocks" "[I" ∈ lw_gd := zm (List.mem_of_getElem? (i := 1595) (by decide +kernel)) rfl
theorem fl_X12_134 : Cond.fieldLink RX12 134 "CloneVolumesModel" "wayPlaces" "[I" ∈ lw_gd := zm (List.mem_of_getElem? (i := 1596) (by decide +kernel)) rfl
theorem fl_X12_457 : Cond.fieldLink RX12 457 "CloneVolumesModel" "askBlock" "I" ∈ lw_gd := zm (List.mem_of_getElem? (i := 1588) (by decide +kernel)) rfl
theorem fl_X12_463 : Cond.fieldLink RX12 463 "CloneVolumesModel" "askLevel" "I" ∈ lw_gd := zm (List.mem_of_getElem? (i := 1590) (by decide +kernel)) rfl
theorem fl_X12_469 : Cond.fieldLink RX12 469 "CloneVolumesModel" "askEntries" "I" ∈ lw_gd := zm (List.mem_of_getElem? (i := 1591) (by decide +kernel)) rfl
theorem fl_X12_493 : Cond.fieldLink RX12 493 "CloneVolumesModel" "isFull" "Z" ∈ lw_gd := zm (List.mem_of_getElem? (i := 1593) (by decide +kernel)) rfl
theorem fl_X12_499 : Cond.fieldLink RX12 499 "CloneVolumesModel" "askFrom" "I" ∈ lw_gd := zm (List.mem_of_getElem? (i := 1589) (by decide +kernel)) rfl
theorem im_X12_blockMany : Cond.instanceMethod yX12_blockMany ∈ lw_gd := zm (List.mem_of_getElem? (i := 2132) (by decide +kernel)) rfl
theorem im_X12_codesTell : Cond.instanceMethod yX12_codesTell ∈ lw_gd := zm (List.mem_of_getElem? (i := 2156) (by decide +kernel)) rfl
theorem im_X12_cutsEntry : Cond.instanceMethod yX12_cutsEntry ∈ lw_gd := zm (List.mem_of_getElem? (i := 2224) (by decide +kernel)) rfl
theorem im_X12_falls : Cond.instanceMethod yX12_falls ∈ lw_gd := zm (List.mem_of_getElem? (i := 2196) (by decide +kernel)) rfl
theorem im_X12_isCoded : Cond.instanceMethod yX12_isCoded ∈ lw_gd := zm (List.mem_of_getElem? (i := 2152) (by decide +kernel)) rfl
theorem im_X12_isFresh : Cond.instanceMethod yX12_isFresh ∈ lw_gd := zm (List.mem_of_getElem? (i := 2168) (by decide +kernel)) rfl
theorem im_X12_isThere : Cond.instanceMethod yX12_isThere ∈ lw_gd := zm (List.mem_of_getElem? (i := 2136) (by decide +kernel)) rfl
theorem im_X12_lowers : Cond.instanceMethod yX12_lowers ∈ lw_gd := zm (List.mem_of_getElem? (i := 2228) (by decide +kernel)) rfl
theorem im_X12_owned : Cond.instanceMethod yX12_owned ∈ lw_gd := zm (List.mem_of_getElem? (i := 2192) (by decide +kernel)) rfl
theorem im_X12_placeFor : Cond.instanceMethod yX12_placeFor ∈ lw_gd := zm (List.mem_of_getElem? (i := 2104) (by decide +kernel)) rfl
theorem im_X12_placeIn : Cond.instanceMethod yX12_placeIn ∈ lw_gd := zm (List.mem_of_getElem? (i := 2120) (by decide +kernel)) rfl
theorem im_X12_qJoins : Cond.instanceMethod yX12_qJoins ∈ lw_gd := zm (List.mem_of_getElem? (i := 2172) (by decide +kernel)) rfl
theorem im_X12_qPartOf : Cond.instanceMethod yX12_qPartOf ∈ lw_gd := zm (List.mem_of_getElem? (i := 2164) (by decide +kernel)) rfl
theorem im_X12_taken : Cond.instanceMethod yX12_taken ∈ lw_gd := zm (List.mem_of_getElem? (i := 2128) (by decide +kernel)) rfl
theorem ml_X12_429 : Cond.methodLink RX12 429 yX12_blockMany ∈ lw_gd := zm (List.mem_of_getElem? (i := 2130) (by decide +kernel)) rfl
theorem ml_X12_450 : Cond.methodLink RX12 450 yX12_qPartOf ∈ lw_gd := zm (List.mem_of_getElem? (i := 2162) (by decide +kernel)) rfl
theorem ml_X12_454 : Cond.methodLink RX12 454 yX12_qJoins ∈ lw_gd := zm (List.mem_of_getElem? (i := 2170) (by decide +kernel)) rfl
theorem ml_X12_472 : Cond.methodLink RX12 472 yX12_isCoded ∈ lw_gd := zm (List.mem_of_getElem? (i := 2150) (by decide +kernel)) rfl
theorem ml_X12_475 : Cond.methodLink RX12 475 yX12_codesTell ∈ lw_gd := zm (List.mem_of_getElem? (i := 2154) (by decide +kernel)) rfl
theorem ml_X12_496 : Cond.methodLink RX12 496 yX12_isThere ∈ lw_gd := zm (List.mem_of_getElem? (i := 2134) (by decide +kernel)) rfl
theorem ml_X12_508 : Cond.methodLink RX12 508 yX12_isFresh ∈ lw_gd := zm (List.mem_of_getElem? (i := 2166) (by decide +kernel)) rfl
theorem ml_X12_511 : Cond.methodLink RX12 511 yX12_taken ∈ lw_gd := zm (List.mem_of_getElem? (i := 2126) (by decide +kernel)) rfl
theorem ml_X12_514 : Cond.methodLink RX12 514 yX12_falls ∈ lw_gd := zm (List.mem_of_getElem? (i := 2194) (by decide +kernel)) rfl
theorem ml_X12_533 : Cond.methodLink RX12 533 yX12_owned ∈ lw_gd := zm (List.mem_of_getElem? (i := 2190) (by decide +kernel)) rfl
theorem ml_X12_543 : Cond.methodLink RX12 543 yX12_placeFor ∈ lw_gd := zm (List.mem_of_getElem? (i := 2102) (by decide +kernel)) rfl
theorem ml_X12_550 : Cond.methodLink RX12 550 yX12_placeIn ∈ lw_gd := zm (List.mem_of_getElem? (i := 2118) (by decide +kernel)) rfl
theorem ml_X12_553 : Cond.methodLink RX12 553 yX12_cutsEntry ∈ lw_gd := zm (List.mem_of_getElem? (i := 2222) (by decide +kernel)) rfl
theorem ml_X12_556 : Cond.methodLink RX12 556 yX12_lowers ∈ lw_gd := zm (List.mem_of_getElem? (i := 2226) (by decide +kernel)) rfl
theorem se_X12_blockMany : Cond.selects RX12 yX12_blockMany yX12_blockMany ∈ lw_gd := zm (List.mem_of_getElem? (i := 123) (by decide +kernel)) rfl
theorem se_X12_codesTell : Cond.selects RX12 yX12_codesTell yX12_codesTell ∈ lw_gd := zm (List.mem_of_getElem? (i := 129) (by decide +kernel)) rfl
theorem se_X12_cutsEntry : Cond.selects RX12 yX12_cutsEntry yX12_cutsEntry ∈ lw_gd := zm (List.mem_of_getElem? (i := 144) (by decide +kernel)) rfl
theorem se_X12_falls : Cond.selects RX12 yX12_falls yX12_falls ∈ lw_gd := zm (List.mem_of_getElem? (i := 137) (by decide +kernel)) rfl
theorem se_X12_isCoded : Cond.selects RX12 yX12_isCoded yX12_isCoded ∈ lw_gd := zm (List.mem_of_getElem? (i := 128) (by decide +kernel)) rfl
theorem se_X12_isFresh : Cond.selects RX12 yX12_isFresh yX12_isFresh ∈ lw_gd := zm (List.mem_of_getElem? (i := 132) (by decide +kernel)) rfl
theorem se_X12_isThere : Cond.selects RX12 yX12_isThere yX12_isThere ∈ lw_gd := zm (List.mem_of_getElem? (i := 124) (by decide +kernel)) rfl
theorem se_X12_lowers : Cond.selects RX12 yX12_lowers yX12_lowers ∈ lw_gd := zm (List.mem_of_getElem? (i := 145) (by decide +kernel)) rfl
theorem se_X12_owned : Cond.selects RX12 yX12_owned yX12_owned ∈ lw_gd := zm (List.mem_of_getElem? (i := 136) (by decide +kernel)) rfl
theorem se_X12_placeFor : Cond.selects RX12 yX12_placeFor yX12_placeFor ∈ lw_gd := zm (List.mem_of_getElem? (i := 116) (by decide +kernel)) rfl
theorem se_X12_placeIn : Cond.selects RX12 yX12_placeIn yX12_placeIn ∈ lw_gd := zm (List.mem_of_getElem? (i := 120) (by decide +kernel)) rfl
theorem se_X12_qJoins : Cond.selects RX12 yX12_qJoins yX12_qJoins ∈ lw_gd := zm (List.mem_of_getElem? (i := 133) (by decide +kernel)) rfl
theorem se_X12_qPartOf : Cond.selects RX12 yX12_qPartOf yX12_qPartOf ∈ lw_gd := zm (List.mem_of_getElem? (i := 131) (by decide +kernel)) rfl
theorem se_X12_taken : Cond.selects RX12 yX12_taken yX12_taken ∈ lw_gd := zm (List.mem_of_getElem? (i := 122) (by decide +kernel)) rfl
theorem dX12_codesTell_0 : decode cX12_codesTell 0 = .ok (.aload_n 0, 1) := by decide +kernel
theorem dX12_codesTell_1 : decode cX12_codesTell 1 = .ok (.iload_n 1, 1) := by decide +kernel
theorem dX12_codesTell_2 : decode cX12_codesTell 2 = .ok (.putfield 324, 3) := by decide +kernel
theorem dX12_codesTell_5 : decode cX12_codesTell 5 = .ok (.aload_n 0, 1) := by decide +kernel
theorem dX12_codesTell_6 : decode cX12_codesTell 6 = .ok (.iconst 0, 1) := by decide +kernel
theorem dX12_codesTell_7 : decode cX12_codesTell 7 = .ok (.putfield 443, 3) := by decide +kernel
theorem dX12_codesTell_10 : decode cX12_codesTell 10 = .ok (.aload_n 0, 1) := by decide +kernel
theorem dX12_codesTell_11 : decode cX12_codesTell 11 = .ok (.getfield 112, 3) := by decide +kernel
theorem dX12_codesTell_14 : decode cX12_codesTell 14 = .ok (.iconst 3, 1) := by decide +kernel
theorem dX12_codesTell_15 : decode cX12_codesTell 15 = .ok (.iload_n 1, 1) := by decide +kernel
theorem dX12_codesTell_16 : decode cX12_codesTell 16 = .ok (.iadd, 1) := by decide +kernel
theorem dX12_codesTell_17 : decode cX12_codesTell 17 = .ok (.iaload, 1) := by decide +kernel
theorem dX12_codesTell_18 : decode cX12_codesTell 18 = .ok (.istore_n 2, 1) := by decide +kernel
theorem dX12_codesTell_19 : decode cX12_codesTell 19 = .ok (.iload_n 2, 1) := by decide +kernel
theorem dX12_codesTell_20 : decode cX12_codesTell 20 = .ok (.aload_n 0, 1) := by decide +kernel
theorem dX12_codesTell_21 : decode cX12_codesTell 21 = .ok (.getfield 115, 3) := by decide +kernel
theorem dX12_codesTell_24 : decode cX12_codesTell 24 = .ok (.iconst 3, 1) := by decide +kernel
theorem dX12_codesTell_25 : decode cX12_codesTell 25 = .ok (.iload_n 1, 1) := by decide +kernel
theorem dX12_codesTell_26 : decode cX12_codesTell 26 = .ok (.iadd, 1) := by decide +kernel
theorem dX12_codesTell_27 : decode cX12_codesTell 27 = .ok (.iaload, 1) := by decide +kernel
theorem dX12_codesTell_28 : decode cX12_codesTell 28 = .ok (.if_icmp .ge 114, 3) := by decide +kernel
theorem dX12_codesTell_31 : decode cX12_codesTell 31 = .ok (.aload_n 0, 1) := by decide +kernel
theorem dX12_codesTell_32 : decode cX12_codesTell 32 = .ok (.getfield 118, 3) := by decide +kernel
theorem dX12_codesTell_35 : decode cX12_codesTell 35 = .ok (.sipush 1600, 3) := by decide +kernel
theorem dX12_codesTell_38 : decode cX12_codesTell 38 = .ok (.iload_n 2, 1) := by decide +kernel
theorem dX12_codesTell_39 : decode cX12_codesTell 39 = .ok (.iadd, 1) := by decide +kernel
theorem dX12_codesTell_40 : decode cX12_codesTell 40 = .ok (.iaload, 1) := by decide +kernel
theorem dX12_codesTell_41 : decode cX12_codesTell 41 = .ok (.istore_n 3, 1) := by decide +kernel
theorem dX12_codesTell_42 : decode cX12_codesTell 42 = .ok (.iload_n 3, 1) := by decide +kernel
theorem dX12_codesTell_43 : decode cX12_codesTell 43 = .ok (.sipush 1000, 3) := by decide +kernel
theorem dX12_codesTell_46 : decode cX12_codesTell 46 = .ok (.if_icmp .lt 16, 3) := by decide +kernel
theorem dX12_codesTell_49 : decode cX12_codesTell 49 = .ok (.aload_n 0, 1) := by decide +kernel
theorem dX12_codesTell_50 : decode cX12_codesTell 50 = .ok (.iload_n 3, 1) := by decide +kernel
theorem dX12_codesTell_51 : decode cX12_codesTell 51 = .ok (.sipush 1000, 3) := by decide +kernel
theorem dX12_codesTell_54 : decode cX12_codesTell 54 = .ok (.isub, 1) := by decide +kernel
theorem dX12_codesTell_55 : decode cX12_codesTell 55 = .ok (.i2l, 1) := by decide +kernel
theorem dX12_codesTell_56 : decode cX12_codesTell 56 = .ok (.invokevirtual 446, 3) := by decide +kernel
theorem dX12_codesTell_59 : decode cX12_codesTell 59 = .ok (.goto 77, 3) := by decide +kernel
theorem dX12_codesTell_62 : decode cX12_codesTell 62 = .ok (.iload_n 3, 1) := by decide +kernel
theorem dX12_codesTell_63 : decode cX12_codesTell 63 = .ok (.bipush 40, 2) := by decide +kernel
theorem dX12_codesTell_65 : decode cX12_codesTell 65 = .ok (.if_icmp .lt 19, 3) := by decide +kernel
theorem dX12_codesTell_68 : decode cX12_codesTell 68 = .ok (.aload_n 0, 1) := by decide +kernel
theorem dX12_codesTell_69 : decode cX12_codesTell 69 = .ok (.aload_n 0, 1) := by decide +kernel
theorem dX12_codesTell_70 : decode cX12_codesTell 70 = .ok (.iload_n 3, 1) := by decide +kernel
theorem dX12_codesTell_71 : decode cX12_codesTell 71 = .ok (.bipush 40, 2) := by decide +kernel
theorem dX12_codesTell_73 : decode cX12_codesTell 73 = .ok (.isub, 1) := by decide +kernel
theorem dX12_codesTell_74 : decode cX12_codesTell 74 = .ok (.iconst 0, 1) := by decide +kernel
theorem dX12_codesTell_75 : decode cX12_codesTell 75 = .ok (.invokevirtual 450, 3) := by decide +kernel
theorem dX12_codesTell_78 : decode cX12_codesTell 78 = .ok (.invokevirtual 446, 3) := by decide +kernel
theorem dX12_codesTell_81 : decode cX12_codesTell 81 = .ok (.goto 55, 3) := by decide +kernel
theorem dX12_codesTell_84 : decode cX12_codesTell 84 = .ok (.iload_n 3, 1) := by decide +kernel
theorem dX12_codesTell_85 : decode cX12_codesTell 85 = .ok (.bipush 13, 2) := by decide +kernel
theorem dX12_codesTell_87 : decode cX12_codesTell 87 = .ok (.if_icmp .ne 11, 3) := by decide +kernel
theorem dX12_codesTell_90 : decode cX12_codesTell 90 = .ok (.aload_n 0, 1) := by decide +kernel
theorem dX12_codesTell_91 : decode cX12_codesTell 91 = .ok (.lconst 1, 1) := by decide +kernel
theorem dX12_codesTell_92 : decode cX12_codesTell 92 = .ok (.invokevirtual 446, 3) := by decide +kernel
theorem dX12_codesTell_95 : decode cX12_codesTell 95 = .ok (.goto 41, 3) := by decide +kernel
theorem dX12_codesTell_98 : decode cX12_codesTell 98 = .ok (.iload_n 3, 1) := by decide +kernel
theorem dX12_codesTell_99 : decode cX12_codesTell 99 = .ok (.bipush 12, 2) := by decide +kernel
theorem dX12_codesTell_101 : decode cX12_codesTell 101 = .ok (.if_icmp .ne 30, 3) := by decide +kernel
theorem dX12_codesTell_104 : decode cX12_codesTell 104 = .ok (.aload_n 0, 1) := by decide +kernel
theorem dX12_codesTell_105 : decode cX12_codesTell 105 = .ok (.getfield 249, 3) := by decide +kernel
theorem dX12_codesTell_108 : decode cX12_codesTell 108 = .ok (.aload_n 0, 1) := by decide +kernel
theorem dX12_codesTell_109 : decode cX12_codesTell 109 = .ok (.getfield 443, 3) := by decide +kernel
theorem dX12_codesTell_112 : decode cX12_codesTell 112 = .ok (.iconst 1, 1) := by decide +kernel
theorem dX12_codesTell_113 : decode cX12_codesTell 113 = .ok (.isub, 1) := by decide +kernel
theorem dX12_codesTell_114 : decode cX12_codesTell 114 = .ok (.lconst 1, 1) := by decide +kernel
theorem dX12_codesTell_115 : decode cX12_codesTell 115 = .ok (.aload_n 0, 1) := by decide +kernel
theorem dX12_codesTell_116 : decode cX12_codesTell 116 = .ok (.getfield 249, 3) := by decide +kernel
theorem dX12_codesTell_119 : decode cX12_codesTell 119 = .ok (.aload_n 0, 1) := by decide +kernel
theorem dX12_codesTell_120 : decode cX12_codesTell 120 = .ok (.getfield 443, 3) := by decide +kernel
theorem dX12_codesTell_123 : decode cX12_codesTell 123 = .ok (.iconst 1, 1) := by decide +kernel
theorem dX12_codesTell_124 : decode cX12_codesTell 124 = .ok (.isub, 1) := by decide +kernel
theorem dX12_codesTell_125 : decode cX12_codesTell 125 = .ok (.laload, 1) := by decide +kernel
theorem dX12_codesTell_126 : decode cX12_codesTell 126 = .ok (.lsub, 1) := by decide +kernel
theorem dX12_codesTell_127 : decode cX12_codesTell 127 = .ok (.lastore, 1) := by decide +kernel
theorem dX12_codesTell_128 : decode cX12_codesTell 128 = .ok (.goto 8, 3) := by decide +kernel
theorem dX12_codesTell_131 : decode cX12_codesTell 131 = .ok (.aload_n 0, 1) := by decide +kernel
theorem dX12_codesTell_132 : decode cX12_codesTell 132 = .ok (.iload_n 3, 1) := by decide +kernel
theorem dX12_codesTell_133 : decode cX12_codesTell 133 = .ok (.invokevirtual 454, 3) := by decide +kernel
theorem dX12_codesTell_136 : decode cX12_codesTell 136 = .ok (.iinc 2 1, 3) := by decide +kernel
theorem dX12_codesTell_139 : decode cX12_codesTell 139 = .ok (.goto (-120), 3) := by decide +kernel
theorem dX12_codesTell_142 : decode cX12_codesTell 142 = .ok (.aload_n 0, 1) := by decide +kernel
theorem dX12_codesTell_143 : decode cX12_codesTell 143 = .ok (.getfield 249, 3) := by decide +kernel
theorem dX12_codesTell_146 : decode cX12_codesTell 146 = .ok (.iconst 0, 1) := by decide +kernel
theorem dX12_codesTell_147 : decode cX12_codesTell 147 = .ok (.laload, 1) := by decide +kernel
theorem dX12_codesTell_148 : decode cX12_codesTell 148 = .ok (.lreturn, 1) := by decide +kernel
theorem dX12_inserts_0 : decode cX12_inserts 0 = .ok (.aload_n 0, 1) := by decide +kernel
theorem dX12_inserts_1 : decode cX12_inserts 1 = .ok (.iload_n 1, 1) := by decide +kernel
theorem dX12_inserts_2 : decode cX12_inserts 2 = .ok (.invokevirtual 466, 3) := by decide +kernel
theorem dX12_inserts_5 : decode cX12_inserts 5 = .ok (.istore 5, 2) := by decide +kernel
theorem dX12_inserts_7 : decode cX12_inserts 7 = .ok (.iload 5, 2) := by decide +kernel
theorem dX12_inserts_9 : decode cX12_inserts 9 = .ok (.iload_n 2, 1) := by decide +kernel
theorem dX12_inserts_10 : decode cX12_inserts 10 = .ok (.if_icmp .le 34, 3) := by decide +kernel
theorem dX12_inserts_13 : decode cX12_inserts 13 = .ok (.aload_n 0, 1) := by decide +kernel
theorem dX12_inserts_14 : decode cX12_inserts 14 = .ok (.iload_n 1, 1) := by decide +kernel
theorem dX12_inserts_15 : decode cX12_inserts 15 = .ok (.iload 5, 2) := by decide +kernel
theorem dX12_inserts_17 : decode cX12_inserts 17 = .ok (.aload_n 0, 1) := by decide +kernel
theorem dX12_inserts_18 : decode cX12_inserts 18 = .ok (.iload_n 1, 1) := by decide +kernel
theorem dX12_inserts_19 : decode cX12_inserts 19 = .ok (.iload 5, 2) := by decide +kernel
theorem dX12_inserts_21 : decode cX12_inserts 21 = .ok (.iconst 1, 1) := by decide +kernel
theorem dX12_inserts_22 : decode cX12_inserts 22 = .ok (.isub, 1) := by decide +kernel
theorem dX12_inserts_23 : decode cX12_inserts 23 = .ok (.invokevirtual 517, 3) := by decide +kernel
theorem dX12_inserts_26 : decode cX12_inserts 26 = .ok (.aload_n 0, 1) := by decide +kernel
theorem dX12_inserts_27 : decode cX12_inserts 27 = .ok (.iload_n 1, 1) := by decide +kernel
theorem dX12_inserts_28 : decode cX12_inserts 28 = .ok (.iload 5, 2) := by decide +kernel
theorem dX12_inserts_30 : decode cX12_inserts 30 = .ok (.iconst 1, 1) := by decide +kernel
theorem dX12_inserts_31 : decode cX12_inserts 31 = .ok (.isub, 1) := by decide +kernel
theorem dX12_inserts_32 : decode cX12_inserts 32 = .ok (.invokevirtual 505, 3) := by decide +kernel
theorem dX12_inserts_35 : decode cX12_inserts 35 = .ok (.invokevirtual 520, 3) := by decide +kernel
theorem dX12_inserts_38 : decode cX12_inserts 38 = .ok (.iinc 5 (-1), 3) := by decide +kernel
theorem dX12_inserts_41 : decode cX12_inserts 41 = .ok (.goto (-34), 3) := by decide +kernel
theorem dX12_inserts_44 : decode cX12_inserts 44 = .ok (.aload_n 0, 1) := by decide +kernel
theorem dX12_inserts_45 : decode cX12_inserts 45 = .ok (.iload_n 1, 1) := by decide +kernel
theorem dX12_inserts_46 : decode cX12_inserts 46 = .ok (.iload_n 2, 1) := by decide +kernel
theorem dX12_inserts_47 : decode cX12_inserts 47 = .ok (.iload_n 3, 1) := by decide +kernel
theorem dX12_inserts_48 : decode cX12_inserts 48 = .ok (.iload 4, 2) := by decide +kernel
theorem dX12_inserts_50 : decode cX12_inserts 50 = .ok (.invokevirtual 520, 3) := by decide +kernel
theorem dX12_inserts_53 : decode cX12_inserts 53 = .ok (.aload_n 0, 1) := by decide +kernel
theorem dX12_inserts_54 : decode cX12_inserts 54 = .ok (.getfield 121, 3) := by decide +kernel
theorem dX12_inserts_57 : decode cX12_inserts 57 = .ok (.bipush 17, 2) := by decide +kernel
theorem dX12_inserts_59 : decode cX12_inserts 59 = .ok (.bipush 16, 2) := by decide +kernel
theorem dX12_inserts_61 : decode cX12_inserts 61 = .ok (.iload_n 1, 1) := by decide +kernel
theorem dX12_inserts_62 : decode cX12_inserts 62 = .ok (.imul, 1) := by decide +kernel
theorem dX12_inserts_63 : decode cX12_inserts 63 = .ok (.iadd, 1) := by decide +kernel
theorem dX12_inserts_64 : decode cX12_inserts 64 = .ok (.iconst 3, 1) := by decide +kernel
theorem dX12_inserts_65 : decode cX12_inserts 65 = .ok (.iadd, 1) := by decide +kernel
theorem dX12_inserts_66 : decode cX12_inserts 66 = .ok (.dup2, 1) := by decide +kernel
theorem dX12_inserts_67 : decode cX12_inserts 67 = .ok (.iaload, 1) := by decide +kernel
theorem dX12_inserts_68 : decode cX12_inserts 68 = .ok (.iconst 1, 1) := by decide +kernel
theorem dX12_inserts_69 : decode cX12_inserts 69 = .ok (.iadd, 1) := by decide +kernel
theorem dX12_inserts_70 : decode cX12_inserts 70 = .ok (.iastore, 1) := by decide +kernel
theorem dX12_inserts_71 : decode cX12_inserts 71 = .ok (.return_, 1) := by decide +kernel
theorem dX12_isFresh_0 : decode cX12_isFresh 0 = .ok (.aload_n 0, 1) := by decide +kernel
theorem dX12_isFresh_1 : decode cX12_isFresh 1 = .ok (.iload_n 1, 1) := by decide +kernel
theorem dX12_isFresh_2 : decode cX12_isFresh 2 = .ok (.invokevirtual 435, 3) := by decide +kernel
theorem dX12_isFresh_5 : decode cX12_isFresh 5 = .ok (.ifCond .eq 15, 3) := by decide +kernel
theorem dX12_isFresh_8 : decode cX12_isFresh 8 = .ok (.aload_n 0, 1) := by decide +kernel
theorem dX12_isFresh_9 : decode cX12_isFresh 9 = .ok (.iload_n 1, 1) := by decide +kernel
theorem dX12_isFresh_10 : decode cX12_isFresh 10 = .ok (.invokevirtual 438, 3) := by decide +kernel
theorem dX12_isFresh_13 : decode cX12_isFresh 13 = .ok (.ifCond .ne 7, 3) := by decide +kernel
theorem dX12_isFresh_16 : decode cX12_isFresh 16 = .ok (.iconst 1, 1) := by decide +kernel
theorem dX12_isFresh_17 : decode cX12_isFresh 17 = .ok (.goto 4, 3) := by decide +kernel
theorem dX12_isFresh_20 : decode cX12_isFresh 20 = .ok (.iconst 0, 1) := by decide +kernel
theorem dX12_isFresh_21 : decode cX12_isFresh 21 = .ok (.ireturn, 1) := by decide +kernel
theorem dX12_owned_0 : decode cX12_owned 0 = .ok (.aload_n 0, 1) := by decide +kernel
theorem dX12_owned_1 : decode cX12_owned 1 = .ok (.iload_n 1, 1) := by decide +kernel
theorem dX12_owned_2 : decode cX12_owned 2 = .ok (.invokevirtual 508, 3) := by decide +kernel
theorem dX12_owned_5 : decode cX12_owned 5 = .ok (.ifCond .eq 14, 3) := by decide +kernel
theorem dX12_owned_8 : decode cX12_owned 8 = .ok (.aload_n 0, 1) := by decide +kernel
theorem dX12_owned_9 : decode cX12_owned 9 = .ok (.iload_n 1, 1) := by decide +kernel
theorem dX12_owned_10 : decode cX12_owned 10 = .ok (.invokevirtual 432, 3) := by decide +kernel
theorem dX12_owned_13 : decode cX12_owned 13 = .ok (.iconst 1, 1) := by decide +kernel
theorem dX12_owned_14 : decode cX12_owned 14 = .ok (.if_icmp .ne 5, 3) := by decide +kernel
theorem dX12_owned_17 : decode cX12_owned 17 = .ok (.iload_n 1, 1) := by decide +kernel
theorem dX12_owned_18 : decode cX12_owned 18 = .ok (.ireturn, 1) := by decide +kernel
theorem dX12_owned_19 : decode cX12_owned 19 = .ok (.aload_n 0, 1) := by decide +kernel
theorem dX12_owned_20 : decode cX12_owned 20 = .ok (.aload_n 0, 1) := by decide +kernel
theorem dX12_owned_21 : decode cX12_owned 21 = .ok (.iload_n 1, 1) := by decide +kernel
theorem dX12_owned_22 : decode cX12_owned 22 = .ok (.invokevirtual 460, 3) := by decide +kernel
theorem dX12_owned_25 : decode cX12_owned 25 = .ok (.iload_n 1, 1) := by decide +kernel
theorem dX12_owned_26 : decode cX12_owned 26 = .ok (.invokevirtual 511, 3) := by decide +kernel
theorem dX12_owned_29 : decode cX12_owned 29 = .ok (.istore_n 2, 1) := by decide +kernel
theorem dX12_owned_30 : decode cX12_owned 30 = .ok (.aload_n 0, 1) := by decide +kernel
theorem dX12_owned_31 : decode cX12_owned 31 = .ok (.getfield 493, 3) := by decide +kernel
theorem dX12_owned_34 : decode cX12_owned 34 = .ok (.ifCond .eq 5, 3) := by decide +kernel
theorem dX12_owned_37 : decode cX12_owned 37 = .ok (.iload_n 1, 1) := by decide +kernel
theorem dX12_owned_38 : decode cX12_owned 38 = .ok (.ireturn, 1) := by decide +kernel
theorem dX12_owned_39 : decode cX12_owned 39 = .ok (.iconst 3, 1) := by decide +kernel
theorem dX12_owned_40 : decode cX12_owned 40 = .ok (.istore_n 3, 1) := by decide +kernel
theorem dX12_owned_41 : decode cX12_owned 41 = .ok (.iload_n 3, 1) := by decide +kernel
theorem dX12_owned_42 : decode cX12_owned 42 = .ok (.bipush 16, 2) := by decide +kernel
theorem dX12_owned_44 : decode cX12_owned 44 = .ok (.if_icmp .ge 37, 3) := by decide +kernel
theorem dX12_owned_47 : decode cX12_owned 47 = .ok (.aload_n 0, 1) := by decide +kernel
theorem dX12_owned_48 : decode cX12_owned 48 = .ok (.getfield 121, 3) := by decide +kernel
theorem dX12_owned_51 : decode cX12_owned 51 = .ok (.bipush 17, 2) := by decide +kernel
theorem dX12_owned_53 : decode cX12_owned 53 = .ok (.bipush 16, 2) := by decide +kernel
theorem dX12_owned_55 : decode cX12_owned 55 = .ok (.iload_n 2, 1) := by decide +kernel
theorem dX12_owned_56 : decode cX12_owned 56 = .ok (.imul, 1) := by decide +kernel
theorem dX12_owned_57 : decode cX12_owned 57 = .ok (.iadd, 1) := by decide +kernel
theorem dX12_owned_58 : decode cX12_owned 58 = .ok (.iload_n 3, 1) := by decide +kernel
theorem dX12_owned_59 : decode cX12_owned 59 = .ok (.iadd, 1) := by decide +kernel
theorem dX12_owned_60 : decode cX12_owned 60 = .ok (.aload_n 0, 1) := by decide +kernel
theorem dX12_owned_61 : decode cX12_owned 61 = .ok (.getfield 121, 3) := by decide +kernel
theorem dX12_owned_64 : decode cX12_owned 64 = .ok (.bipush 17, 2) := by decide +kernel
theorem dX12_owned_66 : decode cX12_owned 66 = .ok (.bipush 16, 2) := by decide +kernel
theorem dX12_owned_68 : decode cX12_owned 68 = .ok (.iload_n 1, 1) := by decide +kernel
theorem dX12_owned_69 : decode cX12_owned 69 = .ok (.imul, 1) := by decide +kernel
theorem dX12_owned_70 : decode cX12_owned 70 = .ok (.iadd, 1) := by decide +kernel
theorem dX12_owned_71 : decode cX12_owned 71 = .ok (.iload_n 3, 1) := by decide +kernel
theorem dX12_owned_72 : decode cX12_owned 72 = .ok (.iadd, 1) := by decide +kernel
theorem dX12_owned_73 : decode cX12_owned 73 = .ok (.iaload, 1) := by decide +kernel
theorem dX12_owned_74 : decode cX12_owned 74 = .ok (.iastore, 1) := by decide +kernel
theorem dX12_owned_75 : decode cX12_owned 75 = .ok (.iinc 3 1, 3) := by decide +kernel
theorem dX12_owned_78 : decode cX12_owned 78 = .ok (.goto (-37), 3) := by decide +kernel
theorem dX12_owned_81 : decode cX12_owned 81 = .ok (.aload_n 0, 1) := by decide +kernel
theorem dX12_owned_82 : decode cX12_owned 82 = .ok (.iload_n 1, 1) := by decide +kernel
theorem dX12_owned_83 : decode cX12_owned 83 = .ok (.invokevirtual 460, 3) := by decide +kernel
theorem dX12_owned_86 : decode cX12_owned 86 = .ok (.ifCond .le 31, 3) := by decide +kernel
theorem dX12_owned_89 : decode cX12_owned 89 = .ok (.iconst 0, 1) := by decide +kernel
theorem dX12_owned_90 : decode cX12_owned 90 = .ok (.istore_n 3, 1) := by decide +kernel
theorem dX12_owned_91 : decode cX12_owned 91 = .ok (.iload_n 3, 1) := by decide +kernel
theorem dX12_owned_92 : decode cX12_owned 92 = .ok (.aload_n 0, 1) := by decide +kernel
theorem dX12_owned_93 : decode cX12_owned 93 = .ok (.iload_n 1, 1) := by decide +kernel
theorem dX12_owned_94 : decode cX12_owned 94 = .ok (.invokevirtual 466, 3) := by decide +kernel
theorem dX12_owned_97 : decode cX12_owned 97 = .ok (.if_icmp .ge 20, 3) := by decide +kernel
theorem dX12_owned_100 : decode cX12_owned 100 = .ok (.aload_n 0, 1) := by decide +kernel
theorem dX12_owned_101 : decode cX12_owned 101 = .ok (.aload_n 0, 1) := by decide +kernel
theorem dX12_owned_102 : decode cX12_owned 102 = .ok (.iload_n 1, 1) := by decide +kernel
theorem dX12_owned_103 : decode cX12_owned 103 = .ok (.iload_n 3, 1) := by decide +kernel
theorem dX12_owned_104 : decode cX12_owned 104 = .ok (.invokevirtual 505, 3) := by decide +kernel
theorem dX12_owned_107 : decode cX12_owned 107 = .ok (.iconst 1, 1) := by decide +kernel
theorem dX12_owned_108 : decode cX12_owned 108 = .ok (.invokevirtual 502, 3) := by decide +kernel
theorem dX12_owned_111 : decode cX12_owned 111 = .ok (.iinc 3 1, 3) := by decide +kernel
theorem dX12_owned_114 : decode cX12_owned 114 = .ok (.goto (-23), 3) := by decide +kernel
theorem dX12_owned_117 : decode cX12_owned 117 = .ok (.aload_n 0, 1) := by decide +kernel
theorem dX12_owned_118 : decode cX12_owned 118 = .ok (.iload_n 1, 1) := by decide +kernel
theorem dX12_owned_119 : decode cX12_owned 119 = .ok (.invokevirtual 514, 3) := by decide +kernel
theorem dX12_owned_122 : decode cX12_owned 122 = .ok (.iload_n 2, 1) := by decide +kernel
theorem dX12_owned_123 : decode cX12_owned 123 = .ok (.ireturn, 1) := by decide +kernel
theorem dX12_qPartOf_0 : decode cX12_qPartOf 0 = .ok (.iload_n 1, 1) := by decide +kernel
theorem dX12_qPartOf_1 : decode cX12_qPartOf 1 = .ok (.tableswitch 100 0 6 #[43, 49, 55, 61, 67, 73, 83], 43) := by decide +kernel
theorem dX12_qPartOf_44 : decode cX12_qPartOf 44 = .ok (.aload_n 0, 1) := by decide +kernel
theorem dX12_qPartOf_45 : decode cX12_qPartOf 45 = .ok (.getfield 463, 3) := by decide +kernel
theorem dX12_qPartOf_48 : decode cX12_qPartOf 48 = .ok (.i2l, 1) := by decide +kernel
theorem dX12_qPartOf_49 : decode cX12_qPartOf 49 = .ok (.lreturn, 1) := by decide +kernel
theorem dX12_qPartOf_50 : decode cX12_qPartOf 50 = .ok (.aload_n 0, 1) := by decide +kernel
theorem dX12_qPartOf_51 : decode cX12_qPartOf 51 = .ok (.getfield 457, 3) := by decide +kernel
theorem dX12_qPartOf_54 : decode cX12_qPartOf 54 = .ok (.i2l, 1) := by decide +kernel
theorem dX12_qPartOf_55 : decode cX12_qPartOf 55 = .ok (.lreturn, 1) := by decide +kernel
theorem dX12_qPartOf_56 : decode cX12_qPartOf 56 = .ok (.aload_n 0, 1) := by decide +kernel
theorem dX12_qPartOf_57 : decode cX12_qPartOf 57 = .ok (.getfield 499, 3) := by decide +kernel
theorem dX12_qPartOf_60 : decode cX12_qPartOf 60 = .ok (.i2l, 1) := by decide +kernel
theorem dX12_qPartOf_61 : decode cX12_qPartOf 61 = .ok (.lreturn, 1) := by decide +kernel
theorem dX12_qPartOf_62 : decode cX12_qPartOf 62 = .ok (.aload_n 0, 1) := by decide +kernel
theorem dX12_qPartOf_63 : decode cX12_qPartOf 63 = .ok (.getfield 469, 3) := by decide +kernel
theorem dX12_qPartOf_66 : decode cX12_qPartOf 66 = .ok (.i2l, 1) := by decide +kernel
theorem dX12_qPartOf_67 : decode cX12_qPartOf 67 = .ok (.lreturn, 1) := by decide +kernel
theorem dX12_qPartOf_68 : decode cX12_qPartOf 68 = .ok (.aload_n 0, 1) := by decide +kernel
theorem dX12_qPartOf_69 : decode cX12_qPartOf 69 = .ok (.getfield 457, 3) := by decide +kernel
theorem dX12_qPartOf_72 : decode cX12_qPartOf 72 = .ok (.i2l, 1) := by decide +kernel
theorem dX12_qPartOf_73 : decode cX12_qPartOf 73 = .ok (.lreturn, 1) := by decide +kernel
theorem dX12_qPartOf_74 : decode cX12_qPartOf 74 = .ok (.aload_n 0, 1) := by decide +kernel
theorem dX12_qPartOf_75 : decode cX12_qPartOf 75 = .ok (.aload_n 0, 1) := by decide +kernel
theorem dX12_qPartOf_76 : decode cX12_qPartOf 76 = .ok (.getfield 457, 3) := by decide +kernel
theorem dX12_qPartOf_79 : decode cX12_qPartOf 79 = .ok (.invokevirtual 432, 3) := by decide +kernel
theorem dX12_qPartOf_82 : decode cX12_qPartOf 82 = .ok (.i2l, 1) := by decide +kernel
theorem dX12_qPartOf_83 : decode cX12_qPartOf 83 = .ok (.lreturn, 1) := by decide +kernel
theorem dX12_qPartOf_84 : decode cX12_qPartOf 84 = .ok (.aload_n 0, 1) := by decide +kernel
theorem dX12_qPartOf_85 : decode cX12_qPartOf 85 = .ok (.aload_n 0, 1) := by decide +kernel
theorem dX12_qPartOf_86 : decode cX12_qPartOf 86 = .ok (.getfield 457, 3) := by decide +kernel
theorem dX12_qPartOf_89 : decode cX12_qPartOf 89 = .ok (.invokevirtual 508, 3) := by decide +kernel
theorem dX12_qPartOf_92 : decode cX12_qPartOf 92 = .ok (.ifCond .eq 7, 3) := by decide +kernel
theorem dX12_qPartOf_95 : decode cX12_qPartOf 95 = .ok (.lconst 1, 1) := by decide +kernel
theorem dX12_qPartOf_96 : decode cX12_qPartOf 96 = .ok (.goto 4, 3) := by decide +kernel
theorem dX12_qPartOf_99 : decode cX12_qPartOf 99 = .ok (.lconst 0, 1) := by decide +kernel
theorem dX12_qPartOf_100 : decode cX12_qPartOf 100 = .ok (.lreturn, 1) := by decide +kernel
theorem dX12_qPartOf_101 : decode cX12_qPartOf 101 = .ok (.aload_n 0, 1) := by decide +kernel
theorem dX12_qPartOf_102 : decode cX12_qPartOf 102 = .ok (.aload_n 0, 1) := by decide +kernel
theorem dX12_qPartOf_103 : decode cX12_qPartOf 103 = .ok (.getfield 457, 3) := by decide +kernel
theorem dX12_qPartOf_106 : decode cX12_qPartOf 106 = .ok (.invokevirtual 438, 3) := by decide +kernel
theorem dX12_qPartOf_109 : decode cX12_qPartOf 109 = .ok (.i2l, 1) := by decide +kernel
theorem dX12_qPartOf_110 : decode cX12_qPartOf 110 = .ok (.lreturn, 1) := by decide +kernel
theorem dX12_removes_0 : decode cX12_removes 0 = .ok (.aload_n 0, 1) := by decide +kernel
theorem dX12_removes_1 : decode cX12_removes 1 = .ok (.aload_n 0, 1) := by decide +kernel
theorem dX12_removes_2 : decode cX12_removes 2 = .ok (.getfield 121, 3) := by decide +kernel
theorem dX12_removes_5 : decode cX12_removes 5 = .ok (.iload_n 1, 1) := by decide +kernel
theorem dX12_removes_6 : decode cX12_removes 6 = .ok (.iaload, 1) := by decide +kernel
theorem dX12_removes_7 : decode cX12_removes 7 = .ok (.invokevirtual 533, 3) := by decide +kernel
theorem dX12_removes_10 : decode cX12_removes 10 = .ok (.istore_n 3, 1) := by decide +kernel
theorem dX12_removes_11 : decode cX12_removes 11 = .ok (.aload_n 0, 1) := by decide +kernel
theorem dX12_removes_12 : decode cX12_removes 12 = .ok (.getfield 493, 3) := by decide +kernel
theorem dX12_removes_15 : decode cX12_removes 15 = .ok (.ifCond .eq 4, 3) := by decide +kernel
theorem dX12_removes_18 : decode cX12_removes 18 = .ok (.return_, 1) := by decide +kernel
theorem dX12_removes_19 : decode cX12_removes 19 = .ok (.aload_n 0, 1) := by decide +kernel
theorem dX12_removes_20 : decode cX12_removes 20 = .ok (.getfield 121, 3) := by decide +kernel
theorem dX12_removes_23 : decode cX12_removes 23 = .ok (.iload_n 1, 1) := by decide +kernel
theorem dX12_removes_24 : decode cX12_removes 24 = .ok (.iload_n 3, 1) := by decide +kernel
theorem dX12_removes_25 : decode cX12_removes 25 = .ok (.iastore, 1) := by decide +kernel
theorem dX12_removes_26 : decode cX12_removes 26 = .ok (.iconst 0, 1) := by decide +kernel
theorem dX12_removes_27 : decode cX12_removes 27 = .ok (.istore 4, 2) := by decide +kernel
theorem dX12_removes_29 : decode cX12_removes 29 = .ok (.aload_n 0, 1) := by decide +kernel
theorem dX12_removes_30 : decode cX12_removes 30 = .ok (.getfield 493, 3) := by decide +kernel
theorem dX12_removes_33 : decode cX12_removes 33 = .ok (.ifCond .ne 85, 3) := by decide +kernel
theorem dX12_removes_36 : decode cX12_removes 36 = .ok (.aload_n 0, 1) := by decide +kernel
theorem dX12_removes_37 : decode cX12_removes 37 = .ok (.iload_n 3, 1) := by decide +kernel
theorem dX12_removes_38 : decode cX12_removes 38 = .ok (.invokevirtual 460, 3) := by decide +kernel
theorem dX12_removes_41 : decode cX12_removes 41 = .ok (.ifCond .le 77, 3) := by decide +kernel
theorem dX12_removes_44 : decode cX12_removes 44 = .ok (.aload_n 0, 1) := by decide +kernel
theorem dX12_removes_45 : decode cX12_removes 45 = .ok (.iload_n 3, 1) := by decide +kernel
theorem dX12_removes_46 : decode cX12_removes 46 = .ok (.iload_n 2, 1) := by decide +kernel
theorem dX12_removes_47 : decode cX12_removes 47 = .ok (.invokevirtual 543, 3) := by decide +kernel
theorem dX12_removes_50 : decode cX12_removes 50 = .ok (.istore 5, 2) := by decide +kernel
theorem dX12_removes_52 : decode cX12_removes 52 = .ok (.aload_n 0, 1) := by decide +kernel
theorem dX12_removes_53 : decode cX12_removes 53 = .ok (.iload_n 3, 1) := by decide +kernel
theorem dX12_removes_54 : decode cX12_removes 54 = .ok (.iload 5, 2) := by decide +kernel
theorem dX12_removes_56 : decode cX12_removes 56 = .ok (.invokevirtual 505, 3) := by decide +kernel
theorem dX12_removes_59 : decode cX12_removes 59 = .ok (.istore 6, 2) := by decide +kernel
theorem dX12_removes_61 : decode cX12_removes 61 = .ok (.aload_n 0, 1) := by decide +kernel
theorem dX12_removes_62 : decode cX12_removes 62 = .ok (.iload 6, 2) := by decide +kernel
theorem dX12_removes_64 : decode cX12_removes 64 = .ok (.invokevirtual 533, 3) := by decide +kernel
theorem dX12_removes_67 : decode cX12_removes 67 = .ok (.istore 7, 2) := by decide +kernel
theorem dX12_removes_69 : decode cX12_removes 69 = .ok (.iload 7, 2) := by decide +kernel
theorem dX12_removes_71 : decode cX12_removes 71 = .ok (.iload 6, 2) := by decide +kernel
theorem dX12_removes_73 : decode cX12_removes 73 = .ok (.if_icmp .eq 19, 3) := by decide +kernel
theorem dX12_removes_76 : decode cX12_removes 76 = .ok (.aload_n 0, 1) := by decide +kernel
theorem dX12_removes_77 : decode cX12_removes 77 = .ok (.iload_n 3, 1) := by decide +kernel
theorem dX12_removes_78 : decode cX12_removes 78 = .ok (.iload 5, 2) := by decide +kernel
theorem dX12_removes_80 : decode cX12_removes 80 = .ok (.aload_n 0, 1) := by decide +kernel
theorem dX12_removes_81 : decode cX12_removes 81 = .ok (.iload_n 3, 1) := by decide +kernel
theorem dX12_removes_82 : decode cX12_removes 82 = .ok (.iload 5, 2) := by decide +kernel
theorem dX12_removes_84 : decode cX12_removes 84 = .ok (.invokevirtual 517, 3) := by decide +kernel
theorem dX12_removes_87 : decode cX12_removes 87 = .ok (.iload 7, 2) := by decide +kernel
theorem dX12_removes_89 : decode cX12_removes 89 = .ok (.invokevirtual 520, 3) := by decide +kernel
theorem dX12_removes_92 : decode cX12_removes 92 = .ok (.aload_n 0, 1) := by decide +kernel
theorem dX12_removes_93 : decode cX12_removes 93 = .ok (.getfield 131, 3) := by decide +kernel
theorem dX12_removes_96 : decode cX12_removes 96 = .ok (.iload 4, 2) := by decide +kernel
theorem dX12_removes_98 : decode cX12_removes 98 = .ok (.iload_n 3, 1) := by decide +kernel
theorem dX12_removes_99 : decode cX12_removes 99 = .ok (.iastore, 1) := by decide +kernel
theorem dX12_removes_100 : decode cX12_removes 100 = .ok (.aload_n 0, 1) := by decide +kernel
theorem dX12_removes_101 : decode cX12_removes 101 = .ok (.getfield 134, 3) := by decide +kernel
theorem dX12_removes_104 : decode cX12_removes 104 = .ok (.iload 4, 2) := by decide +kernel
theorem dX12_removes_106 : decode cX12_removes 106 = .ok (.iload 5, 2) := by decide +kernel
theorem dX12_removes_108 : decode cX12_removes 108 = .ok (.iastore, 1) := by decide +kernel
theorem dX12_removes_109 : decode cX12_removes 109 = .ok (.iinc 4 1, 3) := by decide +kernel
theorem dX12_removes_112 : decode cX12_removes 112 = .ok (.iload 7, 2) := by decide +kernel
theorem dX12_removes_114 : decode cX12_removes 114 = .ok (.istore_n 3, 1) := by decide +kernel
theorem dX12_removes_115 : decode cX12_removes 115 = .ok (.goto (-86), 3) := by decide +kernel
theorem dX12_removes_118 : decode cX12_removes 118 = .ok (.aload_n 0, 1) := by decide +kernel
theorem dX12_removes_119 : decode cX12_removes 119 = .ok (.getfield 493, 3) := by decide +kernel
theorem dX12_removes_122 : decode cX12_removes 122 = .ok (.ifCond .eq 4, 3) := by decide +kernel
theorem dX12_removes_125 : decode cX12_removes 125 = .ok (.return_, 1) := by decide +kernel
theorem dX12_removes_126 : decode cX12_removes 126 = .ok (.aload_n 0, 1) := by decide +kernel
theorem dX12_removes_127 : decode cX12_removes 127 = .ok (.iload_n 3, 1) := by decide +kernel
theorem dX12_removes_128 : decode cX12_removes 128 = .ok (.aload_n 0, 1) := by decide +kernel
theorem dX12_removes_129 : decode cX12_removes 129 = .ok (.iload_n 3, 1) := by decide +kernel
theorem dX12_removes_130 : decode cX12_removes 130 = .ok (.iload_n 2, 1) := by decide +kernel
theorem dX12_removes_131 : decode cX12_removes 131 = .ok (.invokevirtual 550, 3) := by decide +kernel
theorem dX12_removes_134 : decode cX12_removes 134 = .ok (.invokevirtual 553, 3) := by decide +kernel
theorem dX12_removes_137 : decode cX12_removes 137 = .ok (.aload_n 0, 1) := by decide +kernel
theorem dX12_removes_138 : decode cX12_removes 138 = .ok (.iload_n 3, 1) := by decide +kernel
theorem dX12_removes_139 : decode cX12_removes 139 = .ok (.invokevirtual 466, 3) := by decide +kernel
theorem dX12_removes_142 : decode cX12_removes 142 = .ok (.ifCond .ne 40, 3) := by decide +kernel
theorem dX12_removes_145 : decode cX12_removes 145 = .ok (.iload 4, 2) := by decide +kernel
theorem dX12_removes_147 : decode cX12_removes 147 = .ok (.ifCond .le 35, 3) := by decide +kernel
theorem dX12_removes_150 : decode cX12_removes 150 = .ok (.aload_n 0, 1) := by decide +kernel
theorem dX12_removes_151 : decode cX12_removes 151 = .ok (.iload_n 3, 1) := by decide +kernel
theorem dX12_removes_152 : decode cX12_removes 152 = .ok (.iconst (-1), 1) := by decide +kernel
theorem dX12_removes_153 : decode cX12_removes 153 = .ok (.invokevirtual 502, 3) := by decide +kernel
theorem dX12_removes_156 : decode cX12_removes 156 = .ok (.iinc 4 (-1), 3) := by decide +kernel
theorem dX12_removes_159 : decode cX12_removes 159 = .ok (.aload_n 0, 1) := by decide +kernel
theorem dX12_removes_160 : decode cX12_removes 160 = .ok (.getfield 131, 3) := by decide +kernel
theorem dX12_removes_163 : decode cX12_removes 163 = .ok (.iload 4, 2) := by decide +kernel
theorem dX12_removes_165 : decode cX12_removes 165 = .ok (.iaload, 1) := by decide +kernel
theorem dX12_removes_166 : decode cX12_removes 166 = .ok (.istore_n 3, 1) := by decide +kernel
theorem dX12_removes_167 : decode cX12_removes 167 = .ok (.aload_n 0, 1) := by decide +kernel
theorem dX12_removes_168 : decode cX12_removes 168 = .ok (.iload_n 3, 1) := by decide +kernel
theorem dX12_removes_169 : decode cX12_removes 169 = .ok (.aload_n 0, 1) := by decide +kernel
theorem dX12_removes_170 : decode cX12_removes 170 = .ok (.getfield 134, 3) := by decide +kernel
theorem dX12_removes_173 : decode cX12_removes 173 = .ok (.iload 4, 2) := by decide +kernel
theorem dX12_removes_175 : decode cX12_removes 175 = .ok (.iaload, 1) := by decide +kernel
theorem dX12_removes_176 : decode cX12_removes 176 = .ok (.invokevirtual 553, 3) := by decide +kernel
theorem dX12_removes_179 : decode cX12_removes 179 = .ok (.goto (-42), 3) := by decide +kernel
theorem dX12_removes_182 : decode cX12_removes 182 = .ok (.aload_n 0, 1) := by decide +kernel
theorem dX12_removes_183 : decode cX12_removes 183 = .ok (.iload_n 3, 1) := by decide +kernel
theorem dX12_removes_184 : decode cX12_removes 184 = .ok (.invokevirtual 466, 3) := by decide +kernel
theorem dX12_removes_187 : decode cX12_removes 187 = .ok (.ifCond .ne 19, 3) := by decide +kernel
theorem dX12_removes_190 : decode cX12_removes 190 = .ok (.aload_n 0, 1) := by decide +kernel
theorem dX12_removes_191 : decode cX12_removes 191 = .ok (.iload_n 3, 1) := by decide +kernel
theorem dX12_removes_192 : decode cX12_removes 192 = .ok (.iconst (-1), 1) := by decide +kernel
theorem dX12_removes_193 : decode cX12_removes 193 = .ok (.invokevirtual 502, 3) := by decide +kernel
theorem dX12_removes_196 : decode cX12_removes 196 = .ok (.aload_n 0, 1) := by decide +kernel
theorem dX12_removes_197 : decode cX12_removes 197 = .ok (.getfield 121, 3) := by decide +kernel
theorem dX12_removes_200 : decode cX12_removes 200 = .ok (.iload_n 1, 1) := by decide +kernel
theorem dX12_removes_201 : decode cX12_removes 201 = .ok (.sipush 254, 3) := by decide +kernel
theorem dX12_removes_204 : decode cX12_removes 204 = .ok (.iastore, 1) := by decide +kernel
theorem dX12_removes_205 : decode cX12_removes 205 = .ok (.return_, 1) := by decide +kernel
theorem dX12_removes_206 : decode cX12_removes 206 = .ok (.aload_n 0, 1) := by decide +kernel
theorem dX12_removes_207 : decode cX12_removes 207 = .ok (.iload_n 1, 1) := by decide +kernel
theorem dX12_removes_208 : decode cX12_removes 208 = .ok (.invokevirtual 556, 3) := by decide +kernel
theorem dX12_removes_211 : decode cX12_removes 211 = .ok (.return_, 1) := by decide +kernel
theorem dX12_taken_0 : decode cX12_taken 0 = .ok (.iconst (-1), 1) := by decide +kernel
theorem dX12_taken_1 : decode cX12_taken 1 = .ok (.istore_n 3, 1) := by decide +kernel
theorem dX12_taken_2 : decode cX12_taken 2 = .ok (.lconst 0, 1) := by decide +kernel
theorem dX12_taken_3 : decode cX12_taken 3 = .ok (.lstore 4, 2) := by decide +kernel
theorem dX12_taken_5 : decode cX12_taken 5 = .ok (.iconst 0, 1) := by decide +kernel
theorem dX12_taken_6 : decode cX12_taken 6 = .ok (.istore 6, 2) := by decide +kernel
theorem dX12_taken_8 : decode cX12_taken 8 = .ok (.iload 6, 2) := by decide +kernel
theorem dX12_taken_10 : decode cX12_taken 10 = .ok (.aload_n 0, 1) := by decide +kernel
theorem dX12_taken_11 : decode cX12_taken 11 = .ok (.invokevirtual 429, 3) := by decide +kernel
theorem dX12_taken_14 : decode cX12_taken 14 = .ok (.if_icmp .ge 88, 3) := by decide +kernel
theorem dX12_taken_17 : decode cX12_taken 17 = .ok (.aload_n 0, 1) := by decide +kernel
theorem dX12_taken_18 : decode cX12_taken 18 = .ok (.getfield 493, 3) := by decide +kernel
theorem dX12_taken_21 : decode cX12_taken 21 = .ok (.ifCond .ne 81, 3) := by decide +kernel
theorem dX12_taken_24 : decode cX12_taken 24 = .ok (.aload_n 0, 1) := by decide +kernel
theorem dX12_taken_25 : decode cX12_taken 25 = .ok (.iload 6, 2) := by decide +kernel
theorem dX12_taken_27 : decode cX12_taken 27 = .ok (.invokevirtual 496, 3) := by decide +kernel
theorem dX12_taken_30 : decode cX12_taken 30 = .ok (.ifCond .eq 6, 3) := by decide +kernel
theorem dX12_taken_33 : decode cX12_taken 33 = .ok (.goto 63, 3) := by decide +kernel
theorem dX12_taken_36 : decode cX12_taken 36 = .ok (.aload_n 0, 1) := by decide +kernel
theorem dX12_taken_37 : decode cX12_taken 37 = .ok (.iload 6, 2) := by decide +kernel
theorem dX12_taken_39 : decode cX12_taken 39 = .ok (.putfield 457, 3) := by decide +kernel
theorem dX12_taken_42 : decode cX12_taken 42 = .ok (.aload_n 0, 1) := by decide +kernel
theorem dX12_taken_43 : decode cX12_taken 43 = .ok (.iload_n 2, 1) := by decide +kernel
theorem dX12_taken_44 : decode cX12_taken 44 = .ok (.putfield 499, 3) := by decide +kernel
theorem dX12_taken_47 : decode cX12_taken 47 = .ok (.aload_n 0, 1) := by decide +kernel
theorem dX12_taken_48 : decode cX12_taken 48 = .ok (.iload_n 1, 1) := by decide +kernel
theorem dX12_taken_49 : decode cX12_taken 49 = .ok (.putfield 463, 3) := by decide +kernel
theorem dX12_taken_52 : decode cX12_taken 52 = .ok (.aload_n 0, 1) := by decide +kernel
theorem dX12_taken_53 : decode cX12_taken 53 = .ok (.iconst 0, 1) := by decide +kernel
theorem dX12_taken_54 : decode cX12_taken 54 = .ok (.invokevirtual 472, 3) := by decide +kernel
theorem dX12_taken_57 : decode cX12_taken 57 = .ok (.ifCond .eq 11, 3) := by decide +kernel
theorem dX12_taken_60 : decode cX12_taken 60 = .ok (.aload_n 0, 1) := by decide +kernel
theorem dX12_taken_61 : decode cX12_taken 61 = .ok (.iconst 0, 1) := by decide +kernel
theorem dX12_taken_62 : decode cX12_taken 62 = .ok (.invokevirtual 475, 3) := by decide +kernel
theorem dX12_taken_65 : decode cX12_taken 65 = .ok (.goto 6, 3) := by decide +kernel
theorem dX12_taken_68 : decode cX12_taken 68 = .ok (.iload 6, 2) := by decide +kernel
theorem dX12_taken_70 : decode cX12_taken 70 = .ok (.i2l, 1) := by decide +kernel
theorem dX12_taken_71 : decode cX12_taken 71 = .ok (.lstore 7, 2) := by decide +kernel
theorem dX12_taken_73 : decode cX12_taken 73 = .ok (.iload_n 3, 1) := by decide +kernel
theorem dX12_taken_74 : decode cX12_taken 74 = .ok (.iconst (-1), 1) := by decide +kernel
theorem dX12_taken_75 : decode cX12_taken 75 = .ok (.if_icmp .eq 14, 3) := by decide +kernel
theorem dX12_taken_78 : decode cX12_taken 78 = .ok (.lload 7, 2) := by decide +kernel
theorem dX12_taken_80 : decode cX12_taken 80 = .ok (.lload 4, 2) := by decide +kernel
theorem dX12_taken_82 : decode cX12_taken 82 = .ok (.lcmp, 1) := by decide +kernel
theorem dX12_taken_83 : decode cX12_taken 83 = .ok (.ifCond .lt 6, 3) := by decide +kernel
theorem dX12_taken_86 : decode cX12_taken 86 = .ok (.goto 10, 3) := by decide +kernel
theorem dX12_taken_89 : decode cX12_taken 89 = .ok (.iload 6, 2) := by decide +kernel
theorem dX12_taken_91 : decode cX12_taken 91 = .ok (.istore_n 3, 1) := by decide +kernel
theorem dX12_taken_92 : decode cX12_taken 92 = .ok (.lload 7, 2) := by decide +kernel
theorem dX12_taken_94 : decode cX12_taken 94 = .ok (.lstore 4, 2) := by decide +kernel
theorem dX12_taken_96 : decode cX12_taken 96 = .ok (.iinc 6 1, 3) := by decide +kernel
theorem dX12_taken_99 : decode cX12_taken 99 = .ok (.goto (-91), 3) := by decide +kernel
theorem dX12_taken_102 : decode cX12_taken 102 = .ok (.iload_n 3, 1) := by decide +kernel
theorem dX12_taken_103 : decode cX12_taken 103 = .ok (.iconst (-1), 1) := by decide +kernel
theorem dX12_taken_104 : decode cX12_taken 104 = .ok (.if_icmp .ne 10, 3) := by decide +kernel
theorem dX12_taken_107 : decode cX12_taken 107 = .ok (.aload_n 0, 1) := by decide +kernel
theorem dX12_taken_108 : decode cX12_taken 108 = .ok (.iconst 1, 1) := by decide +kernel
theorem dX12_taken_109 : decode cX12_taken 109 = .ok (.putfield 493, 3) := by decide +kernel
theorem dX12_taken_112 : decode cX12_taken 112 = .ok (.iconst 0, 1) := by decide +kernel
theorem dX12_taken_113 : decode cX12_taken 113 = .ok (.ireturn, 1) := by decide +kernel
theorem dX12_taken_114 : decode cX12_taken 114 = .ok (.bipush 17, 2) := by decide +kernel
theorem dX12_taken_116 : decode cX12_taken 116 = .ok (.bipush 16, 2) := by decide +kernel
theorem dX12_taken_118 : decode cX12_taken 118 = .ok (.iload_n 3, 1) := by decide +kernel
theorem dX12_taken_119 : decode cX12_taken 119 = .ok (.imul, 1) := by decide +kernel
theorem dX12_taken_120 : decode cX12_taken 120 = .ok (.iadd, 1) := by decide +kernel
theorem dX12_taken_121 : decode cX12_taken 121 = .ok (.istore 6, 2) := by decide +kernel
theorem dX12_taken_123 : decode cX12_taken 123 = .ok (.iconst 0, 1) := by decide +kernel
theorem dX12_taken_124 : decode cX12_taken 124 = .ok (.istore 7, 2) := by decide +kernel
theorem dX12_taken_126 : decode cX12_taken 126 = .ok (.iload 7, 2) := by decide +kernel
theorem dX12_taken_128 : decode cX12_taken 128 = .ok (.bipush 16, 2) := by decide +kernel
theorem dX12_taken_130 : decode cX12_taken 130 = .ok (.if_icmp .ge 20, 3) := by decide +kernel
theorem dX12_taken_133 : decode cX12_taken 133 = .ok (.aload_n 0, 1) := by decide +kernel
theorem dX12_taken_134 : decode cX12_taken 134 = .ok (.getfield 121, 3) := by decide +kernel
theorem dX12_taken_137 : decode cX12_taken 137 = .ok (.iload 6, 2) := by decide +kernel
theorem dX12_taken_139 : decode cX12_taken 139 = .ok (.iload 7, 2) := by decide +kernel
theorem dX12_taken_141 : decode cX12_taken 141 = .ok (.iadd, 1) := by decide +kernel
theorem dX12_taken_142 : decode cX12_taken 142 = .ok (.iconst 0, 1) := by decide +kernel
theorem dX12_taken_143 : decode cX12_taken 143 = .ok (.iastore, 1) := by decide +kernel
theorem dX12_taken_144 : decode cX12_taken 144 = .ok (.iinc 7 1, 3) := by decide +kernel
theorem dX12_taken_147 : decode cX12_taken 147 = .ok (.goto (-21), 3) := by decide +kernel
theorem dX12_taken_150 : decode cX12_taken 150 = .ok (.aload_n 0, 1) := by decide +kernel
theorem dX12_taken_151 : decode cX12_taken 151 = .ok (.getfield 121, 3) := by decide +kernel
theorem dX12_taken_154 : decode cX12_taken 154 = .ok (.iload 6, 2) := by decide +kernel
theorem dX12_taken_156 : decode cX12_taken 156 = .ok (.iconst 1, 1) := by decide +kernel
theorem dX12_taken_157 : decode cX12_taken 157 = .ok (.iastore, 1) := by decide +kernel
theorem dX12_taken_158 : decode cX12_taken 158 = .ok (.aload_n 0, 1) := by decide +kernel
theorem dX12_taken_159 : decode cX12_taken 159 = .ok (.getfield 121, 3) := by decide +kernel
theorem dX12_taken_162 : decode cX12_taken 162 = .ok (.iload 6, 2) := by decide +kernel
theorem dX12_taken_164 : decode cX12_taken 164 = .ok (.iconst 2, 1) := by decide +kernel
theorem dX12_taken_165 : decode cX12_taken 165 = .ok (.iadd, 1) := by decide +kernel
theorem dX12_taken_166 : decode cX12_taken 166 = .ok (.iload_n 1, 1) := by decide +kernel
theorem dX12_taken_167 : decode cX12_taken 167 = .ok (.iastore, 1) := by decide +kernel
theorem dX12_taken_168 : decode cX12_taken 168 = .ok (.aload_n 0, 1) := by decide +kernel
theorem dX12_taken_169 : decode cX12_taken 169 = .ok (.getfield 124, 3) := by decide +kernel
theorem dX12_taken_172 : decode cX12_taken 172 = .ok (.iload_n 3, 1) := by decide +kernel
theorem dX12_taken_173 : decode cX12_taken 173 = .ok (.iconst 1, 1) := by decide +kernel
theorem dX12_taken_174 : decode cX12_taken 174 = .ok (.bastore, 1) := by decide +kernel
theorem dX12_taken_175 : decode cX12_taken 175 = .ok (.iload_n 3, 1) := by decide +kernel
theorem dX12_taken_176 : decode cX12_taken 176 = .ok (.ireturn, 1) := by decide +kernel
def m_x12_isFresh_J21 (s : MS) (x1 : Int32) : Option Int32 :=
  bo x1 (some x1)
def m_x12_isFresh_J20 (s : MS) (_u : Unit) : Option Int32 :=
  m_x12_isFresh_J21 s 0
def m_x12_isFresh (p0 : Int32) (s : MS) : Option Int32 :=
  bn (m_x12_isUsed p0 s) (fun r4 => if r4 = 0 then m_x12_isFresh_J20 s () else bn (m_x12_savedOf p0 s) (fun r7 => if r7 = 0 then m_x12_isFresh_J21 s 1 else m_x12_isFresh_J20 s ()))
set_option maxHeartbeats 4000000 in
set_option maxRecDepth 100000 in
theorem k_x12_isFresh (l : Launch) (D : va_G) (a : Nat → Nat) (p0 : Int32) (s : MS) (o : Int32) (h : m_x12_isFresh p0 s = some o) : yRi l yX12_isFresh cX12_isFresh 2 (some .boolean) { frames := 2, cells := 0, slots := 0, locals := 120 } D [.ref (a 200), .int p0] (RW D a s) o := by
  refine Met.ofW (cc := cX12_isFresh) (maxL := 2) (ret := (some .boolean)) (by decide) rfl ?_
  intro p e s₀ m args below meth c s₁ B hml hv
  obtain ⟨rfl, ⟨hP, hK⟩, hN⟩ := hv
  have hx := B.exec
  have hb := B.bytes
  have hr := B.returns
  have hts := atoms_spec (ws := wz yX12_isFresh cX12_isFresh 2 (some .boolean)) B.pre
  have ht : ∀ w ∈ lw_gd, w.before _ s₀ = true := fun w h => hts w (List.mem_cons_of_mem _ h)
  have hown : s₀.vm.findClass RX12 = some m.cls := findClass_of_methodNamed B.named
  have hlocks := B.notSynchronized
  have hS : va_S (fun _ => False) s₀.heap s₀.heap [] := va_S.rf
  have hl := lv_entry ([.ref (a 200), .int p0]) (n := 2) (Nat.le_of_ble_eq_true rfl)
  rw [lg_entry_eq]
  generalize (lg_sl ([.ref (a 200), .int p0]) ++ List.replicate (2 - (lg_sl ([.ref (a 200), .int p0])).length) Slot.unset).toArray = ls at hl ⊢
  have hl : lv_has ls 2 [(0, .ref (a 200)), (1, .int p0)] := hl
  unfold m_x12_isFresh at h
  refine y_head (pcJ := 21) (σ := Int32) (fun u H locs ls => va_P D vwCl (RW D a s) H ∧ va_S (fun _ => False) s₀.heap H locs ∧ lv_has ls 2 [] ∧ m_x12_isFresh_J21 s u = some o) (fun u => [.int u]) (fun u H locs ls hI => ?_) (fun J21 => ?_)
  · obtain ⟨hP, hS, hl, h⟩ := hI
    obtain ⟨x1, rfl⟩ : ∃ z, z = u := ⟨u, rfl⟩
    have hP : va_P D vwCl (RW D a s) H := hP
    have hl : lv_has ls 2 [] := hl
    have h : m_x12_isFresh_J21 s x1 = some o := h
    unfold m_x12_isFresh_J21 at h
    obtain ⟨hb2, h⟩ := bo_e h
    obtain rfl := Option.some.inj h
    exact W.zret (v := x1) hx hb hr (bo_n hb2) (fun t ht hW => ⟨⟨_, (), rfl, rfl, trivial⟩, hS.F ht⟩) hS.2.2 dX12_isFresh_21
  refine y_head (pcJ := 20) (σ := Unit) (fun u H locs ls => va_P D vwCl (RW D a s) H ∧ va_S (fun _ => False) s₀.heap H locs ∧ lv_has ls 2 [] ∧ m_x12_isFresh_J20 s u = some o) (fun u => []) (fun u H locs ls hI => ?_) (fun J20 => ?_)
  · obtain ⟨hP, hS, hl, h⟩ := hI
    skip
    have hP : va_P D vwCl (RW D a s) H := hP
    have hl : lv_has ls 2 [] := hl
    have h : m_x12_isFresh_J20 s () = some o := h
    unfold m_x12_isFresh_J20 at h
    refine lv_iconst (v := 0) hx hb dX12_isFresh_20 (by decide) ?_
    exact J21 0 _ _ _ ⟨hP, hS, lv_sub hl [] rfl, h⟩
  refine lv_aload_n hx hb dX12_isFresh_0 rfl (lv_at hl 0 rfl) ?_
  refine lv_iload_n hx hb dX12_isFresh_1 rfl (lv_at hl 1 rfl) ?_
  obtain ⟨r4, hc3, h⟩ := bn_e h
  refine ycV (As := [.int p0]) (rest := []) (C := RX12) (n := 1) ⟨hx, hb, hml, hown, ht⟩ (k_x12_isUsed l D a p0 _ _ hc3) (zgV ml_X12_435 im_X12_isUsed se_X12_isUsed in_X12 co_X12_isUsed) rfl rfl (by decide +kernel) ⟨Nat.le_of_ble_eq_true rfl, Nat.le_of_ble_eq_true rfl⟩ hN hK hP hS 0 RW_0 rfl rfl rfl hl.1 rfl (Nat.le_of_ble_eq_true rfl) dX12_isFresh_2 ⟨Nat.le_of_ble_eq_true rfl, Nat.le_of_ble_eq_true rfl⟩ (fun H locs hP hS => ?_)
  refine lv_if_eq (tgt := 20) hx hb dX12_isFresh_5 (by decide) (fun c5 => ?_) (fun c5 => ?_)
  · have h := if_t c5 h
    exact J20 () _ _ _ ⟨hP, hS, lv_sub hl [] rfl, h⟩
  · have h := if_f c5 h
    refine lv_aload_n hx hb dX12_isFresh_8 rfl (lv_at hl 0 rfl) ?_
    refine lv_iload_n hx hb dX12_isFresh_9 rfl (lv_at hl 1 rfl) ?_
    obtain ⟨r7, hc6, h⟩ := bn_e h
    refine ycV (As := [.int p0]) (rest := []) (C := RX12) (n := 1) ⟨hx, hb, hml, hown, ht⟩ (k_x12_savedOf l D a p0 _ _ hc6) (zgV ml_X12_438 im_X12_savedOf se_X12_savedOf in_X12 co_X12_savedOf) rfl rfl (by decide +kernel) ⟨Nat.le_of_ble_eq_true rfl, Nat.le_of_ble_eq_true rfl⟩ hN hK hP hS 0 RW_0 rfl rfl rfl hl.1 rfl (Nat.le_of_ble_eq_true rfl) dX12_isFresh_10 ⟨Nat.le_of_ble_eq_true rfl, Nat.le_of_ble_eq_true rfl⟩ (fun H locs hP hS => ?_)
    refine lv_if_ne (tgt := 20) hx hb dX12_isFresh_13 (by decide) (fun c8 => ?_) (fun c8 => ?_)
    · have h := if_f c8 h
      exact J20 () _ _ _ ⟨hP, hS, lv_sub hl [] rfl, h⟩
    · have h := if_t c8 h
      refine lv_iconst (v := 1) hx hb dX12_isFresh_16 (by decide) ?_
      refine lv_goto (tgt := 21) hx hb dX12_isFresh_17 (by decide) ?_
      exact J21 1 _ _ _ ⟨hP, hS, lv_sub hl [] rfl, h⟩
def m_x12_qPartOf_J100 (s : MS) (z1 : Int64) : Option Int64 :=
  some z1
def m_x12_qPartOf (p0 : Int32) (p1 : Int32) (s : MS) : Option Int64 :=
  if p0 = 0 then some (Int32.toInt64 (gI s 52)) else if p0 = 1 then some (Int32.toInt64 (gI s 50)) else if p0 = 2 then some (Int32.toInt64 (gI s 51)) else if p0 = 3 then some (Int32.toInt64 (gI s 53)) else if p0 = 4 then some (Int32.toInt64 (gI s 50)) else if p0 = 5 then bn (m_x12_countOf (gI s 50) s) (fun r9 => some (Int32.toInt64 r9)) else if p0 = 6 then bn (m_x12_isFresh (gI s 50) s) (fun r12 => if r12 = 0 then m_x12_qPartOf_J100 s 0 else m_x12_qPartOf_J100 s 1) else bn (m_x12_savedOf (gI s 50) s) (fun r15 => some (Int32.toInt64 r15))
set_option maxHeartbeats 4000000 in
set_option maxRecDepth 100000 in
theorem k_x12_qPartOf (l : Launch) (D : va_G) (a : Nat → Nat) (p0 : Int32) (p1 : Int32) (s : MS) (o : Int64) (h : m_x12_qPartOf p0 p1 s = some o) : yRl l yX12_qPartOf cX12_qPartOf 3 (some .long) { frames := 3, cells := 0, slots := 0, locals := 180 } D [.ref (a 200), .int p0, .int p1] (RW D a s) o := by
  refine Met.ofW (cc := cX12_qPartOf) (maxL := 3) (ret := (some .long)) (by decide) rfl ?_
  intro p e s₀ m args below meth c s₁ B hml hv
  obtain ⟨rfl, ⟨hP, hK⟩, hN⟩ := hv
  have hx := B.exec
  have hb := B.bytes
  have hr := B.returns
  have hts := atoms_spec (ws := wz yX12_qPartOf cX12_qPartOf 3 (some .long)) B.pre
  have ht : ∀ w ∈ lw_gd, w.before _ s₀ = true := fun w h => hts w (List.mem_cons_of_mem _ h)
  have hown : s₀.vm.findClass RX12 = some m.cls := findClass_of_methodNamed B.named
  have hlocks := B.notSynchronized
  have hS : va_S (fun _ => False) s₀.heap s₀.heap [] := va_S.rf
  have hl := lv_entry ([.ref (a 200), .int p0, .int p1]) (n := 3) (Nat.le_of_ble_eq_true rfl)
  rw [lg_entry_eq]
  generalize (lg_sl ([.ref (a 200), .int p0, .int p1]) ++ List.replicate (3 - (lg_sl ([.ref (a 200), .int p0, .int p1])).length) Slot.unset).toArray = ls at hl ⊢
  have hl : lv_has ls 3 [(0, .ref (a 200)), (1, .int p0), (2, .int p1)] := hl
  unfold m_x12_qPartOf at h
  refine y_head (pcJ := 100) (σ := Int64) (fun u H locs ls => va_P D vwCl (RW D a s) H ∧ va_S (fun _ => False) s₀.heap H locs ∧ lv_has ls 3 [] ∧ m_x12_qPartOf_J100 s u = some o) (fun u => [.long u]) (fun u H locs ls hI => ?_) (fun J100 => ?_)
  · obtain ⟨hP, hS, hl, h⟩ := hI
    obtain ⟨z1, rfl⟩ : ∃ z, z = u := ⟨u, rfl⟩
    have hP : va_P D vwCl (RW D a s) H := hP
    have hl : lv_has ls 3 [] := hl
    have h : m_x12_qPartOf_J100 s z1 = some o := h
    unfold m_x12_qPartOf_J100 at h
    obtain rfl := Option.some.inj h
    exact W.lret (v := z1) hx hb hr (fun t ht hW => ⟨⟨_, (), rfl, rfl, trivial⟩, hS.F ht⟩) hS.2.2 dX12_qPartOf_100
  refine lv_iload_n hx hb dX12_qPartOf_0 rfl (lv_at hl 1 rfl) ?_
  by_cases c2 : p0 = 0
  · have h := if_t c2 h
    refine lv_tableIn (off := 43) (tgt := 44) hx hb dX12_qPartOf_1 (by rw [c2]; decide) (by rw [c2]; decide) (by rw [c2]; decide) (by decide) ?_
    refine lv_aload_n hx hb dX12_qPartOf_44 rfl (lv_at hl 0 rfl) ?_
    refine va_get (D := D) (ci := 12) (v := .int (gI s 52)) (C := RX12) (T := TX12) (N := 116) hx hb ht inX12 hown hK hP 0 RW_0 rfl 52 (by decide) (ht (.fieldLink RX12 463 "CloneVolumesModel" "askLevel" "I") fl_X12_463) (fun _ h9 => h9) mF_52 dX12_qPartOf_45 ?_
    refine lv_i2l (v := Int32.toInt64 (gI s 52)) hx hb dX12_qPartOf_48 rfl ?_
    obtain rfl := Option.some.inj h
    exact W.lret (v := Int32.toInt64 (gI s 52)) hx hb hr (fun t ht hW => ⟨⟨_, (), rfl, rfl, trivial⟩, hS.F ht⟩) hS.2.2 dX12_qPartOf_49
  · have h := if_f c2 h
    by_cases c3 : p0 = 1
    · have h := if_t c3 h
      refine lv_tableIn (off := 49) (tgt := 50) hx hb dX12_qPartOf_1 (by rw [c3]; decide) (by rw [c3]; decide) (by rw [c3]; decide) (by decide) ?_
      refine lv_aload_n hx hb dX12_qPartOf_50 rfl (lv_at hl 0 rfl) ?_
      refine va_get (D := D) (ci := 12) (v := .int (gI s 50)) (C := RX12) (T := TX12) (N := 116) hx hb ht inX12 hown hK hP 0 RW_0 rfl 50 (by decide) (ht (.fieldLink RX12 457 "CloneVolumesModel" "askBlock" "I") fl_X12_457) (fun _ h9 => h9) mF_50 dX12_qPartOf_51 ?_
      refine lv_i2l (v := Int32.toInt64 (gI s 50)) hx hb dX12_qPartOf_54 rfl ?_
      obtain rfl := Option.some.inj h
      exact W.lret (v := Int32.toInt64 (gI s 50)) hx hb hr (fun t ht hW => ⟨⟨_, (), rfl, rfl, trivial⟩, hS.F ht⟩) hS.2.2 dX12_qPartOf_55
    · have h := if_f c3 h
      by_cases c4 : p0 = 2
      · have h := if_t c4 h
        refine lv_tableIn (off := 55) (tgt := 56) hx hb dX12_qPartOf_1 (by rw [c4]; decide) (by rw [c4]; decide) (by rw [c4]; decide) (by decide) ?_
        refine lv_aload_n hx hb dX12_qPartOf_56 rfl (lv_at hl 0 rfl) ?_
        refine va_get (D := D) (ci := 12) (v := .int (gI s 51)) (C := RX12) (T := TX12) (N := 116) hx hb ht inX12 hown hK hP 0 RW_0 rfl 51 (by decide) (ht (.fieldLink RX12 499 "CloneVolumesModel" "askFrom" "I") fl_X12_499) (fun _ h9 => h9) mF_51 dX12_qPartOf_57 ?_
        refine lv_i2l (v := Int32.toInt64 (gI s 51)) hx hb dX12_qPartOf_60 rfl ?_
        obtain rfl := Option.some.inj h
        exact W.lret (v := Int32.toInt64 (gI s 51)) hx hb hr (fun t ht hW => ⟨⟨_, (), rfl, rfl, trivial⟩, hS.F ht⟩) hS.2.2 dX12_qPartOf_61
      · have h := if_f c4 h
        by_cases c5 : p0 = 3
        · have h := if_t c5 h
          refine lv_tableIn (off := 61) (tgt := 62) hx hb dX12_qPartOf_1 (by rw [c5]; decide) (by rw [c5]; decide) (by rw [c5]; decide) (by decide) ?_
          refine lv_aload_n hx hb dX12_qPartOf_62 rfl (lv_at hl 0 rfl) ?_
          refine va_get (D := D) (ci := 12) (v := .int (gI s 53)) (C := RX12) (T := TX12) (N := 116) hx hb ht inX12 hown hK hP 0 RW_0 rfl 53 (by decide) (ht (.fieldLink RX12 469 "CloneVolumesModel" "askEntries" "I") fl_X12_469) (fun _ h9 => h9) mF_53 dX12_qPartOf_63 ?_
          refine lv_i2l (v := Int32.toInt64 (gI s 53)) hx hb dX12_qPartOf_66 rfl ?_
          obtain rfl := Option.some.inj h
          exact W.lret (v := Int32.toInt64 (gI s 53)) hx hb hr (fun t ht hW => ⟨⟨_, (), rfl, rfl, trivial⟩, hS.F ht⟩) hS.2.2 dX12_qPartOf_67
        · have h := if_f c5 h
          by_cases c6 : p0 = 4
          · have h := if_t c6 h
            refine lv_tableIn (off := 67) (tgt := 68) hx hb dX12_qPartOf_1 (by rw [c6]; decide) (by rw [c6]; decide) (by rw [c6]; decide) (by decide) ?_
            refine lv_aload_n hx hb dX12_qPartOf_68 rfl (lv_at hl 0 rfl) ?_
            refine va_get (D := D) (ci := 12) (v := .int (gI s 50)) (C := RX12) (T := TX12) (N := 116) hx hb ht inX12 hown hK hP 0 RW_0 rfl 50 (by decide) (ht (.fieldLink RX12 457 "CloneVolumesModel" "askBlock" "I") fl_X12_457) (fun _ h9 => h9) mF_50 dX12_qPartOf_69 ?_
            refine lv_i2l (v := Int32.toInt64 (gI s 50)) hx hb dX12_qPartOf_72 rfl ?_
            obtain rfl := Option.some.inj h
            exact W.lret (v := Int32.toInt64 (gI s 50)) hx hb hr (fun t ht hW => ⟨⟨_, (), rfl, rfl, trivial⟩, hS.F ht⟩) hS.2.2 dX12_qPartOf_73
          · have h := if_f c6 h
            by_cases c7 : p0 = 5
            · have h := if_t c7 h
              refine lv_tableIn (off := 73) (tgt := 74) hx hb dX12_qPartOf_1 (by rw [c7]; decide) (by rw [c7]; decide) (by rw [c7]; decide) (by decide) ?_
              refine lv_aload_n hx hb dX12_qPartOf_74 rfl (lv_at hl 0 rfl) ?_
              refine lv_aload_n hx hb dX12_qPartOf_75 rfl (lv_at hl 0 rfl) ?_
              refine va_get (D := D) (ci := 12) (v := .int (gI s 50)) (C := RX12) (T := TX12) (N := 116) hx hb ht inX12 hown hK hP 0 RW_0 rfl 50 (by decide) (ht (.fieldLink RX12 457 "CloneVolumesModel" "askBlock" "I") fl_X12_457) (fun _ h9 => h9) mF_50 dX12_qPartOf_76 ?_
              obtain ⟨r9, hc8, h⟩ := bn_e h
              refine ycV (As := [.int (gI s 50)]) (rest := []) (C := RX12) (n := 1) ⟨hx, hb, hml, hown, ht⟩ (k_x12_countOf l D a (gI s 50) _ _ hc8) (zgV ml_X12_432 im_X12_countOf se_X12_countOf in_X12 co_X12_countOf) rfl rfl (by decide +kernel) ⟨Nat.le_of_ble_eq_true rfl, Nat.le_of_ble_eq_true rfl⟩ hN hK hP hS 0 RW_0 rfl rfl rfl hl.1 rfl (Nat.le_of_ble_eq_true rfl) dX12_qPartOf_79 ⟨Nat.le_of_ble_eq_true rfl, Nat.le_of_ble_eq_true rfl⟩ (fun H locs hP hS => ?_)
              refine lv_i2l (v := Int32.toInt64 r9) hx hb dX12_qPartOf_82 rfl ?_
              obtain rfl := Option.some.inj h
              exact W.lret (v := Int32.toInt64 r9) hx hb hr (fun t ht hW => ⟨⟨_, (), rfl, rfl, trivial⟩, hS.F ht⟩) hS.2.2 dX12_qPartOf_83
            · have h := if_f c7 h
              by_cases c10 : p0 = 6
              · have h := if_t c10 h
                refine lv_tableIn (off := 83) (tgt := 84) hx hb dX12_qPartOf_1 (by rw [c10]; decide) (by rw [c10]; decide) (by rw [c10]; decide) (by decide) ?_
                refine lv_aload_n hx hb dX12_qPartOf_84 rfl (lv_at hl 0 rfl) ?_
                refine lv_aload_n hx hb dX12_qPartOf_85 rfl (lv_at hl 0 rfl) ?_
                refine va_get (D := D) (ci := 12) (v := .int (gI s 50)) (C := RX12) (T := TX12) (N := 116) hx hb ht inX12 hown hK hP 0 RW_0 rfl 50 (by decide) (ht (.fieldLink RX12 457 "CloneVolumesModel" "askBlock" "I") fl_X12_457) (fun _ h9 => h9) mF_50 dX12_qPartOf_86 ?_
                obtain ⟨r12, hc11, h⟩ := bn_e h
                refine ycV (As := [.int (gI s 50)]) (rest := []) (C := RX12) (n := 1) ⟨hx, hb, hml, hown, ht⟩ (k_x12_isFresh l D a (gI s 50) _ _ hc11) (zgV ml_X12_508 im_X12_isFresh se_X12_isFresh in_X12 co_X12_isFresh) rfl rfl (by decide +kernel) ⟨Nat.le_of_ble_eq_true rfl, Nat.le_of_ble_eq_true rfl⟩ hN hK hP hS 0 RW_0 rfl rfl rfl hl.1 rfl (Nat.le_of_ble_eq_true rfl) dX12_qPartOf_89 ⟨Nat.le_of_ble_eq_true rfl, Nat.le_of_ble_eq_true rfl⟩ (fun H locs hP hS => ?_)
                refine lv_if_eq (tgt := 99) hx hb dX12_qPartOf_92 (by decide) (fun c13 => ?_) (fun c13 => ?_)
                · have h := if_t c13 h
                  refine lv_lconst (v := 0) hx hb dX12_qPartOf_99 (by decide) ?_
                  exact J100 0 _ _ _ ⟨hP, hS, lv_sub hl [] rfl, h⟩
                · have h := if_f c13 h
                  refine lv_lconst (v := 1) hx hb dX12_qPartOf_95 (by decide) ?_
                  refine lv_goto (tgt := 100) hx hb dX12_qPartOf_96 (by decide) ?_
                  exact J100 1 _ _ _ ⟨hP, hS, lv_sub hl [] rfl, h⟩
              · have h := if_f c10 h
                have gc2 := lv_neT (a := 0) c2 (by decide)
                have gc3 := lv_neT (a := 1) c3 (by decide)
                have gc4 := lv_neT (a := 2) c4 (by decide)
                have gc5 := lv_neT (a := 3) c5 (by decide)
                have gc6 := lv_neT (a := 4) c6 (by decide)
                have gc7 := lv_neT (a := 5) c7 (by decide)
                have gc10 := lv_neT (a := 6) c10 (by decide)
                refine lv_tableOut (tgt := 101) hx hb dX12_qPartOf_1 (by omega) (by decide) ?_
                refine lv_aload_n hx hb dX12_qPartOf_101 rfl (lv_at hl 0 rfl) ?_
                refine lv_aload_n hx hb dX12_qPartOf_102 rfl (lv_at hl 0 rfl) ?_
                refine va_get (D := D) (ci := 12) (v := .int (gI s 50)) (C := RX12) (T := TX12) (N := 116) hx hb ht inX12 hown hK hP 0 RW_0 rfl 50 (by decide) (ht (.fieldLink RX12 457 "CloneVolumesModel" "askBlock" "I") fl_X12_457) (fun _ h9 => h9) mF_50 dX12_qPartOf_103 ?_
                obtain ⟨r15, hc14, h⟩ := bn_e h
                refine ycV (As := [.int (gI s 50)]) (rest := []) (C := RX12) (n := 1) ⟨hx, hb, hml, hown, ht⟩ (k_x12_savedOf l D a (gI s 50) _ _ hc14) (zgV ml_X12_438 im_X12_savedOf se_X12_savedOf in_X12 co_X12_savedOf) rfl rfl (by decide +kernel) ⟨Nat.le_of_ble_eq_true rfl, Nat.le_of_ble_eq_true rfl⟩ hN hK hP hS 0 RW_0 rfl rfl rfl hl.1 rfl (Nat.le_of_ble_eq_true rfl) dX12_qPartOf_106 ⟨Nat.le_of_ble_eq_true rfl, Nat.le_of_ble_eq_true rfl⟩ (fun H locs hP hS => ?_)
                refine lv_i2l (v := Int32.toInt64 r15) hx hb dX12_qPartOf_109 rfl ?_
                obtain rfl := Option.some.inj h
                exact W.lret (v := Int32.toInt64 r15) hx hb hr (fun t ht hW => ⟨⟨_, (), rfl, rfl, trivial⟩, hS.F ht⟩) hS.2.2 dX12_qPartOf_110
def m_x12_codesTell_J136 (lr19 : Int32 → Int32 → MS → Option (Int64 × MS)) (x4 : Int32) (x5 : Int32) (s6 : MS) : Option (Int64 × MS) :=
  lr19 x4 (x5 + 1) s6
def m_x12_codesTell_b19 (lr19 : Int32 → Int32 → MS → Option (Int64 × MS)) (x1 : Int32) (x2 : Int32) (s3 : MS) : Option (Int64 × MS) :=
  rdI (gA s3 43) 6 (3 + x1) (fun y7 => if y7 ≤ x2 then rdL (gB s3 107) 1700 0 (fun yl9 => some (yl9, s3)) else rdI (gA s3 44) 3200 (1600 + x2) (fun y10 => if y10 < 1000 then if y10 < 40 then if y10 = 13 then bn (m_x12_qPuts 1 s3) (fun s21 => m_x12_codesTell_J136 lr19 x1 x2 s21) else if y10 = 12 then rdL (gB s3 107) 1700 ((gI s3 108) - 1) (fun yl17 => inb 1700 ((gI s3 108) - 1) (stn (sB s3 107 (vp_updL (gB s3 107) (Int32.toNatClampNeg ((gI s3 108) - 1)) (1 - yl17))) (fun s19 => m_x12_codesTell_J136 lr19 x1 x2 s19))) else bn (m_x12_qJoins y10 s3) (fun s16 => m_x12_codesTell_J136 lr19 x1 x2 s16) else bn (m_x12_qPartOf (y10 - 40) 0 s3) (fun rl23 => bn (m_x12_qPuts rl23 s3) (fun s25 => m_x12_codesTell_J136 lr19 x1 x2 s25)) else bn (m_x12_qPuts (Int32.toInt64 (y10 - 1000)) s3) (fun s27 => m_x12_codesTell_J136 lr19 x1 x2 s27)))
def m_x12_codesTell_L19 (n : Nat) : Int32 → Int32 → MS → Option (Int64 × MS) := lp (fun _ _ _ => none) (m_x12_codesTell_b19) n
def m_x12_codesTell (p0 : Int32) (s : MS) : Option (Int64 × MS) :=
  stn (sI s 48 p0) (fun s28 => stn (sI s28 108 0) (fun s29 => rdI (gA s29 42) 6 (3 + p0) (fun y30 => m_x12_codesTell_L19 FU p0 y30 s29)))
set_option maxHeartbeats 4000000 in
set_option maxRecDepth 100000 in
theorem k_x12_codesTell (l : Launch) (D : va_G) (a : Nat → Nat) (p0 : Int32) (sz : Nat) (s : MS) (o : (Int64 × MS)) (h : m_x12_codesTell p0 s = some o) : yWl l yX12_codesTell cX12_codesTell 4 (some .long) { frames := 4, cells := 0, slots := 0, locals := 240 } D sz [.ref (a 200), .int p0] (RW D a s) (RW D a o.2) o.1 := by
  refine Met.ofW (cc := cX12_codesTell) (maxL := 4) (ret := (some .long)) (by decide) rfl ?_
  intro p e s₀ m args below meth c s₁ B hml hv
  obtain ⟨rfl, ⟨hsz, hP, hK, hD0⟩, hN⟩ := hv
  have hx := B.exec
  have hb := B.bytes
  have hr := B.returns
  have hts := atoms_spec (ws := wz yX12_codesTell cX12_codesTell 4 (some .long)) B.pre
  have ht : ∀ w ∈ lw_gd, w.before _ s₀ = true := fun w h => hts w (List.mem_cons_of_mem _ h)
  have hown : s₀.vm.findClass RX12 = some m.cls := findClass_of_methodNamed B.named
  have hlocks := B.notSynchronized
  subst hsz
  have hD := hD0.self (sz := s₀.heap.size)
  generalize hAe : va_A (RW D a s) s₀.heap.size = A at hD ⊢
  have hA : ∀ q : Nat, s₀.heap.size ≤ q → A q := fun q h => by rw [← hAe]; exact Or.inr h
  have hS : va_S A s₀.heap s₀.heap [] := va_S.rf
  have hDD : ∀ t : MS, va_D A (RW D a t) := fun t => RW_D t hD
  have hl := lv_entry ([.ref (a 200), .int p0]) (n := 4) (Nat.le_of_ble_eq_true rfl)
  rw [lg_entry_eq]
  generalize (lg_sl ([.ref (a 200), .int p0]) ++ List.replicate (4 - (lg_sl ([.ref (a 200), .int p0])).length) Slot.unset).toArray = ls at hl ⊢
  have hl : lv_has ls 4 [(0, .ref (a 200)), (1, .int p0)] := hl
  unfold m_x12_codesTell at h
  refine y_loop (pcJ := 19) (σ := Int32 × Int32 × MS) (fun n u H locs ls => va_P D vwCl (RW D a u.2.2) H ∧ va_S A s₀.heap H locs ∧ lv_has ls 4 [(0, .ref (a 200)), (1, .int u.1), (2, .int u.2.1)] ∧ m_x12_codesTell_L19 n u.1 u.2.1 u.2.2 = some o) (fun u => []) (fun u H locs ls hI => by obtain ⟨_, _, _, h⟩ := hI; cases h) (fun n19 ih19 u H locs ls hI => ?_) (fun J19 => ?_)
  · obtain ⟨hP, hS, hl, h⟩ := hI
    obtain ⟨x1, x2, s3⟩ := u
    have hP : va_P D vwCl (RW D a s3) H := hP
    have hl : lv_has ls 4 [(0, .ref (a 200)), (1, .int x1), (2, .int x2)] := hl
    have h : m_x12_codesTell_b19 (m_x12_codesTell_L19 n19) x1 x2 s3 = some o := h
    unfold m_x12_codesTell_b19 at h
    refine y_head (pcJ := 136) (σ := Int32 × Int32 × MS) (fun u H locs ls => va_P D vwCl (RW D a u.2.2) H ∧ va_S A s₀.heap H locs ∧ lv_has ls 4 [(0, .ref (a 200)), (1, .int u.1), (2, .int u.2.1)] ∧ m_x12_codesTell_J136 (m_x12_codesTell_L19 n19) u.1 u.2.1 u.2.2 = some o) (fun u => []) (fun u H locs ls hI => ?_) (fun J136 => ?_)
    · obtain ⟨hP, hS, hl, h⟩ := hI
      obtain ⟨x4, x5, s6⟩ := u
      have hP : va_P D vwCl (RW D a s6) H := hP
      have hl : lv_has ls 4 [(0, .ref (a 200)), (1, .int x4), (2, .int x5)] := hl
      have h : m_x12_codesTell_J136 (m_x12_codesTell_L19 n19) x4 x5 s6 = some o := h
      unfold m_x12_codesTell_J136 at h
      refine lv_iinc (v := x5 + 1) (lv' := [(2, .int (x5 + 1)), (0, .ref (a 200)), (1, .int x4)]) hx hb dX12_codesTell_136 hl (k := 2) rfl rfl (by decide) rfl (fun ls hl => ?_)
      refine lv_goto (tgt := 19) hx hb dX12_codesTell_139 (by decide) ?_
      exact ih19 (x4, x5 + 1, s6) _ _ _ ⟨hP, hS, lv_sub hl [1, 2, 0] rfl, h⟩
    refine lv_iload_n hx hb dX12_codesTell_19 rfl (lv_at hl 2 rfl) ?_
    refine lv_aload_n hx hb dX12_codesTell_20 rfl (lv_at hl 0 rfl) ?_
    refine va_get (D := D) (ci := 12) (v := .ref (a 43)) (C := RX12) (T := TX12) (N := 116) hx hb ht inX12 hown hK hP 0 RW_0 rfl 43 (by decide) (ht (.fieldLink RX12 115 "CloneVolumesModel" "codeEnd" "[I") fl_X12_115) (fun _ h9 => h9) mF_43 dX12_codesTell_21 ?_
    refine lv_iconst (v := 3) hx hb dX12_codesTell_24 (by decide) ?_
    refine lv_iload_n hx hb dX12_codesTell_25 rfl (lv_at hl 1 rfl) ?_
    refine lv_iadd hx hb dX12_codesTell_26 ?_
    obtain ⟨y7, ey7, iy7, h⟩ := rdI_e h
    refine ya_iald hx hb hK hP 34 0 RW_34 rfl ey7 iy7 dX12_codesTell_27 ?_
    refine lv_icmp_ge (tgt := 142) hx hb dX12_codesTell_28 (by decide) (fun c8 => ?_) (fun c8 => ?_)
    · have h := if_t c8 h
      refine lv_aload_n hx hb dX12_codesTell_142 rfl (lv_at hl 0 rfl) ?_
      refine va_get (D := D) (ci := 12) (v := .ref (a 107)) (C := RX12) (T := TX12) (N := 116) hx hb ht inX12 hown hK hP 0 RW_0 rfl 107 (by decide) (ht (.fieldLink RX12 249 "CloneVolumesModel" "qPile" "[J") fl_X12_249) (fun _ h9 => h9) mF_107 dX12_codesTell_143 ?_
      refine lv_iconst (v := 0) hx hb dX12_codesTell_146 (by decide) ?_
      obtain ⟨yl9, eyl9, iyl9, h⟩ := rdL_e h
      refine ya_lald hx hb hK hP 77 2 RW_77 rfl eyl9 iyl9 dX12_codesTell_147 ?_
      obtain rfl := Option.some.inj h
      exact W.lret (v := yl9) hx hb hr (fun t ht hW => ⟨⟨_, (), rfl, rfl, by rw [ht]; exact hP, va_K.moved hW.alike hK, hDD _⟩, hS.F ht⟩) hS.2.2 dX12_codesTell_148
    · have h := if_f c8 h
      refine lv_aload_n hx hb dX12_codesTell_31 rfl (lv_at hl 0 rfl) ?_
      refine va_get (D := D) (ci := 12) (v := .ref (a 44)) (C := RX12) (T := TX12) (N := 116) hx hb ht inX12 hown hK hP 0 RW_0 rfl 44 (by decide) (ht (.fieldLink RX12 118 "CloneVolumesModel" "codes" "[I") fl_X12_118) (fun _ h9 => h9) mF_44 dX12_codesTell_32 ?_
      refine lv_sipush (v := 1600) hx hb dX12_codesTell_35 (by decide) ?_
      refine lv_iload_n hx hb dX12_codesTell_38 rfl (lv_at hl 2 rfl) ?_
      refine lv_iadd hx hb dX12_codesTell_39 ?_
      obtain ⟨y10, ey10, iy10, h⟩ := rdI_e h
      refine ya_iald hx hb hK hP 35 0 RW_35 rfl ey10 iy10 dX12_codesTell_40 ?_
      refine lv_istore_n (lv' := [(3, .int y10), (0, .ref (a 200)), (1, .int x1), (2, .int x2)]) hx hb dX12_codesTell_41 rfl hl (by decide) rfl (fun ls hl => ?_)
      refine lv_iload_n hx hb dX12_codesTell_42 rfl (lv_at hl 0 rfl) ?_
      refine lv_sipush (v := 1000) hx hb dX12_codesTell_43 (by decide) ?_
      refine lv_icmp_lt (tgt := 62) hx hb dX12_codesTell_46 (by decide) (fun c11 => ?_) (fun c11 => ?_)
      · have h := if_t c11 h
        refine lv_iload_n hx hb dX12_codesTell_62 rfl (lv_at hl 0 rfl) ?_
        refine lv_bipush (v := 40) hx hb dX12_codesTell_63 (by decide) ?_
        refine lv_icmp_lt (tgt := 84) hx hb dX12_codesTell_65 (by decide) (fun c12 => ?_) (fun c12 => ?_)
        · have h := if_t c12 h
          refine lv_iload_n hx hb dX12_codesTell_84 rfl (lv_at hl 0 rfl) ?_
          refine lv_bipush (v := 13) hx hb dX12_codesTell_85 (by decide) ?_
          refine lv_icmp_ne (tgt := 98) hx hb dX12_codesTell_87 (by decide) (fun c13 => ?_) (fun c13 => ?_)
          · have h := if_f c13 h
            refine lv_iload_n hx hb dX12_codesTell_98 rfl (lv_at hl 0 rfl) ?_
            refine lv_bipush (v := 12) hx hb dX12_codesTell_99 (by decide) ?_
            refine lv_icmp_ne (tgt := 131) hx hb dX12_codesTell_101 (by decide) (fun c14 => ?_) (fun c14 => ?_)
            · have h := if_f c14 h
              refine lv_aload_n hx hb dX12_codesTell_131 rfl (lv_at hl 1 rfl) ?_
              refine lv_iload_n hx hb dX12_codesTell_132 rfl (lv_at hl 0 rfl) ?_
              obtain ⟨s16, hc15, h⟩ := bn_e h
              refine ywVv (As := [.int y10]) (rest := []) (C := RX12) (n := 1) (ws' := RW D a s16) ⟨hx, hb, hml, hown, ht⟩ (k_x12_qJoins l D a y10 _ _ _ hc15) (zgV ml_X12_454 im_X12_qJoins se_X12_qJoins in_X12 co_X12_qJoins) rfl rfl (by decide +kernel) ⟨Nat.le_of_ble_eq_true rfl, Nat.le_of_ble_eq_true rfl⟩ hN hK hP (hDD _) hS hA 0 RW_0 rfl rfl rfl hl.1 rfl (Nat.le_of_ble_eq_true rfl) dX12_codesTell_133 ⟨Nat.le_of_ble_eq_true rfl, Nat.le_of_ble_eq_true rfl⟩ (fun H locs hP hS => ?_)
              exact J136 (x1, x2, s16) _ _ _ ⟨hP, hS, lv_sub hl [1, 2, 3] rfl, h⟩
            · have h := if_t c14 h
              refine lv_aload_n hx hb dX12_codesTell_104 rfl (lv_at hl 1 rfl) ?_
              refine va_get (D := D) (ci := 12) (v := .ref (a 107)) (C := RX12) (T := TX12) (N := 116) hx hb ht inX12 hown hK hP 0 RW_0 rfl 107 (by decide) (ht (.fieldLink RX12 249 "CloneVolumesModel" "qPile" "[J") fl_X12_249) (fun _ h9 => h9) mF_107 dX12_codesTell_105 ?_
              refine lv_aload_n hx hb dX12_codesTell_108 rfl (lv_at hl 1 rfl) ?_
              refine va_get (D := D) (ci := 12) (v := .int (gI s3 108)) (C := RX12) (T := TX12) (N := 116) hx hb ht inX12 hown hK hP 0 RW_0 rfl 108 (by decide) (ht (.fieldLink RX12 443 "CloneVolumesModel" "qPiled" "I") fl_X12_443) (fun _ h9 => h9) mF_108 dX12_codesTell_109 ?_
              refine lv_iconst (v := 1) hx hb dX12_codesTell_112 (by decide) ?_
              refine lv_isub hx hb dX12_codesTell_113 ?_
              refine lv_lconst (v := 1) hx hb dX12_codesTell_114 (by decide) ?_
              refine lv_aload_n hx hb dX12_codesTell_115 rfl (lv_at hl 1 rfl) ?_
              refine va_get (D := D) (ci := 12) (v := .ref (a 107)) (C := RX12) (T := TX12) (N := 116) hx hb ht inX12 hown hK hP 0 RW_0 rfl 107 (by decide) (ht (.fieldLink RX12 249 "CloneVolumesModel" "qPile" "[J") fl_X12_249) (fun _ h9 => h9) mF_107 dX12_codesTell_116 ?_
              refine lv_aload_n hx hb dX12_codesTell_119 rfl (lv_at hl 1 rfl) ?_
              refine va_get (D := D) (ci := 12) (v := .int (gI s3 108)) (C := RX12) (T := TX12) (N := 116) hx hb ht inX12 hown hK hP 0 RW_0 rfl 108 (by decide) (ht (.fieldLink RX12 443 "CloneVolumesModel" "qPiled" "I") fl_X12_443) (fun _ h9 => h9) mF_108 dX12_codesTell_120 ?_
              refine lv_iconst (v := 1) hx hb dX12_codesTell_123 (by decide) ?_
              refine lv_isub hx hb dX12_codesTell_124 ?_
              obtain ⟨yl17, eyl17, iyl17, h⟩ := rdL_e h
              refine ya_lald hx hb hK hP 77 2 RW_77 rfl eyl17 iyl17 dX12_codesTell_125 ?_
              refine lv_lsub hx hb dX12_codesTell_126 ?_
              obtain ⟨hi18, h⟩ := inb_e h
              refine ya_last hx hb hK hP (hDD _) hS 77 2 RW_77 rfl hi18 dX12_codesTell_127 (RW_w77 _) (fun H locs hP hS => ?_)
              obtain ⟨s19, hs19, h⟩ := st_e h
              rw [hs19] at hP
              refine lv_goto (tgt := 136) hx hb dX12_codesTell_128 (by decide) ?_
              exact J136 (x1, x2, s19) _ _ _ ⟨hP, hS, lv_sub hl [1, 2, 3] rfl, h⟩
          · have h := if_t c13 h
            refine lv_aload_n hx hb dX12_codesTell_90 rfl (lv_at hl 1 rfl) ?_
            refine lv_lconst (v := 1) hx hb dX12_codesTell_91 (by decide) ?_
            obtain ⟨s21, hc20, h⟩ := bn_e h
            refine ywVv (As := [.long 1]) (rest := []) (C := RX12) (n := 1) (ws' := RW D a s21) ⟨hx, hb, hml, hown, ht⟩ (k_x12_qPuts l D a 1 _ _ _ hc20) (zgV ml_X12_446 im_X12_qPuts se_X12_qPuts in_X12 co_X12_qPuts) rfl rfl (by decide +kernel) ⟨Nat.le_of_ble_eq_true rfl, Nat.le_of_ble_eq_true rfl⟩ hN hK hP (hDD _) hS hA 0 RW_0 rfl rfl rfl hl.1 rfl (Nat.le_of_ble_eq_true rfl) dX12_codesTell_92 ⟨Nat.le_of_ble_eq_true rfl, Nat.le_of_ble_eq_true rfl⟩ (fun H locs hP hS => ?_)
            refine lv_goto (tgt := 136) hx hb dX12_codesTell_95 (by decide) ?_
            exact J136 (x1, x2, s21) _ _ _ ⟨hP, hS, lv_sub hl [1, 2, 3] rfl, h⟩
        · have h := if_f c12 h
          refine lv_aload_n hx hb dX12_codesTell_68 rfl (lv_at hl 1 rfl) ?_
          refine lv_aload_n hx hb dX12_codesTell_69 rfl (lv_at hl 1 rfl) ?_
          refine lv_iload_n hx hb dX12_codesTell_70 rfl (lv_at hl 0 rfl) ?_
          refine lv_bipush (v := 40) hx hb dX12_codesTell_71 (by decide) ?_
          refine lv_isub hx hb dX12_codesTell_73 ?_
          refine lv_iconst (v := 0) hx hb dX12_codesTell_74 (by decide) ?_
          obtain ⟨rl23, hc22, h⟩ := bn_e h
          refine ycVl (As := [.int (y10 - 40), .int 0]) (rest := [.ref (a 200)]) (C := RX12) (n := 2) ⟨hx, hb, hml, hown, ht⟩ (k_x12_qPartOf l D a (y10 - 40) 0 _ _ hc22) (zgV ml_X12_450 im_X12_qPartOf se_X12_qPartOf in_X12 co_X12_qPartOf) rfl rfl (by decide +kernel) ⟨Nat.le_of_ble_eq_true rfl, Nat.le_of_ble_eq_true rfl⟩ hN hK hP hS 0 RW_0 rfl rfl rfl hl.1 rfl (Nat.le_of_ble_eq_true rfl) dX12_codesTell_75 ⟨Nat.le_of_ble_eq_true rfl, Nat.le_of_ble_eq_true rfl⟩ (fun H locs hP hS => ?_)
          obtain ⟨s25, hc24, h⟩ := bn_e h
          refine ywVv (As := [.long rl23]) (rest := []) (C := RX12) (n := 1) (ws' := RW D a s25) ⟨hx, hb, hml, hown, ht⟩ (k_x12_qPuts l D a rl23 _ _ _ hc24) (zgV ml_X12_446 im_X12_qPuts se_X12_qPuts in_X12 co_X12_qPuts) rfl rfl (by decide +kernel) ⟨Nat.le_of_ble_eq_true rfl, Nat.le_of_ble_eq_true rfl⟩ hN hK hP (hDD _) hS hA 0 RW_0 rfl rfl rfl hl.1 rfl (Nat.le_of_ble_eq_true rfl) dX12_codesTell_78 ⟨Nat.le_of_ble_eq_true rfl, Nat.le_of_ble_eq_true rfl⟩ (fun H locs hP hS => ?_)
          refine lv_goto (tgt := 136) hx hb dX12_codesTell_81 (by decide) ?_
          exact J136 (x1, x2, s25) _ _ _ ⟨hP, hS, lv_sub hl [1, 2, 3] rfl, h⟩
      · have h := if_f c11 h
        refine lv_aload_n hx hb dX12_codesTell_49 rfl (lv_at hl 1 rfl) ?_
        refine lv_iload_n hx hb dX12_codesTell_50 rfl (lv_at hl 0 rfl) ?_
        refine lv_sipush (v := 1000) hx hb dX12_codesTell_51 (by decide) ?_
        refine lv_isub hx hb dX12_codesTell_54 ?_
        refine lv_i2l (v := Int32.toInt64 (y10 - 1000)) hx hb dX12_codesTell_55 rfl ?_
        obtain ⟨s27, hc26, h⟩ := bn_e h
        refine ywVv (As := [.long (Int32.toInt64 (y10 - 1000))]) (rest := []) (C := RX12) (n := 1) (ws' := RW D a s27) ⟨hx, hb, hml, hown, ht⟩ (k_x12_qPuts l D a (Int32.toInt64 (y10 - 1000)) _ _ _ hc26) (zgV ml_X12_446 im_X12_qPuts se_X12_qPuts in_X12 co_X12_qPuts) rfl rfl (by decide +kernel) ⟨Nat.le_of_ble_eq_true rfl, Nat.le_of_ble_eq_true rfl⟩ hN hK hP (hDD _) hS hA 0 RW_0 rfl rfl rfl hl.1 rfl (Nat.le_of_ble_eq_true rfl) dX12_codesTell_56 ⟨Nat.le_of_ble_eq_true rfl, Nat.le_of_ble_eq_true rfl⟩ (fun H locs hP hS => ?_)
        refine lv_goto (tgt := 136) hx hb dX12_codesTell_59 (by decide) ?_
        exact J136 (x1, x2, s27) _ _ _ ⟨hP, hS, lv_sub hl [1, 2, 3] rfl, h⟩
  refine lv_aload_n hx hb dX12_codesTell_0 rfl (lv_at hl 0 rfl) ?_
  refine lv_iload_n hx hb dX12_codesTell_1 rfl (lv_at hl 1 rfl) ?_
  refine ya_put (D := D) (ci := 12) (v := .int p0) (ty := .int) (C := RX12) (T := TX12) (N := 116) hx hb ht inX12 tyX12 tyX12_ok nmX12 hown hK hP (hDD _) hS 0 RW_0 rfl 48 (by decide) (ht (.fieldLink RX12 324 "CloneVolumesModel" "textKind" "I") fl_X12_324) (fun _ h9 => h9) rfl (by decide +kernel) rfl rfl (by rw [mF_len]; decide) dX12_codesTell_2 (RW_f48 _) (fun H locs hP hS => ?_)
  obtain ⟨s28, hs28, h⟩ := st_e h
  rw [hs28] at hP
  refine lv_aload_n hx hb dX12_codesTell_5 rfl (lv_at hl 0 rfl) ?_
  refine lv_iconst (v := 0) hx hb dX12_codesTell_6 (by decide) ?_
  refine ya_put (D := D) (ci := 12) (v := .int 0) (ty := .int) (C := RX12) (T := TX12) (N := 116) hx hb ht inX12 tyX12 tyX12_ok nmX12 hown hK hP (hDD _) hS 0 RW_0 rfl 108 (by decide) (ht (.fieldLink RX12 443 "CloneVolumesModel" "qPiled" "I") fl_X12_443) (fun _ h9 => h9) rfl (by decide +kernel) rfl rfl (by rw [mF_len]; decide) dX12_codesTell_7 (RW_f108 _) (fun H locs hP hS => ?_)
  obtain ⟨s29, hs29, h⟩ := st_e h
  rw [hs29] at hP
  refine lv_aload_n hx hb dX12_codesTell_10 rfl (lv_at hl 0 rfl) ?_
  refine va_get (D := D) (ci := 12) (v := .ref (a 42)) (C := RX12) (T := TX12) (N := 116) hx hb ht inX12 hown hK hP 0 RW_0 rfl 42 (by decide) (ht (.fieldLink RX12 112 "CloneVolumesModel" "codeFrom" "[I") fl_X12_112) (fun _ h9 => h9) mF_42 dX12_codesTell_11 ?_
  refine lv_iconst (v := 3) hx hb dX12_codesTell_14 (by decide) ?_
  refine lv_iload_n hx hb dX12_codesTell_15 rfl (lv_at hl 1 rfl) ?_
  refine lv_iadd hx hb dX12_codesTell_16 ?_
  obtain ⟨y30, ey30, iy30, h⟩ := rdI_e h
  refine ya_iald hx hb hK hP 33 0 RW_33 rfl ey30 iy30 dX12_codesTell_17 ?_
  refine lv_istore_n (lv' := [(2, .int y30), (0, .ref (a 200)), (1, .int p0)]) hx hb dX12_codesTell_18 rfl hl (by decide) rfl (fun ls hl => ?_)
  exact J19 FU (p0, y30, s29) _ _ _ ⟨hP, hS, lv_sub hl [1, 2, 0] rfl, h⟩
def m_x12_taken_b126 (lr126 : Int32 → Int32 → Int32 → Int32 → MS → Option (Int32 × MS)) (x1 : Int32) (x2 : Int32) (x3 : Int32) (x4 : Int32) (s5 : MS) : Option (Int32 × MS) :=
  if 16 ≤ x4 then inb 906 x3 (stn (sA s5 49 (upd (gA s5 49) (Int32.toNatClampNeg x3) 1)) (fun s8 => inb 906 (x3 + 2) (stn (sA s8 49 (upd (gA s8 49) (Int32.toNatClampNeg (x3 + 2)) x1)) (fun s10 => inb 48 x2 (stn (sA s10 54 (upd (gA s10 54) (Int32.toNatClampNeg x2) (vp_nar .boolean 1))) (fun s12 => some (x2, s12))))))) else inb 906 (x3 + x4) (stn (sA s5 49 (upd (gA s5 49) (Int32.toNatClampNeg (x3 + x4)) 0)) (fun s14 => lr126 x1 x2 x3 (x4 + 1) s14))
def m_x12_taken_L126 (n : Nat) : Int32 → Int32 → Int32 → Int32 → MS → Option (Int32 × MS) := lp (fun _ _ _ _ _ => none) (m_x12_taken_b126) n
def m_x12_taken_J102 (x15 : Int32) (x16 : Int32) (s17 : MS) : Option (Int32 × MS) :=
  if x16 = (-1) then stn (sI s17 55 1) (fun s19 => some (0, s19)) else m_x12_taken_L126 FU x15 x16 (17 + (16 * x16)) 0 s17
def m_x12_taken_J96 (lr8 : Int32 → Int32 → Int32 → Int64 → Int32 → MS → Option (Int32 × MS)) (x26 : Int32) (x27 : Int32) (x28 : Int32) (z29 : Int64) (x30 : Int32) (s31 : MS) : Option (Int32 × MS) :=
  lr8 x26 x27 x28 z29 (x30 + 1) s31
def m_x12_taken_J89 (lr8 : Int32 → Int32 → Int32 → Int64 → Int32 → MS → Option (Int32 × MS)) (x32 : Int32) (x33 : Int32) (x34 : Int32) (z35 : Int64) (s36 : MS) : Option (Int32 × MS) :=
  m_x12_taken_J96 lr8 x32 x33 x34 z35 x34 s36
def m_x12_taken_J71 (lr8 : Int32 → Int32 → Int32 → Int64 → Int32 → MS → Option (Int32 × MS)) (x37 : Int32) (x38 : Int32) (x39 : Int32) (z40 : Int64) (x41 : Int32) (z42 : Int64) (s43 : MS) : Option (Int32 × MS) :=
  if x39 = (-1) then m_x12_taken_J89 lr8 x37 x38 x41 z42 s43 else if (lg_cmp z42 z40) < 0 then m_x12_taken_J89 lr8 x37 x38 x41 z42 s43 else m_x12_taken_J96 lr8 x37 x38 x39 z40 x41 s43
def m_x12_taken_b8 (lr8 : Int32 → Int32 → Int32 → Int64 → Int32 → MS → Option (Int32 × MS)) (x20 : Int32) (x21 : Int32) (x22 : Int32) (z23 : Int64) (x24 : Int32) (s25 : MS) : Option (Int32 × MS) :=
  bn (m_x12_blockMany s25) (fun r47 => if r47 ≤ x24 then m_x12_taken_J102 x20 x22 s25 else if (gI s25 55) = 0 then bn (m_x12_isThere x24 s25) (fun r51 => if r51 = 0 then stn (sI s25 50 x24) (fun s53 => stn (sI s53 51 x21) (fun s54 => stn (sI s54 52 x20) (fun s55 => bn (m_x12_isCoded 0 s55) (fun r57 => if r57 = 0 then m_x12_taken_J71 lr8 x20 x21 x22 z23 x24 (Int32.toInt64 x24) s55 else bn (m_x12_codesTell 0 s55) (fun qrl61 => m_x12_taken_J71 lr8 x20 x21 x22 z23 x24 qrl61.1 qrl61.2))))) else m_x12_taken_J96 lr8 x20 x21 x22 z23 x24 s25) else m_x12_taken_J102 x20 x22 s25)
def m_x12_taken_L8 (n : Nat) : Int32 → Int32 → Int32 → Int64 → Int32 → MS → Option (Int32 × MS) := lp (fun _ _ _ _ _ _ => none) (m_x12_taken_b8) n
def m_x12_taken (p0 : Int32) (p1 : Int32) (s : MS) : Option (Int32 × MS) :=
  m_x12_taken_L8 FU p0 p1 (-1) 0 0 s
set_option maxHeartbeats 4000000 in
set_option maxRecDepth 100000 in
theorem k_x12_taken (l : Launch) (D : va_G) (a : Nat → Nat) (p0 : Int32) (p1 : Int32) (sz : Nat) (s : MS) (o : (Int32 × MS)) (h : m_x12_taken p0 p1 s = some o) : yWi l yX12_taken cX12_taken 9 (some .int) { frames := 5, cells := 0, slots := 0, locals := 300 } D sz [.ref (a 200), .int p0, .int p1] (RW D a s) (RW D a o.2) o.1 := by
  refine Met.ofW (cc := cX12_taken) (maxL := 9) (ret := (some .int)) (by decide) rfl ?_
  intro p e s₀ m args below meth c s₁ B hml hv
  obtain ⟨rfl, ⟨hsz, hP, hK, hD0⟩, hN⟩ := hv
  have hx := B.exec
  have hb := B.bytes
  have hr := B.returns
  have hts := atoms_spec (ws := wz yX12_taken cX12_taken 9 (some .int)) B.pre
  have ht : ∀ w ∈ lw_gd, w.before _ s₀ = true := fun w h => hts w (List.mem_cons_of_mem _ h)
  have hown : s₀.vm.findClass RX12 = some m.cls := findClass_of_methodNamed B.named
  have hlocks := B.notSynchronized
  subst hsz
  have hD := hD0.self (sz := s₀.heap.size)
  generalize hAe : va_A (RW D a s) s₀.heap.size = A at hD ⊢
  have hA : ∀ q : Nat, s₀.heap.size ≤ q → A q := fun q h => by rw [← hAe]; exact Or.inr h
  have hS : va_S A s₀.heap s₀.heap [] := va_S.rf
  have hDD : ∀ t : MS, va_D A (RW D a t) := fun t => RW_D t hD
  have hl := lv_entry ([.ref (a 200), .int p0, .int p1]) (n := 9) (Nat.le_of_ble_eq_true rfl)
  rw [lg_entry_eq]
  generalize (lg_sl ([.ref (a 200), .int p0, .int p1]) ++ List.replicate (9 - (lg_sl ([.ref (a 200), .int p0, .int p1])).length) Slot.unset).toArray = ls at hl ⊢
  have hl : lv_has ls 9 [(0, .ref (a 200)), (1, .int p0), (2, .int p1)] := hl
  unfold m_x12_taken at h
  refine y_loop (pcJ := 126) (σ := Int32 × Int32 × Int32 × Int32 × MS) (fun n u H locs ls => va_P D vwCl (RW D a u.2.2.2.2) H ∧ va_S A s₀.heap H locs ∧ lv_has ls 9 [(0, .ref (a 200)), (1, .int u.1), (3, .int u.2.1), (6, .int u.2.2.1), (7, .int u.2.2.2.1)] ∧ m_x12_taken_L126 n u.1 u.2.1 u.2.2.1 u.2.2.2.1 u.2.2.2.2 = some o) (fun u => []) (fun u H locs ls hI => by obtain ⟨_, _, _, h⟩ := hI; cases h) (fun n126 ih126 u H locs ls hI => ?_) (fun J126 => ?_)
  · obtain ⟨hP, hS, hl, h⟩ := hI
    obtain ⟨x1, x2, x3, x4, s5⟩ := u
    have hP : va_P D vwCl (RW D a s5) H := hP
    have hl : lv_has ls 9 [(0, .ref (a 200)), (1, .int x1), (3, .int x2), (6, .int x3), (7, .int x4)] := hl
    have h : m_x12_taken_b126 (m_x12_taken_L126 n126) x1 x2 x3 x4 s5 = some o := h
    unfold m_x12_taken_b126 at h
    refine lv_iload hx hb dX12_taken_126 (lv_at hl 4 rfl) ?_
    refine lv_bipush (v := 16) hx hb dX12_taken_128 (by decide) ?_
    refine lv_icmp_ge (tgt := 150) hx hb dX12_taken_130 (by decide) (fun c6 => ?_) (fun c6 => ?_)
    · have h := if_t c6 h
      refine lv_aload_n hx hb dX12_taken_150 rfl (lv_at hl 0 rfl) ?_
      refine va_get (D := D) (ci := 12) (v := .ref (a 49)) (C := RX12) (T := TX12) (N := 116) hx hb ht inX12 hown hK hP 0 RW_0 rfl 49 (by decide) (ht (.fieldLink RX12 121 "CloneVolumesModel" "now" "[I") fl_X12_121) (fun _ h9 => h9) mF_49 dX12_taken_151 ?_
      refine lv_iload hx hb dX12_taken_154 (lv_at hl 3 rfl) ?_
      refine lv_iconst (v := 1) hx hb dX12_taken_156 (by decide) ?_
      obtain ⟨hi7, h⟩ := inb_e h
      refine ya_iast hx hb hK hP (hDD _) hS 36 0 RW_36 rfl hi7 dX12_taken_157 (RW_w36 _) (fun H locs hP hS => ?_)
      obtain ⟨s8, hs8, h⟩ := st_e h
      rw [hs8] at hP
      refine lv_aload_n hx hb dX12_taken_158 rfl (lv_at hl 0 rfl) ?_
      refine va_get (D := D) (ci := 12) (v := .ref (a 49)) (C := RX12) (T := TX12) (N := 116) hx hb ht inX12 hown hK hP 0 RW_0 rfl 49 (by decide) (ht (.fieldLink RX12 121 "CloneVolumesModel" "now" "[I") fl_X12_121) (fun _ h9 => h9) mF_49 dX12_taken_159 ?_
      refine lv_iload hx hb dX12_taken_162 (lv_at hl 3 rfl) ?_
      refine lv_iconst (v := 2) hx hb dX12_taken_164 (by decide) ?_
      refine lv_iadd hx hb dX12_taken_165 ?_
      refine lv_iload_n hx hb dX12_taken_166 rfl (lv_at hl 1 rfl) ?_
      obtain ⟨hi9, h⟩ := inb_e h
      refine ya_iast hx hb hK hP (hDD _) hS 36 0 RW_36 rfl hi9 dX12_taken_167 (RW_w36 _) (fun H locs hP hS => ?_)
      obtain ⟨s10, hs10, h⟩ := st_e h
      rw [hs10] at hP
      refine lv_aload_n hx hb dX12_taken_168 rfl (lv_at hl 0 rfl) ?_
      refine va_get (D := D) (ci := 12) (v := .ref (a 54)) (C := RX12) (T := TX12) (N := 116) hx hb ht inX12 hown hK hP 0 RW_0 rfl 54 (by decide) (ht (.fieldLink RX12 124 "CloneVolumesModel" "isTouched" "[Z") fl_X12_124) (fun _ h9 => h9) mF_54 dX12_taken_169 ?_
      refine lv_iload_n hx hb dX12_taken_172 rfl (lv_at hl 2 rfl) ?_
      refine lv_iconst (v := 1) hx hb dX12_taken_173 (by decide) ?_
      obtain ⟨hi11, h⟩ := inb_e h
      refine ya_zast hx hb hK hP (hDD _) hS 37 3 RW_37 rfl hi11 dX12_taken_174 (RW_w37 _) (fun H locs hP hS => ?_)
      obtain ⟨s12, hs12, h⟩ := st_e h
      rw [hs12] at hP
      refine lv_iload_n hx hb dX12_taken_175 rfl (lv_at hl 2 rfl) ?_
      obtain rfl := Option.some.inj h
      exact W.iret (v := x2) hx hb hr (fun t ht hW => ⟨⟨_, (), rfl, rfl, by rw [ht]; exact hP, va_K.moved hW.alike hK, hDD _⟩, hS.F ht⟩) hS.2.2 dX12_taken_176
    · have h := if_f c6 h
      refine lv_aload_n hx hb dX12_taken_133 rfl (lv_at hl 0 rfl) ?_
      refine va_get (D := D) (ci := 12) (v := .ref (a 49)) (C := RX12) (T := TX12) (N := 116) hx hb ht inX12 hown hK hP 0 RW_0 rfl 49 (by decide) (ht (.fieldLink RX12 121 "CloneVolumesModel" "now" "[I") fl_X12_121) (fun _ h9 => h9) mF_49 dX12_taken_134 ?_
      refine lv_iload hx hb dX12_taken_137 (lv_at hl 3 rfl) ?_
      refine lv_iload hx hb dX12_taken_139 (lv_at hl 4 rfl) ?_
      refine lv_iadd hx hb dX12_taken_141 ?_
      refine lv_iconst (v := 0) hx hb dX12_taken_142 (by decide) ?_
      obtain ⟨hi13, h⟩ := inb_e h
      refine ya_iast hx hb hK hP (hDD _) hS 36 0 RW_36 rfl hi13 dX12_taken_143 (RW_w36 _) (fun H locs hP hS => ?_)
      obtain ⟨s14, hs14, h⟩ := st_e h
      rw [hs14] at hP
      refine lv_iinc (v := x4 + 1) (lv' := [(7, .int (x4 + 1)), (0, .ref (a 200)), (1, .int x1), (3, .int x2), (6, .int x3)]) hx hb dX12_taken_144 hl (k := 4) rfl rfl (by decide) rfl (fun ls hl => ?_)
      refine lv_goto (tgt := 126) hx hb dX12_taken_147 (by decide) ?_
      exact ih126 (x1, x2, x3, x4 + 1, s14) _ _ _ ⟨hP, hS, lv_sub hl [1, 2, 3, 4, 0] rfl, h⟩
  refine y_head (pcJ := 102) (σ := Int32 × Int32 × MS) (fun u H locs ls => va_P D vwCl (RW D a u.2.2) H ∧ va_S A s₀.heap H locs ∧ lv_has ls 9 [(0, .ref (a 200)), (1, .int u.1), (3, .int u.2.1)] ∧ m_x12_taken_J102 u.1 u.2.1 u.2.2 = some o) (fun u => []) (fun u H locs ls hI => ?_) (fun J102 => ?_)
  · obtain ⟨hP, hS, hl, h⟩ := hI
    obtain ⟨x15, x16, s17⟩ := u
    have hP : va_P D vwCl (RW D a s17) H := hP
    have hl : lv_has ls 9 [(0, .ref (a 200)), (1, .int x15), (3, .int x16)] := hl
    have h : m_x12_taken_J102 x15 x16 s17 = some o := h
    unfold m_x12_taken_J102 at h
    refine lv_iload_n hx hb dX12_taken_102 rfl (lv_at hl 2 rfl) ?_
    refine lv_iconst (v := (-1)) hx hb dX12_taken_103 (by decide) ?_
    refine lv_icmp_ne (tgt := 114) hx hb dX12_taken_104 (by decide) (fun c18 => ?_) (fun c18 => ?_)
    · have h := if_f c18 h
      refine lv_bipush (v := 17) hx hb dX12_taken_114 (by decide) ?_
      refine lv_bipush (v := 16) hx hb dX12_taken_116 (by decide) ?_
      refine lv_iload_n hx hb dX12_taken_118 rfl (lv_at hl 2 rfl) ?_
      refine lv_imul hx hb dX12_taken_119 ?_
      refine lv_iadd hx hb dX12_taken_120 ?_
      refine lv_istore (lv' := [(6, .int (17 + (16 * x16))), (0, .ref (a 200)), (1, .int x15), (3, .int x16)]) hx hb dX12_taken_121 hl (by decide) rfl (fun ls hl => ?_)
      refine lv_iconst (v := 0) hx hb dX12_taken_123 (by decide) ?_
      refine lv_istore (lv' := [(7, .int 0), (6, .int (17 + (16 * x16))), (0, .ref (a 200)), (1, .int x15), (3, .int x16)]) hx hb dX12_taken_124 hl (by decide) rfl (fun ls hl => ?_)
      exact J126 FU (x15, x16, 17 + (16 * x16), 0, s17) _ _ _ ⟨hP, hS, lv_sub hl [2, 3, 4, 1, 0] rfl, h⟩
    · have h := if_t c18 h
      refine lv_aload_n hx hb dX12_taken_107 rfl (lv_at hl 0 rfl) ?_
      refine lv_iconst (v := 1) hx hb dX12_taken_108 (by decide) ?_
      refine ya_put (D := D) (ci := 12) (v := .int 1) (ty := .boolean) (C := RX12) (T := TX12) (N := 116) hx hb ht inX12 tyX12 tyX12_ok nmX12 hown hK hP (hDD _) hS 0 RW_0 rfl 55 (by decide) (ht (.fieldLink RX12 493 "CloneVolumesModel" "isFull" "Z") fl_X12_493) (fun _ h9 => h9) rfl (by decide +kernel) (by decide) (by decide) (by rw [mF_len]; decide) dX12_taken_109 (RW_f55 _) (fun H locs hP hS => ?_)
      obtain ⟨s19, hs19, h⟩ := st_e h
      rw [hs19] at hP
      refine lv_iconst (v := 0) hx hb dX12_taken_112 (by decide) ?_
      obtain rfl := Option.some.inj h
      exact W.iret (v := 0) hx hb hr (fun t ht hW => ⟨⟨_, (), rfl, rfl, by rw [ht]; exact hP, va_K.moved hW.alike hK, hDD _⟩, hS.F ht⟩) hS.2.2 dX12_taken_113
  refine y_loop (pcJ := 8) (σ := Int32 × Int32 × Int32 × Int64 × Int32 × MS) (fun n u H locs ls => va_P D vwCl (RW D a u.2.2.2.2.2) H ∧ va_S A s₀.heap H locs ∧ lv_has ls 9 [(0, .ref (a 200)), (1, .int u.1), (2, .int u.2.1), (3, .int u.2.2.1), (4, .long u.2.2.2.1), (6, .int u.2.2.2.2.1)] ∧ m_x12_taken_L8 n u.1 u.2.1 u.2.2.1 u.2.2.2.1 u.2.2.2.2.1 u.2.2.2.2.2 = some o) (fun u => []) (fun u H locs ls hI => by obtain ⟨_, _, _, h⟩ := hI; cases h) (fun n8 ih8 u H locs ls hI => ?_) (fun J8 => ?_)
  · obtain ⟨hP, hS, hl, h⟩ := hI
    obtain ⟨x20, x21, x22, z23, x24, s25⟩ := u
    have hP : va_P D vwCl (RW D a s25) H := hP
    have hl : lv_has ls 9 [(0, .ref (a 200)), (1, .int x20), (2, .int x21), (3, .int x22), (4, .long z23), (6, .int x24)] := hl
    have h : m_x12_taken_b8 (m_x12_taken_L8 n8) x20 x21 x22 z23 x24 s25 = some o := h
    unfold m_x12_taken_b8 at h
    refine y_head (pcJ := 96) (σ := Int32 × Int32 × Int32 × Int64 × Int32 × MS) (fun u H locs ls => va_P D vwCl (RW D a u.2.2.2.2.2) H ∧ va_S A s₀.heap H locs ∧ lv_has ls 9 [(0, .ref (a 200)), (1, .int u.1), (2, .int u.2.1), (3, .int u.2.2.1), (4, .long u.2.2.2.1), (6, .int u.2.2.2.2.1)] ∧ m_x12_taken_J96 (m_x12_taken_L8 n8) u.1 u.2.1 u.2.2.1 u.2.2.2.1 u.2.2.2.2.1 u.2.2.2.2.2 = some o) (fun u => []) (fun u H locs ls hI => ?_) (fun J96 => ?_)
    · obtain ⟨hP, hS, hl, h⟩ := hI
      obtain ⟨x26, x27, x28, z29, x30, s31⟩ := u
      have hP : va_P D vwCl (RW D a s31) H := hP
      have hl : lv_has ls 9 [(0, .ref (a 200)), (1, .int x26), (2, .int x27), (3, .int x28), (4, .long z29), (6, .int x30)] := hl
      have h : m_x12_taken_J96 (m_x12_taken_L8 n8) x26 x27 x28 z29 x30 s31 = some o := h
      unfold m_x12_taken_J96 at h
      refine lv_iinc (v := x30 + 1) (lv' := [(6, .int (x30 + 1)), (0, .ref (a 200)), (1, .int x26), (2, .int x27), (3, .int x28), (4, .long z29)]) hx hb dX12_taken_96 hl (k := 5) rfl rfl (by decide) rfl (fun ls hl => ?_)
      refine lv_goto (tgt := 8) hx hb dX12_taken_99 (by decide) ?_
      exact ih8 (x26, x27, x28, z29, x30 + 1, s31) _ _ _ ⟨hP, hS, lv_sub hl [1, 2, 3, 4, 5, 0] rfl, h⟩
    refine y_head (pcJ := 89) (σ := Int32 × Int32 × Int32 × Int64 × MS) (fun u H locs ls => va_P D vwCl (RW D a u.2.2.2.2) H ∧ va_S A s₀.heap H locs ∧ lv_has ls 9 [(0, .ref (a 200)), (1, .int u.1), (2, .int u.2.1), (6, .int u.2.2.1), (7, .long u.2.2.2.1)] ∧ m_x12_taken_J89 (m_x12_taken_L8 n8) u.1 u.2.1 u.2.2.1 u.2.2.2.1 u.2.2.2.2 = some o) (fun u => []) (fun u H locs ls hI => ?_) (fun J89 => ?_)
    · obtain ⟨hP, hS, hl, h⟩ := hI
      obtain ⟨x32, x33, x34, z35, s36⟩ := u
      have hP : va_P D vwCl (RW D a s36) H := hP
      have hl : lv_has ls 9 [(0, .ref (a 200)), (1, .int x32), (2, .int x33), (6, .int x34), (7, .long z35)] := hl
      have h : m_x12_taken_J89 (m_x12_taken_L8 n8) x32 x33 x34 z35 s36 = some o := h
      unfold m_x12_taken_J89 at h
      refine lv_iload hx hb dX12_taken_89 (lv_at hl 3 rfl) ?_
      refine lv_istore_n (lv' := [(3, .int x34), (0, .ref (a 200)), (1, .int x32), (2, .int x33), (6, .int x34), (7, .long z35)]) hx hb dX12_taken_91 rfl hl (by decide) rfl (fun ls hl => ?_)
      refine lv_lload hx hb dX12_taken_92 (lv_at hl 5 rfl) ?_
      refine lv_lstore (lv' := [(4, .long z35), (3, .int x34), (0, .ref (a 200)), (1, .int x32), (2, .int x33), (6, .int x34), (7, .long z35)]) hx hb dX12_taken_94 hl (by decide) rfl (fun ls hl => ?_)
      exact J96 (x32, x33, x34, z35, x34, s36) _ _ _ ⟨hP, hS, lv_sub hl [2, 3, 4, 1, 0, 5] rfl, h⟩
    refine y_head (pcJ := 71) (σ := Int32 × Int32 × Int32 × Int64 × Int32 × Int64 × MS) (fun u H locs ls => va_P D vwCl (RW D a u.2.2.2.2.2.2) H ∧ va_S A s₀.heap H locs ∧ lv_has ls 9 [(0, .ref (a 200)), (1, .int u.1), (2, .int u.2.1), (3, .int u.2.2.1), (4, .long u.2.2.2.1), (6, .int u.2.2.2.2.1)] ∧ m_x12_taken_J71 (m_x12_taken_L8 n8) u.1 u.2.1 u.2.2.1 u.2.2.2.1 u.2.2.2.2.1 u.2.2.2.2.2.1 u.2.2.2.2.2.2 = some o) (fun u => [.long u.2.2.2.2.2.1]) (fun u H locs ls hI => ?_) (fun J71 => ?_)
    · obtain ⟨hP, hS, hl, h⟩ := hI
      obtain ⟨x37, x38, x39, z40, x41, z42, s43⟩ := u
      have hP : va_P D vwCl (RW D a s43) H := hP
      have hl : lv_has ls 9 [(0, .ref (a 200)), (1, .int x37), (2, .int x38), (3, .int x39), (4, .long z40), (6, .int x41)] := hl
      have h : m_x12_taken_J71 (m_x12_taken_L8 n8) x37 x38 x39 z40 x41 z42 s43 = some o := h
      unfold m_x12_taken_J71 at h
      refine lv_lstore (lv' := [(7, .long z42), (0, .ref (a 200)), (1, .int x37), (2, .int x38), (3, .int x39), (4, .long z40), (6, .int x41)]) hx hb dX12_taken_71 hl (by decide) rfl (fun ls hl => ?_)
      refine lv_iload_n hx hb dX12_taken_73 rfl (lv_at hl 4 rfl) ?_
      refine lv_iconst (v := (-1)) hx hb dX12_taken_74 (by decide) ?_
      refine lv_icmp_eq (tgt := 89) hx hb dX12_taken_75 (by decide) (fun c44 => ?_) (fun c44 => ?_)
      · have h := if_t c44 h
        exact J89 (x37, x38, x41, z42, s43) _ _ _ ⟨hP, hS, lv_sub hl [1, 2, 3, 6, 0] rfl, h⟩
      · have h := if_f c44 h
        refine lv_lload hx hb dX12_taken_78 (lv_at hl 0 rfl) ?_
        refine lv_lload hx hb dX12_taken_80 (lv_at hl 5 rfl) ?_
        refine W.lcmp hx hb dX12_taken_82 ?_
        refine lv_if_lt (tgt := 89) hx hb dX12_taken_83 (by decide) (fun c45 => ?_) (fun c45 => ?_)
        · have h := if_t c45 h
          exact J89 (x37, x38, x41, z42, s43) _ _ _ ⟨hP, hS, lv_sub hl [1, 2, 3, 6, 0] rfl, h⟩
        · have h := if_f c45 h
          refine lv_goto (tgt := 96) hx hb dX12_taken_86 (by decide) ?_
          exact J96 (x37, x38, x39, z40, x41, s43) _ _ _ ⟨hP, hS, lv_sub hl [1, 2, 3, 4, 5, 6] rfl, h⟩
    refine lv_iload hx hb dX12_taken_8 (lv_at hl 5 rfl) ?_
    refine lv_aload_n hx hb dX12_taken_10 rfl (lv_at hl 0 rfl) ?_
    obtain ⟨r47, hc46, h⟩ := bn_e h
    refine ycV (As := []) (rest := [.int x24]) (C := RX12) (n := 0) ⟨hx, hb, hml, hown, ht⟩ (k_x12_blockMany l D a _ _ hc46) (zgV ml_X12_429 im_X12_blockMany se_X12_blockMany in_X12 co_X12_blockMany) rfl rfl (by decide +kernel) ⟨Nat.le_of_ble_eq_true rfl, Nat.le_of_ble_eq_true rfl⟩ hN hK hP hS 0 RW_0 rfl rfl rfl hl.1 rfl (Nat.le_of_ble_eq_true rfl) dX12_taken_11 ⟨Nat.le_of_ble_eq_true rfl, Nat.le_of_ble_eq_true rfl⟩ (fun H locs hP hS => ?_)
    refine lv_icmp_ge (tgt := 102) hx hb dX12_taken_14 (by decide) (fun c48 => ?_) (fun c48 => ?_)
    · have h := if_t c48 h
      exact J102 (x20, x22, s25) _ _ _ ⟨hP, hS, lv_sub hl [0, 1, 3] rfl, h⟩
    · have h := if_f c48 h
      refine lv_aload_n hx hb dX12_taken_17 rfl (lv_at hl 0 rfl) ?_
      refine va_get (D := D) (ci := 12) (v := .int (gI s25 55)) (C := RX12) (T := TX12) (N := 116) hx hb ht inX12 hown hK hP 0 RW_0 rfl 55 (by decide) (ht (.fieldLink RX12 493 "CloneVolumesModel" "isFull" "Z") fl_X12_493) (fun _ h9 => h9) mF_55 dX12_taken_18 ?_
      refine lv_if_ne (tgt := 102) hx hb dX12_taken_21 (by decide) (fun c49 => ?_) (fun c49 => ?_)
      · have h := if_f c49 h
        exact J102 (x20, x22, s25) _ _ _ ⟨hP, hS, lv_sub hl [0, 1, 3] rfl, h⟩
      · have h := if_t c49 h
        refine lv_aload_n hx hb dX12_taken_24 rfl (lv_at hl 0 rfl) ?_
        refine lv_iload hx hb dX12_taken_25 (lv_at hl 5 rfl) ?_
        obtain ⟨r51, hc50, h⟩ := bn_e h
        refine ycV (As := [.int x24]) (rest := []) (C := RX12) (n := 1) ⟨hx, hb, hml, hown, ht⟩ (k_x12_isThere l D a x24 _ _ hc50) (zgV ml_X12_496 im_X12_isThere se_X12_isThere in_X12 co_X12_isThere) rfl rfl (by decide +kernel) ⟨Nat.le_of_ble_eq_true rfl, Nat.le_of_ble_eq_true rfl⟩ hN hK hP hS 0 RW_0 rfl rfl rfl hl.1 rfl (Nat.le_of_ble_eq_true rfl) dX12_taken_27 ⟨Nat.le_of_ble_eq_true rfl, Nat.le_of_ble_eq_true rfl⟩ (fun H locs hP hS => ?_)
        refine lv_if_eq (tgt := 36) hx hb dX12_taken_30 (by decide) (fun c52 => ?_) (fun c52 => ?_)
        · have h := if_t c52 h
          refine lv_aload_n hx hb dX12_taken_36 rfl (lv_at hl 0 rfl) ?_
          refine lv_iload hx hb dX12_taken_37 (lv_at hl 5 rfl) ?_
          refine ya_put (D := D) (ci := 12) (v := .int x24) (ty := .int) (C := RX12) (T := TX12) (N := 116) hx hb ht inX12 tyX12 tyX12_ok nmX12 hown hK hP (hDD _) hS 0 RW_0 rfl 50 (by decide) (ht (.fieldLink RX12 457 "CloneVolumesModel" "askBlock" "I") fl_X12_457) (fun _ h9 => h9) rfl (by decide +kernel) rfl rfl (by rw [mF_len]; decide) dX12_taken_39 (RW_f50 _) (fun H locs hP hS => ?_)
          obtain ⟨s53, hs53, h⟩ := st_e h
          rw [hs53] at hP
          refine lv_aload_n hx hb dX12_taken_42 rfl (lv_at hl 0 rfl) ?_
          refine lv_iload_n hx hb dX12_taken_43 rfl (lv_at hl 2 rfl) ?_
          refine ya_put (D := D) (ci := 12) (v := .int x21) (ty := .int) (C := RX12) (T := TX12) (N := 116) hx hb ht inX12 tyX12 tyX12_ok nmX12 hown hK hP (hDD _) hS 0 RW_0 rfl 51 (by decide) (ht (.fieldLink RX12 499 "CloneVolumesModel" "askFrom" "I") fl_X12_499) (fun _ h9 => h9) rfl (by decide +kernel) rfl rfl (by rw [mF_len]; decide) dX12_taken_44 (RW_f51 _) (fun H locs hP hS => ?_)
          obtain ⟨s54, hs54, h⟩ := st_e h
          rw [hs54] at hP
          refine lv_aload_n hx hb dX12_taken_47 rfl (lv_at hl 0 rfl) ?_
          refine lv_iload_n hx hb dX12_taken_48 rfl (lv_at hl 1 rfl) ?_
          refine ya_put (D := D) (ci := 12) (v := .int x20) (ty := .int) (C := RX12) (T := TX12) (N := 116) hx hb ht inX12 tyX12 tyX12_ok nmX12 hown hK hP (hDD _) hS 0 RW_0 rfl 52 (by decide) (ht (.fieldLink RX12 463 "CloneVolumesModel" "askLevel" "I") fl_X12_463) (fun _ h9 => h9) rfl (by decide +kernel) rfl rfl (by rw [mF_len]; decide) dX12_taken_49 (RW_f52 _) (fun H locs hP hS => ?_)
          obtain ⟨s55, hs55, h⟩ := st_e h
          rw [hs55] at hP
          refine lv_aload_n hx hb dX12_taken_52 rfl (lv_at hl 0 rfl) ?_
          refine lv_iconst (v := 0) hx hb dX12_taken_53 (by decide) ?_
          obtain ⟨r57, hc56, h⟩ := bn_e h
          refine ycV (As := [.int 0]) (rest := []) (C := RX12) (n := 1) ⟨hx, hb, hml, hown, ht⟩ (k_x12_isCoded l D a 0 _ _ hc56) (zgV ml_X12_472 im_X12_isCoded se_X12_isCoded in_X12 co_X12_isCoded) rfl rfl (by decide +kernel) ⟨Nat.le_of_ble_eq_true rfl, Nat.le_of_ble_eq_true rfl⟩ hN hK hP hS 0 RW_0 rfl rfl rfl hl.1 rfl (Nat.le_of_ble_eq_true rfl) dX12_taken_54 ⟨Nat.le_of_ble_eq_true rfl, Nat.le_of_ble_eq_true rfl⟩ (fun H locs hP hS => ?_)
          refine lv_if_eq (tgt := 68) hx hb dX12_taken_57 (by decide) (fun c58 => ?_) (fun c58 => ?_)
          · have h := if_t c58 h
            refine lv_iload hx hb dX12_taken_68 (lv_at hl 5 rfl) ?_
            refine lv_i2l (v := Int32.toInt64 x24) hx hb dX12_taken_70 rfl ?_
            exact J71 (x20, x21, x22, z23, x24, Int32.toInt64 x24, s55) _ _ _ ⟨hP, hS, lv_sub hl [0, 1, 2, 3, 4, 5] rfl, h⟩
          · have h := if_f c58 h
            refine lv_aload_n hx hb dX12_taken_60 rfl (lv_at hl 0 rfl) ?_
            refine lv_iconst (v := 0) hx hb dX12_taken_61 (by decide) ?_
            obtain ⟨⟨rl61, s60⟩, hc59, h⟩ := bn_e h
            refine ywVl (r0 := rl61) (As := [.int 0]) (rest := []) (C := RX12) (n := 1) (ws' := RW D a s60) ⟨hx, hb, hml, hown, ht⟩ (k_x12_codesTell l D a 0 _ _ _ hc59) (zgV ml_X12_475 im_X12_codesTell se_X12_codesTell in_X12 co_X12_codesTell) rfl rfl (by decide +kernel) ⟨Nat.le_of_ble_eq_true rfl, Nat.le_of_ble_eq_true rfl⟩ hN hK hP (hDD _) hS hA 0 RW_0 rfl rfl rfl hl.1 rfl (Nat.le_of_ble_eq_true rfl) dX12_taken_62 ⟨Nat.le_of_ble_eq_true rfl, Nat.le_of_ble_eq_true rfl⟩ (fun H locs hP hS => ?_)
            refine lv_goto (tgt := 71) hx hb dX12_taken_65 (by decide) ?_
            exact J71 (x20, x21, x22, z23, x24, rl61, s60) _ _ _ ⟨hP, hS, lv_sub hl [0, 1, 2, 3, 4, 5] rfl, h⟩
        · have h := if_f c52 h
          refine lv_goto (tgt := 96) hx hb dX12_taken_33 (by decide) ?_
          exact J96 (x20, x21, x22, z23, x24, s25) _ _ _ ⟨hP, hS, lv_sub hl [0, 1, 2, 3, 4, 5] rfl, h⟩
  refine lv_iconst (v := (-1)) hx hb dX12_taken_0 (by decide) ?_
  refine lv_istore_n (lv' := [(3, .int (-1)), (0, .ref (a 200)), (1, .int p0), (2, .int p1)]) hx hb dX12_taken_1 rfl hl (by decide) rfl (fun ls hl => ?_)
  refine lv_lconst (v := 0) hx hb dX12_taken_2 (by decide) ?_
  refine lv_lstore (lv' := [(4, .long 0), (3, .int (-1)), (0, .ref (a 200)), (1, .int p0), (2, .int p1)]) hx hb dX12_taken_3 hl (by decide) rfl (fun ls hl => ?_)
  refine lv_iconst (v := 0) hx hb dX12_taken_5 (by decide) ?_
  refine lv_istore (lv' := [(6, .int 0), (4, .long 0), (3, .int (-1)), (0, .ref (a 200)), (1, .int p0), (2, .int p1)]) hx hb dX12_taken_6 hl (by decide) rfl (fun ls hl => ?_)
  exact J8 FU (p0, p1, (-1), 0, 0, s) _ _ _ ⟨hP, hS, lv_sub hl [3, 4, 5, 2, 1, 0] rfl, h⟩
def m_x12_owned_J117 (x1 : Int32) (x2 : Int32) (s3 : MS) : Option (Int32 × MS) :=
  bn (m_x12_falls x1 s3) (fun s5 => some (x2, s5))
def m_x12_owned_b91 (lr91 : Int32 → Int32 → Int32 → MS → Option (Int32 × MS)) (x6 : Int32) (x7 : Int32) (x8 : Int32) (s9 : MS) : Option (Int32 × MS) :=
  bn (m_x12_entriesOf x6 s9) (fun r11 => if r11 ≤ x8 then m_x12_owned_J117 x6 x7 s9 else bn (m_x12_valueAt x6 x8 s9) (fun r14 => bn (m_x12_counts r14 1 s9) (fun s16 => lr91 x6 x7 (x8 + 1) s16)))
def m_x12_owned_L91 (n : Nat) : Int32 → Int32 → Int32 → MS → Option (Int32 × MS) := lp (fun _ _ _ _ => none) (m_x12_owned_b91) n
def m_x12_owned_b41 (lr41 : Int32 → Int32 → Int32 → MS → Option (Int32 × MS)) (x17 : Int32) (x18 : Int32) (x19 : Int32) (s20 : MS) : Option (Int32 × MS) :=
  if 16 ≤ x19 then bn (m_x12_levelOf x17 s20) (fun r23 => if r23 ≤ 0 then m_x12_owned_J117 x17 x18 s20 else m_x12_owned_L91 FU x17 x18 0 s20) else rdI (gA s20 49) 906 ((17 + (16 * x17)) + x19) (fun y25 => inb 906 ((17 + (16 * x18)) + x19) (stn (sA s20 49 (upd (gA s20 49) (Int32.toNatClampNeg ((17 + (16 * x18)) + x19)) y25)) (fun s27 => lr41 x17 x18 (x19 + 1) s27)))
def m_x12_owned_L41 (n : Nat) : Int32 → Int32 → Int32 → MS → Option (Int32 × MS) := lp (fun _ _ _ _ => none) (m_x12_owned_b41) n
def m_x12_owned_J19 (x28 : Int32) (s29 : MS) : Option (Int32 × MS) :=
  bn (m_x12_levelOf x28 s29) (fun r31 => bn (m_x12_taken r31 x28 s29) (fun qr34 => if (gI qr34.2 55) = 0 then m_x12_owned_L41 FU x28 qr34.1 3 qr34.2 else some (x28, qr34.2)))
def m_x12_owned (p0 : Int32) (s : MS) : Option (Int32 × MS) :=
  bn (m_x12_isFresh p0 s) (fun r37 => if r37 = 0 then m_x12_owned_J19 p0 s else bn (m_x12_countOf p0 s) (fun r40 => if r40 = 1 then some (p0, s) else m_x12_owned_J19 p0 s))
set_option maxHeartbeats 4000000 in
set_option maxRecDepth 100000 in
theorem k_x12_owned (l : Launch) (D : va_G) (a : Nat → Nat) (p0 : Int32) (sz : Nat) (s : MS) (o : (Int32 × MS)) (h : m_x12_owned p0 s = some o) : yWi l yX12_owned cX12_owned 4 (some .int) { frames := 6, cells := 0, slots := 0, locals := 360 } D sz [.ref (a 200), .int p0] (RW D a s) (RW D a o.2) o.1 := by
  refine Met.ofW (cc := cX12_owned) (maxL := 4) (ret := (some .int)) (by decide) rfl ?_
  intro p e s₀ m args below meth c s₁ B hml hv
  obtain ⟨rfl, ⟨hsz, hP, hK, hD0⟩, hN⟩ := hv
  have hx := B.exec
  have hb := B.bytes
  have hr := B.returns
  have hts := atoms_spec (ws := wz yX12_owned cX12_owned 4 (some .int)) B.pre
  have ht : ∀ w ∈ lw_gd, w.before _ s₀ = true := fun w h => hts w (List.mem_cons_of_mem _ h)
  have hown : s₀.vm.findClass RX12 = some m.cls := findClass_of_methodNamed B.named
  have hlocks := B.notSynchronized
  subst hsz
  have hD := hD0.self (sz := s₀.heap.size)
  generalize hAe : va_A (RW D a s) s₀.heap.size = A at hD ⊢
  have hA : ∀ q : Nat, s₀.heap.size ≤ q → A q := fun q h => by rw [← hAe]; exact Or.inr h
  have hS : va_S A s₀.heap s₀.heap [] := va_S.rf
  have hDD : ∀ t : MS, va_D A (RW D a t) := fun t => RW_D t hD
  have hl := lv_entry ([.ref (a 200), .int p0]) (n := 4) (Nat.le_of_ble_eq_true rfl)
  rw [lg_entry_eq]
  generalize (lg_sl ([.ref (a 200), .int p0]) ++ List.replicate (4 - (lg_sl ([.ref (a 200), .int p0])).length) Slot.unset).toArray = ls at hl ⊢
  have hl : lv_has ls 4 [(0, .ref (a 200)), (1, .int p0)] := hl
  unfold m_x12_owned at h
  refine y_head (pcJ := 117) (σ := Int32 × Int32 × MS) (fun u H locs ls => va_P D vwCl (RW D a u.2.2) H ∧ va_S A s₀.heap H locs ∧ lv_has ls 4 [(0, .ref (a 200)), (1, .int u.1), (2, .int u.2.1)] ∧ m_x12_owned_J117 u.1 u.2.1 u.2.2 = some o) (fun u => []) (fun u H locs ls hI => ?_) (fun J117 => ?_)
  · obtain ⟨hP, hS, hl, h⟩ := hI
    obtain ⟨x1, x2, s3⟩ := u
    have hP : va_P D vwCl (RW D a s3) H := hP
    have hl : lv_has ls 4 [(0, .ref (a 200)), (1, .int x1), (2, .int x2)] := hl
    have h : m_x12_owned_J117 x1 x2 s3 = some o := h
    unfold m_x12_owned_J117 at h
    refine lv_aload_n hx hb dX12_owned_117 rfl (lv_at hl 0 rfl) ?_
    refine lv_iload_n hx hb dX12_owned_118 rfl (lv_at hl 1 rfl) ?_
    obtain ⟨s5, hc4, h⟩ := bn_e h
    refine ywVv (As := [.int x1]) (rest := []) (C := RX12) (n := 1) (ws' := RW D a s5) ⟨hx, hb, hml, hown, ht⟩ (k_x12_falls l D a x1 _ _ _ hc4) (zgV ml_X12_514 im_X12_falls se_X12_falls in_X12 co_X12_falls) rfl rfl (by decide +kernel) ⟨Nat.le_of_ble_eq_true rfl, Nat.le_of_ble_eq_true rfl⟩ hN hK hP (hDD _) hS hA 0 RW_0 rfl rfl rfl hl.1 rfl (Nat.le_of_ble_eq_true rfl) dX12_owned_119 ⟨Nat.le_of_ble_eq_true rfl, Nat.le_of_ble_eq_true rfl⟩ (fun H locs hP hS => ?_)
    refine lv_iload_n hx hb dX12_owned_122 rfl (lv_at hl 2 rfl) ?_
    obtain rfl := Option.some.inj h
    exact W.iret (v := x2) hx hb hr (fun t ht hW => ⟨⟨_, (), rfl, rfl, by rw [ht]; exact hP, va_K.moved hW.alike hK, hDD _⟩, hS.F ht⟩) hS.2.2 dX12_owned_123
  refine y_loop (pcJ := 91) (σ := Int32 × Int32 × Int32 × MS) (fun n u H locs ls => va_P D vwCl (RW D a u.2.2.2) H ∧ va_S A s₀.heap H locs ∧ lv_has ls 4 [(0, .ref (a 200)), (1, .int u.1), (2, .int u.2.1), (3, .int u.2.2.1)] ∧ m_x12_owned_L91 n u.1 u.2.1 u.2.2.1 u.2.2.2 = some o) (fun u => []) (fun u H locs ls hI => by obtain ⟨_, _, _, h⟩ := hI; cases h) (fun n91 ih91 u H locs ls hI => ?_) (fun J91 => ?_)
  · obtain ⟨hP, hS, hl, h⟩ := hI
    obtain ⟨x6, x7, x8, s9⟩ := u
    have hP : va_P D vwCl (RW D a s9) H := hP
    have hl : lv_has ls 4 [(0, .ref (a 200)), (1, .int x6), (2, .int x7), (3, .int x8)] := hl
    have h : m_x12_owned_b91 (m_x12_owned_L91 n91) x6 x7 x8 s9 = some o := h
    unfold m_x12_owned_b91 at h
    refine lv_iload_n hx hb dX12_owned_91 rfl (lv_at hl 3 rfl) ?_
    refine lv_aload_n hx hb dX12_owned_92 rfl (lv_at hl 0 rfl) ?_
    refine lv_iload_n hx hb dX12_owned_93 rfl (lv_at hl 1 rfl) ?_
    obtain ⟨r11, hc10, h⟩ := bn_e h
    refine ycV (As := [.int x6]) (rest := [.int x8]) (C := RX12) (n := 1) ⟨hx, hb, hml, hown, ht⟩ (k_x12_entriesOf l D a x6 _ _ hc10) (zgV ml_X12_466 im_X12_entriesOf se_X12_entriesOf in_X12 co_X12_entriesOf) rfl rfl (by decide +kernel) ⟨Nat.le_of_ble_eq_true rfl, Nat.le_of_ble_eq_true rfl⟩ hN hK hP hS 0 RW_0 rfl rfl rfl hl.1 rfl (Nat.le_of_ble_eq_true rfl) dX12_owned_94 ⟨Nat.le_of_ble_eq_true rfl, Nat.le_of_ble_eq_true rfl⟩ (fun H locs hP hS => ?_)
    refine lv_icmp_ge (tgt := 117) hx hb dX12_owned_97 (by decide) (fun c12 => ?_) (fun c12 => ?_)
    · have h := if_t c12 h
      exact J117 (x6, x7, s9) _ _ _ ⟨hP, hS, lv_sub hl [0, 1, 2] rfl, h⟩
    · have h := if_f c12 h
      refine lv_aload_n hx hb dX12_owned_100 rfl (lv_at hl 0 rfl) ?_
      refine lv_aload_n hx hb dX12_owned_101 rfl (lv_at hl 0 rfl) ?_
      refine lv_iload_n hx hb dX12_owned_102 rfl (lv_at hl 1 rfl) ?_
      refine lv_iload_n hx hb dX12_owned_103 rfl (lv_at hl 3 rfl) ?_
      obtain ⟨r14, hc13, h⟩ := bn_e h
      refine ycV (As := [.int x6, .int x8]) (rest := [.ref (a 200)]) (C := RX12) (n := 2) ⟨hx, hb, hml, hown, ht⟩ (k_x12_valueAt l D a x6 x8 _ _ hc13) (zgV ml_X12_505 im_X12_valueAt se_X12_valueAt in_X12 co_X12_valueAt) rfl rfl (by decide +kernel) ⟨Nat.le_of_ble_eq_true rfl, Nat.le_of_ble_eq_true rfl⟩ hN hK hP hS 0 RW_0 rfl rfl rfl hl.1 rfl (Nat.le_of_ble_eq_true rfl) dX12_owned_104 ⟨Nat.le_of_ble_eq_true rfl, Nat.le_of_ble_eq_true rfl⟩ (fun H locs hP hS => ?_)
      refine lv_iconst (v := 1) hx hb dX12_owned_107 (by decide) ?_
      obtain ⟨s16, hc15, h⟩ := bn_e h
      refine ywVv (As := [.int r14, .int 1]) (rest := []) (C := RX12) (n := 2) (ws' := RW D a s16) ⟨hx, hb, hml, hown, ht⟩ (k_x12_counts l D a r14 1 _ _ _ hc15) (zgV ml_X12_502 im_X12_counts se_X12_counts in_X12 co_X12_counts) rfl rfl (by decide +kernel) ⟨Nat.le_of_ble_eq_true rfl, Nat.le_of_ble_eq_true rfl⟩ hN hK hP (hDD _) hS hA 0 RW_0 rfl rfl rfl hl.1 rfl (Nat.le_of_ble_eq_true rfl) dX12_owned_108 ⟨Nat.le_of_ble_eq_true rfl, Nat.le_of_ble_eq_true rfl⟩ (fun H locs hP hS => ?_)
      refine lv_iinc (v := x8 + 1) (lv' := [(3, .int (x8 + 1)), (0, .ref (a 200)), (1, .int x6), (2, .int x7)]) hx hb dX12_owned_111 hl (k := 3) rfl rfl (by decide) rfl (fun ls hl => ?_)
      refine lv_goto (tgt := 91) hx hb dX12_owned_114 (by decide) ?_
      exact ih91 (x6, x7, x8 + 1, s16) _ _ _ ⟨hP, hS, lv_sub hl [1, 2, 3, 0] rfl, h⟩
  refine y_loop (pcJ := 41) (σ := Int32 × Int32 × Int32 × MS) (fun n u H locs ls => va_P D vwCl (RW D a u.2.2.2) H ∧ va_S A s₀.heap H locs ∧ lv_has ls 4 [(0, .ref (a 200)), (1, .int u.1), (2, .int u.2.1), (3, .int u.2.2.1)] ∧ m_x12_owned_L41 n u.1 u.2.1 u.2.2.1 u.2.2.2 = some o) (fun u => []) (fun u H locs ls hI => by obtain ⟨_, _, _, h⟩ := hI; cases h) (fun n41 ih41 u H locs ls hI => ?_) (fun J41 => ?_)
  · obtain ⟨hP, hS, hl, h⟩ := hI
    obtain ⟨x17, x18, x19, s20⟩ := u
    have hP : va_P D vwCl (RW D a s20) H := hP
    have hl : lv_has ls 4 [(0, .ref (a 200)), (1, .int x17), (2, .int x18), (3, .int x19)] := hl
    have h : m_x12_owned_b41 (m_x12_owned_L41 n41) x17 x18 x19 s20 = some o := h
    unfold m_x12_owned_b41 at h
    refine lv_iload_n hx hb dX12_owned_41 rfl (lv_at hl 3 rfl) ?_
    refine lv_bipush (v := 16) hx hb dX12_owned_42 (by decide) ?_
    refine lv_icmp_ge (tgt := 81) hx hb dX12_owned_44 (by decide) (fun c21 => ?_) (fun c21 => ?_)
    · have h := if_t c21 h
      refine lv_aload_n hx hb dX12_owned_81 rfl (lv_at hl 0 rfl) ?_
      refine lv_iload_n hx hb dX12_owned_82 rfl (lv_at hl 1 rfl) ?_
      obtain ⟨r23, hc22, h⟩ := bn_e h
      refine ycV (As := [.int x17]) (rest := []) (C := RX12) (n := 1) ⟨hx, hb, hml, hown, ht⟩ (k_x12_levelOf l D a x17 _ _ hc22) (zgV ml_X12_460 im_X12_levelOf se_X12_levelOf in_X12 co_X12_levelOf) rfl rfl (by decide +kernel) ⟨Nat.le_of_ble_eq_true rfl, Nat.le_of_ble_eq_true rfl⟩ hN hK hP hS 0 RW_0 rfl rfl rfl hl.1 rfl (Nat.le_of_ble_eq_true rfl) dX12_owned_83 ⟨Nat.le_of_ble_eq_true rfl, Nat.le_of_ble_eq_true rfl⟩ (fun H locs hP hS => ?_)
      refine lv_if_le (tgt := 117) hx hb dX12_owned_86 (by decide) (fun c24 => ?_) (fun c24 => ?_)
      · have h := if_t c24 h
        exact J117 (x17, x18, s20) _ _ _ ⟨hP, hS, lv_sub hl [0, 1, 2] rfl, h⟩
      · have h := if_f c24 h
        refine lv_iconst (v := 0) hx hb dX12_owned_89 (by decide) ?_
        refine lv_istore_n (lv' := [(3, .int 0), (0, .ref (a 200)), (1, .int x17), (2, .int x18)]) hx hb dX12_owned_90 rfl hl (by decide) rfl (fun ls hl => ?_)
        exact J91 FU (x17, x18, 0, s20) _ _ _ ⟨hP, hS, lv_sub hl [1, 2, 3, 0] rfl, h⟩
    · have h := if_f c21 h
      refine lv_aload_n hx hb dX12_owned_47 rfl (lv_at hl 0 rfl) ?_
      refine va_get (D := D) (ci := 12) (v := .ref (a 49)) (C := RX12) (T := TX12) (N := 116) hx hb ht inX12 hown hK hP 0 RW_0 rfl 49 (by decide) (ht (.fieldLink RX12 121 "CloneVolumesModel" "now" "[I") fl_X12_121) (fun _ h9 => h9) mF_49 dX12_owned_48 ?_
      refine lv_bipush (v := 17) hx hb dX12_owned_51 (by decide) ?_
      refine lv_bipush (v := 16) hx hb dX12_owned_53 (by decide) ?_
      refine lv_iload_n hx hb dX12_owned_55 rfl (lv_at hl 2 rfl) ?_
      refine lv_imul hx hb dX12_owned_56 ?_
      refine lv_iadd hx hb dX12_owned_57 ?_
      refine lv_iload_n hx hb dX12_owned_58 rfl (lv_at hl 3 rfl) ?_
      refine lv_iadd hx hb dX12_owned_59 ?_
      refine lv_aload_n hx hb dX12_owned_60 rfl (lv_at hl 0 rfl) ?_
      refine va_get (D := D) (ci := 12) (v := .ref (a 49)) (C := RX12) (T := TX12) (N := 116) hx hb ht inX12 hown hK hP 0 RW_0 rfl 49 (by decide) (ht (.fieldLink RX12 121 "CloneVolumesModel" "now" "[I") fl_X12_121) (fun _ h9 => h9) mF_49 dX12_owned_61 ?_
      refine lv_bipush (v := 17) hx hb dX12_owned_64 (by decide) ?_
      refine lv_bipush (v := 16) hx hb dX12_owned_66 (by decide) ?_
      refine lv_iload_n hx hb dX12_owned_68 rfl (lv_at hl 1 rfl) ?_
      refine lv_imul hx hb dX12_owned_69 ?_
      refine lv_iadd hx hb dX12_owned_70 ?_
      refine lv_iload_n hx hb dX12_owned_71 rfl (lv_at hl 3 rfl) ?_
      refine lv_iadd hx hb dX12_owned_72 ?_
      obtain ⟨y25, ey25, iy25, h⟩ := rdI_e h
      refine ya_iald hx hb hK hP 36 0 RW_36 rfl ey25 iy25 dX12_owned_73 ?_
      obtain ⟨hi26, h⟩ := inb_e h
      refine ya_iast hx hb hK hP (hDD _) hS 36 0 RW_36 rfl hi26 dX12_owned_74 (RW_w36 _) (fun H locs hP hS => ?_)
      obtain ⟨s27, hs27, h⟩ := st_e h
      rw [hs27] at hP
      refine lv_iinc (v := x19 + 1) (lv' := [(3, .int (x19 + 1)), (0, .ref (a 200)), (1, .int x17), (2, .int x18)]) hx hb dX12_owned_75 hl (k := 3) rfl rfl (by decide) rfl (fun ls hl => ?_)
      refine lv_goto (tgt := 41) hx hb dX12_owned_78 (by decide) ?_
      exact ih41 (x17, x18, x19 + 1, s27) _ _ _ ⟨hP, hS, lv_sub hl [1, 2, 3, 0] rfl, h⟩
  refine y_head (pcJ := 19) (σ := Int32 × MS) (fun u H locs ls => va_P D vwCl (RW D a u.2) H ∧ va_S A s₀.heap H locs ∧ lv_has ls 4 [(0, .ref (a 200)), (1, .int u.1)] ∧ m_x12_owned_J19 u.1 u.2 = some o) (fun u => []) (fun u H locs ls hI => ?_) (fun J19 => ?_)
  · obtain ⟨hP, hS, hl, h⟩ := hI
    obtain ⟨x28, s29⟩ := u
    have hP : va_P D vwCl (RW D a s29) H := hP
    have hl : lv_has ls 4 [(0, .ref (a 200)), (1, .int x28)] := hl
    have h : m_x12_owned_J19 x28 s29 = some o := h
    unfold m_x12_owned_J19 at h
    refine lv_aload_n hx hb dX12_owned_19 rfl (lv_at hl 0 rfl) ?_
    refine lv_aload_n hx hb dX12_owned_20 rfl (lv_at hl 0 rfl) ?_
    refine lv_iload_n hx hb dX12_owned_21 rfl (lv_at hl 1 rfl) ?_
    obtain ⟨r31, hc30, h⟩ := bn_e h
    refine ycV (As := [.int x28]) (rest := [.ref (a 200)]) (C := RX12) (n := 1) ⟨hx, hb, hml, hown, ht⟩ (k_x12_levelOf l D a x28 _ _ hc30) (zgV ml_X12_460 im_X12_levelOf se_X12_levelOf in_X12 co_X12_levelOf) rfl rfl (by decide +kernel) ⟨Nat.le_of_ble_eq_true rfl, Nat.le_of_ble_eq_true rfl⟩ hN hK hP hS 0 RW_0 rfl rfl rfl hl.1 rfl (Nat.le_of_ble_eq_true rfl) dX12_owned_22 ⟨Nat.le_of_ble_eq_true rfl, Nat.le_of_ble_eq_true rfl⟩ (fun H locs hP hS => ?_)
    refine lv_iload_n hx hb dX12_owned_25 rfl (lv_at hl 1 rfl) ?_
    obtain ⟨⟨r34, s33⟩, hc32, h⟩ := bn_e h
    refine ywV (r0 := r34) (As := [.int r31, .int x28]) (rest := []) (C := RX12) (n := 2) (ws' := RW D a s33) ⟨hx, hb, hml, hown, ht⟩ (k_x12_taken l D a r31 x28 _ _ _ hc32) (zgV ml_X12_511 im_X12_taken se_X12_taken in_X12 co_X12_taken) rfl rfl (by decide +kernel) ⟨Nat.le_of_ble_eq_true rfl, Nat.le_of_ble_eq_true rfl⟩ hN hK hP (hDD _) hS hA 0 RW_0 rfl rfl rfl hl.1 rfl (Nat.le_of_ble_eq_true rfl) dX12_owned_26 ⟨Nat.le_of_ble_eq_true rfl, Nat.le_of_ble_eq_true rfl⟩ (fun H locs hP hS => ?_)
    refine lv_istore_n (lv' := [(2, .int r34), (0, .ref (a 200)), (1, .int x28)]) hx hb dX12_owned_29 rfl hl (by decide) rfl (fun ls hl => ?_)
    refine lv_aload_n hx hb dX12_owned_30 rfl (lv_at hl 1 rfl) ?_
    refine va_get (D := D) (ci := 12) (v := .int (gI s33 55)) (C := RX12) (T := TX12) (N := 116) hx hb ht inX12 hown hK hP 0 RW_0 rfl 55 (by decide) (ht (.fieldLink RX12 493 "CloneVolumesModel" "isFull" "Z") fl_X12_493) (fun _ h9 => h9) mF_55 dX12_owned_31 ?_
    refine lv_if_eq (tgt := 39) hx hb dX12_owned_34 (by decide) (fun c35 => ?_) (fun c35 => ?_)
    · have h := if_t c35 h
      refine lv_iconst (v := 3) hx hb dX12_owned_39 (by decide) ?_
      refine lv_istore_n (lv' := [(3, .int 3), (2, .int r34), (0, .ref (a 200)), (1, .int x28)]) hx hb dX12_owned_40 rfl hl (by decide) rfl (fun ls hl => ?_)
      exact J41 FU (x28, r34, 3, s33) _ _ _ ⟨hP, hS, lv_sub hl [2, 3, 1, 0] rfl, h⟩
    · have h := if_f c35 h
      refine lv_iload_n hx hb dX12_owned_37 rfl (lv_at hl 2 rfl) ?_
      obtain rfl := Option.some.inj h
      exact W.iret (v := x28) hx hb hr (fun t ht hW => ⟨⟨_, (), rfl, rfl, by rw [ht]; exact hP, va_K.moved hW.alike hK, hDD _⟩, hS.F ht⟩) hS.2.2 dX12_owned_38
  refine lv_aload_n hx hb dX12_owned_0 rfl (lv_at hl 0 rfl) ?_
  refine lv_iload_n hx hb dX12_owned_1 rfl (lv_at hl 1 rfl) ?_
  obtain ⟨r37, hc36, h⟩ := bn_e h
  refine ycV (As := [.int p0]) (rest := []) (C := RX12) (n := 1) ⟨hx, hb, hml, hown, ht⟩ (k_x12_isFresh l D a p0 _ _ hc36) (zgV ml_X12_508 im_X12_isFresh se_X12_isFresh in_X12 co_X12_isFresh) rfl rfl (by decide +kernel) ⟨Nat.le_of_ble_eq_true rfl, Nat.le_of_ble_eq_true rfl⟩ hN hK hP hS 0 RW_0 rfl rfl rfl hl.1 rfl (Nat.le_of_ble_eq_true rfl) dX12_owned_2 ⟨Nat.le_of_ble_eq_true rfl, Nat.le_of_ble_eq_true rfl⟩ (fun H locs hP hS => ?_)
  refine lv_if_eq (tgt := 19) hx hb dX12_owned_5 (by decide) (fun c38 => ?_) (fun c38 => ?_)
  · have h := if_t c38 h
    exact J19 (p0, s) _ _ _ ⟨hP, hS, lv_sub hl [0, 1] rfl, h⟩
  · have h := if_f c38 h
    refine lv_aload_n hx hb dX12_owned_8 rfl (lv_at hl 0 rfl) ?_
    refine lv_iload_n hx hb dX12_owned_9 rfl (lv_at hl 1 rfl) ?_
    obtain ⟨r40, hc39, h⟩ := bn_e h
    refine ycV (As := [.int p0]) (rest := []) (C := RX12) (n := 1) ⟨hx, hb, hml, hown, ht⟩ (k_x12_countOf l D a p0 _ _ hc39) (zgV ml_X12_432 im_X12_countOf se_X12_countOf in_X12 co_X12_countOf) rfl rfl (by decide +kernel) ⟨Nat.le_of_ble_eq_true rfl, Nat.le_of_ble_eq_true rfl⟩ hN hK hP hS 0 RW_0 rfl rfl rfl hl.1 rfl (Nat.le_of_ble_eq_true rfl) dX12_owned_10 ⟨Nat.le_of_ble_eq_true rfl, Nat.le_of_ble_eq_true rfl⟩ (fun H locs hP hS => ?_)
    refine lv_iconst (v := 1) hx hb dX12_owned_13 (by decide) ?_
    refine lv_icmp_ne (tgt := 19) hx hb dX12_owned_14 (by decide) (fun c41 => ?_) (fun c41 => ?_)
    · have h := if_f c41 h
      exact J19 (p0, s) _ _ _ ⟨hP, hS, lv_sub hl [0, 1] rfl, h⟩
    · have h := if_t c41 h
      refine lv_iload_n hx hb dX12_owned_17 rfl (lv_at hl 1 rfl) ?_
      obtain rfl := Option.some.inj h
      exact W.iret (v := p0) hx hb hr (fun t ht hW => ⟨⟨_, (), rfl, rfl, by rw [ht]; exact hP, va_K.moved hW.alike hK, hDD _⟩, hS.F ht⟩) hS.2.2 dX12_owned_18
def m_x12_removes_J182 (x1 : Int32) (x2 : Int32) (s3 : MS) : Option MS :=
  bn (m_x12_entriesOf x2 s3) (fun r5 => if r5 = 0 then bn (m_x12_counts x2 (-1) s3) (fun s10 => inb 906 x1 (stn (sA s10 49 (upd (gA s10 49) (Int32.toNatClampNeg x1) 254)) (fun s12 => some s12))) else bn (m_x12_lowers x1 s3) (fun s8 => some s8))
def m_x12_removes_b137 (lr137 : Int32 → Int32 → Int32 → MS → Option MS) (x13 : Int32) (x14 : Int32) (x15 : Int32) (s16 : MS) : Option MS :=
  bn (m_x12_entriesOf x14 s16) (fun r18 => if r18 = 0 then if x15 ≤ 0 then m_x12_removes_J182 x13 x14 s16 else bn (m_x12_counts x14 (-1) s16) (fun s22 => rdI (gA s22 57) 48 (x15 + (-1)) (fun y23 => rdI (gA s22 58) 48 (x15 + (-1)) (fun y24 => bn (m_x12_cutsEntry y23 y24 s22) (fun s26 => lr137 x13 y23 (x15 + (-1)) s26)))) else m_x12_removes_J182 x13 x14 s16)
def m_x12_removes_L137 (n : Nat) : Int32 → Int32 → Int32 → MS → Option MS := lp (fun _ _ _ _ => none) (m_x12_removes_b137) n
def m_x12_removes_J118 (x27 : Int32) (x28 : Int32) (x29 : Int32) (x30 : Int32) (s31 : MS) : Option MS :=
  if (gI s31 55) = 0 then bn (m_x12_placeIn x29 x28 s31) (fun r34 => bn (m_x12_cutsEntry x29 r34 s31) (fun s36 => m_x12_removes_L137 FU x27 x29 x30 s36)) else some s31
def m_x12_removes_J92 (lr29 : Int32 → Int32 → Int32 → Int32 → MS → Option MS) (x42 : Int32) (x43 : Int32) (x44 : Int32) (x45 : Int32) (x46 : Int32) (x47 : Int32) (s48 : MS) : Option MS :=
  inb 48 x45 (stn (sA s48 57 (upd (gA s48 57) (Int32.toNatClampNeg x45) x44)) (fun s50 => inb 48 x45 (stn (sA s50 58 (upd (gA s50 58) (Int32.toNatClampNeg x45) x46)) (fun s52 => lr29 x42 x43 x47 (x45 + 1) s52))))
def m_x12_removes_b29 (lr29 : Int32 → Int32 → Int32 → Int32 → MS → Option MS) (x37 : Int32) (x38 : Int32) (x39 : Int32) (x40 : Int32) (s41 : MS) : Option MS :=
  if (gI s41 55) = 0 then bn (m_x12_levelOf x39 s41) (fun r55 => if r55 ≤ 0 then m_x12_removes_J118 x37 x38 x39 x40 s41 else bn (m_x12_placeFor x39 x38 s41) (fun r58 => bn (m_x12_valueAt x39 r58 s41) (fun r60 => bn (m_x12_owned r60 s41) (fun qr63 => if qr63.1 = r60 then m_x12_removes_J92 lr29 x37 x38 x39 x40 r58 qr63.1 qr63.2 else bn (m_x12_keyAt x39 r58 qr63.2) (fun r66 => bn (m_x12_setsEntry x39 r58 r66 qr63.1 qr63.2) (fun s68 => m_x12_removes_J92 lr29 x37 x38 x39 x40 r58 qr63.1 s68)))))) else m_x12_removes_J118 x37 x38 x39 x40 s41
def m_x12_removes_L29 (n : Nat) : Int32 → Int32 → Int32 → Int32 → MS → Option MS := lp (fun _ _ _ _ _ => none) (m_x12_removes_b29) n
def m_x12_removes (p0 : Int32) (p1 : Int32) (s : MS) : Option MS :=
  rdI (gA s 49) 906 p0 (fun y69 => bn (m_x12_owned y69 s) (fun qr72 => if (gI qr72.2 55) = 0 then inb 906 p0 (stn (sA qr72.2 49 (upd (gA qr72.2 49) (Int32.toNatClampNeg p0) qr72.1)) (fun s75 => m_x12_removes_L29 FU p0 p1 qr72.1 0 s75)) else some qr72.2))
set_option maxHeartbeats 4000000 in
set_option maxRecDepth 100000 in
theorem k_x12_removes (l : Launch) (D : va_G) (a : Nat → Nat) (p0 : Int32) (p1 : Int32) (sz : Nat) (s : MS) (o : MS) (h : m_x12_removes p0 p1 s = some o) : yWv l yX12_removes cX12_removes 8 none { frames := 7, cells := 0, slots := 0, locals := 420 } D sz [.ref (a 200), .int p0, .int p1] (RW D a s) (RW D a o) := by
  refine Met.ofW (cc := cX12_removes) (maxL := 8) (ret := none) (by decide) rfl ?_
  intro p e s₀ m args below meth c s₁ B hml hv
  obtain ⟨rfl, ⟨hsz, hP, hK, hD0⟩, hN⟩ := hv
  have hx := B.exec
  have hb := B.bytes
  have hr := B.returns
  have hts := atoms_spec (ws := wz yX12_removes cX12_removes 8 none) B.pre
  have ht : ∀ w ∈ lw_gd, w.before _ s₀ = true := fun w h => hts w (List.mem_cons_of_mem _ h)
  have hown : s₀.vm.findClass RX12 = some m.cls := findClass_of_methodNamed B.named
  have hlocks := B.notSynchronized
  subst hsz
  have hD := hD0.self (sz := s₀.heap.size)
  generalize hAe : va_A (RW D a s) s₀.heap.size = A at hD ⊢
  have hA : ∀ q : Nat, s₀.heap.size ≤ q → A q := fun q h => by rw [← hAe]; exact Or.inr h
  have hS : va_S A s₀.heap s₀.heap [] := va_S.rf
  have hDD : ∀ t : MS, va_D A (RW D a t) := fun t => RW_D t hD
  have hl := lv_entry ([.ref (a 200), .int p0, .int p1]) (n := 8) (Nat.le_of_ble_eq_true rfl)
  rw [lg_entry_eq]
  generalize (lg_sl ([.ref (a 200), .int p0, .int p1]) ++ List.replicate (8 - (lg_sl ([.ref (a 200), .int p0, .int p1])).length) Slot.unset).toArray = ls at hl ⊢
  have hl : lv_has ls 8 [(0, .ref (a 200)), (1, .int p0), (2, .int p1)] := hl
  unfold m_x12_removes at h
  refine y_head (pcJ := 182) (σ := Int32 × Int32 × MS) (fun u H locs ls => va_P D vwCl (RW D a u.2.2) H ∧ va_S A s₀.heap H locs ∧ lv_has ls 8 [(0, .ref (a 200)), (1, .int u.1), (3, .int u.2.1)] ∧ m_x12_removes_J182 u.1 u.2.1 u.2.2 = some o) (fun u => []) (fun u H locs ls hI => ?_) (fun J182 => ?_)
  · obtain ⟨hP, hS, hl, h⟩ := hI
    obtain ⟨x1, x2, s3⟩ := u
    have hP : va_P D vwCl (RW D a s3) H := hP
    have hl : lv_has ls 8 [(0, .ref (a 200)), (1, .int x1), (3, .int x2)] := hl
    have h : m_x12_removes_J182 x1 x2 s3 = some o := h
    unfold m_x12_removes_J182 at h
    refine lv_aload_n hx hb dX12_removes_182 rfl (lv_at hl 0 rfl) ?_
    refine lv_iload_n hx hb dX12_removes_183 rfl (lv_at hl 2 rfl) ?_
    obtain ⟨r5, hc4, h⟩ := bn_e h
    refine ycV (As := [.int x2]) (rest := []) (C := RX12) (n := 1) ⟨hx, hb, hml, hown, ht⟩ (k_x12_entriesOf l D a x2 _ _ hc4) (zgV ml_X12_466 im_X12_entriesOf se_X12_entriesOf in_X12 co_X12_entriesOf) rfl rfl (by decide +kernel) ⟨Nat.le_of_ble_eq_true rfl, Nat.le_of_ble_eq_true rfl⟩ hN hK hP hS 0 RW_0 rfl rfl rfl hl.1 rfl (Nat.le_of_ble_eq_true rfl) dX12_removes_184 ⟨Nat.le_of_ble_eq_true rfl, Nat.le_of_ble_eq_true rfl⟩ (fun H locs hP hS => ?_)
    refine lv_if_ne (tgt := 206) hx hb dX12_removes_187 (by decide) (fun c6 => ?_) (fun c6 => ?_)
    · have h := if_f c6 h
      refine lv_aload_n hx hb dX12_removes_206 rfl (lv_at hl 0 rfl) ?_
      refine lv_iload_n hx hb dX12_removes_207 rfl (lv_at hl 1 rfl) ?_
      obtain ⟨s8, hc7, h⟩ := bn_e h
      refine ywVv (As := [.int x1]) (rest := []) (C := RX12) (n := 1) (ws' := RW D a s8) ⟨hx, hb, hml, hown, ht⟩ (k_x12_lowers l D a x1 _ _ _ hc7) (zgV ml_X12_556 im_X12_lowers se_X12_lowers in_X12 co_X12_lowers) rfl rfl (by decide +kernel) ⟨Nat.le_of_ble_eq_true rfl, Nat.le_of_ble_eq_true rfl⟩ hN hK hP (hDD _) hS hA 0 RW_0 rfl rfl rfl hl.1 rfl (Nat.le_of_ble_eq_true rfl) dX12_removes_208 ⟨Nat.le_of_ble_eq_true rfl, Nat.le_of_ble_eq_true rfl⟩ (fun H locs hP hS => ?_)
      obtain rfl := Option.some.inj h
      exact W.vret hx hb hr (fun t ht hW => ⟨⟨(), rfl, trivial, by rw [ht]; exact hP, va_K.moved hW.alike hK, hDD _⟩, hS.F ht⟩) hS.2.2 dX12_removes_211
    · have h := if_t c6 h
      refine lv_aload_n hx hb dX12_removes_190 rfl (lv_at hl 0 rfl) ?_
      refine lv_iload_n hx hb dX12_removes_191 rfl (lv_at hl 2 rfl) ?_
      refine lv_iconst (v := (-1)) hx hb dX12_removes_192 (by decide) ?_
      obtain ⟨s10, hc9, h⟩ := bn_e h
      refine ywVv (As := [.int x2, .int (-1)]) (rest := []) (C := RX12) (n := 2) (ws' := RW D a s10) ⟨hx, hb, hml, hown, ht⟩ (k_x12_counts l D a x2 (-1) _ _ _ hc9) (zgV ml_X12_502 im_X12_counts se_X12_counts in_X12 co_X12_counts) rfl rfl (by decide +kernel) ⟨Nat.le_of_ble_eq_true rfl, Nat.le_of_ble_eq_true rfl⟩ hN hK hP (hDD _) hS hA 0 RW_0 rfl rfl rfl hl.1 rfl (Nat.le_of_ble_eq_true rfl) dX12_removes_193 ⟨Nat.le_of_ble_eq_true rfl, Nat.le_of_ble_eq_true rfl⟩ (fun H locs hP hS => ?_)
      refine lv_aload_n hx hb dX12_removes_196 rfl (lv_at hl 0 rfl) ?_
      refine va_get (D := D) (ci := 12) (v := .ref (a 49)) (C := RX12) (T := TX12) (N := 116) hx hb ht inX12 hown hK hP 0 RW_0 rfl 49 (by decide) (ht (.fieldLink RX12 121 "CloneVolumesModel" "now" "[I") fl_X12_121) (fun _ h9 => h9) mF_49 dX12_removes_197 ?_
      refine lv_iload_n hx hb dX12_removes_200 rfl (lv_at hl 1 rfl) ?_
      refine lv_sipush (v := 254) hx hb dX12_removes_201 (by decide) ?_
      obtain ⟨hi11, h⟩ := inb_e h
      refine ya_iast hx hb hK hP (hDD _) hS 36 0 RW_36 rfl hi11 dX12_removes_204 (RW_w36 _) (fun H locs hP hS => ?_)
      obtain ⟨s12, hs12, h⟩ := st_e h
      rw [hs12] at hP
      obtain rfl := Option.some.inj h
      exact W.vret hx hb hr (fun t ht hW => ⟨⟨(), rfl, trivial, by rw [ht]; exact hP, va_K.moved hW.alike hK, hDD _⟩, hS.F ht⟩) hS.2.2 dX12_removes_205
  refine y_loop (pcJ := 137) (σ := Int32 × Int32 × Int32 × MS) (fun n u H locs ls => va_P D vwCl (RW D a u.2.2.2) H ∧ va_S A s₀.heap H locs ∧ lv_has ls 8 [(0, .ref (a 200)), (1, .int u.1), (3, .int u.2.1), (4, .int u.2.2.1)] ∧ m_x12_removes_L137 n u.1 u.2.1 u.2.2.1 u.2.2.2 = some o) (fun u => []) (fun u H locs ls hI => by obtain ⟨_, _, _, h⟩ := hI; cases h) (fun n137 ih137 u H locs ls hI => ?_) (fun J137 => ?_)
  · obtain ⟨hP, hS, hl, h⟩ := hI
    obtain ⟨x13, x14, x15, s16⟩ := u
    have hP : va_P D vwCl (RW D a s16) H := hP
    have hl : lv_has ls 8 [(0, .ref (a 200)), (1, .int x13), (3, .int x14), (4, .int x15)] := hl
    have h : m_x12_removes_b137 (m_x12_removes_L137 n137) x13 x14 x15 s16 = some o := h
    unfold m_x12_removes_b137 at h
    refine lv_aload_n hx hb dX12_removes_137 rfl (lv_at hl 0 rfl) ?_
    refine lv_iload_n hx hb dX12_removes_138 rfl (lv_at hl 2 rfl) ?_
    obtain ⟨r18, hc17, h⟩ := bn_e h
    refine ycV (As := [.int x14]) (rest := []) (C := RX12) (n := 1) ⟨hx, hb, hml, hown, ht⟩ (k_x12_entriesOf l D a x14 _ _ hc17) (zgV ml_X12_466 im_X12_entriesOf se_X12_entriesOf in_X12 co_X12_entriesOf) rfl rfl (by decide +kernel) ⟨Nat.le_of_ble_eq_true rfl, Nat.le_of_ble_eq_true rfl⟩ hN hK hP hS 0 RW_0 rfl rfl rfl hl.1 rfl (Nat.le_of_ble_eq_true rfl) dX12_removes_139 ⟨Nat.le_of_ble_eq_true rfl, Nat.le_of_ble_eq_true rfl⟩ (fun H locs hP hS => ?_)
    refine lv_if_ne (tgt := 182) hx hb dX12_removes_142 (by decide) (fun c19 => ?_) (fun c19 => ?_)
    · have h := if_f c19 h
      exact J182 (x13, x14, s16) _ _ _ ⟨hP, hS, lv_sub hl [0, 1, 2] rfl, h⟩
    · have h := if_t c19 h
      refine lv_iload hx hb dX12_removes_145 (lv_at hl 3 rfl) ?_
      refine lv_if_le (tgt := 182) hx hb dX12_removes_147 (by decide) (fun c20 => ?_) (fun c20 => ?_)
      · have h := if_t c20 h
        exact J182 (x13, x14, s16) _ _ _ ⟨hP, hS, lv_sub hl [0, 1, 2] rfl, h⟩
      · have h := if_f c20 h
        refine lv_aload_n hx hb dX12_removes_150 rfl (lv_at hl 0 rfl) ?_
        refine lv_iload_n hx hb dX12_removes_151 rfl (lv_at hl 2 rfl) ?_
        refine lv_iconst (v := (-1)) hx hb dX12_removes_152 (by decide) ?_
        obtain ⟨s22, hc21, h⟩ := bn_e h
        refine ywVv (As := [.int x14, .int (-1)]) (rest := []) (C := RX12) (n := 2) (ws' := RW D a s22) ⟨hx, hb, hml, hown, ht⟩ (k_x12_counts l D a x14 (-1) _ _ _ hc21) (zgV ml_X12_502 im_X12_counts se_X12_counts in_X12 co_X12_counts) rfl rfl (by decide +kernel) ⟨Nat.le_of_ble_eq_true rfl, Nat.le_of_ble_eq_true rfl⟩ hN hK hP (hDD _) hS hA 0 RW_0 rfl rfl rfl hl.1 rfl (Nat.le_of_ble_eq_true rfl) dX12_removes_153 ⟨Nat.le_of_ble_eq_true rfl, Nat.le_of_ble_eq_true rfl⟩ (fun H locs hP hS => ?_)
        refine lv_iinc (v := x15 + (-1)) (lv' := [(4, .int (x15 + (-1))), (0, .ref (a 200)), (1, .int x13), (3, .int x14)]) hx hb dX12_removes_156 hl (k := 3) rfl rfl (by decide) rfl (fun ls hl => ?_)
        refine lv_aload_n hx hb dX12_removes_159 rfl (lv_at hl 1 rfl) ?_
        refine va_get (D := D) (ci := 12) (v := .ref (a 57)) (C := RX12) (T := TX12) (N := 116) hx hb ht inX12 hown hK hP 0 RW_0 rfl 57 (by decide) (ht (.fieldLink RX12 131 "CloneVolumesModel" "wayBlocks" "[I") fl_X12_131) (fun _ h9 => h9) mF_57 dX12_removes_160 ?_
        refine lv_iload hx hb dX12_removes_163 (lv_at hl 0 rfl) ?_
        obtain ⟨y23, ey23, iy23, h⟩ := rdI_e h
        refine ya_iald hx hb hK hP 39 0 RW_39 rfl ey23 iy23 dX12_removes_165 ?_
        refine lv_istore_n (lv' := [(3, .int y23), (4, .int (x15 + (-1))), (0, .ref (a 200)), (1, .int x13)]) hx hb dX12_removes_166 rfl hl (by decide) rfl (fun ls hl => ?_)
        refine lv_aload_n hx hb dX12_removes_167 rfl (lv_at hl 2 rfl) ?_
        refine lv_iload_n hx hb dX12_removes_168 rfl (lv_at hl 0 rfl) ?_
        refine lv_aload_n hx hb dX12_removes_169 rfl (lv_at hl 2 rfl) ?_
        refine va_get (D := D) (ci := 12) (v := .ref (a 58)) (C := RX12) (T := TX12) (N := 116) hx hb ht inX12 hown hK hP 0 RW_0 rfl 58 (by decide) (ht (.fieldLink RX12 134 "CloneVolumesModel" "wayPlaces" "[I") fl_X12_134) (fun _ h9 => h9) mF_58 dX12_removes_170 ?_
        refine lv_iload hx hb dX12_removes_173 (lv_at hl 1 rfl) ?_
        obtain ⟨y24, ey24, iy24, h⟩ := rdI_e h
        refine ya_iald hx hb hK hP 40 0 RW_40 rfl ey24 iy24 dX12_removes_175 ?_
        obtain ⟨s26, hc25, h⟩ := bn_e h
        refine ywVv (As := [.int y23, .int y24]) (rest := []) (C := RX12) (n := 2) (ws' := RW D a s26) ⟨hx, hb, hml, hown, ht⟩ (k_x12_cutsEntry l D a y23 y24 _ _ _ hc25) (zgV ml_X12_553 im_X12_cutsEntry se_X12_cutsEntry in_X12 co_X12_cutsEntry) rfl rfl (by decide +kernel) ⟨Nat.le_of_ble_eq_true rfl, Nat.le_of_ble_eq_true rfl⟩ hN hK hP (hDD _) hS hA 0 RW_0 rfl rfl rfl hl.1 rfl (Nat.le_of_ble_eq_true rfl) dX12_removes_176 ⟨Nat.le_of_ble_eq_true rfl, Nat.le_of_ble_eq_true rfl⟩ (fun H locs hP hS => ?_)
        refine lv_goto (tgt := 137) hx hb dX12_removes_179 (by decide) ?_
        exact ih137 (x13, y23, x15 + (-1), s26) _ _ _ ⟨hP, hS, lv_sub hl [2, 3, 0, 1] rfl, h⟩
  refine y_head (pcJ := 118) (σ := Int32 × Int32 × Int32 × Int32 × MS) (fun u H locs ls => va_P D vwCl (RW D a u.2.2.2.2) H ∧ va_S A s₀.heap H locs ∧ lv_has ls 8 [(0, .ref (a 200)), (1, .int u.1), (2, .int u.2.1), (3, .int u.2.2.1), (4, .int u.2.2.2.1)] ∧ m_x12_removes_J118 u.1 u.2.1 u.2.2.1 u.2.2.2.1 u.2.2.2.2 = some o) (fun u => []) (fun u H locs ls hI => ?_) (fun J118 => ?_)
  · obtain ⟨hP, hS, hl, h⟩ := hI
    obtain ⟨x27, x28, x29, x30, s31⟩ := u
    have hP : va_P D vwCl (RW D a s31) H := hP
    have hl : lv_has ls 8 [(0, .ref (a 200)), (1, .int x27), (2, .int x28), (3, .int x29), (4, .int x30)] := hl
    have h : m_x12_removes_J118 x27 x28 x29 x30 s31 = some o := h
    unfold m_x12_removes_J118 at h
    refine lv_aload_n hx hb dX12_removes_118 rfl (lv_at hl 0 rfl) ?_
    refine va_get (D := D) (ci := 12) (v := .int (gI s31 55)) (C := RX12) (T := TX12) (N := 116) hx hb ht inX12 hown hK hP 0 RW_0 rfl 55 (by decide) (ht (.fieldLink RX12 493 "CloneVolumesModel" "isFull" "Z") fl_X12_493) (fun _ h9 => h9) mF_55 dX12_removes_119 ?_
    refine lv_if_eq (tgt := 126) hx hb dX12_removes_122 (by decide) (fun c32 => ?_) (fun c32 => ?_)
    · have h := if_t c32 h
      refine lv_aload_n hx hb dX12_removes_126 rfl (lv_at hl 0 rfl) ?_
      refine lv_iload_n hx hb dX12_removes_127 rfl (lv_at hl 3 rfl) ?_
      refine lv_aload_n hx hb dX12_removes_128 rfl (lv_at hl 0 rfl) ?_
      refine lv_iload_n hx hb dX12_removes_129 rfl (lv_at hl 3 rfl) ?_
      refine lv_iload_n hx hb dX12_removes_130 rfl (lv_at hl 2 rfl) ?_
      obtain ⟨r34, hc33, h⟩ := bn_e h
      refine ycV (As := [.int x29, .int x28]) (rest := [.int x29, .ref (a 200)]) (C := RX12) (n := 2) ⟨hx, hb, hml, hown, ht⟩ (k_x12_placeIn l D a x29 x28 _ _ hc33) (zgV ml_X12_550 im_X12_placeIn se_X12_placeIn in_X12 co_X12_placeIn) rfl rfl (by decide +kernel) ⟨Nat.le_of_ble_eq_true rfl, Nat.le_of_ble_eq_true rfl⟩ hN hK hP hS 0 RW_0 rfl rfl rfl hl.1 rfl (Nat.le_of_ble_eq_true rfl) dX12_removes_131 ⟨Nat.le_of_ble_eq_true rfl, Nat.le_of_ble_eq_true rfl⟩ (fun H locs hP hS => ?_)
      obtain ⟨s36, hc35, h⟩ := bn_e h
      refine ywVv (As := [.int x29, .int r34]) (rest := []) (C := RX12) (n := 2) (ws' := RW D a s36) ⟨hx, hb, hml, hown, ht⟩ (k_x12_cutsEntry l D a x29 r34 _ _ _ hc35) (zgV ml_X12_553 im_X12_cutsEntry se_X12_cutsEntry in_X12 co_X12_cutsEntry) rfl rfl (by decide +kernel) ⟨Nat.le_of_ble_eq_true rfl, Nat.le_of_ble_eq_true rfl⟩ hN hK hP (hDD _) hS hA 0 RW_0 rfl rfl rfl hl.1 rfl (Nat.le_of_ble_eq_true rfl) dX12_removes_134 ⟨Nat.le_of_ble_eq_true rfl, Nat.le_of_ble_eq_true rfl⟩ (fun H locs hP hS => ?_)
      exact J137 FU (x27, x29, x30, s36) _ _ _ ⟨hP, hS, lv_sub hl [0, 1, 3, 4] rfl, h⟩
    · have h := if_f c32 h
      obtain rfl := Option.some.inj h
      exact W.vret hx hb hr (fun t ht hW => ⟨⟨(), rfl, trivial, by rw [ht]; exact hP, va_K.moved hW.alike hK, hDD _⟩, hS.F ht⟩) hS.2.2 dX12_removes_125
  refine y_loop (pcJ := 29) (σ := Int32 × Int32 × Int32 × Int32 × MS) (fun n u H locs ls => va_P D vwCl (RW D a u.2.2.2.2) H ∧ va_S A s₀.heap H locs ∧ lv_has ls 8 [(0, .ref (a 200)), (1, .int u.1), (2, .int u.2.1), (3, .int u.2.2.1), (4, .int u.2.2.2.1)] ∧ m_x12_removes_L29 n u.1 u.2.1 u.2.2.1 u.2.2.2.1 u.2.2.2.2 = some o) (fun u => []) (fun u H locs ls hI => by obtain ⟨_, _, _, h⟩ := hI; cases h) (fun n29 ih29 u H locs ls hI => ?_) (fun J29 => ?_)
  · obtain ⟨hP, hS, hl, h⟩ := hI
    obtain ⟨x37, x38, x39, x40, s41⟩ := u
    have hP : va_P D vwCl (RW D a s41) H := hP
    have hl : lv_has ls 8 [(0, .ref (a 200)), (1, .int x37), (2, .int x38), (3, .int x39), (4, .int x40)] := hl
    have h : m_x12_removes_b29 (m_x12_removes_L29 n29) x37 x38 x39 x40 s41 = some o := h
    unfold m_x12_removes_b29 at h
    refine y_head (pcJ := 92) (σ := Int32 × Int32 × Int32 × Int32 × Int32 × Int32 × MS) (fun u H locs ls => va_P D vwCl (RW D a u.2.2.2.2.2.2) H ∧ va_S A s₀.heap H locs ∧ lv_has ls 8 [(0, .ref (a 200)), (1, .int u.1), (2, .int u.2.1), (3, .int u.2.2.1), (4, .int u.2.2.2.1), (5, .int u.2.2.2.2.1), (7, .int u.2.2.2.2.2.1)] ∧ m_x12_removes_J92 (m_x12_removes_L29 n29) u.1 u.2.1 u.2.2.1 u.2.2.2.1 u.2.2.2.2.1 u.2.2.2.2.2.1 u.2.2.2.2.2.2 = some o) (fun u => []) (fun u H locs ls hI => ?_) (fun J92 => ?_)
    · obtain ⟨hP, hS, hl, h⟩ := hI
      obtain ⟨x42, x43, x44, x45, x46, x47, s48⟩ := u
      have hP : va_P D vwCl (RW D a s48) H := hP
      have hl : lv_has ls 8 [(0, .ref (a 200)), (1, .int x42), (2, .int x43), (3, .int x44), (4, .int x45), (5, .int x46), (7, .int x47)] := hl
      have h : m_x12_removes_J92 (m_x12_removes_L29 n29) x42 x43 x44 x45 x46 x47 s48 = some o := h
      unfold m_x12_removes_J92 at h
      refine lv_aload_n hx hb dX12_removes_92 rfl (lv_at hl 0 rfl) ?_
      refine va_get (D := D) (ci := 12) (v := .ref (a 57)) (C := RX12) (T := TX12) (N := 116) hx hb ht inX12 hown hK hP 0 RW_0 rfl 57 (by decide) (ht (.fieldLink RX12 131 "CloneVolumesModel" "wayBlocks" "[I") fl_X12_131) (fun _ h9 => h9) mF_57 dX12_removes_93 ?_
      refine lv_iload hx hb dX12_removes_96 (lv_at hl 4 rfl) ?_
      refine lv_iload_n hx hb dX12_removes_98 rfl (lv_at hl 3 rfl) ?_
      obtain ⟨hi49, h⟩ := inb_e h
      refine ya_iast hx hb hK hP (hDD _) hS 39 0 RW_39 rfl hi49 dX12_removes_99 (RW_w39 _) (fun H locs hP hS => ?_)
      obtain ⟨s50, hs50, h⟩ := st_e h
      rw [hs50] at hP
      refine lv_aload_n hx hb dX12_removes_100 rfl (lv_at hl 0 rfl) ?_
      refine va_get (D := D) (ci := 12) (v := .ref (a 58)) (C := RX12) (T := TX12) (N := 116) hx hb ht inX12 hown hK hP 0 RW_0 rfl 58 (by decide) (ht (.fieldLink RX12 134 "CloneVolumesModel" "wayPlaces" "[I") fl_X12_134) (fun _ h9 => h9) mF_58 dX12_removes_101 ?_
      refine lv_iload hx hb dX12_removes_104 (lv_at hl 4 rfl) ?_
      refine lv_iload hx hb dX12_removes_106 (lv_at hl 5 rfl) ?_
      obtain ⟨hi51, h⟩ := inb_e h
      refine ya_iast hx hb hK hP (hDD _) hS 40 0 RW_40 rfl hi51 dX12_removes_108 (RW_w40 _) (fun H locs hP hS => ?_)
      obtain ⟨s52, hs52, h⟩ := st_e h
      rw [hs52] at hP
      refine lv_iinc (v := x45 + 1) (lv' := [(4, .int (x45 + 1)), (0, .ref (a 200)), (1, .int x42), (2, .int x43), (3, .int x44), (5, .int x46), (7, .int x47)]) hx hb dX12_removes_109 hl (k := 4) rfl rfl (by decide) rfl (fun ls hl => ?_)
      refine lv_iload hx hb dX12_removes_112 (lv_at hl 6 rfl) ?_
      refine lv_istore_n (lv' := [(3, .int x47), (4, .int (x45 + 1)), (0, .ref (a 200)), (1, .int x42), (2, .int x43), (5, .int x46), (7, .int x47)]) hx hb dX12_removes_114 rfl hl (by decide) rfl (fun ls hl => ?_)
      refine lv_goto (tgt := 29) hx hb dX12_removes_115 (by decide) ?_
      exact ih29 (x42, x43, x47, x45 + 1, s52) _ _ _ ⟨hP, hS, lv_sub hl [2, 3, 4, 0, 1] rfl, h⟩
    refine lv_aload_n hx hb dX12_removes_29 rfl (lv_at hl 0 rfl) ?_
    refine va_get (D := D) (ci := 12) (v := .int (gI s41 55)) (C := RX12) (T := TX12) (N := 116) hx hb ht inX12 hown hK hP 0 RW_0 rfl 55 (by decide) (ht (.fieldLink RX12 493 "CloneVolumesModel" "isFull" "Z") fl_X12_493) (fun _ h9 => h9) mF_55 dX12_removes_30 ?_
    refine lv_if_ne (tgt := 118) hx hb dX12_removes_33 (by decide) (fun c53 => ?_) (fun c53 => ?_)
    · have h := if_f c53 h
      exact J118 (x37, x38, x39, x40, s41) _ _ _ ⟨hP, hS, lv_sub hl [0, 1, 2, 3, 4] rfl, h⟩
    · have h := if_t c53 h
      refine lv_aload_n hx hb dX12_removes_36 rfl (lv_at hl 0 rfl) ?_
      refine lv_iload_n hx hb dX12_removes_37 rfl (lv_at hl 3 rfl) ?_
      obtain ⟨r55, hc54, h⟩ := bn_e h
      refine ycV (As := [.int x39]) (rest := []) (C := RX12) (n := 1) ⟨hx, hb, hml, hown, ht⟩ (k_x12_levelOf l D a x39 _ _ hc54) (zgV ml_X12_460 im_X12_levelOf se_X12_levelOf in_X12 co_X12_levelOf) rfl rfl (by decide +kernel) ⟨Nat.le_of_ble_eq_true rfl, Nat.le_of_ble_eq_true rfl⟩ hN hK hP hS 0 RW_0 rfl rfl rfl hl.1 rfl (Nat.le_of_ble_eq_true rfl) dX12_removes_38 ⟨Nat.le_of_ble_eq_true rfl, Nat.le_of_ble_eq_true rfl⟩ (fun H locs hP hS => ?_)
      refine lv_if_le (tgt := 118) hx hb dX12_removes_41 (by decide) (fun c56 => ?_) (fun c56 => ?_)
      · have h := if_t c56 h
        exact J118 (x37, x38, x39, x40, s41) _ _ _ ⟨hP, hS, lv_sub hl [0, 1, 2, 3, 4] rfl, h⟩
      · have h := if_f c56 h
        refine lv_aload_n hx hb dX12_removes_44 rfl (lv_at hl 0 rfl) ?_
        refine lv_iload_n hx hb dX12_removes_45 rfl (lv_at hl 3 rfl) ?_
        refine lv_iload_n hx hb dX12_removes_46 rfl (lv_at hl 2 rfl) ?_
        obtain ⟨r58, hc57, h⟩ := bn_e h
        refine ycV (As := [.int x39, .int x38]) (rest := []) (C := RX12) (n := 2) ⟨hx, hb, hml, hown, ht⟩ (k_x12_placeFor l D a x39 x38 _ _ hc57) (zgV ml_X12_543 im_X12_placeFor se_X12_placeFor in_X12 co_X12_placeFor) rfl rfl (by decide +kernel) ⟨Nat.le_of_ble_eq_true rfl, Nat.le_of_ble_eq_true rfl⟩ hN hK hP hS 0 RW_0 rfl rfl rfl hl.1 rfl (Nat.le_of_ble_eq_true rfl) dX12_removes_47 ⟨Nat.le_of_ble_eq_true rfl, Nat.le_of_ble_eq_true rfl⟩ (fun H locs hP hS => ?_)
        refine lv_istore (lv' := [(5, .int r58), (0, .ref (a 200)), (1, .int x37), (2, .int x38), (3, .int x39), (4, .int x40)]) hx hb dX12_removes_50 hl (by decide) rfl (fun ls hl => ?_)
        refine lv_aload_n hx hb dX12_removes_52 rfl (lv_at hl 1 rfl) ?_
        refine lv_iload_n hx hb dX12_removes_53 rfl (lv_at hl 4 rfl) ?_
        refine lv_iload hx hb dX12_removes_54 (lv_at hl 0 rfl) ?_
        obtain ⟨r60, hc59, h⟩ := bn_e h
        refine ycV (As := [.int x39, .int r58]) (rest := []) (C := RX12) (n := 2) ⟨hx, hb, hml, hown, ht⟩ (k_x12_valueAt l D a x39 r58 _ _ hc59) (zgV ml_X12_505 im_X12_valueAt se_X12_valueAt in_X12 co_X12_valueAt) rfl rfl (by decide +kernel) ⟨Nat.le_of_ble_eq_true rfl, Nat.le_of_ble_eq_true rfl⟩ hN hK hP hS 0 RW_0 rfl rfl rfl hl.1 rfl (Nat.le_of_ble_eq_true rfl) dX12_removes_56 ⟨Nat.le_of_ble_eq_true rfl, Nat.le_of_ble_eq_true rfl⟩ (fun H locs hP hS => ?_)
        refine lv_istore (lv' := [(6, .int r60), (5, .int r58), (0, .ref (a 200)), (1, .int x37), (2, .int x38), (3, .int x39), (4, .int x40)]) hx hb dX12_removes_59 hl (by decide) rfl (fun ls hl => ?_)
        refine lv_aload_n hx hb dX12_removes_61 rfl (lv_at hl 2 rfl) ?_
        refine lv_iload hx hb dX12_removes_62 (lv_at hl 0 rfl) ?_
        obtain ⟨⟨r63, s62⟩, hc61, h⟩ := bn_e h
        refine ywV (r0 := r63) (As := [.int r60]) (rest := []) (C := RX12) (n := 1) (ws' := RW D a s62) ⟨hx, hb, hml, hown, ht⟩ (k_x12_owned l D a r60 _ _ _ hc61) (zgV ml_X12_533 im_X12_owned se_X12_owned in_X12 co_X12_owned) rfl rfl (by decide +kernel) ⟨Nat.le_of_ble_eq_true rfl, Nat.le_of_ble_eq_true rfl⟩ hN hK hP (hDD _) hS hA 0 RW_0 rfl rfl rfl hl.1 rfl (Nat.le_of_ble_eq_true rfl) dX12_removes_64 ⟨Nat.le_of_ble_eq_true rfl, Nat.le_of_ble_eq_true rfl⟩ (fun H locs hP hS => ?_)
        refine lv_istore (lv' := [(7, .int r63), (6, .int r60), (5, .int r58), (0, .ref (a 200)), (1, .int x37), (2, .int x38), (3, .int x39), (4, .int x40)]) hx hb dX12_removes_67 hl (by decide) rfl (fun ls hl => ?_)
        refine lv_iload hx hb dX12_removes_69 (lv_at hl 0 rfl) ?_
        refine lv_iload hx hb dX12_removes_71 (lv_at hl 1 rfl) ?_
        refine lv_icmp_eq (tgt := 92) hx hb dX12_removes_73 (by decide) (fun c64 => ?_) (fun c64 => ?_)
        · have h := if_t c64 h
          exact J92 (x37, x38, x39, x40, r58, r63, s62) _ _ _ ⟨hP, hS, lv_sub hl [3, 4, 5, 6, 7, 2, 0] rfl, h⟩
        · have h := if_f c64 h
          refine lv_aload_n hx hb dX12_removes_76 rfl (lv_at hl 3 rfl) ?_
          refine lv_iload_n hx hb dX12_removes_77 rfl (lv_at hl 6 rfl) ?_
          refine lv_iload hx hb dX12_removes_78 (lv_at hl 2 rfl) ?_
          refine lv_aload_n hx hb dX12_removes_80 rfl (lv_at hl 3 rfl) ?_
          refine lv_iload_n hx hb dX12_removes_81 rfl (lv_at hl 6 rfl) ?_
          refine lv_iload hx hb dX12_removes_82 (lv_at hl 2 rfl) ?_
          obtain ⟨r66, hc65, h⟩ := bn_e h
          refine ycV (As := [.int x39, .int r58]) (rest := [.int r58, .int x39, .ref (a 200)]) (C := RX12) (n := 2) ⟨hx, hb, hml, hown, ht⟩ (k_x12_keyAt l D a x39 r58 _ _ hc65) (zgV ml_X12_517 im_X12_keyAt se_X12_keyAt in_X12 co_X12_keyAt) rfl rfl (by decide +kernel) ⟨Nat.le_of_ble_eq_true rfl, Nat.le_of_ble_eq_true rfl⟩ hN hK hP hS 0 RW_0 rfl rfl rfl hl.1 rfl (Nat.le_of_ble_eq_true rfl) dX12_removes_84 ⟨Nat.le_of_ble_eq_true rfl, Nat.le_of_ble_eq_true rfl⟩ (fun H locs hP hS => ?_)
          refine lv_iload hx hb dX12_removes_87 (lv_at hl 0 rfl) ?_
          obtain ⟨s68, hc67, h⟩ := bn_e h
          refine ywVv (As := [.int x39, .int r58, .int r66, .int r63]) (rest := []) (C := RX12) (n := 4) (ws' := RW D a s68) ⟨hx, hb, hml, hown, ht⟩ (k_x12_setsEntry l D a x39 r58 r66 r63 _ _ _ hc67) (zgV ml_X12_520 im_X12_setsEntry se_X12_setsEntry in_X12 co_X12_setsEntry) rfl rfl (by decide +kernel) ⟨Nat.le_of_ble_eq_true rfl, Nat.le_of_ble_eq_true rfl⟩ hN hK hP (hDD _) hS hA 0 RW_0 rfl rfl rfl hl.1 rfl (Nat.le_of_ble_eq_true rfl) dX12_removes_89 ⟨Nat.le_of_ble_eq_true rfl, Nat.le_of_ble_eq_true rfl⟩ (fun H locs hP hS => ?_)
          exact J92 (x37, x38, x39, x40, r58, r63, s68) _ _ _ ⟨hP, hS, lv_sub hl [3, 4, 5, 6, 7, 2, 0] rfl, h⟩
  refine lv_aload_n hx hb dX12_removes_0 rfl (lv_at hl 0 rfl) ?_
  refine lv_aload_n hx hb dX12_removes_1 rfl (lv_at hl 0 rfl) ?_
  refine va_get (D := D) (ci := 12) (v := .ref (a 49)) (C := RX12) (T := TX12) (N := 116) hx hb ht inX12 hown hK hP 0 RW_0 rfl 49 (by decide) (ht (.fieldLink RX12 121 "CloneVolumesModel" "now" "[I") fl_X12_121) (fun _ h9 => h9) mF_49 dX12_removes_2 ?_
  refine lv_iload_n hx hb dX12_removes_5 rfl (lv_at hl 1 rfl) ?_
  obtain ⟨y69, ey69, iy69, h⟩ := rdI_e h
  refine ya_iald hx hb hK hP 36 0 RW_36 rfl ey69 iy69 dX12_removes_6 ?_
  obtain ⟨⟨r72, s71⟩, hc70, h⟩ := bn_e h
  refine ywV (r0 := r72) (As := [.int y69]) (rest := []) (C := RX12) (n := 1) (ws' := RW D a s71) ⟨hx, hb, hml, hown, ht⟩ (k_x12_owned l D a y69 _ _ _ hc70) (zgV ml_X12_533 im_X12_owned se_X12_owned in_X12 co_X12_owned) rfl rfl (by decide +kernel) ⟨Nat.le_of_ble_eq_true rfl, Nat.le_of_ble_eq_true rfl⟩ hN hK hP (hDD _) hS hA 0 RW_0 rfl rfl rfl hl.1 rfl (Nat.le_of_ble_eq_true rfl) dX12_removes_7 ⟨Nat.le_of_ble_eq_true rfl, Nat.le_of_ble_eq_true rfl⟩ (fun H locs hP hS => ?_)
  refine lv_istore_n (lv' := [(3, .int r72), (0, .ref (a 200)), (1, .int p0), (2, .int p1)]) hx hb dX12_removes_10 rfl hl (by decide) rfl (fun ls hl => ?_)
  refine lv_aload_n hx hb dX12_removes_11 rfl (lv_at hl 1 rfl) ?_
  refine va_get (D := D) (ci := 12) (v := .int (gI s71 55)) (C := RX12) (T := TX12) (N := 116) hx hb ht inX12 hown hK hP 0 RW_0 rfl 55 (by decide) (ht (.fieldLink RX12 493 "CloneVolumesModel" "isFull" "Z") fl_X12_493) (fun _ h9 => h9) mF_55 dX12_removes_12 ?_
  refine lv_if_eq (tgt := 19) hx hb dX12_removes_15 (by decide) (fun c73 => ?_) (fun c73 => ?_)
  · have h := if_t c73 h
    refine lv_aload_n hx hb dX12_removes_19 rfl (lv_at hl 1 rfl) ?_
    refine va_get (D := D) (ci := 12) (v := .ref (a 49)) (C := RX12) (T := TX12) (N := 116) hx hb ht inX12 hown hK hP 0 RW_0 rfl 49 (by decide) (ht (.fieldLink RX12 121 "CloneVolumesModel" "now" "[I") fl_X12_121) (fun _ h9 => h9) mF_49 dX12_removes_20 ?_
    refine lv_iload_n hx hb dX12_removes_23 rfl (lv_at hl 2 rfl) ?_
    refine lv_iload_n hx hb dX12_removes_24 rfl (lv_at hl 0 rfl) ?_
    obtain ⟨hi74, h⟩ := inb_e h
    refine ya_iast hx hb hK hP (hDD _) hS 36 0 RW_36 rfl hi74 dX12_removes_25 (RW_w36 _) (fun H locs hP hS => ?_)
    obtain ⟨s75, hs75, h⟩ := st_e h
    rw [hs75] at hP
    refine lv_iconst (v := 0) hx hb dX12_removes_26 (by decide) ?_
    refine lv_istore (lv' := [(4, .int 0), (3, .int r72), (0, .ref (a 200)), (1, .int p0), (2, .int p1)]) hx hb dX12_removes_27 hl (by decide) rfl (fun ls hl => ?_)
    exact J29 FU (p0, p1, r72, 0, s75) _ _ _ ⟨hP, hS, lv_sub hl [2, 3, 4, 1, 0] rfl, h⟩
  · have h := if_f c73 h
    obtain rfl := Option.some.inj h
    exact W.vret hx hb hr (fun t ht hW => ⟨⟨(), rfl, trivial, by rw [ht]; exact hP, va_K.moved hW.alike hK, hDD _⟩, hS.F ht⟩) hS.2.2 dX12_removes_18
def m_x12_inserts_b7 (lr7 : Int32 → Int32 → Int32 → Int32 → Int32 → MS → Option MS) (x1 : Int32) (x2 : Int32) (x3 : Int32) (x4 : Int32) (x5 : Int32) (s6 : MS) : Option MS :=
  if x5 ≤ x2 then bn (m_x12_setsEntry x1 x2 x3 x4 s6) (fun s9 => rdI (gA s9 49) 906 ((17 + (16 * x1)) + 3) (fun y10 => inb 906 ((17 + (16 * x1)) + 3) (stn (sA s9 49 (upd (gA s9 49) (Int32.toNatClampNeg ((17 + (16 * x1)) + 3)) (y10 + 1))) (fun s12 => some s12)))) else bn (m_x12_keyAt x1 (x5 - 1) s6) (fun r14 => bn (m_x12_valueAt x1 (x5 - 1) s6) (fun r16 => bn (m_x12_setsEntry x1 x5 r14 r16 s6) (fun s18 => lr7 x1 x2 x3 x4 (x5 + (-1)) s18)))
def m_x12_inserts_L7 (n : Nat) : Int32 → Int32 → Int32 → Int32 → Int32 → MS → Option MS := lp (fun _ _ _ _ _ _ => none) (m_x12_inserts_b7) n
def m_x12_inserts (p0 : Int32) (p1 : Int32) (p2 : Int32) (p3 : Int32) (s : MS) : Option MS :=
  bn (m_x12_entriesOf p0 s) (fun r20 => m_x12_inserts_L7 FU p0 p1 p2 p3 r20 s)
set_option maxHeartbeats 4000000 in
set_option maxRecDepth 100000 in
theorem k_x12_inserts (l : Launch) (D : va_G) (a : Nat → Nat) (p0 : Int32) (p1 : Int32) (p2 : Int32) (p3 : Int32) (sz : Nat) (s : MS) (o : MS) (h : m_x12_inserts p0 p1 p2 p3 s = some o) : yWv l yX12_inserts cX12_inserts 6 none { frames := 1, cells := 0, slots := 0, locals := 60 } D sz [.ref (a 200), .int p0, .int p1, .int p2, .int p3] (RW D a s) (RW D a o) := by
  refine Met.ofW (cc := cX12_inserts) (maxL := 6) (ret := none) (by decide) rfl ?_
  intro p e s₀ m args below meth c s₁ B hml hv
  obtain ⟨rfl, ⟨hsz, hP, hK, hD0⟩, hN⟩ := hv
  have hx := B.exec
  have hb := B.bytes
  have hr := B.returns
  have hts := atoms_spec (ws := wz yX12_inserts cX12_inserts 6 none) B.pre
  have ht : ∀ w ∈ lw_gd, w.before _ s₀ = true := fun w h => hts w (List.mem_cons_of_mem _ h)
  have hown : s₀.vm.findClass RX12 = some m.cls := findClass_of_methodNamed B.named
  have hlocks := B.notSynchronized
  subst hsz
  have hD := hD0.self (sz := s₀.heap.size)
  generalize hAe : va_A (RW D a s) s₀.heap.size = A at hD ⊢
  have hA : ∀ q : Nat, s₀.heap.size ≤ q → A q := fun q h => by rw [← hAe]; exact Or.inr h
  have hS : va_S A s₀.heap s₀.heap [] := va_S.rf
  have hDD : ∀ t : MS, va_D A (RW D a t) := fun t => RW_D t hD
  have hl := lv_entry ([.ref (a 200), .int p0, .int p1, .int p2, .int p3]) (n := 6) (Nat.le_of_ble_eq_true rfl)
  rw [lg_entry_eq]
  generalize (lg_sl ([.ref (a 200), .int p0, .int p1, .int p2, .int p3]) ++ List.replicate (6 - (lg_sl ([.ref (a 200), .int p0, .int p1, .int p2, .int p3])).length) Slot.unset).toArray = ls at hl ⊢
  have hl : lv_has ls 6 [(0, .ref (a 200)), (1, .int p0), (2, .int p1), (3, .int p2), (4, .int p3)] := hl
  unfold m_x12_inserts at h
  refine y_loop (pcJ := 7) (σ := Int32 × Int32 × Int32 × Int32 × Int32 × MS) (fun n u H locs ls => va_P D vwCl (RW D a u.2.2.2.2.2) H ∧ va_S A s₀.heap H locs ∧ lv_has ls 6 [(0, .ref (a 200)), (1, .int u.1), (2, .int u.2.1), (3, .int u.2.2.1), (4, .int u.2.2.2.1), (5, .int u.2.2.2.2.1)] ∧ m_x12_inserts_L7 n u.1 u.2.1 u.2.2.1 u.2.2.2.1 u.2.2.2.2.1 u.2.2.2.2.2 = some o) (fun u => []) (fun u H locs ls hI => by obtain ⟨_, _, _, h⟩ := hI; cases h) (fun n7 ih7 u H locs ls hI => ?_) (fun J7 => ?_)
  · obtain ⟨hP, hS, hl, h⟩ := hI
    obtain ⟨x1, x2, x3, x4, x5, s6⟩ := u
    have hP : va_P D vwCl (RW D a s6) H := hP
    have hl : lv_has ls 6 [(0, .ref (a 200)), (1, .int x1), (2, .int x2), (3, .int x3), (4, .int x4), (5, .int x5)] := hl
    have h : m_x12_inserts_b7 (m_x12_inserts_L7 n7) x1 x2 x3 x4 x5 s6 = some o := h
    unfold m_x12_inserts_b7 at h
    refine lv_iload hx hb dX12_inserts_7 (lv_at hl 5 rfl) ?_
    refine lv_iload_n hx hb dX12_inserts_9 rfl (lv_at hl 2 rfl) ?_
    refine lv_icmp_le (tgt := 44) hx hb dX12_inserts_10 (by decide) (fun c7 => ?_) (fun c7 => ?_)
    · have h := if_t c7 h
      refine lv_aload_n hx hb dX12_inserts_44 rfl (lv_at hl 0 rfl) ?_
      refine lv_iload_n hx hb dX12_inserts_45 rfl (lv_at hl 1 rfl) ?_
      refine lv_iload_n hx hb dX12_inserts_46 rfl (lv_at hl 2 rfl) ?_
      refine lv_iload_n hx hb dX12_inserts_47 rfl (lv_at hl 3 rfl) ?_
      refine lv_iload hx hb dX12_inserts_48 (lv_at hl 4 rfl) ?_
      obtain ⟨s9, hc8, h⟩ := bn_e h
      refine ywVv (As := [.int x1, .int x2, .int x3, .int x4]) (rest := []) (C := RX12) (n := 4) (ws' := RW D a s9) ⟨hx, hb, hml, hown, ht⟩ (k_x12_setsEntry l D a x1 x2 x3 x4 _ _ _ hc8) (zgV ml_X12_520 im_X12_setsEntry se_X12_setsEntry in_X12 co_X12_setsEntry) rfl rfl (by decide +kernel) ⟨Nat.le_of_ble_eq_true rfl, Nat.le_of_ble_eq_true rfl⟩ hN hK hP (hDD _) hS hA 0 RW_0 rfl rfl rfl hl.1 rfl (Nat.le_of_ble_eq_true rfl) dX12_inserts_50 ⟨Nat.le_of_ble_eq_true rfl, Nat.le_of_ble_eq_true rfl⟩ (fun H locs hP hS => ?_)
      refine lv_aload_n hx hb dX12_inserts_53 rfl (lv_at hl 0 rfl) ?_
      refine va_get (D := D) (ci := 12) (v := .ref (a 49)) (C := RX12) (T := TX12) (N := 116) hx hb ht inX12 hown hK hP 0 RW_0 rfl 49 (by decide) (ht (.fieldLink RX12 121 "CloneVolumesModel" "now" "[I") fl_X12_121) (fun _ h9 => h9) mF_49 dX12_inserts_54 ?_
      refine lv_bipush (v := 17) hx hb dX12_inserts_57 (by decide) ?_
      refine lv_bipush (v := 16) hx hb dX12_inserts_59 (by decide) ?_
      refine lv_iload_n hx hb dX12_inserts_61 rfl (lv_at hl 1 rfl) ?_
      refine lv_imul hx hb dX12_inserts_62 ?_
      refine lv_iadd hx hb dX12_inserts_63 ?_
      refine lv_iconst (v := 3) hx hb dX12_inserts_64 (by decide) ?_
      refine lv_iadd hx hb dX12_inserts_65 ?_
      refine lv_dup2_11 hx hb dX12_inserts_66 rfl rfl ?_
      obtain ⟨y10, ey10, iy10, h⟩ := rdI_e h
      refine ya_iald hx hb hK hP 36 0 RW_36 rfl ey10 iy10 dX12_inserts_67 ?_
      refine lv_iconst (v := 1) hx hb dX12_inserts_68 (by decide) ?_
      refine lv_iadd hx hb dX12_inserts_69 ?_
      obtain ⟨hi11, h⟩ := inb_e h
      refine ya_iast hx hb hK hP (hDD _) hS 36 0 RW_36 rfl hi11 dX12_inserts_70 (RW_w36 _) (fun H locs hP hS => ?_)
      obtain ⟨s12, hs12, h⟩ := st_e h
      rw [hs12] at hP
      obtain rfl := Option.some.inj h
      exact W.vret hx hb hr (fun t ht hW => ⟨⟨(), rfl, trivial, by rw [ht]; exact hP, va_K.moved hW.alike hK, hDD _⟩, hS.F ht⟩) hS.2.2 dX12_inserts_71
    · have h := if_f c7 h
      refine lv_aload_n hx hb dX12_inserts_13 rfl (lv_at hl 0 rfl) ?_
      refine lv_iload_n hx hb dX12_inserts_14 rfl (lv_at hl 1 rfl) ?_
      refine lv_iload hx hb dX12_inserts_15 (lv_at hl 5 rfl) ?_
      refine lv_aload_n hx hb dX12_inserts_17 rfl (lv_at hl 0 rfl) ?_
      refine lv_iload_n hx hb dX12_inserts_18 rfl (lv_at hl 1 rfl) ?_
      refine lv_iload hx hb dX12_inserts_19 (lv_at hl 5 rfl) ?_
      refine lv_iconst (v := 1) hx hb dX12_inserts_21 (by decide) ?_
      refine lv_isub hx hb dX12_inserts_22 ?_
      obtain ⟨r14, hc13, h⟩ := bn_e h
      refine ycV (As := [.int x1, .int (x5 - 1)]) (rest := [.int x5, .int x1, .ref (a 200)]) (C := RX12) (n := 2) ⟨hx, hb, hml, hown, ht⟩ (k_x12_keyAt l D a x1 (x5 - 1) _ _ hc13) (zgV ml_X12_517 im_X12_keyAt se_X12_keyAt in_X12 co_X12_keyAt) rfl rfl (by decide +kernel) ⟨Nat.le_of_ble_eq_true rfl, Nat.le_of_ble_eq_true rfl⟩ hN hK hP hS 0 RW_0 rfl rfl rfl hl.1 rfl (Nat.le_of_ble_eq_true rfl) dX12_inserts_23 ⟨Nat.le_of_ble_eq_true rfl, Nat.le_of_ble_eq_true rfl⟩ (fun H locs hP hS => ?_)
      refine lv_aload_n hx hb dX12_inserts_26 rfl (lv_at hl 0 rfl) ?_
      refine lv_iload_n hx hb dX12_inserts_27 rfl (lv_at hl 1 rfl) ?_
      refine lv_iload hx hb dX12_inserts_28 (lv_at hl 5 rfl) ?_
      refine lv_iconst (v := 1) hx hb dX12_inserts_30 (by decide) ?_
      refine lv_isub hx hb dX12_inserts_31 ?_
      obtain ⟨r16, hc15, h⟩ := bn_e h
      refine ycV (As := [.int x1, .int (x5 - 1)]) (rest := [.int r14, .int x5, .int x1, .ref (a 200)]) (C := RX12) (n := 2) ⟨hx, hb, hml, hown, ht⟩ (k_x12_valueAt l D a x1 (x5 - 1) _ _ hc15) (zgV ml_X12_505 im_X12_valueAt se_X12_valueAt in_X12 co_X12_valueAt) rfl rfl (by decide +kernel) ⟨Nat.le_of_ble_eq_true rfl, Nat.le_of_ble_eq_true rfl⟩ hN hK hP hS 0 RW_0 rfl rfl rfl hl.1 rfl (Nat.le_of_ble_eq_true rfl) dX12_inserts_32 ⟨Nat.le_of_ble_eq_true rfl, Nat.le_of_ble_eq_true rfl⟩ (fun H locs hP hS => ?_)
      obtain ⟨s18, hc17, h⟩ := bn_e h
      refine ywVv (As := [.int x1, .int x5, .int r14, .int r16]) (rest := []) (C := RX12) (n := 4) (ws' := RW D a s18) ⟨hx, hb, hml, hown, ht⟩ (k_x12_setsEntry l D a x1 x5 r14 r16 _ _ _ hc17) (zgV ml_X12_520 im_X12_setsEntry se_X12_setsEntry in_X12 co_X12_setsEntry) rfl rfl (by decide +kernel) ⟨Nat.le_of_ble_eq_true rfl, Nat.le_of_ble_eq_true rfl⟩ hN hK hP (hDD _) hS hA 0 RW_0 rfl rfl rfl hl.1 rfl (Nat.le_of_ble_eq_true rfl) dX12_inserts_35 ⟨Nat.le_of_ble_eq_true rfl, Nat.le_of_ble_eq_true rfl⟩ (fun H locs hP hS => ?_)
      refine lv_iinc (v := x5 + (-1)) (lv' := [(5, .int (x5 + (-1))), (0, .ref (a 200)), (1, .int x1), (2, .int x2), (3, .int x3), (4, .int x4)]) hx hb dX12_inserts_38 hl (k := 5) rfl rfl (by decide) rfl (fun ls hl => ?_)
      refine lv_goto (tgt := 7) hx hb dX12_inserts_41 (by decide) ?_
      exact ih7 (x1, x2, x3, x4, x5 + (-1), s18) _ _ _ ⟨hP, hS, lv_sub hl [1, 2, 3, 4, 5, 0] rfl, h⟩
  refine lv_aload_n hx hb dX12_inserts_0 rfl (lv_at hl 0 rfl) ?_
  refine lv_iload_n hx hb dX12_inserts_1 rfl (lv_at hl 1 rfl) ?_
  obtain ⟨r20, hc19, h⟩ := bn_e h
  refine ycV (As := [.int p0]) (rest := []) (C := RX12) (n := 1) ⟨hx, hb, hml, hown, ht⟩ (k_x12_entriesOf l D a p0 _ _ hc19) (zgV ml_X12_466 im_X12_entriesOf se_X12_entriesOf in_X12 co_X12_entriesOf) rfl rfl (by decide +kernel) ⟨Nat.le_of_ble_eq_true rfl, Nat.le_of_ble_eq_true rfl⟩ hN hK hP hS 0 RW_0 rfl rfl rfl hl.1 rfl (Nat.le_of_ble_eq_true rfl) dX12_inserts_2 ⟨Nat.le_of_ble_eq_true rfl, Nat.le_of_ble_eq_true rfl⟩ (fun H locs hP hS => ?_)
  refine lv_istore (lv' := [(5, .int r20), (0, .ref (a 200)), (1, .int p0), (2, .int p1), (3, .int p2), (4, .int p3)]) hx hb dX12_inserts_5 hl (by decide) rfl (fun ls hl => ?_)
  exact J7 FU (p0, p1, p2, p3, r20, s) _ _ _ ⟨hP, hS, lv_sub hl [1, 2, 3, 4, 5, 0] rfl, h⟩
