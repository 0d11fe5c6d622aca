theorem co_X12_blockMany : Cond.code yX12_blockMany cX12_blockMany 1 (some .int) ∈ lw_gd := zm (lw_g_9 (List.mem_of_getElem? (i := 16) (by decide +kernel))) rfl
theorem co_X12_codesTell : Cond.code yX12_codesTell cX12_codesTell 4 (some .long) ∈ lw_gd := zm (lw_g_9 (List.mem_of_getElem? (i := 40) (by decide +kernel))) rfl
theorem co_X12_cutsEntry : Cond.code yX12_cutsEntry cX12_cutsEntry 4 none ∈ lw_gd := zm (lw_g_9 (List.mem_of_getElem? (i := 108) (by decide +kernel))) rfl
theorem co_X12_falls : Cond.code yX12_falls cX12_falls 5 none ∈ lw_gd := zm (lw_g_9 (List.mem_of_getElem? (i := 80) (by decide +kernel))) rfl
theorem co_X12_isCoded : Cond.code yX12_isCoded cX12_isCoded 2 (some .boolean) ∈ lw_gd := zm (lw_g_9 (List.mem_of_getElem? (i := 36) (by decide +kernel))) rfl
theorem co_X12_isFresh : Cond.code yX12_isFresh cX12_isFresh 2 (some .boolean) ∈ lw_gd := zm (lw_g_9 (List.mem_of_getElem? (i := 52) (by decide +kernel))) rfl
theorem co_X12_isThere : Cond.code yX12_isThere cX12_isThere 2 (some .boolean) ∈ lw_gd := zm (lw_g_9 (List.mem_of_getElem? (i := 20) (by decide +kernel))) rfl
theorem co_X12_lowers : Cond.code yX12_lowers cX12_lowers 4 none ∈ lw_gd := zm (lw_g_9 (List.mem_of_getElem? (i := 112) (by decide +kernel))) rfl
theorem co_X12_owned : Cond.code yX12_owned cX12_owned 4 (some .int) ∈ lw_gd := zm (lw_g_9 (List.mem_of_getElem? (i := 76) (by decide +kernel))) rfl
theorem co_X12_placeFor : Cond.code yX12_placeFor cX12_placeFor 4 (some .int) ∈ lw_gd := zm (lw_g_8 (List.mem_of_getElem? (i := 228) (by decide +kernel))) rfl
theorem co_X12_placeIn : Cond.code yX12_placeIn cX12_placeIn 4 (some .int) ∈ lw_gd := zm (lw_g_9 (List.mem_of_getElem? (i := 4) (by decide +kernel))) rfl
theorem co_X12_qJoins : Cond.code yX12_qJoins cX12_qJoins 6 none ∈ lw_gd := zm (lw_g_9 (List.mem_of_getElem? (i := 56) (by decide +kernel))) rfl
theorem co_X12_qPartOf : Cond.code yX12_qPartOf cX12_qPartOf 3 (some .long) ∈ lw_gd := zm (lw_g_9 (List.mem_of_getElem? (i := 48) (by decide +kernel))) rfl
theorem co_X12_taken : Cond.code yX12_taken cX12_taken 9 (some .int) ∈ lw_gd := zm (lw_g_9 (List.mem_of_getElem? (i := 12) (by decide +kernel))) rfl
theorem fl_X12_457 : Cond.fieldLink RX12 457 "CloneVolumesModel" "askBlock" "I" ∈ lw_gd := zm (lw_g_6 (List.mem_of_getElem? (i := 191) (by decide +kernel))) rfl
theorem fl_X12_463 : Cond.fieldLink RX12 463 "CloneVolumesModel" "askLevel" "I" ∈ lw_gd := zm (lw_g_6 (List.mem_of_getElem? (i := 193) (by decide +kernel))) rfl
theorem fl_X12_469 : Cond.fieldLink RX12 469 "CloneVolumesModel" "askEntries" "I" ∈ lw_gd := zm (lw_g_6 (List.mem_of_getElem? (i := 194) (by decide +kernel))) rfl
theorem fl_X12_493 : Cond.fieldLink RX12 493 "CloneVolumesModel" "isFull" "Z" ∈ lw_gd := zm (lw_g_6 (List.mem_of_getElem? (i := 196) (by decide +kernel))) rfl
theorem fl_X12_499 : Cond.fieldLink RX12 499 "CloneVolumesModel" "askFrom" "I" ∈ lw_gd := zm (lw_g_6 (List.mem_of_getElem? (i := 192) (by decide +kernel))) rfl
theorem im_X12_blockMany : Cond.instanceMethod yX12_blockMany ∈ lw_gd := zm (lw_g_9 (List.mem_of_getElem? (i := 15) (by decide +kernel))) rfl
theorem im_X12_codesTell : Cond.instanceMethod yX12_codesTell ∈ lw_gd := zm (lw_g_9 (List.mem_of_getElem? (i := 39) (by decide +kernel))) rfl
theorem im_X12_cutsEntry : Cond.instanceMethod yX12_cutsEntry ∈ lw_gd := zm (lw_g_9 (List.mem_of_getElem? (i := 107) (by decide +kernel))) rfl
theorem im_X12_falls : Cond.instanceMethod yX12_falls ∈ lw_gd := zm (lw_g_9 (List.mem_of_getElem? (i := 79) (by decide +kernel))) rfl
theorem im_X12_isCoded : Cond.instanceMethod yX12_isCoded ∈ lw_gd := zm (lw_g_9 (List.mem_of_getElem? (i := 35) (by decide +kernel))) rfl
theorem im_X12_isFresh : Cond.instanceMethod yX12_isFresh ∈ lw_gd := zm (lw_g_9 (List.mem_of_getElem? (i := 51) (by decide +kernel))) rfl
theorem im_X12_isThere : Cond.instanceMethod yX12_isThere ∈ lw_gd := zm (lw_g_9 (List.mem_of_getElem? (i := 19) (by decide +kernel))) rfl
theorem im_X12_lowers : Cond.instanceMethod yX12_lowers ∈ lw_gd := zm (lw_g_9 (List.mem_of_getElem? (i := 111) (by decide +kernel))) rfl
theorem im_X12_owned : Cond.instanceMethod yX12_owned ∈ lw_gd := zm (lw_g_9 (List.mem_of_getElem? (i := 75) (by decide +kernel))) rfl
theorem im_X12_placeFor : Cond.instanceMethod yX12_placeFor ∈ lw_gd := zm (lw_g_8 (List.mem_of_getElem? (i := 227) (by decide +kernel))) rfl
theorem im_X12_placeIn : Cond.instanceMethod yX12_placeIn ∈ lw_gd := zm (lw_g_9 (List.mem_of_getElem? (i := 3) (by decide +kernel))) rfl
theorem im_X12_qJoins : Cond.instanceMethod yX12_qJoins ∈ lw_gd := zm (lw_g_9 (List.mem_of_getElem? (i := 55) (by decide +kernel))) rfl
theorem im_X12_qPartOf : Cond.instanceMethod yX12_qPartOf ∈ lw_gd := zm (lw_g_9 (List.mem_of_getElem? (i := 47) (by decide +kernel))) rfl
theorem im_X12_taken : Cond.instanceMethod yX12_taken ∈ lw_gd := zm (lw_g_9 (List.mem_of_getElem? (i := 11) (by decide +kernel))) rfl
theorem ml_X12_429 : Cond.methodLink RX12 429 yX12_blockMany ∈ lw_gd := zm (lw_g_9 (List.mem_of_getElem? (i := 13) (by decide +kernel))) rfl
theorem ml_X12_450 : Cond.methodLink RX12 450 yX12_qPartOf ∈ lw_gd := zm (lw_g_9 (List.mem_of_getElem? (i := 45) (by decide +kernel))) rfl
theorem ml_X12_454 : Cond.methodLink RX12 454 yX12_qJoins ∈ lw_gd := zm (lw_g_9 (List.mem_of_getElem? (i := 53) (by decide +kernel))) rfl
theorem ml_X12_472 : Cond.methodLink RX12 472 yX12_isCoded ∈ lw_gd := zm (lw_g_9 (List.mem_of_getElem? (i := 33) (by decide +kernel))) rfl
theorem ml_X12_475 : Cond.methodLink RX12 475 yX12_codesTell ∈ lw_gd := zm (lw_g_9 (List.mem_of_getElem? (i := 37) (by decide +kernel))) rfl
theorem ml_X12_496 : Cond.methodLink RX12 496 yX12_isThere ∈ lw_gd := zm (lw_g_9 (List.mem_of_getElem? (i := 17) (by decide +kernel))) rfl
theorem ml_X12_508 : Cond.methodLink RX12 508 yX12_isFresh ∈ lw_gd := zm (lw_g_9 (List.mem_of_getElem? (i := 49) (by decide +kernel))) rfl
theorem ml_X12_511 : Cond.methodLink RX12 511 yX12_taken ∈ lw_gd := zm (lw_g_9 (List.mem_of_getElem? (i := 9) (by decide +kernel))) rfl
theorem ml_X12_514 : Cond.methodLink RX12 514 yX12_falls ∈ lw_gd := zm (lw_g_9 (List.mem_of_getElem? (i := 77) (by decide +kernel))) rfl
theorem ml_X12_533 : Cond.methodLink RX12 533 yX12_owned ∈ lw_gd := zm (lw_g_9 (List.mem_of_getElem? (i := 73) (by decide +kernel))) rfl
theorem ml_X12_543 : Cond.methodLink RX12 543 yX12_placeFor ∈ lw_gd := zm (lw_g_8 (List.mem_of_getElem? (i := 225) (by decide +kernel))) rfl
theorem ml_X12_550 : Cond.methodLink RX12 550 yX12_placeIn ∈ lw_gd := zm (lw_g_9 (List.mem_of_getElem? (i := 1) (by decide +kernel))) rfl
theorem ml_X12_553 : Cond.methodLink RX12 553 yX12_cutsEntry ∈ lw_gd := zm (lw_g_9 (List.mem_of_getElem? (i := 105) (by decide +kernel))) rfl
theorem ml_X12_556 : Cond.methodLink RX12 556 yX12_lowers ∈ lw_gd := zm (lw_g_9 (List.mem_of_getElem? (i := 109) (by decide +kernel))) rfl
theorem se_X12_blockMany : Cond.selects RX12 yX12_blockMany yX12_blockMany ∈ lw_gd := zm (List.mem_of_getElem? (i := 123) (by decide +kernel)) rfl
theorem se_X12_codesTell : Cond.selects RX12 yX12_codesTell yX12_codesTell ∈ lw_gd := zm (List.mem_of_getElem? (i := 129) (by decide +kernel)) rfl
theorem se_X12_cutsEntry : Cond.selects RX12 yX12_cutsEntry yX12_cutsEntry ∈ lw_gd := zm (List.mem_of_getElem? (i := 144) (by decide +kernel)) rfl
theorem se_X12_falls : Cond.selects RX12 yX12_falls yX12_falls ∈ lw_gd := zm (List.mem_of_getElem? (i := 137) (by decide +kernel)) rfl
theorem se_X12_isCoded : Cond.selects RX12 yX12_isCoded yX12_isCoded ∈ lw_gd := zm (List.mem_of_getElem? (i := 128) (by decide +kernel)) rfl
theorem se_X12_isFresh : Cond.selects RX12 yX12_isFresh yX12_isFresh ∈ lw_gd := zm (List.mem_of_getElem? (i := 132) (by decide +kernel)) rfl
theorem se_X12_isThere : Cond.selects RX12 yX12_isThere yX12_isThere ∈ lw_gd := zm (List.mem_of_getElem? (i := 124) (by decide +kernel)) rfl
theorem se_X12_lowers : Cond.selects RX12 yX12_lowers yX12_lowers ∈ lw_gd := zm (List.mem_of_getElem? (i := 145) (by decide +kernel)) rfl
theorem se_X12_owned : Cond.selects RX12 yX12_owned yX12_owned ∈ lw_gd := zm (List.mem_of_getElem? (i := 136) (by decide +kernel)) rfl
theorem se_X12_placeFor : Cond.selects RX12 yX12_placeFor yX12_placeFor ∈ lw_gd := zm (List.mem_of_getElem? (i := 116) (by decide +kernel)) rfl
theorem se_X12_placeIn : Cond.selects RX12 yX12_placeIn yX12_placeIn ∈ lw_gd := zm (List.mem_of_getElem? (i := 120) (by decide +kernel)) rfl
theorem se_X12_qJoins : Cond.selects RX12 yX12_qJoins yX12_qJoins ∈ lw_gd := zm (List.mem_of_getElem? (i := 133) (by decide +kernel)) rfl
theorem se_X12_qPartOf : Cond.selects RX12 yX12_qPartOf yX12_qPartOf ∈ lw_gd := zm (List.mem_of_getElem? (i := 131) (by decide +kernel)) rfl
theorem se_X12_taken : Cond.selects RX12 yX12_taken yX12_taken ∈ lw_gd := zm (List.mem_of_getElem? (i := 122) (by decide +kernel)) rfl
theorem eX12_codesTell_0 : decode cX12_codesTell 0 = .ok (.aload_n 0, 1) ∧ decode cX12_codesTell 1 = .ok (.iload_n 1, 1) ∧ decode cX12_codesTell 2 = .ok (.putfield 324, 3) ∧ decode cX12_codesTell 5 = .ok (.aload_n 0, 1) ∧ decode cX12_codesTell 6 = .ok (.iconst 0, 1) ∧ decode cX12_codesTell 7 = .ok (.putfield 443, 3) ∧ decode cX12_codesTell 10 = .ok (.aload_n 0, 1) ∧ decode cX12_codesTell 11 = .ok (.getfield 112, 3) := by decide +kernel
theorem eX12_codesTell_14 : decode cX12_codesTell 14 = .ok (.iconst 3, 1) ∧ decode cX12_codesTell 15 = .ok (.iload_n 1, 1) ∧ decode cX12_codesTell 16 = .ok (.iadd, 1) ∧ decode cX12_codesTell 17 = .ok (.iaload, 1) ∧ decode cX12_codesTell 18 = .ok (.istore_n 2, 1) ∧ decode cX12_codesTell 19 = .ok (.iload_n 2, 1) ∧ decode cX12_codesTell 20 = .ok (.aload_n 0, 1) ∧ decode cX12_codesTell 21 = .ok (.getfield 115, 3) := by decide +kernel
theorem eX12_codesTell_24 : decode cX12_codesTell 24 = .ok (.iconst 3, 1) ∧ decode cX12_codesTell 25 = .ok (.iload_n 1, 1) ∧ decode cX12_codesTell 26 = .ok (.iadd, 1) ∧ decode cX12_codesTell 27 = .ok (.iaload, 1) ∧ decode cX12_codesTell 28 = .ok (.if_icmp .ge 114, 3) ∧ decode cX12_codesTell 31 = .ok (.aload_n 0, 1) ∧ decode cX12_codesTell 32 = .ok (.getfield 118, 3) ∧ decode cX12_codesTell 35 = .ok (.sipush 1600, 3) := by decide +kernel
theorem eX12_codesTell_38 : decode cX12_codesTell 38 = .ok (.iload_n 2, 1) ∧ decode cX12_codesTell 39 = .ok (.iadd, 1) ∧ decode cX12_codesTell 40 = .ok (.iaload, 1) ∧ decode cX12_codesTell 41 = .ok (.istore_n 3, 1) ∧ decode cX12_codesTell 42 = .ok (.iload_n 3, 1) ∧ decode cX12_codesTell 43 = .ok (.sipush 1000, 3) ∧ decode cX12_codesTell 46 = .ok (.if_icmp .lt 16, 3) ∧ decode cX12_codesTell 49 = .ok (.aload_n 0, 1) := by decide +kernel
theorem eX12_codesTell_50 : decode cX12_codesTell 50 = .ok (.iload_n 3, 1) ∧ decode cX12_codesTell 51 = .ok (.sipush 1000, 3) ∧ decode cX12_codesTell 54 = .ok (.isub, 1) ∧ decode cX12_codesTell 55 = .ok (.i2l, 1) ∧ decode cX12_codesTell 56 = .ok (.invokevirtual 446, 3) ∧ decode cX12_codesTell 59 = .ok (.goto 77, 3) ∧ decode cX12_codesTell 62 = .ok (.iload_n 3, 1) ∧ decode cX12_codesTell 63 = .ok (.bipush 40, 2) := by decide +kernel
theorem eX12_codesTell_65 : decode cX12_codesTell 65 = .ok (.if_icmp .lt 19, 3) ∧ decode cX12_codesTell 68 = .ok (.aload_n 0, 1) ∧ decode cX12_codesTell 69 = .ok (.aload_n 0, 1) ∧ decode cX12_codesTell 70 = .ok (.iload_n 3, 1) ∧ decode cX12_codesTell 71 = .ok (.bipush 40, 2) ∧ decode cX12_codesTell 73 = .ok (.isub, 1) ∧ decode cX12_codesTell 74 = .ok (.iconst 0, 1) ∧ decode cX12_codesTell 75 = .ok (.invokevirtual 450, 3) := by decide +kernel
theorem eX12_codesTell_78 : decode cX12_codesTell 78 = .ok (.invokevirtual 446, 3) ∧ decode cX12_codesTell 81 = .ok (.goto 55, 3) ∧ decode cX12_codesTell 84 = .ok (.iload_n 3, 1) ∧ decode cX12_codesTell 85 = .ok (.bipush 13, 2) ∧ decode cX12_codesTell 87 = .ok (.if_icmp .ne 11, 3) ∧ decode cX12_codesTell 90 = .ok (.aload_n 0, 1) ∧ decode cX12_codesTell 91 = .ok (.lconst 1, 1) ∧ decode cX12_codesTell 92 = .ok (.invokevirtual 446, 3) := by decide +kernel
theorem eX12_codesTell_95 : decode cX12_codesTell 95 = .ok (.goto 41, 3) ∧ decode cX12_codesTell 98 = .ok (.iload_n 3, 1) ∧ decode cX12_codesTell 99 = .ok (.bipush 12, 2) ∧ decode cX12_codesTell 101 = .ok (.if_icmp .ne 30, 3) ∧ decode cX12_codesTell 104 = .ok (.aload_n 0, 1) ∧ decode cX12_codesTell 105 = .ok (.getfield 249, 3) ∧ decode cX12_codesTell 108 = .ok (.aload_n 0, 1) ∧ decode cX12_codesTell 109 = .ok (.getfield 443, 3) := by decide +kernel
theorem eX12_codesTell_112 : decode cX12_codesTell 112 = .ok (.iconst 1, 1) ∧ decode cX12_codesTell 113 = .ok (.isub, 1) ∧ decode cX12_codesTell 114 = .ok (.lconst 1, 1) ∧ decode cX12_codesTell 115 = .ok (.aload_n 0, 1) ∧ decode cX12_codesTell 116 = .ok (.getfield 249, 3) ∧ decode cX12_codesTell 119 = .ok (.aload_n 0, 1) ∧ decode cX12_codesTell 120 = .ok (.getfield 443, 3) ∧ decode cX12_codesTell 123 = .ok (.iconst 1, 1) := by decide +kernel
theorem eX12_codesTell_124 : decode cX12_codesTell 124 = .ok (.isub, 1) ∧ decode cX12_codesTell 125 = .ok (.laload, 1) ∧ decode cX12_codesTell 126 = .ok (.lsub, 1) ∧ decode cX12_codesTell 127 = .ok (.lastore, 1) ∧ decode cX12_codesTell 128 = .ok (.goto 8, 3) ∧ decode cX12_codesTell 131 = .ok (.aload_n 0, 1) ∧ decode cX12_codesTell 132 = .ok (.iload_n 3, 1) ∧ decode cX12_codesTell 133 = .ok (.invokevirtual 454, 3) := by decide +kernel
theorem eX12_codesTell_136 : decode cX12_codesTell 136 = .ok (.iinc 2 1, 3) ∧ decode cX12_codesTell 139 = .ok (.goto (-120), 3) ∧ decode cX12_codesTell 142 = .ok (.aload_n 0, 1) ∧ decode cX12_codesTell 143 = .ok (.getfield 249, 3) ∧ decode cX12_codesTell 146 = .ok (.iconst 0, 1) ∧ decode cX12_codesTell 147 = .ok (.laload, 1) ∧ decode cX12_codesTell 148 = .ok (.lreturn, 1) ∧ decode cX12_inserts 0 = .ok (.aload_n 0, 1) := by decide +kernel
theorem eX12_inserts_1 : decode cX12_inserts 1 = .ok (.iload_n 1, 1) ∧ decode cX12_inserts 2 = .ok (.invokevirtual 466, 3) ∧ decode cX12_inserts 5 = .ok (.istore 5, 2) ∧ decode cX12_inserts 7 = .ok (.iload 5, 2) ∧ decode cX12_inserts 9 = .ok (.iload_n 2, 1) ∧ decode cX12_inserts 10 = .ok (.if_icmp .le 34, 3) ∧ decode cX12_inserts 13 = .ok (.aload_n 0, 1) ∧ decode cX12_inserts 14 = .ok (.iload_n 1, 1) := by decide +kernel
theorem eX12_inserts_15 : decode cX12_inserts 15 = .ok (.iload 5, 2) ∧ decode cX12_inserts 17 = .ok (.aload_n 0, 1) ∧ decode cX12_inserts 18 = .ok (.iload_n 1, 1) ∧ decode cX12_inserts 19 = .ok (.iload 5, 2) ∧ decode cX12_inserts 21 = .ok (.iconst 1, 1) ∧ decode cX12_inserts 22 = .ok (.isub, 1) ∧ decode cX12_inserts 23 = .ok (.invokevirtual 517, 3) ∧ decode cX12_inserts 26 = .ok (.aload_n 0, 1) := by decide +kernel
theorem eX12_inserts_27 : decode cX12_inserts 27 = .ok (.iload_n 1, 1) ∧ decode cX12_inserts 28 = .ok (.iload 5, 2) ∧ decode cX12_inserts 30 = .ok (.iconst 1, 1) ∧ decode cX12_inserts 31 = .ok (.isub, 1) ∧ decode cX12_inserts 32 = .ok (.invokevirtual 505, 3) ∧ decode cX12_inserts 35 = .ok (.invokevirtual 520, 3) ∧ decode cX12_inserts 38 = .ok (.iinc 5 (-1), 3) ∧ decode cX12_inserts 41 = .ok (.goto (-34), 3) := by decide +kernel
theorem eX12_inserts_44 : decode cX12_inserts 44 = .ok (.aload_n 0, 1) ∧ decode cX12_inserts 45 = .ok (.iload_n 1, 1) ∧ decode cX12_inserts 46 = .ok (.iload_n 2, 1) ∧ decode cX12_inserts 47 = .ok (.iload_n 3, 1) ∧ decode cX12_inserts 48 = .ok (.iload 4, 2) ∧ decode cX12_inserts 50 = .ok (.invokevirtual 520, 3) ∧ decode cX12_inserts 53 = .ok (.aload_n 0, 1) ∧ decode cX12_inserts 54 = .ok (.getfield 121, 3) := by decide +kernel
theorem eX12_inserts_57 : decode cX12_inserts 57 = .ok (.bipush 17, 2) ∧ decode cX12_inserts 59 = .ok (.bipush 16, 2) ∧ decode cX12_inserts 61 = .ok (.iload_n 1, 1) ∧ decode cX12_inserts 62 = .ok (.imul, 1) ∧ decode cX12_inserts 63 = .ok (.iadd, 1) ∧ decode cX12_inserts 64 = .ok (.iconst 3, 1) ∧ decode cX12_inserts 65 = .ok (.iadd, 1) ∧ decode cX12_inserts 66 = .ok (.dup2, 1) := by decide +kernel
theorem eX12_inserts_67 : decode cX12_inserts 67 = .ok (.iaload, 1) ∧ decode cX12_inserts 68 = .ok (.iconst 1, 1) ∧ decode cX12_inserts 69 = .ok (.iadd, 1) ∧ decode cX12_inserts 70 = .ok (.iastore, 1) ∧ decode cX12_inserts 71 = .ok (.return_, 1) ∧ decode cX12_isFresh 0 = .ok (.aload_n 0, 1) ∧ decode cX12_isFresh 1 = .ok (.iload_n 1, 1) ∧ decode cX12_isFresh 2 = .ok (.invokevirtual 435, 3) := by decide +kernel
theorem eX12_isFresh_5 : decode cX12_isFresh 5 = .ok (.ifCond .eq 15, 3) ∧ decode cX12_isFresh 8 = .ok (.aload_n 0, 1) ∧ decode cX12_isFresh 9 = .ok (.iload_n 1, 1) ∧ decode cX12_isFresh 10 = .ok (.invokevirtual 438, 3) ∧ decode cX12_isFresh 13 = .ok (.ifCond .ne 7, 3) ∧ decode cX12_isFresh 16 = .ok (.iconst 1, 1) ∧ decode cX12_isFresh 17 = .ok (.goto 4, 3) ∧ decode cX12_isFresh 20 = .ok (.iconst 0, 1) := by decide +kernel
theorem eX12_isFresh_21 : decode cX12_isFresh 21 = .ok (.ireturn, 1) ∧ decode cX12_owned 0 = .ok (.aload_n 0, 1) ∧ decode cX12_owned 1 = .ok (.iload_n 1, 1) ∧ decode cX12_owned 2 = .ok (.invokevirtual 508, 3) ∧ decode cX12_owned 5 = .ok (.ifCond .eq 14, 3) ∧ decode cX12_owned 8 = .ok (.aload_n 0, 1) ∧ decode cX12_owned 9 = .ok (.iload_n 1, 1) ∧ decode cX12_owned 10 = .ok (.invokevirtual 432, 3) := by decide +kernel
theorem eX12_owned_13 : decode cX12_owned 13 = .ok (.iconst 1, 1) ∧ decode cX12_owned 14 = .ok (.if_icmp .ne 5, 3) ∧ decode cX12_owned 17 = .ok (.iload_n 1, 1) ∧ decode cX12_owned 18 = .ok (.ireturn, 1) ∧ decode cX12_owned 19 = .ok (.aload_n 0, 1) ∧ decode cX12_owned 20 = .ok (.aload_n 0, 1) ∧ decode cX12_owned 21 = .ok (.iload_n 1, 1) ∧ decode cX12_owned 22 = .ok (.invokevirtual 460, 3) := by decide +kernel
theorem eX12_owned_25 : decode cX12_owned 25 = .ok (.iload_n 1, 1) ∧ decode cX12_owned 26 = .ok (.invokevirtual 511, 3) ∧ decode cX12_owned 29 = .ok (.istore_n 2, 1) ∧ decode cX12_owned 30 = .ok (.aload_n 0, 1) ∧ decode cX12_owned 31 = .ok (.getfield 493, 3) ∧ decode cX12_owned 34 = .ok (.ifCond .eq 5, 3) ∧ decode cX12_owned 37 = .ok (.iload_n 1, 1) ∧ decode cX12_owned 38 = .ok (.ireturn, 1) := by decide +kernel
theorem eX12_owned_39 : decode cX12_owned 39 = .ok (.iconst 3, 1) ∧ decode cX12_owned 40 = .ok (.istore_n 3, 1) ∧ decode cX12_owned 41 = .ok (.iload_n 3, 1) ∧ decode cX12_owned 42 = .ok (.bipush 16, 2) ∧ decode cX12_owned 44 = .ok (.if_icmp .ge 37, 3) ∧ decode cX12_owned 47 = .ok (.aload_n 0, 1) ∧ decode cX12_owned 48 = .ok (.getfield 121, 3) ∧ decode cX12_owned 51 = .ok (.bipush 17, 2) := by decide +kernel
theorem eX12_owned_53 : decode cX12_owned 53 = .ok (.bipush 16, 2) ∧ decode cX12_owned 55 = .ok (.iload_n 2, 1) ∧ decode cX12_owned 56 = .ok (.imul, 1) ∧ decode cX12_owned 57 = .ok (.iadd, 1) ∧ decode cX12_owned 58 = .ok (.iload_n 3, 1) ∧ decode cX12_owned 59 = .ok (.iadd, 1) ∧ decode cX12_owned 60 = .ok (.aload_n 0, 1) ∧ decode cX12_owned 61 = .ok (.getfield 121, 3) := by decide +kernel
theorem eX12_owned_64 : decode cX12_owned 64 = .ok (.bipush 17, 2) ∧ decode cX12_owned 66 = .ok (.bipush 16, 2) ∧ decode cX12_owned 68 = .ok (.iload_n 1, 1) ∧ decode cX12_owned 69 = .ok (.imul, 1) ∧ decode cX12_owned 70 = .ok (.iadd, 1) ∧ decode cX12_owned 71 = .ok (.iload_n 3, 1) ∧ decode cX12_owned 72 = .ok (.iadd, 1) ∧ decode cX12_owned 73 = .ok (.iaload, 1) := by decide +kernel
theorem eX12_owned_74 : decode cX12_owned 74 = .ok (.iastore, 1) ∧ decode cX12_owned 75 = .ok (.iinc 3 1, 3) ∧ decode cX12_owned 78 = .ok (.goto (-37), 3) ∧ decode cX12_owned 81 = .ok (.aload_n 0, 1) ∧ decode cX12_owned 82 = .ok (.iload_n 1, 1) ∧ decode cX12_owned 83 = .ok (.invokevirtual 460, 3) ∧ decode cX12_owned 86 = .ok (.ifCond .le 31, 3) ∧ decode cX12_owned 89 = .ok (.iconst 0, 1) := by decide +kernel
theorem eX12_owned_90 : decode cX12_owned 90 = .ok (.istore_n 3, 1) ∧ decode cX12_owned 91 = .ok (.iload_n 3, 1) ∧ decode cX12_owned 92 = .ok (.aload_n 0, 1) ∧ decode cX12_owned 93 = .ok (.iload_n 1, 1) ∧ decode cX12_owned 94 = .ok (.invokevirtual 466, 3) ∧ decode cX12_owned 97 = .ok (.if_icmp .ge 20, 3) ∧ decode cX12_owned 100 = .ok (.aload_n 0, 1) ∧ decode cX12_owned 101 = .ok (.aload_n 0, 1) := by decide +kernel
theorem eX12_owned_102 : decode cX12_owned 102 = .ok (.iload_n 1, 1) ∧ decode cX12_owned 103 = .ok (.iload_n 3, 1) ∧ decode cX12_owned 104 = .ok (.invokevirtual 505, 3) ∧ decode cX12_owned 107 = .ok (.iconst 1, 1) ∧ decode cX12_owned 108 = .ok (.invokevirtual 502, 3) ∧ decode cX12_owned 111 = .ok (.iinc 3 1, 3) ∧ decode cX12_owned 114 = .ok (.goto (-23), 3) ∧ decode cX12_owned 117 = .ok (.aload_n 0, 1) := by decide +kernel
theorem eX12_owned_118 : decode cX12_owned 118 = .ok (.iload_n 1, 1) ∧ decode cX12_owned 119 = .ok (.invokevirtual 514, 3) ∧ decode cX12_owned 122 = .ok (.iload_n 2, 1) ∧ decode cX12_owned 123 = .ok (.ireturn, 1) ∧ decode cX12_qPartOf 0 = .ok (.iload_n 1, 1) ∧ decode cX12_qPartOf 1 = .ok (.tableswitch 100 0 6 #[43, 49, 55, 61, 67, 73, 83], 43) ∧ decode cX12_qPartOf 44 = .ok (.aload_n 0, 1) ∧ decode cX12_qPartOf 45 = .ok (.getfield 463, 3) := by decide +kernel
theorem eX12_qPartOf_48 : decode cX12_qPartOf 48 = .ok (.i2l, 1) ∧ decode cX12_qPartOf 49 = .ok (.lreturn, 1) ∧ decode cX12_qPartOf 50 = .ok (.aload_n 0, 1) ∧ decode cX12_qPartOf 51 = .ok (.getfield 457, 3) ∧ decode cX12_qPartOf 54 = .ok (.i2l, 1) ∧ decode cX12_qPartOf 55 = .ok (.lreturn, 1) ∧ decode cX12_qPartOf 56 = .ok (.aload_n 0, 1) ∧ decode cX12_qPartOf 57 = .ok (.getfield 499, 3) := by decide +kernel
theorem eX12_qPartOf_60 : decode cX12_qPartOf 60 = .ok (.i2l, 1) ∧ decode cX12_qPartOf 61 = .ok (.lreturn, 1) ∧ decode cX12_qPartOf 62 = .ok (.aload_n 0, 1) ∧ decode cX12_qPartOf 63 = .ok (.getfield 469, 3) ∧ decode cX12_qPartOf 66 = .ok (.i2l, 1) ∧ decode cX12_qPartOf 67 = .ok (.lreturn, 1) ∧ decode cX12_qPartOf 68 = .ok (.aload_n 0, 1) ∧ decode cX12_qPartOf 69 = .ok (.getfield 457, 3) := by decide +kernel
theorem eX12_qPartOf_72 : decode cX12_qPartOf 72 = .ok (.i2l, 1) ∧ decode cX12_qPartOf 73 = .ok (.lreturn, 1) ∧ decode cX12_qPartOf 74 = .ok (.aload_n 0, 1) ∧ decode cX12_qPartOf 75 = .ok (.aload_n 0, 1) ∧ decode cX12_qPartOf 76 = .ok (.getfield 457, 3) ∧ decode cX12_qPartOf 79 = .ok (.invokevirtual 432, 3) ∧ decode cX12_qPartOf 82 = .ok (.i2l, 1) ∧ decode cX12_qPartOf 83 = .ok (.lreturn, 1) := by decide +kernel
theorem eX12_qPartOf_84 : decode cX12_qPartOf 84 = .ok (.aload_n 0, 1) ∧ decode cX12_qPartOf 85 = .ok (.aload_n 0, 1) ∧ decode cX12_qPartOf 86 = .ok (.getfield 457, 3) ∧ decode cX12_qPartOf 89 = .ok (.invokevirtual 508, 3) ∧ decode cX12_qPartOf 92 = .ok (.ifCond .eq 7, 3) ∧ decode cX12_qPartOf 95 = .ok (.lconst 1, 1) ∧ decode cX12_qPartOf 96 = .ok (.goto 4, 3) ∧ decode cX12_qPartOf 99 = .ok (.lconst 0, 1) := by decide +kernel
theorem eX12_qPartOf_100 : decode cX12_qPartOf 100 = .ok (.lreturn, 1) ∧ decode cX12_qPartOf 101 = .ok (.aload_n 0, 1) ∧ decode cX12_qPartOf 102 = .ok (.aload_n 0, 1) ∧ decode cX12_qPartOf 103 = .ok (.getfield 457, 3) ∧ decode cX12_qPartOf 106 = .ok (.invokevirtual 438, 3) ∧ decode cX12_qPartOf 109 = .ok (.i2l, 1) ∧ decode cX12_qPartOf 110 = .ok (.lreturn, 1) ∧ decode cX12_removes 0 = .ok (.aload_n 0, 1) := by decide +kernel
theorem eX12_removes_1 : decode cX12_removes 1 = .ok (.aload_n 0, 1) ∧ decode cX12_removes 2 = .ok (.getfield 121, 3) ∧ decode cX12_removes 5 = .ok (.iload_n 1, 1) ∧ decode cX12_removes 6 = .ok (.iaload, 1) ∧ decode cX12_removes 7 = .ok (.invokevirtual 533, 3) ∧ decode cX12_removes 10 = .ok (.istore_n 3, 1) ∧ decode cX12_removes 11 = .ok (.aload_n 0, 1) ∧ decode cX12_removes 12 = .ok (.getfield 493, 3) := by decide +kernel
theorem eX12_removes_15 : decode cX12_removes 15 = .ok (.ifCond .eq 4, 3) ∧ decode cX12_removes 18 = .ok (.return_, 1) ∧ decode cX12_removes 19 = .ok (.aload_n 0, 1) ∧ decode cX12_removes 20 = .ok (.getfield 121, 3) ∧ decode cX12_removes 23 = .ok (.iload_n 1, 1) ∧ decode cX12_removes 24 = .ok (.iload_n 3, 1) ∧ decode cX12_removes 25 = .ok (.iastore, 1) ∧ decode cX12_removes 26 = .ok (.iconst 0, 1) := by decide +kernel
theorem eX12_removes_27 : decode cX12_removes 27 = .ok (.istore 4, 2) ∧ decode cX12_removes 29 = .ok (.aload_n 0, 1) ∧ decode cX12_removes 30 = .ok (.getfield 493, 3) ∧ decode cX12_removes 33 = .ok (.ifCond .ne 85, 3) ∧ decode cX12_removes 36 = .ok (.aload_n 0, 1) ∧ decode cX12_removes 37 = .ok (.iload_n 3, 1) ∧ decode cX12_removes 38 = .ok (.invokevirtual 460, 3) ∧ decode cX12_removes 41 = .ok (.ifCond .le 77, 3) := by decide +kernel
theorem eX12_removes_44 : decode cX12_removes 44 = .ok (.aload_n 0, 1) ∧ decode cX12_removes 45 = .ok (.iload_n 3, 1) ∧ decode cX12_removes 46 = .ok (.iload_n 2, 1) ∧ decode cX12_removes 47 = .ok (.invokevirtual 543, 3) ∧ decode cX12_removes 50 = .ok (.istore 5, 2) ∧ decode cX12_removes 52 = .ok (.aload_n 0, 1) ∧ decode cX12_removes 53 = .ok (.iload_n 3, 1) ∧ decode cX12_removes 54 = .ok (.iload 5, 2) := by decide +kernel
theorem eX12_removes_56 : decode cX12_removes 56 = .ok (.invokevirtual 505, 3) ∧ decode cX12_removes 59 = .ok (.istore 6, 2) ∧ decode cX12_removes 61 = .ok (.aload_n 0, 1) ∧ decode cX12_removes 62 = .ok (.iload 6, 2) ∧ decode cX12_removes 64 = .ok (.invokevirtual 533, 3) ∧ decode cX12_removes 67 = .ok (.istore 7, 2) ∧ decode cX12_removes 69 = .ok (.iload 7, 2) ∧ decode cX12_removes 71 = .ok (.iload 6, 2) := by decide +kernel
theorem eX12_removes_73 : decode cX12_removes 73 = .ok (.if_icmp .eq 19, 3) ∧ decode cX12_removes 76 = .ok (.aload_n 0, 1) ∧ decode cX12_removes 77 = .ok (.iload_n 3, 1) ∧ decode cX12_removes 78 = .ok (.iload 5, 2) ∧ decode cX12_removes 80 = .ok (.aload_n 0, 1) ∧ decode cX12_removes 81 = .ok (.iload_n 3, 1) ∧ decode cX12_removes 82 = .ok (.iload 5, 2) ∧ decode cX12_removes 84 = .ok (.invokevirtual 517, 3) := by decide +kernel
theorem eX12_removes_87 : decode cX12_removes 87 = .ok (.iload 7, 2) ∧ decode cX12_removes 89 = .ok (.invokevirtual 520, 3) ∧ decode cX12_removes 92 = .ok (.aload_n 0, 1) ∧ decode cX12_removes 93 = .ok (.getfield 131, 3) ∧ decode cX12_removes 96 = .ok (.iload 4, 2) ∧ decode cX12_removes 98 = .ok (.iload_n 3, 1) ∧ decode cX12_removes 99 = .ok (.iastore, 1) ∧ decode cX12_removes 100 = .ok (.aload_n 0, 1) := by decide +kernel
theorem eX12_removes_101 : decode cX12_removes 101 = .ok (.getfield 134, 3) ∧ decode cX12_removes 104 = .ok (.iload 4, 2) ∧ decode cX12_removes 106 = .ok (.iload 5, 2) ∧ decode cX12_removes 108 = .ok (.iastore, 1) ∧ decode cX12_removes 109 = .ok (.iinc 4 1, 3) ∧ decode cX12_removes 112 = .ok (.iload 7, 2) ∧ decode cX12_removes 114 = .ok (.istore_n 3, 1) ∧ decode cX12_removes 115 = .ok (.goto (-86), 3) := by decide +kernel
theorem eX12_removes_118 : decode cX12_removes 118 = .ok (.aload_n 0, 1) ∧ decode cX12_removes 119 = .ok (.getfield 493, 3) ∧ decode cX12_removes 122 = .ok (.ifCond .eq 4, 3) ∧ decode cX12_removes 125 = .ok (.return_, 1) ∧ decode cX12_removes 126 = .ok (.aload_n 0, 1) ∧ decode cX12_removes 127 = .ok (.iload_n 3, 1) ∧ decode cX12_removes 128 = .ok (.aload_n 0, 1) ∧ decode cX12_removes 129 = .ok (.iload_n 3, 1) := by decide +kernel
theorem eX12_removes_130 : decode cX12_removes 130 = .ok (.iload_n 2, 1) ∧ decode cX12_removes 131 = .ok (.invokevirtual 550, 3) ∧ decode cX12_removes 134 = .ok (.invokevirtual 553, 3) ∧ decode cX12_removes 137 = .ok (.aload_n 0, 1) ∧ decode cX12_removes 138 = .ok (.iload_n 3, 1) ∧ decode cX12_removes 139 = .ok (.invokevirtual 466, 3) ∧ decode cX12_removes 142 = .ok (.ifCond .ne 40, 3) ∧ decode cX12_removes 145 = .ok (.iload 4, 2) := by decide +kernel
theorem eX12_removes_147 : decode cX12_removes 147 = .ok (.ifCond .le 35, 3) ∧ decode cX12_removes 150 = .ok (.aload_n 0, 1) ∧ decode cX12_removes 151 = .ok (.iload_n 3, 1) ∧ decode cX12_removes 152 = .ok (.iconst (-1), 1) ∧ decode cX12_removes 153 = .ok (.invokevirtual 502, 3) ∧ decode cX12_removes 156 = .ok (.iinc 4 (-1), 3) ∧ decode cX12_removes 159 = .ok (.aload_n 0, 1) ∧ decode cX12_removes 160 = .ok (.getfield 131, 3) := by decide +kernel
theorem eX12_removes_163 : decode cX12_removes 163 = .ok (.iload 4, 2) ∧ decode cX12_removes 165 = .ok (.iaload, 1) ∧ decode cX12_removes 166 = .ok (.istore_n 3, 1) ∧ decode cX12_removes 167 = .ok (.aload_n 0, 1) ∧ decode cX12_removes 168 = .ok (.iload_n 3, 1) ∧ decode cX12_removes 169 = .ok (.aload_n 0, 1) ∧ decode cX12_removes 170 = .ok (.getfield 134, 3) ∧ decode cX12_removes 173 = .ok (.iload 4, 2) := by decide +kernel
theorem eX12_removes_175 : decode cX12_removes 175 = .ok (.iaload, 1) ∧ decode cX12_removes 176 = .ok (.invokevirtual 553, 3) ∧ decode cX12_removes 179 = .ok (.goto (-42), 3) ∧ decode cX12_removes 182 = .ok (.aload_n 0, 1) ∧ decode cX12_removes 183 = .ok (.iload_n 3, 1) ∧ decode cX12_removes 184 = .ok (.invokevirtual 466, 3) ∧ decode cX12_removes 187 = .ok (.ifCond .ne 19, 3) ∧ decode cX12_removes 190 = .ok (.aload_n 0, 1) := by decide +kernel
theorem eX12_removes_191 : decode cX12_removes 191 = .ok (.iload_n 3, 1) ∧ decode cX12_removes 192 = .ok (.iconst (-1), 1) ∧ decode cX12_removes 193 = .ok (.invokevirtual 502, 3) ∧ decode cX12_removes 196 = .ok (.aload_n 0, 1) ∧ decode cX12_removes 197 = .ok (.getfield 121, 3) ∧ decode cX12_removes 200 = .ok (.iload_n 1, 1) ∧ decode cX12_removes 201 = .ok (.sipush 254, 3) ∧ decode cX12_removes 204 = .ok (.iastore, 1) := by decide +kernel
theorem eX12_removes_205 : decode cX12_removes 205 = .ok (.return_, 1) ∧ decode cX12_removes 206 = .ok (.aload_n 0, 1) ∧ decode cX12_removes 207 = .ok (.iload_n 1, 1) ∧ decode cX12_removes 208 = .ok (.invokevirtual 556, 3) ∧ decode cX12_removes 211 = .ok (.return_, 1) ∧ decode cX12_taken 0 = .ok (.iconst (-1), 1) ∧ decode cX12_taken 1 = .ok (.istore_n 3, 1) ∧ decode cX12_taken 2 = .ok (.lconst 0, 1) := by decide +kernel
theorem eX12_taken_3 : decode cX12_taken 3 = .ok (.lstore 4, 2) ∧ decode cX12_taken 5 = .ok (.iconst 0, 1) ∧ decode cX12_taken 6 = .ok (.istore 6, 2) ∧ decode cX12_taken 8 = .ok (.iload 6, 2) ∧ decode cX12_taken 10 = .ok (.aload_n 0, 1) ∧ decode cX12_taken 11 = .ok (.invokevirtual 429, 3) ∧ decode cX12_taken 14 = .ok (.if_icmp .ge 88, 3) ∧ decode cX12_taken 17 = .ok (.aload_n 0, 1) := by decide +kernel
theorem eX12_taken_18 : decode cX12_taken 18 = .ok (.getfield 493, 3) ∧ decode cX12_taken 21 = .ok (.ifCond .ne 81, 3) ∧ decode cX12_taken 24 = .ok (.aload_n 0, 1) ∧ decode cX12_taken 25 = .ok (.iload 6, 2) ∧ decode cX12_taken 27 = .ok (.invokevirtual 496, 3) ∧ decode cX12_taken 30 = .ok (.ifCond .eq 6, 3) ∧ decode cX12_taken 33 = .ok (.goto 63, 3) ∧ decode cX12_taken 36 = .ok (.aload_n 0, 1) := by decide +kernel
theorem eX12_taken_37 : decode cX12_taken 37 = .ok (.iload 6, 2) ∧ decode cX12_taken 39 = .ok (.putfield 457, 3) ∧ decode cX12_taken 42 = .ok (.aload_n 0, 1) ∧ decode cX12_taken 43 = .ok (.iload_n 2, 1) ∧ decode cX12_taken 44 = .ok (.putfield 499, 3) ∧ decode cX12_taken 47 = .ok (.aload_n 0, 1) ∧ decode cX12_taken 48 = .ok (.iload_n 1, 1) ∧ decode cX12_taken 49 = .ok (.putfield 463, 3) := by decide +kernel
theorem eX12_taken_52 : decode cX12_taken 52 = .ok (.aload_n 0, 1) ∧ decode cX12_taken 53 = .ok (.iconst 0, 1) ∧ decode cX12_taken 54 = .ok (.invokevirtual 472, 3) ∧ decode cX12_taken 57 = .ok (.ifCond .eq 11, 3) ∧ decode cX12_taken 60 = .ok (.aload_n 0, 1) ∧ decode cX12_taken 61 = .ok (.iconst 0, 1) ∧ decode cX12_taken 62 = .ok (.invokevirtual 475, 3) ∧ decode cX12_taken 65 = .ok (.goto 6, 3) := by decide +kernel
theorem eX12_taken_68 : decode cX12_taken 68 = .ok (.iload 6, 2) ∧ decode cX12_taken 70 = .ok (.i2l, 1) ∧ decode cX12_taken 71 = .ok (.lstore 7, 2) ∧ decode cX12_taken 73 = .ok (.iload_n 3, 1) ∧ decode cX12_taken 74 = .ok (.iconst (-1), 1) ∧ decode cX12_taken 75 = .ok (.if_icmp .eq 14, 3) ∧ decode cX12_taken 78 = .ok (.lload 7, 2) ∧ decode cX12_taken 80 = .ok (.lload 4, 2) := by decide +kernel
theorem eX12_taken_82 : decode cX12_taken 82 = .ok (.lcmp, 1) ∧ decode cX12_taken 83 = .ok (.ifCond .lt 6, 3) ∧ decode cX12_taken 86 = .ok (.goto 10, 3) ∧ decode cX12_taken 89 = .ok (.iload 6, 2) ∧ decode cX12_taken 91 = .ok (.istore_n 3, 1) ∧ decode cX12_taken 92 = .ok (.lload 7, 2) ∧ decode cX12_taken 94 = .ok (.lstore 4, 2) ∧ decode cX12_taken 96 = .ok (.iinc 6 1, 3) := by decide +kernel
theorem eX12_taken_99 : decode cX12_taken 99 = .ok (.goto (-91), 3) ∧ decode cX12_taken 102 = .ok (.iload_n 3, 1) ∧ decode cX12_taken 103 = .ok (.iconst (-1), 1) ∧ decode cX12_taken 104 = .ok (.if_icmp .ne 10, 3) ∧ decode cX12_taken 107 = .ok (.aload_n 0, 1) ∧ decode cX12_taken 108 = .ok (.iconst 1, 1) ∧ decode cX12_taken 109 = .ok (.putfield 493, 3) ∧ decode cX12_taken 112 = .ok (.iconst 0, 1) := by decide +kernel
theorem eX12_taken_113 : decode cX12_taken 113 = .ok (.ireturn, 1) ∧ decode cX12_taken 114 = .ok (.bipush 17, 2) ∧ decode cX12_taken 116 = .ok (.bipush 16, 2) ∧ decode cX12_taken 118 = .ok (.iload_n 3, 1) ∧ decode cX12_taken 119 = .ok (.imul, 1) ∧ decode cX12_taken 120 = .ok (.iadd, 1) ∧ decode cX12_taken 121 = .ok (.istore 6, 2) ∧ decode cX12_taken 123 = .ok (.iconst 0, 1) := by decide +kernel
theorem eX12_taken_124 : decode cX12_taken 124 = .ok (.istore 7, 2) ∧ decode cX12_taken 126 = .ok (.iload 7, 2) ∧ decode cX12_taken 128 = .ok (.bipush 16, 2) ∧ decode cX12_taken 130 = .ok (.if_icmp .ge 20, 3) ∧ decode cX12_taken 133 = .ok (.aload_n 0, 1) ∧ decode cX12_taken 134 = .ok (.getfield 121, 3) ∧ decode cX12_taken 137 = .ok (.iload 6, 2) ∧ decode cX12_taken 139 = .ok (.iload 7, 2) := by decide +kernel
theorem eX12_taken_141 : decode cX12_taken 141 = .ok (.iadd, 1) ∧ decode cX12_taken 142 = .ok (.iconst 0, 1) ∧ decode cX12_taken 143 = .ok (.iastore, 1) ∧ decode cX12_taken 144 = .ok (.iinc 7 1, 3) ∧ decode cX12_taken 147 = .ok (.goto (-21), 3) ∧ decode cX12_taken 150 = .ok (.aload_n 0, 1) ∧ decode cX12_taken 151 = .ok (.getfield 121, 3) ∧ decode cX12_taken 154 = .ok (.iload 6, 2) := by decide +kernel
theorem eX12_taken_156 : decode cX12_taken 156 = .ok (.iconst 1, 1) ∧ decode cX12_taken 157 = .ok (.iastore, 1) ∧ decode cX12_taken 158 = .ok (.aload_n 0, 1) ∧ decode cX12_taken 159 = .ok (.getfield 121, 3) ∧ decode cX12_taken 162 = .ok (.iload 6, 2) ∧ decode cX12_taken 164 = .ok (.iconst 2, 1) ∧ decode cX12_taken 165 = .ok (.iadd, 1) ∧ decode cX12_taken 166 = .ok (.iload_n 1, 1) := by decide +kernel
theorem eX12_taken_167 : decode cX12_taken 167 = .ok (.iastore, 1) ∧ decode cX12_taken 168 = .ok (.aload_n 0, 1) ∧ decode cX12_taken 169 = .ok (.getfield 124, 3) ∧ decode cX12_taken 172 = .ok (.iload_n 3, 1) ∧ decode cX12_taken 173 = .ok (.iconst 1, 1) ∧ decode cX12_taken 174 = .ok (.bastore, 1) ∧ decode cX12_taken 175 = .ok (.iload_n 3, 1) ∧ decode cX12_taken 176 = .ok (.ireturn, 1) := by decide +kernel
set_option maxHeartbeats 4000000 in
set_option maxRecDepth 100000 in
theorem k_x12_isFresh (l : Launch) (D : va_G) (a : Nat → Nat) (p0 : Int) (s : MS) (o : Int) (h : m_x12_isFresh p0 s = some o) : yRi l yX12_isFresh cX12_isFresh 2 (some .boolean) { frames := 2, cells := 0, slots := 0, locals := 120 } D [.ref (a 200), .int (i2 p0)] (RW D a s) (i2 o) := by
  refine Met.ofW (cc := cX12_isFresh) (maxL := 2) (ret := (some .boolean)) (by decide) rfl ?_
  intro p e s₀ m args below meth c s₁ B hml hv
  obtain ⟨rfl, ⟨hP, hK⟩, hN⟩ := hv
  have hx := B.exec
  have hb := B.bytes
  have hr := B.returns
  have hts := atoms_spec (ws := wz yX12_isFresh cX12_isFresh 2 (some .boolean)) B.pre
  have ht : ∀ w ∈ lw_gd, w.before _ s₀ = true := fun w h => hts w (List.mem_cons_of_mem _ h)
  have hown : s₀.vm.findClass RX12 = some m.cls := findClass_of_methodNamed B.named
  have hlocks := B.notSynchronized
  have hS : va_S (fun _ => False) s₀.heap s₀.heap [] := va_S.rf
  have hl := lv_entry ([.ref (a 200), .int (i2 p0)]) (n := 2) (Nat.le_of_ble_eq_true rfl)
  rw [lg_entry_eq]
  generalize (lg_sl ([.ref (a 200), .int (i2 p0)]) ++ List.replicate (2 - (lg_sl ([.ref (a 200), .int (i2 p0)])).length) Slot.unset).toArray = ls at hl ⊢
  have hl : lv_has ls 2 [(0, .ref (a 200)), (1, .int (i2 p0))] := hl
  unfold m_x12_isFresh at h
  refine y_head (pcJ := 21) (σ := Int) (fun u H locs ls => va_P D vwCl (RW D a s) H ∧ va_S (fun _ => False) s₀.heap H locs ∧ lv_has ls 2 [] ∧ m_x12_isFresh_J21 s u = some o) (fun u => [.int (i2 u)]) (fun u H locs ls hI => ?_) (fun J21 => ?_)
  · obtain ⟨hP, hS, hl, h⟩ := hI
    obtain ⟨x1, rfl⟩ : ∃ z, z = u := ⟨u, rfl⟩
    have hP : va_P D vwCl (RW D a s) H := hP
    have hl : lv_has ls 2 [] := hl
    have h : m_x12_isFresh_J21 s x1 = some o := h
    unfold m_x12_isFresh_J21 at h
    obtain ⟨hb2, h⟩ := bo_e h
    obtain rfl := Option.some.inj h
    exact W.zret (v := (i2 x1)) hx hb hr (bo_n hb2) (fun t ht hW => ⟨⟨_, (), rfl, rfl, trivial⟩, hS.F ht⟩) hS.2.2 eX12_isFresh_21.1
  refine y_head (pcJ := 20) (σ := Unit) (fun u H locs ls => va_P D vwCl (RW D a s) H ∧ va_S (fun _ => False) s₀.heap H locs ∧ lv_has ls 2 [] ∧ m_x12_isFresh_J20 s u = some o) (fun u => []) (fun u H locs ls hI => ?_) (fun J20 => ?_)
  · obtain ⟨hP, hS, hl, h⟩ := hI
    skip
    have hP : va_P D vwCl (RW D a s) H := hP
    have hl : lv_has ls 2 [] := hl
    have h : m_x12_isFresh_J20 s () = some o := h
    unfold m_x12_isFresh_J20 at h
    refine lv_iconst (v := 0) hx hb eX12_isFresh_5.2.2.2.2.2.2.2 (by decide) ?_
    exact J21 0 _ _ _ ⟨hP, hS, lv_sub hl [] rfl, h⟩
  refine lv_aload_n hx hb eX12_inserts_67.2.2.2.2.2.1 rfl (lv_at hl 0 rfl) ?_
  refine lv_iload_n hx hb eX12_inserts_67.2.2.2.2.2.2.1 rfl (lv_at hl 1 rfl) ?_
  obtain ⟨r4, hc3, h⟩ := bn_e h
  refine ycV (r0 := i2 r4) (As := [.int (i2 p0)]) (rest := []) (C := RX12) (n := 1) ⟨hx, hb, hml, hown, ht⟩ (k_x12_isUsed l D a p0 _ _ hc3) (zgV ml_X12_435 im_X12_isUsed se_X12_isUsed in_X12 co_X12_isUsed) rfl rfl (by decide +kernel) ⟨Nat.le_of_ble_eq_true rfl, Nat.le_of_ble_eq_true rfl⟩ hN hK hP hS 0 RW_0 rfl rfl rfl hl.1 rfl (Nat.le_of_ble_eq_true rfl) eX12_inserts_67.2.2.2.2.2.2.2 ⟨Nat.le_of_ble_eq_true rfl, Nat.le_of_ble_eq_true rfl⟩ (fun H locs hP hS => ?_)
  obtain ⟨hr5, h⟩ := rg_e h
  refine lv_if_eq (tgt := 20) hx hb eX12_isFresh_5.1 (by decide) (fun c6 => ?_) (fun c6 => ?_)
  · have h := if_t ((i2_eq (x := r4) (y := 0) hr5 (by decide)).mp c6) h
    exact J20 () _ _ _ ⟨hP, hS, lv_sub hl [] rfl, h⟩
  · have h := if_f (mt (i2_eq (x := r4) (y := 0) hr5 (by decide)).mpr c6) h
    refine lv_aload_n hx hb eX12_isFresh_5.2.1 rfl (lv_at hl 0 rfl) ?_
    refine lv_iload_n hx hb eX12_isFresh_5.2.2.1 rfl (lv_at hl 1 rfl) ?_
    obtain ⟨r8, hc7, h⟩ := bn_e h
    refine ycV (r0 := i2 r8) (As := [.int (i2 p0)]) (rest := []) (C := RX12) (n := 1) ⟨hx, hb, hml, hown, ht⟩ (k_x12_savedOf l D a p0 _ _ hc7) (zgV ml_X12_438 im_X12_savedOf se_X12_savedOf in_X12 co_X12_savedOf) rfl rfl (by decide +kernel) ⟨Nat.le_of_ble_eq_true rfl, Nat.le_of_ble_eq_true rfl⟩ hN hK hP hS 0 RW_0 rfl rfl rfl hl.1 rfl (Nat.le_of_ble_eq_true rfl) eX12_isFresh_5.2.2.2.1 ⟨Nat.le_of_ble_eq_true rfl, Nat.le_of_ble_eq_true rfl⟩ (fun H locs hP hS => ?_)
    obtain ⟨hr9, h⟩ := rg_e h
    refine lv_if_ne (tgt := 20) hx hb eX12_isFresh_5.2.2.2.2.1 (by decide) (fun c10 => ?_) (fun c10 => ?_)
    · have h := if_f (mt (i2_eq (x := r8) (y := 0) hr9 (by decide)).mpr c10) h
      exact J20 () _ _ _ ⟨hP, hS, lv_sub hl [] rfl, h⟩
    · have h := if_t ((i2_eq (x := r8) (y := 0) hr9 (by decide)).mp c10) h
      refine lv_iconst (v := 1) hx hb eX12_isFresh_5.2.2.2.2.2.1 (by decide) ?_
      refine lv_goto (tgt := 21) hx hb eX12_isFresh_5.2.2.2.2.2.2.1 (by decide) ?_
      exact J21 1 _ _ _ ⟨hP, hS, lv_sub hl [] rfl, h⟩
set_option maxHeartbeats 4000000 in
set_option maxRecDepth 100000 in
theorem k_x12_qPartOf (l : Launch) (D : va_G) (a : Nat → Nat) (p0 : Int) (p1 : Int) (s : MS) (o : Int) (h : m_x12_qPartOf p0 p1 s = some o) : yRl l yX12_qPartOf cX12_qPartOf 3 (some .long) { frames := 3, cells := 0, slots := 0, locals := 180 } D [.ref (a 200), .int (i2 p0), .int (i2 p1)] (RW D a s) (i8 o) := by
  refine Met.ofW (cc := cX12_qPartOf) (maxL := 3) (ret := (some .long)) (by decide) rfl ?_
  intro p e s₀ m args below meth c s₁ B hml hv
  obtain ⟨rfl, ⟨hP, hK⟩, hN⟩ := hv
  have hx := B.exec
  have hb := B.bytes
  have hr := B.returns
  have hts := atoms_spec (ws := wz yX12_qPartOf cX12_qPartOf 3 (some .long)) B.pre
  have ht : ∀ w ∈ lw_gd, w.before _ s₀ = true := fun w h => hts w (List.mem_cons_of_mem _ h)
  have hown : s₀.vm.findClass RX12 = some m.cls := findClass_of_methodNamed B.named
  have hlocks := B.notSynchronized
  have hS : va_S (fun _ => False) s₀.heap s₀.heap [] := va_S.rf
  have hl := lv_entry ([.ref (a 200), .int (i2 p0), .int (i2 p1)]) (n := 3) (Nat.le_of_ble_eq_true rfl)
  rw [lg_entry_eq]
  generalize (lg_sl ([.ref (a 200), .int (i2 p0), .int (i2 p1)]) ++ List.replicate (3 - (lg_sl ([.ref (a 200), .int (i2 p0), .int (i2 p1)])).length) Slot.unset).toArray = ls at hl ⊢
  have hl : lv_has ls 3 [(0, .ref (a 200)), (1, .int (i2 p0)), (2, .int (i2 p1))] := hl
  unfold m_x12_qPartOf at h
  refine y_head (pcJ := 100) (σ := Int) (fun u H locs ls => va_P D vwCl (RW D a s) H ∧ va_S (fun _ => False) s₀.heap H locs ∧ lv_has ls 3 [] ∧ m_x12_qPartOf_J100 s u = some o) (fun u => [.long (i8 u)]) (fun u H locs ls hI => ?_) (fun J100 => ?_)
  · obtain ⟨hP, hS, hl, h⟩ := hI
    obtain ⟨z1, rfl⟩ : ∃ z, z = u := ⟨u, rfl⟩
    have hP : va_P D vwCl (RW D a s) H := hP
    have hl : lv_has ls 3 [] := hl
    have h : m_x12_qPartOf_J100 s z1 = some o := h
    unfold m_x12_qPartOf_J100 at h
    obtain rfl := Option.some.inj h
    exact W.lret (v := (i8 z1)) hx hb hr (fun t ht hW => ⟨⟨_, (), rfl, rfl, trivial⟩, hS.F ht⟩) hS.2.2 eX12_qPartOf_100.1
  refine lv_iload_n hx hb eX12_owned_118.2.2.2.2.1 rfl (lv_at hl 1 rfl) ?_
  obtain ⟨hr2, h⟩ := rg_e h
  by_cases c3 : p0 = 0
  · have h := if_t c3 h
    refine lv_tableIn (off := 43) (tgt := 44) hx hb eX12_owned_118.2.2.2.2.2.1 (by rw [c3]; decide) (by rw [c3]; decide) (by rw [c3]; decide) (by decide) ?_
    refine lv_aload_n hx hb eX12_owned_118.2.2.2.2.2.2.1 rfl (lv_at hl 0 rfl) ?_
    refine va_get (D := D) (ci := 12) (v := .int (i2 (gI s 52))) (C := RX12) (T := TX12) (N := 116) hx hb ht inX12 hown hK hP 0 RW_0 rfl 52 (by decide) (ht (.fieldLink RX12 463 "CloneVolumesModel" "askLevel" "I") fl_X12_463) (fun _ h9 => h9) mF_52 eX12_owned_118.2.2.2.2.2.2.2 ?_
    obtain ⟨hr4, h⟩ := rg_e h
    refine lv_i2l (v := i8 (gI s 52)) hx hb eX12_qPartOf_48.1 (i2_l hr4) ?_
    obtain rfl := Option.some.inj h
    exact W.lret (v := (i8 (gI s 52))) hx hb hr (fun t ht hW => ⟨⟨_, (), rfl, rfl, trivial⟩, hS.F ht⟩) hS.2.2 eX12_qPartOf_48.2.1
  · have h := if_f c3 h
    by_cases c5 : p0 = 1
    · have h := if_t c5 h
      refine lv_tableIn (off := 49) (tgt := 50) hx hb eX12_owned_118.2.2.2.2.2.1 (by rw [c5]; decide) (by rw [c5]; decide) (by rw [c5]; decide) (by decide) ?_
      refine lv_aload_n hx hb eX12_qPartOf_48.2.2.1 rfl (lv_at hl 0 rfl) ?_
      refine va_get (D := D) (ci := 12) (v := .int (i2 (gI s 50))) (C := RX12) (T := TX12) (N := 116) hx hb ht inX12 hown hK hP 0 RW_0 rfl 50 (by decide) (ht (.fieldLink RX12 457 "CloneVolumesModel" "askBlock" "I") fl_X12_457) (fun _ h9 => h9) mF_50 eX12_qPartOf_48.2.2.2.1 ?_
      obtain ⟨hr6, h⟩ := rg_e h
      refine lv_i2l (v := i8 (gI s 50)) hx hb eX12_qPartOf_48.2.2.2.2.1 (i2_l hr6) ?_
      obtain rfl := Option.some.inj h
      exact W.lret (v := (i8 (gI s 50))) hx hb hr (fun t ht hW => ⟨⟨_, (), rfl, rfl, trivial⟩, hS.F ht⟩) hS.2.2 eX12_qPartOf_48.2.2.2.2.2.1
    · have h := if_f c5 h
      by_cases c7 : p0 = 2
      · have h := if_t c7 h
        refine lv_tableIn (off := 55) (tgt := 56) hx hb eX12_owned_118.2.2.2.2.2.1 (by rw [c7]; decide) (by rw [c7]; decide) (by rw [c7]; decide) (by decide) ?_
        refine lv_aload_n hx hb eX12_qPartOf_48.2.2.2.2.2.2.1 rfl (lv_at hl 0 rfl) ?_
        refine va_get (D := D) (ci := 12) (v := .int (i2 (gI s 51))) (C := RX12) (T := TX12) (N := 116) hx hb ht inX12 hown hK hP 0 RW_0 rfl 51 (by decide) (ht (.fieldLink RX12 499 "CloneVolumesModel" "askFrom" "I") fl_X12_499) (fun _ h9 => h9) mF_51 eX12_qPartOf_48.2.2.2.2.2.2.2 ?_
        obtain ⟨hr8, h⟩ := rg_e h
        refine lv_i2l (v := i8 (gI s 51)) hx hb eX12_qPartOf_60.1 (i2_l hr8) ?_
        obtain rfl := Option.some.inj h
        exact W.lret (v := (i8 (gI s 51))) hx hb hr (fun t ht hW => ⟨⟨_, (), rfl, rfl, trivial⟩, hS.F ht⟩) hS.2.2 eX12_qPartOf_60.2.1
      · have h := if_f c7 h
        by_cases c9 : p0 = 3
        · have h := if_t c9 h
          refine lv_tableIn (off := 61) (tgt := 62) hx hb eX12_owned_118.2.2.2.2.2.1 (by rw [c9]; decide) (by rw [c9]; decide) (by rw [c9]; decide) (by decide) ?_
          refine lv_aload_n hx hb eX12_qPartOf_60.2.2.1 rfl (lv_at hl 0 rfl) ?_
          refine va_get (D := D) (ci := 12) (v := .int (i2 (gI s 53))) (C := RX12) (T := TX12) (N := 116) hx hb ht inX12 hown hK hP 0 RW_0 rfl 53 (by decide) (ht (.fieldLink RX12 469 "CloneVolumesModel" "askEntries" "I") fl_X12_469) (fun _ h9 => h9) mF_53 eX12_qPartOf_60.2.2.2.1 ?_
          obtain ⟨hr10, h⟩ := rg_e h
          refine lv_i2l (v := i8 (gI s 53)) hx hb eX12_qPartOf_60.2.2.2.2.1 (i2_l hr10) ?_
          obtain rfl := Option.some.inj h
          exact W.lret (v := (i8 (gI s 53))) hx hb hr (fun t ht hW => ⟨⟨_, (), rfl, rfl, trivial⟩, hS.F ht⟩) hS.2.2 eX12_qPartOf_60.2.2.2.2.2.1
        · have h := if_f c9 h
          by_cases c11 : p0 = 4
          · have h := if_t c11 h
            refine lv_tableIn (off := 67) (tgt := 68) hx hb eX12_owned_118.2.2.2.2.2.1 (by rw [c11]; decide) (by rw [c11]; decide) (by rw [c11]; decide) (by decide) ?_
            refine lv_aload_n hx hb eX12_qPartOf_60.2.2.2.2.2.2.1 rfl (lv_at hl 0 rfl) ?_
            refine va_get (D := D) (ci := 12) (v := .int (i2 (gI s 50))) (C := RX12) (T := TX12) (N := 116) hx hb ht inX12 hown hK hP 0 RW_0 rfl 50 (by decide) (ht (.fieldLink RX12 457 "CloneVolumesModel" "askBlock" "I") fl_X12_457) (fun _ h9 => h9) mF_50 eX12_qPartOf_60.2.2.2.2.2.2.2 ?_
            obtain ⟨hr12, h⟩ := rg_e h
            refine lv_i2l (v := i8 (gI s 50)) hx hb eX12_qPartOf_72.1 (i2_l hr12) ?_
            obtain rfl := Option.some.inj h
            exact W.lret (v := (i8 (gI s 50))) hx hb hr (fun t ht hW => ⟨⟨_, (), rfl, rfl, trivial⟩, hS.F ht⟩) hS.2.2 eX12_qPartOf_72.2.1
          · have h := if_f c11 h
            by_cases c13 : p0 = 5
            · have h := if_t c13 h
              refine lv_tableIn (off := 73) (tgt := 74) hx hb eX12_owned_118.2.2.2.2.2.1 (by rw [c13]; decide) (by rw [c13]; decide) (by rw [c13]; decide) (by decide) ?_
              refine lv_aload_n hx hb eX12_qPartOf_72.2.2.1 rfl (lv_at hl 0 rfl) ?_
              refine lv_aload_n hx hb eX12_qPartOf_72.2.2.2.1 rfl (lv_at hl 0 rfl) ?_
              refine va_get (D := D) (ci := 12) (v := .int (i2 (gI s 50))) (C := RX12) (T := TX12) (N := 116) hx hb ht inX12 hown hK hP 0 RW_0 rfl 50 (by decide) (ht (.fieldLink RX12 457 "CloneVolumesModel" "askBlock" "I") fl_X12_457) (fun _ h9 => h9) mF_50 eX12_qPartOf_72.2.2.2.2.1 ?_
              obtain ⟨r15, hc14, h⟩ := bn_e h
              refine ycV (r0 := i2 r15) (As := [.int (i2 (gI s 50))]) (rest := []) (C := RX12) (n := 1) ⟨hx, hb, hml, hown, ht⟩ (k_x12_countOf l D a (gI s 50) _ _ hc14) (zgV ml_X12_432 im_X12_countOf se_X12_countOf in_X12 co_X12_countOf) rfl rfl (by decide +kernel) ⟨Nat.le_of_ble_eq_true rfl, Nat.le_of_ble_eq_true rfl⟩ hN hK hP hS 0 RW_0 rfl rfl rfl hl.1 rfl (Nat.le_of_ble_eq_true rfl) eX12_qPartOf_72.2.2.2.2.2.1 ⟨Nat.le_of_ble_eq_true rfl, Nat.le_of_ble_eq_true rfl⟩ (fun H locs hP hS => ?_)
              obtain ⟨hr16, h⟩ := rg_e h
              refine lv_i2l (v := i8 r15) hx hb eX12_qPartOf_72.2.2.2.2.2.2.1 (i2_l hr16) ?_
              obtain rfl := Option.some.inj h
              exact W.lret (v := (i8 r15)) hx hb hr (fun t ht hW => ⟨⟨_, (), rfl, rfl, trivial⟩, hS.F ht⟩) hS.2.2 eX12_qPartOf_72.2.2.2.2.2.2.2
            · have h := if_f c13 h
              by_cases c17 : p0 = 6
              · have h := if_t c17 h
                refine lv_tableIn (off := 83) (tgt := 84) hx hb eX12_owned_118.2.2.2.2.2.1 (by rw [c17]; decide) (by rw [c17]; decide) (by rw [c17]; decide) (by decide) ?_
                refine lv_aload_n hx hb eX12_qPartOf_84.1 rfl (lv_at hl 0 rfl) ?_
                refine lv_aload_n hx hb eX12_qPartOf_84.2.1 rfl (lv_at hl 0 rfl) ?_
                refine va_get (D := D) (ci := 12) (v := .int (i2 (gI s 50))) (C := RX12) (T := TX12) (N := 116) hx hb ht inX12 hown hK hP 0 RW_0 rfl 50 (by decide) (ht (.fieldLink RX12 457 "CloneVolumesModel" "askBlock" "I") fl_X12_457) (fun _ h9 => h9) mF_50 eX12_qPartOf_84.2.2.1 ?_
                obtain ⟨r19, hc18, h⟩ := bn_e h
                refine ycV (r0 := i2 r19) (As := [.int (i2 (gI s 50))]) (rest := []) (C := RX12) (n := 1) ⟨hx, hb, hml, hown, ht⟩ (k_x12_isFresh l D a (gI s 50) _ _ hc18) (zgV ml_X12_508 im_X12_isFresh se_X12_isFresh in_X12 co_X12_isFresh) rfl rfl (by decide +kernel) ⟨Nat.le_of_ble_eq_true rfl, Nat.le_of_ble_eq_true rfl⟩ hN hK hP hS 0 RW_0 rfl rfl rfl hl.1 rfl (Nat.le_of_ble_eq_true rfl) eX12_qPartOf_84.2.2.2.1 ⟨Nat.le_of_ble_eq_true rfl, Nat.le_of_ble_eq_true rfl⟩ (fun H locs hP hS => ?_)
                obtain ⟨hr20, h⟩ := rg_e h
                refine lv_if_eq (tgt := 99) hx hb eX12_qPartOf_84.2.2.2.2.1 (by decide) (fun c21 => ?_) (fun c21 => ?_)
                · have h := if_t ((i2_eq (x := r19) (y := 0) hr20 (by decide)).mp c21) h
                  refine lv_lconst (v := 0) hx hb eX12_qPartOf_84.2.2.2.2.2.2.2 (by decide) ?_
                  exact J100 0 _ _ _ ⟨hP, hS, lv_sub hl [] rfl, h⟩
                · have h := if_f (mt (i2_eq (x := r19) (y := 0) hr20 (by decide)).mpr c21) h
                  refine lv_lconst (v := 1) hx hb eX12_qPartOf_84.2.2.2.2.2.1 (by decide) ?_
                  refine lv_goto (tgt := 100) hx hb eX12_qPartOf_84.2.2.2.2.2.2.1 (by decide) ?_
                  exact J100 1 _ _ _ ⟨hP, hS, lv_sub hl [] rfl, h⟩
              · have h := if_f c17 h
                refine lv_tableOut (tgt := 101) hx hb eX12_owned_118.2.2.2.2.2.1 (by rw [i2_t hr2]; omega) (by decide) ?_
                refine lv_aload_n hx hb eX12_qPartOf_100.2.1 rfl (lv_at hl 0 rfl) ?_
                refine lv_aload_n hx hb eX12_qPartOf_100.2.2.1 rfl (lv_at hl 0 rfl) ?_
                refine va_get (D := D) (ci := 12) (v := .int (i2 (gI s 50))) (C := RX12) (T := TX12) (N := 116) hx hb ht inX12 hown hK hP 0 RW_0 rfl 50 (by decide) (ht (.fieldLink RX12 457 "CloneVolumesModel" "askBlock" "I") fl_X12_457) (fun _ h9 => h9) mF_50 eX12_qPartOf_100.2.2.2.1 ?_
                obtain ⟨r23, hc22, h⟩ := bn_e h
                refine ycV (r0 := i2 r23) (As := [.int (i2 (gI s 50))]) (rest := []) (C := RX12) (n := 1) ⟨hx, hb, hml, hown, ht⟩ (k_x12_savedOf l D a (gI s 50) _ _ hc22) (zgV ml_X12_438 im_X12_savedOf se_X12_savedOf in_X12 co_X12_savedOf) rfl rfl (by decide +kernel) ⟨Nat.le_of_ble_eq_true rfl, Nat.le_of_ble_eq_true rfl⟩ hN hK hP hS 0 RW_0 rfl rfl rfl hl.1 rfl (Nat.le_of_ble_eq_true rfl) eX12_qPartOf_100.2.2.2.2.1 ⟨Nat.le_of_ble_eq_true rfl, Nat.le_of_ble_eq_true rfl⟩ (fun H locs hP hS => ?_)
                obtain ⟨hr24, h⟩ := rg_e h
                refine lv_i2l (v := i8 r23) hx hb eX12_qPartOf_100.2.2.2.2.2.1 (i2_l hr24) ?_
                obtain rfl := Option.some.inj h
                exact W.lret (v := (i8 r23)) hx hb hr (fun t ht hW => ⟨⟨_, (), rfl, rfl, trivial⟩, hS.F ht⟩) hS.2.2 eX12_qPartOf_100.2.2.2.2.2.2.1
set_option maxHeartbeats 4000000 in
set_option maxRecDepth 100000 in
theorem k_x12_codesTell (l : Launch) (D : va_G) (a : Nat → Nat) (p0 : Int) (sz : Nat) (s : MS) (o : (Int × MS)) (h : m_x12_codesTell p0 s = some o) : yWl l yX12_codesTell cX12_codesTell 4 (some .long) { frames := 4, cells := 0, slots := 0, locals := 240 } D sz [.ref (a 200), .int (i2 p0)] (RW D a s) (RW D a o.2) (i8 o.1) := by
  refine Met.ofW (cc := cX12_codesTell) (maxL := 4) (ret := (some .long)) (by decide) rfl ?_
  intro p e s₀ m args below meth c s₁ B hml hv
  obtain ⟨rfl, ⟨hsz, hP, hK, hD0⟩, hN⟩ := hv
  have hx := B.exec
  have hb := B.bytes
  have hr := B.returns
  have hts := atoms_spec (ws := wz yX12_codesTell cX12_codesTell 4 (some .long)) B.pre
  have ht : ∀ w ∈ lw_gd, w.before _ s₀ = true := fun w h => hts w (List.mem_cons_of_mem _ h)
  have hown : s₀.vm.findClass RX12 = some m.cls := findClass_of_methodNamed B.named
  have hlocks := B.notSynchronized
  subst hsz
  have hD := hD0.self (sz := s₀.heap.size)
  generalize hAe : va_A (RW D a s) s₀.heap.size = A at hD ⊢
  have hA : ∀ q : Nat, s₀.heap.size ≤ q → A q := fun q h => by rw [← hAe]; exact Or.inr h
  have hS : va_S A s₀.heap s₀.heap [] := va_S.rf
  have hDD : ∀ t : MS, va_D A (RW D a t) := fun t => RW_D t hD
  have hl := lv_entry ([.ref (a 200), .int (i2 p0)]) (n := 4) (Nat.le_of_ble_eq_true rfl)
  rw [lg_entry_eq]
  generalize (lg_sl ([.ref (a 200), .int (i2 p0)]) ++ List.replicate (4 - (lg_sl ([.ref (a 200), .int (i2 p0)])).length) Slot.unset).toArray = ls at hl ⊢
  have hl : lv_has ls 4 [(0, .ref (a 200)), (1, .int (i2 p0))] := hl
  unfold m_x12_codesTell at h
  refine y_loop (pcJ := 19) (σ := Int × Int × MS) (fun n u H locs ls => va_P D vwCl (RW D a u.2.2) H ∧ va_S A s₀.heap H locs ∧ lv_has ls 4 [(0, .ref (a 200)), (1, .int (i2 u.1)), (2, .int (i2 u.2.1))] ∧ m_x12_codesTell_L19 n u.1 u.2.1 u.2.2 = some o) (fun u => []) (fun u H locs ls hI => by obtain ⟨_, _, _, h⟩ := hI; cases h) (fun n19 ih19 u H locs ls hI => ?_) (fun J19 => ?_)
  · obtain ⟨hP, hS, hl, h⟩ := hI
    obtain ⟨x1, x2, s3⟩ := u
    have hP : va_P D vwCl (RW D a s3) H := hP
    have hl : lv_has ls 4 [(0, .ref (a 200)), (1, .int (i2 x1)), (2, .int (i2 x2))] := hl
    have h : m_x12_codesTell_b19 (m_x12_codesTell_L19 n19) x1 x2 s3 = some o := h
    unfold m_x12_codesTell_b19 at h
    refine y_head (pcJ := 136) (σ := Int × Int × MS) (fun u H locs ls => va_P D vwCl (RW D a u.2.2) H ∧ va_S A s₀.heap H locs ∧ lv_has ls 4 [(0, .ref (a 200)), (1, .int (i2 u.1)), (2, .int (i2 u.2.1))] ∧ m_x12_codesTell_J136 (m_x12_codesTell_L19 n19) u.1 u.2.1 u.2.2 = some o) (fun u => []) (fun u H locs ls hI => ?_) (fun J136 => ?_)
    · obtain ⟨hP, hS, hl, h⟩ := hI
      obtain ⟨x4, x5, s6⟩ := u
      have hP : va_P D vwCl (RW D a s6) H := hP
      have hl : lv_has ls 4 [(0, .ref (a 200)), (1, .int (i2 x4)), (2, .int (i2 x5))] := hl
      have h : m_x12_codesTell_J136 (m_x12_codesTell_L19 n19) x4 x5 s6 = some o := h
      unfold m_x12_codesTell_J136 at h
      refine lv_iinc (v := i2 (x5 + 1)) (lv' := [(2, .int (i2 (x5 + 1))), (0, .ref (a 200)), (1, .int (i2 x4))]) hx hb eX12_codesTell_136.1 hl (k := 2) rfl (i2_add x5 1) (by decide) rfl (fun ls hl => ?_)
      refine lv_goto (tgt := 19) hx hb eX12_codesTell_136.2.1 (by decide) ?_
      exact ih19 (x4, x5 + 1, s6) _ _ _ ⟨hP, hS, lv_sub hl [1, 2, 0] rfl, h⟩
    refine lv_iload_n hx hb eX12_codesTell_14.2.2.2.2.2.1 rfl (lv_at hl 2 rfl) ?_
    refine lv_aload_n hx hb eX12_codesTell_14.2.2.2.2.2.2.1 rfl (lv_at hl 0 rfl) ?_
    refine va_get (D := D) (ci := 12) (v := .ref (a 43)) (C := RX12) (T := TX12) (N := 116) hx hb ht inX12 hown hK hP 0 RW_0 rfl 43 (by decide) (ht (.fieldLink RX12 115 "CloneVolumesModel" "codeEnd" "[I") fl_X12_115) (fun _ h9 => h9) mF_43 eX12_codesTell_14.2.2.2.2.2.2.2 ?_
    refine lv_iconst (v := 3) hx hb eX12_codesTell_24.1 (by decide) ?_
    refine lv_iload_n hx hb eX12_codesTell_24.2.1 rfl (lv_at hl 1 rfl) ?_
    refine lv_iadd hx hb eX12_codesTell_24.2.2.1 ?_
    refine z_topi (y := i2 (3 + x1)) (i2_add 3 x1) ?_
    obtain ⟨y7, ey7, iy7, h⟩ := rdI_e h
    refine ya_iald (i := (3 + x1)) hx hb hK hP 34 0 RW_34 rfl (by decide) ey7 iy7 eX12_codesTell_24.2.2.2.1 ?_
    obtain ⟨hr8, h⟩ := rg_e h
    obtain ⟨hr9, h⟩ := rg_e h
    refine lv_icmp_ge (tgt := 142) hx hb eX12_codesTell_24.2.2.2.2.1 (by decide) (fun c10 => ?_) (fun c10 => ?_)
    · have h := if_t ((i2_le (x := y7) (y := x2) hr9 hr8).mp c10) h
      refine lv_aload_n hx hb eX12_codesTell_136.2.2.1 rfl (lv_at hl 0 rfl) ?_
      refine va_get (D := D) (ci := 12) (v := .ref (a 107)) (C := RX12) (T := TX12) (N := 116) hx hb ht inX12 hown hK hP 0 RW_0 rfl 107 (by decide) (ht (.fieldLink RX12 249 "CloneVolumesModel" "qPile" "[J") fl_X12_249) (fun _ h9 => h9) mF_107 eX12_codesTell_136.2.2.2.1 ?_
      refine lv_iconst (v := 0) hx hb eX12_codesTell_136.2.2.2.2.1 (by decide) ?_
      obtain ⟨yl11, eyl11, iyl11, h⟩ := rdL_e h
      refine ya_lald (i := 0) hx hb hK hP 77 2 RW_77 rfl (by decide) eyl11 iyl11 eX12_codesTell_136.2.2.2.2.2.1 ?_
      obtain rfl := Option.some.inj h
      exact W.lret (v := (i8 yl11)) hx hb hr (fun t ht hW => ⟨⟨_, (), rfl, rfl, by rw [ht]; exact hP, va_K.moved hW.alike hK, hDD _⟩, hS.F ht⟩) hS.2.2 eX12_codesTell_136.2.2.2.2.2.2.1
    · have h := if_f (mt (i2_le (x := y7) (y := x2) hr9 hr8).mpr c10) h
      refine lv_aload_n hx hb eX12_codesTell_24.2.2.2.2.2.1 rfl (lv_at hl 0 rfl) ?_
      refine va_get (D := D) (ci := 12) (v := .ref (a 44)) (C := RX12) (T := TX12) (N := 116) hx hb ht inX12 hown hK hP 0 RW_0 rfl 44 (by decide) (ht (.fieldLink RX12 118 "CloneVolumesModel" "codes" "[I") fl_X12_118) (fun _ h9 => h9) mF_44 eX12_codesTell_24.2.2.2.2.2.2.1 ?_
      refine lv_sipush (v := 1600) hx hb eX12_codesTell_24.2.2.2.2.2.2.2 (by decide) ?_
      refine lv_iload_n hx hb eX12_codesTell_38.1 rfl (lv_at hl 2 rfl) ?_
      refine lv_iadd hx hb eX12_codesTell_38.2.1 ?_
      refine z_topi (y := i2 (1600 + x2)) (i2_add 1600 x2) ?_
      obtain ⟨y12, ey12, iy12, h⟩ := rdI_e h
      refine ya_iald (i := (1600 + x2)) hx hb hK hP 35 0 RW_35 rfl (by decide) ey12 iy12 eX12_codesTell_38.2.2.1 ?_
      refine lv_istore_n (lv' := [(3, .int (i2 y12)), (0, .ref (a 200)), (1, .int (i2 x1)), (2, .int (i2 x2))]) hx hb eX12_codesTell_38.2.2.2.1 rfl hl (by decide) rfl (fun ls hl => ?_)
      refine lv_iload_n hx hb eX12_codesTell_38.2.2.2.2.1 rfl (lv_at hl 0 rfl) ?_
      refine lv_sipush (v := 1000) hx hb eX12_codesTell_38.2.2.2.2.2.1 (by decide) ?_
      obtain ⟨hr13, h⟩ := rg_e h
      refine lv_icmp_lt (tgt := 62) hx hb eX12_codesTell_38.2.2.2.2.2.2.1 (by decide) (fun c14 => ?_) (fun c14 => ?_)
      · have h := if_t ((i2_lt (x := y12) (y := 1000) hr13 (by decide)).mp c14) h
        refine lv_iload_n hx hb eX12_codesTell_50.2.2.2.2.2.2.1 rfl (lv_at hl 0 rfl) ?_
        refine lv_bipush (v := 40) hx hb eX12_codesTell_50.2.2.2.2.2.2.2 (by decide) ?_
        obtain ⟨hr15, h⟩ := rg_e h
        refine lv_icmp_lt (tgt := 84) hx hb eX12_codesTell_65.1 (by decide) (fun c16 => ?_) (fun c16 => ?_)
        · have h := if_t ((i2_lt (x := y12) (y := 40) hr15 (by decide)).mp c16) h
          refine lv_iload_n hx hb eX12_codesTell_78.2.2.1 rfl (lv_at hl 0 rfl) ?_
          refine lv_bipush (v := 13) hx hb eX12_codesTell_78.2.2.2.1 (by decide) ?_
          obtain ⟨hr17, h⟩ := rg_e h
          refine lv_icmp_ne (tgt := 98) hx hb eX12_codesTell_78.2.2.2.2.1 (by decide) (fun c18 => ?_) (fun c18 => ?_)
          · have h := if_f (mt (i2_eq (x := y12) (y := 13) hr17 (by decide)).mpr c18) h
            refine lv_iload_n hx hb eX12_codesTell_95.2.1 rfl (lv_at hl 0 rfl) ?_
            refine lv_bipush (v := 12) hx hb eX12_codesTell_95.2.2.1 (by decide) ?_
            obtain ⟨hr19, h⟩ := rg_e h
            refine lv_icmp_ne (tgt := 131) hx hb eX12_codesTell_95.2.2.2.1 (by decide) (fun c20 => ?_) (fun c20 => ?_)
            · have h := if_f (mt (i2_eq (x := y12) (y := 12) hr19 (by decide)).mpr c20) h
              refine lv_aload_n hx hb eX12_codesTell_124.2.2.2.2.2.1 rfl (lv_at hl 1 rfl) ?_
              refine lv_iload_n hx hb eX12_codesTell_124.2.2.2.2.2.2.1 rfl (lv_at hl 0 rfl) ?_
              obtain ⟨s22, hc21, h⟩ := bn_e h
              refine ywVv (As := [.int (i2 y12)]) (rest := []) (C := RX12) (n := 1) (ws' := RW D a s22) ⟨hx, hb, hml, hown, ht⟩ (k_x12_qJoins l D a y12 _ _ _ hc21) (zgV ml_X12_454 im_X12_qJoins se_X12_qJoins in_X12 co_X12_qJoins) rfl rfl (by decide +kernel) ⟨Nat.le_of_ble_eq_true rfl, Nat.le_of_ble_eq_true rfl⟩ hN hK hP (hDD _) hS hA 0 RW_0 rfl rfl rfl hl.1 rfl (Nat.le_of_ble_eq_true rfl) eX12_codesTell_124.2.2.2.2.2.2.2 ⟨Nat.le_of_ble_eq_true rfl, Nat.le_of_ble_eq_true rfl⟩ (fun H locs hP hS => ?_)
              exact J136 (x1, x2, s22) _ _ _ ⟨hP, hS, lv_sub hl [1, 2, 3] rfl, h⟩
            · have h := if_t ((i2_eq (x := y12) (y := 12) hr19 (by decide)).mp c20) h
              refine lv_aload_n hx hb eX12_codesTell_95.2.2.2.2.1 rfl (lv_at hl 1 rfl) ?_
              refine va_get (D := D) (ci := 12) (v := .ref (a 107)) (C := RX12) (T := TX12) (N := 116) hx hb ht inX12 hown hK hP 0 RW_0 rfl 107 (by decide) (ht (.fieldLink RX12 249 "CloneVolumesModel" "qPile" "[J") fl_X12_249) (fun _ h9 => h9) mF_107 eX12_codesTell_95.2.2.2.2.2.1 ?_
              refine lv_aload_n hx hb eX12_codesTell_95.2.2.2.2.2.2.1 rfl (lv_at hl 1 rfl) ?_
              refine va_get (D := D) (ci := 12) (v := .int (i2 (gI s3 108))) (C := RX12) (T := TX12) (N := 116) hx hb ht inX12 hown hK hP 0 RW_0 rfl 108 (by decide) (ht (.fieldLink RX12 443 "CloneVolumesModel" "qPiled" "I") fl_X12_443) (fun _ h9 => h9) mF_108 eX12_codesTell_95.2.2.2.2.2.2.2 ?_
              refine lv_iconst (v := 1) hx hb eX12_codesTell_112.1 (by decide) ?_
              refine lv_isub hx hb eX12_codesTell_112.2.1 ?_
              refine z_topi (y := i2 ((gI s3 108) - 1)) (i2_sub (gI s3 108) 1) ?_
              refine lv_lconst (v := 1) hx hb eX12_codesTell_112.2.2.1 (by decide) ?_
              refine lv_aload_n hx hb eX12_codesTell_112.2.2.2.1 rfl (lv_at hl 1 rfl) ?_
              refine va_get (D := D) (ci := 12) (v := .ref (a 107)) (C := RX12) (T := TX12) (N := 116) hx hb ht inX12 hown hK hP 0 RW_0 rfl 107 (by decide) (ht (.fieldLink RX12 249 "CloneVolumesModel" "qPile" "[J") fl_X12_249) (fun _ h9 => h9) mF_107 eX12_codesTell_112.2.2.2.2.1 ?_
              refine lv_aload_n hx hb eX12_codesTell_112.2.2.2.2.2.1 rfl (lv_at hl 1 rfl) ?_
              refine va_get (D := D) (ci := 12) (v := .int (i2 (gI s3 108))) (C := RX12) (T := TX12) (N := 116) hx hb ht inX12 hown hK hP 0 RW_0 rfl 108 (by decide) (ht (.fieldLink RX12 443 "CloneVolumesModel" "qPiled" "I") fl_X12_443) (fun _ h9 => h9) mF_108 eX12_codesTell_112.2.2.2.2.2.2.1 ?_
              refine lv_iconst (v := 1) hx hb eX12_codesTell_112.2.2.2.2.2.2.2 (by decide) ?_
              refine lv_isub hx hb eX12_codesTell_124.1 ?_
              refine z_topi (y := i2 ((gI s3 108) - 1)) (i2_sub (gI s3 108) 1) ?_
              obtain ⟨yl23, eyl23, iyl23, h⟩ := rdL_e h
              refine ya_lald (i := ((gI s3 108) - 1)) hx hb hK hP 77 2 RW_77 rfl (by decide) eyl23 iyl23 eX12_codesTell_124.2.1 ?_
              refine lv_lsub hx hb eX12_codesTell_124.2.2.1 ?_
              refine z_topl (y := i8 (1 - yl23)) (i8_sub 1 yl23) ?_
              obtain ⟨hi24, h⟩ := inb_e h
              refine ya_last (i := ((gI s3 108) - 1)) (x := (1 - yl23)) hx hb hK hP (hDD _) hS 77 2 RW_77 rfl (by decide) hi24 eX12_codesTell_124.2.2.2.1 (RW_w77 _) (fun H locs hP hS => ?_)
              obtain ⟨s25, hs25, h⟩ := st_e h
              rw [hs25] at hP
              refine lv_goto (tgt := 136) hx hb eX12_codesTell_124.2.2.2.2.1 (by decide) ?_
              exact J136 (x1, x2, s25) _ _ _ ⟨hP, hS, lv_sub hl [1, 2, 3] rfl, h⟩
          · have h := if_t ((i2_eq (x := y12) (y := 13) hr17 (by decide)).mp c18) h
            refine lv_aload_n hx hb eX12_codesTell_78.2.2.2.2.2.1 rfl (lv_at hl 1 rfl) ?_
            refine lv_lconst (v := 1) hx hb eX12_codesTell_78.2.2.2.2.2.2.1 (by decide) ?_
            obtain ⟨s27, hc26, h⟩ := bn_e h
            refine ywVv (As := [.long 1]) (rest := []) (C := RX12) (n := 1) (ws' := RW D a s27) ⟨hx, hb, hml, hown, ht⟩ (k_x12_qPuts l D a 1 _ _ _ hc26) (zgV ml_X12_446 im_X12_qPuts se_X12_qPuts in_X12 co_X12_qPuts) rfl rfl (by decide +kernel) ⟨Nat.le_of_ble_eq_true rfl, Nat.le_of_ble_eq_true rfl⟩ hN hK hP (hDD _) hS hA 0 RW_0 rfl rfl rfl hl.1 rfl (Nat.le_of_ble_eq_true rfl) eX12_codesTell_78.2.2.2.2.2.2.2 ⟨Nat.le_of_ble_eq_true rfl, Nat.le_of_ble_eq_true rfl⟩ (fun H locs hP hS => ?_)
            refine lv_goto (tgt := 136) hx hb eX12_codesTell_95.1 (by decide) ?_
            exact J136 (x1, x2, s27) _ _ _ ⟨hP, hS, lv_sub hl [1, 2, 3] rfl, h⟩
        · have h := if_f (mt (i2_lt (x := y12) (y := 40) hr15 (by decide)).mpr c16) h
          refine lv_aload_n hx hb eX12_codesTell_65.2.1 rfl (lv_at hl 1 rfl) ?_
          refine lv_aload_n hx hb eX12_codesTell_65.2.2.1 rfl (lv_at hl 1 rfl) ?_
          refine lv_iload_n hx hb eX12_codesTell_65.2.2.2.1 rfl (lv_at hl 0 rfl) ?_
          refine lv_bipush (v := 40) hx hb eX12_codesTell_65.2.2.2.2.1 (by decide) ?_
          refine lv_isub hx hb eX12_codesTell_65.2.2.2.2.2.1 ?_
          refine z_topi (y := i2 (y12 - 40)) (i2_sub y12 40) ?_
          refine lv_iconst (v := 0) hx hb eX12_codesTell_65.2.2.2.2.2.2.1 (by decide) ?_
          obtain ⟨rl29, hc28, h⟩ := bn_e h
          refine ycVl (r0 := i8 rl29) (As := [.int (i2 (y12 - 40)), .int 0]) (rest := [.ref (a 200)]) (C := RX12) (n := 2) ⟨hx, hb, hml, hown, ht⟩ (k_x12_qPartOf l D a (y12 - 40) 0 _ _ hc28) (zgV ml_X12_450 im_X12_qPartOf se_X12_qPartOf in_X12 co_X12_qPartOf) rfl rfl (by decide +kernel) ⟨Nat.le_of_ble_eq_true rfl, Nat.le_of_ble_eq_true rfl⟩ hN hK hP hS 0 RW_0 rfl rfl rfl hl.1 rfl (Nat.le_of_ble_eq_true rfl) eX12_codesTell_65.2.2.2.2.2.2.2 ⟨Nat.le_of_ble_eq_true rfl, Nat.le_of_ble_eq_true rfl⟩ (fun H locs hP hS => ?_)
          obtain ⟨s31, hc30, h⟩ := bn_e h
          refine ywVv (As := [.long (i8 rl29)]) (rest := []) (C := RX12) (n := 1) (ws' := RW D a s31) ⟨hx, hb, hml, hown, ht⟩ (k_x12_qPuts l D a rl29 _ _ _ hc30) (zgV ml_X12_446 im_X12_qPuts se_X12_qPuts in_X12 co_X12_qPuts) rfl rfl (by decide +kernel) ⟨Nat.le_of_ble_eq_true rfl, Nat.le_of_ble_eq_true rfl⟩ hN hK hP (hDD _) hS hA 0 RW_0 rfl rfl rfl hl.1 rfl (Nat.le_of_ble_eq_true rfl) eX12_codesTell_78.1 ⟨Nat.le_of_ble_eq_true rfl, Nat.le_of_ble_eq_true rfl⟩ (fun H locs hP hS => ?_)
          refine lv_goto (tgt := 136) hx hb eX12_codesTell_78.2.1 (by decide) ?_
          exact J136 (x1, x2, s31) _ _ _ ⟨hP, hS, lv_sub hl [1, 2, 3] rfl, h⟩
      · have h := if_f (mt (i2_lt (x := y12) (y := 1000) hr13 (by decide)).mpr c14) h
        refine lv_aload_n hx hb eX12_codesTell_38.2.2.2.2.2.2.2 rfl (lv_at hl 1 rfl) ?_
        refine lv_iload_n hx hb eX12_codesTell_50.1 rfl (lv_at hl 0 rfl) ?_
        refine lv_sipush (v := 1000) hx hb eX12_codesTell_50.2.1 (by decide) ?_
        refine lv_isub hx hb eX12_codesTell_50.2.2.1 ?_
        refine z_topi (y := i2 (y12 - 1000)) (i2_sub y12 1000) ?_
        obtain ⟨hr32, h⟩ := rg_e h
        refine lv_i2l (v := i8 (y12 - 1000)) hx hb eX12_codesTell_50.2.2.2.1 (i2_l hr32) ?_
        obtain ⟨s34, hc33, h⟩ := bn_e h
        refine ywVv (As := [.long (i8 (y12 - 1000))]) (rest := []) (C := RX12) (n := 1) (ws' := RW D a s34) ⟨hx, hb, hml, hown, ht⟩ (k_x12_qPuts l D a (y12 - 1000) _ _ _ hc33) (zgV ml_X12_446 im_X12_qPuts se_X12_qPuts in_X12 co_X12_qPuts) rfl rfl (by decide +kernel) ⟨Nat.le_of_ble_eq_true rfl, Nat.le_of_ble_eq_true rfl⟩ hN hK hP (hDD _) hS hA 0 RW_0 rfl rfl rfl hl.1 rfl (Nat.le_of_ble_eq_true rfl) eX12_codesTell_50.2.2.2.2.1 ⟨Nat.le_of_ble_eq_true rfl, Nat.le_of_ble_eq_true rfl⟩ (fun H locs hP hS => ?_)
        refine lv_goto (tgt := 136) hx hb eX12_codesTell_50.2.2.2.2.2.1 (by decide) ?_
        exact J136 (x1, x2, s34) _ _ _ ⟨hP, hS, lv_sub hl [1, 2, 3] rfl, h⟩
  refine lv_aload_n hx hb eX12_codesTell_0.1 rfl (lv_at hl 0 rfl) ?_
  refine lv_iload_n hx hb eX12_codesTell_0.2.1 rfl (lv_at hl 1 rfl) ?_
  refine ya_put (D := D) (ci := 12) (v := .int (i2 p0)) (ty := .int) (C := RX12) (T := TX12) (N := 116) hx hb ht inX12 tyX12 tyX12_ok nmX12 hown hK hP (hDD _) hS 0 RW_0 rfl 48 (by decide) (ht (.fieldLink RX12 324 "CloneVolumesModel" "textKind" "I") fl_X12_324) (fun _ h9 => h9) rfl (by decide +kernel) rfl rfl (by rw [mF_len]; decide) eX12_codesTell_0.2.2.1 (RW_f48 p0) (fun H locs hP hS => ?_)
  obtain ⟨s35, hs35, h⟩ := st_e h
  rw [hs35] at hP
  refine lv_aload_n hx hb eX12_codesTell_0.2.2.2.1 rfl (lv_at hl 0 rfl) ?_
  refine lv_iconst (v := 0) hx hb eX12_codesTell_0.2.2.2.2.1 (by decide) ?_
  refine ya_put (D := D) (ci := 12) (v := .int 0) (ty := .int) (C := RX12) (T := TX12) (N := 116) hx hb ht inX12 tyX12 tyX12_ok nmX12 hown hK hP (hDD _) hS 0 RW_0 rfl 108 (by decide) (ht (.fieldLink RX12 443 "CloneVolumesModel" "qPiled" "I") fl_X12_443) (fun _ h9 => h9) rfl (by decide +kernel) rfl rfl (by rw [mF_len]; decide) eX12_codesTell_0.2.2.2.2.2.1 (RW_f108 0) (fun H locs hP hS => ?_)
  obtain ⟨s36, hs36, h⟩ := st_e h
  rw [hs36] at hP
  refine lv_aload_n hx hb eX12_codesTell_0.2.2.2.2.2.2.1 rfl (lv_at hl 0 rfl) ?_
  refine va_get (D := D) (ci := 12) (v := .ref (a 42)) (C := RX12) (T := TX12) (N := 116) hx hb ht inX12 hown hK hP 0 RW_0 rfl 42 (by decide) (ht (.fieldLink RX12 112 "CloneVolumesModel" "codeFrom" "[I") fl_X12_112) (fun _ h9 => h9) mF_42 eX12_codesTell_0.2.2.2.2.2.2.2 ?_
  refine lv_iconst (v := 3) hx hb eX12_codesTell_14.1 (by decide) ?_
  refine lv_iload_n hx hb eX12_codesTell_14.2.1 rfl (lv_at hl 1 rfl) ?_
  refine lv_iadd hx hb eX12_codesTell_14.2.2.1 ?_
  refine z_topi (y := i2 (3 + p0)) (i2_add 3 p0) ?_
  obtain ⟨y37, ey37, iy37, h⟩ := rdI_e h
  refine ya_iald (i := (3 + p0)) hx hb hK hP 33 0 RW_33 rfl (by decide) ey37 iy37 eX12_codesTell_14.2.2.2.1 ?_
  refine lv_istore_n (lv' := [(2, .int (i2 y37)), (0, .ref (a 200)), (1, .int (i2 p0))]) hx hb eX12_codesTell_14.2.2.2.2.1 rfl hl (by decide) rfl (fun ls hl => ?_)
  exact J19 FU (p0, y37, s36) _ _ _ ⟨hP, hS, lv_sub hl [1, 2, 0] rfl, h⟩
set_option maxHeartbeats 4000000 in
set_option maxRecDepth 100000 in
theorem k_x12_taken (l : Launch) (D : va_G) (a : Nat → Nat) (p0 : Int) (p1 : Int) (sz : Nat) (s : MS) (o : (Int × MS)) (h : m_x12_taken p0 p1 s = some o) : yWi l yX12_taken cX12_taken 9 (some .int) { frames := 5, cells := 0, slots := 0, locals := 300 } D sz [.ref (a 200), .int (i2 p0), .int (i2 p1)] (RW D a s) (RW D a o.2) (i2 o.1) := by
  refine Met.ofW (cc := cX12_taken) (maxL := 9) (ret := (some .int)) (by decide) rfl ?_
  intro p e s₀ m args below meth c s₁ B hml hv
  obtain ⟨rfl, ⟨hsz, hP, hK, hD0⟩, hN⟩ := hv
  have hx := B.exec
  have hb := B.bytes
  have hr := B.returns
  have hts := atoms_spec (ws := wz yX12_taken cX12_taken 9 (some .int)) B.pre
  have ht : ∀ w ∈ lw_gd, w.before _ s₀ = true := fun w h => hts w (List.mem_cons_of_mem _ h)
  have hown : s₀.vm.findClass RX12 = some m.cls := findClass_of_methodNamed B.named
  have hlocks := B.notSynchronized
  subst hsz
  have hD := hD0.self (sz := s₀.heap.size)
  generalize hAe : va_A (RW D a s) s₀.heap.size = A at hD ⊢
  have hA : ∀ q : Nat, s₀.heap.size ≤ q → A q := fun q h => by rw [← hAe]; exact Or.inr h
  have hS : va_S A s₀.heap s₀.heap [] := va_S.rf
  have hDD : ∀ t : MS, va_D A (RW D a t) := fun t => RW_D t hD
  have hl := lv_entry ([.ref (a 200), .int (i2 p0), .int (i2 p1)]) (n := 9) (Nat.le_of_ble_eq_true rfl)
  rw [lg_entry_eq]
  generalize (lg_sl ([.ref (a 200), .int (i2 p0), .int (i2 p1)]) ++ List.replicate (9 - (lg_sl ([.ref (a 200), .int (i2 p0), .int (i2 p1)])).length) Slot.unset).toArray = ls at hl ⊢
  have hl : lv_has ls 9 [(0, .ref (a 200)), (1, .int (i2 p0)), (2, .int (i2 p1))] := hl
  unfold m_x12_taken at h
  refine y_loop (pcJ := 126) (σ := Int × Int × Int × Int × MS) (fun n u H locs ls => va_P D vwCl (RW D a u.2.2.2.2) H ∧ va_S A s₀.heap H locs ∧ lv_has ls 9 [(0, .ref (a 200)), (1, .int (i2 u.1)), (3, .int (i2 u.2.1)), (6, .int (i2 u.2.2.1)), (7, .int (i2 u.2.2.2.1))] ∧ m_x12_taken_L126 n u.1 u.2.1 u.2.2.1 u.2.2.2.1 u.2.2.2.2 = some o) (fun u => []) (fun u H locs ls hI => by obtain ⟨_, _, _, h⟩ := hI; cases h) (fun n126 ih126 u H locs ls hI => ?_) (fun J126 => ?_)
  · obtain ⟨hP, hS, hl, h⟩ := hI
    obtain ⟨x1, x2, x3, x4, s5⟩ := u
    have hP : va_P D vwCl (RW D a s5) H := hP
    have hl : lv_has ls 9 [(0, .ref (a 200)), (1, .int (i2 x1)), (3, .int (i2 x2)), (6, .int (i2 x3)), (7, .int (i2 x4))] := hl
    have h : m_x12_taken_b126 (m_x12_taken_L126 n126) x1 x2 x3 x4 s5 = some o := h
    unfold m_x12_taken_b126 at h
    refine lv_iload hx hb eX12_taken_124.2.1 (lv_at hl 4 rfl) ?_
    refine lv_bipush (v := 16) hx hb eX12_taken_124.2.2.1 (by decide) ?_
    obtain ⟨hr6, h⟩ := rg_e h
    refine lv_icmp_ge (tgt := 150) hx hb eX12_taken_124.2.2.2.1 (by decide) (fun c7 => ?_) (fun c7 => ?_)
    · have h := if_t ((i2_le (x := 16) (y := x4) (by decide) hr6).mp c7) h
      refine lv_aload_n hx hb eX12_taken_141.2.2.2.2.2.1 rfl (lv_at hl 0 rfl) ?_
      refine va_get (D := D) (ci := 12) (v := .ref (a 49)) (C := RX12) (T := TX12) (N := 116) hx hb ht inX12 hown hK hP 0 RW_0 rfl 49 (by decide) (ht (.fieldLink RX12 121 "CloneVolumesModel" "now" "[I") fl_X12_121) (fun _ h9 => h9) mF_49 eX12_taken_141.2.2.2.2.2.2.1 ?_
      refine lv_iload hx hb eX12_taken_141.2.2.2.2.2.2.2 (lv_at hl 3 rfl) ?_
      refine lv_iconst (v := 1) hx hb eX12_taken_156.1 (by decide) ?_
      obtain ⟨hi8, h⟩ := inb_e h
      refine ya_iast (i := x3) (x := 1) hx hb hK hP (hDD _) hS 36 0 RW_36 rfl (by decide) hi8 eX12_taken_156.2.1 (RW_w36 _) (fun H locs hP hS => ?_)
      obtain ⟨s9, hs9, h⟩ := st_e h
      rw [hs9] at hP
      refine lv_aload_n hx hb eX12_taken_156.2.2.1 rfl (lv_at hl 0 rfl) ?_
      refine va_get (D := D) (ci := 12) (v := .ref (a 49)) (C := RX12) (T := TX12) (N := 116) hx hb ht inX12 hown hK hP 0 RW_0 rfl 49 (by decide) (ht (.fieldLink RX12 121 "CloneVolumesModel" "now" "[I") fl_X12_121) (fun _ h9 => h9) mF_49 eX12_taken_156.2.2.2.1 ?_
      refine lv_iload hx hb eX12_taken_156.2.2.2.2.1 (lv_at hl 3 rfl) ?_
      refine lv_iconst (v := 2) hx hb eX12_taken_156.2.2.2.2.2.1 (by decide) ?_
      refine lv_iadd hx hb eX12_taken_156.2.2.2.2.2.2.1 ?_
      refine z_topi (y := i2 (x3 + 2)) (i2_add x3 2) ?_
      refine lv_iload_n hx hb eX12_taken_156.2.2.2.2.2.2.2 rfl (lv_at hl 1 rfl) ?_
      obtain ⟨hi10, h⟩ := inb_e h
      refine ya_iast (i := (x3 + 2)) (x := x1) hx hb hK hP (hDD _) hS 36 0 RW_36 rfl (by decide) hi10 eX12_taken_167.1 (RW_w36 _) (fun H locs hP hS => ?_)
      obtain ⟨s11, hs11, h⟩ := st_e h
      rw [hs11] at hP
      refine lv_aload_n hx hb eX12_taken_167.2.1 rfl (lv_at hl 0 rfl) ?_
      refine va_get (D := D) (ci := 12) (v := .ref (a 54)) (C := RX12) (T := TX12) (N := 116) hx hb ht inX12 hown hK hP 0 RW_0 rfl 54 (by decide) (ht (.fieldLink RX12 124 "CloneVolumesModel" "isTouched" "[Z") fl_X12_124) (fun _ h9 => h9) mF_54 eX12_taken_167.2.2.1 ?_
      refine lv_iload_n hx hb eX12_taken_167.2.2.2.1 rfl (lv_at hl 2 rfl) ?_
      refine lv_iconst (v := 1) hx hb eX12_taken_167.2.2.2.2.1 (by decide) ?_
      obtain ⟨hi12, h⟩ := inb_e h
      obtain ⟨hb13, h⟩ := bo_e h
      refine ya_zast (i := x2) (x := 1) hx hb hK hP (hDD _) hS 37 3 RW_37 rfl (by decide) hi12 hb13 eX12_taken_167.2.2.2.2.2.1 (RW_w37 _) (fun H locs hP hS => ?_)
      obtain ⟨s14, hs14, h⟩ := st_e h
      rw [hs14] at hP
      refine lv_iload_n hx hb eX12_taken_167.2.2.2.2.2.2.1 rfl (lv_at hl 2 rfl) ?_
      obtain rfl := Option.some.inj h
      exact W.iret (v := (i2 x2)) hx hb hr (fun t ht hW => ⟨⟨_, (), rfl, rfl, by rw [ht]; exact hP, va_K.moved hW.alike hK, hDD _⟩, hS.F ht⟩) hS.2.2 eX12_taken_167.2.2.2.2.2.2.2
    · have h := if_f (mt (i2_le (x := 16) (y := x4) (by decide) hr6).mpr c7) h
      refine lv_aload_n hx hb eX12_taken_124.2.2.2.2.1 rfl (lv_at hl 0 rfl) ?_
      refine va_get (D := D) (ci := 12) (v := .ref (a 49)) (C := RX12) (T := TX12) (N := 116) hx hb ht inX12 hown hK hP 0 RW_0 rfl 49 (by decide) (ht (.fieldLink RX12 121 "CloneVolumesModel" "now" "[I") fl_X12_121) (fun _ h9 => h9) mF_49 eX12_taken_124.2.2.2.2.2.1 ?_
      refine lv_iload hx hb eX12_taken_124.2.2.2.2.2.2.1 (lv_at hl 3 rfl) ?_
      refine lv_iload hx hb eX12_taken_124.2.2.2.2.2.2.2 (lv_at hl 4 rfl) ?_
      refine lv_iadd hx hb eX12_taken_141.1 ?_
      refine z_topi (y := i2 (x3 + x4)) (i2_add x3 x4) ?_
      refine lv_iconst (v := 0) hx hb eX12_taken_141.2.1 (by decide) ?_
      obtain ⟨hi15, h⟩ := inb_e h
      refine ya_iast (i := (x3 + x4)) (x := 0) hx hb hK hP (hDD _) hS 36 0 RW_36 rfl (by decide) hi15 eX12_taken_141.2.2.1 (RW_w36 _) (fun H locs hP hS => ?_)
      obtain ⟨s16, hs16, h⟩ := st_e h
      rw [hs16] at hP
      refine lv_iinc (v := i2 (x4 + 1)) (lv' := [(7, .int (i2 (x4 + 1))), (0, .ref (a 200)), (1, .int (i2 x1)), (3, .int (i2 x2)), (6, .int (i2 x3))]) hx hb eX12_taken_141.2.2.2.1 hl (k := 4) rfl (i2_add x4 1) (by decide) rfl (fun ls hl => ?_)
      refine lv_goto (tgt := 126) hx hb eX12_taken_141.2.2.2.2.1 (by decide) ?_
      exact ih126 (x1, x2, x3, x4 + 1, s16) _ _ _ ⟨hP, hS, lv_sub hl [1, 2, 3, 4, 0] rfl, h⟩
  refine y_head (pcJ := 102) (σ := Int × Int × MS) (fun u H locs ls => va_P D vwCl (RW D a u.2.2) H ∧ va_S A s₀.heap H locs ∧ lv_has ls 9 [(0, .ref (a 200)), (1, .int (i2 u.1)), (3, .int (i2 u.2.1))] ∧ m_x12_taken_J102 u.1 u.2.1 u.2.2 = some o) (fun u => []) (fun u H locs ls hI => ?_) (fun J102 => ?_)
  · obtain ⟨hP, hS, hl, h⟩ := hI
    obtain ⟨x17, x18, s19⟩ := u
    have hP : va_P D vwCl (RW D a s19) H := hP
    have hl : lv_has ls 9 [(0, .ref (a 200)), (1, .int (i2 x17)), (3, .int (i2 x18))] := hl
    have h : m_x12_taken_J102 x17 x18 s19 = some o := h
    unfold m_x12_taken_J102 at h
    refine lv_iload_n hx hb eX12_taken_99.2.1 rfl (lv_at hl 2 rfl) ?_
    refine lv_iconst (v := (-1)) hx hb eX12_taken_99.2.2.1 (by decide) ?_
    obtain ⟨hr20, h⟩ := rg_e h
    refine lv_icmp_ne (tgt := 114) hx hb eX12_taken_99.2.2.2.1 (by decide) (fun c21 => ?_) (fun c21 => ?_)
    · rw [show ((-1) : Int32) = i2 (-1) from by decide] at c21
      have h := if_f (mt (i2_eq (x := x18) (y := (-1)) hr20 (by decide)).mpr c21) h
      refine lv_bipush (v := 17) hx hb eX12_taken_113.2.1 (by decide) ?_
      refine lv_bipush (v := 16) hx hb eX12_taken_113.2.2.1 (by decide) ?_
      refine lv_iload_n hx hb eX12_taken_113.2.2.2.1 rfl (lv_at hl 2 rfl) ?_
      refine lv_imul hx hb eX12_taken_113.2.2.2.2.1 ?_
      refine z_topi (y := i2 (16 * x18)) (i2_mul 16 x18) ?_
      refine lv_iadd hx hb eX12_taken_113.2.2.2.2.2.1 ?_
      refine z_topi (y := i2 (17 + (16 * x18))) (i2_add 17 (16 * x18)) ?_
      refine lv_istore (lv' := [(6, .int (i2 (17 + (16 * x18)))), (0, .ref (a 200)), (1, .int (i2 x17)), (3, .int (i2 x18))]) hx hb eX12_taken_113.2.2.2.2.2.2.1 hl (by decide) rfl (fun ls hl => ?_)
      refine lv_iconst (v := 0) hx hb eX12_taken_113.2.2.2.2.2.2.2 (by decide) ?_
      refine lv_istore (lv' := [(7, .int 0), (6, .int (i2 (17 + (16 * x18)))), (0, .ref (a 200)), (1, .int (i2 x17)), (3, .int (i2 x18))]) hx hb eX12_taken_124.1 hl (by decide) rfl (fun ls hl => ?_)
      exact J126 FU (x17, x18, 17 + (16 * x18), 0, s19) _ _ _ ⟨hP, hS, lv_sub hl [2, 3, 4, 1, 0] rfl, h⟩
    · rw [show ((-1) : Int32) = i2 (-1) from by decide] at c21
      have h := if_t ((i2_eq (x := x18) (y := (-1)) hr20 (by decide)).mp c21) h
      refine lv_aload_n hx hb eX12_taken_99.2.2.2.2.1 rfl (lv_at hl 0 rfl) ?_
      refine lv_iconst (v := 1) hx hb eX12_taken_99.2.2.2.2.2.1 (by decide) ?_
      refine ya_put (D := D) (ci := 12) (v := .int 1) (ty := .boolean) (C := RX12) (T := TX12) (N := 116) hx hb ht inX12 tyX12 tyX12_ok nmX12 hown hK hP (hDD _) hS 0 RW_0 rfl 55 (by decide) (ht (.fieldLink RX12 493 "CloneVolumesModel" "isFull" "Z") fl_X12_493) (fun _ h9 => h9) rfl (by decide +kernel) (by decide) (by decide) (by rw [mF_len]; decide) eX12_taken_99.2.2.2.2.2.2.1 (RW_f55 1) (fun H locs hP hS => ?_)
      obtain ⟨s22, hs22, h⟩ := st_e h
      rw [hs22] at hP
      refine lv_iconst (v := 0) hx hb eX12_taken_99.2.2.2.2.2.2.2 (by decide) ?_
      obtain rfl := Option.some.inj h
      exact W.iret (v := 0) hx hb hr (fun t ht hW => ⟨⟨_, (), rfl, rfl, by rw [ht]; exact hP, va_K.moved hW.alike hK, hDD _⟩, hS.F ht⟩) hS.2.2 eX12_taken_113.1
  refine y_loop (pcJ := 8) (σ := Int × Int × Int × Int × Int × MS) (fun n u H locs ls => va_P D vwCl (RW D a u.2.2.2.2.2) H ∧ va_S A s₀.heap H locs ∧ lv_has ls 9 [(0, .ref (a 200)), (1, .int (i2 u.1)), (2, .int (i2 u.2.1)), (3, .int (i2 u.2.2.1)), (4, .long (i8 u.2.2.2.1)), (6, .int (i2 u.2.2.2.2.1))] ∧ m_x12_taken_L8 n u.1 u.2.1 u.2.2.1 u.2.2.2.1 u.2.2.2.2.1 u.2.2.2.2.2 = some o) (fun u => []) (fun u H locs ls hI => by obtain ⟨_, _, _, h⟩ := hI; cases h) (fun n8 ih8 u H locs ls hI => ?_) (fun J8 => ?_)
  · obtain ⟨hP, hS, hl, h⟩ := hI
    obtain ⟨x23, x24, x25, z26, x27, s28⟩ := u
    have hP : va_P D vwCl (RW D a s28) H := hP
    have hl : lv_has ls 9 [(0, .ref (a 200)), (1, .int (i2 x23)), (2, .int (i2 x24)), (3, .int (i2 x25)), (4, .long (i8 z26)), (6, .int (i2 x27))] := hl
    have h : m_x12_taken_b8 (m_x12_taken_L8 n8) x23 x24 x25 z26 x27 s28 = some o := h
    unfold m_x12_taken_b8 at h
    refine y_head (pcJ := 96) (σ := Int × Int × Int × Int × Int × MS) (fun u H locs ls => va_P D vwCl (RW D a u.2.2.2.2.2) H ∧ va_S A s₀.heap H locs ∧ lv_has ls 9 [(0, .ref (a 200)), (1, .int (i2 u.1)), (2, .int (i2 u.2.1)), (3, .int (i2 u.2.2.1)), (4, .long (i8 u.2.2.2.1)), (6, .int (i2 u.2.2.2.2.1))] ∧ m_x12_taken_J96 (m_x12_taken_L8 n8) u.1 u.2.1 u.2.2.1 u.2.2.2.1 u.2.2.2.2.1 u.2.2.2.2.2 = some o) (fun u => []) (fun u H locs ls hI => ?_) (fun J96 => ?_)
    · obtain ⟨hP, hS, hl, h⟩ := hI
      obtain ⟨x29, x30, x31, z32, x33, s34⟩ := u
      have hP : va_P D vwCl (RW D a s34) H := hP
      have hl : lv_has ls 9 [(0, .ref (a 200)), (1, .int (i2 x29)), (2, .int (i2 x30)), (3, .int (i2 x31)), (4, .long (i8 z32)), (6, .int (i2 x33))] := hl
      have h : m_x12_taken_J96 (m_x12_taken_L8 n8) x29 x30 x31 z32 x33 s34 = some o := h
      unfold m_x12_taken_J96 at h
      refine lv_iinc (v := i2 (x33 + 1)) (lv' := [(6, .int (i2 (x33 + 1))), (0, .ref (a 200)), (1, .int (i2 x29)), (2, .int (i2 x30)), (3, .int (i2 x31)), (4, .long (i8 z32))]) hx hb eX12_taken_82.2.2.2.2.2.2.2 hl (k := 5) rfl (i2_add x33 1) (by decide) rfl (fun ls hl => ?_)
      refine lv_goto (tgt := 8) hx hb eX12_taken_99.1 (by decide) ?_
      exact ih8 (x29, x30, x31, z32, x33 + 1, s34) _ _ _ ⟨hP, hS, lv_sub hl [1, 2, 3, 4, 5, 0] rfl, h⟩
    refine y_head (pcJ := 89) (σ := Int × Int × Int × Int × MS) (fun u H locs ls => va_P D vwCl (RW D a u.2.2.2.2) H ∧ va_S A s₀.heap H locs ∧ lv_has ls 9 [(0, .ref (a 200)), (1, .int (i2 u.1)), (2, .int (i2 u.2.1)), (6, .int (i2 u.2.2.1)), (7, .long (i8 u.2.2.2.1))] ∧ m_x12_taken_J89 (m_x12_taken_L8 n8) u.1 u.2.1 u.2.2.1 u.2.2.2.1 u.2.2.2.2 = some o) (fun u => []) (fun u H locs ls hI => ?_) (fun J89 => ?_)
    · obtain ⟨hP, hS, hl, h⟩ := hI
      obtain ⟨x35, x36, x37, z38, s39⟩ := u
      have hP : va_P D vwCl (RW D a s39) H := hP
      have hl : lv_has ls 9 [(0, .ref (a 200)), (1, .int (i2 x35)), (2, .int (i2 x36)), (6, .int (i2 x37)), (7, .long (i8 z38))] := hl
      have h : m_x12_taken_J89 (m_x12_taken_L8 n8) x35 x36 x37 z38 s39 = some o := h
      unfold m_x12_taken_J89 at h
      refine lv_iload hx hb eX12_taken_82.2.2.2.1 (lv_at hl 3 rfl) ?_
      refine lv_istore_n (lv' := [(3, .int (i2 x37)), (0, .ref (a 200)), (1, .int (i2 x35)), (2, .int (i2 x36)), (6, .int (i2 x37)), (7, .long (i8 z38))]) hx hb eX12_taken_82.2.2.2.2.1 rfl hl (by decide) rfl (fun ls hl => ?_)
      refine lv_lload hx hb eX12_taken_82.2.2.2.2.2.1 (lv_at hl 5 rfl) ?_
      refine lv_lstore (lv' := [(4, .long (i8 z38)), (3, .int (i2 x37)), (0, .ref (a 200)), (1, .int (i2 x35)), (2, .int (i2 x36)), (6, .int (i2 x37)), (7, .long (i8 z38))]) hx hb eX12_taken_82.2.2.2.2.2.2.1 hl (by decide) rfl (fun ls hl => ?_)
      exact J96 (x35, x36, x37, z38, x37, s39) _ _ _ ⟨hP, hS, lv_sub hl [2, 3, 4, 1, 0, 5] rfl, h⟩
    refine y_head (pcJ := 71) (σ := Int × Int × Int × Int × Int × Int × MS) (fun u H locs ls => va_P D vwCl (RW D a u.2.2.2.2.2.2) H ∧ va_S A s₀.heap H locs ∧ lv_has ls 9 [(0, .ref (a 200)), (1, .int (i2 u.1)), (2, .int (i2 u.2.1)), (3, .int (i2 u.2.2.1)), (4, .long (i8 u.2.2.2.1)), (6, .int (i2 u.2.2.2.2.1))] ∧ m_x12_taken_J71 (m_x12_taken_L8 n8) u.1 u.2.1 u.2.2.1 u.2.2.2.1 u.2.2.2.2.1 u.2.2.2.2.2.1 u.2.2.2.2.2.2 = some o) (fun u => [.long (i8 u.2.2.2.2.2.1)]) (fun u H locs ls hI => ?_) (fun J71 => ?_)
    · obtain ⟨hP, hS, hl, h⟩ := hI
      obtain ⟨x40, x41, x42, z43, x44, z45, s46⟩ := u
      have hP : va_P D vwCl (RW D a s46) H := hP
      have hl : lv_has ls 9 [(0, .ref (a 200)), (1, .int (i2 x40)), (2, .int (i2 x41)), (3, .int (i2 x42)), (4, .long (i8 z43)), (6, .int (i2 x44))] := hl
      have h : m_x12_taken_J71 (m_x12_taken_L8 n8) x40 x41 x42 z43 x44 z45 s46 = some o := h
      unfold m_x12_taken_J71 at h
      refine lv_lstore (lv' := [(7, .long (i8 z45)), (0, .ref (a 200)), (1, .int (i2 x40)), (2, .int (i2 x41)), (3, .int (i2 x42)), (4, .long (i8 z43)), (6, .int (i2 x44))]) hx hb eX12_taken_68.2.2.1 hl (by decide) rfl (fun ls hl => ?_)
      refine lv_iload_n hx hb eX12_taken_68.2.2.2.1 rfl (lv_at hl 4 rfl) ?_
      refine lv_iconst (v := (-1)) hx hb eX12_taken_68.2.2.2.2.1 (by decide) ?_
      obtain ⟨hr47, h⟩ := rg_e h
      refine lv_icmp_eq (tgt := 89) hx hb eX12_taken_68.2.2.2.2.2.1 (by decide) (fun c48 => ?_) (fun c48 => ?_)
      · rw [show ((-1) : Int32) = i2 (-1) from by decide] at c48
        have h := if_t ((i2_eq (x := x42) (y := (-1)) hr47 (by decide)).mp c48) h
        exact J89 (x40, x41, x44, z45, s46) _ _ _ ⟨hP, hS, lv_sub hl [1, 2, 3, 6, 0] rfl, h⟩
      · rw [show ((-1) : Int32) = i2 (-1) from by decide] at c48
        have h := if_f (mt (i2_eq (x := x42) (y := (-1)) hr47 (by decide)).mpr c48) h
        refine lv_lload hx hb eX12_taken_68.2.2.2.2.2.2.1 (lv_at hl 0 rfl) ?_
        refine lv_lload hx hb eX12_taken_68.2.2.2.2.2.2.2 (lv_at hl 5 rfl) ?_
        refine W.lcmp hx hb eX12_taken_82.1 ?_
        obtain ⟨hr49, h⟩ := rgL_e h
        obtain ⟨hr50, h⟩ := rgL_e h
        refine lv_if_lt (tgt := 89) hx hb eX12_taken_82.2.1 (by decide) (fun c51 => ?_) (fun c51 => ?_)
        · have h := if_t ((l_lt (x := z45) (y := z43) hr49 hr50).mp c51) h
          exact J89 (x40, x41, x44, z45, s46) _ _ _ ⟨hP, hS, lv_sub hl [1, 2, 3, 6, 0] rfl, h⟩
        · have h := if_f (mt (l_lt (x := z45) (y := z43) hr49 hr50).mpr c51) h
          refine lv_goto (tgt := 96) hx hb eX12_taken_82.2.2.1 (by decide) ?_
          exact J96 (x40, x41, x42, z43, x44, s46) _ _ _ ⟨hP, hS, lv_sub hl [1, 2, 3, 4, 5, 6] rfl, h⟩
    refine lv_iload hx hb eX12_taken_3.2.2.2.1 (lv_at hl 5 rfl) ?_
    refine lv_aload_n hx hb eX12_taken_3.2.2.2.2.1 rfl (lv_at hl 0 rfl) ?_
    obtain ⟨r53, hc52, h⟩ := bn_e h
    refine ycV (r0 := i2 r53) (As := []) (rest := [.int (i2 x27)]) (C := RX12) (n := 0) ⟨hx, hb, hml, hown, ht⟩ (k_x12_blockMany l D a _ _ hc52) (zgV ml_X12_429 im_X12_blockMany se_X12_blockMany in_X12 co_X12_blockMany) rfl rfl (by decide +kernel) ⟨Nat.le_of_ble_eq_true rfl, Nat.le_of_ble_eq_true rfl⟩ hN hK hP hS 0 RW_0 rfl rfl rfl hl.1 rfl (Nat.le_of_ble_eq_true rfl) eX12_taken_3.2.2.2.2.2.1 ⟨Nat.le_of_ble_eq_true rfl, Nat.le_of_ble_eq_true rfl⟩ (fun H locs hP hS => ?_)
    obtain ⟨hr54, h⟩ := rg_e h
    obtain ⟨hr55, h⟩ := rg_e h
    refine lv_icmp_ge (tgt := 102) hx hb eX12_taken_3.2.2.2.2.2.2.1 (by decide) (fun c56 => ?_) (fun c56 => ?_)
    · have h := if_t ((i2_le (x := r53) (y := x27) hr55 hr54).mp c56) h
      exact J102 (x23, x25, s28) _ _ _ ⟨hP, hS, lv_sub hl [0, 1, 3] rfl, h⟩
    · have h := if_f (mt (i2_le (x := r53) (y := x27) hr55 hr54).mpr c56) h
      refine lv_aload_n hx hb eX12_taken_3.2.2.2.2.2.2.2 rfl (lv_at hl 0 rfl) ?_
      refine va_get (D := D) (ci := 12) (v := .int (i2 (gI s28 55))) (C := RX12) (T := TX12) (N := 116) hx hb ht inX12 hown hK hP 0 RW_0 rfl 55 (by decide) (ht (.fieldLink RX12 493 "CloneVolumesModel" "isFull" "Z") fl_X12_493) (fun _ h9 => h9) mF_55 eX12_taken_18.1 ?_
      obtain ⟨hr57, h⟩ := rg_e h
      refine lv_if_ne (tgt := 102) hx hb eX12_taken_18.2.1 (by decide) (fun c58 => ?_) (fun c58 => ?_)
      · have h := if_f (mt (i2_eq (x := (gI s28 55)) (y := 0) hr57 (by decide)).mpr c58) h
        exact J102 (x23, x25, s28) _ _ _ ⟨hP, hS, lv_sub hl [0, 1, 3] rfl, h⟩
      · have h := if_t ((i2_eq (x := (gI s28 55)) (y := 0) hr57 (by decide)).mp c58) h
        refine lv_aload_n hx hb eX12_taken_18.2.2.1 rfl (lv_at hl 0 rfl) ?_
        refine lv_iload hx hb eX12_taken_18.2.2.2.1 (lv_at hl 5 rfl) ?_
        obtain ⟨r60, hc59, h⟩ := bn_e h
        refine ycV (r0 := i2 r60) (As := [.int (i2 x27)]) (rest := []) (C := RX12) (n := 1) ⟨hx, hb, hml, hown, ht⟩ (k_x12_isThere l D a x27 _ _ hc59) (zgV ml_X12_496 im_X12_isThere se_X12_isThere in_X12 co_X12_isThere) rfl rfl (by decide +kernel) ⟨Nat.le_of_ble_eq_true rfl, Nat.le_of_ble_eq_true rfl⟩ hN hK hP hS 0 RW_0 rfl rfl rfl hl.1 rfl (Nat.le_of_ble_eq_true rfl) eX12_taken_18.2.2.2.2.1 ⟨Nat.le_of_ble_eq_true rfl, Nat.le_of_ble_eq_true rfl⟩ (fun H locs hP hS => ?_)
        obtain ⟨hr61, h⟩ := rg_e h
        refine lv_if_eq (tgt := 36) hx hb eX12_taken_18.2.2.2.2.2.1 (by decide) (fun c62 => ?_) (fun c62 => ?_)
        · have h := if_t ((i2_eq (x := r60) (y := 0) hr61 (by decide)).mp c62) h
          refine lv_aload_n hx hb eX12_taken_18.2.2.2.2.2.2.2 rfl (lv_at hl 0 rfl) ?_
          refine lv_iload hx hb eX12_taken_37.1 (lv_at hl 5 rfl) ?_
          refine ya_put (D := D) (ci := 12) (v := .int (i2 x27)) (ty := .int) (C := RX12) (T := TX12) (N := 116) hx hb ht inX12 tyX12 tyX12_ok nmX12 hown hK hP (hDD _) hS 0 RW_0 rfl 50 (by decide) (ht (.fieldLink RX12 457 "CloneVolumesModel" "askBlock" "I") fl_X12_457) (fun _ h9 => h9) rfl (by decide +kernel) rfl rfl (by rw [mF_len]; decide) eX12_taken_37.2.1 (RW_f50 x27) (fun H locs hP hS => ?_)
          obtain ⟨s63, hs63, h⟩ := st_e h
          rw [hs63] at hP
          refine lv_aload_n hx hb eX12_taken_37.2.2.1 rfl (lv_at hl 0 rfl) ?_
          refine lv_iload_n hx hb eX12_taken_37.2.2.2.1 rfl (lv_at hl 2 rfl) ?_
          refine ya_put (D := D) (ci := 12) (v := .int (i2 x24)) (ty := .int) (C := RX12) (T := TX12) (N := 116) hx hb ht inX12 tyX12 tyX12_ok nmX12 hown hK hP (hDD _) hS 0 RW_0 rfl 51 (by decide) (ht (.fieldLink RX12 499 "CloneVolumesModel" "askFrom" "I") fl_X12_499) (fun _ h9 => h9) rfl (by decide +kernel) rfl rfl (by rw [mF_len]; decide) eX12_taken_37.2.2.2.2.1 (RW_f51 x24) (fun H locs hP hS => ?_)
          obtain ⟨s64, hs64, h⟩ := st_e h
          rw [hs64] at hP
          refine lv_aload_n hx hb eX12_taken_37.2.2.2.2.2.1 rfl (lv_at hl 0 rfl) ?_
          refine lv_iload_n hx hb eX12_taken_37.2.2.2.2.2.2.1 rfl (lv_at hl 1 rfl) ?_
          refine ya_put (D := D) (ci := 12) (v := .int (i2 x23)) (ty := .int) (C := RX12) (T := TX12) (N := 116) hx hb ht inX12 tyX12 tyX12_ok nmX12 hown hK hP (hDD _) hS 0 RW_0 rfl 52 (by decide) (ht (.fieldLink RX12 463 "CloneVolumesModel" "askLevel" "I") fl_X12_463) (fun _ h9 => h9) rfl (by decide +kernel) rfl rfl (by rw [mF_len]; decide) eX12_taken_37.2.2.2.2.2.2.2 (RW_f52 x23) (fun H locs hP hS => ?_)
          obtain ⟨s65, hs65, h⟩ := st_e h
          rw [hs65] at hP
          refine lv_aload_n hx hb eX12_taken_52.1 rfl (lv_at hl 0 rfl) ?_
          refine lv_iconst (v := 0) hx hb eX12_taken_52.2.1 (by decide) ?_
          obtain ⟨r67, hc66, h⟩ := bn_e h
          refine ycV (r0 := i2 r67) (As := [.int 0]) (rest := []) (C := RX12) (n := 1) ⟨hx, hb, hml, hown, ht⟩ (k_x12_isCoded l D a 0 _ _ hc66) (zgV ml_X12_472 im_X12_isCoded se_X12_isCoded in_X12 co_X12_isCoded) rfl rfl (by decide +kernel) ⟨Nat.le_of_ble_eq_true rfl, Nat.le_of_ble_eq_true rfl⟩ hN hK hP hS 0 RW_0 rfl rfl rfl hl.1 rfl (Nat.le_of_ble_eq_true rfl) eX12_taken_52.2.2.1 ⟨Nat.le_of_ble_eq_true rfl, Nat.le_of_ble_eq_true rfl⟩ (fun H locs hP hS => ?_)
          obtain ⟨hr68, h⟩ := rg_e h
          refine lv_if_eq (tgt := 68) hx hb eX12_taken_52.2.2.2.1 (by decide) (fun c69 => ?_) (fun c69 => ?_)
          · have h := if_t ((i2_eq (x := r67) (y := 0) hr68 (by decide)).mp c69) h
            refine lv_iload hx hb eX12_taken_68.1 (lv_at hl 5 rfl) ?_
            obtain ⟨hr70, h⟩ := rg_e h
            refine lv_i2l (v := i8 x27) hx hb eX12_taken_68.2.1 (i2_l hr70) ?_
            exact J71 (x23, x24, x25, z26, x27, x27, s65) _ _ _ ⟨hP, hS, lv_sub hl [0, 1, 2, 3, 4, 5] rfl, h⟩
          · have h := if_f (mt (i2_eq (x := r67) (y := 0) hr68 (by decide)).mpr c69) h
            refine lv_aload_n hx hb eX12_taken_52.2.2.2.2.1 rfl (lv_at hl 0 rfl) ?_
            refine lv_iconst (v := 0) hx hb eX12_taken_52.2.2.2.2.2.1 (by decide) ?_
            obtain ⟨⟨rl73, s72⟩, hc71, h⟩ := bn_e h
            refine ywVl (r0 := i8 rl73) (As := [.int 0]) (rest := []) (C := RX12) (n := 1) (ws' := RW D a s72) ⟨hx, hb, hml, hown, ht⟩ (k_x12_codesTell l D a 0 _ _ _ hc71) (zgV ml_X12_475 im_X12_codesTell se_X12_codesTell in_X12 co_X12_codesTell) rfl rfl (by decide +kernel) ⟨Nat.le_of_ble_eq_true rfl, Nat.le_of_ble_eq_true rfl⟩ hN hK hP (hDD _) hS hA 0 RW_0 rfl rfl rfl hl.1 rfl (Nat.le_of_ble_eq_true rfl) eX12_taken_52.2.2.2.2.2.2.1 ⟨Nat.le_of_ble_eq_true rfl, Nat.le_of_ble_eq_true rfl⟩ (fun H locs hP hS => ?_)
            refine lv_goto (tgt := 71) hx hb eX12_taken_52.2.2.2.2.2.2.2 (by decide) ?_
            exact J71 (x23, x24, x25, z26, x27, rl73, s72) _ _ _ ⟨hP, hS, lv_sub hl [0, 1, 2, 3, 4, 5] rfl, h⟩
        · have h := if_f (mt (i2_eq (x := r60) (y := 0) hr61 (by decide)).mpr c62) h
          refine lv_goto (tgt := 96) hx hb eX12_taken_18.2.2.2.2.2.2.1 (by decide) ?_
          exact J96 (x23, x24, x25, z26, x27, s28) _ _ _ ⟨hP, hS, lv_sub hl [0, 1, 2, 3, 4, 5] rfl, h⟩
  refine lv_iconst (v := (-1)) hx hb eX12_removes_205.2.2.2.2.2.1 (by decide) ?_
  refine lv_istore_n (lv' := [(3, .int (-1)), (0, .ref (a 200)), (1, .int (i2 p0)), (2, .int (i2 p1))]) hx hb eX12_removes_205.2.2.2.2.2.2.1 rfl hl (by decide) rfl (fun ls hl => ?_)
  refine lv_lconst (v := 0) hx hb eX12_removes_205.2.2.2.2.2.2.2 (by decide) ?_
  refine lv_lstore (lv' := [(4, .long 0), (3, .int (-1)), (0, .ref (a 200)), (1, .int (i2 p0)), (2, .int (i2 p1))]) hx hb eX12_taken_3.1 hl (by decide) rfl (fun ls hl => ?_)
  refine lv_iconst (v := 0) hx hb eX12_taken_3.2.1 (by decide) ?_
  refine lv_istore (lv' := [(6, .int 0), (4, .long 0), (3, .int (-1)), (0, .ref (a 200)), (1, .int (i2 p0)), (2, .int (i2 p1))]) hx hb eX12_taken_3.2.2.1 hl (by decide) rfl (fun ls hl => ?_)
  exact J8 FU (p0, p1, (-1), 0, 0, s) _ _ _ ⟨hP, hS, lv_sub hl [3, 4, 5, 2, 1, 0] rfl, h⟩
set_option maxHeartbeats 4000000 in
set_option maxRecDepth 100000 in
theorem k_x12_owned (l : Launch) (D : va_G) (a : Nat → Nat) (p0 : Int) (sz : Nat) (s : MS) (o : (Int × MS)) (h : m_x12_owned p0 s = some o) : yWi l yX12_owned cX12_owned 4 (some .int) { frames := 6, cells := 0, slots := 0, locals := 360 } D sz [.ref (a 200), .int (i2 p0)] (RW D a s) (RW D a o.2) (i2 o.1) := by
  refine Met.ofW (cc := cX12_owned) (maxL := 4) (ret := (some .int)) (by decide) rfl ?_
  intro p e s₀ m args below meth c s₁ B hml hv
  obtain ⟨rfl, ⟨hsz, hP, hK, hD0⟩, hN⟩ := hv
  have hx := B.exec
  have hb := B.bytes
  have hr := B.returns
  have hts := atoms_spec (ws := wz yX12_owned cX12_owned 4 (some .int)) B.pre
  have ht : ∀ w ∈ lw_gd, w.before _ s₀ = true := fun w h => hts w (List.mem_cons_of_mem _ h)
  have hown : s₀.vm.findClass RX12 = some m.cls := findClass_of_methodNamed B.named
  have hlocks := B.notSynchronized
  subst hsz
  have hD := hD0.self (sz := s₀.heap.size)
  generalize hAe : va_A (RW D a s) s₀.heap.size = A at hD ⊢
  have hA : ∀ q : Nat, s₀.heap.size ≤ q → A q := fun q h => by rw [← hAe]; exact Or.inr h
  have hS : va_S A s₀.heap s₀.heap [] := va_S.rf
  have hDD : ∀ t : MS, va_D A (RW D a t) := fun t => RW_D t hD
  have hl := lv_entry ([.ref (a 200), .int (i2 p0)]) (n := 4) (Nat.le_of_ble_eq_true rfl)
  rw [lg_entry_eq]
  generalize (lg_sl ([.ref (a 200), .int (i2 p0)]) ++ List.replicate (4 - (lg_sl ([.ref (a 200), .int (i2 p0)])).length) Slot.unset).toArray = ls at hl ⊢
  have hl : lv_has ls 4 [(0, .ref (a 200)), (1, .int (i2 p0))] := hl
  unfold m_x12_owned at h
  refine y_head (pcJ := 117) (σ := Int × Int × MS) (fun u H locs ls => va_P D vwCl (RW D a u.2.2) H ∧ va_S A s₀.heap H locs ∧ lv_has ls 4 [(0, .ref (a 200)), (1, .int (i2 u.1)), (2, .int (i2 u.2.1))] ∧ m_x12_owned_J117 u.1 u.2.1 u.2.2 = some o) (fun u => []) (fun u H locs ls hI => ?_) (fun J117 => ?_)
  · obtain ⟨hP, hS, hl, h⟩ := hI
    obtain ⟨x1, x2, s3⟩ := u
    have hP : va_P D vwCl (RW D a s3) H := hP
    have hl : lv_has ls 4 [(0, .ref (a 200)), (1, .int (i2 x1)), (2, .int (i2 x2))] := hl
    have h : m_x12_owned_J117 x1 x2 s3 = some o := h
    unfold m_x12_owned_J117 at h
    refine lv_aload_n hx hb eX12_owned_102.2.2.2.2.2.2.2 rfl (lv_at hl 0 rfl) ?_
    refine lv_iload_n hx hb eX12_owned_118.1 rfl (lv_at hl 1 rfl) ?_
    obtain ⟨s5, hc4, h⟩ := bn_e h
    refine ywVv (As := [.int (i2 x1)]) (rest := []) (C := RX12) (n := 1) (ws' := RW D a s5) ⟨hx, hb, hml, hown, ht⟩ (k_x12_falls l D a x1 _ _ _ hc4) (zgV ml_X12_514 im_X12_falls se_X12_falls in_X12 co_X12_falls) rfl rfl (by decide +kernel) ⟨Nat.le_of_ble_eq_true rfl, Nat.le_of_ble_eq_true rfl⟩ hN hK hP (hDD _) hS hA 0 RW_0 rfl rfl rfl hl.1 rfl (Nat.le_of_ble_eq_true rfl) eX12_owned_118.2.1 ⟨Nat.le_of_ble_eq_true rfl, Nat.le_of_ble_eq_true rfl⟩ (fun H locs hP hS => ?_)
    refine lv_iload_n hx hb eX12_owned_118.2.2.1 rfl (lv_at hl 2 rfl) ?_
    obtain rfl := Option.some.inj h
    exact W.iret (v := (i2 x2)) hx hb hr (fun t ht hW => ⟨⟨_, (), rfl, rfl, by rw [ht]; exact hP, va_K.moved hW.alike hK, hDD _⟩, hS.F ht⟩) hS.2.2 eX12_owned_118.2.2.2.1
  refine y_loop (pcJ := 91) (σ := Int × Int × Int × MS) (fun n u H locs ls => va_P D vwCl (RW D a u.2.2.2) H ∧ va_S A s₀.heap H locs ∧ lv_has ls 4 [(0, .ref (a 200)), (1, .int (i2 u.1)), (2, .int (i2 u.2.1)), (3, .int (i2 u.2.2.1))] ∧ m_x12_owned_L91 n u.1 u.2.1 u.2.2.1 u.2.2.2 = some o) (fun u => []) (fun u H locs ls hI => by obtain ⟨_, _, _, h⟩ := hI; cases h) (fun n91 ih91 u H locs ls hI => ?_) (fun J91 => ?_)
  · obtain ⟨hP, hS, hl, h⟩ := hI
    obtain ⟨x6, x7, x8, s9⟩ := u
    have hP : va_P D vwCl (RW D a s9) H := hP
    have hl : lv_has ls 4 [(0, .ref (a 200)), (1, .int (i2 x6)), (2, .int (i2 x7)), (3, .int (i2 x8))] := hl
    have h : m_x12_owned_b91 (m_x12_owned_L91 n91) x6 x7 x8 s9 = some o := h
    unfold m_x12_owned_b91 at h
    refine lv_iload_n hx hb eX12_owned_90.2.1 rfl (lv_at hl 3 rfl) ?_
    refine lv_aload_n hx hb eX12_owned_90.2.2.1 rfl (lv_at hl 0 rfl) ?_
    refine lv_iload_n hx hb eX12_owned_90.2.2.2.1 rfl (lv_at hl 1 rfl) ?_
    obtain ⟨r11, hc10, h⟩ := bn_e h
    refine ycV (r0 := i2 r11) (As := [.int (i2 x6)]) (rest := [.int (i2 x8)]) (C := RX12) (n := 1) ⟨hx, hb, hml, hown, ht⟩ (k_x12_entriesOf l D a x6 _ _ hc10) (zgV ml_X12_466 im_X12_entriesOf se_X12_entriesOf in_X12 co_X12_entriesOf) rfl rfl (by decide +kernel) ⟨Nat.le_of_ble_eq_true rfl, Nat.le_of_ble_eq_true rfl⟩ hN hK hP hS 0 RW_0 rfl rfl rfl hl.1 rfl (Nat.le_of_ble_eq_true rfl) eX12_owned_90.2.2.2.2.1 ⟨Nat.le_of_ble_eq_true rfl, Nat.le_of_ble_eq_true rfl⟩ (fun H locs hP hS => ?_)
    obtain ⟨hr12, h⟩ := rg_e h
    obtain ⟨hr13, h⟩ := rg_e h
    refine lv_icmp_ge (tgt := 117) hx hb eX12_owned_90.2.2.2.2.2.1 (by decide) (fun c14 => ?_) (fun c14 => ?_)
    · have h := if_t ((i2_le (x := r11) (y := x8) hr13 hr12).mp c14) h
      exact J117 (x6, x7, s9) _ _ _ ⟨hP, hS, lv_sub hl [0, 1, 2] rfl, h⟩
    · have h := if_f (mt (i2_le (x := r11) (y := x8) hr13 hr12).mpr c14) h
      refine lv_aload_n hx hb eX12_owned_90.2.2.2.2.2.2.1 rfl (lv_at hl 0 rfl) ?_
      refine lv_aload_n hx hb eX12_owned_90.2.2.2.2.2.2.2 rfl (lv_at hl 0 rfl) ?_
      refine lv_iload_n hx hb eX12_owned_102.1 rfl (lv_at hl 1 rfl) ?_
      refine lv_iload_n hx hb eX12_owned_102.2.1 rfl (lv_at hl 3 rfl) ?_
      obtain ⟨r16, hc15, h⟩ := bn_e h
      refine ycV (r0 := i2 r16) (As := [.int (i2 x6), .int (i2 x8)]) (rest := [.ref (a 200)]) (C := RX12) (n := 2) ⟨hx, hb, hml, hown, ht⟩ (k_x12_valueAt l D a x6 x8 _ _ hc15) (zgV ml_X12_505 im_X12_valueAt se_X12_valueAt in_X12 co_X12_valueAt) rfl rfl (by decide +kernel) ⟨Nat.le_of_ble_eq_true rfl, Nat.le_of_ble_eq_true rfl⟩ hN hK hP hS 0 RW_0 rfl rfl rfl hl.1 rfl (Nat.le_of_ble_eq_true rfl) eX12_owned_102.2.2.1 ⟨Nat.le_of_ble_eq_true rfl, Nat.le_of_ble_eq_true rfl⟩ (fun H locs hP hS => ?_)
      refine lv_iconst (v := 1) hx hb eX12_owned_102.2.2.2.1 (by decide) ?_
      obtain ⟨s18, hc17, h⟩ := bn_e h
      refine ywVv (As := [.int (i2 r16), .int 1]) (rest := []) (C := RX12) (n := 2) (ws' := RW D a s18) ⟨hx, hb, hml, hown, ht⟩ (k_x12_counts l D a r16 1 _ _ _ hc17) (zgV ml_X12_502 im_X12_counts se_X12_counts in_X12 co_X12_counts) rfl rfl (by decide +kernel) ⟨Nat.le_of_ble_eq_true rfl, Nat.le_of_ble_eq_true rfl⟩ hN hK hP (hDD _) hS hA 0 RW_0 rfl rfl rfl hl.1 rfl (Nat.le_of_ble_eq_true rfl) eX12_owned_102.2.2.2.2.1 ⟨Nat.le_of_ble_eq_true rfl, Nat.le_of_ble_eq_true rfl⟩ (fun H locs hP hS => ?_)
      refine lv_iinc (v := i2 (x8 + 1)) (lv' := [(3, .int (i2 (x8 + 1))), (0, .ref (a 200)), (1, .int (i2 x6)), (2, .int (i2 x7))]) hx hb eX12_owned_102.2.2.2.2.2.1 hl (k := 3) rfl (i2_add x8 1) (by decide) rfl (fun ls hl => ?_)
      refine lv_goto (tgt := 91) hx hb eX12_owned_102.2.2.2.2.2.2.1 (by decide) ?_
      exact ih91 (x6, x7, x8 + 1, s18) _ _ _ ⟨hP, hS, lv_sub hl [1, 2, 3, 0] rfl, h⟩
  refine y_loop (pcJ := 41) (σ := Int × Int × Int × MS) (fun n u H locs ls => va_P D vwCl (RW D a u.2.2.2) H ∧ va_S A s₀.heap H locs ∧ lv_has ls 4 [(0, .ref (a 200)), (1, .int (i2 u.1)), (2, .int (i2 u.2.1)), (3, .int (i2 u.2.2.1))] ∧ m_x12_owned_L41 n u.1 u.2.1 u.2.2.1 u.2.2.2 = some o) (fun u => []) (fun u H locs ls hI => by obtain ⟨_, _, _, h⟩ := hI; cases h) (fun n41 ih41 u H locs ls hI => ?_) (fun J41 => ?_)
  · obtain ⟨hP, hS, hl, h⟩ := hI
    obtain ⟨x19, x20, x21, s22⟩ := u
    have hP : va_P D vwCl (RW D a s22) H := hP
    have hl : lv_has ls 4 [(0, .ref (a 200)), (1, .int (i2 x19)), (2, .int (i2 x20)), (3, .int (i2 x21))] := hl
    have h : m_x12_owned_b41 (m_x12_owned_L41 n41) x19 x20 x21 s22 = some o := h
    unfold m_x12_owned_b41 at h
    refine lv_iload_n hx hb eX12_owned_39.2.2.1 rfl (lv_at hl 3 rfl) ?_
    refine lv_bipush (v := 16) hx hb eX12_owned_39.2.2.2.1 (by decide) ?_
    obtain ⟨hr23, h⟩ := rg_e h
    refine lv_icmp_ge (tgt := 81) hx hb eX12_owned_39.2.2.2.2.1 (by decide) (fun c24 => ?_) (fun c24 => ?_)
    · have h := if_t ((i2_le (x := 16) (y := x21) (by decide) hr23).mp c24) h
      refine lv_aload_n hx hb eX12_owned_74.2.2.2.1 rfl (lv_at hl 0 rfl) ?_
      refine lv_iload_n hx hb eX12_owned_74.2.2.2.2.1 rfl (lv_at hl 1 rfl) ?_
      obtain ⟨r26, hc25, h⟩ := bn_e h
      refine ycV (r0 := i2 r26) (As := [.int (i2 x19)]) (rest := []) (C := RX12) (n := 1) ⟨hx, hb, hml, hown, ht⟩ (k_x12_levelOf l D a x19 _ _ hc25) (zgV ml_X12_460 im_X12_levelOf se_X12_levelOf in_X12 co_X12_levelOf) rfl rfl (by decide +kernel) ⟨Nat.le_of_ble_eq_true rfl, Nat.le_of_ble_eq_true rfl⟩ hN hK hP hS 0 RW_0 rfl rfl rfl hl.1 rfl (Nat.le_of_ble_eq_true rfl) eX12_owned_74.2.2.2.2.2.1 ⟨Nat.le_of_ble_eq_true rfl, Nat.le_of_ble_eq_true rfl⟩ (fun H locs hP hS => ?_)
      obtain ⟨hr27, h⟩ := rg_e h
      refine lv_if_le (tgt := 117) hx hb eX12_owned_74.2.2.2.2.2.2.1 (by decide) (fun c28 => ?_) (fun c28 => ?_)
      · have h := if_t ((i2_le (x := r26) (y := 0) hr27 (by decide)).mp c28) h
        exact J117 (x19, x20, s22) _ _ _ ⟨hP, hS, lv_sub hl [0, 1, 2] rfl, h⟩
      · have h := if_f (mt (i2_le (x := r26) (y := 0) hr27 (by decide)).mpr c28) h
        refine lv_iconst (v := 0) hx hb eX12_owned_74.2.2.2.2.2.2.2 (by decide) ?_
        refine lv_istore_n (lv' := [(3, .int 0), (0, .ref (a 200)), (1, .int (i2 x19)), (2, .int (i2 x20))]) hx hb eX12_owned_90.1 rfl hl (by decide) rfl (fun ls hl => ?_)
        exact J91 FU (x19, x20, 0, s22) _ _ _ ⟨hP, hS, lv_sub hl [1, 2, 3, 0] rfl, h⟩
    · have h := if_f (mt (i2_le (x := 16) (y := x21) (by decide) hr23).mpr c24) h
      refine lv_aload_n hx hb eX12_owned_39.2.2.2.2.2.1 rfl (lv_at hl 0 rfl) ?_
      refine va_get (D := D) (ci := 12) (v := .ref (a 49)) (C := RX12) (T := TX12) (N := 116) hx hb ht inX12 hown hK hP 0 RW_0 rfl 49 (by decide) (ht (.fieldLink RX12 121 "CloneVolumesModel" "now" "[I") fl_X12_121) (fun _ h9 => h9) mF_49 eX12_owned_39.2.2.2.2.2.2.1 ?_
      refine lv_bipush (v := 17) hx hb eX12_owned_39.2.2.2.2.2.2.2 (by decide) ?_
      refine lv_bipush (v := 16) hx hb eX12_owned_53.1 (by decide) ?_
      refine lv_iload_n hx hb eX12_owned_53.2.1 rfl (lv_at hl 2 rfl) ?_
      refine lv_imul hx hb eX12_owned_53.2.2.1 ?_
      refine z_topi (y := i2 (16 * x20)) (i2_mul 16 x20) ?_
      refine lv_iadd hx hb eX12_owned_53.2.2.2.1 ?_
      refine z_topi (y := i2 (17 + (16 * x20))) (i2_add 17 (16 * x20)) ?_
      refine lv_iload_n hx hb eX12_owned_53.2.2.2.2.1 rfl (lv_at hl 3 rfl) ?_
      refine lv_iadd hx hb eX12_owned_53.2.2.2.2.2.1 ?_
      refine z_topi (y := i2 ((17 + (16 * x20)) + x21)) (i2_add (17 + (16 * x20)) x21) ?_
      refine lv_aload_n hx hb eX12_owned_53.2.2.2.2.2.2.1 rfl (lv_at hl 0 rfl) ?_
      refine va_get (D := D) (ci := 12) (v := .ref (a 49)) (C := RX12) (T := TX12) (N := 116) hx hb ht inX12 hown hK hP 0 RW_0 rfl 49 (by decide) (ht (.fieldLink RX12 121 "CloneVolumesModel" "now" "[I") fl_X12_121) (fun _ h9 => h9) mF_49 eX12_owned_53.2.2.2.2.2.2.2 ?_
      refine lv_bipush (v := 17) hx hb eX12_owned_64.1 (by decide) ?_
      refine lv_bipush (v := 16) hx hb eX12_owned_64.2.1 (by decide) ?_
      refine lv_iload_n hx hb eX12_owned_64.2.2.1 rfl (lv_at hl 1 rfl) ?_
      refine lv_imul hx hb eX12_owned_64.2.2.2.1 ?_
      refine z_topi (y := i2 (16 * x19)) (i2_mul 16 x19) ?_
      refine lv_iadd hx hb eX12_owned_64.2.2.2.2.1 ?_
      refine z_topi (y := i2 (17 + (16 * x19))) (i2_add 17 (16 * x19)) ?_
      refine lv_iload_n hx hb eX12_owned_64.2.2.2.2.2.1 rfl (lv_at hl 3 rfl) ?_
      refine lv_iadd hx hb eX12_owned_64.2.2.2.2.2.2.1 ?_
      refine z_topi (y := i2 ((17 + (16 * x19)) + x21)) (i2_add (17 + (16 * x19)) x21) ?_
      obtain ⟨y29, ey29, iy29, h⟩ := rdI_e h
      refine ya_iald (i := ((17 + (16 * x19)) + x21)) hx hb hK hP 36 0 RW_36 rfl (by decide) ey29 iy29 eX12_owned_64.2.2.2.2.2.2.2 ?_
      obtain ⟨hi30, h⟩ := inb_e h
      refine ya_iast (i := ((17 + (16 * x20)) + x21)) (x := y29) hx hb hK hP (hDD _) hS 36 0 RW_36 rfl (by decide) hi30 eX12_owned_74.1 (RW_w36 _) (fun H locs hP hS => ?_)
      obtain ⟨s31, hs31, h⟩ := st_e h
      rw [hs31] at hP
      refine lv_iinc (v := i2 (x21 + 1)) (lv' := [(3, .int (i2 (x21 + 1))), (0, .ref (a 200)), (1, .int (i2 x19)), (2, .int (i2 x20))]) hx hb eX12_owned_74.2.1 hl (k := 3) rfl (i2_add x21 1) (by decide) rfl (fun ls hl => ?_)
      refine lv_goto (tgt := 41) hx hb eX12_owned_74.2.2.1 (by decide) ?_
      exact ih41 (x19, x20, x21 + 1, s31) _ _ _ ⟨hP, hS, lv_sub hl [1, 2, 3, 0] rfl, h⟩
  refine y_head (pcJ := 19) (σ := Int × MS) (fun u H locs ls => va_P D vwCl (RW D a u.2) H ∧ va_S A s₀.heap H locs ∧ lv_has ls 4 [(0, .ref (a 200)), (1, .int (i2 u.1))] ∧ m_x12_owned_J19 u.1 u.2 = some o) (fun u => []) (fun u H locs ls hI => ?_) (fun J19 => ?_)
  · obtain ⟨hP, hS, hl, h⟩ := hI
    obtain ⟨x32, s33⟩ := u
    have hP : va_P D vwCl (RW D a s33) H := hP
    have hl : lv_has ls 4 [(0, .ref (a 200)), (1, .int (i2 x32))] := hl
    have h : m_x12_owned_J19 x32 s33 = some o := h
    unfold m_x12_owned_J19 at h
    refine lv_aload_n hx hb eX12_owned_13.2.2.2.2.1 rfl (lv_at hl 0 rfl) ?_
    refine lv_aload_n hx hb eX12_owned_13.2.2.2.2.2.1 rfl (lv_at hl 0 rfl) ?_
    refine lv_iload_n hx hb eX12_owned_13.2.2.2.2.2.2.1 rfl (lv_at hl 1 rfl) ?_
    obtain ⟨r35, hc34, h⟩ := bn_e h
    refine ycV (r0 := i2 r35) (As := [.int (i2 x32)]) (rest := [.ref (a 200)]) (C := RX12) (n := 1) ⟨hx, hb, hml, hown, ht⟩ (k_x12_levelOf l D a x32 _ _ hc34) (zgV ml_X12_460 im_X12_levelOf se_X12_levelOf in_X12 co_X12_levelOf) rfl rfl (by decide +kernel) ⟨Nat.le_of_ble_eq_true rfl, Nat.le_of_ble_eq_true rfl⟩ hN hK hP hS 0 RW_0 rfl rfl rfl hl.1 rfl (Nat.le_of_ble_eq_true rfl) eX12_owned_13.2.2.2.2.2.2.2 ⟨Nat.le_of_ble_eq_true rfl, Nat.le_of_ble_eq_true rfl⟩ (fun H locs hP hS => ?_)
    refine lv_iload_n hx hb eX12_owned_25.1 rfl (lv_at hl 1 rfl) ?_
    obtain ⟨⟨r38, s37⟩, hc36, h⟩ := bn_e h
    refine ywV (r0 := i2 r38) (As := [.int (i2 r35), .int (i2 x32)]) (rest := []) (C := RX12) (n := 2) (ws' := RW D a s37) ⟨hx, hb, hml, hown, ht⟩ (k_x12_taken l D a r35 x32 _ _ _ hc36) (zgV ml_X12_511 im_X12_taken se_X12_taken in_X12 co_X12_taken) rfl rfl (by decide +kernel) ⟨Nat.le_of_ble_eq_true rfl, Nat.le_of_ble_eq_true rfl⟩ hN hK hP (hDD _) hS hA 0 RW_0 rfl rfl rfl hl.1 rfl (Nat.le_of_ble_eq_true rfl) eX12_owned_25.2.1 ⟨Nat.le_of_ble_eq_true rfl, Nat.le_of_ble_eq_true rfl⟩ (fun H locs hP hS => ?_)
    refine lv_istore_n (lv' := [(2, .int (i2 r38)), (0, .ref (a 200)), (1, .int (i2 x32))]) hx hb eX12_owned_25.2.2.1 rfl hl (by decide) rfl (fun ls hl => ?_)
    refine lv_aload_n hx hb eX12_owned_25.2.2.2.1 rfl (lv_at hl 1 rfl) ?_
    refine va_get (D := D) (ci := 12) (v := .int (i2 (gI s37 55))) (C := RX12) (T := TX12) (N := 116) hx hb ht inX12 hown hK hP 0 RW_0 rfl 55 (by decide) (ht (.fieldLink RX12 493 "CloneVolumesModel" "isFull" "Z") fl_X12_493) (fun _ h9 => h9) mF_55 eX12_owned_25.2.2.2.2.1 ?_
    obtain ⟨hr39, h⟩ := rg_e h
    refine lv_if_eq (tgt := 39) hx hb eX12_owned_25.2.2.2.2.2.1 (by decide) (fun c40 => ?_) (fun c40 => ?_)
    · have h := if_t ((i2_eq (x := (gI s37 55)) (y := 0) hr39 (by decide)).mp c40) h
      refine lv_iconst (v := 3) hx hb eX12_owned_39.1 (by decide) ?_
      refine lv_istore_n (lv' := [(3, .int 3), (2, .int (i2 r38)), (0, .ref (a 200)), (1, .int (i2 x32))]) hx hb eX12_owned_39.2.1 rfl hl (by decide) rfl (fun ls hl => ?_)
      exact J41 FU (x32, r38, 3, s37) _ _ _ ⟨hP, hS, lv_sub hl [2, 3, 1, 0] rfl, h⟩
    · have h := if_f (mt (i2_eq (x := (gI s37 55)) (y := 0) hr39 (by decide)).mpr c40) h
      refine lv_iload_n hx hb eX12_owned_25.2.2.2.2.2.2.1 rfl (lv_at hl 2 rfl) ?_
      obtain rfl := Option.some.inj h
      exact W.iret (v := (i2 x32)) hx hb hr (fun t ht hW => ⟨⟨_, (), rfl, rfl, by rw [ht]; exact hP, va_K.moved hW.alike hK, hDD _⟩, hS.F ht⟩) hS.2.2 eX12_owned_25.2.2.2.2.2.2.2
  refine lv_aload_n hx hb eX12_isFresh_21.2.1 rfl (lv_at hl 0 rfl) ?_
  refine lv_iload_n hx hb eX12_isFresh_21.2.2.1 rfl (lv_at hl 1 rfl) ?_
  obtain ⟨r42, hc41, h⟩ := bn_e h
  refine ycV (r0 := i2 r42) (As := [.int (i2 p0)]) (rest := []) (C := RX12) (n := 1) ⟨hx, hb, hml, hown, ht⟩ (k_x12_isFresh l D a p0 _ _ hc41) (zgV ml_X12_508 im_X12_isFresh se_X12_isFresh in_X12 co_X12_isFresh) rfl rfl (by decide +kernel) ⟨Nat.le_of_ble_eq_true rfl, Nat.le_of_ble_eq_true rfl⟩ hN hK hP hS 0 RW_0 rfl rfl rfl hl.1 rfl (Nat.le_of_ble_eq_true rfl) eX12_isFresh_21.2.2.2.1 ⟨Nat.le_of_ble_eq_true rfl, Nat.le_of_ble_eq_true rfl⟩ (fun H locs hP hS => ?_)
  obtain ⟨hr43, h⟩ := rg_e h
  refine lv_if_eq (tgt := 19) hx hb eX12_isFresh_21.2.2.2.2.1 (by decide) (fun c44 => ?_) (fun c44 => ?_)
  · have h := if_t ((i2_eq (x := r42) (y := 0) hr43 (by decide)).mp c44) h
    exact J19 (p0, s) _ _ _ ⟨hP, hS, lv_sub hl [0, 1] rfl, h⟩
  · have h := if_f (mt (i2_eq (x := r42) (y := 0) hr43 (by decide)).mpr c44) h
    refine lv_aload_n hx hb eX12_isFresh_21.2.2.2.2.2.1 rfl (lv_at hl 0 rfl) ?_
    refine lv_iload_n hx hb eX12_isFresh_21.2.2.2.2.2.2.1 rfl (lv_at hl 1 rfl) ?_
    obtain ⟨r46, hc45, h⟩ := bn_e h
    refine ycV (r0 := i2 r46) (As := [.int (i2 p0)]) (rest := []) (C := RX12) (n := 1) ⟨hx, hb, hml, hown, ht⟩ (k_x12_countOf l D a p0 _ _ hc45) (zgV ml_X12_432 im_X12_countOf se_X12_countOf in_X12 co_X12_countOf) rfl rfl (by decide +kernel) ⟨Nat.le_of_ble_eq_true rfl, Nat.le_of_ble_eq_true rfl⟩ hN hK hP hS 0 RW_0 rfl rfl rfl hl.1 rfl (Nat.le_of_ble_eq_true rfl) eX12_isFresh_21.2.2.2.2.2.2.2 ⟨Nat.le_of_ble_eq_true rfl, Nat.le_of_ble_eq_true rfl⟩ (fun H locs hP hS => ?_)
    refine lv_iconst (v := 1) hx hb eX12_owned_13.1 (by decide) ?_
    obtain ⟨hr47, h⟩ := rg_e h
    refine lv_icmp_ne (tgt := 19) hx hb eX12_owned_13.2.1 (by decide) (fun c48 => ?_) (fun c48 => ?_)
    · have h := if_f (mt (i2_eq (x := r46) (y := 1) hr47 (by decide)).mpr c48) h
      exact J19 (p0, s) _ _ _ ⟨hP, hS, lv_sub hl [0, 1] rfl, h⟩
    · have h := if_t ((i2_eq (x := r46) (y := 1) hr47 (by decide)).mp c48) h
      refine lv_iload_n hx hb eX12_owned_13.2.2.1 rfl (lv_at hl 1 rfl) ?_
      obtain rfl := Option.some.inj h
      exact W.iret (v := (i2 p0)) hx hb hr (fun t ht hW => ⟨⟨_, (), rfl, rfl, by rw [ht]; exact hP, va_K.moved hW.alike hK, hDD _⟩, hS.F ht⟩) hS.2.2 eX12_owned_13.2.2.2.1
set_option maxHeartbeats 4000000 in
set_option maxRecDepth 100000 in
theorem k_x12_removes (l : Launch) (D : va_G) (a : Nat → Nat) (p0 : Int) (p1 : Int) (sz : Nat) (s : MS) (o : MS) (h : m_x12_removes p0 p1 s = some o) : yWv l yX12_removes cX12_removes 8 none { frames := 7, cells := 0, slots := 0, locals := 420 } D sz [.ref (a 200), .int (i2 p0), .int (i2 p1)] (RW D a s) (RW D a o) := by
  refine Met.ofW (cc := cX12_removes) (maxL := 8) (ret := none) (by decide) rfl ?_
  intro p e s₀ m args below meth c s₁ B hml hv
  obtain ⟨rfl, ⟨hsz, hP, hK, hD0⟩, hN⟩ := hv
  have hx := B.exec
  have hb := B.bytes
  have hr := B.returns
  have hts := atoms_spec (ws := wz yX12_removes cX12_removes 8 none) B.pre
  have ht : ∀ w ∈ lw_gd, w.before _ s₀ = true := fun w h => hts w (List.mem_cons_of_mem _ h)
  have hown : s₀.vm.findClass RX12 = some m.cls := findClass_of_methodNamed B.named
  have hlocks := B.notSynchronized
  subst hsz
  have hD := hD0.self (sz := s₀.heap.size)
  generalize hAe : va_A (RW D a s) s₀.heap.size = A at hD ⊢
  have hA : ∀ q : Nat, s₀.heap.size ≤ q → A q := fun q h => by rw [← hAe]; exact Or.inr h
  have hS : va_S A s₀.heap s₀.heap [] := va_S.rf
  have hDD : ∀ t : MS, va_D A (RW D a t) := fun t => RW_D t hD
  have hl := lv_entry ([.ref (a 200), .int (i2 p0), .int (i2 p1)]) (n := 8) (Nat.le_of_ble_eq_true rfl)
  rw [lg_entry_eq]
  generalize (lg_sl ([.ref (a 200), .int (i2 p0), .int (i2 p1)]) ++ List.replicate (8 - (lg_sl ([.ref (a 200), .int (i2 p0), .int (i2 p1)])).length) Slot.unset).toArray = ls at hl ⊢
  have hl : lv_has ls 8 [(0, .ref (a 200)), (1, .int (i2 p0)), (2, .int (i2 p1))] := hl
  unfold m_x12_removes at h
  refine y_head (pcJ := 182) (σ := Int × Int × MS) (fun u H locs ls => va_P D vwCl (RW D a u.2.2) H ∧ va_S A s₀.heap H locs ∧ lv_has ls 8 [(0, .ref (a 200)), (1, .int (i2 u.1)), (3, .int (i2 u.2.1))] ∧ m_x12_removes_J182 u.1 u.2.1 u.2.2 = some o) (fun u => []) (fun u H locs ls hI => ?_) (fun J182 => ?_)
  · obtain ⟨hP, hS, hl, h⟩ := hI
    obtain ⟨x1, x2, s3⟩ := u
    have hP : va_P D vwCl (RW D a s3) H := hP
    have hl : lv_has ls 8 [(0, .ref (a 200)), (1, .int (i2 x1)), (3, .int (i2 x2))] := hl
    have h : m_x12_removes_J182 x1 x2 s3 = some o := h
    unfold m_x12_removes_J182 at h
    refine lv_aload_n hx hb eX12_removes_175.2.2.2.1 rfl (lv_at hl 0 rfl) ?_
    refine lv_iload_n hx hb eX12_removes_175.2.2.2.2.1 rfl (lv_at hl 2 rfl) ?_
    obtain ⟨r5, hc4, h⟩ := bn_e h
    refine ycV (r0 := i2 r5) (As := [.int (i2 x2)]) (rest := []) (C := RX12) (n := 1) ⟨hx, hb, hml, hown, ht⟩ (k_x12_entriesOf l D a x2 _ _ hc4) (zgV ml_X12_466 im_X12_entriesOf se_X12_entriesOf in_X12 co_X12_entriesOf) rfl rfl (by decide +kernel) ⟨Nat.le_of_ble_eq_true rfl, Nat.le_of_ble_eq_true rfl⟩ hN hK hP hS 0 RW_0 rfl rfl rfl hl.1 rfl (Nat.le_of_ble_eq_true rfl) eX12_removes_175.2.2.2.2.2.1 ⟨Nat.le_of_ble_eq_true rfl, Nat.le_of_ble_eq_true rfl⟩ (fun H locs hP hS => ?_)
    obtain ⟨hr6, h⟩ := rg_e h
    refine lv_if_ne (tgt := 206) hx hb eX12_removes_175.2.2.2.2.2.2.1 (by decide) (fun c7 => ?_) (fun c7 => ?_)
    · have h := if_f (mt (i2_eq (x := r5) (y := 0) hr6 (by decide)).mpr c7) h
      refine lv_aload_n hx hb eX12_removes_205.2.1 rfl (lv_at hl 0 rfl) ?_
      refine lv_iload_n hx hb eX12_removes_205.2.2.1 rfl (lv_at hl 1 rfl) ?_
      obtain ⟨s9, hc8, h⟩ := bn_e h
      refine ywVv (As := [.int (i2 x1)]) (rest := []) (C := RX12) (n := 1) (ws' := RW D a s9) ⟨hx, hb, hml, hown, ht⟩ (k_x12_lowers l D a x1 _ _ _ hc8) (zgV ml_X12_556 im_X12_lowers se_X12_lowers in_X12 co_X12_lowers) rfl rfl (by decide +kernel) ⟨Nat.le_of_ble_eq_true rfl, Nat.le_of_ble_eq_true rfl⟩ hN hK hP (hDD _) hS hA 0 RW_0 rfl rfl rfl hl.1 rfl (Nat.le_of_ble_eq_true rfl) eX12_removes_205.2.2.2.1 ⟨Nat.le_of_ble_eq_true rfl, Nat.le_of_ble_eq_true rfl⟩ (fun H locs hP hS => ?_)
      obtain rfl := Option.some.inj h
      exact W.vret hx hb hr (fun t ht hW => ⟨⟨(), rfl, trivial, by rw [ht]; exact hP, va_K.moved hW.alike hK, hDD _⟩, hS.F ht⟩) hS.2.2 eX12_removes_205.2.2.2.2.1
    · have h := if_t ((i2_eq (x := r5) (y := 0) hr6 (by decide)).mp c7) h
      refine lv_aload_n hx hb eX12_removes_175.2.2.2.2.2.2.2 rfl (lv_at hl 0 rfl) ?_
      refine lv_iload_n hx hb eX12_removes_191.1 rfl (lv_at hl 2 rfl) ?_
      refine lv_iconst (v := (-1)) hx hb eX12_removes_191.2.1 (by decide) ?_
      obtain ⟨s11, hc10, h⟩ := bn_e h
      refine ywVv (As := [.int (i2 x2), .int (-1)]) (rest := []) (C := RX12) (n := 2) (ws' := RW D a s11) ⟨hx, hb, hml, hown, ht⟩ (k_x12_counts l D a x2 (-1) _ _ _ hc10) (zgV ml_X12_502 im_X12_counts se_X12_counts in_X12 co_X12_counts) rfl rfl (by decide +kernel) ⟨Nat.le_of_ble_eq_true rfl, Nat.le_of_ble_eq_true rfl⟩ hN hK hP (hDD _) hS hA 0 RW_0 rfl rfl rfl hl.1 rfl (Nat.le_of_ble_eq_true rfl) eX12_removes_191.2.2.1 ⟨Nat.le_of_ble_eq_true rfl, Nat.le_of_ble_eq_true rfl⟩ (fun H locs hP hS => ?_)
      refine lv_aload_n hx hb eX12_removes_191.2.2.2.1 rfl (lv_at hl 0 rfl) ?_
      refine va_get (D := D) (ci := 12) (v := .ref (a 49)) (C := RX12) (T := TX12) (N := 116) hx hb ht inX12 hown hK hP 0 RW_0 rfl 49 (by decide) (ht (.fieldLink RX12 121 "CloneVolumesModel" "now" "[I") fl_X12_121) (fun _ h9 => h9) mF_49 eX12_removes_191.2.2.2.2.1 ?_
      refine lv_iload_n hx hb eX12_removes_191.2.2.2.2.2.1 rfl (lv_at hl 1 rfl) ?_
      refine lv_sipush (v := 254) hx hb eX12_removes_191.2.2.2.2.2.2.1 (by decide) ?_
      obtain ⟨hi12, h⟩ := inb_e h
      refine ya_iast (i := x1) (x := 254) hx hb hK hP (hDD _) hS 36 0 RW_36 rfl (by decide) hi12 eX12_removes_191.2.2.2.2.2.2.2 (RW_w36 _) (fun H locs hP hS => ?_)
      obtain ⟨s13, hs13, h⟩ := st_e h
      rw [hs13] at hP
      obtain rfl := Option.some.inj h
      exact W.vret hx hb hr (fun t ht hW => ⟨⟨(), rfl, trivial, by rw [ht]; exact hP, va_K.moved hW.alike hK, hDD _⟩, hS.F ht⟩) hS.2.2 eX12_removes_205.1
  refine y_loop (pcJ := 137) (σ := Int × Int × Int × MS) (fun n u H locs ls => va_P D vwCl (RW D a u.2.2.2) H ∧ va_S A s₀.heap H locs ∧ lv_has ls 8 [(0, .ref (a 200)), (1, .int (i2 u.1)), (3, .int (i2 u.2.1)), (4, .int (i2 u.2.2.1))] ∧ m_x12_removes_L137 n u.1 u.2.1 u.2.2.1 u.2.2.2 = some o) (fun u => []) (fun u H locs ls hI => by obtain ⟨_, _, _, h⟩ := hI; cases h) (fun n137 ih137 u H locs ls hI => ?_) (fun J137 => ?_)
  · obtain ⟨hP, hS, hl, h⟩ := hI
    obtain ⟨x14, x15, x16, s17⟩ := u
    have hP : va_P D vwCl (RW D a s17) H := hP
    have hl : lv_has ls 8 [(0, .ref (a 200)), (1, .int (i2 x14)), (3, .int (i2 x15)), (4, .int (i2 x16))] := hl
    have h : m_x12_removes_b137 (m_x12_removes_L137 n137) x14 x15 x16 s17 = some o := h
    unfold m_x12_removes_b137 at h
    refine lv_aload_n hx hb eX12_removes_130.2.2.2.1 rfl (lv_at hl 0 rfl) ?_
    refine lv_iload_n hx hb eX12_removes_130.2.2.2.2.1 rfl (lv_at hl 2 rfl) ?_
    obtain ⟨r19, hc18, h⟩ := bn_e h
    refine ycV (r0 := i2 r19) (As := [.int (i2 x15)]) (rest := []) (C := RX12) (n := 1) ⟨hx, hb, hml, hown, ht⟩ (k_x12_entriesOf l D a x15 _ _ hc18) (zgV ml_X12_466 im_X12_entriesOf se_X12_entriesOf in_X12 co_X12_entriesOf) rfl rfl (by decide +kernel) ⟨Nat.le_of_ble_eq_true rfl, Nat.le_of_ble_eq_true rfl⟩ hN hK hP hS 0 RW_0 rfl rfl rfl hl.1 rfl (Nat.le_of_ble_eq_true rfl) eX12_removes_130.2.2.2.2.2.1 ⟨Nat.le_of_ble_eq_true rfl, Nat.le_of_ble_eq_true rfl⟩ (fun H locs hP hS => ?_)
    obtain ⟨hr20, h⟩ := rg_e h
    refine lv_if_ne (tgt := 182) hx hb eX12_removes_130.2.2.2.2.2.2.1 (by decide) (fun c21 => ?_) (fun c21 => ?_)
    · have h := if_f (mt (i2_eq (x := r19) (y := 0) hr20 (by decide)).mpr c21) h
      exact J182 (x14, x15, s17) _ _ _ ⟨hP, hS, lv_sub hl [0, 1, 2] rfl, h⟩
    · have h := if_t ((i2_eq (x := r19) (y := 0) hr20 (by decide)).mp c21) h
      refine lv_iload hx hb eX12_removes_130.2.2.2.2.2.2.2 (lv_at hl 3 rfl) ?_
      obtain ⟨hr22, h⟩ := rg_e h
      refine lv_if_le (tgt := 182) hx hb eX12_removes_147.1 (by decide) (fun c23 => ?_) (fun c23 => ?_)
      · have h := if_t ((i2_le (x := x16) (y := 0) hr22 (by decide)).mp c23) h
        exact J182 (x14, x15, s17) _ _ _ ⟨hP, hS, lv_sub hl [0, 1, 2] rfl, h⟩
      · have h := if_f (mt (i2_le (x := x16) (y := 0) hr22 (by decide)).mpr c23) h
        refine lv_aload_n hx hb eX12_removes_147.2.1 rfl (lv_at hl 0 rfl) ?_
        refine lv_iload_n hx hb eX12_removes_147.2.2.1 rfl (lv_at hl 2 rfl) ?_
        refine lv_iconst (v := (-1)) hx hb eX12_removes_147.2.2.2.1 (by decide) ?_
        obtain ⟨s25, hc24, h⟩ := bn_e h
        refine ywVv (As := [.int (i2 x15), .int (-1)]) (rest := []) (C := RX12) (n := 2) (ws' := RW D a s25) ⟨hx, hb, hml, hown, ht⟩ (k_x12_counts l D a x15 (-1) _ _ _ hc24) (zgV ml_X12_502 im_X12_counts se_X12_counts in_X12 co_X12_counts) rfl rfl (by decide +kernel) ⟨Nat.le_of_ble_eq_true rfl, Nat.le_of_ble_eq_true rfl⟩ hN hK hP (hDD _) hS hA 0 RW_0 rfl rfl rfl hl.1 rfl (Nat.le_of_ble_eq_true rfl) eX12_removes_147.2.2.2.2.1 ⟨Nat.le_of_ble_eq_true rfl, Nat.le_of_ble_eq_true rfl⟩ (fun H locs hP hS => ?_)
        refine lv_iinc (v := i2 (x16 + (-1))) (lv' := [(4, .int (i2 (x16 + (-1)))), (0, .ref (a 200)), (1, .int (i2 x14)), (3, .int (i2 x15))]) hx hb eX12_removes_147.2.2.2.2.2.1 hl (k := 3) rfl (i2_add x16 (-1)) (by decide) rfl (fun ls hl => ?_)
        refine lv_aload_n hx hb eX12_removes_147.2.2.2.2.2.2.1 rfl (lv_at hl 1 rfl) ?_
        refine va_get (D := D) (ci := 12) (v := .ref (a 57)) (C := RX12) (T := TX12) (N := 116) hx hb ht inX12 hown hK hP 0 RW_0 rfl 57 (by decide) (ht (.fieldLink RX12 131 "CloneVolumesModel" "wayBlocks" "[I") fl_X12_131) (fun _ h9 => h9) mF_57 eX12_removes_147.2.2.2.2.2.2.2 ?_
        refine lv_iload hx hb eX12_removes_163.1 (lv_at hl 0 rfl) ?_
        obtain ⟨y26, ey26, iy26, h⟩ := rdI_e h
        refine ya_iald (i := (x16 + (-1))) hx hb hK hP 39 0 RW_39 rfl (by decide) ey26 iy26 eX12_removes_163.2.1 ?_
        refine lv_istore_n (lv' := [(3, .int (i2 y26)), (4, .int (i2 (x16 + (-1)))), (0, .ref (a 200)), (1, .int (i2 x14))]) hx hb eX12_removes_163.2.2.1 rfl hl (by decide) rfl (fun ls hl => ?_)
        refine lv_aload_n hx hb eX12_removes_163.2.2.2.1 rfl (lv_at hl 2 rfl) ?_
        refine lv_iload_n hx hb eX12_removes_163.2.2.2.2.1 rfl (lv_at hl 0 rfl) ?_
        refine lv_aload_n hx hb eX12_removes_163.2.2.2.2.2.1 rfl (lv_at hl 2 rfl) ?_
        refine va_get (D := D) (ci := 12) (v := .ref (a 58)) (C := RX12) (T := TX12) (N := 116) hx hb ht inX12 hown hK hP 0 RW_0 rfl 58 (by decide) (ht (.fieldLink RX12 134 "CloneVolumesModel" "wayPlaces" "[I") fl_X12_134) (fun _ h9 => h9) mF_58 eX12_removes_163.2.2.2.2.2.2.1 ?_
        refine lv_iload hx hb eX12_removes_163.2.2.2.2.2.2.2 (lv_at hl 1 rfl) ?_
        obtain ⟨y27, ey27, iy27, h⟩ := rdI_e h
        refine ya_iald (i := (x16 + (-1))) hx hb hK hP 40 0 RW_40 rfl (by decide) ey27 iy27 eX12_removes_175.1 ?_
        obtain ⟨s29, hc28, h⟩ := bn_e h
        refine ywVv (As := [.int (i2 y26), .int (i2 y27)]) (rest := []) (C := RX12) (n := 2) (ws' := RW D a s29) ⟨hx, hb, hml, hown, ht⟩ (k_x12_cutsEntry l D a y26 y27 _ _ _ hc28) (zgV ml_X12_553 im_X12_cutsEntry se_X12_cutsEntry in_X12 co_X12_cutsEntry) rfl rfl (by decide +kernel) ⟨Nat.le_of_ble_eq_true rfl, Nat.le_of_ble_eq_true rfl⟩ hN hK hP (hDD _) hS hA 0 RW_0 rfl rfl rfl hl.1 rfl (Nat.le_of_ble_eq_true rfl) eX12_removes_175.2.1 ⟨Nat.le_of_ble_eq_true rfl, Nat.le_of_ble_eq_true rfl⟩ (fun H locs hP hS => ?_)
        refine lv_goto (tgt := 137) hx hb eX12_removes_175.2.2.1 (by decide) ?_
        exact ih137 (x14, y26, x16 + (-1), s29) _ _ _ ⟨hP, hS, lv_sub hl [2, 3, 0, 1] rfl, h⟩
  refine y_head (pcJ := 118) (σ := Int × Int × Int × Int × MS) (fun u H locs ls => va_P D vwCl (RW D a u.2.2.2.2) H ∧ va_S A s₀.heap H locs ∧ lv_has ls 8 [(0, .ref (a 200)), (1, .int (i2 u.1)), (2, .int (i2 u.2.1)), (3, .int (i2 u.2.2.1)), (4, .int (i2 u.2.2.2.1))] ∧ m_x12_removes_J118 u.1 u.2.1 u.2.2.1 u.2.2.2.1 u.2.2.2.2 = some o) (fun u => []) (fun u H locs ls hI => ?_) (fun J118 => ?_)
  · obtain ⟨hP, hS, hl, h⟩ := hI
    obtain ⟨x30, x31, x32, x33, s34⟩ := u
    have hP : va_P D vwCl (RW D a s34) H := hP
    have hl : lv_has ls 8 [(0, .ref (a 200)), (1, .int (i2 x30)), (2, .int (i2 x31)), (3, .int (i2 x32)), (4, .int (i2 x33))] := hl
    have h : m_x12_removes_J118 x30 x31 x32 x33 s34 = some o := h
    unfold m_x12_removes_J118 at h
    refine lv_aload_n hx hb eX12_removes_118.1 rfl (lv_at hl 0 rfl) ?_
    refine va_get (D := D) (ci := 12) (v := .int (i2 (gI s34 55))) (C := RX12) (T := TX12) (N := 116) hx hb ht inX12 hown hK hP 0 RW_0 rfl 55 (by decide) (ht (.fieldLink RX12 493 "CloneVolumesModel" "isFull" "Z") fl_X12_493) (fun _ h9 => h9) mF_55 eX12_removes_118.2.1 ?_
    obtain ⟨hr35, h⟩ := rg_e h
    refine lv_if_eq (tgt := 126) hx hb eX12_removes_118.2.2.1 (by decide) (fun c36 => ?_) (fun c36 => ?_)
    · have h := if_t ((i2_eq (x := (gI s34 55)) (y := 0) hr35 (by decide)).mp c36) h
      refine lv_aload_n hx hb eX12_removes_118.2.2.2.2.1 rfl (lv_at hl 0 rfl) ?_
      refine lv_iload_n hx hb eX12_removes_118.2.2.2.2.2.1 rfl (lv_at hl 3 rfl) ?_
      refine lv_aload_n hx hb eX12_removes_118.2.2.2.2.2.2.1 rfl (lv_at hl 0 rfl) ?_
      refine lv_iload_n hx hb eX12_removes_118.2.2.2.2.2.2.2 rfl (lv_at hl 3 rfl) ?_
      refine lv_iload_n hx hb eX12_removes_130.1 rfl (lv_at hl 2 rfl) ?_
      obtain ⟨r38, hc37, h⟩ := bn_e h
      refine ycV (r0 := i2 r38) (As := [.int (i2 x32), .int (i2 x31)]) (rest := [.int (i2 x32), .ref (a 200)]) (C := RX12) (n := 2) ⟨hx, hb, hml, hown, ht⟩ (k_x12_placeIn l D a x32 x31 _ _ hc37) (zgV ml_X12_550 im_X12_placeIn se_X12_placeIn in_X12 co_X12_placeIn) rfl rfl (by decide +kernel) ⟨Nat.le_of_ble_eq_true rfl, Nat.le_of_ble_eq_true rfl⟩ hN hK hP hS 0 RW_0 rfl rfl rfl hl.1 rfl (Nat.le_of_ble_eq_true rfl) eX12_removes_130.2.1 ⟨Nat.le_of_ble_eq_true rfl, Nat.le_of_ble_eq_true rfl⟩ (fun H locs hP hS => ?_)
      obtain ⟨s40, hc39, h⟩ := bn_e h
      refine ywVv (As := [.int (i2 x32), .int (i2 r38)]) (rest := []) (C := RX12) (n := 2) (ws' := RW D a s40) ⟨hx, hb, hml, hown, ht⟩ (k_x12_cutsEntry l D a x32 r38 _ _ _ hc39) (zgV ml_X12_553 im_X12_cutsEntry se_X12_cutsEntry in_X12 co_X12_cutsEntry) rfl rfl (by decide +kernel) ⟨Nat.le_of_ble_eq_true rfl, Nat.le_of_ble_eq_true rfl⟩ hN hK hP (hDD _) hS hA 0 RW_0 rfl rfl rfl hl.1 rfl (Nat.le_of_ble_eq_true rfl) eX12_removes_130.2.2.1 ⟨Nat.le_of_ble_eq_true rfl, Nat.le_of_ble_eq_true rfl⟩ (fun H locs hP hS => ?_)
      exact J137 FU (x30, x32, x33, s40) _ _ _ ⟨hP, hS, lv_sub hl [0, 1, 3, 4] rfl, h⟩
    · have h := if_f (mt (i2_eq (x := (gI s34 55)) (y := 0) hr35 (by decide)).mpr c36) h
      obtain rfl := Option.some.inj h
      exact W.vret hx hb hr (fun t ht hW => ⟨⟨(), rfl, trivial, by rw [ht]; exact hP, va_K.moved hW.alike hK, hDD _⟩, hS.F ht⟩) hS.2.2 eX12_removes_118.2.2.2.1
  refine y_loop (pcJ := 29) (σ := Int × Int × Int × Int × MS) (fun n u H locs ls => va_P D vwCl (RW D a u.2.2.2.2) H ∧ va_S A s₀.heap H locs ∧ lv_has ls 8 [(0, .ref (a 200)), (1, .int (i2 u.1)), (2, .int (i2 u.2.1)), (3, .int (i2 u.2.2.1)), (4, .int (i2 u.2.2.2.1))] ∧ m_x12_removes_L29 n u.1 u.2.1 u.2.2.1 u.2.2.2.1 u.2.2.2.2 = some o) (fun u => []) (fun u H locs ls hI => by obtain ⟨_, _, _, h⟩ := hI; cases h) (fun n29 ih29 u H locs ls hI => ?_) (fun J29 => ?_)
  · obtain ⟨hP, hS, hl, h⟩ := hI
    obtain ⟨x41, x42, x43, x44, s45⟩ := u
    have hP : va_P D vwCl (RW D a s45) H := hP
    have hl : lv_has ls 8 [(0, .ref (a 200)), (1, .int (i2 x41)), (2, .int (i2 x42)), (3, .int (i2 x43)), (4, .int (i2 x44))] := hl
    have h : m_x12_removes_b29 (m_x12_removes_L29 n29) x41 x42 x43 x44 s45 = some o := h
    unfold m_x12_removes_b29 at h
    refine y_head (pcJ := 92) (σ := Int × Int × Int × Int × Int × Int × MS) (fun u H locs ls => va_P D vwCl (RW D a u.2.2.2.2.2.2) H ∧ va_S A s₀.heap H locs ∧ lv_has ls 8 [(0, .ref (a 200)), (1, .int (i2 u.1)), (2, .int (i2 u.2.1)), (3, .int (i2 u.2.2.1)), (4, .int (i2 u.2.2.2.1)), (5, .int (i2 u.2.2.2.2.1)), (7, .int (i2 u.2.2.2.2.2.1))] ∧ m_x12_removes_J92 (m_x12_removes_L29 n29) u.1 u.2.1 u.2.2.1 u.2.2.2.1 u.2.2.2.2.1 u.2.2.2.2.2.1 u.2.2.2.2.2.2 = some o) (fun u => []) (fun u H locs ls hI => ?_) (fun J92 => ?_)
    · obtain ⟨hP, hS, hl, h⟩ := hI
      obtain ⟨x46, x47, x48, x49, x50, x51, s52⟩ := u
      have hP : va_P D vwCl (RW D a s52) H := hP
      have hl : lv_has ls 8 [(0, .ref (a 200)), (1, .int (i2 x46)), (2, .int (i2 x47)), (3, .int (i2 x48)), (4, .int (i2 x49)), (5, .int (i2 x50)), (7, .int (i2 x51))] := hl
      have h : m_x12_removes_J92 (m_x12_removes_L29 n29) x46 x47 x48 x49 x50 x51 s52 = some o := h
      unfold m_x12_removes_J92 at h
      refine lv_aload_n hx hb eX12_removes_87.2.2.1 rfl (lv_at hl 0 rfl) ?_
      refine va_get (D := D) (ci := 12) (v := .ref (a 57)) (C := RX12) (T := TX12) (N := 116) hx hb ht inX12 hown hK hP 0 RW_0 rfl 57 (by decide) (ht (.fieldLink RX12 131 "CloneVolumesModel" "wayBlocks" "[I") fl_X12_131) (fun _ h9 => h9) mF_57 eX12_removes_87.2.2.2.1 ?_
      refine lv_iload hx hb eX12_removes_87.2.2.2.2.1 (lv_at hl 4 rfl) ?_
      refine lv_iload_n hx hb eX12_removes_87.2.2.2.2.2.1 rfl (lv_at hl 3 rfl) ?_
      obtain ⟨hi53, h⟩ := inb_e h
      refine ya_iast (i := x49) (x := x48) hx hb hK hP (hDD _) hS 39 0 RW_39 rfl (by decide) hi53 eX12_removes_87.2.2.2.2.2.2.1 (RW_w39 _) (fun H locs hP hS => ?_)
      obtain ⟨s54, hs54, h⟩ := st_e h
      rw [hs54] at hP
      refine lv_aload_n hx hb eX12_removes_87.2.2.2.2.2.2.2 rfl (lv_at hl 0 rfl) ?_
      refine va_get (D := D) (ci := 12) (v := .ref (a 58)) (C := RX12) (T := TX12) (N := 116) hx hb ht inX12 hown hK hP 0 RW_0 rfl 58 (by decide) (ht (.fieldLink RX12 134 "CloneVolumesModel" "wayPlaces" "[I") fl_X12_134) (fun _ h9 => h9) mF_58 eX12_removes_101.1 ?_
      refine lv_iload hx hb eX12_removes_101.2.1 (lv_at hl 4 rfl) ?_
      refine lv_iload hx hb eX12_removes_101.2.2.1 (lv_at hl 5 rfl) ?_
      obtain ⟨hi55, h⟩ := inb_e h
      refine ya_iast (i := x49) (x := x50) hx hb hK hP (hDD _) hS 40 0 RW_40 rfl (by decide) hi55 eX12_removes_101.2.2.2.1 (RW_w40 _) (fun H locs hP hS => ?_)
      obtain ⟨s56, hs56, h⟩ := st_e h
      rw [hs56] at hP
      refine lv_iinc (v := i2 (x49 + 1)) (lv' := [(4, .int (i2 (x49 + 1))), (0, .ref (a 200)), (1, .int (i2 x46)), (2, .int (i2 x47)), (3, .int (i2 x48)), (5, .int (i2 x50)), (7, .int (i2 x51))]) hx hb eX12_removes_101.2.2.2.2.1 hl (k := 4) rfl (i2_add x49 1) (by decide) rfl (fun ls hl => ?_)
      refine lv_iload hx hb eX12_removes_101.2.2.2.2.2.1 (lv_at hl 6 rfl) ?_
      refine lv_istore_n (lv' := [(3, .int (i2 x51)), (4, .int (i2 (x49 + 1))), (0, .ref (a 200)), (1, .int (i2 x46)), (2, .int (i2 x47)), (5, .int (i2 x50)), (7, .int (i2 x51))]) hx hb eX12_removes_101.2.2.2.2.2.2.1 rfl hl (by decide) rfl (fun ls hl => ?_)
      refine lv_goto (tgt := 29) hx hb eX12_removes_101.2.2.2.2.2.2.2 (by decide) ?_
      exact ih29 (x46, x47, x51, x49 + 1, s56) _ _ _ ⟨hP, hS, lv_sub hl [2, 3, 4, 0, 1] rfl, h⟩
    refine lv_aload_n hx hb eX12_removes_27.2.1 rfl (lv_at hl 0 rfl) ?_
    refine va_get (D := D) (ci := 12) (v := .int (i2 (gI s45 55))) (C := RX12) (T := TX12) (N := 116) hx hb ht inX12 hown hK hP 0 RW_0 rfl 55 (by decide) (ht (.fieldLink RX12 493 "CloneVolumesModel" "isFull" "Z") fl_X12_493) (fun _ h9 => h9) mF_55 eX12_removes_27.2.2.1 ?_
    obtain ⟨hr57, h⟩ := rg_e h
    refine lv_if_ne (tgt := 118) hx hb eX12_removes_27.2.2.2.1 (by decide) (fun c58 => ?_) (fun c58 => ?_)
    · have h := if_f (mt (i2_eq (x := (gI s45 55)) (y := 0) hr57 (by decide)).mpr c58) h
      exact J118 (x41, x42, x43, x44, s45) _ _ _ ⟨hP, hS, lv_sub hl [0, 1, 2, 3, 4] rfl, h⟩
    · have h := if_t ((i2_eq (x := (gI s45 55)) (y := 0) hr57 (by decide)).mp c58) h
      refine lv_aload_n hx hb eX12_removes_27.2.2.2.2.1 rfl (lv_at hl 0 rfl) ?_
      refine lv_iload_n hx hb eX12_removes_27.2.2.2.2.2.1 rfl (lv_at hl 3 rfl) ?_
      obtain ⟨r60, hc59, h⟩ := bn_e h
      refine ycV (r0 := i2 r60) (As := [.int (i2 x43)]) (rest := []) (C := RX12) (n := 1) ⟨hx, hb, hml, hown, ht⟩ (k_x12_levelOf l D a x43 _ _ hc59) (zgV ml_X12_460 im_X12_levelOf se_X12_levelOf in_X12 co_X12_levelOf) rfl rfl (by decide +kernel) ⟨Nat.le_of_ble_eq_true rfl, Nat.le_of_ble_eq_true rfl⟩ hN hK hP hS 0 RW_0 rfl rfl rfl hl.1 rfl (Nat.le_of_ble_eq_true rfl) eX12_removes_27.2.2.2.2.2.2.1 ⟨Nat.le_of_ble_eq_true rfl, Nat.le_of_ble_eq_true rfl⟩ (fun H locs hP hS => ?_)
      obtain ⟨hr61, h⟩ := rg_e h
      refine lv_if_le (tgt := 118) hx hb eX12_removes_27.2.2.2.2.2.2.2 (by decide) (fun c62 => ?_) (fun c62 => ?_)
      · have h := if_t ((i2_le (x := r60) (y := 0) hr61 (by decide)).mp c62) h
        exact J118 (x41, x42, x43, x44, s45) _ _ _ ⟨hP, hS, lv_sub hl [0, 1, 2, 3, 4] rfl, h⟩
      · have h := if_f (mt (i2_le (x := r60) (y := 0) hr61 (by decide)).mpr c62) h
        refine lv_aload_n hx hb eX12_removes_44.1 rfl (lv_at hl 0 rfl) ?_
        refine lv_iload_n hx hb eX12_removes_44.2.1 rfl (lv_at hl 3 rfl) ?_
        refine lv_iload_n hx hb eX12_removes_44.2.2.1 rfl (lv_at hl 2 rfl) ?_
        obtain ⟨r64, hc63, h⟩ := bn_e h
        refine ycV (r0 := i2 r64) (As := [.int (i2 x43), .int (i2 x42)]) (rest := []) (C := RX12) (n := 2) ⟨hx, hb, hml, hown, ht⟩ (k_x12_placeFor l D a x43 x42 _ _ hc63) (zgV ml_X12_543 im_X12_placeFor se_X12_placeFor in_X12 co_X12_placeFor) rfl rfl (by decide +kernel) ⟨Nat.le_of_ble_eq_true rfl, Nat.le_of_ble_eq_true rfl⟩ hN hK hP hS 0 RW_0 rfl rfl rfl hl.1 rfl (Nat.le_of_ble_eq_true rfl) eX12_removes_44.2.2.2.1 ⟨Nat.le_of_ble_eq_true rfl, Nat.le_of_ble_eq_true rfl⟩ (fun H locs hP hS => ?_)
        refine lv_istore (lv' := [(5, .int (i2 r64)), (0, .ref (a 200)), (1, .int (i2 x41)), (2, .int (i2 x42)), (3, .int (i2 x43)), (4, .int (i2 x44))]) hx hb eX12_removes_44.2.2.2.2.1 hl (by decide) rfl (fun ls hl => ?_)
        refine lv_aload_n hx hb eX12_removes_44.2.2.2.2.2.1 rfl (lv_at hl 1 rfl) ?_
        refine lv_iload_n hx hb eX12_removes_44.2.2.2.2.2.2.1 rfl (lv_at hl 4 rfl) ?_
        refine lv_iload hx hb eX12_removes_44.2.2.2.2.2.2.2 (lv_at hl 0 rfl) ?_
        obtain ⟨r66, hc65, h⟩ := bn_e h
        refine ycV (r0 := i2 r66) (As := [.int (i2 x43), .int (i2 r64)]) (rest := []) (C := RX12) (n := 2) ⟨hx, hb, hml, hown, ht⟩ (k_x12_valueAt l D a x43 r64 _ _ hc65) (zgV ml_X12_505 im_X12_valueAt se_X12_valueAt in_X12 co_X12_valueAt) rfl rfl (by decide +kernel) ⟨Nat.le_of_ble_eq_true rfl, Nat.le_of_ble_eq_true rfl⟩ hN hK hP hS 0 RW_0 rfl rfl rfl hl.1 rfl (Nat.le_of_ble_eq_true rfl) eX12_removes_56.1 ⟨Nat.le_of_ble_eq_true rfl, Nat.le_of_ble_eq_true rfl⟩ (fun H locs hP hS => ?_)
        refine lv_istore (lv' := [(6, .int (i2 r66)), (5, .int (i2 r64)), (0, .ref (a 200)), (1, .int (i2 x41)), (2, .int (i2 x42)), (3, .int (i2 x43)), (4, .int (i2 x44))]) hx hb eX12_removes_56.2.1 hl (by decide) rfl (fun ls hl => ?_)
        refine lv_aload_n hx hb eX12_removes_56.2.2.1 rfl (lv_at hl 2 rfl) ?_
        refine lv_iload hx hb eX12_removes_56.2.2.2.1 (lv_at hl 0 rfl) ?_
        obtain ⟨⟨r69, s68⟩, hc67, h⟩ := bn_e h
        refine ywV (r0 := i2 r69) (As := [.int (i2 r66)]) (rest := []) (C := RX12) (n := 1) (ws' := RW D a s68) ⟨hx, hb, hml, hown, ht⟩ (k_x12_owned l D a r66 _ _ _ hc67) (zgV ml_X12_533 im_X12_owned se_X12_owned in_X12 co_X12_owned) rfl rfl (by decide +kernel) ⟨Nat.le_of_ble_eq_true rfl, Nat.le_of_ble_eq_true rfl⟩ hN hK hP (hDD _) hS hA 0 RW_0 rfl rfl rfl hl.1 rfl (Nat.le_of_ble_eq_true rfl) eX12_removes_56.2.2.2.2.1 ⟨Nat.le_of_ble_eq_true rfl, Nat.le_of_ble_eq_true rfl⟩ (fun H locs hP hS => ?_)
        refine lv_istore (lv' := [(7, .int (i2 r69)), (6, .int (i2 r66)), (5, .int (i2 r64)), (0, .ref (a 200)), (1, .int (i2 x41)), (2, .int (i2 x42)), (3, .int (i2 x43)), (4, .int (i2 x44))]) hx hb eX12_removes_56.2.2.2.2.2.1 hl (by decide) rfl (fun ls hl => ?_)
        refine lv_iload hx hb eX12_removes_56.2.2.2.2.2.2.1 (lv_at hl 0 rfl) ?_
        refine lv_iload hx hb eX12_removes_56.2.2.2.2.2.2.2 (lv_at hl 1 rfl) ?_
        obtain ⟨hr70, h⟩ := rg_e h
        obtain ⟨hr71, h⟩ := rg_e h
        refine lv_icmp_eq (tgt := 92) hx hb eX12_removes_73.1 (by decide) (fun c72 => ?_) (fun c72 => ?_)
        · have h := if_t ((i2_eq (x := r69) (y := r66) hr70 hr71).mp c72) h
          exact J92 (x41, x42, x43, x44, r64, r69, s68) _ _ _ ⟨hP, hS, lv_sub hl [3, 4, 5, 6, 7, 2, 0] rfl, h⟩
        · have h := if_f (mt (i2_eq (x := r69) (y := r66) hr70 hr71).mpr c72) h
          refine lv_aload_n hx hb eX12_removes_73.2.1 rfl (lv_at hl 3 rfl) ?_
          refine lv_iload_n hx hb eX12_removes_73.2.2.1 rfl (lv_at hl 6 rfl) ?_
          refine lv_iload hx hb eX12_removes_73.2.2.2.1 (lv_at hl 2 rfl) ?_
          refine lv_aload_n hx hb eX12_removes_73.2.2.2.2.1 rfl (lv_at hl 3 rfl) ?_
          refine lv_iload_n hx hb eX12_removes_73.2.2.2.2.2.1 rfl (lv_at hl 6 rfl) ?_
          refine lv_iload hx hb eX12_removes_73.2.2.2.2.2.2.1 (lv_at hl 2 rfl) ?_
          obtain ⟨r74, hc73, h⟩ := bn_e h
          refine ycV (r0 := i2 r74) (As := [.int (i2 x43), .int (i2 r64)]) (rest := [.int (i2 r64), .int (i2 x43), .ref (a 200)]) (C := RX12) (n := 2) ⟨hx, hb, hml, hown, ht⟩ (k_x12_keyAt l D a x43 r64 _ _ hc73) (zgV ml_X12_517 im_X12_keyAt se_X12_keyAt in_X12 co_X12_keyAt) rfl rfl (by decide +kernel) ⟨Nat.le_of_ble_eq_true rfl, Nat.le_of_ble_eq_true rfl⟩ hN hK hP hS 0 RW_0 rfl rfl rfl hl.1 rfl (Nat.le_of_ble_eq_true rfl) eX12_removes_73.2.2.2.2.2.2.2 ⟨Nat.le_of_ble_eq_true rfl, Nat.le_of_ble_eq_true rfl⟩ (fun H locs hP hS => ?_)
          refine lv_iload hx hb eX12_removes_87.1 (lv_at hl 0 rfl) ?_
          obtain ⟨s76, hc75, h⟩ := bn_e h
          refine ywVv (As := [.int (i2 x43), .int (i2 r64), .int (i2 r74), .int (i2 r69)]) (rest := []) (C := RX12) (n := 4) (ws' := RW D a s76) ⟨hx, hb, hml, hown, ht⟩ (k_x12_setsEntry l D a x43 r64 r74 r69 _ _ _ hc75) (zgV ml_X12_520 im_X12_setsEntry se_X12_setsEntry in_X12 co_X12_setsEntry) rfl rfl (by decide +kernel) ⟨Nat.le_of_ble_eq_true rfl, Nat.le_of_ble_eq_true rfl⟩ hN hK hP (hDD _) hS hA 0 RW_0 rfl rfl rfl hl.1 rfl (Nat.le_of_ble_eq_true rfl) eX12_removes_87.2.1 ⟨Nat.le_of_ble_eq_true rfl, Nat.le_of_ble_eq_true rfl⟩ (fun H locs hP hS => ?_)
          exact J92 (x41, x42, x43, x44, r64, r69, s76) _ _ _ ⟨hP, hS, lv_sub hl [3, 4, 5, 6, 7, 2, 0] rfl, h⟩
  refine lv_aload_n hx hb eX12_qPartOf_100.2.2.2.2.2.2.2 rfl (lv_at hl 0 rfl) ?_
  refine lv_aload_n hx hb eX12_removes_1.1 rfl (lv_at hl 0 rfl) ?_
  refine va_get (D := D) (ci := 12) (v := .ref (a 49)) (C := RX12) (T := TX12) (N := 116) hx hb ht inX12 hown hK hP 0 RW_0 rfl 49 (by decide) (ht (.fieldLink RX12 121 "CloneVolumesModel" "now" "[I") fl_X12_121) (fun _ h9 => h9) mF_49 eX12_removes_1.2.1 ?_
  refine lv_iload_n hx hb eX12_removes_1.2.2.1 rfl (lv_at hl 1 rfl) ?_
  obtain ⟨y77, ey77, iy77, h⟩ := rdI_e h
  refine ya_iald (i := p0) hx hb hK hP 36 0 RW_36 rfl (by decide) ey77 iy77 eX12_removes_1.2.2.2.1 ?_
  obtain ⟨⟨r80, s79⟩, hc78, h⟩ := bn_e h
  refine ywV (r0 := i2 r80) (As := [.int (i2 y77)]) (rest := []) (C := RX12) (n := 1) (ws' := RW D a s79) ⟨hx, hb, hml, hown, ht⟩ (k_x12_owned l D a y77 _ _ _ hc78) (zgV ml_X12_533 im_X12_owned se_X12_owned in_X12 co_X12_owned) rfl rfl (by decide +kernel) ⟨Nat.le_of_ble_eq_true rfl, Nat.le_of_ble_eq_true rfl⟩ hN hK hP (hDD _) hS hA 0 RW_0 rfl rfl rfl hl.1 rfl (Nat.le_of_ble_eq_true rfl) eX12_removes_1.2.2.2.2.1 ⟨Nat.le_of_ble_eq_true rfl, Nat.le_of_ble_eq_true rfl⟩ (fun H locs hP hS => ?_)
  refine lv_istore_n (lv' := [(3, .int (i2 r80)), (0, .ref (a 200)), (1, .int (i2 p0)), (2, .int (i2 p1))]) hx hb eX12_removes_1.2.2.2.2.2.1 rfl hl (by decide) rfl (fun ls hl => ?_)
  refine lv_aload_n hx hb eX12_removes_1.2.2.2.2.2.2.1 rfl (lv_at hl 1 rfl) ?_
  refine va_get (D := D) (ci := 12) (v := .int (i2 (gI s79 55))) (C := RX12) (T := TX12) (N := 116) hx hb ht inX12 hown hK hP 0 RW_0 rfl 55 (by decide) (ht (.fieldLink RX12 493 "CloneVolumesModel" "isFull" "Z") fl_X12_493) (fun _ h9 => h9) mF_55 eX12_removes_1.2.2.2.2.2.2.2 ?_
  obtain ⟨hr81, h⟩ := rg_e h
  refine lv_if_eq (tgt := 19) hx hb eX12_removes_15.1 (by decide) (fun c82 => ?_) (fun c82 => ?_)
  · have h := if_t ((i2_eq (x := (gI s79 55)) (y := 0) hr81 (by decide)).mp c82) h
    refine lv_aload_n hx hb eX12_removes_15.2.2.1 rfl (lv_at hl 1 rfl) ?_
    refine va_get (D := D) (ci := 12) (v := .ref (a 49)) (C := RX12) (T := TX12) (N := 116) hx hb ht inX12 hown hK hP 0 RW_0 rfl 49 (by decide) (ht (.fieldLink RX12 121 "CloneVolumesModel" "now" "[I") fl_X12_121) (fun _ h9 => h9) mF_49 eX12_removes_15.2.2.2.1 ?_
    refine lv_iload_n hx hb eX12_removes_15.2.2.2.2.1 rfl (lv_at hl 2 rfl) ?_
    refine lv_iload_n hx hb eX12_removes_15.2.2.2.2.2.1 rfl (lv_at hl 0 rfl) ?_
    obtain ⟨hi83, h⟩ := inb_e h
    refine ya_iast (i := p0) (x := r80) hx hb hK hP (hDD _) hS 36 0 RW_36 rfl (by decide) hi83 eX12_removes_15.2.2.2.2.2.2.1 (RW_w36 _) (fun H locs hP hS => ?_)
    obtain ⟨s84, hs84, h⟩ := st_e h
    rw [hs84] at hP
    refine lv_iconst (v := 0) hx hb eX12_removes_15.2.2.2.2.2.2.2 (by decide) ?_
    refine lv_istore (lv' := [(4, .int 0), (3, .int (i2 r80)), (0, .ref (a 200)), (1, .int (i2 p0)), (2, .int (i2 p1))]) hx hb eX12_removes_27.1 hl (by decide) rfl (fun ls hl => ?_)
    exact J29 FU (p0, p1, r80, 0, s84) _ _ _ ⟨hP, hS, lv_sub hl [2, 3, 4, 1, 0] rfl, h⟩
  · have h := if_f (mt (i2_eq (x := (gI s79 55)) (y := 0) hr81 (by decide)).mpr c82) h
    obtain rfl := Option.some.inj h
    exact W.vret hx hb hr (fun t ht hW => ⟨⟨(), rfl, trivial, by rw [ht]; exact hP, va_K.moved hW.alike hK, hDD _⟩, hS.F ht⟩) hS.2.2 eX12_removes_15.2.1
set_option maxHeartbeats 4000000 in
set_option maxRecDepth 100000 in
theorem k_x12_inserts (l : Launch) (D : va_G) (a : Nat → Nat) (p0 : Int) (p1 : Int) (p2 : Int) (p3 : Int) (sz : Nat) (s : MS) (o : MS) (h : m_x12_inserts p0 p1 p2 p3 s = some o) : yWv l yX12_inserts cX12_inserts 6 none { frames := 1, cells := 0, slots := 0, locals := 60 } D sz [.ref (a 200), .int (i2 p0), .int (i2 p1), .int (i2 p2), .int (i2 p3)] (RW D a s) (RW D a o) := by
  refine Met.ofW (cc := cX12_inserts) (maxL := 6) (ret := none) (by decide) rfl ?_
  intro p e s₀ m args below meth c s₁ B hml hv
  obtain ⟨rfl, ⟨hsz, hP, hK, hD0⟩, hN⟩ := hv
  have hx := B.exec
  have hb := B.bytes
  have hr := B.returns
  have hts := atoms_spec (ws := wz yX12_inserts cX12_inserts 6 none) B.pre
  have ht : ∀ w ∈ lw_gd, w.before _ s₀ = true := fun w h => hts w (List.mem_cons_of_mem _ h)
  have hown : s₀.vm.findClass RX12 = some m.cls := findClass_of_methodNamed B.named
  have hlocks := B.notSynchronized
  subst hsz
  have hD := hD0.self (sz := s₀.heap.size)
  generalize hAe : va_A (RW D a s) s₀.heap.size = A at hD ⊢
  have hA : ∀ q : Nat, s₀.heap.size ≤ q → A q := fun q h => by rw [← hAe]; exact Or.inr h
  have hS : va_S A s₀.heap s₀.heap [] := va_S.rf
  have hDD : ∀ t : MS, va_D A (RW D a t) := fun t => RW_D t hD
  have hl := lv_entry ([.ref (a 200), .int (i2 p0), .int (i2 p1), .int (i2 p2), .int (i2 p3)]) (n := 6) (Nat.le_of_ble_eq_true rfl)
  rw [lg_entry_eq]
  generalize (lg_sl ([.ref (a 200), .int (i2 p0), .int (i2 p1), .int (i2 p2), .int (i2 p3)]) ++ List.replicate (6 - (lg_sl ([.ref (a 200), .int (i2 p0), .int (i2 p1), .int (i2 p2), .int (i2 p3)])).length) Slot.unset).toArray = ls at hl ⊢
  have hl : lv_has ls 6 [(0, .ref (a 200)), (1, .int (i2 p0)), (2, .int (i2 p1)), (3, .int (i2 p2)), (4, .int (i2 p3))] := hl
  unfold m_x12_inserts at h
  refine y_loop (pcJ := 7) (σ := Int × Int × Int × Int × Int × MS) (fun n u H locs ls => va_P D vwCl (RW D a u.2.2.2.2.2) H ∧ va_S A s₀.heap H locs ∧ lv_has ls 6 [(0, .ref (a 200)), (1, .int (i2 u.1)), (2, .int (i2 u.2.1)), (3, .int (i2 u.2.2.1)), (4, .int (i2 u.2.2.2.1)), (5, .int (i2 u.2.2.2.2.1))] ∧ m_x12_inserts_L7 n u.1 u.2.1 u.2.2.1 u.2.2.2.1 u.2.2.2.2.1 u.2.2.2.2.2 = some o) (fun u => []) (fun u H locs ls hI => by obtain ⟨_, _, _, h⟩ := hI; cases h) (fun n7 ih7 u H locs ls hI => ?_) (fun J7 => ?_)
  · obtain ⟨hP, hS, hl, h⟩ := hI
    obtain ⟨x1, x2, x3, x4, x5, s6⟩ := u
    have hP : va_P D vwCl (RW D a s6) H := hP
    have hl : lv_has ls 6 [(0, .ref (a 200)), (1, .int (i2 x1)), (2, .int (i2 x2)), (3, .int (i2 x3)), (4, .int (i2 x4)), (5, .int (i2 x5))] := hl
    have h : m_x12_inserts_b7 (m_x12_inserts_L7 n7) x1 x2 x3 x4 x5 s6 = some o := h
    unfold m_x12_inserts_b7 at h
    refine lv_iload hx hb eX12_inserts_1.2.2.2.1 (lv_at hl 5 rfl) ?_
    refine lv_iload_n hx hb eX12_inserts_1.2.2.2.2.1 rfl (lv_at hl 2 rfl) ?_
    obtain ⟨hr7, h⟩ := rg_e h
    obtain ⟨hr8, h⟩ := rg_e h
    refine lv_icmp_le (tgt := 44) hx hb eX12_inserts_1.2.2.2.2.2.1 (by decide) (fun c9 => ?_) (fun c9 => ?_)
    · have h := if_t ((i2_le (x := x5) (y := x2) hr7 hr8).mp c9) h
      refine lv_aload_n hx hb eX12_inserts_44.1 rfl (lv_at hl 0 rfl) ?_
      refine lv_iload_n hx hb eX12_inserts_44.2.1 rfl (lv_at hl 1 rfl) ?_
      refine lv_iload_n hx hb eX12_inserts_44.2.2.1 rfl (lv_at hl 2 rfl) ?_
      refine lv_iload_n hx hb eX12_inserts_44.2.2.2.1 rfl (lv_at hl 3 rfl) ?_
      refine lv_iload hx hb eX12_inserts_44.2.2.2.2.1 (lv_at hl 4 rfl) ?_
      obtain ⟨s11, hc10, h⟩ := bn_e h
      refine ywVv (As := [.int (i2 x1), .int (i2 x2), .int (i2 x3), .int (i2 x4)]) (rest := []) (C := RX12) (n := 4) (ws' := RW D a s11) ⟨hx, hb, hml, hown, ht⟩ (k_x12_setsEntry l D a x1 x2 x3 x4 _ _ _ hc10) (zgV ml_X12_520 im_X12_setsEntry se_X12_setsEntry in_X12 co_X12_setsEntry) rfl rfl (by decide +kernel) ⟨Nat.le_of_ble_eq_true rfl, Nat.le_of_ble_eq_true rfl⟩ hN hK hP (hDD _) hS hA 0 RW_0 rfl rfl rfl hl.1 rfl (Nat.le_of_ble_eq_true rfl) eX12_inserts_44.2.2.2.2.2.1 ⟨Nat.le_of_ble_eq_true rfl, Nat.le_of_ble_eq_true rfl⟩ (fun H locs hP hS => ?_)
      refine lv_aload_n hx hb eX12_inserts_44.2.2.2.2.2.2.1 rfl (lv_at hl 0 rfl) ?_
      refine va_get (D := D) (ci := 12) (v := .ref (a 49)) (C := RX12) (T := TX12) (N := 116) hx hb ht inX12 hown hK hP 0 RW_0 rfl 49 (by decide) (ht (.fieldLink RX12 121 "CloneVolumesModel" "now" "[I") fl_X12_121) (fun _ h9 => h9) mF_49 eX12_inserts_44.2.2.2.2.2.2.2 ?_
      refine lv_bipush (v := 17) hx hb eX12_inserts_57.1 (by decide) ?_
      refine lv_bipush (v := 16) hx hb eX12_inserts_57.2.1 (by decide) ?_
      refine lv_iload_n hx hb eX12_inserts_57.2.2.1 rfl (lv_at hl 1 rfl) ?_
      refine lv_imul hx hb eX12_inserts_57.2.2.2.1 ?_
      refine z_topi (y := i2 (16 * x1)) (i2_mul 16 x1) ?_
      refine lv_iadd hx hb eX12_inserts_57.2.2.2.2.1 ?_
      refine z_topi (y := i2 (17 + (16 * x1))) (i2_add 17 (16 * x1)) ?_
      refine lv_iconst (v := 3) hx hb eX12_inserts_57.2.2.2.2.2.1 (by decide) ?_
      refine lv_iadd hx hb eX12_inserts_57.2.2.2.2.2.2.1 ?_
      refine z_topi (y := i2 ((17 + (16 * x1)) + 3)) (i2_add (17 + (16 * x1)) 3) ?_
      refine lv_dup2_11 hx hb eX12_inserts_57.2.2.2.2.2.2.2 rfl rfl ?_
      obtain ⟨y12, ey12, iy12, h⟩ := rdI_e h
      refine ya_iald (i := ((17 + (16 * x1)) + 3)) hx hb hK hP 36 0 RW_36 rfl (by decide) ey12 iy12 eX12_inserts_67.1 ?_
      refine lv_iconst (v := 1) hx hb eX12_inserts_67.2.1 (by decide) ?_
      refine lv_iadd hx hb eX12_inserts_67.2.2.1 ?_
      refine z_topi (y := i2 (y12 + 1)) (i2_add y12 1) ?_
      obtain ⟨hi13, h⟩ := inb_e h
      refine ya_iast (i := ((17 + (16 * x1)) + 3)) (x := (y12 + 1)) hx hb hK hP (hDD _) hS 36 0 RW_36 rfl (by decide) hi13 eX12_inserts_67.2.2.2.1 (RW_w36 _) (fun H locs hP hS => ?_)
      obtain ⟨s14, hs14, h⟩ := st_e h
      rw [hs14] at hP
      obtain rfl := Option.some.inj h
      exact W.vret hx hb hr (fun t ht hW => ⟨⟨(), rfl, trivial, by rw [ht]; exact hP, va_K.moved hW.alike hK, hDD _⟩, hS.F ht⟩) hS.2.2 eX12_inserts_67.2.2.2.2.1
    · have h := if_f (mt (i2_le (x := x5) (y := x2) hr7 hr8).mpr c9) h
      refine lv_aload_n hx hb eX12_inserts_1.2.2.2.2.2.2.1 rfl (lv_at hl 0 rfl) ?_
      refine lv_iload_n hx hb eX12_inserts_1.2.2.2.2.2.2.2 rfl (lv_at hl 1 rfl) ?_
      refine lv_iload hx hb eX12_inserts_15.1 (lv_at hl 5 rfl) ?_
      refine lv_aload_n hx hb eX12_inserts_15.2.1 rfl (lv_at hl 0 rfl) ?_
      refine lv_iload_n hx hb eX12_inserts_15.2.2.1 rfl (lv_at hl 1 rfl) ?_
      refine lv_iload hx hb eX12_inserts_15.2.2.2.1 (lv_at hl 5 rfl) ?_
      refine lv_iconst (v := 1) hx hb eX12_inserts_15.2.2.2.2.1 (by decide) ?_
      refine lv_isub hx hb eX12_inserts_15.2.2.2.2.2.1 ?_
      refine z_topi (y := i2 (x5 - 1)) (i2_sub x5 1) ?_
      obtain ⟨r16, hc15, h⟩ := bn_e h
      refine ycV (r0 := i2 r16) (As := [.int (i2 x1), .int (i2 (x5 - 1))]) (rest := [.int (i2 x5), .int (i2 x1), .ref (a 200)]) (C := RX12) (n := 2) ⟨hx, hb, hml, hown, ht⟩ (k_x12_keyAt l D a x1 (x5 - 1) _ _ hc15) (zgV ml_X12_517 im_X12_keyAt se_X12_keyAt in_X12 co_X12_keyAt) rfl rfl (by decide +kernel) ⟨Nat.le_of_ble_eq_true rfl, Nat.le_of_ble_eq_true rfl⟩ hN hK hP hS 0 RW_0 rfl rfl rfl hl.1 rfl (Nat.le_of_ble_eq_true rfl) eX12_inserts_15.2.2.2.2.2.2.1 ⟨Nat.le_of_ble_eq_true rfl, Nat.le_of_ble_eq_true rfl⟩ (fun H locs hP hS => ?_)
      refine lv_aload_n hx hb eX12_inserts_15.2.2.2.2.2.2.2 rfl (lv_at hl 0 rfl) ?_
      refine lv_iload_n hx hb eX12_inserts_27.1 rfl (lv_at hl 1 rfl) ?_
      refine lv_iload hx hb eX12_inserts_27.2.1 (lv_at hl 5 rfl) ?_
      refine lv_iconst (v := 1) hx hb eX12_inserts_27.2.2.1 (by decide) ?_
      refine lv_isub hx hb eX12_inserts_27.2.2.2.1 ?_
      refine z_topi (y := i2 (x5 - 1)) (i2_sub x5 1) ?_
      obtain ⟨r18, hc17, h⟩ := bn_e h
      refine ycV (r0 := i2 r18) (As := [.int (i2 x1), .int (i2 (x5 - 1))]) (rest := [.int (i2 r16), .int (i2 x5), .int (i2 x1), .ref (a 200)]) (C := RX12) (n := 2) ⟨hx, hb, hml, hown, ht⟩ (k_x12_valueAt l D a x1 (x5 - 1) _ _ hc17) (zgV ml_X12_505 im_X12_valueAt se_X12_valueAt in_X12 co_X12_valueAt) rfl rfl (by decide +kernel) ⟨Nat.le_of_ble_eq_true rfl, Nat.le_of_ble_eq_true rfl⟩ hN hK hP hS 0 RW_0 rfl rfl rfl hl.1 rfl (Nat.le_of_ble_eq_true rfl) eX12_inserts_27.2.2.2.2.1 ⟨Nat.le_of_ble_eq_true rfl, Nat.le_of_ble_eq_true rfl⟩ (fun H locs hP hS => ?_)
      obtain ⟨s20, hc19, h⟩ := bn_e h
      refine ywVv (As := [.int (i2 x1), .int (i2 x5), .int (i2 r16), .int (i2 r18)]) (rest := []) (C := RX12) (n := 4) (ws' := RW D a s20) ⟨hx, hb, hml, hown, ht⟩ (k_x12_setsEntry l D a x1 x5 r16 r18 _ _ _ hc19) (zgV ml_X12_520 im_X12_setsEntry se_X12_setsEntry in_X12 co_X12_setsEntry) rfl rfl (by decide +kernel) ⟨Nat.le_of_ble_eq_true rfl, Nat.le_of_ble_eq_true rfl⟩ hN hK hP (hDD _) hS hA 0 RW_0 rfl rfl rfl hl.1 rfl (Nat.le_of_ble_eq_true rfl) eX12_inserts_27.2.2.2.2.2.1 ⟨Nat.le_of_ble_eq_true rfl, Nat.le_of_ble_eq_true rfl⟩ (fun H locs hP hS => ?_)
      refine lv_iinc (v := i2 (x5 + (-1))) (lv' := [(5, .int (i2 (x5 + (-1)))), (0, .ref (a 200)), (1, .int (i2 x1)), (2, .int (i2 x2)), (3, .int (i2 x3)), (4, .int (i2 x4))]) hx hb eX12_inserts_27.2.2.2.2.2.2.1 hl (k := 5) rfl (i2_add x5 (-1)) (by decide) rfl (fun ls hl => ?_)
      refine lv_goto (tgt := 7) hx hb eX12_inserts_27.2.2.2.2.2.2.2 (by decide) ?_
      exact ih7 (x1, x2, x3, x4, x5 + (-1), s20) _ _ _ ⟨hP, hS, lv_sub hl [1, 2, 3, 4, 5, 0] rfl, h⟩
  refine lv_aload_n hx hb eX12_codesTell_136.2.2.2.2.2.2.2 rfl (lv_at hl 0 rfl) ?_
  refine lv_iload_n hx hb eX12_inserts_1.1 rfl (lv_at hl 1 rfl) ?_
  obtain ⟨r22, hc21, h⟩ := bn_e h
  refine ycV (r0 := i2 r22) (As := [.int (i2 p0)]) (rest := []) (C := RX12) (n := 1) ⟨hx, hb, hml, hown, ht⟩ (k_x12_entriesOf l D a p0 _ _ hc21) (zgV ml_X12_466 im_X12_entriesOf se_X12_entriesOf in_X12 co_X12_entriesOf) rfl rfl (by decide +kernel) ⟨Nat.le_of_ble_eq_true rfl, Nat.le_of_ble_eq_true rfl⟩ hN hK hP hS 0 RW_0 rfl rfl rfl hl.1 rfl (Nat.le_of_ble_eq_true rfl) eX12_inserts_1.2.1 ⟨Nat.le_of_ble_eq_true rfl, Nat.le_of_ble_eq_true rfl⟩ (fun H locs hP hS => ?_)
  refine lv_istore (lv' := [(5, .int (i2 r22)), (0, .ref (a 200)), (1, .int (i2 p0)), (2, .int (i2 p1)), (3, .int (i2 p2)), (4, .int (i2 p3))]) hx hb eX12_inserts_1.2.2.1 hl (by decide) rfl (fun ls hl => ?_)
  exact J7 FU (p0, p1, p2, p3, r22, s) _ _ _ ⟨hP, hS, lv_sub hl [1, 2, 3, 4, 5, 0] rfl, h⟩
