theorem cl_X12_747 : Cond.constantLong RX12 747 1000000 ∈ lw_gd := zm (lw_g_9 (List.mem_of_getElem? (i := 60) (by decide +kernel))) rfl
theorem cl_X12_749 : Cond.constantLong RX12 749 (-1000000) ∈ lw_gd := zm (lw_g_9 (List.mem_of_getElem? (i := 61) (by decide +kernel))) rfl
theorem co_X12_countOf : Cond.code yX12_countOf cX12_countOf 2 (some .int) ∈ lw_gd := zm (lw_g_9 (List.mem_of_getElem? (i := 28) (by decide +kernel))) rfl
theorem co_X12_counts : Cond.code yX12_counts cX12_counts 3 none ∈ lw_gd := zm (lw_g_8 (List.mem_of_getElem? (i := 208) (by decide +kernel))) rfl
theorem co_X12_entriesOf : Cond.code yX12_entriesOf cX12_entriesOf 2 (some .int) ∈ lw_gd := zm (lw_g_8 (List.mem_of_getElem? (i := 232) (by decide +kernel))) rfl
theorem co_X12_isUsed : Cond.code yX12_isUsed cX12_isUsed 2 (some .boolean) ∈ lw_gd := zm (lw_g_9 (List.mem_of_getElem? (i := 24) (by decide +kernel))) rfl
theorem co_X12_keyAt : Cond.code yX12_keyAt cX12_keyAt 3 (some .int) ∈ lw_gd := zm (lw_g_8 (List.mem_of_getElem? (i := 236) (by decide +kernel))) rfl
theorem co_X12_levelOf : Cond.code yX12_levelOf cX12_levelOf 2 (some .int) ∈ lw_gd := zm (lw_g_8 (List.mem_of_getElem? (i := 224) (by decide +kernel))) rfl
theorem co_X12_qClip : Cond.code yX12_qClip cX12_qClip 2 (some .long) ∈ lw_gd := zm (lw_g_9 (List.mem_of_getElem? (i := 59) (by decide +kernel))) rfl
theorem co_X12_qFloor : Cond.code yX12_qFloor cX12_qFloor 6 (some .long) ∈ lw_gd := zm (lw_g_9 (List.mem_of_getElem? (i := 64) (by decide +kernel))) rfl
theorem co_X12_qPuts : Cond.code yX12_qPuts cX12_qPuts 3 none ∈ lw_gd := zm (lw_g_9 (List.mem_of_getElem? (i := 44) (by decide +kernel))) rfl
theorem co_X12_savedOf : Cond.code yX12_savedOf cX12_savedOf 2 (some .int) ∈ lw_gd := zm (lw_g_9 (List.mem_of_getElem? (i := 32) (by decide +kernel))) rfl
theorem co_X12_setsEntry : Cond.code yX12_setsEntry cX12_setsEntry 5 none ∈ lw_gd := zm (lw_g_9 (List.mem_of_getElem? (i := 72) (by decide +kernel))) rfl
theorem co_X12_valueAt : Cond.code yX12_valueAt cX12_valueAt 3 (some .int) ∈ lw_gd := zm (lw_g_9 (List.mem_of_getElem? (i := 0) (by decide +kernel))) rfl
theorem fl_X12_443 : Cond.fieldLink RX12 443 "CloneVolumesModel" "qPiled" "I" ∈ lw_gd := zm (lw_g_7 (List.mem_of_getElem? (i := 9) (by decide +kernel))) rfl
theorem im_X12_countOf : Cond.instanceMethod yX12_countOf ∈ lw_gd := zm (lw_g_9 (List.mem_of_getElem? (i := 27) (by decide +kernel))) rfl
theorem im_X12_counts : Cond.instanceMethod yX12_counts ∈ lw_gd := zm (lw_g_8 (List.mem_of_getElem? (i := 207) (by decide +kernel))) rfl
theorem im_X12_entriesOf : Cond.instanceMethod yX12_entriesOf ∈ lw_gd := zm (lw_g_8 (List.mem_of_getElem? (i := 231) (by decide +kernel))) rfl
theorem im_X12_isUsed : Cond.instanceMethod yX12_isUsed ∈ lw_gd := zm (lw_g_9 (List.mem_of_getElem? (i := 23) (by decide +kernel))) rfl
theorem im_X12_keyAt : Cond.instanceMethod yX12_keyAt ∈ lw_gd := zm (lw_g_8 (List.mem_of_getElem? (i := 235) (by decide +kernel))) rfl
theorem im_X12_levelOf : Cond.instanceMethod yX12_levelOf ∈ lw_gd := zm (lw_g_8 (List.mem_of_getElem? (i := 223) (by decide +kernel))) rfl
theorem im_X12_qPuts : Cond.instanceMethod yX12_qPuts ∈ lw_gd := zm (lw_g_9 (List.mem_of_getElem? (i := 43) (by decide +kernel))) rfl
theorem im_X12_savedOf : Cond.instanceMethod yX12_savedOf ∈ lw_gd := zm (lw_g_9 (List.mem_of_getElem? (i := 31) (by decide +kernel))) rfl
theorem im_X12_setsEntry : Cond.instanceMethod yX12_setsEntry ∈ lw_gd := zm (lw_g_9 (List.mem_of_getElem? (i := 71) (by decide +kernel))) rfl
theorem im_X12_valueAt : Cond.instanceMethod yX12_valueAt ∈ lw_gd := zm (lw_g_8 (List.mem_of_getElem? (i := 239) (by decide +kernel))) rfl
theorem ml_X12_432 : Cond.methodLink RX12 432 yX12_countOf ∈ lw_gd := zm (lw_g_9 (List.mem_of_getElem? (i := 25) (by decide +kernel))) rfl
theorem ml_X12_435 : Cond.methodLink RX12 435 yX12_isUsed ∈ lw_gd := zm (lw_g_9 (List.mem_of_getElem? (i := 21) (by decide +kernel))) rfl
theorem ml_X12_438 : Cond.methodLink RX12 438 yX12_savedOf ∈ lw_gd := zm (lw_g_9 (List.mem_of_getElem? (i := 29) (by decide +kernel))) rfl
theorem ml_X12_446 : Cond.methodLink RX12 446 yX12_qPuts ∈ lw_gd := zm (lw_g_9 (List.mem_of_getElem? (i := 41) (by decide +kernel))) rfl
theorem ml_X12_460 : Cond.methodLink RX12 460 yX12_levelOf ∈ lw_gd := zm (lw_g_8 (List.mem_of_getElem? (i := 221) (by decide +kernel))) rfl
theorem ml_X12_466 : Cond.methodLink RX12 466 yX12_entriesOf ∈ lw_gd := zm (lw_g_8 (List.mem_of_getElem? (i := 229) (by decide +kernel))) rfl
theorem ml_X12_502 : Cond.methodLink RX12 502 yX12_counts ∈ lw_gd := zm (lw_g_8 (List.mem_of_getElem? (i := 205) (by decide +kernel))) rfl
theorem ml_X12_505 : Cond.methodLink RX12 505 yX12_valueAt ∈ lw_gd := zm (lw_g_8 (List.mem_of_getElem? (i := 237) (by decide +kernel))) rfl
theorem ml_X12_517 : Cond.methodLink RX12 517 yX12_keyAt ∈ lw_gd := zm (lw_g_8 (List.mem_of_getElem? (i := 233) (by decide +kernel))) rfl
theorem ml_X12_520 : Cond.methodLink RX12 520 yX12_setsEntry ∈ lw_gd := zm (lw_g_9 (List.mem_of_getElem? (i := 69) (by decide +kernel))) rfl
theorem ml_X12_751 : Cond.methodLink RX12 751 yX12_qClip ∈ lw_gd := zm (lw_g_9 (List.mem_of_getElem? (i := 57) (by decide +kernel))) rfl
theorem ml_X12_755 : Cond.methodLink RX12 755 yX12_qFloor ∈ lw_gd := zm (lw_g_9 (List.mem_of_getElem? (i := 62) (by decide +kernel))) rfl
theorem se_X12_countOf : Cond.selects RX12 yX12_countOf yX12_countOf ∈ lw_gd := zm (List.mem_of_getElem? (i := 126) (by decide +kernel)) rfl
theorem se_X12_counts : Cond.selects RX12 yX12_counts yX12_counts ∈ lw_gd := zm (List.mem_of_getElem? (i := 111) (by decide +kernel)) rfl
theorem se_X12_entriesOf : Cond.selects RX12 yX12_entriesOf yX12_entriesOf ∈ lw_gd := zm (List.mem_of_getElem? (i := 117) (by decide +kernel)) rfl
theorem se_X12_isUsed : Cond.selects RX12 yX12_isUsed yX12_isUsed ∈ lw_gd := zm (List.mem_of_getElem? (i := 125) (by decide +kernel)) rfl
theorem se_X12_keyAt : Cond.selects RX12 yX12_keyAt yX12_keyAt ∈ lw_gd := zm (List.mem_of_getElem? (i := 118) (by decide +kernel)) rfl
theorem se_X12_levelOf : Cond.selects RX12 yX12_levelOf yX12_levelOf ∈ lw_gd := zm (List.mem_of_getElem? (i := 115) (by decide +kernel)) rfl
theorem se_X12_qPuts : Cond.selects RX12 yX12_qPuts yX12_qPuts ∈ lw_gd := zm (List.mem_of_getElem? (i := 130) (by decide +kernel)) rfl
theorem se_X12_savedOf : Cond.selects RX12 yX12_savedOf yX12_savedOf ∈ lw_gd := zm (List.mem_of_getElem? (i := 127) (by decide +kernel)) rfl
theorem se_X12_setsEntry : Cond.selects RX12 yX12_setsEntry yX12_setsEntry ∈ lw_gd := zm (List.mem_of_getElem? (i := 135) (by decide +kernel)) rfl
theorem se_X12_valueAt : Cond.selects RX12 yX12_valueAt yX12_valueAt ∈ lw_gd := zm (List.mem_of_getElem? (i := 119) (by decide +kernel)) rfl
theorem st_X12_qClip : Cond.static yX12_qClip ∈ lw_gd := zm (lw_g_9 (List.mem_of_getElem? (i := 58) (by decide +kernel))) rfl
theorem st_X12_qFloor : Cond.static yX12_qFloor ∈ lw_gd := zm (lw_g_9 (List.mem_of_getElem? (i := 63) (by decide +kernel))) rfl
theorem eX12_blockMany_0 : decode cX12_blockMany 0 = .ok (.aload_n 0, 1) ∧ decode cX12_blockMany 1 = .ok (.getfield 102, 3) ∧ decode cX12_blockMany 4 = .ok (.iconst 5, 1) ∧ decode cX12_blockMany 5 = .ok (.iaload, 1) ∧ decode cX12_blockMany 6 = .ok (.ireturn, 1) ∧ decode cX12_checks 0 = .ok (.iconst 0, 1) ∧ decode cX12_checks 1 = .ok (.istore_n 1, 1) ∧ decode cX12_checks 2 = .ok (.iload_n 1, 1) := by decide +kernel
theorem eX12_checks_3 : decode cX12_checks 3 = .ok (.bipush 8, 2) ∧ decode cX12_checks 5 = .ok (.if_icmp .ge 24, 3) ∧ decode cX12_checks 8 = .ok (.aload_n 0, 1) ∧ decode cX12_checks 9 = .ok (.getfield 121, 3) ∧ decode cX12_checks 12 = .ok (.bipush 8, 2) ∧ decode cX12_checks 14 = .ok (.iload_n 1, 1) ∧ decode cX12_checks 15 = .ok (.iadd, 1) ∧ decode cX12_checks 16 = .ok (.aload_n 0, 1) := by decide +kernel
theorem eX12_checks_17 : decode cX12_checks 17 = .ok (.getfield 121, 3) ∧ decode cX12_checks 20 = .ok (.iload_n 1, 1) ∧ decode cX12_checks 21 = .ok (.iaload, 1) ∧ decode cX12_checks 22 = .ok (.iastore, 1) ∧ decode cX12_checks 23 = .ok (.iinc 1 1, 3) ∧ decode cX12_checks 26 = .ok (.goto (-24), 3) ∧ decode cX12_checks 29 = .ok (.iconst 0, 1) ∧ decode cX12_checks 30 = .ok (.istore_n 1, 1) := by decide +kernel
theorem eX12_checks_31 : decode cX12_checks 31 = .ok (.iload_n 1, 1) ∧ decode cX12_checks 32 = .ok (.bipush 48, 2) ∧ decode cX12_checks 34 = .ok (.if_icmp .ge 28, 3) ∧ decode cX12_checks 37 = .ok (.aload_n 0, 1) ∧ decode cX12_checks 38 = .ok (.getfield 121, 3) ∧ decode cX12_checks 41 = .ok (.bipush 17, 2) ∧ decode cX12_checks 43 = .ok (.bipush 16, 2) ∧ decode cX12_checks 45 = .ok (.iload_n 1, 1) := by decide +kernel
theorem eX12_checks_46 : decode cX12_checks 46 = .ok (.imul, 1) ∧ decode cX12_checks 47 = .ok (.iadd, 1) ∧ decode cX12_checks 48 = .ok (.iconst 1, 1) ∧ decode cX12_checks 49 = .ok (.iadd, 1) ∧ decode cX12_checks 50 = .ok (.aload_n 0, 1) ∧ decode cX12_checks 51 = .ok (.iload_n 1, 1) ∧ decode cX12_checks 52 = .ok (.invokevirtual 432, 3) ∧ decode cX12_checks 55 = .ok (.iastore, 1) := by decide +kernel
theorem eX12_checks_56 : decode cX12_checks 56 = .ok (.iinc 1 1, 3) ∧ decode cX12_checks 59 = .ok (.goto (-28), 3) ∧ decode cX12_checks 62 = .ok (.return_, 1) ∧ decode cX12_countOf 0 = .ok (.aload_n 0, 1) ∧ decode cX12_countOf 1 = .ok (.getfield 121, 3) ∧ decode cX12_countOf 4 = .ok (.bipush 17, 2) ∧ decode cX12_countOf 6 = .ok (.bipush 16, 2) ∧ decode cX12_countOf 8 = .ok (.iload_n 1, 1) := by decide +kernel
theorem eX12_countOf_9 : decode cX12_countOf 9 = .ok (.imul, 1) ∧ decode cX12_countOf 10 = .ok (.iadd, 1) ∧ decode cX12_countOf 11 = .ok (.iaload, 1) ∧ decode cX12_countOf 12 = .ok (.ireturn, 1) ∧ decode cX12_counts 0 = .ok (.aload_n 0, 1) ∧ decode cX12_counts 1 = .ok (.getfield 121, 3) ∧ decode cX12_counts 4 = .ok (.bipush 17, 2) ∧ decode cX12_counts 6 = .ok (.bipush 16, 2) := by decide +kernel
theorem eX12_counts_8 : decode cX12_counts 8 = .ok (.iload_n 1, 1) ∧ decode cX12_counts 9 = .ok (.imul, 1) ∧ decode cX12_counts 10 = .ok (.iadd, 1) ∧ decode cX12_counts 11 = .ok (.dup2, 1) ∧ decode cX12_counts 12 = .ok (.iaload, 1) ∧ decode cX12_counts 13 = .ok (.iload_n 2, 1) ∧ decode cX12_counts 14 = .ok (.iadd, 1) ∧ decode cX12_counts 15 = .ok (.iastore, 1) := by decide +kernel
theorem eX12_counts_16 : decode cX12_counts 16 = .ok (.return_, 1) ∧ decode cX12_cutsEntry 0 = .ok (.iload_n 2, 1) ∧ decode cX12_cutsEntry 1 = .ok (.istore_n 3, 1) ∧ decode cX12_cutsEntry 2 = .ok (.iload_n 3, 1) ∧ decode cX12_cutsEntry 3 = .ok (.aload_n 0, 1) ∧ decode cX12_cutsEntry 4 = .ok (.iload_n 1, 1) ∧ decode cX12_cutsEntry 5 = .ok (.invokevirtual 466, 3) ∧ decode cX12_cutsEntry 8 = .ok (.iconst 1, 1) := by decide +kernel
theorem eX12_cutsEntry_9 : decode cX12_cutsEntry 9 = .ok (.isub, 1) ∧ decode cX12_cutsEntry 10 = .ok (.if_icmp .ge 31, 3) ∧ decode cX12_cutsEntry 13 = .ok (.aload_n 0, 1) ∧ decode cX12_cutsEntry 14 = .ok (.iload_n 1, 1) ∧ decode cX12_cutsEntry 15 = .ok (.iload_n 3, 1) ∧ decode cX12_cutsEntry 16 = .ok (.aload_n 0, 1) ∧ decode cX12_cutsEntry 17 = .ok (.iload_n 1, 1) ∧ decode cX12_cutsEntry 18 = .ok (.iload_n 3, 1) := by decide +kernel
theorem eX12_cutsEntry_19 : decode cX12_cutsEntry 19 = .ok (.iconst 1, 1) ∧ decode cX12_cutsEntry 20 = .ok (.iadd, 1) ∧ decode cX12_cutsEntry 21 = .ok (.invokevirtual 517, 3) ∧ decode cX12_cutsEntry 24 = .ok (.aload_n 0, 1) ∧ decode cX12_cutsEntry 25 = .ok (.iload_n 1, 1) ∧ decode cX12_cutsEntry 26 = .ok (.iload_n 3, 1) ∧ decode cX12_cutsEntry 27 = .ok (.iconst 1, 1) ∧ decode cX12_cutsEntry 28 = .ok (.iadd, 1) := by decide +kernel
theorem eX12_cutsEntry_29 : decode cX12_cutsEntry 29 = .ok (.invokevirtual 505, 3) ∧ decode cX12_cutsEntry 32 = .ok (.invokevirtual 520, 3) ∧ decode cX12_cutsEntry 35 = .ok (.iinc 3 1, 3) ∧ decode cX12_cutsEntry 38 = .ok (.goto (-36), 3) ∧ decode cX12_cutsEntry 41 = .ok (.aload_n 0, 1) ∧ decode cX12_cutsEntry 42 = .ok (.getfield 121, 3) ∧ decode cX12_cutsEntry 45 = .ok (.bipush 17, 2) ∧ decode cX12_cutsEntry 47 = .ok (.bipush 16, 2) := by decide +kernel
theorem eX12_cutsEntry_49 : decode cX12_cutsEntry 49 = .ok (.iload_n 1, 1) ∧ decode cX12_cutsEntry 50 = .ok (.imul, 1) ∧ decode cX12_cutsEntry 51 = .ok (.iadd, 1) ∧ decode cX12_cutsEntry 52 = .ok (.iconst 3, 1) ∧ decode cX12_cutsEntry 53 = .ok (.iadd, 1) ∧ decode cX12_cutsEntry 54 = .ok (.dup2, 1) ∧ decode cX12_cutsEntry 55 = .ok (.iaload, 1) ∧ decode cX12_cutsEntry 56 = .ok (.iconst 1, 1) := by decide +kernel
theorem eX12_cutsEntry_57 : decode cX12_cutsEntry 57 = .ok (.isub, 1) ∧ decode cX12_cutsEntry 58 = .ok (.iastore, 1) ∧ decode cX12_cutsEntry 59 = .ok (.aload_n 0, 1) ∧ decode cX12_cutsEntry 60 = .ok (.getfield 124, 3) ∧ decode cX12_cutsEntry 63 = .ok (.iload_n 1, 1) ∧ decode cX12_cutsEntry 64 = .ok (.iconst 1, 1) ∧ decode cX12_cutsEntry 65 = .ok (.bastore, 1) ∧ decode cX12_cutsEntry 66 = .ok (.return_, 1) := by decide +kernel
theorem eX12_entriesOf_0 : decode cX12_entriesOf 0 = .ok (.aload_n 0, 1) ∧ decode cX12_entriesOf 1 = .ok (.getfield 121, 3) ∧ decode cX12_entriesOf 4 = .ok (.bipush 17, 2) ∧ decode cX12_entriesOf 6 = .ok (.bipush 16, 2) ∧ decode cX12_entriesOf 8 = .ok (.iload_n 1, 1) ∧ decode cX12_entriesOf 9 = .ok (.imul, 1) ∧ decode cX12_entriesOf 10 = .ok (.iadd, 1) ∧ decode cX12_entriesOf 11 = .ok (.iconst 3, 1) := by decide +kernel
theorem eX12_entriesOf_12 : decode cX12_entriesOf 12 = .ok (.iadd, 1) ∧ decode cX12_entriesOf 13 = .ok (.iaload, 1) ∧ decode cX12_entriesOf 14 = .ok (.ireturn, 1) ∧ decode cX12_falls 0 = .ok (.iconst 1, 1) ∧ decode cX12_falls 1 = .ok (.istore_n 2, 1) ∧ decode cX12_falls 2 = .ok (.aload_n 0, 1) ∧ decode cX12_falls 3 = .ok (.getfield 128, 3) ∧ decode cX12_falls 6 = .ok (.iconst 0, 1) := by decide +kernel
theorem eX12_falls_7 : decode cX12_falls 7 = .ok (.iload_n 1, 1) ∧ decode cX12_falls 8 = .ok (.iastore, 1) ∧ decode cX12_falls 9 = .ok (.iload_n 2, 1) ∧ decode cX12_falls 10 = .ok (.ifCond .le 76, 3) ∧ decode cX12_falls 13 = .ok (.iinc 2 (-1), 3) ∧ decode cX12_falls 16 = .ok (.aload_n 0, 1) ∧ decode cX12_falls 17 = .ok (.getfield 128, 3) ∧ decode cX12_falls 20 = .ok (.iload_n 2, 1) := by decide +kernel
theorem eX12_falls_21 : decode cX12_falls 21 = .ok (.iaload, 1) ∧ decode cX12_falls 22 = .ok (.istore_n 3, 1) ∧ decode cX12_falls 23 = .ok (.aload_n 0, 1) ∧ decode cX12_falls 24 = .ok (.iload_n 3, 1) ∧ decode cX12_falls 25 = .ok (.iconst (-1), 1) ∧ decode cX12_falls 26 = .ok (.invokevirtual 502, 3) ∧ decode cX12_falls 29 = .ok (.aload_n 0, 1) ∧ decode cX12_falls 30 = .ok (.iload_n 3, 1) := by decide +kernel
theorem eX12_falls_31 : decode cX12_falls 31 = .ok (.invokevirtual 435, 3) ∧ decode cX12_falls 34 = .ok (.ifCond .ne (-25), 3) ∧ decode cX12_falls 37 = .ok (.aload_n 0, 1) ∧ decode cX12_falls 38 = .ok (.iload_n 3, 1) ∧ decode cX12_falls 39 = .ok (.invokevirtual 460, 3) ∧ decode cX12_falls 42 = .ok (.ifCond .ne 6, 3) ∧ decode cX12_falls 45 = .ok (.goto (-36), 3) ∧ decode cX12_falls 48 = .ok (.iconst 0, 1) := by decide +kernel
theorem eX12_falls_49 : decode cX12_falls 49 = .ok (.istore 4, 2) ∧ decode cX12_falls 51 = .ok (.iload 4, 2) ∧ decode cX12_falls 53 = .ok (.aload_n 0, 1) ∧ decode cX12_falls 54 = .ok (.iload_n 3, 1) ∧ decode cX12_falls 55 = .ok (.invokevirtual 466, 3) ∧ decode cX12_falls 58 = .ok (.if_icmp .ge 25, 3) ∧ decode cX12_falls 61 = .ok (.aload_n 0, 1) ∧ decode cX12_falls 62 = .ok (.getfield 128, 3) := by decide +kernel
theorem eX12_falls_65 : decode cX12_falls 65 = .ok (.iload_n 2, 1) ∧ decode cX12_falls 66 = .ok (.aload_n 0, 1) ∧ decode cX12_falls 67 = .ok (.iload_n 3, 1) ∧ decode cX12_falls 68 = .ok (.iload 4, 2) ∧ decode cX12_falls 70 = .ok (.invokevirtual 505, 3) ∧ decode cX12_falls 73 = .ok (.iastore, 1) ∧ decode cX12_falls 74 = .ok (.iinc 2 1, 3) ∧ decode cX12_falls 77 = .ok (.iinc 4 1, 3) := by decide +kernel
theorem eX12_falls_80 : decode cX12_falls 80 = .ok (.goto (-29), 3) ∧ decode cX12_falls 83 = .ok (.goto (-74), 3) ∧ decode cX12_falls 86 = .ok (.return_, 1) ∧ decode cX12_isCoded 0 = .ok (.aload_n 0, 1) ∧ decode cX12_isCoded 1 = .ok (.getfield 112, 3) ∧ decode cX12_isCoded 4 = .ok (.iconst 3, 1) ∧ decode cX12_isCoded 5 = .ok (.iload_n 1, 1) ∧ decode cX12_isCoded 6 = .ok (.iadd, 1) := by decide +kernel
theorem eX12_isCoded_7 : decode cX12_isCoded 7 = .ok (.iaload, 1) ∧ decode cX12_isCoded 8 = .ok (.iconst (-1), 1) ∧ decode cX12_isCoded 9 = .ok (.if_icmp .eq 7, 3) ∧ decode cX12_isCoded 12 = .ok (.iconst 1, 1) ∧ decode cX12_isCoded 13 = .ok (.goto 4, 3) ∧ decode cX12_isCoded 16 = .ok (.iconst 0, 1) ∧ decode cX12_isCoded 17 = .ok (.ireturn, 1) ∧ decode cX12_isThere 0 = .ok (.aload_n 0, 1) := by decide +kernel
theorem eX12_isThere_1 : decode cX12_isThere 1 = .ok (.iload_n 1, 1) ∧ decode cX12_isThere 2 = .ok (.invokevirtual 435, 3) ∧ decode cX12_isThere 5 = .ok (.ifCond .ne 11, 3) ∧ decode cX12_isThere 8 = .ok (.aload_n 0, 1) ∧ decode cX12_isThere 9 = .ok (.iload_n 1, 1) ∧ decode cX12_isThere 10 = .ok (.invokevirtual 438, 3) ∧ decode cX12_isThere 13 = .ok (.ifCond .le 7, 3) ∧ decode cX12_isThere 16 = .ok (.iconst 1, 1) := by decide +kernel
theorem eX12_isThere_17 : decode cX12_isThere 17 = .ok (.goto 4, 3) ∧ decode cX12_isThere 20 = .ok (.iconst 0, 1) ∧ decode cX12_isThere 21 = .ok (.ireturn, 1) ∧ decode cX12_isUsed 0 = .ok (.aload_n 0, 1) ∧ decode cX12_isUsed 1 = .ok (.iload_n 1, 1) ∧ decode cX12_isUsed 2 = .ok (.invokevirtual 432, 3) ∧ decode cX12_isUsed 5 = .ok (.ifCond .le 7, 3) ∧ decode cX12_isUsed 8 = .ok (.iconst 1, 1) := by decide +kernel
theorem eX12_isUsed_9 : decode cX12_isUsed 9 = .ok (.goto 4, 3) ∧ decode cX12_isUsed 12 = .ok (.iconst 0, 1) ∧ decode cX12_isUsed 13 = .ok (.ireturn, 1) ∧ decode cX12_keyAt 0 = .ok (.aload_n 0, 1) ∧ decode cX12_keyAt 1 = .ok (.getfield 121, 3) ∧ decode cX12_keyAt 4 = .ok (.bipush 17, 2) ∧ decode cX12_keyAt 6 = .ok (.bipush 16, 2) ∧ decode cX12_keyAt 8 = .ok (.iload_n 1, 1) := by decide +kernel
theorem eX12_keyAt_9 : decode cX12_keyAt 9 = .ok (.imul, 1) ∧ decode cX12_keyAt 10 = .ok (.iadd, 1) ∧ decode cX12_keyAt 11 = .ok (.iconst 4, 1) ∧ decode cX12_keyAt 12 = .ok (.iadd, 1) ∧ decode cX12_keyAt 13 = .ok (.iload_n 2, 1) ∧ decode cX12_keyAt 14 = .ok (.iadd, 1) ∧ decode cX12_keyAt 15 = .ok (.iaload, 1) ∧ decode cX12_keyAt 16 = .ok (.ireturn, 1) := by decide +kernel
theorem eX12_levelOf_0 : decode cX12_levelOf 0 = .ok (.aload_n 0, 1) ∧ decode cX12_levelOf 1 = .ok (.getfield 121, 3) ∧ decode cX12_levelOf 4 = .ok (.bipush 17, 2) ∧ decode cX12_levelOf 6 = .ok (.bipush 16, 2) ∧ decode cX12_levelOf 8 = .ok (.iload_n 1, 1) ∧ decode cX12_levelOf 9 = .ok (.imul, 1) ∧ decode cX12_levelOf 10 = .ok (.iadd, 1) ∧ decode cX12_levelOf 11 = .ok (.iconst 2, 1) := by decide +kernel
theorem eX12_levelOf_12 : decode cX12_levelOf 12 = .ok (.iadd, 1) ∧ decode cX12_levelOf 13 = .ok (.iaload, 1) ∧ decode cX12_levelOf 14 = .ok (.ireturn, 1) ∧ decode cX12_lowers 0 = .ok (.aload_n 0, 1) ∧ decode cX12_lowers 1 = .ok (.getfield 121, 3) ∧ decode cX12_lowers 4 = .ok (.iload_n 1, 1) ∧ decode cX12_lowers 5 = .ok (.iaload, 1) ∧ decode cX12_lowers 6 = .ok (.istore_n 2, 1) := by decide +kernel
theorem eX12_lowers_7 : decode cX12_lowers 7 = .ok (.aload_n 0, 1) ∧ decode cX12_lowers 8 = .ok (.iload_n 2, 1) ∧ decode cX12_lowers 9 = .ok (.invokevirtual 460, 3) ∧ decode cX12_lowers 12 = .ok (.ifCond .le 51, 3) ∧ decode cX12_lowers 15 = .ok (.aload_n 0, 1) ∧ decode cX12_lowers 16 = .ok (.iload_n 2, 1) ∧ decode cX12_lowers 17 = .ok (.invokevirtual 466, 3) ∧ decode cX12_lowers 20 = .ok (.iconst 1, 1) := by decide +kernel
theorem eX12_lowers_21 : decode cX12_lowers 21 = .ok (.if_icmp .ne 42, 3) ∧ decode cX12_lowers 24 = .ok (.aload_n 0, 1) ∧ decode cX12_lowers 25 = .ok (.iload_n 2, 1) ∧ decode cX12_lowers 26 = .ok (.iconst 0, 1) ∧ decode cX12_lowers 27 = .ok (.invokevirtual 505, 3) ∧ decode cX12_lowers 30 = .ok (.istore_n 3, 1) ∧ decode cX12_lowers 31 = .ok (.aload_n 0, 1) ∧ decode cX12_lowers 32 = .ok (.iload_n 2, 1) := by decide +kernel
theorem eX12_lowers_33 : decode cX12_lowers 33 = .ok (.iconst (-1), 1) ∧ decode cX12_lowers 34 = .ok (.invokevirtual 502, 3) ∧ decode cX12_lowers 37 = .ok (.aload_n 0, 1) ∧ decode cX12_lowers 38 = .ok (.iload_n 2, 1) ∧ decode cX12_lowers 39 = .ok (.invokevirtual 432, 3) ∧ decode cX12_lowers 42 = .ok (.ifCond .le 9, 3) ∧ decode cX12_lowers 45 = .ok (.aload_n 0, 1) ∧ decode cX12_lowers 46 = .ok (.iload_n 3, 1) := by decide +kernel
theorem eX12_lowers_47 : decode cX12_lowers 47 = .ok (.iconst 1, 1) ∧ decode cX12_lowers 48 = .ok (.invokevirtual 502, 3) ∧ decode cX12_lowers 51 = .ok (.aload_n 0, 1) ∧ decode cX12_lowers 52 = .ok (.getfield 121, 3) ∧ decode cX12_lowers 55 = .ok (.iload_n 1, 1) ∧ decode cX12_lowers 56 = .ok (.iload_n 3, 1) ∧ decode cX12_lowers 57 = .ok (.iastore, 1) ∧ decode cX12_lowers 58 = .ok (.iload_n 3, 1) := by decide +kernel
theorem eX12_lowers_59 : decode cX12_lowers 59 = .ok (.istore_n 2, 1) ∧ decode cX12_lowers 60 = .ok (.goto (-53), 3) ∧ decode cX12_lowers 63 = .ok (.return_, 1) ∧ decode cX12_placeFor 0 = .ok (.iconst 0, 1) ∧ decode cX12_placeFor 1 = .ok (.istore_n 3, 1) ∧ decode cX12_placeFor 2 = .ok (.iload_n 3, 1) ∧ decode cX12_placeFor 3 = .ok (.iconst 1, 1) ∧ decode cX12_placeFor 4 = .ok (.iadd, 1) := by decide +kernel
theorem eX12_placeFor_5 : decode cX12_placeFor 5 = .ok (.aload_n 0, 1) ∧ decode cX12_placeFor 6 = .ok (.iload_n 1, 1) ∧ decode cX12_placeFor 7 = .ok (.invokevirtual 466, 3) ∧ decode cX12_placeFor 10 = .ok (.if_icmp .ge 21, 3) ∧ decode cX12_placeFor 13 = .ok (.aload_n 0, 1) ∧ decode cX12_placeFor 14 = .ok (.iload_n 1, 1) ∧ decode cX12_placeFor 15 = .ok (.iload_n 3, 1) ∧ decode cX12_placeFor 16 = .ok (.iconst 1, 1) := by decide +kernel
theorem eX12_placeFor_17 : decode cX12_placeFor 17 = .ok (.iadd, 1) ∧ decode cX12_placeFor 18 = .ok (.invokevirtual 517, 3) ∧ decode cX12_placeFor 21 = .ok (.iload_n 2, 1) ∧ decode cX12_placeFor 22 = .ok (.if_icmp .gt 9, 3) ∧ decode cX12_placeFor 25 = .ok (.iinc 3 1, 3) ∧ decode cX12_placeFor 28 = .ok (.goto (-26), 3) ∧ decode cX12_placeFor 31 = .ok (.iload_n 3, 1) ∧ decode cX12_placeFor 32 = .ok (.ireturn, 1) := by decide +kernel
theorem eX12_placeIn_0 : decode cX12_placeIn 0 = .ok (.iconst 0, 1) ∧ decode cX12_placeIn 1 = .ok (.istore_n 3, 1) ∧ decode cX12_placeIn 2 = .ok (.iload_n 3, 1) ∧ decode cX12_placeIn 3 = .ok (.aload_n 0, 1) ∧ decode cX12_placeIn 4 = .ok (.iload_n 1, 1) ∧ decode cX12_placeIn 5 = .ok (.invokevirtual 466, 3) ∧ decode cX12_placeIn 8 = .ok (.if_icmp .ge 19, 3) ∧ decode cX12_placeIn 11 = .ok (.aload_n 0, 1) := by decide +kernel
theorem eX12_placeIn_12 : decode cX12_placeIn 12 = .ok (.iload_n 1, 1) ∧ decode cX12_placeIn 13 = .ok (.iload_n 3, 1) ∧ decode cX12_placeIn 14 = .ok (.invokevirtual 517, 3) ∧ decode cX12_placeIn 17 = .ok (.iload_n 2, 1) ∧ decode cX12_placeIn 18 = .ok (.if_icmp .ge 9, 3) ∧ decode cX12_placeIn 21 = .ok (.iinc 3 1, 3) ∧ decode cX12_placeIn 24 = .ok (.goto (-22), 3) ∧ decode cX12_placeIn 27 = .ok (.iload_n 3, 1) := by decide +kernel
theorem eX12_placeIn_28 : decode cX12_placeIn 28 = .ok (.ireturn, 1) ∧ decode cX12_qClip 0 = .ok (.lload_n 0, 1) ∧ decode cX12_qClip 1 = .ok (.ldc2_w 747, 3) ∧ decode cX12_qClip 4 = .ok (.lcmp, 1) ∧ decode cX12_qClip 5 = .ok (.ifCond .le 9, 3) ∧ decode cX12_qClip 8 = .ok (.ldc2_w 747, 3) ∧ decode cX12_qClip 11 = .ok (.goto 18, 3) ∧ decode cX12_qClip 14 = .ok (.lload_n 0, 1) := by decide +kernel
theorem eX12_qClip_15 : decode cX12_qClip 15 = .ok (.ldc2_w 749, 3) ∧ decode cX12_qClip 18 = .ok (.lcmp, 1) ∧ decode cX12_qClip 19 = .ok (.ifCond .ge 9, 3) ∧ decode cX12_qClip 22 = .ok (.ldc2_w 749, 3) ∧ decode cX12_qClip 25 = .ok (.goto 4, 3) ∧ decode cX12_qClip 28 = .ok (.lload_n 0, 1) ∧ decode cX12_qClip 29 = .ok (.lreturn, 1) ∧ decode cX12_qFloor 0 = .ok (.lload_n 2, 1) := by decide +kernel
theorem eX12_qFloor_1 : decode cX12_qFloor 1 = .ok (.lconst 0, 1) ∧ decode cX12_qFloor 2 = .ok (.lcmp, 1) ∧ decode cX12_qFloor 3 = .ok (.ifCond .ne 5, 3) ∧ decode cX12_qFloor 6 = .ok (.lconst 0, 1) ∧ decode cX12_qFloor 7 = .ok (.lreturn, 1) ∧ decode cX12_qFloor 8 = .ok (.lload_n 0, 1) ∧ decode cX12_qFloor 9 = .ok (.lload_n 2, 1) ∧ decode cX12_qFloor 10 = .ok (.ldiv, 1) := by decide +kernel
theorem eX12_qFloor_11 : decode cX12_qFloor 11 = .ok (.lstore 4, 2) ∧ decode cX12_qFloor 13 = .ok (.lload_n 0, 1) ∧ decode cX12_qFloor 14 = .ok (.lload_n 2, 1) ∧ decode cX12_qFloor 15 = .ok (.lrem, 1) ∧ decode cX12_qFloor 16 = .ok (.lconst 0, 1) ∧ decode cX12_qFloor 17 = .ok (.lcmp, 1) ∧ decode cX12_qFloor 18 = .ok (.ifCond .eq 35, 3) ∧ decode cX12_qFloor 21 = .ok (.lload_n 0, 1) := by decide +kernel
theorem eX12_qFloor_22 : decode cX12_qFloor 22 = .ok (.lconst 0, 1) ∧ decode cX12_qFloor 23 = .ok (.lcmp, 1) ∧ decode cX12_qFloor 24 = .ok (.ifCond .ge 7, 3) ∧ decode cX12_qFloor 27 = .ok (.iconst 1, 1) ∧ decode cX12_qFloor 28 = .ok (.goto 4, 3) ∧ decode cX12_qFloor 31 = .ok (.iconst 0, 1) ∧ decode cX12_qFloor 32 = .ok (.lload_n 2, 1) ∧ decode cX12_qFloor 33 = .ok (.lconst 0, 1) := by decide +kernel
theorem eX12_qFloor_34 : decode cX12_qFloor 34 = .ok (.lcmp, 1) ∧ decode cX12_qFloor 35 = .ok (.ifCond .ge 7, 3) ∧ decode cX12_qFloor 38 = .ok (.iconst 1, 1) ∧ decode cX12_qFloor 39 = .ok (.goto 4, 3) ∧ decode cX12_qFloor 42 = .ok (.iconst 0, 1) ∧ decode cX12_qFloor 43 = .ok (.if_icmp .eq 10, 3) ∧ decode cX12_qFloor 46 = .ok (.lload 4, 2) ∧ decode cX12_qFloor 48 = .ok (.lconst 1, 1) := by decide +kernel
theorem eX12_qFloor_49 : decode cX12_qFloor 49 = .ok (.lsub, 1) ∧ decode cX12_qFloor 50 = .ok (.goto 5, 3) ∧ decode cX12_qFloor 53 = .ok (.lload 4, 2) ∧ decode cX12_qFloor 55 = .ok (.lreturn, 1) ∧ decode cX12_qJoins 0 = .ok (.aload_n 0, 1) ∧ decode cX12_qJoins 1 = .ok (.getfield 249, 3) ∧ decode cX12_qJoins 4 = .ok (.aload_n 0, 1) ∧ decode cX12_qJoins 5 = .ok (.getfield 443, 3) := by decide +kernel
theorem eX12_qJoins_8 : decode cX12_qJoins 8 = .ok (.iconst 1, 1) ∧ decode cX12_qJoins 9 = .ok (.isub, 1) ∧ decode cX12_qJoins 10 = .ok (.laload, 1) ∧ decode cX12_qJoins 11 = .ok (.lstore_n 2, 1) ∧ decode cX12_qJoins 12 = .ok (.aload_n 0, 1) ∧ decode cX12_qJoins 13 = .ok (.getfield 249, 3) ∧ decode cX12_qJoins 16 = .ok (.aload_n 0, 1) ∧ decode cX12_qJoins 17 = .ok (.getfield 443, 3) := by decide +kernel
theorem eX12_qJoins_20 : decode cX12_qJoins 20 = .ok (.iconst 2, 1) ∧ decode cX12_qJoins 21 = .ok (.isub, 1) ∧ decode cX12_qJoins 22 = .ok (.laload, 1) ∧ decode cX12_qJoins 23 = .ok (.lstore 4, 2) ∧ decode cX12_qJoins 25 = .ok (.aload_n 0, 1) ∧ decode cX12_qJoins 26 = .ok (.dup, 1) ∧ decode cX12_qJoins 27 = .ok (.getfield 443, 3) ∧ decode cX12_qJoins 30 = .ok (.iconst 2, 1) := by decide +kernel
theorem eX12_qJoins_31 : decode cX12_qJoins 31 = .ok (.isub, 1) ∧ decode cX12_qJoins 32 = .ok (.putfield 443, 3) ∧ decode cX12_qJoins 35 = .ok (.iload_n 1, 1) ∧ decode cX12_qJoins 36 = .ok (.tableswitch 219 1 10 #[56, 70, 84, 98, 111, 131, 151, 170, 189, 208], 56) ∧ decode cX12_qJoins 92 = .ok (.aload_n 0, 1) ∧ decode cX12_qJoins 93 = .ok (.lload 4, 2) ∧ decode cX12_qJoins 95 = .ok (.lload_n 2, 1) ∧ decode cX12_qJoins 96 = .ok (.ladd, 1) := by decide +kernel
theorem eX12_qJoins_97 : decode cX12_qJoins 97 = .ok (.invokestatic 751, 3) ∧ decode cX12_qJoins 100 = .ok (.invokevirtual 446, 3) ∧ decode cX12_qJoins 103 = .ok (.goto 170, 3) ∧ decode cX12_qJoins 106 = .ok (.aload_n 0, 1) ∧ decode cX12_qJoins 107 = .ok (.lload 4, 2) ∧ decode cX12_qJoins 109 = .ok (.lload_n 2, 1) ∧ decode cX12_qJoins 110 = .ok (.lsub, 1) ∧ decode cX12_qJoins 111 = .ok (.invokestatic 751, 3) := by decide +kernel
theorem eX12_qJoins_114 : decode cX12_qJoins 114 = .ok (.invokevirtual 446, 3) ∧ decode cX12_qJoins 117 = .ok (.goto 156, 3) ∧ decode cX12_qJoins 120 = .ok (.aload_n 0, 1) ∧ decode cX12_qJoins 121 = .ok (.lload 4, 2) ∧ decode cX12_qJoins 123 = .ok (.lload_n 2, 1) ∧ decode cX12_qJoins 124 = .ok (.lmul, 1) ∧ decode cX12_qJoins 125 = .ok (.invokestatic 751, 3) ∧ decode cX12_qJoins 128 = .ok (.invokevirtual 446, 3) := by decide +kernel
theorem eX12_qJoins_131 : decode cX12_qJoins 131 = .ok (.goto 142, 3) ∧ decode cX12_qJoins 134 = .ok (.aload_n 0, 1) ∧ decode cX12_qJoins 135 = .ok (.lload 4, 2) ∧ decode cX12_qJoins 137 = .ok (.lload_n 2, 1) ∧ decode cX12_qJoins 138 = .ok (.invokestatic 755, 3) ∧ decode cX12_qJoins 141 = .ok (.invokevirtual 446, 3) ∧ decode cX12_qJoins 144 = .ok (.goto 129, 3) ∧ decode cX12_qJoins 147 = .ok (.aload_n 0, 1) := by decide +kernel
theorem eX12_qJoins_148 : decode cX12_qJoins 148 = .ok (.lload 4, 2) ∧ decode cX12_qJoins 150 = .ok (.lload_n 2, 1) ∧ decode cX12_qJoins 151 = .ok (.lcmp, 1) ∧ decode cX12_qJoins 152 = .ok (.ifCond .ge 8, 3) ∧ decode cX12_qJoins 155 = .ok (.lload 4, 2) ∧ decode cX12_qJoins 157 = .ok (.goto 4, 3) ∧ decode cX12_qJoins 160 = .ok (.lload_n 2, 1) ∧ decode cX12_qJoins 161 = .ok (.invokevirtual 446, 3) := by decide +kernel
theorem eX12_qJoins_164 : decode cX12_qJoins 164 = .ok (.goto 109, 3) ∧ decode cX12_qJoins 167 = .ok (.aload_n 0, 1) ∧ decode cX12_qJoins 168 = .ok (.lload 4, 2) ∧ decode cX12_qJoins 170 = .ok (.lload_n 2, 1) ∧ decode cX12_qJoins 171 = .ok (.lcmp, 1) ∧ decode cX12_qJoins 172 = .ok (.ifCond .le 8, 3) ∧ decode cX12_qJoins 175 = .ok (.lload 4, 2) ∧ decode cX12_qJoins 177 = .ok (.goto 4, 3) := by decide +kernel
theorem eX12_qJoins_180 : decode cX12_qJoins 180 = .ok (.lload_n 2, 1) ∧ decode cX12_qJoins 181 = .ok (.invokevirtual 446, 3) ∧ decode cX12_qJoins 184 = .ok (.goto 89, 3) ∧ decode cX12_qJoins 187 = .ok (.aload_n 0, 1) ∧ decode cX12_qJoins 188 = .ok (.lload 4, 2) ∧ decode cX12_qJoins 190 = .ok (.lload_n 2, 1) ∧ decode cX12_qJoins 191 = .ok (.lcmp, 1) ∧ decode cX12_qJoins 192 = .ok (.ifCond .ge 7, 3) := by decide +kernel
theorem eX12_qJoins_195 : decode cX12_qJoins 195 = .ok (.lconst 1, 1) ∧ decode cX12_qJoins 196 = .ok (.goto 4, 3) ∧ decode cX12_qJoins 199 = .ok (.lconst 0, 1) ∧ decode cX12_qJoins 200 = .ok (.invokevirtual 446, 3) ∧ decode cX12_qJoins 203 = .ok (.goto 70, 3) ∧ decode cX12_qJoins 206 = .ok (.aload_n 0, 1) ∧ decode cX12_qJoins 207 = .ok (.lload 4, 2) ∧ decode cX12_qJoins 209 = .ok (.lload_n 2, 1) := by decide +kernel
theorem eX12_qJoins_210 : decode cX12_qJoins 210 = .ok (.lcmp, 1) ∧ decode cX12_qJoins 211 = .ok (.ifCond .le 7, 3) ∧ decode cX12_qJoins 214 = .ok (.lconst 1, 1) ∧ decode cX12_qJoins 215 = .ok (.goto 4, 3) ∧ decode cX12_qJoins 218 = .ok (.lconst 0, 1) ∧ decode cX12_qJoins 219 = .ok (.invokevirtual 446, 3) ∧ decode cX12_qJoins 222 = .ok (.goto 51, 3) ∧ decode cX12_qJoins 225 = .ok (.aload_n 0, 1) := by decide +kernel
theorem eX12_qJoins_226 : decode cX12_qJoins 226 = .ok (.lload 4, 2) ∧ decode cX12_qJoins 228 = .ok (.lload_n 2, 1) ∧ decode cX12_qJoins 229 = .ok (.lcmp, 1) ∧ decode cX12_qJoins 230 = .ok (.ifCond .ne 7, 3) ∧ decode cX12_qJoins 233 = .ok (.lconst 1, 1) ∧ decode cX12_qJoins 234 = .ok (.goto 4, 3) ∧ decode cX12_qJoins 237 = .ok (.lconst 0, 1) ∧ decode cX12_qJoins 238 = .ok (.invokevirtual 446, 3) := by decide +kernel
theorem eX12_qJoins_241 : decode cX12_qJoins 241 = .ok (.goto 32, 3) ∧ decode cX12_qJoins 244 = .ok (.aload_n 0, 1) ∧ decode cX12_qJoins 245 = .ok (.lload 4, 2) ∧ decode cX12_qJoins 247 = .ok (.lload_n 2, 1) ∧ decode cX12_qJoins 248 = .ok (.lmul, 1) ∧ decode cX12_qJoins 249 = .ok (.invokevirtual 446, 3) ∧ decode cX12_qJoins 252 = .ok (.goto 21, 3) ∧ decode cX12_qJoins 255 = .ok (.aload_n 0, 1) := by decide +kernel
theorem eX12_qJoins_256 : decode cX12_qJoins 256 = .ok (.lload 4, 2) ∧ decode cX12_qJoins 258 = .ok (.lload_n 2, 1) ∧ decode cX12_qJoins 259 = .ok (.ladd, 1) ∧ decode cX12_qJoins 260 = .ok (.lconst 0, 1) ∧ decode cX12_qJoins 261 = .ok (.lcmp, 1) ∧ decode cX12_qJoins 262 = .ok (.ifCond .le 7, 3) ∧ decode cX12_qJoins 265 = .ok (.lconst 1, 1) ∧ decode cX12_qJoins 266 = .ok (.goto 4, 3) := by decide +kernel
theorem eX12_qJoins_269 : decode cX12_qJoins 269 = .ok (.lconst 0, 1) ∧ decode cX12_qJoins 270 = .ok (.invokevirtual 446, 3) ∧ decode cX12_qJoins 273 = .ok (.return_, 1) ∧ decode cX12_qPuts 0 = .ok (.aload_n 0, 1) ∧ decode cX12_qPuts 1 = .ok (.getfield 249, 3) ∧ decode cX12_qPuts 4 = .ok (.aload_n 0, 1) ∧ decode cX12_qPuts 5 = .ok (.getfield 443, 3) ∧ decode cX12_qPuts 8 = .ok (.lload_n 1, 1) := by decide +kernel
theorem eX12_qPuts_9 : decode cX12_qPuts 9 = .ok (.lastore, 1) ∧ decode cX12_qPuts 10 = .ok (.aload_n 0, 1) ∧ decode cX12_qPuts 11 = .ok (.dup, 1) ∧ decode cX12_qPuts 12 = .ok (.getfield 443, 3) ∧ decode cX12_qPuts 15 = .ok (.iconst 1, 1) ∧ decode cX12_qPuts 16 = .ok (.iadd, 1) ∧ decode cX12_qPuts 17 = .ok (.putfield 443, 3) ∧ decode cX12_qPuts 20 = .ok (.return_, 1) := by decide +kernel
theorem eX12_savedOf_0 : decode cX12_savedOf 0 = .ok (.aload_n 0, 1) ∧ decode cX12_savedOf 1 = .ok (.getfield 121, 3) ∧ decode cX12_savedOf 4 = .ok (.bipush 17, 2) ∧ decode cX12_savedOf 6 = .ok (.bipush 16, 2) ∧ decode cX12_savedOf 8 = .ok (.iload_n 1, 1) ∧ decode cX12_savedOf 9 = .ok (.imul, 1) ∧ decode cX12_savedOf 10 = .ok (.iadd, 1) ∧ decode cX12_savedOf 11 = .ok (.iconst 1, 1) := by decide +kernel
theorem eX12_savedOf_12 : decode cX12_savedOf 12 = .ok (.iadd, 1) ∧ decode cX12_savedOf 13 = .ok (.iaload, 1) ∧ decode cX12_savedOf 14 = .ok (.ireturn, 1) ∧ decode cX12_setsEntry 0 = .ok (.aload_n 0, 1) ∧ decode cX12_setsEntry 1 = .ok (.getfield 121, 3) ∧ decode cX12_setsEntry 4 = .ok (.bipush 17, 2) ∧ decode cX12_setsEntry 6 = .ok (.bipush 16, 2) ∧ decode cX12_setsEntry 8 = .ok (.iload_n 1, 1) := by decide +kernel
theorem eX12_setsEntry_9 : decode cX12_setsEntry 9 = .ok (.imul, 1) ∧ decode cX12_setsEntry 10 = .ok (.iadd, 1) ∧ decode cX12_setsEntry 11 = .ok (.iconst 4, 1) ∧ decode cX12_setsEntry 12 = .ok (.iadd, 1) ∧ decode cX12_setsEntry 13 = .ok (.iload_n 2, 1) ∧ decode cX12_setsEntry 14 = .ok (.iadd, 1) ∧ decode cX12_setsEntry 15 = .ok (.iload_n 3, 1) ∧ decode cX12_setsEntry 16 = .ok (.iastore, 1) := by decide +kernel
theorem eX12_setsEntry_17 : decode cX12_setsEntry 17 = .ok (.aload_n 0, 1) ∧ decode cX12_setsEntry 18 = .ok (.getfield 121, 3) ∧ decode cX12_setsEntry 21 = .ok (.bipush 17, 2) ∧ decode cX12_setsEntry 23 = .ok (.bipush 16, 2) ∧ decode cX12_setsEntry 25 = .ok (.iload_n 1, 1) ∧ decode cX12_setsEntry 26 = .ok (.imul, 1) ∧ decode cX12_setsEntry 27 = .ok (.iadd, 1) ∧ decode cX12_setsEntry 28 = .ok (.bipush 10, 2) := by decide +kernel
theorem eX12_setsEntry_30 : decode cX12_setsEntry 30 = .ok (.iadd, 1) ∧ decode cX12_setsEntry 31 = .ok (.iload_n 2, 1) ∧ decode cX12_setsEntry 32 = .ok (.iadd, 1) ∧ decode cX12_setsEntry 33 = .ok (.iload 4, 2) ∧ decode cX12_setsEntry 35 = .ok (.iastore, 1) ∧ decode cX12_setsEntry 36 = .ok (.aload_n 0, 1) ∧ decode cX12_setsEntry 37 = .ok (.getfield 124, 3) ∧ decode cX12_setsEntry 40 = .ok (.iload_n 1, 1) := by decide +kernel
theorem eX12_setsEntry_41 : decode cX12_setsEntry 41 = .ok (.iconst 1, 1) ∧ decode cX12_setsEntry 42 = .ok (.bastore, 1) ∧ decode cX12_setsEntry 43 = .ok (.return_, 1) ∧ decode cX12_valueAt 0 = .ok (.aload_n 0, 1) ∧ decode cX12_valueAt 1 = .ok (.getfield 121, 3) ∧ decode cX12_valueAt 4 = .ok (.bipush 17, 2) ∧ decode cX12_valueAt 6 = .ok (.bipush 16, 2) ∧ decode cX12_valueAt 8 = .ok (.iload_n 1, 1) := by decide +kernel
theorem eX12_valueAt_9 : decode cX12_valueAt 9 = .ok (.imul, 1) ∧ decode cX12_valueAt 10 = .ok (.iadd, 1) ∧ decode cX12_valueAt 11 = .ok (.bipush 10, 2) ∧ decode cX12_valueAt 13 = .ok (.iadd, 1) ∧ decode cX12_valueAt 14 = .ok (.iload_n 2, 1) ∧ decode cX12_valueAt 15 = .ok (.iadd, 1) ∧ decode cX12_valueAt 16 = .ok (.iaload, 1) ∧ decode cX12_valueAt 17 = .ok (.ireturn, 1) := by decide +kernel
set_option maxHeartbeats 4000000 in
set_option maxRecDepth 100000 in
theorem k_x12_countOf (l : Launch) (D : va_G) (a : Nat → Nat) (p0 : Int) (s : MS) (o : Int) (h : m_x12_countOf p0 s = some o) : yRi l yX12_countOf cX12_countOf 2 (some .int) { frames := 0, cells := 0, slots := 0, locals := 0 } D [.ref (a 200), .int (i2 p0)] (RW D a s) (i2 o) := by
  refine Met.ofW (cc := cX12_countOf) (maxL := 2) (ret := (some .int)) (by decide) rfl ?_
  intro p e s₀ m args below meth c s₁ B hml hv
  obtain ⟨rfl, ⟨hP, hK⟩, hN⟩ := hv
  have hx := B.exec
  have hb := B.bytes
  have hr := B.returns
  have hts := atoms_spec (ws := wz yX12_countOf cX12_countOf 2 (some .int)) B.pre
  have ht : ∀ w ∈ lw_gd, w.before _ s₀ = true := fun w h => hts w (List.mem_cons_of_mem _ h)
  have hown : s₀.vm.findClass RX12 = some m.cls := findClass_of_methodNamed B.named
  have hlocks := B.notSynchronized
  have hS : va_S (fun _ => False) s₀.heap s₀.heap [] := va_S.rf
  have hl := lv_entry ([.ref (a 200), .int (i2 p0)]) (n := 2) (Nat.le_of_ble_eq_true rfl)
  rw [lg_entry_eq]
  generalize (lg_sl ([.ref (a 200), .int (i2 p0)]) ++ List.replicate (2 - (lg_sl ([.ref (a 200), .int (i2 p0)])).length) Slot.unset).toArray = ls at hl ⊢
  have hl : lv_has ls 2 [(0, .ref (a 200)), (1, .int (i2 p0))] := hl
  unfold m_x12_countOf at h
  refine lv_aload_n hx hb eX12_checks_56.2.2.2.1 rfl (lv_at hl 0 rfl) ?_
  refine va_get (D := D) (ci := 12) (v := .ref (a 49)) (C := RX12) (T := TX12) (N := 116) hx hb ht inX12 hown hK hP 0 RW_0 rfl 49 (by decide) (ht (.fieldLink RX12 121 "CloneVolumesModel" "now" "[I") fl_X12_121) (fun _ h9 => h9) mF_49 eX12_checks_56.2.2.2.2.1 ?_
  refine lv_bipush (v := 17) hx hb eX12_checks_56.2.2.2.2.2.1 (by decide) ?_
  refine lv_bipush (v := 16) hx hb eX12_checks_56.2.2.2.2.2.2.1 (by decide) ?_
  refine lv_iload_n hx hb eX12_checks_56.2.2.2.2.2.2.2 rfl (lv_at hl 1 rfl) ?_
  refine lv_imul hx hb eX12_countOf_9.1 ?_
  refine z_topi (y := i2 (16 * p0)) (i2_mul 16 p0) ?_
  refine lv_iadd hx hb eX12_countOf_9.2.1 ?_
  refine z_topi (y := i2 (17 + (16 * p0))) (i2_add 17 (16 * p0)) ?_
  obtain ⟨y1, ey1, iy1, h⟩ := rdI_e h
  refine ya_iald (i := (17 + (16 * p0))) hx hb hK hP 36 0 RW_36 rfl (by decide) ey1 iy1 eX12_countOf_9.2.2.1 ?_
  obtain rfl := Option.some.inj h
  exact W.iret (v := (i2 y1)) hx hb hr (fun t ht hW => ⟨⟨_, (), rfl, rfl, trivial⟩, hS.F ht⟩) hS.2.2 eX12_countOf_9.2.2.2.1
set_option maxHeartbeats 4000000 in
set_option maxRecDepth 100000 in
theorem k_x12_checks (l : Launch) (D : va_G) (a : Nat → Nat) (sz : Nat) (s : MS) (o : MS) (h : m_x12_checks s = some o) : yWv l yX12_checks cX12_checks 2 none { frames := 1, cells := 0, slots := 0, locals := 60 } D sz [.ref (a 200)] (RW D a s) (RW D a o) := by
  refine Met.ofW (cc := cX12_checks) (maxL := 2) (ret := none) (by decide) rfl ?_
  intro p e s₀ m args below meth c s₁ B hml hv
  obtain ⟨rfl, ⟨hsz, hP, hK, hD0⟩, hN⟩ := hv
  have hx := B.exec
  have hb := B.bytes
  have hr := B.returns
  have hts := atoms_spec (ws := wz yX12_checks cX12_checks 2 none) B.pre
  have ht : ∀ w ∈ lw_gd, w.before _ s₀ = true := fun w h => hts w (List.mem_cons_of_mem _ h)
  have hown : s₀.vm.findClass RX12 = some m.cls := findClass_of_methodNamed B.named
  have hlocks := B.notSynchronized
  subst hsz
  have hD := hD0.self (sz := s₀.heap.size)
  generalize hAe : va_A (RW D a s) s₀.heap.size = A at hD ⊢
  have hA : ∀ q : Nat, s₀.heap.size ≤ q → A q := fun q h => by rw [← hAe]; exact Or.inr h
  have hS : va_S A s₀.heap s₀.heap [] := va_S.rf
  have hDD : ∀ t : MS, va_D A (RW D a t) := fun t => RW_D t hD
  have hl := lv_entry ([.ref (a 200)]) (n := 2) (Nat.le_of_ble_eq_true rfl)
  rw [lg_entry_eq]
  generalize (lg_sl ([.ref (a 200)]) ++ List.replicate (2 - (lg_sl ([.ref (a 200)])).length) Slot.unset).toArray = ls at hl ⊢
  have hl : lv_has ls 2 [(0, .ref (a 200))] := hl
  unfold m_x12_checks at h
  refine y_loop (pcJ := 31) (σ := Int × MS) (fun n u H locs ls => va_P D vwCl (RW D a u.2) H ∧ va_S A s₀.heap H locs ∧ lv_has ls 2 [(0, .ref (a 200)), (1, .int (i2 u.1))] ∧ m_x12_checks_L31 n u.1 u.2 = some o) (fun u => []) (fun u H locs ls hI => by obtain ⟨_, _, _, h⟩ := hI; cases h) (fun n31 ih31 u H locs ls hI => ?_) (fun J31 => ?_)
  · obtain ⟨hP, hS, hl, h⟩ := hI
    obtain ⟨x1, s2⟩ := u
    have hP : va_P D vwCl (RW D a s2) H := hP
    have hl : lv_has ls 2 [(0, .ref (a 200)), (1, .int (i2 x1))] := hl
    have h : m_x12_checks_b31 (m_x12_checks_L31 n31) x1 s2 = some o := h
    unfold m_x12_checks_b31 at h
    refine lv_iload_n hx hb eX12_checks_31.1 rfl (lv_at hl 1 rfl) ?_
    refine lv_bipush (v := 48) hx hb eX12_checks_31.2.1 (by decide) ?_
    obtain ⟨hr3, h⟩ := rg_e h
    refine lv_icmp_ge (tgt := 62) hx hb eX12_checks_31.2.2.1 (by decide) (fun c4 => ?_) (fun c4 => ?_)
    · have h := if_t ((i2_le (x := 48) (y := x1) (by decide) hr3).mp c4) h
      obtain rfl := Option.some.inj h
      exact W.vret hx hb hr (fun t ht hW => ⟨⟨(), rfl, trivial, by rw [ht]; exact hP, va_K.moved hW.alike hK, hDD _⟩, hS.F ht⟩) hS.2.2 eX12_checks_56.2.2.1
    · have h := if_f (mt (i2_le (x := 48) (y := x1) (by decide) hr3).mpr c4) h
      refine lv_aload_n hx hb eX12_checks_31.2.2.2.1 rfl (lv_at hl 0 rfl) ?_
      refine va_get (D := D) (ci := 12) (v := .ref (a 49)) (C := RX12) (T := TX12) (N := 116) hx hb ht inX12 hown hK hP 0 RW_0 rfl 49 (by decide) (ht (.fieldLink RX12 121 "CloneVolumesModel" "now" "[I") fl_X12_121) (fun _ h9 => h9) mF_49 eX12_checks_31.2.2.2.2.1 ?_
      refine lv_bipush (v := 17) hx hb eX12_checks_31.2.2.2.2.2.1 (by decide) ?_
      refine lv_bipush (v := 16) hx hb eX12_checks_31.2.2.2.2.2.2.1 (by decide) ?_
      refine lv_iload_n hx hb eX12_checks_31.2.2.2.2.2.2.2 rfl (lv_at hl 1 rfl) ?_
      refine lv_imul hx hb eX12_checks_46.1 ?_
      refine z_topi (y := i2 (16 * x1)) (i2_mul 16 x1) ?_
      refine lv_iadd hx hb eX12_checks_46.2.1 ?_
      refine z_topi (y := i2 (17 + (16 * x1))) (i2_add 17 (16 * x1)) ?_
      refine lv_iconst (v := 1) hx hb eX12_checks_46.2.2.1 (by decide) ?_
      refine lv_iadd hx hb eX12_checks_46.2.2.2.1 ?_
      refine z_topi (y := i2 ((17 + (16 * x1)) + 1)) (i2_add (17 + (16 * x1)) 1) ?_
      refine lv_aload_n hx hb eX12_checks_46.2.2.2.2.1 rfl (lv_at hl 0 rfl) ?_
      refine lv_iload_n hx hb eX12_checks_46.2.2.2.2.2.1 rfl (lv_at hl 1 rfl) ?_
      obtain ⟨r6, hc5, h⟩ := bn_e h
      refine ycV (r0 := i2 r6) (As := [.int (i2 x1)]) (rest := [.int (i2 ((17 + (16 * x1)) + 1)), .ref (a 49)]) (C := RX12) (n := 1) ⟨hx, hb, hml, hown, ht⟩ (k_x12_countOf l D a x1 _ _ hc5) (zgV ml_X12_432 im_X12_countOf se_X12_countOf in_X12 co_X12_countOf) rfl rfl (by decide +kernel) ⟨Nat.le_of_ble_eq_true rfl, Nat.le_of_ble_eq_true rfl⟩ hN hK hP hS 0 RW_0 rfl rfl rfl hl.1 rfl (Nat.le_of_ble_eq_true rfl) eX12_checks_46.2.2.2.2.2.2.1 ⟨Nat.le_of_ble_eq_true rfl, Nat.le_of_ble_eq_true rfl⟩ (fun H locs hP hS => ?_)
      obtain ⟨hi7, h⟩ := inb_e h
      refine ya_iast (i := ((17 + (16 * x1)) + 1)) (x := r6) hx hb hK hP (hDD _) hS 36 0 RW_36 rfl (by decide) hi7 eX12_checks_46.2.2.2.2.2.2.2 (RW_w36 _) (fun H locs hP hS => ?_)
      obtain ⟨s8, hs8, h⟩ := st_e h
      rw [hs8] at hP
      refine lv_iinc (v := i2 (x1 + 1)) (lv' := [(1, .int (i2 (x1 + 1))), (0, .ref (a 200))]) hx hb eX12_checks_56.1 hl (k := 1) rfl (i2_add x1 1) (by decide) rfl (fun ls hl => ?_)
      refine lv_goto (tgt := 31) hx hb eX12_checks_56.2.1 (by decide) ?_
      exact ih31 (x1 + 1, s8) _ _ _ ⟨hP, hS, lv_sub hl [1, 0] rfl, h⟩
  refine y_loop (pcJ := 2) (σ := Int × MS) (fun n u H locs ls => va_P D vwCl (RW D a u.2) H ∧ va_S A s₀.heap H locs ∧ lv_has ls 2 [(0, .ref (a 200)), (1, .int (i2 u.1))] ∧ m_x12_checks_L2 n u.1 u.2 = some o) (fun u => []) (fun u H locs ls hI => by obtain ⟨_, _, _, h⟩ := hI; cases h) (fun n2 ih2 u H locs ls hI => ?_) (fun J2 => ?_)
  · obtain ⟨hP, hS, hl, h⟩ := hI
    obtain ⟨x9, s10⟩ := u
    have hP : va_P D vwCl (RW D a s10) H := hP
    have hl : lv_has ls 2 [(0, .ref (a 200)), (1, .int (i2 x9))] := hl
    have h : m_x12_checks_b2 (m_x12_checks_L2 n2) x9 s10 = some o := h
    unfold m_x12_checks_b2 at h
    refine lv_iload_n hx hb eX12_blockMany_0.2.2.2.2.2.2.2 rfl (lv_at hl 1 rfl) ?_
    refine lv_bipush (v := 8) hx hb eX12_checks_3.1 (by decide) ?_
    obtain ⟨hr11, h⟩ := rg_e h
    refine lv_icmp_ge (tgt := 29) hx hb eX12_checks_3.2.1 (by decide) (fun c12 => ?_) (fun c12 => ?_)
    · have h := if_t ((i2_le (x := 8) (y := x9) (by decide) hr11).mp c12) h
      refine lv_iconst (v := 0) hx hb eX12_checks_17.2.2.2.2.2.2.1 (by decide) ?_
      refine lv_istore_n (lv' := [(1, .int 0), (0, .ref (a 200))]) hx hb eX12_checks_17.2.2.2.2.2.2.2 rfl hl (by decide) rfl (fun ls hl => ?_)
      exact J31 FU (0, s10) _ _ _ ⟨hP, hS, lv_sub hl [1, 0] rfl, h⟩
    · have h := if_f (mt (i2_le (x := 8) (y := x9) (by decide) hr11).mpr c12) h
      refine lv_aload_n hx hb eX12_checks_3.2.2.1 rfl (lv_at hl 0 rfl) ?_
      refine va_get (D := D) (ci := 12) (v := .ref (a 49)) (C := RX12) (T := TX12) (N := 116) hx hb ht inX12 hown hK hP 0 RW_0 rfl 49 (by decide) (ht (.fieldLink RX12 121 "CloneVolumesModel" "now" "[I") fl_X12_121) (fun _ h9 => h9) mF_49 eX12_checks_3.2.2.2.1 ?_
      refine lv_bipush (v := 8) hx hb eX12_checks_3.2.2.2.2.1 (by decide) ?_
      refine lv_iload_n hx hb eX12_checks_3.2.2.2.2.2.1 rfl (lv_at hl 1 rfl) ?_
      refine lv_iadd hx hb eX12_checks_3.2.2.2.2.2.2.1 ?_
      refine z_topi (y := i2 (8 + x9)) (i2_add 8 x9) ?_
      refine lv_aload_n hx hb eX12_checks_3.2.2.2.2.2.2.2 rfl (lv_at hl 0 rfl) ?_
      refine va_get (D := D) (ci := 12) (v := .ref (a 49)) (C := RX12) (T := TX12) (N := 116) hx hb ht inX12 hown hK hP 0 RW_0 rfl 49 (by decide) (ht (.fieldLink RX12 121 "CloneVolumesModel" "now" "[I") fl_X12_121) (fun _ h9 => h9) mF_49 eX12_checks_17.1 ?_
      refine lv_iload_n hx hb eX12_checks_17.2.1 rfl (lv_at hl 1 rfl) ?_
      obtain ⟨y13, ey13, iy13, h⟩ := rdI_e h
      refine ya_iald (i := x9) hx hb hK hP 36 0 RW_36 rfl (by decide) ey13 iy13 eX12_checks_17.2.2.1 ?_
      obtain ⟨hi14, h⟩ := inb_e h
      refine ya_iast (i := (8 + x9)) (x := y13) hx hb hK hP (hDD _) hS 36 0 RW_36 rfl (by decide) hi14 eX12_checks_17.2.2.2.1 (RW_w36 _) (fun H locs hP hS => ?_)
      obtain ⟨s15, hs15, h⟩ := st_e h
      rw [hs15] at hP
      refine lv_iinc (v := i2 (x9 + 1)) (lv' := [(1, .int (i2 (x9 + 1))), (0, .ref (a 200))]) hx hb eX12_checks_17.2.2.2.2.1 hl (k := 1) rfl (i2_add x9 1) (by decide) rfl (fun ls hl => ?_)
      refine lv_goto (tgt := 2) hx hb eX12_checks_17.2.2.2.2.2.1 (by decide) ?_
      exact ih2 (x9 + 1, s15) _ _ _ ⟨hP, hS, lv_sub hl [1, 0] rfl, h⟩
  refine lv_iconst (v := 0) hx hb eX12_blockMany_0.2.2.2.2.2.1 (by decide) ?_
  refine lv_istore_n (lv' := [(1, .int 0), (0, .ref (a 200))]) hx hb eX12_blockMany_0.2.2.2.2.2.2.1 rfl hl (by decide) rfl (fun ls hl => ?_)
  exact J2 FU (0, s) _ _ _ ⟨hP, hS, lv_sub hl [1, 0] rfl, h⟩
set_option maxHeartbeats 4000000 in
set_option maxRecDepth 100000 in
theorem k_x12_entriesOf (l : Launch) (D : va_G) (a : Nat → Nat) (p0 : Int) (s : MS) (o : Int) (h : m_x12_entriesOf p0 s = some o) : yRi l yX12_entriesOf cX12_entriesOf 2 (some .int) { frames := 0, cells := 0, slots := 0, locals := 0 } D [.ref (a 200), .int (i2 p0)] (RW D a s) (i2 o) := by
  refine Met.ofW (cc := cX12_entriesOf) (maxL := 2) (ret := (some .int)) (by decide) rfl ?_
  intro p e s₀ m args below meth c s₁ B hml hv
  obtain ⟨rfl, ⟨hP, hK⟩, hN⟩ := hv
  have hx := B.exec
  have hb := B.bytes
  have hr := B.returns
  have hts := atoms_spec (ws := wz yX12_entriesOf cX12_entriesOf 2 (some .int)) B.pre
  have ht : ∀ w ∈ lw_gd, w.before _ s₀ = true := fun w h => hts w (List.mem_cons_of_mem _ h)
  have hown : s₀.vm.findClass RX12 = some m.cls := findClass_of_methodNamed B.named
  have hlocks := B.notSynchronized
  have hS : va_S (fun _ => False) s₀.heap s₀.heap [] := va_S.rf
  have hl := lv_entry ([.ref (a 200), .int (i2 p0)]) (n := 2) (Nat.le_of_ble_eq_true rfl)
  rw [lg_entry_eq]
  generalize (lg_sl ([.ref (a 200), .int (i2 p0)]) ++ List.replicate (2 - (lg_sl ([.ref (a 200), .int (i2 p0)])).length) Slot.unset).toArray = ls at hl ⊢
  have hl : lv_has ls 2 [(0, .ref (a 200)), (1, .int (i2 p0))] := hl
  unfold m_x12_entriesOf at h
  refine lv_aload_n hx hb eX12_entriesOf_0.1 rfl (lv_at hl 0 rfl) ?_
  refine va_get (D := D) (ci := 12) (v := .ref (a 49)) (C := RX12) (T := TX12) (N := 116) hx hb ht inX12 hown hK hP 0 RW_0 rfl 49 (by decide) (ht (.fieldLink RX12 121 "CloneVolumesModel" "now" "[I") fl_X12_121) (fun _ h9 => h9) mF_49 eX12_entriesOf_0.2.1 ?_
  refine lv_bipush (v := 17) hx hb eX12_entriesOf_0.2.2.1 (by decide) ?_
  refine lv_bipush (v := 16) hx hb eX12_entriesOf_0.2.2.2.1 (by decide) ?_
  refine lv_iload_n hx hb eX12_entriesOf_0.2.2.2.2.1 rfl (lv_at hl 1 rfl) ?_
  refine lv_imul hx hb eX12_entriesOf_0.2.2.2.2.2.1 ?_
  refine z_topi (y := i2 (16 * p0)) (i2_mul 16 p0) ?_
  refine lv_iadd hx hb eX12_entriesOf_0.2.2.2.2.2.2.1 ?_
  refine z_topi (y := i2 (17 + (16 * p0))) (i2_add 17 (16 * p0)) ?_
  refine lv_iconst (v := 3) hx hb eX12_entriesOf_0.2.2.2.2.2.2.2 (by decide) ?_
  refine lv_iadd hx hb eX12_entriesOf_12.1 ?_
  refine z_topi (y := i2 ((17 + (16 * p0)) + 3)) (i2_add (17 + (16 * p0)) 3) ?_
  obtain ⟨y1, ey1, iy1, h⟩ := rdI_e h
  refine ya_iald (i := ((17 + (16 * p0)) + 3)) hx hb hK hP 36 0 RW_36 rfl (by decide) ey1 iy1 eX12_entriesOf_12.2.1 ?_
  obtain rfl := Option.some.inj h
  exact W.iret (v := (i2 y1)) hx hb hr (fun t ht hW => ⟨⟨_, (), rfl, rfl, trivial⟩, hS.F ht⟩) hS.2.2 eX12_entriesOf_12.2.2.1
set_option maxHeartbeats 4000000 in
set_option maxRecDepth 100000 in
theorem k_x12_levelOf (l : Launch) (D : va_G) (a : Nat → Nat) (p0 : Int) (s : MS) (o : Int) (h : m_x12_levelOf p0 s = some o) : yRi l yX12_levelOf cX12_levelOf 2 (some .int) { frames := 0, cells := 0, slots := 0, locals := 0 } D [.ref (a 200), .int (i2 p0)] (RW D a s) (i2 o) := by
  refine Met.ofW (cc := cX12_levelOf) (maxL := 2) (ret := (some .int)) (by decide) rfl ?_
  intro p e s₀ m args below meth c s₁ B hml hv
  obtain ⟨rfl, ⟨hP, hK⟩, hN⟩ := hv
  have hx := B.exec
  have hb := B.bytes
  have hr := B.returns
  have hts := atoms_spec (ws := wz yX12_levelOf cX12_levelOf 2 (some .int)) B.pre
  have ht : ∀ w ∈ lw_gd, w.before _ s₀ = true := fun w h => hts w (List.mem_cons_of_mem _ h)
  have hown : s₀.vm.findClass RX12 = some m.cls := findClass_of_methodNamed B.named
  have hlocks := B.notSynchronized
  have hS : va_S (fun _ => False) s₀.heap s₀.heap [] := va_S.rf
  have hl := lv_entry ([.ref (a 200), .int (i2 p0)]) (n := 2) (Nat.le_of_ble_eq_true rfl)
  rw [lg_entry_eq]
  generalize (lg_sl ([.ref (a 200), .int (i2 p0)]) ++ List.replicate (2 - (lg_sl ([.ref (a 200), .int (i2 p0)])).length) Slot.unset).toArray = ls at hl ⊢
  have hl : lv_has ls 2 [(0, .ref (a 200)), (1, .int (i2 p0))] := hl
  unfold m_x12_levelOf at h
  refine lv_aload_n hx hb eX12_levelOf_0.1 rfl (lv_at hl 0 rfl) ?_
  refine va_get (D := D) (ci := 12) (v := .ref (a 49)) (C := RX12) (T := TX12) (N := 116) hx hb ht inX12 hown hK hP 0 RW_0 rfl 49 (by decide) (ht (.fieldLink RX12 121 "CloneVolumesModel" "now" "[I") fl_X12_121) (fun _ h9 => h9) mF_49 eX12_levelOf_0.2.1 ?_
  refine lv_bipush (v := 17) hx hb eX12_levelOf_0.2.2.1 (by decide) ?_
  refine lv_bipush (v := 16) hx hb eX12_levelOf_0.2.2.2.1 (by decide) ?_
  refine lv_iload_n hx hb eX12_levelOf_0.2.2.2.2.1 rfl (lv_at hl 1 rfl) ?_
  refine lv_imul hx hb eX12_levelOf_0.2.2.2.2.2.1 ?_
  refine z_topi (y := i2 (16 * p0)) (i2_mul 16 p0) ?_
  refine lv_iadd hx hb eX12_levelOf_0.2.2.2.2.2.2.1 ?_
  refine z_topi (y := i2 (17 + (16 * p0))) (i2_add 17 (16 * p0)) ?_
  refine lv_iconst (v := 2) hx hb eX12_levelOf_0.2.2.2.2.2.2.2 (by decide) ?_
  refine lv_iadd hx hb eX12_levelOf_12.1 ?_
  refine z_topi (y := i2 ((17 + (16 * p0)) + 2)) (i2_add (17 + (16 * p0)) 2) ?_
  obtain ⟨y1, ey1, iy1, h⟩ := rdI_e h
  refine ya_iald (i := ((17 + (16 * p0)) + 2)) hx hb hK hP 36 0 RW_36 rfl (by decide) ey1 iy1 eX12_levelOf_12.2.1 ?_
  obtain rfl := Option.some.inj h
  exact W.iret (v := (i2 y1)) hx hb hr (fun t ht hW => ⟨⟨_, (), rfl, rfl, trivial⟩, hS.F ht⟩) hS.2.2 eX12_levelOf_12.2.2.1
set_option maxHeartbeats 4000000 in
set_option maxRecDepth 100000 in
theorem k_x12_valueAt (l : Launch) (D : va_G) (a : Nat → Nat) (p0 : Int) (p1 : Int) (s : MS) (o : Int) (h : m_x12_valueAt p0 p1 s = some o) : yRi l yX12_valueAt cX12_valueAt 3 (some .int) { frames := 0, cells := 0, slots := 0, locals := 0 } D [.ref (a 200), .int (i2 p0), .int (i2 p1)] (RW D a s) (i2 o) := by
  refine Met.ofW (cc := cX12_valueAt) (maxL := 3) (ret := (some .int)) (by decide) rfl ?_
  intro p e s₀ m args below meth c s₁ B hml hv
  obtain ⟨rfl, ⟨hP, hK⟩, hN⟩ := hv
  have hx := B.exec
  have hb := B.bytes
  have hr := B.returns
  have hts := atoms_spec (ws := wz yX12_valueAt cX12_valueAt 3 (some .int)) B.pre
  have ht : ∀ w ∈ lw_gd, w.before _ s₀ = true := fun w h => hts w (List.mem_cons_of_mem _ h)
  have hown : s₀.vm.findClass RX12 = some m.cls := findClass_of_methodNamed B.named
  have hlocks := B.notSynchronized
  have hS : va_S (fun _ => False) s₀.heap s₀.heap [] := va_S.rf
  have hl := lv_entry ([.ref (a 200), .int (i2 p0), .int (i2 p1)]) (n := 3) (Nat.le_of_ble_eq_true rfl)
  rw [lg_entry_eq]
  generalize (lg_sl ([.ref (a 200), .int (i2 p0), .int (i2 p1)]) ++ List.replicate (3 - (lg_sl ([.ref (a 200), .int (i2 p0), .int (i2 p1)])).length) Slot.unset).toArray = ls at hl ⊢
  have hl : lv_has ls 3 [(0, .ref (a 200)), (1, .int (i2 p0)), (2, .int (i2 p1))] := hl
  unfold m_x12_valueAt at h
  refine lv_aload_n hx hb eX12_setsEntry_41.2.2.2.1 rfl (lv_at hl 0 rfl) ?_
  refine va_get (D := D) (ci := 12) (v := .ref (a 49)) (C := RX12) (T := TX12) (N := 116) hx hb ht inX12 hown hK hP 0 RW_0 rfl 49 (by decide) (ht (.fieldLink RX12 121 "CloneVolumesModel" "now" "[I") fl_X12_121) (fun _ h9 => h9) mF_49 eX12_setsEntry_41.2.2.2.2.1 ?_
  refine lv_bipush (v := 17) hx hb eX12_setsEntry_41.2.2.2.2.2.1 (by decide) ?_
  refine lv_bipush (v := 16) hx hb eX12_setsEntry_41.2.2.2.2.2.2.1 (by decide) ?_
  refine lv_iload_n hx hb eX12_setsEntry_41.2.2.2.2.2.2.2 rfl (lv_at hl 1 rfl) ?_
  refine lv_imul hx hb eX12_valueAt_9.1 ?_
  refine z_topi (y := i2 (16 * p0)) (i2_mul 16 p0) ?_
  refine lv_iadd hx hb eX12_valueAt_9.2.1 ?_
  refine z_topi (y := i2 (17 + (16 * p0))) (i2_add 17 (16 * p0)) ?_
  refine lv_bipush (v := 10) hx hb eX12_valueAt_9.2.2.1 (by decide) ?_
  refine lv_iadd hx hb eX12_valueAt_9.2.2.2.1 ?_
  refine z_topi (y := i2 ((17 + (16 * p0)) + 10)) (i2_add (17 + (16 * p0)) 10) ?_
  refine lv_iload_n hx hb eX12_valueAt_9.2.2.2.2.1 rfl (lv_at hl 2 rfl) ?_
  refine lv_iadd hx hb eX12_valueAt_9.2.2.2.2.2.1 ?_
  refine z_topi (y := i2 (((17 + (16 * p0)) + 10) + p1)) (i2_add ((17 + (16 * p0)) + 10) p1) ?_
  obtain ⟨y1, ey1, iy1, h⟩ := rdI_e h
  refine ya_iald (i := (((17 + (16 * p0)) + 10) + p1)) hx hb hK hP 36 0 RW_36 rfl (by decide) ey1 iy1 eX12_valueAt_9.2.2.2.2.2.2.1 ?_
  obtain rfl := Option.some.inj h
  exact W.iret (v := (i2 y1)) hx hb hr (fun t ht hW => ⟨⟨_, (), rfl, rfl, trivial⟩, hS.F ht⟩) hS.2.2 eX12_valueAt_9.2.2.2.2.2.2.2
set_option maxHeartbeats 4000000 in
set_option maxRecDepth 100000 in
theorem k_x12_counts (l : Launch) (D : va_G) (a : Nat → Nat) (p0 : Int) (p1 : Int) (sz : Nat) (s : MS) (o : MS) (h : m_x12_counts p0 p1 s = some o) : yWv l yX12_counts cX12_counts 3 none { frames := 0, cells := 0, slots := 0, locals := 0 } D sz [.ref (a 200), .int (i2 p0), .int (i2 p1)] (RW D a s) (RW D a o) := by
  refine Met.ofW (cc := cX12_counts) (maxL := 3) (ret := none) (by decide) rfl ?_
  intro p e s₀ m args below meth c s₁ B hml hv
  obtain ⟨rfl, ⟨hsz, hP, hK, hD0⟩, hN⟩ := hv
  have hx := B.exec
  have hb := B.bytes
  have hr := B.returns
  have hts := atoms_spec (ws := wz yX12_counts cX12_counts 3 none) B.pre
  have ht : ∀ w ∈ lw_gd, w.before _ s₀ = true := fun w h => hts w (List.mem_cons_of_mem _ h)
  have hown : s₀.vm.findClass RX12 = some m.cls := findClass_of_methodNamed B.named
  have hlocks := B.notSynchronized
  subst hsz
  have hD := hD0.self (sz := s₀.heap.size)
  generalize hAe : va_A (RW D a s) s₀.heap.size = A at hD ⊢
  have hA : ∀ q : Nat, s₀.heap.size ≤ q → A q := fun q h => by rw [← hAe]; exact Or.inr h
  have hS : va_S A s₀.heap s₀.heap [] := va_S.rf
  have hDD : ∀ t : MS, va_D A (RW D a t) := fun t => RW_D t hD
  have hl := lv_entry ([.ref (a 200), .int (i2 p0), .int (i2 p1)]) (n := 3) (Nat.le_of_ble_eq_true rfl)
  rw [lg_entry_eq]
  generalize (lg_sl ([.ref (a 200), .int (i2 p0), .int (i2 p1)]) ++ List.replicate (3 - (lg_sl ([.ref (a 200), .int (i2 p0), .int (i2 p1)])).length) Slot.unset).toArray = ls at hl ⊢
  have hl : lv_has ls 3 [(0, .ref (a 200)), (1, .int (i2 p0)), (2, .int (i2 p1))] := hl
  unfold m_x12_counts at h
  refine lv_aload_n hx hb eX12_countOf_9.2.2.2.2.1 rfl (lv_at hl 0 rfl) ?_
  refine va_get (D := D) (ci := 12) (v := .ref (a 49)) (C := RX12) (T := TX12) (N := 116) hx hb ht inX12 hown hK hP 0 RW_0 rfl 49 (by decide) (ht (.fieldLink RX12 121 "CloneVolumesModel" "now" "[I") fl_X12_121) (fun _ h9 => h9) mF_49 eX12_countOf_9.2.2.2.2.2.1 ?_
  refine lv_bipush (v := 17) hx hb eX12_countOf_9.2.2.2.2.2.2.1 (by decide) ?_
  refine lv_bipush (v := 16) hx hb eX12_countOf_9.2.2.2.2.2.2.2 (by decide) ?_
  refine lv_iload_n hx hb eX12_counts_8.1 rfl (lv_at hl 1 rfl) ?_
  refine lv_imul hx hb eX12_counts_8.2.1 ?_
  refine z_topi (y := i2 (16 * p0)) (i2_mul 16 p0) ?_
  refine lv_iadd hx hb eX12_counts_8.2.2.1 ?_
  refine z_topi (y := i2 (17 + (16 * p0))) (i2_add 17 (16 * p0)) ?_
  refine lv_dup2_11 hx hb eX12_counts_8.2.2.2.1 rfl rfl ?_
  obtain ⟨y1, ey1, iy1, h⟩ := rdI_e h
  refine ya_iald (i := (17 + (16 * p0))) hx hb hK hP 36 0 RW_36 rfl (by decide) ey1 iy1 eX12_counts_8.2.2.2.2.1 ?_
  refine lv_iload_n hx hb eX12_counts_8.2.2.2.2.2.1 rfl (lv_at hl 2 rfl) ?_
  refine lv_iadd hx hb eX12_counts_8.2.2.2.2.2.2.1 ?_
  refine z_topi (y := i2 (y1 + p1)) (i2_add y1 p1) ?_
  obtain ⟨hi2, h⟩ := inb_e h
  refine ya_iast (i := (17 + (16 * p0))) (x := (y1 + p1)) hx hb hK hP (hDD _) hS 36 0 RW_36 rfl (by decide) hi2 eX12_counts_8.2.2.2.2.2.2.2 (RW_w36 _) (fun H locs hP hS => ?_)
  obtain ⟨s3, hs3, h⟩ := st_e h
  rw [hs3] at hP
  obtain rfl := Option.some.inj h
  exact W.vret hx hb hr (fun t ht hW => ⟨⟨(), rfl, trivial, by rw [ht]; exact hP, va_K.moved hW.alike hK, hDD _⟩, hS.F ht⟩) hS.2.2 eX12_counts_16.1
set_option maxHeartbeats 4000000 in
set_option maxRecDepth 100000 in
theorem k_x12_lowers (l : Launch) (D : va_G) (a : Nat → Nat) (p0 : Int) (sz : Nat) (s : MS) (o : MS) (h : m_x12_lowers p0 s = some o) : yWv l yX12_lowers cX12_lowers 4 none { frames := 1, cells := 0, slots := 0, locals := 60 } D sz [.ref (a 200), .int (i2 p0)] (RW D a s) (RW D a o) := by
  refine Met.ofW (cc := cX12_lowers) (maxL := 4) (ret := none) (by decide) rfl ?_
  intro p e s₀ m args below meth c s₁ B hml hv
  obtain ⟨rfl, ⟨hsz, hP, hK, hD0⟩, hN⟩ := hv
  have hx := B.exec
  have hb := B.bytes
  have hr := B.returns
  have hts := atoms_spec (ws := wz yX12_lowers cX12_lowers 4 none) B.pre
  have ht : ∀ w ∈ lw_gd, w.before _ s₀ = true := fun w h => hts w (List.mem_cons_of_mem _ h)
  have hown : s₀.vm.findClass RX12 = some m.cls := findClass_of_methodNamed B.named
  have hlocks := B.notSynchronized
  subst hsz
  have hD := hD0.self (sz := s₀.heap.size)
  generalize hAe : va_A (RW D a s) s₀.heap.size = A at hD ⊢
  have hA : ∀ q : Nat, s₀.heap.size ≤ q → A q := fun q h => by rw [← hAe]; exact Or.inr h
  have hS : va_S A s₀.heap s₀.heap [] := va_S.rf
  have hDD : ∀ t : MS, va_D A (RW D a t) := fun t => RW_D t hD
  have hl := lv_entry ([.ref (a 200), .int (i2 p0)]) (n := 4) (Nat.le_of_ble_eq_true rfl)
  rw [lg_entry_eq]
  generalize (lg_sl ([.ref (a 200), .int (i2 p0)]) ++ List.replicate (4 - (lg_sl ([.ref (a 200), .int (i2 p0)])).length) Slot.unset).toArray = ls at hl ⊢
  have hl : lv_has ls 4 [(0, .ref (a 200)), (1, .int (i2 p0))] := hl
  unfold m_x12_lowers at h
  refine y_head (pcJ := 63) (σ := MS) (fun u H locs ls => va_P D vwCl (RW D a u) H ∧ va_S A s₀.heap H locs ∧ lv_has ls 4 [] ∧ m_x12_lowers_J63 u = some o) (fun u => []) (fun u H locs ls hI => ?_) (fun J63 => ?_)
  · obtain ⟨hP, hS, hl, h⟩ := hI
    obtain ⟨s1, rfl⟩ : ∃ z, z = u := ⟨u, rfl⟩
    have hP : va_P D vwCl (RW D a s1) H := hP
    have hl : lv_has ls 4 [] := hl
    have h : m_x12_lowers_J63 s1 = some o := h
    unfold m_x12_lowers_J63 at h
    obtain rfl := Option.some.inj h
    exact W.vret hx hb hr (fun t ht hW => ⟨⟨(), rfl, trivial, by rw [ht]; exact hP, va_K.moved hW.alike hK, hDD _⟩, hS.F ht⟩) hS.2.2 eX12_lowers_59.2.2.1
  refine y_loop (pcJ := 7) (σ := Int × Int × MS) (fun n u H locs ls => va_P D vwCl (RW D a u.2.2) H ∧ va_S A s₀.heap H locs ∧ lv_has ls 4 [(0, .ref (a 200)), (1, .int (i2 u.1)), (2, .int (i2 u.2.1))] ∧ m_x12_lowers_L7 n u.1 u.2.1 u.2.2 = some o) (fun u => []) (fun u H locs ls hI => by obtain ⟨_, _, _, h⟩ := hI; cases h) (fun n7 ih7 u H locs ls hI => ?_) (fun J7 => ?_)
  · obtain ⟨hP, hS, hl, h⟩ := hI
    obtain ⟨x2, x3, s4⟩ := u
    have hP : va_P D vwCl (RW D a s4) H := hP
    have hl : lv_has ls 4 [(0, .ref (a 200)), (1, .int (i2 x2)), (2, .int (i2 x3))] := hl
    have h : m_x12_lowers_b7 (m_x12_lowers_L7 n7) x2 x3 s4 = some o := h
    unfold m_x12_lowers_b7 at h
    refine y_head (pcJ := 51) (σ := Int × Int × MS) (fun u H locs ls => va_P D vwCl (RW D a u.2.2) H ∧ va_S A s₀.heap H locs ∧ lv_has ls 4 [(0, .ref (a 200)), (1, .int (i2 u.1)), (3, .int (i2 u.2.1))] ∧ m_x12_lowers_J51 (m_x12_lowers_L7 n7) u.1 u.2.1 u.2.2 = some o) (fun u => []) (fun u H locs ls hI => ?_) (fun J51 => ?_)
    · obtain ⟨hP, hS, hl, h⟩ := hI
      obtain ⟨x5, x6, s7⟩ := u
      have hP : va_P D vwCl (RW D a s7) H := hP
      have hl : lv_has ls 4 [(0, .ref (a 200)), (1, .int (i2 x5)), (3, .int (i2 x6))] := hl
      have h : m_x12_lowers_J51 (m_x12_lowers_L7 n7) x5 x6 s7 = some o := h
      unfold m_x12_lowers_J51 at h
      refine lv_aload_n hx hb eX12_lowers_47.2.2.1 rfl (lv_at hl 0 rfl) ?_
      refine va_get (D := D) (ci := 12) (v := .ref (a 49)) (C := RX12) (T := TX12) (N := 116) hx hb ht inX12 hown hK hP 0 RW_0 rfl 49 (by decide) (ht (.fieldLink RX12 121 "CloneVolumesModel" "now" "[I") fl_X12_121) (fun _ h9 => h9) mF_49 eX12_lowers_47.2.2.2.1 ?_
      refine lv_iload_n hx hb eX12_lowers_47.2.2.2.2.1 rfl (lv_at hl 1 rfl) ?_
      refine lv_iload_n hx hb eX12_lowers_47.2.2.2.2.2.1 rfl (lv_at hl 2 rfl) ?_
      obtain ⟨hi8, h⟩ := inb_e h
      refine ya_iast (i := x5) (x := x6) hx hb hK hP (hDD _) hS 36 0 RW_36 rfl (by decide) hi8 eX12_lowers_47.2.2.2.2.2.2.1 (RW_w36 _) (fun H locs hP hS => ?_)
      obtain ⟨s9, hs9, h⟩ := st_e h
      rw [hs9] at hP
      refine lv_iload_n hx hb eX12_lowers_47.2.2.2.2.2.2.2 rfl (lv_at hl 2 rfl) ?_
      refine lv_istore_n (lv' := [(2, .int (i2 x6)), (0, .ref (a 200)), (1, .int (i2 x5)), (3, .int (i2 x6))]) hx hb eX12_lowers_59.1 rfl hl (by decide) rfl (fun ls hl => ?_)
      refine lv_goto (tgt := 7) hx hb eX12_lowers_59.2.1 (by decide) ?_
      exact ih7 (x5, x6, s9) _ _ _ ⟨hP, hS, lv_sub hl [1, 2, 0] rfl, h⟩
    refine lv_aload_n hx hb eX12_lowers_7.1 rfl (lv_at hl 0 rfl) ?_
    refine lv_iload_n hx hb eX12_lowers_7.2.1 rfl (lv_at hl 2 rfl) ?_
    obtain ⟨r11, hc10, h⟩ := bn_e h
    refine ycV (r0 := i2 r11) (As := [.int (i2 x3)]) (rest := []) (C := RX12) (n := 1) ⟨hx, hb, hml, hown, ht⟩ (k_x12_levelOf l D a x3 _ _ hc10) (zgV ml_X12_460 im_X12_levelOf se_X12_levelOf in_X12 co_X12_levelOf) rfl rfl (by decide +kernel) ⟨Nat.le_of_ble_eq_true rfl, Nat.le_of_ble_eq_true rfl⟩ hN hK hP hS 0 RW_0 rfl rfl rfl hl.1 rfl (Nat.le_of_ble_eq_true rfl) eX12_lowers_7.2.2.1 ⟨Nat.le_of_ble_eq_true rfl, Nat.le_of_ble_eq_true rfl⟩ (fun H locs hP hS => ?_)
    obtain ⟨hr12, h⟩ := rg_e h
    refine lv_if_le (tgt := 63) hx hb eX12_lowers_7.2.2.2.1 (by decide) (fun c13 => ?_) (fun c13 => ?_)
    · have h := if_t ((i2_le (x := r11) (y := 0) hr12 (by decide)).mp c13) h
      exact J63 s4 _ _ _ ⟨hP, hS, lv_sub hl [] rfl, h⟩
    · have h := if_f (mt (i2_le (x := r11) (y := 0) hr12 (by decide)).mpr c13) h
      refine lv_aload_n hx hb eX12_lowers_7.2.2.2.2.1 rfl (lv_at hl 0 rfl) ?_
      refine lv_iload_n hx hb eX12_lowers_7.2.2.2.2.2.1 rfl (lv_at hl 2 rfl) ?_
      obtain ⟨r15, hc14, h⟩ := bn_e h
      refine ycV (r0 := i2 r15) (As := [.int (i2 x3)]) (rest := []) (C := RX12) (n := 1) ⟨hx, hb, hml, hown, ht⟩ (k_x12_entriesOf l D a x3 _ _ hc14) (zgV ml_X12_466 im_X12_entriesOf se_X12_entriesOf in_X12 co_X12_entriesOf) rfl rfl (by decide +kernel) ⟨Nat.le_of_ble_eq_true rfl, Nat.le_of_ble_eq_true rfl⟩ hN hK hP hS 0 RW_0 rfl rfl rfl hl.1 rfl (Nat.le_of_ble_eq_true rfl) eX12_lowers_7.2.2.2.2.2.2.1 ⟨Nat.le_of_ble_eq_true rfl, Nat.le_of_ble_eq_true rfl⟩ (fun H locs hP hS => ?_)
      refine lv_iconst (v := 1) hx hb eX12_lowers_7.2.2.2.2.2.2.2 (by decide) ?_
      obtain ⟨hr16, h⟩ := rg_e h
      refine lv_icmp_ne (tgt := 63) hx hb eX12_lowers_21.1 (by decide) (fun c17 => ?_) (fun c17 => ?_)
      · have h := if_f (mt (i2_eq (x := r15) (y := 1) hr16 (by decide)).mpr c17) h
        exact J63 s4 _ _ _ ⟨hP, hS, lv_sub hl [] rfl, h⟩
      · have h := if_t ((i2_eq (x := r15) (y := 1) hr16 (by decide)).mp c17) h
        refine lv_aload_n hx hb eX12_lowers_21.2.1 rfl (lv_at hl 0 rfl) ?_
        refine lv_iload_n hx hb eX12_lowers_21.2.2.1 rfl (lv_at hl 2 rfl) ?_
        refine lv_iconst (v := 0) hx hb eX12_lowers_21.2.2.2.1 (by decide) ?_
        obtain ⟨r19, hc18, h⟩ := bn_e h
        refine ycV (r0 := i2 r19) (As := [.int (i2 x3), .int 0]) (rest := []) (C := RX12) (n := 2) ⟨hx, hb, hml, hown, ht⟩ (k_x12_valueAt l D a x3 0 _ _ hc18) (zgV ml_X12_505 im_X12_valueAt se_X12_valueAt in_X12 co_X12_valueAt) rfl rfl (by decide +kernel) ⟨Nat.le_of_ble_eq_true rfl, Nat.le_of_ble_eq_true rfl⟩ hN hK hP hS 0 RW_0 rfl rfl rfl hl.1 rfl (Nat.le_of_ble_eq_true rfl) eX12_lowers_21.2.2.2.2.1 ⟨Nat.le_of_ble_eq_true rfl, Nat.le_of_ble_eq_true rfl⟩ (fun H locs hP hS => ?_)
        refine lv_istore_n (lv' := [(3, .int (i2 r19)), (0, .ref (a 200)), (1, .int (i2 x2)), (2, .int (i2 x3))]) hx hb eX12_lowers_21.2.2.2.2.2.1 rfl hl (by decide) rfl (fun ls hl => ?_)
        refine lv_aload_n hx hb eX12_lowers_21.2.2.2.2.2.2.1 rfl (lv_at hl 1 rfl) ?_
        refine lv_iload_n hx hb eX12_lowers_21.2.2.2.2.2.2.2 rfl (lv_at hl 3 rfl) ?_
        refine lv_iconst (v := (-1)) hx hb eX12_lowers_33.1 (by decide) ?_
        obtain ⟨s21, hc20, h⟩ := bn_e h
        refine ywVv (As := [.int (i2 x3), .int (-1)]) (rest := []) (C := RX12) (n := 2) (ws' := RW D a s21) ⟨hx, hb, hml, hown, ht⟩ (k_x12_counts l D a x3 (-1) _ _ _ hc20) (zgV ml_X12_502 im_X12_counts se_X12_counts in_X12 co_X12_counts) rfl rfl (by decide +kernel) ⟨Nat.le_of_ble_eq_true rfl, Nat.le_of_ble_eq_true rfl⟩ hN hK hP (hDD _) hS hA 0 RW_0 rfl rfl rfl hl.1 rfl (Nat.le_of_ble_eq_true rfl) eX12_lowers_33.2.1 ⟨Nat.le_of_ble_eq_true rfl, Nat.le_of_ble_eq_true rfl⟩ (fun H locs hP hS => ?_)
        refine lv_aload_n hx hb eX12_lowers_33.2.2.1 rfl (lv_at hl 1 rfl) ?_
        refine lv_iload_n hx hb eX12_lowers_33.2.2.2.1 rfl (lv_at hl 3 rfl) ?_
        obtain ⟨r23, hc22, h⟩ := bn_e h
        refine ycV (r0 := i2 r23) (As := [.int (i2 x3)]) (rest := []) (C := RX12) (n := 1) ⟨hx, hb, hml, hown, ht⟩ (k_x12_countOf l D a x3 _ _ hc22) (zgV ml_X12_432 im_X12_countOf se_X12_countOf in_X12 co_X12_countOf) rfl rfl (by decide +kernel) ⟨Nat.le_of_ble_eq_true rfl, Nat.le_of_ble_eq_true rfl⟩ hN hK hP hS 0 RW_0 rfl rfl rfl hl.1 rfl (Nat.le_of_ble_eq_true rfl) eX12_lowers_33.2.2.2.2.1 ⟨Nat.le_of_ble_eq_true rfl, Nat.le_of_ble_eq_true rfl⟩ (fun H locs hP hS => ?_)
        obtain ⟨hr24, h⟩ := rg_e h
        refine lv_if_le (tgt := 51) hx hb eX12_lowers_33.2.2.2.2.2.1 (by decide) (fun c25 => ?_) (fun c25 => ?_)
        · have h := if_t ((i2_le (x := r23) (y := 0) hr24 (by decide)).mp c25) h
          exact J51 (x2, r19, s21) _ _ _ ⟨hP, hS, lv_sub hl [1, 2, 0] rfl, h⟩
        · have h := if_f (mt (i2_le (x := r23) (y := 0) hr24 (by decide)).mpr c25) h
          refine lv_aload_n hx hb eX12_lowers_33.2.2.2.2.2.2.1 rfl (lv_at hl 1 rfl) ?_
          refine lv_iload_n hx hb eX12_lowers_33.2.2.2.2.2.2.2 rfl (lv_at hl 0 rfl) ?_
          refine lv_iconst (v := 1) hx hb eX12_lowers_47.1 (by decide) ?_
          obtain ⟨s27, hc26, h⟩ := bn_e h
          refine ywVv (As := [.int (i2 r19), .int 1]) (rest := []) (C := RX12) (n := 2) (ws' := RW D a s27) ⟨hx, hb, hml, hown, ht⟩ (k_x12_counts l D a r19 1 _ _ _ hc26) (zgV ml_X12_502 im_X12_counts se_X12_counts in_X12 co_X12_counts) rfl rfl (by decide +kernel) ⟨Nat.le_of_ble_eq_true rfl, Nat.le_of_ble_eq_true rfl⟩ hN hK hP (hDD _) hS hA 0 RW_0 rfl rfl rfl hl.1 rfl (Nat.le_of_ble_eq_true rfl) eX12_lowers_47.2.1 ⟨Nat.le_of_ble_eq_true rfl, Nat.le_of_ble_eq_true rfl⟩ (fun H locs hP hS => ?_)
          exact J51 (x2, r19, s27) _ _ _ ⟨hP, hS, lv_sub hl [1, 2, 0] rfl, h⟩
  refine lv_aload_n hx hb eX12_levelOf_12.2.2.2.1 rfl (lv_at hl 0 rfl) ?_
  refine va_get (D := D) (ci := 12) (v := .ref (a 49)) (C := RX12) (T := TX12) (N := 116) hx hb ht inX12 hown hK hP 0 RW_0 rfl 49 (by decide) (ht (.fieldLink RX12 121 "CloneVolumesModel" "now" "[I") fl_X12_121) (fun _ h9 => h9) mF_49 eX12_levelOf_12.2.2.2.2.1 ?_
  refine lv_iload_n hx hb eX12_levelOf_12.2.2.2.2.2.1 rfl (lv_at hl 1 rfl) ?_
  obtain ⟨y28, ey28, iy28, h⟩ := rdI_e h
  refine ya_iald (i := p0) hx hb hK hP 36 0 RW_36 rfl (by decide) ey28 iy28 eX12_levelOf_12.2.2.2.2.2.2.1 ?_
  refine lv_istore_n (lv' := [(2, .int (i2 y28)), (0, .ref (a 200)), (1, .int (i2 p0))]) hx hb eX12_levelOf_12.2.2.2.2.2.2.2 rfl hl (by decide) rfl (fun ls hl => ?_)
  exact J7 FU (p0, y28, s) _ _ _ ⟨hP, hS, lv_sub hl [1, 2, 0] rfl, h⟩
set_option maxHeartbeats 4000000 in
set_option maxRecDepth 100000 in
theorem k_x12_keyAt (l : Launch) (D : va_G) (a : Nat → Nat) (p0 : Int) (p1 : Int) (s : MS) (o : Int) (h : m_x12_keyAt p0 p1 s = some o) : yRi l yX12_keyAt cX12_keyAt 3 (some .int) { frames := 0, cells := 0, slots := 0, locals := 0 } D [.ref (a 200), .int (i2 p0), .int (i2 p1)] (RW D a s) (i2 o) := by
  refine Met.ofW (cc := cX12_keyAt) (maxL := 3) (ret := (some .int)) (by decide) rfl ?_
  intro p e s₀ m args below meth c s₁ B hml hv
  obtain ⟨rfl, ⟨hP, hK⟩, hN⟩ := hv
  have hx := B.exec
  have hb := B.bytes
  have hr := B.returns
  have hts := atoms_spec (ws := wz yX12_keyAt cX12_keyAt 3 (some .int)) B.pre
  have ht : ∀ w ∈ lw_gd, w.before _ s₀ = true := fun w h => hts w (List.mem_cons_of_mem _ h)
  have hown : s₀.vm.findClass RX12 = some m.cls := findClass_of_methodNamed B.named
  have hlocks := B.notSynchronized
  have hS : va_S (fun _ => False) s₀.heap s₀.heap [] := va_S.rf
  have hl := lv_entry ([.ref (a 200), .int (i2 p0), .int (i2 p1)]) (n := 3) (Nat.le_of_ble_eq_true rfl)
  rw [lg_entry_eq]
  generalize (lg_sl ([.ref (a 200), .int (i2 p0), .int (i2 p1)]) ++ List.replicate (3 - (lg_sl ([.ref (a 200), .int (i2 p0), .int (i2 p1)])).length) Slot.unset).toArray = ls at hl ⊢
  have hl : lv_has ls 3 [(0, .ref (a 200)), (1, .int (i2 p0)), (2, .int (i2 p1))] := hl
  unfold m_x12_keyAt at h
  refine lv_aload_n hx hb eX12_isUsed_9.2.2.2.1 rfl (lv_at hl 0 rfl) ?_
  refine va_get (D := D) (ci := 12) (v := .ref (a 49)) (C := RX12) (T := TX12) (N := 116) hx hb ht inX12 hown hK hP 0 RW_0 rfl 49 (by decide) (ht (.fieldLink RX12 121 "CloneVolumesModel" "now" "[I") fl_X12_121) (fun _ h9 => h9) mF_49 eX12_isUsed_9.2.2.2.2.1 ?_
  refine lv_bipush (v := 17) hx hb eX12_isUsed_9.2.2.2.2.2.1 (by decide) ?_
  refine lv_bipush (v := 16) hx hb eX12_isUsed_9.2.2.2.2.2.2.1 (by decide) ?_
  refine lv_iload_n hx hb eX12_isUsed_9.2.2.2.2.2.2.2 rfl (lv_at hl 1 rfl) ?_
  refine lv_imul hx hb eX12_keyAt_9.1 ?_
  refine z_topi (y := i2 (16 * p0)) (i2_mul 16 p0) ?_
  refine lv_iadd hx hb eX12_keyAt_9.2.1 ?_
  refine z_topi (y := i2 (17 + (16 * p0))) (i2_add 17 (16 * p0)) ?_
  refine lv_iconst (v := 4) hx hb eX12_keyAt_9.2.2.1 (by decide) ?_
  refine lv_iadd hx hb eX12_keyAt_9.2.2.2.1 ?_
  refine z_topi (y := i2 ((17 + (16 * p0)) + 4)) (i2_add (17 + (16 * p0)) 4) ?_
  refine lv_iload_n hx hb eX12_keyAt_9.2.2.2.2.1 rfl (lv_at hl 2 rfl) ?_
  refine lv_iadd hx hb eX12_keyAt_9.2.2.2.2.2.1 ?_
  refine z_topi (y := i2 (((17 + (16 * p0)) + 4) + p1)) (i2_add ((17 + (16 * p0)) + 4) p1) ?_
  obtain ⟨y1, ey1, iy1, h⟩ := rdI_e h
  refine ya_iald (i := (((17 + (16 * p0)) + 4) + p1)) hx hb hK hP 36 0 RW_36 rfl (by decide) ey1 iy1 eX12_keyAt_9.2.2.2.2.2.2.1 ?_
  obtain rfl := Option.some.inj h
  exact W.iret (v := (i2 y1)) hx hb hr (fun t ht hW => ⟨⟨_, (), rfl, rfl, trivial⟩, hS.F ht⟩) hS.2.2 eX12_keyAt_9.2.2.2.2.2.2.2
set_option maxHeartbeats 4000000 in
set_option maxRecDepth 100000 in
theorem k_x12_setsEntry (l : Launch) (D : va_G) (a : Nat → Nat) (p0 : Int) (p1 : Int) (p2 : Int) (p3 : Int) (sz : Nat) (s : MS) (o : MS) (h : m_x12_setsEntry p0 p1 p2 p3 s = some o) : yWv l yX12_setsEntry cX12_setsEntry 5 none { frames := 0, cells := 0, slots := 0, locals := 0 } D sz [.ref (a 200), .int (i2 p0), .int (i2 p1), .int (i2 p2), .int (i2 p3)] (RW D a s) (RW D a o) := by
  refine Met.ofW (cc := cX12_setsEntry) (maxL := 5) (ret := none) (by decide) rfl ?_
  intro p e s₀ m args below meth c s₁ B hml hv
  obtain ⟨rfl, ⟨hsz, hP, hK, hD0⟩, hN⟩ := hv
  have hx := B.exec
  have hb := B.bytes
  have hr := B.returns
  have hts := atoms_spec (ws := wz yX12_setsEntry cX12_setsEntry 5 none) B.pre
  have ht : ∀ w ∈ lw_gd, w.before _ s₀ = true := fun w h => hts w (List.mem_cons_of_mem _ h)
  have hown : s₀.vm.findClass RX12 = some m.cls := findClass_of_methodNamed B.named
  have hlocks := B.notSynchronized
  subst hsz
  have hD := hD0.self (sz := s₀.heap.size)
  generalize hAe : va_A (RW D a s) s₀.heap.size = A at hD ⊢
  have hA : ∀ q : Nat, s₀.heap.size ≤ q → A q := fun q h => by rw [← hAe]; exact Or.inr h
  have hS : va_S A s₀.heap s₀.heap [] := va_S.rf
  have hDD : ∀ t : MS, va_D A (RW D a t) := fun t => RW_D t hD
  have hl := lv_entry ([.ref (a 200), .int (i2 p0), .int (i2 p1), .int (i2 p2), .int (i2 p3)]) (n := 5) (Nat.le_of_ble_eq_true rfl)
  rw [lg_entry_eq]
  generalize (lg_sl ([.ref (a 200), .int (i2 p0), .int (i2 p1), .int (i2 p2), .int (i2 p3)]) ++ List.replicate (5 - (lg_sl ([.ref (a 200), .int (i2 p0), .int (i2 p1), .int (i2 p2), .int (i2 p3)])).length) Slot.unset).toArray = ls at hl ⊢
  have hl : lv_has ls 5 [(0, .ref (a 200)), (1, .int (i2 p0)), (2, .int (i2 p1)), (3, .int (i2 p2)), (4, .int (i2 p3))] := hl
  unfold m_x12_setsEntry at h
  refine lv_aload_n hx hb eX12_savedOf_12.2.2.2.1 rfl (lv_at hl 0 rfl) ?_
  refine va_get (D := D) (ci := 12) (v := .ref (a 49)) (C := RX12) (T := TX12) (N := 116) hx hb ht inX12 hown hK hP 0 RW_0 rfl 49 (by decide) (ht (.fieldLink RX12 121 "CloneVolumesModel" "now" "[I") fl_X12_121) (fun _ h9 => h9) mF_49 eX12_savedOf_12.2.2.2.2.1 ?_
  refine lv_bipush (v := 17) hx hb eX12_savedOf_12.2.2.2.2.2.1 (by decide) ?_
  refine lv_bipush (v := 16) hx hb eX12_savedOf_12.2.2.2.2.2.2.1 (by decide) ?_
  refine lv_iload_n hx hb eX12_savedOf_12.2.2.2.2.2.2.2 rfl (lv_at hl 1 rfl) ?_
  refine lv_imul hx hb eX12_setsEntry_9.1 ?_
  refine z_topi (y := i2 (16 * p0)) (i2_mul 16 p0) ?_
  refine lv_iadd hx hb eX12_setsEntry_9.2.1 ?_
  refine z_topi (y := i2 (17 + (16 * p0))) (i2_add 17 (16 * p0)) ?_
  refine lv_iconst (v := 4) hx hb eX12_setsEntry_9.2.2.1 (by decide) ?_
  refine lv_iadd hx hb eX12_setsEntry_9.2.2.2.1 ?_
  refine z_topi (y := i2 ((17 + (16 * p0)) + 4)) (i2_add (17 + (16 * p0)) 4) ?_
  refine lv_iload_n hx hb eX12_setsEntry_9.2.2.2.2.1 rfl (lv_at hl 2 rfl) ?_
  refine lv_iadd hx hb eX12_setsEntry_9.2.2.2.2.2.1 ?_
  refine z_topi (y := i2 (((17 + (16 * p0)) + 4) + p1)) (i2_add ((17 + (16 * p0)) + 4) p1) ?_
  refine lv_iload_n hx hb eX12_setsEntry_9.2.2.2.2.2.2.1 rfl (lv_at hl 3 rfl) ?_
  obtain ⟨hi1, h⟩ := inb_e h
  refine ya_iast (i := (((17 + (16 * p0)) + 4) + p1)) (x := p2) hx hb hK hP (hDD _) hS 36 0 RW_36 rfl (by decide) hi1 eX12_setsEntry_9.2.2.2.2.2.2.2 (RW_w36 _) (fun H locs hP hS => ?_)
  obtain ⟨s2, hs2, h⟩ := st_e h
  rw [hs2] at hP
  refine lv_aload_n hx hb eX12_setsEntry_17.1 rfl (lv_at hl 0 rfl) ?_
  refine va_get (D := D) (ci := 12) (v := .ref (a 49)) (C := RX12) (T := TX12) (N := 116) hx hb ht inX12 hown hK hP 0 RW_0 rfl 49 (by decide) (ht (.fieldLink RX12 121 "CloneVolumesModel" "now" "[I") fl_X12_121) (fun _ h9 => h9) mF_49 eX12_setsEntry_17.2.1 ?_
  refine lv_bipush (v := 17) hx hb eX12_setsEntry_17.2.2.1 (by decide) ?_
  refine lv_bipush (v := 16) hx hb eX12_setsEntry_17.2.2.2.1 (by decide) ?_
  refine lv_iload_n hx hb eX12_setsEntry_17.2.2.2.2.1 rfl (lv_at hl 1 rfl) ?_
  refine lv_imul hx hb eX12_setsEntry_17.2.2.2.2.2.1 ?_
  refine z_topi (y := i2 (16 * p0)) (i2_mul 16 p0) ?_
  refine lv_iadd hx hb eX12_setsEntry_17.2.2.2.2.2.2.1 ?_
  refine z_topi (y := i2 (17 + (16 * p0))) (i2_add 17 (16 * p0)) ?_
  refine lv_bipush (v := 10) hx hb eX12_setsEntry_17.2.2.2.2.2.2.2 (by decide) ?_
  refine lv_iadd hx hb eX12_setsEntry_30.1 ?_
  refine z_topi (y := i2 ((17 + (16 * p0)) + 10)) (i2_add (17 + (16 * p0)) 10) ?_
  refine lv_iload_n hx hb eX12_setsEntry_30.2.1 rfl (lv_at hl 2 rfl) ?_
  refine lv_iadd hx hb eX12_setsEntry_30.2.2.1 ?_
  refine z_topi (y := i2 (((17 + (16 * p0)) + 10) + p1)) (i2_add ((17 + (16 * p0)) + 10) p1) ?_
  refine lv_iload hx hb eX12_setsEntry_30.2.2.2.1 (lv_at hl 4 rfl) ?_
  obtain ⟨hi3, h⟩ := inb_e h
  refine ya_iast (i := (((17 + (16 * p0)) + 10) + p1)) (x := p3) hx hb hK hP (hDD _) hS 36 0 RW_36 rfl (by decide) hi3 eX12_setsEntry_30.2.2.2.2.1 (RW_w36 _) (fun H locs hP hS => ?_)
  obtain ⟨s4, hs4, h⟩ := st_e h
  rw [hs4] at hP
  refine lv_aload_n hx hb eX12_setsEntry_30.2.2.2.2.2.1 rfl (lv_at hl 0 rfl) ?_
  refine va_get (D := D) (ci := 12) (v := .ref (a 54)) (C := RX12) (T := TX12) (N := 116) hx hb ht inX12 hown hK hP 0 RW_0 rfl 54 (by decide) (ht (.fieldLink RX12 124 "CloneVolumesModel" "isTouched" "[Z") fl_X12_124) (fun _ h9 => h9) mF_54 eX12_setsEntry_30.2.2.2.2.2.2.1 ?_
  refine lv_iload_n hx hb eX12_setsEntry_30.2.2.2.2.2.2.2 rfl (lv_at hl 1 rfl) ?_
  refine lv_iconst (v := 1) hx hb eX12_setsEntry_41.1 (by decide) ?_
  obtain ⟨hi5, h⟩ := inb_e h
  obtain ⟨hb6, h⟩ := bo_e h
  refine ya_zast (i := p0) (x := 1) hx hb hK hP (hDD _) hS 37 3 RW_37 rfl (by decide) hi5 hb6 eX12_setsEntry_41.2.1 (RW_w37 _) (fun H locs hP hS => ?_)
  obtain ⟨s7, hs7, h⟩ := st_e h
  rw [hs7] at hP
  obtain rfl := Option.some.inj h
  exact W.vret hx hb hr (fun t ht hW => ⟨⟨(), rfl, trivial, by rw [ht]; exact hP, va_K.moved hW.alike hK, hDD _⟩, hS.F ht⟩) hS.2.2 eX12_setsEntry_41.2.2.1
set_option maxHeartbeats 4000000 in
set_option maxRecDepth 100000 in
theorem k_x12_cutsEntry (l : Launch) (D : va_G) (a : Nat → Nat) (p0 : Int) (p1 : Int) (sz : Nat) (s : MS) (o : MS) (h : m_x12_cutsEntry p0 p1 s = some o) : yWv l yX12_cutsEntry cX12_cutsEntry 4 none { frames := 1, cells := 0, slots := 0, locals := 60 } D sz [.ref (a 200), .int (i2 p0), .int (i2 p1)] (RW D a s) (RW D a o) := by
  refine Met.ofW (cc := cX12_cutsEntry) (maxL := 4) (ret := none) (by decide) rfl ?_
  intro p e s₀ m args below meth c s₁ B hml hv
  obtain ⟨rfl, ⟨hsz, hP, hK, hD0⟩, hN⟩ := hv
  have hx := B.exec
  have hb := B.bytes
  have hr := B.returns
  have hts := atoms_spec (ws := wz yX12_cutsEntry cX12_cutsEntry 4 none) B.pre
  have ht : ∀ w ∈ lw_gd, w.before _ s₀ = true := fun w h => hts w (List.mem_cons_of_mem _ h)
  have hown : s₀.vm.findClass RX12 = some m.cls := findClass_of_methodNamed B.named
  have hlocks := B.notSynchronized
  subst hsz
  have hD := hD0.self (sz := s₀.heap.size)
  generalize hAe : va_A (RW D a s) s₀.heap.size = A at hD ⊢
  have hA : ∀ q : Nat, s₀.heap.size ≤ q → A q := fun q h => by rw [← hAe]; exact Or.inr h
  have hS : va_S A s₀.heap s₀.heap [] := va_S.rf
  have hDD : ∀ t : MS, va_D A (RW D a t) := fun t => RW_D t hD
  have hl := lv_entry ([.ref (a 200), .int (i2 p0), .int (i2 p1)]) (n := 4) (Nat.le_of_ble_eq_true rfl)
  rw [lg_entry_eq]
  generalize (lg_sl ([.ref (a 200), .int (i2 p0), .int (i2 p1)]) ++ List.replicate (4 - (lg_sl ([.ref (a 200), .int (i2 p0), .int (i2 p1)])).length) Slot.unset).toArray = ls at hl ⊢
  have hl : lv_has ls 4 [(0, .ref (a 200)), (1, .int (i2 p0)), (2, .int (i2 p1))] := hl
  unfold m_x12_cutsEntry at h
  refine y_loop (pcJ := 2) (σ := Int × Int × MS) (fun n u H locs ls => va_P D vwCl (RW D a u.2.2) H ∧ va_S A s₀.heap H locs ∧ lv_has ls 4 [(0, .ref (a 200)), (1, .int (i2 u.1)), (3, .int (i2 u.2.1))] ∧ m_x12_cutsEntry_L2 n u.1 u.2.1 u.2.2 = some o) (fun u => []) (fun u H locs ls hI => by obtain ⟨_, _, _, h⟩ := hI; cases h) (fun n2 ih2 u H locs ls hI => ?_) (fun J2 => ?_)
  · obtain ⟨hP, hS, hl, h⟩ := hI
    obtain ⟨x1, x2, s3⟩ := u
    have hP : va_P D vwCl (RW D a s3) H := hP
    have hl : lv_has ls 4 [(0, .ref (a 200)), (1, .int (i2 x1)), (3, .int (i2 x2))] := hl
    have h : m_x12_cutsEntry_b2 (m_x12_cutsEntry_L2 n2) x1 x2 s3 = some o := h
    unfold m_x12_cutsEntry_b2 at h
    refine lv_iload_n hx hb eX12_counts_16.2.2.2.1 rfl (lv_at hl 2 rfl) ?_
    refine lv_aload_n hx hb eX12_counts_16.2.2.2.2.1 rfl (lv_at hl 0 rfl) ?_
    refine lv_iload_n hx hb eX12_counts_16.2.2.2.2.2.1 rfl (lv_at hl 1 rfl) ?_
    obtain ⟨r5, hc4, h⟩ := bn_e h
    refine ycV (r0 := i2 r5) (As := [.int (i2 x1)]) (rest := [.int (i2 x2)]) (C := RX12) (n := 1) ⟨hx, hb, hml, hown, ht⟩ (k_x12_entriesOf l D a x1 _ _ hc4) (zgV ml_X12_466 im_X12_entriesOf se_X12_entriesOf in_X12 co_X12_entriesOf) rfl rfl (by decide +kernel) ⟨Nat.le_of_ble_eq_true rfl, Nat.le_of_ble_eq_true rfl⟩ hN hK hP hS 0 RW_0 rfl rfl rfl hl.1 rfl (Nat.le_of_ble_eq_true rfl) eX12_counts_16.2.2.2.2.2.2.1 ⟨Nat.le_of_ble_eq_true rfl, Nat.le_of_ble_eq_true rfl⟩ (fun H locs hP hS => ?_)
    refine lv_iconst (v := 1) hx hb eX12_counts_16.2.2.2.2.2.2.2 (by decide) ?_
    refine lv_isub hx hb eX12_cutsEntry_9.1 ?_
    refine z_topi (y := i2 (r5 - 1)) (i2_sub r5 1) ?_
    obtain ⟨hr6, h⟩ := rg_e h
    obtain ⟨hr7, h⟩ := rg_e h
    refine lv_icmp_ge (tgt := 41) hx hb eX12_cutsEntry_9.2.1 (by decide) (fun c8 => ?_) (fun c8 => ?_)
    · have h := if_t ((i2_le (x := (r5 - 1)) (y := x2) hr7 hr6).mp c8) h
      refine lv_aload_n hx hb eX12_cutsEntry_29.2.2.2.2.1 rfl (lv_at hl 0 rfl) ?_
      refine va_get (D := D) (ci := 12) (v := .ref (a 49)) (C := RX12) (T := TX12) (N := 116) hx hb ht inX12 hown hK hP 0 RW_0 rfl 49 (by decide) (ht (.fieldLink RX12 121 "CloneVolumesModel" "now" "[I") fl_X12_121) (fun _ h9 => h9) mF_49 eX12_cutsEntry_29.2.2.2.2.2.1 ?_
      refine lv_bipush (v := 17) hx hb eX12_cutsEntry_29.2.2.2.2.2.2.1 (by decide) ?_
      refine lv_bipush (v := 16) hx hb eX12_cutsEntry_29.2.2.2.2.2.2.2 (by decide) ?_
      refine lv_iload_n hx hb eX12_cutsEntry_49.1 rfl (lv_at hl 1 rfl) ?_
      refine lv_imul hx hb eX12_cutsEntry_49.2.1 ?_
      refine z_topi (y := i2 (16 * x1)) (i2_mul 16 x1) ?_
      refine lv_iadd hx hb eX12_cutsEntry_49.2.2.1 ?_
      refine z_topi (y := i2 (17 + (16 * x1))) (i2_add 17 (16 * x1)) ?_
      refine lv_iconst (v := 3) hx hb eX12_cutsEntry_49.2.2.2.1 (by decide) ?_
      refine lv_iadd hx hb eX12_cutsEntry_49.2.2.2.2.1 ?_
      refine z_topi (y := i2 ((17 + (16 * x1)) + 3)) (i2_add (17 + (16 * x1)) 3) ?_
      refine lv_dup2_11 hx hb eX12_cutsEntry_49.2.2.2.2.2.1 rfl rfl ?_
      obtain ⟨y9, ey9, iy9, h⟩ := rdI_e h
      refine ya_iald (i := ((17 + (16 * x1)) + 3)) hx hb hK hP 36 0 RW_36 rfl (by decide) ey9 iy9 eX12_cutsEntry_49.2.2.2.2.2.2.1 ?_
      refine lv_iconst (v := 1) hx hb eX12_cutsEntry_49.2.2.2.2.2.2.2 (by decide) ?_
      refine lv_isub hx hb eX12_cutsEntry_57.1 ?_
      refine z_topi (y := i2 (y9 - 1)) (i2_sub y9 1) ?_
      obtain ⟨hi10, h⟩ := inb_e h
      refine ya_iast (i := ((17 + (16 * x1)) + 3)) (x := (y9 - 1)) hx hb hK hP (hDD _) hS 36 0 RW_36 rfl (by decide) hi10 eX12_cutsEntry_57.2.1 (RW_w36 _) (fun H locs hP hS => ?_)
      obtain ⟨s11, hs11, h⟩ := st_e h
      rw [hs11] at hP
      refine lv_aload_n hx hb eX12_cutsEntry_57.2.2.1 rfl (lv_at hl 0 rfl) ?_
      refine va_get (D := D) (ci := 12) (v := .ref (a 54)) (C := RX12) (T := TX12) (N := 116) hx hb ht inX12 hown hK hP 0 RW_0 rfl 54 (by decide) (ht (.fieldLink RX12 124 "CloneVolumesModel" "isTouched" "[Z") fl_X12_124) (fun _ h9 => h9) mF_54 eX12_cutsEntry_57.2.2.2.1 ?_
      refine lv_iload_n hx hb eX12_cutsEntry_57.2.2.2.2.1 rfl (lv_at hl 1 rfl) ?_
      refine lv_iconst (v := 1) hx hb eX12_cutsEntry_57.2.2.2.2.2.1 (by decide) ?_
      obtain ⟨hi12, h⟩ := inb_e h
      obtain ⟨hb13, h⟩ := bo_e h
      refine ya_zast (i := x1) (x := 1) hx hb hK hP (hDD _) hS 37 3 RW_37 rfl (by decide) hi12 hb13 eX12_cutsEntry_57.2.2.2.2.2.2.1 (RW_w37 _) (fun H locs hP hS => ?_)
      obtain ⟨s14, hs14, h⟩ := st_e h
      rw [hs14] at hP
      obtain rfl := Option.some.inj h
      exact W.vret hx hb hr (fun t ht hW => ⟨⟨(), rfl, trivial, by rw [ht]; exact hP, va_K.moved hW.alike hK, hDD _⟩, hS.F ht⟩) hS.2.2 eX12_cutsEntry_57.2.2.2.2.2.2.2
    · have h := if_f (mt (i2_le (x := (r5 - 1)) (y := x2) hr7 hr6).mpr c8) h
      refine lv_aload_n hx hb eX12_cutsEntry_9.2.2.1 rfl (lv_at hl 0 rfl) ?_
      refine lv_iload_n hx hb eX12_cutsEntry_9.2.2.2.1 rfl (lv_at hl 1 rfl) ?_
      refine lv_iload_n hx hb eX12_cutsEntry_9.2.2.2.2.1 rfl (lv_at hl 2 rfl) ?_
      refine lv_aload_n hx hb eX12_cutsEntry_9.2.2.2.2.2.1 rfl (lv_at hl 0 rfl) ?_
      refine lv_iload_n hx hb eX12_cutsEntry_9.2.2.2.2.2.2.1 rfl (lv_at hl 1 rfl) ?_
      refine lv_iload_n hx hb eX12_cutsEntry_9.2.2.2.2.2.2.2 rfl (lv_at hl 2 rfl) ?_
      refine lv_iconst (v := 1) hx hb eX12_cutsEntry_19.1 (by decide) ?_
      refine lv_iadd hx hb eX12_cutsEntry_19.2.1 ?_
      refine z_topi (y := i2 (x2 + 1)) (i2_add x2 1) ?_
      obtain ⟨r16, hc15, h⟩ := bn_e h
      refine ycV (r0 := i2 r16) (As := [.int (i2 x1), .int (i2 (x2 + 1))]) (rest := [.int (i2 x2), .int (i2 x1), .ref (a 200)]) (C := RX12) (n := 2) ⟨hx, hb, hml, hown, ht⟩ (k_x12_keyAt l D a x1 (x2 + 1) _ _ hc15) (zgV ml_X12_517 im_X12_keyAt se_X12_keyAt in_X12 co_X12_keyAt) rfl rfl (by decide +kernel) ⟨Nat.le_of_ble_eq_true rfl, Nat.le_of_ble_eq_true rfl⟩ hN hK hP hS 0 RW_0 rfl rfl rfl hl.1 rfl (Nat.le_of_ble_eq_true rfl) eX12_cutsEntry_19.2.2.1 ⟨Nat.le_of_ble_eq_true rfl, Nat.le_of_ble_eq_true rfl⟩ (fun H locs hP hS => ?_)
      refine lv_aload_n hx hb eX12_cutsEntry_19.2.2.2.1 rfl (lv_at hl 0 rfl) ?_
      refine lv_iload_n hx hb eX12_cutsEntry_19.2.2.2.2.1 rfl (lv_at hl 1 rfl) ?_
      refine lv_iload_n hx hb eX12_cutsEntry_19.2.2.2.2.2.1 rfl (lv_at hl 2 rfl) ?_
      refine lv_iconst (v := 1) hx hb eX12_cutsEntry_19.2.2.2.2.2.2.1 (by decide) ?_
      refine lv_iadd hx hb eX12_cutsEntry_19.2.2.2.2.2.2.2 ?_
      refine z_topi (y := i2 (x2 + 1)) (i2_add x2 1) ?_
      obtain ⟨r18, hc17, h⟩ := bn_e h
      refine ycV (r0 := i2 r18) (As := [.int (i2 x1), .int (i2 (x2 + 1))]) (rest := [.int (i2 r16), .int (i2 x2), .int (i2 x1), .ref (a 200)]) (C := RX12) (n := 2) ⟨hx, hb, hml, hown, ht⟩ (k_x12_valueAt l D a x1 (x2 + 1) _ _ hc17) (zgV ml_X12_505 im_X12_valueAt se_X12_valueAt in_X12 co_X12_valueAt) rfl rfl (by decide +kernel) ⟨Nat.le_of_ble_eq_true rfl, Nat.le_of_ble_eq_true rfl⟩ hN hK hP hS 0 RW_0 rfl rfl rfl hl.1 rfl (Nat.le_of_ble_eq_true rfl) eX12_cutsEntry_29.1 ⟨Nat.le_of_ble_eq_true rfl, Nat.le_of_ble_eq_true rfl⟩ (fun H locs hP hS => ?_)
      obtain ⟨s20, hc19, h⟩ := bn_e h
      refine ywVv (As := [.int (i2 x1), .int (i2 x2), .int (i2 r16), .int (i2 r18)]) (rest := []) (C := RX12) (n := 4) (ws' := RW D a s20) ⟨hx, hb, hml, hown, ht⟩ (k_x12_setsEntry l D a x1 x2 r16 r18 _ _ _ hc19) (zgV ml_X12_520 im_X12_setsEntry se_X12_setsEntry in_X12 co_X12_setsEntry) rfl rfl (by decide +kernel) ⟨Nat.le_of_ble_eq_true rfl, Nat.le_of_ble_eq_true rfl⟩ hN hK hP (hDD _) hS hA 0 RW_0 rfl rfl rfl hl.1 rfl (Nat.le_of_ble_eq_true rfl) eX12_cutsEntry_29.2.1 ⟨Nat.le_of_ble_eq_true rfl, Nat.le_of_ble_eq_true rfl⟩ (fun H locs hP hS => ?_)
      refine lv_iinc (v := i2 (x2 + 1)) (lv' := [(3, .int (i2 (x2 + 1))), (0, .ref (a 200)), (1, .int (i2 x1))]) hx hb eX12_cutsEntry_29.2.2.1 hl (k := 2) rfl (i2_add x2 1) (by decide) rfl (fun ls hl => ?_)
      refine lv_goto (tgt := 2) hx hb eX12_cutsEntry_29.2.2.2.1 (by decide) ?_
      exact ih2 (x1, x2 + 1, s20) _ _ _ ⟨hP, hS, lv_sub hl [1, 2, 0] rfl, h⟩
  refine lv_iload_n hx hb eX12_counts_16.2.1 rfl (lv_at hl 2 rfl) ?_
  refine lv_istore_n (lv' := [(3, .int (i2 p1)), (0, .ref (a 200)), (1, .int (i2 p0)), (2, .int (i2 p1))]) hx hb eX12_counts_16.2.2.1 rfl hl (by decide) rfl (fun ls hl => ?_)
  exact J2 FU (p0, p1, s) _ _ _ ⟨hP, hS, lv_sub hl [1, 2, 0] rfl, h⟩
set_option maxHeartbeats 4000000 in
set_option maxRecDepth 100000 in
theorem k_x12_placeIn (l : Launch) (D : va_G) (a : Nat → Nat) (p0 : Int) (p1 : Int) (s : MS) (o : Int) (h : m_x12_placeIn p0 p1 s = some o) : yRi l yX12_placeIn cX12_placeIn 4 (some .int) { frames := 1, cells := 0, slots := 0, locals := 60 } D [.ref (a 200), .int (i2 p0), .int (i2 p1)] (RW D a s) (i2 o) := by
  refine Met.ofW (cc := cX12_placeIn) (maxL := 4) (ret := (some .int)) (by decide) rfl ?_
  intro p e s₀ m args below meth c s₁ B hml hv
  obtain ⟨rfl, ⟨hP, hK⟩, hN⟩ := hv
  have hx := B.exec
  have hb := B.bytes
  have hr := B.returns
  have hts := atoms_spec (ws := wz yX12_placeIn cX12_placeIn 4 (some .int)) B.pre
  have ht : ∀ w ∈ lw_gd, w.before _ s₀ = true := fun w h => hts w (List.mem_cons_of_mem _ h)
  have hown : s₀.vm.findClass RX12 = some m.cls := findClass_of_methodNamed B.named
  have hlocks := B.notSynchronized
  have hS : va_S (fun _ => False) s₀.heap s₀.heap [] := va_S.rf
  have hl := lv_entry ([.ref (a 200), .int (i2 p0), .int (i2 p1)]) (n := 4) (Nat.le_of_ble_eq_true rfl)
  rw [lg_entry_eq]
  generalize (lg_sl ([.ref (a 200), .int (i2 p0), .int (i2 p1)]) ++ List.replicate (4 - (lg_sl ([.ref (a 200), .int (i2 p0), .int (i2 p1)])).length) Slot.unset).toArray = ls at hl ⊢
  have hl : lv_has ls 4 [(0, .ref (a 200)), (1, .int (i2 p0)), (2, .int (i2 p1))] := hl
  unfold m_x12_placeIn at h
  refine y_head (pcJ := 27) (σ := Int) (fun u H locs ls => va_P D vwCl (RW D a s) H ∧ va_S (fun _ => False) s₀.heap H locs ∧ lv_has ls 4 [(3, .int (i2 u))] ∧ m_x12_placeIn_J27 s u = some o) (fun u => []) (fun u H locs ls hI => ?_) (fun J27 => ?_)
  · obtain ⟨hP, hS, hl, h⟩ := hI
    obtain ⟨x1, rfl⟩ : ∃ z, z = u := ⟨u, rfl⟩
    have hP : va_P D vwCl (RW D a s) H := hP
    have hl : lv_has ls 4 [(3, .int (i2 x1))] := hl
    have h : m_x12_placeIn_J27 s x1 = some o := h
    unfold m_x12_placeIn_J27 at h
    refine lv_iload_n hx hb eX12_placeIn_12.2.2.2.2.2.2.2 rfl (lv_at hl 0 rfl) ?_
    obtain rfl := Option.some.inj h
    exact W.iret (v := (i2 x1)) hx hb hr (fun t ht hW => ⟨⟨_, (), rfl, rfl, trivial⟩, hS.F ht⟩) hS.2.2 eX12_placeIn_28.1
  refine y_loop (pcJ := 2) (σ := Int × Int × Int) (fun n u H locs ls => va_P D vwCl (RW D a s) H ∧ va_S (fun _ => False) s₀.heap H locs ∧ lv_has ls 4 [(0, .ref (a 200)), (1, .int (i2 u.1)), (2, .int (i2 u.2.1)), (3, .int (i2 u.2.2))] ∧ m_x12_placeIn_L2 s n u.1 u.2.1 u.2.2 = some o) (fun u => []) (fun u H locs ls hI => by obtain ⟨_, _, _, h⟩ := hI; cases h) (fun n2 ih2 u H locs ls hI => ?_) (fun J2 => ?_)
  · obtain ⟨hP, hS, hl, h⟩ := hI
    obtain ⟨x2, x3, x4⟩ := u
    have hP : va_P D vwCl (RW D a s) H := hP
    have hl : lv_has ls 4 [(0, .ref (a 200)), (1, .int (i2 x2)), (2, .int (i2 x3)), (3, .int (i2 x4))] := hl
    have h : m_x12_placeIn_b2 s (m_x12_placeIn_L2 s n2) x2 x3 x4 = some o := h
    unfold m_x12_placeIn_b2 at h
    refine lv_iload_n hx hb eX12_placeIn_0.2.2.1 rfl (lv_at hl 3 rfl) ?_
    refine lv_aload_n hx hb eX12_placeIn_0.2.2.2.1 rfl (lv_at hl 0 rfl) ?_
    refine lv_iload_n hx hb eX12_placeIn_0.2.2.2.2.1 rfl (lv_at hl 1 rfl) ?_
    obtain ⟨r6, hc5, h⟩ := bn_e h
    refine ycV (r0 := i2 r6) (As := [.int (i2 x2)]) (rest := [.int (i2 x4)]) (C := RX12) (n := 1) ⟨hx, hb, hml, hown, ht⟩ (k_x12_entriesOf l D a x2 _ _ hc5) (zgV ml_X12_466 im_X12_entriesOf se_X12_entriesOf in_X12 co_X12_entriesOf) rfl rfl (by decide +kernel) ⟨Nat.le_of_ble_eq_true rfl, Nat.le_of_ble_eq_true rfl⟩ hN hK hP hS 0 RW_0 rfl rfl rfl hl.1 rfl (Nat.le_of_ble_eq_true rfl) eX12_placeIn_0.2.2.2.2.2.1 ⟨Nat.le_of_ble_eq_true rfl, Nat.le_of_ble_eq_true rfl⟩ (fun H locs hP hS => ?_)
    obtain ⟨hr7, h⟩ := rg_e h
    obtain ⟨hr8, h⟩ := rg_e h
    refine lv_icmp_ge (tgt := 27) hx hb eX12_placeIn_0.2.2.2.2.2.2.1 (by decide) (fun c9 => ?_) (fun c9 => ?_)
    · have h := if_t ((i2_le (x := r6) (y := x4) hr8 hr7).mp c9) h
      exact J27 x4 _ _ _ ⟨hP, hS, lv_sub hl [3] rfl, h⟩
    · have h := if_f (mt (i2_le (x := r6) (y := x4) hr8 hr7).mpr c9) h
      refine lv_aload_n hx hb eX12_placeIn_0.2.2.2.2.2.2.2 rfl (lv_at hl 0 rfl) ?_
      refine lv_iload_n hx hb eX12_placeIn_12.1 rfl (lv_at hl 1 rfl) ?_
      refine lv_iload_n hx hb eX12_placeIn_12.2.1 rfl (lv_at hl 3 rfl) ?_
      obtain ⟨r11, hc10, h⟩ := bn_e h
      refine ycV (r0 := i2 r11) (As := [.int (i2 x2), .int (i2 x4)]) (rest := []) (C := RX12) (n := 2) ⟨hx, hb, hml, hown, ht⟩ (k_x12_keyAt l D a x2 x4 _ _ hc10) (zgV ml_X12_517 im_X12_keyAt se_X12_keyAt in_X12 co_X12_keyAt) rfl rfl (by decide +kernel) ⟨Nat.le_of_ble_eq_true rfl, Nat.le_of_ble_eq_true rfl⟩ hN hK hP hS 0 RW_0 rfl rfl rfl hl.1 rfl (Nat.le_of_ble_eq_true rfl) eX12_placeIn_12.2.2.1 ⟨Nat.le_of_ble_eq_true rfl, Nat.le_of_ble_eq_true rfl⟩ (fun H locs hP hS => ?_)
      refine lv_iload_n hx hb eX12_placeIn_12.2.2.2.1 rfl (lv_at hl 2 rfl) ?_
      obtain ⟨hr12, h⟩ := rg_e h
      obtain ⟨hr13, h⟩ := rg_e h
      refine lv_icmp_ge (tgt := 27) hx hb eX12_placeIn_12.2.2.2.2.1 (by decide) (fun c14 => ?_) (fun c14 => ?_)
      · have h := if_t ((i2_le (x := x3) (y := r11) hr13 hr12).mp c14) h
        exact J27 x4 _ _ _ ⟨hP, hS, lv_sub hl [3] rfl, h⟩
      · have h := if_f (mt (i2_le (x := x3) (y := r11) hr13 hr12).mpr c14) h
        refine lv_iinc (v := i2 (x4 + 1)) (lv' := [(3, .int (i2 (x4 + 1))), (0, .ref (a 200)), (1, .int (i2 x2)), (2, .int (i2 x3))]) hx hb eX12_placeIn_12.2.2.2.2.2.1 hl (k := 3) rfl (i2_add x4 1) (by decide) rfl (fun ls hl => ?_)
        refine lv_goto (tgt := 2) hx hb eX12_placeIn_12.2.2.2.2.2.2.1 (by decide) ?_
        exact ih2 (x2, x3, x4 + 1) _ _ _ ⟨hP, hS, lv_sub hl [1, 2, 3, 0] rfl, h⟩
  refine lv_iconst (v := 0) hx hb eX12_placeIn_0.1 (by decide) ?_
  refine lv_istore_n (lv' := [(3, .int 0), (0, .ref (a 200)), (1, .int (i2 p0)), (2, .int (i2 p1))]) hx hb eX12_placeIn_0.2.1 rfl hl (by decide) rfl (fun ls hl => ?_)
  exact J2 FU (p0, p1, 0) _ _ _ ⟨hP, hS, lv_sub hl [1, 2, 3, 0] rfl, h⟩
set_option maxHeartbeats 4000000 in
set_option maxRecDepth 100000 in
theorem k_x12_placeFor (l : Launch) (D : va_G) (a : Nat → Nat) (p0 : Int) (p1 : Int) (s : MS) (o : Int) (h : m_x12_placeFor p0 p1 s = some o) : yRi l yX12_placeFor cX12_placeFor 4 (some .int) { frames := 1, cells := 0, slots := 0, locals := 60 } D [.ref (a 200), .int (i2 p0), .int (i2 p1)] (RW D a s) (i2 o) := by
  refine Met.ofW (cc := cX12_placeFor) (maxL := 4) (ret := (some .int)) (by decide) rfl ?_
  intro p e s₀ m args below meth c s₁ B hml hv
  obtain ⟨rfl, ⟨hP, hK⟩, hN⟩ := hv
  have hx := B.exec
  have hb := B.bytes
  have hr := B.returns
  have hts := atoms_spec (ws := wz yX12_placeFor cX12_placeFor 4 (some .int)) B.pre
  have ht : ∀ w ∈ lw_gd, w.before _ s₀ = true := fun w h => hts w (List.mem_cons_of_mem _ h)
  have hown : s₀.vm.findClass RX12 = some m.cls := findClass_of_methodNamed B.named
  have hlocks := B.notSynchronized
  have hS : va_S (fun _ => False) s₀.heap s₀.heap [] := va_S.rf
  have hl := lv_entry ([.ref (a 200), .int (i2 p0), .int (i2 p1)]) (n := 4) (Nat.le_of_ble_eq_true rfl)
  rw [lg_entry_eq]
  generalize (lg_sl ([.ref (a 200), .int (i2 p0), .int (i2 p1)]) ++ List.replicate (4 - (lg_sl ([.ref (a 200), .int (i2 p0), .int (i2 p1)])).length) Slot.unset).toArray = ls at hl ⊢
  have hl : lv_has ls 4 [(0, .ref (a 200)), (1, .int (i2 p0)), (2, .int (i2 p1))] := hl
  unfold m_x12_placeFor at h
  refine y_head (pcJ := 31) (σ := Int) (fun u H locs ls => va_P D vwCl (RW D a s) H ∧ va_S (fun _ => False) s₀.heap H locs ∧ lv_has ls 4 [(3, .int (i2 u))] ∧ m_x12_placeFor_J31 s u = some o) (fun u => []) (fun u H locs ls hI => ?_) (fun J31 => ?_)
  · obtain ⟨hP, hS, hl, h⟩ := hI
    obtain ⟨x1, rfl⟩ : ∃ z, z = u := ⟨u, rfl⟩
    have hP : va_P D vwCl (RW D a s) H := hP
    have hl : lv_has ls 4 [(3, .int (i2 x1))] := hl
    have h : m_x12_placeFor_J31 s x1 = some o := h
    unfold m_x12_placeFor_J31 at h
    refine lv_iload_n hx hb eX12_placeFor_17.2.2.2.2.2.2.1 rfl (lv_at hl 0 rfl) ?_
    obtain rfl := Option.some.inj h
    exact W.iret (v := (i2 x1)) hx hb hr (fun t ht hW => ⟨⟨_, (), rfl, rfl, trivial⟩, hS.F ht⟩) hS.2.2 eX12_placeFor_17.2.2.2.2.2.2.2
  refine y_loop (pcJ := 2) (σ := Int × Int × Int) (fun n u H locs ls => va_P D vwCl (RW D a s) H ∧ va_S (fun _ => False) s₀.heap H locs ∧ lv_has ls 4 [(0, .ref (a 200)), (1, .int (i2 u.1)), (2, .int (i2 u.2.1)), (3, .int (i2 u.2.2))] ∧ m_x12_placeFor_L2 s n u.1 u.2.1 u.2.2 = some o) (fun u => []) (fun u H locs ls hI => by obtain ⟨_, _, _, h⟩ := hI; cases h) (fun n2 ih2 u H locs ls hI => ?_) (fun J2 => ?_)
  · obtain ⟨hP, hS, hl, h⟩ := hI
    obtain ⟨x2, x3, x4⟩ := u
    have hP : va_P D vwCl (RW D a s) H := hP
    have hl : lv_has ls 4 [(0, .ref (a 200)), (1, .int (i2 x2)), (2, .int (i2 x3)), (3, .int (i2 x4))] := hl
    have h : m_x12_placeFor_b2 s (m_x12_placeFor_L2 s n2) x2 x3 x4 = some o := h
    unfold m_x12_placeFor_b2 at h
    refine lv_iload_n hx hb eX12_lowers_59.2.2.2.2.2.1 rfl (lv_at hl 3 rfl) ?_
    refine lv_iconst (v := 1) hx hb eX12_lowers_59.2.2.2.2.2.2.1 (by decide) ?_
    refine lv_iadd hx hb eX12_lowers_59.2.2.2.2.2.2.2 ?_
    refine z_topi (y := i2 (x4 + 1)) (i2_add x4 1) ?_
    refine lv_aload_n hx hb eX12_placeFor_5.1 rfl (lv_at hl 0 rfl) ?_
    refine lv_iload_n hx hb eX12_placeFor_5.2.1 rfl (lv_at hl 1 rfl) ?_
    obtain ⟨r6, hc5, h⟩ := bn_e h
    refine ycV (r0 := i2 r6) (As := [.int (i2 x2)]) (rest := [.int (i2 (x4 + 1))]) (C := RX12) (n := 1) ⟨hx, hb, hml, hown, ht⟩ (k_x12_entriesOf l D a x2 _ _ hc5) (zgV ml_X12_466 im_X12_entriesOf se_X12_entriesOf in_X12 co_X12_entriesOf) rfl rfl (by decide +kernel) ⟨Nat.le_of_ble_eq_true rfl, Nat.le_of_ble_eq_true rfl⟩ hN hK hP hS 0 RW_0 rfl rfl rfl hl.1 rfl (Nat.le_of_ble_eq_true rfl) eX12_placeFor_5.2.2.1 ⟨Nat.le_of_ble_eq_true rfl, Nat.le_of_ble_eq_true rfl⟩ (fun H locs hP hS => ?_)
    obtain ⟨hr7, h⟩ := rg_e h
    obtain ⟨hr8, h⟩ := rg_e h
    refine lv_icmp_ge (tgt := 31) hx hb eX12_placeFor_5.2.2.2.1 (by decide) (fun c9 => ?_) (fun c9 => ?_)
    · have h := if_t ((i2_le (x := r6) (y := (x4 + 1)) hr8 hr7).mp c9) h
      exact J31 x4 _ _ _ ⟨hP, hS, lv_sub hl [3] rfl, h⟩
    · have h := if_f (mt (i2_le (x := r6) (y := (x4 + 1)) hr8 hr7).mpr c9) h
      refine lv_aload_n hx hb eX12_placeFor_5.2.2.2.2.1 rfl (lv_at hl 0 rfl) ?_
      refine lv_iload_n hx hb eX12_placeFor_5.2.2.2.2.2.1 rfl (lv_at hl 1 rfl) ?_
      refine lv_iload_n hx hb eX12_placeFor_5.2.2.2.2.2.2.1 rfl (lv_at hl 3 rfl) ?_
      refine lv_iconst (v := 1) hx hb eX12_placeFor_5.2.2.2.2.2.2.2 (by decide) ?_
      refine lv_iadd hx hb eX12_placeFor_17.1 ?_
      refine z_topi (y := i2 (x4 + 1)) (i2_add x4 1) ?_
      obtain ⟨r11, hc10, h⟩ := bn_e h
      refine ycV (r0 := i2 r11) (As := [.int (i2 x2), .int (i2 (x4 + 1))]) (rest := []) (C := RX12) (n := 2) ⟨hx, hb, hml, hown, ht⟩ (k_x12_keyAt l D a x2 (x4 + 1) _ _ hc10) (zgV ml_X12_517 im_X12_keyAt se_X12_keyAt in_X12 co_X12_keyAt) rfl rfl (by decide +kernel) ⟨Nat.le_of_ble_eq_true rfl, Nat.le_of_ble_eq_true rfl⟩ hN hK hP hS 0 RW_0 rfl rfl rfl hl.1 rfl (Nat.le_of_ble_eq_true rfl) eX12_placeFor_17.2.1 ⟨Nat.le_of_ble_eq_true rfl, Nat.le_of_ble_eq_true rfl⟩ (fun H locs hP hS => ?_)
      refine lv_iload_n hx hb eX12_placeFor_17.2.2.1 rfl (lv_at hl 2 rfl) ?_
      obtain ⟨hr12, h⟩ := rg_e h
      obtain ⟨hr13, h⟩ := rg_e h
      refine lv_icmp_gt (tgt := 31) hx hb eX12_placeFor_17.2.2.2.1 (by decide) (fun c14 => ?_) (fun c14 => ?_)
      · have h := if_t ((i2_lt (x := x3) (y := r11) hr13 hr12).mp c14) h
        exact J31 x4 _ _ _ ⟨hP, hS, lv_sub hl [3] rfl, h⟩
      · have h := if_f (mt (i2_lt (x := x3) (y := r11) hr13 hr12).mpr c14) h
        refine lv_iinc (v := i2 (x4 + 1)) (lv' := [(3, .int (i2 (x4 + 1))), (0, .ref (a 200)), (1, .int (i2 x2)), (2, .int (i2 x3))]) hx hb eX12_placeFor_17.2.2.2.2.1 hl (k := 3) rfl (i2_add x4 1) (by decide) rfl (fun ls hl => ?_)
        refine lv_goto (tgt := 2) hx hb eX12_placeFor_17.2.2.2.2.2.1 (by decide) ?_
        exact ih2 (x2, x3, x4 + 1) _ _ _ ⟨hP, hS, lv_sub hl [1, 2, 3, 0] rfl, h⟩
  refine lv_iconst (v := 0) hx hb eX12_lowers_59.2.2.2.1 (by decide) ?_
  refine lv_istore_n (lv' := [(3, .int 0), (0, .ref (a 200)), (1, .int (i2 p0)), (2, .int (i2 p1))]) hx hb eX12_lowers_59.2.2.2.2.1 rfl hl (by decide) rfl (fun ls hl => ?_)
  exact J2 FU (p0, p1, 0) _ _ _ ⟨hP, hS, lv_sub hl [1, 2, 3, 0] rfl, h⟩
set_option maxHeartbeats 4000000 in
set_option maxRecDepth 100000 in
theorem k_x12_isUsed (l : Launch) (D : va_G) (a : Nat → Nat) (p0 : Int) (s : MS) (o : Int) (h : m_x12_isUsed p0 s = some o) : yRi l yX12_isUsed cX12_isUsed 2 (some .boolean) { frames := 1, cells := 0, slots := 0, locals := 60 } D [.ref (a 200), .int (i2 p0)] (RW D a s) (i2 o) := by
  refine Met.ofW (cc := cX12_isUsed) (maxL := 2) (ret := (some .boolean)) (by decide) rfl ?_
  intro p e s₀ m args below meth c s₁ B hml hv
  obtain ⟨rfl, ⟨hP, hK⟩, hN⟩ := hv
  have hx := B.exec
  have hb := B.bytes
  have hr := B.returns
  have hts := atoms_spec (ws := wz yX12_isUsed cX12_isUsed 2 (some .boolean)) B.pre
  have ht : ∀ w ∈ lw_gd, w.before _ s₀ = true := fun w h => hts w (List.mem_cons_of_mem _ h)
  have hown : s₀.vm.findClass RX12 = some m.cls := findClass_of_methodNamed B.named
  have hlocks := B.notSynchronized
  have hS : va_S (fun _ => False) s₀.heap s₀.heap [] := va_S.rf
  have hl := lv_entry ([.ref (a 200), .int (i2 p0)]) (n := 2) (Nat.le_of_ble_eq_true rfl)
  rw [lg_entry_eq]
  generalize (lg_sl ([.ref (a 200), .int (i2 p0)]) ++ List.replicate (2 - (lg_sl ([.ref (a 200), .int (i2 p0)])).length) Slot.unset).toArray = ls at hl ⊢
  have hl : lv_has ls 2 [(0, .ref (a 200)), (1, .int (i2 p0))] := hl
  unfold m_x12_isUsed at h
  refine y_head (pcJ := 13) (σ := Int) (fun u H locs ls => va_P D vwCl (RW D a s) H ∧ va_S (fun _ => False) s₀.heap H locs ∧ lv_has ls 2 [] ∧ m_x12_isUsed_J13 s u = some o) (fun u => [.int (i2 u)]) (fun u H locs ls hI => ?_) (fun J13 => ?_)
  · obtain ⟨hP, hS, hl, h⟩ := hI
    obtain ⟨x1, rfl⟩ : ∃ z, z = u := ⟨u, rfl⟩
    have hP : va_P D vwCl (RW D a s) H := hP
    have hl : lv_has ls 2 [] := hl
    have h : m_x12_isUsed_J13 s x1 = some o := h
    unfold m_x12_isUsed_J13 at h
    obtain ⟨hb2, h⟩ := bo_e h
    obtain rfl := Option.some.inj h
    exact W.zret (v := (i2 x1)) hx hb hr (bo_n hb2) (fun t ht hW => ⟨⟨_, (), rfl, rfl, trivial⟩, hS.F ht⟩) hS.2.2 eX12_isUsed_9.2.2.1
  refine lv_aload_n hx hb eX12_isThere_17.2.2.2.1 rfl (lv_at hl 0 rfl) ?_
  refine lv_iload_n hx hb eX12_isThere_17.2.2.2.2.1 rfl (lv_at hl 1 rfl) ?_
  obtain ⟨r4, hc3, h⟩ := bn_e h
  refine ycV (r0 := i2 r4) (As := [.int (i2 p0)]) (rest := []) (C := RX12) (n := 1) ⟨hx, hb, hml, hown, ht⟩ (k_x12_countOf l D a p0 _ _ hc3) (zgV ml_X12_432 im_X12_countOf se_X12_countOf in_X12 co_X12_countOf) rfl rfl (by decide +kernel) ⟨Nat.le_of_ble_eq_true rfl, Nat.le_of_ble_eq_true rfl⟩ hN hK hP hS 0 RW_0 rfl rfl rfl hl.1 rfl (Nat.le_of_ble_eq_true rfl) eX12_isThere_17.2.2.2.2.2.1 ⟨Nat.le_of_ble_eq_true rfl, Nat.le_of_ble_eq_true rfl⟩ (fun H locs hP hS => ?_)
  obtain ⟨hr5, h⟩ := rg_e h
  refine lv_if_le (tgt := 12) hx hb eX12_isThere_17.2.2.2.2.2.2.1 (by decide) (fun c6 => ?_) (fun c6 => ?_)
  · have h := if_t ((i2_le (x := r4) (y := 0) hr5 (by decide)).mp c6) h
    refine lv_iconst (v := 0) hx hb eX12_isUsed_9.2.1 (by decide) ?_
    exact J13 0 _ _ _ ⟨hP, hS, lv_sub hl [] rfl, h⟩
  · have h := if_f (mt (i2_le (x := r4) (y := 0) hr5 (by decide)).mpr c6) h
    refine lv_iconst (v := 1) hx hb eX12_isThere_17.2.2.2.2.2.2.2 (by decide) ?_
    refine lv_goto (tgt := 13) hx hb eX12_isUsed_9.1 (by decide) ?_
    exact J13 1 _ _ _ ⟨hP, hS, lv_sub hl [] rfl, h⟩
set_option maxHeartbeats 4000000 in
set_option maxRecDepth 100000 in
theorem k_x12_falls (l : Launch) (D : va_G) (a : Nat → Nat) (p0 : Int) (sz : Nat) (s : MS) (o : MS) (h : m_x12_falls p0 s = some o) : yWv l yX12_falls cX12_falls 5 none { frames := 2, cells := 0, slots := 0, locals := 120 } D sz [.ref (a 200), .int (i2 p0)] (RW D a s) (RW D a o) := by
  refine Met.ofW (cc := cX12_falls) (maxL := 5) (ret := none) (by decide) rfl ?_
  intro p e s₀ m args below meth c s₁ B hml hv
  obtain ⟨rfl, ⟨hsz, hP, hK, hD0⟩, hN⟩ := hv
  have hx := B.exec
  have hb := B.bytes
  have hr := B.returns
  have hts := atoms_spec (ws := wz yX12_falls cX12_falls 5 none) B.pre
  have ht : ∀ w ∈ lw_gd, w.before _ s₀ = true := fun w h => hts w (List.mem_cons_of_mem _ h)
  have hown : s₀.vm.findClass RX12 = some m.cls := findClass_of_methodNamed B.named
  have hlocks := B.notSynchronized
  subst hsz
  have hD := hD0.self (sz := s₀.heap.size)
  generalize hAe : va_A (RW D a s) s₀.heap.size = A at hD ⊢
  have hA : ∀ q : Nat, s₀.heap.size ≤ q → A q := fun q h => by rw [← hAe]; exact Or.inr h
  have hS : va_S A s₀.heap s₀.heap [] := va_S.rf
  have hDD : ∀ t : MS, va_D A (RW D a t) := fun t => RW_D t hD
  have hl := lv_entry ([.ref (a 200), .int (i2 p0)]) (n := 5) (Nat.le_of_ble_eq_true rfl)
  rw [lg_entry_eq]
  generalize (lg_sl ([.ref (a 200), .int (i2 p0)]) ++ List.replicate (5 - (lg_sl ([.ref (a 200), .int (i2 p0)])).length) Slot.unset).toArray = ls at hl ⊢
  have hl : lv_has ls 5 [(0, .ref (a 200)), (1, .int (i2 p0))] := hl
  unfold m_x12_falls at h
  refine y_loop (pcJ := 9) (σ := Int × MS) (fun n u H locs ls => va_P D vwCl (RW D a u.2) H ∧ va_S A s₀.heap H locs ∧ lv_has ls 5 [(0, .ref (a 200)), (2, .int (i2 u.1))] ∧ m_x12_falls_L9 n u.1 u.2 = some o) (fun u => []) (fun u H locs ls hI => by obtain ⟨_, _, _, h⟩ := hI; cases h) (fun n9 ih9 u H locs ls hI => ?_) (fun J9 => ?_)
  · obtain ⟨hP, hS, hl, h⟩ := hI
    obtain ⟨x1, s2⟩ := u
    have hP : va_P D vwCl (RW D a s2) H := hP
    have hl : lv_has ls 5 [(0, .ref (a 200)), (2, .int (i2 x1))] := hl
    have h : m_x12_falls_b9 (m_x12_falls_L9 n9) x1 s2 = some o := h
    unfold m_x12_falls_b9 at h
    refine y_loop (pcJ := 51) (σ := Int × Int × Int × MS) (fun n u H locs ls => va_P D vwCl (RW D a u.2.2.2) H ∧ va_S A s₀.heap H locs ∧ lv_has ls 5 [(0, .ref (a 200)), (2, .int (i2 u.1)), (3, .int (i2 u.2.1)), (4, .int (i2 u.2.2.1))] ∧ m_x12_falls_L51 (m_x12_falls_L9 n9) n u.1 u.2.1 u.2.2.1 u.2.2.2 = some o) (fun u => []) (fun u H locs ls hI => by obtain ⟨_, _, _, h⟩ := hI; cases h) (fun n51 ih51 u H locs ls hI => ?_) (fun J51 => ?_)
    · obtain ⟨hP, hS, hl, h⟩ := hI
      obtain ⟨x3, x4, x5, s6⟩ := u
      have hP : va_P D vwCl (RW D a s6) H := hP
      have hl : lv_has ls 5 [(0, .ref (a 200)), (2, .int (i2 x3)), (3, .int (i2 x4)), (4, .int (i2 x5))] := hl
      have h : m_x12_falls_b51 (m_x12_falls_L9 n9) (m_x12_falls_L51 (m_x12_falls_L9 n9) n51) x3 x4 x5 s6 = some o := h
      unfold m_x12_falls_b51 at h
      refine lv_iload hx hb eX12_falls_49.2.1 (lv_at hl 3 rfl) ?_
      refine lv_aload_n hx hb eX12_falls_49.2.2.1 rfl (lv_at hl 0 rfl) ?_
      refine lv_iload_n hx hb eX12_falls_49.2.2.2.1 rfl (lv_at hl 2 rfl) ?_
      obtain ⟨r8, hc7, h⟩ := bn_e h
      refine ycV (r0 := i2 r8) (As := [.int (i2 x4)]) (rest := [.int (i2 x5)]) (C := RX12) (n := 1) ⟨hx, hb, hml, hown, ht⟩ (k_x12_entriesOf l D a x4 _ _ hc7) (zgV ml_X12_466 im_X12_entriesOf se_X12_entriesOf in_X12 co_X12_entriesOf) rfl rfl (by decide +kernel) ⟨Nat.le_of_ble_eq_true rfl, Nat.le_of_ble_eq_true rfl⟩ hN hK hP hS 0 RW_0 rfl rfl rfl hl.1 rfl (Nat.le_of_ble_eq_true rfl) eX12_falls_49.2.2.2.2.1 ⟨Nat.le_of_ble_eq_true rfl, Nat.le_of_ble_eq_true rfl⟩ (fun H locs hP hS => ?_)
      obtain ⟨hr9, h⟩ := rg_e h
      obtain ⟨hr10, h⟩ := rg_e h
      refine lv_icmp_ge (tgt := 83) hx hb eX12_falls_49.2.2.2.2.2.1 (by decide) (fun c11 => ?_) (fun c11 => ?_)
      · have h := if_t ((i2_le (x := r8) (y := x5) hr10 hr9).mp c11) h
        refine lv_goto (tgt := 9) hx hb eX12_falls_80.2.1 (by decide) ?_
        exact ih9 (x3, s6) _ _ _ ⟨hP, hS, lv_sub hl [0, 1] rfl, h⟩
      · have h := if_f (mt (i2_le (x := r8) (y := x5) hr10 hr9).mpr c11) h
        refine lv_aload_n hx hb eX12_falls_49.2.2.2.2.2.2.1 rfl (lv_at hl 0 rfl) ?_
        refine va_get (D := D) (ci := 12) (v := .ref (a 56)) (C := RX12) (T := TX12) (N := 116) hx hb ht inX12 hown hK hP 0 RW_0 rfl 56 (by decide) (ht (.fieldLink RX12 128 "CloneVolumesModel" "fallRow" "[I") fl_X12_128) (fun _ h9 => h9) mF_56 eX12_falls_49.2.2.2.2.2.2.2 ?_
        refine lv_iload_n hx hb eX12_falls_65.1 rfl (lv_at hl 1 rfl) ?_
        refine lv_aload_n hx hb eX12_falls_65.2.1 rfl (lv_at hl 0 rfl) ?_
        refine lv_iload_n hx hb eX12_falls_65.2.2.1 rfl (lv_at hl 2 rfl) ?_
        refine lv_iload hx hb eX12_falls_65.2.2.2.1 (lv_at hl 3 rfl) ?_
        obtain ⟨r13, hc12, h⟩ := bn_e h
        refine ycV (r0 := i2 r13) (As := [.int (i2 x4), .int (i2 x5)]) (rest := [.int (i2 x3), .ref (a 56)]) (C := RX12) (n := 2) ⟨hx, hb, hml, hown, ht⟩ (k_x12_valueAt l D a x4 x5 _ _ hc12) (zgV ml_X12_505 im_X12_valueAt se_X12_valueAt in_X12 co_X12_valueAt) rfl rfl (by decide +kernel) ⟨Nat.le_of_ble_eq_true rfl, Nat.le_of_ble_eq_true rfl⟩ hN hK hP hS 0 RW_0 rfl rfl rfl hl.1 rfl (Nat.le_of_ble_eq_true rfl) eX12_falls_65.2.2.2.2.1 ⟨Nat.le_of_ble_eq_true rfl, Nat.le_of_ble_eq_true rfl⟩ (fun H locs hP hS => ?_)
        obtain ⟨hi14, h⟩ := inb_e h
        refine ya_iast (i := x3) (x := r13) hx hb hK hP (hDD _) hS 38 0 RW_38 rfl (by decide) hi14 eX12_falls_65.2.2.2.2.2.1 (RW_w38 _) (fun H locs hP hS => ?_)
        obtain ⟨s15, hs15, h⟩ := st_e h
        rw [hs15] at hP
        refine lv_iinc (v := i2 (x3 + 1)) (lv' := [(2, .int (i2 (x3 + 1))), (0, .ref (a 200)), (3, .int (i2 x4)), (4, .int (i2 x5))]) hx hb eX12_falls_65.2.2.2.2.2.2.1 hl (k := 1) rfl (i2_add x3 1) (by decide) rfl (fun ls hl => ?_)
        refine lv_iinc (v := i2 (x5 + 1)) (lv' := [(4, .int (i2 (x5 + 1))), (2, .int (i2 (x3 + 1))), (0, .ref (a 200)), (3, .int (i2 x4))]) hx hb eX12_falls_65.2.2.2.2.2.2.2 hl (k := 3) rfl (i2_add x5 1) (by decide) rfl (fun ls hl => ?_)
        refine lv_goto (tgt := 51) hx hb eX12_falls_80.1 (by decide) ?_
        exact ih51 (x3 + 1, x4, x5 + 1, s15) _ _ _ ⟨hP, hS, lv_sub hl [2, 1, 3, 0] rfl, h⟩
    refine lv_iload_n hx hb eX12_falls_7.2.2.1 rfl (lv_at hl 1 rfl) ?_
    obtain ⟨hr16, h⟩ := rg_e h
    refine lv_if_le (tgt := 86) hx hb eX12_falls_7.2.2.2.1 (by decide) (fun c17 => ?_) (fun c17 => ?_)
    · have h := if_t ((i2_le (x := x1) (y := 0) hr16 (by decide)).mp c17) h
      obtain rfl := Option.some.inj h
      exact W.vret hx hb hr (fun t ht hW => ⟨⟨(), rfl, trivial, by rw [ht]; exact hP, va_K.moved hW.alike hK, hDD _⟩, hS.F ht⟩) hS.2.2 eX12_falls_80.2.2.1
    · have h := if_f (mt (i2_le (x := x1) (y := 0) hr16 (by decide)).mpr c17) h
      refine lv_iinc (v := i2 (x1 + (-1))) (lv' := [(2, .int (i2 (x1 + (-1)))), (0, .ref (a 200))]) hx hb eX12_falls_7.2.2.2.2.1 hl (k := 1) rfl (i2_add x1 (-1)) (by decide) rfl (fun ls hl => ?_)
      refine lv_aload_n hx hb eX12_falls_7.2.2.2.2.2.1 rfl (lv_at hl 1 rfl) ?_
      refine va_get (D := D) (ci := 12) (v := .ref (a 56)) (C := RX12) (T := TX12) (N := 116) hx hb ht inX12 hown hK hP 0 RW_0 rfl 56 (by decide) (ht (.fieldLink RX12 128 "CloneVolumesModel" "fallRow" "[I") fl_X12_128) (fun _ h9 => h9) mF_56 eX12_falls_7.2.2.2.2.2.2.1 ?_
      refine lv_iload_n hx hb eX12_falls_7.2.2.2.2.2.2.2 rfl (lv_at hl 0 rfl) ?_
      obtain ⟨y18, ey18, iy18, h⟩ := rdI_e h
      refine ya_iald (i := (x1 + (-1))) hx hb hK hP 38 0 RW_38 rfl (by decide) ey18 iy18 eX12_falls_21.1 ?_
      refine lv_istore_n (lv' := [(3, .int (i2 y18)), (2, .int (i2 (x1 + (-1)))), (0, .ref (a 200))]) hx hb eX12_falls_21.2.1 rfl hl (by decide) rfl (fun ls hl => ?_)
      refine lv_aload_n hx hb eX12_falls_21.2.2.1 rfl (lv_at hl 2 rfl) ?_
      refine lv_iload_n hx hb eX12_falls_21.2.2.2.1 rfl (lv_at hl 0 rfl) ?_
      refine lv_iconst (v := (-1)) hx hb eX12_falls_21.2.2.2.2.1 (by decide) ?_
      obtain ⟨s20, hc19, h⟩ := bn_e h
      refine ywVv (As := [.int (i2 y18), .int (-1)]) (rest := []) (C := RX12) (n := 2) (ws' := RW D a s20) ⟨hx, hb, hml, hown, ht⟩ (k_x12_counts l D a y18 (-1) _ _ _ hc19) (zgV ml_X12_502 im_X12_counts se_X12_counts in_X12 co_X12_counts) rfl rfl (by decide +kernel) ⟨Nat.le_of_ble_eq_true rfl, Nat.le_of_ble_eq_true rfl⟩ hN hK hP (hDD _) hS hA 0 RW_0 rfl rfl rfl hl.1 rfl (Nat.le_of_ble_eq_true rfl) eX12_falls_21.2.2.2.2.2.1 ⟨Nat.le_of_ble_eq_true rfl, Nat.le_of_ble_eq_true rfl⟩ (fun H locs hP hS => ?_)
      refine lv_aload_n hx hb eX12_falls_21.2.2.2.2.2.2.1 rfl (lv_at hl 2 rfl) ?_
      refine lv_iload_n hx hb eX12_falls_21.2.2.2.2.2.2.2 rfl (lv_at hl 0 rfl) ?_
      obtain ⟨r22, hc21, h⟩ := bn_e h
      refine ycV (r0 := i2 r22) (As := [.int (i2 y18)]) (rest := []) (C := RX12) (n := 1) ⟨hx, hb, hml, hown, ht⟩ (k_x12_isUsed l D a y18 _ _ hc21) (zgV ml_X12_435 im_X12_isUsed se_X12_isUsed in_X12 co_X12_isUsed) rfl rfl (by decide +kernel) ⟨Nat.le_of_ble_eq_true rfl, Nat.le_of_ble_eq_true rfl⟩ hN hK hP hS 0 RW_0 rfl rfl rfl hl.1 rfl (Nat.le_of_ble_eq_true rfl) eX12_falls_31.1 ⟨Nat.le_of_ble_eq_true rfl, Nat.le_of_ble_eq_true rfl⟩ (fun H locs hP hS => ?_)
      obtain ⟨hr23, h⟩ := rg_e h
      refine lv_if_ne (tgt := 9) hx hb eX12_falls_31.2.1 (by decide) (fun c24 => ?_) (fun c24 => ?_)
      · have h := if_f (mt (i2_eq (x := r22) (y := 0) hr23 (by decide)).mpr c24) h
        exact ih9 (x1 + (-1), s20) _ _ _ ⟨hP, hS, lv_sub hl [2, 1] rfl, h⟩
      · have h := if_t ((i2_eq (x := r22) (y := 0) hr23 (by decide)).mp c24) h
        refine lv_aload_n hx hb eX12_falls_31.2.2.1 rfl (lv_at hl 2 rfl) ?_
        refine lv_iload_n hx hb eX12_falls_31.2.2.2.1 rfl (lv_at hl 0 rfl) ?_
        obtain ⟨r26, hc25, h⟩ := bn_e h
        refine ycV (r0 := i2 r26) (As := [.int (i2 y18)]) (rest := []) (C := RX12) (n := 1) ⟨hx, hb, hml, hown, ht⟩ (k_x12_levelOf l D a y18 _ _ hc25) (zgV ml_X12_460 im_X12_levelOf se_X12_levelOf in_X12 co_X12_levelOf) rfl rfl (by decide +kernel) ⟨Nat.le_of_ble_eq_true rfl, Nat.le_of_ble_eq_true rfl⟩ hN hK hP hS 0 RW_0 rfl rfl rfl hl.1 rfl (Nat.le_of_ble_eq_true rfl) eX12_falls_31.2.2.2.2.1 ⟨Nat.le_of_ble_eq_true rfl, Nat.le_of_ble_eq_true rfl⟩ (fun H locs hP hS => ?_)
        obtain ⟨hr27, h⟩ := rg_e h
        refine lv_if_ne (tgt := 48) hx hb eX12_falls_31.2.2.2.2.2.1 (by decide) (fun c28 => ?_) (fun c28 => ?_)
        · have h := if_f (mt (i2_eq (x := r26) (y := 0) hr27 (by decide)).mpr c28) h
          refine lv_iconst (v := 0) hx hb eX12_falls_31.2.2.2.2.2.2.2 (by decide) ?_
          refine lv_istore (lv' := [(4, .int 0), (3, .int (i2 y18)), (2, .int (i2 (x1 + (-1)))), (0, .ref (a 200))]) hx hb eX12_falls_49.1 hl (by decide) rfl (fun ls hl => ?_)
          exact J51 FU (x1 + (-1), y18, 0, s20) _ _ _ ⟨hP, hS, lv_sub hl [3, 2, 1, 0] rfl, h⟩
        · have h := if_t ((i2_eq (x := r26) (y := 0) hr27 (by decide)).mp c28) h
          refine lv_goto (tgt := 9) hx hb eX12_falls_31.2.2.2.2.2.2.1 (by decide) ?_
          exact ih9 (x1 + (-1), s20) _ _ _ ⟨hP, hS, lv_sub hl [2, 1] rfl, h⟩
  refine lv_iconst (v := 1) hx hb eX12_entriesOf_12.2.2.2.1 (by decide) ?_
  refine lv_istore_n (lv' := [(2, .int 1), (0, .ref (a 200)), (1, .int (i2 p0))]) hx hb eX12_entriesOf_12.2.2.2.2.1 rfl hl (by decide) rfl (fun ls hl => ?_)
  refine lv_aload_n hx hb eX12_entriesOf_12.2.2.2.2.2.1 rfl (lv_at hl 1 rfl) ?_
  refine va_get (D := D) (ci := 12) (v := .ref (a 56)) (C := RX12) (T := TX12) (N := 116) hx hb ht inX12 hown hK hP 0 RW_0 rfl 56 (by decide) (ht (.fieldLink RX12 128 "CloneVolumesModel" "fallRow" "[I") fl_X12_128) (fun _ h9 => h9) mF_56 eX12_entriesOf_12.2.2.2.2.2.2.1 ?_
  refine lv_iconst (v := 0) hx hb eX12_entriesOf_12.2.2.2.2.2.2.2 (by decide) ?_
  refine lv_iload_n hx hb eX12_falls_7.1 rfl (lv_at hl 2 rfl) ?_
  obtain ⟨hi29, h⟩ := inb_e h
  refine ya_iast (i := 0) (x := p0) hx hb hK hP (hDD _) hS 38 0 RW_38 rfl (by decide) hi29 eX12_falls_7.2.1 (RW_w38 _) (fun H locs hP hS => ?_)
  obtain ⟨s30, hs30, h⟩ := st_e h
  rw [hs30] at hP
  exact J9 FU (1, s30) _ _ _ ⟨hP, hS, lv_sub hl [1, 0] rfl, h⟩
set_option maxHeartbeats 4000000 in
set_option maxRecDepth 100000 in
theorem k_x12_blockMany (l : Launch) (D : va_G) (a : Nat → Nat) (s : MS) (o : Int) (h : m_x12_blockMany s = some o) : yRi l yX12_blockMany cX12_blockMany 1 (some .int) { frames := 0, cells := 0, slots := 0, locals := 0 } D [.ref (a 200)] (RW D a s) (i2 o) := by
  refine Met.ofW (cc := cX12_blockMany) (maxL := 1) (ret := (some .int)) (by decide) rfl ?_
  intro p e s₀ m args below meth c s₁ B hml hv
  obtain ⟨rfl, ⟨hP, hK⟩, hN⟩ := hv
  have hx := B.exec
  have hb := B.bytes
  have hr := B.returns
  have hts := atoms_spec (ws := wz yX12_blockMany cX12_blockMany 1 (some .int)) B.pre
  have ht : ∀ w ∈ lw_gd, w.before _ s₀ = true := fun w h => hts w (List.mem_cons_of_mem _ h)
  have hown : s₀.vm.findClass RX12 = some m.cls := findClass_of_methodNamed B.named
  have hlocks := B.notSynchronized
  have hS : va_S (fun _ => False) s₀.heap s₀.heap [] := va_S.rf
  have hl := lv_entry ([.ref (a 200)]) (n := 1) (Nat.le_of_ble_eq_true rfl)
  rw [lg_entry_eq]
  generalize (lg_sl ([.ref (a 200)]) ++ List.replicate (1 - (lg_sl ([.ref (a 200)])).length) Slot.unset).toArray = ls at hl ⊢
  have hl : lv_has ls 1 [(0, .ref (a 200))] := hl
  unfold m_x12_blockMany at h
  refine lv_aload_n hx hb eX12_blockMany_0.1 rfl (lv_at hl 0 rfl) ?_
  refine va_get (D := D) (ci := 12) (v := .ref (a 39)) (C := RX12) (T := TX12) (N := 116) hx hb ht inX12 hown hK hP 0 RW_0 rfl 39 (by decide) (ht (.fieldLink RX12 102 "CloneVolumesModel" "many" "[I") fl_X12_102) (fun _ h9 => h9) mF_39 eX12_blockMany_0.2.1 ?_
  refine lv_iconst (v := 5) hx hb eX12_blockMany_0.2.2.1 (by decide) ?_
  obtain ⟨y1, ey1, iy1, h⟩ := rdI_e h
  refine ya_iald (i := 5) hx hb hK hP 30 0 RW_30 rfl (by decide) ey1 iy1 eX12_blockMany_0.2.2.2.1 ?_
  obtain rfl := Option.some.inj h
  exact W.iret (v := (i2 y1)) hx hb hr (fun t ht hW => ⟨⟨_, (), rfl, rfl, trivial⟩, hS.F ht⟩) hS.2.2 eX12_blockMany_0.2.2.2.2.1
set_option maxHeartbeats 4000000 in
set_option maxRecDepth 100000 in
theorem k_x12_savedOf (l : Launch) (D : va_G) (a : Nat → Nat) (p0 : Int) (s : MS) (o : Int) (h : m_x12_savedOf p0 s = some o) : yRi l yX12_savedOf cX12_savedOf 2 (some .int) { frames := 0, cells := 0, slots := 0, locals := 0 } D [.ref (a 200), .int (i2 p0)] (RW D a s) (i2 o) := by
  refine Met.ofW (cc := cX12_savedOf) (maxL := 2) (ret := (some .int)) (by decide) rfl ?_
  intro p e s₀ m args below meth c s₁ B hml hv
  obtain ⟨rfl, ⟨hP, hK⟩, hN⟩ := hv
  have hx := B.exec
  have hb := B.bytes
  have hr := B.returns
  have hts := atoms_spec (ws := wz yX12_savedOf cX12_savedOf 2 (some .int)) B.pre
  have ht : ∀ w ∈ lw_gd, w.before _ s₀ = true := fun w h => hts w (List.mem_cons_of_mem _ h)
  have hown : s₀.vm.findClass RX12 = some m.cls := findClass_of_methodNamed B.named
  have hlocks := B.notSynchronized
  have hS : va_S (fun _ => False) s₀.heap s₀.heap [] := va_S.rf
  have hl := lv_entry ([.ref (a 200), .int (i2 p0)]) (n := 2) (Nat.le_of_ble_eq_true rfl)
  rw [lg_entry_eq]
  generalize (lg_sl ([.ref (a 200), .int (i2 p0)]) ++ List.replicate (2 - (lg_sl ([.ref (a 200), .int (i2 p0)])).length) Slot.unset).toArray = ls at hl ⊢
  have hl : lv_has ls 2 [(0, .ref (a 200)), (1, .int (i2 p0))] := hl
  unfold m_x12_savedOf at h
  refine lv_aload_n hx hb eX12_savedOf_0.1 rfl (lv_at hl 0 rfl) ?_
  refine va_get (D := D) (ci := 12) (v := .ref (a 49)) (C := RX12) (T := TX12) (N := 116) hx hb ht inX12 hown hK hP 0 RW_0 rfl 49 (by decide) (ht (.fieldLink RX12 121 "CloneVolumesModel" "now" "[I") fl_X12_121) (fun _ h9 => h9) mF_49 eX12_savedOf_0.2.1 ?_
  refine lv_bipush (v := 17) hx hb eX12_savedOf_0.2.2.1 (by decide) ?_
  refine lv_bipush (v := 16) hx hb eX12_savedOf_0.2.2.2.1 (by decide) ?_
  refine lv_iload_n hx hb eX12_savedOf_0.2.2.2.2.1 rfl (lv_at hl 1 rfl) ?_
  refine lv_imul hx hb eX12_savedOf_0.2.2.2.2.2.1 ?_
  refine z_topi (y := i2 (16 * p0)) (i2_mul 16 p0) ?_
  refine lv_iadd hx hb eX12_savedOf_0.2.2.2.2.2.2.1 ?_
  refine z_topi (y := i2 (17 + (16 * p0))) (i2_add 17 (16 * p0)) ?_
  refine lv_iconst (v := 1) hx hb eX12_savedOf_0.2.2.2.2.2.2.2 (by decide) ?_
  refine lv_iadd hx hb eX12_savedOf_12.1 ?_
  refine z_topi (y := i2 ((17 + (16 * p0)) + 1)) (i2_add (17 + (16 * p0)) 1) ?_
  obtain ⟨y1, ey1, iy1, h⟩ := rdI_e h
  refine ya_iald (i := ((17 + (16 * p0)) + 1)) hx hb hK hP 36 0 RW_36 rfl (by decide) ey1 iy1 eX12_savedOf_12.2.1 ?_
  obtain rfl := Option.some.inj h
  exact W.iret (v := (i2 y1)) hx hb hr (fun t ht hW => ⟨⟨_, (), rfl, rfl, trivial⟩, hS.F ht⟩) hS.2.2 eX12_savedOf_12.2.2.1
set_option maxHeartbeats 4000000 in
set_option maxRecDepth 100000 in
theorem k_x12_isThere (l : Launch) (D : va_G) (a : Nat → Nat) (p0 : Int) (s : MS) (o : Int) (h : m_x12_isThere p0 s = some o) : yRi l yX12_isThere cX12_isThere 2 (some .boolean) { frames := 2, cells := 0, slots := 0, locals := 120 } D [.ref (a 200), .int (i2 p0)] (RW D a s) (i2 o) := by
  refine Met.ofW (cc := cX12_isThere) (maxL := 2) (ret := (some .boolean)) (by decide) rfl ?_
  intro p e s₀ m args below meth c s₁ B hml hv
  obtain ⟨rfl, ⟨hP, hK⟩, hN⟩ := hv
  have hx := B.exec
  have hb := B.bytes
  have hr := B.returns
  have hts := atoms_spec (ws := wz yX12_isThere cX12_isThere 2 (some .boolean)) B.pre
  have ht : ∀ w ∈ lw_gd, w.before _ s₀ = true := fun w h => hts w (List.mem_cons_of_mem _ h)
  have hown : s₀.vm.findClass RX12 = some m.cls := findClass_of_methodNamed B.named
  have hlocks := B.notSynchronized
  have hS : va_S (fun _ => False) s₀.heap s₀.heap [] := va_S.rf
  have hl := lv_entry ([.ref (a 200), .int (i2 p0)]) (n := 2) (Nat.le_of_ble_eq_true rfl)
  rw [lg_entry_eq]
  generalize (lg_sl ([.ref (a 200), .int (i2 p0)]) ++ List.replicate (2 - (lg_sl ([.ref (a 200), .int (i2 p0)])).length) Slot.unset).toArray = ls at hl ⊢
  have hl : lv_has ls 2 [(0, .ref (a 200)), (1, .int (i2 p0))] := hl
  unfold m_x12_isThere at h
  refine y_head (pcJ := 21) (σ := Int) (fun u H locs ls => va_P D vwCl (RW D a s) H ∧ va_S (fun _ => False) s₀.heap H locs ∧ lv_has ls 2 [] ∧ m_x12_isThere_J21 s u = some o) (fun u => [.int (i2 u)]) (fun u H locs ls hI => ?_) (fun J21 => ?_)
  · obtain ⟨hP, hS, hl, h⟩ := hI
    obtain ⟨x1, rfl⟩ : ∃ z, z = u := ⟨u, rfl⟩
    have hP : va_P D vwCl (RW D a s) H := hP
    have hl : lv_has ls 2 [] := hl
    have h : m_x12_isThere_J21 s x1 = some o := h
    unfold m_x12_isThere_J21 at h
    obtain ⟨hb2, h⟩ := bo_e h
    obtain rfl := Option.some.inj h
    exact W.zret (v := (i2 x1)) hx hb hr (bo_n hb2) (fun t ht hW => ⟨⟨_, (), rfl, rfl, trivial⟩, hS.F ht⟩) hS.2.2 eX12_isThere_17.2.2.1
  refine y_head (pcJ := 16) (σ := Unit) (fun u H locs ls => va_P D vwCl (RW D a s) H ∧ va_S (fun _ => False) s₀.heap H locs ∧ lv_has ls 2 [] ∧ m_x12_isThere_J16 s u = some o) (fun u => []) (fun u H locs ls hI => ?_) (fun J16 => ?_)
  · obtain ⟨hP, hS, hl, h⟩ := hI
    skip
    have hP : va_P D vwCl (RW D a s) H := hP
    have hl : lv_has ls 2 [] := hl
    have h : m_x12_isThere_J16 s () = some o := h
    unfold m_x12_isThere_J16 at h
    refine lv_iconst (v := 1) hx hb eX12_isThere_1.2.2.2.2.2.2.2 (by decide) ?_
    refine lv_goto (tgt := 21) hx hb eX12_isThere_17.1 (by decide) ?_
    exact J21 1 _ _ _ ⟨hP, hS, lv_sub hl [] rfl, h⟩
  refine lv_aload_n hx hb eX12_isCoded_7.2.2.2.2.2.2.2 rfl (lv_at hl 0 rfl) ?_
  refine lv_iload_n hx hb eX12_isThere_1.1 rfl (lv_at hl 1 rfl) ?_
  obtain ⟨r4, hc3, h⟩ := bn_e h
  refine ycV (r0 := i2 r4) (As := [.int (i2 p0)]) (rest := []) (C := RX12) (n := 1) ⟨hx, hb, hml, hown, ht⟩ (k_x12_isUsed l D a p0 _ _ hc3) (zgV ml_X12_435 im_X12_isUsed se_X12_isUsed in_X12 co_X12_isUsed) rfl rfl (by decide +kernel) ⟨Nat.le_of_ble_eq_true rfl, Nat.le_of_ble_eq_true rfl⟩ hN hK hP hS 0 RW_0 rfl rfl rfl hl.1 rfl (Nat.le_of_ble_eq_true rfl) eX12_isThere_1.2.1 ⟨Nat.le_of_ble_eq_true rfl, Nat.le_of_ble_eq_true rfl⟩ (fun H locs hP hS => ?_)
  obtain ⟨hr5, h⟩ := rg_e h
  refine lv_if_ne (tgt := 16) hx hb eX12_isThere_1.2.2.1 (by decide) (fun c6 => ?_) (fun c6 => ?_)
  · have h := if_f (mt (i2_eq (x := r4) (y := 0) hr5 (by decide)).mpr c6) h
    exact J16 () _ _ _ ⟨hP, hS, lv_sub hl [] rfl, h⟩
  · have h := if_t ((i2_eq (x := r4) (y := 0) hr5 (by decide)).mp c6) h
    refine lv_aload_n hx hb eX12_isThere_1.2.2.2.1 rfl (lv_at hl 0 rfl) ?_
    refine lv_iload_n hx hb eX12_isThere_1.2.2.2.2.1 rfl (lv_at hl 1 rfl) ?_
    obtain ⟨r8, hc7, h⟩ := bn_e h
    refine ycV (r0 := i2 r8) (As := [.int (i2 p0)]) (rest := []) (C := RX12) (n := 1) ⟨hx, hb, hml, hown, ht⟩ (k_x12_savedOf l D a p0 _ _ hc7) (zgV ml_X12_438 im_X12_savedOf se_X12_savedOf in_X12 co_X12_savedOf) rfl rfl (by decide +kernel) ⟨Nat.le_of_ble_eq_true rfl, Nat.le_of_ble_eq_true rfl⟩ hN hK hP hS 0 RW_0 rfl rfl rfl hl.1 rfl (Nat.le_of_ble_eq_true rfl) eX12_isThere_1.2.2.2.2.2.1 ⟨Nat.le_of_ble_eq_true rfl, Nat.le_of_ble_eq_true rfl⟩ (fun H locs hP hS => ?_)
    obtain ⟨hr9, h⟩ := rg_e h
    refine lv_if_le (tgt := 20) hx hb eX12_isThere_1.2.2.2.2.2.2.1 (by decide) (fun c10 => ?_) (fun c10 => ?_)
    · have h := if_t ((i2_le (x := r8) (y := 0) hr9 (by decide)).mp c10) h
      refine lv_iconst (v := 0) hx hb eX12_isThere_17.2.1 (by decide) ?_
      exact J21 0 _ _ _ ⟨hP, hS, lv_sub hl [] rfl, h⟩
    · have h := if_f (mt (i2_le (x := r8) (y := 0) hr9 (by decide)).mpr c10) h
      exact J16 () _ _ _ ⟨hP, hS, lv_sub hl [] rfl, h⟩
set_option maxHeartbeats 4000000 in
set_option maxRecDepth 100000 in
theorem k_x12_isCoded (l : Launch) (D : va_G) (a : Nat → Nat) (p0 : Int) (s : MS) (o : Int) (h : m_x12_isCoded p0 s = some o) : yRi l yX12_isCoded cX12_isCoded 2 (some .boolean) { frames := 0, cells := 0, slots := 0, locals := 0 } D [.ref (a 200), .int (i2 p0)] (RW D a s) (i2 o) := by
  refine Met.ofW (cc := cX12_isCoded) (maxL := 2) (ret := (some .boolean)) (by decide) rfl ?_
  intro p e s₀ m args below meth c s₁ B hml hv
  obtain ⟨rfl, ⟨hP, hK⟩, hN⟩ := hv
  have hx := B.exec
  have hb := B.bytes
  have hr := B.returns
  have hts := atoms_spec (ws := wz yX12_isCoded cX12_isCoded 2 (some .boolean)) B.pre
  have ht : ∀ w ∈ lw_gd, w.before _ s₀ = true := fun w h => hts w (List.mem_cons_of_mem _ h)
  have hown : s₀.vm.findClass RX12 = some m.cls := findClass_of_methodNamed B.named
  have hlocks := B.notSynchronized
  have hS : va_S (fun _ => False) s₀.heap s₀.heap [] := va_S.rf
  have hl := lv_entry ([.ref (a 200), .int (i2 p0)]) (n := 2) (Nat.le_of_ble_eq_true rfl)
  rw [lg_entry_eq]
  generalize (lg_sl ([.ref (a 200), .int (i2 p0)]) ++ List.replicate (2 - (lg_sl ([.ref (a 200), .int (i2 p0)])).length) Slot.unset).toArray = ls at hl ⊢
  have hl : lv_has ls 2 [(0, .ref (a 200)), (1, .int (i2 p0))] := hl
  unfold m_x12_isCoded at h
  refine y_head (pcJ := 17) (σ := Int) (fun u H locs ls => va_P D vwCl (RW D a s) H ∧ va_S (fun _ => False) s₀.heap H locs ∧ lv_has ls 2 [] ∧ m_x12_isCoded_J17 s u = some o) (fun u => [.int (i2 u)]) (fun u H locs ls hI => ?_) (fun J17 => ?_)
  · obtain ⟨hP, hS, hl, h⟩ := hI
    obtain ⟨x1, rfl⟩ : ∃ z, z = u := ⟨u, rfl⟩
    have hP : va_P D vwCl (RW D a s) H := hP
    have hl : lv_has ls 2 [] := hl
    have h : m_x12_isCoded_J17 s x1 = some o := h
    unfold m_x12_isCoded_J17 at h
    obtain ⟨hb2, h⟩ := bo_e h
    obtain rfl := Option.some.inj h
    exact W.zret (v := (i2 x1)) hx hb hr (bo_n hb2) (fun t ht hW => ⟨⟨_, (), rfl, rfl, trivial⟩, hS.F ht⟩) hS.2.2 eX12_isCoded_7.2.2.2.2.2.2.1
  refine lv_aload_n hx hb eX12_falls_80.2.2.2.1 rfl (lv_at hl 0 rfl) ?_
  refine va_get (D := D) (ci := 12) (v := .ref (a 42)) (C := RX12) (T := TX12) (N := 116) hx hb ht inX12 hown hK hP 0 RW_0 rfl 42 (by decide) (ht (.fieldLink RX12 112 "CloneVolumesModel" "codeFrom" "[I") fl_X12_112) (fun _ h9 => h9) mF_42 eX12_falls_80.2.2.2.2.1 ?_
  refine lv_iconst (v := 3) hx hb eX12_falls_80.2.2.2.2.2.1 (by decide) ?_
  refine lv_iload_n hx hb eX12_falls_80.2.2.2.2.2.2.1 rfl (lv_at hl 1 rfl) ?_
  refine lv_iadd hx hb eX12_falls_80.2.2.2.2.2.2.2 ?_
  refine z_topi (y := i2 (3 + p0)) (i2_add 3 p0) ?_
  obtain ⟨y3, ey3, iy3, h⟩ := rdI_e h
  refine ya_iald (i := (3 + p0)) hx hb hK hP 33 0 RW_33 rfl (by decide) ey3 iy3 eX12_isCoded_7.1 ?_
  refine lv_iconst (v := (-1)) hx hb eX12_isCoded_7.2.1 (by decide) ?_
  obtain ⟨hr4, h⟩ := rg_e h
  refine lv_icmp_eq (tgt := 16) hx hb eX12_isCoded_7.2.2.1 (by decide) (fun c5 => ?_) (fun c5 => ?_)
  · rw [show ((-1) : Int32) = i2 (-1) from by decide] at c5
    have h := if_t ((i2_eq (x := y3) (y := (-1)) hr4 (by decide)).mp c5) h
    refine lv_iconst (v := 0) hx hb eX12_isCoded_7.2.2.2.2.2.1 (by decide) ?_
    exact J17 0 _ _ _ ⟨hP, hS, lv_sub hl [] rfl, h⟩
  · rw [show ((-1) : Int32) = i2 (-1) from by decide] at c5
    have h := if_f (mt (i2_eq (x := y3) (y := (-1)) hr4 (by decide)).mpr c5) h
    refine lv_iconst (v := 1) hx hb eX12_isCoded_7.2.2.2.1 (by decide) ?_
    refine lv_goto (tgt := 17) hx hb eX12_isCoded_7.2.2.2.2.1 (by decide) ?_
    exact J17 1 _ _ _ ⟨hP, hS, lv_sub hl [] rfl, h⟩
set_option maxHeartbeats 4000000 in
set_option maxRecDepth 100000 in
theorem k_x12_qPuts (l : Launch) (D : va_G) (a : Nat → Nat) (p0 : Int) (sz : Nat) (s : MS) (o : MS) (h : m_x12_qPuts p0 s = some o) : yWv l yX12_qPuts cX12_qPuts 3 none { frames := 0, cells := 0, slots := 0, locals := 0 } D sz [.ref (a 200), .long (i8 p0)] (RW D a s) (RW D a o) := by
  refine Met.ofW (cc := cX12_qPuts) (maxL := 3) (ret := none) (by decide) rfl ?_
  intro p e s₀ m args below meth c s₁ B hml hv
  obtain ⟨rfl, ⟨hsz, hP, hK, hD0⟩, hN⟩ := hv
  have hx := B.exec
  have hb := B.bytes
  have hr := B.returns
  have hts := atoms_spec (ws := wz yX12_qPuts cX12_qPuts 3 none) B.pre
  have ht : ∀ w ∈ lw_gd, w.before _ s₀ = true := fun w h => hts w (List.mem_cons_of_mem _ h)
  have hown : s₀.vm.findClass RX12 = some m.cls := findClass_of_methodNamed B.named
  have hlocks := B.notSynchronized
  subst hsz
  have hD := hD0.self (sz := s₀.heap.size)
  generalize hAe : va_A (RW D a s) s₀.heap.size = A at hD ⊢
  have hA : ∀ q : Nat, s₀.heap.size ≤ q → A q := fun q h => by rw [← hAe]; exact Or.inr h
  have hS : va_S A s₀.heap s₀.heap [] := va_S.rf
  have hDD : ∀ t : MS, va_D A (RW D a t) := fun t => RW_D t hD
  have hl := lv_entry ([.ref (a 200), .long (i8 p0)]) (n := 3) (Nat.le_of_ble_eq_true rfl)
  rw [lg_entry_eq]
  generalize (lg_sl ([.ref (a 200), .long (i8 p0)]) ++ List.replicate (3 - (lg_sl ([.ref (a 200), .long (i8 p0)])).length) Slot.unset).toArray = ls at hl ⊢
  have hl : lv_has ls 3 [(0, .ref (a 200)), (1, .long (i8 p0))] := hl
  unfold m_x12_qPuts at h
  refine lv_aload_n hx hb eX12_qJoins_269.2.2.2.1 rfl (lv_at hl 0 rfl) ?_
  refine va_get (D := D) (ci := 12) (v := .ref (a 107)) (C := RX12) (T := TX12) (N := 116) hx hb ht inX12 hown hK hP 0 RW_0 rfl 107 (by decide) (ht (.fieldLink RX12 249 "CloneVolumesModel" "qPile" "[J") fl_X12_249) (fun _ h9 => h9) mF_107 eX12_qJoins_269.2.2.2.2.1 ?_
  refine lv_aload_n hx hb eX12_qJoins_269.2.2.2.2.2.1 rfl (lv_at hl 0 rfl) ?_
  refine va_get (D := D) (ci := 12) (v := .int (i2 (gI s 108))) (C := RX12) (T := TX12) (N := 116) hx hb ht inX12 hown hK hP 0 RW_0 rfl 108 (by decide) (ht (.fieldLink RX12 443 "CloneVolumesModel" "qPiled" "I") fl_X12_443) (fun _ h9 => h9) mF_108 eX12_qJoins_269.2.2.2.2.2.2.1 ?_
  refine lv_lload_n hx hb eX12_qJoins_269.2.2.2.2.2.2.2 rfl (lv_at hl 1 rfl) ?_
  obtain ⟨hi1, h⟩ := inb_e h
  refine ya_last (i := (gI s 108)) (x := p0) hx hb hK hP (hDD _) hS 77 2 RW_77 rfl (by decide) hi1 eX12_qPuts_9.1 (RW_w77 _) (fun H locs hP hS => ?_)
  obtain ⟨s2, hs2, h⟩ := st_e h
  rw [hs2] at hP
  refine lv_aload_n hx hb eX12_qPuts_9.2.1 rfl (lv_at hl 0 rfl) ?_
  refine lv_dup hx hb eX12_qPuts_9.2.2.1 rfl ?_
  refine va_get (D := D) (ci := 12) (v := .int (i2 (gI s2 108))) (C := RX12) (T := TX12) (N := 116) hx hb ht inX12 hown hK hP 0 RW_0 rfl 108 (by decide) (ht (.fieldLink RX12 443 "CloneVolumesModel" "qPiled" "I") fl_X12_443) (fun _ h9 => h9) mF_108 eX12_qPuts_9.2.2.2.1 ?_
  refine lv_iconst (v := 1) hx hb eX12_qPuts_9.2.2.2.2.1 (by decide) ?_
  refine lv_iadd hx hb eX12_qPuts_9.2.2.2.2.2.1 ?_
  refine z_topi (y := i2 ((gI s2 108) + 1)) (i2_add (gI s2 108) 1) ?_
  refine ya_put (D := D) (ci := 12) (v := .int (i2 ((gI s2 108) + 1))) (ty := .int) (C := RX12) (T := TX12) (N := 116) hx hb ht inX12 tyX12 tyX12_ok nmX12 hown hK hP (hDD _) hS 0 RW_0 rfl 108 (by decide) (ht (.fieldLink RX12 443 "CloneVolumesModel" "qPiled" "I") fl_X12_443) (fun _ h9 => h9) rfl (by decide +kernel) rfl rfl (by rw [mF_len]; decide) eX12_qPuts_9.2.2.2.2.2.2.1 (RW_f108 ((gI s2 108) + 1)) (fun H locs hP hS => ?_)
  obtain ⟨s3, hs3, h⟩ := st_e h
  rw [hs3] at hP
  obtain rfl := Option.some.inj h
  exact W.vret hx hb hr (fun t ht hW => ⟨⟨(), rfl, trivial, by rw [ht]; exact hP, va_K.moved hW.alike hK, hDD _⟩, hS.F ht⟩) hS.2.2 eX12_qPuts_9.2.2.2.2.2.2.2
set_option maxHeartbeats 4000000 in
set_option maxRecDepth 100000 in
theorem k_x12_qClip (l : Launch) (D : va_G) (a : Nat → Nat) (p0 : Int) (s : MS) (o : Int) (h : m_x12_qClip p0 s = some o) : yRl l yX12_qClip cX12_qClip 2 (some .long) { frames := 0, cells := 0, slots := 0, locals := 0 } D [.long (i8 p0)] (RW D a s) (i8 o) := by
  refine Met.ofW (cc := cX12_qClip) (maxL := 2) (ret := (some .long)) (by decide) rfl ?_
  intro p e s₀ m args below meth c s₁ B hml hv
  obtain ⟨rfl, ⟨hP, hK⟩, hN⟩ := hv
  have hx := B.exec
  have hb := B.bytes
  have hr := B.returns
  have hts := atoms_spec (ws := wz yX12_qClip cX12_qClip 2 (some .long)) B.pre
  have ht : ∀ w ∈ lw_gd, w.before _ s₀ = true := fun w h => hts w (List.mem_cons_of_mem _ h)
  have hown : s₀.vm.findClass RX12 = some m.cls := findClass_of_methodNamed B.named
  have hlocks := B.notSynchronized
  have hS : va_S (fun _ => False) s₀.heap s₀.heap [] := va_S.rf
  have hl := lv_entry ([.long (i8 p0)]) (n := 2) (Nat.le_of_ble_eq_true rfl)
  rw [lg_entry_eq]
  generalize (lg_sl ([.long (i8 p0)]) ++ List.replicate (2 - (lg_sl ([.long (i8 p0)])).length) Slot.unset).toArray = ls at hl ⊢
  have hl : lv_has ls 2 [(0, .long (i8 p0))] := hl
  unfold m_x12_qClip at h
  refine y_head (pcJ := 29) (σ := Int) (fun u H locs ls => va_P D vwCl (RW D a s) H ∧ va_S (fun _ => False) s₀.heap H locs ∧ lv_has ls 2 [] ∧ m_x12_qClip_J29 s u = some o) (fun u => [.long (i8 u)]) (fun u H locs ls hI => ?_) (fun J29 => ?_)
  · obtain ⟨hP, hS, hl, h⟩ := hI
    obtain ⟨z1, rfl⟩ : ∃ z, z = u := ⟨u, rfl⟩
    have hP : va_P D vwCl (RW D a s) H := hP
    have hl : lv_has ls 2 [] := hl
    have h : m_x12_qClip_J29 s z1 = some o := h
    unfold m_x12_qClip_J29 at h
    obtain rfl := Option.some.inj h
    exact W.lret (v := (i8 z1)) hx hb hr (fun t ht hW => ⟨⟨_, (), rfl, rfl, trivial⟩, hS.F ht⟩) hS.2.2 eX12_qClip_15.2.2.2.2.2.2.1
  refine lv_lload_n hx hb eX12_placeIn_28.2.1 rfl (lv_at hl 0 rfl) ?_
  refine lv_ldc2 (own := RX12) (v := 1000000) hx hb hown (ht _ cl_X12_747) eX12_placeIn_28.2.2.1 ?_
  refine W.lcmp hx hb eX12_placeIn_28.2.2.2.1 ?_
  obtain ⟨hr2, h⟩ := rgL_e h
  refine lv_if_le (tgt := 14) hx hb eX12_placeIn_28.2.2.2.2.1 (by decide) (fun c3 => ?_) (fun c3 => ?_)
  · have h := if_t ((l_le (x := p0) (y := 1000000) hr2 (by decide)).mp c3) h
    refine lv_lload_n hx hb eX12_placeIn_28.2.2.2.2.2.2.2 rfl (lv_at hl 0 rfl) ?_
    refine lv_ldc2 (own := RX12) (v := (-1000000)) hx hb hown (ht _ cl_X12_749) eX12_qClip_15.1 ?_
    refine W.lcmp hx hb eX12_qClip_15.2.1 ?_
    obtain ⟨hr4, h⟩ := rgL_e h
    refine lv_if_ge (tgt := 28) hx hb eX12_qClip_15.2.2.1 (by decide) (fun c5 => ?_) (fun c5 => ?_)
    · rw [show ((-1000000) : Int64) = i8 (-1000000) from by decide +kernel] at c5
      have h := if_t ((l_ge (x := p0) (y := (-1000000)) hr4 (by decide)).mp c5) h
      refine lv_lload_n hx hb eX12_qClip_15.2.2.2.2.2.1 rfl (lv_at hl 0 rfl) ?_
      exact J29 p0 _ _ _ ⟨hP, hS, lv_sub hl [] rfl, h⟩
    · rw [show ((-1000000) : Int64) = i8 (-1000000) from by decide +kernel] at c5
      have h := if_f (mt (l_ge (x := p0) (y := (-1000000)) hr4 (by decide)).mpr c5) h
      refine lv_ldc2 (own := RX12) (v := (-1000000)) hx hb hown (ht _ cl_X12_749) eX12_qClip_15.2.2.2.1 ?_
      refine lv_goto (tgt := 29) hx hb eX12_qClip_15.2.2.2.2.1 (by decide) ?_
      exact J29 (-1000000) _ _ _ ⟨hP, hS, lv_sub hl [] rfl, h⟩
  · have h := if_f (mt (l_le (x := p0) (y := 1000000) hr2 (by decide)).mpr c3) h
    refine lv_ldc2 (own := RX12) (v := 1000000) hx hb hown (ht _ cl_X12_747) eX12_placeIn_28.2.2.2.2.2.1 ?_
    refine lv_goto (tgt := 29) hx hb eX12_placeIn_28.2.2.2.2.2.2.1 (by decide) ?_
    exact J29 1000000 _ _ _ ⟨hP, hS, lv_sub hl [] rfl, h⟩
set_option maxHeartbeats 4000000 in
set_option maxRecDepth 100000 in
theorem k_x12_qFloor (l : Launch) (D : va_G) (a : Nat → Nat) (p0 : Int) (p1 : Int) (s : MS) (o : Int) (h : m_x12_qFloor p0 p1 s = some o) : yRl l yX12_qFloor cX12_qFloor 6 (some .long) { frames := 0, cells := 0, slots := 0, locals := 0 } D [.long (i8 p0), .long (i8 p1)] (RW D a s) (i8 o) := by
  refine Met.ofW (cc := cX12_qFloor) (maxL := 6) (ret := (some .long)) (by decide) rfl ?_
  intro p e s₀ m args below meth c s₁ B hml hv
  obtain ⟨rfl, ⟨hP, hK⟩, hN⟩ := hv
  have hx := B.exec
  have hb := B.bytes
  have hr := B.returns
  have hts := atoms_spec (ws := wz yX12_qFloor cX12_qFloor 6 (some .long)) B.pre
  have ht : ∀ w ∈ lw_gd, w.before _ s₀ = true := fun w h => hts w (List.mem_cons_of_mem _ h)
  have hown : s₀.vm.findClass RX12 = some m.cls := findClass_of_methodNamed B.named
  have hlocks := B.notSynchronized
  have hS : va_S (fun _ => False) s₀.heap s₀.heap [] := va_S.rf
  have hl := lv_entry ([.long (i8 p0), .long (i8 p1)]) (n := 6) (Nat.le_of_ble_eq_true rfl)
  rw [lg_entry_eq]
  generalize (lg_sl ([.long (i8 p0), .long (i8 p1)]) ++ List.replicate (6 - (lg_sl ([.long (i8 p0), .long (i8 p1)])).length) Slot.unset).toArray = ls at hl ⊢
  have hl : lv_has ls 6 [(0, .long (i8 p0)), (2, .long (i8 p1))] := hl
  unfold m_x12_qFloor at h
  refine y_head (pcJ := 55) (σ := Int) (fun u H locs ls => va_P D vwCl (RW D a s) H ∧ va_S (fun _ => False) s₀.heap H locs ∧ lv_has ls 6 [] ∧ m_x12_qFloor_J55 s u = some o) (fun u => [.long (i8 u)]) (fun u H locs ls hI => ?_) (fun J55 => ?_)
  · obtain ⟨hP, hS, hl, h⟩ := hI
    obtain ⟨z1, rfl⟩ : ∃ z, z = u := ⟨u, rfl⟩
    have hP : va_P D vwCl (RW D a s) H := hP
    have hl : lv_has ls 6 [] := hl
    have h : m_x12_qFloor_J55 s z1 = some o := h
    unfold m_x12_qFloor_J55 at h
    obtain rfl := Option.some.inj h
    exact W.lret (v := (i8 z1)) hx hb hr (fun t ht hW => ⟨⟨_, (), rfl, rfl, trivial⟩, hS.F ht⟩) hS.2.2 eX12_qFloor_49.2.2.2.1
  refine y_head (pcJ := 53) (σ := Int) (fun u H locs ls => va_P D vwCl (RW D a s) H ∧ va_S (fun _ => False) s₀.heap H locs ∧ lv_has ls 6 [(4, .long (i8 u))] ∧ m_x12_qFloor_J53 s u = some o) (fun u => []) (fun u H locs ls hI => ?_) (fun J53 => ?_)
  · obtain ⟨hP, hS, hl, h⟩ := hI
    obtain ⟨z2, rfl⟩ : ∃ z, z = u := ⟨u, rfl⟩
    have hP : va_P D vwCl (RW D a s) H := hP
    have hl : lv_has ls 6 [(4, .long (i8 z2))] := hl
    have h : m_x12_qFloor_J53 s z2 = some o := h
    unfold m_x12_qFloor_J53 at h
    refine lv_lload hx hb eX12_qFloor_49.2.2.1 (lv_at hl 0 rfl) ?_
    exact J55 z2 _ _ _ ⟨hP, hS, lv_sub hl [] rfl, h⟩
  refine y_head (pcJ := 43) (σ := Int × Int × Int) (fun u H locs ls => va_P D vwCl (RW D a s) H ∧ va_S (fun _ => False) s₀.heap H locs ∧ lv_has ls 6 [(4, .long (i8 u.1))] ∧ m_x12_qFloor_J43 s u.1 u.2.1 u.2.2 = some o) (fun u => [.int (i2 u.2.1), .int (i2 u.2.2)]) (fun u H locs ls hI => ?_) (fun J43 => ?_)
  · obtain ⟨hP, hS, hl, h⟩ := hI
    obtain ⟨z3, x4, x5⟩ := u
    have hP : va_P D vwCl (RW D a s) H := hP
    have hl : lv_has ls 6 [(4, .long (i8 z3))] := hl
    have h : m_x12_qFloor_J43 s z3 x4 x5 = some o := h
    unfold m_x12_qFloor_J43 at h
    obtain ⟨hr6, h⟩ := rg_e h
    obtain ⟨hr7, h⟩ := rg_e h
    refine lv_icmp_eq (tgt := 53) hx hb eX12_qFloor_34.2.2.2.2.2.1 (by decide) (fun c8 => ?_) (fun c8 => ?_)
    · have h := if_t ((i2_eq (x := x5) (y := x4) hr6 hr7).mp c8) h
      exact J53 z3 _ _ _ ⟨hP, hS, lv_sub hl [0] rfl, h⟩
    · have h := if_f (mt (i2_eq (x := x5) (y := x4) hr6 hr7).mpr c8) h
      refine lv_lload hx hb eX12_qFloor_34.2.2.2.2.2.2.1 (lv_at hl 0 rfl) ?_
      refine lv_lconst (v := 1) hx hb eX12_qFloor_34.2.2.2.2.2.2.2 (by decide) ?_
      refine lv_lsub hx hb eX12_qFloor_49.1 ?_
      refine z_topl (y := i8 (z3 - 1)) (i8_sub z3 1) ?_
      refine lv_goto (tgt := 55) hx hb eX12_qFloor_49.2.1 (by decide) ?_
      exact J55 (z3 - 1) _ _ _ ⟨hP, hS, lv_sub hl [] rfl, h⟩
  refine y_head (pcJ := 32) (σ := Int × Int × Int) (fun u H locs ls => va_P D vwCl (RW D a s) H ∧ va_S (fun _ => False) s₀.heap H locs ∧ lv_has ls 6 [(2, .long (i8 u.1)), (4, .long (i8 u.2.1))] ∧ m_x12_qFloor_J32 s u.1 u.2.1 u.2.2 = some o) (fun u => [.int (i2 u.2.2)]) (fun u H locs ls hI => ?_) (fun J32 => ?_)
  · obtain ⟨hP, hS, hl, h⟩ := hI
    obtain ⟨z9, z10, x11⟩ := u
    have hP : va_P D vwCl (RW D a s) H := hP
    have hl : lv_has ls 6 [(2, .long (i8 z9)), (4, .long (i8 z10))] := hl
    have h : m_x12_qFloor_J32 s z9 z10 x11 = some o := h
    unfold m_x12_qFloor_J32 at h
    refine lv_lload_n hx hb eX12_qFloor_22.2.2.2.2.2.2.1 rfl (lv_at hl 0 rfl) ?_
    refine lv_lconst (v := 0) hx hb eX12_qFloor_22.2.2.2.2.2.2.2 (by decide) ?_
    refine W.lcmp hx hb eX12_qFloor_34.1 ?_
    obtain ⟨hr12, h⟩ := rgL_e h
    refine lv_if_ge (tgt := 42) hx hb eX12_qFloor_34.2.1 (by decide) (fun c13 => ?_) (fun c13 => ?_)
    · have h := if_t ((l_ge (x := z9) (y := 0) hr12 (by decide)).mp c13) h
      refine lv_iconst (v := 0) hx hb eX12_qFloor_34.2.2.2.2.1 (by decide) ?_
      exact J43 (z10, 0, x11) _ _ _ ⟨hP, hS, lv_sub hl [1] rfl, h⟩
    · have h := if_f (mt (l_ge (x := z9) (y := 0) hr12 (by decide)).mpr c13) h
      refine lv_iconst (v := 1) hx hb eX12_qFloor_34.2.2.1 (by decide) ?_
      refine lv_goto (tgt := 43) hx hb eX12_qFloor_34.2.2.2.1 (by decide) ?_
      exact J43 (z10, 1, x11) _ _ _ ⟨hP, hS, lv_sub hl [1] rfl, h⟩
  refine lv_lload_n hx hb eX12_qClip_15.2.2.2.2.2.2.2 rfl (lv_at hl 1 rfl) ?_
  refine lv_lconst (v := 0) hx hb eX12_qFloor_1.1 (by decide) ?_
  refine W.lcmp hx hb eX12_qFloor_1.2.1 ?_
  obtain ⟨hr14, h⟩ := rgL_e h
  refine lv_if_ne (tgt := 8) hx hb eX12_qFloor_1.2.2.1 (by decide) (fun c15 => ?_) (fun c15 => ?_)
  · have h := if_f (mt (l_eq (x := p1) (y := 0) hr14 (by decide)).mpr c15) h
    refine lv_lload_n hx hb eX12_qFloor_1.2.2.2.2.2.1 rfl (lv_at hl 0 rfl) ?_
    refine lv_lload_n hx hb eX12_qFloor_1.2.2.2.2.2.2.1 rfl (lv_at hl 1 rfl) ?_
    obtain ⟨hn16, h⟩ := dvL_e h
    refine lv_ldiv hx hb eX12_qFloor_1.2.2.2.2.2.2.2 (dvL_nz hn16) ?_
    refine z_topl (y := i8 (Int.tdiv p0 p1)) (dvL_d hn16) ?_
    refine lv_lstore (lv' := [(4, .long (i8 (Int.tdiv p0 p1))), (0, .long (i8 p0)), (2, .long (i8 p1))]) hx hb eX12_qFloor_11.1 hl (by decide) rfl (fun ls hl => ?_)
    refine lv_lload_n hx hb eX12_qFloor_11.2.1 rfl (lv_at hl 1 rfl) ?_
    refine lv_lload_n hx hb eX12_qFloor_11.2.2.1 rfl (lv_at hl 2 rfl) ?_
    obtain ⟨hn17, h⟩ := dvL_e h
    refine lv_lrem hx hb eX12_qFloor_11.2.2.2.1 (dvL_nz hn17) ?_
    refine z_topl (y := i8 (Int.tmod p0 p1)) (dvL_r hn17) ?_
    refine lv_lconst (v := 0) hx hb eX12_qFloor_11.2.2.2.2.1 (by decide) ?_
    refine W.lcmp hx hb eX12_qFloor_11.2.2.2.2.2.1 ?_
    obtain ⟨hr18, h⟩ := rgL_e h
    refine lv_if_eq (tgt := 53) hx hb eX12_qFloor_11.2.2.2.2.2.2.1 (by decide) (fun c19 => ?_) (fun c19 => ?_)
    · have h := if_t ((l_eq (x := (Int.tmod p0 p1)) (y := 0) hr18 (by decide)).mp c19) h
      exact J53 (Int.tdiv p0 p1) _ _ _ ⟨hP, hS, lv_sub hl [0] rfl, h⟩
    · have h := if_f (mt (l_eq (x := (Int.tmod p0 p1)) (y := 0) hr18 (by decide)).mpr c19) h
      refine lv_lload_n hx hb eX12_qFloor_11.2.2.2.2.2.2.2 rfl (lv_at hl 1 rfl) ?_
      refine lv_lconst (v := 0) hx hb eX12_qFloor_22.1 (by decide) ?_
      refine W.lcmp hx hb eX12_qFloor_22.2.1 ?_
      obtain ⟨hr20, h⟩ := rgL_e h
      refine lv_if_ge (tgt := 31) hx hb eX12_qFloor_22.2.2.1 (by decide) (fun c21 => ?_) (fun c21 => ?_)
      · have h := if_t ((l_ge (x := p0) (y := 0) hr20 (by decide)).mp c21) h
        refine lv_iconst (v := 0) hx hb eX12_qFloor_22.2.2.2.2.2.1 (by decide) ?_
        exact J32 (p1, Int.tdiv p0 p1, 0) _ _ _ ⟨hP, hS, lv_sub hl [2, 0] rfl, h⟩
      · have h := if_f (mt (l_ge (x := p0) (y := 0) hr20 (by decide)).mpr c21) h
        refine lv_iconst (v := 1) hx hb eX12_qFloor_22.2.2.2.1 (by decide) ?_
        refine lv_goto (tgt := 32) hx hb eX12_qFloor_22.2.2.2.2.1 (by decide) ?_
        exact J32 (p1, Int.tdiv p0 p1, 1) _ _ _ ⟨hP, hS, lv_sub hl [2, 0] rfl, h⟩
  · have h := if_t ((l_eq (x := p1) (y := 0) hr14 (by decide)).mp c15) h
    refine lv_lconst (v := 0) hx hb eX12_qFloor_1.2.2.2.1 (by decide) ?_
    obtain rfl := Option.some.inj h
    exact W.lret (v := 0) hx hb hr (fun t ht hW => ⟨⟨_, (), rfl, rfl, trivial⟩, hS.F ht⟩) hS.2.2 eX12_qFloor_1.2.2.2.2.1
set_option maxHeartbeats 4000000 in
set_option maxRecDepth 100000 in
theorem k_x12_qJoins (l : Launch) (D : va_G) (a : Nat → Nat) (p0 : Int) (sz : Nat) (s : MS) (o : MS) (h : m_x12_qJoins p0 s = some o) : yWv l yX12_qJoins cX12_qJoins 6 none { frames := 1, cells := 0, slots := 0, locals := 60 } D sz [.ref (a 200), .int (i2 p0)] (RW D a s) (RW D a o) := by
  refine Met.ofW (cc := cX12_qJoins) (maxL := 6) (ret := none) (by decide) rfl ?_
  intro p e s₀ m args below meth c s₁ B hml hv
  obtain ⟨rfl, ⟨hsz, hP, hK, hD0⟩, hN⟩ := hv
  have hx := B.exec
  have hb := B.bytes
  have hr := B.returns
  have hts := atoms_spec (ws := wz yX12_qJoins cX12_qJoins 6 none) B.pre
  have ht : ∀ w ∈ lw_gd, w.before _ s₀ = true := fun w h => hts w (List.mem_cons_of_mem _ h)
  have hown : s₀.vm.findClass RX12 = some m.cls := findClass_of_methodNamed B.named
  have hlocks := B.notSynchronized
  subst hsz
  have hD := hD0.self (sz := s₀.heap.size)
  generalize hAe : va_A (RW D a s) s₀.heap.size = A at hD ⊢
  have hA : ∀ q : Nat, s₀.heap.size ≤ q → A q := fun q h => by rw [← hAe]; exact Or.inr h
  have hS : va_S A s₀.heap s₀.heap [] := va_S.rf
  have hDD : ∀ t : MS, va_D A (RW D a t) := fun t => RW_D t hD
  have hl := lv_entry ([.ref (a 200), .int (i2 p0)]) (n := 6) (Nat.le_of_ble_eq_true rfl)
  rw [lg_entry_eq]
  generalize (lg_sl ([.ref (a 200), .int (i2 p0)]) ++ List.replicate (6 - (lg_sl ([.ref (a 200), .int (i2 p0)])).length) Slot.unset).toArray = ls at hl ⊢
  have hl : lv_has ls 6 [(0, .ref (a 200)), (1, .int (i2 p0))] := hl
  unfold m_x12_qJoins at h
  refine y_head (pcJ := 273) (σ := MS) (fun u H locs ls => va_P D vwCl (RW D a u) H ∧ va_S A s₀.heap H locs ∧ lv_has ls 6 [] ∧ m_x12_qJoins_J273 u = some o) (fun u => []) (fun u H locs ls hI => ?_) (fun J273 => ?_)
  · obtain ⟨hP, hS, hl, h⟩ := hI
    obtain ⟨s1, rfl⟩ : ∃ z, z = u := ⟨u, rfl⟩
    have hP : va_P D vwCl (RW D a s1) H := hP
    have hl : lv_has ls 6 [] := hl
    have h : m_x12_qJoins_J273 s1 = some o := h
    unfold m_x12_qJoins_J273 at h
    obtain rfl := Option.some.inj h
    exact W.vret hx hb hr (fun t ht hW => ⟨⟨(), rfl, trivial, by rw [ht]; exact hP, va_K.moved hW.alike hK, hDD _⟩, hS.F ht⟩) hS.2.2 eX12_qJoins_269.2.2.1
  refine y_head (pcJ := 270) (σ := Int × MS) (fun u H locs ls => va_P D vwCl (RW D a u.2) H ∧ va_S A s₀.heap H locs ∧ lv_has ls 6 [] ∧ m_x12_qJoins_J270 u.1 u.2 = some o) (fun u => [.long (i8 u.1), .ref (a 200)]) (fun u H locs ls hI => ?_) (fun J270 => ?_)
  · obtain ⟨hP, hS, hl, h⟩ := hI
    obtain ⟨z2, s3⟩ := u
    have hP : va_P D vwCl (RW D a s3) H := hP
    have hl : lv_has ls 6 [] := hl
    have h : m_x12_qJoins_J270 z2 s3 = some o := h
    unfold m_x12_qJoins_J270 at h
    obtain ⟨s5, hc4, h⟩ := bn_e h
    refine ywVv (As := [.long (i8 z2)]) (rest := []) (C := RX12) (n := 1) (ws' := RW D a s5) ⟨hx, hb, hml, hown, ht⟩ (k_x12_qPuts l D a z2 _ _ _ hc4) (zgV ml_X12_446 im_X12_qPuts se_X12_qPuts in_X12 co_X12_qPuts) rfl rfl (by decide +kernel) ⟨Nat.le_of_ble_eq_true rfl, Nat.le_of_ble_eq_true rfl⟩ hN hK hP (hDD _) hS hA 0 RW_0 rfl rfl rfl hl.1 rfl (Nat.le_of_ble_eq_true rfl) eX12_qJoins_269.2.1 ⟨Nat.le_of_ble_eq_true rfl, Nat.le_of_ble_eq_true rfl⟩ (fun H locs hP hS => ?_)
    exact J273 s5 _ _ _ ⟨hP, hS, lv_sub hl [] rfl, h⟩
  refine y_head (pcJ := 238) (σ := Int × MS) (fun u H locs ls => va_P D vwCl (RW D a u.2) H ∧ va_S A s₀.heap H locs ∧ lv_has ls 6 [] ∧ m_x12_qJoins_J238 u.1 u.2 = some o) (fun u => [.long (i8 u.1), .ref (a 200)]) (fun u H locs ls hI => ?_) (fun J238 => ?_)
  · obtain ⟨hP, hS, hl, h⟩ := hI
    obtain ⟨z6, s7⟩ := u
    have hP : va_P D vwCl (RW D a s7) H := hP
    have hl : lv_has ls 6 [] := hl
    have h : m_x12_qJoins_J238 z6 s7 = some o := h
    unfold m_x12_qJoins_J238 at h
    obtain ⟨s9, hc8, h⟩ := bn_e h
    refine ywVv (As := [.long (i8 z6)]) (rest := []) (C := RX12) (n := 1) (ws' := RW D a s9) ⟨hx, hb, hml, hown, ht⟩ (k_x12_qPuts l D a z6 _ _ _ hc8) (zgV ml_X12_446 im_X12_qPuts se_X12_qPuts in_X12 co_X12_qPuts) rfl rfl (by decide +kernel) ⟨Nat.le_of_ble_eq_true rfl, Nat.le_of_ble_eq_true rfl⟩ hN hK hP (hDD _) hS hA 0 RW_0 rfl rfl rfl hl.1 rfl (Nat.le_of_ble_eq_true rfl) eX12_qJoins_226.2.2.2.2.2.2.2 ⟨Nat.le_of_ble_eq_true rfl, Nat.le_of_ble_eq_true rfl⟩ (fun H locs hP hS => ?_)
    refine lv_goto (tgt := 273) hx hb eX12_qJoins_241.1 (by decide) ?_
    exact J273 s9 _ _ _ ⟨hP, hS, lv_sub hl [] rfl, h⟩
  refine y_head (pcJ := 219) (σ := Int × MS) (fun u H locs ls => va_P D vwCl (RW D a u.2) H ∧ va_S A s₀.heap H locs ∧ lv_has ls 6 [] ∧ m_x12_qJoins_J219 u.1 u.2 = some o) (fun u => [.long (i8 u.1), .ref (a 200)]) (fun u H locs ls hI => ?_) (fun J219 => ?_)
  · obtain ⟨hP, hS, hl, h⟩ := hI
    obtain ⟨z10, s11⟩ := u
    have hP : va_P D vwCl (RW D a s11) H := hP
    have hl : lv_has ls 6 [] := hl
    have h : m_x12_qJoins_J219 z10 s11 = some o := h
    unfold m_x12_qJoins_J219 at h
    obtain ⟨s13, hc12, h⟩ := bn_e h
    refine ywVv (As := [.long (i8 z10)]) (rest := []) (C := RX12) (n := 1) (ws' := RW D a s13) ⟨hx, hb, hml, hown, ht⟩ (k_x12_qPuts l D a z10 _ _ _ hc12) (zgV ml_X12_446 im_X12_qPuts se_X12_qPuts in_X12 co_X12_qPuts) rfl rfl (by decide +kernel) ⟨Nat.le_of_ble_eq_true rfl, Nat.le_of_ble_eq_true rfl⟩ hN hK hP (hDD _) hS hA 0 RW_0 rfl rfl rfl hl.1 rfl (Nat.le_of_ble_eq_true rfl) eX12_qJoins_210.2.2.2.2.2.1 ⟨Nat.le_of_ble_eq_true rfl, Nat.le_of_ble_eq_true rfl⟩ (fun H locs hP hS => ?_)
    refine lv_goto (tgt := 273) hx hb eX12_qJoins_210.2.2.2.2.2.2.1 (by decide) ?_
    exact J273 s13 _ _ _ ⟨hP, hS, lv_sub hl [] rfl, h⟩
  refine y_head (pcJ := 200) (σ := Int × MS) (fun u H locs ls => va_P D vwCl (RW D a u.2) H ∧ va_S A s₀.heap H locs ∧ lv_has ls 6 [] ∧ m_x12_qJoins_J200 u.1 u.2 = some o) (fun u => [.long (i8 u.1), .ref (a 200)]) (fun u H locs ls hI => ?_) (fun J200 => ?_)
  · obtain ⟨hP, hS, hl, h⟩ := hI
    obtain ⟨z14, s15⟩ := u
    have hP : va_P D vwCl (RW D a s15) H := hP
    have hl : lv_has ls 6 [] := hl
    have h : m_x12_qJoins_J200 z14 s15 = some o := h
    unfold m_x12_qJoins_J200 at h
    obtain ⟨s17, hc16, h⟩ := bn_e h
    refine ywVv (As := [.long (i8 z14)]) (rest := []) (C := RX12) (n := 1) (ws' := RW D a s17) ⟨hx, hb, hml, hown, ht⟩ (k_x12_qPuts l D a z14 _ _ _ hc16) (zgV ml_X12_446 im_X12_qPuts se_X12_qPuts in_X12 co_X12_qPuts) rfl rfl (by decide +kernel) ⟨Nat.le_of_ble_eq_true rfl, Nat.le_of_ble_eq_true rfl⟩ hN hK hP (hDD _) hS hA 0 RW_0 rfl rfl rfl hl.1 rfl (Nat.le_of_ble_eq_true rfl) eX12_qJoins_195.2.2.2.1 ⟨Nat.le_of_ble_eq_true rfl, Nat.le_of_ble_eq_true rfl⟩ (fun H locs hP hS => ?_)
    refine lv_goto (tgt := 273) hx hb eX12_qJoins_195.2.2.2.2.1 (by decide) ?_
    exact J273 s17 _ _ _ ⟨hP, hS, lv_sub hl [] rfl, h⟩
  refine y_head (pcJ := 181) (σ := Int × MS) (fun u H locs ls => va_P D vwCl (RW D a u.2) H ∧ va_S A s₀.heap H locs ∧ lv_has ls 6 [] ∧ m_x12_qJoins_J181 u.1 u.2 = some o) (fun u => [.long (i8 u.1), .ref (a 200)]) (fun u H locs ls hI => ?_) (fun J181 => ?_)
  · obtain ⟨hP, hS, hl, h⟩ := hI
    obtain ⟨z18, s19⟩ := u
    have hP : va_P D vwCl (RW D a s19) H := hP
    have hl : lv_has ls 6 [] := hl
    have h : m_x12_qJoins_J181 z18 s19 = some o := h
    unfold m_x12_qJoins_J181 at h
    obtain ⟨s21, hc20, h⟩ := bn_e h
    refine ywVv (As := [.long (i8 z18)]) (rest := []) (C := RX12) (n := 1) (ws' := RW D a s21) ⟨hx, hb, hml, hown, ht⟩ (k_x12_qPuts l D a z18 _ _ _ hc20) (zgV ml_X12_446 im_X12_qPuts se_X12_qPuts in_X12 co_X12_qPuts) rfl rfl (by decide +kernel) ⟨Nat.le_of_ble_eq_true rfl, Nat.le_of_ble_eq_true rfl⟩ hN hK hP (hDD _) hS hA 0 RW_0 rfl rfl rfl hl.1 rfl (Nat.le_of_ble_eq_true rfl) eX12_qJoins_180.2.1 ⟨Nat.le_of_ble_eq_true rfl, Nat.le_of_ble_eq_true rfl⟩ (fun H locs hP hS => ?_)
    refine lv_goto (tgt := 273) hx hb eX12_qJoins_180.2.2.1 (by decide) ?_
    exact J273 s21 _ _ _ ⟨hP, hS, lv_sub hl [] rfl, h⟩
  refine y_head (pcJ := 161) (σ := Int × MS) (fun u H locs ls => va_P D vwCl (RW D a u.2) H ∧ va_S A s₀.heap H locs ∧ lv_has ls 6 [] ∧ m_x12_qJoins_J161 u.1 u.2 = some o) (fun u => [.long (i8 u.1), .ref (a 200)]) (fun u H locs ls hI => ?_) (fun J161 => ?_)
  · obtain ⟨hP, hS, hl, h⟩ := hI
    obtain ⟨z22, s23⟩ := u
    have hP : va_P D vwCl (RW D a s23) H := hP
    have hl : lv_has ls 6 [] := hl
    have h : m_x12_qJoins_J161 z22 s23 = some o := h
    unfold m_x12_qJoins_J161 at h
    obtain ⟨s25, hc24, h⟩ := bn_e h
    refine ywVv (As := [.long (i8 z22)]) (rest := []) (C := RX12) (n := 1) (ws' := RW D a s25) ⟨hx, hb, hml, hown, ht⟩ (k_x12_qPuts l D a z22 _ _ _ hc24) (zgV ml_X12_446 im_X12_qPuts se_X12_qPuts in_X12 co_X12_qPuts) rfl rfl (by decide +kernel) ⟨Nat.le_of_ble_eq_true rfl, Nat.le_of_ble_eq_true rfl⟩ hN hK hP (hDD _) hS hA 0 RW_0 rfl rfl rfl hl.1 rfl (Nat.le_of_ble_eq_true rfl) eX12_qJoins_148.2.2.2.2.2.2.2 ⟨Nat.le_of_ble_eq_true rfl, Nat.le_of_ble_eq_true rfl⟩ (fun H locs hP hS => ?_)
    refine lv_goto (tgt := 273) hx hb eX12_qJoins_164.1 (by decide) ?_
    exact J273 s25 _ _ _ ⟨hP, hS, lv_sub hl [] rfl, h⟩
  refine lv_aload_n hx hb eX12_qFloor_49.2.2.2.2.1 rfl (lv_at hl 0 rfl) ?_
  refine va_get (D := D) (ci := 12) (v := .ref (a 107)) (C := RX12) (T := TX12) (N := 116) hx hb ht inX12 hown hK hP 0 RW_0 rfl 107 (by decide) (ht (.fieldLink RX12 249 "CloneVolumesModel" "qPile" "[J") fl_X12_249) (fun _ h9 => h9) mF_107 eX12_qFloor_49.2.2.2.2.2.1 ?_
  refine lv_aload_n hx hb eX12_qFloor_49.2.2.2.2.2.2.1 rfl (lv_at hl 0 rfl) ?_
  refine va_get (D := D) (ci := 12) (v := .int (i2 (gI s 108))) (C := RX12) (T := TX12) (N := 116) hx hb ht inX12 hown hK hP 0 RW_0 rfl 108 (by decide) (ht (.fieldLink RX12 443 "CloneVolumesModel" "qPiled" "I") fl_X12_443) (fun _ h9 => h9) mF_108 eX12_qFloor_49.2.2.2.2.2.2.2 ?_
  refine lv_iconst (v := 1) hx hb eX12_qJoins_8.1 (by decide) ?_
  refine lv_isub hx hb eX12_qJoins_8.2.1 ?_
  refine z_topi (y := i2 ((gI s 108) - 1)) (i2_sub (gI s 108) 1) ?_
  obtain ⟨yl26, eyl26, iyl26, h⟩ := rdL_e h
  refine ya_lald (i := ((gI s 108) - 1)) hx hb hK hP 77 2 RW_77 rfl (by decide) eyl26 iyl26 eX12_qJoins_8.2.2.1 ?_
  refine lv_lstore_n (lv' := [(2, .long (i8 yl26)), (0, .ref (a 200)), (1, .int (i2 p0))]) hx hb eX12_qJoins_8.2.2.2.1 rfl hl (by decide) rfl (fun ls hl => ?_)
  refine lv_aload_n hx hb eX12_qJoins_8.2.2.2.2.1 rfl (lv_at hl 1 rfl) ?_
  refine va_get (D := D) (ci := 12) (v := .ref (a 107)) (C := RX12) (T := TX12) (N := 116) hx hb ht inX12 hown hK hP 0 RW_0 rfl 107 (by decide) (ht (.fieldLink RX12 249 "CloneVolumesModel" "qPile" "[J") fl_X12_249) (fun _ h9 => h9) mF_107 eX12_qJoins_8.2.2.2.2.2.1 ?_
  refine lv_aload_n hx hb eX12_qJoins_8.2.2.2.2.2.2.1 rfl (lv_at hl 1 rfl) ?_
  refine va_get (D := D) (ci := 12) (v := .int (i2 (gI s 108))) (C := RX12) (T := TX12) (N := 116) hx hb ht inX12 hown hK hP 0 RW_0 rfl 108 (by decide) (ht (.fieldLink RX12 443 "CloneVolumesModel" "qPiled" "I") fl_X12_443) (fun _ h9 => h9) mF_108 eX12_qJoins_8.2.2.2.2.2.2.2 ?_
  refine lv_iconst (v := 2) hx hb eX12_qJoins_20.1 (by decide) ?_
  refine lv_isub hx hb eX12_qJoins_20.2.1 ?_
  refine z_topi (y := i2 ((gI s 108) - 2)) (i2_sub (gI s 108) 2) ?_
  obtain ⟨yl27, eyl27, iyl27, h⟩ := rdL_e h
  refine ya_lald (i := ((gI s 108) - 2)) hx hb hK hP 77 2 RW_77 rfl (by decide) eyl27 iyl27 eX12_qJoins_20.2.2.1 ?_
  refine lv_lstore (lv' := [(4, .long (i8 yl27)), (2, .long (i8 yl26)), (0, .ref (a 200)), (1, .int (i2 p0))]) hx hb eX12_qJoins_20.2.2.2.1 hl (by decide) rfl (fun ls hl => ?_)
  refine lv_aload_n hx hb eX12_qJoins_20.2.2.2.2.1 rfl (lv_at hl 2 rfl) ?_
  refine lv_dup hx hb eX12_qJoins_20.2.2.2.2.2.1 rfl ?_
  refine va_get (D := D) (ci := 12) (v := .int (i2 (gI s 108))) (C := RX12) (T := TX12) (N := 116) hx hb ht inX12 hown hK hP 0 RW_0 rfl 108 (by decide) (ht (.fieldLink RX12 443 "CloneVolumesModel" "qPiled" "I") fl_X12_443) (fun _ h9 => h9) mF_108 eX12_qJoins_20.2.2.2.2.2.2.1 ?_
  refine lv_iconst (v := 2) hx hb eX12_qJoins_20.2.2.2.2.2.2.2 (by decide) ?_
  refine lv_isub hx hb eX12_qJoins_31.1 ?_
  refine z_topi (y := i2 ((gI s 108) - 2)) (i2_sub (gI s 108) 2) ?_
  refine ya_put (D := D) (ci := 12) (v := .int (i2 ((gI s 108) - 2))) (ty := .int) (C := RX12) (T := TX12) (N := 116) hx hb ht inX12 tyX12 tyX12_ok nmX12 hown hK hP (hDD _) hS 0 RW_0 rfl 108 (by decide) (ht (.fieldLink RX12 443 "CloneVolumesModel" "qPiled" "I") fl_X12_443) (fun _ h9 => h9) rfl (by decide +kernel) rfl rfl (by rw [mF_len]; decide) eX12_qJoins_31.2.1 (RW_f108 ((gI s 108) - 2)) (fun H locs hP hS => ?_)
  obtain ⟨s28, hs28, h⟩ := st_e h
  rw [hs28] at hP
  refine lv_iload_n hx hb eX12_qJoins_31.2.2.1 rfl (lv_at hl 3 rfl) ?_
  obtain ⟨hr29, h⟩ := rg_e h
  by_cases c30 : p0 = 1
  · have h := if_t c30 h
    refine lv_tableIn (off := 56) (tgt := 92) hx hb eX12_qJoins_31.2.2.2.1 (by rw [c30]; decide) (by rw [c30]; decide) (by rw [c30]; decide) (by decide) ?_
    refine lv_aload_n hx hb eX12_qJoins_31.2.2.2.2.1 rfl (lv_at hl 2 rfl) ?_
    refine lv_lload hx hb eX12_qJoins_31.2.2.2.2.2.1 (lv_at hl 0 rfl) ?_
    refine lv_lload_n hx hb eX12_qJoins_31.2.2.2.2.2.2.1 rfl (lv_at hl 1 rfl) ?_
    refine lv_ladd hx hb eX12_qJoins_31.2.2.2.2.2.2.2 ?_
    refine z_topl (y := i8 (yl27 + yl26)) (i8_add yl27 yl26) ?_
    obtain ⟨rl32, hc31, h⟩ := bn_e h
    refine ycSl (r0 := i8 rl32) (As := [.long (i8 (yl27 + yl26))]) (rest := [.ref (a 200)]) (n := 1) ⟨hx, hb, hml, hown, ht⟩ (k_x12_qClip l D a (yl27 + yl26) _ _ hc31) (zgT ml_X12_751 st_X12_qClip in_X12 co_X12_qClip) rfl rfl (by decide +kernel) ⟨Nat.le_of_ble_eq_true rfl, Nat.le_of_ble_eq_true rfl⟩ hN hK hP hS rfl hl.1 rfl (Nat.le_of_ble_eq_true rfl) eX12_qJoins_97.1 ⟨Nat.le_of_ble_eq_true rfl, Nat.le_of_ble_eq_true rfl⟩ (fun H locs hP hS => ?_)
    obtain ⟨s34, hc33, h⟩ := bn_e h
    refine ywVv (As := [.long (i8 rl32)]) (rest := []) (C := RX12) (n := 1) (ws' := RW D a s34) ⟨hx, hb, hml, hown, ht⟩ (k_x12_qPuts l D a rl32 _ _ _ hc33) (zgV ml_X12_446 im_X12_qPuts se_X12_qPuts in_X12 co_X12_qPuts) rfl rfl (by decide +kernel) ⟨Nat.le_of_ble_eq_true rfl, Nat.le_of_ble_eq_true rfl⟩ hN hK hP (hDD _) hS hA 0 RW_0 rfl rfl rfl hl.1 rfl (Nat.le_of_ble_eq_true rfl) eX12_qJoins_97.2.1 ⟨Nat.le_of_ble_eq_true rfl, Nat.le_of_ble_eq_true rfl⟩ (fun H locs hP hS => ?_)
    refine lv_goto (tgt := 273) hx hb eX12_qJoins_97.2.2.1 (by decide) ?_
    exact J273 s34 _ _ _ ⟨hP, hS, lv_sub hl [] rfl, h⟩
  · have h := if_f c30 h
    by_cases c35 : p0 = 2
    · have h := if_t c35 h
      refine lv_tableIn (off := 70) (tgt := 106) hx hb eX12_qJoins_31.2.2.2.1 (by rw [c35]; decide) (by rw [c35]; decide) (by rw [c35]; decide) (by decide) ?_
      refine lv_aload_n hx hb eX12_qJoins_97.2.2.2.1 rfl (lv_at hl 2 rfl) ?_
      refine lv_lload hx hb eX12_qJoins_97.2.2.2.2.1 (lv_at hl 0 rfl) ?_
      refine lv_lload_n hx hb eX12_qJoins_97.2.2.2.2.2.1 rfl (lv_at hl 1 rfl) ?_
      refine lv_lsub hx hb eX12_qJoins_97.2.2.2.2.2.2.1 ?_
      refine z_topl (y := i8 (yl27 - yl26)) (i8_sub yl27 yl26) ?_
      obtain ⟨rl37, hc36, h⟩ := bn_e h
      refine ycSl (r0 := i8 rl37) (As := [.long (i8 (yl27 - yl26))]) (rest := [.ref (a 200)]) (n := 1) ⟨hx, hb, hml, hown, ht⟩ (k_x12_qClip l D a (yl27 - yl26) _ _ hc36) (zgT ml_X12_751 st_X12_qClip in_X12 co_X12_qClip) rfl rfl (by decide +kernel) ⟨Nat.le_of_ble_eq_true rfl, Nat.le_of_ble_eq_true rfl⟩ hN hK hP hS rfl hl.1 rfl (Nat.le_of_ble_eq_true rfl) eX12_qJoins_97.2.2.2.2.2.2.2 ⟨Nat.le_of_ble_eq_true rfl, Nat.le_of_ble_eq_true rfl⟩ (fun H locs hP hS => ?_)
      obtain ⟨s39, hc38, h⟩ := bn_e h
      refine ywVv (As := [.long (i8 rl37)]) (rest := []) (C := RX12) (n := 1) (ws' := RW D a s39) ⟨hx, hb, hml, hown, ht⟩ (k_x12_qPuts l D a rl37 _ _ _ hc38) (zgV ml_X12_446 im_X12_qPuts se_X12_qPuts in_X12 co_X12_qPuts) rfl rfl (by decide +kernel) ⟨Nat.le_of_ble_eq_true rfl, Nat.le_of_ble_eq_true rfl⟩ hN hK hP (hDD _) hS hA 0 RW_0 rfl rfl rfl hl.1 rfl (Nat.le_of_ble_eq_true rfl) eX12_qJoins_114.1 ⟨Nat.le_of_ble_eq_true rfl, Nat.le_of_ble_eq_true rfl⟩ (fun H locs hP hS => ?_)
      refine lv_goto (tgt := 273) hx hb eX12_qJoins_114.2.1 (by decide) ?_
      exact J273 s39 _ _ _ ⟨hP, hS, lv_sub hl [] rfl, h⟩
    · have h := if_f c35 h
      by_cases c40 : p0 = 3
      · have h := if_t c40 h
        refine lv_tableIn (off := 84) (tgt := 120) hx hb eX12_qJoins_31.2.2.2.1 (by rw [c40]; decide) (by rw [c40]; decide) (by rw [c40]; decide) (by decide) ?_
        refine lv_aload_n hx hb eX12_qJoins_114.2.2.1 rfl (lv_at hl 2 rfl) ?_
        refine lv_lload hx hb eX12_qJoins_114.2.2.2.1 (lv_at hl 0 rfl) ?_
        refine lv_lload_n hx hb eX12_qJoins_114.2.2.2.2.1 rfl (lv_at hl 1 rfl) ?_
        refine lv_lmul hx hb eX12_qJoins_114.2.2.2.2.2.1 ?_
        refine z_topl (y := i8 (yl27 * yl26)) (i8_mul yl27 yl26) ?_
        obtain ⟨rl42, hc41, h⟩ := bn_e h
        refine ycSl (r0 := i8 rl42) (As := [.long (i8 (yl27 * yl26))]) (rest := [.ref (a 200)]) (n := 1) ⟨hx, hb, hml, hown, ht⟩ (k_x12_qClip l D a (yl27 * yl26) _ _ hc41) (zgT ml_X12_751 st_X12_qClip in_X12 co_X12_qClip) rfl rfl (by decide +kernel) ⟨Nat.le_of_ble_eq_true rfl, Nat.le_of_ble_eq_true rfl⟩ hN hK hP hS rfl hl.1 rfl (Nat.le_of_ble_eq_true rfl) eX12_qJoins_114.2.2.2.2.2.2.1 ⟨Nat.le_of_ble_eq_true rfl, Nat.le_of_ble_eq_true rfl⟩ (fun H locs hP hS => ?_)
        obtain ⟨s44, hc43, h⟩ := bn_e h
        refine ywVv (As := [.long (i8 rl42)]) (rest := []) (C := RX12) (n := 1) (ws' := RW D a s44) ⟨hx, hb, hml, hown, ht⟩ (k_x12_qPuts l D a rl42 _ _ _ hc43) (zgV ml_X12_446 im_X12_qPuts se_X12_qPuts in_X12 co_X12_qPuts) rfl rfl (by decide +kernel) ⟨Nat.le_of_ble_eq_true rfl, Nat.le_of_ble_eq_true rfl⟩ hN hK hP (hDD _) hS hA 0 RW_0 rfl rfl rfl hl.1 rfl (Nat.le_of_ble_eq_true rfl) eX12_qJoins_114.2.2.2.2.2.2.2 ⟨Nat.le_of_ble_eq_true rfl, Nat.le_of_ble_eq_true rfl⟩ (fun H locs hP hS => ?_)
        refine lv_goto (tgt := 273) hx hb eX12_qJoins_131.1 (by decide) ?_
        exact J273 s44 _ _ _ ⟨hP, hS, lv_sub hl [] rfl, h⟩
      · have h := if_f c40 h
        by_cases c45 : p0 = 4
        · have h := if_t c45 h
          refine lv_tableIn (off := 98) (tgt := 134) hx hb eX12_qJoins_31.2.2.2.1 (by rw [c45]; decide) (by rw [c45]; decide) (by rw [c45]; decide) (by decide) ?_
          refine lv_aload_n hx hb eX12_qJoins_131.2.1 rfl (lv_at hl 2 rfl) ?_
          refine lv_lload hx hb eX12_qJoins_131.2.2.1 (lv_at hl 0 rfl) ?_
          refine lv_lload_n hx hb eX12_qJoins_131.2.2.2.1 rfl (lv_at hl 1 rfl) ?_
          obtain ⟨rl47, hc46, h⟩ := bn_e h
          refine ycSl (r0 := i8 rl47) (As := [.long (i8 yl27), .long (i8 yl26)]) (rest := [.ref (a 200)]) (n := 2) ⟨hx, hb, hml, hown, ht⟩ (k_x12_qFloor l D a yl27 yl26 _ _ hc46) (zgT ml_X12_755 st_X12_qFloor in_X12 co_X12_qFloor) rfl rfl (by decide +kernel) ⟨Nat.le_of_ble_eq_true rfl, Nat.le_of_ble_eq_true rfl⟩ hN hK hP hS rfl hl.1 rfl (Nat.le_of_ble_eq_true rfl) eX12_qJoins_131.2.2.2.2.1 ⟨Nat.le_of_ble_eq_true rfl, Nat.le_of_ble_eq_true rfl⟩ (fun H locs hP hS => ?_)
          obtain ⟨s49, hc48, h⟩ := bn_e h
          refine ywVv (As := [.long (i8 rl47)]) (rest := []) (C := RX12) (n := 1) (ws' := RW D a s49) ⟨hx, hb, hml, hown, ht⟩ (k_x12_qPuts l D a rl47 _ _ _ hc48) (zgV ml_X12_446 im_X12_qPuts se_X12_qPuts in_X12 co_X12_qPuts) rfl rfl (by decide +kernel) ⟨Nat.le_of_ble_eq_true rfl, Nat.le_of_ble_eq_true rfl⟩ hN hK hP (hDD _) hS hA 0 RW_0 rfl rfl rfl hl.1 rfl (Nat.le_of_ble_eq_true rfl) eX12_qJoins_131.2.2.2.2.2.1 ⟨Nat.le_of_ble_eq_true rfl, Nat.le_of_ble_eq_true rfl⟩ (fun H locs hP hS => ?_)
          refine lv_goto (tgt := 273) hx hb eX12_qJoins_131.2.2.2.2.2.2.1 (by decide) ?_
          exact J273 s49 _ _ _ ⟨hP, hS, lv_sub hl [] rfl, h⟩
        · have h := if_f c45 h
          by_cases c50 : p0 = 5
          · have h := if_t c50 h
            refine lv_tableIn (off := 111) (tgt := 147) hx hb eX12_qJoins_31.2.2.2.1 (by rw [c50]; decide) (by rw [c50]; decide) (by rw [c50]; decide) (by decide) ?_
            refine lv_aload_n hx hb eX12_qJoins_131.2.2.2.2.2.2.2 rfl (lv_at hl 2 rfl) ?_
            refine lv_lload hx hb eX12_qJoins_148.1 (lv_at hl 0 rfl) ?_
            refine lv_lload_n hx hb eX12_qJoins_148.2.1 rfl (lv_at hl 1 rfl) ?_
            refine W.lcmp hx hb eX12_qJoins_148.2.2.1 ?_
            obtain ⟨hr51, h⟩ := rgL_e h
            obtain ⟨hr52, h⟩ := rgL_e h
            refine lv_if_ge (tgt := 160) hx hb eX12_qJoins_148.2.2.2.1 (by decide) (fun c53 => ?_) (fun c53 => ?_)
            · have h := if_t ((l_ge (x := yl27) (y := yl26) hr51 hr52).mp c53) h
              refine lv_lload_n hx hb eX12_qJoins_148.2.2.2.2.2.2.1 rfl (lv_at hl 1 rfl) ?_
              exact J161 (yl26, s28) _ _ _ ⟨hP, hS, lv_sub hl [] rfl, h⟩
            · have h := if_f (mt (l_ge (x := yl27) (y := yl26) hr51 hr52).mpr c53) h
              refine lv_lload hx hb eX12_qJoins_148.2.2.2.2.1 (lv_at hl 0 rfl) ?_
              refine lv_goto (tgt := 161) hx hb eX12_qJoins_148.2.2.2.2.2.1 (by decide) ?_
              exact J161 (yl27, s28) _ _ _ ⟨hP, hS, lv_sub hl [] rfl, h⟩
          · have h := if_f c50 h
            by_cases c54 : p0 = 6
            · have h := if_t c54 h
              refine lv_tableIn (off := 131) (tgt := 167) hx hb eX12_qJoins_31.2.2.2.1 (by rw [c54]; decide) (by rw [c54]; decide) (by rw [c54]; decide) (by decide) ?_
              refine lv_aload_n hx hb eX12_qJoins_164.2.1 rfl (lv_at hl 2 rfl) ?_
              refine lv_lload hx hb eX12_qJoins_164.2.2.1 (lv_at hl 0 rfl) ?_
              refine lv_lload_n hx hb eX12_qJoins_164.2.2.2.1 rfl (lv_at hl 1 rfl) ?_
              refine W.lcmp hx hb eX12_qJoins_164.2.2.2.2.1 ?_
              obtain ⟨hr55, h⟩ := rgL_e h
              obtain ⟨hr56, h⟩ := rgL_e h
              refine lv_if_le (tgt := 180) hx hb eX12_qJoins_164.2.2.2.2.2.1 (by decide) (fun c57 => ?_) (fun c57 => ?_)
              · have h := if_t ((l_le (x := yl27) (y := yl26) hr55 hr56).mp c57) h
                refine lv_lload_n hx hb eX12_qJoins_180.1 rfl (lv_at hl 1 rfl) ?_
                exact J181 (yl26, s28) _ _ _ ⟨hP, hS, lv_sub hl [] rfl, h⟩
              · have h := if_f (mt (l_le (x := yl27) (y := yl26) hr55 hr56).mpr c57) h
                refine lv_lload hx hb eX12_qJoins_164.2.2.2.2.2.2.1 (lv_at hl 0 rfl) ?_
                refine lv_goto (tgt := 181) hx hb eX12_qJoins_164.2.2.2.2.2.2.2 (by decide) ?_
                exact J181 (yl27, s28) _ _ _ ⟨hP, hS, lv_sub hl [] rfl, h⟩
            · have h := if_f c54 h
              by_cases c58 : p0 = 7
              · have h := if_t c58 h
                refine lv_tableIn (off := 151) (tgt := 187) hx hb eX12_qJoins_31.2.2.2.1 (by rw [c58]; decide) (by rw [c58]; decide) (by rw [c58]; decide) (by decide) ?_
                refine lv_aload_n hx hb eX12_qJoins_180.2.2.2.1 rfl (lv_at hl 2 rfl) ?_
                refine lv_lload hx hb eX12_qJoins_180.2.2.2.2.1 (lv_at hl 0 rfl) ?_
                refine lv_lload_n hx hb eX12_qJoins_180.2.2.2.2.2.1 rfl (lv_at hl 1 rfl) ?_
                refine W.lcmp hx hb eX12_qJoins_180.2.2.2.2.2.2.1 ?_
                obtain ⟨hr59, h⟩ := rgL_e h
                obtain ⟨hr60, h⟩ := rgL_e h
                refine lv_if_ge (tgt := 199) hx hb eX12_qJoins_180.2.2.2.2.2.2.2 (by decide) (fun c61 => ?_) (fun c61 => ?_)
                · have h := if_t ((l_ge (x := yl27) (y := yl26) hr59 hr60).mp c61) h
                  refine lv_lconst (v := 0) hx hb eX12_qJoins_195.2.2.1 (by decide) ?_
                  exact J200 (0, s28) _ _ _ ⟨hP, hS, lv_sub hl [] rfl, h⟩
                · have h := if_f (mt (l_ge (x := yl27) (y := yl26) hr59 hr60).mpr c61) h
                  refine lv_lconst (v := 1) hx hb eX12_qJoins_195.1 (by decide) ?_
                  refine lv_goto (tgt := 200) hx hb eX12_qJoins_195.2.1 (by decide) ?_
                  exact J200 (1, s28) _ _ _ ⟨hP, hS, lv_sub hl [] rfl, h⟩
              · have h := if_f c58 h
                by_cases c62 : p0 = 8
                · have h := if_t c62 h
                  refine lv_tableIn (off := 170) (tgt := 206) hx hb eX12_qJoins_31.2.2.2.1 (by rw [c62]; decide) (by rw [c62]; decide) (by rw [c62]; decide) (by decide) ?_
                  refine lv_aload_n hx hb eX12_qJoins_195.2.2.2.2.2.1 rfl (lv_at hl 2 rfl) ?_
                  refine lv_lload hx hb eX12_qJoins_195.2.2.2.2.2.2.1 (lv_at hl 0 rfl) ?_
                  refine lv_lload_n hx hb eX12_qJoins_195.2.2.2.2.2.2.2 rfl (lv_at hl 1 rfl) ?_
                  refine W.lcmp hx hb eX12_qJoins_210.1 ?_
                  obtain ⟨hr63, h⟩ := rgL_e h
                  obtain ⟨hr64, h⟩ := rgL_e h
                  refine lv_if_le (tgt := 218) hx hb eX12_qJoins_210.2.1 (by decide) (fun c65 => ?_) (fun c65 => ?_)
                  · have h := if_t ((l_le (x := yl27) (y := yl26) hr63 hr64).mp c65) h
                    refine lv_lconst (v := 0) hx hb eX12_qJoins_210.2.2.2.2.1 (by decide) ?_
                    exact J219 (0, s28) _ _ _ ⟨hP, hS, lv_sub hl [] rfl, h⟩
                  · have h := if_f (mt (l_le (x := yl27) (y := yl26) hr63 hr64).mpr c65) h
                    refine lv_lconst (v := 1) hx hb eX12_qJoins_210.2.2.1 (by decide) ?_
                    refine lv_goto (tgt := 219) hx hb eX12_qJoins_210.2.2.2.1 (by decide) ?_
                    exact J219 (1, s28) _ _ _ ⟨hP, hS, lv_sub hl [] rfl, h⟩
                · have h := if_f c62 h
                  by_cases c66 : p0 = 9
                  · have h := if_t c66 h
                    refine lv_tableIn (off := 189) (tgt := 225) hx hb eX12_qJoins_31.2.2.2.1 (by rw [c66]; decide) (by rw [c66]; decide) (by rw [c66]; decide) (by decide) ?_
                    refine lv_aload_n hx hb eX12_qJoins_210.2.2.2.2.2.2.2 rfl (lv_at hl 2 rfl) ?_
                    refine lv_lload hx hb eX12_qJoins_226.1 (lv_at hl 0 rfl) ?_
                    refine lv_lload_n hx hb eX12_qJoins_226.2.1 rfl (lv_at hl 1 rfl) ?_
                    refine W.lcmp hx hb eX12_qJoins_226.2.2.1 ?_
                    obtain ⟨hr67, h⟩ := rgL_e h
                    obtain ⟨hr68, h⟩ := rgL_e h
                    refine lv_if_ne (tgt := 237) hx hb eX12_qJoins_226.2.2.2.1 (by decide) (fun c69 => ?_) (fun c69 => ?_)
                    · have h := if_f (mt (l_eq (x := yl27) (y := yl26) hr67 hr68).mpr c69) h
                      refine lv_lconst (v := 0) hx hb eX12_qJoins_226.2.2.2.2.2.2.1 (by decide) ?_
                      exact J238 (0, s28) _ _ _ ⟨hP, hS, lv_sub hl [] rfl, h⟩
                    · have h := if_t ((l_eq (x := yl27) (y := yl26) hr67 hr68).mp c69) h
                      refine lv_lconst (v := 1) hx hb eX12_qJoins_226.2.2.2.2.1 (by decide) ?_
                      refine lv_goto (tgt := 238) hx hb eX12_qJoins_226.2.2.2.2.2.1 (by decide) ?_
                      exact J238 (1, s28) _ _ _ ⟨hP, hS, lv_sub hl [] rfl, h⟩
                  · have h := if_f c66 h
                    by_cases c70 : p0 = 10
                    · have h := if_t c70 h
                      refine lv_tableIn (off := 208) (tgt := 244) hx hb eX12_qJoins_31.2.2.2.1 (by rw [c70]; decide) (by rw [c70]; decide) (by rw [c70]; decide) (by decide) ?_
                      refine lv_aload_n hx hb eX12_qJoins_241.2.1 rfl (lv_at hl 2 rfl) ?_
                      refine lv_lload hx hb eX12_qJoins_241.2.2.1 (lv_at hl 0 rfl) ?_
                      refine lv_lload_n hx hb eX12_qJoins_241.2.2.2.1 rfl (lv_at hl 1 rfl) ?_
                      refine lv_lmul hx hb eX12_qJoins_241.2.2.2.2.1 ?_
                      refine z_topl (y := i8 (yl27 * yl26)) (i8_mul yl27 yl26) ?_
                      obtain ⟨s72, hc71, h⟩ := bn_e h
                      refine ywVv (As := [.long (i8 (yl27 * yl26))]) (rest := []) (C := RX12) (n := 1) (ws' := RW D a s72) ⟨hx, hb, hml, hown, ht⟩ (k_x12_qPuts l D a (yl27 * yl26) _ _ _ hc71) (zgV ml_X12_446 im_X12_qPuts se_X12_qPuts in_X12 co_X12_qPuts) rfl rfl (by decide +kernel) ⟨Nat.le_of_ble_eq_true rfl, Nat.le_of_ble_eq_true rfl⟩ hN hK hP (hDD _) hS hA 0 RW_0 rfl rfl rfl hl.1 rfl (Nat.le_of_ble_eq_true rfl) eX12_qJoins_241.2.2.2.2.2.1 ⟨Nat.le_of_ble_eq_true rfl, Nat.le_of_ble_eq_true rfl⟩ (fun H locs hP hS => ?_)
                      refine lv_goto (tgt := 273) hx hb eX12_qJoins_241.2.2.2.2.2.2.1 (by decide) ?_
                      exact J273 s72 _ _ _ ⟨hP, hS, lv_sub hl [] rfl, h⟩
                    · have h := if_f c70 h
                      refine lv_tableOut (tgt := 255) hx hb eX12_qJoins_31.2.2.2.1 (by rw [i2_t hr29]; omega) (by decide) ?_
                      refine lv_aload_n hx hb eX12_qJoins_241.2.2.2.2.2.2.2 rfl (lv_at hl 2 rfl) ?_
                      refine lv_lload hx hb eX12_qJoins_256.1 (lv_at hl 0 rfl) ?_
                      refine lv_lload_n hx hb eX12_qJoins_256.2.1 rfl (lv_at hl 1 rfl) ?_
                      refine lv_ladd hx hb eX12_qJoins_256.2.2.1 ?_
                      refine z_topl (y := i8 (yl27 + yl26)) (i8_add yl27 yl26) ?_
                      refine lv_lconst (v := 0) hx hb eX12_qJoins_256.2.2.2.1 (by decide) ?_
                      refine W.lcmp hx hb eX12_qJoins_256.2.2.2.2.1 ?_
                      obtain ⟨hr73, h⟩ := rgL_e h
                      refine lv_if_le (tgt := 269) hx hb eX12_qJoins_256.2.2.2.2.2.1 (by decide) (fun c74 => ?_) (fun c74 => ?_)
                      · have h := if_t ((l_le (x := (yl27 + yl26)) (y := 0) hr73 (by decide)).mp c74) h
                        refine lv_lconst (v := 0) hx hb eX12_qJoins_269.1 (by decide) ?_
                        exact J270 (0, s28) _ _ _ ⟨hP, hS, lv_sub hl [] rfl, h⟩
                      · have h := if_f (mt (l_le (x := (yl27 + yl26)) (y := 0) hr73 (by decide)).mpr c74) h
                        refine lv_lconst (v := 1) hx hb eX12_qJoins_256.2.2.2.2.2.2.1 (by decide) ?_
                        refine lv_goto (tgt := 270) hx hb eX12_qJoins_256.2.2.2.2.2.2.2 (by decide) ?_
                        exact J270 (1, s28) _ _ _ ⟨hP, hS, lv_sub hl [] rfl, h⟩
