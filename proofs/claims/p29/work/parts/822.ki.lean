theorem co_X11_growTrees : Cond.code yX11_growTrees cX11_growTrees 3 none ∈ lw_gd := zm (lw_g_5 (List.mem_of_getElem? (i := 97) (by decide +kernel))) rfl
theorem co_X11_lostWith : Cond.code yX11_lostWith cX11_lostWith 4 (some .int) ∈ lw_gd := zm (lw_g_5 (List.mem_of_getElem? (i := 101) (by decide +kernel))) rfl
theorem co_X11_oneOf : Cond.code yX11_oneOf cX11_oneOf 3 (some .int) ∈ lw_gd := zm (lw_g_5 (List.mem_of_getElem? (i := 108) (by decide +kernel))) rfl
theorem co_X1_begin : Cond.code yX1_begin cX1_begin 1 none ∈ lw_gd := zm (lw_g_5 (List.mem_of_getElem? (i := 60) (by decide +kernel))) rfl
theorem co_X1_costOf : Cond.code yX1_costOf cX1_costOf 2 (some .int) ∈ lw_gd := zm (lw_g_5 (List.mem_of_getElem? (i := 81) (by decide +kernel))) rfl
theorem co_X1_isWritten : Cond.code yX1_isWritten cX1_isWritten 2 (some .boolean) ∈ lw_gd := zm (lw_g_5 (List.mem_of_getElem? (i := 68) (by decide +kernel))) rfl
theorem co_X1_plant : Cond.code yX1_plant cX1_plant 8 (some .boolean) ∈ lw_gd := zm (lw_g_4 (List.mem_of_getElem? (i := 17) (by decide +kernel))) rfl
theorem co_X1_price : Cond.code yX1_price cX1_price 3 (some .int) ∈ lw_gd := zm (lw_g_5 (List.mem_of_getElem? (i := 77) (by decide +kernel))) rfl
theorem co_X1_rehearse : Cond.code yX1_rehearse cX1_rehearse 4 (some .boolean) ∈ lw_gd := zm (lw_g_5 (List.mem_of_getElem? (i := 56) (by decide +kernel))) rfl
theorem co_X1_wouldCost : Cond.code yX1_wouldCost cX1_wouldCost 5 (some .int) ∈ lw_gd := zm (lw_g_5 (List.mem_of_getElem? (i := 73) (by decide +kernel))) rfl
theorem co_X1_wouldWrite : Cond.code yX1_wouldWrite cX1_wouldWrite 5 (some .int) ∈ lw_gd := zm (lw_g_5 (List.mem_of_getElem? (i := 52) (by decide +kernel))) rfl
theorem co_X1_wrote : Cond.code yX1_wrote cX1_wrote 3 (some .int) ∈ lw_gd := zm (lw_g_5 (List.mem_of_getElem? (i := 64) (by decide +kernel))) rfl
theorem co_X8_become : Cond.code yX8_become cX8_become 2 none ∈ lw_gd := zm (lw_g_4 (List.mem_of_getElem? (i := 10) (by decide +kernel))) rfl
theorem co_mmax : Cond.code Lib.Math.max.name Lib.Math.max.code 2 (some .int) ∈ lw_gd := zm (lw_g_5 (List.mem_of_getElem? (i := 85) (by decide +kernel))) rfl
theorem fl_X1_96 : Cond.fieldLink RX1 96 "CloneVolumes$State" "written" "J" ∈ lw_gd := zm (lw_g_2 (List.mem_of_getElem? (i := 126) (by decide +kernel))) rfl
theorem im_X11_growTrees : Cond.instanceMethod yX11_growTrees ∈ lw_gd := zm (lw_g_5 (List.mem_of_getElem? (i := 96) (by decide +kernel))) rfl
theorem im_X11_lostWith : Cond.instanceMethod yX11_lostWith ∈ lw_gd := zm (lw_g_5 (List.mem_of_getElem? (i := 100) (by decide +kernel))) rfl
theorem im_X1_begin : Cond.instanceMethod yX1_begin ∈ lw_gd := zm (lw_g_5 (List.mem_of_getElem? (i := 58) (by decide +kernel))) rfl
theorem im_X1_costOf : Cond.instanceMethod yX1_costOf ∈ lw_gd := zm (lw_g_5 (List.mem_of_getElem? (i := 80) (by decide +kernel))) rfl
theorem im_X1_isWritten : Cond.instanceMethod yX1_isWritten ∈ lw_gd := zm (lw_g_5 (List.mem_of_getElem? (i := 67) (by decide +kernel))) rfl
theorem im_X1_plant : Cond.instanceMethod yX1_plant ∈ lw_gd := zm (lw_g_4 (List.mem_of_getElem? (i := 16) (by decide +kernel))) rfl
theorem im_X1_price : Cond.instanceMethod yX1_price ∈ lw_gd := zm (lw_g_5 (List.mem_of_getElem? (i := 76) (by decide +kernel))) rfl
theorem im_X1_rehearse : Cond.instanceMethod yX1_rehearse ∈ lw_gd := zm (lw_g_5 (List.mem_of_getElem? (i := 55) (by decide +kernel))) rfl
theorem im_X1_wouldCost : Cond.instanceMethod yX1_wouldCost ∈ lw_gd := zm (lw_g_5 (List.mem_of_getElem? (i := 71) (by decide +kernel))) rfl
theorem im_X1_wouldWrite : Cond.instanceMethod yX1_wouldWrite ∈ lw_gd := zm (lw_g_5 (List.mem_of_getElem? (i := 50) (by decide +kernel))) rfl
theorem im_X1_wrote : Cond.instanceMethod yX1_wrote ∈ lw_gd := zm (lw_g_5 (List.mem_of_getElem? (i := 63) (by decide +kernel))) rfl
theorem im_X8_become : Cond.instanceMethod yX8_become ∈ lw_gd := zm (lw_g_4 (List.mem_of_getElem? (i := 8) (by decide +kernel))) rfl
theorem ml_X11_237 : Cond.methodLink RX11 237 yX1_wouldWrite ∈ lw_gd := zm (lw_g_5 (List.mem_of_getElem? (i := 49) (by decide +kernel))) rfl
theorem ml_X11_240 : Cond.methodLink RX11 240 yX1_wouldCost ∈ lw_gd := zm (lw_g_5 (List.mem_of_getElem? (i := 70) (by decide +kernel))) rfl
theorem ml_X11_243 : Cond.methodLink RX11 243 yX11_growTrees ∈ lw_gd := zm (lw_g_5 (List.mem_of_getElem? (i := 94) (by decide +kernel))) rfl
theorem ml_X11_246 : Cond.methodLink RX11 246 yX11_lostWith ∈ lw_gd := zm (lw_g_5 (List.mem_of_getElem? (i := 98) (by decide +kernel))) rfl
theorem ml_X11_249 : Cond.methodLink RX11 249 yX11_oneOf ∈ lw_gd := zm (lw_g_5 (List.mem_of_getElem? (i := 106) (by decide +kernel))) rfl
theorem ml_X1_100 : Cond.methodLink RX1 100 yX8_become ∈ lw_gd := zm (lw_g_4 (List.mem_of_getElem? (i := 7) (by decide +kernel))) rfl
theorem ml_X1_104 : Cond.methodLink RX1 104 yX1_price ∈ lw_gd := zm (lw_g_5 (List.mem_of_getElem? (i := 74) (by decide +kernel))) rfl
theorem ml_X1_108 : Cond.methodLink RX1 108 Lib.Math.min.name ∈ lw_gd := zm (lw_g_5 (List.mem_of_getElem? (i := 82) (by decide +kernel))) rfl
theorem ml_X1_114 : Cond.methodLink RX1 114 yX1_wrote ∈ lw_gd := zm (lw_g_5 (List.mem_of_getElem? (i := 61) (by decide +kernel))) rfl
theorem ml_X1_118 : Cond.methodLink RX1 118 yX1_isWritten ∈ lw_gd := zm (lw_g_5 (List.mem_of_getElem? (i := 65) (by decide +kernel))) rfl
theorem ml_X1_122 : Cond.methodLink RX1 122 yX1_costOf ∈ lw_gd := zm (lw_g_5 (List.mem_of_getElem? (i := 78) (by decide +kernel))) rfl
theorem ml_X1_126 : Cond.methodLink RX1 126 Lib.Math.max.name ∈ lw_gd := zm (lw_g_5 (List.mem_of_getElem? (i := 83) (by decide +kernel))) rfl
theorem ml_X1_129 : Cond.methodLink RX1 129 yX8_inUse ∈ lw_gd := zm (lw_g_5 (List.mem_of_getElem? (i := 69) (by decide +kernel))) rfl
theorem ml_X1_132 : Cond.methodLink RX1 132 yX1_rehearse ∈ lw_gd := zm (lw_g_5 (List.mem_of_getElem? (i := 53) (by decide +kernel))) rfl
theorem ml_X1_135 : Cond.methodLink RX1 135 yX1_begin ∈ lw_gd := zm (lw_g_5 (List.mem_of_getElem? (i := 57) (by decide +kernel))) rfl
theorem ml_X1_138 : Cond.methodLink RX1 138 yX8_valueAt ∈ lw_gd := zm (lw_g_4 (List.mem_of_getElem? (i := 120) (by decide +kernel))) rfl
theorem ml_X1_141 : Cond.methodLink RX1 141 yX1_plant ∈ lw_gd := zm (lw_g_4 (List.mem_of_getElem? (i := 14) (by decide +kernel))) rfl
theorem se_X11_growTrees : Cond.selects RX11 yX11_growTrees yX11_growTrees ∈ lw_gd := zm (List.mem_of_getElem? (i := 50) (by decide +kernel)) rfl
theorem se_X11_lostWith : Cond.selects RX11 yX11_lostWith yX11_lostWith ∈ lw_gd := zm (List.mem_of_getElem? (i := 51) (by decide +kernel)) rfl
theorem se_X1_begin : Cond.selects RX1 yX1_begin yX1_begin ∈ lw_gd := zm (lw_g_5 (List.mem_of_getElem? (i := 59) (by decide +kernel))) rfl
theorem se_X1_costOf : Cond.selects RX1 yX1_costOf yX1_costOf ∈ lw_gd := zm (List.mem_of_getElem? (i := 49) (by decide +kernel)) rfl
theorem se_X1_isWritten : Cond.selects RX1 yX1_isWritten yX1_isWritten ∈ lw_gd := zm (List.mem_of_getElem? (i := 47) (by decide +kernel)) rfl
theorem se_X1_plant : Cond.selects RX1 yX1_plant yX1_plant ∈ lw_gd := zm (List.mem_of_getElem? (i := 28) (by decide +kernel)) rfl
theorem se_X1_price : Cond.selects RX1 yX1_price yX1_price ∈ lw_gd := zm (List.mem_of_getElem? (i := 48) (by decide +kernel)) rfl
theorem se_X1_rehearse : Cond.selects RX1 yX1_rehearse yX1_rehearse ∈ lw_gd := zm (List.mem_of_getElem? (i := 45) (by decide +kernel)) rfl
theorem se_X1_wouldCost : Cond.selects RX1 yX1_wouldCost yX1_wouldCost ∈ lw_gd := zm (lw_g_5 (List.mem_of_getElem? (i := 72) (by decide +kernel))) rfl
theorem se_X1_wouldWrite : Cond.selects RX1 yX1_wouldWrite yX1_wouldWrite ∈ lw_gd := zm (lw_g_5 (List.mem_of_getElem? (i := 51) (by decide +kernel))) rfl
theorem se_X1_wrote : Cond.selects RX1 yX1_wrote yX1_wrote ∈ lw_gd := zm (List.mem_of_getElem? (i := 46) (by decide +kernel)) rfl
theorem se_X8_become : Cond.selects RX8 yX8_become yX8_become ∈ lw_gd := zm (lw_g_4 (List.mem_of_getElem? (i := 9) (by decide +kernel))) rfl
theorem st_X11_oneOf : Cond.static yX11_oneOf ∈ lw_gd := zm (lw_g_5 (List.mem_of_getElem? (i := 107) (by decide +kernel))) rfl
theorem st_mmax : Cond.static Lib.Math.max.name ∈ lw_gd := zm (lw_g_5 (List.mem_of_getElem? (i := 84) (by decide +kernel))) rfl
theorem eX11_growTrees_0 : decode cX11_growTrees 0 = .ok (.aload_n 0, 1) ∧ decode cX11_growTrees 1 = .ok (.getfield 79, 3) ∧ decode cX11_growTrees 4 = .ok (.getfield 125, 3) ∧ decode cX11_growTrees 7 = .ok (.astore_n 1, 1) ∧ decode cX11_growTrees 8 = .ok (.iconst 0, 1) ∧ decode cX11_growTrees 9 = .ok (.istore_n 2, 1) ∧ decode cX11_growTrees 10 = .ok (.iload_n 2, 1) ∧ decode cX11_growTrees 11 = .ok (.bipush 8, 2) := by decide +kernel
theorem eX11_growTrees_13 : decode cX11_growTrees 13 = .ok (.if_icmp .ge 41, 3) ∧ decode cX11_growTrees 16 = .ok (.aload_n 0, 1) ∧ decode cX11_growTrees 17 = .ok (.getfield 56, 3) ∧ decode cX11_growTrees 20 = .ok (.iload_n 2, 1) ∧ decode cX11_growTrees 21 = .ok (.aload_n 1, 1) ∧ decode cX11_growTrees 22 = .ok (.iload_n 2, 1) ∧ decode cX11_growTrees 23 = .ok (.invokevirtual 161, 3) ∧ decode cX11_growTrees 26 = .ok (.ifCond .eq 20, 3) := by decide +kernel
theorem eX11_growTrees_29 : decode cX11_growTrees 29 = .ok (.aload_n 0, 1) ∧ decode cX11_growTrees 30 = .ok (.getfield 49, 3) ∧ decode cX11_growTrees 33 = .ok (.aload_n 1, 1) ∧ decode cX11_growTrees 34 = .ok (.aload_n 1, 1) ∧ decode cX11_growTrees 35 = .ok (.getfield 165, 3) ∧ decode cX11_growTrees 38 = .ok (.iload_n 2, 1) ∧ decode cX11_growTrees 39 = .ok (.iaload, 1) ∧ decode cX11_growTrees 40 = .ok (.invokevirtual 175, 3) := by decide +kernel
theorem eX11_growTrees_43 : decode cX11_growTrees 43 = .ok (.goto 4, 3) ∧ decode cX11_growTrees 46 = .ok (.lconst 0, 1) ∧ decode cX11_growTrees 47 = .ok (.lastore, 1) ∧ decode cX11_growTrees 48 = .ok (.iinc 2 1, 3) ∧ decode cX11_growTrees 51 = .ok (.goto (-41), 3) ∧ decode cX11_growTrees 54 = .ok (.return_, 1) ∧ decode cX11_lost 0 = .ok (.aload_n 0, 1) ∧ decode cX11_lost 1 = .ok (.getfield 79, 3) := by decide +kernel
theorem eX11_lost_4 : decode cX11_lost 4 = .ok (.getfield 125, 3) ∧ decode cX11_lost 7 = .ok (.iload_n 1, 1) ∧ decode cX11_lost 8 = .ok (.invokevirtual 188, 3) ∧ decode cX11_lost 11 = .ok (.ifCond .ne 5, 3) ∧ decode cX11_lost 14 = .ok (.iconst (-1), 1) ∧ decode cX11_lost 15 = .ok (.ireturn, 1) ∧ decode cX11_lost 16 = .ok (.aload_n 0, 1) ∧ decode cX11_lost 17 = .ok (.invokevirtual 243, 3) := by decide +kernel
theorem eX11_lost_20 : decode cX11_lost 20 = .ok (.aload_n 0, 1) ∧ decode cX11_lost 21 = .ok (.iload_n 1, 1) ∧ decode cX11_lost 22 = .ok (.invokevirtual 246, 3) ∧ decode cX11_lost 25 = .ok (.ireturn, 1) ∧ decode cX11_lostWith 0 = .ok (.iconst 0, 1) ∧ decode cX11_lostWith 1 = .ok (.istore_n 2, 1) ∧ decode cX11_lostWith 2 = .ok (.iconst 0, 1) ∧ decode cX11_lostWith 3 = .ok (.istore_n 3, 1) := by decide +kernel
theorem eX11_lostWith_4 : decode cX11_lostWith 4 = .ok (.iload_n 3, 1) ∧ decode cX11_lostWith 5 = .ok (.bipush 8, 2) ∧ decode cX11_lostWith 7 = .ok (.if_icmp .ge 23, 3) ∧ decode cX11_lostWith 10 = .ok (.iload_n 2, 1) ∧ decode cX11_lostWith 11 = .ok (.aload_n 0, 1) ∧ decode cX11_lostWith 12 = .ok (.getfield 56, 3) ∧ decode cX11_lostWith 15 = .ok (.iload_n 3, 1) ∧ decode cX11_lostWith 16 = .ok (.laload, 1) := by decide +kernel
theorem eX11_lostWith_17 : decode cX11_lostWith 17 = .ok (.iload_n 1, 1) ∧ decode cX11_lostWith 18 = .ok (.lushr, 1) ∧ decode cX11_lostWith 19 = .ok (.lconst 1, 1) ∧ decode cX11_lostWith 20 = .ok (.land, 1) ∧ decode cX11_lostWith 21 = .ok (.l2i, 1) ∧ decode cX11_lostWith 22 = .ok (.iadd, 1) ∧ decode cX11_lostWith 23 = .ok (.istore_n 2, 1) ∧ decode cX11_lostWith 24 = .ok (.iinc 3 1, 3) := by decide +kernel
theorem eX11_lostWith_27 : decode cX11_lostWith 27 = .ok (.goto (-23), 3) ∧ decode cX11_lostWith 30 = .ok (.iload_n 2, 1) ∧ decode cX11_lostWith 31 = .ok (.ifCond .ne 7, 3) ∧ decode cX11_lostWith 34 = .ok (.iconst 0, 1) ∧ decode cX11_lostWith 35 = .ok (.goto 20, 3) ∧ decode cX11_lostWith 38 = .ok (.iload_n 2, 1) ∧ decode cX11_lostWith 39 = .ok (.aload_n 0, 1) ∧ decode cX11_lostWith 40 = .ok (.getfield 49, 3) := by decide +kernel
theorem eX11_lostWith_43 : decode cX11_lostWith 43 = .ok (.aload_n 0, 1) ∧ decode cX11_lostWith 44 = .ok (.getfield 79, 3) ∧ decode cX11_lostWith 47 = .ok (.getfield 125, 3) ∧ decode cX11_lostWith 50 = .ok (.iload_n 1, 1) ∧ decode cX11_lostWith 51 = .ok (.invokevirtual 168, 3) ∧ decode cX11_lostWith 54 = .ok (.imul, 1) ∧ decode cX11_lostWith 55 = .ok (.ireturn, 1) ∧ decode cX11_oneOf 0 = .ok (.iload_n 0, 1) := by decide +kernel
theorem eX11_oneOf_1 : decode cX11_oneOf 1 = .ok (.ifCond .ne 5, 3) ∧ decode cX11_oneOf 4 = .ok (.iload_n 1, 1) ∧ decode cX11_oneOf 5 = .ok (.ireturn, 1) ∧ decode cX11_oneOf 6 = .ok (.iload_n 0, 1) ∧ decode cX11_oneOf 7 = .ok (.iconst 1, 1) ∧ decode cX11_oneOf 8 = .ok (.if_icmp .ne 7, 3) ∧ decode cX11_oneOf 11 = .ok (.iload_n 2, 1) ∧ decode cX11_oneOf 12 = .ok (.goto 4, 3) := by decide +kernel
theorem eX11_oneOf_15 : decode cX11_oneOf 15 = .ok (.iconst (-1), 1) ∧ decode cX11_oneOf 16 = .ok (.ireturn, 1) ∧ decode cX11_spread 0 = .ok (.aload_n 0, 1) ∧ decode cX11_spread 1 = .ok (.getfield 79, 3) ∧ decode cX11_spread 4 = .ok (.getfield 125, 3) ∧ decode cX11_spread 7 = .ok (.iload_n 1, 1) ∧ decode cX11_spread 8 = .ok (.invokevirtual 161, 3) ∧ decode cX11_spread 11 = .ok (.ifCond .eq 8, 3) := by decide +kernel
theorem eX11_spread_14 : decode cX11_spread 14 = .ok (.iload_n 2, 1) ∧ decode cX11_spread 15 = .ok (.iconst (-1), 1) ∧ decode cX11_spread 16 = .ok (.if_icmp .ge 5, 3) ∧ decode cX11_spread 19 = .ok (.iconst (-1), 1) ∧ decode cX11_spread 20 = .ok (.ireturn, 1) ∧ decode cX11_spread 21 = .ok (.iconst 0, 1) ∧ decode cX11_spread 22 = .ok (.istore_n 3, 1) ∧ decode cX11_spread 23 = .ok (.iconst 0, 1) := by decide +kernel
theorem eX11_spread_24 : decode cX11_spread 24 = .ok (.istore 4, 2) ∧ decode cX11_spread 26 = .ok (.iload 4, 2) ∧ decode cX11_spread 28 = .ok (.bipush 100, 2) ∧ decode cX11_spread 30 = .ok (.if_icmp .ge 26, 3) ∧ decode cX11_spread 33 = .ok (.aload_n 0, 1) ∧ decode cX11_spread 34 = .ok (.getfield 79, 3) ∧ decode cX11_spread 37 = .ok (.iload_n 1, 1) ∧ decode cX11_spread 38 = .ok (.iload 4, 2) := by decide +kernel
theorem eX11_spread_40 : decode cX11_spread 40 = .ok (.invokevirtual 237, 3) ∧ decode cX11_spread 43 = .ok (.iload_n 2, 1) ∧ decode cX11_spread 44 = .ok (.if_icmp .ne 6, 3) ∧ decode cX11_spread 47 = .ok (.iinc 3 1, 3) ∧ decode cX11_spread 50 = .ok (.iinc 4 1, 3) ∧ decode cX11_spread 53 = .ok (.goto (-27), 3) ∧ decode cX11_spread 56 = .ok (.iload_n 3, 1) ∧ decode cX11_spread 57 = .ok (.ireturn, 1) := by decide +kernel
theorem eX11_worst_0 : decode cX11_worst 0 = .ok (.aload_n 0, 1) ∧ decode cX11_worst 1 = .ok (.invokevirtual 243, 3) ∧ decode cX11_worst 4 = .ok (.iconst (-1), 1) ∧ decode cX11_worst 5 = .ok (.istore_n 2, 1) ∧ decode cX11_worst 6 = .ok (.iconst 0, 1) ∧ decode cX11_worst 7 = .ok (.istore_n 3, 1) ∧ decode cX11_worst 8 = .ok (.iconst 0, 1) ∧ decode cX11_worst 9 = .ok (.istore 4, 2) := by decide +kernel
theorem eX11_worst_11 : decode cX11_worst 11 = .ok (.iload 4, 2) ∧ decode cX11_worst 13 = .ok (.aload_n 0, 1) ∧ decode cX11_worst 14 = .ok (.getfield 79, 3) ∧ decode cX11_worst 17 = .ok (.getfield 125, 3) ∧ decode cX11_worst 20 = .ok (.getfield 129, 3) ∧ decode cX11_worst 23 = .ok (.if_icmp .ge 29, 3) ∧ decode cX11_worst 26 = .ok (.aload_n 0, 1) ∧ decode cX11_worst 27 = .ok (.iload 4, 2) := by decide +kernel
theorem eX11_worst_29 : decode cX11_worst 29 = .ok (.invokevirtual 246, 3) ∧ decode cX11_worst 32 = .ok (.istore 5, 2) ∧ decode cX11_worst 34 = .ok (.iload 5, 2) ∧ decode cX11_worst 36 = .ok (.iload_n 3, 1) ∧ decode cX11_worst 37 = .ok (.if_icmp .le 9, 3) ∧ decode cX11_worst 40 = .ok (.iload 5, 2) ∧ decode cX11_worst 42 = .ok (.istore_n 3, 1) ∧ decode cX11_worst 43 = .ok (.iload 4, 2) := by decide +kernel
theorem eX11_worst_45 : decode cX11_worst 45 = .ok (.istore_n 2, 1) ∧ decode cX11_worst 46 = .ok (.iinc 4 1, 3) ∧ decode cX11_worst 49 = .ok (.goto (-38), 3) ∧ decode cX11_worst 52 = .ok (.iload_n 2, 1) ∧ decode cX11_worst 53 = .ok (.iconst (-1), 1) ∧ decode cX11_worst 54 = .ok (.if_icmp .ne 5, 3) ∧ decode cX11_worst 57 = .ok (.iconst (-1), 1) ∧ decode cX11_worst 58 = .ok (.ireturn, 1) := by decide +kernel
theorem eX11_worst_59 : decode cX11_worst 59 = .ok (.iload_n 1, 1) ∧ decode cX11_worst 60 = .ok (.iload_n 2, 1) ∧ decode cX11_worst 61 = .ok (.iload_n 3, 1) ∧ decode cX11_worst 62 = .ok (.invokestatic 249, 3) ∧ decode cX11_worst 65 = .ok (.ireturn, 1) ∧ decode cX11_writes 0 = .ok (.aload_n 0, 1) ∧ decode cX11_writes 1 = .ok (.getfield 79, 3) ∧ decode cX11_writes 4 = .ok (.getfield 125, 3) := by decide +kernel
theorem eX11_writes_7 : decode cX11_writes 7 = .ok (.iload_n 1, 1) ∧ decode cX11_writes 8 = .ok (.invokevirtual 161, 3) ∧ decode cX11_writes 11 = .ok (.ifCond .eq 10, 3) ∧ decode cX11_writes 14 = .ok (.iload_n 2, 1) ∧ decode cX11_writes 15 = .ok (.invokestatic 227, 3) ∧ decode cX11_writes 18 = .ok (.ifCond .ne 5, 3) ∧ decode cX11_writes 21 = .ok (.iconst (-1), 1) ∧ decode cX11_writes 22 = .ok (.ireturn, 1) := by decide +kernel
theorem eX11_writes_23 : decode cX11_writes 23 = .ok (.iload_n 3, 1) ∧ decode cX11_writes 24 = .ok (.ifCond .ne 13, 3) ∧ decode cX11_writes 27 = .ok (.aload_n 0, 1) ∧ decode cX11_writes 28 = .ok (.getfield 79, 3) ∧ decode cX11_writes 31 = .ok (.iload_n 1, 1) ∧ decode cX11_writes 32 = .ok (.iload_n 2, 1) ∧ decode cX11_writes 33 = .ok (.invokevirtual 237, 3) ∧ decode cX11_writes 36 = .ok (.ireturn, 1) := by decide +kernel
theorem eX11_writes_37 : decode cX11_writes 37 = .ok (.iload_n 3, 1) ∧ decode cX11_writes 38 = .ok (.iconst 1, 1) ∧ decode cX11_writes 39 = .ok (.if_icmp .ne 15, 3) ∧ decode cX11_writes 42 = .ok (.aload_n 0, 1) ∧ decode cX11_writes 43 = .ok (.getfield 79, 3) ∧ decode cX11_writes 46 = .ok (.iload_n 1, 1) ∧ decode cX11_writes 47 = .ok (.iload_n 2, 1) ∧ decode cX11_writes 48 = .ok (.invokevirtual 240, 3) := by decide +kernel
theorem eX11_writes_51 : decode cX11_writes 51 = .ok (.goto 4, 3) ∧ decode cX11_writes 54 = .ok (.iconst (-1), 1) ∧ decode cX11_writes 55 = .ok (.ireturn, 1) ∧ decode cX1_begin 0 = .ok (.aload_n 0, 1) ∧ decode cX1_begin 1 = .ok (.getfield 18, 3) ∧ decode cX1_begin 4 = .ok (.aload_n 0, 1) ∧ decode cX1_begin 5 = .ok (.getfield 12, 3) ∧ decode cX1_begin 8 = .ok (.invokevirtual 100, 3) := by decide +kernel
theorem eX1_begin_11 : decode cX1_begin 11 = .ok (.aload_n 0, 1) ∧ decode cX1_begin 12 = .ok (.getfield 12, 3) ∧ decode cX1_begin 15 = .ok (.lconst 0, 1) ∧ decode cX1_begin 16 = .ok (.putfield 96, 3) ∧ decode cX1_begin 19 = .ok (.return_, 1) ∧ decode cX1_costOf 0 = .ok (.aload_n 0, 1) ∧ decode cX1_costOf 1 = .ok (.getfield 47, 3) ∧ decode cX1_costOf 4 = .ok (.getfield 144, 3) := by decide +kernel
theorem eX1_costOf_7 : decode cX1_costOf 7 = .ok (.iconst 2, 1) ∧ decode cX1_costOf 8 = .ok (.iaload, 1) ∧ decode cX1_costOf 9 = .ok (.iconst (-1), 1) ∧ decode cX1_costOf 10 = .ok (.if_icmp .ne 5, 3) ∧ decode cX1_costOf 13 = .ok (.iconst 1, 1) ∧ decode cX1_costOf 14 = .ok (.ireturn, 1) ∧ decode cX1_costOf 15 = .ok (.aload_n 0, 1) ∧ decode cX1_costOf 16 = .ok (.getfield 33, 3) := by decide +kernel
theorem eX1_costOf_19 : decode cX1_costOf 19 = .ok (.iload_n 1, 1) ∧ decode cX1_costOf 20 = .ok (.putfield 147, 3) ∧ decode cX1_costOf 23 = .ok (.aload_n 0, 1) ∧ decode cX1_costOf 24 = .ok (.getfield 33, 3) ∧ decode cX1_costOf 27 = .ok (.aload_n 0, 1) ∧ decode cX1_costOf 28 = .ok (.getfield 12, 3) ∧ decode cX1_costOf 31 = .ok (.getfield 150, 3) ∧ decode cX1_costOf 34 = .ok (.iload_n 1, 1) := by decide +kernel
theorem eX1_costOf_35 : decode cX1_costOf 35 = .ok (.iaload, 1) ∧ decode cX1_costOf 36 = .ok (.putfield 153, 3) ∧ decode cX1_costOf 39 = .ok (.aload_n 0, 1) ∧ decode cX1_costOf 40 = .ok (.getfield 33, 3) ∧ decode cX1_costOf 43 = .ok (.aload_n 0, 1) ∧ decode cX1_costOf 44 = .ok (.getfield 12, 3) ∧ decode cX1_costOf 47 = .ok (.getfield 155, 3) ∧ decode cX1_costOf 50 = .ok (.iload_n 1, 1) := by decide +kernel
theorem eX1_costOf_51 : decode cX1_costOf 51 = .ok (.iaload, 1) ∧ decode cX1_costOf 52 = .ok (.putfield 158, 3) ∧ decode cX1_costOf 55 = .ok (.aload_n 0, 1) ∧ decode cX1_costOf 56 = .ok (.getfield 33, 3) ∧ decode cX1_costOf 59 = .ok (.aload_n 0, 1) ∧ decode cX1_costOf 60 = .ok (.getfield 47, 3) ∧ decode cX1_costOf 63 = .ok (.getfield 161, 3) ∧ decode cX1_costOf 66 = .ok (.aload_n 0, 1) := by decide +kernel
theorem eX1_costOf_67 : decode cX1_costOf 67 = .ok (.getfield 47, 3) ∧ decode cX1_costOf 70 = .ok (.getfield 144, 3) ∧ decode cX1_costOf 73 = .ok (.iconst 2, 1) ∧ decode cX1_costOf 74 = .ok (.iaload, 1) ∧ decode cX1_costOf 75 = .ok (.aload_n 0, 1) ∧ decode cX1_costOf 76 = .ok (.getfield 47, 3) ∧ decode cX1_costOf 79 = .ok (.getfield 165, 3) ∧ decode cX1_costOf 82 = .ok (.iconst 2, 1) := by decide +kernel
theorem eX1_costOf_83 : decode cX1_costOf 83 = .ok (.iaload, 1) ∧ decode cX1_costOf 84 = .ok (.invokevirtual 168, 3) ∧ decode cX1_costOf 87 = .ok (.ireturn, 1) ∧ decode cX1_isWritten 0 = .ok (.aload_n 0, 1) ∧ decode cX1_isWritten 1 = .ok (.getfield 12, 3) ∧ decode cX1_isWritten 4 = .ok (.iload_n 1, 1) ∧ decode cX1_isWritten 5 = .ok (.invokevirtual 129, 3) ∧ decode cX1_isWritten 8 = .ok (.ifCond .eq 23, 3) := by decide +kernel
theorem eX1_isWritten_11 : decode cX1_isWritten 11 = .ok (.aload_n 0, 1) ∧ decode cX1_isWritten 12 = .ok (.getfield 12, 3) ∧ decode cX1_isWritten 15 = .ok (.getfield 96, 3) ∧ decode cX1_isWritten 18 = .ok (.iload_n 1, 1) ∧ decode cX1_isWritten 19 = .ok (.lushr, 1) ∧ decode cX1_isWritten 20 = .ok (.lconst 1, 1) ∧ decode cX1_isWritten 21 = .ok (.land, 1) ∧ decode cX1_isWritten 22 = .ok (.lconst 0, 1) := by decide +kernel
theorem eX1_isWritten_23 : decode cX1_isWritten 23 = .ok (.lcmp, 1) ∧ decode cX1_isWritten 24 = .ok (.ifCond .eq 7, 3) ∧ decode cX1_isWritten 27 = .ok (.iconst 1, 1) ∧ decode cX1_isWritten 28 = .ok (.goto 4, 3) ∧ decode cX1_isWritten 31 = .ok (.iconst 0, 1) ∧ decode cX1_isWritten 32 = .ok (.ireturn, 1) ∧ decode cX1_price 0 = .ok (.iconst 0, 1) ∧ decode cX1_price 1 = .ok (.istore_n 1, 1) := by decide +kernel
theorem eX1_price_2 : decode cX1_price 2 = .ok (.iconst 0, 1) ∧ decode cX1_price 3 = .ok (.istore_n 2, 1) ∧ decode cX1_price 4 = .ok (.iload_n 2, 1) ∧ decode cX1_price 5 = .ok (.aload_n 0, 1) ∧ decode cX1_price 6 = .ok (.getfield 12, 3) ∧ decode cX1_price 9 = .ok (.getfield 117, 3) ∧ decode cX1_price 12 = .ok (.if_icmp .ge 38, 3) ∧ decode cX1_price 15 = .ok (.iload_n 1, 1) := by decide +kernel
theorem eX1_price_16 : decode cX1_price 16 = .ok (.aload_n 0, 1) ∧ decode cX1_price 17 = .ok (.iload_n 2, 1) ∧ decode cX1_price 18 = .ok (.invokevirtual 118, 3) ∧ decode cX1_price 21 = .ok (.ifCond .eq 20, 3) ∧ decode cX1_price 24 = .ok (.iconst 0, 1) ∧ decode cX1_price 25 = .ok (.bipush 99, 2) ∧ decode cX1_price 27 = .ok (.aload_n 0, 1) ∧ decode cX1_price 28 = .ok (.iload_n 2, 1) := by decide +kernel
theorem eX1_price_29 : decode cX1_price 29 = .ok (.invokevirtual 122, 3) ∧ decode cX1_price 32 = .ok (.invokestatic 108, 3) ∧ decode cX1_price 35 = .ok (.invokestatic 126, 3) ∧ decode cX1_price 38 = .ok (.goto 4, 3) ∧ decode cX1_price 41 = .ok (.iconst 0, 1) ∧ decode cX1_price 42 = .ok (.iadd, 1) ∧ decode cX1_price 43 = .ok (.istore_n 1, 1) ∧ decode cX1_price 44 = .ok (.iinc 2 1, 3) := by decide +kernel
theorem eX1_price_47 : decode cX1_price 47 = .ok (.goto (-43), 3) ∧ decode cX1_price 50 = .ok (.iload_n 1, 1) ∧ decode cX1_price 51 = .ok (.ireturn, 1) ∧ decode cX1_rehearse 0 = .ok (.aload_n 0, 1) ∧ decode cX1_rehearse 1 = .ok (.invokevirtual 135, 3) ∧ decode cX1_rehearse 4 = .ok (.aload_n 0, 1) ∧ decode cX1_rehearse 5 = .ok (.getfield 12, 3) ∧ decode cX1_rehearse 8 = .ok (.aload_n 0, 1) := by decide +kernel
theorem eX1_rehearse_9 : decode cX1_rehearse 9 = .ok (.getfield 12, 3) ∧ decode cX1_rehearse 12 = .ok (.getfield 69, 3) ∧ decode cX1_rehearse 15 = .ok (.iload_n 1, 1) ∧ decode cX1_rehearse 16 = .ok (.iaload, 1) ∧ decode cX1_rehearse 17 = .ok (.iload_n 2, 1) ∧ decode cX1_rehearse 18 = .ok (.invokevirtual 138, 3) ∧ decode cX1_rehearse 21 = .ok (.ifCond .ne 7, 3) ∧ decode cX1_rehearse 24 = .ok (.iconst 1, 1) := by decide +kernel
theorem eX1_rehearse_25 : decode cX1_rehearse 25 = .ok (.goto 4, 3) ∧ decode cX1_rehearse 28 = .ok (.iconst 0, 1) ∧ decode cX1_rehearse 29 = .ok (.istore_n 3, 1) ∧ decode cX1_rehearse 30 = .ok (.aload_n 0, 1) ∧ decode cX1_rehearse 31 = .ok (.iload_n 1, 1) ∧ decode cX1_rehearse 32 = .ok (.iload_n 2, 1) ∧ decode cX1_rehearse 33 = .ok (.iload_n 3, 1) ∧ decode cX1_rehearse 34 = .ok (.invokevirtual 141, 3) := by decide +kernel
theorem eX1_rehearse_37 : decode cX1_rehearse 37 = .ok (.ireturn, 1) ∧ decode cX1_wouldCost 0 = .ok (.aload_n 0, 1) ∧ decode cX1_wouldCost 1 = .ok (.iload_n 1, 1) ∧ decode cX1_wouldCost 2 = .ok (.iload_n 2, 1) ∧ decode cX1_wouldCost 3 = .ok (.invokevirtual 132, 3) ∧ decode cX1_wouldCost 6 = .ok (.istore_n 3, 1) ∧ decode cX1_wouldCost 7 = .ok (.iload_n 3, 1) ∧ decode cX1_wouldCost 8 = .ok (.ifCond .eq 10, 3) := by decide +kernel
theorem eX1_wouldCost_11 : decode cX1_wouldCost 11 = .ok (.aload_n 0, 1) ∧ decode cX1_wouldCost 12 = .ok (.invokevirtual 104, 3) ∧ decode cX1_wouldCost 15 = .ok (.goto 4, 3) ∧ decode cX1_wouldCost 18 = .ok (.iconst (-1), 1) ∧ decode cX1_wouldCost 19 = .ok (.istore 4, 2) ∧ decode cX1_wouldCost 21 = .ok (.aload_n 0, 1) ∧ decode cX1_wouldCost 22 = .ok (.getfield 12, 3) ∧ decode cX1_wouldCost 25 = .ok (.aload_n 0, 1) := by decide +kernel
theorem eX1_wouldCost_26 : decode cX1_wouldCost 26 = .ok (.getfield 18, 3) ∧ decode cX1_wouldCost 29 = .ok (.invokevirtual 100, 3) ∧ decode cX1_wouldCost 32 = .ok (.iload 4, 2) ∧ decode cX1_wouldCost 34 = .ok (.ireturn, 1) ∧ decode cX1_wouldWrite 0 = .ok (.aload_n 0, 1) ∧ decode cX1_wouldWrite 1 = .ok (.iload_n 1, 1) ∧ decode cX1_wouldWrite 2 = .ok (.iload_n 2, 1) ∧ decode cX1_wouldWrite 3 = .ok (.invokevirtual 132, 3) := by decide +kernel
theorem eX1_wouldWrite_6 : decode cX1_wouldWrite 6 = .ok (.istore_n 3, 1) ∧ decode cX1_wouldWrite 7 = .ok (.iload_n 3, 1) ∧ decode cX1_wouldWrite 8 = .ok (.ifCond .eq 10, 3) ∧ decode cX1_wouldWrite 11 = .ok (.aload_n 0, 1) ∧ decode cX1_wouldWrite 12 = .ok (.invokevirtual 114, 3) ∧ decode cX1_wouldWrite 15 = .ok (.goto 4, 3) ∧ decode cX1_wouldWrite 18 = .ok (.iconst (-1), 1) ∧ decode cX1_wouldWrite 19 = .ok (.istore 4, 2) := by decide +kernel
theorem eX1_wouldWrite_21 : decode cX1_wouldWrite 21 = .ok (.aload_n 0, 1) ∧ decode cX1_wouldWrite 22 = .ok (.getfield 12, 3) ∧ decode cX1_wouldWrite 25 = .ok (.aload_n 0, 1) ∧ decode cX1_wouldWrite 26 = .ok (.getfield 18, 3) ∧ decode cX1_wouldWrite 29 = .ok (.invokevirtual 100, 3) ∧ decode cX1_wouldWrite 32 = .ok (.iload 4, 2) ∧ decode cX1_wouldWrite 34 = .ok (.ireturn, 1) ∧ decode cX1_wrote 0 = .ok (.iconst 0, 1) := by decide +kernel
theorem eX1_wrote_1 : decode cX1_wrote 1 = .ok (.istore_n 1, 1) ∧ decode cX1_wrote 2 = .ok (.iconst 0, 1) ∧ decode cX1_wrote 3 = .ok (.istore_n 2, 1) ∧ decode cX1_wrote 4 = .ok (.iload_n 2, 1) ∧ decode cX1_wrote 5 = .ok (.aload_n 0, 1) ∧ decode cX1_wrote 6 = .ok (.getfield 12, 3) ∧ decode cX1_wrote 9 = .ok (.getfield 117, 3) ∧ decode cX1_wrote 12 = .ok (.if_icmp .ge 25, 3) := by decide +kernel
theorem eX1_wrote_15 : decode cX1_wrote 15 = .ok (.iload_n 1, 1) ∧ decode cX1_wrote 16 = .ok (.aload_n 0, 1) ∧ decode cX1_wrote 17 = .ok (.iload_n 2, 1) ∧ decode cX1_wrote 18 = .ok (.invokevirtual 118, 3) ∧ decode cX1_wrote 21 = .ok (.ifCond .eq 7, 3) ∧ decode cX1_wrote 24 = .ok (.iconst 1, 1) ∧ decode cX1_wrote 25 = .ok (.goto 4, 3) ∧ decode cX1_wrote 28 = .ok (.iconst 0, 1) := by decide +kernel
theorem eX1_wrote_29 : decode cX1_wrote 29 = .ok (.iadd, 1) ∧ decode cX1_wrote 30 = .ok (.istore_n 1, 1) ∧ decode cX1_wrote 31 = .ok (.iinc 2 1, 3) ∧ decode cX1_wrote 34 = .ok (.goto (-30), 3) ∧ decode cX1_wrote 37 = .ok (.iload_n 1, 1) ∧ decode cX1_wrote 38 = .ok (.ireturn, 1) := by decide +kernel
set_option maxHeartbeats 4000000 in
set_option maxRecDepth 100000 in
theorem k_x8_become_v2 (l : Launch) (D : va_G) (a : Nat → Nat) (sz : Nat) (s : MS) (o : MS) (h : m_x8_become_v2 s = some o) : yWv l yX8_become cX8_become 2 none { frames := 1, cells := 0, slots := 0, locals := 60 } D sz [.ref (a 62), .ref (a 53)] (CS D a s) (CS D a o) := by
  refine Met.ofW (cc := cX8_become) (maxL := 2) (ret := none) (by decide) rfl ?_
  intro p e s₀ m args below meth c s₁ B hml hv
  obtain ⟨rfl, ⟨hsz, hP, hK, hD0⟩, hN⟩ := hv
  have hx := B.exec
  have hb := B.bytes
  have hr := B.returns
  have hts := atoms_spec (ws := wz yX8_become cX8_become 2 none) B.pre
  have ht : ∀ w ∈ lw_gd, w.before _ s₀ = true := fun w h => hts w (List.mem_cons_of_mem _ h)
  have hown : s₀.vm.findClass RX8 = some m.cls := findClass_of_methodNamed B.named
  have hlocks := B.notSynchronized
  subst hsz
  have hD := hD0.self (sz := s₀.heap.size)
  generalize hAe : va_A (CS D a s) s₀.heap.size = A at hD ⊢
  have hA : ∀ q : Nat, s₀.heap.size ≤ q → A q := fun q h => by rw [← hAe]; exact Or.inr h
  have hS : va_S A s₀.heap s₀.heap [] := va_S.rf
  have hDD : ∀ t : MS, va_D A (CS D a t) := fun t => CW_D t hD
  have hl := lv_entry ([.ref (a 62), .ref (a 53)]) (n := 2) (Nat.le_of_ble_eq_true rfl)
  rw [lg_entry_eq]
  generalize (lg_sl ([.ref (a 62), .ref (a 53)]) ++ List.replicate (2 - (lg_sl ([.ref (a 62), .ref (a 53)])).length) Slot.unset).toArray = ls at hl ⊢
  have hl : lv_has ls 2 [(0, .ref (a 62)), (1, .ref (a 53))] := hl
  unfold m_x8_become_v2 at h
  refine lv_aload_n hx hb eX11_unlike_229.2.2.2.2.2.2.2 rfl (lv_at hl 0 rfl) ?_
  refine lv_aload_n hx hb eX8_become_1.1 rfl (lv_at hl 1 rfl) ?_
  refine va_get (D := D) (ci := 8) (v := .int (i2 (gI s 1060))) (C := RX8) (T := TX8) (N := 11) hx hb ht inX8 hown hK hP 53 CW_53 rfl 0 (by decide) (ht (.fieldLink RX8 40 "CloneVolumes$State" "blocks" "I") fl_X8_40) (fun _ h9 => h9) rfl eX8_become_1.2.1 ?_
  refine ya_put (D := D) (ci := 8) (v := .int (i2 (gI s 1060))) (ty := .int) (C := RX8) (T := TX8) (N := 11) hx hb ht inX8 tyX8 tyX8_ok nmX8 hown hK hP (hDD _) hS 62 CW_62 rfl 0 (by decide) (ht (.fieldLink RX8 40 "CloneVolumes$State" "blocks" "I") fl_X8_40) (fun _ h9 => h9) rfl (by decide +kernel) rfl rfl (Nat.le_of_ble_eq_true rfl) eX8_become_1.2.2.1 (CW_w62_0 (gI s 1060)) (fun H locs hP hS => ?_)
  obtain ⟨s1, hs1, h⟩ := st_e h
  rw [hs1] at hP
  refine lv_aload_n hx hb eX8_become_1.2.2.2.1 rfl (lv_at hl 0 rfl) ?_
  refine lv_aload_n hx hb eX8_become_1.2.2.2.2.1 rfl (lv_at hl 1 rfl) ?_
  refine va_get (D := D) (ci := 8) (v := .int (i2 (gI s1 1061))) (C := RX8) (T := TX8) (N := 11) hx hb ht inX8 hown hK hP 53 CW_53 rfl 1 (by decide) (ht (.fieldLink RX8 44 "CloneVolumes$State" "spent" "I") fl_X8_44) (fun _ h9 => h9) rfl eX8_become_1.2.2.2.2.2.1 ?_
  refine ya_put (D := D) (ci := 8) (v := .int (i2 (gI s1 1061))) (ty := .int) (C := RX8) (T := TX8) (N := 11) hx hb ht inX8 tyX8 tyX8_ok nmX8 hown hK hP (hDD _) hS 62 CW_62 rfl 1 (by decide) (ht (.fieldLink RX8 44 "CloneVolumes$State" "spent" "I") fl_X8_44) (fun _ h9 => h9) rfl (by decide +kernel) rfl rfl (Nat.le_of_ble_eq_true rfl) eX8_become_1.2.2.2.2.2.2.1 (CW_w62_1 (gI s1 1061)) (fun H locs hP hS => ?_)
  obtain ⟨s2, hs2, h⟩ := st_e h
  rw [hs2] at hP
  refine lv_aload_n hx hb eX8_become_1.2.2.2.2.2.2.2 rfl (lv_at hl 0 rfl) ?_
  refine lv_aload_n hx hb eX8_become_17.1 rfl (lv_at hl 1 rfl) ?_
  refine va_get (D := D) (ci := 8) (v := .long (i8 (gL s2 1062))) (C := RX8) (T := TX8) (N := 11) hx hb ht inX8 hown hK hP 53 CW_53 rfl 2 (by decide) (ht (.fieldLink RX8 47 "CloneVolumes$State" "written" "J") fl_X8_47) (fun _ h9 => h9) rfl eX8_become_17.2.1 ?_
  refine ya_put (D := D) (ci := 8) (v := .long (i8 (gL s2 1062))) (ty := .long) (C := RX8) (T := TX8) (N := 11) hx hb ht inX8 tyX8 tyX8_ok nmX8 hown hK hP (hDD _) hS 62 CW_62 rfl 2 (by decide) (ht (.fieldLink RX8 47 "CloneVolumes$State" "written" "J") fl_X8_47) (fun _ h9 => h9) rfl (by decide +kernel) rfl rfl (Nat.le_of_ble_eq_true rfl) eX8_become_17.2.2.1 (CW_w62_2 (gL s2 1062)) (fun H locs hP hS => ?_)
  obtain ⟨s3, hs3, h⟩ := st_e h
  rw [hs3] at hP
  refine lv_aload_n hx hb eX8_become_17.2.2.2.1 rfl (lv_at hl 1 rfl) ?_
  refine va_get (D := D) (ci := 8) (v := .ref (a 54)) (C := RX8) (T := TX8) (N := 11) hx hb ht inX8 hown hK hP 53 CW_53 rfl 3 (by decide) (ht (.fieldLink RX8 9 "CloneVolumes$State" "count" "[I") fl_X8_9) (fun _ h9 => h9) rfl eX8_become_17.2.2.2.2.1 ?_
  refine lv_iconst (v := 0) hx hb eX8_become_17.2.2.2.2.2.1 (by decide) ?_
  refine lv_aload_n hx hb eX8_become_17.2.2.2.2.2.2.1 rfl (lv_at hl 0 rfl) ?_
  refine va_get (D := D) (ci := 8) (v := .ref (a 63)) (C := RX8) (T := TX8) (N := 11) hx hb ht inX8 hown hK hP 62 CW_62 rfl 3 (by decide) (ht (.fieldLink RX8 9 "CloneVolumes$State" "count" "[I") fl_X8_9) (fun _ h9 => h9) rfl eX8_become_17.2.2.2.2.2.2.2 ?_
  refine lv_iconst (v := 0) hx hb eX8_become_33.1 (by decide) ?_
  refine lv_bipush (v := 48) hx hb eX8_become_33.2.1 (by decide) ?_
  obtain ⟨hc4, h⟩ := cpg_e h
  refine ya_copyi (sp := 0) (dp := 0) (n := 48) hx hb (by rw [hml]; exact hl.1.symm) hown (ht _ ml_X8_51) (ht _ na_cpy) (ht _ st_cpy) (ht _ in_sys) hK hP (hDD _) hS 54 63 CW_54 CW_63 (by decide) (by decide) hc4 (Nat.le_of_ble_eq_true rfl) (Nat.le_of_ble_eq_true rfl) eX8_become_33.2.2.1 (CW_w63 _) (fun H locs hP hS => ?_)
  obtain ⟨s5, hs5, h⟩ := st_e h
  rw [hs5] at hP
  refine lv_aload_n hx hb eX8_become_33.2.2.2.1 rfl (lv_at hl 1 rfl) ?_
  refine va_get (D := D) (ci := 8) (v := .ref (a 55)) (C := RX8) (T := TX8) (N := 11) hx hb ht inX8 hown hK hP 53 CW_53 rfl 4 (by decide) (ht (.fieldLink RX8 15 "CloneVolumes$State" "saved" "[I") fl_X8_15) (fun _ h9 => h9) rfl eX8_become_33.2.2.2.2.1 ?_
  refine lv_iconst (v := 0) hx hb eX8_become_33.2.2.2.2.2.1 (by decide) ?_
  refine lv_aload_n hx hb eX8_become_33.2.2.2.2.2.2.1 rfl (lv_at hl 0 rfl) ?_
  refine va_get (D := D) (ci := 8) (v := .ref (a 64)) (C := RX8) (T := TX8) (N := 11) hx hb ht inX8 hown hK hP 62 CW_62 rfl 4 (by decide) (ht (.fieldLink RX8 15 "CloneVolumes$State" "saved" "[I") fl_X8_15) (fun _ h9 => h9) rfl eX8_become_33.2.2.2.2.2.2.2 ?_
  refine lv_iconst (v := 0) hx hb eX8_become_48.1 (by decide) ?_
  refine lv_bipush (v := 48) hx hb eX8_become_48.2.1 (by decide) ?_
  obtain ⟨hc6, h⟩ := cpg_e h
  refine ya_copyi (sp := 0) (dp := 0) (n := 48) hx hb (by rw [hml]; exact hl.1.symm) hown (ht _ ml_X8_51) (ht _ na_cpy) (ht _ st_cpy) (ht _ in_sys) hK hP (hDD _) hS 55 64 CW_55 CW_64 (by decide) (by decide) hc6 (Nat.le_of_ble_eq_true rfl) (Nat.le_of_ble_eq_true rfl) eX8_become_48.2.2.1 (CW_w64 _) (fun H locs hP hS => ?_)
  obtain ⟨s7, hs7, h⟩ := st_e h
  rw [hs7] at hP
  refine lv_aload_n hx hb eX8_become_48.2.2.2.1 rfl (lv_at hl 1 rfl) ?_
  refine va_get (D := D) (ci := 8) (v := .ref (a 56)) (C := RX8) (T := TX8) (N := 11) hx hb ht inX8 hown hK hP 53 CW_53 rfl 5 (by decide) (ht (.fieldLink RX8 18 "CloneVolumes$State" "level" "[I") fl_X8_18) (fun _ h9 => h9) rfl eX8_become_48.2.2.2.2.1 ?_
  refine lv_iconst (v := 0) hx hb eX8_become_48.2.2.2.2.2.1 (by decide) ?_
  refine lv_aload_n hx hb eX8_become_48.2.2.2.2.2.2.1 rfl (lv_at hl 0 rfl) ?_
  refine va_get (D := D) (ci := 8) (v := .ref (a 65)) (C := RX8) (T := TX8) (N := 11) hx hb ht inX8 hown hK hP 62 CW_62 rfl 5 (by decide) (ht (.fieldLink RX8 18 "CloneVolumes$State" "level" "[I") fl_X8_18) (fun _ h9 => h9) rfl eX8_become_48.2.2.2.2.2.2.2 ?_
  refine lv_iconst (v := 0) hx hb eX8_become_63.1 (by decide) ?_
  refine lv_bipush (v := 48) hx hb eX8_become_63.2.1 (by decide) ?_
  obtain ⟨hc8, h⟩ := cpg_e h
  refine ya_copyi (sp := 0) (dp := 0) (n := 48) hx hb (by rw [hml]; exact hl.1.symm) hown (ht _ ml_X8_51) (ht _ na_cpy) (ht _ st_cpy) (ht _ in_sys) hK hP (hDD _) hS 56 65 CW_56 CW_65 (by decide) (by decide) hc8 (Nat.le_of_ble_eq_true rfl) (Nat.le_of_ble_eq_true rfl) eX8_become_63.2.2.1 (CW_w65 _) (fun H locs hP hS => ?_)
  obtain ⟨s9, hs9, h⟩ := st_e h
  rw [hs9] at hP
  refine lv_aload_n hx hb eX8_become_63.2.2.2.1 rfl (lv_at hl 1 rfl) ?_
  refine va_get (D := D) (ci := 8) (v := .ref (a 57)) (C := RX8) (T := TX8) (N := 11) hx hb ht inX8 hown hK hP 53 CW_53 rfl 6 (by decide) (ht (.fieldLink RX8 21 "CloneVolumes$State" "size" "[I") fl_X8_21) (fun _ h9 => h9) rfl eX8_become_63.2.2.2.2.1 ?_
  refine lv_iconst (v := 0) hx hb eX8_become_63.2.2.2.2.2.1 (by decide) ?_
  refine lv_aload_n hx hb eX8_become_63.2.2.2.2.2.2.1 rfl (lv_at hl 0 rfl) ?_
  refine va_get (D := D) (ci := 8) (v := .ref (a 66)) (C := RX8) (T := TX8) (N := 11) hx hb ht inX8 hown hK hP 62 CW_62 rfl 6 (by decide) (ht (.fieldLink RX8 21 "CloneVolumes$State" "size" "[I") fl_X8_21) (fun _ h9 => h9) rfl eX8_become_63.2.2.2.2.2.2.2 ?_
  refine lv_iconst (v := 0) hx hb eX8_become_78.1 (by decide) ?_
  refine lv_bipush (v := 48) hx hb eX8_become_78.2.1 (by decide) ?_
  obtain ⟨hc10, h⟩ := cpg_e h
  refine ya_copyi (sp := 0) (dp := 0) (n := 48) hx hb (by rw [hml]; exact hl.1.symm) hown (ht _ ml_X8_51) (ht _ na_cpy) (ht _ st_cpy) (ht _ in_sys) hK hP (hDD _) hS 57 66 CW_57 CW_66 (by decide) (by decide) hc10 (Nat.le_of_ble_eq_true rfl) (Nat.le_of_ble_eq_true rfl) eX8_become_78.2.2.1 (CW_w66 _) (fun H locs hP hS => ?_)
  obtain ⟨s11, hs11, h⟩ := st_e h
  rw [hs11] at hP
  refine lv_aload_n hx hb eX8_become_78.2.2.2.1 rfl (lv_at hl 1 rfl) ?_
  refine va_get (D := D) (ci := 8) (v := .ref (a 58)) (C := RX8) (T := TX8) (N := 11) hx hb ht inX8 hown hK hP 53 CW_53 rfl 7 (by decide) (ht (.fieldLink RX8 24 "CloneVolumes$State" "keys" "[I") fl_X8_24) (fun _ h9 => h9) rfl eX8_become_78.2.2.2.2.1 ?_
  refine lv_iconst (v := 0) hx hb eX8_become_78.2.2.2.2.2.1 (by decide) ?_
  refine lv_aload_n hx hb eX8_become_78.2.2.2.2.2.2.1 rfl (lv_at hl 0 rfl) ?_
  refine va_get (D := D) (ci := 8) (v := .ref (a 67)) (C := RX8) (T := TX8) (N := 11) hx hb ht inX8 hown hK hP 62 CW_62 rfl 7 (by decide) (ht (.fieldLink RX8 24 "CloneVolumes$State" "keys" "[I") fl_X8_24) (fun _ h9 => h9) rfl eX8_become_78.2.2.2.2.2.2.2 ?_
  refine lv_iconst (v := 0) hx hb eX8_become_93.1 (by decide) ?_
  refine lv_sipush (v := 288) hx hb eX8_become_93.2.1 (by decide) ?_
  obtain ⟨hc12, h⟩ := cpg_e h
  refine ya_copyi (sp := 0) (dp := 0) (n := 288) hx hb (by rw [hml]; exact hl.1.symm) hown (ht _ ml_X8_51) (ht _ na_cpy) (ht _ st_cpy) (ht _ in_sys) hK hP (hDD _) hS 58 67 CW_58 CW_67 (by decide) (by decide) hc12 (Nat.le_of_ble_eq_true rfl) (Nat.le_of_ble_eq_true rfl) eX8_become_93.2.2.1 (CW_w67 _) (fun H locs hP hS => ?_)
  obtain ⟨s13, hs13, h⟩ := st_e h
  rw [hs13] at hP
  refine lv_aload_n hx hb eX8_become_93.2.2.2.1 rfl (lv_at hl 1 rfl) ?_
  refine va_get (D := D) (ci := 8) (v := .ref (a 59)) (C := RX8) (T := TX8) (N := 11) hx hb ht inX8 hown hK hP 53 CW_53 rfl 8 (by decide) (ht (.fieldLink RX8 27 "CloneVolumes$State" "values" "[I") fl_X8_27) (fun _ h9 => h9) rfl eX8_become_93.2.2.2.2.1 ?_
  refine lv_iconst (v := 0) hx hb eX8_become_93.2.2.2.2.2.1 (by decide) ?_
  refine lv_aload_n hx hb eX8_become_93.2.2.2.2.2.2.1 rfl (lv_at hl 0 rfl) ?_
  refine va_get (D := D) (ci := 8) (v := .ref (a 68)) (C := RX8) (T := TX8) (N := 11) hx hb ht inX8 hown hK hP 62 CW_62 rfl 8 (by decide) (ht (.fieldLink RX8 27 "CloneVolumes$State" "values" "[I") fl_X8_27) (fun _ h9 => h9) rfl eX8_become_93.2.2.2.2.2.2.2 ?_
  refine lv_iconst (v := 0) hx hb eX8_become_109.1 (by decide) ?_
  refine lv_sipush (v := 288) hx hb eX8_become_109.2.1 (by decide) ?_
  obtain ⟨hc14, h⟩ := cpg_e h
  refine ya_copyi (sp := 0) (dp := 0) (n := 288) hx hb (by rw [hml]; exact hl.1.symm) hown (ht _ ml_X8_51) (ht _ na_cpy) (ht _ st_cpy) (ht _ in_sys) hK hP (hDD _) hS 59 68 CW_59 CW_68 (by decide) (by decide) hc14 (Nat.le_of_ble_eq_true rfl) (Nat.le_of_ble_eq_true rfl) eX8_become_109.2.2.1 (CW_w68 _) (fun H locs hP hS => ?_)
  obtain ⟨s15, hs15, h⟩ := st_e h
  rw [hs15] at hP
  refine lv_aload_n hx hb eX8_become_109.2.2.2.1 rfl (lv_at hl 1 rfl) ?_
  refine va_get (D := D) (ci := 8) (v := .ref (a 60)) (C := RX8) (T := TX8) (N := 11) hx hb ht inX8 hown hK hP 53 CW_53 rfl 9 (by decide) (ht (.fieldLink RX8 30 "CloneVolumes$State" "roots" "[I") fl_X8_30) (fun _ h9 => h9) rfl eX8_become_109.2.2.2.2.1 ?_
  refine lv_iconst (v := 0) hx hb eX8_become_109.2.2.2.2.2.1 (by decide) ?_
  refine lv_aload_n hx hb eX8_become_109.2.2.2.2.2.2.1 rfl (lv_at hl 0 rfl) ?_
  refine va_get (D := D) (ci := 8) (v := .ref (a 69)) (C := RX8) (T := TX8) (N := 11) hx hb ht inX8 hown hK hP 62 CW_62 rfl 9 (by decide) (ht (.fieldLink RX8 30 "CloneVolumes$State" "roots" "[I") fl_X8_30) (fun _ h9 => h9) rfl eX8_become_109.2.2.2.2.2.2.2 ?_
  refine lv_iconst (v := 0) hx hb eX8_become_125.1 (by decide) ?_
  refine lv_bipush (v := 8) hx hb eX8_become_125.2.1 (by decide) ?_
  obtain ⟨hc16, h⟩ := cpg_e h
  refine ya_copyi (sp := 0) (dp := 0) (n := 8) hx hb (by rw [hml]; exact hl.1.symm) hown (ht _ ml_X8_51) (ht _ na_cpy) (ht _ st_cpy) (ht _ in_sys) hK hP (hDD _) hS 60 69 CW_60 CW_69 (by decide) (by decide) hc16 (Nat.le_of_ble_eq_true rfl) (Nat.le_of_ble_eq_true rfl) eX8_become_125.2.2.1 (CW_w69 _) (fun H locs hP hS => ?_)
  obtain ⟨s17, hs17, h⟩ := st_e h
  rw [hs17] at hP
  refine lv_aload_n hx hb eX8_become_125.2.2.2.1 rfl (lv_at hl 1 rfl) ?_
  refine va_get (D := D) (ci := 8) (v := .ref (a 61)) (C := RX8) (T := TX8) (N := 11) hx hb ht inX8 hown hK hP 53 CW_53 rfl 10 (by decide) (ht (.fieldLink RX8 33 "CloneVolumes$State" "savedRoots" "[I") fl_X8_33) (fun _ h9 => h9) rfl eX8_become_125.2.2.2.2.1 ?_
  refine lv_iconst (v := 0) hx hb eX8_become_125.2.2.2.2.2.1 (by decide) ?_
  refine lv_aload_n hx hb eX8_become_125.2.2.2.2.2.2.1 rfl (lv_at hl 0 rfl) ?_
  refine va_get (D := D) (ci := 8) (v := .ref (a 70)) (C := RX8) (T := TX8) (N := 11) hx hb ht inX8 hown hK hP 62 CW_62 rfl 10 (by decide) (ht (.fieldLink RX8 33 "CloneVolumes$State" "savedRoots" "[I") fl_X8_33) (fun _ h9 => h9) rfl eX8_become_125.2.2.2.2.2.2.2 ?_
  refine lv_iconst (v := 0) hx hb eX8_become_140.1 (by decide) ?_
  refine lv_bipush (v := 8) hx hb eX8_become_140.2.1 (by decide) ?_
  obtain ⟨hc18, h⟩ := cpg_e h
  refine ya_copyi (sp := 0) (dp := 0) (n := 8) hx hb (by rw [hml]; exact hl.1.symm) hown (ht _ ml_X8_51) (ht _ na_cpy) (ht _ st_cpy) (ht _ in_sys) hK hP (hDD _) hS 61 70 CW_61 CW_70 (by decide) (by decide) hc18 (Nat.le_of_ble_eq_true rfl) (Nat.le_of_ble_eq_true rfl) eX8_become_140.2.2.1 (CW_w70 _) (fun H locs hP hS => ?_)
  obtain ⟨s19, hs19, h⟩ := st_e h
  rw [hs19] at hP
  obtain rfl := Option.some.inj h
  exact W.vret hx hb hr (fun t ht hW => ⟨⟨(), rfl, trivial, by rw [ht]; exact hP, va_K.moved hW.alike hK, hDD _⟩, hS.F ht⟩) hS.2.2 eX8_become_140.2.2.2.1
set_option maxHeartbeats 4000000 in
set_option maxRecDepth 100000 in
theorem k_x1_begin (l : Launch) (D : va_G) (a : Nat → Nat) (sz : Nat) (s : MS) (o : MS) (h : m_x1_begin s = some o) : yWv l yX1_begin cX1_begin 1 none { frames := 2, cells := 0, slots := 0, locals := 120 } D sz [.ref (a 49)] (CS D a s) (CS D a o) := by
  refine Met.ofW (cc := cX1_begin) (maxL := 1) (ret := none) (by decide) rfl ?_
  intro p e s₀ m args below meth c s₁ B hml hv
  obtain ⟨rfl, ⟨hsz, hP, hK, hD0⟩, hN⟩ := hv
  have hx := B.exec
  have hb := B.bytes
  have hr := B.returns
  have hts := atoms_spec (ws := wz yX1_begin cX1_begin 1 none) B.pre
  have ht : ∀ w ∈ lw_gd, w.before _ s₀ = true := fun w h => hts w (List.mem_cons_of_mem _ h)
  have hown : s₀.vm.findClass RX1 = some m.cls := findClass_of_methodNamed B.named
  have hlocks := B.notSynchronized
  subst hsz
  have hD := hD0.self (sz := s₀.heap.size)
  generalize hAe : va_A (CS D a s) s₀.heap.size = A at hD ⊢
  have hA : ∀ q : Nat, s₀.heap.size ≤ q → A q := fun q h => by rw [← hAe]; exact Or.inr h
  have hS : va_S A s₀.heap s₀.heap [] := va_S.rf
  have hDD : ∀ t : MS, va_D A (CS D a t) := fun t => CW_D t hD
  have hl := lv_entry ([.ref (a 49)]) (n := 1) (Nat.le_of_ble_eq_true rfl)
  rw [lg_entry_eq]
  generalize (lg_sl ([.ref (a 49)]) ++ List.replicate (1 - (lg_sl ([.ref (a 49)])).length) Slot.unset).toArray = ls at hl ⊢
  have hl : lv_has ls 1 [(0, .ref (a 49))] := hl
  unfold m_x1_begin at h
  refine lv_aload_n hx hb eX11_writes_51.2.2.2.1 rfl (lv_at hl 0 rfl) ?_
  refine va_get (D := D) (ci := 1) (v := .ref (a 62)) (C := RX1) (T := TX1) (N := 9) hx hb ht inX1 hown hK hP 49 CW_49 rfl 1 (by decide) (ht (.fieldLink RX1 18 "CloneVolumes$Forest" "before" "LCloneVolumes$State;") fl_X1_18) (fun _ h9 => h9) rfl eX11_writes_51.2.2.2.2.1 ?_
  refine lv_aload_n hx hb eX11_writes_51.2.2.2.2.2.1 rfl (lv_at hl 0 rfl) ?_
  refine va_get (D := D) (ci := 1) (v := .ref (a 53)) (C := RX1) (T := TX1) (N := 9) hx hb ht inX1 hown hK hP 49 CW_49 rfl 0 (by decide) (ht (.fieldLink RX1 12 "CloneVolumes$Forest" "now" "LCloneVolumes$State;") fl_X1_12) (fun _ h9 => h9) rfl eX11_writes_51.2.2.2.2.2.2.1 ?_
  obtain ⟨s2, hc1, h⟩ := bn_e h
  refine ywVv (As := [.ref (a 53)]) (rest := []) (C := RX8) (n := 1) (ws' := CS D a s2) ⟨hx, hb, hml, hown, ht⟩ (k_x8_become_v2 l D a _ _ _ hc1) (zgV ml_X1_100 im_X8_become se_X8_become in_X8 co_X8_become) rfl rfl (by decide +kernel) ⟨Nat.le_of_ble_eq_true rfl, Nat.le_of_ble_eq_true rfl⟩ hN hK hP (hDD _) hS hA 62 CW_62 rfl rfl rfl hl.1 rfl (Nat.le_of_ble_eq_true rfl) eX11_writes_51.2.2.2.2.2.2.2 ⟨Nat.le_of_ble_eq_true rfl, Nat.le_of_ble_eq_true rfl⟩ (fun H locs hP hS => ?_)
  refine lv_aload_n hx hb eX1_begin_11.1 rfl (lv_at hl 0 rfl) ?_
  refine va_get (D := D) (ci := 1) (v := .ref (a 53)) (C := RX1) (T := TX1) (N := 9) hx hb ht inX1 hown hK hP 49 CW_49 rfl 0 (by decide) (ht (.fieldLink RX1 12 "CloneVolumes$Forest" "now" "LCloneVolumes$State;") fl_X1_12) (fun _ h9 => h9) rfl eX1_begin_11.2.1 ?_
  refine lv_lconst (v := 0) hx hb eX1_begin_11.2.2.1 (by decide) ?_
  refine ya_put (D := D) (ci := 8) (v := .long 0) (ty := .long) (C := RX8) (T := TX8) (N := 11) hx hb ht inX8 tyX8 tyX8_ok nmX8 hown hK hP (hDD _) hS 53 CW_53 rfl 2 (by decide) (ht (.fieldLink RX1 96 "CloneVolumes$State" "written" "J") fl_X1_96) (fun _ h9 => h9) rfl (by decide +kernel) rfl rfl (Nat.le_of_ble_eq_true rfl) eX1_begin_11.2.2.2.1 (CW_w53_2 0) (fun H locs hP hS => ?_)
  obtain ⟨s3, hs3, h⟩ := st_e h
  rw [hs3] at hP
  obtain rfl := Option.some.inj h
  exact W.vret hx hb hr (fun t ht hW => ⟨⟨(), rfl, trivial, by rw [ht]; exact hP, va_K.moved hW.alike hK, hDD _⟩, hS.F ht⟩) hS.2.2 eX1_begin_11.2.2.2.2.1
set_option maxHeartbeats 4000000 in
set_option maxRecDepth 100000 in
theorem k_x1_rehearse (l : Launch) (D : va_G) (a : Nat → Nat) (p0 : Int) (p1 : Int) (sz : Nat) (s : MS) (o : (Int × MS)) (h : m_x1_rehearse p0 p1 s = some o) : yWi l yX1_rehearse cX1_rehearse 4 (some .boolean) { frames := 5, cells := 0, slots := 0, locals := 300 } D sz [.ref (a 49), .int (i2 p0), .int (i2 p1)] (CS D a s) (CS D a o.2) (i2 o.1) := by
  refine Met.ofW (cc := cX1_rehearse) (maxL := 4) (ret := (some .boolean)) (by decide) rfl ?_
  intro p e s₀ m args below meth c s₁ B hml hv
  obtain ⟨rfl, ⟨hsz, hP, hK, hD0⟩, hN⟩ := hv
  have hx := B.exec
  have hb := B.bytes
  have hr := B.returns
  have hts := atoms_spec (ws := wz yX1_rehearse cX1_rehearse 4 (some .boolean)) B.pre
  have ht : ∀ w ∈ lw_gd, w.before _ s₀ = true := fun w h => hts w (List.mem_cons_of_mem _ h)
  have hown : s₀.vm.findClass RX1 = some m.cls := findClass_of_methodNamed B.named
  have hlocks := B.notSynchronized
  subst hsz
  have hD := hD0.self (sz := s₀.heap.size)
  generalize hAe : va_A (CS D a s) s₀.heap.size = A at hD ⊢
  have hA : ∀ q : Nat, s₀.heap.size ≤ q → A q := fun q h => by rw [← hAe]; exact Or.inr h
  have hS : va_S A s₀.heap s₀.heap [] := va_S.rf
  have hDD : ∀ t : MS, va_D A (CS D a t) := fun t => CW_D t hD
  have hl := lv_entry ([.ref (a 49), .int (i2 p0), .int (i2 p1)]) (n := 4) (Nat.le_of_ble_eq_true rfl)
  rw [lg_entry_eq]
  generalize (lg_sl ([.ref (a 49), .int (i2 p0), .int (i2 p1)]) ++ List.replicate (4 - (lg_sl ([.ref (a 49), .int (i2 p0), .int (i2 p1)])).length) Slot.unset).toArray = ls at hl ⊢
  have hl : lv_has ls 4 [(0, .ref (a 49)), (1, .int (i2 p0)), (2, .int (i2 p1))] := hl
  unfold m_x1_rehearse at h
  refine y_head (pcJ := 29) (σ := Int × Int × Int × MS) (fun u H locs ls => va_P D vwCl (CS D a u.2.2.2) H ∧ va_S A s₀.heap H locs ∧ lv_has ls 4 [(0, .ref (a 49)), (1, .int (i2 u.1)), (2, .int (i2 u.2.1))] ∧ m_x1_rehearse_J29 u.1 u.2.1 u.2.2.1 u.2.2.2 = some o) (fun u => [.int (i2 u.2.2.1)]) (fun u H locs ls hI => ?_) (fun J29 => ?_)
  · obtain ⟨hP, hS, hl, h⟩ := hI
    obtain ⟨x1, x2, x3, s4⟩ := u
    have hP : va_P D vwCl (CS D a s4) H := hP
    have hl : lv_has ls 4 [(0, .ref (a 49)), (1, .int (i2 x1)), (2, .int (i2 x2))] := hl
    have h : m_x1_rehearse_J29 x1 x2 x3 s4 = some o := h
    unfold m_x1_rehearse_J29 at h
    refine lv_istore_n (lv' := [(3, .int (i2 x3)), (0, .ref (a 49)), (1, .int (i2 x1)), (2, .int (i2 x2))]) hx hb eX1_rehearse_25.2.2.1 rfl hl (by decide) rfl (fun ls hl => ?_)
    refine lv_aload_n hx hb eX1_rehearse_25.2.2.2.1 rfl (lv_at hl 1 rfl) ?_
    refine lv_iload_n hx hb eX1_rehearse_25.2.2.2.2.1 rfl (lv_at hl 2 rfl) ?_
    refine lv_iload_n hx hb eX1_rehearse_25.2.2.2.2.2.1 rfl (lv_at hl 3 rfl) ?_
    refine lv_iload_n hx hb eX1_rehearse_25.2.2.2.2.2.2.1 rfl (lv_at hl 0 rfl) ?_
    obtain ⟨⟨r7, s6⟩, hc5, h⟩ := bn_e h
    refine ywV (r0 := i2 r7) (As := [.int (i2 x1), .int (i2 x2), .int (i2 x3)]) (rest := []) (C := RX1) (n := 3) (ws' := CS D a s6) ⟨hx, hb, hml, hown, ht⟩ (k_x1_plant l D a x1 x2 x3 _ _ _ hc5) (zgV ml_X1_141 im_X1_plant se_X1_plant in_X1 co_X1_plant) rfl rfl (by decide +kernel) ⟨Nat.le_of_ble_eq_true rfl, Nat.le_of_ble_eq_true rfl⟩ hN hK hP (hDD _) hS hA 49 CW_49 rfl rfl rfl hl.1 rfl (Nat.le_of_ble_eq_true rfl) eX1_rehearse_25.2.2.2.2.2.2.2 ⟨Nat.le_of_ble_eq_true rfl, Nat.le_of_ble_eq_true rfl⟩ (fun H locs hP hS => ?_)
    obtain ⟨hb8, h⟩ := bo_e h
    obtain rfl := Option.some.inj h
    exact W.zret (v := (i2 r7)) hx hb hr (bo_n hb8) (fun t ht hW => ⟨⟨_, (), rfl, rfl, by rw [ht]; exact hP, va_K.moved hW.alike hK, hDD _⟩, hS.F ht⟩) hS.2.2 eX1_rehearse_37.1
  refine lv_aload_n hx hb eX1_price_47.2.2.2.1 rfl (lv_at hl 0 rfl) ?_
  obtain ⟨s10, hc9, h⟩ := bn_e h
  refine ywVv (As := []) (rest := []) (C := RX1) (n := 0) (ws' := CS D a s10) ⟨hx, hb, hml, hown, ht⟩ (k_x1_begin l D a _ _ _ hc9) (zgV ml_X1_135 im_X1_begin se_X1_begin in_X1 co_X1_begin) rfl rfl (by decide +kernel) ⟨Nat.le_of_ble_eq_true rfl, Nat.le_of_ble_eq_true rfl⟩ hN hK hP (hDD _) hS hA 49 CW_49 rfl rfl rfl hl.1 rfl (Nat.le_of_ble_eq_true rfl) eX1_price_47.2.2.2.2.1 ⟨Nat.le_of_ble_eq_true rfl, Nat.le_of_ble_eq_true rfl⟩ (fun H locs hP hS => ?_)
  refine lv_aload_n hx hb eX1_price_47.2.2.2.2.2.1 rfl (lv_at hl 0 rfl) ?_
  refine va_get (D := D) (ci := 1) (v := .ref (a 53)) (C := RX1) (T := TX1) (N := 9) hx hb ht inX1 hown hK hP 49 CW_49 rfl 0 (by decide) (ht (.fieldLink RX1 12 "CloneVolumes$Forest" "now" "LCloneVolumes$State;") fl_X1_12) (fun _ h9 => h9) rfl eX1_price_47.2.2.2.2.2.2.1 ?_
  refine lv_aload_n hx hb eX1_price_47.2.2.2.2.2.2.2 rfl (lv_at hl 0 rfl) ?_
  refine va_get (D := D) (ci := 1) (v := .ref (a 53)) (C := RX1) (T := TX1) (N := 9) hx hb ht inX1 hown hK hP 49 CW_49 rfl 0 (by decide) (ht (.fieldLink RX1 12 "CloneVolumes$Forest" "now" "LCloneVolumes$State;") fl_X1_12) (fun _ h9 => h9) rfl eX1_rehearse_9.1 ?_
  refine va_get (D := D) (ci := 8) (v := .ref (a 60)) (C := RX8) (T := TX8) (N := 11) hx hb ht inX8 hown hK hP 53 CW_53 rfl 9 (by decide) (ht (.fieldLink RX1 69 "CloneVolumes$State" "roots" "[I") fl_X1_69) (fun _ h9 => h9) rfl eX1_rehearse_9.2.1 ?_
  refine lv_iload_n hx hb eX1_rehearse_9.2.2.1 rfl (lv_at hl 1 rfl) ?_
  obtain ⟨y11, ey11, iy11, h⟩ := rdI_e h
  refine ya_iald (i := p0) hx hb hK hP 60 0 CW_60 rfl (by decide) ey11 iy11 eX1_rehearse_9.2.2.2.1 ?_
  refine lv_iload_n hx hb eX1_rehearse_9.2.2.2.2.1 rfl (lv_at hl 2 rfl) ?_
  obtain ⟨r13, hc12, h⟩ := bn_e h
  refine ycV (r0 := i2 r13) (As := [.int (i2 y11), .int (i2 p1)]) (rest := []) (C := RX8) (n := 2) ⟨hx, hb, hml, hown, ht⟩ (k_x8_valueAt l D a y11 p1 _ _ hc12) (zgV ml_X1_138 im_X8_valueAt se_X8_valueAt in_X8 co_X8_valueAt) rfl rfl (by decide +kernel) ⟨Nat.le_of_ble_eq_true rfl, Nat.le_of_ble_eq_true rfl⟩ hN hK hP hS 53 CW_53 rfl rfl rfl hl.1 rfl (Nat.le_of_ble_eq_true rfl) eX1_rehearse_9.2.2.2.2.2.1 ⟨Nat.le_of_ble_eq_true rfl, Nat.le_of_ble_eq_true rfl⟩ (fun H locs hP hS => ?_)
  obtain ⟨hr14, h⟩ := rg_e h
  refine lv_if_ne (tgt := 28) hx hb eX1_rehearse_9.2.2.2.2.2.2.1 (by decide) (fun c15 => ?_) (fun c15 => ?_)
  · have h := if_f (mt (i2_eq (x := r13) (y := 0) hr14 (by decide)).mpr c15) h
    refine lv_iconst (v := 0) hx hb eX1_rehearse_25.2.1 (by decide) ?_
    exact J29 (p0, p1, 0, s10) _ _ _ ⟨hP, hS, lv_sub hl [0, 1, 2] rfl, h⟩
  · have h := if_t ((i2_eq (x := r13) (y := 0) hr14 (by decide)).mp c15) h
    refine lv_iconst (v := 1) hx hb eX1_rehearse_9.2.2.2.2.2.2.2 (by decide) ?_
    refine lv_goto (tgt := 29) hx hb eX1_rehearse_25.1 (by decide) ?_
    exact J29 (p0, p1, 1, s10) _ _ _ ⟨hP, hS, lv_sub hl [0, 1, 2] rfl, h⟩
set_option maxHeartbeats 4000000 in
set_option maxRecDepth 100000 in
theorem k_x1_isWritten (l : Launch) (D : va_G) (a : Nat → Nat) (p0 : Int) (s : MS) (o : Int) (h : m_x1_isWritten p0 s = some o) : yRi l yX1_isWritten cX1_isWritten 2 (some .boolean) { frames := 2, cells := 0, slots := 0, locals := 120 } D [.ref (a 49), .int (i2 p0)] (CS D a s) (i2 o) := by
  refine Met.ofW (cc := cX1_isWritten) (maxL := 2) (ret := (some .boolean)) (by decide) rfl ?_
  intro p e s₀ m args below meth c s₁ B hml hv
  obtain ⟨rfl, ⟨hP, hK⟩, hN⟩ := hv
  have hx := B.exec
  have hb := B.bytes
  have hr := B.returns
  have hts := atoms_spec (ws := wz yX1_isWritten cX1_isWritten 2 (some .boolean)) B.pre
  have ht : ∀ w ∈ lw_gd, w.before _ s₀ = true := fun w h => hts w (List.mem_cons_of_mem _ h)
  have hown : s₀.vm.findClass RX1 = some m.cls := findClass_of_methodNamed B.named
  have hlocks := B.notSynchronized
  have hS : va_S (fun _ => False) s₀.heap s₀.heap [] := va_S.rf
  have hl := lv_entry ([.ref (a 49), .int (i2 p0)]) (n := 2) (Nat.le_of_ble_eq_true rfl)
  rw [lg_entry_eq]
  generalize (lg_sl ([.ref (a 49), .int (i2 p0)]) ++ List.replicate (2 - (lg_sl ([.ref (a 49), .int (i2 p0)])).length) Slot.unset).toArray = ls at hl ⊢
  have hl : lv_has ls 2 [(0, .ref (a 49)), (1, .int (i2 p0))] := hl
  unfold m_x1_isWritten at h
  refine y_head (pcJ := 32) (σ := Int) (fun u H locs ls => va_P D vwCl (CS D a s) H ∧ va_S (fun _ => False) s₀.heap H locs ∧ lv_has ls 2 [] ∧ m_x1_isWritten_J32 s u = some o) (fun u => [.int (i2 u)]) (fun u H locs ls hI => ?_) (fun J32 => ?_)
  · obtain ⟨hP, hS, hl, h⟩ := hI
    obtain ⟨x1, rfl⟩ : ∃ z, z = u := ⟨u, rfl⟩
    have hP : va_P D vwCl (CS D a s) H := hP
    have hl : lv_has ls 2 [] := hl
    have h : m_x1_isWritten_J32 s x1 = some o := h
    unfold m_x1_isWritten_J32 at h
    obtain ⟨hb2, h⟩ := bo_e h
    obtain rfl := Option.some.inj h
    exact W.zret (v := (i2 x1)) hx hb hr (bo_n hb2) (fun t ht hW => ⟨⟨_, (), rfl, rfl, trivial⟩, hS.F ht⟩) hS.2.2 eX1_isWritten_23.2.2.2.2.2.1
  refine y_head (pcJ := 31) (σ := Unit) (fun u H locs ls => va_P D vwCl (CS D a s) H ∧ va_S (fun _ => False) s₀.heap H locs ∧ lv_has ls 2 [] ∧ m_x1_isWritten_J31 s u = some o) (fun u => []) (fun u H locs ls hI => ?_) (fun J31 => ?_)
  · obtain ⟨hP, hS, hl, h⟩ := hI
    skip
    have hP : va_P D vwCl (CS D a s) H := hP
    have hl : lv_has ls 2 [] := hl
    have h : m_x1_isWritten_J31 s () = some o := h
    unfold m_x1_isWritten_J31 at h
    refine lv_iconst (v := 0) hx hb eX1_isWritten_23.2.2.2.2.1 (by decide) ?_
    exact J32 0 _ _ _ ⟨hP, hS, lv_sub hl [] rfl, h⟩
  refine lv_aload_n hx hb eX1_costOf_83.2.2.2.1 rfl (lv_at hl 0 rfl) ?_
  refine va_get (D := D) (ci := 1) (v := .ref (a 53)) (C := RX1) (T := TX1) (N := 9) hx hb ht inX1 hown hK hP 49 CW_49 rfl 0 (by decide) (ht (.fieldLink RX1 12 "CloneVolumes$Forest" "now" "LCloneVolumes$State;") fl_X1_12) (fun _ h9 => h9) rfl eX1_costOf_83.2.2.2.2.1 ?_
  refine lv_iload_n hx hb eX1_costOf_83.2.2.2.2.2.1 rfl (lv_at hl 1 rfl) ?_
  obtain ⟨r4, hc3, h⟩ := bn_e h
  refine ycV (r0 := i2 r4) (As := [.int (i2 p0)]) (rest := []) (C := RX8) (n := 1) ⟨hx, hb, hml, hown, ht⟩ (k_x8_inUse l D a p0 _ _ hc3) (zgV ml_X1_129 im_X8_inUse se_X8_inUse in_X8 co_X8_inUse) rfl rfl (by decide +kernel) ⟨Nat.le_of_ble_eq_true rfl, Nat.le_of_ble_eq_true rfl⟩ hN hK hP hS 53 CW_53 rfl rfl rfl hl.1 rfl (Nat.le_of_ble_eq_true rfl) eX1_costOf_83.2.2.2.2.2.2.1 ⟨Nat.le_of_ble_eq_true rfl, Nat.le_of_ble_eq_true rfl⟩ (fun H locs hP hS => ?_)
  obtain ⟨hr5, h⟩ := rg_e h
  refine lv_if_eq (tgt := 31) hx hb eX1_costOf_83.2.2.2.2.2.2.2 (by decide) (fun c6 => ?_) (fun c6 => ?_)
  · have h := if_t ((i2_eq (x := r4) (y := 0) hr5 (by decide)).mp c6) h
    exact J31 () _ _ _ ⟨hP, hS, lv_sub hl [] rfl, h⟩
  · have h := if_f (mt (i2_eq (x := r4) (y := 0) hr5 (by decide)).mpr c6) h
    refine lv_aload_n hx hb eX1_isWritten_11.1 rfl (lv_at hl 0 rfl) ?_
    refine va_get (D := D) (ci := 1) (v := .ref (a 53)) (C := RX1) (T := TX1) (N := 9) hx hb ht inX1 hown hK hP 49 CW_49 rfl 0 (by decide) (ht (.fieldLink RX1 12 "CloneVolumes$Forest" "now" "LCloneVolumes$State;") fl_X1_12) (fun _ h9 => h9) rfl eX1_isWritten_11.2.1 ?_
    refine va_get (D := D) (ci := 8) (v := .long (i8 (gL s 1062))) (C := RX8) (T := TX8) (N := 11) hx hb ht inX8 hown hK hP 53 CW_53 rfl 2 (by decide) (ht (.fieldLink RX1 96 "CloneVolumes$State" "written" "J") fl_X1_96) (fun _ h9 => h9) rfl eX1_isWritten_11.2.2.1 ?_
    refine lv_iload_n hx hb eX1_isWritten_11.2.2.2.1 rfl (lv_at hl 1 rfl) ?_
    refine lv_lushr (v := i8 (ushrLZ (gL s 1062) p0)) hx hb eX1_isWritten_11.2.2.2.2.1 (i8_of (ushrL (i8 (gL s 1062)) (i2 p0))).symm ?_
    refine lv_lconst (v := 1) hx hb eX1_isWritten_11.2.2.2.2.2.1 (by decide) ?_
    refine lv_land hx hb eX1_isWritten_11.2.2.2.2.2.2.1 ?_
    refine z_topl (y := i8 (andL (ushrLZ (gL s 1062) p0) 1)) (i8_of (i8 (ushrLZ (gL s 1062) p0) &&& i8 1)).symm ?_
    refine lv_lconst (v := 0) hx hb eX1_isWritten_11.2.2.2.2.2.2.2 (by decide) ?_
    refine W.lcmp hx hb eX1_isWritten_23.1 ?_
    obtain ⟨hr7, h⟩ := rgL_e h
    refine lv_if_eq (tgt := 31) hx hb eX1_isWritten_23.2.1 (by decide) (fun c8 => ?_) (fun c8 => ?_)
    · have h := if_t ((l_eq (x := (andL (ushrLZ (gL s 1062) p0) 1)) (y := 0) hr7 (by decide)).mp c8) h
      exact J31 () _ _ _ ⟨hP, hS, lv_sub hl [] rfl, h⟩
    · have h := if_f (mt (l_eq (x := (andL (ushrLZ (gL s 1062) p0) 1)) (y := 0) hr7 (by decide)).mpr c8) h
      refine lv_iconst (v := 1) hx hb eX1_isWritten_23.2.2.1 (by decide) ?_
      refine lv_goto (tgt := 32) hx hb eX1_isWritten_23.2.2.2.1 (by decide) ?_
      exact J32 1 _ _ _ ⟨hP, hS, lv_sub hl [] rfl, h⟩
set_option maxHeartbeats 4000000 in
set_option maxRecDepth 100000 in
theorem k_x1_costOf (l : Launch) (D : va_G) (a : Nat → Nat) (p0 : Int) (sz : Nat) (s : MS) (o : (Int × MS)) (h : m_x1_costOf p0 s = some o) : yWi l yX1_costOf cX1_costOf 2 (some .int) { frames := 2, cells := 0, slots := 0, locals := 120 } D sz [.ref (a 49), .int (i2 p0)] (CS D a s) (CS D a o.2) (i2 o.1) := by
  refine Met.ofW (cc := cX1_costOf) (maxL := 2) (ret := (some .int)) (by decide) rfl ?_
  intro p e s₀ m args below meth c s₁ B hml hv
  obtain ⟨rfl, ⟨hsz, hP, hK, hD0⟩, hN⟩ := hv
  have hx := B.exec
  have hb := B.bytes
  have hr := B.returns
  have hts := atoms_spec (ws := wz yX1_costOf cX1_costOf 2 (some .int)) B.pre
  have ht : ∀ w ∈ lw_gd, w.before _ s₀ = true := fun w h => hts w (List.mem_cons_of_mem _ h)
  have hown : s₀.vm.findClass RX1 = some m.cls := findClass_of_methodNamed B.named
  have hlocks := B.notSynchronized
  subst hsz
  have hD := hD0.self (sz := s₀.heap.size)
  generalize hAe : va_A (CS D a s) s₀.heap.size = A at hD ⊢
  have hA : ∀ q : Nat, s₀.heap.size ≤ q → A q := fun q h => by rw [← hAe]; exact Or.inr h
  have hS : va_S A s₀.heap s₀.heap [] := va_S.rf
  have hDD : ∀ t : MS, va_D A (CS D a t) := fun t => CW_D t hD
  have hl := lv_entry ([.ref (a 49), .int (i2 p0)]) (n := 2) (Nat.le_of_ble_eq_true rfl)
  rw [lg_entry_eq]
  generalize (lg_sl ([.ref (a 49), .int (i2 p0)]) ++ List.replicate (2 - (lg_sl ([.ref (a 49), .int (i2 p0)])).length) Slot.unset).toArray = ls at hl ⊢
  have hl : lv_has ls 2 [(0, .ref (a 49)), (1, .int (i2 p0))] := hl
  unfold m_x1_costOf at h
  refine lv_aload_n hx hb eX1_begin_11.2.2.2.2.2.1 rfl (lv_at hl 0 rfl) ?_
  refine va_get (D := D) (ci := 1) (v := .ref (a 29)) (C := RX1) (T := TX1) (N := 9) hx hb ht inX1 hown hK hP 49 CW_49 rfl 4 (by decide) (ht (.fieldLink RX1 47 "CloneVolumes$Forest" "plan" "LCloneVolumes$Plan;") fl_X1_47) (fun _ h9 => h9) rfl eX1_begin_11.2.2.2.2.2.2.1 ?_
  refine va_get (D := D) (ci := 5) (v := .ref (a 35)) (C := RX5) (T := TX5) (N := 14) hx hb ht inX5 hown hK hP 29 CW_29 rfl 12 (by decide) (ht (.fieldLink RX1 144 "CloneVolumes$Plan" "begins" "[I") fl_X1_144) (fun _ h9 => h9) rfl eX1_begin_11.2.2.2.2.2.2.2 ?_
  refine lv_iconst (v := 2) hx hb eX1_costOf_7.1 (by decide) ?_
  obtain ⟨y1, ey1, iy1, h⟩ := rdI_e h
  refine ya_iald (i := 2) hx hb hK hP 35 0 CW_35 rfl (by decide) ey1 iy1 eX1_costOf_7.2.1 ?_
  refine lv_iconst (v := (-1)) hx hb eX1_costOf_7.2.2.1 (by decide) ?_
  obtain ⟨hr2, h⟩ := rg_e h
  refine lv_icmp_ne (tgt := 15) hx hb eX1_costOf_7.2.2.2.1 (by decide) (fun c3 => ?_) (fun c3 => ?_)
  · rw [show ((-1) : Int32) = i2 (-1) from by decide] at c3
    have h := if_f (mt (i2_eq (x := y1) (y := (-1)) hr2 (by decide)).mpr c3) h
    refine lv_aload_n hx hb eX1_costOf_7.2.2.2.2.2.2.1 rfl (lv_at hl 0 rfl) ?_
    refine va_get (D := D) (ci := 1) (v := .ref (a 80)) (C := RX1) (T := TX1) (N := 9) hx hb ht inX1 hown hK hP 49 CW_49 rfl 5 (by decide) (ht (.fieldLink RX1 33 "CloneVolumes$Forest" "machine" "LCloneVolumes$Machine;") fl_X1_33) (fun _ h9 => h9) rfl eX1_costOf_7.2.2.2.2.2.2.2 ?_
    refine lv_iload_n hx hb eX1_costOf_19.1 rfl (lv_at hl 1 rfl) ?_
    refine ya_put (D := D) (ci := 3) (v := .int (i2 p0)) (ty := .int) (C := RX3) (T := TX3) (N := 10) hx hb ht inX3 tyX3 tyX3_ok nmX3 hown hK hP (hDD _) hS 80 CW_80 rfl 2 (by decide) (ht (.fieldLink RX1 147 "CloneVolumes$Machine" "number" "I") fl_X1_147) (fun _ h9 => h9) rfl (by decide +kernel) rfl rfl (Nat.le_of_ble_eq_true rfl) eX1_costOf_19.2.1 (CW_w80_2 p0) (fun H locs hP hS => ?_)
    obtain ⟨s4, hs4, h⟩ := st_e h
    rw [hs4] at hP
    refine lv_aload_n hx hb eX1_costOf_19.2.2.1 rfl (lv_at hl 0 rfl) ?_
    refine va_get (D := D) (ci := 1) (v := .ref (a 80)) (C := RX1) (T := TX1) (N := 9) hx hb ht inX1 hown hK hP 49 CW_49 rfl 5 (by decide) (ht (.fieldLink RX1 33 "CloneVolumes$Forest" "machine" "LCloneVolumes$Machine;") fl_X1_33) (fun _ h9 => h9) rfl eX1_costOf_19.2.2.2.1 ?_
    refine lv_aload_n hx hb eX1_costOf_19.2.2.2.2.1 rfl (lv_at hl 0 rfl) ?_
    refine va_get (D := D) (ci := 1) (v := .ref (a 53)) (C := RX1) (T := TX1) (N := 9) hx hb ht inX1 hown hK hP 49 CW_49 rfl 0 (by decide) (ht (.fieldLink RX1 12 "CloneVolumes$Forest" "now" "LCloneVolumes$State;") fl_X1_12) (fun _ h9 => h9) rfl eX1_costOf_19.2.2.2.2.2.1 ?_
    refine va_get (D := D) (ci := 8) (v := .ref (a 56)) (C := RX8) (T := TX8) (N := 11) hx hb ht inX8 hown hK hP 53 CW_53 rfl 5 (by decide) (ht (.fieldLink RX1 150 "CloneVolumes$State" "level" "[I") fl_X1_150) (fun _ h9 => h9) rfl eX1_costOf_19.2.2.2.2.2.2.1 ?_
    refine lv_iload_n hx hb eX1_costOf_19.2.2.2.2.2.2.2 rfl (lv_at hl 1 rfl) ?_
    obtain ⟨y5, ey5, iy5, h⟩ := rdI_e h
    refine ya_iald (i := p0) hx hb hK hP 56 0 CW_56 rfl (by decide) ey5 iy5 eX1_costOf_35.1 ?_
    refine ya_put (D := D) (ci := 3) (v := .int (i2 y5)) (ty := .int) (C := RX3) (T := TX3) (N := 10) hx hb ht inX3 tyX3 tyX3_ok nmX3 hown hK hP (hDD _) hS 80 CW_80 rfl 4 (by decide) (ht (.fieldLink RX1 153 "CloneVolumes$Machine" "level" "I") fl_X1_153) (fun _ h9 => h9) rfl (by decide +kernel) rfl rfl (Nat.le_of_ble_eq_true rfl) eX1_costOf_35.2.1 (CW_w80_4 y5) (fun H locs hP hS => ?_)
    obtain ⟨s6, hs6, h⟩ := st_e h
    rw [hs6] at hP
    refine lv_aload_n hx hb eX1_costOf_35.2.2.1 rfl (lv_at hl 0 rfl) ?_
    refine va_get (D := D) (ci := 1) (v := .ref (a 80)) (C := RX1) (T := TX1) (N := 9) hx hb ht inX1 hown hK hP 49 CW_49 rfl 5 (by decide) (ht (.fieldLink RX1 33 "CloneVolumes$Forest" "machine" "LCloneVolumes$Machine;") fl_X1_33) (fun _ h9 => h9) rfl eX1_costOf_35.2.2.2.1 ?_
    refine lv_aload_n hx hb eX1_costOf_35.2.2.2.2.1 rfl (lv_at hl 0 rfl) ?_
    refine va_get (D := D) (ci := 1) (v := .ref (a 53)) (C := RX1) (T := TX1) (N := 9) hx hb ht inX1 hown hK hP 49 CW_49 rfl 0 (by decide) (ht (.fieldLink RX1 12 "CloneVolumes$Forest" "now" "LCloneVolumes$State;") fl_X1_12) (fun _ h9 => h9) rfl eX1_costOf_35.2.2.2.2.2.1 ?_
    refine va_get (D := D) (ci := 8) (v := .ref (a 57)) (C := RX8) (T := TX8) (N := 11) hx hb ht inX8 hown hK hP 53 CW_53 rfl 6 (by decide) (ht (.fieldLink RX1 155 "CloneVolumes$State" "size" "[I") fl_X1_155) (fun _ h9 => h9) rfl eX1_costOf_35.2.2.2.2.2.2.1 ?_
    refine lv_iload_n hx hb eX1_costOf_35.2.2.2.2.2.2.2 rfl (lv_at hl 1 rfl) ?_
    obtain ⟨y7, ey7, iy7, h⟩ := rdI_e h
    refine ya_iald (i := p0) hx hb hK hP 57 0 CW_57 rfl (by decide) ey7 iy7 eX1_costOf_51.1 ?_
    refine ya_put (D := D) (ci := 3) (v := .int (i2 y7)) (ty := .int) (C := RX3) (T := TX3) (N := 10) hx hb ht inX3 tyX3 tyX3_ok nmX3 hown hK hP (hDD _) hS 80 CW_80 rfl 5 (by decide) (ht (.fieldLink RX1 158 "CloneVolumes$Machine" "entries" "I") fl_X1_158) (fun _ h9 => h9) rfl (by decide +kernel) rfl rfl (Nat.le_of_ble_eq_true rfl) eX1_costOf_51.2.1 (CW_w80_5 y7) (fun H locs hP hS => ?_)
    obtain ⟨s8, hs8, h⟩ := st_e h
    rw [hs8] at hP
    refine lv_aload_n hx hb eX1_costOf_51.2.2.1 rfl (lv_at hl 0 rfl) ?_
    refine va_get (D := D) (ci := 1) (v := .ref (a 80)) (C := RX1) (T := TX1) (N := 9) hx hb ht inX1 hown hK hP 49 CW_49 rfl 5 (by decide) (ht (.fieldLink RX1 33 "CloneVolumes$Forest" "machine" "LCloneVolumes$Machine;") fl_X1_33) (fun _ h9 => h9) rfl eX1_costOf_51.2.2.2.1 ?_
    refine lv_aload_n hx hb eX1_costOf_51.2.2.2.2.1 rfl (lv_at hl 0 rfl) ?_
    refine va_get (D := D) (ci := 1) (v := .ref (a 29)) (C := RX1) (T := TX1) (N := 9) hx hb ht inX1 hown hK hP 49 CW_49 rfl 4 (by decide) (ht (.fieldLink RX1 47 "CloneVolumes$Forest" "plan" "LCloneVolumes$Plan;") fl_X1_47) (fun _ h9 => h9) rfl eX1_costOf_51.2.2.2.2.2.1 ?_
    refine va_get (D := D) (ci := 5) (v := .ref (a 37)) (C := RX5) (T := TX5) (N := 14) hx hb ht inX5 hown hK hP 29 CW_29 rfl 11 (by decide) (ht (.fieldLink RX1 161 "CloneVolumes$Plan" "code" "LCloneVolumes$Code;") fl_X1_161) (fun _ h9 => h9) rfl eX1_costOf_51.2.2.2.2.2.2.1 ?_
    refine lv_aload_n hx hb eX1_costOf_51.2.2.2.2.2.2.2 rfl (lv_at hl 0 rfl) ?_
    refine va_get (D := D) (ci := 1) (v := .ref (a 29)) (C := RX1) (T := TX1) (N := 9) hx hb ht inX1 hown hK hP 49 CW_49 rfl 4 (by decide) (ht (.fieldLink RX1 47 "CloneVolumes$Forest" "plan" "LCloneVolumes$Plan;") fl_X1_47) (fun _ h9 => h9) rfl eX1_costOf_67.1 ?_
    refine va_get (D := D) (ci := 5) (v := .ref (a 35)) (C := RX5) (T := TX5) (N := 14) hx hb ht inX5 hown hK hP 29 CW_29 rfl 12 (by decide) (ht (.fieldLink RX1 144 "CloneVolumes$Plan" "begins" "[I") fl_X1_144) (fun _ h9 => h9) rfl eX1_costOf_67.2.1 ?_
    refine lv_iconst (v := 2) hx hb eX1_costOf_67.2.2.1 (by decide) ?_
    obtain ⟨y9, ey9, iy9, h⟩ := rdI_e h
    refine ya_iald (i := 2) hx hb hK hP 35 0 CW_35 rfl (by decide) ey9 iy9 eX1_costOf_67.2.2.2.1 ?_
    refine lv_aload_n hx hb eX1_costOf_67.2.2.2.2.1 rfl (lv_at hl 0 rfl) ?_
    refine va_get (D := D) (ci := 1) (v := .ref (a 29)) (C := RX1) (T := TX1) (N := 9) hx hb ht inX1 hown hK hP 49 CW_49 rfl 4 (by decide) (ht (.fieldLink RX1 47 "CloneVolumes$Forest" "plan" "LCloneVolumes$Plan;") fl_X1_47) (fun _ h9 => h9) rfl eX1_costOf_67.2.2.2.2.2.1 ?_
    refine va_get (D := D) (ci := 5) (v := .ref (a 36)) (C := RX5) (T := TX5) (N := 14) hx hb ht inX5 hown hK hP 29 CW_29 rfl 13 (by decide) (ht (.fieldLink RX1 165 "CloneVolumes$Plan" "ends" "[I") fl_X1_165) (fun _ h9 => h9) rfl eX1_costOf_67.2.2.2.2.2.2.1 ?_
    refine lv_iconst (v := 2) hx hb eX1_costOf_67.2.2.2.2.2.2.2 (by decide) ?_
    obtain ⟨y10, ey10, iy10, h⟩ := rdI_e h
    refine ya_iald (i := 2) hx hb hK hP 36 0 CW_36 rfl (by decide) ey10 iy10 eX1_costOf_83.1 ?_
    obtain ⟨⟨r13, s12⟩, hc11, h⟩ := bn_e h
    refine ywV (r0 := i2 r13) (As := [.ref (a 37), .int (i2 y9), .int (i2 y10)]) (rest := []) (C := RX3) (n := 3) (ws' := CS D a s12) ⟨hx, hb, hml, hown, ht⟩ (k_x3_value l D a y9 y10 _ _ _ hc11) (zgV ml_X1_168 im_X3_value se_X3_value in_X3 co_X3_value) rfl rfl (by decide +kernel) ⟨Nat.le_of_ble_eq_true rfl, Nat.le_of_ble_eq_true rfl⟩ hN hK hP (hDD _) hS hA 80 CW_80 rfl rfl rfl hl.1 rfl (Nat.le_of_ble_eq_true rfl) eX1_costOf_83.2.1 ⟨Nat.le_of_ble_eq_true rfl, Nat.le_of_ble_eq_true rfl⟩ (fun H locs hP hS => ?_)
    obtain rfl := Option.some.inj h
    exact W.iret (v := (i2 r13)) hx hb hr (fun t ht hW => ⟨⟨_, (), rfl, rfl, by rw [ht]; exact hP, va_K.moved hW.alike hK, hDD _⟩, hS.F ht⟩) hS.2.2 eX1_costOf_83.2.2.1
  · rw [show ((-1) : Int32) = i2 (-1) from by decide] at c3
    have h := if_t ((i2_eq (x := y1) (y := (-1)) hr2 (by decide)).mp c3) h
    refine lv_iconst (v := 1) hx hb eX1_costOf_7.2.2.2.2.1 (by decide) ?_
    obtain rfl := Option.some.inj h
    exact W.iret (v := 1) hx hb hr (fun t ht hW => ⟨⟨_, (), rfl, rfl, by rw [ht]; exact hP, va_K.moved hW.alike hK, hDD _⟩, hS.F ht⟩) hS.2.2 eX1_costOf_7.2.2.2.2.2.1
set_option maxHeartbeats 4000000 in
set_option maxRecDepth 100000 in
theorem k_x1_price (l : Launch) (D : va_G) (a : Nat → Nat) (sz : Nat) (s : MS) (o : (Int × MS)) (h : m_x1_price s = some o) : yWi l yX1_price cX1_price 3 (some .int) { frames := 3, cells := 0, slots := 0, locals := 180 } D sz [.ref (a 49)] (CS D a s) (CS D a o.2) (i2 o.1) := by
  refine Met.ofW (cc := cX1_price) (maxL := 3) (ret := (some .int)) (by decide) rfl ?_
  intro p e s₀ m args below meth c s₁ B hml hv
  obtain ⟨rfl, ⟨hsz, hP, hK, hD0⟩, hN⟩ := hv
  have hx := B.exec
  have hb := B.bytes
  have hr := B.returns
  have hts := atoms_spec (ws := wz yX1_price cX1_price 3 (some .int)) B.pre
  have ht : ∀ w ∈ lw_gd, w.before _ s₀ = true := fun w h => hts w (List.mem_cons_of_mem _ h)
  have hown : s₀.vm.findClass RX1 = some m.cls := findClass_of_methodNamed B.named
  have hlocks := B.notSynchronized
  subst hsz
  have hD := hD0.self (sz := s₀.heap.size)
  generalize hAe : va_A (CS D a s) s₀.heap.size = A at hD ⊢
  have hA : ∀ q : Nat, s₀.heap.size ≤ q → A q := fun q h => by rw [← hAe]; exact Or.inr h
  have hS : va_S A s₀.heap s₀.heap [] := va_S.rf
  have hDD : ∀ t : MS, va_D A (CS D a t) := fun t => CW_D t hD
  have hl := lv_entry ([.ref (a 49)]) (n := 3) (Nat.le_of_ble_eq_true rfl)
  rw [lg_entry_eq]
  generalize (lg_sl ([.ref (a 49)]) ++ List.replicate (3 - (lg_sl ([.ref (a 49)])).length) Slot.unset).toArray = ls at hl ⊢
  have hl : lv_has ls 3 [(0, .ref (a 49))] := hl
  unfold m_x1_price at h
  refine y_loop (pcJ := 4) (σ := Int × Int × MS) (fun n u H locs ls => va_P D vwCl (CS D a u.2.2) H ∧ va_S A s₀.heap H locs ∧ lv_has ls 3 [(0, .ref (a 49)), (1, .int (i2 u.1)), (2, .int (i2 u.2.1))] ∧ m_x1_price_L4 n u.1 u.2.1 u.2.2 = some o) (fun u => []) (fun u H locs ls hI => by obtain ⟨_, _, _, h⟩ := hI; cases h) (fun n4 ih4 u H locs ls hI => ?_) (fun J4 => ?_)
  · obtain ⟨hP, hS, hl, h⟩ := hI
    obtain ⟨x1, x2, s3⟩ := u
    have hP : va_P D vwCl (CS D a s3) H := hP
    have hl : lv_has ls 3 [(0, .ref (a 49)), (1, .int (i2 x1)), (2, .int (i2 x2))] := hl
    have h : m_x1_price_b4 (m_x1_price_L4 n4) x1 x2 s3 = some o := h
    unfold m_x1_price_b4 at h
    refine y_head (pcJ := 42) (σ := Int × Int × Int × MS) (fun u H locs ls => va_P D vwCl (CS D a u.2.2.2) H ∧ va_S A s₀.heap H locs ∧ lv_has ls 3 [(0, .ref (a 49)), (2, .int (i2 u.1))] ∧ m_x1_price_J42 (m_x1_price_L4 n4) u.1 u.2.1 u.2.2.1 u.2.2.2 = some o) (fun u => [.int (i2 u.2.1), .int (i2 u.2.2.1)]) (fun u H locs ls hI => ?_) (fun J42 => ?_)
    · obtain ⟨hP, hS, hl, h⟩ := hI
      obtain ⟨x4, x5, x6, s7⟩ := u
      have hP : va_P D vwCl (CS D a s7) H := hP
      have hl : lv_has ls 3 [(0, .ref (a 49)), (2, .int (i2 x4))] := hl
      have h : m_x1_price_J42 (m_x1_price_L4 n4) x4 x5 x6 s7 = some o := h
      unfold m_x1_price_J42 at h
      refine lv_iadd hx hb eX1_price_29.2.2.2.2.2.1 ?_
      refine z_topi (y := i2 (x6 + x5)) (i2_add x6 x5) ?_
      refine lv_istore_n (lv' := [(1, .int (i2 (x6 + x5))), (0, .ref (a 49)), (2, .int (i2 x4))]) hx hb eX1_price_29.2.2.2.2.2.2.1 rfl hl (by decide) rfl (fun ls hl => ?_)
      refine lv_iinc (v := i2 (x4 + 1)) (lv' := [(2, .int (i2 (x4 + 1))), (1, .int (i2 (x6 + x5))), (0, .ref (a 49))]) hx hb eX1_price_29.2.2.2.2.2.2.2 hl (k := 2) rfl (i2_add x4 1) (by decide) rfl (fun ls hl => ?_)
      refine lv_goto (tgt := 4) hx hb eX1_price_47.1 (by decide) ?_
      exact ih4 (x6 + x5, x4 + 1, s7) _ _ _ ⟨hP, hS, lv_sub hl [2, 1, 0] rfl, h⟩
    refine lv_iload_n hx hb eX1_price_2.2.2.1 rfl (lv_at hl 2 rfl) ?_
    refine lv_aload_n hx hb eX1_price_2.2.2.2.1 rfl (lv_at hl 0 rfl) ?_
    refine va_get (D := D) (ci := 1) (v := .ref (a 53)) (C := RX1) (T := TX1) (N := 9) hx hb ht inX1 hown hK hP 49 CW_49 rfl 0 (by decide) (ht (.fieldLink RX1 12 "CloneVolumes$Forest" "now" "LCloneVolumes$State;") fl_X1_12) (fun _ h9 => h9) rfl eX1_price_2.2.2.2.2.1 ?_
    refine va_get (D := D) (ci := 8) (v := .int (i2 (gI s3 1060))) (C := RX8) (T := TX8) (N := 11) hx hb ht inX8 hown hK hP 53 CW_53 rfl 0 (by decide) (ht (.fieldLink RX1 117 "CloneVolumes$State" "blocks" "I") fl_X1_117) (fun _ h9 => h9) rfl eX1_price_2.2.2.2.2.2.1 ?_
    obtain ⟨hr8, h⟩ := rg_e h
    obtain ⟨hr9, h⟩ := rg_e h
    refine lv_icmp_ge (tgt := 50) hx hb eX1_price_2.2.2.2.2.2.2.1 (by decide) (fun c10 => ?_) (fun c10 => ?_)
    · have h := if_t ((i2_le (x := (gI s3 1060)) (y := x2) hr9 hr8).mp c10) h
      refine lv_iload_n hx hb eX1_price_47.2.1 rfl (lv_at hl 1 rfl) ?_
      obtain rfl := Option.some.inj h
      exact W.iret (v := (i2 x1)) hx hb hr (fun t ht hW => ⟨⟨_, (), rfl, rfl, by rw [ht]; exact hP, va_K.moved hW.alike hK, hDD _⟩, hS.F ht⟩) hS.2.2 eX1_price_47.2.2.1
    · have h := if_f (mt (i2_le (x := (gI s3 1060)) (y := x2) hr9 hr8).mpr c10) h
      refine lv_iload_n hx hb eX1_price_2.2.2.2.2.2.2.2 rfl (lv_at hl 1 rfl) ?_
      refine lv_aload_n hx hb eX1_price_16.1 rfl (lv_at hl 0 rfl) ?_
      refine lv_iload_n hx hb eX1_price_16.2.1 rfl (lv_at hl 2 rfl) ?_
      obtain ⟨r12, hc11, h⟩ := bn_e h
      refine ycV (r0 := i2 r12) (As := [.int (i2 x2)]) (rest := [.int (i2 x1)]) (C := RX1) (n := 1) ⟨hx, hb, hml, hown, ht⟩ (k_x1_isWritten l D a x2 _ _ hc11) (zgV ml_X1_118 im_X1_isWritten se_X1_isWritten in_X1 co_X1_isWritten) rfl rfl (by decide +kernel) ⟨Nat.le_of_ble_eq_true rfl, Nat.le_of_ble_eq_true rfl⟩ hN hK hP hS 49 CW_49 rfl rfl rfl hl.1 rfl (Nat.le_of_ble_eq_true rfl) eX1_price_16.2.2.1 ⟨Nat.le_of_ble_eq_true rfl, Nat.le_of_ble_eq_true rfl⟩ (fun H locs hP hS => ?_)
      obtain ⟨hr13, h⟩ := rg_e h
      refine lv_if_eq (tgt := 41) hx hb eX1_price_16.2.2.2.1 (by decide) (fun c14 => ?_) (fun c14 => ?_)
      · have h := if_t ((i2_eq (x := r12) (y := 0) hr13 (by decide)).mp c14) h
        refine lv_iconst (v := 0) hx hb eX1_price_29.2.2.2.2.1 (by decide) ?_
        exact J42 (x2, 0, x1, s3) _ _ _ ⟨hP, hS, lv_sub hl [0, 2] rfl, h⟩
      · have h := if_f (mt (i2_eq (x := r12) (y := 0) hr13 (by decide)).mpr c14) h
        refine lv_iconst (v := 0) hx hb eX1_price_16.2.2.2.2.1 (by decide) ?_
        refine lv_bipush (v := 99) hx hb eX1_price_16.2.2.2.2.2.1 (by decide) ?_
        refine lv_aload_n hx hb eX1_price_16.2.2.2.2.2.2.1 rfl (lv_at hl 0 rfl) ?_
        refine lv_iload_n hx hb eX1_price_16.2.2.2.2.2.2.2 rfl (lv_at hl 2 rfl) ?_
        obtain ⟨⟨r17, s16⟩, hc15, h⟩ := bn_e h
        refine ywV (r0 := i2 r17) (As := [.int (i2 x2)]) (rest := [.int 99, .int 0, .int (i2 x1)]) (C := RX1) (n := 1) (ws' := CS D a s16) ⟨hx, hb, hml, hown, ht⟩ (k_x1_costOf l D a x2 _ _ _ hc15) (zgV ml_X1_122 im_X1_costOf se_X1_costOf in_X1 co_X1_costOf) rfl rfl (by decide +kernel) ⟨Nat.le_of_ble_eq_true rfl, Nat.le_of_ble_eq_true rfl⟩ hN hK hP (hDD _) hS hA 49 CW_49 rfl rfl rfl hl.1 rfl (Nat.le_of_ble_eq_true rfl) eX1_price_29.1 ⟨Nat.le_of_ble_eq_true rfl, Nat.le_of_ble_eq_true rfl⟩ (fun H locs hP hS => ?_)
        obtain ⟨hr18, h⟩ := rg_e h
        refine va_mmin hx hb (by rw [hml]; exact hl.1.symm) hown (ht _ ml_X1_108) (ht _ st_mmin) (ht _ in_math) (ht _ co_mmin) (Nat.le_of_ble_eq_true rfl) (Nat.le_of_ble_eq_true rfl) (Nat.le_of_ble_eq_true rfl) (Nat.le_of_ble_eq_true rfl) eX1_price_29.2.1 ?_
        refine z_topi (y := i2 (minZ 99 r17)) (i2_min (x := 99) (y := r17) (by decide) hr18) ?_
        obtain ⟨hr19, h⟩ := rg_e h
        refine va_mmax hx hb (by rw [hml]; exact hl.1.symm) hown (ht _ ml_X1_126) (ht _ st_mmax) (ht _ in_math) (ht _ co_mmax) (Nat.le_of_ble_eq_true rfl) (Nat.le_of_ble_eq_true rfl) (Nat.le_of_ble_eq_true rfl) (Nat.le_of_ble_eq_true rfl) eX1_price_29.2.2.1 ?_
        refine z_topi (y := i2 (maxZ 0 (minZ 99 r17))) (i2_max (x := 0) (y := (minZ 99 r17)) (by decide) hr19) ?_
        refine lv_goto (tgt := 42) hx hb eX1_price_29.2.2.2.1 (by decide) ?_
        exact J42 (x2, maxZ 0 (minZ 99 r17), x1, s16) _ _ _ ⟨hP, hS, lv_sub hl [0, 2] rfl, h⟩
  refine lv_iconst (v := 0) hx hb eX1_isWritten_23.2.2.2.2.2.2.1 (by decide) ?_
  refine lv_istore_n (lv' := [(1, .int 0), (0, .ref (a 49))]) hx hb eX1_isWritten_23.2.2.2.2.2.2.2 rfl hl (by decide) rfl (fun ls hl => ?_)
  refine lv_iconst (v := 0) hx hb eX1_price_2.1 (by decide) ?_
  refine lv_istore_n (lv' := [(2, .int 0), (1, .int 0), (0, .ref (a 49))]) hx hb eX1_price_2.2.1 rfl hl (by decide) rfl (fun ls hl => ?_)
  exact J4 FU (0, 0, s) _ _ _ ⟨hP, hS, lv_sub hl [2, 1, 0] rfl, h⟩
set_option maxHeartbeats 4000000 in
set_option maxRecDepth 100000 in
theorem k_x1_wouldCost (l : Launch) (D : va_G) (a : Nat → Nat) (p0 : Int) (p1 : Int) (sz : Nat) (s : MS) (o : (Int × MS)) (h : m_x1_wouldCost p0 p1 s = some o) : yWi l yX1_wouldCost cX1_wouldCost 5 (some .int) { frames := 6, cells := 0, slots := 0, locals := 360 } D sz [.ref (a 49), .int (i2 p0), .int (i2 p1)] (CS D a s) (CS D a o.2) (i2 o.1) := by
  refine Met.ofW (cc := cX1_wouldCost) (maxL := 5) (ret := (some .int)) (by decide) rfl ?_
  intro p e s₀ m args below meth c s₁ B hml hv
  obtain ⟨rfl, ⟨hsz, hP, hK, hD0⟩, hN⟩ := hv
  have hx := B.exec
  have hb := B.bytes
  have hr := B.returns
  have hts := atoms_spec (ws := wz yX1_wouldCost cX1_wouldCost 5 (some .int)) B.pre
  have ht : ∀ w ∈ lw_gd, w.before _ s₀ = true := fun w h => hts w (List.mem_cons_of_mem _ h)
  have hown : s₀.vm.findClass RX1 = some m.cls := findClass_of_methodNamed B.named
  have hlocks := B.notSynchronized
  subst hsz
  have hD := hD0.self (sz := s₀.heap.size)
  generalize hAe : va_A (CS D a s) s₀.heap.size = A at hD ⊢
  have hA : ∀ q : Nat, s₀.heap.size ≤ q → A q := fun q h => by rw [← hAe]; exact Or.inr h
  have hS : va_S A s₀.heap s₀.heap [] := va_S.rf
  have hDD : ∀ t : MS, va_D A (CS D a t) := fun t => CW_D t hD
  have hl := lv_entry ([.ref (a 49), .int (i2 p0), .int (i2 p1)]) (n := 5) (Nat.le_of_ble_eq_true rfl)
  rw [lg_entry_eq]
  generalize (lg_sl ([.ref (a 49), .int (i2 p0), .int (i2 p1)]) ++ List.replicate (5 - (lg_sl ([.ref (a 49), .int (i2 p0), .int (i2 p1)])).length) Slot.unset).toArray = ls at hl ⊢
  have hl : lv_has ls 5 [(0, .ref (a 49)), (1, .int (i2 p0)), (2, .int (i2 p1))] := hl
  unfold m_x1_wouldCost at h
  refine y_head (pcJ := 19) (σ := Int × MS) (fun u H locs ls => va_P D vwCl (CS D a u.2) H ∧ va_S A s₀.heap H locs ∧ lv_has ls 5 [(0, .ref (a 49))] ∧ m_x1_wouldCost_J19 u.1 u.2 = some o) (fun u => [.int (i2 u.1)]) (fun u H locs ls hI => ?_) (fun J19 => ?_)
  · obtain ⟨hP, hS, hl, h⟩ := hI
    obtain ⟨x1, s2⟩ := u
    have hP : va_P D vwCl (CS D a s2) H := hP
    have hl : lv_has ls 5 [(0, .ref (a 49))] := hl
    have h : m_x1_wouldCost_J19 x1 s2 = some o := h
    unfold m_x1_wouldCost_J19 at h
    refine lv_istore (lv' := [(4, .int (i2 x1)), (0, .ref (a 49))]) hx hb eX1_wouldCost_11.2.2.2.2.1 hl (by decide) rfl (fun ls hl => ?_)
    refine lv_aload_n hx hb eX1_wouldCost_11.2.2.2.2.2.1 rfl (lv_at hl 1 rfl) ?_
    refine va_get (D := D) (ci := 1) (v := .ref (a 53)) (C := RX1) (T := TX1) (N := 9) hx hb ht inX1 hown hK hP 49 CW_49 rfl 0 (by decide) (ht (.fieldLink RX1 12 "CloneVolumes$Forest" "now" "LCloneVolumes$State;") fl_X1_12) (fun _ h9 => h9) rfl eX1_wouldCost_11.2.2.2.2.2.2.1 ?_
    refine lv_aload_n hx hb eX1_wouldCost_11.2.2.2.2.2.2.2 rfl (lv_at hl 1 rfl) ?_
    refine va_get (D := D) (ci := 1) (v := .ref (a 62)) (C := RX1) (T := TX1) (N := 9) hx hb ht inX1 hown hK hP 49 CW_49 rfl 1 (by decide) (ht (.fieldLink RX1 18 "CloneVolumes$Forest" "before" "LCloneVolumes$State;") fl_X1_18) (fun _ h9 => h9) rfl eX1_wouldCost_26.1 ?_
    obtain ⟨s4, hc3, h⟩ := bn_e h
    refine ywVv (As := [.ref (a 62)]) (rest := []) (C := RX8) (n := 1) (ws' := CS D a s4) ⟨hx, hb, hml, hown, ht⟩ (k_x8_become l D a _ _ _ hc3) (zgV ml_X1_100 im_X8_become se_X8_become in_X8 co_X8_become) rfl rfl (by decide +kernel) ⟨Nat.le_of_ble_eq_true rfl, Nat.le_of_ble_eq_true rfl⟩ hN hK hP (hDD _) hS hA 53 CW_53 rfl rfl rfl hl.1 rfl (Nat.le_of_ble_eq_true rfl) eX1_wouldCost_26.2.1 ⟨Nat.le_of_ble_eq_true rfl, Nat.le_of_ble_eq_true rfl⟩ (fun H locs hP hS => ?_)
    refine lv_iload hx hb eX1_wouldCost_26.2.2.1 (lv_at hl 0 rfl) ?_
    obtain rfl := Option.some.inj h
    exact W.iret (v := (i2 x1)) hx hb hr (fun t ht hW => ⟨⟨_, (), rfl, rfl, by rw [ht]; exact hP, va_K.moved hW.alike hK, hDD _⟩, hS.F ht⟩) hS.2.2 eX1_wouldCost_26.2.2.2.1
  refine lv_aload_n hx hb eX1_rehearse_37.2.1 rfl (lv_at hl 0 rfl) ?_
  refine lv_iload_n hx hb eX1_rehearse_37.2.2.1 rfl (lv_at hl 1 rfl) ?_
  refine lv_iload_n hx hb eX1_rehearse_37.2.2.2.1 rfl (lv_at hl 2 rfl) ?_
  obtain ⟨⟨r7, s6⟩, hc5, h⟩ := bn_e h
  refine ywV (r0 := i2 r7) (As := [.int (i2 p0), .int (i2 p1)]) (rest := []) (C := RX1) (n := 2) (ws' := CS D a s6) ⟨hx, hb, hml, hown, ht⟩ (k_x1_rehearse l D a p0 p1 _ _ _ hc5) (zgV ml_X1_132 im_X1_rehearse se_X1_rehearse in_X1 co_X1_rehearse) rfl rfl (by decide +kernel) ⟨Nat.le_of_ble_eq_true rfl, Nat.le_of_ble_eq_true rfl⟩ hN hK hP (hDD _) hS hA 49 CW_49 rfl rfl rfl hl.1 rfl (Nat.le_of_ble_eq_true rfl) eX1_rehearse_37.2.2.2.2.1 ⟨Nat.le_of_ble_eq_true rfl, Nat.le_of_ble_eq_true rfl⟩ (fun H locs hP hS => ?_)
  refine lv_istore_n (lv' := [(3, .int (i2 r7)), (0, .ref (a 49)), (1, .int (i2 p0)), (2, .int (i2 p1))]) hx hb eX1_rehearse_37.2.2.2.2.2.1 rfl hl (by decide) rfl (fun ls hl => ?_)
  refine lv_iload_n hx hb eX1_rehearse_37.2.2.2.2.2.2.1 rfl (lv_at hl 0 rfl) ?_
  obtain ⟨hr8, h⟩ := rg_e h
  refine lv_if_eq (tgt := 18) hx hb eX1_rehearse_37.2.2.2.2.2.2.2 (by decide) (fun c9 => ?_) (fun c9 => ?_)
  · have h := if_t ((i2_eq (x := r7) (y := 0) hr8 (by decide)).mp c9) h
    refine lv_iconst (v := (-1)) hx hb eX1_wouldCost_11.2.2.2.1 (by decide) ?_
    exact J19 ((-1), s6) _ _ _ ⟨hP, hS, lv_sub hl [1] rfl, h⟩
  · have h := if_f (mt (i2_eq (x := r7) (y := 0) hr8 (by decide)).mpr c9) h
    refine lv_aload_n hx hb eX1_wouldCost_11.1 rfl (lv_at hl 1 rfl) ?_
    obtain ⟨⟨r12, s11⟩, hc10, h⟩ := bn_e h
    refine ywV (r0 := i2 r12) (As := []) (rest := []) (C := RX1) (n := 0) (ws' := CS D a s11) ⟨hx, hb, hml, hown, ht⟩ (k_x1_price l D a _ _ _ hc10) (zgV ml_X1_104 im_X1_price se_X1_price in_X1 co_X1_price) rfl rfl (by decide +kernel) ⟨Nat.le_of_ble_eq_true rfl, Nat.le_of_ble_eq_true rfl⟩ hN hK hP (hDD _) hS hA 49 CW_49 rfl rfl rfl hl.1 rfl (Nat.le_of_ble_eq_true rfl) eX1_wouldCost_11.2.1 ⟨Nat.le_of_ble_eq_true rfl, Nat.le_of_ble_eq_true rfl⟩ (fun H locs hP hS => ?_)
    refine lv_goto (tgt := 19) hx hb eX1_wouldCost_11.2.2.1 (by decide) ?_
    exact J19 (r12, s11) _ _ _ ⟨hP, hS, lv_sub hl [1] rfl, h⟩
set_option maxHeartbeats 4000000 in
set_option maxRecDepth 100000 in
theorem k_x1_wrote (l : Launch) (D : va_G) (a : Nat → Nat) (s : MS) (o : Int) (h : m_x1_wrote s = some o) : yRi l yX1_wrote cX1_wrote 3 (some .int) { frames := 3, cells := 0, slots := 0, locals := 180 } D [.ref (a 49)] (CS D a s) (i2 o) := by
  refine Met.ofW (cc := cX1_wrote) (maxL := 3) (ret := (some .int)) (by decide) rfl ?_
  intro p e s₀ m args below meth c s₁ B hml hv
  obtain ⟨rfl, ⟨hP, hK⟩, hN⟩ := hv
  have hx := B.exec
  have hb := B.bytes
  have hr := B.returns
  have hts := atoms_spec (ws := wz yX1_wrote cX1_wrote 3 (some .int)) B.pre
  have ht : ∀ w ∈ lw_gd, w.before _ s₀ = true := fun w h => hts w (List.mem_cons_of_mem _ h)
  have hown : s₀.vm.findClass RX1 = some m.cls := findClass_of_methodNamed B.named
  have hlocks := B.notSynchronized
  have hS : va_S (fun _ => False) s₀.heap s₀.heap [] := va_S.rf
  have hl := lv_entry ([.ref (a 49)]) (n := 3) (Nat.le_of_ble_eq_true rfl)
  rw [lg_entry_eq]
  generalize (lg_sl ([.ref (a 49)]) ++ List.replicate (3 - (lg_sl ([.ref (a 49)])).length) Slot.unset).toArray = ls at hl ⊢
  have hl : lv_has ls 3 [(0, .ref (a 49))] := hl
  unfold m_x1_wrote at h
  refine y_loop (pcJ := 4) (σ := Int × Int) (fun n u H locs ls => va_P D vwCl (CS D a s) H ∧ va_S (fun _ => False) s₀.heap H locs ∧ lv_has ls 3 [(0, .ref (a 49)), (1, .int (i2 u.1)), (2, .int (i2 u.2))] ∧ m_x1_wrote_L4 s n u.1 u.2 = some o) (fun u => []) (fun u H locs ls hI => by obtain ⟨_, _, _, h⟩ := hI; cases h) (fun n4 ih4 u H locs ls hI => ?_) (fun J4 => ?_)
  · obtain ⟨hP, hS, hl, h⟩ := hI
    obtain ⟨x1, x2⟩ := u
    have hP : va_P D vwCl (CS D a s) H := hP
    have hl : lv_has ls 3 [(0, .ref (a 49)), (1, .int (i2 x1)), (2, .int (i2 x2))] := hl
    have h : m_x1_wrote_b4 s (m_x1_wrote_L4 s n4) x1 x2 = some o := h
    unfold m_x1_wrote_b4 at h
    refine y_head (pcJ := 29) (σ := Int × Int × Int) (fun u H locs ls => va_P D vwCl (CS D a s) H ∧ va_S (fun _ => False) s₀.heap H locs ∧ lv_has ls 3 [(0, .ref (a 49)), (2, .int (i2 u.1))] ∧ m_x1_wrote_J29 s (m_x1_wrote_L4 s n4) u.1 u.2.1 u.2.2 = some o) (fun u => [.int (i2 u.2.1), .int (i2 u.2.2)]) (fun u H locs ls hI => ?_) (fun J29 => ?_)
    · obtain ⟨hP, hS, hl, h⟩ := hI
      obtain ⟨x3, x4, x5⟩ := u
      have hP : va_P D vwCl (CS D a s) H := hP
      have hl : lv_has ls 3 [(0, .ref (a 49)), (2, .int (i2 x3))] := hl
      have h : m_x1_wrote_J29 s (m_x1_wrote_L4 s n4) x3 x4 x5 = some o := h
      unfold m_x1_wrote_J29 at h
      refine lv_iadd hx hb eX1_wrote_29.1 ?_
      refine z_topi (y := i2 (x5 + x4)) (i2_add x5 x4) ?_
      refine lv_istore_n (lv' := [(1, .int (i2 (x5 + x4))), (0, .ref (a 49)), (2, .int (i2 x3))]) hx hb eX1_wrote_29.2.1 rfl hl (by decide) rfl (fun ls hl => ?_)
      refine lv_iinc (v := i2 (x3 + 1)) (lv' := [(2, .int (i2 (x3 + 1))), (1, .int (i2 (x5 + x4))), (0, .ref (a 49))]) hx hb eX1_wrote_29.2.2.1 hl (k := 2) rfl (i2_add x3 1) (by decide) rfl (fun ls hl => ?_)
      refine lv_goto (tgt := 4) hx hb eX1_wrote_29.2.2.2.1 (by decide) ?_
      exact ih4 (x5 + x4, x3 + 1) _ _ _ ⟨hP, hS, lv_sub hl [2, 1, 0] rfl, h⟩
    refine lv_iload_n hx hb eX1_wrote_1.2.2.2.1 rfl (lv_at hl 2 rfl) ?_
    refine lv_aload_n hx hb eX1_wrote_1.2.2.2.2.1 rfl (lv_at hl 0 rfl) ?_
    refine va_get (D := D) (ci := 1) (v := .ref (a 53)) (C := RX1) (T := TX1) (N := 9) hx hb ht inX1 hown hK hP 49 CW_49 rfl 0 (by decide) (ht (.fieldLink RX1 12 "CloneVolumes$Forest" "now" "LCloneVolumes$State;") fl_X1_12) (fun _ h9 => h9) rfl eX1_wrote_1.2.2.2.2.2.1 ?_
    refine va_get (D := D) (ci := 8) (v := .int (i2 (gI s 1060))) (C := RX8) (T := TX8) (N := 11) hx hb ht inX8 hown hK hP 53 CW_53 rfl 0 (by decide) (ht (.fieldLink RX1 117 "CloneVolumes$State" "blocks" "I") fl_X1_117) (fun _ h9 => h9) rfl eX1_wrote_1.2.2.2.2.2.2.1 ?_
    obtain ⟨hr6, h⟩ := rg_e h
    obtain ⟨hr7, h⟩ := rg_e h
    refine lv_icmp_ge (tgt := 37) hx hb eX1_wrote_1.2.2.2.2.2.2.2 (by decide) (fun c8 => ?_) (fun c8 => ?_)
    · have h := if_t ((i2_le (x := (gI s 1060)) (y := x2) hr7 hr6).mp c8) h
      refine lv_iload_n hx hb eX1_wrote_29.2.2.2.2.1 rfl (lv_at hl 1 rfl) ?_
      obtain rfl := Option.some.inj h
      exact W.iret (v := (i2 x1)) hx hb hr (fun t ht hW => ⟨⟨_, (), rfl, rfl, trivial⟩, hS.F ht⟩) hS.2.2 eX1_wrote_29.2.2.2.2.2
    · have h := if_f (mt (i2_le (x := (gI s 1060)) (y := x2) hr7 hr6).mpr c8) h
      refine lv_iload_n hx hb eX1_wrote_15.1 rfl (lv_at hl 1 rfl) ?_
      refine lv_aload_n hx hb eX1_wrote_15.2.1 rfl (lv_at hl 0 rfl) ?_
      refine lv_iload_n hx hb eX1_wrote_15.2.2.1 rfl (lv_at hl 2 rfl) ?_
      obtain ⟨r10, hc9, h⟩ := bn_e h
      refine ycV (r0 := i2 r10) (As := [.int (i2 x2)]) (rest := [.int (i2 x1)]) (C := RX1) (n := 1) ⟨hx, hb, hml, hown, ht⟩ (k_x1_isWritten l D a x2 _ _ hc9) (zgV ml_X1_118 im_X1_isWritten se_X1_isWritten in_X1 co_X1_isWritten) rfl rfl (by decide +kernel) ⟨Nat.le_of_ble_eq_true rfl, Nat.le_of_ble_eq_true rfl⟩ hN hK hP hS 49 CW_49 rfl rfl rfl hl.1 rfl (Nat.le_of_ble_eq_true rfl) eX1_wrote_15.2.2.2.1 ⟨Nat.le_of_ble_eq_true rfl, Nat.le_of_ble_eq_true rfl⟩ (fun H locs hP hS => ?_)
      obtain ⟨hr11, h⟩ := rg_e h
      refine lv_if_eq (tgt := 28) hx hb eX1_wrote_15.2.2.2.2.1 (by decide) (fun c12 => ?_) (fun c12 => ?_)
      · have h := if_t ((i2_eq (x := r10) (y := 0) hr11 (by decide)).mp c12) h
        refine lv_iconst (v := 0) hx hb eX1_wrote_15.2.2.2.2.2.2.2 (by decide) ?_
        exact J29 (x2, 0, x1) _ _ _ ⟨hP, hS, lv_sub hl [0, 2] rfl, h⟩
      · have h := if_f (mt (i2_eq (x := r10) (y := 0) hr11 (by decide)).mpr c12) h
        refine lv_iconst (v := 1) hx hb eX1_wrote_15.2.2.2.2.2.1 (by decide) ?_
        refine lv_goto (tgt := 29) hx hb eX1_wrote_15.2.2.2.2.2.2.1 (by decide) ?_
        exact J29 (x2, 1, x1) _ _ _ ⟨hP, hS, lv_sub hl [0, 2] rfl, h⟩
  refine lv_iconst (v := 0) hx hb eX1_wouldWrite_21.2.2.2.2.2.2.2 (by decide) ?_
  refine lv_istore_n (lv' := [(1, .int 0), (0, .ref (a 49))]) hx hb eX1_wrote_1.1 rfl hl (by decide) rfl (fun ls hl => ?_)
  refine lv_iconst (v := 0) hx hb eX1_wrote_1.2.1 (by decide) ?_
  refine lv_istore_n (lv' := [(2, .int 0), (1, .int 0), (0, .ref (a 49))]) hx hb eX1_wrote_1.2.2.1 rfl hl (by decide) rfl (fun ls hl => ?_)
  exact J4 FU (0, 0) _ _ _ ⟨hP, hS, lv_sub hl [2, 1, 0] rfl, h⟩
set_option maxHeartbeats 4000000 in
set_option maxRecDepth 100000 in
theorem k_x1_wouldWrite (l : Launch) (D : va_G) (a : Nat → Nat) (p0 : Int) (p1 : Int) (sz : Nat) (s : MS) (o : (Int × MS)) (h : m_x1_wouldWrite p0 p1 s = some o) : yWi l yX1_wouldWrite cX1_wouldWrite 5 (some .int) { frames := 6, cells := 0, slots := 0, locals := 360 } D sz [.ref (a 49), .int (i2 p0), .int (i2 p1)] (CS D a s) (CS D a o.2) (i2 o.1) := by
  refine Met.ofW (cc := cX1_wouldWrite) (maxL := 5) (ret := (some .int)) (by decide) rfl ?_
  intro p e s₀ m args below meth c s₁ B hml hv
  obtain ⟨rfl, ⟨hsz, hP, hK, hD0⟩, hN⟩ := hv
  have hx := B.exec
  have hb := B.bytes
  have hr := B.returns
  have hts := atoms_spec (ws := wz yX1_wouldWrite cX1_wouldWrite 5 (some .int)) B.pre
  have ht : ∀ w ∈ lw_gd, w.before _ s₀ = true := fun w h => hts w (List.mem_cons_of_mem _ h)
  have hown : s₀.vm.findClass RX1 = some m.cls := findClass_of_methodNamed B.named
  have hlocks := B.notSynchronized
  subst hsz
  have hD := hD0.self (sz := s₀.heap.size)
  generalize hAe : va_A (CS D a s) s₀.heap.size = A at hD ⊢
  have hA : ∀ q : Nat, s₀.heap.size ≤ q → A q := fun q h => by rw [← hAe]; exact Or.inr h
  have hS : va_S A s₀.heap s₀.heap [] := va_S.rf
  have hDD : ∀ t : MS, va_D A (CS D a t) := fun t => CW_D t hD
  have hl := lv_entry ([.ref (a 49), .int (i2 p0), .int (i2 p1)]) (n := 5) (Nat.le_of_ble_eq_true rfl)
  rw [lg_entry_eq]
  generalize (lg_sl ([.ref (a 49), .int (i2 p0), .int (i2 p1)]) ++ List.replicate (5 - (lg_sl ([.ref (a 49), .int (i2 p0), .int (i2 p1)])).length) Slot.unset).toArray = ls at hl ⊢
  have hl : lv_has ls 5 [(0, .ref (a 49)), (1, .int (i2 p0)), (2, .int (i2 p1))] := hl
  unfold m_x1_wouldWrite at h
  refine y_head (pcJ := 19) (σ := Int × MS) (fun u H locs ls => va_P D vwCl (CS D a u.2) H ∧ va_S A s₀.heap H locs ∧ lv_has ls 5 [(0, .ref (a 49))] ∧ m_x1_wouldWrite_J19 u.1 u.2 = some o) (fun u => [.int (i2 u.1)]) (fun u H locs ls hI => ?_) (fun J19 => ?_)
  · obtain ⟨hP, hS, hl, h⟩ := hI
    obtain ⟨x1, s2⟩ := u
    have hP : va_P D vwCl (CS D a s2) H := hP
    have hl : lv_has ls 5 [(0, .ref (a 49))] := hl
    have h : m_x1_wouldWrite_J19 x1 s2 = some o := h
    unfold m_x1_wouldWrite_J19 at h
    refine lv_istore (lv' := [(4, .int (i2 x1)), (0, .ref (a 49))]) hx hb eX1_wouldWrite_6.2.2.2.2.2.2.2 hl (by decide) rfl (fun ls hl => ?_)
    refine lv_aload_n hx hb eX1_wouldWrite_21.1 rfl (lv_at hl 1 rfl) ?_
    refine va_get (D := D) (ci := 1) (v := .ref (a 53)) (C := RX1) (T := TX1) (N := 9) hx hb ht inX1 hown hK hP 49 CW_49 rfl 0 (by decide) (ht (.fieldLink RX1 12 "CloneVolumes$Forest" "now" "LCloneVolumes$State;") fl_X1_12) (fun _ h9 => h9) rfl eX1_wouldWrite_21.2.1 ?_
    refine lv_aload_n hx hb eX1_wouldWrite_21.2.2.1 rfl (lv_at hl 1 rfl) ?_
    refine va_get (D := D) (ci := 1) (v := .ref (a 62)) (C := RX1) (T := TX1) (N := 9) hx hb ht inX1 hown hK hP 49 CW_49 rfl 1 (by decide) (ht (.fieldLink RX1 18 "CloneVolumes$Forest" "before" "LCloneVolumes$State;") fl_X1_18) (fun _ h9 => h9) rfl eX1_wouldWrite_21.2.2.2.1 ?_
    obtain ⟨s4, hc3, h⟩ := bn_e h
    refine ywVv (As := [.ref (a 62)]) (rest := []) (C := RX8) (n := 1) (ws' := CS D a s4) ⟨hx, hb, hml, hown, ht⟩ (k_x8_become l D a _ _ _ hc3) (zgV ml_X1_100 im_X8_become se_X8_become in_X8 co_X8_become) rfl rfl (by decide +kernel) ⟨Nat.le_of_ble_eq_true rfl, Nat.le_of_ble_eq_true rfl⟩ hN hK hP (hDD _) hS hA 53 CW_53 rfl rfl rfl hl.1 rfl (Nat.le_of_ble_eq_true rfl) eX1_wouldWrite_21.2.2.2.2.1 ⟨Nat.le_of_ble_eq_true rfl, Nat.le_of_ble_eq_true rfl⟩ (fun H locs hP hS => ?_)
    refine lv_iload hx hb eX1_wouldWrite_21.2.2.2.2.2.1 (lv_at hl 0 rfl) ?_
    obtain rfl := Option.some.inj h
    exact W.iret (v := (i2 x1)) hx hb hr (fun t ht hW => ⟨⟨_, (), rfl, rfl, by rw [ht]; exact hP, va_K.moved hW.alike hK, hDD _⟩, hS.F ht⟩) hS.2.2 eX1_wouldWrite_21.2.2.2.2.2.2.1
  refine lv_aload_n hx hb eX1_wouldCost_26.2.2.2.2.1 rfl (lv_at hl 0 rfl) ?_
  refine lv_iload_n hx hb eX1_wouldCost_26.2.2.2.2.2.1 rfl (lv_at hl 1 rfl) ?_
  refine lv_iload_n hx hb eX1_wouldCost_26.2.2.2.2.2.2.1 rfl (lv_at hl 2 rfl) ?_
  obtain ⟨⟨r7, s6⟩, hc5, h⟩ := bn_e h
  refine ywV (r0 := i2 r7) (As := [.int (i2 p0), .int (i2 p1)]) (rest := []) (C := RX1) (n := 2) (ws' := CS D a s6) ⟨hx, hb, hml, hown, ht⟩ (k_x1_rehearse l D a p0 p1 _ _ _ hc5) (zgV ml_X1_132 im_X1_rehearse se_X1_rehearse in_X1 co_X1_rehearse) rfl rfl (by decide +kernel) ⟨Nat.le_of_ble_eq_true rfl, Nat.le_of_ble_eq_true rfl⟩ hN hK hP (hDD _) hS hA 49 CW_49 rfl rfl rfl hl.1 rfl (Nat.le_of_ble_eq_true rfl) eX1_wouldCost_26.2.2.2.2.2.2.2 ⟨Nat.le_of_ble_eq_true rfl, Nat.le_of_ble_eq_true rfl⟩ (fun H locs hP hS => ?_)
  refine lv_istore_n (lv' := [(3, .int (i2 r7)), (0, .ref (a 49)), (1, .int (i2 p0)), (2, .int (i2 p1))]) hx hb eX1_wouldWrite_6.1 rfl hl (by decide) rfl (fun ls hl => ?_)
  refine lv_iload_n hx hb eX1_wouldWrite_6.2.1 rfl (lv_at hl 0 rfl) ?_
  obtain ⟨hr8, h⟩ := rg_e h
  refine lv_if_eq (tgt := 18) hx hb eX1_wouldWrite_6.2.2.1 (by decide) (fun c9 => ?_) (fun c9 => ?_)
  · have h := if_t ((i2_eq (x := r7) (y := 0) hr8 (by decide)).mp c9) h
    refine lv_iconst (v := (-1)) hx hb eX1_wouldWrite_6.2.2.2.2.2.2.1 (by decide) ?_
    exact J19 ((-1), s6) _ _ _ ⟨hP, hS, lv_sub hl [1] rfl, h⟩
  · have h := if_f (mt (i2_eq (x := r7) (y := 0) hr8 (by decide)).mpr c9) h
    refine lv_aload_n hx hb eX1_wouldWrite_6.2.2.2.1 rfl (lv_at hl 1 rfl) ?_
    obtain ⟨r11, hc10, h⟩ := bn_e h
    refine ycV (r0 := i2 r11) (As := []) (rest := []) (C := RX1) (n := 0) ⟨hx, hb, hml, hown, ht⟩ (k_x1_wrote l D a _ _ hc10) (zgV ml_X1_114 im_X1_wrote se_X1_wrote in_X1 co_X1_wrote) rfl rfl (by decide +kernel) ⟨Nat.le_of_ble_eq_true rfl, Nat.le_of_ble_eq_true rfl⟩ hN hK hP hS 49 CW_49 rfl rfl rfl hl.1 rfl (Nat.le_of_ble_eq_true rfl) eX1_wouldWrite_6.2.2.2.2.1 ⟨Nat.le_of_ble_eq_true rfl, Nat.le_of_ble_eq_true rfl⟩ (fun H locs hP hS => ?_)
    refine lv_goto (tgt := 19) hx hb eX1_wouldWrite_6.2.2.2.2.2.1 (by decide) ?_
    exact J19 (r11, s6) _ _ _ ⟨hP, hS, lv_sub hl [1] rfl, h⟩
set_option maxHeartbeats 4000000 in
set_option maxRecDepth 100000 in
theorem k_x11_writes (l : Launch) (D : va_G) (a : Nat → Nat) (p0 : Int) (p1 : Int) (p2 : Int) (sz : Nat) (s : MS) (o : (Int × MS)) (h : m_x11_writes p0 p1 p2 s = some o) : yWi l yX11_writes cX11_writes 4 (some .int) { frames := 7, cells := 0, slots := 0, locals := 420 } D sz [.ref (a 0), .int (i2 p0), .int (i2 p1), .int (i2 p2)] (CS D a s) (CS D a o.2) (i2 o.1) := by
  refine Met.ofW (cc := cX11_writes) (maxL := 4) (ret := (some .int)) (by decide) rfl ?_
  intro p e s₀ m args below meth c s₁ B hml hv
  obtain ⟨rfl, ⟨hsz, hP, hK, hD0⟩, hN⟩ := hv
  have hx := B.exec
  have hb := B.bytes
  have hr := B.returns
  have hts := atoms_spec (ws := wz yX11_writes cX11_writes 4 (some .int)) B.pre
  have ht : ∀ w ∈ lw_gd, w.before _ s₀ = true := fun w h => hts w (List.mem_cons_of_mem _ h)
  have hown : s₀.vm.findClass RX11 = some m.cls := findClass_of_methodNamed B.named
  have hlocks := B.notSynchronized
  subst hsz
  have hD := hD0.self (sz := s₀.heap.size)
  generalize hAe : va_A (CS D a s) s₀.heap.size = A at hD ⊢
  have hA : ∀ q : Nat, s₀.heap.size ≤ q → A q := fun q h => by rw [← hAe]; exact Or.inr h
  have hS : va_S A s₀.heap s₀.heap [] := va_S.rf
  have hDD : ∀ t : MS, va_D A (CS D a t) := fun t => CW_D t hD
  have hl := lv_entry ([.ref (a 0), .int (i2 p0), .int (i2 p1), .int (i2 p2)]) (n := 4) (Nat.le_of_ble_eq_true rfl)
  rw [lg_entry_eq]
  generalize (lg_sl ([.ref (a 0), .int (i2 p0), .int (i2 p1), .int (i2 p2)]) ++ List.replicate (4 - (lg_sl ([.ref (a 0), .int (i2 p0), .int (i2 p1), .int (i2 p2)])).length) Slot.unset).toArray = ls at hl ⊢
  have hl : lv_has ls 4 [(0, .ref (a 0)), (1, .int (i2 p0)), (2, .int (i2 p1)), (3, .int (i2 p2))] := hl
  unfold m_x11_writes at h
  refine y_head (pcJ := 55) (σ := Int × MS) (fun u H locs ls => va_P D vwCl (CS D a u.2) H ∧ va_S A s₀.heap H locs ∧ lv_has ls 4 [] ∧ m_x11_writes_J55 u.1 u.2 = some o) (fun u => [.int (i2 u.1)]) (fun u H locs ls hI => ?_) (fun J55 => ?_)
  · obtain ⟨hP, hS, hl, h⟩ := hI
    obtain ⟨x1, s2⟩ := u
    have hP : va_P D vwCl (CS D a s2) H := hP
    have hl : lv_has ls 4 [] := hl
    have h : m_x11_writes_J55 x1 s2 = some o := h
    unfold m_x11_writes_J55 at h
    obtain rfl := Option.some.inj h
    exact W.iret (v := (i2 x1)) hx hb hr (fun t ht hW => ⟨⟨_, (), rfl, rfl, by rw [ht]; exact hP, va_K.moved hW.alike hK, hDD _⟩, hS.F ht⟩) hS.2.2 eX11_writes_51.2.2.1
  refine y_head (pcJ := 21) (σ := MS) (fun u H locs ls => va_P D vwCl (CS D a u) H ∧ va_S A s₀.heap H locs ∧ lv_has ls 4 [] ∧ m_x11_writes_J21 u = some o) (fun u => []) (fun u H locs ls hI => ?_) (fun J21 => ?_)
  · obtain ⟨hP, hS, hl, h⟩ := hI
    obtain ⟨s3, rfl⟩ : ∃ z, z = u := ⟨u, rfl⟩
    have hP : va_P D vwCl (CS D a s3) H := hP
    have hl : lv_has ls 4 [] := hl
    have h : m_x11_writes_J21 s3 = some o := h
    unfold m_x11_writes_J21 at h
    refine lv_iconst (v := (-1)) hx hb eX11_writes_7.2.2.2.2.2.2.1 (by decide) ?_
    obtain rfl := Option.some.inj h
    exact W.iret (v := (-1)) hx hb hr (fun t ht hW => ⟨⟨_, (), rfl, rfl, by rw [ht]; exact hP, va_K.moved hW.alike hK, hDD _⟩, hS.F ht⟩) hS.2.2 eX11_writes_7.2.2.2.2.2.2.2
  refine lv_aload_n hx hb eX11_worst_59.2.2.2.2.2.1 rfl (lv_at hl 0 rfl) ?_
  refine va_get (D := D) (ci := 11) (v := .ref (a 49)) (C := RX11) (T := TX11) (N := 13) hx hb ht inX11 hown hK hP 0 CW_0 rfl 11 (by decide) (ht (.fieldLink RX11 79 "CloneVolumes" "forest" "LCloneVolumes$Forest;") fl_X11_79) (fun _ h9 => h9) rfl eX11_worst_59.2.2.2.2.2.2.1 ?_
  refine va_get (D := D) (ci := 1) (v := .ref (a 53)) (C := RX1) (T := TX1) (N := 9) hx hb ht inX1 hown hK hP 49 CW_49 rfl 0 (by decide) (ht (.fieldLink RX11 125 "CloneVolumes$Forest" "now" "LCloneVolumes$State;") fl_X11_125) (fun _ h9 => h9) rfl eX11_worst_59.2.2.2.2.2.2.2 ?_
  refine lv_iload_n hx hb eX11_writes_7.1 rfl (lv_at hl 1 rfl) ?_
  obtain ⟨r5, hc4, h⟩ := bn_e h
  refine ycV (r0 := i2 r5) (As := [.int (i2 p0)]) (rest := []) (C := RX8) (n := 1) ⟨hx, hb, hml, hown, ht⟩ (k_x8_isVolume l D a p0 _ _ hc4) (zgV ml_X11_161 im_X8_isVolume se_X8_isVolume in_X8 co_X8_isVolume) rfl rfl (by decide +kernel) ⟨Nat.le_of_ble_eq_true rfl, Nat.le_of_ble_eq_true rfl⟩ hN hK hP hS 53 CW_53 rfl rfl rfl hl.1 rfl (Nat.le_of_ble_eq_true rfl) eX11_writes_7.2.1 ⟨Nat.le_of_ble_eq_true rfl, Nat.le_of_ble_eq_true rfl⟩ (fun H locs hP hS => ?_)
  obtain ⟨hr6, h⟩ := rg_e h
  refine lv_if_eq (tgt := 21) hx hb eX11_writes_7.2.2.1 (by decide) (fun c7 => ?_) (fun c7 => ?_)
  · have h := if_t ((i2_eq (x := r5) (y := 0) hr6 (by decide)).mp c7) h
    exact J21 s _ _ _ ⟨hP, hS, lv_sub hl [] rfl, h⟩
  · have h := if_f (mt (i2_eq (x := r5) (y := 0) hr6 (by decide)).mpr c7) h
    refine lv_iload_n hx hb eX11_writes_7.2.2.2.1 rfl (lv_at hl 2 rfl) ?_
    obtain ⟨r9, hc8, h⟩ := bn_e h
    refine ycS (r0 := i2 r9) (As := [.int (i2 p1)]) (rest := []) (n := 1) ⟨hx, hb, hml, hown, ht⟩ (k_x11_isKey l D a p1 _ _ hc8) (zgT ml_X11_227 st_X11_isKey in_X11 co_X11_isKey) rfl rfl (by decide +kernel) ⟨Nat.le_of_ble_eq_true rfl, Nat.le_of_ble_eq_true rfl⟩ hN hK hP hS rfl hl.1 rfl (Nat.le_of_ble_eq_true rfl) eX11_writes_7.2.2.2.2.1 ⟨Nat.le_of_ble_eq_true rfl, Nat.le_of_ble_eq_true rfl⟩ (fun H locs hP hS => ?_)
    obtain ⟨hr10, h⟩ := rg_e h
    refine lv_if_ne (tgt := 23) hx hb eX11_writes_7.2.2.2.2.2.1 (by decide) (fun c11 => ?_) (fun c11 => ?_)
    · have h := if_f (mt (i2_eq (x := r9) (y := 0) hr10 (by decide)).mpr c11) h
      refine lv_iload_n hx hb eX11_writes_23.1 rfl (lv_at hl 3 rfl) ?_
      obtain ⟨hr12, h⟩ := rg_e h
      refine lv_if_ne (tgt := 37) hx hb eX11_writes_23.2.1 (by decide) (fun c13 => ?_) (fun c13 => ?_)
      · have h := if_f (mt (i2_eq (x := p2) (y := 0) hr12 (by decide)).mpr c13) h
        refine lv_iload_n hx hb eX11_writes_37.1 rfl (lv_at hl 3 rfl) ?_
        refine lv_iconst (v := 1) hx hb eX11_writes_37.2.1 (by decide) ?_
        obtain ⟨hr14, h⟩ := rg_e h
        refine lv_icmp_ne (tgt := 54) hx hb eX11_writes_37.2.2.1 (by decide) (fun c15 => ?_) (fun c15 => ?_)
        · have h := if_f (mt (i2_eq (x := p2) (y := 1) hr14 (by decide)).mpr c15) h
          refine lv_iconst (v := (-1)) hx hb eX11_writes_51.2.1 (by decide) ?_
          exact J55 ((-1), s) _ _ _ ⟨hP, hS, lv_sub hl [] rfl, h⟩
        · have h := if_t ((i2_eq (x := p2) (y := 1) hr14 (by decide)).mp c15) h
          refine lv_aload_n hx hb eX11_writes_37.2.2.2.1 rfl (lv_at hl 0 rfl) ?_
          refine va_get (D := D) (ci := 11) (v := .ref (a 49)) (C := RX11) (T := TX11) (N := 13) hx hb ht inX11 hown hK hP 0 CW_0 rfl 11 (by decide) (ht (.fieldLink RX11 79 "CloneVolumes" "forest" "LCloneVolumes$Forest;") fl_X11_79) (fun _ h9 => h9) rfl eX11_writes_37.2.2.2.2.1 ?_
          refine lv_iload_n hx hb eX11_writes_37.2.2.2.2.2.1 rfl (lv_at hl 1 rfl) ?_
          refine lv_iload_n hx hb eX11_writes_37.2.2.2.2.2.2.1 rfl (lv_at hl 2 rfl) ?_
          obtain ⟨⟨r18, s17⟩, hc16, h⟩ := bn_e h
          refine ywV (r0 := i2 r18) (As := [.int (i2 p0), .int (i2 p1)]) (rest := []) (C := RX1) (n := 2) (ws' := CS D a s17) ⟨hx, hb, hml, hown, ht⟩ (k_x1_wouldCost l D a p0 p1 _ _ _ hc16) (zgV ml_X11_240 im_X1_wouldCost se_X1_wouldCost in_X1 co_X1_wouldCost) rfl rfl (by decide +kernel) ⟨Nat.le_of_ble_eq_true rfl, Nat.le_of_ble_eq_true rfl⟩ hN hK hP (hDD _) hS hA 49 CW_49 rfl rfl rfl hl.1 rfl (Nat.le_of_ble_eq_true rfl) eX11_writes_37.2.2.2.2.2.2.2 ⟨Nat.le_of_ble_eq_true rfl, Nat.le_of_ble_eq_true rfl⟩ (fun H locs hP hS => ?_)
          refine lv_goto (tgt := 55) hx hb eX11_writes_51.1 (by decide) ?_
          exact J55 (r18, s17) _ _ _ ⟨hP, hS, lv_sub hl [] rfl, h⟩
      · have h := if_t ((i2_eq (x := p2) (y := 0) hr12 (by decide)).mp c13) h
        refine lv_aload_n hx hb eX11_writes_23.2.2.1 rfl (lv_at hl 0 rfl) ?_
        refine va_get (D := D) (ci := 11) (v := .ref (a 49)) (C := RX11) (T := TX11) (N := 13) hx hb ht inX11 hown hK hP 0 CW_0 rfl 11 (by decide) (ht (.fieldLink RX11 79 "CloneVolumes" "forest" "LCloneVolumes$Forest;") fl_X11_79) (fun _ h9 => h9) rfl eX11_writes_23.2.2.2.1 ?_
        refine lv_iload_n hx hb eX11_writes_23.2.2.2.2.1 rfl (lv_at hl 1 rfl) ?_
        refine lv_iload_n hx hb eX11_writes_23.2.2.2.2.2.1 rfl (lv_at hl 2 rfl) ?_
        obtain ⟨⟨r21, s20⟩, hc19, h⟩ := bn_e h
        refine ywV (r0 := i2 r21) (As := [.int (i2 p0), .int (i2 p1)]) (rest := []) (C := RX1) (n := 2) (ws' := CS D a s20) ⟨hx, hb, hml, hown, ht⟩ (k_x1_wouldWrite l D a p0 p1 _ _ _ hc19) (zgV ml_X11_237 im_X1_wouldWrite se_X1_wouldWrite in_X1 co_X1_wouldWrite) rfl rfl (by decide +kernel) ⟨Nat.le_of_ble_eq_true rfl, Nat.le_of_ble_eq_true rfl⟩ hN hK hP (hDD _) hS hA 49 CW_49 rfl rfl rfl hl.1 rfl (Nat.le_of_ble_eq_true rfl) eX11_writes_23.2.2.2.2.2.2.1 ⟨Nat.le_of_ble_eq_true rfl, Nat.le_of_ble_eq_true rfl⟩ (fun H locs hP hS => ?_)
        obtain rfl := Option.some.inj h
        exact W.iret (v := (i2 r21)) hx hb hr (fun t ht hW => ⟨⟨_, (), rfl, rfl, by rw [ht]; exact hP, va_K.moved hW.alike hK, hDD _⟩, hS.F ht⟩) hS.2.2 eX11_writes_23.2.2.2.2.2.2.2
    · have h := if_t ((i2_eq (x := r9) (y := 0) hr10 (by decide)).mp c11) h
      exact J21 s _ _ _ ⟨hP, hS, lv_sub hl [] rfl, h⟩
set_option maxHeartbeats 4000000 in
set_option maxRecDepth 100000 in
theorem k_x11_spread (l : Launch) (D : va_G) (a : Nat → Nat) (p0 : Int) (p1 : Int) (sz : Nat) (s : MS) (o : (Int × MS)) (h : m_x11_spread p0 p1 s = some o) : yWi l yX11_spread cX11_spread 5 (some .int) { frames := 7, cells := 0, slots := 0, locals := 420 } D sz [.ref (a 0), .int (i2 p0), .int (i2 p1)] (CS D a s) (CS D a o.2) (i2 o.1) := by
  refine Met.ofW (cc := cX11_spread) (maxL := 5) (ret := (some .int)) (by decide) rfl ?_
  intro p e s₀ m args below meth c s₁ B hml hv
  obtain ⟨rfl, ⟨hsz, hP, hK, hD0⟩, hN⟩ := hv
  have hx := B.exec
  have hb := B.bytes
  have hr := B.returns
  have hts := atoms_spec (ws := wz yX11_spread cX11_spread 5 (some .int)) B.pre
  have ht : ∀ w ∈ lw_gd, w.before _ s₀ = true := fun w h => hts w (List.mem_cons_of_mem _ h)
  have hown : s₀.vm.findClass RX11 = some m.cls := findClass_of_methodNamed B.named
  have hlocks := B.notSynchronized
  subst hsz
  have hD := hD0.self (sz := s₀.heap.size)
  generalize hAe : va_A (CS D a s) s₀.heap.size = A at hD ⊢
  have hA : ∀ q : Nat, s₀.heap.size ≤ q → A q := fun q h => by rw [← hAe]; exact Or.inr h
  have hS : va_S A s₀.heap s₀.heap [] := va_S.rf
  have hDD : ∀ t : MS, va_D A (CS D a t) := fun t => CW_D t hD
  have hl := lv_entry ([.ref (a 0), .int (i2 p0), .int (i2 p1)]) (n := 5) (Nat.le_of_ble_eq_true rfl)
  rw [lg_entry_eq]
  generalize (lg_sl ([.ref (a 0), .int (i2 p0), .int (i2 p1)]) ++ List.replicate (5 - (lg_sl ([.ref (a 0), .int (i2 p0), .int (i2 p1)])).length) Slot.unset).toArray = ls at hl ⊢
  have hl : lv_has ls 5 [(0, .ref (a 0)), (1, .int (i2 p0)), (2, .int (i2 p1))] := hl
  unfold m_x11_spread at h
  refine y_loop (pcJ := 26) (σ := Int × Int × Int × Int × MS) (fun n u H locs ls => va_P D vwCl (CS D a u.2.2.2.2) H ∧ va_S A s₀.heap H locs ∧ lv_has ls 5 [(0, .ref (a 0)), (1, .int (i2 u.1)), (2, .int (i2 u.2.1)), (3, .int (i2 u.2.2.1)), (4, .int (i2 u.2.2.2.1))] ∧ m_x11_spread_L26 n u.1 u.2.1 u.2.2.1 u.2.2.2.1 u.2.2.2.2 = some o) (fun u => []) (fun u H locs ls hI => by obtain ⟨_, _, _, h⟩ := hI; cases h) (fun n26 ih26 u H locs ls hI => ?_) (fun J26 => ?_)
  · obtain ⟨hP, hS, hl, h⟩ := hI
    obtain ⟨x1, x2, x3, x4, s5⟩ := u
    have hP : va_P D vwCl (CS D a s5) H := hP
    have hl : lv_has ls 5 [(0, .ref (a 0)), (1, .int (i2 x1)), (2, .int (i2 x2)), (3, .int (i2 x3)), (4, .int (i2 x4))] := hl
    have h : m_x11_spread_b26 (m_x11_spread_L26 n26) x1 x2 x3 x4 s5 = some o := h
    unfold m_x11_spread_b26 at h
    refine y_head (pcJ := 50) (σ := Int × Int × Int × Int × MS) (fun u H locs ls => va_P D vwCl (CS D a u.2.2.2.2) H ∧ va_S A s₀.heap H locs ∧ lv_has ls 5 [(0, .ref (a 0)), (1, .int (i2 u.1)), (2, .int (i2 u.2.1)), (3, .int (i2 u.2.2.1)), (4, .int (i2 u.2.2.2.1))] ∧ m_x11_spread_J50 (m_x11_spread_L26 n26) u.1 u.2.1 u.2.2.1 u.2.2.2.1 u.2.2.2.2 = some o) (fun u => []) (fun u H locs ls hI => ?_) (fun J50 => ?_)
    · obtain ⟨hP, hS, hl, h⟩ := hI
      obtain ⟨x6, x7, x8, x9, s10⟩ := u
      have hP : va_P D vwCl (CS D a s10) H := hP
      have hl : lv_has ls 5 [(0, .ref (a 0)), (1, .int (i2 x6)), (2, .int (i2 x7)), (3, .int (i2 x8)), (4, .int (i2 x9))] := hl
      have h : m_x11_spread_J50 (m_x11_spread_L26 n26) x6 x7 x8 x9 s10 = some o := h
      unfold m_x11_spread_J50 at h
      refine lv_iinc (v := i2 (x9 + 1)) (lv' := [(4, .int (i2 (x9 + 1))), (0, .ref (a 0)), (1, .int (i2 x6)), (2, .int (i2 x7)), (3, .int (i2 x8))]) hx hb eX11_spread_40.2.2.2.2.1 hl (k := 4) rfl (i2_add x9 1) (by decide) rfl (fun ls hl => ?_)
      refine lv_goto (tgt := 26) hx hb eX11_spread_40.2.2.2.2.2.1 (by decide) ?_
      exact ih26 (x6, x7, x8, x9 + 1, s10) _ _ _ ⟨hP, hS, lv_sub hl [1, 2, 3, 4, 0] rfl, h⟩
    refine lv_iload hx hb eX11_spread_24.2.1 (lv_at hl 4 rfl) ?_
    refine lv_bipush (v := 100) hx hb eX11_spread_24.2.2.1 (by decide) ?_
    obtain ⟨hr11, h⟩ := rg_e h
    refine lv_icmp_ge (tgt := 56) hx hb eX11_spread_24.2.2.2.1 (by decide) (fun c12 => ?_) (fun c12 => ?_)
    · have h := if_t ((i2_le (x := 100) (y := x4) (by decide) hr11).mp c12) h
      refine lv_iload_n hx hb eX11_spread_40.2.2.2.2.2.2.1 rfl (lv_at hl 3 rfl) ?_
      obtain rfl := Option.some.inj h
      exact W.iret (v := (i2 x3)) hx hb hr (fun t ht hW => ⟨⟨_, (), rfl, rfl, by rw [ht]; exact hP, va_K.moved hW.alike hK, hDD _⟩, hS.F ht⟩) hS.2.2 eX11_spread_40.2.2.2.2.2.2.2
    · have h := if_f (mt (i2_le (x := 100) (y := x4) (by decide) hr11).mpr c12) h
      refine lv_aload_n hx hb eX11_spread_24.2.2.2.2.1 rfl (lv_at hl 0 rfl) ?_
      refine va_get (D := D) (ci := 11) (v := .ref (a 49)) (C := RX11) (T := TX11) (N := 13) hx hb ht inX11 hown hK hP 0 CW_0 rfl 11 (by decide) (ht (.fieldLink RX11 79 "CloneVolumes" "forest" "LCloneVolumes$Forest;") fl_X11_79) (fun _ h9 => h9) rfl eX11_spread_24.2.2.2.2.2.1 ?_
      refine lv_iload_n hx hb eX11_spread_24.2.2.2.2.2.2.1 rfl (lv_at hl 1 rfl) ?_
      refine lv_iload hx hb eX11_spread_24.2.2.2.2.2.2.2 (lv_at hl 4 rfl) ?_
      obtain ⟨⟨r15, s14⟩, hc13, h⟩ := bn_e h
      refine ywV (r0 := i2 r15) (As := [.int (i2 x1), .int (i2 x4)]) (rest := []) (C := RX1) (n := 2) (ws' := CS D a s14) ⟨hx, hb, hml, hown, ht⟩ (k_x1_wouldWrite l D a x1 x4 _ _ _ hc13) (zgV ml_X11_237 im_X1_wouldWrite se_X1_wouldWrite in_X1 co_X1_wouldWrite) rfl rfl (by decide +kernel) ⟨Nat.le_of_ble_eq_true rfl, Nat.le_of_ble_eq_true rfl⟩ hN hK hP (hDD _) hS hA 49 CW_49 rfl rfl rfl hl.1 rfl (Nat.le_of_ble_eq_true rfl) eX11_spread_40.1 ⟨Nat.le_of_ble_eq_true rfl, Nat.le_of_ble_eq_true rfl⟩ (fun H locs hP hS => ?_)
      refine lv_iload_n hx hb eX11_spread_40.2.1 rfl (lv_at hl 2 rfl) ?_
      obtain ⟨hr16, h⟩ := rg_e h
      obtain ⟨hr17, h⟩ := rg_e h
      refine lv_icmp_ne (tgt := 50) hx hb eX11_spread_40.2.2.1 (by decide) (fun c18 => ?_) (fun c18 => ?_)
      · have h := if_f (mt (i2_eq (x := r15) (y := x2) hr16 hr17).mpr c18) h
        exact J50 (x1, x2, x3, x4, s14) _ _ _ ⟨hP, hS, lv_sub hl [0, 1, 2, 3, 4] rfl, h⟩
      · have h := if_t ((i2_eq (x := r15) (y := x2) hr16 hr17).mp c18) h
        refine lv_iinc (v := i2 (x3 + 1)) (lv' := [(3, .int (i2 (x3 + 1))), (0, .ref (a 0)), (1, .int (i2 x1)), (2, .int (i2 x2)), (4, .int (i2 x4))]) hx hb eX11_spread_40.2.2.2.1 hl (k := 3) rfl (i2_add x3 1) (by decide) rfl (fun ls hl => ?_)
        exact J50 (x1, x2, x3 + 1, x4, s14) _ _ _ ⟨hP, hS, lv_sub hl [1, 2, 3, 0, 4] rfl, h⟩
  refine y_head (pcJ := 19) (σ := MS) (fun u H locs ls => va_P D vwCl (CS D a u) H ∧ va_S A s₀.heap H locs ∧ lv_has ls 5 [] ∧ m_x11_spread_J19 u = some o) (fun u => []) (fun u H locs ls hI => ?_) (fun J19 => ?_)
  · obtain ⟨hP, hS, hl, h⟩ := hI
    obtain ⟨s19, rfl⟩ : ∃ z, z = u := ⟨u, rfl⟩
    have hP : va_P D vwCl (CS D a s19) H := hP
    have hl : lv_has ls 5 [] := hl
    have h : m_x11_spread_J19 s19 = some o := h
    unfold m_x11_spread_J19 at h
    refine lv_iconst (v := (-1)) hx hb eX11_spread_14.2.2.2.1 (by decide) ?_
    obtain rfl := Option.some.inj h
    exact W.iret (v := (-1)) hx hb hr (fun t ht hW => ⟨⟨_, (), rfl, rfl, by rw [ht]; exact hP, va_K.moved hW.alike hK, hDD _⟩, hS.F ht⟩) hS.2.2 eX11_spread_14.2.2.2.2.1
  refine lv_aload_n hx hb eX11_oneOf_15.2.2.1 rfl (lv_at hl 0 rfl) ?_
  refine va_get (D := D) (ci := 11) (v := .ref (a 49)) (C := RX11) (T := TX11) (N := 13) hx hb ht inX11 hown hK hP 0 CW_0 rfl 11 (by decide) (ht (.fieldLink RX11 79 "CloneVolumes" "forest" "LCloneVolumes$Forest;") fl_X11_79) (fun _ h9 => h9) rfl eX11_oneOf_15.2.2.2.1 ?_
  refine va_get (D := D) (ci := 1) (v := .ref (a 53)) (C := RX1) (T := TX1) (N := 9) hx hb ht inX1 hown hK hP 49 CW_49 rfl 0 (by decide) (ht (.fieldLink RX11 125 "CloneVolumes$Forest" "now" "LCloneVolumes$State;") fl_X11_125) (fun _ h9 => h9) rfl eX11_oneOf_15.2.2.2.2.1 ?_
  refine lv_iload_n hx hb eX11_oneOf_15.2.2.2.2.2.1 rfl (lv_at hl 1 rfl) ?_
  obtain ⟨r21, hc20, h⟩ := bn_e h
  refine ycV (r0 := i2 r21) (As := [.int (i2 p0)]) (rest := []) (C := RX8) (n := 1) ⟨hx, hb, hml, hown, ht⟩ (k_x8_isVolume l D a p0 _ _ hc20) (zgV ml_X11_161 im_X8_isVolume se_X8_isVolume in_X8 co_X8_isVolume) rfl rfl (by decide +kernel) ⟨Nat.le_of_ble_eq_true rfl, Nat.le_of_ble_eq_true rfl⟩ hN hK hP hS 53 CW_53 rfl rfl rfl hl.1 rfl (Nat.le_of_ble_eq_true rfl) eX11_oneOf_15.2.2.2.2.2.2.1 ⟨Nat.le_of_ble_eq_true rfl, Nat.le_of_ble_eq_true rfl⟩ (fun H locs hP hS => ?_)
  obtain ⟨hr22, h⟩ := rg_e h
  refine lv_if_eq (tgt := 19) hx hb eX11_oneOf_15.2.2.2.2.2.2.2 (by decide) (fun c23 => ?_) (fun c23 => ?_)
  · have h := if_t ((i2_eq (x := r21) (y := 0) hr22 (by decide)).mp c23) h
    exact J19 s _ _ _ ⟨hP, hS, lv_sub hl [] rfl, h⟩
  · have h := if_f (mt (i2_eq (x := r21) (y := 0) hr22 (by decide)).mpr c23) h
    refine lv_iload_n hx hb eX11_spread_14.1 rfl (lv_at hl 2 rfl) ?_
    refine lv_iconst (v := (-1)) hx hb eX11_spread_14.2.1 (by decide) ?_
    obtain ⟨hr24, h⟩ := rg_e h
    refine lv_icmp_ge (tgt := 21) hx hb eX11_spread_14.2.2.1 (by decide) (fun c25 => ?_) (fun c25 => ?_)
    · rw [show ((-1) : Int32) = i2 (-1) from by decide] at c25
      have h := if_t ((i2_le (x := (-1)) (y := p1) (by decide) hr24).mp c25) h
      refine lv_iconst (v := 0) hx hb eX11_spread_14.2.2.2.2.2.1 (by decide) ?_
      refine lv_istore_n (lv' := [(3, .int 0), (0, .ref (a 0)), (1, .int (i2 p0)), (2, .int (i2 p1))]) hx hb eX11_spread_14.2.2.2.2.2.2.1 rfl hl (by decide) rfl (fun ls hl => ?_)
      refine lv_iconst (v := 0) hx hb eX11_spread_14.2.2.2.2.2.2.2 (by decide) ?_
      refine lv_istore (lv' := [(4, .int 0), (3, .int 0), (0, .ref (a 0)), (1, .int (i2 p0)), (2, .int (i2 p1))]) hx hb eX11_spread_24.1 hl (by decide) rfl (fun ls hl => ?_)
      exact J26 FU (p0, p1, 0, 0, s) _ _ _ ⟨hP, hS, lv_sub hl [2, 3, 4, 1, 0] rfl, h⟩
    · rw [show ((-1) : Int32) = i2 (-1) from by decide] at c25
      have h := if_f (mt (i2_le (x := (-1)) (y := p1) (by decide) hr24).mpr c25) h
      exact J19 s _ _ _ ⟨hP, hS, lv_sub hl [] rfl, h⟩
set_option maxHeartbeats 4000000 in
set_option maxRecDepth 100000 in
theorem k_x11_growTrees (l : Launch) (D : va_G) (a : Nat → Nat) (sz : Nat) (s : MS) (o : MS) (h : m_x11_growTrees s = some o) : yWv l yX11_growTrees cX11_growTrees 3 none { frames := 2, cells := 0, slots := 0, locals := 120 } D sz [.ref (a 0)] (CS D a s) (CS D a o) := by
  refine Met.ofW (cc := cX11_growTrees) (maxL := 3) (ret := none) (by decide) rfl ?_
  intro p e s₀ m args below meth c s₁ B hml hv
  obtain ⟨rfl, ⟨hsz, hP, hK, hD0⟩, hN⟩ := hv
  have hx := B.exec
  have hb := B.bytes
  have hr := B.returns
  have hts := atoms_spec (ws := wz yX11_growTrees cX11_growTrees 3 none) B.pre
  have ht : ∀ w ∈ lw_gd, w.before _ s₀ = true := fun w h => hts w (List.mem_cons_of_mem _ h)
  have hown : s₀.vm.findClass RX11 = some m.cls := findClass_of_methodNamed B.named
  have hlocks := B.notSynchronized
  subst hsz
  have hD := hD0.self (sz := s₀.heap.size)
  generalize hAe : va_A (CS D a s) s₀.heap.size = A at hD ⊢
  have hA : ∀ q : Nat, s₀.heap.size ≤ q → A q := fun q h => by rw [← hAe]; exact Or.inr h
  have hS : va_S A s₀.heap s₀.heap [] := va_S.rf
  have hDD : ∀ t : MS, va_D A (CS D a t) := fun t => CW_D t hD
  have hl := lv_entry ([.ref (a 0)]) (n := 3) (Nat.le_of_ble_eq_true rfl)
  rw [lg_entry_eq]
  generalize (lg_sl ([.ref (a 0)]) ++ List.replicate (3 - (lg_sl ([.ref (a 0)])).length) Slot.unset).toArray = ls at hl ⊢
  have hl : lv_has ls 3 [(0, .ref (a 0))] := hl
  unfold m_x11_growTrees at h
  refine y_loop (pcJ := 10) (σ := Int × MS) (fun n u H locs ls => va_P D vwCl (CS D a u.2) H ∧ va_S A s₀.heap H locs ∧ lv_has ls 3 [(0, .ref (a 0)), (1, .ref (a 53)), (2, .int (i2 u.1))] ∧ m_x11_growTrees_L10 n u.1 u.2 = some o) (fun u => []) (fun u H locs ls hI => by obtain ⟨_, _, _, h⟩ := hI; cases h) (fun n10 ih10 u H locs ls hI => ?_) (fun J10 => ?_)
  · obtain ⟨hP, hS, hl, h⟩ := hI
    obtain ⟨x1, s2⟩ := u
    have hP : va_P D vwCl (CS D a s2) H := hP
    have hl : lv_has ls 3 [(0, .ref (a 0)), (1, .ref (a 53)), (2, .int (i2 x1))] := hl
    have h : m_x11_growTrees_b10 (m_x11_growTrees_L10 n10) x1 s2 = some o := h
    unfold m_x11_growTrees_b10 at h
    refine y_head (pcJ := 47) (σ := Int × Int × Int × MS) (fun u H locs ls => va_P D vwCl (CS D a u.2.2.2) H ∧ va_S A s₀.heap H locs ∧ lv_has ls 3 [(0, .ref (a 0)), (1, .ref (a 53)), (2, .int (i2 u.1))] ∧ m_x11_growTrees_J47 (m_x11_growTrees_L10 n10) u.1 u.2.1 u.2.2.1 u.2.2.2 = some o) (fun u => [.long (i8 u.2.1), .int (i2 u.2.2.1), .ref (a 1)]) (fun u H locs ls hI => ?_) (fun J47 => ?_)
    · obtain ⟨hP, hS, hl, h⟩ := hI
      obtain ⟨x3, z4, x5, s6⟩ := u
      have hP : va_P D vwCl (CS D a s6) H := hP
      have hl : lv_has ls 3 [(0, .ref (a 0)), (1, .ref (a 53)), (2, .int (i2 x3))] := hl
      have h : m_x11_growTrees_J47 (m_x11_growTrees_L10 n10) x3 z4 x5 s6 = some o := h
      unfold m_x11_growTrees_J47 at h
      obtain ⟨hi7, h⟩ := inb_e h
      refine ya_last (i := x5) (x := z4) hx hb hK hP (hDD _) hS 1 2 CW_1 rfl (by decide) hi7 eX11_growTrees_43.2.2.1 (CW_w1 _) (fun H locs hP hS => ?_)
      obtain ⟨s8, hs8, h⟩ := st_e h
      rw [hs8] at hP
      refine lv_iinc (v := i2 (x3 + 1)) (lv' := [(2, .int (i2 (x3 + 1))), (0, .ref (a 0)), (1, .ref (a 53))]) hx hb eX11_growTrees_43.2.2.2.1 hl (k := 2) rfl (i2_add x3 1) (by decide) rfl (fun ls hl => ?_)
      refine lv_goto (tgt := 10) hx hb eX11_growTrees_43.2.2.2.2.1 (by decide) ?_
      exact ih10 (x3 + 1, s8) _ _ _ ⟨hP, hS, lv_sub hl [1, 2, 0] rfl, h⟩
    refine lv_iload_n hx hb eX11_growTrees_0.2.2.2.2.2.2.1 rfl (lv_at hl 2 rfl) ?_
    refine lv_bipush (v := 8) hx hb eX11_growTrees_0.2.2.2.2.2.2.2 (by decide) ?_
    obtain ⟨hr9, h⟩ := rg_e h
    refine lv_icmp_ge (tgt := 54) hx hb eX11_growTrees_13.1 (by decide) (fun c10 => ?_) (fun c10 => ?_)
    · have h := if_t ((i2_le (x := 8) (y := x1) (by decide) hr9).mp c10) h
      obtain rfl := Option.some.inj h
      exact W.vret hx hb hr (fun t ht hW => ⟨⟨(), rfl, trivial, by rw [ht]; exact hP, va_K.moved hW.alike hK, hDD _⟩, hS.F ht⟩) hS.2.2 eX11_growTrees_43.2.2.2.2.2.1
    · have h := if_f (mt (i2_le (x := 8) (y := x1) (by decide) hr9).mpr c10) h
      refine lv_aload_n hx hb eX11_growTrees_13.2.1 rfl (lv_at hl 0 rfl) ?_
      refine va_get (D := D) (ci := 11) (v := .ref (a 1)) (C := RX11) (T := TX11) (N := 13) hx hb ht inX11 hown hK hP 0 CW_0 rfl 7 (by decide) (ht (.fieldLink RX11 56 "CloneVolumes" "trees" "[J") fl_X11_56) (fun _ h9 => h9) rfl eX11_growTrees_13.2.2.1 ?_
      refine lv_iload_n hx hb eX11_growTrees_13.2.2.2.1 rfl (lv_at hl 2 rfl) ?_
      refine lv_aload_n hx hb eX11_growTrees_13.2.2.2.2.1 rfl (lv_at hl 1 rfl) ?_
      refine lv_iload_n hx hb eX11_growTrees_13.2.2.2.2.2.1 rfl (lv_at hl 2 rfl) ?_
      obtain ⟨r12, hc11, h⟩ := bn_e h
      refine ycV (r0 := i2 r12) (As := [.int (i2 x1)]) (rest := [.int (i2 x1), .ref (a 1)]) (C := RX8) (n := 1) ⟨hx, hb, hml, hown, ht⟩ (k_x8_isVolume l D a x1 _ _ hc11) (zgV ml_X11_161 im_X8_isVolume se_X8_isVolume in_X8 co_X8_isVolume) rfl rfl (by decide +kernel) ⟨Nat.le_of_ble_eq_true rfl, Nat.le_of_ble_eq_true rfl⟩ hN hK hP hS 53 CW_53 rfl rfl rfl hl.1 rfl (Nat.le_of_ble_eq_true rfl) eX11_growTrees_13.2.2.2.2.2.2.1 ⟨Nat.le_of_ble_eq_true rfl, Nat.le_of_ble_eq_true rfl⟩ (fun H locs hP hS => ?_)
      obtain ⟨hr13, h⟩ := rg_e h
      refine lv_if_eq (tgt := 46) hx hb eX11_growTrees_13.2.2.2.2.2.2.2 (by decide) (fun c14 => ?_) (fun c14 => ?_)
      · have h := if_t ((i2_eq (x := r12) (y := 0) hr13 (by decide)).mp c14) h
        refine lv_lconst (v := 0) hx hb eX11_growTrees_43.2.1 (by decide) ?_
        exact J47 (x1, 0, x1, s2) _ _ _ ⟨hP, hS, lv_sub hl [0, 1, 2] rfl, h⟩
      · have h := if_f (mt (i2_eq (x := r12) (y := 0) hr13 (by decide)).mpr c14) h
        refine lv_aload_n hx hb eX11_growTrees_29.1 rfl (lv_at hl 0 rfl) ?_
        refine va_get (D := D) (ci := 11) (v := .ref (a 21)) (C := RX11) (T := TX11) (N := 13) hx hb ht inX11 hown hK hP 0 CW_0 rfl 5 (by decide) (ht (.fieldLink RX11 49 "CloneVolumes" "walk" "LCloneVolumes$Walk;") fl_X11_49) (fun _ h9 => h9) rfl eX11_growTrees_29.2.1 ?_
        refine lv_aload_n hx hb eX11_growTrees_29.2.2.1 rfl (lv_at hl 1 rfl) ?_
        refine lv_aload_n hx hb eX11_growTrees_29.2.2.2.1 rfl (lv_at hl 1 rfl) ?_
        refine va_get (D := D) (ci := 8) (v := .ref (a 60)) (C := RX8) (T := TX8) (N := 11) hx hb ht inX8 hown hK hP 53 CW_53 rfl 9 (by decide) (ht (.fieldLink RX11 165 "CloneVolumes$State" "roots" "[I") fl_X11_165) (fun _ h9 => h9) rfl eX11_growTrees_29.2.2.2.2.1 ?_
        refine lv_iload_n hx hb eX11_growTrees_29.2.2.2.2.2.1 rfl (lv_at hl 2 rfl) ?_
        obtain ⟨y15, ey15, iy15, h⟩ := rdI_e h
        refine ya_iald (i := x1) hx hb hK hP 60 0 CW_60 rfl (by decide) ey15 iy15 eX11_growTrees_29.2.2.2.2.2.2.1 ?_
        obtain ⟨⟨rl18, s17⟩, hc16, h⟩ := bn_e h
        refine ywVl (r0 := i8 rl18) (As := [.ref (a 53), .int (i2 y15)]) (rest := [.int (i2 x1), .ref (a 1)]) (C := RX10) (n := 2) (ws' := CS D a s17) ⟨hx, hb, hml, hown, ht⟩ (k_x10_tree l D a y15 _ _ _ hc16) (zgV ml_X11_175 im_X10_tree se_X10_tree in_X10 co_X10_tree) rfl rfl (by decide +kernel) ⟨Nat.le_of_ble_eq_true rfl, Nat.le_of_ble_eq_true rfl⟩ hN hK hP (hDD _) hS hA 21 CW_21 rfl rfl rfl hl.1 rfl (Nat.le_of_ble_eq_true rfl) eX11_growTrees_29.2.2.2.2.2.2.2 ⟨Nat.le_of_ble_eq_true rfl, Nat.le_of_ble_eq_true rfl⟩ (fun H locs hP hS => ?_)
        refine lv_goto (tgt := 47) hx hb eX11_growTrees_43.1 (by decide) ?_
        exact J47 (x1, rl18, x1, s17) _ _ _ ⟨hP, hS, lv_sub hl [0, 1, 2] rfl, h⟩
  refine lv_aload_n hx hb eX11_growTrees_0.1 rfl (lv_at hl 0 rfl) ?_
  refine va_get (D := D) (ci := 11) (v := .ref (a 49)) (C := RX11) (T := TX11) (N := 13) hx hb ht inX11 hown hK hP 0 CW_0 rfl 11 (by decide) (ht (.fieldLink RX11 79 "CloneVolumes" "forest" "LCloneVolumes$Forest;") fl_X11_79) (fun _ h9 => h9) rfl eX11_growTrees_0.2.1 ?_
  refine va_get (D := D) (ci := 1) (v := .ref (a 53)) (C := RX1) (T := TX1) (N := 9) hx hb ht inX1 hown hK hP 49 CW_49 rfl 0 (by decide) (ht (.fieldLink RX11 125 "CloneVolumes$Forest" "now" "LCloneVolumes$State;") fl_X11_125) (fun _ h9 => h9) rfl eX11_growTrees_0.2.2.1 ?_
  refine lv_astore_n (lv' := [(1, .ref (a 53)), (0, .ref (a 0))]) hx hb eX11_growTrees_0.2.2.2.1 rfl hl (by decide) rfl (fun ls hl => ?_)
  refine lv_iconst (v := 0) hx hb eX11_growTrees_0.2.2.2.2.1 (by decide) ?_
  refine lv_istore_n (lv' := [(2, .int 0), (1, .ref (a 53)), (0, .ref (a 0))]) hx hb eX11_growTrees_0.2.2.2.2.2.1 rfl hl (by decide) rfl (fun ls hl => ?_)
  exact J10 FU (0, s) _ _ _ ⟨hP, hS, lv_sub hl [2, 1, 0] rfl, h⟩
set_option maxHeartbeats 4000000 in
set_option maxRecDepth 100000 in
theorem k_x11_lostWith (l : Launch) (D : va_G) (a : Nat → Nat) (p0 : Int) (sz : Nat) (s : MS) (o : (Int × MS)) (h : m_x11_lostWith p0 s = some o) : yWi l yX11_lostWith cX11_lostWith 4 (some .int) { frames := 3, cells := 0, slots := 0, locals := 180 } D sz [.ref (a 0), .int (i2 p0)] (CS D a s) (CS D a o.2) (i2 o.1) := by
  refine Met.ofW (cc := cX11_lostWith) (maxL := 4) (ret := (some .int)) (by decide) rfl ?_
  intro p e s₀ m args below meth c s₁ B hml hv
  obtain ⟨rfl, ⟨hsz, hP, hK, hD0⟩, hN⟩ := hv
  have hx := B.exec
  have hb := B.bytes
  have hr := B.returns
  have hts := atoms_spec (ws := wz yX11_lostWith cX11_lostWith 4 (some .int)) B.pre
  have ht : ∀ w ∈ lw_gd, w.before _ s₀ = true := fun w h => hts w (List.mem_cons_of_mem _ h)
  have hown : s₀.vm.findClass RX11 = some m.cls := findClass_of_methodNamed B.named
  have hlocks := B.notSynchronized
  subst hsz
  have hD := hD0.self (sz := s₀.heap.size)
  generalize hAe : va_A (CS D a s) s₀.heap.size = A at hD ⊢
  have hA : ∀ q : Nat, s₀.heap.size ≤ q → A q := fun q h => by rw [← hAe]; exact Or.inr h
  have hS : va_S A s₀.heap s₀.heap [] := va_S.rf
  have hDD : ∀ t : MS, va_D A (CS D a t) := fun t => CW_D t hD
  have hl := lv_entry ([.ref (a 0), .int (i2 p0)]) (n := 4) (Nat.le_of_ble_eq_true rfl)
  rw [lg_entry_eq]
  generalize (lg_sl ([.ref (a 0), .int (i2 p0)]) ++ List.replicate (4 - (lg_sl ([.ref (a 0), .int (i2 p0)])).length) Slot.unset).toArray = ls at hl ⊢
  have hl : lv_has ls 4 [(0, .ref (a 0)), (1, .int (i2 p0))] := hl
  unfold m_x11_lostWith at h
  refine y_head (pcJ := 55) (σ := Int × MS) (fun u H locs ls => va_P D vwCl (CS D a u.2) H ∧ va_S A s₀.heap H locs ∧ lv_has ls 4 [] ∧ m_x11_lostWith_J55 u.1 u.2 = some o) (fun u => [.int (i2 u.1)]) (fun u H locs ls hI => ?_) (fun J55 => ?_)
  · obtain ⟨hP, hS, hl, h⟩ := hI
    obtain ⟨x1, s2⟩ := u
    have hP : va_P D vwCl (CS D a s2) H := hP
    have hl : lv_has ls 4 [] := hl
    have h : m_x11_lostWith_J55 x1 s2 = some o := h
    unfold m_x11_lostWith_J55 at h
    obtain rfl := Option.some.inj h
    exact W.iret (v := (i2 x1)) hx hb hr (fun t ht hW => ⟨⟨_, (), rfl, rfl, by rw [ht]; exact hP, va_K.moved hW.alike hK, hDD _⟩, hS.F ht⟩) hS.2.2 eX11_lostWith_43.2.2.2.2.2.2.1
  refine y_loop (pcJ := 4) (σ := Int × Int × Int × MS) (fun n u H locs ls => va_P D vwCl (CS D a u.2.2.2) H ∧ va_S A s₀.heap H locs ∧ lv_has ls 4 [(0, .ref (a 0)), (1, .int (i2 u.1)), (2, .int (i2 u.2.1)), (3, .int (i2 u.2.2.1))] ∧ m_x11_lostWith_L4 n u.1 u.2.1 u.2.2.1 u.2.2.2 = some o) (fun u => []) (fun u H locs ls hI => by obtain ⟨_, _, _, h⟩ := hI; cases h) (fun n4 ih4 u H locs ls hI => ?_) (fun J4 => ?_)
  · obtain ⟨hP, hS, hl, h⟩ := hI
    obtain ⟨x3, x4, x5, s6⟩ := u
    have hP : va_P D vwCl (CS D a s6) H := hP
    have hl : lv_has ls 4 [(0, .ref (a 0)), (1, .int (i2 x3)), (2, .int (i2 x4)), (3, .int (i2 x5))] := hl
    have h : m_x11_lostWith_b4 (m_x11_lostWith_L4 n4) x3 x4 x5 s6 = some o := h
    unfold m_x11_lostWith_b4 at h
    refine lv_iload_n hx hb eX11_lostWith_4.1 rfl (lv_at hl 3 rfl) ?_
    refine lv_bipush (v := 8) hx hb eX11_lostWith_4.2.1 (by decide) ?_
    obtain ⟨hr7, h⟩ := rg_e h
    refine lv_icmp_ge (tgt := 30) hx hb eX11_lostWith_4.2.2.1 (by decide) (fun c8 => ?_) (fun c8 => ?_)
    · have h := if_t ((i2_le (x := 8) (y := x5) (by decide) hr7).mp c8) h
      refine lv_iload_n hx hb eX11_lostWith_27.2.1 rfl (lv_at hl 2 rfl) ?_
      obtain ⟨hr9, h⟩ := rg_e h
      refine lv_if_ne (tgt := 38) hx hb eX11_lostWith_27.2.2.1 (by decide) (fun c10 => ?_) (fun c10 => ?_)
      · have h := if_f (mt (i2_eq (x := x4) (y := 0) hr9 (by decide)).mpr c10) h
        refine lv_iload_n hx hb eX11_lostWith_27.2.2.2.2.2.1 rfl (lv_at hl 2 rfl) ?_
        refine lv_aload_n hx hb eX11_lostWith_27.2.2.2.2.2.2.1 rfl (lv_at hl 0 rfl) ?_
        refine va_get (D := D) (ci := 11) (v := .ref (a 21)) (C := RX11) (T := TX11) (N := 13) hx hb ht inX11 hown hK hP 0 CW_0 rfl 5 (by decide) (ht (.fieldLink RX11 49 "CloneVolumes" "walk" "LCloneVolumes$Walk;") fl_X11_49) (fun _ h9 => h9) rfl eX11_lostWith_27.2.2.2.2.2.2.2 ?_
        refine lv_aload_n hx hb eX11_lostWith_43.1 rfl (lv_at hl 0 rfl) ?_
        refine va_get (D := D) (ci := 11) (v := .ref (a 49)) (C := RX11) (T := TX11) (N := 13) hx hb ht inX11 hown hK hP 0 CW_0 rfl 11 (by decide) (ht (.fieldLink RX11 79 "CloneVolumes" "forest" "LCloneVolumes$Forest;") fl_X11_79) (fun _ h9 => h9) rfl eX11_lostWith_43.2.1 ?_
        refine va_get (D := D) (ci := 1) (v := .ref (a 53)) (C := RX1) (T := TX1) (N := 9) hx hb ht inX1 hown hK hP 49 CW_49 rfl 0 (by decide) (ht (.fieldLink RX11 125 "CloneVolumes$Forest" "now" "LCloneVolumes$State;") fl_X11_125) (fun _ h9 => h9) rfl eX11_lostWith_43.2.2.1 ?_
        refine lv_iload_n hx hb eX11_lostWith_43.2.2.2.1 rfl (lv_at hl 1 rfl) ?_
        obtain ⟨⟨r13, s12⟩, hc11, h⟩ := bn_e h
        refine ywV (r0 := i2 r13) (As := [.ref (a 53), .int (i2 x3)]) (rest := [.int (i2 x4)]) (C := RX10) (n := 2) (ws' := CS D a s12) ⟨hx, hb, hml, hown, ht⟩ (k_x10_gather l D a x3 _ _ _ hc11) (zgV ml_X11_168 im_X10_gather se_X10_gather in_X10 co_X10_gather) rfl rfl (by decide +kernel) ⟨Nat.le_of_ble_eq_true rfl, Nat.le_of_ble_eq_true rfl⟩ hN hK hP (hDD _) hS hA 21 CW_21 rfl rfl rfl hl.1 rfl (Nat.le_of_ble_eq_true rfl) eX11_lostWith_43.2.2.2.2.1 ⟨Nat.le_of_ble_eq_true rfl, Nat.le_of_ble_eq_true rfl⟩ (fun H locs hP hS => ?_)
        refine lv_imul hx hb eX11_lostWith_43.2.2.2.2.2.1 ?_
        refine z_topi (y := i2 (x4 * r13)) (i2_mul x4 r13) ?_
        exact J55 (x4 * r13, s12) _ _ _ ⟨hP, hS, lv_sub hl [] rfl, h⟩
      · have h := if_t ((i2_eq (x := x4) (y := 0) hr9 (by decide)).mp c10) h
        refine lv_iconst (v := 0) hx hb eX11_lostWith_27.2.2.2.1 (by decide) ?_
        refine lv_goto (tgt := 55) hx hb eX11_lostWith_27.2.2.2.2.1 (by decide) ?_
        exact J55 (0, s6) _ _ _ ⟨hP, hS, lv_sub hl [] rfl, h⟩
    · have h := if_f (mt (i2_le (x := 8) (y := x5) (by decide) hr7).mpr c8) h
      refine lv_iload_n hx hb eX11_lostWith_4.2.2.2.1 rfl (lv_at hl 2 rfl) ?_
      refine lv_aload_n hx hb eX11_lostWith_4.2.2.2.2.1 rfl (lv_at hl 0 rfl) ?_
      refine va_get (D := D) (ci := 11) (v := .ref (a 1)) (C := RX11) (T := TX11) (N := 13) hx hb ht inX11 hown hK hP 0 CW_0 rfl 7 (by decide) (ht (.fieldLink RX11 56 "CloneVolumes" "trees" "[J") fl_X11_56) (fun _ h9 => h9) rfl eX11_lostWith_4.2.2.2.2.2.1 ?_
      refine lv_iload_n hx hb eX11_lostWith_4.2.2.2.2.2.2.1 rfl (lv_at hl 3 rfl) ?_
      obtain ⟨yl14, eyl14, iyl14, h⟩ := rdL_e h
      refine ya_lald (i := x5) hx hb hK hP 1 2 CW_1 rfl (by decide) eyl14 iyl14 eX11_lostWith_4.2.2.2.2.2.2.2 ?_
      refine lv_iload_n hx hb eX11_lostWith_17.1 rfl (lv_at hl 1 rfl) ?_
      refine lv_lushr (v := i8 (ushrLZ yl14 x3)) hx hb eX11_lostWith_17.2.1 (i8_of (ushrL (i8 yl14) (i2 x3))).symm ?_
      refine lv_lconst (v := 1) hx hb eX11_lostWith_17.2.2.1 (by decide) ?_
      refine lv_land hx hb eX11_lostWith_17.2.2.2.1 ?_
      refine z_topl (y := i8 (andL (ushrLZ yl14 x3) 1)) (i8_of (i8 (ushrLZ yl14 x3) &&& i8 1)).symm ?_
      refine lv_l2i (v := i2 (andL (ushrLZ yl14 x3) 1)) hx hb eX11_lostWith_17.2.2.2.2.1 (i8_i (andL (ushrLZ yl14 x3) 1)) ?_
      refine lv_iadd hx hb eX11_lostWith_17.2.2.2.2.2.1 ?_
      refine z_topi (y := i2 (x4 + (andL (ushrLZ yl14 x3) 1))) (i2_add x4 (andL (ushrLZ yl14 x3) 1)) ?_
      refine lv_istore_n (lv' := [(2, .int (i2 (x4 + (andL (ushrLZ yl14 x3) 1)))), (0, .ref (a 0)), (1, .int (i2 x3)), (3, .int (i2 x5))]) hx hb eX11_lostWith_17.2.2.2.2.2.2.1 rfl hl (by decide) rfl (fun ls hl => ?_)
      refine lv_iinc (v := i2 (x5 + 1)) (lv' := [(3, .int (i2 (x5 + 1))), (2, .int (i2 (x4 + (andL (ushrLZ yl14 x3) 1)))), (0, .ref (a 0)), (1, .int (i2 x3))]) hx hb eX11_lostWith_17.2.2.2.2.2.2.2 hl (k := 3) rfl (i2_add x5 1) (by decide) rfl (fun ls hl => ?_)
      refine lv_goto (tgt := 4) hx hb eX11_lostWith_27.1 (by decide) ?_
      exact ih4 (x3, x4 + (andL (ushrLZ yl14 x3) 1), x5 + 1, s6) _ _ _ ⟨hP, hS, lv_sub hl [2, 3, 1, 0] rfl, h⟩
  refine lv_iconst (v := 0) hx hb eX11_lost_20.2.2.2.2.1 (by decide) ?_
  refine lv_istore_n (lv' := [(2, .int 0), (0, .ref (a 0)), (1, .int (i2 p0))]) hx hb eX11_lost_20.2.2.2.2.2.1 rfl hl (by decide) rfl (fun ls hl => ?_)
  refine lv_iconst (v := 0) hx hb eX11_lost_20.2.2.2.2.2.2.1 (by decide) ?_
  refine lv_istore_n (lv' := [(3, .int 0), (2, .int 0), (0, .ref (a 0)), (1, .int (i2 p0))]) hx hb eX11_lost_20.2.2.2.2.2.2.2 rfl hl (by decide) rfl (fun ls hl => ?_)
  exact J4 FU (p0, 0, 0, s) _ _ _ ⟨hP, hS, lv_sub hl [2, 3, 1, 0] rfl, h⟩
set_option maxHeartbeats 4000000 in
set_option maxRecDepth 100000 in
theorem k_x11_lost (l : Launch) (D : va_G) (a : Nat → Nat) (p0 : Int) (sz : Nat) (s : MS) (o : (Int × MS)) (h : m_x11_lost p0 s = some o) : yWi l yX11_lost cX11_lost 2 (some .int) { frames := 4, cells := 0, slots := 0, locals := 240 } D sz [.ref (a 0), .int (i2 p0)] (CS D a s) (CS D a o.2) (i2 o.1) := by
  refine Met.ofW (cc := cX11_lost) (maxL := 2) (ret := (some .int)) (by decide) rfl ?_
  intro p e s₀ m args below meth c s₁ B hml hv
  obtain ⟨rfl, ⟨hsz, hP, hK, hD0⟩, hN⟩ := hv
  have hx := B.exec
  have hb := B.bytes
  have hr := B.returns
  have hts := atoms_spec (ws := wz yX11_lost cX11_lost 2 (some .int)) B.pre
  have ht : ∀ w ∈ lw_gd, w.before _ s₀ = true := fun w h => hts w (List.mem_cons_of_mem _ h)
  have hown : s₀.vm.findClass RX11 = some m.cls := findClass_of_methodNamed B.named
  have hlocks := B.notSynchronized
  subst hsz
  have hD := hD0.self (sz := s₀.heap.size)
  generalize hAe : va_A (CS D a s) s₀.heap.size = A at hD ⊢
  have hA : ∀ q : Nat, s₀.heap.size ≤ q → A q := fun q h => by rw [← hAe]; exact Or.inr h
  have hS : va_S A s₀.heap s₀.heap [] := va_S.rf
  have hDD : ∀ t : MS, va_D A (CS D a t) := fun t => CW_D t hD
  have hl := lv_entry ([.ref (a 0), .int (i2 p0)]) (n := 2) (Nat.le_of_ble_eq_true rfl)
  rw [lg_entry_eq]
  generalize (lg_sl ([.ref (a 0), .int (i2 p0)]) ++ List.replicate (2 - (lg_sl ([.ref (a 0), .int (i2 p0)])).length) Slot.unset).toArray = ls at hl ⊢
  have hl : lv_has ls 2 [(0, .ref (a 0)), (1, .int (i2 p0))] := hl
  unfold m_x11_lost at h
  refine lv_aload_n hx hb eX11_growTrees_43.2.2.2.2.2.2.1 rfl (lv_at hl 0 rfl) ?_
  refine va_get (D := D) (ci := 11) (v := .ref (a 49)) (C := RX11) (T := TX11) (N := 13) hx hb ht inX11 hown hK hP 0 CW_0 rfl 11 (by decide) (ht (.fieldLink RX11 79 "CloneVolumes" "forest" "LCloneVolumes$Forest;") fl_X11_79) (fun _ h9 => h9) rfl eX11_growTrees_43.2.2.2.2.2.2.2 ?_
  refine va_get (D := D) (ci := 1) (v := .ref (a 53)) (C := RX1) (T := TX1) (N := 9) hx hb ht inX1 hown hK hP 49 CW_49 rfl 0 (by decide) (ht (.fieldLink RX11 125 "CloneVolumes$Forest" "now" "LCloneVolumes$State;") fl_X11_125) (fun _ h9 => h9) rfl eX11_lost_4.1 ?_
  refine lv_iload_n hx hb eX11_lost_4.2.1 rfl (lv_at hl 1 rfl) ?_
  obtain ⟨r2, hc1, h⟩ := bn_e h
  refine ycV (r0 := i2 r2) (As := [.int (i2 p0)]) (rest := []) (C := RX8) (n := 1) ⟨hx, hb, hml, hown, ht⟩ (k_x8_isBlock l D a p0 _ _ hc1) (zgV ml_X11_188 im_X8_isBlock se_X8_isBlock in_X8 co_X8_isBlock) rfl rfl (by decide +kernel) ⟨Nat.le_of_ble_eq_true rfl, Nat.le_of_ble_eq_true rfl⟩ hN hK hP hS 53 CW_53 rfl rfl rfl hl.1 rfl (Nat.le_of_ble_eq_true rfl) eX11_lost_4.2.2.1 ⟨Nat.le_of_ble_eq_true rfl, Nat.le_of_ble_eq_true rfl⟩ (fun H locs hP hS => ?_)
  obtain ⟨hr3, h⟩ := rg_e h
  refine lv_if_ne (tgt := 16) hx hb eX11_lost_4.2.2.2.1 (by decide) (fun c4 => ?_) (fun c4 => ?_)
  · have h := if_f (mt (i2_eq (x := r2) (y := 0) hr3 (by decide)).mpr c4) h
    refine lv_aload_n hx hb eX11_lost_4.2.2.2.2.2.2.1 rfl (lv_at hl 0 rfl) ?_
    obtain ⟨s6, hc5, h⟩ := bn_e h
    refine ywVv (As := []) (rest := []) (C := RX11) (n := 0) (ws' := CS D a s6) ⟨hx, hb, hml, hown, ht⟩ (k_x11_growTrees l D a _ _ _ hc5) (zgV ml_X11_243 im_X11_growTrees se_X11_growTrees in_X11 co_X11_growTrees) rfl rfl (by decide +kernel) ⟨Nat.le_of_ble_eq_true rfl, Nat.le_of_ble_eq_true rfl⟩ hN hK hP (hDD _) hS hA 0 CW_0 rfl rfl rfl hl.1 rfl (Nat.le_of_ble_eq_true rfl) eX11_lost_4.2.2.2.2.2.2.2 ⟨Nat.le_of_ble_eq_true rfl, Nat.le_of_ble_eq_true rfl⟩ (fun H locs hP hS => ?_)
    refine lv_aload_n hx hb eX11_lost_20.1 rfl (lv_at hl 0 rfl) ?_
    refine lv_iload_n hx hb eX11_lost_20.2.1 rfl (lv_at hl 1 rfl) ?_
    obtain ⟨⟨r9, s8⟩, hc7, h⟩ := bn_e h
    refine ywV (r0 := i2 r9) (As := [.int (i2 p0)]) (rest := []) (C := RX11) (n := 1) (ws' := CS D a s8) ⟨hx, hb, hml, hown, ht⟩ (k_x11_lostWith l D a p0 _ _ _ hc7) (zgV ml_X11_246 im_X11_lostWith se_X11_lostWith in_X11 co_X11_lostWith) rfl rfl (by decide +kernel) ⟨Nat.le_of_ble_eq_true rfl, Nat.le_of_ble_eq_true rfl⟩ hN hK hP (hDD _) hS hA 0 CW_0 rfl rfl rfl hl.1 rfl (Nat.le_of_ble_eq_true rfl) eX11_lost_20.2.2.1 ⟨Nat.le_of_ble_eq_true rfl, Nat.le_of_ble_eq_true rfl⟩ (fun H locs hP hS => ?_)
    obtain rfl := Option.some.inj h
    exact W.iret (v := (i2 r9)) hx hb hr (fun t ht hW => ⟨⟨_, (), rfl, rfl, by rw [ht]; exact hP, va_K.moved hW.alike hK, hDD _⟩, hS.F ht⟩) hS.2.2 eX11_lost_20.2.2.2.1
  · have h := if_t ((i2_eq (x := r2) (y := 0) hr3 (by decide)).mp c4) h
    refine lv_iconst (v := (-1)) hx hb eX11_lost_4.2.2.2.2.1 (by decide) ?_
    obtain rfl := Option.some.inj h
    exact W.iret (v := (-1)) hx hb hr (fun t ht hW => ⟨⟨_, (), rfl, rfl, by rw [ht]; exact hP, va_K.moved hW.alike hK, hDD _⟩, hS.F ht⟩) hS.2.2 eX11_lost_4.2.2.2.2.2.1
set_option maxHeartbeats 4000000 in
set_option maxRecDepth 100000 in
theorem k_x11_oneOf (l : Launch) (D : va_G) (a : Nat → Nat) (p0 : Int) (p1 : Int) (p2 : Int) (s : MS) (o : Int) (h : m_x11_oneOf p0 p1 p2 s = some o) : yRi l yX11_oneOf cX11_oneOf 3 (some .int) { frames := 0, cells := 0, slots := 0, locals := 0 } D [.int (i2 p0), .int (i2 p1), .int (i2 p2)] (CS D a s) (i2 o) := by
  refine Met.ofW (cc := cX11_oneOf) (maxL := 3) (ret := (some .int)) (by decide) rfl ?_
  intro p e s₀ m args below meth c s₁ B hml hv
  obtain ⟨rfl, ⟨hP, hK⟩, hN⟩ := hv
  have hx := B.exec
  have hb := B.bytes
  have hr := B.returns
  have hts := atoms_spec (ws := wz yX11_oneOf cX11_oneOf 3 (some .int)) B.pre
  have ht : ∀ w ∈ lw_gd, w.before _ s₀ = true := fun w h => hts w (List.mem_cons_of_mem _ h)
  have hown : s₀.vm.findClass RX11 = some m.cls := findClass_of_methodNamed B.named
  have hlocks := B.notSynchronized
  have hS : va_S (fun _ => False) s₀.heap s₀.heap [] := va_S.rf
  have hl := lv_entry ([.int (i2 p0), .int (i2 p1), .int (i2 p2)]) (n := 3) (Nat.le_of_ble_eq_true rfl)
  rw [lg_entry_eq]
  generalize (lg_sl ([.int (i2 p0), .int (i2 p1), .int (i2 p2)]) ++ List.replicate (3 - (lg_sl ([.int (i2 p0), .int (i2 p1), .int (i2 p2)])).length) Slot.unset).toArray = ls at hl ⊢
  have hl : lv_has ls 3 [(0, .int (i2 p0)), (1, .int (i2 p1)), (2, .int (i2 p2))] := hl
  unfold m_x11_oneOf at h
  refine y_head (pcJ := 16) (σ := Int) (fun u H locs ls => va_P D vwCl (CS D a s) H ∧ va_S (fun _ => False) s₀.heap H locs ∧ lv_has ls 3 [] ∧ m_x11_oneOf_J16 s u = some o) (fun u => [.int (i2 u)]) (fun u H locs ls hI => ?_) (fun J16 => ?_)
  · obtain ⟨hP, hS, hl, h⟩ := hI
    obtain ⟨x1, rfl⟩ : ∃ z, z = u := ⟨u, rfl⟩
    have hP : va_P D vwCl (CS D a s) H := hP
    have hl : lv_has ls 3 [] := hl
    have h : m_x11_oneOf_J16 s x1 = some o := h
    unfold m_x11_oneOf_J16 at h
    obtain rfl := Option.some.inj h
    exact W.iret (v := (i2 x1)) hx hb hr (fun t ht hW => ⟨⟨_, (), rfl, rfl, trivial⟩, hS.F ht⟩) hS.2.2 eX11_oneOf_15.2.1
  refine lv_iload_n hx hb eX11_lostWith_43.2.2.2.2.2.2.2 rfl (lv_at hl 0 rfl) ?_
  obtain ⟨hr2, h⟩ := rg_e h
  refine lv_if_ne (tgt := 6) hx hb eX11_oneOf_1.1 (by decide) (fun c3 => ?_) (fun c3 => ?_)
  · have h := if_f (mt (i2_eq (x := p0) (y := 0) hr2 (by decide)).mpr c3) h
    refine lv_iload_n hx hb eX11_oneOf_1.2.2.2.1 rfl (lv_at hl 0 rfl) ?_
    refine lv_iconst (v := 1) hx hb eX11_oneOf_1.2.2.2.2.1 (by decide) ?_
    obtain ⟨hr4, h⟩ := rg_e h
    refine lv_icmp_ne (tgt := 15) hx hb eX11_oneOf_1.2.2.2.2.2.1 (by decide) (fun c5 => ?_) (fun c5 => ?_)
    · have h := if_f (mt (i2_eq (x := p0) (y := 1) hr4 (by decide)).mpr c5) h
      refine lv_iconst (v := (-1)) hx hb eX11_oneOf_15.1 (by decide) ?_
      exact J16 (-1) _ _ _ ⟨hP, hS, lv_sub hl [] rfl, h⟩
    · have h := if_t ((i2_eq (x := p0) (y := 1) hr4 (by decide)).mp c5) h
      refine lv_iload_n hx hb eX11_oneOf_1.2.2.2.2.2.2.1 rfl (lv_at hl 2 rfl) ?_
      refine lv_goto (tgt := 16) hx hb eX11_oneOf_1.2.2.2.2.2.2.2 (by decide) ?_
      exact J16 p2 _ _ _ ⟨hP, hS, lv_sub hl [] rfl, h⟩
  · have h := if_t ((i2_eq (x := p0) (y := 0) hr2 (by decide)).mp c3) h
    refine lv_iload_n hx hb eX11_oneOf_1.2.1 rfl (lv_at hl 1 rfl) ?_
    obtain rfl := Option.some.inj h
    exact W.iret (v := (i2 p1)) hx hb hr (fun t ht hW => ⟨⟨_, (), rfl, rfl, trivial⟩, hS.F ht⟩) hS.2.2 eX11_oneOf_1.2.2.1
set_option maxHeartbeats 4000000 in
set_option maxRecDepth 100000 in
theorem k_x11_worst (l : Launch) (D : va_G) (a : Nat → Nat) (p0 : Int) (sz : Nat) (s : MS) (o : (Int × MS)) (h : m_x11_worst p0 s = some o) : yWi l yX11_worst cX11_worst 6 (some .int) { frames := 4, cells := 0, slots := 0, locals := 240 } D sz [.ref (a 0), .int (i2 p0)] (CS D a s) (CS D a o.2) (i2 o.1) := by
  refine Met.ofW (cc := cX11_worst) (maxL := 6) (ret := (some .int)) (by decide) rfl ?_
  intro p e s₀ m args below meth c s₁ B hml hv
  obtain ⟨rfl, ⟨hsz, hP, hK, hD0⟩, hN⟩ := hv
  have hx := B.exec
  have hb := B.bytes
  have hr := B.returns
  have hts := atoms_spec (ws := wz yX11_worst cX11_worst 6 (some .int)) B.pre
  have ht : ∀ w ∈ lw_gd, w.before _ s₀ = true := fun w h => hts w (List.mem_cons_of_mem _ h)
  have hown : s₀.vm.findClass RX11 = some m.cls := findClass_of_methodNamed B.named
  have hlocks := B.notSynchronized
  subst hsz
  have hD := hD0.self (sz := s₀.heap.size)
  generalize hAe : va_A (CS D a s) s₀.heap.size = A at hD ⊢
  have hA : ∀ q : Nat, s₀.heap.size ≤ q → A q := fun q h => by rw [← hAe]; exact Or.inr h
  have hS : va_S A s₀.heap s₀.heap [] := va_S.rf
  have hDD : ∀ t : MS, va_D A (CS D a t) := fun t => CW_D t hD
  have hl := lv_entry ([.ref (a 0), .int (i2 p0)]) (n := 6) (Nat.le_of_ble_eq_true rfl)
  rw [lg_entry_eq]
  generalize (lg_sl ([.ref (a 0), .int (i2 p0)]) ++ List.replicate (6 - (lg_sl ([.ref (a 0), .int (i2 p0)])).length) Slot.unset).toArray = ls at hl ⊢
  have hl : lv_has ls 6 [(0, .ref (a 0)), (1, .int (i2 p0))] := hl
  unfold m_x11_worst at h
  refine y_loop (pcJ := 11) (σ := Int × Int × Int × Int × MS) (fun n u H locs ls => va_P D vwCl (CS D a u.2.2.2.2) H ∧ va_S A s₀.heap H locs ∧ lv_has ls 6 [(0, .ref (a 0)), (1, .int (i2 u.1)), (2, .int (i2 u.2.1)), (3, .int (i2 u.2.2.1)), (4, .int (i2 u.2.2.2.1))] ∧ m_x11_worst_L11 n u.1 u.2.1 u.2.2.1 u.2.2.2.1 u.2.2.2.2 = some o) (fun u => []) (fun u H locs ls hI => by obtain ⟨_, _, _, h⟩ := hI; cases h) (fun n11 ih11 u H locs ls hI => ?_) (fun J11 => ?_)
  · obtain ⟨hP, hS, hl, h⟩ := hI
    obtain ⟨x1, x2, x3, x4, s5⟩ := u
    have hP : va_P D vwCl (CS D a s5) H := hP
    have hl : lv_has ls 6 [(0, .ref (a 0)), (1, .int (i2 x1)), (2, .int (i2 x2)), (3, .int (i2 x3)), (4, .int (i2 x4))] := hl
    have h : m_x11_worst_b11 (m_x11_worst_L11 n11) x1 x2 x3 x4 s5 = some o := h
    unfold m_x11_worst_b11 at h
    refine y_head (pcJ := 46) (σ := Int × Int × Int × Int × MS) (fun u H locs ls => va_P D vwCl (CS D a u.2.2.2.2) H ∧ va_S A s₀.heap H locs ∧ lv_has ls 6 [(0, .ref (a 0)), (1, .int (i2 u.1)), (2, .int (i2 u.2.1)), (3, .int (i2 u.2.2.1)), (4, .int (i2 u.2.2.2.1))] ∧ m_x11_worst_J46 (m_x11_worst_L11 n11) u.1 u.2.1 u.2.2.1 u.2.2.2.1 u.2.2.2.2 = some o) (fun u => []) (fun u H locs ls hI => ?_) (fun J46 => ?_)
    · obtain ⟨hP, hS, hl, h⟩ := hI
      obtain ⟨x6, x7, x8, x9, s10⟩ := u
      have hP : va_P D vwCl (CS D a s10) H := hP
      have hl : lv_has ls 6 [(0, .ref (a 0)), (1, .int (i2 x6)), (2, .int (i2 x7)), (3, .int (i2 x8)), (4, .int (i2 x9))] := hl
      have h : m_x11_worst_J46 (m_x11_worst_L11 n11) x6 x7 x8 x9 s10 = some o := h
      unfold m_x11_worst_J46 at h
      refine lv_iinc (v := i2 (x9 + 1)) (lv' := [(4, .int (i2 (x9 + 1))), (0, .ref (a 0)), (1, .int (i2 x6)), (2, .int (i2 x7)), (3, .int (i2 x8))]) hx hb eX11_worst_45.2.1 hl (k := 4) rfl (i2_add x9 1) (by decide) rfl (fun ls hl => ?_)
      refine lv_goto (tgt := 11) hx hb eX11_worst_45.2.2.1 (by decide) ?_
      exact ih11 (x6, x7, x8, x9 + 1, s10) _ _ _ ⟨hP, hS, lv_sub hl [1, 2, 3, 4, 0] rfl, h⟩
    refine lv_iload hx hb eX11_worst_11.1 (lv_at hl 4 rfl) ?_
    refine lv_aload_n hx hb eX11_worst_11.2.1 rfl (lv_at hl 0 rfl) ?_
    refine va_get (D := D) (ci := 11) (v := .ref (a 49)) (C := RX11) (T := TX11) (N := 13) hx hb ht inX11 hown hK hP 0 CW_0 rfl 11 (by decide) (ht (.fieldLink RX11 79 "CloneVolumes" "forest" "LCloneVolumes$Forest;") fl_X11_79) (fun _ h9 => h9) rfl eX11_worst_11.2.2.1 ?_
    refine va_get (D := D) (ci := 1) (v := .ref (a 53)) (C := RX1) (T := TX1) (N := 9) hx hb ht inX1 hown hK hP 49 CW_49 rfl 0 (by decide) (ht (.fieldLink RX11 125 "CloneVolumes$Forest" "now" "LCloneVolumes$State;") fl_X11_125) (fun _ h9 => h9) rfl eX11_worst_11.2.2.2.1 ?_
    refine va_get (D := D) (ci := 8) (v := .int (i2 (gI s5 1060))) (C := RX8) (T := TX8) (N := 11) hx hb ht inX8 hown hK hP 53 CW_53 rfl 0 (by decide) (ht (.fieldLink RX11 129 "CloneVolumes$State" "blocks" "I") fl_X11_129) (fun _ h9 => h9) rfl eX11_worst_11.2.2.2.2.1 ?_
    obtain ⟨hr11, h⟩ := rg_e h
    obtain ⟨hr12, h⟩ := rg_e h
    refine lv_icmp_ge (tgt := 52) hx hb eX11_worst_11.2.2.2.2.2.1 (by decide) (fun c13 => ?_) (fun c13 => ?_)
    · have h := if_t ((i2_le (x := (gI s5 1060)) (y := x4) hr12 hr11).mp c13) h
      refine lv_iload_n hx hb eX11_worst_45.2.2.2.1 rfl (lv_at hl 2 rfl) ?_
      refine lv_iconst (v := (-1)) hx hb eX11_worst_45.2.2.2.2.1 (by decide) ?_
      obtain ⟨hr14, h⟩ := rg_e h
      refine lv_icmp_ne (tgt := 59) hx hb eX11_worst_45.2.2.2.2.2.1 (by decide) (fun c15 => ?_) (fun c15 => ?_)
      · rw [show ((-1) : Int32) = i2 (-1) from by decide] at c15
        have h := if_f (mt (i2_eq (x := x2) (y := (-1)) hr14 (by decide)).mpr c15) h
        refine lv_iload_n hx hb eX11_worst_59.1 rfl (lv_at hl 1 rfl) ?_
        refine lv_iload_n hx hb eX11_worst_59.2.1 rfl (lv_at hl 2 rfl) ?_
        refine lv_iload_n hx hb eX11_worst_59.2.2.1 rfl (lv_at hl 3 rfl) ?_
        obtain ⟨r17, hc16, h⟩ := bn_e h
        refine ycS (r0 := i2 r17) (As := [.int (i2 x1), .int (i2 x2), .int (i2 x3)]) (rest := []) (n := 3) ⟨hx, hb, hml, hown, ht⟩ (k_x11_oneOf l D a x1 x2 x3 _ _ hc16) (zgT ml_X11_249 st_X11_oneOf in_X11 co_X11_oneOf) rfl rfl (by decide +kernel) ⟨Nat.le_of_ble_eq_true rfl, Nat.le_of_ble_eq_true rfl⟩ hN hK hP hS rfl hl.1 rfl (Nat.le_of_ble_eq_true rfl) eX11_worst_59.2.2.2.1 ⟨Nat.le_of_ble_eq_true rfl, Nat.le_of_ble_eq_true rfl⟩ (fun H locs hP hS => ?_)
        obtain rfl := Option.some.inj h
        exact W.iret (v := (i2 r17)) hx hb hr (fun t ht hW => ⟨⟨_, (), rfl, rfl, by rw [ht]; exact hP, va_K.moved hW.alike hK, hDD _⟩, hS.F ht⟩) hS.2.2 eX11_worst_59.2.2.2.2.1
      · rw [show ((-1) : Int32) = i2 (-1) from by decide] at c15
        have h := if_t ((i2_eq (x := x2) (y := (-1)) hr14 (by decide)).mp c15) h
        refine lv_iconst (v := (-1)) hx hb eX11_worst_45.2.2.2.2.2.2.1 (by decide) ?_
        obtain rfl := Option.some.inj h
        exact W.iret (v := (-1)) hx hb hr (fun t ht hW => ⟨⟨_, (), rfl, rfl, by rw [ht]; exact hP, va_K.moved hW.alike hK, hDD _⟩, hS.F ht⟩) hS.2.2 eX11_worst_45.2.2.2.2.2.2.2
    · have h := if_f (mt (i2_le (x := (gI s5 1060)) (y := x4) hr12 hr11).mpr c13) h
      refine lv_aload_n hx hb eX11_worst_11.2.2.2.2.2.2.1 rfl (lv_at hl 0 rfl) ?_
      refine lv_iload hx hb eX11_worst_11.2.2.2.2.2.2.2 (lv_at hl 4 rfl) ?_
      obtain ⟨⟨r20, s19⟩, hc18, h⟩ := bn_e h
      refine ywV (r0 := i2 r20) (As := [.int (i2 x4)]) (rest := []) (C := RX11) (n := 1) (ws' := CS D a s19) ⟨hx, hb, hml, hown, ht⟩ (k_x11_lostWith l D a x4 _ _ _ hc18) (zgV ml_X11_246 im_X11_lostWith se_X11_lostWith in_X11 co_X11_lostWith) rfl rfl (by decide +kernel) ⟨Nat.le_of_ble_eq_true rfl, Nat.le_of_ble_eq_true rfl⟩ hN hK hP (hDD _) hS hA 0 CW_0 rfl rfl rfl hl.1 rfl (Nat.le_of_ble_eq_true rfl) eX11_worst_29.1 ⟨Nat.le_of_ble_eq_true rfl, Nat.le_of_ble_eq_true rfl⟩ (fun H locs hP hS => ?_)
      refine lv_istore (lv' := [(5, .int (i2 r20)), (0, .ref (a 0)), (1, .int (i2 x1)), (2, .int (i2 x2)), (3, .int (i2 x3)), (4, .int (i2 x4))]) hx hb eX11_worst_29.2.1 hl (by decide) rfl (fun ls hl => ?_)
      refine lv_iload hx hb eX11_worst_29.2.2.1 (lv_at hl 0 rfl) ?_
      refine lv_iload_n hx hb eX11_worst_29.2.2.2.1 rfl (lv_at hl 4 rfl) ?_
      obtain ⟨hr21, h⟩ := rg_e h
      obtain ⟨hr22, h⟩ := rg_e h
      refine lv_icmp_le (tgt := 46) hx hb eX11_worst_29.2.2.2.2.1 (by decide) (fun c23 => ?_) (fun c23 => ?_)
      · have h := if_t ((i2_le (x := r20) (y := x3) hr21 hr22).mp c23) h
        exact J46 (x1, x2, x3, x4, s19) _ _ _ ⟨hP, hS, lv_sub hl [1, 2, 3, 4, 5] rfl, h⟩
      · have h := if_f (mt (i2_le (x := r20) (y := x3) hr21 hr22).mpr c23) h
        refine lv_iload hx hb eX11_worst_29.2.2.2.2.2.1 (lv_at hl 0 rfl) ?_
        refine lv_istore_n (lv' := [(3, .int (i2 r20)), (5, .int (i2 r20)), (0, .ref (a 0)), (1, .int (i2 x1)), (2, .int (i2 x2)), (4, .int (i2 x4))]) hx hb eX11_worst_29.2.2.2.2.2.2.1 rfl hl (by decide) rfl (fun ls hl => ?_)
        refine lv_iload hx hb eX11_worst_29.2.2.2.2.2.2.2 (lv_at hl 5 rfl) ?_
        refine lv_istore_n (lv' := [(2, .int (i2 x4)), (3, .int (i2 r20)), (5, .int (i2 r20)), (0, .ref (a 0)), (1, .int (i2 x1)), (4, .int (i2 x4))]) hx hb eX11_worst_45.1 rfl hl (by decide) rfl (fun ls hl => ?_)
        exact J46 (x1, x4, r20, x4, s19) _ _ _ ⟨hP, hS, lv_sub hl [3, 4, 0, 1, 5] rfl, h⟩
  refine lv_aload_n hx hb eX11_worst_0.1 rfl (lv_at hl 0 rfl) ?_
  obtain ⟨s25, hc24, h⟩ := bn_e h
  refine ywVv (As := []) (rest := []) (C := RX11) (n := 0) (ws' := CS D a s25) ⟨hx, hb, hml, hown, ht⟩ (k_x11_growTrees l D a _ _ _ hc24) (zgV ml_X11_243 im_X11_growTrees se_X11_growTrees in_X11 co_X11_growTrees) rfl rfl (by decide +kernel) ⟨Nat.le_of_ble_eq_true rfl, Nat.le_of_ble_eq_true rfl⟩ hN hK hP (hDD _) hS hA 0 CW_0 rfl rfl rfl hl.1 rfl (Nat.le_of_ble_eq_true rfl) eX11_worst_0.2.1 ⟨Nat.le_of_ble_eq_true rfl, Nat.le_of_ble_eq_true rfl⟩ (fun H locs hP hS => ?_)
  refine lv_iconst (v := (-1)) hx hb eX11_worst_0.2.2.1 (by decide) ?_
  refine lv_istore_n (lv' := [(2, .int (-1)), (0, .ref (a 0)), (1, .int (i2 p0))]) hx hb eX11_worst_0.2.2.2.1 rfl hl (by decide) rfl (fun ls hl => ?_)
  refine lv_iconst (v := 0) hx hb eX11_worst_0.2.2.2.2.1 (by decide) ?_
  refine lv_istore_n (lv' := [(3, .int 0), (2, .int (-1)), (0, .ref (a 0)), (1, .int (i2 p0))]) hx hb eX11_worst_0.2.2.2.2.2.1 rfl hl (by decide) rfl (fun ls hl => ?_)
  refine lv_iconst (v := 0) hx hb eX11_worst_0.2.2.2.2.2.2.1 (by decide) ?_
  refine lv_istore (lv' := [(4, .int 0), (3, .int 0), (2, .int (-1)), (0, .ref (a 0)), (1, .int (i2 p0))]) hx hb eX11_worst_0.2.2.2.2.2.2.2 hl (by decide) rfl (fun ls hl => ?_)
  exact J11 FU (p0, (-1), 0, 0, s25) _ _ _ ⟨hP, hS, lv_sub hl [3, 4, 2, 1, 0] rfl, h⟩
