theorem co_X1_lowerRoot : Cond.code yX1_lowerRoot cX1_lowerRoot 5 none ∈ lw_gd := zm (lw_g_4 (List.mem_of_getElem? (i := 145) (by decide +kernel))) rfl
theorem co_X1_prune : Cond.code yX1_prune cX1_prune 5 none ∈ lw_gd := zm (lw_g_4 (List.mem_of_getElem? (i := 137) (by decide +kernel))) rfl
theorem co_X1_uproot : Cond.code yX1_uproot cX1_uproot 8 (some .boolean) ∈ lw_gd := zm (lw_g_4 (List.mem_of_getElem? (i := 133) (by decide +kernel))) rfl
theorem co_X8_delete : Cond.code yX8_delete cX8_delete 5 none ∈ lw_gd := zm (lw_g_4 (List.mem_of_getElem? (i := 141) (by decide +kernel))) rfl
theorem im_X1_lowerRoot : Cond.instanceMethod yX1_lowerRoot ∈ lw_gd := zm (lw_g_4 (List.mem_of_getElem? (i := 144) (by decide +kernel))) rfl
theorem im_X1_prune : Cond.instanceMethod yX1_prune ∈ lw_gd := zm (lw_g_4 (List.mem_of_getElem? (i := 136) (by decide +kernel))) rfl
theorem im_X1_uproot : Cond.instanceMethod yX1_uproot ∈ lw_gd := zm (lw_g_4 (List.mem_of_getElem? (i := 132) (by decide +kernel))) rfl
theorem im_X8_delete : Cond.instanceMethod yX8_delete ∈ lw_gd := zm (lw_g_4 (List.mem_of_getElem? (i := 139) (by decide +kernel))) rfl
theorem ml_X1_265 : Cond.methodLink RX1 265 yX1_uproot ∈ lw_gd := zm (lw_g_4 (List.mem_of_getElem? (i := 130) (by decide +kernel))) rfl
theorem ml_X1_268 : Cond.methodLink RX1 268 yX1_prune ∈ lw_gd := zm (lw_g_4 (List.mem_of_getElem? (i := 134) (by decide +kernel))) rfl
theorem ml_X1_271 : Cond.methodLink RX1 271 yX1_lowerRoot ∈ lw_gd := zm (lw_g_4 (List.mem_of_getElem? (i := 142) (by decide +kernel))) rfl
theorem ml_X1_274 : Cond.methodLink RX1 274 yX8_delete ∈ lw_gd := zm (lw_g_4 (List.mem_of_getElem? (i := 138) (by decide +kernel))) rfl
theorem se_X1_lowerRoot : Cond.selects RX1 yX1_lowerRoot yX1_lowerRoot ∈ lw_gd := zm (List.mem_of_getElem? (i := 43) (by decide +kernel)) rfl
theorem se_X1_prune : Cond.selects RX1 yX1_prune yX1_prune ∈ lw_gd := zm (List.mem_of_getElem? (i := 42) (by decide +kernel)) rfl
theorem se_X1_uproot : Cond.selects RX1 yX1_uproot yX1_uproot ∈ lw_gd := zm (List.mem_of_getElem? (i := 41) (by decide +kernel)) rfl
theorem se_X8_delete : Cond.selects RX8 yX8_delete yX8_delete ∈ lw_gd := zm (lw_g_4 (List.mem_of_getElem? (i := 140) (by decide +kernel))) rfl
theorem eX1_letGo_0 : decode cX1_letGo 0 = .ok (.aload_n 0, 1) ∧ decode cX1_letGo 1 = .ok (.getfield 12, 3) ∧ decode cX1_letGo 4 = .ok (.getfield 69, 3) ∧ decode cX1_letGo 7 = .ok (.iload_n 1, 1) ∧ decode cX1_letGo 8 = .ok (.iaload, 1) ∧ decode cX1_letGo 9 = .ok (.iconst (-1), 1) ∧ decode cX1_letGo 10 = .ok (.if_icmp .eq 24, 3) ∧ decode cX1_letGo 13 = .ok (.aload_n 0, 1) := by decide +kernel
theorem eX1_letGo_14 : decode cX1_letGo 14 = .ok (.aload_n 0, 1) ∧ decode cX1_letGo 15 = .ok (.getfield 12, 3) ∧ decode cX1_letGo 18 = .ok (.getfield 69, 3) ∧ decode cX1_letGo 21 = .ok (.iload_n 1, 1) ∧ decode cX1_letGo 22 = .ok (.iaload, 1) ∧ decode cX1_letGo 23 = .ok (.aload_n 0, 1) ∧ decode cX1_letGo 24 = .ok (.getfield 12, 3) ∧ decode cX1_letGo 27 = .ok (.getfield 181, 3) := by decide +kernel
theorem eX1_letGo_30 : decode cX1_letGo 30 = .ok (.invokevirtual 223, 3) ∧ decode cX1_letGo 33 = .ok (.pop, 1) ∧ decode cX1_letGo 34 = .ok (.aload_n 0, 1) ∧ decode cX1_letGo 35 = .ok (.getfield 12, 3) ∧ decode cX1_letGo 38 = .ok (.getfield 69, 3) ∧ decode cX1_letGo 41 = .ok (.iload_n 1, 1) ∧ decode cX1_letGo 42 = .ok (.bipush (-2), 2) ∧ decode cX1_letGo 44 = .ok (.iastore, 1) := by decide +kernel
theorem eX1_letGo_45 : decode cX1_letGo 45 = .ok (.return_, 1) ∧ decode cX1_lowerRoot 0 = .ok (.iconst 0, 1) ∧ decode cX1_lowerRoot 1 = .ok (.istore_n 2, 1) ∧ decode cX1_lowerRoot 2 = .ok (.iload_n 2, 1) ∧ decode cX1_lowerRoot 3 = .ok (.bipush 48, 2) ∧ decode cX1_lowerRoot 5 = .ok (.if_icmp .ge 107, 3) ∧ decode cX1_lowerRoot 8 = .ok (.aload_n 0, 1) ∧ decode cX1_lowerRoot 9 = .ok (.getfield 12, 3) := by decide +kernel
theorem eX1_lowerRoot_12 : decode cX1_lowerRoot 12 = .ok (.getfield 69, 3) ∧ decode cX1_lowerRoot 15 = .ok (.iload_n 1, 1) ∧ decode cX1_lowerRoot 16 = .ok (.iaload, 1) ∧ decode cX1_lowerRoot 17 = .ok (.istore_n 3, 1) ∧ decode cX1_lowerRoot 18 = .ok (.iload_n 3, 1) ∧ decode cX1_lowerRoot 19 = .ok (.iconst (-1), 1) ∧ decode cX1_lowerRoot 20 = .ok (.if_icmp .eq 28, 3) ∧ decode cX1_lowerRoot 23 = .ok (.aload_n 0, 1) := by decide +kernel
theorem eX1_lowerRoot_24 : decode cX1_lowerRoot 24 = .ok (.getfield 12, 3) ∧ decode cX1_lowerRoot 27 = .ok (.getfield 150, 3) ∧ decode cX1_lowerRoot 30 = .ok (.iload_n 3, 1) ∧ decode cX1_lowerRoot 31 = .ok (.iaload, 1) ∧ decode cX1_lowerRoot 32 = .ok (.ifCond .eq 16, 3) ∧ decode cX1_lowerRoot 35 = .ok (.aload_n 0, 1) ∧ decode cX1_lowerRoot 36 = .ok (.getfield 12, 3) ∧ decode cX1_lowerRoot 39 = .ok (.getfield 155, 3) := by decide +kernel
theorem eX1_lowerRoot_42 : decode cX1_lowerRoot 42 = .ok (.iload_n 3, 1) ∧ decode cX1_lowerRoot 43 = .ok (.iaload, 1) ∧ decode cX1_lowerRoot 44 = .ok (.iconst 1, 1) ∧ decode cX1_lowerRoot 45 = .ok (.if_icmp .eq 4, 3) ∧ decode cX1_lowerRoot 48 = .ok (.return_, 1) ∧ decode cX1_lowerRoot 49 = .ok (.aload_n 0, 1) ∧ decode cX1_lowerRoot 50 = .ok (.getfield 12, 3) ∧ decode cX1_lowerRoot 53 = .ok (.getfield 217, 3) := by decide +kernel
theorem eX1_lowerRoot_56 : decode cX1_lowerRoot 56 = .ok (.aload_n 0, 1) ∧ decode cX1_lowerRoot 57 = .ok (.getfield 12, 3) ∧ decode cX1_lowerRoot 60 = .ok (.iload_n 3, 1) ∧ decode cX1_lowerRoot 61 = .ok (.iconst 0, 1) ∧ decode cX1_lowerRoot 62 = .ok (.invokevirtual 220, 3) ∧ decode cX1_lowerRoot 65 = .ok (.iaload, 1) ∧ decode cX1_lowerRoot 66 = .ok (.istore 4, 2) ∧ decode cX1_lowerRoot 68 = .ok (.aload_n 0, 1) := by decide +kernel
theorem eX1_lowerRoot_69 : decode cX1_lowerRoot 69 = .ok (.getfield 12, 3) ∧ decode cX1_lowerRoot 72 = .ok (.getfield 181, 3) ∧ decode cX1_lowerRoot 75 = .ok (.iload 4, 2) ∧ decode cX1_lowerRoot 77 = .ok (.dup2, 1) ∧ decode cX1_lowerRoot 78 = .ok (.iaload, 1) ∧ decode cX1_lowerRoot 79 = .ok (.iconst 1, 1) ∧ decode cX1_lowerRoot 80 = .ok (.iadd, 1) ∧ decode cX1_lowerRoot 81 = .ok (.iastore, 1) := by decide +kernel
theorem eX1_lowerRoot_82 : decode cX1_lowerRoot 82 = .ok (.aload_n 0, 1) ∧ decode cX1_lowerRoot 83 = .ok (.getfield 12, 3) ∧ decode cX1_lowerRoot 86 = .ok (.getfield 69, 3) ∧ decode cX1_lowerRoot 89 = .ok (.iload_n 1, 1) ∧ decode cX1_lowerRoot 90 = .ok (.iload 4, 2) ∧ decode cX1_lowerRoot 92 = .ok (.iastore, 1) ∧ decode cX1_lowerRoot 93 = .ok (.aload_n 0, 1) ∧ decode cX1_lowerRoot 94 = .ok (.iload_n 3, 1) := by decide +kernel
theorem eX1_lowerRoot_95 : decode cX1_lowerRoot 95 = .ok (.aload_n 0, 1) ∧ decode cX1_lowerRoot 96 = .ok (.getfield 12, 3) ∧ decode cX1_lowerRoot 99 = .ok (.getfield 181, 3) ∧ decode cX1_lowerRoot 102 = .ok (.invokevirtual 223, 3) ∧ decode cX1_lowerRoot 105 = .ok (.pop, 1) ∧ decode cX1_lowerRoot 106 = .ok (.iinc 2 1, 3) ∧ decode cX1_lowerRoot 109 = .ok (.goto (-107), 3) ∧ decode cX1_lowerRoot 112 = .ok (.return_, 1) := by decide +kernel
theorem eX1_prune_0 : decode cX1_prune 0 = .ok (.aload_n 0, 1) ∧ decode cX1_prune 1 = .ok (.getfield 37, 3) ∧ decode cX1_prune 4 = .ok (.iconst 0, 1) ∧ decode cX1_prune 5 = .ok (.aload_n 0, 1) ∧ decode cX1_prune 6 = .ok (.getfield 12, 3) ∧ decode cX1_prune 9 = .ok (.getfield 69, 3) ∧ decode cX1_prune 12 = .ok (.iload_n 1, 1) ∧ decode cX1_prune 13 = .ok (.iaload, 1) := by decide +kernel
theorem eX1_prune_14 : decode cX1_prune 14 = .ok (.iastore, 1) ∧ decode cX1_prune 15 = .ok (.iconst 0, 1) ∧ decode cX1_prune 16 = .ok (.istore 4, 2) ∧ decode cX1_prune 18 = .ok (.iload 4, 2) ∧ decode cX1_prune 20 = .ok (.iload_n 3, 1) ∧ decode cX1_prune 21 = .ok (.if_icmp .ge 47, 3) ∧ decode cX1_prune 24 = .ok (.aload_n 0, 1) ∧ decode cX1_prune 25 = .ok (.getfield 37, 3) := by decide +kernel
theorem eX1_prune_28 : decode cX1_prune 28 = .ok (.iload 4, 2) ∧ decode cX1_prune 30 = .ok (.iconst 1, 1) ∧ decode cX1_prune 31 = .ok (.iadd, 1) ∧ decode cX1_prune 32 = .ok (.aload_n 0, 1) ∧ decode cX1_prune 33 = .ok (.getfield 12, 3) ∧ decode cX1_prune 36 = .ok (.getfield 217, 3) ∧ decode cX1_prune 39 = .ok (.aload_n 0, 1) ∧ decode cX1_prune 40 = .ok (.getfield 12, 3) := by decide +kernel
theorem eX1_prune_43 : decode cX1_prune 43 = .ok (.aload_n 0, 1) ∧ decode cX1_prune 44 = .ok (.getfield 37, 3) ∧ decode cX1_prune 47 = .ok (.iload 4, 2) ∧ decode cX1_prune 49 = .ok (.iaload, 1) ∧ decode cX1_prune 50 = .ok (.aload_n 0, 1) ∧ decode cX1_prune 51 = .ok (.getfield 41, 3) ∧ decode cX1_prune 54 = .ok (.iload 4, 2) ∧ decode cX1_prune 56 = .ok (.iaload, 1) := by decide +kernel
theorem eX1_prune_57 : decode cX1_prune 57 = .ok (.invokevirtual 220, 3) ∧ decode cX1_prune 60 = .ok (.iaload, 1) ∧ decode cX1_prune 61 = .ok (.iastore, 1) ∧ decode cX1_prune 62 = .ok (.iinc 4 1, 3) ∧ decode cX1_prune 65 = .ok (.goto (-47), 3) ∧ decode cX1_prune 68 = .ok (.aload_n 0, 1) ∧ decode cX1_prune 69 = .ok (.getfield 12, 3) ∧ decode cX1_prune 72 = .ok (.aload_n 0, 1) := by decide +kernel
theorem eX1_prune_73 : decode cX1_prune 73 = .ok (.getfield 37, 3) ∧ decode cX1_prune 76 = .ok (.iload_n 3, 1) ∧ decode cX1_prune 77 = .ok (.iaload, 1) ∧ decode cX1_prune 78 = .ok (.aload_n 0, 1) ∧ decode cX1_prune 79 = .ok (.getfield 12, 3) ∧ decode cX1_prune 82 = .ok (.aload_n 0, 1) ∧ decode cX1_prune 83 = .ok (.getfield 37, 3) ∧ decode cX1_prune 86 = .ok (.iload_n 3, 1) := by decide +kernel
theorem eX1_prune_87 : decode cX1_prune 87 = .ok (.iaload, 1) ∧ decode cX1_prune 88 = .ok (.iload_n 2, 1) ∧ decode cX1_prune 89 = .ok (.invokevirtual 262, 3) ∧ decode cX1_prune 92 = .ok (.invokevirtual 274, 3) ∧ decode cX1_prune 95 = .ok (.iload_n 3, 1) ∧ decode cX1_prune 96 = .ok (.istore 4, 2) ∧ decode cX1_prune 98 = .ok (.iload 4, 2) ∧ decode cX1_prune 100 = .ok (.ifCond .lt 86, 3) := by decide +kernel
theorem eX1_prune_103 : decode cX1_prune 103 = .ok (.aload_n 0, 1) ∧ decode cX1_prune 104 = .ok (.getfield 12, 3) ∧ decode cX1_prune 107 = .ok (.getfield 155, 3) ∧ decode cX1_prune 110 = .ok (.aload_n 0, 1) ∧ decode cX1_prune 111 = .ok (.getfield 37, 3) ∧ decode cX1_prune 114 = .ok (.iload 4, 2) ∧ decode cX1_prune 116 = .ok (.iaload, 1) ∧ decode cX1_prune 117 = .ok (.iaload, 1) := by decide +kernel
theorem eX1_prune_118 : decode cX1_prune 118 = .ok (.ifCond .ne 68, 3) ∧ decode cX1_prune 121 = .ok (.aload_n 0, 1) ∧ decode cX1_prune 122 = .ok (.getfield 12, 3) ∧ decode cX1_prune 125 = .ok (.getfield 181, 3) ∧ decode cX1_prune 128 = .ok (.aload_n 0, 1) ∧ decode cX1_prune 129 = .ok (.getfield 37, 3) ∧ decode cX1_prune 132 = .ok (.iload 4, 2) ∧ decode cX1_prune 134 = .ok (.iaload, 1) := by decide +kernel
theorem eX1_prune_135 : decode cX1_prune 135 = .ok (.iconst 0, 1) ∧ decode cX1_prune 136 = .ok (.iastore, 1) ∧ decode cX1_prune 137 = .ok (.iload 4, 2) ∧ decode cX1_prune 139 = .ok (.ifCond .le 31, 3) ∧ decode cX1_prune 142 = .ok (.aload_n 0, 1) ∧ decode cX1_prune 143 = .ok (.getfield 12, 3) ∧ decode cX1_prune 146 = .ok (.aload_n 0, 1) ∧ decode cX1_prune 147 = .ok (.getfield 37, 3) := by decide +kernel
theorem eX1_prune_150 : decode cX1_prune 150 = .ok (.iload 4, 2) ∧ decode cX1_prune 152 = .ok (.iconst 1, 1) ∧ decode cX1_prune 153 = .ok (.isub, 1) ∧ decode cX1_prune 154 = .ok (.iaload, 1) ∧ decode cX1_prune 155 = .ok (.aload_n 0, 1) ∧ decode cX1_prune 156 = .ok (.getfield 41, 3) ∧ decode cX1_prune 159 = .ok (.iload 4, 2) ∧ decode cX1_prune 161 = .ok (.iconst 1, 1) := by decide +kernel
theorem eX1_prune_162 : decode cX1_prune 162 = .ok (.isub, 1) ∧ decode cX1_prune 163 = .ok (.iaload, 1) ∧ decode cX1_prune 164 = .ok (.invokevirtual 274, 3) ∧ decode cX1_prune 167 = .ok (.goto 13, 3) ∧ decode cX1_prune 170 = .ok (.aload_n 0, 1) ∧ decode cX1_prune 171 = .ok (.getfield 12, 3) ∧ decode cX1_prune 174 = .ok (.getfield 69, 3) ∧ decode cX1_prune 177 = .ok (.iload_n 1, 1) := by decide +kernel
theorem eX1_prune_178 : decode cX1_prune 178 = .ok (.iconst (-1), 1) ∧ decode cX1_prune 179 = .ok (.iastore, 1) ∧ decode cX1_prune 180 = .ok (.iinc 4 (-1), 3) ∧ decode cX1_prune 183 = .ok (.goto (-85), 3) ∧ decode cX1_prune 186 = .ok (.return_, 1) ∧ decode cX1_share 0 = .ok (.aload_n 0, 1) ∧ decode cX1_share 1 = .ok (.getfield 12, 3) ∧ decode cX1_share 4 = .ok (.getfield 69, 3) := by decide +kernel
theorem eX1_share_7 : decode cX1_share 7 = .ok (.iload_n 2, 1) ∧ decode cX1_share 8 = .ok (.aload_n 0, 1) ∧ decode cX1_share 9 = .ok (.getfield 12, 3) ∧ decode cX1_share 12 = .ok (.getfield 69, 3) ∧ decode cX1_share 15 = .ok (.iload_n 1, 1) ∧ decode cX1_share 16 = .ok (.iaload, 1) ∧ decode cX1_share 17 = .ok (.iastore, 1) ∧ decode cX1_share 18 = .ok (.aload_n 0, 1) := by decide +kernel
theorem eX1_share_19 : decode cX1_share 19 = .ok (.getfield 12, 3) ∧ decode cX1_share 22 = .ok (.getfield 69, 3) ∧ decode cX1_share 25 = .ok (.iload_n 1, 1) ∧ decode cX1_share 26 = .ok (.iaload, 1) ∧ decode cX1_share 27 = .ok (.iconst (-1), 1) ∧ decode cX1_share 28 = .ok (.if_icmp .eq 24, 3) ∧ decode cX1_share 31 = .ok (.aload_n 0, 1) ∧ decode cX1_share 32 = .ok (.getfield 12, 3) := by decide +kernel
theorem eX1_share_35 : decode cX1_share 35 = .ok (.getfield 181, 3) ∧ decode cX1_share 38 = .ok (.aload_n 0, 1) ∧ decode cX1_share 39 = .ok (.getfield 12, 3) ∧ decode cX1_share 42 = .ok (.getfield 69, 3) ∧ decode cX1_share 45 = .ok (.iload_n 1, 1) ∧ decode cX1_share 46 = .ok (.iaload, 1) ∧ decode cX1_share 47 = .ok (.dup2, 1) ∧ decode cX1_share 48 = .ok (.iaload, 1) := by decide +kernel
theorem eX1_share_49 : decode cX1_share 49 = .ok (.iconst 1, 1) ∧ decode cX1_share 50 = .ok (.iadd, 1) ∧ decode cX1_share 51 = .ok (.iastore, 1) ∧ decode cX1_share 52 = .ok (.return_, 1) ∧ decode cX1_tryPlant 0 = .ok (.aload_n 0, 1) ∧ decode cX1_tryPlant 1 = .ok (.getfield 21, 3) ∧ decode cX1_tryPlant 4 = .ok (.aload_n 0, 1) ∧ decode cX1_tryPlant 5 = .ok (.getfield 12, 3) := by decide +kernel
theorem eX1_tryPlant_8 : decode cX1_tryPlant 8 = .ok (.invokevirtual 100, 3) ∧ decode cX1_tryPlant 11 = .ok (.aload_n 0, 1) ∧ decode cX1_tryPlant 12 = .ok (.iload_n 1, 1) ∧ decode cX1_tryPlant 13 = .ok (.iload_n 2, 1) ∧ decode cX1_tryPlant 14 = .ok (.iload_n 3, 1) ∧ decode cX1_tryPlant 15 = .ok (.invokevirtual 141, 3) ∧ decode cX1_tryPlant 18 = .ok (.istore 4, 2) ∧ decode cX1_tryPlant 20 = .ok (.iload 4, 2) := by decide +kernel
theorem eX1_tryPlant_22 : decode cX1_tryPlant 22 = .ok (.ifCond .ne 14, 3) ∧ decode cX1_tryPlant 25 = .ok (.aload_n 0, 1) ∧ decode cX1_tryPlant 26 = .ok (.getfield 12, 3) ∧ decode cX1_tryPlant 29 = .ok (.aload_n 0, 1) ∧ decode cX1_tryPlant 30 = .ok (.getfield 21, 3) ∧ decode cX1_tryPlant 33 = .ok (.invokevirtual 100, 3) ∧ decode cX1_tryPlant 36 = .ok (.iload 4, 2) ∧ decode cX1_tryPlant 38 = .ok (.ireturn, 1) := by decide +kernel
theorem eX1_tryUproot_0 : decode cX1_tryUproot 0 = .ok (.aload_n 0, 1) ∧ decode cX1_tryUproot 1 = .ok (.getfield 12, 3) ∧ decode cX1_tryUproot 4 = .ok (.aload_n 0, 1) ∧ decode cX1_tryUproot 5 = .ok (.getfield 12, 3) ∧ decode cX1_tryUproot 8 = .ok (.getfield 69, 3) ∧ decode cX1_tryUproot 11 = .ok (.iload_n 1, 1) ∧ decode cX1_tryUproot 12 = .ok (.iaload, 1) ∧ decode cX1_tryUproot 13 = .ok (.iload_n 2, 1) := by decide +kernel
theorem eX1_tryUproot_14 : decode cX1_tryUproot 14 = .ok (.invokevirtual 138, 3) ∧ decode cX1_tryUproot 17 = .ok (.iconst (-1), 1) ∧ decode cX1_tryUproot 18 = .ok (.if_icmp .ne 5, 3) ∧ decode cX1_tryUproot 21 = .ok (.iconst 0, 1) ∧ decode cX1_tryUproot 22 = .ok (.ireturn, 1) ∧ decode cX1_tryUproot 23 = .ok (.aload_n 0, 1) ∧ decode cX1_tryUproot 24 = .ok (.getfield 21, 3) ∧ decode cX1_tryUproot 27 = .ok (.aload_n 0, 1) := by decide +kernel
theorem eX1_tryUproot_28 : decode cX1_tryUproot 28 = .ok (.getfield 12, 3) ∧ decode cX1_tryUproot 31 = .ok (.invokevirtual 100, 3) ∧ decode cX1_tryUproot 34 = .ok (.aload_n 0, 1) ∧ decode cX1_tryUproot 35 = .ok (.iload_n 1, 1) ∧ decode cX1_tryUproot 36 = .ok (.iload_n 2, 1) ∧ decode cX1_tryUproot 37 = .ok (.invokevirtual 265, 3) ∧ decode cX1_tryUproot 40 = .ok (.istore_n 3, 1) ∧ decode cX1_tryUproot 41 = .ok (.iload_n 3, 1) := by decide +kernel
theorem eX1_tryUproot_42 : decode cX1_tryUproot 42 = .ok (.ifCond .ne 14, 3) ∧ decode cX1_tryUproot 45 = .ok (.aload_n 0, 1) ∧ decode cX1_tryUproot 46 = .ok (.getfield 12, 3) ∧ decode cX1_tryUproot 49 = .ok (.aload_n 0, 1) ∧ decode cX1_tryUproot 50 = .ok (.getfield 21, 3) ∧ decode cX1_tryUproot 53 = .ok (.invokevirtual 100, 3) ∧ decode cX1_tryUproot 56 = .ok (.iload_n 3, 1) ∧ decode cX1_tryUproot 57 = .ok (.ireturn, 1) := by decide +kernel
theorem eX1_uproot_0 : decode cX1_uproot 0 = .ok (.aload_n 0, 1) ∧ decode cX1_uproot 1 = .ok (.getfield 12, 3) ∧ decode cX1_uproot 4 = .ok (.getfield 150, 3) ∧ decode cX1_uproot 7 = .ok (.aload_n 0, 1) ∧ decode cX1_uproot 8 = .ok (.getfield 12, 3) ∧ decode cX1_uproot 11 = .ok (.getfield 69, 3) ∧ decode cX1_uproot 14 = .ok (.iload_n 1, 1) ∧ decode cX1_uproot 15 = .ok (.iaload, 1) := by decide +kernel
theorem eX1_uproot_16 : decode cX1_uproot 16 = .ok (.iaload, 1) ∧ decode cX1_uproot 17 = .ok (.istore_n 3, 1) ∧ decode cX1_uproot 18 = .ok (.aload_n 0, 1) ∧ decode cX1_uproot 19 = .ok (.aload_n 0, 1) ∧ decode cX1_uproot 20 = .ok (.getfield 12, 3) ∧ decode cX1_uproot 23 = .ok (.getfield 69, 3) ∧ decode cX1_uproot 26 = .ok (.iload_n 1, 1) ∧ decode cX1_uproot 27 = .ok (.iaload, 1) := by decide +kernel
theorem eX1_uproot_28 : decode cX1_uproot 28 = .ok (.invokevirtual 236, 3) ∧ decode cX1_uproot 31 = .ok (.istore 4, 2) ∧ decode cX1_uproot 33 = .ok (.iload 4, 2) ∧ decode cX1_uproot 35 = .ok (.iconst (-1), 1) ∧ decode cX1_uproot 36 = .ok (.if_icmp .ne 5, 3) ∧ decode cX1_uproot 39 = .ok (.iconst 0, 1) ∧ decode cX1_uproot 40 = .ok (.ireturn, 1) ∧ decode cX1_uproot 41 = .ok (.aload_n 0, 1) := by decide +kernel
theorem eX1_uproot_42 : decode cX1_uproot 42 = .ok (.getfield 12, 3) ∧ decode cX1_uproot 45 = .ok (.getfield 69, 3) ∧ decode cX1_uproot 48 = .ok (.iload_n 1, 1) ∧ decode cX1_uproot 49 = .ok (.iload 4, 2) ∧ decode cX1_uproot 51 = .ok (.iastore, 1) ∧ decode cX1_uproot 52 = .ok (.iconst 0, 1) ∧ decode cX1_uproot 53 = .ok (.istore 5, 2) ∧ decode cX1_uproot 55 = .ok (.iload 5, 2) := by decide +kernel
theorem eX1_uproot_57 : decode cX1_uproot 57 = .ok (.iload_n 3, 1) ∧ decode cX1_uproot 58 = .ok (.if_icmp .ge 80, 3) ∧ decode cX1_uproot 61 = .ok (.aload_n 0, 1) ∧ decode cX1_uproot 62 = .ok (.getfield 12, 3) ∧ decode cX1_uproot 65 = .ok (.iload 4, 2) ∧ decode cX1_uproot 67 = .ok (.iload_n 2, 1) ∧ decode cX1_uproot 68 = .ok (.invokevirtual 249, 3) ∧ decode cX1_uproot 71 = .ok (.istore 6, 2) := by decide +kernel
theorem eX1_uproot_73 : decode cX1_uproot 73 = .ok (.aload_n 0, 1) ∧ decode cX1_uproot 74 = .ok (.aload_n 0, 1) ∧ decode cX1_uproot 75 = .ok (.getfield 12, 3) ∧ decode cX1_uproot 78 = .ok (.getfield 217, 3) ∧ decode cX1_uproot 81 = .ok (.aload_n 0, 1) ∧ decode cX1_uproot 82 = .ok (.getfield 12, 3) ∧ decode cX1_uproot 85 = .ok (.iload 4, 2) ∧ decode cX1_uproot 87 = .ok (.iload 6, 2) := by decide +kernel
theorem eX1_uproot_89 : decode cX1_uproot 89 = .ok (.invokevirtual 220, 3) ∧ decode cX1_uproot 92 = .ok (.iaload, 1) ∧ decode cX1_uproot 93 = .ok (.invokevirtual 236, 3) ∧ decode cX1_uproot 96 = .ok (.istore 7, 2) ∧ decode cX1_uproot 98 = .ok (.iload 7, 2) ∧ decode cX1_uproot 100 = .ok (.iconst (-1), 1) ∧ decode cX1_uproot 101 = .ok (.if_icmp .ne 5, 3) ∧ decode cX1_uproot 104 = .ok (.iconst 0, 1) := by decide +kernel
theorem eX1_uproot_105 : decode cX1_uproot 105 = .ok (.ireturn, 1) ∧ decode cX1_uproot 106 = .ok (.aload_n 0, 1) ∧ decode cX1_uproot 107 = .ok (.getfield 12, 3) ∧ decode cX1_uproot 110 = .ok (.iload 4, 2) ∧ decode cX1_uproot 112 = .ok (.iload 6, 2) ∧ decode cX1_uproot 114 = .ok (.iload 7, 2) ∧ decode cX1_uproot 116 = .ok (.invokevirtual 252, 3) ∧ decode cX1_uproot 119 = .ok (.aload_n 0, 1) := by decide +kernel
theorem eX1_uproot_120 : decode cX1_uproot 120 = .ok (.getfield 41, 3) ∧ decode cX1_uproot 123 = .ok (.iload 5, 2) ∧ decode cX1_uproot 125 = .ok (.iload 6, 2) ∧ decode cX1_uproot 127 = .ok (.iastore, 1) ∧ decode cX1_uproot 128 = .ok (.iload 7, 2) ∧ decode cX1_uproot 130 = .ok (.istore 4, 2) ∧ decode cX1_uproot 132 = .ok (.iinc 5 1, 3) ∧ decode cX1_uproot 135 = .ok (.goto (-80), 3) := by decide +kernel
theorem eX1_uproot_138 : decode cX1_uproot 138 = .ok (.aload_n 0, 1) ∧ decode cX1_uproot 139 = .ok (.iload_n 1, 1) ∧ decode cX1_uproot 140 = .ok (.iload_n 2, 1) ∧ decode cX1_uproot 141 = .ok (.iload_n 3, 1) ∧ decode cX1_uproot 142 = .ok (.invokevirtual 268, 3) ∧ decode cX1_uproot 145 = .ok (.aload_n 0, 1) ∧ decode cX1_uproot 146 = .ok (.iload_n 1, 1) ∧ decode cX1_uproot 147 = .ok (.invokevirtual 271, 3) := by decide +kernel
theorem eX1_uproot_150 : decode cX1_uproot 150 = .ok (.iconst 1, 1) ∧ decode cX1_uproot 151 = .ok (.ireturn, 1) ∧ decode cX8_delete 0 = .ok (.iload_n 2, 1) ∧ decode cX8_delete 1 = .ok (.ifCond .lt 13, 3) ∧ decode cX8_delete 4 = .ok (.iload_n 2, 1) ∧ decode cX8_delete 5 = .ok (.aload_n 0, 1) ∧ decode cX8_delete 6 = .ok (.getfield 21, 3) ∧ decode cX8_delete 9 = .ok (.iload_n 1, 1) := by decide +kernel
theorem eX8_delete_10 : decode cX8_delete 10 = .ok (.iaload, 1) ∧ decode cX8_delete 11 = .ok (.if_icmp .lt 4, 3) ∧ decode cX8_delete 14 = .ok (.return_, 1) ∧ decode cX8_delete 15 = .ok (.aload_n 0, 1) ∧ decode cX8_delete 16 = .ok (.getfield 21, 3) ∧ decode cX8_delete 19 = .ok (.iload_n 1, 1) ∧ decode cX8_delete 20 = .ok (.dup2, 1) ∧ decode cX8_delete 21 = .ok (.iaload, 1) := by decide +kernel
theorem eX8_delete_22 : decode cX8_delete 22 = .ok (.iconst 1, 1) ∧ decode cX8_delete 23 = .ok (.isub, 1) ∧ decode cX8_delete 24 = .ok (.iastore, 1) ∧ decode cX8_delete 25 = .ok (.aload_n 0, 1) ∧ decode cX8_delete 26 = .ok (.iload_n 1, 1) ∧ decode cX8_delete 27 = .ok (.aload_n 0, 1) ∧ decode cX8_delete 28 = .ok (.getfield 21, 3) ∧ decode cX8_delete 31 = .ok (.iload_n 1, 1) := by decide +kernel
theorem eX8_delete_32 : decode cX8_delete 32 = .ok (.iaload, 1) ∧ decode cX8_delete 33 = .ok (.invokevirtual 73, 3) ∧ decode cX8_delete 36 = .ok (.istore_n 3, 1) ∧ decode cX8_delete 37 = .ok (.aload_n 0, 1) ∧ decode cX8_delete 38 = .ok (.iload_n 1, 1) ∧ decode cX8_delete 39 = .ok (.iload_n 2, 1) ∧ decode cX8_delete 40 = .ok (.invokevirtual 73, 3) ∧ decode cX8_delete 43 = .ok (.istore 4, 2) := by decide +kernel
theorem eX8_delete_45 : decode cX8_delete 45 = .ok (.iload 4, 2) ∧ decode cX8_delete 47 = .ok (.iload_n 3, 1) ∧ decode cX8_delete 48 = .ok (.if_icmp .ge 41, 3) ∧ decode cX8_delete 51 = .ok (.aload_n 0, 1) ∧ decode cX8_delete 52 = .ok (.getfield 24, 3) ∧ decode cX8_delete 55 = .ok (.iload 4, 2) ∧ decode cX8_delete 57 = .ok (.aload_n 0, 1) ∧ decode cX8_delete 58 = .ok (.getfield 24, 3) := by decide +kernel
theorem eX8_delete_61 : decode cX8_delete 61 = .ok (.iload 4, 2) ∧ decode cX8_delete 63 = .ok (.iconst 1, 1) ∧ decode cX8_delete 64 = .ok (.iadd, 1) ∧ decode cX8_delete 65 = .ok (.iaload, 1) ∧ decode cX8_delete 66 = .ok (.iastore, 1) ∧ decode cX8_delete 67 = .ok (.aload_n 0, 1) ∧ decode cX8_delete 68 = .ok (.getfield 27, 3) ∧ decode cX8_delete 71 = .ok (.iload 4, 2) := by decide +kernel
theorem eX8_delete_73 : decode cX8_delete 73 = .ok (.aload_n 0, 1) ∧ decode cX8_delete 74 = .ok (.getfield 27, 3) ∧ decode cX8_delete 77 = .ok (.iload 4, 2) ∧ decode cX8_delete 79 = .ok (.iconst 1, 1) ∧ decode cX8_delete 80 = .ok (.iadd, 1) ∧ decode cX8_delete 81 = .ok (.iaload, 1) ∧ decode cX8_delete 82 = .ok (.iastore, 1) ∧ decode cX8_delete 83 = .ok (.iinc 4 1, 3) := by decide +kernel
theorem eX8_delete_86 : decode cX8_delete 86 = .ok (.goto (-41), 3) ∧ decode cX8_delete 89 = .ok (.aload_n 0, 1) ∧ decode cX8_delete 90 = .ok (.iload_n 1, 1) ∧ decode cX8_delete 91 = .ok (.invokevirtual 86, 3) ∧ decode cX8_delete 94 = .ok (.return_, 1) ∧ decode cX8_freeNumber 0 = .ok (.iconst 0, 1) ∧ decode cX8_freeNumber 1 = .ok (.istore_n 1, 1) ∧ decode cX8_freeNumber 2 = .ok (.iload_n 1, 1) := by decide +kernel
theorem eX8_freeNumber_3 : decode cX8_freeNumber 3 = .ok (.bipush 8, 2) ∧ decode cX8_freeNumber 5 = .ok (.if_icmp .ge 19, 3) ∧ decode cX8_freeNumber 8 = .ok (.aload_n 0, 1) ∧ decode cX8_freeNumber 9 = .ok (.iload_n 1, 1) ∧ decode cX8_freeNumber 10 = .ok (.invokevirtual 67, 3) ∧ decode cX8_freeNumber 13 = .ok (.ifCond .ne 5, 3) ∧ decode cX8_freeNumber 16 = .ok (.iload_n 1, 1) ∧ decode cX8_freeNumber 17 = .ok (.ireturn, 1) := by decide +kernel
theorem eX8_freeNumber_18 : decode cX8_freeNumber 18 = .ok (.iinc 1 1, 3) ∧ decode cX8_freeNumber 21 = .ok (.goto (-19), 3) ∧ decode cX8_freeNumber 24 = .ok (.iconst (-1), 1) ∧ decode cX8_freeNumber 25 = .ok (.ireturn, 1) := by decide +kernel
set_option maxHeartbeats 4000000 in
set_option maxRecDepth 100000 in
theorem k_x8_become_v4 (l : Launch) (D : va_G) (a : Nat → Nat) (sz : Nat) (s : MS) (o : MS) (h : m_x8_become_v4 s = some o) : yWv l yX8_become cX8_become 2 none { frames := 1, cells := 0, slots := 0, locals := 60 } D sz [.ref (a 53), .ref (a 71)] (CS D a s) (CS D a o) := by
  refine Met.ofW (cc := cX8_become) (maxL := 2) (ret := none) (by decide) rfl ?_
  intro p e s₀ m args below meth c s₁ B hml hv
  obtain ⟨rfl, ⟨hsz, hP, hK, hD0⟩, hN⟩ := hv
  have hx := B.exec
  have hb := B.bytes
  have hr := B.returns
  have hts := atoms_spec (ws := wz yX8_become cX8_become 2 none) B.pre
  have ht : ∀ w ∈ lw_gd, w.before _ s₀ = true := fun w h => hts w (List.mem_cons_of_mem _ h)
  have hown : s₀.vm.findClass RX8 = some m.cls := findClass_of_methodNamed B.named
  have hlocks := B.notSynchronized
  subst hsz
  have hD := hD0.self (sz := s₀.heap.size)
  generalize hAe : va_A (CS D a s) s₀.heap.size = A at hD ⊢
  have hA : ∀ q : Nat, s₀.heap.size ≤ q → A q := fun q h => by rw [← hAe]; exact Or.inr h
  have hS : va_S A s₀.heap s₀.heap [] := va_S.rf
  have hDD : ∀ t : MS, va_D A (CS D a t) := fun t => CW_D t hD
  have hl := lv_entry ([.ref (a 53), .ref (a 71)]) (n := 2) (Nat.le_of_ble_eq_true rfl)
  rw [lg_entry_eq]
  generalize (lg_sl ([.ref (a 53), .ref (a 71)]) ++ List.replicate (2 - (lg_sl ([.ref (a 53), .ref (a 71)])).length) Slot.unset).toArray = ls at hl ⊢
  have hl : lv_has ls 2 [(0, .ref (a 53)), (1, .ref (a 71))] := hl
  unfold m_x8_become_v4 at h
  refine lv_aload_n hx hb eX11_unlike_229.2.2.2.2.2.2.2 rfl (lv_at hl 0 rfl) ?_
  refine lv_aload_n hx hb eX8_become_1.1 rfl (lv_at hl 1 rfl) ?_
  refine va_get (D := D) (ci := 8) (v := .int (i2 (gI s 1420))) (C := RX8) (T := TX8) (N := 11) hx hb ht inX8 hown hK hP 71 CW_71 rfl 0 (by decide) (ht (.fieldLink RX8 40 "CloneVolumes$State" "blocks" "I") fl_X8_40) (fun _ h9 => h9) rfl eX8_become_1.2.1 ?_
  refine ya_put (D := D) (ci := 8) (v := .int (i2 (gI s 1420))) (ty := .int) (C := RX8) (T := TX8) (N := 11) hx hb ht inX8 tyX8 tyX8_ok nmX8 hown hK hP (hDD _) hS 53 CW_53 rfl 0 (by decide) (ht (.fieldLink RX8 40 "CloneVolumes$State" "blocks" "I") fl_X8_40) (fun _ h9 => h9) rfl (by decide +kernel) rfl rfl (Nat.le_of_ble_eq_true rfl) eX8_become_1.2.2.1 (CW_w53_0 (gI s 1420)) (fun H locs hP hS => ?_)
  obtain ⟨s1, hs1, h⟩ := st_e h
  rw [hs1] at hP
  refine lv_aload_n hx hb eX8_become_1.2.2.2.1 rfl (lv_at hl 0 rfl) ?_
  refine lv_aload_n hx hb eX8_become_1.2.2.2.2.1 rfl (lv_at hl 1 rfl) ?_
  refine va_get (D := D) (ci := 8) (v := .int (i2 (gI s1 1421))) (C := RX8) (T := TX8) (N := 11) hx hb ht inX8 hown hK hP 71 CW_71 rfl 1 (by decide) (ht (.fieldLink RX8 44 "CloneVolumes$State" "spent" "I") fl_X8_44) (fun _ h9 => h9) rfl eX8_become_1.2.2.2.2.2.1 ?_
  refine ya_put (D := D) (ci := 8) (v := .int (i2 (gI s1 1421))) (ty := .int) (C := RX8) (T := TX8) (N := 11) hx hb ht inX8 tyX8 tyX8_ok nmX8 hown hK hP (hDD _) hS 53 CW_53 rfl 1 (by decide) (ht (.fieldLink RX8 44 "CloneVolumes$State" "spent" "I") fl_X8_44) (fun _ h9 => h9) rfl (by decide +kernel) rfl rfl (Nat.le_of_ble_eq_true rfl) eX8_become_1.2.2.2.2.2.2.1 (CW_w53_1 (gI s1 1421)) (fun H locs hP hS => ?_)
  obtain ⟨s2, hs2, h⟩ := st_e h
  rw [hs2] at hP
  refine lv_aload_n hx hb eX8_become_1.2.2.2.2.2.2.2 rfl (lv_at hl 0 rfl) ?_
  refine lv_aload_n hx hb eX8_become_17.1 rfl (lv_at hl 1 rfl) ?_
  refine va_get (D := D) (ci := 8) (v := .long (i8 (gL s2 1422))) (C := RX8) (T := TX8) (N := 11) hx hb ht inX8 hown hK hP 71 CW_71 rfl 2 (by decide) (ht (.fieldLink RX8 47 "CloneVolumes$State" "written" "J") fl_X8_47) (fun _ h9 => h9) rfl eX8_become_17.2.1 ?_
  refine ya_put (D := D) (ci := 8) (v := .long (i8 (gL s2 1422))) (ty := .long) (C := RX8) (T := TX8) (N := 11) hx hb ht inX8 tyX8 tyX8_ok nmX8 hown hK hP (hDD _) hS 53 CW_53 rfl 2 (by decide) (ht (.fieldLink RX8 47 "CloneVolumes$State" "written" "J") fl_X8_47) (fun _ h9 => h9) rfl (by decide +kernel) rfl rfl (Nat.le_of_ble_eq_true rfl) eX8_become_17.2.2.1 (CW_w53_2 (gL s2 1422)) (fun H locs hP hS => ?_)
  obtain ⟨s3, hs3, h⟩ := st_e h
  rw [hs3] at hP
  refine lv_aload_n hx hb eX8_become_17.2.2.2.1 rfl (lv_at hl 1 rfl) ?_
  refine va_get (D := D) (ci := 8) (v := .ref (a 72)) (C := RX8) (T := TX8) (N := 11) hx hb ht inX8 hown hK hP 71 CW_71 rfl 3 (by decide) (ht (.fieldLink RX8 9 "CloneVolumes$State" "count" "[I") fl_X8_9) (fun _ h9 => h9) rfl eX8_become_17.2.2.2.2.1 ?_
  refine lv_iconst (v := 0) hx hb eX8_become_17.2.2.2.2.2.1 (by decide) ?_
  refine lv_aload_n hx hb eX8_become_17.2.2.2.2.2.2.1 rfl (lv_at hl 0 rfl) ?_
  refine va_get (D := D) (ci := 8) (v := .ref (a 54)) (C := RX8) (T := TX8) (N := 11) hx hb ht inX8 hown hK hP 53 CW_53 rfl 3 (by decide) (ht (.fieldLink RX8 9 "CloneVolumes$State" "count" "[I") fl_X8_9) (fun _ h9 => h9) rfl eX8_become_17.2.2.2.2.2.2.2 ?_
  refine lv_iconst (v := 0) hx hb eX8_become_33.1 (by decide) ?_
  refine lv_bipush (v := 48) hx hb eX8_become_33.2.1 (by decide) ?_
  obtain ⟨hc4, h⟩ := cpg_e h
  refine ya_copyi (sp := 0) (dp := 0) (n := 48) hx hb (by rw [hml]; exact hl.1.symm) hown (ht _ ml_X8_51) (ht _ na_cpy) (ht _ st_cpy) (ht _ in_sys) hK hP (hDD _) hS 72 54 CW_72 CW_54 (by decide) (by decide) hc4 (Nat.le_of_ble_eq_true rfl) (Nat.le_of_ble_eq_true rfl) eX8_become_33.2.2.1 (CW_w54 _) (fun H locs hP hS => ?_)
  obtain ⟨s5, hs5, h⟩ := st_e h
  rw [hs5] at hP
  refine lv_aload_n hx hb eX8_become_33.2.2.2.1 rfl (lv_at hl 1 rfl) ?_
  refine va_get (D := D) (ci := 8) (v := .ref (a 73)) (C := RX8) (T := TX8) (N := 11) hx hb ht inX8 hown hK hP 71 CW_71 rfl 4 (by decide) (ht (.fieldLink RX8 15 "CloneVolumes$State" "saved" "[I") fl_X8_15) (fun _ h9 => h9) rfl eX8_become_33.2.2.2.2.1 ?_
  refine lv_iconst (v := 0) hx hb eX8_become_33.2.2.2.2.2.1 (by decide) ?_
  refine lv_aload_n hx hb eX8_become_33.2.2.2.2.2.2.1 rfl (lv_at hl 0 rfl) ?_
  refine va_get (D := D) (ci := 8) (v := .ref (a 55)) (C := RX8) (T := TX8) (N := 11) hx hb ht inX8 hown hK hP 53 CW_53 rfl 4 (by decide) (ht (.fieldLink RX8 15 "CloneVolumes$State" "saved" "[I") fl_X8_15) (fun _ h9 => h9) rfl eX8_become_33.2.2.2.2.2.2.2 ?_
  refine lv_iconst (v := 0) hx hb eX8_become_48.1 (by decide) ?_
  refine lv_bipush (v := 48) hx hb eX8_become_48.2.1 (by decide) ?_
  obtain ⟨hc6, h⟩ := cpg_e h
  refine ya_copyi (sp := 0) (dp := 0) (n := 48) hx hb (by rw [hml]; exact hl.1.symm) hown (ht _ ml_X8_51) (ht _ na_cpy) (ht _ st_cpy) (ht _ in_sys) hK hP (hDD _) hS 73 55 CW_73 CW_55 (by decide) (by decide) hc6 (Nat.le_of_ble_eq_true rfl) (Nat.le_of_ble_eq_true rfl) eX8_become_48.2.2.1 (CW_w55 _) (fun H locs hP hS => ?_)
  obtain ⟨s7, hs7, h⟩ := st_e h
  rw [hs7] at hP
  refine lv_aload_n hx hb eX8_become_48.2.2.2.1 rfl (lv_at hl 1 rfl) ?_
  refine va_get (D := D) (ci := 8) (v := .ref (a 74)) (C := RX8) (T := TX8) (N := 11) hx hb ht inX8 hown hK hP 71 CW_71 rfl 5 (by decide) (ht (.fieldLink RX8 18 "CloneVolumes$State" "level" "[I") fl_X8_18) (fun _ h9 => h9) rfl eX8_become_48.2.2.2.2.1 ?_
  refine lv_iconst (v := 0) hx hb eX8_become_48.2.2.2.2.2.1 (by decide) ?_
  refine lv_aload_n hx hb eX8_become_48.2.2.2.2.2.2.1 rfl (lv_at hl 0 rfl) ?_
  refine va_get (D := D) (ci := 8) (v := .ref (a 56)) (C := RX8) (T := TX8) (N := 11) hx hb ht inX8 hown hK hP 53 CW_53 rfl 5 (by decide) (ht (.fieldLink RX8 18 "CloneVolumes$State" "level" "[I") fl_X8_18) (fun _ h9 => h9) rfl eX8_become_48.2.2.2.2.2.2.2 ?_
  refine lv_iconst (v := 0) hx hb eX8_become_63.1 (by decide) ?_
  refine lv_bipush (v := 48) hx hb eX8_become_63.2.1 (by decide) ?_
  obtain ⟨hc8, h⟩ := cpg_e h
  refine ya_copyi (sp := 0) (dp := 0) (n := 48) hx hb (by rw [hml]; exact hl.1.symm) hown (ht _ ml_X8_51) (ht _ na_cpy) (ht _ st_cpy) (ht _ in_sys) hK hP (hDD _) hS 74 56 CW_74 CW_56 (by decide) (by decide) hc8 (Nat.le_of_ble_eq_true rfl) (Nat.le_of_ble_eq_true rfl) eX8_become_63.2.2.1 (CW_w56 _) (fun H locs hP hS => ?_)
  obtain ⟨s9, hs9, h⟩ := st_e h
  rw [hs9] at hP
  refine lv_aload_n hx hb eX8_become_63.2.2.2.1 rfl (lv_at hl 1 rfl) ?_
  refine va_get (D := D) (ci := 8) (v := .ref (a 75)) (C := RX8) (T := TX8) (N := 11) hx hb ht inX8 hown hK hP 71 CW_71 rfl 6 (by decide) (ht (.fieldLink RX8 21 "CloneVolumes$State" "size" "[I") fl_X8_21) (fun _ h9 => h9) rfl eX8_become_63.2.2.2.2.1 ?_
  refine lv_iconst (v := 0) hx hb eX8_become_63.2.2.2.2.2.1 (by decide) ?_
  refine lv_aload_n hx hb eX8_become_63.2.2.2.2.2.2.1 rfl (lv_at hl 0 rfl) ?_
  refine va_get (D := D) (ci := 8) (v := .ref (a 57)) (C := RX8) (T := TX8) (N := 11) hx hb ht inX8 hown hK hP 53 CW_53 rfl 6 (by decide) (ht (.fieldLink RX8 21 "CloneVolumes$State" "size" "[I") fl_X8_21) (fun _ h9 => h9) rfl eX8_become_63.2.2.2.2.2.2.2 ?_
  refine lv_iconst (v := 0) hx hb eX8_become_78.1 (by decide) ?_
  refine lv_bipush (v := 48) hx hb eX8_become_78.2.1 (by decide) ?_
  obtain ⟨hc10, h⟩ := cpg_e h
  refine ya_copyi (sp := 0) (dp := 0) (n := 48) hx hb (by rw [hml]; exact hl.1.symm) hown (ht _ ml_X8_51) (ht _ na_cpy) (ht _ st_cpy) (ht _ in_sys) hK hP (hDD _) hS 75 57 CW_75 CW_57 (by decide) (by decide) hc10 (Nat.le_of_ble_eq_true rfl) (Nat.le_of_ble_eq_true rfl) eX8_become_78.2.2.1 (CW_w57 _) (fun H locs hP hS => ?_)
  obtain ⟨s11, hs11, h⟩ := st_e h
  rw [hs11] at hP
  refine lv_aload_n hx hb eX8_become_78.2.2.2.1 rfl (lv_at hl 1 rfl) ?_
  refine va_get (D := D) (ci := 8) (v := .ref (a 76)) (C := RX8) (T := TX8) (N := 11) hx hb ht inX8 hown hK hP 71 CW_71 rfl 7 (by decide) (ht (.fieldLink RX8 24 "CloneVolumes$State" "keys" "[I") fl_X8_24) (fun _ h9 => h9) rfl eX8_become_78.2.2.2.2.1 ?_
  refine lv_iconst (v := 0) hx hb eX8_become_78.2.2.2.2.2.1 (by decide) ?_
  refine lv_aload_n hx hb eX8_become_78.2.2.2.2.2.2.1 rfl (lv_at hl 0 rfl) ?_
  refine va_get (D := D) (ci := 8) (v := .ref (a 58)) (C := RX8) (T := TX8) (N := 11) hx hb ht inX8 hown hK hP 53 CW_53 rfl 7 (by decide) (ht (.fieldLink RX8 24 "CloneVolumes$State" "keys" "[I") fl_X8_24) (fun _ h9 => h9) rfl eX8_become_78.2.2.2.2.2.2.2 ?_
  refine lv_iconst (v := 0) hx hb eX8_become_93.1 (by decide) ?_
  refine lv_sipush (v := 288) hx hb eX8_become_93.2.1 (by decide) ?_
  obtain ⟨hc12, h⟩ := cpg_e h
  refine ya_copyi (sp := 0) (dp := 0) (n := 288) hx hb (by rw [hml]; exact hl.1.symm) hown (ht _ ml_X8_51) (ht _ na_cpy) (ht _ st_cpy) (ht _ in_sys) hK hP (hDD _) hS 76 58 CW_76 CW_58 (by decide) (by decide) hc12 (Nat.le_of_ble_eq_true rfl) (Nat.le_of_ble_eq_true rfl) eX8_become_93.2.2.1 (CW_w58 _) (fun H locs hP hS => ?_)
  obtain ⟨s13, hs13, h⟩ := st_e h
  rw [hs13] at hP
  refine lv_aload_n hx hb eX8_become_93.2.2.2.1 rfl (lv_at hl 1 rfl) ?_
  refine va_get (D := D) (ci := 8) (v := .ref (a 77)) (C := RX8) (T := TX8) (N := 11) hx hb ht inX8 hown hK hP 71 CW_71 rfl 8 (by decide) (ht (.fieldLink RX8 27 "CloneVolumes$State" "values" "[I") fl_X8_27) (fun _ h9 => h9) rfl eX8_become_93.2.2.2.2.1 ?_
  refine lv_iconst (v := 0) hx hb eX8_become_93.2.2.2.2.2.1 (by decide) ?_
  refine lv_aload_n hx hb eX8_become_93.2.2.2.2.2.2.1 rfl (lv_at hl 0 rfl) ?_
  refine va_get (D := D) (ci := 8) (v := .ref (a 59)) (C := RX8) (T := TX8) (N := 11) hx hb ht inX8 hown hK hP 53 CW_53 rfl 8 (by decide) (ht (.fieldLink RX8 27 "CloneVolumes$State" "values" "[I") fl_X8_27) (fun _ h9 => h9) rfl eX8_become_93.2.2.2.2.2.2.2 ?_
  refine lv_iconst (v := 0) hx hb eX8_become_109.1 (by decide) ?_
  refine lv_sipush (v := 288) hx hb eX8_become_109.2.1 (by decide) ?_
  obtain ⟨hc14, h⟩ := cpg_e h
  refine ya_copyi (sp := 0) (dp := 0) (n := 288) hx hb (by rw [hml]; exact hl.1.symm) hown (ht _ ml_X8_51) (ht _ na_cpy) (ht _ st_cpy) (ht _ in_sys) hK hP (hDD _) hS 77 59 CW_77 CW_59 (by decide) (by decide) hc14 (Nat.le_of_ble_eq_true rfl) (Nat.le_of_ble_eq_true rfl) eX8_become_109.2.2.1 (CW_w59 _) (fun H locs hP hS => ?_)
  obtain ⟨s15, hs15, h⟩ := st_e h
  rw [hs15] at hP
  refine lv_aload_n hx hb eX8_become_109.2.2.2.1 rfl (lv_at hl 1 rfl) ?_
  refine va_get (D := D) (ci := 8) (v := .ref (a 78)) (C := RX8) (T := TX8) (N := 11) hx hb ht inX8 hown hK hP 71 CW_71 rfl 9 (by decide) (ht (.fieldLink RX8 30 "CloneVolumes$State" "roots" "[I") fl_X8_30) (fun _ h9 => h9) rfl eX8_become_109.2.2.2.2.1 ?_
  refine lv_iconst (v := 0) hx hb eX8_become_109.2.2.2.2.2.1 (by decide) ?_
  refine lv_aload_n hx hb eX8_become_109.2.2.2.2.2.2.1 rfl (lv_at hl 0 rfl) ?_
  refine va_get (D := D) (ci := 8) (v := .ref (a 60)) (C := RX8) (T := TX8) (N := 11) hx hb ht inX8 hown hK hP 53 CW_53 rfl 9 (by decide) (ht (.fieldLink RX8 30 "CloneVolumes$State" "roots" "[I") fl_X8_30) (fun _ h9 => h9) rfl eX8_become_109.2.2.2.2.2.2.2 ?_
  refine lv_iconst (v := 0) hx hb eX8_become_125.1 (by decide) ?_
  refine lv_bipush (v := 8) hx hb eX8_become_125.2.1 (by decide) ?_
  obtain ⟨hc16, h⟩ := cpg_e h
  refine ya_copyi (sp := 0) (dp := 0) (n := 8) hx hb (by rw [hml]; exact hl.1.symm) hown (ht _ ml_X8_51) (ht _ na_cpy) (ht _ st_cpy) (ht _ in_sys) hK hP (hDD _) hS 78 60 CW_78 CW_60 (by decide) (by decide) hc16 (Nat.le_of_ble_eq_true rfl) (Nat.le_of_ble_eq_true rfl) eX8_become_125.2.2.1 (CW_w60 _) (fun H locs hP hS => ?_)
  obtain ⟨s17, hs17, h⟩ := st_e h
  rw [hs17] at hP
  refine lv_aload_n hx hb eX8_become_125.2.2.2.1 rfl (lv_at hl 1 rfl) ?_
  refine va_get (D := D) (ci := 8) (v := .ref (a 79)) (C := RX8) (T := TX8) (N := 11) hx hb ht inX8 hown hK hP 71 CW_71 rfl 10 (by decide) (ht (.fieldLink RX8 33 "CloneVolumes$State" "savedRoots" "[I") fl_X8_33) (fun _ h9 => h9) rfl eX8_become_125.2.2.2.2.1 ?_
  refine lv_iconst (v := 0) hx hb eX8_become_125.2.2.2.2.2.1 (by decide) ?_
  refine lv_aload_n hx hb eX8_become_125.2.2.2.2.2.2.1 rfl (lv_at hl 0 rfl) ?_
  refine va_get (D := D) (ci := 8) (v := .ref (a 61)) (C := RX8) (T := TX8) (N := 11) hx hb ht inX8 hown hK hP 53 CW_53 rfl 10 (by decide) (ht (.fieldLink RX8 33 "CloneVolumes$State" "savedRoots" "[I") fl_X8_33) (fun _ h9 => h9) rfl eX8_become_125.2.2.2.2.2.2.2 ?_
  refine lv_iconst (v := 0) hx hb eX8_become_140.1 (by decide) ?_
  refine lv_bipush (v := 8) hx hb eX8_become_140.2.1 (by decide) ?_
  obtain ⟨hc18, h⟩ := cpg_e h
  refine ya_copyi (sp := 0) (dp := 0) (n := 8) hx hb (by rw [hml]; exact hl.1.symm) hown (ht _ ml_X8_51) (ht _ na_cpy) (ht _ st_cpy) (ht _ in_sys) hK hP (hDD _) hS 79 61 CW_79 CW_61 (by decide) (by decide) hc18 (Nat.le_of_ble_eq_true rfl) (Nat.le_of_ble_eq_true rfl) eX8_become_140.2.2.1 (CW_w61 _) (fun H locs hP hS => ?_)
  obtain ⟨s19, hs19, h⟩ := st_e h
  rw [hs19] at hP
  obtain rfl := Option.some.inj h
  exact W.vret hx hb hr (fun t ht hW => ⟨⟨(), rfl, trivial, by rw [ht]; exact hP, va_K.moved hW.alike hK, hDD _⟩, hS.F ht⟩) hS.2.2 eX8_become_140.2.2.2.1
set_option maxHeartbeats 4000000 in
set_option maxRecDepth 100000 in
theorem k_x1_tryPlant (l : Launch) (D : va_G) (a : Nat → Nat) (p0 : Int) (p1 : Int) (p2 : Int) (sz : Nat) (s : MS) (o : (Int × MS)) (h : m_x1_tryPlant p0 p1 p2 s = some o) : yWi l yX1_tryPlant cX1_tryPlant 5 (some .boolean) { frames := 5, cells := 0, slots := 0, locals := 300 } D sz [.ref (a 49), .int (i2 p0), .int (i2 p1), .int (i2 p2)] (CS D a s) (CS D a o.2) (i2 o.1) := by
  refine Met.ofW (cc := cX1_tryPlant) (maxL := 5) (ret := (some .boolean)) (by decide) rfl ?_
  intro p e s₀ m args below meth c s₁ B hml hv
  obtain ⟨rfl, ⟨hsz, hP, hK, hD0⟩, hN⟩ := hv
  have hx := B.exec
  have hb := B.bytes
  have hr := B.returns
  have hts := atoms_spec (ws := wz yX1_tryPlant cX1_tryPlant 5 (some .boolean)) B.pre
  have ht : ∀ w ∈ lw_gd, w.before _ s₀ = true := fun w h => hts w (List.mem_cons_of_mem _ h)
  have hown : s₀.vm.findClass RX1 = some m.cls := findClass_of_methodNamed B.named
  have hlocks := B.notSynchronized
  subst hsz
  have hD := hD0.self (sz := s₀.heap.size)
  generalize hAe : va_A (CS D a s) s₀.heap.size = A at hD ⊢
  have hA : ∀ q : Nat, s₀.heap.size ≤ q → A q := fun q h => by rw [← hAe]; exact Or.inr h
  have hS : va_S A s₀.heap s₀.heap [] := va_S.rf
  have hDD : ∀ t : MS, va_D A (CS D a t) := fun t => CW_D t hD
  have hl := lv_entry ([.ref (a 49), .int (i2 p0), .int (i2 p1), .int (i2 p2)]) (n := 5) (Nat.le_of_ble_eq_true rfl)
  rw [lg_entry_eq]
  generalize (lg_sl ([.ref (a 49), .int (i2 p0), .int (i2 p1), .int (i2 p2)]) ++ List.replicate (5 - (lg_sl ([.ref (a 49), .int (i2 p0), .int (i2 p1), .int (i2 p2)])).length) Slot.unset).toArray = ls at hl ⊢
  have hl : lv_has ls 5 [(0, .ref (a 49)), (1, .int (i2 p0)), (2, .int (i2 p1)), (3, .int (i2 p2))] := hl
  unfold m_x1_tryPlant at h
  refine y_head (pcJ := 36) (σ := Int × MS) (fun u H locs ls => va_P D vwCl (CS D a u.2) H ∧ va_S A s₀.heap H locs ∧ lv_has ls 5 [(4, .int (i2 u.1))] ∧ m_x1_tryPlant_J36 u.1 u.2 = some o) (fun u => []) (fun u H locs ls hI => ?_) (fun J36 => ?_)
  · obtain ⟨hP, hS, hl, h⟩ := hI
    obtain ⟨x1, s2⟩ := u
    have hP : va_P D vwCl (CS D a s2) H := hP
    have hl : lv_has ls 5 [(4, .int (i2 x1))] := hl
    have h : m_x1_tryPlant_J36 x1 s2 = some o := h
    unfold m_x1_tryPlant_J36 at h
    refine lv_iload hx hb eX1_tryPlant_22.2.2.2.2.2.2.1 (lv_at hl 0 rfl) ?_
    obtain ⟨hb3, h⟩ := bo_e h
    obtain rfl := Option.some.inj h
    exact W.zret (v := (i2 x1)) hx hb hr (bo_n hb3) (fun t ht hW => ⟨⟨_, (), rfl, rfl, by rw [ht]; exact hP, va_K.moved hW.alike hK, hDD _⟩, hS.F ht⟩) hS.2.2 eX1_tryPlant_22.2.2.2.2.2.2.2
  refine lv_aload_n hx hb eX1_share_49.2.2.2.2.1 rfl (lv_at hl 0 rfl) ?_
  refine va_get (D := D) (ci := 1) (v := .ref (a 71)) (C := RX1) (T := TX1) (N := 9) hx hb ht inX1 hown hK hP 49 CW_49 rfl 2 (by decide) (ht (.fieldLink RX1 21 "CloneVolumes$Forest" "inner" "LCloneVolumes$State;") fl_X1_21) (fun _ h9 => h9) rfl eX1_share_49.2.2.2.2.2.1 ?_
  refine lv_aload_n hx hb eX1_share_49.2.2.2.2.2.2.1 rfl (lv_at hl 0 rfl) ?_
  refine va_get (D := D) (ci := 1) (v := .ref (a 53)) (C := RX1) (T := TX1) (N := 9) hx hb ht inX1 hown hK hP 49 CW_49 rfl 0 (by decide) (ht (.fieldLink RX1 12 "CloneVolumes$Forest" "now" "LCloneVolumes$State;") fl_X1_12) (fun _ h9 => h9) rfl eX1_share_49.2.2.2.2.2.2.2 ?_
  obtain ⟨s5, hc4, h⟩ := bn_e h
  refine ywVv (As := [.ref (a 53)]) (rest := []) (C := RX8) (n := 1) (ws' := CS D a s5) ⟨hx, hb, hml, hown, ht⟩ (k_x8_become_v3 l D a _ _ _ hc4) (zgV ml_X1_100 im_X8_become se_X8_become in_X8 co_X8_become) rfl rfl (by decide +kernel) ⟨Nat.le_of_ble_eq_true rfl, Nat.le_of_ble_eq_true rfl⟩ hN hK hP (hDD _) hS hA 71 CW_71 rfl rfl rfl hl.1 rfl (Nat.le_of_ble_eq_true rfl) eX1_tryPlant_8.1 ⟨Nat.le_of_ble_eq_true rfl, Nat.le_of_ble_eq_true rfl⟩ (fun H locs hP hS => ?_)
  refine lv_aload_n hx hb eX1_tryPlant_8.2.1 rfl (lv_at hl 0 rfl) ?_
  refine lv_iload_n hx hb eX1_tryPlant_8.2.2.1 rfl (lv_at hl 1 rfl) ?_
  refine lv_iload_n hx hb eX1_tryPlant_8.2.2.2.1 rfl (lv_at hl 2 rfl) ?_
  refine lv_iload_n hx hb eX1_tryPlant_8.2.2.2.2.1 rfl (lv_at hl 3 rfl) ?_
  obtain ⟨⟨r8, s7⟩, hc6, h⟩ := bn_e h
  refine ywV (r0 := i2 r8) (As := [.int (i2 p0), .int (i2 p1), .int (i2 p2)]) (rest := []) (C := RX1) (n := 3) (ws' := CS D a s7) ⟨hx, hb, hml, hown, ht⟩ (k_x1_plant l D a p0 p1 p2 _ _ _ hc6) (zgV ml_X1_141 im_X1_plant se_X1_plant in_X1 co_X1_plant) rfl rfl (by decide +kernel) ⟨Nat.le_of_ble_eq_true rfl, Nat.le_of_ble_eq_true rfl⟩ hN hK hP (hDD _) hS hA 49 CW_49 rfl rfl rfl hl.1 rfl (Nat.le_of_ble_eq_true rfl) eX1_tryPlant_8.2.2.2.2.2.1 ⟨Nat.le_of_ble_eq_true rfl, Nat.le_of_ble_eq_true rfl⟩ (fun H locs hP hS => ?_)
  refine lv_istore (lv' := [(4, .int (i2 r8)), (0, .ref (a 49)), (1, .int (i2 p0)), (2, .int (i2 p1)), (3, .int (i2 p2))]) hx hb eX1_tryPlant_8.2.2.2.2.2.2.1 hl (by decide) rfl (fun ls hl => ?_)
  refine lv_iload hx hb eX1_tryPlant_8.2.2.2.2.2.2.2 (lv_at hl 0 rfl) ?_
  obtain ⟨hr9, h⟩ := rg_e h
  refine lv_if_ne (tgt := 36) hx hb eX1_tryPlant_22.1 (by decide) (fun c10 => ?_) (fun c10 => ?_)
  · have h := if_f (mt (i2_eq (x := r8) (y := 0) hr9 (by decide)).mpr c10) h
    exact J36 (r8, s7) _ _ _ ⟨hP, hS, lv_sub hl [0] rfl, h⟩
  · have h := if_t ((i2_eq (x := r8) (y := 0) hr9 (by decide)).mp c10) h
    refine lv_aload_n hx hb eX1_tryPlant_22.2.1 rfl (lv_at hl 1 rfl) ?_
    refine va_get (D := D) (ci := 1) (v := .ref (a 53)) (C := RX1) (T := TX1) (N := 9) hx hb ht inX1 hown hK hP 49 CW_49 rfl 0 (by decide) (ht (.fieldLink RX1 12 "CloneVolumes$Forest" "now" "LCloneVolumes$State;") fl_X1_12) (fun _ h9 => h9) rfl eX1_tryPlant_22.2.2.1 ?_
    refine lv_aload_n hx hb eX1_tryPlant_22.2.2.2.1 rfl (lv_at hl 1 rfl) ?_
    refine va_get (D := D) (ci := 1) (v := .ref (a 71)) (C := RX1) (T := TX1) (N := 9) hx hb ht inX1 hown hK hP 49 CW_49 rfl 2 (by decide) (ht (.fieldLink RX1 21 "CloneVolumes$Forest" "inner" "LCloneVolumes$State;") fl_X1_21) (fun _ h9 => h9) rfl eX1_tryPlant_22.2.2.2.2.1 ?_
    obtain ⟨s12, hc11, h⟩ := bn_e h
    refine ywVv (As := [.ref (a 71)]) (rest := []) (C := RX8) (n := 1) (ws' := CS D a s12) ⟨hx, hb, hml, hown, ht⟩ (k_x8_become_v4 l D a _ _ _ hc11) (zgV ml_X1_100 im_X8_become se_X8_become in_X8 co_X8_become) rfl rfl (by decide +kernel) ⟨Nat.le_of_ble_eq_true rfl, Nat.le_of_ble_eq_true rfl⟩ hN hK hP (hDD _) hS hA 53 CW_53 rfl rfl rfl hl.1 rfl (Nat.le_of_ble_eq_true rfl) eX1_tryPlant_22.2.2.2.2.2.1 ⟨Nat.le_of_ble_eq_true rfl, Nat.le_of_ble_eq_true rfl⟩ (fun H locs hP hS => ?_)
    exact J36 (r8, s12) _ _ _ ⟨hP, hS, lv_sub hl [0] rfl, h⟩
set_option maxHeartbeats 4000000 in
set_option maxRecDepth 100000 in
theorem k_x8_delete (l : Launch) (D : va_G) (a : Nat → Nat) (p0 : Int) (p1 : Int) (sz : Nat) (s : MS) (o : MS) (h : m_x8_delete p0 p1 s = some o) : yWv l yX8_delete cX8_delete 5 none { frames := 1, cells := 0, slots := 0, locals := 60 } D sz [.ref (a 53), .int (i2 p0), .int (i2 p1)] (CS D a s) (CS D a o) := by
  refine Met.ofW (cc := cX8_delete) (maxL := 5) (ret := none) (by decide) rfl ?_
  intro p e s₀ m args below meth c s₁ B hml hv
  obtain ⟨rfl, ⟨hsz, hP, hK, hD0⟩, hN⟩ := hv
  have hx := B.exec
  have hb := B.bytes
  have hr := B.returns
  have hts := atoms_spec (ws := wz yX8_delete cX8_delete 5 none) B.pre
  have ht : ∀ w ∈ lw_gd, w.before _ s₀ = true := fun w h => hts w (List.mem_cons_of_mem _ h)
  have hown : s₀.vm.findClass RX8 = some m.cls := findClass_of_methodNamed B.named
  have hlocks := B.notSynchronized
  subst hsz
  have hD := hD0.self (sz := s₀.heap.size)
  generalize hAe : va_A (CS D a s) s₀.heap.size = A at hD ⊢
  have hA : ∀ q : Nat, s₀.heap.size ≤ q → A q := fun q h => by rw [← hAe]; exact Or.inr h
  have hS : va_S A s₀.heap s₀.heap [] := va_S.rf
  have hDD : ∀ t : MS, va_D A (CS D a t) := fun t => CW_D t hD
  have hl := lv_entry ([.ref (a 53), .int (i2 p0), .int (i2 p1)]) (n := 5) (Nat.le_of_ble_eq_true rfl)
  rw [lg_entry_eq]
  generalize (lg_sl ([.ref (a 53), .int (i2 p0), .int (i2 p1)]) ++ List.replicate (5 - (lg_sl ([.ref (a 53), .int (i2 p0), .int (i2 p1)])).length) Slot.unset).toArray = ls at hl ⊢
  have hl : lv_has ls 5 [(0, .ref (a 53)), (1, .int (i2 p0)), (2, .int (i2 p1))] := hl
  unfold m_x8_delete at h
  refine y_loop (pcJ := 45) (σ := Int × Int × Int × MS) (fun n u H locs ls => va_P D vwCl (CS D a u.2.2.2) H ∧ va_S A s₀.heap H locs ∧ lv_has ls 5 [(0, .ref (a 53)), (1, .int (i2 u.1)), (3, .int (i2 u.2.1)), (4, .int (i2 u.2.2.1))] ∧ m_x8_delete_L45 n u.1 u.2.1 u.2.2.1 u.2.2.2 = some o) (fun u => []) (fun u H locs ls hI => by obtain ⟨_, _, _, h⟩ := hI; cases h) (fun n45 ih45 u H locs ls hI => ?_) (fun J45 => ?_)
  · obtain ⟨hP, hS, hl, h⟩ := hI
    obtain ⟨x1, x2, x3, s4⟩ := u
    have hP : va_P D vwCl (CS D a s4) H := hP
    have hl : lv_has ls 5 [(0, .ref (a 53)), (1, .int (i2 x1)), (3, .int (i2 x2)), (4, .int (i2 x3))] := hl
    have h : m_x8_delete_b45 (m_x8_delete_L45 n45) x1 x2 x3 s4 = some o := h
    unfold m_x8_delete_b45 at h
    refine lv_iload hx hb eX8_delete_45.1 (lv_at hl 3 rfl) ?_
    refine lv_iload_n hx hb eX8_delete_45.2.1 rfl (lv_at hl 2 rfl) ?_
    obtain ⟨hr5, h⟩ := rg_e h
    obtain ⟨hr6, h⟩ := rg_e h
    refine lv_icmp_ge (tgt := 89) hx hb eX8_delete_45.2.2.1 (by decide) (fun c7 => ?_) (fun c7 => ?_)
    · have h := if_t ((i2_le (x := x2) (y := x3) hr6 hr5).mp c7) h
      refine lv_aload_n hx hb eX8_delete_86.2.1 rfl (lv_at hl 0 rfl) ?_
      refine lv_iload_n hx hb eX8_delete_86.2.2.1 rfl (lv_at hl 1 rfl) ?_
      obtain ⟨s9, hc8, h⟩ := bn_e h
      refine ywVv (As := [.int (i2 x1)]) (rest := []) (C := RX8) (n := 1) (ws' := CS D a s9) ⟨hx, hb, hml, hown, ht⟩ (k_x8_mark l D a x1 _ _ _ hc8) (zgV ml_X8_86 im_X8_mark se_X8_mark in_X8 co_X8_mark) rfl rfl (by decide +kernel) ⟨Nat.le_of_ble_eq_true rfl, Nat.le_of_ble_eq_true rfl⟩ hN hK hP (hDD _) hS hA 53 CW_53 rfl rfl rfl hl.1 rfl (Nat.le_of_ble_eq_true rfl) eX8_delete_86.2.2.2.1 ⟨Nat.le_of_ble_eq_true rfl, Nat.le_of_ble_eq_true rfl⟩ (fun H locs hP hS => ?_)
      obtain rfl := Option.some.inj h
      exact W.vret hx hb hr (fun t ht hW => ⟨⟨(), rfl, trivial, by rw [ht]; exact hP, va_K.moved hW.alike hK, hDD _⟩, hS.F ht⟩) hS.2.2 eX8_delete_86.2.2.2.2.1
    · have h := if_f (mt (i2_le (x := x2) (y := x3) hr6 hr5).mpr c7) h
      refine lv_aload_n hx hb eX8_delete_45.2.2.2.1 rfl (lv_at hl 0 rfl) ?_
      refine va_get (D := D) (ci := 8) (v := .ref (a 58)) (C := RX8) (T := TX8) (N := 11) hx hb ht inX8 hown hK hP 53 CW_53 rfl 7 (by decide) (ht (.fieldLink RX8 24 "CloneVolumes$State" "keys" "[I") fl_X8_24) (fun _ h9 => h9) rfl eX8_delete_45.2.2.2.2.1 ?_
      refine lv_iload hx hb eX8_delete_45.2.2.2.2.2.1 (lv_at hl 3 rfl) ?_
      refine lv_aload_n hx hb eX8_delete_45.2.2.2.2.2.2.1 rfl (lv_at hl 0 rfl) ?_
      refine va_get (D := D) (ci := 8) (v := .ref (a 58)) (C := RX8) (T := TX8) (N := 11) hx hb ht inX8 hown hK hP 53 CW_53 rfl 7 (by decide) (ht (.fieldLink RX8 24 "CloneVolumes$State" "keys" "[I") fl_X8_24) (fun _ h9 => h9) rfl eX8_delete_45.2.2.2.2.2.2.2 ?_
      refine lv_iload hx hb eX8_delete_61.1 (lv_at hl 3 rfl) ?_
      refine lv_iconst (v := 1) hx hb eX8_delete_61.2.1 (by decide) ?_
      refine lv_iadd hx hb eX8_delete_61.2.2.1 ?_
      refine z_topi (y := i2 (x3 + 1)) (i2_add x3 1) ?_
      obtain ⟨y10, ey10, iy10, h⟩ := rdI_e h
      refine ya_iald (i := (x3 + 1)) hx hb hK hP 58 0 CW_58 rfl (by decide) ey10 iy10 eX8_delete_61.2.2.2.1 ?_
      obtain ⟨hi11, h⟩ := inb_e h
      refine ya_iast (i := x3) (x := y10) hx hb hK hP (hDD _) hS 58 0 CW_58 rfl (by decide) hi11 eX8_delete_61.2.2.2.2.1 (CW_w58 _) (fun H locs hP hS => ?_)
      obtain ⟨s12, hs12, h⟩ := st_e h
      rw [hs12] at hP
      refine lv_aload_n hx hb eX8_delete_61.2.2.2.2.2.1 rfl (lv_at hl 0 rfl) ?_
      refine va_get (D := D) (ci := 8) (v := .ref (a 59)) (C := RX8) (T := TX8) (N := 11) hx hb ht inX8 hown hK hP 53 CW_53 rfl 8 (by decide) (ht (.fieldLink RX8 27 "CloneVolumes$State" "values" "[I") fl_X8_27) (fun _ h9 => h9) rfl eX8_delete_61.2.2.2.2.2.2.1 ?_
      refine lv_iload hx hb eX8_delete_61.2.2.2.2.2.2.2 (lv_at hl 3 rfl) ?_
      refine lv_aload_n hx hb eX8_delete_73.1 rfl (lv_at hl 0 rfl) ?_
      refine va_get (D := D) (ci := 8) (v := .ref (a 59)) (C := RX8) (T := TX8) (N := 11) hx hb ht inX8 hown hK hP 53 CW_53 rfl 8 (by decide) (ht (.fieldLink RX8 27 "CloneVolumes$State" "values" "[I") fl_X8_27) (fun _ h9 => h9) rfl eX8_delete_73.2.1 ?_
      refine lv_iload hx hb eX8_delete_73.2.2.1 (lv_at hl 3 rfl) ?_
      refine lv_iconst (v := 1) hx hb eX8_delete_73.2.2.2.1 (by decide) ?_
      refine lv_iadd hx hb eX8_delete_73.2.2.2.2.1 ?_
      refine z_topi (y := i2 (x3 + 1)) (i2_add x3 1) ?_
      obtain ⟨y13, ey13, iy13, h⟩ := rdI_e h
      refine ya_iald (i := (x3 + 1)) hx hb hK hP 59 0 CW_59 rfl (by decide) ey13 iy13 eX8_delete_73.2.2.2.2.2.1 ?_
      obtain ⟨hi14, h⟩ := inb_e h
      refine ya_iast (i := x3) (x := y13) hx hb hK hP (hDD _) hS 59 0 CW_59 rfl (by decide) hi14 eX8_delete_73.2.2.2.2.2.2.1 (CW_w59 _) (fun H locs hP hS => ?_)
      obtain ⟨s15, hs15, h⟩ := st_e h
      rw [hs15] at hP
      refine lv_iinc (v := i2 (x3 + 1)) (lv' := [(4, .int (i2 (x3 + 1))), (0, .ref (a 53)), (1, .int (i2 x1)), (3, .int (i2 x2))]) hx hb eX8_delete_73.2.2.2.2.2.2.2 hl (k := 3) rfl (i2_add x3 1) (by decide) rfl (fun ls hl => ?_)
      refine lv_goto (tgt := 45) hx hb eX8_delete_86.1 (by decide) ?_
      exact ih45 (x1, x2, x3 + 1, s15) _ _ _ ⟨hP, hS, lv_sub hl [1, 2, 3, 0] rfl, h⟩
  refine y_head (pcJ := 14) (σ := MS) (fun u H locs ls => va_P D vwCl (CS D a u) H ∧ va_S A s₀.heap H locs ∧ lv_has ls 5 [] ∧ m_x8_delete_J14 u = some o) (fun u => []) (fun u H locs ls hI => ?_) (fun J14 => ?_)
  · obtain ⟨hP, hS, hl, h⟩ := hI
    obtain ⟨s16, rfl⟩ : ∃ z, z = u := ⟨u, rfl⟩
    have hP : va_P D vwCl (CS D a s16) H := hP
    have hl : lv_has ls 5 [] := hl
    have h : m_x8_delete_J14 s16 = some o := h
    unfold m_x8_delete_J14 at h
    obtain rfl := Option.some.inj h
    exact W.vret hx hb hr (fun t ht hW => ⟨⟨(), rfl, trivial, by rw [ht]; exact hP, va_K.moved hW.alike hK, hDD _⟩, hS.F ht⟩) hS.2.2 eX8_delete_10.2.2.1
  refine lv_iload_n hx hb eX1_uproot_150.2.2.1 rfl (lv_at hl 2 rfl) ?_
  obtain ⟨hr17, h⟩ := rg_e h
  refine lv_if_lt (tgt := 14) hx hb eX1_uproot_150.2.2.2.1 (by decide) (fun c18 => ?_) (fun c18 => ?_)
  · have h := if_t ((i2_lt (x := p1) (y := 0) hr17 (by decide)).mp c18) h
    exact J14 s _ _ _ ⟨hP, hS, lv_sub hl [] rfl, h⟩
  · have h := if_f (mt (i2_lt (x := p1) (y := 0) hr17 (by decide)).mpr c18) h
    refine lv_iload_n hx hb eX1_uproot_150.2.2.2.2.1 rfl (lv_at hl 2 rfl) ?_
    refine lv_aload_n hx hb eX1_uproot_150.2.2.2.2.2.1 rfl (lv_at hl 0 rfl) ?_
    refine va_get (D := D) (ci := 8) (v := .ref (a 57)) (C := RX8) (T := TX8) (N := 11) hx hb ht inX8 hown hK hP 53 CW_53 rfl 6 (by decide) (ht (.fieldLink RX8 21 "CloneVolumes$State" "size" "[I") fl_X8_21) (fun _ h9 => h9) rfl eX1_uproot_150.2.2.2.2.2.2.1 ?_
    refine lv_iload_n hx hb eX1_uproot_150.2.2.2.2.2.2.2 rfl (lv_at hl 1 rfl) ?_
    obtain ⟨y19, ey19, iy19, h⟩ := rdI_e h
    refine ya_iald (i := p0) hx hb hK hP 57 0 CW_57 rfl (by decide) ey19 iy19 eX8_delete_10.1 ?_
    obtain ⟨hr20, h⟩ := rg_e h
    obtain ⟨hr21, h⟩ := rg_e h
    refine lv_icmp_lt (tgt := 15) hx hb eX8_delete_10.2.1 (by decide) (fun c22 => ?_) (fun c22 => ?_)
    · have h := if_t ((i2_lt (x := p1) (y := y19) hr20 hr21).mp c22) h
      refine lv_aload_n hx hb eX8_delete_10.2.2.2.1 rfl (lv_at hl 0 rfl) ?_
      refine va_get (D := D) (ci := 8) (v := .ref (a 57)) (C := RX8) (T := TX8) (N := 11) hx hb ht inX8 hown hK hP 53 CW_53 rfl 6 (by decide) (ht (.fieldLink RX8 21 "CloneVolumes$State" "size" "[I") fl_X8_21) (fun _ h9 => h9) rfl eX8_delete_10.2.2.2.2.1 ?_
      refine lv_iload_n hx hb eX8_delete_10.2.2.2.2.2.1 rfl (lv_at hl 1 rfl) ?_
      refine lv_dup2_11 hx hb eX8_delete_10.2.2.2.2.2.2.1 rfl rfl ?_
      obtain ⟨y23, ey23, iy23, h⟩ := rdI_e h
      refine ya_iald (i := p0) hx hb hK hP 57 0 CW_57 rfl (by decide) ey23 iy23 eX8_delete_10.2.2.2.2.2.2.2 ?_
      refine lv_iconst (v := 1) hx hb eX8_delete_22.1 (by decide) ?_
      refine lv_isub hx hb eX8_delete_22.2.1 ?_
      refine z_topi (y := i2 (y23 - 1)) (i2_sub y23 1) ?_
      obtain ⟨hi24, h⟩ := inb_e h
      refine ya_iast (i := p0) (x := (y23 - 1)) hx hb hK hP (hDD _) hS 57 0 CW_57 rfl (by decide) hi24 eX8_delete_22.2.2.1 (CW_w57 _) (fun H locs hP hS => ?_)
      obtain ⟨s25, hs25, h⟩ := st_e h
      rw [hs25] at hP
      refine lv_aload_n hx hb eX8_delete_22.2.2.2.1 rfl (lv_at hl 0 rfl) ?_
      refine lv_iload_n hx hb eX8_delete_22.2.2.2.2.1 rfl (lv_at hl 1 rfl) ?_
      refine lv_aload_n hx hb eX8_delete_22.2.2.2.2.2.1 rfl (lv_at hl 0 rfl) ?_
      refine va_get (D := D) (ci := 8) (v := .ref (a 57)) (C := RX8) (T := TX8) (N := 11) hx hb ht inX8 hown hK hP 53 CW_53 rfl 6 (by decide) (ht (.fieldLink RX8 21 "CloneVolumes$State" "size" "[I") fl_X8_21) (fun _ h9 => h9) rfl eX8_delete_22.2.2.2.2.2.2.1 ?_
      refine lv_iload_n hx hb eX8_delete_22.2.2.2.2.2.2.2 rfl (lv_at hl 1 rfl) ?_
      obtain ⟨y26, ey26, iy26, h⟩ := rdI_e h
      refine ya_iald (i := p0) hx hb hK hP 57 0 CW_57 rfl (by decide) ey26 iy26 eX8_delete_32.1 ?_
      obtain ⟨r28, hc27, h⟩ := bn_e h
      refine ycV (r0 := i2 r28) (As := [.int (i2 p0), .int (i2 y26)]) (rest := []) (C := RX8) (n := 2) ⟨hx, hb, hml, hown, ht⟩ (k_x8_slot l D a p0 y26 _ _ hc27) (zgV ml_X8_73 im_X8_slot se_X8_slot in_X8 co_X8_slot) rfl rfl (by decide +kernel) ⟨Nat.le_of_ble_eq_true rfl, Nat.le_of_ble_eq_true rfl⟩ hN hK hP hS 53 CW_53 rfl rfl rfl hl.1 rfl (Nat.le_of_ble_eq_true rfl) eX8_delete_32.2.1 ⟨Nat.le_of_ble_eq_true rfl, Nat.le_of_ble_eq_true rfl⟩ (fun H locs hP hS => ?_)
      refine lv_istore_n (lv' := [(3, .int (i2 r28)), (0, .ref (a 53)), (1, .int (i2 p0)), (2, .int (i2 p1))]) hx hb eX8_delete_32.2.2.1 rfl hl (by decide) rfl (fun ls hl => ?_)
      refine lv_aload_n hx hb eX8_delete_32.2.2.2.1 rfl (lv_at hl 1 rfl) ?_
      refine lv_iload_n hx hb eX8_delete_32.2.2.2.2.1 rfl (lv_at hl 2 rfl) ?_
      refine lv_iload_n hx hb eX8_delete_32.2.2.2.2.2.1 rfl (lv_at hl 3 rfl) ?_
      obtain ⟨r30, hc29, h⟩ := bn_e h
      refine ycV (r0 := i2 r30) (As := [.int (i2 p0), .int (i2 p1)]) (rest := []) (C := RX8) (n := 2) ⟨hx, hb, hml, hown, ht⟩ (k_x8_slot l D a p0 p1 _ _ hc29) (zgV ml_X8_73 im_X8_slot se_X8_slot in_X8 co_X8_slot) rfl rfl (by decide +kernel) ⟨Nat.le_of_ble_eq_true rfl, Nat.le_of_ble_eq_true rfl⟩ hN hK hP hS 53 CW_53 rfl rfl rfl hl.1 rfl (Nat.le_of_ble_eq_true rfl) eX8_delete_32.2.2.2.2.2.2.1 ⟨Nat.le_of_ble_eq_true rfl, Nat.le_of_ble_eq_true rfl⟩ (fun H locs hP hS => ?_)
      refine lv_istore (lv' := [(4, .int (i2 r30)), (3, .int (i2 r28)), (0, .ref (a 53)), (1, .int (i2 p0)), (2, .int (i2 p1))]) hx hb eX8_delete_32.2.2.2.2.2.2.2 hl (by decide) rfl (fun ls hl => ?_)
      exact J45 FU (p0, r28, r30, s25) _ _ _ ⟨hP, hS, lv_sub hl [2, 3, 1, 0] rfl, h⟩
    · have h := if_f (mt (i2_lt (x := p1) (y := y19) hr20 hr21).mpr c22) h
      exact J14 s _ _ _ ⟨hP, hS, lv_sub hl [] rfl, h⟩
set_option maxHeartbeats 4000000 in
set_option maxRecDepth 100000 in
theorem k_x1_prune (l : Launch) (D : va_G) (a : Nat → Nat) (p0 : Int) (p1 : Int) (p2 : Int) (sz : Nat) (s : MS) (o : MS) (h : m_x1_prune p0 p1 p2 s = some o) : yWv l yX1_prune cX1_prune 5 none { frames := 2, cells := 0, slots := 0, locals := 120 } D sz [.ref (a 49), .int (i2 p0), .int (i2 p1), .int (i2 p2)] (CS D a s) (CS D a o) := by
  refine Met.ofW (cc := cX1_prune) (maxL := 5) (ret := none) (by decide) rfl ?_
  intro p e s₀ m args below meth c s₁ B hml hv
  obtain ⟨rfl, ⟨hsz, hP, hK, hD0⟩, hN⟩ := hv
  have hx := B.exec
  have hb := B.bytes
  have hr := B.returns
  have hts := atoms_spec (ws := wz yX1_prune cX1_prune 5 none) B.pre
  have ht : ∀ w ∈ lw_gd, w.before _ s₀ = true := fun w h => hts w (List.mem_cons_of_mem _ h)
  have hown : s₀.vm.findClass RX1 = some m.cls := findClass_of_methodNamed B.named
  have hlocks := B.notSynchronized
  subst hsz
  have hD := hD0.self (sz := s₀.heap.size)
  generalize hAe : va_A (CS D a s) s₀.heap.size = A at hD ⊢
  have hA : ∀ q : Nat, s₀.heap.size ≤ q → A q := fun q h => by rw [← hAe]; exact Or.inr h
  have hS : va_S A s₀.heap s₀.heap [] := va_S.rf
  have hDD : ∀ t : MS, va_D A (CS D a t) := fun t => CW_D t hD
  have hl := lv_entry ([.ref (a 49), .int (i2 p0), .int (i2 p1), .int (i2 p2)]) (n := 5) (Nat.le_of_ble_eq_true rfl)
  rw [lg_entry_eq]
  generalize (lg_sl ([.ref (a 49), .int (i2 p0), .int (i2 p1), .int (i2 p2)]) ++ List.replicate (5 - (lg_sl ([.ref (a 49), .int (i2 p0), .int (i2 p1), .int (i2 p2)])).length) Slot.unset).toArray = ls at hl ⊢
  have hl : lv_has ls 5 [(0, .ref (a 49)), (1, .int (i2 p0)), (2, .int (i2 p1)), (3, .int (i2 p2))] := hl
  unfold m_x1_prune at h
  refine y_head (pcJ := 186) (σ := MS) (fun u H locs ls => va_P D vwCl (CS D a u) H ∧ va_S A s₀.heap H locs ∧ lv_has ls 5 [] ∧ m_x1_prune_J186 u = some o) (fun u => []) (fun u H locs ls hI => ?_) (fun J186 => ?_)
  · obtain ⟨hP, hS, hl, h⟩ := hI
    obtain ⟨s1, rfl⟩ : ∃ z, z = u := ⟨u, rfl⟩
    have hP : va_P D vwCl (CS D a s1) H := hP
    have hl : lv_has ls 5 [] := hl
    have h : m_x1_prune_J186 s1 = some o := h
    unfold m_x1_prune_J186 at h
    obtain rfl := Option.some.inj h
    exact W.vret hx hb hr (fun t ht hW => ⟨⟨(), rfl, trivial, by rw [ht]; exact hP, va_K.moved hW.alike hK, hDD _⟩, hS.F ht⟩) hS.2.2 eX1_prune_178.2.2.2.2.1
  refine y_loop (pcJ := 98) (σ := Int × Int × MS) (fun n u H locs ls => va_P D vwCl (CS D a u.2.2) H ∧ va_S A s₀.heap H locs ∧ lv_has ls 5 [(0, .ref (a 49)), (1, .int (i2 u.1)), (4, .int (i2 u.2.1))] ∧ m_x1_prune_L98 n u.1 u.2.1 u.2.2 = some o) (fun u => []) (fun u H locs ls hI => by obtain ⟨_, _, _, h⟩ := hI; cases h) (fun n98 ih98 u H locs ls hI => ?_) (fun J98 => ?_)
  · obtain ⟨hP, hS, hl, h⟩ := hI
    obtain ⟨x2, x3, s4⟩ := u
    have hP : va_P D vwCl (CS D a s4) H := hP
    have hl : lv_has ls 5 [(0, .ref (a 49)), (1, .int (i2 x2)), (4, .int (i2 x3))] := hl
    have h : m_x1_prune_b98 (m_x1_prune_L98 n98) x2 x3 s4 = some o := h
    unfold m_x1_prune_b98 at h
    refine y_head (pcJ := 180) (σ := Int × Int × MS) (fun u H locs ls => va_P D vwCl (CS D a u.2.2) H ∧ va_S A s₀.heap H locs ∧ lv_has ls 5 [(0, .ref (a 49)), (1, .int (i2 u.1)), (4, .int (i2 u.2.1))] ∧ m_x1_prune_J180 (m_x1_prune_L98 n98) u.1 u.2.1 u.2.2 = some o) (fun u => []) (fun u H locs ls hI => ?_) (fun J180 => ?_)
    · obtain ⟨hP, hS, hl, h⟩ := hI
      obtain ⟨x5, x6, s7⟩ := u
      have hP : va_P D vwCl (CS D a s7) H := hP
      have hl : lv_has ls 5 [(0, .ref (a 49)), (1, .int (i2 x5)), (4, .int (i2 x6))] := hl
      have h : m_x1_prune_J180 (m_x1_prune_L98 n98) x5 x6 s7 = some o := h
      unfold m_x1_prune_J180 at h
      refine lv_iinc (v := i2 (x6 + (-1))) (lv' := [(4, .int (i2 (x6 + (-1)))), (0, .ref (a 49)), (1, .int (i2 x5))]) hx hb eX1_prune_178.2.2.1 hl (k := 2) rfl (i2_add x6 (-1)) (by decide) rfl (fun ls hl => ?_)
      refine lv_goto (tgt := 98) hx hb eX1_prune_178.2.2.2.1 (by decide) ?_
      exact ih98 (x5, x6 + (-1), s7) _ _ _ ⟨hP, hS, lv_sub hl [1, 2, 0] rfl, h⟩
    refine lv_iload hx hb eX1_prune_87.2.2.2.2.2.2.1 (lv_at hl 2 rfl) ?_
    obtain ⟨hr8, h⟩ := rg_e h
    refine lv_if_lt (tgt := 186) hx hb eX1_prune_87.2.2.2.2.2.2.2 (by decide) (fun c9 => ?_) (fun c9 => ?_)
    · have h := if_t ((i2_lt (x := x3) (y := 0) hr8 (by decide)).mp c9) h
      exact J186 s4 _ _ _ ⟨hP, hS, lv_sub hl [] rfl, h⟩
    · have h := if_f (mt (i2_lt (x := x3) (y := 0) hr8 (by decide)).mpr c9) h
      refine lv_aload_n hx hb eX1_prune_103.1 rfl (lv_at hl 0 rfl) ?_
      refine va_get (D := D) (ci := 1) (v := .ref (a 53)) (C := RX1) (T := TX1) (N := 9) hx hb ht inX1 hown hK hP 49 CW_49 rfl 0 (by decide) (ht (.fieldLink RX1 12 "CloneVolumes$Forest" "now" "LCloneVolumes$State;") fl_X1_12) (fun _ h9 => h9) rfl eX1_prune_103.2.1 ?_
      refine va_get (D := D) (ci := 8) (v := .ref (a 57)) (C := RX8) (T := TX8) (N := 11) hx hb ht inX8 hown hK hP 53 CW_53 rfl 6 (by decide) (ht (.fieldLink RX1 155 "CloneVolumes$State" "size" "[I") fl_X1_155) (fun _ h9 => h9) rfl eX1_prune_103.2.2.1 ?_
      refine lv_aload_n hx hb eX1_prune_103.2.2.2.1 rfl (lv_at hl 0 rfl) ?_
      refine va_get (D := D) (ci := 1) (v := .ref (a 50)) (C := RX1) (T := TX1) (N := 9) hx hb ht inX1 hown hK hP 49 CW_49 rfl 6 (by decide) (ht (.fieldLink RX1 37 "CloneVolumes$Forest" "chain" "[I") fl_X1_37) (fun _ h9 => h9) rfl eX1_prune_103.2.2.2.2.1 ?_
      refine lv_iload hx hb eX1_prune_103.2.2.2.2.2.1 (lv_at hl 2 rfl) ?_
      obtain ⟨y10, ey10, iy10, h⟩ := rdI_e h
      refine ya_iald (i := x3) hx hb hK hP 50 0 CW_50 rfl (by decide) ey10 iy10 eX1_prune_103.2.2.2.2.2.2.1 ?_
      obtain ⟨y11, ey11, iy11, h⟩ := rdI_e h
      refine ya_iald (i := y10) hx hb hK hP 57 0 CW_57 rfl (by decide) ey11 iy11 eX1_prune_103.2.2.2.2.2.2.2 ?_
      obtain ⟨hr12, h⟩ := rg_e h
      refine lv_if_ne (tgt := 186) hx hb eX1_prune_118.1 (by decide) (fun c13 => ?_) (fun c13 => ?_)
      · have h := if_f (mt (i2_eq (x := y11) (y := 0) hr12 (by decide)).mpr c13) h
        exact J186 s4 _ _ _ ⟨hP, hS, lv_sub hl [] rfl, h⟩
      · have h := if_t ((i2_eq (x := y11) (y := 0) hr12 (by decide)).mp c13) h
        refine lv_aload_n hx hb eX1_prune_118.2.1 rfl (lv_at hl 0 rfl) ?_
        refine va_get (D := D) (ci := 1) (v := .ref (a 53)) (C := RX1) (T := TX1) (N := 9) hx hb ht inX1 hown hK hP 49 CW_49 rfl 0 (by decide) (ht (.fieldLink RX1 12 "CloneVolumes$Forest" "now" "LCloneVolumes$State;") fl_X1_12) (fun _ h9 => h9) rfl eX1_prune_118.2.2.1 ?_
        refine va_get (D := D) (ci := 8) (v := .ref (a 54)) (C := RX8) (T := TX8) (N := 11) hx hb ht inX8 hown hK hP 53 CW_53 rfl 3 (by decide) (ht (.fieldLink RX1 181 "CloneVolumes$State" "count" "[I") fl_X1_181) (fun _ h9 => h9) rfl eX1_prune_118.2.2.2.1 ?_
        refine lv_aload_n hx hb eX1_prune_118.2.2.2.2.1 rfl (lv_at hl 0 rfl) ?_
        refine va_get (D := D) (ci := 1) (v := .ref (a 50)) (C := RX1) (T := TX1) (N := 9) hx hb ht inX1 hown hK hP 49 CW_49 rfl 6 (by decide) (ht (.fieldLink RX1 37 "CloneVolumes$Forest" "chain" "[I") fl_X1_37) (fun _ h9 => h9) rfl eX1_prune_118.2.2.2.2.2.1 ?_
        refine lv_iload hx hb eX1_prune_118.2.2.2.2.2.2.1 (lv_at hl 2 rfl) ?_
        obtain ⟨y14, ey14, iy14, h⟩ := rdI_e h
        refine ya_iald (i := x3) hx hb hK hP 50 0 CW_50 rfl (by decide) ey14 iy14 eX1_prune_118.2.2.2.2.2.2.2 ?_
        refine lv_iconst (v := 0) hx hb eX1_prune_135.1 (by decide) ?_
        obtain ⟨hi15, h⟩ := inb_e h
        refine ya_iast (i := y14) (x := 0) hx hb hK hP (hDD _) hS 54 0 CW_54 rfl (by decide) hi15 eX1_prune_135.2.1 (CW_w54 _) (fun H locs hP hS => ?_)
        obtain ⟨s16, hs16, h⟩ := st_e h
        rw [hs16] at hP
        refine lv_iload hx hb eX1_prune_135.2.2.1 (lv_at hl 2 rfl) ?_
        obtain ⟨hr17, h⟩ := rg_e h
        refine lv_if_le (tgt := 170) hx hb eX1_prune_135.2.2.2.1 (by decide) (fun c18 => ?_) (fun c18 => ?_)
        · have h := if_t ((i2_le (x := x3) (y := 0) hr17 (by decide)).mp c18) h
          refine lv_aload_n hx hb eX1_prune_162.2.2.2.2.1 rfl (lv_at hl 0 rfl) ?_
          refine va_get (D := D) (ci := 1) (v := .ref (a 53)) (C := RX1) (T := TX1) (N := 9) hx hb ht inX1 hown hK hP 49 CW_49 rfl 0 (by decide) (ht (.fieldLink RX1 12 "CloneVolumes$Forest" "now" "LCloneVolumes$State;") fl_X1_12) (fun _ h9 => h9) rfl eX1_prune_162.2.2.2.2.2.1 ?_
          refine va_get (D := D) (ci := 8) (v := .ref (a 60)) (C := RX8) (T := TX8) (N := 11) hx hb ht inX8 hown hK hP 53 CW_53 rfl 9 (by decide) (ht (.fieldLink RX1 69 "CloneVolumes$State" "roots" "[I") fl_X1_69) (fun _ h9 => h9) rfl eX1_prune_162.2.2.2.2.2.2.1 ?_
          refine lv_iload_n hx hb eX1_prune_162.2.2.2.2.2.2.2 rfl (lv_at hl 1 rfl) ?_
          refine lv_iconst (v := (-1)) hx hb eX1_prune_178.1 (by decide) ?_
          obtain ⟨hi19, h⟩ := inb_e h
          refine ya_iast (i := x2) (x := (-1)) hx hb hK hP (hDD _) hS 60 0 CW_60 rfl (by decide) hi19 eX1_prune_178.2.1 (CW_w60 _) (fun H locs hP hS => ?_)
          obtain ⟨s20, hs20, h⟩ := st_e h
          rw [hs20] at hP
          exact J180 (x2, x3, s20) _ _ _ ⟨hP, hS, lv_sub hl [0, 1, 2] rfl, h⟩
        · have h := if_f (mt (i2_le (x := x3) (y := 0) hr17 (by decide)).mpr c18) h
          refine lv_aload_n hx hb eX1_prune_135.2.2.2.2.1 rfl (lv_at hl 0 rfl) ?_
          refine va_get (D := D) (ci := 1) (v := .ref (a 53)) (C := RX1) (T := TX1) (N := 9) hx hb ht inX1 hown hK hP 49 CW_49 rfl 0 (by decide) (ht (.fieldLink RX1 12 "CloneVolumes$Forest" "now" "LCloneVolumes$State;") fl_X1_12) (fun _ h9 => h9) rfl eX1_prune_135.2.2.2.2.2.1 ?_
          refine lv_aload_n hx hb eX1_prune_135.2.2.2.2.2.2.1 rfl (lv_at hl 0 rfl) ?_
          refine va_get (D := D) (ci := 1) (v := .ref (a 50)) (C := RX1) (T := TX1) (N := 9) hx hb ht inX1 hown hK hP 49 CW_49 rfl 6 (by decide) (ht (.fieldLink RX1 37 "CloneVolumes$Forest" "chain" "[I") fl_X1_37) (fun _ h9 => h9) rfl eX1_prune_135.2.2.2.2.2.2.2 ?_
          refine lv_iload hx hb eX1_prune_150.1 (lv_at hl 2 rfl) ?_
          refine lv_iconst (v := 1) hx hb eX1_prune_150.2.1 (by decide) ?_
          refine lv_isub hx hb eX1_prune_150.2.2.1 ?_
          refine z_topi (y := i2 (x3 - 1)) (i2_sub x3 1) ?_
          obtain ⟨y21, ey21, iy21, h⟩ := rdI_e h
          refine ya_iald (i := (x3 - 1)) hx hb hK hP 50 0 CW_50 rfl (by decide) ey21 iy21 eX1_prune_150.2.2.2.1 ?_
          refine lv_aload_n hx hb eX1_prune_150.2.2.2.2.1 rfl (lv_at hl 0 rfl) ?_
          refine va_get (D := D) (ci := 1) (v := .ref (a 51)) (C := RX1) (T := TX1) (N := 9) hx hb ht inX1 hown hK hP 49 CW_49 rfl 7 (by decide) (ht (.fieldLink RX1 41 "CloneVolumes$Forest" "turns" "[I") fl_X1_41) (fun _ h9 => h9) rfl eX1_prune_150.2.2.2.2.2.1 ?_
          refine lv_iload hx hb eX1_prune_150.2.2.2.2.2.2.1 (lv_at hl 2 rfl) ?_
          refine lv_iconst (v := 1) hx hb eX1_prune_150.2.2.2.2.2.2.2 (by decide) ?_
          refine lv_isub hx hb eX1_prune_162.1 ?_
          refine z_topi (y := i2 (x3 - 1)) (i2_sub x3 1) ?_
          obtain ⟨y22, ey22, iy22, h⟩ := rdI_e h
          refine ya_iald (i := (x3 - 1)) hx hb hK hP 51 0 CW_51 rfl (by decide) ey22 iy22 eX1_prune_162.2.1 ?_
          obtain ⟨s24, hc23, h⟩ := bn_e h
          refine ywVv (As := [.int (i2 y21), .int (i2 y22)]) (rest := []) (C := RX8) (n := 2) (ws' := CS D a s24) ⟨hx, hb, hml, hown, ht⟩ (k_x8_delete l D a y21 y22 _ _ _ hc23) (zgV ml_X1_274 im_X8_delete se_X8_delete in_X8 co_X8_delete) rfl rfl (by decide +kernel) ⟨Nat.le_of_ble_eq_true rfl, Nat.le_of_ble_eq_true rfl⟩ hN hK hP (hDD _) hS hA 53 CW_53 rfl rfl rfl hl.1 rfl (Nat.le_of_ble_eq_true rfl) eX1_prune_162.2.2.1 ⟨Nat.le_of_ble_eq_true rfl, Nat.le_of_ble_eq_true rfl⟩ (fun H locs hP hS => ?_)
          refine lv_goto (tgt := 180) hx hb eX1_prune_162.2.2.2.1 (by decide) ?_
          exact J180 (x2, x3, s24) _ _ _ ⟨hP, hS, lv_sub hl [0, 1, 2] rfl, h⟩
  refine y_loop (pcJ := 18) (σ := Int × Int × Int × Int × MS) (fun n u H locs ls => va_P D vwCl (CS D a u.2.2.2.2) H ∧ va_S A s₀.heap H locs ∧ lv_has ls 5 [(0, .ref (a 49)), (1, .int (i2 u.1)), (2, .int (i2 u.2.1)), (3, .int (i2 u.2.2.1)), (4, .int (i2 u.2.2.2.1))] ∧ m_x1_prune_L18 n u.1 u.2.1 u.2.2.1 u.2.2.2.1 u.2.2.2.2 = some o) (fun u => []) (fun u H locs ls hI => by obtain ⟨_, _, _, h⟩ := hI; cases h) (fun n18 ih18 u H locs ls hI => ?_) (fun J18 => ?_)
  · obtain ⟨hP, hS, hl, h⟩ := hI
    obtain ⟨x25, x26, x27, x28, s29⟩ := u
    have hP : va_P D vwCl (CS D a s29) H := hP
    have hl : lv_has ls 5 [(0, .ref (a 49)), (1, .int (i2 x25)), (2, .int (i2 x26)), (3, .int (i2 x27)), (4, .int (i2 x28))] := hl
    have h : m_x1_prune_b18 (m_x1_prune_L18 n18) x25 x26 x27 x28 s29 = some o := h
    unfold m_x1_prune_b18 at h
    refine lv_iload hx hb eX1_prune_14.2.2.2.1 (lv_at hl 4 rfl) ?_
    refine lv_iload_n hx hb eX1_prune_14.2.2.2.2.1 rfl (lv_at hl 3 rfl) ?_
    obtain ⟨hr30, h⟩ := rg_e h
    obtain ⟨hr31, h⟩ := rg_e h
    refine lv_icmp_ge (tgt := 68) hx hb eX1_prune_14.2.2.2.2.2.1 (by decide) (fun c32 => ?_) (fun c32 => ?_)
    · have h := if_t ((i2_le (x := x27) (y := x28) hr31 hr30).mp c32) h
      refine lv_aload_n hx hb eX1_prune_57.2.2.2.2.2.1 rfl (lv_at hl 0 rfl) ?_
      refine va_get (D := D) (ci := 1) (v := .ref (a 53)) (C := RX1) (T := TX1) (N := 9) hx hb ht inX1 hown hK hP 49 CW_49 rfl 0 (by decide) (ht (.fieldLink RX1 12 "CloneVolumes$Forest" "now" "LCloneVolumes$State;") fl_X1_12) (fun _ h9 => h9) rfl eX1_prune_57.2.2.2.2.2.2.1 ?_
      refine lv_aload_n hx hb eX1_prune_57.2.2.2.2.2.2.2 rfl (lv_at hl 0 rfl) ?_
      refine va_get (D := D) (ci := 1) (v := .ref (a 50)) (C := RX1) (T := TX1) (N := 9) hx hb ht inX1 hown hK hP 49 CW_49 rfl 6 (by decide) (ht (.fieldLink RX1 37 "CloneVolumes$Forest" "chain" "[I") fl_X1_37) (fun _ h9 => h9) rfl eX1_prune_73.1 ?_
      refine lv_iload_n hx hb eX1_prune_73.2.1 rfl (lv_at hl 3 rfl) ?_
      obtain ⟨y33, ey33, iy33, h⟩ := rdI_e h
      refine ya_iald (i := x27) hx hb hK hP 50 0 CW_50 rfl (by decide) ey33 iy33 eX1_prune_73.2.2.1 ?_
      refine lv_aload_n hx hb eX1_prune_73.2.2.2.1 rfl (lv_at hl 0 rfl) ?_
      refine va_get (D := D) (ci := 1) (v := .ref (a 53)) (C := RX1) (T := TX1) (N := 9) hx hb ht inX1 hown hK hP 49 CW_49 rfl 0 (by decide) (ht (.fieldLink RX1 12 "CloneVolumes$Forest" "now" "LCloneVolumes$State;") fl_X1_12) (fun _ h9 => h9) rfl eX1_prune_73.2.2.2.2.1 ?_
      refine lv_aload_n hx hb eX1_prune_73.2.2.2.2.2.1 rfl (lv_at hl 0 rfl) ?_
      refine va_get (D := D) (ci := 1) (v := .ref (a 50)) (C := RX1) (T := TX1) (N := 9) hx hb ht inX1 hown hK hP 49 CW_49 rfl 6 (by decide) (ht (.fieldLink RX1 37 "CloneVolumes$Forest" "chain" "[I") fl_X1_37) (fun _ h9 => h9) rfl eX1_prune_73.2.2.2.2.2.2.1 ?_
      refine lv_iload_n hx hb eX1_prune_73.2.2.2.2.2.2.2 rfl (lv_at hl 3 rfl) ?_
      obtain ⟨y34, ey34, iy34, h⟩ := rdI_e h
      refine ya_iald (i := x27) hx hb hK hP 50 0 CW_50 rfl (by decide) ey34 iy34 eX1_prune_87.1 ?_
      refine lv_iload_n hx hb eX1_prune_87.2.1 rfl (lv_at hl 2 rfl) ?_
      obtain ⟨r36, hc35, h⟩ := bn_e h
      refine ycV (r0 := i2 r36) (As := [.int (i2 y34), .int (i2 x26)]) (rest := [.int (i2 y33), .ref (a 53)]) (C := RX8) (n := 2) ⟨hx, hb, hml, hown, ht⟩ (k_x8_find l D a y34 x26 _ _ hc35) (zgV ml_X1_262 im_X8_find se_X8_find in_X8 co_X8_find) rfl rfl (by decide +kernel) ⟨Nat.le_of_ble_eq_true rfl, Nat.le_of_ble_eq_true rfl⟩ hN hK hP hS 53 CW_53 rfl rfl rfl hl.1 rfl (Nat.le_of_ble_eq_true rfl) eX1_prune_87.2.2.1 ⟨Nat.le_of_ble_eq_true rfl, Nat.le_of_ble_eq_true rfl⟩ (fun H locs hP hS => ?_)
      obtain ⟨s38, hc37, h⟩ := bn_e h
      refine ywVv (As := [.int (i2 y33), .int (i2 r36)]) (rest := []) (C := RX8) (n := 2) (ws' := CS D a s38) ⟨hx, hb, hml, hown, ht⟩ (k_x8_delete l D a y33 r36 _ _ _ hc37) (zgV ml_X1_274 im_X8_delete se_X8_delete in_X8 co_X8_delete) rfl rfl (by decide +kernel) ⟨Nat.le_of_ble_eq_true rfl, Nat.le_of_ble_eq_true rfl⟩ hN hK hP (hDD _) hS hA 53 CW_53 rfl rfl rfl hl.1 rfl (Nat.le_of_ble_eq_true rfl) eX1_prune_87.2.2.2.1 ⟨Nat.le_of_ble_eq_true rfl, Nat.le_of_ble_eq_true rfl⟩ (fun H locs hP hS => ?_)
      refine lv_iload_n hx hb eX1_prune_87.2.2.2.2.1 rfl (lv_at hl 3 rfl) ?_
      refine lv_istore (lv' := [(4, .int (i2 x27)), (0, .ref (a 49)), (1, .int (i2 x25)), (2, .int (i2 x26)), (3, .int (i2 x27))]) hx hb eX1_prune_87.2.2.2.2.2.1 hl (by decide) rfl (fun ls hl => ?_)
      exact J98 FU (x25, x27, s38) _ _ _ ⟨hP, hS, lv_sub hl [1, 2, 0] rfl, h⟩
    · have h := if_f (mt (i2_le (x := x27) (y := x28) hr31 hr30).mpr c32) h
      refine lv_aload_n hx hb eX1_prune_14.2.2.2.2.2.2.1 rfl (lv_at hl 0 rfl) ?_
      refine va_get (D := D) (ci := 1) (v := .ref (a 50)) (C := RX1) (T := TX1) (N := 9) hx hb ht inX1 hown hK hP 49 CW_49 rfl 6 (by decide) (ht (.fieldLink RX1 37 "CloneVolumes$Forest" "chain" "[I") fl_X1_37) (fun _ h9 => h9) rfl eX1_prune_14.2.2.2.2.2.2.2 ?_
      refine lv_iload hx hb eX1_prune_28.1 (lv_at hl 4 rfl) ?_
      refine lv_iconst (v := 1) hx hb eX1_prune_28.2.1 (by decide) ?_
      refine lv_iadd hx hb eX1_prune_28.2.2.1 ?_
      refine z_topi (y := i2 (x28 + 1)) (i2_add x28 1) ?_
      refine lv_aload_n hx hb eX1_prune_28.2.2.2.1 rfl (lv_at hl 0 rfl) ?_
      refine va_get (D := D) (ci := 1) (v := .ref (a 53)) (C := RX1) (T := TX1) (N := 9) hx hb ht inX1 hown hK hP 49 CW_49 rfl 0 (by decide) (ht (.fieldLink RX1 12 "CloneVolumes$Forest" "now" "LCloneVolumes$State;") fl_X1_12) (fun _ h9 => h9) rfl eX1_prune_28.2.2.2.2.1 ?_
      refine va_get (D := D) (ci := 8) (v := .ref (a 59)) (C := RX8) (T := TX8) (N := 11) hx hb ht inX8 hown hK hP 53 CW_53 rfl 8 (by decide) (ht (.fieldLink RX1 217 "CloneVolumes$State" "values" "[I") fl_X1_217) (fun _ h9 => h9) rfl eX1_prune_28.2.2.2.2.2.1 ?_
      refine lv_aload_n hx hb eX1_prune_28.2.2.2.2.2.2.1 rfl (lv_at hl 0 rfl) ?_
      refine va_get (D := D) (ci := 1) (v := .ref (a 53)) (C := RX1) (T := TX1) (N := 9) hx hb ht inX1 hown hK hP 49 CW_49 rfl 0 (by decide) (ht (.fieldLink RX1 12 "CloneVolumes$Forest" "now" "LCloneVolumes$State;") fl_X1_12) (fun _ h9 => h9) rfl eX1_prune_28.2.2.2.2.2.2.2 ?_
      refine lv_aload_n hx hb eX1_prune_43.1 rfl (lv_at hl 0 rfl) ?_
      refine va_get (D := D) (ci := 1) (v := .ref (a 50)) (C := RX1) (T := TX1) (N := 9) hx hb ht inX1 hown hK hP 49 CW_49 rfl 6 (by decide) (ht (.fieldLink RX1 37 "CloneVolumes$Forest" "chain" "[I") fl_X1_37) (fun _ h9 => h9) rfl eX1_prune_43.2.1 ?_
      refine lv_iload hx hb eX1_prune_43.2.2.1 (lv_at hl 4 rfl) ?_
      obtain ⟨y39, ey39, iy39, h⟩ := rdI_e h
      refine ya_iald (i := x28) hx hb hK hP 50 0 CW_50 rfl (by decide) ey39 iy39 eX1_prune_43.2.2.2.1 ?_
      refine lv_aload_n hx hb eX1_prune_43.2.2.2.2.1 rfl (lv_at hl 0 rfl) ?_
      refine va_get (D := D) (ci := 1) (v := .ref (a 51)) (C := RX1) (T := TX1) (N := 9) hx hb ht inX1 hown hK hP 49 CW_49 rfl 7 (by decide) (ht (.fieldLink RX1 41 "CloneVolumes$Forest" "turns" "[I") fl_X1_41) (fun _ h9 => h9) rfl eX1_prune_43.2.2.2.2.2.1 ?_
      refine lv_iload hx hb eX1_prune_43.2.2.2.2.2.2.1 (lv_at hl 4 rfl) ?_
      obtain ⟨y40, ey40, iy40, h⟩ := rdI_e h
      refine ya_iald (i := x28) hx hb hK hP 51 0 CW_51 rfl (by decide) ey40 iy40 eX1_prune_43.2.2.2.2.2.2.2 ?_
      obtain ⟨r42, hc41, h⟩ := bn_e h
      refine ycV (r0 := i2 r42) (As := [.int (i2 y39), .int (i2 y40)]) (rest := [.ref (a 59), .int (i2 (x28 + 1)), .ref (a 50)]) (C := RX8) (n := 2) ⟨hx, hb, hml, hown, ht⟩ (k_x8_slot l D a y39 y40 _ _ hc41) (zgV ml_X1_220 im_X8_slot se_X8_slot in_X8 co_X8_slot) rfl rfl (by decide +kernel) ⟨Nat.le_of_ble_eq_true rfl, Nat.le_of_ble_eq_true rfl⟩ hN hK hP hS 53 CW_53 rfl rfl rfl hl.1 rfl (Nat.le_of_ble_eq_true rfl) eX1_prune_57.1 ⟨Nat.le_of_ble_eq_true rfl, Nat.le_of_ble_eq_true rfl⟩ (fun H locs hP hS => ?_)
      obtain ⟨y43, ey43, iy43, h⟩ := rdI_e h
      refine ya_iald (i := r42) hx hb hK hP 59 0 CW_59 rfl (by decide) ey43 iy43 eX1_prune_57.2.1 ?_
      obtain ⟨hi44, h⟩ := inb_e h
      refine ya_iast (i := (x28 + 1)) (x := y43) hx hb hK hP (hDD _) hS 50 0 CW_50 rfl (by decide) hi44 eX1_prune_57.2.2.1 (CW_w50 _) (fun H locs hP hS => ?_)
      obtain ⟨s45, hs45, h⟩ := st_e h
      rw [hs45] at hP
      refine lv_iinc (v := i2 (x28 + 1)) (lv' := [(4, .int (i2 (x28 + 1))), (0, .ref (a 49)), (1, .int (i2 x25)), (2, .int (i2 x26)), (3, .int (i2 x27))]) hx hb eX1_prune_57.2.2.2.1 hl (k := 4) rfl (i2_add x28 1) (by decide) rfl (fun ls hl => ?_)
      refine lv_goto (tgt := 18) hx hb eX1_prune_57.2.2.2.2.1 (by decide) ?_
      exact ih18 (x25, x26, x27, x28 + 1, s45) _ _ _ ⟨hP, hS, lv_sub hl [1, 2, 3, 4, 0] rfl, h⟩
  refine lv_aload_n hx hb eX1_prune_0.1 rfl (lv_at hl 0 rfl) ?_
  refine va_get (D := D) (ci := 1) (v := .ref (a 50)) (C := RX1) (T := TX1) (N := 9) hx hb ht inX1 hown hK hP 49 CW_49 rfl 6 (by decide) (ht (.fieldLink RX1 37 "CloneVolumes$Forest" "chain" "[I") fl_X1_37) (fun _ h9 => h9) rfl eX1_prune_0.2.1 ?_
  refine lv_iconst (v := 0) hx hb eX1_prune_0.2.2.1 (by decide) ?_
  refine lv_aload_n hx hb eX1_prune_0.2.2.2.1 rfl (lv_at hl 0 rfl) ?_
  refine va_get (D := D) (ci := 1) (v := .ref (a 53)) (C := RX1) (T := TX1) (N := 9) hx hb ht inX1 hown hK hP 49 CW_49 rfl 0 (by decide) (ht (.fieldLink RX1 12 "CloneVolumes$Forest" "now" "LCloneVolumes$State;") fl_X1_12) (fun _ h9 => h9) rfl eX1_prune_0.2.2.2.2.1 ?_
  refine va_get (D := D) (ci := 8) (v := .ref (a 60)) (C := RX8) (T := TX8) (N := 11) hx hb ht inX8 hown hK hP 53 CW_53 rfl 9 (by decide) (ht (.fieldLink RX1 69 "CloneVolumes$State" "roots" "[I") fl_X1_69) (fun _ h9 => h9) rfl eX1_prune_0.2.2.2.2.2.1 ?_
  refine lv_iload_n hx hb eX1_prune_0.2.2.2.2.2.2.1 rfl (lv_at hl 1 rfl) ?_
  obtain ⟨y46, ey46, iy46, h⟩ := rdI_e h
  refine ya_iald (i := p0) hx hb hK hP 60 0 CW_60 rfl (by decide) ey46 iy46 eX1_prune_0.2.2.2.2.2.2.2 ?_
  obtain ⟨hi47, h⟩ := inb_e h
  refine ya_iast (i := 0) (x := y46) hx hb hK hP (hDD _) hS 50 0 CW_50 rfl (by decide) hi47 eX1_prune_14.1 (CW_w50 _) (fun H locs hP hS => ?_)
  obtain ⟨s48, hs48, h⟩ := st_e h
  rw [hs48] at hP
  refine lv_iconst (v := 0) hx hb eX1_prune_14.2.1 (by decide) ?_
  refine lv_istore (lv' := [(4, .int 0), (0, .ref (a 49)), (1, .int (i2 p0)), (2, .int (i2 p1)), (3, .int (i2 p2))]) hx hb eX1_prune_14.2.2.1 hl (by decide) rfl (fun ls hl => ?_)
  exact J18 FU (p0, p1, p2, 0, s48) _ _ _ ⟨hP, hS, lv_sub hl [1, 2, 3, 4, 0] rfl, h⟩
set_option maxHeartbeats 4000000 in
set_option maxRecDepth 100000 in
theorem k_x1_lowerRoot (l : Launch) (D : va_G) (a : Nat → Nat) (p0 : Int) (sz : Nat) (s : MS) (o : MS) (h : m_x1_lowerRoot p0 s = some o) : yWv l yX1_lowerRoot cX1_lowerRoot 5 none { frames := 2, cells := 0, slots := 0, locals := 120 } D sz [.ref (a 49), .int (i2 p0)] (CS D a s) (CS D a o) := by
  refine Met.ofW (cc := cX1_lowerRoot) (maxL := 5) (ret := none) (by decide) rfl ?_
  intro p e s₀ m args below meth c s₁ B hml hv
  obtain ⟨rfl, ⟨hsz, hP, hK, hD0⟩, hN⟩ := hv
  have hx := B.exec
  have hb := B.bytes
  have hr := B.returns
  have hts := atoms_spec (ws := wz yX1_lowerRoot cX1_lowerRoot 5 none) B.pre
  have ht : ∀ w ∈ lw_gd, w.before _ s₀ = true := fun w h => hts w (List.mem_cons_of_mem _ h)
  have hown : s₀.vm.findClass RX1 = some m.cls := findClass_of_methodNamed B.named
  have hlocks := B.notSynchronized
  subst hsz
  have hD := hD0.self (sz := s₀.heap.size)
  generalize hAe : va_A (CS D a s) s₀.heap.size = A at hD ⊢
  have hA : ∀ q : Nat, s₀.heap.size ≤ q → A q := fun q h => by rw [← hAe]; exact Or.inr h
  have hS : va_S A s₀.heap s₀.heap [] := va_S.rf
  have hDD : ∀ t : MS, va_D A (CS D a t) := fun t => CW_D t hD
  have hl := lv_entry ([.ref (a 49), .int (i2 p0)]) (n := 5) (Nat.le_of_ble_eq_true rfl)
  rw [lg_entry_eq]
  generalize (lg_sl ([.ref (a 49), .int (i2 p0)]) ++ List.replicate (5 - (lg_sl ([.ref (a 49), .int (i2 p0)])).length) Slot.unset).toArray = ls at hl ⊢
  have hl : lv_has ls 5 [(0, .ref (a 49)), (1, .int (i2 p0))] := hl
  unfold m_x1_lowerRoot at h
  refine y_head (pcJ := 48) (σ := MS) (fun u H locs ls => va_P D vwCl (CS D a u) H ∧ va_S A s₀.heap H locs ∧ lv_has ls 5 [] ∧ m_x1_lowerRoot_J48 u = some o) (fun u => []) (fun u H locs ls hI => ?_) (fun J48 => ?_)
  · obtain ⟨hP, hS, hl, h⟩ := hI
    obtain ⟨s1, rfl⟩ : ∃ z, z = u := ⟨u, rfl⟩
    have hP : va_P D vwCl (CS D a s1) H := hP
    have hl : lv_has ls 5 [] := hl
    have h : m_x1_lowerRoot_J48 s1 = some o := h
    unfold m_x1_lowerRoot_J48 at h
    obtain rfl := Option.some.inj h
    exact W.vret hx hb hr (fun t ht hW => ⟨⟨(), rfl, trivial, by rw [ht]; exact hP, va_K.moved hW.alike hK, hDD _⟩, hS.F ht⟩) hS.2.2 eX1_lowerRoot_42.2.2.2.2.1
  refine y_loop (pcJ := 2) (σ := Int × Int × MS) (fun n u H locs ls => va_P D vwCl (CS D a u.2.2) H ∧ va_S A s₀.heap H locs ∧ lv_has ls 5 [(0, .ref (a 49)), (1, .int (i2 u.1)), (2, .int (i2 u.2.1))] ∧ m_x1_lowerRoot_L2 n u.1 u.2.1 u.2.2 = some o) (fun u => []) (fun u H locs ls hI => by obtain ⟨_, _, _, h⟩ := hI; cases h) (fun n2 ih2 u H locs ls hI => ?_) (fun J2 => ?_)
  · obtain ⟨hP, hS, hl, h⟩ := hI
    obtain ⟨x2, x3, s4⟩ := u
    have hP : va_P D vwCl (CS D a s4) H := hP
    have hl : lv_has ls 5 [(0, .ref (a 49)), (1, .int (i2 x2)), (2, .int (i2 x3))] := hl
    have h : m_x1_lowerRoot_b2 (m_x1_lowerRoot_L2 n2) x2 x3 s4 = some o := h
    unfold m_x1_lowerRoot_b2 at h
    refine lv_iload_n hx hb eX1_letGo_45.2.2.2.1 rfl (lv_at hl 2 rfl) ?_
    refine lv_bipush (v := 48) hx hb eX1_letGo_45.2.2.2.2.1 (by decide) ?_
    obtain ⟨hr5, h⟩ := rg_e h
    refine lv_icmp_ge (tgt := 112) hx hb eX1_letGo_45.2.2.2.2.2.1 (by decide) (fun c6 => ?_) (fun c6 => ?_)
    · have h := if_t ((i2_le (x := 48) (y := x3) (by decide) hr5).mp c6) h
      obtain rfl := Option.some.inj h
      exact W.vret hx hb hr (fun t ht hW => ⟨⟨(), rfl, trivial, by rw [ht]; exact hP, va_K.moved hW.alike hK, hDD _⟩, hS.F ht⟩) hS.2.2 eX1_lowerRoot_95.2.2.2.2.2.2.2
    · have h := if_f (mt (i2_le (x := 48) (y := x3) (by decide) hr5).mpr c6) h
      refine lv_aload_n hx hb eX1_letGo_45.2.2.2.2.2.2.1 rfl (lv_at hl 0 rfl) ?_
      refine va_get (D := D) (ci := 1) (v := .ref (a 53)) (C := RX1) (T := TX1) (N := 9) hx hb ht inX1 hown hK hP 49 CW_49 rfl 0 (by decide) (ht (.fieldLink RX1 12 "CloneVolumes$Forest" "now" "LCloneVolumes$State;") fl_X1_12) (fun _ h9 => h9) rfl eX1_letGo_45.2.2.2.2.2.2.2 ?_
      refine va_get (D := D) (ci := 8) (v := .ref (a 60)) (C := RX8) (T := TX8) (N := 11) hx hb ht inX8 hown hK hP 53 CW_53 rfl 9 (by decide) (ht (.fieldLink RX1 69 "CloneVolumes$State" "roots" "[I") fl_X1_69) (fun _ h9 => h9) rfl eX1_lowerRoot_12.1 ?_
      refine lv_iload_n hx hb eX1_lowerRoot_12.2.1 rfl (lv_at hl 1 rfl) ?_
      obtain ⟨y7, ey7, iy7, h⟩ := rdI_e h
      refine ya_iald (i := x2) hx hb hK hP 60 0 CW_60 rfl (by decide) ey7 iy7 eX1_lowerRoot_12.2.2.1 ?_
      refine lv_istore_n (lv' := [(3, .int (i2 y7)), (0, .ref (a 49)), (1, .int (i2 x2)), (2, .int (i2 x3))]) hx hb eX1_lowerRoot_12.2.2.2.1 rfl hl (by decide) rfl (fun ls hl => ?_)
      refine lv_iload_n hx hb eX1_lowerRoot_12.2.2.2.2.1 rfl (lv_at hl 0 rfl) ?_
      refine lv_iconst (v := (-1)) hx hb eX1_lowerRoot_12.2.2.2.2.2.1 (by decide) ?_
      obtain ⟨hr8, h⟩ := rg_e h
      refine lv_icmp_eq (tgt := 48) hx hb eX1_lowerRoot_12.2.2.2.2.2.2.1 (by decide) (fun c9 => ?_) (fun c9 => ?_)
      · rw [show ((-1) : Int32) = i2 (-1) from by decide] at c9
        have h := if_t ((i2_eq (x := y7) (y := (-1)) hr8 (by decide)).mp c9) h
        exact J48 s4 _ _ _ ⟨hP, hS, lv_sub hl [] rfl, h⟩
      · rw [show ((-1) : Int32) = i2 (-1) from by decide] at c9
        have h := if_f (mt (i2_eq (x := y7) (y := (-1)) hr8 (by decide)).mpr c9) h
        refine lv_aload_n hx hb eX1_lowerRoot_12.2.2.2.2.2.2.2 rfl (lv_at hl 1 rfl) ?_
        refine va_get (D := D) (ci := 1) (v := .ref (a 53)) (C := RX1) (T := TX1) (N := 9) hx hb ht inX1 hown hK hP 49 CW_49 rfl 0 (by decide) (ht (.fieldLink RX1 12 "CloneVolumes$Forest" "now" "LCloneVolumes$State;") fl_X1_12) (fun _ h9 => h9) rfl eX1_lowerRoot_24.1 ?_
        refine va_get (D := D) (ci := 8) (v := .ref (a 56)) (C := RX8) (T := TX8) (N := 11) hx hb ht inX8 hown hK hP 53 CW_53 rfl 5 (by decide) (ht (.fieldLink RX1 150 "CloneVolumes$State" "level" "[I") fl_X1_150) (fun _ h9 => h9) rfl eX1_lowerRoot_24.2.1 ?_
        refine lv_iload_n hx hb eX1_lowerRoot_24.2.2.1 rfl (lv_at hl 0 rfl) ?_
        obtain ⟨y10, ey10, iy10, h⟩ := rdI_e h
        refine ya_iald (i := y7) hx hb hK hP 56 0 CW_56 rfl (by decide) ey10 iy10 eX1_lowerRoot_24.2.2.2.1 ?_
        obtain ⟨hr11, h⟩ := rg_e h
        refine lv_if_eq (tgt := 48) hx hb eX1_lowerRoot_24.2.2.2.2.1 (by decide) (fun c12 => ?_) (fun c12 => ?_)
        · have h := if_t ((i2_eq (x := y10) (y := 0) hr11 (by decide)).mp c12) h
          exact J48 s4 _ _ _ ⟨hP, hS, lv_sub hl [] rfl, h⟩
        · have h := if_f (mt (i2_eq (x := y10) (y := 0) hr11 (by decide)).mpr c12) h
          refine lv_aload_n hx hb eX1_lowerRoot_24.2.2.2.2.2.1 rfl (lv_at hl 1 rfl) ?_
          refine va_get (D := D) (ci := 1) (v := .ref (a 53)) (C := RX1) (T := TX1) (N := 9) hx hb ht inX1 hown hK hP 49 CW_49 rfl 0 (by decide) (ht (.fieldLink RX1 12 "CloneVolumes$Forest" "now" "LCloneVolumes$State;") fl_X1_12) (fun _ h9 => h9) rfl eX1_lowerRoot_24.2.2.2.2.2.2.1 ?_
          refine va_get (D := D) (ci := 8) (v := .ref (a 57)) (C := RX8) (T := TX8) (N := 11) hx hb ht inX8 hown hK hP 53 CW_53 rfl 6 (by decide) (ht (.fieldLink RX1 155 "CloneVolumes$State" "size" "[I") fl_X1_155) (fun _ h9 => h9) rfl eX1_lowerRoot_24.2.2.2.2.2.2.2 ?_
          refine lv_iload_n hx hb eX1_lowerRoot_42.1 rfl (lv_at hl 0 rfl) ?_
          obtain ⟨y13, ey13, iy13, h⟩ := rdI_e h
          refine ya_iald (i := y7) hx hb hK hP 57 0 CW_57 rfl (by decide) ey13 iy13 eX1_lowerRoot_42.2.1 ?_
          refine lv_iconst (v := 1) hx hb eX1_lowerRoot_42.2.2.1 (by decide) ?_
          obtain ⟨hr14, h⟩ := rg_e h
          refine lv_icmp_eq (tgt := 49) hx hb eX1_lowerRoot_42.2.2.2.1 (by decide) (fun c15 => ?_) (fun c15 => ?_)
          · have h := if_t ((i2_eq (x := y13) (y := 1) hr14 (by decide)).mp c15) h
            refine lv_aload_n hx hb eX1_lowerRoot_42.2.2.2.2.2.1 rfl (lv_at hl 1 rfl) ?_
            refine va_get (D := D) (ci := 1) (v := .ref (a 53)) (C := RX1) (T := TX1) (N := 9) hx hb ht inX1 hown hK hP 49 CW_49 rfl 0 (by decide) (ht (.fieldLink RX1 12 "CloneVolumes$Forest" "now" "LCloneVolumes$State;") fl_X1_12) (fun _ h9 => h9) rfl eX1_lowerRoot_42.2.2.2.2.2.2.1 ?_
            refine va_get (D := D) (ci := 8) (v := .ref (a 59)) (C := RX8) (T := TX8) (N := 11) hx hb ht inX8 hown hK hP 53 CW_53 rfl 8 (by decide) (ht (.fieldLink RX1 217 "CloneVolumes$State" "values" "[I") fl_X1_217) (fun _ h9 => h9) rfl eX1_lowerRoot_42.2.2.2.2.2.2.2 ?_
            refine lv_aload_n hx hb eX1_lowerRoot_56.1 rfl (lv_at hl 1 rfl) ?_
            refine va_get (D := D) (ci := 1) (v := .ref (a 53)) (C := RX1) (T := TX1) (N := 9) hx hb ht inX1 hown hK hP 49 CW_49 rfl 0 (by decide) (ht (.fieldLink RX1 12 "CloneVolumes$Forest" "now" "LCloneVolumes$State;") fl_X1_12) (fun _ h9 => h9) rfl eX1_lowerRoot_56.2.1 ?_
            refine lv_iload_n hx hb eX1_lowerRoot_56.2.2.1 rfl (lv_at hl 0 rfl) ?_
            refine lv_iconst (v := 0) hx hb eX1_lowerRoot_56.2.2.2.1 (by decide) ?_
            obtain ⟨r17, hc16, h⟩ := bn_e h
            refine ycV (r0 := i2 r17) (As := [.int (i2 y7), .int 0]) (rest := [.ref (a 59)]) (C := RX8) (n := 2) ⟨hx, hb, hml, hown, ht⟩ (k_x8_slot l D a y7 0 _ _ hc16) (zgV ml_X1_220 im_X8_slot se_X8_slot in_X8 co_X8_slot) rfl rfl (by decide +kernel) ⟨Nat.le_of_ble_eq_true rfl, Nat.le_of_ble_eq_true rfl⟩ hN hK hP hS 53 CW_53 rfl rfl rfl hl.1 rfl (Nat.le_of_ble_eq_true rfl) eX1_lowerRoot_56.2.2.2.2.1 ⟨Nat.le_of_ble_eq_true rfl, Nat.le_of_ble_eq_true rfl⟩ (fun H locs hP hS => ?_)
            obtain ⟨y18, ey18, iy18, h⟩ := rdI_e h
            refine ya_iald (i := r17) hx hb hK hP 59 0 CW_59 rfl (by decide) ey18 iy18 eX1_lowerRoot_56.2.2.2.2.2.1 ?_
            refine lv_istore (lv' := [(4, .int (i2 y18)), (3, .int (i2 y7)), (0, .ref (a 49)), (1, .int (i2 x2)), (2, .int (i2 x3))]) hx hb eX1_lowerRoot_56.2.2.2.2.2.2.1 hl (by decide) rfl (fun ls hl => ?_)
            refine lv_aload_n hx hb eX1_lowerRoot_56.2.2.2.2.2.2.2 rfl (lv_at hl 2 rfl) ?_
            refine va_get (D := D) (ci := 1) (v := .ref (a 53)) (C := RX1) (T := TX1) (N := 9) hx hb ht inX1 hown hK hP 49 CW_49 rfl 0 (by decide) (ht (.fieldLink RX1 12 "CloneVolumes$Forest" "now" "LCloneVolumes$State;") fl_X1_12) (fun _ h9 => h9) rfl eX1_lowerRoot_69.1 ?_
            refine va_get (D := D) (ci := 8) (v := .ref (a 54)) (C := RX8) (T := TX8) (N := 11) hx hb ht inX8 hown hK hP 53 CW_53 rfl 3 (by decide) (ht (.fieldLink RX1 181 "CloneVolumes$State" "count" "[I") fl_X1_181) (fun _ h9 => h9) rfl eX1_lowerRoot_69.2.1 ?_
            refine lv_iload hx hb eX1_lowerRoot_69.2.2.1 (lv_at hl 0 rfl) ?_
            refine lv_dup2_11 hx hb eX1_lowerRoot_69.2.2.2.1 rfl rfl ?_
            obtain ⟨y19, ey19, iy19, h⟩ := rdI_e h
            refine ya_iald (i := y18) hx hb hK hP 54 0 CW_54 rfl (by decide) ey19 iy19 eX1_lowerRoot_69.2.2.2.2.1 ?_
            refine lv_iconst (v := 1) hx hb eX1_lowerRoot_69.2.2.2.2.2.1 (by decide) ?_
            refine lv_iadd hx hb eX1_lowerRoot_69.2.2.2.2.2.2.1 ?_
            refine z_topi (y := i2 (y19 + 1)) (i2_add y19 1) ?_
            obtain ⟨hi20, h⟩ := inb_e h
            refine ya_iast (i := y18) (x := (y19 + 1)) hx hb hK hP (hDD _) hS 54 0 CW_54 rfl (by decide) hi20 eX1_lowerRoot_69.2.2.2.2.2.2.2 (CW_w54 _) (fun H locs hP hS => ?_)
            obtain ⟨s21, hs21, h⟩ := st_e h
            rw [hs21] at hP
            refine lv_aload_n hx hb eX1_lowerRoot_82.1 rfl (lv_at hl 2 rfl) ?_
            refine va_get (D := D) (ci := 1) (v := .ref (a 53)) (C := RX1) (T := TX1) (N := 9) hx hb ht inX1 hown hK hP 49 CW_49 rfl 0 (by decide) (ht (.fieldLink RX1 12 "CloneVolumes$Forest" "now" "LCloneVolumes$State;") fl_X1_12) (fun _ h9 => h9) rfl eX1_lowerRoot_82.2.1 ?_
            refine va_get (D := D) (ci := 8) (v := .ref (a 60)) (C := RX8) (T := TX8) (N := 11) hx hb ht inX8 hown hK hP 53 CW_53 rfl 9 (by decide) (ht (.fieldLink RX1 69 "CloneVolumes$State" "roots" "[I") fl_X1_69) (fun _ h9 => h9) rfl eX1_lowerRoot_82.2.2.1 ?_
            refine lv_iload_n hx hb eX1_lowerRoot_82.2.2.2.1 rfl (lv_at hl 3 rfl) ?_
            refine lv_iload hx hb eX1_lowerRoot_82.2.2.2.2.1 (lv_at hl 0 rfl) ?_
            obtain ⟨hi22, h⟩ := inb_e h
            refine ya_iast (i := x2) (x := y18) hx hb hK hP (hDD _) hS 60 0 CW_60 rfl (by decide) hi22 eX1_lowerRoot_82.2.2.2.2.2.1 (CW_w60 _) (fun H locs hP hS => ?_)
            obtain ⟨s23, hs23, h⟩ := st_e h
            rw [hs23] at hP
            refine lv_aload_n hx hb eX1_lowerRoot_82.2.2.2.2.2.2.1 rfl (lv_at hl 2 rfl) ?_
            refine lv_iload_n hx hb eX1_lowerRoot_82.2.2.2.2.2.2.2 rfl (lv_at hl 1 rfl) ?_
            refine lv_aload_n hx hb eX1_lowerRoot_95.1 rfl (lv_at hl 2 rfl) ?_
            refine va_get (D := D) (ci := 1) (v := .ref (a 53)) (C := RX1) (T := TX1) (N := 9) hx hb ht inX1 hown hK hP 49 CW_49 rfl 0 (by decide) (ht (.fieldLink RX1 12 "CloneVolumes$Forest" "now" "LCloneVolumes$State;") fl_X1_12) (fun _ h9 => h9) rfl eX1_lowerRoot_95.2.1 ?_
            refine va_get (D := D) (ci := 8) (v := .ref (a 54)) (C := RX8) (T := TX8) (N := 11) hx hb ht inX8 hown hK hP 53 CW_53 rfl 3 (by decide) (ht (.fieldLink RX1 181 "CloneVolumes$State" "count" "[I") fl_X1_181) (fun _ h9 => h9) rfl eX1_lowerRoot_95.2.2.1 ?_
            obtain ⟨⟨r26, s25⟩, hc24, h⟩ := bn_e h
            refine ywV (r0 := i2 r26) (As := [.int (i2 y7), .ref (a 54)]) (rest := []) (C := RX1) (n := 2) (ws' := CS D a s25) ⟨hx, hb, hml, hown, ht⟩ (k_x1_release_v2 l D a y7 _ _ _ hc24) (zgV ml_X1_223 im_X1_release se_X1_release in_X1 co_X1_release) rfl rfl (by decide +kernel) ⟨Nat.le_of_ble_eq_true rfl, Nat.le_of_ble_eq_true rfl⟩ hN hK hP (hDD _) hS hA 49 CW_49 rfl rfl rfl hl.1 rfl (Nat.le_of_ble_eq_true rfl) eX1_lowerRoot_95.2.2.2.1 ⟨Nat.le_of_ble_eq_true rfl, Nat.le_of_ble_eq_true rfl⟩ (fun H locs hP hS => ?_)
            refine lv_pop hx hb eX1_lowerRoot_95.2.2.2.2.1 rfl ?_
            refine lv_iinc (v := i2 (x3 + 1)) (lv' := [(2, .int (i2 (x3 + 1))), (4, .int (i2 y18)), (3, .int (i2 y7)), (0, .ref (a 49)), (1, .int (i2 x2))]) hx hb eX1_lowerRoot_95.2.2.2.2.2.1 hl (k := 4) rfl (i2_add x3 1) (by decide) rfl (fun ls hl => ?_)
            refine lv_goto (tgt := 2) hx hb eX1_lowerRoot_95.2.2.2.2.2.2.1 (by decide) ?_
            exact ih2 (x2, x3 + 1, s25) _ _ _ ⟨hP, hS, lv_sub hl [3, 4, 0] rfl, h⟩
          · have h := if_f (mt (i2_eq (x := y13) (y := 1) hr14 (by decide)).mpr c15) h
            exact J48 s4 _ _ _ ⟨hP, hS, lv_sub hl [] rfl, h⟩
  refine lv_iconst (v := 0) hx hb eX1_letGo_45.2.1 (by decide) ?_
  refine lv_istore_n (lv' := [(2, .int 0), (0, .ref (a 49)), (1, .int (i2 p0))]) hx hb eX1_letGo_45.2.2.1 rfl hl (by decide) rfl (fun ls hl => ?_)
  exact J2 FU (p0, 0, s) _ _ _ ⟨hP, hS, lv_sub hl [1, 2, 0] rfl, h⟩
set_option maxHeartbeats 4000000 in
set_option maxRecDepth 100000 in
theorem k_x1_uproot (l : Launch) (D : va_G) (a : Nat → Nat) (p0 : Int) (p1 : Int) (sz : Nat) (s : MS) (o : (Int × MS)) (h : m_x1_uproot p0 p1 s = some o) : yWi l yX1_uproot cX1_uproot 8 (some .boolean) { frames := 4, cells := 0, slots := 0, locals := 240 } D sz [.ref (a 49), .int (i2 p0), .int (i2 p1)] (CS D a s) (CS D a o.2) (i2 o.1) := by
  refine Met.ofW (cc := cX1_uproot) (maxL := 8) (ret := (some .boolean)) (by decide) rfl ?_
  intro p e s₀ m args below meth c s₁ B hml hv
  obtain ⟨rfl, ⟨hsz, hP, hK, hD0⟩, hN⟩ := hv
  have hx := B.exec
  have hb := B.bytes
  have hr := B.returns
  have hts := atoms_spec (ws := wz yX1_uproot cX1_uproot 8 (some .boolean)) B.pre
  have ht : ∀ w ∈ lw_gd, w.before _ s₀ = true := fun w h => hts w (List.mem_cons_of_mem _ h)
  have hown : s₀.vm.findClass RX1 = some m.cls := findClass_of_methodNamed B.named
  have hlocks := B.notSynchronized
  subst hsz
  have hD := hD0.self (sz := s₀.heap.size)
  generalize hAe : va_A (CS D a s) s₀.heap.size = A at hD ⊢
  have hA : ∀ q : Nat, s₀.heap.size ≤ q → A q := fun q h => by rw [← hAe]; exact Or.inr h
  have hS : va_S A s₀.heap s₀.heap [] := va_S.rf
  have hDD : ∀ t : MS, va_D A (CS D a t) := fun t => CW_D t hD
  have hl := lv_entry ([.ref (a 49), .int (i2 p0), .int (i2 p1)]) (n := 8) (Nat.le_of_ble_eq_true rfl)
  rw [lg_entry_eq]
  generalize (lg_sl ([.ref (a 49), .int (i2 p0), .int (i2 p1)]) ++ List.replicate (8 - (lg_sl ([.ref (a 49), .int (i2 p0), .int (i2 p1)])).length) Slot.unset).toArray = ls at hl ⊢
  have hl : lv_has ls 8 [(0, .ref (a 49)), (1, .int (i2 p0)), (2, .int (i2 p1))] := hl
  unfold m_x1_uproot at h
  refine y_loop (pcJ := 55) (σ := Int × Int × Int × Int × Int × MS) (fun n u H locs ls => va_P D vwCl (CS D a u.2.2.2.2.2) H ∧ va_S A s₀.heap H locs ∧ lv_has ls 8 [(0, .ref (a 49)), (1, .int (i2 u.1)), (2, .int (i2 u.2.1)), (3, .int (i2 u.2.2.1)), (4, .int (i2 u.2.2.2.1)), (5, .int (i2 u.2.2.2.2.1))] ∧ m_x1_uproot_L55 n u.1 u.2.1 u.2.2.1 u.2.2.2.1 u.2.2.2.2.1 u.2.2.2.2.2 = some o) (fun u => []) (fun u H locs ls hI => by obtain ⟨_, _, _, h⟩ := hI; cases h) (fun n55 ih55 u H locs ls hI => ?_) (fun J55 => ?_)
  · obtain ⟨hP, hS, hl, h⟩ := hI
    obtain ⟨x1, x2, x3, x4, x5, s6⟩ := u
    have hP : va_P D vwCl (CS D a s6) H := hP
    have hl : lv_has ls 8 [(0, .ref (a 49)), (1, .int (i2 x1)), (2, .int (i2 x2)), (3, .int (i2 x3)), (4, .int (i2 x4)), (5, .int (i2 x5))] := hl
    have h : m_x1_uproot_b55 (m_x1_uproot_L55 n55) x1 x2 x3 x4 x5 s6 = some o := h
    unfold m_x1_uproot_b55 at h
    refine lv_iload hx hb eX1_uproot_42.2.2.2.2.2.2.2 (lv_at hl 5 rfl) ?_
    refine lv_iload_n hx hb eX1_uproot_57.1 rfl (lv_at hl 3 rfl) ?_
    obtain ⟨hr7, h⟩ := rg_e h
    obtain ⟨hr8, h⟩ := rg_e h
    refine lv_icmp_ge (tgt := 138) hx hb eX1_uproot_57.2.1 (by decide) (fun c9 => ?_) (fun c9 => ?_)
    · have h := if_t ((i2_le (x := x3) (y := x5) hr8 hr7).mp c9) h
      refine lv_aload_n hx hb eX1_uproot_138.1 rfl (lv_at hl 0 rfl) ?_
      refine lv_iload_n hx hb eX1_uproot_138.2.1 rfl (lv_at hl 1 rfl) ?_
      refine lv_iload_n hx hb eX1_uproot_138.2.2.1 rfl (lv_at hl 2 rfl) ?_
      refine lv_iload_n hx hb eX1_uproot_138.2.2.2.1 rfl (lv_at hl 3 rfl) ?_
      obtain ⟨s11, hc10, h⟩ := bn_e h
      refine ywVv (As := [.int (i2 x1), .int (i2 x2), .int (i2 x3)]) (rest := []) (C := RX1) (n := 3) (ws' := CS D a s11) ⟨hx, hb, hml, hown, ht⟩ (k_x1_prune l D a x1 x2 x3 _ _ _ hc10) (zgV ml_X1_268 im_X1_prune se_X1_prune in_X1 co_X1_prune) rfl rfl (by decide +kernel) ⟨Nat.le_of_ble_eq_true rfl, Nat.le_of_ble_eq_true rfl⟩ hN hK hP (hDD _) hS hA 49 CW_49 rfl rfl rfl hl.1 rfl (Nat.le_of_ble_eq_true rfl) eX1_uproot_138.2.2.2.2.1 ⟨Nat.le_of_ble_eq_true rfl, Nat.le_of_ble_eq_true rfl⟩ (fun H locs hP hS => ?_)
      refine lv_aload_n hx hb eX1_uproot_138.2.2.2.2.2.1 rfl (lv_at hl 0 rfl) ?_
      refine lv_iload_n hx hb eX1_uproot_138.2.2.2.2.2.2.1 rfl (lv_at hl 1 rfl) ?_
      obtain ⟨s13, hc12, h⟩ := bn_e h
      refine ywVv (As := [.int (i2 x1)]) (rest := []) (C := RX1) (n := 1) (ws' := CS D a s13) ⟨hx, hb, hml, hown, ht⟩ (k_x1_lowerRoot l D a x1 _ _ _ hc12) (zgV ml_X1_271 im_X1_lowerRoot se_X1_lowerRoot in_X1 co_X1_lowerRoot) rfl rfl (by decide +kernel) ⟨Nat.le_of_ble_eq_true rfl, Nat.le_of_ble_eq_true rfl⟩ hN hK hP (hDD _) hS hA 49 CW_49 rfl rfl rfl hl.1 rfl (Nat.le_of_ble_eq_true rfl) eX1_uproot_138.2.2.2.2.2.2.2 ⟨Nat.le_of_ble_eq_true rfl, Nat.le_of_ble_eq_true rfl⟩ (fun H locs hP hS => ?_)
      refine lv_iconst (v := 1) hx hb eX1_uproot_150.1 (by decide) ?_
      obtain rfl := Option.some.inj h
      exact W.zret (v := 1) hx hb hr (by decide) (fun t ht hW => ⟨⟨_, (), rfl, rfl, by rw [ht]; exact hP, va_K.moved hW.alike hK, hDD _⟩, hS.F ht⟩) hS.2.2 eX1_uproot_150.2.1
    · have h := if_f (mt (i2_le (x := x3) (y := x5) hr8 hr7).mpr c9) h
      refine lv_aload_n hx hb eX1_uproot_57.2.2.1 rfl (lv_at hl 0 rfl) ?_
      refine va_get (D := D) (ci := 1) (v := .ref (a 53)) (C := RX1) (T := TX1) (N := 9) hx hb ht inX1 hown hK hP 49 CW_49 rfl 0 (by decide) (ht (.fieldLink RX1 12 "CloneVolumes$Forest" "now" "LCloneVolumes$State;") fl_X1_12) (fun _ h9 => h9) rfl eX1_uproot_57.2.2.2.1 ?_
      refine lv_iload hx hb eX1_uproot_57.2.2.2.2.1 (lv_at hl 4 rfl) ?_
      refine lv_iload_n hx hb eX1_uproot_57.2.2.2.2.2.1 rfl (lv_at hl 2 rfl) ?_
      obtain ⟨r15, hc14, h⟩ := bn_e h
      refine ycV (r0 := i2 r15) (As := [.int (i2 x4), .int (i2 x2)]) (rest := []) (C := RX8) (n := 2) ⟨hx, hb, hml, hown, ht⟩ (k_x8_entryFor l D a x4 x2 _ _ hc14) (zgV ml_X1_249 im_X8_entryFor se_X8_entryFor in_X8 co_X8_entryFor) rfl rfl (by decide +kernel) ⟨Nat.le_of_ble_eq_true rfl, Nat.le_of_ble_eq_true rfl⟩ hN hK hP hS 53 CW_53 rfl rfl rfl hl.1 rfl (Nat.le_of_ble_eq_true rfl) eX1_uproot_57.2.2.2.2.2.2.1 ⟨Nat.le_of_ble_eq_true rfl, Nat.le_of_ble_eq_true rfl⟩ (fun H locs hP hS => ?_)
      refine lv_istore (lv' := [(6, .int (i2 r15)), (0, .ref (a 49)), (1, .int (i2 x1)), (2, .int (i2 x2)), (3, .int (i2 x3)), (4, .int (i2 x4)), (5, .int (i2 x5))]) hx hb eX1_uproot_57.2.2.2.2.2.2.2 hl (by decide) rfl (fun ls hl => ?_)
      refine lv_aload_n hx hb eX1_uproot_73.1 rfl (lv_at hl 1 rfl) ?_
      refine lv_aload_n hx hb eX1_uproot_73.2.1 rfl (lv_at hl 1 rfl) ?_
      refine va_get (D := D) (ci := 1) (v := .ref (a 53)) (C := RX1) (T := TX1) (N := 9) hx hb ht inX1 hown hK hP 49 CW_49 rfl 0 (by decide) (ht (.fieldLink RX1 12 "CloneVolumes$Forest" "now" "LCloneVolumes$State;") fl_X1_12) (fun _ h9 => h9) rfl eX1_uproot_73.2.2.1 ?_
      refine va_get (D := D) (ci := 8) (v := .ref (a 59)) (C := RX8) (T := TX8) (N := 11) hx hb ht inX8 hown hK hP 53 CW_53 rfl 8 (by decide) (ht (.fieldLink RX1 217 "CloneVolumes$State" "values" "[I") fl_X1_217) (fun _ h9 => h9) rfl eX1_uproot_73.2.2.2.1 ?_
      refine lv_aload_n hx hb eX1_uproot_73.2.2.2.2.1 rfl (lv_at hl 1 rfl) ?_
      refine va_get (D := D) (ci := 1) (v := .ref (a 53)) (C := RX1) (T := TX1) (N := 9) hx hb ht inX1 hown hK hP 49 CW_49 rfl 0 (by decide) (ht (.fieldLink RX1 12 "CloneVolumes$Forest" "now" "LCloneVolumes$State;") fl_X1_12) (fun _ h9 => h9) rfl eX1_uproot_73.2.2.2.2.2.1 ?_
      refine lv_iload hx hb eX1_uproot_73.2.2.2.2.2.2.1 (lv_at hl 5 rfl) ?_
      refine lv_iload hx hb eX1_uproot_73.2.2.2.2.2.2.2 (lv_at hl 0 rfl) ?_
      obtain ⟨r17, hc16, h⟩ := bn_e h
      refine ycV (r0 := i2 r17) (As := [.int (i2 x4), .int (i2 r15)]) (rest := [.ref (a 59), .ref (a 49)]) (C := RX8) (n := 2) ⟨hx, hb, hml, hown, ht⟩ (k_x8_slot l D a x4 r15 _ _ hc16) (zgV ml_X1_220 im_X8_slot se_X8_slot in_X8 co_X8_slot) rfl rfl (by decide +kernel) ⟨Nat.le_of_ble_eq_true rfl, Nat.le_of_ble_eq_true rfl⟩ hN hK hP hS 53 CW_53 rfl rfl rfl hl.1 rfl (Nat.le_of_ble_eq_true rfl) eX1_uproot_89.1 ⟨Nat.le_of_ble_eq_true rfl, Nat.le_of_ble_eq_true rfl⟩ (fun H locs hP hS => ?_)
      obtain ⟨y18, ey18, iy18, h⟩ := rdI_e h
      refine ya_iald (i := r17) hx hb hK hP 59 0 CW_59 rfl (by decide) ey18 iy18 eX1_uproot_89.2.1 ?_
      obtain ⟨⟨r21, s20⟩, hc19, h⟩ := bn_e h
      refine ywV (r0 := i2 r21) (As := [.int (i2 y18)]) (rest := []) (C := RX1) (n := 1) (ws' := CS D a s20) ⟨hx, hb, hml, hown, ht⟩ (k_x1_owned l D a y18 _ _ _ hc19) (zgV ml_X1_236 im_X1_owned se_X1_owned in_X1 co_X1_owned) rfl rfl (by decide +kernel) ⟨Nat.le_of_ble_eq_true rfl, Nat.le_of_ble_eq_true rfl⟩ hN hK hP (hDD _) hS hA 49 CW_49 rfl rfl rfl hl.1 rfl (Nat.le_of_ble_eq_true rfl) eX1_uproot_89.2.2.1 ⟨Nat.le_of_ble_eq_true rfl, Nat.le_of_ble_eq_true rfl⟩ (fun H locs hP hS => ?_)
      refine lv_istore (lv' := [(7, .int (i2 r21)), (6, .int (i2 r15)), (0, .ref (a 49)), (1, .int (i2 x1)), (2, .int (i2 x2)), (3, .int (i2 x3)), (4, .int (i2 x4)), (5, .int (i2 x5))]) hx hb eX1_uproot_89.2.2.2.1 hl (by decide) rfl (fun ls hl => ?_)
      refine lv_iload hx hb eX1_uproot_89.2.2.2.2.1 (lv_at hl 0 rfl) ?_
      refine lv_iconst (v := (-1)) hx hb eX1_uproot_89.2.2.2.2.2.1 (by decide) ?_
      obtain ⟨hr22, h⟩ := rg_e h
      refine lv_icmp_ne (tgt := 106) hx hb eX1_uproot_89.2.2.2.2.2.2.1 (by decide) (fun c23 => ?_) (fun c23 => ?_)
      · rw [show ((-1) : Int32) = i2 (-1) from by decide] at c23
        have h := if_f (mt (i2_eq (x := r21) (y := (-1)) hr22 (by decide)).mpr c23) h
        refine lv_aload_n hx hb eX1_uproot_105.2.1 rfl (lv_at hl 2 rfl) ?_
        refine va_get (D := D) (ci := 1) (v := .ref (a 53)) (C := RX1) (T := TX1) (N := 9) hx hb ht inX1 hown hK hP 49 CW_49 rfl 0 (by decide) (ht (.fieldLink RX1 12 "CloneVolumes$Forest" "now" "LCloneVolumes$State;") fl_X1_12) (fun _ h9 => h9) rfl eX1_uproot_105.2.2.1 ?_
        refine lv_iload hx hb eX1_uproot_105.2.2.2.1 (lv_at hl 6 rfl) ?_
        refine lv_iload hx hb eX1_uproot_105.2.2.2.2.1 (lv_at hl 1 rfl) ?_
        refine lv_iload hx hb eX1_uproot_105.2.2.2.2.2.1 (lv_at hl 0 rfl) ?_
        obtain ⟨s25, hc24, h⟩ := bn_e h
        refine ywVv (As := [.int (i2 x4), .int (i2 r15), .int (i2 r21)]) (rest := []) (C := RX8) (n := 3) (ws' := CS D a s25) ⟨hx, hb, hml, hown, ht⟩ (k_x8_set l D a x4 r15 r21 _ _ _ hc24) (zgV ml_X1_252 im_X8_set se_X8_set in_X8 co_X8_set) rfl rfl (by decide +kernel) ⟨Nat.le_of_ble_eq_true rfl, Nat.le_of_ble_eq_true rfl⟩ hN hK hP (hDD _) hS hA 53 CW_53 rfl rfl rfl hl.1 rfl (Nat.le_of_ble_eq_true rfl) eX1_uproot_105.2.2.2.2.2.2.1 ⟨Nat.le_of_ble_eq_true rfl, Nat.le_of_ble_eq_true rfl⟩ (fun H locs hP hS => ?_)
        refine lv_aload_n hx hb eX1_uproot_105.2.2.2.2.2.2.2 rfl (lv_at hl 2 rfl) ?_
        refine va_get (D := D) (ci := 1) (v := .ref (a 51)) (C := RX1) (T := TX1) (N := 9) hx hb ht inX1 hown hK hP 49 CW_49 rfl 7 (by decide) (ht (.fieldLink RX1 41 "CloneVolumes$Forest" "turns" "[I") fl_X1_41) (fun _ h9 => h9) rfl eX1_uproot_120.1 ?_
        refine lv_iload hx hb eX1_uproot_120.2.1 (lv_at hl 7 rfl) ?_
        refine lv_iload hx hb eX1_uproot_120.2.2.1 (lv_at hl 1 rfl) ?_
        obtain ⟨hi26, h⟩ := inb_e h
        refine ya_iast (i := x5) (x := r15) hx hb hK hP (hDD _) hS 51 0 CW_51 rfl (by decide) hi26 eX1_uproot_120.2.2.2.1 (CW_w51 _) (fun H locs hP hS => ?_)
        obtain ⟨s27, hs27, h⟩ := st_e h
        rw [hs27] at hP
        refine lv_iload hx hb eX1_uproot_120.2.2.2.2.1 (lv_at hl 0 rfl) ?_
        refine lv_istore (lv' := [(4, .int (i2 r21)), (7, .int (i2 r21)), (6, .int (i2 r15)), (0, .ref (a 49)), (1, .int (i2 x1)), (2, .int (i2 x2)), (3, .int (i2 x3)), (5, .int (i2 x5))]) hx hb eX1_uproot_120.2.2.2.2.2.1 hl (by decide) rfl (fun ls hl => ?_)
        refine lv_iinc (v := i2 (x5 + 1)) (lv' := [(5, .int (i2 (x5 + 1))), (4, .int (i2 r21)), (7, .int (i2 r21)), (6, .int (i2 r15)), (0, .ref (a 49)), (1, .int (i2 x1)), (2, .int (i2 x2)), (3, .int (i2 x3))]) hx hb eX1_uproot_120.2.2.2.2.2.2.1 hl (k := 7) rfl (i2_add x5 1) (by decide) rfl (fun ls hl => ?_)
        refine lv_goto (tgt := 55) hx hb eX1_uproot_120.2.2.2.2.2.2.2 (by decide) ?_
        exact ih55 (x1, x2, x3, r21, x5 + 1, s27) _ _ _ ⟨hP, hS, lv_sub hl [4, 5, 6, 7, 1, 0] rfl, h⟩
      · rw [show ((-1) : Int32) = i2 (-1) from by decide] at c23
        have h := if_t ((i2_eq (x := r21) (y := (-1)) hr22 (by decide)).mp c23) h
        refine lv_iconst (v := 0) hx hb eX1_uproot_89.2.2.2.2.2.2.2 (by decide) ?_
        obtain rfl := Option.some.inj h
        exact W.zret (v := 0) hx hb hr (by decide) (fun t ht hW => ⟨⟨_, (), rfl, rfl, by rw [ht]; exact hP, va_K.moved hW.alike hK, hDD _⟩, hS.F ht⟩) hS.2.2 eX1_uproot_105.1
  refine lv_aload_n hx hb eX1_uproot_0.1 rfl (lv_at hl 0 rfl) ?_
  refine va_get (D := D) (ci := 1) (v := .ref (a 53)) (C := RX1) (T := TX1) (N := 9) hx hb ht inX1 hown hK hP 49 CW_49 rfl 0 (by decide) (ht (.fieldLink RX1 12 "CloneVolumes$Forest" "now" "LCloneVolumes$State;") fl_X1_12) (fun _ h9 => h9) rfl eX1_uproot_0.2.1 ?_
  refine va_get (D := D) (ci := 8) (v := .ref (a 56)) (C := RX8) (T := TX8) (N := 11) hx hb ht inX8 hown hK hP 53 CW_53 rfl 5 (by decide) (ht (.fieldLink RX1 150 "CloneVolumes$State" "level" "[I") fl_X1_150) (fun _ h9 => h9) rfl eX1_uproot_0.2.2.1 ?_
  refine lv_aload_n hx hb eX1_uproot_0.2.2.2.1 rfl (lv_at hl 0 rfl) ?_
  refine va_get (D := D) (ci := 1) (v := .ref (a 53)) (C := RX1) (T := TX1) (N := 9) hx hb ht inX1 hown hK hP 49 CW_49 rfl 0 (by decide) (ht (.fieldLink RX1 12 "CloneVolumes$Forest" "now" "LCloneVolumes$State;") fl_X1_12) (fun _ h9 => h9) rfl eX1_uproot_0.2.2.2.2.1 ?_
  refine va_get (D := D) (ci := 8) (v := .ref (a 60)) (C := RX8) (T := TX8) (N := 11) hx hb ht inX8 hown hK hP 53 CW_53 rfl 9 (by decide) (ht (.fieldLink RX1 69 "CloneVolumes$State" "roots" "[I") fl_X1_69) (fun _ h9 => h9) rfl eX1_uproot_0.2.2.2.2.2.1 ?_
  refine lv_iload_n hx hb eX1_uproot_0.2.2.2.2.2.2.1 rfl (lv_at hl 1 rfl) ?_
  obtain ⟨y28, ey28, iy28, h⟩ := rdI_e h
  refine ya_iald (i := p0) hx hb hK hP 60 0 CW_60 rfl (by decide) ey28 iy28 eX1_uproot_0.2.2.2.2.2.2.2 ?_
  obtain ⟨y29, ey29, iy29, h⟩ := rdI_e h
  refine ya_iald (i := y28) hx hb hK hP 56 0 CW_56 rfl (by decide) ey29 iy29 eX1_uproot_16.1 ?_
  refine lv_istore_n (lv' := [(3, .int (i2 y29)), (0, .ref (a 49)), (1, .int (i2 p0)), (2, .int (i2 p1))]) hx hb eX1_uproot_16.2.1 rfl hl (by decide) rfl (fun ls hl => ?_)
  refine lv_aload_n hx hb eX1_uproot_16.2.2.1 rfl (lv_at hl 1 rfl) ?_
  refine lv_aload_n hx hb eX1_uproot_16.2.2.2.1 rfl (lv_at hl 1 rfl) ?_
  refine va_get (D := D) (ci := 1) (v := .ref (a 53)) (C := RX1) (T := TX1) (N := 9) hx hb ht inX1 hown hK hP 49 CW_49 rfl 0 (by decide) (ht (.fieldLink RX1 12 "CloneVolumes$Forest" "now" "LCloneVolumes$State;") fl_X1_12) (fun _ h9 => h9) rfl eX1_uproot_16.2.2.2.2.1 ?_
  refine va_get (D := D) (ci := 8) (v := .ref (a 60)) (C := RX8) (T := TX8) (N := 11) hx hb ht inX8 hown hK hP 53 CW_53 rfl 9 (by decide) (ht (.fieldLink RX1 69 "CloneVolumes$State" "roots" "[I") fl_X1_69) (fun _ h9 => h9) rfl eX1_uproot_16.2.2.2.2.2.1 ?_
  refine lv_iload_n hx hb eX1_uproot_16.2.2.2.2.2.2.1 rfl (lv_at hl 2 rfl) ?_
  obtain ⟨y30, ey30, iy30, h⟩ := rdI_e h
  refine ya_iald (i := p0) hx hb hK hP 60 0 CW_60 rfl (by decide) ey30 iy30 eX1_uproot_16.2.2.2.2.2.2.2 ?_
  obtain ⟨⟨r33, s32⟩, hc31, h⟩ := bn_e h
  refine ywV (r0 := i2 r33) (As := [.int (i2 y30)]) (rest := []) (C := RX1) (n := 1) (ws' := CS D a s32) ⟨hx, hb, hml, hown, ht⟩ (k_x1_owned l D a y30 _ _ _ hc31) (zgV ml_X1_236 im_X1_owned se_X1_owned in_X1 co_X1_owned) rfl rfl (by decide +kernel) ⟨Nat.le_of_ble_eq_true rfl, Nat.le_of_ble_eq_true rfl⟩ hN hK hP (hDD _) hS hA 49 CW_49 rfl rfl rfl hl.1 rfl (Nat.le_of_ble_eq_true rfl) eX1_uproot_28.1 ⟨Nat.le_of_ble_eq_true rfl, Nat.le_of_ble_eq_true rfl⟩ (fun H locs hP hS => ?_)
  refine lv_istore (lv' := [(4, .int (i2 r33)), (3, .int (i2 y29)), (0, .ref (a 49)), (1, .int (i2 p0)), (2, .int (i2 p1))]) hx hb eX1_uproot_28.2.1 hl (by decide) rfl (fun ls hl => ?_)
  refine lv_iload hx hb eX1_uproot_28.2.2.1 (lv_at hl 0 rfl) ?_
  refine lv_iconst (v := (-1)) hx hb eX1_uproot_28.2.2.2.1 (by decide) ?_
  obtain ⟨hr34, h⟩ := rg_e h
  refine lv_icmp_ne (tgt := 41) hx hb eX1_uproot_28.2.2.2.2.1 (by decide) (fun c35 => ?_) (fun c35 => ?_)
  · rw [show ((-1) : Int32) = i2 (-1) from by decide] at c35
    have h := if_f (mt (i2_eq (x := r33) (y := (-1)) hr34 (by decide)).mpr c35) h
    refine lv_aload_n hx hb eX1_uproot_28.2.2.2.2.2.2.2 rfl (lv_at hl 2 rfl) ?_
    refine va_get (D := D) (ci := 1) (v := .ref (a 53)) (C := RX1) (T := TX1) (N := 9) hx hb ht inX1 hown hK hP 49 CW_49 rfl 0 (by decide) (ht (.fieldLink RX1 12 "CloneVolumes$Forest" "now" "LCloneVolumes$State;") fl_X1_12) (fun _ h9 => h9) rfl eX1_uproot_42.1 ?_
    refine va_get (D := D) (ci := 8) (v := .ref (a 60)) (C := RX8) (T := TX8) (N := 11) hx hb ht inX8 hown hK hP 53 CW_53 rfl 9 (by decide) (ht (.fieldLink RX1 69 "CloneVolumes$State" "roots" "[I") fl_X1_69) (fun _ h9 => h9) rfl eX1_uproot_42.2.1 ?_
    refine lv_iload_n hx hb eX1_uproot_42.2.2.1 rfl (lv_at hl 3 rfl) ?_
    refine lv_iload hx hb eX1_uproot_42.2.2.2.1 (lv_at hl 0 rfl) ?_
    obtain ⟨hi36, h⟩ := inb_e h
    refine ya_iast (i := p0) (x := r33) hx hb hK hP (hDD _) hS 60 0 CW_60 rfl (by decide) hi36 eX1_uproot_42.2.2.2.2.1 (CW_w60 _) (fun H locs hP hS => ?_)
    obtain ⟨s37, hs37, h⟩ := st_e h
    rw [hs37] at hP
    refine lv_iconst (v := 0) hx hb eX1_uproot_42.2.2.2.2.2.1 (by decide) ?_
    refine lv_istore (lv' := [(5, .int 0), (4, .int (i2 r33)), (3, .int (i2 y29)), (0, .ref (a 49)), (1, .int (i2 p0)), (2, .int (i2 p1))]) hx hb eX1_uproot_42.2.2.2.2.2.2.1 hl (by decide) rfl (fun ls hl => ?_)
    exact J55 FU (p0, p1, y29, r33, 0, s37) _ _ _ ⟨hP, hS, lv_sub hl [3, 4, 5, 2, 1, 0] rfl, h⟩
  · rw [show ((-1) : Int32) = i2 (-1) from by decide] at c35
    have h := if_t ((i2_eq (x := r33) (y := (-1)) hr34 (by decide)).mp c35) h
    refine lv_iconst (v := 0) hx hb eX1_uproot_28.2.2.2.2.2.1 (by decide) ?_
    obtain rfl := Option.some.inj h
    exact W.zret (v := 0) hx hb hr (by decide) (fun t ht hW => ⟨⟨_, (), rfl, rfl, by rw [ht]; exact hP, va_K.moved hW.alike hK, hDD _⟩, hS.F ht⟩) hS.2.2 eX1_uproot_28.2.2.2.2.2.2.1
set_option maxHeartbeats 4000000 in
set_option maxRecDepth 100000 in
theorem k_x1_tryUproot (l : Launch) (D : va_G) (a : Nat → Nat) (p0 : Int) (p1 : Int) (sz : Nat) (s : MS) (o : (Int × MS)) (h : m_x1_tryUproot p0 p1 s = some o) : yWi l yX1_tryUproot cX1_tryUproot 4 (some .boolean) { frames := 5, cells := 0, slots := 0, locals := 300 } D sz [.ref (a 49), .int (i2 p0), .int (i2 p1)] (CS D a s) (CS D a o.2) (i2 o.1) := by
  refine Met.ofW (cc := cX1_tryUproot) (maxL := 4) (ret := (some .boolean)) (by decide) rfl ?_
  intro p e s₀ m args below meth c s₁ B hml hv
  obtain ⟨rfl, ⟨hsz, hP, hK, hD0⟩, hN⟩ := hv
  have hx := B.exec
  have hb := B.bytes
  have hr := B.returns
  have hts := atoms_spec (ws := wz yX1_tryUproot cX1_tryUproot 4 (some .boolean)) B.pre
  have ht : ∀ w ∈ lw_gd, w.before _ s₀ = true := fun w h => hts w (List.mem_cons_of_mem _ h)
  have hown : s₀.vm.findClass RX1 = some m.cls := findClass_of_methodNamed B.named
  have hlocks := B.notSynchronized
  subst hsz
  have hD := hD0.self (sz := s₀.heap.size)
  generalize hAe : va_A (CS D a s) s₀.heap.size = A at hD ⊢
  have hA : ∀ q : Nat, s₀.heap.size ≤ q → A q := fun q h => by rw [← hAe]; exact Or.inr h
  have hS : va_S A s₀.heap s₀.heap [] := va_S.rf
  have hDD : ∀ t : MS, va_D A (CS D a t) := fun t => CW_D t hD
  have hl := lv_entry ([.ref (a 49), .int (i2 p0), .int (i2 p1)]) (n := 4) (Nat.le_of_ble_eq_true rfl)
  rw [lg_entry_eq]
  generalize (lg_sl ([.ref (a 49), .int (i2 p0), .int (i2 p1)]) ++ List.replicate (4 - (lg_sl ([.ref (a 49), .int (i2 p0), .int (i2 p1)])).length) Slot.unset).toArray = ls at hl ⊢
  have hl : lv_has ls 4 [(0, .ref (a 49)), (1, .int (i2 p0)), (2, .int (i2 p1))] := hl
  unfold m_x1_tryUproot at h
  refine y_head (pcJ := 56) (σ := Int × MS) (fun u H locs ls => va_P D vwCl (CS D a u.2) H ∧ va_S A s₀.heap H locs ∧ lv_has ls 4 [(3, .int (i2 u.1))] ∧ m_x1_tryUproot_J56 u.1 u.2 = some o) (fun u => []) (fun u H locs ls hI => ?_) (fun J56 => ?_)
  · obtain ⟨hP, hS, hl, h⟩ := hI
    obtain ⟨x1, s2⟩ := u
    have hP : va_P D vwCl (CS D a s2) H := hP
    have hl : lv_has ls 4 [(3, .int (i2 x1))] := hl
    have h : m_x1_tryUproot_J56 x1 s2 = some o := h
    unfold m_x1_tryUproot_J56 at h
    refine lv_iload_n hx hb eX1_tryUproot_42.2.2.2.2.2.2.1 rfl (lv_at hl 0 rfl) ?_
    obtain ⟨hb3, h⟩ := bo_e h
    obtain rfl := Option.some.inj h
    exact W.zret (v := (i2 x1)) hx hb hr (bo_n hb3) (fun t ht hW => ⟨⟨_, (), rfl, rfl, by rw [ht]; exact hP, va_K.moved hW.alike hK, hDD _⟩, hS.F ht⟩) hS.2.2 eX1_tryUproot_42.2.2.2.2.2.2.2
  refine lv_aload_n hx hb eX1_tryUproot_0.1 rfl (lv_at hl 0 rfl) ?_
  refine va_get (D := D) (ci := 1) (v := .ref (a 53)) (C := RX1) (T := TX1) (N := 9) hx hb ht inX1 hown hK hP 49 CW_49 rfl 0 (by decide) (ht (.fieldLink RX1 12 "CloneVolumes$Forest" "now" "LCloneVolumes$State;") fl_X1_12) (fun _ h9 => h9) rfl eX1_tryUproot_0.2.1 ?_
  refine lv_aload_n hx hb eX1_tryUproot_0.2.2.1 rfl (lv_at hl 0 rfl) ?_
  refine va_get (D := D) (ci := 1) (v := .ref (a 53)) (C := RX1) (T := TX1) (N := 9) hx hb ht inX1 hown hK hP 49 CW_49 rfl 0 (by decide) (ht (.fieldLink RX1 12 "CloneVolumes$Forest" "now" "LCloneVolumes$State;") fl_X1_12) (fun _ h9 => h9) rfl eX1_tryUproot_0.2.2.2.1 ?_
  refine va_get (D := D) (ci := 8) (v := .ref (a 60)) (C := RX8) (T := TX8) (N := 11) hx hb ht inX8 hown hK hP 53 CW_53 rfl 9 (by decide) (ht (.fieldLink RX1 69 "CloneVolumes$State" "roots" "[I") fl_X1_69) (fun _ h9 => h9) rfl eX1_tryUproot_0.2.2.2.2.1 ?_
  refine lv_iload_n hx hb eX1_tryUproot_0.2.2.2.2.2.1 rfl (lv_at hl 1 rfl) ?_
  obtain ⟨y4, ey4, iy4, h⟩ := rdI_e h
  refine ya_iald (i := p0) hx hb hK hP 60 0 CW_60 rfl (by decide) ey4 iy4 eX1_tryUproot_0.2.2.2.2.2.2.1 ?_
  refine lv_iload_n hx hb eX1_tryUproot_0.2.2.2.2.2.2.2 rfl (lv_at hl 2 rfl) ?_
  obtain ⟨r6, hc5, h⟩ := bn_e h
  refine ycV (r0 := i2 r6) (As := [.int (i2 y4), .int (i2 p1)]) (rest := []) (C := RX8) (n := 2) ⟨hx, hb, hml, hown, ht⟩ (k_x8_valueAt l D a y4 p1 _ _ hc5) (zgV ml_X1_138 im_X8_valueAt se_X8_valueAt in_X8 co_X8_valueAt) rfl rfl (by decide +kernel) ⟨Nat.le_of_ble_eq_true rfl, Nat.le_of_ble_eq_true rfl⟩ hN hK hP hS 53 CW_53 rfl rfl rfl hl.1 rfl (Nat.le_of_ble_eq_true rfl) eX1_tryUproot_14.1 ⟨Nat.le_of_ble_eq_true rfl, Nat.le_of_ble_eq_true rfl⟩ (fun H locs hP hS => ?_)
  refine lv_iconst (v := (-1)) hx hb eX1_tryUproot_14.2.1 (by decide) ?_
  obtain ⟨hr7, h⟩ := rg_e h
  refine lv_icmp_ne (tgt := 23) hx hb eX1_tryUproot_14.2.2.1 (by decide) (fun c8 => ?_) (fun c8 => ?_)
  · rw [show ((-1) : Int32) = i2 (-1) from by decide] at c8
    have h := if_f (mt (i2_eq (x := r6) (y := (-1)) hr7 (by decide)).mpr c8) h
    refine lv_aload_n hx hb eX1_tryUproot_14.2.2.2.2.2.1 rfl (lv_at hl 0 rfl) ?_
    refine va_get (D := D) (ci := 1) (v := .ref (a 71)) (C := RX1) (T := TX1) (N := 9) hx hb ht inX1 hown hK hP 49 CW_49 rfl 2 (by decide) (ht (.fieldLink RX1 21 "CloneVolumes$Forest" "inner" "LCloneVolumes$State;") fl_X1_21) (fun _ h9 => h9) rfl eX1_tryUproot_14.2.2.2.2.2.2.1 ?_
    refine lv_aload_n hx hb eX1_tryUproot_14.2.2.2.2.2.2.2 rfl (lv_at hl 0 rfl) ?_
    refine va_get (D := D) (ci := 1) (v := .ref (a 53)) (C := RX1) (T := TX1) (N := 9) hx hb ht inX1 hown hK hP 49 CW_49 rfl 0 (by decide) (ht (.fieldLink RX1 12 "CloneVolumes$Forest" "now" "LCloneVolumes$State;") fl_X1_12) (fun _ h9 => h9) rfl eX1_tryUproot_28.1 ?_
    obtain ⟨s10, hc9, h⟩ := bn_e h
    refine ywVv (As := [.ref (a 53)]) (rest := []) (C := RX8) (n := 1) (ws' := CS D a s10) ⟨hx, hb, hml, hown, ht⟩ (k_x8_become_v3 l D a _ _ _ hc9) (zgV ml_X1_100 im_X8_become se_X8_become in_X8 co_X8_become) rfl rfl (by decide +kernel) ⟨Nat.le_of_ble_eq_true rfl, Nat.le_of_ble_eq_true rfl⟩ hN hK hP (hDD _) hS hA 71 CW_71 rfl rfl rfl hl.1 rfl (Nat.le_of_ble_eq_true rfl) eX1_tryUproot_28.2.1 ⟨Nat.le_of_ble_eq_true rfl, Nat.le_of_ble_eq_true rfl⟩ (fun H locs hP hS => ?_)
    refine lv_aload_n hx hb eX1_tryUproot_28.2.2.1 rfl (lv_at hl 0 rfl) ?_
    refine lv_iload_n hx hb eX1_tryUproot_28.2.2.2.1 rfl (lv_at hl 1 rfl) ?_
    refine lv_iload_n hx hb eX1_tryUproot_28.2.2.2.2.1 rfl (lv_at hl 2 rfl) ?_
    obtain ⟨⟨r13, s12⟩, hc11, h⟩ := bn_e h
    refine ywV (r0 := i2 r13) (As := [.int (i2 p0), .int (i2 p1)]) (rest := []) (C := RX1) (n := 2) (ws' := CS D a s12) ⟨hx, hb, hml, hown, ht⟩ (k_x1_uproot l D a p0 p1 _ _ _ hc11) (zgV ml_X1_265 im_X1_uproot se_X1_uproot in_X1 co_X1_uproot) rfl rfl (by decide +kernel) ⟨Nat.le_of_ble_eq_true rfl, Nat.le_of_ble_eq_true rfl⟩ hN hK hP (hDD _) hS hA 49 CW_49 rfl rfl rfl hl.1 rfl (Nat.le_of_ble_eq_true rfl) eX1_tryUproot_28.2.2.2.2.2.1 ⟨Nat.le_of_ble_eq_true rfl, Nat.le_of_ble_eq_true rfl⟩ (fun H locs hP hS => ?_)
    refine lv_istore_n (lv' := [(3, .int (i2 r13)), (0, .ref (a 49)), (1, .int (i2 p0)), (2, .int (i2 p1))]) hx hb eX1_tryUproot_28.2.2.2.2.2.2.1 rfl hl (by decide) rfl (fun ls hl => ?_)
    refine lv_iload_n hx hb eX1_tryUproot_28.2.2.2.2.2.2.2 rfl (lv_at hl 0 rfl) ?_
    obtain ⟨hr14, h⟩ := rg_e h
    refine lv_if_ne (tgt := 56) hx hb eX1_tryUproot_42.1 (by decide) (fun c15 => ?_) (fun c15 => ?_)
    · have h := if_f (mt (i2_eq (x := r13) (y := 0) hr14 (by decide)).mpr c15) h
      exact J56 (r13, s12) _ _ _ ⟨hP, hS, lv_sub hl [0] rfl, h⟩
    · have h := if_t ((i2_eq (x := r13) (y := 0) hr14 (by decide)).mp c15) h
      refine lv_aload_n hx hb eX1_tryUproot_42.2.1 rfl (lv_at hl 1 rfl) ?_
      refine va_get (D := D) (ci := 1) (v := .ref (a 53)) (C := RX1) (T := TX1) (N := 9) hx hb ht inX1 hown hK hP 49 CW_49 rfl 0 (by decide) (ht (.fieldLink RX1 12 "CloneVolumes$Forest" "now" "LCloneVolumes$State;") fl_X1_12) (fun _ h9 => h9) rfl eX1_tryUproot_42.2.2.1 ?_
      refine lv_aload_n hx hb eX1_tryUproot_42.2.2.2.1 rfl (lv_at hl 1 rfl) ?_
      refine va_get (D := D) (ci := 1) (v := .ref (a 71)) (C := RX1) (T := TX1) (N := 9) hx hb ht inX1 hown hK hP 49 CW_49 rfl 2 (by decide) (ht (.fieldLink RX1 21 "CloneVolumes$Forest" "inner" "LCloneVolumes$State;") fl_X1_21) (fun _ h9 => h9) rfl eX1_tryUproot_42.2.2.2.2.1 ?_
      obtain ⟨s17, hc16, h⟩ := bn_e h
      refine ywVv (As := [.ref (a 71)]) (rest := []) (C := RX8) (n := 1) (ws' := CS D a s17) ⟨hx, hb, hml, hown, ht⟩ (k_x8_become_v4 l D a _ _ _ hc16) (zgV ml_X1_100 im_X8_become se_X8_become in_X8 co_X8_become) rfl rfl (by decide +kernel) ⟨Nat.le_of_ble_eq_true rfl, Nat.le_of_ble_eq_true rfl⟩ hN hK hP (hDD _) hS hA 53 CW_53 rfl rfl rfl hl.1 rfl (Nat.le_of_ble_eq_true rfl) eX1_tryUproot_42.2.2.2.2.2.1 ⟨Nat.le_of_ble_eq_true rfl, Nat.le_of_ble_eq_true rfl⟩ (fun H locs hP hS => ?_)
      exact J56 (r13, s17) _ _ _ ⟨hP, hS, lv_sub hl [0] rfl, h⟩
  · rw [show ((-1) : Int32) = i2 (-1) from by decide] at c8
    have h := if_t ((i2_eq (x := r6) (y := (-1)) hr7 (by decide)).mp c8) h
    refine lv_iconst (v := 0) hx hb eX1_tryUproot_14.2.2.2.1 (by decide) ?_
    obtain rfl := Option.some.inj h
    exact W.zret (v := 0) hx hb hr (by decide) (fun t ht hW => ⟨⟨_, (), rfl, rfl, by rw [ht]; exact hP, va_K.moved hW.alike hK, hDD _⟩, hS.F ht⟩) hS.2.2 eX1_tryUproot_14.2.2.2.2.1
set_option maxHeartbeats 4000000 in
set_option maxRecDepth 100000 in
theorem k_x8_freeNumber (l : Launch) (D : va_G) (a : Nat → Nat) (s : MS) (o : Int) (h : m_x8_freeNumber s = some o) : yRi l yX8_freeNumber cX8_freeNumber 2 (some .int) { frames := 1, cells := 0, slots := 0, locals := 60 } D [.ref (a 53)] (CS D a s) (i2 o) := by
  refine Met.ofW (cc := cX8_freeNumber) (maxL := 2) (ret := (some .int)) (by decide) rfl ?_
  intro p e s₀ m args below meth c s₁ B hml hv
  obtain ⟨rfl, ⟨hP, hK⟩, hN⟩ := hv
  have hx := B.exec
  have hb := B.bytes
  have hr := B.returns
  have hts := atoms_spec (ws := wz yX8_freeNumber cX8_freeNumber 2 (some .int)) B.pre
  have ht : ∀ w ∈ lw_gd, w.before _ s₀ = true := fun w h => hts w (List.mem_cons_of_mem _ h)
  have hown : s₀.vm.findClass RX8 = some m.cls := findClass_of_methodNamed B.named
  have hlocks := B.notSynchronized
  have hS : va_S (fun _ => False) s₀.heap s₀.heap [] := va_S.rf
  have hl := lv_entry ([.ref (a 53)]) (n := 2) (Nat.le_of_ble_eq_true rfl)
  rw [lg_entry_eq]
  generalize (lg_sl ([.ref (a 53)]) ++ List.replicate (2 - (lg_sl ([.ref (a 53)])).length) Slot.unset).toArray = ls at hl ⊢
  have hl : lv_has ls 2 [(0, .ref (a 53))] := hl
  unfold m_x8_freeNumber at h
  refine y_loop (pcJ := 2) (σ := Int) (fun n u H locs ls => va_P D vwCl (CS D a s) H ∧ va_S (fun _ => False) s₀.heap H locs ∧ lv_has ls 2 [(0, .ref (a 53)), (1, .int (i2 u))] ∧ m_x8_freeNumber_L2 s n u = some o) (fun u => []) (fun u H locs ls hI => by obtain ⟨_, _, _, h⟩ := hI; cases h) (fun n2 ih2 u H locs ls hI => ?_) (fun J2 => ?_)
  · obtain ⟨hP, hS, hl, h⟩ := hI
    obtain ⟨x1, rfl⟩ : ∃ z, z = u := ⟨u, rfl⟩
    have hP : va_P D vwCl (CS D a s) H := hP
    have hl : lv_has ls 2 [(0, .ref (a 53)), (1, .int (i2 x1))] := hl
    have h : m_x8_freeNumber_b2 s (m_x8_freeNumber_L2 s n2) x1 = some o := h
    unfold m_x8_freeNumber_b2 at h
    refine lv_iload_n hx hb eX8_delete_86.2.2.2.2.2.2.2 rfl (lv_at hl 1 rfl) ?_
    refine lv_bipush (v := 8) hx hb eX8_freeNumber_3.1 (by decide) ?_
    obtain ⟨hr2, h⟩ := rg_e h
    refine lv_icmp_ge (tgt := 24) hx hb eX8_freeNumber_3.2.1 (by decide) (fun c3 => ?_) (fun c3 => ?_)
    · have h := if_t ((i2_le (x := 8) (y := x1) (by decide) hr2).mp c3) h
      refine lv_iconst (v := (-1)) hx hb eX8_freeNumber_18.2.2.1 (by decide) ?_
      obtain rfl := Option.some.inj h
      exact W.iret (v := (-1)) hx hb hr (fun t ht hW => ⟨⟨_, (), rfl, rfl, trivial⟩, hS.F ht⟩) hS.2.2 eX8_freeNumber_18.2.2.2
    · have h := if_f (mt (i2_le (x := 8) (y := x1) (by decide) hr2).mpr c3) h
      refine lv_aload_n hx hb eX8_freeNumber_3.2.2.1 rfl (lv_at hl 0 rfl) ?_
      refine lv_iload_n hx hb eX8_freeNumber_3.2.2.2.1 rfl (lv_at hl 1 rfl) ?_
      obtain ⟨r5, hc4, h⟩ := bn_e h
      refine ycV (r0 := i2 r5) (As := [.int (i2 x1)]) (rest := []) (C := RX8) (n := 1) ⟨hx, hb, hml, hown, ht⟩ (k_x8_isVolume l D a x1 _ _ hc4) (zgV ml_X8_67 im_X8_isVolume se_X8_isVolume in_X8 co_X8_isVolume) rfl rfl (by decide +kernel) ⟨Nat.le_of_ble_eq_true rfl, Nat.le_of_ble_eq_true rfl⟩ hN hK hP hS 53 CW_53 rfl rfl rfl hl.1 rfl (Nat.le_of_ble_eq_true rfl) eX8_freeNumber_3.2.2.2.2.1 ⟨Nat.le_of_ble_eq_true rfl, Nat.le_of_ble_eq_true rfl⟩ (fun H locs hP hS => ?_)
      obtain ⟨hr6, h⟩ := rg_e h
      refine lv_if_ne (tgt := 18) hx hb eX8_freeNumber_3.2.2.2.2.2.1 (by decide) (fun c7 => ?_) (fun c7 => ?_)
      · have h := if_f (mt (i2_eq (x := r5) (y := 0) hr6 (by decide)).mpr c7) h
        refine lv_iinc (v := i2 (x1 + 1)) (lv' := [(1, .int (i2 (x1 + 1))), (0, .ref (a 53))]) hx hb eX8_freeNumber_18.1 hl (k := 1) rfl (i2_add x1 1) (by decide) rfl (fun ls hl => ?_)
        refine lv_goto (tgt := 2) hx hb eX8_freeNumber_18.2.1 (by decide) ?_
        exact ih2 (x1 + 1) _ _ _ ⟨hP, hS, lv_sub hl [1, 0] rfl, h⟩
      · have h := if_t ((i2_eq (x := r5) (y := 0) hr6 (by decide)).mp c7) h
        refine lv_iload_n hx hb eX8_freeNumber_3.2.2.2.2.2.2.1 rfl (lv_at hl 1 rfl) ?_
        obtain rfl := Option.some.inj h
        exact W.iret (v := (i2 x1)) hx hb hr (fun t ht hW => ⟨⟨_, (), rfl, rfl, trivial⟩, hS.F ht⟩) hS.2.2 eX8_freeNumber_3.2.2.2.2.2.2.2
  refine lv_iconst (v := 0) hx hb eX8_delete_86.2.2.2.2.2.1 (by decide) ?_
  refine lv_istore_n (lv' := [(1, .int 0), (0, .ref (a 53))]) hx hb eX8_delete_86.2.2.2.2.2.2.1 rfl hl (by decide) rfl (fun ls hl => ?_)
  exact J2 FU 0 _ _ _ ⟨hP, hS, lv_sub hl [1, 0] rfl, h⟩
set_option maxHeartbeats 4000000 in
set_option maxRecDepth 100000 in
theorem k_x1_share (l : Launch) (D : va_G) (a : Nat → Nat) (p0 : Int) (p1 : Int) (sz : Nat) (s : MS) (o : MS) (h : m_x1_share p0 p1 s = some o) : yWv l yX1_share cX1_share 3 none { frames := 0, cells := 0, slots := 0, locals := 0 } D sz [.ref (a 49), .int (i2 p0), .int (i2 p1)] (CS D a s) (CS D a o) := by
  refine Met.ofW (cc := cX1_share) (maxL := 3) (ret := none) (by decide) rfl ?_
  intro p e s₀ m args below meth c s₁ B hml hv
  obtain ⟨rfl, ⟨hsz, hP, hK, hD0⟩, hN⟩ := hv
  have hx := B.exec
  have hb := B.bytes
  have hr := B.returns
  have hts := atoms_spec (ws := wz yX1_share cX1_share 3 none) B.pre
  have ht : ∀ w ∈ lw_gd, w.before _ s₀ = true := fun w h => hts w (List.mem_cons_of_mem _ h)
  have hown : s₀.vm.findClass RX1 = some m.cls := findClass_of_methodNamed B.named
  have hlocks := B.notSynchronized
  subst hsz
  have hD := hD0.self (sz := s₀.heap.size)
  generalize hAe : va_A (CS D a s) s₀.heap.size = A at hD ⊢
  have hA : ∀ q : Nat, s₀.heap.size ≤ q → A q := fun q h => by rw [← hAe]; exact Or.inr h
  have hS : va_S A s₀.heap s₀.heap [] := va_S.rf
  have hDD : ∀ t : MS, va_D A (CS D a t) := fun t => CW_D t hD
  have hl := lv_entry ([.ref (a 49), .int (i2 p0), .int (i2 p1)]) (n := 3) (Nat.le_of_ble_eq_true rfl)
  rw [lg_entry_eq]
  generalize (lg_sl ([.ref (a 49), .int (i2 p0), .int (i2 p1)]) ++ List.replicate (3 - (lg_sl ([.ref (a 49), .int (i2 p0), .int (i2 p1)])).length) Slot.unset).toArray = ls at hl ⊢
  have hl : lv_has ls 3 [(0, .ref (a 49)), (1, .int (i2 p0)), (2, .int (i2 p1))] := hl
  unfold m_x1_share at h
  refine y_head (pcJ := 52) (σ := MS) (fun u H locs ls => va_P D vwCl (CS D a u) H ∧ va_S A s₀.heap H locs ∧ lv_has ls 3 [] ∧ m_x1_share_J52 u = some o) (fun u => []) (fun u H locs ls hI => ?_) (fun J52 => ?_)
  · obtain ⟨hP, hS, hl, h⟩ := hI
    obtain ⟨s1, rfl⟩ : ∃ z, z = u := ⟨u, rfl⟩
    have hP : va_P D vwCl (CS D a s1) H := hP
    have hl : lv_has ls 3 [] := hl
    have h : m_x1_share_J52 s1 = some o := h
    unfold m_x1_share_J52 at h
    obtain rfl := Option.some.inj h
    exact W.vret hx hb hr (fun t ht hW => ⟨⟨(), rfl, trivial, by rw [ht]; exact hP, va_K.moved hW.alike hK, hDD _⟩, hS.F ht⟩) hS.2.2 eX1_share_49.2.2.2.1
  refine lv_aload_n hx hb eX1_prune_178.2.2.2.2.2.1 rfl (lv_at hl 0 rfl) ?_
  refine va_get (D := D) (ci := 1) (v := .ref (a 53)) (C := RX1) (T := TX1) (N := 9) hx hb ht inX1 hown hK hP 49 CW_49 rfl 0 (by decide) (ht (.fieldLink RX1 12 "CloneVolumes$Forest" "now" "LCloneVolumes$State;") fl_X1_12) (fun _ h9 => h9) rfl eX1_prune_178.2.2.2.2.2.2.1 ?_
  refine va_get (D := D) (ci := 8) (v := .ref (a 60)) (C := RX8) (T := TX8) (N := 11) hx hb ht inX8 hown hK hP 53 CW_53 rfl 9 (by decide) (ht (.fieldLink RX1 69 "CloneVolumes$State" "roots" "[I") fl_X1_69) (fun _ h9 => h9) rfl eX1_prune_178.2.2.2.2.2.2.2 ?_
  refine lv_iload_n hx hb eX1_share_7.1 rfl (lv_at hl 2 rfl) ?_
  refine lv_aload_n hx hb eX1_share_7.2.1 rfl (lv_at hl 0 rfl) ?_
  refine va_get (D := D) (ci := 1) (v := .ref (a 53)) (C := RX1) (T := TX1) (N := 9) hx hb ht inX1 hown hK hP 49 CW_49 rfl 0 (by decide) (ht (.fieldLink RX1 12 "CloneVolumes$Forest" "now" "LCloneVolumes$State;") fl_X1_12) (fun _ h9 => h9) rfl eX1_share_7.2.2.1 ?_
  refine va_get (D := D) (ci := 8) (v := .ref (a 60)) (C := RX8) (T := TX8) (N := 11) hx hb ht inX8 hown hK hP 53 CW_53 rfl 9 (by decide) (ht (.fieldLink RX1 69 "CloneVolumes$State" "roots" "[I") fl_X1_69) (fun _ h9 => h9) rfl eX1_share_7.2.2.2.1 ?_
  refine lv_iload_n hx hb eX1_share_7.2.2.2.2.1 rfl (lv_at hl 1 rfl) ?_
  obtain ⟨y2, ey2, iy2, h⟩ := rdI_e h
  refine ya_iald (i := p0) hx hb hK hP 60 0 CW_60 rfl (by decide) ey2 iy2 eX1_share_7.2.2.2.2.2.1 ?_
  obtain ⟨hi3, h⟩ := inb_e h
  refine ya_iast (i := p1) (x := y2) hx hb hK hP (hDD _) hS 60 0 CW_60 rfl (by decide) hi3 eX1_share_7.2.2.2.2.2.2.1 (CW_w60 _) (fun H locs hP hS => ?_)
  obtain ⟨s4, hs4, h⟩ := st_e h
  rw [hs4] at hP
  refine lv_aload_n hx hb eX1_share_7.2.2.2.2.2.2.2 rfl (lv_at hl 0 rfl) ?_
  refine va_get (D := D) (ci := 1) (v := .ref (a 53)) (C := RX1) (T := TX1) (N := 9) hx hb ht inX1 hown hK hP 49 CW_49 rfl 0 (by decide) (ht (.fieldLink RX1 12 "CloneVolumes$Forest" "now" "LCloneVolumes$State;") fl_X1_12) (fun _ h9 => h9) rfl eX1_share_19.1 ?_
  refine va_get (D := D) (ci := 8) (v := .ref (a 60)) (C := RX8) (T := TX8) (N := 11) hx hb ht inX8 hown hK hP 53 CW_53 rfl 9 (by decide) (ht (.fieldLink RX1 69 "CloneVolumes$State" "roots" "[I") fl_X1_69) (fun _ h9 => h9) rfl eX1_share_19.2.1 ?_
  refine lv_iload_n hx hb eX1_share_19.2.2.1 rfl (lv_at hl 1 rfl) ?_
  obtain ⟨y5, ey5, iy5, h⟩ := rdI_e h
  refine ya_iald (i := p0) hx hb hK hP 60 0 CW_60 rfl (by decide) ey5 iy5 eX1_share_19.2.2.2.1 ?_
  refine lv_iconst (v := (-1)) hx hb eX1_share_19.2.2.2.2.1 (by decide) ?_
  obtain ⟨hr6, h⟩ := rg_e h
  refine lv_icmp_eq (tgt := 52) hx hb eX1_share_19.2.2.2.2.2.1 (by decide) (fun c7 => ?_) (fun c7 => ?_)
  · rw [show ((-1) : Int32) = i2 (-1) from by decide] at c7
    have h := if_t ((i2_eq (x := y5) (y := (-1)) hr6 (by decide)).mp c7) h
    exact J52 s4 _ _ _ ⟨hP, hS, lv_sub hl [] rfl, h⟩
  · rw [show ((-1) : Int32) = i2 (-1) from by decide] at c7
    have h := if_f (mt (i2_eq (x := y5) (y := (-1)) hr6 (by decide)).mpr c7) h
    refine lv_aload_n hx hb eX1_share_19.2.2.2.2.2.2.1 rfl (lv_at hl 0 rfl) ?_
    refine va_get (D := D) (ci := 1) (v := .ref (a 53)) (C := RX1) (T := TX1) (N := 9) hx hb ht inX1 hown hK hP 49 CW_49 rfl 0 (by decide) (ht (.fieldLink RX1 12 "CloneVolumes$Forest" "now" "LCloneVolumes$State;") fl_X1_12) (fun _ h9 => h9) rfl eX1_share_19.2.2.2.2.2.2.2 ?_
    refine va_get (D := D) (ci := 8) (v := .ref (a 54)) (C := RX8) (T := TX8) (N := 11) hx hb ht inX8 hown hK hP 53 CW_53 rfl 3 (by decide) (ht (.fieldLink RX1 181 "CloneVolumes$State" "count" "[I") fl_X1_181) (fun _ h9 => h9) rfl eX1_share_35.1 ?_
    refine lv_aload_n hx hb eX1_share_35.2.1 rfl (lv_at hl 0 rfl) ?_
    refine va_get (D := D) (ci := 1) (v := .ref (a 53)) (C := RX1) (T := TX1) (N := 9) hx hb ht inX1 hown hK hP 49 CW_49 rfl 0 (by decide) (ht (.fieldLink RX1 12 "CloneVolumes$Forest" "now" "LCloneVolumes$State;") fl_X1_12) (fun _ h9 => h9) rfl eX1_share_35.2.2.1 ?_
    refine va_get (D := D) (ci := 8) (v := .ref (a 60)) (C := RX8) (T := TX8) (N := 11) hx hb ht inX8 hown hK hP 53 CW_53 rfl 9 (by decide) (ht (.fieldLink RX1 69 "CloneVolumes$State" "roots" "[I") fl_X1_69) (fun _ h9 => h9) rfl eX1_share_35.2.2.2.1 ?_
    refine lv_iload_n hx hb eX1_share_35.2.2.2.2.1 rfl (lv_at hl 1 rfl) ?_
    obtain ⟨y8, ey8, iy8, h⟩ := rdI_e h
    refine ya_iald (i := p0) hx hb hK hP 60 0 CW_60 rfl (by decide) ey8 iy8 eX1_share_35.2.2.2.2.2.1 ?_
    refine lv_dup2_11 hx hb eX1_share_35.2.2.2.2.2.2.1 rfl rfl ?_
    obtain ⟨y9, ey9, iy9, h⟩ := rdI_e h
    refine ya_iald (i := y8) hx hb hK hP 54 0 CW_54 rfl (by decide) ey9 iy9 eX1_share_35.2.2.2.2.2.2.2 ?_
    refine lv_iconst (v := 1) hx hb eX1_share_49.1 (by decide) ?_
    refine lv_iadd hx hb eX1_share_49.2.1 ?_
    refine z_topi (y := i2 (y9 + 1)) (i2_add y9 1) ?_
    obtain ⟨hi10, h⟩ := inb_e h
    refine ya_iast (i := y8) (x := (y9 + 1)) hx hb hK hP (hDD _) hS 54 0 CW_54 rfl (by decide) hi10 eX1_share_49.2.2.1 (CW_w54 _) (fun H locs hP hS => ?_)
    obtain ⟨s11, hs11, h⟩ := st_e h
    rw [hs11] at hP
    exact J52 s11 _ _ _ ⟨hP, hS, lv_sub hl [] rfl, h⟩
set_option maxHeartbeats 4000000 in
set_option maxRecDepth 100000 in
theorem k_x1_letGo (l : Launch) (D : va_G) (a : Nat → Nat) (p0 : Int) (sz : Nat) (s : MS) (o : MS) (h : m_x1_letGo p0 s = some o) : yWv l yX1_letGo cX1_letGo 2 none { frames := 2, cells := 0, slots := 0, locals := 120 } D sz [.ref (a 49), .int (i2 p0)] (CS D a s) (CS D a o) := by
  refine Met.ofW (cc := cX1_letGo) (maxL := 2) (ret := none) (by decide) rfl ?_
  intro p e s₀ m args below meth c s₁ B hml hv
  obtain ⟨rfl, ⟨hsz, hP, hK, hD0⟩, hN⟩ := hv
  have hx := B.exec
  have hb := B.bytes
  have hr := B.returns
  have hts := atoms_spec (ws := wz yX1_letGo cX1_letGo 2 none) B.pre
  have ht : ∀ w ∈ lw_gd, w.before _ s₀ = true := fun w h => hts w (List.mem_cons_of_mem _ h)
  have hown : s₀.vm.findClass RX1 = some m.cls := findClass_of_methodNamed B.named
  have hlocks := B.notSynchronized
  subst hsz
  have hD := hD0.self (sz := s₀.heap.size)
  generalize hAe : va_A (CS D a s) s₀.heap.size = A at hD ⊢
  have hA : ∀ q : Nat, s₀.heap.size ≤ q → A q := fun q h => by rw [← hAe]; exact Or.inr h
  have hS : va_S A s₀.heap s₀.heap [] := va_S.rf
  have hDD : ∀ t : MS, va_D A (CS D a t) := fun t => CW_D t hD
  have hl := lv_entry ([.ref (a 49), .int (i2 p0)]) (n := 2) (Nat.le_of_ble_eq_true rfl)
  rw [lg_entry_eq]
  generalize (lg_sl ([.ref (a 49), .int (i2 p0)]) ++ List.replicate (2 - (lg_sl ([.ref (a 49), .int (i2 p0)])).length) Slot.unset).toArray = ls at hl ⊢
  have hl : lv_has ls 2 [(0, .ref (a 49)), (1, .int (i2 p0))] := hl
  unfold m_x1_letGo at h
  refine y_head (pcJ := 34) (σ := Int × MS) (fun u H locs ls => va_P D vwCl (CS D a u.2) H ∧ va_S A s₀.heap H locs ∧ lv_has ls 2 [(0, .ref (a 49)), (1, .int (i2 u.1))] ∧ m_x1_letGo_J34 u.1 u.2 = some o) (fun u => []) (fun u H locs ls hI => ?_) (fun J34 => ?_)
  · obtain ⟨hP, hS, hl, h⟩ := hI
    obtain ⟨x1, s2⟩ := u
    have hP : va_P D vwCl (CS D a s2) H := hP
    have hl : lv_has ls 2 [(0, .ref (a 49)), (1, .int (i2 x1))] := hl
    have h : m_x1_letGo_J34 x1 s2 = some o := h
    unfold m_x1_letGo_J34 at h
    refine lv_aload_n hx hb eX1_letGo_30.2.2.1 rfl (lv_at hl 0 rfl) ?_
    refine va_get (D := D) (ci := 1) (v := .ref (a 53)) (C := RX1) (T := TX1) (N := 9) hx hb ht inX1 hown hK hP 49 CW_49 rfl 0 (by decide) (ht (.fieldLink RX1 12 "CloneVolumes$Forest" "now" "LCloneVolumes$State;") fl_X1_12) (fun _ h9 => h9) rfl eX1_letGo_30.2.2.2.1 ?_
    refine va_get (D := D) (ci := 8) (v := .ref (a 60)) (C := RX8) (T := TX8) (N := 11) hx hb ht inX8 hown hK hP 53 CW_53 rfl 9 (by decide) (ht (.fieldLink RX1 69 "CloneVolumes$State" "roots" "[I") fl_X1_69) (fun _ h9 => h9) rfl eX1_letGo_30.2.2.2.2.1 ?_
    refine lv_iload_n hx hb eX1_letGo_30.2.2.2.2.2.1 rfl (lv_at hl 1 rfl) ?_
    refine lv_bipush (v := (-2)) hx hb eX1_letGo_30.2.2.2.2.2.2.1 (by decide) ?_
    obtain ⟨hi3, h⟩ := inb_e h
    refine ya_iast (i := x1) (x := (-2)) hx hb hK hP (hDD _) hS 60 0 CW_60 rfl (by decide) hi3 eX1_letGo_30.2.2.2.2.2.2.2 (CW_w60 _) (fun H locs hP hS => ?_)
    obtain ⟨s4, hs4, h⟩ := st_e h
    rw [hs4] at hP
    obtain rfl := Option.some.inj h
    exact W.vret hx hb hr (fun t ht hW => ⟨⟨(), rfl, trivial, by rw [ht]; exact hP, va_K.moved hW.alike hK, hDD _⟩, hS.F ht⟩) hS.2.2 eX1_letGo_45.1
  refine lv_aload_n hx hb eX1_letGo_0.1 rfl (lv_at hl 0 rfl) ?_
  refine va_get (D := D) (ci := 1) (v := .ref (a 53)) (C := RX1) (T := TX1) (N := 9) hx hb ht inX1 hown hK hP 49 CW_49 rfl 0 (by decide) (ht (.fieldLink RX1 12 "CloneVolumes$Forest" "now" "LCloneVolumes$State;") fl_X1_12) (fun _ h9 => h9) rfl eX1_letGo_0.2.1 ?_
  refine va_get (D := D) (ci := 8) (v := .ref (a 60)) (C := RX8) (T := TX8) (N := 11) hx hb ht inX8 hown hK hP 53 CW_53 rfl 9 (by decide) (ht (.fieldLink RX1 69 "CloneVolumes$State" "roots" "[I") fl_X1_69) (fun _ h9 => h9) rfl eX1_letGo_0.2.2.1 ?_
  refine lv_iload_n hx hb eX1_letGo_0.2.2.2.1 rfl (lv_at hl 1 rfl) ?_
  obtain ⟨y5, ey5, iy5, h⟩ := rdI_e h
  refine ya_iald (i := p0) hx hb hK hP 60 0 CW_60 rfl (by decide) ey5 iy5 eX1_letGo_0.2.2.2.2.1 ?_
  refine lv_iconst (v := (-1)) hx hb eX1_letGo_0.2.2.2.2.2.1 (by decide) ?_
  obtain ⟨hr6, h⟩ := rg_e h
  refine lv_icmp_eq (tgt := 34) hx hb eX1_letGo_0.2.2.2.2.2.2.1 (by decide) (fun c7 => ?_) (fun c7 => ?_)
  · rw [show ((-1) : Int32) = i2 (-1) from by decide] at c7
    have h := if_t ((i2_eq (x := y5) (y := (-1)) hr6 (by decide)).mp c7) h
    exact J34 (p0, s) _ _ _ ⟨hP, hS, lv_sub hl [0, 1] rfl, h⟩
  · rw [show ((-1) : Int32) = i2 (-1) from by decide] at c7
    have h := if_f (mt (i2_eq (x := y5) (y := (-1)) hr6 (by decide)).mpr c7) h
    refine lv_aload_n hx hb eX1_letGo_0.2.2.2.2.2.2.2 rfl (lv_at hl 0 rfl) ?_
    refine lv_aload_n hx hb eX1_letGo_14.1 rfl (lv_at hl 0 rfl) ?_
    refine va_get (D := D) (ci := 1) (v := .ref (a 53)) (C := RX1) (T := TX1) (N := 9) hx hb ht inX1 hown hK hP 49 CW_49 rfl 0 (by decide) (ht (.fieldLink RX1 12 "CloneVolumes$Forest" "now" "LCloneVolumes$State;") fl_X1_12) (fun _ h9 => h9) rfl eX1_letGo_14.2.1 ?_
    refine va_get (D := D) (ci := 8) (v := .ref (a 60)) (C := RX8) (T := TX8) (N := 11) hx hb ht inX8 hown hK hP 53 CW_53 rfl 9 (by decide) (ht (.fieldLink RX1 69 "CloneVolumes$State" "roots" "[I") fl_X1_69) (fun _ h9 => h9) rfl eX1_letGo_14.2.2.1 ?_
    refine lv_iload_n hx hb eX1_letGo_14.2.2.2.1 rfl (lv_at hl 1 rfl) ?_
    obtain ⟨y8, ey8, iy8, h⟩ := rdI_e h
    refine ya_iald (i := p0) hx hb hK hP 60 0 CW_60 rfl (by decide) ey8 iy8 eX1_letGo_14.2.2.2.2.1 ?_
    refine lv_aload_n hx hb eX1_letGo_14.2.2.2.2.2.1 rfl (lv_at hl 0 rfl) ?_
    refine va_get (D := D) (ci := 1) (v := .ref (a 53)) (C := RX1) (T := TX1) (N := 9) hx hb ht inX1 hown hK hP 49 CW_49 rfl 0 (by decide) (ht (.fieldLink RX1 12 "CloneVolumes$Forest" "now" "LCloneVolumes$State;") fl_X1_12) (fun _ h9 => h9) rfl eX1_letGo_14.2.2.2.2.2.2.1 ?_
    refine va_get (D := D) (ci := 8) (v := .ref (a 54)) (C := RX8) (T := TX8) (N := 11) hx hb ht inX8 hown hK hP 53 CW_53 rfl 3 (by decide) (ht (.fieldLink RX1 181 "CloneVolumes$State" "count" "[I") fl_X1_181) (fun _ h9 => h9) rfl eX1_letGo_14.2.2.2.2.2.2.2 ?_
    obtain ⟨⟨r11, s10⟩, hc9, h⟩ := bn_e h
    refine ywV (r0 := i2 r11) (As := [.int (i2 y8), .ref (a 54)]) (rest := []) (C := RX1) (n := 2) (ws' := CS D a s10) ⟨hx, hb, hml, hown, ht⟩ (k_x1_release_v2 l D a y8 _ _ _ hc9) (zgV ml_X1_223 im_X1_release se_X1_release in_X1 co_X1_release) rfl rfl (by decide +kernel) ⟨Nat.le_of_ble_eq_true rfl, Nat.le_of_ble_eq_true rfl⟩ hN hK hP (hDD _) hS hA 49 CW_49 rfl rfl rfl hl.1 rfl (Nat.le_of_ble_eq_true rfl) eX1_letGo_30.1 ⟨Nat.le_of_ble_eq_true rfl, Nat.le_of_ble_eq_true rfl⟩ (fun H locs hP hS => ?_)
    refine lv_pop hx hb eX1_letGo_30.2.1 rfl ?_
    exact J34 (p0, s10) _ _ _ ⟨hP, hS, lv_sub hl [0, 1] rfl, h⟩
