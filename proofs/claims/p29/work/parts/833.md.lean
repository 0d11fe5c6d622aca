theorem co_X12_codesTold : Cond.code yX12_codesTold cX12_codesTold 4 none ∈ lw_gd := zm (lw_g_8 (List.mem_of_getElem? (i := 109) (by decide +kernel))) rfl
theorem co_X12_putTold : Cond.code yX12_putTold cX12_putTold 3 none ∈ lw_gd := zm (lw_g_8 (List.mem_of_getElem? (i := 101) (by decide +kernel))) rfl
theorem co_X12_qDropsNots : Cond.code yX12_qDropsNots cX12_qDropsNots 1 none ∈ lw_gd := zm (lw_g_8 (List.mem_of_getElem? (i := 180) (by decide +kernel))) rfl
theorem co_X12_qFact : Cond.code yX12_qFact cX12_qFact 2 none ∈ lw_gd := zm (lw_g_8 (List.mem_of_getElem? (i := 121) (by decide +kernel))) rfl
theorem co_X12_qGoesOn : Cond.code yX12_qGoesOn cX12_qGoesOn 2 (some .boolean) ∈ lw_gd := zm (lw_g_8 (List.mem_of_getElem? (i := 161) (by decide +kernel))) rfl
theorem co_X12_qGoesOnTest : Cond.code yX12_qGoesOnTest cX12_qGoesOnTest 1 (some .boolean) ∈ lw_gd := zm (lw_g_8 (List.mem_of_getElem? (i := 184) (by decide +kernel))) rfl
theorem co_X12_qHasSquare : Cond.code yX12_qHasSquare cX12_qHasSquare 2 (some .boolean) ∈ lw_gd := zm (lw_g_8 (List.mem_of_getElem? (i := 188) (by decide +kernel))) rfl
theorem co_X12_qPartTold : Cond.code yX12_qPartTold cX12_qPartTold 6 none ∈ lw_gd := zm (lw_g_8 (List.mem_of_getElem? (i := 133) (by decide +kernel))) rfl
theorem co_X12_qSums : Cond.code yX12_qSums cX12_qSums 3 none ∈ lw_gd := zm (lw_g_8 (List.mem_of_getElem? (i := 129) (by decide +kernel))) rfl
theorem co_X12_qTest : Cond.code yX12_qTest cX12_qTest 3 none ∈ lw_gd := zm (lw_g_8 (List.mem_of_getElem? (i := 113) (by decide +kernel))) rfl
theorem co_X12_removeTold : Cond.code yX12_removeTold cX12_removeTold 2 none ∈ lw_gd := zm (lw_g_8 (List.mem_of_getElem? (i := 105) (by decide +kernel))) rfl
theorem co_X12_volumeTold : Cond.code yX12_volumeTold cX12_volumeTold 6 none ∈ lw_gd := zm (lw_g_8 (List.mem_of_getElem? (i := 75) (by decide +kernel))) rfl
theorem fl_X12_371 : Cond.fieldLink RX12 371 "CloneVolumesModel" "coded" "I" ∈ lw_gd := zm (lw_g_6 (List.mem_of_getElem? (i := 186) (by decide +kernel))) rfl
theorem fl_X12_374 : Cond.fieldLink RX12 374 "CloneVolumesModel" "statements" "I" ∈ lw_gd := zm (lw_g_6 (List.mem_of_getElem? (i := 187) (by decide +kernel))) rfl
theorem im_X12_codesTold : Cond.instanceMethod yX12_codesTold ∈ lw_gd := zm (lw_g_8 (List.mem_of_getElem? (i := 108) (by decide +kernel))) rfl
theorem im_X12_putTold : Cond.instanceMethod yX12_putTold ∈ lw_gd := zm (lw_g_8 (List.mem_of_getElem? (i := 100) (by decide +kernel))) rfl
theorem im_X12_qDropsNots : Cond.instanceMethod yX12_qDropsNots ∈ lw_gd := zm (lw_g_8 (List.mem_of_getElem? (i := 179) (by decide +kernel))) rfl
theorem im_X12_qFact : Cond.instanceMethod yX12_qFact ∈ lw_gd := zm (lw_g_8 (List.mem_of_getElem? (i := 120) (by decide +kernel))) rfl
theorem im_X12_qGoesOn : Cond.instanceMethod yX12_qGoesOn ∈ lw_gd := zm (lw_g_8 (List.mem_of_getElem? (i := 160) (by decide +kernel))) rfl
theorem im_X12_qGoesOnTest : Cond.instanceMethod yX12_qGoesOnTest ∈ lw_gd := zm (lw_g_8 (List.mem_of_getElem? (i := 183) (by decide +kernel))) rfl
theorem im_X12_qHasSquare : Cond.instanceMethod yX12_qHasSquare ∈ lw_gd := zm (lw_g_8 (List.mem_of_getElem? (i := 187) (by decide +kernel))) rfl
theorem im_X12_qPartTold : Cond.instanceMethod yX12_qPartTold ∈ lw_gd := zm (lw_g_8 (List.mem_of_getElem? (i := 132) (by decide +kernel))) rfl
theorem im_X12_qSums : Cond.instanceMethod yX12_qSums ∈ lw_gd := zm (lw_g_8 (List.mem_of_getElem? (i := 128) (by decide +kernel))) rfl
theorem im_X12_qTest : Cond.instanceMethod yX12_qTest ∈ lw_gd := zm (lw_g_8 (List.mem_of_getElem? (i := 112) (by decide +kernel))) rfl
theorem im_X12_removeTold : Cond.instanceMethod yX12_removeTold ∈ lw_gd := zm (lw_g_8 (List.mem_of_getElem? (i := 104) (by decide +kernel))) rfl
theorem im_X12_volumeTold : Cond.instanceMethod yX12_volumeTold ∈ lw_gd := zm (lw_g_8 (List.mem_of_getElem? (i := 74) (by decide +kernel))) rfl
theorem ml_X12_365 : Cond.methodLink RX12 365 yX12_qTest ∈ lw_gd := zm (lw_g_8 (List.mem_of_getElem? (i := 110) (by decide +kernel))) rfl
theorem ml_X12_368 : Cond.methodLink RX12 368 yX12_qSums ∈ lw_gd := zm (lw_g_8 (List.mem_of_getElem? (i := 126) (by decide +kernel))) rfl
theorem ml_X12_377 : Cond.methodLink RX12 377 yX12_volumeTold ∈ lw_gd := zm (lw_g_8 (List.mem_of_getElem? (i := 72) (by decide +kernel))) rfl
theorem ml_X12_381 : Cond.methodLink RX12 381 yX12_putTold ∈ lw_gd := zm (lw_g_8 (List.mem_of_getElem? (i := 98) (by decide +kernel))) rfl
theorem ml_X12_384 : Cond.methodLink RX12 384 yX12_removeTold ∈ lw_gd := zm (lw_g_8 (List.mem_of_getElem? (i := 102) (by decide +kernel))) rfl
theorem ml_X12_387 : Cond.methodLink RX12 387 yX12_codesTold ∈ lw_gd := zm (lw_g_8 (List.mem_of_getElem? (i := 106) (by decide +kernel))) rfl
theorem ml_X12_729 : Cond.methodLink RX12 729 yX12_qPartTold ∈ lw_gd := zm (lw_g_8 (List.mem_of_getElem? (i := 130) (by decide +kernel))) rfl
theorem ml_X12_732 : Cond.methodLink RX12 732 yX12_qGoesOn ∈ lw_gd := zm (lw_g_8 (List.mem_of_getElem? (i := 158) (by decide +kernel))) rfl
theorem ml_X12_735 : Cond.methodLink RX12 735 yX12_qFact ∈ lw_gd := zm (lw_g_8 (List.mem_of_getElem? (i := 118) (by decide +kernel))) rfl
theorem ml_X12_738 : Cond.methodLink RX12 738 yX12_qDropsNots ∈ lw_gd := zm (lw_g_8 (List.mem_of_getElem? (i := 177) (by decide +kernel))) rfl
theorem ml_X12_741 : Cond.methodLink RX12 741 yX12_qGoesOnTest ∈ lw_gd := zm (lw_g_8 (List.mem_of_getElem? (i := 181) (by decide +kernel))) rfl
theorem ml_X12_744 : Cond.methodLink RX12 744 yX12_qHasSquare ∈ lw_gd := zm (lw_g_8 (List.mem_of_getElem? (i := 185) (by decide +kernel))) rfl
theorem se_X12_codesTold : Cond.selects RX12 yX12_codesTold yX12_codesTold ∈ lw_gd := zm (List.mem_of_getElem? (i := 87) (by decide +kernel)) rfl
theorem se_X12_putTold : Cond.selects RX12 yX12_putTold yX12_putTold ∈ lw_gd := zm (List.mem_of_getElem? (i := 85) (by decide +kernel)) rfl
theorem se_X12_qDropsNots : Cond.selects RX12 yX12_qDropsNots yX12_qDropsNots ∈ lw_gd := zm (List.mem_of_getElem? (i := 104) (by decide +kernel)) rfl
theorem se_X12_qFact : Cond.selects RX12 yX12_qFact yX12_qFact ∈ lw_gd := zm (List.mem_of_getElem? (i := 90) (by decide +kernel)) rfl
theorem se_X12_qGoesOn : Cond.selects RX12 yX12_qGoesOn yX12_qGoesOn ∈ lw_gd := zm (List.mem_of_getElem? (i := 100) (by decide +kernel)) rfl
theorem se_X12_qGoesOnTest : Cond.selects RX12 yX12_qGoesOnTest yX12_qGoesOnTest ∈ lw_gd := zm (List.mem_of_getElem? (i := 105) (by decide +kernel)) rfl
theorem se_X12_qHasSquare : Cond.selects RX12 yX12_qHasSquare yX12_qHasSquare ∈ lw_gd := zm (List.mem_of_getElem? (i := 106) (by decide +kernel)) rfl
theorem se_X12_qPartTold : Cond.selects RX12 yX12_qPartTold yX12_qPartTold ∈ lw_gd := zm (List.mem_of_getElem? (i := 93) (by decide +kernel)) rfl
theorem se_X12_qSums : Cond.selects RX12 yX12_qSums yX12_qSums ∈ lw_gd := zm (List.mem_of_getElem? (i := 92) (by decide +kernel)) rfl
theorem se_X12_qTest : Cond.selects RX12 yX12_qTest yX12_qTest ∈ lw_gd := zm (List.mem_of_getElem? (i := 88) (by decide +kernel)) rfl
theorem se_X12_removeTold : Cond.selects RX12 yX12_removeTold yX12_removeTold ∈ lw_gd := zm (List.mem_of_getElem? (i := 86) (by decide +kernel)) rfl
theorem se_X12_volumeTold : Cond.selects RX12 yX12_volumeTold yX12_volumeTold ∈ lw_gd := zm (List.mem_of_getElem? (i := 79) (by decide +kernel)) rfl
theorem eX12_codesTold_0 : decode cX12_codesTold 0 = .ok (.aload_n 0, 1) ∧ decode cX12_codesTold 1 = .ok (.getfield 266, 3) ∧ decode cX12_codesTold 4 = .ok (.ifCond .ne 19, 3) ∧ decode cX12_codesTold 7 = .ok (.aload_n 0, 1) ∧ decode cX12_codesTold 8 = .ok (.getfield 112, 3) ∧ decode cX12_codesTold 11 = .ok (.iload_n 1, 1) ∧ decode cX12_codesTold 12 = .ok (.iaload, 1) ∧ decode cX12_codesTold 13 = .ok (.iconst (-1), 1) := by decide +kernel
theorem eX12_codesTold_14 : decode cX12_codesTold 14 = .ok (.if_icmp .eq 9, 3) ∧ decode cX12_codesTold 17 = .ok (.aload_n 0, 1) ∧ decode cX12_codesTold 18 = .ok (.iconst 5, 1) ∧ decode cX12_codesTold 19 = .ok (.iload_n 2, 1) ∧ decode cX12_codesTold 20 = .ok (.invokevirtual 296, 3) ∧ decode cX12_codesTold 23 = .ok (.aload_n 0, 1) ∧ decode cX12_codesTold 24 = .ok (.getfield 266, 3) ∧ decode cX12_codesTold 27 = .ok (.ifCond .eq 4, 3) := by decide +kernel
theorem eX12_codesTold_30 : decode cX12_codesTold 30 = .ok (.return_, 1) ∧ decode cX12_codesTold 31 = .ok (.aload_n 0, 1) ∧ decode cX12_codesTold 32 = .ok (.iload_n 1, 1) ∧ decode cX12_codesTold 33 = .ok (.putfield 324, 3) ∧ decode cX12_codesTold 36 = .ok (.aload_n 0, 1) ∧ decode cX12_codesTold 37 = .ok (.iconst 0, 1) ∧ decode cX12_codesTold 38 = .ok (.putfield 353, 3) ∧ decode cX12_codesTold 41 = .ok (.aload_n 0, 1) := by decide +kernel
theorem eX12_codesTold_42 : decode cX12_codesTold 42 = .ok (.iconst 0, 1) ∧ decode cX12_codesTold 43 = .ok (.putfield 356, 3) ∧ decode cX12_codesTold 46 = .ok (.aload_n 0, 1) ∧ decode cX12_codesTold 47 = .ok (.iconst 0, 1) ∧ decode cX12_codesTold 48 = .ok (.putfield 359, 3) ∧ decode cX12_codesTold 51 = .ok (.aload_n 0, 1) ∧ decode cX12_codesTold 52 = .ok (.iconst 0, 1) ∧ decode cX12_codesTold 53 = .ok (.putfield 362, 3) := by decide +kernel
theorem eX12_codesTold_56 : decode cX12_codesTold 56 = .ok (.iload_n 1, 1) ∧ decode cX12_codesTold 57 = .ok (.iconst 1, 1) ∧ decode cX12_codesTold 58 = .ok (.if_icmp .ne 10, 3) ∧ decode cX12_codesTold 61 = .ok (.aload_n 0, 1) ∧ decode cX12_codesTold 62 = .ok (.invokevirtual 365, 3) ∧ decode cX12_codesTold 65 = .ok (.goto 7, 3) ∧ decode cX12_codesTold 68 = .ok (.aload_n 0, 1) ∧ decode cX12_codesTold 69 = .ok (.invokevirtual 368, 3) := by decide +kernel
theorem eX12_codesTold_72 : decode cX12_codesTold 72 = .ok (.aload_n 0, 1) ∧ decode cX12_codesTold 73 = .ok (.getfield 266, 3) ∧ decode cX12_codesTold 76 = .ok (.ifCond .eq 4, 3) ∧ decode cX12_codesTold 79 = .ok (.return_, 1) ∧ decode cX12_codesTold 80 = .ok (.aload_n 0, 1) ∧ decode cX12_codesTold 81 = .ok (.getfield 112, 3) ∧ decode cX12_codesTold 84 = .ok (.iload_n 1, 1) ∧ decode cX12_codesTold 85 = .ok (.aload_n 0, 1) := by decide +kernel
theorem eX12_codesTold_86 : decode cX12_codesTold 86 = .ok (.getfield 371, 3) ∧ decode cX12_codesTold 89 = .ok (.iastore, 1) ∧ decode cX12_codesTold 90 = .ok (.iconst 0, 1) ∧ decode cX12_codesTold 91 = .ok (.istore_n 3, 1) ∧ decode cX12_codesTold 92 = .ok (.iload_n 3, 1) ∧ decode cX12_codesTold 93 = .ok (.aload_n 0, 1) ∧ decode cX12_codesTold 94 = .ok (.getfield 353, 3) ∧ decode cX12_codesTold 97 = .ok (.if_icmp .ge 34, 3) := by decide +kernel
theorem eX12_codesTold_100 : decode cX12_codesTold 100 = .ok (.aload_n 0, 1) ∧ decode cX12_codesTold 101 = .ok (.getfield 118, 3) ∧ decode cX12_codesTold 104 = .ok (.aload_n 0, 1) ∧ decode cX12_codesTold 105 = .ok (.getfield 371, 3) ∧ decode cX12_codesTold 108 = .ok (.aload_n 0, 1) ∧ decode cX12_codesTold 109 = .ok (.getfield 243, 3) ∧ decode cX12_codesTold 112 = .ok (.iload_n 3, 1) ∧ decode cX12_codesTold 113 = .ok (.iaload, 1) := by decide +kernel
theorem eX12_codesTold_114 : decode cX12_codesTold 114 = .ok (.iastore, 1) ∧ decode cX12_codesTold 115 = .ok (.aload_n 0, 1) ∧ decode cX12_codesTold 116 = .ok (.dup, 1) ∧ decode cX12_codesTold 117 = .ok (.getfield 371, 3) ∧ decode cX12_codesTold 120 = .ok (.iconst 1, 1) ∧ decode cX12_codesTold 121 = .ok (.iadd, 1) ∧ decode cX12_codesTold 122 = .ok (.putfield 371, 3) ∧ decode cX12_codesTold 125 = .ok (.iinc 3 1, 3) := by decide +kernel
theorem eX12_codesTold_128 : decode cX12_codesTold 128 = .ok (.goto (-36), 3) ∧ decode cX12_codesTold 131 = .ok (.aload_n 0, 1) ∧ decode cX12_codesTold 132 = .ok (.getfield 115, 3) ∧ decode cX12_codesTold 135 = .ok (.iload_n 1, 1) ∧ decode cX12_codesTold 136 = .ok (.aload_n 0, 1) ∧ decode cX12_codesTold 137 = .ok (.getfield 371, 3) ∧ decode cX12_codesTold 140 = .ok (.iastore, 1) ∧ decode cX12_codesTold 141 = .ok (.return_, 1) := by decide +kernel
theorem eX12_qDropsNots_0 : decode cX12_qDropsNots 0 = .ok (.aload_n 0, 1) ∧ decode cX12_qDropsNots 1 = .ok (.getfield 266, 3) ∧ decode cX12_qDropsNots 4 = .ok (.ifCond .ne 29, 3) ∧ decode cX12_qDropsNots 7 = .ok (.aload_n 0, 1) ∧ decode cX12_qDropsNots 8 = .ok (.bipush 12, 2) ∧ decode cX12_qDropsNots 10 = .ok (.invokevirtual 726, 3) ∧ decode cX12_qDropsNots 13 = .ok (.ifCond .eq 20, 3) ∧ decode cX12_qDropsNots 16 = .ok (.aload_n 0, 1) := by decide +kernel
theorem eX12_qDropsNots_17 : decode cX12_qDropsNots 17 = .ok (.dup, 1) ∧ decode cX12_qDropsNots 18 = .ok (.getfield 359, 3) ∧ decode cX12_qDropsNots 21 = .ok (.iconst 1, 1) ∧ decode cX12_qDropsNots 22 = .ok (.isub, 1) ∧ decode cX12_qDropsNots 23 = .ok (.putfield 359, 3) ∧ decode cX12_qDropsNots 26 = .ok (.aload_n 0, 1) ∧ decode cX12_qDropsNots 27 = .ok (.invokevirtual 699, 3) ∧ decode cX12_qDropsNots 30 = .ok (.goto (-30), 3) := by decide +kernel
theorem eX12_qDropsNots_33 : decode cX12_qDropsNots 33 = .ok (.return_, 1) ∧ decode cX12_qFact 0 = .ok (.aload_n 0, 1) ∧ decode cX12_qFact 1 = .ok (.aload_n 0, 1) ∧ decode cX12_qFact 2 = .ok (.getfield 204, 3) ∧ decode cX12_qFact 5 = .ok (.invokevirtual 293, 3) ∧ decode cX12_qFact 8 = .ok (.ifCond .eq 10, 3) ∧ decode cX12_qFact 11 = .ok (.aload_n 0, 1) ∧ decode cX12_qFact 12 = .ok (.bipush 13, 2) := by decide +kernel
theorem eX12_qFact_14 : decode cX12_qFact 14 = .ok (.invokevirtual 693, 3) ∧ decode cX12_qFact 17 = .ok (.return_, 1) ∧ decode cX12_qFact 18 = .ok (.aload_n 0, 1) ∧ decode cX12_qFact 19 = .ok (.invokevirtual 368, 3) ∧ decode cX12_qFact 22 = .ok (.aload_n 0, 1) ∧ decode cX12_qFact 23 = .ok (.getfield 266, 3) ∧ decode cX12_qFact 26 = .ok (.ifCond .eq 4, 3) ∧ decode cX12_qFact 29 = .ok (.return_, 1) := by decide +kernel
theorem eX12_qFact_30 : decode cX12_qFact 30 = .ok (.aload_n 0, 1) ∧ decode cX12_qFact 31 = .ok (.invokevirtual 278, 3) ∧ decode cX12_qFact 34 = .ok (.istore_n 1, 1) ∧ decode cX12_qFact 35 = .ok (.iload_n 1, 1) ∧ decode cX12_qFact 36 = .ok (.bipush 60, 2) ∧ decode cX12_qFact 38 = .ok (.if_icmp .eq 25, 3) ∧ decode cX12_qFact 41 = .ok (.iload_n 1, 1) ∧ decode cX12_qFact 42 = .ok (.bipush 62, 2) := by decide +kernel
theorem eX12_qFact_44 : decode cX12_qFact 44 = .ok (.if_icmp .eq 19, 3) ∧ decode cX12_qFact 47 = .ok (.iload_n 1, 1) ∧ decode cX12_qFact 48 = .ok (.bipush 61, 2) ∧ decode cX12_qFact 50 = .ok (.if_icmp .eq 13, 3) ∧ decode cX12_qFact 53 = .ok (.aload_n 0, 1) ∧ decode cX12_qFact 54 = .ok (.iconst 1, 1) ∧ decode cX12_qFact 55 = .ok (.aload_n 0, 1) ∧ decode cX12_qFact 56 = .ok (.getfield 272, 3) := by decide +kernel
theorem eX12_qFact_59 : decode cX12_qFact 59 = .ok (.invokevirtual 296, 3) ∧ decode cX12_qFact 62 = .ok (.return_, 1) ∧ decode cX12_qFact 63 = .ok (.aload_n 0, 1) ∧ decode cX12_qFact 64 = .ok (.dup, 1) ∧ decode cX12_qFact 65 = .ok (.getfield 272, 3) ∧ decode cX12_qFact 68 = .ok (.iconst 1, 1) ∧ decode cX12_qFact 69 = .ok (.iadd, 1) ∧ decode cX12_qFact 70 = .ok (.putfield 272, 3) := by decide +kernel
theorem eX12_qFact_73 : decode cX12_qFact 73 = .ok (.aload_n 0, 1) ∧ decode cX12_qFact 74 = .ok (.invokevirtual 368, 3) ∧ decode cX12_qFact 77 = .ok (.aload_n 0, 1) ∧ decode cX12_qFact 78 = .ok (.iload_n 1, 1) ∧ decode cX12_qFact 79 = .ok (.bipush 60, 2) ∧ decode cX12_qFact 81 = .ok (.if_icmp .ne 8, 3) ∧ decode cX12_qFact 84 = .ok (.bipush 7, 2) ∧ decode cX12_qFact 86 = .ok (.goto 16, 3) := by decide +kernel
theorem eX12_qFact_89 : decode cX12_qFact 89 = .ok (.iload_n 1, 1) ∧ decode cX12_qFact 90 = .ok (.bipush 62, 2) ∧ decode cX12_qFact 92 = .ok (.if_icmp .ne 8, 3) ∧ decode cX12_qFact 95 = .ok (.bipush 8, 2) ∧ decode cX12_qFact 97 = .ok (.goto 5, 3) ∧ decode cX12_qFact 100 = .ok (.bipush 9, 2) ∧ decode cX12_qFact 102 = .ok (.invokevirtual 693, 3) ∧ decode cX12_qFact 105 = .ok (.return_, 1) := by decide +kernel
theorem eX12_qGoesOnTest_0 : decode cX12_qGoesOnTest 0 = .ok (.aload_n 0, 1) ∧ decode cX12_qGoesOnTest 1 = .ok (.getfield 266, 3) ∧ decode cX12_qGoesOnTest 4 = .ok (.ifCond .ne 72, 3) ∧ decode cX12_qGoesOnTest 7 = .ok (.aload_n 0, 1) ∧ decode cX12_qGoesOnTest 8 = .ok (.invokevirtual 278, 3) ∧ decode cX12_qGoesOnTest 11 = .ok (.bipush 93, 2) ∧ decode cX12_qGoesOnTest 13 = .ok (.if_icmp .ne 63, 3) ∧ decode cX12_qGoesOnTest 16 = .ok (.aload_n 0, 1) := by decide +kernel
theorem eX12_qGoesOnTest_17 : decode cX12_qGoesOnTest 17 = .ok (.invokevirtual 744, 3) ∧ decode cX12_qGoesOnTest 20 = .ok (.ifCond .eq 56, 3) ∧ decode cX12_qGoesOnTest 23 = .ok (.aload_n 0, 1) ∧ decode cX12_qGoesOnTest 24 = .ok (.dup, 1) ∧ decode cX12_qGoesOnTest 25 = .ok (.getfield 272, 3) ∧ decode cX12_qGoesOnTest 28 = .ok (.iconst 1, 1) ∧ decode cX12_qGoesOnTest 29 = .ok (.iadd, 1) ∧ decode cX12_qGoesOnTest 30 = .ok (.putfield 272, 3) := by decide +kernel
theorem eX12_qGoesOnTest_33 : decode cX12_qGoesOnTest 33 = .ok (.aload_n 0, 1) ∧ decode cX12_qGoesOnTest 34 = .ok (.bipush 25, 2) ∧ decode cX12_qGoesOnTest 36 = .ok (.invokevirtual 726, 3) ∧ decode cX12_qGoesOnTest 39 = .ok (.ifCond .ne 10, 3) ∧ decode cX12_qGoesOnTest 42 = .ok (.aload_n 0, 1) ∧ decode cX12_qGoesOnTest 43 = .ok (.invokevirtual 699, 3) ∧ decode cX12_qGoesOnTest 46 = .ok (.goto (-13), 3) ∧ decode cX12_qGoesOnTest 49 = .ok (.aload_n 0, 1) := by decide +kernel
theorem eX12_qGoesOnTest_50 : decode cX12_qGoesOnTest 50 = .ok (.dup, 1) ∧ decode cX12_qGoesOnTest 51 = .ok (.getfield 356, 3) ∧ decode cX12_qGoesOnTest 54 = .ok (.iconst 1, 1) ∧ decode cX12_qGoesOnTest 55 = .ok (.isub, 1) ∧ decode cX12_qGoesOnTest 56 = .ok (.putfield 356, 3) ∧ decode cX12_qGoesOnTest 59 = .ok (.aload_n 0, 1) ∧ decode cX12_qGoesOnTest 60 = .ok (.dup, 1) ∧ decode cX12_qGoesOnTest 61 = .ok (.getfield 359, 3) := by decide +kernel
theorem eX12_qGoesOnTest_64 : decode cX12_qGoesOnTest 64 = .ok (.iconst 1, 1) ∧ decode cX12_qGoesOnTest 65 = .ok (.isub, 1) ∧ decode cX12_qGoesOnTest 66 = .ok (.putfield 359, 3) ∧ decode cX12_qGoesOnTest 69 = .ok (.aload_n 0, 1) ∧ decode cX12_qGoesOnTest 70 = .ok (.invokevirtual 738, 3) ∧ decode cX12_qGoesOnTest 73 = .ok (.goto (-73), 3) ∧ decode cX12_qGoesOnTest 76 = .ok (.aload_n 0, 1) ∧ decode cX12_qGoesOnTest 77 = .ok (.aload_n 0, 1) := by decide +kernel
theorem eX12_qGoesOnTest_78 : decode cX12_qGoesOnTest 78 = .ok (.getfield 198, 3) ∧ decode cX12_qGoesOnTest 81 = .ok (.invokevirtual 293, 3) ∧ decode cX12_qGoesOnTest 84 = .ok (.ifCond .eq 42, 3) ∧ decode cX12_qGoesOnTest 87 = .ok (.aload_n 0, 1) ∧ decode cX12_qGoesOnTest 88 = .ok (.bipush 10, 2) ∧ decode cX12_qGoesOnTest 90 = .ok (.invokevirtual 726, 3) ∧ decode cX12_qGoesOnTest 93 = .ok (.ifCond .eq 10, 3) ∧ decode cX12_qGoesOnTest 96 = .ok (.aload_n 0, 1) := by decide +kernel
theorem eX12_qGoesOnTest_97 : decode cX12_qGoesOnTest 97 = .ok (.invokevirtual 699, 3) ∧ decode cX12_qGoesOnTest 100 = .ok (.goto (-13), 3) ∧ decode cX12_qGoesOnTest 103 = .ok (.aload_n 0, 1) ∧ decode cX12_qGoesOnTest 104 = .ok (.getfield 246, 3) ∧ decode cX12_qGoesOnTest 107 = .ok (.aload_n 0, 1) ∧ decode cX12_qGoesOnTest 108 = .ok (.getfield 356, 3) ∧ decode cX12_qGoesOnTest 111 = .ok (.bipush 10, 2) ∧ decode cX12_qGoesOnTest 113 = .ok (.iastore, 1) := by decide +kernel
theorem eX12_qGoesOnTest_114 : decode cX12_qGoesOnTest 114 = .ok (.aload_n 0, 1) ∧ decode cX12_qGoesOnTest 115 = .ok (.dup, 1) ∧ decode cX12_qGoesOnTest 116 = .ok (.getfield 356, 3) ∧ decode cX12_qGoesOnTest 119 = .ok (.iconst 1, 1) ∧ decode cX12_qGoesOnTest 120 = .ok (.iadd, 1) ∧ decode cX12_qGoesOnTest 121 = .ok (.putfield 356, 3) ∧ decode cX12_qGoesOnTest 124 = .ok (.iconst 1, 1) ∧ decode cX12_qGoesOnTest 125 = .ok (.ireturn, 1) := by decide +kernel
theorem eX12_qGoesOnTest_126 : decode cX12_qGoesOnTest 126 = .ok (.aload_n 0, 1) ∧ decode cX12_qGoesOnTest 127 = .ok (.aload_n 0, 1) ∧ decode cX12_qGoesOnTest 128 = .ok (.getfield 201, 3) ∧ decode cX12_qGoesOnTest 131 = .ok (.invokevirtual 293, 3) ∧ decode cX12_qGoesOnTest 134 = .ok (.ifCond .eq 51, 3) ∧ decode cX12_qGoesOnTest 137 = .ok (.aload_n 0, 1) ∧ decode cX12_qGoesOnTest 138 = .ok (.bipush 10, 2) ∧ decode cX12_qGoesOnTest 140 = .ok (.invokevirtual 726, 3) := by decide +kernel
theorem eX12_qGoesOnTest_143 : decode cX12_qGoesOnTest 143 = .ok (.ifCond .ne 12, 3) ∧ decode cX12_qGoesOnTest 146 = .ok (.aload_n 0, 1) ∧ decode cX12_qGoesOnTest 147 = .ok (.bipush 11, 2) ∧ decode cX12_qGoesOnTest 149 = .ok (.invokevirtual 726, 3) ∧ decode cX12_qGoesOnTest 152 = .ok (.ifCond .eq 10, 3) ∧ decode cX12_qGoesOnTest 155 = .ok (.aload_n 0, 1) ∧ decode cX12_qGoesOnTest 156 = .ok (.invokevirtual 699, 3) ∧ decode cX12_qGoesOnTest 159 = .ok (.goto (-22), 3) := by decide +kernel
theorem eX12_qGoesOnTest_162 : decode cX12_qGoesOnTest 162 = .ok (.aload_n 0, 1) ∧ decode cX12_qGoesOnTest 163 = .ok (.getfield 246, 3) ∧ decode cX12_qGoesOnTest 166 = .ok (.aload_n 0, 1) ∧ decode cX12_qGoesOnTest 167 = .ok (.getfield 356, 3) ∧ decode cX12_qGoesOnTest 170 = .ok (.bipush 11, 2) ∧ decode cX12_qGoesOnTest 172 = .ok (.iastore, 1) ∧ decode cX12_qGoesOnTest 173 = .ok (.aload_n 0, 1) ∧ decode cX12_qGoesOnTest 174 = .ok (.dup, 1) := by decide +kernel
theorem eX12_qGoesOnTest_175 : decode cX12_qGoesOnTest 175 = .ok (.getfield 356, 3) ∧ decode cX12_qGoesOnTest 178 = .ok (.iconst 1, 1) ∧ decode cX12_qGoesOnTest 179 = .ok (.iadd, 1) ∧ decode cX12_qGoesOnTest 180 = .ok (.putfield 356, 3) ∧ decode cX12_qGoesOnTest 183 = .ok (.iconst 1, 1) ∧ decode cX12_qGoesOnTest 184 = .ok (.ireturn, 1) ∧ decode cX12_qGoesOnTest 185 = .ok (.aload_n 0, 1) ∧ decode cX12_qGoesOnTest 186 = .ok (.getfield 266, 3) := by decide +kernel
theorem eX12_qGoesOnTest_189 : decode cX12_qGoesOnTest 189 = .ok (.ifCond .ne 19, 3) ∧ decode cX12_qGoesOnTest 192 = .ok (.aload_n 0, 1) ∧ decode cX12_qGoesOnTest 193 = .ok (.invokevirtual 744, 3) ∧ decode cX12_qGoesOnTest 196 = .ok (.ifCond .eq 12, 3) ∧ decode cX12_qGoesOnTest 199 = .ok (.aload_n 0, 1) ∧ decode cX12_qGoesOnTest 200 = .ok (.iconst 1, 1) ∧ decode cX12_qGoesOnTest 201 = .ok (.aload_n 0, 1) ∧ decode cX12_qGoesOnTest 202 = .ok (.getfield 272, 3) := by decide +kernel
theorem eX12_qGoesOnTest_205 : decode cX12_qGoesOnTest 205 = .ok (.invokevirtual 296, 3) ∧ decode cX12_qGoesOnTest 208 = .ok (.iconst 0, 1) ∧ decode cX12_qGoesOnTest 209 = .ok (.ireturn, 1) ∧ decode cX12_qHasSquare 0 = .ok (.iconst 0, 1) ∧ decode cX12_qHasSquare 1 = .ok (.istore_n 1, 1) ∧ decode cX12_qHasSquare 2 = .ok (.iload_n 1, 1) ∧ decode cX12_qHasSquare 3 = .ok (.aload_n 0, 1) ∧ decode cX12_qHasSquare 4 = .ok (.getfield 356, 3) := by decide +kernel
theorem eX12_qHasSquare_7 : decode cX12_qHasSquare 7 = .ok (.if_icmp .ge 22, 3) ∧ decode cX12_qHasSquare 10 = .ok (.aload_n 0, 1) ∧ decode cX12_qHasSquare 11 = .ok (.getfield 246, 3) ∧ decode cX12_qHasSquare 14 = .ok (.iload_n 1, 1) ∧ decode cX12_qHasSquare 15 = .ok (.iaload, 1) ∧ decode cX12_qHasSquare 16 = .ok (.bipush 25, 2) ∧ decode cX12_qHasSquare 18 = .ok (.if_icmp .ne 5, 3) ∧ decode cX12_qHasSquare 21 = .ok (.iconst 1, 1) := by decide +kernel
theorem eX12_qHasSquare_22 : decode cX12_qHasSquare 22 = .ok (.ireturn, 1) ∧ decode cX12_qHasSquare 23 = .ok (.iinc 1 1, 3) ∧ decode cX12_qHasSquare 26 = .ok (.goto (-24), 3) ∧ decode cX12_qHasSquare 29 = .ok (.iconst 0, 1) ∧ decode cX12_qHasSquare 30 = .ok (.ireturn, 1) ∧ decode cX12_qSums 0 = .ok (.aload_n 0, 1) ∧ decode cX12_qSums 1 = .ok (.getfield 362, 3) ∧ decode cX12_qSums 4 = .ok (.istore_n 1, 1) := by decide +kernel
theorem eX12_qSums_5 : decode cX12_qSums 5 = .ok (.aload_n 0, 1) ∧ decode cX12_qSums 6 = .ok (.aload_n 0, 1) ∧ decode cX12_qSums 7 = .ok (.getfield 356, 3) ∧ decode cX12_qSums 10 = .ok (.putfield 362, 3) ∧ decode cX12_qSums 13 = .ok (.iconst 1, 1) ∧ decode cX12_qSums 14 = .ok (.istore_n 2, 1) ∧ decode cX12_qSums 15 = .ok (.iload_n 2, 1) ∧ decode cX12_qSums 16 = .ok (.ifCond .eq 37, 3) := by decide +kernel
theorem eX12_qSums_19 : decode cX12_qSums 19 = .ok (.aload_n 0, 1) ∧ decode cX12_qSums 20 = .ok (.getfield 266, 3) ∧ decode cX12_qSums 23 = .ok (.ifCond .ne 30, 3) ∧ decode cX12_qSums 26 = .ok (.aload_n 0, 1) ∧ decode cX12_qSums 27 = .ok (.invokevirtual 729, 3) ∧ decode cX12_qSums 30 = .ok (.aload_n 0, 1) ∧ decode cX12_qSums 31 = .ok (.getfield 266, 3) ∧ decode cX12_qSums 34 = .ok (.ifCond .ne 14, 3) := by decide +kernel
theorem eX12_qSums_37 : decode cX12_qSums 37 = .ok (.aload_n 0, 1) ∧ decode cX12_qSums 38 = .ok (.invokevirtual 732, 3) ∧ decode cX12_qSums 41 = .ok (.ifCond .eq 7, 3) ∧ decode cX12_qSums 44 = .ok (.iconst 1, 1) ∧ decode cX12_qSums 45 = .ok (.goto 4, 3) ∧ decode cX12_qSums 48 = .ok (.iconst 0, 1) ∧ decode cX12_qSums 49 = .ok (.istore_n 2, 1) ∧ decode cX12_qSums 50 = .ok (.goto (-35), 3) := by decide +kernel
theorem eX12_qSums_53 : decode cX12_qSums 53 = .ok (.aload_n 0, 1) ∧ decode cX12_qSums 54 = .ok (.getfield 266, 3) ∧ decode cX12_qSums 57 = .ok (.ifCond .ne 21, 3) ∧ decode cX12_qSums 60 = .ok (.aload_n 0, 1) ∧ decode cX12_qSums 61 = .ok (.getfield 356, 3) ∧ decode cX12_qSums 64 = .ok (.aload_n 0, 1) ∧ decode cX12_qSums 65 = .ok (.getfield 362, 3) ∧ decode cX12_qSums 68 = .ok (.if_icmp .le 10, 3) := by decide +kernel
theorem eX12_qSums_71 : decode cX12_qSums 71 = .ok (.aload_n 0, 1) ∧ decode cX12_qSums 72 = .ok (.invokevirtual 699, 3) ∧ decode cX12_qSums 75 = .ok (.goto (-22), 3) ∧ decode cX12_qSums 78 = .ok (.aload_n 0, 1) ∧ decode cX12_qSums 79 = .ok (.iload_n 1, 1) ∧ decode cX12_qSums 80 = .ok (.putfield 362, 3) ∧ decode cX12_qSums 83 = .ok (.return_, 1) ∧ decode cX12_qTest 0 = .ok (.iconst 1, 1) := by decide +kernel
theorem eX12_qTest_1 : decode cX12_qTest 1 = .ok (.istore_n 1, 1) ∧ decode cX12_qTest 2 = .ok (.iload_n 1, 1) ∧ decode cX12_qTest 3 = .ok (.ifCond .eq 107, 3) ∧ decode cX12_qTest 6 = .ok (.aload_n 0, 1) ∧ decode cX12_qTest 7 = .ok (.getfield 266, 3) ∧ decode cX12_qTest 10 = .ok (.ifCond .ne 100, 3) ∧ decode cX12_qTest 13 = .ok (.aload_n 0, 1) ∧ decode cX12_qTest 14 = .ok (.invokevirtual 278, 3) := by decide +kernel
theorem eX12_qTest_17 : decode cX12_qTest 17 = .ok (.istore_n 2, 1) ∧ decode cX12_qTest 18 = .ok (.iload_n 2, 1) ∧ decode cX12_qTest 19 = .ok (.bipush 91, 2) ∧ decode cX12_qTest 21 = .ok (.if_icmp .ne 26, 3) ∧ decode cX12_qTest 24 = .ok (.aload_n 0, 1) ∧ decode cX12_qTest 25 = .ok (.bipush 25, 2) ∧ decode cX12_qTest 27 = .ok (.aload_n 0, 1) ∧ decode cX12_qTest 28 = .ok (.getfield 272, 3) := by decide +kernel
theorem eX12_qTest_31 : decode cX12_qTest 31 = .ok (.invokevirtual 711, 3) ∧ decode cX12_qTest 34 = .ok (.aload_n 0, 1) ∧ decode cX12_qTest 35 = .ok (.dup, 1) ∧ decode cX12_qTest 36 = .ok (.getfield 272, 3) ∧ decode cX12_qTest 39 = .ok (.iconst 1, 1) ∧ decode cX12_qTest 40 = .ok (.iadd, 1) ∧ decode cX12_qTest 41 = .ok (.putfield 272, 3) ∧ decode cX12_qTest 44 = .ok (.goto (-42), 3) := by decide +kernel
theorem eX12_qTest_47 : decode cX12_qTest 47 = .ok (.aload_n 0, 1) ∧ decode cX12_qTest 48 = .ok (.aload_n 0, 1) ∧ decode cX12_qTest 49 = .ok (.getfield 195, 3) ∧ decode cX12_qTest 52 = .ok (.invokevirtual 289, 3) ∧ decode cX12_qTest 55 = .ok (.ifCond .eq 24, 3) ∧ decode cX12_qTest 58 = .ok (.aload_n 0, 1) ∧ decode cX12_qTest 59 = .ok (.bipush 12, 2) ∧ decode cX12_qTest 61 = .ok (.aload_n 0, 1) := by decide +kernel
theorem eX12_qTest_62 : decode cX12_qTest 62 = .ok (.getfield 272, 3) ∧ decode cX12_qTest 65 = .ok (.invokevirtual 711, 3) ∧ decode cX12_qTest 68 = .ok (.aload_n 0, 1) ∧ decode cX12_qTest 69 = .ok (.aload_n 0, 1) ∧ decode cX12_qTest 70 = .ok (.getfield 195, 3) ∧ decode cX12_qTest 73 = .ok (.invokevirtual 327, 3) ∧ decode cX12_qTest 76 = .ok (.goto (-74), 3) ∧ decode cX12_qTest 79 = .ok (.aload_n 0, 1) := by decide +kernel
theorem eX12_qTest_80 : decode cX12_qTest 80 = .ok (.invokevirtual 735, 3) ∧ decode cX12_qTest 83 = .ok (.aload_n 0, 1) ∧ decode cX12_qTest 84 = .ok (.invokevirtual 738, 3) ∧ decode cX12_qTest 87 = .ok (.aload_n 0, 1) ∧ decode cX12_qTest 88 = .ok (.getfield 266, 3) ∧ decode cX12_qTest 91 = .ok (.ifCond .ne 14, 3) ∧ decode cX12_qTest 94 = .ok (.aload_n 0, 1) ∧ decode cX12_qTest 95 = .ok (.invokevirtual 741, 3) := by decide +kernel
theorem eX12_qTest_98 : decode cX12_qTest 98 = .ok (.ifCond .eq 7, 3) ∧ decode cX12_qTest 101 = .ok (.iconst 1, 1) ∧ decode cX12_qTest 102 = .ok (.goto 4, 3) ∧ decode cX12_qTest 105 = .ok (.iconst 0, 1) ∧ decode cX12_qTest 106 = .ok (.istore_n 1, 1) ∧ decode cX12_qTest 107 = .ok (.goto (-105), 3) ∧ decode cX12_qTest 110 = .ok (.aload_n 0, 1) ∧ decode cX12_qTest 111 = .ok (.getfield 266, 3) := by decide +kernel
theorem eX12_qTest_114 : decode cX12_qTest 114 = .ok (.ifCond .ne 17, 3) ∧ decode cX12_qTest 117 = .ok (.aload_n 0, 1) ∧ decode cX12_qTest 118 = .ok (.getfield 356, 3) ∧ decode cX12_qTest 121 = .ok (.ifCond .le 10, 3) ∧ decode cX12_qTest 124 = .ok (.aload_n 0, 1) ∧ decode cX12_qTest 125 = .ok (.invokevirtual 699, 3) ∧ decode cX12_qTest 128 = .ok (.goto (-18), 3) ∧ decode cX12_qTest 131 = .ok (.return_, 1) := by decide +kernel
theorem eX12_statementTold_0 : decode cX12_statementTold 0 = .ok (.aload_n 0, 1) ∧ decode cX12_statementTold 1 = .ok (.getfield 272, 3) ∧ decode cX12_statementTold 4 = .ok (.istore_n 1, 1) ∧ decode cX12_statementTold 5 = .ok (.aload_n 0, 1) ∧ decode cX12_statementTold 6 = .ok (.getfield 374, 3) ∧ decode cX12_statementTold 9 = .ok (.bipush 60, 2) ∧ decode cX12_statementTold 11 = .ok (.if_icmp .ne 10, 3) ∧ decode cX12_statementTold 14 = .ok (.aload_n 0, 1) := by decide +kernel
theorem eX12_statementTold_15 : decode cX12_statementTold 15 = .ok (.iconst 5, 1) ∧ decode cX12_statementTold 16 = .ok (.iload_n 1, 1) ∧ decode cX12_statementTold 17 = .ok (.invokevirtual 296, 3) ∧ decode cX12_statementTold 20 = .ok (.return_, 1) ∧ decode cX12_statementTold 21 = .ok (.aload_n 0, 1) ∧ decode cX12_statementTold 22 = .ok (.aload_n 0, 1) ∧ decode cX12_statementTold 23 = .ok (.getfield 27, 3) ∧ decode cX12_statementTold 26 = .ok (.invokevirtual 293, 3) := by decide +kernel
theorem eX12_statementTold_29 : decode cX12_statementTold 29 = .ok (.ifCond .eq 12, 3) ∧ decode cX12_statementTold 32 = .ok (.aload_n 0, 1) ∧ decode cX12_statementTold 33 = .ok (.iconst 0, 1) ∧ decode cX12_statementTold 34 = .ok (.iload_n 1, 1) ∧ decode cX12_statementTold 35 = .ok (.invokevirtual 377, 3) ∧ decode cX12_statementTold 38 = .ok (.goto 140, 3) ∧ decode cX12_statementTold 41 = .ok (.aload_n 0, 1) ∧ decode cX12_statementTold 42 = .ok (.aload_n 0, 1) := by decide +kernel
theorem eX12_statementTold_43 : decode cX12_statementTold 43 = .ok (.getfield 30, 3) ∧ decode cX12_statementTold 46 = .ok (.invokevirtual 293, 3) ∧ decode cX12_statementTold 49 = .ok (.ifCond .eq 12, 3) ∧ decode cX12_statementTold 52 = .ok (.aload_n 0, 1) ∧ decode cX12_statementTold 53 = .ok (.iconst 1, 1) ∧ decode cX12_statementTold 54 = .ok (.iload_n 1, 1) ∧ decode cX12_statementTold 55 = .ok (.invokevirtual 377, 3) ∧ decode cX12_statementTold 58 = .ok (.goto 120, 3) := by decide +kernel
theorem eX12_statementTold_61 : decode cX12_statementTold 61 = .ok (.aload_n 0, 1) ∧ decode cX12_statementTold 62 = .ok (.aload_n 0, 1) ∧ decode cX12_statementTold 63 = .ok (.getfield 36, 3) ∧ decode cX12_statementTold 66 = .ok (.invokevirtual 293, 3) ∧ decode cX12_statementTold 69 = .ok (.ifCond .eq 10, 3) ∧ decode cX12_statementTold 72 = .ok (.aload_n 0, 1) ∧ decode cX12_statementTold 73 = .ok (.invokevirtual 381, 3) ∧ decode cX12_statementTold 76 = .ok (.goto 102, 3) := by decide +kernel
theorem eX12_statementTold_79 : decode cX12_statementTold 79 = .ok (.aload_n 0, 1) ∧ decode cX12_statementTold 80 = .ok (.aload_n 0, 1) ∧ decode cX12_statementTold 81 = .ok (.getfield 39, 3) ∧ decode cX12_statementTold 84 = .ok (.invokevirtual 293, 3) ∧ decode cX12_statementTold 87 = .ok (.ifCond .eq 10, 3) ∧ decode cX12_statementTold 90 = .ok (.aload_n 0, 1) ∧ decode cX12_statementTold 91 = .ok (.invokevirtual 384, 3) ∧ decode cX12_statementTold 94 = .ok (.goto 84, 3) := by decide +kernel
theorem eX12_statementTold_97 : decode cX12_statementTold 97 = .ok (.aload_n 0, 1) ∧ decode cX12_statementTold 98 = .ok (.aload_n 0, 1) ∧ decode cX12_statementTold 99 = .ok (.getfield 42, 3) ∧ decode cX12_statementTold 102 = .ok (.invokevirtual 293, 3) ∧ decode cX12_statementTold 105 = .ok (.ifCond .eq 12, 3) ∧ decode cX12_statementTold 108 = .ok (.aload_n 0, 1) ∧ decode cX12_statementTold 109 = .ok (.iconst 0, 1) ∧ decode cX12_statementTold 110 = .ok (.iload_n 1, 1) := by decide +kernel
theorem eX12_statementTold_111 : decode cX12_statementTold 111 = .ok (.invokevirtual 387, 3) ∧ decode cX12_statementTold 114 = .ok (.goto 64, 3) ∧ decode cX12_statementTold 117 = .ok (.aload_n 0, 1) ∧ decode cX12_statementTold 118 = .ok (.aload_n 0, 1) ∧ decode cX12_statementTold 119 = .ok (.getfield 45, 3) ∧ decode cX12_statementTold 122 = .ok (.invokevirtual 293, 3) ∧ decode cX12_statementTold 125 = .ok (.ifCond .eq 12, 3) ∧ decode cX12_statementTold 128 = .ok (.aload_n 0, 1) := by decide +kernel
theorem eX12_statementTold_129 : decode cX12_statementTold 129 = .ok (.iconst 1, 1) ∧ decode cX12_statementTold 130 = .ok (.iload_n 1, 1) ∧ decode cX12_statementTold 131 = .ok (.invokevirtual 387, 3) ∧ decode cX12_statementTold 134 = .ok (.goto 44, 3) ∧ decode cX12_statementTold 137 = .ok (.aload_n 0, 1) ∧ decode cX12_statementTold 138 = .ok (.aload_n 0, 1) ∧ decode cX12_statementTold 139 = .ok (.getfield 48, 3) ∧ decode cX12_statementTold 142 = .ok (.invokevirtual 293, 3) := by decide +kernel
theorem eX12_statementTold_145 : decode cX12_statementTold 145 = .ok (.ifCond .eq 12, 3) ∧ decode cX12_statementTold 148 = .ok (.aload_n 0, 1) ∧ decode cX12_statementTold 149 = .ok (.iconst 2, 1) ∧ decode cX12_statementTold 150 = .ok (.iload_n 1, 1) ∧ decode cX12_statementTold 151 = .ok (.invokevirtual 387, 3) ∧ decode cX12_statementTold 154 = .ok (.goto 24, 3) ∧ decode cX12_statementTold 157 = .ok (.aload_n 0, 1) ∧ decode cX12_statementTold 158 = .ok (.aload_n 0, 1) := by decide +kernel
theorem eX12_statementTold_159 : decode cX12_statementTold 159 = .ok (.getfield 51, 3) ∧ decode cX12_statementTold 162 = .ok (.invokevirtual 327, 3) ∧ decode cX12_statementTold 165 = .ok (.aload_n 0, 1) ∧ decode cX12_statementTold 166 = .ok (.getfield 102, 3) ∧ decode cX12_statementTold 169 = .ok (.iconst 4, 1) ∧ decode cX12_statementTold 170 = .ok (.aload_n 0, 1) ∧ decode cX12_statementTold 171 = .ok (.iconst 0, 1) ∧ decode cX12_statementTold 172 = .ok (.bipush 100, 2) := by decide +kernel
theorem eX12_statementTold_174 : decode cX12_statementTold 174 = .ok (.invokevirtual 331, 3) ∧ decode cX12_statementTold 177 = .ok (.iastore, 1) ∧ decode cX12_statementTold 178 = .ok (.aload_n 0, 1) ∧ decode cX12_statementTold 179 = .ok (.bipush 59, 2) ∧ decode cX12_statementTold 181 = .ok (.invokevirtual 335, 3) ∧ decode cX12_statementTold 184 = .ok (.aload_n 0, 1) ∧ decode cX12_statementTold 185 = .ok (.dup, 1) ∧ decode cX12_statementTold 186 = .ok (.getfield 374, 3) := by decide +kernel
theorem eX12_statementTold_189 : decode cX12_statementTold 189 = .ok (.iconst 1, 1) ∧ decode cX12_statementTold 190 = .ok (.iadd, 1) ∧ decode cX12_statementTold 191 = .ok (.putfield 374, 3) ∧ decode cX12_statementTold 194 = .ok (.return_, 1) := by decide +kernel
set_option maxHeartbeats 4000000 in
set_option maxRecDepth 100000 in
theorem k_x12_qSums (l : Launch) (D : va_G) (a : Nat → Nat) (sz : Nat) (s : MS) (o : MS) (h : m_x12_qSums s = some o) : yWv l yX12_qSums cX12_qSums 3 none { frames := 6, cells := 0, slots := 0, locals := 360 } D sz [.ref (a 200)] (RW D a s) (RW D a o) := by
  refine Met.ofW (cc := cX12_qSums) (maxL := 3) (ret := none) (by decide) rfl ?_
  intro p e s₀ m args below meth c s₁ B hml hv
  obtain ⟨rfl, ⟨hsz, hP, hK, hD0⟩, hN⟩ := hv
  have hx := B.exec
  have hb := B.bytes
  have hr := B.returns
  have hts := atoms_spec (ws := wz yX12_qSums cX12_qSums 3 none) B.pre
  have ht : ∀ w ∈ lw_gd, w.before _ s₀ = true := fun w h => hts w (List.mem_cons_of_mem _ h)
  have hown : s₀.vm.findClass RX12 = some m.cls := findClass_of_methodNamed B.named
  have hlocks := B.notSynchronized
  subst hsz
  have hD := hD0.self (sz := s₀.heap.size)
  generalize hAe : va_A (RW D a s) s₀.heap.size = A at hD ⊢
  have hA : ∀ q : Nat, s₀.heap.size ≤ q → A q := fun q h => by rw [← hAe]; exact Or.inr h
  have hS : va_S A s₀.heap s₀.heap [] := va_S.rf
  have hDD : ∀ t : MS, va_D A (RW D a t) := fun t => RW_D t hD
  have hl := lv_entry ([.ref (a 200)]) (n := 3) (Nat.le_of_ble_eq_true rfl)
  rw [lg_entry_eq]
  generalize (lg_sl ([.ref (a 200)]) ++ List.replicate (3 - (lg_sl ([.ref (a 200)])).length) Slot.unset).toArray = ls at hl ⊢
  have hl : lv_has ls 3 [(0, .ref (a 200))] := hl
  unfold m_x12_qSums at h
  refine y_head (pcJ := 78) (σ := Int × MS) (fun u H locs ls => va_P D vwCl (RW D a u.2) H ∧ va_S A s₀.heap H locs ∧ lv_has ls 3 [(0, .ref (a 200)), (1, .int (i2 u.1))] ∧ m_x12_qSums_J78 u.1 u.2 = some o) (fun u => []) (fun u H locs ls hI => ?_) (fun J78 => ?_)
  · obtain ⟨hP, hS, hl, h⟩ := hI
    obtain ⟨x1, s2⟩ := u
    have hP : va_P D vwCl (RW D a s2) H := hP
    have hl : lv_has ls 3 [(0, .ref (a 200)), (1, .int (i2 x1))] := hl
    have h : m_x12_qSums_J78 x1 s2 = some o := h
    unfold m_x12_qSums_J78 at h
    refine lv_aload_n hx hb eX12_qSums_71.2.2.2.1 rfl (lv_at hl 0 rfl) ?_
    refine lv_iload_n hx hb eX12_qSums_71.2.2.2.2.1 rfl (lv_at hl 1 rfl) ?_
    refine ya_put (D := D) (ci := 12) (v := .int (i2 x1)) (ty := .int) (C := RX12) (T := TX12) (N := 116) hx hb ht inX12 tyX12 tyX12_ok nmX12 hown hK hP (hDD _) hS 0 RW_0 rfl 106 (by decide) (ht (.fieldLink RX12 362 "CloneVolumesModel" "qBase" "I") fl_X12_362) (fun _ h9 => h9) rfl (by decide +kernel) rfl rfl (by rw [mF_len]; decide) eX12_qSums_71.2.2.2.2.2.1 (RW_f106 x1) (fun H locs hP hS => ?_)
    obtain ⟨s3, hs3, h⟩ := st_e h
    rw [hs3] at hP
    obtain rfl := Option.some.inj h
    exact W.vret hx hb hr (fun t ht hW => ⟨⟨(), rfl, trivial, by rw [ht]; exact hP, va_K.moved hW.alike hK, hDD _⟩, hS.F ht⟩) hS.2.2 eX12_qSums_71.2.2.2.2.2.2.1
  refine y_loop (pcJ := 53) (σ := Int × MS) (fun n u H locs ls => va_P D vwCl (RW D a u.2) H ∧ va_S A s₀.heap H locs ∧ lv_has ls 3 [(0, .ref (a 200)), (1, .int (i2 u.1))] ∧ m_x12_qSums_L53 n u.1 u.2 = some o) (fun u => []) (fun u H locs ls hI => by obtain ⟨_, _, _, h⟩ := hI; cases h) (fun n53 ih53 u H locs ls hI => ?_) (fun J53 => ?_)
  · obtain ⟨hP, hS, hl, h⟩ := hI
    obtain ⟨x4, s5⟩ := u
    have hP : va_P D vwCl (RW D a s5) H := hP
    have hl : lv_has ls 3 [(0, .ref (a 200)), (1, .int (i2 x4))] := hl
    have h : m_x12_qSums_b53 (m_x12_qSums_L53 n53) x4 s5 = some o := h
    unfold m_x12_qSums_b53 at h
    refine lv_aload_n hx hb eX12_qSums_53.1 rfl (lv_at hl 0 rfl) ?_
    refine va_get (D := D) (ci := 12) (v := .int (i2 (gI s5 5))) (C := RX12) (T := TX12) (N := 116) hx hb ht inX12 hown hK hP 0 RW_0 rfl 5 (by decide) (ht (.fieldLink RX12 266 "CloneVolumesModel" "bad" "I") fl_X12_266) (fun _ h9 => h9) mF_5 eX12_qSums_53.2.1 ?_
    obtain ⟨hr6, h⟩ := rg_e h
    refine lv_if_ne (tgt := 78) hx hb eX12_qSums_53.2.2.1 (by decide) (fun c7 => ?_) (fun c7 => ?_)
    · have h := if_f (mt (i2_eq (x := (gI s5 5)) (y := 0) hr6 (by decide)).mpr c7) h
      exact J78 (x4, s5) _ _ _ ⟨hP, hS, lv_sub hl [0, 1] rfl, h⟩
    · have h := if_t ((i2_eq (x := (gI s5 5)) (y := 0) hr6 (by decide)).mp c7) h
      refine lv_aload_n hx hb eX12_qSums_53.2.2.2.1 rfl (lv_at hl 0 rfl) ?_
      refine va_get (D := D) (ci := 12) (v := .int (i2 (gI s5 104))) (C := RX12) (T := TX12) (N := 116) hx hb ht inX12 hown hK hP 0 RW_0 rfl 104 (by decide) (ht (.fieldLink RX12 356 "CloneVolumesModel" "qWaits" "I") fl_X12_356) (fun _ h9 => h9) mF_104 eX12_qSums_53.2.2.2.2.1 ?_
      refine lv_aload_n hx hb eX12_qSums_53.2.2.2.2.2.1 rfl (lv_at hl 0 rfl) ?_
      refine va_get (D := D) (ci := 12) (v := .int (i2 (gI s5 106))) (C := RX12) (T := TX12) (N := 116) hx hb ht inX12 hown hK hP 0 RW_0 rfl 106 (by decide) (ht (.fieldLink RX12 362 "CloneVolumesModel" "qBase" "I") fl_X12_362) (fun _ h9 => h9) mF_106 eX12_qSums_53.2.2.2.2.2.2.1 ?_
      obtain ⟨hr8, h⟩ := rg_e h
      obtain ⟨hr9, h⟩ := rg_e h
      refine lv_icmp_le (tgt := 78) hx hb eX12_qSums_53.2.2.2.2.2.2.2 (by decide) (fun c10 => ?_) (fun c10 => ?_)
      · have h := if_t ((i2_le (x := (gI s5 104)) (y := (gI s5 106)) hr8 hr9).mp c10) h
        exact J78 (x4, s5) _ _ _ ⟨hP, hS, lv_sub hl [0, 1] rfl, h⟩
      · have h := if_f (mt (i2_le (x := (gI s5 104)) (y := (gI s5 106)) hr8 hr9).mpr c10) h
        refine lv_aload_n hx hb eX12_qSums_71.1 rfl (lv_at hl 0 rfl) ?_
        obtain ⟨s12, hc11, h⟩ := bn_e h
        refine ywVv (As := []) (rest := []) (C := RX12) (n := 0) (ws' := RW D a s12) ⟨hx, hb, hml, hown, ht⟩ (k_x12_qDrops l D a _ _ _ hc11) (zgV ml_X12_699 im_X12_qDrops se_X12_qDrops in_X12 co_X12_qDrops) rfl rfl (by decide +kernel) ⟨Nat.le_of_ble_eq_true rfl, Nat.le_of_ble_eq_true rfl⟩ hN hK hP (hDD _) hS hA 0 RW_0 rfl rfl rfl hl.1 rfl (Nat.le_of_ble_eq_true rfl) eX12_qSums_71.2.1 ⟨Nat.le_of_ble_eq_true rfl, Nat.le_of_ble_eq_true rfl⟩ (fun H locs hP hS => ?_)
        refine lv_goto (tgt := 53) hx hb eX12_qSums_71.2.2.1 (by decide) ?_
        exact ih53 (x4, s12) _ _ _ ⟨hP, hS, lv_sub hl [0, 1] rfl, h⟩
  refine y_loop (pcJ := 15) (σ := Int × Int × MS) (fun n u H locs ls => va_P D vwCl (RW D a u.2.2) H ∧ va_S A s₀.heap H locs ∧ lv_has ls 3 [(0, .ref (a 200)), (1, .int (i2 u.1)), (2, .int (i2 u.2.1))] ∧ m_x12_qSums_L15 n u.1 u.2.1 u.2.2 = some o) (fun u => []) (fun u H locs ls hI => by obtain ⟨_, _, _, h⟩ := hI; cases h) (fun n15 ih15 u H locs ls hI => ?_) (fun J15 => ?_)
  · obtain ⟨hP, hS, hl, h⟩ := hI
    obtain ⟨x13, x14, s15⟩ := u
    have hP : va_P D vwCl (RW D a s15) H := hP
    have hl : lv_has ls 3 [(0, .ref (a 200)), (1, .int (i2 x13)), (2, .int (i2 x14))] := hl
    have h : m_x12_qSums_b15 (m_x12_qSums_L15 n15) x13 x14 s15 = some o := h
    unfold m_x12_qSums_b15 at h
    refine y_head (pcJ := 49) (σ := Int × Int × MS) (fun u H locs ls => va_P D vwCl (RW D a u.2.2) H ∧ va_S A s₀.heap H locs ∧ lv_has ls 3 [(0, .ref (a 200)), (1, .int (i2 u.1))] ∧ m_x12_qSums_J49 (m_x12_qSums_L15 n15) u.1 u.2.1 u.2.2 = some o) (fun u => [.int (i2 u.2.1)]) (fun u H locs ls hI => ?_) (fun J49 => ?_)
    · obtain ⟨hP, hS, hl, h⟩ := hI
      obtain ⟨x16, x17, s18⟩ := u
      have hP : va_P D vwCl (RW D a s18) H := hP
      have hl : lv_has ls 3 [(0, .ref (a 200)), (1, .int (i2 x16))] := hl
      have h : m_x12_qSums_J49 (m_x12_qSums_L15 n15) x16 x17 s18 = some o := h
      unfold m_x12_qSums_J49 at h
      refine lv_istore_n (lv' := [(2, .int (i2 x17)), (0, .ref (a 200)), (1, .int (i2 x16))]) hx hb eX12_qSums_37.2.2.2.2.2.2.1 rfl hl (by decide) rfl (fun ls hl => ?_)
      refine lv_goto (tgt := 15) hx hb eX12_qSums_37.2.2.2.2.2.2.2 (by decide) ?_
      exact ih15 (x16, x17, s18) _ _ _ ⟨hP, hS, lv_sub hl [1, 2, 0] rfl, h⟩
    refine y_head (pcJ := 48) (σ := Int × MS) (fun u H locs ls => va_P D vwCl (RW D a u.2) H ∧ va_S A s₀.heap H locs ∧ lv_has ls 3 [(0, .ref (a 200)), (1, .int (i2 u.1))] ∧ m_x12_qSums_J48 (m_x12_qSums_L15 n15) u.1 u.2 = some o) (fun u => []) (fun u H locs ls hI => ?_) (fun J48 => ?_)
    · obtain ⟨hP, hS, hl, h⟩ := hI
      obtain ⟨x19, s20⟩ := u
      have hP : va_P D vwCl (RW D a s20) H := hP
      have hl : lv_has ls 3 [(0, .ref (a 200)), (1, .int (i2 x19))] := hl
      have h : m_x12_qSums_J48 (m_x12_qSums_L15 n15) x19 s20 = some o := h
      unfold m_x12_qSums_J48 at h
      refine lv_iconst (v := 0) hx hb eX12_qSums_37.2.2.2.2.2.1 (by decide) ?_
      exact J49 (x19, 0, s20) _ _ _ ⟨hP, hS, lv_sub hl [0, 1] rfl, h⟩
    refine lv_iload_n hx hb eX12_qSums_5.2.2.2.2.2.2.1 rfl (lv_at hl 2 rfl) ?_
    obtain ⟨hr21, h⟩ := rg_e h
    refine lv_if_eq (tgt := 53) hx hb eX12_qSums_5.2.2.2.2.2.2.2 (by decide) (fun c22 => ?_) (fun c22 => ?_)
    · have h := if_t ((i2_eq (x := x14) (y := 0) hr21 (by decide)).mp c22) h
      exact J53 FU (x13, s15) _ _ _ ⟨hP, hS, lv_sub hl [0, 1] rfl, h⟩
    · have h := if_f (mt (i2_eq (x := x14) (y := 0) hr21 (by decide)).mpr c22) h
      refine lv_aload_n hx hb eX12_qSums_19.1 rfl (lv_at hl 0 rfl) ?_
      refine va_get (D := D) (ci := 12) (v := .int (i2 (gI s15 5))) (C := RX12) (T := TX12) (N := 116) hx hb ht inX12 hown hK hP 0 RW_0 rfl 5 (by decide) (ht (.fieldLink RX12 266 "CloneVolumesModel" "bad" "I") fl_X12_266) (fun _ h9 => h9) mF_5 eX12_qSums_19.2.1 ?_
      obtain ⟨hr23, h⟩ := rg_e h
      refine lv_if_ne (tgt := 53) hx hb eX12_qSums_19.2.2.1 (by decide) (fun c24 => ?_) (fun c24 => ?_)
      · have h := if_f (mt (i2_eq (x := (gI s15 5)) (y := 0) hr23 (by decide)).mpr c24) h
        exact J53 FU (x13, s15) _ _ _ ⟨hP, hS, lv_sub hl [0, 1] rfl, h⟩
      · have h := if_t ((i2_eq (x := (gI s15 5)) (y := 0) hr23 (by decide)).mp c24) h
        refine lv_aload_n hx hb eX12_qSums_19.2.2.2.1 rfl (lv_at hl 0 rfl) ?_
        obtain ⟨s26, hc25, h⟩ := bn_e h
        refine ywVv (As := []) (rest := []) (C := RX12) (n := 0) (ws' := RW D a s26) ⟨hx, hb, hml, hown, ht⟩ (k_x12_qPartTold l D a _ _ _ hc25) (zgV ml_X12_729 im_X12_qPartTold se_X12_qPartTold in_X12 co_X12_qPartTold) rfl rfl (by decide +kernel) ⟨Nat.le_of_ble_eq_true rfl, Nat.le_of_ble_eq_true rfl⟩ hN hK hP (hDD _) hS hA 0 RW_0 rfl rfl rfl hl.1 rfl (Nat.le_of_ble_eq_true rfl) eX12_qSums_19.2.2.2.2.1 ⟨Nat.le_of_ble_eq_true rfl, Nat.le_of_ble_eq_true rfl⟩ (fun H locs hP hS => ?_)
        refine lv_aload_n hx hb eX12_qSums_19.2.2.2.2.2.1 rfl (lv_at hl 0 rfl) ?_
        refine va_get (D := D) (ci := 12) (v := .int (i2 (gI s26 5))) (C := RX12) (T := TX12) (N := 116) hx hb ht inX12 hown hK hP 0 RW_0 rfl 5 (by decide) (ht (.fieldLink RX12 266 "CloneVolumesModel" "bad" "I") fl_X12_266) (fun _ h9 => h9) mF_5 eX12_qSums_19.2.2.2.2.2.2.1 ?_
        obtain ⟨hr27, h⟩ := rg_e h
        refine lv_if_ne (tgt := 48) hx hb eX12_qSums_19.2.2.2.2.2.2.2 (by decide) (fun c28 => ?_) (fun c28 => ?_)
        · have h := if_f (mt (i2_eq (x := (gI s26 5)) (y := 0) hr27 (by decide)).mpr c28) h
          exact J48 (x13, s26) _ _ _ ⟨hP, hS, lv_sub hl [0, 1] rfl, h⟩
        · have h := if_t ((i2_eq (x := (gI s26 5)) (y := 0) hr27 (by decide)).mp c28) h
          refine lv_aload_n hx hb eX12_qSums_37.1 rfl (lv_at hl 0 rfl) ?_
          obtain ⟨⟨r31, s30⟩, hc29, h⟩ := bn_e h
          refine ywV (r0 := i2 r31) (As := []) (rest := []) (C := RX12) (n := 0) (ws' := RW D a s30) ⟨hx, hb, hml, hown, ht⟩ (k_x12_qGoesOn l D a _ _ _ hc29) (zgV ml_X12_732 im_X12_qGoesOn se_X12_qGoesOn in_X12 co_X12_qGoesOn) rfl rfl (by decide +kernel) ⟨Nat.le_of_ble_eq_true rfl, Nat.le_of_ble_eq_true rfl⟩ hN hK hP (hDD _) hS hA 0 RW_0 rfl rfl rfl hl.1 rfl (Nat.le_of_ble_eq_true rfl) eX12_qSums_37.2.1 ⟨Nat.le_of_ble_eq_true rfl, Nat.le_of_ble_eq_true rfl⟩ (fun H locs hP hS => ?_)
          obtain ⟨hr32, h⟩ := rg_e h
          refine lv_if_eq (tgt := 48) hx hb eX12_qSums_37.2.2.1 (by decide) (fun c33 => ?_) (fun c33 => ?_)
          · have h := if_t ((i2_eq (x := r31) (y := 0) hr32 (by decide)).mp c33) h
            exact J48 (x13, s30) _ _ _ ⟨hP, hS, lv_sub hl [0, 1] rfl, h⟩
          · have h := if_f (mt (i2_eq (x := r31) (y := 0) hr32 (by decide)).mpr c33) h
            refine lv_iconst (v := 1) hx hb eX12_qSums_37.2.2.2.1 (by decide) ?_
            refine lv_goto (tgt := 49) hx hb eX12_qSums_37.2.2.2.2.1 (by decide) ?_
            exact J49 (x13, 1, s30) _ _ _ ⟨hP, hS, lv_sub hl [0, 1] rfl, h⟩
  refine lv_aload_n hx hb eX12_qHasSquare_22.2.2.2.2.2.1 rfl (lv_at hl 0 rfl) ?_
  refine va_get (D := D) (ci := 12) (v := .int (i2 (gI s 106))) (C := RX12) (T := TX12) (N := 116) hx hb ht inX12 hown hK hP 0 RW_0 rfl 106 (by decide) (ht (.fieldLink RX12 362 "CloneVolumesModel" "qBase" "I") fl_X12_362) (fun _ h9 => h9) mF_106 eX12_qHasSquare_22.2.2.2.2.2.2.1 ?_
  refine lv_istore_n (lv' := [(1, .int (i2 (gI s 106))), (0, .ref (a 200))]) hx hb eX12_qHasSquare_22.2.2.2.2.2.2.2 rfl hl (by decide) rfl (fun ls hl => ?_)
  refine lv_aload_n hx hb eX12_qSums_5.1 rfl (lv_at hl 1 rfl) ?_
  refine lv_aload_n hx hb eX12_qSums_5.2.1 rfl (lv_at hl 1 rfl) ?_
  refine va_get (D := D) (ci := 12) (v := .int (i2 (gI s 104))) (C := RX12) (T := TX12) (N := 116) hx hb ht inX12 hown hK hP 0 RW_0 rfl 104 (by decide) (ht (.fieldLink RX12 356 "CloneVolumesModel" "qWaits" "I") fl_X12_356) (fun _ h9 => h9) mF_104 eX12_qSums_5.2.2.1 ?_
  refine ya_put (D := D) (ci := 12) (v := .int (i2 (gI s 104))) (ty := .int) (C := RX12) (T := TX12) (N := 116) hx hb ht inX12 tyX12 tyX12_ok nmX12 hown hK hP (hDD _) hS 0 RW_0 rfl 106 (by decide) (ht (.fieldLink RX12 362 "CloneVolumesModel" "qBase" "I") fl_X12_362) (fun _ h9 => h9) rfl (by decide +kernel) rfl rfl (by rw [mF_len]; decide) eX12_qSums_5.2.2.2.1 (RW_f106 (gI s 104)) (fun H locs hP hS => ?_)
  obtain ⟨s34, hs34, h⟩ := st_e h
  rw [hs34] at hP
  refine lv_iconst (v := 1) hx hb eX12_qSums_5.2.2.2.2.1 (by decide) ?_
  refine lv_istore_n (lv' := [(2, .int 1), (1, .int (i2 (gI s 106))), (0, .ref (a 200))]) hx hb eX12_qSums_5.2.2.2.2.2.1 rfl hl (by decide) rfl (fun ls hl => ?_)
  exact J15 FU (gI s 106, 1, s34) _ _ _ ⟨hP, hS, lv_sub hl [2, 1, 0] rfl, h⟩
set_option maxHeartbeats 4000000 in
set_option maxRecDepth 100000 in
theorem k_x12_qFact (l : Launch) (D : va_G) (a : Nat → Nat) (sz : Nat) (s : MS) (o : MS) (h : m_x12_qFact s = some o) : yWv l yX12_qFact cX12_qFact 2 none { frames := 7, cells := 0, slots := 0, locals := 420 } D sz [.ref (a 200)] (RW D a s) (RW D a o) := by
  refine Met.ofW (cc := cX12_qFact) (maxL := 2) (ret := none) (by decide) rfl ?_
  intro p e s₀ m args below meth c s₁ B hml hv
  obtain ⟨rfl, ⟨hsz, hP, hK, hD0⟩, hN⟩ := hv
  have hx := B.exec
  have hb := B.bytes
  have hr := B.returns
  have hts := atoms_spec (ws := wz yX12_qFact cX12_qFact 2 none) B.pre
  have ht : ∀ w ∈ lw_gd, w.before _ s₀ = true := fun w h => hts w (List.mem_cons_of_mem _ h)
  have hown : s₀.vm.findClass RX12 = some m.cls := findClass_of_methodNamed B.named
  have hlocks := B.notSynchronized
  subst hsz
  have hD := hD0.self (sz := s₀.heap.size)
  generalize hAe : va_A (RW D a s) s₀.heap.size = A at hD ⊢
  have hA : ∀ q : Nat, s₀.heap.size ≤ q → A q := fun q h => by rw [← hAe]; exact Or.inr h
  have hS : va_S A s₀.heap s₀.heap [] := va_S.rf
  have hDD : ∀ t : MS, va_D A (RW D a t) := fun t => RW_D t hD
  have hl := lv_entry ([.ref (a 200)]) (n := 2) (Nat.le_of_ble_eq_true rfl)
  rw [lg_entry_eq]
  generalize (lg_sl ([.ref (a 200)]) ++ List.replicate (2 - (lg_sl ([.ref (a 200)])).length) Slot.unset).toArray = ls at hl ⊢
  have hl : lv_has ls 2 [(0, .ref (a 200))] := hl
  unfold m_x12_qFact at h
  refine y_head (pcJ := 102) (σ := Int × MS) (fun u H locs ls => va_P D vwCl (RW D a u.2) H ∧ va_S A s₀.heap H locs ∧ lv_has ls 2 [] ∧ m_x12_qFact_J102 u.1 u.2 = some o) (fun u => [.int (i2 u.1), .ref (a 200)]) (fun u H locs ls hI => ?_) (fun J102 => ?_)
  · obtain ⟨hP, hS, hl, h⟩ := hI
    obtain ⟨x1, s2⟩ := u
    have hP : va_P D vwCl (RW D a s2) H := hP
    have hl : lv_has ls 2 [] := hl
    have h : m_x12_qFact_J102 x1 s2 = some o := h
    unfold m_x12_qFact_J102 at h
    obtain ⟨s4, hc3, h⟩ := bn_e h
    refine ywVv (As := [.int (i2 x1)]) (rest := []) (C := RX12) (n := 1) (ws' := RW D a s4) ⟨hx, hb, hml, hown, ht⟩ (k_x12_qCode l D a x1 _ _ _ hc3) (zgV ml_X12_693 im_X12_qCode se_X12_qCode in_X12 co_X12_qCode) rfl rfl (by decide +kernel) ⟨Nat.le_of_ble_eq_true rfl, Nat.le_of_ble_eq_true rfl⟩ hN hK hP (hDD _) hS hA 0 RW_0 rfl rfl rfl hl.1 rfl (Nat.le_of_ble_eq_true rfl) eX12_qFact_89.2.2.2.2.2.2.1 ⟨Nat.le_of_ble_eq_true rfl, Nat.le_of_ble_eq_true rfl⟩ (fun H locs hP hS => ?_)
    obtain rfl := Option.some.inj h
    exact W.vret hx hb hr (fun t ht hW => ⟨⟨(), rfl, trivial, by rw [ht]; exact hP, va_K.moved hW.alike hK, hDD _⟩, hS.F ht⟩) hS.2.2 eX12_qFact_89.2.2.2.2.2.2.2
  refine y_head (pcJ := 63) (σ := Int × MS) (fun u H locs ls => va_P D vwCl (RW D a u.2) H ∧ va_S A s₀.heap H locs ∧ lv_has ls 2 [(0, .ref (a 200)), (1, .int (i2 u.1))] ∧ m_x12_qFact_J63 u.1 u.2 = some o) (fun u => []) (fun u H locs ls hI => ?_) (fun J63 => ?_)
  · obtain ⟨hP, hS, hl, h⟩ := hI
    obtain ⟨x5, s6⟩ := u
    have hP : va_P D vwCl (RW D a s6) H := hP
    have hl : lv_has ls 2 [(0, .ref (a 200)), (1, .int (i2 x5))] := hl
    have h : m_x12_qFact_J63 x5 s6 = some o := h
    unfold m_x12_qFact_J63 at h
    refine lv_aload_n hx hb eX12_qFact_59.2.2.1 rfl (lv_at hl 0 rfl) ?_
    refine lv_dup hx hb eX12_qFact_59.2.2.2.1 rfl ?_
    refine va_get (D := D) (ci := 12) (v := .int (i2 (gI s6 2))) (C := RX12) (T := TX12) (N := 116) hx hb ht inX12 hown hK hP 0 RW_0 rfl 2 (by decide) (ht (.fieldLink RX12 272 "CloneVolumesModel" "at" "I") fl_X12_272) (fun _ h9 => h9) mF_2 eX12_qFact_59.2.2.2.2.1 ?_
    refine lv_iconst (v := 1) hx hb eX12_qFact_59.2.2.2.2.2.1 (by decide) ?_
    refine lv_iadd hx hb eX12_qFact_59.2.2.2.2.2.2.1 ?_
    refine z_topi (y := i2 ((gI s6 2) + 1)) (i2_add (gI s6 2) 1) ?_
    refine ya_put (D := D) (ci := 12) (v := .int (i2 ((gI s6 2) + 1))) (ty := .int) (C := RX12) (T := TX12) (N := 116) hx hb ht inX12 tyX12 tyX12_ok nmX12 hown hK hP (hDD _) hS 0 RW_0 rfl 2 (by decide) (ht (.fieldLink RX12 272 "CloneVolumesModel" "at" "I") fl_X12_272) (fun _ h9 => h9) rfl (by decide +kernel) rfl rfl (by rw [mF_len]; decide) eX12_qFact_59.2.2.2.2.2.2.2 (RW_f2 ((gI s6 2) + 1)) (fun H locs hP hS => ?_)
    obtain ⟨s7, hs7, h⟩ := st_e h
    rw [hs7] at hP
    refine lv_aload_n hx hb eX12_qFact_73.1 rfl (lv_at hl 0 rfl) ?_
    obtain ⟨s9, hc8, h⟩ := bn_e h
    refine ywVv (As := []) (rest := []) (C := RX12) (n := 0) (ws' := RW D a s9) ⟨hx, hb, hml, hown, ht⟩ (k_x12_qSums l D a _ _ _ hc8) (zgV ml_X12_368 im_X12_qSums se_X12_qSums in_X12 co_X12_qSums) rfl rfl (by decide +kernel) ⟨Nat.le_of_ble_eq_true rfl, Nat.le_of_ble_eq_true rfl⟩ hN hK hP (hDD _) hS hA 0 RW_0 rfl rfl rfl hl.1 rfl (Nat.le_of_ble_eq_true rfl) eX12_qFact_73.2.1 ⟨Nat.le_of_ble_eq_true rfl, Nat.le_of_ble_eq_true rfl⟩ (fun H locs hP hS => ?_)
    refine lv_aload_n hx hb eX12_qFact_73.2.2.1 rfl (lv_at hl 0 rfl) ?_
    refine lv_iload_n hx hb eX12_qFact_73.2.2.2.1 rfl (lv_at hl 1 rfl) ?_
    refine lv_bipush (v := 60) hx hb eX12_qFact_73.2.2.2.2.1 (by decide) ?_
    obtain ⟨hr10, h⟩ := rg_e h
    refine lv_icmp_ne (tgt := 89) hx hb eX12_qFact_73.2.2.2.2.2.1 (by decide) (fun c11 => ?_) (fun c11 => ?_)
    · have h := if_f (mt (i2_eq (x := x5) (y := 60) hr10 (by decide)).mpr c11) h
      refine lv_iload_n hx hb eX12_qFact_89.1 rfl (lv_at hl 1 rfl) ?_
      refine lv_bipush (v := 62) hx hb eX12_qFact_89.2.1 (by decide) ?_
      obtain ⟨hr12, h⟩ := rg_e h
      refine lv_icmp_ne (tgt := 100) hx hb eX12_qFact_89.2.2.1 (by decide) (fun c13 => ?_) (fun c13 => ?_)
      · have h := if_f (mt (i2_eq (x := x5) (y := 62) hr12 (by decide)).mpr c13) h
        refine lv_bipush (v := 9) hx hb eX12_qFact_89.2.2.2.2.2.1 (by decide) ?_
        exact J102 (9, s9) _ _ _ ⟨hP, hS, lv_sub hl [] rfl, h⟩
      · have h := if_t ((i2_eq (x := x5) (y := 62) hr12 (by decide)).mp c13) h
        refine lv_bipush (v := 8) hx hb eX12_qFact_89.2.2.2.1 (by decide) ?_
        refine lv_goto (tgt := 102) hx hb eX12_qFact_89.2.2.2.2.1 (by decide) ?_
        exact J102 (8, s9) _ _ _ ⟨hP, hS, lv_sub hl [] rfl, h⟩
    · have h := if_t ((i2_eq (x := x5) (y := 60) hr10 (by decide)).mp c11) h
      refine lv_bipush (v := 7) hx hb eX12_qFact_73.2.2.2.2.2.2.1 (by decide) ?_
      refine lv_goto (tgt := 102) hx hb eX12_qFact_73.2.2.2.2.2.2.2 (by decide) ?_
      exact J102 (7, s9) _ _ _ ⟨hP, hS, lv_sub hl [] rfl, h⟩
  refine lv_aload_n hx hb eX12_qDropsNots_33.2.1 rfl (lv_at hl 0 rfl) ?_
  refine lv_aload_n hx hb eX12_qDropsNots_33.2.2.1 rfl (lv_at hl 0 rfl) ?_
  refine va_get (D := D) (ci := 12) (v := .ref (a 88)) (C := RX12) (T := TX12) (N := 116) hx hb ht inX12 hown hK hP 0 RW_0 rfl 88 (by decide) (ht (.fieldLink RX12 204 "CloneVolumesModel" "allAsked" "[C") fl_X12_204) (fun _ h9 => h9) mF_88 eX12_qDropsNots_33.2.2.2.1 ?_
  obtain ⟨⟨r16, s15⟩, hc14, h⟩ := bn_e h
  refine ywV (r0 := i2 r16) (As := [.ref (a 88)]) (rest := []) (C := RX12) (n := 1) (ws' := RW D a s15) ⟨hx, hb, hml, hown, ht⟩ (k_x12_takes l D a 62 (a 88) 88 3 (fun _ => RW_62) (by decide) _ _ _ hc14) (zgV ml_X12_293 im_X12_takes se_X12_takes in_X12 co_X12_takes) rfl rfl (by decide +kernel) ⟨Nat.le_of_ble_eq_true rfl, Nat.le_of_ble_eq_true rfl⟩ hN hK hP (hDD _) hS hA 0 RW_0 rfl rfl rfl hl.1 rfl (Nat.le_of_ble_eq_true rfl) eX12_qDropsNots_33.2.2.2.2.1 ⟨Nat.le_of_ble_eq_true rfl, Nat.le_of_ble_eq_true rfl⟩ (fun H locs hP hS => ?_)
  obtain ⟨hr17, h⟩ := rg_e h
  refine lv_if_eq (tgt := 18) hx hb eX12_qDropsNots_33.2.2.2.2.2.1 (by decide) (fun c18 => ?_) (fun c18 => ?_)
  · have h := if_t ((i2_eq (x := r16) (y := 0) hr17 (by decide)).mp c18) h
    refine lv_aload_n hx hb eX12_qFact_14.2.2.1 rfl (lv_at hl 0 rfl) ?_
    obtain ⟨s20, hc19, h⟩ := bn_e h
    refine ywVv (As := []) (rest := []) (C := RX12) (n := 0) (ws' := RW D a s20) ⟨hx, hb, hml, hown, ht⟩ (k_x12_qSums l D a _ _ _ hc19) (zgV ml_X12_368 im_X12_qSums se_X12_qSums in_X12 co_X12_qSums) rfl rfl (by decide +kernel) ⟨Nat.le_of_ble_eq_true rfl, Nat.le_of_ble_eq_true rfl⟩ hN hK hP (hDD _) hS hA 0 RW_0 rfl rfl rfl hl.1 rfl (Nat.le_of_ble_eq_true rfl) eX12_qFact_14.2.2.2.1 ⟨Nat.le_of_ble_eq_true rfl, Nat.le_of_ble_eq_true rfl⟩ (fun H locs hP hS => ?_)
    refine lv_aload_n hx hb eX12_qFact_14.2.2.2.2.1 rfl (lv_at hl 0 rfl) ?_
    refine va_get (D := D) (ci := 12) (v := .int (i2 (gI s20 5))) (C := RX12) (T := TX12) (N := 116) hx hb ht inX12 hown hK hP 0 RW_0 rfl 5 (by decide) (ht (.fieldLink RX12 266 "CloneVolumesModel" "bad" "I") fl_X12_266) (fun _ h9 => h9) mF_5 eX12_qFact_14.2.2.2.2.2.1 ?_
    obtain ⟨hr21, h⟩ := rg_e h
    refine lv_if_eq (tgt := 30) hx hb eX12_qFact_14.2.2.2.2.2.2.1 (by decide) (fun c22 => ?_) (fun c22 => ?_)
    · have h := if_t ((i2_eq (x := (gI s20 5)) (y := 0) hr21 (by decide)).mp c22) h
      refine lv_aload_n hx hb eX12_qFact_30.1 rfl (lv_at hl 0 rfl) ?_
      obtain ⟨⟨r25, s24⟩, hc23, h⟩ := bn_e h
      refine ywV (r0 := i2 r25) (As := []) (rest := []) (C := RX12) (n := 0) (ws' := RW D a s24) ⟨hx, hb, hml, hown, ht⟩ (k_x12_look l D a _ _ _ hc23) (zgV ml_X12_278 im_X12_look se_X12_look in_X12 co_X12_look) rfl rfl (by decide +kernel) ⟨Nat.le_of_ble_eq_true rfl, Nat.le_of_ble_eq_true rfl⟩ hN hK hP (hDD _) hS hA 0 RW_0 rfl rfl rfl hl.1 rfl (Nat.le_of_ble_eq_true rfl) eX12_qFact_30.2.1 ⟨Nat.le_of_ble_eq_true rfl, Nat.le_of_ble_eq_true rfl⟩ (fun H locs hP hS => ?_)
      refine lv_istore_n (lv' := [(1, .int (i2 r25)), (0, .ref (a 200))]) hx hb eX12_qFact_30.2.2.1 rfl hl (by decide) rfl (fun ls hl => ?_)
      refine lv_iload_n hx hb eX12_qFact_30.2.2.2.1 rfl (lv_at hl 0 rfl) ?_
      refine lv_bipush (v := 60) hx hb eX12_qFact_30.2.2.2.2.1 (by decide) ?_
      obtain ⟨hr26, h⟩ := rg_e h
      refine lv_icmp_eq (tgt := 63) hx hb eX12_qFact_30.2.2.2.2.2.1 (by decide) (fun c27 => ?_) (fun c27 => ?_)
      · have h := if_t ((i2_eq (x := r25) (y := 60) hr26 (by decide)).mp c27) h
        exact J63 (r25, s24) _ _ _ ⟨hP, hS, lv_sub hl [1, 0] rfl, h⟩
      · have h := if_f (mt (i2_eq (x := r25) (y := 60) hr26 (by decide)).mpr c27) h
        refine lv_iload_n hx hb eX12_qFact_30.2.2.2.2.2.2.1 rfl (lv_at hl 0 rfl) ?_
        refine lv_bipush (v := 62) hx hb eX12_qFact_30.2.2.2.2.2.2.2 (by decide) ?_
        obtain ⟨hr28, h⟩ := rg_e h
        refine lv_icmp_eq (tgt := 63) hx hb eX12_qFact_44.1 (by decide) (fun c29 => ?_) (fun c29 => ?_)
        · have h := if_t ((i2_eq (x := r25) (y := 62) hr28 (by decide)).mp c29) h
          exact J63 (r25, s24) _ _ _ ⟨hP, hS, lv_sub hl [1, 0] rfl, h⟩
        · have h := if_f (mt (i2_eq (x := r25) (y := 62) hr28 (by decide)).mpr c29) h
          refine lv_iload_n hx hb eX12_qFact_44.2.1 rfl (lv_at hl 0 rfl) ?_
          refine lv_bipush (v := 61) hx hb eX12_qFact_44.2.2.1 (by decide) ?_
          obtain ⟨hr30, h⟩ := rg_e h
          refine lv_icmp_eq (tgt := 63) hx hb eX12_qFact_44.2.2.2.1 (by decide) (fun c31 => ?_) (fun c31 => ?_)
          · have h := if_t ((i2_eq (x := r25) (y := 61) hr30 (by decide)).mp c31) h
            exact J63 (r25, s24) _ _ _ ⟨hP, hS, lv_sub hl [1, 0] rfl, h⟩
          · have h := if_f (mt (i2_eq (x := r25) (y := 61) hr30 (by decide)).mpr c31) h
            refine lv_aload_n hx hb eX12_qFact_44.2.2.2.2.1 rfl (lv_at hl 1 rfl) ?_
            refine lv_iconst (v := 1) hx hb eX12_qFact_44.2.2.2.2.2.1 (by decide) ?_
            refine lv_aload_n hx hb eX12_qFact_44.2.2.2.2.2.2.1 rfl (lv_at hl 1 rfl) ?_
            refine va_get (D := D) (ci := 12) (v := .int (i2 (gI s24 2))) (C := RX12) (T := TX12) (N := 116) hx hb ht inX12 hown hK hP 0 RW_0 rfl 2 (by decide) (ht (.fieldLink RX12 272 "CloneVolumesModel" "at" "I") fl_X12_272) (fun _ h9 => h9) mF_2 eX12_qFact_44.2.2.2.2.2.2.2 ?_
            obtain ⟨s33, hc32, h⟩ := bn_e h
            refine ywVv (As := [.int 1, .int (i2 (gI s24 2))]) (rest := []) (C := RX12) (n := 2) (ws' := RW D a s33) ⟨hx, hb, hml, hown, ht⟩ (k_x12_fail l D a 1 (gI s24 2) _ _ _ hc32) (zgV ml_X12_296 im_X12_fail se_X12_fail in_X12 co_X12_fail) rfl rfl (by decide +kernel) ⟨Nat.le_of_ble_eq_true rfl, Nat.le_of_ble_eq_true rfl⟩ hN hK hP (hDD _) hS hA 0 RW_0 rfl rfl rfl hl.1 rfl (Nat.le_of_ble_eq_true rfl) eX12_qFact_59.1 ⟨Nat.le_of_ble_eq_true rfl, Nat.le_of_ble_eq_true rfl⟩ (fun H locs hP hS => ?_)
            obtain rfl := Option.some.inj h
            exact W.vret hx hb hr (fun t ht hW => ⟨⟨(), rfl, trivial, by rw [ht]; exact hP, va_K.moved hW.alike hK, hDD _⟩, hS.F ht⟩) hS.2.2 eX12_qFact_59.2.1
    · have h := if_f (mt (i2_eq (x := (gI s20 5)) (y := 0) hr21 (by decide)).mpr c22) h
      obtain rfl := Option.some.inj h
      exact W.vret hx hb hr (fun t ht hW => ⟨⟨(), rfl, trivial, by rw [ht]; exact hP, va_K.moved hW.alike hK, hDD _⟩, hS.F ht⟩) hS.2.2 eX12_qFact_14.2.2.2.2.2.2.2
  · have h := if_f (mt (i2_eq (x := r16) (y := 0) hr17 (by decide)).mpr c18) h
    refine lv_aload_n hx hb eX12_qDropsNots_33.2.2.2.2.2.2.1 rfl (lv_at hl 0 rfl) ?_
    refine lv_bipush (v := 13) hx hb eX12_qDropsNots_33.2.2.2.2.2.2.2 (by decide) ?_
    obtain ⟨s35, hc34, h⟩ := bn_e h
    refine ywVv (As := [.int 13]) (rest := []) (C := RX12) (n := 1) (ws' := RW D a s35) ⟨hx, hb, hml, hown, ht⟩ (k_x12_qCode l D a 13 _ _ _ hc34) (zgV ml_X12_693 im_X12_qCode se_X12_qCode in_X12 co_X12_qCode) rfl rfl (by decide +kernel) ⟨Nat.le_of_ble_eq_true rfl, Nat.le_of_ble_eq_true rfl⟩ hN hK hP (hDD _) hS hA 0 RW_0 rfl rfl rfl hl.1 rfl (Nat.le_of_ble_eq_true rfl) eX12_qFact_14.1 ⟨Nat.le_of_ble_eq_true rfl, Nat.le_of_ble_eq_true rfl⟩ (fun H locs hP hS => ?_)
    obtain rfl := Option.some.inj h
    exact W.vret hx hb hr (fun t ht hW => ⟨⟨(), rfl, trivial, by rw [ht]; exact hP, va_K.moved hW.alike hK, hDD _⟩, hS.F ht⟩) hS.2.2 eX12_qFact_14.2.1
set_option maxHeartbeats 4000000 in
set_option maxRecDepth 100000 in
theorem k_x12_qDropsNots (l : Launch) (D : va_G) (a : Nat → Nat) (sz : Nat) (s : MS) (o : MS) (h : m_x12_qDropsNots s = some o) : yWv l yX12_qDropsNots cX12_qDropsNots 1 none { frames := 2, cells := 0, slots := 0, locals := 120 } D sz [.ref (a 200)] (RW D a s) (RW D a o) := by
  refine Met.ofW (cc := cX12_qDropsNots) (maxL := 1) (ret := none) (by decide) rfl ?_
  intro p e s₀ m args below meth c s₁ B hml hv
  obtain ⟨rfl, ⟨hsz, hP, hK, hD0⟩, hN⟩ := hv
  have hx := B.exec
  have hb := B.bytes
  have hr := B.returns
  have hts := atoms_spec (ws := wz yX12_qDropsNots cX12_qDropsNots 1 none) B.pre
  have ht : ∀ w ∈ lw_gd, w.before _ s₀ = true := fun w h => hts w (List.mem_cons_of_mem _ h)
  have hown : s₀.vm.findClass RX12 = some m.cls := findClass_of_methodNamed B.named
  have hlocks := B.notSynchronized
  subst hsz
  have hD := hD0.self (sz := s₀.heap.size)
  generalize hAe : va_A (RW D a s) s₀.heap.size = A at hD ⊢
  have hA : ∀ q : Nat, s₀.heap.size ≤ q → A q := fun q h => by rw [← hAe]; exact Or.inr h
  have hS : va_S A s₀.heap s₀.heap [] := va_S.rf
  have hDD : ∀ t : MS, va_D A (RW D a t) := fun t => RW_D t hD
  have hl := lv_entry ([.ref (a 200)]) (n := 1) (Nat.le_of_ble_eq_true rfl)
  rw [lg_entry_eq]
  generalize (lg_sl ([.ref (a 200)]) ++ List.replicate (1 - (lg_sl ([.ref (a 200)])).length) Slot.unset).toArray = ls at hl ⊢
  have hl : lv_has ls 1 [(0, .ref (a 200))] := hl
  unfold m_x12_qDropsNots at h
  refine y_head (pcJ := 33) (σ := MS) (fun u H locs ls => va_P D vwCl (RW D a u) H ∧ va_S A s₀.heap H locs ∧ lv_has ls 1 [] ∧ m_x12_qDropsNots_J33 u = some o) (fun u => []) (fun u H locs ls hI => ?_) (fun J33 => ?_)
  · obtain ⟨hP, hS, hl, h⟩ := hI
    obtain ⟨s1, rfl⟩ : ∃ z, z = u := ⟨u, rfl⟩
    have hP : va_P D vwCl (RW D a s1) H := hP
    have hl : lv_has ls 1 [] := hl
    have h : m_x12_qDropsNots_J33 s1 = some o := h
    unfold m_x12_qDropsNots_J33 at h
    obtain rfl := Option.some.inj h
    exact W.vret hx hb hr (fun t ht hW => ⟨⟨(), rfl, trivial, by rw [ht]; exact hP, va_K.moved hW.alike hK, hDD _⟩, hS.F ht⟩) hS.2.2 eX12_qDropsNots_33.1
  refine y_loop (pcJ := 0) (σ := MS) (fun n u H locs ls => va_P D vwCl (RW D a u) H ∧ va_S A s₀.heap H locs ∧ lv_has ls 1 [(0, .ref (a 200))] ∧ m_x12_qDropsNots_L0 n u = some o) (fun u => []) (fun u H locs ls hI => by obtain ⟨_, _, _, h⟩ := hI; cases h) (fun n0 ih0 u H locs ls hI => ?_) (fun J0 => ?_)
  · obtain ⟨hP, hS, hl, h⟩ := hI
    obtain ⟨s2, rfl⟩ : ∃ z, z = u := ⟨u, rfl⟩
    have hP : va_P D vwCl (RW D a s2) H := hP
    have hl : lv_has ls 1 [(0, .ref (a 200))] := hl
    have h : m_x12_qDropsNots_b0 (m_x12_qDropsNots_L0 n0) s2 = some o := h
    unfold m_x12_qDropsNots_b0 at h
    refine lv_aload_n hx hb eX12_qDropsNots_0.1 rfl (lv_at hl 0 rfl) ?_
    refine va_get (D := D) (ci := 12) (v := .int (i2 (gI s2 5))) (C := RX12) (T := TX12) (N := 116) hx hb ht inX12 hown hK hP 0 RW_0 rfl 5 (by decide) (ht (.fieldLink RX12 266 "CloneVolumesModel" "bad" "I") fl_X12_266) (fun _ h9 => h9) mF_5 eX12_qDropsNots_0.2.1 ?_
    obtain ⟨hr3, h⟩ := rg_e h
    refine lv_if_ne (tgt := 33) hx hb eX12_qDropsNots_0.2.2.1 (by decide) (fun c4 => ?_) (fun c4 => ?_)
    · have h := if_f (mt (i2_eq (x := (gI s2 5)) (y := 0) hr3 (by decide)).mpr c4) h
      exact J33 s2 _ _ _ ⟨hP, hS, lv_sub hl [] rfl, h⟩
    · have h := if_t ((i2_eq (x := (gI s2 5)) (y := 0) hr3 (by decide)).mp c4) h
      refine lv_aload_n hx hb eX12_qDropsNots_0.2.2.2.1 rfl (lv_at hl 0 rfl) ?_
      refine lv_bipush (v := 12) hx hb eX12_qDropsNots_0.2.2.2.2.1 (by decide) ?_
      obtain ⟨r6, hc5, h⟩ := bn_e h
      refine ycV (r0 := i2 r6) (As := [.int 12]) (rest := []) (C := RX12) (n := 1) ⟨hx, hb, hml, hown, ht⟩ (k_x12_qIsOn l D a 12 _ _ hc5) (zgV ml_X12_726 im_X12_qIsOn se_X12_qIsOn in_X12 co_X12_qIsOn) rfl rfl (by decide +kernel) ⟨Nat.le_of_ble_eq_true rfl, Nat.le_of_ble_eq_true rfl⟩ hN hK hP hS 0 RW_0 rfl rfl rfl hl.1 rfl (Nat.le_of_ble_eq_true rfl) eX12_qDropsNots_0.2.2.2.2.2.1 ⟨Nat.le_of_ble_eq_true rfl, Nat.le_of_ble_eq_true rfl⟩ (fun H locs hP hS => ?_)
      obtain ⟨hr7, h⟩ := rg_e h
      refine lv_if_eq (tgt := 33) hx hb eX12_qDropsNots_0.2.2.2.2.2.2.1 (by decide) (fun c8 => ?_) (fun c8 => ?_)
      · have h := if_t ((i2_eq (x := r6) (y := 0) hr7 (by decide)).mp c8) h
        exact J33 s2 _ _ _ ⟨hP, hS, lv_sub hl [] rfl, h⟩
      · have h := if_f (mt (i2_eq (x := r6) (y := 0) hr7 (by decide)).mpr c8) h
        refine lv_aload_n hx hb eX12_qDropsNots_0.2.2.2.2.2.2.2 rfl (lv_at hl 0 rfl) ?_
        refine lv_dup hx hb eX12_qDropsNots_17.1 rfl ?_
        refine va_get (D := D) (ci := 12) (v := .int (i2 (gI s2 105))) (C := RX12) (T := TX12) (N := 116) hx hb ht inX12 hown hK hP 0 RW_0 rfl 105 (by decide) (ht (.fieldLink RX12 359 "CloneVolumesModel" "qOpened" "I") fl_X12_359) (fun _ h9 => h9) mF_105 eX12_qDropsNots_17.2.1 ?_
        refine lv_iconst (v := 1) hx hb eX12_qDropsNots_17.2.2.1 (by decide) ?_
        refine lv_isub hx hb eX12_qDropsNots_17.2.2.2.1 ?_
        refine z_topi (y := i2 ((gI s2 105) - 1)) (i2_sub (gI s2 105) 1) ?_
        refine ya_put (D := D) (ci := 12) (v := .int (i2 ((gI s2 105) - 1))) (ty := .int) (C := RX12) (T := TX12) (N := 116) hx hb ht inX12 tyX12 tyX12_ok nmX12 hown hK hP (hDD _) hS 0 RW_0 rfl 105 (by decide) (ht (.fieldLink RX12 359 "CloneVolumesModel" "qOpened" "I") fl_X12_359) (fun _ h9 => h9) rfl (by decide +kernel) rfl rfl (by rw [mF_len]; decide) eX12_qDropsNots_17.2.2.2.2.1 (RW_f105 ((gI s2 105) - 1)) (fun H locs hP hS => ?_)
        obtain ⟨s9, hs9, h⟩ := st_e h
        rw [hs9] at hP
        refine lv_aload_n hx hb eX12_qDropsNots_17.2.2.2.2.2.1 rfl (lv_at hl 0 rfl) ?_
        obtain ⟨s11, hc10, h⟩ := bn_e h
        refine ywVv (As := []) (rest := []) (C := RX12) (n := 0) (ws' := RW D a s11) ⟨hx, hb, hml, hown, ht⟩ (k_x12_qDrops l D a _ _ _ hc10) (zgV ml_X12_699 im_X12_qDrops se_X12_qDrops in_X12 co_X12_qDrops) rfl rfl (by decide +kernel) ⟨Nat.le_of_ble_eq_true rfl, Nat.le_of_ble_eq_true rfl⟩ hN hK hP (hDD _) hS hA 0 RW_0 rfl rfl rfl hl.1 rfl (Nat.le_of_ble_eq_true rfl) eX12_qDropsNots_17.2.2.2.2.2.2.1 ⟨Nat.le_of_ble_eq_true rfl, Nat.le_of_ble_eq_true rfl⟩ (fun H locs hP hS => ?_)
        refine lv_goto (tgt := 0) hx hb eX12_qDropsNots_17.2.2.2.2.2.2.2 (by decide) ?_
        exact ih0 s11 _ _ _ ⟨hP, hS, lv_sub hl [0] rfl, h⟩
  exact J0 FU s _ _ _ ⟨hP, hS, lv_sub hl [0] rfl, h⟩
set_option maxHeartbeats 4000000 in
set_option maxRecDepth 100000 in
theorem k_x12_qHasSquare (l : Launch) (D : va_G) (a : Nat → Nat) (s : MS) (o : Int) (h : m_x12_qHasSquare s = some o) : yRi l yX12_qHasSquare cX12_qHasSquare 2 (some .boolean) { frames := 0, cells := 0, slots := 0, locals := 0 } D [.ref (a 200)] (RW D a s) (i2 o) := by
  refine Met.ofW (cc := cX12_qHasSquare) (maxL := 2) (ret := (some .boolean)) (by decide) rfl ?_
  intro p e s₀ m args below meth c s₁ B hml hv
  obtain ⟨rfl, ⟨hP, hK⟩, hN⟩ := hv
  have hx := B.exec
  have hb := B.bytes
  have hr := B.returns
  have hts := atoms_spec (ws := wz yX12_qHasSquare cX12_qHasSquare 2 (some .boolean)) B.pre
  have ht : ∀ w ∈ lw_gd, w.before _ s₀ = true := fun w h => hts w (List.mem_cons_of_mem _ h)
  have hown : s₀.vm.findClass RX12 = some m.cls := findClass_of_methodNamed B.named
  have hlocks := B.notSynchronized
  have hS : va_S (fun _ => False) s₀.heap s₀.heap [] := va_S.rf
  have hl := lv_entry ([.ref (a 200)]) (n := 2) (Nat.le_of_ble_eq_true rfl)
  rw [lg_entry_eq]
  generalize (lg_sl ([.ref (a 200)]) ++ List.replicate (2 - (lg_sl ([.ref (a 200)])).length) Slot.unset).toArray = ls at hl ⊢
  have hl : lv_has ls 2 [(0, .ref (a 200))] := hl
  unfold m_x12_qHasSquare at h
  refine y_loop (pcJ := 2) (σ := Int) (fun n u H locs ls => va_P D vwCl (RW D a s) H ∧ va_S (fun _ => False) s₀.heap H locs ∧ lv_has ls 2 [(0, .ref (a 200)), (1, .int (i2 u))] ∧ m_x12_qHasSquare_L2 s n u = some o) (fun u => []) (fun u H locs ls hI => by obtain ⟨_, _, _, h⟩ := hI; cases h) (fun n2 ih2 u H locs ls hI => ?_) (fun J2 => ?_)
  · obtain ⟨hP, hS, hl, h⟩ := hI
    obtain ⟨x1, rfl⟩ : ∃ z, z = u := ⟨u, rfl⟩
    have hP : va_P D vwCl (RW D a s) H := hP
    have hl : lv_has ls 2 [(0, .ref (a 200)), (1, .int (i2 x1))] := hl
    have h : m_x12_qHasSquare_b2 s (m_x12_qHasSquare_L2 s n2) x1 = some o := h
    unfold m_x12_qHasSquare_b2 at h
    refine lv_iload_n hx hb eX12_qGoesOnTest_205.2.2.2.2.2.1 rfl (lv_at hl 1 rfl) ?_
    refine lv_aload_n hx hb eX12_qGoesOnTest_205.2.2.2.2.2.2.1 rfl (lv_at hl 0 rfl) ?_
    refine va_get (D := D) (ci := 12) (v := .int (i2 (gI s 104))) (C := RX12) (T := TX12) (N := 116) hx hb ht inX12 hown hK hP 0 RW_0 rfl 104 (by decide) (ht (.fieldLink RX12 356 "CloneVolumesModel" "qWaits" "I") fl_X12_356) (fun _ h9 => h9) mF_104 eX12_qGoesOnTest_205.2.2.2.2.2.2.2 ?_
    obtain ⟨hr2, h⟩ := rg_e h
    obtain ⟨hr3, h⟩ := rg_e h
    refine lv_icmp_ge (tgt := 29) hx hb eX12_qHasSquare_7.1 (by decide) (fun c4 => ?_) (fun c4 => ?_)
    · have h := if_t ((i2_le (x := (gI s 104)) (y := x1) hr3 hr2).mp c4) h
      refine lv_iconst (v := 0) hx hb eX12_qHasSquare_22.2.2.2.1 (by decide) ?_
      obtain rfl := Option.some.inj h
      exact W.zret (v := 0) hx hb hr (by decide) (fun t ht hW => ⟨⟨_, (), rfl, rfl, trivial⟩, hS.F ht⟩) hS.2.2 eX12_qHasSquare_22.2.2.2.2.1
    · have h := if_f (mt (i2_le (x := (gI s 104)) (y := x1) hr3 hr2).mpr c4) h
      refine lv_aload_n hx hb eX12_qHasSquare_7.2.1 rfl (lv_at hl 0 rfl) ?_
      refine va_get (D := D) (ci := 12) (v := .ref (a 103)) (C := RX12) (T := TX12) (N := 116) hx hb ht inX12 hown hK hP 0 RW_0 rfl 103 (by decide) (ht (.fieldLink RX12 246 "CloneVolumesModel" "qWait" "[I") fl_X12_246) (fun _ h9 => h9) mF_103 eX12_qHasSquare_7.2.2.1 ?_
      refine lv_iload_n hx hb eX12_qHasSquare_7.2.2.2.1 rfl (lv_at hl 1 rfl) ?_
      obtain ⟨y5, ey5, iy5, h⟩ := rdI_e h
      refine ya_iald (i := x1) hx hb hK hP 76 0 RW_76 rfl (by decide) ey5 iy5 eX12_qHasSquare_7.2.2.2.2.1 ?_
      refine lv_bipush (v := 25) hx hb eX12_qHasSquare_7.2.2.2.2.2.1 (by decide) ?_
      obtain ⟨hr6, h⟩ := rg_e h
      refine lv_icmp_ne (tgt := 23) hx hb eX12_qHasSquare_7.2.2.2.2.2.2.1 (by decide) (fun c7 => ?_) (fun c7 => ?_)
      · have h := if_f (mt (i2_eq (x := y5) (y := 25) hr6 (by decide)).mpr c7) h
        refine lv_iinc (v := i2 (x1 + 1)) (lv' := [(1, .int (i2 (x1 + 1))), (0, .ref (a 200))]) hx hb eX12_qHasSquare_22.2.1 hl (k := 1) rfl (i2_add x1 1) (by decide) rfl (fun ls hl => ?_)
        refine lv_goto (tgt := 2) hx hb eX12_qHasSquare_22.2.2.1 (by decide) ?_
        exact ih2 (x1 + 1) _ _ _ ⟨hP, hS, lv_sub hl [1, 0] rfl, h⟩
      · have h := if_t ((i2_eq (x := y5) (y := 25) hr6 (by decide)).mp c7) h
        refine lv_iconst (v := 1) hx hb eX12_qHasSquare_7.2.2.2.2.2.2.2 (by decide) ?_
        obtain rfl := Option.some.inj h
        exact W.zret (v := 1) hx hb hr (by decide) (fun t ht hW => ⟨⟨_, (), rfl, rfl, trivial⟩, hS.F ht⟩) hS.2.2 eX12_qHasSquare_22.1
  refine lv_iconst (v := 0) hx hb eX12_qGoesOnTest_205.2.2.2.1 (by decide) ?_
  refine lv_istore_n (lv' := [(1, .int 0), (0, .ref (a 200))]) hx hb eX12_qGoesOnTest_205.2.2.2.2.1 rfl hl (by decide) rfl (fun ls hl => ?_)
  exact J2 FU 0 _ _ _ ⟨hP, hS, lv_sub hl [1, 0] rfl, h⟩
set_option maxHeartbeats 4000000 in
set_option maxRecDepth 100000 in
theorem k_x12_qGoesOnTest (l : Launch) (D : va_G) (a : Nat → Nat) (sz : Nat) (s : MS) (o : (Int × MS)) (h : m_x12_qGoesOnTest s = some o) : yWi l yX12_qGoesOnTest cX12_qGoesOnTest 1 (some .boolean) { frames := 3, cells := 0, slots := 0, locals := 180 } D sz [.ref (a 200)] (RW D a s) (RW D a o.2) (i2 o.1) := by
  refine Met.ofW (cc := cX12_qGoesOnTest) (maxL := 1) (ret := (some .boolean)) (by decide) rfl ?_
  intro p e s₀ m args below meth c s₁ B hml hv
  obtain ⟨rfl, ⟨hsz, hP, hK, hD0⟩, hN⟩ := hv
  have hx := B.exec
  have hb := B.bytes
  have hr := B.returns
  have hts := atoms_spec (ws := wz yX12_qGoesOnTest cX12_qGoesOnTest 1 (some .boolean)) B.pre
  have ht : ∀ w ∈ lw_gd, w.before _ s₀ = true := fun w h => hts w (List.mem_cons_of_mem _ h)
  have hown : s₀.vm.findClass RX12 = some m.cls := findClass_of_methodNamed B.named
  have hlocks := B.notSynchronized
  subst hsz
  have hD := hD0.self (sz := s₀.heap.size)
  generalize hAe : va_A (RW D a s) s₀.heap.size = A at hD ⊢
  have hA : ∀ q : Nat, s₀.heap.size ≤ q → A q := fun q h => by rw [← hAe]; exact Or.inr h
  have hS : va_S A s₀.heap s₀.heap [] := va_S.rf
  have hDD : ∀ t : MS, va_D A (RW D a t) := fun t => RW_D t hD
  have hl := lv_entry ([.ref (a 200)]) (n := 1) (Nat.le_of_ble_eq_true rfl)
  rw [lg_entry_eq]
  generalize (lg_sl ([.ref (a 200)]) ++ List.replicate (1 - (lg_sl ([.ref (a 200)])).length) Slot.unset).toArray = ls at hl ⊢
  have hl : lv_has ls 1 [(0, .ref (a 200))] := hl
  unfold m_x12_qGoesOnTest at h
  refine y_head (pcJ := 208) (σ := MS) (fun u H locs ls => va_P D vwCl (RW D a u) H ∧ va_S A s₀.heap H locs ∧ lv_has ls 1 [] ∧ m_x12_qGoesOnTest_J208 u = some o) (fun u => []) (fun u H locs ls hI => ?_) (fun J208 => ?_)
  · obtain ⟨hP, hS, hl, h⟩ := hI
    obtain ⟨s1, rfl⟩ : ∃ z, z = u := ⟨u, rfl⟩
    have hP : va_P D vwCl (RW D a s1) H := hP
    have hl : lv_has ls 1 [] := hl
    have h : m_x12_qGoesOnTest_J208 s1 = some o := h
    unfold m_x12_qGoesOnTest_J208 at h
    refine lv_iconst (v := 0) hx hb eX12_qGoesOnTest_205.2.1 (by decide) ?_
    obtain rfl := Option.some.inj h
    exact W.zret (v := 0) hx hb hr (by decide) (fun t ht hW => ⟨⟨_, (), rfl, rfl, by rw [ht]; exact hP, va_K.moved hW.alike hK, hDD _⟩, hS.F ht⟩) hS.2.2 eX12_qGoesOnTest_205.2.2.1
  refine y_loop (pcJ := 137) (σ := MS) (fun n u H locs ls => va_P D vwCl (RW D a u) H ∧ va_S A s₀.heap H locs ∧ lv_has ls 1 [(0, .ref (a 200))] ∧ m_x12_qGoesOnTest_L137 n u = some o) (fun u => []) (fun u H locs ls hI => by obtain ⟨_, _, _, h⟩ := hI; cases h) (fun n137 ih137 u H locs ls hI => ?_) (fun J137 => ?_)
  · obtain ⟨hP, hS, hl, h⟩ := hI
    obtain ⟨s2, rfl⟩ : ∃ z, z = u := ⟨u, rfl⟩
    have hP : va_P D vwCl (RW D a s2) H := hP
    have hl : lv_has ls 1 [(0, .ref (a 200))] := hl
    have h : m_x12_qGoesOnTest_b137 (m_x12_qGoesOnTest_L137 n137) s2 = some o := h
    unfold m_x12_qGoesOnTest_b137 at h
    refine y_head (pcJ := 155) (σ := MS) (fun u H locs ls => va_P D vwCl (RW D a u) H ∧ va_S A s₀.heap H locs ∧ lv_has ls 1 [(0, .ref (a 200))] ∧ m_x12_qGoesOnTest_J155 (m_x12_qGoesOnTest_L137 n137) u = some o) (fun u => []) (fun u H locs ls hI => ?_) (fun J155 => ?_)
    · obtain ⟨hP, hS, hl, h⟩ := hI
      obtain ⟨s3, rfl⟩ : ∃ z, z = u := ⟨u, rfl⟩
      have hP : va_P D vwCl (RW D a s3) H := hP
      have hl : lv_has ls 1 [(0, .ref (a 200))] := hl
      have h : m_x12_qGoesOnTest_J155 (m_x12_qGoesOnTest_L137 n137) s3 = some o := h
      unfold m_x12_qGoesOnTest_J155 at h
      refine lv_aload_n hx hb eX12_qGoesOnTest_143.2.2.2.2.2.1 rfl (lv_at hl 0 rfl) ?_
      obtain ⟨s5, hc4, h⟩ := bn_e h
      refine ywVv (As := []) (rest := []) (C := RX12) (n := 0) (ws' := RW D a s5) ⟨hx, hb, hml, hown, ht⟩ (k_x12_qDrops l D a _ _ _ hc4) (zgV ml_X12_699 im_X12_qDrops se_X12_qDrops in_X12 co_X12_qDrops) rfl rfl (by decide +kernel) ⟨Nat.le_of_ble_eq_true rfl, Nat.le_of_ble_eq_true rfl⟩ hN hK hP (hDD _) hS hA 0 RW_0 rfl rfl rfl hl.1 rfl (Nat.le_of_ble_eq_true rfl) eX12_qGoesOnTest_143.2.2.2.2.2.2.1 ⟨Nat.le_of_ble_eq_true rfl, Nat.le_of_ble_eq_true rfl⟩ (fun H locs hP hS => ?_)
      refine lv_goto (tgt := 137) hx hb eX12_qGoesOnTest_143.2.2.2.2.2.2.2 (by decide) ?_
      exact ih137 s5 _ _ _ ⟨hP, hS, lv_sub hl [0] rfl, h⟩
    refine lv_aload_n hx hb eX12_qGoesOnTest_126.2.2.2.2.2.1 rfl (lv_at hl 0 rfl) ?_
    refine lv_bipush (v := 10) hx hb eX12_qGoesOnTest_126.2.2.2.2.2.2.1 (by decide) ?_
    obtain ⟨r7, hc6, h⟩ := bn_e h
    refine ycV (r0 := i2 r7) (As := [.int 10]) (rest := []) (C := RX12) (n := 1) ⟨hx, hb, hml, hown, ht⟩ (k_x12_qIsOn l D a 10 _ _ hc6) (zgV ml_X12_726 im_X12_qIsOn se_X12_qIsOn in_X12 co_X12_qIsOn) rfl rfl (by decide +kernel) ⟨Nat.le_of_ble_eq_true rfl, Nat.le_of_ble_eq_true rfl⟩ hN hK hP hS 0 RW_0 rfl rfl rfl hl.1 rfl (Nat.le_of_ble_eq_true rfl) eX12_qGoesOnTest_126.2.2.2.2.2.2.2 ⟨Nat.le_of_ble_eq_true rfl, Nat.le_of_ble_eq_true rfl⟩ (fun H locs hP hS => ?_)
    obtain ⟨hr8, h⟩ := rg_e h
    refine lv_if_ne (tgt := 155) hx hb eX12_qGoesOnTest_143.1 (by decide) (fun c9 => ?_) (fun c9 => ?_)
    · have h := if_f (mt (i2_eq (x := r7) (y := 0) hr8 (by decide)).mpr c9) h
      exact J155 s2 _ _ _ ⟨hP, hS, lv_sub hl [0] rfl, h⟩
    · have h := if_t ((i2_eq (x := r7) (y := 0) hr8 (by decide)).mp c9) h
      refine lv_aload_n hx hb eX12_qGoesOnTest_143.2.1 rfl (lv_at hl 0 rfl) ?_
      refine lv_bipush (v := 11) hx hb eX12_qGoesOnTest_143.2.2.1 (by decide) ?_
      obtain ⟨r11, hc10, h⟩ := bn_e h
      refine ycV (r0 := i2 r11) (As := [.int 11]) (rest := []) (C := RX12) (n := 1) ⟨hx, hb, hml, hown, ht⟩ (k_x12_qIsOn l D a 11 _ _ hc10) (zgV ml_X12_726 im_X12_qIsOn se_X12_qIsOn in_X12 co_X12_qIsOn) rfl rfl (by decide +kernel) ⟨Nat.le_of_ble_eq_true rfl, Nat.le_of_ble_eq_true rfl⟩ hN hK hP hS 0 RW_0 rfl rfl rfl hl.1 rfl (Nat.le_of_ble_eq_true rfl) eX12_qGoesOnTest_143.2.2.2.1 ⟨Nat.le_of_ble_eq_true rfl, Nat.le_of_ble_eq_true rfl⟩ (fun H locs hP hS => ?_)
      obtain ⟨hr12, h⟩ := rg_e h
      refine lv_if_eq (tgt := 162) hx hb eX12_qGoesOnTest_143.2.2.2.2.1 (by decide) (fun c13 => ?_) (fun c13 => ?_)
      · have h := if_t ((i2_eq (x := r11) (y := 0) hr12 (by decide)).mp c13) h
        refine lv_aload_n hx hb eX12_qGoesOnTest_162.1 rfl (lv_at hl 0 rfl) ?_
        refine va_get (D := D) (ci := 12) (v := .ref (a 103)) (C := RX12) (T := TX12) (N := 116) hx hb ht inX12 hown hK hP 0 RW_0 rfl 103 (by decide) (ht (.fieldLink RX12 246 "CloneVolumesModel" "qWait" "[I") fl_X12_246) (fun _ h9 => h9) mF_103 eX12_qGoesOnTest_162.2.1 ?_
        refine lv_aload_n hx hb eX12_qGoesOnTest_162.2.2.1 rfl (lv_at hl 0 rfl) ?_
        refine va_get (D := D) (ci := 12) (v := .int (i2 (gI s2 104))) (C := RX12) (T := TX12) (N := 116) hx hb ht inX12 hown hK hP 0 RW_0 rfl 104 (by decide) (ht (.fieldLink RX12 356 "CloneVolumesModel" "qWaits" "I") fl_X12_356) (fun _ h9 => h9) mF_104 eX12_qGoesOnTest_162.2.2.2.1 ?_
        refine lv_bipush (v := 11) hx hb eX12_qGoesOnTest_162.2.2.2.2.1 (by decide) ?_
        obtain ⟨hi14, h⟩ := inb_e h
        refine ya_iast (i := (gI s2 104)) (x := 11) hx hb hK hP (hDD _) hS 76 0 RW_76 rfl (by decide) hi14 eX12_qGoesOnTest_162.2.2.2.2.2.1 (RW_w76 _) (fun H locs hP hS => ?_)
        obtain ⟨s15, hs15, h⟩ := st_e h
        rw [hs15] at hP
        refine lv_aload_n hx hb eX12_qGoesOnTest_162.2.2.2.2.2.2.1 rfl (lv_at hl 0 rfl) ?_
        refine lv_dup hx hb eX12_qGoesOnTest_162.2.2.2.2.2.2.2 rfl ?_
        refine va_get (D := D) (ci := 12) (v := .int (i2 (gI s15 104))) (C := RX12) (T := TX12) (N := 116) hx hb ht inX12 hown hK hP 0 RW_0 rfl 104 (by decide) (ht (.fieldLink RX12 356 "CloneVolumesModel" "qWaits" "I") fl_X12_356) (fun _ h9 => h9) mF_104 eX12_qGoesOnTest_175.1 ?_
        refine lv_iconst (v := 1) hx hb eX12_qGoesOnTest_175.2.1 (by decide) ?_
        refine lv_iadd hx hb eX12_qGoesOnTest_175.2.2.1 ?_
        refine z_topi (y := i2 ((gI s15 104) + 1)) (i2_add (gI s15 104) 1) ?_
        refine ya_put (D := D) (ci := 12) (v := .int (i2 ((gI s15 104) + 1))) (ty := .int) (C := RX12) (T := TX12) (N := 116) hx hb ht inX12 tyX12 tyX12_ok nmX12 hown hK hP (hDD _) hS 0 RW_0 rfl 104 (by decide) (ht (.fieldLink RX12 356 "CloneVolumesModel" "qWaits" "I") fl_X12_356) (fun _ h9 => h9) rfl (by decide +kernel) rfl rfl (by rw [mF_len]; decide) eX12_qGoesOnTest_175.2.2.2.1 (RW_f104 ((gI s15 104) + 1)) (fun H locs hP hS => ?_)
        obtain ⟨s16, hs16, h⟩ := st_e h
        rw [hs16] at hP
        refine lv_iconst (v := 1) hx hb eX12_qGoesOnTest_175.2.2.2.2.1 (by decide) ?_
        obtain rfl := Option.some.inj h
        exact W.zret (v := 1) hx hb hr (by decide) (fun t ht hW => ⟨⟨_, (), rfl, rfl, by rw [ht]; exact hP, va_K.moved hW.alike hK, hDD _⟩, hS.F ht⟩) hS.2.2 eX12_qGoesOnTest_175.2.2.2.2.2.1
      · have h := if_f (mt (i2_eq (x := r11) (y := 0) hr12 (by decide)).mpr c13) h
        exact J155 s2 _ _ _ ⟨hP, hS, lv_sub hl [0] rfl, h⟩
  refine y_loop (pcJ := 87) (σ := MS) (fun n u H locs ls => va_P D vwCl (RW D a u) H ∧ va_S A s₀.heap H locs ∧ lv_has ls 1 [(0, .ref (a 200))] ∧ m_x12_qGoesOnTest_L87 n u = some o) (fun u => []) (fun u H locs ls hI => by obtain ⟨_, _, _, h⟩ := hI; cases h) (fun n87 ih87 u H locs ls hI => ?_) (fun J87 => ?_)
  · obtain ⟨hP, hS, hl, h⟩ := hI
    obtain ⟨s17, rfl⟩ : ∃ z, z = u := ⟨u, rfl⟩
    have hP : va_P D vwCl (RW D a s17) H := hP
    have hl : lv_has ls 1 [(0, .ref (a 200))] := hl
    have h : m_x12_qGoesOnTest_b87 (m_x12_qGoesOnTest_L87 n87) s17 = some o := h
    unfold m_x12_qGoesOnTest_b87 at h
    refine lv_aload_n hx hb eX12_qGoesOnTest_78.2.2.2.1 rfl (lv_at hl 0 rfl) ?_
    refine lv_bipush (v := 10) hx hb eX12_qGoesOnTest_78.2.2.2.2.1 (by decide) ?_
    obtain ⟨r19, hc18, h⟩ := bn_e h
    refine ycV (r0 := i2 r19) (As := [.int 10]) (rest := []) (C := RX12) (n := 1) ⟨hx, hb, hml, hown, ht⟩ (k_x12_qIsOn l D a 10 _ _ hc18) (zgV ml_X12_726 im_X12_qIsOn se_X12_qIsOn in_X12 co_X12_qIsOn) rfl rfl (by decide +kernel) ⟨Nat.le_of_ble_eq_true rfl, Nat.le_of_ble_eq_true rfl⟩ hN hK hP hS 0 RW_0 rfl rfl rfl hl.1 rfl (Nat.le_of_ble_eq_true rfl) eX12_qGoesOnTest_78.2.2.2.2.2.1 ⟨Nat.le_of_ble_eq_true rfl, Nat.le_of_ble_eq_true rfl⟩ (fun H locs hP hS => ?_)
    obtain ⟨hr20, h⟩ := rg_e h
    refine lv_if_eq (tgt := 103) hx hb eX12_qGoesOnTest_78.2.2.2.2.2.2.1 (by decide) (fun c21 => ?_) (fun c21 => ?_)
    · have h := if_t ((i2_eq (x := r19) (y := 0) hr20 (by decide)).mp c21) h
      refine lv_aload_n hx hb eX12_qGoesOnTest_97.2.2.1 rfl (lv_at hl 0 rfl) ?_
      refine va_get (D := D) (ci := 12) (v := .ref (a 103)) (C := RX12) (T := TX12) (N := 116) hx hb ht inX12 hown hK hP 0 RW_0 rfl 103 (by decide) (ht (.fieldLink RX12 246 "CloneVolumesModel" "qWait" "[I") fl_X12_246) (fun _ h9 => h9) mF_103 eX12_qGoesOnTest_97.2.2.2.1 ?_
      refine lv_aload_n hx hb eX12_qGoesOnTest_97.2.2.2.2.1 rfl (lv_at hl 0 rfl) ?_
      refine va_get (D := D) (ci := 12) (v := .int (i2 (gI s17 104))) (C := RX12) (T := TX12) (N := 116) hx hb ht inX12 hown hK hP 0 RW_0 rfl 104 (by decide) (ht (.fieldLink RX12 356 "CloneVolumesModel" "qWaits" "I") fl_X12_356) (fun _ h9 => h9) mF_104 eX12_qGoesOnTest_97.2.2.2.2.2.1 ?_
      refine lv_bipush (v := 10) hx hb eX12_qGoesOnTest_97.2.2.2.2.2.2.1 (by decide) ?_
      obtain ⟨hi22, h⟩ := inb_e h
      refine ya_iast (i := (gI s17 104)) (x := 10) hx hb hK hP (hDD _) hS 76 0 RW_76 rfl (by decide) hi22 eX12_qGoesOnTest_97.2.2.2.2.2.2.2 (RW_w76 _) (fun H locs hP hS => ?_)
      obtain ⟨s23, hs23, h⟩ := st_e h
      rw [hs23] at hP
      refine lv_aload_n hx hb eX12_qGoesOnTest_114.1 rfl (lv_at hl 0 rfl) ?_
      refine lv_dup hx hb eX12_qGoesOnTest_114.2.1 rfl ?_
      refine va_get (D := D) (ci := 12) (v := .int (i2 (gI s23 104))) (C := RX12) (T := TX12) (N := 116) hx hb ht inX12 hown hK hP 0 RW_0 rfl 104 (by decide) (ht (.fieldLink RX12 356 "CloneVolumesModel" "qWaits" "I") fl_X12_356) (fun _ h9 => h9) mF_104 eX12_qGoesOnTest_114.2.2.1 ?_
      refine lv_iconst (v := 1) hx hb eX12_qGoesOnTest_114.2.2.2.1 (by decide) ?_
      refine lv_iadd hx hb eX12_qGoesOnTest_114.2.2.2.2.1 ?_
      refine z_topi (y := i2 ((gI s23 104) + 1)) (i2_add (gI s23 104) 1) ?_
      refine ya_put (D := D) (ci := 12) (v := .int (i2 ((gI s23 104) + 1))) (ty := .int) (C := RX12) (T := TX12) (N := 116) hx hb ht inX12 tyX12 tyX12_ok nmX12 hown hK hP (hDD _) hS 0 RW_0 rfl 104 (by decide) (ht (.fieldLink RX12 356 "CloneVolumesModel" "qWaits" "I") fl_X12_356) (fun _ h9 => h9) rfl (by decide +kernel) rfl rfl (by rw [mF_len]; decide) eX12_qGoesOnTest_114.2.2.2.2.2.1 (RW_f104 ((gI s23 104) + 1)) (fun H locs hP hS => ?_)
      obtain ⟨s24, hs24, h⟩ := st_e h
      rw [hs24] at hP
      refine lv_iconst (v := 1) hx hb eX12_qGoesOnTest_114.2.2.2.2.2.2.1 (by decide) ?_
      obtain rfl := Option.some.inj h
      exact W.zret (v := 1) hx hb hr (by decide) (fun t ht hW => ⟨⟨_, (), rfl, rfl, by rw [ht]; exact hP, va_K.moved hW.alike hK, hDD _⟩, hS.F ht⟩) hS.2.2 eX12_qGoesOnTest_114.2.2.2.2.2.2.2
    · have h := if_f (mt (i2_eq (x := r19) (y := 0) hr20 (by decide)).mpr c21) h
      refine lv_aload_n hx hb eX12_qGoesOnTest_78.2.2.2.2.2.2.2 rfl (lv_at hl 0 rfl) ?_
      obtain ⟨s26, hc25, h⟩ := bn_e h
      refine ywVv (As := []) (rest := []) (C := RX12) (n := 0) (ws' := RW D a s26) ⟨hx, hb, hml, hown, ht⟩ (k_x12_qDrops l D a _ _ _ hc25) (zgV ml_X12_699 im_X12_qDrops se_X12_qDrops in_X12 co_X12_qDrops) rfl rfl (by decide +kernel) ⟨Nat.le_of_ble_eq_true rfl, Nat.le_of_ble_eq_true rfl⟩ hN hK hP (hDD _) hS hA 0 RW_0 rfl rfl rfl hl.1 rfl (Nat.le_of_ble_eq_true rfl) eX12_qGoesOnTest_97.1 ⟨Nat.le_of_ble_eq_true rfl, Nat.le_of_ble_eq_true rfl⟩ (fun H locs hP hS => ?_)
      refine lv_goto (tgt := 87) hx hb eX12_qGoesOnTest_97.2.1 (by decide) ?_
      exact ih87 s26 _ _ _ ⟨hP, hS, lv_sub hl [0] rfl, h⟩
  refine y_head (pcJ := 76) (σ := MS) (fun u H locs ls => va_P D vwCl (RW D a u) H ∧ va_S A s₀.heap H locs ∧ lv_has ls 1 [(0, .ref (a 200))] ∧ m_x12_qGoesOnTest_J76 u = some o) (fun u => []) (fun u H locs ls hI => ?_) (fun J76 => ?_)
  · obtain ⟨hP, hS, hl, h⟩ := hI
    obtain ⟨s27, rfl⟩ : ∃ z, z = u := ⟨u, rfl⟩
    have hP : va_P D vwCl (RW D a s27) H := hP
    have hl : lv_has ls 1 [(0, .ref (a 200))] := hl
    have h : m_x12_qGoesOnTest_J76 s27 = some o := h
    unfold m_x12_qGoesOnTest_J76 at h
    refine lv_aload_n hx hb eX12_qGoesOnTest_64.2.2.2.2.2.2.1 rfl (lv_at hl 0 rfl) ?_
    refine lv_aload_n hx hb eX12_qGoesOnTest_64.2.2.2.2.2.2.2 rfl (lv_at hl 0 rfl) ?_
    refine va_get (D := D) (ci := 12) (v := .ref (a 86)) (C := RX12) (T := TX12) (N := 116) hx hb ht inX12 hown hK hP 0 RW_0 rfl 86 (by decide) (ht (.fieldLink RX12 198 "CloneVolumesModel" "andAsked" "[C") fl_X12_198) (fun _ h9 => h9) mF_86 eX12_qGoesOnTest_78.1 ?_
    obtain ⟨⟨r30, s29⟩, hc28, h⟩ := bn_e h
    refine ywV (r0 := i2 r30) (As := [.ref (a 86)]) (rest := []) (C := RX12) (n := 1) (ws' := RW D a s29) ⟨hx, hb, hml, hown, ht⟩ (k_x12_takes l D a 60 (a 86) 86 3 (fun _ => RW_60) (by decide) _ _ _ hc28) (zgV ml_X12_293 im_X12_takes se_X12_takes in_X12 co_X12_takes) rfl rfl (by decide +kernel) ⟨Nat.le_of_ble_eq_true rfl, Nat.le_of_ble_eq_true rfl⟩ hN hK hP (hDD _) hS hA 0 RW_0 rfl rfl rfl hl.1 rfl (Nat.le_of_ble_eq_true rfl) eX12_qGoesOnTest_78.2.1 ⟨Nat.le_of_ble_eq_true rfl, Nat.le_of_ble_eq_true rfl⟩ (fun H locs hP hS => ?_)
    obtain ⟨hr31, h⟩ := rg_e h
    refine lv_if_eq (tgt := 126) hx hb eX12_qGoesOnTest_78.2.2.1 (by decide) (fun c32 => ?_) (fun c32 => ?_)
    · have h := if_t ((i2_eq (x := r30) (y := 0) hr31 (by decide)).mp c32) h
      refine lv_aload_n hx hb eX12_qGoesOnTest_126.1 rfl (lv_at hl 0 rfl) ?_
      refine lv_aload_n hx hb eX12_qGoesOnTest_126.2.1 rfl (lv_at hl 0 rfl) ?_
      refine va_get (D := D) (ci := 12) (v := .ref (a 87)) (C := RX12) (T := TX12) (N := 116) hx hb ht inX12 hown hK hP 0 RW_0 rfl 87 (by decide) (ht (.fieldLink RX12 201 "CloneVolumesModel" "orAsked" "[C") fl_X12_201) (fun _ h9 => h9) mF_87 eX12_qGoesOnTest_126.2.2.1 ?_
      obtain ⟨⟨r35, s34⟩, hc33, h⟩ := bn_e h
      refine ywV (r0 := i2 r35) (As := [.ref (a 87)]) (rest := []) (C := RX12) (n := 1) (ws' := RW D a s34) ⟨hx, hb, hml, hown, ht⟩ (k_x12_takes l D a 61 (a 87) 87 2 (fun _ => RW_61) (by decide) _ _ _ hc33) (zgV ml_X12_293 im_X12_takes se_X12_takes in_X12 co_X12_takes) rfl rfl (by decide +kernel) ⟨Nat.le_of_ble_eq_true rfl, Nat.le_of_ble_eq_true rfl⟩ hN hK hP (hDD _) hS hA 0 RW_0 rfl rfl rfl hl.1 rfl (Nat.le_of_ble_eq_true rfl) eX12_qGoesOnTest_126.2.2.2.1 ⟨Nat.le_of_ble_eq_true rfl, Nat.le_of_ble_eq_true rfl⟩ (fun H locs hP hS => ?_)
      obtain ⟨hr36, h⟩ := rg_e h
      refine lv_if_eq (tgt := 185) hx hb eX12_qGoesOnTest_126.2.2.2.2.1 (by decide) (fun c37 => ?_) (fun c37 => ?_)
      · have h := if_t ((i2_eq (x := r35) (y := 0) hr36 (by decide)).mp c37) h
        refine lv_aload_n hx hb eX12_qGoesOnTest_175.2.2.2.2.2.2.1 rfl (lv_at hl 0 rfl) ?_
        refine va_get (D := D) (ci := 12) (v := .int (i2 (gI s34 5))) (C := RX12) (T := TX12) (N := 116) hx hb ht inX12 hown hK hP 0 RW_0 rfl 5 (by decide) (ht (.fieldLink RX12 266 "CloneVolumesModel" "bad" "I") fl_X12_266) (fun _ h9 => h9) mF_5 eX12_qGoesOnTest_175.2.2.2.2.2.2.2 ?_
        obtain ⟨hr38, h⟩ := rg_e h
        refine lv_if_ne (tgt := 208) hx hb eX12_qGoesOnTest_189.1 (by decide) (fun c39 => ?_) (fun c39 => ?_)
        · have h := if_f (mt (i2_eq (x := (gI s34 5)) (y := 0) hr38 (by decide)).mpr c39) h
          exact J208 s34 _ _ _ ⟨hP, hS, lv_sub hl [] rfl, h⟩
        · have h := if_t ((i2_eq (x := (gI s34 5)) (y := 0) hr38 (by decide)).mp c39) h
          refine lv_aload_n hx hb eX12_qGoesOnTest_189.2.1 rfl (lv_at hl 0 rfl) ?_
          obtain ⟨r41, hc40, h⟩ := bn_e h
          refine ycV (r0 := i2 r41) (As := []) (rest := []) (C := RX12) (n := 0) ⟨hx, hb, hml, hown, ht⟩ (k_x12_qHasSquare l D a _ _ hc40) (zgV ml_X12_744 im_X12_qHasSquare se_X12_qHasSquare in_X12 co_X12_qHasSquare) rfl rfl (by decide +kernel) ⟨Nat.le_of_ble_eq_true rfl, Nat.le_of_ble_eq_true rfl⟩ hN hK hP hS 0 RW_0 rfl rfl rfl hl.1 rfl (Nat.le_of_ble_eq_true rfl) eX12_qGoesOnTest_189.2.2.1 ⟨Nat.le_of_ble_eq_true rfl, Nat.le_of_ble_eq_true rfl⟩ (fun H locs hP hS => ?_)
          obtain ⟨hr42, h⟩ := rg_e h
          refine lv_if_eq (tgt := 208) hx hb eX12_qGoesOnTest_189.2.2.2.1 (by decide) (fun c43 => ?_) (fun c43 => ?_)
          · have h := if_t ((i2_eq (x := r41) (y := 0) hr42 (by decide)).mp c43) h
            exact J208 s34 _ _ _ ⟨hP, hS, lv_sub hl [] rfl, h⟩
          · have h := if_f (mt (i2_eq (x := r41) (y := 0) hr42 (by decide)).mpr c43) h
            refine lv_aload_n hx hb eX12_qGoesOnTest_189.2.2.2.2.1 rfl (lv_at hl 0 rfl) ?_
            refine lv_iconst (v := 1) hx hb eX12_qGoesOnTest_189.2.2.2.2.2.1 (by decide) ?_
            refine lv_aload_n hx hb eX12_qGoesOnTest_189.2.2.2.2.2.2.1 rfl (lv_at hl 0 rfl) ?_
            refine va_get (D := D) (ci := 12) (v := .int (i2 (gI s34 2))) (C := RX12) (T := TX12) (N := 116) hx hb ht inX12 hown hK hP 0 RW_0 rfl 2 (by decide) (ht (.fieldLink RX12 272 "CloneVolumesModel" "at" "I") fl_X12_272) (fun _ h9 => h9) mF_2 eX12_qGoesOnTest_189.2.2.2.2.2.2.2 ?_
            obtain ⟨s45, hc44, h⟩ := bn_e h
            refine ywVv (As := [.int 1, .int (i2 (gI s34 2))]) (rest := []) (C := RX12) (n := 2) (ws' := RW D a s45) ⟨hx, hb, hml, hown, ht⟩ (k_x12_fail l D a 1 (gI s34 2) _ _ _ hc44) (zgV ml_X12_296 im_X12_fail se_X12_fail in_X12 co_X12_fail) rfl rfl (by decide +kernel) ⟨Nat.le_of_ble_eq_true rfl, Nat.le_of_ble_eq_true rfl⟩ hN hK hP (hDD _) hS hA 0 RW_0 rfl rfl rfl hl.1 rfl (Nat.le_of_ble_eq_true rfl) eX12_qGoesOnTest_205.1 ⟨Nat.le_of_ble_eq_true rfl, Nat.le_of_ble_eq_true rfl⟩ (fun H locs hP hS => ?_)
            exact J208 s45 _ _ _ ⟨hP, hS, lv_sub hl [] rfl, h⟩
      · have h := if_f (mt (i2_eq (x := r35) (y := 0) hr36 (by decide)).mpr c37) h
        exact J137 FU s34 _ _ _ ⟨hP, hS, lv_sub hl [0] rfl, h⟩
    · have h := if_f (mt (i2_eq (x := r30) (y := 0) hr31 (by decide)).mpr c32) h
      exact J87 FU s29 _ _ _ ⟨hP, hS, lv_sub hl [0] rfl, h⟩
  refine y_loop (pcJ := 0) (σ := MS) (fun n u H locs ls => va_P D vwCl (RW D a u) H ∧ va_S A s₀.heap H locs ∧ lv_has ls 1 [(0, .ref (a 200))] ∧ m_x12_qGoesOnTest_L0 n u = some o) (fun u => []) (fun u H locs ls hI => by obtain ⟨_, _, _, h⟩ := hI; cases h) (fun n0 ih0 u H locs ls hI => ?_) (fun J0 => ?_)
  · obtain ⟨hP, hS, hl, h⟩ := hI
    obtain ⟨s46, rfl⟩ : ∃ z, z = u := ⟨u, rfl⟩
    have hP : va_P D vwCl (RW D a s46) H := hP
    have hl : lv_has ls 1 [(0, .ref (a 200))] := hl
    have h : m_x12_qGoesOnTest_b0 (m_x12_qGoesOnTest_L0 n0) s46 = some o := h
    unfold m_x12_qGoesOnTest_b0 at h
    refine y_loop (pcJ := 33) (σ := MS) (fun n u H locs ls => va_P D vwCl (RW D a u) H ∧ va_S A s₀.heap H locs ∧ lv_has ls 1 [(0, .ref (a 200))] ∧ m_x12_qGoesOnTest_L33 (m_x12_qGoesOnTest_L0 n0) n u = some o) (fun u => []) (fun u H locs ls hI => by obtain ⟨_, _, _, h⟩ := hI; cases h) (fun n33 ih33 u H locs ls hI => ?_) (fun J33 => ?_)
    · obtain ⟨hP, hS, hl, h⟩ := hI
      obtain ⟨s47, rfl⟩ : ∃ z, z = u := ⟨u, rfl⟩
      have hP : va_P D vwCl (RW D a s47) H := hP
      have hl : lv_has ls 1 [(0, .ref (a 200))] := hl
      have h : m_x12_qGoesOnTest_b33 (m_x12_qGoesOnTest_L0 n0) (m_x12_qGoesOnTest_L33 (m_x12_qGoesOnTest_L0 n0) n33) s47 = some o := h
      unfold m_x12_qGoesOnTest_b33 at h
      refine lv_aload_n hx hb eX12_qGoesOnTest_33.1 rfl (lv_at hl 0 rfl) ?_
      refine lv_bipush (v := 25) hx hb eX12_qGoesOnTest_33.2.1 (by decide) ?_
      obtain ⟨r49, hc48, h⟩ := bn_e h
      refine ycV (r0 := i2 r49) (As := [.int 25]) (rest := []) (C := RX12) (n := 1) ⟨hx, hb, hml, hown, ht⟩ (k_x12_qIsOn l D a 25 _ _ hc48) (zgV ml_X12_726 im_X12_qIsOn se_X12_qIsOn in_X12 co_X12_qIsOn) rfl rfl (by decide +kernel) ⟨Nat.le_of_ble_eq_true rfl, Nat.le_of_ble_eq_true rfl⟩ hN hK hP hS 0 RW_0 rfl rfl rfl hl.1 rfl (Nat.le_of_ble_eq_true rfl) eX12_qGoesOnTest_33.2.2.1 ⟨Nat.le_of_ble_eq_true rfl, Nat.le_of_ble_eq_true rfl⟩ (fun H locs hP hS => ?_)
      obtain ⟨hr50, h⟩ := rg_e h
      refine lv_if_ne (tgt := 49) hx hb eX12_qGoesOnTest_33.2.2.2.1 (by decide) (fun c51 => ?_) (fun c51 => ?_)
      · have h := if_f (mt (i2_eq (x := r49) (y := 0) hr50 (by decide)).mpr c51) h
        refine lv_aload_n hx hb eX12_qGoesOnTest_33.2.2.2.2.2.2.2 rfl (lv_at hl 0 rfl) ?_
        refine lv_dup hx hb eX12_qGoesOnTest_50.1 rfl ?_
        refine va_get (D := D) (ci := 12) (v := .int (i2 (gI s47 104))) (C := RX12) (T := TX12) (N := 116) hx hb ht inX12 hown hK hP 0 RW_0 rfl 104 (by decide) (ht (.fieldLink RX12 356 "CloneVolumesModel" "qWaits" "I") fl_X12_356) (fun _ h9 => h9) mF_104 eX12_qGoesOnTest_50.2.1 ?_
        refine lv_iconst (v := 1) hx hb eX12_qGoesOnTest_50.2.2.1 (by decide) ?_
        refine lv_isub hx hb eX12_qGoesOnTest_50.2.2.2.1 ?_
        refine z_topi (y := i2 ((gI s47 104) - 1)) (i2_sub (gI s47 104) 1) ?_
        refine ya_put (D := D) (ci := 12) (v := .int (i2 ((gI s47 104) - 1))) (ty := .int) (C := RX12) (T := TX12) (N := 116) hx hb ht inX12 tyX12 tyX12_ok nmX12 hown hK hP (hDD _) hS 0 RW_0 rfl 104 (by decide) (ht (.fieldLink RX12 356 "CloneVolumesModel" "qWaits" "I") fl_X12_356) (fun _ h9 => h9) rfl (by decide +kernel) rfl rfl (by rw [mF_len]; decide) eX12_qGoesOnTest_50.2.2.2.2.1 (RW_f104 ((gI s47 104) - 1)) (fun H locs hP hS => ?_)
        obtain ⟨s52, hs52, h⟩ := st_e h
        rw [hs52] at hP
        refine lv_aload_n hx hb eX12_qGoesOnTest_50.2.2.2.2.2.1 rfl (lv_at hl 0 rfl) ?_
        refine lv_dup hx hb eX12_qGoesOnTest_50.2.2.2.2.2.2.1 rfl ?_
        refine va_get (D := D) (ci := 12) (v := .int (i2 (gI s52 105))) (C := RX12) (T := TX12) (N := 116) hx hb ht inX12 hown hK hP 0 RW_0 rfl 105 (by decide) (ht (.fieldLink RX12 359 "CloneVolumesModel" "qOpened" "I") fl_X12_359) (fun _ h9 => h9) mF_105 eX12_qGoesOnTest_50.2.2.2.2.2.2.2 ?_
        refine lv_iconst (v := 1) hx hb eX12_qGoesOnTest_64.1 (by decide) ?_
        refine lv_isub hx hb eX12_qGoesOnTest_64.2.1 ?_
        refine z_topi (y := i2 ((gI s52 105) - 1)) (i2_sub (gI s52 105) 1) ?_
        refine ya_put (D := D) (ci := 12) (v := .int (i2 ((gI s52 105) - 1))) (ty := .int) (C := RX12) (T := TX12) (N := 116) hx hb ht inX12 tyX12 tyX12_ok nmX12 hown hK hP (hDD _) hS 0 RW_0 rfl 105 (by decide) (ht (.fieldLink RX12 359 "CloneVolumesModel" "qOpened" "I") fl_X12_359) (fun _ h9 => h9) rfl (by decide +kernel) rfl rfl (by rw [mF_len]; decide) eX12_qGoesOnTest_64.2.2.1 (RW_f105 ((gI s52 105) - 1)) (fun H locs hP hS => ?_)
        obtain ⟨s53, hs53, h⟩ := st_e h
        rw [hs53] at hP
        refine lv_aload_n hx hb eX12_qGoesOnTest_64.2.2.2.1 rfl (lv_at hl 0 rfl) ?_
        obtain ⟨s55, hc54, h⟩ := bn_e h
        refine ywVv (As := []) (rest := []) (C := RX12) (n := 0) (ws' := RW D a s55) ⟨hx, hb, hml, hown, ht⟩ (k_x12_qDropsNots l D a _ _ _ hc54) (zgV ml_X12_738 im_X12_qDropsNots se_X12_qDropsNots in_X12 co_X12_qDropsNots) rfl rfl (by decide +kernel) ⟨Nat.le_of_ble_eq_true rfl, Nat.le_of_ble_eq_true rfl⟩ hN hK hP (hDD _) hS hA 0 RW_0 rfl rfl rfl hl.1 rfl (Nat.le_of_ble_eq_true rfl) eX12_qGoesOnTest_64.2.2.2.2.1 ⟨Nat.le_of_ble_eq_true rfl, Nat.le_of_ble_eq_true rfl⟩ (fun H locs hP hS => ?_)
        refine lv_goto (tgt := 0) hx hb eX12_qGoesOnTest_64.2.2.2.2.2.1 (by decide) ?_
        exact ih0 s55 _ _ _ ⟨hP, hS, lv_sub hl [0] rfl, h⟩
      · have h := if_t ((i2_eq (x := r49) (y := 0) hr50 (by decide)).mp c51) h
        refine lv_aload_n hx hb eX12_qGoesOnTest_33.2.2.2.2.1 rfl (lv_at hl 0 rfl) ?_
        obtain ⟨s57, hc56, h⟩ := bn_e h
        refine ywVv (As := []) (rest := []) (C := RX12) (n := 0) (ws' := RW D a s57) ⟨hx, hb, hml, hown, ht⟩ (k_x12_qDrops l D a _ _ _ hc56) (zgV ml_X12_699 im_X12_qDrops se_X12_qDrops in_X12 co_X12_qDrops) rfl rfl (by decide +kernel) ⟨Nat.le_of_ble_eq_true rfl, Nat.le_of_ble_eq_true rfl⟩ hN hK hP (hDD _) hS hA 0 RW_0 rfl rfl rfl hl.1 rfl (Nat.le_of_ble_eq_true rfl) eX12_qGoesOnTest_33.2.2.2.2.2.1 ⟨Nat.le_of_ble_eq_true rfl, Nat.le_of_ble_eq_true rfl⟩ (fun H locs hP hS => ?_)
        refine lv_goto (tgt := 33) hx hb eX12_qGoesOnTest_33.2.2.2.2.2.2.1 (by decide) ?_
        exact ih33 s57 _ _ _ ⟨hP, hS, lv_sub hl [0] rfl, h⟩
    refine lv_aload_n hx hb eX12_qGoesOnTest_0.1 rfl (lv_at hl 0 rfl) ?_
    refine va_get (D := D) (ci := 12) (v := .int (i2 (gI s46 5))) (C := RX12) (T := TX12) (N := 116) hx hb ht inX12 hown hK hP 0 RW_0 rfl 5 (by decide) (ht (.fieldLink RX12 266 "CloneVolumesModel" "bad" "I") fl_X12_266) (fun _ h9 => h9) mF_5 eX12_qGoesOnTest_0.2.1 ?_
    obtain ⟨hr58, h⟩ := rg_e h
    refine lv_if_ne (tgt := 76) hx hb eX12_qGoesOnTest_0.2.2.1 (by decide) (fun c59 => ?_) (fun c59 => ?_)
    · have h := if_f (mt (i2_eq (x := (gI s46 5)) (y := 0) hr58 (by decide)).mpr c59) h
      exact J76 s46 _ _ _ ⟨hP, hS, lv_sub hl [0] rfl, h⟩
    · have h := if_t ((i2_eq (x := (gI s46 5)) (y := 0) hr58 (by decide)).mp c59) h
      refine lv_aload_n hx hb eX12_qGoesOnTest_0.2.2.2.1 rfl (lv_at hl 0 rfl) ?_
      obtain ⟨⟨r62, s61⟩, hc60, h⟩ := bn_e h
      refine ywV (r0 := i2 r62) (As := []) (rest := []) (C := RX12) (n := 0) (ws' := RW D a s61) ⟨hx, hb, hml, hown, ht⟩ (k_x12_look l D a _ _ _ hc60) (zgV ml_X12_278 im_X12_look se_X12_look in_X12 co_X12_look) rfl rfl (by decide +kernel) ⟨Nat.le_of_ble_eq_true rfl, Nat.le_of_ble_eq_true rfl⟩ hN hK hP (hDD _) hS hA 0 RW_0 rfl rfl rfl hl.1 rfl (Nat.le_of_ble_eq_true rfl) eX12_qGoesOnTest_0.2.2.2.2.1 ⟨Nat.le_of_ble_eq_true rfl, Nat.le_of_ble_eq_true rfl⟩ (fun H locs hP hS => ?_)
      refine lv_bipush (v := 93) hx hb eX12_qGoesOnTest_0.2.2.2.2.2.1 (by decide) ?_
      obtain ⟨hr63, h⟩ := rg_e h
      refine lv_icmp_ne (tgt := 76) hx hb eX12_qGoesOnTest_0.2.2.2.2.2.2.1 (by decide) (fun c64 => ?_) (fun c64 => ?_)
      · have h := if_f (mt (i2_eq (x := r62) (y := 93) hr63 (by decide)).mpr c64) h
        exact J76 s61 _ _ _ ⟨hP, hS, lv_sub hl [0] rfl, h⟩
      · have h := if_t ((i2_eq (x := r62) (y := 93) hr63 (by decide)).mp c64) h
        refine lv_aload_n hx hb eX12_qGoesOnTest_0.2.2.2.2.2.2.2 rfl (lv_at hl 0 rfl) ?_
        obtain ⟨r66, hc65, h⟩ := bn_e h
        refine ycV (r0 := i2 r66) (As := []) (rest := []) (C := RX12) (n := 0) ⟨hx, hb, hml, hown, ht⟩ (k_x12_qHasSquare l D a _ _ hc65) (zgV ml_X12_744 im_X12_qHasSquare se_X12_qHasSquare in_X12 co_X12_qHasSquare) rfl rfl (by decide +kernel) ⟨Nat.le_of_ble_eq_true rfl, Nat.le_of_ble_eq_true rfl⟩ hN hK hP hS 0 RW_0 rfl rfl rfl hl.1 rfl (Nat.le_of_ble_eq_true rfl) eX12_qGoesOnTest_17.1 ⟨Nat.le_of_ble_eq_true rfl, Nat.le_of_ble_eq_true rfl⟩ (fun H locs hP hS => ?_)
        obtain ⟨hr67, h⟩ := rg_e h
        refine lv_if_eq (tgt := 76) hx hb eX12_qGoesOnTest_17.2.1 (by decide) (fun c68 => ?_) (fun c68 => ?_)
        · have h := if_t ((i2_eq (x := r66) (y := 0) hr67 (by decide)).mp c68) h
          exact J76 s61 _ _ _ ⟨hP, hS, lv_sub hl [0] rfl, h⟩
        · have h := if_f (mt (i2_eq (x := r66) (y := 0) hr67 (by decide)).mpr c68) h
          refine lv_aload_n hx hb eX12_qGoesOnTest_17.2.2.1 rfl (lv_at hl 0 rfl) ?_
          refine lv_dup hx hb eX12_qGoesOnTest_17.2.2.2.1 rfl ?_
          refine va_get (D := D) (ci := 12) (v := .int (i2 (gI s61 2))) (C := RX12) (T := TX12) (N := 116) hx hb ht inX12 hown hK hP 0 RW_0 rfl 2 (by decide) (ht (.fieldLink RX12 272 "CloneVolumesModel" "at" "I") fl_X12_272) (fun _ h9 => h9) mF_2 eX12_qGoesOnTest_17.2.2.2.2.1 ?_
          refine lv_iconst (v := 1) hx hb eX12_qGoesOnTest_17.2.2.2.2.2.1 (by decide) ?_
          refine lv_iadd hx hb eX12_qGoesOnTest_17.2.2.2.2.2.2.1 ?_
          refine z_topi (y := i2 ((gI s61 2) + 1)) (i2_add (gI s61 2) 1) ?_
          refine ya_put (D := D) (ci := 12) (v := .int (i2 ((gI s61 2) + 1))) (ty := .int) (C := RX12) (T := TX12) (N := 116) hx hb ht inX12 tyX12 tyX12_ok nmX12 hown hK hP (hDD _) hS 0 RW_0 rfl 2 (by decide) (ht (.fieldLink RX12 272 "CloneVolumesModel" "at" "I") fl_X12_272) (fun _ h9 => h9) rfl (by decide +kernel) rfl rfl (by rw [mF_len]; decide) eX12_qGoesOnTest_17.2.2.2.2.2.2.2 (RW_f2 ((gI s61 2) + 1)) (fun H locs hP hS => ?_)
          obtain ⟨s69, hs69, h⟩ := st_e h
          rw [hs69] at hP
          exact J33 FU s69 _ _ _ ⟨hP, hS, lv_sub hl [0] rfl, h⟩
  exact J0 FU s _ _ _ ⟨hP, hS, lv_sub hl [0] rfl, h⟩
set_option maxHeartbeats 4000000 in
set_option maxRecDepth 100000 in
theorem k_x12_qTest (l : Launch) (D : va_G) (a : Nat → Nat) (sz : Nat) (s : MS) (o : MS) (h : m_x12_qTest s = some o) : yWv l yX12_qTest cX12_qTest 3 none { frames := 8, cells := 0, slots := 0, locals := 480 } D sz [.ref (a 200)] (RW D a s) (RW D a o) := by
  refine Met.ofW (cc := cX12_qTest) (maxL := 3) (ret := none) (by decide) rfl ?_
  intro p e s₀ m args below meth c s₁ B hml hv
  obtain ⟨rfl, ⟨hsz, hP, hK, hD0⟩, hN⟩ := hv
  have hx := B.exec
  have hb := B.bytes
  have hr := B.returns
  have hts := atoms_spec (ws := wz yX12_qTest cX12_qTest 3 none) B.pre
  have ht : ∀ w ∈ lw_gd, w.before _ s₀ = true := fun w h => hts w (List.mem_cons_of_mem _ h)
  have hown : s₀.vm.findClass RX12 = some m.cls := findClass_of_methodNamed B.named
  have hlocks := B.notSynchronized
  subst hsz
  have hD := hD0.self (sz := s₀.heap.size)
  generalize hAe : va_A (RW D a s) s₀.heap.size = A at hD ⊢
  have hA : ∀ q : Nat, s₀.heap.size ≤ q → A q := fun q h => by rw [← hAe]; exact Or.inr h
  have hS : va_S A s₀.heap s₀.heap [] := va_S.rf
  have hDD : ∀ t : MS, va_D A (RW D a t) := fun t => RW_D t hD
  have hl := lv_entry ([.ref (a 200)]) (n := 3) (Nat.le_of_ble_eq_true rfl)
  rw [lg_entry_eq]
  generalize (lg_sl ([.ref (a 200)]) ++ List.replicate (3 - (lg_sl ([.ref (a 200)])).length) Slot.unset).toArray = ls at hl ⊢
  have hl : lv_has ls 3 [(0, .ref (a 200))] := hl
  unfold m_x12_qTest at h
  refine y_head (pcJ := 131) (σ := MS) (fun u H locs ls => va_P D vwCl (RW D a u) H ∧ va_S A s₀.heap H locs ∧ lv_has ls 3 [] ∧ m_x12_qTest_J131 u = some o) (fun u => []) (fun u H locs ls hI => ?_) (fun J131 => ?_)
  · obtain ⟨hP, hS, hl, h⟩ := hI
    obtain ⟨s1, rfl⟩ : ∃ z, z = u := ⟨u, rfl⟩
    have hP : va_P D vwCl (RW D a s1) H := hP
    have hl : lv_has ls 3 [] := hl
    have h : m_x12_qTest_J131 s1 = some o := h
    unfold m_x12_qTest_J131 at h
    obtain rfl := Option.some.inj h
    exact W.vret hx hb hr (fun t ht hW => ⟨⟨(), rfl, trivial, by rw [ht]; exact hP, va_K.moved hW.alike hK, hDD _⟩, hS.F ht⟩) hS.2.2 eX12_qTest_114.2.2.2.2.2.2.2
  refine y_loop (pcJ := 110) (σ := MS) (fun n u H locs ls => va_P D vwCl (RW D a u) H ∧ va_S A s₀.heap H locs ∧ lv_has ls 3 [(0, .ref (a 200))] ∧ m_x12_qTest_L110 n u = some o) (fun u => []) (fun u H locs ls hI => by obtain ⟨_, _, _, h⟩ := hI; cases h) (fun n110 ih110 u H locs ls hI => ?_) (fun J110 => ?_)
  · obtain ⟨hP, hS, hl, h⟩ := hI
    obtain ⟨s2, rfl⟩ : ∃ z, z = u := ⟨u, rfl⟩
    have hP : va_P D vwCl (RW D a s2) H := hP
    have hl : lv_has ls 3 [(0, .ref (a 200))] := hl
    have h : m_x12_qTest_b110 (m_x12_qTest_L110 n110) s2 = some o := h
    unfold m_x12_qTest_b110 at h
    refine lv_aload_n hx hb eX12_qTest_98.2.2.2.2.2.2.1 rfl (lv_at hl 0 rfl) ?_
    refine va_get (D := D) (ci := 12) (v := .int (i2 (gI s2 5))) (C := RX12) (T := TX12) (N := 116) hx hb ht inX12 hown hK hP 0 RW_0 rfl 5 (by decide) (ht (.fieldLink RX12 266 "CloneVolumesModel" "bad" "I") fl_X12_266) (fun _ h9 => h9) mF_5 eX12_qTest_98.2.2.2.2.2.2.2 ?_
    obtain ⟨hr3, h⟩ := rg_e h
    refine lv_if_ne (tgt := 131) hx hb eX12_qTest_114.1 (by decide) (fun c4 => ?_) (fun c4 => ?_)
    · have h := if_f (mt (i2_eq (x := (gI s2 5)) (y := 0) hr3 (by decide)).mpr c4) h
      exact J131 s2 _ _ _ ⟨hP, hS, lv_sub hl [] rfl, h⟩
    · have h := if_t ((i2_eq (x := (gI s2 5)) (y := 0) hr3 (by decide)).mp c4) h
      refine lv_aload_n hx hb eX12_qTest_114.2.1 rfl (lv_at hl 0 rfl) ?_
      refine va_get (D := D) (ci := 12) (v := .int (i2 (gI s2 104))) (C := RX12) (T := TX12) (N := 116) hx hb ht inX12 hown hK hP 0 RW_0 rfl 104 (by decide) (ht (.fieldLink RX12 356 "CloneVolumesModel" "qWaits" "I") fl_X12_356) (fun _ h9 => h9) mF_104 eX12_qTest_114.2.2.1 ?_
      obtain ⟨hr5, h⟩ := rg_e h
      refine lv_if_le (tgt := 131) hx hb eX12_qTest_114.2.2.2.1 (by decide) (fun c6 => ?_) (fun c6 => ?_)
      · have h := if_t ((i2_le (x := (gI s2 104)) (y := 0) hr5 (by decide)).mp c6) h
        exact J131 s2 _ _ _ ⟨hP, hS, lv_sub hl [] rfl, h⟩
      · have h := if_f (mt (i2_le (x := (gI s2 104)) (y := 0) hr5 (by decide)).mpr c6) h
        refine lv_aload_n hx hb eX12_qTest_114.2.2.2.2.1 rfl (lv_at hl 0 rfl) ?_
        obtain ⟨s8, hc7, h⟩ := bn_e h
        refine ywVv (As := []) (rest := []) (C := RX12) (n := 0) (ws' := RW D a s8) ⟨hx, hb, hml, hown, ht⟩ (k_x12_qDrops l D a _ _ _ hc7) (zgV ml_X12_699 im_X12_qDrops se_X12_qDrops in_X12 co_X12_qDrops) rfl rfl (by decide +kernel) ⟨Nat.le_of_ble_eq_true rfl, Nat.le_of_ble_eq_true rfl⟩ hN hK hP (hDD _) hS hA 0 RW_0 rfl rfl rfl hl.1 rfl (Nat.le_of_ble_eq_true rfl) eX12_qTest_114.2.2.2.2.2.1 ⟨Nat.le_of_ble_eq_true rfl, Nat.le_of_ble_eq_true rfl⟩ (fun H locs hP hS => ?_)
        refine lv_goto (tgt := 110) hx hb eX12_qTest_114.2.2.2.2.2.2.1 (by decide) ?_
        exact ih110 s8 _ _ _ ⟨hP, hS, lv_sub hl [0] rfl, h⟩
  refine y_loop (pcJ := 2) (σ := Int × MS) (fun n u H locs ls => va_P D vwCl (RW D a u.2) H ∧ va_S A s₀.heap H locs ∧ lv_has ls 3 [(0, .ref (a 200)), (1, .int (i2 u.1))] ∧ m_x12_qTest_L2 n u.1 u.2 = some o) (fun u => []) (fun u H locs ls hI => by obtain ⟨_, _, _, h⟩ := hI; cases h) (fun n2 ih2 u H locs ls hI => ?_) (fun J2 => ?_)
  · obtain ⟨hP, hS, hl, h⟩ := hI
    obtain ⟨x9, s10⟩ := u
    have hP : va_P D vwCl (RW D a s10) H := hP
    have hl : lv_has ls 3 [(0, .ref (a 200)), (1, .int (i2 x9))] := hl
    have h : m_x12_qTest_b2 (m_x12_qTest_L2 n2) x9 s10 = some o := h
    unfold m_x12_qTest_b2 at h
    refine y_head (pcJ := 106) (σ := Int × MS) (fun u H locs ls => va_P D vwCl (RW D a u.2) H ∧ va_S A s₀.heap H locs ∧ lv_has ls 3 [(0, .ref (a 200))] ∧ m_x12_qTest_J106 (m_x12_qTest_L2 n2) u.1 u.2 = some o) (fun u => [.int (i2 u.1)]) (fun u H locs ls hI => ?_) (fun J106 => ?_)
    · obtain ⟨hP, hS, hl, h⟩ := hI
      obtain ⟨x11, s12⟩ := u
      have hP : va_P D vwCl (RW D a s12) H := hP
      have hl : lv_has ls 3 [(0, .ref (a 200))] := hl
      have h : m_x12_qTest_J106 (m_x12_qTest_L2 n2) x11 s12 = some o := h
      unfold m_x12_qTest_J106 at h
      refine lv_istore_n (lv' := [(1, .int (i2 x11)), (0, .ref (a 200))]) hx hb eX12_qTest_98.2.2.2.2.1 rfl hl (by decide) rfl (fun ls hl => ?_)
      refine lv_goto (tgt := 2) hx hb eX12_qTest_98.2.2.2.2.2.1 (by decide) ?_
      exact ih2 (x11, s12) _ _ _ ⟨hP, hS, lv_sub hl [1, 0] rfl, h⟩
    refine y_head (pcJ := 105) (σ := MS) (fun u H locs ls => va_P D vwCl (RW D a u) H ∧ va_S A s₀.heap H locs ∧ lv_has ls 3 [(0, .ref (a 200))] ∧ m_x12_qTest_J105 (m_x12_qTest_L2 n2) u = some o) (fun u => []) (fun u H locs ls hI => ?_) (fun J105 => ?_)
    · obtain ⟨hP, hS, hl, h⟩ := hI
      obtain ⟨s13, rfl⟩ : ∃ z, z = u := ⟨u, rfl⟩
      have hP : va_P D vwCl (RW D a s13) H := hP
      have hl : lv_has ls 3 [(0, .ref (a 200))] := hl
      have h : m_x12_qTest_J105 (m_x12_qTest_L2 n2) s13 = some o := h
      unfold m_x12_qTest_J105 at h
      refine lv_iconst (v := 0) hx hb eX12_qTest_98.2.2.2.1 (by decide) ?_
      exact J106 (0, s13) _ _ _ ⟨hP, hS, lv_sub hl [0] rfl, h⟩
    refine lv_iload_n hx hb eX12_qTest_1.2.1 rfl (lv_at hl 1 rfl) ?_
    obtain ⟨hr14, h⟩ := rg_e h
    refine lv_if_eq (tgt := 110) hx hb eX12_qTest_1.2.2.1 (by decide) (fun c15 => ?_) (fun c15 => ?_)
    · have h := if_t ((i2_eq (x := x9) (y := 0) hr14 (by decide)).mp c15) h
      exact J110 FU s10 _ _ _ ⟨hP, hS, lv_sub hl [0] rfl, h⟩
    · have h := if_f (mt (i2_eq (x := x9) (y := 0) hr14 (by decide)).mpr c15) h
      refine lv_aload_n hx hb eX12_qTest_1.2.2.2.1 rfl (lv_at hl 0 rfl) ?_
      refine va_get (D := D) (ci := 12) (v := .int (i2 (gI s10 5))) (C := RX12) (T := TX12) (N := 116) hx hb ht inX12 hown hK hP 0 RW_0 rfl 5 (by decide) (ht (.fieldLink RX12 266 "CloneVolumesModel" "bad" "I") fl_X12_266) (fun _ h9 => h9) mF_5 eX12_qTest_1.2.2.2.2.1 ?_
      obtain ⟨hr16, h⟩ := rg_e h
      refine lv_if_ne (tgt := 110) hx hb eX12_qTest_1.2.2.2.2.2.1 (by decide) (fun c17 => ?_) (fun c17 => ?_)
      · have h := if_f (mt (i2_eq (x := (gI s10 5)) (y := 0) hr16 (by decide)).mpr c17) h
        exact J110 FU s10 _ _ _ ⟨hP, hS, lv_sub hl [0] rfl, h⟩
      · have h := if_t ((i2_eq (x := (gI s10 5)) (y := 0) hr16 (by decide)).mp c17) h
        refine lv_aload_n hx hb eX12_qTest_1.2.2.2.2.2.2.1 rfl (lv_at hl 0 rfl) ?_
        obtain ⟨⟨r20, s19⟩, hc18, h⟩ := bn_e h
        refine ywV (r0 := i2 r20) (As := []) (rest := []) (C := RX12) (n := 0) (ws' := RW D a s19) ⟨hx, hb, hml, hown, ht⟩ (k_x12_look l D a _ _ _ hc18) (zgV ml_X12_278 im_X12_look se_X12_look in_X12 co_X12_look) rfl rfl (by decide +kernel) ⟨Nat.le_of_ble_eq_true rfl, Nat.le_of_ble_eq_true rfl⟩ hN hK hP (hDD _) hS hA 0 RW_0 rfl rfl rfl hl.1 rfl (Nat.le_of_ble_eq_true rfl) eX12_qTest_1.2.2.2.2.2.2.2 ⟨Nat.le_of_ble_eq_true rfl, Nat.le_of_ble_eq_true rfl⟩ (fun H locs hP hS => ?_)
        refine lv_istore_n (lv' := [(2, .int (i2 r20)), (0, .ref (a 200)), (1, .int (i2 x9))]) hx hb eX12_qTest_17.1 rfl hl (by decide) rfl (fun ls hl => ?_)
        refine lv_iload_n hx hb eX12_qTest_17.2.1 rfl (lv_at hl 0 rfl) ?_
        refine lv_bipush (v := 91) hx hb eX12_qTest_17.2.2.1 (by decide) ?_
        obtain ⟨hr21, h⟩ := rg_e h
        refine lv_icmp_ne (tgt := 47) hx hb eX12_qTest_17.2.2.2.1 (by decide) (fun c22 => ?_) (fun c22 => ?_)
        · have h := if_f (mt (i2_eq (x := r20) (y := 91) hr21 (by decide)).mpr c22) h
          refine lv_aload_n hx hb eX12_qTest_47.1 rfl (lv_at hl 1 rfl) ?_
          refine lv_aload_n hx hb eX12_qTest_47.2.1 rfl (lv_at hl 1 rfl) ?_
          refine va_get (D := D) (ci := 12) (v := .ref (a 85)) (C := RX12) (T := TX12) (N := 116) hx hb ht inX12 hown hK hP 0 RW_0 rfl 85 (by decide) (ht (.fieldLink RX12 195 "CloneVolumesModel" "notAsked" "[C") fl_X12_195) (fun _ h9 => h9) mF_85 eX12_qTest_47.2.2.1 ?_
          obtain ⟨⟨r25, s24⟩, hc23, h⟩ := bn_e h
          refine ywV (r0 := i2 r25) (As := [.ref (a 85)]) (rest := []) (C := RX12) (n := 1) (ws' := RW D a s24) ⟨hx, hb, hml, hown, ht⟩ (k_x12_isHere l D a 59 (a 85) 85 3 (fun _ => RW_59) (by decide) _ _ _ hc23) (zgV ml_X12_289 im_X12_isHere se_X12_isHere in_X12 co_X12_isHere) rfl rfl (by decide +kernel) ⟨Nat.le_of_ble_eq_true rfl, Nat.le_of_ble_eq_true rfl⟩ hN hK hP (hDD _) hS hA 0 RW_0 rfl rfl rfl hl.1 rfl (Nat.le_of_ble_eq_true rfl) eX12_qTest_47.2.2.2.1 ⟨Nat.le_of_ble_eq_true rfl, Nat.le_of_ble_eq_true rfl⟩ (fun H locs hP hS => ?_)
          obtain ⟨hr26, h⟩ := rg_e h
          refine lv_if_eq (tgt := 79) hx hb eX12_qTest_47.2.2.2.2.1 (by decide) (fun c27 => ?_) (fun c27 => ?_)
          · have h := if_t ((i2_eq (x := r25) (y := 0) hr26 (by decide)).mp c27) h
            refine lv_aload_n hx hb eX12_qTest_62.2.2.2.2.2.2.2 rfl (lv_at hl 1 rfl) ?_
            obtain ⟨s29, hc28, h⟩ := bn_e h
            refine ywVv (As := []) (rest := []) (C := RX12) (n := 0) (ws' := RW D a s29) ⟨hx, hb, hml, hown, ht⟩ (k_x12_qFact l D a _ _ _ hc28) (zgV ml_X12_735 im_X12_qFact se_X12_qFact in_X12 co_X12_qFact) rfl rfl (by decide +kernel) ⟨Nat.le_of_ble_eq_true rfl, Nat.le_of_ble_eq_true rfl⟩ hN hK hP (hDD _) hS hA 0 RW_0 rfl rfl rfl hl.1 rfl (Nat.le_of_ble_eq_true rfl) eX12_qTest_80.1 ⟨Nat.le_of_ble_eq_true rfl, Nat.le_of_ble_eq_true rfl⟩ (fun H locs hP hS => ?_)
            refine lv_aload_n hx hb eX12_qTest_80.2.1 rfl (lv_at hl 1 rfl) ?_
            obtain ⟨s31, hc30, h⟩ := bn_e h
            refine ywVv (As := []) (rest := []) (C := RX12) (n := 0) (ws' := RW D a s31) ⟨hx, hb, hml, hown, ht⟩ (k_x12_qDropsNots l D a _ _ _ hc30) (zgV ml_X12_738 im_X12_qDropsNots se_X12_qDropsNots in_X12 co_X12_qDropsNots) rfl rfl (by decide +kernel) ⟨Nat.le_of_ble_eq_true rfl, Nat.le_of_ble_eq_true rfl⟩ hN hK hP (hDD _) hS hA 0 RW_0 rfl rfl rfl hl.1 rfl (Nat.le_of_ble_eq_true rfl) eX12_qTest_80.2.2.1 ⟨Nat.le_of_ble_eq_true rfl, Nat.le_of_ble_eq_true rfl⟩ (fun H locs hP hS => ?_)
            refine lv_aload_n hx hb eX12_qTest_80.2.2.2.1 rfl (lv_at hl 1 rfl) ?_
            refine va_get (D := D) (ci := 12) (v := .int (i2 (gI s31 5))) (C := RX12) (T := TX12) (N := 116) hx hb ht inX12 hown hK hP 0 RW_0 rfl 5 (by decide) (ht (.fieldLink RX12 266 "CloneVolumesModel" "bad" "I") fl_X12_266) (fun _ h9 => h9) mF_5 eX12_qTest_80.2.2.2.2.1 ?_
            obtain ⟨hr32, h⟩ := rg_e h
            refine lv_if_ne (tgt := 105) hx hb eX12_qTest_80.2.2.2.2.2.1 (by decide) (fun c33 => ?_) (fun c33 => ?_)
            · have h := if_f (mt (i2_eq (x := (gI s31 5)) (y := 0) hr32 (by decide)).mpr c33) h
              exact J105 s31 _ _ _ ⟨hP, hS, lv_sub hl [1] rfl, h⟩
            · have h := if_t ((i2_eq (x := (gI s31 5)) (y := 0) hr32 (by decide)).mp c33) h
              refine lv_aload_n hx hb eX12_qTest_80.2.2.2.2.2.2.1 rfl (lv_at hl 1 rfl) ?_
              obtain ⟨⟨r36, s35⟩, hc34, h⟩ := bn_e h
              refine ywV (r0 := i2 r36) (As := []) (rest := []) (C := RX12) (n := 0) (ws' := RW D a s35) ⟨hx, hb, hml, hown, ht⟩ (k_x12_qGoesOnTest l D a _ _ _ hc34) (zgV ml_X12_741 im_X12_qGoesOnTest se_X12_qGoesOnTest in_X12 co_X12_qGoesOnTest) rfl rfl (by decide +kernel) ⟨Nat.le_of_ble_eq_true rfl, Nat.le_of_ble_eq_true rfl⟩ hN hK hP (hDD _) hS hA 0 RW_0 rfl rfl rfl hl.1 rfl (Nat.le_of_ble_eq_true rfl) eX12_qTest_80.2.2.2.2.2.2.2 ⟨Nat.le_of_ble_eq_true rfl, Nat.le_of_ble_eq_true rfl⟩ (fun H locs hP hS => ?_)
              obtain ⟨hr37, h⟩ := rg_e h
              refine lv_if_eq (tgt := 105) hx hb eX12_qTest_98.1 (by decide) (fun c38 => ?_) (fun c38 => ?_)
              · have h := if_t ((i2_eq (x := r36) (y := 0) hr37 (by decide)).mp c38) h
                exact J105 s35 _ _ _ ⟨hP, hS, lv_sub hl [1] rfl, h⟩
              · have h := if_f (mt (i2_eq (x := r36) (y := 0) hr37 (by decide)).mpr c38) h
                refine lv_iconst (v := 1) hx hb eX12_qTest_98.2.1 (by decide) ?_
                refine lv_goto (tgt := 106) hx hb eX12_qTest_98.2.2.1 (by decide) ?_
                exact J106 (1, s35) _ _ _ ⟨hP, hS, lv_sub hl [1] rfl, h⟩
          · have h := if_f (mt (i2_eq (x := r25) (y := 0) hr26 (by decide)).mpr c27) h
            refine lv_aload_n hx hb eX12_qTest_47.2.2.2.2.2.1 rfl (lv_at hl 1 rfl) ?_
            refine lv_bipush (v := 12) hx hb eX12_qTest_47.2.2.2.2.2.2.1 (by decide) ?_
            refine lv_aload_n hx hb eX12_qTest_47.2.2.2.2.2.2.2 rfl (lv_at hl 1 rfl) ?_
            refine va_get (D := D) (ci := 12) (v := .int (i2 (gI s24 2))) (C := RX12) (T := TX12) (N := 116) hx hb ht inX12 hown hK hP 0 RW_0 rfl 2 (by decide) (ht (.fieldLink RX12 272 "CloneVolumesModel" "at" "I") fl_X12_272) (fun _ h9 => h9) mF_2 eX12_qTest_62.1 ?_
            obtain ⟨s40, hc39, h⟩ := bn_e h
            refine ywVv (As := [.int 12, .int (i2 (gI s24 2))]) (rest := []) (C := RX12) (n := 2) (ws' := RW D a s40) ⟨hx, hb, hml, hown, ht⟩ (k_x12_qOpens l D a 12 (gI s24 2) _ _ _ hc39) (zgV ml_X12_711 im_X12_qOpens se_X12_qOpens in_X12 co_X12_qOpens) rfl rfl (by decide +kernel) ⟨Nat.le_of_ble_eq_true rfl, Nat.le_of_ble_eq_true rfl⟩ hN hK hP (hDD _) hS hA 0 RW_0 rfl rfl rfl hl.1 rfl (Nat.le_of_ble_eq_true rfl) eX12_qTest_62.2.1 ⟨Nat.le_of_ble_eq_true rfl, Nat.le_of_ble_eq_true rfl⟩ (fun H locs hP hS => ?_)
            refine lv_aload_n hx hb eX12_qTest_62.2.2.1 rfl (lv_at hl 1 rfl) ?_
            refine lv_aload_n hx hb eX12_qTest_62.2.2.2.1 rfl (lv_at hl 1 rfl) ?_
            refine va_get (D := D) (ci := 12) (v := .ref (a 85)) (C := RX12) (T := TX12) (N := 116) hx hb ht inX12 hown hK hP 0 RW_0 rfl 85 (by decide) (ht (.fieldLink RX12 195 "CloneVolumesModel" "notAsked" "[C") fl_X12_195) (fun _ h9 => h9) mF_85 eX12_qTest_62.2.2.2.2.1 ?_
            obtain ⟨s42, hc41, h⟩ := bn_e h
            refine ywVv (As := [.ref (a 85)]) (rest := []) (C := RX12) (n := 1) (ws' := RW D a s42) ⟨hx, hb, hml, hown, ht⟩ (k_x12_asks l D a 59 (a 85) 85 3 (fun _ => RW_59) (by decide) _ _ _ hc41) (zgV ml_X12_327 im_X12_asks se_X12_asks in_X12 co_X12_asks) rfl rfl (by decide +kernel) ⟨Nat.le_of_ble_eq_true rfl, Nat.le_of_ble_eq_true rfl⟩ hN hK hP (hDD _) hS hA 0 RW_0 rfl rfl rfl hl.1 rfl (Nat.le_of_ble_eq_true rfl) eX12_qTest_62.2.2.2.2.2.1 ⟨Nat.le_of_ble_eq_true rfl, Nat.le_of_ble_eq_true rfl⟩ (fun H locs hP hS => ?_)
            refine lv_goto (tgt := 2) hx hb eX12_qTest_62.2.2.2.2.2.2.1 (by decide) ?_
            exact ih2 (x9, s42) _ _ _ ⟨hP, hS, lv_sub hl [1, 2] rfl, h⟩
        · have h := if_t ((i2_eq (x := r20) (y := 91) hr21 (by decide)).mp c22) h
          refine lv_aload_n hx hb eX12_qTest_17.2.2.2.2.1 rfl (lv_at hl 1 rfl) ?_
          refine lv_bipush (v := 25) hx hb eX12_qTest_17.2.2.2.2.2.1 (by decide) ?_
          refine lv_aload_n hx hb eX12_qTest_17.2.2.2.2.2.2.1 rfl (lv_at hl 1 rfl) ?_
          refine va_get (D := D) (ci := 12) (v := .int (i2 (gI s19 2))) (C := RX12) (T := TX12) (N := 116) hx hb ht inX12 hown hK hP 0 RW_0 rfl 2 (by decide) (ht (.fieldLink RX12 272 "CloneVolumesModel" "at" "I") fl_X12_272) (fun _ h9 => h9) mF_2 eX12_qTest_17.2.2.2.2.2.2.2 ?_
          obtain ⟨s44, hc43, h⟩ := bn_e h
          refine ywVv (As := [.int 25, .int (i2 (gI s19 2))]) (rest := []) (C := RX12) (n := 2) (ws' := RW D a s44) ⟨hx, hb, hml, hown, ht⟩ (k_x12_qOpens l D a 25 (gI s19 2) _ _ _ hc43) (zgV ml_X12_711 im_X12_qOpens se_X12_qOpens in_X12 co_X12_qOpens) rfl rfl (by decide +kernel) ⟨Nat.le_of_ble_eq_true rfl, Nat.le_of_ble_eq_true rfl⟩ hN hK hP (hDD _) hS hA 0 RW_0 rfl rfl rfl hl.1 rfl (Nat.le_of_ble_eq_true rfl) eX12_qTest_31.1 ⟨Nat.le_of_ble_eq_true rfl, Nat.le_of_ble_eq_true rfl⟩ (fun H locs hP hS => ?_)
          refine lv_aload_n hx hb eX12_qTest_31.2.1 rfl (lv_at hl 1 rfl) ?_
          refine lv_dup hx hb eX12_qTest_31.2.2.1 rfl ?_
          refine va_get (D := D) (ci := 12) (v := .int (i2 (gI s44 2))) (C := RX12) (T := TX12) (N := 116) hx hb ht inX12 hown hK hP 0 RW_0 rfl 2 (by decide) (ht (.fieldLink RX12 272 "CloneVolumesModel" "at" "I") fl_X12_272) (fun _ h9 => h9) mF_2 eX12_qTest_31.2.2.2.1 ?_
          refine lv_iconst (v := 1) hx hb eX12_qTest_31.2.2.2.2.1 (by decide) ?_
          refine lv_iadd hx hb eX12_qTest_31.2.2.2.2.2.1 ?_
          refine z_topi (y := i2 ((gI s44 2) + 1)) (i2_add (gI s44 2) 1) ?_
          refine ya_put (D := D) (ci := 12) (v := .int (i2 ((gI s44 2) + 1))) (ty := .int) (C := RX12) (T := TX12) (N := 116) hx hb ht inX12 tyX12 tyX12_ok nmX12 hown hK hP (hDD _) hS 0 RW_0 rfl 2 (by decide) (ht (.fieldLink RX12 272 "CloneVolumesModel" "at" "I") fl_X12_272) (fun _ h9 => h9) rfl (by decide +kernel) rfl rfl (by rw [mF_len]; decide) eX12_qTest_31.2.2.2.2.2.2.1 (RW_f2 ((gI s44 2) + 1)) (fun H locs hP hS => ?_)
          obtain ⟨s45, hs45, h⟩ := st_e h
          rw [hs45] at hP
          refine lv_goto (tgt := 2) hx hb eX12_qTest_31.2.2.2.2.2.2.2 (by decide) ?_
          exact ih2 (x9, s45) _ _ _ ⟨hP, hS, lv_sub hl [1, 2] rfl, h⟩
  refine lv_iconst (v := 1) hx hb eX12_qSums_71.2.2.2.2.2.2.2 (by decide) ?_
  refine lv_istore_n (lv' := [(1, .int 1), (0, .ref (a 200))]) hx hb eX12_qTest_1.1 rfl hl (by decide) rfl (fun ls hl => ?_)
  exact J2 FU (1, s) _ _ _ ⟨hP, hS, lv_sub hl [1, 0] rfl, h⟩
set_option maxHeartbeats 4000000 in
set_option maxRecDepth 100000 in
theorem k_x12_codesTold (l : Launch) (D : va_G) (a : Nat → Nat) (p0 : Int) (p1 : Int) (sz : Nat) (s : MS) (o : MS) (h : m_x12_codesTold p0 p1 s = some o) : yWv l yX12_codesTold cX12_codesTold 4 none { frames := 9, cells := 0, slots := 0, locals := 540 } D sz [.ref (a 200), .int (i2 p0), .int (i2 p1)] (RW D a s) (RW D a o) := by
  refine Met.ofW (cc := cX12_codesTold) (maxL := 4) (ret := none) (by decide) rfl ?_
  intro p e s₀ m args below meth c s₁ B hml hv
  obtain ⟨rfl, ⟨hsz, hP, hK, hD0⟩, hN⟩ := hv
  have hx := B.exec
  have hb := B.bytes
  have hr := B.returns
  have hts := atoms_spec (ws := wz yX12_codesTold cX12_codesTold 4 none) B.pre
  have ht : ∀ w ∈ lw_gd, w.before _ s₀ = true := fun w h => hts w (List.mem_cons_of_mem _ h)
  have hown : s₀.vm.findClass RX12 = some m.cls := findClass_of_methodNamed B.named
  have hlocks := B.notSynchronized
  subst hsz
  have hD := hD0.self (sz := s₀.heap.size)
  generalize hAe : va_A (RW D a s) s₀.heap.size = A at hD ⊢
  have hA : ∀ q : Nat, s₀.heap.size ≤ q → A q := fun q h => by rw [← hAe]; exact Or.inr h
  have hS : va_S A s₀.heap s₀.heap [] := va_S.rf
  have hDD : ∀ t : MS, va_D A (RW D a t) := fun t => RW_D t hD
  have hl := lv_entry ([.ref (a 200), .int (i2 p0), .int (i2 p1)]) (n := 4) (Nat.le_of_ble_eq_true rfl)
  rw [lg_entry_eq]
  generalize (lg_sl ([.ref (a 200), .int (i2 p0), .int (i2 p1)]) ++ List.replicate (4 - (lg_sl ([.ref (a 200), .int (i2 p0), .int (i2 p1)])).length) Slot.unset).toArray = ls at hl ⊢
  have hl : lv_has ls 4 [(0, .ref (a 200)), (1, .int (i2 p0)), (2, .int (i2 p1))] := hl
  unfold m_x12_codesTold at h
  refine y_loop (pcJ := 92) (σ := Int × Int × MS) (fun n u H locs ls => va_P D vwCl (RW D a u.2.2) H ∧ va_S A s₀.heap H locs ∧ lv_has ls 4 [(0, .ref (a 200)), (1, .int (i2 u.1)), (3, .int (i2 u.2.1))] ∧ m_x12_codesTold_L92 n u.1 u.2.1 u.2.2 = some o) (fun u => []) (fun u H locs ls hI => by obtain ⟨_, _, _, h⟩ := hI; cases h) (fun n92 ih92 u H locs ls hI => ?_) (fun J92 => ?_)
  · obtain ⟨hP, hS, hl, h⟩ := hI
    obtain ⟨x1, x2, s3⟩ := u
    have hP : va_P D vwCl (RW D a s3) H := hP
    have hl : lv_has ls 4 [(0, .ref (a 200)), (1, .int (i2 x1)), (3, .int (i2 x2))] := hl
    have h : m_x12_codesTold_b92 (m_x12_codesTold_L92 n92) x1 x2 s3 = some o := h
    unfold m_x12_codesTold_b92 at h
    refine lv_iload_n hx hb eX12_codesTold_86.2.2.2.2.1 rfl (lv_at hl 2 rfl) ?_
    refine lv_aload_n hx hb eX12_codesTold_86.2.2.2.2.2.1 rfl (lv_at hl 0 rfl) ?_
    refine va_get (D := D) (ci := 12) (v := .int (i2 (gI s3 102))) (C := RX12) (T := TX12) (N := 116) hx hb ht inX12 hown hK hP 0 RW_0 rfl 102 (by decide) (ht (.fieldLink RX12 353 "CloneVolumesModel" "qCoded" "I") fl_X12_353) (fun _ h9 => h9) mF_102 eX12_codesTold_86.2.2.2.2.2.2.1 ?_
    obtain ⟨hr4, h⟩ := rg_e h
    obtain ⟨hr5, h⟩ := rg_e h
    refine lv_icmp_ge (tgt := 131) hx hb eX12_codesTold_86.2.2.2.2.2.2.2 (by decide) (fun c6 => ?_) (fun c6 => ?_)
    · have h := if_t ((i2_le (x := (gI s3 102)) (y := x2) hr5 hr4).mp c6) h
      refine lv_aload_n hx hb eX12_codesTold_128.2.1 rfl (lv_at hl 0 rfl) ?_
      refine va_get (D := D) (ci := 12) (v := .ref (a 43)) (C := RX12) (T := TX12) (N := 116) hx hb ht inX12 hown hK hP 0 RW_0 rfl 43 (by decide) (ht (.fieldLink RX12 115 "CloneVolumesModel" "codeEnd" "[I") fl_X12_115) (fun _ h9 => h9) mF_43 eX12_codesTold_128.2.2.1 ?_
      refine lv_iload_n hx hb eX12_codesTold_128.2.2.2.1 rfl (lv_at hl 1 rfl) ?_
      refine lv_aload_n hx hb eX12_codesTold_128.2.2.2.2.1 rfl (lv_at hl 0 rfl) ?_
      refine va_get (D := D) (ci := 12) (v := .int (i2 (gI s3 45))) (C := RX12) (T := TX12) (N := 116) hx hb ht inX12 hown hK hP 0 RW_0 rfl 45 (by decide) (ht (.fieldLink RX12 371 "CloneVolumesModel" "coded" "I") fl_X12_371) (fun _ h9 => h9) mF_45 eX12_codesTold_128.2.2.2.2.2.1 ?_
      obtain ⟨hi7, h⟩ := inb_e h
      refine ya_iast (i := x1) (x := (gI s3 45)) hx hb hK hP (hDD _) hS 34 0 RW_34 rfl (by decide) hi7 eX12_codesTold_128.2.2.2.2.2.2.1 (RW_w34 _) (fun H locs hP hS => ?_)
      obtain ⟨s8, hs8, h⟩ := st_e h
      rw [hs8] at hP
      obtain rfl := Option.some.inj h
      exact W.vret hx hb hr (fun t ht hW => ⟨⟨(), rfl, trivial, by rw [ht]; exact hP, va_K.moved hW.alike hK, hDD _⟩, hS.F ht⟩) hS.2.2 eX12_codesTold_128.2.2.2.2.2.2.2
    · have h := if_f (mt (i2_le (x := (gI s3 102)) (y := x2) hr5 hr4).mpr c6) h
      refine lv_aload_n hx hb eX12_codesTold_100.1 rfl (lv_at hl 0 rfl) ?_
      refine va_get (D := D) (ci := 12) (v := .ref (a 44)) (C := RX12) (T := TX12) (N := 116) hx hb ht inX12 hown hK hP 0 RW_0 rfl 44 (by decide) (ht (.fieldLink RX12 118 "CloneVolumesModel" "codes" "[I") fl_X12_118) (fun _ h9 => h9) mF_44 eX12_codesTold_100.2.1 ?_
      refine lv_aload_n hx hb eX12_codesTold_100.2.2.1 rfl (lv_at hl 0 rfl) ?_
      refine va_get (D := D) (ci := 12) (v := .int (i2 (gI s3 45))) (C := RX12) (T := TX12) (N := 116) hx hb ht inX12 hown hK hP 0 RW_0 rfl 45 (by decide) (ht (.fieldLink RX12 371 "CloneVolumesModel" "coded" "I") fl_X12_371) (fun _ h9 => h9) mF_45 eX12_codesTold_100.2.2.2.1 ?_
      refine lv_aload_n hx hb eX12_codesTold_100.2.2.2.2.1 rfl (lv_at hl 0 rfl) ?_
      refine va_get (D := D) (ci := 12) (v := .ref (a 101)) (C := RX12) (T := TX12) (N := 116) hx hb ht inX12 hown hK hP 0 RW_0 rfl 101 (by decide) (ht (.fieldLink RX12 243 "CloneVolumesModel" "qCodes" "[I") fl_X12_243) (fun _ h9 => h9) mF_101 eX12_codesTold_100.2.2.2.2.2.1 ?_
      refine lv_iload_n hx hb eX12_codesTold_100.2.2.2.2.2.2.1 rfl (lv_at hl 2 rfl) ?_
      obtain ⟨y9, ey9, iy9, h⟩ := rdI_e h
      refine ya_iald (i := x2) hx hb hK hP 75 0 RW_75 rfl (by decide) ey9 iy9 eX12_codesTold_100.2.2.2.2.2.2.2 ?_
      obtain ⟨hi10, h⟩ := inb_e h
      refine ya_iast (i := (gI s3 45)) (x := y9) hx hb hK hP (hDD _) hS 35 0 RW_35 rfl (by decide) hi10 eX12_codesTold_114.1 (RW_w35 _) (fun H locs hP hS => ?_)
      obtain ⟨s11, hs11, h⟩ := st_e h
      rw [hs11] at hP
      refine lv_aload_n hx hb eX12_codesTold_114.2.1 rfl (lv_at hl 0 rfl) ?_
      refine lv_dup hx hb eX12_codesTold_114.2.2.1 rfl ?_
      refine va_get (D := D) (ci := 12) (v := .int (i2 (gI s11 45))) (C := RX12) (T := TX12) (N := 116) hx hb ht inX12 hown hK hP 0 RW_0 rfl 45 (by decide) (ht (.fieldLink RX12 371 "CloneVolumesModel" "coded" "I") fl_X12_371) (fun _ h9 => h9) mF_45 eX12_codesTold_114.2.2.2.1 ?_
      refine lv_iconst (v := 1) hx hb eX12_codesTold_114.2.2.2.2.1 (by decide) ?_
      refine lv_iadd hx hb eX12_codesTold_114.2.2.2.2.2.1 ?_
      refine z_topi (y := i2 ((gI s11 45) + 1)) (i2_add (gI s11 45) 1) ?_
      refine ya_put (D := D) (ci := 12) (v := .int (i2 ((gI s11 45) + 1))) (ty := .int) (C := RX12) (T := TX12) (N := 116) hx hb ht inX12 tyX12 tyX12_ok nmX12 hown hK hP (hDD _) hS 0 RW_0 rfl 45 (by decide) (ht (.fieldLink RX12 371 "CloneVolumesModel" "coded" "I") fl_X12_371) (fun _ h9 => h9) rfl (by decide +kernel) rfl rfl (by rw [mF_len]; decide) eX12_codesTold_114.2.2.2.2.2.2.1 (RW_f45 ((gI s11 45) + 1)) (fun H locs hP hS => ?_)
      obtain ⟨s12, hs12, h⟩ := st_e h
      rw [hs12] at hP
      refine lv_iinc (v := i2 (x2 + 1)) (lv' := [(3, .int (i2 (x2 + 1))), (0, .ref (a 200)), (1, .int (i2 x1))]) hx hb eX12_codesTold_114.2.2.2.2.2.2.2 hl (k := 2) rfl (i2_add x2 1) (by decide) rfl (fun ls hl => ?_)
      refine lv_goto (tgt := 92) hx hb eX12_codesTold_128.1 (by decide) ?_
      exact ih92 (x1, x2 + 1, s12) _ _ _ ⟨hP, hS, lv_sub hl [1, 2, 0] rfl, h⟩
  refine y_head (pcJ := 72) (σ := Int × MS) (fun u H locs ls => va_P D vwCl (RW D a u.2) H ∧ va_S A s₀.heap H locs ∧ lv_has ls 4 [(0, .ref (a 200)), (1, .int (i2 u.1))] ∧ m_x12_codesTold_J72 u.1 u.2 = some o) (fun u => []) (fun u H locs ls hI => ?_) (fun J72 => ?_)
  · obtain ⟨hP, hS, hl, h⟩ := hI
    obtain ⟨x13, s14⟩ := u
    have hP : va_P D vwCl (RW D a s14) H := hP
    have hl : lv_has ls 4 [(0, .ref (a 200)), (1, .int (i2 x13))] := hl
    have h : m_x12_codesTold_J72 x13 s14 = some o := h
    unfold m_x12_codesTold_J72 at h
    refine lv_aload_n hx hb eX12_codesTold_72.1 rfl (lv_at hl 0 rfl) ?_
    refine va_get (D := D) (ci := 12) (v := .int (i2 (gI s14 5))) (C := RX12) (T := TX12) (N := 116) hx hb ht inX12 hown hK hP 0 RW_0 rfl 5 (by decide) (ht (.fieldLink RX12 266 "CloneVolumesModel" "bad" "I") fl_X12_266) (fun _ h9 => h9) mF_5 eX12_codesTold_72.2.1 ?_
    obtain ⟨hr15, h⟩ := rg_e h
    refine lv_if_eq (tgt := 80) hx hb eX12_codesTold_72.2.2.1 (by decide) (fun c16 => ?_) (fun c16 => ?_)
    · have h := if_t ((i2_eq (x := (gI s14 5)) (y := 0) hr15 (by decide)).mp c16) h
      refine lv_aload_n hx hb eX12_codesTold_72.2.2.2.2.1 rfl (lv_at hl 0 rfl) ?_
      refine va_get (D := D) (ci := 12) (v := .ref (a 42)) (C := RX12) (T := TX12) (N := 116) hx hb ht inX12 hown hK hP 0 RW_0 rfl 42 (by decide) (ht (.fieldLink RX12 112 "CloneVolumesModel" "codeFrom" "[I") fl_X12_112) (fun _ h9 => h9) mF_42 eX12_codesTold_72.2.2.2.2.2.1 ?_
      refine lv_iload_n hx hb eX12_codesTold_72.2.2.2.2.2.2.1 rfl (lv_at hl 1 rfl) ?_
      refine lv_aload_n hx hb eX12_codesTold_72.2.2.2.2.2.2.2 rfl (lv_at hl 0 rfl) ?_
      refine va_get (D := D) (ci := 12) (v := .int (i2 (gI s14 45))) (C := RX12) (T := TX12) (N := 116) hx hb ht inX12 hown hK hP 0 RW_0 rfl 45 (by decide) (ht (.fieldLink RX12 371 "CloneVolumesModel" "coded" "I") fl_X12_371) (fun _ h9 => h9) mF_45 eX12_codesTold_86.1 ?_
      obtain ⟨hi17, h⟩ := inb_e h
      refine ya_iast (i := x13) (x := (gI s14 45)) hx hb hK hP (hDD _) hS 33 0 RW_33 rfl (by decide) hi17 eX12_codesTold_86.2.1 (RW_w33 _) (fun H locs hP hS => ?_)
      obtain ⟨s18, hs18, h⟩ := st_e h
      rw [hs18] at hP
      refine lv_iconst (v := 0) hx hb eX12_codesTold_86.2.2.1 (by decide) ?_
      refine lv_istore_n (lv' := [(3, .int 0), (0, .ref (a 200)), (1, .int (i2 x13))]) hx hb eX12_codesTold_86.2.2.2.1 rfl hl (by decide) rfl (fun ls hl => ?_)
      exact J92 FU (x13, 0, s18) _ _ _ ⟨hP, hS, lv_sub hl [1, 2, 0] rfl, h⟩
    · have h := if_f (mt (i2_eq (x := (gI s14 5)) (y := 0) hr15 (by decide)).mpr c16) h
      obtain rfl := Option.some.inj h
      exact W.vret hx hb hr (fun t ht hW => ⟨⟨(), rfl, trivial, by rw [ht]; exact hP, va_K.moved hW.alike hK, hDD _⟩, hS.F ht⟩) hS.2.2 eX12_codesTold_72.2.2.2.1
  refine y_head (pcJ := 23) (σ := Int × MS) (fun u H locs ls => va_P D vwCl (RW D a u.2) H ∧ va_S A s₀.heap H locs ∧ lv_has ls 4 [(0, .ref (a 200)), (1, .int (i2 u.1))] ∧ m_x12_codesTold_J23 u.1 u.2 = some o) (fun u => []) (fun u H locs ls hI => ?_) (fun J23 => ?_)
  · obtain ⟨hP, hS, hl, h⟩ := hI
    obtain ⟨x19, s20⟩ := u
    have hP : va_P D vwCl (RW D a s20) H := hP
    have hl : lv_has ls 4 [(0, .ref (a 200)), (1, .int (i2 x19))] := hl
    have h : m_x12_codesTold_J23 x19 s20 = some o := h
    unfold m_x12_codesTold_J23 at h
    refine lv_aload_n hx hb eX12_codesTold_14.2.2.2.2.2.1 rfl (lv_at hl 0 rfl) ?_
    refine va_get (D := D) (ci := 12) (v := .int (i2 (gI s20 5))) (C := RX12) (T := TX12) (N := 116) hx hb ht inX12 hown hK hP 0 RW_0 rfl 5 (by decide) (ht (.fieldLink RX12 266 "CloneVolumesModel" "bad" "I") fl_X12_266) (fun _ h9 => h9) mF_5 eX12_codesTold_14.2.2.2.2.2.2.1 ?_
    obtain ⟨hr21, h⟩ := rg_e h
    refine lv_if_eq (tgt := 31) hx hb eX12_codesTold_14.2.2.2.2.2.2.2 (by decide) (fun c22 => ?_) (fun c22 => ?_)
    · have h := if_t ((i2_eq (x := (gI s20 5)) (y := 0) hr21 (by decide)).mp c22) h
      refine lv_aload_n hx hb eX12_codesTold_30.2.1 rfl (lv_at hl 0 rfl) ?_
      refine lv_iload_n hx hb eX12_codesTold_30.2.2.1 rfl (lv_at hl 1 rfl) ?_
      refine ya_put (D := D) (ci := 12) (v := .int (i2 x19)) (ty := .int) (C := RX12) (T := TX12) (N := 116) hx hb ht inX12 tyX12 tyX12_ok nmX12 hown hK hP (hDD _) hS 0 RW_0 rfl 48 (by decide) (ht (.fieldLink RX12 324 "CloneVolumesModel" "textKind" "I") fl_X12_324) (fun _ h9 => h9) rfl (by decide +kernel) rfl rfl (by rw [mF_len]; decide) eX12_codesTold_30.2.2.2.1 (RW_f48 x19) (fun H locs hP hS => ?_)
      obtain ⟨s23, hs23, h⟩ := st_e h
      rw [hs23] at hP
      refine lv_aload_n hx hb eX12_codesTold_30.2.2.2.2.1 rfl (lv_at hl 0 rfl) ?_
      refine lv_iconst (v := 0) hx hb eX12_codesTold_30.2.2.2.2.2.1 (by decide) ?_
      refine ya_put (D := D) (ci := 12) (v := .int 0) (ty := .int) (C := RX12) (T := TX12) (N := 116) hx hb ht inX12 tyX12 tyX12_ok nmX12 hown hK hP (hDD _) hS 0 RW_0 rfl 102 (by decide) (ht (.fieldLink RX12 353 "CloneVolumesModel" "qCoded" "I") fl_X12_353) (fun _ h9 => h9) rfl (by decide +kernel) rfl rfl (by rw [mF_len]; decide) eX12_codesTold_30.2.2.2.2.2.2.1 (RW_f102 0) (fun H locs hP hS => ?_)
      obtain ⟨s24, hs24, h⟩ := st_e h
      rw [hs24] at hP
      refine lv_aload_n hx hb eX12_codesTold_30.2.2.2.2.2.2.2 rfl (lv_at hl 0 rfl) ?_
      refine lv_iconst (v := 0) hx hb eX12_codesTold_42.1 (by decide) ?_
      refine ya_put (D := D) (ci := 12) (v := .int 0) (ty := .int) (C := RX12) (T := TX12) (N := 116) hx hb ht inX12 tyX12 tyX12_ok nmX12 hown hK hP (hDD _) hS 0 RW_0 rfl 104 (by decide) (ht (.fieldLink RX12 356 "CloneVolumesModel" "qWaits" "I") fl_X12_356) (fun _ h9 => h9) rfl (by decide +kernel) rfl rfl (by rw [mF_len]; decide) eX12_codesTold_42.2.1 (RW_f104 0) (fun H locs hP hS => ?_)
      obtain ⟨s25, hs25, h⟩ := st_e h
      rw [hs25] at hP
      refine lv_aload_n hx hb eX12_codesTold_42.2.2.1 rfl (lv_at hl 0 rfl) ?_
      refine lv_iconst (v := 0) hx hb eX12_codesTold_42.2.2.2.1 (by decide) ?_
      refine ya_put (D := D) (ci := 12) (v := .int 0) (ty := .int) (C := RX12) (T := TX12) (N := 116) hx hb ht inX12 tyX12 tyX12_ok nmX12 hown hK hP (hDD _) hS 0 RW_0 rfl 105 (by decide) (ht (.fieldLink RX12 359 "CloneVolumesModel" "qOpened" "I") fl_X12_359) (fun _ h9 => h9) rfl (by decide +kernel) rfl rfl (by rw [mF_len]; decide) eX12_codesTold_42.2.2.2.2.1 (RW_f105 0) (fun H locs hP hS => ?_)
      obtain ⟨s26, hs26, h⟩ := st_e h
      rw [hs26] at hP
      refine lv_aload_n hx hb eX12_codesTold_42.2.2.2.2.2.1 rfl (lv_at hl 0 rfl) ?_
      refine lv_iconst (v := 0) hx hb eX12_codesTold_42.2.2.2.2.2.2.1 (by decide) ?_
      refine ya_put (D := D) (ci := 12) (v := .int 0) (ty := .int) (C := RX12) (T := TX12) (N := 116) hx hb ht inX12 tyX12 tyX12_ok nmX12 hown hK hP (hDD _) hS 0 RW_0 rfl 106 (by decide) (ht (.fieldLink RX12 362 "CloneVolumesModel" "qBase" "I") fl_X12_362) (fun _ h9 => h9) rfl (by decide +kernel) rfl rfl (by rw [mF_len]; decide) eX12_codesTold_42.2.2.2.2.2.2.2 (RW_f106 0) (fun H locs hP hS => ?_)
      obtain ⟨s27, hs27, h⟩ := st_e h
      rw [hs27] at hP
      refine lv_iload_n hx hb eX12_codesTold_56.1 rfl (lv_at hl 1 rfl) ?_
      refine lv_iconst (v := 1) hx hb eX12_codesTold_56.2.1 (by decide) ?_
      obtain ⟨hr28, h⟩ := rg_e h
      refine lv_icmp_ne (tgt := 68) hx hb eX12_codesTold_56.2.2.1 (by decide) (fun c29 => ?_) (fun c29 => ?_)
      · have h := if_f (mt (i2_eq (x := x19) (y := 1) hr28 (by decide)).mpr c29) h
        refine lv_aload_n hx hb eX12_codesTold_56.2.2.2.2.2.2.1 rfl (lv_at hl 0 rfl) ?_
        obtain ⟨s31, hc30, h⟩ := bn_e h
        refine ywVv (As := []) (rest := []) (C := RX12) (n := 0) (ws' := RW D a s31) ⟨hx, hb, hml, hown, ht⟩ (k_x12_qSums l D a _ _ _ hc30) (zgV ml_X12_368 im_X12_qSums se_X12_qSums in_X12 co_X12_qSums) rfl rfl (by decide +kernel) ⟨Nat.le_of_ble_eq_true rfl, Nat.le_of_ble_eq_true rfl⟩ hN hK hP (hDD _) hS hA 0 RW_0 rfl rfl rfl hl.1 rfl (Nat.le_of_ble_eq_true rfl) eX12_codesTold_56.2.2.2.2.2.2.2 ⟨Nat.le_of_ble_eq_true rfl, Nat.le_of_ble_eq_true rfl⟩ (fun H locs hP hS => ?_)
        exact J72 (x19, s31) _ _ _ ⟨hP, hS, lv_sub hl [0, 1] rfl, h⟩
      · have h := if_t ((i2_eq (x := x19) (y := 1) hr28 (by decide)).mp c29) h
        refine lv_aload_n hx hb eX12_codesTold_56.2.2.2.1 rfl (lv_at hl 0 rfl) ?_
        obtain ⟨s33, hc32, h⟩ := bn_e h
        refine ywVv (As := []) (rest := []) (C := RX12) (n := 0) (ws' := RW D a s33) ⟨hx, hb, hml, hown, ht⟩ (k_x12_qTest l D a _ _ _ hc32) (zgV ml_X12_365 im_X12_qTest se_X12_qTest in_X12 co_X12_qTest) rfl rfl (by decide +kernel) ⟨Nat.le_of_ble_eq_true rfl, Nat.le_of_ble_eq_true rfl⟩ hN hK hP (hDD _) hS hA 0 RW_0 rfl rfl rfl hl.1 rfl (Nat.le_of_ble_eq_true rfl) eX12_codesTold_56.2.2.2.2.1 ⟨Nat.le_of_ble_eq_true rfl, Nat.le_of_ble_eq_true rfl⟩ (fun H locs hP hS => ?_)
        refine lv_goto (tgt := 72) hx hb eX12_codesTold_56.2.2.2.2.2.1 (by decide) ?_
        exact J72 (x19, s33) _ _ _ ⟨hP, hS, lv_sub hl [0, 1] rfl, h⟩
    · have h := if_f (mt (i2_eq (x := (gI s20 5)) (y := 0) hr21 (by decide)).mpr c22) h
      obtain rfl := Option.some.inj h
      exact W.vret hx hb hr (fun t ht hW => ⟨⟨(), rfl, trivial, by rw [ht]; exact hP, va_K.moved hW.alike hK, hDD _⟩, hS.F ht⟩) hS.2.2 eX12_codesTold_30.1
  refine lv_aload_n hx hb eX12_codesTold_0.1 rfl (lv_at hl 0 rfl) ?_
  refine va_get (D := D) (ci := 12) (v := .int (i2 (gI s 5))) (C := RX12) (T := TX12) (N := 116) hx hb ht inX12 hown hK hP 0 RW_0 rfl 5 (by decide) (ht (.fieldLink RX12 266 "CloneVolumesModel" "bad" "I") fl_X12_266) (fun _ h9 => h9) mF_5 eX12_codesTold_0.2.1 ?_
  obtain ⟨hr34, h⟩ := rg_e h
  refine lv_if_ne (tgt := 23) hx hb eX12_codesTold_0.2.2.1 (by decide) (fun c35 => ?_) (fun c35 => ?_)
  · have h := if_f (mt (i2_eq (x := (gI s 5)) (y := 0) hr34 (by decide)).mpr c35) h
    exact J23 (p0, s) _ _ _ ⟨hP, hS, lv_sub hl [0, 1] rfl, h⟩
  · have h := if_t ((i2_eq (x := (gI s 5)) (y := 0) hr34 (by decide)).mp c35) h
    refine lv_aload_n hx hb eX12_codesTold_0.2.2.2.1 rfl (lv_at hl 0 rfl) ?_
    refine va_get (D := D) (ci := 12) (v := .ref (a 42)) (C := RX12) (T := TX12) (N := 116) hx hb ht inX12 hown hK hP 0 RW_0 rfl 42 (by decide) (ht (.fieldLink RX12 112 "CloneVolumesModel" "codeFrom" "[I") fl_X12_112) (fun _ h9 => h9) mF_42 eX12_codesTold_0.2.2.2.2.1 ?_
    refine lv_iload_n hx hb eX12_codesTold_0.2.2.2.2.2.1 rfl (lv_at hl 1 rfl) ?_
    obtain ⟨y36, ey36, iy36, h⟩ := rdI_e h
    refine ya_iald (i := p0) hx hb hK hP 33 0 RW_33 rfl (by decide) ey36 iy36 eX12_codesTold_0.2.2.2.2.2.2.1 ?_
    refine lv_iconst (v := (-1)) hx hb eX12_codesTold_0.2.2.2.2.2.2.2 (by decide) ?_
    obtain ⟨hr37, h⟩ := rg_e h
    refine lv_icmp_eq (tgt := 23) hx hb eX12_codesTold_14.1 (by decide) (fun c38 => ?_) (fun c38 => ?_)
    · rw [show ((-1) : Int32) = i2 (-1) from by decide] at c38
      have h := if_t ((i2_eq (x := y36) (y := (-1)) hr37 (by decide)).mp c38) h
      exact J23 (p0, s) _ _ _ ⟨hP, hS, lv_sub hl [0, 1] rfl, h⟩
    · rw [show ((-1) : Int32) = i2 (-1) from by decide] at c38
      have h := if_f (mt (i2_eq (x := y36) (y := (-1)) hr37 (by decide)).mpr c38) h
      refine lv_aload_n hx hb eX12_codesTold_14.2.1 rfl (lv_at hl 0 rfl) ?_
      refine lv_iconst (v := 5) hx hb eX12_codesTold_14.2.2.1 (by decide) ?_
      refine lv_iload_n hx hb eX12_codesTold_14.2.2.2.1 rfl (lv_at hl 2 rfl) ?_
      obtain ⟨s40, hc39, h⟩ := bn_e h
      refine ywVv (As := [.int 5, .int (i2 p1)]) (rest := []) (C := RX12) (n := 2) (ws' := RW D a s40) ⟨hx, hb, hml, hown, ht⟩ (k_x12_fail l D a 5 p1 _ _ _ hc39) (zgV ml_X12_296 im_X12_fail se_X12_fail in_X12 co_X12_fail) rfl rfl (by decide +kernel) ⟨Nat.le_of_ble_eq_true rfl, Nat.le_of_ble_eq_true rfl⟩ hN hK hP (hDD _) hS hA 0 RW_0 rfl rfl rfl hl.1 rfl (Nat.le_of_ble_eq_true rfl) eX12_codesTold_14.2.2.2.2.1 ⟨Nat.le_of_ble_eq_true rfl, Nat.le_of_ble_eq_true rfl⟩ (fun H locs hP hS => ?_)
      exact J23 (p0, s40) _ _ _ ⟨hP, hS, lv_sub hl [0, 1] rfl, h⟩
set_option maxHeartbeats 4000000 in
set_option maxRecDepth 100000 in
theorem k_x12_statementTold (l : Launch) (D : va_G) (a : Nat → Nat) (sz : Nat) (s : MS) (o : MS) (h : m_x12_statementTold s = some o) : yWv l yX12_statementTold cX12_statementTold 2 none { frames := 10, cells := 0, slots := 0, locals := 600 } D sz [.ref (a 200)] (RW D a s) (RW D a o) := by
  refine Met.ofW (cc := cX12_statementTold) (maxL := 2) (ret := none) (by decide) rfl ?_
  intro p e s₀ m args below meth c s₁ B hml hv
  obtain ⟨rfl, ⟨hsz, hP, hK, hD0⟩, hN⟩ := hv
  have hx := B.exec
  have hb := B.bytes
  have hr := B.returns
  have hts := atoms_spec (ws := wz yX12_statementTold cX12_statementTold 2 none) B.pre
  have ht : ∀ w ∈ lw_gd, w.before _ s₀ = true := fun w h => hts w (List.mem_cons_of_mem _ h)
  have hown : s₀.vm.findClass RX12 = some m.cls := findClass_of_methodNamed B.named
  have hlocks := B.notSynchronized
  subst hsz
  have hD := hD0.self (sz := s₀.heap.size)
  generalize hAe : va_A (RW D a s) s₀.heap.size = A at hD ⊢
  have hA : ∀ q : Nat, s₀.heap.size ≤ q → A q := fun q h => by rw [← hAe]; exact Or.inr h
  have hS : va_S A s₀.heap s₀.heap [] := va_S.rf
  have hDD : ∀ t : MS, va_D A (RW D a t) := fun t => RW_D t hD
  have hl := lv_entry ([.ref (a 200)]) (n := 2) (Nat.le_of_ble_eq_true rfl)
  rw [lg_entry_eq]
  generalize (lg_sl ([.ref (a 200)]) ++ List.replicate (2 - (lg_sl ([.ref (a 200)])).length) Slot.unset).toArray = ls at hl ⊢
  have hl : lv_has ls 2 [(0, .ref (a 200))] := hl
  unfold m_x12_statementTold at h
  refine y_head (pcJ := 178) (σ := MS) (fun u H locs ls => va_P D vwCl (RW D a u) H ∧ va_S A s₀.heap H locs ∧ lv_has ls 2 [(0, .ref (a 200))] ∧ m_x12_statementTold_J178 u = some o) (fun u => []) (fun u H locs ls hI => ?_) (fun J178 => ?_)
  · obtain ⟨hP, hS, hl, h⟩ := hI
    obtain ⟨s1, rfl⟩ : ∃ z, z = u := ⟨u, rfl⟩
    have hP : va_P D vwCl (RW D a s1) H := hP
    have hl : lv_has ls 2 [(0, .ref (a 200))] := hl
    have h : m_x12_statementTold_J178 s1 = some o := h
    unfold m_x12_statementTold_J178 at h
    refine lv_aload_n hx hb eX12_statementTold_174.2.2.1 rfl (lv_at hl 0 rfl) ?_
    refine lv_bipush (v := 59) hx hb eX12_statementTold_174.2.2.2.1 (by decide) ?_
    obtain ⟨s3, hc2, h⟩ := bn_e h
    refine ywVv (As := [.int 59]) (rest := []) (C := RX12) (n := 1) (ws' := RW D a s3) ⟨hx, hb, hml, hown, ht⟩ (k_x12_asksSign l D a 59 _ _ _ hc2) (zgV ml_X12_335 im_X12_asksSign se_X12_asksSign in_X12 co_X12_asksSign) rfl rfl (by decide +kernel) ⟨Nat.le_of_ble_eq_true rfl, Nat.le_of_ble_eq_true rfl⟩ hN hK hP (hDD _) hS hA 0 RW_0 rfl rfl rfl hl.1 rfl (Nat.le_of_ble_eq_true rfl) eX12_statementTold_174.2.2.2.2.1 ⟨Nat.le_of_ble_eq_true rfl, Nat.le_of_ble_eq_true rfl⟩ (fun H locs hP hS => ?_)
    refine lv_aload_n hx hb eX12_statementTold_174.2.2.2.2.2.1 rfl (lv_at hl 0 rfl) ?_
    refine lv_dup hx hb eX12_statementTold_174.2.2.2.2.2.2.1 rfl ?_
    refine va_get (D := D) (ci := 12) (v := .int (i2 (gI s3 46))) (C := RX12) (T := TX12) (N := 116) hx hb ht inX12 hown hK hP 0 RW_0 rfl 46 (by decide) (ht (.fieldLink RX12 374 "CloneVolumesModel" "statements" "I") fl_X12_374) (fun _ h9 => h9) mF_46 eX12_statementTold_174.2.2.2.2.2.2.2 ?_
    refine lv_iconst (v := 1) hx hb eX12_statementTold_189.1 (by decide) ?_
    refine lv_iadd hx hb eX12_statementTold_189.2.1 ?_
    refine z_topi (y := i2 ((gI s3 46) + 1)) (i2_add (gI s3 46) 1) ?_
    refine ya_put (D := D) (ci := 12) (v := .int (i2 ((gI s3 46) + 1))) (ty := .int) (C := RX12) (T := TX12) (N := 116) hx hb ht inX12 tyX12 tyX12_ok nmX12 hown hK hP (hDD _) hS 0 RW_0 rfl 46 (by decide) (ht (.fieldLink RX12 374 "CloneVolumesModel" "statements" "I") fl_X12_374) (fun _ h9 => h9) rfl (by decide +kernel) rfl rfl (by rw [mF_len]; decide) eX12_statementTold_189.2.2.1 (RW_f46 ((gI s3 46) + 1)) (fun H locs hP hS => ?_)
    obtain ⟨s4, hs4, h⟩ := st_e h
    rw [hs4] at hP
    obtain rfl := Option.some.inj h
    exact W.vret hx hb hr (fun t ht hW => ⟨⟨(), rfl, trivial, by rw [ht]; exact hP, va_K.moved hW.alike hK, hDD _⟩, hS.F ht⟩) hS.2.2 eX12_statementTold_189.2.2.2
  refine lv_aload_n hx hb eX12_statementTold_0.1 rfl (lv_at hl 0 rfl) ?_
  refine va_get (D := D) (ci := 12) (v := .int (i2 (gI s 2))) (C := RX12) (T := TX12) (N := 116) hx hb ht inX12 hown hK hP 0 RW_0 rfl 2 (by decide) (ht (.fieldLink RX12 272 "CloneVolumesModel" "at" "I") fl_X12_272) (fun _ h9 => h9) mF_2 eX12_statementTold_0.2.1 ?_
  refine lv_istore_n (lv' := [(1, .int (i2 (gI s 2))), (0, .ref (a 200))]) hx hb eX12_statementTold_0.2.2.1 rfl hl (by decide) rfl (fun ls hl => ?_)
  refine lv_aload_n hx hb eX12_statementTold_0.2.2.2.1 rfl (lv_at hl 1 rfl) ?_
  refine va_get (D := D) (ci := 12) (v := .int (i2 (gI s 46))) (C := RX12) (T := TX12) (N := 116) hx hb ht inX12 hown hK hP 0 RW_0 rfl 46 (by decide) (ht (.fieldLink RX12 374 "CloneVolumesModel" "statements" "I") fl_X12_374) (fun _ h9 => h9) mF_46 eX12_statementTold_0.2.2.2.2.1 ?_
  refine lv_bipush (v := 60) hx hb eX12_statementTold_0.2.2.2.2.2.1 (by decide) ?_
  obtain ⟨hr5, h⟩ := rg_e h
  refine lv_icmp_ne (tgt := 21) hx hb eX12_statementTold_0.2.2.2.2.2.2.1 (by decide) (fun c6 => ?_) (fun c6 => ?_)
  · have h := if_f (mt (i2_eq (x := (gI s 46)) (y := 60) hr5 (by decide)).mpr c6) h
    refine lv_aload_n hx hb eX12_statementTold_15.2.2.2.2.1 rfl (lv_at hl 1 rfl) ?_
    refine lv_aload_n hx hb eX12_statementTold_15.2.2.2.2.2.1 rfl (lv_at hl 1 rfl) ?_
    refine va_get (D := D) (ci := 12) (v := .ref (a 13)) (C := RX12) (T := TX12) (N := 116) hx hb ht inX12 hown hK hP 0 RW_0 rfl 13 (by decide) (ht (.fieldLink RX12 27 "CloneVolumesModel" "volumeWord" "[C") fl_X12_27) (fun _ h9 => h9) mF_13 eX12_statementTold_15.2.2.2.2.2.2.1 ?_
    obtain ⟨⟨r9, s8⟩, hc7, h⟩ := bn_e h
    refine ywV (r0 := i2 r9) (As := [.ref (a 13)]) (rest := []) (C := RX12) (n := 1) (ws' := RW D a s8) ⟨hx, hb, hml, hown, ht⟩ (k_x12_takes l D a 5 (a 13) 13 6 (fun _ => RW_5) (by decide) _ _ _ hc7) (zgV ml_X12_293 im_X12_takes se_X12_takes in_X12 co_X12_takes) rfl rfl (by decide +kernel) ⟨Nat.le_of_ble_eq_true rfl, Nat.le_of_ble_eq_true rfl⟩ hN hK hP (hDD _) hS hA 0 RW_0 rfl rfl rfl hl.1 rfl (Nat.le_of_ble_eq_true rfl) eX12_statementTold_15.2.2.2.2.2.2.2 ⟨Nat.le_of_ble_eq_true rfl, Nat.le_of_ble_eq_true rfl⟩ (fun H locs hP hS => ?_)
    obtain ⟨hr10, h⟩ := rg_e h
    refine lv_if_eq (tgt := 41) hx hb eX12_statementTold_29.1 (by decide) (fun c11 => ?_) (fun c11 => ?_)
    · have h := if_t ((i2_eq (x := r9) (y := 0) hr10 (by decide)).mp c11) h
      refine lv_aload_n hx hb eX12_statementTold_29.2.2.2.2.2.2.1 rfl (lv_at hl 1 rfl) ?_
      refine lv_aload_n hx hb eX12_statementTold_29.2.2.2.2.2.2.2 rfl (lv_at hl 1 rfl) ?_
      refine va_get (D := D) (ci := 12) (v := .ref (a 14)) (C := RX12) (T := TX12) (N := 116) hx hb ht inX12 hown hK hP 0 RW_0 rfl 14 (by decide) (ht (.fieldLink RX12 30 "CloneVolumesModel" "cloneWord" "[C") fl_X12_30) (fun _ h9 => h9) mF_14 eX12_statementTold_43.1 ?_
      obtain ⟨⟨r14, s13⟩, hc12, h⟩ := bn_e h
      refine ywV (r0 := i2 r14) (As := [.ref (a 14)]) (rest := []) (C := RX12) (n := 1) (ws' := RW D a s13) ⟨hx, hb, hml, hown, ht⟩ (k_x12_takes l D a 6 (a 14) 14 5 (fun _ => RW_6) (by decide) _ _ _ hc12) (zgV ml_X12_293 im_X12_takes se_X12_takes in_X12 co_X12_takes) rfl rfl (by decide +kernel) ⟨Nat.le_of_ble_eq_true rfl, Nat.le_of_ble_eq_true rfl⟩ hN hK hP (hDD _) hS hA 0 RW_0 rfl rfl rfl hl.1 rfl (Nat.le_of_ble_eq_true rfl) eX12_statementTold_43.2.1 ⟨Nat.le_of_ble_eq_true rfl, Nat.le_of_ble_eq_true rfl⟩ (fun H locs hP hS => ?_)
      obtain ⟨hr15, h⟩ := rg_e h
      refine lv_if_eq (tgt := 61) hx hb eX12_statementTold_43.2.2.1 (by decide) (fun c16 => ?_) (fun c16 => ?_)
      · have h := if_t ((i2_eq (x := r14) (y := 0) hr15 (by decide)).mp c16) h
        refine lv_aload_n hx hb eX12_statementTold_61.1 rfl (lv_at hl 1 rfl) ?_
        refine lv_aload_n hx hb eX12_statementTold_61.2.1 rfl (lv_at hl 1 rfl) ?_
        refine va_get (D := D) (ci := 12) (v := .ref (a 16)) (C := RX12) (T := TX12) (N := 116) hx hb ht inX12 hown hK hP 0 RW_0 rfl 16 (by decide) (ht (.fieldLink RX12 36 "CloneVolumesModel" "putWord" "[C") fl_X12_36) (fun _ h9 => h9) mF_16 eX12_statementTold_61.2.2.1 ?_
        obtain ⟨⟨r19, s18⟩, hc17, h⟩ := bn_e h
        refine ywV (r0 := i2 r19) (As := [.ref (a 16)]) (rest := []) (C := RX12) (n := 1) (ws' := RW D a s18) ⟨hx, hb, hml, hown, ht⟩ (k_x12_takes l D a 8 (a 16) 16 3 (fun _ => RW_8) (by decide) _ _ _ hc17) (zgV ml_X12_293 im_X12_takes se_X12_takes in_X12 co_X12_takes) rfl rfl (by decide +kernel) ⟨Nat.le_of_ble_eq_true rfl, Nat.le_of_ble_eq_true rfl⟩ hN hK hP (hDD _) hS hA 0 RW_0 rfl rfl rfl hl.1 rfl (Nat.le_of_ble_eq_true rfl) eX12_statementTold_61.2.2.2.1 ⟨Nat.le_of_ble_eq_true rfl, Nat.le_of_ble_eq_true rfl⟩ (fun H locs hP hS => ?_)
        obtain ⟨hr20, h⟩ := rg_e h
        refine lv_if_eq (tgt := 79) hx hb eX12_statementTold_61.2.2.2.2.1 (by decide) (fun c21 => ?_) (fun c21 => ?_)
        · have h := if_t ((i2_eq (x := r19) (y := 0) hr20 (by decide)).mp c21) h
          refine lv_aload_n hx hb eX12_statementTold_79.1 rfl (lv_at hl 1 rfl) ?_
          refine lv_aload_n hx hb eX12_statementTold_79.2.1 rfl (lv_at hl 1 rfl) ?_
          refine va_get (D := D) (ci := 12) (v := .ref (a 17)) (C := RX12) (T := TX12) (N := 116) hx hb ht inX12 hown hK hP 0 RW_0 rfl 17 (by decide) (ht (.fieldLink RX12 39 "CloneVolumesModel" "removeWord" "[C") fl_X12_39) (fun _ h9 => h9) mF_17 eX12_statementTold_79.2.2.1 ?_
          obtain ⟨⟨r24, s23⟩, hc22, h⟩ := bn_e h
          refine ywV (r0 := i2 r24) (As := [.ref (a 17)]) (rest := []) (C := RX12) (n := 1) (ws' := RW D a s23) ⟨hx, hb, hml, hown, ht⟩ (k_x12_takes l D a 9 (a 17) 17 6 (fun _ => RW_9) (by decide) _ _ _ hc22) (zgV ml_X12_293 im_X12_takes se_X12_takes in_X12 co_X12_takes) rfl rfl (by decide +kernel) ⟨Nat.le_of_ble_eq_true rfl, Nat.le_of_ble_eq_true rfl⟩ hN hK hP (hDD _) hS hA 0 RW_0 rfl rfl rfl hl.1 rfl (Nat.le_of_ble_eq_true rfl) eX12_statementTold_79.2.2.2.1 ⟨Nat.le_of_ble_eq_true rfl, Nat.le_of_ble_eq_true rfl⟩ (fun H locs hP hS => ?_)
          obtain ⟨hr25, h⟩ := rg_e h
          refine lv_if_eq (tgt := 97) hx hb eX12_statementTold_79.2.2.2.2.1 (by decide) (fun c26 => ?_) (fun c26 => ?_)
          · have h := if_t ((i2_eq (x := r24) (y := 0) hr25 (by decide)).mp c26) h
            refine lv_aload_n hx hb eX12_statementTold_97.1 rfl (lv_at hl 1 rfl) ?_
            refine lv_aload_n hx hb eX12_statementTold_97.2.1 rfl (lv_at hl 1 rfl) ?_
            refine va_get (D := D) (ci := 12) (v := .ref (a 18)) (C := RX12) (T := TX12) (N := 116) hx hb ht inX12 hown hK hP 0 RW_0 rfl 18 (by decide) (ht (.fieldLink RX12 42 "CloneVolumesModel" "picksWord" "[C") fl_X12_42) (fun _ h9 => h9) mF_18 eX12_statementTold_97.2.2.1 ?_
            obtain ⟨⟨r29, s28⟩, hc27, h⟩ := bn_e h
            refine ywV (r0 := i2 r29) (As := [.ref (a 18)]) (rest := []) (C := RX12) (n := 1) (ws' := RW D a s28) ⟨hx, hb, hml, hown, ht⟩ (k_x12_takes l D a 10 (a 18) 18 5 (fun _ => RW_10) (by decide) _ _ _ hc27) (zgV ml_X12_293 im_X12_takes se_X12_takes in_X12 co_X12_takes) rfl rfl (by decide +kernel) ⟨Nat.le_of_ble_eq_true rfl, Nat.le_of_ble_eq_true rfl⟩ hN hK hP (hDD _) hS hA 0 RW_0 rfl rfl rfl hl.1 rfl (Nat.le_of_ble_eq_true rfl) eX12_statementTold_97.2.2.2.1 ⟨Nat.le_of_ble_eq_true rfl, Nat.le_of_ble_eq_true rfl⟩ (fun H locs hP hS => ?_)
            obtain ⟨hr30, h⟩ := rg_e h
            refine lv_if_eq (tgt := 117) hx hb eX12_statementTold_97.2.2.2.2.1 (by decide) (fun c31 => ?_) (fun c31 => ?_)
            · have h := if_t ((i2_eq (x := r29) (y := 0) hr30 (by decide)).mp c31) h
              refine lv_aload_n hx hb eX12_statementTold_111.2.2.1 rfl (lv_at hl 1 rfl) ?_
              refine lv_aload_n hx hb eX12_statementTold_111.2.2.2.1 rfl (lv_at hl 1 rfl) ?_
              refine va_get (D := D) (ci := 12) (v := .ref (a 19)) (C := RX12) (T := TX12) (N := 116) hx hb ht inX12 hown hK hP 0 RW_0 rfl 19 (by decide) (ht (.fieldLink RX12 45 "CloneVolumesModel" "splitsWord" "[C") fl_X12_45) (fun _ h9 => h9) mF_19 eX12_statementTold_111.2.2.2.2.1 ?_
              obtain ⟨⟨r34, s33⟩, hc32, h⟩ := bn_e h
              refine ywV (r0 := i2 r34) (As := [.ref (a 19)]) (rest := []) (C := RX12) (n := 1) (ws' := RW D a s33) ⟨hx, hb, hml, hown, ht⟩ (k_x12_takes l D a 11 (a 19) 19 6 (fun _ => RW_11) (by decide) _ _ _ hc32) (zgV ml_X12_293 im_X12_takes se_X12_takes in_X12 co_X12_takes) rfl rfl (by decide +kernel) ⟨Nat.le_of_ble_eq_true rfl, Nat.le_of_ble_eq_true rfl⟩ hN hK hP (hDD _) hS hA 0 RW_0 rfl rfl rfl hl.1 rfl (Nat.le_of_ble_eq_true rfl) eX12_statementTold_111.2.2.2.2.2.1 ⟨Nat.le_of_ble_eq_true rfl, Nat.le_of_ble_eq_true rfl⟩ (fun H locs hP hS => ?_)
              obtain ⟨hr35, h⟩ := rg_e h
              refine lv_if_eq (tgt := 137) hx hb eX12_statementTold_111.2.2.2.2.2.2.1 (by decide) (fun c36 => ?_) (fun c36 => ?_)
              · have h := if_t ((i2_eq (x := r34) (y := 0) hr35 (by decide)).mp c36) h
                refine lv_aload_n hx hb eX12_statementTold_129.2.2.2.2.1 rfl (lv_at hl 1 rfl) ?_
                refine lv_aload_n hx hb eX12_statementTold_129.2.2.2.2.2.1 rfl (lv_at hl 1 rfl) ?_
                refine va_get (D := D) (ci := 12) (v := .ref (a 20)) (C := RX12) (T := TX12) (N := 116) hx hb ht inX12 hown hK hP 0 RW_0 rfl 20 (by decide) (ht (.fieldLink RX12 48 "CloneVolumesModel" "costsWord" "[C") fl_X12_48) (fun _ h9 => h9) mF_20 eX12_statementTold_129.2.2.2.2.2.2.1 ?_
                obtain ⟨⟨r39, s38⟩, hc37, h⟩ := bn_e h
                refine ywV (r0 := i2 r39) (As := [.ref (a 20)]) (rest := []) (C := RX12) (n := 1) (ws' := RW D a s38) ⟨hx, hb, hml, hown, ht⟩ (k_x12_takes l D a 12 (a 20) 20 5 (fun _ => RW_12) (by decide) _ _ _ hc37) (zgV ml_X12_293 im_X12_takes se_X12_takes in_X12 co_X12_takes) rfl rfl (by decide +kernel) ⟨Nat.le_of_ble_eq_true rfl, Nat.le_of_ble_eq_true rfl⟩ hN hK hP (hDD _) hS hA 0 RW_0 rfl rfl rfl hl.1 rfl (Nat.le_of_ble_eq_true rfl) eX12_statementTold_129.2.2.2.2.2.2.2 ⟨Nat.le_of_ble_eq_true rfl, Nat.le_of_ble_eq_true rfl⟩ (fun H locs hP hS => ?_)
                obtain ⟨hr40, h⟩ := rg_e h
                refine lv_if_eq (tgt := 157) hx hb eX12_statementTold_145.1 (by decide) (fun c41 => ?_) (fun c41 => ?_)
                · have h := if_t ((i2_eq (x := r39) (y := 0) hr40 (by decide)).mp c41) h
                  refine lv_aload_n hx hb eX12_statementTold_145.2.2.2.2.2.2.1 rfl (lv_at hl 1 rfl) ?_
                  refine lv_aload_n hx hb eX12_statementTold_145.2.2.2.2.2.2.2 rfl (lv_at hl 1 rfl) ?_
                  refine va_get (D := D) (ci := 12) (v := .ref (a 21)) (C := RX12) (T := TX12) (N := 116) hx hb ht inX12 hown hK hP 0 RW_0 rfl 21 (by decide) (ht (.fieldLink RX12 51 "CloneVolumesModel" "churnWord" "[C") fl_X12_51) (fun _ h9 => h9) mF_21 eX12_statementTold_159.1 ?_
                  obtain ⟨s43, hc42, h⟩ := bn_e h
                  refine ywVv (As := [.ref (a 21)]) (rest := []) (C := RX12) (n := 1) (ws' := RW D a s43) ⟨hx, hb, hml, hown, ht⟩ (k_x12_asks l D a 13 (a 21) 21 5 (fun _ => RW_13) (by decide) _ _ _ hc42) (zgV ml_X12_327 im_X12_asks se_X12_asks in_X12 co_X12_asks) rfl rfl (by decide +kernel) ⟨Nat.le_of_ble_eq_true rfl, Nat.le_of_ble_eq_true rfl⟩ hN hK hP (hDD _) hS hA 0 RW_0 rfl rfl rfl hl.1 rfl (Nat.le_of_ble_eq_true rfl) eX12_statementTold_159.2.1 ⟨Nat.le_of_ble_eq_true rfl, Nat.le_of_ble_eq_true rfl⟩ (fun H locs hP hS => ?_)
                  refine lv_aload_n hx hb eX12_statementTold_159.2.2.1 rfl (lv_at hl 1 rfl) ?_
                  refine va_get (D := D) (ci := 12) (v := .ref (a 39)) (C := RX12) (T := TX12) (N := 116) hx hb ht inX12 hown hK hP 0 RW_0 rfl 39 (by decide) (ht (.fieldLink RX12 102 "CloneVolumesModel" "many" "[I") fl_X12_102) (fun _ h9 => h9) mF_39 eX12_statementTold_159.2.2.2.1 ?_
                  refine lv_iconst (v := 4) hx hb eX12_statementTold_159.2.2.2.2.1 (by decide) ?_
                  refine lv_aload_n hx hb eX12_statementTold_159.2.2.2.2.2.1 rfl (lv_at hl 1 rfl) ?_
                  refine lv_iconst (v := 0) hx hb eX12_statementTold_159.2.2.2.2.2.2.1 (by decide) ?_
                  refine lv_bipush (v := 100) hx hb eX12_statementTold_159.2.2.2.2.2.2.2 (by decide) ?_
                  obtain ⟨⟨r46, s45⟩, hc44, h⟩ := bn_e h
                  refine ywV (r0 := i2 r46) (As := [.int 0, .int 100]) (rest := [.int 4, .ref (a 39)]) (C := RX12) (n := 2) (ws' := RW D a s45) ⟨hx, hb, hml, hown, ht⟩ (k_x12_number l D a 0 100 _ _ _ hc44) (zgV ml_X12_331 im_X12_number se_X12_number in_X12 co_X12_number) rfl rfl (by decide +kernel) ⟨Nat.le_of_ble_eq_true rfl, Nat.le_of_ble_eq_true rfl⟩ hN hK hP (hDD _) hS hA 0 RW_0 rfl rfl rfl hl.1 rfl (Nat.le_of_ble_eq_true rfl) eX12_statementTold_174.1 ⟨Nat.le_of_ble_eq_true rfl, Nat.le_of_ble_eq_true rfl⟩ (fun H locs hP hS => ?_)
                  obtain ⟨hi47, h⟩ := inb_e h
                  refine ya_iast (i := 4) (x := r46) hx hb hK hP (hDD _) hS 30 0 RW_30 rfl (by decide) hi47 eX12_statementTold_174.2.1 (RW_w30 _) (fun H locs hP hS => ?_)
                  obtain ⟨s48, hs48, h⟩ := st_e h
                  rw [hs48] at hP
                  exact J178 s48 _ _ _ ⟨hP, hS, lv_sub hl [1] rfl, h⟩
                · have h := if_f (mt (i2_eq (x := r39) (y := 0) hr40 (by decide)).mpr c41) h
                  refine lv_aload_n hx hb eX12_statementTold_145.2.1 rfl (lv_at hl 1 rfl) ?_
                  refine lv_iconst (v := 2) hx hb eX12_statementTold_145.2.2.1 (by decide) ?_
                  refine lv_iload_n hx hb eX12_statementTold_145.2.2.2.1 rfl (lv_at hl 0 rfl) ?_
                  obtain ⟨s50, hc49, h⟩ := bn_e h
                  refine ywVv (As := [.int 2, .int (i2 (gI s 2))]) (rest := []) (C := RX12) (n := 2) (ws' := RW D a s50) ⟨hx, hb, hml, hown, ht⟩ (k_x12_codesTold l D a 2 (gI s 2) _ _ _ hc49) (zgV ml_X12_387 im_X12_codesTold se_X12_codesTold in_X12 co_X12_codesTold) rfl rfl (by decide +kernel) ⟨Nat.le_of_ble_eq_true rfl, Nat.le_of_ble_eq_true rfl⟩ hN hK hP (hDD _) hS hA 0 RW_0 rfl rfl rfl hl.1 rfl (Nat.le_of_ble_eq_true rfl) eX12_statementTold_145.2.2.2.2.1 ⟨Nat.le_of_ble_eq_true rfl, Nat.le_of_ble_eq_true rfl⟩ (fun H locs hP hS => ?_)
                  refine lv_goto (tgt := 178) hx hb eX12_statementTold_145.2.2.2.2.2.1 (by decide) ?_
                  exact J178 s50 _ _ _ ⟨hP, hS, lv_sub hl [1] rfl, h⟩
              · have h := if_f (mt (i2_eq (x := r34) (y := 0) hr35 (by decide)).mpr c36) h
                refine lv_aload_n hx hb eX12_statementTold_111.2.2.2.2.2.2.2 rfl (lv_at hl 1 rfl) ?_
                refine lv_iconst (v := 1) hx hb eX12_statementTold_129.1 (by decide) ?_
                refine lv_iload_n hx hb eX12_statementTold_129.2.1 rfl (lv_at hl 0 rfl) ?_
                obtain ⟨s52, hc51, h⟩ := bn_e h
                refine ywVv (As := [.int 1, .int (i2 (gI s 2))]) (rest := []) (C := RX12) (n := 2) (ws' := RW D a s52) ⟨hx, hb, hml, hown, ht⟩ (k_x12_codesTold l D a 1 (gI s 2) _ _ _ hc51) (zgV ml_X12_387 im_X12_codesTold se_X12_codesTold in_X12 co_X12_codesTold) rfl rfl (by decide +kernel) ⟨Nat.le_of_ble_eq_true rfl, Nat.le_of_ble_eq_true rfl⟩ hN hK hP (hDD _) hS hA 0 RW_0 rfl rfl rfl hl.1 rfl (Nat.le_of_ble_eq_true rfl) eX12_statementTold_129.2.2.1 ⟨Nat.le_of_ble_eq_true rfl, Nat.le_of_ble_eq_true rfl⟩ (fun H locs hP hS => ?_)
                refine lv_goto (tgt := 178) hx hb eX12_statementTold_129.2.2.2.1 (by decide) ?_
                exact J178 s52 _ _ _ ⟨hP, hS, lv_sub hl [1] rfl, h⟩
            · have h := if_f (mt (i2_eq (x := r29) (y := 0) hr30 (by decide)).mpr c31) h
              refine lv_aload_n hx hb eX12_statementTold_97.2.2.2.2.2.1 rfl (lv_at hl 1 rfl) ?_
              refine lv_iconst (v := 0) hx hb eX12_statementTold_97.2.2.2.2.2.2.1 (by decide) ?_
              refine lv_iload_n hx hb eX12_statementTold_97.2.2.2.2.2.2.2 rfl (lv_at hl 0 rfl) ?_
              obtain ⟨s54, hc53, h⟩ := bn_e h
              refine ywVv (As := [.int 0, .int (i2 (gI s 2))]) (rest := []) (C := RX12) (n := 2) (ws' := RW D a s54) ⟨hx, hb, hml, hown, ht⟩ (k_x12_codesTold l D a 0 (gI s 2) _ _ _ hc53) (zgV ml_X12_387 im_X12_codesTold se_X12_codesTold in_X12 co_X12_codesTold) rfl rfl (by decide +kernel) ⟨Nat.le_of_ble_eq_true rfl, Nat.le_of_ble_eq_true rfl⟩ hN hK hP (hDD _) hS hA 0 RW_0 rfl rfl rfl hl.1 rfl (Nat.le_of_ble_eq_true rfl) eX12_statementTold_111.1 ⟨Nat.le_of_ble_eq_true rfl, Nat.le_of_ble_eq_true rfl⟩ (fun H locs hP hS => ?_)
              refine lv_goto (tgt := 178) hx hb eX12_statementTold_111.2.1 (by decide) ?_
              exact J178 s54 _ _ _ ⟨hP, hS, lv_sub hl [1] rfl, h⟩
          · have h := if_f (mt (i2_eq (x := r24) (y := 0) hr25 (by decide)).mpr c26) h
            refine lv_aload_n hx hb eX12_statementTold_79.2.2.2.2.2.1 rfl (lv_at hl 1 rfl) ?_
            obtain ⟨s56, hc55, h⟩ := bn_e h
            refine ywVv (As := []) (rest := []) (C := RX12) (n := 0) (ws' := RW D a s56) ⟨hx, hb, hml, hown, ht⟩ (k_x12_removeTold l D a _ _ _ hc55) (zgV ml_X12_384 im_X12_removeTold se_X12_removeTold in_X12 co_X12_removeTold) rfl rfl (by decide +kernel) ⟨Nat.le_of_ble_eq_true rfl, Nat.le_of_ble_eq_true rfl⟩ hN hK hP (hDD _) hS hA 0 RW_0 rfl rfl rfl hl.1 rfl (Nat.le_of_ble_eq_true rfl) eX12_statementTold_79.2.2.2.2.2.2.1 ⟨Nat.le_of_ble_eq_true rfl, Nat.le_of_ble_eq_true rfl⟩ (fun H locs hP hS => ?_)
            refine lv_goto (tgt := 178) hx hb eX12_statementTold_79.2.2.2.2.2.2.2 (by decide) ?_
            exact J178 s56 _ _ _ ⟨hP, hS, lv_sub hl [1] rfl, h⟩
        · have h := if_f (mt (i2_eq (x := r19) (y := 0) hr20 (by decide)).mpr c21) h
          refine lv_aload_n hx hb eX12_statementTold_61.2.2.2.2.2.1 rfl (lv_at hl 1 rfl) ?_
          obtain ⟨s58, hc57, h⟩ := bn_e h
          refine ywVv (As := []) (rest := []) (C := RX12) (n := 0) (ws' := RW D a s58) ⟨hx, hb, hml, hown, ht⟩ (k_x12_putTold l D a _ _ _ hc57) (zgV ml_X12_381 im_X12_putTold se_X12_putTold in_X12 co_X12_putTold) rfl rfl (by decide +kernel) ⟨Nat.le_of_ble_eq_true rfl, Nat.le_of_ble_eq_true rfl⟩ hN hK hP (hDD _) hS hA 0 RW_0 rfl rfl rfl hl.1 rfl (Nat.le_of_ble_eq_true rfl) eX12_statementTold_61.2.2.2.2.2.2.1 ⟨Nat.le_of_ble_eq_true rfl, Nat.le_of_ble_eq_true rfl⟩ (fun H locs hP hS => ?_)
          refine lv_goto (tgt := 178) hx hb eX12_statementTold_61.2.2.2.2.2.2.2 (by decide) ?_
          exact J178 s58 _ _ _ ⟨hP, hS, lv_sub hl [1] rfl, h⟩
      · have h := if_f (mt (i2_eq (x := r14) (y := 0) hr15 (by decide)).mpr c16) h
        refine lv_aload_n hx hb eX12_statementTold_43.2.2.2.1 rfl (lv_at hl 1 rfl) ?_
        refine lv_iconst (v := 1) hx hb eX12_statementTold_43.2.2.2.2.1 (by decide) ?_
        refine lv_iload_n hx hb eX12_statementTold_43.2.2.2.2.2.1 rfl (lv_at hl 0 rfl) ?_
        obtain ⟨s60, hc59, h⟩ := bn_e h
        refine ywVv (As := [.int 1, .int (i2 (gI s 2))]) (rest := []) (C := RX12) (n := 2) (ws' := RW D a s60) ⟨hx, hb, hml, hown, ht⟩ (k_x12_volumeTold l D a 1 (gI s 2) _ _ _ hc59) (zgV ml_X12_377 im_X12_volumeTold se_X12_volumeTold in_X12 co_X12_volumeTold) rfl rfl (by decide +kernel) ⟨Nat.le_of_ble_eq_true rfl, Nat.le_of_ble_eq_true rfl⟩ hN hK hP (hDD _) hS hA 0 RW_0 rfl rfl rfl hl.1 rfl (Nat.le_of_ble_eq_true rfl) eX12_statementTold_43.2.2.2.2.2.2.1 ⟨Nat.le_of_ble_eq_true rfl, Nat.le_of_ble_eq_true rfl⟩ (fun H locs hP hS => ?_)
        refine lv_goto (tgt := 178) hx hb eX12_statementTold_43.2.2.2.2.2.2.2 (by decide) ?_
        exact J178 s60 _ _ _ ⟨hP, hS, lv_sub hl [1] rfl, h⟩
    · have h := if_f (mt (i2_eq (x := r9) (y := 0) hr10 (by decide)).mpr c11) h
      refine lv_aload_n hx hb eX12_statementTold_29.2.1 rfl (lv_at hl 1 rfl) ?_
      refine lv_iconst (v := 0) hx hb eX12_statementTold_29.2.2.1 (by decide) ?_
      refine lv_iload_n hx hb eX12_statementTold_29.2.2.2.1 rfl (lv_at hl 0 rfl) ?_
      obtain ⟨s62, hc61, h⟩ := bn_e h
      refine ywVv (As := [.int 0, .int (i2 (gI s 2))]) (rest := []) (C := RX12) (n := 2) (ws' := RW D a s62) ⟨hx, hb, hml, hown, ht⟩ (k_x12_volumeTold l D a 0 (gI s 2) _ _ _ hc61) (zgV ml_X12_377 im_X12_volumeTold se_X12_volumeTold in_X12 co_X12_volumeTold) rfl rfl (by decide +kernel) ⟨Nat.le_of_ble_eq_true rfl, Nat.le_of_ble_eq_true rfl⟩ hN hK hP (hDD _) hS hA 0 RW_0 rfl rfl rfl hl.1 rfl (Nat.le_of_ble_eq_true rfl) eX12_statementTold_29.2.2.2.2.1 ⟨Nat.le_of_ble_eq_true rfl, Nat.le_of_ble_eq_true rfl⟩ (fun H locs hP hS => ?_)
      refine lv_goto (tgt := 178) hx hb eX12_statementTold_29.2.2.2.2.2.1 (by decide) ?_
      exact J178 s62 _ _ _ ⟨hP, hS, lv_sub hl [1] rfl, h⟩
  · have h := if_t ((i2_eq (x := (gI s 46)) (y := 60) hr5 (by decide)).mp c6) h
    refine lv_aload_n hx hb eX12_statementTold_0.2.2.2.2.2.2.2 rfl (lv_at hl 1 rfl) ?_
    refine lv_iconst (v := 5) hx hb eX12_statementTold_15.1 (by decide) ?_
    refine lv_iload_n hx hb eX12_statementTold_15.2.1 rfl (lv_at hl 0 rfl) ?_
    obtain ⟨s64, hc63, h⟩ := bn_e h
    refine ywVv (As := [.int 5, .int (i2 (gI s 2))]) (rest := []) (C := RX12) (n := 2) (ws' := RW D a s64) ⟨hx, hb, hml, hown, ht⟩ (k_x12_fail l D a 5 (gI s 2) _ _ _ hc63) (zgV ml_X12_296 im_X12_fail se_X12_fail in_X12 co_X12_fail) rfl rfl (by decide +kernel) ⟨Nat.le_of_ble_eq_true rfl, Nat.le_of_ble_eq_true rfl⟩ hN hK hP (hDD _) hS hA 0 RW_0 rfl rfl rfl hl.1 rfl (Nat.le_of_ble_eq_true rfl) eX12_statementTold_15.2.2.1 ⟨Nat.le_of_ble_eq_true rfl, Nat.le_of_ble_eq_true rfl⟩ (fun H locs hP hS => ?_)
    obtain rfl := Option.some.inj h
    exact W.vret hx hb hr (fun t ht hW => ⟨⟨(), rfl, trivial, by rw [ht]; exact hP, va_K.moved hW.alike hK, hDD _⟩, hS.F ht⟩) hS.2.2 eX12_statementTold_15.2.2.2.1
