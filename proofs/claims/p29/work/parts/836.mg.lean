theorem co_X12_doesSplit : Cond.code yX12_doesSplit cX12_doesSplit 3 (some .boolean) ∈ lw_gd := zm (lw_g_9 (List.mem_of_getElem? (i := 84) (by decide +kernel))) rfl
theorem co_X12_half : Cond.code yX12_half cX12_half 9 (some .int) ∈ lw_gd := zm (lw_g_9 (List.mem_of_getElem? (i := 96) (by decide +kernel))) rfl
theorem co_X12_inserts : Cond.code yX12_inserts cX12_inserts 6 none ∈ lw_gd := zm (lw_g_9 (List.mem_of_getElem? (i := 68) (by decide +kernel))) rfl
theorem co_X12_puts : Cond.code yX12_puts cX12_puts 8 none ∈ lw_gd := zm (lw_g_9 (List.mem_of_getElem? (i := 8) (by decide +kernel))) rfl
theorem co_X12_putsIn : Cond.code yX12_putsIn cX12_putsIn 6 none ∈ lw_gd := zm (lw_g_9 (List.mem_of_getElem? (i := 100) (by decide +kernel))) rfl
theorem co_X12_removes : Cond.code yX12_removes cX12_removes 8 none ∈ lw_gd := zm (lw_g_9 (List.mem_of_getElem? (i := 104) (by decide +kernel))) rfl
theorem co_X12_roomOf : Cond.code yX12_roomOf cX12_roomOf 1 (some .int) ∈ lw_gd := zm (lw_g_9 (List.mem_of_getElem? (i := 88) (by decide +kernel))) rfl
theorem co_X12_rootSplit : Cond.code yX12_rootSplit cX12_rootSplit 5 (some .int) ∈ lw_gd := zm (lw_g_9 (List.mem_of_getElem? (i := 92) (by decide +kernel))) rfl
theorem co_X12_valueFrom : Cond.code yX12_valueFrom cX12_valueFrom 5 (some .int) ∈ lw_gd := zm (lw_g_8 (List.mem_of_getElem? (i := 220) (by decide +kernel))) rfl
theorem co_X12_valueOf : Cond.code yX12_valueOf cX12_valueOf 3 (some .int) ∈ lw_gd := zm (lw_g_8 (List.mem_of_getElem? (i := 216) (by decide +kernel))) rfl
theorem im_X12_doesSplit : Cond.instanceMethod yX12_doesSplit ∈ lw_gd := zm (lw_g_9 (List.mem_of_getElem? (i := 83) (by decide +kernel))) rfl
theorem im_X12_half : Cond.instanceMethod yX12_half ∈ lw_gd := zm (lw_g_9 (List.mem_of_getElem? (i := 95) (by decide +kernel))) rfl
theorem im_X12_inserts : Cond.instanceMethod yX12_inserts ∈ lw_gd := zm (lw_g_9 (List.mem_of_getElem? (i := 67) (by decide +kernel))) rfl
theorem im_X12_puts : Cond.instanceMethod yX12_puts ∈ lw_gd := zm (lw_g_9 (List.mem_of_getElem? (i := 7) (by decide +kernel))) rfl
theorem im_X12_putsIn : Cond.instanceMethod yX12_putsIn ∈ lw_gd := zm (lw_g_9 (List.mem_of_getElem? (i := 99) (by decide +kernel))) rfl
theorem im_X12_removes : Cond.instanceMethod yX12_removes ∈ lw_gd := zm (lw_g_9 (List.mem_of_getElem? (i := 103) (by decide +kernel))) rfl
theorem im_X12_roomOf : Cond.instanceMethod yX12_roomOf ∈ lw_gd := zm (lw_g_9 (List.mem_of_getElem? (i := 87) (by decide +kernel))) rfl
theorem im_X12_rootSplit : Cond.instanceMethod yX12_rootSplit ∈ lw_gd := zm (lw_g_9 (List.mem_of_getElem? (i := 91) (by decide +kernel))) rfl
theorem im_X12_valueFrom : Cond.instanceMethod yX12_valueFrom ∈ lw_gd := zm (lw_g_8 (List.mem_of_getElem? (i := 219) (by decide +kernel))) rfl
theorem im_X12_valueOf : Cond.instanceMethod yX12_valueOf ∈ lw_gd := zm (lw_g_8 (List.mem_of_getElem? (i := 215) (by decide +kernel))) rfl
theorem ml_X12_523 : Cond.methodLink RX12 523 yX12_roomOf ∈ lw_gd := zm (lw_g_9 (List.mem_of_getElem? (i := 85) (by decide +kernel))) rfl
theorem ml_X12_526 : Cond.methodLink RX12 526 yX12_inserts ∈ lw_gd := zm (lw_g_9 (List.mem_of_getElem? (i := 65) (by decide +kernel))) rfl
theorem ml_X12_529 : Cond.methodLink RX12 529 yX12_half ∈ lw_gd := zm (lw_g_9 (List.mem_of_getElem? (i := 93) (by decide +kernel))) rfl
theorem ml_X12_536 : Cond.methodLink RX12 536 yX12_doesSplit ∈ lw_gd := zm (lw_g_9 (List.mem_of_getElem? (i := 81) (by decide +kernel))) rfl
theorem ml_X12_539 : Cond.methodLink RX12 539 yX12_rootSplit ∈ lw_gd := zm (lw_g_9 (List.mem_of_getElem? (i := 89) (by decide +kernel))) rfl
theorem ml_X12_546 : Cond.methodLink RX12 546 yX12_putsIn ∈ lw_gd := zm (lw_g_9 (List.mem_of_getElem? (i := 97) (by decide +kernel))) rfl
theorem ml_X12_559 : Cond.methodLink RX12 559 yX12_valueOf ∈ lw_gd := zm (lw_g_8 (List.mem_of_getElem? (i := 213) (by decide +kernel))) rfl
theorem ml_X12_562 : Cond.methodLink RX12 562 yX12_puts ∈ lw_gd := zm (lw_g_9 (List.mem_of_getElem? (i := 5) (by decide +kernel))) rfl
theorem ml_X12_565 : Cond.methodLink RX12 565 yX12_removes ∈ lw_gd := zm (lw_g_9 (List.mem_of_getElem? (i := 101) (by decide +kernel))) rfl
theorem ml_X12_621 : Cond.methodLink RX12 621 yX12_valueFrom ∈ lw_gd := zm (lw_g_8 (List.mem_of_getElem? (i := 217) (by decide +kernel))) rfl
theorem se_X12_doesSplit : Cond.selects RX12 yX12_doesSplit yX12_doesSplit ∈ lw_gd := zm (List.mem_of_getElem? (i := 138) (by decide +kernel)) rfl
theorem se_X12_half : Cond.selects RX12 yX12_half yX12_half ∈ lw_gd := zm (List.mem_of_getElem? (i := 141) (by decide +kernel)) rfl
theorem se_X12_inserts : Cond.selects RX12 yX12_inserts yX12_inserts ∈ lw_gd := zm (List.mem_of_getElem? (i := 134) (by decide +kernel)) rfl
theorem se_X12_puts : Cond.selects RX12 yX12_puts yX12_puts ∈ lw_gd := zm (List.mem_of_getElem? (i := 121) (by decide +kernel)) rfl
theorem se_X12_putsIn : Cond.selects RX12 yX12_putsIn yX12_putsIn ∈ lw_gd := zm (List.mem_of_getElem? (i := 142) (by decide +kernel)) rfl
theorem se_X12_removes : Cond.selects RX12 yX12_removes yX12_removes ∈ lw_gd := zm (List.mem_of_getElem? (i := 143) (by decide +kernel)) rfl
theorem se_X12_roomOf : Cond.selects RX12 yX12_roomOf yX12_roomOf ∈ lw_gd := zm (List.mem_of_getElem? (i := 139) (by decide +kernel)) rfl
theorem se_X12_rootSplit : Cond.selects RX12 yX12_rootSplit yX12_rootSplit ∈ lw_gd := zm (List.mem_of_getElem? (i := 140) (by decide +kernel)) rfl
theorem se_X12_valueFrom : Cond.selects RX12 yX12_valueFrom yX12_valueFrom ∈ lw_gd := zm (List.mem_of_getElem? (i := 114) (by decide +kernel)) rfl
theorem se_X12_valueOf : Cond.selects RX12 yX12_valueOf yX12_valueOf ∈ lw_gd := zm (List.mem_of_getElem? (i := 113) (by decide +kernel)) rfl
theorem eX12_doesSplit_0 : decode cX12_doesSplit 0 = .ok (.aload_n 0, 1) ∧ decode cX12_doesSplit 1 = .ok (.iload_n 1, 1) ∧ decode cX12_doesSplit 2 = .ok (.invokevirtual 466, 3) ∧ decode cX12_doesSplit 5 = .ok (.istore_n 2, 1) ∧ decode cX12_doesSplit 6 = .ok (.iload_n 2, 1) ∧ decode cX12_doesSplit 7 = .ok (.aload_n 0, 1) ∧ decode cX12_doesSplit 8 = .ok (.invokevirtual 523, 3) ∧ decode cX12_doesSplit 11 = .ok (.if_icmp .lt 5, 3) := by decide +kernel
theorem eX12_doesSplit_14 : decode cX12_doesSplit 14 = .ok (.iconst 1, 1) ∧ decode cX12_doesSplit 15 = .ok (.ireturn, 1) ∧ decode cX12_doesSplit 16 = .ok (.iload_n 2, 1) ∧ decode cX12_doesSplit 17 = .ok (.iconst 2, 1) ∧ decode cX12_doesSplit 18 = .ok (.if_icmp .lt 11, 3) ∧ decode cX12_doesSplit 21 = .ok (.aload_n 0, 1) ∧ decode cX12_doesSplit 22 = .ok (.iconst 1, 1) ∧ decode cX12_doesSplit 23 = .ok (.invokevirtual 472, 3) := by decide +kernel
theorem eX12_doesSplit_26 : decode cX12_doesSplit 26 = .ok (.ifCond .ne 5, 3) ∧ decode cX12_doesSplit 29 = .ok (.iconst 0, 1) ∧ decode cX12_doesSplit 30 = .ok (.ireturn, 1) ∧ decode cX12_doesSplit 31 = .ok (.aload_n 0, 1) ∧ decode cX12_doesSplit 32 = .ok (.aload_n 0, 1) ∧ decode cX12_doesSplit 33 = .ok (.iload_n 1, 1) ∧ decode cX12_doesSplit 34 = .ok (.invokevirtual 460, 3) ∧ decode cX12_doesSplit 37 = .ok (.putfield 463, 3) := by decide +kernel
theorem eX12_doesSplit_40 : decode cX12_doesSplit 40 = .ok (.aload_n 0, 1) ∧ decode cX12_doesSplit 41 = .ok (.iload_n 2, 1) ∧ decode cX12_doesSplit 42 = .ok (.putfield 469, 3) ∧ decode cX12_doesSplit 45 = .ok (.aload_n 0, 1) ∧ decode cX12_doesSplit 46 = .ok (.iconst 1, 1) ∧ decode cX12_doesSplit 47 = .ok (.invokevirtual 475, 3) ∧ decode cX12_doesSplit 50 = .ok (.lconst 1, 1) ∧ decode cX12_doesSplit 51 = .ok (.lcmp, 1) := by decide +kernel
theorem eX12_doesSplit_52 : decode cX12_doesSplit 52 = .ok (.ifCond .ne 7, 3) ∧ decode cX12_doesSplit 55 = .ok (.iconst 1, 1) ∧ decode cX12_doesSplit 56 = .ok (.goto 4, 3) ∧ decode cX12_doesSplit 59 = .ok (.iconst 0, 1) ∧ decode cX12_doesSplit 60 = .ok (.ireturn, 1) ∧ decode cX12_half 0 = .ok (.aload_n 0, 1) ∧ decode cX12_half 1 = .ok (.aload_n 0, 1) ∧ decode cX12_half 2 = .ok (.iload_n 3, 1) := by decide +kernel
theorem eX12_half_3 : decode cX12_half 3 = .ok (.invokevirtual 460, 3) ∧ decode cX12_half 6 = .ok (.iload_n 3, 1) ∧ decode cX12_half 7 = .ok (.invokevirtual 511, 3) ∧ decode cX12_half 10 = .ok (.istore 5, 2) ∧ decode cX12_half 12 = .ok (.aload_n 0, 1) ∧ decode cX12_half 13 = .ok (.getfield 493, 3) ∧ decode cX12_half 16 = .ok (.ifCond .eq 5, 3) ∧ decode cX12_half 19 = .ok (.iload_n 3, 1) := by decide +kernel
theorem eX12_half_20 : decode cX12_half 20 = .ok (.ireturn, 1) ∧ decode cX12_half 21 = .ok (.aload_n 0, 1) ∧ decode cX12_half 22 = .ok (.iload_n 3, 1) ∧ decode cX12_half 23 = .ok (.invokevirtual 466, 3) ∧ decode cX12_half 26 = .ok (.iconst 2, 1) ∧ decode cX12_half 27 = .ok (.idiv, 1) ∧ decode cX12_half 28 = .ok (.istore 6, 2) ∧ decode cX12_half 30 = .ok (.aload_n 0, 1) := by decide +kernel
theorem eX12_half_31 : decode cX12_half 31 = .ok (.iload_n 3, 1) ∧ decode cX12_half 32 = .ok (.invokevirtual 466, 3) ∧ decode cX12_half 35 = .ok (.iload 6, 2) ∧ decode cX12_half 37 = .ok (.isub, 1) ∧ decode cX12_half 38 = .ok (.istore 7, 2) ∧ decode cX12_half 40 = .ok (.iconst 0, 1) ∧ decode cX12_half 41 = .ok (.istore 8, 2) ∧ decode cX12_half 43 = .ok (.iload 8, 2) := by decide +kernel
theorem eX12_half_45 : decode cX12_half 45 = .ok (.iload 6, 2) ∧ decode cX12_half 47 = .ok (.if_icmp .ge 37, 3) ∧ decode cX12_half 50 = .ok (.aload_n 0, 1) ∧ decode cX12_half 51 = .ok (.iload 5, 2) ∧ decode cX12_half 53 = .ok (.iload 8, 2) ∧ decode cX12_half 55 = .ok (.aload_n 0, 1) ∧ decode cX12_half 56 = .ok (.iload_n 3, 1) ∧ decode cX12_half 57 = .ok (.iload 7, 2) := by decide +kernel
theorem eX12_half_59 : decode cX12_half 59 = .ok (.iload 8, 2) ∧ decode cX12_half 61 = .ok (.iadd, 1) ∧ decode cX12_half 62 = .ok (.invokevirtual 517, 3) ∧ decode cX12_half 65 = .ok (.aload_n 0, 1) ∧ decode cX12_half 66 = .ok (.iload_n 3, 1) ∧ decode cX12_half 67 = .ok (.iload 7, 2) ∧ decode cX12_half 69 = .ok (.iload 8, 2) ∧ decode cX12_half 71 = .ok (.iadd, 1) := by decide +kernel
theorem eX12_half_72 : decode cX12_half 72 = .ok (.invokevirtual 505, 3) ∧ decode cX12_half 75 = .ok (.invokevirtual 526, 3) ∧ decode cX12_half 78 = .ok (.iinc 8 1, 3) ∧ decode cX12_half 81 = .ok (.goto (-38), 3) ∧ decode cX12_half 84 = .ok (.aload_n 0, 1) ∧ decode cX12_half 85 = .ok (.getfield 121, 3) ∧ decode cX12_half 88 = .ok (.bipush 17, 2) ∧ decode cX12_half 90 = .ok (.bipush 16, 2) := by decide +kernel
theorem eX12_half_92 : decode cX12_half 92 = .ok (.iload_n 3, 1) ∧ decode cX12_half 93 = .ok (.imul, 1) ∧ decode cX12_half 94 = .ok (.iadd, 1) ∧ decode cX12_half 95 = .ok (.iconst 3, 1) ∧ decode cX12_half 96 = .ok (.iadd, 1) ∧ decode cX12_half 97 = .ok (.iload 7, 2) ∧ decode cX12_half 99 = .ok (.iastore, 1) ∧ decode cX12_half 100 = .ok (.aload_n 0, 1) := by decide +kernel
theorem eX12_half_101 : decode cX12_half 101 = .ok (.getfield 124, 3) ∧ decode cX12_half 104 = .ok (.iload_n 3, 1) ∧ decode cX12_half 105 = .ok (.iconst 1, 1) ∧ decode cX12_half 106 = .ok (.bastore, 1) ∧ decode cX12_half 107 = .ok (.aload_n 0, 1) ∧ decode cX12_half 108 = .ok (.iload_n 1, 1) ∧ decode cX12_half 109 = .ok (.iload_n 2, 1) ∧ decode cX12_half 110 = .ok (.iconst 1, 1) := by decide +kernel
theorem eX12_half_111 : decode cX12_half 111 = .ok (.iadd, 1) ∧ decode cX12_half 112 = .ok (.aload_n 0, 1) ∧ decode cX12_half 113 = .ok (.iload 5, 2) ∧ decode cX12_half 115 = .ok (.iconst 0, 1) ∧ decode cX12_half 116 = .ok (.invokevirtual 517, 3) ∧ decode cX12_half 119 = .ok (.iload 5, 2) ∧ decode cX12_half 121 = .ok (.invokevirtual 526, 3) ∧ decode cX12_half 124 = .ok (.aload_n 0, 1) := by decide +kernel
theorem eX12_half_125 : decode cX12_half 125 = .ok (.iload 5, 2) ∧ decode cX12_half 127 = .ok (.iconst 0, 1) ∧ decode cX12_half 128 = .ok (.invokevirtual 517, 3) ∧ decode cX12_half 131 = .ok (.iload 4, 2) ∧ decode cX12_half 133 = .ok (.if_icmp .gt 8, 3) ∧ decode cX12_half 136 = .ok (.iload 5, 2) ∧ decode cX12_half 138 = .ok (.goto 4, 3) ∧ decode cX12_half 141 = .ok (.iload_n 3, 1) := by decide +kernel
theorem eX12_half_142 : decode cX12_half 142 = .ok (.ireturn, 1) ∧ decode cX12_puts 0 = .ok (.aload_n 0, 1) ∧ decode cX12_puts 1 = .ok (.getfield 121, 3) ∧ decode cX12_puts 4 = .ok (.iload_n 1, 1) ∧ decode cX12_puts 5 = .ok (.iaload, 1) ∧ decode cX12_puts 6 = .ok (.sipush 254, 3) ∧ decode cX12_puts 9 = .ok (.if_icmp .ne 38, 3) ∧ decode cX12_puts 12 = .ok (.aload_n 0, 1) := by decide +kernel
theorem eX12_puts_13 : decode cX12_puts 13 = .ok (.iconst 0, 1) ∧ decode cX12_puts 14 = .ok (.bipush 48, 2) ∧ decode cX12_puts 16 = .ok (.invokevirtual 511, 3) ∧ decode cX12_puts 19 = .ok (.istore 4, 2) ∧ decode cX12_puts 21 = .ok (.aload_n 0, 1) ∧ decode cX12_puts 22 = .ok (.getfield 493, 3) ∧ decode cX12_puts 25 = .ok (.ifCond .eq 4, 3) ∧ decode cX12_puts 28 = .ok (.return_, 1) := by decide +kernel
theorem eX12_puts_29 : decode cX12_puts 29 = .ok (.aload_n 0, 1) ∧ decode cX12_puts 30 = .ok (.iload 4, 2) ∧ decode cX12_puts 32 = .ok (.iconst 0, 1) ∧ decode cX12_puts 33 = .ok (.iload_n 2, 1) ∧ decode cX12_puts 34 = .ok (.iload_n 3, 1) ∧ decode cX12_puts 35 = .ok (.invokevirtual 526, 3) ∧ decode cX12_puts 38 = .ok (.aload_n 0, 1) ∧ decode cX12_puts 39 = .ok (.getfield 121, 3) := by decide +kernel
theorem eX12_puts_42 : decode cX12_puts 42 = .ok (.iload_n 1, 1) ∧ decode cX12_puts 43 = .ok (.iload 4, 2) ∧ decode cX12_puts 45 = .ok (.iastore, 1) ∧ decode cX12_puts 46 = .ok (.return_, 1) ∧ decode cX12_puts 47 = .ok (.aload_n 0, 1) ∧ decode cX12_puts 48 = .ok (.aload_n 0, 1) ∧ decode cX12_puts 49 = .ok (.getfield 121, 3) ∧ decode cX12_puts 52 = .ok (.iload_n 1, 1) := by decide +kernel
theorem eX12_puts_53 : decode cX12_puts 53 = .ok (.iaload, 1) ∧ decode cX12_puts 54 = .ok (.invokevirtual 533, 3) ∧ decode cX12_puts 57 = .ok (.istore 4, 2) ∧ decode cX12_puts 59 = .ok (.aload_n 0, 1) ∧ decode cX12_puts 60 = .ok (.getfield 493, 3) ∧ decode cX12_puts 63 = .ok (.ifCond .eq 4, 3) ∧ decode cX12_puts 66 = .ok (.return_, 1) ∧ decode cX12_puts 67 = .ok (.aload_n 0, 1) := by decide +kernel
theorem eX12_puts_68 : decode cX12_puts 68 = .ok (.getfield 121, 3) ∧ decode cX12_puts 71 = .ok (.iload_n 1, 1) ∧ decode cX12_puts 72 = .ok (.iload 4, 2) ∧ decode cX12_puts 74 = .ok (.iastore, 1) ∧ decode cX12_puts 75 = .ok (.aload_n 0, 1) ∧ decode cX12_puts 76 = .ok (.iload 4, 2) ∧ decode cX12_puts 78 = .ok (.invokevirtual 536, 3) ∧ decode cX12_puts 81 = .ok (.ifCond .eq 13, 3) := by decide +kernel
theorem eX12_puts_84 : decode cX12_puts 84 = .ok (.aload_n 0, 1) ∧ decode cX12_puts 85 = .ok (.iload_n 1, 1) ∧ decode cX12_puts 86 = .ok (.iload 4, 2) ∧ decode cX12_puts 88 = .ok (.iload_n 2, 1) ∧ decode cX12_puts 89 = .ok (.invokevirtual 539, 3) ∧ decode cX12_puts 92 = .ok (.istore 4, 2) ∧ decode cX12_puts 94 = .ok (.aload_n 0, 1) ∧ decode cX12_puts 95 = .ok (.getfield 493, 3) := by decide +kernel
theorem eX12_puts_98 : decode cX12_puts 98 = .ok (.ifCond .ne 100, 3) ∧ decode cX12_puts 101 = .ok (.aload_n 0, 1) ∧ decode cX12_puts 102 = .ok (.iload 4, 2) ∧ decode cX12_puts 104 = .ok (.invokevirtual 460, 3) ∧ decode cX12_puts 107 = .ok (.ifCond .le 91, 3) ∧ decode cX12_puts 110 = .ok (.aload_n 0, 1) ∧ decode cX12_puts 111 = .ok (.iload 4, 2) ∧ decode cX12_puts 113 = .ok (.iload_n 2, 1) := by decide +kernel
theorem eX12_puts_114 : decode cX12_puts 114 = .ok (.invokevirtual 543, 3) ∧ decode cX12_puts 117 = .ok (.istore 5, 2) ∧ decode cX12_puts 119 = .ok (.aload_n 0, 1) ∧ decode cX12_puts 120 = .ok (.iload 4, 2) ∧ decode cX12_puts 122 = .ok (.iload 5, 2) ∧ decode cX12_puts 124 = .ok (.invokevirtual 505, 3) ∧ decode cX12_puts 127 = .ok (.istore 6, 2) ∧ decode cX12_puts 129 = .ok (.aload_n 0, 1) := by decide +kernel
theorem eX12_puts_130 : decode cX12_puts 130 = .ok (.iload 6, 2) ∧ decode cX12_puts 132 = .ok (.invokevirtual 533, 3) ∧ decode cX12_puts 135 = .ok (.istore 7, 2) ∧ decode cX12_puts 137 = .ok (.iload 7, 2) ∧ decode cX12_puts 139 = .ok (.iload 6, 2) ∧ decode cX12_puts 141 = .ok (.if_icmp .eq 21, 3) ∧ decode cX12_puts 144 = .ok (.aload_n 0, 1) ∧ decode cX12_puts 145 = .ok (.iload 4, 2) := by decide +kernel
theorem eX12_puts_147 : decode cX12_puts 147 = .ok (.iload 5, 2) ∧ decode cX12_puts 149 = .ok (.aload_n 0, 1) ∧ decode cX12_puts 150 = .ok (.iload 4, 2) ∧ decode cX12_puts 152 = .ok (.iload 5, 2) ∧ decode cX12_puts 154 = .ok (.invokevirtual 517, 3) ∧ decode cX12_puts 157 = .ok (.iload 7, 2) ∧ decode cX12_puts 159 = .ok (.invokevirtual 520, 3) ∧ decode cX12_puts 162 = .ok (.aload_n 0, 1) := by decide +kernel
theorem eX12_puts_163 : decode cX12_puts 163 = .ok (.getfield 493, 3) ∧ decode cX12_puts 166 = .ok (.ifCond .ne 25, 3) ∧ decode cX12_puts 169 = .ok (.aload_n 0, 1) ∧ decode cX12_puts 170 = .ok (.iload 7, 2) ∧ decode cX12_puts 172 = .ok (.invokevirtual 536, 3) ∧ decode cX12_puts 175 = .ok (.ifCond .eq 16, 3) ∧ decode cX12_puts 178 = .ok (.aload_n 0, 1) ∧ decode cX12_puts 179 = .ok (.iload 4, 2) := by decide +kernel
theorem eX12_puts_181 : decode cX12_puts 181 = .ok (.iload 5, 2) ∧ decode cX12_puts 183 = .ok (.iload 7, 2) ∧ decode cX12_puts 185 = .ok (.iload_n 2, 1) ∧ decode cX12_puts 186 = .ok (.invokevirtual 529, 3) ∧ decode cX12_puts 189 = .ok (.istore 7, 2) ∧ decode cX12_puts 191 = .ok (.iload 7, 2) ∧ decode cX12_puts 193 = .ok (.istore 4, 2) ∧ decode cX12_puts 195 = .ok (.goto (-101), 3) := by decide +kernel
theorem eX12_puts_198 : decode cX12_puts 198 = .ok (.aload_n 0, 1) ∧ decode cX12_puts 199 = .ok (.getfield 493, 3) ∧ decode cX12_puts 202 = .ok (.ifCond .ne 11, 3) ∧ decode cX12_puts 205 = .ok (.aload_n 0, 1) ∧ decode cX12_puts 206 = .ok (.iload 4, 2) ∧ decode cX12_puts 208 = .ok (.iload_n 2, 1) ∧ decode cX12_puts 209 = .ok (.iload_n 3, 1) ∧ decode cX12_puts 210 = .ok (.invokevirtual 546, 3) := by decide +kernel
theorem eX12_puts_213 : decode cX12_puts 213 = .ok (.return_, 1) ∧ decode cX12_putsIn 0 = .ok (.aload_n 0, 1) ∧ decode cX12_putsIn 1 = .ok (.iload_n 1, 1) ∧ decode cX12_putsIn 2 = .ok (.iload_n 2, 1) ∧ decode cX12_putsIn 3 = .ok (.invokevirtual 550, 3) ∧ decode cX12_putsIn 6 = .ok (.istore 4, 2) ∧ decode cX12_putsIn 8 = .ok (.iload 4, 2) ∧ decode cX12_putsIn 10 = .ok (.aload_n 0, 1) := by decide +kernel
theorem eX12_putsIn_11 : decode cX12_putsIn 11 = .ok (.iload_n 1, 1) ∧ decode cX12_putsIn 12 = .ok (.invokevirtual 466, 3) ∧ decode cX12_putsIn 15 = .ok (.if_icmp .ge 18, 3) ∧ decode cX12_putsIn 18 = .ok (.aload_n 0, 1) ∧ decode cX12_putsIn 19 = .ok (.iload_n 1, 1) ∧ decode cX12_putsIn 20 = .ok (.iload 4, 2) ∧ decode cX12_putsIn 22 = .ok (.invokevirtual 517, 3) ∧ decode cX12_putsIn 25 = .ok (.iload_n 2, 1) := by decide +kernel
theorem eX12_putsIn_26 : decode cX12_putsIn 26 = .ok (.if_icmp .ne 7, 3) ∧ decode cX12_putsIn 29 = .ok (.iconst 1, 1) ∧ decode cX12_putsIn 30 = .ok (.goto 4, 3) ∧ decode cX12_putsIn 33 = .ok (.iconst 0, 1) ∧ decode cX12_putsIn 34 = .ok (.istore 5, 2) ∧ decode cX12_putsIn 36 = .ok (.iload 5, 2) ∧ decode cX12_putsIn 38 = .ok (.ifCond .ne 15, 3) ∧ decode cX12_putsIn 41 = .ok (.aload_n 0, 1) := by decide +kernel
theorem eX12_putsIn_42 : decode cX12_putsIn 42 = .ok (.iload_n 1, 1) ∧ decode cX12_putsIn 43 = .ok (.iload 4, 2) ∧ decode cX12_putsIn 45 = .ok (.iload_n 2, 1) ∧ decode cX12_putsIn 46 = .ok (.iload_n 3, 1) ∧ decode cX12_putsIn 47 = .ok (.invokevirtual 526, 3) ∧ decode cX12_putsIn 50 = .ok (.goto 23, 3) ∧ decode cX12_putsIn 53 = .ok (.aload_n 0, 1) ∧ decode cX12_putsIn 54 = .ok (.iload_n 1, 1) := by decide +kernel
theorem eX12_putsIn_55 : decode cX12_putsIn 55 = .ok (.iload 4, 2) ∧ decode cX12_putsIn 57 = .ok (.invokevirtual 505, 3) ∧ decode cX12_putsIn 60 = .ok (.iload_n 3, 1) ∧ decode cX12_putsIn 61 = .ok (.if_icmp .eq 12, 3) ∧ decode cX12_putsIn 64 = .ok (.aload_n 0, 1) ∧ decode cX12_putsIn 65 = .ok (.iload_n 1, 1) ∧ decode cX12_putsIn 66 = .ok (.iload 4, 2) ∧ decode cX12_putsIn 68 = .ok (.iload_n 2, 1) := by decide +kernel
theorem eX12_putsIn_69 : decode cX12_putsIn 69 = .ok (.iload_n 3, 1) ∧ decode cX12_putsIn 70 = .ok (.invokevirtual 520, 3) ∧ decode cX12_putsIn 73 = .ok (.return_, 1) ∧ decode cX12_roomOf 0 = .ok (.aload_n 0, 1) ∧ decode cX12_roomOf 1 = .ok (.getfield 102, 3) ∧ decode cX12_roomOf 4 = .ok (.bipush 6, 2) ∧ decode cX12_roomOf 6 = .ok (.iaload, 1) ∧ decode cX12_roomOf 7 = .ok (.ireturn, 1) := by decide +kernel
theorem eX12_rootSplit_0 : decode cX12_rootSplit 0 = .ok (.aload_n 0, 1) ∧ decode cX12_rootSplit 1 = .ok (.aload_n 0, 1) ∧ decode cX12_rootSplit 2 = .ok (.iload_n 2, 1) ∧ decode cX12_rootSplit 3 = .ok (.invokevirtual 460, 3) ∧ decode cX12_rootSplit 6 = .ok (.iconst 1, 1) ∧ decode cX12_rootSplit 7 = .ok (.iadd, 1) ∧ decode cX12_rootSplit 8 = .ok (.bipush 48, 2) ∧ decode cX12_rootSplit 10 = .ok (.invokevirtual 511, 3) := by decide +kernel
theorem eX12_rootSplit_13 : decode cX12_rootSplit 13 = .ok (.istore 4, 2) ∧ decode cX12_rootSplit 15 = .ok (.aload_n 0, 1) ∧ decode cX12_rootSplit 16 = .ok (.getfield 493, 3) ∧ decode cX12_rootSplit 19 = .ok (.ifCond .eq 5, 3) ∧ decode cX12_rootSplit 22 = .ok (.iload_n 2, 1) ∧ decode cX12_rootSplit 23 = .ok (.ireturn, 1) ∧ decode cX12_rootSplit 24 = .ok (.aload_n 0, 1) ∧ decode cX12_rootSplit 25 = .ok (.iload 4, 2) := by decide +kernel
theorem eX12_rootSplit_27 : decode cX12_rootSplit 27 = .ok (.iconst 0, 1) ∧ decode cX12_rootSplit 28 = .ok (.aload_n 0, 1) ∧ decode cX12_rootSplit 29 = .ok (.iload_n 2, 1) ∧ decode cX12_rootSplit 30 = .ok (.iconst 0, 1) ∧ decode cX12_rootSplit 31 = .ok (.invokevirtual 517, 3) ∧ decode cX12_rootSplit 34 = .ok (.iload_n 2, 1) ∧ decode cX12_rootSplit 35 = .ok (.invokevirtual 526, 3) ∧ decode cX12_rootSplit 38 = .ok (.aload_n 0, 1) := by decide +kernel
theorem eX12_rootSplit_39 : decode cX12_rootSplit 39 = .ok (.getfield 121, 3) ∧ decode cX12_rootSplit 42 = .ok (.iload_n 1, 1) ∧ decode cX12_rootSplit 43 = .ok (.iload 4, 2) ∧ decode cX12_rootSplit 45 = .ok (.iastore, 1) ∧ decode cX12_rootSplit 46 = .ok (.aload_n 0, 1) ∧ decode cX12_rootSplit 47 = .ok (.iload 4, 2) ∧ decode cX12_rootSplit 49 = .ok (.iconst 0, 1) ∧ decode cX12_rootSplit 50 = .ok (.iload_n 2, 1) := by decide +kernel
theorem eX12_rootSplit_51 : decode cX12_rootSplit 51 = .ok (.iload_n 3, 1) ∧ decode cX12_rootSplit 52 = .ok (.invokevirtual 529, 3) ∧ decode cX12_rootSplit 55 = .ok (.ireturn, 1) ∧ decode cX12_tries 0 = .ok (.iconst 0, 1) ∧ decode cX12_tries 1 = .ok (.istore 5, 2) ∧ decode cX12_tries 3 = .ok (.iload 5, 2) ∧ decode cX12_tries 5 = .ok (.sipush 785, 3) ∧ decode cX12_tries 8 = .ok (.if_icmp .ge 23, 3) := by decide +kernel
theorem eX12_tries_11 : decode cX12_tries 11 = .ok (.aload_n 0, 1) ∧ decode cX12_tries 12 = .ok (.getfield 137, 3) ∧ decode cX12_tries 15 = .ok (.iload 5, 2) ∧ decode cX12_tries 17 = .ok (.aload_n 0, 1) ∧ decode cX12_tries 18 = .ok (.getfield 121, 3) ∧ decode cX12_tries 21 = .ok (.iload 5, 2) ∧ decode cX12_tries 23 = .ok (.iaload, 1) ∧ decode cX12_tries 24 = .ok (.iastore, 1) := by decide +kernel
theorem eX12_tries_25 : decode cX12_tries 25 = .ok (.iinc 5 1, 3) ∧ decode cX12_tries 28 = .ok (.goto (-25), 3) ∧ decode cX12_tries 31 = .ok (.iconst 0, 1) ∧ decode cX12_tries 32 = .ok (.istore 5, 2) ∧ decode cX12_tries 34 = .ok (.iload 5, 2) ∧ decode cX12_tries 36 = .ok (.bipush 48, 2) ∧ decode cX12_tries 38 = .ok (.if_icmp .ge 23, 3) ∧ decode cX12_tries 41 = .ok (.aload_n 0, 1) := by decide +kernel
theorem eX12_tries_42 : decode cX12_tries 42 = .ok (.getfield 140, 3) ∧ decode cX12_tries 45 = .ok (.iload 5, 2) ∧ decode cX12_tries 47 = .ok (.aload_n 0, 1) ∧ decode cX12_tries 48 = .ok (.getfield 124, 3) ∧ decode cX12_tries 51 = .ok (.iload 5, 2) ∧ decode cX12_tries 53 = .ok (.baload, 1) ∧ decode cX12_tries 54 = .ok (.bastore, 1) ∧ decode cX12_tries 55 = .ok (.iinc 5 1, 3) := by decide +kernel
theorem eX12_tries_58 : decode cX12_tries 58 = .ok (.goto (-24), 3) ∧ decode cX12_tries 61 = .ok (.aload_n 0, 1) ∧ decode cX12_tries 62 = .ok (.iload_n 1, 1) ∧ decode cX12_tries 63 = .ok (.iconst 3, 1) ∧ decode cX12_tries 64 = .ok (.if_icmp .ne 17, 3) ∧ decode cX12_tries 67 = .ok (.aload_n 0, 1) ∧ decode cX12_tries 68 = .ok (.iload_n 2, 1) ∧ decode cX12_tries 69 = .ok (.iload_n 3, 1) := by decide +kernel
theorem eX12_tries_70 : decode cX12_tries 70 = .ok (.invokevirtual 559, 3) ∧ decode cX12_tries 73 = .ok (.iconst (-1), 1) ∧ decode cX12_tries 74 = .ok (.if_icmp .ne 7, 3) ∧ decode cX12_tries 77 = .ok (.iconst 1, 1) ∧ decode cX12_tries 78 = .ok (.goto 4, 3) ∧ decode cX12_tries 81 = .ok (.iconst 0, 1) ∧ decode cX12_tries 82 = .ok (.putfield 493, 3) ∧ decode cX12_tries 85 = .ok (.aload_n 0, 1) := by decide +kernel
theorem eX12_tries_86 : decode cX12_tries 86 = .ok (.getfield 493, 3) ∧ decode cX12_tries 89 = .ok (.ifCond .ne 19, 3) ∧ decode cX12_tries 92 = .ok (.iload_n 1, 1) ∧ decode cX12_tries 93 = .ok (.iconst 2, 1) ∧ decode cX12_tries 94 = .ok (.if_icmp .ne 14, 3) ∧ decode cX12_tries 97 = .ok (.aload_n 0, 1) ∧ decode cX12_tries 98 = .ok (.iload_n 2, 1) ∧ decode cX12_tries 99 = .ok (.iload_n 3, 1) := by decide +kernel
theorem eX12_tries_100 : decode cX12_tries 100 = .ok (.iload 4, 2) ∧ decode cX12_tries 102 = .ok (.invokevirtual 562, 3) ∧ decode cX12_tries 105 = .ok (.goto 16, 3) ∧ decode cX12_tries 108 = .ok (.aload_n 0, 1) ∧ decode cX12_tries 109 = .ok (.getfield 493, 3) ∧ decode cX12_tries 112 = .ok (.ifCond .ne 9, 3) ∧ decode cX12_tries 115 = .ok (.aload_n 0, 1) ∧ decode cX12_tries 116 = .ok (.iload_n 2, 1) := by decide +kernel
theorem eX12_tries_117 : decode cX12_tries 117 = .ok (.iload_n 3, 1) ∧ decode cX12_tries 118 = .ok (.invokevirtual 565, 3) ∧ decode cX12_tries 121 = .ok (.aload_n 0, 1) ∧ decode cX12_tries 122 = .ok (.getfield 493, 3) ∧ decode cX12_tries 125 = .ok (.ifCond .ne 5, 3) ∧ decode cX12_tries 128 = .ok (.iconst 1, 1) ∧ decode cX12_tries 129 = .ok (.ireturn, 1) ∧ decode cX12_tries 130 = .ok (.iconst 0, 1) := by decide +kernel
theorem eX12_tries_131 : decode cX12_tries 131 = .ok (.istore 5, 2) ∧ decode cX12_tries 133 = .ok (.iload 5, 2) ∧ decode cX12_tries 135 = .ok (.sipush 785, 3) ∧ decode cX12_tries 138 = .ok (.if_icmp .ge 23, 3) ∧ decode cX12_tries 141 = .ok (.aload_n 0, 1) ∧ decode cX12_tries 142 = .ok (.getfield 121, 3) ∧ decode cX12_tries 145 = .ok (.iload 5, 2) ∧ decode cX12_tries 147 = .ok (.aload_n 0, 1) := by decide +kernel
theorem eX12_tries_148 : decode cX12_tries 148 = .ok (.getfield 137, 3) ∧ decode cX12_tries 151 = .ok (.iload 5, 2) ∧ decode cX12_tries 153 = .ok (.iaload, 1) ∧ decode cX12_tries 154 = .ok (.iastore, 1) ∧ decode cX12_tries 155 = .ok (.iinc 5 1, 3) ∧ decode cX12_tries 158 = .ok (.goto (-25), 3) ∧ decode cX12_tries 161 = .ok (.iconst 0, 1) ∧ decode cX12_tries 162 = .ok (.istore 5, 2) := by decide +kernel
theorem eX12_tries_164 : decode cX12_tries 164 = .ok (.iload 5, 2) ∧ decode cX12_tries 166 = .ok (.bipush 48, 2) ∧ decode cX12_tries 168 = .ok (.if_icmp .ge 23, 3) ∧ decode cX12_tries 171 = .ok (.aload_n 0, 1) ∧ decode cX12_tries 172 = .ok (.getfield 124, 3) ∧ decode cX12_tries 175 = .ok (.iload 5, 2) ∧ decode cX12_tries 177 = .ok (.aload_n 0, 1) ∧ decode cX12_tries 178 = .ok (.getfield 140, 3) := by decide +kernel
theorem eX12_tries_181 : decode cX12_tries 181 = .ok (.iload 5, 2) ∧ decode cX12_tries 183 = .ok (.baload, 1) ∧ decode cX12_tries 184 = .ok (.bastore, 1) ∧ decode cX12_tries 185 = .ok (.iinc 5 1, 3) ∧ decode cX12_tries 188 = .ok (.goto (-24), 3) ∧ decode cX12_tries 191 = .ok (.aload_n 0, 1) ∧ decode cX12_tries 192 = .ok (.iconst 0, 1) ∧ decode cX12_tries 193 = .ok (.putfield 493, 3) := by decide +kernel
theorem eX12_tries_196 : decode cX12_tries 196 = .ok (.iconst 0, 1) ∧ decode cX12_tries 197 = .ok (.ireturn, 1) ∧ decode cX12_valueFrom 0 = .ok (.iload_n 1, 1) ∧ decode cX12_valueFrom 1 = .ok (.sipush 254, 3) ∧ decode cX12_valueFrom 4 = .ok (.if_icmp .lt 5, 3) ∧ decode cX12_valueFrom 7 = .ok (.iconst (-1), 1) ∧ decode cX12_valueFrom 8 = .ok (.ireturn, 1) ∧ decode cX12_valueFrom 9 = .ok (.iload_n 1, 1) := by decide +kernel
theorem eX12_valueFrom_10 : decode cX12_valueFrom 10 = .ok (.istore_n 3, 1) ∧ decode cX12_valueFrom 11 = .ok (.aload_n 0, 1) ∧ decode cX12_valueFrom 12 = .ok (.iload_n 3, 1) ∧ decode cX12_valueFrom 13 = .ok (.invokevirtual 460, 3) ∧ decode cX12_valueFrom 16 = .ok (.ifCond .le 18, 3) ∧ decode cX12_valueFrom 19 = .ok (.aload_n 0, 1) ∧ decode cX12_valueFrom 20 = .ok (.iload_n 3, 1) ∧ decode cX12_valueFrom 21 = .ok (.aload_n 0, 1) := by decide +kernel
theorem eX12_valueFrom_22 : decode cX12_valueFrom 22 = .ok (.iload_n 3, 1) ∧ decode cX12_valueFrom 23 = .ok (.iload_n 2, 1) ∧ decode cX12_valueFrom 24 = .ok (.invokevirtual 543, 3) ∧ decode cX12_valueFrom 27 = .ok (.invokevirtual 505, 3) ∧ decode cX12_valueFrom 30 = .ok (.istore_n 3, 1) ∧ decode cX12_valueFrom 31 = .ok (.goto (-20), 3) ∧ decode cX12_valueFrom 34 = .ok (.aload_n 0, 1) ∧ decode cX12_valueFrom 35 = .ok (.iload_n 3, 1) := by decide +kernel
theorem eX12_valueFrom_36 : decode cX12_valueFrom 36 = .ok (.iload_n 2, 1) ∧ decode cX12_valueFrom 37 = .ok (.invokevirtual 550, 3) ∧ decode cX12_valueFrom 40 = .ok (.istore 4, 2) ∧ decode cX12_valueFrom 42 = .ok (.iload 4, 2) ∧ decode cX12_valueFrom 44 = .ok (.aload_n 0, 1) ∧ decode cX12_valueFrom 45 = .ok (.iload_n 3, 1) ∧ decode cX12_valueFrom 46 = .ok (.invokevirtual 466, 3) ∧ decode cX12_valueFrom 49 = .ok (.if_icmp .ge 24, 3) := by decide +kernel
theorem eX12_valueFrom_52 : decode cX12_valueFrom 52 = .ok (.aload_n 0, 1) ∧ decode cX12_valueFrom 53 = .ok (.iload_n 3, 1) ∧ decode cX12_valueFrom 54 = .ok (.iload 4, 2) ∧ decode cX12_valueFrom 56 = .ok (.invokevirtual 517, 3) ∧ decode cX12_valueFrom 59 = .ok (.iload_n 2, 1) ∧ decode cX12_valueFrom 60 = .ok (.if_icmp .ne 13, 3) ∧ decode cX12_valueFrom 63 = .ok (.aload_n 0, 1) ∧ decode cX12_valueFrom 64 = .ok (.iload_n 3, 1) := by decide +kernel
theorem eX12_valueFrom_65 : decode cX12_valueFrom 65 = .ok (.iload 4, 2) ∧ decode cX12_valueFrom 67 = .ok (.invokevirtual 505, 3) ∧ decode cX12_valueFrom 70 = .ok (.goto 4, 3) ∧ decode cX12_valueFrom 73 = .ok (.iconst (-1), 1) ∧ decode cX12_valueFrom 74 = .ok (.ireturn, 1) ∧ decode cX12_valueOf 0 = .ok (.aload_n 0, 1) ∧ decode cX12_valueOf 1 = .ok (.aload_n 0, 1) ∧ decode cX12_valueOf 2 = .ok (.getfield 121, 3) := by decide +kernel
theorem eX12_valueOf_5 : decode cX12_valueOf 5 = .ok (.iload_n 1, 1) ∧ decode cX12_valueOf 6 = .ok (.iaload, 1) ∧ decode cX12_valueOf 7 = .ok (.iload_n 2, 1) ∧ decode cX12_valueOf 8 = .ok (.invokevirtual 621, 3) ∧ decode cX12_valueOf 11 = .ok (.ireturn, 1) := by decide +kernel
set_option maxHeartbeats 4000000 in
set_option maxRecDepth 100000 in
theorem k_x12_putsIn (l : Launch) (D : va_G) (a : Nat → Nat) (p0 : Int) (p1 : Int) (p2 : Int) (sz : Nat) (s : MS) (o : MS) (h : m_x12_putsIn p0 p1 p2 s = some o) : yWv l yX12_putsIn cX12_putsIn 6 none { frames := 2, cells := 0, slots := 0, locals := 120 } D sz [.ref (a 200), .int (i2 p0), .int (i2 p1), .int (i2 p2)] (RW D a s) (RW D a o) := by
  refine Met.ofW (cc := cX12_putsIn) (maxL := 6) (ret := none) (by decide) rfl ?_
  intro p e s₀ m args below meth c s₁ B hml hv
  obtain ⟨rfl, ⟨hsz, hP, hK, hD0⟩, hN⟩ := hv
  have hx := B.exec
  have hb := B.bytes
  have hr := B.returns
  have hts := atoms_spec (ws := wz yX12_putsIn cX12_putsIn 6 none) B.pre
  have ht : ∀ w ∈ lw_gd, w.before _ s₀ = true := fun w h => hts w (List.mem_cons_of_mem _ h)
  have hown : s₀.vm.findClass RX12 = some m.cls := findClass_of_methodNamed B.named
  have hlocks := B.notSynchronized
  subst hsz
  have hD := hD0.self (sz := s₀.heap.size)
  generalize hAe : va_A (RW D a s) s₀.heap.size = A at hD ⊢
  have hA : ∀ q : Nat, s₀.heap.size ≤ q → A q := fun q h => by rw [← hAe]; exact Or.inr h
  have hS : va_S A s₀.heap s₀.heap [] := va_S.rf
  have hDD : ∀ t : MS, va_D A (RW D a t) := fun t => RW_D t hD
  have hl := lv_entry ([.ref (a 200), .int (i2 p0), .int (i2 p1), .int (i2 p2)]) (n := 6) (Nat.le_of_ble_eq_true rfl)
  rw [lg_entry_eq]
  generalize (lg_sl ([.ref (a 200), .int (i2 p0), .int (i2 p1), .int (i2 p2)]) ++ List.replicate (6 - (lg_sl ([.ref (a 200), .int (i2 p0), .int (i2 p1), .int (i2 p2)])).length) Slot.unset).toArray = ls at hl ⊢
  have hl : lv_has ls 6 [(0, .ref (a 200)), (1, .int (i2 p0)), (2, .int (i2 p1)), (3, .int (i2 p2))] := hl
  unfold m_x12_putsIn at h
  refine y_head (pcJ := 73) (σ := MS) (fun u H locs ls => va_P D vwCl (RW D a u) H ∧ va_S A s₀.heap H locs ∧ lv_has ls 6 [] ∧ m_x12_putsIn_J73 u = some o) (fun u => []) (fun u H locs ls hI => ?_) (fun J73 => ?_)
  · obtain ⟨hP, hS, hl, h⟩ := hI
    obtain ⟨s1, rfl⟩ : ∃ z, z = u := ⟨u, rfl⟩
    have hP : va_P D vwCl (RW D a s1) H := hP
    have hl : lv_has ls 6 [] := hl
    have h : m_x12_putsIn_J73 s1 = some o := h
    unfold m_x12_putsIn_J73 at h
    obtain rfl := Option.some.inj h
    exact W.vret hx hb hr (fun t ht hW => ⟨⟨(), rfl, trivial, by rw [ht]; exact hP, va_K.moved hW.alike hK, hDD _⟩, hS.F ht⟩) hS.2.2 eX12_putsIn_69.2.2.1
  refine y_head (pcJ := 34) (σ := Int × Int × Int × Int × Int × MS) (fun u H locs ls => va_P D vwCl (RW D a u.2.2.2.2.2) H ∧ va_S A s₀.heap H locs ∧ lv_has ls 6 [(0, .ref (a 200)), (1, .int (i2 u.1)), (2, .int (i2 u.2.1)), (3, .int (i2 u.2.2.1)), (4, .int (i2 u.2.2.2.1))] ∧ m_x12_putsIn_J34 u.1 u.2.1 u.2.2.1 u.2.2.2.1 u.2.2.2.2.1 u.2.2.2.2.2 = some o) (fun u => [.int (i2 u.2.2.2.2.1)]) (fun u H locs ls hI => ?_) (fun J34 => ?_)
  · obtain ⟨hP, hS, hl, h⟩ := hI
    obtain ⟨x2, x3, x4, x5, x6, s7⟩ := u
    have hP : va_P D vwCl (RW D a s7) H := hP
    have hl : lv_has ls 6 [(0, .ref (a 200)), (1, .int (i2 x2)), (2, .int (i2 x3)), (3, .int (i2 x4)), (4, .int (i2 x5))] := hl
    have h : m_x12_putsIn_J34 x2 x3 x4 x5 x6 s7 = some o := h
    unfold m_x12_putsIn_J34 at h
    refine lv_istore (lv' := [(5, .int (i2 x6)), (0, .ref (a 200)), (1, .int (i2 x2)), (2, .int (i2 x3)), (3, .int (i2 x4)), (4, .int (i2 x5))]) hx hb eX12_putsIn_26.2.2.2.2.1 hl (by decide) rfl (fun ls hl => ?_)
    refine lv_iload hx hb eX12_putsIn_26.2.2.2.2.2.1 (lv_at hl 0 rfl) ?_
    obtain ⟨hr8, h⟩ := rg_e h
    refine lv_if_ne (tgt := 53) hx hb eX12_putsIn_26.2.2.2.2.2.2.1 (by decide) (fun c9 => ?_) (fun c9 => ?_)
    · have h := if_f (mt (i2_eq (x := x6) (y := 0) hr8 (by decide)).mpr c9) h
      refine lv_aload_n hx hb eX12_putsIn_42.2.2.2.2.2.2.1 rfl (lv_at hl 1 rfl) ?_
      refine lv_iload_n hx hb eX12_putsIn_42.2.2.2.2.2.2.2 rfl (lv_at hl 2 rfl) ?_
      refine lv_iload hx hb eX12_putsIn_55.1 (lv_at hl 5 rfl) ?_
      obtain ⟨r11, hc10, h⟩ := bn_e h
      refine ycV (r0 := i2 r11) (As := [.int (i2 x2), .int (i2 x5)]) (rest := []) (C := RX12) (n := 2) ⟨hx, hb, hml, hown, ht⟩ (k_x12_valueAt l D a x2 x5 _ _ hc10) (zgV ml_X12_505 im_X12_valueAt se_X12_valueAt in_X12 co_X12_valueAt) rfl rfl (by decide +kernel) ⟨Nat.le_of_ble_eq_true rfl, Nat.le_of_ble_eq_true rfl⟩ hN hK hP hS 0 RW_0 rfl rfl rfl hl.1 rfl (Nat.le_of_ble_eq_true rfl) eX12_putsIn_55.2.1 ⟨Nat.le_of_ble_eq_true rfl, Nat.le_of_ble_eq_true rfl⟩ (fun H locs hP hS => ?_)
      refine lv_iload_n hx hb eX12_putsIn_55.2.2.1 rfl (lv_at hl 4 rfl) ?_
      obtain ⟨hr12, h⟩ := rg_e h
      obtain ⟨hr13, h⟩ := rg_e h
      refine lv_icmp_eq (tgt := 73) hx hb eX12_putsIn_55.2.2.2.1 (by decide) (fun c14 => ?_) (fun c14 => ?_)
      · have h := if_t ((i2_eq (x := r11) (y := x4) hr12 hr13).mp c14) h
        exact J73 s7 _ _ _ ⟨hP, hS, lv_sub hl [] rfl, h⟩
      · have h := if_f (mt (i2_eq (x := r11) (y := x4) hr12 hr13).mpr c14) h
        refine lv_aload_n hx hb eX12_putsIn_55.2.2.2.2.1 rfl (lv_at hl 1 rfl) ?_
        refine lv_iload_n hx hb eX12_putsIn_55.2.2.2.2.2.1 rfl (lv_at hl 2 rfl) ?_
        refine lv_iload hx hb eX12_putsIn_55.2.2.2.2.2.2.1 (lv_at hl 5 rfl) ?_
        refine lv_iload_n hx hb eX12_putsIn_55.2.2.2.2.2.2.2 rfl (lv_at hl 3 rfl) ?_
        refine lv_iload_n hx hb eX12_putsIn_69.1 rfl (lv_at hl 4 rfl) ?_
        obtain ⟨s16, hc15, h⟩ := bn_e h
        refine ywVv (As := [.int (i2 x2), .int (i2 x5), .int (i2 x3), .int (i2 x4)]) (rest := []) (C := RX12) (n := 4) (ws' := RW D a s16) ⟨hx, hb, hml, hown, ht⟩ (k_x12_setsEntry l D a x2 x5 x3 x4 _ _ _ hc15) (zgV ml_X12_520 im_X12_setsEntry se_X12_setsEntry in_X12 co_X12_setsEntry) rfl rfl (by decide +kernel) ⟨Nat.le_of_ble_eq_true rfl, Nat.le_of_ble_eq_true rfl⟩ hN hK hP (hDD _) hS hA 0 RW_0 rfl rfl rfl hl.1 rfl (Nat.le_of_ble_eq_true rfl) eX12_putsIn_69.2.1 ⟨Nat.le_of_ble_eq_true rfl, Nat.le_of_ble_eq_true rfl⟩ (fun H locs hP hS => ?_)
        exact J73 s16 _ _ _ ⟨hP, hS, lv_sub hl [] rfl, h⟩
    · have h := if_t ((i2_eq (x := x6) (y := 0) hr8 (by decide)).mp c9) h
      refine lv_aload_n hx hb eX12_putsIn_26.2.2.2.2.2.2.2 rfl (lv_at hl 1 rfl) ?_
      refine lv_iload_n hx hb eX12_putsIn_42.1 rfl (lv_at hl 2 rfl) ?_
      refine lv_iload hx hb eX12_putsIn_42.2.1 (lv_at hl 5 rfl) ?_
      refine lv_iload_n hx hb eX12_putsIn_42.2.2.1 rfl (lv_at hl 3 rfl) ?_
      refine lv_iload_n hx hb eX12_putsIn_42.2.2.2.1 rfl (lv_at hl 4 rfl) ?_
      obtain ⟨s18, hc17, h⟩ := bn_e h
      refine ywVv (As := [.int (i2 x2), .int (i2 x5), .int (i2 x3), .int (i2 x4)]) (rest := []) (C := RX12) (n := 4) (ws' := RW D a s18) ⟨hx, hb, hml, hown, ht⟩ (k_x12_inserts l D a x2 x5 x3 x4 _ _ _ hc17) (zgV ml_X12_526 im_X12_inserts se_X12_inserts in_X12 co_X12_inserts) rfl rfl (by decide +kernel) ⟨Nat.le_of_ble_eq_true rfl, Nat.le_of_ble_eq_true rfl⟩ hN hK hP (hDD _) hS hA 0 RW_0 rfl rfl rfl hl.1 rfl (Nat.le_of_ble_eq_true rfl) eX12_putsIn_42.2.2.2.2.1 ⟨Nat.le_of_ble_eq_true rfl, Nat.le_of_ble_eq_true rfl⟩ (fun H locs hP hS => ?_)
      refine lv_goto (tgt := 73) hx hb eX12_putsIn_42.2.2.2.2.2.1 (by decide) ?_
      exact J73 s18 _ _ _ ⟨hP, hS, lv_sub hl [] rfl, h⟩
  refine y_head (pcJ := 33) (σ := Int × Int × Int × Int × MS) (fun u H locs ls => va_P D vwCl (RW D a u.2.2.2.2) H ∧ va_S A s₀.heap H locs ∧ lv_has ls 6 [(0, .ref (a 200)), (1, .int (i2 u.1)), (2, .int (i2 u.2.1)), (3, .int (i2 u.2.2.1)), (4, .int (i2 u.2.2.2.1))] ∧ m_x12_putsIn_J33 u.1 u.2.1 u.2.2.1 u.2.2.2.1 u.2.2.2.2 = some o) (fun u => []) (fun u H locs ls hI => ?_) (fun J33 => ?_)
  · obtain ⟨hP, hS, hl, h⟩ := hI
    obtain ⟨x19, x20, x21, x22, s23⟩ := u
    have hP : va_P D vwCl (RW D a s23) H := hP
    have hl : lv_has ls 6 [(0, .ref (a 200)), (1, .int (i2 x19)), (2, .int (i2 x20)), (3, .int (i2 x21)), (4, .int (i2 x22))] := hl
    have h : m_x12_putsIn_J33 x19 x20 x21 x22 s23 = some o := h
    unfold m_x12_putsIn_J33 at h
    refine lv_iconst (v := 0) hx hb eX12_putsIn_26.2.2.2.1 (by decide) ?_
    exact J34 (x19, x20, x21, x22, 0, s23) _ _ _ ⟨hP, hS, lv_sub hl [0, 1, 2, 3, 4] rfl, h⟩
  refine lv_aload_n hx hb eX12_puts_213.2.1 rfl (lv_at hl 0 rfl) ?_
  refine lv_iload_n hx hb eX12_puts_213.2.2.1 rfl (lv_at hl 1 rfl) ?_
  refine lv_iload_n hx hb eX12_puts_213.2.2.2.1 rfl (lv_at hl 2 rfl) ?_
  obtain ⟨r25, hc24, h⟩ := bn_e h
  refine ycV (r0 := i2 r25) (As := [.int (i2 p0), .int (i2 p1)]) (rest := []) (C := RX12) (n := 2) ⟨hx, hb, hml, hown, ht⟩ (k_x12_placeIn l D a p0 p1 _ _ hc24) (zgV ml_X12_550 im_X12_placeIn se_X12_placeIn in_X12 co_X12_placeIn) rfl rfl (by decide +kernel) ⟨Nat.le_of_ble_eq_true rfl, Nat.le_of_ble_eq_true rfl⟩ hN hK hP hS 0 RW_0 rfl rfl rfl hl.1 rfl (Nat.le_of_ble_eq_true rfl) eX12_puts_213.2.2.2.2.1 ⟨Nat.le_of_ble_eq_true rfl, Nat.le_of_ble_eq_true rfl⟩ (fun H locs hP hS => ?_)
  refine lv_istore (lv' := [(4, .int (i2 r25)), (0, .ref (a 200)), (1, .int (i2 p0)), (2, .int (i2 p1)), (3, .int (i2 p2))]) hx hb eX12_puts_213.2.2.2.2.2.1 hl (by decide) rfl (fun ls hl => ?_)
  refine lv_iload hx hb eX12_puts_213.2.2.2.2.2.2.1 (lv_at hl 0 rfl) ?_
  refine lv_aload_n hx hb eX12_puts_213.2.2.2.2.2.2.2 rfl (lv_at hl 1 rfl) ?_
  refine lv_iload_n hx hb eX12_putsIn_11.1 rfl (lv_at hl 2 rfl) ?_
  obtain ⟨r27, hc26, h⟩ := bn_e h
  refine ycV (r0 := i2 r27) (As := [.int (i2 p0)]) (rest := [.int (i2 r25)]) (C := RX12) (n := 1) ⟨hx, hb, hml, hown, ht⟩ (k_x12_entriesOf l D a p0 _ _ hc26) (zgV ml_X12_466 im_X12_entriesOf se_X12_entriesOf in_X12 co_X12_entriesOf) rfl rfl (by decide +kernel) ⟨Nat.le_of_ble_eq_true rfl, Nat.le_of_ble_eq_true rfl⟩ hN hK hP hS 0 RW_0 rfl rfl rfl hl.1 rfl (Nat.le_of_ble_eq_true rfl) eX12_putsIn_11.2.1 ⟨Nat.le_of_ble_eq_true rfl, Nat.le_of_ble_eq_true rfl⟩ (fun H locs hP hS => ?_)
  obtain ⟨hr28, h⟩ := rg_e h
  obtain ⟨hr29, h⟩ := rg_e h
  refine lv_icmp_ge (tgt := 33) hx hb eX12_putsIn_11.2.2.1 (by decide) (fun c30 => ?_) (fun c30 => ?_)
  · have h := if_t ((i2_le (x := r27) (y := r25) hr29 hr28).mp c30) h
    exact J33 (p0, p1, p2, r25, s) _ _ _ ⟨hP, hS, lv_sub hl [1, 2, 3, 4, 0] rfl, h⟩
  · have h := if_f (mt (i2_le (x := r27) (y := r25) hr29 hr28).mpr c30) h
    refine lv_aload_n hx hb eX12_putsIn_11.2.2.2.1 rfl (lv_at hl 1 rfl) ?_
    refine lv_iload_n hx hb eX12_putsIn_11.2.2.2.2.1 rfl (lv_at hl 2 rfl) ?_
    refine lv_iload hx hb eX12_putsIn_11.2.2.2.2.2.1 (lv_at hl 0 rfl) ?_
    obtain ⟨r32, hc31, h⟩ := bn_e h
    refine ycV (r0 := i2 r32) (As := [.int (i2 p0), .int (i2 r25)]) (rest := []) (C := RX12) (n := 2) ⟨hx, hb, hml, hown, ht⟩ (k_x12_keyAt l D a p0 r25 _ _ hc31) (zgV ml_X12_517 im_X12_keyAt se_X12_keyAt in_X12 co_X12_keyAt) rfl rfl (by decide +kernel) ⟨Nat.le_of_ble_eq_true rfl, Nat.le_of_ble_eq_true rfl⟩ hN hK hP hS 0 RW_0 rfl rfl rfl hl.1 rfl (Nat.le_of_ble_eq_true rfl) eX12_putsIn_11.2.2.2.2.2.2.1 ⟨Nat.le_of_ble_eq_true rfl, Nat.le_of_ble_eq_true rfl⟩ (fun H locs hP hS => ?_)
    refine lv_iload_n hx hb eX12_putsIn_11.2.2.2.2.2.2.2 rfl (lv_at hl 3 rfl) ?_
    obtain ⟨hr33, h⟩ := rg_e h
    obtain ⟨hr34, h⟩ := rg_e h
    refine lv_icmp_ne (tgt := 33) hx hb eX12_putsIn_26.1 (by decide) (fun c35 => ?_) (fun c35 => ?_)
    · have h := if_f (mt (i2_eq (x := r32) (y := p1) hr33 hr34).mpr c35) h
      exact J33 (p0, p1, p2, r25, s) _ _ _ ⟨hP, hS, lv_sub hl [1, 2, 3, 4, 0] rfl, h⟩
    · have h := if_t ((i2_eq (x := r32) (y := p1) hr33 hr34).mp c35) h
      refine lv_iconst (v := 1) hx hb eX12_putsIn_26.2.1 (by decide) ?_
      refine lv_goto (tgt := 34) hx hb eX12_putsIn_26.2.2.1 (by decide) ?_
      exact J34 (p0, p1, p2, r25, 1, s) _ _ _ ⟨hP, hS, lv_sub hl [1, 2, 3, 4, 0] rfl, h⟩
set_option maxHeartbeats 4000000 in
set_option maxRecDepth 100000 in
theorem k_x12_roomOf (l : Launch) (D : va_G) (a : Nat → Nat) (s : MS) (o : Int) (h : m_x12_roomOf s = some o) : yRi l yX12_roomOf cX12_roomOf 1 (some .int) { frames := 0, cells := 0, slots := 0, locals := 0 } D [.ref (a 200)] (RW D a s) (i2 o) := by
  refine Met.ofW (cc := cX12_roomOf) (maxL := 1) (ret := (some .int)) (by decide) rfl ?_
  intro p e s₀ m args below meth c s₁ B hml hv
  obtain ⟨rfl, ⟨hP, hK⟩, hN⟩ := hv
  have hx := B.exec
  have hb := B.bytes
  have hr := B.returns
  have hts := atoms_spec (ws := wz yX12_roomOf cX12_roomOf 1 (some .int)) B.pre
  have ht : ∀ w ∈ lw_gd, w.before _ s₀ = true := fun w h => hts w (List.mem_cons_of_mem _ h)
  have hown : s₀.vm.findClass RX12 = some m.cls := findClass_of_methodNamed B.named
  have hlocks := B.notSynchronized
  have hS : va_S (fun _ => False) s₀.heap s₀.heap [] := va_S.rf
  have hl := lv_entry ([.ref (a 200)]) (n := 1) (Nat.le_of_ble_eq_true rfl)
  rw [lg_entry_eq]
  generalize (lg_sl ([.ref (a 200)]) ++ List.replicate (1 - (lg_sl ([.ref (a 200)])).length) Slot.unset).toArray = ls at hl ⊢
  have hl : lv_has ls 1 [(0, .ref (a 200))] := hl
  unfold m_x12_roomOf at h
  refine lv_aload_n hx hb eX12_putsIn_69.2.2.2.1 rfl (lv_at hl 0 rfl) ?_
  refine va_get (D := D) (ci := 12) (v := .ref (a 39)) (C := RX12) (T := TX12) (N := 116) hx hb ht inX12 hown hK hP 0 RW_0 rfl 39 (by decide) (ht (.fieldLink RX12 102 "CloneVolumesModel" "many" "[I") fl_X12_102) (fun _ h9 => h9) mF_39 eX12_putsIn_69.2.2.2.2.1 ?_
  refine lv_bipush (v := 6) hx hb eX12_putsIn_69.2.2.2.2.2.1 (by decide) ?_
  obtain ⟨y1, ey1, iy1, h⟩ := rdI_e h
  refine ya_iald (i := 6) hx hb hK hP 30 0 RW_30 rfl (by decide) ey1 iy1 eX12_putsIn_69.2.2.2.2.2.2.1 ?_
  obtain rfl := Option.some.inj h
  exact W.iret (v := (i2 y1)) hx hb hr (fun t ht hW => ⟨⟨_, (), rfl, rfl, trivial⟩, hS.F ht⟩) hS.2.2 eX12_putsIn_69.2.2.2.2.2.2.2
set_option maxHeartbeats 4000000 in
set_option maxRecDepth 100000 in
theorem k_x12_doesSplit (l : Launch) (D : va_G) (a : Nat → Nat) (p0 : Int) (sz : Nat) (s : MS) (o : (Int × MS)) (h : m_x12_doesSplit p0 s = some o) : yWi l yX12_doesSplit cX12_doesSplit 3 (some .boolean) { frames := 5, cells := 0, slots := 0, locals := 300 } D sz [.ref (a 200), .int (i2 p0)] (RW D a s) (RW D a o.2) (i2 o.1) := by
  refine Met.ofW (cc := cX12_doesSplit) (maxL := 3) (ret := (some .boolean)) (by decide) rfl ?_
  intro p e s₀ m args below meth c s₁ B hml hv
  obtain ⟨rfl, ⟨hsz, hP, hK, hD0⟩, hN⟩ := hv
  have hx := B.exec
  have hb := B.bytes
  have hr := B.returns
  have hts := atoms_spec (ws := wz yX12_doesSplit cX12_doesSplit 3 (some .boolean)) B.pre
  have ht : ∀ w ∈ lw_gd, w.before _ s₀ = true := fun w h => hts w (List.mem_cons_of_mem _ h)
  have hown : s₀.vm.findClass RX12 = some m.cls := findClass_of_methodNamed B.named
  have hlocks := B.notSynchronized
  subst hsz
  have hD := hD0.self (sz := s₀.heap.size)
  generalize hAe : va_A (RW D a s) s₀.heap.size = A at hD ⊢
  have hA : ∀ q : Nat, s₀.heap.size ≤ q → A q := fun q h => by rw [← hAe]; exact Or.inr h
  have hS : va_S A s₀.heap s₀.heap [] := va_S.rf
  have hDD : ∀ t : MS, va_D A (RW D a t) := fun t => RW_D t hD
  have hl := lv_entry ([.ref (a 200), .int (i2 p0)]) (n := 3) (Nat.le_of_ble_eq_true rfl)
  rw [lg_entry_eq]
  generalize (lg_sl ([.ref (a 200), .int (i2 p0)]) ++ List.replicate (3 - (lg_sl ([.ref (a 200), .int (i2 p0)])).length) Slot.unset).toArray = ls at hl ⊢
  have hl : lv_has ls 3 [(0, .ref (a 200)), (1, .int (i2 p0))] := hl
  unfold m_x12_doesSplit at h
  refine y_head (pcJ := 60) (σ := Int × MS) (fun u H locs ls => va_P D vwCl (RW D a u.2) H ∧ va_S A s₀.heap H locs ∧ lv_has ls 3 [] ∧ m_x12_doesSplit_J60 u.1 u.2 = some o) (fun u => [.int (i2 u.1)]) (fun u H locs ls hI => ?_) (fun J60 => ?_)
  · obtain ⟨hP, hS, hl, h⟩ := hI
    obtain ⟨x1, s2⟩ := u
    have hP : va_P D vwCl (RW D a s2) H := hP
    have hl : lv_has ls 3 [] := hl
    have h : m_x12_doesSplit_J60 x1 s2 = some o := h
    unfold m_x12_doesSplit_J60 at h
    obtain ⟨hb3, h⟩ := bo_e h
    obtain rfl := Option.some.inj h
    exact W.zret (v := (i2 x1)) hx hb hr (bo_n hb3) (fun t ht hW => ⟨⟨_, (), rfl, rfl, by rw [ht]; exact hP, va_K.moved hW.alike hK, hDD _⟩, hS.F ht⟩) hS.2.2 eX12_doesSplit_52.2.2.2.2.1
  refine y_head (pcJ := 29) (σ := MS) (fun u H locs ls => va_P D vwCl (RW D a u) H ∧ va_S A s₀.heap H locs ∧ lv_has ls 3 [] ∧ m_x12_doesSplit_J29 u = some o) (fun u => []) (fun u H locs ls hI => ?_) (fun J29 => ?_)
  · obtain ⟨hP, hS, hl, h⟩ := hI
    obtain ⟨s4, rfl⟩ : ∃ z, z = u := ⟨u, rfl⟩
    have hP : va_P D vwCl (RW D a s4) H := hP
    have hl : lv_has ls 3 [] := hl
    have h : m_x12_doesSplit_J29 s4 = some o := h
    unfold m_x12_doesSplit_J29 at h
    refine lv_iconst (v := 0) hx hb eX12_doesSplit_26.2.1 (by decide) ?_
    obtain rfl := Option.some.inj h
    exact W.zret (v := 0) hx hb hr (by decide) (fun t ht hW => ⟨⟨_, (), rfl, rfl, by rw [ht]; exact hP, va_K.moved hW.alike hK, hDD _⟩, hS.F ht⟩) hS.2.2 eX12_doesSplit_26.2.2.1
  refine lv_aload_n hx hb eX12_doesSplit_0.1 rfl (lv_at hl 0 rfl) ?_
  refine lv_iload_n hx hb eX12_doesSplit_0.2.1 rfl (lv_at hl 1 rfl) ?_
  obtain ⟨r6, hc5, h⟩ := bn_e h
  refine ycV (r0 := i2 r6) (As := [.int (i2 p0)]) (rest := []) (C := RX12) (n := 1) ⟨hx, hb, hml, hown, ht⟩ (k_x12_entriesOf l D a p0 _ _ hc5) (zgV ml_X12_466 im_X12_entriesOf se_X12_entriesOf in_X12 co_X12_entriesOf) rfl rfl (by decide +kernel) ⟨Nat.le_of_ble_eq_true rfl, Nat.le_of_ble_eq_true rfl⟩ hN hK hP hS 0 RW_0 rfl rfl rfl hl.1 rfl (Nat.le_of_ble_eq_true rfl) eX12_doesSplit_0.2.2.1 ⟨Nat.le_of_ble_eq_true rfl, Nat.le_of_ble_eq_true rfl⟩ (fun H locs hP hS => ?_)
  refine lv_istore_n (lv' := [(2, .int (i2 r6)), (0, .ref (a 200)), (1, .int (i2 p0))]) hx hb eX12_doesSplit_0.2.2.2.1 rfl hl (by decide) rfl (fun ls hl => ?_)
  refine lv_iload_n hx hb eX12_doesSplit_0.2.2.2.2.1 rfl (lv_at hl 0 rfl) ?_
  refine lv_aload_n hx hb eX12_doesSplit_0.2.2.2.2.2.1 rfl (lv_at hl 1 rfl) ?_
  obtain ⟨r8, hc7, h⟩ := bn_e h
  refine ycV (r0 := i2 r8) (As := []) (rest := [.int (i2 r6)]) (C := RX12) (n := 0) ⟨hx, hb, hml, hown, ht⟩ (k_x12_roomOf l D a _ _ hc7) (zgV ml_X12_523 im_X12_roomOf se_X12_roomOf in_X12 co_X12_roomOf) rfl rfl (by decide +kernel) ⟨Nat.le_of_ble_eq_true rfl, Nat.le_of_ble_eq_true rfl⟩ hN hK hP hS 0 RW_0 rfl rfl rfl hl.1 rfl (Nat.le_of_ble_eq_true rfl) eX12_doesSplit_0.2.2.2.2.2.2.1 ⟨Nat.le_of_ble_eq_true rfl, Nat.le_of_ble_eq_true rfl⟩ (fun H locs hP hS => ?_)
  obtain ⟨hr9, h⟩ := rg_e h
  obtain ⟨hr10, h⟩ := rg_e h
  refine lv_icmp_lt (tgt := 16) hx hb eX12_doesSplit_0.2.2.2.2.2.2.2 (by decide) (fun c11 => ?_) (fun c11 => ?_)
  · have h := if_t ((i2_lt (x := r6) (y := r8) hr9 hr10).mp c11) h
    refine lv_iload_n hx hb eX12_doesSplit_14.2.2.1 rfl (lv_at hl 0 rfl) ?_
    refine lv_iconst (v := 2) hx hb eX12_doesSplit_14.2.2.2.1 (by decide) ?_
    obtain ⟨hr12, h⟩ := rg_e h
    refine lv_icmp_lt (tgt := 29) hx hb eX12_doesSplit_14.2.2.2.2.1 (by decide) (fun c13 => ?_) (fun c13 => ?_)
    · have h := if_t ((i2_lt (x := r6) (y := 2) hr12 (by decide)).mp c13) h
      exact J29 s _ _ _ ⟨hP, hS, lv_sub hl [] rfl, h⟩
    · have h := if_f (mt (i2_lt (x := r6) (y := 2) hr12 (by decide)).mpr c13) h
      refine lv_aload_n hx hb eX12_doesSplit_14.2.2.2.2.2.1 rfl (lv_at hl 1 rfl) ?_
      refine lv_iconst (v := 1) hx hb eX12_doesSplit_14.2.2.2.2.2.2.1 (by decide) ?_
      obtain ⟨r15, hc14, h⟩ := bn_e h
      refine ycV (r0 := i2 r15) (As := [.int 1]) (rest := []) (C := RX12) (n := 1) ⟨hx, hb, hml, hown, ht⟩ (k_x12_isCoded l D a 1 _ _ hc14) (zgV ml_X12_472 im_X12_isCoded se_X12_isCoded in_X12 co_X12_isCoded) rfl rfl (by decide +kernel) ⟨Nat.le_of_ble_eq_true rfl, Nat.le_of_ble_eq_true rfl⟩ hN hK hP hS 0 RW_0 rfl rfl rfl hl.1 rfl (Nat.le_of_ble_eq_true rfl) eX12_doesSplit_14.2.2.2.2.2.2.2 ⟨Nat.le_of_ble_eq_true rfl, Nat.le_of_ble_eq_true rfl⟩ (fun H locs hP hS => ?_)
      obtain ⟨hr16, h⟩ := rg_e h
      refine lv_if_ne (tgt := 31) hx hb eX12_doesSplit_26.1 (by decide) (fun c17 => ?_) (fun c17 => ?_)
      · have h := if_f (mt (i2_eq (x := r15) (y := 0) hr16 (by decide)).mpr c17) h
        refine lv_aload_n hx hb eX12_doesSplit_26.2.2.2.1 rfl (lv_at hl 1 rfl) ?_
        refine lv_aload_n hx hb eX12_doesSplit_26.2.2.2.2.1 rfl (lv_at hl 1 rfl) ?_
        refine lv_iload_n hx hb eX12_doesSplit_26.2.2.2.2.2.1 rfl (lv_at hl 2 rfl) ?_
        obtain ⟨r19, hc18, h⟩ := bn_e h
        refine ycV (r0 := i2 r19) (As := [.int (i2 p0)]) (rest := [.ref (a 200)]) (C := RX12) (n := 1) ⟨hx, hb, hml, hown, ht⟩ (k_x12_levelOf l D a p0 _ _ hc18) (zgV ml_X12_460 im_X12_levelOf se_X12_levelOf in_X12 co_X12_levelOf) rfl rfl (by decide +kernel) ⟨Nat.le_of_ble_eq_true rfl, Nat.le_of_ble_eq_true rfl⟩ hN hK hP hS 0 RW_0 rfl rfl rfl hl.1 rfl (Nat.le_of_ble_eq_true rfl) eX12_doesSplit_26.2.2.2.2.2.2.1 ⟨Nat.le_of_ble_eq_true rfl, Nat.le_of_ble_eq_true rfl⟩ (fun H locs hP hS => ?_)
        refine ya_put (D := D) (ci := 12) (v := .int (i2 r19)) (ty := .int) (C := RX12) (T := TX12) (N := 116) hx hb ht inX12 tyX12 tyX12_ok nmX12 hown hK hP (hDD _) hS 0 RW_0 rfl 52 (by decide) (ht (.fieldLink RX12 463 "CloneVolumesModel" "askLevel" "I") fl_X12_463) (fun _ h9 => h9) rfl (by decide +kernel) rfl rfl (by rw [mF_len]; decide) eX12_doesSplit_26.2.2.2.2.2.2.2 (RW_f52 r19) (fun H locs hP hS => ?_)
        obtain ⟨s20, hs20, h⟩ := st_e h
        rw [hs20] at hP
        refine lv_aload_n hx hb eX12_doesSplit_40.1 rfl (lv_at hl 1 rfl) ?_
        refine lv_iload_n hx hb eX12_doesSplit_40.2.1 rfl (lv_at hl 0 rfl) ?_
        refine ya_put (D := D) (ci := 12) (v := .int (i2 r6)) (ty := .int) (C := RX12) (T := TX12) (N := 116) hx hb ht inX12 tyX12 tyX12_ok nmX12 hown hK hP (hDD _) hS 0 RW_0 rfl 53 (by decide) (ht (.fieldLink RX12 469 "CloneVolumesModel" "askEntries" "I") fl_X12_469) (fun _ h9 => h9) rfl (by decide +kernel) rfl rfl (by rw [mF_len]; decide) eX12_doesSplit_40.2.2.1 (RW_f53 r6) (fun H locs hP hS => ?_)
        obtain ⟨s21, hs21, h⟩ := st_e h
        rw [hs21] at hP
        refine lv_aload_n hx hb eX12_doesSplit_40.2.2.2.1 rfl (lv_at hl 1 rfl) ?_
        refine lv_iconst (v := 1) hx hb eX12_doesSplit_40.2.2.2.2.1 (by decide) ?_
        obtain ⟨⟨rl24, s23⟩, hc22, h⟩ := bn_e h
        refine ywVl (r0 := i8 rl24) (As := [.int 1]) (rest := []) (C := RX12) (n := 1) (ws' := RW D a s23) ⟨hx, hb, hml, hown, ht⟩ (k_x12_codesTell l D a 1 _ _ _ hc22) (zgV ml_X12_475 im_X12_codesTell se_X12_codesTell in_X12 co_X12_codesTell) rfl rfl (by decide +kernel) ⟨Nat.le_of_ble_eq_true rfl, Nat.le_of_ble_eq_true rfl⟩ hN hK hP (hDD _) hS hA 0 RW_0 rfl rfl rfl hl.1 rfl (Nat.le_of_ble_eq_true rfl) eX12_doesSplit_40.2.2.2.2.2.1 ⟨Nat.le_of_ble_eq_true rfl, Nat.le_of_ble_eq_true rfl⟩ (fun H locs hP hS => ?_)
        refine lv_lconst (v := 1) hx hb eX12_doesSplit_40.2.2.2.2.2.2.1 (by decide) ?_
        refine W.lcmp hx hb eX12_doesSplit_40.2.2.2.2.2.2.2 ?_
        obtain ⟨hr25, h⟩ := rgL_e h
        refine lv_if_ne (tgt := 59) hx hb eX12_doesSplit_52.1 (by decide) (fun c26 => ?_) (fun c26 => ?_)
        · have h := if_f (mt (l_eq (x := rl24) (y := 1) hr25 (by decide)).mpr c26) h
          refine lv_iconst (v := 0) hx hb eX12_doesSplit_52.2.2.2.1 (by decide) ?_
          exact J60 (0, s23) _ _ _ ⟨hP, hS, lv_sub hl [] rfl, h⟩
        · have h := if_t ((l_eq (x := rl24) (y := 1) hr25 (by decide)).mp c26) h
          refine lv_iconst (v := 1) hx hb eX12_doesSplit_52.2.1 (by decide) ?_
          refine lv_goto (tgt := 60) hx hb eX12_doesSplit_52.2.2.1 (by decide) ?_
          exact J60 (1, s23) _ _ _ ⟨hP, hS, lv_sub hl [] rfl, h⟩
      · have h := if_t ((i2_eq (x := r15) (y := 0) hr16 (by decide)).mp c17) h
        exact J29 s _ _ _ ⟨hP, hS, lv_sub hl [] rfl, h⟩
  · have h := if_f (mt (i2_lt (x := r6) (y := r8) hr9 hr10).mpr c11) h
    refine lv_iconst (v := 1) hx hb eX12_doesSplit_14.1 (by decide) ?_
    obtain rfl := Option.some.inj h
    exact W.zret (v := 1) hx hb hr (by decide) (fun t ht hW => ⟨⟨_, (), rfl, rfl, by rw [ht]; exact hP, va_K.moved hW.alike hK, hDD _⟩, hS.F ht⟩) hS.2.2 eX12_doesSplit_14.2.1
set_option maxHeartbeats 4000000 in
set_option maxRecDepth 100000 in
theorem k_x12_half (l : Launch) (D : va_G) (a : Nat → Nat) (p0 : Int) (p1 : Int) (p2 : Int) (p3 : Int) (sz : Nat) (s : MS) (o : (Int × MS)) (h : m_x12_half p0 p1 p2 p3 s = some o) : yWi l yX12_half cX12_half 9 (some .int) { frames := 6, cells := 0, slots := 0, locals := 360 } D sz [.ref (a 200), .int (i2 p0), .int (i2 p1), .int (i2 p2), .int (i2 p3)] (RW D a s) (RW D a o.2) (i2 o.1) := by
  refine Met.ofW (cc := cX12_half) (maxL := 9) (ret := (some .int)) (by decide) rfl ?_
  intro p e s₀ m args below meth c s₁ B hml hv
  obtain ⟨rfl, ⟨hsz, hP, hK, hD0⟩, hN⟩ := hv
  have hx := B.exec
  have hb := B.bytes
  have hr := B.returns
  have hts := atoms_spec (ws := wz yX12_half cX12_half 9 (some .int)) B.pre
  have ht : ∀ w ∈ lw_gd, w.before _ s₀ = true := fun w h => hts w (List.mem_cons_of_mem _ h)
  have hown : s₀.vm.findClass RX12 = some m.cls := findClass_of_methodNamed B.named
  have hlocks := B.notSynchronized
  subst hsz
  have hD := hD0.self (sz := s₀.heap.size)
  generalize hAe : va_A (RW D a s) s₀.heap.size = A at hD ⊢
  have hA : ∀ q : Nat, s₀.heap.size ≤ q → A q := fun q h => by rw [← hAe]; exact Or.inr h
  have hS : va_S A s₀.heap s₀.heap [] := va_S.rf
  have hDD : ∀ t : MS, va_D A (RW D a t) := fun t => RW_D t hD
  have hl := lv_entry ([.ref (a 200), .int (i2 p0), .int (i2 p1), .int (i2 p2), .int (i2 p3)]) (n := 9) (Nat.le_of_ble_eq_true rfl)
  rw [lg_entry_eq]
  generalize (lg_sl ([.ref (a 200), .int (i2 p0), .int (i2 p1), .int (i2 p2), .int (i2 p3)]) ++ List.replicate (9 - (lg_sl ([.ref (a 200), .int (i2 p0), .int (i2 p1), .int (i2 p2), .int (i2 p3)])).length) Slot.unset).toArray = ls at hl ⊢
  have hl : lv_has ls 9 [(0, .ref (a 200)), (1, .int (i2 p0)), (2, .int (i2 p1)), (3, .int (i2 p2)), (4, .int (i2 p3))] := hl
  unfold m_x12_half at h
  refine y_head (pcJ := 142) (σ := Int × MS) (fun u H locs ls => va_P D vwCl (RW D a u.2) H ∧ va_S A s₀.heap H locs ∧ lv_has ls 9 [] ∧ m_x12_half_J142 u.1 u.2 = some o) (fun u => [.int (i2 u.1)]) (fun u H locs ls hI => ?_) (fun J142 => ?_)
  · obtain ⟨hP, hS, hl, h⟩ := hI
    obtain ⟨x1, s2⟩ := u
    have hP : va_P D vwCl (RW D a s2) H := hP
    have hl : lv_has ls 9 [] := hl
    have h : m_x12_half_J142 x1 s2 = some o := h
    unfold m_x12_half_J142 at h
    obtain rfl := Option.some.inj h
    exact W.iret (v := (i2 x1)) hx hb hr (fun t ht hW => ⟨⟨_, (), rfl, rfl, by rw [ht]; exact hP, va_K.moved hW.alike hK, hDD _⟩, hS.F ht⟩) hS.2.2 eX12_half_142.1
  refine y_loop (pcJ := 43) (σ := Int × Int × Int × Int × Int × Int × Int × Int × MS) (fun n u H locs ls => va_P D vwCl (RW D a u.2.2.2.2.2.2.2.2) H ∧ va_S A s₀.heap H locs ∧ lv_has ls 9 [(0, .ref (a 200)), (1, .int (i2 u.1)), (2, .int (i2 u.2.1)), (3, .int (i2 u.2.2.1)), (4, .int (i2 u.2.2.2.1)), (5, .int (i2 u.2.2.2.2.1)), (6, .int (i2 u.2.2.2.2.2.1)), (7, .int (i2 u.2.2.2.2.2.2.1)), (8, .int (i2 u.2.2.2.2.2.2.2.1))] ∧ m_x12_half_L43 n u.1 u.2.1 u.2.2.1 u.2.2.2.1 u.2.2.2.2.1 u.2.2.2.2.2.1 u.2.2.2.2.2.2.1 u.2.2.2.2.2.2.2.1 u.2.2.2.2.2.2.2.2 = some o) (fun u => []) (fun u H locs ls hI => by obtain ⟨_, _, _, h⟩ := hI; cases h) (fun n43 ih43 u H locs ls hI => ?_) (fun J43 => ?_)
  · obtain ⟨hP, hS, hl, h⟩ := hI
    obtain ⟨x3, x4, x5, x6, x7, x8, x9, x10, s11⟩ := u
    have hP : va_P D vwCl (RW D a s11) H := hP
    have hl : lv_has ls 9 [(0, .ref (a 200)), (1, .int (i2 x3)), (2, .int (i2 x4)), (3, .int (i2 x5)), (4, .int (i2 x6)), (5, .int (i2 x7)), (6, .int (i2 x8)), (7, .int (i2 x9)), (8, .int (i2 x10))] := hl
    have h : m_x12_half_b43 (m_x12_half_L43 n43) x3 x4 x5 x6 x7 x8 x9 x10 s11 = some o := h
    unfold m_x12_half_b43 at h
    refine lv_iload hx hb eX12_half_31.2.2.2.2.2.2.2 (lv_at hl 8 rfl) ?_
    refine lv_iload hx hb eX12_half_45.1 (lv_at hl 6 rfl) ?_
    obtain ⟨hr12, h⟩ := rg_e h
    obtain ⟨hr13, h⟩ := rg_e h
    refine lv_icmp_ge (tgt := 84) hx hb eX12_half_45.2.1 (by decide) (fun c14 => ?_) (fun c14 => ?_)
    · have h := if_t ((i2_le (x := x8) (y := x10) hr13 hr12).mp c14) h
      refine lv_aload_n hx hb eX12_half_72.2.2.2.2.1 rfl (lv_at hl 0 rfl) ?_
      refine va_get (D := D) (ci := 12) (v := .ref (a 49)) (C := RX12) (T := TX12) (N := 116) hx hb ht inX12 hown hK hP 0 RW_0 rfl 49 (by decide) (ht (.fieldLink RX12 121 "CloneVolumesModel" "now" "[I") fl_X12_121) (fun _ h9 => h9) mF_49 eX12_half_72.2.2.2.2.2.1 ?_
      refine lv_bipush (v := 17) hx hb eX12_half_72.2.2.2.2.2.2.1 (by decide) ?_
      refine lv_bipush (v := 16) hx hb eX12_half_72.2.2.2.2.2.2.2 (by decide) ?_
      refine lv_iload_n hx hb eX12_half_92.1 rfl (lv_at hl 3 rfl) ?_
      refine lv_imul hx hb eX12_half_92.2.1 ?_
      refine z_topi (y := i2 (16 * x5)) (i2_mul 16 x5) ?_
      refine lv_iadd hx hb eX12_half_92.2.2.1 ?_
      refine z_topi (y := i2 (17 + (16 * x5))) (i2_add 17 (16 * x5)) ?_
      refine lv_iconst (v := 3) hx hb eX12_half_92.2.2.2.1 (by decide) ?_
      refine lv_iadd hx hb eX12_half_92.2.2.2.2.1 ?_
      refine z_topi (y := i2 ((17 + (16 * x5)) + 3)) (i2_add (17 + (16 * x5)) 3) ?_
      refine lv_iload hx hb eX12_half_92.2.2.2.2.2.1 (lv_at hl 7 rfl) ?_
      obtain ⟨hi15, h⟩ := inb_e h
      refine ya_iast (i := ((17 + (16 * x5)) + 3)) (x := x9) hx hb hK hP (hDD _) hS 36 0 RW_36 rfl (by decide) hi15 eX12_half_92.2.2.2.2.2.2.1 (RW_w36 _) (fun H locs hP hS => ?_)
      obtain ⟨s16, hs16, h⟩ := st_e h
      rw [hs16] at hP
      refine lv_aload_n hx hb eX12_half_92.2.2.2.2.2.2.2 rfl (lv_at hl 0 rfl) ?_
      refine va_get (D := D) (ci := 12) (v := .ref (a 54)) (C := RX12) (T := TX12) (N := 116) hx hb ht inX12 hown hK hP 0 RW_0 rfl 54 (by decide) (ht (.fieldLink RX12 124 "CloneVolumesModel" "isTouched" "[Z") fl_X12_124) (fun _ h9 => h9) mF_54 eX12_half_101.1 ?_
      refine lv_iload_n hx hb eX12_half_101.2.1 rfl (lv_at hl 3 rfl) ?_
      refine lv_iconst (v := 1) hx hb eX12_half_101.2.2.1 (by decide) ?_
      obtain ⟨hi17, h⟩ := inb_e h
      obtain ⟨hb18, h⟩ := bo_e h
      refine ya_zast (i := x5) (x := 1) hx hb hK hP (hDD _) hS 37 3 RW_37 rfl (by decide) hi17 hb18 eX12_half_101.2.2.2.1 (RW_w37 _) (fun H locs hP hS => ?_)
      obtain ⟨s19, hs19, h⟩ := st_e h
      rw [hs19] at hP
      refine lv_aload_n hx hb eX12_half_101.2.2.2.2.1 rfl (lv_at hl 0 rfl) ?_
      refine lv_iload_n hx hb eX12_half_101.2.2.2.2.2.1 rfl (lv_at hl 1 rfl) ?_
      refine lv_iload_n hx hb eX12_half_101.2.2.2.2.2.2.1 rfl (lv_at hl 2 rfl) ?_
      refine lv_iconst (v := 1) hx hb eX12_half_101.2.2.2.2.2.2.2 (by decide) ?_
      refine lv_iadd hx hb eX12_half_111.1 ?_
      refine z_topi (y := i2 (x4 + 1)) (i2_add x4 1) ?_
      refine lv_aload_n hx hb eX12_half_111.2.1 rfl (lv_at hl 0 rfl) ?_
      refine lv_iload hx hb eX12_half_111.2.2.1 (lv_at hl 5 rfl) ?_
      refine lv_iconst (v := 0) hx hb eX12_half_111.2.2.2.1 (by decide) ?_
      obtain ⟨r21, hc20, h⟩ := bn_e h
      refine ycV (r0 := i2 r21) (As := [.int (i2 x7), .int 0]) (rest := [.int (i2 (x4 + 1)), .int (i2 x3), .ref (a 200)]) (C := RX12) (n := 2) ⟨hx, hb, hml, hown, ht⟩ (k_x12_keyAt l D a x7 0 _ _ hc20) (zgV ml_X12_517 im_X12_keyAt se_X12_keyAt in_X12 co_X12_keyAt) rfl rfl (by decide +kernel) ⟨Nat.le_of_ble_eq_true rfl, Nat.le_of_ble_eq_true rfl⟩ hN hK hP hS 0 RW_0 rfl rfl rfl hl.1 rfl (Nat.le_of_ble_eq_true rfl) eX12_half_111.2.2.2.2.1 ⟨Nat.le_of_ble_eq_true rfl, Nat.le_of_ble_eq_true rfl⟩ (fun H locs hP hS => ?_)
      refine lv_iload hx hb eX12_half_111.2.2.2.2.2.1 (lv_at hl 5 rfl) ?_
      obtain ⟨s23, hc22, h⟩ := bn_e h
      refine ywVv (As := [.int (i2 x3), .int (i2 (x4 + 1)), .int (i2 r21), .int (i2 x7)]) (rest := []) (C := RX12) (n := 4) (ws' := RW D a s23) ⟨hx, hb, hml, hown, ht⟩ (k_x12_inserts l D a x3 (x4 + 1) r21 x7 _ _ _ hc22) (zgV ml_X12_526 im_X12_inserts se_X12_inserts in_X12 co_X12_inserts) rfl rfl (by decide +kernel) ⟨Nat.le_of_ble_eq_true rfl, Nat.le_of_ble_eq_true rfl⟩ hN hK hP (hDD _) hS hA 0 RW_0 rfl rfl rfl hl.1 rfl (Nat.le_of_ble_eq_true rfl) eX12_half_111.2.2.2.2.2.2.1 ⟨Nat.le_of_ble_eq_true rfl, Nat.le_of_ble_eq_true rfl⟩ (fun H locs hP hS => ?_)
      refine lv_aload_n hx hb eX12_half_111.2.2.2.2.2.2.2 rfl (lv_at hl 0 rfl) ?_
      refine lv_iload hx hb eX12_half_125.1 (lv_at hl 5 rfl) ?_
      refine lv_iconst (v := 0) hx hb eX12_half_125.2.1 (by decide) ?_
      obtain ⟨r25, hc24, h⟩ := bn_e h
      refine ycV (r0 := i2 r25) (As := [.int (i2 x7), .int 0]) (rest := []) (C := RX12) (n := 2) ⟨hx, hb, hml, hown, ht⟩ (k_x12_keyAt l D a x7 0 _ _ hc24) (zgV ml_X12_517 im_X12_keyAt se_X12_keyAt in_X12 co_X12_keyAt) rfl rfl (by decide +kernel) ⟨Nat.le_of_ble_eq_true rfl, Nat.le_of_ble_eq_true rfl⟩ hN hK hP hS 0 RW_0 rfl rfl rfl hl.1 rfl (Nat.le_of_ble_eq_true rfl) eX12_half_125.2.2.1 ⟨Nat.le_of_ble_eq_true rfl, Nat.le_of_ble_eq_true rfl⟩ (fun H locs hP hS => ?_)
      refine lv_iload hx hb eX12_half_125.2.2.2.1 (lv_at hl 4 rfl) ?_
      obtain ⟨hr26, h⟩ := rg_e h
      obtain ⟨hr27, h⟩ := rg_e h
      refine lv_icmp_gt (tgt := 141) hx hb eX12_half_125.2.2.2.2.1 (by decide) (fun c28 => ?_) (fun c28 => ?_)
      · have h := if_t ((i2_lt (x := x6) (y := r25) hr27 hr26).mp c28) h
        refine lv_iload_n hx hb eX12_half_125.2.2.2.2.2.2.2 rfl (lv_at hl 3 rfl) ?_
        exact J142 (x5, s23) _ _ _ ⟨hP, hS, lv_sub hl [] rfl, h⟩
      · have h := if_f (mt (i2_lt (x := x6) (y := r25) hr27 hr26).mpr c28) h
        refine lv_iload hx hb eX12_half_125.2.2.2.2.2.1 (lv_at hl 5 rfl) ?_
        refine lv_goto (tgt := 142) hx hb eX12_half_125.2.2.2.2.2.2.1 (by decide) ?_
        exact J142 (x7, s23) _ _ _ ⟨hP, hS, lv_sub hl [] rfl, h⟩
    · have h := if_f (mt (i2_le (x := x8) (y := x10) hr13 hr12).mpr c14) h
      refine lv_aload_n hx hb eX12_half_45.2.2.1 rfl (lv_at hl 0 rfl) ?_
      refine lv_iload hx hb eX12_half_45.2.2.2.1 (lv_at hl 5 rfl) ?_
      refine lv_iload hx hb eX12_half_45.2.2.2.2.1 (lv_at hl 8 rfl) ?_
      refine lv_aload_n hx hb eX12_half_45.2.2.2.2.2.1 rfl (lv_at hl 0 rfl) ?_
      refine lv_iload_n hx hb eX12_half_45.2.2.2.2.2.2.1 rfl (lv_at hl 3 rfl) ?_
      refine lv_iload hx hb eX12_half_45.2.2.2.2.2.2.2 (lv_at hl 7 rfl) ?_
      refine lv_iload hx hb eX12_half_59.1 (lv_at hl 8 rfl) ?_
      refine lv_iadd hx hb eX12_half_59.2.1 ?_
      refine z_topi (y := i2 (x9 + x10)) (i2_add x9 x10) ?_
      obtain ⟨r30, hc29, h⟩ := bn_e h
      refine ycV (r0 := i2 r30) (As := [.int (i2 x5), .int (i2 (x9 + x10))]) (rest := [.int (i2 x10), .int (i2 x7), .ref (a 200)]) (C := RX12) (n := 2) ⟨hx, hb, hml, hown, ht⟩ (k_x12_keyAt l D a x5 (x9 + x10) _ _ hc29) (zgV ml_X12_517 im_X12_keyAt se_X12_keyAt in_X12 co_X12_keyAt) rfl rfl (by decide +kernel) ⟨Nat.le_of_ble_eq_true rfl, Nat.le_of_ble_eq_true rfl⟩ hN hK hP hS 0 RW_0 rfl rfl rfl hl.1 rfl (Nat.le_of_ble_eq_true rfl) eX12_half_59.2.2.1 ⟨Nat.le_of_ble_eq_true rfl, Nat.le_of_ble_eq_true rfl⟩ (fun H locs hP hS => ?_)
      refine lv_aload_n hx hb eX12_half_59.2.2.2.1 rfl (lv_at hl 0 rfl) ?_
      refine lv_iload_n hx hb eX12_half_59.2.2.2.2.1 rfl (lv_at hl 3 rfl) ?_
      refine lv_iload hx hb eX12_half_59.2.2.2.2.2.1 (lv_at hl 7 rfl) ?_
      refine lv_iload hx hb eX12_half_59.2.2.2.2.2.2.1 (lv_at hl 8 rfl) ?_
      refine lv_iadd hx hb eX12_half_59.2.2.2.2.2.2.2 ?_
      refine z_topi (y := i2 (x9 + x10)) (i2_add x9 x10) ?_
      obtain ⟨r32, hc31, h⟩ := bn_e h
      refine ycV (r0 := i2 r32) (As := [.int (i2 x5), .int (i2 (x9 + x10))]) (rest := [.int (i2 r30), .int (i2 x10), .int (i2 x7), .ref (a 200)]) (C := RX12) (n := 2) ⟨hx, hb, hml, hown, ht⟩ (k_x12_valueAt l D a x5 (x9 + x10) _ _ hc31) (zgV ml_X12_505 im_X12_valueAt se_X12_valueAt in_X12 co_X12_valueAt) rfl rfl (by decide +kernel) ⟨Nat.le_of_ble_eq_true rfl, Nat.le_of_ble_eq_true rfl⟩ hN hK hP hS 0 RW_0 rfl rfl rfl hl.1 rfl (Nat.le_of_ble_eq_true rfl) eX12_half_72.1 ⟨Nat.le_of_ble_eq_true rfl, Nat.le_of_ble_eq_true rfl⟩ (fun H locs hP hS => ?_)
      obtain ⟨s34, hc33, h⟩ := bn_e h
      refine ywVv (As := [.int (i2 x7), .int (i2 x10), .int (i2 r30), .int (i2 r32)]) (rest := []) (C := RX12) (n := 4) (ws' := RW D a s34) ⟨hx, hb, hml, hown, ht⟩ (k_x12_inserts l D a x7 x10 r30 r32 _ _ _ hc33) (zgV ml_X12_526 im_X12_inserts se_X12_inserts in_X12 co_X12_inserts) rfl rfl (by decide +kernel) ⟨Nat.le_of_ble_eq_true rfl, Nat.le_of_ble_eq_true rfl⟩ hN hK hP (hDD _) hS hA 0 RW_0 rfl rfl rfl hl.1 rfl (Nat.le_of_ble_eq_true rfl) eX12_half_72.2.1 ⟨Nat.le_of_ble_eq_true rfl, Nat.le_of_ble_eq_true rfl⟩ (fun H locs hP hS => ?_)
      refine lv_iinc (v := i2 (x10 + 1)) (lv' := [(8, .int (i2 (x10 + 1))), (0, .ref (a 200)), (1, .int (i2 x3)), (2, .int (i2 x4)), (3, .int (i2 x5)), (4, .int (i2 x6)), (5, .int (i2 x7)), (6, .int (i2 x8)), (7, .int (i2 x9))]) hx hb eX12_half_72.2.2.1 hl (k := 8) rfl (i2_add x10 1) (by decide) rfl (fun ls hl => ?_)
      refine lv_goto (tgt := 43) hx hb eX12_half_72.2.2.2.1 (by decide) ?_
      exact ih43 (x3, x4, x5, x6, x7, x8, x9, x10 + 1, s34) _ _ _ ⟨hP, hS, lv_sub hl [1, 2, 3, 4, 5, 6, 7, 8, 0] rfl, h⟩
  refine lv_aload_n hx hb eX12_doesSplit_52.2.2.2.2.2.1 rfl (lv_at hl 0 rfl) ?_
  refine lv_aload_n hx hb eX12_doesSplit_52.2.2.2.2.2.2.1 rfl (lv_at hl 0 rfl) ?_
  refine lv_iload_n hx hb eX12_doesSplit_52.2.2.2.2.2.2.2 rfl (lv_at hl 3 rfl) ?_
  obtain ⟨r36, hc35, h⟩ := bn_e h
  refine ycV (r0 := i2 r36) (As := [.int (i2 p2)]) (rest := [.ref (a 200)]) (C := RX12) (n := 1) ⟨hx, hb, hml, hown, ht⟩ (k_x12_levelOf l D a p2 _ _ hc35) (zgV ml_X12_460 im_X12_levelOf se_X12_levelOf in_X12 co_X12_levelOf) rfl rfl (by decide +kernel) ⟨Nat.le_of_ble_eq_true rfl, Nat.le_of_ble_eq_true rfl⟩ hN hK hP hS 0 RW_0 rfl rfl rfl hl.1 rfl (Nat.le_of_ble_eq_true rfl) eX12_half_3.1 ⟨Nat.le_of_ble_eq_true rfl, Nat.le_of_ble_eq_true rfl⟩ (fun H locs hP hS => ?_)
  refine lv_iload_n hx hb eX12_half_3.2.1 rfl (lv_at hl 3 rfl) ?_
  obtain ⟨⟨r39, s38⟩, hc37, h⟩ := bn_e h
  refine ywV (r0 := i2 r39) (As := [.int (i2 r36), .int (i2 p2)]) (rest := []) (C := RX12) (n := 2) (ws' := RW D a s38) ⟨hx, hb, hml, hown, ht⟩ (k_x12_taken l D a r36 p2 _ _ _ hc37) (zgV ml_X12_511 im_X12_taken se_X12_taken in_X12 co_X12_taken) rfl rfl (by decide +kernel) ⟨Nat.le_of_ble_eq_true rfl, Nat.le_of_ble_eq_true rfl⟩ hN hK hP (hDD _) hS hA 0 RW_0 rfl rfl rfl hl.1 rfl (Nat.le_of_ble_eq_true rfl) eX12_half_3.2.2.1 ⟨Nat.le_of_ble_eq_true rfl, Nat.le_of_ble_eq_true rfl⟩ (fun H locs hP hS => ?_)
  refine lv_istore (lv' := [(5, .int (i2 r39)), (0, .ref (a 200)), (1, .int (i2 p0)), (2, .int (i2 p1)), (3, .int (i2 p2)), (4, .int (i2 p3))]) hx hb eX12_half_3.2.2.2.1 hl (by decide) rfl (fun ls hl => ?_)
  refine lv_aload_n hx hb eX12_half_3.2.2.2.2.1 rfl (lv_at hl 1 rfl) ?_
  refine va_get (D := D) (ci := 12) (v := .int (i2 (gI s38 55))) (C := RX12) (T := TX12) (N := 116) hx hb ht inX12 hown hK hP 0 RW_0 rfl 55 (by decide) (ht (.fieldLink RX12 493 "CloneVolumesModel" "isFull" "Z") fl_X12_493) (fun _ h9 => h9) mF_55 eX12_half_3.2.2.2.2.2.1 ?_
  obtain ⟨hr40, h⟩ := rg_e h
  refine lv_if_eq (tgt := 21) hx hb eX12_half_3.2.2.2.2.2.2.1 (by decide) (fun c41 => ?_) (fun c41 => ?_)
  · have h := if_t ((i2_eq (x := (gI s38 55)) (y := 0) hr40 (by decide)).mp c41) h
    refine lv_aload_n hx hb eX12_half_20.2.1 rfl (lv_at hl 1 rfl) ?_
    refine lv_iload_n hx hb eX12_half_20.2.2.1 rfl (lv_at hl 4 rfl) ?_
    obtain ⟨r43, hc42, h⟩ := bn_e h
    refine ycV (r0 := i2 r43) (As := [.int (i2 p2)]) (rest := []) (C := RX12) (n := 1) ⟨hx, hb, hml, hown, ht⟩ (k_x12_entriesOf l D a p2 _ _ hc42) (zgV ml_X12_466 im_X12_entriesOf se_X12_entriesOf in_X12 co_X12_entriesOf) rfl rfl (by decide +kernel) ⟨Nat.le_of_ble_eq_true rfl, Nat.le_of_ble_eq_true rfl⟩ hN hK hP hS 0 RW_0 rfl rfl rfl hl.1 rfl (Nat.le_of_ble_eq_true rfl) eX12_half_20.2.2.2.1 ⟨Nat.le_of_ble_eq_true rfl, Nat.le_of_ble_eq_true rfl⟩ (fun H locs hP hS => ?_)
    refine lv_iconst (v := 2) hx hb eX12_half_20.2.2.2.2.1 (by decide) ?_
    obtain ⟨hn44, h⟩ := dv_e h
    refine lv_idiv hx hb eX12_half_20.2.2.2.2.2.1 (dv_nz hn44) ?_
    refine z_topi (y := i2 (Int.tdiv r43 2)) (by rw [show (2 : Int32) = i2 2 from by decide +kernel]; exact dv_d hn44) ?_
    refine lv_istore (lv' := [(6, .int (i2 (Int.tdiv r43 2))), (5, .int (i2 r39)), (0, .ref (a 200)), (1, .int (i2 p0)), (2, .int (i2 p1)), (3, .int (i2 p2)), (4, .int (i2 p3))]) hx hb eX12_half_20.2.2.2.2.2.2.1 hl (by decide) rfl (fun ls hl => ?_)
    refine lv_aload_n hx hb eX12_half_20.2.2.2.2.2.2.2 rfl (lv_at hl 2 rfl) ?_
    refine lv_iload_n hx hb eX12_half_31.1 rfl (lv_at hl 5 rfl) ?_
    obtain ⟨r46, hc45, h⟩ := bn_e h
    refine ycV (r0 := i2 r46) (As := [.int (i2 p2)]) (rest := []) (C := RX12) (n := 1) ⟨hx, hb, hml, hown, ht⟩ (k_x12_entriesOf l D a p2 _ _ hc45) (zgV ml_X12_466 im_X12_entriesOf se_X12_entriesOf in_X12 co_X12_entriesOf) rfl rfl (by decide +kernel) ⟨Nat.le_of_ble_eq_true rfl, Nat.le_of_ble_eq_true rfl⟩ hN hK hP hS 0 RW_0 rfl rfl rfl hl.1 rfl (Nat.le_of_ble_eq_true rfl) eX12_half_31.2.1 ⟨Nat.le_of_ble_eq_true rfl, Nat.le_of_ble_eq_true rfl⟩ (fun H locs hP hS => ?_)
    refine lv_iload hx hb eX12_half_31.2.2.1 (lv_at hl 0 rfl) ?_
    refine lv_isub hx hb eX12_half_31.2.2.2.1 ?_
    refine z_topi (y := i2 (r46 - (Int.tdiv r43 2))) (i2_sub r46 (Int.tdiv r43 2)) ?_
    refine lv_istore (lv' := [(7, .int (i2 (r46 - (Int.tdiv r43 2)))), (6, .int (i2 (Int.tdiv r43 2))), (5, .int (i2 r39)), (0, .ref (a 200)), (1, .int (i2 p0)), (2, .int (i2 p1)), (3, .int (i2 p2)), (4, .int (i2 p3))]) hx hb eX12_half_31.2.2.2.2.1 hl (by decide) rfl (fun ls hl => ?_)
    refine lv_iconst (v := 0) hx hb eX12_half_31.2.2.2.2.2.1 (by decide) ?_
    refine lv_istore (lv' := [(8, .int 0), (7, .int (i2 (r46 - (Int.tdiv r43 2)))), (6, .int (i2 (Int.tdiv r43 2))), (5, .int (i2 r39)), (0, .ref (a 200)), (1, .int (i2 p0)), (2, .int (i2 p1)), (3, .int (i2 p2)), (4, .int (i2 p3))]) hx hb eX12_half_31.2.2.2.2.2.2.1 hl (by decide) rfl (fun ls hl => ?_)
    exact J43 FU (p0, p1, p2, p3, r39, Int.tdiv r43 2, r46 - (Int.tdiv r43 2), 0, s38) _ _ _ ⟨hP, hS, lv_sub hl [4, 5, 6, 7, 8, 3, 2, 1, 0] rfl, h⟩
  · have h := if_f (mt (i2_eq (x := (gI s38 55)) (y := 0) hr40 (by decide)).mpr c41) h
    refine lv_iload_n hx hb eX12_half_3.2.2.2.2.2.2.2 rfl (lv_at hl 4 rfl) ?_
    obtain rfl := Option.some.inj h
    exact W.iret (v := (i2 p2)) hx hb hr (fun t ht hW => ⟨⟨_, (), rfl, rfl, by rw [ht]; exact hP, va_K.moved hW.alike hK, hDD _⟩, hS.F ht⟩) hS.2.2 eX12_half_20.1
set_option maxHeartbeats 4000000 in
set_option maxRecDepth 100000 in
theorem k_x12_rootSplit (l : Launch) (D : va_G) (a : Nat → Nat) (p0 : Int) (p1 : Int) (p2 : Int) (sz : Nat) (s : MS) (o : (Int × MS)) (h : m_x12_rootSplit p0 p1 p2 s = some o) : yWi l yX12_rootSplit cX12_rootSplit 5 (some .int) { frames := 7, cells := 0, slots := 0, locals := 420 } D sz [.ref (a 200), .int (i2 p0), .int (i2 p1), .int (i2 p2)] (RW D a s) (RW D a o.2) (i2 o.1) := by
  refine Met.ofW (cc := cX12_rootSplit) (maxL := 5) (ret := (some .int)) (by decide) rfl ?_
  intro p e s₀ m args below meth c s₁ B hml hv
  obtain ⟨rfl, ⟨hsz, hP, hK, hD0⟩, hN⟩ := hv
  have hx := B.exec
  have hb := B.bytes
  have hr := B.returns
  have hts := atoms_spec (ws := wz yX12_rootSplit cX12_rootSplit 5 (some .int)) B.pre
  have ht : ∀ w ∈ lw_gd, w.before _ s₀ = true := fun w h => hts w (List.mem_cons_of_mem _ h)
  have hown : s₀.vm.findClass RX12 = some m.cls := findClass_of_methodNamed B.named
  have hlocks := B.notSynchronized
  subst hsz
  have hD := hD0.self (sz := s₀.heap.size)
  generalize hAe : va_A (RW D a s) s₀.heap.size = A at hD ⊢
  have hA : ∀ q : Nat, s₀.heap.size ≤ q → A q := fun q h => by rw [← hAe]; exact Or.inr h
  have hS : va_S A s₀.heap s₀.heap [] := va_S.rf
  have hDD : ∀ t : MS, va_D A (RW D a t) := fun t => RW_D t hD
  have hl := lv_entry ([.ref (a 200), .int (i2 p0), .int (i2 p1), .int (i2 p2)]) (n := 5) (Nat.le_of_ble_eq_true rfl)
  rw [lg_entry_eq]
  generalize (lg_sl ([.ref (a 200), .int (i2 p0), .int (i2 p1), .int (i2 p2)]) ++ List.replicate (5 - (lg_sl ([.ref (a 200), .int (i2 p0), .int (i2 p1), .int (i2 p2)])).length) Slot.unset).toArray = ls at hl ⊢
  have hl : lv_has ls 5 [(0, .ref (a 200)), (1, .int (i2 p0)), (2, .int (i2 p1)), (3, .int (i2 p2))] := hl
  unfold m_x12_rootSplit at h
  refine lv_aload_n hx hb eX12_rootSplit_0.1 rfl (lv_at hl 0 rfl) ?_
  refine lv_aload_n hx hb eX12_rootSplit_0.2.1 rfl (lv_at hl 0 rfl) ?_
  refine lv_iload_n hx hb eX12_rootSplit_0.2.2.1 rfl (lv_at hl 2 rfl) ?_
  obtain ⟨r2, hc1, h⟩ := bn_e h
  refine ycV (r0 := i2 r2) (As := [.int (i2 p1)]) (rest := [.ref (a 200)]) (C := RX12) (n := 1) ⟨hx, hb, hml, hown, ht⟩ (k_x12_levelOf l D a p1 _ _ hc1) (zgV ml_X12_460 im_X12_levelOf se_X12_levelOf in_X12 co_X12_levelOf) rfl rfl (by decide +kernel) ⟨Nat.le_of_ble_eq_true rfl, Nat.le_of_ble_eq_true rfl⟩ hN hK hP hS 0 RW_0 rfl rfl rfl hl.1 rfl (Nat.le_of_ble_eq_true rfl) eX12_rootSplit_0.2.2.2.1 ⟨Nat.le_of_ble_eq_true rfl, Nat.le_of_ble_eq_true rfl⟩ (fun H locs hP hS => ?_)
  refine lv_iconst (v := 1) hx hb eX12_rootSplit_0.2.2.2.2.1 (by decide) ?_
  refine lv_iadd hx hb eX12_rootSplit_0.2.2.2.2.2.1 ?_
  refine z_topi (y := i2 (r2 + 1)) (i2_add r2 1) ?_
  refine lv_bipush (v := 48) hx hb eX12_rootSplit_0.2.2.2.2.2.2.1 (by decide) ?_
  obtain ⟨⟨r5, s4⟩, hc3, h⟩ := bn_e h
  refine ywV (r0 := i2 r5) (As := [.int (i2 (r2 + 1)), .int 48]) (rest := []) (C := RX12) (n := 2) (ws' := RW D a s4) ⟨hx, hb, hml, hown, ht⟩ (k_x12_taken l D a (r2 + 1) 48 _ _ _ hc3) (zgV ml_X12_511 im_X12_taken se_X12_taken in_X12 co_X12_taken) rfl rfl (by decide +kernel) ⟨Nat.le_of_ble_eq_true rfl, Nat.le_of_ble_eq_true rfl⟩ hN hK hP (hDD _) hS hA 0 RW_0 rfl rfl rfl hl.1 rfl (Nat.le_of_ble_eq_true rfl) eX12_rootSplit_0.2.2.2.2.2.2.2 ⟨Nat.le_of_ble_eq_true rfl, Nat.le_of_ble_eq_true rfl⟩ (fun H locs hP hS => ?_)
  refine lv_istore (lv' := [(4, .int (i2 r5)), (0, .ref (a 200)), (1, .int (i2 p0)), (2, .int (i2 p1)), (3, .int (i2 p2))]) hx hb eX12_rootSplit_13.1 hl (by decide) rfl (fun ls hl => ?_)
  refine lv_aload_n hx hb eX12_rootSplit_13.2.1 rfl (lv_at hl 1 rfl) ?_
  refine va_get (D := D) (ci := 12) (v := .int (i2 (gI s4 55))) (C := RX12) (T := TX12) (N := 116) hx hb ht inX12 hown hK hP 0 RW_0 rfl 55 (by decide) (ht (.fieldLink RX12 493 "CloneVolumesModel" "isFull" "Z") fl_X12_493) (fun _ h9 => h9) mF_55 eX12_rootSplit_13.2.2.1 ?_
  obtain ⟨hr6, h⟩ := rg_e h
  refine lv_if_eq (tgt := 24) hx hb eX12_rootSplit_13.2.2.2.1 (by decide) (fun c7 => ?_) (fun c7 => ?_)
  · have h := if_t ((i2_eq (x := (gI s4 55)) (y := 0) hr6 (by decide)).mp c7) h
    refine lv_aload_n hx hb eX12_rootSplit_13.2.2.2.2.2.2.1 rfl (lv_at hl 1 rfl) ?_
    refine lv_iload hx hb eX12_rootSplit_13.2.2.2.2.2.2.2 (lv_at hl 0 rfl) ?_
    refine lv_iconst (v := 0) hx hb eX12_rootSplit_27.1 (by decide) ?_
    refine lv_aload_n hx hb eX12_rootSplit_27.2.1 rfl (lv_at hl 1 rfl) ?_
    refine lv_iload_n hx hb eX12_rootSplit_27.2.2.1 rfl (lv_at hl 3 rfl) ?_
    refine lv_iconst (v := 0) hx hb eX12_rootSplit_27.2.2.2.1 (by decide) ?_
    obtain ⟨r9, hc8, h⟩ := bn_e h
    refine ycV (r0 := i2 r9) (As := [.int (i2 p1), .int 0]) (rest := [.int 0, .int (i2 r5), .ref (a 200)]) (C := RX12) (n := 2) ⟨hx, hb, hml, hown, ht⟩ (k_x12_keyAt l D a p1 0 _ _ hc8) (zgV ml_X12_517 im_X12_keyAt se_X12_keyAt in_X12 co_X12_keyAt) rfl rfl (by decide +kernel) ⟨Nat.le_of_ble_eq_true rfl, Nat.le_of_ble_eq_true rfl⟩ hN hK hP hS 0 RW_0 rfl rfl rfl hl.1 rfl (Nat.le_of_ble_eq_true rfl) eX12_rootSplit_27.2.2.2.2.1 ⟨Nat.le_of_ble_eq_true rfl, Nat.le_of_ble_eq_true rfl⟩ (fun H locs hP hS => ?_)
    refine lv_iload_n hx hb eX12_rootSplit_27.2.2.2.2.2.1 rfl (lv_at hl 3 rfl) ?_
    obtain ⟨s11, hc10, h⟩ := bn_e h
    refine ywVv (As := [.int (i2 r5), .int 0, .int (i2 r9), .int (i2 p1)]) (rest := []) (C := RX12) (n := 4) (ws' := RW D a s11) ⟨hx, hb, hml, hown, ht⟩ (k_x12_inserts l D a r5 0 r9 p1 _ _ _ hc10) (zgV ml_X12_526 im_X12_inserts se_X12_inserts in_X12 co_X12_inserts) rfl rfl (by decide +kernel) ⟨Nat.le_of_ble_eq_true rfl, Nat.le_of_ble_eq_true rfl⟩ hN hK hP (hDD _) hS hA 0 RW_0 rfl rfl rfl hl.1 rfl (Nat.le_of_ble_eq_true rfl) eX12_rootSplit_27.2.2.2.2.2.2.1 ⟨Nat.le_of_ble_eq_true rfl, Nat.le_of_ble_eq_true rfl⟩ (fun H locs hP hS => ?_)
    refine lv_aload_n hx hb eX12_rootSplit_27.2.2.2.2.2.2.2 rfl (lv_at hl 1 rfl) ?_
    refine va_get (D := D) (ci := 12) (v := .ref (a 49)) (C := RX12) (T := TX12) (N := 116) hx hb ht inX12 hown hK hP 0 RW_0 rfl 49 (by decide) (ht (.fieldLink RX12 121 "CloneVolumesModel" "now" "[I") fl_X12_121) (fun _ h9 => h9) mF_49 eX12_rootSplit_39.1 ?_
    refine lv_iload_n hx hb eX12_rootSplit_39.2.1 rfl (lv_at hl 2 rfl) ?_
    refine lv_iload hx hb eX12_rootSplit_39.2.2.1 (lv_at hl 0 rfl) ?_
    obtain ⟨hi12, h⟩ := inb_e h
    refine ya_iast (i := p0) (x := r5) hx hb hK hP (hDD _) hS 36 0 RW_36 rfl (by decide) hi12 eX12_rootSplit_39.2.2.2.1 (RW_w36 _) (fun H locs hP hS => ?_)
    obtain ⟨s13, hs13, h⟩ := st_e h
    rw [hs13] at hP
    refine lv_aload_n hx hb eX12_rootSplit_39.2.2.2.2.1 rfl (lv_at hl 1 rfl) ?_
    refine lv_iload hx hb eX12_rootSplit_39.2.2.2.2.2.1 (lv_at hl 0 rfl) ?_
    refine lv_iconst (v := 0) hx hb eX12_rootSplit_39.2.2.2.2.2.2.1 (by decide) ?_
    refine lv_iload_n hx hb eX12_rootSplit_39.2.2.2.2.2.2.2 rfl (lv_at hl 3 rfl) ?_
    refine lv_iload_n hx hb eX12_rootSplit_51.1 rfl (lv_at hl 4 rfl) ?_
    obtain ⟨⟨r16, s15⟩, hc14, h⟩ := bn_e h
    refine ywV (r0 := i2 r16) (As := [.int (i2 r5), .int 0, .int (i2 p1), .int (i2 p2)]) (rest := []) (C := RX12) (n := 4) (ws' := RW D a s15) ⟨hx, hb, hml, hown, ht⟩ (k_x12_half l D a r5 0 p1 p2 _ _ _ hc14) (zgV ml_X12_529 im_X12_half se_X12_half in_X12 co_X12_half) rfl rfl (by decide +kernel) ⟨Nat.le_of_ble_eq_true rfl, Nat.le_of_ble_eq_true rfl⟩ hN hK hP (hDD _) hS hA 0 RW_0 rfl rfl rfl hl.1 rfl (Nat.le_of_ble_eq_true rfl) eX12_rootSplit_51.2.1 ⟨Nat.le_of_ble_eq_true rfl, Nat.le_of_ble_eq_true rfl⟩ (fun H locs hP hS => ?_)
    obtain rfl := Option.some.inj h
    exact W.iret (v := (i2 r16)) hx hb hr (fun t ht hW => ⟨⟨_, (), rfl, rfl, by rw [ht]; exact hP, va_K.moved hW.alike hK, hDD _⟩, hS.F ht⟩) hS.2.2 eX12_rootSplit_51.2.2.1
  · have h := if_f (mt (i2_eq (x := (gI s4 55)) (y := 0) hr6 (by decide)).mpr c7) h
    refine lv_iload_n hx hb eX12_rootSplit_13.2.2.2.2.1 rfl (lv_at hl 3 rfl) ?_
    obtain rfl := Option.some.inj h
    exact W.iret (v := (i2 p1)) hx hb hr (fun t ht hW => ⟨⟨_, (), rfl, rfl, by rw [ht]; exact hP, va_K.moved hW.alike hK, hDD _⟩, hS.F ht⟩) hS.2.2 eX12_rootSplit_13.2.2.2.2.2.1
set_option maxHeartbeats 4000000 in
set_option maxRecDepth 100000 in
theorem k_x12_puts (l : Launch) (D : va_G) (a : Nat → Nat) (p0 : Int) (p1 : Int) (p2 : Int) (sz : Nat) (s : MS) (o : MS) (h : m_x12_puts p0 p1 p2 s = some o) : yWv l yX12_puts cX12_puts 8 none { frames := 8, cells := 0, slots := 0, locals := 480 } D sz [.ref (a 200), .int (i2 p0), .int (i2 p1), .int (i2 p2)] (RW D a s) (RW D a o) := by
  refine Met.ofW (cc := cX12_puts) (maxL := 8) (ret := none) (by decide) rfl ?_
  intro p e s₀ m args below meth c s₁ B hml hv
  obtain ⟨rfl, ⟨hsz, hP, hK, hD0⟩, hN⟩ := hv
  have hx := B.exec
  have hb := B.bytes
  have hr := B.returns
  have hts := atoms_spec (ws := wz yX12_puts cX12_puts 8 none) B.pre
  have ht : ∀ w ∈ lw_gd, w.before _ s₀ = true := fun w h => hts w (List.mem_cons_of_mem _ h)
  have hown : s₀.vm.findClass RX12 = some m.cls := findClass_of_methodNamed B.named
  have hlocks := B.notSynchronized
  subst hsz
  have hD := hD0.self (sz := s₀.heap.size)
  generalize hAe : va_A (RW D a s) s₀.heap.size = A at hD ⊢
  have hA : ∀ q : Nat, s₀.heap.size ≤ q → A q := fun q h => by rw [← hAe]; exact Or.inr h
  have hS : va_S A s₀.heap s₀.heap [] := va_S.rf
  have hDD : ∀ t : MS, va_D A (RW D a t) := fun t => RW_D t hD
  have hl := lv_entry ([.ref (a 200), .int (i2 p0), .int (i2 p1), .int (i2 p2)]) (n := 8) (Nat.le_of_ble_eq_true rfl)
  rw [lg_entry_eq]
  generalize (lg_sl ([.ref (a 200), .int (i2 p0), .int (i2 p1), .int (i2 p2)]) ++ List.replicate (8 - (lg_sl ([.ref (a 200), .int (i2 p0), .int (i2 p1), .int (i2 p2)])).length) Slot.unset).toArray = ls at hl ⊢
  have hl : lv_has ls 8 [(0, .ref (a 200)), (1, .int (i2 p0)), (2, .int (i2 p1)), (3, .int (i2 p2))] := hl
  unfold m_x12_puts at h
  refine y_head (pcJ := 213) (σ := MS) (fun u H locs ls => va_P D vwCl (RW D a u) H ∧ va_S A s₀.heap H locs ∧ lv_has ls 8 [] ∧ m_x12_puts_J213 u = some o) (fun u => []) (fun u H locs ls hI => ?_) (fun J213 => ?_)
  · obtain ⟨hP, hS, hl, h⟩ := hI
    obtain ⟨s1, rfl⟩ : ∃ z, z = u := ⟨u, rfl⟩
    have hP : va_P D vwCl (RW D a s1) H := hP
    have hl : lv_has ls 8 [] := hl
    have h : m_x12_puts_J213 s1 = some o := h
    unfold m_x12_puts_J213 at h
    obtain rfl := Option.some.inj h
    exact W.vret hx hb hr (fun t ht hW => ⟨⟨(), rfl, trivial, by rw [ht]; exact hP, va_K.moved hW.alike hK, hDD _⟩, hS.F ht⟩) hS.2.2 eX12_puts_213.1
  refine y_head (pcJ := 198) (σ := Int × Int × Int × MS) (fun u H locs ls => va_P D vwCl (RW D a u.2.2.2) H ∧ va_S A s₀.heap H locs ∧ lv_has ls 8 [(0, .ref (a 200)), (2, .int (i2 u.1)), (3, .int (i2 u.2.1)), (4, .int (i2 u.2.2.1))] ∧ m_x12_puts_J198 u.1 u.2.1 u.2.2.1 u.2.2.2 = some o) (fun u => []) (fun u H locs ls hI => ?_) (fun J198 => ?_)
  · obtain ⟨hP, hS, hl, h⟩ := hI
    obtain ⟨x2, x3, x4, s5⟩ := u
    have hP : va_P D vwCl (RW D a s5) H := hP
    have hl : lv_has ls 8 [(0, .ref (a 200)), (2, .int (i2 x2)), (3, .int (i2 x3)), (4, .int (i2 x4))] := hl
    have h : m_x12_puts_J198 x2 x3 x4 s5 = some o := h
    unfold m_x12_puts_J198 at h
    refine lv_aload_n hx hb eX12_puts_198.1 rfl (lv_at hl 0 rfl) ?_
    refine va_get (D := D) (ci := 12) (v := .int (i2 (gI s5 55))) (C := RX12) (T := TX12) (N := 116) hx hb ht inX12 hown hK hP 0 RW_0 rfl 55 (by decide) (ht (.fieldLink RX12 493 "CloneVolumesModel" "isFull" "Z") fl_X12_493) (fun _ h9 => h9) mF_55 eX12_puts_198.2.1 ?_
    obtain ⟨hr6, h⟩ := rg_e h
    refine lv_if_ne (tgt := 213) hx hb eX12_puts_198.2.2.1 (by decide) (fun c7 => ?_) (fun c7 => ?_)
    · have h := if_f (mt (i2_eq (x := (gI s5 55)) (y := 0) hr6 (by decide)).mpr c7) h
      exact J213 s5 _ _ _ ⟨hP, hS, lv_sub hl [] rfl, h⟩
    · have h := if_t ((i2_eq (x := (gI s5 55)) (y := 0) hr6 (by decide)).mp c7) h
      refine lv_aload_n hx hb eX12_puts_198.2.2.2.1 rfl (lv_at hl 0 rfl) ?_
      refine lv_iload hx hb eX12_puts_198.2.2.2.2.1 (lv_at hl 3 rfl) ?_
      refine lv_iload_n hx hb eX12_puts_198.2.2.2.2.2.1 rfl (lv_at hl 1 rfl) ?_
      refine lv_iload_n hx hb eX12_puts_198.2.2.2.2.2.2.1 rfl (lv_at hl 2 rfl) ?_
      obtain ⟨s9, hc8, h⟩ := bn_e h
      refine ywVv (As := [.int (i2 x4), .int (i2 x2), .int (i2 x3)]) (rest := []) (C := RX12) (n := 3) (ws' := RW D a s9) ⟨hx, hb, hml, hown, ht⟩ (k_x12_putsIn l D a x4 x2 x3 _ _ _ hc8) (zgV ml_X12_546 im_X12_putsIn se_X12_putsIn in_X12 co_X12_putsIn) rfl rfl (by decide +kernel) ⟨Nat.le_of_ble_eq_true rfl, Nat.le_of_ble_eq_true rfl⟩ hN hK hP (hDD _) hS hA 0 RW_0 rfl rfl rfl hl.1 rfl (Nat.le_of_ble_eq_true rfl) eX12_puts_198.2.2.2.2.2.2.2 ⟨Nat.le_of_ble_eq_true rfl, Nat.le_of_ble_eq_true rfl⟩ (fun H locs hP hS => ?_)
      exact J213 s9 _ _ _ ⟨hP, hS, lv_sub hl [] rfl, h⟩
  refine y_loop (pcJ := 94) (σ := Int × Int × Int × MS) (fun n u H locs ls => va_P D vwCl (RW D a u.2.2.2) H ∧ va_S A s₀.heap H locs ∧ lv_has ls 8 [(0, .ref (a 200)), (2, .int (i2 u.1)), (3, .int (i2 u.2.1)), (4, .int (i2 u.2.2.1))] ∧ m_x12_puts_L94 n u.1 u.2.1 u.2.2.1 u.2.2.2 = some o) (fun u => []) (fun u H locs ls hI => by obtain ⟨_, _, _, h⟩ := hI; cases h) (fun n94 ih94 u H locs ls hI => ?_) (fun J94 => ?_)
  · obtain ⟨hP, hS, hl, h⟩ := hI
    obtain ⟨x10, x11, x12, s13⟩ := u
    have hP : va_P D vwCl (RW D a s13) H := hP
    have hl : lv_has ls 8 [(0, .ref (a 200)), (2, .int (i2 x10)), (3, .int (i2 x11)), (4, .int (i2 x12))] := hl
    have h : m_x12_puts_b94 (m_x12_puts_L94 n94) x10 x11 x12 s13 = some o := h
    unfold m_x12_puts_b94 at h
    refine y_head (pcJ := 191) (σ := Int × Int × Int × MS) (fun u H locs ls => va_P D vwCl (RW D a u.2.2.2) H ∧ va_S A s₀.heap H locs ∧ lv_has ls 8 [(0, .ref (a 200)), (2, .int (i2 u.1)), (3, .int (i2 u.2.1)), (7, .int (i2 u.2.2.1))] ∧ m_x12_puts_J191 (m_x12_puts_L94 n94) u.1 u.2.1 u.2.2.1 u.2.2.2 = some o) (fun u => []) (fun u H locs ls hI => ?_) (fun J191 => ?_)
    · obtain ⟨hP, hS, hl, h⟩ := hI
      obtain ⟨x14, x15, x16, s17⟩ := u
      have hP : va_P D vwCl (RW D a s17) H := hP
      have hl : lv_has ls 8 [(0, .ref (a 200)), (2, .int (i2 x14)), (3, .int (i2 x15)), (7, .int (i2 x16))] := hl
      have h : m_x12_puts_J191 (m_x12_puts_L94 n94) x14 x15 x16 s17 = some o := h
      unfold m_x12_puts_J191 at h
      refine lv_iload hx hb eX12_puts_181.2.2.2.2.2.1 (lv_at hl 3 rfl) ?_
      refine lv_istore (lv' := [(4, .int (i2 x16)), (0, .ref (a 200)), (2, .int (i2 x14)), (3, .int (i2 x15)), (7, .int (i2 x16))]) hx hb eX12_puts_181.2.2.2.2.2.2.1 hl (by decide) rfl (fun ls hl => ?_)
      refine lv_goto (tgt := 94) hx hb eX12_puts_181.2.2.2.2.2.2.2 (by decide) ?_
      exact ih94 (x14, x15, x16, s17) _ _ _ ⟨hP, hS, lv_sub hl [1, 2, 3, 0] rfl, h⟩
    refine y_head (pcJ := 162) (σ := Int × Int × Int × Int × Int × MS) (fun u H locs ls => va_P D vwCl (RW D a u.2.2.2.2.2) H ∧ va_S A s₀.heap H locs ∧ lv_has ls 8 [(0, .ref (a 200)), (2, .int (i2 u.1)), (3, .int (i2 u.2.1)), (4, .int (i2 u.2.2.1)), (5, .int (i2 u.2.2.2.1)), (7, .int (i2 u.2.2.2.2.1))] ∧ m_x12_puts_J162 (m_x12_puts_L94 n94) u.1 u.2.1 u.2.2.1 u.2.2.2.1 u.2.2.2.2.1 u.2.2.2.2.2 = some o) (fun u => []) (fun u H locs ls hI => ?_) (fun J162 => ?_)
    · obtain ⟨hP, hS, hl, h⟩ := hI
      obtain ⟨x18, x19, x20, x21, x22, s23⟩ := u
      have hP : va_P D vwCl (RW D a s23) H := hP
      have hl : lv_has ls 8 [(0, .ref (a 200)), (2, .int (i2 x18)), (3, .int (i2 x19)), (4, .int (i2 x20)), (5, .int (i2 x21)), (7, .int (i2 x22))] := hl
      have h : m_x12_puts_J162 (m_x12_puts_L94 n94) x18 x19 x20 x21 x22 s23 = some o := h
      unfold m_x12_puts_J162 at h
      refine lv_aload_n hx hb eX12_puts_147.2.2.2.2.2.2.2 rfl (lv_at hl 0 rfl) ?_
      refine va_get (D := D) (ci := 12) (v := .int (i2 (gI s23 55))) (C := RX12) (T := TX12) (N := 116) hx hb ht inX12 hown hK hP 0 RW_0 rfl 55 (by decide) (ht (.fieldLink RX12 493 "CloneVolumesModel" "isFull" "Z") fl_X12_493) (fun _ h9 => h9) mF_55 eX12_puts_163.1 ?_
      obtain ⟨hr24, h⟩ := rg_e h
      refine lv_if_ne (tgt := 191) hx hb eX12_puts_163.2.1 (by decide) (fun c25 => ?_) (fun c25 => ?_)
      · have h := if_f (mt (i2_eq (x := (gI s23 55)) (y := 0) hr24 (by decide)).mpr c25) h
        exact J191 (x18, x19, x22, s23) _ _ _ ⟨hP, hS, lv_sub hl [0, 1, 2, 5] rfl, h⟩
      · have h := if_t ((i2_eq (x := (gI s23 55)) (y := 0) hr24 (by decide)).mp c25) h
        refine lv_aload_n hx hb eX12_puts_163.2.2.1 rfl (lv_at hl 0 rfl) ?_
        refine lv_iload hx hb eX12_puts_163.2.2.2.1 (lv_at hl 5 rfl) ?_
        obtain ⟨⟨r28, s27⟩, hc26, h⟩ := bn_e h
        refine ywV (r0 := i2 r28) (As := [.int (i2 x22)]) (rest := []) (C := RX12) (n := 1) (ws' := RW D a s27) ⟨hx, hb, hml, hown, ht⟩ (k_x12_doesSplit l D a x22 _ _ _ hc26) (zgV ml_X12_536 im_X12_doesSplit se_X12_doesSplit in_X12 co_X12_doesSplit) rfl rfl (by decide +kernel) ⟨Nat.le_of_ble_eq_true rfl, Nat.le_of_ble_eq_true rfl⟩ hN hK hP (hDD _) hS hA 0 RW_0 rfl rfl rfl hl.1 rfl (Nat.le_of_ble_eq_true rfl) eX12_puts_163.2.2.2.2.1 ⟨Nat.le_of_ble_eq_true rfl, Nat.le_of_ble_eq_true rfl⟩ (fun H locs hP hS => ?_)
        obtain ⟨hr29, h⟩ := rg_e h
        refine lv_if_eq (tgt := 191) hx hb eX12_puts_163.2.2.2.2.2.1 (by decide) (fun c30 => ?_) (fun c30 => ?_)
        · have h := if_t ((i2_eq (x := r28) (y := 0) hr29 (by decide)).mp c30) h
          exact J191 (x18, x19, x22, s27) _ _ _ ⟨hP, hS, lv_sub hl [0, 1, 2, 5] rfl, h⟩
        · have h := if_f (mt (i2_eq (x := r28) (y := 0) hr29 (by decide)).mpr c30) h
          refine lv_aload_n hx hb eX12_puts_163.2.2.2.2.2.2.1 rfl (lv_at hl 0 rfl) ?_
          refine lv_iload hx hb eX12_puts_163.2.2.2.2.2.2.2 (lv_at hl 3 rfl) ?_
          refine lv_iload hx hb eX12_puts_181.1 (lv_at hl 4 rfl) ?_
          refine lv_iload hx hb eX12_puts_181.2.1 (lv_at hl 5 rfl) ?_
          refine lv_iload_n hx hb eX12_puts_181.2.2.1 rfl (lv_at hl 1 rfl) ?_
          obtain ⟨⟨r33, s32⟩, hc31, h⟩ := bn_e h
          refine ywV (r0 := i2 r33) (As := [.int (i2 x20), .int (i2 x21), .int (i2 x22), .int (i2 x18)]) (rest := []) (C := RX12) (n := 4) (ws' := RW D a s32) ⟨hx, hb, hml, hown, ht⟩ (k_x12_half l D a x20 x21 x22 x18 _ _ _ hc31) (zgV ml_X12_529 im_X12_half se_X12_half in_X12 co_X12_half) rfl rfl (by decide +kernel) ⟨Nat.le_of_ble_eq_true rfl, Nat.le_of_ble_eq_true rfl⟩ hN hK hP (hDD _) hS hA 0 RW_0 rfl rfl rfl hl.1 rfl (Nat.le_of_ble_eq_true rfl) eX12_puts_181.2.2.2.1 ⟨Nat.le_of_ble_eq_true rfl, Nat.le_of_ble_eq_true rfl⟩ (fun H locs hP hS => ?_)
          refine lv_istore (lv' := [(7, .int (i2 r33)), (0, .ref (a 200)), (2, .int (i2 x18)), (3, .int (i2 x19)), (4, .int (i2 x20)), (5, .int (i2 x21))]) hx hb eX12_puts_181.2.2.2.2.1 hl (by decide) rfl (fun ls hl => ?_)
          exact J191 (x18, x19, r33, s32) _ _ _ ⟨hP, hS, lv_sub hl [1, 2, 3, 0] rfl, h⟩
    refine lv_aload_n hx hb eX12_puts_84.2.2.2.2.2.2.1 rfl (lv_at hl 0 rfl) ?_
    refine va_get (D := D) (ci := 12) (v := .int (i2 (gI s13 55))) (C := RX12) (T := TX12) (N := 116) hx hb ht inX12 hown hK hP 0 RW_0 rfl 55 (by decide) (ht (.fieldLink RX12 493 "CloneVolumesModel" "isFull" "Z") fl_X12_493) (fun _ h9 => h9) mF_55 eX12_puts_84.2.2.2.2.2.2.2 ?_
    obtain ⟨hr34, h⟩ := rg_e h
    refine lv_if_ne (tgt := 198) hx hb eX12_puts_98.1 (by decide) (fun c35 => ?_) (fun c35 => ?_)
    · have h := if_f (mt (i2_eq (x := (gI s13 55)) (y := 0) hr34 (by decide)).mpr c35) h
      exact J198 (x10, x11, x12, s13) _ _ _ ⟨hP, hS, lv_sub hl [0, 1, 2, 3] rfl, h⟩
    · have h := if_t ((i2_eq (x := (gI s13 55)) (y := 0) hr34 (by decide)).mp c35) h
      refine lv_aload_n hx hb eX12_puts_98.2.1 rfl (lv_at hl 0 rfl) ?_
      refine lv_iload hx hb eX12_puts_98.2.2.1 (lv_at hl 3 rfl) ?_
      obtain ⟨r37, hc36, h⟩ := bn_e h
      refine ycV (r0 := i2 r37) (As := [.int (i2 x12)]) (rest := []) (C := RX12) (n := 1) ⟨hx, hb, hml, hown, ht⟩ (k_x12_levelOf l D a x12 _ _ hc36) (zgV ml_X12_460 im_X12_levelOf se_X12_levelOf in_X12 co_X12_levelOf) rfl rfl (by decide +kernel) ⟨Nat.le_of_ble_eq_true rfl, Nat.le_of_ble_eq_true rfl⟩ hN hK hP hS 0 RW_0 rfl rfl rfl hl.1 rfl (Nat.le_of_ble_eq_true rfl) eX12_puts_98.2.2.2.1 ⟨Nat.le_of_ble_eq_true rfl, Nat.le_of_ble_eq_true rfl⟩ (fun H locs hP hS => ?_)
      obtain ⟨hr38, h⟩ := rg_e h
      refine lv_if_le (tgt := 198) hx hb eX12_puts_98.2.2.2.2.1 (by decide) (fun c39 => ?_) (fun c39 => ?_)
      · have h := if_t ((i2_le (x := r37) (y := 0) hr38 (by decide)).mp c39) h
        exact J198 (x10, x11, x12, s13) _ _ _ ⟨hP, hS, lv_sub hl [0, 1, 2, 3] rfl, h⟩
      · have h := if_f (mt (i2_le (x := r37) (y := 0) hr38 (by decide)).mpr c39) h
        refine lv_aload_n hx hb eX12_puts_98.2.2.2.2.2.1 rfl (lv_at hl 0 rfl) ?_
        refine lv_iload hx hb eX12_puts_98.2.2.2.2.2.2.1 (lv_at hl 3 rfl) ?_
        refine lv_iload_n hx hb eX12_puts_98.2.2.2.2.2.2.2 rfl (lv_at hl 1 rfl) ?_
        obtain ⟨r41, hc40, h⟩ := bn_e h
        refine ycV (r0 := i2 r41) (As := [.int (i2 x12), .int (i2 x10)]) (rest := []) (C := RX12) (n := 2) ⟨hx, hb, hml, hown, ht⟩ (k_x12_placeFor l D a x12 x10 _ _ hc40) (zgV ml_X12_543 im_X12_placeFor se_X12_placeFor in_X12 co_X12_placeFor) rfl rfl (by decide +kernel) ⟨Nat.le_of_ble_eq_true rfl, Nat.le_of_ble_eq_true rfl⟩ hN hK hP hS 0 RW_0 rfl rfl rfl hl.1 rfl (Nat.le_of_ble_eq_true rfl) eX12_puts_114.1 ⟨Nat.le_of_ble_eq_true rfl, Nat.le_of_ble_eq_true rfl⟩ (fun H locs hP hS => ?_)
        refine lv_istore (lv' := [(5, .int (i2 r41)), (0, .ref (a 200)), (2, .int (i2 x10)), (3, .int (i2 x11)), (4, .int (i2 x12))]) hx hb eX12_puts_114.2.1 hl (by decide) rfl (fun ls hl => ?_)
        refine lv_aload_n hx hb eX12_puts_114.2.2.1 rfl (lv_at hl 1 rfl) ?_
        refine lv_iload hx hb eX12_puts_114.2.2.2.1 (lv_at hl 4 rfl) ?_
        refine lv_iload hx hb eX12_puts_114.2.2.2.2.1 (lv_at hl 0 rfl) ?_
        obtain ⟨r43, hc42, h⟩ := bn_e h
        refine ycV (r0 := i2 r43) (As := [.int (i2 x12), .int (i2 r41)]) (rest := []) (C := RX12) (n := 2) ⟨hx, hb, hml, hown, ht⟩ (k_x12_valueAt l D a x12 r41 _ _ hc42) (zgV ml_X12_505 im_X12_valueAt se_X12_valueAt in_X12 co_X12_valueAt) rfl rfl (by decide +kernel) ⟨Nat.le_of_ble_eq_true rfl, Nat.le_of_ble_eq_true rfl⟩ hN hK hP hS 0 RW_0 rfl rfl rfl hl.1 rfl (Nat.le_of_ble_eq_true rfl) eX12_puts_114.2.2.2.2.2.1 ⟨Nat.le_of_ble_eq_true rfl, Nat.le_of_ble_eq_true rfl⟩ (fun H locs hP hS => ?_)
        refine lv_istore (lv' := [(6, .int (i2 r43)), (5, .int (i2 r41)), (0, .ref (a 200)), (2, .int (i2 x10)), (3, .int (i2 x11)), (4, .int (i2 x12))]) hx hb eX12_puts_114.2.2.2.2.2.2.1 hl (by decide) rfl (fun ls hl => ?_)
        refine lv_aload_n hx hb eX12_puts_114.2.2.2.2.2.2.2 rfl (lv_at hl 2 rfl) ?_
        refine lv_iload hx hb eX12_puts_130.1 (lv_at hl 0 rfl) ?_
        obtain ⟨⟨r46, s45⟩, hc44, h⟩ := bn_e h
        refine ywV (r0 := i2 r46) (As := [.int (i2 r43)]) (rest := []) (C := RX12) (n := 1) (ws' := RW D a s45) ⟨hx, hb, hml, hown, ht⟩ (k_x12_owned l D a r43 _ _ _ hc44) (zgV ml_X12_533 im_X12_owned se_X12_owned in_X12 co_X12_owned) rfl rfl (by decide +kernel) ⟨Nat.le_of_ble_eq_true rfl, Nat.le_of_ble_eq_true rfl⟩ hN hK hP (hDD _) hS hA 0 RW_0 rfl rfl rfl hl.1 rfl (Nat.le_of_ble_eq_true rfl) eX12_puts_130.2.1 ⟨Nat.le_of_ble_eq_true rfl, Nat.le_of_ble_eq_true rfl⟩ (fun H locs hP hS => ?_)
        refine lv_istore (lv' := [(7, .int (i2 r46)), (6, .int (i2 r43)), (5, .int (i2 r41)), (0, .ref (a 200)), (2, .int (i2 x10)), (3, .int (i2 x11)), (4, .int (i2 x12))]) hx hb eX12_puts_130.2.2.1 hl (by decide) rfl (fun ls hl => ?_)
        refine lv_iload hx hb eX12_puts_130.2.2.2.1 (lv_at hl 0 rfl) ?_
        refine lv_iload hx hb eX12_puts_130.2.2.2.2.1 (lv_at hl 1 rfl) ?_
        obtain ⟨hr47, h⟩ := rg_e h
        obtain ⟨hr48, h⟩ := rg_e h
        refine lv_icmp_eq (tgt := 162) hx hb eX12_puts_130.2.2.2.2.2.1 (by decide) (fun c49 => ?_) (fun c49 => ?_)
        · have h := if_t ((i2_eq (x := r46) (y := r43) hr47 hr48).mp c49) h
          exact J162 (x10, x11, x12, r41, r46, s45) _ _ _ ⟨hP, hS, lv_sub hl [3, 4, 5, 6, 2, 0] rfl, h⟩
        · have h := if_f (mt (i2_eq (x := r46) (y := r43) hr47 hr48).mpr c49) h
          refine lv_aload_n hx hb eX12_puts_130.2.2.2.2.2.2.1 rfl (lv_at hl 3 rfl) ?_
          refine lv_iload hx hb eX12_puts_130.2.2.2.2.2.2.2 (lv_at hl 6 rfl) ?_
          refine lv_iload hx hb eX12_puts_147.1 (lv_at hl 2 rfl) ?_
          refine lv_aload_n hx hb eX12_puts_147.2.1 rfl (lv_at hl 3 rfl) ?_
          refine lv_iload hx hb eX12_puts_147.2.2.1 (lv_at hl 6 rfl) ?_
          refine lv_iload hx hb eX12_puts_147.2.2.2.1 (lv_at hl 2 rfl) ?_
          obtain ⟨r51, hc50, h⟩ := bn_e h
          refine ycV (r0 := i2 r51) (As := [.int (i2 x12), .int (i2 r41)]) (rest := [.int (i2 r41), .int (i2 x12), .ref (a 200)]) (C := RX12) (n := 2) ⟨hx, hb, hml, hown, ht⟩ (k_x12_keyAt l D a x12 r41 _ _ hc50) (zgV ml_X12_517 im_X12_keyAt se_X12_keyAt in_X12 co_X12_keyAt) rfl rfl (by decide +kernel) ⟨Nat.le_of_ble_eq_true rfl, Nat.le_of_ble_eq_true rfl⟩ hN hK hP hS 0 RW_0 rfl rfl rfl hl.1 rfl (Nat.le_of_ble_eq_true rfl) eX12_puts_147.2.2.2.2.1 ⟨Nat.le_of_ble_eq_true rfl, Nat.le_of_ble_eq_true rfl⟩ (fun H locs hP hS => ?_)
          refine lv_iload hx hb eX12_puts_147.2.2.2.2.2.1 (lv_at hl 0 rfl) ?_
          obtain ⟨s53, hc52, h⟩ := bn_e h
          refine ywVv (As := [.int (i2 x12), .int (i2 r41), .int (i2 r51), .int (i2 r46)]) (rest := []) (C := RX12) (n := 4) (ws' := RW D a s53) ⟨hx, hb, hml, hown, ht⟩ (k_x12_setsEntry l D a x12 r41 r51 r46 _ _ _ hc52) (zgV ml_X12_520 im_X12_setsEntry se_X12_setsEntry in_X12 co_X12_setsEntry) rfl rfl (by decide +kernel) ⟨Nat.le_of_ble_eq_true rfl, Nat.le_of_ble_eq_true rfl⟩ hN hK hP (hDD _) hS hA 0 RW_0 rfl rfl rfl hl.1 rfl (Nat.le_of_ble_eq_true rfl) eX12_puts_147.2.2.2.2.2.2.1 ⟨Nat.le_of_ble_eq_true rfl, Nat.le_of_ble_eq_true rfl⟩ (fun H locs hP hS => ?_)
          exact J162 (x10, x11, x12, r41, r46, s53) _ _ _ ⟨hP, hS, lv_sub hl [3, 4, 5, 6, 2, 0] rfl, h⟩
  refine lv_aload_n hx hb eX12_half_142.2.1 rfl (lv_at hl 0 rfl) ?_
  refine va_get (D := D) (ci := 12) (v := .ref (a 49)) (C := RX12) (T := TX12) (N := 116) hx hb ht inX12 hown hK hP 0 RW_0 rfl 49 (by decide) (ht (.fieldLink RX12 121 "CloneVolumesModel" "now" "[I") fl_X12_121) (fun _ h9 => h9) mF_49 eX12_half_142.2.2.1 ?_
  refine lv_iload_n hx hb eX12_half_142.2.2.2.1 rfl (lv_at hl 1 rfl) ?_
  obtain ⟨y54, ey54, iy54, h⟩ := rdI_e h
  refine ya_iald (i := p0) hx hb hK hP 36 0 RW_36 rfl (by decide) ey54 iy54 eX12_half_142.2.2.2.2.1 ?_
  refine lv_sipush (v := 254) hx hb eX12_half_142.2.2.2.2.2.1 (by decide) ?_
  obtain ⟨hr55, h⟩ := rg_e h
  refine lv_icmp_ne (tgt := 47) hx hb eX12_half_142.2.2.2.2.2.2.1 (by decide) (fun c56 => ?_) (fun c56 => ?_)
  · have h := if_f (mt (i2_eq (x := y54) (y := 254) hr55 (by decide)).mpr c56) h
    refine lv_aload_n hx hb eX12_puts_42.2.2.2.2.1 rfl (lv_at hl 0 rfl) ?_
    refine lv_aload_n hx hb eX12_puts_42.2.2.2.2.2.1 rfl (lv_at hl 0 rfl) ?_
    refine va_get (D := D) (ci := 12) (v := .ref (a 49)) (C := RX12) (T := TX12) (N := 116) hx hb ht inX12 hown hK hP 0 RW_0 rfl 49 (by decide) (ht (.fieldLink RX12 121 "CloneVolumesModel" "now" "[I") fl_X12_121) (fun _ h9 => h9) mF_49 eX12_puts_42.2.2.2.2.2.2.1 ?_
    refine lv_iload_n hx hb eX12_puts_42.2.2.2.2.2.2.2 rfl (lv_at hl 1 rfl) ?_
    obtain ⟨y57, ey57, iy57, h⟩ := rdI_e h
    refine ya_iald (i := p0) hx hb hK hP 36 0 RW_36 rfl (by decide) ey57 iy57 eX12_puts_53.1 ?_
    obtain ⟨⟨r60, s59⟩, hc58, h⟩ := bn_e h
    refine ywV (r0 := i2 r60) (As := [.int (i2 y57)]) (rest := []) (C := RX12) (n := 1) (ws' := RW D a s59) ⟨hx, hb, hml, hown, ht⟩ (k_x12_owned l D a y57 _ _ _ hc58) (zgV ml_X12_533 im_X12_owned se_X12_owned in_X12 co_X12_owned) rfl rfl (by decide +kernel) ⟨Nat.le_of_ble_eq_true rfl, Nat.le_of_ble_eq_true rfl⟩ hN hK hP (hDD _) hS hA 0 RW_0 rfl rfl rfl hl.1 rfl (Nat.le_of_ble_eq_true rfl) eX12_puts_53.2.1 ⟨Nat.le_of_ble_eq_true rfl, Nat.le_of_ble_eq_true rfl⟩ (fun H locs hP hS => ?_)
    refine lv_istore (lv' := [(4, .int (i2 r60)), (0, .ref (a 200)), (1, .int (i2 p0)), (2, .int (i2 p1)), (3, .int (i2 p2))]) hx hb eX12_puts_53.2.2.1 hl (by decide) rfl (fun ls hl => ?_)
    refine lv_aload_n hx hb eX12_puts_53.2.2.2.1 rfl (lv_at hl 1 rfl) ?_
    refine va_get (D := D) (ci := 12) (v := .int (i2 (gI s59 55))) (C := RX12) (T := TX12) (N := 116) hx hb ht inX12 hown hK hP 0 RW_0 rfl 55 (by decide) (ht (.fieldLink RX12 493 "CloneVolumesModel" "isFull" "Z") fl_X12_493) (fun _ h9 => h9) mF_55 eX12_puts_53.2.2.2.2.1 ?_
    obtain ⟨hr61, h⟩ := rg_e h
    refine lv_if_eq (tgt := 67) hx hb eX12_puts_53.2.2.2.2.2.1 (by decide) (fun c62 => ?_) (fun c62 => ?_)
    · have h := if_t ((i2_eq (x := (gI s59 55)) (y := 0) hr61 (by decide)).mp c62) h
      refine lv_aload_n hx hb eX12_puts_53.2.2.2.2.2.2.2 rfl (lv_at hl 1 rfl) ?_
      refine va_get (D := D) (ci := 12) (v := .ref (a 49)) (C := RX12) (T := TX12) (N := 116) hx hb ht inX12 hown hK hP 0 RW_0 rfl 49 (by decide) (ht (.fieldLink RX12 121 "CloneVolumesModel" "now" "[I") fl_X12_121) (fun _ h9 => h9) mF_49 eX12_puts_68.1 ?_
      refine lv_iload_n hx hb eX12_puts_68.2.1 rfl (lv_at hl 2 rfl) ?_
      refine lv_iload hx hb eX12_puts_68.2.2.1 (lv_at hl 0 rfl) ?_
      obtain ⟨hi63, h⟩ := inb_e h
      refine ya_iast (i := p0) (x := r60) hx hb hK hP (hDD _) hS 36 0 RW_36 rfl (by decide) hi63 eX12_puts_68.2.2.2.1 (RW_w36 _) (fun H locs hP hS => ?_)
      obtain ⟨s64, hs64, h⟩ := st_e h
      rw [hs64] at hP
      refine lv_aload_n hx hb eX12_puts_68.2.2.2.2.1 rfl (lv_at hl 1 rfl) ?_
      refine lv_iload hx hb eX12_puts_68.2.2.2.2.2.1 (lv_at hl 0 rfl) ?_
      obtain ⟨⟨r67, s66⟩, hc65, h⟩ := bn_e h
      refine ywV (r0 := i2 r67) (As := [.int (i2 r60)]) (rest := []) (C := RX12) (n := 1) (ws' := RW D a s66) ⟨hx, hb, hml, hown, ht⟩ (k_x12_doesSplit l D a r60 _ _ _ hc65) (zgV ml_X12_536 im_X12_doesSplit se_X12_doesSplit in_X12 co_X12_doesSplit) rfl rfl (by decide +kernel) ⟨Nat.le_of_ble_eq_true rfl, Nat.le_of_ble_eq_true rfl⟩ hN hK hP (hDD _) hS hA 0 RW_0 rfl rfl rfl hl.1 rfl (Nat.le_of_ble_eq_true rfl) eX12_puts_68.2.2.2.2.2.2.1 ⟨Nat.le_of_ble_eq_true rfl, Nat.le_of_ble_eq_true rfl⟩ (fun H locs hP hS => ?_)
      obtain ⟨hr68, h⟩ := rg_e h
      refine lv_if_eq (tgt := 94) hx hb eX12_puts_68.2.2.2.2.2.2.2 (by decide) (fun c69 => ?_) (fun c69 => ?_)
      · have h := if_t ((i2_eq (x := r67) (y := 0) hr68 (by decide)).mp c69) h
        exact J94 FU (p1, p2, r60, s66) _ _ _ ⟨hP, hS, lv_sub hl [1, 3, 4, 0] rfl, h⟩
      · have h := if_f (mt (i2_eq (x := r67) (y := 0) hr68 (by decide)).mpr c69) h
        refine lv_aload_n hx hb eX12_puts_84.1 rfl (lv_at hl 1 rfl) ?_
        refine lv_iload_n hx hb eX12_puts_84.2.1 rfl (lv_at hl 2 rfl) ?_
        refine lv_iload hx hb eX12_puts_84.2.2.1 (lv_at hl 0 rfl) ?_
        refine lv_iload_n hx hb eX12_puts_84.2.2.2.1 rfl (lv_at hl 3 rfl) ?_
        obtain ⟨⟨r72, s71⟩, hc70, h⟩ := bn_e h
        refine ywV (r0 := i2 r72) (As := [.int (i2 p0), .int (i2 r60), .int (i2 p1)]) (rest := []) (C := RX12) (n := 3) (ws' := RW D a s71) ⟨hx, hb, hml, hown, ht⟩ (k_x12_rootSplit l D a p0 r60 p1 _ _ _ hc70) (zgV ml_X12_539 im_X12_rootSplit se_X12_rootSplit in_X12 co_X12_rootSplit) rfl rfl (by decide +kernel) ⟨Nat.le_of_ble_eq_true rfl, Nat.le_of_ble_eq_true rfl⟩ hN hK hP (hDD _) hS hA 0 RW_0 rfl rfl rfl hl.1 rfl (Nat.le_of_ble_eq_true rfl) eX12_puts_84.2.2.2.2.1 ⟨Nat.le_of_ble_eq_true rfl, Nat.le_of_ble_eq_true rfl⟩ (fun H locs hP hS => ?_)
        refine lv_istore (lv' := [(4, .int (i2 r72)), (0, .ref (a 200)), (1, .int (i2 p0)), (2, .int (i2 p1)), (3, .int (i2 p2))]) hx hb eX12_puts_84.2.2.2.2.2.1 hl (by decide) rfl (fun ls hl => ?_)
        exact J94 FU (p1, p2, r72, s71) _ _ _ ⟨hP, hS, lv_sub hl [1, 3, 4, 0] rfl, h⟩
    · have h := if_f (mt (i2_eq (x := (gI s59 55)) (y := 0) hr61 (by decide)).mpr c62) h
      obtain rfl := Option.some.inj h
      exact W.vret hx hb hr (fun t ht hW => ⟨⟨(), rfl, trivial, by rw [ht]; exact hP, va_K.moved hW.alike hK, hDD _⟩, hS.F ht⟩) hS.2.2 eX12_puts_53.2.2.2.2.2.2.1
  · have h := if_t ((i2_eq (x := y54) (y := 254) hr55 (by decide)).mp c56) h
    refine lv_aload_n hx hb eX12_half_142.2.2.2.2.2.2.2 rfl (lv_at hl 0 rfl) ?_
    refine lv_iconst (v := 0) hx hb eX12_puts_13.1 (by decide) ?_
    refine lv_bipush (v := 48) hx hb eX12_puts_13.2.1 (by decide) ?_
    obtain ⟨⟨r75, s74⟩, hc73, h⟩ := bn_e h
    refine ywV (r0 := i2 r75) (As := [.int 0, .int 48]) (rest := []) (C := RX12) (n := 2) (ws' := RW D a s74) ⟨hx, hb, hml, hown, ht⟩ (k_x12_taken l D a 0 48 _ _ _ hc73) (zgV ml_X12_511 im_X12_taken se_X12_taken in_X12 co_X12_taken) rfl rfl (by decide +kernel) ⟨Nat.le_of_ble_eq_true rfl, Nat.le_of_ble_eq_true rfl⟩ hN hK hP (hDD _) hS hA 0 RW_0 rfl rfl rfl hl.1 rfl (Nat.le_of_ble_eq_true rfl) eX12_puts_13.2.2.1 ⟨Nat.le_of_ble_eq_true rfl, Nat.le_of_ble_eq_true rfl⟩ (fun H locs hP hS => ?_)
    refine lv_istore (lv' := [(4, .int (i2 r75)), (0, .ref (a 200)), (1, .int (i2 p0)), (2, .int (i2 p1)), (3, .int (i2 p2))]) hx hb eX12_puts_13.2.2.2.1 hl (by decide) rfl (fun ls hl => ?_)
    refine lv_aload_n hx hb eX12_puts_13.2.2.2.2.1 rfl (lv_at hl 1 rfl) ?_
    refine va_get (D := D) (ci := 12) (v := .int (i2 (gI s74 55))) (C := RX12) (T := TX12) (N := 116) hx hb ht inX12 hown hK hP 0 RW_0 rfl 55 (by decide) (ht (.fieldLink RX12 493 "CloneVolumesModel" "isFull" "Z") fl_X12_493) (fun _ h9 => h9) mF_55 eX12_puts_13.2.2.2.2.2.1 ?_
    obtain ⟨hr76, h⟩ := rg_e h
    refine lv_if_eq (tgt := 29) hx hb eX12_puts_13.2.2.2.2.2.2.1 (by decide) (fun c77 => ?_) (fun c77 => ?_)
    · have h := if_t ((i2_eq (x := (gI s74 55)) (y := 0) hr76 (by decide)).mp c77) h
      refine lv_aload_n hx hb eX12_puts_29.1 rfl (lv_at hl 1 rfl) ?_
      refine lv_iload hx hb eX12_puts_29.2.1 (lv_at hl 0 rfl) ?_
      refine lv_iconst (v := 0) hx hb eX12_puts_29.2.2.1 (by decide) ?_
      refine lv_iload_n hx hb eX12_puts_29.2.2.2.1 rfl (lv_at hl 3 rfl) ?_
      refine lv_iload_n hx hb eX12_puts_29.2.2.2.2.1 rfl (lv_at hl 4 rfl) ?_
      obtain ⟨s79, hc78, h⟩ := bn_e h
      refine ywVv (As := [.int (i2 r75), .int 0, .int (i2 p1), .int (i2 p2)]) (rest := []) (C := RX12) (n := 4) (ws' := RW D a s79) ⟨hx, hb, hml, hown, ht⟩ (k_x12_inserts l D a r75 0 p1 p2 _ _ _ hc78) (zgV ml_X12_526 im_X12_inserts se_X12_inserts in_X12 co_X12_inserts) rfl rfl (by decide +kernel) ⟨Nat.le_of_ble_eq_true rfl, Nat.le_of_ble_eq_true rfl⟩ hN hK hP (hDD _) hS hA 0 RW_0 rfl rfl rfl hl.1 rfl (Nat.le_of_ble_eq_true rfl) eX12_puts_29.2.2.2.2.2.1 ⟨Nat.le_of_ble_eq_true rfl, Nat.le_of_ble_eq_true rfl⟩ (fun H locs hP hS => ?_)
      refine lv_aload_n hx hb eX12_puts_29.2.2.2.2.2.2.1 rfl (lv_at hl 1 rfl) ?_
      refine va_get (D := D) (ci := 12) (v := .ref (a 49)) (C := RX12) (T := TX12) (N := 116) hx hb ht inX12 hown hK hP 0 RW_0 rfl 49 (by decide) (ht (.fieldLink RX12 121 "CloneVolumesModel" "now" "[I") fl_X12_121) (fun _ h9 => h9) mF_49 eX12_puts_29.2.2.2.2.2.2.2 ?_
      refine lv_iload_n hx hb eX12_puts_42.1 rfl (lv_at hl 2 rfl) ?_
      refine lv_iload hx hb eX12_puts_42.2.1 (lv_at hl 0 rfl) ?_
      obtain ⟨hi80, h⟩ := inb_e h
      refine ya_iast (i := p0) (x := r75) hx hb hK hP (hDD _) hS 36 0 RW_36 rfl (by decide) hi80 eX12_puts_42.2.2.1 (RW_w36 _) (fun H locs hP hS => ?_)
      obtain ⟨s81, hs81, h⟩ := st_e h
      rw [hs81] at hP
      obtain rfl := Option.some.inj h
      exact W.vret hx hb hr (fun t ht hW => ⟨⟨(), rfl, trivial, by rw [ht]; exact hP, va_K.moved hW.alike hK, hDD _⟩, hS.F ht⟩) hS.2.2 eX12_puts_42.2.2.2.1
    · have h := if_f (mt (i2_eq (x := (gI s74 55)) (y := 0) hr76 (by decide)).mpr c77) h
      obtain rfl := Option.some.inj h
      exact W.vret hx hb hr (fun t ht hW => ⟨⟨(), rfl, trivial, by rw [ht]; exact hP, va_K.moved hW.alike hK, hDD _⟩, hS.F ht⟩) hS.2.2 eX12_puts_13.2.2.2.2.2.2.2
set_option maxHeartbeats 4000000 in
set_option maxRecDepth 100000 in
theorem k_x12_valueFrom (l : Launch) (D : va_G) (a : Nat → Nat) (p0 : Int) (p1 : Int) (s : MS) (o : Int) (h : m_x12_valueFrom p0 p1 s = some o) : yRi l yX12_valueFrom cX12_valueFrom 5 (some .int) { frames := 2, cells := 0, slots := 0, locals := 120 } D [.ref (a 200), .int (i2 p0), .int (i2 p1)] (RW D a s) (i2 o) := by
  refine Met.ofW (cc := cX12_valueFrom) (maxL := 5) (ret := (some .int)) (by decide) rfl ?_
  intro p e s₀ m args below meth c s₁ B hml hv
  obtain ⟨rfl, ⟨hP, hK⟩, hN⟩ := hv
  have hx := B.exec
  have hb := B.bytes
  have hr := B.returns
  have hts := atoms_spec (ws := wz yX12_valueFrom cX12_valueFrom 5 (some .int)) B.pre
  have ht : ∀ w ∈ lw_gd, w.before _ s₀ = true := fun w h => hts w (List.mem_cons_of_mem _ h)
  have hown : s₀.vm.findClass RX12 = some m.cls := findClass_of_methodNamed B.named
  have hlocks := B.notSynchronized
  have hS : va_S (fun _ => False) s₀.heap s₀.heap [] := va_S.rf
  have hl := lv_entry ([.ref (a 200), .int (i2 p0), .int (i2 p1)]) (n := 5) (Nat.le_of_ble_eq_true rfl)
  rw [lg_entry_eq]
  generalize (lg_sl ([.ref (a 200), .int (i2 p0), .int (i2 p1)]) ++ List.replicate (5 - (lg_sl ([.ref (a 200), .int (i2 p0), .int (i2 p1)])).length) Slot.unset).toArray = ls at hl ⊢
  have hl : lv_has ls 5 [(0, .ref (a 200)), (1, .int (i2 p0)), (2, .int (i2 p1))] := hl
  unfold m_x12_valueFrom at h
  refine y_head (pcJ := 74) (σ := Int) (fun u H locs ls => va_P D vwCl (RW D a s) H ∧ va_S (fun _ => False) s₀.heap H locs ∧ lv_has ls 5 [] ∧ m_x12_valueFrom_J74 s u = some o) (fun u => [.int (i2 u)]) (fun u H locs ls hI => ?_) (fun J74 => ?_)
  · obtain ⟨hP, hS, hl, h⟩ := hI
    obtain ⟨x1, rfl⟩ : ∃ z, z = u := ⟨u, rfl⟩
    have hP : va_P D vwCl (RW D a s) H := hP
    have hl : lv_has ls 5 [] := hl
    have h : m_x12_valueFrom_J74 s x1 = some o := h
    unfold m_x12_valueFrom_J74 at h
    obtain rfl := Option.some.inj h
    exact W.iret (v := (i2 x1)) hx hb hr (fun t ht hW => ⟨⟨_, (), rfl, rfl, trivial⟩, hS.F ht⟩) hS.2.2 eX12_valueFrom_65.2.2.2.2.1
  refine y_head (pcJ := 73) (σ := Unit) (fun u H locs ls => va_P D vwCl (RW D a s) H ∧ va_S (fun _ => False) s₀.heap H locs ∧ lv_has ls 5 [] ∧ m_x12_valueFrom_J73 s u = some o) (fun u => []) (fun u H locs ls hI => ?_) (fun J73 => ?_)
  · obtain ⟨hP, hS, hl, h⟩ := hI
    skip
    have hP : va_P D vwCl (RW D a s) H := hP
    have hl : lv_has ls 5 [] := hl
    have h : m_x12_valueFrom_J73 s () = some o := h
    unfold m_x12_valueFrom_J73 at h
    refine lv_iconst (v := (-1)) hx hb eX12_valueFrom_65.2.2.2.1 (by decide) ?_
    exact J74 (-1) _ _ _ ⟨hP, hS, lv_sub hl [] rfl, h⟩
  refine y_loop (pcJ := 11) (σ := Int × Int) (fun n u H locs ls => va_P D vwCl (RW D a s) H ∧ va_S (fun _ => False) s₀.heap H locs ∧ lv_has ls 5 [(0, .ref (a 200)), (2, .int (i2 u.1)), (3, .int (i2 u.2))] ∧ m_x12_valueFrom_L11 s n u.1 u.2 = some o) (fun u => []) (fun u H locs ls hI => by obtain ⟨_, _, _, h⟩ := hI; cases h) (fun n11 ih11 u H locs ls hI => ?_) (fun J11 => ?_)
  · obtain ⟨hP, hS, hl, h⟩ := hI
    obtain ⟨x2, x3⟩ := u
    have hP : va_P D vwCl (RW D a s) H := hP
    have hl : lv_has ls 5 [(0, .ref (a 200)), (2, .int (i2 x2)), (3, .int (i2 x3))] := hl
    have h : m_x12_valueFrom_b11 s (m_x12_valueFrom_L11 s n11) x2 x3 = some o := h
    unfold m_x12_valueFrom_b11 at h
    refine lv_aload_n hx hb eX12_valueFrom_10.2.1 rfl (lv_at hl 0 rfl) ?_
    refine lv_iload_n hx hb eX12_valueFrom_10.2.2.1 rfl (lv_at hl 2 rfl) ?_
    obtain ⟨r5, hc4, h⟩ := bn_e h
    refine ycV (r0 := i2 r5) (As := [.int (i2 x3)]) (rest := []) (C := RX12) (n := 1) ⟨hx, hb, hml, hown, ht⟩ (k_x12_levelOf l D a x3 _ _ hc4) (zgV ml_X12_460 im_X12_levelOf se_X12_levelOf in_X12 co_X12_levelOf) rfl rfl (by decide +kernel) ⟨Nat.le_of_ble_eq_true rfl, Nat.le_of_ble_eq_true rfl⟩ hN hK hP hS 0 RW_0 rfl rfl rfl hl.1 rfl (Nat.le_of_ble_eq_true rfl) eX12_valueFrom_10.2.2.2.1 ⟨Nat.le_of_ble_eq_true rfl, Nat.le_of_ble_eq_true rfl⟩ (fun H locs hP hS => ?_)
    obtain ⟨hr6, h⟩ := rg_e h
    refine lv_if_le (tgt := 34) hx hb eX12_valueFrom_10.2.2.2.2.1 (by decide) (fun c7 => ?_) (fun c7 => ?_)
    · have h := if_t ((i2_le (x := r5) (y := 0) hr6 (by decide)).mp c7) h
      refine lv_aload_n hx hb eX12_valueFrom_22.2.2.2.2.2.2.1 rfl (lv_at hl 0 rfl) ?_
      refine lv_iload_n hx hb eX12_valueFrom_22.2.2.2.2.2.2.2 rfl (lv_at hl 2 rfl) ?_
      refine lv_iload_n hx hb eX12_valueFrom_36.1 rfl (lv_at hl 1 rfl) ?_
      obtain ⟨r9, hc8, h⟩ := bn_e h
      refine ycV (r0 := i2 r9) (As := [.int (i2 x3), .int (i2 x2)]) (rest := []) (C := RX12) (n := 2) ⟨hx, hb, hml, hown, ht⟩ (k_x12_placeIn l D a x3 x2 _ _ hc8) (zgV ml_X12_550 im_X12_placeIn se_X12_placeIn in_X12 co_X12_placeIn) rfl rfl (by decide +kernel) ⟨Nat.le_of_ble_eq_true rfl, Nat.le_of_ble_eq_true rfl⟩ hN hK hP hS 0 RW_0 rfl rfl rfl hl.1 rfl (Nat.le_of_ble_eq_true rfl) eX12_valueFrom_36.2.1 ⟨Nat.le_of_ble_eq_true rfl, Nat.le_of_ble_eq_true rfl⟩ (fun H locs hP hS => ?_)
      refine lv_istore (lv' := [(4, .int (i2 r9)), (0, .ref (a 200)), (2, .int (i2 x2)), (3, .int (i2 x3))]) hx hb eX12_valueFrom_36.2.2.1 hl (by decide) rfl (fun ls hl => ?_)
      refine lv_iload hx hb eX12_valueFrom_36.2.2.2.1 (lv_at hl 0 rfl) ?_
      refine lv_aload_n hx hb eX12_valueFrom_36.2.2.2.2.1 rfl (lv_at hl 1 rfl) ?_
      refine lv_iload_n hx hb eX12_valueFrom_36.2.2.2.2.2.1 rfl (lv_at hl 3 rfl) ?_
      obtain ⟨r11, hc10, h⟩ := bn_e h
      refine ycV (r0 := i2 r11) (As := [.int (i2 x3)]) (rest := [.int (i2 r9)]) (C := RX12) (n := 1) ⟨hx, hb, hml, hown, ht⟩ (k_x12_entriesOf l D a x3 _ _ hc10) (zgV ml_X12_466 im_X12_entriesOf se_X12_entriesOf in_X12 co_X12_entriesOf) rfl rfl (by decide +kernel) ⟨Nat.le_of_ble_eq_true rfl, Nat.le_of_ble_eq_true rfl⟩ hN hK hP hS 0 RW_0 rfl rfl rfl hl.1 rfl (Nat.le_of_ble_eq_true rfl) eX12_valueFrom_36.2.2.2.2.2.2.1 ⟨Nat.le_of_ble_eq_true rfl, Nat.le_of_ble_eq_true rfl⟩ (fun H locs hP hS => ?_)
      obtain ⟨hr12, h⟩ := rg_e h
      obtain ⟨hr13, h⟩ := rg_e h
      refine lv_icmp_ge (tgt := 73) hx hb eX12_valueFrom_36.2.2.2.2.2.2.2 (by decide) (fun c14 => ?_) (fun c14 => ?_)
      · have h := if_t ((i2_le (x := r11) (y := r9) hr13 hr12).mp c14) h
        exact J73 () _ _ _ ⟨hP, hS, lv_sub hl [] rfl, h⟩
      · have h := if_f (mt (i2_le (x := r11) (y := r9) hr13 hr12).mpr c14) h
        refine lv_aload_n hx hb eX12_valueFrom_52.1 rfl (lv_at hl 1 rfl) ?_
        refine lv_iload_n hx hb eX12_valueFrom_52.2.1 rfl (lv_at hl 3 rfl) ?_
        refine lv_iload hx hb eX12_valueFrom_52.2.2.1 (lv_at hl 0 rfl) ?_
        obtain ⟨r16, hc15, h⟩ := bn_e h
        refine ycV (r0 := i2 r16) (As := [.int (i2 x3), .int (i2 r9)]) (rest := []) (C := RX12) (n := 2) ⟨hx, hb, hml, hown, ht⟩ (k_x12_keyAt l D a x3 r9 _ _ hc15) (zgV ml_X12_517 im_X12_keyAt se_X12_keyAt in_X12 co_X12_keyAt) rfl rfl (by decide +kernel) ⟨Nat.le_of_ble_eq_true rfl, Nat.le_of_ble_eq_true rfl⟩ hN hK hP hS 0 RW_0 rfl rfl rfl hl.1 rfl (Nat.le_of_ble_eq_true rfl) eX12_valueFrom_52.2.2.2.1 ⟨Nat.le_of_ble_eq_true rfl, Nat.le_of_ble_eq_true rfl⟩ (fun H locs hP hS => ?_)
        refine lv_iload_n hx hb eX12_valueFrom_52.2.2.2.2.1 rfl (lv_at hl 2 rfl) ?_
        obtain ⟨hr17, h⟩ := rg_e h
        obtain ⟨hr18, h⟩ := rg_e h
        refine lv_icmp_ne (tgt := 73) hx hb eX12_valueFrom_52.2.2.2.2.2.1 (by decide) (fun c19 => ?_) (fun c19 => ?_)
        · have h := if_f (mt (i2_eq (x := r16) (y := x2) hr17 hr18).mpr c19) h
          exact J73 () _ _ _ ⟨hP, hS, lv_sub hl [] rfl, h⟩
        · have h := if_t ((i2_eq (x := r16) (y := x2) hr17 hr18).mp c19) h
          refine lv_aload_n hx hb eX12_valueFrom_52.2.2.2.2.2.2.1 rfl (lv_at hl 1 rfl) ?_
          refine lv_iload_n hx hb eX12_valueFrom_52.2.2.2.2.2.2.2 rfl (lv_at hl 3 rfl) ?_
          refine lv_iload hx hb eX12_valueFrom_65.1 (lv_at hl 0 rfl) ?_
          obtain ⟨r21, hc20, h⟩ := bn_e h
          refine ycV (r0 := i2 r21) (As := [.int (i2 x3), .int (i2 r9)]) (rest := []) (C := RX12) (n := 2) ⟨hx, hb, hml, hown, ht⟩ (k_x12_valueAt l D a x3 r9 _ _ hc20) (zgV ml_X12_505 im_X12_valueAt se_X12_valueAt in_X12 co_X12_valueAt) rfl rfl (by decide +kernel) ⟨Nat.le_of_ble_eq_true rfl, Nat.le_of_ble_eq_true rfl⟩ hN hK hP hS 0 RW_0 rfl rfl rfl hl.1 rfl (Nat.le_of_ble_eq_true rfl) eX12_valueFrom_65.2.1 ⟨Nat.le_of_ble_eq_true rfl, Nat.le_of_ble_eq_true rfl⟩ (fun H locs hP hS => ?_)
          refine lv_goto (tgt := 74) hx hb eX12_valueFrom_65.2.2.1 (by decide) ?_
          exact J74 r21 _ _ _ ⟨hP, hS, lv_sub hl [] rfl, h⟩
    · have h := if_f (mt (i2_le (x := r5) (y := 0) hr6 (by decide)).mpr c7) h
      refine lv_aload_n hx hb eX12_valueFrom_10.2.2.2.2.2.1 rfl (lv_at hl 0 rfl) ?_
      refine lv_iload_n hx hb eX12_valueFrom_10.2.2.2.2.2.2.1 rfl (lv_at hl 2 rfl) ?_
      refine lv_aload_n hx hb eX12_valueFrom_10.2.2.2.2.2.2.2 rfl (lv_at hl 0 rfl) ?_
      refine lv_iload_n hx hb eX12_valueFrom_22.1 rfl (lv_at hl 2 rfl) ?_
      refine lv_iload_n hx hb eX12_valueFrom_22.2.1 rfl (lv_at hl 1 rfl) ?_
      obtain ⟨r23, hc22, h⟩ := bn_e h
      refine ycV (r0 := i2 r23) (As := [.int (i2 x3), .int (i2 x2)]) (rest := [.int (i2 x3), .ref (a 200)]) (C := RX12) (n := 2) ⟨hx, hb, hml, hown, ht⟩ (k_x12_placeFor l D a x3 x2 _ _ hc22) (zgV ml_X12_543 im_X12_placeFor se_X12_placeFor in_X12 co_X12_placeFor) rfl rfl (by decide +kernel) ⟨Nat.le_of_ble_eq_true rfl, Nat.le_of_ble_eq_true rfl⟩ hN hK hP hS 0 RW_0 rfl rfl rfl hl.1 rfl (Nat.le_of_ble_eq_true rfl) eX12_valueFrom_22.2.2.1 ⟨Nat.le_of_ble_eq_true rfl, Nat.le_of_ble_eq_true rfl⟩ (fun H locs hP hS => ?_)
      obtain ⟨r25, hc24, h⟩ := bn_e h
      refine ycV (r0 := i2 r25) (As := [.int (i2 x3), .int (i2 r23)]) (rest := []) (C := RX12) (n := 2) ⟨hx, hb, hml, hown, ht⟩ (k_x12_valueAt l D a x3 r23 _ _ hc24) (zgV ml_X12_505 im_X12_valueAt se_X12_valueAt in_X12 co_X12_valueAt) rfl rfl (by decide +kernel) ⟨Nat.le_of_ble_eq_true rfl, Nat.le_of_ble_eq_true rfl⟩ hN hK hP hS 0 RW_0 rfl rfl rfl hl.1 rfl (Nat.le_of_ble_eq_true rfl) eX12_valueFrom_22.2.2.2.1 ⟨Nat.le_of_ble_eq_true rfl, Nat.le_of_ble_eq_true rfl⟩ (fun H locs hP hS => ?_)
      refine lv_istore_n (lv' := [(3, .int (i2 r25)), (0, .ref (a 200)), (2, .int (i2 x2))]) hx hb eX12_valueFrom_22.2.2.2.2.1 rfl hl (by decide) rfl (fun ls hl => ?_)
      refine lv_goto (tgt := 11) hx hb eX12_valueFrom_22.2.2.2.2.2.1 (by decide) ?_
      exact ih11 (x2, r25) _ _ _ ⟨hP, hS, lv_sub hl [1, 2, 0] rfl, h⟩
  refine lv_iload_n hx hb eX12_tries_196.2.2.1 rfl (lv_at hl 1 rfl) ?_
  refine lv_sipush (v := 254) hx hb eX12_tries_196.2.2.2.1 (by decide) ?_
  obtain ⟨hr26, h⟩ := rg_e h
  refine lv_icmp_lt (tgt := 9) hx hb eX12_tries_196.2.2.2.2.1 (by decide) (fun c27 => ?_) (fun c27 => ?_)
  · have h := if_t ((i2_lt (x := p0) (y := 254) hr26 (by decide)).mp c27) h
    refine lv_iload_n hx hb eX12_tries_196.2.2.2.2.2.2.2 rfl (lv_at hl 1 rfl) ?_
    refine lv_istore_n (lv' := [(3, .int (i2 p0)), (0, .ref (a 200)), (1, .int (i2 p0)), (2, .int (i2 p1))]) hx hb eX12_valueFrom_10.1 rfl hl (by decide) rfl (fun ls hl => ?_)
    exact J11 FU (p1, p0) _ _ _ ⟨hP, hS, lv_sub hl [1, 3, 0] rfl, h⟩
  · have h := if_f (mt (i2_lt (x := p0) (y := 254) hr26 (by decide)).mpr c27) h
    refine lv_iconst (v := (-1)) hx hb eX12_tries_196.2.2.2.2.2.1 (by decide) ?_
    obtain rfl := Option.some.inj h
    exact W.iret (v := (-1)) hx hb hr (fun t ht hW => ⟨⟨_, (), rfl, rfl, trivial⟩, hS.F ht⟩) hS.2.2 eX12_tries_196.2.2.2.2.2.2.1
set_option maxHeartbeats 4000000 in
set_option maxRecDepth 100000 in
theorem k_x12_valueOf (l : Launch) (D : va_G) (a : Nat → Nat) (p0 : Int) (p1 : Int) (s : MS) (o : Int) (h : m_x12_valueOf p0 p1 s = some o) : yRi l yX12_valueOf cX12_valueOf 3 (some .int) { frames := 3, cells := 0, slots := 0, locals := 180 } D [.ref (a 200), .int (i2 p0), .int (i2 p1)] (RW D a s) (i2 o) := by
  refine Met.ofW (cc := cX12_valueOf) (maxL := 3) (ret := (some .int)) (by decide) rfl ?_
  intro p e s₀ m args below meth c s₁ B hml hv
  obtain ⟨rfl, ⟨hP, hK⟩, hN⟩ := hv
  have hx := B.exec
  have hb := B.bytes
  have hr := B.returns
  have hts := atoms_spec (ws := wz yX12_valueOf cX12_valueOf 3 (some .int)) B.pre
  have ht : ∀ w ∈ lw_gd, w.before _ s₀ = true := fun w h => hts w (List.mem_cons_of_mem _ h)
  have hown : s₀.vm.findClass RX12 = some m.cls := findClass_of_methodNamed B.named
  have hlocks := B.notSynchronized
  have hS : va_S (fun _ => False) s₀.heap s₀.heap [] := va_S.rf
  have hl := lv_entry ([.ref (a 200), .int (i2 p0), .int (i2 p1)]) (n := 3) (Nat.le_of_ble_eq_true rfl)
  rw [lg_entry_eq]
  generalize (lg_sl ([.ref (a 200), .int (i2 p0), .int (i2 p1)]) ++ List.replicate (3 - (lg_sl ([.ref (a 200), .int (i2 p0), .int (i2 p1)])).length) Slot.unset).toArray = ls at hl ⊢
  have hl : lv_has ls 3 [(0, .ref (a 200)), (1, .int (i2 p0)), (2, .int (i2 p1))] := hl
  unfold m_x12_valueOf at h
  refine lv_aload_n hx hb eX12_valueFrom_65.2.2.2.2.2.1 rfl (lv_at hl 0 rfl) ?_
  refine lv_aload_n hx hb eX12_valueFrom_65.2.2.2.2.2.2.1 rfl (lv_at hl 0 rfl) ?_
  refine va_get (D := D) (ci := 12) (v := .ref (a 49)) (C := RX12) (T := TX12) (N := 116) hx hb ht inX12 hown hK hP 0 RW_0 rfl 49 (by decide) (ht (.fieldLink RX12 121 "CloneVolumesModel" "now" "[I") fl_X12_121) (fun _ h9 => h9) mF_49 eX12_valueFrom_65.2.2.2.2.2.2.2 ?_
  refine lv_iload_n hx hb eX12_valueOf_5.1 rfl (lv_at hl 1 rfl) ?_
  obtain ⟨y1, ey1, iy1, h⟩ := rdI_e h
  refine ya_iald (i := p0) hx hb hK hP 36 0 RW_36 rfl (by decide) ey1 iy1 eX12_valueOf_5.2.1 ?_
  refine lv_iload_n hx hb eX12_valueOf_5.2.2.1 rfl (lv_at hl 2 rfl) ?_
  obtain ⟨r3, hc2, h⟩ := bn_e h
  refine ycV (r0 := i2 r3) (As := [.int (i2 y1), .int (i2 p1)]) (rest := []) (C := RX12) (n := 2) ⟨hx, hb, hml, hown, ht⟩ (k_x12_valueFrom l D a y1 p1 _ _ hc2) (zgV ml_X12_621 im_X12_valueFrom se_X12_valueFrom in_X12 co_X12_valueFrom) rfl rfl (by decide +kernel) ⟨Nat.le_of_ble_eq_true rfl, Nat.le_of_ble_eq_true rfl⟩ hN hK hP hS 0 RW_0 rfl rfl rfl hl.1 rfl (Nat.le_of_ble_eq_true rfl) eX12_valueOf_5.2.2.2.1 ⟨Nat.le_of_ble_eq_true rfl, Nat.le_of_ble_eq_true rfl⟩ (fun H locs hP hS => ?_)
  obtain rfl := Option.some.inj h
  exact W.iret (v := (i2 r3)) hx hb hr (fun t ht hW => ⟨⟨_, (), rfl, rfl, trivial⟩, hS.F ht⟩) hS.2.2 eX12_valueOf_5.2.2.2.2
set_option maxHeartbeats 4000000 in
set_option maxRecDepth 100000 in
theorem k_x12_tries (l : Launch) (D : va_G) (a : Nat → Nat) (p0 : Int) (p1 : Int) (p2 : Int) (p3 : Int) (sz : Nat) (s : MS) (o : (Int × MS)) (h : m_x12_tries p0 p1 p2 p3 s = some o) : yWi l yX12_tries cX12_tries 6 (some .boolean) { frames := 9, cells := 0, slots := 0, locals := 540 } D sz [.ref (a 200), .int (i2 p0), .int (i2 p1), .int (i2 p2), .int (i2 p3)] (RW D a s) (RW D a o.2) (i2 o.1) := by
  refine Met.ofW (cc := cX12_tries) (maxL := 6) (ret := (some .boolean)) (by decide) rfl ?_
  intro p e s₀ m args below meth c s₁ B hml hv
  obtain ⟨rfl, ⟨hsz, hP, hK, hD0⟩, hN⟩ := hv
  have hx := B.exec
  have hb := B.bytes
  have hr := B.returns
  have hts := atoms_spec (ws := wz yX12_tries cX12_tries 6 (some .boolean)) B.pre
  have ht : ∀ w ∈ lw_gd, w.before _ s₀ = true := fun w h => hts w (List.mem_cons_of_mem _ h)
  have hown : s₀.vm.findClass RX12 = some m.cls := findClass_of_methodNamed B.named
  have hlocks := B.notSynchronized
  subst hsz
  have hD := hD0.self (sz := s₀.heap.size)
  generalize hAe : va_A (RW D a s) s₀.heap.size = A at hD ⊢
  have hA : ∀ q : Nat, s₀.heap.size ≤ q → A q := fun q h => by rw [← hAe]; exact Or.inr h
  have hS : va_S A s₀.heap s₀.heap [] := va_S.rf
  have hDD : ∀ t : MS, va_D A (RW D a t) := fun t => RW_D t hD
  have hl := lv_entry ([.ref (a 200), .int (i2 p0), .int (i2 p1), .int (i2 p2), .int (i2 p3)]) (n := 6) (Nat.le_of_ble_eq_true rfl)
  rw [lg_entry_eq]
  generalize (lg_sl ([.ref (a 200), .int (i2 p0), .int (i2 p1), .int (i2 p2), .int (i2 p3)]) ++ List.replicate (6 - (lg_sl ([.ref (a 200), .int (i2 p0), .int (i2 p1), .int (i2 p2), .int (i2 p3)])).length) Slot.unset).toArray = ls at hl ⊢
  have hl : lv_has ls 6 [(0, .ref (a 200)), (1, .int (i2 p0)), (2, .int (i2 p1)), (3, .int (i2 p2)), (4, .int (i2 p3))] := hl
  unfold m_x12_tries at h
  refine y_loop (pcJ := 164) (σ := Int × MS) (fun n u H locs ls => va_P D vwCl (RW D a u.2) H ∧ va_S A s₀.heap H locs ∧ lv_has ls 6 [(0, .ref (a 200)), (5, .int (i2 u.1))] ∧ m_x12_tries_L164 n u.1 u.2 = some o) (fun u => []) (fun u H locs ls hI => by obtain ⟨_, _, _, h⟩ := hI; cases h) (fun n164 ih164 u H locs ls hI => ?_) (fun J164 => ?_)
  · obtain ⟨hP, hS, hl, h⟩ := hI
    obtain ⟨x1, s2⟩ := u
    have hP : va_P D vwCl (RW D a s2) H := hP
    have hl : lv_has ls 6 [(0, .ref (a 200)), (5, .int (i2 x1))] := hl
    have h : m_x12_tries_b164 (m_x12_tries_L164 n164) x1 s2 = some o := h
    unfold m_x12_tries_b164 at h
    refine lv_iload hx hb eX12_tries_164.1 (lv_at hl 1 rfl) ?_
    refine lv_bipush (v := 48) hx hb eX12_tries_164.2.1 (by decide) ?_
    obtain ⟨hr3, h⟩ := rg_e h
    refine lv_icmp_ge (tgt := 191) hx hb eX12_tries_164.2.2.1 (by decide) (fun c4 => ?_) (fun c4 => ?_)
    · have h := if_t ((i2_le (x := 48) (y := x1) (by decide) hr3).mp c4) h
      refine lv_aload_n hx hb eX12_tries_181.2.2.2.2.2.1 rfl (lv_at hl 0 rfl) ?_
      refine lv_iconst (v := 0) hx hb eX12_tries_181.2.2.2.2.2.2.1 (by decide) ?_
      refine ya_put (D := D) (ci := 12) (v := .int 0) (ty := .boolean) (C := RX12) (T := TX12) (N := 116) hx hb ht inX12 tyX12 tyX12_ok nmX12 hown hK hP (hDD _) hS 0 RW_0 rfl 55 (by decide) (ht (.fieldLink RX12 493 "CloneVolumesModel" "isFull" "Z") fl_X12_493) (fun _ h9 => h9) rfl (by decide +kernel) (by decide) (by decide) (by rw [mF_len]; decide) eX12_tries_181.2.2.2.2.2.2.2 (RW_f55 0) (fun H locs hP hS => ?_)
      obtain ⟨s5, hs5, h⟩ := st_e h
      rw [hs5] at hP
      refine lv_iconst (v := 0) hx hb eX12_tries_196.1 (by decide) ?_
      obtain rfl := Option.some.inj h
      exact W.zret (v := 0) hx hb hr (by decide) (fun t ht hW => ⟨⟨_, (), rfl, rfl, by rw [ht]; exact hP, va_K.moved hW.alike hK, hDD _⟩, hS.F ht⟩) hS.2.2 eX12_tries_196.2.1
    · have h := if_f (mt (i2_le (x := 48) (y := x1) (by decide) hr3).mpr c4) h
      refine lv_aload_n hx hb eX12_tries_164.2.2.2.1 rfl (lv_at hl 0 rfl) ?_
      refine va_get (D := D) (ci := 12) (v := .ref (a 54)) (C := RX12) (T := TX12) (N := 116) hx hb ht inX12 hown hK hP 0 RW_0 rfl 54 (by decide) (ht (.fieldLink RX12 124 "CloneVolumesModel" "isTouched" "[Z") fl_X12_124) (fun _ h9 => h9) mF_54 eX12_tries_164.2.2.2.2.1 ?_
      refine lv_iload hx hb eX12_tries_164.2.2.2.2.2.1 (lv_at hl 1 rfl) ?_
      refine lv_aload_n hx hb eX12_tries_164.2.2.2.2.2.2.1 rfl (lv_at hl 0 rfl) ?_
      refine va_get (D := D) (ci := 12) (v := .ref (a 60)) (C := RX12) (T := TX12) (N := 116) hx hb ht inX12 hown hK hP 0 RW_0 rfl 60 (by decide) (ht (.fieldLink RX12 140 "CloneVolumesModel" "wasTouched" "[Z") fl_X12_140) (fun _ h9 => h9) mF_60 eX12_tries_164.2.2.2.2.2.2.2 ?_
      refine lv_iload hx hb eX12_tries_181.1 (lv_at hl 1 rfl) ?_
      obtain ⟨y6, ey6, iy6, h⟩ := rdI_e h
      refine ya_zald (i := x1) hx hb hK hP 42 3 RW_42 rfl (by decide) ey6 iy6 eX12_tries_181.2.1 ?_
      obtain ⟨hi7, h⟩ := inb_e h
      obtain ⟨hb8, h⟩ := bo_e h
      refine ya_zast (i := x1) (x := y6) hx hb hK hP (hDD _) hS 37 3 RW_37 rfl (by decide) hi7 hb8 eX12_tries_181.2.2.1 (RW_w37 _) (fun H locs hP hS => ?_)
      obtain ⟨s9, hs9, h⟩ := st_e h
      rw [hs9] at hP
      refine lv_iinc (v := i2 (x1 + 1)) (lv' := [(5, .int (i2 (x1 + 1))), (0, .ref (a 200))]) hx hb eX12_tries_181.2.2.2.1 hl (k := 1) rfl (i2_add x1 1) (by decide) rfl (fun ls hl => ?_)
      refine lv_goto (tgt := 164) hx hb eX12_tries_181.2.2.2.2.1 (by decide) ?_
      exact ih164 (x1 + 1, s9) _ _ _ ⟨hP, hS, lv_sub hl [1, 0] rfl, h⟩
  refine y_loop (pcJ := 133) (σ := Int × MS) (fun n u H locs ls => va_P D vwCl (RW D a u.2) H ∧ va_S A s₀.heap H locs ∧ lv_has ls 6 [(0, .ref (a 200)), (5, .int (i2 u.1))] ∧ m_x12_tries_L133 n u.1 u.2 = some o) (fun u => []) (fun u H locs ls hI => by obtain ⟨_, _, _, h⟩ := hI; cases h) (fun n133 ih133 u H locs ls hI => ?_) (fun J133 => ?_)
  · obtain ⟨hP, hS, hl, h⟩ := hI
    obtain ⟨x10, s11⟩ := u
    have hP : va_P D vwCl (RW D a s11) H := hP
    have hl : lv_has ls 6 [(0, .ref (a 200)), (5, .int (i2 x10))] := hl
    have h : m_x12_tries_b133 (m_x12_tries_L133 n133) x10 s11 = some o := h
    unfold m_x12_tries_b133 at h
    refine lv_iload hx hb eX12_tries_131.2.1 (lv_at hl 1 rfl) ?_
    refine lv_sipush (v := 785) hx hb eX12_tries_131.2.2.1 (by decide) ?_
    obtain ⟨hr12, h⟩ := rg_e h
    refine lv_icmp_ge (tgt := 161) hx hb eX12_tries_131.2.2.2.1 (by decide) (fun c13 => ?_) (fun c13 => ?_)
    · have h := if_t ((i2_le (x := 785) (y := x10) (by decide) hr12).mp c13) h
      refine lv_iconst (v := 0) hx hb eX12_tries_148.2.2.2.2.2.2.1 (by decide) ?_
      refine lv_istore (lv' := [(5, .int 0), (0, .ref (a 200))]) hx hb eX12_tries_148.2.2.2.2.2.2.2 hl (by decide) rfl (fun ls hl => ?_)
      exact J164 FU (0, s11) _ _ _ ⟨hP, hS, lv_sub hl [1, 0] rfl, h⟩
    · have h := if_f (mt (i2_le (x := 785) (y := x10) (by decide) hr12).mpr c13) h
      refine lv_aload_n hx hb eX12_tries_131.2.2.2.2.1 rfl (lv_at hl 0 rfl) ?_
      refine va_get (D := D) (ci := 12) (v := .ref (a 49)) (C := RX12) (T := TX12) (N := 116) hx hb ht inX12 hown hK hP 0 RW_0 rfl 49 (by decide) (ht (.fieldLink RX12 121 "CloneVolumesModel" "now" "[I") fl_X12_121) (fun _ h9 => h9) mF_49 eX12_tries_131.2.2.2.2.2.1 ?_
      refine lv_iload hx hb eX12_tries_131.2.2.2.2.2.2.1 (lv_at hl 1 rfl) ?_
      refine lv_aload_n hx hb eX12_tries_131.2.2.2.2.2.2.2 rfl (lv_at hl 0 rfl) ?_
      refine va_get (D := D) (ci := 12) (v := .ref (a 59)) (C := RX12) (T := TX12) (N := 116) hx hb ht inX12 hown hK hP 0 RW_0 rfl 59 (by decide) (ht (.fieldLink RX12 137 "CloneVolumesModel" "tried" "[I") fl_X12_137) (fun _ h9 => h9) mF_59 eX12_tries_148.1 ?_
      refine lv_iload hx hb eX12_tries_148.2.1 (lv_at hl 1 rfl) ?_
      obtain ⟨y14, ey14, iy14, h⟩ := rdI_e h
      refine ya_iald (i := x10) hx hb hK hP 41 0 RW_41 rfl (by decide) ey14 iy14 eX12_tries_148.2.2.1 ?_
      obtain ⟨hi15, h⟩ := inb_e h
      refine ya_iast (i := x10) (x := y14) hx hb hK hP (hDD _) hS 36 0 RW_36 rfl (by decide) hi15 eX12_tries_148.2.2.2.1 (RW_w36 _) (fun H locs hP hS => ?_)
      obtain ⟨s16, hs16, h⟩ := st_e h
      rw [hs16] at hP
      refine lv_iinc (v := i2 (x10 + 1)) (lv' := [(5, .int (i2 (x10 + 1))), (0, .ref (a 200))]) hx hb eX12_tries_148.2.2.2.2.1 hl (k := 1) rfl (i2_add x10 1) (by decide) rfl (fun ls hl => ?_)
      refine lv_goto (tgt := 133) hx hb eX12_tries_148.2.2.2.2.2.1 (by decide) ?_
      exact ih133 (x10 + 1, s16) _ _ _ ⟨hP, hS, lv_sub hl [1, 0] rfl, h⟩
  refine y_head (pcJ := 121) (σ := MS) (fun u H locs ls => va_P D vwCl (RW D a u) H ∧ va_S A s₀.heap H locs ∧ lv_has ls 6 [(0, .ref (a 200))] ∧ m_x12_tries_J121 u = some o) (fun u => []) (fun u H locs ls hI => ?_) (fun J121 => ?_)
  · obtain ⟨hP, hS, hl, h⟩ := hI
    obtain ⟨s17, rfl⟩ : ∃ z, z = u := ⟨u, rfl⟩
    have hP : va_P D vwCl (RW D a s17) H := hP
    have hl : lv_has ls 6 [(0, .ref (a 200))] := hl
    have h : m_x12_tries_J121 s17 = some o := h
    unfold m_x12_tries_J121 at h
    refine lv_aload_n hx hb eX12_tries_117.2.2.1 rfl (lv_at hl 0 rfl) ?_
    refine va_get (D := D) (ci := 12) (v := .int (i2 (gI s17 55))) (C := RX12) (T := TX12) (N := 116) hx hb ht inX12 hown hK hP 0 RW_0 rfl 55 (by decide) (ht (.fieldLink RX12 493 "CloneVolumesModel" "isFull" "Z") fl_X12_493) (fun _ h9 => h9) mF_55 eX12_tries_117.2.2.2.1 ?_
    obtain ⟨hr18, h⟩ := rg_e h
    refine lv_if_ne (tgt := 130) hx hb eX12_tries_117.2.2.2.2.1 (by decide) (fun c19 => ?_) (fun c19 => ?_)
    · have h := if_f (mt (i2_eq (x := (gI s17 55)) (y := 0) hr18 (by decide)).mpr c19) h
      refine lv_iconst (v := 0) hx hb eX12_tries_117.2.2.2.2.2.2.2 (by decide) ?_
      refine lv_istore (lv' := [(5, .int 0), (0, .ref (a 200))]) hx hb eX12_tries_131.1 hl (by decide) rfl (fun ls hl => ?_)
      exact J133 FU (0, s17) _ _ _ ⟨hP, hS, lv_sub hl [1, 0] rfl, h⟩
    · have h := if_t ((i2_eq (x := (gI s17 55)) (y := 0) hr18 (by decide)).mp c19) h
      refine lv_iconst (v := 1) hx hb eX12_tries_117.2.2.2.2.2.1 (by decide) ?_
      obtain rfl := Option.some.inj h
      exact W.zret (v := 1) hx hb hr (by decide) (fun t ht hW => ⟨⟨_, (), rfl, rfl, by rw [ht]; exact hP, va_K.moved hW.alike hK, hDD _⟩, hS.F ht⟩) hS.2.2 eX12_tries_117.2.2.2.2.2.2.1
  refine y_head (pcJ := 108) (σ := Int × Int × MS) (fun u H locs ls => va_P D vwCl (RW D a u.2.2) H ∧ va_S A s₀.heap H locs ∧ lv_has ls 6 [(0, .ref (a 200)), (2, .int (i2 u.1)), (3, .int (i2 u.2.1))] ∧ m_x12_tries_J108 u.1 u.2.1 u.2.2 = some o) (fun u => []) (fun u H locs ls hI => ?_) (fun J108 => ?_)
  · obtain ⟨hP, hS, hl, h⟩ := hI
    obtain ⟨x20, x21, s22⟩ := u
    have hP : va_P D vwCl (RW D a s22) H := hP
    have hl : lv_has ls 6 [(0, .ref (a 200)), (2, .int (i2 x20)), (3, .int (i2 x21))] := hl
    have h : m_x12_tries_J108 x20 x21 s22 = some o := h
    unfold m_x12_tries_J108 at h
    refine lv_aload_n hx hb eX12_tries_100.2.2.2.1 rfl (lv_at hl 0 rfl) ?_
    refine va_get (D := D) (ci := 12) (v := .int (i2 (gI s22 55))) (C := RX12) (T := TX12) (N := 116) hx hb ht inX12 hown hK hP 0 RW_0 rfl 55 (by decide) (ht (.fieldLink RX12 493 "CloneVolumesModel" "isFull" "Z") fl_X12_493) (fun _ h9 => h9) mF_55 eX12_tries_100.2.2.2.2.1 ?_
    obtain ⟨hr23, h⟩ := rg_e h
    refine lv_if_ne (tgt := 121) hx hb eX12_tries_100.2.2.2.2.2.1 (by decide) (fun c24 => ?_) (fun c24 => ?_)
    · have h := if_f (mt (i2_eq (x := (gI s22 55)) (y := 0) hr23 (by decide)).mpr c24) h
      exact J121 s22 _ _ _ ⟨hP, hS, lv_sub hl [0] rfl, h⟩
    · have h := if_t ((i2_eq (x := (gI s22 55)) (y := 0) hr23 (by decide)).mp c24) h
      refine lv_aload_n hx hb eX12_tries_100.2.2.2.2.2.2.1 rfl (lv_at hl 0 rfl) ?_
      refine lv_iload_n hx hb eX12_tries_100.2.2.2.2.2.2.2 rfl (lv_at hl 1 rfl) ?_
      refine lv_iload_n hx hb eX12_tries_117.1 rfl (lv_at hl 2 rfl) ?_
      obtain ⟨s26, hc25, h⟩ := bn_e h
      refine ywVv (As := [.int (i2 x20), .int (i2 x21)]) (rest := []) (C := RX12) (n := 2) (ws' := RW D a s26) ⟨hx, hb, hml, hown, ht⟩ (k_x12_removes l D a x20 x21 _ _ _ hc25) (zgV ml_X12_565 im_X12_removes se_X12_removes in_X12 co_X12_removes) rfl rfl (by decide +kernel) ⟨Nat.le_of_ble_eq_true rfl, Nat.le_of_ble_eq_true rfl⟩ hN hK hP (hDD _) hS hA 0 RW_0 rfl rfl rfl hl.1 rfl (Nat.le_of_ble_eq_true rfl) eX12_tries_117.2.1 ⟨Nat.le_of_ble_eq_true rfl, Nat.le_of_ble_eq_true rfl⟩ (fun H locs hP hS => ?_)
      exact J121 s26 _ _ _ ⟨hP, hS, lv_sub hl [0] rfl, h⟩
  refine y_head (pcJ := 82) (σ := Int × Int × Int × Int × Int × MS) (fun u H locs ls => va_P D vwCl (RW D a u.2.2.2.2.2) H ∧ va_S A s₀.heap H locs ∧ lv_has ls 6 [(0, .ref (a 200)), (1, .int (i2 u.1)), (2, .int (i2 u.2.1)), (3, .int (i2 u.2.2.1)), (4, .int (i2 u.2.2.2.1))] ∧ m_x12_tries_J82 u.1 u.2.1 u.2.2.1 u.2.2.2.1 u.2.2.2.2.1 u.2.2.2.2.2 = some o) (fun u => [.int (i2 u.2.2.2.2.1), .ref (a 200)]) (fun u H locs ls hI => ?_) (fun J82 => ?_)
  · obtain ⟨hP, hS, hl, h⟩ := hI
    obtain ⟨x27, x28, x29, x30, x31, s32⟩ := u
    have hP : va_P D vwCl (RW D a s32) H := hP
    have hl : lv_has ls 6 [(0, .ref (a 200)), (1, .int (i2 x27)), (2, .int (i2 x28)), (3, .int (i2 x29)), (4, .int (i2 x30))] := hl
    have h : m_x12_tries_J82 x27 x28 x29 x30 x31 s32 = some o := h
    unfold m_x12_tries_J82 at h
    obtain ⟨hb33, h⟩ := bo_e h
    refine ya_put (D := D) (ci := 12) (v := .int (i2 x31)) (ty := .boolean) (C := RX12) (T := TX12) (N := 116) hx hb ht inX12 tyX12 tyX12_ok nmX12 hown hK hP (hDD _) hS 0 RW_0 rfl 55 (by decide) (ht (.fieldLink RX12 493 "CloneVolumesModel" "isFull" "Z") fl_X12_493) (fun _ h9 => h9) rfl (by decide +kernel) (bo_n hb33) (bo_f hb33) (by rw [mF_len]; decide) eX12_tries_70.2.2.2.2.2.2.1 (RW_f55 x31) (fun H locs hP hS => ?_)
    obtain ⟨s34, hs34, h⟩ := st_e h
    rw [hs34] at hP
    refine lv_aload_n hx hb eX12_tries_70.2.2.2.2.2.2.2 rfl (lv_at hl 0 rfl) ?_
    refine va_get (D := D) (ci := 12) (v := .int (i2 (gI s34 55))) (C := RX12) (T := TX12) (N := 116) hx hb ht inX12 hown hK hP 0 RW_0 rfl 55 (by decide) (ht (.fieldLink RX12 493 "CloneVolumesModel" "isFull" "Z") fl_X12_493) (fun _ h9 => h9) mF_55 eX12_tries_86.1 ?_
    obtain ⟨hr35, h⟩ := rg_e h
    refine lv_if_ne (tgt := 108) hx hb eX12_tries_86.2.1 (by decide) (fun c36 => ?_) (fun c36 => ?_)
    · have h := if_f (mt (i2_eq (x := (gI s34 55)) (y := 0) hr35 (by decide)).mpr c36) h
      exact J108 (x28, x29, s34) _ _ _ ⟨hP, hS, lv_sub hl [0, 2, 3] rfl, h⟩
    · have h := if_t ((i2_eq (x := (gI s34 55)) (y := 0) hr35 (by decide)).mp c36) h
      refine lv_iload_n hx hb eX12_tries_86.2.2.1 rfl (lv_at hl 1 rfl) ?_
      refine lv_iconst (v := 2) hx hb eX12_tries_86.2.2.2.1 (by decide) ?_
      obtain ⟨hr37, h⟩ := rg_e h
      refine lv_icmp_ne (tgt := 108) hx hb eX12_tries_86.2.2.2.2.1 (by decide) (fun c38 => ?_) (fun c38 => ?_)
      · have h := if_f (mt (i2_eq (x := x27) (y := 2) hr37 (by decide)).mpr c38) h
        exact J108 (x28, x29, s34) _ _ _ ⟨hP, hS, lv_sub hl [0, 2, 3] rfl, h⟩
      · have h := if_t ((i2_eq (x := x27) (y := 2) hr37 (by decide)).mp c38) h
        refine lv_aload_n hx hb eX12_tries_86.2.2.2.2.2.1 rfl (lv_at hl 0 rfl) ?_
        refine lv_iload_n hx hb eX12_tries_86.2.2.2.2.2.2.1 rfl (lv_at hl 2 rfl) ?_
        refine lv_iload_n hx hb eX12_tries_86.2.2.2.2.2.2.2 rfl (lv_at hl 3 rfl) ?_
        refine lv_iload hx hb eX12_tries_100.1 (lv_at hl 4 rfl) ?_
        obtain ⟨s40, hc39, h⟩ := bn_e h
        refine ywVv (As := [.int (i2 x28), .int (i2 x29), .int (i2 x30)]) (rest := []) (C := RX12) (n := 3) (ws' := RW D a s40) ⟨hx, hb, hml, hown, ht⟩ (k_x12_puts l D a x28 x29 x30 _ _ _ hc39) (zgV ml_X12_562 im_X12_puts se_X12_puts in_X12 co_X12_puts) rfl rfl (by decide +kernel) ⟨Nat.le_of_ble_eq_true rfl, Nat.le_of_ble_eq_true rfl⟩ hN hK hP (hDD _) hS hA 0 RW_0 rfl rfl rfl hl.1 rfl (Nat.le_of_ble_eq_true rfl) eX12_tries_100.2.1 ⟨Nat.le_of_ble_eq_true rfl, Nat.le_of_ble_eq_true rfl⟩ (fun H locs hP hS => ?_)
        refine lv_goto (tgt := 121) hx hb eX12_tries_100.2.2.1 (by decide) ?_
        exact J121 s40 _ _ _ ⟨hP, hS, lv_sub hl [0] rfl, h⟩
  refine y_head (pcJ := 81) (σ := Int × Int × Int × Int × MS) (fun u H locs ls => va_P D vwCl (RW D a u.2.2.2.2) H ∧ va_S A s₀.heap H locs ∧ lv_has ls 6 [(0, .ref (a 200)), (1, .int (i2 u.1)), (2, .int (i2 u.2.1)), (3, .int (i2 u.2.2.1)), (4, .int (i2 u.2.2.2.1))] ∧ m_x12_tries_J81 u.1 u.2.1 u.2.2.1 u.2.2.2.1 u.2.2.2.2 = some o) (fun u => [.ref (a 200)]) (fun u H locs ls hI => ?_) (fun J81 => ?_)
  · obtain ⟨hP, hS, hl, h⟩ := hI
    obtain ⟨x41, x42, x43, x44, s45⟩ := u
    have hP : va_P D vwCl (RW D a s45) H := hP
    have hl : lv_has ls 6 [(0, .ref (a 200)), (1, .int (i2 x41)), (2, .int (i2 x42)), (3, .int (i2 x43)), (4, .int (i2 x44))] := hl
    have h : m_x12_tries_J81 x41 x42 x43 x44 s45 = some o := h
    unfold m_x12_tries_J81 at h
    refine lv_iconst (v := 0) hx hb eX12_tries_70.2.2.2.2.2.1 (by decide) ?_
    exact J82 (x41, x42, x43, x44, 0, s45) _ _ _ ⟨hP, hS, lv_sub hl [0, 1, 2, 3, 4] rfl, h⟩
  refine y_loop (pcJ := 34) (σ := Int × Int × Int × Int × Int × MS) (fun n u H locs ls => va_P D vwCl (RW D a u.2.2.2.2.2) H ∧ va_S A s₀.heap H locs ∧ lv_has ls 6 [(0, .ref (a 200)), (1, .int (i2 u.1)), (2, .int (i2 u.2.1)), (3, .int (i2 u.2.2.1)), (4, .int (i2 u.2.2.2.1)), (5, .int (i2 u.2.2.2.2.1))] ∧ m_x12_tries_L34 n u.1 u.2.1 u.2.2.1 u.2.2.2.1 u.2.2.2.2.1 u.2.2.2.2.2 = some o) (fun u => []) (fun u H locs ls hI => by obtain ⟨_, _, _, h⟩ := hI; cases h) (fun n34 ih34 u H locs ls hI => ?_) (fun J34 => ?_)
  · obtain ⟨hP, hS, hl, h⟩ := hI
    obtain ⟨x46, x47, x48, x49, x50, s51⟩ := u
    have hP : va_P D vwCl (RW D a s51) H := hP
    have hl : lv_has ls 6 [(0, .ref (a 200)), (1, .int (i2 x46)), (2, .int (i2 x47)), (3, .int (i2 x48)), (4, .int (i2 x49)), (5, .int (i2 x50))] := hl
    have h : m_x12_tries_b34 (m_x12_tries_L34 n34) x46 x47 x48 x49 x50 s51 = some o := h
    unfold m_x12_tries_b34 at h
    refine lv_iload hx hb eX12_tries_25.2.2.2.2.1 (lv_at hl 5 rfl) ?_
    refine lv_bipush (v := 48) hx hb eX12_tries_25.2.2.2.2.2.1 (by decide) ?_
    obtain ⟨hr52, h⟩ := rg_e h
    refine lv_icmp_ge (tgt := 61) hx hb eX12_tries_25.2.2.2.2.2.2.1 (by decide) (fun c53 => ?_) (fun c53 => ?_)
    · have h := if_t ((i2_le (x := 48) (y := x50) (by decide) hr52).mp c53) h
      refine lv_aload_n hx hb eX12_tries_58.2.1 rfl (lv_at hl 0 rfl) ?_
      refine lv_iload_n hx hb eX12_tries_58.2.2.1 rfl (lv_at hl 1 rfl) ?_
      refine lv_iconst (v := 3) hx hb eX12_tries_58.2.2.2.1 (by decide) ?_
      obtain ⟨hr54, h⟩ := rg_e h
      refine lv_icmp_ne (tgt := 81) hx hb eX12_tries_58.2.2.2.2.1 (by decide) (fun c55 => ?_) (fun c55 => ?_)
      · have h := if_f (mt (i2_eq (x := x46) (y := 3) hr54 (by decide)).mpr c55) h
        exact J81 (x46, x47, x48, x49, s51) _ _ _ ⟨hP, hS, lv_sub hl [0, 1, 2, 3, 4] rfl, h⟩
      · have h := if_t ((i2_eq (x := x46) (y := 3) hr54 (by decide)).mp c55) h
        refine lv_aload_n hx hb eX12_tries_58.2.2.2.2.2.1 rfl (lv_at hl 0 rfl) ?_
        refine lv_iload_n hx hb eX12_tries_58.2.2.2.2.2.2.1 rfl (lv_at hl 2 rfl) ?_
        refine lv_iload_n hx hb eX12_tries_58.2.2.2.2.2.2.2 rfl (lv_at hl 3 rfl) ?_
        obtain ⟨r57, hc56, h⟩ := bn_e h
        refine ycV (r0 := i2 r57) (As := [.int (i2 x47), .int (i2 x48)]) (rest := [.ref (a 200)]) (C := RX12) (n := 2) ⟨hx, hb, hml, hown, ht⟩ (k_x12_valueOf l D a x47 x48 _ _ hc56) (zgV ml_X12_559 im_X12_valueOf se_X12_valueOf in_X12 co_X12_valueOf) rfl rfl (by decide +kernel) ⟨Nat.le_of_ble_eq_true rfl, Nat.le_of_ble_eq_true rfl⟩ hN hK hP hS 0 RW_0 rfl rfl rfl hl.1 rfl (Nat.le_of_ble_eq_true rfl) eX12_tries_70.1 ⟨Nat.le_of_ble_eq_true rfl, Nat.le_of_ble_eq_true rfl⟩ (fun H locs hP hS => ?_)
        refine lv_iconst (v := (-1)) hx hb eX12_tries_70.2.1 (by decide) ?_
        obtain ⟨hr58, h⟩ := rg_e h
        refine lv_icmp_ne (tgt := 81) hx hb eX12_tries_70.2.2.1 (by decide) (fun c59 => ?_) (fun c59 => ?_)
        · rw [show ((-1) : Int32) = i2 (-1) from by decide] at c59
          have h := if_f (mt (i2_eq (x := r57) (y := (-1)) hr58 (by decide)).mpr c59) h
          exact J81 (x46, x47, x48, x49, s51) _ _ _ ⟨hP, hS, lv_sub hl [0, 1, 2, 3, 4] rfl, h⟩
        · rw [show ((-1) : Int32) = i2 (-1) from by decide] at c59
          have h := if_t ((i2_eq (x := r57) (y := (-1)) hr58 (by decide)).mp c59) h
          refine lv_iconst (v := 1) hx hb eX12_tries_70.2.2.2.1 (by decide) ?_
          refine lv_goto (tgt := 82) hx hb eX12_tries_70.2.2.2.2.1 (by decide) ?_
          exact J82 (x46, x47, x48, x49, 1, s51) _ _ _ ⟨hP, hS, lv_sub hl [0, 1, 2, 3, 4] rfl, h⟩
    · have h := if_f (mt (i2_le (x := 48) (y := x50) (by decide) hr52).mpr c53) h
      refine lv_aload_n hx hb eX12_tries_25.2.2.2.2.2.2.2 rfl (lv_at hl 0 rfl) ?_
      refine va_get (D := D) (ci := 12) (v := .ref (a 60)) (C := RX12) (T := TX12) (N := 116) hx hb ht inX12 hown hK hP 0 RW_0 rfl 60 (by decide) (ht (.fieldLink RX12 140 "CloneVolumesModel" "wasTouched" "[Z") fl_X12_140) (fun _ h9 => h9) mF_60 eX12_tries_42.1 ?_
      refine lv_iload hx hb eX12_tries_42.2.1 (lv_at hl 5 rfl) ?_
      refine lv_aload_n hx hb eX12_tries_42.2.2.1 rfl (lv_at hl 0 rfl) ?_
      refine va_get (D := D) (ci := 12) (v := .ref (a 54)) (C := RX12) (T := TX12) (N := 116) hx hb ht inX12 hown hK hP 0 RW_0 rfl 54 (by decide) (ht (.fieldLink RX12 124 "CloneVolumesModel" "isTouched" "[Z") fl_X12_124) (fun _ h9 => h9) mF_54 eX12_tries_42.2.2.2.1 ?_
      refine lv_iload hx hb eX12_tries_42.2.2.2.2.1 (lv_at hl 5 rfl) ?_
      obtain ⟨y60, ey60, iy60, h⟩ := rdI_e h
      refine ya_zald (i := x50) hx hb hK hP 37 3 RW_37 rfl (by decide) ey60 iy60 eX12_tries_42.2.2.2.2.2.1 ?_
      obtain ⟨hi61, h⟩ := inb_e h
      obtain ⟨hb62, h⟩ := bo_e h
      refine ya_zast (i := x50) (x := y60) hx hb hK hP (hDD _) hS 42 3 RW_42 rfl (by decide) hi61 hb62 eX12_tries_42.2.2.2.2.2.2.1 (RW_w42 _) (fun H locs hP hS => ?_)
      obtain ⟨s63, hs63, h⟩ := st_e h
      rw [hs63] at hP
      refine lv_iinc (v := i2 (x50 + 1)) (lv' := [(5, .int (i2 (x50 + 1))), (0, .ref (a 200)), (1, .int (i2 x46)), (2, .int (i2 x47)), (3, .int (i2 x48)), (4, .int (i2 x49))]) hx hb eX12_tries_42.2.2.2.2.2.2.2 hl (k := 5) rfl (i2_add x50 1) (by decide) rfl (fun ls hl => ?_)
      refine lv_goto (tgt := 34) hx hb eX12_tries_58.1 (by decide) ?_
      exact ih34 (x46, x47, x48, x49, x50 + 1, s63) _ _ _ ⟨hP, hS, lv_sub hl [1, 2, 3, 4, 5, 0] rfl, h⟩
  refine y_loop (pcJ := 3) (σ := Int × Int × Int × Int × Int × MS) (fun n u H locs ls => va_P D vwCl (RW D a u.2.2.2.2.2) H ∧ va_S A s₀.heap H locs ∧ lv_has ls 6 [(0, .ref (a 200)), (1, .int (i2 u.1)), (2, .int (i2 u.2.1)), (3, .int (i2 u.2.2.1)), (4, .int (i2 u.2.2.2.1)), (5, .int (i2 u.2.2.2.2.1))] ∧ m_x12_tries_L3 n u.1 u.2.1 u.2.2.1 u.2.2.2.1 u.2.2.2.2.1 u.2.2.2.2.2 = some o) (fun u => []) (fun u H locs ls hI => by obtain ⟨_, _, _, h⟩ := hI; cases h) (fun n3 ih3 u H locs ls hI => ?_) (fun J3 => ?_)
  · obtain ⟨hP, hS, hl, h⟩ := hI
    obtain ⟨x64, x65, x66, x67, x68, s69⟩ := u
    have hP : va_P D vwCl (RW D a s69) H := hP
    have hl : lv_has ls 6 [(0, .ref (a 200)), (1, .int (i2 x64)), (2, .int (i2 x65)), (3, .int (i2 x66)), (4, .int (i2 x67)), (5, .int (i2 x68))] := hl
    have h : m_x12_tries_b3 (m_x12_tries_L3 n3) x64 x65 x66 x67 x68 s69 = some o := h
    unfold m_x12_tries_b3 at h
    refine lv_iload hx hb eX12_rootSplit_51.2.2.2.2.2.1 (lv_at hl 5 rfl) ?_
    refine lv_sipush (v := 785) hx hb eX12_rootSplit_51.2.2.2.2.2.2.1 (by decide) ?_
    obtain ⟨hr70, h⟩ := rg_e h
    refine lv_icmp_ge (tgt := 31) hx hb eX12_rootSplit_51.2.2.2.2.2.2.2 (by decide) (fun c71 => ?_) (fun c71 => ?_)
    · have h := if_t ((i2_le (x := 785) (y := x68) (by decide) hr70).mp c71) h
      refine lv_iconst (v := 0) hx hb eX12_tries_25.2.2.1 (by decide) ?_
      refine lv_istore (lv' := [(5, .int 0), (0, .ref (a 200)), (1, .int (i2 x64)), (2, .int (i2 x65)), (3, .int (i2 x66)), (4, .int (i2 x67))]) hx hb eX12_tries_25.2.2.2.1 hl (by decide) rfl (fun ls hl => ?_)
      exact J34 FU (x64, x65, x66, x67, 0, s69) _ _ _ ⟨hP, hS, lv_sub hl [1, 2, 3, 4, 5, 0] rfl, h⟩
    · have h := if_f (mt (i2_le (x := 785) (y := x68) (by decide) hr70).mpr c71) h
      refine lv_aload_n hx hb eX12_tries_11.1 rfl (lv_at hl 0 rfl) ?_
      refine va_get (D := D) (ci := 12) (v := .ref (a 59)) (C := RX12) (T := TX12) (N := 116) hx hb ht inX12 hown hK hP 0 RW_0 rfl 59 (by decide) (ht (.fieldLink RX12 137 "CloneVolumesModel" "tried" "[I") fl_X12_137) (fun _ h9 => h9) mF_59 eX12_tries_11.2.1 ?_
      refine lv_iload hx hb eX12_tries_11.2.2.1 (lv_at hl 5 rfl) ?_
      refine lv_aload_n hx hb eX12_tries_11.2.2.2.1 rfl (lv_at hl 0 rfl) ?_
      refine va_get (D := D) (ci := 12) (v := .ref (a 49)) (C := RX12) (T := TX12) (N := 116) hx hb ht inX12 hown hK hP 0 RW_0 rfl 49 (by decide) (ht (.fieldLink RX12 121 "CloneVolumesModel" "now" "[I") fl_X12_121) (fun _ h9 => h9) mF_49 eX12_tries_11.2.2.2.2.1 ?_
      refine lv_iload hx hb eX12_tries_11.2.2.2.2.2.1 (lv_at hl 5 rfl) ?_
      obtain ⟨y72, ey72, iy72, h⟩ := rdI_e h
      refine ya_iald (i := x68) hx hb hK hP 36 0 RW_36 rfl (by decide) ey72 iy72 eX12_tries_11.2.2.2.2.2.2.1 ?_
      obtain ⟨hi73, h⟩ := inb_e h
      refine ya_iast (i := x68) (x := y72) hx hb hK hP (hDD _) hS 41 0 RW_41 rfl (by decide) hi73 eX12_tries_11.2.2.2.2.2.2.2 (RW_w41 _) (fun H locs hP hS => ?_)
      obtain ⟨s74, hs74, h⟩ := st_e h
      rw [hs74] at hP
      refine lv_iinc (v := i2 (x68 + 1)) (lv' := [(5, .int (i2 (x68 + 1))), (0, .ref (a 200)), (1, .int (i2 x64)), (2, .int (i2 x65)), (3, .int (i2 x66)), (4, .int (i2 x67))]) hx hb eX12_tries_25.1 hl (k := 5) rfl (i2_add x68 1) (by decide) rfl (fun ls hl => ?_)
      refine lv_goto (tgt := 3) hx hb eX12_tries_25.2.1 (by decide) ?_
      exact ih3 (x64, x65, x66, x67, x68 + 1, s74) _ _ _ ⟨hP, hS, lv_sub hl [1, 2, 3, 4, 5, 0] rfl, h⟩
  refine lv_iconst (v := 0) hx hb eX12_rootSplit_51.2.2.2.1 (by decide) ?_
  refine lv_istore (lv' := [(5, .int 0), (0, .ref (a 200)), (1, .int (i2 p0)), (2, .int (i2 p1)), (3, .int (i2 p2)), (4, .int (i2 p3))]) hx hb eX12_rootSplit_51.2.2.2.2.1 hl (by decide) rfl (fun ls hl => ?_)
  exact J3 FU (p0, p1, p2, p3, 0, s) _ _ _ ⟨hP, hS, lv_sub hl [1, 2, 3, 4, 5, 0] rfl, h⟩
