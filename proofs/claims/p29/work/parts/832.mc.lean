theorem co_X12_isAllowed : Cond.code yX12_isAllowed cX12_isAllowed 2 (some .boolean) ∈ lw_gd := zm (lw_g_8 (List.mem_of_getElem? (i := 145) (by decide +kernel))) rfl
theorem co_X12_qAsksWord : Cond.code yX12_qAsksWord cX12_qAsksWord 2 none ∈ lw_gd := zm (lw_g_8 (List.mem_of_getElem? (i := 149) (by decide +kernel))) rfl
theorem co_X12_qBracket : Cond.code yX12_qBracket cX12_qBracket 2 (some .int) ∈ lw_gd := zm (lw_g_8 (List.mem_of_getElem? (i := 165) (by decide +kernel))) rfl
theorem co_X12_qDropsToBracket : Cond.code yX12_qDropsToBracket cX12_qDropsToBracket 1 none ∈ lw_gd := zm (lw_g_8 (List.mem_of_getElem? (i := 172) (by decide +kernel))) rfl
theorem co_X12_qEndsPart : Cond.code yX12_qEndsPart cX12_qEndsPart 1 none ∈ lw_gd := zm (lw_g_8 (List.mem_of_getElem? (i := 153) (by decide +kernel))) rfl
theorem co_X12_qIsBracket : Cond.code yX12_qIsBracket cX12_qIsBracket 1 (some .boolean) ∈ lw_gd := zm (lw_g_8 (List.mem_of_getElem? (i := 168) (by decide +kernel))) rfl
theorem co_X12_qIsOn : Cond.code yX12_qIsOn cX12_qIsOn 2 (some .boolean) ∈ lw_gd := zm (lw_g_8 (List.mem_of_getElem? (i := 176) (by decide +kernel))) rfl
theorem co_X12_qOpens : Cond.code yX12_qOpens cX12_qOpens 3 none ∈ lw_gd := zm (lw_g_8 (List.mem_of_getElem? (i := 117) (by decide +kernel))) rfl
theorem co_X12_qWordHere : Cond.code yX12_qWordHere cX12_qWordHere 1 (some .int) ∈ lw_gd := zm (lw_g_8 (List.mem_of_getElem? (i := 141) (by decide +kernel))) rfl
theorem co_X12_qWordOf : Cond.code yX12_qWordOf cX12_qWordOf 4 (some .int) ∈ lw_gd := zm (lw_g_8 (List.mem_of_getElem? (i := 137) (by decide +kernel))) rfl
theorem im_X12_isAllowed : Cond.instanceMethod yX12_isAllowed ∈ lw_gd := zm (lw_g_8 (List.mem_of_getElem? (i := 144) (by decide +kernel))) rfl
theorem im_X12_qAsksWord : Cond.instanceMethod yX12_qAsksWord ∈ lw_gd := zm (lw_g_8 (List.mem_of_getElem? (i := 148) (by decide +kernel))) rfl
theorem im_X12_qBracket : Cond.instanceMethod yX12_qBracket ∈ lw_gd := zm (lw_g_8 (List.mem_of_getElem? (i := 164) (by decide +kernel))) rfl
theorem im_X12_qDropsToBracket : Cond.instanceMethod yX12_qDropsToBracket ∈ lw_gd := zm (lw_g_8 (List.mem_of_getElem? (i := 171) (by decide +kernel))) rfl
theorem im_X12_qEndsPart : Cond.instanceMethod yX12_qEndsPart ∈ lw_gd := zm (lw_g_8 (List.mem_of_getElem? (i := 152) (by decide +kernel))) rfl
theorem im_X12_qIsOn : Cond.instanceMethod yX12_qIsOn ∈ lw_gd := zm (lw_g_8 (List.mem_of_getElem? (i := 175) (by decide +kernel))) rfl
theorem im_X12_qOpens : Cond.instanceMethod yX12_qOpens ∈ lw_gd := zm (lw_g_8 (List.mem_of_getElem? (i := 116) (by decide +kernel))) rfl
theorem im_X12_qWordHere : Cond.instanceMethod yX12_qWordHere ∈ lw_gd := zm (lw_g_8 (List.mem_of_getElem? (i := 140) (by decide +kernel))) rfl
theorem im_X12_qWordOf : Cond.instanceMethod yX12_qWordOf ∈ lw_gd := zm (lw_g_8 (List.mem_of_getElem? (i := 136) (by decide +kernel))) rfl
theorem ml_X12_696 : Cond.methodLink RX12 696 yX12_qIsBracket ∈ lw_gd := zm (lw_g_8 (List.mem_of_getElem? (i := 166) (by decide +kernel))) rfl
theorem ml_X12_702 : Cond.methodLink RX12 702 yX12_qWordHere ∈ lw_gd := zm (lw_g_8 (List.mem_of_getElem? (i := 138) (by decide +kernel))) rfl
theorem ml_X12_705 : Cond.methodLink RX12 705 yX12_isAllowed ∈ lw_gd := zm (lw_g_8 (List.mem_of_getElem? (i := 142) (by decide +kernel))) rfl
theorem ml_X12_708 : Cond.methodLink RX12 708 yX12_qWordOf ∈ lw_gd := zm (lw_g_8 (List.mem_of_getElem? (i := 134) (by decide +kernel))) rfl
theorem ml_X12_711 : Cond.methodLink RX12 711 yX12_qOpens ∈ lw_gd := zm (lw_g_8 (List.mem_of_getElem? (i := 114) (by decide +kernel))) rfl
theorem ml_X12_714 : Cond.methodLink RX12 714 yX12_qAsksWord ∈ lw_gd := zm (lw_g_8 (List.mem_of_getElem? (i := 146) (by decide +kernel))) rfl
theorem ml_X12_717 : Cond.methodLink RX12 717 yX12_qEndsPart ∈ lw_gd := zm (lw_g_8 (List.mem_of_getElem? (i := 150) (by decide +kernel))) rfl
theorem ml_X12_720 : Cond.methodLink RX12 720 yX12_qBracket ∈ lw_gd := zm (lw_g_8 (List.mem_of_getElem? (i := 162) (by decide +kernel))) rfl
theorem ml_X12_723 : Cond.methodLink RX12 723 yX12_qDropsToBracket ∈ lw_gd := zm (lw_g_8 (List.mem_of_getElem? (i := 169) (by decide +kernel))) rfl
theorem ml_X12_726 : Cond.methodLink RX12 726 yX12_qIsOn ∈ lw_gd := zm (lw_g_8 (List.mem_of_getElem? (i := 173) (by decide +kernel))) rfl
theorem se_X12_isAllowed : Cond.selects RX12 yX12_isAllowed yX12_isAllowed ∈ lw_gd := zm (List.mem_of_getElem? (i := 96) (by decide +kernel)) rfl
theorem se_X12_qAsksWord : Cond.selects RX12 yX12_qAsksWord yX12_qAsksWord ∈ lw_gd := zm (List.mem_of_getElem? (i := 97) (by decide +kernel)) rfl
theorem se_X12_qBracket : Cond.selects RX12 yX12_qBracket yX12_qBracket ∈ lw_gd := zm (List.mem_of_getElem? (i := 101) (by decide +kernel)) rfl
theorem se_X12_qDropsToBracket : Cond.selects RX12 yX12_qDropsToBracket yX12_qDropsToBracket ∈ lw_gd := zm (List.mem_of_getElem? (i := 102) (by decide +kernel)) rfl
theorem se_X12_qEndsPart : Cond.selects RX12 yX12_qEndsPart yX12_qEndsPart ∈ lw_gd := zm (List.mem_of_getElem? (i := 98) (by decide +kernel)) rfl
theorem se_X12_qIsOn : Cond.selects RX12 yX12_qIsOn yX12_qIsOn ∈ lw_gd := zm (List.mem_of_getElem? (i := 103) (by decide +kernel)) rfl
theorem se_X12_qOpens : Cond.selects RX12 yX12_qOpens yX12_qOpens ∈ lw_gd := zm (List.mem_of_getElem? (i := 89) (by decide +kernel)) rfl
theorem se_X12_qWordHere : Cond.selects RX12 yX12_qWordHere yX12_qWordHere ∈ lw_gd := zm (List.mem_of_getElem? (i := 95) (by decide +kernel)) rfl
theorem se_X12_qWordOf : Cond.selects RX12 yX12_qWordOf yX12_qWordOf ∈ lw_gd := zm (List.mem_of_getElem? (i := 94) (by decide +kernel)) rfl
theorem st_X12_qIsBracket : Cond.static yX12_qIsBracket ∈ lw_gd := zm (lw_g_8 (List.mem_of_getElem? (i := 167) (by decide +kernel))) rfl
theorem eX12_qAsksWord_0 : decode cX12_qAsksWord 0 = .ok (.iload_n 1, 1) ∧ decode cX12_qAsksWord 1 = .ok (.tableswitch 150 0 8 #[51, 62, 73, 84, 95, 106, 117, 128, 139], 51) ∧ decode cX12_qAsksWord 52 = .ok (.aload_n 0, 1) ∧ decode cX12_qAsksWord 53 = .ok (.aload_n 0, 1) ∧ decode cX12_qAsksWord 54 = .ok (.getfield 213, 3) ∧ decode cX12_qAsksWord 57 = .ok (.invokevirtual 327, 3) ∧ decode cX12_qAsksWord 60 = .ok (.goto 99, 3) ∧ decode cX12_qAsksWord 63 = .ok (.aload_n 0, 1) := by decide +kernel
theorem eX12_qAsksWord_64 : decode cX12_qAsksWord 64 = .ok (.aload_n 0, 1) ∧ decode cX12_qAsksWord 65 = .ok (.getfield 216, 3) ∧ decode cX12_qAsksWord 68 = .ok (.invokevirtual 327, 3) ∧ decode cX12_qAsksWord 71 = .ok (.goto 88, 3) ∧ decode cX12_qAsksWord 74 = .ok (.aload_n 0, 1) ∧ decode cX12_qAsksWord 75 = .ok (.aload_n 0, 1) ∧ decode cX12_qAsksWord 76 = .ok (.getfield 219, 3) ∧ decode cX12_qAsksWord 79 = .ok (.invokevirtual 327, 3) := by decide +kernel
theorem eX12_qAsksWord_82 : decode cX12_qAsksWord 82 = .ok (.goto 77, 3) ∧ decode cX12_qAsksWord 85 = .ok (.aload_n 0, 1) ∧ decode cX12_qAsksWord 86 = .ok (.aload_n 0, 1) ∧ decode cX12_qAsksWord 87 = .ok (.getfield 222, 3) ∧ decode cX12_qAsksWord 90 = .ok (.invokevirtual 327, 3) ∧ decode cX12_qAsksWord 93 = .ok (.goto 66, 3) ∧ decode cX12_qAsksWord 96 = .ok (.aload_n 0, 1) ∧ decode cX12_qAsksWord 97 = .ok (.aload_n 0, 1) := by decide +kernel
theorem eX12_qAsksWord_98 : decode cX12_qAsksWord 98 = .ok (.getfield 225, 3) ∧ decode cX12_qAsksWord 101 = .ok (.invokevirtual 327, 3) ∧ decode cX12_qAsksWord 104 = .ok (.goto 55, 3) ∧ decode cX12_qAsksWord 107 = .ok (.aload_n 0, 1) ∧ decode cX12_qAsksWord 108 = .ok (.aload_n 0, 1) ∧ decode cX12_qAsksWord 109 = .ok (.getfield 228, 3) ∧ decode cX12_qAsksWord 112 = .ok (.invokevirtual 327, 3) ∧ decode cX12_qAsksWord 115 = .ok (.goto 44, 3) := by decide +kernel
theorem eX12_qAsksWord_118 : decode cX12_qAsksWord 118 = .ok (.aload_n 0, 1) ∧ decode cX12_qAsksWord 119 = .ok (.aload_n 0, 1) ∧ decode cX12_qAsksWord 120 = .ok (.getfield 231, 3) ∧ decode cX12_qAsksWord 123 = .ok (.invokevirtual 327, 3) ∧ decode cX12_qAsksWord 126 = .ok (.goto 33, 3) ∧ decode cX12_qAsksWord 129 = .ok (.aload_n 0, 1) ∧ decode cX12_qAsksWord 130 = .ok (.aload_n 0, 1) ∧ decode cX12_qAsksWord 131 = .ok (.getfield 234, 3) := by decide +kernel
theorem eX12_qAsksWord_134 : decode cX12_qAsksWord 134 = .ok (.invokevirtual 327, 3) ∧ decode cX12_qAsksWord 137 = .ok (.goto 22, 3) ∧ decode cX12_qAsksWord 140 = .ok (.aload_n 0, 1) ∧ decode cX12_qAsksWord 141 = .ok (.aload_n 0, 1) ∧ decode cX12_qAsksWord 142 = .ok (.getfield 237, 3) ∧ decode cX12_qAsksWord 145 = .ok (.invokevirtual 327, 3) ∧ decode cX12_qAsksWord 148 = .ok (.goto 11, 3) ∧ decode cX12_qAsksWord 151 = .ok (.aload_n 0, 1) := by decide +kernel
theorem eX12_qAsksWord_152 : decode cX12_qAsksWord 152 = .ok (.aload_n 0, 1) ∧ decode cX12_qAsksWord 153 = .ok (.getfield 240, 3) ∧ decode cX12_qAsksWord 156 = .ok (.invokevirtual 327, 3) ∧ decode cX12_qAsksWord 159 = .ok (.return_, 1) ∧ decode cX12_qBracket 0 = .ok (.aload_n 0, 1) ∧ decode cX12_qBracket 1 = .ok (.getfield 356, 3) ∧ decode cX12_qBracket 4 = .ok (.iconst 1, 1) ∧ decode cX12_qBracket 5 = .ok (.isub, 1) := by decide +kernel
theorem eX12_qBracket_6 : decode cX12_qBracket 6 = .ok (.istore_n 1, 1) ∧ decode cX12_qBracket 7 = .ok (.iload_n 1, 1) ∧ decode cX12_qBracket 8 = .ok (.aload_n 0, 1) ∧ decode cX12_qBracket 9 = .ok (.getfield 362, 3) ∧ decode cX12_qBracket 12 = .ok (.if_icmp .lt 21, 3) ∧ decode cX12_qBracket 15 = .ok (.aload_n 0, 1) ∧ decode cX12_qBracket 16 = .ok (.getfield 246, 3) ∧ decode cX12_qBracket 19 = .ok (.iload_n 1, 1) := by decide +kernel
theorem eX12_qBracket_20 : decode cX12_qBracket 20 = .ok (.iaload, 1) ∧ decode cX12_qBracket 21 = .ok (.invokestatic 696, 3) ∧ decode cX12_qBracket 24 = .ok (.ifCond .ne 9, 3) ∧ decode cX12_qBracket 27 = .ok (.iinc 1 (-1), 3) ∧ decode cX12_qBracket 30 = .ok (.goto (-23), 3) ∧ decode cX12_qBracket 33 = .ok (.iload_n 1, 1) ∧ decode cX12_qBracket 34 = .ok (.aload_n 0, 1) ∧ decode cX12_qBracket 35 = .ok (.getfield 362, 3) := by decide +kernel
theorem eX12_qBracket_38 : decode cX12_qBracket 38 = .ok (.if_icmp .lt 12, 3) ∧ decode cX12_qBracket 41 = .ok (.aload_n 0, 1) ∧ decode cX12_qBracket 42 = .ok (.getfield 246, 3) ∧ decode cX12_qBracket 45 = .ok (.iload_n 1, 1) ∧ decode cX12_qBracket 46 = .ok (.iaload, 1) ∧ decode cX12_qBracket 47 = .ok (.goto 4, 3) ∧ decode cX12_qBracket 50 = .ok (.iconst (-1), 1) ∧ decode cX12_qBracket 51 = .ok (.ireturn, 1) := by decide +kernel
theorem eX12_qDropsToBracket_0 : decode cX12_qDropsToBracket 0 = .ok (.aload_n 0, 1) ∧ decode cX12_qDropsToBracket 1 = .ok (.getfield 356, 3) ∧ decode cX12_qDropsToBracket 4 = .ok (.aload_n 0, 1) ∧ decode cX12_qDropsToBracket 5 = .ok (.getfield 362, 3) ∧ decode cX12_qDropsToBracket 8 = .ok (.if_icmp .le 27, 3) ∧ decode cX12_qDropsToBracket 11 = .ok (.aload_n 0, 1) ∧ decode cX12_qDropsToBracket 12 = .ok (.getfield 246, 3) ∧ decode cX12_qDropsToBracket 15 = .ok (.aload_n 0, 1) := by decide +kernel
theorem eX12_qDropsToBracket_16 : decode cX12_qDropsToBracket 16 = .ok (.getfield 356, 3) ∧ decode cX12_qDropsToBracket 19 = .ok (.iconst 1, 1) ∧ decode cX12_qDropsToBracket 20 = .ok (.isub, 1) ∧ decode cX12_qDropsToBracket 21 = .ok (.iaload, 1) ∧ decode cX12_qDropsToBracket 22 = .ok (.invokestatic 696, 3) ∧ decode cX12_qDropsToBracket 25 = .ok (.ifCond .ne 10, 3) ∧ decode cX12_qDropsToBracket 28 = .ok (.aload_n 0, 1) ∧ decode cX12_qDropsToBracket 29 = .ok (.invokevirtual 699, 3) := by decide +kernel
theorem eX12_qDropsToBracket_32 : decode cX12_qDropsToBracket 32 = .ok (.goto (-32), 3) ∧ decode cX12_qDropsToBracket 35 = .ok (.return_, 1) ∧ decode cX12_qGoesOn 0 = .ok (.aload_n 0, 1) ∧ decode cX12_qGoesOn 1 = .ok (.getfield 266, 3) ∧ decode cX12_qGoesOn 4 = .ok (.ifCond .ne 118, 3) ∧ decode cX12_qGoesOn 7 = .ok (.aload_n 0, 1) ∧ decode cX12_qGoesOn 8 = .ok (.invokevirtual 278, 3) ∧ decode cX12_qGoesOn 11 = .ok (.bipush 41, 2) := by decide +kernel
theorem eX12_qGoesOn_13 : decode cX12_qGoesOn 13 = .ok (.if_icmp .ne 109, 3) ∧ decode cX12_qGoesOn 16 = .ok (.aload_n 0, 1) ∧ decode cX12_qGoesOn 17 = .ok (.invokevirtual 720, 3) ∧ decode cX12_qGoesOn 20 = .ok (.bipush 20, 2) ∧ decode cX12_qGoesOn 22 = .ok (.if_icmp .eq 21, 3) ∧ decode cX12_qGoesOn 25 = .ok (.aload_n 0, 1) ∧ decode cX12_qGoesOn 26 = .ok (.invokevirtual 720, 3) ∧ decode cX12_qGoesOn 29 = .ok (.bipush 23, 2) := by decide +kernel
theorem eX12_qGoesOn_31 : decode cX12_qGoesOn 31 = .ok (.if_icmp .eq 12, 3) ∧ decode cX12_qGoesOn 34 = .ok (.aload_n 0, 1) ∧ decode cX12_qGoesOn 35 = .ok (.invokevirtual 720, 3) ∧ decode cX12_qGoesOn 38 = .ok (.bipush 24, 2) ∧ decode cX12_qGoesOn 40 = .ok (.if_icmp .ne 82, 3) ∧ decode cX12_qGoesOn 43 = .ok (.aload_n 0, 1) ∧ decode cX12_qGoesOn 44 = .ok (.dup, 1) ∧ decode cX12_qGoesOn 45 = .ok (.getfield 272, 3) := by decide +kernel
theorem eX12_qGoesOn_48 : decode cX12_qGoesOn 48 = .ok (.iconst 1, 1) ∧ decode cX12_qGoesOn 49 = .ok (.iadd, 1) ∧ decode cX12_qGoesOn 50 = .ok (.putfield 272, 3) ∧ decode cX12_qGoesOn 53 = .ok (.aload_n 0, 1) ∧ decode cX12_qGoesOn 54 = .ok (.invokevirtual 723, 3) ∧ decode cX12_qGoesOn 57 = .ok (.aload_n 0, 1) ∧ decode cX12_qGoesOn 58 = .ok (.dup, 1) ∧ decode cX12_qGoesOn 59 = .ok (.getfield 356, 3) := by decide +kernel
theorem eX12_qGoesOn_62 : decode cX12_qGoesOn 62 = .ok (.iconst 1, 1) ∧ decode cX12_qGoesOn 63 = .ok (.isub, 1) ∧ decode cX12_qGoesOn 64 = .ok (.putfield 356, 3) ∧ decode cX12_qGoesOn 67 = .ok (.aload_n 0, 1) ∧ decode cX12_qGoesOn 68 = .ok (.dup, 1) ∧ decode cX12_qGoesOn 69 = .ok (.getfield 359, 3) ∧ decode cX12_qGoesOn 72 = .ok (.iconst 1, 1) ∧ decode cX12_qGoesOn 73 = .ok (.isub, 1) := by decide +kernel
theorem eX12_qGoesOn_74 : decode cX12_qGoesOn 74 = .ok (.putfield 359, 3) ∧ decode cX12_qGoesOn 77 = .ok (.aload_n 0, 1) ∧ decode cX12_qGoesOn 78 = .ok (.getfield 246, 3) ∧ decode cX12_qGoesOn 81 = .ok (.aload_n 0, 1) ∧ decode cX12_qGoesOn 82 = .ok (.getfield 356, 3) ∧ decode cX12_qGoesOn 85 = .ok (.iaload, 1) ∧ decode cX12_qGoesOn 86 = .ok (.bipush 20, 2) ∧ decode cX12_qGoesOn 88 = .ok (.if_icmp .eq 27, 3) := by decide +kernel
theorem eX12_qGoesOn_91 : decode cX12_qGoesOn 91 = .ok (.aload_n 0, 1) ∧ decode cX12_qGoesOn 92 = .ok (.aload_n 0, 1) ∧ decode cX12_qGoesOn 93 = .ok (.getfield 246, 3) ∧ decode cX12_qGoesOn 96 = .ok (.aload_n 0, 1) ∧ decode cX12_qGoesOn 97 = .ok (.getfield 356, 3) ∧ decode cX12_qGoesOn 100 = .ok (.iaload, 1) ∧ decode cX12_qGoesOn 101 = .ok (.bipush 23, 2) ∧ decode cX12_qGoesOn 103 = .ok (.if_icmp .ne 7, 3) := by decide +kernel
theorem eX12_qGoesOn_106 : decode cX12_qGoesOn 106 = .ok (.iconst 5, 1) ∧ decode cX12_qGoesOn 107 = .ok (.goto 5, 3) ∧ decode cX12_qGoesOn 110 = .ok (.bipush 6, 2) ∧ decode cX12_qGoesOn 112 = .ok (.invokevirtual 693, 3) ∧ decode cX12_qGoesOn 115 = .ok (.aload_n 0, 1) ∧ decode cX12_qGoesOn 116 = .ok (.invokevirtual 717, 3) ∧ decode cX12_qGoesOn 119 = .ok (.goto (-119), 3) ∧ decode cX12_qGoesOn 122 = .ok (.aload_n 0, 1) := by decide +kernel
theorem eX12_qGoesOn_123 : decode cX12_qGoesOn 123 = .ok (.bipush 42, 2) ∧ decode cX12_qGoesOn 125 = .ok (.invokevirtual 300, 3) ∧ decode cX12_qGoesOn 128 = .ok (.ifCond .ne 12, 3) ∧ decode cX12_qGoesOn 131 = .ok (.aload_n 0, 1) ∧ decode cX12_qGoesOn 132 = .ok (.bipush 47, 2) ∧ decode cX12_qGoesOn 134 = .ok (.invokevirtual 300, 3) ∧ decode cX12_qGoesOn 137 = .ok (.ifCond .eq 70, 3) ∧ decode cX12_qGoesOn 140 = .ok (.aload_n 0, 1) := by decide +kernel
theorem eX12_qGoesOn_141 : decode cX12_qGoesOn 141 = .ok (.getfield 7, 3) ∧ decode cX12_qGoesOn 144 = .ok (.aload_n 0, 1) ∧ decode cX12_qGoesOn 145 = .ok (.getfield 272, 3) ∧ decode cX12_qGoesOn 148 = .ok (.iconst 1, 1) ∧ decode cX12_qGoesOn 149 = .ok (.isub, 1) ∧ decode cX12_qGoesOn 150 = .ok (.iaload, 1) ∧ decode cX12_qGoesOn 151 = .ok (.bipush 42, 2) ∧ decode cX12_qGoesOn 153 = .ok (.if_icmp .ne 7, 3) := by decide +kernel
theorem eX12_qGoesOn_156 : decode cX12_qGoesOn 156 = .ok (.iconst 3, 1) ∧ decode cX12_qGoesOn 157 = .ok (.goto 4, 3) ∧ decode cX12_qGoesOn 160 = .ok (.iconst 4, 1) ∧ decode cX12_qGoesOn 161 = .ok (.istore_n 1, 1) ∧ decode cX12_qGoesOn 162 = .ok (.aload_n 0, 1) ∧ decode cX12_qGoesOn 163 = .ok (.iconst 3, 1) ∧ decode cX12_qGoesOn 164 = .ok (.invokevirtual 726, 3) ∧ decode cX12_qGoesOn 167 = .ok (.ifCond .ne 11, 3) := by decide +kernel
theorem eX12_qGoesOn_170 : decode cX12_qGoesOn 170 = .ok (.aload_n 0, 1) ∧ decode cX12_qGoesOn 171 = .ok (.iconst 4, 1) ∧ decode cX12_qGoesOn 172 = .ok (.invokevirtual 726, 3) ∧ decode cX12_qGoesOn 175 = .ok (.ifCond .eq 10, 3) ∧ decode cX12_qGoesOn 178 = .ok (.aload_n 0, 1) ∧ decode cX12_qGoesOn 179 = .ok (.invokevirtual 699, 3) ∧ decode cX12_qGoesOn 182 = .ok (.goto (-20), 3) ∧ decode cX12_qGoesOn 185 = .ok (.aload_n 0, 1) := by decide +kernel
theorem eX12_qGoesOn_186 : decode cX12_qGoesOn 186 = .ok (.getfield 246, 3) ∧ decode cX12_qGoesOn 189 = .ok (.aload_n 0, 1) ∧ decode cX12_qGoesOn 190 = .ok (.getfield 356, 3) ∧ decode cX12_qGoesOn 193 = .ok (.iload_n 1, 1) ∧ decode cX12_qGoesOn 194 = .ok (.iastore, 1) ∧ decode cX12_qGoesOn 195 = .ok (.aload_n 0, 1) ∧ decode cX12_qGoesOn 196 = .ok (.dup, 1) ∧ decode cX12_qGoesOn 197 = .ok (.getfield 356, 3) := by decide +kernel
theorem eX12_qGoesOn_200 : decode cX12_qGoesOn 200 = .ok (.iconst 1, 1) ∧ decode cX12_qGoesOn 201 = .ok (.iadd, 1) ∧ decode cX12_qGoesOn 202 = .ok (.putfield 356, 3) ∧ decode cX12_qGoesOn 205 = .ok (.iconst 1, 1) ∧ decode cX12_qGoesOn 206 = .ok (.ireturn, 1) ∧ decode cX12_qGoesOn 207 = .ok (.aload_n 0, 1) ∧ decode cX12_qGoesOn 208 = .ok (.bipush 43, 2) ∧ decode cX12_qGoesOn 210 = .ok (.invokevirtual 300, 3) := by decide +kernel
theorem eX12_qGoesOn_213 : decode cX12_qGoesOn 213 = .ok (.ifCond .ne 12, 3) ∧ decode cX12_qGoesOn 216 = .ok (.aload_n 0, 1) ∧ decode cX12_qGoesOn 217 = .ok (.bipush 45, 2) ∧ decode cX12_qGoesOn 219 = .ok (.invokevirtual 300, 3) ∧ decode cX12_qGoesOn 222 = .ok (.ifCond .eq 86, 3) ∧ decode cX12_qGoesOn 225 = .ok (.aload_n 0, 1) ∧ decode cX12_qGoesOn 226 = .ok (.getfield 7, 3) ∧ decode cX12_qGoesOn 229 = .ok (.aload_n 0, 1) := by decide +kernel
theorem eX12_qGoesOn_230 : decode cX12_qGoesOn 230 = .ok (.getfield 272, 3) ∧ decode cX12_qGoesOn 233 = .ok (.iconst 1, 1) ∧ decode cX12_qGoesOn 234 = .ok (.isub, 1) ∧ decode cX12_qGoesOn 235 = .ok (.iaload, 1) ∧ decode cX12_qGoesOn 236 = .ok (.bipush 43, 2) ∧ decode cX12_qGoesOn 238 = .ok (.if_icmp .ne 7, 3) ∧ decode cX12_qGoesOn 241 = .ok (.iconst 1, 1) ∧ decode cX12_qGoesOn 242 = .ok (.goto 4, 3) := by decide +kernel
theorem eX12_qGoesOn_245 : decode cX12_qGoesOn 245 = .ok (.iconst 2, 1) ∧ decode cX12_qGoesOn 246 = .ok (.istore_n 1, 1) ∧ decode cX12_qGoesOn 247 = .ok (.aload_n 0, 1) ∧ decode cX12_qGoesOn 248 = .ok (.iconst 3, 1) ∧ decode cX12_qGoesOn 249 = .ok (.invokevirtual 726, 3) ∧ decode cX12_qGoesOn 252 = .ok (.ifCond .ne 27, 3) ∧ decode cX12_qGoesOn 255 = .ok (.aload_n 0, 1) ∧ decode cX12_qGoesOn 256 = .ok (.iconst 4, 1) := by decide +kernel
theorem eX12_qGoesOn_257 : decode cX12_qGoesOn 257 = .ok (.invokevirtual 726, 3) ∧ decode cX12_qGoesOn 260 = .ok (.ifCond .ne 19, 3) ∧ decode cX12_qGoesOn 263 = .ok (.aload_n 0, 1) ∧ decode cX12_qGoesOn 264 = .ok (.iconst 1, 1) ∧ decode cX12_qGoesOn 265 = .ok (.invokevirtual 726, 3) ∧ decode cX12_qGoesOn 268 = .ok (.ifCond .ne 11, 3) ∧ decode cX12_qGoesOn 271 = .ok (.aload_n 0, 1) ∧ decode cX12_qGoesOn 272 = .ok (.iconst 2, 1) := by decide +kernel
theorem eX12_qGoesOn_273 : decode cX12_qGoesOn 273 = .ok (.invokevirtual 726, 3) ∧ decode cX12_qGoesOn 276 = .ok (.ifCond .eq 10, 3) ∧ decode cX12_qGoesOn 279 = .ok (.aload_n 0, 1) ∧ decode cX12_qGoesOn 280 = .ok (.invokevirtual 699, 3) ∧ decode cX12_qGoesOn 283 = .ok (.goto (-36), 3) ∧ decode cX12_qGoesOn 286 = .ok (.aload_n 0, 1) ∧ decode cX12_qGoesOn 287 = .ok (.getfield 246, 3) ∧ decode cX12_qGoesOn 290 = .ok (.aload_n 0, 1) := by decide +kernel
theorem eX12_qGoesOn_291 : decode cX12_qGoesOn 291 = .ok (.getfield 356, 3) ∧ decode cX12_qGoesOn 294 = .ok (.iload_n 1, 1) ∧ decode cX12_qGoesOn 295 = .ok (.iastore, 1) ∧ decode cX12_qGoesOn 296 = .ok (.aload_n 0, 1) ∧ decode cX12_qGoesOn 297 = .ok (.dup, 1) ∧ decode cX12_qGoesOn 298 = .ok (.getfield 356, 3) ∧ decode cX12_qGoesOn 301 = .ok (.iconst 1, 1) ∧ decode cX12_qGoesOn 302 = .ok (.iadd, 1) := by decide +kernel
theorem eX12_qGoesOn_303 : decode cX12_qGoesOn 303 = .ok (.putfield 356, 3) ∧ decode cX12_qGoesOn 306 = .ok (.iconst 1, 1) ∧ decode cX12_qGoesOn 307 = .ok (.ireturn, 1) ∧ decode cX12_qGoesOn 308 = .ok (.aload_n 0, 1) ∧ decode cX12_qGoesOn 309 = .ok (.invokevirtual 720, 3) ∧ decode cX12_qGoesOn 312 = .ok (.bipush 21, 2) ∧ decode cX12_qGoesOn 314 = .ok (.if_icmp .eq 12, 3) ∧ decode cX12_qGoesOn 317 = .ok (.aload_n 0, 1) := by decide +kernel
theorem eX12_qGoesOn_318 : decode cX12_qGoesOn 318 = .ok (.invokevirtual 720, 3) ∧ decode cX12_qGoesOn 321 = .ok (.bipush 22, 2) ∧ decode cX12_qGoesOn 323 = .ok (.if_icmp .ne 39, 3) ∧ decode cX12_qGoesOn 326 = .ok (.aload_n 0, 1) ∧ decode cX12_qGoesOn 327 = .ok (.bipush 44, 2) ∧ decode cX12_qGoesOn 329 = .ok (.invokevirtual 335, 3) ∧ decode cX12_qGoesOn 332 = .ok (.aload_n 0, 1) ∧ decode cX12_qGoesOn 333 = .ok (.getfield 266, 3) := by decide +kernel
theorem eX12_qGoesOn_336 : decode cX12_qGoesOn 336 = .ok (.ifCond .eq 5, 3) ∧ decode cX12_qGoesOn 339 = .ok (.iconst 0, 1) ∧ decode cX12_qGoesOn 340 = .ok (.ireturn, 1) ∧ decode cX12_qGoesOn 341 = .ok (.aload_n 0, 1) ∧ decode cX12_qGoesOn 342 = .ok (.invokevirtual 723, 3) ∧ decode cX12_qGoesOn 345 = .ok (.aload_n 0, 1) ∧ decode cX12_qGoesOn 346 = .ok (.getfield 246, 3) ∧ decode cX12_qGoesOn 349 = .ok (.aload_n 0, 1) := by decide +kernel
theorem eX12_qGoesOn_350 : decode cX12_qGoesOn 350 = .ok (.getfield 356, 3) ∧ decode cX12_qGoesOn 353 = .ok (.iconst 1, 1) ∧ decode cX12_qGoesOn 354 = .ok (.isub, 1) ∧ decode cX12_qGoesOn 355 = .ok (.dup2, 1) ∧ decode cX12_qGoesOn 356 = .ok (.iaload, 1) ∧ decode cX12_qGoesOn 357 = .ok (.iconst 2, 1) ∧ decode cX12_qGoesOn 358 = .ok (.iadd, 1) ∧ decode cX12_qGoesOn 359 = .ok (.iastore, 1) := by decide +kernel
theorem eX12_qGoesOn_360 : decode cX12_qGoesOn 360 = .ok (.iconst 1, 1) ∧ decode cX12_qGoesOn 361 = .ok (.ireturn, 1) ∧ decode cX12_qGoesOn 362 = .ok (.aload_n 0, 1) ∧ decode cX12_qGoesOn 363 = .ok (.invokevirtual 720, 3) ∧ decode cX12_qGoesOn 366 = .ok (.iconst (-1), 1) ∧ decode cX12_qGoesOn 367 = .ok (.if_icmp .eq 19, 3) ∧ decode cX12_qGoesOn 370 = .ok (.aload_n 0, 1) ∧ decode cX12_qGoesOn 371 = .ok (.getfield 266, 3) := by decide +kernel
theorem eX12_qGoesOn_374 : decode cX12_qGoesOn 374 = .ok (.ifCond .ne 12, 3) ∧ decode cX12_qGoesOn 377 = .ok (.aload_n 0, 1) ∧ decode cX12_qGoesOn 378 = .ok (.iconst 1, 1) ∧ decode cX12_qGoesOn 379 = .ok (.aload_n 0, 1) ∧ decode cX12_qGoesOn 380 = .ok (.getfield 272, 3) ∧ decode cX12_qGoesOn 383 = .ok (.invokevirtual 296, 3) ∧ decode cX12_qGoesOn 386 = .ok (.iconst 0, 1) ∧ decode cX12_qGoesOn 387 = .ok (.ireturn, 1) := by decide +kernel
theorem eX12_qIsBracket_0 : decode cX12_qIsBracket 0 = .ok (.iload_n 0, 1) ∧ decode cX12_qIsBracket 1 = .ok (.bipush 20, 2) ∧ decode cX12_qIsBracket 3 = .ok (.if_icmp .lt 13, 3) ∧ decode cX12_qIsBracket 6 = .ok (.iload_n 0, 1) ∧ decode cX12_qIsBracket 7 = .ok (.bipush 24, 2) ∧ decode cX12_qIsBracket 9 = .ok (.if_icmp .gt 7, 3) ∧ decode cX12_qIsBracket 12 = .ok (.iconst 1, 1) ∧ decode cX12_qIsBracket 13 = .ok (.goto 4, 3) := by decide +kernel
theorem eX12_qIsBracket_16 : decode cX12_qIsBracket 16 = .ok (.iconst 0, 1) ∧ decode cX12_qIsBracket 17 = .ok (.ireturn, 1) ∧ decode cX12_qIsOn 0 = .ok (.aload_n 0, 1) ∧ decode cX12_qIsOn 1 = .ok (.getfield 356, 3) ∧ decode cX12_qIsOn 4 = .ok (.ifCond .le 22, 3) ∧ decode cX12_qIsOn 7 = .ok (.aload_n 0, 1) ∧ decode cX12_qIsOn 8 = .ok (.getfield 246, 3) ∧ decode cX12_qIsOn 11 = .ok (.aload_n 0, 1) := by decide +kernel
theorem eX12_qIsOn_12 : decode cX12_qIsOn 12 = .ok (.getfield 356, 3) ∧ decode cX12_qIsOn 15 = .ok (.iconst 1, 1) ∧ decode cX12_qIsOn 16 = .ok (.isub, 1) ∧ decode cX12_qIsOn 17 = .ok (.iaload, 1) ∧ decode cX12_qIsOn 18 = .ok (.iload_n 1, 1) ∧ decode cX12_qIsOn 19 = .ok (.if_icmp .ne 7, 3) ∧ decode cX12_qIsOn 22 = .ok (.iconst 1, 1) ∧ decode cX12_qIsOn 23 = .ok (.goto 4, 3) := by decide +kernel
theorem eX12_qIsOn_26 : decode cX12_qIsOn 26 = .ok (.iconst 0, 1) ∧ decode cX12_qIsOn 27 = .ok (.ireturn, 1) ∧ decode cX12_qOpens 0 = .ok (.aload_n 0, 1) ∧ decode cX12_qOpens 1 = .ok (.getfield 266, 3) ∧ decode cX12_qOpens 4 = .ok (.ifCond .eq 4, 3) ∧ decode cX12_qOpens 7 = .ok (.return_, 1) ∧ decode cX12_qOpens 8 = .ok (.aload_n 0, 1) ∧ decode cX12_qOpens 9 = .ok (.getfield 359, 3) := by decide +kernel
theorem eX12_qOpens_12 : decode cX12_qOpens 12 = .ok (.bipush 6, 2) ∧ decode cX12_qOpens 14 = .ok (.if_icmp .ne 10, 3) ∧ decode cX12_qOpens 17 = .ok (.aload_n 0, 1) ∧ decode cX12_qOpens 18 = .ok (.iconst 4, 1) ∧ decode cX12_qOpens 19 = .ok (.iload_n 2, 1) ∧ decode cX12_qOpens 20 = .ok (.invokevirtual 296, 3) ∧ decode cX12_qOpens 23 = .ok (.return_, 1) ∧ decode cX12_qOpens 24 = .ok (.aload_n 0, 1) := by decide +kernel
theorem eX12_qOpens_25 : decode cX12_qOpens 25 = .ok (.dup, 1) ∧ decode cX12_qOpens 26 = .ok (.getfield 359, 3) ∧ decode cX12_qOpens 29 = .ok (.iconst 1, 1) ∧ decode cX12_qOpens 30 = .ok (.iadd, 1) ∧ decode cX12_qOpens 31 = .ok (.putfield 359, 3) ∧ decode cX12_qOpens 34 = .ok (.aload_n 0, 1) ∧ decode cX12_qOpens 35 = .ok (.getfield 246, 3) ∧ decode cX12_qOpens 38 = .ok (.aload_n 0, 1) := by decide +kernel
theorem eX12_qOpens_39 : decode cX12_qOpens 39 = .ok (.getfield 356, 3) ∧ decode cX12_qOpens 42 = .ok (.iload_n 1, 1) ∧ decode cX12_qOpens 43 = .ok (.iastore, 1) ∧ decode cX12_qOpens 44 = .ok (.aload_n 0, 1) ∧ decode cX12_qOpens 45 = .ok (.dup, 1) ∧ decode cX12_qOpens 46 = .ok (.getfield 356, 3) ∧ decode cX12_qOpens 49 = .ok (.iconst 1, 1) ∧ decode cX12_qOpens 50 = .ok (.iadd, 1) := by decide +kernel
theorem eX12_qOpens_51 : decode cX12_qOpens 51 = .ok (.putfield 356, 3) ∧ decode cX12_qOpens 54 = .ok (.return_, 1) ∧ decode cX12_qPartTold 0 = .ok (.iconst 1, 1) ∧ decode cX12_qPartTold 1 = .ok (.istore_n 1, 1) ∧ decode cX12_qPartTold 2 = .ok (.iload_n 1, 1) ∧ decode cX12_qPartTold 3 = .ok (.ifCond .eq 183, 3) ∧ decode cX12_qPartTold 6 = .ok (.aload_n 0, 1) ∧ decode cX12_qPartTold 7 = .ok (.getfield 266, 3) := by decide +kernel
theorem eX12_qPartTold_10 : decode cX12_qPartTold 10 = .ok (.ifCond .ne 176, 3) ∧ decode cX12_qPartTold 13 = .ok (.aload_n 0, 1) ∧ decode cX12_qPartTold 14 = .ok (.invokevirtual 278, 3) ∧ decode cX12_qPartTold 17 = .ok (.istore_n 2, 1) ∧ decode cX12_qPartTold 18 = .ok (.aload_n 0, 1) ∧ decode cX12_qPartTold 19 = .ok (.bipush 8, 2) ∧ decode cX12_qPartTold 21 = .ok (.bipush 10, 2) ∧ decode cX12_qPartTold 23 = .ok (.invokevirtual 708, 3) := by decide +kernel
theorem eX12_qPartTold_26 : decode cX12_qPartTold 26 = .ok (.istore_n 3, 1) ∧ decode cX12_qPartTold 27 = .ok (.iload_n 2, 1) ∧ decode cX12_qPartTold 28 = .ok (.bipush 40, 2) ∧ decode cX12_qPartTold 30 = .ok (.if_icmp .ne 26, 3) ∧ decode cX12_qPartTold 33 = .ok (.aload_n 0, 1) ∧ decode cX12_qPartTold 34 = .ok (.bipush 20, 2) ∧ decode cX12_qPartTold 36 = .ok (.aload_n 0, 1) ∧ decode cX12_qPartTold 37 = .ok (.getfield 272, 3) := by decide +kernel
theorem eX12_qPartTold_40 : decode cX12_qPartTold 40 = .ok (.invokevirtual 711, 3) ∧ decode cX12_qPartTold 43 = .ok (.aload_n 0, 1) ∧ decode cX12_qPartTold 44 = .ok (.dup, 1) ∧ decode cX12_qPartTold 45 = .ok (.getfield 272, 3) ∧ decode cX12_qPartTold 48 = .ok (.iconst 1, 1) ∧ decode cX12_qPartTold 49 = .ok (.iadd, 1) ∧ decode cX12_qPartTold 50 = .ok (.putfield 272, 3) ∧ decode cX12_qPartTold 53 = .ok (.goto 130, 3) := by decide +kernel
theorem eX12_qPartTold_56 : decode cX12_qPartTold 56 = .ok (.aload_n 0, 1) ∧ decode cX12_qPartTold 57 = .ok (.aload_n 0, 1) ∧ decode cX12_qPartTold 58 = .ok (.getfield 207, 3) ∧ decode cX12_qPartTold 61 = .ok (.invokevirtual 289, 3) ∧ decode cX12_qPartTold 64 = .ok (.ifCond .ne 14, 3) ∧ decode cX12_qPartTold 67 = .ok (.aload_n 0, 1) ∧ decode cX12_qPartTold 68 = .ok (.aload_n 0, 1) ∧ decode cX12_qPartTold 69 = .ok (.getfield 210, 3) := by decide +kernel
theorem eX12_qPartTold_72 : decode cX12_qPartTold 72 = .ok (.invokevirtual 289, 3) ∧ decode cX12_qPartTold 75 = .ok (.ifCond .eq 78, 3) ∧ decode cX12_qPartTold 78 = .ok (.aload_n 0, 1) ∧ decode cX12_qPartTold 79 = .ok (.aload_n 0, 1) ∧ decode cX12_qPartTold 80 = .ok (.getfield 207, 3) ∧ decode cX12_qPartTold 83 = .ok (.invokevirtual 293, 3) ∧ decode cX12_qPartTold 86 = .ok (.istore 4, 2) ∧ decode cX12_qPartTold 88 = .ok (.iload 4, 2) := by decide +kernel
theorem eX12_qPartTold_90 : decode cX12_qPartTold 90 = .ok (.ifCond .ne 11, 3) ∧ decode cX12_qPartTold 93 = .ok (.aload_n 0, 1) ∧ decode cX12_qPartTold 94 = .ok (.aload_n 0, 1) ∧ decode cX12_qPartTold 95 = .ok (.getfield 210, 3) ∧ decode cX12_qPartTold 98 = .ok (.invokevirtual 327, 3) ∧ decode cX12_qPartTold 101 = .ok (.aload_n 0, 1) ∧ decode cX12_qPartTold 102 = .ok (.invokevirtual 278, 3) ∧ decode cX12_qPartTold 105 = .ok (.bipush 40, 2) := by decide +kernel
theorem eX12_qPartTold_107 : decode cX12_qPartTold 107 = .ok (.if_icmp .ne 10, 3) ∧ decode cX12_qPartTold 110 = .ok (.aload_n 0, 1) ∧ decode cX12_qPartTold 111 = .ok (.getfield 272, 3) ∧ decode cX12_qPartTold 114 = .ok (.goto 4, 3) ∧ decode cX12_qPartTold 117 = .ok (.iconst (-1), 1) ∧ decode cX12_qPartTold 118 = .ok (.istore 5, 2) ∧ decode cX12_qPartTold 120 = .ok (.iload 5, 2) ∧ decode cX12_qPartTold 122 = .ok (.iconst (-1), 1) := by decide +kernel
theorem eX12_qPartTold_123 : decode cX12_qPartTold 123 = .ok (.if_icmp .eq 21, 3) ∧ decode cX12_qPartTold 126 = .ok (.aload_n 0, 1) ∧ decode cX12_qPartTold 127 = .ok (.iload 4, 2) ∧ decode cX12_qPartTold 129 = .ok (.ifCond .eq 8, 3) ∧ decode cX12_qPartTold 132 = .ok (.bipush 21, 2) ∧ decode cX12_qPartTold 134 = .ok (.goto 5, 3) ∧ decode cX12_qPartTold 137 = .ok (.bipush 22, 2) ∧ decode cX12_qPartTold 139 = .ok (.iload 5, 2) := by decide +kernel
theorem eX12_qPartTold_141 : decode cX12_qPartTold 141 = .ok (.invokevirtual 711, 3) ∧ decode cX12_qPartTold 144 = .ok (.aload_n 0, 1) ∧ decode cX12_qPartTold 145 = .ok (.bipush 40, 2) ∧ decode cX12_qPartTold 147 = .ok (.invokevirtual 335, 3) ∧ decode cX12_qPartTold 150 = .ok (.goto 33, 3) ∧ decode cX12_qPartTold 153 = .ok (.iload_n 3, 1) ∧ decode cX12_qPartTold 154 = .ok (.iconst (-1), 1) ∧ decode cX12_qPartTold 155 = .ok (.if_icmp .eq 26, 3) := by decide +kernel
theorem eX12_qPartTold_158 : decode cX12_qPartTold 158 = .ok (.aload_n 0, 1) ∧ decode cX12_qPartTold 159 = .ok (.bipush 60, 2) ∧ decode cX12_qPartTold 161 = .ok (.iload_n 3, 1) ∧ decode cX12_qPartTold 162 = .ok (.iadd, 1) ∧ decode cX12_qPartTold 163 = .ok (.bipush 8, 2) ∧ decode cX12_qPartTold 165 = .ok (.isub, 1) ∧ decode cX12_qPartTold 166 = .ok (.aload_n 0, 1) ∧ decode cX12_qPartTold 167 = .ok (.getfield 272, 3) := by decide +kernel
theorem eX12_qPartTold_170 : decode cX12_qPartTold 170 = .ok (.invokevirtual 711, 3) ∧ decode cX12_qPartTold 173 = .ok (.aload_n 0, 1) ∧ decode cX12_qPartTold 174 = .ok (.iload_n 3, 1) ∧ decode cX12_qPartTold 175 = .ok (.invokevirtual 714, 3) ∧ decode cX12_qPartTold 178 = .ok (.goto 5, 3) ∧ decode cX12_qPartTold 181 = .ok (.iconst 0, 1) ∧ decode cX12_qPartTold 182 = .ok (.istore_n 1, 1) ∧ decode cX12_qPartTold 183 = .ok (.goto (-181), 3) := by decide +kernel
theorem eX12_qPartTold_186 : decode cX12_qPartTold 186 = .ok (.aload_n 0, 1) ∧ decode cX12_qPartTold 187 = .ok (.getfield 266, 3) ∧ decode cX12_qPartTold 190 = .ok (.ifCond .eq 4, 3) ∧ decode cX12_qPartTold 193 = .ok (.return_, 1) ∧ decode cX12_qPartTold 194 = .ok (.aload_n 0, 1) ∧ decode cX12_qPartTold 195 = .ok (.iconst 0, 1) ∧ decode cX12_qPartTold 196 = .ok (.bipush 8, 2) ∧ decode cX12_qPartTold 198 = .ok (.invokevirtual 708, 3) := by decide +kernel
theorem eX12_qPartTold_201 : decode cX12_qPartTold 201 = .ok (.istore_n 2, 1) ∧ decode cX12_qPartTold 202 = .ok (.iload_n 2, 1) ∧ decode cX12_qPartTold 203 = .ok (.iconst (-1), 1) ∧ decode cX12_qPartTold 204 = .ok (.if_icmp .eq 8, 3) ∧ decode cX12_qPartTold 207 = .ok (.aload_n 0, 1) ∧ decode cX12_qPartTold 208 = .ok (.iload_n 2, 1) ∧ decode cX12_qPartTold 209 = .ok (.invokevirtual 714, 3) ∧ decode cX12_qPartTold 212 = .ok (.aload_n 0, 1) := by decide +kernel
theorem eX12_qPartTold_213 : decode cX12_qPartTold 213 = .ok (.iload_n 2, 1) ∧ decode cX12_qPartTold 214 = .ok (.iconst (-1), 1) ∧ decode cX12_qPartTold 215 = .ok (.if_icmp .eq 10, 3) ∧ decode cX12_qPartTold 218 = .ok (.bipush 40, 2) ∧ decode cX12_qPartTold 220 = .ok (.iload_n 2, 1) ∧ decode cX12_qPartTold 221 = .ok (.iadd, 1) ∧ decode cX12_qPartTold 222 = .ok (.goto 15, 3) ∧ decode cX12_qPartTold 225 = .ok (.sipush 1000, 3) := by decide +kernel
theorem eX12_qPartTold_228 : decode cX12_qPartTold 228 = .ok (.aload_n 0, 1) ∧ decode cX12_qPartTold 229 = .ok (.iconst 0, 1) ∧ decode cX12_qPartTold 230 = .ok (.sipush 9999, 3) ∧ decode cX12_qPartTold 233 = .ok (.invokevirtual 331, 3) ∧ decode cX12_qPartTold 236 = .ok (.iadd, 1) ∧ decode cX12_qPartTold 237 = .ok (.invokevirtual 693, 3) ∧ decode cX12_qPartTold 240 = .ok (.aload_n 0, 1) ∧ decode cX12_qPartTold 241 = .ok (.invokevirtual 717, 3) := by decide +kernel
theorem eX12_qPartTold_244 : decode cX12_qPartTold 244 = .ok (.return_, 1) ∧ decode cX12_qWordOf 0 = .ok (.aload_n 0, 1) ∧ decode cX12_qWordOf 1 = .ok (.invokevirtual 702, 3) ∧ decode cX12_qWordOf 4 = .ok (.istore_n 3, 1) ∧ decode cX12_qWordOf 5 = .ok (.iload_n 3, 1) ∧ decode cX12_qWordOf 6 = .ok (.iload_n 1, 1) ∧ decode cX12_qWordOf 7 = .ok (.if_icmp .lt 20, 3) ∧ decode cX12_qWordOf 10 = .ok (.iload_n 3, 1) := by decide +kernel
theorem eX12_qWordOf_11 : decode cX12_qWordOf 11 = .ok (.iload_n 2, 1) ∧ decode cX12_qWordOf 12 = .ok (.if_icmp .ge 15, 3) ∧ decode cX12_qWordOf 15 = .ok (.aload_n 0, 1) ∧ decode cX12_qWordOf 16 = .ok (.iload_n 3, 1) ∧ decode cX12_qWordOf 17 = .ok (.invokevirtual 705, 3) ∧ decode cX12_qWordOf 20 = .ok (.ifCond .eq 7, 3) ∧ decode cX12_qWordOf 23 = .ok (.iload_n 3, 1) ∧ decode cX12_qWordOf 24 = .ok (.goto 4, 3) := by decide +kernel
theorem eX12_qWordOf_27 : decode cX12_qWordOf 27 = .ok (.iconst (-1), 1) ∧ decode cX12_qWordOf 28 = .ok (.ireturn, 1) := by decide +kernel
set_option maxHeartbeats 4000000 in
set_option maxRecDepth 100000 in
theorem k_x12_qWordOf (l : Launch) (D : va_G) (a : Nat → Nat) (p0 : Int) (p1 : Int) (sz : Nat) (s : MS) (o : (Int × MS)) (h : m_x12_qWordOf p0 p1 s = some o) : yWi l yX12_qWordOf cX12_qWordOf 4 (some .int) { frames := 3, cells := 0, slots := 0, locals := 180 } D sz [.ref (a 200), .int (i2 p0), .int (i2 p1)] (RW D a s) (RW D a o.2) (i2 o.1) := by
  refine Met.ofW (cc := cX12_qWordOf) (maxL := 4) (ret := (some .int)) (by decide) rfl ?_
  intro p e s₀ m args below meth c s₁ B hml hv
  obtain ⟨rfl, ⟨hsz, hP, hK, hD0⟩, hN⟩ := hv
  have hx := B.exec
  have hb := B.bytes
  have hr := B.returns
  have hts := atoms_spec (ws := wz yX12_qWordOf cX12_qWordOf 4 (some .int)) B.pre
  have ht : ∀ w ∈ lw_gd, w.before _ s₀ = true := fun w h => hts w (List.mem_cons_of_mem _ h)
  have hown : s₀.vm.findClass RX12 = some m.cls := findClass_of_methodNamed B.named
  have hlocks := B.notSynchronized
  subst hsz
  have hD := hD0.self (sz := s₀.heap.size)
  generalize hAe : va_A (RW D a s) s₀.heap.size = A at hD ⊢
  have hA : ∀ q : Nat, s₀.heap.size ≤ q → A q := fun q h => by rw [← hAe]; exact Or.inr h
  have hS : va_S A s₀.heap s₀.heap [] := va_S.rf
  have hDD : ∀ t : MS, va_D A (RW D a t) := fun t => RW_D t hD
  have hl := lv_entry ([.ref (a 200), .int (i2 p0), .int (i2 p1)]) (n := 4) (Nat.le_of_ble_eq_true rfl)
  rw [lg_entry_eq]
  generalize (lg_sl ([.ref (a 200), .int (i2 p0), .int (i2 p1)]) ++ List.replicate (4 - (lg_sl ([.ref (a 200), .int (i2 p0), .int (i2 p1)])).length) Slot.unset).toArray = ls at hl ⊢
  have hl : lv_has ls 4 [(0, .ref (a 200)), (1, .int (i2 p0)), (2, .int (i2 p1))] := hl
  unfold m_x12_qWordOf at h
  refine y_head (pcJ := 28) (σ := Int × MS) (fun u H locs ls => va_P D vwCl (RW D a u.2) H ∧ va_S A s₀.heap H locs ∧ lv_has ls 4 [] ∧ m_x12_qWordOf_J28 u.1 u.2 = some o) (fun u => [.int (i2 u.1)]) (fun u H locs ls hI => ?_) (fun J28 => ?_)
  · obtain ⟨hP, hS, hl, h⟩ := hI
    obtain ⟨x1, s2⟩ := u
    have hP : va_P D vwCl (RW D a s2) H := hP
    have hl : lv_has ls 4 [] := hl
    have h : m_x12_qWordOf_J28 x1 s2 = some o := h
    unfold m_x12_qWordOf_J28 at h
    obtain rfl := Option.some.inj h
    exact W.iret (v := (i2 x1)) hx hb hr (fun t ht hW => ⟨⟨_, (), rfl, rfl, by rw [ht]; exact hP, va_K.moved hW.alike hK, hDD _⟩, hS.F ht⟩) hS.2.2 eX12_qWordOf_27.2
  refine y_head (pcJ := 27) (σ := MS) (fun u H locs ls => va_P D vwCl (RW D a u) H ∧ va_S A s₀.heap H locs ∧ lv_has ls 4 [] ∧ m_x12_qWordOf_J27 u = some o) (fun u => []) (fun u H locs ls hI => ?_) (fun J27 => ?_)
  · obtain ⟨hP, hS, hl, h⟩ := hI
    obtain ⟨s3, rfl⟩ : ∃ z, z = u := ⟨u, rfl⟩
    have hP : va_P D vwCl (RW D a s3) H := hP
    have hl : lv_has ls 4 [] := hl
    have h : m_x12_qWordOf_J27 s3 = some o := h
    unfold m_x12_qWordOf_J27 at h
    refine lv_iconst (v := (-1)) hx hb eX12_qWordOf_27.1 (by decide) ?_
    exact J28 ((-1), s3) _ _ _ ⟨hP, hS, lv_sub hl [] rfl, h⟩
  refine lv_aload_n hx hb eX12_qPartTold_244.2.1 rfl (lv_at hl 0 rfl) ?_
  obtain ⟨⟨r6, s5⟩, hc4, h⟩ := bn_e h
  refine ywV (r0 := i2 r6) (As := []) (rest := []) (C := RX12) (n := 0) (ws' := RW D a s5) ⟨hx, hb, hml, hown, ht⟩ (k_x12_qWordHere l D a _ _ _ hc4) (zgV ml_X12_702 im_X12_qWordHere se_X12_qWordHere in_X12 co_X12_qWordHere) rfl rfl (by decide +kernel) ⟨Nat.le_of_ble_eq_true rfl, Nat.le_of_ble_eq_true rfl⟩ hN hK hP (hDD _) hS hA 0 RW_0 rfl rfl rfl hl.1 rfl (Nat.le_of_ble_eq_true rfl) eX12_qPartTold_244.2.2.1 ⟨Nat.le_of_ble_eq_true rfl, Nat.le_of_ble_eq_true rfl⟩ (fun H locs hP hS => ?_)
  refine lv_istore_n (lv' := [(3, .int (i2 r6)), (0, .ref (a 200)), (1, .int (i2 p0)), (2, .int (i2 p1))]) hx hb eX12_qPartTold_244.2.2.2.1 rfl hl (by decide) rfl (fun ls hl => ?_)
  refine lv_iload_n hx hb eX12_qPartTold_244.2.2.2.2.1 rfl (lv_at hl 0 rfl) ?_
  refine lv_iload_n hx hb eX12_qPartTold_244.2.2.2.2.2.1 rfl (lv_at hl 2 rfl) ?_
  obtain ⟨hr7, h⟩ := rg_e h
  obtain ⟨hr8, h⟩ := rg_e h
  refine lv_icmp_lt (tgt := 27) hx hb eX12_qPartTold_244.2.2.2.2.2.2.1 (by decide) (fun c9 => ?_) (fun c9 => ?_)
  · have h := if_t ((i2_lt (x := r6) (y := p0) hr7 hr8).mp c9) h
    exact J27 s5 _ _ _ ⟨hP, hS, lv_sub hl [] rfl, h⟩
  · have h := if_f (mt (i2_lt (x := r6) (y := p0) hr7 hr8).mpr c9) h
    refine lv_iload_n hx hb eX12_qPartTold_244.2.2.2.2.2.2.2 rfl (lv_at hl 0 rfl) ?_
    refine lv_iload_n hx hb eX12_qWordOf_11.1 rfl (lv_at hl 3 rfl) ?_
    obtain ⟨hr10, h⟩ := rg_e h
    obtain ⟨hr11, h⟩ := rg_e h
    refine lv_icmp_ge (tgt := 27) hx hb eX12_qWordOf_11.2.1 (by decide) (fun c12 => ?_) (fun c12 => ?_)
    · have h := if_t ((i2_le (x := p1) (y := r6) hr11 hr10).mp c12) h
      exact J27 s5 _ _ _ ⟨hP, hS, lv_sub hl [] rfl, h⟩
    · have h := if_f (mt (i2_le (x := p1) (y := r6) hr11 hr10).mpr c12) h
      refine lv_aload_n hx hb eX12_qWordOf_11.2.2.1 rfl (lv_at hl 1 rfl) ?_
      refine lv_iload_n hx hb eX12_qWordOf_11.2.2.2.1 rfl (lv_at hl 0 rfl) ?_
      obtain ⟨r14, hc13, h⟩ := bn_e h
      refine ycV (r0 := i2 r14) (As := [.int (i2 r6)]) (rest := []) (C := RX12) (n := 1) ⟨hx, hb, hml, hown, ht⟩ (k_x12_isAllowed l D a r6 _ _ hc13) (zgV ml_X12_705 im_X12_isAllowed se_X12_isAllowed in_X12 co_X12_isAllowed) rfl rfl (by decide +kernel) ⟨Nat.le_of_ble_eq_true rfl, Nat.le_of_ble_eq_true rfl⟩ hN hK hP hS 0 RW_0 rfl rfl rfl hl.1 rfl (Nat.le_of_ble_eq_true rfl) eX12_qWordOf_11.2.2.2.2.1 ⟨Nat.le_of_ble_eq_true rfl, Nat.le_of_ble_eq_true rfl⟩ (fun H locs hP hS => ?_)
      obtain ⟨hr15, h⟩ := rg_e h
      refine lv_if_eq (tgt := 27) hx hb eX12_qWordOf_11.2.2.2.2.2.1 (by decide) (fun c16 => ?_) (fun c16 => ?_)
      · have h := if_t ((i2_eq (x := r14) (y := 0) hr15 (by decide)).mp c16) h
        exact J27 s5 _ _ _ ⟨hP, hS, lv_sub hl [] rfl, h⟩
      · have h := if_f (mt (i2_eq (x := r14) (y := 0) hr15 (by decide)).mpr c16) h
        refine lv_iload_n hx hb eX12_qWordOf_11.2.2.2.2.2.2.1 rfl (lv_at hl 0 rfl) ?_
        refine lv_goto (tgt := 28) hx hb eX12_qWordOf_11.2.2.2.2.2.2.2 (by decide) ?_
        exact J28 (r6, s5) _ _ _ ⟨hP, hS, lv_sub hl [] rfl, h⟩
set_option maxHeartbeats 4000000 in
set_option maxRecDepth 100000 in
theorem k_x12_qAsksWord (l : Launch) (D : va_G) (a : Nat → Nat) (p0 : Int) (sz : Nat) (s : MS) (o : MS) (h : m_x12_qAsksWord p0 s = some o) : yWv l yX12_qAsksWord cX12_qAsksWord 2 none { frames := 4, cells := 0, slots := 0, locals := 240 } D sz [.ref (a 200), .int (i2 p0)] (RW D a s) (RW D a o) := by
  refine Met.ofW (cc := cX12_qAsksWord) (maxL := 2) (ret := none) (by decide) rfl ?_
  intro p e s₀ m args below meth c s₁ B hml hv
  obtain ⟨rfl, ⟨hsz, hP, hK, hD0⟩, hN⟩ := hv
  have hx := B.exec
  have hb := B.bytes
  have hr := B.returns
  have hts := atoms_spec (ws := wz yX12_qAsksWord cX12_qAsksWord 2 none) B.pre
  have ht : ∀ w ∈ lw_gd, w.before _ s₀ = true := fun w h => hts w (List.mem_cons_of_mem _ h)
  have hown : s₀.vm.findClass RX12 = some m.cls := findClass_of_methodNamed B.named
  have hlocks := B.notSynchronized
  subst hsz
  have hD := hD0.self (sz := s₀.heap.size)
  generalize hAe : va_A (RW D a s) s₀.heap.size = A at hD ⊢
  have hA : ∀ q : Nat, s₀.heap.size ≤ q → A q := fun q h => by rw [← hAe]; exact Or.inr h
  have hS : va_S A s₀.heap s₀.heap [] := va_S.rf
  have hDD : ∀ t : MS, va_D A (RW D a t) := fun t => RW_D t hD
  have hl := lv_entry ([.ref (a 200), .int (i2 p0)]) (n := 2) (Nat.le_of_ble_eq_true rfl)
  rw [lg_entry_eq]
  generalize (lg_sl ([.ref (a 200), .int (i2 p0)]) ++ List.replicate (2 - (lg_sl ([.ref (a 200), .int (i2 p0)])).length) Slot.unset).toArray = ls at hl ⊢
  have hl : lv_has ls 2 [(0, .ref (a 200)), (1, .int (i2 p0))] := hl
  unfold m_x12_qAsksWord at h
  refine y_head (pcJ := 159) (σ := MS) (fun u H locs ls => va_P D vwCl (RW D a u) H ∧ va_S A s₀.heap H locs ∧ lv_has ls 2 [] ∧ m_x12_qAsksWord_J159 u = some o) (fun u => []) (fun u H locs ls hI => ?_) (fun J159 => ?_)
  · obtain ⟨hP, hS, hl, h⟩ := hI
    obtain ⟨s1, rfl⟩ : ∃ z, z = u := ⟨u, rfl⟩
    have hP : va_P D vwCl (RW D a s1) H := hP
    have hl : lv_has ls 2 [] := hl
    have h : m_x12_qAsksWord_J159 s1 = some o := h
    unfold m_x12_qAsksWord_J159 at h
    obtain rfl := Option.some.inj h
    exact W.vret hx hb hr (fun t ht hW => ⟨⟨(), rfl, trivial, by rw [ht]; exact hP, va_K.moved hW.alike hK, hDD _⟩, hS.F ht⟩) hS.2.2 eX12_qAsksWord_152.2.2.2.1
  refine lv_iload_n hx hb eX12_qAsksWord_0.1 rfl (lv_at hl 1 rfl) ?_
  obtain ⟨hr2, h⟩ := rg_e h
  by_cases c3 : p0 = 0
  · have h := if_t c3 h
    refine lv_tableIn (off := 51) (tgt := 52) hx hb eX12_qAsksWord_0.2.1 (by rw [c3]; decide) (by rw [c3]; decide) (by rw [c3]; decide) (by decide) ?_
    refine lv_aload_n hx hb eX12_qAsksWord_0.2.2.1 rfl (lv_at hl 0 rfl) ?_
    refine lv_aload_n hx hb eX12_qAsksWord_0.2.2.2.1 rfl (lv_at hl 0 rfl) ?_
    refine va_get (D := D) (ci := 12) (v := .ref (a 91)) (C := RX12) (T := TX12) (N := 116) hx hb ht inX12 hown hK hP 0 RW_0 rfl 91 (by decide) (ht (.fieldLink RX12 213 "CloneVolumesModel" "levelAsked" "[C") fl_X12_213) (fun _ h9 => h9) mF_91 eX12_qAsksWord_0.2.2.2.2.1 ?_
    obtain ⟨s5, hc4, h⟩ := bn_e h
    refine ywVv (As := [.ref (a 91)]) (rest := []) (C := RX12) (n := 1) (ws' := RW D a s5) ⟨hx, hb, hml, hown, ht⟩ (k_x12_asks l D a 65 (a 91) 91 5 (fun _ => RW_65) (by decide) _ _ _ hc4) (zgV ml_X12_327 im_X12_asks se_X12_asks in_X12 co_X12_asks) rfl rfl (by decide +kernel) ⟨Nat.le_of_ble_eq_true rfl, Nat.le_of_ble_eq_true rfl⟩ hN hK hP (hDD _) hS hA 0 RW_0 rfl rfl rfl hl.1 rfl (Nat.le_of_ble_eq_true rfl) eX12_qAsksWord_0.2.2.2.2.2.1 ⟨Nat.le_of_ble_eq_true rfl, Nat.le_of_ble_eq_true rfl⟩ (fun H locs hP hS => ?_)
    refine lv_goto (tgt := 159) hx hb eX12_qAsksWord_0.2.2.2.2.2.2.1 (by decide) ?_
    exact J159 s5 _ _ _ ⟨hP, hS, lv_sub hl [] rfl, h⟩
  · have h := if_f c3 h
    by_cases c6 : p0 = 1
    · have h := if_t c6 h
      refine lv_tableIn (off := 62) (tgt := 63) hx hb eX12_qAsksWord_0.2.1 (by rw [c6]; decide) (by rw [c6]; decide) (by rw [c6]; decide) (by decide) ?_
      refine lv_aload_n hx hb eX12_qAsksWord_0.2.2.2.2.2.2.2 rfl (lv_at hl 0 rfl) ?_
      refine lv_aload_n hx hb eX12_qAsksWord_64.1 rfl (lv_at hl 0 rfl) ?_
      refine va_get (D := D) (ci := 12) (v := .ref (a 92)) (C := RX12) (T := TX12) (N := 116) hx hb ht inX12 hown hK hP 0 RW_0 rfl 92 (by decide) (ht (.fieldLink RX12 216 "CloneVolumesModel" "blockAsked" "[C") fl_X12_216) (fun _ h9 => h9) mF_92 eX12_qAsksWord_64.2.1 ?_
      obtain ⟨s8, hc7, h⟩ := bn_e h
      refine ywVv (As := [.ref (a 92)]) (rest := []) (C := RX12) (n := 1) (ws' := RW D a s8) ⟨hx, hb, hml, hown, ht⟩ (k_x12_asks l D a 66 (a 92) 92 5 (fun _ => RW_66) (by decide) _ _ _ hc7) (zgV ml_X12_327 im_X12_asks se_X12_asks in_X12 co_X12_asks) rfl rfl (by decide +kernel) ⟨Nat.le_of_ble_eq_true rfl, Nat.le_of_ble_eq_true rfl⟩ hN hK hP (hDD _) hS hA 0 RW_0 rfl rfl rfl hl.1 rfl (Nat.le_of_ble_eq_true rfl) eX12_qAsksWord_64.2.2.1 ⟨Nat.le_of_ble_eq_true rfl, Nat.le_of_ble_eq_true rfl⟩ (fun H locs hP hS => ?_)
      refine lv_goto (tgt := 159) hx hb eX12_qAsksWord_64.2.2.2.1 (by decide) ?_
      exact J159 s8 _ _ _ ⟨hP, hS, lv_sub hl [] rfl, h⟩
    · have h := if_f c6 h
      by_cases c9 : p0 = 2
      · have h := if_t c9 h
        refine lv_tableIn (off := 73) (tgt := 74) hx hb eX12_qAsksWord_0.2.1 (by rw [c9]; decide) (by rw [c9]; decide) (by rw [c9]; decide) (by decide) ?_
        refine lv_aload_n hx hb eX12_qAsksWord_64.2.2.2.2.1 rfl (lv_at hl 0 rfl) ?_
        refine lv_aload_n hx hb eX12_qAsksWord_64.2.2.2.2.2.1 rfl (lv_at hl 0 rfl) ?_
        refine va_get (D := D) (ci := 12) (v := .ref (a 93)) (C := RX12) (T := TX12) (N := 116) hx hb ht inX12 hown hK hP 0 RW_0 rfl 93 (by decide) (ht (.fieldLink RX12 219 "CloneVolumesModel" "fromAsked" "[C") fl_X12_219) (fun _ h9 => h9) mF_93 eX12_qAsksWord_64.2.2.2.2.2.2.1 ?_
        obtain ⟨s11, hc10, h⟩ := bn_e h
        refine ywVv (As := [.ref (a 93)]) (rest := []) (C := RX12) (n := 1) (ws' := RW D a s11) ⟨hx, hb, hml, hown, ht⟩ (k_x12_asks l D a 67 (a 93) 93 4 (fun _ => RW_67) (by decide) _ _ _ hc10) (zgV ml_X12_327 im_X12_asks se_X12_asks in_X12 co_X12_asks) rfl rfl (by decide +kernel) ⟨Nat.le_of_ble_eq_true rfl, Nat.le_of_ble_eq_true rfl⟩ hN hK hP (hDD _) hS hA 0 RW_0 rfl rfl rfl hl.1 rfl (Nat.le_of_ble_eq_true rfl) eX12_qAsksWord_64.2.2.2.2.2.2.2 ⟨Nat.le_of_ble_eq_true rfl, Nat.le_of_ble_eq_true rfl⟩ (fun H locs hP hS => ?_)
        refine lv_goto (tgt := 159) hx hb eX12_qAsksWord_82.1 (by decide) ?_
        exact J159 s11 _ _ _ ⟨hP, hS, lv_sub hl [] rfl, h⟩
      · have h := if_f c9 h
        by_cases c12 : p0 = 3
        · have h := if_t c12 h
          refine lv_tableIn (off := 84) (tgt := 85) hx hb eX12_qAsksWord_0.2.1 (by rw [c12]; decide) (by rw [c12]; decide) (by rw [c12]; decide) (by decide) ?_
          refine lv_aload_n hx hb eX12_qAsksWord_82.2.1 rfl (lv_at hl 0 rfl) ?_
          refine lv_aload_n hx hb eX12_qAsksWord_82.2.2.1 rfl (lv_at hl 0 rfl) ?_
          refine va_get (D := D) (ci := 12) (v := .ref (a 94)) (C := RX12) (T := TX12) (N := 116) hx hb ht inX12 hown hK hP 0 RW_0 rfl 94 (by decide) (ht (.fieldLink RX12 222 "CloneVolumesModel" "entriesAsked" "[C") fl_X12_222) (fun _ h9 => h9) mF_94 eX12_qAsksWord_82.2.2.2.1 ?_
          obtain ⟨s14, hc13, h⟩ := bn_e h
          refine ywVv (As := [.ref (a 94)]) (rest := []) (C := RX12) (n := 1) (ws' := RW D a s14) ⟨hx, hb, hml, hown, ht⟩ (k_x12_asks l D a 68 (a 94) 94 7 (fun _ => RW_68) (by decide) _ _ _ hc13) (zgV ml_X12_327 im_X12_asks se_X12_asks in_X12 co_X12_asks) rfl rfl (by decide +kernel) ⟨Nat.le_of_ble_eq_true rfl, Nat.le_of_ble_eq_true rfl⟩ hN hK hP (hDD _) hS hA 0 RW_0 rfl rfl rfl hl.1 rfl (Nat.le_of_ble_eq_true rfl) eX12_qAsksWord_82.2.2.2.2.1 ⟨Nat.le_of_ble_eq_true rfl, Nat.le_of_ble_eq_true rfl⟩ (fun H locs hP hS => ?_)
          refine lv_goto (tgt := 159) hx hb eX12_qAsksWord_82.2.2.2.2.2.1 (by decide) ?_
          exact J159 s14 _ _ _ ⟨hP, hS, lv_sub hl [] rfl, h⟩
        · have h := if_f c12 h
          by_cases c15 : p0 = 4
          · have h := if_t c15 h
            refine lv_tableIn (off := 95) (tgt := 96) hx hb eX12_qAsksWord_0.2.1 (by rw [c15]; decide) (by rw [c15]; decide) (by rw [c15]; decide) (by decide) ?_
            refine lv_aload_n hx hb eX12_qAsksWord_82.2.2.2.2.2.2.1 rfl (lv_at hl 0 rfl) ?_
            refine lv_aload_n hx hb eX12_qAsksWord_82.2.2.2.2.2.2.2 rfl (lv_at hl 0 rfl) ?_
            refine va_get (D := D) (ci := 12) (v := .ref (a 95)) (C := RX12) (T := TX12) (N := 116) hx hb ht inX12 hown hK hP 0 RW_0 rfl 95 (by decide) (ht (.fieldLink RX12 225 "CloneVolumesModel" "numberAsked" "[C") fl_X12_225) (fun _ h9 => h9) mF_95 eX12_qAsksWord_98.1 ?_
            obtain ⟨s17, hc16, h⟩ := bn_e h
            refine ywVv (As := [.ref (a 95)]) (rest := []) (C := RX12) (n := 1) (ws' := RW D a s17) ⟨hx, hb, hml, hown, ht⟩ (k_x12_asks l D a 69 (a 95) 95 6 (fun _ => RW_69) (by decide) _ _ _ hc16) (zgV ml_X12_327 im_X12_asks se_X12_asks in_X12 co_X12_asks) rfl rfl (by decide +kernel) ⟨Nat.le_of_ble_eq_true rfl, Nat.le_of_ble_eq_true rfl⟩ hN hK hP (hDD _) hS hA 0 RW_0 rfl rfl rfl hl.1 rfl (Nat.le_of_ble_eq_true rfl) eX12_qAsksWord_98.2.1 ⟨Nat.le_of_ble_eq_true rfl, Nat.le_of_ble_eq_true rfl⟩ (fun H locs hP hS => ?_)
            refine lv_goto (tgt := 159) hx hb eX12_qAsksWord_98.2.2.1 (by decide) ?_
            exact J159 s17 _ _ _ ⟨hP, hS, lv_sub hl [] rfl, h⟩
          · have h := if_f c15 h
            by_cases c18 : p0 = 5
            · have h := if_t c18 h
              refine lv_tableIn (off := 106) (tgt := 107) hx hb eX12_qAsksWord_0.2.1 (by rw [c18]; decide) (by rw [c18]; decide) (by rw [c18]; decide) (by decide) ?_
              refine lv_aload_n hx hb eX12_qAsksWord_98.2.2.2.1 rfl (lv_at hl 0 rfl) ?_
              refine lv_aload_n hx hb eX12_qAsksWord_98.2.2.2.2.1 rfl (lv_at hl 0 rfl) ?_
              refine va_get (D := D) (ci := 12) (v := .ref (a 96)) (C := RX12) (T := TX12) (N := 116) hx hb ht inX12 hown hK hP 0 RW_0 rfl 96 (by decide) (ht (.fieldLink RX12 228 "CloneVolumesModel" "countAsked" "[C") fl_X12_228) (fun _ h9 => h9) mF_96 eX12_qAsksWord_98.2.2.2.2.2.1 ?_
              obtain ⟨s20, hc19, h⟩ := bn_e h
              refine ywVv (As := [.ref (a 96)]) (rest := []) (C := RX12) (n := 1) (ws' := RW D a s20) ⟨hx, hb, hml, hown, ht⟩ (k_x12_asks l D a 70 (a 96) 96 5 (fun _ => RW_70) (by decide) _ _ _ hc19) (zgV ml_X12_327 im_X12_asks se_X12_asks in_X12 co_X12_asks) rfl rfl (by decide +kernel) ⟨Nat.le_of_ble_eq_true rfl, Nat.le_of_ble_eq_true rfl⟩ hN hK hP (hDD _) hS hA 0 RW_0 rfl rfl rfl hl.1 rfl (Nat.le_of_ble_eq_true rfl) eX12_qAsksWord_98.2.2.2.2.2.2.1 ⟨Nat.le_of_ble_eq_true rfl, Nat.le_of_ble_eq_true rfl⟩ (fun H locs hP hS => ?_)
              refine lv_goto (tgt := 159) hx hb eX12_qAsksWord_98.2.2.2.2.2.2.2 (by decide) ?_
              exact J159 s20 _ _ _ ⟨hP, hS, lv_sub hl [] rfl, h⟩
            · have h := if_f c18 h
              by_cases c21 : p0 = 6
              · have h := if_t c21 h
                refine lv_tableIn (off := 117) (tgt := 118) hx hb eX12_qAsksWord_0.2.1 (by rw [c21]; decide) (by rw [c21]; decide) (by rw [c21]; decide) (by decide) ?_
                refine lv_aload_n hx hb eX12_qAsksWord_118.1 rfl (lv_at hl 0 rfl) ?_
                refine lv_aload_n hx hb eX12_qAsksWord_118.2.1 rfl (lv_at hl 0 rfl) ?_
                refine va_get (D := D) (ci := 12) (v := .ref (a 97)) (C := RX12) (T := TX12) (N := 116) hx hb ht inX12 hown hK hP 0 RW_0 rfl 97 (by decide) (ht (.fieldLink RX12 231 "CloneVolumesModel" "freshAsked" "[C") fl_X12_231) (fun _ h9 => h9) mF_97 eX12_qAsksWord_118.2.2.1 ?_
                obtain ⟨s23, hc22, h⟩ := bn_e h
                refine ywVv (As := [.ref (a 97)]) (rest := []) (C := RX12) (n := 1) (ws' := RW D a s23) ⟨hx, hb, hml, hown, ht⟩ (k_x12_asks l D a 71 (a 97) 97 5 (fun _ => RW_71) (by decide) _ _ _ hc22) (zgV ml_X12_327 im_X12_asks se_X12_asks in_X12 co_X12_asks) rfl rfl (by decide +kernel) ⟨Nat.le_of_ble_eq_true rfl, Nat.le_of_ble_eq_true rfl⟩ hN hK hP (hDD _) hS hA 0 RW_0 rfl rfl rfl hl.1 rfl (Nat.le_of_ble_eq_true rfl) eX12_qAsksWord_118.2.2.2.1 ⟨Nat.le_of_ble_eq_true rfl, Nat.le_of_ble_eq_true rfl⟩ (fun H locs hP hS => ?_)
                refine lv_goto (tgt := 159) hx hb eX12_qAsksWord_118.2.2.2.2.1 (by decide) ?_
                exact J159 s23 _ _ _ ⟨hP, hS, lv_sub hl [] rfl, h⟩
              · have h := if_f c21 h
                by_cases c24 : p0 = 7
                · have h := if_t c24 h
                  refine lv_tableIn (off := 128) (tgt := 129) hx hb eX12_qAsksWord_0.2.1 (by rw [c24]; decide) (by rw [c24]; decide) (by rw [c24]; decide) (by decide) ?_
                  refine lv_aload_n hx hb eX12_qAsksWord_118.2.2.2.2.2.1 rfl (lv_at hl 0 rfl) ?_
                  refine lv_aload_n hx hb eX12_qAsksWord_118.2.2.2.2.2.2.1 rfl (lv_at hl 0 rfl) ?_
                  refine va_get (D := D) (ci := 12) (v := .ref (a 98)) (C := RX12) (T := TX12) (N := 116) hx hb ht inX12 hown hK hP 0 RW_0 rfl 98 (by decide) (ht (.fieldLink RX12 234 "CloneVolumesModel" "savedAsked" "[C") fl_X12_234) (fun _ h9 => h9) mF_98 eX12_qAsksWord_118.2.2.2.2.2.2.2 ?_
                  obtain ⟨s26, hc25, h⟩ := bn_e h
                  refine ywVv (As := [.ref (a 98)]) (rest := []) (C := RX12) (n := 1) (ws' := RW D a s26) ⟨hx, hb, hml, hown, ht⟩ (k_x12_asks l D a 72 (a 98) 98 5 (fun _ => RW_72) (by decide) _ _ _ hc25) (zgV ml_X12_327 im_X12_asks se_X12_asks in_X12 co_X12_asks) rfl rfl (by decide +kernel) ⟨Nat.le_of_ble_eq_true rfl, Nat.le_of_ble_eq_true rfl⟩ hN hK hP (hDD _) hS hA 0 RW_0 rfl rfl rfl hl.1 rfl (Nat.le_of_ble_eq_true rfl) eX12_qAsksWord_134.1 ⟨Nat.le_of_ble_eq_true rfl, Nat.le_of_ble_eq_true rfl⟩ (fun H locs hP hS => ?_)
                  refine lv_goto (tgt := 159) hx hb eX12_qAsksWord_134.2.1 (by decide) ?_
                  exact J159 s26 _ _ _ ⟨hP, hS, lv_sub hl [] rfl, h⟩
                · have h := if_f c24 h
                  by_cases c27 : p0 = 8
                  · have h := if_t c27 h
                    refine lv_tableIn (off := 139) (tgt := 140) hx hb eX12_qAsksWord_0.2.1 (by rw [c27]; decide) (by rw [c27]; decide) (by rw [c27]; decide) (by decide) ?_
                    refine lv_aload_n hx hb eX12_qAsksWord_134.2.2.1 rfl (lv_at hl 0 rfl) ?_
                    refine lv_aload_n hx hb eX12_qAsksWord_134.2.2.2.1 rfl (lv_at hl 0 rfl) ?_
                    refine va_get (D := D) (ci := 12) (v := .ref (a 99)) (C := RX12) (T := TX12) (N := 116) hx hb ht inX12 hown hK hP 0 RW_0 rfl 99 (by decide) (ht (.fieldLink RX12 237 "CloneVolumesModel" "refsAsked" "[C") fl_X12_237) (fun _ h9 => h9) mF_99 eX12_qAsksWord_134.2.2.2.2.1 ?_
                    obtain ⟨s29, hc28, h⟩ := bn_e h
                    refine ywVv (As := [.ref (a 99)]) (rest := []) (C := RX12) (n := 1) (ws' := RW D a s29) ⟨hx, hb, hml, hown, ht⟩ (k_x12_asks l D a 73 (a 99) 99 4 (fun _ => RW_73) (by decide) _ _ _ hc28) (zgV ml_X12_327 im_X12_asks se_X12_asks in_X12 co_X12_asks) rfl rfl (by decide +kernel) ⟨Nat.le_of_ble_eq_true rfl, Nat.le_of_ble_eq_true rfl⟩ hN hK hP (hDD _) hS hA 0 RW_0 rfl rfl rfl hl.1 rfl (Nat.le_of_ble_eq_true rfl) eX12_qAsksWord_134.2.2.2.2.2.1 ⟨Nat.le_of_ble_eq_true rfl, Nat.le_of_ble_eq_true rfl⟩ (fun H locs hP hS => ?_)
                    refine lv_goto (tgt := 159) hx hb eX12_qAsksWord_134.2.2.2.2.2.2.1 (by decide) ?_
                    exact J159 s29 _ _ _ ⟨hP, hS, lv_sub hl [] rfl, h⟩
                  · have h := if_f c27 h
                    refine lv_tableOut (tgt := 151) hx hb eX12_qAsksWord_0.2.1 (by rw [i2_t hr2]; omega) (by decide) ?_
                    refine lv_aload_n hx hb eX12_qAsksWord_134.2.2.2.2.2.2.2 rfl (lv_at hl 0 rfl) ?_
                    refine lv_aload_n hx hb eX12_qAsksWord_152.1 rfl (lv_at hl 0 rfl) ?_
                    refine va_get (D := D) (ci := 12) (v := .ref (a 100)) (C := RX12) (T := TX12) (N := 116) hx hb ht inX12 hown hK hP 0 RW_0 rfl 100 (by decide) (ht (.fieldLink RX12 240 "CloneVolumesModel" "keyAsked" "[C") fl_X12_240) (fun _ h9 => h9) mF_100 eX12_qAsksWord_152.2.1 ?_
                    obtain ⟨s31, hc30, h⟩ := bn_e h
                    refine ywVv (As := [.ref (a 100)]) (rest := []) (C := RX12) (n := 1) (ws' := RW D a s31) ⟨hx, hb, hml, hown, ht⟩ (k_x12_asks l D a 74 (a 100) 100 3 (fun _ => RW_74) (by decide) _ _ _ hc30) (zgV ml_X12_327 im_X12_asks se_X12_asks in_X12 co_X12_asks) rfl rfl (by decide +kernel) ⟨Nat.le_of_ble_eq_true rfl, Nat.le_of_ble_eq_true rfl⟩ hN hK hP (hDD _) hS hA 0 RW_0 rfl rfl rfl hl.1 rfl (Nat.le_of_ble_eq_true rfl) eX12_qAsksWord_152.2.2.1 ⟨Nat.le_of_ble_eq_true rfl, Nat.le_of_ble_eq_true rfl⟩ (fun H locs hP hS => ?_)
                    exact J159 s31 _ _ _ ⟨hP, hS, lv_sub hl [] rfl, h⟩
set_option maxHeartbeats 4000000 in
set_option maxRecDepth 100000 in
theorem k_x12_qOpens (l : Launch) (D : va_G) (a : Nat → Nat) (p0 : Int) (p1 : Int) (sz : Nat) (s : MS) (o : MS) (h : m_x12_qOpens p0 p1 s = some o) : yWv l yX12_qOpens cX12_qOpens 3 none { frames := 1, cells := 0, slots := 0, locals := 60 } D sz [.ref (a 200), .int (i2 p0), .int (i2 p1)] (RW D a s) (RW D a o) := by
  refine Met.ofW (cc := cX12_qOpens) (maxL := 3) (ret := none) (by decide) rfl ?_
  intro p e s₀ m args below meth c s₁ B hml hv
  obtain ⟨rfl, ⟨hsz, hP, hK, hD0⟩, hN⟩ := hv
  have hx := B.exec
  have hb := B.bytes
  have hr := B.returns
  have hts := atoms_spec (ws := wz yX12_qOpens cX12_qOpens 3 none) B.pre
  have ht : ∀ w ∈ lw_gd, w.before _ s₀ = true := fun w h => hts w (List.mem_cons_of_mem _ h)
  have hown : s₀.vm.findClass RX12 = some m.cls := findClass_of_methodNamed B.named
  have hlocks := B.notSynchronized
  subst hsz
  have hD := hD0.self (sz := s₀.heap.size)
  generalize hAe : va_A (RW D a s) s₀.heap.size = A at hD ⊢
  have hA : ∀ q : Nat, s₀.heap.size ≤ q → A q := fun q h => by rw [← hAe]; exact Or.inr h
  have hS : va_S A s₀.heap s₀.heap [] := va_S.rf
  have hDD : ∀ t : MS, va_D A (RW D a t) := fun t => RW_D t hD
  have hl := lv_entry ([.ref (a 200), .int (i2 p0), .int (i2 p1)]) (n := 3) (Nat.le_of_ble_eq_true rfl)
  rw [lg_entry_eq]
  generalize (lg_sl ([.ref (a 200), .int (i2 p0), .int (i2 p1)]) ++ List.replicate (3 - (lg_sl ([.ref (a 200), .int (i2 p0), .int (i2 p1)])).length) Slot.unset).toArray = ls at hl ⊢
  have hl : lv_has ls 3 [(0, .ref (a 200)), (1, .int (i2 p0)), (2, .int (i2 p1))] := hl
  unfold m_x12_qOpens at h
  refine lv_aload_n hx hb eX12_qIsOn_26.2.2.1 rfl (lv_at hl 0 rfl) ?_
  refine va_get (D := D) (ci := 12) (v := .int (i2 (gI s 5))) (C := RX12) (T := TX12) (N := 116) hx hb ht inX12 hown hK hP 0 RW_0 rfl 5 (by decide) (ht (.fieldLink RX12 266 "CloneVolumesModel" "bad" "I") fl_X12_266) (fun _ h9 => h9) mF_5 eX12_qIsOn_26.2.2.2.1 ?_
  obtain ⟨hr1, h⟩ := rg_e h
  refine lv_if_eq (tgt := 8) hx hb eX12_qIsOn_26.2.2.2.2.1 (by decide) (fun c2 => ?_) (fun c2 => ?_)
  · have h := if_t ((i2_eq (x := (gI s 5)) (y := 0) hr1 (by decide)).mp c2) h
    refine lv_aload_n hx hb eX12_qIsOn_26.2.2.2.2.2.2.1 rfl (lv_at hl 0 rfl) ?_
    refine va_get (D := D) (ci := 12) (v := .int (i2 (gI s 105))) (C := RX12) (T := TX12) (N := 116) hx hb ht inX12 hown hK hP 0 RW_0 rfl 105 (by decide) (ht (.fieldLink RX12 359 "CloneVolumesModel" "qOpened" "I") fl_X12_359) (fun _ h9 => h9) mF_105 eX12_qIsOn_26.2.2.2.2.2.2.2 ?_
    refine lv_bipush (v := 6) hx hb eX12_qOpens_12.1 (by decide) ?_
    obtain ⟨hr3, h⟩ := rg_e h
    refine lv_icmp_ne (tgt := 24) hx hb eX12_qOpens_12.2.1 (by decide) (fun c4 => ?_) (fun c4 => ?_)
    · have h := if_f (mt (i2_eq (x := (gI s 105)) (y := 6) hr3 (by decide)).mpr c4) h
      refine lv_aload_n hx hb eX12_qOpens_12.2.2.2.2.2.2.2 rfl (lv_at hl 0 rfl) ?_
      refine lv_dup hx hb eX12_qOpens_25.1 rfl ?_
      refine va_get (D := D) (ci := 12) (v := .int (i2 (gI s 105))) (C := RX12) (T := TX12) (N := 116) hx hb ht inX12 hown hK hP 0 RW_0 rfl 105 (by decide) (ht (.fieldLink RX12 359 "CloneVolumesModel" "qOpened" "I") fl_X12_359) (fun _ h9 => h9) mF_105 eX12_qOpens_25.2.1 ?_
      refine lv_iconst (v := 1) hx hb eX12_qOpens_25.2.2.1 (by decide) ?_
      refine lv_iadd hx hb eX12_qOpens_25.2.2.2.1 ?_
      refine z_topi (y := i2 ((gI s 105) + 1)) (i2_add (gI s 105) 1) ?_
      refine ya_put (D := D) (ci := 12) (v := .int (i2 ((gI s 105) + 1))) (ty := .int) (C := RX12) (T := TX12) (N := 116) hx hb ht inX12 tyX12 tyX12_ok nmX12 hown hK hP (hDD _) hS 0 RW_0 rfl 105 (by decide) (ht (.fieldLink RX12 359 "CloneVolumesModel" "qOpened" "I") fl_X12_359) (fun _ h9 => h9) rfl (by decide +kernel) rfl rfl (by rw [mF_len]; decide) eX12_qOpens_25.2.2.2.2.1 (RW_f105 ((gI s 105) + 1)) (fun H locs hP hS => ?_)
      obtain ⟨s5, hs5, h⟩ := st_e h
      rw [hs5] at hP
      refine lv_aload_n hx hb eX12_qOpens_25.2.2.2.2.2.1 rfl (lv_at hl 0 rfl) ?_
      refine va_get (D := D) (ci := 12) (v := .ref (a 103)) (C := RX12) (T := TX12) (N := 116) hx hb ht inX12 hown hK hP 0 RW_0 rfl 103 (by decide) (ht (.fieldLink RX12 246 "CloneVolumesModel" "qWait" "[I") fl_X12_246) (fun _ h9 => h9) mF_103 eX12_qOpens_25.2.2.2.2.2.2.1 ?_
      refine lv_aload_n hx hb eX12_qOpens_25.2.2.2.2.2.2.2 rfl (lv_at hl 0 rfl) ?_
      refine va_get (D := D) (ci := 12) (v := .int (i2 (gI s5 104))) (C := RX12) (T := TX12) (N := 116) hx hb ht inX12 hown hK hP 0 RW_0 rfl 104 (by decide) (ht (.fieldLink RX12 356 "CloneVolumesModel" "qWaits" "I") fl_X12_356) (fun _ h9 => h9) mF_104 eX12_qOpens_39.1 ?_
      refine lv_iload_n hx hb eX12_qOpens_39.2.1 rfl (lv_at hl 1 rfl) ?_
      obtain ⟨hi6, h⟩ := inb_e h
      refine ya_iast (i := (gI s5 104)) (x := p0) hx hb hK hP (hDD _) hS 76 0 RW_76 rfl (by decide) hi6 eX12_qOpens_39.2.2.1 (RW_w76 _) (fun H locs hP hS => ?_)
      obtain ⟨s7, hs7, h⟩ := st_e h
      rw [hs7] at hP
      refine lv_aload_n hx hb eX12_qOpens_39.2.2.2.1 rfl (lv_at hl 0 rfl) ?_
      refine lv_dup hx hb eX12_qOpens_39.2.2.2.2.1 rfl ?_
      refine va_get (D := D) (ci := 12) (v := .int (i2 (gI s7 104))) (C := RX12) (T := TX12) (N := 116) hx hb ht inX12 hown hK hP 0 RW_0 rfl 104 (by decide) (ht (.fieldLink RX12 356 "CloneVolumesModel" "qWaits" "I") fl_X12_356) (fun _ h9 => h9) mF_104 eX12_qOpens_39.2.2.2.2.2.1 ?_
      refine lv_iconst (v := 1) hx hb eX12_qOpens_39.2.2.2.2.2.2.1 (by decide) ?_
      refine lv_iadd hx hb eX12_qOpens_39.2.2.2.2.2.2.2 ?_
      refine z_topi (y := i2 ((gI s7 104) + 1)) (i2_add (gI s7 104) 1) ?_
      refine ya_put (D := D) (ci := 12) (v := .int (i2 ((gI s7 104) + 1))) (ty := .int) (C := RX12) (T := TX12) (N := 116) hx hb ht inX12 tyX12 tyX12_ok nmX12 hown hK hP (hDD _) hS 0 RW_0 rfl 104 (by decide) (ht (.fieldLink RX12 356 "CloneVolumesModel" "qWaits" "I") fl_X12_356) (fun _ h9 => h9) rfl (by decide +kernel) rfl rfl (by rw [mF_len]; decide) eX12_qOpens_51.1 (RW_f104 ((gI s7 104) + 1)) (fun H locs hP hS => ?_)
      obtain ⟨s8, hs8, h⟩ := st_e h
      rw [hs8] at hP
      obtain rfl := Option.some.inj h
      exact W.vret hx hb hr (fun t ht hW => ⟨⟨(), rfl, trivial, by rw [ht]; exact hP, va_K.moved hW.alike hK, hDD _⟩, hS.F ht⟩) hS.2.2 eX12_qOpens_51.2.1
    · have h := if_t ((i2_eq (x := (gI s 105)) (y := 6) hr3 (by decide)).mp c4) h
      refine lv_aload_n hx hb eX12_qOpens_12.2.2.1 rfl (lv_at hl 0 rfl) ?_
      refine lv_iconst (v := 4) hx hb eX12_qOpens_12.2.2.2.1 (by decide) ?_
      refine lv_iload_n hx hb eX12_qOpens_12.2.2.2.2.1 rfl (lv_at hl 2 rfl) ?_
      obtain ⟨s10, hc9, h⟩ := bn_e h
      refine ywVv (As := [.int 4, .int (i2 p1)]) (rest := []) (C := RX12) (n := 2) (ws' := RW D a s10) ⟨hx, hb, hml, hown, ht⟩ (k_x12_fail l D a 4 p1 _ _ _ hc9) (zgV ml_X12_296 im_X12_fail se_X12_fail in_X12 co_X12_fail) rfl rfl (by decide +kernel) ⟨Nat.le_of_ble_eq_true rfl, Nat.le_of_ble_eq_true rfl⟩ hN hK hP (hDD _) hS hA 0 RW_0 rfl rfl rfl hl.1 rfl (Nat.le_of_ble_eq_true rfl) eX12_qOpens_12.2.2.2.2.2.1 ⟨Nat.le_of_ble_eq_true rfl, Nat.le_of_ble_eq_true rfl⟩ (fun H locs hP hS => ?_)
      obtain rfl := Option.some.inj h
      exact W.vret hx hb hr (fun t ht hW => ⟨⟨(), rfl, trivial, by rw [ht]; exact hP, va_K.moved hW.alike hK, hDD _⟩, hS.F ht⟩) hS.2.2 eX12_qOpens_12.2.2.2.2.2.2.1
  · have h := if_f (mt (i2_eq (x := (gI s 5)) (y := 0) hr1 (by decide)).mpr c2) h
    obtain rfl := Option.some.inj h
    exact W.vret hx hb hr (fun t ht hW => ⟨⟨(), rfl, trivial, by rw [ht]; exact hP, va_K.moved hW.alike hK, hDD _⟩, hS.F ht⟩) hS.2.2 eX12_qIsOn_26.2.2.2.2.2.1
set_option maxHeartbeats 4000000 in
set_option maxRecDepth 100000 in
theorem k_x12_qPartTold (l : Launch) (D : va_G) (a : Nat → Nat) (sz : Nat) (s : MS) (o : MS) (h : m_x12_qPartTold s = some o) : yWv l yX12_qPartTold cX12_qPartTold 6 none { frames := 5, cells := 0, slots := 0, locals := 300 } D sz [.ref (a 200)] (RW D a s) (RW D a o) := by
  refine Met.ofW (cc := cX12_qPartTold) (maxL := 6) (ret := none) (by decide) rfl ?_
  intro p e s₀ m args below meth c s₁ B hml hv
  obtain ⟨rfl, ⟨hsz, hP, hK, hD0⟩, hN⟩ := hv
  have hx := B.exec
  have hb := B.bytes
  have hr := B.returns
  have hts := atoms_spec (ws := wz yX12_qPartTold cX12_qPartTold 6 none) B.pre
  have ht : ∀ w ∈ lw_gd, w.before _ s₀ = true := fun w h => hts w (List.mem_cons_of_mem _ h)
  have hown : s₀.vm.findClass RX12 = some m.cls := findClass_of_methodNamed B.named
  have hlocks := B.notSynchronized
  subst hsz
  have hD := hD0.self (sz := s₀.heap.size)
  generalize hAe : va_A (RW D a s) s₀.heap.size = A at hD ⊢
  have hA : ∀ q : Nat, s₀.heap.size ≤ q → A q := fun q h => by rw [← hAe]; exact Or.inr h
  have hS : va_S A s₀.heap s₀.heap [] := va_S.rf
  have hDD : ∀ t : MS, va_D A (RW D a t) := fun t => RW_D t hD
  have hl := lv_entry ([.ref (a 200)]) (n := 6) (Nat.le_of_ble_eq_true rfl)
  rw [lg_entry_eq]
  generalize (lg_sl ([.ref (a 200)]) ++ List.replicate (6 - (lg_sl ([.ref (a 200)])).length) Slot.unset).toArray = ls at hl ⊢
  have hl : lv_has ls 6 [(0, .ref (a 200))] := hl
  unfold m_x12_qPartTold at h
  refine y_head (pcJ := 237) (σ := Int × MS) (fun u H locs ls => va_P D vwCl (RW D a u.2) H ∧ va_S A s₀.heap H locs ∧ lv_has ls 6 [(0, .ref (a 200))] ∧ m_x12_qPartTold_J237 u.1 u.2 = some o) (fun u => [.int (i2 u.1), .ref (a 200)]) (fun u H locs ls hI => ?_) (fun J237 => ?_)
  · obtain ⟨hP, hS, hl, h⟩ := hI
    obtain ⟨x1, s2⟩ := u
    have hP : va_P D vwCl (RW D a s2) H := hP
    have hl : lv_has ls 6 [(0, .ref (a 200))] := hl
    have h : m_x12_qPartTold_J237 x1 s2 = some o := h
    unfold m_x12_qPartTold_J237 at h
    obtain ⟨s4, hc3, h⟩ := bn_e h
    refine ywVv (As := [.int (i2 x1)]) (rest := []) (C := RX12) (n := 1) (ws' := RW D a s4) ⟨hx, hb, hml, hown, ht⟩ (k_x12_qCode l D a x1 _ _ _ hc3) (zgV ml_X12_693 im_X12_qCode se_X12_qCode in_X12 co_X12_qCode) rfl rfl (by decide +kernel) ⟨Nat.le_of_ble_eq_true rfl, Nat.le_of_ble_eq_true rfl⟩ hN hK hP (hDD _) hS hA 0 RW_0 rfl rfl rfl hl.1 rfl (Nat.le_of_ble_eq_true rfl) eX12_qPartTold_228.2.2.2.2.2.1 ⟨Nat.le_of_ble_eq_true rfl, Nat.le_of_ble_eq_true rfl⟩ (fun H locs hP hS => ?_)
    refine lv_aload_n hx hb eX12_qPartTold_228.2.2.2.2.2.2.1 rfl (lv_at hl 0 rfl) ?_
    obtain ⟨s6, hc5, h⟩ := bn_e h
    refine ywVv (As := []) (rest := []) (C := RX12) (n := 0) (ws' := RW D a s6) ⟨hx, hb, hml, hown, ht⟩ (k_x12_qEndsPart l D a _ _ _ hc5) (zgV ml_X12_717 im_X12_qEndsPart se_X12_qEndsPart in_X12 co_X12_qEndsPart) rfl rfl (by decide +kernel) ⟨Nat.le_of_ble_eq_true rfl, Nat.le_of_ble_eq_true rfl⟩ hN hK hP (hDD _) hS hA 0 RW_0 rfl rfl rfl hl.1 rfl (Nat.le_of_ble_eq_true rfl) eX12_qPartTold_228.2.2.2.2.2.2.2 ⟨Nat.le_of_ble_eq_true rfl, Nat.le_of_ble_eq_true rfl⟩ (fun H locs hP hS => ?_)
    obtain rfl := Option.some.inj h
    exact W.vret hx hb hr (fun t ht hW => ⟨⟨(), rfl, trivial, by rw [ht]; exact hP, va_K.moved hW.alike hK, hDD _⟩, hS.F ht⟩) hS.2.2 eX12_qPartTold_244.1
  refine y_head (pcJ := 212) (σ := Int × MS) (fun u H locs ls => va_P D vwCl (RW D a u.2) H ∧ va_S A s₀.heap H locs ∧ lv_has ls 6 [(0, .ref (a 200)), (2, .int (i2 u.1))] ∧ m_x12_qPartTold_J212 u.1 u.2 = some o) (fun u => []) (fun u H locs ls hI => ?_) (fun J212 => ?_)
  · obtain ⟨hP, hS, hl, h⟩ := hI
    obtain ⟨x7, s8⟩ := u
    have hP : va_P D vwCl (RW D a s8) H := hP
    have hl : lv_has ls 6 [(0, .ref (a 200)), (2, .int (i2 x7))] := hl
    have h : m_x12_qPartTold_J212 x7 s8 = some o := h
    unfold m_x12_qPartTold_J212 at h
    refine lv_aload_n hx hb eX12_qPartTold_201.2.2.2.2.2.2.2 rfl (lv_at hl 0 rfl) ?_
    refine lv_iload_n hx hb eX12_qPartTold_213.1 rfl (lv_at hl 1 rfl) ?_
    refine lv_iconst (v := (-1)) hx hb eX12_qPartTold_213.2.1 (by decide) ?_
    obtain ⟨hr9, h⟩ := rg_e h
    refine lv_icmp_eq (tgt := 225) hx hb eX12_qPartTold_213.2.2.1 (by decide) (fun c10 => ?_) (fun c10 => ?_)
    · rw [show ((-1) : Int32) = i2 (-1) from by decide] at c10
      have h := if_t ((i2_eq (x := x7) (y := (-1)) hr9 (by decide)).mp c10) h
      refine lv_sipush (v := 1000) hx hb eX12_qPartTold_213.2.2.2.2.2.2.2 (by decide) ?_
      refine lv_aload_n hx hb eX12_qPartTold_228.1 rfl (lv_at hl 0 rfl) ?_
      refine lv_iconst (v := 0) hx hb eX12_qPartTold_228.2.1 (by decide) ?_
      refine lv_sipush (v := 9999) hx hb eX12_qPartTold_228.2.2.1 (by decide) ?_
      obtain ⟨⟨r13, s12⟩, hc11, h⟩ := bn_e h
      refine ywV (r0 := i2 r13) (As := [.int 0, .int 9999]) (rest := [.int 1000, .ref (a 200)]) (C := RX12) (n := 2) (ws' := RW D a s12) ⟨hx, hb, hml, hown, ht⟩ (k_x12_number l D a 0 9999 _ _ _ hc11) (zgV ml_X12_331 im_X12_number se_X12_number in_X12 co_X12_number) rfl rfl (by decide +kernel) ⟨Nat.le_of_ble_eq_true rfl, Nat.le_of_ble_eq_true rfl⟩ hN hK hP (hDD _) hS hA 0 RW_0 rfl rfl rfl hl.1 rfl (Nat.le_of_ble_eq_true rfl) eX12_qPartTold_228.2.2.2.1 ⟨Nat.le_of_ble_eq_true rfl, Nat.le_of_ble_eq_true rfl⟩ (fun H locs hP hS => ?_)
      refine lv_iadd hx hb eX12_qPartTold_228.2.2.2.2.1 ?_
      refine z_topi (y := i2 (1000 + r13)) (i2_add 1000 r13) ?_
      exact J237 (1000 + r13, s12) _ _ _ ⟨hP, hS, lv_sub hl [0] rfl, h⟩
    · rw [show ((-1) : Int32) = i2 (-1) from by decide] at c10
      have h := if_f (mt (i2_eq (x := x7) (y := (-1)) hr9 (by decide)).mpr c10) h
      refine lv_bipush (v := 40) hx hb eX12_qPartTold_213.2.2.2.1 (by decide) ?_
      refine lv_iload_n hx hb eX12_qPartTold_213.2.2.2.2.1 rfl (lv_at hl 1 rfl) ?_
      refine lv_iadd hx hb eX12_qPartTold_213.2.2.2.2.2.1 ?_
      refine z_topi (y := i2 (40 + x7)) (i2_add 40 x7) ?_
      refine lv_goto (tgt := 237) hx hb eX12_qPartTold_213.2.2.2.2.2.2.1 (by decide) ?_
      exact J237 (40 + x7, s8) _ _ _ ⟨hP, hS, lv_sub hl [0] rfl, h⟩
  refine y_head (pcJ := 186) (σ := MS) (fun u H locs ls => va_P D vwCl (RW D a u) H ∧ va_S A s₀.heap H locs ∧ lv_has ls 6 [(0, .ref (a 200))] ∧ m_x12_qPartTold_J186 u = some o) (fun u => []) (fun u H locs ls hI => ?_) (fun J186 => ?_)
  · obtain ⟨hP, hS, hl, h⟩ := hI
    obtain ⟨s14, rfl⟩ : ∃ z, z = u := ⟨u, rfl⟩
    have hP : va_P D vwCl (RW D a s14) H := hP
    have hl : lv_has ls 6 [(0, .ref (a 200))] := hl
    have h : m_x12_qPartTold_J186 s14 = some o := h
    unfold m_x12_qPartTold_J186 at h
    refine lv_aload_n hx hb eX12_qPartTold_186.1 rfl (lv_at hl 0 rfl) ?_
    refine va_get (D := D) (ci := 12) (v := .int (i2 (gI s14 5))) (C := RX12) (T := TX12) (N := 116) hx hb ht inX12 hown hK hP 0 RW_0 rfl 5 (by decide) (ht (.fieldLink RX12 266 "CloneVolumesModel" "bad" "I") fl_X12_266) (fun _ h9 => h9) mF_5 eX12_qPartTold_186.2.1 ?_
    obtain ⟨hr15, h⟩ := rg_e h
    refine lv_if_eq (tgt := 194) hx hb eX12_qPartTold_186.2.2.1 (by decide) (fun c16 => ?_) (fun c16 => ?_)
    · have h := if_t ((i2_eq (x := (gI s14 5)) (y := 0) hr15 (by decide)).mp c16) h
      refine lv_aload_n hx hb eX12_qPartTold_186.2.2.2.2.1 rfl (lv_at hl 0 rfl) ?_
      refine lv_iconst (v := 0) hx hb eX12_qPartTold_186.2.2.2.2.2.1 (by decide) ?_
      refine lv_bipush (v := 8) hx hb eX12_qPartTold_186.2.2.2.2.2.2.1 (by decide) ?_
      obtain ⟨⟨r19, s18⟩, hc17, h⟩ := bn_e h
      refine ywV (r0 := i2 r19) (As := [.int 0, .int 8]) (rest := []) (C := RX12) (n := 2) (ws' := RW D a s18) ⟨hx, hb, hml, hown, ht⟩ (k_x12_qWordOf l D a 0 8 _ _ _ hc17) (zgV ml_X12_708 im_X12_qWordOf se_X12_qWordOf in_X12 co_X12_qWordOf) rfl rfl (by decide +kernel) ⟨Nat.le_of_ble_eq_true rfl, Nat.le_of_ble_eq_true rfl⟩ hN hK hP (hDD _) hS hA 0 RW_0 rfl rfl rfl hl.1 rfl (Nat.le_of_ble_eq_true rfl) eX12_qPartTold_186.2.2.2.2.2.2.2 ⟨Nat.le_of_ble_eq_true rfl, Nat.le_of_ble_eq_true rfl⟩ (fun H locs hP hS => ?_)
      refine lv_istore_n (lv' := [(2, .int (i2 r19)), (0, .ref (a 200))]) hx hb eX12_qPartTold_201.1 rfl hl (by decide) rfl (fun ls hl => ?_)
      refine lv_iload_n hx hb eX12_qPartTold_201.2.1 rfl (lv_at hl 0 rfl) ?_
      refine lv_iconst (v := (-1)) hx hb eX12_qPartTold_201.2.2.1 (by decide) ?_
      obtain ⟨hr20, h⟩ := rg_e h
      refine lv_icmp_eq (tgt := 212) hx hb eX12_qPartTold_201.2.2.2.1 (by decide) (fun c21 => ?_) (fun c21 => ?_)
      · rw [show ((-1) : Int32) = i2 (-1) from by decide] at c21
        have h := if_t ((i2_eq (x := r19) (y := (-1)) hr20 (by decide)).mp c21) h
        exact J212 (r19, s18) _ _ _ ⟨hP, hS, lv_sub hl [1, 0] rfl, h⟩
      · rw [show ((-1) : Int32) = i2 (-1) from by decide] at c21
        have h := if_f (mt (i2_eq (x := r19) (y := (-1)) hr20 (by decide)).mpr c21) h
        refine lv_aload_n hx hb eX12_qPartTold_201.2.2.2.2.1 rfl (lv_at hl 1 rfl) ?_
        refine lv_iload_n hx hb eX12_qPartTold_201.2.2.2.2.2.1 rfl (lv_at hl 0 rfl) ?_
        obtain ⟨s23, hc22, h⟩ := bn_e h
        refine ywVv (As := [.int (i2 r19)]) (rest := []) (C := RX12) (n := 1) (ws' := RW D a s23) ⟨hx, hb, hml, hown, ht⟩ (k_x12_qAsksWord l D a r19 _ _ _ hc22) (zgV ml_X12_714 im_X12_qAsksWord se_X12_qAsksWord in_X12 co_X12_qAsksWord) rfl rfl (by decide +kernel) ⟨Nat.le_of_ble_eq_true rfl, Nat.le_of_ble_eq_true rfl⟩ hN hK hP (hDD _) hS hA 0 RW_0 rfl rfl rfl hl.1 rfl (Nat.le_of_ble_eq_true rfl) eX12_qPartTold_201.2.2.2.2.2.2.1 ⟨Nat.le_of_ble_eq_true rfl, Nat.le_of_ble_eq_true rfl⟩ (fun H locs hP hS => ?_)
        exact J212 (r19, s23) _ _ _ ⟨hP, hS, lv_sub hl [1, 0] rfl, h⟩
    · have h := if_f (mt (i2_eq (x := (gI s14 5)) (y := 0) hr15 (by decide)).mpr c16) h
      obtain rfl := Option.some.inj h
      exact W.vret hx hb hr (fun t ht hW => ⟨⟨(), rfl, trivial, by rw [ht]; exact hP, va_K.moved hW.alike hK, hDD _⟩, hS.F ht⟩) hS.2.2 eX12_qPartTold_186.2.2.2.1
  refine y_loop (pcJ := 2) (σ := Int × MS) (fun n u H locs ls => va_P D vwCl (RW D a u.2) H ∧ va_S A s₀.heap H locs ∧ lv_has ls 6 [(0, .ref (a 200)), (1, .int (i2 u.1))] ∧ m_x12_qPartTold_L2 n u.1 u.2 = some o) (fun u => []) (fun u H locs ls hI => by obtain ⟨_, _, _, h⟩ := hI; cases h) (fun n2 ih2 u H locs ls hI => ?_) (fun J2 => ?_)
  · obtain ⟨hP, hS, hl, h⟩ := hI
    obtain ⟨x24, s25⟩ := u
    have hP : va_P D vwCl (RW D a s25) H := hP
    have hl : lv_has ls 6 [(0, .ref (a 200)), (1, .int (i2 x24))] := hl
    have h : m_x12_qPartTold_b2 (m_x12_qPartTold_L2 n2) x24 s25 = some o := h
    unfold m_x12_qPartTold_b2 at h
    refine y_head (pcJ := 183) (σ := Int × MS) (fun u H locs ls => va_P D vwCl (RW D a u.2) H ∧ va_S A s₀.heap H locs ∧ lv_has ls 6 [(0, .ref (a 200)), (1, .int (i2 u.1))] ∧ m_x12_qPartTold_J183 (m_x12_qPartTold_L2 n2) u.1 u.2 = some o) (fun u => []) (fun u H locs ls hI => ?_) (fun J183 => ?_)
    · obtain ⟨hP, hS, hl, h⟩ := hI
      obtain ⟨x26, s27⟩ := u
      have hP : va_P D vwCl (RW D a s27) H := hP
      have hl : lv_has ls 6 [(0, .ref (a 200)), (1, .int (i2 x26))] := hl
      have h : m_x12_qPartTold_J183 (m_x12_qPartTold_L2 n2) x26 s27 = some o := h
      unfold m_x12_qPartTold_J183 at h
      refine lv_goto (tgt := 2) hx hb eX12_qPartTold_170.2.2.2.2.2.2.2 (by decide) ?_
      exact ih2 (x26, s27) _ _ _ ⟨hP, hS, lv_sub hl [0, 1] rfl, h⟩
    refine y_head (pcJ := 144) (σ := Int × MS) (fun u H locs ls => va_P D vwCl (RW D a u.2) H ∧ va_S A s₀.heap H locs ∧ lv_has ls 6 [(0, .ref (a 200)), (1, .int (i2 u.1))] ∧ m_x12_qPartTold_J144 (m_x12_qPartTold_L2 n2) u.1 u.2 = some o) (fun u => []) (fun u H locs ls hI => ?_) (fun J144 => ?_)
    · obtain ⟨hP, hS, hl, h⟩ := hI
      obtain ⟨x28, s29⟩ := u
      have hP : va_P D vwCl (RW D a s29) H := hP
      have hl : lv_has ls 6 [(0, .ref (a 200)), (1, .int (i2 x28))] := hl
      have h : m_x12_qPartTold_J144 (m_x12_qPartTold_L2 n2) x28 s29 = some o := h
      unfold m_x12_qPartTold_J144 at h
      refine lv_aload_n hx hb eX12_qPartTold_141.2.1 rfl (lv_at hl 0 rfl) ?_
      refine lv_bipush (v := 40) hx hb eX12_qPartTold_141.2.2.1 (by decide) ?_
      obtain ⟨s31, hc30, h⟩ := bn_e h
      refine ywVv (As := [.int 40]) (rest := []) (C := RX12) (n := 1) (ws' := RW D a s31) ⟨hx, hb, hml, hown, ht⟩ (k_x12_asksSign l D a 40 _ _ _ hc30) (zgV ml_X12_335 im_X12_asksSign se_X12_asksSign in_X12 co_X12_asksSign) rfl rfl (by decide +kernel) ⟨Nat.le_of_ble_eq_true rfl, Nat.le_of_ble_eq_true rfl⟩ hN hK hP (hDD _) hS hA 0 RW_0 rfl rfl rfl hl.1 rfl (Nat.le_of_ble_eq_true rfl) eX12_qPartTold_141.2.2.2.1 ⟨Nat.le_of_ble_eq_true rfl, Nat.le_of_ble_eq_true rfl⟩ (fun H locs hP hS => ?_)
      refine lv_goto (tgt := 183) hx hb eX12_qPartTold_141.2.2.2.2.1 (by decide) ?_
      exact J183 (x28, s31) _ _ _ ⟨hP, hS, lv_sub hl [0, 1] rfl, h⟩
    refine y_head (pcJ := 139) (σ := Int × Int × Int × MS) (fun u H locs ls => va_P D vwCl (RW D a u.2.2.2) H ∧ va_S A s₀.heap H locs ∧ lv_has ls 6 [(0, .ref (a 200)), (1, .int (i2 u.1)), (5, .int (i2 u.2.1))] ∧ m_x12_qPartTold_J139 (m_x12_qPartTold_L2 n2) u.1 u.2.1 u.2.2.1 u.2.2.2 = some o) (fun u => [.int (i2 u.2.2.1), .ref (a 200)]) (fun u H locs ls hI => ?_) (fun J139 => ?_)
    · obtain ⟨hP, hS, hl, h⟩ := hI
      obtain ⟨x32, x33, x34, s35⟩ := u
      have hP : va_P D vwCl (RW D a s35) H := hP
      have hl : lv_has ls 6 [(0, .ref (a 200)), (1, .int (i2 x32)), (5, .int (i2 x33))] := hl
      have h : m_x12_qPartTold_J139 (m_x12_qPartTold_L2 n2) x32 x33 x34 s35 = some o := h
      unfold m_x12_qPartTold_J139 at h
      refine lv_iload hx hb eX12_qPartTold_123.2.2.2.2.2.2.2 (lv_at hl 2 rfl) ?_
      obtain ⟨s37, hc36, h⟩ := bn_e h
      refine ywVv (As := [.int (i2 x34), .int (i2 x33)]) (rest := []) (C := RX12) (n := 2) (ws' := RW D a s37) ⟨hx, hb, hml, hown, ht⟩ (k_x12_qOpens l D a x34 x33 _ _ _ hc36) (zgV ml_X12_711 im_X12_qOpens se_X12_qOpens in_X12 co_X12_qOpens) rfl rfl (by decide +kernel) ⟨Nat.le_of_ble_eq_true rfl, Nat.le_of_ble_eq_true rfl⟩ hN hK hP (hDD _) hS hA 0 RW_0 rfl rfl rfl hl.1 rfl (Nat.le_of_ble_eq_true rfl) eX12_qPartTold_141.1 ⟨Nat.le_of_ble_eq_true rfl, Nat.le_of_ble_eq_true rfl⟩ (fun H locs hP hS => ?_)
      exact J144 (x32, s37) _ _ _ ⟨hP, hS, lv_sub hl [0, 1] rfl, h⟩
    refine y_head (pcJ := 118) (σ := Int × Int × Int × MS) (fun u H locs ls => va_P D vwCl (RW D a u.2.2.2) H ∧ va_S A s₀.heap H locs ∧ lv_has ls 6 [(0, .ref (a 200)), (1, .int (i2 u.1)), (4, .int (i2 u.2.1))] ∧ m_x12_qPartTold_J118 (m_x12_qPartTold_L2 n2) u.1 u.2.1 u.2.2.1 u.2.2.2 = some o) (fun u => [.int (i2 u.2.2.1)]) (fun u H locs ls hI => ?_) (fun J118 => ?_)
    · obtain ⟨hP, hS, hl, h⟩ := hI
      obtain ⟨x38, x39, x40, s41⟩ := u
      have hP : va_P D vwCl (RW D a s41) H := hP
      have hl : lv_has ls 6 [(0, .ref (a 200)), (1, .int (i2 x38)), (4, .int (i2 x39))] := hl
      have h : m_x12_qPartTold_J118 (m_x12_qPartTold_L2 n2) x38 x39 x40 s41 = some o := h
      unfold m_x12_qPartTold_J118 at h
      refine lv_istore (lv' := [(5, .int (i2 x40)), (0, .ref (a 200)), (1, .int (i2 x38)), (4, .int (i2 x39))]) hx hb eX12_qPartTold_107.2.2.2.2.2.1 hl (by decide) rfl (fun ls hl => ?_)
      refine lv_iload hx hb eX12_qPartTold_107.2.2.2.2.2.2.1 (lv_at hl 0 rfl) ?_
      refine lv_iconst (v := (-1)) hx hb eX12_qPartTold_107.2.2.2.2.2.2.2 (by decide) ?_
      obtain ⟨hr42, h⟩ := rg_e h
      refine lv_icmp_eq (tgt := 144) hx hb eX12_qPartTold_123.1 (by decide) (fun c43 => ?_) (fun c43 => ?_)
      · rw [show ((-1) : Int32) = i2 (-1) from by decide] at c43
        have h := if_t ((i2_eq (x := x40) (y := (-1)) hr42 (by decide)).mp c43) h
        exact J144 (x38, s41) _ _ _ ⟨hP, hS, lv_sub hl [1, 2] rfl, h⟩
      · rw [show ((-1) : Int32) = i2 (-1) from by decide] at c43
        have h := if_f (mt (i2_eq (x := x40) (y := (-1)) hr42 (by decide)).mpr c43) h
        refine lv_aload_n hx hb eX12_qPartTold_123.2.1 rfl (lv_at hl 1 rfl) ?_
        refine lv_iload hx hb eX12_qPartTold_123.2.2.1 (lv_at hl 3 rfl) ?_
        obtain ⟨hr44, h⟩ := rg_e h
        refine lv_if_eq (tgt := 137) hx hb eX12_qPartTold_123.2.2.2.1 (by decide) (fun c45 => ?_) (fun c45 => ?_)
        · have h := if_t ((i2_eq (x := x39) (y := 0) hr44 (by decide)).mp c45) h
          refine lv_bipush (v := 22) hx hb eX12_qPartTold_123.2.2.2.2.2.2.1 (by decide) ?_
          exact J139 (x38, x40, 22, s41) _ _ _ ⟨hP, hS, lv_sub hl [1, 2, 0] rfl, h⟩
        · have h := if_f (mt (i2_eq (x := x39) (y := 0) hr44 (by decide)).mpr c45) h
          refine lv_bipush (v := 21) hx hb eX12_qPartTold_123.2.2.2.2.1 (by decide) ?_
          refine lv_goto (tgt := 139) hx hb eX12_qPartTold_123.2.2.2.2.2.1 (by decide) ?_
          exact J139 (x38, x40, 21, s41) _ _ _ ⟨hP, hS, lv_sub hl [1, 2, 0] rfl, h⟩
    refine y_head (pcJ := 101) (σ := Int × Int × MS) (fun u H locs ls => va_P D vwCl (RW D a u.2.2) H ∧ va_S A s₀.heap H locs ∧ lv_has ls 6 [(0, .ref (a 200)), (1, .int (i2 u.1)), (4, .int (i2 u.2.1))] ∧ m_x12_qPartTold_J101 (m_x12_qPartTold_L2 n2) u.1 u.2.1 u.2.2 = some o) (fun u => []) (fun u H locs ls hI => ?_) (fun J101 => ?_)
    · obtain ⟨hP, hS, hl, h⟩ := hI
      obtain ⟨x46, x47, s48⟩ := u
      have hP : va_P D vwCl (RW D a s48) H := hP
      have hl : lv_has ls 6 [(0, .ref (a 200)), (1, .int (i2 x46)), (4, .int (i2 x47))] := hl
      have h : m_x12_qPartTold_J101 (m_x12_qPartTold_L2 n2) x46 x47 s48 = some o := h
      unfold m_x12_qPartTold_J101 at h
      refine lv_aload_n hx hb eX12_qPartTold_90.2.2.2.2.2.1 rfl (lv_at hl 0 rfl) ?_
      obtain ⟨⟨r51, s50⟩, hc49, h⟩ := bn_e h
      refine ywV (r0 := i2 r51) (As := []) (rest := []) (C := RX12) (n := 0) (ws' := RW D a s50) ⟨hx, hb, hml, hown, ht⟩ (k_x12_look l D a _ _ _ hc49) (zgV ml_X12_278 im_X12_look se_X12_look in_X12 co_X12_look) rfl rfl (by decide +kernel) ⟨Nat.le_of_ble_eq_true rfl, Nat.le_of_ble_eq_true rfl⟩ hN hK hP (hDD _) hS hA 0 RW_0 rfl rfl rfl hl.1 rfl (Nat.le_of_ble_eq_true rfl) eX12_qPartTold_90.2.2.2.2.2.2.1 ⟨Nat.le_of_ble_eq_true rfl, Nat.le_of_ble_eq_true rfl⟩ (fun H locs hP hS => ?_)
      refine lv_bipush (v := 40) hx hb eX12_qPartTold_90.2.2.2.2.2.2.2 (by decide) ?_
      obtain ⟨hr52, h⟩ := rg_e h
      refine lv_icmp_ne (tgt := 117) hx hb eX12_qPartTold_107.1 (by decide) (fun c53 => ?_) (fun c53 => ?_)
      · have h := if_f (mt (i2_eq (x := r51) (y := 40) hr52 (by decide)).mpr c53) h
        refine lv_iconst (v := (-1)) hx hb eX12_qPartTold_107.2.2.2.2.1 (by decide) ?_
        exact J118 (x46, x47, (-1), s50) _ _ _ ⟨hP, hS, lv_sub hl [0, 1, 2] rfl, h⟩
      · have h := if_t ((i2_eq (x := r51) (y := 40) hr52 (by decide)).mp c53) h
        refine lv_aload_n hx hb eX12_qPartTold_107.2.1 rfl (lv_at hl 0 rfl) ?_
        refine va_get (D := D) (ci := 12) (v := .int (i2 (gI s50 2))) (C := RX12) (T := TX12) (N := 116) hx hb ht inX12 hown hK hP 0 RW_0 rfl 2 (by decide) (ht (.fieldLink RX12 272 "CloneVolumesModel" "at" "I") fl_X12_272) (fun _ h9 => h9) mF_2 eX12_qPartTold_107.2.2.1 ?_
        refine lv_goto (tgt := 118) hx hb eX12_qPartTold_107.2.2.2.1 (by decide) ?_
        exact J118 (x46, x47, gI s50 2, s50) _ _ _ ⟨hP, hS, lv_sub hl [0, 1, 2] rfl, h⟩
    refine y_head (pcJ := 78) (σ := Int × MS) (fun u H locs ls => va_P D vwCl (RW D a u.2) H ∧ va_S A s₀.heap H locs ∧ lv_has ls 6 [(0, .ref (a 200)), (1, .int (i2 u.1))] ∧ m_x12_qPartTold_J78 (m_x12_qPartTold_L2 n2) u.1 u.2 = some o) (fun u => []) (fun u H locs ls hI => ?_) (fun J78 => ?_)
    · obtain ⟨hP, hS, hl, h⟩ := hI
      obtain ⟨x54, s55⟩ := u
      have hP : va_P D vwCl (RW D a s55) H := hP
      have hl : lv_has ls 6 [(0, .ref (a 200)), (1, .int (i2 x54))] := hl
      have h : m_x12_qPartTold_J78 (m_x12_qPartTold_L2 n2) x54 s55 = some o := h
      unfold m_x12_qPartTold_J78 at h
      refine lv_aload_n hx hb eX12_qPartTold_72.2.2.1 rfl (lv_at hl 0 rfl) ?_
      refine lv_aload_n hx hb eX12_qPartTold_72.2.2.2.1 rfl (lv_at hl 0 rfl) ?_
      refine va_get (D := D) (ci := 12) (v := .ref (a 89)) (C := RX12) (T := TX12) (N := 116) hx hb ht inX12 hown hK hP 0 RW_0 rfl 89 (by decide) (ht (.fieldLink RX12 207 "CloneVolumesModel" "minAsked" "[C") fl_X12_207) (fun _ h9 => h9) mF_89 eX12_qPartTold_72.2.2.2.2.1 ?_
      obtain ⟨⟨r58, s57⟩, hc56, h⟩ := bn_e h
      refine ywV (r0 := i2 r58) (As := [.ref (a 89)]) (rest := []) (C := RX12) (n := 1) (ws' := RW D a s57) ⟨hx, hb, hml, hown, ht⟩ (k_x12_takes l D a 63 (a 89) 89 3 (fun _ => RW_63) (by decide) _ _ _ hc56) (zgV ml_X12_293 im_X12_takes se_X12_takes in_X12 co_X12_takes) rfl rfl (by decide +kernel) ⟨Nat.le_of_ble_eq_true rfl, Nat.le_of_ble_eq_true rfl⟩ hN hK hP (hDD _) hS hA 0 RW_0 rfl rfl rfl hl.1 rfl (Nat.le_of_ble_eq_true rfl) eX12_qPartTold_72.2.2.2.2.2.1 ⟨Nat.le_of_ble_eq_true rfl, Nat.le_of_ble_eq_true rfl⟩ (fun H locs hP hS => ?_)
      refine lv_istore (lv' := [(4, .int (i2 r58)), (0, .ref (a 200)), (1, .int (i2 x54))]) hx hb eX12_qPartTold_72.2.2.2.2.2.2.1 hl (by decide) rfl (fun ls hl => ?_)
      refine lv_iload hx hb eX12_qPartTold_72.2.2.2.2.2.2.2 (lv_at hl 0 rfl) ?_
      obtain ⟨hr59, h⟩ := rg_e h
      refine lv_if_ne (tgt := 101) hx hb eX12_qPartTold_90.1 (by decide) (fun c60 => ?_) (fun c60 => ?_)
      · have h := if_f (mt (i2_eq (x := r58) (y := 0) hr59 (by decide)).mpr c60) h
        exact J101 (x54, r58, s57) _ _ _ ⟨hP, hS, lv_sub hl [1, 2, 0] rfl, h⟩
      · have h := if_t ((i2_eq (x := r58) (y := 0) hr59 (by decide)).mp c60) h
        refine lv_aload_n hx hb eX12_qPartTold_90.2.1 rfl (lv_at hl 1 rfl) ?_
        refine lv_aload_n hx hb eX12_qPartTold_90.2.2.1 rfl (lv_at hl 1 rfl) ?_
        refine va_get (D := D) (ci := 12) (v := .ref (a 90)) (C := RX12) (T := TX12) (N := 116) hx hb ht inX12 hown hK hP 0 RW_0 rfl 90 (by decide) (ht (.fieldLink RX12 210 "CloneVolumesModel" "maxAsked" "[C") fl_X12_210) (fun _ h9 => h9) mF_90 eX12_qPartTold_90.2.2.2.1 ?_
        obtain ⟨s62, hc61, h⟩ := bn_e h
        refine ywVv (As := [.ref (a 90)]) (rest := []) (C := RX12) (n := 1) (ws' := RW D a s62) ⟨hx, hb, hml, hown, ht⟩ (k_x12_asks l D a 64 (a 90) 90 3 (fun _ => RW_64) (by decide) _ _ _ hc61) (zgV ml_X12_327 im_X12_asks se_X12_asks in_X12 co_X12_asks) rfl rfl (by decide +kernel) ⟨Nat.le_of_ble_eq_true rfl, Nat.le_of_ble_eq_true rfl⟩ hN hK hP (hDD _) hS hA 0 RW_0 rfl rfl rfl hl.1 rfl (Nat.le_of_ble_eq_true rfl) eX12_qPartTold_90.2.2.2.2.1 ⟨Nat.le_of_ble_eq_true rfl, Nat.le_of_ble_eq_true rfl⟩ (fun H locs hP hS => ?_)
        exact J101 (x54, r58, s62) _ _ _ ⟨hP, hS, lv_sub hl [1, 2, 0] rfl, h⟩
    refine lv_iload_n hx hb eX12_qOpens_51.2.2.2.2.1 rfl (lv_at hl 1 rfl) ?_
    obtain ⟨hr63, h⟩ := rg_e h
    refine lv_if_eq (tgt := 186) hx hb eX12_qOpens_51.2.2.2.2.2.1 (by decide) (fun c64 => ?_) (fun c64 => ?_)
    · have h := if_t ((i2_eq (x := x24) (y := 0) hr63 (by decide)).mp c64) h
      exact J186 s25 _ _ _ ⟨hP, hS, lv_sub hl [0] rfl, h⟩
    · have h := if_f (mt (i2_eq (x := x24) (y := 0) hr63 (by decide)).mpr c64) h
      refine lv_aload_n hx hb eX12_qOpens_51.2.2.2.2.2.2.1 rfl (lv_at hl 0 rfl) ?_
      refine va_get (D := D) (ci := 12) (v := .int (i2 (gI s25 5))) (C := RX12) (T := TX12) (N := 116) hx hb ht inX12 hown hK hP 0 RW_0 rfl 5 (by decide) (ht (.fieldLink RX12 266 "CloneVolumesModel" "bad" "I") fl_X12_266) (fun _ h9 => h9) mF_5 eX12_qOpens_51.2.2.2.2.2.2.2 ?_
      obtain ⟨hr65, h⟩ := rg_e h
      refine lv_if_ne (tgt := 186) hx hb eX12_qPartTold_10.1 (by decide) (fun c66 => ?_) (fun c66 => ?_)
      · have h := if_f (mt (i2_eq (x := (gI s25 5)) (y := 0) hr65 (by decide)).mpr c66) h
        exact J186 s25 _ _ _ ⟨hP, hS, lv_sub hl [0] rfl, h⟩
      · have h := if_t ((i2_eq (x := (gI s25 5)) (y := 0) hr65 (by decide)).mp c66) h
        refine lv_aload_n hx hb eX12_qPartTold_10.2.1 rfl (lv_at hl 0 rfl) ?_
        obtain ⟨⟨r69, s68⟩, hc67, h⟩ := bn_e h
        refine ywV (r0 := i2 r69) (As := []) (rest := []) (C := RX12) (n := 0) (ws' := RW D a s68) ⟨hx, hb, hml, hown, ht⟩ (k_x12_look l D a _ _ _ hc67) (zgV ml_X12_278 im_X12_look se_X12_look in_X12 co_X12_look) rfl rfl (by decide +kernel) ⟨Nat.le_of_ble_eq_true rfl, Nat.le_of_ble_eq_true rfl⟩ hN hK hP (hDD _) hS hA 0 RW_0 rfl rfl rfl hl.1 rfl (Nat.le_of_ble_eq_true rfl) eX12_qPartTold_10.2.2.1 ⟨Nat.le_of_ble_eq_true rfl, Nat.le_of_ble_eq_true rfl⟩ (fun H locs hP hS => ?_)
        refine lv_istore_n (lv' := [(2, .int (i2 r69)), (0, .ref (a 200)), (1, .int (i2 x24))]) hx hb eX12_qPartTold_10.2.2.2.1 rfl hl (by decide) rfl (fun ls hl => ?_)
        refine lv_aload_n hx hb eX12_qPartTold_10.2.2.2.2.1 rfl (lv_at hl 1 rfl) ?_
        refine lv_bipush (v := 8) hx hb eX12_qPartTold_10.2.2.2.2.2.1 (by decide) ?_
        refine lv_bipush (v := 10) hx hb eX12_qPartTold_10.2.2.2.2.2.2.1 (by decide) ?_
        obtain ⟨⟨r72, s71⟩, hc70, h⟩ := bn_e h
        refine ywV (r0 := i2 r72) (As := [.int 8, .int 10]) (rest := []) (C := RX12) (n := 2) (ws' := RW D a s71) ⟨hx, hb, hml, hown, ht⟩ (k_x12_qWordOf l D a 8 10 _ _ _ hc70) (zgV ml_X12_708 im_X12_qWordOf se_X12_qWordOf in_X12 co_X12_qWordOf) rfl rfl (by decide +kernel) ⟨Nat.le_of_ble_eq_true rfl, Nat.le_of_ble_eq_true rfl⟩ hN hK hP (hDD _) hS hA 0 RW_0 rfl rfl rfl hl.1 rfl (Nat.le_of_ble_eq_true rfl) eX12_qPartTold_10.2.2.2.2.2.2.2 ⟨Nat.le_of_ble_eq_true rfl, Nat.le_of_ble_eq_true rfl⟩ (fun H locs hP hS => ?_)
        refine lv_istore_n (lv' := [(3, .int (i2 r72)), (2, .int (i2 r69)), (0, .ref (a 200)), (1, .int (i2 x24))]) hx hb eX12_qPartTold_26.1 rfl hl (by decide) rfl (fun ls hl => ?_)
        refine lv_iload_n hx hb eX12_qPartTold_26.2.1 rfl (lv_at hl 1 rfl) ?_
        refine lv_bipush (v := 40) hx hb eX12_qPartTold_26.2.2.1 (by decide) ?_
        obtain ⟨hr73, h⟩ := rg_e h
        refine lv_icmp_ne (tgt := 56) hx hb eX12_qPartTold_26.2.2.2.1 (by decide) (fun c74 => ?_) (fun c74 => ?_)
        · have h := if_f (mt (i2_eq (x := r69) (y := 40) hr73 (by decide)).mpr c74) h
          refine lv_aload_n hx hb eX12_qPartTold_56.1 rfl (lv_at hl 2 rfl) ?_
          refine lv_aload_n hx hb eX12_qPartTold_56.2.1 rfl (lv_at hl 2 rfl) ?_
          refine va_get (D := D) (ci := 12) (v := .ref (a 89)) (C := RX12) (T := TX12) (N := 116) hx hb ht inX12 hown hK hP 0 RW_0 rfl 89 (by decide) (ht (.fieldLink RX12 207 "CloneVolumesModel" "minAsked" "[C") fl_X12_207) (fun _ h9 => h9) mF_89 eX12_qPartTold_56.2.2.1 ?_
          obtain ⟨⟨r77, s76⟩, hc75, h⟩ := bn_e h
          refine ywV (r0 := i2 r77) (As := [.ref (a 89)]) (rest := []) (C := RX12) (n := 1) (ws' := RW D a s76) ⟨hx, hb, hml, hown, ht⟩ (k_x12_isHere l D a 63 (a 89) 89 3 (fun _ => RW_63) (by decide) _ _ _ hc75) (zgV ml_X12_289 im_X12_isHere se_X12_isHere in_X12 co_X12_isHere) rfl rfl (by decide +kernel) ⟨Nat.le_of_ble_eq_true rfl, Nat.le_of_ble_eq_true rfl⟩ hN hK hP (hDD _) hS hA 0 RW_0 rfl rfl rfl hl.1 rfl (Nat.le_of_ble_eq_true rfl) eX12_qPartTold_56.2.2.2.1 ⟨Nat.le_of_ble_eq_true rfl, Nat.le_of_ble_eq_true rfl⟩ (fun H locs hP hS => ?_)
          obtain ⟨hr78, h⟩ := rg_e h
          refine lv_if_ne (tgt := 78) hx hb eX12_qPartTold_56.2.2.2.2.1 (by decide) (fun c79 => ?_) (fun c79 => ?_)
          · have h := if_f (mt (i2_eq (x := r77) (y := 0) hr78 (by decide)).mpr c79) h
            exact J78 (x24, s76) _ _ _ ⟨hP, hS, lv_sub hl [2, 3] rfl, h⟩
          · have h := if_t ((i2_eq (x := r77) (y := 0) hr78 (by decide)).mp c79) h
            refine lv_aload_n hx hb eX12_qPartTold_56.2.2.2.2.2.1 rfl (lv_at hl 2 rfl) ?_
            refine lv_aload_n hx hb eX12_qPartTold_56.2.2.2.2.2.2.1 rfl (lv_at hl 2 rfl) ?_
            refine va_get (D := D) (ci := 12) (v := .ref (a 90)) (C := RX12) (T := TX12) (N := 116) hx hb ht inX12 hown hK hP 0 RW_0 rfl 90 (by decide) (ht (.fieldLink RX12 210 "CloneVolumesModel" "maxAsked" "[C") fl_X12_210) (fun _ h9 => h9) mF_90 eX12_qPartTold_56.2.2.2.2.2.2.2 ?_
            obtain ⟨⟨r82, s81⟩, hc80, h⟩ := bn_e h
            refine ywV (r0 := i2 r82) (As := [.ref (a 90)]) (rest := []) (C := RX12) (n := 1) (ws' := RW D a s81) ⟨hx, hb, hml, hown, ht⟩ (k_x12_isHere l D a 64 (a 90) 90 3 (fun _ => RW_64) (by decide) _ _ _ hc80) (zgV ml_X12_289 im_X12_isHere se_X12_isHere in_X12 co_X12_isHere) rfl rfl (by decide +kernel) ⟨Nat.le_of_ble_eq_true rfl, Nat.le_of_ble_eq_true rfl⟩ hN hK hP (hDD _) hS hA 0 RW_0 rfl rfl rfl hl.1 rfl (Nat.le_of_ble_eq_true rfl) eX12_qPartTold_72.1 ⟨Nat.le_of_ble_eq_true rfl, Nat.le_of_ble_eq_true rfl⟩ (fun H locs hP hS => ?_)
            obtain ⟨hr83, h⟩ := rg_e h
            refine lv_if_eq (tgt := 153) hx hb eX12_qPartTold_72.2.1 (by decide) (fun c84 => ?_) (fun c84 => ?_)
            · have h := if_t ((i2_eq (x := r82) (y := 0) hr83 (by decide)).mp c84) h
              refine lv_iload_n hx hb eX12_qPartTold_141.2.2.2.2.2.1 rfl (lv_at hl 0 rfl) ?_
              refine lv_iconst (v := (-1)) hx hb eX12_qPartTold_141.2.2.2.2.2.2.1 (by decide) ?_
              obtain ⟨hr85, h⟩ := rg_e h
              refine lv_icmp_eq (tgt := 181) hx hb eX12_qPartTold_141.2.2.2.2.2.2.2 (by decide) (fun c86 => ?_) (fun c86 => ?_)
              · rw [show ((-1) : Int32) = i2 (-1) from by decide] at c86
                have h := if_t ((i2_eq (x := r72) (y := (-1)) hr85 (by decide)).mp c86) h
                refine lv_iconst (v := 0) hx hb eX12_qPartTold_170.2.2.2.2.2.1 (by decide) ?_
                refine lv_istore_n (lv' := [(1, .int 0), (3, .int (i2 r72)), (2, .int (i2 r69)), (0, .ref (a 200))]) hx hb eX12_qPartTold_170.2.2.2.2.2.2.1 rfl hl (by decide) rfl (fun ls hl => ?_)
                exact J183 (0, s81) _ _ _ ⟨hP, hS, lv_sub hl [3, 0] rfl, h⟩
              · rw [show ((-1) : Int32) = i2 (-1) from by decide] at c86
                have h := if_f (mt (i2_eq (x := r72) (y := (-1)) hr85 (by decide)).mpr c86) h
                refine lv_aload_n hx hb eX12_qPartTold_158.1 rfl (lv_at hl 2 rfl) ?_
                refine lv_bipush (v := 60) hx hb eX12_qPartTold_158.2.1 (by decide) ?_
                refine lv_iload_n hx hb eX12_qPartTold_158.2.2.1 rfl (lv_at hl 0 rfl) ?_
                refine lv_iadd hx hb eX12_qPartTold_158.2.2.2.1 ?_
                refine z_topi (y := i2 (60 + r72)) (i2_add 60 r72) ?_
                refine lv_bipush (v := 8) hx hb eX12_qPartTold_158.2.2.2.2.1 (by decide) ?_
                refine lv_isub hx hb eX12_qPartTold_158.2.2.2.2.2.1 ?_
                refine z_topi (y := i2 ((60 + r72) - 8)) (i2_sub (60 + r72) 8) ?_
                refine lv_aload_n hx hb eX12_qPartTold_158.2.2.2.2.2.2.1 rfl (lv_at hl 2 rfl) ?_
                refine va_get (D := D) (ci := 12) (v := .int (i2 (gI s81 2))) (C := RX12) (T := TX12) (N := 116) hx hb ht inX12 hown hK hP 0 RW_0 rfl 2 (by decide) (ht (.fieldLink RX12 272 "CloneVolumesModel" "at" "I") fl_X12_272) (fun _ h9 => h9) mF_2 eX12_qPartTold_158.2.2.2.2.2.2.2 ?_
                obtain ⟨s88, hc87, h⟩ := bn_e h
                refine ywVv (As := [.int (i2 ((60 + r72) - 8)), .int (i2 (gI s81 2))]) (rest := []) (C := RX12) (n := 2) (ws' := RW D a s88) ⟨hx, hb, hml, hown, ht⟩ (k_x12_qOpens l D a ((60 + r72) - 8) (gI s81 2) _ _ _ hc87) (zgV ml_X12_711 im_X12_qOpens se_X12_qOpens in_X12 co_X12_qOpens) rfl rfl (by decide +kernel) ⟨Nat.le_of_ble_eq_true rfl, Nat.le_of_ble_eq_true rfl⟩ hN hK hP (hDD _) hS hA 0 RW_0 rfl rfl rfl hl.1 rfl (Nat.le_of_ble_eq_true rfl) eX12_qPartTold_170.1 ⟨Nat.le_of_ble_eq_true rfl, Nat.le_of_ble_eq_true rfl⟩ (fun H locs hP hS => ?_)
                refine lv_aload_n hx hb eX12_qPartTold_170.2.1 rfl (lv_at hl 2 rfl) ?_
                refine lv_iload_n hx hb eX12_qPartTold_170.2.2.1 rfl (lv_at hl 0 rfl) ?_
                obtain ⟨s90, hc89, h⟩ := bn_e h
                refine ywVv (As := [.int (i2 r72)]) (rest := []) (C := RX12) (n := 1) (ws' := RW D a s90) ⟨hx, hb, hml, hown, ht⟩ (k_x12_qAsksWord l D a r72 _ _ _ hc89) (zgV ml_X12_714 im_X12_qAsksWord se_X12_qAsksWord in_X12 co_X12_qAsksWord) rfl rfl (by decide +kernel) ⟨Nat.le_of_ble_eq_true rfl, Nat.le_of_ble_eq_true rfl⟩ hN hK hP (hDD _) hS hA 0 RW_0 rfl rfl rfl hl.1 rfl (Nat.le_of_ble_eq_true rfl) eX12_qPartTold_170.2.2.2.1 ⟨Nat.le_of_ble_eq_true rfl, Nat.le_of_ble_eq_true rfl⟩ (fun H locs hP hS => ?_)
                refine lv_goto (tgt := 183) hx hb eX12_qPartTold_170.2.2.2.2.1 (by decide) ?_
                exact J183 (x24, s90) _ _ _ ⟨hP, hS, lv_sub hl [2, 3] rfl, h⟩
            · have h := if_f (mt (i2_eq (x := r82) (y := 0) hr83 (by decide)).mpr c84) h
              exact J78 (x24, s81) _ _ _ ⟨hP, hS, lv_sub hl [2, 3] rfl, h⟩
        · have h := if_t ((i2_eq (x := r69) (y := 40) hr73 (by decide)).mp c74) h
          refine lv_aload_n hx hb eX12_qPartTold_26.2.2.2.2.1 rfl (lv_at hl 2 rfl) ?_
          refine lv_bipush (v := 20) hx hb eX12_qPartTold_26.2.2.2.2.2.1 (by decide) ?_
          refine lv_aload_n hx hb eX12_qPartTold_26.2.2.2.2.2.2.1 rfl (lv_at hl 2 rfl) ?_
          refine va_get (D := D) (ci := 12) (v := .int (i2 (gI s71 2))) (C := RX12) (T := TX12) (N := 116) hx hb ht inX12 hown hK hP 0 RW_0 rfl 2 (by decide) (ht (.fieldLink RX12 272 "CloneVolumesModel" "at" "I") fl_X12_272) (fun _ h9 => h9) mF_2 eX12_qPartTold_26.2.2.2.2.2.2.2 ?_
          obtain ⟨s92, hc91, h⟩ := bn_e h
          refine ywVv (As := [.int 20, .int (i2 (gI s71 2))]) (rest := []) (C := RX12) (n := 2) (ws' := RW D a s92) ⟨hx, hb, hml, hown, ht⟩ (k_x12_qOpens l D a 20 (gI s71 2) _ _ _ hc91) (zgV ml_X12_711 im_X12_qOpens se_X12_qOpens in_X12 co_X12_qOpens) rfl rfl (by decide +kernel) ⟨Nat.le_of_ble_eq_true rfl, Nat.le_of_ble_eq_true rfl⟩ hN hK hP (hDD _) hS hA 0 RW_0 rfl rfl rfl hl.1 rfl (Nat.le_of_ble_eq_true rfl) eX12_qPartTold_40.1 ⟨Nat.le_of_ble_eq_true rfl, Nat.le_of_ble_eq_true rfl⟩ (fun H locs hP hS => ?_)
          refine lv_aload_n hx hb eX12_qPartTold_40.2.1 rfl (lv_at hl 2 rfl) ?_
          refine lv_dup hx hb eX12_qPartTold_40.2.2.1 rfl ?_
          refine va_get (D := D) (ci := 12) (v := .int (i2 (gI s92 2))) (C := RX12) (T := TX12) (N := 116) hx hb ht inX12 hown hK hP 0 RW_0 rfl 2 (by decide) (ht (.fieldLink RX12 272 "CloneVolumesModel" "at" "I") fl_X12_272) (fun _ h9 => h9) mF_2 eX12_qPartTold_40.2.2.2.1 ?_
          refine lv_iconst (v := 1) hx hb eX12_qPartTold_40.2.2.2.2.1 (by decide) ?_
          refine lv_iadd hx hb eX12_qPartTold_40.2.2.2.2.2.1 ?_
          refine z_topi (y := i2 ((gI s92 2) + 1)) (i2_add (gI s92 2) 1) ?_
          refine ya_put (D := D) (ci := 12) (v := .int (i2 ((gI s92 2) + 1))) (ty := .int) (C := RX12) (T := TX12) (N := 116) hx hb ht inX12 tyX12 tyX12_ok nmX12 hown hK hP (hDD _) hS 0 RW_0 rfl 2 (by decide) (ht (.fieldLink RX12 272 "CloneVolumesModel" "at" "I") fl_X12_272) (fun _ h9 => h9) rfl (by decide +kernel) rfl rfl (by rw [mF_len]; decide) eX12_qPartTold_40.2.2.2.2.2.2.1 (RW_f2 ((gI s92 2) + 1)) (fun H locs hP hS => ?_)
          obtain ⟨s93, hs93, h⟩ := st_e h
          rw [hs93] at hP
          refine lv_goto (tgt := 183) hx hb eX12_qPartTold_40.2.2.2.2.2.2.2 (by decide) ?_
          exact J183 (x24, s93) _ _ _ ⟨hP, hS, lv_sub hl [2, 3] rfl, h⟩
  refine lv_iconst (v := 1) hx hb eX12_qOpens_51.2.2.1 (by decide) ?_
  refine lv_istore_n (lv' := [(1, .int 1), (0, .ref (a 200))]) hx hb eX12_qOpens_51.2.2.2.1 rfl hl (by decide) rfl (fun ls hl => ?_)
  exact J2 FU (1, s) _ _ _ ⟨hP, hS, lv_sub hl [1, 0] rfl, h⟩
set_option maxHeartbeats 4000000 in
set_option maxRecDepth 100000 in
theorem k_x12_qIsBracket (l : Launch) (D : va_G) (a : Nat → Nat) (p0 : Int) (s : MS) (o : Int) (h : m_x12_qIsBracket p0 s = some o) : yRi l yX12_qIsBracket cX12_qIsBracket 1 (some .boolean) { frames := 0, cells := 0, slots := 0, locals := 0 } D [.int (i2 p0)] (RW D a s) (i2 o) := by
  refine Met.ofW (cc := cX12_qIsBracket) (maxL := 1) (ret := (some .boolean)) (by decide) rfl ?_
  intro p e s₀ m args below meth c s₁ B hml hv
  obtain ⟨rfl, ⟨hP, hK⟩, hN⟩ := hv
  have hx := B.exec
  have hb := B.bytes
  have hr := B.returns
  have hts := atoms_spec (ws := wz yX12_qIsBracket cX12_qIsBracket 1 (some .boolean)) B.pre
  have ht : ∀ w ∈ lw_gd, w.before _ s₀ = true := fun w h => hts w (List.mem_cons_of_mem _ h)
  have hown : s₀.vm.findClass RX12 = some m.cls := findClass_of_methodNamed B.named
  have hlocks := B.notSynchronized
  have hS : va_S (fun _ => False) s₀.heap s₀.heap [] := va_S.rf
  have hl := lv_entry ([.int (i2 p0)]) (n := 1) (Nat.le_of_ble_eq_true rfl)
  rw [lg_entry_eq]
  generalize (lg_sl ([.int (i2 p0)]) ++ List.replicate (1 - (lg_sl ([.int (i2 p0)])).length) Slot.unset).toArray = ls at hl ⊢
  have hl : lv_has ls 1 [(0, .int (i2 p0))] := hl
  unfold m_x12_qIsBracket at h
  refine y_head (pcJ := 17) (σ := Int) (fun u H locs ls => va_P D vwCl (RW D a s) H ∧ va_S (fun _ => False) s₀.heap H locs ∧ lv_has ls 1 [] ∧ m_x12_qIsBracket_J17 s u = some o) (fun u => [.int (i2 u)]) (fun u H locs ls hI => ?_) (fun J17 => ?_)
  · obtain ⟨hP, hS, hl, h⟩ := hI
    obtain ⟨x1, rfl⟩ : ∃ z, z = u := ⟨u, rfl⟩
    have hP : va_P D vwCl (RW D a s) H := hP
    have hl : lv_has ls 1 [] := hl
    have h : m_x12_qIsBracket_J17 s x1 = some o := h
    unfold m_x12_qIsBracket_J17 at h
    obtain ⟨hb2, h⟩ := bo_e h
    obtain rfl := Option.some.inj h
    exact W.zret (v := (i2 x1)) hx hb hr (bo_n hb2) (fun t ht hW => ⟨⟨_, (), rfl, rfl, trivial⟩, hS.F ht⟩) hS.2.2 eX12_qIsBracket_16.2.1
  refine y_head (pcJ := 16) (σ := Unit) (fun u H locs ls => va_P D vwCl (RW D a s) H ∧ va_S (fun _ => False) s₀.heap H locs ∧ lv_has ls 1 [] ∧ m_x12_qIsBracket_J16 s u = some o) (fun u => []) (fun u H locs ls hI => ?_) (fun J16 => ?_)
  · obtain ⟨hP, hS, hl, h⟩ := hI
    skip
    have hP : va_P D vwCl (RW D a s) H := hP
    have hl : lv_has ls 1 [] := hl
    have h : m_x12_qIsBracket_J16 s () = some o := h
    unfold m_x12_qIsBracket_J16 at h
    refine lv_iconst (v := 0) hx hb eX12_qIsBracket_16.1 (by decide) ?_
    exact J17 0 _ _ _ ⟨hP, hS, lv_sub hl [] rfl, h⟩
  refine lv_iload_n hx hb eX12_qIsBracket_0.1 rfl (lv_at hl 0 rfl) ?_
  refine lv_bipush (v := 20) hx hb eX12_qIsBracket_0.2.1 (by decide) ?_
  obtain ⟨hr3, h⟩ := rg_e h
  refine lv_icmp_lt (tgt := 16) hx hb eX12_qIsBracket_0.2.2.1 (by decide) (fun c4 => ?_) (fun c4 => ?_)
  · have h := if_t ((i2_lt (x := p0) (y := 20) hr3 (by decide)).mp c4) h
    exact J16 () _ _ _ ⟨hP, hS, lv_sub hl [] rfl, h⟩
  · have h := if_f (mt (i2_lt (x := p0) (y := 20) hr3 (by decide)).mpr c4) h
    refine lv_iload_n hx hb eX12_qIsBracket_0.2.2.2.1 rfl (lv_at hl 0 rfl) ?_
    refine lv_bipush (v := 24) hx hb eX12_qIsBracket_0.2.2.2.2.1 (by decide) ?_
    obtain ⟨hr5, h⟩ := rg_e h
    refine lv_icmp_gt (tgt := 16) hx hb eX12_qIsBracket_0.2.2.2.2.2.1 (by decide) (fun c6 => ?_) (fun c6 => ?_)
    · have h := if_t ((i2_lt (x := 24) (y := p0) (by decide) hr5).mp c6) h
      exact J16 () _ _ _ ⟨hP, hS, lv_sub hl [] rfl, h⟩
    · have h := if_f (mt (i2_lt (x := 24) (y := p0) (by decide) hr5).mpr c6) h
      refine lv_iconst (v := 1) hx hb eX12_qIsBracket_0.2.2.2.2.2.2.1 (by decide) ?_
      refine lv_goto (tgt := 17) hx hb eX12_qIsBracket_0.2.2.2.2.2.2.2 (by decide) ?_
      exact J17 1 _ _ _ ⟨hP, hS, lv_sub hl [] rfl, h⟩
set_option maxHeartbeats 4000000 in
set_option maxRecDepth 100000 in
theorem k_x12_qDropsToBracket (l : Launch) (D : va_G) (a : Nat → Nat) (sz : Nat) (s : MS) (o : MS) (h : m_x12_qDropsToBracket s = some o) : yWv l yX12_qDropsToBracket cX12_qDropsToBracket 1 none { frames := 2, cells := 0, slots := 0, locals := 120 } D sz [.ref (a 200)] (RW D a s) (RW D a o) := by
  refine Met.ofW (cc := cX12_qDropsToBracket) (maxL := 1) (ret := none) (by decide) rfl ?_
  intro p e s₀ m args below meth c s₁ B hml hv
  obtain ⟨rfl, ⟨hsz, hP, hK, hD0⟩, hN⟩ := hv
  have hx := B.exec
  have hb := B.bytes
  have hr := B.returns
  have hts := atoms_spec (ws := wz yX12_qDropsToBracket cX12_qDropsToBracket 1 none) B.pre
  have ht : ∀ w ∈ lw_gd, w.before _ s₀ = true := fun w h => hts w (List.mem_cons_of_mem _ h)
  have hown : s₀.vm.findClass RX12 = some m.cls := findClass_of_methodNamed B.named
  have hlocks := B.notSynchronized
  subst hsz
  have hD := hD0.self (sz := s₀.heap.size)
  generalize hAe : va_A (RW D a s) s₀.heap.size = A at hD ⊢
  have hA : ∀ q : Nat, s₀.heap.size ≤ q → A q := fun q h => by rw [← hAe]; exact Or.inr h
  have hS : va_S A s₀.heap s₀.heap [] := va_S.rf
  have hDD : ∀ t : MS, va_D A (RW D a t) := fun t => RW_D t hD
  have hl := lv_entry ([.ref (a 200)]) (n := 1) (Nat.le_of_ble_eq_true rfl)
  rw [lg_entry_eq]
  generalize (lg_sl ([.ref (a 200)]) ++ List.replicate (1 - (lg_sl ([.ref (a 200)])).length) Slot.unset).toArray = ls at hl ⊢
  have hl : lv_has ls 1 [(0, .ref (a 200))] := hl
  unfold m_x12_qDropsToBracket at h
  refine y_head (pcJ := 35) (σ := MS) (fun u H locs ls => va_P D vwCl (RW D a u) H ∧ va_S A s₀.heap H locs ∧ lv_has ls 1 [] ∧ m_x12_qDropsToBracket_J35 u = some o) (fun u => []) (fun u H locs ls hI => ?_) (fun J35 => ?_)
  · obtain ⟨hP, hS, hl, h⟩ := hI
    obtain ⟨s1, rfl⟩ : ∃ z, z = u := ⟨u, rfl⟩
    have hP : va_P D vwCl (RW D a s1) H := hP
    have hl : lv_has ls 1 [] := hl
    have h : m_x12_qDropsToBracket_J35 s1 = some o := h
    unfold m_x12_qDropsToBracket_J35 at h
    obtain rfl := Option.some.inj h
    exact W.vret hx hb hr (fun t ht hW => ⟨⟨(), rfl, trivial, by rw [ht]; exact hP, va_K.moved hW.alike hK, hDD _⟩, hS.F ht⟩) hS.2.2 eX12_qDropsToBracket_32.2.1
  refine y_loop (pcJ := 0) (σ := MS) (fun n u H locs ls => va_P D vwCl (RW D a u) H ∧ va_S A s₀.heap H locs ∧ lv_has ls 1 [(0, .ref (a 200))] ∧ m_x12_qDropsToBracket_L0 n u = some o) (fun u => []) (fun u H locs ls hI => by obtain ⟨_, _, _, h⟩ := hI; cases h) (fun n0 ih0 u H locs ls hI => ?_) (fun J0 => ?_)
  · obtain ⟨hP, hS, hl, h⟩ := hI
    obtain ⟨s2, rfl⟩ : ∃ z, z = u := ⟨u, rfl⟩
    have hP : va_P D vwCl (RW D a s2) H := hP
    have hl : lv_has ls 1 [(0, .ref (a 200))] := hl
    have h : m_x12_qDropsToBracket_b0 (m_x12_qDropsToBracket_L0 n0) s2 = some o := h
    unfold m_x12_qDropsToBracket_b0 at h
    refine lv_aload_n hx hb eX12_qDropsToBracket_0.1 rfl (lv_at hl 0 rfl) ?_
    refine va_get (D := D) (ci := 12) (v := .int (i2 (gI s2 104))) (C := RX12) (T := TX12) (N := 116) hx hb ht inX12 hown hK hP 0 RW_0 rfl 104 (by decide) (ht (.fieldLink RX12 356 "CloneVolumesModel" "qWaits" "I") fl_X12_356) (fun _ h9 => h9) mF_104 eX12_qDropsToBracket_0.2.1 ?_
    refine lv_aload_n hx hb eX12_qDropsToBracket_0.2.2.1 rfl (lv_at hl 0 rfl) ?_
    refine va_get (D := D) (ci := 12) (v := .int (i2 (gI s2 106))) (C := RX12) (T := TX12) (N := 116) hx hb ht inX12 hown hK hP 0 RW_0 rfl 106 (by decide) (ht (.fieldLink RX12 362 "CloneVolumesModel" "qBase" "I") fl_X12_362) (fun _ h9 => h9) mF_106 eX12_qDropsToBracket_0.2.2.2.1 ?_
    obtain ⟨hr3, h⟩ := rg_e h
    obtain ⟨hr4, h⟩ := rg_e h
    refine lv_icmp_le (tgt := 35) hx hb eX12_qDropsToBracket_0.2.2.2.2.1 (by decide) (fun c5 => ?_) (fun c5 => ?_)
    · have h := if_t ((i2_le (x := (gI s2 104)) (y := (gI s2 106)) hr3 hr4).mp c5) h
      exact J35 s2 _ _ _ ⟨hP, hS, lv_sub hl [] rfl, h⟩
    · have h := if_f (mt (i2_le (x := (gI s2 104)) (y := (gI s2 106)) hr3 hr4).mpr c5) h
      refine lv_aload_n hx hb eX12_qDropsToBracket_0.2.2.2.2.2.1 rfl (lv_at hl 0 rfl) ?_
      refine va_get (D := D) (ci := 12) (v := .ref (a 103)) (C := RX12) (T := TX12) (N := 116) hx hb ht inX12 hown hK hP 0 RW_0 rfl 103 (by decide) (ht (.fieldLink RX12 246 "CloneVolumesModel" "qWait" "[I") fl_X12_246) (fun _ h9 => h9) mF_103 eX12_qDropsToBracket_0.2.2.2.2.2.2.1 ?_
      refine lv_aload_n hx hb eX12_qDropsToBracket_0.2.2.2.2.2.2.2 rfl (lv_at hl 0 rfl) ?_
      refine va_get (D := D) (ci := 12) (v := .int (i2 (gI s2 104))) (C := RX12) (T := TX12) (N := 116) hx hb ht inX12 hown hK hP 0 RW_0 rfl 104 (by decide) (ht (.fieldLink RX12 356 "CloneVolumesModel" "qWaits" "I") fl_X12_356) (fun _ h9 => h9) mF_104 eX12_qDropsToBracket_16.1 ?_
      refine lv_iconst (v := 1) hx hb eX12_qDropsToBracket_16.2.1 (by decide) ?_
      refine lv_isub hx hb eX12_qDropsToBracket_16.2.2.1 ?_
      refine z_topi (y := i2 ((gI s2 104) - 1)) (i2_sub (gI s2 104) 1) ?_
      obtain ⟨y6, ey6, iy6, h⟩ := rdI_e h
      refine ya_iald (i := ((gI s2 104) - 1)) hx hb hK hP 76 0 RW_76 rfl (by decide) ey6 iy6 eX12_qDropsToBracket_16.2.2.2.1 ?_
      obtain ⟨r8, hc7, h⟩ := bn_e h
      refine ycS (r0 := i2 r8) (As := [.int (i2 y6)]) (rest := []) (n := 1) ⟨hx, hb, hml, hown, ht⟩ (k_x12_qIsBracket l D a y6 _ _ hc7) (zgT ml_X12_696 st_X12_qIsBracket in_X12 co_X12_qIsBracket) rfl rfl (by decide +kernel) ⟨Nat.le_of_ble_eq_true rfl, Nat.le_of_ble_eq_true rfl⟩ hN hK hP hS rfl hl.1 rfl (Nat.le_of_ble_eq_true rfl) eX12_qDropsToBracket_16.2.2.2.2.1 ⟨Nat.le_of_ble_eq_true rfl, Nat.le_of_ble_eq_true rfl⟩ (fun H locs hP hS => ?_)
      obtain ⟨hr9, h⟩ := rg_e h
      refine lv_if_ne (tgt := 35) hx hb eX12_qDropsToBracket_16.2.2.2.2.2.1 (by decide) (fun c10 => ?_) (fun c10 => ?_)
      · have h := if_f (mt (i2_eq (x := r8) (y := 0) hr9 (by decide)).mpr c10) h
        exact J35 s2 _ _ _ ⟨hP, hS, lv_sub hl [] rfl, h⟩
      · have h := if_t ((i2_eq (x := r8) (y := 0) hr9 (by decide)).mp c10) h
        refine lv_aload_n hx hb eX12_qDropsToBracket_16.2.2.2.2.2.2.1 rfl (lv_at hl 0 rfl) ?_
        obtain ⟨s12, hc11, h⟩ := bn_e h
        refine ywVv (As := []) (rest := []) (C := RX12) (n := 0) (ws' := RW D a s12) ⟨hx, hb, hml, hown, ht⟩ (k_x12_qDrops l D a _ _ _ hc11) (zgV ml_X12_699 im_X12_qDrops se_X12_qDrops in_X12 co_X12_qDrops) rfl rfl (by decide +kernel) ⟨Nat.le_of_ble_eq_true rfl, Nat.le_of_ble_eq_true rfl⟩ hN hK hP (hDD _) hS hA 0 RW_0 rfl rfl rfl hl.1 rfl (Nat.le_of_ble_eq_true rfl) eX12_qDropsToBracket_16.2.2.2.2.2.2.2 ⟨Nat.le_of_ble_eq_true rfl, Nat.le_of_ble_eq_true rfl⟩ (fun H locs hP hS => ?_)
        refine lv_goto (tgt := 0) hx hb eX12_qDropsToBracket_32.1 (by decide) ?_
        exact ih0 s12 _ _ _ ⟨hP, hS, lv_sub hl [0] rfl, h⟩
  exact J0 FU s _ _ _ ⟨hP, hS, lv_sub hl [0] rfl, h⟩
set_option maxHeartbeats 4000000 in
set_option maxRecDepth 100000 in
theorem k_x12_qIsOn (l : Launch) (D : va_G) (a : Nat → Nat) (p0 : Int) (s : MS) (o : Int) (h : m_x12_qIsOn p0 s = some o) : yRi l yX12_qIsOn cX12_qIsOn 2 (some .boolean) { frames := 0, cells := 0, slots := 0, locals := 0 } D [.ref (a 200), .int (i2 p0)] (RW D a s) (i2 o) := by
  refine Met.ofW (cc := cX12_qIsOn) (maxL := 2) (ret := (some .boolean)) (by decide) rfl ?_
  intro p e s₀ m args below meth c s₁ B hml hv
  obtain ⟨rfl, ⟨hP, hK⟩, hN⟩ := hv
  have hx := B.exec
  have hb := B.bytes
  have hr := B.returns
  have hts := atoms_spec (ws := wz yX12_qIsOn cX12_qIsOn 2 (some .boolean)) B.pre
  have ht : ∀ w ∈ lw_gd, w.before _ s₀ = true := fun w h => hts w (List.mem_cons_of_mem _ h)
  have hown : s₀.vm.findClass RX12 = some m.cls := findClass_of_methodNamed B.named
  have hlocks := B.notSynchronized
  have hS : va_S (fun _ => False) s₀.heap s₀.heap [] := va_S.rf
  have hl := lv_entry ([.ref (a 200), .int (i2 p0)]) (n := 2) (Nat.le_of_ble_eq_true rfl)
  rw [lg_entry_eq]
  generalize (lg_sl ([.ref (a 200), .int (i2 p0)]) ++ List.replicate (2 - (lg_sl ([.ref (a 200), .int (i2 p0)])).length) Slot.unset).toArray = ls at hl ⊢
  have hl : lv_has ls 2 [(0, .ref (a 200)), (1, .int (i2 p0))] := hl
  unfold m_x12_qIsOn at h
  refine y_head (pcJ := 27) (σ := Int) (fun u H locs ls => va_P D vwCl (RW D a s) H ∧ va_S (fun _ => False) s₀.heap H locs ∧ lv_has ls 2 [] ∧ m_x12_qIsOn_J27 s u = some o) (fun u => [.int (i2 u)]) (fun u H locs ls hI => ?_) (fun J27 => ?_)
  · obtain ⟨hP, hS, hl, h⟩ := hI
    obtain ⟨x1, rfl⟩ : ∃ z, z = u := ⟨u, rfl⟩
    have hP : va_P D vwCl (RW D a s) H := hP
    have hl : lv_has ls 2 [] := hl
    have h : m_x12_qIsOn_J27 s x1 = some o := h
    unfold m_x12_qIsOn_J27 at h
    obtain ⟨hb2, h⟩ := bo_e h
    obtain rfl := Option.some.inj h
    exact W.zret (v := (i2 x1)) hx hb hr (bo_n hb2) (fun t ht hW => ⟨⟨_, (), rfl, rfl, trivial⟩, hS.F ht⟩) hS.2.2 eX12_qIsOn_26.2.1
  refine y_head (pcJ := 26) (σ := Unit) (fun u H locs ls => va_P D vwCl (RW D a s) H ∧ va_S (fun _ => False) s₀.heap H locs ∧ lv_has ls 2 [] ∧ m_x12_qIsOn_J26 s u = some o) (fun u => []) (fun u H locs ls hI => ?_) (fun J26 => ?_)
  · obtain ⟨hP, hS, hl, h⟩ := hI
    skip
    have hP : va_P D vwCl (RW D a s) H := hP
    have hl : lv_has ls 2 [] := hl
    have h : m_x12_qIsOn_J26 s () = some o := h
    unfold m_x12_qIsOn_J26 at h
    refine lv_iconst (v := 0) hx hb eX12_qIsOn_26.1 (by decide) ?_
    exact J27 0 _ _ _ ⟨hP, hS, lv_sub hl [] rfl, h⟩
  refine lv_aload_n hx hb eX12_qIsBracket_16.2.2.1 rfl (lv_at hl 0 rfl) ?_
  refine va_get (D := D) (ci := 12) (v := .int (i2 (gI s 104))) (C := RX12) (T := TX12) (N := 116) hx hb ht inX12 hown hK hP 0 RW_0 rfl 104 (by decide) (ht (.fieldLink RX12 356 "CloneVolumesModel" "qWaits" "I") fl_X12_356) (fun _ h9 => h9) mF_104 eX12_qIsBracket_16.2.2.2.1 ?_
  obtain ⟨hr3, h⟩ := rg_e h
  refine lv_if_le (tgt := 26) hx hb eX12_qIsBracket_16.2.2.2.2.1 (by decide) (fun c4 => ?_) (fun c4 => ?_)
  · have h := if_t ((i2_le (x := (gI s 104)) (y := 0) hr3 (by decide)).mp c4) h
    exact J26 () _ _ _ ⟨hP, hS, lv_sub hl [] rfl, h⟩
  · have h := if_f (mt (i2_le (x := (gI s 104)) (y := 0) hr3 (by decide)).mpr c4) h
    refine lv_aload_n hx hb eX12_qIsBracket_16.2.2.2.2.2.1 rfl (lv_at hl 0 rfl) ?_
    refine va_get (D := D) (ci := 12) (v := .ref (a 103)) (C := RX12) (T := TX12) (N := 116) hx hb ht inX12 hown hK hP 0 RW_0 rfl 103 (by decide) (ht (.fieldLink RX12 246 "CloneVolumesModel" "qWait" "[I") fl_X12_246) (fun _ h9 => h9) mF_103 eX12_qIsBracket_16.2.2.2.2.2.2.1 ?_
    refine lv_aload_n hx hb eX12_qIsBracket_16.2.2.2.2.2.2.2 rfl (lv_at hl 0 rfl) ?_
    refine va_get (D := D) (ci := 12) (v := .int (i2 (gI s 104))) (C := RX12) (T := TX12) (N := 116) hx hb ht inX12 hown hK hP 0 RW_0 rfl 104 (by decide) (ht (.fieldLink RX12 356 "CloneVolumesModel" "qWaits" "I") fl_X12_356) (fun _ h9 => h9) mF_104 eX12_qIsOn_12.1 ?_
    refine lv_iconst (v := 1) hx hb eX12_qIsOn_12.2.1 (by decide) ?_
    refine lv_isub hx hb eX12_qIsOn_12.2.2.1 ?_
    refine z_topi (y := i2 ((gI s 104) - 1)) (i2_sub (gI s 104) 1) ?_
    obtain ⟨y5, ey5, iy5, h⟩ := rdI_e h
    refine ya_iald (i := ((gI s 104) - 1)) hx hb hK hP 76 0 RW_76 rfl (by decide) ey5 iy5 eX12_qIsOn_12.2.2.2.1 ?_
    refine lv_iload_n hx hb eX12_qIsOn_12.2.2.2.2.1 rfl (lv_at hl 1 rfl) ?_
    obtain ⟨hr6, h⟩ := rg_e h
    obtain ⟨hr7, h⟩ := rg_e h
    refine lv_icmp_ne (tgt := 26) hx hb eX12_qIsOn_12.2.2.2.2.2.1 (by decide) (fun c8 => ?_) (fun c8 => ?_)
    · have h := if_f (mt (i2_eq (x := y5) (y := p0) hr6 hr7).mpr c8) h
      exact J26 () _ _ _ ⟨hP, hS, lv_sub hl [] rfl, h⟩
    · have h := if_t ((i2_eq (x := y5) (y := p0) hr6 hr7).mp c8) h
      refine lv_iconst (v := 1) hx hb eX12_qIsOn_12.2.2.2.2.2.2.1 (by decide) ?_
      refine lv_goto (tgt := 27) hx hb eX12_qIsOn_12.2.2.2.2.2.2.2 (by decide) ?_
      exact J27 1 _ _ _ ⟨hP, hS, lv_sub hl [] rfl, h⟩
set_option maxHeartbeats 4000000 in
set_option maxRecDepth 100000 in
theorem k_x12_qBracket (l : Launch) (D : va_G) (a : Nat → Nat) (s : MS) (o : Int) (h : m_x12_qBracket s = some o) : yRi l yX12_qBracket cX12_qBracket 2 (some .int) { frames := 1, cells := 0, slots := 0, locals := 60 } D [.ref (a 200)] (RW D a s) (i2 o) := by
  refine Met.ofW (cc := cX12_qBracket) (maxL := 2) (ret := (some .int)) (by decide) rfl ?_
  intro p e s₀ m args below meth c s₁ B hml hv
  obtain ⟨rfl, ⟨hP, hK⟩, hN⟩ := hv
  have hx := B.exec
  have hb := B.bytes
  have hr := B.returns
  have hts := atoms_spec (ws := wz yX12_qBracket cX12_qBracket 2 (some .int)) B.pre
  have ht : ∀ w ∈ lw_gd, w.before _ s₀ = true := fun w h => hts w (List.mem_cons_of_mem _ h)
  have hown : s₀.vm.findClass RX12 = some m.cls := findClass_of_methodNamed B.named
  have hlocks := B.notSynchronized
  have hS : va_S (fun _ => False) s₀.heap s₀.heap [] := va_S.rf
  have hl := lv_entry ([.ref (a 200)]) (n := 2) (Nat.le_of_ble_eq_true rfl)
  rw [lg_entry_eq]
  generalize (lg_sl ([.ref (a 200)]) ++ List.replicate (2 - (lg_sl ([.ref (a 200)])).length) Slot.unset).toArray = ls at hl ⊢
  have hl : lv_has ls 2 [(0, .ref (a 200))] := hl
  unfold m_x12_qBracket at h
  refine y_head (pcJ := 51) (σ := Int) (fun u H locs ls => va_P D vwCl (RW D a s) H ∧ va_S (fun _ => False) s₀.heap H locs ∧ lv_has ls 2 [] ∧ m_x12_qBracket_J51 s u = some o) (fun u => [.int (i2 u)]) (fun u H locs ls hI => ?_) (fun J51 => ?_)
  · obtain ⟨hP, hS, hl, h⟩ := hI
    obtain ⟨x1, rfl⟩ : ∃ z, z = u := ⟨u, rfl⟩
    have hP : va_P D vwCl (RW D a s) H := hP
    have hl : lv_has ls 2 [] := hl
    have h : m_x12_qBracket_J51 s x1 = some o := h
    unfold m_x12_qBracket_J51 at h
    obtain rfl := Option.some.inj h
    exact W.iret (v := (i2 x1)) hx hb hr (fun t ht hW => ⟨⟨_, (), rfl, rfl, trivial⟩, hS.F ht⟩) hS.2.2 eX12_qBracket_38.2.2.2.2.2.2.2
  refine y_head (pcJ := 33) (σ := Int) (fun u H locs ls => va_P D vwCl (RW D a s) H ∧ va_S (fun _ => False) s₀.heap H locs ∧ lv_has ls 2 [(0, .ref (a 200)), (1, .int (i2 u))] ∧ m_x12_qBracket_J33 s u = some o) (fun u => []) (fun u H locs ls hI => ?_) (fun J33 => ?_)
  · obtain ⟨hP, hS, hl, h⟩ := hI
    obtain ⟨x2, rfl⟩ : ∃ z, z = u := ⟨u, rfl⟩
    have hP : va_P D vwCl (RW D a s) H := hP
    have hl : lv_has ls 2 [(0, .ref (a 200)), (1, .int (i2 x2))] := hl
    have h : m_x12_qBracket_J33 s x2 = some o := h
    unfold m_x12_qBracket_J33 at h
    refine lv_iload_n hx hb eX12_qBracket_20.2.2.2.2.2.1 rfl (lv_at hl 1 rfl) ?_
    refine lv_aload_n hx hb eX12_qBracket_20.2.2.2.2.2.2.1 rfl (lv_at hl 0 rfl) ?_
    refine va_get (D := D) (ci := 12) (v := .int (i2 (gI s 106))) (C := RX12) (T := TX12) (N := 116) hx hb ht inX12 hown hK hP 0 RW_0 rfl 106 (by decide) (ht (.fieldLink RX12 362 "CloneVolumesModel" "qBase" "I") fl_X12_362) (fun _ h9 => h9) mF_106 eX12_qBracket_20.2.2.2.2.2.2.2 ?_
    obtain ⟨hr3, h⟩ := rg_e h
    obtain ⟨hr4, h⟩ := rg_e h
    refine lv_icmp_lt (tgt := 50) hx hb eX12_qBracket_38.1 (by decide) (fun c5 => ?_) (fun c5 => ?_)
    · have h := if_t ((i2_lt (x := x2) (y := (gI s 106)) hr3 hr4).mp c5) h
      refine lv_iconst (v := (-1)) hx hb eX12_qBracket_38.2.2.2.2.2.2.1 (by decide) ?_
      exact J51 (-1) _ _ _ ⟨hP, hS, lv_sub hl [] rfl, h⟩
    · have h := if_f (mt (i2_lt (x := x2) (y := (gI s 106)) hr3 hr4).mpr c5) h
      refine lv_aload_n hx hb eX12_qBracket_38.2.1 rfl (lv_at hl 0 rfl) ?_
      refine va_get (D := D) (ci := 12) (v := .ref (a 103)) (C := RX12) (T := TX12) (N := 116) hx hb ht inX12 hown hK hP 0 RW_0 rfl 103 (by decide) (ht (.fieldLink RX12 246 "CloneVolumesModel" "qWait" "[I") fl_X12_246) (fun _ h9 => h9) mF_103 eX12_qBracket_38.2.2.1 ?_
      refine lv_iload_n hx hb eX12_qBracket_38.2.2.2.1 rfl (lv_at hl 1 rfl) ?_
      obtain ⟨y6, ey6, iy6, h⟩ := rdI_e h
      refine ya_iald (i := x2) hx hb hK hP 76 0 RW_76 rfl (by decide) ey6 iy6 eX12_qBracket_38.2.2.2.2.1 ?_
      refine lv_goto (tgt := 51) hx hb eX12_qBracket_38.2.2.2.2.2.1 (by decide) ?_
      exact J51 y6 _ _ _ ⟨hP, hS, lv_sub hl [] rfl, h⟩
  refine y_loop (pcJ := 7) (σ := Int) (fun n u H locs ls => va_P D vwCl (RW D a s) H ∧ va_S (fun _ => False) s₀.heap H locs ∧ lv_has ls 2 [(0, .ref (a 200)), (1, .int (i2 u))] ∧ m_x12_qBracket_L7 s n u = some o) (fun u => []) (fun u H locs ls hI => by obtain ⟨_, _, _, h⟩ := hI; cases h) (fun n7 ih7 u H locs ls hI => ?_) (fun J7 => ?_)
  · obtain ⟨hP, hS, hl, h⟩ := hI
    obtain ⟨x7, rfl⟩ : ∃ z, z = u := ⟨u, rfl⟩
    have hP : va_P D vwCl (RW D a s) H := hP
    have hl : lv_has ls 2 [(0, .ref (a 200)), (1, .int (i2 x7))] := hl
    have h : m_x12_qBracket_b7 s (m_x12_qBracket_L7 s n7) x7 = some o := h
    unfold m_x12_qBracket_b7 at h
    refine lv_iload_n hx hb eX12_qBracket_6.2.1 rfl (lv_at hl 1 rfl) ?_
    refine lv_aload_n hx hb eX12_qBracket_6.2.2.1 rfl (lv_at hl 0 rfl) ?_
    refine va_get (D := D) (ci := 12) (v := .int (i2 (gI s 106))) (C := RX12) (T := TX12) (N := 116) hx hb ht inX12 hown hK hP 0 RW_0 rfl 106 (by decide) (ht (.fieldLink RX12 362 "CloneVolumesModel" "qBase" "I") fl_X12_362) (fun _ h9 => h9) mF_106 eX12_qBracket_6.2.2.2.1 ?_
    obtain ⟨hr8, h⟩ := rg_e h
    obtain ⟨hr9, h⟩ := rg_e h
    refine lv_icmp_lt (tgt := 33) hx hb eX12_qBracket_6.2.2.2.2.1 (by decide) (fun c10 => ?_) (fun c10 => ?_)
    · have h := if_t ((i2_lt (x := x7) (y := (gI s 106)) hr8 hr9).mp c10) h
      exact J33 x7 _ _ _ ⟨hP, hS, lv_sub hl [0, 1] rfl, h⟩
    · have h := if_f (mt (i2_lt (x := x7) (y := (gI s 106)) hr8 hr9).mpr c10) h
      refine lv_aload_n hx hb eX12_qBracket_6.2.2.2.2.2.1 rfl (lv_at hl 0 rfl) ?_
      refine va_get (D := D) (ci := 12) (v := .ref (a 103)) (C := RX12) (T := TX12) (N := 116) hx hb ht inX12 hown hK hP 0 RW_0 rfl 103 (by decide) (ht (.fieldLink RX12 246 "CloneVolumesModel" "qWait" "[I") fl_X12_246) (fun _ h9 => h9) mF_103 eX12_qBracket_6.2.2.2.2.2.2.1 ?_
      refine lv_iload_n hx hb eX12_qBracket_6.2.2.2.2.2.2.2 rfl (lv_at hl 1 rfl) ?_
      obtain ⟨y11, ey11, iy11, h⟩ := rdI_e h
      refine ya_iald (i := x7) hx hb hK hP 76 0 RW_76 rfl (by decide) ey11 iy11 eX12_qBracket_20.1 ?_
      obtain ⟨r13, hc12, h⟩ := bn_e h
      refine ycS (r0 := i2 r13) (As := [.int (i2 y11)]) (rest := []) (n := 1) ⟨hx, hb, hml, hown, ht⟩ (k_x12_qIsBracket l D a y11 _ _ hc12) (zgT ml_X12_696 st_X12_qIsBracket in_X12 co_X12_qIsBracket) rfl rfl (by decide +kernel) ⟨Nat.le_of_ble_eq_true rfl, Nat.le_of_ble_eq_true rfl⟩ hN hK hP hS rfl hl.1 rfl (Nat.le_of_ble_eq_true rfl) eX12_qBracket_20.2.1 ⟨Nat.le_of_ble_eq_true rfl, Nat.le_of_ble_eq_true rfl⟩ (fun H locs hP hS => ?_)
      obtain ⟨hr14, h⟩ := rg_e h
      refine lv_if_ne (tgt := 33) hx hb eX12_qBracket_20.2.2.1 (by decide) (fun c15 => ?_) (fun c15 => ?_)
      · have h := if_f (mt (i2_eq (x := r13) (y := 0) hr14 (by decide)).mpr c15) h
        exact J33 x7 _ _ _ ⟨hP, hS, lv_sub hl [0, 1] rfl, h⟩
      · have h := if_t ((i2_eq (x := r13) (y := 0) hr14 (by decide)).mp c15) h
        refine lv_iinc (v := i2 (x7 + (-1))) (lv' := [(1, .int (i2 (x7 + (-1)))), (0, .ref (a 200))]) hx hb eX12_qBracket_20.2.2.2.1 hl (k := 1) rfl (i2_add x7 (-1)) (by decide) rfl (fun ls hl => ?_)
        refine lv_goto (tgt := 7) hx hb eX12_qBracket_20.2.2.2.2.1 (by decide) ?_
        exact ih7 (x7 + (-1)) _ _ _ ⟨hP, hS, lv_sub hl [1, 0] rfl, h⟩
  refine lv_aload_n hx hb eX12_qAsksWord_152.2.2.2.2.1 rfl (lv_at hl 0 rfl) ?_
  refine va_get (D := D) (ci := 12) (v := .int (i2 (gI s 104))) (C := RX12) (T := TX12) (N := 116) hx hb ht inX12 hown hK hP 0 RW_0 rfl 104 (by decide) (ht (.fieldLink RX12 356 "CloneVolumesModel" "qWaits" "I") fl_X12_356) (fun _ h9 => h9) mF_104 eX12_qAsksWord_152.2.2.2.2.2.1 ?_
  refine lv_iconst (v := 1) hx hb eX12_qAsksWord_152.2.2.2.2.2.2.1 (by decide) ?_
  refine lv_isub hx hb eX12_qAsksWord_152.2.2.2.2.2.2.2 ?_
  refine z_topi (y := i2 ((gI s 104) - 1)) (i2_sub (gI s 104) 1) ?_
  refine lv_istore_n (lv' := [(1, .int (i2 ((gI s 104) - 1))), (0, .ref (a 200))]) hx hb eX12_qBracket_6.1 rfl hl (by decide) rfl (fun ls hl => ?_)
  exact J7 FU ((gI s 104) - 1) _ _ _ ⟨hP, hS, lv_sub hl [1, 0] rfl, h⟩
set_option maxHeartbeats 4000000 in
set_option maxRecDepth 100000 in
theorem k_x12_qGoesOn (l : Launch) (D : va_G) (a : Nat → Nat) (sz : Nat) (s : MS) (o : (Int × MS)) (h : m_x12_qGoesOn s = some o) : yWi l yX12_qGoesOn cX12_qGoesOn 2 (some .boolean) { frames := 3, cells := 0, slots := 0, locals := 180 } D sz [.ref (a 200)] (RW D a s) (RW D a o.2) (i2 o.1) := by
  refine Met.ofW (cc := cX12_qGoesOn) (maxL := 2) (ret := (some .boolean)) (by decide) rfl ?_
  intro p e s₀ m args below meth c s₁ B hml hv
  obtain ⟨rfl, ⟨hsz, hP, hK, hD0⟩, hN⟩ := hv
  have hx := B.exec
  have hb := B.bytes
  have hr := B.returns
  have hts := atoms_spec (ws := wz yX12_qGoesOn cX12_qGoesOn 2 (some .boolean)) B.pre
  have ht : ∀ w ∈ lw_gd, w.before _ s₀ = true := fun w h => hts w (List.mem_cons_of_mem _ h)
  have hown : s₀.vm.findClass RX12 = some m.cls := findClass_of_methodNamed B.named
  have hlocks := B.notSynchronized
  subst hsz
  have hD := hD0.self (sz := s₀.heap.size)
  generalize hAe : va_A (RW D a s) s₀.heap.size = A at hD ⊢
  have hA : ∀ q : Nat, s₀.heap.size ≤ q → A q := fun q h => by rw [← hAe]; exact Or.inr h
  have hS : va_S A s₀.heap s₀.heap [] := va_S.rf
  have hDD : ∀ t : MS, va_D A (RW D a t) := fun t => RW_D t hD
  have hl := lv_entry ([.ref (a 200)]) (n := 2) (Nat.le_of_ble_eq_true rfl)
  rw [lg_entry_eq]
  generalize (lg_sl ([.ref (a 200)]) ++ List.replicate (2 - (lg_sl ([.ref (a 200)])).length) Slot.unset).toArray = ls at hl ⊢
  have hl : lv_has ls 2 [(0, .ref (a 200))] := hl
  unfold m_x12_qGoesOn at h
  refine y_head (pcJ := 386) (σ := MS) (fun u H locs ls => va_P D vwCl (RW D a u) H ∧ va_S A s₀.heap H locs ∧ lv_has ls 2 [] ∧ m_x12_qGoesOn_J386 u = some o) (fun u => []) (fun u H locs ls hI => ?_) (fun J386 => ?_)
  · obtain ⟨hP, hS, hl, h⟩ := hI
    obtain ⟨s1, rfl⟩ : ∃ z, z = u := ⟨u, rfl⟩
    have hP : va_P D vwCl (RW D a s1) H := hP
    have hl : lv_has ls 2 [] := hl
    have h : m_x12_qGoesOn_J386 s1 = some o := h
    unfold m_x12_qGoesOn_J386 at h
    refine lv_iconst (v := 0) hx hb eX12_qGoesOn_374.2.2.2.2.2.2.1 (by decide) ?_
    obtain rfl := Option.some.inj h
    exact W.zret (v := 0) hx hb hr (by decide) (fun t ht hW => ⟨⟨_, (), rfl, rfl, by rw [ht]; exact hP, va_K.moved hW.alike hK, hDD _⟩, hS.F ht⟩) hS.2.2 eX12_qGoesOn_374.2.2.2.2.2.2.2
  refine y_head (pcJ := 326) (σ := MS) (fun u H locs ls => va_P D vwCl (RW D a u) H ∧ va_S A s₀.heap H locs ∧ lv_has ls 2 [(0, .ref (a 200))] ∧ m_x12_qGoesOn_J326 u = some o) (fun u => []) (fun u H locs ls hI => ?_) (fun J326 => ?_)
  · obtain ⟨hP, hS, hl, h⟩ := hI
    obtain ⟨s2, rfl⟩ : ∃ z, z = u := ⟨u, rfl⟩
    have hP : va_P D vwCl (RW D a s2) H := hP
    have hl : lv_has ls 2 [(0, .ref (a 200))] := hl
    have h : m_x12_qGoesOn_J326 s2 = some o := h
    unfold m_x12_qGoesOn_J326 at h
    refine lv_aload_n hx hb eX12_qGoesOn_318.2.2.2.1 rfl (lv_at hl 0 rfl) ?_
    refine lv_bipush (v := 44) hx hb eX12_qGoesOn_318.2.2.2.2.1 (by decide) ?_
    obtain ⟨s4, hc3, h⟩ := bn_e h
    refine ywVv (As := [.int 44]) (rest := []) (C := RX12) (n := 1) (ws' := RW D a s4) ⟨hx, hb, hml, hown, ht⟩ (k_x12_asksSign l D a 44 _ _ _ hc3) (zgV ml_X12_335 im_X12_asksSign se_X12_asksSign in_X12 co_X12_asksSign) rfl rfl (by decide +kernel) ⟨Nat.le_of_ble_eq_true rfl, Nat.le_of_ble_eq_true rfl⟩ hN hK hP (hDD _) hS hA 0 RW_0 rfl rfl rfl hl.1 rfl (Nat.le_of_ble_eq_true rfl) eX12_qGoesOn_318.2.2.2.2.2.1 ⟨Nat.le_of_ble_eq_true rfl, Nat.le_of_ble_eq_true rfl⟩ (fun H locs hP hS => ?_)
    refine lv_aload_n hx hb eX12_qGoesOn_318.2.2.2.2.2.2.1 rfl (lv_at hl 0 rfl) ?_
    refine va_get (D := D) (ci := 12) (v := .int (i2 (gI s4 5))) (C := RX12) (T := TX12) (N := 116) hx hb ht inX12 hown hK hP 0 RW_0 rfl 5 (by decide) (ht (.fieldLink RX12 266 "CloneVolumesModel" "bad" "I") fl_X12_266) (fun _ h9 => h9) mF_5 eX12_qGoesOn_318.2.2.2.2.2.2.2 ?_
    obtain ⟨hr5, h⟩ := rg_e h
    refine lv_if_eq (tgt := 341) hx hb eX12_qGoesOn_336.1 (by decide) (fun c6 => ?_) (fun c6 => ?_)
    · have h := if_t ((i2_eq (x := (gI s4 5)) (y := 0) hr5 (by decide)).mp c6) h
      refine lv_aload_n hx hb eX12_qGoesOn_336.2.2.2.1 rfl (lv_at hl 0 rfl) ?_
      obtain ⟨s8, hc7, h⟩ := bn_e h
      refine ywVv (As := []) (rest := []) (C := RX12) (n := 0) (ws' := RW D a s8) ⟨hx, hb, hml, hown, ht⟩ (k_x12_qDropsToBracket l D a _ _ _ hc7) (zgV ml_X12_723 im_X12_qDropsToBracket se_X12_qDropsToBracket in_X12 co_X12_qDropsToBracket) rfl rfl (by decide +kernel) ⟨Nat.le_of_ble_eq_true rfl, Nat.le_of_ble_eq_true rfl⟩ hN hK hP (hDD _) hS hA 0 RW_0 rfl rfl rfl hl.1 rfl (Nat.le_of_ble_eq_true rfl) eX12_qGoesOn_336.2.2.2.2.1 ⟨Nat.le_of_ble_eq_true rfl, Nat.le_of_ble_eq_true rfl⟩ (fun H locs hP hS => ?_)
      refine lv_aload_n hx hb eX12_qGoesOn_336.2.2.2.2.2.1 rfl (lv_at hl 0 rfl) ?_
      refine va_get (D := D) (ci := 12) (v := .ref (a 103)) (C := RX12) (T := TX12) (N := 116) hx hb ht inX12 hown hK hP 0 RW_0 rfl 103 (by decide) (ht (.fieldLink RX12 246 "CloneVolumesModel" "qWait" "[I") fl_X12_246) (fun _ h9 => h9) mF_103 eX12_qGoesOn_336.2.2.2.2.2.2.1 ?_
      refine lv_aload_n hx hb eX12_qGoesOn_336.2.2.2.2.2.2.2 rfl (lv_at hl 0 rfl) ?_
      refine va_get (D := D) (ci := 12) (v := .int (i2 (gI s8 104))) (C := RX12) (T := TX12) (N := 116) hx hb ht inX12 hown hK hP 0 RW_0 rfl 104 (by decide) (ht (.fieldLink RX12 356 "CloneVolumesModel" "qWaits" "I") fl_X12_356) (fun _ h9 => h9) mF_104 eX12_qGoesOn_350.1 ?_
      refine lv_iconst (v := 1) hx hb eX12_qGoesOn_350.2.1 (by decide) ?_
      refine lv_isub hx hb eX12_qGoesOn_350.2.2.1 ?_
      refine z_topi (y := i2 ((gI s8 104) - 1)) (i2_sub (gI s8 104) 1) ?_
      refine lv_dup2_11 hx hb eX12_qGoesOn_350.2.2.2.1 rfl rfl ?_
      obtain ⟨y9, ey9, iy9, h⟩ := rdI_e h
      refine ya_iald (i := ((gI s8 104) - 1)) hx hb hK hP 76 0 RW_76 rfl (by decide) ey9 iy9 eX12_qGoesOn_350.2.2.2.2.1 ?_
      refine lv_iconst (v := 2) hx hb eX12_qGoesOn_350.2.2.2.2.2.1 (by decide) ?_
      refine lv_iadd hx hb eX12_qGoesOn_350.2.2.2.2.2.2.1 ?_
      refine z_topi (y := i2 (y9 + 2)) (i2_add y9 2) ?_
      obtain ⟨hi10, h⟩ := inb_e h
      refine ya_iast (i := ((gI s8 104) - 1)) (x := (y9 + 2)) hx hb hK hP (hDD _) hS 76 0 RW_76 rfl (by decide) hi10 eX12_qGoesOn_350.2.2.2.2.2.2.2 (RW_w76 _) (fun H locs hP hS => ?_)
      obtain ⟨s11, hs11, h⟩ := st_e h
      rw [hs11] at hP
      refine lv_iconst (v := 1) hx hb eX12_qGoesOn_360.1 (by decide) ?_
      obtain rfl := Option.some.inj h
      exact W.zret (v := 1) hx hb hr (by decide) (fun t ht hW => ⟨⟨_, (), rfl, rfl, by rw [ht]; exact hP, va_K.moved hW.alike hK, hDD _⟩, hS.F ht⟩) hS.2.2 eX12_qGoesOn_360.2.1
    · have h := if_f (mt (i2_eq (x := (gI s4 5)) (y := 0) hr5 (by decide)).mpr c6) h
      refine lv_iconst (v := 0) hx hb eX12_qGoesOn_336.2.1 (by decide) ?_
      obtain rfl := Option.some.inj h
      exact W.zret (v := 0) hx hb hr (by decide) (fun t ht hW => ⟨⟨_, (), rfl, rfl, by rw [ht]; exact hP, va_K.moved hW.alike hK, hDD _⟩, hS.F ht⟩) hS.2.2 eX12_qGoesOn_336.2.2.1
  refine y_loop (pcJ := 247) (σ := Int × MS) (fun n u H locs ls => va_P D vwCl (RW D a u.2) H ∧ va_S A s₀.heap H locs ∧ lv_has ls 2 [(0, .ref (a 200)), (1, .int (i2 u.1))] ∧ m_x12_qGoesOn_L247 n u.1 u.2 = some o) (fun u => []) (fun u H locs ls hI => by obtain ⟨_, _, _, h⟩ := hI; cases h) (fun n247 ih247 u H locs ls hI => ?_) (fun J247 => ?_)
  · obtain ⟨hP, hS, hl, h⟩ := hI
    obtain ⟨x12, s13⟩ := u
    have hP : va_P D vwCl (RW D a s13) H := hP
    have hl : lv_has ls 2 [(0, .ref (a 200)), (1, .int (i2 x12))] := hl
    have h : m_x12_qGoesOn_b247 (m_x12_qGoesOn_L247 n247) x12 s13 = some o := h
    unfold m_x12_qGoesOn_b247 at h
    refine y_head (pcJ := 279) (σ := Int × MS) (fun u H locs ls => va_P D vwCl (RW D a u.2) H ∧ va_S A s₀.heap H locs ∧ lv_has ls 2 [(0, .ref (a 200)), (1, .int (i2 u.1))] ∧ m_x12_qGoesOn_J279 (m_x12_qGoesOn_L247 n247) u.1 u.2 = some o) (fun u => []) (fun u H locs ls hI => ?_) (fun J279 => ?_)
    · obtain ⟨hP, hS, hl, h⟩ := hI
      obtain ⟨x14, s15⟩ := u
      have hP : va_P D vwCl (RW D a s15) H := hP
      have hl : lv_has ls 2 [(0, .ref (a 200)), (1, .int (i2 x14))] := hl
      have h : m_x12_qGoesOn_J279 (m_x12_qGoesOn_L247 n247) x14 s15 = some o := h
      unfold m_x12_qGoesOn_J279 at h
      refine lv_aload_n hx hb eX12_qGoesOn_273.2.2.1 rfl (lv_at hl 0 rfl) ?_
      obtain ⟨s17, hc16, h⟩ := bn_e h
      refine ywVv (As := []) (rest := []) (C := RX12) (n := 0) (ws' := RW D a s17) ⟨hx, hb, hml, hown, ht⟩ (k_x12_qDrops l D a _ _ _ hc16) (zgV ml_X12_699 im_X12_qDrops se_X12_qDrops in_X12 co_X12_qDrops) rfl rfl (by decide +kernel) ⟨Nat.le_of_ble_eq_true rfl, Nat.le_of_ble_eq_true rfl⟩ hN hK hP (hDD _) hS hA 0 RW_0 rfl rfl rfl hl.1 rfl (Nat.le_of_ble_eq_true rfl) eX12_qGoesOn_273.2.2.2.1 ⟨Nat.le_of_ble_eq_true rfl, Nat.le_of_ble_eq_true rfl⟩ (fun H locs hP hS => ?_)
      refine lv_goto (tgt := 247) hx hb eX12_qGoesOn_273.2.2.2.2.1 (by decide) ?_
      exact ih247 (x14, s17) _ _ _ ⟨hP, hS, lv_sub hl [0, 1] rfl, h⟩
    refine lv_aload_n hx hb eX12_qGoesOn_245.2.2.1 rfl (lv_at hl 0 rfl) ?_
    refine lv_iconst (v := 3) hx hb eX12_qGoesOn_245.2.2.2.1 (by decide) ?_
    obtain ⟨r19, hc18, h⟩ := bn_e h
    refine ycV (r0 := i2 r19) (As := [.int 3]) (rest := []) (C := RX12) (n := 1) ⟨hx, hb, hml, hown, ht⟩ (k_x12_qIsOn l D a 3 _ _ hc18) (zgV ml_X12_726 im_X12_qIsOn se_X12_qIsOn in_X12 co_X12_qIsOn) rfl rfl (by decide +kernel) ⟨Nat.le_of_ble_eq_true rfl, Nat.le_of_ble_eq_true rfl⟩ hN hK hP hS 0 RW_0 rfl rfl rfl hl.1 rfl (Nat.le_of_ble_eq_true rfl) eX12_qGoesOn_245.2.2.2.2.1 ⟨Nat.le_of_ble_eq_true rfl, Nat.le_of_ble_eq_true rfl⟩ (fun H locs hP hS => ?_)
    obtain ⟨hr20, h⟩ := rg_e h
    refine lv_if_ne (tgt := 279) hx hb eX12_qGoesOn_245.2.2.2.2.2.1 (by decide) (fun c21 => ?_) (fun c21 => ?_)
    · have h := if_f (mt (i2_eq (x := r19) (y := 0) hr20 (by decide)).mpr c21) h
      exact J279 (x12, s13) _ _ _ ⟨hP, hS, lv_sub hl [0, 1] rfl, h⟩
    · have h := if_t ((i2_eq (x := r19) (y := 0) hr20 (by decide)).mp c21) h
      refine lv_aload_n hx hb eX12_qGoesOn_245.2.2.2.2.2.2.1 rfl (lv_at hl 0 rfl) ?_
      refine lv_iconst (v := 4) hx hb eX12_qGoesOn_245.2.2.2.2.2.2.2 (by decide) ?_
      obtain ⟨r23, hc22, h⟩ := bn_e h
      refine ycV (r0 := i2 r23) (As := [.int 4]) (rest := []) (C := RX12) (n := 1) ⟨hx, hb, hml, hown, ht⟩ (k_x12_qIsOn l D a 4 _ _ hc22) (zgV ml_X12_726 im_X12_qIsOn se_X12_qIsOn in_X12 co_X12_qIsOn) rfl rfl (by decide +kernel) ⟨Nat.le_of_ble_eq_true rfl, Nat.le_of_ble_eq_true rfl⟩ hN hK hP hS 0 RW_0 rfl rfl rfl hl.1 rfl (Nat.le_of_ble_eq_true rfl) eX12_qGoesOn_257.1 ⟨Nat.le_of_ble_eq_true rfl, Nat.le_of_ble_eq_true rfl⟩ (fun H locs hP hS => ?_)
      obtain ⟨hr24, h⟩ := rg_e h
      refine lv_if_ne (tgt := 279) hx hb eX12_qGoesOn_257.2.1 (by decide) (fun c25 => ?_) (fun c25 => ?_)
      · have h := if_f (mt (i2_eq (x := r23) (y := 0) hr24 (by decide)).mpr c25) h
        exact J279 (x12, s13) _ _ _ ⟨hP, hS, lv_sub hl [0, 1] rfl, h⟩
      · have h := if_t ((i2_eq (x := r23) (y := 0) hr24 (by decide)).mp c25) h
        refine lv_aload_n hx hb eX12_qGoesOn_257.2.2.1 rfl (lv_at hl 0 rfl) ?_
        refine lv_iconst (v := 1) hx hb eX12_qGoesOn_257.2.2.2.1 (by decide) ?_
        obtain ⟨r27, hc26, h⟩ := bn_e h
        refine ycV (r0 := i2 r27) (As := [.int 1]) (rest := []) (C := RX12) (n := 1) ⟨hx, hb, hml, hown, ht⟩ (k_x12_qIsOn l D a 1 _ _ hc26) (zgV ml_X12_726 im_X12_qIsOn se_X12_qIsOn in_X12 co_X12_qIsOn) rfl rfl (by decide +kernel) ⟨Nat.le_of_ble_eq_true rfl, Nat.le_of_ble_eq_true rfl⟩ hN hK hP hS 0 RW_0 rfl rfl rfl hl.1 rfl (Nat.le_of_ble_eq_true rfl) eX12_qGoesOn_257.2.2.2.2.1 ⟨Nat.le_of_ble_eq_true rfl, Nat.le_of_ble_eq_true rfl⟩ (fun H locs hP hS => ?_)
        obtain ⟨hr28, h⟩ := rg_e h
        refine lv_if_ne (tgt := 279) hx hb eX12_qGoesOn_257.2.2.2.2.2.1 (by decide) (fun c29 => ?_) (fun c29 => ?_)
        · have h := if_f (mt (i2_eq (x := r27) (y := 0) hr28 (by decide)).mpr c29) h
          exact J279 (x12, s13) _ _ _ ⟨hP, hS, lv_sub hl [0, 1] rfl, h⟩
        · have h := if_t ((i2_eq (x := r27) (y := 0) hr28 (by decide)).mp c29) h
          refine lv_aload_n hx hb eX12_qGoesOn_257.2.2.2.2.2.2.1 rfl (lv_at hl 0 rfl) ?_
          refine lv_iconst (v := 2) hx hb eX12_qGoesOn_257.2.2.2.2.2.2.2 (by decide) ?_
          obtain ⟨r31, hc30, h⟩ := bn_e h
          refine ycV (r0 := i2 r31) (As := [.int 2]) (rest := []) (C := RX12) (n := 1) ⟨hx, hb, hml, hown, ht⟩ (k_x12_qIsOn l D a 2 _ _ hc30) (zgV ml_X12_726 im_X12_qIsOn se_X12_qIsOn in_X12 co_X12_qIsOn) rfl rfl (by decide +kernel) ⟨Nat.le_of_ble_eq_true rfl, Nat.le_of_ble_eq_true rfl⟩ hN hK hP hS 0 RW_0 rfl rfl rfl hl.1 rfl (Nat.le_of_ble_eq_true rfl) eX12_qGoesOn_273.1 ⟨Nat.le_of_ble_eq_true rfl, Nat.le_of_ble_eq_true rfl⟩ (fun H locs hP hS => ?_)
          obtain ⟨hr32, h⟩ := rg_e h
          refine lv_if_eq (tgt := 286) hx hb eX12_qGoesOn_273.2.1 (by decide) (fun c33 => ?_) (fun c33 => ?_)
          · have h := if_t ((i2_eq (x := r31) (y := 0) hr32 (by decide)).mp c33) h
            refine lv_aload_n hx hb eX12_qGoesOn_273.2.2.2.2.2.1 rfl (lv_at hl 0 rfl) ?_
            refine va_get (D := D) (ci := 12) (v := .ref (a 103)) (C := RX12) (T := TX12) (N := 116) hx hb ht inX12 hown hK hP 0 RW_0 rfl 103 (by decide) (ht (.fieldLink RX12 246 "CloneVolumesModel" "qWait" "[I") fl_X12_246) (fun _ h9 => h9) mF_103 eX12_qGoesOn_273.2.2.2.2.2.2.1 ?_
            refine lv_aload_n hx hb eX12_qGoesOn_273.2.2.2.2.2.2.2 rfl (lv_at hl 0 rfl) ?_
            refine va_get (D := D) (ci := 12) (v := .int (i2 (gI s13 104))) (C := RX12) (T := TX12) (N := 116) hx hb ht inX12 hown hK hP 0 RW_0 rfl 104 (by decide) (ht (.fieldLink RX12 356 "CloneVolumesModel" "qWaits" "I") fl_X12_356) (fun _ h9 => h9) mF_104 eX12_qGoesOn_291.1 ?_
            refine lv_iload_n hx hb eX12_qGoesOn_291.2.1 rfl (lv_at hl 1 rfl) ?_
            obtain ⟨hi34, h⟩ := inb_e h
            refine ya_iast (i := (gI s13 104)) (x := x12) hx hb hK hP (hDD _) hS 76 0 RW_76 rfl (by decide) hi34 eX12_qGoesOn_291.2.2.1 (RW_w76 _) (fun H locs hP hS => ?_)
            obtain ⟨s35, hs35, h⟩ := st_e h
            rw [hs35] at hP
            refine lv_aload_n hx hb eX12_qGoesOn_291.2.2.2.1 rfl (lv_at hl 0 rfl) ?_
            refine lv_dup hx hb eX12_qGoesOn_291.2.2.2.2.1 rfl ?_
            refine va_get (D := D) (ci := 12) (v := .int (i2 (gI s35 104))) (C := RX12) (T := TX12) (N := 116) hx hb ht inX12 hown hK hP 0 RW_0 rfl 104 (by decide) (ht (.fieldLink RX12 356 "CloneVolumesModel" "qWaits" "I") fl_X12_356) (fun _ h9 => h9) mF_104 eX12_qGoesOn_291.2.2.2.2.2.1 ?_
            refine lv_iconst (v := 1) hx hb eX12_qGoesOn_291.2.2.2.2.2.2.1 (by decide) ?_
            refine lv_iadd hx hb eX12_qGoesOn_291.2.2.2.2.2.2.2 ?_
            refine z_topi (y := i2 ((gI s35 104) + 1)) (i2_add (gI s35 104) 1) ?_
            refine ya_put (D := D) (ci := 12) (v := .int (i2 ((gI s35 104) + 1))) (ty := .int) (C := RX12) (T := TX12) (N := 116) hx hb ht inX12 tyX12 tyX12_ok nmX12 hown hK hP (hDD _) hS 0 RW_0 rfl 104 (by decide) (ht (.fieldLink RX12 356 "CloneVolumesModel" "qWaits" "I") fl_X12_356) (fun _ h9 => h9) rfl (by decide +kernel) rfl rfl (by rw [mF_len]; decide) eX12_qGoesOn_303.1 (RW_f104 ((gI s35 104) + 1)) (fun H locs hP hS => ?_)
            obtain ⟨s36, hs36, h⟩ := st_e h
            rw [hs36] at hP
            refine lv_iconst (v := 1) hx hb eX12_qGoesOn_303.2.1 (by decide) ?_
            obtain rfl := Option.some.inj h
            exact W.zret (v := 1) hx hb hr (by decide) (fun t ht hW => ⟨⟨_, (), rfl, rfl, by rw [ht]; exact hP, va_K.moved hW.alike hK, hDD _⟩, hS.F ht⟩) hS.2.2 eX12_qGoesOn_303.2.2.1
          · have h := if_f (mt (i2_eq (x := r31) (y := 0) hr32 (by decide)).mpr c33) h
            exact J279 (x12, s13) _ _ _ ⟨hP, hS, lv_sub hl [0, 1] rfl, h⟩
  refine y_head (pcJ := 246) (σ := Int × MS) (fun u H locs ls => va_P D vwCl (RW D a u.2) H ∧ va_S A s₀.heap H locs ∧ lv_has ls 2 [(0, .ref (a 200))] ∧ m_x12_qGoesOn_J246 u.1 u.2 = some o) (fun u => [.int (i2 u.1)]) (fun u H locs ls hI => ?_) (fun J246 => ?_)
  · obtain ⟨hP, hS, hl, h⟩ := hI
    obtain ⟨x37, s38⟩ := u
    have hP : va_P D vwCl (RW D a s38) H := hP
    have hl : lv_has ls 2 [(0, .ref (a 200))] := hl
    have h : m_x12_qGoesOn_J246 x37 s38 = some o := h
    unfold m_x12_qGoesOn_J246 at h
    refine lv_istore_n (lv' := [(1, .int (i2 x37)), (0, .ref (a 200))]) hx hb eX12_qGoesOn_245.2.1 rfl hl (by decide) rfl (fun ls hl => ?_)
    exact J247 FU (x37, s38) _ _ _ ⟨hP, hS, lv_sub hl [1, 0] rfl, h⟩
  refine y_head (pcJ := 225) (σ := MS) (fun u H locs ls => va_P D vwCl (RW D a u) H ∧ va_S A s₀.heap H locs ∧ lv_has ls 2 [(0, .ref (a 200))] ∧ m_x12_qGoesOn_J225 u = some o) (fun u => []) (fun u H locs ls hI => ?_) (fun J225 => ?_)
  · obtain ⟨hP, hS, hl, h⟩ := hI
    obtain ⟨s39, rfl⟩ : ∃ z, z = u := ⟨u, rfl⟩
    have hP : va_P D vwCl (RW D a s39) H := hP
    have hl : lv_has ls 2 [(0, .ref (a 200))] := hl
    have h : m_x12_qGoesOn_J225 s39 = some o := h
    unfold m_x12_qGoesOn_J225 at h
    refine lv_aload_n hx hb eX12_qGoesOn_213.2.2.2.2.2.1 rfl (lv_at hl 0 rfl) ?_
    refine va_get (D := D) (ci := 12) (v := .ref (a 0)) (C := RX12) (T := TX12) (N := 116) hx hb ht inX12 hown hK hP 0 RW_0 rfl 0 (by decide) (ht (.fieldLink RX12 7 "CloneVolumesModel" "tape" "[I") fl_X12_7) (fun _ h9 => h9) mF_0 eX12_qGoesOn_213.2.2.2.2.2.2.1 ?_
    refine lv_aload_n hx hb eX12_qGoesOn_213.2.2.2.2.2.2.2 rfl (lv_at hl 0 rfl) ?_
    refine va_get (D := D) (ci := 12) (v := .int (i2 (gI s39 2))) (C := RX12) (T := TX12) (N := 116) hx hb ht inX12 hown hK hP 0 RW_0 rfl 2 (by decide) (ht (.fieldLink RX12 272 "CloneVolumesModel" "at" "I") fl_X12_272) (fun _ h9 => h9) mF_2 eX12_qGoesOn_230.1 ?_
    refine lv_iconst (v := 1) hx hb eX12_qGoesOn_230.2.1 (by decide) ?_
    refine lv_isub hx hb eX12_qGoesOn_230.2.2.1 ?_
    refine z_topi (y := i2 ((gI s39 2) - 1)) (i2_sub (gI s39 2) 1) ?_
    obtain ⟨y40, ey40, iy40, h⟩ := rdI_e h
    refine ya_iald (i := ((gI s39 2) - 1)) hx hb hK hP 1 0 RW_1 rfl (by decide) ey40 iy40 eX12_qGoesOn_230.2.2.2.1 ?_
    refine lv_bipush (v := 43) hx hb eX12_qGoesOn_230.2.2.2.2.1 (by decide) ?_
    obtain ⟨hr41, h⟩ := rg_e h
    refine lv_icmp_ne (tgt := 245) hx hb eX12_qGoesOn_230.2.2.2.2.2.1 (by decide) (fun c42 => ?_) (fun c42 => ?_)
    · have h := if_f (mt (i2_eq (x := y40) (y := 43) hr41 (by decide)).mpr c42) h
      refine lv_iconst (v := 2) hx hb eX12_qGoesOn_245.1 (by decide) ?_
      exact J246 (2, s39) _ _ _ ⟨hP, hS, lv_sub hl [0] rfl, h⟩
    · have h := if_t ((i2_eq (x := y40) (y := 43) hr41 (by decide)).mp c42) h
      refine lv_iconst (v := 1) hx hb eX12_qGoesOn_230.2.2.2.2.2.2.1 (by decide) ?_
      refine lv_goto (tgt := 246) hx hb eX12_qGoesOn_230.2.2.2.2.2.2.2 (by decide) ?_
      exact J246 (1, s39) _ _ _ ⟨hP, hS, lv_sub hl [0] rfl, h⟩
  refine y_loop (pcJ := 162) (σ := Int × MS) (fun n u H locs ls => va_P D vwCl (RW D a u.2) H ∧ va_S A s₀.heap H locs ∧ lv_has ls 2 [(0, .ref (a 200)), (1, .int (i2 u.1))] ∧ m_x12_qGoesOn_L162 n u.1 u.2 = some o) (fun u => []) (fun u H locs ls hI => by obtain ⟨_, _, _, h⟩ := hI; cases h) (fun n162 ih162 u H locs ls hI => ?_) (fun J162 => ?_)
  · obtain ⟨hP, hS, hl, h⟩ := hI
    obtain ⟨x43, s44⟩ := u
    have hP : va_P D vwCl (RW D a s44) H := hP
    have hl : lv_has ls 2 [(0, .ref (a 200)), (1, .int (i2 x43))] := hl
    have h : m_x12_qGoesOn_b162 (m_x12_qGoesOn_L162 n162) x43 s44 = some o := h
    unfold m_x12_qGoesOn_b162 at h
    refine y_head (pcJ := 178) (σ := Int × MS) (fun u H locs ls => va_P D vwCl (RW D a u.2) H ∧ va_S A s₀.heap H locs ∧ lv_has ls 2 [(0, .ref (a 200)), (1, .int (i2 u.1))] ∧ m_x12_qGoesOn_J178 (m_x12_qGoesOn_L162 n162) u.1 u.2 = some o) (fun u => []) (fun u H locs ls hI => ?_) (fun J178 => ?_)
    · obtain ⟨hP, hS, hl, h⟩ := hI
      obtain ⟨x45, s46⟩ := u
      have hP : va_P D vwCl (RW D a s46) H := hP
      have hl : lv_has ls 2 [(0, .ref (a 200)), (1, .int (i2 x45))] := hl
      have h : m_x12_qGoesOn_J178 (m_x12_qGoesOn_L162 n162) x45 s46 = some o := h
      unfold m_x12_qGoesOn_J178 at h
      refine lv_aload_n hx hb eX12_qGoesOn_170.2.2.2.2.1 rfl (lv_at hl 0 rfl) ?_
      obtain ⟨s48, hc47, h⟩ := bn_e h
      refine ywVv (As := []) (rest := []) (C := RX12) (n := 0) (ws' := RW D a s48) ⟨hx, hb, hml, hown, ht⟩ (k_x12_qDrops l D a _ _ _ hc47) (zgV ml_X12_699 im_X12_qDrops se_X12_qDrops in_X12 co_X12_qDrops) rfl rfl (by decide +kernel) ⟨Nat.le_of_ble_eq_true rfl, Nat.le_of_ble_eq_true rfl⟩ hN hK hP (hDD _) hS hA 0 RW_0 rfl rfl rfl hl.1 rfl (Nat.le_of_ble_eq_true rfl) eX12_qGoesOn_170.2.2.2.2.2.1 ⟨Nat.le_of_ble_eq_true rfl, Nat.le_of_ble_eq_true rfl⟩ (fun H locs hP hS => ?_)
      refine lv_goto (tgt := 162) hx hb eX12_qGoesOn_170.2.2.2.2.2.2.1 (by decide) ?_
      exact ih162 (x45, s48) _ _ _ ⟨hP, hS, lv_sub hl [0, 1] rfl, h⟩
    refine lv_aload_n hx hb eX12_qGoesOn_156.2.2.2.2.1 rfl (lv_at hl 0 rfl) ?_
    refine lv_iconst (v := 3) hx hb eX12_qGoesOn_156.2.2.2.2.2.1 (by decide) ?_
    obtain ⟨r50, hc49, h⟩ := bn_e h
    refine ycV (r0 := i2 r50) (As := [.int 3]) (rest := []) (C := RX12) (n := 1) ⟨hx, hb, hml, hown, ht⟩ (k_x12_qIsOn l D a 3 _ _ hc49) (zgV ml_X12_726 im_X12_qIsOn se_X12_qIsOn in_X12 co_X12_qIsOn) rfl rfl (by decide +kernel) ⟨Nat.le_of_ble_eq_true rfl, Nat.le_of_ble_eq_true rfl⟩ hN hK hP hS 0 RW_0 rfl rfl rfl hl.1 rfl (Nat.le_of_ble_eq_true rfl) eX12_qGoesOn_156.2.2.2.2.2.2.1 ⟨Nat.le_of_ble_eq_true rfl, Nat.le_of_ble_eq_true rfl⟩ (fun H locs hP hS => ?_)
    obtain ⟨hr51, h⟩ := rg_e h
    refine lv_if_ne (tgt := 178) hx hb eX12_qGoesOn_156.2.2.2.2.2.2.2 (by decide) (fun c52 => ?_) (fun c52 => ?_)
    · have h := if_f (mt (i2_eq (x := r50) (y := 0) hr51 (by decide)).mpr c52) h
      exact J178 (x43, s44) _ _ _ ⟨hP, hS, lv_sub hl [0, 1] rfl, h⟩
    · have h := if_t ((i2_eq (x := r50) (y := 0) hr51 (by decide)).mp c52) h
      refine lv_aload_n hx hb eX12_qGoesOn_170.1 rfl (lv_at hl 0 rfl) ?_
      refine lv_iconst (v := 4) hx hb eX12_qGoesOn_170.2.1 (by decide) ?_
      obtain ⟨r54, hc53, h⟩ := bn_e h
      refine ycV (r0 := i2 r54) (As := [.int 4]) (rest := []) (C := RX12) (n := 1) ⟨hx, hb, hml, hown, ht⟩ (k_x12_qIsOn l D a 4 _ _ hc53) (zgV ml_X12_726 im_X12_qIsOn se_X12_qIsOn in_X12 co_X12_qIsOn) rfl rfl (by decide +kernel) ⟨Nat.le_of_ble_eq_true rfl, Nat.le_of_ble_eq_true rfl⟩ hN hK hP hS 0 RW_0 rfl rfl rfl hl.1 rfl (Nat.le_of_ble_eq_true rfl) eX12_qGoesOn_170.2.2.1 ⟨Nat.le_of_ble_eq_true rfl, Nat.le_of_ble_eq_true rfl⟩ (fun H locs hP hS => ?_)
      obtain ⟨hr55, h⟩ := rg_e h
      refine lv_if_eq (tgt := 185) hx hb eX12_qGoesOn_170.2.2.2.1 (by decide) (fun c56 => ?_) (fun c56 => ?_)
      · have h := if_t ((i2_eq (x := r54) (y := 0) hr55 (by decide)).mp c56) h
        refine lv_aload_n hx hb eX12_qGoesOn_170.2.2.2.2.2.2.2 rfl (lv_at hl 0 rfl) ?_
        refine va_get (D := D) (ci := 12) (v := .ref (a 103)) (C := RX12) (T := TX12) (N := 116) hx hb ht inX12 hown hK hP 0 RW_0 rfl 103 (by decide) (ht (.fieldLink RX12 246 "CloneVolumesModel" "qWait" "[I") fl_X12_246) (fun _ h9 => h9) mF_103 eX12_qGoesOn_186.1 ?_
        refine lv_aload_n hx hb eX12_qGoesOn_186.2.1 rfl (lv_at hl 0 rfl) ?_
        refine va_get (D := D) (ci := 12) (v := .int (i2 (gI s44 104))) (C := RX12) (T := TX12) (N := 116) hx hb ht inX12 hown hK hP 0 RW_0 rfl 104 (by decide) (ht (.fieldLink RX12 356 "CloneVolumesModel" "qWaits" "I") fl_X12_356) (fun _ h9 => h9) mF_104 eX12_qGoesOn_186.2.2.1 ?_
        refine lv_iload_n hx hb eX12_qGoesOn_186.2.2.2.1 rfl (lv_at hl 1 rfl) ?_
        obtain ⟨hi57, h⟩ := inb_e h
        refine ya_iast (i := (gI s44 104)) (x := x43) hx hb hK hP (hDD _) hS 76 0 RW_76 rfl (by decide) hi57 eX12_qGoesOn_186.2.2.2.2.1 (RW_w76 _) (fun H locs hP hS => ?_)
        obtain ⟨s58, hs58, h⟩ := st_e h
        rw [hs58] at hP
        refine lv_aload_n hx hb eX12_qGoesOn_186.2.2.2.2.2.1 rfl (lv_at hl 0 rfl) ?_
        refine lv_dup hx hb eX12_qGoesOn_186.2.2.2.2.2.2.1 rfl ?_
        refine va_get (D := D) (ci := 12) (v := .int (i2 (gI s58 104))) (C := RX12) (T := TX12) (N := 116) hx hb ht inX12 hown hK hP 0 RW_0 rfl 104 (by decide) (ht (.fieldLink RX12 356 "CloneVolumesModel" "qWaits" "I") fl_X12_356) (fun _ h9 => h9) mF_104 eX12_qGoesOn_186.2.2.2.2.2.2.2 ?_
        refine lv_iconst (v := 1) hx hb eX12_qGoesOn_200.1 (by decide) ?_
        refine lv_iadd hx hb eX12_qGoesOn_200.2.1 ?_
        refine z_topi (y := i2 ((gI s58 104) + 1)) (i2_add (gI s58 104) 1) ?_
        refine ya_put (D := D) (ci := 12) (v := .int (i2 ((gI s58 104) + 1))) (ty := .int) (C := RX12) (T := TX12) (N := 116) hx hb ht inX12 tyX12 tyX12_ok nmX12 hown hK hP (hDD _) hS 0 RW_0 rfl 104 (by decide) (ht (.fieldLink RX12 356 "CloneVolumesModel" "qWaits" "I") fl_X12_356) (fun _ h9 => h9) rfl (by decide +kernel) rfl rfl (by rw [mF_len]; decide) eX12_qGoesOn_200.2.2.1 (RW_f104 ((gI s58 104) + 1)) (fun H locs hP hS => ?_)
        obtain ⟨s59, hs59, h⟩ := st_e h
        rw [hs59] at hP
        refine lv_iconst (v := 1) hx hb eX12_qGoesOn_200.2.2.2.1 (by decide) ?_
        obtain rfl := Option.some.inj h
        exact W.zret (v := 1) hx hb hr (by decide) (fun t ht hW => ⟨⟨_, (), rfl, rfl, by rw [ht]; exact hP, va_K.moved hW.alike hK, hDD _⟩, hS.F ht⟩) hS.2.2 eX12_qGoesOn_200.2.2.2.2.1
      · have h := if_f (mt (i2_eq (x := r54) (y := 0) hr55 (by decide)).mpr c56) h
        exact J178 (x43, s44) _ _ _ ⟨hP, hS, lv_sub hl [0, 1] rfl, h⟩
  refine y_head (pcJ := 161) (σ := Int × MS) (fun u H locs ls => va_P D vwCl (RW D a u.2) H ∧ va_S A s₀.heap H locs ∧ lv_has ls 2 [(0, .ref (a 200))] ∧ m_x12_qGoesOn_J161 u.1 u.2 = some o) (fun u => [.int (i2 u.1)]) (fun u H locs ls hI => ?_) (fun J161 => ?_)
  · obtain ⟨hP, hS, hl, h⟩ := hI
    obtain ⟨x60, s61⟩ := u
    have hP : va_P D vwCl (RW D a s61) H := hP
    have hl : lv_has ls 2 [(0, .ref (a 200))] := hl
    have h : m_x12_qGoesOn_J161 x60 s61 = some o := h
    unfold m_x12_qGoesOn_J161 at h
    refine lv_istore_n (lv' := [(1, .int (i2 x60)), (0, .ref (a 200))]) hx hb eX12_qGoesOn_156.2.2.2.1 rfl hl (by decide) rfl (fun ls hl => ?_)
    exact J162 FU (x60, s61) _ _ _ ⟨hP, hS, lv_sub hl [1, 0] rfl, h⟩
  refine y_head (pcJ := 140) (σ := MS) (fun u H locs ls => va_P D vwCl (RW D a u) H ∧ va_S A s₀.heap H locs ∧ lv_has ls 2 [(0, .ref (a 200))] ∧ m_x12_qGoesOn_J140 u = some o) (fun u => []) (fun u H locs ls hI => ?_) (fun J140 => ?_)
  · obtain ⟨hP, hS, hl, h⟩ := hI
    obtain ⟨s62, rfl⟩ : ∃ z, z = u := ⟨u, rfl⟩
    have hP : va_P D vwCl (RW D a s62) H := hP
    have hl : lv_has ls 2 [(0, .ref (a 200))] := hl
    have h : m_x12_qGoesOn_J140 s62 = some o := h
    unfold m_x12_qGoesOn_J140 at h
    refine lv_aload_n hx hb eX12_qGoesOn_123.2.2.2.2.2.2.2 rfl (lv_at hl 0 rfl) ?_
    refine va_get (D := D) (ci := 12) (v := .ref (a 0)) (C := RX12) (T := TX12) (N := 116) hx hb ht inX12 hown hK hP 0 RW_0 rfl 0 (by decide) (ht (.fieldLink RX12 7 "CloneVolumesModel" "tape" "[I") fl_X12_7) (fun _ h9 => h9) mF_0 eX12_qGoesOn_141.1 ?_
    refine lv_aload_n hx hb eX12_qGoesOn_141.2.1 rfl (lv_at hl 0 rfl) ?_
    refine va_get (D := D) (ci := 12) (v := .int (i2 (gI s62 2))) (C := RX12) (T := TX12) (N := 116) hx hb ht inX12 hown hK hP 0 RW_0 rfl 2 (by decide) (ht (.fieldLink RX12 272 "CloneVolumesModel" "at" "I") fl_X12_272) (fun _ h9 => h9) mF_2 eX12_qGoesOn_141.2.2.1 ?_
    refine lv_iconst (v := 1) hx hb eX12_qGoesOn_141.2.2.2.1 (by decide) ?_
    refine lv_isub hx hb eX12_qGoesOn_141.2.2.2.2.1 ?_
    refine z_topi (y := i2 ((gI s62 2) - 1)) (i2_sub (gI s62 2) 1) ?_
    obtain ⟨y63, ey63, iy63, h⟩ := rdI_e h
    refine ya_iald (i := ((gI s62 2) - 1)) hx hb hK hP 1 0 RW_1 rfl (by decide) ey63 iy63 eX12_qGoesOn_141.2.2.2.2.2.1 ?_
    refine lv_bipush (v := 42) hx hb eX12_qGoesOn_141.2.2.2.2.2.2.1 (by decide) ?_
    obtain ⟨hr64, h⟩ := rg_e h
    refine lv_icmp_ne (tgt := 160) hx hb eX12_qGoesOn_141.2.2.2.2.2.2.2 (by decide) (fun c65 => ?_) (fun c65 => ?_)
    · have h := if_f (mt (i2_eq (x := y63) (y := 42) hr64 (by decide)).mpr c65) h
      refine lv_iconst (v := 4) hx hb eX12_qGoesOn_156.2.2.1 (by decide) ?_
      exact J161 (4, s62) _ _ _ ⟨hP, hS, lv_sub hl [0] rfl, h⟩
    · have h := if_t ((i2_eq (x := y63) (y := 42) hr64 (by decide)).mp c65) h
      refine lv_iconst (v := 3) hx hb eX12_qGoesOn_156.1 (by decide) ?_
      refine lv_goto (tgt := 161) hx hb eX12_qGoesOn_156.2.1 (by decide) ?_
      exact J161 (3, s62) _ _ _ ⟨hP, hS, lv_sub hl [0] rfl, h⟩
  refine y_head (pcJ := 122) (σ := MS) (fun u H locs ls => va_P D vwCl (RW D a u) H ∧ va_S A s₀.heap H locs ∧ lv_has ls 2 [(0, .ref (a 200))] ∧ m_x12_qGoesOn_J122 u = some o) (fun u => []) (fun u H locs ls hI => ?_) (fun J122 => ?_)
  · obtain ⟨hP, hS, hl, h⟩ := hI
    obtain ⟨s66, rfl⟩ : ∃ z, z = u := ⟨u, rfl⟩
    have hP : va_P D vwCl (RW D a s66) H := hP
    have hl : lv_has ls 2 [(0, .ref (a 200))] := hl
    have h : m_x12_qGoesOn_J122 s66 = some o := h
    unfold m_x12_qGoesOn_J122 at h
    refine lv_aload_n hx hb eX12_qGoesOn_106.2.2.2.2.2.2.2 rfl (lv_at hl 0 rfl) ?_
    refine lv_bipush (v := 42) hx hb eX12_qGoesOn_123.1 (by decide) ?_
    obtain ⟨⟨r69, s68⟩, hc67, h⟩ := bn_e h
    refine ywV (r0 := i2 r69) (As := [.int 42]) (rest := []) (C := RX12) (n := 1) (ws' := RW D a s68) ⟨hx, hb, hml, hown, ht⟩ (k_x12_takesSign l D a 42 _ _ _ hc67) (zgV ml_X12_300 im_X12_takesSign se_X12_takesSign in_X12 co_X12_takesSign) rfl rfl (by decide +kernel) ⟨Nat.le_of_ble_eq_true rfl, Nat.le_of_ble_eq_true rfl⟩ hN hK hP (hDD _) hS hA 0 RW_0 rfl rfl rfl hl.1 rfl (Nat.le_of_ble_eq_true rfl) eX12_qGoesOn_123.2.1 ⟨Nat.le_of_ble_eq_true rfl, Nat.le_of_ble_eq_true rfl⟩ (fun H locs hP hS => ?_)
    obtain ⟨hr70, h⟩ := rg_e h
    refine lv_if_ne (tgt := 140) hx hb eX12_qGoesOn_123.2.2.1 (by decide) (fun c71 => ?_) (fun c71 => ?_)
    · have h := if_f (mt (i2_eq (x := r69) (y := 0) hr70 (by decide)).mpr c71) h
      exact J140 s68 _ _ _ ⟨hP, hS, lv_sub hl [0] rfl, h⟩
    · have h := if_t ((i2_eq (x := r69) (y := 0) hr70 (by decide)).mp c71) h
      refine lv_aload_n hx hb eX12_qGoesOn_123.2.2.2.1 rfl (lv_at hl 0 rfl) ?_
      refine lv_bipush (v := 47) hx hb eX12_qGoesOn_123.2.2.2.2.1 (by decide) ?_
      obtain ⟨⟨r74, s73⟩, hc72, h⟩ := bn_e h
      refine ywV (r0 := i2 r74) (As := [.int 47]) (rest := []) (C := RX12) (n := 1) (ws' := RW D a s73) ⟨hx, hb, hml, hown, ht⟩ (k_x12_takesSign l D a 47 _ _ _ hc72) (zgV ml_X12_300 im_X12_takesSign se_X12_takesSign in_X12 co_X12_takesSign) rfl rfl (by decide +kernel) ⟨Nat.le_of_ble_eq_true rfl, Nat.le_of_ble_eq_true rfl⟩ hN hK hP (hDD _) hS hA 0 RW_0 rfl rfl rfl hl.1 rfl (Nat.le_of_ble_eq_true rfl) eX12_qGoesOn_123.2.2.2.2.2.1 ⟨Nat.le_of_ble_eq_true rfl, Nat.le_of_ble_eq_true rfl⟩ (fun H locs hP hS => ?_)
      obtain ⟨hr75, h⟩ := rg_e h
      refine lv_if_eq (tgt := 207) hx hb eX12_qGoesOn_123.2.2.2.2.2.2.1 (by decide) (fun c76 => ?_) (fun c76 => ?_)
      · have h := if_t ((i2_eq (x := r74) (y := 0) hr75 (by decide)).mp c76) h
        refine lv_aload_n hx hb eX12_qGoesOn_200.2.2.2.2.2.1 rfl (lv_at hl 0 rfl) ?_
        refine lv_bipush (v := 43) hx hb eX12_qGoesOn_200.2.2.2.2.2.2.1 (by decide) ?_
        obtain ⟨⟨r79, s78⟩, hc77, h⟩ := bn_e h
        refine ywV (r0 := i2 r79) (As := [.int 43]) (rest := []) (C := RX12) (n := 1) (ws' := RW D a s78) ⟨hx, hb, hml, hown, ht⟩ (k_x12_takesSign l D a 43 _ _ _ hc77) (zgV ml_X12_300 im_X12_takesSign se_X12_takesSign in_X12 co_X12_takesSign) rfl rfl (by decide +kernel) ⟨Nat.le_of_ble_eq_true rfl, Nat.le_of_ble_eq_true rfl⟩ hN hK hP (hDD _) hS hA 0 RW_0 rfl rfl rfl hl.1 rfl (Nat.le_of_ble_eq_true rfl) eX12_qGoesOn_200.2.2.2.2.2.2.2 ⟨Nat.le_of_ble_eq_true rfl, Nat.le_of_ble_eq_true rfl⟩ (fun H locs hP hS => ?_)
        obtain ⟨hr80, h⟩ := rg_e h
        refine lv_if_ne (tgt := 225) hx hb eX12_qGoesOn_213.1 (by decide) (fun c81 => ?_) (fun c81 => ?_)
        · have h := if_f (mt (i2_eq (x := r79) (y := 0) hr80 (by decide)).mpr c81) h
          exact J225 s78 _ _ _ ⟨hP, hS, lv_sub hl [0] rfl, h⟩
        · have h := if_t ((i2_eq (x := r79) (y := 0) hr80 (by decide)).mp c81) h
          refine lv_aload_n hx hb eX12_qGoesOn_213.2.1 rfl (lv_at hl 0 rfl) ?_
          refine lv_bipush (v := 45) hx hb eX12_qGoesOn_213.2.2.1 (by decide) ?_
          obtain ⟨⟨r84, s83⟩, hc82, h⟩ := bn_e h
          refine ywV (r0 := i2 r84) (As := [.int 45]) (rest := []) (C := RX12) (n := 1) (ws' := RW D a s83) ⟨hx, hb, hml, hown, ht⟩ (k_x12_takesSign l D a 45 _ _ _ hc82) (zgV ml_X12_300 im_X12_takesSign se_X12_takesSign in_X12 co_X12_takesSign) rfl rfl (by decide +kernel) ⟨Nat.le_of_ble_eq_true rfl, Nat.le_of_ble_eq_true rfl⟩ hN hK hP (hDD _) hS hA 0 RW_0 rfl rfl rfl hl.1 rfl (Nat.le_of_ble_eq_true rfl) eX12_qGoesOn_213.2.2.2.1 ⟨Nat.le_of_ble_eq_true rfl, Nat.le_of_ble_eq_true rfl⟩ (fun H locs hP hS => ?_)
          obtain ⟨hr85, h⟩ := rg_e h
          refine lv_if_eq (tgt := 308) hx hb eX12_qGoesOn_213.2.2.2.2.1 (by decide) (fun c86 => ?_) (fun c86 => ?_)
          · have h := if_t ((i2_eq (x := r84) (y := 0) hr85 (by decide)).mp c86) h
            refine lv_aload_n hx hb eX12_qGoesOn_303.2.2.2.1 rfl (lv_at hl 0 rfl) ?_
            obtain ⟨r88, hc87, h⟩ := bn_e h
            refine ycV (r0 := i2 r88) (As := []) (rest := []) (C := RX12) (n := 0) ⟨hx, hb, hml, hown, ht⟩ (k_x12_qBracket l D a _ _ hc87) (zgV ml_X12_720 im_X12_qBracket se_X12_qBracket in_X12 co_X12_qBracket) rfl rfl (by decide +kernel) ⟨Nat.le_of_ble_eq_true rfl, Nat.le_of_ble_eq_true rfl⟩ hN hK hP hS 0 RW_0 rfl rfl rfl hl.1 rfl (Nat.le_of_ble_eq_true rfl) eX12_qGoesOn_303.2.2.2.2.1 ⟨Nat.le_of_ble_eq_true rfl, Nat.le_of_ble_eq_true rfl⟩ (fun H locs hP hS => ?_)
            refine lv_bipush (v := 21) hx hb eX12_qGoesOn_303.2.2.2.2.2.1 (by decide) ?_
            obtain ⟨hr89, h⟩ := rg_e h
            refine lv_icmp_eq (tgt := 326) hx hb eX12_qGoesOn_303.2.2.2.2.2.2.1 (by decide) (fun c90 => ?_) (fun c90 => ?_)
            · have h := if_t ((i2_eq (x := r88) (y := 21) hr89 (by decide)).mp c90) h
              exact J326 s83 _ _ _ ⟨hP, hS, lv_sub hl [0] rfl, h⟩
            · have h := if_f (mt (i2_eq (x := r88) (y := 21) hr89 (by decide)).mpr c90) h
              refine lv_aload_n hx hb eX12_qGoesOn_303.2.2.2.2.2.2.2 rfl (lv_at hl 0 rfl) ?_
              obtain ⟨r92, hc91, h⟩ := bn_e h
              refine ycV (r0 := i2 r92) (As := []) (rest := []) (C := RX12) (n := 0) ⟨hx, hb, hml, hown, ht⟩ (k_x12_qBracket l D a _ _ hc91) (zgV ml_X12_720 im_X12_qBracket se_X12_qBracket in_X12 co_X12_qBracket) rfl rfl (by decide +kernel) ⟨Nat.le_of_ble_eq_true rfl, Nat.le_of_ble_eq_true rfl⟩ hN hK hP hS 0 RW_0 rfl rfl rfl hl.1 rfl (Nat.le_of_ble_eq_true rfl) eX12_qGoesOn_318.1 ⟨Nat.le_of_ble_eq_true rfl, Nat.le_of_ble_eq_true rfl⟩ (fun H locs hP hS => ?_)
              refine lv_bipush (v := 22) hx hb eX12_qGoesOn_318.2.1 (by decide) ?_
              obtain ⟨hr93, h⟩ := rg_e h
              refine lv_icmp_ne (tgt := 362) hx hb eX12_qGoesOn_318.2.2.1 (by decide) (fun c94 => ?_) (fun c94 => ?_)
              · have h := if_f (mt (i2_eq (x := r92) (y := 22) hr93 (by decide)).mpr c94) h
                refine lv_aload_n hx hb eX12_qGoesOn_360.2.2.1 rfl (lv_at hl 0 rfl) ?_
                obtain ⟨r96, hc95, h⟩ := bn_e h
                refine ycV (r0 := i2 r96) (As := []) (rest := []) (C := RX12) (n := 0) ⟨hx, hb, hml, hown, ht⟩ (k_x12_qBracket l D a _ _ hc95) (zgV ml_X12_720 im_X12_qBracket se_X12_qBracket in_X12 co_X12_qBracket) rfl rfl (by decide +kernel) ⟨Nat.le_of_ble_eq_true rfl, Nat.le_of_ble_eq_true rfl⟩ hN hK hP hS 0 RW_0 rfl rfl rfl hl.1 rfl (Nat.le_of_ble_eq_true rfl) eX12_qGoesOn_360.2.2.2.1 ⟨Nat.le_of_ble_eq_true rfl, Nat.le_of_ble_eq_true rfl⟩ (fun H locs hP hS => ?_)
                refine lv_iconst (v := (-1)) hx hb eX12_qGoesOn_360.2.2.2.2.1 (by decide) ?_
                obtain ⟨hr97, h⟩ := rg_e h
                refine lv_icmp_eq (tgt := 386) hx hb eX12_qGoesOn_360.2.2.2.2.2.1 (by decide) (fun c98 => ?_) (fun c98 => ?_)
                · rw [show ((-1) : Int32) = i2 (-1) from by decide] at c98
                  have h := if_t ((i2_eq (x := r96) (y := (-1)) hr97 (by decide)).mp c98) h
                  exact J386 s83 _ _ _ ⟨hP, hS, lv_sub hl [] rfl, h⟩
                · rw [show ((-1) : Int32) = i2 (-1) from by decide] at c98
                  have h := if_f (mt (i2_eq (x := r96) (y := (-1)) hr97 (by decide)).mpr c98) h
                  refine lv_aload_n hx hb eX12_qGoesOn_360.2.2.2.2.2.2.1 rfl (lv_at hl 0 rfl) ?_
                  refine va_get (D := D) (ci := 12) (v := .int (i2 (gI s83 5))) (C := RX12) (T := TX12) (N := 116) hx hb ht inX12 hown hK hP 0 RW_0 rfl 5 (by decide) (ht (.fieldLink RX12 266 "CloneVolumesModel" "bad" "I") fl_X12_266) (fun _ h9 => h9) mF_5 eX12_qGoesOn_360.2.2.2.2.2.2.2 ?_
                  obtain ⟨hr99, h⟩ := rg_e h
                  refine lv_if_ne (tgt := 386) hx hb eX12_qGoesOn_374.1 (by decide) (fun c100 => ?_) (fun c100 => ?_)
                  · have h := if_f (mt (i2_eq (x := (gI s83 5)) (y := 0) hr99 (by decide)).mpr c100) h
                    exact J386 s83 _ _ _ ⟨hP, hS, lv_sub hl [] rfl, h⟩
                  · have h := if_t ((i2_eq (x := (gI s83 5)) (y := 0) hr99 (by decide)).mp c100) h
                    refine lv_aload_n hx hb eX12_qGoesOn_374.2.1 rfl (lv_at hl 0 rfl) ?_
                    refine lv_iconst (v := 1) hx hb eX12_qGoesOn_374.2.2.1 (by decide) ?_
                    refine lv_aload_n hx hb eX12_qGoesOn_374.2.2.2.1 rfl (lv_at hl 0 rfl) ?_
                    refine va_get (D := D) (ci := 12) (v := .int (i2 (gI s83 2))) (C := RX12) (T := TX12) (N := 116) hx hb ht inX12 hown hK hP 0 RW_0 rfl 2 (by decide) (ht (.fieldLink RX12 272 "CloneVolumesModel" "at" "I") fl_X12_272) (fun _ h9 => h9) mF_2 eX12_qGoesOn_374.2.2.2.2.1 ?_
                    obtain ⟨s102, hc101, h⟩ := bn_e h
                    refine ywVv (As := [.int 1, .int (i2 (gI s83 2))]) (rest := []) (C := RX12) (n := 2) (ws' := RW D a s102) ⟨hx, hb, hml, hown, ht⟩ (k_x12_fail l D a 1 (gI s83 2) _ _ _ hc101) (zgV ml_X12_296 im_X12_fail se_X12_fail in_X12 co_X12_fail) rfl rfl (by decide +kernel) ⟨Nat.le_of_ble_eq_true rfl, Nat.le_of_ble_eq_true rfl⟩ hN hK hP (hDD _) hS hA 0 RW_0 rfl rfl rfl hl.1 rfl (Nat.le_of_ble_eq_true rfl) eX12_qGoesOn_374.2.2.2.2.2.1 ⟨Nat.le_of_ble_eq_true rfl, Nat.le_of_ble_eq_true rfl⟩ (fun H locs hP hS => ?_)
                    exact J386 s102 _ _ _ ⟨hP, hS, lv_sub hl [] rfl, h⟩
              · have h := if_t ((i2_eq (x := r92) (y := 22) hr93 (by decide)).mp c94) h
                exact J326 s83 _ _ _ ⟨hP, hS, lv_sub hl [0] rfl, h⟩
          · have h := if_f (mt (i2_eq (x := r84) (y := 0) hr85 (by decide)).mpr c86) h
            exact J225 s83 _ _ _ ⟨hP, hS, lv_sub hl [0] rfl, h⟩
      · have h := if_f (mt (i2_eq (x := r74) (y := 0) hr75 (by decide)).mpr c76) h
        exact J140 s73 _ _ _ ⟨hP, hS, lv_sub hl [0] rfl, h⟩
  refine y_loop (pcJ := 0) (σ := MS) (fun n u H locs ls => va_P D vwCl (RW D a u) H ∧ va_S A s₀.heap H locs ∧ lv_has ls 2 [(0, .ref (a 200))] ∧ m_x12_qGoesOn_L0 n u = some o) (fun u => []) (fun u H locs ls hI => by obtain ⟨_, _, _, h⟩ := hI; cases h) (fun n0 ih0 u H locs ls hI => ?_) (fun J0 => ?_)
  · obtain ⟨hP, hS, hl, h⟩ := hI
    obtain ⟨s103, rfl⟩ : ∃ z, z = u := ⟨u, rfl⟩
    have hP : va_P D vwCl (RW D a s103) H := hP
    have hl : lv_has ls 2 [(0, .ref (a 200))] := hl
    have h : m_x12_qGoesOn_b0 (m_x12_qGoesOn_L0 n0) s103 = some o := h
    unfold m_x12_qGoesOn_b0 at h
    refine y_head (pcJ := 115) (σ := MS) (fun u H locs ls => va_P D vwCl (RW D a u) H ∧ va_S A s₀.heap H locs ∧ lv_has ls 2 [(0, .ref (a 200))] ∧ m_x12_qGoesOn_J115 (m_x12_qGoesOn_L0 n0) u = some o) (fun u => []) (fun u H locs ls hI => ?_) (fun J115 => ?_)
    · obtain ⟨hP, hS, hl, h⟩ := hI
      obtain ⟨s104, rfl⟩ : ∃ z, z = u := ⟨u, rfl⟩
      have hP : va_P D vwCl (RW D a s104) H := hP
      have hl : lv_has ls 2 [(0, .ref (a 200))] := hl
      have h : m_x12_qGoesOn_J115 (m_x12_qGoesOn_L0 n0) s104 = some o := h
      unfold m_x12_qGoesOn_J115 at h
      refine lv_aload_n hx hb eX12_qGoesOn_106.2.2.2.2.1 rfl (lv_at hl 0 rfl) ?_
      obtain ⟨s106, hc105, h⟩ := bn_e h
      refine ywVv (As := []) (rest := []) (C := RX12) (n := 0) (ws' := RW D a s106) ⟨hx, hb, hml, hown, ht⟩ (k_x12_qEndsPart l D a _ _ _ hc105) (zgV ml_X12_717 im_X12_qEndsPart se_X12_qEndsPart in_X12 co_X12_qEndsPart) rfl rfl (by decide +kernel) ⟨Nat.le_of_ble_eq_true rfl, Nat.le_of_ble_eq_true rfl⟩ hN hK hP (hDD _) hS hA 0 RW_0 rfl rfl rfl hl.1 rfl (Nat.le_of_ble_eq_true rfl) eX12_qGoesOn_106.2.2.2.2.2.1 ⟨Nat.le_of_ble_eq_true rfl, Nat.le_of_ble_eq_true rfl⟩ (fun H locs hP hS => ?_)
      refine lv_goto (tgt := 0) hx hb eX12_qGoesOn_106.2.2.2.2.2.2.1 (by decide) ?_
      exact ih0 s106 _ _ _ ⟨hP, hS, lv_sub hl [0] rfl, h⟩
    refine y_head (pcJ := 112) (σ := Int × MS) (fun u H locs ls => va_P D vwCl (RW D a u.2) H ∧ va_S A s₀.heap H locs ∧ lv_has ls 2 [(0, .ref (a 200))] ∧ m_x12_qGoesOn_J112 (m_x12_qGoesOn_L0 n0) u.1 u.2 = some o) (fun u => [.int (i2 u.1), .ref (a 200)]) (fun u H locs ls hI => ?_) (fun J112 => ?_)
    · obtain ⟨hP, hS, hl, h⟩ := hI
      obtain ⟨x107, s108⟩ := u
      have hP : va_P D vwCl (RW D a s108) H := hP
      have hl : lv_has ls 2 [(0, .ref (a 200))] := hl
      have h : m_x12_qGoesOn_J112 (m_x12_qGoesOn_L0 n0) x107 s108 = some o := h
      unfold m_x12_qGoesOn_J112 at h
      obtain ⟨s110, hc109, h⟩ := bn_e h
      refine ywVv (As := [.int (i2 x107)]) (rest := []) (C := RX12) (n := 1) (ws' := RW D a s110) ⟨hx, hb, hml, hown, ht⟩ (k_x12_qCode l D a x107 _ _ _ hc109) (zgV ml_X12_693 im_X12_qCode se_X12_qCode in_X12 co_X12_qCode) rfl rfl (by decide +kernel) ⟨Nat.le_of_ble_eq_true rfl, Nat.le_of_ble_eq_true rfl⟩ hN hK hP (hDD _) hS hA 0 RW_0 rfl rfl rfl hl.1 rfl (Nat.le_of_ble_eq_true rfl) eX12_qGoesOn_106.2.2.2.1 ⟨Nat.le_of_ble_eq_true rfl, Nat.le_of_ble_eq_true rfl⟩ (fun H locs hP hS => ?_)
      exact J115 s110 _ _ _ ⟨hP, hS, lv_sub hl [0] rfl, h⟩
    refine y_head (pcJ := 43) (σ := MS) (fun u H locs ls => va_P D vwCl (RW D a u) H ∧ va_S A s₀.heap H locs ∧ lv_has ls 2 [(0, .ref (a 200))] ∧ m_x12_qGoesOn_J43 (m_x12_qGoesOn_L0 n0) u = some o) (fun u => []) (fun u H locs ls hI => ?_) (fun J43 => ?_)
    · obtain ⟨hP, hS, hl, h⟩ := hI
      obtain ⟨s111, rfl⟩ : ∃ z, z = u := ⟨u, rfl⟩
      have hP : va_P D vwCl (RW D a s111) H := hP
      have hl : lv_has ls 2 [(0, .ref (a 200))] := hl
      have h : m_x12_qGoesOn_J43 (m_x12_qGoesOn_L0 n0) s111 = some o := h
      unfold m_x12_qGoesOn_J43 at h
      refine lv_aload_n hx hb eX12_qGoesOn_31.2.2.2.2.2.1 rfl (lv_at hl 0 rfl) ?_
      refine lv_dup hx hb eX12_qGoesOn_31.2.2.2.2.2.2.1 rfl ?_
      refine va_get (D := D) (ci := 12) (v := .int (i2 (gI s111 2))) (C := RX12) (T := TX12) (N := 116) hx hb ht inX12 hown hK hP 0 RW_0 rfl 2 (by decide) (ht (.fieldLink RX12 272 "CloneVolumesModel" "at" "I") fl_X12_272) (fun _ h9 => h9) mF_2 eX12_qGoesOn_31.2.2.2.2.2.2.2 ?_
      refine lv_iconst (v := 1) hx hb eX12_qGoesOn_48.1 (by decide) ?_
      refine lv_iadd hx hb eX12_qGoesOn_48.2.1 ?_
      refine z_topi (y := i2 ((gI s111 2) + 1)) (i2_add (gI s111 2) 1) ?_
      refine ya_put (D := D) (ci := 12) (v := .int (i2 ((gI s111 2) + 1))) (ty := .int) (C := RX12) (T := TX12) (N := 116) hx hb ht inX12 tyX12 tyX12_ok nmX12 hown hK hP (hDD _) hS 0 RW_0 rfl 2 (by decide) (ht (.fieldLink RX12 272 "CloneVolumesModel" "at" "I") fl_X12_272) (fun _ h9 => h9) rfl (by decide +kernel) rfl rfl (by rw [mF_len]; decide) eX12_qGoesOn_48.2.2.1 (RW_f2 ((gI s111 2) + 1)) (fun H locs hP hS => ?_)
      obtain ⟨s112, hs112, h⟩ := st_e h
      rw [hs112] at hP
      refine lv_aload_n hx hb eX12_qGoesOn_48.2.2.2.1 rfl (lv_at hl 0 rfl) ?_
      obtain ⟨s114, hc113, h⟩ := bn_e h
      refine ywVv (As := []) (rest := []) (C := RX12) (n := 0) (ws' := RW D a s114) ⟨hx, hb, hml, hown, ht⟩ (k_x12_qDropsToBracket l D a _ _ _ hc113) (zgV ml_X12_723 im_X12_qDropsToBracket se_X12_qDropsToBracket in_X12 co_X12_qDropsToBracket) rfl rfl (by decide +kernel) ⟨Nat.le_of_ble_eq_true rfl, Nat.le_of_ble_eq_true rfl⟩ hN hK hP (hDD _) hS hA 0 RW_0 rfl rfl rfl hl.1 rfl (Nat.le_of_ble_eq_true rfl) eX12_qGoesOn_48.2.2.2.2.1 ⟨Nat.le_of_ble_eq_true rfl, Nat.le_of_ble_eq_true rfl⟩ (fun H locs hP hS => ?_)
      refine lv_aload_n hx hb eX12_qGoesOn_48.2.2.2.2.2.1 rfl (lv_at hl 0 rfl) ?_
      refine lv_dup hx hb eX12_qGoesOn_48.2.2.2.2.2.2.1 rfl ?_
      refine va_get (D := D) (ci := 12) (v := .int (i2 (gI s114 104))) (C := RX12) (T := TX12) (N := 116) hx hb ht inX12 hown hK hP 0 RW_0 rfl 104 (by decide) (ht (.fieldLink RX12 356 "CloneVolumesModel" "qWaits" "I") fl_X12_356) (fun _ h9 => h9) mF_104 eX12_qGoesOn_48.2.2.2.2.2.2.2 ?_
      refine lv_iconst (v := 1) hx hb eX12_qGoesOn_62.1 (by decide) ?_
      refine lv_isub hx hb eX12_qGoesOn_62.2.1 ?_
      refine z_topi (y := i2 ((gI s114 104) - 1)) (i2_sub (gI s114 104) 1) ?_
      refine ya_put (D := D) (ci := 12) (v := .int (i2 ((gI s114 104) - 1))) (ty := .int) (C := RX12) (T := TX12) (N := 116) hx hb ht inX12 tyX12 tyX12_ok nmX12 hown hK hP (hDD _) hS 0 RW_0 rfl 104 (by decide) (ht (.fieldLink RX12 356 "CloneVolumesModel" "qWaits" "I") fl_X12_356) (fun _ h9 => h9) rfl (by decide +kernel) rfl rfl (by rw [mF_len]; decide) eX12_qGoesOn_62.2.2.1 (RW_f104 ((gI s114 104) - 1)) (fun H locs hP hS => ?_)
      obtain ⟨s115, hs115, h⟩ := st_e h
      rw [hs115] at hP
      refine lv_aload_n hx hb eX12_qGoesOn_62.2.2.2.1 rfl (lv_at hl 0 rfl) ?_
      refine lv_dup hx hb eX12_qGoesOn_62.2.2.2.2.1 rfl ?_
      refine va_get (D := D) (ci := 12) (v := .int (i2 (gI s115 105))) (C := RX12) (T := TX12) (N := 116) hx hb ht inX12 hown hK hP 0 RW_0 rfl 105 (by decide) (ht (.fieldLink RX12 359 "CloneVolumesModel" "qOpened" "I") fl_X12_359) (fun _ h9 => h9) mF_105 eX12_qGoesOn_62.2.2.2.2.2.1 ?_
      refine lv_iconst (v := 1) hx hb eX12_qGoesOn_62.2.2.2.2.2.2.1 (by decide) ?_
      refine lv_isub hx hb eX12_qGoesOn_62.2.2.2.2.2.2.2 ?_
      refine z_topi (y := i2 ((gI s115 105) - 1)) (i2_sub (gI s115 105) 1) ?_
      refine ya_put (D := D) (ci := 12) (v := .int (i2 ((gI s115 105) - 1))) (ty := .int) (C := RX12) (T := TX12) (N := 116) hx hb ht inX12 tyX12 tyX12_ok nmX12 hown hK hP (hDD _) hS 0 RW_0 rfl 105 (by decide) (ht (.fieldLink RX12 359 "CloneVolumesModel" "qOpened" "I") fl_X12_359) (fun _ h9 => h9) rfl (by decide +kernel) rfl rfl (by rw [mF_len]; decide) eX12_qGoesOn_74.1 (RW_f105 ((gI s115 105) - 1)) (fun H locs hP hS => ?_)
      obtain ⟨s116, hs116, h⟩ := st_e h
      rw [hs116] at hP
      refine lv_aload_n hx hb eX12_qGoesOn_74.2.1 rfl (lv_at hl 0 rfl) ?_
      refine va_get (D := D) (ci := 12) (v := .ref (a 103)) (C := RX12) (T := TX12) (N := 116) hx hb ht inX12 hown hK hP 0 RW_0 rfl 103 (by decide) (ht (.fieldLink RX12 246 "CloneVolumesModel" "qWait" "[I") fl_X12_246) (fun _ h9 => h9) mF_103 eX12_qGoesOn_74.2.2.1 ?_
      refine lv_aload_n hx hb eX12_qGoesOn_74.2.2.2.1 rfl (lv_at hl 0 rfl) ?_
      refine va_get (D := D) (ci := 12) (v := .int (i2 (gI s116 104))) (C := RX12) (T := TX12) (N := 116) hx hb ht inX12 hown hK hP 0 RW_0 rfl 104 (by decide) (ht (.fieldLink RX12 356 "CloneVolumesModel" "qWaits" "I") fl_X12_356) (fun _ h9 => h9) mF_104 eX12_qGoesOn_74.2.2.2.2.1 ?_
      obtain ⟨y117, ey117, iy117, h⟩ := rdI_e h
      refine ya_iald (i := (gI s116 104)) hx hb hK hP 76 0 RW_76 rfl (by decide) ey117 iy117 eX12_qGoesOn_74.2.2.2.2.2.1 ?_
      refine lv_bipush (v := 20) hx hb eX12_qGoesOn_74.2.2.2.2.2.2.1 (by decide) ?_
      obtain ⟨hr118, h⟩ := rg_e h
      refine lv_icmp_eq (tgt := 115) hx hb eX12_qGoesOn_74.2.2.2.2.2.2.2 (by decide) (fun c119 => ?_) (fun c119 => ?_)
      · have h := if_t ((i2_eq (x := y117) (y := 20) hr118 (by decide)).mp c119) h
        exact J115 s116 _ _ _ ⟨hP, hS, lv_sub hl [0] rfl, h⟩
      · have h := if_f (mt (i2_eq (x := y117) (y := 20) hr118 (by decide)).mpr c119) h
        refine lv_aload_n hx hb eX12_qGoesOn_91.1 rfl (lv_at hl 0 rfl) ?_
        refine lv_aload_n hx hb eX12_qGoesOn_91.2.1 rfl (lv_at hl 0 rfl) ?_
        refine va_get (D := D) (ci := 12) (v := .ref (a 103)) (C := RX12) (T := TX12) (N := 116) hx hb ht inX12 hown hK hP 0 RW_0 rfl 103 (by decide) (ht (.fieldLink RX12 246 "CloneVolumesModel" "qWait" "[I") fl_X12_246) (fun _ h9 => h9) mF_103 eX12_qGoesOn_91.2.2.1 ?_
        refine lv_aload_n hx hb eX12_qGoesOn_91.2.2.2.1 rfl (lv_at hl 0 rfl) ?_
        refine va_get (D := D) (ci := 12) (v := .int (i2 (gI s116 104))) (C := RX12) (T := TX12) (N := 116) hx hb ht inX12 hown hK hP 0 RW_0 rfl 104 (by decide) (ht (.fieldLink RX12 356 "CloneVolumesModel" "qWaits" "I") fl_X12_356) (fun _ h9 => h9) mF_104 eX12_qGoesOn_91.2.2.2.2.1 ?_
        obtain ⟨y120, ey120, iy120, h⟩ := rdI_e h
        refine ya_iald (i := (gI s116 104)) hx hb hK hP 76 0 RW_76 rfl (by decide) ey120 iy120 eX12_qGoesOn_91.2.2.2.2.2.1 ?_
        refine lv_bipush (v := 23) hx hb eX12_qGoesOn_91.2.2.2.2.2.2.1 (by decide) ?_
        obtain ⟨hr121, h⟩ := rg_e h
        refine lv_icmp_ne (tgt := 110) hx hb eX12_qGoesOn_91.2.2.2.2.2.2.2 (by decide) (fun c122 => ?_) (fun c122 => ?_)
        · have h := if_f (mt (i2_eq (x := y120) (y := 23) hr121 (by decide)).mpr c122) h
          refine lv_bipush (v := 6) hx hb eX12_qGoesOn_106.2.2.1 (by decide) ?_
          exact J112 (6, s116) _ _ _ ⟨hP, hS, lv_sub hl [0] rfl, h⟩
        · have h := if_t ((i2_eq (x := y120) (y := 23) hr121 (by decide)).mp c122) h
          refine lv_iconst (v := 5) hx hb eX12_qGoesOn_106.1 (by decide) ?_
          refine lv_goto (tgt := 112) hx hb eX12_qGoesOn_106.2.1 (by decide) ?_
          exact J112 (5, s116) _ _ _ ⟨hP, hS, lv_sub hl [0] rfl, h⟩
    refine lv_aload_n hx hb eX12_qDropsToBracket_32.2.2.1 rfl (lv_at hl 0 rfl) ?_
    refine va_get (D := D) (ci := 12) (v := .int (i2 (gI s103 5))) (C := RX12) (T := TX12) (N := 116) hx hb ht inX12 hown hK hP 0 RW_0 rfl 5 (by decide) (ht (.fieldLink RX12 266 "CloneVolumesModel" "bad" "I") fl_X12_266) (fun _ h9 => h9) mF_5 eX12_qDropsToBracket_32.2.2.2.1 ?_
    obtain ⟨hr123, h⟩ := rg_e h
    refine lv_if_ne (tgt := 122) hx hb eX12_qDropsToBracket_32.2.2.2.2.1 (by decide) (fun c124 => ?_) (fun c124 => ?_)
    · have h := if_f (mt (i2_eq (x := (gI s103 5)) (y := 0) hr123 (by decide)).mpr c124) h
      exact J122 s103 _ _ _ ⟨hP, hS, lv_sub hl [0] rfl, h⟩
    · have h := if_t ((i2_eq (x := (gI s103 5)) (y := 0) hr123 (by decide)).mp c124) h
      refine lv_aload_n hx hb eX12_qDropsToBracket_32.2.2.2.2.2.1 rfl (lv_at hl 0 rfl) ?_
      obtain ⟨⟨r127, s126⟩, hc125, h⟩ := bn_e h
      refine ywV (r0 := i2 r127) (As := []) (rest := []) (C := RX12) (n := 0) (ws' := RW D a s126) ⟨hx, hb, hml, hown, ht⟩ (k_x12_look l D a _ _ _ hc125) (zgV ml_X12_278 im_X12_look se_X12_look in_X12 co_X12_look) rfl rfl (by decide +kernel) ⟨Nat.le_of_ble_eq_true rfl, Nat.le_of_ble_eq_true rfl⟩ hN hK hP (hDD _) hS hA 0 RW_0 rfl rfl rfl hl.1 rfl (Nat.le_of_ble_eq_true rfl) eX12_qDropsToBracket_32.2.2.2.2.2.2.1 ⟨Nat.le_of_ble_eq_true rfl, Nat.le_of_ble_eq_true rfl⟩ (fun H locs hP hS => ?_)
      refine lv_bipush (v := 41) hx hb eX12_qDropsToBracket_32.2.2.2.2.2.2.2 (by decide) ?_
      obtain ⟨hr128, h⟩ := rg_e h
      refine lv_icmp_ne (tgt := 122) hx hb eX12_qGoesOn_13.1 (by decide) (fun c129 => ?_) (fun c129 => ?_)
      · have h := if_f (mt (i2_eq (x := r127) (y := 41) hr128 (by decide)).mpr c129) h
        exact J122 s126 _ _ _ ⟨hP, hS, lv_sub hl [0] rfl, h⟩
      · have h := if_t ((i2_eq (x := r127) (y := 41) hr128 (by decide)).mp c129) h
        refine lv_aload_n hx hb eX12_qGoesOn_13.2.1 rfl (lv_at hl 0 rfl) ?_
        obtain ⟨r131, hc130, h⟩ := bn_e h
        refine ycV (r0 := i2 r131) (As := []) (rest := []) (C := RX12) (n := 0) ⟨hx, hb, hml, hown, ht⟩ (k_x12_qBracket l D a _ _ hc130) (zgV ml_X12_720 im_X12_qBracket se_X12_qBracket in_X12 co_X12_qBracket) rfl rfl (by decide +kernel) ⟨Nat.le_of_ble_eq_true rfl, Nat.le_of_ble_eq_true rfl⟩ hN hK hP hS 0 RW_0 rfl rfl rfl hl.1 rfl (Nat.le_of_ble_eq_true rfl) eX12_qGoesOn_13.2.2.1 ⟨Nat.le_of_ble_eq_true rfl, Nat.le_of_ble_eq_true rfl⟩ (fun H locs hP hS => ?_)
        refine lv_bipush (v := 20) hx hb eX12_qGoesOn_13.2.2.2.1 (by decide) ?_
        obtain ⟨hr132, h⟩ := rg_e h
        refine lv_icmp_eq (tgt := 43) hx hb eX12_qGoesOn_13.2.2.2.2.1 (by decide) (fun c133 => ?_) (fun c133 => ?_)
        · have h := if_t ((i2_eq (x := r131) (y := 20) hr132 (by decide)).mp c133) h
          exact J43 s126 _ _ _ ⟨hP, hS, lv_sub hl [0] rfl, h⟩
        · have h := if_f (mt (i2_eq (x := r131) (y := 20) hr132 (by decide)).mpr c133) h
          refine lv_aload_n hx hb eX12_qGoesOn_13.2.2.2.2.2.1 rfl (lv_at hl 0 rfl) ?_
          obtain ⟨r135, hc134, h⟩ := bn_e h
          refine ycV (r0 := i2 r135) (As := []) (rest := []) (C := RX12) (n := 0) ⟨hx, hb, hml, hown, ht⟩ (k_x12_qBracket l D a _ _ hc134) (zgV ml_X12_720 im_X12_qBracket se_X12_qBracket in_X12 co_X12_qBracket) rfl rfl (by decide +kernel) ⟨Nat.le_of_ble_eq_true rfl, Nat.le_of_ble_eq_true rfl⟩ hN hK hP hS 0 RW_0 rfl rfl rfl hl.1 rfl (Nat.le_of_ble_eq_true rfl) eX12_qGoesOn_13.2.2.2.2.2.2.1 ⟨Nat.le_of_ble_eq_true rfl, Nat.le_of_ble_eq_true rfl⟩ (fun H locs hP hS => ?_)
          refine lv_bipush (v := 23) hx hb eX12_qGoesOn_13.2.2.2.2.2.2.2 (by decide) ?_
          obtain ⟨hr136, h⟩ := rg_e h
          refine lv_icmp_eq (tgt := 43) hx hb eX12_qGoesOn_31.1 (by decide) (fun c137 => ?_) (fun c137 => ?_)
          · have h := if_t ((i2_eq (x := r135) (y := 23) hr136 (by decide)).mp c137) h
            exact J43 s126 _ _ _ ⟨hP, hS, lv_sub hl [0] rfl, h⟩
          · have h := if_f (mt (i2_eq (x := r135) (y := 23) hr136 (by decide)).mpr c137) h
            refine lv_aload_n hx hb eX12_qGoesOn_31.2.1 rfl (lv_at hl 0 rfl) ?_
            obtain ⟨r139, hc138, h⟩ := bn_e h
            refine ycV (r0 := i2 r139) (As := []) (rest := []) (C := RX12) (n := 0) ⟨hx, hb, hml, hown, ht⟩ (k_x12_qBracket l D a _ _ hc138) (zgV ml_X12_720 im_X12_qBracket se_X12_qBracket in_X12 co_X12_qBracket) rfl rfl (by decide +kernel) ⟨Nat.le_of_ble_eq_true rfl, Nat.le_of_ble_eq_true rfl⟩ hN hK hP hS 0 RW_0 rfl rfl rfl hl.1 rfl (Nat.le_of_ble_eq_true rfl) eX12_qGoesOn_31.2.2.1 ⟨Nat.le_of_ble_eq_true rfl, Nat.le_of_ble_eq_true rfl⟩ (fun H locs hP hS => ?_)
            refine lv_bipush (v := 24) hx hb eX12_qGoesOn_31.2.2.2.1 (by decide) ?_
            obtain ⟨hr140, h⟩ := rg_e h
            refine lv_icmp_ne (tgt := 122) hx hb eX12_qGoesOn_31.2.2.2.2.1 (by decide) (fun c141 => ?_) (fun c141 => ?_)
            · have h := if_f (mt (i2_eq (x := r139) (y := 24) hr140 (by decide)).mpr c141) h
              exact J122 s126 _ _ _ ⟨hP, hS, lv_sub hl [0] rfl, h⟩
            · have h := if_t ((i2_eq (x := r139) (y := 24) hr140 (by decide)).mp c141) h
              exact J43 s126 _ _ _ ⟨hP, hS, lv_sub hl [0] rfl, h⟩
  exact J0 FU s _ _ _ ⟨hP, hS, lv_sub hl [0] rfl, h⟩
