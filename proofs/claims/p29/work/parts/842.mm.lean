theorem cl_X12_674 : Cond.constantLong RX12 674 1103515245 ∈ lw_gd := zm (lw_g_10 (List.mem_of_getElem? (i := 140) (by decide +kernel))) rfl
theorem cl_X12_676 : Cond.constantLong RX12 676 12345 ∈ lw_gd := zm (lw_g_10 (List.mem_of_getElem? (i := 141) (by decide +kernel))) rfl
theorem cl_X12_678 : Cond.constantLong RX12 678 2147483648 ∈ lw_gd := zm (lw_g_10 (List.mem_of_getElem? (i := 142) (by decide +kernel))) rfl
theorem cl_X12_680 : Cond.constantLong RX12 680 64 ∈ lw_gd := zm (lw_g_10 (List.mem_of_getElem? (i := 143) (by decide +kernel))) rfl
theorem cl_X12_688 : Cond.constantLong RX12 688 40 ∈ lw_gd := zm (lw_g_10 (List.mem_of_getElem? (i := 131) (by decide +kernel))) rfl
theorem cl_X12_766 : Cond.constantLong RX12 766 (-1) ∈ lw_gd := zm (lw_g_10 (List.mem_of_getElem? (i := 157) (by decide +kernel))) rfl
theorem cl_X12_771 : Cond.constantLong RX12 771 (-1000000000000000) ∈ lw_gd := zm (lw_g_10 (List.mem_of_getElem? (i := 152) (by decide +kernel))) rfl
theorem co_X12_drawOf : Cond.code yX12_drawOf cX12_drawOf 2 (some .int) ∈ lw_gd := zm (lw_g_10 (List.mem_of_getElem? (i := 139) (by decide +kernel))) rfl
theorem co_X12_isDrawn : Cond.code yX12_isDrawn cX12_isDrawn 4 (some .boolean) ∈ lw_gd := zm (lw_g_10 (List.mem_of_getElem? (i := 135) (by decide +kernel))) rfl
theorem co_X12_isRefused : Cond.code yX12_isRefused cX12_isRefused 2 (some .boolean) ∈ lw_gd := zm (lw_g_10 (List.mem_of_getElem? (i := 126) (by decide +kernel))) rfl
theorem co_X12_qKind : Cond.code yX12_qKind cX12_qKind 2 (some .int) ∈ lw_gd := zm (lw_g_10 (List.mem_of_getElem? (i := 156) (by decide +kernel))) rfl
theorem co_X12_qOf : Cond.code yX12_qOf cX12_qOf 5 (some .long) ∈ lw_gd := zm (lw_g_10 (List.mem_of_getElem? (i := 165) (by decide +kernel))) rfl
theorem co_X12_qTakes : Cond.code yX12_qTakes cX12_qTakes 6 none ∈ lw_gd := zm (lw_g_10 (List.mem_of_getElem? (i := 169) (by decide +kernel))) rfl
theorem co_X12_qTold : Cond.code yX12_qTold cX12_qTold 4 (some .long) ∈ lw_gd := zm (lw_g_10 (List.mem_of_getElem? (i := 161) (by decide +kernel))) rfl
theorem co_X12_volumeAt : Cond.code yX12_volumeAt cX12_volumeAt 4 (some .int) ∈ lw_gd := zm (lw_g_10 (List.mem_of_getElem? (i := 147) (by decide +kernel))) rfl
theorem fl_X12_763 : Cond.fieldLink RX12 763 "CloneVolumesModel" "qAnswer" "J" ∈ lw_gd := zm (lw_g_7 (List.mem_of_getElem? (i := 10) (by decide +kernel))) rfl
theorem fl_X12_768 : Cond.fieldLink RX12 768 "CloneVolumesModel" "qIsNew" "Z" ∈ lw_gd := zm (lw_g_7 (List.mem_of_getElem? (i := 11) (by decide +kernel))) rfl
theorem im_X12_drawOf : Cond.instanceMethod yX12_drawOf ∈ lw_gd := zm (lw_g_10 (List.mem_of_getElem? (i := 138) (by decide +kernel))) rfl
theorem im_X12_isDrawn : Cond.instanceMethod yX12_isDrawn ∈ lw_gd := zm (lw_g_10 (List.mem_of_getElem? (i := 134) (by decide +kernel))) rfl
theorem im_X12_isRefused : Cond.instanceMethod yX12_isRefused ∈ lw_gd := zm (lw_g_10 (List.mem_of_getElem? (i := 125) (by decide +kernel))) rfl
theorem im_X12_qKind : Cond.instanceMethod yX12_qKind ∈ lw_gd := zm (lw_g_10 (List.mem_of_getElem? (i := 155) (by decide +kernel))) rfl
theorem im_X12_qOf : Cond.instanceMethod yX12_qOf ∈ lw_gd := zm (lw_g_10 (List.mem_of_getElem? (i := 164) (by decide +kernel))) rfl
theorem im_X12_qTakes : Cond.instanceMethod yX12_qTakes ∈ lw_gd := zm (lw_g_10 (List.mem_of_getElem? (i := 168) (by decide +kernel))) rfl
theorem im_X12_qTold : Cond.instanceMethod yX12_qTold ∈ lw_gd := zm (lw_g_10 (List.mem_of_getElem? (i := 160) (by decide +kernel))) rfl
theorem im_X12_volumeAt : Cond.instanceMethod yX12_volumeAt ∈ lw_gd := zm (lw_g_10 (List.mem_of_getElem? (i := 146) (by decide +kernel))) rfl
theorem ml_X12_671 : Cond.methodLink RX12 671 yX12_isRefused ∈ lw_gd := zm (lw_g_10 (List.mem_of_getElem? (i := 123) (by decide +kernel))) rfl
theorem ml_X12_682 : Cond.methodLink RX12 682 yX12_drawOf ∈ lw_gd := zm (lw_g_10 (List.mem_of_getElem? (i := 136) (by decide +kernel))) rfl
theorem ml_X12_685 : Cond.methodLink RX12 685 yX12_volumeAt ∈ lw_gd := zm (lw_g_10 (List.mem_of_getElem? (i := 144) (by decide +kernel))) rfl
theorem ml_X12_690 : Cond.methodLink RX12 690 yX12_isDrawn ∈ lw_gd := zm (lw_g_10 (List.mem_of_getElem? (i := 132) (by decide +kernel))) rfl
theorem ml_X12_759 : Cond.methodLink RX12 759 yX12_qOf ∈ lw_gd := zm (lw_g_10 (List.mem_of_getElem? (i := 162) (by decide +kernel))) rfl
theorem ml_X12_773 : Cond.methodLink RX12 773 yX12_qKind ∈ lw_gd := zm (lw_g_10 (List.mem_of_getElem? (i := 153) (by decide +kernel))) rfl
theorem ml_X12_776 : Cond.methodLink RX12 776 yX12_qTold ∈ lw_gd := zm (lw_g_10 (List.mem_of_getElem? (i := 158) (by decide +kernel))) rfl
theorem ml_X12_779 : Cond.methodLink RX12 779 yX12_qTakes ∈ lw_gd := zm (lw_g_10 (List.mem_of_getElem? (i := 166) (by decide +kernel))) rfl
theorem se_X12_drawOf : Cond.selects RX12 yX12_drawOf yX12_drawOf ∈ lw_gd := zm (List.mem_of_getElem? (i := 177) (by decide +kernel)) rfl
theorem se_X12_isDrawn : Cond.selects RX12 yX12_isDrawn yX12_isDrawn ∈ lw_gd := zm (List.mem_of_getElem? (i := 176) (by decide +kernel)) rfl
theorem se_X12_isRefused : Cond.selects RX12 yX12_isRefused yX12_isRefused ∈ lw_gd := zm (List.mem_of_getElem? (i := 175) (by decide +kernel)) rfl
theorem se_X12_qKind : Cond.selects RX12 yX12_qKind yX12_qKind ∈ lw_gd := zm (List.mem_of_getElem? (i := 179) (by decide +kernel)) rfl
theorem se_X12_qOf : Cond.selects RX12 yX12_qOf yX12_qOf ∈ lw_gd := zm (List.mem_of_getElem? (i := 181) (by decide +kernel)) rfl
theorem se_X12_qTakes : Cond.selects RX12 yX12_qTakes yX12_qTakes ∈ lw_gd := zm (List.mem_of_getElem? (i := 182) (by decide +kernel)) rfl
theorem se_X12_qTold : Cond.selects RX12 yX12_qTold yX12_qTold ∈ lw_gd := zm (List.mem_of_getElem? (i := 180) (by decide +kernel)) rfl
theorem se_X12_volumeAt : Cond.selects RX12 yX12_volumeAt yX12_volumeAt ∈ lw_gd := zm (List.mem_of_getElem? (i := 178) (by decide +kernel)) rfl
theorem eX12_ask_0 : decode cX12_ask 0 = .ok (.aload_n 0, 1) ∧ decode cX12_ask 1 = .ok (.getfield 406, 3) ∧ decode cX12_ask 4 = .ok (.ifCond .ne 12, 3) ∧ decode cX12_ask 7 = .ok (.aload_n 0, 1) ∧ decode cX12_ask 8 = .ok (.iconst 0, 1) ∧ decode cX12_ask 9 = .ok (.putfield 263, 3) ∧ decode cX12_ask 12 = .ok (.ldc2_w 771, 3) ∧ decode cX12_ask 15 = .ok (.lreturn, 1) := by decide +kernel
theorem eX12_ask_16 : decode cX12_ask 16 = .ok (.aload_n 0, 1) ∧ decode cX12_ask 17 = .ok (.aload_n 0, 1) ∧ decode cX12_ask 18 = .ok (.getfield 263, 3) ∧ decode cX12_ask 21 = .ok (.putfield 275, 3) ∧ decode cX12_ask 24 = .ok (.aload_n 0, 1) ∧ decode cX12_ask 25 = .ok (.iconst 0, 1) ∧ decode cX12_ask 26 = .ok (.putfield 263, 3) ∧ decode cX12_ask 29 = .ok (.aload_n 0, 1) := by decide +kernel
theorem eX12_ask_30 : decode cX12_ask 30 = .ok (.iconst 0, 1) ∧ decode cX12_ask 31 = .ok (.putfield 272, 3) ∧ decode cX12_ask 34 = .ok (.aload_n 0, 1) ∧ decode cX12_ask 35 = .ok (.iconst (-1), 1) ∧ decode cX12_ask 36 = .ok (.putfield 286, 3) ∧ decode cX12_ask 39 = .ok (.aload_n 0, 1) ∧ decode cX12_ask 40 = .ok (.iconst 0, 1) ∧ decode cX12_ask 41 = .ok (.putfield 266, 3) := by decide +kernel
theorem eX12_ask_44 : decode cX12_ask 44 = .ok (.aload_n 0, 1) ∧ decode cX12_ask 45 = .ok (.iconst (-1), 1) ∧ decode cX12_ask 46 = .ok (.putfield 269, 3) ∧ decode cX12_ask 49 = .ok (.aload_n 0, 1) ∧ decode cX12_ask 50 = .ok (.iconst 3, 1) ∧ decode cX12_ask 51 = .ok (.putfield 324, 3) ∧ decode cX12_ask 54 = .ok (.aload_n 0, 1) ∧ decode cX12_ask 55 = .ok (.iconst 0, 1) := by decide +kernel
theorem eX12_ask_56 : decode cX12_ask 56 = .ok (.putfield 353, 3) ∧ decode cX12_ask 59 = .ok (.aload_n 0, 1) ∧ decode cX12_ask 60 = .ok (.iconst 0, 1) ∧ decode cX12_ask 61 = .ok (.putfield 356, 3) ∧ decode cX12_ask 64 = .ok (.aload_n 0, 1) ∧ decode cX12_ask 65 = .ok (.iconst 0, 1) ∧ decode cX12_ask 66 = .ok (.putfield 359, 3) ∧ decode cX12_ask 69 = .ok (.aload_n 0, 1) := by decide +kernel
theorem eX12_ask_70 : decode cX12_ask 70 = .ok (.iconst 0, 1) ∧ decode cX12_ask 71 = .ok (.putfield 362, 3) ∧ decode cX12_ask 74 = .ok (.aload_n 0, 1) ∧ decode cX12_ask 75 = .ok (.invokevirtual 773, 3) ∧ decode cX12_ask 78 = .ok (.istore_n 1, 1) ∧ decode cX12_ask 79 = .ok (.aload_n 0, 1) ∧ decode cX12_ask 80 = .ok (.getfield 266, 3) ∧ decode cX12_ask 83 = .ok (.ifCond .ne 15, 3) := by decide +kernel
theorem eX12_ask_86 : decode cX12_ask 86 = .ok (.iload_n 1, 1) ∧ decode cX12_ask 87 = .ok (.iconst 3, 1) ∧ decode cX12_ask 88 = .ok (.if_icmp .ge 10, 3) ∧ decode cX12_ask 91 = .ok (.aload_n 0, 1) ∧ decode cX12_ask 92 = .ok (.invokevirtual 365, 3) ∧ decode cX12_ask 95 = .ok (.goto 14, 3) ∧ decode cX12_ask 98 = .ok (.aload_n 0, 1) ∧ decode cX12_ask 99 = .ok (.getfield 266, 3) := by decide +kernel
theorem eX12_ask_102 : decode cX12_ask 102 = .ok (.ifCond .ne 7, 3) ∧ decode cX12_ask 105 = .ok (.aload_n 0, 1) ∧ decode cX12_ask 106 = .ok (.invokevirtual 368, 3) ∧ decode cX12_ask 109 = .ok (.aload_n 0, 1) ∧ decode cX12_ask 110 = .ok (.getfield 266, 3) ∧ decode cX12_ask 113 = .ok (.ifCond .ne 20, 3) ∧ decode cX12_ask 116 = .ok (.aload_n 0, 1) ∧ decode cX12_ask 117 = .ok (.invokevirtual 278, 3) := by decide +kernel
theorem eX12_ask_120 : decode cX12_ask 120 = .ok (.iconst (-1), 1) ∧ decode cX12_ask 121 = .ok (.if_icmp .eq 12, 3) ∧ decode cX12_ask 124 = .ok (.aload_n 0, 1) ∧ decode cX12_ask 125 = .ok (.iconst 1, 1) ∧ decode cX12_ask 126 = .ok (.aload_n 0, 1) ∧ decode cX12_ask 127 = .ok (.getfield 272, 3) ∧ decode cX12_ask 130 = .ok (.invokevirtual 296, 3) ∧ decode cX12_ask 133 = .ok (.aload_n 0, 1) := by decide +kernel
theorem eX12_ask_134 : decode cX12_ask 134 = .ok (.aload_n 0, 1) ∧ decode cX12_ask 135 = .ok (.getfield 266, 3) ∧ decode cX12_ask 138 = .ok (.putfield 396, 3) ∧ decode cX12_ask 141 = .ok (.aload_n 0, 1) ∧ decode cX12_ask 142 = .ok (.aload_n 0, 1) ∧ decode cX12_ask 143 = .ok (.getfield 269, 3) ∧ decode cX12_ask 146 = .ok (.putfield 13, 3) ∧ decode cX12_ask 149 = .ok (.aload_n 0, 1) := by decide +kernel
theorem eX12_ask_150 : decode cX12_ask 150 = .ok (.getfield 266, 3) ∧ decode cX12_ask 153 = .ok (.ifCond .eq 7, 3) ∧ decode cX12_ask 156 = .ok (.ldc2_w 771, 3) ∧ decode cX12_ask 159 = .ok (.lreturn, 1) ∧ decode cX12_ask 160 = .ok (.aload_n 0, 1) ∧ decode cX12_ask 161 = .ok (.iload_n 1, 1) ∧ decode cX12_ask 162 = .ok (.iconst 2, 1) ∧ decode cX12_ask 163 = .ok (.if_icmp .ge 9, 3) := by decide +kernel
theorem eX12_ask_166 : decode cX12_ask 166 = .ok (.ldc2_w 766, 3) ∧ decode cX12_ask 169 = .ok (.goto 4, 3) ∧ decode cX12_ask 172 = .ok (.lconst 0, 1) ∧ decode cX12_ask 173 = .ok (.putfield 763, 3) ∧ decode cX12_ask 176 = .ok (.aload_n 0, 1) ∧ decode cX12_ask 177 = .ok (.iconst 1, 1) ∧ decode cX12_ask 178 = .ok (.putfield 768, 3) ∧ decode cX12_ask 181 = .ok (.iconst 0, 1) := by decide +kernel
theorem eX12_ask_182 : decode cX12_ask 182 = .ok (.istore_n 2, 1) ∧ decode cX12_ask 183 = .ok (.iload_n 2, 1) ∧ decode cX12_ask 184 = .ok (.aload_n 0, 1) ∧ decode cX12_ask 185 = .ok (.invokevirtual 429, 3) ∧ decode cX12_ask 188 = .ok (.if_icmp .ge 67, 3) ∧ decode cX12_ask 191 = .ok (.aload_n 0, 1) ∧ decode cX12_ask 192 = .ok (.iload_n 2, 1) ∧ decode cX12_ask 193 = .ok (.putfield 457, 3) := by decide +kernel
theorem eX12_ask_196 : decode cX12_ask 196 = .ok (.aload_n 0, 1) ∧ decode cX12_ask 197 = .ok (.aload_n 0, 1) ∧ decode cX12_ask 198 = .ok (.iload_n 2, 1) ∧ decode cX12_ask 199 = .ok (.invokevirtual 496, 3) ∧ decode cX12_ask 202 = .ok (.ifCond .eq 11, 3) ∧ decode cX12_ask 205 = .ok (.aload_n 0, 1) ∧ decode cX12_ask 206 = .ok (.iload_n 2, 1) ∧ decode cX12_ask 207 = .ok (.invokevirtual 460, 3) := by decide +kernel
theorem eX12_ask_210 : decode cX12_ask 210 = .ok (.goto 4, 3) ∧ decode cX12_ask 213 = .ok (.iconst 0, 1) ∧ decode cX12_ask 214 = .ok (.putfield 463, 3) ∧ decode cX12_ask 217 = .ok (.aload_n 0, 1) ∧ decode cX12_ask 218 = .ok (.aload_n 0, 1) ∧ decode cX12_ask 219 = .ok (.iload_n 2, 1) ∧ decode cX12_ask 220 = .ok (.invokevirtual 496, 3) ∧ decode cX12_ask 223 = .ok (.ifCond .eq 11, 3) := by decide +kernel
theorem eX12_ask_226 : decode cX12_ask 226 = .ok (.aload_n 0, 1) ∧ decode cX12_ask 227 = .ok (.iload_n 2, 1) ∧ decode cX12_ask 228 = .ok (.invokevirtual 466, 3) ∧ decode cX12_ask 231 = .ok (.goto 4, 3) ∧ decode cX12_ask 234 = .ok (.iconst 0, 1) ∧ decode cX12_ask 235 = .ok (.putfield 469, 3) ∧ decode cX12_ask 238 = .ok (.aload_n 0, 1) ∧ decode cX12_ask 239 = .ok (.iload_n 1, 1) := by decide +kernel
theorem eX12_ask_240 : decode cX12_ask 240 = .ok (.aload_n 0, 1) ∧ decode cX12_ask 241 = .ok (.iload_n 2, 1) ∧ decode cX12_ask 242 = .ok (.invokevirtual 776, 3) ∧ decode cX12_ask 245 = .ok (.iload_n 2, 1) ∧ decode cX12_ask 246 = .ok (.invokevirtual 779, 3) ∧ decode cX12_ask 249 = .ok (.iinc 2 1, 3) ∧ decode cX12_ask 252 = .ok (.goto (-69), 3) ∧ decode cX12_ask 255 = .ok (.aload_n 0, 1) := by decide +kernel
theorem eX12_ask_256 : decode cX12_ask 256 = .ok (.getfield 763, 3) ∧ decode cX12_ask 259 = .ok (.lreturn, 1) ∧ decode cX12_chance 0 = .ok (.aload_n 0, 1) ∧ decode cX12_chance 1 = .ok (.getfield 406, 3) ∧ decode cX12_chance 4 = .ok (.ifCond .eq 15, 3) ∧ decode cX12_chance 7 = .ok (.iload_n 1, 1) ∧ decode cX12_chance 8 = .ok (.i2l, 1) ∧ decode cX12_chance 9 = .ok (.lconst 1, 1) := by decide +kernel
theorem eX12_chance_10 : decode cX12_chance 10 = .ok (.ldc2_w 688, 3) ∧ decode cX12_chance 13 = .ok (.invokestatic 309, 3) ∧ decode cX12_chance 16 = .ok (.ifCond .ne 9, 3) ∧ decode cX12_chance 19 = .ok (.aload_n 0, 1) ∧ decode cX12_chance 20 = .ok (.iconst 3, 1) ∧ decode cX12_chance 21 = .ok (.invokevirtual 399, 3) ∧ decode cX12_chance 24 = .ok (.ireturn, 1) ∧ decode cX12_chance 25 = .ok (.aload_n 0, 1) := by decide +kernel
theorem eX12_chance_26 : decode cX12_chance 26 = .ok (.invokevirtual 662, 3) ∧ decode cX12_chance 29 = .ok (.aload_n 0, 1) ∧ decode cX12_chance 30 = .ok (.invokevirtual 568, 3) ∧ decode cX12_chance 33 = .ok (.iconst 0, 1) ∧ decode cX12_chance 34 = .ok (.istore_n 2, 1) ∧ decode cX12_chance 35 = .ok (.iconst 0, 1) ∧ decode cX12_chance 36 = .ok (.istore_n 3, 1) ∧ decode cX12_chance 37 = .ok (.iload_n 3, 1) := by decide +kernel
theorem eX12_chance_38 : decode cX12_chance 38 = .ok (.iload_n 1, 1) ∧ decode cX12_chance 39 = .ok (.if_icmp .ge 19, 3) ∧ decode cX12_chance 42 = .ok (.aload_n 0, 1) ∧ decode cX12_chance 43 = .ok (.invokevirtual 690, 3) ∧ decode cX12_chance 46 = .ok (.ifCond .eq 6, 3) ∧ decode cX12_chance 49 = .ok (.iinc 2 1, 3) ∧ decode cX12_chance 52 = .ok (.iinc 3 1, 3) ∧ decode cX12_chance 55 = .ok (.goto (-18), 3) := by decide +kernel
theorem eX12_chance_58 : decode cX12_chance 58 = .ok (.aload_n 0, 1) ∧ decode cX12_chance 59 = .ok (.bipush 6, 2) ∧ decode cX12_chance 61 = .ok (.sipush 255, 3) ∧ decode cX12_chance 64 = .ok (.invokevirtual 659, 3) ∧ decode cX12_chance 67 = .ok (.iload_n 2, 1) ∧ decode cX12_chance 68 = .ok (.ireturn, 1) ∧ decode cX12_drawOf 0 = .ok (.aload_n 0, 1) ∧ decode cX12_drawOf 1 = .ok (.ldc2_w 674, 3) := by decide +kernel
theorem eX12_drawOf_4 : decode cX12_drawOf 4 = .ok (.aload_n 0, 1) ∧ decode cX12_drawOf 5 = .ok (.getfield 173, 3) ∧ decode cX12_drawOf 8 = .ok (.lmul, 1) ∧ decode cX12_drawOf 9 = .ok (.ldc2_w 676, 3) ∧ decode cX12_drawOf 12 = .ok (.ladd, 1) ∧ decode cX12_drawOf 13 = .ok (.ldc2_w 678, 3) ∧ decode cX12_drawOf 16 = .ok (.lrem, 1) ∧ decode cX12_drawOf 17 = .ok (.putfield 173, 3) := by decide +kernel
theorem eX12_drawOf_20 : decode cX12_drawOf 20 = .ok (.aload_n 0, 1) ∧ decode cX12_drawOf 21 = .ok (.getfield 173, 3) ∧ decode cX12_drawOf 24 = .ok (.ldc2_w 680, 3) ∧ decode cX12_drawOf 27 = .ok (.ldiv, 1) ∧ decode cX12_drawOf 28 = .ok (.iload_n 1, 1) ∧ decode cX12_drawOf 29 = .ok (.i2l, 1) ∧ decode cX12_drawOf 30 = .ok (.lrem, 1) ∧ decode cX12_drawOf 31 = .ok (.l2i, 1) := by decide +kernel
theorem eX12_drawOf_32 : decode cX12_drawOf 32 = .ok (.ireturn, 1) ∧ decode cX12_isDrawn 0 = .ok (.aload_n 0, 1) ∧ decode cX12_isDrawn 1 = .ok (.bipush 100, 2) ∧ decode cX12_isDrawn 3 = .ok (.invokevirtual 682, 3) ∧ decode cX12_isDrawn 6 = .ok (.aload_n 0, 1) ∧ decode cX12_isDrawn 7 = .ok (.getfield 102, 3) ∧ decode cX12_isDrawn 10 = .ok (.bipush 9, 2) ∧ decode cX12_isDrawn 12 = .ok (.iaload, 1) := by decide +kernel
theorem eX12_isDrawn_13 : decode cX12_isDrawn 13 = .ok (.if_icmp .ge 7, 3) ∧ decode cX12_isDrawn 16 = .ok (.aload_n 0, 1) ∧ decode cX12_isDrawn 17 = .ok (.invokevirtual 413, 3) ∧ decode cX12_isDrawn 20 = .ok (.aload_n 0, 1) ∧ decode cX12_isDrawn 21 = .ok (.invokevirtual 584, 3) ∧ decode cX12_isDrawn 24 = .ok (.ifCond .ne 5, 3) ∧ decode cX12_isDrawn 27 = .ok (.iconst 0, 1) ∧ decode cX12_isDrawn 28 = .ok (.ireturn, 1) := by decide +kernel
theorem eX12_isDrawn_29 : decode cX12_isDrawn 29 = .ok (.aload_n 0, 1) ∧ decode cX12_isDrawn 30 = .ok (.aload_n 0, 1) ∧ decode cX12_isDrawn 31 = .ok (.aload_n 0, 1) ∧ decode cX12_isDrawn 32 = .ok (.invokevirtual 584, 3) ∧ decode cX12_isDrawn 35 = .ok (.invokevirtual 682, 3) ∧ decode cX12_isDrawn 38 = .ok (.invokevirtual 685, 3) ∧ decode cX12_isDrawn 41 = .ok (.istore_n 1, 1) ∧ decode cX12_isDrawn 42 = .ok (.aload_n 0, 1) := by decide +kernel
theorem eX12_isDrawn_43 : decode cX12_isDrawn 43 = .ok (.iconst 3, 1) ∧ decode cX12_isDrawn 44 = .ok (.invokevirtual 682, 3) ∧ decode cX12_isDrawn 47 = .ok (.istore_n 2, 1) ∧ decode cX12_isDrawn 48 = .ok (.aload_n 0, 1) ∧ decode cX12_isDrawn 49 = .ok (.bipush 40, 2) ∧ decode cX12_isDrawn 51 = .ok (.invokevirtual 682, 3) ∧ decode cX12_isDrawn 54 = .ok (.istore_n 3, 1) ∧ decode cX12_isDrawn 55 = .ok (.iload_n 2, 1) := by decide +kernel
theorem eX12_isDrawn_56 : decode cX12_isDrawn 56 = .ok (.iconst 2, 1) ∧ decode cX12_isDrawn 57 = .ok (.if_icmp .ge 19, 3) ∧ decode cX12_isDrawn 60 = .ok (.aload_n 0, 1) ∧ decode cX12_isDrawn 61 = .ok (.iconst 2, 1) ∧ decode cX12_isDrawn 62 = .ok (.iload_n 1, 1) ∧ decode cX12_isDrawn 63 = .ok (.iload_n 3, 1) ∧ decode cX12_isDrawn 64 = .ok (.aload_n 0, 1) ∧ decode cX12_isDrawn 65 = .ok (.bipush 100, 2) := by decide +kernel
theorem eX12_isDrawn_67 : decode cX12_isDrawn 67 = .ok (.invokevirtual 682, 3) ∧ decode cX12_isDrawn 70 = .ok (.invokevirtual 425, 3) ∧ decode cX12_isDrawn 73 = .ok (.goto 11, 3) ∧ decode cX12_isDrawn 76 = .ok (.aload_n 0, 1) ∧ decode cX12_isDrawn 77 = .ok (.iconst 3, 1) ∧ decode cX12_isDrawn 78 = .ok (.iload_n 1, 1) ∧ decode cX12_isDrawn 79 = .ok (.iload_n 3, 1) ∧ decode cX12_isDrawn 80 = .ok (.iconst 0, 1) := by decide +kernel
theorem eX12_isDrawn_81 : decode cX12_isDrawn 81 = .ok (.invokevirtual 425, 3) ∧ decode cX12_isDrawn 84 = .ok (.ireturn, 1) ∧ decode cX12_qKind 0 = .ok (.aload_n 0, 1) ∧ decode cX12_qKind 1 = .ok (.aload_n 0, 1) ∧ decode cX12_qKind 2 = .ok (.getfield 177, 3) ∧ decode cX12_qKind 5 = .ok (.invokevirtual 293, 3) ∧ decode cX12_qKind 8 = .ok (.ifCond .eq 7, 3) ∧ decode cX12_qKind 11 = .ok (.iconst 0, 1) := by decide +kernel
theorem eX12_qKind_12 : decode cX12_qKind 12 = .ok (.goto 64, 3) ∧ decode cX12_qKind 15 = .ok (.aload_n 0, 1) ∧ decode cX12_qKind 16 = .ok (.aload_n 0, 1) ∧ decode cX12_qKind 17 = .ok (.getfield 180, 3) ∧ decode cX12_qKind 20 = .ok (.invokevirtual 293, 3) ∧ decode cX12_qKind 23 = .ok (.ifCond .eq 7, 3) ∧ decode cX12_qKind 26 = .ok (.iconst 1, 1) ∧ decode cX12_qKind 27 = .ok (.goto 49, 3) := by decide +kernel
theorem eX12_qKind_30 : decode cX12_qKind 30 = .ok (.aload_n 0, 1) ∧ decode cX12_qKind 31 = .ok (.aload_n 0, 1) ∧ decode cX12_qKind 32 = .ok (.getfield 183, 3) ∧ decode cX12_qKind 35 = .ok (.invokevirtual 293, 3) ∧ decode cX12_qKind 38 = .ok (.ifCond .eq 7, 3) ∧ decode cX12_qKind 41 = .ok (.iconst 2, 1) ∧ decode cX12_qKind 42 = .ok (.goto 34, 3) ∧ decode cX12_qKind 45 = .ok (.aload_n 0, 1) := by decide +kernel
theorem eX12_qKind_46 : decode cX12_qKind 46 = .ok (.aload_n 0, 1) ∧ decode cX12_qKind 47 = .ok (.getfield 186, 3) ∧ decode cX12_qKind 50 = .ok (.invokevirtual 293, 3) ∧ decode cX12_qKind 53 = .ok (.ifCond .eq 7, 3) ∧ decode cX12_qKind 56 = .ok (.iconst 3, 1) ∧ decode cX12_qKind 57 = .ok (.goto 19, 3) ∧ decode cX12_qKind 60 = .ok (.aload_n 0, 1) ∧ decode cX12_qKind 61 = .ok (.aload_n 0, 1) := by decide +kernel
theorem eX12_qKind_62 : decode cX12_qKind 62 = .ok (.getfield 189, 3) ∧ decode cX12_qKind 65 = .ok (.invokevirtual 293, 3) ∧ decode cX12_qKind 68 = .ok (.ifCond .eq 7, 3) ∧ decode cX12_qKind 71 = .ok (.iconst 4, 1) ∧ decode cX12_qKind 72 = .ok (.goto 4, 3) ∧ decode cX12_qKind 75 = .ok (.iconst 5, 1) ∧ decode cX12_qKind 76 = .ok (.istore_n 1, 1) ∧ decode cX12_qKind 77 = .ok (.iload_n 1, 1) := by decide +kernel
theorem eX12_qKind_78 : decode cX12_qKind 78 = .ok (.iconst 5, 1) ∧ decode cX12_qKind 79 = .ok (.if_icmp .ne 11, 3) ∧ decode cX12_qKind 82 = .ok (.aload_n 0, 1) ∧ decode cX12_qKind 83 = .ok (.aload_n 0, 1) ∧ decode cX12_qKind 84 = .ok (.getfield 192, 3) ∧ decode cX12_qKind 87 = .ok (.invokevirtual 327, 3) ∧ decode cX12_qKind 90 = .ok (.iload_n 1, 1) ∧ decode cX12_qKind 91 = .ok (.ireturn, 1) := by decide +kernel
theorem eX12_qOf_0 : decode cX12_qOf 0 = .ok (.iload_n 1, 1) ∧ decode cX12_qOf 1 = .ok (.lookupswitch 39 #[(0, 19)], 19) ∧ decode cX12_qOf 20 = .ok (.aload_n 0, 1) ∧ decode cX12_qOf 21 = .ok (.lload_n 2, 1) ∧ decode cX12_qOf 22 = .ok (.invokevirtual 616, 3) ∧ decode cX12_qOf 25 = .ok (.ifCond .eq 13, 3) ∧ decode cX12_qOf 28 = .ok (.aload_n 0, 1) ∧ decode cX12_qOf 29 = .ok (.lload_n 2, 1) := by decide +kernel
theorem eX12_qOf_30 : decode cX12_qOf 30 = .ok (.l2i, 1) ∧ decode cX12_qOf 31 = .ok (.invokevirtual 432, 3) ∧ decode cX12_qOf 34 = .ok (.i2l, 1) ∧ decode cX12_qOf 35 = .ok (.goto 4, 3) ∧ decode cX12_qOf 38 = .ok (.lconst 0, 1) ∧ decode cX12_qOf 39 = .ok (.lreturn, 1) ∧ decode cX12_qOf 40 = .ok (.aload_n 0, 1) ∧ decode cX12_qOf 41 = .ok (.lload_n 2, 1) := by decide +kernel
theorem eX12_qOf_42 : decode cX12_qOf 42 = .ok (.invokevirtual 616, 3) ∧ decode cX12_qOf 45 = .ok (.ifCond .eq 23, 3) ∧ decode cX12_qOf 48 = .ok (.aload_n 0, 1) ∧ decode cX12_qOf 49 = .ok (.lload_n 2, 1) ∧ decode cX12_qOf 50 = .ok (.l2i, 1) ∧ decode cX12_qOf 51 = .ok (.invokevirtual 435, 3) ∧ decode cX12_qOf 54 = .ok (.ifCond .eq 14, 3) ∧ decode cX12_qOf 57 = .ok (.aload_n 0, 1) := by decide +kernel
theorem eX12_qOf_58 : decode cX12_qOf 58 = .ok (.lload_n 2, 1) ∧ decode cX12_qOf 59 = .ok (.l2i, 1) ∧ decode cX12_qOf 60 = .ok (.iconst 0, 1) ∧ decode cX12_qOf 61 = .ok (.invokevirtual 517, 3) ∧ decode cX12_qOf 64 = .ok (.i2l, 1) ∧ decode cX12_qOf 65 = .ok (.goto 4, 3) ∧ decode cX12_qOf 68 = .ok (.lconst 0, 1) ∧ decode cX12_qOf 69 = .ok (.lreturn, 1) := by decide +kernel
theorem eX12_qTakes_0 : decode cX12_qTakes 0 = .ok (.iload_n 1, 1) ∧ decode cX12_qTakes 1 = .ok (.iconst 3, 1) ∧ decode cX12_qTakes 2 = .ok (.if_icmp .ge 13, 3) ∧ decode cX12_qTakes 5 = .ok (.lload_n 2, 1) ∧ decode cX12_qTakes 6 = .ok (.lconst 1, 1) ∧ decode cX12_qTakes 7 = .ok (.lcmp, 1) ∧ decode cX12_qTakes 8 = .ok (.ifCond .ne 7, 3) ∧ decode cX12_qTakes 11 = .ok (.iconst 1, 1) := by decide +kernel
theorem eX12_qTakes_12 : decode cX12_qTakes 12 = .ok (.goto 4, 3) ∧ decode cX12_qTakes 15 = .ok (.iconst 0, 1) ∧ decode cX12_qTakes 16 = .ok (.istore 5, 2) ∧ decode cX12_qTakes 18 = .ok (.iload_n 1, 1) ∧ decode cX12_qTakes 19 = .ok (.ifCond .ne 19, 3) ∧ decode cX12_qTakes 22 = .ok (.iload 5, 2) ∧ decode cX12_qTakes 24 = .ok (.ifCond .eq 14, 3) ∧ decode cX12_qTakes 27 = .ok (.aload_n 0, 1) := by decide +kernel
theorem eX12_qTakes_28 : decode cX12_qTakes 28 = .ok (.getfield 763, 3) ∧ decode cX12_qTakes 31 = .ok (.ldc2_w 766, 3) ∧ decode cX12_qTakes 34 = .ok (.lcmp, 1) ∧ decode cX12_qTakes 35 = .ok (.ifCond .eq 13, 3) ∧ decode cX12_qTakes 38 = .ok (.iload_n 1, 1) ∧ decode cX12_qTakes 39 = .ok (.iconst 1, 1) ∧ decode cX12_qTakes 40 = .ok (.if_icmp .ne 15, 3) ∧ decode cX12_qTakes 43 = .ok (.iload 5, 2) := by decide +kernel
theorem eX12_qTakes_45 : decode cX12_qTakes 45 = .ok (.ifCond .eq 10, 3) ∧ decode cX12_qTakes 48 = .ok (.aload_n 0, 1) ∧ decode cX12_qTakes 49 = .ok (.iload 4, 2) ∧ decode cX12_qTakes 51 = .ok (.i2l, 1) ∧ decode cX12_qTakes 52 = .ok (.putfield 763, 3) ∧ decode cX12_qTakes 55 = .ok (.iload_n 1, 1) ∧ decode cX12_qTakes 56 = .ok (.iconst 2, 1) ∧ decode cX12_qTakes 57 = .ok (.if_icmp .ne 18, 3) := by decide +kernel
theorem eX12_qTakes_60 : decode cX12_qTakes 60 = .ok (.iload 5, 2) ∧ decode cX12_qTakes 62 = .ok (.ifCond .eq 13, 3) ∧ decode cX12_qTakes 65 = .ok (.aload_n 0, 1) ∧ decode cX12_qTakes 66 = .ok (.dup, 1) ∧ decode cX12_qTakes 67 = .ok (.getfield 763, 3) ∧ decode cX12_qTakes 70 = .ok (.lconst 1, 1) ∧ decode cX12_qTakes 71 = .ok (.ladd, 1) ∧ decode cX12_qTakes 72 = .ok (.putfield 763, 3) := by decide +kernel
theorem eX12_qTakes_75 : decode cX12_qTakes 75 = .ok (.iload_n 1, 1) ∧ decode cX12_qTakes 76 = .ok (.iconst 3, 1) ∧ decode cX12_qTakes 77 = .ok (.if_icmp .ne 13, 3) ∧ decode cX12_qTakes 80 = .ok (.aload_n 0, 1) ∧ decode cX12_qTakes 81 = .ok (.dup, 1) ∧ decode cX12_qTakes 82 = .ok (.getfield 763, 3) ∧ decode cX12_qTakes 85 = .ok (.lload_n 2, 1) ∧ decode cX12_qTakes 86 = .ok (.ladd, 1) := by decide +kernel
theorem eX12_qTakes_87 : decode cX12_qTakes 87 = .ok (.putfield 763, 3) ∧ decode cX12_qTakes 90 = .ok (.iload_n 1, 1) ∧ decode cX12_qTakes 91 = .ok (.iconst 3, 1) ∧ decode cX12_qTakes 92 = .ok (.if_icmp .le 41, 3) ∧ decode cX12_qTakes 95 = .ok (.aload_n 0, 1) ∧ decode cX12_qTakes 96 = .ok (.getfield 768, 3) ∧ decode cX12_qTakes 99 = .ok (.ifCond .ne 29, 3) ∧ decode cX12_qTakes 102 = .ok (.iload_n 1, 1) := by decide +kernel
theorem eX12_qTakes_103 : decode cX12_qTakes 103 = .ok (.iconst 4, 1) ∧ decode cX12_qTakes 104 = .ok (.if_icmp .ne 15, 3) ∧ decode cX12_qTakes 107 = .ok (.lload_n 2, 1) ∧ decode cX12_qTakes 108 = .ok (.aload_n 0, 1) ∧ decode cX12_qTakes 109 = .ok (.getfield 763, 3) ∧ decode cX12_qTakes 112 = .ok (.lcmp, 1) ∧ decode cX12_qTakes 113 = .ok (.ifCond .le 20, 3) ∧ decode cX12_qTakes 116 = .ok (.goto 12, 3) := by decide +kernel
theorem eX12_qTakes_119 : decode cX12_qTakes 119 = .ok (.lload_n 2, 1) ∧ decode cX12_qTakes 120 = .ok (.aload_n 0, 1) ∧ decode cX12_qTakes 121 = .ok (.getfield 763, 3) ∧ decode cX12_qTakes 124 = .ok (.lcmp, 1) ∧ decode cX12_qTakes 125 = .ok (.ifCond .ge 8, 3) ∧ decode cX12_qTakes 128 = .ok (.aload_n 0, 1) ∧ decode cX12_qTakes 129 = .ok (.lload_n 2, 1) ∧ decode cX12_qTakes 130 = .ok (.putfield 763, 3) := by decide +kernel
theorem eX12_qTakes_133 : decode cX12_qTakes 133 = .ok (.aload_n 0, 1) ∧ decode cX12_qTakes 134 = .ok (.iconst 0, 1) ∧ decode cX12_qTakes 135 = .ok (.putfield 768, 3) ∧ decode cX12_qTakes 138 = .ok (.return_, 1) ∧ decode cX12_qTold 0 = .ok (.aload_n 0, 1) ∧ decode cX12_qTold 1 = .ok (.iconst 0, 1) ∧ decode cX12_qTold 2 = .ok (.putfield 443, 3) ∧ decode cX12_qTold 5 = .ok (.iconst 0, 1) := by decide +kernel
theorem eX12_qTold_6 : decode cX12_qTold 6 = .ok (.istore_n 2, 1) ∧ decode cX12_qTold 7 = .ok (.iload_n 2, 1) ∧ decode cX12_qTold 8 = .ok (.aload_n 0, 1) ∧ decode cX12_qTold 9 = .ok (.getfield 353, 3) ∧ decode cX12_qTold 12 = .ok (.if_icmp .ge 156, 3) ∧ decode cX12_qTold 15 = .ok (.aload_n 0, 1) ∧ decode cX12_qTold 16 = .ok (.getfield 243, 3) ∧ decode cX12_qTold 19 = .ok (.iload_n 2, 1) := by decide +kernel
theorem eX12_qTold_20 : decode cX12_qTold 20 = .ok (.iaload, 1) ∧ decode cX12_qTold 21 = .ok (.istore_n 3, 1) ∧ decode cX12_qTold 22 = .ok (.iload_n 3, 1) ∧ decode cX12_qTold 23 = .ok (.sipush 1000, 3) ∧ decode cX12_qTold 26 = .ok (.if_icmp .lt 16, 3) ∧ decode cX12_qTold 29 = .ok (.aload_n 0, 1) ∧ decode cX12_qTold 30 = .ok (.iload_n 3, 1) ∧ decode cX12_qTold 31 = .ok (.sipush 1000, 3) := by decide +kernel
theorem eX12_qTold_34 : decode cX12_qTold 34 = .ok (.isub, 1) ∧ decode cX12_qTold 35 = .ok (.i2l, 1) ∧ decode cX12_qTold 36 = .ok (.invokevirtual 446, 3) ∧ decode cX12_qTold 39 = .ok (.goto 123, 3) ∧ decode cX12_qTold 42 = .ok (.iload_n 3, 1) ∧ decode cX12_qTold 43 = .ok (.bipush 60, 2) ∧ decode cX12_qTold 45 = .ok (.if_icmp .lt 40, 3) ∧ decode cX12_qTold 48 = .ok (.aload_n 0, 1) := by decide +kernel
theorem eX12_qTold_49 : decode cX12_qTold 49 = .ok (.getfield 249, 3) ∧ decode cX12_qTold 52 = .ok (.aload_n 0, 1) ∧ decode cX12_qTold 53 = .ok (.getfield 443, 3) ∧ decode cX12_qTold 56 = .ok (.iconst 1, 1) ∧ decode cX12_qTold 57 = .ok (.isub, 1) ∧ decode cX12_qTold 58 = .ok (.aload_n 0, 1) ∧ decode cX12_qTold 59 = .ok (.iload_n 3, 1) ∧ decode cX12_qTold 60 = .ok (.bipush 60, 2) := by decide +kernel
theorem eX12_qTold_62 : decode cX12_qTold 62 = .ok (.isub, 1) ∧ decode cX12_qTold 63 = .ok (.aload_n 0, 1) ∧ decode cX12_qTold 64 = .ok (.getfield 249, 3) ∧ decode cX12_qTold 67 = .ok (.aload_n 0, 1) ∧ decode cX12_qTold 68 = .ok (.getfield 443, 3) ∧ decode cX12_qTold 71 = .ok (.iconst 1, 1) ∧ decode cX12_qTold 72 = .ok (.isub, 1) ∧ decode cX12_qTold 73 = .ok (.laload, 1) := by decide +kernel
theorem eX12_qTold_74 : decode cX12_qTold 74 = .ok (.iload_n 1, 1) ∧ decode cX12_qTold 75 = .ok (.invokevirtual 759, 3) ∧ decode cX12_qTold 78 = .ok (.invokestatic 751, 3) ∧ decode cX12_qTold 81 = .ok (.lastore, 1) ∧ decode cX12_qTold 82 = .ok (.goto 80, 3) ∧ decode cX12_qTold 85 = .ok (.iload_n 3, 1) ∧ decode cX12_qTold 86 = .ok (.bipush 40, 2) ∧ decode cX12_qTold 88 = .ok (.if_icmp .lt 22, 3) := by decide +kernel
theorem eX12_qTold_91 : decode cX12_qTold 91 = .ok (.aload_n 0, 1) ∧ decode cX12_qTold 92 = .ok (.aload_n 0, 1) ∧ decode cX12_qTold 93 = .ok (.iload_n 3, 1) ∧ decode cX12_qTold 94 = .ok (.bipush 40, 2) ∧ decode cX12_qTold 96 = .ok (.isub, 1) ∧ decode cX12_qTold 97 = .ok (.iload_n 1, 1) ∧ decode cX12_qTold 98 = .ok (.invokevirtual 450, 3) ∧ decode cX12_qTold 101 = .ok (.invokestatic 751, 3) := by decide +kernel
theorem eX12_qTold_104 : decode cX12_qTold 104 = .ok (.invokevirtual 446, 3) ∧ decode cX12_qTold 107 = .ok (.goto 55, 3) ∧ decode cX12_qTold 110 = .ok (.iload_n 3, 1) ∧ decode cX12_qTold 111 = .ok (.bipush 13, 2) ∧ decode cX12_qTold 113 = .ok (.if_icmp .ne 11, 3) ∧ decode cX12_qTold 116 = .ok (.aload_n 0, 1) ∧ decode cX12_qTold 117 = .ok (.lconst 1, 1) ∧ decode cX12_qTold 118 = .ok (.invokevirtual 446, 3) := by decide +kernel
theorem eX12_qTold_121 : decode cX12_qTold 121 = .ok (.goto 41, 3) ∧ decode cX12_qTold 124 = .ok (.iload_n 3, 1) ∧ decode cX12_qTold 125 = .ok (.bipush 12, 2) ∧ decode cX12_qTold 127 = .ok (.if_icmp .ne 30, 3) ∧ decode cX12_qTold 130 = .ok (.aload_n 0, 1) ∧ decode cX12_qTold 131 = .ok (.getfield 249, 3) ∧ decode cX12_qTold 134 = .ok (.aload_n 0, 1) ∧ decode cX12_qTold 135 = .ok (.getfield 443, 3) := by decide +kernel
theorem eX12_qTold_138 : decode cX12_qTold 138 = .ok (.iconst 1, 1) ∧ decode cX12_qTold 139 = .ok (.isub, 1) ∧ decode cX12_qTold 140 = .ok (.lconst 1, 1) ∧ decode cX12_qTold 141 = .ok (.aload_n 0, 1) ∧ decode cX12_qTold 142 = .ok (.getfield 249, 3) ∧ decode cX12_qTold 145 = .ok (.aload_n 0, 1) ∧ decode cX12_qTold 146 = .ok (.getfield 443, 3) ∧ decode cX12_qTold 149 = .ok (.iconst 1, 1) := by decide +kernel
theorem eX12_qTold_150 : decode cX12_qTold 150 = .ok (.isub, 1) ∧ decode cX12_qTold 151 = .ok (.laload, 1) ∧ decode cX12_qTold 152 = .ok (.lsub, 1) ∧ decode cX12_qTold 153 = .ok (.lastore, 1) ∧ decode cX12_qTold 154 = .ok (.goto 8, 3) ∧ decode cX12_qTold 157 = .ok (.aload_n 0, 1) ∧ decode cX12_qTold 158 = .ok (.iload_n 3, 1) ∧ decode cX12_qTold 159 = .ok (.invokevirtual 454, 3) := by decide +kernel
theorem eX12_qTold_162 : decode cX12_qTold 162 = .ok (.iinc 2 1, 3) ∧ decode cX12_qTold 165 = .ok (.goto (-158), 3) ∧ decode cX12_qTold 168 = .ok (.aload_n 0, 1) ∧ decode cX12_qTold 169 = .ok (.getfield 249, 3) ∧ decode cX12_qTold 172 = .ok (.iconst 0, 1) ∧ decode cX12_qTold 173 = .ok (.laload, 1) ∧ decode cX12_qTold 174 = .ok (.lreturn, 1) ∧ decode cX12_seed 0 = .ok (.iload_n 1, 1) := by decide +kernel
theorem eX12_seed_1 : decode cX12_seed 1 = .ok (.ifCond .ge 9, 3) ∧ decode cX12_seed 4 = .ok (.aload_n 0, 1) ∧ decode cX12_seed 5 = .ok (.iconst 5, 1) ∧ decode cX12_seed 6 = .ok (.invokevirtual 671, 3) ∧ decode cX12_seed 9 = .ok (.ireturn, 1) ∧ decode cX12_seed 10 = .ok (.aload_n 0, 1) ∧ decode cX12_seed 11 = .ok (.iload_n 1, 1) ∧ decode cX12_seed 12 = .ok (.i2l, 1) := by decide +kernel
theorem eX12_seed_13 : decode cX12_seed 13 = .ok (.putfield 173, 3) ∧ decode cX12_seed 16 = .ok (.iconst 1, 1) ∧ decode cX12_seed 17 = .ok (.ireturn, 1) ∧ decode cX12_volumeAt 0 = .ok (.iconst 0, 1) ∧ decode cX12_volumeAt 1 = .ok (.istore_n 2, 1) ∧ decode cX12_volumeAt 2 = .ok (.iload_n 1, 1) ∧ decode cX12_volumeAt 3 = .ok (.istore_n 3, 1) ∧ decode cX12_volumeAt 4 = .ok (.iload_n 3, 1) := by decide +kernel
theorem eX12_volumeAt_5 : decode cX12_volumeAt 5 = .ok (.ifCond .gt 12, 3) ∧ decode cX12_volumeAt 8 = .ok (.aload_n 0, 1) ∧ decode cX12_volumeAt 9 = .ok (.iload_n 2, 1) ∧ decode cX12_volumeAt 10 = .ok (.i2l, 1) ∧ decode cX12_volumeAt 11 = .ok (.invokevirtual 571, 3) ∧ decode cX12_volumeAt 14 = .ok (.ifCond .ne 21, 3) ∧ decode cX12_volumeAt 17 = .ok (.aload_n 0, 1) ∧ decode cX12_volumeAt 18 = .ok (.iload_n 2, 1) := by decide +kernel
theorem eX12_volumeAt_19 : decode cX12_volumeAt 19 = .ok (.i2l, 1) ∧ decode cX12_volumeAt 20 = .ok (.invokevirtual 571, 3) ∧ decode cX12_volumeAt 23 = .ok (.ifCond .eq 6, 3) ∧ decode cX12_volumeAt 26 = .ok (.iinc 3 (-1), 3) ∧ decode cX12_volumeAt 29 = .ok (.iinc 2 1, 3) ∧ decode cX12_volumeAt 32 = .ok (.goto (-28), 3) ∧ decode cX12_volumeAt 35 = .ok (.iload_n 2, 1) ∧ decode cX12_volumeAt 36 = .ok (.ireturn, 1) := by decide +kernel
set_option maxHeartbeats 4000000 in
set_option maxRecDepth 100000 in
theorem k_x12_seed (l : Launch) (D : va_G) (a : Nat → Nat) (p0 : Int) (sz : Nat) (s : MS) (o : (Int × MS)) (h : m_x12_seed p0 s = some o) : yWi l yX12_seed cX12_seed 2 (some .boolean) { frames := 1, cells := 0, slots := 0, locals := 60 } D sz [.ref (a 200), .int (i2 p0)] (RW D a s) (RW D a o.2) (i2 o.1) := by
  refine Met.ofW (cc := cX12_seed) (maxL := 2) (ret := (some .boolean)) (by decide) rfl ?_
  intro p e s₀ m args below meth c s₁ B hml hv
  obtain ⟨rfl, ⟨hsz, hP, hK, hD0⟩, hN⟩ := hv
  have hx := B.exec
  have hb := B.bytes
  have hr := B.returns
  have hts := atoms_spec (ws := wz yX12_seed cX12_seed 2 (some .boolean)) B.pre
  have ht : ∀ w ∈ lw_gd, w.before _ s₀ = true := fun w h => hts w (List.mem_cons_of_mem _ h)
  have hown : s₀.vm.findClass RX12 = some m.cls := findClass_of_methodNamed B.named
  have hlocks := B.notSynchronized
  subst hsz
  have hD := hD0.self (sz := s₀.heap.size)
  generalize hAe : va_A (RW D a s) s₀.heap.size = A at hD ⊢
  have hA : ∀ q : Nat, s₀.heap.size ≤ q → A q := fun q h => by rw [← hAe]; exact Or.inr h
  have hS : va_S A s₀.heap s₀.heap [] := va_S.rf
  have hDD : ∀ t : MS, va_D A (RW D a t) := fun t => RW_D t hD
  have hl := lv_entry ([.ref (a 200), .int (i2 p0)]) (n := 2) (Nat.le_of_ble_eq_true rfl)
  rw [lg_entry_eq]
  generalize (lg_sl ([.ref (a 200), .int (i2 p0)]) ++ List.replicate (2 - (lg_sl ([.ref (a 200), .int (i2 p0)])).length) Slot.unset).toArray = ls at hl ⊢
  have hl : lv_has ls 2 [(0, .ref (a 200)), (1, .int (i2 p0))] := hl
  unfold m_x12_seed at h
  refine lv_iload_n hx hb eX12_qTold_162.2.2.2.2.2.2.2 rfl (lv_at hl 1 rfl) ?_
  obtain ⟨hr1, h⟩ := rg_e h
  refine lv_if_ge (tgt := 10) hx hb eX12_seed_1.1 (by decide) (fun c2 => ?_) (fun c2 => ?_)
  · have h := if_t ((i2_le (x := 0) (y := p0) (by decide) hr1).mp c2) h
    refine lv_aload_n hx hb eX12_seed_1.2.2.2.2.2.1 rfl (lv_at hl 0 rfl) ?_
    refine lv_iload_n hx hb eX12_seed_1.2.2.2.2.2.2.1 rfl (lv_at hl 1 rfl) ?_
    obtain ⟨hr3, h⟩ := rg_e h
    refine lv_i2l (v := i8 p0) hx hb eX12_seed_1.2.2.2.2.2.2.2 (i2_l hr3) ?_
    refine ya_put (D := D) (ci := 12) (v := .long (i8 p0)) (ty := .long) (C := RX12) (T := TX12) (N := 116) hx hb ht inX12 tyX12 tyX12_ok nmX12 hown hK hP (hDD _) hS 0 RW_0 rfl 78 (by decide) (ht (.fieldLink RX12 173 "CloneVolumesModel" "seeded" "J") fl_X12_173) (fun _ h9 => h9) rfl (by decide +kernel) rfl rfl (by rw [mF_len]; decide) eX12_seed_13.1 (RW_f78 p0) (fun H locs hP hS => ?_)
    obtain ⟨s4, hs4, h⟩ := st_e h
    rw [hs4] at hP
    refine lv_iconst (v := 1) hx hb eX12_seed_13.2.1 (by decide) ?_
    obtain rfl := Option.some.inj h
    exact W.zret (v := 1) hx hb hr (by decide) (fun t ht hW => ⟨⟨_, (), rfl, rfl, by rw [ht]; exact hP, va_K.moved hW.alike hK, hDD _⟩, hS.F ht⟩) hS.2.2 eX12_seed_13.2.2.1
  · have h := if_f (mt (i2_le (x := 0) (y := p0) (by decide) hr1).mpr c2) h
    refine lv_aload_n hx hb eX12_seed_1.2.1 rfl (lv_at hl 0 rfl) ?_
    refine lv_iconst (v := 5) hx hb eX12_seed_1.2.2.1 (by decide) ?_
    obtain ⟨⟨r7, s6⟩, hc5, h⟩ := bn_e h
    refine ywV (r0 := i2 r7) (As := [.int 5]) (rest := []) (C := RX12) (n := 1) (ws' := RW D a s6) ⟨hx, hb, hml, hown, ht⟩ (k_x12_isRefused l D a 5 _ _ _ hc5) (zgV ml_X12_671 im_X12_isRefused se_X12_isRefused in_X12 co_X12_isRefused) rfl rfl (by decide +kernel) ⟨Nat.le_of_ble_eq_true rfl, Nat.le_of_ble_eq_true rfl⟩ hN hK hP (hDD _) hS hA 0 RW_0 rfl rfl rfl hl.1 rfl (Nat.le_of_ble_eq_true rfl) eX12_seed_1.2.2.2.1 ⟨Nat.le_of_ble_eq_true rfl, Nat.le_of_ble_eq_true rfl⟩ (fun H locs hP hS => ?_)
    obtain ⟨hb8, h⟩ := bo_e h
    obtain rfl := Option.some.inj h
    exact W.zret (v := (i2 r7)) hx hb hr (bo_n hb8) (fun t ht hW => ⟨⟨_, (), rfl, rfl, by rw [ht]; exact hP, va_K.moved hW.alike hK, hDD _⟩, hS.F ht⟩) hS.2.2 eX12_seed_1.2.2.2.2.1
set_option maxHeartbeats 4000000 in
set_option maxRecDepth 100000 in
theorem k_x12_drawOf (l : Launch) (D : va_G) (a : Nat → Nat) (p0 : Int) (sz : Nat) (s : MS) (o : (Int × MS)) (h : m_x12_drawOf p0 s = some o) : yWi l yX12_drawOf cX12_drawOf 2 (some .int) { frames := 0, cells := 0, slots := 0, locals := 0 } D sz [.ref (a 200), .int (i2 p0)] (RW D a s) (RW D a o.2) (i2 o.1) := by
  refine Met.ofW (cc := cX12_drawOf) (maxL := 2) (ret := (some .int)) (by decide) rfl ?_
  intro p e s₀ m args below meth c s₁ B hml hv
  obtain ⟨rfl, ⟨hsz, hP, hK, hD0⟩, hN⟩ := hv
  have hx := B.exec
  have hb := B.bytes
  have hr := B.returns
  have hts := atoms_spec (ws := wz yX12_drawOf cX12_drawOf 2 (some .int)) B.pre
  have ht : ∀ w ∈ lw_gd, w.before _ s₀ = true := fun w h => hts w (List.mem_cons_of_mem _ h)
  have hown : s₀.vm.findClass RX12 = some m.cls := findClass_of_methodNamed B.named
  have hlocks := B.notSynchronized
  subst hsz
  have hD := hD0.self (sz := s₀.heap.size)
  generalize hAe : va_A (RW D a s) s₀.heap.size = A at hD ⊢
  have hA : ∀ q : Nat, s₀.heap.size ≤ q → A q := fun q h => by rw [← hAe]; exact Or.inr h
  have hS : va_S A s₀.heap s₀.heap [] := va_S.rf
  have hDD : ∀ t : MS, va_D A (RW D a t) := fun t => RW_D t hD
  have hl := lv_entry ([.ref (a 200), .int (i2 p0)]) (n := 2) (Nat.le_of_ble_eq_true rfl)
  rw [lg_entry_eq]
  generalize (lg_sl ([.ref (a 200), .int (i2 p0)]) ++ List.replicate (2 - (lg_sl ([.ref (a 200), .int (i2 p0)])).length) Slot.unset).toArray = ls at hl ⊢
  have hl : lv_has ls 2 [(0, .ref (a 200)), (1, .int (i2 p0))] := hl
  unfold m_x12_drawOf at h
  refine lv_aload_n hx hb eX12_chance_58.2.2.2.2.2.2.1 rfl (lv_at hl 0 rfl) ?_
  refine lv_ldc2 (own := RX12) (v := 1103515245) hx hb hown (ht _ cl_X12_674) eX12_chance_58.2.2.2.2.2.2.2 ?_
  refine lv_aload_n hx hb eX12_drawOf_4.1 rfl (lv_at hl 0 rfl) ?_
  refine va_get (D := D) (ci := 12) (v := .long (i8 (gL s 78))) (C := RX12) (T := TX12) (N := 116) hx hb ht inX12 hown hK hP 0 RW_0 rfl 78 (by decide) (ht (.fieldLink RX12 173 "CloneVolumesModel" "seeded" "J") fl_X12_173) (fun _ h9 => h9) mF_78 eX12_drawOf_4.2.1 ?_
  refine lv_lmul hx hb eX12_drawOf_4.2.2.1 ?_
  refine z_topl (y := i8 (1103515245 * (gL s 78))) (i8_mul 1103515245 (gL s 78)) ?_
  refine lv_ldc2 (own := RX12) (v := 12345) hx hb hown (ht _ cl_X12_676) eX12_drawOf_4.2.2.2.1 ?_
  refine lv_ladd hx hb eX12_drawOf_4.2.2.2.2.1 ?_
  refine z_topl (y := i8 ((1103515245 * (gL s 78)) + 12345)) (i8_add (1103515245 * (gL s 78)) 12345) ?_
  refine lv_ldc2 (own := RX12) (v := 2147483648) hx hb hown (ht _ cl_X12_678) eX12_drawOf_4.2.2.2.2.2.1 ?_
  obtain ⟨hn1, h⟩ := dvL_e h
  refine lv_lrem hx hb eX12_drawOf_4.2.2.2.2.2.2.1 (dvL_nz hn1) ?_
  refine z_topl (y := i8 (Int.tmod ((1103515245 * (gL s 78)) + 12345) 2147483648)) (by rw [show (2147483648 : Int64) = i8 2147483648 from by decide +kernel]; exact dvL_r hn1) ?_
  refine ya_put (D := D) (ci := 12) (v := .long (i8 (Int.tmod ((1103515245 * (gL s 78)) + 12345) 2147483648))) (ty := .long) (C := RX12) (T := TX12) (N := 116) hx hb ht inX12 tyX12 tyX12_ok nmX12 hown hK hP (hDD _) hS 0 RW_0 rfl 78 (by decide) (ht (.fieldLink RX12 173 "CloneVolumesModel" "seeded" "J") fl_X12_173) (fun _ h9 => h9) rfl (by decide +kernel) rfl rfl (by rw [mF_len]; decide) eX12_drawOf_4.2.2.2.2.2.2.2 (RW_f78 (Int.tmod ((1103515245 * (gL s 78)) + 12345) 2147483648)) (fun H locs hP hS => ?_)
  obtain ⟨s2, hs2, h⟩ := st_e h
  rw [hs2] at hP
  refine lv_aload_n hx hb eX12_drawOf_20.1 rfl (lv_at hl 0 rfl) ?_
  refine va_get (D := D) (ci := 12) (v := .long (i8 (gL s2 78))) (C := RX12) (T := TX12) (N := 116) hx hb ht inX12 hown hK hP 0 RW_0 rfl 78 (by decide) (ht (.fieldLink RX12 173 "CloneVolumesModel" "seeded" "J") fl_X12_173) (fun _ h9 => h9) mF_78 eX12_drawOf_20.2.1 ?_
  refine lv_ldc2 (own := RX12) (v := 64) hx hb hown (ht _ cl_X12_680) eX12_drawOf_20.2.2.1 ?_
  obtain ⟨hn3, h⟩ := dvL_e h
  refine lv_ldiv hx hb eX12_drawOf_20.2.2.2.1 (dvL_nz hn3) ?_
  refine z_topl (y := i8 (Int.tdiv (gL s2 78) 64)) (by rw [show (64 : Int64) = i8 64 from by decide +kernel]; exact dvL_d hn3) ?_
  refine lv_iload_n hx hb eX12_drawOf_20.2.2.2.2.1 rfl (lv_at hl 1 rfl) ?_
  obtain ⟨hr4, h⟩ := rg_e h
  refine lv_i2l (v := i8 p0) hx hb eX12_drawOf_20.2.2.2.2.2.1 (i2_l hr4) ?_
  obtain ⟨hn5, h⟩ := dvL_e h
  refine lv_lrem hx hb eX12_drawOf_20.2.2.2.2.2.2.1 (dvL_nz hn5) ?_
  refine z_topl (y := i8 (Int.tmod (Int.tdiv (gL s2 78) 64) p0)) (dvL_r hn5) ?_
  refine lv_l2i (v := i2 (Int.tmod (Int.tdiv (gL s2 78) 64) p0)) hx hb eX12_drawOf_20.2.2.2.2.2.2.2 (i8_i (Int.tmod (Int.tdiv (gL s2 78) 64) p0)) ?_
  obtain rfl := Option.some.inj h
  exact W.iret (v := (i2 (Int.tmod (Int.tdiv (gL s2 78) 64) p0))) hx hb hr (fun t ht hW => ⟨⟨_, (), rfl, rfl, by rw [ht]; exact hP, va_K.moved hW.alike hK, hDD _⟩, hS.F ht⟩) hS.2.2 eX12_drawOf_32.1
set_option maxHeartbeats 4000000 in
set_option maxRecDepth 100000 in
theorem k_x12_volumeAt (l : Launch) (D : va_G) (a : Nat → Nat) (p0 : Int) (s : MS) (o : Int) (h : m_x12_volumeAt p0 s = some o) : yRi l yX12_volumeAt cX12_volumeAt 4 (some .int) { frames := 2, cells := 0, slots := 0, locals := 120 } D [.ref (a 200), .int (i2 p0)] (RW D a s) (i2 o) := by
  refine Met.ofW (cc := cX12_volumeAt) (maxL := 4) (ret := (some .int)) (by decide) rfl ?_
  intro p e s₀ m args below meth c s₁ B hml hv
  obtain ⟨rfl, ⟨hP, hK⟩, hN⟩ := hv
  have hx := B.exec
  have hb := B.bytes
  have hr := B.returns
  have hts := atoms_spec (ws := wz yX12_volumeAt cX12_volumeAt 4 (some .int)) B.pre
  have ht : ∀ w ∈ lw_gd, w.before _ s₀ = true := fun w h => hts w (List.mem_cons_of_mem _ h)
  have hown : s₀.vm.findClass RX12 = some m.cls := findClass_of_methodNamed B.named
  have hlocks := B.notSynchronized
  have hS : va_S (fun _ => False) s₀.heap s₀.heap [] := va_S.rf
  have hl := lv_entry ([.ref (a 200), .int (i2 p0)]) (n := 4) (Nat.le_of_ble_eq_true rfl)
  rw [lg_entry_eq]
  generalize (lg_sl ([.ref (a 200), .int (i2 p0)]) ++ List.replicate (4 - (lg_sl ([.ref (a 200), .int (i2 p0)])).length) Slot.unset).toArray = ls at hl ⊢
  have hl : lv_has ls 4 [(0, .ref (a 200)), (1, .int (i2 p0))] := hl
  unfold m_x12_volumeAt at h
  refine y_loop (pcJ := 4) (σ := Int × Int) (fun n u H locs ls => va_P D vwCl (RW D a s) H ∧ va_S (fun _ => False) s₀.heap H locs ∧ lv_has ls 4 [(0, .ref (a 200)), (2, .int (i2 u.1)), (3, .int (i2 u.2))] ∧ m_x12_volumeAt_L4 s n u.1 u.2 = some o) (fun u => []) (fun u H locs ls hI => by obtain ⟨_, _, _, h⟩ := hI; cases h) (fun n4 ih4 u H locs ls hI => ?_) (fun J4 => ?_)
  · obtain ⟨hP, hS, hl, h⟩ := hI
    obtain ⟨x1, x2⟩ := u
    have hP : va_P D vwCl (RW D a s) H := hP
    have hl : lv_has ls 4 [(0, .ref (a 200)), (2, .int (i2 x1)), (3, .int (i2 x2))] := hl
    have h : m_x12_volumeAt_b4 s (m_x12_volumeAt_L4 s n4) x1 x2 = some o := h
    unfold m_x12_volumeAt_b4 at h
    refine y_head (pcJ := 29) (σ := Int × Int) (fun u H locs ls => va_P D vwCl (RW D a s) H ∧ va_S (fun _ => False) s₀.heap H locs ∧ lv_has ls 4 [(0, .ref (a 200)), (2, .int (i2 u.1)), (3, .int (i2 u.2))] ∧ m_x12_volumeAt_J29 s (m_x12_volumeAt_L4 s n4) u.1 u.2 = some o) (fun u => []) (fun u H locs ls hI => ?_) (fun J29 => ?_)
    · obtain ⟨hP, hS, hl, h⟩ := hI
      obtain ⟨x3, x4⟩ := u
      have hP : va_P D vwCl (RW D a s) H := hP
      have hl : lv_has ls 4 [(0, .ref (a 200)), (2, .int (i2 x3)), (3, .int (i2 x4))] := hl
      have h : m_x12_volumeAt_J29 s (m_x12_volumeAt_L4 s n4) x3 x4 = some o := h
      unfold m_x12_volumeAt_J29 at h
      refine lv_iinc (v := i2 (x3 + 1)) (lv' := [(2, .int (i2 (x3 + 1))), (0, .ref (a 200)), (3, .int (i2 x4))]) hx hb eX12_volumeAt_19.2.2.2.2.1 hl (k := 1) rfl (i2_add x3 1) (by decide) rfl (fun ls hl => ?_)
      refine lv_goto (tgt := 4) hx hb eX12_volumeAt_19.2.2.2.2.2.1 (by decide) ?_
      exact ih4 (x3 + 1, x4) _ _ _ ⟨hP, hS, lv_sub hl [1, 0, 2] rfl, h⟩
    refine y_head (pcJ := 17) (σ := Int × Int) (fun u H locs ls => va_P D vwCl (RW D a s) H ∧ va_S (fun _ => False) s₀.heap H locs ∧ lv_has ls 4 [(0, .ref (a 200)), (2, .int (i2 u.1)), (3, .int (i2 u.2))] ∧ m_x12_volumeAt_J17 s (m_x12_volumeAt_L4 s n4) u.1 u.2 = some o) (fun u => []) (fun u H locs ls hI => ?_) (fun J17 => ?_)
    · obtain ⟨hP, hS, hl, h⟩ := hI
      obtain ⟨x5, x6⟩ := u
      have hP : va_P D vwCl (RW D a s) H := hP
      have hl : lv_has ls 4 [(0, .ref (a 200)), (2, .int (i2 x5)), (3, .int (i2 x6))] := hl
      have h : m_x12_volumeAt_J17 s (m_x12_volumeAt_L4 s n4) x5 x6 = some o := h
      unfold m_x12_volumeAt_J17 at h
      refine lv_aload_n hx hb eX12_volumeAt_5.2.2.2.2.2.2.1 rfl (lv_at hl 0 rfl) ?_
      refine lv_iload_n hx hb eX12_volumeAt_5.2.2.2.2.2.2.2 rfl (lv_at hl 1 rfl) ?_
      obtain ⟨hr7, h⟩ := rg_e h
      refine lv_i2l (v := i8 x5) hx hb eX12_volumeAt_19.1 (i2_l hr7) ?_
      obtain ⟨r9, hc8, h⟩ := bn_e h
      refine ycV (r0 := i2 r9) (As := [.long (i8 x5)]) (rest := []) (C := RX12) (n := 1) ⟨hx, hb, hml, hown, ht⟩ (k_x12_isVolume l D a x5 _ _ hc8) (zgV ml_X12_571 im_X12_isVolume se_X12_isVolume in_X12 co_X12_isVolume) rfl rfl (by decide +kernel) ⟨Nat.le_of_ble_eq_true rfl, Nat.le_of_ble_eq_true rfl⟩ hN hK hP hS 0 RW_0 rfl rfl rfl hl.1 rfl (Nat.le_of_ble_eq_true rfl) eX12_volumeAt_19.2.1 ⟨Nat.le_of_ble_eq_true rfl, Nat.le_of_ble_eq_true rfl⟩ (fun H locs hP hS => ?_)
      obtain ⟨hr10, h⟩ := rg_e h
      refine lv_if_eq (tgt := 29) hx hb eX12_volumeAt_19.2.2.1 (by decide) (fun c11 => ?_) (fun c11 => ?_)
      · have h := if_t ((i2_eq (x := r9) (y := 0) hr10 (by decide)).mp c11) h
        exact J29 (x5, x6) _ _ _ ⟨hP, hS, lv_sub hl [0, 1, 2] rfl, h⟩
      · have h := if_f (mt (i2_eq (x := r9) (y := 0) hr10 (by decide)).mpr c11) h
        refine lv_iinc (v := i2 (x6 + (-1))) (lv' := [(3, .int (i2 (x6 + (-1)))), (0, .ref (a 200)), (2, .int (i2 x5))]) hx hb eX12_volumeAt_19.2.2.2.1 hl (k := 2) rfl (i2_add x6 (-1)) (by decide) rfl (fun ls hl => ?_)
        exact J29 (x5, x6 + (-1)) _ _ _ ⟨hP, hS, lv_sub hl [1, 2, 0] rfl, h⟩
    refine lv_iload_n hx hb eX12_seed_13.2.2.2.2.2.2.2 rfl (lv_at hl 2 rfl) ?_
    obtain ⟨hr12, h⟩ := rg_e h
    refine lv_if_gt (tgt := 17) hx hb eX12_volumeAt_5.1 (by decide) (fun c13 => ?_) (fun c13 => ?_)
    · have h := if_t ((i2_lt (x := 0) (y := x2) (by decide) hr12).mp c13) h
      exact J17 (x1, x2) _ _ _ ⟨hP, hS, lv_sub hl [0, 1, 2] rfl, h⟩
    · have h := if_f (mt (i2_lt (x := 0) (y := x2) (by decide) hr12).mpr c13) h
      refine lv_aload_n hx hb eX12_volumeAt_5.2.1 rfl (lv_at hl 0 rfl) ?_
      refine lv_iload_n hx hb eX12_volumeAt_5.2.2.1 rfl (lv_at hl 1 rfl) ?_
      obtain ⟨hr14, h⟩ := rg_e h
      refine lv_i2l (v := i8 x1) hx hb eX12_volumeAt_5.2.2.2.1 (i2_l hr14) ?_
      obtain ⟨r16, hc15, h⟩ := bn_e h
      refine ycV (r0 := i2 r16) (As := [.long (i8 x1)]) (rest := []) (C := RX12) (n := 1) ⟨hx, hb, hml, hown, ht⟩ (k_x12_isVolume l D a x1 _ _ hc15) (zgV ml_X12_571 im_X12_isVolume se_X12_isVolume in_X12 co_X12_isVolume) rfl rfl (by decide +kernel) ⟨Nat.le_of_ble_eq_true rfl, Nat.le_of_ble_eq_true rfl⟩ hN hK hP hS 0 RW_0 rfl rfl rfl hl.1 rfl (Nat.le_of_ble_eq_true rfl) eX12_volumeAt_5.2.2.2.2.1 ⟨Nat.le_of_ble_eq_true rfl, Nat.le_of_ble_eq_true rfl⟩ (fun H locs hP hS => ?_)
      obtain ⟨hr17, h⟩ := rg_e h
      refine lv_if_ne (tgt := 35) hx hb eX12_volumeAt_5.2.2.2.2.2.1 (by decide) (fun c18 => ?_) (fun c18 => ?_)
      · have h := if_f (mt (i2_eq (x := r16) (y := 0) hr17 (by decide)).mpr c18) h
        refine lv_iload_n hx hb eX12_volumeAt_19.2.2.2.2.2.2.1 rfl (lv_at hl 1 rfl) ?_
        obtain rfl := Option.some.inj h
        exact W.iret (v := (i2 x1)) hx hb hr (fun t ht hW => ⟨⟨_, (), rfl, rfl, trivial⟩, hS.F ht⟩) hS.2.2 eX12_volumeAt_19.2.2.2.2.2.2.2
      · have h := if_t ((i2_eq (x := r16) (y := 0) hr17 (by decide)).mp c18) h
        exact J17 (x1, x2) _ _ _ ⟨hP, hS, lv_sub hl [0, 1, 2] rfl, h⟩
  refine lv_iconst (v := 0) hx hb eX12_seed_13.2.2.2.1 (by decide) ?_
  refine lv_istore_n (lv' := [(2, .int 0), (0, .ref (a 200)), (1, .int (i2 p0))]) hx hb eX12_seed_13.2.2.2.2.1 rfl hl (by decide) rfl (fun ls hl => ?_)
  refine lv_iload_n hx hb eX12_seed_13.2.2.2.2.2.1 rfl (lv_at hl 2 rfl) ?_
  refine lv_istore_n (lv' := [(3, .int (i2 p0)), (2, .int 0), (0, .ref (a 200)), (1, .int (i2 p0))]) hx hb eX12_seed_13.2.2.2.2.2.2.1 rfl hl (by decide) rfl (fun ls hl => ?_)
  exact J4 FU (0, p0) _ _ _ ⟨hP, hS, lv_sub hl [2, 1, 0] rfl, h⟩
set_option maxHeartbeats 4000000 in
set_option maxRecDepth 100000 in
theorem k_x12_isDrawn (l : Launch) (D : va_G) (a : Nat → Nat) (sz : Nat) (s : MS) (o : (Int × MS)) (h : m_x12_isDrawn s = some o) : yWi l yX12_isDrawn cX12_isDrawn 4 (some .boolean) { frames := 10, cells := 0, slots := 0, locals := 600 } D sz [.ref (a 200)] (RW D a s) (RW D a o.2) (i2 o.1) := by
  refine Met.ofW (cc := cX12_isDrawn) (maxL := 4) (ret := (some .boolean)) (by decide) rfl ?_
  intro p e s₀ m args below meth c s₁ B hml hv
  obtain ⟨rfl, ⟨hsz, hP, hK, hD0⟩, hN⟩ := hv
  have hx := B.exec
  have hb := B.bytes
  have hr := B.returns
  have hts := atoms_spec (ws := wz yX12_isDrawn cX12_isDrawn 4 (some .boolean)) B.pre
  have ht : ∀ w ∈ lw_gd, w.before _ s₀ = true := fun w h => hts w (List.mem_cons_of_mem _ h)
  have hown : s₀.vm.findClass RX12 = some m.cls := findClass_of_methodNamed B.named
  have hlocks := B.notSynchronized
  subst hsz
  have hD := hD0.self (sz := s₀.heap.size)
  generalize hAe : va_A (RW D a s) s₀.heap.size = A at hD ⊢
  have hA : ∀ q : Nat, s₀.heap.size ≤ q → A q := fun q h => by rw [← hAe]; exact Or.inr h
  have hS : va_S A s₀.heap s₀.heap [] := va_S.rf
  have hDD : ∀ t : MS, va_D A (RW D a t) := fun t => RW_D t hD
  have hl := lv_entry ([.ref (a 200)]) (n := 4) (Nat.le_of_ble_eq_true rfl)
  rw [lg_entry_eq]
  generalize (lg_sl ([.ref (a 200)]) ++ List.replicate (4 - (lg_sl ([.ref (a 200)])).length) Slot.unset).toArray = ls at hl ⊢
  have hl : lv_has ls 4 [(0, .ref (a 200))] := hl
  unfold m_x12_isDrawn at h
  refine y_head (pcJ := 84) (σ := Int × MS) (fun u H locs ls => va_P D vwCl (RW D a u.2) H ∧ va_S A s₀.heap H locs ∧ lv_has ls 4 [] ∧ m_x12_isDrawn_J84 u.1 u.2 = some o) (fun u => [.int (i2 u.1)]) (fun u H locs ls hI => ?_) (fun J84 => ?_)
  · obtain ⟨hP, hS, hl, h⟩ := hI
    obtain ⟨x1, s2⟩ := u
    have hP : va_P D vwCl (RW D a s2) H := hP
    have hl : lv_has ls 4 [] := hl
    have h : m_x12_isDrawn_J84 x1 s2 = some o := h
    unfold m_x12_isDrawn_J84 at h
    obtain ⟨hb3, h⟩ := bo_e h
    obtain rfl := Option.some.inj h
    exact W.zret (v := (i2 x1)) hx hb hr (bo_n hb3) (fun t ht hW => ⟨⟨_, (), rfl, rfl, by rw [ht]; exact hP, va_K.moved hW.alike hK, hDD _⟩, hS.F ht⟩) hS.2.2 eX12_isDrawn_81.2.1
  refine y_head (pcJ := 20) (σ := MS) (fun u H locs ls => va_P D vwCl (RW D a u) H ∧ va_S A s₀.heap H locs ∧ lv_has ls 4 [(0, .ref (a 200))] ∧ m_x12_isDrawn_J20 u = some o) (fun u => []) (fun u H locs ls hI => ?_) (fun J20 => ?_)
  · obtain ⟨hP, hS, hl, h⟩ := hI
    obtain ⟨s4, rfl⟩ : ∃ z, z = u := ⟨u, rfl⟩
    have hP : va_P D vwCl (RW D a s4) H := hP
    have hl : lv_has ls 4 [(0, .ref (a 200))] := hl
    have h : m_x12_isDrawn_J20 s4 = some o := h
    unfold m_x12_isDrawn_J20 at h
    refine lv_aload_n hx hb eX12_isDrawn_13.2.2.2.1 rfl (lv_at hl 0 rfl) ?_
    obtain ⟨r6, hc5, h⟩ := bn_e h
    refine ycV (r0 := i2 r6) (As := []) (rest := []) (C := RX12) (n := 0) ⟨hx, hb, hml, hown, ht⟩ (k_x12_volumeMany l D a _ _ hc5) (zgV ml_X12_584 im_X12_volumeMany se_X12_volumeMany in_X12 co_X12_volumeMany) rfl rfl (by decide +kernel) ⟨Nat.le_of_ble_eq_true rfl, Nat.le_of_ble_eq_true rfl⟩ hN hK hP hS 0 RW_0 rfl rfl rfl hl.1 rfl (Nat.le_of_ble_eq_true rfl) eX12_isDrawn_13.2.2.2.2.1 ⟨Nat.le_of_ble_eq_true rfl, Nat.le_of_ble_eq_true rfl⟩ (fun H locs hP hS => ?_)
    obtain ⟨hr7, h⟩ := rg_e h
    refine lv_if_ne (tgt := 29) hx hb eX12_isDrawn_13.2.2.2.2.2.1 (by decide) (fun c8 => ?_) (fun c8 => ?_)
    · have h := if_f (mt (i2_eq (x := r6) (y := 0) hr7 (by decide)).mpr c8) h
      refine lv_aload_n hx hb eX12_isDrawn_29.1 rfl (lv_at hl 0 rfl) ?_
      refine lv_aload_n hx hb eX12_isDrawn_29.2.1 rfl (lv_at hl 0 rfl) ?_
      refine lv_aload_n hx hb eX12_isDrawn_29.2.2.1 rfl (lv_at hl 0 rfl) ?_
      obtain ⟨r10, hc9, h⟩ := bn_e h
      refine ycV (r0 := i2 r10) (As := []) (rest := [.ref (a 200), .ref (a 200)]) (C := RX12) (n := 0) ⟨hx, hb, hml, hown, ht⟩ (k_x12_volumeMany l D a _ _ hc9) (zgV ml_X12_584 im_X12_volumeMany se_X12_volumeMany in_X12 co_X12_volumeMany) rfl rfl (by decide +kernel) ⟨Nat.le_of_ble_eq_true rfl, Nat.le_of_ble_eq_true rfl⟩ hN hK hP hS 0 RW_0 rfl rfl rfl hl.1 rfl (Nat.le_of_ble_eq_true rfl) eX12_isDrawn_29.2.2.2.1 ⟨Nat.le_of_ble_eq_true rfl, Nat.le_of_ble_eq_true rfl⟩ (fun H locs hP hS => ?_)
      obtain ⟨⟨r13, s12⟩, hc11, h⟩ := bn_e h
      refine ywV (r0 := i2 r13) (As := [.int (i2 r10)]) (rest := [.ref (a 200)]) (C := RX12) (n := 1) (ws' := RW D a s12) ⟨hx, hb, hml, hown, ht⟩ (k_x12_drawOf l D a r10 _ _ _ hc11) (zgV ml_X12_682 im_X12_drawOf se_X12_drawOf in_X12 co_X12_drawOf) rfl rfl (by decide +kernel) ⟨Nat.le_of_ble_eq_true rfl, Nat.le_of_ble_eq_true rfl⟩ hN hK hP (hDD _) hS hA 0 RW_0 rfl rfl rfl hl.1 rfl (Nat.le_of_ble_eq_true rfl) eX12_isDrawn_29.2.2.2.2.1 ⟨Nat.le_of_ble_eq_true rfl, Nat.le_of_ble_eq_true rfl⟩ (fun H locs hP hS => ?_)
      obtain ⟨r15, hc14, h⟩ := bn_e h
      refine ycV (r0 := i2 r15) (As := [.int (i2 r13)]) (rest := []) (C := RX12) (n := 1) ⟨hx, hb, hml, hown, ht⟩ (k_x12_volumeAt l D a r13 _ _ hc14) (zgV ml_X12_685 im_X12_volumeAt se_X12_volumeAt in_X12 co_X12_volumeAt) rfl rfl (by decide +kernel) ⟨Nat.le_of_ble_eq_true rfl, Nat.le_of_ble_eq_true rfl⟩ hN hK hP hS 0 RW_0 rfl rfl rfl hl.1 rfl (Nat.le_of_ble_eq_true rfl) eX12_isDrawn_29.2.2.2.2.2.1 ⟨Nat.le_of_ble_eq_true rfl, Nat.le_of_ble_eq_true rfl⟩ (fun H locs hP hS => ?_)
      refine lv_istore_n (lv' := [(1, .int (i2 r15)), (0, .ref (a 200))]) hx hb eX12_isDrawn_29.2.2.2.2.2.2.1 rfl hl (by decide) rfl (fun ls hl => ?_)
      refine lv_aload_n hx hb eX12_isDrawn_29.2.2.2.2.2.2.2 rfl (lv_at hl 1 rfl) ?_
      refine lv_iconst (v := 3) hx hb eX12_isDrawn_43.1 (by decide) ?_
      obtain ⟨⟨r18, s17⟩, hc16, h⟩ := bn_e h
      refine ywV (r0 := i2 r18) (As := [.int 3]) (rest := []) (C := RX12) (n := 1) (ws' := RW D a s17) ⟨hx, hb, hml, hown, ht⟩ (k_x12_drawOf l D a 3 _ _ _ hc16) (zgV ml_X12_682 im_X12_drawOf se_X12_drawOf in_X12 co_X12_drawOf) rfl rfl (by decide +kernel) ⟨Nat.le_of_ble_eq_true rfl, Nat.le_of_ble_eq_true rfl⟩ hN hK hP (hDD _) hS hA 0 RW_0 rfl rfl rfl hl.1 rfl (Nat.le_of_ble_eq_true rfl) eX12_isDrawn_43.2.1 ⟨Nat.le_of_ble_eq_true rfl, Nat.le_of_ble_eq_true rfl⟩ (fun H locs hP hS => ?_)
      refine lv_istore_n (lv' := [(2, .int (i2 r18)), (1, .int (i2 r15)), (0, .ref (a 200))]) hx hb eX12_isDrawn_43.2.2.1 rfl hl (by decide) rfl (fun ls hl => ?_)
      refine lv_aload_n hx hb eX12_isDrawn_43.2.2.2.1 rfl (lv_at hl 2 rfl) ?_
      refine lv_bipush (v := 40) hx hb eX12_isDrawn_43.2.2.2.2.1 (by decide) ?_
      obtain ⟨⟨r21, s20⟩, hc19, h⟩ := bn_e h
      refine ywV (r0 := i2 r21) (As := [.int 40]) (rest := []) (C := RX12) (n := 1) (ws' := RW D a s20) ⟨hx, hb, hml, hown, ht⟩ (k_x12_drawOf l D a 40 _ _ _ hc19) (zgV ml_X12_682 im_X12_drawOf se_X12_drawOf in_X12 co_X12_drawOf) rfl rfl (by decide +kernel) ⟨Nat.le_of_ble_eq_true rfl, Nat.le_of_ble_eq_true rfl⟩ hN hK hP (hDD _) hS hA 0 RW_0 rfl rfl rfl hl.1 rfl (Nat.le_of_ble_eq_true rfl) eX12_isDrawn_43.2.2.2.2.2.1 ⟨Nat.le_of_ble_eq_true rfl, Nat.le_of_ble_eq_true rfl⟩ (fun H locs hP hS => ?_)
      refine lv_istore_n (lv' := [(3, .int (i2 r21)), (2, .int (i2 r18)), (1, .int (i2 r15)), (0, .ref (a 200))]) hx hb eX12_isDrawn_43.2.2.2.2.2.2.1 rfl hl (by decide) rfl (fun ls hl => ?_)
      refine lv_iload_n hx hb eX12_isDrawn_43.2.2.2.2.2.2.2 rfl (lv_at hl 1 rfl) ?_
      refine lv_iconst (v := 2) hx hb eX12_isDrawn_56.1 (by decide) ?_
      obtain ⟨hr22, h⟩ := rg_e h
      refine lv_icmp_ge (tgt := 76) hx hb eX12_isDrawn_56.2.1 (by decide) (fun c23 => ?_) (fun c23 => ?_)
      · have h := if_t ((i2_le (x := 2) (y := r18) (by decide) hr22).mp c23) h
        refine lv_aload_n hx hb eX12_isDrawn_67.2.2.2.1 rfl (lv_at hl 3 rfl) ?_
        refine lv_iconst (v := 3) hx hb eX12_isDrawn_67.2.2.2.2.1 (by decide) ?_
        refine lv_iload_n hx hb eX12_isDrawn_67.2.2.2.2.2.1 rfl (lv_at hl 2 rfl) ?_
        refine lv_iload_n hx hb eX12_isDrawn_67.2.2.2.2.2.2.1 rfl (lv_at hl 0 rfl) ?_
        refine lv_iconst (v := 0) hx hb eX12_isDrawn_67.2.2.2.2.2.2.2 (by decide) ?_
        obtain ⟨⟨r26, s25⟩, hc24, h⟩ := bn_e h
        refine ywV (r0 := i2 r26) (As := [.int 3, .int (i2 r15), .int (i2 r21), .int 0]) (rest := []) (C := RX12) (n := 4) (ws' := RW D a s25) ⟨hx, hb, hml, hown, ht⟩ (k_x12_tries l D a 3 r15 r21 0 _ _ _ hc24) (zgV ml_X12_425 im_X12_tries se_X12_tries in_X12 co_X12_tries) rfl rfl (by decide +kernel) ⟨Nat.le_of_ble_eq_true rfl, Nat.le_of_ble_eq_true rfl⟩ hN hK hP (hDD _) hS hA 0 RW_0 rfl rfl rfl hl.1 rfl (Nat.le_of_ble_eq_true rfl) eX12_isDrawn_81.1 ⟨Nat.le_of_ble_eq_true rfl, Nat.le_of_ble_eq_true rfl⟩ (fun H locs hP hS => ?_)
        exact J84 (r26, s25) _ _ _ ⟨hP, hS, lv_sub hl [] rfl, h⟩
      · have h := if_f (mt (i2_le (x := 2) (y := r18) (by decide) hr22).mpr c23) h
        refine lv_aload_n hx hb eX12_isDrawn_56.2.2.1 rfl (lv_at hl 3 rfl) ?_
        refine lv_iconst (v := 2) hx hb eX12_isDrawn_56.2.2.2.1 (by decide) ?_
        refine lv_iload_n hx hb eX12_isDrawn_56.2.2.2.2.1 rfl (lv_at hl 2 rfl) ?_
        refine lv_iload_n hx hb eX12_isDrawn_56.2.2.2.2.2.1 rfl (lv_at hl 0 rfl) ?_
        refine lv_aload_n hx hb eX12_isDrawn_56.2.2.2.2.2.2.1 rfl (lv_at hl 3 rfl) ?_
        refine lv_bipush (v := 100) hx hb eX12_isDrawn_56.2.2.2.2.2.2.2 (by decide) ?_
        obtain ⟨⟨r29, s28⟩, hc27, h⟩ := bn_e h
        refine ywV (r0 := i2 r29) (As := [.int 100]) (rest := [.int (i2 r21), .int (i2 r15), .int 2, .ref (a 200)]) (C := RX12) (n := 1) (ws' := RW D a s28) ⟨hx, hb, hml, hown, ht⟩ (k_x12_drawOf l D a 100 _ _ _ hc27) (zgV ml_X12_682 im_X12_drawOf se_X12_drawOf in_X12 co_X12_drawOf) rfl rfl (by decide +kernel) ⟨Nat.le_of_ble_eq_true rfl, Nat.le_of_ble_eq_true rfl⟩ hN hK hP (hDD _) hS hA 0 RW_0 rfl rfl rfl hl.1 rfl (Nat.le_of_ble_eq_true rfl) eX12_isDrawn_67.1 ⟨Nat.le_of_ble_eq_true rfl, Nat.le_of_ble_eq_true rfl⟩ (fun H locs hP hS => ?_)
        obtain ⟨⟨r32, s31⟩, hc30, h⟩ := bn_e h
        refine ywV (r0 := i2 r32) (As := [.int 2, .int (i2 r15), .int (i2 r21), .int (i2 r29)]) (rest := []) (C := RX12) (n := 4) (ws' := RW D a s31) ⟨hx, hb, hml, hown, ht⟩ (k_x12_tries l D a 2 r15 r21 r29 _ _ _ hc30) (zgV ml_X12_425 im_X12_tries se_X12_tries in_X12 co_X12_tries) rfl rfl (by decide +kernel) ⟨Nat.le_of_ble_eq_true rfl, Nat.le_of_ble_eq_true rfl⟩ hN hK hP (hDD _) hS hA 0 RW_0 rfl rfl rfl hl.1 rfl (Nat.le_of_ble_eq_true rfl) eX12_isDrawn_67.2.1 ⟨Nat.le_of_ble_eq_true rfl, Nat.le_of_ble_eq_true rfl⟩ (fun H locs hP hS => ?_)
        refine lv_goto (tgt := 84) hx hb eX12_isDrawn_67.2.2.1 (by decide) ?_
        exact J84 (r32, s31) _ _ _ ⟨hP, hS, lv_sub hl [] rfl, h⟩
    · have h := if_t ((i2_eq (x := r6) (y := 0) hr7 (by decide)).mp c8) h
      refine lv_iconst (v := 0) hx hb eX12_isDrawn_13.2.2.2.2.2.2.1 (by decide) ?_
      obtain rfl := Option.some.inj h
      exact W.zret (v := 0) hx hb hr (by decide) (fun t ht hW => ⟨⟨_, (), rfl, rfl, by rw [ht]; exact hP, va_K.moved hW.alike hK, hDD _⟩, hS.F ht⟩) hS.2.2 eX12_isDrawn_13.2.2.2.2.2.2.2
  refine lv_aload_n hx hb eX12_drawOf_32.2.1 rfl (lv_at hl 0 rfl) ?_
  refine lv_bipush (v := 100) hx hb eX12_drawOf_32.2.2.1 (by decide) ?_
  obtain ⟨⟨r35, s34⟩, hc33, h⟩ := bn_e h
  refine ywV (r0 := i2 r35) (As := [.int 100]) (rest := []) (C := RX12) (n := 1) (ws' := RW D a s34) ⟨hx, hb, hml, hown, ht⟩ (k_x12_drawOf l D a 100 _ _ _ hc33) (zgV ml_X12_682 im_X12_drawOf se_X12_drawOf in_X12 co_X12_drawOf) rfl rfl (by decide +kernel) ⟨Nat.le_of_ble_eq_true rfl, Nat.le_of_ble_eq_true rfl⟩ hN hK hP (hDD _) hS hA 0 RW_0 rfl rfl rfl hl.1 rfl (Nat.le_of_ble_eq_true rfl) eX12_drawOf_32.2.2.2.1 ⟨Nat.le_of_ble_eq_true rfl, Nat.le_of_ble_eq_true rfl⟩ (fun H locs hP hS => ?_)
  refine lv_aload_n hx hb eX12_drawOf_32.2.2.2.2.1 rfl (lv_at hl 0 rfl) ?_
  refine va_get (D := D) (ci := 12) (v := .ref (a 39)) (C := RX12) (T := TX12) (N := 116) hx hb ht inX12 hown hK hP 0 RW_0 rfl 39 (by decide) (ht (.fieldLink RX12 102 "CloneVolumesModel" "many" "[I") fl_X12_102) (fun _ h9 => h9) mF_39 eX12_drawOf_32.2.2.2.2.2.1 ?_
  refine lv_bipush (v := 9) hx hb eX12_drawOf_32.2.2.2.2.2.2.1 (by decide) ?_
  obtain ⟨y36, ey36, iy36, h⟩ := rdI_e h
  refine ya_iald (i := 9) hx hb hK hP 30 0 RW_30 rfl (by decide) ey36 iy36 eX12_drawOf_32.2.2.2.2.2.2.2 ?_
  obtain ⟨hr37, h⟩ := rg_e h
  obtain ⟨hr38, h⟩ := rg_e h
  refine lv_icmp_ge (tgt := 20) hx hb eX12_isDrawn_13.1 (by decide) (fun c39 => ?_) (fun c39 => ?_)
  · have h := if_t ((i2_le (x := y36) (y := r35) hr38 hr37).mp c39) h
    exact J20 s34 _ _ _ ⟨hP, hS, lv_sub hl [0] rfl, h⟩
  · have h := if_f (mt (i2_le (x := y36) (y := r35) hr38 hr37).mpr c39) h
    refine lv_aload_n hx hb eX12_isDrawn_13.2.1 rfl (lv_at hl 0 rfl) ?_
    obtain ⟨s41, hc40, h⟩ := bn_e h
    refine ywVv (As := []) (rest := []) (C := RX12) (n := 0) (ws' := RW D a s41) ⟨hx, hb, hml, hown, ht⟩ (k_x12_checks l D a _ _ _ hc40) (zgV ml_X12_413 im_X12_checks se_X12_checks in_X12 co_X12_checks) rfl rfl (by decide +kernel) ⟨Nat.le_of_ble_eq_true rfl, Nat.le_of_ble_eq_true rfl⟩ hN hK hP (hDD _) hS hA 0 RW_0 rfl rfl rfl hl.1 rfl (Nat.le_of_ble_eq_true rfl) eX12_isDrawn_13.2.2.1 ⟨Nat.le_of_ble_eq_true rfl, Nat.le_of_ble_eq_true rfl⟩ (fun H locs hP hS => ?_)
    exact J20 s41 _ _ _ ⟨hP, hS, lv_sub hl [0] rfl, h⟩
set_option maxHeartbeats 4000000 in
set_option maxRecDepth 100000 in
theorem k_x12_chance (l : Launch) (D : va_G) (a : Nat → Nat) (p0 : Int) (sz : Nat) (s : MS) (o : (Int × MS)) (h : m_x12_chance p0 s = some o) : yWi l yX12_chance cX12_chance 4 (some .int) { frames := 11, cells := 0, slots := 0, locals := 660 } D sz [.ref (a 200), .int (i2 p0)] (RW D a s) (RW D a o.2) (i2 o.1) := by
  refine Met.ofW (cc := cX12_chance) (maxL := 4) (ret := (some .int)) (by decide) rfl ?_
  intro p e s₀ m args below meth c s₁ B hml hv
  obtain ⟨rfl, ⟨hsz, hP, hK, hD0⟩, hN⟩ := hv
  have hx := B.exec
  have hb := B.bytes
  have hr := B.returns
  have hts := atoms_spec (ws := wz yX12_chance cX12_chance 4 (some .int)) B.pre
  have ht : ∀ w ∈ lw_gd, w.before _ s₀ = true := fun w h => hts w (List.mem_cons_of_mem _ h)
  have hown : s₀.vm.findClass RX12 = some m.cls := findClass_of_methodNamed B.named
  have hlocks := B.notSynchronized
  subst hsz
  have hD := hD0.self (sz := s₀.heap.size)
  generalize hAe : va_A (RW D a s) s₀.heap.size = A at hD ⊢
  have hA : ∀ q : Nat, s₀.heap.size ≤ q → A q := fun q h => by rw [← hAe]; exact Or.inr h
  have hS : va_S A s₀.heap s₀.heap [] := va_S.rf
  have hDD : ∀ t : MS, va_D A (RW D a t) := fun t => RW_D t hD
  have hl := lv_entry ([.ref (a 200), .int (i2 p0)]) (n := 4) (Nat.le_of_ble_eq_true rfl)
  rw [lg_entry_eq]
  generalize (lg_sl ([.ref (a 200), .int (i2 p0)]) ++ List.replicate (4 - (lg_sl ([.ref (a 200), .int (i2 p0)])).length) Slot.unset).toArray = ls at hl ⊢
  have hl : lv_has ls 4 [(0, .ref (a 200)), (1, .int (i2 p0))] := hl
  unfold m_x12_chance at h
  refine y_loop (pcJ := 37) (σ := Int × Int × Int × MS) (fun n u H locs ls => va_P D vwCl (RW D a u.2.2.2) H ∧ va_S A s₀.heap H locs ∧ lv_has ls 4 [(0, .ref (a 200)), (1, .int (i2 u.1)), (2, .int (i2 u.2.1)), (3, .int (i2 u.2.2.1))] ∧ m_x12_chance_L37 n u.1 u.2.1 u.2.2.1 u.2.2.2 = some o) (fun u => []) (fun u H locs ls hI => by obtain ⟨_, _, _, h⟩ := hI; cases h) (fun n37 ih37 u H locs ls hI => ?_) (fun J37 => ?_)
  · obtain ⟨hP, hS, hl, h⟩ := hI
    obtain ⟨x1, x2, x3, s4⟩ := u
    have hP : va_P D vwCl (RW D a s4) H := hP
    have hl : lv_has ls 4 [(0, .ref (a 200)), (1, .int (i2 x1)), (2, .int (i2 x2)), (3, .int (i2 x3))] := hl
    have h : m_x12_chance_b37 (m_x12_chance_L37 n37) x1 x2 x3 s4 = some o := h
    unfold m_x12_chance_b37 at h
    refine y_head (pcJ := 52) (σ := Int × Int × Int × MS) (fun u H locs ls => va_P D vwCl (RW D a u.2.2.2) H ∧ va_S A s₀.heap H locs ∧ lv_has ls 4 [(0, .ref (a 200)), (1, .int (i2 u.1)), (2, .int (i2 u.2.1)), (3, .int (i2 u.2.2.1))] ∧ m_x12_chance_J52 (m_x12_chance_L37 n37) u.1 u.2.1 u.2.2.1 u.2.2.2 = some o) (fun u => []) (fun u H locs ls hI => ?_) (fun J52 => ?_)
    · obtain ⟨hP, hS, hl, h⟩ := hI
      obtain ⟨x5, x6, x7, s8⟩ := u
      have hP : va_P D vwCl (RW D a s8) H := hP
      have hl : lv_has ls 4 [(0, .ref (a 200)), (1, .int (i2 x5)), (2, .int (i2 x6)), (3, .int (i2 x7))] := hl
      have h : m_x12_chance_J52 (m_x12_chance_L37 n37) x5 x6 x7 s8 = some o := h
      unfold m_x12_chance_J52 at h
      refine lv_iinc (v := i2 (x7 + 1)) (lv' := [(3, .int (i2 (x7 + 1))), (0, .ref (a 200)), (1, .int (i2 x5)), (2, .int (i2 x6))]) hx hb eX12_chance_38.2.2.2.2.2.2.1 hl (k := 3) rfl (i2_add x7 1) (by decide) rfl (fun ls hl => ?_)
      refine lv_goto (tgt := 37) hx hb eX12_chance_38.2.2.2.2.2.2.2 (by decide) ?_
      exact ih37 (x5, x6, x7 + 1, s8) _ _ _ ⟨hP, hS, lv_sub hl [1, 2, 3, 0] rfl, h⟩
    refine lv_iload_n hx hb eX12_chance_26.2.2.2.2.2.2.2 rfl (lv_at hl 3 rfl) ?_
    refine lv_iload_n hx hb eX12_chance_38.1 rfl (lv_at hl 1 rfl) ?_
    obtain ⟨hr9, h⟩ := rg_e h
    obtain ⟨hr10, h⟩ := rg_e h
    refine lv_icmp_ge (tgt := 58) hx hb eX12_chance_38.2.1 (by decide) (fun c11 => ?_) (fun c11 => ?_)
    · have h := if_t ((i2_le (x := x1) (y := x3) hr10 hr9).mp c11) h
      refine lv_aload_n hx hb eX12_chance_58.1 rfl (lv_at hl 0 rfl) ?_
      refine lv_bipush (v := 6) hx hb eX12_chance_58.2.1 (by decide) ?_
      refine lv_sipush (v := 255) hx hb eX12_chance_58.2.2.1 (by decide) ?_
      obtain ⟨s13, hc12, h⟩ := bn_e h
      refine ywVv (As := [.int 6, .int 255]) (rest := []) (C := RX12) (n := 2) (ws' := RW D a s13) ⟨hx, hb, hml, hown, ht⟩ (k_x12_isKept l D a 6 255 _ _ _ hc12) (zgV ml_X12_659 im_X12_isKept se_X12_isKept in_X12 co_X12_isKept) rfl rfl (by decide +kernel) ⟨Nat.le_of_ble_eq_true rfl, Nat.le_of_ble_eq_true rfl⟩ hN hK hP (hDD _) hS hA 0 RW_0 rfl rfl rfl hl.1 rfl (Nat.le_of_ble_eq_true rfl) eX12_chance_58.2.2.2.1 ⟨Nat.le_of_ble_eq_true rfl, Nat.le_of_ble_eq_true rfl⟩ (fun H locs hP hS => ?_)
      refine lv_iload_n hx hb eX12_chance_58.2.2.2.2.1 rfl (lv_at hl 2 rfl) ?_
      obtain rfl := Option.some.inj h
      exact W.iret (v := (i2 x2)) hx hb hr (fun t ht hW => ⟨⟨_, (), rfl, rfl, by rw [ht]; exact hP, va_K.moved hW.alike hK, hDD _⟩, hS.F ht⟩) hS.2.2 eX12_chance_58.2.2.2.2.2.1
    · have h := if_f (mt (i2_le (x := x1) (y := x3) hr10 hr9).mpr c11) h
      refine lv_aload_n hx hb eX12_chance_38.2.2.1 rfl (lv_at hl 0 rfl) ?_
      obtain ⟨⟨r16, s15⟩, hc14, h⟩ := bn_e h
      refine ywV (r0 := i2 r16) (As := []) (rest := []) (C := RX12) (n := 0) (ws' := RW D a s15) ⟨hx, hb, hml, hown, ht⟩ (k_x12_isDrawn l D a _ _ _ hc14) (zgV ml_X12_690 im_X12_isDrawn se_X12_isDrawn in_X12 co_X12_isDrawn) rfl rfl (by decide +kernel) ⟨Nat.le_of_ble_eq_true rfl, Nat.le_of_ble_eq_true rfl⟩ hN hK hP (hDD _) hS hA 0 RW_0 rfl rfl rfl hl.1 rfl (Nat.le_of_ble_eq_true rfl) eX12_chance_38.2.2.2.1 ⟨Nat.le_of_ble_eq_true rfl, Nat.le_of_ble_eq_true rfl⟩ (fun H locs hP hS => ?_)
      obtain ⟨hr17, h⟩ := rg_e h
      refine lv_if_eq (tgt := 52) hx hb eX12_chance_38.2.2.2.2.1 (by decide) (fun c18 => ?_) (fun c18 => ?_)
      · have h := if_t ((i2_eq (x := r16) (y := 0) hr17 (by decide)).mp c18) h
        exact J52 (x1, x2, x3, s15) _ _ _ ⟨hP, hS, lv_sub hl [0, 1, 2, 3] rfl, h⟩
      · have h := if_f (mt (i2_eq (x := r16) (y := 0) hr17 (by decide)).mpr c18) h
        refine lv_iinc (v := i2 (x2 + 1)) (lv' := [(2, .int (i2 (x2 + 1))), (0, .ref (a 200)), (1, .int (i2 x1)), (3, .int (i2 x3))]) hx hb eX12_chance_38.2.2.2.2.2.1 hl (k := 2) rfl (i2_add x2 1) (by decide) rfl (fun ls hl => ?_)
        exact J52 (x1, x2 + 1, x3, s15) _ _ _ ⟨hP, hS, lv_sub hl [1, 2, 0, 3] rfl, h⟩
  refine y_head (pcJ := 19) (σ := MS) (fun u H locs ls => va_P D vwCl (RW D a u) H ∧ va_S A s₀.heap H locs ∧ lv_has ls 4 [(0, .ref (a 200))] ∧ m_x12_chance_J19 u = some o) (fun u => []) (fun u H locs ls hI => ?_) (fun J19 => ?_)
  · obtain ⟨hP, hS, hl, h⟩ := hI
    obtain ⟨s19, rfl⟩ : ∃ z, z = u := ⟨u, rfl⟩
    have hP : va_P D vwCl (RW D a s19) H := hP
    have hl : lv_has ls 4 [(0, .ref (a 200))] := hl
    have h : m_x12_chance_J19 s19 = some o := h
    unfold m_x12_chance_J19 at h
    refine lv_aload_n hx hb eX12_chance_10.2.2.2.1 rfl (lv_at hl 0 rfl) ?_
    refine lv_iconst (v := 3) hx hb eX12_chance_10.2.2.2.2.1 (by decide) ?_
    obtain ⟨⟨r22, s21⟩, hc20, h⟩ := bn_e h
    refine ywV (r0 := i2 r22) (As := [.int 3]) (rest := []) (C := RX12) (n := 1) (ws' := RW D a s21) ⟨hx, hb, hml, hown, ht⟩ (k_x12_refuses l D a 3 _ _ _ hc20) (zgV ml_X12_399 im_X12_refuses se_X12_refuses in_X12 co_X12_refuses) rfl rfl (by decide +kernel) ⟨Nat.le_of_ble_eq_true rfl, Nat.le_of_ble_eq_true rfl⟩ hN hK hP (hDD _) hS hA 0 RW_0 rfl rfl rfl hl.1 rfl (Nat.le_of_ble_eq_true rfl) eX12_chance_10.2.2.2.2.2.1 ⟨Nat.le_of_ble_eq_true rfl, Nat.le_of_ble_eq_true rfl⟩ (fun H locs hP hS => ?_)
    obtain rfl := Option.some.inj h
    exact W.iret (v := (i2 r22)) hx hb hr (fun t ht hW => ⟨⟨_, (), rfl, rfl, by rw [ht]; exact hP, va_K.moved hW.alike hK, hDD _⟩, hS.F ht⟩) hS.2.2 eX12_chance_10.2.2.2.2.2.2.1
  refine lv_aload_n hx hb eX12_ask_256.2.2.1 rfl (lv_at hl 0 rfl) ?_
  refine va_get (D := D) (ci := 12) (v := .int (i2 (gI s 47))) (C := RX12) (T := TX12) (N := 116) hx hb ht inX12 hown hK hP 0 RW_0 rfl 47 (by decide) (ht (.fieldLink RX12 406 "CloneVolumesModel" "isTold" "Z") fl_X12_406) (fun _ h9 => h9) mF_47 eX12_ask_256.2.2.2.1 ?_
  obtain ⟨hr23, h⟩ := rg_e h
  refine lv_if_eq (tgt := 19) hx hb eX12_ask_256.2.2.2.2.1 (by decide) (fun c24 => ?_) (fun c24 => ?_)
  · have h := if_t ((i2_eq (x := (gI s 47)) (y := 0) hr23 (by decide)).mp c24) h
    exact J19 s _ _ _ ⟨hP, hS, lv_sub hl [0] rfl, h⟩
  · have h := if_f (mt (i2_eq (x := (gI s 47)) (y := 0) hr23 (by decide)).mpr c24) h
    refine lv_iload_n hx hb eX12_ask_256.2.2.2.2.2.1 rfl (lv_at hl 1 rfl) ?_
    obtain ⟨hr25, h⟩ := rg_e h
    refine lv_i2l (v := i8 p0) hx hb eX12_ask_256.2.2.2.2.2.2.1 (i2_l hr25) ?_
    refine lv_lconst (v := 1) hx hb eX12_ask_256.2.2.2.2.2.2.2 (by decide) ?_
    refine lv_ldc2 (own := RX12) (v := 40) hx hb hown (ht _ cl_X12_688) eX12_chance_10.1 ?_
    obtain ⟨r27, hc26, h⟩ := bn_e h
    refine ycS (r0 := i2 r27) (As := [.long (i8 p0), .long 1, .long 40]) (rest := []) (n := 3) ⟨hx, hb, hml, hown, ht⟩ (k_x12_isIn l D a p0 1 40 _ _ hc26) (zgT ml_X12_309 st_X12_isIn in_X12 co_X12_isIn) rfl rfl (by decide +kernel) ⟨Nat.le_of_ble_eq_true rfl, Nat.le_of_ble_eq_true rfl⟩ hN hK hP hS rfl hl.1 rfl (Nat.le_of_ble_eq_true rfl) eX12_chance_10.2.1 ⟨Nat.le_of_ble_eq_true rfl, Nat.le_of_ble_eq_true rfl⟩ (fun H locs hP hS => ?_)
    obtain ⟨hr28, h⟩ := rg_e h
    refine lv_if_ne (tgt := 25) hx hb eX12_chance_10.2.2.1 (by decide) (fun c29 => ?_) (fun c29 => ?_)
    · have h := if_f (mt (i2_eq (x := r27) (y := 0) hr28 (by decide)).mpr c29) h
      refine lv_aload_n hx hb eX12_chance_10.2.2.2.2.2.2.2 rfl (lv_at hl 0 rfl) ?_
      obtain ⟨s31, hc30, h⟩ := bn_e h
      refine ywVv (As := []) (rest := []) (C := RX12) (n := 0) (ws' := RW D a s31) ⟨hx, hb, hml, hown, ht⟩ (k_x12_keeps l D a _ _ _ hc30) (zgV ml_X12_662 im_X12_keeps se_X12_keeps in_X12 co_X12_keeps) rfl rfl (by decide +kernel) ⟨Nat.le_of_ble_eq_true rfl, Nat.le_of_ble_eq_true rfl⟩ hN hK hP (hDD _) hS hA 0 RW_0 rfl rfl rfl hl.1 rfl (Nat.le_of_ble_eq_true rfl) eX12_chance_26.1 ⟨Nat.le_of_ble_eq_true rfl, Nat.le_of_ble_eq_true rfl⟩ (fun H locs hP hS => ?_)
      refine lv_aload_n hx hb eX12_chance_26.2.1 rfl (lv_at hl 0 rfl) ?_
      obtain ⟨s33, hc32, h⟩ := bn_e h
      refine ywVv (As := []) (rest := []) (C := RX12) (n := 0) (ws' := RW D a s33) ⟨hx, hb, hml, hown, ht⟩ (k_x12_clearsTouched l D a _ _ _ hc32) (zgV ml_X12_568 im_X12_clearsTouched se_X12_clearsTouched in_X12 co_X12_clearsTouched) rfl rfl (by decide +kernel) ⟨Nat.le_of_ble_eq_true rfl, Nat.le_of_ble_eq_true rfl⟩ hN hK hP (hDD _) hS hA 0 RW_0 rfl rfl rfl hl.1 rfl (Nat.le_of_ble_eq_true rfl) eX12_chance_26.2.2.1 ⟨Nat.le_of_ble_eq_true rfl, Nat.le_of_ble_eq_true rfl⟩ (fun H locs hP hS => ?_)
      refine lv_iconst (v := 0) hx hb eX12_chance_26.2.2.2.1 (by decide) ?_
      refine lv_istore_n (lv' := [(2, .int 0), (0, .ref (a 200)), (1, .int (i2 p0))]) hx hb eX12_chance_26.2.2.2.2.1 rfl hl (by decide) rfl (fun ls hl => ?_)
      refine lv_iconst (v := 0) hx hb eX12_chance_26.2.2.2.2.2.1 (by decide) ?_
      refine lv_istore_n (lv' := [(3, .int 0), (2, .int 0), (0, .ref (a 200)), (1, .int (i2 p0))]) hx hb eX12_chance_26.2.2.2.2.2.2.1 rfl hl (by decide) rfl (fun ls hl => ?_)
      exact J37 FU (p0, 0, 0, s33) _ _ _ ⟨hP, hS, lv_sub hl [2, 3, 1, 0] rfl, h⟩
    · have h := if_t ((i2_eq (x := r27) (y := 0) hr28 (by decide)).mp c29) h
      exact J19 s _ _ _ ⟨hP, hS, lv_sub hl [0] rfl, h⟩
set_option maxHeartbeats 4000000 in
set_option maxRecDepth 100000 in
theorem k_x12_qOf (l : Launch) (D : va_G) (a : Nat → Nat) (p0 : Int) (p1 : Int) (p2 : Int) (s : MS) (o : Int) (h : m_x12_qOf p0 p1 p2 s = some o) : yRl l yX12_qOf cX12_qOf 5 (some .long) { frames := 2, cells := 0, slots := 0, locals := 120 } D [.ref (a 200), .int (i2 p0), .long (i8 p1), .int (i2 p2)] (RW D a s) (i8 o) := by
  refine Met.ofW (cc := cX12_qOf) (maxL := 5) (ret := (some .long)) (by decide) rfl ?_
  intro p e s₀ m args below meth c s₁ B hml hv
  obtain ⟨rfl, ⟨hP, hK⟩, hN⟩ := hv
  have hx := B.exec
  have hb := B.bytes
  have hr := B.returns
  have hts := atoms_spec (ws := wz yX12_qOf cX12_qOf 5 (some .long)) B.pre
  have ht : ∀ w ∈ lw_gd, w.before _ s₀ = true := fun w h => hts w (List.mem_cons_of_mem _ h)
  have hown : s₀.vm.findClass RX12 = some m.cls := findClass_of_methodNamed B.named
  have hlocks := B.notSynchronized
  have hS : va_S (fun _ => False) s₀.heap s₀.heap [] := va_S.rf
  have hl := lv_entry ([.ref (a 200), .int (i2 p0), .long (i8 p1), .int (i2 p2)]) (n := 5) (Nat.le_of_ble_eq_true rfl)
  rw [lg_entry_eq]
  generalize (lg_sl ([.ref (a 200), .int (i2 p0), .long (i8 p1), .int (i2 p2)]) ++ List.replicate (5 - (lg_sl ([.ref (a 200), .int (i2 p0), .long (i8 p1), .int (i2 p2)])).length) Slot.unset).toArray = ls at hl ⊢
  have hl : lv_has ls 5 [(0, .ref (a 200)), (1, .int (i2 p0)), (2, .long (i8 p1)), (4, .int (i2 p2))] := hl
  unfold m_x12_qOf at h
  refine y_head (pcJ := 69) (σ := Int) (fun u H locs ls => va_P D vwCl (RW D a s) H ∧ va_S (fun _ => False) s₀.heap H locs ∧ lv_has ls 5 [] ∧ m_x12_qOf_J69 s u = some o) (fun u => [.long (i8 u)]) (fun u H locs ls hI => ?_) (fun J69 => ?_)
  · obtain ⟨hP, hS, hl, h⟩ := hI
    obtain ⟨z1, rfl⟩ : ∃ z, z = u := ⟨u, rfl⟩
    have hP : va_P D vwCl (RW D a s) H := hP
    have hl : lv_has ls 5 [] := hl
    have h : m_x12_qOf_J69 s z1 = some o := h
    unfold m_x12_qOf_J69 at h
    obtain rfl := Option.some.inj h
    exact W.lret (v := (i8 z1)) hx hb hr (fun t ht hW => ⟨⟨_, (), rfl, rfl, trivial⟩, hS.F ht⟩) hS.2.2 eX12_qOf_58.2.2.2.2.2.2.2
  refine y_head (pcJ := 68) (σ := Unit) (fun u H locs ls => va_P D vwCl (RW D a s) H ∧ va_S (fun _ => False) s₀.heap H locs ∧ lv_has ls 5 [] ∧ m_x12_qOf_J68 s u = some o) (fun u => []) (fun u H locs ls hI => ?_) (fun J68 => ?_)
  · obtain ⟨hP, hS, hl, h⟩ := hI
    skip
    have hP : va_P D vwCl (RW D a s) H := hP
    have hl : lv_has ls 5 [] := hl
    have h : m_x12_qOf_J68 s () = some o := h
    unfold m_x12_qOf_J68 at h
    refine lv_lconst (v := 0) hx hb eX12_qOf_58.2.2.2.2.2.2.1 (by decide) ?_
    exact J69 0 _ _ _ ⟨hP, hS, lv_sub hl [] rfl, h⟩
  refine y_head (pcJ := 39) (σ := Int) (fun u H locs ls => va_P D vwCl (RW D a s) H ∧ va_S (fun _ => False) s₀.heap H locs ∧ lv_has ls 5 [] ∧ m_x12_qOf_J39 s u = some o) (fun u => [.long (i8 u)]) (fun u H locs ls hI => ?_) (fun J39 => ?_)
  · obtain ⟨hP, hS, hl, h⟩ := hI
    obtain ⟨z2, rfl⟩ : ∃ z, z = u := ⟨u, rfl⟩
    have hP : va_P D vwCl (RW D a s) H := hP
    have hl : lv_has ls 5 [] := hl
    have h : m_x12_qOf_J39 s z2 = some o := h
    unfold m_x12_qOf_J39 at h
    obtain rfl := Option.some.inj h
    exact W.lret (v := (i8 z2)) hx hb hr (fun t ht hW => ⟨⟨_, (), rfl, rfl, trivial⟩, hS.F ht⟩) hS.2.2 eX12_qOf_30.2.2.2.2.2.1
  refine lv_iload_n hx hb eX12_qOf_0.1 rfl (lv_at hl 1 rfl) ?_
  obtain ⟨hr3, h⟩ := rg_e h
  by_cases c4 : p0 = 0
  · have h := if_t c4 h
    refine lv_lookup (off := 19) (tgt := 20) hx hb eX12_qOf_0.2.1 (by decide) (by rw [c4]; decide) (by decide) ?_
    refine lv_aload_n hx hb eX12_qOf_0.2.2.1 rfl (lv_at hl 0 rfl) ?_
    refine lv_lload_n hx hb eX12_qOf_0.2.2.2.1 rfl (lv_at hl 2 rfl) ?_
    obtain ⟨r6, hc5, h⟩ := bn_e h
    refine ycV (r0 := i2 r6) (As := [.long (i8 p1)]) (rest := []) (C := RX12) (n := 1) ⟨hx, hb, hml, hown, ht⟩ (k_x12_isBlock l D a p1 _ _ hc5) (zgV ml_X12_616 im_X12_isBlock se_X12_isBlock in_X12 co_X12_isBlock) rfl rfl (by decide +kernel) ⟨Nat.le_of_ble_eq_true rfl, Nat.le_of_ble_eq_true rfl⟩ hN hK hP hS 0 RW_0 rfl rfl rfl hl.1 rfl (Nat.le_of_ble_eq_true rfl) eX12_qOf_0.2.2.2.2.1 ⟨Nat.le_of_ble_eq_true rfl, Nat.le_of_ble_eq_true rfl⟩ (fun H locs hP hS => ?_)
    obtain ⟨hr7, h⟩ := rg_e h
    refine lv_if_eq (tgt := 38) hx hb eX12_qOf_0.2.2.2.2.2.1 (by decide) (fun c8 => ?_) (fun c8 => ?_)
    · have h := if_t ((i2_eq (x := r6) (y := 0) hr7 (by decide)).mp c8) h
      refine lv_lconst (v := 0) hx hb eX12_qOf_30.2.2.2.2.1 (by decide) ?_
      exact J39 0 _ _ _ ⟨hP, hS, lv_sub hl [] rfl, h⟩
    · have h := if_f (mt (i2_eq (x := r6) (y := 0) hr7 (by decide)).mpr c8) h
      refine lv_aload_n hx hb eX12_qOf_0.2.2.2.2.2.2.1 rfl (lv_at hl 0 rfl) ?_
      refine lv_lload_n hx hb eX12_qOf_0.2.2.2.2.2.2.2 rfl (lv_at hl 2 rfl) ?_
      refine lv_l2i (v := i2 p1) hx hb eX12_qOf_30.1 (i8_i p1) ?_
      obtain ⟨r10, hc9, h⟩ := bn_e h
      refine ycV (r0 := i2 r10) (As := [.int (i2 p1)]) (rest := []) (C := RX12) (n := 1) ⟨hx, hb, hml, hown, ht⟩ (k_x12_countOf l D a p1 _ _ hc9) (zgV ml_X12_432 im_X12_countOf se_X12_countOf in_X12 co_X12_countOf) rfl rfl (by decide +kernel) ⟨Nat.le_of_ble_eq_true rfl, Nat.le_of_ble_eq_true rfl⟩ hN hK hP hS 0 RW_0 rfl rfl rfl hl.1 rfl (Nat.le_of_ble_eq_true rfl) eX12_qOf_30.2.1 ⟨Nat.le_of_ble_eq_true rfl, Nat.le_of_ble_eq_true rfl⟩ (fun H locs hP hS => ?_)
      obtain ⟨hr11, h⟩ := rg_e h
      refine lv_i2l (v := i8 r10) hx hb eX12_qOf_30.2.2.1 (i2_l hr11) ?_
      refine lv_goto (tgt := 39) hx hb eX12_qOf_30.2.2.2.1 (by decide) ?_
      exact J39 r10 _ _ _ ⟨hP, hS, lv_sub hl [] rfl, h⟩
  · have h := if_f c4 h
    refine lv_lookup (off := 39) (tgt := 40) hx hb eX12_qOf_0.2.1 (by decide) (by show Op.lookupswitch.offset [(0, 19)] _ _ = _; rw [lv_osw (k := 0) (fun q => c4 ((i2_eq hr3 (by decide)).mp q)) (by decide)]; rfl) (by decide) ?_
    refine lv_aload_n hx hb eX12_qOf_30.2.2.2.2.2.2.1 rfl (lv_at hl 0 rfl) ?_
    refine lv_lload_n hx hb eX12_qOf_30.2.2.2.2.2.2.2 rfl (lv_at hl 2 rfl) ?_
    obtain ⟨r13, hc12, h⟩ := bn_e h
    refine ycV (r0 := i2 r13) (As := [.long (i8 p1)]) (rest := []) (C := RX12) (n := 1) ⟨hx, hb, hml, hown, ht⟩ (k_x12_isBlock l D a p1 _ _ hc12) (zgV ml_X12_616 im_X12_isBlock se_X12_isBlock in_X12 co_X12_isBlock) rfl rfl (by decide +kernel) ⟨Nat.le_of_ble_eq_true rfl, Nat.le_of_ble_eq_true rfl⟩ hN hK hP hS 0 RW_0 rfl rfl rfl hl.1 rfl (Nat.le_of_ble_eq_true rfl) eX12_qOf_42.1 ⟨Nat.le_of_ble_eq_true rfl, Nat.le_of_ble_eq_true rfl⟩ (fun H locs hP hS => ?_)
    obtain ⟨hr14, h⟩ := rg_e h
    refine lv_if_eq (tgt := 68) hx hb eX12_qOf_42.2.1 (by decide) (fun c15 => ?_) (fun c15 => ?_)
    · have h := if_t ((i2_eq (x := r13) (y := 0) hr14 (by decide)).mp c15) h
      exact J68 () _ _ _ ⟨hP, hS, lv_sub hl [] rfl, h⟩
    · have h := if_f (mt (i2_eq (x := r13) (y := 0) hr14 (by decide)).mpr c15) h
      refine lv_aload_n hx hb eX12_qOf_42.2.2.1 rfl (lv_at hl 0 rfl) ?_
      refine lv_lload_n hx hb eX12_qOf_42.2.2.2.1 rfl (lv_at hl 2 rfl) ?_
      refine lv_l2i (v := i2 p1) hx hb eX12_qOf_42.2.2.2.2.1 (i8_i p1) ?_
      obtain ⟨r17, hc16, h⟩ := bn_e h
      refine ycV (r0 := i2 r17) (As := [.int (i2 p1)]) (rest := []) (C := RX12) (n := 1) ⟨hx, hb, hml, hown, ht⟩ (k_x12_isUsed l D a p1 _ _ hc16) (zgV ml_X12_435 im_X12_isUsed se_X12_isUsed in_X12 co_X12_isUsed) rfl rfl (by decide +kernel) ⟨Nat.le_of_ble_eq_true rfl, Nat.le_of_ble_eq_true rfl⟩ hN hK hP hS 0 RW_0 rfl rfl rfl hl.1 rfl (Nat.le_of_ble_eq_true rfl) eX12_qOf_42.2.2.2.2.2.1 ⟨Nat.le_of_ble_eq_true rfl, Nat.le_of_ble_eq_true rfl⟩ (fun H locs hP hS => ?_)
      obtain ⟨hr18, h⟩ := rg_e h
      refine lv_if_eq (tgt := 68) hx hb eX12_qOf_42.2.2.2.2.2.2.1 (by decide) (fun c19 => ?_) (fun c19 => ?_)
      · have h := if_t ((i2_eq (x := r17) (y := 0) hr18 (by decide)).mp c19) h
        exact J68 () _ _ _ ⟨hP, hS, lv_sub hl [] rfl, h⟩
      · have h := if_f (mt (i2_eq (x := r17) (y := 0) hr18 (by decide)).mpr c19) h
        refine lv_aload_n hx hb eX12_qOf_42.2.2.2.2.2.2.2 rfl (lv_at hl 0 rfl) ?_
        refine lv_lload_n hx hb eX12_qOf_58.1 rfl (lv_at hl 2 rfl) ?_
        refine lv_l2i (v := i2 p1) hx hb eX12_qOf_58.2.1 (i8_i p1) ?_
        refine lv_iconst (v := 0) hx hb eX12_qOf_58.2.2.1 (by decide) ?_
        obtain ⟨r21, hc20, h⟩ := bn_e h
        refine ycV (r0 := i2 r21) (As := [.int (i2 p1), .int 0]) (rest := []) (C := RX12) (n := 2) ⟨hx, hb, hml, hown, ht⟩ (k_x12_keyAt l D a p1 0 _ _ hc20) (zgV ml_X12_517 im_X12_keyAt se_X12_keyAt in_X12 co_X12_keyAt) rfl rfl (by decide +kernel) ⟨Nat.le_of_ble_eq_true rfl, Nat.le_of_ble_eq_true rfl⟩ hN hK hP hS 0 RW_0 rfl rfl rfl hl.1 rfl (Nat.le_of_ble_eq_true rfl) eX12_qOf_58.2.2.2.1 ⟨Nat.le_of_ble_eq_true rfl, Nat.le_of_ble_eq_true rfl⟩ (fun H locs hP hS => ?_)
        obtain ⟨hr22, h⟩ := rg_e h
        refine lv_i2l (v := i8 r21) hx hb eX12_qOf_58.2.2.2.2.1 (i2_l hr22) ?_
        refine lv_goto (tgt := 69) hx hb eX12_qOf_58.2.2.2.2.2.1 (by decide) ?_
        exact J69 r21 _ _ _ ⟨hP, hS, lv_sub hl [] rfl, h⟩
set_option maxHeartbeats 4000000 in
set_option maxRecDepth 100000 in
theorem k_x12_qTold (l : Launch) (D : va_G) (a : Nat → Nat) (p0 : Int) (sz : Nat) (s : MS) (o : (Int × MS)) (h : m_x12_qTold p0 s = some o) : yWl l yX12_qTold cX12_qTold 4 (some .long) { frames := 4, cells := 0, slots := 0, locals := 240 } D sz [.ref (a 200), .int (i2 p0)] (RW D a s) (RW D a o.2) (i8 o.1) := by
  refine Met.ofW (cc := cX12_qTold) (maxL := 4) (ret := (some .long)) (by decide) rfl ?_
  intro p e s₀ m args below meth c s₁ B hml hv
  obtain ⟨rfl, ⟨hsz, hP, hK, hD0⟩, hN⟩ := hv
  have hx := B.exec
  have hb := B.bytes
  have hr := B.returns
  have hts := atoms_spec (ws := wz yX12_qTold cX12_qTold 4 (some .long)) B.pre
  have ht : ∀ w ∈ lw_gd, w.before _ s₀ = true := fun w h => hts w (List.mem_cons_of_mem _ h)
  have hown : s₀.vm.findClass RX12 = some m.cls := findClass_of_methodNamed B.named
  have hlocks := B.notSynchronized
  subst hsz
  have hD := hD0.self (sz := s₀.heap.size)
  generalize hAe : va_A (RW D a s) s₀.heap.size = A at hD ⊢
  have hA : ∀ q : Nat, s₀.heap.size ≤ q → A q := fun q h => by rw [← hAe]; exact Or.inr h
  have hS : va_S A s₀.heap s₀.heap [] := va_S.rf
  have hDD : ∀ t : MS, va_D A (RW D a t) := fun t => RW_D t hD
  have hl := lv_entry ([.ref (a 200), .int (i2 p0)]) (n := 4) (Nat.le_of_ble_eq_true rfl)
  rw [lg_entry_eq]
  generalize (lg_sl ([.ref (a 200), .int (i2 p0)]) ++ List.replicate (4 - (lg_sl ([.ref (a 200), .int (i2 p0)])).length) Slot.unset).toArray = ls at hl ⊢
  have hl : lv_has ls 4 [(0, .ref (a 200)), (1, .int (i2 p0))] := hl
  unfold m_x12_qTold at h
  refine y_loop (pcJ := 7) (σ := Int × Int × MS) (fun n u H locs ls => va_P D vwCl (RW D a u.2.2) H ∧ va_S A s₀.heap H locs ∧ lv_has ls 4 [(0, .ref (a 200)), (1, .int (i2 u.1)), (2, .int (i2 u.2.1))] ∧ m_x12_qTold_L7 n u.1 u.2.1 u.2.2 = some o) (fun u => []) (fun u H locs ls hI => by obtain ⟨_, _, _, h⟩ := hI; cases h) (fun n7 ih7 u H locs ls hI => ?_) (fun J7 => ?_)
  · obtain ⟨hP, hS, hl, h⟩ := hI
    obtain ⟨x1, x2, s3⟩ := u
    have hP : va_P D vwCl (RW D a s3) H := hP
    have hl : lv_has ls 4 [(0, .ref (a 200)), (1, .int (i2 x1)), (2, .int (i2 x2))] := hl
    have h : m_x12_qTold_b7 (m_x12_qTold_L7 n7) x1 x2 s3 = some o := h
    unfold m_x12_qTold_b7 at h
    refine y_head (pcJ := 162) (σ := Int × Int × MS) (fun u H locs ls => va_P D vwCl (RW D a u.2.2) H ∧ va_S A s₀.heap H locs ∧ lv_has ls 4 [(0, .ref (a 200)), (1, .int (i2 u.1)), (2, .int (i2 u.2.1))] ∧ m_x12_qTold_J162 (m_x12_qTold_L7 n7) u.1 u.2.1 u.2.2 = some o) (fun u => []) (fun u H locs ls hI => ?_) (fun J162 => ?_)
    · obtain ⟨hP, hS, hl, h⟩ := hI
      obtain ⟨x4, x5, s6⟩ := u
      have hP : va_P D vwCl (RW D a s6) H := hP
      have hl : lv_has ls 4 [(0, .ref (a 200)), (1, .int (i2 x4)), (2, .int (i2 x5))] := hl
      have h : m_x12_qTold_J162 (m_x12_qTold_L7 n7) x4 x5 s6 = some o := h
      unfold m_x12_qTold_J162 at h
      refine lv_iinc (v := i2 (x5 + 1)) (lv' := [(2, .int (i2 (x5 + 1))), (0, .ref (a 200)), (1, .int (i2 x4))]) hx hb eX12_qTold_162.1 hl (k := 2) rfl (i2_add x5 1) (by decide) rfl (fun ls hl => ?_)
      refine lv_goto (tgt := 7) hx hb eX12_qTold_162.2.1 (by decide) ?_
      exact ih7 (x4, x5 + 1, s6) _ _ _ ⟨hP, hS, lv_sub hl [1, 2, 0] rfl, h⟩
    refine lv_iload_n hx hb eX12_qTold_6.2.1 rfl (lv_at hl 2 rfl) ?_
    refine lv_aload_n hx hb eX12_qTold_6.2.2.1 rfl (lv_at hl 0 rfl) ?_
    refine va_get (D := D) (ci := 12) (v := .int (i2 (gI s3 102))) (C := RX12) (T := TX12) (N := 116) hx hb ht inX12 hown hK hP 0 RW_0 rfl 102 (by decide) (ht (.fieldLink RX12 353 "CloneVolumesModel" "qCoded" "I") fl_X12_353) (fun _ h9 => h9) mF_102 eX12_qTold_6.2.2.2.1 ?_
    obtain ⟨hr7, h⟩ := rg_e h
    obtain ⟨hr8, h⟩ := rg_e h
    refine lv_icmp_ge (tgt := 168) hx hb eX12_qTold_6.2.2.2.2.1 (by decide) (fun c9 => ?_) (fun c9 => ?_)
    · have h := if_t ((i2_le (x := (gI s3 102)) (y := x2) hr8 hr7).mp c9) h
      refine lv_aload_n hx hb eX12_qTold_162.2.2.1 rfl (lv_at hl 0 rfl) ?_
      refine va_get (D := D) (ci := 12) (v := .ref (a 107)) (C := RX12) (T := TX12) (N := 116) hx hb ht inX12 hown hK hP 0 RW_0 rfl 107 (by decide) (ht (.fieldLink RX12 249 "CloneVolumesModel" "qPile" "[J") fl_X12_249) (fun _ h9 => h9) mF_107 eX12_qTold_162.2.2.2.1 ?_
      refine lv_iconst (v := 0) hx hb eX12_qTold_162.2.2.2.2.1 (by decide) ?_
      obtain ⟨yl10, eyl10, iyl10, h⟩ := rdL_e h
      refine ya_lald (i := 0) hx hb hK hP 77 2 RW_77 rfl (by decide) eyl10 iyl10 eX12_qTold_162.2.2.2.2.2.1 ?_
      obtain rfl := Option.some.inj h
      exact W.lret (v := (i8 yl10)) hx hb hr (fun t ht hW => ⟨⟨_, (), rfl, rfl, by rw [ht]; exact hP, va_K.moved hW.alike hK, hDD _⟩, hS.F ht⟩) hS.2.2 eX12_qTold_162.2.2.2.2.2.2.1
    · have h := if_f (mt (i2_le (x := (gI s3 102)) (y := x2) hr8 hr7).mpr c9) h
      refine lv_aload_n hx hb eX12_qTold_6.2.2.2.2.2.1 rfl (lv_at hl 0 rfl) ?_
      refine va_get (D := D) (ci := 12) (v := .ref (a 101)) (C := RX12) (T := TX12) (N := 116) hx hb ht inX12 hown hK hP 0 RW_0 rfl 101 (by decide) (ht (.fieldLink RX12 243 "CloneVolumesModel" "qCodes" "[I") fl_X12_243) (fun _ h9 => h9) mF_101 eX12_qTold_6.2.2.2.2.2.2.1 ?_
      refine lv_iload_n hx hb eX12_qTold_6.2.2.2.2.2.2.2 rfl (lv_at hl 2 rfl) ?_
      obtain ⟨y11, ey11, iy11, h⟩ := rdI_e h
      refine ya_iald (i := x2) hx hb hK hP 75 0 RW_75 rfl (by decide) ey11 iy11 eX12_qTold_20.1 ?_
      refine lv_istore_n (lv' := [(3, .int (i2 y11)), (0, .ref (a 200)), (1, .int (i2 x1)), (2, .int (i2 x2))]) hx hb eX12_qTold_20.2.1 rfl hl (by decide) rfl (fun ls hl => ?_)
      refine lv_iload_n hx hb eX12_qTold_20.2.2.1 rfl (lv_at hl 0 rfl) ?_
      refine lv_sipush (v := 1000) hx hb eX12_qTold_20.2.2.2.1 (by decide) ?_
      obtain ⟨hr12, h⟩ := rg_e h
      refine lv_icmp_lt (tgt := 42) hx hb eX12_qTold_20.2.2.2.2.1 (by decide) (fun c13 => ?_) (fun c13 => ?_)
      · have h := if_t ((i2_lt (x := y11) (y := 1000) hr12 (by decide)).mp c13) h
        refine lv_iload_n hx hb eX12_qTold_34.2.2.2.2.1 rfl (lv_at hl 0 rfl) ?_
        refine lv_bipush (v := 60) hx hb eX12_qTold_34.2.2.2.2.2.1 (by decide) ?_
        obtain ⟨hr14, h⟩ := rg_e h
        refine lv_icmp_lt (tgt := 85) hx hb eX12_qTold_34.2.2.2.2.2.2.1 (by decide) (fun c15 => ?_) (fun c15 => ?_)
        · have h := if_t ((i2_lt (x := y11) (y := 60) hr14 (by decide)).mp c15) h
          refine lv_iload_n hx hb eX12_qTold_74.2.2.2.2.2.1 rfl (lv_at hl 0 rfl) ?_
          refine lv_bipush (v := 40) hx hb eX12_qTold_74.2.2.2.2.2.2.1 (by decide) ?_
          obtain ⟨hr16, h⟩ := rg_e h
          refine lv_icmp_lt (tgt := 110) hx hb eX12_qTold_74.2.2.2.2.2.2.2 (by decide) (fun c17 => ?_) (fun c17 => ?_)
          · have h := if_t ((i2_lt (x := y11) (y := 40) hr16 (by decide)).mp c17) h
            refine lv_iload_n hx hb eX12_qTold_104.2.2.1 rfl (lv_at hl 0 rfl) ?_
            refine lv_bipush (v := 13) hx hb eX12_qTold_104.2.2.2.1 (by decide) ?_
            obtain ⟨hr18, h⟩ := rg_e h
            refine lv_icmp_ne (tgt := 124) hx hb eX12_qTold_104.2.2.2.2.1 (by decide) (fun c19 => ?_) (fun c19 => ?_)
            · have h := if_f (mt (i2_eq (x := y11) (y := 13) hr18 (by decide)).mpr c19) h
              refine lv_iload_n hx hb eX12_qTold_121.2.1 rfl (lv_at hl 0 rfl) ?_
              refine lv_bipush (v := 12) hx hb eX12_qTold_121.2.2.1 (by decide) ?_
              obtain ⟨hr20, h⟩ := rg_e h
              refine lv_icmp_ne (tgt := 157) hx hb eX12_qTold_121.2.2.2.1 (by decide) (fun c21 => ?_) (fun c21 => ?_)
              · have h := if_f (mt (i2_eq (x := y11) (y := 12) hr20 (by decide)).mpr c21) h
                refine lv_aload_n hx hb eX12_qTold_150.2.2.2.2.2.1 rfl (lv_at hl 1 rfl) ?_
                refine lv_iload_n hx hb eX12_qTold_150.2.2.2.2.2.2.1 rfl (lv_at hl 0 rfl) ?_
                obtain ⟨s23, hc22, h⟩ := bn_e h
                refine ywVv (As := [.int (i2 y11)]) (rest := []) (C := RX12) (n := 1) (ws' := RW D a s23) ⟨hx, hb, hml, hown, ht⟩ (k_x12_qJoins l D a y11 _ _ _ hc22) (zgV ml_X12_454 im_X12_qJoins se_X12_qJoins in_X12 co_X12_qJoins) rfl rfl (by decide +kernel) ⟨Nat.le_of_ble_eq_true rfl, Nat.le_of_ble_eq_true rfl⟩ hN hK hP (hDD _) hS hA 0 RW_0 rfl rfl rfl hl.1 rfl (Nat.le_of_ble_eq_true rfl) eX12_qTold_150.2.2.2.2.2.2.2 ⟨Nat.le_of_ble_eq_true rfl, Nat.le_of_ble_eq_true rfl⟩ (fun H locs hP hS => ?_)
                exact J162 (x1, x2, s23) _ _ _ ⟨hP, hS, lv_sub hl [1, 2, 3] rfl, h⟩
              · have h := if_t ((i2_eq (x := y11) (y := 12) hr20 (by decide)).mp c21) h
                refine lv_aload_n hx hb eX12_qTold_121.2.2.2.2.1 rfl (lv_at hl 1 rfl) ?_
                refine va_get (D := D) (ci := 12) (v := .ref (a 107)) (C := RX12) (T := TX12) (N := 116) hx hb ht inX12 hown hK hP 0 RW_0 rfl 107 (by decide) (ht (.fieldLink RX12 249 "CloneVolumesModel" "qPile" "[J") fl_X12_249) (fun _ h9 => h9) mF_107 eX12_qTold_121.2.2.2.2.2.1 ?_
                refine lv_aload_n hx hb eX12_qTold_121.2.2.2.2.2.2.1 rfl (lv_at hl 1 rfl) ?_
                refine va_get (D := D) (ci := 12) (v := .int (i2 (gI s3 108))) (C := RX12) (T := TX12) (N := 116) hx hb ht inX12 hown hK hP 0 RW_0 rfl 108 (by decide) (ht (.fieldLink RX12 443 "CloneVolumesModel" "qPiled" "I") fl_X12_443) (fun _ h9 => h9) mF_108 eX12_qTold_121.2.2.2.2.2.2.2 ?_
                refine lv_iconst (v := 1) hx hb eX12_qTold_138.1 (by decide) ?_
                refine lv_isub hx hb eX12_qTold_138.2.1 ?_
                refine z_topi (y := i2 ((gI s3 108) - 1)) (i2_sub (gI s3 108) 1) ?_
                refine lv_lconst (v := 1) hx hb eX12_qTold_138.2.2.1 (by decide) ?_
                refine lv_aload_n hx hb eX12_qTold_138.2.2.2.1 rfl (lv_at hl 1 rfl) ?_
                refine va_get (D := D) (ci := 12) (v := .ref (a 107)) (C := RX12) (T := TX12) (N := 116) hx hb ht inX12 hown hK hP 0 RW_0 rfl 107 (by decide) (ht (.fieldLink RX12 249 "CloneVolumesModel" "qPile" "[J") fl_X12_249) (fun _ h9 => h9) mF_107 eX12_qTold_138.2.2.2.2.1 ?_
                refine lv_aload_n hx hb eX12_qTold_138.2.2.2.2.2.1 rfl (lv_at hl 1 rfl) ?_
                refine va_get (D := D) (ci := 12) (v := .int (i2 (gI s3 108))) (C := RX12) (T := TX12) (N := 116) hx hb ht inX12 hown hK hP 0 RW_0 rfl 108 (by decide) (ht (.fieldLink RX12 443 "CloneVolumesModel" "qPiled" "I") fl_X12_443) (fun _ h9 => h9) mF_108 eX12_qTold_138.2.2.2.2.2.2.1 ?_
                refine lv_iconst (v := 1) hx hb eX12_qTold_138.2.2.2.2.2.2.2 (by decide) ?_
                refine lv_isub hx hb eX12_qTold_150.1 ?_
                refine z_topi (y := i2 ((gI s3 108) - 1)) (i2_sub (gI s3 108) 1) ?_
                obtain ⟨yl24, eyl24, iyl24, h⟩ := rdL_e h
                refine ya_lald (i := ((gI s3 108) - 1)) hx hb hK hP 77 2 RW_77 rfl (by decide) eyl24 iyl24 eX12_qTold_150.2.1 ?_
                refine lv_lsub hx hb eX12_qTold_150.2.2.1 ?_
                refine z_topl (y := i8 (1 - yl24)) (i8_sub 1 yl24) ?_
                obtain ⟨hi25, h⟩ := inb_e h
                refine ya_last (i := ((gI s3 108) - 1)) (x := (1 - yl24)) hx hb hK hP (hDD _) hS 77 2 RW_77 rfl (by decide) hi25 eX12_qTold_150.2.2.2.1 (RW_w77 _) (fun H locs hP hS => ?_)
                obtain ⟨s26, hs26, h⟩ := st_e h
                rw [hs26] at hP
                refine lv_goto (tgt := 162) hx hb eX12_qTold_150.2.2.2.2.1 (by decide) ?_
                exact J162 (x1, x2, s26) _ _ _ ⟨hP, hS, lv_sub hl [1, 2, 3] rfl, h⟩
            · have h := if_t ((i2_eq (x := y11) (y := 13) hr18 (by decide)).mp c19) h
              refine lv_aload_n hx hb eX12_qTold_104.2.2.2.2.2.1 rfl (lv_at hl 1 rfl) ?_
              refine lv_lconst (v := 1) hx hb eX12_qTold_104.2.2.2.2.2.2.1 (by decide) ?_
              obtain ⟨s28, hc27, h⟩ := bn_e h
              refine ywVv (As := [.long 1]) (rest := []) (C := RX12) (n := 1) (ws' := RW D a s28) ⟨hx, hb, hml, hown, ht⟩ (k_x12_qPuts l D a 1 _ _ _ hc27) (zgV ml_X12_446 im_X12_qPuts se_X12_qPuts in_X12 co_X12_qPuts) rfl rfl (by decide +kernel) ⟨Nat.le_of_ble_eq_true rfl, Nat.le_of_ble_eq_true rfl⟩ hN hK hP (hDD _) hS hA 0 RW_0 rfl rfl rfl hl.1 rfl (Nat.le_of_ble_eq_true rfl) eX12_qTold_104.2.2.2.2.2.2.2 ⟨Nat.le_of_ble_eq_true rfl, Nat.le_of_ble_eq_true rfl⟩ (fun H locs hP hS => ?_)
              refine lv_goto (tgt := 162) hx hb eX12_qTold_121.1 (by decide) ?_
              exact J162 (x1, x2, s28) _ _ _ ⟨hP, hS, lv_sub hl [1, 2, 3] rfl, h⟩
          · have h := if_f (mt (i2_lt (x := y11) (y := 40) hr16 (by decide)).mpr c17) h
            refine lv_aload_n hx hb eX12_qTold_91.1 rfl (lv_at hl 1 rfl) ?_
            refine lv_aload_n hx hb eX12_qTold_91.2.1 rfl (lv_at hl 1 rfl) ?_
            refine lv_iload_n hx hb eX12_qTold_91.2.2.1 rfl (lv_at hl 0 rfl) ?_
            refine lv_bipush (v := 40) hx hb eX12_qTold_91.2.2.2.1 (by decide) ?_
            refine lv_isub hx hb eX12_qTold_91.2.2.2.2.1 ?_
            refine z_topi (y := i2 (y11 - 40)) (i2_sub y11 40) ?_
            refine lv_iload_n hx hb eX12_qTold_91.2.2.2.2.2.1 rfl (lv_at hl 2 rfl) ?_
            obtain ⟨rl30, hc29, h⟩ := bn_e h
            refine ycVl (r0 := i8 rl30) (As := [.int (i2 (y11 - 40)), .int (i2 x1)]) (rest := [.ref (a 200)]) (C := RX12) (n := 2) ⟨hx, hb, hml, hown, ht⟩ (k_x12_qPartOf l D a (y11 - 40) x1 _ _ hc29) (zgV ml_X12_450 im_X12_qPartOf se_X12_qPartOf in_X12 co_X12_qPartOf) rfl rfl (by decide +kernel) ⟨Nat.le_of_ble_eq_true rfl, Nat.le_of_ble_eq_true rfl⟩ hN hK hP hS 0 RW_0 rfl rfl rfl hl.1 rfl (Nat.le_of_ble_eq_true rfl) eX12_qTold_91.2.2.2.2.2.2.1 ⟨Nat.le_of_ble_eq_true rfl, Nat.le_of_ble_eq_true rfl⟩ (fun H locs hP hS => ?_)
            obtain ⟨rl32, hc31, h⟩ := bn_e h
            refine ycSl (r0 := i8 rl32) (As := [.long (i8 rl30)]) (rest := [.ref (a 200)]) (n := 1) ⟨hx, hb, hml, hown, ht⟩ (k_x12_qClip l D a rl30 _ _ hc31) (zgT ml_X12_751 st_X12_qClip in_X12 co_X12_qClip) rfl rfl (by decide +kernel) ⟨Nat.le_of_ble_eq_true rfl, Nat.le_of_ble_eq_true rfl⟩ hN hK hP hS rfl hl.1 rfl (Nat.le_of_ble_eq_true rfl) eX12_qTold_91.2.2.2.2.2.2.2 ⟨Nat.le_of_ble_eq_true rfl, Nat.le_of_ble_eq_true rfl⟩ (fun H locs hP hS => ?_)
            obtain ⟨s34, hc33, h⟩ := bn_e h
            refine ywVv (As := [.long (i8 rl32)]) (rest := []) (C := RX12) (n := 1) (ws' := RW D a s34) ⟨hx, hb, hml, hown, ht⟩ (k_x12_qPuts l D a rl32 _ _ _ hc33) (zgV ml_X12_446 im_X12_qPuts se_X12_qPuts in_X12 co_X12_qPuts) rfl rfl (by decide +kernel) ⟨Nat.le_of_ble_eq_true rfl, Nat.le_of_ble_eq_true rfl⟩ hN hK hP (hDD _) hS hA 0 RW_0 rfl rfl rfl hl.1 rfl (Nat.le_of_ble_eq_true rfl) eX12_qTold_104.1 ⟨Nat.le_of_ble_eq_true rfl, Nat.le_of_ble_eq_true rfl⟩ (fun H locs hP hS => ?_)
            refine lv_goto (tgt := 162) hx hb eX12_qTold_104.2.1 (by decide) ?_
            exact J162 (x1, x2, s34) _ _ _ ⟨hP, hS, lv_sub hl [1, 2, 3] rfl, h⟩
        · have h := if_f (mt (i2_lt (x := y11) (y := 60) hr14 (by decide)).mpr c15) h
          refine lv_aload_n hx hb eX12_qTold_34.2.2.2.2.2.2.2 rfl (lv_at hl 1 rfl) ?_
          refine va_get (D := D) (ci := 12) (v := .ref (a 107)) (C := RX12) (T := TX12) (N := 116) hx hb ht inX12 hown hK hP 0 RW_0 rfl 107 (by decide) (ht (.fieldLink RX12 249 "CloneVolumesModel" "qPile" "[J") fl_X12_249) (fun _ h9 => h9) mF_107 eX12_qTold_49.1 ?_
          refine lv_aload_n hx hb eX12_qTold_49.2.1 rfl (lv_at hl 1 rfl) ?_
          refine va_get (D := D) (ci := 12) (v := .int (i2 (gI s3 108))) (C := RX12) (T := TX12) (N := 116) hx hb ht inX12 hown hK hP 0 RW_0 rfl 108 (by decide) (ht (.fieldLink RX12 443 "CloneVolumesModel" "qPiled" "I") fl_X12_443) (fun _ h9 => h9) mF_108 eX12_qTold_49.2.2.1 ?_
          refine lv_iconst (v := 1) hx hb eX12_qTold_49.2.2.2.1 (by decide) ?_
          refine lv_isub hx hb eX12_qTold_49.2.2.2.2.1 ?_
          refine z_topi (y := i2 ((gI s3 108) - 1)) (i2_sub (gI s3 108) 1) ?_
          refine lv_aload_n hx hb eX12_qTold_49.2.2.2.2.2.1 rfl (lv_at hl 1 rfl) ?_
          refine lv_iload_n hx hb eX12_qTold_49.2.2.2.2.2.2.1 rfl (lv_at hl 0 rfl) ?_
          refine lv_bipush (v := 60) hx hb eX12_qTold_49.2.2.2.2.2.2.2 (by decide) ?_
          refine lv_isub hx hb eX12_qTold_62.1 ?_
          refine z_topi (y := i2 (y11 - 60)) (i2_sub y11 60) ?_
          refine lv_aload_n hx hb eX12_qTold_62.2.1 rfl (lv_at hl 1 rfl) ?_
          refine va_get (D := D) (ci := 12) (v := .ref (a 107)) (C := RX12) (T := TX12) (N := 116) hx hb ht inX12 hown hK hP 0 RW_0 rfl 107 (by decide) (ht (.fieldLink RX12 249 "CloneVolumesModel" "qPile" "[J") fl_X12_249) (fun _ h9 => h9) mF_107 eX12_qTold_62.2.2.1 ?_
          refine lv_aload_n hx hb eX12_qTold_62.2.2.2.1 rfl (lv_at hl 1 rfl) ?_
          refine va_get (D := D) (ci := 12) (v := .int (i2 (gI s3 108))) (C := RX12) (T := TX12) (N := 116) hx hb ht inX12 hown hK hP 0 RW_0 rfl 108 (by decide) (ht (.fieldLink RX12 443 "CloneVolumesModel" "qPiled" "I") fl_X12_443) (fun _ h9 => h9) mF_108 eX12_qTold_62.2.2.2.2.1 ?_
          refine lv_iconst (v := 1) hx hb eX12_qTold_62.2.2.2.2.2.1 (by decide) ?_
          refine lv_isub hx hb eX12_qTold_62.2.2.2.2.2.2.1 ?_
          refine z_topi (y := i2 ((gI s3 108) - 1)) (i2_sub (gI s3 108) 1) ?_
          obtain ⟨yl35, eyl35, iyl35, h⟩ := rdL_e h
          refine ya_lald (i := ((gI s3 108) - 1)) hx hb hK hP 77 2 RW_77 rfl (by decide) eyl35 iyl35 eX12_qTold_62.2.2.2.2.2.2.2 ?_
          refine lv_iload_n hx hb eX12_qTold_74.1 rfl (lv_at hl 2 rfl) ?_
          obtain ⟨rl37, hc36, h⟩ := bn_e h
          refine ycVl (r0 := i8 rl37) (As := [.int (i2 (y11 - 60)), .long (i8 yl35), .int (i2 x1)]) (rest := [.int (i2 ((gI s3 108) - 1)), .ref (a 107)]) (C := RX12) (n := 3) ⟨hx, hb, hml, hown, ht⟩ (k_x12_qOf l D a (y11 - 60) yl35 x1 _ _ hc36) (zgV ml_X12_759 im_X12_qOf se_X12_qOf in_X12 co_X12_qOf) rfl rfl (by decide +kernel) ⟨Nat.le_of_ble_eq_true rfl, Nat.le_of_ble_eq_true rfl⟩ hN hK hP hS 0 RW_0 rfl rfl rfl hl.1 rfl (Nat.le_of_ble_eq_true rfl) eX12_qTold_74.2.1 ⟨Nat.le_of_ble_eq_true rfl, Nat.le_of_ble_eq_true rfl⟩ (fun H locs hP hS => ?_)
          obtain ⟨rl39, hc38, h⟩ := bn_e h
          refine ycSl (r0 := i8 rl39) (As := [.long (i8 rl37)]) (rest := [.int (i2 ((gI s3 108) - 1)), .ref (a 107)]) (n := 1) ⟨hx, hb, hml, hown, ht⟩ (k_x12_qClip l D a rl37 _ _ hc38) (zgT ml_X12_751 st_X12_qClip in_X12 co_X12_qClip) rfl rfl (by decide +kernel) ⟨Nat.le_of_ble_eq_true rfl, Nat.le_of_ble_eq_true rfl⟩ hN hK hP hS rfl hl.1 rfl (Nat.le_of_ble_eq_true rfl) eX12_qTold_74.2.2.1 ⟨Nat.le_of_ble_eq_true rfl, Nat.le_of_ble_eq_true rfl⟩ (fun H locs hP hS => ?_)
          obtain ⟨hi40, h⟩ := inb_e h
          refine ya_last (i := ((gI s3 108) - 1)) (x := rl39) hx hb hK hP (hDD _) hS 77 2 RW_77 rfl (by decide) hi40 eX12_qTold_74.2.2.2.1 (RW_w77 _) (fun H locs hP hS => ?_)
          obtain ⟨s41, hs41, h⟩ := st_e h
          rw [hs41] at hP
          refine lv_goto (tgt := 162) hx hb eX12_qTold_74.2.2.2.2.1 (by decide) ?_
          exact J162 (x1, x2, s41) _ _ _ ⟨hP, hS, lv_sub hl [1, 2, 3] rfl, h⟩
      · have h := if_f (mt (i2_lt (x := y11) (y := 1000) hr12 (by decide)).mpr c13) h
        refine lv_aload_n hx hb eX12_qTold_20.2.2.2.2.2.1 rfl (lv_at hl 1 rfl) ?_
        refine lv_iload_n hx hb eX12_qTold_20.2.2.2.2.2.2.1 rfl (lv_at hl 0 rfl) ?_
        refine lv_sipush (v := 1000) hx hb eX12_qTold_20.2.2.2.2.2.2.2 (by decide) ?_
        refine lv_isub hx hb eX12_qTold_34.1 ?_
        refine z_topi (y := i2 (y11 - 1000)) (i2_sub y11 1000) ?_
        obtain ⟨hr42, h⟩ := rg_e h
        refine lv_i2l (v := i8 (y11 - 1000)) hx hb eX12_qTold_34.2.1 (i2_l hr42) ?_
        obtain ⟨s44, hc43, h⟩ := bn_e h
        refine ywVv (As := [.long (i8 (y11 - 1000))]) (rest := []) (C := RX12) (n := 1) (ws' := RW D a s44) ⟨hx, hb, hml, hown, ht⟩ (k_x12_qPuts l D a (y11 - 1000) _ _ _ hc43) (zgV ml_X12_446 im_X12_qPuts se_X12_qPuts in_X12 co_X12_qPuts) rfl rfl (by decide +kernel) ⟨Nat.le_of_ble_eq_true rfl, Nat.le_of_ble_eq_true rfl⟩ hN hK hP (hDD _) hS hA 0 RW_0 rfl rfl rfl hl.1 rfl (Nat.le_of_ble_eq_true rfl) eX12_qTold_34.2.2.1 ⟨Nat.le_of_ble_eq_true rfl, Nat.le_of_ble_eq_true rfl⟩ (fun H locs hP hS => ?_)
        refine lv_goto (tgt := 162) hx hb eX12_qTold_34.2.2.2.1 (by decide) ?_
        exact J162 (x1, x2, s44) _ _ _ ⟨hP, hS, lv_sub hl [1, 2, 3] rfl, h⟩
  refine lv_aload_n hx hb eX12_qTakes_133.2.2.2.2.1 rfl (lv_at hl 0 rfl) ?_
  refine lv_iconst (v := 0) hx hb eX12_qTakes_133.2.2.2.2.2.1 (by decide) ?_
  refine ya_put (D := D) (ci := 12) (v := .int 0) (ty := .int) (C := RX12) (T := TX12) (N := 116) hx hb ht inX12 tyX12 tyX12_ok nmX12 hown hK hP (hDD _) hS 0 RW_0 rfl 108 (by decide) (ht (.fieldLink RX12 443 "CloneVolumesModel" "qPiled" "I") fl_X12_443) (fun _ h9 => h9) rfl (by decide +kernel) rfl rfl (by rw [mF_len]; decide) eX12_qTakes_133.2.2.2.2.2.2.1 (RW_f108 0) (fun H locs hP hS => ?_)
  obtain ⟨s45, hs45, h⟩ := st_e h
  rw [hs45] at hP
  refine lv_iconst (v := 0) hx hb eX12_qTakes_133.2.2.2.2.2.2.2 (by decide) ?_
  refine lv_istore_n (lv' := [(2, .int 0), (0, .ref (a 200)), (1, .int (i2 p0))]) hx hb eX12_qTold_6.1 rfl hl (by decide) rfl (fun ls hl => ?_)
  exact J7 FU (p0, 0, s45) _ _ _ ⟨hP, hS, lv_sub hl [1, 2, 0] rfl, h⟩
set_option maxHeartbeats 4000000 in
set_option maxRecDepth 100000 in
theorem k_x12_qKind (l : Launch) (D : va_G) (a : Nat → Nat) (sz : Nat) (s : MS) (o : (Int × MS)) (h : m_x12_qKind s = some o) : yWi l yX12_qKind cX12_qKind 2 (some .int) { frames := 4, cells := 0, slots := 0, locals := 240 } D sz [.ref (a 200)] (RW D a s) (RW D a o.2) (i2 o.1) := by
  refine Met.ofW (cc := cX12_qKind) (maxL := 2) (ret := (some .int)) (by decide) rfl ?_
  intro p e s₀ m args below meth c s₁ B hml hv
  obtain ⟨rfl, ⟨hsz, hP, hK, hD0⟩, hN⟩ := hv
  have hx := B.exec
  have hb := B.bytes
  have hr := B.returns
  have hts := atoms_spec (ws := wz yX12_qKind cX12_qKind 2 (some .int)) B.pre
  have ht : ∀ w ∈ lw_gd, w.before _ s₀ = true := fun w h => hts w (List.mem_cons_of_mem _ h)
  have hown : s₀.vm.findClass RX12 = some m.cls := findClass_of_methodNamed B.named
  have hlocks := B.notSynchronized
  subst hsz
  have hD := hD0.self (sz := s₀.heap.size)
  generalize hAe : va_A (RW D a s) s₀.heap.size = A at hD ⊢
  have hA : ∀ q : Nat, s₀.heap.size ≤ q → A q := fun q h => by rw [← hAe]; exact Or.inr h
  have hS : va_S A s₀.heap s₀.heap [] := va_S.rf
  have hDD : ∀ t : MS, va_D A (RW D a t) := fun t => RW_D t hD
  have hl := lv_entry ([.ref (a 200)]) (n := 2) (Nat.le_of_ble_eq_true rfl)
  rw [lg_entry_eq]
  generalize (lg_sl ([.ref (a 200)]) ++ List.replicate (2 - (lg_sl ([.ref (a 200)])).length) Slot.unset).toArray = ls at hl ⊢
  have hl : lv_has ls 2 [(0, .ref (a 200))] := hl
  unfold m_x12_qKind at h
  refine y_head (pcJ := 90) (σ := Int × MS) (fun u H locs ls => va_P D vwCl (RW D a u.2) H ∧ va_S A s₀.heap H locs ∧ lv_has ls 2 [(1, .int (i2 u.1))] ∧ m_x12_qKind_J90 u.1 u.2 = some o) (fun u => []) (fun u H locs ls hI => ?_) (fun J90 => ?_)
  · obtain ⟨hP, hS, hl, h⟩ := hI
    obtain ⟨x1, s2⟩ := u
    have hP : va_P D vwCl (RW D a s2) H := hP
    have hl : lv_has ls 2 [(1, .int (i2 x1))] := hl
    have h : m_x12_qKind_J90 x1 s2 = some o := h
    unfold m_x12_qKind_J90 at h
    refine lv_iload_n hx hb eX12_qKind_78.2.2.2.2.2.2.1 rfl (lv_at hl 0 rfl) ?_
    obtain rfl := Option.some.inj h
    exact W.iret (v := (i2 x1)) hx hb hr (fun t ht hW => ⟨⟨_, (), rfl, rfl, by rw [ht]; exact hP, va_K.moved hW.alike hK, hDD _⟩, hS.F ht⟩) hS.2.2 eX12_qKind_78.2.2.2.2.2.2.2
  refine y_head (pcJ := 76) (σ := Int × MS) (fun u H locs ls => va_P D vwCl (RW D a u.2) H ∧ va_S A s₀.heap H locs ∧ lv_has ls 2 [(0, .ref (a 200))] ∧ m_x12_qKind_J76 u.1 u.2 = some o) (fun u => [.int (i2 u.1)]) (fun u H locs ls hI => ?_) (fun J76 => ?_)
  · obtain ⟨hP, hS, hl, h⟩ := hI
    obtain ⟨x3, s4⟩ := u
    have hP : va_P D vwCl (RW D a s4) H := hP
    have hl : lv_has ls 2 [(0, .ref (a 200))] := hl
    have h : m_x12_qKind_J76 x3 s4 = some o := h
    unfold m_x12_qKind_J76 at h
    refine lv_istore_n (lv' := [(1, .int (i2 x3)), (0, .ref (a 200))]) hx hb eX12_qKind_62.2.2.2.2.2.2.1 rfl hl (by decide) rfl (fun ls hl => ?_)
    refine lv_iload_n hx hb eX12_qKind_62.2.2.2.2.2.2.2 rfl (lv_at hl 0 rfl) ?_
    refine lv_iconst (v := 5) hx hb eX12_qKind_78.1 (by decide) ?_
    obtain ⟨hr5, h⟩ := rg_e h
    refine lv_icmp_ne (tgt := 90) hx hb eX12_qKind_78.2.1 (by decide) (fun c6 => ?_) (fun c6 => ?_)
    · have h := if_f (mt (i2_eq (x := x3) (y := 5) hr5 (by decide)).mpr c6) h
      exact J90 (x3, s4) _ _ _ ⟨hP, hS, lv_sub hl [0] rfl, h⟩
    · have h := if_t ((i2_eq (x := x3) (y := 5) hr5 (by decide)).mp c6) h
      refine lv_aload_n hx hb eX12_qKind_78.2.2.1 rfl (lv_at hl 1 rfl) ?_
      refine lv_aload_n hx hb eX12_qKind_78.2.2.2.1 rfl (lv_at hl 1 rfl) ?_
      refine va_get (D := D) (ci := 12) (v := .ref (a 84)) (C := RX12) (T := TX12) (N := 116) hx hb ht inX12 hown hK hP 0 RW_0 rfl 84 (by decide) (ht (.fieldLink RX12 192 "CloneVolumesModel" "leastAsked" "[C") fl_X12_192) (fun _ h9 => h9) mF_84 eX12_qKind_78.2.2.2.2.1 ?_
      obtain ⟨s8, hc7, h⟩ := bn_e h
      refine ywVv (As := [.ref (a 84)]) (rest := []) (C := RX12) (n := 1) (ws' := RW D a s8) ⟨hx, hb, hml, hown, ht⟩ (k_x12_asks l D a 58 (a 84) 84 5 (fun _ => RW_58) (by decide) _ _ _ hc7) (zgV ml_X12_327 im_X12_asks se_X12_asks in_X12 co_X12_asks) rfl rfl (by decide +kernel) ⟨Nat.le_of_ble_eq_true rfl, Nat.le_of_ble_eq_true rfl⟩ hN hK hP (hDD _) hS hA 0 RW_0 rfl rfl rfl hl.1 rfl (Nat.le_of_ble_eq_true rfl) eX12_qKind_78.2.2.2.2.2.1 ⟨Nat.le_of_ble_eq_true rfl, Nat.le_of_ble_eq_true rfl⟩ (fun H locs hP hS => ?_)
      exact J90 (x3, s8) _ _ _ ⟨hP, hS, lv_sub hl [0] rfl, h⟩
  refine lv_aload_n hx hb eX12_isDrawn_81.2.2.1 rfl (lv_at hl 0 rfl) ?_
  refine lv_aload_n hx hb eX12_isDrawn_81.2.2.2.1 rfl (lv_at hl 0 rfl) ?_
  refine va_get (D := D) (ci := 12) (v := .ref (a 79)) (C := RX12) (T := TX12) (N := 116) hx hb ht inX12 hown hK hP 0 RW_0 rfl 79 (by decide) (ht (.fieldLink RX12 177 "CloneVolumesModel" "firstAsked" "[C") fl_X12_177) (fun _ h9 => h9) mF_79 eX12_isDrawn_81.2.2.2.2.1 ?_
  obtain ⟨⟨r11, s10⟩, hc9, h⟩ := bn_e h
  refine ywV (r0 := i2 r11) (As := [.ref (a 79)]) (rest := []) (C := RX12) (n := 1) (ws' := RW D a s10) ⟨hx, hb, hml, hown, ht⟩ (k_x12_takes l D a 53 (a 79) 79 5 (fun _ => RW_53) (by decide) _ _ _ hc9) (zgV ml_X12_293 im_X12_takes se_X12_takes in_X12 co_X12_takes) rfl rfl (by decide +kernel) ⟨Nat.le_of_ble_eq_true rfl, Nat.le_of_ble_eq_true rfl⟩ hN hK hP (hDD _) hS hA 0 RW_0 rfl rfl rfl hl.1 rfl (Nat.le_of_ble_eq_true rfl) eX12_isDrawn_81.2.2.2.2.2.1 ⟨Nat.le_of_ble_eq_true rfl, Nat.le_of_ble_eq_true rfl⟩ (fun H locs hP hS => ?_)
  obtain ⟨hr12, h⟩ := rg_e h
  refine lv_if_eq (tgt := 15) hx hb eX12_isDrawn_81.2.2.2.2.2.2.1 (by decide) (fun c13 => ?_) (fun c13 => ?_)
  · have h := if_t ((i2_eq (x := r11) (y := 0) hr12 (by decide)).mp c13) h
    refine lv_aload_n hx hb eX12_qKind_12.2.1 rfl (lv_at hl 0 rfl) ?_
    refine lv_aload_n hx hb eX12_qKind_12.2.2.1 rfl (lv_at hl 0 rfl) ?_
    refine va_get (D := D) (ci := 12) (v := .ref (a 80)) (C := RX12) (T := TX12) (N := 116) hx hb ht inX12 hown hK hP 0 RW_0 rfl 80 (by decide) (ht (.fieldLink RX12 180 "CloneVolumesModel" "lastAsked" "[C") fl_X12_180) (fun _ h9 => h9) mF_80 eX12_qKind_12.2.2.2.1 ?_
    obtain ⟨⟨r16, s15⟩, hc14, h⟩ := bn_e h
    refine ywV (r0 := i2 r16) (As := [.ref (a 80)]) (rest := []) (C := RX12) (n := 1) (ws' := RW D a s15) ⟨hx, hb, hml, hown, ht⟩ (k_x12_takes l D a 54 (a 80) 80 4 (fun _ => RW_54) (by decide) _ _ _ hc14) (zgV ml_X12_293 im_X12_takes se_X12_takes in_X12 co_X12_takes) rfl rfl (by decide +kernel) ⟨Nat.le_of_ble_eq_true rfl, Nat.le_of_ble_eq_true rfl⟩ hN hK hP (hDD _) hS hA 0 RW_0 rfl rfl rfl hl.1 rfl (Nat.le_of_ble_eq_true rfl) eX12_qKind_12.2.2.2.2.1 ⟨Nat.le_of_ble_eq_true rfl, Nat.le_of_ble_eq_true rfl⟩ (fun H locs hP hS => ?_)
    obtain ⟨hr17, h⟩ := rg_e h
    refine lv_if_eq (tgt := 30) hx hb eX12_qKind_12.2.2.2.2.2.1 (by decide) (fun c18 => ?_) (fun c18 => ?_)
    · have h := if_t ((i2_eq (x := r16) (y := 0) hr17 (by decide)).mp c18) h
      refine lv_aload_n hx hb eX12_qKind_30.1 rfl (lv_at hl 0 rfl) ?_
      refine lv_aload_n hx hb eX12_qKind_30.2.1 rfl (lv_at hl 0 rfl) ?_
      refine va_get (D := D) (ci := 12) (v := .ref (a 81)) (C := RX12) (T := TX12) (N := 116) hx hb ht inX12 hown hK hP 0 RW_0 rfl 81 (by decide) (ht (.fieldLink RX12 183 "CloneVolumesModel" "oftenAsked" "[C") fl_X12_183) (fun _ h9 => h9) mF_81 eX12_qKind_30.2.2.1 ?_
      obtain ⟨⟨r21, s20⟩, hc19, h⟩ := bn_e h
      refine ywV (r0 := i2 r21) (As := [.ref (a 81)]) (rest := []) (C := RX12) (n := 1) (ws' := RW D a s20) ⟨hx, hb, hml, hown, ht⟩ (k_x12_takes l D a 55 (a 81) 81 5 (fun _ => RW_55) (by decide) _ _ _ hc19) (zgV ml_X12_293 im_X12_takes se_X12_takes in_X12 co_X12_takes) rfl rfl (by decide +kernel) ⟨Nat.le_of_ble_eq_true rfl, Nat.le_of_ble_eq_true rfl⟩ hN hK hP (hDD _) hS hA 0 RW_0 rfl rfl rfl hl.1 rfl (Nat.le_of_ble_eq_true rfl) eX12_qKind_30.2.2.2.1 ⟨Nat.le_of_ble_eq_true rfl, Nat.le_of_ble_eq_true rfl⟩ (fun H locs hP hS => ?_)
      obtain ⟨hr22, h⟩ := rg_e h
      refine lv_if_eq (tgt := 45) hx hb eX12_qKind_30.2.2.2.2.1 (by decide) (fun c23 => ?_) (fun c23 => ?_)
      · have h := if_t ((i2_eq (x := r21) (y := 0) hr22 (by decide)).mp c23) h
        refine lv_aload_n hx hb eX12_qKind_30.2.2.2.2.2.2.2 rfl (lv_at hl 0 rfl) ?_
        refine lv_aload_n hx hb eX12_qKind_46.1 rfl (lv_at hl 0 rfl) ?_
        refine va_get (D := D) (ci := 12) (v := .ref (a 82)) (C := RX12) (T := TX12) (N := 116) hx hb ht inX12 hown hK hP 0 RW_0 rfl 82 (by decide) (ht (.fieldLink RX12 186 "CloneVolumesModel" "totalAsked" "[C") fl_X12_186) (fun _ h9 => h9) mF_82 eX12_qKind_46.2.1 ?_
        obtain ⟨⟨r26, s25⟩, hc24, h⟩ := bn_e h
        refine ywV (r0 := i2 r26) (As := [.ref (a 82)]) (rest := []) (C := RX12) (n := 1) (ws' := RW D a s25) ⟨hx, hb, hml, hown, ht⟩ (k_x12_takes l D a 56 (a 82) 82 5 (fun _ => RW_56) (by decide) _ _ _ hc24) (zgV ml_X12_293 im_X12_takes se_X12_takes in_X12 co_X12_takes) rfl rfl (by decide +kernel) ⟨Nat.le_of_ble_eq_true rfl, Nat.le_of_ble_eq_true rfl⟩ hN hK hP (hDD _) hS hA 0 RW_0 rfl rfl rfl hl.1 rfl (Nat.le_of_ble_eq_true rfl) eX12_qKind_46.2.2.1 ⟨Nat.le_of_ble_eq_true rfl, Nat.le_of_ble_eq_true rfl⟩ (fun H locs hP hS => ?_)
        obtain ⟨hr27, h⟩ := rg_e h
        refine lv_if_eq (tgt := 60) hx hb eX12_qKind_46.2.2.2.1 (by decide) (fun c28 => ?_) (fun c28 => ?_)
        · have h := if_t ((i2_eq (x := r26) (y := 0) hr27 (by decide)).mp c28) h
          refine lv_aload_n hx hb eX12_qKind_46.2.2.2.2.2.2.1 rfl (lv_at hl 0 rfl) ?_
          refine lv_aload_n hx hb eX12_qKind_46.2.2.2.2.2.2.2 rfl (lv_at hl 0 rfl) ?_
          refine va_get (D := D) (ci := 12) (v := .ref (a 83)) (C := RX12) (T := TX12) (N := 116) hx hb ht inX12 hown hK hP 0 RW_0 rfl 83 (by decide) (ht (.fieldLink RX12 189 "CloneVolumesModel" "mostAsked" "[C") fl_X12_189) (fun _ h9 => h9) mF_83 eX12_qKind_62.1 ?_
          obtain ⟨⟨r31, s30⟩, hc29, h⟩ := bn_e h
          refine ywV (r0 := i2 r31) (As := [.ref (a 83)]) (rest := []) (C := RX12) (n := 1) (ws' := RW D a s30) ⟨hx, hb, hml, hown, ht⟩ (k_x12_takes l D a 57 (a 83) 83 4 (fun _ => RW_57) (by decide) _ _ _ hc29) (zgV ml_X12_293 im_X12_takes se_X12_takes in_X12 co_X12_takes) rfl rfl (by decide +kernel) ⟨Nat.le_of_ble_eq_true rfl, Nat.le_of_ble_eq_true rfl⟩ hN hK hP (hDD _) hS hA 0 RW_0 rfl rfl rfl hl.1 rfl (Nat.le_of_ble_eq_true rfl) eX12_qKind_62.2.1 ⟨Nat.le_of_ble_eq_true rfl, Nat.le_of_ble_eq_true rfl⟩ (fun H locs hP hS => ?_)
          obtain ⟨hr32, h⟩ := rg_e h
          refine lv_if_eq (tgt := 75) hx hb eX12_qKind_62.2.2.1 (by decide) (fun c33 => ?_) (fun c33 => ?_)
          · have h := if_t ((i2_eq (x := r31) (y := 0) hr32 (by decide)).mp c33) h
            refine lv_iconst (v := 5) hx hb eX12_qKind_62.2.2.2.2.2.1 (by decide) ?_
            exact J76 (5, s30) _ _ _ ⟨hP, hS, lv_sub hl [0] rfl, h⟩
          · have h := if_f (mt (i2_eq (x := r31) (y := 0) hr32 (by decide)).mpr c33) h
            refine lv_iconst (v := 4) hx hb eX12_qKind_62.2.2.2.1 (by decide) ?_
            refine lv_goto (tgt := 76) hx hb eX12_qKind_62.2.2.2.2.1 (by decide) ?_
            exact J76 (4, s30) _ _ _ ⟨hP, hS, lv_sub hl [0] rfl, h⟩
        · have h := if_f (mt (i2_eq (x := r26) (y := 0) hr27 (by decide)).mpr c28) h
          refine lv_iconst (v := 3) hx hb eX12_qKind_46.2.2.2.2.1 (by decide) ?_
          refine lv_goto (tgt := 76) hx hb eX12_qKind_46.2.2.2.2.2.1 (by decide) ?_
          exact J76 (3, s25) _ _ _ ⟨hP, hS, lv_sub hl [0] rfl, h⟩
      · have h := if_f (mt (i2_eq (x := r21) (y := 0) hr22 (by decide)).mpr c23) h
        refine lv_iconst (v := 2) hx hb eX12_qKind_30.2.2.2.2.2.1 (by decide) ?_
        refine lv_goto (tgt := 76) hx hb eX12_qKind_30.2.2.2.2.2.2.1 (by decide) ?_
        exact J76 (2, s20) _ _ _ ⟨hP, hS, lv_sub hl [0] rfl, h⟩
    · have h := if_f (mt (i2_eq (x := r16) (y := 0) hr17 (by decide)).mpr c18) h
      refine lv_iconst (v := 1) hx hb eX12_qKind_12.2.2.2.2.2.2.1 (by decide) ?_
      refine lv_goto (tgt := 76) hx hb eX12_qKind_12.2.2.2.2.2.2.2 (by decide) ?_
      exact J76 (1, s15) _ _ _ ⟨hP, hS, lv_sub hl [0] rfl, h⟩
  · have h := if_f (mt (i2_eq (x := r11) (y := 0) hr12 (by decide)).mpr c13) h
    refine lv_iconst (v := 0) hx hb eX12_isDrawn_81.2.2.2.2.2.2.2 (by decide) ?_
    refine lv_goto (tgt := 76) hx hb eX12_qKind_12.1 (by decide) ?_
    exact J76 (0, s10) _ _ _ ⟨hP, hS, lv_sub hl [0] rfl, h⟩
set_option maxHeartbeats 4000000 in
set_option maxRecDepth 100000 in
theorem k_x12_qTakes (l : Launch) (D : va_G) (a : Nat → Nat) (p0 : Int) (p1 : Int) (p2 : Int) (sz : Nat) (s : MS) (o : MS) (h : m_x12_qTakes p0 p1 p2 s = some o) : yWv l yX12_qTakes cX12_qTakes 6 none { frames := 0, cells := 0, slots := 0, locals := 0 } D sz [.ref (a 200), .int (i2 p0), .long (i8 p1), .int (i2 p2)] (RW D a s) (RW D a o) := by
  refine Met.ofW (cc := cX12_qTakes) (maxL := 6) (ret := none) (by decide) rfl ?_
  intro p e s₀ m args below meth c s₁ B hml hv
  obtain ⟨rfl, ⟨hsz, hP, hK, hD0⟩, hN⟩ := hv
  have hx := B.exec
  have hb := B.bytes
  have hr := B.returns
  have hts := atoms_spec (ws := wz yX12_qTakes cX12_qTakes 6 none) B.pre
  have ht : ∀ w ∈ lw_gd, w.before _ s₀ = true := fun w h => hts w (List.mem_cons_of_mem _ h)
  have hown : s₀.vm.findClass RX12 = some m.cls := findClass_of_methodNamed B.named
  have hlocks := B.notSynchronized
  subst hsz
  have hD := hD0.self (sz := s₀.heap.size)
  generalize hAe : va_A (RW D a s) s₀.heap.size = A at hD ⊢
  have hA : ∀ q : Nat, s₀.heap.size ≤ q → A q := fun q h => by rw [← hAe]; exact Or.inr h
  have hS : va_S A s₀.heap s₀.heap [] := va_S.rf
  have hDD : ∀ t : MS, va_D A (RW D a t) := fun t => RW_D t hD
  have hl := lv_entry ([.ref (a 200), .int (i2 p0), .long (i8 p1), .int (i2 p2)]) (n := 6) (Nat.le_of_ble_eq_true rfl)
  rw [lg_entry_eq]
  generalize (lg_sl ([.ref (a 200), .int (i2 p0), .long (i8 p1), .int (i2 p2)]) ++ List.replicate (6 - (lg_sl ([.ref (a 200), .int (i2 p0), .long (i8 p1), .int (i2 p2)])).length) Slot.unset).toArray = ls at hl ⊢
  have hl : lv_has ls 6 [(0, .ref (a 200)), (1, .int (i2 p0)), (2, .long (i8 p1)), (4, .int (i2 p2))] := hl
  unfold m_x12_qTakes at h
  refine y_head (pcJ := 133) (σ := MS) (fun u H locs ls => va_P D vwCl (RW D a u) H ∧ va_S A s₀.heap H locs ∧ lv_has ls 6 [(0, .ref (a 200))] ∧ m_x12_qTakes_J133 u = some o) (fun u => []) (fun u H locs ls hI => ?_) (fun J133 => ?_)
  · obtain ⟨hP, hS, hl, h⟩ := hI
    obtain ⟨s1, rfl⟩ : ∃ z, z = u := ⟨u, rfl⟩
    have hP : va_P D vwCl (RW D a s1) H := hP
    have hl : lv_has ls 6 [(0, .ref (a 200))] := hl
    have h : m_x12_qTakes_J133 s1 = some o := h
    unfold m_x12_qTakes_J133 at h
    refine lv_aload_n hx hb eX12_qTakes_133.1 rfl (lv_at hl 0 rfl) ?_
    refine lv_iconst (v := 0) hx hb eX12_qTakes_133.2.1 (by decide) ?_
    refine ya_put (D := D) (ci := 12) (v := .int 0) (ty := .boolean) (C := RX12) (T := TX12) (N := 116) hx hb ht inX12 tyX12 tyX12_ok nmX12 hown hK hP (hDD _) hS 0 RW_0 rfl 110 (by decide) (ht (.fieldLink RX12 768 "CloneVolumesModel" "qIsNew" "Z") fl_X12_768) (fun _ h9 => h9) rfl (by decide +kernel) (by decide) (by decide) (by rw [mF_len]; decide) eX12_qTakes_133.2.2.1 (RW_f110 0) (fun H locs hP hS => ?_)
    obtain ⟨s2, hs2, h⟩ := st_e h
    rw [hs2] at hP
    obtain rfl := Option.some.inj h
    exact W.vret hx hb hr (fun t ht hW => ⟨⟨(), rfl, trivial, by rw [ht]; exact hP, va_K.moved hW.alike hK, hDD _⟩, hS.F ht⟩) hS.2.2 eX12_qTakes_133.2.2.2.1
  refine y_head (pcJ := 128) (σ := Int × MS) (fun u H locs ls => va_P D vwCl (RW D a u.2) H ∧ va_S A s₀.heap H locs ∧ lv_has ls 6 [(0, .ref (a 200)), (2, .long (i8 u.1))] ∧ m_x12_qTakes_J128 u.1 u.2 = some o) (fun u => []) (fun u H locs ls hI => ?_) (fun J128 => ?_)
  · obtain ⟨hP, hS, hl, h⟩ := hI
    obtain ⟨z3, s4⟩ := u
    have hP : va_P D vwCl (RW D a s4) H := hP
    have hl : lv_has ls 6 [(0, .ref (a 200)), (2, .long (i8 z3))] := hl
    have h : m_x12_qTakes_J128 z3 s4 = some o := h
    unfold m_x12_qTakes_J128 at h
    refine lv_aload_n hx hb eX12_qTakes_119.2.2.2.2.2.1 rfl (lv_at hl 0 rfl) ?_
    refine lv_lload_n hx hb eX12_qTakes_119.2.2.2.2.2.2.1 rfl (lv_at hl 1 rfl) ?_
    refine ya_put (D := D) (ci := 12) (v := .long (i8 z3)) (ty := .long) (C := RX12) (T := TX12) (N := 116) hx hb ht inX12 tyX12 tyX12_ok nmX12 hown hK hP (hDD _) hS 0 RW_0 rfl 109 (by decide) (ht (.fieldLink RX12 763 "CloneVolumesModel" "qAnswer" "J") fl_X12_763) (fun _ h9 => h9) rfl (by decide +kernel) rfl rfl (by rw [mF_len]; decide) eX12_qTakes_119.2.2.2.2.2.2.2 (RW_f109 z3) (fun H locs hP hS => ?_)
    obtain ⟨s5, hs5, h⟩ := st_e h
    rw [hs5] at hP
    exact J133 s5 _ _ _ ⟨hP, hS, lv_sub hl [0] rfl, h⟩
  refine y_head (pcJ := 90) (σ := Int × Int × MS) (fun u H locs ls => va_P D vwCl (RW D a u.2.2) H ∧ va_S A s₀.heap H locs ∧ lv_has ls 6 [(0, .ref (a 200)), (1, .int (i2 u.1)), (2, .long (i8 u.2.1))] ∧ m_x12_qTakes_J90 u.1 u.2.1 u.2.2 = some o) (fun u => []) (fun u H locs ls hI => ?_) (fun J90 => ?_)
  · obtain ⟨hP, hS, hl, h⟩ := hI
    obtain ⟨x6, z7, s8⟩ := u
    have hP : va_P D vwCl (RW D a s8) H := hP
    have hl : lv_has ls 6 [(0, .ref (a 200)), (1, .int (i2 x6)), (2, .long (i8 z7))] := hl
    have h : m_x12_qTakes_J90 x6 z7 s8 = some o := h
    unfold m_x12_qTakes_J90 at h
    refine lv_iload_n hx hb eX12_qTakes_87.2.1 rfl (lv_at hl 1 rfl) ?_
    refine lv_iconst (v := 3) hx hb eX12_qTakes_87.2.2.1 (by decide) ?_
    obtain ⟨hr9, h⟩ := rg_e h
    refine lv_icmp_le (tgt := 133) hx hb eX12_qTakes_87.2.2.2.1 (by decide) (fun c10 => ?_) (fun c10 => ?_)
    · have h := if_t ((i2_le (x := x6) (y := 3) hr9 (by decide)).mp c10) h
      exact J133 s8 _ _ _ ⟨hP, hS, lv_sub hl [0] rfl, h⟩
    · have h := if_f (mt (i2_le (x := x6) (y := 3) hr9 (by decide)).mpr c10) h
      refine lv_aload_n hx hb eX12_qTakes_87.2.2.2.2.1 rfl (lv_at hl 0 rfl) ?_
      refine va_get (D := D) (ci := 12) (v := .int (i2 (gI s8 110))) (C := RX12) (T := TX12) (N := 116) hx hb ht inX12 hown hK hP 0 RW_0 rfl 110 (by decide) (ht (.fieldLink RX12 768 "CloneVolumesModel" "qIsNew" "Z") fl_X12_768) (fun _ h9 => h9) mF_110 eX12_qTakes_87.2.2.2.2.2.1 ?_
      obtain ⟨hr11, h⟩ := rg_e h
      refine lv_if_ne (tgt := 128) hx hb eX12_qTakes_87.2.2.2.2.2.2.1 (by decide) (fun c12 => ?_) (fun c12 => ?_)
      · have h := if_f (mt (i2_eq (x := (gI s8 110)) (y := 0) hr11 (by decide)).mpr c12) h
        exact J128 (z7, s8) _ _ _ ⟨hP, hS, lv_sub hl [0, 2] rfl, h⟩
      · have h := if_t ((i2_eq (x := (gI s8 110)) (y := 0) hr11 (by decide)).mp c12) h
        refine lv_iload_n hx hb eX12_qTakes_87.2.2.2.2.2.2.2 rfl (lv_at hl 1 rfl) ?_
        refine lv_iconst (v := 4) hx hb eX12_qTakes_103.1 (by decide) ?_
        obtain ⟨hr13, h⟩ := rg_e h
        refine lv_icmp_ne (tgt := 119) hx hb eX12_qTakes_103.2.1 (by decide) (fun c14 => ?_) (fun c14 => ?_)
        · have h := if_f (mt (i2_eq (x := x6) (y := 4) hr13 (by decide)).mpr c14) h
          refine lv_lload_n hx hb eX12_qTakes_119.1 rfl (lv_at hl 2 rfl) ?_
          refine lv_aload_n hx hb eX12_qTakes_119.2.1 rfl (lv_at hl 0 rfl) ?_
          refine va_get (D := D) (ci := 12) (v := .long (i8 (gL s8 109))) (C := RX12) (T := TX12) (N := 116) hx hb ht inX12 hown hK hP 0 RW_0 rfl 109 (by decide) (ht (.fieldLink RX12 763 "CloneVolumesModel" "qAnswer" "J") fl_X12_763) (fun _ h9 => h9) mF_109 eX12_qTakes_119.2.2.1 ?_
          refine W.lcmp hx hb eX12_qTakes_119.2.2.2.1 ?_
          obtain ⟨hr15, h⟩ := rgL_e h
          obtain ⟨hr16, h⟩ := rgL_e h
          refine lv_if_ge (tgt := 133) hx hb eX12_qTakes_119.2.2.2.2.1 (by decide) (fun c17 => ?_) (fun c17 => ?_)
          · have h := if_t ((l_ge (x := z7) (y := (gL s8 109)) hr15 hr16).mp c17) h
            exact J133 s8 _ _ _ ⟨hP, hS, lv_sub hl [0] rfl, h⟩
          · have h := if_f (mt (l_ge (x := z7) (y := (gL s8 109)) hr15 hr16).mpr c17) h
            exact J128 (z7, s8) _ _ _ ⟨hP, hS, lv_sub hl [0, 2] rfl, h⟩
        · have h := if_t ((i2_eq (x := x6) (y := 4) hr13 (by decide)).mp c14) h
          refine lv_lload_n hx hb eX12_qTakes_103.2.2.1 rfl (lv_at hl 2 rfl) ?_
          refine lv_aload_n hx hb eX12_qTakes_103.2.2.2.1 rfl (lv_at hl 0 rfl) ?_
          refine va_get (D := D) (ci := 12) (v := .long (i8 (gL s8 109))) (C := RX12) (T := TX12) (N := 116) hx hb ht inX12 hown hK hP 0 RW_0 rfl 109 (by decide) (ht (.fieldLink RX12 763 "CloneVolumesModel" "qAnswer" "J") fl_X12_763) (fun _ h9 => h9) mF_109 eX12_qTakes_103.2.2.2.2.1 ?_
          refine W.lcmp hx hb eX12_qTakes_103.2.2.2.2.2.1 ?_
          obtain ⟨hr18, h⟩ := rgL_e h
          obtain ⟨hr19, h⟩ := rgL_e h
          refine lv_if_le (tgt := 133) hx hb eX12_qTakes_103.2.2.2.2.2.2.1 (by decide) (fun c20 => ?_) (fun c20 => ?_)
          · have h := if_t ((l_le (x := z7) (y := (gL s8 109)) hr18 hr19).mp c20) h
            exact J133 s8 _ _ _ ⟨hP, hS, lv_sub hl [0] rfl, h⟩
          · have h := if_f (mt (l_le (x := z7) (y := (gL s8 109)) hr18 hr19).mpr c20) h
            refine lv_goto (tgt := 128) hx hb eX12_qTakes_103.2.2.2.2.2.2.2 (by decide) ?_
            exact J128 (z7, s8) _ _ _ ⟨hP, hS, lv_sub hl [0, 2] rfl, h⟩
  refine y_head (pcJ := 75) (σ := Int × Int × MS) (fun u H locs ls => va_P D vwCl (RW D a u.2.2) H ∧ va_S A s₀.heap H locs ∧ lv_has ls 6 [(0, .ref (a 200)), (1, .int (i2 u.1)), (2, .long (i8 u.2.1))] ∧ m_x12_qTakes_J75 u.1 u.2.1 u.2.2 = some o) (fun u => []) (fun u H locs ls hI => ?_) (fun J75 => ?_)
  · obtain ⟨hP, hS, hl, h⟩ := hI
    obtain ⟨x21, z22, s23⟩ := u
    have hP : va_P D vwCl (RW D a s23) H := hP
    have hl : lv_has ls 6 [(0, .ref (a 200)), (1, .int (i2 x21)), (2, .long (i8 z22))] := hl
    have h : m_x12_qTakes_J75 x21 z22 s23 = some o := h
    unfold m_x12_qTakes_J75 at h
    refine lv_iload_n hx hb eX12_qTakes_75.1 rfl (lv_at hl 1 rfl) ?_
    refine lv_iconst (v := 3) hx hb eX12_qTakes_75.2.1 (by decide) ?_
    obtain ⟨hr24, h⟩ := rg_e h
    refine lv_icmp_ne (tgt := 90) hx hb eX12_qTakes_75.2.2.1 (by decide) (fun c25 => ?_) (fun c25 => ?_)
    · have h := if_f (mt (i2_eq (x := x21) (y := 3) hr24 (by decide)).mpr c25) h
      exact J90 (x21, z22, s23) _ _ _ ⟨hP, hS, lv_sub hl [0, 1, 2] rfl, h⟩
    · have h := if_t ((i2_eq (x := x21) (y := 3) hr24 (by decide)).mp c25) h
      refine lv_aload_n hx hb eX12_qTakes_75.2.2.2.1 rfl (lv_at hl 0 rfl) ?_
      refine lv_dup hx hb eX12_qTakes_75.2.2.2.2.1 rfl ?_
      refine va_get (D := D) (ci := 12) (v := .long (i8 (gL s23 109))) (C := RX12) (T := TX12) (N := 116) hx hb ht inX12 hown hK hP 0 RW_0 rfl 109 (by decide) (ht (.fieldLink RX12 763 "CloneVolumesModel" "qAnswer" "J") fl_X12_763) (fun _ h9 => h9) mF_109 eX12_qTakes_75.2.2.2.2.2.1 ?_
      refine lv_lload_n hx hb eX12_qTakes_75.2.2.2.2.2.2.1 rfl (lv_at hl 2 rfl) ?_
      refine lv_ladd hx hb eX12_qTakes_75.2.2.2.2.2.2.2 ?_
      refine z_topl (y := i8 ((gL s23 109) + z22)) (i8_add (gL s23 109) z22) ?_
      refine ya_put (D := D) (ci := 12) (v := .long (i8 ((gL s23 109) + z22))) (ty := .long) (C := RX12) (T := TX12) (N := 116) hx hb ht inX12 tyX12 tyX12_ok nmX12 hown hK hP (hDD _) hS 0 RW_0 rfl 109 (by decide) (ht (.fieldLink RX12 763 "CloneVolumesModel" "qAnswer" "J") fl_X12_763) (fun _ h9 => h9) rfl (by decide +kernel) rfl rfl (by rw [mF_len]; decide) eX12_qTakes_87.1 (RW_f109 ((gL s23 109) + z22)) (fun H locs hP hS => ?_)
      obtain ⟨s26, hs26, h⟩ := st_e h
      rw [hs26] at hP
      exact J90 (x21, z22, s26) _ _ _ ⟨hP, hS, lv_sub hl [0, 1, 2] rfl, h⟩
  refine y_head (pcJ := 55) (σ := Int × Int × Int × MS) (fun u H locs ls => va_P D vwCl (RW D a u.2.2.2) H ∧ va_S A s₀.heap H locs ∧ lv_has ls 6 [(0, .ref (a 200)), (1, .int (i2 u.1)), (2, .long (i8 u.2.1)), (5, .int (i2 u.2.2.1))] ∧ m_x12_qTakes_J55 u.1 u.2.1 u.2.2.1 u.2.2.2 = some o) (fun u => []) (fun u H locs ls hI => ?_) (fun J55 => ?_)
  · obtain ⟨hP, hS, hl, h⟩ := hI
    obtain ⟨x27, z28, x29, s30⟩ := u
    have hP : va_P D vwCl (RW D a s30) H := hP
    have hl : lv_has ls 6 [(0, .ref (a 200)), (1, .int (i2 x27)), (2, .long (i8 z28)), (5, .int (i2 x29))] := hl
    have h : m_x12_qTakes_J55 x27 z28 x29 s30 = some o := h
    unfold m_x12_qTakes_J55 at h
    refine lv_iload_n hx hb eX12_qTakes_45.2.2.2.2.2.1 rfl (lv_at hl 1 rfl) ?_
    refine lv_iconst (v := 2) hx hb eX12_qTakes_45.2.2.2.2.2.2.1 (by decide) ?_
    obtain ⟨hr31, h⟩ := rg_e h
    refine lv_icmp_ne (tgt := 75) hx hb eX12_qTakes_45.2.2.2.2.2.2.2 (by decide) (fun c32 => ?_) (fun c32 => ?_)
    · have h := if_f (mt (i2_eq (x := x27) (y := 2) hr31 (by decide)).mpr c32) h
      exact J75 (x27, z28, s30) _ _ _ ⟨hP, hS, lv_sub hl [0, 1, 2] rfl, h⟩
    · have h := if_t ((i2_eq (x := x27) (y := 2) hr31 (by decide)).mp c32) h
      refine lv_iload hx hb eX12_qTakes_60.1 (lv_at hl 3 rfl) ?_
      obtain ⟨hr33, h⟩ := rg_e h
      refine lv_if_eq (tgt := 75) hx hb eX12_qTakes_60.2.1 (by decide) (fun c34 => ?_) (fun c34 => ?_)
      · have h := if_t ((i2_eq (x := x29) (y := 0) hr33 (by decide)).mp c34) h
        exact J75 (x27, z28, s30) _ _ _ ⟨hP, hS, lv_sub hl [0, 1, 2] rfl, h⟩
      · have h := if_f (mt (i2_eq (x := x29) (y := 0) hr33 (by decide)).mpr c34) h
        refine lv_aload_n hx hb eX12_qTakes_60.2.2.1 rfl (lv_at hl 0 rfl) ?_
        refine lv_dup hx hb eX12_qTakes_60.2.2.2.1 rfl ?_
        refine va_get (D := D) (ci := 12) (v := .long (i8 (gL s30 109))) (C := RX12) (T := TX12) (N := 116) hx hb ht inX12 hown hK hP 0 RW_0 rfl 109 (by decide) (ht (.fieldLink RX12 763 "CloneVolumesModel" "qAnswer" "J") fl_X12_763) (fun _ h9 => h9) mF_109 eX12_qTakes_60.2.2.2.2.1 ?_
        refine lv_lconst (v := 1) hx hb eX12_qTakes_60.2.2.2.2.2.1 (by decide) ?_
        refine lv_ladd hx hb eX12_qTakes_60.2.2.2.2.2.2.1 ?_
        refine z_topl (y := i8 ((gL s30 109) + 1)) (i8_add (gL s30 109) 1) ?_
        refine ya_put (D := D) (ci := 12) (v := .long (i8 ((gL s30 109) + 1))) (ty := .long) (C := RX12) (T := TX12) (N := 116) hx hb ht inX12 tyX12 tyX12_ok nmX12 hown hK hP (hDD _) hS 0 RW_0 rfl 109 (by decide) (ht (.fieldLink RX12 763 "CloneVolumesModel" "qAnswer" "J") fl_X12_763) (fun _ h9 => h9) rfl (by decide +kernel) rfl rfl (by rw [mF_len]; decide) eX12_qTakes_60.2.2.2.2.2.2.2 (RW_f109 ((gL s30 109) + 1)) (fun H locs hP hS => ?_)
        obtain ⟨s35, hs35, h⟩ := st_e h
        rw [hs35] at hP
        exact J75 (x27, z28, s35) _ _ _ ⟨hP, hS, lv_sub hl [0, 1, 2] rfl, h⟩
  refine y_head (pcJ := 48) (σ := Int × Int × Int × Int × MS) (fun u H locs ls => va_P D vwCl (RW D a u.2.2.2.2) H ∧ va_S A s₀.heap H locs ∧ lv_has ls 6 [(0, .ref (a 200)), (1, .int (i2 u.1)), (2, .long (i8 u.2.1)), (4, .int (i2 u.2.2.1)), (5, .int (i2 u.2.2.2.1))] ∧ m_x12_qTakes_J48 u.1 u.2.1 u.2.2.1 u.2.2.2.1 u.2.2.2.2 = some o) (fun u => []) (fun u H locs ls hI => ?_) (fun J48 => ?_)
  · obtain ⟨hP, hS, hl, h⟩ := hI
    obtain ⟨x36, z37, x38, x39, s40⟩ := u
    have hP : va_P D vwCl (RW D a s40) H := hP
    have hl : lv_has ls 6 [(0, .ref (a 200)), (1, .int (i2 x36)), (2, .long (i8 z37)), (4, .int (i2 x38)), (5, .int (i2 x39))] := hl
    have h : m_x12_qTakes_J48 x36 z37 x38 x39 s40 = some o := h
    unfold m_x12_qTakes_J48 at h
    refine lv_aload_n hx hb eX12_qTakes_45.2.1 rfl (lv_at hl 0 rfl) ?_
    refine lv_iload hx hb eX12_qTakes_45.2.2.1 (lv_at hl 3 rfl) ?_
    obtain ⟨hr41, h⟩ := rg_e h
    refine lv_i2l (v := i8 x38) hx hb eX12_qTakes_45.2.2.2.1 (i2_l hr41) ?_
    refine ya_put (D := D) (ci := 12) (v := .long (i8 x38)) (ty := .long) (C := RX12) (T := TX12) (N := 116) hx hb ht inX12 tyX12 tyX12_ok nmX12 hown hK hP (hDD _) hS 0 RW_0 rfl 109 (by decide) (ht (.fieldLink RX12 763 "CloneVolumesModel" "qAnswer" "J") fl_X12_763) (fun _ h9 => h9) rfl (by decide +kernel) rfl rfl (by rw [mF_len]; decide) eX12_qTakes_45.2.2.2.2.1 (RW_f109 x38) (fun H locs hP hS => ?_)
    obtain ⟨s42, hs42, h⟩ := st_e h
    rw [hs42] at hP
    exact J55 (x36, z37, x39, s42) _ _ _ ⟨hP, hS, lv_sub hl [0, 1, 2, 4] rfl, h⟩
  refine y_head (pcJ := 38) (σ := Int × Int × Int × Int × MS) (fun u H locs ls => va_P D vwCl (RW D a u.2.2.2.2) H ∧ va_S A s₀.heap H locs ∧ lv_has ls 6 [(0, .ref (a 200)), (1, .int (i2 u.1)), (2, .long (i8 u.2.1)), (4, .int (i2 u.2.2.1)), (5, .int (i2 u.2.2.2.1))] ∧ m_x12_qTakes_J38 u.1 u.2.1 u.2.2.1 u.2.2.2.1 u.2.2.2.2 = some o) (fun u => []) (fun u H locs ls hI => ?_) (fun J38 => ?_)
  · obtain ⟨hP, hS, hl, h⟩ := hI
    obtain ⟨x43, z44, x45, x46, s47⟩ := u
    have hP : va_P D vwCl (RW D a s47) H := hP
    have hl : lv_has ls 6 [(0, .ref (a 200)), (1, .int (i2 x43)), (2, .long (i8 z44)), (4, .int (i2 x45)), (5, .int (i2 x46))] := hl
    have h : m_x12_qTakes_J38 x43 z44 x45 x46 s47 = some o := h
    unfold m_x12_qTakes_J38 at h
    refine lv_iload_n hx hb eX12_qTakes_28.2.2.2.2.1 rfl (lv_at hl 1 rfl) ?_
    refine lv_iconst (v := 1) hx hb eX12_qTakes_28.2.2.2.2.2.1 (by decide) ?_
    obtain ⟨hr48, h⟩ := rg_e h
    refine lv_icmp_ne (tgt := 55) hx hb eX12_qTakes_28.2.2.2.2.2.2.1 (by decide) (fun c49 => ?_) (fun c49 => ?_)
    · have h := if_f (mt (i2_eq (x := x43) (y := 1) hr48 (by decide)).mpr c49) h
      exact J55 (x43, z44, x46, s47) _ _ _ ⟨hP, hS, lv_sub hl [0, 1, 2, 4] rfl, h⟩
    · have h := if_t ((i2_eq (x := x43) (y := 1) hr48 (by decide)).mp c49) h
      refine lv_iload hx hb eX12_qTakes_28.2.2.2.2.2.2.2 (lv_at hl 4 rfl) ?_
      obtain ⟨hr50, h⟩ := rg_e h
      refine lv_if_eq (tgt := 55) hx hb eX12_qTakes_45.1 (by decide) (fun c51 => ?_) (fun c51 => ?_)
      · have h := if_t ((i2_eq (x := x46) (y := 0) hr50 (by decide)).mp c51) h
        exact J55 (x43, z44, x46, s47) _ _ _ ⟨hP, hS, lv_sub hl [0, 1, 2, 4] rfl, h⟩
      · have h := if_f (mt (i2_eq (x := x46) (y := 0) hr50 (by decide)).mpr c51) h
        exact J48 (x43, z44, x45, x46, s47) _ _ _ ⟨hP, hS, lv_sub hl [0, 1, 2, 3, 4] rfl, h⟩
  refine y_head (pcJ := 16) (σ := Int × Int × Int × Int × MS) (fun u H locs ls => va_P D vwCl (RW D a u.2.2.2.2) H ∧ va_S A s₀.heap H locs ∧ lv_has ls 6 [(0, .ref (a 200)), (1, .int (i2 u.1)), (2, .long (i8 u.2.1)), (4, .int (i2 u.2.2.1))] ∧ m_x12_qTakes_J16 u.1 u.2.1 u.2.2.1 u.2.2.2.1 u.2.2.2.2 = some o) (fun u => [.int (i2 u.2.2.2.1)]) (fun u H locs ls hI => ?_) (fun J16 => ?_)
  · obtain ⟨hP, hS, hl, h⟩ := hI
    obtain ⟨x52, z53, x54, x55, s56⟩ := u
    have hP : va_P D vwCl (RW D a s56) H := hP
    have hl : lv_has ls 6 [(0, .ref (a 200)), (1, .int (i2 x52)), (2, .long (i8 z53)), (4, .int (i2 x54))] := hl
    have h : m_x12_qTakes_J16 x52 z53 x54 x55 s56 = some o := h
    unfold m_x12_qTakes_J16 at h
    refine lv_istore (lv' := [(5, .int (i2 x55)), (0, .ref (a 200)), (1, .int (i2 x52)), (2, .long (i8 z53)), (4, .int (i2 x54))]) hx hb eX12_qTakes_12.2.2.1 hl (by decide) rfl (fun ls hl => ?_)
    refine lv_iload_n hx hb eX12_qTakes_12.2.2.2.1 rfl (lv_at hl 2 rfl) ?_
    obtain ⟨hr57, h⟩ := rg_e h
    refine lv_if_ne (tgt := 38) hx hb eX12_qTakes_12.2.2.2.2.1 (by decide) (fun c58 => ?_) (fun c58 => ?_)
    · have h := if_f (mt (i2_eq (x := x52) (y := 0) hr57 (by decide)).mpr c58) h
      exact J38 (x52, z53, x54, x55, s56) _ _ _ ⟨hP, hS, lv_sub hl [1, 2, 3, 4, 0] rfl, h⟩
    · have h := if_t ((i2_eq (x := x52) (y := 0) hr57 (by decide)).mp c58) h
      refine lv_iload hx hb eX12_qTakes_12.2.2.2.2.2.1 (lv_at hl 0 rfl) ?_
      obtain ⟨hr59, h⟩ := rg_e h
      refine lv_if_eq (tgt := 38) hx hb eX12_qTakes_12.2.2.2.2.2.2.1 (by decide) (fun c60 => ?_) (fun c60 => ?_)
      · have h := if_t ((i2_eq (x := x55) (y := 0) hr59 (by decide)).mp c60) h
        exact J38 (x52, z53, x54, x55, s56) _ _ _ ⟨hP, hS, lv_sub hl [1, 2, 3, 4, 0] rfl, h⟩
      · have h := if_f (mt (i2_eq (x := x55) (y := 0) hr59 (by decide)).mpr c60) h
        refine lv_aload_n hx hb eX12_qTakes_12.2.2.2.2.2.2.2 rfl (lv_at hl 1 rfl) ?_
        refine va_get (D := D) (ci := 12) (v := .long (i8 (gL s56 109))) (C := RX12) (T := TX12) (N := 116) hx hb ht inX12 hown hK hP 0 RW_0 rfl 109 (by decide) (ht (.fieldLink RX12 763 "CloneVolumesModel" "qAnswer" "J") fl_X12_763) (fun _ h9 => h9) mF_109 eX12_qTakes_28.1 ?_
        refine lv_ldc2 (own := RX12) (v := (-1)) hx hb hown (ht _ cl_X12_766) eX12_qTakes_28.2.1 ?_
        refine W.lcmp hx hb eX12_qTakes_28.2.2.1 ?_
        obtain ⟨hr61, h⟩ := rgL_e h
        refine lv_if_eq (tgt := 48) hx hb eX12_qTakes_28.2.2.2.1 (by decide) (fun c62 => ?_) (fun c62 => ?_)
        · rw [show ((-1) : Int64) = i8 (-1) from by decide +kernel] at c62
          have h := if_t ((l_eq (x := (gL s56 109)) (y := (-1)) hr61 (by decide)).mp c62) h
          exact J48 (x52, z53, x54, x55, s56) _ _ _ ⟨hP, hS, lv_sub hl [1, 2, 3, 4, 0] rfl, h⟩
        · rw [show ((-1) : Int64) = i8 (-1) from by decide +kernel] at c62
          have h := if_f (mt (l_eq (x := (gL s56 109)) (y := (-1)) hr61 (by decide)).mpr c62) h
          exact J38 (x52, z53, x54, x55, s56) _ _ _ ⟨hP, hS, lv_sub hl [1, 2, 3, 4, 0] rfl, h⟩
  refine y_head (pcJ := 15) (σ := Int × Int × Int × MS) (fun u H locs ls => va_P D vwCl (RW D a u.2.2.2) H ∧ va_S A s₀.heap H locs ∧ lv_has ls 6 [(0, .ref (a 200)), (1, .int (i2 u.1)), (2, .long (i8 u.2.1)), (4, .int (i2 u.2.2.1))] ∧ m_x12_qTakes_J15 u.1 u.2.1 u.2.2.1 u.2.2.2 = some o) (fun u => []) (fun u H locs ls hI => ?_) (fun J15 => ?_)
  · obtain ⟨hP, hS, hl, h⟩ := hI
    obtain ⟨x63, z64, x65, s66⟩ := u
    have hP : va_P D vwCl (RW D a s66) H := hP
    have hl : lv_has ls 6 [(0, .ref (a 200)), (1, .int (i2 x63)), (2, .long (i8 z64)), (4, .int (i2 x65))] := hl
    have h : m_x12_qTakes_J15 x63 z64 x65 s66 = some o := h
    unfold m_x12_qTakes_J15 at h
    refine lv_iconst (v := 0) hx hb eX12_qTakes_12.2.1 (by decide) ?_
    exact J16 (x63, z64, x65, 0, s66) _ _ _ ⟨hP, hS, lv_sub hl [0, 1, 2, 3] rfl, h⟩
  refine lv_iload_n hx hb eX12_qTakes_0.1 rfl (lv_at hl 1 rfl) ?_
  refine lv_iconst (v := 3) hx hb eX12_qTakes_0.2.1 (by decide) ?_
  obtain ⟨hr67, h⟩ := rg_e h
  refine lv_icmp_ge (tgt := 15) hx hb eX12_qTakes_0.2.2.1 (by decide) (fun c68 => ?_) (fun c68 => ?_)
  · have h := if_t ((i2_le (x := 3) (y := p0) (by decide) hr67).mp c68) h
    exact J15 (p0, p1, p2, s) _ _ _ ⟨hP, hS, lv_sub hl [0, 1, 2, 3] rfl, h⟩
  · have h := if_f (mt (i2_le (x := 3) (y := p0) (by decide) hr67).mpr c68) h
    refine lv_lload_n hx hb eX12_qTakes_0.2.2.2.1 rfl (lv_at hl 2 rfl) ?_
    refine lv_lconst (v := 1) hx hb eX12_qTakes_0.2.2.2.2.1 (by decide) ?_
    refine W.lcmp hx hb eX12_qTakes_0.2.2.2.2.2.1 ?_
    obtain ⟨hr69, h⟩ := rgL_e h
    refine lv_if_ne (tgt := 15) hx hb eX12_qTakes_0.2.2.2.2.2.2.1 (by decide) (fun c70 => ?_) (fun c70 => ?_)
    · have h := if_f (mt (l_eq (x := p1) (y := 1) hr69 (by decide)).mpr c70) h
      exact J15 (p0, p1, p2, s) _ _ _ ⟨hP, hS, lv_sub hl [0, 1, 2, 3] rfl, h⟩
    · have h := if_t ((l_eq (x := p1) (y := 1) hr69 (by decide)).mp c70) h
      refine lv_iconst (v := 1) hx hb eX12_qTakes_0.2.2.2.2.2.2.2 (by decide) ?_
      refine lv_goto (tgt := 16) hx hb eX12_qTakes_12.1 (by decide) ?_
      exact J16 (p0, p1, p2, 1, s) _ _ _ ⟨hP, hS, lv_sub hl [0, 1, 2, 3] rfl, h⟩
set_option maxHeartbeats 4000000 in
set_option maxRecDepth 100000 in
theorem k_x12_ask (l : Launch) (D : va_G) (a : Nat → Nat) (sz : Nat) (s : MS) (o : (Int × MS)) (h : m_x12_ask s = some o) : yWl l yX12_ask cX12_ask 3 (some .long) { frames := 9, cells := 0, slots := 0, locals := 540 } D sz [.ref (a 200)] (RW D a s) (RW D a o.2) (i8 o.1) := by
  refine Met.ofW (cc := cX12_ask) (maxL := 3) (ret := (some .long)) (by decide) rfl ?_
  intro p e s₀ m args below meth c s₁ B hml hv
  obtain ⟨rfl, ⟨hsz, hP, hK, hD0⟩, hN⟩ := hv
  have hx := B.exec
  have hb := B.bytes
  have hr := B.returns
  have hts := atoms_spec (ws := wz yX12_ask cX12_ask 3 (some .long)) B.pre
  have ht : ∀ w ∈ lw_gd, w.before _ s₀ = true := fun w h => hts w (List.mem_cons_of_mem _ h)
  have hown : s₀.vm.findClass RX12 = some m.cls := findClass_of_methodNamed B.named
  have hlocks := B.notSynchronized
  subst hsz
  have hD := hD0.self (sz := s₀.heap.size)
  generalize hAe : va_A (RW D a s) s₀.heap.size = A at hD ⊢
  have hA : ∀ q : Nat, s₀.heap.size ≤ q → A q := fun q h => by rw [← hAe]; exact Or.inr h
  have hS : va_S A s₀.heap s₀.heap [] := va_S.rf
  have hDD : ∀ t : MS, va_D A (RW D a t) := fun t => RW_D t hD
  have hl := lv_entry ([.ref (a 200)]) (n := 3) (Nat.le_of_ble_eq_true rfl)
  rw [lg_entry_eq]
  generalize (lg_sl ([.ref (a 200)]) ++ List.replicate (3 - (lg_sl ([.ref (a 200)])).length) Slot.unset).toArray = ls at hl ⊢
  have hl : lv_has ls 3 [(0, .ref (a 200))] := hl
  unfold m_x12_ask at h
  refine y_loop (pcJ := 183) (σ := Int × Int × MS) (fun n u H locs ls => va_P D vwCl (RW D a u.2.2) H ∧ va_S A s₀.heap H locs ∧ lv_has ls 3 [(0, .ref (a 200)), (1, .int (i2 u.1)), (2, .int (i2 u.2.1))] ∧ m_x12_ask_L183 n u.1 u.2.1 u.2.2 = some o) (fun u => []) (fun u H locs ls hI => by obtain ⟨_, _, _, h⟩ := hI; cases h) (fun n183 ih183 u H locs ls hI => ?_) (fun J183 => ?_)
  · obtain ⟨hP, hS, hl, h⟩ := hI
    obtain ⟨x1, x2, s3⟩ := u
    have hP : va_P D vwCl (RW D a s3) H := hP
    have hl : lv_has ls 3 [(0, .ref (a 200)), (1, .int (i2 x1)), (2, .int (i2 x2))] := hl
    have h : m_x12_ask_b183 (m_x12_ask_L183 n183) x1 x2 s3 = some o := h
    unfold m_x12_ask_b183 at h
    refine y_head (pcJ := 235) (σ := Int × Int × Int × MS) (fun u H locs ls => va_P D vwCl (RW D a u.2.2.2) H ∧ va_S A s₀.heap H locs ∧ lv_has ls 3 [(0, .ref (a 200)), (1, .int (i2 u.1)), (2, .int (i2 u.2.1))] ∧ m_x12_ask_J235 (m_x12_ask_L183 n183) u.1 u.2.1 u.2.2.1 u.2.2.2 = some o) (fun u => [.int (i2 u.2.2.1), .ref (a 200)]) (fun u H locs ls hI => ?_) (fun J235 => ?_)
    · obtain ⟨hP, hS, hl, h⟩ := hI
      obtain ⟨x4, x5, x6, s7⟩ := u
      have hP : va_P D vwCl (RW D a s7) H := hP
      have hl : lv_has ls 3 [(0, .ref (a 200)), (1, .int (i2 x4)), (2, .int (i2 x5))] := hl
      have h : m_x12_ask_J235 (m_x12_ask_L183 n183) x4 x5 x6 s7 = some o := h
      unfold m_x12_ask_J235 at h
      refine ya_put (D := D) (ci := 12) (v := .int (i2 x6)) (ty := .int) (C := RX12) (T := TX12) (N := 116) hx hb ht inX12 tyX12 tyX12_ok nmX12 hown hK hP (hDD _) hS 0 RW_0 rfl 53 (by decide) (ht (.fieldLink RX12 469 "CloneVolumesModel" "askEntries" "I") fl_X12_469) (fun _ h9 => h9) rfl (by decide +kernel) rfl rfl (by rw [mF_len]; decide) eX12_ask_226.2.2.2.2.2.1 (RW_f53 x6) (fun H locs hP hS => ?_)
      obtain ⟨s8, hs8, h⟩ := st_e h
      rw [hs8] at hP
      refine lv_aload_n hx hb eX12_ask_226.2.2.2.2.2.2.1 rfl (lv_at hl 0 rfl) ?_
      refine lv_iload_n hx hb eX12_ask_226.2.2.2.2.2.2.2 rfl (lv_at hl 1 rfl) ?_
      refine lv_aload_n hx hb eX12_ask_240.1 rfl (lv_at hl 0 rfl) ?_
      refine lv_iload_n hx hb eX12_ask_240.2.1 rfl (lv_at hl 2 rfl) ?_
      obtain ⟨⟨rl11, s10⟩, hc9, h⟩ := bn_e h
      refine ywVl (r0 := i8 rl11) (As := [.int (i2 x5)]) (rest := [.int (i2 x4), .ref (a 200)]) (C := RX12) (n := 1) (ws' := RW D a s10) ⟨hx, hb, hml, hown, ht⟩ (k_x12_qTold l D a x5 _ _ _ hc9) (zgV ml_X12_776 im_X12_qTold se_X12_qTold in_X12 co_X12_qTold) rfl rfl (by decide +kernel) ⟨Nat.le_of_ble_eq_true rfl, Nat.le_of_ble_eq_true rfl⟩ hN hK hP (hDD _) hS hA 0 RW_0 rfl rfl rfl hl.1 rfl (Nat.le_of_ble_eq_true rfl) eX12_ask_240.2.2.1 ⟨Nat.le_of_ble_eq_true rfl, Nat.le_of_ble_eq_true rfl⟩ (fun H locs hP hS => ?_)
      refine lv_iload_n hx hb eX12_ask_240.2.2.2.1 rfl (lv_at hl 2 rfl) ?_
      obtain ⟨s13, hc12, h⟩ := bn_e h
      refine ywVv (As := [.int (i2 x4), .long (i8 rl11), .int (i2 x5)]) (rest := []) (C := RX12) (n := 3) (ws' := RW D a s13) ⟨hx, hb, hml, hown, ht⟩ (k_x12_qTakes l D a x4 rl11 x5 _ _ _ hc12) (zgV ml_X12_779 im_X12_qTakes se_X12_qTakes in_X12 co_X12_qTakes) rfl rfl (by decide +kernel) ⟨Nat.le_of_ble_eq_true rfl, Nat.le_of_ble_eq_true rfl⟩ hN hK hP (hDD _) hS hA 0 RW_0 rfl rfl rfl hl.1 rfl (Nat.le_of_ble_eq_true rfl) eX12_ask_240.2.2.2.2.1 ⟨Nat.le_of_ble_eq_true rfl, Nat.le_of_ble_eq_true rfl⟩ (fun H locs hP hS => ?_)
      refine lv_iinc (v := i2 (x5 + 1)) (lv' := [(2, .int (i2 (x5 + 1))), (0, .ref (a 200)), (1, .int (i2 x4))]) hx hb eX12_ask_240.2.2.2.2.2.1 hl (k := 2) rfl (i2_add x5 1) (by decide) rfl (fun ls hl => ?_)
      refine lv_goto (tgt := 183) hx hb eX12_ask_240.2.2.2.2.2.2.1 (by decide) ?_
      exact ih183 (x4, x5 + 1, s13) _ _ _ ⟨hP, hS, lv_sub hl [1, 2, 0] rfl, h⟩
    refine y_head (pcJ := 214) (σ := Int × Int × Int × MS) (fun u H locs ls => va_P D vwCl (RW D a u.2.2.2) H ∧ va_S A s₀.heap H locs ∧ lv_has ls 3 [(0, .ref (a 200)), (1, .int (i2 u.1)), (2, .int (i2 u.2.1))] ∧ m_x12_ask_J214 (m_x12_ask_L183 n183) u.1 u.2.1 u.2.2.1 u.2.2.2 = some o) (fun u => [.int (i2 u.2.2.1), .ref (a 200)]) (fun u H locs ls hI => ?_) (fun J214 => ?_)
    · obtain ⟨hP, hS, hl, h⟩ := hI
      obtain ⟨x14, x15, x16, s17⟩ := u
      have hP : va_P D vwCl (RW D a s17) H := hP
      have hl : lv_has ls 3 [(0, .ref (a 200)), (1, .int (i2 x14)), (2, .int (i2 x15))] := hl
      have h : m_x12_ask_J214 (m_x12_ask_L183 n183) x14 x15 x16 s17 = some o := h
      unfold m_x12_ask_J214 at h
      refine ya_put (D := D) (ci := 12) (v := .int (i2 x16)) (ty := .int) (C := RX12) (T := TX12) (N := 116) hx hb ht inX12 tyX12 tyX12_ok nmX12 hown hK hP (hDD _) hS 0 RW_0 rfl 52 (by decide) (ht (.fieldLink RX12 463 "CloneVolumesModel" "askLevel" "I") fl_X12_463) (fun _ h9 => h9) rfl (by decide +kernel) rfl rfl (by rw [mF_len]; decide) eX12_ask_210.2.2.1 (RW_f52 x16) (fun H locs hP hS => ?_)
      obtain ⟨s18, hs18, h⟩ := st_e h
      rw [hs18] at hP
      refine lv_aload_n hx hb eX12_ask_210.2.2.2.1 rfl (lv_at hl 0 rfl) ?_
      refine lv_aload_n hx hb eX12_ask_210.2.2.2.2.1 rfl (lv_at hl 0 rfl) ?_
      refine lv_iload_n hx hb eX12_ask_210.2.2.2.2.2.1 rfl (lv_at hl 2 rfl) ?_
      obtain ⟨r20, hc19, h⟩ := bn_e h
      refine ycV (r0 := i2 r20) (As := [.int (i2 x15)]) (rest := [.ref (a 200)]) (C := RX12) (n := 1) ⟨hx, hb, hml, hown, ht⟩ (k_x12_isThere l D a x15 _ _ hc19) (zgV ml_X12_496 im_X12_isThere se_X12_isThere in_X12 co_X12_isThere) rfl rfl (by decide +kernel) ⟨Nat.le_of_ble_eq_true rfl, Nat.le_of_ble_eq_true rfl⟩ hN hK hP hS 0 RW_0 rfl rfl rfl hl.1 rfl (Nat.le_of_ble_eq_true rfl) eX12_ask_210.2.2.2.2.2.2.1 ⟨Nat.le_of_ble_eq_true rfl, Nat.le_of_ble_eq_true rfl⟩ (fun H locs hP hS => ?_)
      obtain ⟨hr21, h⟩ := rg_e h
      refine lv_if_eq (tgt := 234) hx hb eX12_ask_210.2.2.2.2.2.2.2 (by decide) (fun c22 => ?_) (fun c22 => ?_)
      · have h := if_t ((i2_eq (x := r20) (y := 0) hr21 (by decide)).mp c22) h
        refine lv_iconst (v := 0) hx hb eX12_ask_226.2.2.2.2.1 (by decide) ?_
        exact J235 (x14, x15, 0, s18) _ _ _ ⟨hP, hS, lv_sub hl [0, 1, 2] rfl, h⟩
      · have h := if_f (mt (i2_eq (x := r20) (y := 0) hr21 (by decide)).mpr c22) h
        refine lv_aload_n hx hb eX12_ask_226.1 rfl (lv_at hl 0 rfl) ?_
        refine lv_iload_n hx hb eX12_ask_226.2.1 rfl (lv_at hl 2 rfl) ?_
        obtain ⟨r24, hc23, h⟩ := bn_e h
        refine ycV (r0 := i2 r24) (As := [.int (i2 x15)]) (rest := [.ref (a 200)]) (C := RX12) (n := 1) ⟨hx, hb, hml, hown, ht⟩ (k_x12_entriesOf l D a x15 _ _ hc23) (zgV ml_X12_466 im_X12_entriesOf se_X12_entriesOf in_X12 co_X12_entriesOf) rfl rfl (by decide +kernel) ⟨Nat.le_of_ble_eq_true rfl, Nat.le_of_ble_eq_true rfl⟩ hN hK hP hS 0 RW_0 rfl rfl rfl hl.1 rfl (Nat.le_of_ble_eq_true rfl) eX12_ask_226.2.2.1 ⟨Nat.le_of_ble_eq_true rfl, Nat.le_of_ble_eq_true rfl⟩ (fun H locs hP hS => ?_)
        refine lv_goto (tgt := 235) hx hb eX12_ask_226.2.2.2.1 (by decide) ?_
        exact J235 (x14, x15, r24, s18) _ _ _ ⟨hP, hS, lv_sub hl [0, 1, 2] rfl, h⟩
    refine lv_iload_n hx hb eX12_ask_182.2.1 rfl (lv_at hl 2 rfl) ?_
    refine lv_aload_n hx hb eX12_ask_182.2.2.1 rfl (lv_at hl 0 rfl) ?_
    obtain ⟨r26, hc25, h⟩ := bn_e h
    refine ycV (r0 := i2 r26) (As := []) (rest := [.int (i2 x2)]) (C := RX12) (n := 0) ⟨hx, hb, hml, hown, ht⟩ (k_x12_blockMany l D a _ _ hc25) (zgV ml_X12_429 im_X12_blockMany se_X12_blockMany in_X12 co_X12_blockMany) rfl rfl (by decide +kernel) ⟨Nat.le_of_ble_eq_true rfl, Nat.le_of_ble_eq_true rfl⟩ hN hK hP hS 0 RW_0 rfl rfl rfl hl.1 rfl (Nat.le_of_ble_eq_true rfl) eX12_ask_182.2.2.2.1 ⟨Nat.le_of_ble_eq_true rfl, Nat.le_of_ble_eq_true rfl⟩ (fun H locs hP hS => ?_)
    obtain ⟨hr27, h⟩ := rg_e h
    obtain ⟨hr28, h⟩ := rg_e h
    refine lv_icmp_ge (tgt := 255) hx hb eX12_ask_182.2.2.2.2.1 (by decide) (fun c29 => ?_) (fun c29 => ?_)
    · have h := if_t ((i2_le (x := r26) (y := x2) hr28 hr27).mp c29) h
      refine lv_aload_n hx hb eX12_ask_240.2.2.2.2.2.2.2 rfl (lv_at hl 0 rfl) ?_
      refine va_get (D := D) (ci := 12) (v := .long (i8 (gL s3 109))) (C := RX12) (T := TX12) (N := 116) hx hb ht inX12 hown hK hP 0 RW_0 rfl 109 (by decide) (ht (.fieldLink RX12 763 "CloneVolumesModel" "qAnswer" "J") fl_X12_763) (fun _ h9 => h9) mF_109 eX12_ask_256.1 ?_
      obtain rfl := Option.some.inj h
      exact W.lret (v := (i8 (gL s3 109))) hx hb hr (fun t ht hW => ⟨⟨_, (), rfl, rfl, by rw [ht]; exact hP, va_K.moved hW.alike hK, hDD _⟩, hS.F ht⟩) hS.2.2 eX12_ask_256.2.1
    · have h := if_f (mt (i2_le (x := r26) (y := x2) hr28 hr27).mpr c29) h
      refine lv_aload_n hx hb eX12_ask_182.2.2.2.2.2.1 rfl (lv_at hl 0 rfl) ?_
      refine lv_iload_n hx hb eX12_ask_182.2.2.2.2.2.2.1 rfl (lv_at hl 2 rfl) ?_
      refine ya_put (D := D) (ci := 12) (v := .int (i2 x2)) (ty := .int) (C := RX12) (T := TX12) (N := 116) hx hb ht inX12 tyX12 tyX12_ok nmX12 hown hK hP (hDD _) hS 0 RW_0 rfl 50 (by decide) (ht (.fieldLink RX12 457 "CloneVolumesModel" "askBlock" "I") fl_X12_457) (fun _ h9 => h9) rfl (by decide +kernel) rfl rfl (by rw [mF_len]; decide) eX12_ask_182.2.2.2.2.2.2.2 (RW_f50 x2) (fun H locs hP hS => ?_)
      obtain ⟨s30, hs30, h⟩ := st_e h
      rw [hs30] at hP
      refine lv_aload_n hx hb eX12_ask_196.1 rfl (lv_at hl 0 rfl) ?_
      refine lv_aload_n hx hb eX12_ask_196.2.1 rfl (lv_at hl 0 rfl) ?_
      refine lv_iload_n hx hb eX12_ask_196.2.2.1 rfl (lv_at hl 2 rfl) ?_
      obtain ⟨r32, hc31, h⟩ := bn_e h
      refine ycV (r0 := i2 r32) (As := [.int (i2 x2)]) (rest := [.ref (a 200)]) (C := RX12) (n := 1) ⟨hx, hb, hml, hown, ht⟩ (k_x12_isThere l D a x2 _ _ hc31) (zgV ml_X12_496 im_X12_isThere se_X12_isThere in_X12 co_X12_isThere) rfl rfl (by decide +kernel) ⟨Nat.le_of_ble_eq_true rfl, Nat.le_of_ble_eq_true rfl⟩ hN hK hP hS 0 RW_0 rfl rfl rfl hl.1 rfl (Nat.le_of_ble_eq_true rfl) eX12_ask_196.2.2.2.1 ⟨Nat.le_of_ble_eq_true rfl, Nat.le_of_ble_eq_true rfl⟩ (fun H locs hP hS => ?_)
      obtain ⟨hr33, h⟩ := rg_e h
      refine lv_if_eq (tgt := 213) hx hb eX12_ask_196.2.2.2.2.1 (by decide) (fun c34 => ?_) (fun c34 => ?_)
      · have h := if_t ((i2_eq (x := r32) (y := 0) hr33 (by decide)).mp c34) h
        refine lv_iconst (v := 0) hx hb eX12_ask_210.2.1 (by decide) ?_
        exact J214 (x1, x2, 0, s30) _ _ _ ⟨hP, hS, lv_sub hl [0, 1, 2] rfl, h⟩
      · have h := if_f (mt (i2_eq (x := r32) (y := 0) hr33 (by decide)).mpr c34) h
        refine lv_aload_n hx hb eX12_ask_196.2.2.2.2.2.1 rfl (lv_at hl 0 rfl) ?_
        refine lv_iload_n hx hb eX12_ask_196.2.2.2.2.2.2.1 rfl (lv_at hl 2 rfl) ?_
        obtain ⟨r36, hc35, h⟩ := bn_e h
        refine ycV (r0 := i2 r36) (As := [.int (i2 x2)]) (rest := [.ref (a 200)]) (C := RX12) (n := 1) ⟨hx, hb, hml, hown, ht⟩ (k_x12_levelOf l D a x2 _ _ hc35) (zgV ml_X12_460 im_X12_levelOf se_X12_levelOf in_X12 co_X12_levelOf) rfl rfl (by decide +kernel) ⟨Nat.le_of_ble_eq_true rfl, Nat.le_of_ble_eq_true rfl⟩ hN hK hP hS 0 RW_0 rfl rfl rfl hl.1 rfl (Nat.le_of_ble_eq_true rfl) eX12_ask_196.2.2.2.2.2.2.2 ⟨Nat.le_of_ble_eq_true rfl, Nat.le_of_ble_eq_true rfl⟩ (fun H locs hP hS => ?_)
        refine lv_goto (tgt := 214) hx hb eX12_ask_210.1 (by decide) ?_
        exact J214 (x1, x2, r36, s30) _ _ _ ⟨hP, hS, lv_sub hl [0, 1, 2] rfl, h⟩
  refine y_head (pcJ := 173) (σ := Int × Int × MS) (fun u H locs ls => va_P D vwCl (RW D a u.2.2) H ∧ va_S A s₀.heap H locs ∧ lv_has ls 3 [(0, .ref (a 200)), (1, .int (i2 u.1))] ∧ m_x12_ask_J173 u.1 u.2.1 u.2.2 = some o) (fun u => [.long (i8 u.2.1), .ref (a 200)]) (fun u H locs ls hI => ?_) (fun J173 => ?_)
  · obtain ⟨hP, hS, hl, h⟩ := hI
    obtain ⟨x37, z38, s39⟩ := u
    have hP : va_P D vwCl (RW D a s39) H := hP
    have hl : lv_has ls 3 [(0, .ref (a 200)), (1, .int (i2 x37))] := hl
    have h : m_x12_ask_J173 x37 z38 s39 = some o := h
    unfold m_x12_ask_J173 at h
    refine ya_put (D := D) (ci := 12) (v := .long (i8 z38)) (ty := .long) (C := RX12) (T := TX12) (N := 116) hx hb ht inX12 tyX12 tyX12_ok nmX12 hown hK hP (hDD _) hS 0 RW_0 rfl 109 (by decide) (ht (.fieldLink RX12 763 "CloneVolumesModel" "qAnswer" "J") fl_X12_763) (fun _ h9 => h9) rfl (by decide +kernel) rfl rfl (by rw [mF_len]; decide) eX12_ask_166.2.2.2.1 (RW_f109 z38) (fun H locs hP hS => ?_)
    obtain ⟨s40, hs40, h⟩ := st_e h
    rw [hs40] at hP
    refine lv_aload_n hx hb eX12_ask_166.2.2.2.2.1 rfl (lv_at hl 0 rfl) ?_
    refine lv_iconst (v := 1) hx hb eX12_ask_166.2.2.2.2.2.1 (by decide) ?_
    refine ya_put (D := D) (ci := 12) (v := .int 1) (ty := .boolean) (C := RX12) (T := TX12) (N := 116) hx hb ht inX12 tyX12 tyX12_ok nmX12 hown hK hP (hDD _) hS 0 RW_0 rfl 110 (by decide) (ht (.fieldLink RX12 768 "CloneVolumesModel" "qIsNew" "Z") fl_X12_768) (fun _ h9 => h9) rfl (by decide +kernel) (by decide) (by decide) (by rw [mF_len]; decide) eX12_ask_166.2.2.2.2.2.2.1 (RW_f110 1) (fun H locs hP hS => ?_)
    obtain ⟨s41, hs41, h⟩ := st_e h
    rw [hs41] at hP
    refine lv_iconst (v := 0) hx hb eX12_ask_166.2.2.2.2.2.2.2 (by decide) ?_
    refine lv_istore_n (lv' := [(2, .int 0), (0, .ref (a 200)), (1, .int (i2 x37))]) hx hb eX12_ask_182.1 rfl hl (by decide) rfl (fun ls hl => ?_)
    exact J183 FU (x37, 0, s41) _ _ _ ⟨hP, hS, lv_sub hl [1, 2, 0] rfl, h⟩
  refine y_head (pcJ := 133) (σ := Int × MS) (fun u H locs ls => va_P D vwCl (RW D a u.2) H ∧ va_S A s₀.heap H locs ∧ lv_has ls 3 [(0, .ref (a 200)), (1, .int (i2 u.1))] ∧ m_x12_ask_J133 u.1 u.2 = some o) (fun u => []) (fun u H locs ls hI => ?_) (fun J133 => ?_)
  · obtain ⟨hP, hS, hl, h⟩ := hI
    obtain ⟨x42, s43⟩ := u
    have hP : va_P D vwCl (RW D a s43) H := hP
    have hl : lv_has ls 3 [(0, .ref (a 200)), (1, .int (i2 x42))] := hl
    have h : m_x12_ask_J133 x42 s43 = some o := h
    unfold m_x12_ask_J133 at h
    refine lv_aload_n hx hb eX12_ask_120.2.2.2.2.2.2.2 rfl (lv_at hl 0 rfl) ?_
    refine lv_aload_n hx hb eX12_ask_134.1 rfl (lv_at hl 0 rfl) ?_
    refine va_get (D := D) (ci := 12) (v := .int (i2 (gI s43 5))) (C := RX12) (T := TX12) (N := 116) hx hb ht inX12 hown hK hP 0 RW_0 rfl 5 (by decide) (ht (.fieldLink RX12 266 "CloneVolumesModel" "bad" "I") fl_X12_266) (fun _ h9 => h9) mF_5 eX12_ask_134.2.1 ?_
    refine ya_put (D := D) (ci := 12) (v := .int (i2 (gI s43 5))) (ty := .int) (C := RX12) (T := TX12) (N := 116) hx hb ht inX12 tyX12 tyX12_ok nmX12 hown hK hP (hDD _) hS 0 RW_0 rfl 7 (by decide) (ht (.fieldLink RX12 396 "CloneVolumesModel" "fault" "I") fl_X12_396) (fun _ h9 => h9) rfl (by decide +kernel) rfl rfl (by rw [mF_len]; decide) eX12_ask_134.2.2.1 (RW_f7 (gI s43 5)) (fun H locs hP hS => ?_)
    obtain ⟨s44, hs44, h⟩ := st_e h
    rw [hs44] at hP
    refine lv_aload_n hx hb eX12_ask_134.2.2.2.1 rfl (lv_at hl 0 rfl) ?_
    refine lv_aload_n hx hb eX12_ask_134.2.2.2.2.1 rfl (lv_at hl 0 rfl) ?_
    refine va_get (D := D) (ci := 12) (v := .int (i2 (gI s44 6))) (C := RX12) (T := TX12) (N := 116) hx hb ht inX12 hown hK hP 0 RW_0 rfl 6 (by decide) (ht (.fieldLink RX12 269 "CloneVolumesModel" "badPlace" "I") fl_X12_269) (fun _ h9 => h9) mF_6 eX12_ask_134.2.2.2.2.2.1 ?_
    refine ya_put (D := D) (ci := 12) (v := .int (i2 (gI s44 6))) (ty := .int) (C := RX12) (T := TX12) (N := 116) hx hb ht inX12 tyX12 tyX12_ok nmX12 hown hK hP (hDD _) hS 0 RW_0 rfl 8 (by decide) (ht (.fieldLink RX12 13 "CloneVolumesModel" "faultPlace" "I") fl_X12_13) (fun _ h9 => h9) rfl (by decide +kernel) rfl rfl (by rw [mF_len]; decide) eX12_ask_134.2.2.2.2.2.2.1 (RW_f8 (gI s44 6)) (fun H locs hP hS => ?_)
    obtain ⟨s45, hs45, h⟩ := st_e h
    rw [hs45] at hP
    refine lv_aload_n hx hb eX12_ask_134.2.2.2.2.2.2.2 rfl (lv_at hl 0 rfl) ?_
    refine va_get (D := D) (ci := 12) (v := .int (i2 (gI s45 5))) (C := RX12) (T := TX12) (N := 116) hx hb ht inX12 hown hK hP 0 RW_0 rfl 5 (by decide) (ht (.fieldLink RX12 266 "CloneVolumesModel" "bad" "I") fl_X12_266) (fun _ h9 => h9) mF_5 eX12_ask_150.1 ?_
    obtain ⟨hr46, h⟩ := rg_e h
    refine lv_if_eq (tgt := 160) hx hb eX12_ask_150.2.1 (by decide) (fun c47 => ?_) (fun c47 => ?_)
    · have h := if_t ((i2_eq (x := (gI s45 5)) (y := 0) hr46 (by decide)).mp c47) h
      refine lv_aload_n hx hb eX12_ask_150.2.2.2.2.1 rfl (lv_at hl 0 rfl) ?_
      refine lv_iload_n hx hb eX12_ask_150.2.2.2.2.2.1 rfl (lv_at hl 1 rfl) ?_
      refine lv_iconst (v := 2) hx hb eX12_ask_150.2.2.2.2.2.2.1 (by decide) ?_
      obtain ⟨hr48, h⟩ := rg_e h
      refine lv_icmp_ge (tgt := 172) hx hb eX12_ask_150.2.2.2.2.2.2.2 (by decide) (fun c49 => ?_) (fun c49 => ?_)
      · have h := if_t ((i2_le (x := 2) (y := x42) (by decide) hr48).mp c49) h
        refine lv_lconst (v := 0) hx hb eX12_ask_166.2.2.1 (by decide) ?_
        exact J173 (x42, 0, s45) _ _ _ ⟨hP, hS, lv_sub hl [0, 1] rfl, h⟩
      · have h := if_f (mt (i2_le (x := 2) (y := x42) (by decide) hr48).mpr c49) h
        refine lv_ldc2 (own := RX12) (v := (-1)) hx hb hown (ht _ cl_X12_766) eX12_ask_166.1 ?_
        refine lv_goto (tgt := 173) hx hb eX12_ask_166.2.1 (by decide) ?_
        exact J173 (x42, (-1), s45) _ _ _ ⟨hP, hS, lv_sub hl [0, 1] rfl, h⟩
    · have h := if_f (mt (i2_eq (x := (gI s45 5)) (y := 0) hr46 (by decide)).mpr c47) h
      refine lv_ldc2 (own := RX12) (v := (-1000000000000000)) hx hb hown (ht _ cl_X12_771) eX12_ask_150.2.2.1 ?_
      obtain rfl := Option.some.inj h
      exact W.lret (v := (-1000000000000000)) hx hb hr (fun t ht hW => ⟨⟨_, (), rfl, rfl, by rw [ht]; exact hP, va_K.moved hW.alike hK, hDD _⟩, hS.F ht⟩) hS.2.2 eX12_ask_150.2.2.2.1
  refine y_head (pcJ := 109) (σ := Int × MS) (fun u H locs ls => va_P D vwCl (RW D a u.2) H ∧ va_S A s₀.heap H locs ∧ lv_has ls 3 [(0, .ref (a 200)), (1, .int (i2 u.1))] ∧ m_x12_ask_J109 u.1 u.2 = some o) (fun u => []) (fun u H locs ls hI => ?_) (fun J109 => ?_)
  · obtain ⟨hP, hS, hl, h⟩ := hI
    obtain ⟨x50, s51⟩ := u
    have hP : va_P D vwCl (RW D a s51) H := hP
    have hl : lv_has ls 3 [(0, .ref (a 200)), (1, .int (i2 x50))] := hl
    have h : m_x12_ask_J109 x50 s51 = some o := h
    unfold m_x12_ask_J109 at h
    refine lv_aload_n hx hb eX12_ask_102.2.2.2.1 rfl (lv_at hl 0 rfl) ?_
    refine va_get (D := D) (ci := 12) (v := .int (i2 (gI s51 5))) (C := RX12) (T := TX12) (N := 116) hx hb ht inX12 hown hK hP 0 RW_0 rfl 5 (by decide) (ht (.fieldLink RX12 266 "CloneVolumesModel" "bad" "I") fl_X12_266) (fun _ h9 => h9) mF_5 eX12_ask_102.2.2.2.2.1 ?_
    obtain ⟨hr52, h⟩ := rg_e h
    refine lv_if_ne (tgt := 133) hx hb eX12_ask_102.2.2.2.2.2.1 (by decide) (fun c53 => ?_) (fun c53 => ?_)
    · have h := if_f (mt (i2_eq (x := (gI s51 5)) (y := 0) hr52 (by decide)).mpr c53) h
      exact J133 (x50, s51) _ _ _ ⟨hP, hS, lv_sub hl [0, 1] rfl, h⟩
    · have h := if_t ((i2_eq (x := (gI s51 5)) (y := 0) hr52 (by decide)).mp c53) h
      refine lv_aload_n hx hb eX12_ask_102.2.2.2.2.2.2.1 rfl (lv_at hl 0 rfl) ?_
      obtain ⟨⟨r56, s55⟩, hc54, h⟩ := bn_e h
      refine ywV (r0 := i2 r56) (As := []) (rest := []) (C := RX12) (n := 0) (ws' := RW D a s55) ⟨hx, hb, hml, hown, ht⟩ (k_x12_look l D a _ _ _ hc54) (zgV ml_X12_278 im_X12_look se_X12_look in_X12 co_X12_look) rfl rfl (by decide +kernel) ⟨Nat.le_of_ble_eq_true rfl, Nat.le_of_ble_eq_true rfl⟩ hN hK hP (hDD _) hS hA 0 RW_0 rfl rfl rfl hl.1 rfl (Nat.le_of_ble_eq_true rfl) eX12_ask_102.2.2.2.2.2.2.2 ⟨Nat.le_of_ble_eq_true rfl, Nat.le_of_ble_eq_true rfl⟩ (fun H locs hP hS => ?_)
      refine lv_iconst (v := (-1)) hx hb eX12_ask_120.1 (by decide) ?_
      obtain ⟨hr57, h⟩ := rg_e h
      refine lv_icmp_eq (tgt := 133) hx hb eX12_ask_120.2.1 (by decide) (fun c58 => ?_) (fun c58 => ?_)
      · rw [show ((-1) : Int32) = i2 (-1) from by decide] at c58
        have h := if_t ((i2_eq (x := r56) (y := (-1)) hr57 (by decide)).mp c58) h
        exact J133 (x50, s55) _ _ _ ⟨hP, hS, lv_sub hl [0, 1] rfl, h⟩
      · rw [show ((-1) : Int32) = i2 (-1) from by decide] at c58
        have h := if_f (mt (i2_eq (x := r56) (y := (-1)) hr57 (by decide)).mpr c58) h
        refine lv_aload_n hx hb eX12_ask_120.2.2.1 rfl (lv_at hl 0 rfl) ?_
        refine lv_iconst (v := 1) hx hb eX12_ask_120.2.2.2.1 (by decide) ?_
        refine lv_aload_n hx hb eX12_ask_120.2.2.2.2.1 rfl (lv_at hl 0 rfl) ?_
        refine va_get (D := D) (ci := 12) (v := .int (i2 (gI s55 2))) (C := RX12) (T := TX12) (N := 116) hx hb ht inX12 hown hK hP 0 RW_0 rfl 2 (by decide) (ht (.fieldLink RX12 272 "CloneVolumesModel" "at" "I") fl_X12_272) (fun _ h9 => h9) mF_2 eX12_ask_120.2.2.2.2.2.1 ?_
        obtain ⟨s60, hc59, h⟩ := bn_e h
        refine ywVv (As := [.int 1, .int (i2 (gI s55 2))]) (rest := []) (C := RX12) (n := 2) (ws' := RW D a s60) ⟨hx, hb, hml, hown, ht⟩ (k_x12_fail l D a 1 (gI s55 2) _ _ _ hc59) (zgV ml_X12_296 im_X12_fail se_X12_fail in_X12 co_X12_fail) rfl rfl (by decide +kernel) ⟨Nat.le_of_ble_eq_true rfl, Nat.le_of_ble_eq_true rfl⟩ hN hK hP (hDD _) hS hA 0 RW_0 rfl rfl rfl hl.1 rfl (Nat.le_of_ble_eq_true rfl) eX12_ask_120.2.2.2.2.2.2.1 ⟨Nat.le_of_ble_eq_true rfl, Nat.le_of_ble_eq_true rfl⟩ (fun H locs hP hS => ?_)
        exact J133 (x50, s60) _ _ _ ⟨hP, hS, lv_sub hl [0, 1] rfl, h⟩
  refine y_head (pcJ := 98) (σ := Int × MS) (fun u H locs ls => va_P D vwCl (RW D a u.2) H ∧ va_S A s₀.heap H locs ∧ lv_has ls 3 [(0, .ref (a 200)), (1, .int (i2 u.1))] ∧ m_x12_ask_J98 u.1 u.2 = some o) (fun u => []) (fun u H locs ls hI => ?_) (fun J98 => ?_)
  · obtain ⟨hP, hS, hl, h⟩ := hI
    obtain ⟨x61, s62⟩ := u
    have hP : va_P D vwCl (RW D a s62) H := hP
    have hl : lv_has ls 3 [(0, .ref (a 200)), (1, .int (i2 x61))] := hl
    have h : m_x12_ask_J98 x61 s62 = some o := h
    unfold m_x12_ask_J98 at h
    refine lv_aload_n hx hb eX12_ask_86.2.2.2.2.2.2.1 rfl (lv_at hl 0 rfl) ?_
    refine va_get (D := D) (ci := 12) (v := .int (i2 (gI s62 5))) (C := RX12) (T := TX12) (N := 116) hx hb ht inX12 hown hK hP 0 RW_0 rfl 5 (by decide) (ht (.fieldLink RX12 266 "CloneVolumesModel" "bad" "I") fl_X12_266) (fun _ h9 => h9) mF_5 eX12_ask_86.2.2.2.2.2.2.2 ?_
    obtain ⟨hr63, h⟩ := rg_e h
    refine lv_if_ne (tgt := 109) hx hb eX12_ask_102.1 (by decide) (fun c64 => ?_) (fun c64 => ?_)
    · have h := if_f (mt (i2_eq (x := (gI s62 5)) (y := 0) hr63 (by decide)).mpr c64) h
      exact J109 (x61, s62) _ _ _ ⟨hP, hS, lv_sub hl [0, 1] rfl, h⟩
    · have h := if_t ((i2_eq (x := (gI s62 5)) (y := 0) hr63 (by decide)).mp c64) h
      refine lv_aload_n hx hb eX12_ask_102.2.1 rfl (lv_at hl 0 rfl) ?_
      obtain ⟨s66, hc65, h⟩ := bn_e h
      refine ywVv (As := []) (rest := []) (C := RX12) (n := 0) (ws' := RW D a s66) ⟨hx, hb, hml, hown, ht⟩ (k_x12_qSums l D a _ _ _ hc65) (zgV ml_X12_368 im_X12_qSums se_X12_qSums in_X12 co_X12_qSums) rfl rfl (by decide +kernel) ⟨Nat.le_of_ble_eq_true rfl, Nat.le_of_ble_eq_true rfl⟩ hN hK hP (hDD _) hS hA 0 RW_0 rfl rfl rfl hl.1 rfl (Nat.le_of_ble_eq_true rfl) eX12_ask_102.2.2.1 ⟨Nat.le_of_ble_eq_true rfl, Nat.le_of_ble_eq_true rfl⟩ (fun H locs hP hS => ?_)
      exact J109 (x61, s66) _ _ _ ⟨hP, hS, lv_sub hl [0, 1] rfl, h⟩
  refine lv_aload_n hx hb eX12_ask_0.1 rfl (lv_at hl 0 rfl) ?_
  refine va_get (D := D) (ci := 12) (v := .int (i2 (gI s 47))) (C := RX12) (T := TX12) (N := 116) hx hb ht inX12 hown hK hP 0 RW_0 rfl 47 (by decide) (ht (.fieldLink RX12 406 "CloneVolumesModel" "isTold" "Z") fl_X12_406) (fun _ h9 => h9) mF_47 eX12_ask_0.2.1 ?_
  obtain ⟨hr67, h⟩ := rg_e h
  refine lv_if_ne (tgt := 16) hx hb eX12_ask_0.2.2.1 (by decide) (fun c68 => ?_) (fun c68 => ?_)
  · have h := if_f (mt (i2_eq (x := (gI s 47)) (y := 0) hr67 (by decide)).mpr c68) h
    refine lv_aload_n hx hb eX12_ask_16.1 rfl (lv_at hl 0 rfl) ?_
    refine lv_aload_n hx hb eX12_ask_16.2.1 rfl (lv_at hl 0 rfl) ?_
    refine va_get (D := D) (ci := 12) (v := .int (i2 (gI s 1))) (C := RX12) (T := TX12) (N := 116) hx hb ht inX12 hown hK hP 0 RW_0 rfl 1 (by decide) (ht (.fieldLink RX12 263 "CloneVolumesModel" "taped" "I") fl_X12_263) (fun _ h9 => h9) mF_1 eX12_ask_16.2.2.1 ?_
    refine ya_put (D := D) (ci := 12) (v := .int (i2 (gI s 1))) (ty := .int) (C := RX12) (T := TX12) (N := 116) hx hb ht inX12 tyX12 tyX12_ok nmX12 hown hK hP (hDD _) hS 0 RW_0 rfl 3 (by decide) (ht (.fieldLink RX12 275 "CloneVolumesModel" "end" "I") fl_X12_275) (fun _ h9 => h9) rfl (by decide +kernel) rfl rfl (by rw [mF_len]; decide) eX12_ask_16.2.2.2.1 (RW_f3 (gI s 1)) (fun H locs hP hS => ?_)
    obtain ⟨s69, hs69, h⟩ := st_e h
    rw [hs69] at hP
    refine lv_aload_n hx hb eX12_ask_16.2.2.2.2.1 rfl (lv_at hl 0 rfl) ?_
    refine lv_iconst (v := 0) hx hb eX12_ask_16.2.2.2.2.2.1 (by decide) ?_
    refine ya_put (D := D) (ci := 12) (v := .int 0) (ty := .int) (C := RX12) (T := TX12) (N := 116) hx hb ht inX12 tyX12 tyX12_ok nmX12 hown hK hP (hDD _) hS 0 RW_0 rfl 1 (by decide) (ht (.fieldLink RX12 263 "CloneVolumesModel" "taped" "I") fl_X12_263) (fun _ h9 => h9) rfl (by decide +kernel) rfl rfl (by rw [mF_len]; decide) eX12_ask_16.2.2.2.2.2.2.1 (RW_f1 0) (fun H locs hP hS => ?_)
    obtain ⟨s70, hs70, h⟩ := st_e h
    rw [hs70] at hP
    refine lv_aload_n hx hb eX12_ask_16.2.2.2.2.2.2.2 rfl (lv_at hl 0 rfl) ?_
    refine lv_iconst (v := 0) hx hb eX12_ask_30.1 (by decide) ?_
    refine ya_put (D := D) (ci := 12) (v := .int 0) (ty := .int) (C := RX12) (T := TX12) (N := 116) hx hb ht inX12 tyX12 tyX12_ok nmX12 hown hK hP (hDD _) hS 0 RW_0 rfl 2 (by decide) (ht (.fieldLink RX12 272 "CloneVolumesModel" "at" "I") fl_X12_272) (fun _ h9 => h9) rfl (by decide +kernel) rfl rfl (by rw [mF_len]; decide) eX12_ask_30.2.1 (RW_f2 0) (fun H locs hP hS => ?_)
    obtain ⟨s71, hs71, h⟩ := st_e h
    rw [hs71] at hP
    refine lv_aload_n hx hb eX12_ask_30.2.2.1 rfl (lv_at hl 0 rfl) ?_
    refine lv_iconst (v := (-1)) hx hb eX12_ask_30.2.2.2.1 (by decide) ?_
    refine ya_put (D := D) (ci := 12) (v := .int (-1)) (ty := .int) (C := RX12) (T := TX12) (N := 116) hx hb ht inX12 tyX12 tyX12_ok nmX12 hown hK hP (hDD _) hS 0 RW_0 rfl 4 (by decide) (ht (.fieldLink RX12 286 "CloneVolumesModel" "ended" "I") fl_X12_286) (fun _ h9 => h9) rfl (by decide +kernel) rfl rfl (by rw [mF_len]; decide) eX12_ask_30.2.2.2.2.1 (RW_f4 (-1)) (fun H locs hP hS => ?_)
    obtain ⟨s72, hs72, h⟩ := st_e h
    rw [hs72] at hP
    refine lv_aload_n hx hb eX12_ask_30.2.2.2.2.2.1 rfl (lv_at hl 0 rfl) ?_
    refine lv_iconst (v := 0) hx hb eX12_ask_30.2.2.2.2.2.2.1 (by decide) ?_
    refine ya_put (D := D) (ci := 12) (v := .int 0) (ty := .int) (C := RX12) (T := TX12) (N := 116) hx hb ht inX12 tyX12 tyX12_ok nmX12 hown hK hP (hDD _) hS 0 RW_0 rfl 5 (by decide) (ht (.fieldLink RX12 266 "CloneVolumesModel" "bad" "I") fl_X12_266) (fun _ h9 => h9) rfl (by decide +kernel) rfl rfl (by rw [mF_len]; decide) eX12_ask_30.2.2.2.2.2.2.2 (RW_f5 0) (fun H locs hP hS => ?_)
    obtain ⟨s73, hs73, h⟩ := st_e h
    rw [hs73] at hP
    refine lv_aload_n hx hb eX12_ask_44.1 rfl (lv_at hl 0 rfl) ?_
    refine lv_iconst (v := (-1)) hx hb eX12_ask_44.2.1 (by decide) ?_
    refine ya_put (D := D) (ci := 12) (v := .int (-1)) (ty := .int) (C := RX12) (T := TX12) (N := 116) hx hb ht inX12 tyX12 tyX12_ok nmX12 hown hK hP (hDD _) hS 0 RW_0 rfl 6 (by decide) (ht (.fieldLink RX12 269 "CloneVolumesModel" "badPlace" "I") fl_X12_269) (fun _ h9 => h9) rfl (by decide +kernel) rfl rfl (by rw [mF_len]; decide) eX12_ask_44.2.2.1 (RW_f6 (-1)) (fun H locs hP hS => ?_)
    obtain ⟨s74, hs74, h⟩ := st_e h
    rw [hs74] at hP
    refine lv_aload_n hx hb eX12_ask_44.2.2.2.1 rfl (lv_at hl 0 rfl) ?_
    refine lv_iconst (v := 3) hx hb eX12_ask_44.2.2.2.2.1 (by decide) ?_
    refine ya_put (D := D) (ci := 12) (v := .int 3) (ty := .int) (C := RX12) (T := TX12) (N := 116) hx hb ht inX12 tyX12 tyX12_ok nmX12 hown hK hP (hDD _) hS 0 RW_0 rfl 48 (by decide) (ht (.fieldLink RX12 324 "CloneVolumesModel" "textKind" "I") fl_X12_324) (fun _ h9 => h9) rfl (by decide +kernel) rfl rfl (by rw [mF_len]; decide) eX12_ask_44.2.2.2.2.2.1 (RW_f48 3) (fun H locs hP hS => ?_)
    obtain ⟨s75, hs75, h⟩ := st_e h
    rw [hs75] at hP
    refine lv_aload_n hx hb eX12_ask_44.2.2.2.2.2.2.1 rfl (lv_at hl 0 rfl) ?_
    refine lv_iconst (v := 0) hx hb eX12_ask_44.2.2.2.2.2.2.2 (by decide) ?_
    refine ya_put (D := D) (ci := 12) (v := .int 0) (ty := .int) (C := RX12) (T := TX12) (N := 116) hx hb ht inX12 tyX12 tyX12_ok nmX12 hown hK hP (hDD _) hS 0 RW_0 rfl 102 (by decide) (ht (.fieldLink RX12 353 "CloneVolumesModel" "qCoded" "I") fl_X12_353) (fun _ h9 => h9) rfl (by decide +kernel) rfl rfl (by rw [mF_len]; decide) eX12_ask_56.1 (RW_f102 0) (fun H locs hP hS => ?_)
    obtain ⟨s76, hs76, h⟩ := st_e h
    rw [hs76] at hP
    refine lv_aload_n hx hb eX12_ask_56.2.1 rfl (lv_at hl 0 rfl) ?_
    refine lv_iconst (v := 0) hx hb eX12_ask_56.2.2.1 (by decide) ?_
    refine ya_put (D := D) (ci := 12) (v := .int 0) (ty := .int) (C := RX12) (T := TX12) (N := 116) hx hb ht inX12 tyX12 tyX12_ok nmX12 hown hK hP (hDD _) hS 0 RW_0 rfl 104 (by decide) (ht (.fieldLink RX12 356 "CloneVolumesModel" "qWaits" "I") fl_X12_356) (fun _ h9 => h9) rfl (by decide +kernel) rfl rfl (by rw [mF_len]; decide) eX12_ask_56.2.2.2.1 (RW_f104 0) (fun H locs hP hS => ?_)
    obtain ⟨s77, hs77, h⟩ := st_e h
    rw [hs77] at hP
    refine lv_aload_n hx hb eX12_ask_56.2.2.2.2.1 rfl (lv_at hl 0 rfl) ?_
    refine lv_iconst (v := 0) hx hb eX12_ask_56.2.2.2.2.2.1 (by decide) ?_
    refine ya_put (D := D) (ci := 12) (v := .int 0) (ty := .int) (C := RX12) (T := TX12) (N := 116) hx hb ht inX12 tyX12 tyX12_ok nmX12 hown hK hP (hDD _) hS 0 RW_0 rfl 105 (by decide) (ht (.fieldLink RX12 359 "CloneVolumesModel" "qOpened" "I") fl_X12_359) (fun _ h9 => h9) rfl (by decide +kernel) rfl rfl (by rw [mF_len]; decide) eX12_ask_56.2.2.2.2.2.2.1 (RW_f105 0) (fun H locs hP hS => ?_)
    obtain ⟨s78, hs78, h⟩ := st_e h
    rw [hs78] at hP
    refine lv_aload_n hx hb eX12_ask_56.2.2.2.2.2.2.2 rfl (lv_at hl 0 rfl) ?_
    refine lv_iconst (v := 0) hx hb eX12_ask_70.1 (by decide) ?_
    refine ya_put (D := D) (ci := 12) (v := .int 0) (ty := .int) (C := RX12) (T := TX12) (N := 116) hx hb ht inX12 tyX12 tyX12_ok nmX12 hown hK hP (hDD _) hS 0 RW_0 rfl 106 (by decide) (ht (.fieldLink RX12 362 "CloneVolumesModel" "qBase" "I") fl_X12_362) (fun _ h9 => h9) rfl (by decide +kernel) rfl rfl (by rw [mF_len]; decide) eX12_ask_70.2.1 (RW_f106 0) (fun H locs hP hS => ?_)
    obtain ⟨s79, hs79, h⟩ := st_e h
    rw [hs79] at hP
    refine lv_aload_n hx hb eX12_ask_70.2.2.1 rfl (lv_at hl 0 rfl) ?_
    obtain ⟨⟨r82, s81⟩, hc80, h⟩ := bn_e h
    refine ywV (r0 := i2 r82) (As := []) (rest := []) (C := RX12) (n := 0) (ws' := RW D a s81) ⟨hx, hb, hml, hown, ht⟩ (k_x12_qKind l D a _ _ _ hc80) (zgV ml_X12_773 im_X12_qKind se_X12_qKind in_X12 co_X12_qKind) rfl rfl (by decide +kernel) ⟨Nat.le_of_ble_eq_true rfl, Nat.le_of_ble_eq_true rfl⟩ hN hK hP (hDD _) hS hA 0 RW_0 rfl rfl rfl hl.1 rfl (Nat.le_of_ble_eq_true rfl) eX12_ask_70.2.2.2.1 ⟨Nat.le_of_ble_eq_true rfl, Nat.le_of_ble_eq_true rfl⟩ (fun H locs hP hS => ?_)
    refine lv_istore_n (lv' := [(1, .int (i2 r82)), (0, .ref (a 200))]) hx hb eX12_ask_70.2.2.2.2.1 rfl hl (by decide) rfl (fun ls hl => ?_)
    refine lv_aload_n hx hb eX12_ask_70.2.2.2.2.2.1 rfl (lv_at hl 1 rfl) ?_
    refine va_get (D := D) (ci := 12) (v := .int (i2 (gI s81 5))) (C := RX12) (T := TX12) (N := 116) hx hb ht inX12 hown hK hP 0 RW_0 rfl 5 (by decide) (ht (.fieldLink RX12 266 "CloneVolumesModel" "bad" "I") fl_X12_266) (fun _ h9 => h9) mF_5 eX12_ask_70.2.2.2.2.2.2.1 ?_
    obtain ⟨hr83, h⟩ := rg_e h
    refine lv_if_ne (tgt := 98) hx hb eX12_ask_70.2.2.2.2.2.2.2 (by decide) (fun c84 => ?_) (fun c84 => ?_)
    · have h := if_f (mt (i2_eq (x := (gI s81 5)) (y := 0) hr83 (by decide)).mpr c84) h
      exact J98 (r82, s81) _ _ _ ⟨hP, hS, lv_sub hl [1, 0] rfl, h⟩
    · have h := if_t ((i2_eq (x := (gI s81 5)) (y := 0) hr83 (by decide)).mp c84) h
      refine lv_iload_n hx hb eX12_ask_86.1 rfl (lv_at hl 0 rfl) ?_
      refine lv_iconst (v := 3) hx hb eX12_ask_86.2.1 (by decide) ?_
      obtain ⟨hr85, h⟩ := rg_e h
      refine lv_icmp_ge (tgt := 98) hx hb eX12_ask_86.2.2.1 (by decide) (fun c86 => ?_) (fun c86 => ?_)
      · have h := if_t ((i2_le (x := 3) (y := r82) (by decide) hr85).mp c86) h
        exact J98 (r82, s81) _ _ _ ⟨hP, hS, lv_sub hl [1, 0] rfl, h⟩
      · have h := if_f (mt (i2_le (x := 3) (y := r82) (by decide) hr85).mpr c86) h
        refine lv_aload_n hx hb eX12_ask_86.2.2.2.1 rfl (lv_at hl 1 rfl) ?_
        obtain ⟨s88, hc87, h⟩ := bn_e h
        refine ywVv (As := []) (rest := []) (C := RX12) (n := 0) (ws' := RW D a s88) ⟨hx, hb, hml, hown, ht⟩ (k_x12_qTest l D a _ _ _ hc87) (zgV ml_X12_365 im_X12_qTest se_X12_qTest in_X12 co_X12_qTest) rfl rfl (by decide +kernel) ⟨Nat.le_of_ble_eq_true rfl, Nat.le_of_ble_eq_true rfl⟩ hN hK hP (hDD _) hS hA 0 RW_0 rfl rfl rfl hl.1 rfl (Nat.le_of_ble_eq_true rfl) eX12_ask_86.2.2.2.2.1 ⟨Nat.le_of_ble_eq_true rfl, Nat.le_of_ble_eq_true rfl⟩ (fun H locs hP hS => ?_)
        refine lv_goto (tgt := 109) hx hb eX12_ask_86.2.2.2.2.2.1 (by decide) ?_
        exact J109 (r82, s88) _ _ _ ⟨hP, hS, lv_sub hl [1, 0] rfl, h⟩
  · have h := if_t ((i2_eq (x := (gI s 47)) (y := 0) hr67 (by decide)).mp c68) h
    refine lv_aload_n hx hb eX12_ask_0.2.2.2.1 rfl (lv_at hl 0 rfl) ?_
    refine lv_iconst (v := 0) hx hb eX12_ask_0.2.2.2.2.1 (by decide) ?_
    refine ya_put (D := D) (ci := 12) (v := .int 0) (ty := .int) (C := RX12) (T := TX12) (N := 116) hx hb ht inX12 tyX12 tyX12_ok nmX12 hown hK hP (hDD _) hS 0 RW_0 rfl 1 (by decide) (ht (.fieldLink RX12 263 "CloneVolumesModel" "taped" "I") fl_X12_263) (fun _ h9 => h9) rfl (by decide +kernel) rfl rfl (by rw [mF_len]; decide) eX12_ask_0.2.2.2.2.2.1 (RW_f1 0) (fun H locs hP hS => ?_)
    obtain ⟨s89, hs89, h⟩ := st_e h
    rw [hs89] at hP
    refine lv_ldc2 (own := RX12) (v := (-1000000000000000)) hx hb hown (ht _ cl_X12_771) eX12_ask_0.2.2.2.2.2.2.1 ?_
    obtain rfl := Option.some.inj h
    exact W.lret (v := (-1000000000000000)) hx hb hr (fun t ht hW => ⟨⟨_, (), rfl, rfl, by rw [ht]; exact hP, va_K.moved hW.alike hK, hDD _⟩, hS.F ht⟩) hS.2.2 eX12_ask_0.2.2.2.2.2.2.2
