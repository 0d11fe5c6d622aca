theorem co_X12_areBetween : Cond.code yX12_areBetween cX12_areBetween 7 (some .boolean) ∈ lw_gd := zm (lw_g_11 (List.mem_of_getElem? (i := 5) (by decide +kernel))) rfl
theorem co_X12_areCounts : Cond.code yX12_areCounts cX12_areCounts 4 (some .boolean) ∈ lw_gd := zm (lw_g_10 (List.mem_of_getElem? (i := 237) (by decide +kernel))) rfl
theorem co_X12_areKeys : Cond.code yX12_areKeys cX12_areKeys 4 (some .boolean) ∈ lw_gd := zm (lw_g_11 (List.mem_of_getElem? (i := 1) (by decide +kernel))) rfl
theorem co_X12_areValues : Cond.code yX12_areValues cX12_areValues 4 (some .boolean) ∈ lw_gd := zm (lw_g_10 (List.mem_of_getElem? (i := 229) (by decide +kernel))) rfl
theorem co_X12_isImage : Cond.code yX12_isImage cX12_isImage 4 (some .boolean) ∈ lw_gd := zm (lw_g_10 (List.mem_of_getElem? (i := 209) (by decide +kernel))) rfl
theorem co_X12_isLaid : Cond.code yX12_isLaid cX12_isLaid 6 (some .boolean) ∈ lw_gd := zm (lw_g_10 (List.mem_of_getElem? (i := 213) (by decide +kernel))) rfl
theorem co_X12_laidOf : Cond.code yX12_laidOf cX12_laidOf 3 (some .int) ∈ lw_gd := zm (lw_g_10 (List.mem_of_getElem? (i := 233) (by decide +kernel))) rfl
theorem im_X12_areBetween : Cond.instanceMethod yX12_areBetween ∈ lw_gd := zm (lw_g_11 (List.mem_of_getElem? (i := 4) (by decide +kernel))) rfl
theorem im_X12_areCounts : Cond.instanceMethod yX12_areCounts ∈ lw_gd := zm (lw_g_10 (List.mem_of_getElem? (i := 236) (by decide +kernel))) rfl
theorem im_X12_areKeys : Cond.instanceMethod yX12_areKeys ∈ lw_gd := zm (lw_g_11 (List.mem_of_getElem? (i := 0) (by decide +kernel))) rfl
theorem im_X12_areValues : Cond.instanceMethod yX12_areValues ∈ lw_gd := zm (lw_g_10 (List.mem_of_getElem? (i := 228) (by decide +kernel))) rfl
theorem im_X12_isImage : Cond.instanceMethod yX12_isImage ∈ lw_gd := zm (lw_g_10 (List.mem_of_getElem? (i := 208) (by decide +kernel))) rfl
theorem im_X12_isLaid : Cond.instanceMethod yX12_isLaid ∈ lw_gd := zm (lw_g_10 (List.mem_of_getElem? (i := 212) (by decide +kernel))) rfl
theorem im_X12_laidOf : Cond.instanceMethod yX12_laidOf ∈ lw_gd := zm (lw_g_10 (List.mem_of_getElem? (i := 232) (by decide +kernel))) rfl
theorem ml_X12_816 : Cond.methodLink RX12 816 yX12_laidOf ∈ lw_gd := zm (lw_g_10 (List.mem_of_getElem? (i := 230) (by decide +kernel))) rfl
theorem ml_X12_819 : Cond.methodLink RX12 819 yX12_areBetween ∈ lw_gd := zm (lw_g_11 (List.mem_of_getElem? (i := 2) (by decide +kernel))) rfl
theorem ml_X12_823 : Cond.methodLink RX12 823 yX12_isLaid ∈ lw_gd := zm (lw_g_10 (List.mem_of_getElem? (i := 210) (by decide +kernel))) rfl
theorem ml_X12_826 : Cond.methodLink RX12 826 yX12_areValues ∈ lw_gd := zm (lw_g_10 (List.mem_of_getElem? (i := 226) (by decide +kernel))) rfl
theorem ml_X12_829 : Cond.methodLink RX12 829 yX12_areCounts ∈ lw_gd := zm (lw_g_10 (List.mem_of_getElem? (i := 234) (by decide +kernel))) rfl
theorem ml_X12_832 : Cond.methodLink RX12 832 yX12_areKeys ∈ lw_gd := zm (lw_g_10 (List.mem_of_getElem? (i := 238) (by decide +kernel))) rfl
theorem ml_X12_835 : Cond.methodLink RX12 835 yX12_isImage ∈ lw_gd := zm (lw_g_10 (List.mem_of_getElem? (i := 206) (by decide +kernel))) rfl
theorem se_X12_areBetween : Cond.selects RX12 yX12_areBetween yX12_areBetween ∈ lw_gd := zm (List.mem_of_getElem? (i := 196) (by decide +kernel)) rfl
theorem se_X12_areCounts : Cond.selects RX12 yX12_areCounts yX12_areCounts ∈ lw_gd := zm (List.mem_of_getElem? (i := 194) (by decide +kernel)) rfl
theorem se_X12_areKeys : Cond.selects RX12 yX12_areKeys yX12_areKeys ∈ lw_gd := zm (List.mem_of_getElem? (i := 195) (by decide +kernel)) rfl
theorem se_X12_areValues : Cond.selects RX12 yX12_areValues yX12_areValues ∈ lw_gd := zm (List.mem_of_getElem? (i := 192) (by decide +kernel)) rfl
theorem se_X12_isImage : Cond.selects RX12 yX12_isImage yX12_isImage ∈ lw_gd := zm (List.mem_of_getElem? (i := 187) (by decide +kernel)) rfl
theorem se_X12_isLaid : Cond.selects RX12 yX12_isLaid yX12_isLaid ∈ lw_gd := zm (List.mem_of_getElem? (i := 188) (by decide +kernel)) rfl
theorem se_X12_laidOf : Cond.selects RX12 yX12_laidOf yX12_laidOf ∈ lw_gd := zm (List.mem_of_getElem? (i := 193) (by decide +kernel)) rfl
theorem eX12_areBetween_0 : decode cX12_areBetween 0 = .ok (.iconst 1, 1) ∧ decode cX12_areBetween 1 = .ok (.istore 4, 2) ∧ decode cX12_areBetween 3 = .ok (.aload_n 0, 1) ∧ decode cX12_areBetween 4 = .ok (.getfield 146, 3) ∧ decode cX12_areBetween 7 = .ok (.iconst 0, 1) ∧ decode cX12_areBetween 8 = .ok (.iload_n 1, 1) ∧ decode cX12_areBetween 9 = .ok (.iastore, 1) ∧ decode cX12_areBetween 10 = .ok (.iload 4, 2) := by decide +kernel
theorem eX12_areBetween_12 : decode cX12_areBetween 12 = .ok (.ifCond .le 93, 3) ∧ decode cX12_areBetween 15 = .ok (.iinc 4 (-1), 3) ∧ decode cX12_areBetween 18 = .ok (.aload_n 0, 1) ∧ decode cX12_areBetween 19 = .ok (.getfield 146, 3) ∧ decode cX12_areBetween 22 = .ok (.iload 4, 2) ∧ decode cX12_areBetween 24 = .ok (.iaload, 1) ∧ decode cX12_areBetween 25 = .ok (.istore 5, 2) ∧ decode cX12_areBetween 27 = .ok (.iconst 0, 1) := by decide +kernel
theorem eX12_areBetween_28 : decode cX12_areBetween 28 = .ok (.istore 6, 2) ∧ decode cX12_areBetween 30 = .ok (.iload 6, 2) ∧ decode cX12_areBetween 32 = .ok (.aload_n 0, 1) ∧ decode cX12_areBetween 33 = .ok (.iload 5, 2) ∧ decode cX12_areBetween 35 = .ok (.iconst 3, 1) ∧ decode cX12_areBetween 36 = .ok (.invokevirtual 816, 3) ∧ decode cX12_areBetween 39 = .ok (.if_icmp .ge 63, 3) ∧ decode cX12_areBetween 42 = .ok (.aload_n 0, 1) := by decide +kernel
theorem eX12_areBetween_43 : decode cX12_areBetween 43 = .ok (.iload 5, 2) ∧ decode cX12_areBetween 45 = .ok (.iconst 2, 1) ∧ decode cX12_areBetween 46 = .ok (.invokevirtual 816, 3) ∧ decode cX12_areBetween 49 = .ok (.ifCond .ne 26, 3) ∧ decode cX12_areBetween 52 = .ok (.aload_n 0, 1) ∧ decode cX12_areBetween 53 = .ok (.iload 5, 2) ∧ decode cX12_areBetween 55 = .ok (.iconst 4, 1) ∧ decode cX12_areBetween 56 = .ok (.iload 6, 2) := by decide +kernel
theorem eX12_areBetween_58 : decode cX12_areBetween 58 = .ok (.iadd, 1) ∧ decode cX12_areBetween 59 = .ok (.invokevirtual 816, 3) ∧ decode cX12_areBetween 62 = .ok (.i2l, 1) ∧ decode cX12_areBetween 63 = .ok (.iload_n 2, 1) ∧ decode cX12_areBetween 64 = .ok (.i2l, 1) ∧ decode cX12_areBetween 65 = .ok (.iload_n 3, 1) ∧ decode cX12_areBetween 66 = .ok (.i2l, 1) ∧ decode cX12_areBetween 67 = .ok (.invokestatic 309, 3) := by decide +kernel
theorem eX12_areBetween_70 : decode cX12_areBetween 70 = .ok (.ifCond .ne 26, 3) ∧ decode cX12_areBetween 73 = .ok (.iconst 0, 1) ∧ decode cX12_areBetween 74 = .ok (.ireturn, 1) ∧ decode cX12_areBetween 75 = .ok (.aload_n 0, 1) ∧ decode cX12_areBetween 76 = .ok (.getfield 146, 3) ∧ decode cX12_areBetween 79 = .ok (.iload 4, 2) ∧ decode cX12_areBetween 81 = .ok (.aload_n 0, 1) ∧ decode cX12_areBetween 82 = .ok (.iload 5, 2) := by decide +kernel
theorem eX12_areBetween_84 : decode cX12_areBetween 84 = .ok (.bipush 10, 2) ∧ decode cX12_areBetween 86 = .ok (.iload 6, 2) ∧ decode cX12_areBetween 88 = .ok (.iadd, 1) ∧ decode cX12_areBetween 89 = .ok (.invokevirtual 816, 3) ∧ decode cX12_areBetween 92 = .ok (.iastore, 1) ∧ decode cX12_areBetween 93 = .ok (.iinc 4 1, 3) ∧ decode cX12_areBetween 96 = .ok (.iinc 6 1, 3) ∧ decode cX12_areBetween 99 = .ok (.goto (-69), 3) := by decide +kernel
theorem eX12_areBetween_102 : decode cX12_areBetween 102 = .ok (.goto (-92), 3) ∧ decode cX12_areBetween 105 = .ok (.iconst 1, 1) ∧ decode cX12_areBetween 106 = .ok (.ireturn, 1) ∧ decode cX12_areCounts 0 = .ok (.iconst 0, 1) ∧ decode cX12_areCounts 1 = .ok (.istore_n 2, 1) ∧ decode cX12_areCounts 2 = .ok (.iload_n 2, 1) ∧ decode cX12_areCounts 3 = .ok (.bipush 48, 2) ∧ decode cX12_areCounts 5 = .ok (.if_icmp .ge 16, 3) := by decide +kernel
theorem eX12_areCounts_8 : decode cX12_areCounts 8 = .ok (.aload_n 0, 1) ∧ decode cX12_areCounts 9 = .ok (.getfield 258, 3) ∧ decode cX12_areCounts 12 = .ok (.iload_n 2, 1) ∧ decode cX12_areCounts 13 = .ok (.iconst 0, 1) ∧ decode cX12_areCounts 14 = .ok (.iastore, 1) ∧ decode cX12_areCounts 15 = .ok (.iinc 2 1, 3) ∧ decode cX12_areCounts 18 = .ok (.goto (-16), 3) ∧ decode cX12_areCounts 21 = .ok (.iconst 0, 1) := by decide +kernel
theorem eX12_areCounts_22 : decode cX12_areCounts 22 = .ok (.istore_n 2, 1) ∧ decode cX12_areCounts 23 = .ok (.iload_n 2, 1) ∧ decode cX12_areCounts 24 = .ok (.bipush 8, 2) ∧ decode cX12_areCounts 26 = .ok (.if_icmp .ge 52, 3) ∧ decode cX12_areCounts 29 = .ok (.aload_n 0, 1) ∧ decode cX12_areCounts 30 = .ok (.getfield 255, 3) ∧ decode cX12_areCounts 33 = .ok (.bipush 8, 2) ∧ decode cX12_areCounts 35 = .ok (.iload_n 1, 1) := by decide +kernel
theorem eX12_areCounts_36 : decode cX12_areCounts 36 = .ok (.imul, 1) ∧ decode cX12_areCounts 37 = .ok (.iload_n 2, 1) ∧ decode cX12_areCounts 38 = .ok (.iadd, 1) ∧ decode cX12_areCounts 39 = .ok (.iaload, 1) ∧ decode cX12_areCounts 40 = .ok (.istore_n 3, 1) ∧ decode cX12_areCounts 41 = .ok (.iload_n 3, 1) ∧ decode cX12_areCounts 42 = .ok (.sipush 254, 3) ∧ decode cX12_areCounts 45 = .ok (.if_icmp .lt 6, 3) := by decide +kernel
theorem eX12_areCounts_48 : decode cX12_areCounts 48 = .ok (.goto 24, 3) ∧ decode cX12_areCounts 51 = .ok (.aload_n 0, 1) ∧ decode cX12_areCounts 52 = .ok (.iload_n 3, 1) ∧ decode cX12_areCounts 53 = .ok (.i2l, 1) ∧ decode cX12_areCounts 54 = .ok (.invokevirtual 616, 3) ∧ decode cX12_areCounts 57 = .ok (.ifCond .ne 5, 3) ∧ decode cX12_areCounts 60 = .ok (.iconst 0, 1) ∧ decode cX12_areCounts 61 = .ok (.ireturn, 1) := by decide +kernel
theorem eX12_areCounts_62 : decode cX12_areCounts 62 = .ok (.aload_n 0, 1) ∧ decode cX12_areCounts 63 = .ok (.getfield 258, 3) ∧ decode cX12_areCounts 66 = .ok (.iload_n 3, 1) ∧ decode cX12_areCounts 67 = .ok (.dup2, 1) ∧ decode cX12_areCounts 68 = .ok (.iaload, 1) ∧ decode cX12_areCounts 69 = .ok (.iconst 1, 1) ∧ decode cX12_areCounts 70 = .ok (.iadd, 1) ∧ decode cX12_areCounts 71 = .ok (.iastore, 1) := by decide +kernel
theorem eX12_areCounts_72 : decode cX12_areCounts 72 = .ok (.iinc 2 1, 3) ∧ decode cX12_areCounts 75 = .ok (.goto (-52), 3) ∧ decode cX12_areCounts 78 = .ok (.iconst 0, 1) ∧ decode cX12_areCounts 79 = .ok (.istore_n 2, 1) ∧ decode cX12_areCounts 80 = .ok (.iload_n 2, 1) ∧ decode cX12_areCounts 81 = .ok (.aload_n 0, 1) ∧ decode cX12_areCounts 82 = .ok (.invokevirtual 429, 3) ∧ decode cX12_areCounts 85 = .ok (.if_icmp .ge 66, 3) := by decide +kernel
theorem eX12_areCounts_88 : decode cX12_areCounts 88 = .ok (.aload_n 0, 1) ∧ decode cX12_areCounts 89 = .ok (.iload_n 2, 1) ∧ decode cX12_areCounts 90 = .ok (.iload_n 1, 1) ∧ decode cX12_areCounts 91 = .ok (.invokevirtual 816, 3) ∧ decode cX12_areCounts 94 = .ok (.ifCond .eq 51, 3) ∧ decode cX12_areCounts 97 = .ok (.aload_n 0, 1) ∧ decode cX12_areCounts 98 = .ok (.iload_n 2, 1) ∧ decode cX12_areCounts 99 = .ok (.iconst 2, 1) := by decide +kernel
theorem eX12_areCounts_100 : decode cX12_areCounts 100 = .ok (.invokevirtual 816, 3) ∧ decode cX12_areCounts 103 = .ok (.ifCond .ne 6, 3) ∧ decode cX12_areCounts 106 = .ok (.goto 39, 3) ∧ decode cX12_areCounts 109 = .ok (.iconst 0, 1) ∧ decode cX12_areCounts 110 = .ok (.istore_n 3, 1) ∧ decode cX12_areCounts 111 = .ok (.iload_n 3, 1) ∧ decode cX12_areCounts 112 = .ok (.aload_n 0, 1) ∧ decode cX12_areCounts 113 = .ok (.iload_n 2, 1) := by decide +kernel
theorem eX12_areCounts_114 : decode cX12_areCounts 114 = .ok (.iconst 3, 1) ∧ decode cX12_areCounts 115 = .ok (.invokevirtual 816, 3) ∧ decode cX12_areCounts 118 = .ok (.if_icmp .ge 27, 3) ∧ decode cX12_areCounts 121 = .ok (.aload_n 0, 1) ∧ decode cX12_areCounts 122 = .ok (.getfield 258, 3) ∧ decode cX12_areCounts 125 = .ok (.aload_n 0, 1) ∧ decode cX12_areCounts 126 = .ok (.iload_n 2, 1) ∧ decode cX12_areCounts 127 = .ok (.bipush 10, 2) := by decide +kernel
theorem eX12_areCounts_129 : decode cX12_areCounts 129 = .ok (.iload_n 3, 1) ∧ decode cX12_areCounts 130 = .ok (.iadd, 1) ∧ decode cX12_areCounts 131 = .ok (.invokevirtual 816, 3) ∧ decode cX12_areCounts 134 = .ok (.dup2, 1) ∧ decode cX12_areCounts 135 = .ok (.iaload, 1) ∧ decode cX12_areCounts 136 = .ok (.iconst 1, 1) ∧ decode cX12_areCounts 137 = .ok (.iadd, 1) ∧ decode cX12_areCounts 138 = .ok (.iastore, 1) := by decide +kernel
theorem eX12_areCounts_139 : decode cX12_areCounts 139 = .ok (.iinc 3 1, 3) ∧ decode cX12_areCounts 142 = .ok (.goto (-31), 3) ∧ decode cX12_areCounts 145 = .ok (.iinc 2 1, 3) ∧ decode cX12_areCounts 148 = .ok (.goto (-68), 3) ∧ decode cX12_areCounts 151 = .ok (.iconst 0, 1) ∧ decode cX12_areCounts 152 = .ok (.istore_n 2, 1) ∧ decode cX12_areCounts 153 = .ok (.iload_n 2, 1) ∧ decode cX12_areCounts 154 = .ok (.aload_n 0, 1) := by decide +kernel
theorem eX12_areCounts_155 : decode cX12_areCounts 155 = .ok (.invokevirtual 429, 3) ∧ decode cX12_areCounts 158 = .ok (.if_icmp .ge 26, 3) ∧ decode cX12_areCounts 161 = .ok (.aload_n 0, 1) ∧ decode cX12_areCounts 162 = .ok (.getfield 258, 3) ∧ decode cX12_areCounts 165 = .ok (.iload_n 2, 1) ∧ decode cX12_areCounts 166 = .ok (.iaload, 1) ∧ decode cX12_areCounts 167 = .ok (.aload_n 0, 1) ∧ decode cX12_areCounts 168 = .ok (.iload_n 2, 1) := by decide +kernel
theorem eX12_areCounts_169 : decode cX12_areCounts 169 = .ok (.iload_n 1, 1) ∧ decode cX12_areCounts 170 = .ok (.invokevirtual 816, 3) ∧ decode cX12_areCounts 173 = .ok (.if_icmp .eq 5, 3) ∧ decode cX12_areCounts 176 = .ok (.iconst 0, 1) ∧ decode cX12_areCounts 177 = .ok (.ireturn, 1) ∧ decode cX12_areCounts 178 = .ok (.iinc 2 1, 3) ∧ decode cX12_areCounts 181 = .ok (.goto (-28), 3) ∧ decode cX12_areCounts 184 = .ok (.iconst 1, 1) := by decide +kernel
theorem eX12_areCounts_185 : decode cX12_areCounts 185 = .ok (.ireturn, 1) ∧ decode cX12_areKeys 0 = .ok (.aload_n 0, 1) ∧ decode cX12_areKeys 1 = .ok (.iload_n 1, 1) ∧ decode cX12_areKeys 2 = .ok (.iconst 3, 1) ∧ decode cX12_areKeys 3 = .ok (.invokevirtual 816, 3) ∧ decode cX12_areKeys 6 = .ok (.istore_n 2, 1) ∧ decode cX12_areKeys 7 = .ok (.iconst 0, 1) ∧ decode cX12_areKeys 8 = .ok (.istore_n 3, 1) := by decide +kernel
theorem eX12_areKeys_9 : decode cX12_areKeys 9 = .ok (.iload_n 3, 1) ∧ decode cX12_areKeys 10 = .ok (.iload_n 2, 1) ∧ decode cX12_areKeys 11 = .ok (.if_icmp .ge 75, 3) ∧ decode cX12_areKeys 14 = .ok (.aload_n 0, 1) ∧ decode cX12_areKeys 15 = .ok (.iload_n 1, 1) ∧ decode cX12_areKeys 16 = .ok (.iconst 2, 1) ∧ decode cX12_areKeys 17 = .ok (.invokevirtual 816, 3) ∧ decode cX12_areKeys 20 = .ok (.ifCond .le 66, 3) := by decide +kernel
theorem eX12_areKeys_23 : decode cX12_areKeys 23 = .ok (.aload_n 0, 1) ∧ decode cX12_areKeys 24 = .ok (.aload_n 0, 1) ∧ decode cX12_areKeys 25 = .ok (.iload_n 1, 1) ∧ decode cX12_areKeys 26 = .ok (.bipush 10, 2) ∧ decode cX12_areKeys 28 = .ok (.iload_n 3, 1) ∧ decode cX12_areKeys 29 = .ok (.iadd, 1) ∧ decode cX12_areKeys 30 = .ok (.invokevirtual 816, 3) ∧ decode cX12_areKeys 33 = .ok (.iload_n 3, 1) := by decide +kernel
theorem eX12_areKeys_34 : decode cX12_areKeys 34 = .ok (.ifCond .ne 7, 3) ∧ decode cX12_areKeys 37 = .ok (.iconst 0, 1) ∧ decode cX12_areKeys 38 = .ok (.goto 11, 3) ∧ decode cX12_areKeys 41 = .ok (.aload_n 0, 1) ∧ decode cX12_areKeys 42 = .ok (.iload_n 1, 1) ∧ decode cX12_areKeys 43 = .ok (.iconst 4, 1) ∧ decode cX12_areKeys 44 = .ok (.iload_n 3, 1) ∧ decode cX12_areKeys 45 = .ok (.iadd, 1) := by decide +kernel
theorem eX12_areKeys_46 : decode cX12_areKeys 46 = .ok (.invokevirtual 816, 3) ∧ decode cX12_areKeys 49 = .ok (.iload_n 3, 1) ∧ decode cX12_areKeys 50 = .ok (.iconst 1, 1) ∧ decode cX12_areKeys 51 = .ok (.iadd, 1) ∧ decode cX12_areKeys 52 = .ok (.iload_n 2, 1) ∧ decode cX12_areKeys 53 = .ok (.if_icmp .ge 16, 3) ∧ decode cX12_areKeys 56 = .ok (.aload_n 0, 1) ∧ decode cX12_areKeys 57 = .ok (.iload_n 1, 1) := by decide +kernel
theorem eX12_areKeys_58 : decode cX12_areKeys 58 = .ok (.iconst 5, 1) ∧ decode cX12_areKeys 59 = .ok (.iload_n 3, 1) ∧ decode cX12_areKeys 60 = .ok (.iadd, 1) ∧ decode cX12_areKeys 61 = .ok (.invokevirtual 816, 3) ∧ decode cX12_areKeys 64 = .ok (.iconst 1, 1) ∧ decode cX12_areKeys 65 = .ok (.isub, 1) ∧ decode cX12_areKeys 66 = .ok (.goto 6, 3) ∧ decode cX12_areKeys 69 = .ok (.sipush 999, 3) := by decide +kernel
theorem eX12_areKeys_72 : decode cX12_areKeys 72 = .ok (.invokevirtual 819, 3) ∧ decode cX12_areKeys 75 = .ok (.ifCond .ne 5, 3) ∧ decode cX12_areKeys 78 = .ok (.iconst 0, 1) ∧ decode cX12_areKeys 79 = .ok (.ireturn, 1) ∧ decode cX12_areKeys 80 = .ok (.iinc 3 1, 3) ∧ decode cX12_areKeys 83 = .ok (.goto (-74), 3) ∧ decode cX12_areKeys 86 = .ok (.iconst 1, 1) ∧ decode cX12_areKeys 87 = .ok (.ireturn, 1) := by decide +kernel
theorem eX12_areValues_0 : decode cX12_areValues 0 = .ok (.iconst 0, 1) ∧ decode cX12_areValues 1 = .ok (.istore_n 2, 1) ∧ decode cX12_areValues 2 = .ok (.iload_n 2, 1) ∧ decode cX12_areValues 3 = .ok (.aload_n 0, 1) ∧ decode cX12_areValues 4 = .ok (.iload_n 1, 1) ∧ decode cX12_areValues 5 = .ok (.iconst 3, 1) ∧ decode cX12_areValues 6 = .ok (.invokevirtual 816, 3) ∧ decode cX12_areValues 9 = .ok (.if_icmp .ge 87, 3) := by decide +kernel
theorem eX12_areValues_12 : decode cX12_areValues 12 = .ok (.aload_n 0, 1) ∧ decode cX12_areValues 13 = .ok (.iload_n 1, 1) ∧ decode cX12_areValues 14 = .ok (.bipush 10, 2) ∧ decode cX12_areValues 16 = .ok (.iload_n 2, 1) ∧ decode cX12_areValues 17 = .ok (.iadd, 1) ∧ decode cX12_areValues 18 = .ok (.invokevirtual 816, 3) ∧ decode cX12_areValues 21 = .ok (.istore_n 3, 1) ∧ decode cX12_areValues 22 = .ok (.aload_n 0, 1) := by decide +kernel
theorem eX12_areValues_23 : decode cX12_areValues 23 = .ok (.iload_n 1, 1) ∧ decode cX12_areValues 24 = .ok (.iconst 2, 1) ∧ decode cX12_areValues 25 = .ok (.invokevirtual 816, 3) ∧ decode cX12_areValues 28 = .ok (.ifCond .ne 18, 3) ∧ decode cX12_areValues 31 = .ok (.iload_n 3, 1) ∧ decode cX12_areValues 32 = .ok (.i2l, 1) ∧ decode cX12_areValues 33 = .ok (.lconst 0, 1) ∧ decode cX12_areValues 34 = .ok (.ldc2_w 624, 3) := by decide +kernel
theorem eX12_areValues_37 : decode cX12_areValues 37 = .ok (.invokestatic 309, 3) ∧ decode cX12_areValues 40 = .ok (.ifCond .ne 50, 3) ∧ decode cX12_areValues 43 = .ok (.goto 45, 3) ∧ decode cX12_areValues 46 = .ok (.aload_n 0, 1) ∧ decode cX12_areValues 47 = .ok (.iload_n 3, 1) ∧ decode cX12_areValues 48 = .ok (.i2l, 1) ∧ decode cX12_areValues 49 = .ok (.invokevirtual 616, 3) ∧ decode cX12_areValues 52 = .ok (.ifCond .eq 36, 3) := by decide +kernel
theorem eX12_areValues_55 : decode cX12_areValues 55 = .ok (.aload_n 0, 1) ∧ decode cX12_areValues 56 = .ok (.iload_n 3, 1) ∧ decode cX12_areValues 57 = .ok (.iconst 0, 1) ∧ decode cX12_areValues 58 = .ok (.invokevirtual 816, 3) ∧ decode cX12_areValues 61 = .ok (.aload_n 0, 1) ∧ decode cX12_areValues 62 = .ok (.iload_n 3, 1) ∧ decode cX12_areValues 63 = .ok (.iconst 1, 1) ∧ decode cX12_areValues 64 = .ok (.invokevirtual 816, 3) := by decide +kernel
theorem eX12_areValues_67 : decode cX12_areValues 67 = .ok (.iadd, 1) ∧ decode cX12_areValues 68 = .ok (.ifCond .eq 20, 3) ∧ decode cX12_areValues 71 = .ok (.aload_n 0, 1) ∧ decode cX12_areValues 72 = .ok (.iload_n 3, 1) ∧ decode cX12_areValues 73 = .ok (.iconst 2, 1) ∧ decode cX12_areValues 74 = .ok (.invokevirtual 816, 3) ∧ decode cX12_areValues 77 = .ok (.aload_n 0, 1) ∧ decode cX12_areValues 78 = .ok (.iload_n 1, 1) := by decide +kernel
theorem eX12_areValues_79 : decode cX12_areValues 79 = .ok (.iconst 2, 1) ∧ decode cX12_areValues 80 = .ok (.invokevirtual 816, 3) ∧ decode cX12_areValues 83 = .ok (.iconst 1, 1) ∧ decode cX12_areValues 84 = .ok (.isub, 1) ∧ decode cX12_areValues 85 = .ok (.if_icmp .eq 5, 3) ∧ decode cX12_areValues 88 = .ok (.iconst 0, 1) ∧ decode cX12_areValues 89 = .ok (.ireturn, 1) ∧ decode cX12_areValues 90 = .ok (.iinc 2 1, 3) := by decide +kernel
theorem eX12_areValues_93 : decode cX12_areValues 93 = .ok (.goto (-91), 3) ∧ decode cX12_areValues 96 = .ok (.iconst 1, 1) ∧ decode cX12_areValues 97 = .ok (.ireturn, 1) ∧ decode cX12_isImage 0 = .ok (.aload_n 0, 1) ∧ decode cX12_isImage 1 = .ok (.getfield 406, 3) ∧ decode cX12_isImage 4 = .ok (.ifCond .eq 40, 3) ∧ decode cX12_isImage 7 = .ok (.iload_n 1, 1) ∧ decode cX12_isImage 8 = .ok (.bipush 20, 2) := by decide +kernel
theorem eX12_isImage_10 : decode cX12_isImage 10 = .ok (.if_icmp .lt 34, 3) ∧ decode cX12_isImage 13 = .ok (.aload_n 0, 1) ∧ decode cX12_isImage 14 = .ok (.getfield 7, 3) ∧ decode cX12_isImage 17 = .ok (.iload_n 1, 1) ∧ decode cX12_isImage 18 = .ok (.iconst 1, 1) ∧ decode cX12_isImage 19 = .ok (.isub, 1) ∧ decode cX12_isImage 20 = .ok (.iaload, 1) ∧ decode cX12_isImage 21 = .ok (.aload_n 0, 1) := by decide +kernel
theorem eX12_isImage_22 : decode cX12_isImage 22 = .ok (.getfield 7, 3) ∧ decode cX12_isImage 25 = .ok (.iload_n 1, 1) ∧ decode cX12_isImage 26 = .ok (.iconst 1, 1) ∧ decode cX12_isImage 27 = .ok (.isub, 1) ∧ decode cX12_isImage 28 = .ok (.invokestatic 799, 3) ∧ decode cX12_isImage 31 = .ok (.if_icmp .ne 13, 3) ∧ decode cX12_isImage 34 = .ok (.aload_n 0, 1) ∧ decode cX12_isImage 35 = .ok (.iload_n 1, 1) := by decide +kernel
theorem eX12_isImage_36 : decode cX12_isImage 36 = .ok (.iconst 1, 1) ∧ decode cX12_isImage 37 = .ok (.isub, 1) ∧ decode cX12_isImage 38 = .ok (.invokevirtual 823, 3) ∧ decode cX12_isImage 41 = .ok (.ifCond .ne 5, 3) ∧ decode cX12_isImage 44 = .ok (.iconst 0, 1) ∧ decode cX12_isImage 45 = .ok (.ireturn, 1) ∧ decode cX12_isImage 46 = .ok (.iconst 0, 1) ∧ decode cX12_isImage 47 = .ok (.istore_n 2, 1) := by decide +kernel
theorem eX12_isImage_48 : decode cX12_isImage 48 = .ok (.iload_n 2, 1) ∧ decode cX12_isImage 49 = .ok (.aload_n 0, 1) ∧ decode cX12_isImage 50 = .ok (.invokevirtual 429, 3) ∧ decode cX12_isImage 53 = .ok (.if_icmp .ge 19, 3) ∧ decode cX12_isImage 56 = .ok (.aload_n 0, 1) ∧ decode cX12_isImage 57 = .ok (.iload_n 2, 1) ∧ decode cX12_isImage 58 = .ok (.invokevirtual 826, 3) ∧ decode cX12_isImage 61 = .ok (.ifCond .ne 5, 3) := by decide +kernel
theorem eX12_isImage_64 : decode cX12_isImage 64 = .ok (.iconst 0, 1) ∧ decode cX12_isImage 65 = .ok (.ireturn, 1) ∧ decode cX12_isImage 66 = .ok (.iinc 2 1, 3) ∧ decode cX12_isImage 69 = .ok (.goto (-21), 3) ∧ decode cX12_isImage 72 = .ok (.aload_n 0, 1) ∧ decode cX12_isImage 73 = .ok (.iconst 0, 1) ∧ decode cX12_isImage 74 = .ok (.invokevirtual 829, 3) ∧ decode cX12_isImage 77 = .ok (.ifCond .eq 11, 3) := by decide +kernel
theorem eX12_isImage_80 : decode cX12_isImage 80 = .ok (.aload_n 0, 1) ∧ decode cX12_isImage 81 = .ok (.iconst 1, 1) ∧ decode cX12_isImage 82 = .ok (.invokevirtual 829, 3) ∧ decode cX12_isImage 85 = .ok (.ifCond .ne 5, 3) ∧ decode cX12_isImage 88 = .ok (.iconst 0, 1) ∧ decode cX12_isImage 89 = .ok (.ireturn, 1) ∧ decode cX12_isImage 90 = .ok (.iconst 1, 1) ∧ decode cX12_isImage 91 = .ok (.istore_n 2, 1) := by decide +kernel
theorem eX12_isImage_92 : decode cX12_isImage 92 = .ok (.iload_n 2, 1) ∧ decode cX12_isImage 93 = .ok (.sipush 256, 3) ∧ decode cX12_isImage 96 = .ok (.if_icmp .ge 45, 3) ∧ decode cX12_isImage 99 = .ok (.iconst 0, 1) ∧ decode cX12_isImage 100 = .ok (.istore_n 3, 1) ∧ decode cX12_isImage 101 = .ok (.iload_n 3, 1) ∧ decode cX12_isImage 102 = .ok (.aload_n 0, 1) ∧ decode cX12_isImage 103 = .ok (.invokevirtual 429, 3) := by decide +kernel
theorem eX12_isImage_106 : decode cX12_isImage 106 = .ok (.if_icmp .ge 29, 3) ∧ decode cX12_isImage 109 = .ok (.aload_n 0, 1) ∧ decode cX12_isImage 110 = .ok (.iload_n 3, 1) ∧ decode cX12_isImage 111 = .ok (.iconst 2, 1) ∧ decode cX12_isImage 112 = .ok (.invokevirtual 816, 3) ∧ decode cX12_isImage 115 = .ok (.iload_n 2, 1) ∧ decode cX12_isImage 116 = .ok (.if_icmp .ne 13, 3) ∧ decode cX12_isImage 119 = .ok (.aload_n 0, 1) := by decide +kernel
theorem eX12_isImage_120 : decode cX12_isImage 120 = .ok (.iload_n 3, 1) ∧ decode cX12_isImage 121 = .ok (.invokevirtual 832, 3) ∧ decode cX12_isImage 124 = .ok (.ifCond .ne 5, 3) ∧ decode cX12_isImage 127 = .ok (.iconst 0, 1) ∧ decode cX12_isImage 128 = .ok (.ireturn, 1) ∧ decode cX12_isImage 129 = .ok (.iinc 3 1, 3) ∧ decode cX12_isImage 132 = .ok (.goto (-31), 3) ∧ decode cX12_isImage 135 = .ok (.iinc 2 1, 3) := by decide +kernel
theorem eX12_isImage_138 : decode cX12_isImage 138 = .ok (.goto (-46), 3) ∧ decode cX12_isImage 141 = .ok (.iconst 1, 1) ∧ decode cX12_isImage 142 = .ok (.ireturn, 1) ∧ decode cX12_on 0 = .ok (.aload_n 0, 1) ∧ decode cX12_on 1 = .ok (.getfield 263, 3) ∧ decode cX12_on 4 = .ok (.istore_n 1, 1) ∧ decode cX12_on 5 = .ok (.aload_n 0, 1) ∧ decode cX12_on 6 = .ok (.iconst 0, 1) := by decide +kernel
theorem eX12_on_7 : decode cX12_on 7 = .ok (.putfield 263, 3) ∧ decode cX12_on 10 = .ok (.aload_n 0, 1) ∧ decode cX12_on 11 = .ok (.iload_n 1, 1) ∧ decode cX12_on 12 = .ok (.invokevirtual 835, 3) ∧ decode cX12_on 15 = .ok (.ifCond .ne 9, 3) ∧ decode cX12_on 18 = .ok (.aload_n 0, 1) ∧ decode cX12_on 19 = .ok (.iconst 5, 1) ∧ decode cX12_on 20 = .ok (.invokevirtual 671, 3) := by decide +kernel
theorem eX12_on_23 : decode cX12_on 23 = .ok (.ireturn, 1) ∧ decode cX12_on 24 = .ok (.iconst 0, 1) ∧ decode cX12_on 25 = .ok (.istore_n 2, 1) ∧ decode cX12_on 26 = .ok (.iload_n 2, 1) ∧ decode cX12_on 27 = .ok (.sipush 785, 3) ∧ decode cX12_on 30 = .ok (.if_icmp .ge 21, 3) ∧ decode cX12_on 33 = .ok (.aload_n 0, 1) ∧ decode cX12_on 34 = .ok (.getfield 121, 3) := by decide +kernel
theorem eX12_on_37 : decode cX12_on 37 = .ok (.iload_n 2, 1) ∧ decode cX12_on 38 = .ok (.aload_n 0, 1) ∧ decode cX12_on 39 = .ok (.getfield 255, 3) ∧ decode cX12_on 42 = .ok (.iload_n 2, 1) ∧ decode cX12_on 43 = .ok (.iaload, 1) ∧ decode cX12_on 44 = .ok (.iastore, 1) ∧ decode cX12_on 45 = .ok (.iinc 2 1, 3) ∧ decode cX12_on 48 = .ok (.goto (-22), 3) := by decide +kernel
theorem eX12_on_51 : decode cX12_on 51 = .ok (.aload_n 0, 1) ∧ decode cX12_on 52 = .ok (.getfield 121, 3) ∧ decode cX12_on 55 = .ok (.sipush 785, 3) ∧ decode cX12_on 58 = .ok (.iconst 0, 1) ∧ decode cX12_on 59 = .ok (.iastore, 1) ∧ decode cX12_on 60 = .ok (.aload_n 0, 1) ∧ decode cX12_on 61 = .ok (.iconst 0, 1) ∧ decode cX12_on 62 = .ok (.putfield 416, 3) := by decide +kernel
theorem eX12_on_65 : decode cX12_on 65 = .ok (.iconst 1, 1) ∧ decode cX12_on 66 = .ok (.ireturn, 1) := by decide +kernel
set_option maxHeartbeats 4000000 in
set_option maxRecDepth 100000 in
theorem k_x12_areValues (l : Launch) (D : va_G) (a : Nat → Nat) (p0 : Int) (s : MS) (o : Int) (h : m_x12_areValues p0 s = some o) : yRi l yX12_areValues cX12_areValues 4 (some .boolean) { frames := 2, cells := 0, slots := 0, locals := 120 } D [.ref (a 200), .int (i2 p0)] (RW D a s) (i2 o) := by
  refine Met.ofW (cc := cX12_areValues) (maxL := 4) (ret := (some .boolean)) (by decide) rfl ?_
  intro p e s₀ m args below meth c s₁ B hml hv
  obtain ⟨rfl, ⟨hP, hK⟩, hN⟩ := hv
  have hx := B.exec
  have hb := B.bytes
  have hr := B.returns
  have hts := atoms_spec (ws := wz yX12_areValues cX12_areValues 4 (some .boolean)) B.pre
  have ht : ∀ w ∈ lw_gd, w.before _ s₀ = true := fun w h => hts w (List.mem_cons_of_mem _ h)
  have hown : s₀.vm.findClass RX12 = some m.cls := findClass_of_methodNamed B.named
  have hlocks := B.notSynchronized
  have hS : va_S (fun _ => False) s₀.heap s₀.heap [] := va_S.rf
  have hl := lv_entry ([.ref (a 200), .int (i2 p0)]) (n := 4) (Nat.le_of_ble_eq_true rfl)
  rw [lg_entry_eq]
  generalize (lg_sl ([.ref (a 200), .int (i2 p0)]) ++ List.replicate (4 - (lg_sl ([.ref (a 200), .int (i2 p0)])).length) Slot.unset).toArray = ls at hl ⊢
  have hl : lv_has ls 4 [(0, .ref (a 200)), (1, .int (i2 p0))] := hl
  unfold m_x12_areValues at h
  refine y_head (pcJ := 88) (σ := Unit) (fun u H locs ls => va_P D vwCl (RW D a s) H ∧ va_S (fun _ => False) s₀.heap H locs ∧ lv_has ls 4 [] ∧ m_x12_areValues_J88 s u = some o) (fun u => []) (fun u H locs ls hI => ?_) (fun J88 => ?_)
  · obtain ⟨hP, hS, hl, h⟩ := hI
    skip
    have hP : va_P D vwCl (RW D a s) H := hP
    have hl : lv_has ls 4 [] := hl
    have h : m_x12_areValues_J88 s () = some o := h
    unfold m_x12_areValues_J88 at h
    refine lv_iconst (v := 0) hx hb eX12_areValues_79.2.2.2.2.2.1 (by decide) ?_
    obtain rfl := Option.some.inj h
    exact W.zret (v := 0) hx hb hr (by decide) (fun t ht hW => ⟨⟨_, (), rfl, rfl, trivial⟩, hS.F ht⟩) hS.2.2 eX12_areValues_79.2.2.2.2.2.2.1
  refine y_loop (pcJ := 2) (σ := Int × Int) (fun n u H locs ls => va_P D vwCl (RW D a s) H ∧ va_S (fun _ => False) s₀.heap H locs ∧ lv_has ls 4 [(0, .ref (a 200)), (1, .int (i2 u.1)), (2, .int (i2 u.2))] ∧ m_x12_areValues_L2 s n u.1 u.2 = some o) (fun u => []) (fun u H locs ls hI => by obtain ⟨_, _, _, h⟩ := hI; cases h) (fun n2 ih2 u H locs ls hI => ?_) (fun J2 => ?_)
  · obtain ⟨hP, hS, hl, h⟩ := hI
    obtain ⟨x1, x2⟩ := u
    have hP : va_P D vwCl (RW D a s) H := hP
    have hl : lv_has ls 4 [(0, .ref (a 200)), (1, .int (i2 x1)), (2, .int (i2 x2))] := hl
    have h : m_x12_areValues_b2 s (m_x12_areValues_L2 s n2) x1 x2 = some o := h
    unfold m_x12_areValues_b2 at h
    refine y_head (pcJ := 90) (σ := Int × Int) (fun u H locs ls => va_P D vwCl (RW D a s) H ∧ va_S (fun _ => False) s₀.heap H locs ∧ lv_has ls 4 [(0, .ref (a 200)), (1, .int (i2 u.1)), (2, .int (i2 u.2))] ∧ m_x12_areValues_J90 s (m_x12_areValues_L2 s n2) u.1 u.2 = some o) (fun u => []) (fun u H locs ls hI => ?_) (fun J90 => ?_)
    · obtain ⟨hP, hS, hl, h⟩ := hI
      obtain ⟨x3, x4⟩ := u
      have hP : va_P D vwCl (RW D a s) H := hP
      have hl : lv_has ls 4 [(0, .ref (a 200)), (1, .int (i2 x3)), (2, .int (i2 x4))] := hl
      have h : m_x12_areValues_J90 s (m_x12_areValues_L2 s n2) x3 x4 = some o := h
      unfold m_x12_areValues_J90 at h
      refine lv_iinc (v := i2 (x4 + 1)) (lv' := [(2, .int (i2 (x4 + 1))), (0, .ref (a 200)), (1, .int (i2 x3))]) hx hb eX12_areValues_79.2.2.2.2.2.2.2 hl (k := 2) rfl (i2_add x4 1) (by decide) rfl (fun ls hl => ?_)
      refine lv_goto (tgt := 2) hx hb eX12_areValues_93.1 (by decide) ?_
      exact ih2 (x3, x4 + 1) _ _ _ ⟨hP, hS, lv_sub hl [1, 2, 0] rfl, h⟩
    refine lv_iload_n hx hb eX12_areValues_0.2.2.1 rfl (lv_at hl 2 rfl) ?_
    refine lv_aload_n hx hb eX12_areValues_0.2.2.2.1 rfl (lv_at hl 0 rfl) ?_
    refine lv_iload_n hx hb eX12_areValues_0.2.2.2.2.1 rfl (lv_at hl 1 rfl) ?_
    refine lv_iconst (v := 3) hx hb eX12_areValues_0.2.2.2.2.2.1 (by decide) ?_
    obtain ⟨r6, hc5, h⟩ := bn_e h
    refine ycV (r0 := i2 r6) (As := [.int (i2 x1), .int 3]) (rest := [.int (i2 x2)]) (C := RX12) (n := 2) ⟨hx, hb, hml, hown, ht⟩ (k_x12_laidOf l D a x1 3 _ _ hc5) (zgV ml_X12_816 im_X12_laidOf se_X12_laidOf in_X12 co_X12_laidOf) rfl rfl (by decide +kernel) ⟨Nat.le_of_ble_eq_true rfl, Nat.le_of_ble_eq_true rfl⟩ hN hK hP hS 0 RW_0 rfl rfl rfl hl.1 rfl (Nat.le_of_ble_eq_true rfl) eX12_areValues_0.2.2.2.2.2.2.1 ⟨Nat.le_of_ble_eq_true rfl, Nat.le_of_ble_eq_true rfl⟩ (fun H locs hP hS => ?_)
    obtain ⟨hr7, h⟩ := rg_e h
    obtain ⟨hr8, h⟩ := rg_e h
    refine lv_icmp_ge (tgt := 96) hx hb eX12_areValues_0.2.2.2.2.2.2.2 (by decide) (fun c9 => ?_) (fun c9 => ?_)
    · have h := if_t ((i2_le (x := r6) (y := x2) hr8 hr7).mp c9) h
      refine lv_iconst (v := 1) hx hb eX12_areValues_93.2.1 (by decide) ?_
      obtain rfl := Option.some.inj h
      exact W.zret (v := 1) hx hb hr (by decide) (fun t ht hW => ⟨⟨_, (), rfl, rfl, trivial⟩, hS.F ht⟩) hS.2.2 eX12_areValues_93.2.2.1
    · have h := if_f (mt (i2_le (x := r6) (y := x2) hr8 hr7).mpr c9) h
      refine lv_aload_n hx hb eX12_areValues_12.1 rfl (lv_at hl 0 rfl) ?_
      refine lv_iload_n hx hb eX12_areValues_12.2.1 rfl (lv_at hl 1 rfl) ?_
      refine lv_bipush (v := 10) hx hb eX12_areValues_12.2.2.1 (by decide) ?_
      refine lv_iload_n hx hb eX12_areValues_12.2.2.2.1 rfl (lv_at hl 2 rfl) ?_
      refine lv_iadd hx hb eX12_areValues_12.2.2.2.2.1 ?_
      refine z_topi (y := i2 (10 + x2)) (i2_add 10 x2) ?_
      obtain ⟨r11, hc10, h⟩ := bn_e h
      refine ycV (r0 := i2 r11) (As := [.int (i2 x1), .int (i2 (10 + x2))]) (rest := []) (C := RX12) (n := 2) ⟨hx, hb, hml, hown, ht⟩ (k_x12_laidOf l D a x1 (10 + x2) _ _ hc10) (zgV ml_X12_816 im_X12_laidOf se_X12_laidOf in_X12 co_X12_laidOf) rfl rfl (by decide +kernel) ⟨Nat.le_of_ble_eq_true rfl, Nat.le_of_ble_eq_true rfl⟩ hN hK hP hS 0 RW_0 rfl rfl rfl hl.1 rfl (Nat.le_of_ble_eq_true rfl) eX12_areValues_12.2.2.2.2.2.1 ⟨Nat.le_of_ble_eq_true rfl, Nat.le_of_ble_eq_true rfl⟩ (fun H locs hP hS => ?_)
      refine lv_istore_n (lv' := [(3, .int (i2 r11)), (0, .ref (a 200)), (1, .int (i2 x1)), (2, .int (i2 x2))]) hx hb eX12_areValues_12.2.2.2.2.2.2.1 rfl hl (by decide) rfl (fun ls hl => ?_)
      refine lv_aload_n hx hb eX12_areValues_12.2.2.2.2.2.2.2 rfl (lv_at hl 1 rfl) ?_
      refine lv_iload_n hx hb eX12_areValues_23.1 rfl (lv_at hl 2 rfl) ?_
      refine lv_iconst (v := 2) hx hb eX12_areValues_23.2.1 (by decide) ?_
      obtain ⟨r13, hc12, h⟩ := bn_e h
      refine ycV (r0 := i2 r13) (As := [.int (i2 x1), .int 2]) (rest := []) (C := RX12) (n := 2) ⟨hx, hb, hml, hown, ht⟩ (k_x12_laidOf l D a x1 2 _ _ hc12) (zgV ml_X12_816 im_X12_laidOf se_X12_laidOf in_X12 co_X12_laidOf) rfl rfl (by decide +kernel) ⟨Nat.le_of_ble_eq_true rfl, Nat.le_of_ble_eq_true rfl⟩ hN hK hP hS 0 RW_0 rfl rfl rfl hl.1 rfl (Nat.le_of_ble_eq_true rfl) eX12_areValues_23.2.2.1 ⟨Nat.le_of_ble_eq_true rfl, Nat.le_of_ble_eq_true rfl⟩ (fun H locs hP hS => ?_)
      obtain ⟨hr14, h⟩ := rg_e h
      refine lv_if_ne (tgt := 46) hx hb eX12_areValues_23.2.2.2.1 (by decide) (fun c15 => ?_) (fun c15 => ?_)
      · have h := if_f (mt (i2_eq (x := r13) (y := 0) hr14 (by decide)).mpr c15) h
        refine lv_aload_n hx hb eX12_areValues_37.2.2.2.1 rfl (lv_at hl 1 rfl) ?_
        refine lv_iload_n hx hb eX12_areValues_37.2.2.2.2.1 rfl (lv_at hl 0 rfl) ?_
        obtain ⟨hr16, h⟩ := rg_e h
        refine lv_i2l (v := i8 r11) hx hb eX12_areValues_37.2.2.2.2.2.1 (i2_l hr16) ?_
        obtain ⟨r18, hc17, h⟩ := bn_e h
        refine ycV (r0 := i2 r18) (As := [.long (i8 r11)]) (rest := []) (C := RX12) (n := 1) ⟨hx, hb, hml, hown, ht⟩ (k_x12_isBlock l D a r11 _ _ hc17) (zgV ml_X12_616 im_X12_isBlock se_X12_isBlock in_X12 co_X12_isBlock) rfl rfl (by decide +kernel) ⟨Nat.le_of_ble_eq_true rfl, Nat.le_of_ble_eq_true rfl⟩ hN hK hP hS 0 RW_0 rfl rfl rfl hl.1 rfl (Nat.le_of_ble_eq_true rfl) eX12_areValues_37.2.2.2.2.2.2.1 ⟨Nat.le_of_ble_eq_true rfl, Nat.le_of_ble_eq_true rfl⟩ (fun H locs hP hS => ?_)
        obtain ⟨hr19, h⟩ := rg_e h
        refine lv_if_eq (tgt := 88) hx hb eX12_areValues_37.2.2.2.2.2.2.2 (by decide) (fun c20 => ?_) (fun c20 => ?_)
        · have h := if_t ((i2_eq (x := r18) (y := 0) hr19 (by decide)).mp c20) h
          exact J88 () _ _ _ ⟨hP, hS, lv_sub hl [] rfl, h⟩
        · have h := if_f (mt (i2_eq (x := r18) (y := 0) hr19 (by decide)).mpr c20) h
          refine lv_aload_n hx hb eX12_areValues_55.1 rfl (lv_at hl 1 rfl) ?_
          refine lv_iload_n hx hb eX12_areValues_55.2.1 rfl (lv_at hl 0 rfl) ?_
          refine lv_iconst (v := 0) hx hb eX12_areValues_55.2.2.1 (by decide) ?_
          obtain ⟨r22, hc21, h⟩ := bn_e h
          refine ycV (r0 := i2 r22) (As := [.int (i2 r11), .int 0]) (rest := []) (C := RX12) (n := 2) ⟨hx, hb, hml, hown, ht⟩ (k_x12_laidOf l D a r11 0 _ _ hc21) (zgV ml_X12_816 im_X12_laidOf se_X12_laidOf in_X12 co_X12_laidOf) rfl rfl (by decide +kernel) ⟨Nat.le_of_ble_eq_true rfl, Nat.le_of_ble_eq_true rfl⟩ hN hK hP hS 0 RW_0 rfl rfl rfl hl.1 rfl (Nat.le_of_ble_eq_true rfl) eX12_areValues_55.2.2.2.1 ⟨Nat.le_of_ble_eq_true rfl, Nat.le_of_ble_eq_true rfl⟩ (fun H locs hP hS => ?_)
          refine lv_aload_n hx hb eX12_areValues_55.2.2.2.2.1 rfl (lv_at hl 1 rfl) ?_
          refine lv_iload_n hx hb eX12_areValues_55.2.2.2.2.2.1 rfl (lv_at hl 0 rfl) ?_
          refine lv_iconst (v := 1) hx hb eX12_areValues_55.2.2.2.2.2.2.1 (by decide) ?_
          obtain ⟨r24, hc23, h⟩ := bn_e h
          refine ycV (r0 := i2 r24) (As := [.int (i2 r11), .int 1]) (rest := [.int (i2 r22)]) (C := RX12) (n := 2) ⟨hx, hb, hml, hown, ht⟩ (k_x12_laidOf l D a r11 1 _ _ hc23) (zgV ml_X12_816 im_X12_laidOf se_X12_laidOf in_X12 co_X12_laidOf) rfl rfl (by decide +kernel) ⟨Nat.le_of_ble_eq_true rfl, Nat.le_of_ble_eq_true rfl⟩ hN hK hP hS 0 RW_0 rfl rfl rfl hl.1 rfl (Nat.le_of_ble_eq_true rfl) eX12_areValues_55.2.2.2.2.2.2.2 ⟨Nat.le_of_ble_eq_true rfl, Nat.le_of_ble_eq_true rfl⟩ (fun H locs hP hS => ?_)
          refine lv_iadd hx hb eX12_areValues_67.1 ?_
          refine z_topi (y := i2 (r22 + r24)) (i2_add r22 r24) ?_
          obtain ⟨hr25, h⟩ := rg_e h
          refine lv_if_eq (tgt := 88) hx hb eX12_areValues_67.2.1 (by decide) (fun c26 => ?_) (fun c26 => ?_)
          · have h := if_t ((i2_eq (x := (r22 + r24)) (y := 0) hr25 (by decide)).mp c26) h
            exact J88 () _ _ _ ⟨hP, hS, lv_sub hl [] rfl, h⟩
          · have h := if_f (mt (i2_eq (x := (r22 + r24)) (y := 0) hr25 (by decide)).mpr c26) h
            refine lv_aload_n hx hb eX12_areValues_67.2.2.1 rfl (lv_at hl 1 rfl) ?_
            refine lv_iload_n hx hb eX12_areValues_67.2.2.2.1 rfl (lv_at hl 0 rfl) ?_
            refine lv_iconst (v := 2) hx hb eX12_areValues_67.2.2.2.2.1 (by decide) ?_
            obtain ⟨r28, hc27, h⟩ := bn_e h
            refine ycV (r0 := i2 r28) (As := [.int (i2 r11), .int 2]) (rest := []) (C := RX12) (n := 2) ⟨hx, hb, hml, hown, ht⟩ (k_x12_laidOf l D a r11 2 _ _ hc27) (zgV ml_X12_816 im_X12_laidOf se_X12_laidOf in_X12 co_X12_laidOf) rfl rfl (by decide +kernel) ⟨Nat.le_of_ble_eq_true rfl, Nat.le_of_ble_eq_true rfl⟩ hN hK hP hS 0 RW_0 rfl rfl rfl hl.1 rfl (Nat.le_of_ble_eq_true rfl) eX12_areValues_67.2.2.2.2.2.1 ⟨Nat.le_of_ble_eq_true rfl, Nat.le_of_ble_eq_true rfl⟩ (fun H locs hP hS => ?_)
            refine lv_aload_n hx hb eX12_areValues_67.2.2.2.2.2.2.1 rfl (lv_at hl 1 rfl) ?_
            refine lv_iload_n hx hb eX12_areValues_67.2.2.2.2.2.2.2 rfl (lv_at hl 2 rfl) ?_
            refine lv_iconst (v := 2) hx hb eX12_areValues_79.1 (by decide) ?_
            obtain ⟨r30, hc29, h⟩ := bn_e h
            refine ycV (r0 := i2 r30) (As := [.int (i2 x1), .int 2]) (rest := [.int (i2 r28)]) (C := RX12) (n := 2) ⟨hx, hb, hml, hown, ht⟩ (k_x12_laidOf l D a x1 2 _ _ hc29) (zgV ml_X12_816 im_X12_laidOf se_X12_laidOf in_X12 co_X12_laidOf) rfl rfl (by decide +kernel) ⟨Nat.le_of_ble_eq_true rfl, Nat.le_of_ble_eq_true rfl⟩ hN hK hP hS 0 RW_0 rfl rfl rfl hl.1 rfl (Nat.le_of_ble_eq_true rfl) eX12_areValues_79.2.1 ⟨Nat.le_of_ble_eq_true rfl, Nat.le_of_ble_eq_true rfl⟩ (fun H locs hP hS => ?_)
            refine lv_iconst (v := 1) hx hb eX12_areValues_79.2.2.1 (by decide) ?_
            refine lv_isub hx hb eX12_areValues_79.2.2.2.1 ?_
            refine z_topi (y := i2 (r30 - 1)) (i2_sub r30 1) ?_
            obtain ⟨hr31, h⟩ := rg_e h
            obtain ⟨hr32, h⟩ := rg_e h
            refine lv_icmp_eq (tgt := 90) hx hb eX12_areValues_79.2.2.2.2.1 (by decide) (fun c33 => ?_) (fun c33 => ?_)
            · have h := if_t ((i2_eq (x := r28) (y := (r30 - 1)) hr31 hr32).mp c33) h
              exact J90 (x1, x2) _ _ _ ⟨hP, hS, lv_sub hl [1, 2, 3] rfl, h⟩
            · have h := if_f (mt (i2_eq (x := r28) (y := (r30 - 1)) hr31 hr32).mpr c33) h
              exact J88 () _ _ _ ⟨hP, hS, lv_sub hl [] rfl, h⟩
      · have h := if_t ((i2_eq (x := r13) (y := 0) hr14 (by decide)).mp c15) h
        refine lv_iload_n hx hb eX12_areValues_23.2.2.2.2.1 rfl (lv_at hl 0 rfl) ?_
        obtain ⟨hr34, h⟩ := rg_e h
        refine lv_i2l (v := i8 r11) hx hb eX12_areValues_23.2.2.2.2.2.1 (i2_l hr34) ?_
        refine lv_lconst (v := 0) hx hb eX12_areValues_23.2.2.2.2.2.2.1 (by decide) ?_
        refine lv_ldc2 (own := RX12) (v := 999) hx hb hown (ht _ cl_X12_624) eX12_areValues_23.2.2.2.2.2.2.2 ?_
        obtain ⟨r36, hc35, h⟩ := bn_e h
        refine ycS (r0 := i2 r36) (As := [.long (i8 r11), .long 0, .long 999]) (rest := []) (n := 3) ⟨hx, hb, hml, hown, ht⟩ (k_x12_isIn l D a r11 0 999 _ _ hc35) (zgT ml_X12_309 st_X12_isIn in_X12 co_X12_isIn) rfl rfl (by decide +kernel) ⟨Nat.le_of_ble_eq_true rfl, Nat.le_of_ble_eq_true rfl⟩ hN hK hP hS rfl hl.1 rfl (Nat.le_of_ble_eq_true rfl) eX12_areValues_37.1 ⟨Nat.le_of_ble_eq_true rfl, Nat.le_of_ble_eq_true rfl⟩ (fun H locs hP hS => ?_)
        obtain ⟨hr37, h⟩ := rg_e h
        refine lv_if_ne (tgt := 90) hx hb eX12_areValues_37.2.1 (by decide) (fun c38 => ?_) (fun c38 => ?_)
        · have h := if_f (mt (i2_eq (x := r36) (y := 0) hr37 (by decide)).mpr c38) h
          exact J90 (x1, x2) _ _ _ ⟨hP, hS, lv_sub hl [1, 2, 3] rfl, h⟩
        · have h := if_t ((i2_eq (x := r36) (y := 0) hr37 (by decide)).mp c38) h
          refine lv_goto (tgt := 88) hx hb eX12_areValues_37.2.2.1 (by decide) ?_
          exact J88 () _ _ _ ⟨hP, hS, lv_sub hl [] rfl, h⟩
  refine lv_iconst (v := 0) hx hb eX12_areValues_0.1 (by decide) ?_
  refine lv_istore_n (lv' := [(2, .int 0), (0, .ref (a 200)), (1, .int (i2 p0))]) hx hb eX12_areValues_0.2.1 rfl hl (by decide) rfl (fun ls hl => ?_)
  exact J2 FU (p0, 0) _ _ _ ⟨hP, hS, lv_sub hl [1, 2, 0] rfl, h⟩
set_option maxHeartbeats 4000000 in
set_option maxRecDepth 100000 in
theorem k_x12_areCounts (l : Launch) (D : va_G) (a : Nat → Nat) (p0 : Int) (sz : Nat) (s : MS) (o : (Int × MS)) (h : m_x12_areCounts p0 s = some o) : yWi l yX12_areCounts cX12_areCounts 4 (some .boolean) { frames := 2, cells := 0, slots := 0, locals := 120 } D sz [.ref (a 200), .int (i2 p0)] (RW D a s) (RW D a o.2) (i2 o.1) := by
  refine Met.ofW (cc := cX12_areCounts) (maxL := 4) (ret := (some .boolean)) (by decide) rfl ?_
  intro p e s₀ m args below meth c s₁ B hml hv
  obtain ⟨rfl, ⟨hsz, hP, hK, hD0⟩, hN⟩ := hv
  have hx := B.exec
  have hb := B.bytes
  have hr := B.returns
  have hts := atoms_spec (ws := wz yX12_areCounts cX12_areCounts 4 (some .boolean)) B.pre
  have ht : ∀ w ∈ lw_gd, w.before _ s₀ = true := fun w h => hts w (List.mem_cons_of_mem _ h)
  have hown : s₀.vm.findClass RX12 = some m.cls := findClass_of_methodNamed B.named
  have hlocks := B.notSynchronized
  subst hsz
  have hD := hD0.self (sz := s₀.heap.size)
  generalize hAe : va_A (RW D a s) s₀.heap.size = A at hD ⊢
  have hA : ∀ q : Nat, s₀.heap.size ≤ q → A q := fun q h => by rw [← hAe]; exact Or.inr h
  have hS : va_S A s₀.heap s₀.heap [] := va_S.rf
  have hDD : ∀ t : MS, va_D A (RW D a t) := fun t => RW_D t hD
  have hl := lv_entry ([.ref (a 200), .int (i2 p0)]) (n := 4) (Nat.le_of_ble_eq_true rfl)
  rw [lg_entry_eq]
  generalize (lg_sl ([.ref (a 200), .int (i2 p0)]) ++ List.replicate (4 - (lg_sl ([.ref (a 200), .int (i2 p0)])).length) Slot.unset).toArray = ls at hl ⊢
  have hl : lv_has ls 4 [(0, .ref (a 200)), (1, .int (i2 p0))] := hl
  unfold m_x12_areCounts at h
  refine y_loop (pcJ := 153) (σ := Int × Int × MS) (fun n u H locs ls => va_P D vwCl (RW D a u.2.2) H ∧ va_S A s₀.heap H locs ∧ lv_has ls 4 [(0, .ref (a 200)), (1, .int (i2 u.1)), (2, .int (i2 u.2.1))] ∧ m_x12_areCounts_L153 n u.1 u.2.1 u.2.2 = some o) (fun u => []) (fun u H locs ls hI => by obtain ⟨_, _, _, h⟩ := hI; cases h) (fun n153 ih153 u H locs ls hI => ?_) (fun J153 => ?_)
  · obtain ⟨hP, hS, hl, h⟩ := hI
    obtain ⟨x1, x2, s3⟩ := u
    have hP : va_P D vwCl (RW D a s3) H := hP
    have hl : lv_has ls 4 [(0, .ref (a 200)), (1, .int (i2 x1)), (2, .int (i2 x2))] := hl
    have h : m_x12_areCounts_b153 (m_x12_areCounts_L153 n153) x1 x2 s3 = some o := h
    unfold m_x12_areCounts_b153 at h
    refine lv_iload_n hx hb eX12_areCounts_139.2.2.2.2.2.2.1 rfl (lv_at hl 2 rfl) ?_
    refine lv_aload_n hx hb eX12_areCounts_139.2.2.2.2.2.2.2 rfl (lv_at hl 0 rfl) ?_
    obtain ⟨r5, hc4, h⟩ := bn_e h
    refine ycV (r0 := i2 r5) (As := []) (rest := [.int (i2 x2)]) (C := RX12) (n := 0) ⟨hx, hb, hml, hown, ht⟩ (k_x12_blockMany l D a _ _ hc4) (zgV ml_X12_429 im_X12_blockMany se_X12_blockMany in_X12 co_X12_blockMany) rfl rfl (by decide +kernel) ⟨Nat.le_of_ble_eq_true rfl, Nat.le_of_ble_eq_true rfl⟩ hN hK hP hS 0 RW_0 rfl rfl rfl hl.1 rfl (Nat.le_of_ble_eq_true rfl) eX12_areCounts_155.1 ⟨Nat.le_of_ble_eq_true rfl, Nat.le_of_ble_eq_true rfl⟩ (fun H locs hP hS => ?_)
    obtain ⟨hr6, h⟩ := rg_e h
    obtain ⟨hr7, h⟩ := rg_e h
    refine lv_icmp_ge (tgt := 184) hx hb eX12_areCounts_155.2.1 (by decide) (fun c8 => ?_) (fun c8 => ?_)
    · have h := if_t ((i2_le (x := r5) (y := x2) hr7 hr6).mp c8) h
      refine lv_iconst (v := 1) hx hb eX12_areCounts_169.2.2.2.2.2.2.2 (by decide) ?_
      obtain rfl := Option.some.inj h
      exact W.zret (v := 1) hx hb hr (by decide) (fun t ht hW => ⟨⟨_, (), rfl, rfl, by rw [ht]; exact hP, va_K.moved hW.alike hK, hDD _⟩, hS.F ht⟩) hS.2.2 eX12_areCounts_185.1
    · have h := if_f (mt (i2_le (x := r5) (y := x2) hr7 hr6).mpr c8) h
      refine lv_aload_n hx hb eX12_areCounts_155.2.2.1 rfl (lv_at hl 0 rfl) ?_
      refine va_get (D := D) (ci := 12) (v := .ref (a 115)) (C := RX12) (T := TX12) (N := 116) hx hb ht inX12 hown hK hP 0 RW_0 rfl 115 (by decide) (ht (.fieldLink RX12 258 "CloneVolumesModel" "recount" "[I") fl_X12_258) (fun _ h9 => h9) mF_115 eX12_areCounts_155.2.2.2.1 ?_
      refine lv_iload_n hx hb eX12_areCounts_155.2.2.2.2.1 rfl (lv_at hl 2 rfl) ?_
      obtain ⟨y9, ey9, iy9, h⟩ := rdI_e h
      refine ya_iald (i := x2) hx hb hK hP 80 0 RW_80 rfl (by decide) ey9 iy9 eX12_areCounts_155.2.2.2.2.2.1 ?_
      refine lv_aload_n hx hb eX12_areCounts_155.2.2.2.2.2.2.1 rfl (lv_at hl 0 rfl) ?_
      refine lv_iload_n hx hb eX12_areCounts_155.2.2.2.2.2.2.2 rfl (lv_at hl 2 rfl) ?_
      refine lv_iload_n hx hb eX12_areCounts_169.1 rfl (lv_at hl 1 rfl) ?_
      obtain ⟨r11, hc10, h⟩ := bn_e h
      refine ycV (r0 := i2 r11) (As := [.int (i2 x2), .int (i2 x1)]) (rest := [.int (i2 y9)]) (C := RX12) (n := 2) ⟨hx, hb, hml, hown, ht⟩ (k_x12_laidOf l D a x2 x1 _ _ hc10) (zgV ml_X12_816 im_X12_laidOf se_X12_laidOf in_X12 co_X12_laidOf) rfl rfl (by decide +kernel) ⟨Nat.le_of_ble_eq_true rfl, Nat.le_of_ble_eq_true rfl⟩ hN hK hP hS 0 RW_0 rfl rfl rfl hl.1 rfl (Nat.le_of_ble_eq_true rfl) eX12_areCounts_169.2.1 ⟨Nat.le_of_ble_eq_true rfl, Nat.le_of_ble_eq_true rfl⟩ (fun H locs hP hS => ?_)
      obtain ⟨hr12, h⟩ := rg_e h
      obtain ⟨hr13, h⟩ := rg_e h
      refine lv_icmp_eq (tgt := 178) hx hb eX12_areCounts_169.2.2.1 (by decide) (fun c14 => ?_) (fun c14 => ?_)
      · have h := if_t ((i2_eq (x := y9) (y := r11) hr12 hr13).mp c14) h
        refine lv_iinc (v := i2 (x2 + 1)) (lv' := [(2, .int (i2 (x2 + 1))), (0, .ref (a 200)), (1, .int (i2 x1))]) hx hb eX12_areCounts_169.2.2.2.2.2.1 hl (k := 2) rfl (i2_add x2 1) (by decide) rfl (fun ls hl => ?_)
        refine lv_goto (tgt := 153) hx hb eX12_areCounts_169.2.2.2.2.2.2.1 (by decide) ?_
        exact ih153 (x1, x2 + 1, s3) _ _ _ ⟨hP, hS, lv_sub hl [1, 2, 0] rfl, h⟩
      · have h := if_f (mt (i2_eq (x := y9) (y := r11) hr12 hr13).mpr c14) h
        refine lv_iconst (v := 0) hx hb eX12_areCounts_169.2.2.2.1 (by decide) ?_
        obtain rfl := Option.some.inj h
        exact W.zret (v := 0) hx hb hr (by decide) (fun t ht hW => ⟨⟨_, (), rfl, rfl, by rw [ht]; exact hP, va_K.moved hW.alike hK, hDD _⟩, hS.F ht⟩) hS.2.2 eX12_areCounts_169.2.2.2.2.1
  refine y_loop (pcJ := 80) (σ := Int × Int × MS) (fun n u H locs ls => va_P D vwCl (RW D a u.2.2) H ∧ va_S A s₀.heap H locs ∧ lv_has ls 4 [(0, .ref (a 200)), (1, .int (i2 u.1)), (2, .int (i2 u.2.1))] ∧ m_x12_areCounts_L80 n u.1 u.2.1 u.2.2 = some o) (fun u => []) (fun u H locs ls hI => by obtain ⟨_, _, _, h⟩ := hI; cases h) (fun n80 ih80 u H locs ls hI => ?_) (fun J80 => ?_)
  · obtain ⟨hP, hS, hl, h⟩ := hI
    obtain ⟨x15, x16, s17⟩ := u
    have hP : va_P D vwCl (RW D a s17) H := hP
    have hl : lv_has ls 4 [(0, .ref (a 200)), (1, .int (i2 x15)), (2, .int (i2 x16))] := hl
    have h : m_x12_areCounts_b80 (m_x12_areCounts_L80 n80) x15 x16 s17 = some o := h
    unfold m_x12_areCounts_b80 at h
    refine y_head (pcJ := 145) (σ := Int × Int × MS) (fun u H locs ls => va_P D vwCl (RW D a u.2.2) H ∧ va_S A s₀.heap H locs ∧ lv_has ls 4 [(0, .ref (a 200)), (1, .int (i2 u.1)), (2, .int (i2 u.2.1))] ∧ m_x12_areCounts_J145 (m_x12_areCounts_L80 n80) u.1 u.2.1 u.2.2 = some o) (fun u => []) (fun u H locs ls hI => ?_) (fun J145 => ?_)
    · obtain ⟨hP, hS, hl, h⟩ := hI
      obtain ⟨x18, x19, s20⟩ := u
      have hP : va_P D vwCl (RW D a s20) H := hP
      have hl : lv_has ls 4 [(0, .ref (a 200)), (1, .int (i2 x18)), (2, .int (i2 x19))] := hl
      have h : m_x12_areCounts_J145 (m_x12_areCounts_L80 n80) x18 x19 s20 = some o := h
      unfold m_x12_areCounts_J145 at h
      refine lv_iinc (v := i2 (x19 + 1)) (lv' := [(2, .int (i2 (x19 + 1))), (0, .ref (a 200)), (1, .int (i2 x18))]) hx hb eX12_areCounts_139.2.2.1 hl (k := 2) rfl (i2_add x19 1) (by decide) rfl (fun ls hl => ?_)
      refine lv_goto (tgt := 80) hx hb eX12_areCounts_139.2.2.2.1 (by decide) ?_
      exact ih80 (x18, x19 + 1, s20) _ _ _ ⟨hP, hS, lv_sub hl [1, 2, 0] rfl, h⟩
    refine y_loop (pcJ := 111) (σ := Int × Int × Int × MS) (fun n u H locs ls => va_P D vwCl (RW D a u.2.2.2) H ∧ va_S A s₀.heap H locs ∧ lv_has ls 4 [(0, .ref (a 200)), (1, .int (i2 u.1)), (2, .int (i2 u.2.1)), (3, .int (i2 u.2.2.1))] ∧ m_x12_areCounts_L111 (m_x12_areCounts_L80 n80) n u.1 u.2.1 u.2.2.1 u.2.2.2 = some o) (fun u => []) (fun u H locs ls hI => by obtain ⟨_, _, _, h⟩ := hI; cases h) (fun n111 ih111 u H locs ls hI => ?_) (fun J111 => ?_)
    · obtain ⟨hP, hS, hl, h⟩ := hI
      obtain ⟨x21, x22, x23, s24⟩ := u
      have hP : va_P D vwCl (RW D a s24) H := hP
      have hl : lv_has ls 4 [(0, .ref (a 200)), (1, .int (i2 x21)), (2, .int (i2 x22)), (3, .int (i2 x23))] := hl
      have h : m_x12_areCounts_b111 (m_x12_areCounts_L80 n80) (m_x12_areCounts_L111 (m_x12_areCounts_L80 n80) n111) x21 x22 x23 s24 = some o := h
      unfold m_x12_areCounts_b111 at h
      refine lv_iload_n hx hb eX12_areCounts_100.2.2.2.2.2.1 rfl (lv_at hl 3 rfl) ?_
      refine lv_aload_n hx hb eX12_areCounts_100.2.2.2.2.2.2.1 rfl (lv_at hl 0 rfl) ?_
      refine lv_iload_n hx hb eX12_areCounts_100.2.2.2.2.2.2.2 rfl (lv_at hl 2 rfl) ?_
      refine lv_iconst (v := 3) hx hb eX12_areCounts_114.1 (by decide) ?_
      obtain ⟨r26, hc25, h⟩ := bn_e h
      refine ycV (r0 := i2 r26) (As := [.int (i2 x22), .int 3]) (rest := [.int (i2 x23)]) (C := RX12) (n := 2) ⟨hx, hb, hml, hown, ht⟩ (k_x12_laidOf l D a x22 3 _ _ hc25) (zgV ml_X12_816 im_X12_laidOf se_X12_laidOf in_X12 co_X12_laidOf) rfl rfl (by decide +kernel) ⟨Nat.le_of_ble_eq_true rfl, Nat.le_of_ble_eq_true rfl⟩ hN hK hP hS 0 RW_0 rfl rfl rfl hl.1 rfl (Nat.le_of_ble_eq_true rfl) eX12_areCounts_114.2.1 ⟨Nat.le_of_ble_eq_true rfl, Nat.le_of_ble_eq_true rfl⟩ (fun H locs hP hS => ?_)
      obtain ⟨hr27, h⟩ := rg_e h
      obtain ⟨hr28, h⟩ := rg_e h
      refine lv_icmp_ge (tgt := 145) hx hb eX12_areCounts_114.2.2.1 (by decide) (fun c29 => ?_) (fun c29 => ?_)
      · have h := if_t ((i2_le (x := r26) (y := x23) hr28 hr27).mp c29) h
        exact J145 (x21, x22, s24) _ _ _ ⟨hP, hS, lv_sub hl [0, 1, 2] rfl, h⟩
      · have h := if_f (mt (i2_le (x := r26) (y := x23) hr28 hr27).mpr c29) h
        refine lv_aload_n hx hb eX12_areCounts_114.2.2.2.1 rfl (lv_at hl 0 rfl) ?_
        refine va_get (D := D) (ci := 12) (v := .ref (a 115)) (C := RX12) (T := TX12) (N := 116) hx hb ht inX12 hown hK hP 0 RW_0 rfl 115 (by decide) (ht (.fieldLink RX12 258 "CloneVolumesModel" "recount" "[I") fl_X12_258) (fun _ h9 => h9) mF_115 eX12_areCounts_114.2.2.2.2.1 ?_
        refine lv_aload_n hx hb eX12_areCounts_114.2.2.2.2.2.1 rfl (lv_at hl 0 rfl) ?_
        refine lv_iload_n hx hb eX12_areCounts_114.2.2.2.2.2.2.1 rfl (lv_at hl 2 rfl) ?_
        refine lv_bipush (v := 10) hx hb eX12_areCounts_114.2.2.2.2.2.2.2 (by decide) ?_
        refine lv_iload_n hx hb eX12_areCounts_129.1 rfl (lv_at hl 3 rfl) ?_
        refine lv_iadd hx hb eX12_areCounts_129.2.1 ?_
        refine z_topi (y := i2 (10 + x23)) (i2_add 10 x23) ?_
        obtain ⟨r31, hc30, h⟩ := bn_e h
        refine ycV (r0 := i2 r31) (As := [.int (i2 x22), .int (i2 (10 + x23))]) (rest := [.ref (a 115)]) (C := RX12) (n := 2) ⟨hx, hb, hml, hown, ht⟩ (k_x12_laidOf l D a x22 (10 + x23) _ _ hc30) (zgV ml_X12_816 im_X12_laidOf se_X12_laidOf in_X12 co_X12_laidOf) rfl rfl (by decide +kernel) ⟨Nat.le_of_ble_eq_true rfl, Nat.le_of_ble_eq_true rfl⟩ hN hK hP hS 0 RW_0 rfl rfl rfl hl.1 rfl (Nat.le_of_ble_eq_true rfl) eX12_areCounts_129.2.2.1 ⟨Nat.le_of_ble_eq_true rfl, Nat.le_of_ble_eq_true rfl⟩ (fun H locs hP hS => ?_)
        refine lv_dup2_11 hx hb eX12_areCounts_129.2.2.2.1 rfl rfl ?_
        obtain ⟨y32, ey32, iy32, h⟩ := rdI_e h
        refine ya_iald (i := r31) hx hb hK hP 80 0 RW_80 rfl (by decide) ey32 iy32 eX12_areCounts_129.2.2.2.2.1 ?_
        refine lv_iconst (v := 1) hx hb eX12_areCounts_129.2.2.2.2.2.1 (by decide) ?_
        refine lv_iadd hx hb eX12_areCounts_129.2.2.2.2.2.2.1 ?_
        refine z_topi (y := i2 (y32 + 1)) (i2_add y32 1) ?_
        obtain ⟨hi33, h⟩ := inb_e h
        refine ya_iast (i := r31) (x := (y32 + 1)) hx hb hK hP (hDD _) hS 80 0 RW_80 rfl (by decide) hi33 eX12_areCounts_129.2.2.2.2.2.2.2 (RW_w80 _) (fun H locs hP hS => ?_)
        obtain ⟨s34, hs34, h⟩ := st_e h
        rw [hs34] at hP
        refine lv_iinc (v := i2 (x23 + 1)) (lv' := [(3, .int (i2 (x23 + 1))), (0, .ref (a 200)), (1, .int (i2 x21)), (2, .int (i2 x22))]) hx hb eX12_areCounts_139.1 hl (k := 3) rfl (i2_add x23 1) (by decide) rfl (fun ls hl => ?_)
        refine lv_goto (tgt := 111) hx hb eX12_areCounts_139.2.1 (by decide) ?_
        exact ih111 (x21, x22, x23 + 1, s34) _ _ _ ⟨hP, hS, lv_sub hl [1, 2, 3, 0] rfl, h⟩
    refine lv_iload_n hx hb eX12_areCounts_72.2.2.2.2.1 rfl (lv_at hl 2 rfl) ?_
    refine lv_aload_n hx hb eX12_areCounts_72.2.2.2.2.2.1 rfl (lv_at hl 0 rfl) ?_
    obtain ⟨r36, hc35, h⟩ := bn_e h
    refine ycV (r0 := i2 r36) (As := []) (rest := [.int (i2 x16)]) (C := RX12) (n := 0) ⟨hx, hb, hml, hown, ht⟩ (k_x12_blockMany l D a _ _ hc35) (zgV ml_X12_429 im_X12_blockMany se_X12_blockMany in_X12 co_X12_blockMany) rfl rfl (by decide +kernel) ⟨Nat.le_of_ble_eq_true rfl, Nat.le_of_ble_eq_true rfl⟩ hN hK hP hS 0 RW_0 rfl rfl rfl hl.1 rfl (Nat.le_of_ble_eq_true rfl) eX12_areCounts_72.2.2.2.2.2.2.1 ⟨Nat.le_of_ble_eq_true rfl, Nat.le_of_ble_eq_true rfl⟩ (fun H locs hP hS => ?_)
    obtain ⟨hr37, h⟩ := rg_e h
    obtain ⟨hr38, h⟩ := rg_e h
    refine lv_icmp_ge (tgt := 151) hx hb eX12_areCounts_72.2.2.2.2.2.2.2 (by decide) (fun c39 => ?_) (fun c39 => ?_)
    · have h := if_t ((i2_le (x := r36) (y := x16) hr38 hr37).mp c39) h
      refine lv_iconst (v := 0) hx hb eX12_areCounts_139.2.2.2.2.1 (by decide) ?_
      refine lv_istore_n (lv' := [(2, .int 0), (0, .ref (a 200)), (1, .int (i2 x15))]) hx hb eX12_areCounts_139.2.2.2.2.2.1 rfl hl (by decide) rfl (fun ls hl => ?_)
      exact J153 FU (x15, 0, s17) _ _ _ ⟨hP, hS, lv_sub hl [1, 2, 0] rfl, h⟩
    · have h := if_f (mt (i2_le (x := r36) (y := x16) hr38 hr37).mpr c39) h
      refine lv_aload_n hx hb eX12_areCounts_88.1 rfl (lv_at hl 0 rfl) ?_
      refine lv_iload_n hx hb eX12_areCounts_88.2.1 rfl (lv_at hl 2 rfl) ?_
      refine lv_iload_n hx hb eX12_areCounts_88.2.2.1 rfl (lv_at hl 1 rfl) ?_
      obtain ⟨r41, hc40, h⟩ := bn_e h
      refine ycV (r0 := i2 r41) (As := [.int (i2 x16), .int (i2 x15)]) (rest := []) (C := RX12) (n := 2) ⟨hx, hb, hml, hown, ht⟩ (k_x12_laidOf l D a x16 x15 _ _ hc40) (zgV ml_X12_816 im_X12_laidOf se_X12_laidOf in_X12 co_X12_laidOf) rfl rfl (by decide +kernel) ⟨Nat.le_of_ble_eq_true rfl, Nat.le_of_ble_eq_true rfl⟩ hN hK hP hS 0 RW_0 rfl rfl rfl hl.1 rfl (Nat.le_of_ble_eq_true rfl) eX12_areCounts_88.2.2.2.1 ⟨Nat.le_of_ble_eq_true rfl, Nat.le_of_ble_eq_true rfl⟩ (fun H locs hP hS => ?_)
      obtain ⟨hr42, h⟩ := rg_e h
      refine lv_if_eq (tgt := 145) hx hb eX12_areCounts_88.2.2.2.2.1 (by decide) (fun c43 => ?_) (fun c43 => ?_)
      · have h := if_t ((i2_eq (x := r41) (y := 0) hr42 (by decide)).mp c43) h
        exact J145 (x15, x16, s17) _ _ _ ⟨hP, hS, lv_sub hl [0, 1, 2] rfl, h⟩
      · have h := if_f (mt (i2_eq (x := r41) (y := 0) hr42 (by decide)).mpr c43) h
        refine lv_aload_n hx hb eX12_areCounts_88.2.2.2.2.2.1 rfl (lv_at hl 0 rfl) ?_
        refine lv_iload_n hx hb eX12_areCounts_88.2.2.2.2.2.2.1 rfl (lv_at hl 2 rfl) ?_
        refine lv_iconst (v := 2) hx hb eX12_areCounts_88.2.2.2.2.2.2.2 (by decide) ?_
        obtain ⟨r45, hc44, h⟩ := bn_e h
        refine ycV (r0 := i2 r45) (As := [.int (i2 x16), .int 2]) (rest := []) (C := RX12) (n := 2) ⟨hx, hb, hml, hown, ht⟩ (k_x12_laidOf l D a x16 2 _ _ hc44) (zgV ml_X12_816 im_X12_laidOf se_X12_laidOf in_X12 co_X12_laidOf) rfl rfl (by decide +kernel) ⟨Nat.le_of_ble_eq_true rfl, Nat.le_of_ble_eq_true rfl⟩ hN hK hP hS 0 RW_0 rfl rfl rfl hl.1 rfl (Nat.le_of_ble_eq_true rfl) eX12_areCounts_100.1 ⟨Nat.le_of_ble_eq_true rfl, Nat.le_of_ble_eq_true rfl⟩ (fun H locs hP hS => ?_)
        obtain ⟨hr46, h⟩ := rg_e h
        refine lv_if_ne (tgt := 109) hx hb eX12_areCounts_100.2.1 (by decide) (fun c47 => ?_) (fun c47 => ?_)
        · have h := if_f (mt (i2_eq (x := r45) (y := 0) hr46 (by decide)).mpr c47) h
          refine lv_iconst (v := 0) hx hb eX12_areCounts_100.2.2.2.1 (by decide) ?_
          refine lv_istore_n (lv' := [(3, .int 0), (0, .ref (a 200)), (1, .int (i2 x15)), (2, .int (i2 x16))]) hx hb eX12_areCounts_100.2.2.2.2.1 rfl hl (by decide) rfl (fun ls hl => ?_)
          exact J111 FU (x15, x16, 0, s17) _ _ _ ⟨hP, hS, lv_sub hl [1, 2, 3, 0] rfl, h⟩
        · have h := if_t ((i2_eq (x := r45) (y := 0) hr46 (by decide)).mp c47) h
          refine lv_goto (tgt := 145) hx hb eX12_areCounts_100.2.2.1 (by decide) ?_
          exact J145 (x15, x16, s17) _ _ _ ⟨hP, hS, lv_sub hl [0, 1, 2] rfl, h⟩
  refine y_loop (pcJ := 23) (σ := Int × Int × MS) (fun n u H locs ls => va_P D vwCl (RW D a u.2.2) H ∧ va_S A s₀.heap H locs ∧ lv_has ls 4 [(0, .ref (a 200)), (1, .int (i2 u.1)), (2, .int (i2 u.2.1))] ∧ m_x12_areCounts_L23 n u.1 u.2.1 u.2.2 = some o) (fun u => []) (fun u H locs ls hI => by obtain ⟨_, _, _, h⟩ := hI; cases h) (fun n23 ih23 u H locs ls hI => ?_) (fun J23 => ?_)
  · obtain ⟨hP, hS, hl, h⟩ := hI
    obtain ⟨x48, x49, s50⟩ := u
    have hP : va_P D vwCl (RW D a s50) H := hP
    have hl : lv_has ls 4 [(0, .ref (a 200)), (1, .int (i2 x48)), (2, .int (i2 x49))] := hl
    have h : m_x12_areCounts_b23 (m_x12_areCounts_L23 n23) x48 x49 s50 = some o := h
    unfold m_x12_areCounts_b23 at h
    refine y_head (pcJ := 72) (σ := Int × Int × MS) (fun u H locs ls => va_P D vwCl (RW D a u.2.2) H ∧ va_S A s₀.heap H locs ∧ lv_has ls 4 [(0, .ref (a 200)), (1, .int (i2 u.1)), (2, .int (i2 u.2.1))] ∧ m_x12_areCounts_J72 (m_x12_areCounts_L23 n23) u.1 u.2.1 u.2.2 = some o) (fun u => []) (fun u H locs ls hI => ?_) (fun J72 => ?_)
    · obtain ⟨hP, hS, hl, h⟩ := hI
      obtain ⟨x51, x52, s53⟩ := u
      have hP : va_P D vwCl (RW D a s53) H := hP
      have hl : lv_has ls 4 [(0, .ref (a 200)), (1, .int (i2 x51)), (2, .int (i2 x52))] := hl
      have h : m_x12_areCounts_J72 (m_x12_areCounts_L23 n23) x51 x52 s53 = some o := h
      unfold m_x12_areCounts_J72 at h
      refine lv_iinc (v := i2 (x52 + 1)) (lv' := [(2, .int (i2 (x52 + 1))), (0, .ref (a 200)), (1, .int (i2 x51))]) hx hb eX12_areCounts_72.1 hl (k := 2) rfl (i2_add x52 1) (by decide) rfl (fun ls hl => ?_)
      refine lv_goto (tgt := 23) hx hb eX12_areCounts_72.2.1 (by decide) ?_
      exact ih23 (x51, x52 + 1, s53) _ _ _ ⟨hP, hS, lv_sub hl [1, 2, 0] rfl, h⟩
    refine lv_iload_n hx hb eX12_areCounts_22.2.1 rfl (lv_at hl 2 rfl) ?_
    refine lv_bipush (v := 8) hx hb eX12_areCounts_22.2.2.1 (by decide) ?_
    obtain ⟨hr54, h⟩ := rg_e h
    refine lv_icmp_ge (tgt := 78) hx hb eX12_areCounts_22.2.2.2.1 (by decide) (fun c55 => ?_) (fun c55 => ?_)
    · have h := if_t ((i2_le (x := 8) (y := x49) (by decide) hr54).mp c55) h
      refine lv_iconst (v := 0) hx hb eX12_areCounts_72.2.2.1 (by decide) ?_
      refine lv_istore_n (lv' := [(2, .int 0), (0, .ref (a 200)), (1, .int (i2 x48))]) hx hb eX12_areCounts_72.2.2.2.1 rfl hl (by decide) rfl (fun ls hl => ?_)
      exact J80 FU (x48, 0, s50) _ _ _ ⟨hP, hS, lv_sub hl [1, 2, 0] rfl, h⟩
    · have h := if_f (mt (i2_le (x := 8) (y := x49) (by decide) hr54).mpr c55) h
      refine lv_aload_n hx hb eX12_areCounts_22.2.2.2.2.1 rfl (lv_at hl 0 rfl) ?_
      refine va_get (D := D) (ci := 12) (v := .ref (a 113)) (C := RX12) (T := TX12) (N := 116) hx hb ht inX12 hown hK hP 0 RW_0 rfl 113 (by decide) (ht (.fieldLink RX12 255 "CloneVolumesModel" "laid" "[I") fl_X12_255) (fun _ h9 => h9) mF_113 eX12_areCounts_22.2.2.2.2.2.1 ?_
      refine lv_bipush (v := 8) hx hb eX12_areCounts_22.2.2.2.2.2.2.1 (by decide) ?_
      refine lv_iload_n hx hb eX12_areCounts_22.2.2.2.2.2.2.2 rfl (lv_at hl 1 rfl) ?_
      refine lv_imul hx hb eX12_areCounts_36.1 ?_
      refine z_topi (y := i2 (8 * x48)) (i2_mul 8 x48) ?_
      refine lv_iload_n hx hb eX12_areCounts_36.2.1 rfl (lv_at hl 2 rfl) ?_
      refine lv_iadd hx hb eX12_areCounts_36.2.2.1 ?_
      refine z_topi (y := i2 ((8 * x48) + x49)) (i2_add (8 * x48) x49) ?_
      obtain ⟨y56, ey56, iy56, h⟩ := rdI_e h
      refine ya_iald (i := ((8 * x48) + x49)) hx hb hK hP 79 0 RW_79 rfl (by decide) ey56 iy56 eX12_areCounts_36.2.2.2.1 ?_
      refine lv_istore_n (lv' := [(3, .int (i2 y56)), (0, .ref (a 200)), (1, .int (i2 x48)), (2, .int (i2 x49))]) hx hb eX12_areCounts_36.2.2.2.2.1 rfl hl (by decide) rfl (fun ls hl => ?_)
      refine lv_iload_n hx hb eX12_areCounts_36.2.2.2.2.2.1 rfl (lv_at hl 0 rfl) ?_
      refine lv_sipush (v := 254) hx hb eX12_areCounts_36.2.2.2.2.2.2.1 (by decide) ?_
      obtain ⟨hr57, h⟩ := rg_e h
      refine lv_icmp_lt (tgt := 51) hx hb eX12_areCounts_36.2.2.2.2.2.2.2 (by decide) (fun c58 => ?_) (fun c58 => ?_)
      · have h := if_t ((i2_lt (x := y56) (y := 254) hr57 (by decide)).mp c58) h
        refine lv_aload_n hx hb eX12_areCounts_48.2.1 rfl (lv_at hl 1 rfl) ?_
        refine lv_iload_n hx hb eX12_areCounts_48.2.2.1 rfl (lv_at hl 0 rfl) ?_
        obtain ⟨hr59, h⟩ := rg_e h
        refine lv_i2l (v := i8 y56) hx hb eX12_areCounts_48.2.2.2.1 (i2_l hr59) ?_
        obtain ⟨r61, hc60, h⟩ := bn_e h
        refine ycV (r0 := i2 r61) (As := [.long (i8 y56)]) (rest := []) (C := RX12) (n := 1) ⟨hx, hb, hml, hown, ht⟩ (k_x12_isBlock l D a y56 _ _ hc60) (zgV ml_X12_616 im_X12_isBlock se_X12_isBlock in_X12 co_X12_isBlock) rfl rfl (by decide +kernel) ⟨Nat.le_of_ble_eq_true rfl, Nat.le_of_ble_eq_true rfl⟩ hN hK hP hS 0 RW_0 rfl rfl rfl hl.1 rfl (Nat.le_of_ble_eq_true rfl) eX12_areCounts_48.2.2.2.2.1 ⟨Nat.le_of_ble_eq_true rfl, Nat.le_of_ble_eq_true rfl⟩ (fun H locs hP hS => ?_)
        obtain ⟨hr62, h⟩ := rg_e h
        refine lv_if_ne (tgt := 62) hx hb eX12_areCounts_48.2.2.2.2.2.1 (by decide) (fun c63 => ?_) (fun c63 => ?_)
        · have h := if_f (mt (i2_eq (x := r61) (y := 0) hr62 (by decide)).mpr c63) h
          refine lv_aload_n hx hb eX12_areCounts_62.1 rfl (lv_at hl 1 rfl) ?_
          refine va_get (D := D) (ci := 12) (v := .ref (a 115)) (C := RX12) (T := TX12) (N := 116) hx hb ht inX12 hown hK hP 0 RW_0 rfl 115 (by decide) (ht (.fieldLink RX12 258 "CloneVolumesModel" "recount" "[I") fl_X12_258) (fun _ h9 => h9) mF_115 eX12_areCounts_62.2.1 ?_
          refine lv_iload_n hx hb eX12_areCounts_62.2.2.1 rfl (lv_at hl 0 rfl) ?_
          refine lv_dup2_11 hx hb eX12_areCounts_62.2.2.2.1 rfl rfl ?_
          obtain ⟨y64, ey64, iy64, h⟩ := rdI_e h
          refine ya_iald (i := y56) hx hb hK hP 80 0 RW_80 rfl (by decide) ey64 iy64 eX12_areCounts_62.2.2.2.2.1 ?_
          refine lv_iconst (v := 1) hx hb eX12_areCounts_62.2.2.2.2.2.1 (by decide) ?_
          refine lv_iadd hx hb eX12_areCounts_62.2.2.2.2.2.2.1 ?_
          refine z_topi (y := i2 (y64 + 1)) (i2_add y64 1) ?_
          obtain ⟨hi65, h⟩ := inb_e h
          refine ya_iast (i := y56) (x := (y64 + 1)) hx hb hK hP (hDD _) hS 80 0 RW_80 rfl (by decide) hi65 eX12_areCounts_62.2.2.2.2.2.2.2 (RW_w80 _) (fun H locs hP hS => ?_)
          obtain ⟨s66, hs66, h⟩ := st_e h
          rw [hs66] at hP
          exact J72 (x48, x49, s66) _ _ _ ⟨hP, hS, lv_sub hl [1, 2, 3] rfl, h⟩
        · have h := if_t ((i2_eq (x := r61) (y := 0) hr62 (by decide)).mp c63) h
          refine lv_iconst (v := 0) hx hb eX12_areCounts_48.2.2.2.2.2.2.1 (by decide) ?_
          obtain rfl := Option.some.inj h
          exact W.zret (v := 0) hx hb hr (by decide) (fun t ht hW => ⟨⟨_, (), rfl, rfl, by rw [ht]; exact hP, va_K.moved hW.alike hK, hDD _⟩, hS.F ht⟩) hS.2.2 eX12_areCounts_48.2.2.2.2.2.2.2
      · have h := if_f (mt (i2_lt (x := y56) (y := 254) hr57 (by decide)).mpr c58) h
        refine lv_goto (tgt := 72) hx hb eX12_areCounts_48.1 (by decide) ?_
        exact J72 (x48, x49, s50) _ _ _ ⟨hP, hS, lv_sub hl [1, 2, 3] rfl, h⟩
  refine y_loop (pcJ := 2) (σ := Int × Int × MS) (fun n u H locs ls => va_P D vwCl (RW D a u.2.2) H ∧ va_S A s₀.heap H locs ∧ lv_has ls 4 [(0, .ref (a 200)), (1, .int (i2 u.1)), (2, .int (i2 u.2.1))] ∧ m_x12_areCounts_L2 n u.1 u.2.1 u.2.2 = some o) (fun u => []) (fun u H locs ls hI => by obtain ⟨_, _, _, h⟩ := hI; cases h) (fun n2 ih2 u H locs ls hI => ?_) (fun J2 => ?_)
  · obtain ⟨hP, hS, hl, h⟩ := hI
    obtain ⟨x67, x68, s69⟩ := u
    have hP : va_P D vwCl (RW D a s69) H := hP
    have hl : lv_has ls 4 [(0, .ref (a 200)), (1, .int (i2 x67)), (2, .int (i2 x68))] := hl
    have h : m_x12_areCounts_b2 (m_x12_areCounts_L2 n2) x67 x68 s69 = some o := h
    unfold m_x12_areCounts_b2 at h
    refine lv_iload_n hx hb eX12_areBetween_102.2.2.2.2.2.1 rfl (lv_at hl 2 rfl) ?_
    refine lv_bipush (v := 48) hx hb eX12_areBetween_102.2.2.2.2.2.2.1 (by decide) ?_
    obtain ⟨hr70, h⟩ := rg_e h
    refine lv_icmp_ge (tgt := 21) hx hb eX12_areBetween_102.2.2.2.2.2.2.2 (by decide) (fun c71 => ?_) (fun c71 => ?_)
    · have h := if_t ((i2_le (x := 48) (y := x68) (by decide) hr70).mp c71) h
      refine lv_iconst (v := 0) hx hb eX12_areCounts_8.2.2.2.2.2.2.2 (by decide) ?_
      refine lv_istore_n (lv' := [(2, .int 0), (0, .ref (a 200)), (1, .int (i2 x67))]) hx hb eX12_areCounts_22.1 rfl hl (by decide) rfl (fun ls hl => ?_)
      exact J23 FU (x67, 0, s69) _ _ _ ⟨hP, hS, lv_sub hl [1, 2, 0] rfl, h⟩
    · have h := if_f (mt (i2_le (x := 48) (y := x68) (by decide) hr70).mpr c71) h
      refine lv_aload_n hx hb eX12_areCounts_8.1 rfl (lv_at hl 0 rfl) ?_
      refine va_get (D := D) (ci := 12) (v := .ref (a 115)) (C := RX12) (T := TX12) (N := 116) hx hb ht inX12 hown hK hP 0 RW_0 rfl 115 (by decide) (ht (.fieldLink RX12 258 "CloneVolumesModel" "recount" "[I") fl_X12_258) (fun _ h9 => h9) mF_115 eX12_areCounts_8.2.1 ?_
      refine lv_iload_n hx hb eX12_areCounts_8.2.2.1 rfl (lv_at hl 2 rfl) ?_
      refine lv_iconst (v := 0) hx hb eX12_areCounts_8.2.2.2.1 (by decide) ?_
      obtain ⟨hi72, h⟩ := inb_e h
      refine ya_iast (i := x68) (x := 0) hx hb hK hP (hDD _) hS 80 0 RW_80 rfl (by decide) hi72 eX12_areCounts_8.2.2.2.2.1 (RW_w80 _) (fun H locs hP hS => ?_)
      obtain ⟨s73, hs73, h⟩ := st_e h
      rw [hs73] at hP
      refine lv_iinc (v := i2 (x68 + 1)) (lv' := [(2, .int (i2 (x68 + 1))), (0, .ref (a 200)), (1, .int (i2 x67))]) hx hb eX12_areCounts_8.2.2.2.2.2.1 hl (k := 2) rfl (i2_add x68 1) (by decide) rfl (fun ls hl => ?_)
      refine lv_goto (tgt := 2) hx hb eX12_areCounts_8.2.2.2.2.2.2.1 (by decide) ?_
      exact ih2 (x67, x68 + 1, s73) _ _ _ ⟨hP, hS, lv_sub hl [1, 2, 0] rfl, h⟩
  refine lv_iconst (v := 0) hx hb eX12_areBetween_102.2.2.2.1 (by decide) ?_
  refine lv_istore_n (lv' := [(2, .int 0), (0, .ref (a 200)), (1, .int (i2 p0))]) hx hb eX12_areBetween_102.2.2.2.2.1 rfl hl (by decide) rfl (fun ls hl => ?_)
  exact J2 FU (p0, 0, s) _ _ _ ⟨hP, hS, lv_sub hl [1, 2, 0] rfl, h⟩
set_option maxHeartbeats 4000000 in
set_option maxRecDepth 100000 in
theorem k_x12_areBetween (l : Launch) (D : va_G) (a : Nat → Nat) (p0 : Int) (p1 : Int) (p2 : Int) (sz : Nat) (s : MS) (o : (Int × MS)) (h : m_x12_areBetween p0 p1 p2 s = some o) : yWi l yX12_areBetween cX12_areBetween 7 (some .boolean) { frames := 1, cells := 0, slots := 0, locals := 60 } D sz [.ref (a 200), .int (i2 p0), .int (i2 p1), .int (i2 p2)] (RW D a s) (RW D a o.2) (i2 o.1) := by
  refine Met.ofW (cc := cX12_areBetween) (maxL := 7) (ret := (some .boolean)) (by decide) rfl ?_
  intro p e s₀ m args below meth c s₁ B hml hv
  obtain ⟨rfl, ⟨hsz, hP, hK, hD0⟩, hN⟩ := hv
  have hx := B.exec
  have hb := B.bytes
  have hr := B.returns
  have hts := atoms_spec (ws := wz yX12_areBetween cX12_areBetween 7 (some .boolean)) B.pre
  have ht : ∀ w ∈ lw_gd, w.before _ s₀ = true := fun w h => hts w (List.mem_cons_of_mem _ h)
  have hown : s₀.vm.findClass RX12 = some m.cls := findClass_of_methodNamed B.named
  have hlocks := B.notSynchronized
  subst hsz
  have hD := hD0.self (sz := s₀.heap.size)
  generalize hAe : va_A (RW D a s) s₀.heap.size = A at hD ⊢
  have hA : ∀ q : Nat, s₀.heap.size ≤ q → A q := fun q h => by rw [← hAe]; exact Or.inr h
  have hS : va_S A s₀.heap s₀.heap [] := va_S.rf
  have hDD : ∀ t : MS, va_D A (RW D a t) := fun t => RW_D t hD
  have hl := lv_entry ([.ref (a 200), .int (i2 p0), .int (i2 p1), .int (i2 p2)]) (n := 7) (Nat.le_of_ble_eq_true rfl)
  rw [lg_entry_eq]
  generalize (lg_sl ([.ref (a 200), .int (i2 p0), .int (i2 p1), .int (i2 p2)]) ++ List.replicate (7 - (lg_sl ([.ref (a 200), .int (i2 p0), .int (i2 p1), .int (i2 p2)])).length) Slot.unset).toArray = ls at hl ⊢
  have hl : lv_has ls 7 [(0, .ref (a 200)), (1, .int (i2 p0)), (2, .int (i2 p1)), (3, .int (i2 p2))] := hl
  unfold m_x12_areBetween at h
  refine y_loop (pcJ := 10) (σ := Int × Int × Int × MS) (fun n u H locs ls => va_P D vwCl (RW D a u.2.2.2) H ∧ va_S A s₀.heap H locs ∧ lv_has ls 7 [(0, .ref (a 200)), (2, .int (i2 u.1)), (3, .int (i2 u.2.1)), (4, .int (i2 u.2.2.1))] ∧ m_x12_areBetween_L10 n u.1 u.2.1 u.2.2.1 u.2.2.2 = some o) (fun u => []) (fun u H locs ls hI => by obtain ⟨_, _, _, h⟩ := hI; cases h) (fun n10 ih10 u H locs ls hI => ?_) (fun J10 => ?_)
  · obtain ⟨hP, hS, hl, h⟩ := hI
    obtain ⟨x1, x2, x3, s4⟩ := u
    have hP : va_P D vwCl (RW D a s4) H := hP
    have hl : lv_has ls 7 [(0, .ref (a 200)), (2, .int (i2 x1)), (3, .int (i2 x2)), (4, .int (i2 x3))] := hl
    have h : m_x12_areBetween_b10 (m_x12_areBetween_L10 n10) x1 x2 x3 s4 = some o := h
    unfold m_x12_areBetween_b10 at h
    refine y_loop (pcJ := 30) (σ := Int × Int × Int × Int × Int × MS) (fun n u H locs ls => va_P D vwCl (RW D a u.2.2.2.2.2) H ∧ va_S A s₀.heap H locs ∧ lv_has ls 7 [(0, .ref (a 200)), (2, .int (i2 u.1)), (3, .int (i2 u.2.1)), (4, .int (i2 u.2.2.1)), (5, .int (i2 u.2.2.2.1)), (6, .int (i2 u.2.2.2.2.1))] ∧ m_x12_areBetween_L30 (m_x12_areBetween_L10 n10) n u.1 u.2.1 u.2.2.1 u.2.2.2.1 u.2.2.2.2.1 u.2.2.2.2.2 = some o) (fun u => []) (fun u H locs ls hI => by obtain ⟨_, _, _, h⟩ := hI; cases h) (fun n30 ih30 u H locs ls hI => ?_) (fun J30 => ?_)
    · obtain ⟨hP, hS, hl, h⟩ := hI
      obtain ⟨x5, x6, x7, x8, x9, s10⟩ := u
      have hP : va_P D vwCl (RW D a s10) H := hP
      have hl : lv_has ls 7 [(0, .ref (a 200)), (2, .int (i2 x5)), (3, .int (i2 x6)), (4, .int (i2 x7)), (5, .int (i2 x8)), (6, .int (i2 x9))] := hl
      have h : m_x12_areBetween_b30 (m_x12_areBetween_L10 n10) (m_x12_areBetween_L30 (m_x12_areBetween_L10 n10) n30) x5 x6 x7 x8 x9 s10 = some o := h
      unfold m_x12_areBetween_b30 at h
      refine y_head (pcJ := 96) (σ := Int × Int × Int × Int × Int × MS) (fun u H locs ls => va_P D vwCl (RW D a u.2.2.2.2.2) H ∧ va_S A s₀.heap H locs ∧ lv_has ls 7 [(0, .ref (a 200)), (2, .int (i2 u.1)), (3, .int (i2 u.2.1)), (4, .int (i2 u.2.2.1)), (5, .int (i2 u.2.2.2.1)), (6, .int (i2 u.2.2.2.2.1))] ∧ m_x12_areBetween_J96 (m_x12_areBetween_L10 n10) (m_x12_areBetween_L30 (m_x12_areBetween_L10 n10) n30) u.1 u.2.1 u.2.2.1 u.2.2.2.1 u.2.2.2.2.1 u.2.2.2.2.2 = some o) (fun u => []) (fun u H locs ls hI => ?_) (fun J96 => ?_)
      · obtain ⟨hP, hS, hl, h⟩ := hI
        obtain ⟨x11, x12, x13, x14, x15, s16⟩ := u
        have hP : va_P D vwCl (RW D a s16) H := hP
        have hl : lv_has ls 7 [(0, .ref (a 200)), (2, .int (i2 x11)), (3, .int (i2 x12)), (4, .int (i2 x13)), (5, .int (i2 x14)), (6, .int (i2 x15))] := hl
        have h : m_x12_areBetween_J96 (m_x12_areBetween_L10 n10) (m_x12_areBetween_L30 (m_x12_areBetween_L10 n10) n30) x11 x12 x13 x14 x15 s16 = some o := h
        unfold m_x12_areBetween_J96 at h
        refine lv_iinc (v := i2 (x15 + 1)) (lv' := [(6, .int (i2 (x15 + 1))), (0, .ref (a 200)), (2, .int (i2 x11)), (3, .int (i2 x12)), (4, .int (i2 x13)), (5, .int (i2 x14))]) hx hb eX12_areBetween_84.2.2.2.2.2.2.1 hl (k := 5) rfl (i2_add x15 1) (by decide) rfl (fun ls hl => ?_)
        refine lv_goto (tgt := 30) hx hb eX12_areBetween_84.2.2.2.2.2.2.2 (by decide) ?_
        exact ih30 (x11, x12, x13, x14, x15 + 1, s16) _ _ _ ⟨hP, hS, lv_sub hl [1, 2, 3, 4, 5, 0] rfl, h⟩
      refine lv_iload hx hb eX12_areBetween_28.2.1 (lv_at hl 5 rfl) ?_
      refine lv_aload_n hx hb eX12_areBetween_28.2.2.1 rfl (lv_at hl 0 rfl) ?_
      refine lv_iload hx hb eX12_areBetween_28.2.2.2.1 (lv_at hl 4 rfl) ?_
      refine lv_iconst (v := 3) hx hb eX12_areBetween_28.2.2.2.2.1 (by decide) ?_
      obtain ⟨r18, hc17, h⟩ := bn_e h
      refine ycV (r0 := i2 r18) (As := [.int (i2 x8), .int 3]) (rest := [.int (i2 x9)]) (C := RX12) (n := 2) ⟨hx, hb, hml, hown, ht⟩ (k_x12_laidOf l D a x8 3 _ _ hc17) (zgV ml_X12_816 im_X12_laidOf se_X12_laidOf in_X12 co_X12_laidOf) rfl rfl (by decide +kernel) ⟨Nat.le_of_ble_eq_true rfl, Nat.le_of_ble_eq_true rfl⟩ hN hK hP hS 0 RW_0 rfl rfl rfl hl.1 rfl (Nat.le_of_ble_eq_true rfl) eX12_areBetween_28.2.2.2.2.2.1 ⟨Nat.le_of_ble_eq_true rfl, Nat.le_of_ble_eq_true rfl⟩ (fun H locs hP hS => ?_)
      obtain ⟨hr19, h⟩ := rg_e h
      obtain ⟨hr20, h⟩ := rg_e h
      refine lv_icmp_ge (tgt := 102) hx hb eX12_areBetween_28.2.2.2.2.2.2.1 (by decide) (fun c21 => ?_) (fun c21 => ?_)
      · have h := if_t ((i2_le (x := r18) (y := x9) hr20 hr19).mp c21) h
        refine lv_goto (tgt := 10) hx hb eX12_areBetween_102.1 (by decide) ?_
        exact ih10 (x5, x6, x7, s10) _ _ _ ⟨hP, hS, lv_sub hl [0, 1, 2, 3] rfl, h⟩
      · have h := if_f (mt (i2_le (x := r18) (y := x9) hr20 hr19).mpr c21) h
        refine lv_aload_n hx hb eX12_areBetween_28.2.2.2.2.2.2.2 rfl (lv_at hl 0 rfl) ?_
        refine lv_iload hx hb eX12_areBetween_43.1 (lv_at hl 4 rfl) ?_
        refine lv_iconst (v := 2) hx hb eX12_areBetween_43.2.1 (by decide) ?_
        obtain ⟨r23, hc22, h⟩ := bn_e h
        refine ycV (r0 := i2 r23) (As := [.int (i2 x8), .int 2]) (rest := []) (C := RX12) (n := 2) ⟨hx, hb, hml, hown, ht⟩ (k_x12_laidOf l D a x8 2 _ _ hc22) (zgV ml_X12_816 im_X12_laidOf se_X12_laidOf in_X12 co_X12_laidOf) rfl rfl (by decide +kernel) ⟨Nat.le_of_ble_eq_true rfl, Nat.le_of_ble_eq_true rfl⟩ hN hK hP hS 0 RW_0 rfl rfl rfl hl.1 rfl (Nat.le_of_ble_eq_true rfl) eX12_areBetween_43.2.2.1 ⟨Nat.le_of_ble_eq_true rfl, Nat.le_of_ble_eq_true rfl⟩ (fun H locs hP hS => ?_)
        obtain ⟨hr24, h⟩ := rg_e h
        refine lv_if_ne (tgt := 75) hx hb eX12_areBetween_43.2.2.2.1 (by decide) (fun c25 => ?_) (fun c25 => ?_)
        · have h := if_f (mt (i2_eq (x := r23) (y := 0) hr24 (by decide)).mpr c25) h
          refine lv_aload_n hx hb eX12_areBetween_70.2.2.2.1 rfl (lv_at hl 0 rfl) ?_
          refine va_get (D := D) (ci := 12) (v := .ref (a 62)) (C := RX12) (T := TX12) (N := 116) hx hb ht inX12 hown hK hP 0 RW_0 rfl 62 (by decide) (ht (.fieldLink RX12 146 "CloneVolumesModel" "treeRow" "[I") fl_X12_146) (fun _ h9 => h9) mF_62 eX12_areBetween_70.2.2.2.2.1 ?_
          refine lv_iload hx hb eX12_areBetween_70.2.2.2.2.2.1 (lv_at hl 3 rfl) ?_
          refine lv_aload_n hx hb eX12_areBetween_70.2.2.2.2.2.2.1 rfl (lv_at hl 0 rfl) ?_
          refine lv_iload hx hb eX12_areBetween_70.2.2.2.2.2.2.2 (lv_at hl 4 rfl) ?_
          refine lv_bipush (v := 10) hx hb eX12_areBetween_84.1 (by decide) ?_
          refine lv_iload hx hb eX12_areBetween_84.2.1 (lv_at hl 5 rfl) ?_
          refine lv_iadd hx hb eX12_areBetween_84.2.2.1 ?_
          refine z_topi (y := i2 (10 + x9)) (i2_add 10 x9) ?_
          obtain ⟨r27, hc26, h⟩ := bn_e h
          refine ycV (r0 := i2 r27) (As := [.int (i2 x8), .int (i2 (10 + x9))]) (rest := [.int (i2 x7), .ref (a 62)]) (C := RX12) (n := 2) ⟨hx, hb, hml, hown, ht⟩ (k_x12_laidOf l D a x8 (10 + x9) _ _ hc26) (zgV ml_X12_816 im_X12_laidOf se_X12_laidOf in_X12 co_X12_laidOf) rfl rfl (by decide +kernel) ⟨Nat.le_of_ble_eq_true rfl, Nat.le_of_ble_eq_true rfl⟩ hN hK hP hS 0 RW_0 rfl rfl rfl hl.1 rfl (Nat.le_of_ble_eq_true rfl) eX12_areBetween_84.2.2.2.1 ⟨Nat.le_of_ble_eq_true rfl, Nat.le_of_ble_eq_true rfl⟩ (fun H locs hP hS => ?_)
          obtain ⟨hi28, h⟩ := inb_e h
          refine ya_iast (i := x7) (x := r27) hx hb hK hP (hDD _) hS 44 0 RW_44 rfl (by decide) hi28 eX12_areBetween_84.2.2.2.2.1 (RW_w44 _) (fun H locs hP hS => ?_)
          obtain ⟨s29, hs29, h⟩ := st_e h
          rw [hs29] at hP
          refine lv_iinc (v := i2 (x7 + 1)) (lv' := [(4, .int (i2 (x7 + 1))), (0, .ref (a 200)), (2, .int (i2 x5)), (3, .int (i2 x6)), (5, .int (i2 x8)), (6, .int (i2 x9))]) hx hb eX12_areBetween_84.2.2.2.2.2.1 hl (k := 3) rfl (i2_add x7 1) (by decide) rfl (fun ls hl => ?_)
          exact J96 (x5, x6, x7 + 1, x8, x9, s29) _ _ _ ⟨hP, hS, lv_sub hl [1, 2, 3, 0, 4, 5] rfl, h⟩
        · have h := if_t ((i2_eq (x := r23) (y := 0) hr24 (by decide)).mp c25) h
          refine lv_aload_n hx hb eX12_areBetween_43.2.2.2.2.1 rfl (lv_at hl 0 rfl) ?_
          refine lv_iload hx hb eX12_areBetween_43.2.2.2.2.2.1 (lv_at hl 4 rfl) ?_
          refine lv_iconst (v := 4) hx hb eX12_areBetween_43.2.2.2.2.2.2.1 (by decide) ?_
          refine lv_iload hx hb eX12_areBetween_43.2.2.2.2.2.2.2 (lv_at hl 5 rfl) ?_
          refine lv_iadd hx hb eX12_areBetween_58.1 ?_
          refine z_topi (y := i2 (4 + x9)) (i2_add 4 x9) ?_
          obtain ⟨r31, hc30, h⟩ := bn_e h
          refine ycV (r0 := i2 r31) (As := [.int (i2 x8), .int (i2 (4 + x9))]) (rest := []) (C := RX12) (n := 2) ⟨hx, hb, hml, hown, ht⟩ (k_x12_laidOf l D a x8 (4 + x9) _ _ hc30) (zgV ml_X12_816 im_X12_laidOf se_X12_laidOf in_X12 co_X12_laidOf) rfl rfl (by decide +kernel) ⟨Nat.le_of_ble_eq_true rfl, Nat.le_of_ble_eq_true rfl⟩ hN hK hP hS 0 RW_0 rfl rfl rfl hl.1 rfl (Nat.le_of_ble_eq_true rfl) eX12_areBetween_58.2.1 ⟨Nat.le_of_ble_eq_true rfl, Nat.le_of_ble_eq_true rfl⟩ (fun H locs hP hS => ?_)
          obtain ⟨hr32, h⟩ := rg_e h
          refine lv_i2l (v := i8 r31) hx hb eX12_areBetween_58.2.2.1 (i2_l hr32) ?_
          refine lv_iload_n hx hb eX12_areBetween_58.2.2.2.1 rfl (lv_at hl 1 rfl) ?_
          obtain ⟨hr33, h⟩ := rg_e h
          refine lv_i2l (v := i8 x5) hx hb eX12_areBetween_58.2.2.2.2.1 (i2_l hr33) ?_
          refine lv_iload_n hx hb eX12_areBetween_58.2.2.2.2.2.1 rfl (lv_at hl 2 rfl) ?_
          obtain ⟨hr34, h⟩ := rg_e h
          refine lv_i2l (v := i8 x6) hx hb eX12_areBetween_58.2.2.2.2.2.2.1 (i2_l hr34) ?_
          obtain ⟨r36, hc35, h⟩ := bn_e h
          refine ycS (r0 := i2 r36) (As := [.long (i8 r31), .long (i8 x5), .long (i8 x6)]) (rest := []) (n := 3) ⟨hx, hb, hml, hown, ht⟩ (k_x12_isIn l D a r31 x5 x6 _ _ hc35) (zgT ml_X12_309 st_X12_isIn in_X12 co_X12_isIn) rfl rfl (by decide +kernel) ⟨Nat.le_of_ble_eq_true rfl, Nat.le_of_ble_eq_true rfl⟩ hN hK hP hS rfl hl.1 rfl (Nat.le_of_ble_eq_true rfl) eX12_areBetween_58.2.2.2.2.2.2.2 ⟨Nat.le_of_ble_eq_true rfl, Nat.le_of_ble_eq_true rfl⟩ (fun H locs hP hS => ?_)
          obtain ⟨hr37, h⟩ := rg_e h
          refine lv_if_ne (tgt := 96) hx hb eX12_areBetween_70.1 (by decide) (fun c38 => ?_) (fun c38 => ?_)
          · have h := if_f (mt (i2_eq (x := r36) (y := 0) hr37 (by decide)).mpr c38) h
            exact J96 (x5, x6, x7, x8, x9, s10) _ _ _ ⟨hP, hS, lv_sub hl [0, 1, 2, 3, 4, 5] rfl, h⟩
          · have h := if_t ((i2_eq (x := r36) (y := 0) hr37 (by decide)).mp c38) h
            refine lv_iconst (v := 0) hx hb eX12_areBetween_70.2.1 (by decide) ?_
            obtain rfl := Option.some.inj h
            exact W.zret (v := 0) hx hb hr (by decide) (fun t ht hW => ⟨⟨_, (), rfl, rfl, by rw [ht]; exact hP, va_K.moved hW.alike hK, hDD _⟩, hS.F ht⟩) hS.2.2 eX12_areBetween_70.2.2.1
    refine lv_iload hx hb eX12_areBetween_0.2.2.2.2.2.2.2 (lv_at hl 3 rfl) ?_
    obtain ⟨hr39, h⟩ := rg_e h
    refine lv_if_le (tgt := 105) hx hb eX12_areBetween_12.1 (by decide) (fun c40 => ?_) (fun c40 => ?_)
    · have h := if_t ((i2_le (x := x3) (y := 0) hr39 (by decide)).mp c40) h
      refine lv_iconst (v := 1) hx hb eX12_areBetween_102.2.1 (by decide) ?_
      obtain rfl := Option.some.inj h
      exact W.zret (v := 1) hx hb hr (by decide) (fun t ht hW => ⟨⟨_, (), rfl, rfl, by rw [ht]; exact hP, va_K.moved hW.alike hK, hDD _⟩, hS.F ht⟩) hS.2.2 eX12_areBetween_102.2.2.1
    · have h := if_f (mt (i2_le (x := x3) (y := 0) hr39 (by decide)).mpr c40) h
      refine lv_iinc (v := i2 (x3 + (-1))) (lv' := [(4, .int (i2 (x3 + (-1)))), (0, .ref (a 200)), (2, .int (i2 x1)), (3, .int (i2 x2))]) hx hb eX12_areBetween_12.2.1 hl (k := 3) rfl (i2_add x3 (-1)) (by decide) rfl (fun ls hl => ?_)
      refine lv_aload_n hx hb eX12_areBetween_12.2.2.1 rfl (lv_at hl 1 rfl) ?_
      refine va_get (D := D) (ci := 12) (v := .ref (a 62)) (C := RX12) (T := TX12) (N := 116) hx hb ht inX12 hown hK hP 0 RW_0 rfl 62 (by decide) (ht (.fieldLink RX12 146 "CloneVolumesModel" "treeRow" "[I") fl_X12_146) (fun _ h9 => h9) mF_62 eX12_areBetween_12.2.2.2.1 ?_
      refine lv_iload hx hb eX12_areBetween_12.2.2.2.2.1 (lv_at hl 0 rfl) ?_
      obtain ⟨y41, ey41, iy41, h⟩ := rdI_e h
      refine ya_iald (i := (x3 + (-1))) hx hb hK hP 44 0 RW_44 rfl (by decide) ey41 iy41 eX12_areBetween_12.2.2.2.2.2.1 ?_
      refine lv_istore (lv' := [(5, .int (i2 y41)), (4, .int (i2 (x3 + (-1)))), (0, .ref (a 200)), (2, .int (i2 x1)), (3, .int (i2 x2))]) hx hb eX12_areBetween_12.2.2.2.2.2.2.1 hl (by decide) rfl (fun ls hl => ?_)
      refine lv_iconst (v := 0) hx hb eX12_areBetween_12.2.2.2.2.2.2.2 (by decide) ?_
      refine lv_istore (lv' := [(6, .int 0), (5, .int (i2 y41)), (4, .int (i2 (x3 + (-1)))), (0, .ref (a 200)), (2, .int (i2 x1)), (3, .int (i2 x2))]) hx hb eX12_areBetween_28.1 hl (by decide) rfl (fun ls hl => ?_)
      exact J30 FU (x1, x2, x3 + (-1), y41, 0, s4) _ _ _ ⟨hP, hS, lv_sub hl [3, 4, 5, 2, 1, 0] rfl, h⟩
  refine lv_iconst (v := 1) hx hb eX12_areBetween_0.1 (by decide) ?_
  refine lv_istore (lv' := [(4, .int 1), (0, .ref (a 200)), (1, .int (i2 p0)), (2, .int (i2 p1)), (3, .int (i2 p2))]) hx hb eX12_areBetween_0.2.1 hl (by decide) rfl (fun ls hl => ?_)
  refine lv_aload_n hx hb eX12_areBetween_0.2.2.1 rfl (lv_at hl 1 rfl) ?_
  refine va_get (D := D) (ci := 12) (v := .ref (a 62)) (C := RX12) (T := TX12) (N := 116) hx hb ht inX12 hown hK hP 0 RW_0 rfl 62 (by decide) (ht (.fieldLink RX12 146 "CloneVolumesModel" "treeRow" "[I") fl_X12_146) (fun _ h9 => h9) mF_62 eX12_areBetween_0.2.2.2.1 ?_
  refine lv_iconst (v := 0) hx hb eX12_areBetween_0.2.2.2.2.1 (by decide) ?_
  refine lv_iload_n hx hb eX12_areBetween_0.2.2.2.2.2.1 rfl (lv_at hl 2 rfl) ?_
  obtain ⟨hi42, h⟩ := inb_e h
  refine ya_iast (i := 0) (x := p0) hx hb hK hP (hDD _) hS 44 0 RW_44 rfl (by decide) hi42 eX12_areBetween_0.2.2.2.2.2.2.1 (RW_w44 _) (fun H locs hP hS => ?_)
  obtain ⟨s43, hs43, h⟩ := st_e h
  rw [hs43] at hP
  exact J10 FU (p1, p2, 1, s43) _ _ _ ⟨hP, hS, lv_sub hl [1, 3, 4, 0] rfl, h⟩
set_option maxHeartbeats 4000000 in
set_option maxRecDepth 100000 in
theorem k_x12_areKeys (l : Launch) (D : va_G) (a : Nat → Nat) (p0 : Int) (sz : Nat) (s : MS) (o : (Int × MS)) (h : m_x12_areKeys p0 s = some o) : yWi l yX12_areKeys cX12_areKeys 4 (some .boolean) { frames := 2, cells := 0, slots := 0, locals := 120 } D sz [.ref (a 200), .int (i2 p0)] (RW D a s) (RW D a o.2) (i2 o.1) := by
  refine Met.ofW (cc := cX12_areKeys) (maxL := 4) (ret := (some .boolean)) (by decide) rfl ?_
  intro p e s₀ m args below meth c s₁ B hml hv
  obtain ⟨rfl, ⟨hsz, hP, hK, hD0⟩, hN⟩ := hv
  have hx := B.exec
  have hb := B.bytes
  have hr := B.returns
  have hts := atoms_spec (ws := wz yX12_areKeys cX12_areKeys 4 (some .boolean)) B.pre
  have ht : ∀ w ∈ lw_gd, w.before _ s₀ = true := fun w h => hts w (List.mem_cons_of_mem _ h)
  have hown : s₀.vm.findClass RX12 = some m.cls := findClass_of_methodNamed B.named
  have hlocks := B.notSynchronized
  subst hsz
  have hD := hD0.self (sz := s₀.heap.size)
  generalize hAe : va_A (RW D a s) s₀.heap.size = A at hD ⊢
  have hA : ∀ q : Nat, s₀.heap.size ≤ q → A q := fun q h => by rw [← hAe]; exact Or.inr h
  have hS : va_S A s₀.heap s₀.heap [] := va_S.rf
  have hDD : ∀ t : MS, va_D A (RW D a t) := fun t => RW_D t hD
  have hl := lv_entry ([.ref (a 200), .int (i2 p0)]) (n := 4) (Nat.le_of_ble_eq_true rfl)
  rw [lg_entry_eq]
  generalize (lg_sl ([.ref (a 200), .int (i2 p0)]) ++ List.replicate (4 - (lg_sl ([.ref (a 200), .int (i2 p0)])).length) Slot.unset).toArray = ls at hl ⊢
  have hl : lv_has ls 4 [(0, .ref (a 200)), (1, .int (i2 p0))] := hl
  unfold m_x12_areKeys at h
  refine y_head (pcJ := 86) (σ := MS) (fun u H locs ls => va_P D vwCl (RW D a u) H ∧ va_S A s₀.heap H locs ∧ lv_has ls 4 [] ∧ m_x12_areKeys_J86 u = some o) (fun u => []) (fun u H locs ls hI => ?_) (fun J86 => ?_)
  · obtain ⟨hP, hS, hl, h⟩ := hI
    obtain ⟨s1, rfl⟩ : ∃ z, z = u := ⟨u, rfl⟩
    have hP : va_P D vwCl (RW D a s1) H := hP
    have hl : lv_has ls 4 [] := hl
    have h : m_x12_areKeys_J86 s1 = some o := h
    unfold m_x12_areKeys_J86 at h
    refine lv_iconst (v := 1) hx hb eX12_areKeys_72.2.2.2.2.2.2.1 (by decide) ?_
    obtain rfl := Option.some.inj h
    exact W.zret (v := 1) hx hb hr (by decide) (fun t ht hW => ⟨⟨_, (), rfl, rfl, by rw [ht]; exact hP, va_K.moved hW.alike hK, hDD _⟩, hS.F ht⟩) hS.2.2 eX12_areKeys_72.2.2.2.2.2.2.2
  refine y_loop (pcJ := 9) (σ := Int × Int × Int × MS) (fun n u H locs ls => va_P D vwCl (RW D a u.2.2.2) H ∧ va_S A s₀.heap H locs ∧ lv_has ls 4 [(0, .ref (a 200)), (1, .int (i2 u.1)), (2, .int (i2 u.2.1)), (3, .int (i2 u.2.2.1))] ∧ m_x12_areKeys_L9 n u.1 u.2.1 u.2.2.1 u.2.2.2 = some o) (fun u => []) (fun u H locs ls hI => by obtain ⟨_, _, _, h⟩ := hI; cases h) (fun n9 ih9 u H locs ls hI => ?_) (fun J9 => ?_)
  · obtain ⟨hP, hS, hl, h⟩ := hI
    obtain ⟨x2, x3, x4, s5⟩ := u
    have hP : va_P D vwCl (RW D a s5) H := hP
    have hl : lv_has ls 4 [(0, .ref (a 200)), (1, .int (i2 x2)), (2, .int (i2 x3)), (3, .int (i2 x4))] := hl
    have h : m_x12_areKeys_b9 (m_x12_areKeys_L9 n9) x2 x3 x4 s5 = some o := h
    unfold m_x12_areKeys_b9 at h
    refine y_head (pcJ := 72) (σ := Int × Int × Int × Int × Int × Int × MS) (fun u H locs ls => va_P D vwCl (RW D a u.2.2.2.2.2.2) H ∧ va_S A s₀.heap H locs ∧ lv_has ls 4 [(0, .ref (a 200)), (1, .int (i2 u.1)), (2, .int (i2 u.2.1)), (3, .int (i2 u.2.2.1))] ∧ m_x12_areKeys_J72 (m_x12_areKeys_L9 n9) u.1 u.2.1 u.2.2.1 u.2.2.2.1 u.2.2.2.2.1 u.2.2.2.2.2.1 u.2.2.2.2.2.2 = some o) (fun u => [.int (i2 u.2.2.2.1), .int (i2 u.2.2.2.2.1), .int (i2 u.2.2.2.2.2.1), .ref (a 200)]) (fun u H locs ls hI => ?_) (fun J72 => ?_)
    · obtain ⟨hP, hS, hl, h⟩ := hI
      obtain ⟨x6, x7, x8, x9, x10, x11, s12⟩ := u
      have hP : va_P D vwCl (RW D a s12) H := hP
      have hl : lv_has ls 4 [(0, .ref (a 200)), (1, .int (i2 x6)), (2, .int (i2 x7)), (3, .int (i2 x8))] := hl
      have h : m_x12_areKeys_J72 (m_x12_areKeys_L9 n9) x6 x7 x8 x9 x10 x11 s12 = some o := h
      unfold m_x12_areKeys_J72 at h
      obtain ⟨⟨r15, s14⟩, hc13, h⟩ := bn_e h
      refine ywV (r0 := i2 r15) (As := [.int (i2 x11), .int (i2 x10), .int (i2 x9)]) (rest := []) (C := RX12) (n := 3) (ws' := RW D a s14) ⟨hx, hb, hml, hown, ht⟩ (k_x12_areBetween l D a x11 x10 x9 _ _ _ hc13) (zgV ml_X12_819 im_X12_areBetween se_X12_areBetween in_X12 co_X12_areBetween) rfl rfl (by decide +kernel) ⟨Nat.le_of_ble_eq_true rfl, Nat.le_of_ble_eq_true rfl⟩ hN hK hP (hDD _) hS hA 0 RW_0 rfl rfl rfl hl.1 rfl (Nat.le_of_ble_eq_true rfl) eX12_areKeys_72.1 ⟨Nat.le_of_ble_eq_true rfl, Nat.le_of_ble_eq_true rfl⟩ (fun H locs hP hS => ?_)
      obtain ⟨hr16, h⟩ := rg_e h
      refine lv_if_ne (tgt := 80) hx hb eX12_areKeys_72.2.1 (by decide) (fun c17 => ?_) (fun c17 => ?_)
      · have h := if_f (mt (i2_eq (x := r15) (y := 0) hr16 (by decide)).mpr c17) h
        refine lv_iinc (v := i2 (x8 + 1)) (lv' := [(3, .int (i2 (x8 + 1))), (0, .ref (a 200)), (1, .int (i2 x6)), (2, .int (i2 x7))]) hx hb eX12_areKeys_72.2.2.2.2.1 hl (k := 3) rfl (i2_add x8 1) (by decide) rfl (fun ls hl => ?_)
        refine lv_goto (tgt := 9) hx hb eX12_areKeys_72.2.2.2.2.2.1 (by decide) ?_
        exact ih9 (x6, x7, x8 + 1, s14) _ _ _ ⟨hP, hS, lv_sub hl [1, 2, 3, 0] rfl, h⟩
      · have h := if_t ((i2_eq (x := r15) (y := 0) hr16 (by decide)).mp c17) h
        refine lv_iconst (v := 0) hx hb eX12_areKeys_72.2.2.1 (by decide) ?_
        obtain rfl := Option.some.inj h
        exact W.zret (v := 0) hx hb hr (by decide) (fun t ht hW => ⟨⟨_, (), rfl, rfl, by rw [ht]; exact hP, va_K.moved hW.alike hK, hDD _⟩, hS.F ht⟩) hS.2.2 eX12_areKeys_72.2.2.2.1
    refine y_head (pcJ := 49) (σ := Int × Int × Int × Int × Int × MS) (fun u H locs ls => va_P D vwCl (RW D a u.2.2.2.2.2) H ∧ va_S A s₀.heap H locs ∧ lv_has ls 4 [(0, .ref (a 200)), (1, .int (i2 u.1)), (2, .int (i2 u.2.1)), (3, .int (i2 u.2.2.1))] ∧ m_x12_areKeys_J49 (m_x12_areKeys_L9 n9) u.1 u.2.1 u.2.2.1 u.2.2.2.1 u.2.2.2.2.1 u.2.2.2.2.2 = some o) (fun u => [.int (i2 u.2.2.2.1), .int (i2 u.2.2.2.2.1), .ref (a 200)]) (fun u H locs ls hI => ?_) (fun J49 => ?_)
    · obtain ⟨hP, hS, hl, h⟩ := hI
      obtain ⟨x18, x19, x20, x21, x22, s23⟩ := u
      have hP : va_P D vwCl (RW D a s23) H := hP
      have hl : lv_has ls 4 [(0, .ref (a 200)), (1, .int (i2 x18)), (2, .int (i2 x19)), (3, .int (i2 x20))] := hl
      have h : m_x12_areKeys_J49 (m_x12_areKeys_L9 n9) x18 x19 x20 x21 x22 s23 = some o := h
      unfold m_x12_areKeys_J49 at h
      refine lv_iload_n hx hb eX12_areKeys_46.2.1 rfl (lv_at hl 3 rfl) ?_
      refine lv_iconst (v := 1) hx hb eX12_areKeys_46.2.2.1 (by decide) ?_
      refine lv_iadd hx hb eX12_areKeys_46.2.2.2.1 ?_
      refine z_topi (y := i2 (x20 + 1)) (i2_add x20 1) ?_
      refine lv_iload_n hx hb eX12_areKeys_46.2.2.2.2.1 rfl (lv_at hl 2 rfl) ?_
      obtain ⟨hr24, h⟩ := rg_e h
      obtain ⟨hr25, h⟩ := rg_e h
      refine lv_icmp_ge (tgt := 69) hx hb eX12_areKeys_46.2.2.2.2.2.1 (by decide) (fun c26 => ?_) (fun c26 => ?_)
      · have h := if_t ((i2_le (x := x19) (y := (x20 + 1)) hr25 hr24).mp c26) h
        refine lv_sipush (v := 999) hx hb eX12_areKeys_58.2.2.2.2.2.2.2 (by decide) ?_
        exact J72 (x18, x19, x20, 999, x21, x22, s23) _ _ _ ⟨hP, hS, lv_sub hl [0, 1, 2, 3] rfl, h⟩
      · have h := if_f (mt (i2_le (x := x19) (y := (x20 + 1)) hr25 hr24).mpr c26) h
        refine lv_aload_n hx hb eX12_areKeys_46.2.2.2.2.2.2.1 rfl (lv_at hl 0 rfl) ?_
        refine lv_iload_n hx hb eX12_areKeys_46.2.2.2.2.2.2.2 rfl (lv_at hl 1 rfl) ?_
        refine lv_iconst (v := 5) hx hb eX12_areKeys_58.1 (by decide) ?_
        refine lv_iload_n hx hb eX12_areKeys_58.2.1 rfl (lv_at hl 3 rfl) ?_
        refine lv_iadd hx hb eX12_areKeys_58.2.2.1 ?_
        refine z_topi (y := i2 (5 + x20)) (i2_add 5 x20) ?_
        obtain ⟨r28, hc27, h⟩ := bn_e h
        refine ycV (r0 := i2 r28) (As := [.int (i2 x18), .int (i2 (5 + x20))]) (rest := [.int (i2 x21), .int (i2 x22), .ref (a 200)]) (C := RX12) (n := 2) ⟨hx, hb, hml, hown, ht⟩ (k_x12_laidOf l D a x18 (5 + x20) _ _ hc27) (zgV ml_X12_816 im_X12_laidOf se_X12_laidOf in_X12 co_X12_laidOf) rfl rfl (by decide +kernel) ⟨Nat.le_of_ble_eq_true rfl, Nat.le_of_ble_eq_true rfl⟩ hN hK hP hS 0 RW_0 rfl rfl rfl hl.1 rfl (Nat.le_of_ble_eq_true rfl) eX12_areKeys_58.2.2.2.1 ⟨Nat.le_of_ble_eq_true rfl, Nat.le_of_ble_eq_true rfl⟩ (fun H locs hP hS => ?_)
        refine lv_iconst (v := 1) hx hb eX12_areKeys_58.2.2.2.2.1 (by decide) ?_
        refine lv_isub hx hb eX12_areKeys_58.2.2.2.2.2.1 ?_
        refine z_topi (y := i2 (r28 - 1)) (i2_sub r28 1) ?_
        refine lv_goto (tgt := 72) hx hb eX12_areKeys_58.2.2.2.2.2.2.1 (by decide) ?_
        exact J72 (x18, x19, x20, r28 - 1, x21, x22, s23) _ _ _ ⟨hP, hS, lv_sub hl [0, 1, 2, 3] rfl, h⟩
    refine lv_iload_n hx hb eX12_areKeys_9.1 rfl (lv_at hl 3 rfl) ?_
    refine lv_iload_n hx hb eX12_areKeys_9.2.1 rfl (lv_at hl 2 rfl) ?_
    obtain ⟨hr29, h⟩ := rg_e h
    obtain ⟨hr30, h⟩ := rg_e h
    refine lv_icmp_ge (tgt := 86) hx hb eX12_areKeys_9.2.2.1 (by decide) (fun c31 => ?_) (fun c31 => ?_)
    · have h := if_t ((i2_le (x := x3) (y := x4) hr30 hr29).mp c31) h
      exact J86 s5 _ _ _ ⟨hP, hS, lv_sub hl [] rfl, h⟩
    · have h := if_f (mt (i2_le (x := x3) (y := x4) hr30 hr29).mpr c31) h
      refine lv_aload_n hx hb eX12_areKeys_9.2.2.2.1 rfl (lv_at hl 0 rfl) ?_
      refine lv_iload_n hx hb eX12_areKeys_9.2.2.2.2.1 rfl (lv_at hl 1 rfl) ?_
      refine lv_iconst (v := 2) hx hb eX12_areKeys_9.2.2.2.2.2.1 (by decide) ?_
      obtain ⟨r33, hc32, h⟩ := bn_e h
      refine ycV (r0 := i2 r33) (As := [.int (i2 x2), .int 2]) (rest := []) (C := RX12) (n := 2) ⟨hx, hb, hml, hown, ht⟩ (k_x12_laidOf l D a x2 2 _ _ hc32) (zgV ml_X12_816 im_X12_laidOf se_X12_laidOf in_X12 co_X12_laidOf) rfl rfl (by decide +kernel) ⟨Nat.le_of_ble_eq_true rfl, Nat.le_of_ble_eq_true rfl⟩ hN hK hP hS 0 RW_0 rfl rfl rfl hl.1 rfl (Nat.le_of_ble_eq_true rfl) eX12_areKeys_9.2.2.2.2.2.2.1 ⟨Nat.le_of_ble_eq_true rfl, Nat.le_of_ble_eq_true rfl⟩ (fun H locs hP hS => ?_)
      obtain ⟨hr34, h⟩ := rg_e h
      refine lv_if_le (tgt := 86) hx hb eX12_areKeys_9.2.2.2.2.2.2.2 (by decide) (fun c35 => ?_) (fun c35 => ?_)
      · have h := if_t ((i2_le (x := r33) (y := 0) hr34 (by decide)).mp c35) h
        exact J86 s5 _ _ _ ⟨hP, hS, lv_sub hl [] rfl, h⟩
      · have h := if_f (mt (i2_le (x := r33) (y := 0) hr34 (by decide)).mpr c35) h
        refine lv_aload_n hx hb eX12_areKeys_23.1 rfl (lv_at hl 0 rfl) ?_
        refine lv_aload_n hx hb eX12_areKeys_23.2.1 rfl (lv_at hl 0 rfl) ?_
        refine lv_iload_n hx hb eX12_areKeys_23.2.2.1 rfl (lv_at hl 1 rfl) ?_
        refine lv_bipush (v := 10) hx hb eX12_areKeys_23.2.2.2.1 (by decide) ?_
        refine lv_iload_n hx hb eX12_areKeys_23.2.2.2.2.1 rfl (lv_at hl 3 rfl) ?_
        refine lv_iadd hx hb eX12_areKeys_23.2.2.2.2.2.1 ?_
        refine z_topi (y := i2 (10 + x4)) (i2_add 10 x4) ?_
        obtain ⟨r37, hc36, h⟩ := bn_e h
        refine ycV (r0 := i2 r37) (As := [.int (i2 x2), .int (i2 (10 + x4))]) (rest := [.ref (a 200)]) (C := RX12) (n := 2) ⟨hx, hb, hml, hown, ht⟩ (k_x12_laidOf l D a x2 (10 + x4) _ _ hc36) (zgV ml_X12_816 im_X12_laidOf se_X12_laidOf in_X12 co_X12_laidOf) rfl rfl (by decide +kernel) ⟨Nat.le_of_ble_eq_true rfl, Nat.le_of_ble_eq_true rfl⟩ hN hK hP hS 0 RW_0 rfl rfl rfl hl.1 rfl (Nat.le_of_ble_eq_true rfl) eX12_areKeys_23.2.2.2.2.2.2.1 ⟨Nat.le_of_ble_eq_true rfl, Nat.le_of_ble_eq_true rfl⟩ (fun H locs hP hS => ?_)
        refine lv_iload_n hx hb eX12_areKeys_23.2.2.2.2.2.2.2 rfl (lv_at hl 3 rfl) ?_
        obtain ⟨hr38, h⟩ := rg_e h
        refine lv_if_ne (tgt := 41) hx hb eX12_areKeys_34.1 (by decide) (fun c39 => ?_) (fun c39 => ?_)
        · have h := if_f (mt (i2_eq (x := x4) (y := 0) hr38 (by decide)).mpr c39) h
          refine lv_aload_n hx hb eX12_areKeys_34.2.2.2.1 rfl (lv_at hl 0 rfl) ?_
          refine lv_iload_n hx hb eX12_areKeys_34.2.2.2.2.1 rfl (lv_at hl 1 rfl) ?_
          refine lv_iconst (v := 4) hx hb eX12_areKeys_34.2.2.2.2.2.1 (by decide) ?_
          refine lv_iload_n hx hb eX12_areKeys_34.2.2.2.2.2.2.1 rfl (lv_at hl 3 rfl) ?_
          refine lv_iadd hx hb eX12_areKeys_34.2.2.2.2.2.2.2 ?_
          refine z_topi (y := i2 (4 + x4)) (i2_add 4 x4) ?_
          obtain ⟨r41, hc40, h⟩ := bn_e h
          refine ycV (r0 := i2 r41) (As := [.int (i2 x2), .int (i2 (4 + x4))]) (rest := [.int (i2 r37), .ref (a 200)]) (C := RX12) (n := 2) ⟨hx, hb, hml, hown, ht⟩ (k_x12_laidOf l D a x2 (4 + x4) _ _ hc40) (zgV ml_X12_816 im_X12_laidOf se_X12_laidOf in_X12 co_X12_laidOf) rfl rfl (by decide +kernel) ⟨Nat.le_of_ble_eq_true rfl, Nat.le_of_ble_eq_true rfl⟩ hN hK hP hS 0 RW_0 rfl rfl rfl hl.1 rfl (Nat.le_of_ble_eq_true rfl) eX12_areKeys_46.1 ⟨Nat.le_of_ble_eq_true rfl, Nat.le_of_ble_eq_true rfl⟩ (fun H locs hP hS => ?_)
          exact J49 (x2, x3, x4, r41, r37, s5) _ _ _ ⟨hP, hS, lv_sub hl [0, 1, 2, 3] rfl, h⟩
        · have h := if_t ((i2_eq (x := x4) (y := 0) hr38 (by decide)).mp c39) h
          refine lv_iconst (v := 0) hx hb eX12_areKeys_34.2.1 (by decide) ?_
          refine lv_goto (tgt := 49) hx hb eX12_areKeys_34.2.2.1 (by decide) ?_
          exact J49 (x2, x3, x4, 0, r37, s5) _ _ _ ⟨hP, hS, lv_sub hl [0, 1, 2, 3] rfl, h⟩
  refine lv_aload_n hx hb eX12_areCounts_185.2.1 rfl (lv_at hl 0 rfl) ?_
  refine lv_iload_n hx hb eX12_areCounts_185.2.2.1 rfl (lv_at hl 1 rfl) ?_
  refine lv_iconst (v := 3) hx hb eX12_areCounts_185.2.2.2.1 (by decide) ?_
  obtain ⟨r43, hc42, h⟩ := bn_e h
  refine ycV (r0 := i2 r43) (As := [.int (i2 p0), .int 3]) (rest := []) (C := RX12) (n := 2) ⟨hx, hb, hml, hown, ht⟩ (k_x12_laidOf l D a p0 3 _ _ hc42) (zgV ml_X12_816 im_X12_laidOf se_X12_laidOf in_X12 co_X12_laidOf) rfl rfl (by decide +kernel) ⟨Nat.le_of_ble_eq_true rfl, Nat.le_of_ble_eq_true rfl⟩ hN hK hP hS 0 RW_0 rfl rfl rfl hl.1 rfl (Nat.le_of_ble_eq_true rfl) eX12_areCounts_185.2.2.2.2.1 ⟨Nat.le_of_ble_eq_true rfl, Nat.le_of_ble_eq_true rfl⟩ (fun H locs hP hS => ?_)
  refine lv_istore_n (lv' := [(2, .int (i2 r43)), (0, .ref (a 200)), (1, .int (i2 p0))]) hx hb eX12_areCounts_185.2.2.2.2.2.1 rfl hl (by decide) rfl (fun ls hl => ?_)
  refine lv_iconst (v := 0) hx hb eX12_areCounts_185.2.2.2.2.2.2.1 (by decide) ?_
  refine lv_istore_n (lv' := [(3, .int 0), (2, .int (i2 r43)), (0, .ref (a 200)), (1, .int (i2 p0))]) hx hb eX12_areCounts_185.2.2.2.2.2.2.2 rfl hl (by decide) rfl (fun ls hl => ?_)
  exact J9 FU (p0, r43, 0, s) _ _ _ ⟨hP, hS, lv_sub hl [2, 3, 1, 0] rfl, h⟩
set_option maxHeartbeats 4000000 in
set_option maxRecDepth 100000 in
theorem k_x12_checked_v2 (l : Launch) (D : va_G) (a : Nat → Nat) (p1 : Int) (s : MS) (o : Int) (h : m_x12_checked_v2 p1 s = some o) : yRi l yX12_checked cX12_checked 4 (some .int) { frames := 0, cells := 0, slots := 0, locals := 0 } D [.ref (a 0), .int (i2 p1)] (RW D a s) (i2 o) := by
  refine Met.ofW (cc := cX12_checked) (maxL := 4) (ret := (some .int)) (by decide) rfl ?_
  intro p e s₀ m args below meth c s₁ B hml hv
  obtain ⟨rfl, ⟨hP, hK⟩, hN⟩ := hv
  have hx := B.exec
  have hb := B.bytes
  have hr := B.returns
  have hts := atoms_spec (ws := wz yX12_checked cX12_checked 4 (some .int)) B.pre
  have ht : ∀ w ∈ lw_gd, w.before _ s₀ = true := fun w h => hts w (List.mem_cons_of_mem _ h)
  have hown : s₀.vm.findClass RX12 = some m.cls := findClass_of_methodNamed B.named
  have hlocks := B.notSynchronized
  have hS : va_S (fun _ => False) s₀.heap s₀.heap [] := va_S.rf
  have hl := lv_entry ([.ref (a 0), .int (i2 p1)]) (n := 4) (Nat.le_of_ble_eq_true rfl)
  rw [lg_entry_eq]
  generalize (lg_sl ([.ref (a 0), .int (i2 p1)]) ++ List.replicate (4 - (lg_sl ([.ref (a 0), .int (i2 p1)])).length) Slot.unset).toArray = ls at hl ⊢
  have hl : lv_has ls 4 [(0, .ref (a 0)), (1, .int (i2 p1))] := hl
  unfold m_x12_checked_v2 at h
  refine y_loop (pcJ := 6) (σ := Int × Int × Int) (fun n u H locs ls => va_P D vwCl (RW D a s) H ∧ va_S (fun _ => False) s₀.heap H locs ∧ lv_has ls 4 [(0, .ref (a 0)), (1, .int (i2 u.1)), (2, .int (i2 u.2.1)), (3, .int (i2 u.2.2))] ∧ m_x12_checked_v2_L6 s n u.1 u.2.1 u.2.2 = some o) (fun u => []) (fun u H locs ls hI => by obtain ⟨_, _, _, h⟩ := hI; cases h) (fun n6 ih6 u H locs ls hI => ?_) (fun J6 => ?_)
  · obtain ⟨hP, hS, hl, h⟩ := hI
    obtain ⟨x1, x2, x3⟩ := u
    have hP : va_P D vwCl (RW D a s) H := hP
    have hl : lv_has ls 4 [(0, .ref (a 0)), (1, .int (i2 x1)), (2, .int (i2 x2)), (3, .int (i2 x3))] := hl
    have h : m_x12_checked_v2_b6 s (m_x12_checked_v2_L6 s n6) x1 x2 x3 = some o := h
    unfold m_x12_checked_v2_b6 at h
    refine lv_iload_n hx hb eX12_checked_6.1 rfl (lv_at hl 3 rfl) ?_
    refine lv_iload_n hx hb eX12_checked_6.2.1 rfl (lv_at hl 1 rfl) ?_
    obtain ⟨hr4, h⟩ := rg_e h
    obtain ⟨hr5, h⟩ := rg_e h
    refine lv_icmp_ge (tgt := 29) hx hb eX12_checked_6.2.2.1 (by decide) (fun c6 => ?_) (fun c6 => ?_)
    · have h := if_t ((i2_le (x := x1) (y := x3) hr5 hr4).mp c6) h
      refine lv_iload_n hx hb eX12_checked_16.2.2.2.2.2.2.2 rfl (lv_at hl 2 rfl) ?_
      obtain rfl := Option.some.inj h
      exact W.iret (v := (i2 x2)) hx hb hr (fun t ht hW => ⟨⟨_, (), rfl, rfl, trivial⟩, hS.F ht⟩) hS.2.2 eX12_checked_30.1
    · have h := if_f (mt (i2_le (x := x1) (y := x3) hr5 hr4).mpr c6) h
      refine lv_iconst (v := 3) hx hb eX12_checked_6.2.2.2.1 (by decide) ?_
      refine lv_iload_n hx hb eX12_checked_6.2.2.2.2.1 rfl (lv_at hl 2 rfl) ?_
      refine lv_imul hx hb eX12_checked_6.2.2.2.2.2.1 ?_
      refine z_topi (y := i2 (3 * x2)) (i2_mul 3 x2) ?_
      refine lv_aload_n hx hb eX12_checked_6.2.2.2.2.2.2.1 rfl (lv_at hl 0 rfl) ?_
      refine lv_iload_n hx hb eX12_checked_6.2.2.2.2.2.2.2 rfl (lv_at hl 3 rfl) ?_
      obtain ⟨y7, ey7, iy7, h⟩ := rdI_e h
      refine ya_iald (i := x3) hx hb hK hP 1 0 RW_1 rfl (by decide) ey7 iy7 eX12_checked_16.1 ?_
      refine lv_iadd hx hb eX12_checked_16.2.1 ?_
      refine z_topi (y := i2 ((3 * x2) + y7)) (i2_add (3 * x2) y7) ?_
      refine lv_sipush (v := 251) hx hb eX12_checked_16.2.2.1 (by decide) ?_
      obtain ⟨hn8, h⟩ := dv_e h
      refine lv_irem hx hb eX12_checked_16.2.2.2.1 (dv_nz hn8) ?_
      refine z_topi (y := i2 (Int.tmod ((3 * x2) + y7) 251)) (by rw [show (251 : Int32) = i2 251 from by decide +kernel]; exact dv_r hn8) ?_
      refine lv_istore_n (lv' := [(2, .int (i2 (Int.tmod ((3 * x2) + y7) 251))), (0, .ref (a 0)), (1, .int (i2 x1)), (3, .int (i2 x3))]) hx hb eX12_checked_16.2.2.2.2.1 rfl hl (by decide) rfl (fun ls hl => ?_)
      refine lv_iinc (v := i2 (x3 + 1)) (lv' := [(3, .int (i2 (x3 + 1))), (2, .int (i2 (Int.tmod ((3 * x2) + y7) 251))), (0, .ref (a 0)), (1, .int (i2 x1))]) hx hb eX12_checked_16.2.2.2.2.2.1 hl (k := 3) rfl (i2_add x3 1) (by decide) rfl (fun ls hl => ?_)
      refine lv_goto (tgt := 6) hx hb eX12_checked_16.2.2.2.2.2.2.1 (by decide) ?_
      exact ih6 (x1, Int.tmod ((3 * x2) + y7) 251, x3 + 1) _ _ _ ⟨hP, hS, lv_sub hl [2, 3, 1, 0] rfl, h⟩
  refine lv_sipush (v := 157) hx hb eX12_byteRead_28.2.2.2.2.1 (by decide) ?_
  refine lv_istore_n (lv' := [(2, .int 157), (0, .ref (a 0)), (1, .int (i2 p1))]) hx hb eX12_byteRead_28.2.2.2.2.2.1 rfl hl (by decide) rfl (fun ls hl => ?_)
  refine lv_iconst (v := 0) hx hb eX12_byteRead_28.2.2.2.2.2.2.1 (by decide) ?_
  refine lv_istore_n (lv' := [(3, .int 0), (2, .int 157), (0, .ref (a 0)), (1, .int (i2 p1))]) hx hb eX12_byteRead_28.2.2.2.2.2.2.2 rfl hl (by decide) rfl (fun ls hl => ?_)
  exact J6 FU (p1, 157, 0) _ _ _ ⟨hP, hS, lv_sub hl [2, 3, 1, 0] rfl, h⟩
set_option maxHeartbeats 4000000 in
set_option maxRecDepth 100000 in
theorem k_x12_isImage (l : Launch) (D : va_G) (a : Nat → Nat) (p0 : Int) (sz : Nat) (s : MS) (o : (Int × MS)) (h : m_x12_isImage p0 s = some o) : yWi l yX12_isImage cX12_isImage 4 (some .boolean) { frames := 4, cells := 0, slots := 0, locals := 240 } D sz [.ref (a 200), .int (i2 p0)] (RW D a s) (RW D a o.2) (i2 o.1) := by
  refine Met.ofW (cc := cX12_isImage) (maxL := 4) (ret := (some .boolean)) (by decide) rfl ?_
  intro p e s₀ m args below meth c s₁ B hml hv
  obtain ⟨rfl, ⟨hsz, hP, hK, hD0⟩, hN⟩ := hv
  have hx := B.exec
  have hb := B.bytes
  have hr := B.returns
  have hts := atoms_spec (ws := wz yX12_isImage cX12_isImage 4 (some .boolean)) B.pre
  have ht : ∀ w ∈ lw_gd, w.before _ s₀ = true := fun w h => hts w (List.mem_cons_of_mem _ h)
  have hown : s₀.vm.findClass RX12 = some m.cls := findClass_of_methodNamed B.named
  have hlocks := B.notSynchronized
  subst hsz
  have hD := hD0.self (sz := s₀.heap.size)
  generalize hAe : va_A (RW D a s) s₀.heap.size = A at hD ⊢
  have hA : ∀ q : Nat, s₀.heap.size ≤ q → A q := fun q h => by rw [← hAe]; exact Or.inr h
  have hS : va_S A s₀.heap s₀.heap [] := va_S.rf
  have hDD : ∀ t : MS, va_D A (RW D a t) := fun t => RW_D t hD
  have hl := lv_entry ([.ref (a 200), .int (i2 p0)]) (n := 4) (Nat.le_of_ble_eq_true rfl)
  rw [lg_entry_eq]
  generalize (lg_sl ([.ref (a 200), .int (i2 p0)]) ++ List.replicate (4 - (lg_sl ([.ref (a 200), .int (i2 p0)])).length) Slot.unset).toArray = ls at hl ⊢
  have hl : lv_has ls 4 [(0, .ref (a 200)), (1, .int (i2 p0))] := hl
  unfold m_x12_isImage at h
  refine y_loop (pcJ := 92) (σ := Int × MS) (fun n u H locs ls => va_P D vwCl (RW D a u.2) H ∧ va_S A s₀.heap H locs ∧ lv_has ls 4 [(0, .ref (a 200)), (2, .int (i2 u.1))] ∧ m_x12_isImage_L92 n u.1 u.2 = some o) (fun u => []) (fun u H locs ls hI => by obtain ⟨_, _, _, h⟩ := hI; cases h) (fun n92 ih92 u H locs ls hI => ?_) (fun J92 => ?_)
  · obtain ⟨hP, hS, hl, h⟩ := hI
    obtain ⟨x1, s2⟩ := u
    have hP : va_P D vwCl (RW D a s2) H := hP
    have hl : lv_has ls 4 [(0, .ref (a 200)), (2, .int (i2 x1))] := hl
    have h : m_x12_isImage_b92 (m_x12_isImage_L92 n92) x1 s2 = some o := h
    unfold m_x12_isImage_b92 at h
    refine y_loop (pcJ := 101) (σ := Int × Int × MS) (fun n u H locs ls => va_P D vwCl (RW D a u.2.2) H ∧ va_S A s₀.heap H locs ∧ lv_has ls 4 [(0, .ref (a 200)), (2, .int (i2 u.1)), (3, .int (i2 u.2.1))] ∧ m_x12_isImage_L101 (m_x12_isImage_L92 n92) n u.1 u.2.1 u.2.2 = some o) (fun u => []) (fun u H locs ls hI => by obtain ⟨_, _, _, h⟩ := hI; cases h) (fun n101 ih101 u H locs ls hI => ?_) (fun J101 => ?_)
    · obtain ⟨hP, hS, hl, h⟩ := hI
      obtain ⟨x3, x4, s5⟩ := u
      have hP : va_P D vwCl (RW D a s5) H := hP
      have hl : lv_has ls 4 [(0, .ref (a 200)), (2, .int (i2 x3)), (3, .int (i2 x4))] := hl
      have h : m_x12_isImage_b101 (m_x12_isImage_L92 n92) (m_x12_isImage_L101 (m_x12_isImage_L92 n92) n101) x3 x4 s5 = some o := h
      unfold m_x12_isImage_b101 at h
      refine y_head (pcJ := 129) (σ := Int × Int × MS) (fun u H locs ls => va_P D vwCl (RW D a u.2.2) H ∧ va_S A s₀.heap H locs ∧ lv_has ls 4 [(0, .ref (a 200)), (2, .int (i2 u.1)), (3, .int (i2 u.2.1))] ∧ m_x12_isImage_J129 (m_x12_isImage_L92 n92) (m_x12_isImage_L101 (m_x12_isImage_L92 n92) n101) u.1 u.2.1 u.2.2 = some o) (fun u => []) (fun u H locs ls hI => ?_) (fun J129 => ?_)
      · obtain ⟨hP, hS, hl, h⟩ := hI
        obtain ⟨x6, x7, s8⟩ := u
        have hP : va_P D vwCl (RW D a s8) H := hP
        have hl : lv_has ls 4 [(0, .ref (a 200)), (2, .int (i2 x6)), (3, .int (i2 x7))] := hl
        have h : m_x12_isImage_J129 (m_x12_isImage_L92 n92) (m_x12_isImage_L101 (m_x12_isImage_L92 n92) n101) x6 x7 s8 = some o := h
        unfold m_x12_isImage_J129 at h
        refine lv_iinc (v := i2 (x7 + 1)) (lv' := [(3, .int (i2 (x7 + 1))), (0, .ref (a 200)), (2, .int (i2 x6))]) hx hb eX12_isImage_120.2.2.2.2.2.1 hl (k := 2) rfl (i2_add x7 1) (by decide) rfl (fun ls hl => ?_)
        refine lv_goto (tgt := 101) hx hb eX12_isImage_120.2.2.2.2.2.2.1 (by decide) ?_
        exact ih101 (x6, x7 + 1, s8) _ _ _ ⟨hP, hS, lv_sub hl [1, 2, 0] rfl, h⟩
      refine lv_iload_n hx hb eX12_isImage_92.2.2.2.2.2.1 rfl (lv_at hl 2 rfl) ?_
      refine lv_aload_n hx hb eX12_isImage_92.2.2.2.2.2.2.1 rfl (lv_at hl 0 rfl) ?_
      obtain ⟨r10, hc9, h⟩ := bn_e h
      refine ycV (r0 := i2 r10) (As := []) (rest := [.int (i2 x4)]) (C := RX12) (n := 0) ⟨hx, hb, hml, hown, ht⟩ (k_x12_blockMany l D a _ _ hc9) (zgV ml_X12_429 im_X12_blockMany se_X12_blockMany in_X12 co_X12_blockMany) rfl rfl (by decide +kernel) ⟨Nat.le_of_ble_eq_true rfl, Nat.le_of_ble_eq_true rfl⟩ hN hK hP hS 0 RW_0 rfl rfl rfl hl.1 rfl (Nat.le_of_ble_eq_true rfl) eX12_isImage_92.2.2.2.2.2.2.2 ⟨Nat.le_of_ble_eq_true rfl, Nat.le_of_ble_eq_true rfl⟩ (fun H locs hP hS => ?_)
      obtain ⟨hr11, h⟩ := rg_e h
      obtain ⟨hr12, h⟩ := rg_e h
      refine lv_icmp_ge (tgt := 135) hx hb eX12_isImage_106.1 (by decide) (fun c13 => ?_) (fun c13 => ?_)
      · have h := if_t ((i2_le (x := r10) (y := x4) hr12 hr11).mp c13) h
        refine lv_iinc (v := i2 (x3 + 1)) (lv' := [(2, .int (i2 (x3 + 1))), (0, .ref (a 200)), (3, .int (i2 x4))]) hx hb eX12_isImage_120.2.2.2.2.2.2.2 hl (k := 1) rfl (i2_add x3 1) (by decide) rfl (fun ls hl => ?_)
        refine lv_goto (tgt := 92) hx hb eX12_isImage_138.1 (by decide) ?_
        exact ih92 (x3 + 1, s5) _ _ _ ⟨hP, hS, lv_sub hl [1, 0] rfl, h⟩
      · have h := if_f (mt (i2_le (x := r10) (y := x4) hr12 hr11).mpr c13) h
        refine lv_aload_n hx hb eX12_isImage_106.2.1 rfl (lv_at hl 0 rfl) ?_
        refine lv_iload_n hx hb eX12_isImage_106.2.2.1 rfl (lv_at hl 2 rfl) ?_
        refine lv_iconst (v := 2) hx hb eX12_isImage_106.2.2.2.1 (by decide) ?_
        obtain ⟨r15, hc14, h⟩ := bn_e h
        refine ycV (r0 := i2 r15) (As := [.int (i2 x4), .int 2]) (rest := []) (C := RX12) (n := 2) ⟨hx, hb, hml, hown, ht⟩ (k_x12_laidOf l D a x4 2 _ _ hc14) (zgV ml_X12_816 im_X12_laidOf se_X12_laidOf in_X12 co_X12_laidOf) rfl rfl (by decide +kernel) ⟨Nat.le_of_ble_eq_true rfl, Nat.le_of_ble_eq_true rfl⟩ hN hK hP hS 0 RW_0 rfl rfl rfl hl.1 rfl (Nat.le_of_ble_eq_true rfl) eX12_isImage_106.2.2.2.2.1 ⟨Nat.le_of_ble_eq_true rfl, Nat.le_of_ble_eq_true rfl⟩ (fun H locs hP hS => ?_)
        refine lv_iload_n hx hb eX12_isImage_106.2.2.2.2.2.1 rfl (lv_at hl 1 rfl) ?_
        obtain ⟨hr16, h⟩ := rg_e h
        obtain ⟨hr17, h⟩ := rg_e h
        refine lv_icmp_ne (tgt := 129) hx hb eX12_isImage_106.2.2.2.2.2.2.1 (by decide) (fun c18 => ?_) (fun c18 => ?_)
        · have h := if_f (mt (i2_eq (x := r15) (y := x3) hr16 hr17).mpr c18) h
          exact J129 (x3, x4, s5) _ _ _ ⟨hP, hS, lv_sub hl [0, 1, 2] rfl, h⟩
        · have h := if_t ((i2_eq (x := r15) (y := x3) hr16 hr17).mp c18) h
          refine lv_aload_n hx hb eX12_isImage_106.2.2.2.2.2.2.2 rfl (lv_at hl 0 rfl) ?_
          refine lv_iload_n hx hb eX12_isImage_120.1 rfl (lv_at hl 2 rfl) ?_
          obtain ⟨⟨r21, s20⟩, hc19, h⟩ := bn_e h
          refine ywV (r0 := i2 r21) (As := [.int (i2 x4)]) (rest := []) (C := RX12) (n := 1) (ws' := RW D a s20) ⟨hx, hb, hml, hown, ht⟩ (k_x12_areKeys l D a x4 _ _ _ hc19) (zgV ml_X12_832 im_X12_areKeys se_X12_areKeys in_X12 co_X12_areKeys) rfl rfl (by decide +kernel) ⟨Nat.le_of_ble_eq_true rfl, Nat.le_of_ble_eq_true rfl⟩ hN hK hP (hDD _) hS hA 0 RW_0 rfl rfl rfl hl.1 rfl (Nat.le_of_ble_eq_true rfl) eX12_isImage_120.2.1 ⟨Nat.le_of_ble_eq_true rfl, Nat.le_of_ble_eq_true rfl⟩ (fun H locs hP hS => ?_)
          obtain ⟨hr22, h⟩ := rg_e h
          refine lv_if_ne (tgt := 129) hx hb eX12_isImage_120.2.2.1 (by decide) (fun c23 => ?_) (fun c23 => ?_)
          · have h := if_f (mt (i2_eq (x := r21) (y := 0) hr22 (by decide)).mpr c23) h
            exact J129 (x3, x4, s20) _ _ _ ⟨hP, hS, lv_sub hl [0, 1, 2] rfl, h⟩
          · have h := if_t ((i2_eq (x := r21) (y := 0) hr22 (by decide)).mp c23) h
            refine lv_iconst (v := 0) hx hb eX12_isImage_120.2.2.2.1 (by decide) ?_
            obtain rfl := Option.some.inj h
            exact W.zret (v := 0) hx hb hr (by decide) (fun t ht hW => ⟨⟨_, (), rfl, rfl, by rw [ht]; exact hP, va_K.moved hW.alike hK, hDD _⟩, hS.F ht⟩) hS.2.2 eX12_isImage_120.2.2.2.2.1
    refine lv_iload_n hx hb eX12_isImage_92.1 rfl (lv_at hl 1 rfl) ?_
    refine lv_sipush (v := 256) hx hb eX12_isImage_92.2.1 (by decide) ?_
    obtain ⟨hr24, h⟩ := rg_e h
    refine lv_icmp_ge (tgt := 141) hx hb eX12_isImage_92.2.2.1 (by decide) (fun c25 => ?_) (fun c25 => ?_)
    · have h := if_t ((i2_le (x := 256) (y := x1) (by decide) hr24).mp c25) h
      refine lv_iconst (v := 1) hx hb eX12_isImage_138.2.1 (by decide) ?_
      obtain rfl := Option.some.inj h
      exact W.zret (v := 1) hx hb hr (by decide) (fun t ht hW => ⟨⟨_, (), rfl, rfl, by rw [ht]; exact hP, va_K.moved hW.alike hK, hDD _⟩, hS.F ht⟩) hS.2.2 eX12_isImage_138.2.2.1
    · have h := if_f (mt (i2_le (x := 256) (y := x1) (by decide) hr24).mpr c25) h
      refine lv_iconst (v := 0) hx hb eX12_isImage_92.2.2.2.1 (by decide) ?_
      refine lv_istore_n (lv' := [(3, .int 0), (0, .ref (a 200)), (2, .int (i2 x1))]) hx hb eX12_isImage_92.2.2.2.2.1 rfl hl (by decide) rfl (fun ls hl => ?_)
      exact J101 FU (x1, 0, s2) _ _ _ ⟨hP, hS, lv_sub hl [1, 2, 0] rfl, h⟩
  refine y_head (pcJ := 88) (σ := MS) (fun u H locs ls => va_P D vwCl (RW D a u) H ∧ va_S A s₀.heap H locs ∧ lv_has ls 4 [] ∧ m_x12_isImage_J88 u = some o) (fun u => []) (fun u H locs ls hI => ?_) (fun J88 => ?_)
  · obtain ⟨hP, hS, hl, h⟩ := hI
    obtain ⟨s26, rfl⟩ : ∃ z, z = u := ⟨u, rfl⟩
    have hP : va_P D vwCl (RW D a s26) H := hP
    have hl : lv_has ls 4 [] := hl
    have h : m_x12_isImage_J88 s26 = some o := h
    unfold m_x12_isImage_J88 at h
    refine lv_iconst (v := 0) hx hb eX12_isImage_80.2.2.2.2.1 (by decide) ?_
    obtain rfl := Option.some.inj h
    exact W.zret (v := 0) hx hb hr (by decide) (fun t ht hW => ⟨⟨_, (), rfl, rfl, by rw [ht]; exact hP, va_K.moved hW.alike hK, hDD _⟩, hS.F ht⟩) hS.2.2 eX12_isImage_80.2.2.2.2.2.1
  refine y_loop (pcJ := 48) (σ := Int × MS) (fun n u H locs ls => va_P D vwCl (RW D a u.2) H ∧ va_S A s₀.heap H locs ∧ lv_has ls 4 [(0, .ref (a 200)), (2, .int (i2 u.1))] ∧ m_x12_isImage_L48 n u.1 u.2 = some o) (fun u => []) (fun u H locs ls hI => by obtain ⟨_, _, _, h⟩ := hI; cases h) (fun n48 ih48 u H locs ls hI => ?_) (fun J48 => ?_)
  · obtain ⟨hP, hS, hl, h⟩ := hI
    obtain ⟨x27, s28⟩ := u
    have hP : va_P D vwCl (RW D a s28) H := hP
    have hl : lv_has ls 4 [(0, .ref (a 200)), (2, .int (i2 x27))] := hl
    have h : m_x12_isImage_b48 (m_x12_isImage_L48 n48) x27 s28 = some o := h
    unfold m_x12_isImage_b48 at h
    refine lv_iload_n hx hb eX12_isImage_48.1 rfl (lv_at hl 1 rfl) ?_
    refine lv_aload_n hx hb eX12_isImage_48.2.1 rfl (lv_at hl 0 rfl) ?_
    obtain ⟨r30, hc29, h⟩ := bn_e h
    refine ycV (r0 := i2 r30) (As := []) (rest := [.int (i2 x27)]) (C := RX12) (n := 0) ⟨hx, hb, hml, hown, ht⟩ (k_x12_blockMany l D a _ _ hc29) (zgV ml_X12_429 im_X12_blockMany se_X12_blockMany in_X12 co_X12_blockMany) rfl rfl (by decide +kernel) ⟨Nat.le_of_ble_eq_true rfl, Nat.le_of_ble_eq_true rfl⟩ hN hK hP hS 0 RW_0 rfl rfl rfl hl.1 rfl (Nat.le_of_ble_eq_true rfl) eX12_isImage_48.2.2.1 ⟨Nat.le_of_ble_eq_true rfl, Nat.le_of_ble_eq_true rfl⟩ (fun H locs hP hS => ?_)
    obtain ⟨hr31, h⟩ := rg_e h
    obtain ⟨hr32, h⟩ := rg_e h
    refine lv_icmp_ge (tgt := 72) hx hb eX12_isImage_48.2.2.2.1 (by decide) (fun c33 => ?_) (fun c33 => ?_)
    · have h := if_t ((i2_le (x := r30) (y := x27) hr32 hr31).mp c33) h
      refine lv_aload_n hx hb eX12_isImage_64.2.2.2.2.1 rfl (lv_at hl 0 rfl) ?_
      refine lv_iconst (v := 0) hx hb eX12_isImage_64.2.2.2.2.2.1 (by decide) ?_
      obtain ⟨⟨r36, s35⟩, hc34, h⟩ := bn_e h
      refine ywV (r0 := i2 r36) (As := [.int 0]) (rest := []) (C := RX12) (n := 1) (ws' := RW D a s35) ⟨hx, hb, hml, hown, ht⟩ (k_x12_areCounts l D a 0 _ _ _ hc34) (zgV ml_X12_829 im_X12_areCounts se_X12_areCounts in_X12 co_X12_areCounts) rfl rfl (by decide +kernel) ⟨Nat.le_of_ble_eq_true rfl, Nat.le_of_ble_eq_true rfl⟩ hN hK hP (hDD _) hS hA 0 RW_0 rfl rfl rfl hl.1 rfl (Nat.le_of_ble_eq_true rfl) eX12_isImage_64.2.2.2.2.2.2.1 ⟨Nat.le_of_ble_eq_true rfl, Nat.le_of_ble_eq_true rfl⟩ (fun H locs hP hS => ?_)
      obtain ⟨hr37, h⟩ := rg_e h
      refine lv_if_eq (tgt := 88) hx hb eX12_isImage_64.2.2.2.2.2.2.2 (by decide) (fun c38 => ?_) (fun c38 => ?_)
      · have h := if_t ((i2_eq (x := r36) (y := 0) hr37 (by decide)).mp c38) h
        exact J88 s35 _ _ _ ⟨hP, hS, lv_sub hl [] rfl, h⟩
      · have h := if_f (mt (i2_eq (x := r36) (y := 0) hr37 (by decide)).mpr c38) h
        refine lv_aload_n hx hb eX12_isImage_80.1 rfl (lv_at hl 0 rfl) ?_
        refine lv_iconst (v := 1) hx hb eX12_isImage_80.2.1 (by decide) ?_
        obtain ⟨⟨r41, s40⟩, hc39, h⟩ := bn_e h
        refine ywV (r0 := i2 r41) (As := [.int 1]) (rest := []) (C := RX12) (n := 1) (ws' := RW D a s40) ⟨hx, hb, hml, hown, ht⟩ (k_x12_areCounts l D a 1 _ _ _ hc39) (zgV ml_X12_829 im_X12_areCounts se_X12_areCounts in_X12 co_X12_areCounts) rfl rfl (by decide +kernel) ⟨Nat.le_of_ble_eq_true rfl, Nat.le_of_ble_eq_true rfl⟩ hN hK hP (hDD _) hS hA 0 RW_0 rfl rfl rfl hl.1 rfl (Nat.le_of_ble_eq_true rfl) eX12_isImage_80.2.2.1 ⟨Nat.le_of_ble_eq_true rfl, Nat.le_of_ble_eq_true rfl⟩ (fun H locs hP hS => ?_)
        obtain ⟨hr42, h⟩ := rg_e h
        refine lv_if_ne (tgt := 90) hx hb eX12_isImage_80.2.2.2.1 (by decide) (fun c43 => ?_) (fun c43 => ?_)
        · have h := if_f (mt (i2_eq (x := r41) (y := 0) hr42 (by decide)).mpr c43) h
          refine lv_iconst (v := 1) hx hb eX12_isImage_80.2.2.2.2.2.2.1 (by decide) ?_
          refine lv_istore_n (lv' := [(2, .int 1), (0, .ref (a 200))]) hx hb eX12_isImage_80.2.2.2.2.2.2.2 rfl hl (by decide) rfl (fun ls hl => ?_)
          exact J92 FU (1, s40) _ _ _ ⟨hP, hS, lv_sub hl [1, 0] rfl, h⟩
        · have h := if_t ((i2_eq (x := r41) (y := 0) hr42 (by decide)).mp c43) h
          exact J88 s40 _ _ _ ⟨hP, hS, lv_sub hl [] rfl, h⟩
    · have h := if_f (mt (i2_le (x := r30) (y := x27) hr32 hr31).mpr c33) h
      refine lv_aload_n hx hb eX12_isImage_48.2.2.2.2.1 rfl (lv_at hl 0 rfl) ?_
      refine lv_iload_n hx hb eX12_isImage_48.2.2.2.2.2.1 rfl (lv_at hl 1 rfl) ?_
      obtain ⟨r45, hc44, h⟩ := bn_e h
      refine ycV (r0 := i2 r45) (As := [.int (i2 x27)]) (rest := []) (C := RX12) (n := 1) ⟨hx, hb, hml, hown, ht⟩ (k_x12_areValues l D a x27 _ _ hc44) (zgV ml_X12_826 im_X12_areValues se_X12_areValues in_X12 co_X12_areValues) rfl rfl (by decide +kernel) ⟨Nat.le_of_ble_eq_true rfl, Nat.le_of_ble_eq_true rfl⟩ hN hK hP hS 0 RW_0 rfl rfl rfl hl.1 rfl (Nat.le_of_ble_eq_true rfl) eX12_isImage_48.2.2.2.2.2.2.1 ⟨Nat.le_of_ble_eq_true rfl, Nat.le_of_ble_eq_true rfl⟩ (fun H locs hP hS => ?_)
      obtain ⟨hr46, h⟩ := rg_e h
      refine lv_if_ne (tgt := 66) hx hb eX12_isImage_48.2.2.2.2.2.2.2 (by decide) (fun c47 => ?_) (fun c47 => ?_)
      · have h := if_f (mt (i2_eq (x := r45) (y := 0) hr46 (by decide)).mpr c47) h
        refine lv_iinc (v := i2 (x27 + 1)) (lv' := [(2, .int (i2 (x27 + 1))), (0, .ref (a 200))]) hx hb eX12_isImage_64.2.2.1 hl (k := 1) rfl (i2_add x27 1) (by decide) rfl (fun ls hl => ?_)
        refine lv_goto (tgt := 48) hx hb eX12_isImage_64.2.2.2.1 (by decide) ?_
        exact ih48 (x27 + 1, s28) _ _ _ ⟨hP, hS, lv_sub hl [1, 0] rfl, h⟩
      · have h := if_t ((i2_eq (x := r45) (y := 0) hr46 (by decide)).mp c47) h
        refine lv_iconst (v := 0) hx hb eX12_isImage_64.1 (by decide) ?_
        obtain rfl := Option.some.inj h
        exact W.zret (v := 0) hx hb hr (by decide) (fun t ht hW => ⟨⟨_, (), rfl, rfl, by rw [ht]; exact hP, va_K.moved hW.alike hK, hDD _⟩, hS.F ht⟩) hS.2.2 eX12_isImage_64.2.1
  refine y_head (pcJ := 44) (σ := MS) (fun u H locs ls => va_P D vwCl (RW D a u) H ∧ va_S A s₀.heap H locs ∧ lv_has ls 4 [] ∧ m_x12_isImage_J44 u = some o) (fun u => []) (fun u H locs ls hI => ?_) (fun J44 => ?_)
  · obtain ⟨hP, hS, hl, h⟩ := hI
    obtain ⟨s48, rfl⟩ : ∃ z, z = u := ⟨u, rfl⟩
    have hP : va_P D vwCl (RW D a s48) H := hP
    have hl : lv_has ls 4 [] := hl
    have h : m_x12_isImage_J44 s48 = some o := h
    unfold m_x12_isImage_J44 at h
    refine lv_iconst (v := 0) hx hb eX12_isImage_36.2.2.2.2.1 (by decide) ?_
    obtain rfl := Option.some.inj h
    exact W.zret (v := 0) hx hb hr (by decide) (fun t ht hW => ⟨⟨_, (), rfl, rfl, by rw [ht]; exact hP, va_K.moved hW.alike hK, hDD _⟩, hS.F ht⟩) hS.2.2 eX12_isImage_36.2.2.2.2.2.1
  refine lv_aload_n hx hb eX12_areValues_93.2.2.2.1 rfl (lv_at hl 0 rfl) ?_
  refine va_get (D := D) (ci := 12) (v := .int (i2 (gI s 47))) (C := RX12) (T := TX12) (N := 116) hx hb ht inX12 hown hK hP 0 RW_0 rfl 47 (by decide) (ht (.fieldLink RX12 406 "CloneVolumesModel" "isTold" "Z") fl_X12_406) (fun _ h9 => h9) mF_47 eX12_areValues_93.2.2.2.2.1 ?_
  obtain ⟨hr49, h⟩ := rg_e h
  refine lv_if_eq (tgt := 44) hx hb eX12_areValues_93.2.2.2.2.2.1 (by decide) (fun c50 => ?_) (fun c50 => ?_)
  · have h := if_t ((i2_eq (x := (gI s 47)) (y := 0) hr49 (by decide)).mp c50) h
    exact J44 s _ _ _ ⟨hP, hS, lv_sub hl [] rfl, h⟩
  · have h := if_f (mt (i2_eq (x := (gI s 47)) (y := 0) hr49 (by decide)).mpr c50) h
    refine lv_iload_n hx hb eX12_areValues_93.2.2.2.2.2.2.1 rfl (lv_at hl 1 rfl) ?_
    refine lv_bipush (v := 20) hx hb eX12_areValues_93.2.2.2.2.2.2.2 (by decide) ?_
    obtain ⟨hr51, h⟩ := rg_e h
    refine lv_icmp_lt (tgt := 44) hx hb eX12_isImage_10.1 (by decide) (fun c52 => ?_) (fun c52 => ?_)
    · have h := if_t ((i2_lt (x := p0) (y := 20) hr51 (by decide)).mp c52) h
      exact J44 s _ _ _ ⟨hP, hS, lv_sub hl [] rfl, h⟩
    · have h := if_f (mt (i2_lt (x := p0) (y := 20) hr51 (by decide)).mpr c52) h
      refine lv_aload_n hx hb eX12_isImage_10.2.1 rfl (lv_at hl 0 rfl) ?_
      refine va_get (D := D) (ci := 12) (v := .ref (a 0)) (C := RX12) (T := TX12) (N := 116) hx hb ht inX12 hown hK hP 0 RW_0 rfl 0 (by decide) (ht (.fieldLink RX12 7 "CloneVolumesModel" "tape" "[I") fl_X12_7) (fun _ h9 => h9) mF_0 eX12_isImage_10.2.2.1 ?_
      refine lv_iload_n hx hb eX12_isImage_10.2.2.2.1 rfl (lv_at hl 1 rfl) ?_
      refine lv_iconst (v := 1) hx hb eX12_isImage_10.2.2.2.2.1 (by decide) ?_
      refine lv_isub hx hb eX12_isImage_10.2.2.2.2.2.1 ?_
      refine z_topi (y := i2 (p0 - 1)) (i2_sub p0 1) ?_
      obtain ⟨y53, ey53, iy53, h⟩ := rdI_e h
      refine ya_iald (i := (p0 - 1)) hx hb hK hP 1 0 RW_1 rfl (by decide) ey53 iy53 eX12_isImage_10.2.2.2.2.2.2.1 ?_
      refine lv_aload_n hx hb eX12_isImage_10.2.2.2.2.2.2.2 rfl (lv_at hl 0 rfl) ?_
      refine va_get (D := D) (ci := 12) (v := .ref (a 0)) (C := RX12) (T := TX12) (N := 116) hx hb ht inX12 hown hK hP 0 RW_0 rfl 0 (by decide) (ht (.fieldLink RX12 7 "CloneVolumesModel" "tape" "[I") fl_X12_7) (fun _ h9 => h9) mF_0 eX12_isImage_22.1 ?_
      refine lv_iload_n hx hb eX12_isImage_22.2.1 rfl (lv_at hl 1 rfl) ?_
      refine lv_iconst (v := 1) hx hb eX12_isImage_22.2.2.1 (by decide) ?_
      refine lv_isub hx hb eX12_isImage_22.2.2.2.1 ?_
      refine z_topi (y := i2 (p0 - 1)) (i2_sub p0 1) ?_
      obtain ⟨r55, hc54, h⟩ := bn_e h
      refine ycS (r0 := i2 r55) (As := [.ref (a 0), .int (i2 (p0 - 1))]) (rest := [.int (i2 y53)]) (n := 2) ⟨hx, hb, hml, hown, ht⟩ (k_x12_checked_v2 l D a (p0 - 1) _ _ hc54) (zgT ml_X12_799 st_X12_checked in_X12 co_X12_checked) rfl rfl (by decide +kernel) ⟨Nat.le_of_ble_eq_true rfl, Nat.le_of_ble_eq_true rfl⟩ hN hK hP hS rfl hl.1 rfl (Nat.le_of_ble_eq_true rfl) eX12_isImage_22.2.2.2.2.1 ⟨Nat.le_of_ble_eq_true rfl, Nat.le_of_ble_eq_true rfl⟩ (fun H locs hP hS => ?_)
      obtain ⟨hr56, h⟩ := rg_e h
      obtain ⟨hr57, h⟩ := rg_e h
      refine lv_icmp_ne (tgt := 44) hx hb eX12_isImage_22.2.2.2.2.2.1 (by decide) (fun c58 => ?_) (fun c58 => ?_)
      · have h := if_f (mt (i2_eq (x := y53) (y := r55) hr56 hr57).mpr c58) h
        exact J44 s _ _ _ ⟨hP, hS, lv_sub hl [] rfl, h⟩
      · have h := if_t ((i2_eq (x := y53) (y := r55) hr56 hr57).mp c58) h
        refine lv_aload_n hx hb eX12_isImage_22.2.2.2.2.2.2.1 rfl (lv_at hl 0 rfl) ?_
        refine lv_iload_n hx hb eX12_isImage_22.2.2.2.2.2.2.2 rfl (lv_at hl 1 rfl) ?_
        refine lv_iconst (v := 1) hx hb eX12_isImage_36.1 (by decide) ?_
        refine lv_isub hx hb eX12_isImage_36.2.1 ?_
        refine z_topi (y := i2 (p0 - 1)) (i2_sub p0 1) ?_
        obtain ⟨⟨r61, s60⟩, hc59, h⟩ := bn_e h
        refine ywV (r0 := i2 r61) (As := [.int (i2 (p0 - 1))]) (rest := []) (C := RX12) (n := 1) (ws' := RW D a s60) ⟨hx, hb, hml, hown, ht⟩ (k_x12_isLaid l D a (p0 - 1) _ _ _ hc59) (zgV ml_X12_823 im_X12_isLaid se_X12_isLaid in_X12 co_X12_isLaid) rfl rfl (by decide +kernel) ⟨Nat.le_of_ble_eq_true rfl, Nat.le_of_ble_eq_true rfl⟩ hN hK hP (hDD _) hS hA 0 RW_0 rfl rfl rfl hl.1 rfl (Nat.le_of_ble_eq_true rfl) eX12_isImage_36.2.2.1 ⟨Nat.le_of_ble_eq_true rfl, Nat.le_of_ble_eq_true rfl⟩ (fun H locs hP hS => ?_)
        obtain ⟨hr62, h⟩ := rg_e h
        refine lv_if_ne (tgt := 46) hx hb eX12_isImage_36.2.2.2.1 (by decide) (fun c63 => ?_) (fun c63 => ?_)
        · have h := if_f (mt (i2_eq (x := r61) (y := 0) hr62 (by decide)).mpr c63) h
          refine lv_iconst (v := 0) hx hb eX12_isImage_36.2.2.2.2.2.2.1 (by decide) ?_
          refine lv_istore_n (lv' := [(2, .int 0), (0, .ref (a 200)), (1, .int (i2 p0))]) hx hb eX12_isImage_36.2.2.2.2.2.2.2 rfl hl (by decide) rfl (fun ls hl => ?_)
          exact J48 FU (0, s60) _ _ _ ⟨hP, hS, lv_sub hl [1, 0] rfl, h⟩
        · have h := if_t ((i2_eq (x := r61) (y := 0) hr62 (by decide)).mp c63) h
          exact J44 s60 _ _ _ ⟨hP, hS, lv_sub hl [] rfl, h⟩
set_option maxHeartbeats 4000000 in
set_option maxRecDepth 100000 in
theorem k_x12_on (l : Launch) (D : va_G) (a : Nat → Nat) (sz : Nat) (s : MS) (o : (Int × MS)) (h : m_x12_on s = some o) : yWi l yX12_on cX12_on 3 (some .boolean) { frames := 5, cells := 0, slots := 0, locals := 300 } D sz [.ref (a 200)] (RW D a s) (RW D a o.2) (i2 o.1) := by
  refine Met.ofW (cc := cX12_on) (maxL := 3) (ret := (some .boolean)) (by decide) rfl ?_
  intro p e s₀ m args below meth c s₁ B hml hv
  obtain ⟨rfl, ⟨hsz, hP, hK, hD0⟩, hN⟩ := hv
  have hx := B.exec
  have hb := B.bytes
  have hr := B.returns
  have hts := atoms_spec (ws := wz yX12_on cX12_on 3 (some .boolean)) B.pre
  have ht : ∀ w ∈ lw_gd, w.before _ s₀ = true := fun w h => hts w (List.mem_cons_of_mem _ h)
  have hown : s₀.vm.findClass RX12 = some m.cls := findClass_of_methodNamed B.named
  have hlocks := B.notSynchronized
  subst hsz
  have hD := hD0.self (sz := s₀.heap.size)
  generalize hAe : va_A (RW D a s) s₀.heap.size = A at hD ⊢
  have hA : ∀ q : Nat, s₀.heap.size ≤ q → A q := fun q h => by rw [← hAe]; exact Or.inr h
  have hS : va_S A s₀.heap s₀.heap [] := va_S.rf
  have hDD : ∀ t : MS, va_D A (RW D a t) := fun t => RW_D t hD
  have hl := lv_entry ([.ref (a 200)]) (n := 3) (Nat.le_of_ble_eq_true rfl)
  rw [lg_entry_eq]
  generalize (lg_sl ([.ref (a 200)]) ++ List.replicate (3 - (lg_sl ([.ref (a 200)])).length) Slot.unset).toArray = ls at hl ⊢
  have hl : lv_has ls 3 [(0, .ref (a 200))] := hl
  unfold m_x12_on at h
  refine y_loop (pcJ := 26) (σ := Int × MS) (fun n u H locs ls => va_P D vwCl (RW D a u.2) H ∧ va_S A s₀.heap H locs ∧ lv_has ls 3 [(0, .ref (a 200)), (2, .int (i2 u.1))] ∧ m_x12_on_L26 n u.1 u.2 = some o) (fun u => []) (fun u H locs ls hI => by obtain ⟨_, _, _, h⟩ := hI; cases h) (fun n26 ih26 u H locs ls hI => ?_) (fun J26 => ?_)
  · obtain ⟨hP, hS, hl, h⟩ := hI
    obtain ⟨x1, s2⟩ := u
    have hP : va_P D vwCl (RW D a s2) H := hP
    have hl : lv_has ls 3 [(0, .ref (a 200)), (2, .int (i2 x1))] := hl
    have h : m_x12_on_b26 (m_x12_on_L26 n26) x1 s2 = some o := h
    unfold m_x12_on_b26 at h
    refine lv_iload_n hx hb eX12_on_23.2.2.2.1 rfl (lv_at hl 1 rfl) ?_
    refine lv_sipush (v := 785) hx hb eX12_on_23.2.2.2.2.1 (by decide) ?_
    obtain ⟨hr3, h⟩ := rg_e h
    refine lv_icmp_ge (tgt := 51) hx hb eX12_on_23.2.2.2.2.2.1 (by decide) (fun c4 => ?_) (fun c4 => ?_)
    · have h := if_t ((i2_le (x := 785) (y := x1) (by decide) hr3).mp c4) h
      refine lv_aload_n hx hb eX12_on_51.1 rfl (lv_at hl 0 rfl) ?_
      refine va_get (D := D) (ci := 12) (v := .ref (a 49)) (C := RX12) (T := TX12) (N := 116) hx hb ht inX12 hown hK hP 0 RW_0 rfl 49 (by decide) (ht (.fieldLink RX12 121 "CloneVolumesModel" "now" "[I") fl_X12_121) (fun _ h9 => h9) mF_49 eX12_on_51.2.1 ?_
      refine lv_sipush (v := 785) hx hb eX12_on_51.2.2.1 (by decide) ?_
      refine lv_iconst (v := 0) hx hb eX12_on_51.2.2.2.1 (by decide) ?_
      obtain ⟨hi5, h⟩ := inb_e h
      refine ya_iast (i := 785) (x := 0) hx hb hK hP (hDD _) hS 36 0 RW_36 rfl (by decide) hi5 eX12_on_51.2.2.2.2.1 (RW_w36 _) (fun H locs hP hS => ?_)
      obtain ⟨s6, hs6, h⟩ := st_e h
      rw [hs6] at hP
      refine lv_aload_n hx hb eX12_on_51.2.2.2.2.2.1 rfl (lv_at hl 0 rfl) ?_
      refine lv_iconst (v := 0) hx hb eX12_on_51.2.2.2.2.2.2.1 (by decide) ?_
      refine ya_put (D := D) (ci := 12) (v := .int 0) (ty := .int) (C := RX12) (T := TX12) (N := 116) hx hb ht inX12 tyX12 tyX12_ok nmX12 hown hK hP (hDD _) hS 0 RW_0 rfl 76 (by decide) (ht (.fieldLink RX12 416 "CloneVolumesModel" "undoable" "I") fl_X12_416) (fun _ h9 => h9) rfl (by decide +kernel) rfl rfl (by rw [mF_len]; decide) eX12_on_51.2.2.2.2.2.2.2 (RW_f76 0) (fun H locs hP hS => ?_)
      obtain ⟨s7, hs7, h⟩ := st_e h
      rw [hs7] at hP
      refine lv_iconst (v := 1) hx hb eX12_on_65.1 (by decide) ?_
      obtain rfl := Option.some.inj h
      exact W.zret (v := 1) hx hb hr (by decide) (fun t ht hW => ⟨⟨_, (), rfl, rfl, by rw [ht]; exact hP, va_K.moved hW.alike hK, hDD _⟩, hS.F ht⟩) hS.2.2 eX12_on_65.2
    · have h := if_f (mt (i2_le (x := 785) (y := x1) (by decide) hr3).mpr c4) h
      refine lv_aload_n hx hb eX12_on_23.2.2.2.2.2.2.1 rfl (lv_at hl 0 rfl) ?_
      refine va_get (D := D) (ci := 12) (v := .ref (a 49)) (C := RX12) (T := TX12) (N := 116) hx hb ht inX12 hown hK hP 0 RW_0 rfl 49 (by decide) (ht (.fieldLink RX12 121 "CloneVolumesModel" "now" "[I") fl_X12_121) (fun _ h9 => h9) mF_49 eX12_on_23.2.2.2.2.2.2.2 ?_
      refine lv_iload_n hx hb eX12_on_37.1 rfl (lv_at hl 1 rfl) ?_
      refine lv_aload_n hx hb eX12_on_37.2.1 rfl (lv_at hl 0 rfl) ?_
      refine va_get (D := D) (ci := 12) (v := .ref (a 113)) (C := RX12) (T := TX12) (N := 116) hx hb ht inX12 hown hK hP 0 RW_0 rfl 113 (by decide) (ht (.fieldLink RX12 255 "CloneVolumesModel" "laid" "[I") fl_X12_255) (fun _ h9 => h9) mF_113 eX12_on_37.2.2.1 ?_
      refine lv_iload_n hx hb eX12_on_37.2.2.2.1 rfl (lv_at hl 1 rfl) ?_
      obtain ⟨y8, ey8, iy8, h⟩ := rdI_e h
      refine ya_iald (i := x1) hx hb hK hP 79 0 RW_79 rfl (by decide) ey8 iy8 eX12_on_37.2.2.2.2.1 ?_
      obtain ⟨hi9, h⟩ := inb_e h
      refine ya_iast (i := x1) (x := y8) hx hb hK hP (hDD _) hS 36 0 RW_36 rfl (by decide) hi9 eX12_on_37.2.2.2.2.2.1 (RW_w36 _) (fun H locs hP hS => ?_)
      obtain ⟨s10, hs10, h⟩ := st_e h
      rw [hs10] at hP
      refine lv_iinc (v := i2 (x1 + 1)) (lv' := [(2, .int (i2 (x1 + 1))), (0, .ref (a 200))]) hx hb eX12_on_37.2.2.2.2.2.2.1 hl (k := 1) rfl (i2_add x1 1) (by decide) rfl (fun ls hl => ?_)
      refine lv_goto (tgt := 26) hx hb eX12_on_37.2.2.2.2.2.2.2 (by decide) ?_
      exact ih26 (x1 + 1, s10) _ _ _ ⟨hP, hS, lv_sub hl [1, 0] rfl, h⟩
  refine lv_aload_n hx hb eX12_isImage_138.2.2.2.1 rfl (lv_at hl 0 rfl) ?_
  refine va_get (D := D) (ci := 12) (v := .int (i2 (gI s 1))) (C := RX12) (T := TX12) (N := 116) hx hb ht inX12 hown hK hP 0 RW_0 rfl 1 (by decide) (ht (.fieldLink RX12 263 "CloneVolumesModel" "taped" "I") fl_X12_263) (fun _ h9 => h9) mF_1 eX12_isImage_138.2.2.2.2.1 ?_
  refine lv_istore_n (lv' := [(1, .int (i2 (gI s 1))), (0, .ref (a 200))]) hx hb eX12_isImage_138.2.2.2.2.2.1 rfl hl (by decide) rfl (fun ls hl => ?_)
  refine lv_aload_n hx hb eX12_isImage_138.2.2.2.2.2.2.1 rfl (lv_at hl 1 rfl) ?_
  refine lv_iconst (v := 0) hx hb eX12_isImage_138.2.2.2.2.2.2.2 (by decide) ?_
  refine ya_put (D := D) (ci := 12) (v := .int 0) (ty := .int) (C := RX12) (T := TX12) (N := 116) hx hb ht inX12 tyX12 tyX12_ok nmX12 hown hK hP (hDD _) hS 0 RW_0 rfl 1 (by decide) (ht (.fieldLink RX12 263 "CloneVolumesModel" "taped" "I") fl_X12_263) (fun _ h9 => h9) rfl (by decide +kernel) rfl rfl (by rw [mF_len]; decide) eX12_on_7.1 (RW_f1 0) (fun H locs hP hS => ?_)
  obtain ⟨s11, hs11, h⟩ := st_e h
  rw [hs11] at hP
  refine lv_aload_n hx hb eX12_on_7.2.1 rfl (lv_at hl 1 rfl) ?_
  refine lv_iload_n hx hb eX12_on_7.2.2.1 rfl (lv_at hl 0 rfl) ?_
  obtain ⟨⟨r14, s13⟩, hc12, h⟩ := bn_e h
  refine ywV (r0 := i2 r14) (As := [.int (i2 (gI s 1))]) (rest := []) (C := RX12) (n := 1) (ws' := RW D a s13) ⟨hx, hb, hml, hown, ht⟩ (k_x12_isImage l D a (gI s 1) _ _ _ hc12) (zgV ml_X12_835 im_X12_isImage se_X12_isImage in_X12 co_X12_isImage) rfl rfl (by decide +kernel) ⟨Nat.le_of_ble_eq_true rfl, Nat.le_of_ble_eq_true rfl⟩ hN hK hP (hDD _) hS hA 0 RW_0 rfl rfl rfl hl.1 rfl (Nat.le_of_ble_eq_true rfl) eX12_on_7.2.2.2.1 ⟨Nat.le_of_ble_eq_true rfl, Nat.le_of_ble_eq_true rfl⟩ (fun H locs hP hS => ?_)
  obtain ⟨hr15, h⟩ := rg_e h
  refine lv_if_ne (tgt := 24) hx hb eX12_on_7.2.2.2.2.1 (by decide) (fun c16 => ?_) (fun c16 => ?_)
  · have h := if_f (mt (i2_eq (x := r14) (y := 0) hr15 (by decide)).mpr c16) h
    refine lv_iconst (v := 0) hx hb eX12_on_23.2.1 (by decide) ?_
    refine lv_istore_n (lv' := [(2, .int 0), (1, .int (i2 (gI s 1))), (0, .ref (a 200))]) hx hb eX12_on_23.2.2.1 rfl hl (by decide) rfl (fun ls hl => ?_)
    exact J26 FU (0, s13) _ _ _ ⟨hP, hS, lv_sub hl [2, 0] rfl, h⟩
  · have h := if_t ((i2_eq (x := r14) (y := 0) hr15 (by decide)).mp c16) h
    refine lv_aload_n hx hb eX12_on_7.2.2.2.2.2.1 rfl (lv_at hl 1 rfl) ?_
    refine lv_iconst (v := 5) hx hb eX12_on_7.2.2.2.2.2.2.1 (by decide) ?_
    obtain ⟨⟨r19, s18⟩, hc17, h⟩ := bn_e h
    refine ywV (r0 := i2 r19) (As := [.int 5]) (rest := []) (C := RX12) (n := 1) (ws' := RW D a s18) ⟨hx, hb, hml, hown, ht⟩ (k_x12_isRefused l D a 5 _ _ _ hc17) (zgV ml_X12_671 im_X12_isRefused se_X12_isRefused in_X12 co_X12_isRefused) rfl rfl (by decide +kernel) ⟨Nat.le_of_ble_eq_true rfl, Nat.le_of_ble_eq_true rfl⟩ hN hK hP (hDD _) hS hA 0 RW_0 rfl rfl rfl hl.1 rfl (Nat.le_of_ble_eq_true rfl) eX12_on_7.2.2.2.2.2.2.2 ⟨Nat.le_of_ble_eq_true rfl, Nat.le_of_ble_eq_true rfl⟩ (fun H locs hP hS => ?_)
    obtain ⟨hb20, h⟩ := bo_e h
    obtain rfl := Option.some.inj h
    exact W.zret (v := (i2 r19)) hx hb hr (bo_n hb20) (fun t ht hW => ⟨⟨_, (), rfl, rfl, by rw [ht]; exact hP, va_K.moved hW.alike hK, hDD _⟩, hS.F ht⟩) hS.2.2 eX12_on_23.1
