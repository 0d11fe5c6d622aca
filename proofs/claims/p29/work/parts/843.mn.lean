theorem ck_X12_792 : Cond.constant RX12 792 65536 ∈ lw_gd := zm (lw_g_10 (List.mem_of_getElem? (i := 182) (by decide +kernel))) rfl
theorem co_X12_byteRead : Cond.code yX12_byteRead cX12_byteRead 2 (some .int) ∈ lw_gd := zm (lw_g_10 (List.mem_of_getElem? (i := 217) (by decide +kernel))) rfl
theorem co_X12_checked : Cond.code yX12_checked cX12_checked 4 (some .int) ∈ lw_gd := zm (lw_g_10 (List.mem_of_getElem? (i := 201) (by decide +kernel))) rfl
theorem co_X12_isLaidBlock : Cond.code yX12_isLaidBlock cX12_isLaidBlock 6 (some .boolean) ∈ lw_gd := zm (lw_g_10 (List.mem_of_getElem? (i := 225) (by decide +kernel))) rfl
theorem co_X12_rootTold : Cond.code yX12_rootTold cX12_rootTold 2 (some .int) ∈ lw_gd := zm (lw_g_10 (List.mem_of_getElem? (i := 194) (by decide +kernel))) rfl
theorem co_X12_tellsByte : Cond.code yX12_tellsByte cX12_tellsByte 2 none ∈ lw_gd := zm (lw_g_10 (List.mem_of_getElem? (i := 186) (by decide +kernel))) rfl
theorem co_X12_tellsTwo : Cond.code yX12_tellsTwo cX12_tellsTwo 2 none ∈ lw_gd := zm (lw_g_10 (List.mem_of_getElem? (i := 190) (by decide +kernel))) rfl
theorem co_X12_twoRead : Cond.code yX12_twoRead cX12_twoRead 4 (some .int) ∈ lw_gd := zm (lw_g_10 (List.mem_of_getElem? (i := 221) (by decide +kernel))) rfl
theorem co_X12_writesBlock : Cond.code yX12_writesBlock cX12_writesBlock 3 none ∈ lw_gd := zm (lw_g_10 (List.mem_of_getElem? (i := 198) (by decide +kernel))) rfl
theorem fl_X12_783 : Cond.fieldLink RX12 783 "CloneVolumesModel" "octets" "I" ∈ lw_gd := zm (lw_g_7 (List.mem_of_getElem? (i := 13) (by decide +kernel))) rfl
theorem fl_X12_803 : Cond.fieldLink RX12 803 "CloneVolumesModel" "read0" "I" ∈ lw_gd := zm (lw_g_7 (List.mem_of_getElem? (i := 15) (by decide +kernel))) rfl
theorem im_X12_byteRead : Cond.instanceMethod yX12_byteRead ∈ lw_gd := zm (lw_g_10 (List.mem_of_getElem? (i := 216) (by decide +kernel))) rfl
theorem im_X12_isLaidBlock : Cond.instanceMethod yX12_isLaidBlock ∈ lw_gd := zm (lw_g_10 (List.mem_of_getElem? (i := 224) (by decide +kernel))) rfl
theorem im_X12_rootTold : Cond.instanceMethod yX12_rootTold ∈ lw_gd := zm (lw_g_10 (List.mem_of_getElem? (i := 193) (by decide +kernel))) rfl
theorem im_X12_tellsByte : Cond.instanceMethod yX12_tellsByte ∈ lw_gd := zm (lw_g_10 (List.mem_of_getElem? (i := 185) (by decide +kernel))) rfl
theorem im_X12_tellsTwo : Cond.instanceMethod yX12_tellsTwo ∈ lw_gd := zm (lw_g_10 (List.mem_of_getElem? (i := 189) (by decide +kernel))) rfl
theorem im_X12_twoRead : Cond.instanceMethod yX12_twoRead ∈ lw_gd := zm (lw_g_10 (List.mem_of_getElem? (i := 220) (by decide +kernel))) rfl
theorem im_X12_writesBlock : Cond.instanceMethod yX12_writesBlock ∈ lw_gd := zm (lw_g_10 (List.mem_of_getElem? (i := 197) (by decide +kernel))) rfl
theorem ml_X12_786 : Cond.methodLink RX12 786 yX12_tellsByte ∈ lw_gd := zm (lw_g_10 (List.mem_of_getElem? (i := 183) (by decide +kernel))) rfl
theorem ml_X12_789 : Cond.methodLink RX12 789 yX12_tellsTwo ∈ lw_gd := zm (lw_g_10 (List.mem_of_getElem? (i := 187) (by decide +kernel))) rfl
theorem ml_X12_793 : Cond.methodLink RX12 793 yX12_rootTold ∈ lw_gd := zm (lw_g_10 (List.mem_of_getElem? (i := 191) (by decide +kernel))) rfl
theorem ml_X12_796 : Cond.methodLink RX12 796 yX12_writesBlock ∈ lw_gd := zm (lw_g_10 (List.mem_of_getElem? (i := 195) (by decide +kernel))) rfl
theorem ml_X12_799 : Cond.methodLink RX12 799 yX12_checked ∈ lw_gd := zm (lw_g_10 (List.mem_of_getElem? (i := 199) (by decide +kernel))) rfl
theorem ml_X12_806 : Cond.methodLink RX12 806 yX12_byteRead ∈ lw_gd := zm (lw_g_10 (List.mem_of_getElem? (i := 214) (by decide +kernel))) rfl
theorem ml_X12_809 : Cond.methodLink RX12 809 yX12_twoRead ∈ lw_gd := zm (lw_g_10 (List.mem_of_getElem? (i := 218) (by decide +kernel))) rfl
theorem ml_X12_812 : Cond.methodLink RX12 812 yX12_isLaidBlock ∈ lw_gd := zm (lw_g_10 (List.mem_of_getElem? (i := 222) (by decide +kernel))) rfl
theorem se_X12_byteRead : Cond.selects RX12 yX12_byteRead yX12_byteRead ∈ lw_gd := zm (List.mem_of_getElem? (i := 189) (by decide +kernel)) rfl
theorem se_X12_isLaidBlock : Cond.selects RX12 yX12_isLaidBlock yX12_isLaidBlock ∈ lw_gd := zm (List.mem_of_getElem? (i := 191) (by decide +kernel)) rfl
theorem se_X12_rootTold : Cond.selects RX12 yX12_rootTold yX12_rootTold ∈ lw_gd := zm (List.mem_of_getElem? (i := 185) (by decide +kernel)) rfl
theorem se_X12_tellsByte : Cond.selects RX12 yX12_tellsByte yX12_tellsByte ∈ lw_gd := zm (List.mem_of_getElem? (i := 183) (by decide +kernel)) rfl
theorem se_X12_tellsTwo : Cond.selects RX12 yX12_tellsTwo yX12_tellsTwo ∈ lw_gd := zm (List.mem_of_getElem? (i := 184) (by decide +kernel)) rfl
theorem se_X12_twoRead : Cond.selects RX12 yX12_twoRead yX12_twoRead ∈ lw_gd := zm (List.mem_of_getElem? (i := 190) (by decide +kernel)) rfl
theorem se_X12_writesBlock : Cond.selects RX12 yX12_writesBlock yX12_writesBlock ∈ lw_gd := zm (List.mem_of_getElem? (i := 186) (by decide +kernel)) rfl
theorem st_X12_checked : Cond.static yX12_checked ∈ lw_gd := zm (lw_g_10 (List.mem_of_getElem? (i := 200) (by decide +kernel))) rfl
theorem eX12_byteRead_0 : decode cX12_byteRead 0 = .ok (.aload_n 0, 1) ∧ decode cX12_byteRead 1 = .ok (.dup, 1) ∧ decode cX12_byteRead 2 = .ok (.getfield 803, 3) ∧ decode cX12_byteRead 5 = .ok (.iconst 1, 1) ∧ decode cX12_byteRead 6 = .ok (.iadd, 1) ∧ decode cX12_byteRead 7 = .ok (.putfield 803, 3) ∧ decode cX12_byteRead 10 = .ok (.aload_n 0, 1) ∧ decode cX12_byteRead 11 = .ok (.getfield 803, 3) := by decide +kernel
theorem eX12_byteRead_14 : decode cX12_byteRead 14 = .ok (.iload_n 1, 1) ∧ decode cX12_byteRead 15 = .ok (.if_icmp .gt 17, 3) ∧ decode cX12_byteRead 18 = .ok (.aload_n 0, 1) ∧ decode cX12_byteRead 19 = .ok (.getfield 7, 3) ∧ decode cX12_byteRead 22 = .ok (.aload_n 0, 1) ∧ decode cX12_byteRead 23 = .ok (.getfield 803, 3) ∧ decode cX12_byteRead 26 = .ok (.iconst 1, 1) ∧ decode cX12_byteRead 27 = .ok (.isub, 1) := by decide +kernel
theorem eX12_byteRead_28 : decode cX12_byteRead 28 = .ok (.iaload, 1) ∧ decode cX12_byteRead 29 = .ok (.goto 4, 3) ∧ decode cX12_byteRead 32 = .ok (.iconst (-1), 1) ∧ decode cX12_byteRead 33 = .ok (.ireturn, 1) ∧ decode cX12_checked 0 = .ok (.sipush 157, 3) ∧ decode cX12_checked 3 = .ok (.istore_n 2, 1) ∧ decode cX12_checked 4 = .ok (.iconst 0, 1) ∧ decode cX12_checked 5 = .ok (.istore_n 3, 1) := by decide +kernel
theorem eX12_checked_6 : decode cX12_checked 6 = .ok (.iload_n 3, 1) ∧ decode cX12_checked 7 = .ok (.iload_n 1, 1) ∧ decode cX12_checked 8 = .ok (.if_icmp .ge 21, 3) ∧ decode cX12_checked 11 = .ok (.iconst 3, 1) ∧ decode cX12_checked 12 = .ok (.iload_n 2, 1) ∧ decode cX12_checked 13 = .ok (.imul, 1) ∧ decode cX12_checked 14 = .ok (.aload_n 0, 1) ∧ decode cX12_checked 15 = .ok (.iload_n 3, 1) := by decide +kernel
theorem eX12_checked_16 : decode cX12_checked 16 = .ok (.iaload, 1) ∧ decode cX12_checked 17 = .ok (.iadd, 1) ∧ decode cX12_checked 18 = .ok (.sipush 251, 3) ∧ decode cX12_checked 21 = .ok (.irem, 1) ∧ decode cX12_checked 22 = .ok (.istore_n 2, 1) ∧ decode cX12_checked 23 = .ok (.iinc 3 1, 3) ∧ decode cX12_checked 26 = .ok (.goto (-20), 3) ∧ decode cX12_checked 29 = .ok (.iload_n 2, 1) := by decide +kernel
theorem eX12_checked_30 : decode cX12_checked 30 = .ok (.ireturn, 1) ∧ decode cX12_image 0 = .ok (.aload_n 0, 1) ∧ decode cX12_image 1 = .ok (.iconst 0, 1) ∧ decode cX12_image 2 = .ok (.putfield 783, 3) ∧ decode cX12_image 5 = .ok (.aload_n 0, 1) ∧ decode cX12_image 6 = .ok (.aload_n 0, 1) ∧ decode cX12_image 7 = .ok (.getfield 121, 3) ∧ decode cX12_image 10 = .ok (.bipush 16, 2) := by decide +kernel
theorem eX12_image_12 : decode cX12_image 12 = .ok (.iaload, 1) ∧ decode cX12_image 13 = .ok (.ldc_w 792, 3) ∧ decode cX12_image 16 = .ok (.idiv, 1) ∧ decode cX12_image 17 = .ok (.invokevirtual 786, 3) ∧ decode cX12_image 20 = .ok (.aload_n 0, 1) ∧ decode cX12_image 21 = .ok (.aload_n 0, 1) ∧ decode cX12_image 22 = .ok (.getfield 121, 3) ∧ decode cX12_image 25 = .ok (.bipush 16, 2) := by decide +kernel
theorem eX12_image_27 : decode cX12_image 27 = .ok (.iaload, 1) ∧ decode cX12_image 28 = .ok (.ldc_w 792, 3) ∧ decode cX12_image 31 = .ok (.irem, 1) ∧ decode cX12_image 32 = .ok (.invokevirtual 789, 3) ∧ decode cX12_image 35 = .ok (.iconst 0, 1) ∧ decode cX12_image 36 = .ok (.istore_n 1, 1) ∧ decode cX12_image 37 = .ok (.iload_n 1, 1) ∧ decode cX12_image 38 = .ok (.bipush 8, 2) := by decide +kernel
theorem eX12_image_40 : decode cX12_image 40 = .ok (.if_icmp .ge 30, 3) ∧ decode cX12_image 43 = .ok (.aload_n 0, 1) ∧ decode cX12_image 44 = .ok (.aload_n 0, 1) ∧ decode cX12_image 45 = .ok (.iload_n 1, 1) ∧ decode cX12_image 46 = .ok (.invokevirtual 793, 3) ∧ decode cX12_image 49 = .ok (.invokevirtual 786, 3) ∧ decode cX12_image 52 = .ok (.aload_n 0, 1) ∧ decode cX12_image 53 = .ok (.aload_n 0, 1) := by decide +kernel
theorem eX12_image_54 : decode cX12_image 54 = .ok (.bipush 8, 2) ∧ decode cX12_image 56 = .ok (.iload_n 1, 1) ∧ decode cX12_image 57 = .ok (.iadd, 1) ∧ decode cX12_image 58 = .ok (.invokevirtual 793, 3) ∧ decode cX12_image 61 = .ok (.invokevirtual 786, 3) ∧ decode cX12_image 64 = .ok (.iinc 1 1, 3) ∧ decode cX12_image 67 = .ok (.goto (-30), 3) ∧ decode cX12_image 70 = .ok (.iconst 0, 1) := by decide +kernel
theorem eX12_image_71 : decode cX12_image 71 = .ok (.istore_n 1, 1) ∧ decode cX12_image 72 = .ok (.iload_n 1, 1) ∧ decode cX12_image 73 = .ok (.aload_n 0, 1) ∧ decode cX12_image 74 = .ok (.invokevirtual 429, 3) ∧ decode cX12_image 77 = .ok (.if_icmp .ge 14, 3) ∧ decode cX12_image 80 = .ok (.aload_n 0, 1) ∧ decode cX12_image 81 = .ok (.iload_n 1, 1) ∧ decode cX12_image 82 = .ok (.invokevirtual 796, 3) := by decide +kernel
theorem eX12_image_85 : decode cX12_image 85 = .ok (.iinc 1 1, 3) ∧ decode cX12_image 88 = .ok (.goto (-16), 3) ∧ decode cX12_image 91 = .ok (.aload_n 0, 1) ∧ decode cX12_image 92 = .ok (.aload_n 0, 1) ∧ decode cX12_image 93 = .ok (.getfield 252, 3) ∧ decode cX12_image 96 = .ok (.aload_n 0, 1) ∧ decode cX12_image 97 = .ok (.getfield 783, 3) ∧ decode cX12_image 100 = .ok (.invokestatic 799, 3) := by decide +kernel
theorem eX12_image_103 : decode cX12_image 103 = .ok (.invokevirtual 786, 3) ∧ decode cX12_image 106 = .ok (.aload_n 0, 1) ∧ decode cX12_image 107 = .ok (.getfield 783, 3) ∧ decode cX12_image 110 = .ok (.ireturn, 1) ∧ decode cX12_isLaid 0 = .ok (.aload_n 0, 1) ∧ decode cX12_isLaid 1 = .ok (.iconst 0, 1) ∧ decode cX12_isLaid 2 = .ok (.putfield 803, 3) ∧ decode cX12_isLaid 5 = .ok (.aload_n 0, 1) := by decide +kernel
theorem eX12_isLaid_6 : decode cX12_isLaid 6 = .ok (.iload_n 1, 1) ∧ decode cX12_isLaid 7 = .ok (.invokevirtual 806, 3) ∧ decode cX12_isLaid 10 = .ok (.istore_n 2, 1) ∧ decode cX12_isLaid 11 = .ok (.aload_n 0, 1) ∧ decode cX12_isLaid 12 = .ok (.iload_n 1, 1) ∧ decode cX12_isLaid 13 = .ok (.invokevirtual 809, 3) ∧ decode cX12_isLaid 16 = .ok (.istore_n 3, 1) ∧ decode cX12_isLaid 17 = .ok (.aload_n 0, 1) := by decide +kernel
theorem eX12_isLaid_18 : decode cX12_isLaid 18 = .ok (.getfield 255, 3) ∧ decode cX12_isLaid 21 = .ok (.bipush 16, 2) ∧ decode cX12_isLaid 23 = .ok (.ldc_w 792, 3) ∧ decode cX12_isLaid 26 = .ok (.iload_n 2, 1) ∧ decode cX12_isLaid 27 = .ok (.imul, 1) ∧ decode cX12_isLaid 28 = .ok (.iload_n 3, 1) ∧ decode cX12_isLaid 29 = .ok (.iadd, 1) ∧ decode cX12_isLaid 30 = .ok (.iastore, 1) := by decide +kernel
theorem eX12_isLaid_31 : decode cX12_isLaid 31 = .ok (.iload_n 2, 1) ∧ decode cX12_isLaid 32 = .ok (.iconst (-1), 1) ∧ decode cX12_isLaid 33 = .ok (.if_icmp .eq 21, 3) ∧ decode cX12_isLaid 36 = .ok (.iload_n 3, 1) ∧ decode cX12_isLaid 37 = .ok (.iconst (-1), 1) ∧ decode cX12_isLaid 38 = .ok (.if_icmp .eq 16, 3) ∧ decode cX12_isLaid 41 = .ok (.aload_n 0, 1) ∧ decode cX12_isLaid 42 = .ok (.getfield 255, 3) := by decide +kernel
theorem eX12_isLaid_45 : decode cX12_isLaid 45 = .ok (.bipush 16, 2) ∧ decode cX12_isLaid 47 = .ok (.iaload, 1) ∧ decode cX12_isLaid 48 = .ok (.ldc_w 492, 3) ∧ decode cX12_isLaid 51 = .ok (.if_icmp .le 5, 3) ∧ decode cX12_isLaid 54 = .ok (.iconst 0, 1) ∧ decode cX12_isLaid 55 = .ok (.ireturn, 1) ∧ decode cX12_isLaid 56 = .ok (.iconst 0, 1) ∧ decode cX12_isLaid 57 = .ok (.istore 4, 2) := by decide +kernel
theorem eX12_isLaid_59 : decode cX12_isLaid 59 = .ok (.iload 4, 2) ∧ decode cX12_isLaid 61 = .ok (.bipush 8, 2) ∧ decode cX12_isLaid 63 = .ok (.if_icmp .ge 36, 3) ∧ decode cX12_isLaid 66 = .ok (.aload_n 0, 1) ∧ decode cX12_isLaid 67 = .ok (.getfield 255, 3) ∧ decode cX12_isLaid 70 = .ok (.iload 4, 2) ∧ decode cX12_isLaid 72 = .ok (.aload_n 0, 1) ∧ decode cX12_isLaid 73 = .ok (.iload_n 1, 1) := by decide +kernel
theorem eX12_isLaid_74 : decode cX12_isLaid 74 = .ok (.invokevirtual 806, 3) ∧ decode cX12_isLaid 77 = .ok (.iastore, 1) ∧ decode cX12_isLaid 78 = .ok (.aload_n 0, 1) ∧ decode cX12_isLaid 79 = .ok (.getfield 255, 3) ∧ decode cX12_isLaid 82 = .ok (.bipush 8, 2) ∧ decode cX12_isLaid 84 = .ok (.iload 4, 2) ∧ decode cX12_isLaid 86 = .ok (.iadd, 1) ∧ decode cX12_isLaid 87 = .ok (.aload_n 0, 1) := by decide +kernel
theorem eX12_isLaid_88 : decode cX12_isLaid 88 = .ok (.iload_n 1, 1) ∧ decode cX12_isLaid 89 = .ok (.invokevirtual 806, 3) ∧ decode cX12_isLaid 92 = .ok (.iastore, 1) ∧ decode cX12_isLaid 93 = .ok (.iinc 4 1, 3) ∧ decode cX12_isLaid 96 = .ok (.goto (-37), 3) ∧ decode cX12_isLaid 99 = .ok (.iconst 0, 1) ∧ decode cX12_isLaid 100 = .ok (.istore 4, 2) ∧ decode cX12_isLaid 102 = .ok (.iload 4, 2) := by decide +kernel
theorem eX12_isLaid_104 : decode cX12_isLaid 104 = .ok (.aload_n 0, 1) ∧ decode cX12_isLaid 105 = .ok (.invokevirtual 429, 3) ∧ decode cX12_isLaid 108 = .ok (.if_icmp .ge 21, 3) ∧ decode cX12_isLaid 111 = .ok (.aload_n 0, 1) ∧ decode cX12_isLaid 112 = .ok (.iload 4, 2) ∧ decode cX12_isLaid 114 = .ok (.iload_n 1, 1) ∧ decode cX12_isLaid 115 = .ok (.invokevirtual 812, 3) ∧ decode cX12_isLaid 118 = .ok (.ifCond .ne 5, 3) := by decide +kernel
theorem eX12_isLaid_121 : decode cX12_isLaid 121 = .ok (.iconst 0, 1) ∧ decode cX12_isLaid 122 = .ok (.ireturn, 1) ∧ decode cX12_isLaid 123 = .ok (.iinc 4 1, 3) ∧ decode cX12_isLaid 126 = .ok (.goto (-24), 3) ∧ decode cX12_isLaid 129 = .ok (.aload_n 0, 1) ∧ decode cX12_isLaid 130 = .ok (.invokevirtual 429, 3) ∧ decode cX12_isLaid 133 = .ok (.istore 4, 2) ∧ decode cX12_isLaid 135 = .ok (.iload 4, 2) := by decide +kernel
theorem eX12_isLaid_137 : decode cX12_isLaid 137 = .ok (.bipush 48, 2) ∧ decode cX12_isLaid 139 = .ok (.if_icmp .ge 42, 3) ∧ decode cX12_isLaid 142 = .ok (.iconst 0, 1) ∧ decode cX12_isLaid 143 = .ok (.istore 5, 2) ∧ decode cX12_isLaid 145 = .ok (.iload 5, 2) ∧ decode cX12_isLaid 147 = .ok (.bipush 16, 2) ∧ decode cX12_isLaid 149 = .ok (.if_icmp .ge 26, 3) ∧ decode cX12_isLaid 152 = .ok (.aload_n 0, 1) := by decide +kernel
theorem eX12_isLaid_153 : decode cX12_isLaid 153 = .ok (.getfield 255, 3) ∧ decode cX12_isLaid 156 = .ok (.bipush 17, 2) ∧ decode cX12_isLaid 158 = .ok (.bipush 16, 2) ∧ decode cX12_isLaid 160 = .ok (.iload 4, 2) ∧ decode cX12_isLaid 162 = .ok (.imul, 1) ∧ decode cX12_isLaid 163 = .ok (.iadd, 1) ∧ decode cX12_isLaid 164 = .ok (.iload 5, 2) ∧ decode cX12_isLaid 166 = .ok (.iadd, 1) := by decide +kernel
theorem eX12_isLaid_167 : decode cX12_isLaid 167 = .ok (.iconst 0, 1) ∧ decode cX12_isLaid 168 = .ok (.iastore, 1) ∧ decode cX12_isLaid 169 = .ok (.iinc 5 1, 3) ∧ decode cX12_isLaid 172 = .ok (.goto (-27), 3) ∧ decode cX12_isLaid 175 = .ok (.iinc 4 1, 3) ∧ decode cX12_isLaid 178 = .ok (.goto (-43), 3) ∧ decode cX12_isLaid 181 = .ok (.aload_n 0, 1) ∧ decode cX12_isLaid 182 = .ok (.getfield 803, 3) := by decide +kernel
theorem eX12_isLaid_185 : decode cX12_isLaid 185 = .ok (.iload_n 1, 1) ∧ decode cX12_isLaid 186 = .ok (.if_icmp .ne 7, 3) ∧ decode cX12_isLaid 189 = .ok (.iconst 1, 1) ∧ decode cX12_isLaid 190 = .ok (.goto 4, 3) ∧ decode cX12_isLaid 193 = .ok (.iconst 0, 1) ∧ decode cX12_isLaid 194 = .ok (.ireturn, 1) ∧ decode cX12_isLaidBlock 0 = .ok (.bipush 17, 2) ∧ decode cX12_isLaidBlock 2 = .ok (.bipush 16, 2) := by decide +kernel
theorem eX12_isLaidBlock_4 : decode cX12_isLaidBlock 4 = .ok (.iload_n 1, 1) ∧ decode cX12_isLaidBlock 5 = .ok (.imul, 1) ∧ decode cX12_isLaidBlock 6 = .ok (.iadd, 1) ∧ decode cX12_isLaidBlock 7 = .ok (.istore_n 3, 1) ∧ decode cX12_isLaidBlock 8 = .ok (.iconst 0, 1) ∧ decode cX12_isLaidBlock 9 = .ok (.istore 4, 2) ∧ decode cX12_isLaidBlock 11 = .ok (.iload 4, 2) ∧ decode cX12_isLaidBlock 13 = .ok (.bipush 16, 2) := by decide +kernel
theorem eX12_isLaidBlock_15 : decode cX12_isLaidBlock 15 = .ok (.if_icmp .ge 19, 3) ∧ decode cX12_isLaidBlock 18 = .ok (.aload_n 0, 1) ∧ decode cX12_isLaidBlock 19 = .ok (.getfield 255, 3) ∧ decode cX12_isLaidBlock 22 = .ok (.iload_n 3, 1) ∧ decode cX12_isLaidBlock 23 = .ok (.iload 4, 2) ∧ decode cX12_isLaidBlock 25 = .ok (.iadd, 1) ∧ decode cX12_isLaidBlock 26 = .ok (.iconst 0, 1) ∧ decode cX12_isLaidBlock 27 = .ok (.iastore, 1) := by decide +kernel
theorem eX12_isLaidBlock_28 : decode cX12_isLaidBlock 28 = .ok (.iinc 4 1, 3) ∧ decode cX12_isLaidBlock 31 = .ok (.goto (-20), 3) ∧ decode cX12_isLaidBlock 34 = .ok (.aload_n 0, 1) ∧ decode cX12_isLaidBlock 35 = .ok (.getfield 255, 3) ∧ decode cX12_isLaidBlock 38 = .ok (.iload_n 3, 1) ∧ decode cX12_isLaidBlock 39 = .ok (.aload_n 0, 1) ∧ decode cX12_isLaidBlock 40 = .ok (.iload_n 2, 1) ∧ decode cX12_isLaidBlock 41 = .ok (.invokevirtual 806, 3) := by decide +kernel
theorem eX12_isLaidBlock_44 : decode cX12_isLaidBlock 44 = .ok (.iastore, 1) ∧ decode cX12_isLaidBlock 45 = .ok (.aload_n 0, 1) ∧ decode cX12_isLaidBlock 46 = .ok (.getfield 255, 3) ∧ decode cX12_isLaidBlock 49 = .ok (.iload_n 3, 1) ∧ decode cX12_isLaidBlock 50 = .ok (.iconst 1, 1) ∧ decode cX12_isLaidBlock 51 = .ok (.iadd, 1) ∧ decode cX12_isLaidBlock 52 = .ok (.aload_n 0, 1) ∧ decode cX12_isLaidBlock 53 = .ok (.iload_n 2, 1) := by decide +kernel
theorem eX12_isLaidBlock_54 : decode cX12_isLaidBlock 54 = .ok (.invokevirtual 806, 3) ∧ decode cX12_isLaidBlock 57 = .ok (.iastore, 1) ∧ decode cX12_isLaidBlock 58 = .ok (.aload_n 0, 1) ∧ decode cX12_isLaidBlock 59 = .ok (.getfield 255, 3) ∧ decode cX12_isLaidBlock 62 = .ok (.iload_n 3, 1) ∧ decode cX12_isLaidBlock 63 = .ok (.iaload, 1) ∧ decode cX12_isLaidBlock 64 = .ok (.aload_n 0, 1) ∧ decode cX12_isLaidBlock 65 = .ok (.getfield 255, 3) := by decide +kernel
theorem eX12_isLaidBlock_68 : decode cX12_isLaidBlock 68 = .ok (.iload_n 3, 1) ∧ decode cX12_isLaidBlock 69 = .ok (.iconst 1, 1) ∧ decode cX12_isLaidBlock 70 = .ok (.iadd, 1) ∧ decode cX12_isLaidBlock 71 = .ok (.iaload, 1) ∧ decode cX12_isLaidBlock 72 = .ok (.iadd, 1) ∧ decode cX12_isLaidBlock 73 = .ok (.ifCond .ne 5, 3) ∧ decode cX12_isLaidBlock 76 = .ok (.iconst 1, 1) ∧ decode cX12_isLaidBlock 77 = .ok (.ireturn, 1) := by decide +kernel
theorem eX12_isLaidBlock_78 : decode cX12_isLaidBlock 78 = .ok (.aload_n 0, 1) ∧ decode cX12_isLaidBlock 79 = .ok (.getfield 255, 3) ∧ decode cX12_isLaidBlock 82 = .ok (.iload_n 3, 1) ∧ decode cX12_isLaidBlock 83 = .ok (.iconst 2, 1) ∧ decode cX12_isLaidBlock 84 = .ok (.iadd, 1) ∧ decode cX12_isLaidBlock 85 = .ok (.aload_n 0, 1) ∧ decode cX12_isLaidBlock 86 = .ok (.iload_n 2, 1) ∧ decode cX12_isLaidBlock 87 = .ok (.invokevirtual 806, 3) := by decide +kernel
theorem eX12_isLaidBlock_90 : decode cX12_isLaidBlock 90 = .ok (.iastore, 1) ∧ decode cX12_isLaidBlock 91 = .ok (.aload_n 0, 1) ∧ decode cX12_isLaidBlock 92 = .ok (.getfield 255, 3) ∧ decode cX12_isLaidBlock 95 = .ok (.iload_n 3, 1) ∧ decode cX12_isLaidBlock 96 = .ok (.iconst 3, 1) ∧ decode cX12_isLaidBlock 97 = .ok (.iadd, 1) ∧ decode cX12_isLaidBlock 98 = .ok (.aload_n 0, 1) ∧ decode cX12_isLaidBlock 99 = .ok (.iload_n 2, 1) := by decide +kernel
theorem eX12_isLaidBlock_100 : decode cX12_isLaidBlock 100 = .ok (.invokevirtual 806, 3) ∧ decode cX12_isLaidBlock 103 = .ok (.iastore, 1) ∧ decode cX12_isLaidBlock 104 = .ok (.aload_n 0, 1) ∧ decode cX12_isLaidBlock 105 = .ok (.getfield 255, 3) ∧ decode cX12_isLaidBlock 108 = .ok (.iload_n 3, 1) ∧ decode cX12_isLaidBlock 109 = .ok (.iconst 3, 1) ∧ decode cX12_isLaidBlock 110 = .ok (.iadd, 1) ∧ decode cX12_isLaidBlock 111 = .ok (.iaload, 1) := by decide +kernel
theorem eX12_isLaidBlock_112 : decode cX12_isLaidBlock 112 = .ok (.i2l, 1) ∧ decode cX12_isLaidBlock 113 = .ok (.lconst 1, 1) ∧ decode cX12_isLaidBlock 114 = .ok (.aload_n 0, 1) ∧ decode cX12_isLaidBlock 115 = .ok (.invokevirtual 523, 3) ∧ decode cX12_isLaidBlock 118 = .ok (.i2l, 1) ∧ decode cX12_isLaidBlock 119 = .ok (.invokestatic 309, 3) ∧ decode cX12_isLaidBlock 122 = .ok (.ifCond .ne 5, 3) ∧ decode cX12_isLaidBlock 125 = .ok (.iconst 0, 1) := by decide +kernel
theorem eX12_isLaidBlock_126 : decode cX12_isLaidBlock 126 = .ok (.ireturn, 1) ∧ decode cX12_isLaidBlock 127 = .ok (.iconst 0, 1) ∧ decode cX12_isLaidBlock 128 = .ok (.istore 4, 2) ∧ decode cX12_isLaidBlock 130 = .ok (.iload 4, 2) ∧ decode cX12_isLaidBlock 132 = .ok (.aload_n 0, 1) ∧ decode cX12_isLaidBlock 133 = .ok (.getfield 255, 3) ∧ decode cX12_isLaidBlock 136 = .ok (.iload_n 3, 1) ∧ decode cX12_isLaidBlock 137 = .ok (.iconst 3, 1) := by decide +kernel
theorem eX12_isLaidBlock_138 : decode cX12_isLaidBlock 138 = .ok (.iadd, 1) ∧ decode cX12_isLaidBlock 139 = .ok (.iaload, 1) ∧ decode cX12_isLaidBlock 140 = .ok (.if_icmp .ge 109, 3) ∧ decode cX12_isLaidBlock 143 = .ok (.aload_n 0, 1) ∧ decode cX12_isLaidBlock 144 = .ok (.getfield 255, 3) ∧ decode cX12_isLaidBlock 147 = .ok (.iload_n 3, 1) ∧ decode cX12_isLaidBlock 148 = .ok (.iconst 4, 1) ∧ decode cX12_isLaidBlock 149 = .ok (.iadd, 1) := by decide +kernel
theorem eX12_isLaidBlock_150 : decode cX12_isLaidBlock 150 = .ok (.iload 4, 2) ∧ decode cX12_isLaidBlock 152 = .ok (.iadd, 1) ∧ decode cX12_isLaidBlock 153 = .ok (.aload_n 0, 1) ∧ decode cX12_isLaidBlock 154 = .ok (.iload_n 2, 1) ∧ decode cX12_isLaidBlock 155 = .ok (.invokevirtual 809, 3) ∧ decode cX12_isLaidBlock 158 = .ok (.iastore, 1) ∧ decode cX12_isLaidBlock 159 = .ok (.aload_n 0, 1) ∧ decode cX12_isLaidBlock 160 = .ok (.getfield 255, 3) := by decide +kernel
theorem eX12_isLaidBlock_163 : decode cX12_isLaidBlock 163 = .ok (.iload_n 3, 1) ∧ decode cX12_isLaidBlock 164 = .ok (.bipush 10, 2) ∧ decode cX12_isLaidBlock 166 = .ok (.iadd, 1) ∧ decode cX12_isLaidBlock 167 = .ok (.iload 4, 2) ∧ decode cX12_isLaidBlock 169 = .ok (.iadd, 1) ∧ decode cX12_isLaidBlock 170 = .ok (.aload_n 0, 1) ∧ decode cX12_isLaidBlock 171 = .ok (.iload_n 2, 1) ∧ decode cX12_isLaidBlock 172 = .ok (.invokevirtual 809, 3) := by decide +kernel
theorem eX12_isLaidBlock_175 : decode cX12_isLaidBlock 175 = .ok (.iastore, 1) ∧ decode cX12_isLaidBlock 176 = .ok (.iload 4, 2) ∧ decode cX12_isLaidBlock 178 = .ok (.ifCond .eq 20, 3) ∧ decode cX12_isLaidBlock 181 = .ok (.iload 4, 2) ∧ decode cX12_isLaidBlock 183 = .ok (.iconst 1, 1) ∧ decode cX12_isLaidBlock 184 = .ok (.if_icmp .ne 18, 3) ∧ decode cX12_isLaidBlock 187 = .ok (.aload_n 0, 1) ∧ decode cX12_isLaidBlock 188 = .ok (.getfield 255, 3) := by decide +kernel
theorem eX12_isLaidBlock_191 : decode cX12_isLaidBlock 191 = .ok (.iload_n 3, 1) ∧ decode cX12_isLaidBlock 192 = .ok (.iconst 2, 1) ∧ decode cX12_isLaidBlock 193 = .ok (.iadd, 1) ∧ decode cX12_isLaidBlock 194 = .ok (.iaload, 1) ∧ decode cX12_isLaidBlock 195 = .ok (.ifCond .le 7, 3) ∧ decode cX12_isLaidBlock 198 = .ok (.iconst 0, 1) ∧ decode cX12_isLaidBlock 199 = .ok (.goto 16, 3) ∧ decode cX12_isLaidBlock 202 = .ok (.aload_n 0, 1) := by decide +kernel
theorem eX12_isLaidBlock_203 : decode cX12_isLaidBlock 203 = .ok (.getfield 255, 3) ∧ decode cX12_isLaidBlock 206 = .ok (.iload_n 3, 1) ∧ decode cX12_isLaidBlock 207 = .ok (.iconst 3, 1) ∧ decode cX12_isLaidBlock 208 = .ok (.iadd, 1) ∧ decode cX12_isLaidBlock 209 = .ok (.iload 4, 2) ∧ decode cX12_isLaidBlock 211 = .ok (.iadd, 1) ∧ decode cX12_isLaidBlock 212 = .ok (.iaload, 1) ∧ decode cX12_isLaidBlock 213 = .ok (.iconst 1, 1) := by decide +kernel
theorem eX12_isLaidBlock_214 : decode cX12_isLaidBlock 214 = .ok (.iadd, 1) ∧ decode cX12_isLaidBlock 215 = .ok (.istore 5, 2) ∧ decode cX12_isLaidBlock 217 = .ok (.aload_n 0, 1) ∧ decode cX12_isLaidBlock 218 = .ok (.getfield 255, 3) ∧ decode cX12_isLaidBlock 221 = .ok (.iload_n 3, 1) ∧ decode cX12_isLaidBlock 222 = .ok (.iconst 4, 1) ∧ decode cX12_isLaidBlock 223 = .ok (.iadd, 1) ∧ decode cX12_isLaidBlock 224 = .ok (.iload 4, 2) := by decide +kernel
theorem eX12_isLaidBlock_226 : decode cX12_isLaidBlock 226 = .ok (.iadd, 1) ∧ decode cX12_isLaidBlock 227 = .ok (.iaload, 1) ∧ decode cX12_isLaidBlock 228 = .ok (.i2l, 1) ∧ decode cX12_isLaidBlock 229 = .ok (.iload 5, 2) ∧ decode cX12_isLaidBlock 231 = .ok (.i2l, 1) ∧ decode cX12_isLaidBlock 232 = .ok (.ldc2_w 624, 3) ∧ decode cX12_isLaidBlock 235 = .ok (.invokestatic 309, 3) ∧ decode cX12_isLaidBlock 238 = .ok (.ifCond .ne 5, 3) := by decide +kernel
theorem eX12_isLaidBlock_241 : decode cX12_isLaidBlock 241 = .ok (.iconst 0, 1) ∧ decode cX12_isLaidBlock 242 = .ok (.ireturn, 1) ∧ decode cX12_isLaidBlock 243 = .ok (.iinc 4 1, 3) ∧ decode cX12_isLaidBlock 246 = .ok (.goto (-116), 3) ∧ decode cX12_isLaidBlock 249 = .ok (.aload_n 0, 1) ∧ decode cX12_isLaidBlock 250 = .ok (.getfield 803, 3) ∧ decode cX12_isLaidBlock 253 = .ok (.iload_n 2, 1) ∧ decode cX12_isLaidBlock 254 = .ok (.if_icmp .gt 7, 3) := by decide +kernel
theorem eX12_isLaidBlock_257 : decode cX12_isLaidBlock 257 = .ok (.iconst 1, 1) ∧ decode cX12_isLaidBlock 258 = .ok (.goto 4, 3) ∧ decode cX12_isLaidBlock 261 = .ok (.iconst 0, 1) ∧ decode cX12_isLaidBlock 262 = .ok (.ireturn, 1) ∧ decode cX12_laidOf 0 = .ok (.aload_n 0, 1) ∧ decode cX12_laidOf 1 = .ok (.getfield 255, 3) ∧ decode cX12_laidOf 4 = .ok (.bipush 17, 2) ∧ decode cX12_laidOf 6 = .ok (.bipush 16, 2) := by decide +kernel
theorem eX12_laidOf_8 : decode cX12_laidOf 8 = .ok (.iload_n 1, 1) ∧ decode cX12_laidOf 9 = .ok (.imul, 1) ∧ decode cX12_laidOf 10 = .ok (.iadd, 1) ∧ decode cX12_laidOf 11 = .ok (.iload_n 2, 1) ∧ decode cX12_laidOf 12 = .ok (.iadd, 1) ∧ decode cX12_laidOf 13 = .ok (.iaload, 1) ∧ decode cX12_laidOf 14 = .ok (.ireturn, 1) ∧ decode cX12_octet 0 = .ok (.iload_n 1, 1) := by decide +kernel
theorem eX12_octet_1 : decode cX12_octet 1 = .ok (.ifCond .lt 20, 3) ∧ decode cX12_octet 4 = .ok (.iload_n 1, 1) ∧ decode cX12_octet 5 = .ok (.aload_n 0, 1) ∧ decode cX12_octet 6 = .ok (.getfield 783, 3) ∧ decode cX12_octet 9 = .ok (.if_icmp .ge 12, 3) ∧ decode cX12_octet 12 = .ok (.aload_n 0, 1) ∧ decode cX12_octet 13 = .ok (.getfield 252, 3) ∧ decode cX12_octet 16 = .ok (.iload_n 1, 1) := by decide +kernel
theorem eX12_octet_17 : decode cX12_octet 17 = .ok (.iaload, 1) ∧ decode cX12_octet 18 = .ok (.goto 4, 3) ∧ decode cX12_octet 21 = .ok (.iconst (-1), 1) ∧ decode cX12_octet 22 = .ok (.ireturn, 1) ∧ decode cX12_rootTold 0 = .ok (.aload_n 0, 1) ∧ decode cX12_rootTold 1 = .ok (.getfield 406, 3) ∧ decode cX12_rootTold 4 = .ok (.ifCond .eq 12, 3) ∧ decode cX12_rootTold 7 = .ok (.aload_n 0, 1) := by decide +kernel
theorem eX12_rootTold_8 : decode cX12_rootTold 8 = .ok (.getfield 121, 3) ∧ decode cX12_rootTold 11 = .ok (.iload_n 1, 1) ∧ decode cX12_rootTold 12 = .ok (.iaload, 1) ∧ decode cX12_rootTold 13 = .ok (.goto 6, 3) ∧ decode cX12_rootTold 16 = .ok (.sipush 255, 3) ∧ decode cX12_rootTold 19 = .ok (.ireturn, 1) ∧ decode cX12_status 0 = .ok (.iload_n 1, 1) ∧ decode cX12_status 1 = .ok (.i2l, 1) := by decide +kernel
theorem eX12_status_2 : decode cX12_status 2 = .ok (.lconst 0, 1) ∧ decode cX12_status 3 = .ok (.ldc2_w 590, 3) ∧ decode cX12_status 6 = .ok (.invokestatic 309, 3) ∧ decode cX12_status 9 = .ok (.ifCond .eq 12, 3) ∧ decode cX12_status 12 = .ok (.aload_n 0, 1) ∧ decode cX12_status 13 = .ok (.getfield 17, 3) ∧ decode cX12_status 16 = .ok (.iload_n 1, 1) ∧ decode cX12_status 17 = .ok (.iaload, 1) := by decide +kernel
theorem eX12_status_18 : decode cX12_status 18 = .ok (.goto 4, 3) ∧ decode cX12_status 21 = .ok (.iconst (-1), 1) ∧ decode cX12_status 22 = .ok (.ireturn, 1) ∧ decode cX12_tellsByte 0 = .ok (.aload_n 0, 1) ∧ decode cX12_tellsByte 1 = .ok (.getfield 252, 3) ∧ decode cX12_tellsByte 4 = .ok (.aload_n 0, 1) ∧ decode cX12_tellsByte 5 = .ok (.getfield 783, 3) ∧ decode cX12_tellsByte 8 = .ok (.iload_n 1, 1) := by decide +kernel
theorem eX12_tellsByte_9 : decode cX12_tellsByte 9 = .ok (.iastore, 1) ∧ decode cX12_tellsByte 10 = .ok (.aload_n 0, 1) ∧ decode cX12_tellsByte 11 = .ok (.dup, 1) ∧ decode cX12_tellsByte 12 = .ok (.getfield 783, 3) ∧ decode cX12_tellsByte 15 = .ok (.iconst 1, 1) ∧ decode cX12_tellsByte 16 = .ok (.iadd, 1) ∧ decode cX12_tellsByte 17 = .ok (.putfield 783, 3) ∧ decode cX12_tellsByte 20 = .ok (.return_, 1) := by decide +kernel
theorem eX12_tellsTwo_0 : decode cX12_tellsTwo 0 = .ok (.aload_n 0, 1) ∧ decode cX12_tellsTwo 1 = .ok (.iload_n 1, 1) ∧ decode cX12_tellsTwo 2 = .ok (.sipush 256, 3) ∧ decode cX12_tellsTwo 5 = .ok (.idiv, 1) ∧ decode cX12_tellsTwo 6 = .ok (.invokevirtual 786, 3) ∧ decode cX12_tellsTwo 9 = .ok (.aload_n 0, 1) ∧ decode cX12_tellsTwo 10 = .ok (.iload_n 1, 1) ∧ decode cX12_tellsTwo 11 = .ok (.sipush 256, 3) := by decide +kernel
theorem eX12_tellsTwo_14 : decode cX12_tellsTwo 14 = .ok (.irem, 1) ∧ decode cX12_tellsTwo 15 = .ok (.invokevirtual 786, 3) ∧ decode cX12_tellsTwo 18 = .ok (.return_, 1) ∧ decode cX12_twoRead 0 = .ok (.aload_n 0, 1) ∧ decode cX12_twoRead 1 = .ok (.iload_n 1, 1) ∧ decode cX12_twoRead 2 = .ok (.invokevirtual 806, 3) ∧ decode cX12_twoRead 5 = .ok (.istore_n 2, 1) ∧ decode cX12_twoRead 6 = .ok (.aload_n 0, 1) := by decide +kernel
theorem eX12_twoRead_7 : decode cX12_twoRead 7 = .ok (.iload_n 1, 1) ∧ decode cX12_twoRead 8 = .ok (.invokevirtual 806, 3) ∧ decode cX12_twoRead 11 = .ok (.istore_n 3, 1) ∧ decode cX12_twoRead 12 = .ok (.iload_n 2, 1) ∧ decode cX12_twoRead 13 = .ok (.iconst (-1), 1) ∧ decode cX12_twoRead 14 = .ok (.if_icmp .eq 8, 3) ∧ decode cX12_twoRead 17 = .ok (.iload_n 3, 1) ∧ decode cX12_twoRead 18 = .ok (.iconst (-1), 1) := by decide +kernel
theorem eX12_twoRead_19 : decode cX12_twoRead 19 = .ok (.if_icmp .ne 7, 3) ∧ decode cX12_twoRead 22 = .ok (.iconst (-1), 1) ∧ decode cX12_twoRead 23 = .ok (.goto 10, 3) ∧ decode cX12_twoRead 26 = .ok (.sipush 256, 3) ∧ decode cX12_twoRead 29 = .ok (.iload_n 2, 1) ∧ decode cX12_twoRead 30 = .ok (.imul, 1) ∧ decode cX12_twoRead 31 = .ok (.iload_n 3, 1) ∧ decode cX12_twoRead 32 = .ok (.iadd, 1) := by decide +kernel
theorem eX12_twoRead_33 : decode cX12_twoRead 33 = .ok (.ireturn, 1) ∧ decode cX12_writesBlock 0 = .ok (.aload_n 0, 1) ∧ decode cX12_writesBlock 1 = .ok (.aload_n 0, 1) ∧ decode cX12_writesBlock 2 = .ok (.iload_n 1, 1) ∧ decode cX12_writesBlock 3 = .ok (.invokevirtual 432, 3) ∧ decode cX12_writesBlock 6 = .ok (.invokevirtual 786, 3) ∧ decode cX12_writesBlock 9 = .ok (.aload_n 0, 1) ∧ decode cX12_writesBlock 10 = .ok (.aload_n 0, 1) := by decide +kernel
theorem eX12_writesBlock_11 : decode cX12_writesBlock 11 = .ok (.iload_n 1, 1) ∧ decode cX12_writesBlock 12 = .ok (.invokevirtual 438, 3) ∧ decode cX12_writesBlock 15 = .ok (.invokevirtual 786, 3) ∧ decode cX12_writesBlock 18 = .ok (.aload_n 0, 1) ∧ decode cX12_writesBlock 19 = .ok (.iload_n 1, 1) ∧ decode cX12_writesBlock 20 = .ok (.invokevirtual 496, 3) ∧ decode cX12_writesBlock 23 = .ok (.ifCond .ne 4, 3) ∧ decode cX12_writesBlock 26 = .ok (.return_, 1) := by decide +kernel
theorem eX12_writesBlock_27 : decode cX12_writesBlock 27 = .ok (.aload_n 0, 1) ∧ decode cX12_writesBlock 28 = .ok (.aload_n 0, 1) ∧ decode cX12_writesBlock 29 = .ok (.iload_n 1, 1) ∧ decode cX12_writesBlock 30 = .ok (.invokevirtual 460, 3) ∧ decode cX12_writesBlock 33 = .ok (.invokevirtual 786, 3) ∧ decode cX12_writesBlock 36 = .ok (.aload_n 0, 1) ∧ decode cX12_writesBlock 37 = .ok (.aload_n 0, 1) ∧ decode cX12_writesBlock 38 = .ok (.iload_n 1, 1) := by decide +kernel
theorem eX12_writesBlock_39 : decode cX12_writesBlock 39 = .ok (.invokevirtual 466, 3) ∧ decode cX12_writesBlock 42 = .ok (.invokevirtual 786, 3) ∧ decode cX12_writesBlock 45 = .ok (.iconst 0, 1) ∧ decode cX12_writesBlock 46 = .ok (.istore_n 2, 1) ∧ decode cX12_writesBlock 47 = .ok (.iload_n 2, 1) ∧ decode cX12_writesBlock 48 = .ok (.aload_n 0, 1) ∧ decode cX12_writesBlock 49 = .ok (.iload_n 1, 1) ∧ decode cX12_writesBlock 50 = .ok (.invokevirtual 466, 3) := by decide +kernel
theorem eX12_writesBlock_53 : decode cX12_writesBlock 53 = .ok (.if_icmp .ge 29, 3) ∧ decode cX12_writesBlock 56 = .ok (.aload_n 0, 1) ∧ decode cX12_writesBlock 57 = .ok (.aload_n 0, 1) ∧ decode cX12_writesBlock 58 = .ok (.iload_n 1, 1) ∧ decode cX12_writesBlock 59 = .ok (.iload_n 2, 1) ∧ decode cX12_writesBlock 60 = .ok (.invokevirtual 517, 3) ∧ decode cX12_writesBlock 63 = .ok (.invokevirtual 789, 3) ∧ decode cX12_writesBlock 66 = .ok (.aload_n 0, 1) := by decide +kernel
theorem eX12_writesBlock_67 : decode cX12_writesBlock 67 = .ok (.aload_n 0, 1) ∧ decode cX12_writesBlock 68 = .ok (.iload_n 1, 1) ∧ decode cX12_writesBlock 69 = .ok (.iload_n 2, 1) ∧ decode cX12_writesBlock 70 = .ok (.invokevirtual 505, 3) ∧ decode cX12_writesBlock 73 = .ok (.invokevirtual 789, 3) ∧ decode cX12_writesBlock 76 = .ok (.iinc 2 1, 3) ∧ decode cX12_writesBlock 79 = .ok (.goto (-32), 3) ∧ decode cX12_writesBlock 82 = .ok (.return_, 1) := by decide +kernel
set_option maxHeartbeats 4000000 in
set_option maxRecDepth 100000 in
theorem k_x12_tellsByte (l : Launch) (D : va_G) (a : Nat → Nat) (p0 : Int) (sz : Nat) (s : MS) (o : MS) (h : m_x12_tellsByte p0 s = some o) : yWv l yX12_tellsByte cX12_tellsByte 2 none { frames := 0, cells := 0, slots := 0, locals := 0 } D sz [.ref (a 200), .int (i2 p0)] (RW D a s) (RW D a o) := by
  refine Met.ofW (cc := cX12_tellsByte) (maxL := 2) (ret := none) (by decide) rfl ?_
  intro p e s₀ m args below meth c s₁ B hml hv
  obtain ⟨rfl, ⟨hsz, hP, hK, hD0⟩, hN⟩ := hv
  have hx := B.exec
  have hb := B.bytes
  have hr := B.returns
  have hts := atoms_spec (ws := wz yX12_tellsByte cX12_tellsByte 2 none) B.pre
  have ht : ∀ w ∈ lw_gd, w.before _ s₀ = true := fun w h => hts w (List.mem_cons_of_mem _ h)
  have hown : s₀.vm.findClass RX12 = some m.cls := findClass_of_methodNamed B.named
  have hlocks := B.notSynchronized
  subst hsz
  have hD := hD0.self (sz := s₀.heap.size)
  generalize hAe : va_A (RW D a s) s₀.heap.size = A at hD ⊢
  have hA : ∀ q : Nat, s₀.heap.size ≤ q → A q := fun q h => by rw [← hAe]; exact Or.inr h
  have hS : va_S A s₀.heap s₀.heap [] := va_S.rf
  have hDD : ∀ t : MS, va_D A (RW D a t) := fun t => RW_D t hD
  have hl := lv_entry ([.ref (a 200), .int (i2 p0)]) (n := 2) (Nat.le_of_ble_eq_true rfl)
  rw [lg_entry_eq]
  generalize (lg_sl ([.ref (a 200), .int (i2 p0)]) ++ List.replicate (2 - (lg_sl ([.ref (a 200), .int (i2 p0)])).length) Slot.unset).toArray = ls at hl ⊢
  have hl : lv_has ls 2 [(0, .ref (a 200)), (1, .int (i2 p0))] := hl
  unfold m_x12_tellsByte at h
  refine lv_aload_n hx hb eX12_status_18.2.2.2.1 rfl (lv_at hl 0 rfl) ?_
  refine va_get (D := D) (ci := 12) (v := .ref (a 111)) (C := RX12) (T := TX12) (N := 116) hx hb ht inX12 hown hK hP 0 RW_0 rfl 111 (by decide) (ht (.fieldLink RX12 252 "CloneVolumesModel" "octet" "[I") fl_X12_252) (fun _ h9 => h9) mF_111 eX12_status_18.2.2.2.2.1 ?_
  refine lv_aload_n hx hb eX12_status_18.2.2.2.2.2.1 rfl (lv_at hl 0 rfl) ?_
  refine va_get (D := D) (ci := 12) (v := .int (i2 (gI s 112))) (C := RX12) (T := TX12) (N := 116) hx hb ht inX12 hown hK hP 0 RW_0 rfl 112 (by decide) (ht (.fieldLink RX12 783 "CloneVolumesModel" "octets" "I") fl_X12_783) (fun _ h9 => h9) mF_112 eX12_status_18.2.2.2.2.2.2.1 ?_
  refine lv_iload_n hx hb eX12_status_18.2.2.2.2.2.2.2 rfl (lv_at hl 1 rfl) ?_
  obtain ⟨hi1, h⟩ := inb_e h
  refine ya_iast (i := (gI s 112)) (x := p0) hx hb hK hP (hDD _) hS 78 0 RW_78 rfl (by decide) hi1 eX12_tellsByte_9.1 (RW_w78 _) (fun H locs hP hS => ?_)
  obtain ⟨s2, hs2, h⟩ := st_e h
  rw [hs2] at hP
  refine lv_aload_n hx hb eX12_tellsByte_9.2.1 rfl (lv_at hl 0 rfl) ?_
  refine lv_dup hx hb eX12_tellsByte_9.2.2.1 rfl ?_
  refine va_get (D := D) (ci := 12) (v := .int (i2 (gI s2 112))) (C := RX12) (T := TX12) (N := 116) hx hb ht inX12 hown hK hP 0 RW_0 rfl 112 (by decide) (ht (.fieldLink RX12 783 "CloneVolumesModel" "octets" "I") fl_X12_783) (fun _ h9 => h9) mF_112 eX12_tellsByte_9.2.2.2.1 ?_
  refine lv_iconst (v := 1) hx hb eX12_tellsByte_9.2.2.2.2.1 (by decide) ?_
  refine lv_iadd hx hb eX12_tellsByte_9.2.2.2.2.2.1 ?_
  refine z_topi (y := i2 ((gI s2 112) + 1)) (i2_add (gI s2 112) 1) ?_
  refine ya_put (D := D) (ci := 12) (v := .int (i2 ((gI s2 112) + 1))) (ty := .int) (C := RX12) (T := TX12) (N := 116) hx hb ht inX12 tyX12 tyX12_ok nmX12 hown hK hP (hDD _) hS 0 RW_0 rfl 112 (by decide) (ht (.fieldLink RX12 783 "CloneVolumesModel" "octets" "I") fl_X12_783) (fun _ h9 => h9) rfl (by decide +kernel) rfl rfl (by rw [mF_len]; decide) eX12_tellsByte_9.2.2.2.2.2.2.1 (RW_f112 ((gI s2 112) + 1)) (fun H locs hP hS => ?_)
  obtain ⟨s3, hs3, h⟩ := st_e h
  rw [hs3] at hP
  obtain rfl := Option.some.inj h
  exact W.vret hx hb hr (fun t ht hW => ⟨⟨(), rfl, trivial, by rw [ht]; exact hP, va_K.moved hW.alike hK, hDD _⟩, hS.F ht⟩) hS.2.2 eX12_tellsByte_9.2.2.2.2.2.2.2
set_option maxHeartbeats 4000000 in
set_option maxRecDepth 100000 in
theorem k_x12_tellsTwo (l : Launch) (D : va_G) (a : Nat → Nat) (p0 : Int) (sz : Nat) (s : MS) (o : MS) (h : m_x12_tellsTwo p0 s = some o) : yWv l yX12_tellsTwo cX12_tellsTwo 2 none { frames := 1, cells := 0, slots := 0, locals := 60 } D sz [.ref (a 200), .int (i2 p0)] (RW D a s) (RW D a o) := by
  refine Met.ofW (cc := cX12_tellsTwo) (maxL := 2) (ret := none) (by decide) rfl ?_
  intro p e s₀ m args below meth c s₁ B hml hv
  obtain ⟨rfl, ⟨hsz, hP, hK, hD0⟩, hN⟩ := hv
  have hx := B.exec
  have hb := B.bytes
  have hr := B.returns
  have hts := atoms_spec (ws := wz yX12_tellsTwo cX12_tellsTwo 2 none) B.pre
  have ht : ∀ w ∈ lw_gd, w.before _ s₀ = true := fun w h => hts w (List.mem_cons_of_mem _ h)
  have hown : s₀.vm.findClass RX12 = some m.cls := findClass_of_methodNamed B.named
  have hlocks := B.notSynchronized
  subst hsz
  have hD := hD0.self (sz := s₀.heap.size)
  generalize hAe : va_A (RW D a s) s₀.heap.size = A at hD ⊢
  have hA : ∀ q : Nat, s₀.heap.size ≤ q → A q := fun q h => by rw [← hAe]; exact Or.inr h
  have hS : va_S A s₀.heap s₀.heap [] := va_S.rf
  have hDD : ∀ t : MS, va_D A (RW D a t) := fun t => RW_D t hD
  have hl := lv_entry ([.ref (a 200), .int (i2 p0)]) (n := 2) (Nat.le_of_ble_eq_true rfl)
  rw [lg_entry_eq]
  generalize (lg_sl ([.ref (a 200), .int (i2 p0)]) ++ List.replicate (2 - (lg_sl ([.ref (a 200), .int (i2 p0)])).length) Slot.unset).toArray = ls at hl ⊢
  have hl : lv_has ls 2 [(0, .ref (a 200)), (1, .int (i2 p0))] := hl
  unfold m_x12_tellsTwo at h
  refine lv_aload_n hx hb eX12_tellsTwo_0.1 rfl (lv_at hl 0 rfl) ?_
  refine lv_iload_n hx hb eX12_tellsTwo_0.2.1 rfl (lv_at hl 1 rfl) ?_
  refine lv_sipush (v := 256) hx hb eX12_tellsTwo_0.2.2.1 (by decide) ?_
  obtain ⟨hn1, h⟩ := dv_e h
  refine lv_idiv hx hb eX12_tellsTwo_0.2.2.2.1 (dv_nz hn1) ?_
  refine z_topi (y := i2 (Int.tdiv p0 256)) (by rw [show (256 : Int32) = i2 256 from by decide +kernel]; exact dv_d hn1) ?_
  obtain ⟨s3, hc2, h⟩ := bn_e h
  refine ywVv (As := [.int (i2 (Int.tdiv p0 256))]) (rest := []) (C := RX12) (n := 1) (ws' := RW D a s3) ⟨hx, hb, hml, hown, ht⟩ (k_x12_tellsByte l D a (Int.tdiv p0 256) _ _ _ hc2) (zgV ml_X12_786 im_X12_tellsByte se_X12_tellsByte in_X12 co_X12_tellsByte) rfl rfl (by decide +kernel) ⟨Nat.le_of_ble_eq_true rfl, Nat.le_of_ble_eq_true rfl⟩ hN hK hP (hDD _) hS hA 0 RW_0 rfl rfl rfl hl.1 rfl (Nat.le_of_ble_eq_true rfl) eX12_tellsTwo_0.2.2.2.2.1 ⟨Nat.le_of_ble_eq_true rfl, Nat.le_of_ble_eq_true rfl⟩ (fun H locs hP hS => ?_)
  refine lv_aload_n hx hb eX12_tellsTwo_0.2.2.2.2.2.1 rfl (lv_at hl 0 rfl) ?_
  refine lv_iload_n hx hb eX12_tellsTwo_0.2.2.2.2.2.2.1 rfl (lv_at hl 1 rfl) ?_
  refine lv_sipush (v := 256) hx hb eX12_tellsTwo_0.2.2.2.2.2.2.2 (by decide) ?_
  obtain ⟨hn4, h⟩ := dv_e h
  refine lv_irem hx hb eX12_tellsTwo_14.1 (dv_nz hn4) ?_
  refine z_topi (y := i2 (Int.tmod p0 256)) (by rw [show (256 : Int32) = i2 256 from by decide +kernel]; exact dv_r hn4) ?_
  obtain ⟨s6, hc5, h⟩ := bn_e h
  refine ywVv (As := [.int (i2 (Int.tmod p0 256))]) (rest := []) (C := RX12) (n := 1) (ws' := RW D a s6) ⟨hx, hb, hml, hown, ht⟩ (k_x12_tellsByte l D a (Int.tmod p0 256) _ _ _ hc5) (zgV ml_X12_786 im_X12_tellsByte se_X12_tellsByte in_X12 co_X12_tellsByte) rfl rfl (by decide +kernel) ⟨Nat.le_of_ble_eq_true rfl, Nat.le_of_ble_eq_true rfl⟩ hN hK hP (hDD _) hS hA 0 RW_0 rfl rfl rfl hl.1 rfl (Nat.le_of_ble_eq_true rfl) eX12_tellsTwo_14.2.1 ⟨Nat.le_of_ble_eq_true rfl, Nat.le_of_ble_eq_true rfl⟩ (fun H locs hP hS => ?_)
  obtain rfl := Option.some.inj h
  exact W.vret hx hb hr (fun t ht hW => ⟨⟨(), rfl, trivial, by rw [ht]; exact hP, va_K.moved hW.alike hK, hDD _⟩, hS.F ht⟩) hS.2.2 eX12_tellsTwo_14.2.2.1
set_option maxHeartbeats 4000000 in
set_option maxRecDepth 100000 in
theorem k_x12_octet (l : Launch) (D : va_G) (a : Nat → Nat) (p0 : Int) (s : MS) (o : Int) (h : m_x12_octet p0 s = some o) : yRi l yX12_octet cX12_octet 2 (some .int) { frames := 0, cells := 0, slots := 0, locals := 0 } D [.ref (a 200), .int (i2 p0)] (RW D a s) (i2 o) := by
  refine Met.ofW (cc := cX12_octet) (maxL := 2) (ret := (some .int)) (by decide) rfl ?_
  intro p e s₀ m args below meth c s₁ B hml hv
  obtain ⟨rfl, ⟨hP, hK⟩, hN⟩ := hv
  have hx := B.exec
  have hb := B.bytes
  have hr := B.returns
  have hts := atoms_spec (ws := wz yX12_octet cX12_octet 2 (some .int)) B.pre
  have ht : ∀ w ∈ lw_gd, w.before _ s₀ = true := fun w h => hts w (List.mem_cons_of_mem _ h)
  have hown : s₀.vm.findClass RX12 = some m.cls := findClass_of_methodNamed B.named
  have hlocks := B.notSynchronized
  have hS : va_S (fun _ => False) s₀.heap s₀.heap [] := va_S.rf
  have hl := lv_entry ([.ref (a 200), .int (i2 p0)]) (n := 2) (Nat.le_of_ble_eq_true rfl)
  rw [lg_entry_eq]
  generalize (lg_sl ([.ref (a 200), .int (i2 p0)]) ++ List.replicate (2 - (lg_sl ([.ref (a 200), .int (i2 p0)])).length) Slot.unset).toArray = ls at hl ⊢
  have hl : lv_has ls 2 [(0, .ref (a 200)), (1, .int (i2 p0))] := hl
  unfold m_x12_octet at h
  refine y_head (pcJ := 22) (σ := Int) (fun u H locs ls => va_P D vwCl (RW D a s) H ∧ va_S (fun _ => False) s₀.heap H locs ∧ lv_has ls 2 [] ∧ m_x12_octet_J22 s u = some o) (fun u => [.int (i2 u)]) (fun u H locs ls hI => ?_) (fun J22 => ?_)
  · obtain ⟨hP, hS, hl, h⟩ := hI
    obtain ⟨x1, rfl⟩ : ∃ z, z = u := ⟨u, rfl⟩
    have hP : va_P D vwCl (RW D a s) H := hP
    have hl : lv_has ls 2 [] := hl
    have h : m_x12_octet_J22 s x1 = some o := h
    unfold m_x12_octet_J22 at h
    obtain rfl := Option.some.inj h
    exact W.iret (v := (i2 x1)) hx hb hr (fun t ht hW => ⟨⟨_, (), rfl, rfl, trivial⟩, hS.F ht⟩) hS.2.2 eX12_octet_17.2.2.2.1
  refine y_head (pcJ := 21) (σ := Unit) (fun u H locs ls => va_P D vwCl (RW D a s) H ∧ va_S (fun _ => False) s₀.heap H locs ∧ lv_has ls 2 [] ∧ m_x12_octet_J21 s u = some o) (fun u => []) (fun u H locs ls hI => ?_) (fun J21 => ?_)
  · obtain ⟨hP, hS, hl, h⟩ := hI
    skip
    have hP : va_P D vwCl (RW D a s) H := hP
    have hl : lv_has ls 2 [] := hl
    have h : m_x12_octet_J21 s () = some o := h
    unfold m_x12_octet_J21 at h
    refine lv_iconst (v := (-1)) hx hb eX12_octet_17.2.2.1 (by decide) ?_
    exact J22 (-1) _ _ _ ⟨hP, hS, lv_sub hl [] rfl, h⟩
  refine lv_iload_n hx hb eX12_laidOf_8.2.2.2.2.2.2.2 rfl (lv_at hl 1 rfl) ?_
  obtain ⟨hr2, h⟩ := rg_e h
  refine lv_if_lt (tgt := 21) hx hb eX12_octet_1.1 (by decide) (fun c3 => ?_) (fun c3 => ?_)
  · have h := if_t ((i2_lt (x := p0) (y := 0) hr2 (by decide)).mp c3) h
    exact J21 () _ _ _ ⟨hP, hS, lv_sub hl [] rfl, h⟩
  · have h := if_f (mt (i2_lt (x := p0) (y := 0) hr2 (by decide)).mpr c3) h
    refine lv_iload_n hx hb eX12_octet_1.2.1 rfl (lv_at hl 1 rfl) ?_
    refine lv_aload_n hx hb eX12_octet_1.2.2.1 rfl (lv_at hl 0 rfl) ?_
    refine va_get (D := D) (ci := 12) (v := .int (i2 (gI s 112))) (C := RX12) (T := TX12) (N := 116) hx hb ht inX12 hown hK hP 0 RW_0 rfl 112 (by decide) (ht (.fieldLink RX12 783 "CloneVolumesModel" "octets" "I") fl_X12_783) (fun _ h9 => h9) mF_112 eX12_octet_1.2.2.2.1 ?_
    obtain ⟨hr4, h⟩ := rg_e h
    obtain ⟨hr5, h⟩ := rg_e h
    refine lv_icmp_ge (tgt := 21) hx hb eX12_octet_1.2.2.2.2.1 (by decide) (fun c6 => ?_) (fun c6 => ?_)
    · have h := if_t ((i2_le (x := (gI s 112)) (y := p0) hr5 hr4).mp c6) h
      exact J21 () _ _ _ ⟨hP, hS, lv_sub hl [] rfl, h⟩
    · have h := if_f (mt (i2_le (x := (gI s 112)) (y := p0) hr5 hr4).mpr c6) h
      refine lv_aload_n hx hb eX12_octet_1.2.2.2.2.2.1 rfl (lv_at hl 0 rfl) ?_
      refine va_get (D := D) (ci := 12) (v := .ref (a 111)) (C := RX12) (T := TX12) (N := 116) hx hb ht inX12 hown hK hP 0 RW_0 rfl 111 (by decide) (ht (.fieldLink RX12 252 "CloneVolumesModel" "octet" "[I") fl_X12_252) (fun _ h9 => h9) mF_111 eX12_octet_1.2.2.2.2.2.2.1 ?_
      refine lv_iload_n hx hb eX12_octet_1.2.2.2.2.2.2.2 rfl (lv_at hl 1 rfl) ?_
      obtain ⟨y7, ey7, iy7, h⟩ := rdI_e h
      refine ya_iald (i := p0) hx hb hK hP 78 0 RW_78 rfl (by decide) ey7 iy7 eX12_octet_17.1 ?_
      refine lv_goto (tgt := 22) hx hb eX12_octet_17.2.1 (by decide) ?_
      exact J22 y7 _ _ _ ⟨hP, hS, lv_sub hl [] rfl, h⟩
set_option maxHeartbeats 4000000 in
set_option maxRecDepth 100000 in
theorem k_x12_status (l : Launch) (D : va_G) (a : Nat → Nat) (p0 : Int) (s : MS) (o : Int) (h : m_x12_status p0 s = some o) : yRi l yX12_status cX12_status 2 (some .int) { frames := 1, cells := 0, slots := 0, locals := 60 } D [.ref (a 200), .int (i2 p0)] (RW D a s) (i2 o) := by
  refine Met.ofW (cc := cX12_status) (maxL := 2) (ret := (some .int)) (by decide) rfl ?_
  intro p e s₀ m args below meth c s₁ B hml hv
  obtain ⟨rfl, ⟨hP, hK⟩, hN⟩ := hv
  have hx := B.exec
  have hb := B.bytes
  have hr := B.returns
  have hts := atoms_spec (ws := wz yX12_status cX12_status 2 (some .int)) B.pre
  have ht : ∀ w ∈ lw_gd, w.before _ s₀ = true := fun w h => hts w (List.mem_cons_of_mem _ h)
  have hown : s₀.vm.findClass RX12 = some m.cls := findClass_of_methodNamed B.named
  have hlocks := B.notSynchronized
  have hS : va_S (fun _ => False) s₀.heap s₀.heap [] := va_S.rf
  have hl := lv_entry ([.ref (a 200), .int (i2 p0)]) (n := 2) (Nat.le_of_ble_eq_true rfl)
  rw [lg_entry_eq]
  generalize (lg_sl ([.ref (a 200), .int (i2 p0)]) ++ List.replicate (2 - (lg_sl ([.ref (a 200), .int (i2 p0)])).length) Slot.unset).toArray = ls at hl ⊢
  have hl : lv_has ls 2 [(0, .ref (a 200)), (1, .int (i2 p0))] := hl
  unfold m_x12_status at h
  refine y_head (pcJ := 22) (σ := Int) (fun u H locs ls => va_P D vwCl (RW D a s) H ∧ va_S (fun _ => False) s₀.heap H locs ∧ lv_has ls 2 [] ∧ m_x12_status_J22 s u = some o) (fun u => [.int (i2 u)]) (fun u H locs ls hI => ?_) (fun J22 => ?_)
  · obtain ⟨hP, hS, hl, h⟩ := hI
    obtain ⟨x1, rfl⟩ : ∃ z, z = u := ⟨u, rfl⟩
    have hP : va_P D vwCl (RW D a s) H := hP
    have hl : lv_has ls 2 [] := hl
    have h : m_x12_status_J22 s x1 = some o := h
    unfold m_x12_status_J22 at h
    obtain rfl := Option.some.inj h
    exact W.iret (v := (i2 x1)) hx hb hr (fun t ht hW => ⟨⟨_, (), rfl, rfl, trivial⟩, hS.F ht⟩) hS.2.2 eX12_status_18.2.2.1
  refine lv_iload_n hx hb eX12_rootTold_8.2.2.2.2.2.2.1 rfl (lv_at hl 1 rfl) ?_
  obtain ⟨hr2, h⟩ := rg_e h
  refine lv_i2l (v := i8 p0) hx hb eX12_rootTold_8.2.2.2.2.2.2.2 (i2_l hr2) ?_
  refine lv_lconst (v := 0) hx hb eX12_status_2.1 (by decide) ?_
  refine lv_ldc2 (own := RX12) (v := 5) hx hb hown (ht _ cl_X12_590) eX12_status_2.2.1 ?_
  obtain ⟨r4, hc3, h⟩ := bn_e h
  refine ycS (r0 := i2 r4) (As := [.long (i8 p0), .long 0, .long 5]) (rest := []) (n := 3) ⟨hx, hb, hml, hown, ht⟩ (k_x12_isIn l D a p0 0 5 _ _ hc3) (zgT ml_X12_309 st_X12_isIn in_X12 co_X12_isIn) rfl rfl (by decide +kernel) ⟨Nat.le_of_ble_eq_true rfl, Nat.le_of_ble_eq_true rfl⟩ hN hK hP hS rfl hl.1 rfl (Nat.le_of_ble_eq_true rfl) eX12_status_2.2.2.1 ⟨Nat.le_of_ble_eq_true rfl, Nat.le_of_ble_eq_true rfl⟩ (fun H locs hP hS => ?_)
  obtain ⟨hr5, h⟩ := rg_e h
  refine lv_if_eq (tgt := 21) hx hb eX12_status_2.2.2.2.1 (by decide) (fun c6 => ?_) (fun c6 => ?_)
  · have h := if_t ((i2_eq (x := r4) (y := 0) hr5 (by decide)).mp c6) h
    refine lv_iconst (v := (-1)) hx hb eX12_status_18.2.1 (by decide) ?_
    exact J22 (-1) _ _ _ ⟨hP, hS, lv_sub hl [] rfl, h⟩
  · have h := if_f (mt (i2_eq (x := r4) (y := 0) hr5 (by decide)).mpr c6) h
    refine lv_aload_n hx hb eX12_status_2.2.2.2.2.1 rfl (lv_at hl 0 rfl) ?_
    refine va_get (D := D) (ci := 12) (v := .ref (a 9)) (C := RX12) (T := TX12) (N := 116) hx hb ht inX12 hown hK hP 0 RW_0 rfl 9 (by decide) (ht (.fieldLink RX12 17 "CloneVolumesModel" "refused" "[I") fl_X12_17) (fun _ h9 => h9) mF_9 eX12_status_2.2.2.2.2.2.1 ?_
    refine lv_iload_n hx hb eX12_status_2.2.2.2.2.2.2.1 rfl (lv_at hl 1 rfl) ?_
    obtain ⟨y7, ey7, iy7, h⟩ := rdI_e h
    refine ya_iald (i := p0) hx hb hK hP 2 0 RW_2 rfl (by decide) ey7 iy7 eX12_status_2.2.2.2.2.2.2.2 ?_
    refine lv_goto (tgt := 22) hx hb eX12_status_18.1 (by decide) ?_
    exact J22 y7 _ _ _ ⟨hP, hS, lv_sub hl [] rfl, h⟩
set_option maxHeartbeats 4000000 in
set_option maxRecDepth 100000 in
theorem k_x12_writesBlock (l : Launch) (D : va_G) (a : Nat → Nat) (p0 : Int) (sz : Nat) (s : MS) (o : MS) (h : m_x12_writesBlock p0 s = some o) : yWv l yX12_writesBlock cX12_writesBlock 3 none { frames := 3, cells := 0, slots := 0, locals := 180 } D sz [.ref (a 200), .int (i2 p0)] (RW D a s) (RW D a o) := by
  refine Met.ofW (cc := cX12_writesBlock) (maxL := 3) (ret := none) (by decide) rfl ?_
  intro p e s₀ m args below meth c s₁ B hml hv
  obtain ⟨rfl, ⟨hsz, hP, hK, hD0⟩, hN⟩ := hv
  have hx := B.exec
  have hb := B.bytes
  have hr := B.returns
  have hts := atoms_spec (ws := wz yX12_writesBlock cX12_writesBlock 3 none) B.pre
  have ht : ∀ w ∈ lw_gd, w.before _ s₀ = true := fun w h => hts w (List.mem_cons_of_mem _ h)
  have hown : s₀.vm.findClass RX12 = some m.cls := findClass_of_methodNamed B.named
  have hlocks := B.notSynchronized
  subst hsz
  have hD := hD0.self (sz := s₀.heap.size)
  generalize hAe : va_A (RW D a s) s₀.heap.size = A at hD ⊢
  have hA : ∀ q : Nat, s₀.heap.size ≤ q → A q := fun q h => by rw [← hAe]; exact Or.inr h
  have hS : va_S A s₀.heap s₀.heap [] := va_S.rf
  have hDD : ∀ t : MS, va_D A (RW D a t) := fun t => RW_D t hD
  have hl := lv_entry ([.ref (a 200), .int (i2 p0)]) (n := 3) (Nat.le_of_ble_eq_true rfl)
  rw [lg_entry_eq]
  generalize (lg_sl ([.ref (a 200), .int (i2 p0)]) ++ List.replicate (3 - (lg_sl ([.ref (a 200), .int (i2 p0)])).length) Slot.unset).toArray = ls at hl ⊢
  have hl : lv_has ls 3 [(0, .ref (a 200)), (1, .int (i2 p0))] := hl
  unfold m_x12_writesBlock at h
  refine y_loop (pcJ := 47) (σ := Int × Int × MS) (fun n u H locs ls => va_P D vwCl (RW D a u.2.2) H ∧ va_S A s₀.heap H locs ∧ lv_has ls 3 [(0, .ref (a 200)), (1, .int (i2 u.1)), (2, .int (i2 u.2.1))] ∧ m_x12_writesBlock_L47 n u.1 u.2.1 u.2.2 = some o) (fun u => []) (fun u H locs ls hI => by obtain ⟨_, _, _, h⟩ := hI; cases h) (fun n47 ih47 u H locs ls hI => ?_) (fun J47 => ?_)
  · obtain ⟨hP, hS, hl, h⟩ := hI
    obtain ⟨x1, x2, s3⟩ := u
    have hP : va_P D vwCl (RW D a s3) H := hP
    have hl : lv_has ls 3 [(0, .ref (a 200)), (1, .int (i2 x1)), (2, .int (i2 x2))] := hl
    have h : m_x12_writesBlock_b47 (m_x12_writesBlock_L47 n47) x1 x2 s3 = some o := h
    unfold m_x12_writesBlock_b47 at h
    refine lv_iload_n hx hb eX12_writesBlock_39.2.2.2.2.1 rfl (lv_at hl 2 rfl) ?_
    refine lv_aload_n hx hb eX12_writesBlock_39.2.2.2.2.2.1 rfl (lv_at hl 0 rfl) ?_
    refine lv_iload_n hx hb eX12_writesBlock_39.2.2.2.2.2.2.1 rfl (lv_at hl 1 rfl) ?_
    obtain ⟨r5, hc4, h⟩ := bn_e h
    refine ycV (r0 := i2 r5) (As := [.int (i2 x1)]) (rest := [.int (i2 x2)]) (C := RX12) (n := 1) ⟨hx, hb, hml, hown, ht⟩ (k_x12_entriesOf l D a x1 _ _ hc4) (zgV ml_X12_466 im_X12_entriesOf se_X12_entriesOf in_X12 co_X12_entriesOf) rfl rfl (by decide +kernel) ⟨Nat.le_of_ble_eq_true rfl, Nat.le_of_ble_eq_true rfl⟩ hN hK hP hS 0 RW_0 rfl rfl rfl hl.1 rfl (Nat.le_of_ble_eq_true rfl) eX12_writesBlock_39.2.2.2.2.2.2.2 ⟨Nat.le_of_ble_eq_true rfl, Nat.le_of_ble_eq_true rfl⟩ (fun H locs hP hS => ?_)
    obtain ⟨hr6, h⟩ := rg_e h
    obtain ⟨hr7, h⟩ := rg_e h
    refine lv_icmp_ge (tgt := 82) hx hb eX12_writesBlock_53.1 (by decide) (fun c8 => ?_) (fun c8 => ?_)
    · have h := if_t ((i2_le (x := r5) (y := x2) hr7 hr6).mp c8) h
      obtain rfl := Option.some.inj h
      exact W.vret hx hb hr (fun t ht hW => ⟨⟨(), rfl, trivial, by rw [ht]; exact hP, va_K.moved hW.alike hK, hDD _⟩, hS.F ht⟩) hS.2.2 eX12_writesBlock_67.2.2.2.2.2.2.2
    · have h := if_f (mt (i2_le (x := r5) (y := x2) hr7 hr6).mpr c8) h
      refine lv_aload_n hx hb eX12_writesBlock_53.2.1 rfl (lv_at hl 0 rfl) ?_
      refine lv_aload_n hx hb eX12_writesBlock_53.2.2.1 rfl (lv_at hl 0 rfl) ?_
      refine lv_iload_n hx hb eX12_writesBlock_53.2.2.2.1 rfl (lv_at hl 1 rfl) ?_
      refine lv_iload_n hx hb eX12_writesBlock_53.2.2.2.2.1 rfl (lv_at hl 2 rfl) ?_
      obtain ⟨r10, hc9, h⟩ := bn_e h
      refine ycV (r0 := i2 r10) (As := [.int (i2 x1), .int (i2 x2)]) (rest := [.ref (a 200)]) (C := RX12) (n := 2) ⟨hx, hb, hml, hown, ht⟩ (k_x12_keyAt l D a x1 x2 _ _ hc9) (zgV ml_X12_517 im_X12_keyAt se_X12_keyAt in_X12 co_X12_keyAt) rfl rfl (by decide +kernel) ⟨Nat.le_of_ble_eq_true rfl, Nat.le_of_ble_eq_true rfl⟩ hN hK hP hS 0 RW_0 rfl rfl rfl hl.1 rfl (Nat.le_of_ble_eq_true rfl) eX12_writesBlock_53.2.2.2.2.2.1 ⟨Nat.le_of_ble_eq_true rfl, Nat.le_of_ble_eq_true rfl⟩ (fun H locs hP hS => ?_)
      obtain ⟨s12, hc11, h⟩ := bn_e h
      refine ywVv (As := [.int (i2 r10)]) (rest := []) (C := RX12) (n := 1) (ws' := RW D a s12) ⟨hx, hb, hml, hown, ht⟩ (k_x12_tellsTwo l D a r10 _ _ _ hc11) (zgV ml_X12_789 im_X12_tellsTwo se_X12_tellsTwo in_X12 co_X12_tellsTwo) rfl rfl (by decide +kernel) ⟨Nat.le_of_ble_eq_true rfl, Nat.le_of_ble_eq_true rfl⟩ hN hK hP (hDD _) hS hA 0 RW_0 rfl rfl rfl hl.1 rfl (Nat.le_of_ble_eq_true rfl) eX12_writesBlock_53.2.2.2.2.2.2.1 ⟨Nat.le_of_ble_eq_true rfl, Nat.le_of_ble_eq_true rfl⟩ (fun H locs hP hS => ?_)
      refine lv_aload_n hx hb eX12_writesBlock_53.2.2.2.2.2.2.2 rfl (lv_at hl 0 rfl) ?_
      refine lv_aload_n hx hb eX12_writesBlock_67.1 rfl (lv_at hl 0 rfl) ?_
      refine lv_iload_n hx hb eX12_writesBlock_67.2.1 rfl (lv_at hl 1 rfl) ?_
      refine lv_iload_n hx hb eX12_writesBlock_67.2.2.1 rfl (lv_at hl 2 rfl) ?_
      obtain ⟨r14, hc13, h⟩ := bn_e h
      refine ycV (r0 := i2 r14) (As := [.int (i2 x1), .int (i2 x2)]) (rest := [.ref (a 200)]) (C := RX12) (n := 2) ⟨hx, hb, hml, hown, ht⟩ (k_x12_valueAt l D a x1 x2 _ _ hc13) (zgV ml_X12_505 im_X12_valueAt se_X12_valueAt in_X12 co_X12_valueAt) rfl rfl (by decide +kernel) ⟨Nat.le_of_ble_eq_true rfl, Nat.le_of_ble_eq_true rfl⟩ hN hK hP hS 0 RW_0 rfl rfl rfl hl.1 rfl (Nat.le_of_ble_eq_true rfl) eX12_writesBlock_67.2.2.2.1 ⟨Nat.le_of_ble_eq_true rfl, Nat.le_of_ble_eq_true rfl⟩ (fun H locs hP hS => ?_)
      obtain ⟨s16, hc15, h⟩ := bn_e h
      refine ywVv (As := [.int (i2 r14)]) (rest := []) (C := RX12) (n := 1) (ws' := RW D a s16) ⟨hx, hb, hml, hown, ht⟩ (k_x12_tellsTwo l D a r14 _ _ _ hc15) (zgV ml_X12_789 im_X12_tellsTwo se_X12_tellsTwo in_X12 co_X12_tellsTwo) rfl rfl (by decide +kernel) ⟨Nat.le_of_ble_eq_true rfl, Nat.le_of_ble_eq_true rfl⟩ hN hK hP (hDD _) hS hA 0 RW_0 rfl rfl rfl hl.1 rfl (Nat.le_of_ble_eq_true rfl) eX12_writesBlock_67.2.2.2.2.1 ⟨Nat.le_of_ble_eq_true rfl, Nat.le_of_ble_eq_true rfl⟩ (fun H locs hP hS => ?_)
      refine lv_iinc (v := i2 (x2 + 1)) (lv' := [(2, .int (i2 (x2 + 1))), (0, .ref (a 200)), (1, .int (i2 x1))]) hx hb eX12_writesBlock_67.2.2.2.2.2.1 hl (k := 2) rfl (i2_add x2 1) (by decide) rfl (fun ls hl => ?_)
      refine lv_goto (tgt := 47) hx hb eX12_writesBlock_67.2.2.2.2.2.2.1 (by decide) ?_
      exact ih47 (x1, x2 + 1, s16) _ _ _ ⟨hP, hS, lv_sub hl [1, 2, 0] rfl, h⟩
  refine lv_aload_n hx hb eX12_twoRead_33.2.1 rfl (lv_at hl 0 rfl) ?_
  refine lv_aload_n hx hb eX12_twoRead_33.2.2.1 rfl (lv_at hl 0 rfl) ?_
  refine lv_iload_n hx hb eX12_twoRead_33.2.2.2.1 rfl (lv_at hl 1 rfl) ?_
  obtain ⟨r18, hc17, h⟩ := bn_e h
  refine ycV (r0 := i2 r18) (As := [.int (i2 p0)]) (rest := [.ref (a 200)]) (C := RX12) (n := 1) ⟨hx, hb, hml, hown, ht⟩ (k_x12_countOf l D a p0 _ _ hc17) (zgV ml_X12_432 im_X12_countOf se_X12_countOf in_X12 co_X12_countOf) rfl rfl (by decide +kernel) ⟨Nat.le_of_ble_eq_true rfl, Nat.le_of_ble_eq_true rfl⟩ hN hK hP hS 0 RW_0 rfl rfl rfl hl.1 rfl (Nat.le_of_ble_eq_true rfl) eX12_twoRead_33.2.2.2.2.1 ⟨Nat.le_of_ble_eq_true rfl, Nat.le_of_ble_eq_true rfl⟩ (fun H locs hP hS => ?_)
  obtain ⟨s20, hc19, h⟩ := bn_e h
  refine ywVv (As := [.int (i2 r18)]) (rest := []) (C := RX12) (n := 1) (ws' := RW D a s20) ⟨hx, hb, hml, hown, ht⟩ (k_x12_tellsByte l D a r18 _ _ _ hc19) (zgV ml_X12_786 im_X12_tellsByte se_X12_tellsByte in_X12 co_X12_tellsByte) rfl rfl (by decide +kernel) ⟨Nat.le_of_ble_eq_true rfl, Nat.le_of_ble_eq_true rfl⟩ hN hK hP (hDD _) hS hA 0 RW_0 rfl rfl rfl hl.1 rfl (Nat.le_of_ble_eq_true rfl) eX12_twoRead_33.2.2.2.2.2.1 ⟨Nat.le_of_ble_eq_true rfl, Nat.le_of_ble_eq_true rfl⟩ (fun H locs hP hS => ?_)
  refine lv_aload_n hx hb eX12_twoRead_33.2.2.2.2.2.2.1 rfl (lv_at hl 0 rfl) ?_
  refine lv_aload_n hx hb eX12_twoRead_33.2.2.2.2.2.2.2 rfl (lv_at hl 0 rfl) ?_
  refine lv_iload_n hx hb eX12_writesBlock_11.1 rfl (lv_at hl 1 rfl) ?_
  obtain ⟨r22, hc21, h⟩ := bn_e h
  refine ycV (r0 := i2 r22) (As := [.int (i2 p0)]) (rest := [.ref (a 200)]) (C := RX12) (n := 1) ⟨hx, hb, hml, hown, ht⟩ (k_x12_savedOf l D a p0 _ _ hc21) (zgV ml_X12_438 im_X12_savedOf se_X12_savedOf in_X12 co_X12_savedOf) rfl rfl (by decide +kernel) ⟨Nat.le_of_ble_eq_true rfl, Nat.le_of_ble_eq_true rfl⟩ hN hK hP hS 0 RW_0 rfl rfl rfl hl.1 rfl (Nat.le_of_ble_eq_true rfl) eX12_writesBlock_11.2.1 ⟨Nat.le_of_ble_eq_true rfl, Nat.le_of_ble_eq_true rfl⟩ (fun H locs hP hS => ?_)
  obtain ⟨s24, hc23, h⟩ := bn_e h
  refine ywVv (As := [.int (i2 r22)]) (rest := []) (C := RX12) (n := 1) (ws' := RW D a s24) ⟨hx, hb, hml, hown, ht⟩ (k_x12_tellsByte l D a r22 _ _ _ hc23) (zgV ml_X12_786 im_X12_tellsByte se_X12_tellsByte in_X12 co_X12_tellsByte) rfl rfl (by decide +kernel) ⟨Nat.le_of_ble_eq_true rfl, Nat.le_of_ble_eq_true rfl⟩ hN hK hP (hDD _) hS hA 0 RW_0 rfl rfl rfl hl.1 rfl (Nat.le_of_ble_eq_true rfl) eX12_writesBlock_11.2.2.1 ⟨Nat.le_of_ble_eq_true rfl, Nat.le_of_ble_eq_true rfl⟩ (fun H locs hP hS => ?_)
  refine lv_aload_n hx hb eX12_writesBlock_11.2.2.2.1 rfl (lv_at hl 0 rfl) ?_
  refine lv_iload_n hx hb eX12_writesBlock_11.2.2.2.2.1 rfl (lv_at hl 1 rfl) ?_
  obtain ⟨r26, hc25, h⟩ := bn_e h
  refine ycV (r0 := i2 r26) (As := [.int (i2 p0)]) (rest := []) (C := RX12) (n := 1) ⟨hx, hb, hml, hown, ht⟩ (k_x12_isThere l D a p0 _ _ hc25) (zgV ml_X12_496 im_X12_isThere se_X12_isThere in_X12 co_X12_isThere) rfl rfl (by decide +kernel) ⟨Nat.le_of_ble_eq_true rfl, Nat.le_of_ble_eq_true rfl⟩ hN hK hP hS 0 RW_0 rfl rfl rfl hl.1 rfl (Nat.le_of_ble_eq_true rfl) eX12_writesBlock_11.2.2.2.2.2.1 ⟨Nat.le_of_ble_eq_true rfl, Nat.le_of_ble_eq_true rfl⟩ (fun H locs hP hS => ?_)
  obtain ⟨hr27, h⟩ := rg_e h
  refine lv_if_ne (tgt := 27) hx hb eX12_writesBlock_11.2.2.2.2.2.2.1 (by decide) (fun c28 => ?_) (fun c28 => ?_)
  · have h := if_f (mt (i2_eq (x := r26) (y := 0) hr27 (by decide)).mpr c28) h
    refine lv_aload_n hx hb eX12_writesBlock_27.1 rfl (lv_at hl 0 rfl) ?_
    refine lv_aload_n hx hb eX12_writesBlock_27.2.1 rfl (lv_at hl 0 rfl) ?_
    refine lv_iload_n hx hb eX12_writesBlock_27.2.2.1 rfl (lv_at hl 1 rfl) ?_
    obtain ⟨r30, hc29, h⟩ := bn_e h
    refine ycV (r0 := i2 r30) (As := [.int (i2 p0)]) (rest := [.ref (a 200)]) (C := RX12) (n := 1) ⟨hx, hb, hml, hown, ht⟩ (k_x12_levelOf l D a p0 _ _ hc29) (zgV ml_X12_460 im_X12_levelOf se_X12_levelOf in_X12 co_X12_levelOf) rfl rfl (by decide +kernel) ⟨Nat.le_of_ble_eq_true rfl, Nat.le_of_ble_eq_true rfl⟩ hN hK hP hS 0 RW_0 rfl rfl rfl hl.1 rfl (Nat.le_of_ble_eq_true rfl) eX12_writesBlock_27.2.2.2.1 ⟨Nat.le_of_ble_eq_true rfl, Nat.le_of_ble_eq_true rfl⟩ (fun H locs hP hS => ?_)
    obtain ⟨s32, hc31, h⟩ := bn_e h
    refine ywVv (As := [.int (i2 r30)]) (rest := []) (C := RX12) (n := 1) (ws' := RW D a s32) ⟨hx, hb, hml, hown, ht⟩ (k_x12_tellsByte l D a r30 _ _ _ hc31) (zgV ml_X12_786 im_X12_tellsByte se_X12_tellsByte in_X12 co_X12_tellsByte) rfl rfl (by decide +kernel) ⟨Nat.le_of_ble_eq_true rfl, Nat.le_of_ble_eq_true rfl⟩ hN hK hP (hDD _) hS hA 0 RW_0 rfl rfl rfl hl.1 rfl (Nat.le_of_ble_eq_true rfl) eX12_writesBlock_27.2.2.2.2.1 ⟨Nat.le_of_ble_eq_true rfl, Nat.le_of_ble_eq_true rfl⟩ (fun H locs hP hS => ?_)
    refine lv_aload_n hx hb eX12_writesBlock_27.2.2.2.2.2.1 rfl (lv_at hl 0 rfl) ?_
    refine lv_aload_n hx hb eX12_writesBlock_27.2.2.2.2.2.2.1 rfl (lv_at hl 0 rfl) ?_
    refine lv_iload_n hx hb eX12_writesBlock_27.2.2.2.2.2.2.2 rfl (lv_at hl 1 rfl) ?_
    obtain ⟨r34, hc33, h⟩ := bn_e h
    refine ycV (r0 := i2 r34) (As := [.int (i2 p0)]) (rest := [.ref (a 200)]) (C := RX12) (n := 1) ⟨hx, hb, hml, hown, ht⟩ (k_x12_entriesOf l D a p0 _ _ hc33) (zgV ml_X12_466 im_X12_entriesOf se_X12_entriesOf in_X12 co_X12_entriesOf) rfl rfl (by decide +kernel) ⟨Nat.le_of_ble_eq_true rfl, Nat.le_of_ble_eq_true rfl⟩ hN hK hP hS 0 RW_0 rfl rfl rfl hl.1 rfl (Nat.le_of_ble_eq_true rfl) eX12_writesBlock_39.1 ⟨Nat.le_of_ble_eq_true rfl, Nat.le_of_ble_eq_true rfl⟩ (fun H locs hP hS => ?_)
    obtain ⟨s36, hc35, h⟩ := bn_e h
    refine ywVv (As := [.int (i2 r34)]) (rest := []) (C := RX12) (n := 1) (ws' := RW D a s36) ⟨hx, hb, hml, hown, ht⟩ (k_x12_tellsByte l D a r34 _ _ _ hc35) (zgV ml_X12_786 im_X12_tellsByte se_X12_tellsByte in_X12 co_X12_tellsByte) rfl rfl (by decide +kernel) ⟨Nat.le_of_ble_eq_true rfl, Nat.le_of_ble_eq_true rfl⟩ hN hK hP (hDD _) hS hA 0 RW_0 rfl rfl rfl hl.1 rfl (Nat.le_of_ble_eq_true rfl) eX12_writesBlock_39.2.1 ⟨Nat.le_of_ble_eq_true rfl, Nat.le_of_ble_eq_true rfl⟩ (fun H locs hP hS => ?_)
    refine lv_iconst (v := 0) hx hb eX12_writesBlock_39.2.2.1 (by decide) ?_
    refine lv_istore_n (lv' := [(2, .int 0), (0, .ref (a 200)), (1, .int (i2 p0))]) hx hb eX12_writesBlock_39.2.2.2.1 rfl hl (by decide) rfl (fun ls hl => ?_)
    exact J47 FU (p0, 0, s36) _ _ _ ⟨hP, hS, lv_sub hl [1, 2, 0] rfl, h⟩
  · have h := if_t ((i2_eq (x := r26) (y := 0) hr27 (by decide)).mp c28) h
    obtain rfl := Option.some.inj h
    exact W.vret hx hb hr (fun t ht hW => ⟨⟨(), rfl, trivial, by rw [ht]; exact hP, va_K.moved hW.alike hK, hDD _⟩, hS.F ht⟩) hS.2.2 eX12_writesBlock_11.2.2.2.2.2.2.2
set_option maxHeartbeats 4000000 in
set_option maxRecDepth 100000 in
theorem k_x12_rootTold (l : Launch) (D : va_G) (a : Nat → Nat) (p0 : Int) (s : MS) (o : Int) (h : m_x12_rootTold p0 s = some o) : yRi l yX12_rootTold cX12_rootTold 2 (some .int) { frames := 0, cells := 0, slots := 0, locals := 0 } D [.ref (a 200), .int (i2 p0)] (RW D a s) (i2 o) := by
  refine Met.ofW (cc := cX12_rootTold) (maxL := 2) (ret := (some .int)) (by decide) rfl ?_
  intro p e s₀ m args below meth c s₁ B hml hv
  obtain ⟨rfl, ⟨hP, hK⟩, hN⟩ := hv
  have hx := B.exec
  have hb := B.bytes
  have hr := B.returns
  have hts := atoms_spec (ws := wz yX12_rootTold cX12_rootTold 2 (some .int)) B.pre
  have ht : ∀ w ∈ lw_gd, w.before _ s₀ = true := fun w h => hts w (List.mem_cons_of_mem _ h)
  have hown : s₀.vm.findClass RX12 = some m.cls := findClass_of_methodNamed B.named
  have hlocks := B.notSynchronized
  have hS : va_S (fun _ => False) s₀.heap s₀.heap [] := va_S.rf
  have hl := lv_entry ([.ref (a 200), .int (i2 p0)]) (n := 2) (Nat.le_of_ble_eq_true rfl)
  rw [lg_entry_eq]
  generalize (lg_sl ([.ref (a 200), .int (i2 p0)]) ++ List.replicate (2 - (lg_sl ([.ref (a 200), .int (i2 p0)])).length) Slot.unset).toArray = ls at hl ⊢
  have hl : lv_has ls 2 [(0, .ref (a 200)), (1, .int (i2 p0))] := hl
  unfold m_x12_rootTold at h
  refine y_head (pcJ := 19) (σ := Int) (fun u H locs ls => va_P D vwCl (RW D a s) H ∧ va_S (fun _ => False) s₀.heap H locs ∧ lv_has ls 2 [] ∧ m_x12_rootTold_J19 s u = some o) (fun u => [.int (i2 u)]) (fun u H locs ls hI => ?_) (fun J19 => ?_)
  · obtain ⟨hP, hS, hl, h⟩ := hI
    obtain ⟨x1, rfl⟩ : ∃ z, z = u := ⟨u, rfl⟩
    have hP : va_P D vwCl (RW D a s) H := hP
    have hl : lv_has ls 2 [] := hl
    have h : m_x12_rootTold_J19 s x1 = some o := h
    unfold m_x12_rootTold_J19 at h
    obtain rfl := Option.some.inj h
    exact W.iret (v := (i2 x1)) hx hb hr (fun t ht hW => ⟨⟨_, (), rfl, rfl, trivial⟩, hS.F ht⟩) hS.2.2 eX12_rootTold_8.2.2.2.2.2.1
  refine lv_aload_n hx hb eX12_octet_17.2.2.2.2.1 rfl (lv_at hl 0 rfl) ?_
  refine va_get (D := D) (ci := 12) (v := .int (i2 (gI s 47))) (C := RX12) (T := TX12) (N := 116) hx hb ht inX12 hown hK hP 0 RW_0 rfl 47 (by decide) (ht (.fieldLink RX12 406 "CloneVolumesModel" "isTold" "Z") fl_X12_406) (fun _ h9 => h9) mF_47 eX12_octet_17.2.2.2.2.2.1 ?_
  obtain ⟨hr2, h⟩ := rg_e h
  refine lv_if_eq (tgt := 16) hx hb eX12_octet_17.2.2.2.2.2.2.1 (by decide) (fun c3 => ?_) (fun c3 => ?_)
  · have h := if_t ((i2_eq (x := (gI s 47)) (y := 0) hr2 (by decide)).mp c3) h
    refine lv_sipush (v := 255) hx hb eX12_rootTold_8.2.2.2.2.1 (by decide) ?_
    exact J19 255 _ _ _ ⟨hP, hS, lv_sub hl [] rfl, h⟩
  · have h := if_f (mt (i2_eq (x := (gI s 47)) (y := 0) hr2 (by decide)).mpr c3) h
    refine lv_aload_n hx hb eX12_octet_17.2.2.2.2.2.2.2 rfl (lv_at hl 0 rfl) ?_
    refine va_get (D := D) (ci := 12) (v := .ref (a 49)) (C := RX12) (T := TX12) (N := 116) hx hb ht inX12 hown hK hP 0 RW_0 rfl 49 (by decide) (ht (.fieldLink RX12 121 "CloneVolumesModel" "now" "[I") fl_X12_121) (fun _ h9 => h9) mF_49 eX12_rootTold_8.1 ?_
    refine lv_iload_n hx hb eX12_rootTold_8.2.1 rfl (lv_at hl 1 rfl) ?_
    obtain ⟨y4, ey4, iy4, h⟩ := rdI_e h
    refine ya_iald (i := p0) hx hb hK hP 36 0 RW_36 rfl (by decide) ey4 iy4 eX12_rootTold_8.2.2.1 ?_
    refine lv_goto (tgt := 19) hx hb eX12_rootTold_8.2.2.2.1 (by decide) ?_
    exact J19 y4 _ _ _ ⟨hP, hS, lv_sub hl [] rfl, h⟩
set_option maxHeartbeats 4000000 in
set_option maxRecDepth 100000 in
theorem k_x12_checked (l : Launch) (D : va_G) (a : Nat → Nat) (p1 : Int) (s : MS) (o : Int) (h : m_x12_checked p1 s = some o) : yRi l yX12_checked cX12_checked 4 (some .int) { frames := 0, cells := 0, slots := 0, locals := 0 } D [.ref (a 111), .int (i2 p1)] (RW D a s) (i2 o) := by
  refine Met.ofW (cc := cX12_checked) (maxL := 4) (ret := (some .int)) (by decide) rfl ?_
  intro p e s₀ m args below meth c s₁ B hml hv
  obtain ⟨rfl, ⟨hP, hK⟩, hN⟩ := hv
  have hx := B.exec
  have hb := B.bytes
  have hr := B.returns
  have hts := atoms_spec (ws := wz yX12_checked cX12_checked 4 (some .int)) B.pre
  have ht : ∀ w ∈ lw_gd, w.before _ s₀ = true := fun w h => hts w (List.mem_cons_of_mem _ h)
  have hown : s₀.vm.findClass RX12 = some m.cls := findClass_of_methodNamed B.named
  have hlocks := B.notSynchronized
  have hS : va_S (fun _ => False) s₀.heap s₀.heap [] := va_S.rf
  have hl := lv_entry ([.ref (a 111), .int (i2 p1)]) (n := 4) (Nat.le_of_ble_eq_true rfl)
  rw [lg_entry_eq]
  generalize (lg_sl ([.ref (a 111), .int (i2 p1)]) ++ List.replicate (4 - (lg_sl ([.ref (a 111), .int (i2 p1)])).length) Slot.unset).toArray = ls at hl ⊢
  have hl : lv_has ls 4 [(0, .ref (a 111)), (1, .int (i2 p1))] := hl
  unfold m_x12_checked at h
  refine y_loop (pcJ := 6) (σ := Int × Int × Int) (fun n u H locs ls => va_P D vwCl (RW D a s) H ∧ va_S (fun _ => False) s₀.heap H locs ∧ lv_has ls 4 [(0, .ref (a 111)), (1, .int (i2 u.1)), (2, .int (i2 u.2.1)), (3, .int (i2 u.2.2))] ∧ m_x12_checked_L6 s n u.1 u.2.1 u.2.2 = some o) (fun u => []) (fun u H locs ls hI => by obtain ⟨_, _, _, h⟩ := hI; cases h) (fun n6 ih6 u H locs ls hI => ?_) (fun J6 => ?_)
  · obtain ⟨hP, hS, hl, h⟩ := hI
    obtain ⟨x1, x2, x3⟩ := u
    have hP : va_P D vwCl (RW D a s) H := hP
    have hl : lv_has ls 4 [(0, .ref (a 111)), (1, .int (i2 x1)), (2, .int (i2 x2)), (3, .int (i2 x3))] := hl
    have h : m_x12_checked_b6 s (m_x12_checked_L6 s n6) x1 x2 x3 = some o := h
    unfold m_x12_checked_b6 at h
    refine lv_iload_n hx hb eX12_checked_6.1 rfl (lv_at hl 3 rfl) ?_
    refine lv_iload_n hx hb eX12_checked_6.2.1 rfl (lv_at hl 1 rfl) ?_
    obtain ⟨hr4, h⟩ := rg_e h
    obtain ⟨hr5, h⟩ := rg_e h
    refine lv_icmp_ge (tgt := 29) hx hb eX12_checked_6.2.2.1 (by decide) (fun c6 => ?_) (fun c6 => ?_)
    · have h := if_t ((i2_le (x := x1) (y := x3) hr5 hr4).mp c6) h
      refine lv_iload_n hx hb eX12_checked_16.2.2.2.2.2.2.2 rfl (lv_at hl 2 rfl) ?_
      obtain rfl := Option.some.inj h
      exact W.iret (v := (i2 x2)) hx hb hr (fun t ht hW => ⟨⟨_, (), rfl, rfl, trivial⟩, hS.F ht⟩) hS.2.2 eX12_checked_30.1
    · have h := if_f (mt (i2_le (x := x1) (y := x3) hr5 hr4).mpr c6) h
      refine lv_iconst (v := 3) hx hb eX12_checked_6.2.2.2.1 (by decide) ?_
      refine lv_iload_n hx hb eX12_checked_6.2.2.2.2.1 rfl (lv_at hl 2 rfl) ?_
      refine lv_imul hx hb eX12_checked_6.2.2.2.2.2.1 ?_
      refine z_topi (y := i2 (3 * x2)) (i2_mul 3 x2) ?_
      refine lv_aload_n hx hb eX12_checked_6.2.2.2.2.2.2.1 rfl (lv_at hl 0 rfl) ?_
      refine lv_iload_n hx hb eX12_checked_6.2.2.2.2.2.2.2 rfl (lv_at hl 3 rfl) ?_
      obtain ⟨y7, ey7, iy7, h⟩ := rdI_e h
      refine ya_iald (i := x3) hx hb hK hP 78 0 RW_78 rfl (by decide) ey7 iy7 eX12_checked_16.1 ?_
      refine lv_iadd hx hb eX12_checked_16.2.1 ?_
      refine z_topi (y := i2 ((3 * x2) + y7)) (i2_add (3 * x2) y7) ?_
      refine lv_sipush (v := 251) hx hb eX12_checked_16.2.2.1 (by decide) ?_
      obtain ⟨hn8, h⟩ := dv_e h
      refine lv_irem hx hb eX12_checked_16.2.2.2.1 (dv_nz hn8) ?_
      refine z_topi (y := i2 (Int.tmod ((3 * x2) + y7) 251)) (by rw [show (251 : Int32) = i2 251 from by decide +kernel]; exact dv_r hn8) ?_
      refine lv_istore_n (lv' := [(2, .int (i2 (Int.tmod ((3 * x2) + y7) 251))), (0, .ref (a 111)), (1, .int (i2 x1)), (3, .int (i2 x3))]) hx hb eX12_checked_16.2.2.2.2.1 rfl hl (by decide) rfl (fun ls hl => ?_)
      refine lv_iinc (v := i2 (x3 + 1)) (lv' := [(3, .int (i2 (x3 + 1))), (2, .int (i2 (Int.tmod ((3 * x2) + y7) 251))), (0, .ref (a 111)), (1, .int (i2 x1))]) hx hb eX12_checked_16.2.2.2.2.2.1 hl (k := 3) rfl (i2_add x3 1) (by decide) rfl (fun ls hl => ?_)
      refine lv_goto (tgt := 6) hx hb eX12_checked_16.2.2.2.2.2.2.1 (by decide) ?_
      exact ih6 (x1, Int.tmod ((3 * x2) + y7) 251, x3 + 1) _ _ _ ⟨hP, hS, lv_sub hl [2, 3, 1, 0] rfl, h⟩
  refine lv_sipush (v := 157) hx hb eX12_byteRead_28.2.2.2.2.1 (by decide) ?_
  refine lv_istore_n (lv' := [(2, .int 157), (0, .ref (a 111)), (1, .int (i2 p1))]) hx hb eX12_byteRead_28.2.2.2.2.2.1 rfl hl (by decide) rfl (fun ls hl => ?_)
  refine lv_iconst (v := 0) hx hb eX12_byteRead_28.2.2.2.2.2.2.1 (by decide) ?_
  refine lv_istore_n (lv' := [(3, .int 0), (2, .int 157), (0, .ref (a 111)), (1, .int (i2 p1))]) hx hb eX12_byteRead_28.2.2.2.2.2.2.2 rfl hl (by decide) rfl (fun ls hl => ?_)
  exact J6 FU (p1, 157, 0) _ _ _ ⟨hP, hS, lv_sub hl [2, 3, 1, 0] rfl, h⟩
set_option maxHeartbeats 4000000 in
set_option maxRecDepth 100000 in
theorem k_x12_image (l : Launch) (D : va_G) (a : Nat → Nat) (sz : Nat) (s : MS) (o : (Int × MS)) (h : m_x12_image s = some o) : yWi l yX12_image cX12_image 2 (some .int) { frames := 4, cells := 0, slots := 0, locals := 240 } D sz [.ref (a 200)] (RW D a s) (RW D a o.2) (i2 o.1) := by
  refine Met.ofW (cc := cX12_image) (maxL := 2) (ret := (some .int)) (by decide) rfl ?_
  intro p e s₀ m args below meth c s₁ B hml hv
  obtain ⟨rfl, ⟨hsz, hP, hK, hD0⟩, hN⟩ := hv
  have hx := B.exec
  have hb := B.bytes
  have hr := B.returns
  have hts := atoms_spec (ws := wz yX12_image cX12_image 2 (some .int)) B.pre
  have ht : ∀ w ∈ lw_gd, w.before _ s₀ = true := fun w h => hts w (List.mem_cons_of_mem _ h)
  have hown : s₀.vm.findClass RX12 = some m.cls := findClass_of_methodNamed B.named
  have hlocks := B.notSynchronized
  subst hsz
  have hD := hD0.self (sz := s₀.heap.size)
  generalize hAe : va_A (RW D a s) s₀.heap.size = A at hD ⊢
  have hA : ∀ q : Nat, s₀.heap.size ≤ q → A q := fun q h => by rw [← hAe]; exact Or.inr h
  have hS : va_S A s₀.heap s₀.heap [] := va_S.rf
  have hDD : ∀ t : MS, va_D A (RW D a t) := fun t => RW_D t hD
  have hl := lv_entry ([.ref (a 200)]) (n := 2) (Nat.le_of_ble_eq_true rfl)
  rw [lg_entry_eq]
  generalize (lg_sl ([.ref (a 200)]) ++ List.replicate (2 - (lg_sl ([.ref (a 200)])).length) Slot.unset).toArray = ls at hl ⊢
  have hl : lv_has ls 2 [(0, .ref (a 200))] := hl
  unfold m_x12_image at h
  refine y_loop (pcJ := 72) (σ := Int × MS) (fun n u H locs ls => va_P D vwCl (RW D a u.2) H ∧ va_S A s₀.heap H locs ∧ lv_has ls 2 [(0, .ref (a 200)), (1, .int (i2 u.1))] ∧ m_x12_image_L72 n u.1 u.2 = some o) (fun u => []) (fun u H locs ls hI => by obtain ⟨_, _, _, h⟩ := hI; cases h) (fun n72 ih72 u H locs ls hI => ?_) (fun J72 => ?_)
  · obtain ⟨hP, hS, hl, h⟩ := hI
    obtain ⟨x1, s2⟩ := u
    have hP : va_P D vwCl (RW D a s2) H := hP
    have hl : lv_has ls 2 [(0, .ref (a 200)), (1, .int (i2 x1))] := hl
    have h : m_x12_image_b72 (m_x12_image_L72 n72) x1 s2 = some o := h
    unfold m_x12_image_b72 at h
    refine lv_iload_n hx hb eX12_image_71.2.1 rfl (lv_at hl 1 rfl) ?_
    refine lv_aload_n hx hb eX12_image_71.2.2.1 rfl (lv_at hl 0 rfl) ?_
    obtain ⟨r4, hc3, h⟩ := bn_e h
    refine ycV (r0 := i2 r4) (As := []) (rest := [.int (i2 x1)]) (C := RX12) (n := 0) ⟨hx, hb, hml, hown, ht⟩ (k_x12_blockMany l D a _ _ hc3) (zgV ml_X12_429 im_X12_blockMany se_X12_blockMany in_X12 co_X12_blockMany) rfl rfl (by decide +kernel) ⟨Nat.le_of_ble_eq_true rfl, Nat.le_of_ble_eq_true rfl⟩ hN hK hP hS 0 RW_0 rfl rfl rfl hl.1 rfl (Nat.le_of_ble_eq_true rfl) eX12_image_71.2.2.2.1 ⟨Nat.le_of_ble_eq_true rfl, Nat.le_of_ble_eq_true rfl⟩ (fun H locs hP hS => ?_)
    obtain ⟨hr5, h⟩ := rg_e h
    obtain ⟨hr6, h⟩ := rg_e h
    refine lv_icmp_ge (tgt := 91) hx hb eX12_image_71.2.2.2.2.1 (by decide) (fun c7 => ?_) (fun c7 => ?_)
    · have h := if_t ((i2_le (x := r4) (y := x1) hr6 hr5).mp c7) h
      refine lv_aload_n hx hb eX12_image_85.2.2.1 rfl (lv_at hl 0 rfl) ?_
      refine lv_aload_n hx hb eX12_image_85.2.2.2.1 rfl (lv_at hl 0 rfl) ?_
      refine va_get (D := D) (ci := 12) (v := .ref (a 111)) (C := RX12) (T := TX12) (N := 116) hx hb ht inX12 hown hK hP 0 RW_0 rfl 111 (by decide) (ht (.fieldLink RX12 252 "CloneVolumesModel" "octet" "[I") fl_X12_252) (fun _ h9 => h9) mF_111 eX12_image_85.2.2.2.2.1 ?_
      refine lv_aload_n hx hb eX12_image_85.2.2.2.2.2.1 rfl (lv_at hl 0 rfl) ?_
      refine va_get (D := D) (ci := 12) (v := .int (i2 (gI s2 112))) (C := RX12) (T := TX12) (N := 116) hx hb ht inX12 hown hK hP 0 RW_0 rfl 112 (by decide) (ht (.fieldLink RX12 783 "CloneVolumesModel" "octets" "I") fl_X12_783) (fun _ h9 => h9) mF_112 eX12_image_85.2.2.2.2.2.2.1 ?_
      obtain ⟨r9, hc8, h⟩ := bn_e h
      refine ycS (r0 := i2 r9) (As := [.ref (a 111), .int (i2 (gI s2 112))]) (rest := [.ref (a 200)]) (n := 2) ⟨hx, hb, hml, hown, ht⟩ (k_x12_checked l D a (gI s2 112) _ _ hc8) (zgT ml_X12_799 st_X12_checked in_X12 co_X12_checked) rfl rfl (by decide +kernel) ⟨Nat.le_of_ble_eq_true rfl, Nat.le_of_ble_eq_true rfl⟩ hN hK hP hS rfl hl.1 rfl (Nat.le_of_ble_eq_true rfl) eX12_image_85.2.2.2.2.2.2.2 ⟨Nat.le_of_ble_eq_true rfl, Nat.le_of_ble_eq_true rfl⟩ (fun H locs hP hS => ?_)
      obtain ⟨s11, hc10, h⟩ := bn_e h
      refine ywVv (As := [.int (i2 r9)]) (rest := []) (C := RX12) (n := 1) (ws' := RW D a s11) ⟨hx, hb, hml, hown, ht⟩ (k_x12_tellsByte l D a r9 _ _ _ hc10) (zgV ml_X12_786 im_X12_tellsByte se_X12_tellsByte in_X12 co_X12_tellsByte) rfl rfl (by decide +kernel) ⟨Nat.le_of_ble_eq_true rfl, Nat.le_of_ble_eq_true rfl⟩ hN hK hP (hDD _) hS hA 0 RW_0 rfl rfl rfl hl.1 rfl (Nat.le_of_ble_eq_true rfl) eX12_image_103.1 ⟨Nat.le_of_ble_eq_true rfl, Nat.le_of_ble_eq_true rfl⟩ (fun H locs hP hS => ?_)
      refine lv_aload_n hx hb eX12_image_103.2.1 rfl (lv_at hl 0 rfl) ?_
      refine va_get (D := D) (ci := 12) (v := .int (i2 (gI s11 112))) (C := RX12) (T := TX12) (N := 116) hx hb ht inX12 hown hK hP 0 RW_0 rfl 112 (by decide) (ht (.fieldLink RX12 783 "CloneVolumesModel" "octets" "I") fl_X12_783) (fun _ h9 => h9) mF_112 eX12_image_103.2.2.1 ?_
      obtain rfl := Option.some.inj h
      exact W.iret (v := (i2 (gI s11 112))) hx hb hr (fun t ht hW => ⟨⟨_, (), rfl, rfl, by rw [ht]; exact hP, va_K.moved hW.alike hK, hDD _⟩, hS.F ht⟩) hS.2.2 eX12_image_103.2.2.2.1
    · have h := if_f (mt (i2_le (x := r4) (y := x1) hr6 hr5).mpr c7) h
      refine lv_aload_n hx hb eX12_image_71.2.2.2.2.2.1 rfl (lv_at hl 0 rfl) ?_
      refine lv_iload_n hx hb eX12_image_71.2.2.2.2.2.2.1 rfl (lv_at hl 1 rfl) ?_
      obtain ⟨s13, hc12, h⟩ := bn_e h
      refine ywVv (As := [.int (i2 x1)]) (rest := []) (C := RX12) (n := 1) (ws' := RW D a s13) ⟨hx, hb, hml, hown, ht⟩ (k_x12_writesBlock l D a x1 _ _ _ hc12) (zgV ml_X12_796 im_X12_writesBlock se_X12_writesBlock in_X12 co_X12_writesBlock) rfl rfl (by decide +kernel) ⟨Nat.le_of_ble_eq_true rfl, Nat.le_of_ble_eq_true rfl⟩ hN hK hP (hDD _) hS hA 0 RW_0 rfl rfl rfl hl.1 rfl (Nat.le_of_ble_eq_true rfl) eX12_image_71.2.2.2.2.2.2.2 ⟨Nat.le_of_ble_eq_true rfl, Nat.le_of_ble_eq_true rfl⟩ (fun H locs hP hS => ?_)
      refine lv_iinc (v := i2 (x1 + 1)) (lv' := [(1, .int (i2 (x1 + 1))), (0, .ref (a 200))]) hx hb eX12_image_85.1 hl (k := 1) rfl (i2_add x1 1) (by decide) rfl (fun ls hl => ?_)
      refine lv_goto (tgt := 72) hx hb eX12_image_85.2.1 (by decide) ?_
      exact ih72 (x1 + 1, s13) _ _ _ ⟨hP, hS, lv_sub hl [1, 0] rfl, h⟩
  refine y_loop (pcJ := 37) (σ := Int × MS) (fun n u H locs ls => va_P D vwCl (RW D a u.2) H ∧ va_S A s₀.heap H locs ∧ lv_has ls 2 [(0, .ref (a 200)), (1, .int (i2 u.1))] ∧ m_x12_image_L37 n u.1 u.2 = some o) (fun u => []) (fun u H locs ls hI => by obtain ⟨_, _, _, h⟩ := hI; cases h) (fun n37 ih37 u H locs ls hI => ?_) (fun J37 => ?_)
  · obtain ⟨hP, hS, hl, h⟩ := hI
    obtain ⟨x14, s15⟩ := u
    have hP : va_P D vwCl (RW D a s15) H := hP
    have hl : lv_has ls 2 [(0, .ref (a 200)), (1, .int (i2 x14))] := hl
    have h : m_x12_image_b37 (m_x12_image_L37 n37) x14 s15 = some o := h
    unfold m_x12_image_b37 at h
    refine lv_iload_n hx hb eX12_image_27.2.2.2.2.2.2.1 rfl (lv_at hl 1 rfl) ?_
    refine lv_bipush (v := 8) hx hb eX12_image_27.2.2.2.2.2.2.2 (by decide) ?_
    obtain ⟨hr16, h⟩ := rg_e h
    refine lv_icmp_ge (tgt := 70) hx hb eX12_image_40.1 (by decide) (fun c17 => ?_) (fun c17 => ?_)
    · have h := if_t ((i2_le (x := 8) (y := x14) (by decide) hr16).mp c17) h
      refine lv_iconst (v := 0) hx hb eX12_image_54.2.2.2.2.2.2.2 (by decide) ?_
      refine lv_istore_n (lv' := [(1, .int 0), (0, .ref (a 200))]) hx hb eX12_image_71.1 rfl hl (by decide) rfl (fun ls hl => ?_)
      exact J72 FU (0, s15) _ _ _ ⟨hP, hS, lv_sub hl [1, 0] rfl, h⟩
    · have h := if_f (mt (i2_le (x := 8) (y := x14) (by decide) hr16).mpr c17) h
      refine lv_aload_n hx hb eX12_image_40.2.1 rfl (lv_at hl 0 rfl) ?_
      refine lv_aload_n hx hb eX12_image_40.2.2.1 rfl (lv_at hl 0 rfl) ?_
      refine lv_iload_n hx hb eX12_image_40.2.2.2.1 rfl (lv_at hl 1 rfl) ?_
      obtain ⟨r19, hc18, h⟩ := bn_e h
      refine ycV (r0 := i2 r19) (As := [.int (i2 x14)]) (rest := [.ref (a 200)]) (C := RX12) (n := 1) ⟨hx, hb, hml, hown, ht⟩ (k_x12_rootTold l D a x14 _ _ hc18) (zgV ml_X12_793 im_X12_rootTold se_X12_rootTold in_X12 co_X12_rootTold) rfl rfl (by decide +kernel) ⟨Nat.le_of_ble_eq_true rfl, Nat.le_of_ble_eq_true rfl⟩ hN hK hP hS 0 RW_0 rfl rfl rfl hl.1 rfl (Nat.le_of_ble_eq_true rfl) eX12_image_40.2.2.2.2.1 ⟨Nat.le_of_ble_eq_true rfl, Nat.le_of_ble_eq_true rfl⟩ (fun H locs hP hS => ?_)
      obtain ⟨s21, hc20, h⟩ := bn_e h
      refine ywVv (As := [.int (i2 r19)]) (rest := []) (C := RX12) (n := 1) (ws' := RW D a s21) ⟨hx, hb, hml, hown, ht⟩ (k_x12_tellsByte l D a r19 _ _ _ hc20) (zgV ml_X12_786 im_X12_tellsByte se_X12_tellsByte in_X12 co_X12_tellsByte) rfl rfl (by decide +kernel) ⟨Nat.le_of_ble_eq_true rfl, Nat.le_of_ble_eq_true rfl⟩ hN hK hP (hDD _) hS hA 0 RW_0 rfl rfl rfl hl.1 rfl (Nat.le_of_ble_eq_true rfl) eX12_image_40.2.2.2.2.2.1 ⟨Nat.le_of_ble_eq_true rfl, Nat.le_of_ble_eq_true rfl⟩ (fun H locs hP hS => ?_)
      refine lv_aload_n hx hb eX12_image_40.2.2.2.2.2.2.1 rfl (lv_at hl 0 rfl) ?_
      refine lv_aload_n hx hb eX12_image_40.2.2.2.2.2.2.2 rfl (lv_at hl 0 rfl) ?_
      refine lv_bipush (v := 8) hx hb eX12_image_54.1 (by decide) ?_
      refine lv_iload_n hx hb eX12_image_54.2.1 rfl (lv_at hl 1 rfl) ?_
      refine lv_iadd hx hb eX12_image_54.2.2.1 ?_
      refine z_topi (y := i2 (8 + x14)) (i2_add 8 x14) ?_
      obtain ⟨r23, hc22, h⟩ := bn_e h
      refine ycV (r0 := i2 r23) (As := [.int (i2 (8 + x14))]) (rest := [.ref (a 200)]) (C := RX12) (n := 1) ⟨hx, hb, hml, hown, ht⟩ (k_x12_rootTold l D a (8 + x14) _ _ hc22) (zgV ml_X12_793 im_X12_rootTold se_X12_rootTold in_X12 co_X12_rootTold) rfl rfl (by decide +kernel) ⟨Nat.le_of_ble_eq_true rfl, Nat.le_of_ble_eq_true rfl⟩ hN hK hP hS 0 RW_0 rfl rfl rfl hl.1 rfl (Nat.le_of_ble_eq_true rfl) eX12_image_54.2.2.2.1 ⟨Nat.le_of_ble_eq_true rfl, Nat.le_of_ble_eq_true rfl⟩ (fun H locs hP hS => ?_)
      obtain ⟨s25, hc24, h⟩ := bn_e h
      refine ywVv (As := [.int (i2 r23)]) (rest := []) (C := RX12) (n := 1) (ws' := RW D a s25) ⟨hx, hb, hml, hown, ht⟩ (k_x12_tellsByte l D a r23 _ _ _ hc24) (zgV ml_X12_786 im_X12_tellsByte se_X12_tellsByte in_X12 co_X12_tellsByte) rfl rfl (by decide +kernel) ⟨Nat.le_of_ble_eq_true rfl, Nat.le_of_ble_eq_true rfl⟩ hN hK hP (hDD _) hS hA 0 RW_0 rfl rfl rfl hl.1 rfl (Nat.le_of_ble_eq_true rfl) eX12_image_54.2.2.2.2.1 ⟨Nat.le_of_ble_eq_true rfl, Nat.le_of_ble_eq_true rfl⟩ (fun H locs hP hS => ?_)
      refine lv_iinc (v := i2 (x14 + 1)) (lv' := [(1, .int (i2 (x14 + 1))), (0, .ref (a 200))]) hx hb eX12_image_54.2.2.2.2.2.1 hl (k := 1) rfl (i2_add x14 1) (by decide) rfl (fun ls hl => ?_)
      refine lv_goto (tgt := 37) hx hb eX12_image_54.2.2.2.2.2.2.1 (by decide) ?_
      exact ih37 (x14 + 1, s25) _ _ _ ⟨hP, hS, lv_sub hl [1, 0] rfl, h⟩
  refine lv_aload_n hx hb eX12_checked_30.2.1 rfl (lv_at hl 0 rfl) ?_
  refine lv_iconst (v := 0) hx hb eX12_checked_30.2.2.1 (by decide) ?_
  refine ya_put (D := D) (ci := 12) (v := .int 0) (ty := .int) (C := RX12) (T := TX12) (N := 116) hx hb ht inX12 tyX12 tyX12_ok nmX12 hown hK hP (hDD _) hS 0 RW_0 rfl 112 (by decide) (ht (.fieldLink RX12 783 "CloneVolumesModel" "octets" "I") fl_X12_783) (fun _ h9 => h9) rfl (by decide +kernel) rfl rfl (by rw [mF_len]; decide) eX12_checked_30.2.2.2.1 (RW_f112 0) (fun H locs hP hS => ?_)
  obtain ⟨s26, hs26, h⟩ := st_e h
  rw [hs26] at hP
  refine lv_aload_n hx hb eX12_checked_30.2.2.2.2.1 rfl (lv_at hl 0 rfl) ?_
  refine lv_aload_n hx hb eX12_checked_30.2.2.2.2.2.1 rfl (lv_at hl 0 rfl) ?_
  refine va_get (D := D) (ci := 12) (v := .ref (a 49)) (C := RX12) (T := TX12) (N := 116) hx hb ht inX12 hown hK hP 0 RW_0 rfl 49 (by decide) (ht (.fieldLink RX12 121 "CloneVolumesModel" "now" "[I") fl_X12_121) (fun _ h9 => h9) mF_49 eX12_checked_30.2.2.2.2.2.2.1 ?_
  refine lv_bipush (v := 16) hx hb eX12_checked_30.2.2.2.2.2.2.2 (by decide) ?_
  obtain ⟨y27, ey27, iy27, h⟩ := rdI_e h
  refine ya_iald (i := 16) hx hb hK hP 36 0 RW_36 rfl (by decide) ey27 iy27 eX12_image_12.1 ?_
  refine lv_ldcw (own := RX12) (v := 65536) hx hb hown (ht _ ck_X12_792) eX12_image_12.2.1 ?_
  obtain ⟨hn28, h⟩ := dv_e h
  refine lv_idiv hx hb eX12_image_12.2.2.1 (dv_nz hn28) ?_
  refine z_topi (y := i2 (Int.tdiv y27 65536)) (by rw [show (65536 : Int32) = i2 65536 from by decide +kernel]; exact dv_d hn28) ?_
  obtain ⟨s30, hc29, h⟩ := bn_e h
  refine ywVv (As := [.int (i2 (Int.tdiv y27 65536))]) (rest := []) (C := RX12) (n := 1) (ws' := RW D a s30) ⟨hx, hb, hml, hown, ht⟩ (k_x12_tellsByte l D a (Int.tdiv y27 65536) _ _ _ hc29) (zgV ml_X12_786 im_X12_tellsByte se_X12_tellsByte in_X12 co_X12_tellsByte) rfl rfl (by decide +kernel) ⟨Nat.le_of_ble_eq_true rfl, Nat.le_of_ble_eq_true rfl⟩ hN hK hP (hDD _) hS hA 0 RW_0 rfl rfl rfl hl.1 rfl (Nat.le_of_ble_eq_true rfl) eX12_image_12.2.2.2.1 ⟨Nat.le_of_ble_eq_true rfl, Nat.le_of_ble_eq_true rfl⟩ (fun H locs hP hS => ?_)
  refine lv_aload_n hx hb eX12_image_12.2.2.2.2.1 rfl (lv_at hl 0 rfl) ?_
  refine lv_aload_n hx hb eX12_image_12.2.2.2.2.2.1 rfl (lv_at hl 0 rfl) ?_
  refine va_get (D := D) (ci := 12) (v := .ref (a 49)) (C := RX12) (T := TX12) (N := 116) hx hb ht inX12 hown hK hP 0 RW_0 rfl 49 (by decide) (ht (.fieldLink RX12 121 "CloneVolumesModel" "now" "[I") fl_X12_121) (fun _ h9 => h9) mF_49 eX12_image_12.2.2.2.2.2.2.1 ?_
  refine lv_bipush (v := 16) hx hb eX12_image_12.2.2.2.2.2.2.2 (by decide) ?_
  obtain ⟨y31, ey31, iy31, h⟩ := rdI_e h
  refine ya_iald (i := 16) hx hb hK hP 36 0 RW_36 rfl (by decide) ey31 iy31 eX12_image_27.1 ?_
  refine lv_ldcw (own := RX12) (v := 65536) hx hb hown (ht _ ck_X12_792) eX12_image_27.2.1 ?_
  obtain ⟨hn32, h⟩ := dv_e h
  refine lv_irem hx hb eX12_image_27.2.2.1 (dv_nz hn32) ?_
  refine z_topi (y := i2 (Int.tmod y31 65536)) (by rw [show (65536 : Int32) = i2 65536 from by decide +kernel]; exact dv_r hn32) ?_
  obtain ⟨s34, hc33, h⟩ := bn_e h
  refine ywVv (As := [.int (i2 (Int.tmod y31 65536))]) (rest := []) (C := RX12) (n := 1) (ws' := RW D a s34) ⟨hx, hb, hml, hown, ht⟩ (k_x12_tellsTwo l D a (Int.tmod y31 65536) _ _ _ hc33) (zgV ml_X12_789 im_X12_tellsTwo se_X12_tellsTwo in_X12 co_X12_tellsTwo) rfl rfl (by decide +kernel) ⟨Nat.le_of_ble_eq_true rfl, Nat.le_of_ble_eq_true rfl⟩ hN hK hP (hDD _) hS hA 0 RW_0 rfl rfl rfl hl.1 rfl (Nat.le_of_ble_eq_true rfl) eX12_image_27.2.2.2.1 ⟨Nat.le_of_ble_eq_true rfl, Nat.le_of_ble_eq_true rfl⟩ (fun H locs hP hS => ?_)
  refine lv_iconst (v := 0) hx hb eX12_image_27.2.2.2.2.1 (by decide) ?_
  refine lv_istore_n (lv' := [(1, .int 0), (0, .ref (a 200))]) hx hb eX12_image_27.2.2.2.2.2.1 rfl hl (by decide) rfl (fun ls hl => ?_)
  exact J37 FU (0, s34) _ _ _ ⟨hP, hS, lv_sub hl [1, 0] rfl, h⟩
set_option maxHeartbeats 4000000 in
set_option maxRecDepth 100000 in
theorem k_x12_byteRead (l : Launch) (D : va_G) (a : Nat → Nat) (p0 : Int) (sz : Nat) (s : MS) (o : (Int × MS)) (h : m_x12_byteRead p0 s = some o) : yWi l yX12_byteRead cX12_byteRead 2 (some .int) { frames := 0, cells := 0, slots := 0, locals := 0 } D sz [.ref (a 200), .int (i2 p0)] (RW D a s) (RW D a o.2) (i2 o.1) := by
  refine Met.ofW (cc := cX12_byteRead) (maxL := 2) (ret := (some .int)) (by decide) rfl ?_
  intro p e s₀ m args below meth c s₁ B hml hv
  obtain ⟨rfl, ⟨hsz, hP, hK, hD0⟩, hN⟩ := hv
  have hx := B.exec
  have hb := B.bytes
  have hr := B.returns
  have hts := atoms_spec (ws := wz yX12_byteRead cX12_byteRead 2 (some .int)) B.pre
  have ht : ∀ w ∈ lw_gd, w.before _ s₀ = true := fun w h => hts w (List.mem_cons_of_mem _ h)
  have hown : s₀.vm.findClass RX12 = some m.cls := findClass_of_methodNamed B.named
  have hlocks := B.notSynchronized
  subst hsz
  have hD := hD0.self (sz := s₀.heap.size)
  generalize hAe : va_A (RW D a s) s₀.heap.size = A at hD ⊢
  have hA : ∀ q : Nat, s₀.heap.size ≤ q → A q := fun q h => by rw [← hAe]; exact Or.inr h
  have hS : va_S A s₀.heap s₀.heap [] := va_S.rf
  have hDD : ∀ t : MS, va_D A (RW D a t) := fun t => RW_D t hD
  have hl := lv_entry ([.ref (a 200), .int (i2 p0)]) (n := 2) (Nat.le_of_ble_eq_true rfl)
  rw [lg_entry_eq]
  generalize (lg_sl ([.ref (a 200), .int (i2 p0)]) ++ List.replicate (2 - (lg_sl ([.ref (a 200), .int (i2 p0)])).length) Slot.unset).toArray = ls at hl ⊢
  have hl : lv_has ls 2 [(0, .ref (a 200)), (1, .int (i2 p0))] := hl
  unfold m_x12_byteRead at h
  refine y_head (pcJ := 33) (σ := Int × MS) (fun u H locs ls => va_P D vwCl (RW D a u.2) H ∧ va_S A s₀.heap H locs ∧ lv_has ls 2 [] ∧ m_x12_byteRead_J33 u.1 u.2 = some o) (fun u => [.int (i2 u.1)]) (fun u H locs ls hI => ?_) (fun J33 => ?_)
  · obtain ⟨hP, hS, hl, h⟩ := hI
    obtain ⟨x1, s2⟩ := u
    have hP : va_P D vwCl (RW D a s2) H := hP
    have hl : lv_has ls 2 [] := hl
    have h : m_x12_byteRead_J33 x1 s2 = some o := h
    unfold m_x12_byteRead_J33 at h
    obtain rfl := Option.some.inj h
    exact W.iret (v := (i2 x1)) hx hb hr (fun t ht hW => ⟨⟨_, (), rfl, rfl, by rw [ht]; exact hP, va_K.moved hW.alike hK, hDD _⟩, hS.F ht⟩) hS.2.2 eX12_byteRead_28.2.2.2.1
  refine lv_aload_n hx hb eX12_byteRead_0.1 rfl (lv_at hl 0 rfl) ?_
  refine lv_dup hx hb eX12_byteRead_0.2.1 rfl ?_
  refine va_get (D := D) (ci := 12) (v := .int (i2 (gI s 114))) (C := RX12) (T := TX12) (N := 116) hx hb ht inX12 hown hK hP 0 RW_0 rfl 114 (by decide) (ht (.fieldLink RX12 803 "CloneVolumesModel" "read0" "I") fl_X12_803) (fun _ h9 => h9) mF_114 eX12_byteRead_0.2.2.1 ?_
  refine lv_iconst (v := 1) hx hb eX12_byteRead_0.2.2.2.1 (by decide) ?_
  refine lv_iadd hx hb eX12_byteRead_0.2.2.2.2.1 ?_
  refine z_topi (y := i2 ((gI s 114) + 1)) (i2_add (gI s 114) 1) ?_
  refine ya_put (D := D) (ci := 12) (v := .int (i2 ((gI s 114) + 1))) (ty := .int) (C := RX12) (T := TX12) (N := 116) hx hb ht inX12 tyX12 tyX12_ok nmX12 hown hK hP (hDD _) hS 0 RW_0 rfl 114 (by decide) (ht (.fieldLink RX12 803 "CloneVolumesModel" "read0" "I") fl_X12_803) (fun _ h9 => h9) rfl (by decide +kernel) rfl rfl (by rw [mF_len]; decide) eX12_byteRead_0.2.2.2.2.2.1 (RW_f114 ((gI s 114) + 1)) (fun H locs hP hS => ?_)
  obtain ⟨s3, hs3, h⟩ := st_e h
  rw [hs3] at hP
  refine lv_aload_n hx hb eX12_byteRead_0.2.2.2.2.2.2.1 rfl (lv_at hl 0 rfl) ?_
  refine va_get (D := D) (ci := 12) (v := .int (i2 (gI s3 114))) (C := RX12) (T := TX12) (N := 116) hx hb ht inX12 hown hK hP 0 RW_0 rfl 114 (by decide) (ht (.fieldLink RX12 803 "CloneVolumesModel" "read0" "I") fl_X12_803) (fun _ h9 => h9) mF_114 eX12_byteRead_0.2.2.2.2.2.2.2 ?_
  refine lv_iload_n hx hb eX12_byteRead_14.1 rfl (lv_at hl 1 rfl) ?_
  obtain ⟨hr4, h⟩ := rg_e h
  obtain ⟨hr5, h⟩ := rg_e h
  refine lv_icmp_gt (tgt := 32) hx hb eX12_byteRead_14.2.1 (by decide) (fun c6 => ?_) (fun c6 => ?_)
  · have h := if_t ((i2_lt (x := p0) (y := (gI s3 114)) hr5 hr4).mp c6) h
    refine lv_iconst (v := (-1)) hx hb eX12_byteRead_28.2.2.1 (by decide) ?_
    exact J33 ((-1), s3) _ _ _ ⟨hP, hS, lv_sub hl [] rfl, h⟩
  · have h := if_f (mt (i2_lt (x := p0) (y := (gI s3 114)) hr5 hr4).mpr c6) h
    refine lv_aload_n hx hb eX12_byteRead_14.2.2.1 rfl (lv_at hl 0 rfl) ?_
    refine va_get (D := D) (ci := 12) (v := .ref (a 0)) (C := RX12) (T := TX12) (N := 116) hx hb ht inX12 hown hK hP 0 RW_0 rfl 0 (by decide) (ht (.fieldLink RX12 7 "CloneVolumesModel" "tape" "[I") fl_X12_7) (fun _ h9 => h9) mF_0 eX12_byteRead_14.2.2.2.1 ?_
    refine lv_aload_n hx hb eX12_byteRead_14.2.2.2.2.1 rfl (lv_at hl 0 rfl) ?_
    refine va_get (D := D) (ci := 12) (v := .int (i2 (gI s3 114))) (C := RX12) (T := TX12) (N := 116) hx hb ht inX12 hown hK hP 0 RW_0 rfl 114 (by decide) (ht (.fieldLink RX12 803 "CloneVolumesModel" "read0" "I") fl_X12_803) (fun _ h9 => h9) mF_114 eX12_byteRead_14.2.2.2.2.2.1 ?_
    refine lv_iconst (v := 1) hx hb eX12_byteRead_14.2.2.2.2.2.2.1 (by decide) ?_
    refine lv_isub hx hb eX12_byteRead_14.2.2.2.2.2.2.2 ?_
    refine z_topi (y := i2 ((gI s3 114) - 1)) (i2_sub (gI s3 114) 1) ?_
    obtain ⟨y7, ey7, iy7, h⟩ := rdI_e h
    refine ya_iald (i := ((gI s3 114) - 1)) hx hb hK hP 1 0 RW_1 rfl (by decide) ey7 iy7 eX12_byteRead_28.1 ?_
    refine lv_goto (tgt := 33) hx hb eX12_byteRead_28.2.1 (by decide) ?_
    exact J33 (y7, s3) _ _ _ ⟨hP, hS, lv_sub hl [] rfl, h⟩
set_option maxHeartbeats 4000000 in
set_option maxRecDepth 100000 in
theorem k_x12_twoRead (l : Launch) (D : va_G) (a : Nat → Nat) (p0 : Int) (sz : Nat) (s : MS) (o : (Int × MS)) (h : m_x12_twoRead p0 s = some o) : yWi l yX12_twoRead cX12_twoRead 4 (some .int) { frames := 1, cells := 0, slots := 0, locals := 60 } D sz [.ref (a 200), .int (i2 p0)] (RW D a s) (RW D a o.2) (i2 o.1) := by
  refine Met.ofW (cc := cX12_twoRead) (maxL := 4) (ret := (some .int)) (by decide) rfl ?_
  intro p e s₀ m args below meth c s₁ B hml hv
  obtain ⟨rfl, ⟨hsz, hP, hK, hD0⟩, hN⟩ := hv
  have hx := B.exec
  have hb := B.bytes
  have hr := B.returns
  have hts := atoms_spec (ws := wz yX12_twoRead cX12_twoRead 4 (some .int)) B.pre
  have ht : ∀ w ∈ lw_gd, w.before _ s₀ = true := fun w h => hts w (List.mem_cons_of_mem _ h)
  have hown : s₀.vm.findClass RX12 = some m.cls := findClass_of_methodNamed B.named
  have hlocks := B.notSynchronized
  subst hsz
  have hD := hD0.self (sz := s₀.heap.size)
  generalize hAe : va_A (RW D a s) s₀.heap.size = A at hD ⊢
  have hA : ∀ q : Nat, s₀.heap.size ≤ q → A q := fun q h => by rw [← hAe]; exact Or.inr h
  have hS : va_S A s₀.heap s₀.heap [] := va_S.rf
  have hDD : ∀ t : MS, va_D A (RW D a t) := fun t => RW_D t hD
  have hl := lv_entry ([.ref (a 200), .int (i2 p0)]) (n := 4) (Nat.le_of_ble_eq_true rfl)
  rw [lg_entry_eq]
  generalize (lg_sl ([.ref (a 200), .int (i2 p0)]) ++ List.replicate (4 - (lg_sl ([.ref (a 200), .int (i2 p0)])).length) Slot.unset).toArray = ls at hl ⊢
  have hl : lv_has ls 4 [(0, .ref (a 200)), (1, .int (i2 p0))] := hl
  unfold m_x12_twoRead at h
  refine y_head (pcJ := 33) (σ := Int × MS) (fun u H locs ls => va_P D vwCl (RW D a u.2) H ∧ va_S A s₀.heap H locs ∧ lv_has ls 4 [] ∧ m_x12_twoRead_J33 u.1 u.2 = some o) (fun u => [.int (i2 u.1)]) (fun u H locs ls hI => ?_) (fun J33 => ?_)
  · obtain ⟨hP, hS, hl, h⟩ := hI
    obtain ⟨x1, s2⟩ := u
    have hP : va_P D vwCl (RW D a s2) H := hP
    have hl : lv_has ls 4 [] := hl
    have h : m_x12_twoRead_J33 x1 s2 = some o := h
    unfold m_x12_twoRead_J33 at h
    obtain rfl := Option.some.inj h
    exact W.iret (v := (i2 x1)) hx hb hr (fun t ht hW => ⟨⟨_, (), rfl, rfl, by rw [ht]; exact hP, va_K.moved hW.alike hK, hDD _⟩, hS.F ht⟩) hS.2.2 eX12_twoRead_33.1
  refine y_head (pcJ := 22) (σ := MS) (fun u H locs ls => va_P D vwCl (RW D a u) H ∧ va_S A s₀.heap H locs ∧ lv_has ls 4 [] ∧ m_x12_twoRead_J22 u = some o) (fun u => []) (fun u H locs ls hI => ?_) (fun J22 => ?_)
  · obtain ⟨hP, hS, hl, h⟩ := hI
    obtain ⟨s3, rfl⟩ : ∃ z, z = u := ⟨u, rfl⟩
    have hP : va_P D vwCl (RW D a s3) H := hP
    have hl : lv_has ls 4 [] := hl
    have h : m_x12_twoRead_J22 s3 = some o := h
    unfold m_x12_twoRead_J22 at h
    refine lv_iconst (v := (-1)) hx hb eX12_twoRead_19.2.1 (by decide) ?_
    refine lv_goto (tgt := 33) hx hb eX12_twoRead_19.2.2.1 (by decide) ?_
    exact J33 ((-1), s3) _ _ _ ⟨hP, hS, lv_sub hl [] rfl, h⟩
  refine lv_aload_n hx hb eX12_tellsTwo_14.2.2.2.1 rfl (lv_at hl 0 rfl) ?_
  refine lv_iload_n hx hb eX12_tellsTwo_14.2.2.2.2.1 rfl (lv_at hl 1 rfl) ?_
  obtain ⟨⟨r6, s5⟩, hc4, h⟩ := bn_e h
  refine ywV (r0 := i2 r6) (As := [.int (i2 p0)]) (rest := []) (C := RX12) (n := 1) (ws' := RW D a s5) ⟨hx, hb, hml, hown, ht⟩ (k_x12_byteRead l D a p0 _ _ _ hc4) (zgV ml_X12_806 im_X12_byteRead se_X12_byteRead in_X12 co_X12_byteRead) rfl rfl (by decide +kernel) ⟨Nat.le_of_ble_eq_true rfl, Nat.le_of_ble_eq_true rfl⟩ hN hK hP (hDD _) hS hA 0 RW_0 rfl rfl rfl hl.1 rfl (Nat.le_of_ble_eq_true rfl) eX12_tellsTwo_14.2.2.2.2.2.1 ⟨Nat.le_of_ble_eq_true rfl, Nat.le_of_ble_eq_true rfl⟩ (fun H locs hP hS => ?_)
  refine lv_istore_n (lv' := [(2, .int (i2 r6)), (0, .ref (a 200)), (1, .int (i2 p0))]) hx hb eX12_tellsTwo_14.2.2.2.2.2.2.1 rfl hl (by decide) rfl (fun ls hl => ?_)
  refine lv_aload_n hx hb eX12_tellsTwo_14.2.2.2.2.2.2.2 rfl (lv_at hl 1 rfl) ?_
  refine lv_iload_n hx hb eX12_twoRead_7.1 rfl (lv_at hl 2 rfl) ?_
  obtain ⟨⟨r9, s8⟩, hc7, h⟩ := bn_e h
  refine ywV (r0 := i2 r9) (As := [.int (i2 p0)]) (rest := []) (C := RX12) (n := 1) (ws' := RW D a s8) ⟨hx, hb, hml, hown, ht⟩ (k_x12_byteRead l D a p0 _ _ _ hc7) (zgV ml_X12_806 im_X12_byteRead se_X12_byteRead in_X12 co_X12_byteRead) rfl rfl (by decide +kernel) ⟨Nat.le_of_ble_eq_true rfl, Nat.le_of_ble_eq_true rfl⟩ hN hK hP (hDD _) hS hA 0 RW_0 rfl rfl rfl hl.1 rfl (Nat.le_of_ble_eq_true rfl) eX12_twoRead_7.2.1 ⟨Nat.le_of_ble_eq_true rfl, Nat.le_of_ble_eq_true rfl⟩ (fun H locs hP hS => ?_)
  refine lv_istore_n (lv' := [(3, .int (i2 r9)), (2, .int (i2 r6)), (0, .ref (a 200)), (1, .int (i2 p0))]) hx hb eX12_twoRead_7.2.2.1 rfl hl (by decide) rfl (fun ls hl => ?_)
  refine lv_iload_n hx hb eX12_twoRead_7.2.2.2.1 rfl (lv_at hl 1 rfl) ?_
  refine lv_iconst (v := (-1)) hx hb eX12_twoRead_7.2.2.2.2.1 (by decide) ?_
  obtain ⟨hr10, h⟩ := rg_e h
  refine lv_icmp_eq (tgt := 22) hx hb eX12_twoRead_7.2.2.2.2.2.1 (by decide) (fun c11 => ?_) (fun c11 => ?_)
  · rw [show ((-1) : Int32) = i2 (-1) from by decide] at c11
    have h := if_t ((i2_eq (x := r6) (y := (-1)) hr10 (by decide)).mp c11) h
    exact J22 s8 _ _ _ ⟨hP, hS, lv_sub hl [] rfl, h⟩
  · rw [show ((-1) : Int32) = i2 (-1) from by decide] at c11
    have h := if_f (mt (i2_eq (x := r6) (y := (-1)) hr10 (by decide)).mpr c11) h
    refine lv_iload_n hx hb eX12_twoRead_7.2.2.2.2.2.2.1 rfl (lv_at hl 0 rfl) ?_
    refine lv_iconst (v := (-1)) hx hb eX12_twoRead_7.2.2.2.2.2.2.2 (by decide) ?_
    obtain ⟨hr12, h⟩ := rg_e h
    refine lv_icmp_ne (tgt := 26) hx hb eX12_twoRead_19.1 (by decide) (fun c13 => ?_) (fun c13 => ?_)
    · rw [show ((-1) : Int32) = i2 (-1) from by decide] at c13
      have h := if_f (mt (i2_eq (x := r9) (y := (-1)) hr12 (by decide)).mpr c13) h
      refine lv_sipush (v := 256) hx hb eX12_twoRead_19.2.2.2.1 (by decide) ?_
      refine lv_iload_n hx hb eX12_twoRead_19.2.2.2.2.1 rfl (lv_at hl 1 rfl) ?_
      refine lv_imul hx hb eX12_twoRead_19.2.2.2.2.2.1 ?_
      refine z_topi (y := i2 (256 * r6)) (i2_mul 256 r6) ?_
      refine lv_iload_n hx hb eX12_twoRead_19.2.2.2.2.2.2.1 rfl (lv_at hl 0 rfl) ?_
      refine lv_iadd hx hb eX12_twoRead_19.2.2.2.2.2.2.2 ?_
      refine z_topi (y := i2 ((256 * r6) + r9)) (i2_add (256 * r6) r9) ?_
      exact J33 ((256 * r6) + r9, s8) _ _ _ ⟨hP, hS, lv_sub hl [] rfl, h⟩
    · rw [show ((-1) : Int32) = i2 (-1) from by decide] at c13
      have h := if_t ((i2_eq (x := r9) (y := (-1)) hr12 (by decide)).mp c13) h
      exact J22 s8 _ _ _ ⟨hP, hS, lv_sub hl [] rfl, h⟩
set_option maxHeartbeats 4000000 in
set_option maxRecDepth 100000 in
theorem k_x12_laidOf (l : Launch) (D : va_G) (a : Nat → Nat) (p0 : Int) (p1 : Int) (s : MS) (o : Int) (h : m_x12_laidOf p0 p1 s = some o) : yRi l yX12_laidOf cX12_laidOf 3 (some .int) { frames := 0, cells := 0, slots := 0, locals := 0 } D [.ref (a 200), .int (i2 p0), .int (i2 p1)] (RW D a s) (i2 o) := by
  refine Met.ofW (cc := cX12_laidOf) (maxL := 3) (ret := (some .int)) (by decide) rfl ?_
  intro p e s₀ m args below meth c s₁ B hml hv
  obtain ⟨rfl, ⟨hP, hK⟩, hN⟩ := hv
  have hx := B.exec
  have hb := B.bytes
  have hr := B.returns
  have hts := atoms_spec (ws := wz yX12_laidOf cX12_laidOf 3 (some .int)) B.pre
  have ht : ∀ w ∈ lw_gd, w.before _ s₀ = true := fun w h => hts w (List.mem_cons_of_mem _ h)
  have hown : s₀.vm.findClass RX12 = some m.cls := findClass_of_methodNamed B.named
  have hlocks := B.notSynchronized
  have hS : va_S (fun _ => False) s₀.heap s₀.heap [] := va_S.rf
  have hl := lv_entry ([.ref (a 200), .int (i2 p0), .int (i2 p1)]) (n := 3) (Nat.le_of_ble_eq_true rfl)
  rw [lg_entry_eq]
  generalize (lg_sl ([.ref (a 200), .int (i2 p0), .int (i2 p1)]) ++ List.replicate (3 - (lg_sl ([.ref (a 200), .int (i2 p0), .int (i2 p1)])).length) Slot.unset).toArray = ls at hl ⊢
  have hl : lv_has ls 3 [(0, .ref (a 200)), (1, .int (i2 p0)), (2, .int (i2 p1))] := hl
  unfold m_x12_laidOf at h
  refine lv_aload_n hx hb eX12_isLaidBlock_257.2.2.2.2.1 rfl (lv_at hl 0 rfl) ?_
  refine va_get (D := D) (ci := 12) (v := .ref (a 113)) (C := RX12) (T := TX12) (N := 116) hx hb ht inX12 hown hK hP 0 RW_0 rfl 113 (by decide) (ht (.fieldLink RX12 255 "CloneVolumesModel" "laid" "[I") fl_X12_255) (fun _ h9 => h9) mF_113 eX12_isLaidBlock_257.2.2.2.2.2.1 ?_
  refine lv_bipush (v := 17) hx hb eX12_isLaidBlock_257.2.2.2.2.2.2.1 (by decide) ?_
  refine lv_bipush (v := 16) hx hb eX12_isLaidBlock_257.2.2.2.2.2.2.2 (by decide) ?_
  refine lv_iload_n hx hb eX12_laidOf_8.1 rfl (lv_at hl 1 rfl) ?_
  refine lv_imul hx hb eX12_laidOf_8.2.1 ?_
  refine z_topi (y := i2 (16 * p0)) (i2_mul 16 p0) ?_
  refine lv_iadd hx hb eX12_laidOf_8.2.2.1 ?_
  refine z_topi (y := i2 (17 + (16 * p0))) (i2_add 17 (16 * p0)) ?_
  refine lv_iload_n hx hb eX12_laidOf_8.2.2.2.1 rfl (lv_at hl 2 rfl) ?_
  refine lv_iadd hx hb eX12_laidOf_8.2.2.2.2.1 ?_
  refine z_topi (y := i2 ((17 + (16 * p0)) + p1)) (i2_add (17 + (16 * p0)) p1) ?_
  obtain ⟨y1, ey1, iy1, h⟩ := rdI_e h
  refine ya_iald (i := ((17 + (16 * p0)) + p1)) hx hb hK hP 79 0 RW_79 rfl (by decide) ey1 iy1 eX12_laidOf_8.2.2.2.2.2.1 ?_
  obtain rfl := Option.some.inj h
  exact W.iret (v := (i2 y1)) hx hb hr (fun t ht hW => ⟨⟨_, (), rfl, rfl, trivial⟩, hS.F ht⟩) hS.2.2 eX12_laidOf_8.2.2.2.2.2.2.1
set_option maxHeartbeats 4000000 in
set_option maxRecDepth 100000 in
theorem k_x12_isLaidBlock (l : Launch) (D : va_G) (a : Nat → Nat) (p0 : Int) (p1 : Int) (sz : Nat) (s : MS) (o : (Int × MS)) (h : m_x12_isLaidBlock p0 p1 s = some o) : yWi l yX12_isLaidBlock cX12_isLaidBlock 6 (some .boolean) { frames := 2, cells := 0, slots := 0, locals := 120 } D sz [.ref (a 200), .int (i2 p0), .int (i2 p1)] (RW D a s) (RW D a o.2) (i2 o.1) := by
  refine Met.ofW (cc := cX12_isLaidBlock) (maxL := 6) (ret := (some .boolean)) (by decide) rfl ?_
  intro p e s₀ m args below meth c s₁ B hml hv
  obtain ⟨rfl, ⟨hsz, hP, hK, hD0⟩, hN⟩ := hv
  have hx := B.exec
  have hb := B.bytes
  have hr := B.returns
  have hts := atoms_spec (ws := wz yX12_isLaidBlock cX12_isLaidBlock 6 (some .boolean)) B.pre
  have ht : ∀ w ∈ lw_gd, w.before _ s₀ = true := fun w h => hts w (List.mem_cons_of_mem _ h)
  have hown : s₀.vm.findClass RX12 = some m.cls := findClass_of_methodNamed B.named
  have hlocks := B.notSynchronized
  subst hsz
  have hD := hD0.self (sz := s₀.heap.size)
  generalize hAe : va_A (RW D a s) s₀.heap.size = A at hD ⊢
  have hA : ∀ q : Nat, s₀.heap.size ≤ q → A q := fun q h => by rw [← hAe]; exact Or.inr h
  have hS : va_S A s₀.heap s₀.heap [] := va_S.rf
  have hDD : ∀ t : MS, va_D A (RW D a t) := fun t => RW_D t hD
  have hl := lv_entry ([.ref (a 200), .int (i2 p0), .int (i2 p1)]) (n := 6) (Nat.le_of_ble_eq_true rfl)
  rw [lg_entry_eq]
  generalize (lg_sl ([.ref (a 200), .int (i2 p0), .int (i2 p1)]) ++ List.replicate (6 - (lg_sl ([.ref (a 200), .int (i2 p0), .int (i2 p1)])).length) Slot.unset).toArray = ls at hl ⊢
  have hl : lv_has ls 6 [(0, .ref (a 200)), (1, .int (i2 p0)), (2, .int (i2 p1))] := hl
  unfold m_x12_isLaidBlock at h
  refine y_head (pcJ := 262) (σ := Int × MS) (fun u H locs ls => va_P D vwCl (RW D a u.2) H ∧ va_S A s₀.heap H locs ∧ lv_has ls 6 [] ∧ m_x12_isLaidBlock_J262 u.1 u.2 = some o) (fun u => [.int (i2 u.1)]) (fun u H locs ls hI => ?_) (fun J262 => ?_)
  · obtain ⟨hP, hS, hl, h⟩ := hI
    obtain ⟨x1, s2⟩ := u
    have hP : va_P D vwCl (RW D a s2) H := hP
    have hl : lv_has ls 6 [] := hl
    have h : m_x12_isLaidBlock_J262 x1 s2 = some o := h
    unfold m_x12_isLaidBlock_J262 at h
    obtain ⟨hb3, h⟩ := bo_e h
    obtain rfl := Option.some.inj h
    exact W.zret (v := (i2 x1)) hx hb hr (bo_n hb3) (fun t ht hW => ⟨⟨_, (), rfl, rfl, by rw [ht]; exact hP, va_K.moved hW.alike hK, hDD _⟩, hS.F ht⟩) hS.2.2 eX12_isLaidBlock_257.2.2.2.1
  refine y_loop (pcJ := 130) (σ := Int × Int × Int × MS) (fun n u H locs ls => va_P D vwCl (RW D a u.2.2.2) H ∧ va_S A s₀.heap H locs ∧ lv_has ls 6 [(0, .ref (a 200)), (2, .int (i2 u.1)), (3, .int (i2 u.2.1)), (4, .int (i2 u.2.2.1))] ∧ m_x12_isLaidBlock_L130 n u.1 u.2.1 u.2.2.1 u.2.2.2 = some o) (fun u => []) (fun u H locs ls hI => by obtain ⟨_, _, _, h⟩ := hI; cases h) (fun n130 ih130 u H locs ls hI => ?_) (fun J130 => ?_)
  · obtain ⟨hP, hS, hl, h⟩ := hI
    obtain ⟨x4, x5, x6, s7⟩ := u
    have hP : va_P D vwCl (RW D a s7) H := hP
    have hl : lv_has ls 6 [(0, .ref (a 200)), (2, .int (i2 x4)), (3, .int (i2 x5)), (4, .int (i2 x6))] := hl
    have h : m_x12_isLaidBlock_b130 (m_x12_isLaidBlock_L130 n130) x4 x5 x6 s7 = some o := h
    unfold m_x12_isLaidBlock_b130 at h
    refine y_head (pcJ := 215) (σ := Int × Int × Int × Int × MS) (fun u H locs ls => va_P D vwCl (RW D a u.2.2.2.2) H ∧ va_S A s₀.heap H locs ∧ lv_has ls 6 [(0, .ref (a 200)), (2, .int (i2 u.1)), (3, .int (i2 u.2.1)), (4, .int (i2 u.2.2.1))] ∧ m_x12_isLaidBlock_J215 (m_x12_isLaidBlock_L130 n130) u.1 u.2.1 u.2.2.1 u.2.2.2.1 u.2.2.2.2 = some o) (fun u => [.int (i2 u.2.2.2.1)]) (fun u H locs ls hI => ?_) (fun J215 => ?_)
    · obtain ⟨hP, hS, hl, h⟩ := hI
      obtain ⟨x8, x9, x10, x11, s12⟩ := u
      have hP : va_P D vwCl (RW D a s12) H := hP
      have hl : lv_has ls 6 [(0, .ref (a 200)), (2, .int (i2 x8)), (3, .int (i2 x9)), (4, .int (i2 x10))] := hl
      have h : m_x12_isLaidBlock_J215 (m_x12_isLaidBlock_L130 n130) x8 x9 x10 x11 s12 = some o := h
      unfold m_x12_isLaidBlock_J215 at h
      refine lv_istore (lv' := [(5, .int (i2 x11)), (0, .ref (a 200)), (2, .int (i2 x8)), (3, .int (i2 x9)), (4, .int (i2 x10))]) hx hb eX12_isLaidBlock_214.2.1 hl (by decide) rfl (fun ls hl => ?_)
      refine lv_aload_n hx hb eX12_isLaidBlock_214.2.2.1 rfl (lv_at hl 1 rfl) ?_
      refine va_get (D := D) (ci := 12) (v := .ref (a 113)) (C := RX12) (T := TX12) (N := 116) hx hb ht inX12 hown hK hP 0 RW_0 rfl 113 (by decide) (ht (.fieldLink RX12 255 "CloneVolumesModel" "laid" "[I") fl_X12_255) (fun _ h9 => h9) mF_113 eX12_isLaidBlock_214.2.2.2.1 ?_
      refine lv_iload_n hx hb eX12_isLaidBlock_214.2.2.2.2.1 rfl (lv_at hl 3 rfl) ?_
      refine lv_iconst (v := 4) hx hb eX12_isLaidBlock_214.2.2.2.2.2.1 (by decide) ?_
      refine lv_iadd hx hb eX12_isLaidBlock_214.2.2.2.2.2.2.1 ?_
      refine z_topi (y := i2 (x9 + 4)) (i2_add x9 4) ?_
      refine lv_iload hx hb eX12_isLaidBlock_214.2.2.2.2.2.2.2 (lv_at hl 4 rfl) ?_
      refine lv_iadd hx hb eX12_isLaidBlock_226.1 ?_
      refine z_topi (y := i2 ((x9 + 4) + x10)) (i2_add (x9 + 4) x10) ?_
      obtain ⟨y13, ey13, iy13, h⟩ := rdI_e h
      refine ya_iald (i := ((x9 + 4) + x10)) hx hb hK hP 79 0 RW_79 rfl (by decide) ey13 iy13 eX12_isLaidBlock_226.2.1 ?_
      obtain ⟨hr14, h⟩ := rg_e h
      refine lv_i2l (v := i8 y13) hx hb eX12_isLaidBlock_226.2.2.1 (i2_l hr14) ?_
      refine lv_iload hx hb eX12_isLaidBlock_226.2.2.2.1 (lv_at hl 0 rfl) ?_
      obtain ⟨hr15, h⟩ := rg_e h
      refine lv_i2l (v := i8 x11) hx hb eX12_isLaidBlock_226.2.2.2.2.1 (i2_l hr15) ?_
      refine lv_ldc2 (own := RX12) (v := 999) hx hb hown (ht _ cl_X12_624) eX12_isLaidBlock_226.2.2.2.2.2.1 ?_
      obtain ⟨r17, hc16, h⟩ := bn_e h
      refine ycS (r0 := i2 r17) (As := [.long (i8 y13), .long (i8 x11), .long 999]) (rest := []) (n := 3) ⟨hx, hb, hml, hown, ht⟩ (k_x12_isIn l D a y13 x11 999 _ _ hc16) (zgT ml_X12_309 st_X12_isIn in_X12 co_X12_isIn) rfl rfl (by decide +kernel) ⟨Nat.le_of_ble_eq_true rfl, Nat.le_of_ble_eq_true rfl⟩ hN hK hP hS rfl hl.1 rfl (Nat.le_of_ble_eq_true rfl) eX12_isLaidBlock_226.2.2.2.2.2.2.1 ⟨Nat.le_of_ble_eq_true rfl, Nat.le_of_ble_eq_true rfl⟩ (fun H locs hP hS => ?_)
      obtain ⟨hr18, h⟩ := rg_e h
      refine lv_if_ne (tgt := 243) hx hb eX12_isLaidBlock_226.2.2.2.2.2.2.2 (by decide) (fun c19 => ?_) (fun c19 => ?_)
      · have h := if_f (mt (i2_eq (x := r17) (y := 0) hr18 (by decide)).mpr c19) h
        refine lv_iinc (v := i2 (x10 + 1)) (lv' := [(4, .int (i2 (x10 + 1))), (5, .int (i2 x11)), (0, .ref (a 200)), (2, .int (i2 x8)), (3, .int (i2 x9))]) hx hb eX12_isLaidBlock_241.2.2.1 hl (k := 4) rfl (i2_add x10 1) (by decide) rfl (fun ls hl => ?_)
        refine lv_goto (tgt := 130) hx hb eX12_isLaidBlock_241.2.2.2.1 (by decide) ?_
        exact ih130 (x8, x9, x10 + 1, s12) _ _ _ ⟨hP, hS, lv_sub hl [2, 3, 4, 0] rfl, h⟩
      · have h := if_t ((i2_eq (x := r17) (y := 0) hr18 (by decide)).mp c19) h
        refine lv_iconst (v := 0) hx hb eX12_isLaidBlock_241.1 (by decide) ?_
        obtain rfl := Option.some.inj h
        exact W.zret (v := 0) hx hb hr (by decide) (fun t ht hW => ⟨⟨_, (), rfl, rfl, by rw [ht]; exact hP, va_K.moved hW.alike hK, hDD _⟩, hS.F ht⟩) hS.2.2 eX12_isLaidBlock_241.2.1
    refine y_head (pcJ := 202) (σ := Int × Int × Int × MS) (fun u H locs ls => va_P D vwCl (RW D a u.2.2.2) H ∧ va_S A s₀.heap H locs ∧ lv_has ls 6 [(0, .ref (a 200)), (2, .int (i2 u.1)), (3, .int (i2 u.2.1)), (4, .int (i2 u.2.2.1))] ∧ m_x12_isLaidBlock_J202 (m_x12_isLaidBlock_L130 n130) u.1 u.2.1 u.2.2.1 u.2.2.2 = some o) (fun u => []) (fun u H locs ls hI => ?_) (fun J202 => ?_)
    · obtain ⟨hP, hS, hl, h⟩ := hI
      obtain ⟨x20, x21, x22, s23⟩ := u
      have hP : va_P D vwCl (RW D a s23) H := hP
      have hl : lv_has ls 6 [(0, .ref (a 200)), (2, .int (i2 x20)), (3, .int (i2 x21)), (4, .int (i2 x22))] := hl
      have h : m_x12_isLaidBlock_J202 (m_x12_isLaidBlock_L130 n130) x20 x21 x22 s23 = some o := h
      unfold m_x12_isLaidBlock_J202 at h
      refine lv_aload_n hx hb eX12_isLaidBlock_191.2.2.2.2.2.2.2 rfl (lv_at hl 0 rfl) ?_
      refine va_get (D := D) (ci := 12) (v := .ref (a 113)) (C := RX12) (T := TX12) (N := 116) hx hb ht inX12 hown hK hP 0 RW_0 rfl 113 (by decide) (ht (.fieldLink RX12 255 "CloneVolumesModel" "laid" "[I") fl_X12_255) (fun _ h9 => h9) mF_113 eX12_isLaidBlock_203.1 ?_
      refine lv_iload_n hx hb eX12_isLaidBlock_203.2.1 rfl (lv_at hl 2 rfl) ?_
      refine lv_iconst (v := 3) hx hb eX12_isLaidBlock_203.2.2.1 (by decide) ?_
      refine lv_iadd hx hb eX12_isLaidBlock_203.2.2.2.1 ?_
      refine z_topi (y := i2 (x21 + 3)) (i2_add x21 3) ?_
      refine lv_iload hx hb eX12_isLaidBlock_203.2.2.2.2.1 (lv_at hl 3 rfl) ?_
      refine lv_iadd hx hb eX12_isLaidBlock_203.2.2.2.2.2.1 ?_
      refine z_topi (y := i2 ((x21 + 3) + x22)) (i2_add (x21 + 3) x22) ?_
      obtain ⟨y24, ey24, iy24, h⟩ := rdI_e h
      refine ya_iald (i := ((x21 + 3) + x22)) hx hb hK hP 79 0 RW_79 rfl (by decide) ey24 iy24 eX12_isLaidBlock_203.2.2.2.2.2.2.1 ?_
      refine lv_iconst (v := 1) hx hb eX12_isLaidBlock_203.2.2.2.2.2.2.2 (by decide) ?_
      refine lv_iadd hx hb eX12_isLaidBlock_214.1 ?_
      refine z_topi (y := i2 (y24 + 1)) (i2_add y24 1) ?_
      exact J215 (x20, x21, x22, y24 + 1, s23) _ _ _ ⟨hP, hS, lv_sub hl [0, 1, 2, 3] rfl, h⟩
    refine y_head (pcJ := 198) (σ := Int × Int × Int × MS) (fun u H locs ls => va_P D vwCl (RW D a u.2.2.2) H ∧ va_S A s₀.heap H locs ∧ lv_has ls 6 [(0, .ref (a 200)), (2, .int (i2 u.1)), (3, .int (i2 u.2.1)), (4, .int (i2 u.2.2.1))] ∧ m_x12_isLaidBlock_J198 (m_x12_isLaidBlock_L130 n130) u.1 u.2.1 u.2.2.1 u.2.2.2 = some o) (fun u => []) (fun u H locs ls hI => ?_) (fun J198 => ?_)
    · obtain ⟨hP, hS, hl, h⟩ := hI
      obtain ⟨x25, x26, x27, s28⟩ := u
      have hP : va_P D vwCl (RW D a s28) H := hP
      have hl : lv_has ls 6 [(0, .ref (a 200)), (2, .int (i2 x25)), (3, .int (i2 x26)), (4, .int (i2 x27))] := hl
      have h : m_x12_isLaidBlock_J198 (m_x12_isLaidBlock_L130 n130) x25 x26 x27 s28 = some o := h
      unfold m_x12_isLaidBlock_J198 at h
      refine lv_iconst (v := 0) hx hb eX12_isLaidBlock_191.2.2.2.2.2.1 (by decide) ?_
      refine lv_goto (tgt := 215) hx hb eX12_isLaidBlock_191.2.2.2.2.2.2.1 (by decide) ?_
      exact J215 (x25, x26, x27, 0, s28) _ _ _ ⟨hP, hS, lv_sub hl [0, 1, 2, 3] rfl, h⟩
    refine lv_iload hx hb eX12_isLaidBlock_126.2.2.2.1 (lv_at hl 3 rfl) ?_
    refine lv_aload_n hx hb eX12_isLaidBlock_126.2.2.2.2.1 rfl (lv_at hl 0 rfl) ?_
    refine va_get (D := D) (ci := 12) (v := .ref (a 113)) (C := RX12) (T := TX12) (N := 116) hx hb ht inX12 hown hK hP 0 RW_0 rfl 113 (by decide) (ht (.fieldLink RX12 255 "CloneVolumesModel" "laid" "[I") fl_X12_255) (fun _ h9 => h9) mF_113 eX12_isLaidBlock_126.2.2.2.2.2.1 ?_
    refine lv_iload_n hx hb eX12_isLaidBlock_126.2.2.2.2.2.2.1 rfl (lv_at hl 2 rfl) ?_
    refine lv_iconst (v := 3) hx hb eX12_isLaidBlock_126.2.2.2.2.2.2.2 (by decide) ?_
    refine lv_iadd hx hb eX12_isLaidBlock_138.1 ?_
    refine z_topi (y := i2 (x5 + 3)) (i2_add x5 3) ?_
    obtain ⟨y29, ey29, iy29, h⟩ := rdI_e h
    refine ya_iald (i := (x5 + 3)) hx hb hK hP 79 0 RW_79 rfl (by decide) ey29 iy29 eX12_isLaidBlock_138.2.1 ?_
    obtain ⟨hr30, h⟩ := rg_e h
    obtain ⟨hr31, h⟩ := rg_e h
    refine lv_icmp_ge (tgt := 249) hx hb eX12_isLaidBlock_138.2.2.1 (by decide) (fun c32 => ?_) (fun c32 => ?_)
    · have h := if_t ((i2_le (x := y29) (y := x6) hr31 hr30).mp c32) h
      refine lv_aload_n hx hb eX12_isLaidBlock_241.2.2.2.2.1 rfl (lv_at hl 0 rfl) ?_
      refine va_get (D := D) (ci := 12) (v := .int (i2 (gI s7 114))) (C := RX12) (T := TX12) (N := 116) hx hb ht inX12 hown hK hP 0 RW_0 rfl 114 (by decide) (ht (.fieldLink RX12 803 "CloneVolumesModel" "read0" "I") fl_X12_803) (fun _ h9 => h9) mF_114 eX12_isLaidBlock_241.2.2.2.2.2.1 ?_
      refine lv_iload_n hx hb eX12_isLaidBlock_241.2.2.2.2.2.2.1 rfl (lv_at hl 1 rfl) ?_
      obtain ⟨hr33, h⟩ := rg_e h
      obtain ⟨hr34, h⟩ := rg_e h
      refine lv_icmp_gt (tgt := 261) hx hb eX12_isLaidBlock_241.2.2.2.2.2.2.2 (by decide) (fun c35 => ?_) (fun c35 => ?_)
      · have h := if_t ((i2_lt (x := x4) (y := (gI s7 114)) hr34 hr33).mp c35) h
        refine lv_iconst (v := 0) hx hb eX12_isLaidBlock_257.2.2.1 (by decide) ?_
        exact J262 (0, s7) _ _ _ ⟨hP, hS, lv_sub hl [] rfl, h⟩
      · have h := if_f (mt (i2_lt (x := x4) (y := (gI s7 114)) hr34 hr33).mpr c35) h
        refine lv_iconst (v := 1) hx hb eX12_isLaidBlock_257.1 (by decide) ?_
        refine lv_goto (tgt := 262) hx hb eX12_isLaidBlock_257.2.1 (by decide) ?_
        exact J262 (1, s7) _ _ _ ⟨hP, hS, lv_sub hl [] rfl, h⟩
    · have h := if_f (mt (i2_le (x := y29) (y := x6) hr31 hr30).mpr c32) h
      refine lv_aload_n hx hb eX12_isLaidBlock_138.2.2.2.1 rfl (lv_at hl 0 rfl) ?_
      refine va_get (D := D) (ci := 12) (v := .ref (a 113)) (C := RX12) (T := TX12) (N := 116) hx hb ht inX12 hown hK hP 0 RW_0 rfl 113 (by decide) (ht (.fieldLink RX12 255 "CloneVolumesModel" "laid" "[I") fl_X12_255) (fun _ h9 => h9) mF_113 eX12_isLaidBlock_138.2.2.2.2.1 ?_
      refine lv_iload_n hx hb eX12_isLaidBlock_138.2.2.2.2.2.1 rfl (lv_at hl 2 rfl) ?_
      refine lv_iconst (v := 4) hx hb eX12_isLaidBlock_138.2.2.2.2.2.2.1 (by decide) ?_
      refine lv_iadd hx hb eX12_isLaidBlock_138.2.2.2.2.2.2.2 ?_
      refine z_topi (y := i2 (x5 + 4)) (i2_add x5 4) ?_
      refine lv_iload hx hb eX12_isLaidBlock_150.1 (lv_at hl 3 rfl) ?_
      refine lv_iadd hx hb eX12_isLaidBlock_150.2.1 ?_
      refine z_topi (y := i2 ((x5 + 4) + x6)) (i2_add (x5 + 4) x6) ?_
      refine lv_aload_n hx hb eX12_isLaidBlock_150.2.2.1 rfl (lv_at hl 0 rfl) ?_
      refine lv_iload_n hx hb eX12_isLaidBlock_150.2.2.2.1 rfl (lv_at hl 1 rfl) ?_
      obtain ⟨⟨r38, s37⟩, hc36, h⟩ := bn_e h
      refine ywV (r0 := i2 r38) (As := [.int (i2 x4)]) (rest := [.int (i2 ((x5 + 4) + x6)), .ref (a 113)]) (C := RX12) (n := 1) (ws' := RW D a s37) ⟨hx, hb, hml, hown, ht⟩ (k_x12_twoRead l D a x4 _ _ _ hc36) (zgV ml_X12_809 im_X12_twoRead se_X12_twoRead in_X12 co_X12_twoRead) rfl rfl (by decide +kernel) ⟨Nat.le_of_ble_eq_true rfl, Nat.le_of_ble_eq_true rfl⟩ hN hK hP (hDD _) hS hA 0 RW_0 rfl rfl rfl hl.1 rfl (Nat.le_of_ble_eq_true rfl) eX12_isLaidBlock_150.2.2.2.2.1 ⟨Nat.le_of_ble_eq_true rfl, Nat.le_of_ble_eq_true rfl⟩ (fun H locs hP hS => ?_)
      obtain ⟨hi39, h⟩ := inb_e h
      refine ya_iast (i := ((x5 + 4) + x6)) (x := r38) hx hb hK hP (hDD _) hS 79 0 RW_79 rfl (by decide) hi39 eX12_isLaidBlock_150.2.2.2.2.2.1 (RW_w79 _) (fun H locs hP hS => ?_)
      obtain ⟨s40, hs40, h⟩ := st_e h
      rw [hs40] at hP
      refine lv_aload_n hx hb eX12_isLaidBlock_150.2.2.2.2.2.2.1 rfl (lv_at hl 0 rfl) ?_
      refine va_get (D := D) (ci := 12) (v := .ref (a 113)) (C := RX12) (T := TX12) (N := 116) hx hb ht inX12 hown hK hP 0 RW_0 rfl 113 (by decide) (ht (.fieldLink RX12 255 "CloneVolumesModel" "laid" "[I") fl_X12_255) (fun _ h9 => h9) mF_113 eX12_isLaidBlock_150.2.2.2.2.2.2.2 ?_
      refine lv_iload_n hx hb eX12_isLaidBlock_163.1 rfl (lv_at hl 2 rfl) ?_
      refine lv_bipush (v := 10) hx hb eX12_isLaidBlock_163.2.1 (by decide) ?_
      refine lv_iadd hx hb eX12_isLaidBlock_163.2.2.1 ?_
      refine z_topi (y := i2 (x5 + 10)) (i2_add x5 10) ?_
      refine lv_iload hx hb eX12_isLaidBlock_163.2.2.2.1 (lv_at hl 3 rfl) ?_
      refine lv_iadd hx hb eX12_isLaidBlock_163.2.2.2.2.1 ?_
      refine z_topi (y := i2 ((x5 + 10) + x6)) (i2_add (x5 + 10) x6) ?_
      refine lv_aload_n hx hb eX12_isLaidBlock_163.2.2.2.2.2.1 rfl (lv_at hl 0 rfl) ?_
      refine lv_iload_n hx hb eX12_isLaidBlock_163.2.2.2.2.2.2.1 rfl (lv_at hl 1 rfl) ?_
      obtain ⟨⟨r43, s42⟩, hc41, h⟩ := bn_e h
      refine ywV (r0 := i2 r43) (As := [.int (i2 x4)]) (rest := [.int (i2 ((x5 + 10) + x6)), .ref (a 113)]) (C := RX12) (n := 1) (ws' := RW D a s42) ⟨hx, hb, hml, hown, ht⟩ (k_x12_twoRead l D a x4 _ _ _ hc41) (zgV ml_X12_809 im_X12_twoRead se_X12_twoRead in_X12 co_X12_twoRead) rfl rfl (by decide +kernel) ⟨Nat.le_of_ble_eq_true rfl, Nat.le_of_ble_eq_true rfl⟩ hN hK hP (hDD _) hS hA 0 RW_0 rfl rfl rfl hl.1 rfl (Nat.le_of_ble_eq_true rfl) eX12_isLaidBlock_163.2.2.2.2.2.2.2 ⟨Nat.le_of_ble_eq_true rfl, Nat.le_of_ble_eq_true rfl⟩ (fun H locs hP hS => ?_)
      obtain ⟨hi44, h⟩ := inb_e h
      refine ya_iast (i := ((x5 + 10) + x6)) (x := r43) hx hb hK hP (hDD _) hS 79 0 RW_79 rfl (by decide) hi44 eX12_isLaidBlock_175.1 (RW_w79 _) (fun H locs hP hS => ?_)
      obtain ⟨s45, hs45, h⟩ := st_e h
      rw [hs45] at hP
      refine lv_iload hx hb eX12_isLaidBlock_175.2.1 (lv_at hl 3 rfl) ?_
      obtain ⟨hr46, h⟩ := rg_e h
      refine lv_if_eq (tgt := 198) hx hb eX12_isLaidBlock_175.2.2.1 (by decide) (fun c47 => ?_) (fun c47 => ?_)
      · have h := if_t ((i2_eq (x := x6) (y := 0) hr46 (by decide)).mp c47) h
        exact J198 (x4, x5, x6, s45) _ _ _ ⟨hP, hS, lv_sub hl [0, 1, 2, 3] rfl, h⟩
      · have h := if_f (mt (i2_eq (x := x6) (y := 0) hr46 (by decide)).mpr c47) h
        refine lv_iload hx hb eX12_isLaidBlock_175.2.2.2.1 (lv_at hl 3 rfl) ?_
        refine lv_iconst (v := 1) hx hb eX12_isLaidBlock_175.2.2.2.2.1 (by decide) ?_
        obtain ⟨hr48, h⟩ := rg_e h
        refine lv_icmp_ne (tgt := 202) hx hb eX12_isLaidBlock_175.2.2.2.2.2.1 (by decide) (fun c49 => ?_) (fun c49 => ?_)
        · have h := if_f (mt (i2_eq (x := x6) (y := 1) hr48 (by decide)).mpr c49) h
          exact J202 (x4, x5, x6, s45) _ _ _ ⟨hP, hS, lv_sub hl [0, 1, 2, 3] rfl, h⟩
        · have h := if_t ((i2_eq (x := x6) (y := 1) hr48 (by decide)).mp c49) h
          refine lv_aload_n hx hb eX12_isLaidBlock_175.2.2.2.2.2.2.1 rfl (lv_at hl 0 rfl) ?_
          refine va_get (D := D) (ci := 12) (v := .ref (a 113)) (C := RX12) (T := TX12) (N := 116) hx hb ht inX12 hown hK hP 0 RW_0 rfl 113 (by decide) (ht (.fieldLink RX12 255 "CloneVolumesModel" "laid" "[I") fl_X12_255) (fun _ h9 => h9) mF_113 eX12_isLaidBlock_175.2.2.2.2.2.2.2 ?_
          refine lv_iload_n hx hb eX12_isLaidBlock_191.1 rfl (lv_at hl 2 rfl) ?_
          refine lv_iconst (v := 2) hx hb eX12_isLaidBlock_191.2.1 (by decide) ?_
          refine lv_iadd hx hb eX12_isLaidBlock_191.2.2.1 ?_
          refine z_topi (y := i2 (x5 + 2)) (i2_add x5 2) ?_
          obtain ⟨y50, ey50, iy50, h⟩ := rdI_e h
          refine ya_iald (i := (x5 + 2)) hx hb hK hP 79 0 RW_79 rfl (by decide) ey50 iy50 eX12_isLaidBlock_191.2.2.2.1 ?_
          obtain ⟨hr51, h⟩ := rg_e h
          refine lv_if_le (tgt := 202) hx hb eX12_isLaidBlock_191.2.2.2.2.1 (by decide) (fun c52 => ?_) (fun c52 => ?_)
          · have h := if_t ((i2_le (x := y50) (y := 0) hr51 (by decide)).mp c52) h
            exact J202 (x4, x5, x6, s45) _ _ _ ⟨hP, hS, lv_sub hl [0, 1, 2, 3] rfl, h⟩
          · have h := if_f (mt (i2_le (x := y50) (y := 0) hr51 (by decide)).mpr c52) h
            exact J198 (x4, x5, x6, s45) _ _ _ ⟨hP, hS, lv_sub hl [0, 1, 2, 3] rfl, h⟩
  refine y_loop (pcJ := 11) (σ := Int × Int × Int × MS) (fun n u H locs ls => va_P D vwCl (RW D a u.2.2.2) H ∧ va_S A s₀.heap H locs ∧ lv_has ls 6 [(0, .ref (a 200)), (2, .int (i2 u.1)), (3, .int (i2 u.2.1)), (4, .int (i2 u.2.2.1))] ∧ m_x12_isLaidBlock_L11 n u.1 u.2.1 u.2.2.1 u.2.2.2 = some o) (fun u => []) (fun u H locs ls hI => by obtain ⟨_, _, _, h⟩ := hI; cases h) (fun n11 ih11 u H locs ls hI => ?_) (fun J11 => ?_)
  · obtain ⟨hP, hS, hl, h⟩ := hI
    obtain ⟨x53, x54, x55, s56⟩ := u
    have hP : va_P D vwCl (RW D a s56) H := hP
    have hl : lv_has ls 6 [(0, .ref (a 200)), (2, .int (i2 x53)), (3, .int (i2 x54)), (4, .int (i2 x55))] := hl
    have h : m_x12_isLaidBlock_b11 (m_x12_isLaidBlock_L11 n11) x53 x54 x55 s56 = some o := h
    unfold m_x12_isLaidBlock_b11 at h
    refine lv_iload hx hb eX12_isLaidBlock_4.2.2.2.2.2.2.1 (lv_at hl 3 rfl) ?_
    refine lv_bipush (v := 16) hx hb eX12_isLaidBlock_4.2.2.2.2.2.2.2 (by decide) ?_
    obtain ⟨hr57, h⟩ := rg_e h
    refine lv_icmp_ge (tgt := 34) hx hb eX12_isLaidBlock_15.1 (by decide) (fun c58 => ?_) (fun c58 => ?_)
    · have h := if_t ((i2_le (x := 16) (y := x55) (by decide) hr57).mp c58) h
      refine lv_aload_n hx hb eX12_isLaidBlock_28.2.2.1 rfl (lv_at hl 0 rfl) ?_
      refine va_get (D := D) (ci := 12) (v := .ref (a 113)) (C := RX12) (T := TX12) (N := 116) hx hb ht inX12 hown hK hP 0 RW_0 rfl 113 (by decide) (ht (.fieldLink RX12 255 "CloneVolumesModel" "laid" "[I") fl_X12_255) (fun _ h9 => h9) mF_113 eX12_isLaidBlock_28.2.2.2.1 ?_
      refine lv_iload_n hx hb eX12_isLaidBlock_28.2.2.2.2.1 rfl (lv_at hl 2 rfl) ?_
      refine lv_aload_n hx hb eX12_isLaidBlock_28.2.2.2.2.2.1 rfl (lv_at hl 0 rfl) ?_
      refine lv_iload_n hx hb eX12_isLaidBlock_28.2.2.2.2.2.2.1 rfl (lv_at hl 1 rfl) ?_
      obtain ⟨⟨r61, s60⟩, hc59, h⟩ := bn_e h
      refine ywV (r0 := i2 r61) (As := [.int (i2 x53)]) (rest := [.int (i2 x54), .ref (a 113)]) (C := RX12) (n := 1) (ws' := RW D a s60) ⟨hx, hb, hml, hown, ht⟩ (k_x12_byteRead l D a x53 _ _ _ hc59) (zgV ml_X12_806 im_X12_byteRead se_X12_byteRead in_X12 co_X12_byteRead) rfl rfl (by decide +kernel) ⟨Nat.le_of_ble_eq_true rfl, Nat.le_of_ble_eq_true rfl⟩ hN hK hP (hDD _) hS hA 0 RW_0 rfl rfl rfl hl.1 rfl (Nat.le_of_ble_eq_true rfl) eX12_isLaidBlock_28.2.2.2.2.2.2.2 ⟨Nat.le_of_ble_eq_true rfl, Nat.le_of_ble_eq_true rfl⟩ (fun H locs hP hS => ?_)
      obtain ⟨hi62, h⟩ := inb_e h
      refine ya_iast (i := x54) (x := r61) hx hb hK hP (hDD _) hS 79 0 RW_79 rfl (by decide) hi62 eX12_isLaidBlock_44.1 (RW_w79 _) (fun H locs hP hS => ?_)
      obtain ⟨s63, hs63, h⟩ := st_e h
      rw [hs63] at hP
      refine lv_aload_n hx hb eX12_isLaidBlock_44.2.1 rfl (lv_at hl 0 rfl) ?_
      refine va_get (D := D) (ci := 12) (v := .ref (a 113)) (C := RX12) (T := TX12) (N := 116) hx hb ht inX12 hown hK hP 0 RW_0 rfl 113 (by decide) (ht (.fieldLink RX12 255 "CloneVolumesModel" "laid" "[I") fl_X12_255) (fun _ h9 => h9) mF_113 eX12_isLaidBlock_44.2.2.1 ?_
      refine lv_iload_n hx hb eX12_isLaidBlock_44.2.2.2.1 rfl (lv_at hl 2 rfl) ?_
      refine lv_iconst (v := 1) hx hb eX12_isLaidBlock_44.2.2.2.2.1 (by decide) ?_
      refine lv_iadd hx hb eX12_isLaidBlock_44.2.2.2.2.2.1 ?_
      refine z_topi (y := i2 (x54 + 1)) (i2_add x54 1) ?_
      refine lv_aload_n hx hb eX12_isLaidBlock_44.2.2.2.2.2.2.1 rfl (lv_at hl 0 rfl) ?_
      refine lv_iload_n hx hb eX12_isLaidBlock_44.2.2.2.2.2.2.2 rfl (lv_at hl 1 rfl) ?_
      obtain ⟨⟨r66, s65⟩, hc64, h⟩ := bn_e h
      refine ywV (r0 := i2 r66) (As := [.int (i2 x53)]) (rest := [.int (i2 (x54 + 1)), .ref (a 113)]) (C := RX12) (n := 1) (ws' := RW D a s65) ⟨hx, hb, hml, hown, ht⟩ (k_x12_byteRead l D a x53 _ _ _ hc64) (zgV ml_X12_806 im_X12_byteRead se_X12_byteRead in_X12 co_X12_byteRead) rfl rfl (by decide +kernel) ⟨Nat.le_of_ble_eq_true rfl, Nat.le_of_ble_eq_true rfl⟩ hN hK hP (hDD _) hS hA 0 RW_0 rfl rfl rfl hl.1 rfl (Nat.le_of_ble_eq_true rfl) eX12_isLaidBlock_54.1 ⟨Nat.le_of_ble_eq_true rfl, Nat.le_of_ble_eq_true rfl⟩ (fun H locs hP hS => ?_)
      obtain ⟨hi67, h⟩ := inb_e h
      refine ya_iast (i := (x54 + 1)) (x := r66) hx hb hK hP (hDD _) hS 79 0 RW_79 rfl (by decide) hi67 eX12_isLaidBlock_54.2.1 (RW_w79 _) (fun H locs hP hS => ?_)
      obtain ⟨s68, hs68, h⟩ := st_e h
      rw [hs68] at hP
      refine lv_aload_n hx hb eX12_isLaidBlock_54.2.2.1 rfl (lv_at hl 0 rfl) ?_
      refine va_get (D := D) (ci := 12) (v := .ref (a 113)) (C := RX12) (T := TX12) (N := 116) hx hb ht inX12 hown hK hP 0 RW_0 rfl 113 (by decide) (ht (.fieldLink RX12 255 "CloneVolumesModel" "laid" "[I") fl_X12_255) (fun _ h9 => h9) mF_113 eX12_isLaidBlock_54.2.2.2.1 ?_
      refine lv_iload_n hx hb eX12_isLaidBlock_54.2.2.2.2.1 rfl (lv_at hl 2 rfl) ?_
      obtain ⟨y69, ey69, iy69, h⟩ := rdI_e h
      refine ya_iald (i := x54) hx hb hK hP 79 0 RW_79 rfl (by decide) ey69 iy69 eX12_isLaidBlock_54.2.2.2.2.2.1 ?_
      refine lv_aload_n hx hb eX12_isLaidBlock_54.2.2.2.2.2.2.1 rfl (lv_at hl 0 rfl) ?_
      refine va_get (D := D) (ci := 12) (v := .ref (a 113)) (C := RX12) (T := TX12) (N := 116) hx hb ht inX12 hown hK hP 0 RW_0 rfl 113 (by decide) (ht (.fieldLink RX12 255 "CloneVolumesModel" "laid" "[I") fl_X12_255) (fun _ h9 => h9) mF_113 eX12_isLaidBlock_54.2.2.2.2.2.2.2 ?_
      refine lv_iload_n hx hb eX12_isLaidBlock_68.1 rfl (lv_at hl 2 rfl) ?_
      refine lv_iconst (v := 1) hx hb eX12_isLaidBlock_68.2.1 (by decide) ?_
      refine lv_iadd hx hb eX12_isLaidBlock_68.2.2.1 ?_
      refine z_topi (y := i2 (x54 + 1)) (i2_add x54 1) ?_
      obtain ⟨y70, ey70, iy70, h⟩ := rdI_e h
      refine ya_iald (i := (x54 + 1)) hx hb hK hP 79 0 RW_79 rfl (by decide) ey70 iy70 eX12_isLaidBlock_68.2.2.2.1 ?_
      refine lv_iadd hx hb eX12_isLaidBlock_68.2.2.2.2.1 ?_
      refine z_topi (y := i2 (y69 + y70)) (i2_add y69 y70) ?_
      obtain ⟨hr71, h⟩ := rg_e h
      refine lv_if_ne (tgt := 78) hx hb eX12_isLaidBlock_68.2.2.2.2.2.1 (by decide) (fun c72 => ?_) (fun c72 => ?_)
      · have h := if_f (mt (i2_eq (x := (y69 + y70)) (y := 0) hr71 (by decide)).mpr c72) h
        refine lv_aload_n hx hb eX12_isLaidBlock_78.1 rfl (lv_at hl 0 rfl) ?_
        refine va_get (D := D) (ci := 12) (v := .ref (a 113)) (C := RX12) (T := TX12) (N := 116) hx hb ht inX12 hown hK hP 0 RW_0 rfl 113 (by decide) (ht (.fieldLink RX12 255 "CloneVolumesModel" "laid" "[I") fl_X12_255) (fun _ h9 => h9) mF_113 eX12_isLaidBlock_78.2.1 ?_
        refine lv_iload_n hx hb eX12_isLaidBlock_78.2.2.1 rfl (lv_at hl 2 rfl) ?_
        refine lv_iconst (v := 2) hx hb eX12_isLaidBlock_78.2.2.2.1 (by decide) ?_
        refine lv_iadd hx hb eX12_isLaidBlock_78.2.2.2.2.1 ?_
        refine z_topi (y := i2 (x54 + 2)) (i2_add x54 2) ?_
        refine lv_aload_n hx hb eX12_isLaidBlock_78.2.2.2.2.2.1 rfl (lv_at hl 0 rfl) ?_
        refine lv_iload_n hx hb eX12_isLaidBlock_78.2.2.2.2.2.2.1 rfl (lv_at hl 1 rfl) ?_
        obtain ⟨⟨r75, s74⟩, hc73, h⟩ := bn_e h
        refine ywV (r0 := i2 r75) (As := [.int (i2 x53)]) (rest := [.int (i2 (x54 + 2)), .ref (a 113)]) (C := RX12) (n := 1) (ws' := RW D a s74) ⟨hx, hb, hml, hown, ht⟩ (k_x12_byteRead l D a x53 _ _ _ hc73) (zgV ml_X12_806 im_X12_byteRead se_X12_byteRead in_X12 co_X12_byteRead) rfl rfl (by decide +kernel) ⟨Nat.le_of_ble_eq_true rfl, Nat.le_of_ble_eq_true rfl⟩ hN hK hP (hDD _) hS hA 0 RW_0 rfl rfl rfl hl.1 rfl (Nat.le_of_ble_eq_true rfl) eX12_isLaidBlock_78.2.2.2.2.2.2.2 ⟨Nat.le_of_ble_eq_true rfl, Nat.le_of_ble_eq_true rfl⟩ (fun H locs hP hS => ?_)
        obtain ⟨hi76, h⟩ := inb_e h
        refine ya_iast (i := (x54 + 2)) (x := r75) hx hb hK hP (hDD _) hS 79 0 RW_79 rfl (by decide) hi76 eX12_isLaidBlock_90.1 (RW_w79 _) (fun H locs hP hS => ?_)
        obtain ⟨s77, hs77, h⟩ := st_e h
        rw [hs77] at hP
        refine lv_aload_n hx hb eX12_isLaidBlock_90.2.1 rfl (lv_at hl 0 rfl) ?_
        refine va_get (D := D) (ci := 12) (v := .ref (a 113)) (C := RX12) (T := TX12) (N := 116) hx hb ht inX12 hown hK hP 0 RW_0 rfl 113 (by decide) (ht (.fieldLink RX12 255 "CloneVolumesModel" "laid" "[I") fl_X12_255) (fun _ h9 => h9) mF_113 eX12_isLaidBlock_90.2.2.1 ?_
        refine lv_iload_n hx hb eX12_isLaidBlock_90.2.2.2.1 rfl (lv_at hl 2 rfl) ?_
        refine lv_iconst (v := 3) hx hb eX12_isLaidBlock_90.2.2.2.2.1 (by decide) ?_
        refine lv_iadd hx hb eX12_isLaidBlock_90.2.2.2.2.2.1 ?_
        refine z_topi (y := i2 (x54 + 3)) (i2_add x54 3) ?_
        refine lv_aload_n hx hb eX12_isLaidBlock_90.2.2.2.2.2.2.1 rfl (lv_at hl 0 rfl) ?_
        refine lv_iload_n hx hb eX12_isLaidBlock_90.2.2.2.2.2.2.2 rfl (lv_at hl 1 rfl) ?_
        obtain ⟨⟨r80, s79⟩, hc78, h⟩ := bn_e h
        refine ywV (r0 := i2 r80) (As := [.int (i2 x53)]) (rest := [.int (i2 (x54 + 3)), .ref (a 113)]) (C := RX12) (n := 1) (ws' := RW D a s79) ⟨hx, hb, hml, hown, ht⟩ (k_x12_byteRead l D a x53 _ _ _ hc78) (zgV ml_X12_806 im_X12_byteRead se_X12_byteRead in_X12 co_X12_byteRead) rfl rfl (by decide +kernel) ⟨Nat.le_of_ble_eq_true rfl, Nat.le_of_ble_eq_true rfl⟩ hN hK hP (hDD _) hS hA 0 RW_0 rfl rfl rfl hl.1 rfl (Nat.le_of_ble_eq_true rfl) eX12_isLaidBlock_100.1 ⟨Nat.le_of_ble_eq_true rfl, Nat.le_of_ble_eq_true rfl⟩ (fun H locs hP hS => ?_)
        obtain ⟨hi81, h⟩ := inb_e h
        refine ya_iast (i := (x54 + 3)) (x := r80) hx hb hK hP (hDD _) hS 79 0 RW_79 rfl (by decide) hi81 eX12_isLaidBlock_100.2.1 (RW_w79 _) (fun H locs hP hS => ?_)
        obtain ⟨s82, hs82, h⟩ := st_e h
        rw [hs82] at hP
        refine lv_aload_n hx hb eX12_isLaidBlock_100.2.2.1 rfl (lv_at hl 0 rfl) ?_
        refine va_get (D := D) (ci := 12) (v := .ref (a 113)) (C := RX12) (T := TX12) (N := 116) hx hb ht inX12 hown hK hP 0 RW_0 rfl 113 (by decide) (ht (.fieldLink RX12 255 "CloneVolumesModel" "laid" "[I") fl_X12_255) (fun _ h9 => h9) mF_113 eX12_isLaidBlock_100.2.2.2.1 ?_
        refine lv_iload_n hx hb eX12_isLaidBlock_100.2.2.2.2.1 rfl (lv_at hl 2 rfl) ?_
        refine lv_iconst (v := 3) hx hb eX12_isLaidBlock_100.2.2.2.2.2.1 (by decide) ?_
        refine lv_iadd hx hb eX12_isLaidBlock_100.2.2.2.2.2.2.1 ?_
        refine z_topi (y := i2 (x54 + 3)) (i2_add x54 3) ?_
        obtain ⟨y83, ey83, iy83, h⟩ := rdI_e h
        refine ya_iald (i := (x54 + 3)) hx hb hK hP 79 0 RW_79 rfl (by decide) ey83 iy83 eX12_isLaidBlock_100.2.2.2.2.2.2.2 ?_
        obtain ⟨hr84, h⟩ := rg_e h
        refine lv_i2l (v := i8 y83) hx hb eX12_isLaidBlock_112.1 (i2_l hr84) ?_
        refine lv_lconst (v := 1) hx hb eX12_isLaidBlock_112.2.1 (by decide) ?_
        refine lv_aload_n hx hb eX12_isLaidBlock_112.2.2.1 rfl (lv_at hl 0 rfl) ?_
        obtain ⟨r86, hc85, h⟩ := bn_e h
        refine ycV (r0 := i2 r86) (As := []) (rest := [.long 1, .long (i8 y83)]) (C := RX12) (n := 0) ⟨hx, hb, hml, hown, ht⟩ (k_x12_roomOf l D a _ _ hc85) (zgV ml_X12_523 im_X12_roomOf se_X12_roomOf in_X12 co_X12_roomOf) rfl rfl (by decide +kernel) ⟨Nat.le_of_ble_eq_true rfl, Nat.le_of_ble_eq_true rfl⟩ hN hK hP hS 0 RW_0 rfl rfl rfl hl.1 rfl (Nat.le_of_ble_eq_true rfl) eX12_isLaidBlock_112.2.2.2.1 ⟨Nat.le_of_ble_eq_true rfl, Nat.le_of_ble_eq_true rfl⟩ (fun H locs hP hS => ?_)
        obtain ⟨hr87, h⟩ := rg_e h
        refine lv_i2l (v := i8 r86) hx hb eX12_isLaidBlock_112.2.2.2.2.1 (i2_l hr87) ?_
        obtain ⟨r89, hc88, h⟩ := bn_e h
        refine ycS (r0 := i2 r89) (As := [.long (i8 y83), .long 1, .long (i8 r86)]) (rest := []) (n := 3) ⟨hx, hb, hml, hown, ht⟩ (k_x12_isIn l D a y83 1 r86 _ _ hc88) (zgT ml_X12_309 st_X12_isIn in_X12 co_X12_isIn) rfl rfl (by decide +kernel) ⟨Nat.le_of_ble_eq_true rfl, Nat.le_of_ble_eq_true rfl⟩ hN hK hP hS rfl hl.1 rfl (Nat.le_of_ble_eq_true rfl) eX12_isLaidBlock_112.2.2.2.2.2.1 ⟨Nat.le_of_ble_eq_true rfl, Nat.le_of_ble_eq_true rfl⟩ (fun H locs hP hS => ?_)
        obtain ⟨hr90, h⟩ := rg_e h
        refine lv_if_ne (tgt := 127) hx hb eX12_isLaidBlock_112.2.2.2.2.2.2.1 (by decide) (fun c91 => ?_) (fun c91 => ?_)
        · have h := if_f (mt (i2_eq (x := r89) (y := 0) hr90 (by decide)).mpr c91) h
          refine lv_iconst (v := 0) hx hb eX12_isLaidBlock_126.2.1 (by decide) ?_
          refine lv_istore (lv' := [(4, .int 0), (0, .ref (a 200)), (2, .int (i2 x53)), (3, .int (i2 x54))]) hx hb eX12_isLaidBlock_126.2.2.1 hl (by decide) rfl (fun ls hl => ?_)
          exact J130 FU (x53, x54, 0, s82) _ _ _ ⟨hP, hS, lv_sub hl [1, 2, 3, 0] rfl, h⟩
        · have h := if_t ((i2_eq (x := r89) (y := 0) hr90 (by decide)).mp c91) h
          refine lv_iconst (v := 0) hx hb eX12_isLaidBlock_112.2.2.2.2.2.2.2 (by decide) ?_
          obtain rfl := Option.some.inj h
          exact W.zret (v := 0) hx hb hr (by decide) (fun t ht hW => ⟨⟨_, (), rfl, rfl, by rw [ht]; exact hP, va_K.moved hW.alike hK, hDD _⟩, hS.F ht⟩) hS.2.2 eX12_isLaidBlock_126.1
      · have h := if_t ((i2_eq (x := (y69 + y70)) (y := 0) hr71 (by decide)).mp c72) h
        refine lv_iconst (v := 1) hx hb eX12_isLaidBlock_68.2.2.2.2.2.2.1 (by decide) ?_
        obtain rfl := Option.some.inj h
        exact W.zret (v := 1) hx hb hr (by decide) (fun t ht hW => ⟨⟨_, (), rfl, rfl, by rw [ht]; exact hP, va_K.moved hW.alike hK, hDD _⟩, hS.F ht⟩) hS.2.2 eX12_isLaidBlock_68.2.2.2.2.2.2.2
    · have h := if_f (mt (i2_le (x := 16) (y := x55) (by decide) hr57).mpr c58) h
      refine lv_aload_n hx hb eX12_isLaidBlock_15.2.1 rfl (lv_at hl 0 rfl) ?_
      refine va_get (D := D) (ci := 12) (v := .ref (a 113)) (C := RX12) (T := TX12) (N := 116) hx hb ht inX12 hown hK hP 0 RW_0 rfl 113 (by decide) (ht (.fieldLink RX12 255 "CloneVolumesModel" "laid" "[I") fl_X12_255) (fun _ h9 => h9) mF_113 eX12_isLaidBlock_15.2.2.1 ?_
      refine lv_iload_n hx hb eX12_isLaidBlock_15.2.2.2.1 rfl (lv_at hl 2 rfl) ?_
      refine lv_iload hx hb eX12_isLaidBlock_15.2.2.2.2.1 (lv_at hl 3 rfl) ?_
      refine lv_iadd hx hb eX12_isLaidBlock_15.2.2.2.2.2.1 ?_
      refine z_topi (y := i2 (x54 + x55)) (i2_add x54 x55) ?_
      refine lv_iconst (v := 0) hx hb eX12_isLaidBlock_15.2.2.2.2.2.2.1 (by decide) ?_
      obtain ⟨hi92, h⟩ := inb_e h
      refine ya_iast (i := (x54 + x55)) (x := 0) hx hb hK hP (hDD _) hS 79 0 RW_79 rfl (by decide) hi92 eX12_isLaidBlock_15.2.2.2.2.2.2.2 (RW_w79 _) (fun H locs hP hS => ?_)
      obtain ⟨s93, hs93, h⟩ := st_e h
      rw [hs93] at hP
      refine lv_iinc (v := i2 (x55 + 1)) (lv' := [(4, .int (i2 (x55 + 1))), (0, .ref (a 200)), (2, .int (i2 x53)), (3, .int (i2 x54))]) hx hb eX12_isLaidBlock_28.1 hl (k := 3) rfl (i2_add x55 1) (by decide) rfl (fun ls hl => ?_)
      refine lv_goto (tgt := 11) hx hb eX12_isLaidBlock_28.2.1 (by decide) ?_
      exact ih11 (x53, x54, x55 + 1, s93) _ _ _ ⟨hP, hS, lv_sub hl [1, 2, 3, 0] rfl, h⟩
  refine lv_bipush (v := 17) hx hb eX12_isLaid_185.2.2.2.2.2.2.1 (by decide) ?_
  refine lv_bipush (v := 16) hx hb eX12_isLaid_185.2.2.2.2.2.2.2 (by decide) ?_
  refine lv_iload_n hx hb eX12_isLaidBlock_4.1 rfl (lv_at hl 1 rfl) ?_
  refine lv_imul hx hb eX12_isLaidBlock_4.2.1 ?_
  refine z_topi (y := i2 (16 * p0)) (i2_mul 16 p0) ?_
  refine lv_iadd hx hb eX12_isLaidBlock_4.2.2.1 ?_
  refine z_topi (y := i2 (17 + (16 * p0))) (i2_add 17 (16 * p0)) ?_
  refine lv_istore_n (lv' := [(3, .int (i2 (17 + (16 * p0)))), (0, .ref (a 200)), (1, .int (i2 p0)), (2, .int (i2 p1))]) hx hb eX12_isLaidBlock_4.2.2.2.1 rfl hl (by decide) rfl (fun ls hl => ?_)
  refine lv_iconst (v := 0) hx hb eX12_isLaidBlock_4.2.2.2.2.1 (by decide) ?_
  refine lv_istore (lv' := [(4, .int 0), (3, .int (i2 (17 + (16 * p0)))), (0, .ref (a 200)), (1, .int (i2 p0)), (2, .int (i2 p1))]) hx hb eX12_isLaidBlock_4.2.2.2.2.2.1 hl (by decide) rfl (fun ls hl => ?_)
  exact J11 FU (p1, 17 + (16 * p0), 0, s) _ _ _ ⟨hP, hS, lv_sub hl [2, 4, 1, 0] rfl, h⟩
set_option maxHeartbeats 4000000 in
set_option maxRecDepth 100000 in
theorem k_x12_isLaid (l : Launch) (D : va_G) (a : Nat → Nat) (p0 : Int) (sz : Nat) (s : MS) (o : (Int × MS)) (h : m_x12_isLaid p0 s = some o) : yWi l yX12_isLaid cX12_isLaid 6 (some .boolean) { frames := 3, cells := 0, slots := 0, locals := 180 } D sz [.ref (a 200), .int (i2 p0)] (RW D a s) (RW D a o.2) (i2 o.1) := by
  refine Met.ofW (cc := cX12_isLaid) (maxL := 6) (ret := (some .boolean)) (by decide) rfl ?_
  intro p e s₀ m args below meth c s₁ B hml hv
  obtain ⟨rfl, ⟨hsz, hP, hK, hD0⟩, hN⟩ := hv
  have hx := B.exec
  have hb := B.bytes
  have hr := B.returns
  have hts := atoms_spec (ws := wz yX12_isLaid cX12_isLaid 6 (some .boolean)) B.pre
  have ht : ∀ w ∈ lw_gd, w.before _ s₀ = true := fun w h => hts w (List.mem_cons_of_mem _ h)
  have hown : s₀.vm.findClass RX12 = some m.cls := findClass_of_methodNamed B.named
  have hlocks := B.notSynchronized
  subst hsz
  have hD := hD0.self (sz := s₀.heap.size)
  generalize hAe : va_A (RW D a s) s₀.heap.size = A at hD ⊢
  have hA : ∀ q : Nat, s₀.heap.size ≤ q → A q := fun q h => by rw [← hAe]; exact Or.inr h
  have hS : va_S A s₀.heap s₀.heap [] := va_S.rf
  have hDD : ∀ t : MS, va_D A (RW D a t) := fun t => RW_D t hD
  have hl := lv_entry ([.ref (a 200), .int (i2 p0)]) (n := 6) (Nat.le_of_ble_eq_true rfl)
  rw [lg_entry_eq]
  generalize (lg_sl ([.ref (a 200), .int (i2 p0)]) ++ List.replicate (6 - (lg_sl ([.ref (a 200), .int (i2 p0)])).length) Slot.unset).toArray = ls at hl ⊢
  have hl : lv_has ls 6 [(0, .ref (a 200)), (1, .int (i2 p0))] := hl
  unfold m_x12_isLaid at h
  refine y_head (pcJ := 194) (σ := Int × MS) (fun u H locs ls => va_P D vwCl (RW D a u.2) H ∧ va_S A s₀.heap H locs ∧ lv_has ls 6 [] ∧ m_x12_isLaid_J194 u.1 u.2 = some o) (fun u => [.int (i2 u.1)]) (fun u H locs ls hI => ?_) (fun J194 => ?_)
  · obtain ⟨hP, hS, hl, h⟩ := hI
    obtain ⟨x1, s2⟩ := u
    have hP : va_P D vwCl (RW D a s2) H := hP
    have hl : lv_has ls 6 [] := hl
    have h : m_x12_isLaid_J194 x1 s2 = some o := h
    unfold m_x12_isLaid_J194 at h
    obtain ⟨hb3, h⟩ := bo_e h
    obtain rfl := Option.some.inj h
    exact W.zret (v := (i2 x1)) hx hb hr (bo_n hb3) (fun t ht hW => ⟨⟨_, (), rfl, rfl, by rw [ht]; exact hP, va_K.moved hW.alike hK, hDD _⟩, hS.F ht⟩) hS.2.2 eX12_isLaid_185.2.2.2.2.2.1
  refine y_loop (pcJ := 135) (σ := Int × Int × MS) (fun n u H locs ls => va_P D vwCl (RW D a u.2.2) H ∧ va_S A s₀.heap H locs ∧ lv_has ls 6 [(0, .ref (a 200)), (1, .int (i2 u.1)), (4, .int (i2 u.2.1))] ∧ m_x12_isLaid_L135 n u.1 u.2.1 u.2.2 = some o) (fun u => []) (fun u H locs ls hI => by obtain ⟨_, _, _, h⟩ := hI; cases h) (fun n135 ih135 u H locs ls hI => ?_) (fun J135 => ?_)
  · obtain ⟨hP, hS, hl, h⟩ := hI
    obtain ⟨x4, x5, s6⟩ := u
    have hP : va_P D vwCl (RW D a s6) H := hP
    have hl : lv_has ls 6 [(0, .ref (a 200)), (1, .int (i2 x4)), (4, .int (i2 x5))] := hl
    have h : m_x12_isLaid_b135 (m_x12_isLaid_L135 n135) x4 x5 s6 = some o := h
    unfold m_x12_isLaid_b135 at h
    refine y_loop (pcJ := 145) (σ := Int × Int × Int × MS) (fun n u H locs ls => va_P D vwCl (RW D a u.2.2.2) H ∧ va_S A s₀.heap H locs ∧ lv_has ls 6 [(0, .ref (a 200)), (1, .int (i2 u.1)), (4, .int (i2 u.2.1)), (5, .int (i2 u.2.2.1))] ∧ m_x12_isLaid_L145 (m_x12_isLaid_L135 n135) n u.1 u.2.1 u.2.2.1 u.2.2.2 = some o) (fun u => []) (fun u H locs ls hI => by obtain ⟨_, _, _, h⟩ := hI; cases h) (fun n145 ih145 u H locs ls hI => ?_) (fun J145 => ?_)
    · obtain ⟨hP, hS, hl, h⟩ := hI
      obtain ⟨x7, x8, x9, s10⟩ := u
      have hP : va_P D vwCl (RW D a s10) H := hP
      have hl : lv_has ls 6 [(0, .ref (a 200)), (1, .int (i2 x7)), (4, .int (i2 x8)), (5, .int (i2 x9))] := hl
      have h : m_x12_isLaid_b145 (m_x12_isLaid_L135 n135) (m_x12_isLaid_L145 (m_x12_isLaid_L135 n135) n145) x7 x8 x9 s10 = some o := h
      unfold m_x12_isLaid_b145 at h
      refine lv_iload hx hb eX12_isLaid_137.2.2.2.2.1 (lv_at hl 3 rfl) ?_
      refine lv_bipush (v := 16) hx hb eX12_isLaid_137.2.2.2.2.2.1 (by decide) ?_
      obtain ⟨hr11, h⟩ := rg_e h
      refine lv_icmp_ge (tgt := 175) hx hb eX12_isLaid_137.2.2.2.2.2.2.1 (by decide) (fun c12 => ?_) (fun c12 => ?_)
      · have h := if_t ((i2_le (x := 16) (y := x9) (by decide) hr11).mp c12) h
        refine lv_iinc (v := i2 (x8 + 1)) (lv' := [(4, .int (i2 (x8 + 1))), (0, .ref (a 200)), (1, .int (i2 x7)), (5, .int (i2 x9))]) hx hb eX12_isLaid_167.2.2.2.2.1 hl (k := 2) rfl (i2_add x8 1) (by decide) rfl (fun ls hl => ?_)
        refine lv_goto (tgt := 135) hx hb eX12_isLaid_167.2.2.2.2.2.1 (by decide) ?_
        exact ih135 (x7, x8 + 1, s10) _ _ _ ⟨hP, hS, lv_sub hl [1, 2, 0] rfl, h⟩
      · have h := if_f (mt (i2_le (x := 16) (y := x9) (by decide) hr11).mpr c12) h
        refine lv_aload_n hx hb eX12_isLaid_137.2.2.2.2.2.2.2 rfl (lv_at hl 0 rfl) ?_
        refine va_get (D := D) (ci := 12) (v := .ref (a 113)) (C := RX12) (T := TX12) (N := 116) hx hb ht inX12 hown hK hP 0 RW_0 rfl 113 (by decide) (ht (.fieldLink RX12 255 "CloneVolumesModel" "laid" "[I") fl_X12_255) (fun _ h9 => h9) mF_113 eX12_isLaid_153.1 ?_
        refine lv_bipush (v := 17) hx hb eX12_isLaid_153.2.1 (by decide) ?_
        refine lv_bipush (v := 16) hx hb eX12_isLaid_153.2.2.1 (by decide) ?_
        refine lv_iload hx hb eX12_isLaid_153.2.2.2.1 (lv_at hl 2 rfl) ?_
        refine lv_imul hx hb eX12_isLaid_153.2.2.2.2.1 ?_
        refine z_topi (y := i2 (16 * x8)) (i2_mul 16 x8) ?_
        refine lv_iadd hx hb eX12_isLaid_153.2.2.2.2.2.1 ?_
        refine z_topi (y := i2 (17 + (16 * x8))) (i2_add 17 (16 * x8)) ?_
        refine lv_iload hx hb eX12_isLaid_153.2.2.2.2.2.2.1 (lv_at hl 3 rfl) ?_
        refine lv_iadd hx hb eX12_isLaid_153.2.2.2.2.2.2.2 ?_
        refine z_topi (y := i2 ((17 + (16 * x8)) + x9)) (i2_add (17 + (16 * x8)) x9) ?_
        refine lv_iconst (v := 0) hx hb eX12_isLaid_167.1 (by decide) ?_
        obtain ⟨hi13, h⟩ := inb_e h
        refine ya_iast (i := ((17 + (16 * x8)) + x9)) (x := 0) hx hb hK hP (hDD _) hS 79 0 RW_79 rfl (by decide) hi13 eX12_isLaid_167.2.1 (RW_w79 _) (fun H locs hP hS => ?_)
        obtain ⟨s14, hs14, h⟩ := st_e h
        rw [hs14] at hP
        refine lv_iinc (v := i2 (x9 + 1)) (lv' := [(5, .int (i2 (x9 + 1))), (0, .ref (a 200)), (1, .int (i2 x7)), (4, .int (i2 x8))]) hx hb eX12_isLaid_167.2.2.1 hl (k := 3) rfl (i2_add x9 1) (by decide) rfl (fun ls hl => ?_)
        refine lv_goto (tgt := 145) hx hb eX12_isLaid_167.2.2.2.1 (by decide) ?_
        exact ih145 (x7, x8, x9 + 1, s14) _ _ _ ⟨hP, hS, lv_sub hl [1, 2, 3, 0] rfl, h⟩
    refine lv_iload hx hb eX12_isLaid_121.2.2.2.2.2.2.2 (lv_at hl 2 rfl) ?_
    refine lv_bipush (v := 48) hx hb eX12_isLaid_137.1 (by decide) ?_
    obtain ⟨hr15, h⟩ := rg_e h
    refine lv_icmp_ge (tgt := 181) hx hb eX12_isLaid_137.2.1 (by decide) (fun c16 => ?_) (fun c16 => ?_)
    · have h := if_t ((i2_le (x := 48) (y := x5) (by decide) hr15).mp c16) h
      refine lv_aload_n hx hb eX12_isLaid_167.2.2.2.2.2.2.1 rfl (lv_at hl 0 rfl) ?_
      refine va_get (D := D) (ci := 12) (v := .int (i2 (gI s6 114))) (C := RX12) (T := TX12) (N := 116) hx hb ht inX12 hown hK hP 0 RW_0 rfl 114 (by decide) (ht (.fieldLink RX12 803 "CloneVolumesModel" "read0" "I") fl_X12_803) (fun _ h9 => h9) mF_114 eX12_isLaid_167.2.2.2.2.2.2.2 ?_
      refine lv_iload_n hx hb eX12_isLaid_185.1 rfl (lv_at hl 1 rfl) ?_
      obtain ⟨hr17, h⟩ := rg_e h
      obtain ⟨hr18, h⟩ := rg_e h
      refine lv_icmp_ne (tgt := 193) hx hb eX12_isLaid_185.2.1 (by decide) (fun c19 => ?_) (fun c19 => ?_)
      · have h := if_f (mt (i2_eq (x := (gI s6 114)) (y := x4) hr17 hr18).mpr c19) h
        refine lv_iconst (v := 0) hx hb eX12_isLaid_185.2.2.2.2.1 (by decide) ?_
        exact J194 (0, s6) _ _ _ ⟨hP, hS, lv_sub hl [] rfl, h⟩
      · have h := if_t ((i2_eq (x := (gI s6 114)) (y := x4) hr17 hr18).mp c19) h
        refine lv_iconst (v := 1) hx hb eX12_isLaid_185.2.2.1 (by decide) ?_
        refine lv_goto (tgt := 194) hx hb eX12_isLaid_185.2.2.2.1 (by decide) ?_
        exact J194 (1, s6) _ _ _ ⟨hP, hS, lv_sub hl [] rfl, h⟩
    · have h := if_f (mt (i2_le (x := 48) (y := x5) (by decide) hr15).mpr c16) h
      refine lv_iconst (v := 0) hx hb eX12_isLaid_137.2.2.1 (by decide) ?_
      refine lv_istore (lv' := [(5, .int 0), (0, .ref (a 200)), (1, .int (i2 x4)), (4, .int (i2 x5))]) hx hb eX12_isLaid_137.2.2.2.1 hl (by decide) rfl (fun ls hl => ?_)
      exact J145 FU (x4, x5, 0, s6) _ _ _ ⟨hP, hS, lv_sub hl [1, 2, 3, 0] rfl, h⟩
  refine y_loop (pcJ := 102) (σ := Int × Int × MS) (fun n u H locs ls => va_P D vwCl (RW D a u.2.2) H ∧ va_S A s₀.heap H locs ∧ lv_has ls 6 [(0, .ref (a 200)), (1, .int (i2 u.1)), (4, .int (i2 u.2.1))] ∧ m_x12_isLaid_L102 n u.1 u.2.1 u.2.2 = some o) (fun u => []) (fun u H locs ls hI => by obtain ⟨_, _, _, h⟩ := hI; cases h) (fun n102 ih102 u H locs ls hI => ?_) (fun J102 => ?_)
  · obtain ⟨hP, hS, hl, h⟩ := hI
    obtain ⟨x20, x21, s22⟩ := u
    have hP : va_P D vwCl (RW D a s22) H := hP
    have hl : lv_has ls 6 [(0, .ref (a 200)), (1, .int (i2 x20)), (4, .int (i2 x21))] := hl
    have h : m_x12_isLaid_b102 (m_x12_isLaid_L102 n102) x20 x21 s22 = some o := h
    unfold m_x12_isLaid_b102 at h
    refine lv_iload hx hb eX12_isLaid_88.2.2.2.2.2.2.2 (lv_at hl 2 rfl) ?_
    refine lv_aload_n hx hb eX12_isLaid_104.1 rfl (lv_at hl 0 rfl) ?_
    obtain ⟨r24, hc23, h⟩ := bn_e h
    refine ycV (r0 := i2 r24) (As := []) (rest := [.int (i2 x21)]) (C := RX12) (n := 0) ⟨hx, hb, hml, hown, ht⟩ (k_x12_blockMany l D a _ _ hc23) (zgV ml_X12_429 im_X12_blockMany se_X12_blockMany in_X12 co_X12_blockMany) rfl rfl (by decide +kernel) ⟨Nat.le_of_ble_eq_true rfl, Nat.le_of_ble_eq_true rfl⟩ hN hK hP hS 0 RW_0 rfl rfl rfl hl.1 rfl (Nat.le_of_ble_eq_true rfl) eX12_isLaid_104.2.1 ⟨Nat.le_of_ble_eq_true rfl, Nat.le_of_ble_eq_true rfl⟩ (fun H locs hP hS => ?_)
    obtain ⟨hr25, h⟩ := rg_e h
    obtain ⟨hr26, h⟩ := rg_e h
    refine lv_icmp_ge (tgt := 129) hx hb eX12_isLaid_104.2.2.1 (by decide) (fun c27 => ?_) (fun c27 => ?_)
    · have h := if_t ((i2_le (x := r24) (y := x21) hr26 hr25).mp c27) h
      refine lv_aload_n hx hb eX12_isLaid_121.2.2.2.2.1 rfl (lv_at hl 0 rfl) ?_
      obtain ⟨r29, hc28, h⟩ := bn_e h
      refine ycV (r0 := i2 r29) (As := []) (rest := []) (C := RX12) (n := 0) ⟨hx, hb, hml, hown, ht⟩ (k_x12_blockMany l D a _ _ hc28) (zgV ml_X12_429 im_X12_blockMany se_X12_blockMany in_X12 co_X12_blockMany) rfl rfl (by decide +kernel) ⟨Nat.le_of_ble_eq_true rfl, Nat.le_of_ble_eq_true rfl⟩ hN hK hP hS 0 RW_0 rfl rfl rfl hl.1 rfl (Nat.le_of_ble_eq_true rfl) eX12_isLaid_121.2.2.2.2.2.1 ⟨Nat.le_of_ble_eq_true rfl, Nat.le_of_ble_eq_true rfl⟩ (fun H locs hP hS => ?_)
      refine lv_istore (lv' := [(4, .int (i2 r29)), (0, .ref (a 200)), (1, .int (i2 x20))]) hx hb eX12_isLaid_121.2.2.2.2.2.2.1 hl (by decide) rfl (fun ls hl => ?_)
      exact J135 FU (x20, r29, s22) _ _ _ ⟨hP, hS, lv_sub hl [1, 2, 0] rfl, h⟩
    · have h := if_f (mt (i2_le (x := r24) (y := x21) hr26 hr25).mpr c27) h
      refine lv_aload_n hx hb eX12_isLaid_104.2.2.2.1 rfl (lv_at hl 0 rfl) ?_
      refine lv_iload hx hb eX12_isLaid_104.2.2.2.2.1 (lv_at hl 2 rfl) ?_
      refine lv_iload_n hx hb eX12_isLaid_104.2.2.2.2.2.1 rfl (lv_at hl 1 rfl) ?_
      obtain ⟨⟨r32, s31⟩, hc30, h⟩ := bn_e h
      refine ywV (r0 := i2 r32) (As := [.int (i2 x21), .int (i2 x20)]) (rest := []) (C := RX12) (n := 2) (ws' := RW D a s31) ⟨hx, hb, hml, hown, ht⟩ (k_x12_isLaidBlock l D a x21 x20 _ _ _ hc30) (zgV ml_X12_812 im_X12_isLaidBlock se_X12_isLaidBlock in_X12 co_X12_isLaidBlock) rfl rfl (by decide +kernel) ⟨Nat.le_of_ble_eq_true rfl, Nat.le_of_ble_eq_true rfl⟩ hN hK hP (hDD _) hS hA 0 RW_0 rfl rfl rfl hl.1 rfl (Nat.le_of_ble_eq_true rfl) eX12_isLaid_104.2.2.2.2.2.2.1 ⟨Nat.le_of_ble_eq_true rfl, Nat.le_of_ble_eq_true rfl⟩ (fun H locs hP hS => ?_)
      obtain ⟨hr33, h⟩ := rg_e h
      refine lv_if_ne (tgt := 123) hx hb eX12_isLaid_104.2.2.2.2.2.2.2 (by decide) (fun c34 => ?_) (fun c34 => ?_)
      · have h := if_f (mt (i2_eq (x := r32) (y := 0) hr33 (by decide)).mpr c34) h
        refine lv_iinc (v := i2 (x21 + 1)) (lv' := [(4, .int (i2 (x21 + 1))), (0, .ref (a 200)), (1, .int (i2 x20))]) hx hb eX12_isLaid_121.2.2.1 hl (k := 2) rfl (i2_add x21 1) (by decide) rfl (fun ls hl => ?_)
        refine lv_goto (tgt := 102) hx hb eX12_isLaid_121.2.2.2.1 (by decide) ?_
        exact ih102 (x20, x21 + 1, s31) _ _ _ ⟨hP, hS, lv_sub hl [1, 2, 0] rfl, h⟩
      · have h := if_t ((i2_eq (x := r32) (y := 0) hr33 (by decide)).mp c34) h
        refine lv_iconst (v := 0) hx hb eX12_isLaid_121.1 (by decide) ?_
        obtain rfl := Option.some.inj h
        exact W.zret (v := 0) hx hb hr (by decide) (fun t ht hW => ⟨⟨_, (), rfl, rfl, by rw [ht]; exact hP, va_K.moved hW.alike hK, hDD _⟩, hS.F ht⟩) hS.2.2 eX12_isLaid_121.2.1
  refine y_loop (pcJ := 59) (σ := Int × Int × MS) (fun n u H locs ls => va_P D vwCl (RW D a u.2.2) H ∧ va_S A s₀.heap H locs ∧ lv_has ls 6 [(0, .ref (a 200)), (1, .int (i2 u.1)), (4, .int (i2 u.2.1))] ∧ m_x12_isLaid_L59 n u.1 u.2.1 u.2.2 = some o) (fun u => []) (fun u H locs ls hI => by obtain ⟨_, _, _, h⟩ := hI; cases h) (fun n59 ih59 u H locs ls hI => ?_) (fun J59 => ?_)
  · obtain ⟨hP, hS, hl, h⟩ := hI
    obtain ⟨x35, x36, s37⟩ := u
    have hP : va_P D vwCl (RW D a s37) H := hP
    have hl : lv_has ls 6 [(0, .ref (a 200)), (1, .int (i2 x35)), (4, .int (i2 x36))] := hl
    have h : m_x12_isLaid_b59 (m_x12_isLaid_L59 n59) x35 x36 s37 = some o := h
    unfold m_x12_isLaid_b59 at h
    refine lv_iload hx hb eX12_isLaid_59.1 (lv_at hl 2 rfl) ?_
    refine lv_bipush (v := 8) hx hb eX12_isLaid_59.2.1 (by decide) ?_
    obtain ⟨hr38, h⟩ := rg_e h
    refine lv_icmp_ge (tgt := 99) hx hb eX12_isLaid_59.2.2.1 (by decide) (fun c39 => ?_) (fun c39 => ?_)
    · have h := if_t ((i2_le (x := 8) (y := x36) (by decide) hr38).mp c39) h
      refine lv_iconst (v := 0) hx hb eX12_isLaid_88.2.2.2.2.2.1 (by decide) ?_
      refine lv_istore (lv' := [(4, .int 0), (0, .ref (a 200)), (1, .int (i2 x35))]) hx hb eX12_isLaid_88.2.2.2.2.2.2.1 hl (by decide) rfl (fun ls hl => ?_)
      exact J102 FU (x35, 0, s37) _ _ _ ⟨hP, hS, lv_sub hl [1, 2, 0] rfl, h⟩
    · have h := if_f (mt (i2_le (x := 8) (y := x36) (by decide) hr38).mpr c39) h
      refine lv_aload_n hx hb eX12_isLaid_59.2.2.2.1 rfl (lv_at hl 0 rfl) ?_
      refine va_get (D := D) (ci := 12) (v := .ref (a 113)) (C := RX12) (T := TX12) (N := 116) hx hb ht inX12 hown hK hP 0 RW_0 rfl 113 (by decide) (ht (.fieldLink RX12 255 "CloneVolumesModel" "laid" "[I") fl_X12_255) (fun _ h9 => h9) mF_113 eX12_isLaid_59.2.2.2.2.1 ?_
      refine lv_iload hx hb eX12_isLaid_59.2.2.2.2.2.1 (lv_at hl 2 rfl) ?_
      refine lv_aload_n hx hb eX12_isLaid_59.2.2.2.2.2.2.1 rfl (lv_at hl 0 rfl) ?_
      refine lv_iload_n hx hb eX12_isLaid_59.2.2.2.2.2.2.2 rfl (lv_at hl 1 rfl) ?_
      obtain ⟨⟨r42, s41⟩, hc40, h⟩ := bn_e h
      refine ywV (r0 := i2 r42) (As := [.int (i2 x35)]) (rest := [.int (i2 x36), .ref (a 113)]) (C := RX12) (n := 1) (ws' := RW D a s41) ⟨hx, hb, hml, hown, ht⟩ (k_x12_byteRead l D a x35 _ _ _ hc40) (zgV ml_X12_806 im_X12_byteRead se_X12_byteRead in_X12 co_X12_byteRead) rfl rfl (by decide +kernel) ⟨Nat.le_of_ble_eq_true rfl, Nat.le_of_ble_eq_true rfl⟩ hN hK hP (hDD _) hS hA 0 RW_0 rfl rfl rfl hl.1 rfl (Nat.le_of_ble_eq_true rfl) eX12_isLaid_74.1 ⟨Nat.le_of_ble_eq_true rfl, Nat.le_of_ble_eq_true rfl⟩ (fun H locs hP hS => ?_)
      obtain ⟨hi43, h⟩ := inb_e h
      refine ya_iast (i := x36) (x := r42) hx hb hK hP (hDD _) hS 79 0 RW_79 rfl (by decide) hi43 eX12_isLaid_74.2.1 (RW_w79 _) (fun H locs hP hS => ?_)
      obtain ⟨s44, hs44, h⟩ := st_e h
      rw [hs44] at hP
      refine lv_aload_n hx hb eX12_isLaid_74.2.2.1 rfl (lv_at hl 0 rfl) ?_
      refine va_get (D := D) (ci := 12) (v := .ref (a 113)) (C := RX12) (T := TX12) (N := 116) hx hb ht inX12 hown hK hP 0 RW_0 rfl 113 (by decide) (ht (.fieldLink RX12 255 "CloneVolumesModel" "laid" "[I") fl_X12_255) (fun _ h9 => h9) mF_113 eX12_isLaid_74.2.2.2.1 ?_
      refine lv_bipush (v := 8) hx hb eX12_isLaid_74.2.2.2.2.1 (by decide) ?_
      refine lv_iload hx hb eX12_isLaid_74.2.2.2.2.2.1 (lv_at hl 2 rfl) ?_
      refine lv_iadd hx hb eX12_isLaid_74.2.2.2.2.2.2.1 ?_
      refine z_topi (y := i2 (8 + x36)) (i2_add 8 x36) ?_
      refine lv_aload_n hx hb eX12_isLaid_74.2.2.2.2.2.2.2 rfl (lv_at hl 0 rfl) ?_
      refine lv_iload_n hx hb eX12_isLaid_88.1 rfl (lv_at hl 1 rfl) ?_
      obtain ⟨⟨r47, s46⟩, hc45, h⟩ := bn_e h
      refine ywV (r0 := i2 r47) (As := [.int (i2 x35)]) (rest := [.int (i2 (8 + x36)), .ref (a 113)]) (C := RX12) (n := 1) (ws' := RW D a s46) ⟨hx, hb, hml, hown, ht⟩ (k_x12_byteRead l D a x35 _ _ _ hc45) (zgV ml_X12_806 im_X12_byteRead se_X12_byteRead in_X12 co_X12_byteRead) rfl rfl (by decide +kernel) ⟨Nat.le_of_ble_eq_true rfl, Nat.le_of_ble_eq_true rfl⟩ hN hK hP (hDD _) hS hA 0 RW_0 rfl rfl rfl hl.1 rfl (Nat.le_of_ble_eq_true rfl) eX12_isLaid_88.2.1 ⟨Nat.le_of_ble_eq_true rfl, Nat.le_of_ble_eq_true rfl⟩ (fun H locs hP hS => ?_)
      obtain ⟨hi48, h⟩ := inb_e h
      refine ya_iast (i := (8 + x36)) (x := r47) hx hb hK hP (hDD _) hS 79 0 RW_79 rfl (by decide) hi48 eX12_isLaid_88.2.2.1 (RW_w79 _) (fun H locs hP hS => ?_)
      obtain ⟨s49, hs49, h⟩ := st_e h
      rw [hs49] at hP
      refine lv_iinc (v := i2 (x36 + 1)) (lv' := [(4, .int (i2 (x36 + 1))), (0, .ref (a 200)), (1, .int (i2 x35))]) hx hb eX12_isLaid_88.2.2.2.1 hl (k := 2) rfl (i2_add x36 1) (by decide) rfl (fun ls hl => ?_)
      refine lv_goto (tgt := 59) hx hb eX12_isLaid_88.2.2.2.2.1 (by decide) ?_
      exact ih59 (x35, x36 + 1, s49) _ _ _ ⟨hP, hS, lv_sub hl [1, 2, 0] rfl, h⟩
  refine y_head (pcJ := 54) (σ := MS) (fun u H locs ls => va_P D vwCl (RW D a u) H ∧ va_S A s₀.heap H locs ∧ lv_has ls 6 [] ∧ m_x12_isLaid_J54 u = some o) (fun u => []) (fun u H locs ls hI => ?_) (fun J54 => ?_)
  · obtain ⟨hP, hS, hl, h⟩ := hI
    obtain ⟨s50, rfl⟩ : ∃ z, z = u := ⟨u, rfl⟩
    have hP : va_P D vwCl (RW D a s50) H := hP
    have hl : lv_has ls 6 [] := hl
    have h : m_x12_isLaid_J54 s50 = some o := h
    unfold m_x12_isLaid_J54 at h
    refine lv_iconst (v := 0) hx hb eX12_isLaid_45.2.2.2.2.1 (by decide) ?_
    obtain rfl := Option.some.inj h
    exact W.zret (v := 0) hx hb hr (by decide) (fun t ht hW => ⟨⟨_, (), rfl, rfl, by rw [ht]; exact hP, va_K.moved hW.alike hK, hDD _⟩, hS.F ht⟩) hS.2.2 eX12_isLaid_45.2.2.2.2.2.1
  refine lv_aload_n hx hb eX12_image_103.2.2.2.2.1 rfl (lv_at hl 0 rfl) ?_
  refine lv_iconst (v := 0) hx hb eX12_image_103.2.2.2.2.2.1 (by decide) ?_
  refine ya_put (D := D) (ci := 12) (v := .int 0) (ty := .int) (C := RX12) (T := TX12) (N := 116) hx hb ht inX12 tyX12 tyX12_ok nmX12 hown hK hP (hDD _) hS 0 RW_0 rfl 114 (by decide) (ht (.fieldLink RX12 803 "CloneVolumesModel" "read0" "I") fl_X12_803) (fun _ h9 => h9) rfl (by decide +kernel) rfl rfl (by rw [mF_len]; decide) eX12_image_103.2.2.2.2.2.2.1 (RW_f114 0) (fun H locs hP hS => ?_)
  obtain ⟨s51, hs51, h⟩ := st_e h
  rw [hs51] at hP
  refine lv_aload_n hx hb eX12_image_103.2.2.2.2.2.2.2 rfl (lv_at hl 0 rfl) ?_
  refine lv_iload_n hx hb eX12_isLaid_6.1 rfl (lv_at hl 1 rfl) ?_
  obtain ⟨⟨r54, s53⟩, hc52, h⟩ := bn_e h
  refine ywV (r0 := i2 r54) (As := [.int (i2 p0)]) (rest := []) (C := RX12) (n := 1) (ws' := RW D a s53) ⟨hx, hb, hml, hown, ht⟩ (k_x12_byteRead l D a p0 _ _ _ hc52) (zgV ml_X12_806 im_X12_byteRead se_X12_byteRead in_X12 co_X12_byteRead) rfl rfl (by decide +kernel) ⟨Nat.le_of_ble_eq_true rfl, Nat.le_of_ble_eq_true rfl⟩ hN hK hP (hDD _) hS hA 0 RW_0 rfl rfl rfl hl.1 rfl (Nat.le_of_ble_eq_true rfl) eX12_isLaid_6.2.1 ⟨Nat.le_of_ble_eq_true rfl, Nat.le_of_ble_eq_true rfl⟩ (fun H locs hP hS => ?_)
  refine lv_istore_n (lv' := [(2, .int (i2 r54)), (0, .ref (a 200)), (1, .int (i2 p0))]) hx hb eX12_isLaid_6.2.2.1 rfl hl (by decide) rfl (fun ls hl => ?_)
  refine lv_aload_n hx hb eX12_isLaid_6.2.2.2.1 rfl (lv_at hl 1 rfl) ?_
  refine lv_iload_n hx hb eX12_isLaid_6.2.2.2.2.1 rfl (lv_at hl 2 rfl) ?_
  obtain ⟨⟨r57, s56⟩, hc55, h⟩ := bn_e h
  refine ywV (r0 := i2 r57) (As := [.int (i2 p0)]) (rest := []) (C := RX12) (n := 1) (ws' := RW D a s56) ⟨hx, hb, hml, hown, ht⟩ (k_x12_twoRead l D a p0 _ _ _ hc55) (zgV ml_X12_809 im_X12_twoRead se_X12_twoRead in_X12 co_X12_twoRead) rfl rfl (by decide +kernel) ⟨Nat.le_of_ble_eq_true rfl, Nat.le_of_ble_eq_true rfl⟩ hN hK hP (hDD _) hS hA 0 RW_0 rfl rfl rfl hl.1 rfl (Nat.le_of_ble_eq_true rfl) eX12_isLaid_6.2.2.2.2.2.1 ⟨Nat.le_of_ble_eq_true rfl, Nat.le_of_ble_eq_true rfl⟩ (fun H locs hP hS => ?_)
  refine lv_istore_n (lv' := [(3, .int (i2 r57)), (2, .int (i2 r54)), (0, .ref (a 200)), (1, .int (i2 p0))]) hx hb eX12_isLaid_6.2.2.2.2.2.2.1 rfl hl (by decide) rfl (fun ls hl => ?_)
  refine lv_aload_n hx hb eX12_isLaid_6.2.2.2.2.2.2.2 rfl (lv_at hl 2 rfl) ?_
  refine va_get (D := D) (ci := 12) (v := .ref (a 113)) (C := RX12) (T := TX12) (N := 116) hx hb ht inX12 hown hK hP 0 RW_0 rfl 113 (by decide) (ht (.fieldLink RX12 255 "CloneVolumesModel" "laid" "[I") fl_X12_255) (fun _ h9 => h9) mF_113 eX12_isLaid_18.1 ?_
  refine lv_bipush (v := 16) hx hb eX12_isLaid_18.2.1 (by decide) ?_
  refine lv_ldcw (own := RX12) (v := 65536) hx hb hown (ht _ ck_X12_792) eX12_isLaid_18.2.2.1 ?_
  refine lv_iload_n hx hb eX12_isLaid_18.2.2.2.1 rfl (lv_at hl 1 rfl) ?_
  refine lv_imul hx hb eX12_isLaid_18.2.2.2.2.1 ?_
  refine z_topi (y := i2 (65536 * r54)) (i2_mul 65536 r54) ?_
  refine lv_iload_n hx hb eX12_isLaid_18.2.2.2.2.2.1 rfl (lv_at hl 0 rfl) ?_
  refine lv_iadd hx hb eX12_isLaid_18.2.2.2.2.2.2.1 ?_
  refine z_topi (y := i2 ((65536 * r54) + r57)) (i2_add (65536 * r54) r57) ?_
  obtain ⟨hi58, h⟩ := inb_e h
  refine ya_iast (i := 16) (x := ((65536 * r54) + r57)) hx hb hK hP (hDD _) hS 79 0 RW_79 rfl (by decide) hi58 eX12_isLaid_18.2.2.2.2.2.2.2 (RW_w79 _) (fun H locs hP hS => ?_)
  obtain ⟨s59, hs59, h⟩ := st_e h
  rw [hs59] at hP
  refine lv_iload_n hx hb eX12_isLaid_31.1 rfl (lv_at hl 1 rfl) ?_
  refine lv_iconst (v := (-1)) hx hb eX12_isLaid_31.2.1 (by decide) ?_
  obtain ⟨hr60, h⟩ := rg_e h
  refine lv_icmp_eq (tgt := 54) hx hb eX12_isLaid_31.2.2.1 (by decide) (fun c61 => ?_) (fun c61 => ?_)
  · rw [show ((-1) : Int32) = i2 (-1) from by decide] at c61
    have h := if_t ((i2_eq (x := r54) (y := (-1)) hr60 (by decide)).mp c61) h
    exact J54 s59 _ _ _ ⟨hP, hS, lv_sub hl [] rfl, h⟩
  · rw [show ((-1) : Int32) = i2 (-1) from by decide] at c61
    have h := if_f (mt (i2_eq (x := r54) (y := (-1)) hr60 (by decide)).mpr c61) h
    refine lv_iload_n hx hb eX12_isLaid_31.2.2.2.1 rfl (lv_at hl 0 rfl) ?_
    refine lv_iconst (v := (-1)) hx hb eX12_isLaid_31.2.2.2.2.1 (by decide) ?_
    obtain ⟨hr62, h⟩ := rg_e h
    refine lv_icmp_eq (tgt := 54) hx hb eX12_isLaid_31.2.2.2.2.2.1 (by decide) (fun c63 => ?_) (fun c63 => ?_)
    · rw [show ((-1) : Int32) = i2 (-1) from by decide] at c63
      have h := if_t ((i2_eq (x := r57) (y := (-1)) hr62 (by decide)).mp c63) h
      exact J54 s59 _ _ _ ⟨hP, hS, lv_sub hl [] rfl, h⟩
    · rw [show ((-1) : Int32) = i2 (-1) from by decide] at c63
      have h := if_f (mt (i2_eq (x := r57) (y := (-1)) hr62 (by decide)).mpr c63) h
      refine lv_aload_n hx hb eX12_isLaid_31.2.2.2.2.2.2.1 rfl (lv_at hl 2 rfl) ?_
      refine va_get (D := D) (ci := 12) (v := .ref (a 113)) (C := RX12) (T := TX12) (N := 116) hx hb ht inX12 hown hK hP 0 RW_0 rfl 113 (by decide) (ht (.fieldLink RX12 255 "CloneVolumesModel" "laid" "[I") fl_X12_255) (fun _ h9 => h9) mF_113 eX12_isLaid_31.2.2.2.2.2.2.2 ?_
      refine lv_bipush (v := 16) hx hb eX12_isLaid_45.1 (by decide) ?_
      obtain ⟨y64, ey64, iy64, h⟩ := rdI_e h
      refine ya_iald (i := 16) hx hb hK hP 79 0 RW_79 rfl (by decide) ey64 iy64 eX12_isLaid_45.2.1 ?_
      refine lv_ldcw (own := RX12) (v := 999999) hx hb hown (ht _ ck_X12_492) eX12_isLaid_45.2.2.1 ?_
      obtain ⟨hr65, h⟩ := rg_e h
      refine lv_icmp_le (tgt := 56) hx hb eX12_isLaid_45.2.2.2.1 (by decide) (fun c66 => ?_) (fun c66 => ?_)
      · have h := if_t ((i2_le (x := y64) (y := 999999) hr65 (by decide)).mp c66) h
        refine lv_iconst (v := 0) hx hb eX12_isLaid_45.2.2.2.2.2.2.1 (by decide) ?_
        refine lv_istore (lv' := [(4, .int 0), (3, .int (i2 r57)), (2, .int (i2 r54)), (0, .ref (a 200)), (1, .int (i2 p0))]) hx hb eX12_isLaid_45.2.2.2.2.2.2.2 hl (by decide) rfl (fun ls hl => ?_)
        exact J59 FU (p0, 0, s59) _ _ _ ⟨hP, hS, lv_sub hl [3, 4, 0] rfl, h⟩
      · have h := if_f (mt (i2_le (x := y64) (y := 999999) hr65 (by decide)).mpr c66) h
        exact J54 s59 _ _ _ ⟨hP, hS, lv_sub hl [] rfl, h⟩
