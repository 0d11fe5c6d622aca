theorem co_X11_unlike : Cond.code yX11_unlike cX11_unlike 13 (some .int) ∈ lw_gd := zm (lw_g_5 (List.mem_of_getElem? (i := 43) (by decide +kernel))) rfl
theorem co_X8_mark : Cond.code yX8_mark cX8_mark 2 none ∈ lw_gd := zm (lw_g_4 (List.mem_of_getElem? (i := 60) (by decide +kernel))) rfl
theorem im_X11_unlike : Cond.instanceMethod yX11_unlike ∈ lw_gd := zm (lw_g_5 (List.mem_of_getElem? (i := 42) (by decide +kernel))) rfl
theorem im_X8_mark : Cond.instanceMethod yX8_mark ∈ lw_gd := zm (lw_g_4 (List.mem_of_getElem? (i := 58) (by decide +kernel))) rfl
theorem ml_X11_233 : Cond.methodLink RX11 233 yX11_unlike ∈ lw_gd := zm (lw_g_5 (List.mem_of_getElem? (i := 40) (by decide +kernel))) rfl
theorem ml_X11_367 : Cond.methodLink RX11 367 Lib.Math.min.name ∈ lw_gd := zm (lw_g_5 (List.mem_of_getElem? (i := 44) (by decide +kernel))) rfl
theorem ml_X8_51 : Cond.methodLink RX8 51 arraycopyName ∈ lw_gd := zm (lw_g_4 (List.mem_of_getElem? (i := 11) (by decide +kernel))) rfl
theorem ml_X8_86 : Cond.methodLink RX8 86 yX8_mark ∈ lw_gd := zm (lw_g_4 (List.mem_of_getElem? (i := 95) (by decide +kernel))) rfl
theorem se_X11_unlike : Cond.selects RX11 yX11_unlike yX11_unlike ∈ lw_gd := zm (List.mem_of_getElem? (i := 44) (by decide +kernel)) rfl
theorem se_X8_mark : Cond.selects RX8 yX8_mark yX8_mark ∈ lw_gd := zm (lw_g_4 (List.mem_of_getElem? (i := 59) (by decide +kernel))) rfl
theorem eX11_differs_0 : decode cX11_differs 0 = .ok (.aload_n 0, 1) ∧ decode cX11_differs 1 = .ok (.getfield 79, 3) ∧ decode cX11_differs 4 = .ok (.getfield 125, 3) ∧ decode cX11_differs 7 = .ok (.astore 4, 2) ∧ decode cX11_differs 9 = .ok (.aload 4, 2) ∧ decode cX11_differs 11 = .ok (.iload_n 1, 1) ∧ decode cX11_differs 12 = .ok (.invokevirtual 161, 3) ∧ decode cX11_differs 15 = .ok (.ifCond .eq 12, 3) := by decide +kernel
theorem eX11_differs_18 : decode cX11_differs 18 = .ok (.aload 4, 2) ∧ decode cX11_differs 20 = .ok (.iload_n 2, 1) ∧ decode cX11_differs 21 = .ok (.invokevirtual 161, 3) ∧ decode cX11_differs 24 = .ok (.ifCond .ne 5, 3) ∧ decode cX11_differs 27 = .ok (.iconst (-1), 1) ∧ decode cX11_differs 28 = .ok (.ireturn, 1) ∧ decode cX11_differs 29 = .ok (.aload_n 0, 1) ∧ decode cX11_differs 30 = .ok (.aload 4, 2) := by decide +kernel
theorem eX11_differs_32 : decode cX11_differs 32 = .ok (.getfield 165, 3) ∧ decode cX11_differs 35 = .ok (.iload_n 1, 1) ∧ decode cX11_differs 36 = .ok (.iaload, 1) ∧ decode cX11_differs 37 = .ok (.aload 4, 2) ∧ decode cX11_differs 39 = .ok (.getfield 165, 3) ∧ decode cX11_differs 42 = .ok (.iload_n 2, 1) ∧ decode cX11_differs 43 = .ok (.iaload, 1) ∧ decode cX11_differs 44 = .ok (.iload_n 3, 1) := by decide +kernel
theorem eX11_differs_45 : decode cX11_differs 45 = .ok (.invokevirtual 233, 3) ∧ decode cX11_differs 48 = .ok (.ireturn, 1) ∧ decode cX11_unlike 0 = .ok (.aload_n 0, 1) ∧ decode cX11_unlike 1 = .ok (.getfield 49, 3) ∧ decode cX11_unlike 4 = .ok (.aload_n 0, 1) ∧ decode cX11_unlike 5 = .ok (.getfield 79, 3) ∧ decode cX11_unlike 8 = .ok (.getfield 125, 3) ∧ decode cX11_unlike 11 = .ok (.iload_n 1, 1) := by decide +kernel
theorem eX11_unlike_12 : decode cX11_unlike 12 = .ok (.invokevirtual 168, 3) ∧ decode cX11_unlike 15 = .ok (.istore 4, 2) ∧ decode cX11_unlike 17 = .ok (.aload_n 0, 1) ∧ decode cX11_unlike 18 = .ok (.getfield 53, 3) ∧ decode cX11_unlike 21 = .ok (.aload_n 0, 1) ∧ decode cX11_unlike 22 = .ok (.getfield 79, 3) ∧ decode cX11_unlike 25 = .ok (.getfield 125, 3) ∧ decode cX11_unlike 28 = .ok (.iload_n 2, 1) := by decide +kernel
theorem eX11_unlike_29 : decode cX11_unlike 29 = .ok (.invokevirtual 168, 3) ∧ decode cX11_unlike 32 = .ok (.istore 5, 2) ∧ decode cX11_unlike 34 = .ok (.iconst 0, 1) ∧ decode cX11_unlike 35 = .ok (.istore 6, 2) ∧ decode cX11_unlike 37 = .ok (.iconst 0, 1) ∧ decode cX11_unlike 38 = .ok (.istore 7, 2) ∧ decode cX11_unlike 40 = .ok (.iconst 0, 1) ∧ decode cX11_unlike 41 = .ok (.istore 8, 2) := by decide +kernel
theorem eX11_unlike_43 : decode cX11_unlike 43 = .ok (.iconst 0, 1) ∧ decode cX11_unlike 44 = .ok (.istore 9, 2) ∧ decode cX11_unlike 46 = .ok (.iload 9, 2) ∧ decode cX11_unlike 48 = .ok (.sipush 576, 3) ∧ decode cX11_unlike 51 = .ok (.if_icmp .ge 178, 3) ∧ decode cX11_unlike 54 = .ok (.iload 7, 2) ∧ decode cX11_unlike 56 = .ok (.iload 4, 2) ∧ decode cX11_unlike 58 = .ok (.if_icmp .lt 10, 3) := by decide +kernel
theorem eX11_unlike_61 : decode cX11_unlike 61 = .ok (.iload 8, 2) ∧ decode cX11_unlike 63 = .ok (.iload 5, 2) ∧ decode cX11_unlike 65 = .ok (.if_icmp .ge 164, 3) ∧ decode cX11_unlike 68 = .ok (.iload 7, 2) ∧ decode cX11_unlike 70 = .ok (.iload 4, 2) ∧ decode cX11_unlike 72 = .ok (.if_icmp .ge 16, 3) ∧ decode cX11_unlike 75 = .ok (.aload_n 0, 1) ∧ decode cX11_unlike 76 = .ok (.getfield 49, 3) := by decide +kernel
theorem eX11_unlike_79 : decode cX11_unlike 79 = .ok (.getfield 225, 3) ∧ decode cX11_unlike 82 = .ok (.iload 7, 2) ∧ decode cX11_unlike 84 = .ok (.iaload, 1) ∧ decode cX11_unlike 85 = .ok (.goto 6, 3) ∧ decode cX11_unlike 88 = .ok (.sipush 1000, 3) ∧ decode cX11_unlike 91 = .ok (.istore 10, 2) ∧ decode cX11_unlike 93 = .ok (.iload 8, 2) ∧ decode cX11_unlike 95 = .ok (.iload 5, 2) := by decide +kernel
theorem eX11_unlike_97 : decode cX11_unlike 97 = .ok (.if_icmp .ge 16, 3) ∧ decode cX11_unlike 100 = .ok (.aload_n 0, 1) ∧ decode cX11_unlike 101 = .ok (.getfield 53, 3) ∧ decode cX11_unlike 104 = .ok (.getfield 225, 3) ∧ decode cX11_unlike 107 = .ok (.iload 8, 2) ∧ decode cX11_unlike 109 = .ok (.iaload, 1) ∧ decode cX11_unlike 110 = .ok (.goto 6, 3) ∧ decode cX11_unlike 113 = .ok (.sipush 1000, 3) := by decide +kernel
theorem eX11_unlike_116 : decode cX11_unlike 116 = .ok (.istore 11, 2) ∧ decode cX11_unlike 118 = .ok (.iload 10, 2) ∧ decode cX11_unlike 120 = .ok (.iload 11, 2) ∧ decode cX11_unlike 122 = .ok (.if_icmp .ne 30, 3) ∧ decode cX11_unlike 125 = .ok (.aload_n 0, 1) ∧ decode cX11_unlike 126 = .ok (.getfield 49, 3) ∧ decode cX11_unlike 129 = .ok (.getfield 226, 3) ∧ decode cX11_unlike 132 = .ok (.iload 7, 2) := by decide +kernel
theorem eX11_unlike_134 : decode cX11_unlike 134 = .ok (.iaload, 1) ∧ decode cX11_unlike 135 = .ok (.aload_n 0, 1) ∧ decode cX11_unlike 136 = .ok (.getfield 53, 3) ∧ decode cX11_unlike 139 = .ok (.getfield 226, 3) ∧ decode cX11_unlike 142 = .ok (.iload 8, 2) ∧ decode cX11_unlike 144 = .ok (.iaload, 1) ∧ decode cX11_unlike 145 = .ok (.if_icmp .ne 7, 3) ∧ decode cX11_unlike 148 = .ok (.iconst 1, 1) := by decide +kernel
theorem eX11_unlike_149 : decode cX11_unlike 149 = .ok (.goto 4, 3) ∧ decode cX11_unlike 152 = .ok (.iconst 0, 1) ∧ decode cX11_unlike 153 = .ok (.istore 12, 2) ∧ decode cX11_unlike 155 = .ok (.iload 12, 2) ∧ decode cX11_unlike 157 = .ok (.ifCond .ne 17, 3) ∧ decode cX11_unlike 160 = .ok (.iload 6, 2) ∧ decode cX11_unlike 162 = .ok (.iload_n 3, 1) ∧ decode cX11_unlike 163 = .ok (.if_icmp .ne 11, 3) := by decide +kernel
theorem eX11_unlike_166 : decode cX11_unlike 166 = .ok (.iload 10, 2) ∧ decode cX11_unlike 168 = .ok (.iload 11, 2) ∧ decode cX11_unlike 170 = .ok (.invokestatic 367, 3) ∧ decode cX11_unlike 173 = .ok (.ireturn, 1) ∧ decode cX11_unlike 174 = .ok (.iload 6, 2) ∧ decode cX11_unlike 176 = .ok (.iload 12, 2) ∧ decode cX11_unlike 178 = .ok (.ifCond .eq 7, 3) ∧ decode cX11_unlike 181 = .ok (.iconst 0, 1) := by decide +kernel
theorem eX11_unlike_182 : decode cX11_unlike 182 = .ok (.goto 4, 3) ∧ decode cX11_unlike 185 = .ok (.iconst 1, 1) ∧ decode cX11_unlike 186 = .ok (.iadd, 1) ∧ decode cX11_unlike 187 = .ok (.istore 6, 2) ∧ decode cX11_unlike 189 = .ok (.iload 7, 2) ∧ decode cX11_unlike 191 = .ok (.iload 10, 2) ∧ decode cX11_unlike 193 = .ok (.iload 11, 2) ∧ decode cX11_unlike 195 = .ok (.if_icmp .gt 7, 3) := by decide +kernel
theorem eX11_unlike_198 : decode cX11_unlike 198 = .ok (.iconst 1, 1) ∧ decode cX11_unlike 199 = .ok (.goto 4, 3) ∧ decode cX11_unlike 202 = .ok (.iconst 0, 1) ∧ decode cX11_unlike 203 = .ok (.iadd, 1) ∧ decode cX11_unlike 204 = .ok (.istore 7, 2) ∧ decode cX11_unlike 206 = .ok (.iload 8, 2) ∧ decode cX11_unlike 208 = .ok (.iload 11, 2) ∧ decode cX11_unlike 210 = .ok (.iload 10, 2) := by decide +kernel
theorem eX11_unlike_212 : decode cX11_unlike 212 = .ok (.if_icmp .gt 7, 3) ∧ decode cX11_unlike 215 = .ok (.iconst 1, 1) ∧ decode cX11_unlike 216 = .ok (.goto 4, 3) ∧ decode cX11_unlike 219 = .ok (.iconst 0, 1) ∧ decode cX11_unlike 220 = .ok (.iadd, 1) ∧ decode cX11_unlike 221 = .ok (.istore 8, 2) ∧ decode cX11_unlike 223 = .ok (.iinc 9 1, 3) ∧ decode cX11_unlike 226 = .ok (.goto (-180), 3) := by decide +kernel
theorem eX11_unlike_229 : decode cX11_unlike 229 = .ok (.iload_n 3, 1) ∧ decode cX11_unlike 230 = .ok (.iconst (-1), 1) ∧ decode cX11_unlike 231 = .ok (.if_icmp .ne 8, 3) ∧ decode cX11_unlike 234 = .ok (.iload 6, 2) ∧ decode cX11_unlike 236 = .ok (.goto 4, 3) ∧ decode cX11_unlike 239 = .ok (.iconst (-1), 1) ∧ decode cX11_unlike 240 = .ok (.ireturn, 1) ∧ decode cX8_become 0 = .ok (.aload_n 0, 1) := by decide +kernel
theorem eX8_become_1 : decode cX8_become 1 = .ok (.aload_n 1, 1) ∧ decode cX8_become 2 = .ok (.getfield 40, 3) ∧ decode cX8_become 5 = .ok (.putfield 40, 3) ∧ decode cX8_become 8 = .ok (.aload_n 0, 1) ∧ decode cX8_become 9 = .ok (.aload_n 1, 1) ∧ decode cX8_become 10 = .ok (.getfield 44, 3) ∧ decode cX8_become 13 = .ok (.putfield 44, 3) ∧ decode cX8_become 16 = .ok (.aload_n 0, 1) := by decide +kernel
theorem eX8_become_17 : decode cX8_become 17 = .ok (.aload_n 1, 1) ∧ decode cX8_become 18 = .ok (.getfield 47, 3) ∧ decode cX8_become 21 = .ok (.putfield 47, 3) ∧ decode cX8_become 24 = .ok (.aload_n 1, 1) ∧ decode cX8_become 25 = .ok (.getfield 9, 3) ∧ decode cX8_become 28 = .ok (.iconst 0, 1) ∧ decode cX8_become 29 = .ok (.aload_n 0, 1) ∧ decode cX8_become 30 = .ok (.getfield 9, 3) := by decide +kernel
theorem eX8_become_33 : decode cX8_become 33 = .ok (.iconst 0, 1) ∧ decode cX8_become 34 = .ok (.bipush 48, 2) ∧ decode cX8_become 36 = .ok (.invokestatic 51, 3) ∧ decode cX8_become 39 = .ok (.aload_n 1, 1) ∧ decode cX8_become 40 = .ok (.getfield 15, 3) ∧ decode cX8_become 43 = .ok (.iconst 0, 1) ∧ decode cX8_become 44 = .ok (.aload_n 0, 1) ∧ decode cX8_become 45 = .ok (.getfield 15, 3) := by decide +kernel
theorem eX8_become_48 : decode cX8_become 48 = .ok (.iconst 0, 1) ∧ decode cX8_become 49 = .ok (.bipush 48, 2) ∧ decode cX8_become 51 = .ok (.invokestatic 51, 3) ∧ decode cX8_become 54 = .ok (.aload_n 1, 1) ∧ decode cX8_become 55 = .ok (.getfield 18, 3) ∧ decode cX8_become 58 = .ok (.iconst 0, 1) ∧ decode cX8_become 59 = .ok (.aload_n 0, 1) ∧ decode cX8_become 60 = .ok (.getfield 18, 3) := by decide +kernel
theorem eX8_become_63 : decode cX8_become 63 = .ok (.iconst 0, 1) ∧ decode cX8_become 64 = .ok (.bipush 48, 2) ∧ decode cX8_become 66 = .ok (.invokestatic 51, 3) ∧ decode cX8_become 69 = .ok (.aload_n 1, 1) ∧ decode cX8_become 70 = .ok (.getfield 21, 3) ∧ decode cX8_become 73 = .ok (.iconst 0, 1) ∧ decode cX8_become 74 = .ok (.aload_n 0, 1) ∧ decode cX8_become 75 = .ok (.getfield 21, 3) := by decide +kernel
theorem eX8_become_78 : decode cX8_become 78 = .ok (.iconst 0, 1) ∧ decode cX8_become 79 = .ok (.bipush 48, 2) ∧ decode cX8_become 81 = .ok (.invokestatic 51, 3) ∧ decode cX8_become 84 = .ok (.aload_n 1, 1) ∧ decode cX8_become 85 = .ok (.getfield 24, 3) ∧ decode cX8_become 88 = .ok (.iconst 0, 1) ∧ decode cX8_become 89 = .ok (.aload_n 0, 1) ∧ decode cX8_become 90 = .ok (.getfield 24, 3) := by decide +kernel
theorem eX8_become_93 : decode cX8_become 93 = .ok (.iconst 0, 1) ∧ decode cX8_become 94 = .ok (.sipush 288, 3) ∧ decode cX8_become 97 = .ok (.invokestatic 51, 3) ∧ decode cX8_become 100 = .ok (.aload_n 1, 1) ∧ decode cX8_become 101 = .ok (.getfield 27, 3) ∧ decode cX8_become 104 = .ok (.iconst 0, 1) ∧ decode cX8_become 105 = .ok (.aload_n 0, 1) ∧ decode cX8_become 106 = .ok (.getfield 27, 3) := by decide +kernel
theorem eX8_become_109 : decode cX8_become 109 = .ok (.iconst 0, 1) ∧ decode cX8_become 110 = .ok (.sipush 288, 3) ∧ decode cX8_become 113 = .ok (.invokestatic 51, 3) ∧ decode cX8_become 116 = .ok (.aload_n 1, 1) ∧ decode cX8_become 117 = .ok (.getfield 30, 3) ∧ decode cX8_become 120 = .ok (.iconst 0, 1) ∧ decode cX8_become 121 = .ok (.aload_n 0, 1) ∧ decode cX8_become 122 = .ok (.getfield 30, 3) := by decide +kernel
theorem eX8_become_125 : decode cX8_become 125 = .ok (.iconst 0, 1) ∧ decode cX8_become 126 = .ok (.bipush 8, 2) ∧ decode cX8_become 128 = .ok (.invokestatic 51, 3) ∧ decode cX8_become 131 = .ok (.aload_n 1, 1) ∧ decode cX8_become 132 = .ok (.getfield 33, 3) ∧ decode cX8_become 135 = .ok (.iconst 0, 1) ∧ decode cX8_become 136 = .ok (.aload_n 0, 1) ∧ decode cX8_become 137 = .ok (.getfield 33, 3) := by decide +kernel
theorem eX8_become_140 : decode cX8_become 140 = .ok (.iconst 0, 1) ∧ decode cX8_become 141 = .ok (.bipush 8, 2) ∧ decode cX8_become 143 = .ok (.invokestatic 51, 3) ∧ decode cX8_become 146 = .ok (.return_, 1) ∧ decode cX8_insert 0 = .ok (.iload_n 2, 1) ∧ decode cX8_insert 1 = .ok (.ifCond .lt 24, 3) ∧ decode cX8_insert 4 = .ok (.iload_n 2, 1) ∧ decode cX8_insert 5 = .ok (.aload_n 0, 1) := by decide +kernel
theorem eX8_insert_6 : decode cX8_insert 6 = .ok (.getfield 21, 3) ∧ decode cX8_insert 9 = .ok (.iload_n 1, 1) ∧ decode cX8_insert 10 = .ok (.iaload, 1) ∧ decode cX8_insert 11 = .ok (.if_icmp .gt 14, 3) ∧ decode cX8_insert 14 = .ok (.aload_n 0, 1) ∧ decode cX8_insert 15 = .ok (.getfield 21, 3) ∧ decode cX8_insert 18 = .ok (.iload_n 1, 1) ∧ decode cX8_insert 19 = .ok (.iaload, 1) := by decide +kernel
theorem eX8_insert_20 : decode cX8_insert 20 = .ok (.bipush 6, 2) ∧ decode cX8_insert 22 = .ok (.if_icmp .lt 4, 3) ∧ decode cX8_insert 25 = .ok (.return_, 1) ∧ decode cX8_insert 26 = .ok (.aload_n 0, 1) ∧ decode cX8_insert 27 = .ok (.iload_n 1, 1) ∧ decode cX8_insert 28 = .ok (.iload_n 2, 1) ∧ decode cX8_insert 29 = .ok (.invokevirtual 73, 3) ∧ decode cX8_insert 32 = .ok (.istore 5, 2) := by decide +kernel
theorem eX8_insert_34 : decode cX8_insert 34 = .ok (.aload_n 0, 1) ∧ decode cX8_insert 35 = .ok (.iload_n 1, 1) ∧ decode cX8_insert 36 = .ok (.aload_n 0, 1) ∧ decode cX8_insert 37 = .ok (.getfield 21, 3) ∧ decode cX8_insert 40 = .ok (.iload_n 1, 1) ∧ decode cX8_insert 41 = .ok (.iaload, 1) ∧ decode cX8_insert 42 = .ok (.invokevirtual 73, 3) ∧ decode cX8_insert 45 = .ok (.istore 6, 2) := by decide +kernel
theorem eX8_insert_47 : decode cX8_insert 47 = .ok (.iload 6, 2) ∧ decode cX8_insert 49 = .ok (.iload 5, 2) ∧ decode cX8_insert 51 = .ok (.if_icmp .le 41, 3) ∧ decode cX8_insert 54 = .ok (.aload_n 0, 1) ∧ decode cX8_insert 55 = .ok (.getfield 24, 3) ∧ decode cX8_insert 58 = .ok (.iload 6, 2) ∧ decode cX8_insert 60 = .ok (.aload_n 0, 1) ∧ decode cX8_insert 61 = .ok (.getfield 24, 3) := by decide +kernel
theorem eX8_insert_64 : decode cX8_insert 64 = .ok (.iload 6, 2) ∧ decode cX8_insert 66 = .ok (.iconst 1, 1) ∧ decode cX8_insert 67 = .ok (.isub, 1) ∧ decode cX8_insert 68 = .ok (.iaload, 1) ∧ decode cX8_insert 69 = .ok (.iastore, 1) ∧ decode cX8_insert 70 = .ok (.aload_n 0, 1) ∧ decode cX8_insert 71 = .ok (.getfield 27, 3) ∧ decode cX8_insert 74 = .ok (.iload 6, 2) := by decide +kernel
theorem eX8_insert_76 : decode cX8_insert 76 = .ok (.aload_n 0, 1) ∧ decode cX8_insert 77 = .ok (.getfield 27, 3) ∧ decode cX8_insert 80 = .ok (.iload 6, 2) ∧ decode cX8_insert 82 = .ok (.iconst 1, 1) ∧ decode cX8_insert 83 = .ok (.isub, 1) ∧ decode cX8_insert 84 = .ok (.iaload, 1) ∧ decode cX8_insert 85 = .ok (.iastore, 1) ∧ decode cX8_insert 86 = .ok (.iinc 6 (-1), 3) := by decide +kernel
theorem eX8_insert_89 : decode cX8_insert 89 = .ok (.goto (-42), 3) ∧ decode cX8_insert 92 = .ok (.aload_n 0, 1) ∧ decode cX8_insert 93 = .ok (.getfield 24, 3) ∧ decode cX8_insert 96 = .ok (.iload 5, 2) ∧ decode cX8_insert 98 = .ok (.iload_n 3, 1) ∧ decode cX8_insert 99 = .ok (.iastore, 1) ∧ decode cX8_insert 100 = .ok (.aload_n 0, 1) ∧ decode cX8_insert 101 = .ok (.getfield 27, 3) := by decide +kernel
theorem eX8_insert_104 : decode cX8_insert 104 = .ok (.iload 5, 2) ∧ decode cX8_insert 106 = .ok (.iload 4, 2) ∧ decode cX8_insert 108 = .ok (.iastore, 1) ∧ decode cX8_insert 109 = .ok (.aload_n 0, 1) ∧ decode cX8_insert 110 = .ok (.getfield 21, 3) ∧ decode cX8_insert 113 = .ok (.iload_n 1, 1) ∧ decode cX8_insert 114 = .ok (.dup2, 1) ∧ decode cX8_insert 115 = .ok (.iaload, 1) := by decide +kernel
theorem eX8_insert_116 : decode cX8_insert 116 = .ok (.iconst 1, 1) ∧ decode cX8_insert 117 = .ok (.iadd, 1) ∧ decode cX8_insert 118 = .ok (.iastore, 1) ∧ decode cX8_insert 119 = .ok (.aload_n 0, 1) ∧ decode cX8_insert 120 = .ok (.iload_n 1, 1) ∧ decode cX8_insert 121 = .ok (.invokevirtual 86, 3) ∧ decode cX8_insert 124 = .ok (.return_, 1) ∧ decode cX8_mark 0 = .ok (.aload_n 0, 1) := by decide +kernel
theorem eX8_mark_1 : decode cX8_mark 1 = .ok (.dup, 1) ∧ decode cX8_mark 2 = .ok (.getfield 47, 3) ∧ decode cX8_mark 5 = .ok (.lconst 1, 1) ∧ decode cX8_mark 6 = .ok (.iload_n 1, 1) ∧ decode cX8_mark 7 = .ok (.lshl, 1) ∧ decode cX8_mark 8 = .ok (.lor, 1) ∧ decode cX8_mark 9 = .ok (.putfield 47, 3) ∧ decode cX8_mark 12 = .ok (.return_, 1) := by decide +kernel
set_option maxHeartbeats 4000000 in
set_option maxRecDepth 100000 in
theorem k_x10_tree_v2 (l : Launch) (D : va_G) (a : Nat → Nat) (p1 : Int) (sz : Nat) (s : MS) (o : (Int × MS)) (h : m_x10_tree_v2 p1 s = some o) : yWl l yX10_tree cX10_tree 8 (some .long) { frames := 1, cells := 0, slots := 0, locals := 60 } D sz [.ref (a 25), .ref (a 53), .int (i2 p1)] (CS D a s) (CS D a o.2) (i8 o.1) := by
  refine Met.ofW (cc := cX10_tree) (maxL := 8) (ret := (some .long)) (by decide) rfl ?_
  intro p e s₀ m args below meth c s₁ B hml hv
  obtain ⟨rfl, ⟨hsz, hP, hK, hD0⟩, hN⟩ := hv
  have hx := B.exec
  have hb := B.bytes
  have hr := B.returns
  have hts := atoms_spec (ws := wz yX10_tree cX10_tree 8 (some .long)) B.pre
  have ht : ∀ w ∈ lw_gd, w.before _ s₀ = true := fun w h => hts w (List.mem_cons_of_mem _ h)
  have hown : s₀.vm.findClass RX10 = some m.cls := findClass_of_methodNamed B.named
  have hlocks := B.notSynchronized
  subst hsz
  have hD := hD0.self (sz := s₀.heap.size)
  generalize hAe : va_A (CS D a s) s₀.heap.size = A at hD ⊢
  have hA : ∀ q : Nat, s₀.heap.size ≤ q → A q := fun q h => by rw [← hAe]; exact Or.inr h
  have hS : va_S A s₀.heap s₀.heap [] := va_S.rf
  have hDD : ∀ t : MS, va_D A (CS D a t) := fun t => CW_D t hD
  have hl := lv_entry ([.ref (a 25), .ref (a 53), .int (i2 p1)]) (n := 8) (Nat.le_of_ble_eq_true rfl)
  rw [lg_entry_eq]
  generalize (lg_sl ([.ref (a 25), .ref (a 53), .int (i2 p1)]) ++ List.replicate (8 - (lg_sl ([.ref (a 25), .ref (a 53), .int (i2 p1)])).length) Slot.unset).toArray = ls at hl ⊢
  have hl : lv_has ls 8 [(0, .ref (a 25)), (1, .ref (a 53)), (2, .int (i2 p1))] := hl
  unfold m_x10_tree_v2 at h
  refine y_head (pcJ := 161) (σ := Int × MS) (fun u H locs ls => va_P D vwCl (CS D a u.2) H ∧ va_S A s₀.heap H locs ∧ lv_has ls 8 [(3, .long (i8 u.1))] ∧ m_x10_tree_v2_J161 u.1 u.2 = some o) (fun u => []) (fun u H locs ls hI => ?_) (fun J161 => ?_)
  · obtain ⟨hP, hS, hl, h⟩ := hI
    obtain ⟨z1, s2⟩ := u
    have hP : va_P D vwCl (CS D a s2) H := hP
    have hl : lv_has ls 8 [(3, .long (i8 z1))] := hl
    have h : m_x10_tree_v2_J161 z1 s2 = some o := h
    unfold m_x10_tree_v2_J161 at h
    refine lv_lload_n hx hb eX10_tree_155.2.2.1 rfl (lv_at hl 0 rfl) ?_
    obtain rfl := Option.some.inj h
    exact W.lret (v := (i8 z1)) hx hb hr (fun t ht hW => ⟨⟨_, (), rfl, rfl, by rw [ht]; exact hP, va_K.moved hW.alike hK, hDD _⟩, hS.F ht⟩) hS.2.2 eX10_tree_155.2.2.2.1
  refine y_loop (pcJ := 30) (σ := Int × Int × MS) (fun n u H locs ls => va_P D vwCl (CS D a u.2.2) H ∧ va_S A s₀.heap H locs ∧ lv_has ls 8 [(0, .ref (a 25)), (1, .ref (a 53)), (3, .long (i8 u.1)), (5, .int (i2 u.2.1))] ∧ m_x10_tree_v2_L30 n u.1 u.2.1 u.2.2 = some o) (fun u => []) (fun u H locs ls hI => by obtain ⟨_, _, _, h⟩ := hI; cases h) (fun n30 ih30 u H locs ls hI => ?_) (fun J30 => ?_)
  · obtain ⟨hP, hS, hl, h⟩ := hI
    obtain ⟨z3, x4, s5⟩ := u
    have hP : va_P D vwCl (CS D a s5) H := hP
    have hl : lv_has ls 8 [(0, .ref (a 25)), (1, .ref (a 53)), (3, .long (i8 z3)), (5, .int (i2 x4))] := hl
    have h : m_x10_tree_v2_b30 (m_x10_tree_v2_L30 n30) z3 x4 s5 = some o := h
    unfold m_x10_tree_v2_b30 at h
    refine y_head (pcJ := 155) (σ := Int × Int × MS) (fun u H locs ls => va_P D vwCl (CS D a u.2.2) H ∧ va_S A s₀.heap H locs ∧ lv_has ls 8 [(0, .ref (a 25)), (1, .ref (a 53)), (3, .long (i8 u.1)), (5, .int (i2 u.2.1))] ∧ m_x10_tree_v2_J155 (m_x10_tree_v2_L30 n30) u.1 u.2.1 u.2.2 = some o) (fun u => []) (fun u H locs ls hI => ?_) (fun J155 => ?_)
    · obtain ⟨hP, hS, hl, h⟩ := hI
      obtain ⟨z6, x7, s8⟩ := u
      have hP : va_P D vwCl (CS D a s8) H := hP
      have hl : lv_has ls 8 [(0, .ref (a 25)), (1, .ref (a 53)), (3, .long (i8 z6)), (5, .int (i2 x7))] := hl
      have h : m_x10_tree_v2_J155 (m_x10_tree_v2_L30 n30) z6 x7 s8 = some o := h
      unfold m_x10_tree_v2_J155 at h
      refine lv_iinc (v := i2 (x7 + 1)) (lv' := [(5, .int (i2 (x7 + 1))), (0, .ref (a 25)), (1, .ref (a 53)), (3, .long (i8 z6))]) hx hb eX10_tree_155.1 hl (k := 3) rfl (i2_add x7 1) (by decide) rfl (fun ls hl => ?_)
      refine lv_goto (tgt := 30) hx hb eX10_tree_155.2.1 (by decide) ?_
      exact ih30 (z6, x7 + 1, s8) _ _ _ ⟨hP, hS, lv_sub hl [1, 2, 3, 0] rfl, h⟩
    refine y_loop (pcJ := 82) (σ := Int × Int × Int × Int × MS) (fun n u H locs ls => va_P D vwCl (CS D a u.2.2.2.2) H ∧ va_S A s₀.heap H locs ∧ lv_has ls 8 [(0, .ref (a 25)), (1, .ref (a 53)), (3, .long (i8 u.1)), (5, .int (i2 u.2.1)), (6, .int (i2 u.2.2.1)), (7, .int (i2 u.2.2.2.1))] ∧ m_x10_tree_v2_L82 (m_x10_tree_v2_L30 n30) n u.1 u.2.1 u.2.2.1 u.2.2.2.1 u.2.2.2.2 = some o) (fun u => []) (fun u H locs ls hI => by obtain ⟨_, _, _, h⟩ := hI; cases h) (fun n82 ih82 u H locs ls hI => ?_) (fun J82 => ?_)
    · obtain ⟨hP, hS, hl, h⟩ := hI
      obtain ⟨z9, x10, x11, x12, s13⟩ := u
      have hP : va_P D vwCl (CS D a s13) H := hP
      have hl : lv_has ls 8 [(0, .ref (a 25)), (1, .ref (a 53)), (3, .long (i8 z9)), (5, .int (i2 x10)), (6, .int (i2 x11)), (7, .int (i2 x12))] := hl
      have h : m_x10_tree_v2_b82 (m_x10_tree_v2_L30 n30) (m_x10_tree_v2_L82 (m_x10_tree_v2_L30 n30) n82) z9 x10 x11 x12 s13 = some o := h
      unfold m_x10_tree_v2_b82 at h
      refine lv_iload hx hb eX10_tree_82.1 (lv_at hl 5 rfl) ?_
      refine lv_iload hx hb eX10_tree_82.2.1 (lv_at hl 4 rfl) ?_
      obtain ⟨hr14, h⟩ := rg_e h
      obtain ⟨hr15, h⟩ := rg_e h
      refine lv_icmp_ge (tgt := 155) hx hb eX10_tree_82.2.2.1 (by decide) (fun c16 => ?_) (fun c16 => ?_)
      · have h := if_t ((i2_le (x := x11) (y := x12) hr15 hr14).mp c16) h
        exact J155 (z9, x10, s13) _ _ _ ⟨hP, hS, lv_sub hl [0, 1, 2, 3] rfl, h⟩
      · have h := if_f (mt (i2_le (x := x11) (y := x12) hr15 hr14).mpr c16) h
        refine lv_aload_n hx hb eX10_tree_82.2.2.2.1 rfl (lv_at hl 0 rfl) ?_
        refine va_get (D := D) (ci := 10) (v := .int (i2 (gI s13 501))) (C := RX10) (T := TX10) (N := 4) hx hb ht inX10 hown hK hP 25 CW_25 rfl 1 (by decide) (ht (.fieldLink RX10 21 "CloneVolumes$Walk" "length" "I") fl_X10_21) (fun _ h9 => h9) rfl eX10_tree_82.2.2.2.2.1 ?_
        refine lv_bipush (v := 48) hx hb eX10_tree_82.2.2.2.2.2.1 (by decide) ?_
        obtain ⟨hr17, h⟩ := rg_e h
        refine lv_icmp_ge (tgt := 155) hx hb eX10_tree_82.2.2.2.2.2.2.1 (by decide) (fun c18 => ?_) (fun c18 => ?_)
        · have h := if_t ((i2_le (x := 48) (y := (gI s13 501)) (by decide) hr17).mp c18) h
          exact J155 (z9, x10, s13) _ _ _ ⟨hP, hS, lv_sub hl [0, 1, 2, 3] rfl, h⟩
        · have h := if_f (mt (i2_le (x := 48) (y := (gI s13 501)) (by decide) hr17).mpr c18) h
          refine lv_aload_n hx hb eX10_tree_82.2.2.2.2.2.2.2 rfl (lv_at hl 0 rfl) ?_
          refine va_get (D := D) (ci := 10) (v := .ref (a 26)) (C := RX10) (T := TX10) (N := 4) hx hb ht inX10 hown hK hP 25 CW_25 rfl 0 (by decide) (ht (.fieldLink RX10 9 "CloneVolumes$Walk" "row" "[I") fl_X10_9) (fun _ h9 => h9) rfl eX10_tree_99.1 ?_
          refine lv_aload_n hx hb eX10_tree_99.2.1 rfl (lv_at hl 0 rfl) ?_
          refine va_get (D := D) (ci := 10) (v := .int (i2 (gI s13 501))) (C := RX10) (T := TX10) (N := 4) hx hb ht inX10 hown hK hP 25 CW_25 rfl 1 (by decide) (ht (.fieldLink RX10 21 "CloneVolumes$Walk" "length" "I") fl_X10_21) (fun _ h9 => h9) rfl eX10_tree_99.2.2.1 ?_
          refine lv_aload_n hx hb eX10_tree_99.2.2.2.1 rfl (lv_at hl 1 rfl) ?_
          refine va_get (D := D) (ci := 8) (v := .ref (a 59)) (C := RX8) (T := TX8) (N := 11) hx hb ht inX8 hown hK hP 53 CW_53 rfl 8 (by decide) (ht (.fieldLink RX10 33 "CloneVolumes$State" "values" "[I") fl_X10_33) (fun _ h9 => h9) rfl eX10_tree_99.2.2.2.2.1 ?_
          refine lv_aload_n hx hb eX10_tree_99.2.2.2.2.2.1 rfl (lv_at hl 1 rfl) ?_
          refine lv_aload_n hx hb eX10_tree_99.2.2.2.2.2.2.1 rfl (lv_at hl 0 rfl) ?_
          refine va_get (D := D) (ci := 10) (v := .ref (a 26)) (C := RX10) (T := TX10) (N := 4) hx hb ht inX10 hown hK hP 25 CW_25 rfl 0 (by decide) (ht (.fieldLink RX10 9 "CloneVolumes$Walk" "row" "[I") fl_X10_9) (fun _ h9 => h9) rfl eX10_tree_99.2.2.2.2.2.2.2 ?_
          refine lv_iload hx hb eX10_tree_115.1 (lv_at hl 3 rfl) ?_
          obtain ⟨y19, ey19, iy19, h⟩ := rdI_e h
          refine ya_iald (i := x10) hx hb hK hP 26 0 CW_26 rfl (by decide) ey19 iy19 eX10_tree_115.2.1 ?_
          refine lv_iload hx hb eX10_tree_115.2.2.1 (lv_at hl 5 rfl) ?_
          obtain ⟨r21, hc20, h⟩ := bn_e h
          refine ycV (r0 := i2 r21) (As := [.int (i2 y19), .int (i2 x12)]) (rest := [.ref (a 59), .int (i2 (gI s13 501)), .ref (a 26)]) (C := RX8) (n := 2) ⟨hx, hb, hml, hown, ht⟩ (k_x8_slot l D a y19 x12 _ _ hc20) (zgV ml_X10_34 im_X8_slot se_X8_slot in_X8 co_X8_slot) rfl rfl (by decide +kernel) ⟨Nat.le_of_ble_eq_true rfl, Nat.le_of_ble_eq_true rfl⟩ hN hK hP hS 53 CW_53 rfl rfl rfl hl.1 rfl (Nat.le_of_ble_eq_true rfl) eX10_tree_115.2.2.2.1 ⟨Nat.le_of_ble_eq_true rfl, Nat.le_of_ble_eq_true rfl⟩ (fun H locs hP hS => ?_)
          obtain ⟨y22, ey22, iy22, h⟩ := rdI_e h
          refine ya_iald (i := r21) hx hb hK hP 59 0 CW_59 rfl (by decide) ey22 iy22 eX10_tree_115.2.2.2.2.1 ?_
          obtain ⟨hi23, h⟩ := inb_e h
          refine ya_iast (i := (gI s13 501)) (x := y22) hx hb hK hP (hDD _) hS 26 0 CW_26 rfl (by decide) hi23 eX10_tree_115.2.2.2.2.2.1 (CW_w26 _) (fun H locs hP hS => ?_)
          obtain ⟨s24, hs24, h⟩ := st_e h
          rw [hs24] at hP
          refine lv_lload_n hx hb eX10_tree_115.2.2.2.2.2.2.1 rfl (lv_at hl 2 rfl) ?_
          refine lv_lconst (v := 1) hx hb eX10_tree_115.2.2.2.2.2.2.2 (by decide) ?_
          refine lv_aload_n hx hb eX10_tree_127.1 rfl (lv_at hl 0 rfl) ?_
          refine va_get (D := D) (ci := 10) (v := .ref (a 26)) (C := RX10) (T := TX10) (N := 4) hx hb ht inX10 hown hK hP 25 CW_25 rfl 0 (by decide) (ht (.fieldLink RX10 9 "CloneVolumes$Walk" "row" "[I") fl_X10_9) (fun _ h9 => h9) rfl eX10_tree_127.2.1 ?_
          refine lv_aload_n hx hb eX10_tree_127.2.2.1 rfl (lv_at hl 0 rfl) ?_
          refine va_get (D := D) (ci := 10) (v := .int (i2 (gI s24 501))) (C := RX10) (T := TX10) (N := 4) hx hb ht inX10 hown hK hP 25 CW_25 rfl 1 (by decide) (ht (.fieldLink RX10 21 "CloneVolumes$Walk" "length" "I") fl_X10_21) (fun _ h9 => h9) rfl eX10_tree_127.2.2.2.1 ?_
          obtain ⟨y25, ey25, iy25, h⟩ := rdI_e h
          refine ya_iald (i := (gI s24 501)) hx hb hK hP 26 0 CW_26 rfl (by decide) ey25 iy25 eX10_tree_127.2.2.2.2.1 ?_
          refine lv_lshl (v := i8 (shlLZ 1 y25)) hx hb eX10_tree_127.2.2.2.2.2.1 (i8_of (shlL (i8 1) (i2 y25))).symm ?_
          refine lv_lor hx hb eX10_tree_127.2.2.2.2.2.2.1 ?_
          refine z_topl (y := i8 (orL z9 (shlLZ 1 y25))) (i8_of (i8 z9 ||| i8 (shlLZ 1 y25))).symm ?_
          refine lv_lstore_n (lv' := [(3, .long (i8 (orL z9 (shlLZ 1 y25)))), (0, .ref (a 25)), (1, .ref (a 53)), (5, .int (i2 x10)), (6, .int (i2 x11)), (7, .int (i2 x12))]) hx hb eX10_tree_127.2.2.2.2.2.2.2 rfl hl (by decide) rfl (fun ls hl => ?_)
          refine lv_aload_n hx hb eX10_tree_139.1 rfl (lv_at hl 1 rfl) ?_
          refine lv_dup hx hb eX10_tree_139.2.1 rfl ?_
          refine va_get (D := D) (ci := 10) (v := .int (i2 (gI s24 501))) (C := RX10) (T := TX10) (N := 4) hx hb ht inX10 hown hK hP 25 CW_25 rfl 1 (by decide) (ht (.fieldLink RX10 21 "CloneVolumes$Walk" "length" "I") fl_X10_21) (fun _ h9 => h9) rfl eX10_tree_139.2.2.1 ?_
          refine lv_iconst (v := 1) hx hb eX10_tree_139.2.2.2.1 (by decide) ?_
          refine lv_iadd hx hb eX10_tree_139.2.2.2.2.1 ?_
          refine z_topi (y := i2 ((gI s24 501) + 1)) (i2_add (gI s24 501) 1) ?_
          refine ya_put (D := D) (ci := 10) (v := .int (i2 ((gI s24 501) + 1))) (ty := .int) (C := RX10) (T := TX10) (N := 4) hx hb ht inX10 tyX10 tyX10_ok nmX10 hown hK hP (hDD _) hS 25 CW_25 rfl 1 (by decide) (ht (.fieldLink RX10 21 "CloneVolumes$Walk" "length" "I") fl_X10_21) (fun _ h9 => h9) rfl (by decide +kernel) rfl rfl (Nat.le_of_ble_eq_true rfl) eX10_tree_139.2.2.2.2.2.1 (CW_w25_1 ((gI s24 501) + 1)) (fun H locs hP hS => ?_)
          obtain ⟨s26, hs26, h⟩ := st_e h
          rw [hs26] at hP
          refine lv_iinc (v := i2 (x12 + 1)) (lv' := [(7, .int (i2 (x12 + 1))), (3, .long (i8 (orL z9 (shlLZ 1 y25)))), (0, .ref (a 25)), (1, .ref (a 53)), (5, .int (i2 x10)), (6, .int (i2 x11))]) hx hb eX10_tree_139.2.2.2.2.2.2.1 hl (k := 5) rfl (i2_add x12 1) (by decide) rfl (fun ls hl => ?_)
          refine lv_goto (tgt := 82) hx hb eX10_tree_139.2.2.2.2.2.2.2 (by decide) ?_
          exact ih82 (orL z9 (shlLZ 1 y25), x10, x11, x12 + 1, s26) _ _ _ ⟨hP, hS, lv_sub hl [2, 3, 1, 4, 5, 0] rfl, h⟩
    refine y_head (pcJ := 77) (σ := Int × Int × Int × MS) (fun u H locs ls => va_P D vwCl (CS D a u.2.2.2) H ∧ va_S A s₀.heap H locs ∧ lv_has ls 8 [(0, .ref (a 25)), (1, .ref (a 53)), (3, .long (i8 u.1)), (5, .int (i2 u.2.1))] ∧ m_x10_tree_v2_J77 (m_x10_tree_v2_L30 n30) u.1 u.2.1 u.2.2.1 u.2.2.2 = some o) (fun u => [.int (i2 u.2.2.1)]) (fun u H locs ls hI => ?_) (fun J77 => ?_)
    · obtain ⟨hP, hS, hl, h⟩ := hI
      obtain ⟨z27, x28, x29, s30⟩ := u
      have hP : va_P D vwCl (CS D a s30) H := hP
      have hl : lv_has ls 8 [(0, .ref (a 25)), (1, .ref (a 53)), (3, .long (i8 z27)), (5, .int (i2 x28))] := hl
      have h : m_x10_tree_v2_J77 (m_x10_tree_v2_L30 n30) z27 x28 x29 s30 = some o := h
      unfold m_x10_tree_v2_J77 at h
      refine lv_istore (lv' := [(6, .int (i2 x29)), (0, .ref (a 25)), (1, .ref (a 53)), (3, .long (i8 z27)), (5, .int (i2 x28))]) hx hb eX10_tree_69.2.2.2.2.2.1 hl (by decide) rfl (fun ls hl => ?_)
      refine lv_iconst (v := 0) hx hb eX10_tree_69.2.2.2.2.2.2.1 (by decide) ?_
      refine lv_istore (lv' := [(7, .int 0), (6, .int (i2 x29)), (0, .ref (a 25)), (1, .ref (a 53)), (3, .long (i8 z27)), (5, .int (i2 x28))]) hx hb eX10_tree_69.2.2.2.2.2.2.2 hl (by decide) rfl (fun ls hl => ?_)
      exact J82 FU (z27, x28, x29, 0, s30) _ _ _ ⟨hP, hS, lv_sub hl [2, 3, 4, 5, 1, 0] rfl, h⟩
    refine lv_iload hx hb eX10_tree_24.2.2.2.2.2.1 (lv_at hl 3 rfl) ?_
    refine lv_aload_n hx hb eX10_tree_24.2.2.2.2.2.2.1 rfl (lv_at hl 0 rfl) ?_
    refine va_get (D := D) (ci := 10) (v := .int (i2 (gI s5 501))) (C := RX10) (T := TX10) (N := 4) hx hb ht inX10 hown hK hP 25 CW_25 rfl 1 (by decide) (ht (.fieldLink RX10 21 "CloneVolumes$Walk" "length" "I") fl_X10_21) (fun _ h9 => h9) rfl eX10_tree_24.2.2.2.2.2.2.2 ?_
    obtain ⟨hr31, h⟩ := rg_e h
    obtain ⟨hr32, h⟩ := rg_e h
    refine lv_icmp_ge (tgt := 161) hx hb eX10_tree_36.1 (by decide) (fun c33 => ?_) (fun c33 => ?_)
    · have h := if_t ((i2_le (x := (gI s5 501)) (y := x4) hr32 hr31).mp c33) h
      exact J161 (z3, s5) _ _ _ ⟨hP, hS, lv_sub hl [2] rfl, h⟩
    · have h := if_f (mt (i2_le (x := (gI s5 501)) (y := x4) hr32 hr31).mpr c33) h
      refine lv_iload hx hb eX10_tree_36.2.1 (lv_at hl 3 rfl) ?_
      refine lv_bipush (v := 48) hx hb eX10_tree_36.2.2.1 (by decide) ?_
      obtain ⟨hr34, h⟩ := rg_e h
      refine lv_icmp_ge (tgt := 161) hx hb eX10_tree_36.2.2.2.1 (by decide) (fun c35 => ?_) (fun c35 => ?_)
      · have h := if_t ((i2_le (x := 48) (y := x4) (by decide) hr34).mp c35) h
        exact J161 (z3, s5) _ _ _ ⟨hP, hS, lv_sub hl [2] rfl, h⟩
      · have h := if_f (mt (i2_le (x := 48) (y := x4) (by decide) hr34).mpr c35) h
        refine lv_aload_n hx hb eX10_tree_36.2.2.2.2.1 rfl (lv_at hl 1 rfl) ?_
        refine va_get (D := D) (ci := 8) (v := .ref (a 56)) (C := RX8) (T := TX8) (N := 11) hx hb ht inX8 hown hK hP 53 CW_53 rfl 5 (by decide) (ht (.fieldLink RX10 25 "CloneVolumes$State" "level" "[I") fl_X10_25) (fun _ h9 => h9) rfl eX10_tree_36.2.2.2.2.2.1 ?_
        refine lv_aload_n hx hb eX10_tree_36.2.2.2.2.2.2.1 rfl (lv_at hl 0 rfl) ?_
        refine va_get (D := D) (ci := 10) (v := .ref (a 26)) (C := RX10) (T := TX10) (N := 4) hx hb ht inX10 hown hK hP 25 CW_25 rfl 0 (by decide) (ht (.fieldLink RX10 9 "CloneVolumes$Walk" "row" "[I") fl_X10_9) (fun _ h9 => h9) rfl eX10_tree_36.2.2.2.2.2.2.2 ?_
        refine lv_iload hx hb eX10_tree_54.1 (lv_at hl 3 rfl) ?_
        obtain ⟨y36, ey36, iy36, h⟩ := rdI_e h
        refine ya_iald (i := x4) hx hb hK hP 26 0 CW_26 rfl (by decide) ey36 iy36 eX10_tree_54.2.1 ?_
        obtain ⟨y37, ey37, iy37, h⟩ := rdI_e h
        refine ya_iald (i := y36) hx hb hK hP 56 0 CW_56 rfl (by decide) ey37 iy37 eX10_tree_54.2.2.1 ?_
        obtain ⟨hr38, h⟩ := rg_e h
        refine lv_if_le (tgt := 76) hx hb eX10_tree_54.2.2.2.1 (by decide) (fun c39 => ?_) (fun c39 => ?_)
        · have h := if_t ((i2_le (x := y37) (y := 0) hr38 (by decide)).mp c39) h
          refine lv_iconst (v := 0) hx hb eX10_tree_69.2.2.2.2.1 (by decide) ?_
          exact J77 (z3, x4, 0, s5) _ _ _ ⟨hP, hS, lv_sub hl [0, 1, 2, 3] rfl, h⟩
        · have h := if_f (mt (i2_le (x := y37) (y := 0) hr38 (by decide)).mpr c39) h
          refine lv_aload_n hx hb eX10_tree_54.2.2.2.2.1 rfl (lv_at hl 1 rfl) ?_
          refine va_get (D := D) (ci := 8) (v := .ref (a 57)) (C := RX8) (T := TX8) (N := 11) hx hb ht inX8 hown hK hP 53 CW_53 rfl 6 (by decide) (ht (.fieldLink RX10 30 "CloneVolumes$State" "size" "[I") fl_X10_30) (fun _ h9 => h9) rfl eX10_tree_54.2.2.2.2.2.1 ?_
          refine lv_aload_n hx hb eX10_tree_54.2.2.2.2.2.2.1 rfl (lv_at hl 0 rfl) ?_
          refine va_get (D := D) (ci := 10) (v := .ref (a 26)) (C := RX10) (T := TX10) (N := 4) hx hb ht inX10 hown hK hP 25 CW_25 rfl 0 (by decide) (ht (.fieldLink RX10 9 "CloneVolumes$Walk" "row" "[I") fl_X10_9) (fun _ h9 => h9) rfl eX10_tree_54.2.2.2.2.2.2.2 ?_
          refine lv_iload hx hb eX10_tree_69.1 (lv_at hl 3 rfl) ?_
          obtain ⟨y40, ey40, iy40, h⟩ := rdI_e h
          refine ya_iald (i := x4) hx hb hK hP 26 0 CW_26 rfl (by decide) ey40 iy40 eX10_tree_69.2.1 ?_
          obtain ⟨y41, ey41, iy41, h⟩ := rdI_e h
          refine ya_iald (i := y40) hx hb hK hP 57 0 CW_57 rfl (by decide) ey41 iy41 eX10_tree_69.2.2.1 ?_
          refine lv_goto (tgt := 77) hx hb eX10_tree_69.2.2.2.1 (by decide) ?_
          exact J77 (z3, x4, y41, s5) _ _ _ ⟨hP, hS, lv_sub hl [0, 1, 2, 3] rfl, h⟩
  refine lv_aload_n hx hb eX10_tree_0.1 rfl (lv_at hl 0 rfl) ?_
  refine lv_iconst (v := 0) hx hb eX10_tree_0.2.1 (by decide) ?_
  refine ya_put (D := D) (ci := 10) (v := .int 0) (ty := .int) (C := RX10) (T := TX10) (N := 4) hx hb ht inX10 tyX10 tyX10_ok nmX10 hown hK hP (hDD _) hS 25 CW_25 rfl 1 (by decide) (ht (.fieldLink RX10 21 "CloneVolumes$Walk" "length" "I") fl_X10_21) (fun _ h9 => h9) rfl (by decide +kernel) rfl rfl (Nat.le_of_ble_eq_true rfl) eX10_tree_0.2.2.1 (CW_w25_1 0) (fun H locs hP hS => ?_)
  obtain ⟨s42, hs42, h⟩ := st_e h
  rw [hs42] at hP
  refine lv_iload_n hx hb eX10_tree_0.2.2.2.1 rfl (lv_at hl 2 rfl) ?_
  obtain ⟨hr43, h⟩ := rg_e h
  refine lv_if_ge (tgt := 11) hx hb eX10_tree_0.2.2.2.2.1 (by decide) (fun c44 => ?_) (fun c44 => ?_)
  · have h := if_t ((i2_le (x := 0) (y := p1) (by decide) hr43).mp c44) h
    refine lv_aload_n hx hb eX10_tree_0.2.2.2.2.2.2.2 rfl (lv_at hl 0 rfl) ?_
    refine va_get (D := D) (ci := 10) (v := .ref (a 26)) (C := RX10) (T := TX10) (N := 4) hx hb ht inX10 hown hK hP 25 CW_25 rfl 0 (by decide) (ht (.fieldLink RX10 9 "CloneVolumes$Walk" "row" "[I") fl_X10_9) (fun _ h9 => h9) rfl eX10_tree_12.1 ?_
    refine lv_iconst (v := 0) hx hb eX10_tree_12.2.1 (by decide) ?_
    refine lv_iload_n hx hb eX10_tree_12.2.2.1 rfl (lv_at hl 2 rfl) ?_
    obtain ⟨hi45, h⟩ := inb_e h
    refine ya_iast (i := 0) (x := p1) hx hb hK hP (hDD _) hS 26 0 CW_26 rfl (by decide) hi45 eX10_tree_12.2.2.2.1 (CW_w26 _) (fun H locs hP hS => ?_)
    obtain ⟨s46, hs46, h⟩ := st_e h
    rw [hs46] at hP
    refine lv_aload_n hx hb eX10_tree_12.2.2.2.2.1 rfl (lv_at hl 0 rfl) ?_
    refine lv_iconst (v := 1) hx hb eX10_tree_12.2.2.2.2.2.1 (by decide) ?_
    refine ya_put (D := D) (ci := 10) (v := .int 1) (ty := .int) (C := RX10) (T := TX10) (N := 4) hx hb ht inX10 tyX10 tyX10_ok nmX10 hown hK hP (hDD _) hS 25 CW_25 rfl 1 (by decide) (ht (.fieldLink RX10 21 "CloneVolumes$Walk" "length" "I") fl_X10_21) (fun _ h9 => h9) rfl (by decide +kernel) rfl rfl (Nat.le_of_ble_eq_true rfl) eX10_tree_12.2.2.2.2.2.2.1 (CW_w25_1 1) (fun H locs hP hS => ?_)
    obtain ⟨s47, hs47, h⟩ := st_e h
    rw [hs47] at hP
    refine lv_lconst (v := 1) hx hb eX10_tree_12.2.2.2.2.2.2.2 (by decide) ?_
    refine lv_iload_n hx hb eX10_tree_24.1 rfl (lv_at hl 2 rfl) ?_
    refine lv_lshl (v := i8 (shlLZ 1 p1)) hx hb eX10_tree_24.2.1 (i8_of (shlL (i8 1) (i2 p1))).symm ?_
    refine lv_lstore_n (lv' := [(3, .long (i8 (shlLZ 1 p1))), (0, .ref (a 25)), (1, .ref (a 53)), (2, .int (i2 p1))]) hx hb eX10_tree_24.2.2.1 rfl hl (by decide) rfl (fun ls hl => ?_)
    refine lv_iconst (v := 0) hx hb eX10_tree_24.2.2.2.1 (by decide) ?_
    refine lv_istore (lv' := [(5, .int 0), (3, .long (i8 (shlLZ 1 p1))), (0, .ref (a 25)), (1, .ref (a 53)), (2, .int (i2 p1))]) hx hb eX10_tree_24.2.2.2.2.1 hl (by decide) rfl (fun ls hl => ?_)
    exact J30 FU (shlLZ 1 p1, 0, s47) _ _ _ ⟨hP, hS, lv_sub hl [2, 3, 1, 0] rfl, h⟩
  · have h := if_f (mt (i2_le (x := 0) (y := p1) (by decide) hr43).mpr c44) h
    refine lv_lconst (v := 0) hx hb eX10_tree_0.2.2.2.2.2.1 (by decide) ?_
    obtain rfl := Option.some.inj h
    exact W.lret (v := 0) hx hb hr (fun t ht hW => ⟨⟨_, (), rfl, rfl, by rw [ht]; exact hP, va_K.moved hW.alike hK, hDD _⟩, hS.F ht⟩) hS.2.2 eX10_tree_0.2.2.2.2.2.2.1
set_option maxHeartbeats 4000000 in
set_option maxRecDepth 100000 in
theorem k_x10_gather_v2 (l : Launch) (D : va_G) (a : Nat → Nat) (p1 : Int) (sz : Nat) (s : MS) (o : (Int × MS)) (h : m_x10_gather_v2 p1 s = some o) : yWi l yX10_gather cX10_gather 7 (some .int) { frames := 2, cells := 0, slots := 0, locals := 120 } D sz [.ref (a 25), .ref (a 53), .int (i2 p1)] (CS D a s) (CS D a o.2) (i2 o.1) := by
  refine Met.ofW (cc := cX10_gather) (maxL := 7) (ret := (some .int)) (by decide) rfl ?_
  intro p e s₀ m args below meth c s₁ B hml hv
  obtain ⟨rfl, ⟨hsz, hP, hK, hD0⟩, hN⟩ := hv
  have hx := B.exec
  have hb := B.bytes
  have hr := B.returns
  have hts := atoms_spec (ws := wz yX10_gather cX10_gather 7 (some .int)) B.pre
  have ht : ∀ w ∈ lw_gd, w.before _ s₀ = true := fun w h => hts w (List.mem_cons_of_mem _ h)
  have hown : s₀.vm.findClass RX10 = some m.cls := findClass_of_methodNamed B.named
  have hlocks := B.notSynchronized
  subst hsz
  have hD := hD0.self (sz := s₀.heap.size)
  generalize hAe : va_A (CS D a s) s₀.heap.size = A at hD ⊢
  have hA : ∀ q : Nat, s₀.heap.size ≤ q → A q := fun q h => by rw [← hAe]; exact Or.inr h
  have hS : va_S A s₀.heap s₀.heap [] := va_S.rf
  have hDD : ∀ t : MS, va_D A (CS D a t) := fun t => CW_D t hD
  have hl := lv_entry ([.ref (a 25), .ref (a 53), .int (i2 p1)]) (n := 7) (Nat.le_of_ble_eq_true rfl)
  rw [lg_entry_eq]
  generalize (lg_sl ([.ref (a 25), .ref (a 53), .int (i2 p1)]) ++ List.replicate (7 - (lg_sl ([.ref (a 25), .ref (a 53), .int (i2 p1)])).length) Slot.unset).toArray = ls at hl ⊢
  have hl : lv_has ls 7 [(0, .ref (a 25)), (1, .ref (a 53)), (2, .int (i2 p1))] := hl
  unfold m_x10_gather_v2 at h
  refine y_loop (pcJ := 12) (σ := Int × Int × MS) (fun n u H locs ls => va_P D vwCl (CS D a u.2.2) H ∧ va_S A s₀.heap H locs ∧ lv_has ls 7 [(0, .ref (a 25)), (1, .ref (a 53)), (3, .int (i2 u.1)), (4, .int (i2 u.2.1))] ∧ m_x10_gather_v2_L12 n u.1 u.2.1 u.2.2 = some o) (fun u => []) (fun u H locs ls hI => by obtain ⟨_, _, _, h⟩ := hI; cases h) (fun n12 ih12 u H locs ls hI => ?_) (fun J12 => ?_)
  · obtain ⟨hP, hS, hl, h⟩ := hI
    obtain ⟨x1, x2, s3⟩ := u
    have hP : va_P D vwCl (CS D a s3) H := hP
    have hl : lv_has ls 7 [(0, .ref (a 25)), (1, .ref (a 53)), (3, .int (i2 x1)), (4, .int (i2 x2))] := hl
    have h : m_x10_gather_v2_b12 (m_x10_gather_v2_L12 n12) x1 x2 s3 = some o := h
    unfold m_x10_gather_v2_b12 at h
    refine y_head (pcJ := 128) (σ := Int × Int × MS) (fun u H locs ls => va_P D vwCl (CS D a u.2.2) H ∧ va_S A s₀.heap H locs ∧ lv_has ls 7 [(0, .ref (a 25)), (1, .ref (a 53)), (3, .int (i2 u.1)), (4, .int (i2 u.2.1))] ∧ m_x10_gather_v2_J128 (m_x10_gather_v2_L12 n12) u.1 u.2.1 u.2.2 = some o) (fun u => []) (fun u H locs ls hI => ?_) (fun J128 => ?_)
    · obtain ⟨hP, hS, hl, h⟩ := hI
      obtain ⟨x4, x5, s6⟩ := u
      have hP : va_P D vwCl (CS D a s6) H := hP
      have hl : lv_has ls 7 [(0, .ref (a 25)), (1, .ref (a 53)), (3, .int (i2 x4)), (4, .int (i2 x5))] := hl
      have h : m_x10_gather_v2_J128 (m_x10_gather_v2_L12 n12) x4 x5 s6 = some o := h
      unfold m_x10_gather_v2_J128 at h
      refine lv_iinc (v := i2 (x5 + 1)) (lv' := [(4, .int (i2 (x5 + 1))), (0, .ref (a 25)), (1, .ref (a 53)), (3, .int (i2 x4))]) hx hb eX10_gather_112.2.2.2.2.2.2.2 hl (k := 3) rfl (i2_add x5 1) (by decide) rfl (fun ls hl => ?_)
      refine lv_goto (tgt := 12) hx hb eX10_gather_131.1 (by decide) ?_
      exact ih12 (x4, x5 + 1, s6) _ _ _ ⟨hP, hS, lv_sub hl [1, 2, 3, 0] rfl, h⟩
    refine y_loop (pcJ := 57) (σ := Int × Int × Int × Int × MS) (fun n u H locs ls => va_P D vwCl (CS D a u.2.2.2.2) H ∧ va_S A s₀.heap H locs ∧ lv_has ls 7 [(0, .ref (a 25)), (1, .ref (a 53)), (3, .int (i2 u.1)), (4, .int (i2 u.2.1)), (5, .int (i2 u.2.2.1)), (6, .int (i2 u.2.2.2.1))] ∧ m_x10_gather_v2_L57 (m_x10_gather_v2_L12 n12) n u.1 u.2.1 u.2.2.1 u.2.2.2.1 u.2.2.2.2 = some o) (fun u => []) (fun u H locs ls hI => by obtain ⟨_, _, _, h⟩ := hI; cases h) (fun n57 ih57 u H locs ls hI => ?_) (fun J57 => ?_)
    · obtain ⟨hP, hS, hl, h⟩ := hI
      obtain ⟨x7, x8, x9, x10, s11⟩ := u
      have hP : va_P D vwCl (CS D a s11) H := hP
      have hl : lv_has ls 7 [(0, .ref (a 25)), (1, .ref (a 53)), (3, .int (i2 x7)), (4, .int (i2 x8)), (5, .int (i2 x9)), (6, .int (i2 x10))] := hl
      have h : m_x10_gather_v2_b57 (m_x10_gather_v2_L12 n12) (m_x10_gather_v2_L57 (m_x10_gather_v2_L12 n12) n57) x7 x8 x9 x10 s11 = some o := h
      unfold m_x10_gather_v2_b57 at h
      refine lv_iload hx hb eX10_gather_54.2.2.1 (lv_at hl 5 rfl) ?_
      refine lv_iload hx hb eX10_gather_54.2.2.2.1 (lv_at hl 4 rfl) ?_
      obtain ⟨hr12, h⟩ := rg_e h
      obtain ⟨hr13, h⟩ := rg_e h
      refine lv_icmp_ge (tgt := 128) hx hb eX10_gather_54.2.2.2.2.1 (by decide) (fun c14 => ?_) (fun c14 => ?_)
      · have h := if_t ((i2_le (x := x9) (y := x10) hr13 hr12).mp c14) h
        exact J128 (x7, x8, s11) _ _ _ ⟨hP, hS, lv_sub hl [0, 1, 2, 3] rfl, h⟩
      · have h := if_f (mt (i2_le (x := x9) (y := x10) hr13 hr12).mpr c14) h
        refine lv_iload_n hx hb eX10_gather_54.2.2.2.2.2.1 rfl (lv_at hl 2 rfl) ?_
        refine lv_sipush (v := 288) hx hb eX10_gather_54.2.2.2.2.2.2.1 (by decide) ?_
        obtain ⟨hr15, h⟩ := rg_e h
        refine lv_icmp_ge (tgt := 128) hx hb eX10_gather_54.2.2.2.2.2.2.2 (by decide) (fun c16 => ?_) (fun c16 => ?_)
        · have h := if_t ((i2_le (x := 288) (y := x7) (by decide) hr15).mp c16) h
          exact J128 (x7, x8, s11) _ _ _ ⟨hP, hS, lv_sub hl [0, 1, 2, 3] rfl, h⟩
        · have h := if_f (mt (i2_le (x := 288) (y := x7) (by decide) hr15).mpr c16) h
          refine lv_aload_n hx hb eX10_gather_71.1 rfl (lv_at hl 0 rfl) ?_
          refine va_get (D := D) (ci := 10) (v := .ref (a 27)) (C := RX10) (T := TX10) (N := 4) hx hb ht inX10 hown hK hP 25 CW_25 rfl 2 (by decide) (ht (.fieldLink RX10 15 "CloneVolumes$Walk" "keys" "[I") fl_X10_15) (fun _ h9 => h9) rfl eX10_gather_71.2.1 ?_
          refine lv_iload_n hx hb eX10_gather_71.2.2.1 rfl (lv_at hl 2 rfl) ?_
          refine lv_aload_n hx hb eX10_gather_71.2.2.2.1 rfl (lv_at hl 1 rfl) ?_
          refine va_get (D := D) (ci := 8) (v := .ref (a 58)) (C := RX8) (T := TX8) (N := 11) hx hb ht inX8 hown hK hP 53 CW_53 rfl 7 (by decide) (ht (.fieldLink RX10 42 "CloneVolumes$State" "keys" "[I") fl_X10_42) (fun _ h9 => h9) rfl eX10_gather_71.2.2.2.2.1 ?_
          refine lv_aload_n hx hb eX10_gather_71.2.2.2.2.2.1 rfl (lv_at hl 1 rfl) ?_
          refine lv_aload_n hx hb eX10_gather_71.2.2.2.2.2.2.1 rfl (lv_at hl 0 rfl) ?_
          refine va_get (D := D) (ci := 10) (v := .ref (a 26)) (C := RX10) (T := TX10) (N := 4) hx hb ht inX10 hown hK hP 25 CW_25 rfl 0 (by decide) (ht (.fieldLink RX10 9 "CloneVolumes$Walk" "row" "[I") fl_X10_9) (fun _ h9 => h9) rfl eX10_gather_71.2.2.2.2.2.2.2 ?_
          refine lv_iload hx hb eX10_gather_85.1 (lv_at hl 3 rfl) ?_
          obtain ⟨y17, ey17, iy17, h⟩ := rdI_e h
          refine ya_iald (i := x8) hx hb hK hP 26 0 CW_26 rfl (by decide) ey17 iy17 eX10_gather_85.2.1 ?_
          refine lv_iload hx hb eX10_gather_85.2.2.1 (lv_at hl 5 rfl) ?_
          obtain ⟨r19, hc18, h⟩ := bn_e h
          refine ycV (r0 := i2 r19) (As := [.int (i2 y17), .int (i2 x10)]) (rest := [.ref (a 58), .int (i2 x7), .ref (a 27)]) (C := RX8) (n := 2) ⟨hx, hb, hml, hown, ht⟩ (k_x8_slot l D a y17 x10 _ _ hc18) (zgV ml_X10_34 im_X8_slot se_X8_slot in_X8 co_X8_slot) rfl rfl (by decide +kernel) ⟨Nat.le_of_ble_eq_true rfl, Nat.le_of_ble_eq_true rfl⟩ hN hK hP hS 53 CW_53 rfl rfl rfl hl.1 rfl (Nat.le_of_ble_eq_true rfl) eX10_gather_85.2.2.2.1 ⟨Nat.le_of_ble_eq_true rfl, Nat.le_of_ble_eq_true rfl⟩ (fun H locs hP hS => ?_)
          obtain ⟨y20, ey20, iy20, h⟩ := rdI_e h
          refine ya_iald (i := r19) hx hb hK hP 58 0 CW_58 rfl (by decide) ey20 iy20 eX10_gather_85.2.2.2.2.1 ?_
          obtain ⟨hi21, h⟩ := inb_e h
          refine ya_iast (i := x7) (x := y20) hx hb hK hP (hDD _) hS 27 0 CW_27 rfl (by decide) hi21 eX10_gather_85.2.2.2.2.2.1 (CW_w27 _) (fun H locs hP hS => ?_)
          obtain ⟨s22, hs22, h⟩ := st_e h
          rw [hs22] at hP
          refine lv_aload_n hx hb eX10_gather_85.2.2.2.2.2.2.1 rfl (lv_at hl 0 rfl) ?_
          refine va_get (D := D) (ci := 10) (v := .ref (a 28)) (C := RX10) (T := TX10) (N := 4) hx hb ht inX10 hown hK hP 25 CW_25 rfl 3 (by decide) (ht (.fieldLink RX10 18 "CloneVolumes$Walk" "values" "[I") fl_X10_18) (fun _ h9 => h9) rfl eX10_gather_85.2.2.2.2.2.2.2 ?_
          refine lv_iload_n hx hb eX10_gather_99.1 rfl (lv_at hl 2 rfl) ?_
          refine lv_aload_n hx hb eX10_gather_99.2.1 rfl (lv_at hl 1 rfl) ?_
          refine va_get (D := D) (ci := 8) (v := .ref (a 59)) (C := RX8) (T := TX8) (N := 11) hx hb ht inX8 hown hK hP 53 CW_53 rfl 8 (by decide) (ht (.fieldLink RX10 33 "CloneVolumes$State" "values" "[I") fl_X10_33) (fun _ h9 => h9) rfl eX10_gather_99.2.2.1 ?_
          refine lv_aload_n hx hb eX10_gather_99.2.2.2.1 rfl (lv_at hl 1 rfl) ?_
          refine lv_aload_n hx hb eX10_gather_99.2.2.2.2.1 rfl (lv_at hl 0 rfl) ?_
          refine va_get (D := D) (ci := 10) (v := .ref (a 26)) (C := RX10) (T := TX10) (N := 4) hx hb ht inX10 hown hK hP 25 CW_25 rfl 0 (by decide) (ht (.fieldLink RX10 9 "CloneVolumes$Walk" "row" "[I") fl_X10_9) (fun _ h9 => h9) rfl eX10_gather_99.2.2.2.2.2.1 ?_
          refine lv_iload hx hb eX10_gather_99.2.2.2.2.2.2.1 (lv_at hl 3 rfl) ?_
          obtain ⟨y23, ey23, iy23, h⟩ := rdI_e h
          refine ya_iald (i := x8) hx hb hK hP 26 0 CW_26 rfl (by decide) ey23 iy23 eX10_gather_99.2.2.2.2.2.2.2 ?_
          refine lv_iload hx hb eX10_gather_112.1 (lv_at hl 5 rfl) ?_
          obtain ⟨r25, hc24, h⟩ := bn_e h
          refine ycV (r0 := i2 r25) (As := [.int (i2 y23), .int (i2 x10)]) (rest := [.ref (a 59), .int (i2 x7), .ref (a 28)]) (C := RX8) (n := 2) ⟨hx, hb, hml, hown, ht⟩ (k_x8_slot l D a y23 x10 _ _ hc24) (zgV ml_X10_34 im_X8_slot se_X8_slot in_X8 co_X8_slot) rfl rfl (by decide +kernel) ⟨Nat.le_of_ble_eq_true rfl, Nat.le_of_ble_eq_true rfl⟩ hN hK hP hS 53 CW_53 rfl rfl rfl hl.1 rfl (Nat.le_of_ble_eq_true rfl) eX10_gather_112.2.1 ⟨Nat.le_of_ble_eq_true rfl, Nat.le_of_ble_eq_true rfl⟩ (fun H locs hP hS => ?_)
          obtain ⟨y26, ey26, iy26, h⟩ := rdI_e h
          refine ya_iald (i := r25) hx hb hK hP 59 0 CW_59 rfl (by decide) ey26 iy26 eX10_gather_112.2.2.1 ?_
          obtain ⟨hi27, h⟩ := inb_e h
          refine ya_iast (i := x7) (x := y26) hx hb hK hP (hDD _) hS 28 0 CW_28 rfl (by decide) hi27 eX10_gather_112.2.2.2.1 (CW_w28 _) (fun H locs hP hS => ?_)
          obtain ⟨s28, hs28, h⟩ := st_e h
          rw [hs28] at hP
          refine lv_iinc (v := i2 (x7 + 1)) (lv' := [(3, .int (i2 (x7 + 1))), (0, .ref (a 25)), (1, .ref (a 53)), (4, .int (i2 x8)), (5, .int (i2 x9)), (6, .int (i2 x10))]) hx hb eX10_gather_112.2.2.2.2.1 hl (k := 2) rfl (i2_add x7 1) (by decide) rfl (fun ls hl => ?_)
          refine lv_iinc (v := i2 (x10 + 1)) (lv' := [(6, .int (i2 (x10 + 1))), (3, .int (i2 (x7 + 1))), (0, .ref (a 25)), (1, .ref (a 53)), (4, .int (i2 x8)), (5, .int (i2 x9))]) hx hb eX10_gather_112.2.2.2.2.2.1 hl (k := 5) rfl (i2_add x10 1) (by decide) rfl (fun ls hl => ?_)
          refine lv_goto (tgt := 57) hx hb eX10_gather_112.2.2.2.2.2.2.1 (by decide) ?_
          exact ih57 (x7 + 1, x8, x9, x10 + 1, s28) _ _ _ ⟨hP, hS, lv_sub hl [2, 3, 1, 4, 5, 0] rfl, h⟩
    refine y_head (pcJ := 52) (σ := Int × Int × Int × MS) (fun u H locs ls => va_P D vwCl (CS D a u.2.2.2) H ∧ va_S A s₀.heap H locs ∧ lv_has ls 7 [(0, .ref (a 25)), (1, .ref (a 53)), (3, .int (i2 u.1)), (4, .int (i2 u.2.1))] ∧ m_x10_gather_v2_J52 (m_x10_gather_v2_L12 n12) u.1 u.2.1 u.2.2.1 u.2.2.2 = some o) (fun u => [.int (i2 u.2.2.1)]) (fun u H locs ls hI => ?_) (fun J52 => ?_)
    · obtain ⟨hP, hS, hl, h⟩ := hI
      obtain ⟨x29, x30, x31, s32⟩ := u
      have hP : va_P D vwCl (CS D a s32) H := hP
      have hl : lv_has ls 7 [(0, .ref (a 25)), (1, .ref (a 53)), (3, .int (i2 x29)), (4, .int (i2 x30))] := hl
      have h : m_x10_gather_v2_J52 (m_x10_gather_v2_L12 n12) x29 x30 x31 s32 = some o := h
      unfold m_x10_gather_v2_J52 at h
      refine lv_istore (lv' := [(5, .int (i2 x31)), (0, .ref (a 25)), (1, .ref (a 53)), (3, .int (i2 x29)), (4, .int (i2 x30))]) hx hb eX10_gather_40.2.2.2.2.2.2.2 hl (by decide) rfl (fun ls hl => ?_)
      refine lv_iconst (v := 0) hx hb eX10_gather_54.1 (by decide) ?_
      refine lv_istore (lv' := [(6, .int 0), (5, .int (i2 x31)), (0, .ref (a 25)), (1, .ref (a 53)), (3, .int (i2 x29)), (4, .int (i2 x30))]) hx hb eX10_gather_54.2.1 hl (by decide) rfl (fun ls hl => ?_)
      exact J57 FU (x29, x30, x31, 0, s32) _ _ _ ⟨hP, hS, lv_sub hl [2, 3, 4, 5, 1, 0] rfl, h⟩
    refine lv_iload hx hb eX10_gather_9.2.2.1 (lv_at hl 3 rfl) ?_
    refine lv_aload_n hx hb eX10_gather_9.2.2.2.1 rfl (lv_at hl 0 rfl) ?_
    refine va_get (D := D) (ci := 10) (v := .int (i2 (gI s3 501))) (C := RX10) (T := TX10) (N := 4) hx hb ht inX10 hown hK hP 25 CW_25 rfl 1 (by decide) (ht (.fieldLink RX10 21 "CloneVolumes$Walk" "length" "I") fl_X10_21) (fun _ h9 => h9) rfl eX10_gather_9.2.2.2.2.1 ?_
    obtain ⟨hr33, h⟩ := rg_e h
    obtain ⟨hr34, h⟩ := rg_e h
    refine lv_icmp_ge (tgt := 134) hx hb eX10_gather_9.2.2.2.2.2.1 (by decide) (fun c35 => ?_) (fun c35 => ?_)
    · have h := if_t ((i2_le (x := (gI s3 501)) (y := x2) hr34 hr33).mp c35) h
      refine lv_iload_n hx hb eX10_gather_131.2.1 rfl (lv_at hl 2 rfl) ?_
      obtain rfl := Option.some.inj h
      exact W.iret (v := (i2 x1)) hx hb hr (fun t ht hW => ⟨⟨_, (), rfl, rfl, by rw [ht]; exact hP, va_K.moved hW.alike hK, hDD _⟩, hS.F ht⟩) hS.2.2 eX10_gather_131.2.2.1
    · have h := if_f (mt (i2_le (x := (gI s3 501)) (y := x2) hr34 hr33).mpr c35) h
      refine lv_aload_n hx hb eX10_gather_9.2.2.2.2.2.2.1 rfl (lv_at hl 1 rfl) ?_
      refine va_get (D := D) (ci := 8) (v := .ref (a 56)) (C := RX8) (T := TX8) (N := 11) hx hb ht inX8 hown hK hP 53 CW_53 rfl 5 (by decide) (ht (.fieldLink RX10 25 "CloneVolumes$State" "level" "[I") fl_X10_25) (fun _ h9 => h9) rfl eX10_gather_9.2.2.2.2.2.2.2 ?_
      refine lv_aload_n hx hb eX10_gather_25.1 rfl (lv_at hl 0 rfl) ?_
      refine va_get (D := D) (ci := 10) (v := .ref (a 26)) (C := RX10) (T := TX10) (N := 4) hx hb ht inX10 hown hK hP 25 CW_25 rfl 0 (by decide) (ht (.fieldLink RX10 9 "CloneVolumes$Walk" "row" "[I") fl_X10_9) (fun _ h9 => h9) rfl eX10_gather_25.2.1 ?_
      refine lv_iload hx hb eX10_gather_25.2.2.1 (lv_at hl 3 rfl) ?_
      obtain ⟨y36, ey36, iy36, h⟩ := rdI_e h
      refine ya_iald (i := x2) hx hb hK hP 26 0 CW_26 rfl (by decide) ey36 iy36 eX10_gather_25.2.2.2.1 ?_
      obtain ⟨y37, ey37, iy37, h⟩ := rdI_e h
      refine ya_iald (i := y36) hx hb hK hP 56 0 CW_56 rfl (by decide) ey37 iy37 eX10_gather_25.2.2.2.2.1 ?_
      obtain ⟨hr38, h⟩ := rg_e h
      refine lv_if_ne (tgt := 51) hx hb eX10_gather_25.2.2.2.2.2.1 (by decide) (fun c39 => ?_) (fun c39 => ?_)
      · have h := if_f (mt (i2_eq (x := y37) (y := 0) hr38 (by decide)).mpr c39) h
        refine lv_iconst (v := 0) hx hb eX10_gather_40.2.2.2.2.2.2.1 (by decide) ?_
        exact J52 (x1, x2, 0, s3) _ _ _ ⟨hP, hS, lv_sub hl [0, 1, 2, 3] rfl, h⟩
      · have h := if_t ((i2_eq (x := y37) (y := 0) hr38 (by decide)).mp c39) h
        refine lv_aload_n hx hb eX10_gather_25.2.2.2.2.2.2.1 rfl (lv_at hl 1 rfl) ?_
        refine va_get (D := D) (ci := 8) (v := .ref (a 57)) (C := RX8) (T := TX8) (N := 11) hx hb ht inX8 hown hK hP 53 CW_53 rfl 6 (by decide) (ht (.fieldLink RX10 30 "CloneVolumes$State" "size" "[I") fl_X10_30) (fun _ h9 => h9) rfl eX10_gather_25.2.2.2.2.2.2.2 ?_
        refine lv_aload_n hx hb eX10_gather_40.1 rfl (lv_at hl 0 rfl) ?_
        refine va_get (D := D) (ci := 10) (v := .ref (a 26)) (C := RX10) (T := TX10) (N := 4) hx hb ht inX10 hown hK hP 25 CW_25 rfl 0 (by decide) (ht (.fieldLink RX10 9 "CloneVolumes$Walk" "row" "[I") fl_X10_9) (fun _ h9 => h9) rfl eX10_gather_40.2.1 ?_
        refine lv_iload hx hb eX10_gather_40.2.2.1 (lv_at hl 3 rfl) ?_
        obtain ⟨y40, ey40, iy40, h⟩ := rdI_e h
        refine ya_iald (i := x2) hx hb hK hP 26 0 CW_26 rfl (by decide) ey40 iy40 eX10_gather_40.2.2.2.1 ?_
        obtain ⟨y41, ey41, iy41, h⟩ := rdI_e h
        refine ya_iald (i := y40) hx hb hK hP 57 0 CW_57 rfl (by decide) ey41 iy41 eX10_gather_40.2.2.2.2.1 ?_
        refine lv_goto (tgt := 52) hx hb eX10_gather_40.2.2.2.2.2.1 (by decide) ?_
        exact J52 (x1, x2, y41, s3) _ _ _ ⟨hP, hS, lv_sub hl [0, 1, 2, 3] rfl, h⟩
  refine lv_aload_n hx hb eJ13_bitCount_95d88_60.2.1 rfl (lv_at hl 0 rfl) ?_
  refine lv_aload_n hx hb eJ13_bitCount_95d88_60.2.2.1 rfl (lv_at hl 1 rfl) ?_
  refine lv_iload_n hx hb eJ13_bitCount_95d88_60.2.2.2.1 rfl (lv_at hl 2 rfl) ?_
  obtain ⟨⟨rl44, s43⟩, hc42, h⟩ := bn_e h
  refine ywVl (r0 := i8 rl44) (As := [.ref (a 53), .int (i2 p1)]) (rest := []) (C := RX10) (n := 2) (ws' := CS D a s43) ⟨hx, hb, hml, hown, ht⟩ (k_x10_tree_v2 l D a p1 _ _ _ hc42) (zgV ml_X10_38 im_X10_tree se_X10_tree in_X10 co_X10_tree) rfl rfl (by decide +kernel) ⟨Nat.le_of_ble_eq_true rfl, Nat.le_of_ble_eq_true rfl⟩ hN hK hP (hDD _) hS hA 25 CW_25 rfl rfl rfl hl.1 rfl (Nat.le_of_ble_eq_true rfl) eJ13_bitCount_95d88_60.2.2.2.2.1 ⟨Nat.le_of_ble_eq_true rfl, Nat.le_of_ble_eq_true rfl⟩ (fun H locs hP hS => ?_)
  refine lv_pop2_2 hx hb eJ13_bitCount_95d88_60.2.2.2.2.2.1 rfl ?_
  refine lv_iconst (v := 0) hx hb eJ13_bitCount_95d88_60.2.2.2.2.2.2.1 (by decide) ?_
  refine lv_istore_n (lv' := [(3, .int 0), (0, .ref (a 25)), (1, .ref (a 53)), (2, .int (i2 p1))]) hx hb eJ13_bitCount_95d88_60.2.2.2.2.2.2.2 rfl hl (by decide) rfl (fun ls hl => ?_)
  refine lv_iconst (v := 0) hx hb eX10_gather_9.1 (by decide) ?_
  refine lv_istore (lv' := [(4, .int 0), (3, .int 0), (0, .ref (a 25)), (1, .ref (a 53)), (2, .int (i2 p1))]) hx hb eX10_gather_9.2.1 hl (by decide) rfl (fun ls hl => ?_)
  exact J12 FU (0, 0, s43) _ _ _ ⟨hP, hS, lv_sub hl [2, 3, 1, 0] rfl, h⟩
set_option maxHeartbeats 4000000 in
set_option maxRecDepth 100000 in
theorem k_x11_unlike (l : Launch) (D : va_G) (a : Nat → Nat) (p0 : Int) (p1 : Int) (p2 : Int) (sz : Nat) (s : MS) (o : (Int × MS)) (h : m_x11_unlike p0 p1 p2 s = some o) : yWi l yX11_unlike cX11_unlike 13 (some .int) { frames := 3, cells := 0, slots := 0, locals := 180 } D sz [.ref (a 0), .int (i2 p0), .int (i2 p1), .int (i2 p2)] (CS D a s) (CS D a o.2) (i2 o.1) := by
  refine Met.ofW (cc := cX11_unlike) (maxL := 13) (ret := (some .int)) (by decide) rfl ?_
  intro p e s₀ m args below meth c s₁ B hml hv
  obtain ⟨rfl, ⟨hsz, hP, hK, hD0⟩, hN⟩ := hv
  have hx := B.exec
  have hb := B.bytes
  have hr := B.returns
  have hts := atoms_spec (ws := wz yX11_unlike cX11_unlike 13 (some .int)) B.pre
  have ht : ∀ w ∈ lw_gd, w.before _ s₀ = true := fun w h => hts w (List.mem_cons_of_mem _ h)
  have hown : s₀.vm.findClass RX11 = some m.cls := findClass_of_methodNamed B.named
  have hlocks := B.notSynchronized
  subst hsz
  have hD := hD0.self (sz := s₀.heap.size)
  generalize hAe : va_A (CS D a s) s₀.heap.size = A at hD ⊢
  have hA : ∀ q : Nat, s₀.heap.size ≤ q → A q := fun q h => by rw [← hAe]; exact Or.inr h
  have hS : va_S A s₀.heap s₀.heap [] := va_S.rf
  have hDD : ∀ t : MS, va_D A (CS D a t) := fun t => CW_D t hD
  have hl := lv_entry ([.ref (a 0), .int (i2 p0), .int (i2 p1), .int (i2 p2)]) (n := 13) (Nat.le_of_ble_eq_true rfl)
  rw [lg_entry_eq]
  generalize (lg_sl ([.ref (a 0), .int (i2 p0), .int (i2 p1), .int (i2 p2)]) ++ List.replicate (13 - (lg_sl ([.ref (a 0), .int (i2 p0), .int (i2 p1), .int (i2 p2)])).length) Slot.unset).toArray = ls at hl ⊢
  have hl : lv_has ls 13 [(0, .ref (a 0)), (1, .int (i2 p0)), (2, .int (i2 p1)), (3, .int (i2 p2))] := hl
  unfold m_x11_unlike at h
  refine y_head (pcJ := 240) (σ := Int × MS) (fun u H locs ls => va_P D vwCl (CS D a u.2) H ∧ va_S A s₀.heap H locs ∧ lv_has ls 13 [] ∧ m_x11_unlike_J240 u.1 u.2 = some o) (fun u => [.int (i2 u.1)]) (fun u H locs ls hI => ?_) (fun J240 => ?_)
  · obtain ⟨hP, hS, hl, h⟩ := hI
    obtain ⟨x1, s2⟩ := u
    have hP : va_P D vwCl (CS D a s2) H := hP
    have hl : lv_has ls 13 [] := hl
    have h : m_x11_unlike_J240 x1 s2 = some o := h
    unfold m_x11_unlike_J240 at h
    obtain rfl := Option.some.inj h
    exact W.iret (v := (i2 x1)) hx hb hr (fun t ht hW => ⟨⟨_, (), rfl, rfl, by rw [ht]; exact hP, va_K.moved hW.alike hK, hDD _⟩, hS.F ht⟩) hS.2.2 eX11_unlike_229.2.2.2.2.2.2.1
  refine y_head (pcJ := 229) (σ := Int × Int × MS) (fun u H locs ls => va_P D vwCl (CS D a u.2.2) H ∧ va_S A s₀.heap H locs ∧ lv_has ls 13 [(3, .int (i2 u.1)), (6, .int (i2 u.2.1))] ∧ m_x11_unlike_J229 u.1 u.2.1 u.2.2 = some o) (fun u => []) (fun u H locs ls hI => ?_) (fun J229 => ?_)
  · obtain ⟨hP, hS, hl, h⟩ := hI
    obtain ⟨x3, x4, s5⟩ := u
    have hP : va_P D vwCl (CS D a s5) H := hP
    have hl : lv_has ls 13 [(3, .int (i2 x3)), (6, .int (i2 x4))] := hl
    have h : m_x11_unlike_J229 x3 x4 s5 = some o := h
    unfold m_x11_unlike_J229 at h
    refine lv_iload_n hx hb eX11_unlike_229.1 rfl (lv_at hl 0 rfl) ?_
    refine lv_iconst (v := (-1)) hx hb eX11_unlike_229.2.1 (by decide) ?_
    obtain ⟨hr6, h⟩ := rg_e h
    refine lv_icmp_ne (tgt := 239) hx hb eX11_unlike_229.2.2.1 (by decide) (fun c7 => ?_) (fun c7 => ?_)
    · rw [show ((-1) : Int32) = i2 (-1) from by decide] at c7
      have h := if_f (mt (i2_eq (x := x3) (y := (-1)) hr6 (by decide)).mpr c7) h
      refine lv_iconst (v := (-1)) hx hb eX11_unlike_229.2.2.2.2.2.1 (by decide) ?_
      exact J240 ((-1), s5) _ _ _ ⟨hP, hS, lv_sub hl [] rfl, h⟩
    · rw [show ((-1) : Int32) = i2 (-1) from by decide] at c7
      have h := if_t ((i2_eq (x := x3) (y := (-1)) hr6 (by decide)).mp c7) h
      refine lv_iload hx hb eX11_unlike_229.2.2.2.1 (lv_at hl 1 rfl) ?_
      refine lv_goto (tgt := 240) hx hb eX11_unlike_229.2.2.2.2.1 (by decide) ?_
      exact J240 (x4, s5) _ _ _ ⟨hP, hS, lv_sub hl [] rfl, h⟩
  refine y_loop (pcJ := 46) (σ := Int × Int × Int × Int × Int × Int × Int × MS) (fun n u H locs ls => va_P D vwCl (CS D a u.2.2.2.2.2.2.2) H ∧ va_S A s₀.heap H locs ∧ lv_has ls 13 [(0, .ref (a 0)), (3, .int (i2 u.1)), (4, .int (i2 u.2.1)), (5, .int (i2 u.2.2.1)), (6, .int (i2 u.2.2.2.1)), (7, .int (i2 u.2.2.2.2.1)), (8, .int (i2 u.2.2.2.2.2.1)), (9, .int (i2 u.2.2.2.2.2.2.1))] ∧ m_x11_unlike_L46 n u.1 u.2.1 u.2.2.1 u.2.2.2.1 u.2.2.2.2.1 u.2.2.2.2.2.1 u.2.2.2.2.2.2.1 u.2.2.2.2.2.2.2 = some o) (fun u => []) (fun u H locs ls hI => by obtain ⟨_, _, _, h⟩ := hI; cases h) (fun n46 ih46 u H locs ls hI => ?_) (fun J46 => ?_)
  · obtain ⟨hP, hS, hl, h⟩ := hI
    obtain ⟨x8, x9, x10, x11, x12, x13, x14, s15⟩ := u
    have hP : va_P D vwCl (CS D a s15) H := hP
    have hl : lv_has ls 13 [(0, .ref (a 0)), (3, .int (i2 x8)), (4, .int (i2 x9)), (5, .int (i2 x10)), (6, .int (i2 x11)), (7, .int (i2 x12)), (8, .int (i2 x13)), (9, .int (i2 x14))] := hl
    have h : m_x11_unlike_b46 (m_x11_unlike_L46 n46) x8 x9 x10 x11 x12 x13 x14 s15 = some o := h
    unfold m_x11_unlike_b46 at h
    refine y_head (pcJ := 220) (σ := Int × Int × Int × Int × Int × Int × Int × Int × MS) (fun u H locs ls => va_P D vwCl (CS D a u.2.2.2.2.2.2.2.2) H ∧ va_S A s₀.heap H locs ∧ lv_has ls 13 [(0, .ref (a 0)), (3, .int (i2 u.1)), (4, .int (i2 u.2.1)), (5, .int (i2 u.2.2.1)), (6, .int (i2 u.2.2.2.1)), (7, .int (i2 u.2.2.2.2.1)), (9, .int (i2 u.2.2.2.2.2.1))] ∧ m_x11_unlike_J220 (m_x11_unlike_L46 n46) u.1 u.2.1 u.2.2.1 u.2.2.2.1 u.2.2.2.2.1 u.2.2.2.2.2.1 u.2.2.2.2.2.2.1 u.2.2.2.2.2.2.2.1 u.2.2.2.2.2.2.2.2 = some o) (fun u => [.int (i2 u.2.2.2.2.2.2.1), .int (i2 u.2.2.2.2.2.2.2.1)]) (fun u H locs ls hI => ?_) (fun J220 => ?_)
    · obtain ⟨hP, hS, hl, h⟩ := hI
      obtain ⟨x16, x17, x18, x19, x20, x21, x22, x23, s24⟩ := u
      have hP : va_P D vwCl (CS D a s24) H := hP
      have hl : lv_has ls 13 [(0, .ref (a 0)), (3, .int (i2 x16)), (4, .int (i2 x17)), (5, .int (i2 x18)), (6, .int (i2 x19)), (7, .int (i2 x20)), (9, .int (i2 x21))] := hl
      have h : m_x11_unlike_J220 (m_x11_unlike_L46 n46) x16 x17 x18 x19 x20 x21 x22 x23 s24 = some o := h
      unfold m_x11_unlike_J220 at h
      refine lv_iadd hx hb eX11_unlike_212.2.2.2.2.1 ?_
      refine z_topi (y := i2 (x23 + x22)) (i2_add x23 x22) ?_
      refine lv_istore (lv' := [(8, .int (i2 (x23 + x22))), (0, .ref (a 0)), (3, .int (i2 x16)), (4, .int (i2 x17)), (5, .int (i2 x18)), (6, .int (i2 x19)), (7, .int (i2 x20)), (9, .int (i2 x21))]) hx hb eX11_unlike_212.2.2.2.2.2.1 hl (by decide) rfl (fun ls hl => ?_)
      refine lv_iinc (v := i2 (x21 + 1)) (lv' := [(9, .int (i2 (x21 + 1))), (8, .int (i2 (x23 + x22))), (0, .ref (a 0)), (3, .int (i2 x16)), (4, .int (i2 x17)), (5, .int (i2 x18)), (6, .int (i2 x19)), (7, .int (i2 x20))]) hx hb eX11_unlike_212.2.2.2.2.2.2.1 hl (k := 7) rfl (i2_add x21 1) (by decide) rfl (fun ls hl => ?_)
      refine lv_goto (tgt := 46) hx hb eX11_unlike_212.2.2.2.2.2.2.2 (by decide) ?_
      exact ih46 (x16, x17, x18, x19, x20, x23 + x22, x21 + 1, s24) _ _ _ ⟨hP, hS, lv_sub hl [2, 3, 4, 5, 6, 7, 1, 0] rfl, h⟩
    refine y_head (pcJ := 203) (σ := Int × Int × Int × Int × Int × Int × Int × Int × Int × Int × MS) (fun u H locs ls => va_P D vwCl (CS D a u.2.2.2.2.2.2.2.2.2.2) H ∧ va_S A s₀.heap H locs ∧ lv_has ls 13 [(0, .ref (a 0)), (3, .int (i2 u.1)), (4, .int (i2 u.2.1)), (5, .int (i2 u.2.2.1)), (6, .int (i2 u.2.2.2.1)), (8, .int (i2 u.2.2.2.2.1)), (9, .int (i2 u.2.2.2.2.2.1)), (10, .int (i2 u.2.2.2.2.2.2.1)), (11, .int (i2 u.2.2.2.2.2.2.2.1))] ∧ m_x11_unlike_J203 (m_x11_unlike_L46 n46) u.1 u.2.1 u.2.2.1 u.2.2.2.1 u.2.2.2.2.1 u.2.2.2.2.2.1 u.2.2.2.2.2.2.1 u.2.2.2.2.2.2.2.1 u.2.2.2.2.2.2.2.2.1 u.2.2.2.2.2.2.2.2.2.1 u.2.2.2.2.2.2.2.2.2.2 = some o) (fun u => [.int (i2 u.2.2.2.2.2.2.2.2.1), .int (i2 u.2.2.2.2.2.2.2.2.2.1)]) (fun u H locs ls hI => ?_) (fun J203 => ?_)
    · obtain ⟨hP, hS, hl, h⟩ := hI
      obtain ⟨x25, x26, x27, x28, x29, x30, x31, x32, x33, x34, s35⟩ := u
      have hP : va_P D vwCl (CS D a s35) H := hP
      have hl : lv_has ls 13 [(0, .ref (a 0)), (3, .int (i2 x25)), (4, .int (i2 x26)), (5, .int (i2 x27)), (6, .int (i2 x28)), (8, .int (i2 x29)), (9, .int (i2 x30)), (10, .int (i2 x31)), (11, .int (i2 x32))] := hl
      have h : m_x11_unlike_J203 (m_x11_unlike_L46 n46) x25 x26 x27 x28 x29 x30 x31 x32 x33 x34 s35 = some o := h
      unfold m_x11_unlike_J203 at h
      refine lv_iadd hx hb eX11_unlike_198.2.2.2.1 ?_
      refine z_topi (y := i2 (x34 + x33)) (i2_add x34 x33) ?_
      refine lv_istore (lv' := [(7, .int (i2 (x34 + x33))), (0, .ref (a 0)), (3, .int (i2 x25)), (4, .int (i2 x26)), (5, .int (i2 x27)), (6, .int (i2 x28)), (8, .int (i2 x29)), (9, .int (i2 x30)), (10, .int (i2 x31)), (11, .int (i2 x32))]) hx hb eX11_unlike_198.2.2.2.2.1 hl (by decide) rfl (fun ls hl => ?_)
      refine lv_iload hx hb eX11_unlike_198.2.2.2.2.2.1 (lv_at hl 6 rfl) ?_
      refine lv_iload hx hb eX11_unlike_198.2.2.2.2.2.2.1 (lv_at hl 9 rfl) ?_
      refine lv_iload hx hb eX11_unlike_198.2.2.2.2.2.2.2 (lv_at hl 8 rfl) ?_
      obtain ⟨hr36, h⟩ := rg_e h
      obtain ⟨hr37, h⟩ := rg_e h
      refine lv_icmp_gt (tgt := 219) hx hb eX11_unlike_212.1 (by decide) (fun c38 => ?_) (fun c38 => ?_)
      · have h := if_t ((i2_lt (x := x31) (y := x32) hr37 hr36).mp c38) h
        refine lv_iconst (v := 0) hx hb eX11_unlike_212.2.2.2.1 (by decide) ?_
        exact J220 (x25, x26, x27, x28, x34 + x33, x30, 0, x29, s35) _ _ _ ⟨hP, hS, lv_sub hl [1, 2, 3, 4, 5, 0, 7] rfl, h⟩
      · have h := if_f (mt (i2_lt (x := x31) (y := x32) hr37 hr36).mpr c38) h
        refine lv_iconst (v := 1) hx hb eX11_unlike_212.2.1 (by decide) ?_
        refine lv_goto (tgt := 220) hx hb eX11_unlike_212.2.2.1 (by decide) ?_
        exact J220 (x25, x26, x27, x28, x34 + x33, x30, 1, x29, s35) _ _ _ ⟨hP, hS, lv_sub hl [1, 2, 3, 4, 5, 0, 7] rfl, h⟩
    refine y_head (pcJ := 186) (σ := Int × Int × Int × Int × Int × Int × Int × Int × Int × Int × MS) (fun u H locs ls => va_P D vwCl (CS D a u.2.2.2.2.2.2.2.2.2.2) H ∧ va_S A s₀.heap H locs ∧ lv_has ls 13 [(0, .ref (a 0)), (3, .int (i2 u.1)), (4, .int (i2 u.2.1)), (5, .int (i2 u.2.2.1)), (7, .int (i2 u.2.2.2.1)), (8, .int (i2 u.2.2.2.2.1)), (9, .int (i2 u.2.2.2.2.2.1)), (10, .int (i2 u.2.2.2.2.2.2.1)), (11, .int (i2 u.2.2.2.2.2.2.2.1))] ∧ m_x11_unlike_J186 (m_x11_unlike_L46 n46) u.1 u.2.1 u.2.2.1 u.2.2.2.1 u.2.2.2.2.1 u.2.2.2.2.2.1 u.2.2.2.2.2.2.1 u.2.2.2.2.2.2.2.1 u.2.2.2.2.2.2.2.2.1 u.2.2.2.2.2.2.2.2.2.1 u.2.2.2.2.2.2.2.2.2.2 = some o) (fun u => [.int (i2 u.2.2.2.2.2.2.2.2.1), .int (i2 u.2.2.2.2.2.2.2.2.2.1)]) (fun u H locs ls hI => ?_) (fun J186 => ?_)
    · obtain ⟨hP, hS, hl, h⟩ := hI
      obtain ⟨x39, x40, x41, x42, x43, x44, x45, x46, x47, x48, s49⟩ := u
      have hP : va_P D vwCl (CS D a s49) H := hP
      have hl : lv_has ls 13 [(0, .ref (a 0)), (3, .int (i2 x39)), (4, .int (i2 x40)), (5, .int (i2 x41)), (7, .int (i2 x42)), (8, .int (i2 x43)), (9, .int (i2 x44)), (10, .int (i2 x45)), (11, .int (i2 x46))] := hl
      have h : m_x11_unlike_J186 (m_x11_unlike_L46 n46) x39 x40 x41 x42 x43 x44 x45 x46 x47 x48 s49 = some o := h
      unfold m_x11_unlike_J186 at h
      refine lv_iadd hx hb eX11_unlike_182.2.2.1 ?_
      refine z_topi (y := i2 (x48 + x47)) (i2_add x48 x47) ?_
      refine lv_istore (lv' := [(6, .int (i2 (x48 + x47))), (0, .ref (a 0)), (3, .int (i2 x39)), (4, .int (i2 x40)), (5, .int (i2 x41)), (7, .int (i2 x42)), (8, .int (i2 x43)), (9, .int (i2 x44)), (10, .int (i2 x45)), (11, .int (i2 x46))]) hx hb eX11_unlike_182.2.2.2.1 hl (by decide) rfl (fun ls hl => ?_)
      refine lv_iload hx hb eX11_unlike_182.2.2.2.2.1 (lv_at hl 5 rfl) ?_
      refine lv_iload hx hb eX11_unlike_182.2.2.2.2.2.1 (lv_at hl 8 rfl) ?_
      refine lv_iload hx hb eX11_unlike_182.2.2.2.2.2.2.1 (lv_at hl 9 rfl) ?_
      obtain ⟨hr50, h⟩ := rg_e h
      obtain ⟨hr51, h⟩ := rg_e h
      refine lv_icmp_gt (tgt := 202) hx hb eX11_unlike_182.2.2.2.2.2.2.2 (by decide) (fun c52 => ?_) (fun c52 => ?_)
      · have h := if_t ((i2_lt (x := x46) (y := x45) hr51 hr50).mp c52) h
        refine lv_iconst (v := 0) hx hb eX11_unlike_198.2.2.1 (by decide) ?_
        exact J203 (x39, x40, x41, x48 + x47, x43, x44, x45, x46, 0, x42, s49) _ _ _ ⟨hP, hS, lv_sub hl [1, 2, 3, 4, 0, 6, 7, 8, 9] rfl, h⟩
      · have h := if_f (mt (i2_lt (x := x46) (y := x45) hr51 hr50).mpr c52) h
        refine lv_iconst (v := 1) hx hb eX11_unlike_198.1 (by decide) ?_
        refine lv_goto (tgt := 203) hx hb eX11_unlike_198.2.1 (by decide) ?_
        exact J203 (x39, x40, x41, x48 + x47, x43, x44, x45, x46, 1, x42, s49) _ _ _ ⟨hP, hS, lv_sub hl [1, 2, 3, 4, 0, 6, 7, 8, 9] rfl, h⟩
    refine y_head (pcJ := 174) (σ := Int × Int × Int × Int × Int × Int × Int × Int × Int × Int × MS) (fun u H locs ls => va_P D vwCl (CS D a u.2.2.2.2.2.2.2.2.2.2) H ∧ va_S A s₀.heap H locs ∧ lv_has ls 13 [(0, .ref (a 0)), (3, .int (i2 u.1)), (4, .int (i2 u.2.1)), (5, .int (i2 u.2.2.1)), (6, .int (i2 u.2.2.2.1)), (7, .int (i2 u.2.2.2.2.1)), (8, .int (i2 u.2.2.2.2.2.1)), (9, .int (i2 u.2.2.2.2.2.2.1)), (10, .int (i2 u.2.2.2.2.2.2.2.1)), (11, .int (i2 u.2.2.2.2.2.2.2.2.1)), (12, .int (i2 u.2.2.2.2.2.2.2.2.2.1))] ∧ m_x11_unlike_J174 (m_x11_unlike_L46 n46) u.1 u.2.1 u.2.2.1 u.2.2.2.1 u.2.2.2.2.1 u.2.2.2.2.2.1 u.2.2.2.2.2.2.1 u.2.2.2.2.2.2.2.1 u.2.2.2.2.2.2.2.2.1 u.2.2.2.2.2.2.2.2.2.1 u.2.2.2.2.2.2.2.2.2.2 = some o) (fun u => []) (fun u H locs ls hI => ?_) (fun J174 => ?_)
    · obtain ⟨hP, hS, hl, h⟩ := hI
      obtain ⟨x53, x54, x55, x56, x57, x58, x59, x60, x61, x62, s63⟩ := u
      have hP : va_P D vwCl (CS D a s63) H := hP
      have hl : lv_has ls 13 [(0, .ref (a 0)), (3, .int (i2 x53)), (4, .int (i2 x54)), (5, .int (i2 x55)), (6, .int (i2 x56)), (7, .int (i2 x57)), (8, .int (i2 x58)), (9, .int (i2 x59)), (10, .int (i2 x60)), (11, .int (i2 x61)), (12, .int (i2 x62))] := hl
      have h : m_x11_unlike_J174 (m_x11_unlike_L46 n46) x53 x54 x55 x56 x57 x58 x59 x60 x61 x62 s63 = some o := h
      unfold m_x11_unlike_J174 at h
      refine lv_iload hx hb eX11_unlike_166.2.2.2.2.1 (lv_at hl 4 rfl) ?_
      refine lv_iload hx hb eX11_unlike_166.2.2.2.2.2.1 (lv_at hl 10 rfl) ?_
      obtain ⟨hr64, h⟩ := rg_e h
      refine lv_if_eq (tgt := 185) hx hb eX11_unlike_166.2.2.2.2.2.2.1 (by decide) (fun c65 => ?_) (fun c65 => ?_)
      · have h := if_t ((i2_eq (x := x62) (y := 0) hr64 (by decide)).mp c65) h
        refine lv_iconst (v := 1) hx hb eX11_unlike_182.2.1 (by decide) ?_
        exact J186 (x53, x54, x55, x57, x58, x59, x60, x61, 1, x56, s63) _ _ _ ⟨hP, hS, lv_sub hl [0, 1, 2, 3, 5, 6, 7, 8, 9] rfl, h⟩
      · have h := if_f (mt (i2_eq (x := x62) (y := 0) hr64 (by decide)).mpr c65) h
        refine lv_iconst (v := 0) hx hb eX11_unlike_166.2.2.2.2.2.2.2 (by decide) ?_
        refine lv_goto (tgt := 186) hx hb eX11_unlike_182.1 (by decide) ?_
        exact J186 (x53, x54, x55, x57, x58, x59, x60, x61, 0, x56, s63) _ _ _ ⟨hP, hS, lv_sub hl [0, 1, 2, 3, 5, 6, 7, 8, 9] rfl, h⟩
    refine y_head (pcJ := 153) (σ := Int × Int × Int × Int × Int × Int × Int × Int × Int × Int × MS) (fun u H locs ls => va_P D vwCl (CS D a u.2.2.2.2.2.2.2.2.2.2) H ∧ va_S A s₀.heap H locs ∧ lv_has ls 13 [(0, .ref (a 0)), (3, .int (i2 u.1)), (4, .int (i2 u.2.1)), (5, .int (i2 u.2.2.1)), (6, .int (i2 u.2.2.2.1)), (7, .int (i2 u.2.2.2.2.1)), (8, .int (i2 u.2.2.2.2.2.1)), (9, .int (i2 u.2.2.2.2.2.2.1)), (10, .int (i2 u.2.2.2.2.2.2.2.1)), (11, .int (i2 u.2.2.2.2.2.2.2.2.1))] ∧ m_x11_unlike_J153 (m_x11_unlike_L46 n46) u.1 u.2.1 u.2.2.1 u.2.2.2.1 u.2.2.2.2.1 u.2.2.2.2.2.1 u.2.2.2.2.2.2.1 u.2.2.2.2.2.2.2.1 u.2.2.2.2.2.2.2.2.1 u.2.2.2.2.2.2.2.2.2.1 u.2.2.2.2.2.2.2.2.2.2 = some o) (fun u => [.int (i2 u.2.2.2.2.2.2.2.2.2.1)]) (fun u H locs ls hI => ?_) (fun J153 => ?_)
    · obtain ⟨hP, hS, hl, h⟩ := hI
      obtain ⟨x66, x67, x68, x69, x70, x71, x72, x73, x74, x75, s76⟩ := u
      have hP : va_P D vwCl (CS D a s76) H := hP
      have hl : lv_has ls 13 [(0, .ref (a 0)), (3, .int (i2 x66)), (4, .int (i2 x67)), (5, .int (i2 x68)), (6, .int (i2 x69)), (7, .int (i2 x70)), (8, .int (i2 x71)), (9, .int (i2 x72)), (10, .int (i2 x73)), (11, .int (i2 x74))] := hl
      have h : m_x11_unlike_J153 (m_x11_unlike_L46 n46) x66 x67 x68 x69 x70 x71 x72 x73 x74 x75 s76 = some o := h
      unfold m_x11_unlike_J153 at h
      refine lv_istore (lv' := [(12, .int (i2 x75)), (0, .ref (a 0)), (3, .int (i2 x66)), (4, .int (i2 x67)), (5, .int (i2 x68)), (6, .int (i2 x69)), (7, .int (i2 x70)), (8, .int (i2 x71)), (9, .int (i2 x72)), (10, .int (i2 x73)), (11, .int (i2 x74))]) hx hb eX11_unlike_149.2.2.1 hl (by decide) rfl (fun ls hl => ?_)
      refine lv_iload hx hb eX11_unlike_149.2.2.2.1 (lv_at hl 0 rfl) ?_
      obtain ⟨hr77, h⟩ := rg_e h
      refine lv_if_ne (tgt := 174) hx hb eX11_unlike_149.2.2.2.2.1 (by decide) (fun c78 => ?_) (fun c78 => ?_)
      · have h := if_f (mt (i2_eq (x := x75) (y := 0) hr77 (by decide)).mpr c78) h
        exact J174 (x66, x67, x68, x69, x70, x71, x72, x73, x74, x75, s76) _ _ _ ⟨hP, hS, lv_sub hl [1, 2, 3, 4, 5, 6, 7, 8, 9, 10, 0] rfl, h⟩
      · have h := if_t ((i2_eq (x := x75) (y := 0) hr77 (by decide)).mp c78) h
        refine lv_iload hx hb eX11_unlike_149.2.2.2.2.2.1 (lv_at hl 5 rfl) ?_
        refine lv_iload_n hx hb eX11_unlike_149.2.2.2.2.2.2.1 rfl (lv_at hl 2 rfl) ?_
        obtain ⟨hr79, h⟩ := rg_e h
        obtain ⟨hr80, h⟩ := rg_e h
        refine lv_icmp_ne (tgt := 174) hx hb eX11_unlike_149.2.2.2.2.2.2.2 (by decide) (fun c81 => ?_) (fun c81 => ?_)
        · have h := if_f (mt (i2_eq (x := x69) (y := x66) hr79 hr80).mpr c81) h
          exact J174 (x66, x67, x68, x69, x70, x71, x72, x73, x74, x75, s76) _ _ _ ⟨hP, hS, lv_sub hl [1, 2, 3, 4, 5, 6, 7, 8, 9, 10, 0] rfl, h⟩
        · have h := if_t ((i2_eq (x := x69) (y := x66) hr79 hr80).mp c81) h
          refine lv_iload hx hb eX11_unlike_166.1 (lv_at hl 9 rfl) ?_
          refine lv_iload hx hb eX11_unlike_166.2.1 (lv_at hl 10 rfl) ?_
          obtain ⟨hr82, h⟩ := rg_e h
          obtain ⟨hr83, h⟩ := rg_e h
          refine va_mmin hx hb (by rw [hml]; exact hl.1.symm) hown (ht _ ml_X11_367) (ht _ st_mmin) (ht _ in_math) (ht _ co_mmin) (Nat.le_of_ble_eq_true rfl) (Nat.le_of_ble_eq_true rfl) (Nat.le_of_ble_eq_true rfl) (Nat.le_of_ble_eq_true rfl) eX11_unlike_166.2.2.1 ?_
          refine z_topi (y := i2 (minZ x73 x74)) (i2_min (x := x73) (y := x74) hr82 hr83) ?_
          obtain rfl := Option.some.inj h
          exact W.iret (v := (i2 (minZ x73 x74))) hx hb hr (fun t ht hW => ⟨⟨_, (), rfl, rfl, by rw [ht]; exact hP, va_K.moved hW.alike hK, hDD _⟩, hS.F ht⟩) hS.2.2 eX11_unlike_166.2.2.2.1
    refine y_head (pcJ := 152) (σ := Int × Int × Int × Int × Int × Int × Int × Int × Int × MS) (fun u H locs ls => va_P D vwCl (CS D a u.2.2.2.2.2.2.2.2.2) H ∧ va_S A s₀.heap H locs ∧ lv_has ls 13 [(0, .ref (a 0)), (3, .int (i2 u.1)), (4, .int (i2 u.2.1)), (5, .int (i2 u.2.2.1)), (6, .int (i2 u.2.2.2.1)), (7, .int (i2 u.2.2.2.2.1)), (8, .int (i2 u.2.2.2.2.2.1)), (9, .int (i2 u.2.2.2.2.2.2.1)), (10, .int (i2 u.2.2.2.2.2.2.2.1)), (11, .int (i2 u.2.2.2.2.2.2.2.2.1))] ∧ m_x11_unlike_J152 (m_x11_unlike_L46 n46) u.1 u.2.1 u.2.2.1 u.2.2.2.1 u.2.2.2.2.1 u.2.2.2.2.2.1 u.2.2.2.2.2.2.1 u.2.2.2.2.2.2.2.1 u.2.2.2.2.2.2.2.2.1 u.2.2.2.2.2.2.2.2.2 = some o) (fun u => []) (fun u H locs ls hI => ?_) (fun J152 => ?_)
    · obtain ⟨hP, hS, hl, h⟩ := hI
      obtain ⟨x84, x85, x86, x87, x88, x89, x90, x91, x92, s93⟩ := u
      have hP : va_P D vwCl (CS D a s93) H := hP
      have hl : lv_has ls 13 [(0, .ref (a 0)), (3, .int (i2 x84)), (4, .int (i2 x85)), (5, .int (i2 x86)), (6, .int (i2 x87)), (7, .int (i2 x88)), (8, .int (i2 x89)), (9, .int (i2 x90)), (10, .int (i2 x91)), (11, .int (i2 x92))] := hl
      have h : m_x11_unlike_J152 (m_x11_unlike_L46 n46) x84 x85 x86 x87 x88 x89 x90 x91 x92 s93 = some o := h
      unfold m_x11_unlike_J152 at h
      refine lv_iconst (v := 0) hx hb eX11_unlike_149.2.1 (by decide) ?_
      exact J153 (x84, x85, x86, x87, x88, x89, x90, x91, x92, 0, s93) _ _ _ ⟨hP, hS, lv_sub hl [0, 1, 2, 3, 4, 5, 6, 7, 8, 9] rfl, h⟩
    refine y_head (pcJ := 116) (σ := Int × Int × Int × Int × Int × Int × Int × Int × Int × MS) (fun u H locs ls => va_P D vwCl (CS D a u.2.2.2.2.2.2.2.2.2) H ∧ va_S A s₀.heap H locs ∧ lv_has ls 13 [(0, .ref (a 0)), (3, .int (i2 u.1)), (4, .int (i2 u.2.1)), (5, .int (i2 u.2.2.1)), (6, .int (i2 u.2.2.2.1)), (7, .int (i2 u.2.2.2.2.1)), (8, .int (i2 u.2.2.2.2.2.1)), (9, .int (i2 u.2.2.2.2.2.2.1)), (10, .int (i2 u.2.2.2.2.2.2.2.1))] ∧ m_x11_unlike_J116 (m_x11_unlike_L46 n46) u.1 u.2.1 u.2.2.1 u.2.2.2.1 u.2.2.2.2.1 u.2.2.2.2.2.1 u.2.2.2.2.2.2.1 u.2.2.2.2.2.2.2.1 u.2.2.2.2.2.2.2.2.1 u.2.2.2.2.2.2.2.2.2 = some o) (fun u => [.int (i2 u.2.2.2.2.2.2.2.2.1)]) (fun u H locs ls hI => ?_) (fun J116 => ?_)
    · obtain ⟨hP, hS, hl, h⟩ := hI
      obtain ⟨x94, x95, x96, x97, x98, x99, x100, x101, x102, s103⟩ := u
      have hP : va_P D vwCl (CS D a s103) H := hP
      have hl : lv_has ls 13 [(0, .ref (a 0)), (3, .int (i2 x94)), (4, .int (i2 x95)), (5, .int (i2 x96)), (6, .int (i2 x97)), (7, .int (i2 x98)), (8, .int (i2 x99)), (9, .int (i2 x100)), (10, .int (i2 x101))] := hl
      have h : m_x11_unlike_J116 (m_x11_unlike_L46 n46) x94 x95 x96 x97 x98 x99 x100 x101 x102 s103 = some o := h
      unfold m_x11_unlike_J116 at h
      refine lv_istore (lv' := [(11, .int (i2 x102)), (0, .ref (a 0)), (3, .int (i2 x94)), (4, .int (i2 x95)), (5, .int (i2 x96)), (6, .int (i2 x97)), (7, .int (i2 x98)), (8, .int (i2 x99)), (9, .int (i2 x100)), (10, .int (i2 x101))]) hx hb eX11_unlike_116.1 hl (by decide) rfl (fun ls hl => ?_)
      refine lv_iload hx hb eX11_unlike_116.2.1 (lv_at hl 9 rfl) ?_
      refine lv_iload hx hb eX11_unlike_116.2.2.1 (lv_at hl 0 rfl) ?_
      obtain ⟨hr104, h⟩ := rg_e h
      obtain ⟨hr105, h⟩ := rg_e h
      refine lv_icmp_ne (tgt := 152) hx hb eX11_unlike_116.2.2.2.1 (by decide) (fun c106 => ?_) (fun c106 => ?_)
      · have h := if_f (mt (i2_eq (x := x101) (y := x102) hr104 hr105).mpr c106) h
        exact J152 (x94, x95, x96, x97, x98, x99, x100, x101, x102, s103) _ _ _ ⟨hP, hS, lv_sub hl [1, 2, 3, 4, 5, 6, 7, 8, 9, 0] rfl, h⟩
      · have h := if_t ((i2_eq (x := x101) (y := x102) hr104 hr105).mp c106) h
        refine lv_aload_n hx hb eX11_unlike_116.2.2.2.2.1 rfl (lv_at hl 1 rfl) ?_
        refine va_get (D := D) (ci := 11) (v := .ref (a 21)) (C := RX11) (T := TX11) (N := 13) hx hb ht inX11 hown hK hP 0 CW_0 rfl 5 (by decide) (ht (.fieldLink RX11 49 "CloneVolumes" "walk" "LCloneVolumes$Walk;") fl_X11_49) (fun _ h9 => h9) rfl eX11_unlike_116.2.2.2.2.2.1 ?_
        refine va_get (D := D) (ci := 10) (v := .ref (a 24)) (C := RX10) (T := TX10) (N := 4) hx hb ht inX10 hown hK hP 21 CW_21 rfl 3 (by decide) (ht (.fieldLink RX11 226 "CloneVolumes$Walk" "values" "[I") fl_X11_226) (fun _ h9 => h9) rfl eX11_unlike_116.2.2.2.2.2.2.1 ?_
        refine lv_iload hx hb eX11_unlike_116.2.2.2.2.2.2.2 (lv_at hl 6 rfl) ?_
        obtain ⟨y107, ey107, iy107, h⟩ := rdI_e h
        refine ya_iald (i := x98) hx hb hK hP 24 0 CW_24 rfl (by decide) ey107 iy107 eX11_unlike_134.1 ?_
        refine lv_aload_n hx hb eX11_unlike_134.2.1 rfl (lv_at hl 1 rfl) ?_
        refine va_get (D := D) (ci := 11) (v := .ref (a 25)) (C := RX11) (T := TX11) (N := 13) hx hb ht inX11 hown hK hP 0 CW_0 rfl 6 (by decide) (ht (.fieldLink RX11 53 "CloneVolumes" "otherWalk" "LCloneVolumes$Walk;") fl_X11_53) (fun _ h9 => h9) rfl eX11_unlike_134.2.2.1 ?_
        refine va_get (D := D) (ci := 10) (v := .ref (a 28)) (C := RX10) (T := TX10) (N := 4) hx hb ht inX10 hown hK hP 25 CW_25 rfl 3 (by decide) (ht (.fieldLink RX11 226 "CloneVolumes$Walk" "values" "[I") fl_X11_226) (fun _ h9 => h9) rfl eX11_unlike_134.2.2.2.1 ?_
        refine lv_iload hx hb eX11_unlike_134.2.2.2.2.1 (lv_at hl 7 rfl) ?_
        obtain ⟨y108, ey108, iy108, h⟩ := rdI_e h
        refine ya_iald (i := x99) hx hb hK hP 28 0 CW_28 rfl (by decide) ey108 iy108 eX11_unlike_134.2.2.2.2.2.1 ?_
        obtain ⟨hr109, h⟩ := rg_e h
        obtain ⟨hr110, h⟩ := rg_e h
        refine lv_icmp_ne (tgt := 152) hx hb eX11_unlike_134.2.2.2.2.2.2.1 (by decide) (fun c111 => ?_) (fun c111 => ?_)
        · have h := if_f (mt (i2_eq (x := y107) (y := y108) hr109 hr110).mpr c111) h
          exact J152 (x94, x95, x96, x97, x98, x99, x100, x101, x102, s103) _ _ _ ⟨hP, hS, lv_sub hl [1, 2, 3, 4, 5, 6, 7, 8, 9, 0] rfl, h⟩
        · have h := if_t ((i2_eq (x := y107) (y := y108) hr109 hr110).mp c111) h
          refine lv_iconst (v := 1) hx hb eX11_unlike_134.2.2.2.2.2.2.2 (by decide) ?_
          refine lv_goto (tgt := 153) hx hb eX11_unlike_149.1 (by decide) ?_
          exact J153 (x94, x95, x96, x97, x98, x99, x100, x101, x102, 1, s103) _ _ _ ⟨hP, hS, lv_sub hl [1, 2, 3, 4, 5, 6, 7, 8, 9, 0] rfl, h⟩
    refine y_head (pcJ := 91) (σ := Int × Int × Int × Int × Int × Int × Int × Int × MS) (fun u H locs ls => va_P D vwCl (CS D a u.2.2.2.2.2.2.2.2) H ∧ va_S A s₀.heap H locs ∧ lv_has ls 13 [(0, .ref (a 0)), (3, .int (i2 u.1)), (4, .int (i2 u.2.1)), (5, .int (i2 u.2.2.1)), (6, .int (i2 u.2.2.2.1)), (7, .int (i2 u.2.2.2.2.1)), (8, .int (i2 u.2.2.2.2.2.1)), (9, .int (i2 u.2.2.2.2.2.2.1))] ∧ m_x11_unlike_J91 (m_x11_unlike_L46 n46) u.1 u.2.1 u.2.2.1 u.2.2.2.1 u.2.2.2.2.1 u.2.2.2.2.2.1 u.2.2.2.2.2.2.1 u.2.2.2.2.2.2.2.1 u.2.2.2.2.2.2.2.2 = some o) (fun u => [.int (i2 u.2.2.2.2.2.2.2.1)]) (fun u H locs ls hI => ?_) (fun J91 => ?_)
    · obtain ⟨hP, hS, hl, h⟩ := hI
      obtain ⟨x112, x113, x114, x115, x116, x117, x118, x119, s120⟩ := u
      have hP : va_P D vwCl (CS D a s120) H := hP
      have hl : lv_has ls 13 [(0, .ref (a 0)), (3, .int (i2 x112)), (4, .int (i2 x113)), (5, .int (i2 x114)), (6, .int (i2 x115)), (7, .int (i2 x116)), (8, .int (i2 x117)), (9, .int (i2 x118))] := hl
      have h : m_x11_unlike_J91 (m_x11_unlike_L46 n46) x112 x113 x114 x115 x116 x117 x118 x119 s120 = some o := h
      unfold m_x11_unlike_J91 at h
      refine lv_istore (lv' := [(10, .int (i2 x119)), (0, .ref (a 0)), (3, .int (i2 x112)), (4, .int (i2 x113)), (5, .int (i2 x114)), (6, .int (i2 x115)), (7, .int (i2 x116)), (8, .int (i2 x117)), (9, .int (i2 x118))]) hx hb eX11_unlike_79.2.2.2.2.2.1 hl (by decide) rfl (fun ls hl => ?_)
      refine lv_iload hx hb eX11_unlike_79.2.2.2.2.2.2.1 (lv_at hl 7 rfl) ?_
      refine lv_iload hx hb eX11_unlike_79.2.2.2.2.2.2.2 (lv_at hl 4 rfl) ?_
      obtain ⟨hr121, h⟩ := rg_e h
      obtain ⟨hr122, h⟩ := rg_e h
      refine lv_icmp_ge (tgt := 113) hx hb eX11_unlike_97.1 (by decide) (fun c123 => ?_) (fun c123 => ?_)
      · have h := if_t ((i2_le (x := x114) (y := x117) hr122 hr121).mp c123) h
        refine lv_sipush (v := 1000) hx hb eX11_unlike_97.2.2.2.2.2.2.2 (by decide) ?_
        exact J116 (x112, x113, x114, x115, x116, x117, x118, x119, 1000, s120) _ _ _ ⟨hP, hS, lv_sub hl [1, 2, 3, 4, 5, 6, 7, 8, 0] rfl, h⟩
      · have h := if_f (mt (i2_le (x := x114) (y := x117) hr122 hr121).mpr c123) h
        refine lv_aload_n hx hb eX11_unlike_97.2.1 rfl (lv_at hl 1 rfl) ?_
        refine va_get (D := D) (ci := 11) (v := .ref (a 25)) (C := RX11) (T := TX11) (N := 13) hx hb ht inX11 hown hK hP 0 CW_0 rfl 6 (by decide) (ht (.fieldLink RX11 53 "CloneVolumes" "otherWalk" "LCloneVolumes$Walk;") fl_X11_53) (fun _ h9 => h9) rfl eX11_unlike_97.2.2.1 ?_
        refine va_get (D := D) (ci := 10) (v := .ref (a 27)) (C := RX10) (T := TX10) (N := 4) hx hb ht inX10 hown hK hP 25 CW_25 rfl 2 (by decide) (ht (.fieldLink RX11 225 "CloneVolumes$Walk" "keys" "[I") fl_X11_225) (fun _ h9 => h9) rfl eX11_unlike_97.2.2.2.1 ?_
        refine lv_iload hx hb eX11_unlike_97.2.2.2.2.1 (lv_at hl 7 rfl) ?_
        obtain ⟨y124, ey124, iy124, h⟩ := rdI_e h
        refine ya_iald (i := x117) hx hb hK hP 27 0 CW_27 rfl (by decide) ey124 iy124 eX11_unlike_97.2.2.2.2.2.1 ?_
        refine lv_goto (tgt := 116) hx hb eX11_unlike_97.2.2.2.2.2.2.1 (by decide) ?_
        exact J116 (x112, x113, x114, x115, x116, x117, x118, x119, y124, s120) _ _ _ ⟨hP, hS, lv_sub hl [1, 2, 3, 4, 5, 6, 7, 8, 0] rfl, h⟩
    refine y_head (pcJ := 68) (σ := Int × Int × Int × Int × Int × Int × Int × MS) (fun u H locs ls => va_P D vwCl (CS D a u.2.2.2.2.2.2.2) H ∧ va_S A s₀.heap H locs ∧ lv_has ls 13 [(0, .ref (a 0)), (3, .int (i2 u.1)), (4, .int (i2 u.2.1)), (5, .int (i2 u.2.2.1)), (6, .int (i2 u.2.2.2.1)), (7, .int (i2 u.2.2.2.2.1)), (8, .int (i2 u.2.2.2.2.2.1)), (9, .int (i2 u.2.2.2.2.2.2.1))] ∧ m_x11_unlike_J68 (m_x11_unlike_L46 n46) u.1 u.2.1 u.2.2.1 u.2.2.2.1 u.2.2.2.2.1 u.2.2.2.2.2.1 u.2.2.2.2.2.2.1 u.2.2.2.2.2.2.2 = some o) (fun u => []) (fun u H locs ls hI => ?_) (fun J68 => ?_)
    · obtain ⟨hP, hS, hl, h⟩ := hI
      obtain ⟨x125, x126, x127, x128, x129, x130, x131, s132⟩ := u
      have hP : va_P D vwCl (CS D a s132) H := hP
      have hl : lv_has ls 13 [(0, .ref (a 0)), (3, .int (i2 x125)), (4, .int (i2 x126)), (5, .int (i2 x127)), (6, .int (i2 x128)), (7, .int (i2 x129)), (8, .int (i2 x130)), (9, .int (i2 x131))] := hl
      have h : m_x11_unlike_J68 (m_x11_unlike_L46 n46) x125 x126 x127 x128 x129 x130 x131 s132 = some o := h
      unfold m_x11_unlike_J68 at h
      refine lv_iload hx hb eX11_unlike_61.2.2.2.1 (lv_at hl 5 rfl) ?_
      refine lv_iload hx hb eX11_unlike_61.2.2.2.2.1 (lv_at hl 2 rfl) ?_
      obtain ⟨hr133, h⟩ := rg_e h
      obtain ⟨hr134, h⟩ := rg_e h
      refine lv_icmp_ge (tgt := 88) hx hb eX11_unlike_61.2.2.2.2.2.1 (by decide) (fun c135 => ?_) (fun c135 => ?_)
      · have h := if_t ((i2_le (x := x126) (y := x129) hr134 hr133).mp c135) h
        refine lv_sipush (v := 1000) hx hb eX11_unlike_79.2.2.2.2.1 (by decide) ?_
        exact J91 (x125, x126, x127, x128, x129, x130, x131, 1000, s132) _ _ _ ⟨hP, hS, lv_sub hl [0, 1, 2, 3, 4, 5, 6, 7] rfl, h⟩
      · have h := if_f (mt (i2_le (x := x126) (y := x129) hr134 hr133).mpr c135) h
        refine lv_aload_n hx hb eX11_unlike_61.2.2.2.2.2.2.1 rfl (lv_at hl 0 rfl) ?_
        refine va_get (D := D) (ci := 11) (v := .ref (a 21)) (C := RX11) (T := TX11) (N := 13) hx hb ht inX11 hown hK hP 0 CW_0 rfl 5 (by decide) (ht (.fieldLink RX11 49 "CloneVolumes" "walk" "LCloneVolumes$Walk;") fl_X11_49) (fun _ h9 => h9) rfl eX11_unlike_61.2.2.2.2.2.2.2 ?_
        refine va_get (D := D) (ci := 10) (v := .ref (a 23)) (C := RX10) (T := TX10) (N := 4) hx hb ht inX10 hown hK hP 21 CW_21 rfl 2 (by decide) (ht (.fieldLink RX11 225 "CloneVolumes$Walk" "keys" "[I") fl_X11_225) (fun _ h9 => h9) rfl eX11_unlike_79.1 ?_
        refine lv_iload hx hb eX11_unlike_79.2.1 (lv_at hl 5 rfl) ?_
        obtain ⟨y136, ey136, iy136, h⟩ := rdI_e h
        refine ya_iald (i := x129) hx hb hK hP 23 0 CW_23 rfl (by decide) ey136 iy136 eX11_unlike_79.2.2.1 ?_
        refine lv_goto (tgt := 91) hx hb eX11_unlike_79.2.2.2.1 (by decide) ?_
        exact J91 (x125, x126, x127, x128, x129, x130, x131, y136, s132) _ _ _ ⟨hP, hS, lv_sub hl [0, 1, 2, 3, 4, 5, 6, 7] rfl, h⟩
    refine lv_iload hx hb eX11_unlike_43.2.2.1 (lv_at hl 7 rfl) ?_
    refine lv_sipush (v := 576) hx hb eX11_unlike_43.2.2.2.1 (by decide) ?_
    obtain ⟨hr137, h⟩ := rg_e h
    refine lv_icmp_ge (tgt := 229) hx hb eX11_unlike_43.2.2.2.2.1 (by decide) (fun c138 => ?_) (fun c138 => ?_)
    · have h := if_t ((i2_le (x := 576) (y := x14) (by decide) hr137).mp c138) h
      exact J229 (x8, x11, s15) _ _ _ ⟨hP, hS, lv_sub hl [1, 4] rfl, h⟩
    · have h := if_f (mt (i2_le (x := 576) (y := x14) (by decide) hr137).mpr c138) h
      refine lv_iload hx hb eX11_unlike_43.2.2.2.2.2.1 (lv_at hl 5 rfl) ?_
      refine lv_iload hx hb eX11_unlike_43.2.2.2.2.2.2.1 (lv_at hl 2 rfl) ?_
      obtain ⟨hr139, h⟩ := rg_e h
      obtain ⟨hr140, h⟩ := rg_e h
      refine lv_icmp_lt (tgt := 68) hx hb eX11_unlike_43.2.2.2.2.2.2.2 (by decide) (fun c141 => ?_) (fun c141 => ?_)
      · have h := if_t ((i2_lt (x := x12) (y := x9) hr139 hr140).mp c141) h
        exact J68 (x8, x9, x10, x11, x12, x13, x14, s15) _ _ _ ⟨hP, hS, lv_sub hl [0, 1, 2, 3, 4, 5, 6, 7] rfl, h⟩
      · have h := if_f (mt (i2_lt (x := x12) (y := x9) hr139 hr140).mpr c141) h
        refine lv_iload hx hb eX11_unlike_61.1 (lv_at hl 6 rfl) ?_
        refine lv_iload hx hb eX11_unlike_61.2.1 (lv_at hl 3 rfl) ?_
        obtain ⟨hr142, h⟩ := rg_e h
        obtain ⟨hr143, h⟩ := rg_e h
        refine lv_icmp_ge (tgt := 229) hx hb eX11_unlike_61.2.2.1 (by decide) (fun c144 => ?_) (fun c144 => ?_)
        · have h := if_t ((i2_le (x := x10) (y := x13) hr143 hr142).mp c144) h
          exact J229 (x8, x11, s15) _ _ _ ⟨hP, hS, lv_sub hl [1, 4] rfl, h⟩
        · have h := if_f (mt (i2_le (x := x10) (y := x13) hr143 hr142).mpr c144) h
          exact J68 (x8, x9, x10, x11, x12, x13, x14, s15) _ _ _ ⟨hP, hS, lv_sub hl [0, 1, 2, 3, 4, 5, 6, 7] rfl, h⟩
  refine lv_aload_n hx hb eX11_differs_45.2.2.1 rfl (lv_at hl 0 rfl) ?_
  refine va_get (D := D) (ci := 11) (v := .ref (a 21)) (C := RX11) (T := TX11) (N := 13) hx hb ht inX11 hown hK hP 0 CW_0 rfl 5 (by decide) (ht (.fieldLink RX11 49 "CloneVolumes" "walk" "LCloneVolumes$Walk;") fl_X11_49) (fun _ h9 => h9) rfl eX11_differs_45.2.2.2.1 ?_
  refine lv_aload_n hx hb eX11_differs_45.2.2.2.2.1 rfl (lv_at hl 0 rfl) ?_
  refine va_get (D := D) (ci := 11) (v := .ref (a 49)) (C := RX11) (T := TX11) (N := 13) hx hb ht inX11 hown hK hP 0 CW_0 rfl 11 (by decide) (ht (.fieldLink RX11 79 "CloneVolumes" "forest" "LCloneVolumes$Forest;") fl_X11_79) (fun _ h9 => h9) rfl eX11_differs_45.2.2.2.2.2.1 ?_
  refine va_get (D := D) (ci := 1) (v := .ref (a 53)) (C := RX1) (T := TX1) (N := 9) hx hb ht inX1 hown hK hP 49 CW_49 rfl 0 (by decide) (ht (.fieldLink RX11 125 "CloneVolumes$Forest" "now" "LCloneVolumes$State;") fl_X11_125) (fun _ h9 => h9) rfl eX11_differs_45.2.2.2.2.2.2.1 ?_
  refine lv_iload_n hx hb eX11_differs_45.2.2.2.2.2.2.2 rfl (lv_at hl 1 rfl) ?_
  obtain ⟨⟨r147, s146⟩, hc145, h⟩ := bn_e h
  refine ywV (r0 := i2 r147) (As := [.ref (a 53), .int (i2 p0)]) (rest := []) (C := RX10) (n := 2) (ws' := CS D a s146) ⟨hx, hb, hml, hown, ht⟩ (k_x10_gather l D a p0 _ _ _ hc145) (zgV ml_X11_168 im_X10_gather se_X10_gather in_X10 co_X10_gather) rfl rfl (by decide +kernel) ⟨Nat.le_of_ble_eq_true rfl, Nat.le_of_ble_eq_true rfl⟩ hN hK hP (hDD _) hS hA 21 CW_21 rfl rfl rfl hl.1 rfl (Nat.le_of_ble_eq_true rfl) eX11_unlike_12.1 ⟨Nat.le_of_ble_eq_true rfl, Nat.le_of_ble_eq_true rfl⟩ (fun H locs hP hS => ?_)
  refine lv_istore (lv' := [(4, .int (i2 r147)), (0, .ref (a 0)), (1, .int (i2 p0)), (2, .int (i2 p1)), (3, .int (i2 p2))]) hx hb eX11_unlike_12.2.1 hl (by decide) rfl (fun ls hl => ?_)
  refine lv_aload_n hx hb eX11_unlike_12.2.2.1 rfl (lv_at hl 1 rfl) ?_
  refine va_get (D := D) (ci := 11) (v := .ref (a 25)) (C := RX11) (T := TX11) (N := 13) hx hb ht inX11 hown hK hP 0 CW_0 rfl 6 (by decide) (ht (.fieldLink RX11 53 "CloneVolumes" "otherWalk" "LCloneVolumes$Walk;") fl_X11_53) (fun _ h9 => h9) rfl eX11_unlike_12.2.2.2.1 ?_
  refine lv_aload_n hx hb eX11_unlike_12.2.2.2.2.1 rfl (lv_at hl 1 rfl) ?_
  refine va_get (D := D) (ci := 11) (v := .ref (a 49)) (C := RX11) (T := TX11) (N := 13) hx hb ht inX11 hown hK hP 0 CW_0 rfl 11 (by decide) (ht (.fieldLink RX11 79 "CloneVolumes" "forest" "LCloneVolumes$Forest;") fl_X11_79) (fun _ h9 => h9) rfl eX11_unlike_12.2.2.2.2.2.1 ?_
  refine va_get (D := D) (ci := 1) (v := .ref (a 53)) (C := RX1) (T := TX1) (N := 9) hx hb ht inX1 hown hK hP 49 CW_49 rfl 0 (by decide) (ht (.fieldLink RX11 125 "CloneVolumes$Forest" "now" "LCloneVolumes$State;") fl_X11_125) (fun _ h9 => h9) rfl eX11_unlike_12.2.2.2.2.2.2.1 ?_
  refine lv_iload_n hx hb eX11_unlike_12.2.2.2.2.2.2.2 rfl (lv_at hl 3 rfl) ?_
  obtain ⟨⟨r150, s149⟩, hc148, h⟩ := bn_e h
  refine ywV (r0 := i2 r150) (As := [.ref (a 53), .int (i2 p1)]) (rest := []) (C := RX10) (n := 2) (ws' := CS D a s149) ⟨hx, hb, hml, hown, ht⟩ (k_x10_gather_v2 l D a p1 _ _ _ hc148) (zgV ml_X11_168 im_X10_gather se_X10_gather in_X10 co_X10_gather) rfl rfl (by decide +kernel) ⟨Nat.le_of_ble_eq_true rfl, Nat.le_of_ble_eq_true rfl⟩ hN hK hP (hDD _) hS hA 25 CW_25 rfl rfl rfl hl.1 rfl (Nat.le_of_ble_eq_true rfl) eX11_unlike_29.1 ⟨Nat.le_of_ble_eq_true rfl, Nat.le_of_ble_eq_true rfl⟩ (fun H locs hP hS => ?_)
  refine lv_istore (lv' := [(5, .int (i2 r150)), (4, .int (i2 r147)), (0, .ref (a 0)), (1, .int (i2 p0)), (2, .int (i2 p1)), (3, .int (i2 p2))]) hx hb eX11_unlike_29.2.1 hl (by decide) rfl (fun ls hl => ?_)
  refine lv_iconst (v := 0) hx hb eX11_unlike_29.2.2.1 (by decide) ?_
  refine lv_istore (lv' := [(6, .int 0), (5, .int (i2 r150)), (4, .int (i2 r147)), (0, .ref (a 0)), (1, .int (i2 p0)), (2, .int (i2 p1)), (3, .int (i2 p2))]) hx hb eX11_unlike_29.2.2.2.1 hl (by decide) rfl (fun ls hl => ?_)
  refine lv_iconst (v := 0) hx hb eX11_unlike_29.2.2.2.2.1 (by decide) ?_
  refine lv_istore (lv' := [(7, .int 0), (6, .int 0), (5, .int (i2 r150)), (4, .int (i2 r147)), (0, .ref (a 0)), (1, .int (i2 p0)), (2, .int (i2 p1)), (3, .int (i2 p2))]) hx hb eX11_unlike_29.2.2.2.2.2.1 hl (by decide) rfl (fun ls hl => ?_)
  refine lv_iconst (v := 0) hx hb eX11_unlike_29.2.2.2.2.2.2.1 (by decide) ?_
  refine lv_istore (lv' := [(8, .int 0), (7, .int 0), (6, .int 0), (5, .int (i2 r150)), (4, .int (i2 r147)), (0, .ref (a 0)), (1, .int (i2 p0)), (2, .int (i2 p1)), (3, .int (i2 p2))]) hx hb eX11_unlike_29.2.2.2.2.2.2.2 hl (by decide) rfl (fun ls hl => ?_)
  refine lv_iconst (v := 0) hx hb eX11_unlike_43.1 (by decide) ?_
  refine lv_istore (lv' := [(9, .int 0), (8, .int 0), (7, .int 0), (6, .int 0), (5, .int (i2 r150)), (4, .int (i2 r147)), (0, .ref (a 0)), (1, .int (i2 p0)), (2, .int (i2 p1)), (3, .int (i2 p2))]) hx hb eX11_unlike_43.2.1 hl (by decide) rfl (fun ls hl => ?_)
  exact J46 FU (p2, r147, r150, 0, 0, 0, 0, s149) _ _ _ ⟨hP, hS, lv_sub hl [6, 9, 5, 4, 3, 2, 1, 0] rfl, h⟩
set_option maxHeartbeats 4000000 in
set_option maxRecDepth 100000 in
theorem k_x11_differs (l : Launch) (D : va_G) (a : Nat → Nat) (p0 : Int) (p1 : Int) (p2 : Int) (sz : Nat) (s : MS) (o : (Int × MS)) (h : m_x11_differs p0 p1 p2 s = some o) : yWi l yX11_differs cX11_differs 5 (some .int) { frames := 4, cells := 0, slots := 0, locals := 240 } D sz [.ref (a 0), .int (i2 p0), .int (i2 p1), .int (i2 p2)] (CS D a s) (CS D a o.2) (i2 o.1) := by
  refine Met.ofW (cc := cX11_differs) (maxL := 5) (ret := (some .int)) (by decide) rfl ?_
  intro p e s₀ m args below meth c s₁ B hml hv
  obtain ⟨rfl, ⟨hsz, hP, hK, hD0⟩, hN⟩ := hv
  have hx := B.exec
  have hb := B.bytes
  have hr := B.returns
  have hts := atoms_spec (ws := wz yX11_differs cX11_differs 5 (some .int)) B.pre
  have ht : ∀ w ∈ lw_gd, w.before _ s₀ = true := fun w h => hts w (List.mem_cons_of_mem _ h)
  have hown : s₀.vm.findClass RX11 = some m.cls := findClass_of_methodNamed B.named
  have hlocks := B.notSynchronized
  subst hsz
  have hD := hD0.self (sz := s₀.heap.size)
  generalize hAe : va_A (CS D a s) s₀.heap.size = A at hD ⊢
  have hA : ∀ q : Nat, s₀.heap.size ≤ q → A q := fun q h => by rw [← hAe]; exact Or.inr h
  have hS : va_S A s₀.heap s₀.heap [] := va_S.rf
  have hDD : ∀ t : MS, va_D A (CS D a t) := fun t => CW_D t hD
  have hl := lv_entry ([.ref (a 0), .int (i2 p0), .int (i2 p1), .int (i2 p2)]) (n := 5) (Nat.le_of_ble_eq_true rfl)
  rw [lg_entry_eq]
  generalize (lg_sl ([.ref (a 0), .int (i2 p0), .int (i2 p1), .int (i2 p2)]) ++ List.replicate (5 - (lg_sl ([.ref (a 0), .int (i2 p0), .int (i2 p1), .int (i2 p2)])).length) Slot.unset).toArray = ls at hl ⊢
  have hl : lv_has ls 5 [(0, .ref (a 0)), (1, .int (i2 p0)), (2, .int (i2 p1)), (3, .int (i2 p2))] := hl
  unfold m_x11_differs at h
  refine y_head (pcJ := 27) (σ := MS) (fun u H locs ls => va_P D vwCl (CS D a u) H ∧ va_S A s₀.heap H locs ∧ lv_has ls 5 [] ∧ m_x11_differs_J27 u = some o) (fun u => []) (fun u H locs ls hI => ?_) (fun J27 => ?_)
  · obtain ⟨hP, hS, hl, h⟩ := hI
    obtain ⟨s1, rfl⟩ : ∃ z, z = u := ⟨u, rfl⟩
    have hP : va_P D vwCl (CS D a s1) H := hP
    have hl : lv_has ls 5 [] := hl
    have h : m_x11_differs_J27 s1 = some o := h
    unfold m_x11_differs_J27 at h
    refine lv_iconst (v := (-1)) hx hb eX11_differs_18.2.2.2.2.1 (by decide) ?_
    obtain rfl := Option.some.inj h
    exact W.iret (v := (-1)) hx hb hr (fun t ht hW => ⟨⟨_, (), rfl, rfl, by rw [ht]; exact hP, va_K.moved hW.alike hK, hDD _⟩, hS.F ht⟩) hS.2.2 eX11_differs_18.2.2.2.2.2.1
  refine lv_aload_n hx hb eX11_differs_0.1 rfl (lv_at hl 0 rfl) ?_
  refine va_get (D := D) (ci := 11) (v := .ref (a 49)) (C := RX11) (T := TX11) (N := 13) hx hb ht inX11 hown hK hP 0 CW_0 rfl 11 (by decide) (ht (.fieldLink RX11 79 "CloneVolumes" "forest" "LCloneVolumes$Forest;") fl_X11_79) (fun _ h9 => h9) rfl eX11_differs_0.2.1 ?_
  refine va_get (D := D) (ci := 1) (v := .ref (a 53)) (C := RX1) (T := TX1) (N := 9) hx hb ht inX1 hown hK hP 49 CW_49 rfl 0 (by decide) (ht (.fieldLink RX11 125 "CloneVolumes$Forest" "now" "LCloneVolumes$State;") fl_X11_125) (fun _ h9 => h9) rfl eX11_differs_0.2.2.1 ?_
  refine lv_astore (lv' := [(4, .ref (a 53)), (0, .ref (a 0)), (1, .int (i2 p0)), (2, .int (i2 p1)), (3, .int (i2 p2))]) hx hb eX11_differs_0.2.2.2.1 hl (by decide) rfl (fun ls hl => ?_)
  refine lv_aload hx hb eX11_differs_0.2.2.2.2.1 (lv_at hl 0 rfl) ?_
  refine lv_iload_n hx hb eX11_differs_0.2.2.2.2.2.1 rfl (lv_at hl 2 rfl) ?_
  obtain ⟨r3, hc2, h⟩ := bn_e h
  refine ycV (r0 := i2 r3) (As := [.int (i2 p0)]) (rest := []) (C := RX8) (n := 1) ⟨hx, hb, hml, hown, ht⟩ (k_x8_isVolume l D a p0 _ _ hc2) (zgV ml_X11_161 im_X8_isVolume se_X8_isVolume in_X8 co_X8_isVolume) rfl rfl (by decide +kernel) ⟨Nat.le_of_ble_eq_true rfl, Nat.le_of_ble_eq_true rfl⟩ hN hK hP hS 53 CW_53 rfl rfl rfl hl.1 rfl (Nat.le_of_ble_eq_true rfl) eX11_differs_0.2.2.2.2.2.2.1 ⟨Nat.le_of_ble_eq_true rfl, Nat.le_of_ble_eq_true rfl⟩ (fun H locs hP hS => ?_)
  obtain ⟨hr4, h⟩ := rg_e h
  refine lv_if_eq (tgt := 27) hx hb eX11_differs_0.2.2.2.2.2.2.2 (by decide) (fun c5 => ?_) (fun c5 => ?_)
  · have h := if_t ((i2_eq (x := r3) (y := 0) hr4 (by decide)).mp c5) h
    exact J27 s _ _ _ ⟨hP, hS, lv_sub hl [] rfl, h⟩
  · have h := if_f (mt (i2_eq (x := r3) (y := 0) hr4 (by decide)).mpr c5) h
    refine lv_aload hx hb eX11_differs_18.1 (lv_at hl 0 rfl) ?_
    refine lv_iload_n hx hb eX11_differs_18.2.1 rfl (lv_at hl 3 rfl) ?_
    obtain ⟨r7, hc6, h⟩ := bn_e h
    refine ycV (r0 := i2 r7) (As := [.int (i2 p1)]) (rest := []) (C := RX8) (n := 1) ⟨hx, hb, hml, hown, ht⟩ (k_x8_isVolume l D a p1 _ _ hc6) (zgV ml_X11_161 im_X8_isVolume se_X8_isVolume in_X8 co_X8_isVolume) rfl rfl (by decide +kernel) ⟨Nat.le_of_ble_eq_true rfl, Nat.le_of_ble_eq_true rfl⟩ hN hK hP hS 53 CW_53 rfl rfl rfl hl.1 rfl (Nat.le_of_ble_eq_true rfl) eX11_differs_18.2.2.1 ⟨Nat.le_of_ble_eq_true rfl, Nat.le_of_ble_eq_true rfl⟩ (fun H locs hP hS => ?_)
    obtain ⟨hr8, h⟩ := rg_e h
    refine lv_if_ne (tgt := 29) hx hb eX11_differs_18.2.2.2.1 (by decide) (fun c9 => ?_) (fun c9 => ?_)
    · have h := if_f (mt (i2_eq (x := r7) (y := 0) hr8 (by decide)).mpr c9) h
      refine lv_aload_n hx hb eX11_differs_18.2.2.2.2.2.2.1 rfl (lv_at hl 1 rfl) ?_
      refine lv_aload hx hb eX11_differs_18.2.2.2.2.2.2.2 (lv_at hl 0 rfl) ?_
      refine va_get (D := D) (ci := 8) (v := .ref (a 60)) (C := RX8) (T := TX8) (N := 11) hx hb ht inX8 hown hK hP 53 CW_53 rfl 9 (by decide) (ht (.fieldLink RX11 165 "CloneVolumes$State" "roots" "[I") fl_X11_165) (fun _ h9 => h9) rfl eX11_differs_32.1 ?_
      refine lv_iload_n hx hb eX11_differs_32.2.1 rfl (lv_at hl 2 rfl) ?_
      obtain ⟨y10, ey10, iy10, h⟩ := rdI_e h
      refine ya_iald (i := p0) hx hb hK hP 60 0 CW_60 rfl (by decide) ey10 iy10 eX11_differs_32.2.2.1 ?_
      refine lv_aload hx hb eX11_differs_32.2.2.2.1 (lv_at hl 0 rfl) ?_
      refine va_get (D := D) (ci := 8) (v := .ref (a 60)) (C := RX8) (T := TX8) (N := 11) hx hb ht inX8 hown hK hP 53 CW_53 rfl 9 (by decide) (ht (.fieldLink RX11 165 "CloneVolumes$State" "roots" "[I") fl_X11_165) (fun _ h9 => h9) rfl eX11_differs_32.2.2.2.2.1 ?_
      refine lv_iload_n hx hb eX11_differs_32.2.2.2.2.2.1 rfl (lv_at hl 3 rfl) ?_
      obtain ⟨y11, ey11, iy11, h⟩ := rdI_e h
      refine ya_iald (i := p1) hx hb hK hP 60 0 CW_60 rfl (by decide) ey11 iy11 eX11_differs_32.2.2.2.2.2.2.1 ?_
      refine lv_iload_n hx hb eX11_differs_32.2.2.2.2.2.2.2 rfl (lv_at hl 4 rfl) ?_
      obtain ⟨⟨r14, s13⟩, hc12, h⟩ := bn_e h
      refine ywV (r0 := i2 r14) (As := [.int (i2 y10), .int (i2 y11), .int (i2 p2)]) (rest := []) (C := RX11) (n := 3) (ws' := CS D a s13) ⟨hx, hb, hml, hown, ht⟩ (k_x11_unlike l D a y10 y11 p2 _ _ _ hc12) (zgV ml_X11_233 im_X11_unlike se_X11_unlike in_X11 co_X11_unlike) rfl rfl (by decide +kernel) ⟨Nat.le_of_ble_eq_true rfl, Nat.le_of_ble_eq_true rfl⟩ hN hK hP (hDD _) hS hA 0 CW_0 rfl rfl rfl hl.1 rfl (Nat.le_of_ble_eq_true rfl) eX11_differs_45.1 ⟨Nat.le_of_ble_eq_true rfl, Nat.le_of_ble_eq_true rfl⟩ (fun H locs hP hS => ?_)
      obtain rfl := Option.some.inj h
      exact W.iret (v := (i2 r14)) hx hb hr (fun t ht hW => ⟨⟨_, (), rfl, rfl, by rw [ht]; exact hP, va_K.moved hW.alike hK, hDD _⟩, hS.F ht⟩) hS.2.2 eX11_differs_45.2.1
    · have h := if_t ((i2_eq (x := r7) (y := 0) hr8 (by decide)).mp c9) h
      exact J27 s _ _ _ ⟨hP, hS, lv_sub hl [] rfl, h⟩
set_option maxHeartbeats 4000000 in
set_option maxRecDepth 100000 in
theorem k_x8_become (l : Launch) (D : va_G) (a : Nat → Nat) (sz : Nat) (s : MS) (o : MS) (h : m_x8_become s = some o) : yWv l yX8_become cX8_become 2 none { frames := 1, cells := 0, slots := 0, locals := 60 } D sz [.ref (a 53), .ref (a 62)] (CS D a s) (CS D a o) := by
  refine Met.ofW (cc := cX8_become) (maxL := 2) (ret := none) (by decide) rfl ?_
  intro p e s₀ m args below meth c s₁ B hml hv
  obtain ⟨rfl, ⟨hsz, hP, hK, hD0⟩, hN⟩ := hv
  have hx := B.exec
  have hb := B.bytes
  have hr := B.returns
  have hts := atoms_spec (ws := wz yX8_become cX8_become 2 none) B.pre
  have ht : ∀ w ∈ lw_gd, w.before _ s₀ = true := fun w h => hts w (List.mem_cons_of_mem _ h)
  have hown : s₀.vm.findClass RX8 = some m.cls := findClass_of_methodNamed B.named
  have hlocks := B.notSynchronized
  subst hsz
  have hD := hD0.self (sz := s₀.heap.size)
  generalize hAe : va_A (CS D a s) s₀.heap.size = A at hD ⊢
  have hA : ∀ q : Nat, s₀.heap.size ≤ q → A q := fun q h => by rw [← hAe]; exact Or.inr h
  have hS : va_S A s₀.heap s₀.heap [] := va_S.rf
  have hDD : ∀ t : MS, va_D A (CS D a t) := fun t => CW_D t hD
  have hl := lv_entry ([.ref (a 53), .ref (a 62)]) (n := 2) (Nat.le_of_ble_eq_true rfl)
  rw [lg_entry_eq]
  generalize (lg_sl ([.ref (a 53), .ref (a 62)]) ++ List.replicate (2 - (lg_sl ([.ref (a 53), .ref (a 62)])).length) Slot.unset).toArray = ls at hl ⊢
  have hl : lv_has ls 2 [(0, .ref (a 53)), (1, .ref (a 62))] := hl
  unfold m_x8_become at h
  refine lv_aload_n hx hb eX11_unlike_229.2.2.2.2.2.2.2 rfl (lv_at hl 0 rfl) ?_
  refine lv_aload_n hx hb eX8_become_1.1 rfl (lv_at hl 1 rfl) ?_
  refine va_get (D := D) (ci := 8) (v := .int (i2 (gI s 1240))) (C := RX8) (T := TX8) (N := 11) hx hb ht inX8 hown hK hP 62 CW_62 rfl 0 (by decide) (ht (.fieldLink RX8 40 "CloneVolumes$State" "blocks" "I") fl_X8_40) (fun _ h9 => h9) rfl eX8_become_1.2.1 ?_
  refine ya_put (D := D) (ci := 8) (v := .int (i2 (gI s 1240))) (ty := .int) (C := RX8) (T := TX8) (N := 11) hx hb ht inX8 tyX8 tyX8_ok nmX8 hown hK hP (hDD _) hS 53 CW_53 rfl 0 (by decide) (ht (.fieldLink RX8 40 "CloneVolumes$State" "blocks" "I") fl_X8_40) (fun _ h9 => h9) rfl (by decide +kernel) rfl rfl (Nat.le_of_ble_eq_true rfl) eX8_become_1.2.2.1 (CW_w53_0 (gI s 1240)) (fun H locs hP hS => ?_)
  obtain ⟨s1, hs1, h⟩ := st_e h
  rw [hs1] at hP
  refine lv_aload_n hx hb eX8_become_1.2.2.2.1 rfl (lv_at hl 0 rfl) ?_
  refine lv_aload_n hx hb eX8_become_1.2.2.2.2.1 rfl (lv_at hl 1 rfl) ?_
  refine va_get (D := D) (ci := 8) (v := .int (i2 (gI s1 1241))) (C := RX8) (T := TX8) (N := 11) hx hb ht inX8 hown hK hP 62 CW_62 rfl 1 (by decide) (ht (.fieldLink RX8 44 "CloneVolumes$State" "spent" "I") fl_X8_44) (fun _ h9 => h9) rfl eX8_become_1.2.2.2.2.2.1 ?_
  refine ya_put (D := D) (ci := 8) (v := .int (i2 (gI s1 1241))) (ty := .int) (C := RX8) (T := TX8) (N := 11) hx hb ht inX8 tyX8 tyX8_ok nmX8 hown hK hP (hDD _) hS 53 CW_53 rfl 1 (by decide) (ht (.fieldLink RX8 44 "CloneVolumes$State" "spent" "I") fl_X8_44) (fun _ h9 => h9) rfl (by decide +kernel) rfl rfl (Nat.le_of_ble_eq_true rfl) eX8_become_1.2.2.2.2.2.2.1 (CW_w53_1 (gI s1 1241)) (fun H locs hP hS => ?_)
  obtain ⟨s2, hs2, h⟩ := st_e h
  rw [hs2] at hP
  refine lv_aload_n hx hb eX8_become_1.2.2.2.2.2.2.2 rfl (lv_at hl 0 rfl) ?_
  refine lv_aload_n hx hb eX8_become_17.1 rfl (lv_at hl 1 rfl) ?_
  refine va_get (D := D) (ci := 8) (v := .long (i8 (gL s2 1242))) (C := RX8) (T := TX8) (N := 11) hx hb ht inX8 hown hK hP 62 CW_62 rfl 2 (by decide) (ht (.fieldLink RX8 47 "CloneVolumes$State" "written" "J") fl_X8_47) (fun _ h9 => h9) rfl eX8_become_17.2.1 ?_
  refine ya_put (D := D) (ci := 8) (v := .long (i8 (gL s2 1242))) (ty := .long) (C := RX8) (T := TX8) (N := 11) hx hb ht inX8 tyX8 tyX8_ok nmX8 hown hK hP (hDD _) hS 53 CW_53 rfl 2 (by decide) (ht (.fieldLink RX8 47 "CloneVolumes$State" "written" "J") fl_X8_47) (fun _ h9 => h9) rfl (by decide +kernel) rfl rfl (Nat.le_of_ble_eq_true rfl) eX8_become_17.2.2.1 (CW_w53_2 (gL s2 1242)) (fun H locs hP hS => ?_)
  obtain ⟨s3, hs3, h⟩ := st_e h
  rw [hs3] at hP
  refine lv_aload_n hx hb eX8_become_17.2.2.2.1 rfl (lv_at hl 1 rfl) ?_
  refine va_get (D := D) (ci := 8) (v := .ref (a 63)) (C := RX8) (T := TX8) (N := 11) hx hb ht inX8 hown hK hP 62 CW_62 rfl 3 (by decide) (ht (.fieldLink RX8 9 "CloneVolumes$State" "count" "[I") fl_X8_9) (fun _ h9 => h9) rfl eX8_become_17.2.2.2.2.1 ?_
  refine lv_iconst (v := 0) hx hb eX8_become_17.2.2.2.2.2.1 (by decide) ?_
  refine lv_aload_n hx hb eX8_become_17.2.2.2.2.2.2.1 rfl (lv_at hl 0 rfl) ?_
  refine va_get (D := D) (ci := 8) (v := .ref (a 54)) (C := RX8) (T := TX8) (N := 11) hx hb ht inX8 hown hK hP 53 CW_53 rfl 3 (by decide) (ht (.fieldLink RX8 9 "CloneVolumes$State" "count" "[I") fl_X8_9) (fun _ h9 => h9) rfl eX8_become_17.2.2.2.2.2.2.2 ?_
  refine lv_iconst (v := 0) hx hb eX8_become_33.1 (by decide) ?_
  refine lv_bipush (v := 48) hx hb eX8_become_33.2.1 (by decide) ?_
  obtain ⟨hc4, h⟩ := cpg_e h
  refine ya_copyi (sp := 0) (dp := 0) (n := 48) hx hb (by rw [hml]; exact hl.1.symm) hown (ht _ ml_X8_51) (ht _ na_cpy) (ht _ st_cpy) (ht _ in_sys) hK hP (hDD _) hS 63 54 CW_63 CW_54 (by decide) (by decide) hc4 (Nat.le_of_ble_eq_true rfl) (Nat.le_of_ble_eq_true rfl) eX8_become_33.2.2.1 (CW_w54 _) (fun H locs hP hS => ?_)
  obtain ⟨s5, hs5, h⟩ := st_e h
  rw [hs5] at hP
  refine lv_aload_n hx hb eX8_become_33.2.2.2.1 rfl (lv_at hl 1 rfl) ?_
  refine va_get (D := D) (ci := 8) (v := .ref (a 64)) (C := RX8) (T := TX8) (N := 11) hx hb ht inX8 hown hK hP 62 CW_62 rfl 4 (by decide) (ht (.fieldLink RX8 15 "CloneVolumes$State" "saved" "[I") fl_X8_15) (fun _ h9 => h9) rfl eX8_become_33.2.2.2.2.1 ?_
  refine lv_iconst (v := 0) hx hb eX8_become_33.2.2.2.2.2.1 (by decide) ?_
  refine lv_aload_n hx hb eX8_become_33.2.2.2.2.2.2.1 rfl (lv_at hl 0 rfl) ?_
  refine va_get (D := D) (ci := 8) (v := .ref (a 55)) (C := RX8) (T := TX8) (N := 11) hx hb ht inX8 hown hK hP 53 CW_53 rfl 4 (by decide) (ht (.fieldLink RX8 15 "CloneVolumes$State" "saved" "[I") fl_X8_15) (fun _ h9 => h9) rfl eX8_become_33.2.2.2.2.2.2.2 ?_
  refine lv_iconst (v := 0) hx hb eX8_become_48.1 (by decide) ?_
  refine lv_bipush (v := 48) hx hb eX8_become_48.2.1 (by decide) ?_
  obtain ⟨hc6, h⟩ := cpg_e h
  refine ya_copyi (sp := 0) (dp := 0) (n := 48) hx hb (by rw [hml]; exact hl.1.symm) hown (ht _ ml_X8_51) (ht _ na_cpy) (ht _ st_cpy) (ht _ in_sys) hK hP (hDD _) hS 64 55 CW_64 CW_55 (by decide) (by decide) hc6 (Nat.le_of_ble_eq_true rfl) (Nat.le_of_ble_eq_true rfl) eX8_become_48.2.2.1 (CW_w55 _) (fun H locs hP hS => ?_)
  obtain ⟨s7, hs7, h⟩ := st_e h
  rw [hs7] at hP
  refine lv_aload_n hx hb eX8_become_48.2.2.2.1 rfl (lv_at hl 1 rfl) ?_
  refine va_get (D := D) (ci := 8) (v := .ref (a 65)) (C := RX8) (T := TX8) (N := 11) hx hb ht inX8 hown hK hP 62 CW_62 rfl 5 (by decide) (ht (.fieldLink RX8 18 "CloneVolumes$State" "level" "[I") fl_X8_18) (fun _ h9 => h9) rfl eX8_become_48.2.2.2.2.1 ?_
  refine lv_iconst (v := 0) hx hb eX8_become_48.2.2.2.2.2.1 (by decide) ?_
  refine lv_aload_n hx hb eX8_become_48.2.2.2.2.2.2.1 rfl (lv_at hl 0 rfl) ?_
  refine va_get (D := D) (ci := 8) (v := .ref (a 56)) (C := RX8) (T := TX8) (N := 11) hx hb ht inX8 hown hK hP 53 CW_53 rfl 5 (by decide) (ht (.fieldLink RX8 18 "CloneVolumes$State" "level" "[I") fl_X8_18) (fun _ h9 => h9) rfl eX8_become_48.2.2.2.2.2.2.2 ?_
  refine lv_iconst (v := 0) hx hb eX8_become_63.1 (by decide) ?_
  refine lv_bipush (v := 48) hx hb eX8_become_63.2.1 (by decide) ?_
  obtain ⟨hc8, h⟩ := cpg_e h
  refine ya_copyi (sp := 0) (dp := 0) (n := 48) hx hb (by rw [hml]; exact hl.1.symm) hown (ht _ ml_X8_51) (ht _ na_cpy) (ht _ st_cpy) (ht _ in_sys) hK hP (hDD _) hS 65 56 CW_65 CW_56 (by decide) (by decide) hc8 (Nat.le_of_ble_eq_true rfl) (Nat.le_of_ble_eq_true rfl) eX8_become_63.2.2.1 (CW_w56 _) (fun H locs hP hS => ?_)
  obtain ⟨s9, hs9, h⟩ := st_e h
  rw [hs9] at hP
  refine lv_aload_n hx hb eX8_become_63.2.2.2.1 rfl (lv_at hl 1 rfl) ?_
  refine va_get (D := D) (ci := 8) (v := .ref (a 66)) (C := RX8) (T := TX8) (N := 11) hx hb ht inX8 hown hK hP 62 CW_62 rfl 6 (by decide) (ht (.fieldLink RX8 21 "CloneVolumes$State" "size" "[I") fl_X8_21) (fun _ h9 => h9) rfl eX8_become_63.2.2.2.2.1 ?_
  refine lv_iconst (v := 0) hx hb eX8_become_63.2.2.2.2.2.1 (by decide) ?_
  refine lv_aload_n hx hb eX8_become_63.2.2.2.2.2.2.1 rfl (lv_at hl 0 rfl) ?_
  refine va_get (D := D) (ci := 8) (v := .ref (a 57)) (C := RX8) (T := TX8) (N := 11) hx hb ht inX8 hown hK hP 53 CW_53 rfl 6 (by decide) (ht (.fieldLink RX8 21 "CloneVolumes$State" "size" "[I") fl_X8_21) (fun _ h9 => h9) rfl eX8_become_63.2.2.2.2.2.2.2 ?_
  refine lv_iconst (v := 0) hx hb eX8_become_78.1 (by decide) ?_
  refine lv_bipush (v := 48) hx hb eX8_become_78.2.1 (by decide) ?_
  obtain ⟨hc10, h⟩ := cpg_e h
  refine ya_copyi (sp := 0) (dp := 0) (n := 48) hx hb (by rw [hml]; exact hl.1.symm) hown (ht _ ml_X8_51) (ht _ na_cpy) (ht _ st_cpy) (ht _ in_sys) hK hP (hDD _) hS 66 57 CW_66 CW_57 (by decide) (by decide) hc10 (Nat.le_of_ble_eq_true rfl) (Nat.le_of_ble_eq_true rfl) eX8_become_78.2.2.1 (CW_w57 _) (fun H locs hP hS => ?_)
  obtain ⟨s11, hs11, h⟩ := st_e h
  rw [hs11] at hP
  refine lv_aload_n hx hb eX8_become_78.2.2.2.1 rfl (lv_at hl 1 rfl) ?_
  refine va_get (D := D) (ci := 8) (v := .ref (a 67)) (C := RX8) (T := TX8) (N := 11) hx hb ht inX8 hown hK hP 62 CW_62 rfl 7 (by decide) (ht (.fieldLink RX8 24 "CloneVolumes$State" "keys" "[I") fl_X8_24) (fun _ h9 => h9) rfl eX8_become_78.2.2.2.2.1 ?_
  refine lv_iconst (v := 0) hx hb eX8_become_78.2.2.2.2.2.1 (by decide) ?_
  refine lv_aload_n hx hb eX8_become_78.2.2.2.2.2.2.1 rfl (lv_at hl 0 rfl) ?_
  refine va_get (D := D) (ci := 8) (v := .ref (a 58)) (C := RX8) (T := TX8) (N := 11) hx hb ht inX8 hown hK hP 53 CW_53 rfl 7 (by decide) (ht (.fieldLink RX8 24 "CloneVolumes$State" "keys" "[I") fl_X8_24) (fun _ h9 => h9) rfl eX8_become_78.2.2.2.2.2.2.2 ?_
  refine lv_iconst (v := 0) hx hb eX8_become_93.1 (by decide) ?_
  refine lv_sipush (v := 288) hx hb eX8_become_93.2.1 (by decide) ?_
  obtain ⟨hc12, h⟩ := cpg_e h
  refine ya_copyi (sp := 0) (dp := 0) (n := 288) hx hb (by rw [hml]; exact hl.1.symm) hown (ht _ ml_X8_51) (ht _ na_cpy) (ht _ st_cpy) (ht _ in_sys) hK hP (hDD _) hS 67 58 CW_67 CW_58 (by decide) (by decide) hc12 (Nat.le_of_ble_eq_true rfl) (Nat.le_of_ble_eq_true rfl) eX8_become_93.2.2.1 (CW_w58 _) (fun H locs hP hS => ?_)
  obtain ⟨s13, hs13, h⟩ := st_e h
  rw [hs13] at hP
  refine lv_aload_n hx hb eX8_become_93.2.2.2.1 rfl (lv_at hl 1 rfl) ?_
  refine va_get (D := D) (ci := 8) (v := .ref (a 68)) (C := RX8) (T := TX8) (N := 11) hx hb ht inX8 hown hK hP 62 CW_62 rfl 8 (by decide) (ht (.fieldLink RX8 27 "CloneVolumes$State" "values" "[I") fl_X8_27) (fun _ h9 => h9) rfl eX8_become_93.2.2.2.2.1 ?_
  refine lv_iconst (v := 0) hx hb eX8_become_93.2.2.2.2.2.1 (by decide) ?_
  refine lv_aload_n hx hb eX8_become_93.2.2.2.2.2.2.1 rfl (lv_at hl 0 rfl) ?_
  refine va_get (D := D) (ci := 8) (v := .ref (a 59)) (C := RX8) (T := TX8) (N := 11) hx hb ht inX8 hown hK hP 53 CW_53 rfl 8 (by decide) (ht (.fieldLink RX8 27 "CloneVolumes$State" "values" "[I") fl_X8_27) (fun _ h9 => h9) rfl eX8_become_93.2.2.2.2.2.2.2 ?_
  refine lv_iconst (v := 0) hx hb eX8_become_109.1 (by decide) ?_
  refine lv_sipush (v := 288) hx hb eX8_become_109.2.1 (by decide) ?_
  obtain ⟨hc14, h⟩ := cpg_e h
  refine ya_copyi (sp := 0) (dp := 0) (n := 288) hx hb (by rw [hml]; exact hl.1.symm) hown (ht _ ml_X8_51) (ht _ na_cpy) (ht _ st_cpy) (ht _ in_sys) hK hP (hDD _) hS 68 59 CW_68 CW_59 (by decide) (by decide) hc14 (Nat.le_of_ble_eq_true rfl) (Nat.le_of_ble_eq_true rfl) eX8_become_109.2.2.1 (CW_w59 _) (fun H locs hP hS => ?_)
  obtain ⟨s15, hs15, h⟩ := st_e h
  rw [hs15] at hP
  refine lv_aload_n hx hb eX8_become_109.2.2.2.1 rfl (lv_at hl 1 rfl) ?_
  refine va_get (D := D) (ci := 8) (v := .ref (a 69)) (C := RX8) (T := TX8) (N := 11) hx hb ht inX8 hown hK hP 62 CW_62 rfl 9 (by decide) (ht (.fieldLink RX8 30 "CloneVolumes$State" "roots" "[I") fl_X8_30) (fun _ h9 => h9) rfl eX8_become_109.2.2.2.2.1 ?_
  refine lv_iconst (v := 0) hx hb eX8_become_109.2.2.2.2.2.1 (by decide) ?_
  refine lv_aload_n hx hb eX8_become_109.2.2.2.2.2.2.1 rfl (lv_at hl 0 rfl) ?_
  refine va_get (D := D) (ci := 8) (v := .ref (a 60)) (C := RX8) (T := TX8) (N := 11) hx hb ht inX8 hown hK hP 53 CW_53 rfl 9 (by decide) (ht (.fieldLink RX8 30 "CloneVolumes$State" "roots" "[I") fl_X8_30) (fun _ h9 => h9) rfl eX8_become_109.2.2.2.2.2.2.2 ?_
  refine lv_iconst (v := 0) hx hb eX8_become_125.1 (by decide) ?_
  refine lv_bipush (v := 8) hx hb eX8_become_125.2.1 (by decide) ?_
  obtain ⟨hc16, h⟩ := cpg_e h
  refine ya_copyi (sp := 0) (dp := 0) (n := 8) hx hb (by rw [hml]; exact hl.1.symm) hown (ht _ ml_X8_51) (ht _ na_cpy) (ht _ st_cpy) (ht _ in_sys) hK hP (hDD _) hS 69 60 CW_69 CW_60 (by decide) (by decide) hc16 (Nat.le_of_ble_eq_true rfl) (Nat.le_of_ble_eq_true rfl) eX8_become_125.2.2.1 (CW_w60 _) (fun H locs hP hS => ?_)
  obtain ⟨s17, hs17, h⟩ := st_e h
  rw [hs17] at hP
  refine lv_aload_n hx hb eX8_become_125.2.2.2.1 rfl (lv_at hl 1 rfl) ?_
  refine va_get (D := D) (ci := 8) (v := .ref (a 70)) (C := RX8) (T := TX8) (N := 11) hx hb ht inX8 hown hK hP 62 CW_62 rfl 10 (by decide) (ht (.fieldLink RX8 33 "CloneVolumes$State" "savedRoots" "[I") fl_X8_33) (fun _ h9 => h9) rfl eX8_become_125.2.2.2.2.1 ?_
  refine lv_iconst (v := 0) hx hb eX8_become_125.2.2.2.2.2.1 (by decide) ?_
  refine lv_aload_n hx hb eX8_become_125.2.2.2.2.2.2.1 rfl (lv_at hl 0 rfl) ?_
  refine va_get (D := D) (ci := 8) (v := .ref (a 61)) (C := RX8) (T := TX8) (N := 11) hx hb ht inX8 hown hK hP 53 CW_53 rfl 10 (by decide) (ht (.fieldLink RX8 33 "CloneVolumes$State" "savedRoots" "[I") fl_X8_33) (fun _ h9 => h9) rfl eX8_become_125.2.2.2.2.2.2.2 ?_
  refine lv_iconst (v := 0) hx hb eX8_become_140.1 (by decide) ?_
  refine lv_bipush (v := 8) hx hb eX8_become_140.2.1 (by decide) ?_
  obtain ⟨hc18, h⟩ := cpg_e h
  refine ya_copyi (sp := 0) (dp := 0) (n := 8) hx hb (by rw [hml]; exact hl.1.symm) hown (ht _ ml_X8_51) (ht _ na_cpy) (ht _ st_cpy) (ht _ in_sys) hK hP (hDD _) hS 70 61 CW_70 CW_61 (by decide) (by decide) hc18 (Nat.le_of_ble_eq_true rfl) (Nat.le_of_ble_eq_true rfl) eX8_become_140.2.2.1 (CW_w61 _) (fun H locs hP hS => ?_)
  obtain ⟨s19, hs19, h⟩ := st_e h
  rw [hs19] at hP
  obtain rfl := Option.some.inj h
  exact W.vret hx hb hr (fun t ht hW => ⟨⟨(), rfl, trivial, by rw [ht]; exact hP, va_K.moved hW.alike hK, hDD _⟩, hS.F ht⟩) hS.2.2 eX8_become_140.2.2.2.1
set_option maxHeartbeats 4000000 in
set_option maxRecDepth 100000 in
theorem k_x8_mark (l : Launch) (D : va_G) (a : Nat → Nat) (p0 : Int) (sz : Nat) (s : MS) (o : MS) (h : m_x8_mark p0 s = some o) : yWv l yX8_mark cX8_mark 2 none { frames := 0, cells := 0, slots := 0, locals := 0 } D sz [.ref (a 53), .int (i2 p0)] (CS D a s) (CS D a o) := by
  refine Met.ofW (cc := cX8_mark) (maxL := 2) (ret := none) (by decide) rfl ?_
  intro p e s₀ m args below meth c s₁ B hml hv
  obtain ⟨rfl, ⟨hsz, hP, hK, hD0⟩, hN⟩ := hv
  have hx := B.exec
  have hb := B.bytes
  have hr := B.returns
  have hts := atoms_spec (ws := wz yX8_mark cX8_mark 2 none) B.pre
  have ht : ∀ w ∈ lw_gd, w.before _ s₀ = true := fun w h => hts w (List.mem_cons_of_mem _ h)
  have hown : s₀.vm.findClass RX8 = some m.cls := findClass_of_methodNamed B.named
  have hlocks := B.notSynchronized
  subst hsz
  have hD := hD0.self (sz := s₀.heap.size)
  generalize hAe : va_A (CS D a s) s₀.heap.size = A at hD ⊢
  have hA : ∀ q : Nat, s₀.heap.size ≤ q → A q := fun q h => by rw [← hAe]; exact Or.inr h
  have hS : va_S A s₀.heap s₀.heap [] := va_S.rf
  have hDD : ∀ t : MS, va_D A (CS D a t) := fun t => CW_D t hD
  have hl := lv_entry ([.ref (a 53), .int (i2 p0)]) (n := 2) (Nat.le_of_ble_eq_true rfl)
  rw [lg_entry_eq]
  generalize (lg_sl ([.ref (a 53), .int (i2 p0)]) ++ List.replicate (2 - (lg_sl ([.ref (a 53), .int (i2 p0)])).length) Slot.unset).toArray = ls at hl ⊢
  have hl : lv_has ls 2 [(0, .ref (a 53)), (1, .int (i2 p0))] := hl
  unfold m_x8_mark at h
  refine lv_aload_n hx hb eX8_insert_116.2.2.2.2.2.2.2 rfl (lv_at hl 0 rfl) ?_
  refine lv_dup hx hb eX8_mark_1.1 rfl ?_
  refine va_get (D := D) (ci := 8) (v := .long (i8 (gL s 1062))) (C := RX8) (T := TX8) (N := 11) hx hb ht inX8 hown hK hP 53 CW_53 rfl 2 (by decide) (ht (.fieldLink RX8 47 "CloneVolumes$State" "written" "J") fl_X8_47) (fun _ h9 => h9) rfl eX8_mark_1.2.1 ?_
  refine lv_lconst (v := 1) hx hb eX8_mark_1.2.2.1 (by decide) ?_
  refine lv_iload_n hx hb eX8_mark_1.2.2.2.1 rfl (lv_at hl 1 rfl) ?_
  refine lv_lshl (v := i8 (shlLZ 1 p0)) hx hb eX8_mark_1.2.2.2.2.1 (i8_of (shlL (i8 1) (i2 p0))).symm ?_
  refine lv_lor hx hb eX8_mark_1.2.2.2.2.2.1 ?_
  refine z_topl (y := i8 (orL (gL s 1062) (shlLZ 1 p0))) (i8_of (i8 (gL s 1062) ||| i8 (shlLZ 1 p0))).symm ?_
  refine ya_put (D := D) (ci := 8) (v := .long (i8 (orL (gL s 1062) (shlLZ 1 p0)))) (ty := .long) (C := RX8) (T := TX8) (N := 11) hx hb ht inX8 tyX8 tyX8_ok nmX8 hown hK hP (hDD _) hS 53 CW_53 rfl 2 (by decide) (ht (.fieldLink RX8 47 "CloneVolumes$State" "written" "J") fl_X8_47) (fun _ h9 => h9) rfl (by decide +kernel) rfl rfl (Nat.le_of_ble_eq_true rfl) eX8_mark_1.2.2.2.2.2.2.1 (CW_w53_2 (orL (gL s 1062) (shlLZ 1 p0))) (fun H locs hP hS => ?_)
  obtain ⟨s1, hs1, h⟩ := st_e h
  rw [hs1] at hP
  obtain rfl := Option.some.inj h
  exact W.vret hx hb hr (fun t ht hW => ⟨⟨(), rfl, trivial, by rw [ht]; exact hP, va_K.moved hW.alike hK, hDD _⟩, hS.F ht⟩) hS.2.2 eX8_mark_1.2.2.2.2.2.2.2
set_option maxHeartbeats 4000000 in
set_option maxRecDepth 100000 in
theorem k_x8_insert (l : Launch) (D : va_G) (a : Nat → Nat) (p0 : Int) (p1 : Int) (p2 : Int) (p3 : Int) (sz : Nat) (s : MS) (o : MS) (h : m_x8_insert p0 p1 p2 p3 s = some o) : yWv l yX8_insert cX8_insert 7 none { frames := 1, cells := 0, slots := 0, locals := 60 } D sz [.ref (a 53), .int (i2 p0), .int (i2 p1), .int (i2 p2), .int (i2 p3)] (CS D a s) (CS D a o) := by
  refine Met.ofW (cc := cX8_insert) (maxL := 7) (ret := none) (by decide) rfl ?_
  intro p e s₀ m args below meth c s₁ B hml hv
  obtain ⟨rfl, ⟨hsz, hP, hK, hD0⟩, hN⟩ := hv
  have hx := B.exec
  have hb := B.bytes
  have hr := B.returns
  have hts := atoms_spec (ws := wz yX8_insert cX8_insert 7 none) B.pre
  have ht : ∀ w ∈ lw_gd, w.before _ s₀ = true := fun w h => hts w (List.mem_cons_of_mem _ h)
  have hown : s₀.vm.findClass RX8 = some m.cls := findClass_of_methodNamed B.named
  have hlocks := B.notSynchronized
  subst hsz
  have hD := hD0.self (sz := s₀.heap.size)
  generalize hAe : va_A (CS D a s) s₀.heap.size = A at hD ⊢
  have hA : ∀ q : Nat, s₀.heap.size ≤ q → A q := fun q h => by rw [← hAe]; exact Or.inr h
  have hS : va_S A s₀.heap s₀.heap [] := va_S.rf
  have hDD : ∀ t : MS, va_D A (CS D a t) := fun t => CW_D t hD
  have hl := lv_entry ([.ref (a 53), .int (i2 p0), .int (i2 p1), .int (i2 p2), .int (i2 p3)]) (n := 7) (Nat.le_of_ble_eq_true rfl)
  rw [lg_entry_eq]
  generalize (lg_sl ([.ref (a 53), .int (i2 p0), .int (i2 p1), .int (i2 p2), .int (i2 p3)]) ++ List.replicate (7 - (lg_sl ([.ref (a 53), .int (i2 p0), .int (i2 p1), .int (i2 p2), .int (i2 p3)])).length) Slot.unset).toArray = ls at hl ⊢
  have hl : lv_has ls 7 [(0, .ref (a 53)), (1, .int (i2 p0)), (2, .int (i2 p1)), (3, .int (i2 p2)), (4, .int (i2 p3))] := hl
  unfold m_x8_insert at h
  refine y_loop (pcJ := 47) (σ := Int × Int × Int × Int × Int × MS) (fun n u H locs ls => va_P D vwCl (CS D a u.2.2.2.2.2) H ∧ va_S A s₀.heap H locs ∧ lv_has ls 7 [(0, .ref (a 53)), (1, .int (i2 u.1)), (3, .int (i2 u.2.1)), (4, .int (i2 u.2.2.1)), (5, .int (i2 u.2.2.2.1)), (6, .int (i2 u.2.2.2.2.1))] ∧ m_x8_insert_L47 n u.1 u.2.1 u.2.2.1 u.2.2.2.1 u.2.2.2.2.1 u.2.2.2.2.2 = some o) (fun u => []) (fun u H locs ls hI => by obtain ⟨_, _, _, h⟩ := hI; cases h) (fun n47 ih47 u H locs ls hI => ?_) (fun J47 => ?_)
  · obtain ⟨hP, hS, hl, h⟩ := hI
    obtain ⟨x1, x2, x3, x4, x5, s6⟩ := u
    have hP : va_P D vwCl (CS D a s6) H := hP
    have hl : lv_has ls 7 [(0, .ref (a 53)), (1, .int (i2 x1)), (3, .int (i2 x2)), (4, .int (i2 x3)), (5, .int (i2 x4)), (6, .int (i2 x5))] := hl
    have h : m_x8_insert_b47 (m_x8_insert_L47 n47) x1 x2 x3 x4 x5 s6 = some o := h
    unfold m_x8_insert_b47 at h
    refine lv_iload hx hb eX8_insert_47.1 (lv_at hl 5 rfl) ?_
    refine lv_iload hx hb eX8_insert_47.2.1 (lv_at hl 4 rfl) ?_
    obtain ⟨hr7, h⟩ := rg_e h
    obtain ⟨hr8, h⟩ := rg_e h
    refine lv_icmp_le (tgt := 92) hx hb eX8_insert_47.2.2.1 (by decide) (fun c9 => ?_) (fun c9 => ?_)
    · have h := if_t ((i2_le (x := x5) (y := x4) hr7 hr8).mp c9) h
      refine lv_aload_n hx hb eX8_insert_89.2.1 rfl (lv_at hl 0 rfl) ?_
      refine va_get (D := D) (ci := 8) (v := .ref (a 58)) (C := RX8) (T := TX8) (N := 11) hx hb ht inX8 hown hK hP 53 CW_53 rfl 7 (by decide) (ht (.fieldLink RX8 24 "CloneVolumes$State" "keys" "[I") fl_X8_24) (fun _ h9 => h9) rfl eX8_insert_89.2.2.1 ?_
      refine lv_iload hx hb eX8_insert_89.2.2.2.1 (lv_at hl 4 rfl) ?_
      refine lv_iload_n hx hb eX8_insert_89.2.2.2.2.1 rfl (lv_at hl 2 rfl) ?_
      obtain ⟨hi10, h⟩ := inb_e h
      refine ya_iast (i := x4) (x := x2) hx hb hK hP (hDD _) hS 58 0 CW_58 rfl (by decide) hi10 eX8_insert_89.2.2.2.2.2.1 (CW_w58 _) (fun H locs hP hS => ?_)
      obtain ⟨s11, hs11, h⟩ := st_e h
      rw [hs11] at hP
      refine lv_aload_n hx hb eX8_insert_89.2.2.2.2.2.2.1 rfl (lv_at hl 0 rfl) ?_
      refine va_get (D := D) (ci := 8) (v := .ref (a 59)) (C := RX8) (T := TX8) (N := 11) hx hb ht inX8 hown hK hP 53 CW_53 rfl 8 (by decide) (ht (.fieldLink RX8 27 "CloneVolumes$State" "values" "[I") fl_X8_27) (fun _ h9 => h9) rfl eX8_insert_89.2.2.2.2.2.2.2 ?_
      refine lv_iload hx hb eX8_insert_104.1 (lv_at hl 4 rfl) ?_
      refine lv_iload hx hb eX8_insert_104.2.1 (lv_at hl 3 rfl) ?_
      obtain ⟨hi12, h⟩ := inb_e h
      refine ya_iast (i := x4) (x := x3) hx hb hK hP (hDD _) hS 59 0 CW_59 rfl (by decide) hi12 eX8_insert_104.2.2.1 (CW_w59 _) (fun H locs hP hS => ?_)
      obtain ⟨s13, hs13, h⟩ := st_e h
      rw [hs13] at hP
      refine lv_aload_n hx hb eX8_insert_104.2.2.2.1 rfl (lv_at hl 0 rfl) ?_
      refine va_get (D := D) (ci := 8) (v := .ref (a 57)) (C := RX8) (T := TX8) (N := 11) hx hb ht inX8 hown hK hP 53 CW_53 rfl 6 (by decide) (ht (.fieldLink RX8 21 "CloneVolumes$State" "size" "[I") fl_X8_21) (fun _ h9 => h9) rfl eX8_insert_104.2.2.2.2.1 ?_
      refine lv_iload_n hx hb eX8_insert_104.2.2.2.2.2.1 rfl (lv_at hl 1 rfl) ?_
      refine lv_dup2_11 hx hb eX8_insert_104.2.2.2.2.2.2.1 rfl rfl ?_
      obtain ⟨y14, ey14, iy14, h⟩ := rdI_e h
      refine ya_iald (i := x1) hx hb hK hP 57 0 CW_57 rfl (by decide) ey14 iy14 eX8_insert_104.2.2.2.2.2.2.2 ?_
      refine lv_iconst (v := 1) hx hb eX8_insert_116.1 (by decide) ?_
      refine lv_iadd hx hb eX8_insert_116.2.1 ?_
      refine z_topi (y := i2 (y14 + 1)) (i2_add y14 1) ?_
      obtain ⟨hi15, h⟩ := inb_e h
      refine ya_iast (i := x1) (x := (y14 + 1)) hx hb hK hP (hDD _) hS 57 0 CW_57 rfl (by decide) hi15 eX8_insert_116.2.2.1 (CW_w57 _) (fun H locs hP hS => ?_)
      obtain ⟨s16, hs16, h⟩ := st_e h
      rw [hs16] at hP
      refine lv_aload_n hx hb eX8_insert_116.2.2.2.1 rfl (lv_at hl 0 rfl) ?_
      refine lv_iload_n hx hb eX8_insert_116.2.2.2.2.1 rfl (lv_at hl 1 rfl) ?_
      obtain ⟨s18, hc17, h⟩ := bn_e h
      refine ywVv (As := [.int (i2 x1)]) (rest := []) (C := RX8) (n := 1) (ws' := CS D a s18) ⟨hx, hb, hml, hown, ht⟩ (k_x8_mark l D a x1 _ _ _ hc17) (zgV ml_X8_86 im_X8_mark se_X8_mark in_X8 co_X8_mark) rfl rfl (by decide +kernel) ⟨Nat.le_of_ble_eq_true rfl, Nat.le_of_ble_eq_true rfl⟩ hN hK hP (hDD _) hS hA 53 CW_53 rfl rfl rfl hl.1 rfl (Nat.le_of_ble_eq_true rfl) eX8_insert_116.2.2.2.2.2.1 ⟨Nat.le_of_ble_eq_true rfl, Nat.le_of_ble_eq_true rfl⟩ (fun H locs hP hS => ?_)
      obtain rfl := Option.some.inj h
      exact W.vret hx hb hr (fun t ht hW => ⟨⟨(), rfl, trivial, by rw [ht]; exact hP, va_K.moved hW.alike hK, hDD _⟩, hS.F ht⟩) hS.2.2 eX8_insert_116.2.2.2.2.2.2.1
    · have h := if_f (mt (i2_le (x := x5) (y := x4) hr7 hr8).mpr c9) h
      refine lv_aload_n hx hb eX8_insert_47.2.2.2.1 rfl (lv_at hl 0 rfl) ?_
      refine va_get (D := D) (ci := 8) (v := .ref (a 58)) (C := RX8) (T := TX8) (N := 11) hx hb ht inX8 hown hK hP 53 CW_53 rfl 7 (by decide) (ht (.fieldLink RX8 24 "CloneVolumes$State" "keys" "[I") fl_X8_24) (fun _ h9 => h9) rfl eX8_insert_47.2.2.2.2.1 ?_
      refine lv_iload hx hb eX8_insert_47.2.2.2.2.2.1 (lv_at hl 5 rfl) ?_
      refine lv_aload_n hx hb eX8_insert_47.2.2.2.2.2.2.1 rfl (lv_at hl 0 rfl) ?_
      refine va_get (D := D) (ci := 8) (v := .ref (a 58)) (C := RX8) (T := TX8) (N := 11) hx hb ht inX8 hown hK hP 53 CW_53 rfl 7 (by decide) (ht (.fieldLink RX8 24 "CloneVolumes$State" "keys" "[I") fl_X8_24) (fun _ h9 => h9) rfl eX8_insert_47.2.2.2.2.2.2.2 ?_
      refine lv_iload hx hb eX8_insert_64.1 (lv_at hl 5 rfl) ?_
      refine lv_iconst (v := 1) hx hb eX8_insert_64.2.1 (by decide) ?_
      refine lv_isub hx hb eX8_insert_64.2.2.1 ?_
      refine z_topi (y := i2 (x5 - 1)) (i2_sub x5 1) ?_
      obtain ⟨y19, ey19, iy19, h⟩ := rdI_e h
      refine ya_iald (i := (x5 - 1)) hx hb hK hP 58 0 CW_58 rfl (by decide) ey19 iy19 eX8_insert_64.2.2.2.1 ?_
      obtain ⟨hi20, h⟩ := inb_e h
      refine ya_iast (i := x5) (x := y19) hx hb hK hP (hDD _) hS 58 0 CW_58 rfl (by decide) hi20 eX8_insert_64.2.2.2.2.1 (CW_w58 _) (fun H locs hP hS => ?_)
      obtain ⟨s21, hs21, h⟩ := st_e h
      rw [hs21] at hP
      refine lv_aload_n hx hb eX8_insert_64.2.2.2.2.2.1 rfl (lv_at hl 0 rfl) ?_
      refine va_get (D := D) (ci := 8) (v := .ref (a 59)) (C := RX8) (T := TX8) (N := 11) hx hb ht inX8 hown hK hP 53 CW_53 rfl 8 (by decide) (ht (.fieldLink RX8 27 "CloneVolumes$State" "values" "[I") fl_X8_27) (fun _ h9 => h9) rfl eX8_insert_64.2.2.2.2.2.2.1 ?_
      refine lv_iload hx hb eX8_insert_64.2.2.2.2.2.2.2 (lv_at hl 5 rfl) ?_
      refine lv_aload_n hx hb eX8_insert_76.1 rfl (lv_at hl 0 rfl) ?_
      refine va_get (D := D) (ci := 8) (v := .ref (a 59)) (C := RX8) (T := TX8) (N := 11) hx hb ht inX8 hown hK hP 53 CW_53 rfl 8 (by decide) (ht (.fieldLink RX8 27 "CloneVolumes$State" "values" "[I") fl_X8_27) (fun _ h9 => h9) rfl eX8_insert_76.2.1 ?_
      refine lv_iload hx hb eX8_insert_76.2.2.1 (lv_at hl 5 rfl) ?_
      refine lv_iconst (v := 1) hx hb eX8_insert_76.2.2.2.1 (by decide) ?_
      refine lv_isub hx hb eX8_insert_76.2.2.2.2.1 ?_
      refine z_topi (y := i2 (x5 - 1)) (i2_sub x5 1) ?_
      obtain ⟨y22, ey22, iy22, h⟩ := rdI_e h
      refine ya_iald (i := (x5 - 1)) hx hb hK hP 59 0 CW_59 rfl (by decide) ey22 iy22 eX8_insert_76.2.2.2.2.2.1 ?_
      obtain ⟨hi23, h⟩ := inb_e h
      refine ya_iast (i := x5) (x := y22) hx hb hK hP (hDD _) hS 59 0 CW_59 rfl (by decide) hi23 eX8_insert_76.2.2.2.2.2.2.1 (CW_w59 _) (fun H locs hP hS => ?_)
      obtain ⟨s24, hs24, h⟩ := st_e h
      rw [hs24] at hP
      refine lv_iinc (v := i2 (x5 + (-1))) (lv' := [(6, .int (i2 (x5 + (-1)))), (0, .ref (a 53)), (1, .int (i2 x1)), (3, .int (i2 x2)), (4, .int (i2 x3)), (5, .int (i2 x4))]) hx hb eX8_insert_76.2.2.2.2.2.2.2 hl (k := 5) rfl (i2_add x5 (-1)) (by decide) rfl (fun ls hl => ?_)
      refine lv_goto (tgt := 47) hx hb eX8_insert_89.1 (by decide) ?_
      exact ih47 (x1, x2, x3, x4, x5 + (-1), s24) _ _ _ ⟨hP, hS, lv_sub hl [1, 2, 3, 4, 5, 0] rfl, h⟩
  refine y_head (pcJ := 25) (σ := MS) (fun u H locs ls => va_P D vwCl (CS D a u) H ∧ va_S A s₀.heap H locs ∧ lv_has ls 7 [] ∧ m_x8_insert_J25 u = some o) (fun u => []) (fun u H locs ls hI => ?_) (fun J25 => ?_)
  · obtain ⟨hP, hS, hl, h⟩ := hI
    obtain ⟨s25, rfl⟩ : ∃ z, z = u := ⟨u, rfl⟩
    have hP : va_P D vwCl (CS D a s25) H := hP
    have hl : lv_has ls 7 [] := hl
    have h : m_x8_insert_J25 s25 = some o := h
    unfold m_x8_insert_J25 at h
    obtain rfl := Option.some.inj h
    exact W.vret hx hb hr (fun t ht hW => ⟨⟨(), rfl, trivial, by rw [ht]; exact hP, va_K.moved hW.alike hK, hDD _⟩, hS.F ht⟩) hS.2.2 eX8_insert_20.2.2.1
  refine lv_iload_n hx hb eX8_become_140.2.2.2.2.1 rfl (lv_at hl 2 rfl) ?_
  obtain ⟨hr26, h⟩ := rg_e h
  refine lv_if_lt (tgt := 25) hx hb eX8_become_140.2.2.2.2.2.1 (by decide) (fun c27 => ?_) (fun c27 => ?_)
  · have h := if_t ((i2_lt (x := p1) (y := 0) hr26 (by decide)).mp c27) h
    exact J25 s _ _ _ ⟨hP, hS, lv_sub hl [] rfl, h⟩
  · have h := if_f (mt (i2_lt (x := p1) (y := 0) hr26 (by decide)).mpr c27) h
    refine lv_iload_n hx hb eX8_become_140.2.2.2.2.2.2.1 rfl (lv_at hl 2 rfl) ?_
    refine lv_aload_n hx hb eX8_become_140.2.2.2.2.2.2.2 rfl (lv_at hl 0 rfl) ?_
    refine va_get (D := D) (ci := 8) (v := .ref (a 57)) (C := RX8) (T := TX8) (N := 11) hx hb ht inX8 hown hK hP 53 CW_53 rfl 6 (by decide) (ht (.fieldLink RX8 21 "CloneVolumes$State" "size" "[I") fl_X8_21) (fun _ h9 => h9) rfl eX8_insert_6.1 ?_
    refine lv_iload_n hx hb eX8_insert_6.2.1 rfl (lv_at hl 1 rfl) ?_
    obtain ⟨y28, ey28, iy28, h⟩ := rdI_e h
    refine ya_iald (i := p0) hx hb hK hP 57 0 CW_57 rfl (by decide) ey28 iy28 eX8_insert_6.2.2.1 ?_
    obtain ⟨hr29, h⟩ := rg_e h
    obtain ⟨hr30, h⟩ := rg_e h
    refine lv_icmp_gt (tgt := 25) hx hb eX8_insert_6.2.2.2.1 (by decide) (fun c31 => ?_) (fun c31 => ?_)
    · have h := if_t ((i2_lt (x := y28) (y := p1) hr30 hr29).mp c31) h
      exact J25 s _ _ _ ⟨hP, hS, lv_sub hl [] rfl, h⟩
    · have h := if_f (mt (i2_lt (x := y28) (y := p1) hr30 hr29).mpr c31) h
      refine lv_aload_n hx hb eX8_insert_6.2.2.2.2.1 rfl (lv_at hl 0 rfl) ?_
      refine va_get (D := D) (ci := 8) (v := .ref (a 57)) (C := RX8) (T := TX8) (N := 11) hx hb ht inX8 hown hK hP 53 CW_53 rfl 6 (by decide) (ht (.fieldLink RX8 21 "CloneVolumes$State" "size" "[I") fl_X8_21) (fun _ h9 => h9) rfl eX8_insert_6.2.2.2.2.2.1 ?_
      refine lv_iload_n hx hb eX8_insert_6.2.2.2.2.2.2.1 rfl (lv_at hl 1 rfl) ?_
      obtain ⟨y32, ey32, iy32, h⟩ := rdI_e h
      refine ya_iald (i := p0) hx hb hK hP 57 0 CW_57 rfl (by decide) ey32 iy32 eX8_insert_6.2.2.2.2.2.2.2 ?_
      refine lv_bipush (v := 6) hx hb eX8_insert_20.1 (by decide) ?_
      obtain ⟨hr33, h⟩ := rg_e h
      refine lv_icmp_lt (tgt := 26) hx hb eX8_insert_20.2.1 (by decide) (fun c34 => ?_) (fun c34 => ?_)
      · have h := if_t ((i2_lt (x := y32) (y := 6) hr33 (by decide)).mp c34) h
        refine lv_aload_n hx hb eX8_insert_20.2.2.2.1 rfl (lv_at hl 0 rfl) ?_
        refine lv_iload_n hx hb eX8_insert_20.2.2.2.2.1 rfl (lv_at hl 1 rfl) ?_
        refine lv_iload_n hx hb eX8_insert_20.2.2.2.2.2.1 rfl (lv_at hl 2 rfl) ?_
        obtain ⟨r36, hc35, h⟩ := bn_e h
        refine ycV (r0 := i2 r36) (As := [.int (i2 p0), .int (i2 p1)]) (rest := []) (C := RX8) (n := 2) ⟨hx, hb, hml, hown, ht⟩ (k_x8_slot l D a p0 p1 _ _ hc35) (zgV ml_X8_73 im_X8_slot se_X8_slot in_X8 co_X8_slot) rfl rfl (by decide +kernel) ⟨Nat.le_of_ble_eq_true rfl, Nat.le_of_ble_eq_true rfl⟩ hN hK hP hS 53 CW_53 rfl rfl rfl hl.1 rfl (Nat.le_of_ble_eq_true rfl) eX8_insert_20.2.2.2.2.2.2.1 ⟨Nat.le_of_ble_eq_true rfl, Nat.le_of_ble_eq_true rfl⟩ (fun H locs hP hS => ?_)
        refine lv_istore (lv' := [(5, .int (i2 r36)), (0, .ref (a 53)), (1, .int (i2 p0)), (2, .int (i2 p1)), (3, .int (i2 p2)), (4, .int (i2 p3))]) hx hb eX8_insert_20.2.2.2.2.2.2.2 hl (by decide) rfl (fun ls hl => ?_)
        refine lv_aload_n hx hb eX8_insert_34.1 rfl (lv_at hl 1 rfl) ?_
        refine lv_iload_n hx hb eX8_insert_34.2.1 rfl (lv_at hl 2 rfl) ?_
        refine lv_aload_n hx hb eX8_insert_34.2.2.1 rfl (lv_at hl 1 rfl) ?_
        refine va_get (D := D) (ci := 8) (v := .ref (a 57)) (C := RX8) (T := TX8) (N := 11) hx hb ht inX8 hown hK hP 53 CW_53 rfl 6 (by decide) (ht (.fieldLink RX8 21 "CloneVolumes$State" "size" "[I") fl_X8_21) (fun _ h9 => h9) rfl eX8_insert_34.2.2.2.1 ?_
        refine lv_iload_n hx hb eX8_insert_34.2.2.2.2.1 rfl (lv_at hl 2 rfl) ?_
        obtain ⟨y37, ey37, iy37, h⟩ := rdI_e h
        refine ya_iald (i := p0) hx hb hK hP 57 0 CW_57 rfl (by decide) ey37 iy37 eX8_insert_34.2.2.2.2.2.1 ?_
        obtain ⟨r39, hc38, h⟩ := bn_e h
        refine ycV (r0 := i2 r39) (As := [.int (i2 p0), .int (i2 y37)]) (rest := []) (C := RX8) (n := 2) ⟨hx, hb, hml, hown, ht⟩ (k_x8_slot l D a p0 y37 _ _ hc38) (zgV ml_X8_73 im_X8_slot se_X8_slot in_X8 co_X8_slot) rfl rfl (by decide +kernel) ⟨Nat.le_of_ble_eq_true rfl, Nat.le_of_ble_eq_true rfl⟩ hN hK hP hS 53 CW_53 rfl rfl rfl hl.1 rfl (Nat.le_of_ble_eq_true rfl) eX8_insert_34.2.2.2.2.2.2.1 ⟨Nat.le_of_ble_eq_true rfl, Nat.le_of_ble_eq_true rfl⟩ (fun H locs hP hS => ?_)
        refine lv_istore (lv' := [(6, .int (i2 r39)), (5, .int (i2 r36)), (0, .ref (a 53)), (1, .int (i2 p0)), (2, .int (i2 p1)), (3, .int (i2 p2)), (4, .int (i2 p3))]) hx hb eX8_insert_34.2.2.2.2.2.2.2 hl (by decide) rfl (fun ls hl => ?_)
        exact J47 FU (p0, p2, p3, r36, r39, s) _ _ _ ⟨hP, hS, lv_sub hl [2, 3, 5, 6, 1, 0] rfl, h⟩
      · have h := if_f (mt (i2_lt (x := y32) (y := 6) hr33 (by decide)).mpr c34) h
        exact J25 s _ _ _ ⟨hP, hS, lv_sub hl [] rfl, h⟩
