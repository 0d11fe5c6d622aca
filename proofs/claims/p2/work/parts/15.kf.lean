theorem co_X11_unlike : Cond.code yX11_unlike cX11_unlike 13 (some .int) ∈ lw_gd := zm (List.mem_of_getElem? (i := 1200) (by decide +kernel)) rfl
theorem co_X8_insert : Cond.code yX8_insert cX8_insert 7 none ∈ lw_gd := zm (List.mem_of_getElem? (i := 1010) (by decide +kernel)) rfl
theorem co_X8_mark : Cond.code yX8_mark cX8_mark 2 none ∈ lw_gd := zm (List.mem_of_getElem? (i := 977) (by decide +kernel)) rfl
theorem co_X8_set : Cond.code yX8_set cX8_set 5 none ∈ lw_gd := zm (List.mem_of_getElem? (i := 1024) (by decide +kernel)) rfl
theorem fl_X11_53 : Cond.fieldLink RX11 53 "CloneVolumes" "otherWalk" "LCloneVolumes$Walk;" ∈ lw_gd := zm (List.mem_of_getElem? (i := 706) (by decide +kernel)) rfl
theorem fl_X1_227 : Cond.fieldLink RX1 227 "CloneVolumes$State" "keys" "[I" ∈ lw_gd := zm (List.mem_of_getElem? (i := 587) (by decide +kernel)) rfl
theorem fl_X8_33 : Cond.fieldLink RX8 33 "CloneVolumes$State" "savedRoots" "[I" ∈ lw_gd := zm (List.mem_of_getElem? (i := 598) (by decide +kernel)) rfl
theorem fl_X8_44 : Cond.fieldLink RX8 44 "CloneVolumes$State" "spent" "I" ∈ lw_gd := zm (List.mem_of_getElem? (i := 558) (by decide +kernel)) rfl
theorem fl_X8_47 : Cond.fieldLink RX8 47 "CloneVolumes$State" "written" "J" ∈ lw_gd := zm (List.mem_of_getElem? (i := 562) (by decide +kernel)) rfl
theorem im_X11_unlike : Cond.instanceMethod yX11_unlike ∈ lw_gd := zm (List.mem_of_getElem? (i := 1199) (by decide +kernel)) rfl
theorem im_X8_insert : Cond.instanceMethod yX8_insert ∈ lw_gd := zm (List.mem_of_getElem? (i := 1008) (by decide +kernel)) rfl
theorem im_X8_mark : Cond.instanceMethod yX8_mark ∈ lw_gd := zm (List.mem_of_getElem? (i := 975) (by decide +kernel)) rfl
theorem im_X8_set : Cond.instanceMethod yX8_set ∈ lw_gd := zm (List.mem_of_getElem? (i := 1022) (by decide +kernel)) rfl
theorem ml_X11_233 : Cond.methodLink RX11 233 yX11_unlike ∈ lw_gd := zm (List.mem_of_getElem? (i := 1197) (by decide +kernel)) rfl
theorem ml_X11_367 : Cond.methodLink RX11 367 Lib.Math.min.name ∈ lw_gd := zm (List.mem_of_getElem? (i := 1201) (by decide +kernel)) rfl
theorem ml_X1_252 : Cond.methodLink RX1 252 yX8_set ∈ lw_gd := zm (List.mem_of_getElem? (i := 1021) (by decide +kernel)) rfl
theorem ml_X1_258 : Cond.methodLink RX1 258 yX8_insert ∈ lw_gd := zm (List.mem_of_getElem? (i := 1007) (by decide +kernel)) rfl
theorem ml_X1_262 : Cond.methodLink RX1 262 yX8_find ∈ lw_gd := zm (List.mem_of_getElem? (i := 1029) (by decide +kernel)) rfl
theorem ml_X8_51 : Cond.methodLink RX8 51 arraycopyName ∈ lw_gd := zm (List.mem_of_getElem? (i := 928) (by decide +kernel)) rfl
theorem ml_X8_86 : Cond.methodLink RX8 86 yX8_mark ∈ lw_gd := zm (List.mem_of_getElem? (i := 1012) (by decide +kernel)) rfl
theorem se_X11_unlike : Cond.selects RX11 yX11_unlike yX11_unlike ∈ lw_gd := zm (List.mem_of_getElem? (i := 44) (by decide +kernel)) rfl
theorem se_X8_insert : Cond.selects RX8 yX8_insert yX8_insert ∈ lw_gd := zm (List.mem_of_getElem? (i := 1009) (by decide +kernel)) rfl
theorem se_X8_mark : Cond.selects RX8 yX8_mark yX8_mark ∈ lw_gd := zm (List.mem_of_getElem? (i := 976) (by decide +kernel)) rfl
theorem se_X8_set : Cond.selects RX8 yX8_set yX8_set ∈ lw_gd := zm (List.mem_of_getElem? (i := 1023) (by decide +kernel)) rfl
theorem dX11_differs_0 : decode cX11_differs 0 = .ok (.aload_n 0, 1) := by decide +kernel
theorem dX11_differs_1 : decode cX11_differs 1 = .ok (.getfield 79, 3) := by decide +kernel
theorem dX11_differs_4 : decode cX11_differs 4 = .ok (.getfield 125, 3) := by decide +kernel
theorem dX11_differs_7 : decode cX11_differs 7 = .ok (.astore 4, 2) := by decide +kernel
theorem dX11_differs_9 : decode cX11_differs 9 = .ok (.aload 4, 2) := by decide +kernel
theorem dX11_differs_11 : decode cX11_differs 11 = .ok (.iload_n 1, 1) := by decide +kernel
theorem dX11_differs_12 : decode cX11_differs 12 = .ok (.invokevirtual 161, 3) := by decide +kernel
theorem dX11_differs_15 : decode cX11_differs 15 = .ok (.ifCond .eq 12, 3) := by decide +kernel
theorem dX11_differs_18 : decode cX11_differs 18 = .ok (.aload 4, 2) := by decide +kernel
theorem dX11_differs_20 : decode cX11_differs 20 = .ok (.iload_n 2, 1) := by decide +kernel
theorem dX11_differs_21 : decode cX11_differs 21 = .ok (.invokevirtual 161, 3) := by decide +kernel
theorem dX11_differs_24 : decode cX11_differs 24 = .ok (.ifCond .ne 5, 3) := by decide +kernel
theorem dX11_differs_27 : decode cX11_differs 27 = .ok (.iconst (-1), 1) := by decide +kernel
theorem dX11_differs_28 : decode cX11_differs 28 = .ok (.ireturn, 1) := by decide +kernel
theorem dX11_differs_29 : decode cX11_differs 29 = .ok (.aload_n 0, 1) := by decide +kernel
theorem dX11_differs_30 : decode cX11_differs 30 = .ok (.aload 4, 2) := by decide +kernel
theorem dX11_differs_32 : decode cX11_differs 32 = .ok (.getfield 165, 3) := by decide +kernel
theorem dX11_differs_35 : decode cX11_differs 35 = .ok (.iload_n 1, 1) := by decide +kernel
theorem dX11_differs_36 : decode cX11_differs 36 = .ok (.iaload, 1) := by decide +kernel
theorem dX11_differs_37 : decode cX11_differs 37 = .ok (.aload 4, 2) := by decide +kernel
theorem dX11_differs_39 : decode cX11_differs 39 = .ok (.getfield 165, 3) := by decide +kernel
theorem dX11_differs_42 : decode cX11_differs 42 = .ok (.iload_n 2, 1) := by decide +kernel
theorem dX11_differs_43 : decode cX11_differs 43 = .ok (.iaload, 1) := by decide +kernel
theorem dX11_differs_44 : decode cX11_differs 44 = .ok (.iload_n 3, 1) := by decide +kernel
theorem dX11_differs_45 : decode cX11_differs 45 = .ok (.invokevirtual 233, 3) := by decide +kernel
theorem dX11_differs_48 : decode cX11_differs 48 = .ok (.ireturn, 1) := by decide +kernel
theorem dX11_unlike_0 : decode cX11_unlike 0 = .ok (.aload_n 0, 1) := by decide +kernel
theorem dX11_unlike_1 : decode cX11_unlike 1 = .ok (.getfield 49, 3) := by decide +kernel
theorem dX11_unlike_4 : decode cX11_unlike 4 = .ok (.aload_n 0, 1) := by decide +kernel
theorem dX11_unlike_5 : decode cX11_unlike 5 = .ok (.getfield 79, 3) := by decide +kernel
theorem dX11_unlike_8 : decode cX11_unlike 8 = .ok (.getfield 125, 3) := by decide +kernel
theorem dX11_unlike_11 : decode cX11_unlike 11 = .ok (.iload_n 1, 1) := by decide +kernel
theorem dX11_unlike_12 : decode cX11_unlike 12 = .ok (.invokevirtual 168, 3) := by decide +kernel
theorem dX11_unlike_15 : decode cX11_unlike 15 = .ok (.istore 4, 2) := by decide +kernel
theorem dX11_unlike_17 : decode cX11_unlike 17 = .ok (.aload_n 0, 1) := by decide +kernel
theorem dX11_unlike_18 : decode cX11_unlike 18 = .ok (.getfield 53, 3) := by decide +kernel
theorem dX11_unlike_21 : decode cX11_unlike 21 = .ok (.aload_n 0, 1) := by decide +kernel
theorem dX11_unlike_22 : decode cX11_unlike 22 = .ok (.getfield 79, 3) := by decide +kernel
theorem dX11_unlike_25 : decode cX11_unlike 25 = .ok (.getfield 125, 3) := by decide +kernel
theorem dX11_unlike_28 : decode cX11_unlike 28 = .ok (.iload_n 2, 1) := by decide +kernel
theorem dX11_unlike_29 : decode cX11_unlike 29 = .ok (.invokevirtual 168, 3) := by decide +kernel
theorem dX11_unlike_32 : decode cX11_unlike 32 = .ok (.istore 5, 2) := by decide +kernel
theorem dX11_unlike_34 : decode cX11_unlike 34 = .ok (.iconst 0, 1) := by decide +kernel
theorem dX11_unlike_35 : decode cX11_unlike 35 = .ok (.istore 6, 2) := by decide +kernel
theorem dX11_unlike_37 : decode cX11_unlike 37 = .ok (.iconst 0, 1) := by decide +kernel
theorem dX11_unlike_38 : decode cX11_unlike 38 = .ok (.istore 7, 2) := by decide +kernel
theorem dX11_unlike_40 : decode cX11_unlike 40 = .ok (.iconst 0, 1) := by decide +kernel
theorem dX11_unlike_41 : decode cX11_unlike 41 = .ok (.istore 8, 2) := by decide +kernel
theorem dX11_unlike_43 : decode cX11_unlike 43 = .ok (.iconst 0, 1) := by decide +kernel
theorem dX11_unlike_44 : decode cX11_unlike 44 = .ok (.istore 9, 2) := by decide +kernel
theorem dX11_unlike_46 : decode cX11_unlike 46 = .ok (.iload 9, 2) := by decide +kernel
theorem dX11_unlike_48 : decode cX11_unlike 48 = .ok (.sipush 576, 3) := by decide +kernel
theorem dX11_unlike_51 : decode cX11_unlike 51 = .ok (.if_icmp .ge 178, 3) := by decide +kernel
theorem dX11_unlike_54 : decode cX11_unlike 54 = .ok (.iload 7, 2) := by decide +kernel
theorem dX11_unlike_56 : decode cX11_unlike 56 = .ok (.iload 4, 2) := by decide +kernel
theorem dX11_unlike_58 : decode cX11_unlike 58 = .ok (.if_icmp .lt 10, 3) := by decide +kernel
theorem dX11_unlike_61 : decode cX11_unlike 61 = .ok (.iload 8, 2) := by decide +kernel
theorem dX11_unlike_63 : decode cX11_unlike 63 = .ok (.iload 5, 2) := by decide +kernel
theorem dX11_unlike_65 : decode cX11_unlike 65 = .ok (.if_icmp .ge 164, 3) := by decide +kernel
theorem dX11_unlike_68 : decode cX11_unlike 68 = .ok (.iload 7, 2) := by decide +kernel
theorem dX11_unlike_70 : decode cX11_unlike 70 = .ok (.iload 4, 2) := by decide +kernel
theorem dX11_unlike_72 : decode cX11_unlike 72 = .ok (.if_icmp .ge 16, 3) := by decide +kernel
theorem dX11_unlike_75 : decode cX11_unlike 75 = .ok (.aload_n 0, 1) := by decide +kernel
theorem dX11_unlike_76 : decode cX11_unlike 76 = .ok (.getfield 49, 3) := by decide +kernel
theorem dX11_unlike_79 : decode cX11_unlike 79 = .ok (.getfield 225, 3) := by decide +kernel
theorem dX11_unlike_82 : decode cX11_unlike 82 = .ok (.iload 7, 2) := by decide +kernel
theorem dX11_unlike_84 : decode cX11_unlike 84 = .ok (.iaload, 1) := by decide +kernel
theorem dX11_unlike_85 : decode cX11_unlike 85 = .ok (.goto 6, 3) := by decide +kernel
theorem dX11_unlike_88 : decode cX11_unlike 88 = .ok (.sipush 1000, 3) := by decide +kernel
theorem dX11_unlike_91 : decode cX11_unlike 91 = .ok (.istore 10, 2) := by decide +kernel
theorem dX11_unlike_93 : decode cX11_unlike 93 = .ok (.iload 8, 2) := by decide +kernel
theorem dX11_unlike_95 : decode cX11_unlike 95 = .ok (.iload 5, 2) := by decide +kernel
theorem dX11_unlike_97 : decode cX11_unlike 97 = .ok (.if_icmp .ge 16, 3) := by decide +kernel
theorem dX11_unlike_100 : decode cX11_unlike 100 = .ok (.aload_n 0, 1) := by decide +kernel
theorem dX11_unlike_101 : decode cX11_unlike 101 = .ok (.getfield 53, 3) := by decide +kernel
theorem dX11_unlike_104 : decode cX11_unlike 104 = .ok (.getfield 225, 3) := by decide +kernel
theorem dX11_unlike_107 : decode cX11_unlike 107 = .ok (.iload 8, 2) := by decide +kernel
theorem dX11_unlike_109 : decode cX11_unlike 109 = .ok (.iaload, 1) := by decide +kernel
theorem dX11_unlike_110 : decode cX11_unlike 110 = .ok (.goto 6, 3) := by decide +kernel
theorem dX11_unlike_113 : decode cX11_unlike 113 = .ok (.sipush 1000, 3) := by decide +kernel
theorem dX11_unlike_116 : decode cX11_unlike 116 = .ok (.istore 11, 2) := by decide +kernel
theorem dX11_unlike_118 : decode cX11_unlike 118 = .ok (.iload 10, 2) := by decide +kernel
theorem dX11_unlike_120 : decode cX11_unlike 120 = .ok (.iload 11, 2) := by decide +kernel
theorem dX11_unlike_122 : decode cX11_unlike 122 = .ok (.if_icmp .ne 30, 3) := by decide +kernel
theorem dX11_unlike_125 : decode cX11_unlike 125 = .ok (.aload_n 0, 1) := by decide +kernel
theorem dX11_unlike_126 : decode cX11_unlike 126 = .ok (.getfield 49, 3) := by decide +kernel
theorem dX11_unlike_129 : decode cX11_unlike 129 = .ok (.getfield 226, 3) := by decide +kernel
theorem dX11_unlike_132 : decode cX11_unlike 132 = .ok (.iload 7, 2) := by decide +kernel
theorem dX11_unlike_134 : decode cX11_unlike 134 = .ok (.iaload, 1) := by decide +kernel
theorem dX11_unlike_135 : decode cX11_unlike 135 = .ok (.aload_n 0, 1) := by decide +kernel
theorem dX11_unlike_136 : decode cX11_unlike 136 = .ok (.getfield 53, 3) := by decide +kernel
theorem dX11_unlike_139 : decode cX11_unlike 139 = .ok (.getfield 226, 3) := by decide +kernel
theorem dX11_unlike_142 : decode cX11_unlike 142 = .ok (.iload 8, 2) := by decide +kernel
theorem dX11_unlike_144 : decode cX11_unlike 144 = .ok (.iaload, 1) := by decide +kernel
theorem dX11_unlike_145 : decode cX11_unlike 145 = .ok (.if_icmp .ne 7, 3) := by decide +kernel
theorem dX11_unlike_148 : decode cX11_unlike 148 = .ok (.iconst 1, 1) := by decide +kernel
theorem dX11_unlike_149 : decode cX11_unlike 149 = .ok (.goto 4, 3) := by decide +kernel
theorem dX11_unlike_152 : decode cX11_unlike 152 = .ok (.iconst 0, 1) := by decide +kernel
theorem dX11_unlike_153 : decode cX11_unlike 153 = .ok (.istore 12, 2) := by decide +kernel
theorem dX11_unlike_155 : decode cX11_unlike 155 = .ok (.iload 12, 2) := by decide +kernel
theorem dX11_unlike_157 : decode cX11_unlike 157 = .ok (.ifCond .ne 17, 3) := by decide +kernel
theorem dX11_unlike_160 : decode cX11_unlike 160 = .ok (.iload 6, 2) := by decide +kernel
theorem dX11_unlike_162 : decode cX11_unlike 162 = .ok (.iload_n 3, 1) := by decide +kernel
theorem dX11_unlike_163 : decode cX11_unlike 163 = .ok (.if_icmp .ne 11, 3) := by decide +kernel
theorem dX11_unlike_166 : decode cX11_unlike 166 = .ok (.iload 10, 2) := by decide +kernel
theorem dX11_unlike_168 : decode cX11_unlike 168 = .ok (.iload 11, 2) := by decide +kernel
theorem dX11_unlike_170 : decode cX11_unlike 170 = .ok (.invokestatic 367, 3) := by decide +kernel
theorem dX11_unlike_173 : decode cX11_unlike 173 = .ok (.ireturn, 1) := by decide +kernel
theorem dX11_unlike_174 : decode cX11_unlike 174 = .ok (.iload 6, 2) := by decide +kernel
theorem dX11_unlike_176 : decode cX11_unlike 176 = .ok (.iload 12, 2) := by decide +kernel
theorem dX11_unlike_178 : decode cX11_unlike 178 = .ok (.ifCond .eq 7, 3) := by decide +kernel
theorem dX11_unlike_181 : decode cX11_unlike 181 = .ok (.iconst 0, 1) := by decide +kernel
theorem dX11_unlike_182 : decode cX11_unlike 182 = .ok (.goto 4, 3) := by decide +kernel
theorem dX11_unlike_185 : decode cX11_unlike 185 = .ok (.iconst 1, 1) := by decide +kernel
theorem dX11_unlike_186 : decode cX11_unlike 186 = .ok (.iadd, 1) := by decide +kernel
theorem dX11_unlike_187 : decode cX11_unlike 187 = .ok (.istore 6, 2) := by decide +kernel
theorem dX11_unlike_189 : decode cX11_unlike 189 = .ok (.iload 7, 2) := by decide +kernel
theorem dX11_unlike_191 : decode cX11_unlike 191 = .ok (.iload 10, 2) := by decide +kernel
theorem dX11_unlike_193 : decode cX11_unlike 193 = .ok (.iload 11, 2) := by decide +kernel
theorem dX11_unlike_195 : decode cX11_unlike 195 = .ok (.if_icmp .gt 7, 3) := by decide +kernel
theorem dX11_unlike_198 : decode cX11_unlike 198 = .ok (.iconst 1, 1) := by decide +kernel
theorem dX11_unlike_199 : decode cX11_unlike 199 = .ok (.goto 4, 3) := by decide +kernel
theorem dX11_unlike_202 : decode cX11_unlike 202 = .ok (.iconst 0, 1) := by decide +kernel
theorem dX11_unlike_203 : decode cX11_unlike 203 = .ok (.iadd, 1) := by decide +kernel
theorem dX11_unlike_204 : decode cX11_unlike 204 = .ok (.istore 7, 2) := by decide +kernel
theorem dX11_unlike_206 : decode cX11_unlike 206 = .ok (.iload 8, 2) := by decide +kernel
theorem dX11_unlike_208 : decode cX11_unlike 208 = .ok (.iload 11, 2) := by decide +kernel
theorem dX11_unlike_210 : decode cX11_unlike 210 = .ok (.iload 10, 2) := by decide +kernel
theorem dX11_unlike_212 : decode cX11_unlike 212 = .ok (.if_icmp .gt 7, 3) := by decide +kernel
theorem dX11_unlike_215 : decode cX11_unlike 215 = .ok (.iconst 1, 1) := by decide +kernel
theorem dX11_unlike_216 : decode cX11_unlike 216 = .ok (.goto 4, 3) := by decide +kernel
theorem dX11_unlike_219 : decode cX11_unlike 219 = .ok (.iconst 0, 1) := by decide +kernel
theorem dX11_unlike_220 : decode cX11_unlike 220 = .ok (.iadd, 1) := by decide +kernel
theorem dX11_unlike_221 : decode cX11_unlike 221 = .ok (.istore 8, 2) := by decide +kernel
theorem dX11_unlike_223 : decode cX11_unlike 223 = .ok (.iinc 9 1, 3) := by decide +kernel
theorem dX11_unlike_226 : decode cX11_unlike 226 = .ok (.goto (-180), 3) := by decide +kernel
theorem dX11_unlike_229 : decode cX11_unlike 229 = .ok (.iload_n 3, 1) := by decide +kernel
theorem dX11_unlike_230 : decode cX11_unlike 230 = .ok (.iconst (-1), 1) := by decide +kernel
theorem dX11_unlike_231 : decode cX11_unlike 231 = .ok (.if_icmp .ne 8, 3) := by decide +kernel
theorem dX11_unlike_234 : decode cX11_unlike 234 = .ok (.iload 6, 2) := by decide +kernel
theorem dX11_unlike_236 : decode cX11_unlike 236 = .ok (.goto 4, 3) := by decide +kernel
theorem dX11_unlike_239 : decode cX11_unlike 239 = .ok (.iconst (-1), 1) := by decide +kernel
theorem dX11_unlike_240 : decode cX11_unlike 240 = .ok (.ireturn, 1) := by decide +kernel
theorem dX1_plantLow_0 : decode cX1_plantLow 0 = .ok (.aload_n 0, 1) := by decide +kernel
theorem dX1_plantLow_1 : decode cX1_plantLow 1 = .ok (.getfield 12, 3) := by decide +kernel
theorem dX1_plantLow_4 : decode cX1_plantLow 4 = .ok (.iload_n 1, 1) := by decide +kernel
theorem dX1_plantLow_5 : decode cX1_plantLow 5 = .ok (.iload_n 2, 1) := by decide +kernel
theorem dX1_plantLow_6 : decode cX1_plantLow 6 = .ok (.invokevirtual 262, 3) := by decide +kernel
theorem dX1_plantLow_9 : decode cX1_plantLow 9 = .ok (.istore 4, 2) := by decide +kernel
theorem dX1_plantLow_11 : decode cX1_plantLow 11 = .ok (.iload 4, 2) := by decide +kernel
theorem dX1_plantLow_13 : decode cX1_plantLow 13 = .ok (.iconst (-1), 1) := by decide +kernel
theorem dX1_plantLow_14 : decode cX1_plantLow 14 = .ok (.if_icmp .eq 15, 3) := by decide +kernel
theorem dX1_plantLow_17 : decode cX1_plantLow 17 = .ok (.aload_n 0, 1) := by decide +kernel
theorem dX1_plantLow_18 : decode cX1_plantLow 18 = .ok (.getfield 12, 3) := by decide +kernel
theorem dX1_plantLow_21 : decode cX1_plantLow 21 = .ok (.iload_n 1, 1) := by decide +kernel
theorem dX1_plantLow_22 : decode cX1_plantLow 22 = .ok (.iload 4, 2) := by decide +kernel
theorem dX1_plantLow_24 : decode cX1_plantLow 24 = .ok (.iload_n 3, 1) := by decide +kernel
theorem dX1_plantLow_25 : decode cX1_plantLow 25 = .ok (.invokevirtual 252, 3) := by decide +kernel
theorem dX1_plantLow_28 : decode cX1_plantLow 28 = .ok (.return_, 1) := by decide +kernel
theorem dX1_plantLow_29 : decode cX1_plantLow 29 = .ok (.iconst 0, 1) := by decide +kernel
theorem dX1_plantLow_30 : decode cX1_plantLow 30 = .ok (.istore 5, 2) := by decide +kernel
theorem dX1_plantLow_32 : decode cX1_plantLow 32 = .ok (.iconst 0, 1) := by decide +kernel
theorem dX1_plantLow_33 : decode cX1_plantLow 33 = .ok (.istore 6, 2) := by decide +kernel
theorem dX1_plantLow_35 : decode cX1_plantLow 35 = .ok (.iload 6, 2) := by decide +kernel
theorem dX1_plantLow_37 : decode cX1_plantLow 37 = .ok (.aload_n 0, 1) := by decide +kernel
theorem dX1_plantLow_38 : decode cX1_plantLow 38 = .ok (.getfield 12, 3) := by decide +kernel
theorem dX1_plantLow_41 : decode cX1_plantLow 41 = .ok (.getfield 155, 3) := by decide +kernel
theorem dX1_plantLow_44 : decode cX1_plantLow 44 = .ok (.iload_n 1, 1) := by decide +kernel
theorem dX1_plantLow_45 : decode cX1_plantLow 45 = .ok (.iaload, 1) := by decide +kernel
theorem dX1_plantLow_46 : decode cX1_plantLow 46 = .ok (.if_icmp .ge 41, 3) := by decide +kernel
theorem dX1_plantLow_49 : decode cX1_plantLow 49 = .ok (.iload 5, 2) := by decide +kernel
theorem dX1_plantLow_51 : decode cX1_plantLow 51 = .ok (.aload_n 0, 1) := by decide +kernel
theorem dX1_plantLow_52 : decode cX1_plantLow 52 = .ok (.getfield 12, 3) := by decide +kernel
theorem dX1_plantLow_55 : decode cX1_plantLow 55 = .ok (.getfield 227, 3) := by decide +kernel
theorem dX1_plantLow_58 : decode cX1_plantLow 58 = .ok (.aload_n 0, 1) := by decide +kernel
theorem dX1_plantLow_59 : decode cX1_plantLow 59 = .ok (.getfield 12, 3) := by decide +kernel
theorem dX1_plantLow_62 : decode cX1_plantLow 62 = .ok (.iload_n 1, 1) := by decide +kernel
theorem dX1_plantLow_63 : decode cX1_plantLow 63 = .ok (.iload 6, 2) := by decide +kernel
theorem dX1_plantLow_65 : decode cX1_plantLow 65 = .ok (.invokevirtual 220, 3) := by decide +kernel
theorem dX1_plantLow_68 : decode cX1_plantLow 68 = .ok (.iaload, 1) := by decide +kernel
theorem dX1_plantLow_69 : decode cX1_plantLow 69 = .ok (.iload_n 2, 1) := by decide +kernel
theorem dX1_plantLow_70 : decode cX1_plantLow 70 = .ok (.if_icmp .ge 7, 3) := by decide +kernel
theorem dX1_plantLow_73 : decode cX1_plantLow 73 = .ok (.iconst 1, 1) := by decide +kernel
theorem dX1_plantLow_74 : decode cX1_plantLow 74 = .ok (.goto 4, 3) := by decide +kernel
theorem dX1_plantLow_77 : decode cX1_plantLow 77 = .ok (.iconst 0, 1) := by decide +kernel
theorem dX1_plantLow_78 : decode cX1_plantLow 78 = .ok (.iadd, 1) := by decide +kernel
theorem dX1_plantLow_79 : decode cX1_plantLow 79 = .ok (.istore 5, 2) := by decide +kernel
theorem dX1_plantLow_81 : decode cX1_plantLow 81 = .ok (.iinc 6 1, 3) := by decide +kernel
theorem dX1_plantLow_84 : decode cX1_plantLow 84 = .ok (.goto (-49), 3) := by decide +kernel
theorem dX1_plantLow_87 : decode cX1_plantLow 87 = .ok (.aload_n 0, 1) := by decide +kernel
theorem dX1_plantLow_88 : decode cX1_plantLow 88 = .ok (.getfield 12, 3) := by decide +kernel
theorem dX1_plantLow_91 : decode cX1_plantLow 91 = .ok (.iload_n 1, 1) := by decide +kernel
theorem dX1_plantLow_92 : decode cX1_plantLow 92 = .ok (.iload 5, 2) := by decide +kernel
theorem dX1_plantLow_94 : decode cX1_plantLow 94 = .ok (.iload_n 2, 1) := by decide +kernel
theorem dX1_plantLow_95 : decode cX1_plantLow 95 = .ok (.iload_n 3, 1) := by decide +kernel
theorem dX1_plantLow_96 : decode cX1_plantLow 96 = .ok (.invokevirtual 258, 3) := by decide +kernel
theorem dX1_plantLow_99 : decode cX1_plantLow 99 = .ok (.return_, 1) := by decide +kernel
theorem dX8_become_0 : decode cX8_become 0 = .ok (.aload_n 0, 1) := by decide +kernel
theorem dX8_become_1 : decode cX8_become 1 = .ok (.aload_n 1, 1) := by decide +kernel
theorem dX8_become_2 : decode cX8_become 2 = .ok (.getfield 40, 3) := by decide +kernel
theorem dX8_become_5 : decode cX8_become 5 = .ok (.putfield 40, 3) := by decide +kernel
theorem dX8_become_8 : decode cX8_become 8 = .ok (.aload_n 0, 1) := by decide +kernel
theorem dX8_become_9 : decode cX8_become 9 = .ok (.aload_n 1, 1) := by decide +kernel
theorem dX8_become_10 : decode cX8_become 10 = .ok (.getfield 44, 3) := by decide +kernel
theorem dX8_become_13 : decode cX8_become 13 = .ok (.putfield 44, 3) := by decide +kernel
theorem dX8_become_16 : decode cX8_become 16 = .ok (.aload_n 0, 1) := by decide +kernel
theorem dX8_become_17 : decode cX8_become 17 = .ok (.aload_n 1, 1) := by decide +kernel
theorem dX8_become_18 : decode cX8_become 18 = .ok (.getfield 47, 3) := by decide +kernel
theorem dX8_become_21 : decode cX8_become 21 = .ok (.putfield 47, 3) := by decide +kernel
theorem dX8_become_24 : decode cX8_become 24 = .ok (.aload_n 1, 1) := by decide +kernel
theorem dX8_become_25 : decode cX8_become 25 = .ok (.getfield 9, 3) := by decide +kernel
theorem dX8_become_28 : decode cX8_become 28 = .ok (.iconst 0, 1) := by decide +kernel
theorem dX8_become_29 : decode cX8_become 29 = .ok (.aload_n 0, 1) := by decide +kernel
theorem dX8_become_30 : decode cX8_become 30 = .ok (.getfield 9, 3) := by decide +kernel
theorem dX8_become_33 : decode cX8_become 33 = .ok (.iconst 0, 1) := by decide +kernel
theorem dX8_become_34 : decode cX8_become 34 = .ok (.bipush 48, 2) := by decide +kernel
theorem dX8_become_36 : decode cX8_become 36 = .ok (.invokestatic 51, 3) := by decide +kernel
theorem dX8_become_39 : decode cX8_become 39 = .ok (.aload_n 1, 1) := by decide +kernel
theorem dX8_become_40 : decode cX8_become 40 = .ok (.getfield 15, 3) := by decide +kernel
theorem dX8_become_43 : decode cX8_become 43 = .ok (.iconst 0, 1) := by decide +kernel
theorem dX8_become_44 : decode cX8_become 44 = .ok (.aload_n 0, 1) := by decide +kernel
theorem dX8_become_45 : decode cX8_become 45 = .ok (.getfield 15, 3) := by decide +kernel
theorem dX8_become_48 : decode cX8_become 48 = .ok (.iconst 0, 1) := by decide +kernel
theorem dX8_become_49 : decode cX8_become 49 = .ok (.bipush 48, 2) := by decide +kernel
theorem dX8_become_51 : decode cX8_become 51 = .ok (.invokestatic 51, 3) := by decide +kernel
theorem dX8_become_54 : decode cX8_become 54 = .ok (.aload_n 1, 1) := by decide +kernel
theorem dX8_become_55 : decode cX8_become 55 = .ok (.getfield 18, 3) := by decide +kernel
theorem dX8_become_58 : decode cX8_become 58 = .ok (.iconst 0, 1) := by decide +kernel
theorem dX8_become_59 : decode cX8_become 59 = .ok (.aload_n 0, 1) := by decide +kernel
theorem dX8_become_60 : decode cX8_become 60 = .ok (.getfield 18, 3) := by decide +kernel
theorem dX8_become_63 : decode cX8_become 63 = .ok (.iconst 0, 1) := by decide +kernel
theorem dX8_become_64 : decode cX8_become 64 = .ok (.bipush 48, 2) := by decide +kernel
theorem dX8_become_66 : decode cX8_become 66 = .ok (.invokestatic 51, 3) := by decide +kernel
theorem dX8_become_69 : decode cX8_become 69 = .ok (.aload_n 1, 1) := by decide +kernel
theorem dX8_become_70 : decode cX8_become 70 = .ok (.getfield 21, 3) := by decide +kernel
theorem dX8_become_73 : decode cX8_become 73 = .ok (.iconst 0, 1) := by decide +kernel
theorem dX8_become_74 : decode cX8_become 74 = .ok (.aload_n 0, 1) := by decide +kernel
theorem dX8_become_75 : decode cX8_become 75 = .ok (.getfield 21, 3) := by decide +kernel
theorem dX8_become_78 : decode cX8_become 78 = .ok (.iconst 0, 1) := by decide +kernel
theorem dX8_become_79 : decode cX8_become 79 = .ok (.bipush 48, 2) := by decide +kernel
theorem dX8_become_81 : decode cX8_become 81 = .ok (.invokestatic 51, 3) := by decide +kernel
theorem dX8_become_84 : decode cX8_become 84 = .ok (.aload_n 1, 1) := by decide +kernel
theorem dX8_become_85 : decode cX8_become 85 = .ok (.getfield 24, 3) := by decide +kernel
theorem dX8_become_88 : decode cX8_become 88 = .ok (.iconst 0, 1) := by decide +kernel
theorem dX8_become_89 : decode cX8_become 89 = .ok (.aload_n 0, 1) := by decide +kernel
theorem dX8_become_90 : decode cX8_become 90 = .ok (.getfield 24, 3) := by decide +kernel
theorem dX8_become_93 : decode cX8_become 93 = .ok (.iconst 0, 1) := by decide +kernel
theorem dX8_become_94 : decode cX8_become 94 = .ok (.sipush 288, 3) := by decide +kernel
theorem dX8_become_97 : decode cX8_become 97 = .ok (.invokestatic 51, 3) := by decide +kernel
theorem dX8_become_100 : decode cX8_become 100 = .ok (.aload_n 1, 1) := by decide +kernel
theorem dX8_become_101 : decode cX8_become 101 = .ok (.getfield 27, 3) := by decide +kernel
theorem dX8_become_104 : decode cX8_become 104 = .ok (.iconst 0, 1) := by decide +kernel
theorem dX8_become_105 : decode cX8_become 105 = .ok (.aload_n 0, 1) := by decide +kernel
theorem dX8_become_106 : decode cX8_become 106 = .ok (.getfield 27, 3) := by decide +kernel
theorem dX8_become_109 : decode cX8_become 109 = .ok (.iconst 0, 1) := by decide +kernel
theorem dX8_become_110 : decode cX8_become 110 = .ok (.sipush 288, 3) := by decide +kernel
theorem dX8_become_113 : decode cX8_become 113 = .ok (.invokestatic 51, 3) := by decide +kernel
theorem dX8_become_116 : decode cX8_become 116 = .ok (.aload_n 1, 1) := by decide +kernel
theorem dX8_become_117 : decode cX8_become 117 = .ok (.getfield 30, 3) := by decide +kernel
theorem dX8_become_120 : decode cX8_become 120 = .ok (.iconst 0, 1) := by decide +kernel
theorem dX8_become_121 : decode cX8_become 121 = .ok (.aload_n 0, 1) := by decide +kernel
theorem dX8_become_122 : decode cX8_become 122 = .ok (.getfield 30, 3) := by decide +kernel
theorem dX8_become_125 : decode cX8_become 125 = .ok (.iconst 0, 1) := by decide +kernel
theorem dX8_become_126 : decode cX8_become 126 = .ok (.bipush 8, 2) := by decide +kernel
theorem dX8_become_128 : decode cX8_become 128 = .ok (.invokestatic 51, 3) := by decide +kernel
theorem dX8_become_131 : decode cX8_become 131 = .ok (.aload_n 1, 1) := by decide +kernel
theorem dX8_become_132 : decode cX8_become 132 = .ok (.getfield 33, 3) := by decide +kernel
theorem dX8_become_135 : decode cX8_become 135 = .ok (.iconst 0, 1) := by decide +kernel
theorem dX8_become_136 : decode cX8_become 136 = .ok (.aload_n 0, 1) := by decide +kernel
theorem dX8_become_137 : decode cX8_become 137 = .ok (.getfield 33, 3) := by decide +kernel
theorem dX8_become_140 : decode cX8_become 140 = .ok (.iconst 0, 1) := by decide +kernel
theorem dX8_become_141 : decode cX8_become 141 = .ok (.bipush 8, 2) := by decide +kernel
theorem dX8_become_143 : decode cX8_become 143 = .ok (.invokestatic 51, 3) := by decide +kernel
theorem dX8_become_146 : decode cX8_become 146 = .ok (.return_, 1) := by decide +kernel
theorem dX8_insert_0 : decode cX8_insert 0 = .ok (.iload_n 2, 1) := by decide +kernel
theorem dX8_insert_1 : decode cX8_insert 1 = .ok (.ifCond .lt 24, 3) := by decide +kernel
theorem dX8_insert_4 : decode cX8_insert 4 = .ok (.iload_n 2, 1) := by decide +kernel
theorem dX8_insert_5 : decode cX8_insert 5 = .ok (.aload_n 0, 1) := by decide +kernel
theorem dX8_insert_6 : decode cX8_insert 6 = .ok (.getfield 21, 3) := by decide +kernel
theorem dX8_insert_9 : decode cX8_insert 9 = .ok (.iload_n 1, 1) := by decide +kernel
theorem dX8_insert_10 : decode cX8_insert 10 = .ok (.iaload, 1) := by decide +kernel
theorem dX8_insert_11 : decode cX8_insert 11 = .ok (.if_icmp .gt 14, 3) := by decide +kernel
theorem dX8_insert_14 : decode cX8_insert 14 = .ok (.aload_n 0, 1) := by decide +kernel
theorem dX8_insert_15 : decode cX8_insert 15 = .ok (.getfield 21, 3) := by decide +kernel
theorem dX8_insert_18 : decode cX8_insert 18 = .ok (.iload_n 1, 1) := by decide +kernel
theorem dX8_insert_19 : decode cX8_insert 19 = .ok (.iaload, 1) := by decide +kernel
theorem dX8_insert_20 : decode cX8_insert 20 = .ok (.bipush 6, 2) := by decide +kernel
theorem dX8_insert_22 : decode cX8_insert 22 = .ok (.if_icmp .lt 4, 3) := by decide +kernel
theorem dX8_insert_25 : decode cX8_insert 25 = .ok (.return_, 1) := by decide +kernel
theorem dX8_insert_26 : decode cX8_insert 26 = .ok (.aload_n 0, 1) := by decide +kernel
theorem dX8_insert_27 : decode cX8_insert 27 = .ok (.iload_n 1, 1) := by decide +kernel
theorem dX8_insert_28 : decode cX8_insert 28 = .ok (.iload_n 2, 1) := by decide +kernel
theorem dX8_insert_29 : decode cX8_insert 29 = .ok (.invokevirtual 73, 3) := by decide +kernel
theorem dX8_insert_32 : decode cX8_insert 32 = .ok (.istore 5, 2) := by decide +kernel
theorem dX8_insert_34 : decode cX8_insert 34 = .ok (.aload_n 0, 1) := by decide +kernel
theorem dX8_insert_35 : decode cX8_insert 35 = .ok (.iload_n 1, 1) := by decide +kernel
theorem dX8_insert_36 : decode cX8_insert 36 = .ok (.aload_n 0, 1) := by decide +kernel
theorem dX8_insert_37 : decode cX8_insert 37 = .ok (.getfield 21, 3) := by decide +kernel
theorem dX8_insert_40 : decode cX8_insert 40 = .ok (.iload_n 1, 1) := by decide +kernel
theorem dX8_insert_41 : decode cX8_insert 41 = .ok (.iaload, 1) := by decide +kernel
theorem dX8_insert_42 : decode cX8_insert 42 = .ok (.invokevirtual 73, 3) := by decide +kernel
theorem dX8_insert_45 : decode cX8_insert 45 = .ok (.istore 6, 2) := by decide +kernel
theorem dX8_insert_47 : decode cX8_insert 47 = .ok (.iload 6, 2) := by decide +kernel
theorem dX8_insert_49 : decode cX8_insert 49 = .ok (.iload 5, 2) := by decide +kernel
theorem dX8_insert_51 : decode cX8_insert 51 = .ok (.if_icmp .le 41, 3) := by decide +kernel
theorem dX8_insert_54 : decode cX8_insert 54 = .ok (.aload_n 0, 1) := by decide +kernel
theorem dX8_insert_55 : decode cX8_insert 55 = .ok (.getfield 24, 3) := by decide +kernel
theorem dX8_insert_58 : decode cX8_insert 58 = .ok (.iload 6, 2) := by decide +kernel
theorem dX8_insert_60 : decode cX8_insert 60 = .ok (.aload_n 0, 1) := by decide +kernel
theorem dX8_insert_61 : decode cX8_insert 61 = .ok (.getfield 24, 3) := by decide +kernel
theorem dX8_insert_64 : decode cX8_insert 64 = .ok (.iload 6, 2) := by decide +kernel
theorem dX8_insert_66 : decode cX8_insert 66 = .ok (.iconst 1, 1) := by decide +kernel
theorem dX8_insert_67 : decode cX8_insert 67 = .ok (.isub, 1) := by decide +kernel
theorem dX8_insert_68 : decode cX8_insert 68 = .ok (.iaload, 1) := by decide +kernel
theorem dX8_insert_69 : decode cX8_insert 69 = .ok (.iastore, 1) := by decide +kernel
theorem dX8_insert_70 : decode cX8_insert 70 = .ok (.aload_n 0, 1) := by decide +kernel
theorem dX8_insert_71 : decode cX8_insert 71 = .ok (.getfield 27, 3) := by decide +kernel
theorem dX8_insert_74 : decode cX8_insert 74 = .ok (.iload 6, 2) := by decide +kernel
theorem dX8_insert_76 : decode cX8_insert 76 = .ok (.aload_n 0, 1) := by decide +kernel
theorem dX8_insert_77 : decode cX8_insert 77 = .ok (.getfield 27, 3) := by decide +kernel
theorem dX8_insert_80 : decode cX8_insert 80 = .ok (.iload 6, 2) := by decide +kernel
theorem dX8_insert_82 : decode cX8_insert 82 = .ok (.iconst 1, 1) := by decide +kernel
theorem dX8_insert_83 : decode cX8_insert 83 = .ok (.isub, 1) := by decide +kernel
theorem dX8_insert_84 : decode cX8_insert 84 = .ok (.iaload, 1) := by decide +kernel
theorem dX8_insert_85 : decode cX8_insert 85 = .ok (.iastore, 1) := by decide +kernel
theorem dX8_insert_86 : decode cX8_insert 86 = .ok (.iinc 6 (-1), 3) := by decide +kernel
theorem dX8_insert_89 : decode cX8_insert 89 = .ok (.goto (-42), 3) := by decide +kernel
theorem dX8_insert_92 : decode cX8_insert 92 = .ok (.aload_n 0, 1) := by decide +kernel
theorem dX8_insert_93 : decode cX8_insert 93 = .ok (.getfield 24, 3) := by decide +kernel
theorem dX8_insert_96 : decode cX8_insert 96 = .ok (.iload 5, 2) := by decide +kernel
theorem dX8_insert_98 : decode cX8_insert 98 = .ok (.iload_n 3, 1) := by decide +kernel
theorem dX8_insert_99 : decode cX8_insert 99 = .ok (.iastore, 1) := by decide +kernel
theorem dX8_insert_100 : decode cX8_insert 100 = .ok (.aload_n 0, 1) := by decide +kernel
theorem dX8_insert_101 : decode cX8_insert 101 = .ok (.getfield 27, 3) := by decide +kernel
theorem dX8_insert_104 : decode cX8_insert 104 = .ok (.iload 5, 2) := by decide +kernel
theorem dX8_insert_106 : decode cX8_insert 106 = .ok (.iload 4, 2) := by decide +kernel
theorem dX8_insert_108 : decode cX8_insert 108 = .ok (.iastore, 1) := by decide +kernel
theorem dX8_insert_109 : decode cX8_insert 109 = .ok (.aload_n 0, 1) := by decide +kernel
theorem dX8_insert_110 : decode cX8_insert 110 = .ok (.getfield 21, 3) := by decide +kernel
theorem dX8_insert_113 : decode cX8_insert 113 = .ok (.iload_n 1, 1) := by decide +kernel
theorem dX8_insert_114 : decode cX8_insert 114 = .ok (.dup2, 1) := by decide +kernel
theorem dX8_insert_115 : decode cX8_insert 115 = .ok (.iaload, 1) := by decide +kernel
theorem dX8_insert_116 : decode cX8_insert 116 = .ok (.iconst 1, 1) := by decide +kernel
theorem dX8_insert_117 : decode cX8_insert 117 = .ok (.iadd, 1) := by decide +kernel
theorem dX8_insert_118 : decode cX8_insert 118 = .ok (.iastore, 1) := by decide +kernel
theorem dX8_insert_119 : decode cX8_insert 119 = .ok (.aload_n 0, 1) := by decide +kernel
theorem dX8_insert_120 : decode cX8_insert 120 = .ok (.iload_n 1, 1) := by decide +kernel
theorem dX8_insert_121 : decode cX8_insert 121 = .ok (.invokevirtual 86, 3) := by decide +kernel
theorem dX8_insert_124 : decode cX8_insert 124 = .ok (.return_, 1) := by decide +kernel
theorem dX8_mark_0 : decode cX8_mark 0 = .ok (.aload_n 0, 1) := by decide +kernel
theorem dX8_mark_1 : decode cX8_mark 1 = .ok (.dup, 1) := by decide +kernel
theorem dX8_mark_2 : decode cX8_mark 2 = .ok (.getfield 47, 3) := by decide +kernel
theorem dX8_mark_5 : decode cX8_mark 5 = .ok (.lconst 1, 1) := by decide +kernel
theorem dX8_mark_6 : decode cX8_mark 6 = .ok (.iload_n 1, 1) := by decide +kernel
theorem dX8_mark_7 : decode cX8_mark 7 = .ok (.lshl, 1) := by decide +kernel
theorem dX8_mark_8 : decode cX8_mark 8 = .ok (.lor, 1) := by decide +kernel
theorem dX8_mark_9 : decode cX8_mark 9 = .ok (.putfield 47, 3) := by decide +kernel
theorem dX8_mark_12 : decode cX8_mark 12 = .ok (.return_, 1) := by decide +kernel
theorem dX8_set_0 : decode cX8_set 0 = .ok (.aload_n 0, 1) := by decide +kernel
theorem dX8_set_1 : decode cX8_set 1 = .ok (.iload_n 1, 1) := by decide +kernel
theorem dX8_set_2 : decode cX8_set 2 = .ok (.iload_n 2, 1) := by decide +kernel
theorem dX8_set_3 : decode cX8_set 3 = .ok (.invokevirtual 73, 3) := by decide +kernel
theorem dX8_set_6 : decode cX8_set 6 = .ok (.istore 4, 2) := by decide +kernel
theorem dX8_set_8 : decode cX8_set 8 = .ok (.aload_n 0, 1) := by decide +kernel
theorem dX8_set_9 : decode cX8_set 9 = .ok (.getfield 27, 3) := by decide +kernel
theorem dX8_set_12 : decode cX8_set 12 = .ok (.iload 4, 2) := by decide +kernel
theorem dX8_set_14 : decode cX8_set 14 = .ok (.iaload, 1) := by decide +kernel
theorem dX8_set_15 : decode cX8_set 15 = .ok (.iload_n 3, 1) := by decide +kernel
theorem dX8_set_16 : decode cX8_set 16 = .ok (.if_icmp .eq 16, 3) := by decide +kernel
theorem dX8_set_19 : decode cX8_set 19 = .ok (.aload_n 0, 1) := by decide +kernel
theorem dX8_set_20 : decode cX8_set 20 = .ok (.getfield 27, 3) := by decide +kernel
theorem dX8_set_23 : decode cX8_set 23 = .ok (.iload 4, 2) := by decide +kernel
theorem dX8_set_25 : decode cX8_set 25 = .ok (.iload_n 3, 1) := by decide +kernel
theorem dX8_set_26 : decode cX8_set 26 = .ok (.iastore, 1) := by decide +kernel
theorem dX8_set_27 : decode cX8_set 27 = .ok (.aload_n 0, 1) := by decide +kernel
theorem dX8_set_28 : decode cX8_set 28 = .ok (.iload_n 1, 1) := by decide +kernel
theorem dX8_set_29 : decode cX8_set 29 = .ok (.invokevirtual 86, 3) := by decide +kernel
theorem dX8_set_32 : decode cX8_set 32 = .ok (.return_, 1) := by decide +kernel
def m_x10_gather_v2_J128 (lr12 : Int32 → Int32 → MS → Option (Int32 × MS)) (x4 : Int32) (x5 : Int32) (s6 : MS) : Option (Int32 × MS) :=
  lr12 x4 (x5 + 1) s6
def m_x10_gather_v2_b57 (lr12 : Int32 → Int32 → MS → Option (Int32 × MS)) (lr57 : Int32 → Int32 → Int32 → Int32 → MS → Option (Int32 × MS)) (x7 : Int32) (x8 : Int32) (x9 : Int32) (x10 : Int32) (s11 : MS) : Option (Int32 × MS) :=
  if x9 ≤ x10 then m_x10_gather_v2_J128 lr12 x7 x8 s11 else if 288 ≤ x7 then m_x10_gather_v2_J128 lr12 x7 x8 s11 else rdI (gA s11 26) 48 x8 (fun y14 => bn (m_x8_slot y14 x10 s11) (fun r16 => rdI (gA s11 58) 288 r16 (fun y17 => inb 288 x7 (stn (sA s11 27 (upd (gA s11 27) (Int32.toNatClampNeg x7) y17)) (fun s19 => rdI (gA s19 26) 48 x8 (fun y20 => bn (m_x8_slot y20 x10 s19) (fun r22 => rdI (gA s19 59) 288 r22 (fun y23 => inb 288 x7 (stn (sA s19 28 (upd (gA s19 28) (Int32.toNatClampNeg x7) y23)) (fun s25 => lr57 (x7 + 1) x8 x9 (x10 + 1) s25))))))))))
def m_x10_gather_v2_L57 (lr12 : Int32 → Int32 → MS → Option (Int32 × MS)) (n : Nat) : Int32 → Int32 → Int32 → Int32 → MS → Option (Int32 × MS) := lp (fun _ _ _ _ _ => none) (m_x10_gather_v2_b57 lr12) n
def m_x10_gather_v2_J52 (lr12 : Int32 → Int32 → MS → Option (Int32 × MS)) (x26 : Int32) (x27 : Int32) (x28 : Int32) (s29 : MS) : Option (Int32 × MS) :=
  m_x10_gather_v2_L57 lr12 FU x26 x27 x28 0 s29
def m_x10_gather_v2_b12 (lr12 : Int32 → Int32 → MS → Option (Int32 × MS)) (x1 : Int32) (x2 : Int32) (s3 : MS) : Option (Int32 × MS) :=
  if (gI s3 501) ≤ x2 then some (x1, s3) else rdI (gA s3 26) 48 x2 (fun y31 => rdI (gA s3 56) 48 y31 (fun y32 => if y32 = 0 then rdI (gA s3 26) 48 x2 (fun y34 => rdI (gA s3 57) 48 y34 (fun y35 => m_x10_gather_v2_J52 lr12 x1 x2 y35 s3)) else m_x10_gather_v2_J52 lr12 x1 x2 0 s3))
def m_x10_gather_v2_L12 (n : Nat) : Int32 → Int32 → MS → Option (Int32 × MS) := lp (fun _ _ _ => none) (m_x10_gather_v2_b12) n
def m_x10_gather_v2 (p1 : Int32) (s : MS) : Option (Int32 × MS) :=
  bn (m_x10_tree_v2 p1 s) (fun qrl38 => m_x10_gather_v2_L12 FU 0 0 qrl38.2)
set_option maxHeartbeats 4000000 in
set_option maxRecDepth 100000 in
theorem k_x10_gather_v2 (l : Launch) (D : va_G) (a : Nat → Nat) (p1 : Int32) (sz : Nat) (s : MS) (o : (Int32 × MS)) (h : m_x10_gather_v2 p1 s = some o) : yWi l yX10_gather cX10_gather 7 (some .int) { frames := 2, cells := 0, slots := 0, locals := 120 } D sz [.ref (a 25), .ref (a 53), .int p1] (CS D a s) (CS D a o.2) o.1 := by
  refine Met.ofW (cc := cX10_gather) (maxL := 7) (ret := (some .int)) (by decide) rfl ?_
  intro p e s₀ m args below meth c s₁ B hml hv
  obtain ⟨rfl, ⟨hsz, hP, hK, hD0⟩, hN⟩ := hv
  have hx := B.exec
  have hb := B.bytes
  have hr := B.returns
  have hts := atoms_spec (ws := wz yX10_gather cX10_gather 7 (some .int)) B.pre
  have ht : ∀ w ∈ lw_gd, w.before _ s₀ = true := fun w h => hts w (List.mem_cons_of_mem _ h)
  have hown : s₀.vm.findClass RX10 = some m.cls := findClass_of_methodNamed B.named
  have hlocks := B.notSynchronized
  subst hsz
  have hD := hD0.self (sz := s₀.heap.size)
  generalize hAe : va_A (CS D a s) s₀.heap.size = A at hD ⊢
  have hA : ∀ q : Nat, s₀.heap.size ≤ q → A q := fun q h => by rw [← hAe]; exact Or.inr h
  have hS : va_S A s₀.heap s₀.heap [] := va_S.rf
  have hDD : ∀ t : MS, va_D A (CS D a t) := fun t => CW_D t hD
  have hl := lv_entry ([.ref (a 25), .ref (a 53), .int p1]) (n := 7) (Nat.le_of_ble_eq_true rfl)
  rw [lg_entry_eq]
  generalize (lg_sl ([.ref (a 25), .ref (a 53), .int p1]) ++ List.replicate (7 - (lg_sl ([.ref (a 25), .ref (a 53), .int p1])).length) Slot.unset).toArray = ls at hl ⊢
  have hl : lv_has ls 7 [(0, .ref (a 25)), (1, .ref (a 53)), (2, .int p1)] := hl
  unfold m_x10_gather_v2 at h
  refine y_loop (pcJ := 12) (σ := Int32 × Int32 × MS) (fun n u H locs ls => va_P D vwCl (CS D a u.2.2) H ∧ va_S A s₀.heap H locs ∧ lv_has ls 7 [(0, .ref (a 25)), (1, .ref (a 53)), (3, .int u.1), (4, .int u.2.1)] ∧ m_x10_gather_v2_L12 n u.1 u.2.1 u.2.2 = some o) (fun u => []) (fun u H locs ls hI => by obtain ⟨_, _, _, h⟩ := hI; cases h) (fun n12 ih12 u H locs ls hI => ?_) (fun J12 => ?_)
  · obtain ⟨hP, hS, hl, h⟩ := hI
    obtain ⟨x1, x2, s3⟩ := u
    have hP : va_P D vwCl (CS D a s3) H := hP
    have hl : lv_has ls 7 [(0, .ref (a 25)), (1, .ref (a 53)), (3, .int x1), (4, .int x2)] := hl
    have h : m_x10_gather_v2_b12 (m_x10_gather_v2_L12 n12) x1 x2 s3 = some o := h
    unfold m_x10_gather_v2_b12 at h
    refine y_head (pcJ := 128) (σ := Int32 × Int32 × MS) (fun u H locs ls => va_P D vwCl (CS D a u.2.2) H ∧ va_S A s₀.heap H locs ∧ lv_has ls 7 [(0, .ref (a 25)), (1, .ref (a 53)), (3, .int u.1), (4, .int u.2.1)] ∧ m_x10_gather_v2_J128 (m_x10_gather_v2_L12 n12) u.1 u.2.1 u.2.2 = some o) (fun u => []) (fun u H locs ls hI => ?_) (fun J128 => ?_)
    · obtain ⟨hP, hS, hl, h⟩ := hI
      obtain ⟨x4, x5, s6⟩ := u
      have hP : va_P D vwCl (CS D a s6) H := hP
      have hl : lv_has ls 7 [(0, .ref (a 25)), (1, .ref (a 53)), (3, .int x4), (4, .int x5)] := hl
      have h : m_x10_gather_v2_J128 (m_x10_gather_v2_L12 n12) x4 x5 s6 = some o := h
      unfold m_x10_gather_v2_J128 at h
      refine lv_iinc (v := x5 + 1) (lv' := [(4, .int (x5 + 1)), (0, .ref (a 25)), (1, .ref (a 53)), (3, .int x4)]) hx hb dX10_gather_128 hl (k := 3) rfl rfl (by decide) rfl (fun ls hl => ?_)
      refine lv_goto (tgt := 12) hx hb dX10_gather_131 (by decide) ?_
      exact ih12 (x4, x5 + 1, s6) _ _ _ ⟨hP, hS, lv_sub hl [1, 2, 3, 0] rfl, h⟩
    refine y_loop (pcJ := 57) (σ := Int32 × Int32 × Int32 × Int32 × MS) (fun n u H locs ls => va_P D vwCl (CS D a u.2.2.2.2) H ∧ va_S A s₀.heap H locs ∧ lv_has ls 7 [(0, .ref (a 25)), (1, .ref (a 53)), (3, .int u.1), (4, .int u.2.1), (5, .int u.2.2.1), (6, .int u.2.2.2.1)] ∧ m_x10_gather_v2_L57 (m_x10_gather_v2_L12 n12) n u.1 u.2.1 u.2.2.1 u.2.2.2.1 u.2.2.2.2 = some o) (fun u => []) (fun u H locs ls hI => by obtain ⟨_, _, _, h⟩ := hI; cases h) (fun n57 ih57 u H locs ls hI => ?_) (fun J57 => ?_)
    · obtain ⟨hP, hS, hl, h⟩ := hI
      obtain ⟨x7, x8, x9, x10, s11⟩ := u
      have hP : va_P D vwCl (CS D a s11) H := hP
      have hl : lv_has ls 7 [(0, .ref (a 25)), (1, .ref (a 53)), (3, .int x7), (4, .int x8), (5, .int x9), (6, .int x10)] := hl
      have h : m_x10_gather_v2_b57 (m_x10_gather_v2_L12 n12) (m_x10_gather_v2_L57 (m_x10_gather_v2_L12 n12) n57) x7 x8 x9 x10 s11 = some o := h
      unfold m_x10_gather_v2_b57 at h
      refine lv_iload hx hb dX10_gather_57 (lv_at hl 5 rfl) ?_
      refine lv_iload hx hb dX10_gather_59 (lv_at hl 4 rfl) ?_
      refine lv_icmp_ge (tgt := 128) hx hb dX10_gather_61 (by decide) (fun c12 => ?_) (fun c12 => ?_)
      · have h := if_t c12 h
        exact J128 (x7, x8, s11) _ _ _ ⟨hP, hS, lv_sub hl [0, 1, 2, 3] rfl, h⟩
      · have h := if_f c12 h
        refine lv_iload_n hx hb dX10_gather_64 rfl (lv_at hl 2 rfl) ?_
        refine lv_sipush (v := 288) hx hb dX10_gather_65 (by decide) ?_
        refine lv_icmp_ge (tgt := 128) hx hb dX10_gather_68 (by decide) (fun c13 => ?_) (fun c13 => ?_)
        · have h := if_t c13 h
          exact J128 (x7, x8, s11) _ _ _ ⟨hP, hS, lv_sub hl [0, 1, 2, 3] rfl, h⟩
        · have h := if_f c13 h
          refine lv_aload_n hx hb dX10_gather_71 rfl (lv_at hl 0 rfl) ?_
          refine va_get (D := D) (ci := 10) (v := .ref (a 27)) (C := RX10) (T := TX10) (N := 4) hx hb ht inX10 hown hK hP 25 CW_25 rfl 2 (by decide) (ht (.fieldLink RX10 15 "CloneVolumes$Walk" "keys" "[I") fl_X10_15) (fun _ h9 => h9) rfl dX10_gather_72 ?_
          refine lv_iload_n hx hb dX10_gather_75 rfl (lv_at hl 2 rfl) ?_
          refine lv_aload_n hx hb dX10_gather_76 rfl (lv_at hl 1 rfl) ?_
          refine va_get (D := D) (ci := 8) (v := .ref (a 58)) (C := RX8) (T := TX8) (N := 11) hx hb ht inX8 hown hK hP 53 CW_53 rfl 7 (by decide) (ht (.fieldLink RX10 42 "CloneVolumes$State" "keys" "[I") fl_X10_42) (fun _ h9 => h9) rfl dX10_gather_77 ?_
          refine lv_aload_n hx hb dX10_gather_80 rfl (lv_at hl 1 rfl) ?_
          refine lv_aload_n hx hb dX10_gather_81 rfl (lv_at hl 0 rfl) ?_
          refine va_get (D := D) (ci := 10) (v := .ref (a 26)) (C := RX10) (T := TX10) (N := 4) hx hb ht inX10 hown hK hP 25 CW_25 rfl 0 (by decide) (ht (.fieldLink RX10 9 "CloneVolumes$Walk" "row" "[I") fl_X10_9) (fun _ h9 => h9) rfl dX10_gather_82 ?_
          refine lv_iload hx hb dX10_gather_85 (lv_at hl 3 rfl) ?_
          obtain ⟨y14, ey14, iy14, h⟩ := rdI_e h
          refine ya_iald hx hb hK hP 26 0 CW_26 rfl ey14 iy14 dX10_gather_87 ?_
          refine lv_iload hx hb dX10_gather_88 (lv_at hl 5 rfl) ?_
          obtain ⟨r16, hc15, h⟩ := bn_e h
          refine ycV (As := [.int y14, .int x10]) (rest := [.ref (a 58), .int x7, .ref (a 27)]) (C := RX8) (n := 2) ⟨hx, hb, hml, hown, ht⟩ (k_x8_slot l D a y14 x10 _ _ hc15) (zgV ml_X10_34 im_X8_slot se_X8_slot in_X8 co_X8_slot) rfl rfl (by decide +kernel) ⟨Nat.le_of_ble_eq_true rfl, Nat.le_of_ble_eq_true rfl⟩ hN hK hP hS 53 CW_53 rfl rfl rfl hl.1 rfl (Nat.le_of_ble_eq_true rfl) dX10_gather_90 ⟨Nat.le_of_ble_eq_true rfl, Nat.le_of_ble_eq_true rfl⟩ (fun H locs hP hS => ?_)
          obtain ⟨y17, ey17, iy17, h⟩ := rdI_e h
          refine ya_iald hx hb hK hP 58 0 CW_58 rfl ey17 iy17 dX10_gather_93 ?_
          obtain ⟨hi18, h⟩ := inb_e h
          refine ya_iast hx hb hK hP (hDD _) hS 27 0 CW_27 rfl hi18 dX10_gather_94 (CW_w27 _) (fun H locs hP hS => ?_)
          obtain ⟨s19, hs19, h⟩ := st_e h
          rw [hs19] at hP
          refine lv_aload_n hx hb dX10_gather_95 rfl (lv_at hl 0 rfl) ?_
          refine va_get (D := D) (ci := 10) (v := .ref (a 28)) (C := RX10) (T := TX10) (N := 4) hx hb ht inX10 hown hK hP 25 CW_25 rfl 3 (by decide) (ht (.fieldLink RX10 18 "CloneVolumes$Walk" "values" "[I") fl_X10_18) (fun _ h9 => h9) rfl dX10_gather_96 ?_
          refine lv_iload_n hx hb dX10_gather_99 rfl (lv_at hl 2 rfl) ?_
          refine lv_aload_n hx hb dX10_gather_100 rfl (lv_at hl 1 rfl) ?_
          refine va_get (D := D) (ci := 8) (v := .ref (a 59)) (C := RX8) (T := TX8) (N := 11) hx hb ht inX8 hown hK hP 53 CW_53 rfl 8 (by decide) (ht (.fieldLink RX10 33 "CloneVolumes$State" "values" "[I") fl_X10_33) (fun _ h9 => h9) rfl dX10_gather_101 ?_
          refine lv_aload_n hx hb dX10_gather_104 rfl (lv_at hl 1 rfl) ?_
          refine lv_aload_n hx hb dX10_gather_105 rfl (lv_at hl 0 rfl) ?_
          refine va_get (D := D) (ci := 10) (v := .ref (a 26)) (C := RX10) (T := TX10) (N := 4) hx hb ht inX10 hown hK hP 25 CW_25 rfl 0 (by decide) (ht (.fieldLink RX10 9 "CloneVolumes$Walk" "row" "[I") fl_X10_9) (fun _ h9 => h9) rfl dX10_gather_106 ?_
          refine lv_iload hx hb dX10_gather_109 (lv_at hl 3 rfl) ?_
          obtain ⟨y20, ey20, iy20, h⟩ := rdI_e h
          refine ya_iald hx hb hK hP 26 0 CW_26 rfl ey20 iy20 dX10_gather_111 ?_
          refine lv_iload hx hb dX10_gather_112 (lv_at hl 5 rfl) ?_
          obtain ⟨r22, hc21, h⟩ := bn_e h
          refine ycV (As := [.int y20, .int x10]) (rest := [.ref (a 59), .int x7, .ref (a 28)]) (C := RX8) (n := 2) ⟨hx, hb, hml, hown, ht⟩ (k_x8_slot l D a y20 x10 _ _ hc21) (zgV ml_X10_34 im_X8_slot se_X8_slot in_X8 co_X8_slot) rfl rfl (by decide +kernel) ⟨Nat.le_of_ble_eq_true rfl, Nat.le_of_ble_eq_true rfl⟩ hN hK hP hS 53 CW_53 rfl rfl rfl hl.1 rfl (Nat.le_of_ble_eq_true rfl) dX10_gather_114 ⟨Nat.le_of_ble_eq_true rfl, Nat.le_of_ble_eq_true rfl⟩ (fun H locs hP hS => ?_)
          obtain ⟨y23, ey23, iy23, h⟩ := rdI_e h
          refine ya_iald hx hb hK hP 59 0 CW_59 rfl ey23 iy23 dX10_gather_117 ?_
          obtain ⟨hi24, h⟩ := inb_e h
          refine ya_iast hx hb hK hP (hDD _) hS 28 0 CW_28 rfl hi24 dX10_gather_118 (CW_w28 _) (fun H locs hP hS => ?_)
          obtain ⟨s25, hs25, h⟩ := st_e h
          rw [hs25] at hP
          refine lv_iinc (v := x7 + 1) (lv' := [(3, .int (x7 + 1)), (0, .ref (a 25)), (1, .ref (a 53)), (4, .int x8), (5, .int x9), (6, .int x10)]) hx hb dX10_gather_119 hl (k := 2) rfl rfl (by decide) rfl (fun ls hl => ?_)
          refine lv_iinc (v := x10 + 1) (lv' := [(6, .int (x10 + 1)), (3, .int (x7 + 1)), (0, .ref (a 25)), (1, .ref (a 53)), (4, .int x8), (5, .int x9)]) hx hb dX10_gather_122 hl (k := 5) rfl rfl (by decide) rfl (fun ls hl => ?_)
          refine lv_goto (tgt := 57) hx hb dX10_gather_125 (by decide) ?_
          exact ih57 (x7 + 1, x8, x9, x10 + 1, s25) _ _ _ ⟨hP, hS, lv_sub hl [2, 3, 1, 4, 5, 0] rfl, h⟩
    refine y_head (pcJ := 52) (σ := Int32 × Int32 × Int32 × MS) (fun u H locs ls => va_P D vwCl (CS D a u.2.2.2) H ∧ va_S A s₀.heap H locs ∧ lv_has ls 7 [(0, .ref (a 25)), (1, .ref (a 53)), (3, .int u.1), (4, .int u.2.1)] ∧ m_x10_gather_v2_J52 (m_x10_gather_v2_L12 n12) u.1 u.2.1 u.2.2.1 u.2.2.2 = some o) (fun u => [.int u.2.2.1]) (fun u H locs ls hI => ?_) (fun J52 => ?_)
    · obtain ⟨hP, hS, hl, h⟩ := hI
      obtain ⟨x26, x27, x28, s29⟩ := u
      have hP : va_P D vwCl (CS D a s29) H := hP
      have hl : lv_has ls 7 [(0, .ref (a 25)), (1, .ref (a 53)), (3, .int x26), (4, .int x27)] := hl
      have h : m_x10_gather_v2_J52 (m_x10_gather_v2_L12 n12) x26 x27 x28 s29 = some o := h
      unfold m_x10_gather_v2_J52 at h
      refine lv_istore (lv' := [(5, .int x28), (0, .ref (a 25)), (1, .ref (a 53)), (3, .int x26), (4, .int x27)]) hx hb dX10_gather_52 hl (by decide) rfl (fun ls hl => ?_)
      refine lv_iconst (v := 0) hx hb dX10_gather_54 (by decide) ?_
      refine lv_istore (lv' := [(6, .int 0), (5, .int x28), (0, .ref (a 25)), (1, .ref (a 53)), (3, .int x26), (4, .int x27)]) hx hb dX10_gather_55 hl (by decide) rfl (fun ls hl => ?_)
      exact J57 FU (x26, x27, x28, 0, s29) _ _ _ ⟨hP, hS, lv_sub hl [2, 3, 4, 5, 1, 0] rfl, h⟩
    refine lv_iload hx hb dX10_gather_12 (lv_at hl 3 rfl) ?_
    refine lv_aload_n hx hb dX10_gather_14 rfl (lv_at hl 0 rfl) ?_
    refine va_get (D := D) (ci := 10) (v := .int (gI s3 501)) (C := RX10) (T := TX10) (N := 4) hx hb ht inX10 hown hK hP 25 CW_25 rfl 1 (by decide) (ht (.fieldLink RX10 21 "CloneVolumes$Walk" "length" "I") fl_X10_21) (fun _ h9 => h9) rfl dX10_gather_15 ?_
    refine lv_icmp_ge (tgt := 134) hx hb dX10_gather_18 (by decide) (fun c30 => ?_) (fun c30 => ?_)
    · have h := if_t c30 h
      refine lv_iload_n hx hb dX10_gather_134 rfl (lv_at hl 2 rfl) ?_
      obtain rfl := Option.some.inj h
      exact W.iret (v := x1) hx hb hr (fun t ht hW => ⟨⟨_, (), rfl, rfl, by rw [ht]; exact hP, va_K.moved hW.alike hK, hDD _⟩, hS.F ht⟩) hS.2.2 dX10_gather_135
    · have h := if_f c30 h
      refine lv_aload_n hx hb dX10_gather_21 rfl (lv_at hl 1 rfl) ?_
      refine va_get (D := D) (ci := 8) (v := .ref (a 56)) (C := RX8) (T := TX8) (N := 11) hx hb ht inX8 hown hK hP 53 CW_53 rfl 5 (by decide) (ht (.fieldLink RX10 25 "CloneVolumes$State" "level" "[I") fl_X10_25) (fun _ h9 => h9) rfl dX10_gather_22 ?_
      refine lv_aload_n hx hb dX10_gather_25 rfl (lv_at hl 0 rfl) ?_
      refine va_get (D := D) (ci := 10) (v := .ref (a 26)) (C := RX10) (T := TX10) (N := 4) hx hb ht inX10 hown hK hP 25 CW_25 rfl 0 (by decide) (ht (.fieldLink RX10 9 "CloneVolumes$Walk" "row" "[I") fl_X10_9) (fun _ h9 => h9) rfl dX10_gather_26 ?_
      refine lv_iload hx hb dX10_gather_29 (lv_at hl 3 rfl) ?_
      obtain ⟨y31, ey31, iy31, h⟩ := rdI_e h
      refine ya_iald hx hb hK hP 26 0 CW_26 rfl ey31 iy31 dX10_gather_31 ?_
      obtain ⟨y32, ey32, iy32, h⟩ := rdI_e h
      refine ya_iald hx hb hK hP 56 0 CW_56 rfl ey32 iy32 dX10_gather_32 ?_
      refine lv_if_ne (tgt := 51) hx hb dX10_gather_33 (by decide) (fun c33 => ?_) (fun c33 => ?_)
      · have h := if_f c33 h
        refine lv_iconst (v := 0) hx hb dX10_gather_51 (by decide) ?_
        exact J52 (x1, x2, 0, s3) _ _ _ ⟨hP, hS, lv_sub hl [0, 1, 2, 3] rfl, h⟩
      · have h := if_t c33 h
        refine lv_aload_n hx hb dX10_gather_36 rfl (lv_at hl 1 rfl) ?_
        refine va_get (D := D) (ci := 8) (v := .ref (a 57)) (C := RX8) (T := TX8) (N := 11) hx hb ht inX8 hown hK hP 53 CW_53 rfl 6 (by decide) (ht (.fieldLink RX10 30 "CloneVolumes$State" "size" "[I") fl_X10_30) (fun _ h9 => h9) rfl dX10_gather_37 ?_
        refine lv_aload_n hx hb dX10_gather_40 rfl (lv_at hl 0 rfl) ?_
        refine va_get (D := D) (ci := 10) (v := .ref (a 26)) (C := RX10) (T := TX10) (N := 4) hx hb ht inX10 hown hK hP 25 CW_25 rfl 0 (by decide) (ht (.fieldLink RX10 9 "CloneVolumes$Walk" "row" "[I") fl_X10_9) (fun _ h9 => h9) rfl dX10_gather_41 ?_
        refine lv_iload hx hb dX10_gather_44 (lv_at hl 3 rfl) ?_
        obtain ⟨y34, ey34, iy34, h⟩ := rdI_e h
        refine ya_iald hx hb hK hP 26 0 CW_26 rfl ey34 iy34 dX10_gather_46 ?_
        obtain ⟨y35, ey35, iy35, h⟩ := rdI_e h
        refine ya_iald hx hb hK hP 57 0 CW_57 rfl ey35 iy35 dX10_gather_47 ?_
        refine lv_goto (tgt := 52) hx hb dX10_gather_48 (by decide) ?_
        exact J52 (x1, x2, y35, s3) _ _ _ ⟨hP, hS, lv_sub hl [0, 1, 2, 3] rfl, h⟩
  refine lv_aload_n hx hb dX10_gather_0 rfl (lv_at hl 0 rfl) ?_
  refine lv_aload_n hx hb dX10_gather_1 rfl (lv_at hl 1 rfl) ?_
  refine lv_iload_n hx hb dX10_gather_2 rfl (lv_at hl 2 rfl) ?_
  obtain ⟨⟨rl38, s37⟩, hc36, h⟩ := bn_e h
  refine ywVl (r0 := rl38) (As := [.ref (a 53), .int p1]) (rest := []) (C := RX10) (n := 2) (ws' := CS D a s37) ⟨hx, hb, hml, hown, ht⟩ (k_x10_tree_v2 l D a p1 _ _ _ hc36) (zgV ml_X10_38 im_X10_tree se_X10_tree in_X10 co_X10_tree) rfl rfl (by decide +kernel) ⟨Nat.le_of_ble_eq_true rfl, Nat.le_of_ble_eq_true rfl⟩ hN hK hP (hDD _) hS hA 25 CW_25 rfl rfl rfl hl.1 rfl (Nat.le_of_ble_eq_true rfl) dX10_gather_3 ⟨Nat.le_of_ble_eq_true rfl, Nat.le_of_ble_eq_true rfl⟩ (fun H locs hP hS => ?_)
  refine lv_pop2_2 hx hb dX10_gather_6 rfl ?_
  refine lv_iconst (v := 0) hx hb dX10_gather_7 (by decide) ?_
  refine lv_istore_n (lv' := [(3, .int 0), (0, .ref (a 25)), (1, .ref (a 53)), (2, .int p1)]) hx hb dX10_gather_8 rfl hl (by decide) rfl (fun ls hl => ?_)
  refine lv_iconst (v := 0) hx hb dX10_gather_9 (by decide) ?_
  refine lv_istore (lv' := [(4, .int 0), (3, .int 0), (0, .ref (a 25)), (1, .ref (a 53)), (2, .int p1)]) hx hb dX10_gather_10 hl (by decide) rfl (fun ls hl => ?_)
  exact J12 FU (0, 0, s37) _ _ _ ⟨hP, hS, lv_sub hl [2, 3, 1, 0] rfl, h⟩
def m_x11_unlike_J240 (x1 : Int32) (s2 : MS) : Option (Int32 × MS) :=
  some (x1, s2)
def m_x11_unlike_J229 (x3 : Int32) (x4 : Int32) (s5 : MS) : Option (Int32 × MS) :=
  if x3 = (-1) then m_x11_unlike_J240 x4 s5 else m_x11_unlike_J240 (-1) s5
def m_x11_unlike_J220 (lr46 : Int32 → Int32 → Int32 → Int32 → Int32 → Int32 → Int32 → MS → Option (Int32 × MS)) (x15 : Int32) (x16 : Int32) (x17 : Int32) (x18 : Int32) (x19 : Int32) (x20 : Int32) (x21 : Int32) (x22 : Int32) (s23 : MS) : Option (Int32 × MS) :=
  lr46 x15 x16 x17 x18 x19 (x22 + x21) (x20 + 1) s23
def m_x11_unlike_J203 (lr46 : Int32 → Int32 → Int32 → Int32 → Int32 → Int32 → Int32 → MS → Option (Int32 × MS)) (x24 : Int32) (x25 : Int32) (x26 : Int32) (x27 : Int32) (x28 : Int32) (x29 : Int32) (x30 : Int32) (x31 : Int32) (x32 : Int32) (x33 : Int32) (s34 : MS) : Option (Int32 × MS) :=
  if x30 < x31 then m_x11_unlike_J220 lr46 x24 x25 x26 x27 (x33 + x32) x29 0 x28 s34 else m_x11_unlike_J220 lr46 x24 x25 x26 x27 (x33 + x32) x29 1 x28 s34
def m_x11_unlike_J186 (lr46 : Int32 → Int32 → Int32 → Int32 → Int32 → Int32 → Int32 → MS → Option (Int32 × MS)) (x36 : Int32) (x37 : Int32) (x38 : Int32) (x39 : Int32) (x40 : Int32) (x41 : Int32) (x42 : Int32) (x43 : Int32) (x44 : Int32) (x45 : Int32) (s46 : MS) : Option (Int32 × MS) :=
  if x43 < x42 then m_x11_unlike_J203 lr46 x36 x37 x38 (x45 + x44) x40 x41 x42 x43 0 x39 s46 else m_x11_unlike_J203 lr46 x36 x37 x38 (x45 + x44) x40 x41 x42 x43 1 x39 s46
def m_x11_unlike_J174 (lr46 : Int32 → Int32 → Int32 → Int32 → Int32 → Int32 → Int32 → MS → Option (Int32 × MS)) (x48 : Int32) (x49 : Int32) (x50 : Int32) (x51 : Int32) (x52 : Int32) (x53 : Int32) (x54 : Int32) (x55 : Int32) (x56 : Int32) (x57 : Int32) (s58 : MS) : Option (Int32 × MS) :=
  if x57 = 0 then m_x11_unlike_J186 lr46 x48 x49 x50 x52 x53 x54 x55 x56 1 x51 s58 else m_x11_unlike_J186 lr46 x48 x49 x50 x52 x53 x54 x55 x56 0 x51 s58
def m_x11_unlike_J153 (lr46 : Int32 → Int32 → Int32 → Int32 → Int32 → Int32 → Int32 → MS → Option (Int32 × MS)) (x60 : Int32) (x61 : Int32) (x62 : Int32) (x63 : Int32) (x64 : Int32) (x65 : Int32) (x66 : Int32) (x67 : Int32) (x68 : Int32) (x69 : Int32) (s70 : MS) : Option (Int32 × MS) :=
  if x69 = 0 then if x63 = x60 then some (if x68 < x67 then x68 else x67, s70) else m_x11_unlike_J174 lr46 x60 x61 x62 x63 x64 x65 x66 x67 x68 x69 s70 else m_x11_unlike_J174 lr46 x60 x61 x62 x63 x64 x65 x66 x67 x68 x69 s70
def m_x11_unlike_J152 (lr46 : Int32 → Int32 → Int32 → Int32 → Int32 → Int32 → Int32 → MS → Option (Int32 × MS)) (x73 : Int32) (x74 : Int32) (x75 : Int32) (x76 : Int32) (x77 : Int32) (x78 : Int32) (x79 : Int32) (x80 : Int32) (x81 : Int32) (s82 : MS) : Option (Int32 × MS) :=
  m_x11_unlike_J153 lr46 x73 x74 x75 x76 x77 x78 x79 x80 x81 0 s82
def m_x11_unlike_J116 (lr46 : Int32 → Int32 → Int32 → Int32 → Int32 → Int32 → Int32 → MS → Option (Int32 × MS)) (x83 : Int32) (x84 : Int32) (x85 : Int32) (x86 : Int32) (x87 : Int32) (x88 : Int32) (x89 : Int32) (x90 : Int32) (x91 : Int32) (s92 : MS) : Option (Int32 × MS) :=
  if x90 = x91 then rdI (gA s92 24) 288 x87 (fun y94 => rdI (gA s92 28) 288 x88 (fun y95 => if y94 = y95 then m_x11_unlike_J153 lr46 x83 x84 x85 x86 x87 x88 x89 x90 x91 1 s92 else m_x11_unlike_J152 lr46 x83 x84 x85 x86 x87 x88 x89 x90 x91 s92)) else m_x11_unlike_J152 lr46 x83 x84 x85 x86 x87 x88 x89 x90 x91 s92
def m_x11_unlike_J91 (lr46 : Int32 → Int32 → Int32 → Int32 → Int32 → Int32 → Int32 → MS → Option (Int32 × MS)) (x97 : Int32) (x98 : Int32) (x99 : Int32) (x100 : Int32) (x101 : Int32) (x102 : Int32) (x103 : Int32) (x104 : Int32) (s105 : MS) : Option (Int32 × MS) :=
  if x99 ≤ x102 then m_x11_unlike_J116 lr46 x97 x98 x99 x100 x101 x102 x103 x104 1000 s105 else rdI (gA s105 27) 288 x102 (fun y107 => m_x11_unlike_J116 lr46 x97 x98 x99 x100 x101 x102 x103 x104 y107 s105)
def m_x11_unlike_J68 (lr46 : Int32 → Int32 → Int32 → Int32 → Int32 → Int32 → Int32 → MS → Option (Int32 × MS)) (x108 : Int32) (x109 : Int32) (x110 : Int32) (x111 : Int32) (x112 : Int32) (x113 : Int32) (x114 : Int32) (s115 : MS) : Option (Int32 × MS) :=
  if x109 ≤ x112 then m_x11_unlike_J91 lr46 x108 x109 x110 x111 x112 x113 x114 1000 s115 else rdI (gA s115 23) 288 x112 (fun y117 => m_x11_unlike_J91 lr46 x108 x109 x110 x111 x112 x113 x114 y117 s115)
def m_x11_unlike_b46 (lr46 : Int32 → Int32 → Int32 → Int32 → Int32 → Int32 → Int32 → MS → Option (Int32 × MS)) (x7 : Int32) (x8 : Int32) (x9 : Int32) (x10 : Int32) (x11 : Int32) (x12 : Int32) (x13 : Int32) (s14 : MS) : Option (Int32 × MS) :=
  if 576 ≤ x13 then m_x11_unlike_J229 x7 x10 s14 else if x11 < x8 then m_x11_unlike_J68 lr46 x7 x8 x9 x10 x11 x12 x13 s14 else if x9 ≤ x12 then m_x11_unlike_J229 x7 x10 s14 else m_x11_unlike_J68 lr46 x7 x8 x9 x10 x11 x12 x13 s14
def m_x11_unlike_L46 (n : Nat) : Int32 → Int32 → Int32 → Int32 → Int32 → Int32 → Int32 → MS → Option (Int32 × MS) := lp (fun _ _ _ _ _ _ _ _ => none) (m_x11_unlike_b46) n
def m_x11_unlike (p0 : Int32) (p1 : Int32) (p2 : Int32) (s : MS) : Option (Int32 × MS) :=
  bn (m_x10_gather p0 s) (fun qr123 => bn (m_x10_gather_v2 p1 qr123.2) (fun qr126 => m_x11_unlike_L46 FU p2 qr123.1 qr126.1 0 0 0 0 qr126.2))
set_option maxHeartbeats 4000000 in
set_option maxRecDepth 100000 in
theorem k_x11_unlike (l : Launch) (D : va_G) (a : Nat → Nat) (p0 : Int32) (p1 : Int32) (p2 : Int32) (sz : Nat) (s : MS) (o : (Int32 × MS)) (h : m_x11_unlike p0 p1 p2 s = some o) : yWi l yX11_unlike cX11_unlike 13 (some .int) { frames := 3, cells := 0, slots := 0, locals := 180 } D sz [.ref (a 0), .int p0, .int p1, .int p2] (CS D a s) (CS D a o.2) o.1 := by
  refine Met.ofW (cc := cX11_unlike) (maxL := 13) (ret := (some .int)) (by decide) rfl ?_
  intro p e s₀ m args below meth c s₁ B hml hv
  obtain ⟨rfl, ⟨hsz, hP, hK, hD0⟩, hN⟩ := hv
  have hx := B.exec
  have hb := B.bytes
  have hr := B.returns
  have hts := atoms_spec (ws := wz yX11_unlike cX11_unlike 13 (some .int)) B.pre
  have ht : ∀ w ∈ lw_gd, w.before _ s₀ = true := fun w h => hts w (List.mem_cons_of_mem _ h)
  have hown : s₀.vm.findClass RX11 = some m.cls := findClass_of_methodNamed B.named
  have hlocks := B.notSynchronized
  subst hsz
  have hD := hD0.self (sz := s₀.heap.size)
  generalize hAe : va_A (CS D a s) s₀.heap.size = A at hD ⊢
  have hA : ∀ q : Nat, s₀.heap.size ≤ q → A q := fun q h => by rw [← hAe]; exact Or.inr h
  have hS : va_S A s₀.heap s₀.heap [] := va_S.rf
  have hDD : ∀ t : MS, va_D A (CS D a t) := fun t => CW_D t hD
  have hl := lv_entry ([.ref (a 0), .int p0, .int p1, .int p2]) (n := 13) (Nat.le_of_ble_eq_true rfl)
  rw [lg_entry_eq]
  generalize (lg_sl ([.ref (a 0), .int p0, .int p1, .int p2]) ++ List.replicate (13 - (lg_sl ([.ref (a 0), .int p0, .int p1, .int p2])).length) Slot.unset).toArray = ls at hl ⊢
  have hl : lv_has ls 13 [(0, .ref (a 0)), (1, .int p0), (2, .int p1), (3, .int p2)] := hl
  unfold m_x11_unlike at h
  refine y_head (pcJ := 240) (σ := Int32 × MS) (fun u H locs ls => va_P D vwCl (CS D a u.2) H ∧ va_S A s₀.heap H locs ∧ lv_has ls 13 [] ∧ m_x11_unlike_J240 u.1 u.2 = some o) (fun u => [.int u.1]) (fun u H locs ls hI => ?_) (fun J240 => ?_)
  · obtain ⟨hP, hS, hl, h⟩ := hI
    obtain ⟨x1, s2⟩ := u
    have hP : va_P D vwCl (CS D a s2) H := hP
    have hl : lv_has ls 13 [] := hl
    have h : m_x11_unlike_J240 x1 s2 = some o := h
    unfold m_x11_unlike_J240 at h
    obtain rfl := Option.some.inj h
    exact W.iret (v := x1) hx hb hr (fun t ht hW => ⟨⟨_, (), rfl, rfl, by rw [ht]; exact hP, va_K.moved hW.alike hK, hDD _⟩, hS.F ht⟩) hS.2.2 dX11_unlike_240
  refine y_head (pcJ := 229) (σ := Int32 × Int32 × MS) (fun u H locs ls => va_P D vwCl (CS D a u.2.2) H ∧ va_S A s₀.heap H locs ∧ lv_has ls 13 [(3, .int u.1), (6, .int u.2.1)] ∧ m_x11_unlike_J229 u.1 u.2.1 u.2.2 = some o) (fun u => []) (fun u H locs ls hI => ?_) (fun J229 => ?_)
  · obtain ⟨hP, hS, hl, h⟩ := hI
    obtain ⟨x3, x4, s5⟩ := u
    have hP : va_P D vwCl (CS D a s5) H := hP
    have hl : lv_has ls 13 [(3, .int x3), (6, .int x4)] := hl
    have h : m_x11_unlike_J229 x3 x4 s5 = some o := h
    unfold m_x11_unlike_J229 at h
    refine lv_iload_n hx hb dX11_unlike_229 rfl (lv_at hl 0 rfl) ?_
    refine lv_iconst (v := (-1)) hx hb dX11_unlike_230 (by decide) ?_
    refine lv_icmp_ne (tgt := 239) hx hb dX11_unlike_231 (by decide) (fun c6 => ?_) (fun c6 => ?_)
    · have h := if_f c6 h
      refine lv_iconst (v := (-1)) hx hb dX11_unlike_239 (by decide) ?_
      exact J240 ((-1), s5) _ _ _ ⟨hP, hS, lv_sub hl [] rfl, h⟩
    · have h := if_t c6 h
      refine lv_iload hx hb dX11_unlike_234 (lv_at hl 1 rfl) ?_
      refine lv_goto (tgt := 240) hx hb dX11_unlike_236 (by decide) ?_
      exact J240 (x4, s5) _ _ _ ⟨hP, hS, lv_sub hl [] rfl, h⟩
  refine y_loop (pcJ := 46) (σ := Int32 × Int32 × Int32 × Int32 × Int32 × Int32 × Int32 × MS) (fun n u H locs ls => va_P D vwCl (CS D a u.2.2.2.2.2.2.2) H ∧ va_S A s₀.heap H locs ∧ lv_has ls 13 [(0, .ref (a 0)), (3, .int u.1), (4, .int u.2.1), (5, .int u.2.2.1), (6, .int u.2.2.2.1), (7, .int u.2.2.2.2.1), (8, .int u.2.2.2.2.2.1), (9, .int u.2.2.2.2.2.2.1)] ∧ m_x11_unlike_L46 n u.1 u.2.1 u.2.2.1 u.2.2.2.1 u.2.2.2.2.1 u.2.2.2.2.2.1 u.2.2.2.2.2.2.1 u.2.2.2.2.2.2.2 = some o) (fun u => []) (fun u H locs ls hI => by obtain ⟨_, _, _, h⟩ := hI; cases h) (fun n46 ih46 u H locs ls hI => ?_) (fun J46 => ?_)
  · obtain ⟨hP, hS, hl, h⟩ := hI
    obtain ⟨x7, x8, x9, x10, x11, x12, x13, s14⟩ := u
    have hP : va_P D vwCl (CS D a s14) H := hP
    have hl : lv_has ls 13 [(0, .ref (a 0)), (3, .int x7), (4, .int x8), (5, .int x9), (6, .int x10), (7, .int x11), (8, .int x12), (9, .int x13)] := hl
    have h : m_x11_unlike_b46 (m_x11_unlike_L46 n46) x7 x8 x9 x10 x11 x12 x13 s14 = some o := h
    unfold m_x11_unlike_b46 at h
    refine y_head (pcJ := 220) (σ := Int32 × Int32 × Int32 × Int32 × Int32 × Int32 × Int32 × Int32 × MS) (fun u H locs ls => va_P D vwCl (CS D a u.2.2.2.2.2.2.2.2) H ∧ va_S A s₀.heap H locs ∧ lv_has ls 13 [(0, .ref (a 0)), (3, .int u.1), (4, .int u.2.1), (5, .int u.2.2.1), (6, .int u.2.2.2.1), (7, .int u.2.2.2.2.1), (9, .int u.2.2.2.2.2.1)] ∧ m_x11_unlike_J220 (m_x11_unlike_L46 n46) u.1 u.2.1 u.2.2.1 u.2.2.2.1 u.2.2.2.2.1 u.2.2.2.2.2.1 u.2.2.2.2.2.2.1 u.2.2.2.2.2.2.2.1 u.2.2.2.2.2.2.2.2 = some o) (fun u => [.int u.2.2.2.2.2.2.1, .int u.2.2.2.2.2.2.2.1]) (fun u H locs ls hI => ?_) (fun J220 => ?_)
    · obtain ⟨hP, hS, hl, h⟩ := hI
      obtain ⟨x15, x16, x17, x18, x19, x20, x21, x22, s23⟩ := u
      have hP : va_P D vwCl (CS D a s23) H := hP
      have hl : lv_has ls 13 [(0, .ref (a 0)), (3, .int x15), (4, .int x16), (5, .int x17), (6, .int x18), (7, .int x19), (9, .int x20)] := hl
      have h : m_x11_unlike_J220 (m_x11_unlike_L46 n46) x15 x16 x17 x18 x19 x20 x21 x22 s23 = some o := h
      unfold m_x11_unlike_J220 at h
      refine lv_iadd hx hb dX11_unlike_220 ?_
      refine lv_istore (lv' := [(8, .int (x22 + x21)), (0, .ref (a 0)), (3, .int x15), (4, .int x16), (5, .int x17), (6, .int x18), (7, .int x19), (9, .int x20)]) hx hb dX11_unlike_221 hl (by decide) rfl (fun ls hl => ?_)
      refine lv_iinc (v := x20 + 1) (lv' := [(9, .int (x20 + 1)), (8, .int (x22 + x21)), (0, .ref (a 0)), (3, .int x15), (4, .int x16), (5, .int x17), (6, .int x18), (7, .int x19)]) hx hb dX11_unlike_223 hl (k := 7) rfl rfl (by decide) rfl (fun ls hl => ?_)
      refine lv_goto (tgt := 46) hx hb dX11_unlike_226 (by decide) ?_
      exact ih46 (x15, x16, x17, x18, x19, x22 + x21, x20 + 1, s23) _ _ _ ⟨hP, hS, lv_sub hl [2, 3, 4, 5, 6, 7, 1, 0] rfl, h⟩
    refine y_head (pcJ := 203) (σ := Int32 × Int32 × Int32 × Int32 × Int32 × Int32 × Int32 × Int32 × Int32 × Int32 × MS) (fun u H locs ls => va_P D vwCl (CS D a u.2.2.2.2.2.2.2.2.2.2) H ∧ va_S A s₀.heap H locs ∧ lv_has ls 13 [(0, .ref (a 0)), (3, .int u.1), (4, .int u.2.1), (5, .int u.2.2.1), (6, .int u.2.2.2.1), (8, .int u.2.2.2.2.1), (9, .int u.2.2.2.2.2.1), (10, .int u.2.2.2.2.2.2.1), (11, .int u.2.2.2.2.2.2.2.1)] ∧ m_x11_unlike_J203 (m_x11_unlike_L46 n46) u.1 u.2.1 u.2.2.1 u.2.2.2.1 u.2.2.2.2.1 u.2.2.2.2.2.1 u.2.2.2.2.2.2.1 u.2.2.2.2.2.2.2.1 u.2.2.2.2.2.2.2.2.1 u.2.2.2.2.2.2.2.2.2.1 u.2.2.2.2.2.2.2.2.2.2 = some o) (fun u => [.int u.2.2.2.2.2.2.2.2.1, .int u.2.2.2.2.2.2.2.2.2.1]) (fun u H locs ls hI => ?_) (fun J203 => ?_)
    · obtain ⟨hP, hS, hl, h⟩ := hI
      obtain ⟨x24, x25, x26, x27, x28, x29, x30, x31, x32, x33, s34⟩ := u
      have hP : va_P D vwCl (CS D a s34) H := hP
      have hl : lv_has ls 13 [(0, .ref (a 0)), (3, .int x24), (4, .int x25), (5, .int x26), (6, .int x27), (8, .int x28), (9, .int x29), (10, .int x30), (11, .int x31)] := hl
      have h : m_x11_unlike_J203 (m_x11_unlike_L46 n46) x24 x25 x26 x27 x28 x29 x30 x31 x32 x33 s34 = some o := h
      unfold m_x11_unlike_J203 at h
      refine lv_iadd hx hb dX11_unlike_203 ?_
      refine lv_istore (lv' := [(7, .int (x33 + x32)), (0, .ref (a 0)), (3, .int x24), (4, .int x25), (5, .int x26), (6, .int x27), (8, .int x28), (9, .int x29), (10, .int x30), (11, .int x31)]) hx hb dX11_unlike_204 hl (by decide) rfl (fun ls hl => ?_)
      refine lv_iload hx hb dX11_unlike_206 (lv_at hl 6 rfl) ?_
      refine lv_iload hx hb dX11_unlike_208 (lv_at hl 9 rfl) ?_
      refine lv_iload hx hb dX11_unlike_210 (lv_at hl 8 rfl) ?_
      refine lv_icmp_gt (tgt := 219) hx hb dX11_unlike_212 (by decide) (fun c35 => ?_) (fun c35 => ?_)
      · have h := if_t c35 h
        refine lv_iconst (v := 0) hx hb dX11_unlike_219 (by decide) ?_
        exact J220 (x24, x25, x26, x27, x33 + x32, x29, 0, x28, s34) _ _ _ ⟨hP, hS, lv_sub hl [1, 2, 3, 4, 5, 0, 7] rfl, h⟩
      · have h := if_f c35 h
        refine lv_iconst (v := 1) hx hb dX11_unlike_215 (by decide) ?_
        refine lv_goto (tgt := 220) hx hb dX11_unlike_216 (by decide) ?_
        exact J220 (x24, x25, x26, x27, x33 + x32, x29, 1, x28, s34) _ _ _ ⟨hP, hS, lv_sub hl [1, 2, 3, 4, 5, 0, 7] rfl, h⟩
    refine y_head (pcJ := 186) (σ := Int32 × Int32 × Int32 × Int32 × Int32 × Int32 × Int32 × Int32 × Int32 × Int32 × MS) (fun u H locs ls => va_P D vwCl (CS D a u.2.2.2.2.2.2.2.2.2.2) H ∧ va_S A s₀.heap H locs ∧ lv_has ls 13 [(0, .ref (a 0)), (3, .int u.1), (4, .int u.2.1), (5, .int u.2.2.1), (7, .int u.2.2.2.1), (8, .int u.2.2.2.2.1), (9, .int u.2.2.2.2.2.1), (10, .int u.2.2.2.2.2.2.1), (11, .int u.2.2.2.2.2.2.2.1)] ∧ m_x11_unlike_J186 (m_x11_unlike_L46 n46) u.1 u.2.1 u.2.2.1 u.2.2.2.1 u.2.2.2.2.1 u.2.2.2.2.2.1 u.2.2.2.2.2.2.1 u.2.2.2.2.2.2.2.1 u.2.2.2.2.2.2.2.2.1 u.2.2.2.2.2.2.2.2.2.1 u.2.2.2.2.2.2.2.2.2.2 = some o) (fun u => [.int u.2.2.2.2.2.2.2.2.1, .int u.2.2.2.2.2.2.2.2.2.1]) (fun u H locs ls hI => ?_) (fun J186 => ?_)
    · obtain ⟨hP, hS, hl, h⟩ := hI
      obtain ⟨x36, x37, x38, x39, x40, x41, x42, x43, x44, x45, s46⟩ := u
      have hP : va_P D vwCl (CS D a s46) H := hP
      have hl : lv_has ls 13 [(0, .ref (a 0)), (3, .int x36), (4, .int x37), (5, .int x38), (7, .int x39), (8, .int x40), (9, .int x41), (10, .int x42), (11, .int x43)] := hl
      have h : m_x11_unlike_J186 (m_x11_unlike_L46 n46) x36 x37 x38 x39 x40 x41 x42 x43 x44 x45 s46 = some o := h
      unfold m_x11_unlike_J186 at h
      refine lv_iadd hx hb dX11_unlike_186 ?_
      refine lv_istore (lv' := [(6, .int (x45 + x44)), (0, .ref (a 0)), (3, .int x36), (4, .int x37), (5, .int x38), (7, .int x39), (8, .int x40), (9, .int x41), (10, .int x42), (11, .int x43)]) hx hb dX11_unlike_187 hl (by decide) rfl (fun ls hl => ?_)
      refine lv_iload hx hb dX11_unlike_189 (lv_at hl 5 rfl) ?_
      refine lv_iload hx hb dX11_unlike_191 (lv_at hl 8 rfl) ?_
      refine lv_iload hx hb dX11_unlike_193 (lv_at hl 9 rfl) ?_
      refine lv_icmp_gt (tgt := 202) hx hb dX11_unlike_195 (by decide) (fun c47 => ?_) (fun c47 => ?_)
      · have h := if_t c47 h
        refine lv_iconst (v := 0) hx hb dX11_unlike_202 (by decide) ?_
        exact J203 (x36, x37, x38, x45 + x44, x40, x41, x42, x43, 0, x39, s46) _ _ _ ⟨hP, hS, lv_sub hl [1, 2, 3, 4, 0, 6, 7, 8, 9] rfl, h⟩
      · have h := if_f c47 h
        refine lv_iconst (v := 1) hx hb dX11_unlike_198 (by decide) ?_
        refine lv_goto (tgt := 203) hx hb dX11_unlike_199 (by decide) ?_
        exact J203 (x36, x37, x38, x45 + x44, x40, x41, x42, x43, 1, x39, s46) _ _ _ ⟨hP, hS, lv_sub hl [1, 2, 3, 4, 0, 6, 7, 8, 9] rfl, h⟩
    refine y_head (pcJ := 174) (σ := Int32 × Int32 × Int32 × Int32 × Int32 × Int32 × Int32 × Int32 × Int32 × Int32 × MS) (fun u H locs ls => va_P D vwCl (CS D a u.2.2.2.2.2.2.2.2.2.2) H ∧ va_S A s₀.heap H locs ∧ lv_has ls 13 [(0, .ref (a 0)), (3, .int u.1), (4, .int u.2.1), (5, .int u.2.2.1), (6, .int u.2.2.2.1), (7, .int u.2.2.2.2.1), (8, .int u.2.2.2.2.2.1), (9, .int u.2.2.2.2.2.2.1), (10, .int u.2.2.2.2.2.2.2.1), (11, .int u.2.2.2.2.2.2.2.2.1), (12, .int u.2.2.2.2.2.2.2.2.2.1)] ∧ m_x11_unlike_J174 (m_x11_unlike_L46 n46) u.1 u.2.1 u.2.2.1 u.2.2.2.1 u.2.2.2.2.1 u.2.2.2.2.2.1 u.2.2.2.2.2.2.1 u.2.2.2.2.2.2.2.1 u.2.2.2.2.2.2.2.2.1 u.2.2.2.2.2.2.2.2.2.1 u.2.2.2.2.2.2.2.2.2.2 = some o) (fun u => []) (fun u H locs ls hI => ?_) (fun J174 => ?_)
    · obtain ⟨hP, hS, hl, h⟩ := hI
      obtain ⟨x48, x49, x50, x51, x52, x53, x54, x55, x56, x57, s58⟩ := u
      have hP : va_P D vwCl (CS D a s58) H := hP
      have hl : lv_has ls 13 [(0, .ref (a 0)), (3, .int x48), (4, .int x49), (5, .int x50), (6, .int x51), (7, .int x52), (8, .int x53), (9, .int x54), (10, .int x55), (11, .int x56), (12, .int x57)] := hl
      have h : m_x11_unlike_J174 (m_x11_unlike_L46 n46) x48 x49 x50 x51 x52 x53 x54 x55 x56 x57 s58 = some o := h
      unfold m_x11_unlike_J174 at h
      refine lv_iload hx hb dX11_unlike_174 (lv_at hl 4 rfl) ?_
      refine lv_iload hx hb dX11_unlike_176 (lv_at hl 10 rfl) ?_
      refine lv_if_eq (tgt := 185) hx hb dX11_unlike_178 (by decide) (fun c59 => ?_) (fun c59 => ?_)
      · have h := if_t c59 h
        refine lv_iconst (v := 1) hx hb dX11_unlike_185 (by decide) ?_
        exact J186 (x48, x49, x50, x52, x53, x54, x55, x56, 1, x51, s58) _ _ _ ⟨hP, hS, lv_sub hl [0, 1, 2, 3, 5, 6, 7, 8, 9] rfl, h⟩
      · have h := if_f c59 h
        refine lv_iconst (v := 0) hx hb dX11_unlike_181 (by decide) ?_
        refine lv_goto (tgt := 186) hx hb dX11_unlike_182 (by decide) ?_
        exact J186 (x48, x49, x50, x52, x53, x54, x55, x56, 0, x51, s58) _ _ _ ⟨hP, hS, lv_sub hl [0, 1, 2, 3, 5, 6, 7, 8, 9] rfl, h⟩
    refine y_head (pcJ := 153) (σ := Int32 × Int32 × Int32 × Int32 × Int32 × Int32 × Int32 × Int32 × Int32 × Int32 × MS) (fun u H locs ls => va_P D vwCl (CS D a u.2.2.2.2.2.2.2.2.2.2) H ∧ va_S A s₀.heap H locs ∧ lv_has ls 13 [(0, .ref (a 0)), (3, .int u.1), (4, .int u.2.1), (5, .int u.2.2.1), (6, .int u.2.2.2.1), (7, .int u.2.2.2.2.1), (8, .int u.2.2.2.2.2.1), (9, .int u.2.2.2.2.2.2.1), (10, .int u.2.2.2.2.2.2.2.1), (11, .int u.2.2.2.2.2.2.2.2.1)] ∧ m_x11_unlike_J153 (m_x11_unlike_L46 n46) u.1 u.2.1 u.2.2.1 u.2.2.2.1 u.2.2.2.2.1 u.2.2.2.2.2.1 u.2.2.2.2.2.2.1 u.2.2.2.2.2.2.2.1 u.2.2.2.2.2.2.2.2.1 u.2.2.2.2.2.2.2.2.2.1 u.2.2.2.2.2.2.2.2.2.2 = some o) (fun u => [.int u.2.2.2.2.2.2.2.2.2.1]) (fun u H locs ls hI => ?_) (fun J153 => ?_)
    · obtain ⟨hP, hS, hl, h⟩ := hI
      obtain ⟨x60, x61, x62, x63, x64, x65, x66, x67, x68, x69, s70⟩ := u
      have hP : va_P D vwCl (CS D a s70) H := hP
      have hl : lv_has ls 13 [(0, .ref (a 0)), (3, .int x60), (4, .int x61), (5, .int x62), (6, .int x63), (7, .int x64), (8, .int x65), (9, .int x66), (10, .int x67), (11, .int x68)] := hl
      have h : m_x11_unlike_J153 (m_x11_unlike_L46 n46) x60 x61 x62 x63 x64 x65 x66 x67 x68 x69 s70 = some o := h
      unfold m_x11_unlike_J153 at h
      refine lv_istore (lv' := [(12, .int x69), (0, .ref (a 0)), (3, .int x60), (4, .int x61), (5, .int x62), (6, .int x63), (7, .int x64), (8, .int x65), (9, .int x66), (10, .int x67), (11, .int x68)]) hx hb dX11_unlike_153 hl (by decide) rfl (fun ls hl => ?_)
      refine lv_iload hx hb dX11_unlike_155 (lv_at hl 0 rfl) ?_
      refine lv_if_ne (tgt := 174) hx hb dX11_unlike_157 (by decide) (fun c71 => ?_) (fun c71 => ?_)
      · have h := if_f c71 h
        exact J174 (x60, x61, x62, x63, x64, x65, x66, x67, x68, x69, s70) _ _ _ ⟨hP, hS, lv_sub hl [1, 2, 3, 4, 5, 6, 7, 8, 9, 10, 0] rfl, h⟩
      · have h := if_t c71 h
        refine lv_iload hx hb dX11_unlike_160 (lv_at hl 5 rfl) ?_
        refine lv_iload_n hx hb dX11_unlike_162 rfl (lv_at hl 2 rfl) ?_
        refine lv_icmp_ne (tgt := 174) hx hb dX11_unlike_163 (by decide) (fun c72 => ?_) (fun c72 => ?_)
        · have h := if_f c72 h
          exact J174 (x60, x61, x62, x63, x64, x65, x66, x67, x68, x69, s70) _ _ _ ⟨hP, hS, lv_sub hl [1, 2, 3, 4, 5, 6, 7, 8, 9, 10, 0] rfl, h⟩
        · have h := if_t c72 h
          refine lv_iload hx hb dX11_unlike_166 (lv_at hl 9 rfl) ?_
          refine lv_iload hx hb dX11_unlike_168 (lv_at hl 10 rfl) ?_
          refine va_mmin hx hb (by rw [hml]; exact hl.1.symm) hown (ht _ ml_X11_367) (ht _ st_mmin) (ht _ in_math) (ht _ co_mmin) (Nat.le_of_ble_eq_true rfl) (Nat.le_of_ble_eq_true rfl) (Nat.le_of_ble_eq_true rfl) (Nat.le_of_ble_eq_true rfl) dX11_unlike_170 ?_
          obtain rfl := Option.some.inj h
          exact W.iret (v := if x68 < x67 then x68 else x67) hx hb hr (fun t ht hW => ⟨⟨_, (), rfl, rfl, by rw [ht]; exact hP, va_K.moved hW.alike hK, hDD _⟩, hS.F ht⟩) hS.2.2 dX11_unlike_173
    refine y_head (pcJ := 152) (σ := Int32 × Int32 × Int32 × Int32 × Int32 × Int32 × Int32 × Int32 × Int32 × MS) (fun u H locs ls => va_P D vwCl (CS D a u.2.2.2.2.2.2.2.2.2) H ∧ va_S A s₀.heap H locs ∧ lv_has ls 13 [(0, .ref (a 0)), (3, .int u.1), (4, .int u.2.1), (5, .int u.2.2.1), (6, .int u.2.2.2.1), (7, .int u.2.2.2.2.1), (8, .int u.2.2.2.2.2.1), (9, .int u.2.2.2.2.2.2.1), (10, .int u.2.2.2.2.2.2.2.1), (11, .int u.2.2.2.2.2.2.2.2.1)] ∧ m_x11_unlike_J152 (m_x11_unlike_L46 n46) u.1 u.2.1 u.2.2.1 u.2.2.2.1 u.2.2.2.2.1 u.2.2.2.2.2.1 u.2.2.2.2.2.2.1 u.2.2.2.2.2.2.2.1 u.2.2.2.2.2.2.2.2.1 u.2.2.2.2.2.2.2.2.2 = some o) (fun u => []) (fun u H locs ls hI => ?_) (fun J152 => ?_)
    · obtain ⟨hP, hS, hl, h⟩ := hI
      obtain ⟨x73, x74, x75, x76, x77, x78, x79, x80, x81, s82⟩ := u
      have hP : va_P D vwCl (CS D a s82) H := hP
      have hl : lv_has ls 13 [(0, .ref (a 0)), (3, .int x73), (4, .int x74), (5, .int x75), (6, .int x76), (7, .int x77), (8, .int x78), (9, .int x79), (10, .int x80), (11, .int x81)] := hl
      have h : m_x11_unlike_J152 (m_x11_unlike_L46 n46) x73 x74 x75 x76 x77 x78 x79 x80 x81 s82 = some o := h
      unfold m_x11_unlike_J152 at h
      refine lv_iconst (v := 0) hx hb dX11_unlike_152 (by decide) ?_
      exact J153 (x73, x74, x75, x76, x77, x78, x79, x80, x81, 0, s82) _ _ _ ⟨hP, hS, lv_sub hl [0, 1, 2, 3, 4, 5, 6, 7, 8, 9] rfl, h⟩
    refine y_head (pcJ := 116) (σ := Int32 × Int32 × Int32 × Int32 × Int32 × Int32 × Int32 × Int32 × Int32 × MS) (fun u H locs ls => va_P D vwCl (CS D a u.2.2.2.2.2.2.2.2.2) H ∧ va_S A s₀.heap H locs ∧ lv_has ls 13 [(0, .ref (a 0)), (3, .int u.1), (4, .int u.2.1), (5, .int u.2.2.1), (6, .int u.2.2.2.1), (7, .int u.2.2.2.2.1), (8, .int u.2.2.2.2.2.1), (9, .int u.2.2.2.2.2.2.1), (10, .int u.2.2.2.2.2.2.2.1)] ∧ m_x11_unlike_J116 (m_x11_unlike_L46 n46) u.1 u.2.1 u.2.2.1 u.2.2.2.1 u.2.2.2.2.1 u.2.2.2.2.2.1 u.2.2.2.2.2.2.1 u.2.2.2.2.2.2.2.1 u.2.2.2.2.2.2.2.2.1 u.2.2.2.2.2.2.2.2.2 = some o) (fun u => [.int u.2.2.2.2.2.2.2.2.1]) (fun u H locs ls hI => ?_) (fun J116 => ?_)
    · obtain ⟨hP, hS, hl, h⟩ := hI
      obtain ⟨x83, x84, x85, x86, x87, x88, x89, x90, x91, s92⟩ := u
      have hP : va_P D vwCl (CS D a s92) H := hP
      have hl : lv_has ls 13 [(0, .ref (a 0)), (3, .int x83), (4, .int x84), (5, .int x85), (6, .int x86), (7, .int x87), (8, .int x88), (9, .int x89), (10, .int x90)] := hl
      have h : m_x11_unlike_J116 (m_x11_unlike_L46 n46) x83 x84 x85 x86 x87 x88 x89 x90 x91 s92 = some o := h
      unfold m_x11_unlike_J116 at h
      refine lv_istore (lv' := [(11, .int x91), (0, .ref (a 0)), (3, .int x83), (4, .int x84), (5, .int x85), (6, .int x86), (7, .int x87), (8, .int x88), (9, .int x89), (10, .int x90)]) hx hb dX11_unlike_116 hl (by decide) rfl (fun ls hl => ?_)
      refine lv_iload hx hb dX11_unlike_118 (lv_at hl 9 rfl) ?_
      refine lv_iload hx hb dX11_unlike_120 (lv_at hl 0 rfl) ?_
      refine lv_icmp_ne (tgt := 152) hx hb dX11_unlike_122 (by decide) (fun c93 => ?_) (fun c93 => ?_)
      · have h := if_f c93 h
        exact J152 (x83, x84, x85, x86, x87, x88, x89, x90, x91, s92) _ _ _ ⟨hP, hS, lv_sub hl [1, 2, 3, 4, 5, 6, 7, 8, 9, 0] rfl, h⟩
      · have h := if_t c93 h
        refine lv_aload_n hx hb dX11_unlike_125 rfl (lv_at hl 1 rfl) ?_
        refine va_get (D := D) (ci := 11) (v := .ref (a 21)) (C := RX11) (T := TX11) (N := 13) hx hb ht inX11 hown hK hP 0 CW_0 rfl 5 (by decide) (ht (.fieldLink RX11 49 "CloneVolumes" "walk" "LCloneVolumes$Walk;") fl_X11_49) (fun _ h9 => h9) rfl dX11_unlike_126 ?_
        refine va_get (D := D) (ci := 10) (v := .ref (a 24)) (C := RX10) (T := TX10) (N := 4) hx hb ht inX10 hown hK hP 21 CW_21 rfl 3 (by decide) (ht (.fieldLink RX11 226 "CloneVolumes$Walk" "values" "[I") fl_X11_226) (fun _ h9 => h9) rfl dX11_unlike_129 ?_
        refine lv_iload hx hb dX11_unlike_132 (lv_at hl 6 rfl) ?_
        obtain ⟨y94, ey94, iy94, h⟩ := rdI_e h
        refine ya_iald hx hb hK hP 24 0 CW_24 rfl ey94 iy94 dX11_unlike_134 ?_
        refine lv_aload_n hx hb dX11_unlike_135 rfl (lv_at hl 1 rfl) ?_
        refine va_get (D := D) (ci := 11) (v := .ref (a 25)) (C := RX11) (T := TX11) (N := 13) hx hb ht inX11 hown hK hP 0 CW_0 rfl 6 (by decide) (ht (.fieldLink RX11 53 "CloneVolumes" "otherWalk" "LCloneVolumes$Walk;") fl_X11_53) (fun _ h9 => h9) rfl dX11_unlike_136 ?_
        refine va_get (D := D) (ci := 10) (v := .ref (a 28)) (C := RX10) (T := TX10) (N := 4) hx hb ht inX10 hown hK hP 25 CW_25 rfl 3 (by decide) (ht (.fieldLink RX11 226 "CloneVolumes$Walk" "values" "[I") fl_X11_226) (fun _ h9 => h9) rfl dX11_unlike_139 ?_
        refine lv_iload hx hb dX11_unlike_142 (lv_at hl 7 rfl) ?_
        obtain ⟨y95, ey95, iy95, h⟩ := rdI_e h
        refine ya_iald hx hb hK hP 28 0 CW_28 rfl ey95 iy95 dX11_unlike_144 ?_
        refine lv_icmp_ne (tgt := 152) hx hb dX11_unlike_145 (by decide) (fun c96 => ?_) (fun c96 => ?_)
        · have h := if_f c96 h
          exact J152 (x83, x84, x85, x86, x87, x88, x89, x90, x91, s92) _ _ _ ⟨hP, hS, lv_sub hl [1, 2, 3, 4, 5, 6, 7, 8, 9, 0] rfl, h⟩
        · have h := if_t c96 h
          refine lv_iconst (v := 1) hx hb dX11_unlike_148 (by decide) ?_
          refine lv_goto (tgt := 153) hx hb dX11_unlike_149 (by decide) ?_
          exact J153 (x83, x84, x85, x86, x87, x88, x89, x90, x91, 1, s92) _ _ _ ⟨hP, hS, lv_sub hl [1, 2, 3, 4, 5, 6, 7, 8, 9, 0] rfl, h⟩
    refine y_head (pcJ := 91) (σ := Int32 × Int32 × Int32 × Int32 × Int32 × Int32 × Int32 × Int32 × MS) (fun u H locs ls => va_P D vwCl (CS D a u.2.2.2.2.2.2.2.2) H ∧ va_S A s₀.heap H locs ∧ lv_has ls 13 [(0, .ref (a 0)), (3, .int u.1), (4, .int u.2.1), (5, .int u.2.2.1), (6, .int u.2.2.2.1), (7, .int u.2.2.2.2.1), (8, .int u.2.2.2.2.2.1), (9, .int u.2.2.2.2.2.2.1)] ∧ m_x11_unlike_J91 (m_x11_unlike_L46 n46) u.1 u.2.1 u.2.2.1 u.2.2.2.1 u.2.2.2.2.1 u.2.2.2.2.2.1 u.2.2.2.2.2.2.1 u.2.2.2.2.2.2.2.1 u.2.2.2.2.2.2.2.2 = some o) (fun u => [.int u.2.2.2.2.2.2.2.1]) (fun u H locs ls hI => ?_) (fun J91 => ?_)
    · obtain ⟨hP, hS, hl, h⟩ := hI
      obtain ⟨x97, x98, x99, x100, x101, x102, x103, x104, s105⟩ := u
      have hP : va_P D vwCl (CS D a s105) H := hP
      have hl : lv_has ls 13 [(0, .ref (a 0)), (3, .int x97), (4, .int x98), (5, .int x99), (6, .int x100), (7, .int x101), (8, .int x102), (9, .int x103)] := hl
      have h : m_x11_unlike_J91 (m_x11_unlike_L46 n46) x97 x98 x99 x100 x101 x102 x103 x104 s105 = some o := h
      unfold m_x11_unlike_J91 at h
      refine lv_istore (lv' := [(10, .int x104), (0, .ref (a 0)), (3, .int x97), (4, .int x98), (5, .int x99), (6, .int x100), (7, .int x101), (8, .int x102), (9, .int x103)]) hx hb dX11_unlike_91 hl (by decide) rfl (fun ls hl => ?_)
      refine lv_iload hx hb dX11_unlike_93 (lv_at hl 7 rfl) ?_
      refine lv_iload hx hb dX11_unlike_95 (lv_at hl 4 rfl) ?_
      refine lv_icmp_ge (tgt := 113) hx hb dX11_unlike_97 (by decide) (fun c106 => ?_) (fun c106 => ?_)
      · have h := if_t c106 h
        refine lv_sipush (v := 1000) hx hb dX11_unlike_113 (by decide) ?_
        exact J116 (x97, x98, x99, x100, x101, x102, x103, x104, 1000, s105) _ _ _ ⟨hP, hS, lv_sub hl [1, 2, 3, 4, 5, 6, 7, 8, 0] rfl, h⟩
      · have h := if_f c106 h
        refine lv_aload_n hx hb dX11_unlike_100 rfl (lv_at hl 1 rfl) ?_
        refine va_get (D := D) (ci := 11) (v := .ref (a 25)) (C := RX11) (T := TX11) (N := 13) hx hb ht inX11 hown hK hP 0 CW_0 rfl 6 (by decide) (ht (.fieldLink RX11 53 "CloneVolumes" "otherWalk" "LCloneVolumes$Walk;") fl_X11_53) (fun _ h9 => h9) rfl dX11_unlike_101 ?_
        refine va_get (D := D) (ci := 10) (v := .ref (a 27)) (C := RX10) (T := TX10) (N := 4) hx hb ht inX10 hown hK hP 25 CW_25 rfl 2 (by decide) (ht (.fieldLink RX11 225 "CloneVolumes$Walk" "keys" "[I") fl_X11_225) (fun _ h9 => h9) rfl dX11_unlike_104 ?_
        refine lv_iload hx hb dX11_unlike_107 (lv_at hl 7 rfl) ?_
        obtain ⟨y107, ey107, iy107, h⟩ := rdI_e h
        refine ya_iald hx hb hK hP 27 0 CW_27 rfl ey107 iy107 dX11_unlike_109 ?_
        refine lv_goto (tgt := 116) hx hb dX11_unlike_110 (by decide) ?_
        exact J116 (x97, x98, x99, x100, x101, x102, x103, x104, y107, s105) _ _ _ ⟨hP, hS, lv_sub hl [1, 2, 3, 4, 5, 6, 7, 8, 0] rfl, h⟩
    refine y_head (pcJ := 68) (σ := Int32 × Int32 × Int32 × Int32 × Int32 × Int32 × Int32 × MS) (fun u H locs ls => va_P D vwCl (CS D a u.2.2.2.2.2.2.2) H ∧ va_S A s₀.heap H locs ∧ lv_has ls 13 [(0, .ref (a 0)), (3, .int u.1), (4, .int u.2.1), (5, .int u.2.2.1), (6, .int u.2.2.2.1), (7, .int u.2.2.2.2.1), (8, .int u.2.2.2.2.2.1), (9, .int u.2.2.2.2.2.2.1)] ∧ m_x11_unlike_J68 (m_x11_unlike_L46 n46) u.1 u.2.1 u.2.2.1 u.2.2.2.1 u.2.2.2.2.1 u.2.2.2.2.2.1 u.2.2.2.2.2.2.1 u.2.2.2.2.2.2.2 = some o) (fun u => []) (fun u H locs ls hI => ?_) (fun J68 => ?_)
    · obtain ⟨hP, hS, hl, h⟩ := hI
      obtain ⟨x108, x109, x110, x111, x112, x113, x114, s115⟩ := u
      have hP : va_P D vwCl (CS D a s115) H := hP
      have hl : lv_has ls 13 [(0, .ref (a 0)), (3, .int x108), (4, .int x109), (5, .int x110), (6, .int x111), (7, .int x112), (8, .int x113), (9, .int x114)] := hl
      have h : m_x11_unlike_J68 (m_x11_unlike_L46 n46) x108 x109 x110 x111 x112 x113 x114 s115 = some o := h
      unfold m_x11_unlike_J68 at h
      refine lv_iload hx hb dX11_unlike_68 (lv_at hl 5 rfl) ?_
      refine lv_iload hx hb dX11_unlike_70 (lv_at hl 2 rfl) ?_
      refine lv_icmp_ge (tgt := 88) hx hb dX11_unlike_72 (by decide) (fun c116 => ?_) (fun c116 => ?_)
      · have h := if_t c116 h
        refine lv_sipush (v := 1000) hx hb dX11_unlike_88 (by decide) ?_
        exact J91 (x108, x109, x110, x111, x112, x113, x114, 1000, s115) _ _ _ ⟨hP, hS, lv_sub hl [0, 1, 2, 3, 4, 5, 6, 7] rfl, h⟩
      · have h := if_f c116 h
        refine lv_aload_n hx hb dX11_unlike_75 rfl (lv_at hl 0 rfl) ?_
        refine va_get (D := D) (ci := 11) (v := .ref (a 21)) (C := RX11) (T := TX11) (N := 13) hx hb ht inX11 hown hK hP 0 CW_0 rfl 5 (by decide) (ht (.fieldLink RX11 49 "CloneVolumes" "walk" "LCloneVolumes$Walk;") fl_X11_49) (fun _ h9 => h9) rfl dX11_unlike_76 ?_
        refine va_get (D := D) (ci := 10) (v := .ref (a 23)) (C := RX10) (T := TX10) (N := 4) hx hb ht inX10 hown hK hP 21 CW_21 rfl 2 (by decide) (ht (.fieldLink RX11 225 "CloneVolumes$Walk" "keys" "[I") fl_X11_225) (fun _ h9 => h9) rfl dX11_unlike_79 ?_
        refine lv_iload hx hb dX11_unlike_82 (lv_at hl 5 rfl) ?_
        obtain ⟨y117, ey117, iy117, h⟩ := rdI_e h
        refine ya_iald hx hb hK hP 23 0 CW_23 rfl ey117 iy117 dX11_unlike_84 ?_
        refine lv_goto (tgt := 91) hx hb dX11_unlike_85 (by decide) ?_
        exact J91 (x108, x109, x110, x111, x112, x113, x114, y117, s115) _ _ _ ⟨hP, hS, lv_sub hl [0, 1, 2, 3, 4, 5, 6, 7] rfl, h⟩
    refine lv_iload hx hb dX11_unlike_46 (lv_at hl 7 rfl) ?_
    refine lv_sipush (v := 576) hx hb dX11_unlike_48 (by decide) ?_
    refine lv_icmp_ge (tgt := 229) hx hb dX11_unlike_51 (by decide) (fun c118 => ?_) (fun c118 => ?_)
    · have h := if_t c118 h
      exact J229 (x7, x10, s14) _ _ _ ⟨hP, hS, lv_sub hl [1, 4] rfl, h⟩
    · have h := if_f c118 h
      refine lv_iload hx hb dX11_unlike_54 (lv_at hl 5 rfl) ?_
      refine lv_iload hx hb dX11_unlike_56 (lv_at hl 2 rfl) ?_
      refine lv_icmp_lt (tgt := 68) hx hb dX11_unlike_58 (by decide) (fun c119 => ?_) (fun c119 => ?_)
      · have h := if_t c119 h
        exact J68 (x7, x8, x9, x10, x11, x12, x13, s14) _ _ _ ⟨hP, hS, lv_sub hl [0, 1, 2, 3, 4, 5, 6, 7] rfl, h⟩
      · have h := if_f c119 h
        refine lv_iload hx hb dX11_unlike_61 (lv_at hl 6 rfl) ?_
        refine lv_iload hx hb dX11_unlike_63 (lv_at hl 3 rfl) ?_
        refine lv_icmp_ge (tgt := 229) hx hb dX11_unlike_65 (by decide) (fun c120 => ?_) (fun c120 => ?_)
        · have h := if_t c120 h
          exact J229 (x7, x10, s14) _ _ _ ⟨hP, hS, lv_sub hl [1, 4] rfl, h⟩
        · have h := if_f c120 h
          exact J68 (x7, x8, x9, x10, x11, x12, x13, s14) _ _ _ ⟨hP, hS, lv_sub hl [0, 1, 2, 3, 4, 5, 6, 7] rfl, h⟩
  refine lv_aload_n hx hb dX11_unlike_0 rfl (lv_at hl 0 rfl) ?_
  refine va_get (D := D) (ci := 11) (v := .ref (a 21)) (C := RX11) (T := TX11) (N := 13) hx hb ht inX11 hown hK hP 0 CW_0 rfl 5 (by decide) (ht (.fieldLink RX11 49 "CloneVolumes" "walk" "LCloneVolumes$Walk;") fl_X11_49) (fun _ h9 => h9) rfl dX11_unlike_1 ?_
  refine lv_aload_n hx hb dX11_unlike_4 rfl (lv_at hl 0 rfl) ?_
  refine va_get (D := D) (ci := 11) (v := .ref (a 49)) (C := RX11) (T := TX11) (N := 13) hx hb ht inX11 hown hK hP 0 CW_0 rfl 11 (by decide) (ht (.fieldLink RX11 79 "CloneVolumes" "forest" "LCloneVolumes$Forest;") fl_X11_79) (fun _ h9 => h9) rfl dX11_unlike_5 ?_
  refine va_get (D := D) (ci := 1) (v := .ref (a 53)) (C := RX1) (T := TX1) (N := 9) hx hb ht inX1 hown hK hP 49 CW_49 rfl 0 (by decide) (ht (.fieldLink RX11 125 "CloneVolumes$Forest" "now" "LCloneVolumes$State;") fl_X11_125) (fun _ h9 => h9) rfl dX11_unlike_8 ?_
  refine lv_iload_n hx hb dX11_unlike_11 rfl (lv_at hl 1 rfl) ?_
  obtain ⟨⟨r123, s122⟩, hc121, h⟩ := bn_e h
  refine ywV (r0 := r123) (As := [.ref (a 53), .int p0]) (rest := []) (C := RX10) (n := 2) (ws' := CS D a s122) ⟨hx, hb, hml, hown, ht⟩ (k_x10_gather l D a p0 _ _ _ hc121) (zgV ml_X11_168 im_X10_gather se_X10_gather in_X10 co_X10_gather) rfl rfl (by decide +kernel) ⟨Nat.le_of_ble_eq_true rfl, Nat.le_of_ble_eq_true rfl⟩ hN hK hP (hDD _) hS hA 21 CW_21 rfl rfl rfl hl.1 rfl (Nat.le_of_ble_eq_true rfl) dX11_unlike_12 ⟨Nat.le_of_ble_eq_true rfl, Nat.le_of_ble_eq_true rfl⟩ (fun H locs hP hS => ?_)
  refine lv_istore (lv' := [(4, .int r123), (0, .ref (a 0)), (1, .int p0), (2, .int p1), (3, .int p2)]) hx hb dX11_unlike_15 hl (by decide) rfl (fun ls hl => ?_)
  refine lv_aload_n hx hb dX11_unlike_17 rfl (lv_at hl 1 rfl) ?_
  refine va_get (D := D) (ci := 11) (v := .ref (a 25)) (C := RX11) (T := TX11) (N := 13) hx hb ht inX11 hown hK hP 0 CW_0 rfl 6 (by decide) (ht (.fieldLink RX11 53 "CloneVolumes" "otherWalk" "LCloneVolumes$Walk;") fl_X11_53) (fun _ h9 => h9) rfl dX11_unlike_18 ?_
  refine lv_aload_n hx hb dX11_unlike_21 rfl (lv_at hl 1 rfl) ?_
  refine va_get (D := D) (ci := 11) (v := .ref (a 49)) (C := RX11) (T := TX11) (N := 13) hx hb ht inX11 hown hK hP 0 CW_0 rfl 11 (by decide) (ht (.fieldLink RX11 79 "CloneVolumes" "forest" "LCloneVolumes$Forest;") fl_X11_79) (fun _ h9 => h9) rfl dX11_unlike_22 ?_
  refine va_get (D := D) (ci := 1) (v := .ref (a 53)) (C := RX1) (T := TX1) (N := 9) hx hb ht inX1 hown hK hP 49 CW_49 rfl 0 (by decide) (ht (.fieldLink RX11 125 "CloneVolumes$Forest" "now" "LCloneVolumes$State;") fl_X11_125) (fun _ h9 => h9) rfl dX11_unlike_25 ?_
  refine lv_iload_n hx hb dX11_unlike_28 rfl (lv_at hl 3 rfl) ?_
  obtain ⟨⟨r126, s125⟩, hc124, h⟩ := bn_e h
  refine ywV (r0 := r126) (As := [.ref (a 53), .int p1]) (rest := []) (C := RX10) (n := 2) (ws' := CS D a s125) ⟨hx, hb, hml, hown, ht⟩ (k_x10_gather_v2 l D a p1 _ _ _ hc124) (zgV ml_X11_168 im_X10_gather se_X10_gather in_X10 co_X10_gather) rfl rfl (by decide +kernel) ⟨Nat.le_of_ble_eq_true rfl, Nat.le_of_ble_eq_true rfl⟩ hN hK hP (hDD _) hS hA 25 CW_25 rfl rfl rfl hl.1 rfl (Nat.le_of_ble_eq_true rfl) dX11_unlike_29 ⟨Nat.le_of_ble_eq_true rfl, Nat.le_of_ble_eq_true rfl⟩ (fun H locs hP hS => ?_)
  refine lv_istore (lv' := [(5, .int r126), (4, .int r123), (0, .ref (a 0)), (1, .int p0), (2, .int p1), (3, .int p2)]) hx hb dX11_unlike_32 hl (by decide) rfl (fun ls hl => ?_)
  refine lv_iconst (v := 0) hx hb dX11_unlike_34 (by decide) ?_
  refine lv_istore (lv' := [(6, .int 0), (5, .int r126), (4, .int r123), (0, .ref (a 0)), (1, .int p0), (2, .int p1), (3, .int p2)]) hx hb dX11_unlike_35 hl (by decide) rfl (fun ls hl => ?_)
  refine lv_iconst (v := 0) hx hb dX11_unlike_37 (by decide) ?_
  refine lv_istore (lv' := [(7, .int 0), (6, .int 0), (5, .int r126), (4, .int r123), (0, .ref (a 0)), (1, .int p0), (2, .int p1), (3, .int p2)]) hx hb dX11_unlike_38 hl (by decide) rfl (fun ls hl => ?_)
  refine lv_iconst (v := 0) hx hb dX11_unlike_40 (by decide) ?_
  refine lv_istore (lv' := [(8, .int 0), (7, .int 0), (6, .int 0), (5, .int r126), (4, .int r123), (0, .ref (a 0)), (1, .int p0), (2, .int p1), (3, .int p2)]) hx hb dX11_unlike_41 hl (by decide) rfl (fun ls hl => ?_)
  refine lv_iconst (v := 0) hx hb dX11_unlike_43 (by decide) ?_
  refine lv_istore (lv' := [(9, .int 0), (8, .int 0), (7, .int 0), (6, .int 0), (5, .int r126), (4, .int r123), (0, .ref (a 0)), (1, .int p0), (2, .int p1), (3, .int p2)]) hx hb dX11_unlike_44 hl (by decide) rfl (fun ls hl => ?_)
  exact J46 FU (p2, r123, r126, 0, 0, 0, 0, s125) _ _ _ ⟨hP, hS, lv_sub hl [6, 9, 5, 4, 3, 2, 1, 0] rfl, h⟩
def m_x11_differs_J27 (s1 : MS) : Option (Int32 × MS) :=
  some ((-1), s1)
def m_x11_differs (p0 : Int32) (p1 : Int32) (p2 : Int32) (s : MS) : Option (Int32 × MS) :=
  bn (m_x8_isVolume p0 s) (fun r3 => if r3 = 0 then m_x11_differs_J27 s else bn (m_x8_isVolume p1 s) (fun r6 => if r6 = 0 then m_x11_differs_J27 s else rdI (gA s 60) 8 p0 (fun y8 => rdI (gA s 60) 8 p1 (fun y9 => bn (m_x11_unlike y8 y9 p2 s) (fun qr12 => some (qr12.1, qr12.2))))))
set_option maxHeartbeats 4000000 in
set_option maxRecDepth 100000 in
theorem k_x11_differs (l : Launch) (D : va_G) (a : Nat → Nat) (p0 : Int32) (p1 : Int32) (p2 : Int32) (sz : Nat) (s : MS) (o : (Int32 × MS)) (h : m_x11_differs p0 p1 p2 s = some o) : yWi l yX11_differs cX11_differs 5 (some .int) { frames := 4, cells := 0, slots := 0, locals := 240 } D sz [.ref (a 0), .int p0, .int p1, .int p2] (CS D a s) (CS D a o.2) o.1 := by
  refine Met.ofW (cc := cX11_differs) (maxL := 5) (ret := (some .int)) (by decide) rfl ?_
  intro p e s₀ m args below meth c s₁ B hml hv
  obtain ⟨rfl, ⟨hsz, hP, hK, hD0⟩, hN⟩ := hv
  have hx := B.exec
  have hb := B.bytes
  have hr := B.returns
  have hts := atoms_spec (ws := wz yX11_differs cX11_differs 5 (some .int)) B.pre
  have ht : ∀ w ∈ lw_gd, w.before _ s₀ = true := fun w h => hts w (List.mem_cons_of_mem _ h)
  have hown : s₀.vm.findClass RX11 = some m.cls := findClass_of_methodNamed B.named
  have hlocks := B.notSynchronized
  subst hsz
  have hD := hD0.self (sz := s₀.heap.size)
  generalize hAe : va_A (CS D a s) s₀.heap.size = A at hD ⊢
  have hA : ∀ q : Nat, s₀.heap.size ≤ q → A q := fun q h => by rw [← hAe]; exact Or.inr h
  have hS : va_S A s₀.heap s₀.heap [] := va_S.rf
  have hDD : ∀ t : MS, va_D A (CS D a t) := fun t => CW_D t hD
  have hl := lv_entry ([.ref (a 0), .int p0, .int p1, .int p2]) (n := 5) (Nat.le_of_ble_eq_true rfl)
  rw [lg_entry_eq]
  generalize (lg_sl ([.ref (a 0), .int p0, .int p1, .int p2]) ++ List.replicate (5 - (lg_sl ([.ref (a 0), .int p0, .int p1, .int p2])).length) Slot.unset).toArray = ls at hl ⊢
  have hl : lv_has ls 5 [(0, .ref (a 0)), (1, .int p0), (2, .int p1), (3, .int p2)] := hl
  unfold m_x11_differs at h
  refine y_head (pcJ := 27) (σ := MS) (fun u H locs ls => va_P D vwCl (CS D a u) H ∧ va_S A s₀.heap H locs ∧ lv_has ls 5 [] ∧ m_x11_differs_J27 u = some o) (fun u => []) (fun u H locs ls hI => ?_) (fun J27 => ?_)
  · obtain ⟨hP, hS, hl, h⟩ := hI
    obtain ⟨s1, rfl⟩ : ∃ z, z = u := ⟨u, rfl⟩
    have hP : va_P D vwCl (CS D a s1) H := hP
    have hl : lv_has ls 5 [] := hl
    have h : m_x11_differs_J27 s1 = some o := h
    unfold m_x11_differs_J27 at h
    refine lv_iconst (v := (-1)) hx hb dX11_differs_27 (by decide) ?_
    obtain rfl := Option.some.inj h
    exact W.iret (v := (-1)) hx hb hr (fun t ht hW => ⟨⟨_, (), rfl, rfl, by rw [ht]; exact hP, va_K.moved hW.alike hK, hDD _⟩, hS.F ht⟩) hS.2.2 dX11_differs_28
  refine lv_aload_n hx hb dX11_differs_0 rfl (lv_at hl 0 rfl) ?_
  refine va_get (D := D) (ci := 11) (v := .ref (a 49)) (C := RX11) (T := TX11) (N := 13) hx hb ht inX11 hown hK hP 0 CW_0 rfl 11 (by decide) (ht (.fieldLink RX11 79 "CloneVolumes" "forest" "LCloneVolumes$Forest;") fl_X11_79) (fun _ h9 => h9) rfl dX11_differs_1 ?_
  refine va_get (D := D) (ci := 1) (v := .ref (a 53)) (C := RX1) (T := TX1) (N := 9) hx hb ht inX1 hown hK hP 49 CW_49 rfl 0 (by decide) (ht (.fieldLink RX11 125 "CloneVolumes$Forest" "now" "LCloneVolumes$State;") fl_X11_125) (fun _ h9 => h9) rfl dX11_differs_4 ?_
  refine lv_astore (lv' := [(4, .ref (a 53)), (0, .ref (a 0)), (1, .int p0), (2, .int p1), (3, .int p2)]) hx hb dX11_differs_7 hl (by decide) rfl (fun ls hl => ?_)
  refine lv_aload hx hb dX11_differs_9 (lv_at hl 0 rfl) ?_
  refine lv_iload_n hx hb dX11_differs_11 rfl (lv_at hl 2 rfl) ?_
  obtain ⟨r3, hc2, h⟩ := bn_e h
  refine ycV (As := [.int p0]) (rest := []) (C := RX8) (n := 1) ⟨hx, hb, hml, hown, ht⟩ (k_x8_isVolume l D a p0 _ _ hc2) (zgV ml_X11_161 im_X8_isVolume se_X8_isVolume in_X8 co_X8_isVolume) rfl rfl (by decide +kernel) ⟨Nat.le_of_ble_eq_true rfl, Nat.le_of_ble_eq_true rfl⟩ hN hK hP hS 53 CW_53 rfl rfl rfl hl.1 rfl (Nat.le_of_ble_eq_true rfl) dX11_differs_12 ⟨Nat.le_of_ble_eq_true rfl, Nat.le_of_ble_eq_true rfl⟩ (fun H locs hP hS => ?_)
  refine lv_if_eq (tgt := 27) hx hb dX11_differs_15 (by decide) (fun c4 => ?_) (fun c4 => ?_)
  · have h := if_t c4 h
    exact J27 s _ _ _ ⟨hP, hS, lv_sub hl [] rfl, h⟩
  · have h := if_f c4 h
    refine lv_aload hx hb dX11_differs_18 (lv_at hl 0 rfl) ?_
    refine lv_iload_n hx hb dX11_differs_20 rfl (lv_at hl 3 rfl) ?_
    obtain ⟨r6, hc5, h⟩ := bn_e h
    refine ycV (As := [.int p1]) (rest := []) (C := RX8) (n := 1) ⟨hx, hb, hml, hown, ht⟩ (k_x8_isVolume l D a p1 _ _ hc5) (zgV ml_X11_161 im_X8_isVolume se_X8_isVolume in_X8 co_X8_isVolume) rfl rfl (by decide +kernel) ⟨Nat.le_of_ble_eq_true rfl, Nat.le_of_ble_eq_true rfl⟩ hN hK hP hS 53 CW_53 rfl rfl rfl hl.1 rfl (Nat.le_of_ble_eq_true rfl) dX11_differs_21 ⟨Nat.le_of_ble_eq_true rfl, Nat.le_of_ble_eq_true rfl⟩ (fun H locs hP hS => ?_)
    refine lv_if_ne (tgt := 29) hx hb dX11_differs_24 (by decide) (fun c7 => ?_) (fun c7 => ?_)
    · have h := if_f c7 h
      refine lv_aload_n hx hb dX11_differs_29 rfl (lv_at hl 1 rfl) ?_
      refine lv_aload hx hb dX11_differs_30 (lv_at hl 0 rfl) ?_
      refine va_get (D := D) (ci := 8) (v := .ref (a 60)) (C := RX8) (T := TX8) (N := 11) hx hb ht inX8 hown hK hP 53 CW_53 rfl 9 (by decide) (ht (.fieldLink RX11 165 "CloneVolumes$State" "roots" "[I") fl_X11_165) (fun _ h9 => h9) rfl dX11_differs_32 ?_
      refine lv_iload_n hx hb dX11_differs_35 rfl (lv_at hl 2 rfl) ?_
      obtain ⟨y8, ey8, iy8, h⟩ := rdI_e h
      refine ya_iald hx hb hK hP 60 0 CW_60 rfl ey8 iy8 dX11_differs_36 ?_
      refine lv_aload hx hb dX11_differs_37 (lv_at hl 0 rfl) ?_
      refine va_get (D := D) (ci := 8) (v := .ref (a 60)) (C := RX8) (T := TX8) (N := 11) hx hb ht inX8 hown hK hP 53 CW_53 rfl 9 (by decide) (ht (.fieldLink RX11 165 "CloneVolumes$State" "roots" "[I") fl_X11_165) (fun _ h9 => h9) rfl dX11_differs_39 ?_
      refine lv_iload_n hx hb dX11_differs_42 rfl (lv_at hl 3 rfl) ?_
      obtain ⟨y9, ey9, iy9, h⟩ := rdI_e h
      refine ya_iald hx hb hK hP 60 0 CW_60 rfl ey9 iy9 dX11_differs_43 ?_
      refine lv_iload_n hx hb dX11_differs_44 rfl (lv_at hl 4 rfl) ?_
      obtain ⟨⟨r12, s11⟩, hc10, h⟩ := bn_e h
      refine ywV (r0 := r12) (As := [.int y8, .int y9, .int p2]) (rest := []) (C := RX11) (n := 3) (ws' := CS D a s11) ⟨hx, hb, hml, hown, ht⟩ (k_x11_unlike l D a y8 y9 p2 _ _ _ hc10) (zgV ml_X11_233 im_X11_unlike se_X11_unlike in_X11 co_X11_unlike) rfl rfl (by decide +kernel) ⟨Nat.le_of_ble_eq_true rfl, Nat.le_of_ble_eq_true rfl⟩ hN hK hP (hDD _) hS hA 0 CW_0 rfl rfl rfl hl.1 rfl (Nat.le_of_ble_eq_true rfl) dX11_differs_45 ⟨Nat.le_of_ble_eq_true rfl, Nat.le_of_ble_eq_true rfl⟩ (fun H locs hP hS => ?_)
      obtain rfl := Option.some.inj h
      exact W.iret (v := r12) hx hb hr (fun t ht hW => ⟨⟨_, (), rfl, rfl, by rw [ht]; exact hP, va_K.moved hW.alike hK, hDD _⟩, hS.F ht⟩) hS.2.2 dX11_differs_48
    · have h := if_t c7 h
      exact J27 s _ _ _ ⟨hP, hS, lv_sub hl [] rfl, h⟩
def m_x8_become (s : MS) : Option MS :=
  stn (sI s 1060 (gI s 1240)) (fun s1 => stn (sI s1 1061 (gI s1 1241)) (fun s2 => stn (sL s2 1062 (gL s2 1242)) (fun s3 => cpg 0 0 48 48 48 (stn (sA s3 54 (va_cpy (gA s3 63) (gA s3 54) (Int32.toNatClampNeg 0) (Int32.toNatClampNeg 0) (Int32.toNatClampNeg 48))) (fun s5 => cpg 0 0 48 48 48 (stn (sA s5 55 (va_cpy (gA s5 64) (gA s5 55) (Int32.toNatClampNeg 0) (Int32.toNatClampNeg 0) (Int32.toNatClampNeg 48))) (fun s7 => cpg 0 0 48 48 48 (stn (sA s7 56 (va_cpy (gA s7 65) (gA s7 56) (Int32.toNatClampNeg 0) (Int32.toNatClampNeg 0) (Int32.toNatClampNeg 48))) (fun s9 => cpg 0 0 48 48 48 (stn (sA s9 57 (va_cpy (gA s9 66) (gA s9 57) (Int32.toNatClampNeg 0) (Int32.toNatClampNeg 0) (Int32.toNatClampNeg 48))) (fun s11 => cpg 0 0 288 288 288 (stn (sA s11 58 (va_cpy (gA s11 67) (gA s11 58) (Int32.toNatClampNeg 0) (Int32.toNatClampNeg 0) (Int32.toNatClampNeg 288))) (fun s13 => cpg 0 0 288 288 288 (stn (sA s13 59 (va_cpy (gA s13 68) (gA s13 59) (Int32.toNatClampNeg 0) (Int32.toNatClampNeg 0) (Int32.toNatClampNeg 288))) (fun s15 => cpg 0 0 8 8 8 (stn (sA s15 60 (va_cpy (gA s15 69) (gA s15 60) (Int32.toNatClampNeg 0) (Int32.toNatClampNeg 0) (Int32.toNatClampNeg 8))) (fun s17 => cpg 0 0 8 8 8 (stn (sA s17 61 (va_cpy (gA s17 70) (gA s17 61) (Int32.toNatClampNeg 0) (Int32.toNatClampNeg 0) (Int32.toNatClampNeg 8))) (fun s19 => some s19)))))))))))))))))))
set_option maxHeartbeats 4000000 in
set_option maxRecDepth 100000 in
theorem k_x8_become (l : Launch) (D : va_G) (a : Nat → Nat) (sz : Nat) (s : MS) (o : MS) (h : m_x8_become s = some o) : yWv l yX8_become cX8_become 2 none { frames := 1, cells := 0, slots := 0, locals := 60 } D sz [.ref (a 53), .ref (a 62)] (CS D a s) (CS D a o) := by
  refine Met.ofW (cc := cX8_become) (maxL := 2) (ret := none) (by decide) rfl ?_
  intro p e s₀ m args below meth c s₁ B hml hv
  obtain ⟨rfl, ⟨hsz, hP, hK, hD0⟩, hN⟩ := hv
  have hx := B.exec
  have hb := B.bytes
  have hr := B.returns
  have hts := atoms_spec (ws := wz yX8_become cX8_become 2 none) B.pre
  have ht : ∀ w ∈ lw_gd, w.before _ s₀ = true := fun w h => hts w (List.mem_cons_of_mem _ h)
  have hown : s₀.vm.findClass RX8 = some m.cls := findClass_of_methodNamed B.named
  have hlocks := B.notSynchronized
  subst hsz
  have hD := hD0.self (sz := s₀.heap.size)
  generalize hAe : va_A (CS D a s) s₀.heap.size = A at hD ⊢
  have hA : ∀ q : Nat, s₀.heap.size ≤ q → A q := fun q h => by rw [← hAe]; exact Or.inr h
  have hS : va_S A s₀.heap s₀.heap [] := va_S.rf
  have hDD : ∀ t : MS, va_D A (CS D a t) := fun t => CW_D t hD
  have hl := lv_entry ([.ref (a 53), .ref (a 62)]) (n := 2) (Nat.le_of_ble_eq_true rfl)
  rw [lg_entry_eq]
  generalize (lg_sl ([.ref (a 53), .ref (a 62)]) ++ List.replicate (2 - (lg_sl ([.ref (a 53), .ref (a 62)])).length) Slot.unset).toArray = ls at hl ⊢
  have hl : lv_has ls 2 [(0, .ref (a 53)), (1, .ref (a 62))] := hl
  unfold m_x8_become at h
  refine lv_aload_n hx hb dX8_become_0 rfl (lv_at hl 0 rfl) ?_
  refine lv_aload_n hx hb dX8_become_1 rfl (lv_at hl 1 rfl) ?_
  refine va_get (D := D) (ci := 8) (v := .int (gI s 1240)) (C := RX8) (T := TX8) (N := 11) hx hb ht inX8 hown hK hP 62 CW_62 rfl 0 (by decide) (ht (.fieldLink RX8 40 "CloneVolumes$State" "blocks" "I") fl_X8_40) (fun _ h9 => h9) rfl dX8_become_2 ?_
  refine ya_put (D := D) (ci := 8) (v := .int (gI s 1240)) (ty := .int) (C := RX8) (T := TX8) (N := 11) hx hb ht inX8 tyX8 tyX8_ok nmX8 hown hK hP (hDD _) hS 53 CW_53 rfl 0 (by decide) (ht (.fieldLink RX8 40 "CloneVolumes$State" "blocks" "I") fl_X8_40) (fun _ h9 => h9) rfl (by decide +kernel) rfl rfl (Nat.le_of_ble_eq_true rfl) dX8_become_5 (CW_w53_0 _) (fun H locs hP hS => ?_)
  obtain ⟨s1, hs1, h⟩ := st_e h
  rw [hs1] at hP
  refine lv_aload_n hx hb dX8_become_8 rfl (lv_at hl 0 rfl) ?_
  refine lv_aload_n hx hb dX8_become_9 rfl (lv_at hl 1 rfl) ?_
  refine va_get (D := D) (ci := 8) (v := .int (gI s1 1241)) (C := RX8) (T := TX8) (N := 11) hx hb ht inX8 hown hK hP 62 CW_62 rfl 1 (by decide) (ht (.fieldLink RX8 44 "CloneVolumes$State" "spent" "I") fl_X8_44) (fun _ h9 => h9) rfl dX8_become_10 ?_
  refine ya_put (D := D) (ci := 8) (v := .int (gI s1 1241)) (ty := .int) (C := RX8) (T := TX8) (N := 11) hx hb ht inX8 tyX8 tyX8_ok nmX8 hown hK hP (hDD _) hS 53 CW_53 rfl 1 (by decide) (ht (.fieldLink RX8 44 "CloneVolumes$State" "spent" "I") fl_X8_44) (fun _ h9 => h9) rfl (by decide +kernel) rfl rfl (Nat.le_of_ble_eq_true rfl) dX8_become_13 (CW_w53_1 _) (fun H locs hP hS => ?_)
  obtain ⟨s2, hs2, h⟩ := st_e h
  rw [hs2] at hP
  refine lv_aload_n hx hb dX8_become_16 rfl (lv_at hl 0 rfl) ?_
  refine lv_aload_n hx hb dX8_become_17 rfl (lv_at hl 1 rfl) ?_
  refine va_get (D := D) (ci := 8) (v := .long (gL s2 1242)) (C := RX8) (T := TX8) (N := 11) hx hb ht inX8 hown hK hP 62 CW_62 rfl 2 (by decide) (ht (.fieldLink RX8 47 "CloneVolumes$State" "written" "J") fl_X8_47) (fun _ h9 => h9) rfl dX8_become_18 ?_
  refine ya_put (D := D) (ci := 8) (v := .long (gL s2 1242)) (ty := .long) (C := RX8) (T := TX8) (N := 11) hx hb ht inX8 tyX8 tyX8_ok nmX8 hown hK hP (hDD _) hS 53 CW_53 rfl 2 (by decide) (ht (.fieldLink RX8 47 "CloneVolumes$State" "written" "J") fl_X8_47) (fun _ h9 => h9) rfl (by decide +kernel) rfl rfl (Nat.le_of_ble_eq_true rfl) dX8_become_21 (CW_w53_2 _) (fun H locs hP hS => ?_)
  obtain ⟨s3, hs3, h⟩ := st_e h
  rw [hs3] at hP
  refine lv_aload_n hx hb dX8_become_24 rfl (lv_at hl 1 rfl) ?_
  refine va_get (D := D) (ci := 8) (v := .ref (a 63)) (C := RX8) (T := TX8) (N := 11) hx hb ht inX8 hown hK hP 62 CW_62 rfl 3 (by decide) (ht (.fieldLink RX8 9 "CloneVolumes$State" "count" "[I") fl_X8_9) (fun _ h9 => h9) rfl dX8_become_25 ?_
  refine lv_iconst (v := 0) hx hb dX8_become_28 (by decide) ?_
  refine lv_aload_n hx hb dX8_become_29 rfl (lv_at hl 0 rfl) ?_
  refine va_get (D := D) (ci := 8) (v := .ref (a 54)) (C := RX8) (T := TX8) (N := 11) hx hb ht inX8 hown hK hP 53 CW_53 rfl 3 (by decide) (ht (.fieldLink RX8 9 "CloneVolumes$State" "count" "[I") fl_X8_9) (fun _ h9 => h9) rfl dX8_become_30 ?_
  refine lv_iconst (v := 0) hx hb dX8_become_33 (by decide) ?_
  refine lv_bipush (v := 48) hx hb dX8_become_34 (by decide) ?_
  obtain ⟨hc4, h⟩ := cpg_e h
  refine ya_copyi hx hb (by rw [hml]; exact hl.1.symm) hown (ht _ ml_X8_51) (ht _ na_cpy) (ht _ st_cpy) (ht _ in_sys) hK hP (hDD _) hS 63 54 CW_63 CW_54 hc4 (Nat.le_of_ble_eq_true rfl) (Nat.le_of_ble_eq_true rfl) dX8_become_36 (CW_w54 _) (fun H locs hP hS => ?_)
  obtain ⟨s5, hs5, h⟩ := st_e h
  rw [hs5] at hP
  refine lv_aload_n hx hb dX8_become_39 rfl (lv_at hl 1 rfl) ?_
  refine va_get (D := D) (ci := 8) (v := .ref (a 64)) (C := RX8) (T := TX8) (N := 11) hx hb ht inX8 hown hK hP 62 CW_62 rfl 4 (by decide) (ht (.fieldLink RX8 15 "CloneVolumes$State" "saved" "[I") fl_X8_15) (fun _ h9 => h9) rfl dX8_become_40 ?_
  refine lv_iconst (v := 0) hx hb dX8_become_43 (by decide) ?_
  refine lv_aload_n hx hb dX8_become_44 rfl (lv_at hl 0 rfl) ?_
  refine va_get (D := D) (ci := 8) (v := .ref (a 55)) (C := RX8) (T := TX8) (N := 11) hx hb ht inX8 hown hK hP 53 CW_53 rfl 4 (by decide) (ht (.fieldLink RX8 15 "CloneVolumes$State" "saved" "[I") fl_X8_15) (fun _ h9 => h9) rfl dX8_become_45 ?_
  refine lv_iconst (v := 0) hx hb dX8_become_48 (by decide) ?_
  refine lv_bipush (v := 48) hx hb dX8_become_49 (by decide) ?_
  obtain ⟨hc6, h⟩ := cpg_e h
  refine ya_copyi hx hb (by rw [hml]; exact hl.1.symm) hown (ht _ ml_X8_51) (ht _ na_cpy) (ht _ st_cpy) (ht _ in_sys) hK hP (hDD _) hS 64 55 CW_64 CW_55 hc6 (Nat.le_of_ble_eq_true rfl) (Nat.le_of_ble_eq_true rfl) dX8_become_51 (CW_w55 _) (fun H locs hP hS => ?_)
  obtain ⟨s7, hs7, h⟩ := st_e h
  rw [hs7] at hP
  refine lv_aload_n hx hb dX8_become_54 rfl (lv_at hl 1 rfl) ?_
  refine va_get (D := D) (ci := 8) (v := .ref (a 65)) (C := RX8) (T := TX8) (N := 11) hx hb ht inX8 hown hK hP 62 CW_62 rfl 5 (by decide) (ht (.fieldLink RX8 18 "CloneVolumes$State" "level" "[I") fl_X8_18) (fun _ h9 => h9) rfl dX8_become_55 ?_
  refine lv_iconst (v := 0) hx hb dX8_become_58 (by decide) ?_
  refine lv_aload_n hx hb dX8_become_59 rfl (lv_at hl 0 rfl) ?_
  refine va_get (D := D) (ci := 8) (v := .ref (a 56)) (C := RX8) (T := TX8) (N := 11) hx hb ht inX8 hown hK hP 53 CW_53 rfl 5 (by decide) (ht (.fieldLink RX8 18 "CloneVolumes$State" "level" "[I") fl_X8_18) (fun _ h9 => h9) rfl dX8_become_60 ?_
  refine lv_iconst (v := 0) hx hb dX8_become_63 (by decide) ?_
  refine lv_bipush (v := 48) hx hb dX8_become_64 (by decide) ?_
  obtain ⟨hc8, h⟩ := cpg_e h
  refine ya_copyi hx hb (by rw [hml]; exact hl.1.symm) hown (ht _ ml_X8_51) (ht _ na_cpy) (ht _ st_cpy) (ht _ in_sys) hK hP (hDD _) hS 65 56 CW_65 CW_56 hc8 (Nat.le_of_ble_eq_true rfl) (Nat.le_of_ble_eq_true rfl) dX8_become_66 (CW_w56 _) (fun H locs hP hS => ?_)
  obtain ⟨s9, hs9, h⟩ := st_e h
  rw [hs9] at hP
  refine lv_aload_n hx hb dX8_become_69 rfl (lv_at hl 1 rfl) ?_
  refine va_get (D := D) (ci := 8) (v := .ref (a 66)) (C := RX8) (T := TX8) (N := 11) hx hb ht inX8 hown hK hP 62 CW_62 rfl 6 (by decide) (ht (.fieldLink RX8 21 "CloneVolumes$State" "size" "[I") fl_X8_21) (fun _ h9 => h9) rfl dX8_become_70 ?_
  refine lv_iconst (v := 0) hx hb dX8_become_73 (by decide) ?_
  refine lv_aload_n hx hb dX8_become_74 rfl (lv_at hl 0 rfl) ?_
  refine va_get (D := D) (ci := 8) (v := .ref (a 57)) (C := RX8) (T := TX8) (N := 11) hx hb ht inX8 hown hK hP 53 CW_53 rfl 6 (by decide) (ht (.fieldLink RX8 21 "CloneVolumes$State" "size" "[I") fl_X8_21) (fun _ h9 => h9) rfl dX8_become_75 ?_
  refine lv_iconst (v := 0) hx hb dX8_become_78 (by decide) ?_
  refine lv_bipush (v := 48) hx hb dX8_become_79 (by decide) ?_
  obtain ⟨hc10, h⟩ := cpg_e h
  refine ya_copyi hx hb (by rw [hml]; exact hl.1.symm) hown (ht _ ml_X8_51) (ht _ na_cpy) (ht _ st_cpy) (ht _ in_sys) hK hP (hDD _) hS 66 57 CW_66 CW_57 hc10 (Nat.le_of_ble_eq_true rfl) (Nat.le_of_ble_eq_true rfl) dX8_become_81 (CW_w57 _) (fun H locs hP hS => ?_)
  obtain ⟨s11, hs11, h⟩ := st_e h
  rw [hs11] at hP
  refine lv_aload_n hx hb dX8_become_84 rfl (lv_at hl 1 rfl) ?_
  refine va_get (D := D) (ci := 8) (v := .ref (a 67)) (C := RX8) (T := TX8) (N := 11) hx hb ht inX8 hown hK hP 62 CW_62 rfl 7 (by decide) (ht (.fieldLink RX8 24 "CloneVolumes$State" "keys" "[I") fl_X8_24) (fun _ h9 => h9) rfl dX8_become_85 ?_
  refine lv_iconst (v := 0) hx hb dX8_become_88 (by decide) ?_
  refine lv_aload_n hx hb dX8_become_89 rfl (lv_at hl 0 rfl) ?_
  refine va_get (D := D) (ci := 8) (v := .ref (a 58)) (C := RX8) (T := TX8) (N := 11) hx hb ht inX8 hown hK hP 53 CW_53 rfl 7 (by decide) (ht (.fieldLink RX8 24 "CloneVolumes$State" "keys" "[I") fl_X8_24) (fun _ h9 => h9) rfl dX8_become_90 ?_
  refine lv_iconst (v := 0) hx hb dX8_become_93 (by decide) ?_
  refine lv_sipush (v := 288) hx hb dX8_become_94 (by decide) ?_
  obtain ⟨hc12, h⟩ := cpg_e h
  refine ya_copyi hx hb (by rw [hml]; exact hl.1.symm) hown (ht _ ml_X8_51) (ht _ na_cpy) (ht _ st_cpy) (ht _ in_sys) hK hP (hDD _) hS 67 58 CW_67 CW_58 hc12 (Nat.le_of_ble_eq_true rfl) (Nat.le_of_ble_eq_true rfl) dX8_become_97 (CW_w58 _) (fun H locs hP hS => ?_)
  obtain ⟨s13, hs13, h⟩ := st_e h
  rw [hs13] at hP
  refine lv_aload_n hx hb dX8_become_100 rfl (lv_at hl 1 rfl) ?_
  refine va_get (D := D) (ci := 8) (v := .ref (a 68)) (C := RX8) (T := TX8) (N := 11) hx hb ht inX8 hown hK hP 62 CW_62 rfl 8 (by decide) (ht (.fieldLink RX8 27 "CloneVolumes$State" "values" "[I") fl_X8_27) (fun _ h9 => h9) rfl dX8_become_101 ?_
  refine lv_iconst (v := 0) hx hb dX8_become_104 (by decide) ?_
  refine lv_aload_n hx hb dX8_become_105 rfl (lv_at hl 0 rfl) ?_
  refine va_get (D := D) (ci := 8) (v := .ref (a 59)) (C := RX8) (T := TX8) (N := 11) hx hb ht inX8 hown hK hP 53 CW_53 rfl 8 (by decide) (ht (.fieldLink RX8 27 "CloneVolumes$State" "values" "[I") fl_X8_27) (fun _ h9 => h9) rfl dX8_become_106 ?_
  refine lv_iconst (v := 0) hx hb dX8_become_109 (by decide) ?_
  refine lv_sipush (v := 288) hx hb dX8_become_110 (by decide) ?_
  obtain ⟨hc14, h⟩ := cpg_e h
  refine ya_copyi hx hb (by rw [hml]; exact hl.1.symm) hown (ht _ ml_X8_51) (ht _ na_cpy) (ht _ st_cpy) (ht _ in_sys) hK hP (hDD _) hS 68 59 CW_68 CW_59 hc14 (Nat.le_of_ble_eq_true rfl) (Nat.le_of_ble_eq_true rfl) dX8_become_113 (CW_w59 _) (fun H locs hP hS => ?_)
  obtain ⟨s15, hs15, h⟩ := st_e h
  rw [hs15] at hP
  refine lv_aload_n hx hb dX8_become_116 rfl (lv_at hl 1 rfl) ?_
  refine va_get (D := D) (ci := 8) (v := .ref (a 69)) (C := RX8) (T := TX8) (N := 11) hx hb ht inX8 hown hK hP 62 CW_62 rfl 9 (by decide) (ht (.fieldLink RX8 30 "CloneVolumes$State" "roots" "[I") fl_X8_30) (fun _ h9 => h9) rfl dX8_become_117 ?_
  refine lv_iconst (v := 0) hx hb dX8_become_120 (by decide) ?_
  refine lv_aload_n hx hb dX8_become_121 rfl (lv_at hl 0 rfl) ?_
  refine va_get (D := D) (ci := 8) (v := .ref (a 60)) (C := RX8) (T := TX8) (N := 11) hx hb ht inX8 hown hK hP 53 CW_53 rfl 9 (by decide) (ht (.fieldLink RX8 30 "CloneVolumes$State" "roots" "[I") fl_X8_30) (fun _ h9 => h9) rfl dX8_become_122 ?_
  refine lv_iconst (v := 0) hx hb dX8_become_125 (by decide) ?_
  refine lv_bipush (v := 8) hx hb dX8_become_126 (by decide) ?_
  obtain ⟨hc16, h⟩ := cpg_e h
  refine ya_copyi hx hb (by rw [hml]; exact hl.1.symm) hown (ht _ ml_X8_51) (ht _ na_cpy) (ht _ st_cpy) (ht _ in_sys) hK hP (hDD _) hS 69 60 CW_69 CW_60 hc16 (Nat.le_of_ble_eq_true rfl) (Nat.le_of_ble_eq_true rfl) dX8_become_128 (CW_w60 _) (fun H locs hP hS => ?_)
  obtain ⟨s17, hs17, h⟩ := st_e h
  rw [hs17] at hP
  refine lv_aload_n hx hb dX8_become_131 rfl (lv_at hl 1 rfl) ?_
  refine va_get (D := D) (ci := 8) (v := .ref (a 70)) (C := RX8) (T := TX8) (N := 11) hx hb ht inX8 hown hK hP 62 CW_62 rfl 10 (by decide) (ht (.fieldLink RX8 33 "CloneVolumes$State" "savedRoots" "[I") fl_X8_33) (fun _ h9 => h9) rfl dX8_become_132 ?_
  refine lv_iconst (v := 0) hx hb dX8_become_135 (by decide) ?_
  refine lv_aload_n hx hb dX8_become_136 rfl (lv_at hl 0 rfl) ?_
  refine va_get (D := D) (ci := 8) (v := .ref (a 61)) (C := RX8) (T := TX8) (N := 11) hx hb ht inX8 hown hK hP 53 CW_53 rfl 10 (by decide) (ht (.fieldLink RX8 33 "CloneVolumes$State" "savedRoots" "[I") fl_X8_33) (fun _ h9 => h9) rfl dX8_become_137 ?_
  refine lv_iconst (v := 0) hx hb dX8_become_140 (by decide) ?_
  refine lv_bipush (v := 8) hx hb dX8_become_141 (by decide) ?_
  obtain ⟨hc18, h⟩ := cpg_e h
  refine ya_copyi hx hb (by rw [hml]; exact hl.1.symm) hown (ht _ ml_X8_51) (ht _ na_cpy) (ht _ st_cpy) (ht _ in_sys) hK hP (hDD _) hS 70 61 CW_70 CW_61 hc18 (Nat.le_of_ble_eq_true rfl) (Nat.le_of_ble_eq_true rfl) dX8_become_143 (CW_w61 _) (fun H locs hP hS => ?_)
  obtain ⟨s19, hs19, h⟩ := st_e h
  rw [hs19] at hP
  obtain rfl := Option.some.inj h
  exact W.vret hx hb hr (fun t ht hW => ⟨⟨(), rfl, trivial, by rw [ht]; exact hP, va_K.moved hW.alike hK, hDD _⟩, hS.F ht⟩) hS.2.2 dX8_become_146
def m_x8_mark (p0 : Int32) (s : MS) : Option MS :=
  stn (sL s 1062 ((gL s 1062) ||| (shlL 1 p0))) (fun s1 => some s1)
set_option maxHeartbeats 4000000 in
set_option maxRecDepth 100000 in
theorem k_x8_mark (l : Launch) (D : va_G) (a : Nat → Nat) (p0 : Int32) (sz : Nat) (s : MS) (o : MS) (h : m_x8_mark p0 s = some o) : yWv l yX8_mark cX8_mark 2 none { frames := 0, cells := 0, slots := 0, locals := 0 } D sz [.ref (a 53), .int p0] (CS D a s) (CS D a o) := by
  refine Met.ofW (cc := cX8_mark) (maxL := 2) (ret := none) (by decide) rfl ?_
  intro p e s₀ m args below meth c s₁ B hml hv
  obtain ⟨rfl, ⟨hsz, hP, hK, hD0⟩, hN⟩ := hv
  have hx := B.exec
  have hb := B.bytes
  have hr := B.returns
  have hts := atoms_spec (ws := wz yX8_mark cX8_mark 2 none) B.pre
  have ht : ∀ w ∈ lw_gd, w.before _ s₀ = true := fun w h => hts w (List.mem_cons_of_mem _ h)
  have hown : s₀.vm.findClass RX8 = some m.cls := findClass_of_methodNamed B.named
  have hlocks := B.notSynchronized
  subst hsz
  have hD := hD0.self (sz := s₀.heap.size)
  generalize hAe : va_A (CS D a s) s₀.heap.size = A at hD ⊢
  have hA : ∀ q : Nat, s₀.heap.size ≤ q → A q := fun q h => by rw [← hAe]; exact Or.inr h
  have hS : va_S A s₀.heap s₀.heap [] := va_S.rf
  have hDD : ∀ t : MS, va_D A (CS D a t) := fun t => CW_D t hD
  have hl := lv_entry ([.ref (a 53), .int p0]) (n := 2) (Nat.le_of_ble_eq_true rfl)
  rw [lg_entry_eq]
  generalize (lg_sl ([.ref (a 53), .int p0]) ++ List.replicate (2 - (lg_sl ([.ref (a 53), .int p0])).length) Slot.unset).toArray = ls at hl ⊢
  have hl : lv_has ls 2 [(0, .ref (a 53)), (1, .int p0)] := hl
  unfold m_x8_mark at h
  refine lv_aload_n hx hb dX8_mark_0 rfl (lv_at hl 0 rfl) ?_
  refine lv_dup hx hb dX8_mark_1 rfl ?_
  refine va_get (D := D) (ci := 8) (v := .long (gL s 1062)) (C := RX8) (T := TX8) (N := 11) hx hb ht inX8 hown hK hP 53 CW_53 rfl 2 (by decide) (ht (.fieldLink RX8 47 "CloneVolumes$State" "written" "J") fl_X8_47) (fun _ h9 => h9) rfl dX8_mark_2 ?_
  refine lv_lconst (v := 1) hx hb dX8_mark_5 (by decide) ?_
  refine lv_iload_n hx hb dX8_mark_6 rfl (lv_at hl 1 rfl) ?_
  refine lv_lshl (v := shlL 1 p0) hx hb dX8_mark_7 rfl ?_
  refine lv_lor hx hb dX8_mark_8 ?_
  refine ya_put (D := D) (ci := 8) (v := .long ((gL s 1062) ||| (shlL 1 p0))) (ty := .long) (C := RX8) (T := TX8) (N := 11) hx hb ht inX8 tyX8 tyX8_ok nmX8 hown hK hP (hDD _) hS 53 CW_53 rfl 2 (by decide) (ht (.fieldLink RX8 47 "CloneVolumes$State" "written" "J") fl_X8_47) (fun _ h9 => h9) rfl (by decide +kernel) rfl rfl (Nat.le_of_ble_eq_true rfl) dX8_mark_9 (CW_w53_2 _) (fun H locs hP hS => ?_)
  obtain ⟨s1, hs1, h⟩ := st_e h
  rw [hs1] at hP
  obtain rfl := Option.some.inj h
  exact W.vret hx hb hr (fun t ht hW => ⟨⟨(), rfl, trivial, by rw [ht]; exact hP, va_K.moved hW.alike hK, hDD _⟩, hS.F ht⟩) hS.2.2 dX8_mark_12
def m_x8_insert_b47 (lr47 : Int32 → Int32 → Int32 → Int32 → Int32 → MS → Option MS) (x1 : Int32) (x2 : Int32) (x3 : Int32) (x4 : Int32) (x5 : Int32) (s6 : MS) : Option MS :=
  if x5 ≤ x4 then inb 288 x4 (stn (sA s6 58 (upd (gA s6 58) (Int32.toNatClampNeg x4) x2)) (fun s9 => inb 288 x4 (stn (sA s9 59 (upd (gA s9 59) (Int32.toNatClampNeg x4) x3)) (fun s11 => rdI (gA s11 57) 48 x1 (fun y12 => inb 48 x1 (stn (sA s11 57 (upd (gA s11 57) (Int32.toNatClampNeg x1) (y12 + 1))) (fun s14 => bn (m_x8_mark x1 s14) (fun s16 => some s16)))))))) else rdI (gA s6 58) 288 (x5 - 1) (fun y17 => inb 288 x5 (stn (sA s6 58 (upd (gA s6 58) (Int32.toNatClampNeg x5) y17)) (fun s19 => rdI (gA s19 59) 288 (x5 - 1) (fun y20 => inb 288 x5 (stn (sA s19 59 (upd (gA s19 59) (Int32.toNatClampNeg x5) y20)) (fun s22 => lr47 x1 x2 x3 x4 (x5 + (-1)) s22))))))
def m_x8_insert_L47 (n : Nat) : Int32 → Int32 → Int32 → Int32 → Int32 → MS → Option MS := lp (fun _ _ _ _ _ _ => none) (m_x8_insert_b47) n
def m_x8_insert_J25 (s23 : MS) : Option MS :=
  some s23
def m_x8_insert (p0 : Int32) (p1 : Int32) (p2 : Int32) (p3 : Int32) (s : MS) : Option MS :=
  if p1 < 0 then m_x8_insert_J25 s else rdI (gA s 57) 48 p0 (fun y25 => if y25 < p1 then m_x8_insert_J25 s else rdI (gA s 57) 48 p0 (fun y27 => if y27 < 6 then bn (m_x8_slot p0 p1 s) (fun r30 => rdI (gA s 57) 48 p0 (fun y31 => bn (m_x8_slot p0 y31 s) (fun r33 => m_x8_insert_L47 FU p0 p2 p3 r30 r33 s))) else m_x8_insert_J25 s))
set_option maxHeartbeats 4000000 in
set_option maxRecDepth 100000 in
theorem k_x8_insert (l : Launch) (D : va_G) (a : Nat → Nat) (p0 : Int32) (p1 : Int32) (p2 : Int32) (p3 : Int32) (sz : Nat) (s : MS) (o : MS) (h : m_x8_insert p0 p1 p2 p3 s = some o) : yWv l yX8_insert cX8_insert 7 none { frames := 1, cells := 0, slots := 0, locals := 60 } D sz [.ref (a 53), .int p0, .int p1, .int p2, .int p3] (CS D a s) (CS D a o) := by
  refine Met.ofW (cc := cX8_insert) (maxL := 7) (ret := none) (by decide) rfl ?_
  intro p e s₀ m args below meth c s₁ B hml hv
  obtain ⟨rfl, ⟨hsz, hP, hK, hD0⟩, hN⟩ := hv
  have hx := B.exec
  have hb := B.bytes
  have hr := B.returns
  have hts := atoms_spec (ws := wz yX8_insert cX8_insert 7 none) B.pre
  have ht : ∀ w ∈ lw_gd, w.before _ s₀ = true := fun w h => hts w (List.mem_cons_of_mem _ h)
  have hown : s₀.vm.findClass RX8 = some m.cls := findClass_of_methodNamed B.named
  have hlocks := B.notSynchronized
  subst hsz
  have hD := hD0.self (sz := s₀.heap.size)
  generalize hAe : va_A (CS D a s) s₀.heap.size = A at hD ⊢
  have hA : ∀ q : Nat, s₀.heap.size ≤ q → A q := fun q h => by rw [← hAe]; exact Or.inr h
  have hS : va_S A s₀.heap s₀.heap [] := va_S.rf
  have hDD : ∀ t : MS, va_D A (CS D a t) := fun t => CW_D t hD
  have hl := lv_entry ([.ref (a 53), .int p0, .int p1, .int p2, .int p3]) (n := 7) (Nat.le_of_ble_eq_true rfl)
  rw [lg_entry_eq]
  generalize (lg_sl ([.ref (a 53), .int p0, .int p1, .int p2, .int p3]) ++ List.replicate (7 - (lg_sl ([.ref (a 53), .int p0, .int p1, .int p2, .int p3])).length) Slot.unset).toArray = ls at hl ⊢
  have hl : lv_has ls 7 [(0, .ref (a 53)), (1, .int p0), (2, .int p1), (3, .int p2), (4, .int p3)] := hl
  unfold m_x8_insert at h
  refine y_loop (pcJ := 47) (σ := Int32 × Int32 × Int32 × Int32 × Int32 × MS) (fun n u H locs ls => va_P D vwCl (CS D a u.2.2.2.2.2) H ∧ va_S A s₀.heap H locs ∧ lv_has ls 7 [(0, .ref (a 53)), (1, .int u.1), (3, .int u.2.1), (4, .int u.2.2.1), (5, .int u.2.2.2.1), (6, .int u.2.2.2.2.1)] ∧ m_x8_insert_L47 n u.1 u.2.1 u.2.2.1 u.2.2.2.1 u.2.2.2.2.1 u.2.2.2.2.2 = some o) (fun u => []) (fun u H locs ls hI => by obtain ⟨_, _, _, h⟩ := hI; cases h) (fun n47 ih47 u H locs ls hI => ?_) (fun J47 => ?_)
  · obtain ⟨hP, hS, hl, h⟩ := hI
    obtain ⟨x1, x2, x3, x4, x5, s6⟩ := u
    have hP : va_P D vwCl (CS D a s6) H := hP
    have hl : lv_has ls 7 [(0, .ref (a 53)), (1, .int x1), (3, .int x2), (4, .int x3), (5, .int x4), (6, .int x5)] := hl
    have h : m_x8_insert_b47 (m_x8_insert_L47 n47) x1 x2 x3 x4 x5 s6 = some o := h
    unfold m_x8_insert_b47 at h
    refine lv_iload hx hb dX8_insert_47 (lv_at hl 5 rfl) ?_
    refine lv_iload hx hb dX8_insert_49 (lv_at hl 4 rfl) ?_
    refine lv_icmp_le (tgt := 92) hx hb dX8_insert_51 (by decide) (fun c7 => ?_) (fun c7 => ?_)
    · have h := if_t c7 h
      refine lv_aload_n hx hb dX8_insert_92 rfl (lv_at hl 0 rfl) ?_
      refine va_get (D := D) (ci := 8) (v := .ref (a 58)) (C := RX8) (T := TX8) (N := 11) hx hb ht inX8 hown hK hP 53 CW_53 rfl 7 (by decide) (ht (.fieldLink RX8 24 "CloneVolumes$State" "keys" "[I") fl_X8_24) (fun _ h9 => h9) rfl dX8_insert_93 ?_
      refine lv_iload hx hb dX8_insert_96 (lv_at hl 4 rfl) ?_
      refine lv_iload_n hx hb dX8_insert_98 rfl (lv_at hl 2 rfl) ?_
      obtain ⟨hi8, h⟩ := inb_e h
      refine ya_iast hx hb hK hP (hDD _) hS 58 0 CW_58 rfl hi8 dX8_insert_99 (CW_w58 _) (fun H locs hP hS => ?_)
      obtain ⟨s9, hs9, h⟩ := st_e h
      rw [hs9] at hP
      refine lv_aload_n hx hb dX8_insert_100 rfl (lv_at hl 0 rfl) ?_
      refine va_get (D := D) (ci := 8) (v := .ref (a 59)) (C := RX8) (T := TX8) (N := 11) hx hb ht inX8 hown hK hP 53 CW_53 rfl 8 (by decide) (ht (.fieldLink RX8 27 "CloneVolumes$State" "values" "[I") fl_X8_27) (fun _ h9 => h9) rfl dX8_insert_101 ?_
      refine lv_iload hx hb dX8_insert_104 (lv_at hl 4 rfl) ?_
      refine lv_iload hx hb dX8_insert_106 (lv_at hl 3 rfl) ?_
      obtain ⟨hi10, h⟩ := inb_e h
      refine ya_iast hx hb hK hP (hDD _) hS 59 0 CW_59 rfl hi10 dX8_insert_108 (CW_w59 _) (fun H locs hP hS => ?_)
      obtain ⟨s11, hs11, h⟩ := st_e h
      rw [hs11] at hP
      refine lv_aload_n hx hb dX8_insert_109 rfl (lv_at hl 0 rfl) ?_
      refine va_get (D := D) (ci := 8) (v := .ref (a 57)) (C := RX8) (T := TX8) (N := 11) hx hb ht inX8 hown hK hP 53 CW_53 rfl 6 (by decide) (ht (.fieldLink RX8 21 "CloneVolumes$State" "size" "[I") fl_X8_21) (fun _ h9 => h9) rfl dX8_insert_110 ?_
      refine lv_iload_n hx hb dX8_insert_113 rfl (lv_at hl 1 rfl) ?_
      refine lv_dup2_11 hx hb dX8_insert_114 rfl rfl ?_
      obtain ⟨y12, ey12, iy12, h⟩ := rdI_e h
      refine ya_iald hx hb hK hP 57 0 CW_57 rfl ey12 iy12 dX8_insert_115 ?_
      refine lv_iconst (v := 1) hx hb dX8_insert_116 (by decide) ?_
      refine lv_iadd hx hb dX8_insert_117 ?_
      obtain ⟨hi13, h⟩ := inb_e h
      refine ya_iast hx hb hK hP (hDD _) hS 57 0 CW_57 rfl hi13 dX8_insert_118 (CW_w57 _) (fun H locs hP hS => ?_)
      obtain ⟨s14, hs14, h⟩ := st_e h
      rw [hs14] at hP
      refine lv_aload_n hx hb dX8_insert_119 rfl (lv_at hl 0 rfl) ?_
      refine lv_iload_n hx hb dX8_insert_120 rfl (lv_at hl 1 rfl) ?_
      obtain ⟨s16, hc15, h⟩ := bn_e h
      refine ywVv (As := [.int x1]) (rest := []) (C := RX8) (n := 1) (ws' := CS D a s16) ⟨hx, hb, hml, hown, ht⟩ (k_x8_mark l D a x1 _ _ _ hc15) (zgV ml_X8_86 im_X8_mark se_X8_mark in_X8 co_X8_mark) rfl rfl (by decide +kernel) ⟨Nat.le_of_ble_eq_true rfl, Nat.le_of_ble_eq_true rfl⟩ hN hK hP (hDD _) hS hA 53 CW_53 rfl rfl rfl hl.1 rfl (Nat.le_of_ble_eq_true rfl) dX8_insert_121 ⟨Nat.le_of_ble_eq_true rfl, Nat.le_of_ble_eq_true rfl⟩ (fun H locs hP hS => ?_)
      obtain rfl := Option.some.inj h
      exact W.vret hx hb hr (fun t ht hW => ⟨⟨(), rfl, trivial, by rw [ht]; exact hP, va_K.moved hW.alike hK, hDD _⟩, hS.F ht⟩) hS.2.2 dX8_insert_124
    · have h := if_f c7 h
      refine lv_aload_n hx hb dX8_insert_54 rfl (lv_at hl 0 rfl) ?_
      refine va_get (D := D) (ci := 8) (v := .ref (a 58)) (C := RX8) (T := TX8) (N := 11) hx hb ht inX8 hown hK hP 53 CW_53 rfl 7 (by decide) (ht (.fieldLink RX8 24 "CloneVolumes$State" "keys" "[I") fl_X8_24) (fun _ h9 => h9) rfl dX8_insert_55 ?_
      refine lv_iload hx hb dX8_insert_58 (lv_at hl 5 rfl) ?_
      refine lv_aload_n hx hb dX8_insert_60 rfl (lv_at hl 0 rfl) ?_
      refine va_get (D := D) (ci := 8) (v := .ref (a 58)) (C := RX8) (T := TX8) (N := 11) hx hb ht inX8 hown hK hP 53 CW_53 rfl 7 (by decide) (ht (.fieldLink RX8 24 "CloneVolumes$State" "keys" "[I") fl_X8_24) (fun _ h9 => h9) rfl dX8_insert_61 ?_
      refine lv_iload hx hb dX8_insert_64 (lv_at hl 5 rfl) ?_
      refine lv_iconst (v := 1) hx hb dX8_insert_66 (by decide) ?_
      refine lv_isub hx hb dX8_insert_67 ?_
      obtain ⟨y17, ey17, iy17, h⟩ := rdI_e h
      refine ya_iald hx hb hK hP 58 0 CW_58 rfl ey17 iy17 dX8_insert_68 ?_
      obtain ⟨hi18, h⟩ := inb_e h
      refine ya_iast hx hb hK hP (hDD _) hS 58 0 CW_58 rfl hi18 dX8_insert_69 (CW_w58 _) (fun H locs hP hS => ?_)
      obtain ⟨s19, hs19, h⟩ := st_e h
      rw [hs19] at hP
      refine lv_aload_n hx hb dX8_insert_70 rfl (lv_at hl 0 rfl) ?_
      refine va_get (D := D) (ci := 8) (v := .ref (a 59)) (C := RX8) (T := TX8) (N := 11) hx hb ht inX8 hown hK hP 53 CW_53 rfl 8 (by decide) (ht (.fieldLink RX8 27 "CloneVolumes$State" "values" "[I") fl_X8_27) (fun _ h9 => h9) rfl dX8_insert_71 ?_
      refine lv_iload hx hb dX8_insert_74 (lv_at hl 5 rfl) ?_
      refine lv_aload_n hx hb dX8_insert_76 rfl (lv_at hl 0 rfl) ?_
      refine va_get (D := D) (ci := 8) (v := .ref (a 59)) (C := RX8) (T := TX8) (N := 11) hx hb ht inX8 hown hK hP 53 CW_53 rfl 8 (by decide) (ht (.fieldLink RX8 27 "CloneVolumes$State" "values" "[I") fl_X8_27) (fun _ h9 => h9) rfl dX8_insert_77 ?_
      refine lv_iload hx hb dX8_insert_80 (lv_at hl 5 rfl) ?_
      refine lv_iconst (v := 1) hx hb dX8_insert_82 (by decide) ?_
      refine lv_isub hx hb dX8_insert_83 ?_
      obtain ⟨y20, ey20, iy20, h⟩ := rdI_e h
      refine ya_iald hx hb hK hP 59 0 CW_59 rfl ey20 iy20 dX8_insert_84 ?_
      obtain ⟨hi21, h⟩ := inb_e h
      refine ya_iast hx hb hK hP (hDD _) hS 59 0 CW_59 rfl hi21 dX8_insert_85 (CW_w59 _) (fun H locs hP hS => ?_)
      obtain ⟨s22, hs22, h⟩ := st_e h
      rw [hs22] at hP
      refine lv_iinc (v := x5 + (-1)) (lv' := [(6, .int (x5 + (-1))), (0, .ref (a 53)), (1, .int x1), (3, .int x2), (4, .int x3), (5, .int x4)]) hx hb dX8_insert_86 hl (k := 5) rfl rfl (by decide) rfl (fun ls hl => ?_)
      refine lv_goto (tgt := 47) hx hb dX8_insert_89 (by decide) ?_
      exact ih47 (x1, x2, x3, x4, x5 + (-1), s22) _ _ _ ⟨hP, hS, lv_sub hl [1, 2, 3, 4, 5, 0] rfl, h⟩
  refine y_head (pcJ := 25) (σ := MS) (fun u H locs ls => va_P D vwCl (CS D a u) H ∧ va_S A s₀.heap H locs ∧ lv_has ls 7 [] ∧ m_x8_insert_J25 u = some o) (fun u => []) (fun u H locs ls hI => ?_) (fun J25 => ?_)
  · obtain ⟨hP, hS, hl, h⟩ := hI
    obtain ⟨s23, rfl⟩ : ∃ z, z = u := ⟨u, rfl⟩
    have hP : va_P D vwCl (CS D a s23) H := hP
    have hl : lv_has ls 7 [] := hl
    have h : m_x8_insert_J25 s23 = some o := h
    unfold m_x8_insert_J25 at h
    obtain rfl := Option.some.inj h
    exact W.vret hx hb hr (fun t ht hW => ⟨⟨(), rfl, trivial, by rw [ht]; exact hP, va_K.moved hW.alike hK, hDD _⟩, hS.F ht⟩) hS.2.2 dX8_insert_25
  refine lv_iload_n hx hb dX8_insert_0 rfl (lv_at hl 2 rfl) ?_
  refine lv_if_lt (tgt := 25) hx hb dX8_insert_1 (by decide) (fun c24 => ?_) (fun c24 => ?_)
  · have h := if_t c24 h
    exact J25 s _ _ _ ⟨hP, hS, lv_sub hl [] rfl, h⟩
  · have h := if_f c24 h
    refine lv_iload_n hx hb dX8_insert_4 rfl (lv_at hl 2 rfl) ?_
    refine lv_aload_n hx hb dX8_insert_5 rfl (lv_at hl 0 rfl) ?_
    refine va_get (D := D) (ci := 8) (v := .ref (a 57)) (C := RX8) (T := TX8) (N := 11) hx hb ht inX8 hown hK hP 53 CW_53 rfl 6 (by decide) (ht (.fieldLink RX8 21 "CloneVolumes$State" "size" "[I") fl_X8_21) (fun _ h9 => h9) rfl dX8_insert_6 ?_
    refine lv_iload_n hx hb dX8_insert_9 rfl (lv_at hl 1 rfl) ?_
    obtain ⟨y25, ey25, iy25, h⟩ := rdI_e h
    refine ya_iald hx hb hK hP 57 0 CW_57 rfl ey25 iy25 dX8_insert_10 ?_
    refine lv_icmp_gt (tgt := 25) hx hb dX8_insert_11 (by decide) (fun c26 => ?_) (fun c26 => ?_)
    · have h := if_t c26 h
      exact J25 s _ _ _ ⟨hP, hS, lv_sub hl [] rfl, h⟩
    · have h := if_f c26 h
      refine lv_aload_n hx hb dX8_insert_14 rfl (lv_at hl 0 rfl) ?_
      refine va_get (D := D) (ci := 8) (v := .ref (a 57)) (C := RX8) (T := TX8) (N := 11) hx hb ht inX8 hown hK hP 53 CW_53 rfl 6 (by decide) (ht (.fieldLink RX8 21 "CloneVolumes$State" "size" "[I") fl_X8_21) (fun _ h9 => h9) rfl dX8_insert_15 ?_
      refine lv_iload_n hx hb dX8_insert_18 rfl (lv_at hl 1 rfl) ?_
      obtain ⟨y27, ey27, iy27, h⟩ := rdI_e h
      refine ya_iald hx hb hK hP 57 0 CW_57 rfl ey27 iy27 dX8_insert_19 ?_
      refine lv_bipush (v := 6) hx hb dX8_insert_20 (by decide) ?_
      refine lv_icmp_lt (tgt := 26) hx hb dX8_insert_22 (by decide) (fun c28 => ?_) (fun c28 => ?_)
      · have h := if_t c28 h
        refine lv_aload_n hx hb dX8_insert_26 rfl (lv_at hl 0 rfl) ?_
        refine lv_iload_n hx hb dX8_insert_27 rfl (lv_at hl 1 rfl) ?_
        refine lv_iload_n hx hb dX8_insert_28 rfl (lv_at hl 2 rfl) ?_
        obtain ⟨r30, hc29, h⟩ := bn_e h
        refine ycV (As := [.int p0, .int p1]) (rest := []) (C := RX8) (n := 2) ⟨hx, hb, hml, hown, ht⟩ (k_x8_slot l D a p0 p1 _ _ hc29) (zgV ml_X8_73 im_X8_slot se_X8_slot in_X8 co_X8_slot) rfl rfl (by decide +kernel) ⟨Nat.le_of_ble_eq_true rfl, Nat.le_of_ble_eq_true rfl⟩ hN hK hP hS 53 CW_53 rfl rfl rfl hl.1 rfl (Nat.le_of_ble_eq_true rfl) dX8_insert_29 ⟨Nat.le_of_ble_eq_true rfl, Nat.le_of_ble_eq_true rfl⟩ (fun H locs hP hS => ?_)
        refine lv_istore (lv' := [(5, .int r30), (0, .ref (a 53)), (1, .int p0), (2, .int p1), (3, .int p2), (4, .int p3)]) hx hb dX8_insert_32 hl (by decide) rfl (fun ls hl => ?_)
        refine lv_aload_n hx hb dX8_insert_34 rfl (lv_at hl 1 rfl) ?_
        refine lv_iload_n hx hb dX8_insert_35 rfl (lv_at hl 2 rfl) ?_
        refine lv_aload_n hx hb dX8_insert_36 rfl (lv_at hl 1 rfl) ?_
        refine va_get (D := D) (ci := 8) (v := .ref (a 57)) (C := RX8) (T := TX8) (N := 11) hx hb ht inX8 hown hK hP 53 CW_53 rfl 6 (by decide) (ht (.fieldLink RX8 21 "CloneVolumes$State" "size" "[I") fl_X8_21) (fun _ h9 => h9) rfl dX8_insert_37 ?_
        refine lv_iload_n hx hb dX8_insert_40 rfl (lv_at hl 2 rfl) ?_
        obtain ⟨y31, ey31, iy31, h⟩ := rdI_e h
        refine ya_iald hx hb hK hP 57 0 CW_57 rfl ey31 iy31 dX8_insert_41 ?_
        obtain ⟨r33, hc32, h⟩ := bn_e h
        refine ycV (As := [.int p0, .int y31]) (rest := []) (C := RX8) (n := 2) ⟨hx, hb, hml, hown, ht⟩ (k_x8_slot l D a p0 y31 _ _ hc32) (zgV ml_X8_73 im_X8_slot se_X8_slot in_X8 co_X8_slot) rfl rfl (by decide +kernel) ⟨Nat.le_of_ble_eq_true rfl, Nat.le_of_ble_eq_true rfl⟩ hN hK hP hS 53 CW_53 rfl rfl rfl hl.1 rfl (Nat.le_of_ble_eq_true rfl) dX8_insert_42 ⟨Nat.le_of_ble_eq_true rfl, Nat.le_of_ble_eq_true rfl⟩ (fun H locs hP hS => ?_)
        refine lv_istore (lv' := [(6, .int r33), (5, .int r30), (0, .ref (a 53)), (1, .int p0), (2, .int p1), (3, .int p2), (4, .int p3)]) hx hb dX8_insert_45 hl (by decide) rfl (fun ls hl => ?_)
        exact J47 FU (p0, p2, p3, r30, r33, s) _ _ _ ⟨hP, hS, lv_sub hl [2, 3, 5, 6, 1, 0] rfl, h⟩
      · have h := if_f c28 h
        exact J25 s _ _ _ ⟨hP, hS, lv_sub hl [] rfl, h⟩
def m_x8_set_J32 (s1 : MS) : Option MS :=
  some s1
def m_x8_set (p0 : Int32) (p1 : Int32) (p2 : Int32) (s : MS) : Option MS :=
  bn (m_x8_slot p0 p1 s) (fun r3 => rdI (gA s 59) 288 r3 (fun y4 => if y4 = p2 then m_x8_set_J32 s else inb 288 r3 (stn (sA s 59 (upd (gA s 59) (Int32.toNatClampNeg r3) p2)) (fun s7 => bn (m_x8_mark p0 s7) (fun s9 => m_x8_set_J32 s9)))))
set_option maxHeartbeats 4000000 in
set_option maxRecDepth 100000 in
theorem k_x8_set (l : Launch) (D : va_G) (a : Nat → Nat) (p0 : Int32) (p1 : Int32) (p2 : Int32) (sz : Nat) (s : MS) (o : MS) (h : m_x8_set p0 p1 p2 s = some o) : yWv l yX8_set cX8_set 5 none { frames := 1, cells := 0, slots := 0, locals := 60 } D sz [.ref (a 53), .int p0, .int p1, .int p2] (CS D a s) (CS D a o) := by
  refine Met.ofW (cc := cX8_set) (maxL := 5) (ret := none) (by decide) rfl ?_
  intro p e s₀ m args below meth c s₁ B hml hv
  obtain ⟨rfl, ⟨hsz, hP, hK, hD0⟩, hN⟩ := hv
  have hx := B.exec
  have hb := B.bytes
  have hr := B.returns
  have hts := atoms_spec (ws := wz yX8_set cX8_set 5 none) B.pre
  have ht : ∀ w ∈ lw_gd, w.before _ s₀ = true := fun w h => hts w (List.mem_cons_of_mem _ h)
  have hown : s₀.vm.findClass RX8 = some m.cls := findClass_of_methodNamed B.named
  have hlocks := B.notSynchronized
  subst hsz
  have hD := hD0.self (sz := s₀.heap.size)
  generalize hAe : va_A (CS D a s) s₀.heap.size = A at hD ⊢
  have hA : ∀ q : Nat, s₀.heap.size ≤ q → A q := fun q h => by rw [← hAe]; exact Or.inr h
  have hS : va_S A s₀.heap s₀.heap [] := va_S.rf
  have hDD : ∀ t : MS, va_D A (CS D a t) := fun t => CW_D t hD
  have hl := lv_entry ([.ref (a 53), .int p0, .int p1, .int p2]) (n := 5) (Nat.le_of_ble_eq_true rfl)
  rw [lg_entry_eq]
  generalize (lg_sl ([.ref (a 53), .int p0, .int p1, .int p2]) ++ List.replicate (5 - (lg_sl ([.ref (a 53), .int p0, .int p1, .int p2])).length) Slot.unset).toArray = ls at hl ⊢
  have hl : lv_has ls 5 [(0, .ref (a 53)), (1, .int p0), (2, .int p1), (3, .int p2)] := hl
  unfold m_x8_set at h
  refine y_head (pcJ := 32) (σ := MS) (fun u H locs ls => va_P D vwCl (CS D a u) H ∧ va_S A s₀.heap H locs ∧ lv_has ls 5 [] ∧ m_x8_set_J32 u = some o) (fun u => []) (fun u H locs ls hI => ?_) (fun J32 => ?_)
  · obtain ⟨hP, hS, hl, h⟩ := hI
    obtain ⟨s1, rfl⟩ : ∃ z, z = u := ⟨u, rfl⟩
    have hP : va_P D vwCl (CS D a s1) H := hP
    have hl : lv_has ls 5 [] := hl
    have h : m_x8_set_J32 s1 = some o := h
    unfold m_x8_set_J32 at h
    obtain rfl := Option.some.inj h
    exact W.vret hx hb hr (fun t ht hW => ⟨⟨(), rfl, trivial, by rw [ht]; exact hP, va_K.moved hW.alike hK, hDD _⟩, hS.F ht⟩) hS.2.2 dX8_set_32
  refine lv_aload_n hx hb dX8_set_0 rfl (lv_at hl 0 rfl) ?_
  refine lv_iload_n hx hb dX8_set_1 rfl (lv_at hl 1 rfl) ?_
  refine lv_iload_n hx hb dX8_set_2 rfl (lv_at hl 2 rfl) ?_
  obtain ⟨r3, hc2, h⟩ := bn_e h
  refine ycV (As := [.int p0, .int p1]) (rest := []) (C := RX8) (n := 2) ⟨hx, hb, hml, hown, ht⟩ (k_x8_slot l D a p0 p1 _ _ hc2) (zgV ml_X8_73 im_X8_slot se_X8_slot in_X8 co_X8_slot) rfl rfl (by decide +kernel) ⟨Nat.le_of_ble_eq_true rfl, Nat.le_of_ble_eq_true rfl⟩ hN hK hP hS 53 CW_53 rfl rfl rfl hl.1 rfl (Nat.le_of_ble_eq_true rfl) dX8_set_3 ⟨Nat.le_of_ble_eq_true rfl, Nat.le_of_ble_eq_true rfl⟩ (fun H locs hP hS => ?_)
  refine lv_istore (lv' := [(4, .int r3), (0, .ref (a 53)), (1, .int p0), (2, .int p1), (3, .int p2)]) hx hb dX8_set_6 hl (by decide) rfl (fun ls hl => ?_)
  refine lv_aload_n hx hb dX8_set_8 rfl (lv_at hl 1 rfl) ?_
  refine va_get (D := D) (ci := 8) (v := .ref (a 59)) (C := RX8) (T := TX8) (N := 11) hx hb ht inX8 hown hK hP 53 CW_53 rfl 8 (by decide) (ht (.fieldLink RX8 27 "CloneVolumes$State" "values" "[I") fl_X8_27) (fun _ h9 => h9) rfl dX8_set_9 ?_
  refine lv_iload hx hb dX8_set_12 (lv_at hl 0 rfl) ?_
  obtain ⟨y4, ey4, iy4, h⟩ := rdI_e h
  refine ya_iald hx hb hK hP 59 0 CW_59 rfl ey4 iy4 dX8_set_14 ?_
  refine lv_iload_n hx hb dX8_set_15 rfl (lv_at hl 4 rfl) ?_
  refine lv_icmp_eq (tgt := 32) hx hb dX8_set_16 (by decide) (fun c5 => ?_) (fun c5 => ?_)
  · have h := if_t c5 h
    exact J32 s _ _ _ ⟨hP, hS, lv_sub hl [] rfl, h⟩
  · have h := if_f c5 h
    refine lv_aload_n hx hb dX8_set_19 rfl (lv_at hl 1 rfl) ?_
    refine va_get (D := D) (ci := 8) (v := .ref (a 59)) (C := RX8) (T := TX8) (N := 11) hx hb ht inX8 hown hK hP 53 CW_53 rfl 8 (by decide) (ht (.fieldLink RX8 27 "CloneVolumes$State" "values" "[I") fl_X8_27) (fun _ h9 => h9) rfl dX8_set_20 ?_
    refine lv_iload hx hb dX8_set_23 (lv_at hl 0 rfl) ?_
    refine lv_iload_n hx hb dX8_set_25 rfl (lv_at hl 4 rfl) ?_
    obtain ⟨hi6, h⟩ := inb_e h
    refine ya_iast hx hb hK hP (hDD _) hS 59 0 CW_59 rfl hi6 dX8_set_26 (CW_w59 _) (fun H locs hP hS => ?_)
    obtain ⟨s7, hs7, h⟩ := st_e h
    rw [hs7] at hP
    refine lv_aload_n hx hb dX8_set_27 rfl (lv_at hl 1 rfl) ?_
    refine lv_iload_n hx hb dX8_set_28 rfl (lv_at hl 2 rfl) ?_
    obtain ⟨s9, hc8, h⟩ := bn_e h
    refine ywVv (As := [.int p0]) (rest := []) (C := RX8) (n := 1) (ws' := CS D a s9) ⟨hx, hb, hml, hown, ht⟩ (k_x8_mark l D a p0 _ _ _ hc8) (zgV ml_X8_86 im_X8_mark se_X8_mark in_X8 co_X8_mark) rfl rfl (by decide +kernel) ⟨Nat.le_of_ble_eq_true rfl, Nat.le_of_ble_eq_true rfl⟩ hN hK hP (hDD _) hS hA 53 CW_53 rfl rfl rfl hl.1 rfl (Nat.le_of_ble_eq_true rfl) dX8_set_29 ⟨Nat.le_of_ble_eq_true rfl, Nat.le_of_ble_eq_true rfl⟩ (fun H locs hP hS => ?_)
    exact J32 s9 _ _ _ ⟨hP, hS, lv_sub hl [] rfl, h⟩
def m_x1_plantLow_J78 (lr35 : Int32 → Int32 → Int32 → Int32 → Int32 → MS → Option MS) (x7 : Int32) (x8 : Int32) (x9 : Int32) (x10 : Int32) (x11 : Int32) (x12 : Int32) (s13 : MS) : Option MS :=
  lr35 x7 x8 x9 (x12 + x11) (x10 + 1) s13
def m_x1_plantLow_b35 (lr35 : Int32 → Int32 → Int32 → Int32 → Int32 → MS → Option MS) (x1 : Int32) (x2 : Int32) (x3 : Int32) (x4 : Int32) (x5 : Int32) (s6 : MS) : Option MS :=
  rdI (gA s6 57) 48 x1 (fun y14 => if y14 ≤ x5 then bn (m_x8_insert x1 x4 x2 x3 s6) (fun s17 => some s17) else bn (m_x8_slot x1 x5 s6) (fun r19 => rdI (gA s6 58) 288 r19 (fun y20 => if x2 ≤ y20 then m_x1_plantLow_J78 lr35 x1 x2 x3 x5 0 x4 s6 else m_x1_plantLow_J78 lr35 x1 x2 x3 x5 1 x4 s6)))
def m_x1_plantLow_L35 (n : Nat) : Int32 → Int32 → Int32 → Int32 → Int32 → MS → Option MS := lp (fun _ _ _ _ _ _ => none) (m_x1_plantLow_b35) n
def m_x1_plantLow (p0 : Int32) (p1 : Int32) (p2 : Int32) (s : MS) : Option MS :=
  bn (m_x8_find p0 p1 s) (fun r23 => if r23 = (-1) then m_x1_plantLow_L35 FU p0 p1 p2 0 0 s else bn (m_x8_set p0 r23 p2 s) (fun s26 => some s26))
set_option maxHeartbeats 4000000 in
set_option maxRecDepth 100000 in
theorem k_x1_plantLow (l : Launch) (D : va_G) (a : Nat → Nat) (p0 : Int32) (p1 : Int32) (p2 : Int32) (sz : Nat) (s : MS) (o : MS) (h : m_x1_plantLow p0 p1 p2 s = some o) : yWv l yX1_plantLow cX1_plantLow 7 none { frames := 2, cells := 0, slots := 0, locals := 120 } D sz [.ref (a 49), .int p0, .int p1, .int p2] (CS D a s) (CS D a o) := by
  refine Met.ofW (cc := cX1_plantLow) (maxL := 7) (ret := none) (by decide) rfl ?_
  intro p e s₀ m args below meth c s₁ B hml hv
  obtain ⟨rfl, ⟨hsz, hP, hK, hD0⟩, hN⟩ := hv
  have hx := B.exec
  have hb := B.bytes
  have hr := B.returns
  have hts := atoms_spec (ws := wz yX1_plantLow cX1_plantLow 7 none) B.pre
  have ht : ∀ w ∈ lw_gd, w.before _ s₀ = true := fun w h => hts w (List.mem_cons_of_mem _ h)
  have hown : s₀.vm.findClass RX1 = some m.cls := findClass_of_methodNamed B.named
  have hlocks := B.notSynchronized
  subst hsz
  have hD := hD0.self (sz := s₀.heap.size)
  generalize hAe : va_A (CS D a s) s₀.heap.size = A at hD ⊢
  have hA : ∀ q : Nat, s₀.heap.size ≤ q → A q := fun q h => by rw [← hAe]; exact Or.inr h
  have hS : va_S A s₀.heap s₀.heap [] := va_S.rf
  have hDD : ∀ t : MS, va_D A (CS D a t) := fun t => CW_D t hD
  have hl := lv_entry ([.ref (a 49), .int p0, .int p1, .int p2]) (n := 7) (Nat.le_of_ble_eq_true rfl)
  rw [lg_entry_eq]
  generalize (lg_sl ([.ref (a 49), .int p0, .int p1, .int p2]) ++ List.replicate (7 - (lg_sl ([.ref (a 49), .int p0, .int p1, .int p2])).length) Slot.unset).toArray = ls at hl ⊢
  have hl : lv_has ls 7 [(0, .ref (a 49)), (1, .int p0), (2, .int p1), (3, .int p2)] := hl
  unfold m_x1_plantLow at h
  refine y_loop (pcJ := 35) (σ := Int32 × Int32 × Int32 × Int32 × Int32 × MS) (fun n u H locs ls => va_P D vwCl (CS D a u.2.2.2.2.2) H ∧ va_S A s₀.heap H locs ∧ lv_has ls 7 [(0, .ref (a 49)), (1, .int u.1), (2, .int u.2.1), (3, .int u.2.2.1), (5, .int u.2.2.2.1), (6, .int u.2.2.2.2.1)] ∧ m_x1_plantLow_L35 n u.1 u.2.1 u.2.2.1 u.2.2.2.1 u.2.2.2.2.1 u.2.2.2.2.2 = some o) (fun u => []) (fun u H locs ls hI => by obtain ⟨_, _, _, h⟩ := hI; cases h) (fun n35 ih35 u H locs ls hI => ?_) (fun J35 => ?_)
  · obtain ⟨hP, hS, hl, h⟩ := hI
    obtain ⟨x1, x2, x3, x4, x5, s6⟩ := u
    have hP : va_P D vwCl (CS D a s6) H := hP
    have hl : lv_has ls 7 [(0, .ref (a 49)), (1, .int x1), (2, .int x2), (3, .int x3), (5, .int x4), (6, .int x5)] := hl
    have h : m_x1_plantLow_b35 (m_x1_plantLow_L35 n35) x1 x2 x3 x4 x5 s6 = some o := h
    unfold m_x1_plantLow_b35 at h
    refine y_head (pcJ := 78) (σ := Int32 × Int32 × Int32 × Int32 × Int32 × Int32 × MS) (fun u H locs ls => va_P D vwCl (CS D a u.2.2.2.2.2.2) H ∧ va_S A s₀.heap H locs ∧ lv_has ls 7 [(0, .ref (a 49)), (1, .int u.1), (2, .int u.2.1), (3, .int u.2.2.1), (6, .int u.2.2.2.1)] ∧ m_x1_plantLow_J78 (m_x1_plantLow_L35 n35) u.1 u.2.1 u.2.2.1 u.2.2.2.1 u.2.2.2.2.1 u.2.2.2.2.2.1 u.2.2.2.2.2.2 = some o) (fun u => [.int u.2.2.2.2.1, .int u.2.2.2.2.2.1]) (fun u H locs ls hI => ?_) (fun J78 => ?_)
    · obtain ⟨hP, hS, hl, h⟩ := hI
      obtain ⟨x7, x8, x9, x10, x11, x12, s13⟩ := u
      have hP : va_P D vwCl (CS D a s13) H := hP
      have hl : lv_has ls 7 [(0, .ref (a 49)), (1, .int x7), (2, .int x8), (3, .int x9), (6, .int x10)] := hl
      have h : m_x1_plantLow_J78 (m_x1_plantLow_L35 n35) x7 x8 x9 x10 x11 x12 s13 = some o := h
      unfold m_x1_plantLow_J78 at h
      refine lv_iadd hx hb dX1_plantLow_78 ?_
      refine lv_istore (lv' := [(5, .int (x12 + x11)), (0, .ref (a 49)), (1, .int x7), (2, .int x8), (3, .int x9), (6, .int x10)]) hx hb dX1_plantLow_79 hl (by decide) rfl (fun ls hl => ?_)
      refine lv_iinc (v := x10 + 1) (lv' := [(6, .int (x10 + 1)), (5, .int (x12 + x11)), (0, .ref (a 49)), (1, .int x7), (2, .int x8), (3, .int x9)]) hx hb dX1_plantLow_81 hl (k := 5) rfl rfl (by decide) rfl (fun ls hl => ?_)
      refine lv_goto (tgt := 35) hx hb dX1_plantLow_84 (by decide) ?_
      exact ih35 (x7, x8, x9, x12 + x11, x10 + 1, s13) _ _ _ ⟨hP, hS, lv_sub hl [2, 3, 4, 5, 1, 0] rfl, h⟩
    refine lv_iload hx hb dX1_plantLow_35 (lv_at hl 5 rfl) ?_
    refine lv_aload_n hx hb dX1_plantLow_37 rfl (lv_at hl 0 rfl) ?_
    refine va_get (D := D) (ci := 1) (v := .ref (a 53)) (C := RX1) (T := TX1) (N := 9) hx hb ht inX1 hown hK hP 49 CW_49 rfl 0 (by decide) (ht (.fieldLink RX1 12 "CloneVolumes$Forest" "now" "LCloneVolumes$State;") fl_X1_12) (fun _ h9 => h9) rfl dX1_plantLow_38 ?_
    refine va_get (D := D) (ci := 8) (v := .ref (a 57)) (C := RX8) (T := TX8) (N := 11) hx hb ht inX8 hown hK hP 53 CW_53 rfl 6 (by decide) (ht (.fieldLink RX1 155 "CloneVolumes$State" "size" "[I") fl_X1_155) (fun _ h9 => h9) rfl dX1_plantLow_41 ?_
    refine lv_iload_n hx hb dX1_plantLow_44 rfl (lv_at hl 1 rfl) ?_
    obtain ⟨y14, ey14, iy14, h⟩ := rdI_e h
    refine ya_iald hx hb hK hP 57 0 CW_57 rfl ey14 iy14 dX1_plantLow_45 ?_
    refine lv_icmp_ge (tgt := 87) hx hb dX1_plantLow_46 (by decide) (fun c15 => ?_) (fun c15 => ?_)
    · have h := if_t c15 h
      refine lv_aload_n hx hb dX1_plantLow_87 rfl (lv_at hl 0 rfl) ?_
      refine va_get (D := D) (ci := 1) (v := .ref (a 53)) (C := RX1) (T := TX1) (N := 9) hx hb ht inX1 hown hK hP 49 CW_49 rfl 0 (by decide) (ht (.fieldLink RX1 12 "CloneVolumes$Forest" "now" "LCloneVolumes$State;") fl_X1_12) (fun _ h9 => h9) rfl dX1_plantLow_88 ?_
      refine lv_iload_n hx hb dX1_plantLow_91 rfl (lv_at hl 1 rfl) ?_
      refine lv_iload hx hb dX1_plantLow_92 (lv_at hl 4 rfl) ?_
      refine lv_iload_n hx hb dX1_plantLow_94 rfl (lv_at hl 2 rfl) ?_
      refine lv_iload_n hx hb dX1_plantLow_95 rfl (lv_at hl 3 rfl) ?_
      obtain ⟨s17, hc16, h⟩ := bn_e h
      refine ywVv (As := [.int x1, .int x4, .int x2, .int x3]) (rest := []) (C := RX8) (n := 4) (ws' := CS D a s17) ⟨hx, hb, hml, hown, ht⟩ (k_x8_insert l D a x1 x4 x2 x3 _ _ _ hc16) (zgV ml_X1_258 im_X8_insert se_X8_insert in_X8 co_X8_insert) rfl rfl (by decide +kernel) ⟨Nat.le_of_ble_eq_true rfl, Nat.le_of_ble_eq_true rfl⟩ hN hK hP (hDD _) hS hA 53 CW_53 rfl rfl rfl hl.1 rfl (Nat.le_of_ble_eq_true rfl) dX1_plantLow_96 ⟨Nat.le_of_ble_eq_true rfl, Nat.le_of_ble_eq_true rfl⟩ (fun H locs hP hS => ?_)
      obtain rfl := Option.some.inj h
      exact W.vret hx hb hr (fun t ht hW => ⟨⟨(), rfl, trivial, by rw [ht]; exact hP, va_K.moved hW.alike hK, hDD _⟩, hS.F ht⟩) hS.2.2 dX1_plantLow_99
    · have h := if_f c15 h
      refine lv_iload hx hb dX1_plantLow_49 (lv_at hl 4 rfl) ?_
      refine lv_aload_n hx hb dX1_plantLow_51 rfl (lv_at hl 0 rfl) ?_
      refine va_get (D := D) (ci := 1) (v := .ref (a 53)) (C := RX1) (T := TX1) (N := 9) hx hb ht inX1 hown hK hP 49 CW_49 rfl 0 (by decide) (ht (.fieldLink RX1 12 "CloneVolumes$Forest" "now" "LCloneVolumes$State;") fl_X1_12) (fun _ h9 => h9) rfl dX1_plantLow_52 ?_
      refine va_get (D := D) (ci := 8) (v := .ref (a 58)) (C := RX8) (T := TX8) (N := 11) hx hb ht inX8 hown hK hP 53 CW_53 rfl 7 (by decide) (ht (.fieldLink RX1 227 "CloneVolumes$State" "keys" "[I") fl_X1_227) (fun _ h9 => h9) rfl dX1_plantLow_55 ?_
      refine lv_aload_n hx hb dX1_plantLow_58 rfl (lv_at hl 0 rfl) ?_
      refine va_get (D := D) (ci := 1) (v := .ref (a 53)) (C := RX1) (T := TX1) (N := 9) hx hb ht inX1 hown hK hP 49 CW_49 rfl 0 (by decide) (ht (.fieldLink RX1 12 "CloneVolumes$Forest" "now" "LCloneVolumes$State;") fl_X1_12) (fun _ h9 => h9) rfl dX1_plantLow_59 ?_
      refine lv_iload_n hx hb dX1_plantLow_62 rfl (lv_at hl 1 rfl) ?_
      refine lv_iload hx hb dX1_plantLow_63 (lv_at hl 5 rfl) ?_
      obtain ⟨r19, hc18, h⟩ := bn_e h
      refine ycV (As := [.int x1, .int x5]) (rest := [.ref (a 58), .int x4]) (C := RX8) (n := 2) ⟨hx, hb, hml, hown, ht⟩ (k_x8_slot l D a x1 x5 _ _ hc18) (zgV ml_X1_220 im_X8_slot se_X8_slot in_X8 co_X8_slot) rfl rfl (by decide +kernel) ⟨Nat.le_of_ble_eq_true rfl, Nat.le_of_ble_eq_true rfl⟩ hN hK hP hS 53 CW_53 rfl rfl rfl hl.1 rfl (Nat.le_of_ble_eq_true rfl) dX1_plantLow_65 ⟨Nat.le_of_ble_eq_true rfl, Nat.le_of_ble_eq_true rfl⟩ (fun H locs hP hS => ?_)
      obtain ⟨y20, ey20, iy20, h⟩ := rdI_e h
      refine ya_iald hx hb hK hP 58 0 CW_58 rfl ey20 iy20 dX1_plantLow_68 ?_
      refine lv_iload_n hx hb dX1_plantLow_69 rfl (lv_at hl 2 rfl) ?_
      refine lv_icmp_ge (tgt := 77) hx hb dX1_plantLow_70 (by decide) (fun c21 => ?_) (fun c21 => ?_)
      · have h := if_t c21 h
        refine lv_iconst (v := 0) hx hb dX1_plantLow_77 (by decide) ?_
        exact J78 (x1, x2, x3, x5, 0, x4, s6) _ _ _ ⟨hP, hS, lv_sub hl [0, 1, 2, 3, 5] rfl, h⟩
      · have h := if_f c21 h
        refine lv_iconst (v := 1) hx hb dX1_plantLow_73 (by decide) ?_
        refine lv_goto (tgt := 78) hx hb dX1_plantLow_74 (by decide) ?_
        exact J78 (x1, x2, x3, x5, 1, x4, s6) _ _ _ ⟨hP, hS, lv_sub hl [0, 1, 2, 3, 5] rfl, h⟩
  refine lv_aload_n hx hb dX1_plantLow_0 rfl (lv_at hl 0 rfl) ?_
  refine va_get (D := D) (ci := 1) (v := .ref (a 53)) (C := RX1) (T := TX1) (N := 9) hx hb ht inX1 hown hK hP 49 CW_49 rfl 0 (by decide) (ht (.fieldLink RX1 12 "CloneVolumes$Forest" "now" "LCloneVolumes$State;") fl_X1_12) (fun _ h9 => h9) rfl dX1_plantLow_1 ?_
  refine lv_iload_n hx hb dX1_plantLow_4 rfl (lv_at hl 1 rfl) ?_
  refine lv_iload_n hx hb dX1_plantLow_5 rfl (lv_at hl 2 rfl) ?_
  obtain ⟨r23, hc22, h⟩ := bn_e h
  refine ycV (As := [.int p0, .int p1]) (rest := []) (C := RX8) (n := 2) ⟨hx, hb, hml, hown, ht⟩ (k_x8_find l D a p0 p1 _ _ hc22) (zgV ml_X1_262 im_X8_find se_X8_find in_X8 co_X8_find) rfl rfl (by decide +kernel) ⟨Nat.le_of_ble_eq_true rfl, Nat.le_of_ble_eq_true rfl⟩ hN hK hP hS 53 CW_53 rfl rfl rfl hl.1 rfl (Nat.le_of_ble_eq_true rfl) dX1_plantLow_6 ⟨Nat.le_of_ble_eq_true rfl, Nat.le_of_ble_eq_true rfl⟩ (fun H locs hP hS => ?_)
  refine lv_istore (lv' := [(4, .int r23), (0, .ref (a 49)), (1, .int p0), (2, .int p1), (3, .int p2)]) hx hb dX1_plantLow_9 hl (by decide) rfl (fun ls hl => ?_)
  refine lv_iload hx hb dX1_plantLow_11 (lv_at hl 0 rfl) ?_
  refine lv_iconst (v := (-1)) hx hb dX1_plantLow_13 (by decide) ?_
  refine lv_icmp_eq (tgt := 29) hx hb dX1_plantLow_14 (by decide) (fun c24 => ?_) (fun c24 => ?_)
  · have h := if_t c24 h
    refine lv_iconst (v := 0) hx hb dX1_plantLow_29 (by decide) ?_
    refine lv_istore (lv' := [(5, .int 0), (4, .int r23), (0, .ref (a 49)), (1, .int p0), (2, .int p1), (3, .int p2)]) hx hb dX1_plantLow_30 hl (by decide) rfl (fun ls hl => ?_)
    refine lv_iconst (v := 0) hx hb dX1_plantLow_32 (by decide) ?_
    refine lv_istore (lv' := [(6, .int 0), (5, .int 0), (4, .int r23), (0, .ref (a 49)), (1, .int p0), (2, .int p1), (3, .int p2)]) hx hb dX1_plantLow_33 hl (by decide) rfl (fun ls hl => ?_)
    exact J35 FU (p0, p1, p2, 0, 0, s) _ _ _ ⟨hP, hS, lv_sub hl [3, 4, 5, 6, 1, 0] rfl, h⟩
  · have h := if_f c24 h
    refine lv_aload_n hx hb dX1_plantLow_17 rfl (lv_at hl 1 rfl) ?_
    refine va_get (D := D) (ci := 1) (v := .ref (a 53)) (C := RX1) (T := TX1) (N := 9) hx hb ht inX1 hown hK hP 49 CW_49 rfl 0 (by decide) (ht (.fieldLink RX1 12 "CloneVolumes$Forest" "now" "LCloneVolumes$State;") fl_X1_12) (fun _ h9 => h9) rfl dX1_plantLow_18 ?_
    refine lv_iload_n hx hb dX1_plantLow_21 rfl (lv_at hl 2 rfl) ?_
    refine lv_iload hx hb dX1_plantLow_22 (lv_at hl 0 rfl) ?_
    refine lv_iload_n hx hb dX1_plantLow_24 rfl (lv_at hl 4 rfl) ?_
    obtain ⟨s26, hc25, h⟩ := bn_e h
    refine ywVv (As := [.int p0, .int r23, .int p2]) (rest := []) (C := RX8) (n := 3) (ws' := CS D a s26) ⟨hx, hb, hml, hown, ht⟩ (k_x8_set l D a p0 r23 p2 _ _ _ hc25) (zgV ml_X1_252 im_X8_set se_X8_set in_X8 co_X8_set) rfl rfl (by decide +kernel) ⟨Nat.le_of_ble_eq_true rfl, Nat.le_of_ble_eq_true rfl⟩ hN hK hP (hDD _) hS hA 53 CW_53 rfl rfl rfl hl.1 rfl (Nat.le_of_ble_eq_true rfl) dX1_plantLow_25 ⟨Nat.le_of_ble_eq_true rfl, Nat.le_of_ble_eq_true rfl⟩ (fun H locs hP hS => ?_)
    obtain rfl := Option.some.inj h
    exact W.vret hx hb hr (fun t ht hW => ⟨⟨(), rfl, trivial, by rw [ht]; exact hP, va_K.moved hW.alike hK, hDD _⟩, hS.F ht⟩) hS.2.2 dX1_plantLow_28
