theorem co_X11_refuse : Cond.code yX11_refuse cX11_refuse 2 (some .int) ∈ lw_gd := zm (lw_g_3 (List.mem_of_getElem? (i := 74) (by decide +kernel))) rfl
theorem co_X2_toldRows : Cond.code yX2_toldRows cX2_toldRows 1 (some .int) ∈ lw_gd := zm (lw_g_4 (List.mem_of_getElem? (i := 185) (by decide +kernel))) rfl
theorem co_X6_readBoth : Cond.code yX6_readBoth cX6_readBoth 2 none ∈ lw_gd := zm (lw_g_3 (List.mem_of_getElem? (i := 225) (by decide +kernel))) rfl
theorem co_X8_held : Cond.code yX8_held cX8_held 3 (some .int) ∈ lw_gd := zm (lw_g_4 (List.mem_of_getElem? (i := 177) (by decide +kernel))) rfl
theorem co_X8_isBlock : Cond.code yX8_isBlock cX8_isBlock 2 (some .boolean) ∈ lw_gd := zm (lw_g_4 (List.mem_of_getElem? (i := 29) (by decide +kernel))) rfl
theorem co_X8_isHeld : Cond.code yX8_isHeld cX8_isHeld 2 (some .boolean) ∈ lw_gd := zm (lw_g_4 (List.mem_of_getElem? (i := 181) (by decide +kernel))) rfl
theorem co_X8_isVolume : Cond.code yX8_isVolume cX8_isVolume 2 (some .boolean) ∈ lw_gd := zm (lw_g_4 (List.mem_of_getElem? (i := 169) (by decide +kernel))) rfl
theorem co_X8_slot : Cond.code yX8_slot cX8_slot 3 (some .int) ∈ lw_gd := zm (lw_g_4 (List.mem_of_getElem? (i := 76) (by decide +kernel))) rfl
theorem co_X8_used : Cond.code yX8_used cX8_used 3 (some .int) ∈ lw_gd := zm (lw_g_4 (List.mem_of_getElem? (i := 173) (by decide +kernel))) rfl
theorem co_X8_volumes : Cond.code yX8_volumes cX8_volumes 3 (some .int) ∈ lw_gd := zm (lw_g_4 (List.mem_of_getElem? (i := 165) (by decide +kernel))) rfl
theorem co_X9_append : Cond.code yX9_append cX9_append 3 none ∈ lw_gd := zm (lw_g_3 (List.mem_of_getElem? (i := 78) (by decide +kernel))) rfl
theorem co_X9_hasRoom : Cond.code yX9_hasRoom cX9_hasRoom 1 (some .boolean) ∈ lw_gd := zm (lw_g_3 (List.mem_of_getElem? (i := 70) (by decide +kernel))) rfl
theorem co_mmin : Cond.code Lib.Math.min.name Lib.Math.min.code 2 (some .int) ∈ lw_gd := zm (lw_g_4 (List.mem_of_getElem? (i := 188) (by decide +kernel))) rfl
theorem fl_X10_21 : Cond.fieldLink RX10 21 "CloneVolumes$Walk" "length" "I" ∈ lw_gd := zm (lw_g_1 (List.mem_of_getElem? (i := 231) (by decide +kernel))) rfl
theorem fl_X10_25 : Cond.fieldLink RX10 25 "CloneVolumes$State" "level" "[I" ∈ lw_gd := zm (lw_g_2 (List.mem_of_getElem? (i := 137) (by decide +kernel))) rfl
theorem fl_X10_30 : Cond.fieldLink RX10 30 "CloneVolumes$State" "size" "[I" ∈ lw_gd := zm (lw_g_2 (List.mem_of_getElem? (i := 142) (by decide +kernel))) rfl
theorem fl_X10_33 : Cond.fieldLink RX10 33 "CloneVolumes$State" "values" "[I" ∈ lw_gd := zm (lw_g_2 (List.mem_of_getElem? (i := 152) (by decide +kernel))) rfl
theorem fl_X11_109 : Cond.fieldLink RX11 109 "CloneVolumes$Sight" "rows" "I" ∈ lw_gd := zm (lw_g_1 (List.mem_of_getElem? (i := 177) (by decide +kernel))) rfl
theorem fl_X11_112 : Cond.fieldLink RX11 112 "CloneVolumes" "told" "Z" ∈ lw_gd := zm (lw_g_3 (List.mem_of_getElem? (i := 35) (by decide +kernel))) rfl
theorem fl_X11_119 : Cond.fieldLink RX11 119 "CloneVolumes$Reader" "fault" "I" ∈ lw_gd := zm (lw_g_1 (List.mem_of_getElem? (i := 102) (by decide +kernel))) rfl
theorem fl_X11_122 : Cond.fieldLink RX11 122 "CloneVolumes$Reader" "place" "I" ∈ lw_gd := zm (lw_g_1 (List.mem_of_getElem? (i := 104) (by decide +kernel))) rfl
theorem fl_X11_125 : Cond.fieldLink RX11 125 "CloneVolumes$Forest" "now" "LCloneVolumes$State;" ∈ lw_gd := zm (lw_g_2 (List.mem_of_getElem? (i := 232) (by decide +kernel))) rfl
theorem fl_X11_129 : Cond.fieldLink RX11 129 "CloneVolumes$State" "blocks" "I" ∈ lw_gd := zm (lw_g_2 (List.mem_of_getElem? (i := 120) (by decide +kernel))) rfl
theorem fl_X11_144 : Cond.fieldLink RX11 144 "CloneVolumes$State" "spent" "I" ∈ lw_gd := zm (lw_g_2 (List.mem_of_getElem? (i := 124) (by decide +kernel))) rfl
theorem fl_X11_150 : Cond.fieldLink RX11 150 "CloneVolumes$History" "depth" "I" ∈ lw_gd := zm (lw_g_1 (List.mem_of_getElem? (i := 156) (by decide +kernel))) rfl
theorem fl_X11_153 : Cond.fieldLink RX11 153 "CloneVolumes$Plan" "entriesMost" "I" ∈ lw_gd := zm (lw_g_2 (List.mem_of_getElem? (i := 37) (by decide +kernel))) rfl
theorem fl_X11_156 : Cond.fieldLink RX11 156 "CloneVolumes$Plan" "volumes" "I" ∈ lw_gd := zm (lw_g_2 (List.mem_of_getElem? (i := 47) (by decide +kernel))) rfl
theorem fl_X11_158 : Cond.fieldLink RX11 158 "CloneVolumes$Plan" "names" "[I" ∈ lw_gd := zm (lw_g_2 (List.mem_of_getElem? (i := 52) (by decide +kernel))) rfl
theorem fl_X11_95 : Cond.fieldLink RX11 95 "CloneVolumes$Tape" "length" "I" ∈ lw_gd := zm (lw_g_1 (List.mem_of_getElem? (i := 40) (by decide +kernel))) rfl
theorem fl_X2_27 : Cond.fieldLink RX2 27 "CloneVolumes$History" "rows" "I" ∈ lw_gd := zm (lw_g_1 (List.mem_of_getElem? (i := 153) (by decide +kernel))) rfl
theorem im_X11_refuse : Cond.instanceMethod yX11_refuse ∈ lw_gd := zm (lw_g_3 (List.mem_of_getElem? (i := 73) (by decide +kernel))) rfl
theorem im_X2_toldRows : Cond.instanceMethod yX2_toldRows ∈ lw_gd := zm (lw_g_4 (List.mem_of_getElem? (i := 183) (by decide +kernel))) rfl
theorem im_X6_readBoth : Cond.instanceMethod yX6_readBoth ∈ lw_gd := zm (lw_g_3 (List.mem_of_getElem? (i := 224) (by decide +kernel))) rfl
theorem im_X8_held : Cond.instanceMethod yX8_held ∈ lw_gd := zm (lw_g_4 (List.mem_of_getElem? (i := 175) (by decide +kernel))) rfl
theorem im_X8_isBlock : Cond.instanceMethod yX8_isBlock ∈ lw_gd := zm (lw_g_4 (List.mem_of_getElem? (i := 27) (by decide +kernel))) rfl
theorem im_X8_isHeld : Cond.instanceMethod yX8_isHeld ∈ lw_gd := zm (lw_g_4 (List.mem_of_getElem? (i := 179) (by decide +kernel))) rfl
theorem im_X8_isVolume : Cond.instanceMethod yX8_isVolume ∈ lw_gd := zm (lw_g_4 (List.mem_of_getElem? (i := 167) (by decide +kernel))) rfl
theorem im_X8_slot : Cond.instanceMethod yX8_slot ∈ lw_gd := zm (lw_g_4 (List.mem_of_getElem? (i := 74) (by decide +kernel))) rfl
theorem im_X8_used : Cond.instanceMethod yX8_used ∈ lw_gd := zm (lw_g_4 (List.mem_of_getElem? (i := 171) (by decide +kernel))) rfl
theorem im_X8_volumes : Cond.instanceMethod yX8_volumes ∈ lw_gd := zm (lw_g_4 (List.mem_of_getElem? (i := 163) (by decide +kernel))) rfl
theorem im_X9_append : Cond.instanceMethod yX9_append ∈ lw_gd := zm (lw_g_3 (List.mem_of_getElem? (i := 76) (by decide +kernel))) rfl
theorem im_X9_hasRoom : Cond.instanceMethod yX9_hasRoom ∈ lw_gd := zm (lw_g_3 (List.mem_of_getElem? (i := 68) (by decide +kernel))) rfl
theorem in_X11 : Cond.initialized RX11 ∈ lw_gd := zm (lw_g_1 (List.mem_of_getElem? (i := 1) (by decide +kernel))) rfl
theorem in_math : Cond.initialized "java/lang/Math" ∈ lw_gd := zm (lw_g_1 (List.mem_of_getElem? (i := 19) (by decide +kernel))) rfl
theorem ml_X10_34 : Cond.methodLink RX10 34 yX8_slot ∈ lw_gd := zm (lw_g_4 (List.mem_of_getElem? (i := 206) (by decide +kernel))) rfl
theorem ml_X11_134 : Cond.methodLink RX11 134 yX8_volumes ∈ lw_gd := zm (lw_g_4 (List.mem_of_getElem? (i := 162) (by decide +kernel))) rfl
theorem ml_X11_138 : Cond.methodLink RX11 138 yX8_used ∈ lw_gd := zm (lw_g_4 (List.mem_of_getElem? (i := 170) (by decide +kernel))) rfl
theorem ml_X11_141 : Cond.methodLink RX11 141 yX8_held ∈ lw_gd := zm (lw_g_4 (List.mem_of_getElem? (i := 174) (by decide +kernel))) rfl
theorem ml_X11_147 : Cond.methodLink RX11 147 yX2_toldRows ∈ lw_gd := zm (lw_g_4 (List.mem_of_getElem? (i := 182) (by decide +kernel))) rfl
theorem ml_X11_83 : Cond.methodLink RX11 83 yX9_hasRoom ∈ lw_gd := zm (lw_g_3 (List.mem_of_getElem? (i := 67) (by decide +kernel))) rfl
theorem ml_X11_87 : Cond.methodLink RX11 87 yX11_refuse ∈ lw_gd := zm (lw_g_3 (List.mem_of_getElem? (i := 71) (by decide +kernel))) rfl
theorem ml_X11_91 : Cond.methodLink RX11 91 yX9_append ∈ lw_gd := zm (lw_g_3 (List.mem_of_getElem? (i := 75) (by decide +kernel))) rfl
theorem ml_X2_34 : Cond.methodLink RX2 34 Lib.Math.min.name ∈ lw_gd := zm (lw_g_4 (List.mem_of_getElem? (i := 186) (by decide +kernel))) rfl
theorem ml_X6_188 : Cond.methodLink RX6 188 yX6_readBoth ∈ lw_gd := zm (lw_g_3 (List.mem_of_getElem? (i := 222) (by decide +kernel))) rfl
theorem ml_X8_57 : Cond.methodLink RX8 57 yX8_isBlock ∈ lw_gd := zm (lw_g_4 (List.mem_of_getElem? (i := 26) (by decide +kernel))) rfl
theorem ml_X8_64 : Cond.methodLink RX8 64 yX8_isHeld ∈ lw_gd := zm (lw_g_4 (List.mem_of_getElem? (i := 178) (by decide +kernel))) rfl
theorem ml_X8_67 : Cond.methodLink RX8 67 yX8_isVolume ∈ lw_gd := zm (lw_g_4 (List.mem_of_getElem? (i := 166) (by decide +kernel))) rfl
theorem se_X11_refuse : Cond.selects RX11 yX11_refuse yX11_refuse ∈ lw_gd := zm (List.mem_of_getElem? (i := 0) (by decide +kernel)) rfl
theorem se_X2_toldRows : Cond.selects RX2 yX2_toldRows yX2_toldRows ∈ lw_gd := zm (lw_g_4 (List.mem_of_getElem? (i := 184) (by decide +kernel))) rfl
theorem se_X6_readBoth : Cond.selects RX6 yX6_readBoth yX6_readBoth ∈ lw_gd := zm (List.mem_of_getElem? (i := 25) (by decide +kernel)) rfl
theorem se_X8_held : Cond.selects RX8 yX8_held yX8_held ∈ lw_gd := zm (lw_g_4 (List.mem_of_getElem? (i := 176) (by decide +kernel))) rfl
theorem se_X8_isBlock : Cond.selects RX8 yX8_isBlock yX8_isBlock ∈ lw_gd := zm (lw_g_4 (List.mem_of_getElem? (i := 28) (by decide +kernel))) rfl
theorem se_X8_isHeld : Cond.selects RX8 yX8_isHeld yX8_isHeld ∈ lw_gd := zm (lw_g_4 (List.mem_of_getElem? (i := 180) (by decide +kernel))) rfl
theorem se_X8_isVolume : Cond.selects RX8 yX8_isVolume yX8_isVolume ∈ lw_gd := zm (lw_g_4 (List.mem_of_getElem? (i := 168) (by decide +kernel))) rfl
theorem se_X8_slot : Cond.selects RX8 yX8_slot yX8_slot ∈ lw_gd := zm (lw_g_4 (List.mem_of_getElem? (i := 75) (by decide +kernel))) rfl
theorem se_X8_used : Cond.selects RX8 yX8_used yX8_used ∈ lw_gd := zm (lw_g_4 (List.mem_of_getElem? (i := 172) (by decide +kernel))) rfl
theorem se_X8_volumes : Cond.selects RX8 yX8_volumes yX8_volumes ∈ lw_gd := zm (lw_g_4 (List.mem_of_getElem? (i := 164) (by decide +kernel))) rfl
theorem se_X9_append : Cond.selects RX9 yX9_append yX9_append ∈ lw_gd := zm (lw_g_3 (List.mem_of_getElem? (i := 77) (by decide +kernel))) rfl
theorem se_X9_hasRoom : Cond.selects RX9 yX9_hasRoom yX9_hasRoom ∈ lw_gd := zm (lw_g_3 (List.mem_of_getElem? (i := 69) (by decide +kernel))) rfl
theorem st_mmin : Cond.static Lib.Math.min.name ∈ lw_gd := zm (lw_g_4 (List.mem_of_getElem? (i := 187) (by decide +kernel))) rfl
theorem eX10_tree_0 : decode cX10_tree 0 = .ok (.aload_n 0, 1) ∧ decode cX10_tree 1 = .ok (.iconst 0, 1) ∧ decode cX10_tree 2 = .ok (.putfield 21, 3) ∧ decode cX10_tree 5 = .ok (.iload_n 2, 1) ∧ decode cX10_tree 6 = .ok (.ifCond .ge 5, 3) ∧ decode cX10_tree 9 = .ok (.lconst 0, 1) ∧ decode cX10_tree 10 = .ok (.lreturn, 1) ∧ decode cX10_tree 11 = .ok (.aload_n 0, 1) := by decide +kernel
theorem eX10_tree_12 : decode cX10_tree 12 = .ok (.getfield 9, 3) ∧ decode cX10_tree 15 = .ok (.iconst 0, 1) ∧ decode cX10_tree 16 = .ok (.iload_n 2, 1) ∧ decode cX10_tree 17 = .ok (.iastore, 1) ∧ decode cX10_tree 18 = .ok (.aload_n 0, 1) ∧ decode cX10_tree 19 = .ok (.iconst 1, 1) ∧ decode cX10_tree 20 = .ok (.putfield 21, 3) ∧ decode cX10_tree 23 = .ok (.lconst 1, 1) := by decide +kernel
theorem eX10_tree_24 : decode cX10_tree 24 = .ok (.iload_n 2, 1) ∧ decode cX10_tree 25 = .ok (.lshl, 1) ∧ decode cX10_tree 26 = .ok (.lstore_n 3, 1) ∧ decode cX10_tree 27 = .ok (.iconst 0, 1) ∧ decode cX10_tree 28 = .ok (.istore 5, 2) ∧ decode cX10_tree 30 = .ok (.iload 5, 2) ∧ decode cX10_tree 32 = .ok (.aload_n 0, 1) ∧ decode cX10_tree 33 = .ok (.getfield 21, 3) := by decide +kernel
theorem eX10_tree_36 : decode cX10_tree 36 = .ok (.if_icmp .ge 125, 3) ∧ decode cX10_tree 39 = .ok (.iload 5, 2) ∧ decode cX10_tree 41 = .ok (.bipush 48, 2) ∧ decode cX10_tree 43 = .ok (.if_icmp .ge 118, 3) ∧ decode cX10_tree 46 = .ok (.aload_n 1, 1) ∧ decode cX10_tree 47 = .ok (.getfield 25, 3) ∧ decode cX10_tree 50 = .ok (.aload_n 0, 1) ∧ decode cX10_tree 51 = .ok (.getfield 9, 3) := by decide +kernel
theorem eX10_tree_54 : decode cX10_tree 54 = .ok (.iload 5, 2) ∧ decode cX10_tree 56 = .ok (.iaload, 1) ∧ decode cX10_tree 57 = .ok (.iaload, 1) ∧ decode cX10_tree 58 = .ok (.ifCond .le 18, 3) ∧ decode cX10_tree 61 = .ok (.aload_n 1, 1) ∧ decode cX10_tree 62 = .ok (.getfield 30, 3) ∧ decode cX10_tree 65 = .ok (.aload_n 0, 1) ∧ decode cX10_tree 66 = .ok (.getfield 9, 3) := by decide +kernel
theorem eX10_tree_69 : decode cX10_tree 69 = .ok (.iload 5, 2) ∧ decode cX10_tree 71 = .ok (.iaload, 1) ∧ decode cX10_tree 72 = .ok (.iaload, 1) ∧ decode cX10_tree 73 = .ok (.goto 4, 3) ∧ decode cX10_tree 76 = .ok (.iconst 0, 1) ∧ decode cX10_tree 77 = .ok (.istore 6, 2) ∧ decode cX10_tree 79 = .ok (.iconst 0, 1) ∧ decode cX10_tree 80 = .ok (.istore 7, 2) := by decide +kernel
theorem eX10_tree_82 : decode cX10_tree 82 = .ok (.iload 7, 2) ∧ decode cX10_tree 84 = .ok (.iload 6, 2) ∧ decode cX10_tree 86 = .ok (.if_icmp .ge 69, 3) ∧ decode cX10_tree 89 = .ok (.aload_n 0, 1) ∧ decode cX10_tree 90 = .ok (.getfield 21, 3) ∧ decode cX10_tree 93 = .ok (.bipush 48, 2) ∧ decode cX10_tree 95 = .ok (.if_icmp .ge 60, 3) ∧ decode cX10_tree 98 = .ok (.aload_n 0, 1) := by decide +kernel
theorem eX10_tree_99 : decode cX10_tree 99 = .ok (.getfield 9, 3) ∧ decode cX10_tree 102 = .ok (.aload_n 0, 1) ∧ decode cX10_tree 103 = .ok (.getfield 21, 3) ∧ decode cX10_tree 106 = .ok (.aload_n 1, 1) ∧ decode cX10_tree 107 = .ok (.getfield 33, 3) ∧ decode cX10_tree 110 = .ok (.aload_n 1, 1) ∧ decode cX10_tree 111 = .ok (.aload_n 0, 1) ∧ decode cX10_tree 112 = .ok (.getfield 9, 3) := by decide +kernel
theorem eX10_tree_115 : decode cX10_tree 115 = .ok (.iload 5, 2) ∧ decode cX10_tree 117 = .ok (.iaload, 1) ∧ decode cX10_tree 118 = .ok (.iload 7, 2) ∧ decode cX10_tree 120 = .ok (.invokevirtual 34, 3) ∧ decode cX10_tree 123 = .ok (.iaload, 1) ∧ decode cX10_tree 124 = .ok (.iastore, 1) ∧ decode cX10_tree 125 = .ok (.lload_n 3, 1) ∧ decode cX10_tree 126 = .ok (.lconst 1, 1) := by decide +kernel
theorem eX10_tree_127 : decode cX10_tree 127 = .ok (.aload_n 0, 1) ∧ decode cX10_tree 128 = .ok (.getfield 9, 3) ∧ decode cX10_tree 131 = .ok (.aload_n 0, 1) ∧ decode cX10_tree 132 = .ok (.getfield 21, 3) ∧ decode cX10_tree 135 = .ok (.iaload, 1) ∧ decode cX10_tree 136 = .ok (.lshl, 1) ∧ decode cX10_tree 137 = .ok (.lor, 1) ∧ decode cX10_tree 138 = .ok (.lstore_n 3, 1) := by decide +kernel
theorem eX10_tree_139 : decode cX10_tree 139 = .ok (.aload_n 0, 1) ∧ decode cX10_tree 140 = .ok (.dup, 1) ∧ decode cX10_tree 141 = .ok (.getfield 21, 3) ∧ decode cX10_tree 144 = .ok (.iconst 1, 1) ∧ decode cX10_tree 145 = .ok (.iadd, 1) ∧ decode cX10_tree 146 = .ok (.putfield 21, 3) ∧ decode cX10_tree 149 = .ok (.iinc 7 1, 3) ∧ decode cX10_tree 152 = .ok (.goto (-70), 3) := by decide +kernel
theorem eX10_tree_155 : decode cX10_tree 155 = .ok (.iinc 5 1, 3) ∧ decode cX10_tree 158 = .ok (.goto (-128), 3) ∧ decode cX10_tree 161 = .ok (.lload_n 3, 1) ∧ decode cX10_tree 162 = .ok (.lreturn, 1) ∧ decode cX11_end 0 = .ok (.iload_n 1, 1) ∧ decode cX11_end 1 = .ok (.ifCond .lt 14, 3) ∧ decode cX11_end 4 = .ok (.iload_n 1, 1) ∧ decode cX11_end 5 = .ok (.aload_n 0, 1) := by decide +kernel
theorem eX11_end_6 : decode cX11_end 6 = .ok (.getfield 12, 3) ∧ decode cX11_end 9 = .ok (.getfield 95, 3) ∧ decode cX11_end 12 = .ok (.if_icmp .le 11, 3) ∧ decode cX11_end 15 = .ok (.aload_n 0, 1) ∧ decode cX11_end 16 = .ok (.iconst 0, 1) ∧ decode cX11_end 17 = .ok (.invokevirtual 87, 3) ∧ decode cX11_end 20 = .ok (.pop, 1) ∧ decode cX11_end 21 = .ok (.iconst 0, 1) := by decide +kernel
theorem eX11_end_22 : decode cX11_end 22 = .ok (.ireturn, 1) ∧ decode cX11_end 23 = .ok (.aload_n 0, 1) ∧ decode cX11_end 24 = .ok (.getfield 12, 3) ∧ decode cX11_end 27 = .ok (.iload_n 1, 1) ∧ decode cX11_end 28 = .ok (.putfield 95, 3) ∧ decode cX11_end 31 = .ok (.iconst 1, 1) ∧ decode cX11_end 32 = .ok (.ireturn, 1) ∧ decode cX11_fault 0 = .ok (.iload_n 1, 1) := by decide +kernel
theorem eX11_fault_1 : decode cX11_fault 1 = .ok (.ifCond .ne 11, 3) ∧ decode cX11_fault 4 = .ok (.aload_n 0, 1) ∧ decode cX11_fault 5 = .ok (.getfield 21, 3) ∧ decode cX11_fault 8 = .ok (.getfield 119, 3) ∧ decode cX11_fault 11 = .ok (.ireturn, 1) ∧ decode cX11_fault 12 = .ok (.iload_n 1, 1) ∧ decode cX11_fault 13 = .ok (.iconst 1, 1) ∧ decode cX11_fault 14 = .ok (.if_icmp .ne 23, 3) := by decide +kernel
theorem eX11_fault_17 : decode cX11_fault 17 = .ok (.aload_n 0, 1) ∧ decode cX11_fault 18 = .ok (.getfield 21, 3) ∧ decode cX11_fault 21 = .ok (.getfield 119, 3) ∧ decode cX11_fault 24 = .ok (.ifCond .eq 13, 3) ∧ decode cX11_fault 27 = .ok (.aload_n 0, 1) ∧ decode cX11_fault 28 = .ok (.getfield 21, 3) ∧ decode cX11_fault 31 = .ok (.getfield 122, 3) ∧ decode cX11_fault 34 = .ok (.goto 4, 3) := by decide +kernel
theorem eX11_fault_37 : decode cX11_fault 37 = .ok (.iconst (-1), 1) ∧ decode cX11_fault 38 = .ok (.ireturn, 1) ∧ decode cX11_feed 0 = .ok (.aload_n 0, 1) ∧ decode cX11_feed 1 = .ok (.getfield 12, 3) ∧ decode cX11_feed 4 = .ok (.invokevirtual 83, 3) ∧ decode cX11_feed 7 = .ok (.ifCond .ne 9, 3) ∧ decode cX11_feed 10 = .ok (.aload_n 0, 1) ∧ decode cX11_feed 11 = .ok (.iconst 0, 1) := by decide +kernel
theorem eX11_feed_12 : decode cX11_feed 12 = .ok (.invokevirtual 87, 3) ∧ decode cX11_feed 15 = .ok (.ireturn, 1) ∧ decode cX11_feed 16 = .ok (.aload_n 0, 1) ∧ decode cX11_feed 17 = .ok (.getfield 12, 3) ∧ decode cX11_feed 20 = .ok (.iload_n 1, 1) ∧ decode cX11_feed 21 = .ok (.invokevirtual 91, 3) ∧ decode cX11_feed 24 = .ok (.aload_n 0, 1) ∧ decode cX11_feed 25 = .ok (.getfield 12, 3) := by decide +kernel
theorem eX11_feed_28 : decode cX11_feed 28 = .ok (.iload_n 2, 1) ∧ decode cX11_feed 29 = .ok (.invokevirtual 91, 3) ∧ decode cX11_feed 32 = .ok (.aload_n 0, 1) ∧ decode cX11_feed 33 = .ok (.getfield 12, 3) ∧ decode cX11_feed 36 = .ok (.iload_n 3, 1) ∧ decode cX11_feed 37 = .ok (.invokevirtual 91, 3) ∧ decode cX11_feed 40 = .ok (.aload_n 0, 1) ∧ decode cX11_feed 41 = .ok (.getfield 12, 3) := by decide +kernel
theorem eX11_feed_44 : decode cX11_feed 44 = .ok (.iload 4, 2) ∧ decode cX11_feed 46 = .ok (.invokevirtual 91, 3) ∧ decode cX11_feed 49 = .ok (.aload_n 0, 1) ∧ decode cX11_feed 50 = .ok (.getfield 12, 3) ∧ decode cX11_feed 53 = .ok (.iload 5, 2) ∧ decode cX11_feed 55 = .ok (.invokevirtual 91, 3) ∧ decode cX11_feed 58 = .ok (.aload_n 0, 1) ∧ decode cX11_feed 59 = .ok (.getfield 12, 3) := by decide +kernel
theorem eX11_feed_62 : decode cX11_feed 62 = .ok (.getfield 95, 3) ∧ decode cX11_feed 65 = .ok (.ireturn, 1) ∧ decode cX11_has 0 = .ok (.aload_n 0, 1) ∧ decode cX11_has 1 = .ok (.getfield 79, 3) ∧ decode cX11_has 4 = .ok (.getfield 125, 3) ∧ decode cX11_has 7 = .ok (.astore_n 2, 1) ∧ decode cX11_has 8 = .ok (.iload_n 1, 1) ∧ decode cX11_has 9 = .ok (.tableswitch 138 0 9 #[55, 60, 65, 70, 75, 90, 95, 103, 111, 119], 55) := by decide +kernel
theorem eX11_has_64 : decode cX11_has 64 = .ok (.aload_n 2, 1) ∧ decode cX11_has 65 = .ok (.getfield 129, 3) ∧ decode cX11_has 68 = .ok (.ireturn, 1) ∧ decode cX11_has 69 = .ok (.aload_n 2, 1) ∧ decode cX11_has 70 = .ok (.invokevirtual 134, 3) ∧ decode cX11_has 73 = .ok (.ireturn, 1) ∧ decode cX11_has 74 = .ok (.aload_n 2, 1) ∧ decode cX11_has 75 = .ok (.invokevirtual 138, 3) := by decide +kernel
theorem eX11_has_78 : decode cX11_has 78 = .ok (.ireturn, 1) ∧ decode cX11_has 79 = .ok (.aload_n 2, 1) ∧ decode cX11_has 80 = .ok (.invokevirtual 141, 3) ∧ decode cX11_has 83 = .ok (.ireturn, 1) ∧ decode cX11_has 84 = .ok (.aload_n 2, 1) ∧ decode cX11_has 85 = .ok (.getfield 129, 3) ∧ decode cX11_has 88 = .ok (.aload_n 2, 1) ∧ decode cX11_has 89 = .ok (.invokevirtual 138, 3) := by decide +kernel
theorem eX11_has_92 : decode cX11_has 92 = .ok (.isub, 1) ∧ decode cX11_has 93 = .ok (.aload_n 2, 1) ∧ decode cX11_has 94 = .ok (.invokevirtual 141, 3) ∧ decode cX11_has 97 = .ok (.isub, 1) ∧ decode cX11_has 98 = .ok (.ireturn, 1) ∧ decode cX11_has 99 = .ok (.aload_n 2, 1) ∧ decode cX11_has 100 = .ok (.getfield 144, 3) ∧ decode cX11_has 103 = .ok (.ireturn, 1) := by decide +kernel
theorem eX11_has_104 : decode cX11_has 104 = .ok (.aload_n 0, 1) ∧ decode cX11_has 105 = .ok (.getfield 28, 3) ∧ decode cX11_has 108 = .ok (.invokevirtual 147, 3) ∧ decode cX11_has 111 = .ok (.ireturn, 1) ∧ decode cX11_has 112 = .ok (.aload_n 0, 1) ∧ decode cX11_has 113 = .ok (.getfield 35, 3) ∧ decode cX11_has 116 = .ok (.getfield 109, 3) ∧ decode cX11_has 119 = .ok (.ireturn, 1) := by decide +kernel
theorem eX11_has_120 : decode cX11_has 120 = .ok (.aload_n 0, 1) ∧ decode cX11_has 121 = .ok (.getfield 28, 3) ∧ decode cX11_has 124 = .ok (.getfield 150, 3) ∧ decode cX11_has 127 = .ok (.ireturn, 1) ∧ decode cX11_has 128 = .ok (.aload_n 0, 1) ∧ decode cX11_has 129 = .ok (.getfield 112, 3) ∧ decode cX11_has 132 = .ok (.ifCond .eq 13, 3) ∧ decode cX11_has 135 = .ok (.aload_n 0, 1) := by decide +kernel
theorem eX11_has_136 : decode cX11_has 136 = .ok (.getfield 67, 3) ∧ decode cX11_has 139 = .ok (.getfield 153, 3) ∧ decode cX11_has 142 = .ok (.goto 4, 3) ∧ decode cX11_has 145 = .ok (.iconst 0, 1) ∧ decode cX11_has 146 = .ok (.ireturn, 1) ∧ decode cX11_has 147 = .ok (.iconst (-1), 1) ∧ decode cX11_has 148 = .ok (.ireturn, 1) ∧ decode cX11_letter 0 = .ok (.aload_n 0, 1) := by decide +kernel
theorem eX11_letter_1 : decode cX11_letter 1 = .ok (.getfield 112, 3) ∧ decode cX11_letter 4 = .ok (.ifCond .eq 28, 3) ∧ decode cX11_letter 7 = .ok (.iload_n 1, 1) ∧ decode cX11_letter 8 = .ok (.ifCond .lt 24, 3) ∧ decode cX11_letter 11 = .ok (.iload_n 1, 1) ∧ decode cX11_letter 12 = .ok (.aload_n 0, 1) ∧ decode cX11_letter 13 = .ok (.getfield 67, 3) ∧ decode cX11_letter 16 = .ok (.getfield 156, 3) := by decide +kernel
theorem eX11_letter_19 : decode cX11_letter 19 = .ok (.if_icmp .ge 13, 3) ∧ decode cX11_letter 22 = .ok (.iload_n 2, 1) ∧ decode cX11_letter 23 = .ok (.ifCond .lt 9, 3) ∧ decode cX11_letter 26 = .ok (.iload_n 2, 1) ∧ decode cX11_letter 27 = .ok (.bipush 6, 2) ∧ decode cX11_letter 29 = .ok (.if_icmp .lt 5, 3) ∧ decode cX11_letter 32 = .ok (.iconst (-1), 1) ∧ decode cX11_letter 33 = .ok (.ireturn, 1) := by decide +kernel
theorem eX11_letter_34 : decode cX11_letter 34 = .ok (.aload_n 0, 1) ∧ decode cX11_letter 35 = .ok (.getfield 67, 3) ∧ decode cX11_letter 38 = .ok (.getfield 158, 3) ∧ decode cX11_letter 41 = .ok (.iload_n 1, 1) ∧ decode cX11_letter 42 = .ok (.bipush 6, 2) ∧ decode cX11_letter 44 = .ok (.imul, 1) ∧ decode cX11_letter 45 = .ok (.iload_n 2, 1) ∧ decode cX11_letter 46 = .ok (.iadd, 1) := by decide +kernel
theorem eX11_letter_47 : decode cX11_letter 47 = .ok (.iaload, 1) ∧ decode cX11_letter 48 = .ok (.ireturn, 1) ∧ decode cX11_refuse 0 = .ok (.aload_n 0, 1) ∧ decode cX11_refuse 1 = .ok (.getfield 60, 3) ∧ decode cX11_refuse 4 = .ok (.iload_n 1, 1) ∧ decode cX11_refuse 5 = .ok (.dup2, 1) ∧ decode cX11_refuse 6 = .ok (.iaload, 1) ∧ decode cX11_refuse 7 = .ok (.iconst 1, 1) := by decide +kernel
theorem eX11_refuse_8 : decode cX11_refuse 8 = .ok (.iadd, 1) ∧ decode cX11_refuse 9 = .ok (.iastore, 1) ∧ decode cX11_refuse 10 = .ok (.iconst (-1), 1) ∧ decode cX11_refuse 11 = .ok (.ireturn, 1) ∧ decode cX2_toldRows 0 = .ok (.aload_n 0, 1) ∧ decode cX2_toldRows 1 = .ok (.getfield 27, 3) ∧ decode cX2_toldRows 4 = .ok (.bipush 40, 2) ∧ decode cX2_toldRows 6 = .ok (.invokestatic 34, 3) := by decide +kernel
theorem eX2_toldRows_9 : decode cX2_toldRows 9 = .ok (.ireturn, 1) ∧ decode cX6_readBoth 0 = .ok (.aload_n 0, 1) ∧ decode cX6_readBoth 1 = .ok (.invokevirtual 194, 3) ∧ decode cX6_readBoth 4 = .ok (.iconst 0, 1) ∧ decode cX6_readBoth 5 = .ok (.istore_n 1, 1) ∧ decode cX6_readBoth 6 = .ok (.iload_n 1, 1) ∧ decode cX6_readBoth 7 = .ok (.sipush 1600, 3) ∧ decode cX6_readBoth 10 = .ok (.if_icmp .ge 35, 3) := by decide +kernel
theorem eX6_readBoth_13 : decode cX6_readBoth 13 = .ok (.aload_n 0, 1) ∧ decode cX6_readBoth 14 = .ok (.bipush 22, 2) ∧ decode cX6_readBoth 16 = .ok (.invokevirtual 121, 3) ∧ decode cX6_readBoth 19 = .ok (.ifCond .eq 26, 3) ∧ decode cX6_readBoth 22 = .ok (.aload_n 0, 1) ∧ decode cX6_readBoth 23 = .ok (.invokevirtual 75, 3) ∧ decode cX6_readBoth 26 = .ok (.aload_n 0, 1) ∧ decode cX6_readBoth 27 = .ok (.invokevirtual 194, 3) := by decide +kernel
theorem eX6_readBoth_30 : decode cX6_readBoth 30 = .ok (.aload_n 0, 1) ∧ decode cX6_readBoth 31 = .ok (.getfield 84, 3) ∧ decode cX6_readBoth 34 = .ok (.bipush (-10), 2) ∧ decode cX6_readBoth 36 = .ok (.invokevirtual 191, 3) ∧ decode cX6_readBoth 39 = .ok (.iinc 1 1, 3) ∧ decode cX6_readBoth 42 = .ok (.goto (-36), 3) ∧ decode cX6_readBoth 45 = .ok (.return_, 1) ∧ decode cX6_readTest 0 = .ok (.aload_n 0, 1) := by decide +kernel
theorem eX6_readTest_1 : decode cX6_readTest 1 = .ok (.invokevirtual 188, 3) ∧ decode cX6_readTest 4 = .ok (.iconst 0, 1) ∧ decode cX6_readTest 5 = .ok (.istore_n 1, 1) ∧ decode cX6_readTest 6 = .ok (.iload_n 1, 1) ∧ decode cX6_readTest 7 = .ok (.sipush 1600, 3) ∧ decode cX6_readTest 10 = .ok (.if_icmp .ge 35, 3) ∧ decode cX6_readTest 13 = .ok (.aload_n 0, 1) ∧ decode cX6_readTest 14 = .ok (.bipush 21, 2) := by decide +kernel
theorem eX6_readTest_16 : decode cX6_readTest 16 = .ok (.invokevirtual 121, 3) ∧ decode cX6_readTest 19 = .ok (.ifCond .eq 26, 3) ∧ decode cX6_readTest 22 = .ok (.aload_n 0, 1) ∧ decode cX6_readTest 23 = .ok (.invokevirtual 75, 3) ∧ decode cX6_readTest 26 = .ok (.aload_n 0, 1) ∧ decode cX6_readTest 27 = .ok (.invokevirtual 188, 3) ∧ decode cX6_readTest 30 = .ok (.aload_n 0, 1) ∧ decode cX6_readTest 31 = .ok (.getfield 84, 3) := by decide +kernel
theorem eX6_readTest_34 : decode cX6_readTest 34 = .ok (.bipush (-11), 2) ∧ decode cX6_readTest 36 = .ok (.invokevirtual 191, 3) ∧ decode cX6_readTest 39 = .ok (.iinc 1 1, 3) ∧ decode cX6_readTest 42 = .ok (.goto (-36), 3) ∧ decode cX6_readTest 45 = .ok (.return_, 1) ∧ decode cX8_held 0 = .ok (.iconst 0, 1) ∧ decode cX8_held 1 = .ok (.istore_n 1, 1) ∧ decode cX8_held 2 = .ok (.iconst 0, 1) := by decide +kernel
theorem eX8_held_3 : decode cX8_held 3 = .ok (.istore_n 2, 1) ∧ decode cX8_held 4 = .ok (.iload_n 2, 1) ∧ decode cX8_held 5 = .ok (.aload_n 0, 1) ∧ decode cX8_held 6 = .ok (.getfield 40, 3) ∧ decode cX8_held 9 = .ok (.if_icmp .ge 25, 3) ∧ decode cX8_held 12 = .ok (.iload_n 1, 1) ∧ decode cX8_held 13 = .ok (.aload_n 0, 1) ∧ decode cX8_held 14 = .ok (.iload_n 2, 1) := by decide +kernel
theorem eX8_held_15 : decode cX8_held 15 = .ok (.invokevirtual 64, 3) ∧ decode cX8_held 18 = .ok (.ifCond .eq 7, 3) ∧ decode cX8_held 21 = .ok (.iconst 1, 1) ∧ decode cX8_held 22 = .ok (.goto 4, 3) ∧ decode cX8_held 25 = .ok (.iconst 0, 1) ∧ decode cX8_held 26 = .ok (.iadd, 1) ∧ decode cX8_held 27 = .ok (.istore_n 1, 1) ∧ decode cX8_held 28 = .ok (.iinc 2 1, 3) := by decide +kernel
theorem eX8_held_31 : decode cX8_held 31 = .ok (.goto (-27), 3) ∧ decode cX8_held 34 = .ok (.iload_n 1, 1) ∧ decode cX8_held 35 = .ok (.ireturn, 1) ∧ decode cX8_isBlock 0 = .ok (.iload_n 1, 1) ∧ decode cX8_isBlock 1 = .ok (.ifCond .lt 15, 3) ∧ decode cX8_isBlock 4 = .ok (.iload_n 1, 1) ∧ decode cX8_isBlock 5 = .ok (.aload_n 0, 1) ∧ decode cX8_isBlock 6 = .ok (.getfield 40, 3) := by decide +kernel
theorem eX8_isBlock_9 : decode cX8_isBlock 9 = .ok (.if_icmp .ge 7, 3) ∧ decode cX8_isBlock 12 = .ok (.iconst 1, 1) ∧ decode cX8_isBlock 13 = .ok (.goto 4, 3) ∧ decode cX8_isBlock 16 = .ok (.iconst 0, 1) ∧ decode cX8_isBlock 17 = .ok (.ireturn, 1) ∧ decode cX8_isHeld 0 = .ok (.aload_n 0, 1) ∧ decode cX8_isHeld 1 = .ok (.iload_n 1, 1) ∧ decode cX8_isHeld 2 = .ok (.invokevirtual 57, 3) := by decide +kernel
theorem eX8_isHeld_5 : decode cX8_isHeld 5 = .ok (.ifCond .eq 25, 3) ∧ decode cX8_isHeld 8 = .ok (.aload_n 0, 1) ∧ decode cX8_isHeld 9 = .ok (.getfield 9, 3) ∧ decode cX8_isHeld 12 = .ok (.iload_n 1, 1) ∧ decode cX8_isHeld 13 = .ok (.iaload, 1) ∧ decode cX8_isHeld 14 = .ok (.ifCond .ne 16, 3) ∧ decode cX8_isHeld 17 = .ok (.aload_n 0, 1) ∧ decode cX8_isHeld 18 = .ok (.getfield 15, 3) := by decide +kernel
theorem eX8_isHeld_21 : decode cX8_isHeld 21 = .ok (.iload_n 1, 1) ∧ decode cX8_isHeld 22 = .ok (.iaload, 1) ∧ decode cX8_isHeld 23 = .ok (.ifCond .le 7, 3) ∧ decode cX8_isHeld 26 = .ok (.iconst 1, 1) ∧ decode cX8_isHeld 27 = .ok (.goto 4, 3) ∧ decode cX8_isHeld 30 = .ok (.iconst 0, 1) ∧ decode cX8_isHeld 31 = .ok (.ireturn, 1) ∧ decode cX8_isVolume 0 = .ok (.iload_n 1, 1) := by decide +kernel
theorem eX8_isVolume_1 : decode cX8_isVolume 1 = .ok (.ifCond .lt 24, 3) ∧ decode cX8_isVolume 4 = .ok (.iload_n 1, 1) ∧ decode cX8_isVolume 5 = .ok (.bipush 8, 2) ∧ decode cX8_isVolume 7 = .ok (.if_icmp .ge 18, 3) ∧ decode cX8_isVolume 10 = .ok (.aload_n 0, 1) ∧ decode cX8_isVolume 11 = .ok (.getfield 30, 3) ∧ decode cX8_isVolume 14 = .ok (.iload_n 1, 1) ∧ decode cX8_isVolume 15 = .ok (.iaload, 1) := by decide +kernel
theorem eX8_isVolume_16 : decode cX8_isVolume 16 = .ok (.bipush (-2), 2) ∧ decode cX8_isVolume 18 = .ok (.if_icmp .eq 7, 3) ∧ decode cX8_isVolume 21 = .ok (.iconst 1, 1) ∧ decode cX8_isVolume 22 = .ok (.goto 4, 3) ∧ decode cX8_isVolume 25 = .ok (.iconst 0, 1) ∧ decode cX8_isVolume 26 = .ok (.ireturn, 1) ∧ decode cX8_slot 0 = .ok (.iload_n 1, 1) ∧ decode cX8_slot 1 = .ok (.bipush 6, 2) := by decide +kernel
theorem eX8_slot_3 : decode cX8_slot 3 = .ok (.imul, 1) ∧ decode cX8_slot 4 = .ok (.iload_n 2, 1) ∧ decode cX8_slot 5 = .ok (.iadd, 1) ∧ decode cX8_slot 6 = .ok (.ireturn, 1) ∧ decode cX8_used 0 = .ok (.iconst 0, 1) ∧ decode cX8_used 1 = .ok (.istore_n 1, 1) ∧ decode cX8_used 2 = .ok (.iconst 0, 1) ∧ decode cX8_used 3 = .ok (.istore_n 2, 1) := by decide +kernel
theorem eX8_used_4 : decode cX8_used 4 = .ok (.iload_n 2, 1) ∧ decode cX8_used 5 = .ok (.aload_n 0, 1) ∧ decode cX8_used 6 = .ok (.getfield 40, 3) ∧ decode cX8_used 9 = .ok (.if_icmp .ge 26, 3) ∧ decode cX8_used 12 = .ok (.iload_n 1, 1) ∧ decode cX8_used 13 = .ok (.aload_n 0, 1) ∧ decode cX8_used 14 = .ok (.getfield 9, 3) ∧ decode cX8_used 17 = .ok (.iload_n 2, 1) := by decide +kernel
theorem eX8_used_18 : decode cX8_used 18 = .ok (.iaload, 1) ∧ decode cX8_used 19 = .ok (.ifCond .le 7, 3) ∧ decode cX8_used 22 = .ok (.iconst 1, 1) ∧ decode cX8_used 23 = .ok (.goto 4, 3) ∧ decode cX8_used 26 = .ok (.iconst 0, 1) ∧ decode cX8_used 27 = .ok (.iadd, 1) ∧ decode cX8_used 28 = .ok (.istore_n 1, 1) ∧ decode cX8_used 29 = .ok (.iinc 2 1, 3) := by decide +kernel
theorem eX8_used_32 : decode cX8_used 32 = .ok (.goto (-28), 3) ∧ decode cX8_used 35 = .ok (.iload_n 1, 1) ∧ decode cX8_used 36 = .ok (.ireturn, 1) ∧ decode cX8_volumes 0 = .ok (.iconst 0, 1) ∧ decode cX8_volumes 1 = .ok (.istore_n 1, 1) ∧ decode cX8_volumes 2 = .ok (.iconst 0, 1) ∧ decode cX8_volumes 3 = .ok (.istore_n 2, 1) ∧ decode cX8_volumes 4 = .ok (.iload_n 2, 1) := by decide +kernel
theorem eX8_volumes_5 : decode cX8_volumes 5 = .ok (.bipush 8, 2) ∧ decode cX8_volumes 7 = .ok (.if_icmp .ge 25, 3) ∧ decode cX8_volumes 10 = .ok (.iload_n 1, 1) ∧ decode cX8_volumes 11 = .ok (.aload_n 0, 1) ∧ decode cX8_volumes 12 = .ok (.iload_n 2, 1) ∧ decode cX8_volumes 13 = .ok (.invokevirtual 67, 3) ∧ decode cX8_volumes 16 = .ok (.ifCond .eq 7, 3) ∧ decode cX8_volumes 19 = .ok (.iconst 1, 1) := by decide +kernel
theorem eX8_volumes_20 : decode cX8_volumes 20 = .ok (.goto 4, 3) ∧ decode cX8_volumes 23 = .ok (.iconst 0, 1) ∧ decode cX8_volumes 24 = .ok (.iadd, 1) ∧ decode cX8_volumes 25 = .ok (.istore_n 1, 1) ∧ decode cX8_volumes 26 = .ok (.iinc 2 1, 3) ∧ decode cX8_volumes 29 = .ok (.goto (-25), 3) ∧ decode cX8_volumes 32 = .ok (.iload_n 1, 1) ∧ decode cX8_volumes 33 = .ok (.ireturn, 1) := by decide +kernel
theorem eX9_append_0 : decode cX9_append 0 = .ok (.bipush 24, 2) ∧ decode cX9_append 2 = .ok (.istore_n 2, 1) ∧ decode cX9_append 3 = .ok (.iload_n 2, 1) ∧ decode cX9_append 4 = .ok (.ifCond .lt 45, 3) ∧ decode cX9_append 7 = .ok (.aload_n 0, 1) ∧ decode cX9_append 8 = .ok (.getfield 15, 3) ∧ decode cX9_append 11 = .ok (.sipush 1600, 3) ∧ decode cX9_append 14 = .ok (.if_icmp .ge 35, 3) := by decide +kernel
theorem eX9_append_17 : decode cX9_append 17 = .ok (.aload_n 0, 1) ∧ decode cX9_append 18 = .ok (.getfield 9, 3) ∧ decode cX9_append 21 = .ok (.aload_n 0, 1) ∧ decode cX9_append 22 = .ok (.getfield 15, 3) ∧ decode cX9_append 25 = .ok (.iload_n 1, 1) ∧ decode cX9_append 26 = .ok (.iload_n 2, 1) ∧ decode cX9_append 27 = .ok (.iushr, 1) ∧ decode cX9_append 28 = .ok (.sipush 255, 3) := by decide +kernel
theorem eX9_append_31 : decode cX9_append 31 = .ok (.iand, 1) ∧ decode cX9_append 32 = .ok (.iastore, 1) ∧ decode cX9_append 33 = .ok (.aload_n 0, 1) ∧ decode cX9_append 34 = .ok (.dup, 1) ∧ decode cX9_append 35 = .ok (.getfield 15, 3) ∧ decode cX9_append 38 = .ok (.iconst 1, 1) ∧ decode cX9_append 39 = .ok (.iadd, 1) ∧ decode cX9_append 40 = .ok (.putfield 15, 3) := by decide +kernel
theorem eX9_append_43 : decode cX9_append 43 = .ok (.iinc 2 (-8), 3) ∧ decode cX9_append 46 = .ok (.goto (-43), 3) ∧ decode cX9_append 49 = .ok (.return_, 1) ∧ decode cX9_hasRoom 0 = .ok (.aload_n 0, 1) ∧ decode cX9_hasRoom 1 = .ok (.getfield 15, 3) ∧ decode cX9_hasRoom 4 = .ok (.bipush 20, 2) ∧ decode cX9_hasRoom 6 = .ok (.iadd, 1) ∧ decode cX9_hasRoom 7 = .ok (.sipush 1600, 3) := by decide +kernel
theorem eX9_hasRoom_10 : decode cX9_hasRoom 10 = .ok (.if_icmp .gt 7, 3) ∧ decode cX9_hasRoom 13 = .ok (.iconst 1, 1) ∧ decode cX9_hasRoom 14 = .ok (.goto 4, 3) ∧ decode cX9_hasRoom 17 = .ok (.iconst 0, 1) ∧ decode cX9_hasRoom 18 = .ok (.ireturn, 1) := by decide +kernel
set_option maxHeartbeats 4000000 in
set_option maxRecDepth 100000 in
theorem k_x6_readBoth (l : Launch) (D : va_G) (a : Nat → Nat) (d : Nat) (rgs : (MS → Option MS) × (MS → Option MS)) (hF : ∀ (sz : Nat) (s o : MS), rgs.1 s = some o → yWv l yX6_readFact cX6_readFact 2 none { frames := 8 * d + 92, cells := 0, slots := 0, locals := 60 * (8 * d + 92) } D sz [.ref (a 5)] (CS D a s) (CS D a o)) (hT : ∀ (sz : Nat) (s o : MS), rgs.2 s = some o → yWv l yX6_readTest cX6_readTest 2 none { frames := 8 * d + 96, cells := 0, slots := 0, locals := 60 * (8 * d + 96) } D sz [.ref (a 5)] (CS D a s) (CS D a o)) (sz : Nat) (s : MS) (o : MS) (h : m_x6_readBoth rgs s = some o) : yWv l yX6_readBoth cX6_readBoth 2 none { frames := 8 * d + 101, cells := 0, slots := 0, locals := 60 * (8 * d + 101) } D sz [.ref (a 5)] (CS D a s) (CS D a o) := by
  refine Met.ofW (cc := cX6_readBoth) (maxL := 2) (ret := none) (by decide) rfl ?_
  intro p e s₀ m args below meth c s₁ B hml hv
  obtain ⟨rfl, ⟨hsz, hP, hK, hD0⟩, hN⟩ := hv
  have hx := B.exec
  have hb := B.bytes
  have hr := B.returns
  have hts := atoms_spec (ws := wz yX6_readBoth cX6_readBoth 2 none) B.pre
  have ht : ∀ w ∈ lw_gd, w.before _ s₀ = true := fun w h => hts w (List.mem_cons_of_mem _ h)
  have hown : s₀.vm.findClass RX6 = some m.cls := findClass_of_methodNamed B.named
  have hlocks := B.notSynchronized
  subst hsz
  have hD := hD0.self (sz := s₀.heap.size)
  generalize hAe : va_A (CS D a s) s₀.heap.size = A at hD ⊢
  have hA : ∀ q : Nat, s₀.heap.size ≤ q → A q := fun q h => by rw [← hAe]; exact Or.inr h
  have hS : va_S A s₀.heap s₀.heap [] := va_S.rf
  have hDD : ∀ t : MS, va_D A (CS D a t) := fun t => CW_D t hD
  have hl := lv_entry ([.ref (a 5)]) (n := 2) (Nat.le_of_ble_eq_true rfl)
  rw [lg_entry_eq]
  generalize (lg_sl ([.ref (a 5)]) ++ List.replicate (2 - (lg_sl ([.ref (a 5)])).length) Slot.unset).toArray = ls at hl ⊢
  have hl : lv_has ls 2 [(0, .ref (a 5))] := hl
  unfold m_x6_readBoth at h
  refine y_head (pcJ := 45) (σ := MS) (fun u H locs ls => va_P D vwCl (CS D a u) H ∧ va_S A s₀.heap H locs ∧ lv_has ls 2 [] ∧ m_x6_readBoth_J45 rgs u = some o) (fun u => []) (fun u H locs ls hI => ?_) (fun J45 => ?_)
  · obtain ⟨hP, hS, hl, h⟩ := hI
    obtain ⟨s1, rfl⟩ : ∃ z, z = u := ⟨u, rfl⟩
    have hP : va_P D vwCl (CS D a s1) H := hP
    have hl : lv_has ls 2 [] := hl
    have h : m_x6_readBoth_J45 rgs s1 = some o := h
    unfold m_x6_readBoth_J45 at h
    obtain rfl := Option.some.inj h
    exact W.vret hx hb hr (fun t ht hW => ⟨⟨(), rfl, trivial, by rw [ht]; exact hP, va_K.moved hW.alike hK, hDD _⟩, hS.F ht⟩) hS.2.2 eX6_readBoth_30.2.2.2.2.2.2.1
  refine y_loop (pcJ := 6) (σ := Int × MS) (fun n u H locs ls => va_P D vwCl (CS D a u.2) H ∧ va_S A s₀.heap H locs ∧ lv_has ls 2 [(0, .ref (a 5)), (1, .int (i2 u.1))] ∧ m_x6_readBoth_L6 rgs n u.1 u.2 = some o) (fun u => []) (fun u H locs ls hI => by obtain ⟨_, _, _, h⟩ := hI; cases h) (fun n6 ih6 u H locs ls hI => ?_) (fun J6 => ?_)
  · obtain ⟨hP, hS, hl, h⟩ := hI
    obtain ⟨x2, s3⟩ := u
    have hP : va_P D vwCl (CS D a s3) H := hP
    have hl : lv_has ls 2 [(0, .ref (a 5)), (1, .int (i2 x2))] := hl
    have h : m_x6_readBoth_b6 rgs (m_x6_readBoth_L6 rgs n6) x2 s3 = some o := h
    unfold m_x6_readBoth_b6 at h
    refine lv_iload_n hx hb eX2_toldRows_9.2.2.2.2.2.1 rfl (lv_at hl 1 rfl) ?_
    refine lv_sipush (v := 1600) hx hb eX2_toldRows_9.2.2.2.2.2.2.1 (by decide) ?_
    obtain ⟨hr4, h⟩ := rg_e h
    refine lv_icmp_ge (tgt := 45) hx hb eX2_toldRows_9.2.2.2.2.2.2.2 (by decide) (fun c5 => ?_) (fun c5 => ?_)
    · have h := if_t ((i2_le (x := 1600) (y := x2) (by decide) hr4).mp c5) h
      exact J45 s3 _ _ _ ⟨hP, hS, lv_sub hl [] rfl, h⟩
    · have h := if_f (mt (i2_le (x := 1600) (y := x2) (by decide) hr4).mpr c5) h
      refine lv_aload_n hx hb eX6_readBoth_13.1 rfl (lv_at hl 0 rfl) ?_
      refine lv_bipush (v := 22) hx hb eX6_readBoth_13.2.1 (by decide) ?_
      obtain ⟨r7, hc6, h⟩ := bn_e h
      refine ycV (r0 := i2 r7) (As := [.int 22]) (rest := []) (C := RX6) (n := 1) ⟨hx, hb, hml, hown, ht⟩ (k_x6_isWord l D a 22 _ _ hc6) (zgV ml_X6_121 im_X6_isWord se_X6_isWord in_X6 co_X6_isWord) rfl rfl (by decide +kernel) ⟨by show 0 + 1 ≤ 8 * d + 101; omega, by show 8 + (2 + 11) + 0 ≤ 60 * (8 * d + 101); omega⟩ hN hK hP hS 5 CW_5 rfl rfl rfl hl.1 rfl (Nat.le_of_ble_eq_true rfl) eX6_readBoth_13.2.2.1 ⟨Nat.le_of_ble_eq_true rfl, Nat.le_of_ble_eq_true rfl⟩ (fun H locs hP hS => ?_)
      obtain ⟨hr8, h⟩ := rg_e h
      refine lv_if_eq (tgt := 45) hx hb eX6_readBoth_13.2.2.2.1 (by decide) (fun c9 => ?_) (fun c9 => ?_)
      · have h := if_t ((i2_eq (x := r7) (y := 0) hr8 (by decide)).mp c9) h
        exact J45 s3 _ _ _ ⟨hP, hS, lv_sub hl [] rfl, h⟩
      · have h := if_f (mt (i2_eq (x := r7) (y := 0) hr8 (by decide)).mpr c9) h
        refine lv_aload_n hx hb eX6_readBoth_13.2.2.2.2.1 rfl (lv_at hl 0 rfl) ?_
        obtain ⟨s11, hc10, h⟩ := bn_e h
        refine ywVv (As := []) (rest := []) (C := RX6) (n := 0) (ws' := CS D a s11) ⟨hx, hb, hml, hown, ht⟩ (k_x6_advance l D a _ _ _ hc10) (zgV ml_X6_75 im_X6_advance se_X6_advance in_X6 co_X6_advance) rfl rfl (by decide +kernel) ⟨by show 1 + 1 ≤ 8 * d + 101; omega, by show 8 + (2 + 11) + 60 ≤ 60 * (8 * d + 101); omega⟩ hN hK hP (hDD _) hS hA 5 CW_5 rfl rfl rfl hl.1 rfl (Nat.le_of_ble_eq_true rfl) eX6_readBoth_13.2.2.2.2.2.1 ⟨Nat.le_of_ble_eq_true rfl, Nat.le_of_ble_eq_true rfl⟩ (fun H locs hP hS => ?_)
        refine lv_aload_n hx hb eX6_readBoth_13.2.2.2.2.2.2.1 rfl (lv_at hl 0 rfl) ?_
        obtain ⟨s13, hc12, h⟩ := bn_e h
        refine ywVv (As := []) (rest := []) (C := RX6) (n := 0) (ws' := CS D a s13) ⟨hx, hb, hml, hown, ht⟩ (k_x6_readFact l D a d rgs hF hT _ _ _ hc12) (zgV ml_X6_194 im_X6_readFact se_X6_readFact in_X6 co_X6_readFact) rfl rfl (by decide +kernel) ⟨by show (8 * (d + 1) + 92) + 1 ≤ 8 * d + 101; omega, by show 8 + (2 + 11) + 60 * (8 * (d + 1) + 92) ≤ 60 * (8 * d + 101); omega⟩ hN hK hP (hDD _) hS hA 5 CW_5 rfl rfl rfl hl.1 rfl (Nat.le_of_ble_eq_true rfl) eX6_readBoth_13.2.2.2.2.2.2.2 ⟨Nat.le_of_ble_eq_true rfl, Nat.le_of_ble_eq_true rfl⟩ (fun H locs hP hS => ?_)
        refine lv_aload_n hx hb eX6_readBoth_30.1 rfl (lv_at hl 0 rfl) ?_
        obtain ⟨he14, h⟩ := eqg_e h
        refine va_get (D := D) (ci := 6) (v := .ref (a 47)) (C := RX6) (T := TX6) (N := 12) hx hb ht inX6 hown hK hP 5 CW_5 rfl 4 (by decide) (ht (.fieldLink RX6 84 "CloneVolumes$Reader" "code" "LCloneVolumes$Code;") fl_X6_84) (fun _ h9 => h9) (congrArg some (rcv_2 he14)) eX6_readBoth_30.2.1 ?_
        refine lv_bipush (v := (-10)) hx hb eX6_readBoth_30.2.2.1 (by decide) ?_
        obtain ⟨s16, hc15, h⟩ := bn_e h
        refine ywVv (As := [.int (-10)]) (rest := []) (C := RX0) (n := 1) (ws' := CS D a s16) ⟨hx, hb, hml, hown, ht⟩ (k_x0_add l D a (-10) _ _ _ hc15) (zgV ml_X6_191 im_X0_add se_X0_add in_X0 co_X0_add) rfl rfl (by decide +kernel) ⟨by show 0 + 1 ≤ 8 * d + 101; omega, by show 8 + (2 + 11) + 0 ≤ 60 * (8 * d + 101); omega⟩ hN hK hP (hDD _) hS hA 47 CW_47 rfl rfl rfl hl.1 rfl (Nat.le_of_ble_eq_true rfl) eX6_readBoth_30.2.2.2.1 ⟨Nat.le_of_ble_eq_true rfl, Nat.le_of_ble_eq_true rfl⟩ (fun H locs hP hS => ?_)
        refine lv_iinc (v := i2 (x2 + 1)) (lv' := [(1, .int (i2 (x2 + 1))), (0, .ref (a 5))]) hx hb eX6_readBoth_30.2.2.2.2.1 hl (k := 1) rfl (i2_add x2 1) (by decide) rfl (fun ls hl => ?_)
        refine lv_goto (tgt := 6) hx hb eX6_readBoth_30.2.2.2.2.2.1 (by decide) ?_
        exact ih6 (x2 + 1, s16) _ _ _ ⟨hP, hS, lv_sub hl [1, 0] rfl, h⟩
  refine lv_aload_n hx hb eX2_toldRows_9.2.1 rfl (lv_at hl 0 rfl) ?_
  obtain ⟨s18, hc17, h⟩ := bn_e h
  refine ywVv (As := []) (rest := []) (C := RX6) (n := 0) (ws' := CS D a s18) ⟨hx, hb, hml, hown, ht⟩ (k_x6_readFact l D a d rgs hF hT _ _ _ hc17) (zgV ml_X6_194 im_X6_readFact se_X6_readFact in_X6 co_X6_readFact) rfl rfl (by decide +kernel) ⟨by show (8 * (d + 1) + 92) + 1 ≤ 8 * d + 101; omega, by show 8 + (2 + 11) + 60 * (8 * (d + 1) + 92) ≤ 60 * (8 * d + 101); omega⟩ hN hK hP (hDD _) hS hA 5 CW_5 rfl rfl rfl hl.1 rfl (Nat.le_of_ble_eq_true rfl) eX2_toldRows_9.2.2.1 ⟨Nat.le_of_ble_eq_true rfl, Nat.le_of_ble_eq_true rfl⟩ (fun H locs hP hS => ?_)
  refine lv_iconst (v := 0) hx hb eX2_toldRows_9.2.2.2.1 (by decide) ?_
  refine lv_istore_n (lv' := [(1, .int 0), (0, .ref (a 5))]) hx hb eX2_toldRows_9.2.2.2.2.1 rfl hl (by decide) rfl (fun ls hl => ?_)
  exact J6 FU (0, s18) _ _ _ ⟨hP, hS, lv_sub hl [1, 0] rfl, h⟩
set_option maxHeartbeats 4000000 in
set_option maxRecDepth 100000 in
theorem k_x6_readTest (l : Launch) (D : va_G) (a : Nat → Nat) (d : Nat) (rgs : (MS → Option MS) × (MS → Option MS)) (hF : ∀ (sz : Nat) (s o : MS), rgs.1 s = some o → yWv l yX6_readFact cX6_readFact 2 none { frames := 8 * d + 92, cells := 0, slots := 0, locals := 60 * (8 * d + 92) } D sz [.ref (a 5)] (CS D a s) (CS D a o)) (hT : ∀ (sz : Nat) (s o : MS), rgs.2 s = some o → yWv l yX6_readTest cX6_readTest 2 none { frames := 8 * d + 96, cells := 0, slots := 0, locals := 60 * (8 * d + 96) } D sz [.ref (a 5)] (CS D a s) (CS D a o)) (sz : Nat) (s : MS) (o : MS) (h : m_x6_readTest rgs s = some o) : yWv l yX6_readTest cX6_readTest 2 none { frames := 8 * (d + 1) + 96, cells := 0, slots := 0, locals := 60 * (8 * (d + 1) + 96) } D sz [.ref (a 5)] (CS D a s) (CS D a o) := by
  refine Met.ofW (cc := cX6_readTest) (maxL := 2) (ret := none) (by decide) rfl ?_
  intro p e s₀ m args below meth c s₁ B hml hv
  obtain ⟨rfl, ⟨hsz, hP, hK, hD0⟩, hN⟩ := hv
  have hx := B.exec
  have hb := B.bytes
  have hr := B.returns
  have hts := atoms_spec (ws := wz yX6_readTest cX6_readTest 2 none) B.pre
  have ht : ∀ w ∈ lw_gd, w.before _ s₀ = true := fun w h => hts w (List.mem_cons_of_mem _ h)
  have hown : s₀.vm.findClass RX6 = some m.cls := findClass_of_methodNamed B.named
  have hlocks := B.notSynchronized
  subst hsz
  have hD := hD0.self (sz := s₀.heap.size)
  generalize hAe : va_A (CS D a s) s₀.heap.size = A at hD ⊢
  have hA : ∀ q : Nat, s₀.heap.size ≤ q → A q := fun q h => by rw [← hAe]; exact Or.inr h
  have hS : va_S A s₀.heap s₀.heap [] := va_S.rf
  have hDD : ∀ t : MS, va_D A (CS D a t) := fun t => CW_D t hD
  have hl := lv_entry ([.ref (a 5)]) (n := 2) (Nat.le_of_ble_eq_true rfl)
  rw [lg_entry_eq]
  generalize (lg_sl ([.ref (a 5)]) ++ List.replicate (2 - (lg_sl ([.ref (a 5)])).length) Slot.unset).toArray = ls at hl ⊢
  have hl : lv_has ls 2 [(0, .ref (a 5))] := hl
  unfold m_x6_readTest at h
  refine y_head (pcJ := 45) (σ := MS) (fun u H locs ls => va_P D vwCl (CS D a u) H ∧ va_S A s₀.heap H locs ∧ lv_has ls 2 [] ∧ m_x6_readTest_J45 rgs u = some o) (fun u => []) (fun u H locs ls hI => ?_) (fun J45 => ?_)
  · obtain ⟨hP, hS, hl, h⟩ := hI
    obtain ⟨s1, rfl⟩ : ∃ z, z = u := ⟨u, rfl⟩
    have hP : va_P D vwCl (CS D a s1) H := hP
    have hl : lv_has ls 2 [] := hl
    have h : m_x6_readTest_J45 rgs s1 = some o := h
    unfold m_x6_readTest_J45 at h
    obtain rfl := Option.some.inj h
    exact W.vret hx hb hr (fun t ht hW => ⟨⟨(), rfl, trivial, by rw [ht]; exact hP, va_K.moved hW.alike hK, hDD _⟩, hS.F ht⟩) hS.2.2 eX6_readTest_34.2.2.2.2.1
  refine y_loop (pcJ := 6) (σ := Int × MS) (fun n u H locs ls => va_P D vwCl (CS D a u.2) H ∧ va_S A s₀.heap H locs ∧ lv_has ls 2 [(0, .ref (a 5)), (1, .int (i2 u.1))] ∧ m_x6_readTest_L6 rgs n u.1 u.2 = some o) (fun u => []) (fun u H locs ls hI => by obtain ⟨_, _, _, h⟩ := hI; cases h) (fun n6 ih6 u H locs ls hI => ?_) (fun J6 => ?_)
  · obtain ⟨hP, hS, hl, h⟩ := hI
    obtain ⟨x2, s3⟩ := u
    have hP : va_P D vwCl (CS D a s3) H := hP
    have hl : lv_has ls 2 [(0, .ref (a 5)), (1, .int (i2 x2))] := hl
    have h : m_x6_readTest_b6 rgs (m_x6_readTest_L6 rgs n6) x2 s3 = some o := h
    unfold m_x6_readTest_b6 at h
    refine lv_iload_n hx hb eX6_readTest_1.2.2.2.1 rfl (lv_at hl 1 rfl) ?_
    refine lv_sipush (v := 1600) hx hb eX6_readTest_1.2.2.2.2.1 (by decide) ?_
    obtain ⟨hr4, h⟩ := rg_e h
    refine lv_icmp_ge (tgt := 45) hx hb eX6_readTest_1.2.2.2.2.2.1 (by decide) (fun c5 => ?_) (fun c5 => ?_)
    · have h := if_t ((i2_le (x := 1600) (y := x2) (by decide) hr4).mp c5) h
      exact J45 s3 _ _ _ ⟨hP, hS, lv_sub hl [] rfl, h⟩
    · have h := if_f (mt (i2_le (x := 1600) (y := x2) (by decide) hr4).mpr c5) h
      refine lv_aload_n hx hb eX6_readTest_1.2.2.2.2.2.2.1 rfl (lv_at hl 0 rfl) ?_
      refine lv_bipush (v := 21) hx hb eX6_readTest_1.2.2.2.2.2.2.2 (by decide) ?_
      obtain ⟨r7, hc6, h⟩ := bn_e h
      refine ycV (r0 := i2 r7) (As := [.int 21]) (rest := []) (C := RX6) (n := 1) ⟨hx, hb, hml, hown, ht⟩ (k_x6_isWord l D a 21 _ _ hc6) (zgV ml_X6_121 im_X6_isWord se_X6_isWord in_X6 co_X6_isWord) rfl rfl (by decide +kernel) ⟨by show 0 + 1 ≤ 8 * (d + 1) + 96; omega, by show 8 + (2 + 11) + 0 ≤ 60 * (8 * (d + 1) + 96); omega⟩ hN hK hP hS 5 CW_5 rfl rfl rfl hl.1 rfl (Nat.le_of_ble_eq_true rfl) eX6_readTest_16.1 ⟨Nat.le_of_ble_eq_true rfl, Nat.le_of_ble_eq_true rfl⟩ (fun H locs hP hS => ?_)
      obtain ⟨hr8, h⟩ := rg_e h
      refine lv_if_eq (tgt := 45) hx hb eX6_readTest_16.2.1 (by decide) (fun c9 => ?_) (fun c9 => ?_)
      · have h := if_t ((i2_eq (x := r7) (y := 0) hr8 (by decide)).mp c9) h
        exact J45 s3 _ _ _ ⟨hP, hS, lv_sub hl [] rfl, h⟩
      · have h := if_f (mt (i2_eq (x := r7) (y := 0) hr8 (by decide)).mpr c9) h
        refine lv_aload_n hx hb eX6_readTest_16.2.2.1 rfl (lv_at hl 0 rfl) ?_
        obtain ⟨s11, hc10, h⟩ := bn_e h
        refine ywVv (As := []) (rest := []) (C := RX6) (n := 0) (ws' := CS D a s11) ⟨hx, hb, hml, hown, ht⟩ (k_x6_advance l D a _ _ _ hc10) (zgV ml_X6_75 im_X6_advance se_X6_advance in_X6 co_X6_advance) rfl rfl (by decide +kernel) ⟨by show 1 + 1 ≤ 8 * (d + 1) + 96; omega, by show 8 + (2 + 11) + 60 ≤ 60 * (8 * (d + 1) + 96); omega⟩ hN hK hP (hDD _) hS hA 5 CW_5 rfl rfl rfl hl.1 rfl (Nat.le_of_ble_eq_true rfl) eX6_readTest_16.2.2.2.1 ⟨Nat.le_of_ble_eq_true rfl, Nat.le_of_ble_eq_true rfl⟩ (fun H locs hP hS => ?_)
        refine lv_aload_n hx hb eX6_readTest_16.2.2.2.2.1 rfl (lv_at hl 0 rfl) ?_
        obtain ⟨s13, hc12, h⟩ := bn_e h
        refine ywVv (As := []) (rest := []) (C := RX6) (n := 0) (ws' := CS D a s13) ⟨hx, hb, hml, hown, ht⟩ (k_x6_readBoth l D a d rgs hF hT _ _ _ hc12) (zgV ml_X6_188 im_X6_readBoth se_X6_readBoth in_X6 co_X6_readBoth) rfl rfl (by decide +kernel) ⟨by show (8 * d + 101) + 1 ≤ 8 * (d + 1) + 96; omega, by show 8 + (2 + 11) + 60 * (8 * d + 101) ≤ 60 * (8 * (d + 1) + 96); omega⟩ hN hK hP (hDD _) hS hA 5 CW_5 rfl rfl rfl hl.1 rfl (Nat.le_of_ble_eq_true rfl) eX6_readTest_16.2.2.2.2.2.1 ⟨Nat.le_of_ble_eq_true rfl, Nat.le_of_ble_eq_true rfl⟩ (fun H locs hP hS => ?_)
        refine lv_aload_n hx hb eX6_readTest_16.2.2.2.2.2.2.1 rfl (lv_at hl 0 rfl) ?_
        obtain ⟨he14, h⟩ := eqg_e h
        refine va_get (D := D) (ci := 6) (v := .ref (a 47)) (C := RX6) (T := TX6) (N := 12) hx hb ht inX6 hown hK hP 5 CW_5 rfl 4 (by decide) (ht (.fieldLink RX6 84 "CloneVolumes$Reader" "code" "LCloneVolumes$Code;") fl_X6_84) (fun _ h9 => h9) (congrArg some (rcv_2 he14)) eX6_readTest_16.2.2.2.2.2.2.2 ?_
        refine lv_bipush (v := (-11)) hx hb eX6_readTest_34.1 (by decide) ?_
        obtain ⟨s16, hc15, h⟩ := bn_e h
        refine ywVv (As := [.int (-11)]) (rest := []) (C := RX0) (n := 1) (ws' := CS D a s16) ⟨hx, hb, hml, hown, ht⟩ (k_x0_add l D a (-11) _ _ _ hc15) (zgV ml_X6_191 im_X0_add se_X0_add in_X0 co_X0_add) rfl rfl (by decide +kernel) ⟨by show 0 + 1 ≤ 8 * (d + 1) + 96; omega, by show 8 + (2 + 11) + 0 ≤ 60 * (8 * (d + 1) + 96); omega⟩ hN hK hP (hDD _) hS hA 47 CW_47 rfl rfl rfl hl.1 rfl (Nat.le_of_ble_eq_true rfl) eX6_readTest_34.2.1 ⟨Nat.le_of_ble_eq_true rfl, Nat.le_of_ble_eq_true rfl⟩ (fun H locs hP hS => ?_)
        refine lv_iinc (v := i2 (x2 + 1)) (lv' := [(1, .int (i2 (x2 + 1))), (0, .ref (a 5))]) hx hb eX6_readTest_34.2.2.1 hl (k := 1) rfl (i2_add x2 1) (by decide) rfl (fun ls hl => ?_)
        refine lv_goto (tgt := 6) hx hb eX6_readTest_34.2.2.2.1 (by decide) ?_
        exact ih6 (x2 + 1, s16) _ _ _ ⟨hP, hS, lv_sub hl [1, 0] rfl, h⟩
  refine lv_aload_n hx hb eX6_readBoth_30.2.2.2.2.2.2.2 rfl (lv_at hl 0 rfl) ?_
  obtain ⟨s18, hc17, h⟩ := bn_e h
  refine ywVv (As := []) (rest := []) (C := RX6) (n := 0) (ws' := CS D a s18) ⟨hx, hb, hml, hown, ht⟩ (k_x6_readBoth l D a d rgs hF hT _ _ _ hc17) (zgV ml_X6_188 im_X6_readBoth se_X6_readBoth in_X6 co_X6_readBoth) rfl rfl (by decide +kernel) ⟨by show (8 * d + 101) + 1 ≤ 8 * (d + 1) + 96; omega, by show 8 + (2 + 11) + 60 * (8 * d + 101) ≤ 60 * (8 * (d + 1) + 96); omega⟩ hN hK hP (hDD _) hS hA 5 CW_5 rfl rfl rfl hl.1 rfl (Nat.le_of_ble_eq_true rfl) eX6_readTest_1.1 ⟨Nat.le_of_ble_eq_true rfl, Nat.le_of_ble_eq_true rfl⟩ (fun H locs hP hS => ?_)
  refine lv_iconst (v := 0) hx hb eX6_readTest_1.2.1 (by decide) ?_
  refine lv_istore_n (lv' := [(1, .int 0), (0, .ref (a 5))]) hx hb eX6_readTest_1.2.2.1 rfl hl (by decide) rfl (fun ls hl => ?_)
  exact J6 FU (0, s18) _ _ _ ⟨hP, hS, lv_sub hl [1, 0] rfl, h⟩
theorem rg2_met (l : Launch) (D : va_G) (a : Nat → Nat) : ∀ d : Nat, (∀ (sz : Nat) (s o : MS), (RG2 d).1 s = some o → yWv l yX6_readFact cX6_readFact 2 none { frames := 8 * d + 92, cells := 0, slots := 0, locals := 60 * (8 * d + 92) } D sz [.ref (a 5)] (CS D a s) (CS D a o)) ∧ (∀ (sz : Nat) (s o : MS), (RG2 d).2 s = some o → yWv l yX6_readTest cX6_readTest 2 none { frames := 8 * d + 96, cells := 0, slots := 0, locals := 60 * (8 * d + 96) } D sz [.ref (a 5)] (CS D a s) (CS D a o)) := by
  intro d
  induction d with
  | zero => exact ⟨fun sz s o h => (by cases h), fun sz s o h => (by cases h)⟩
  | succ d ih => exact ⟨fun sz s o h => k_x6_readFact l D a d (RG2 d) ih.1 ih.2 sz s o h, fun sz s o h => k_x6_readTest l D a d (RG2 d) ih.1 ih.2 sz s o h⟩
theorem k_x6_readTestC (l : Launch) (D : va_G) (a : Nat → Nat) (sz : Nat) (s o : MS) (h : m_x6_readTestC s = some o) : yWv l yX6_readTest cX6_readTest 2 none { frames := 8 * 8 + 96, cells := 0, slots := 0, locals := 60 * (8 * 8 + 96) } D sz [.ref (a 5)] (CS D a s) (CS D a o) := (rg2_met l D a 8).2 sz s o h
set_option maxHeartbeats 4000000 in
set_option maxRecDepth 100000 in
theorem k_x9_hasRoom (l : Launch) (D : va_G) (a : Nat → Nat) (s : MS) (o : Int) (h : m_x9_hasRoom s = some o) : yRi l yX9_hasRoom cX9_hasRoom 1 (some .boolean) { frames := 0, cells := 0, slots := 0, locals := 0 } D [.ref (a 3)] (CS D a s) (i2 o) := by
  refine Met.ofW (cc := cX9_hasRoom) (maxL := 1) (ret := (some .boolean)) (by decide) rfl ?_
  intro p e s₀ m args below meth c s₁ B hml hv
  obtain ⟨rfl, ⟨hP, hK⟩, hN⟩ := hv
  have hx := B.exec
  have hb := B.bytes
  have hr := B.returns
  have hts := atoms_spec (ws := wz yX9_hasRoom cX9_hasRoom 1 (some .boolean)) B.pre
  have ht : ∀ w ∈ lw_gd, w.before _ s₀ = true := fun w h => hts w (List.mem_cons_of_mem _ h)
  have hown : s₀.vm.findClass RX9 = some m.cls := findClass_of_methodNamed B.named
  have hlocks := B.notSynchronized
  have hS : va_S (fun _ => False) s₀.heap s₀.heap [] := va_S.rf
  have hl := lv_entry ([.ref (a 3)]) (n := 1) (Nat.le_of_ble_eq_true rfl)
  rw [lg_entry_eq]
  generalize (lg_sl ([.ref (a 3)]) ++ List.replicate (1 - (lg_sl ([.ref (a 3)])).length) Slot.unset).toArray = ls at hl ⊢
  have hl : lv_has ls 1 [(0, .ref (a 3))] := hl
  unfold m_x9_hasRoom at h
  refine y_head (pcJ := 18) (σ := Int) (fun u H locs ls => va_P D vwCl (CS D a s) H ∧ va_S (fun _ => False) s₀.heap H locs ∧ lv_has ls 1 [] ∧ m_x9_hasRoom_J18 s u = some o) (fun u => [.int (i2 u)]) (fun u H locs ls hI => ?_) (fun J18 => ?_)
  · obtain ⟨hP, hS, hl, h⟩ := hI
    obtain ⟨x1, rfl⟩ : ∃ z, z = u := ⟨u, rfl⟩
    have hP : va_P D vwCl (CS D a s) H := hP
    have hl : lv_has ls 1 [] := hl
    have h : m_x9_hasRoom_J18 s x1 = some o := h
    unfold m_x9_hasRoom_J18 at h
    obtain ⟨hb2, h⟩ := bo_e h
    obtain rfl := Option.some.inj h
    exact W.zret (v := (i2 x1)) hx hb hr (bo_n hb2) (fun t ht hW => ⟨⟨_, (), rfl, rfl, trivial⟩, hS.F ht⟩) hS.2.2 eX9_hasRoom_10.2.2.2.2
  refine lv_aload_n hx hb eX9_append_43.2.2.2.1 rfl (lv_at hl 0 rfl) ?_
  refine va_get (D := D) (ci := 9) (v := .int (i2 (gI s 61))) (C := RX9) (T := TX9) (N := 2) hx hb ht inX9 hown hK hP 3 CW_3 rfl 1 (by decide) (ht (.fieldLink RX9 15 "CloneVolumes$Tape" "length" "I") fl_X9_15) (fun _ h9 => h9) rfl eX9_append_43.2.2.2.2.1 ?_
  refine lv_bipush (v := 20) hx hb eX9_append_43.2.2.2.2.2.1 (by decide) ?_
  refine lv_iadd hx hb eX9_append_43.2.2.2.2.2.2.1 ?_
  refine z_topi (y := i2 ((gI s 61) + 20)) (i2_add (gI s 61) 20) ?_
  refine lv_sipush (v := 1600) hx hb eX9_append_43.2.2.2.2.2.2.2 (by decide) ?_
  obtain ⟨hr3, h⟩ := rg_e h
  refine lv_icmp_gt (tgt := 17) hx hb eX9_hasRoom_10.1 (by decide) (fun c4 => ?_) (fun c4 => ?_)
  · have h := if_t ((i2_lt (x := 1600) (y := ((gI s 61) + 20)) (by decide) hr3).mp c4) h
    refine lv_iconst (v := 0) hx hb eX9_hasRoom_10.2.2.2.1 (by decide) ?_
    exact J18 0 _ _ _ ⟨hP, hS, lv_sub hl [] rfl, h⟩
  · have h := if_f (mt (i2_lt (x := 1600) (y := ((gI s 61) + 20)) (by decide) hr3).mpr c4) h
    refine lv_iconst (v := 1) hx hb eX9_hasRoom_10.2.1 (by decide) ?_
    refine lv_goto (tgt := 18) hx hb eX9_hasRoom_10.2.2.1 (by decide) ?_
    exact J18 1 _ _ _ ⟨hP, hS, lv_sub hl [] rfl, h⟩
set_option maxHeartbeats 4000000 in
set_option maxRecDepth 100000 in
theorem k_x9_append (l : Launch) (D : va_G) (a : Nat → Nat) (p0 : Int) (sz : Nat) (s : MS) (o : MS) (h : m_x9_append p0 s = some o) : yWv l yX9_append cX9_append 3 none { frames := 0, cells := 0, slots := 0, locals := 0 } D sz [.ref (a 3), .int (i2 p0)] (CS D a s) (CS D a o) := by
  refine Met.ofW (cc := cX9_append) (maxL := 3) (ret := none) (by decide) rfl ?_
  intro p e s₀ m args below meth c s₁ B hml hv
  obtain ⟨rfl, ⟨hsz, hP, hK, hD0⟩, hN⟩ := hv
  have hx := B.exec
  have hb := B.bytes
  have hr := B.returns
  have hts := atoms_spec (ws := wz yX9_append cX9_append 3 none) B.pre
  have ht : ∀ w ∈ lw_gd, w.before _ s₀ = true := fun w h => hts w (List.mem_cons_of_mem _ h)
  have hown : s₀.vm.findClass RX9 = some m.cls := findClass_of_methodNamed B.named
  have hlocks := B.notSynchronized
  subst hsz
  have hD := hD0.self (sz := s₀.heap.size)
  generalize hAe : va_A (CS D a s) s₀.heap.size = A at hD ⊢
  have hA : ∀ q : Nat, s₀.heap.size ≤ q → A q := fun q h => by rw [← hAe]; exact Or.inr h
  have hS : va_S A s₀.heap s₀.heap [] := va_S.rf
  have hDD : ∀ t : MS, va_D A (CS D a t) := fun t => CW_D t hD
  have hl := lv_entry ([.ref (a 3), .int (i2 p0)]) (n := 3) (Nat.le_of_ble_eq_true rfl)
  rw [lg_entry_eq]
  generalize (lg_sl ([.ref (a 3), .int (i2 p0)]) ++ List.replicate (3 - (lg_sl ([.ref (a 3), .int (i2 p0)])).length) Slot.unset).toArray = ls at hl ⊢
  have hl : lv_has ls 3 [(0, .ref (a 3)), (1, .int (i2 p0))] := hl
  unfold m_x9_append at h
  refine y_head (pcJ := 49) (σ := MS) (fun u H locs ls => va_P D vwCl (CS D a u) H ∧ va_S A s₀.heap H locs ∧ lv_has ls 3 [] ∧ m_x9_append_J49 u = some o) (fun u => []) (fun u H locs ls hI => ?_) (fun J49 => ?_)
  · obtain ⟨hP, hS, hl, h⟩ := hI
    obtain ⟨s1, rfl⟩ : ∃ z, z = u := ⟨u, rfl⟩
    have hP : va_P D vwCl (CS D a s1) H := hP
    have hl : lv_has ls 3 [] := hl
    have h : m_x9_append_J49 s1 = some o := h
    unfold m_x9_append_J49 at h
    obtain rfl := Option.some.inj h
    exact W.vret hx hb hr (fun t ht hW => ⟨⟨(), rfl, trivial, by rw [ht]; exact hP, va_K.moved hW.alike hK, hDD _⟩, hS.F ht⟩) hS.2.2 eX9_append_43.2.2.1
  refine y_loop (pcJ := 3) (σ := Int × Int × MS) (fun n u H locs ls => va_P D vwCl (CS D a u.2.2) H ∧ va_S A s₀.heap H locs ∧ lv_has ls 3 [(0, .ref (a 3)), (1, .int (i2 u.1)), (2, .int (i2 u.2.1))] ∧ m_x9_append_L3 n u.1 u.2.1 u.2.2 = some o) (fun u => []) (fun u H locs ls hI => by obtain ⟨_, _, _, h⟩ := hI; cases h) (fun n3 ih3 u H locs ls hI => ?_) (fun J3 => ?_)
  · obtain ⟨hP, hS, hl, h⟩ := hI
    obtain ⟨x2, x3, s4⟩ := u
    have hP : va_P D vwCl (CS D a s4) H := hP
    have hl : lv_has ls 3 [(0, .ref (a 3)), (1, .int (i2 x2)), (2, .int (i2 x3))] := hl
    have h : m_x9_append_b3 (m_x9_append_L3 n3) x2 x3 s4 = some o := h
    unfold m_x9_append_b3 at h
    refine lv_iload_n hx hb eX9_append_0.2.2.1 rfl (lv_at hl 2 rfl) ?_
    obtain ⟨hr5, h⟩ := rg_e h
    refine lv_if_lt (tgt := 49) hx hb eX9_append_0.2.2.2.1 (by decide) (fun c6 => ?_) (fun c6 => ?_)
    · have h := if_t ((i2_lt (x := x3) (y := 0) hr5 (by decide)).mp c6) h
      exact J49 s4 _ _ _ ⟨hP, hS, lv_sub hl [] rfl, h⟩
    · have h := if_f (mt (i2_lt (x := x3) (y := 0) hr5 (by decide)).mpr c6) h
      refine lv_aload_n hx hb eX9_append_0.2.2.2.2.1 rfl (lv_at hl 0 rfl) ?_
      refine va_get (D := D) (ci := 9) (v := .int (i2 (gI s4 61))) (C := RX9) (T := TX9) (N := 2) hx hb ht inX9 hown hK hP 3 CW_3 rfl 1 (by decide) (ht (.fieldLink RX9 15 "CloneVolumes$Tape" "length" "I") fl_X9_15) (fun _ h9 => h9) rfl eX9_append_0.2.2.2.2.2.1 ?_
      refine lv_sipush (v := 1600) hx hb eX9_append_0.2.2.2.2.2.2.1 (by decide) ?_
      obtain ⟨hr7, h⟩ := rg_e h
      refine lv_icmp_ge (tgt := 49) hx hb eX9_append_0.2.2.2.2.2.2.2 (by decide) (fun c8 => ?_) (fun c8 => ?_)
      · have h := if_t ((i2_le (x := 1600) (y := (gI s4 61)) (by decide) hr7).mp c8) h
        exact J49 s4 _ _ _ ⟨hP, hS, lv_sub hl [] rfl, h⟩
      · have h := if_f (mt (i2_le (x := 1600) (y := (gI s4 61)) (by decide) hr7).mpr c8) h
        refine lv_aload_n hx hb eX9_append_17.1 rfl (lv_at hl 0 rfl) ?_
        refine va_get (D := D) (ci := 9) (v := .ref (a 4)) (C := RX9) (T := TX9) (N := 2) hx hb ht inX9 hown hK hP 3 CW_3 rfl 0 (by decide) (ht (.fieldLink RX9 9 "CloneVolumes$Tape" "bytes" "[I") fl_X9_9) (fun _ h9 => h9) rfl eX9_append_17.2.1 ?_
        refine lv_aload_n hx hb eX9_append_17.2.2.1 rfl (lv_at hl 0 rfl) ?_
        refine va_get (D := D) (ci := 9) (v := .int (i2 (gI s4 61))) (C := RX9) (T := TX9) (N := 2) hx hb ht inX9 hown hK hP 3 CW_3 rfl 1 (by decide) (ht (.fieldLink RX9 15 "CloneVolumes$Tape" "length" "I") fl_X9_15) (fun _ h9 => h9) rfl eX9_append_17.2.2.2.1 ?_
        refine lv_iload_n hx hb eX9_append_17.2.2.2.2.1 rfl (lv_at hl 1 rfl) ?_
        refine lv_iload_n hx hb eX9_append_17.2.2.2.2.2.1 rfl (lv_at hl 2 rfl) ?_
        refine lv_iushr (v := i2 (ushrZ x2 x3)) hx hb eX9_append_17.2.2.2.2.2.2.1 (i2_of (ushr (i2 x2) (i2 x3))).symm ?_
        refine lv_sipush (v := 255) hx hb eX9_append_17.2.2.2.2.2.2.2 (by decide) ?_
        refine lv_iand hx hb eX9_append_31.1 ?_
        refine z_topi (y := i2 (andZ (ushrZ x2 x3) 255)) (i2_of (i2 (ushrZ x2 x3) &&& i2 255)).symm ?_
        obtain ⟨hi9, h⟩ := inb_e h
        refine ya_iast (i := (gI s4 61)) (x := (andZ (ushrZ x2 x3) 255)) hx hb hK hP (hDD _) hS 4 0 CW_4 rfl (by decide) hi9 eX9_append_31.2.1 (CW_w4 _) (fun H locs hP hS => ?_)
        obtain ⟨s10, hs10, h⟩ := st_e h
        rw [hs10] at hP
        refine lv_aload_n hx hb eX9_append_31.2.2.1 rfl (lv_at hl 0 rfl) ?_
        refine lv_dup hx hb eX9_append_31.2.2.2.1 rfl ?_
        refine va_get (D := D) (ci := 9) (v := .int (i2 (gI s10 61))) (C := RX9) (T := TX9) (N := 2) hx hb ht inX9 hown hK hP 3 CW_3 rfl 1 (by decide) (ht (.fieldLink RX9 15 "CloneVolumes$Tape" "length" "I") fl_X9_15) (fun _ h9 => h9) rfl eX9_append_31.2.2.2.2.1 ?_
        refine lv_iconst (v := 1) hx hb eX9_append_31.2.2.2.2.2.1 (by decide) ?_
        refine lv_iadd hx hb eX9_append_31.2.2.2.2.2.2.1 ?_
        refine z_topi (y := i2 ((gI s10 61) + 1)) (i2_add (gI s10 61) 1) ?_
        refine ya_put (D := D) (ci := 9) (v := .int (i2 ((gI s10 61) + 1))) (ty := .int) (C := RX9) (T := TX9) (N := 2) hx hb ht inX9 tyX9 tyX9_ok nmX9 hown hK hP (hDD _) hS 3 CW_3 rfl 1 (by decide) (ht (.fieldLink RX9 15 "CloneVolumes$Tape" "length" "I") fl_X9_15) (fun _ h9 => h9) rfl (by decide +kernel) rfl rfl (Nat.le_of_ble_eq_true rfl) eX9_append_31.2.2.2.2.2.2.2 (CW_w3_1 ((gI s10 61) + 1)) (fun H locs hP hS => ?_)
        obtain ⟨s11, hs11, h⟩ := st_e h
        rw [hs11] at hP
        refine lv_iinc (v := i2 (x3 + (-8))) (lv' := [(2, .int (i2 (x3 + (-8)))), (0, .ref (a 3)), (1, .int (i2 x2))]) hx hb eX9_append_43.1 hl (k := 2) rfl (i2_add x3 (-8)) (by decide) rfl (fun ls hl => ?_)
        refine lv_goto (tgt := 3) hx hb eX9_append_43.2.1 (by decide) ?_
        exact ih3 (x2, x3 + (-8), s11) _ _ _ ⟨hP, hS, lv_sub hl [1, 2, 0] rfl, h⟩
  refine lv_bipush (v := 24) hx hb eX9_append_0.1 (by decide) ?_
  refine lv_istore_n (lv' := [(2, .int 24), (0, .ref (a 3)), (1, .int (i2 p0))]) hx hb eX9_append_0.2.1 rfl hl (by decide) rfl (fun ls hl => ?_)
  exact J3 FU (p0, 24, s) _ _ _ ⟨hP, hS, lv_sub hl [1, 2, 0] rfl, h⟩
set_option maxHeartbeats 4000000 in
set_option maxRecDepth 100000 in
theorem k_x11_refuse (l : Launch) (D : va_G) (a : Nat → Nat) (p0 : Int) (sz : Nat) (s : MS) (o : (Int × MS)) (h : m_x11_refuse p0 s = some o) : yWi l yX11_refuse cX11_refuse 2 (some .int) { frames := 0, cells := 0, slots := 0, locals := 0 } D sz [.ref (a 0), .int (i2 p0)] (CS D a s) (CS D a o.2) (i2 o.1) := by
  refine Met.ofW (cc := cX11_refuse) (maxL := 2) (ret := (some .int)) (by decide) rfl ?_
  intro p e s₀ m args below meth c s₁ B hml hv
  obtain ⟨rfl, ⟨hsz, hP, hK, hD0⟩, hN⟩ := hv
  have hx := B.exec
  have hb := B.bytes
  have hr := B.returns
  have hts := atoms_spec (ws := wz yX11_refuse cX11_refuse 2 (some .int)) B.pre
  have ht : ∀ w ∈ lw_gd, w.before _ s₀ = true := fun w h => hts w (List.mem_cons_of_mem _ h)
  have hown : s₀.vm.findClass RX11 = some m.cls := findClass_of_methodNamed B.named
  have hlocks := B.notSynchronized
  subst hsz
  have hD := hD0.self (sz := s₀.heap.size)
  generalize hAe : va_A (CS D a s) s₀.heap.size = A at hD ⊢
  have hA : ∀ q : Nat, s₀.heap.size ≤ q → A q := fun q h => by rw [← hAe]; exact Or.inr h
  have hS : va_S A s₀.heap s₀.heap [] := va_S.rf
  have hDD : ∀ t : MS, va_D A (CS D a t) := fun t => CW_D t hD
  have hl := lv_entry ([.ref (a 0), .int (i2 p0)]) (n := 2) (Nat.le_of_ble_eq_true rfl)
  rw [lg_entry_eq]
  generalize (lg_sl ([.ref (a 0), .int (i2 p0)]) ++ List.replicate (2 - (lg_sl ([.ref (a 0), .int (i2 p0)])).length) Slot.unset).toArray = ls at hl ⊢
  have hl : lv_has ls 2 [(0, .ref (a 0)), (1, .int (i2 p0))] := hl
  unfold m_x11_refuse at h
  refine lv_aload_n hx hb eX11_letter_47.2.2.1 rfl (lv_at hl 0 rfl) ?_
  refine va_get (D := D) (ci := 11) (v := .ref (a 2)) (C := RX11) (T := TX11) (N := 13) hx hb ht inX11 hown hK hP 0 CW_0 rfl 8 (by decide) (ht (.fieldLink RX11 60 "CloneVolumes" "refused" "[I") fl_X11_60) (fun _ h9 => h9) rfl eX11_letter_47.2.2.2.1 ?_
  refine lv_iload_n hx hb eX11_letter_47.2.2.2.2.1 rfl (lv_at hl 1 rfl) ?_
  refine lv_dup2_11 hx hb eX11_letter_47.2.2.2.2.2.1 rfl rfl ?_
  obtain ⟨y1, ey1, iy1, h⟩ := rdI_e h
  refine ya_iald (i := p0) hx hb hK hP 2 0 CW_2 rfl (by decide) ey1 iy1 eX11_letter_47.2.2.2.2.2.2.1 ?_
  refine lv_iconst (v := 1) hx hb eX11_letter_47.2.2.2.2.2.2.2 (by decide) ?_
  refine lv_iadd hx hb eX11_refuse_8.1 ?_
  refine z_topi (y := i2 (y1 + 1)) (i2_add y1 1) ?_
  obtain ⟨hi2, h⟩ := inb_e h
  refine ya_iast (i := p0) (x := (y1 + 1)) hx hb hK hP (hDD _) hS 2 0 CW_2 rfl (by decide) hi2 eX11_refuse_8.2.1 (CW_w2 _) (fun H locs hP hS => ?_)
  obtain ⟨s3, hs3, h⟩ := st_e h
  rw [hs3] at hP
  refine lv_iconst (v := (-1)) hx hb eX11_refuse_8.2.2.1 (by decide) ?_
  obtain rfl := Option.some.inj h
  exact W.iret (v := (-1)) hx hb hr (fun t ht hW => ⟨⟨_, (), rfl, rfl, by rw [ht]; exact hP, va_K.moved hW.alike hK, hDD _⟩, hS.F ht⟩) hS.2.2 eX11_refuse_8.2.2.2.1
set_option maxHeartbeats 4000000 in
set_option maxRecDepth 100000 in
theorem k_x11_feed (l : Launch) (D : va_G) (a : Nat → Nat) (p0 : Int) (p1 : Int) (p2 : Int) (p3 : Int) (p4 : Int) (sz : Nat) (s : MS) (o : (Int × MS)) (h : m_x11_feed p0 p1 p2 p3 p4 s = some o) : yWi l yX11_feed cX11_feed 6 (some .int) { frames := 1, cells := 0, slots := 0, locals := 60 } D sz [.ref (a 0), .int (i2 p0), .int (i2 p1), .int (i2 p2), .int (i2 p3), .int (i2 p4)] (CS D a s) (CS D a o.2) (i2 o.1) := by
  refine Met.ofW (cc := cX11_feed) (maxL := 6) (ret := (some .int)) (by decide) rfl ?_
  intro p e s₀ m args below meth c s₁ B hml hv
  obtain ⟨rfl, ⟨hsz, hP, hK, hD0⟩, hN⟩ := hv
  have hx := B.exec
  have hb := B.bytes
  have hr := B.returns
  have hts := atoms_spec (ws := wz yX11_feed cX11_feed 6 (some .int)) B.pre
  have ht : ∀ w ∈ lw_gd, w.before _ s₀ = true := fun w h => hts w (List.mem_cons_of_mem _ h)
  have hown : s₀.vm.findClass RX11 = some m.cls := findClass_of_methodNamed B.named
  have hlocks := B.notSynchronized
  subst hsz
  have hD := hD0.self (sz := s₀.heap.size)
  generalize hAe : va_A (CS D a s) s₀.heap.size = A at hD ⊢
  have hA : ∀ q : Nat, s₀.heap.size ≤ q → A q := fun q h => by rw [← hAe]; exact Or.inr h
  have hS : va_S A s₀.heap s₀.heap [] := va_S.rf
  have hDD : ∀ t : MS, va_D A (CS D a t) := fun t => CW_D t hD
  have hl := lv_entry ([.ref (a 0), .int (i2 p0), .int (i2 p1), .int (i2 p2), .int (i2 p3), .int (i2 p4)]) (n := 6) (Nat.le_of_ble_eq_true rfl)
  rw [lg_entry_eq]
  generalize (lg_sl ([.ref (a 0), .int (i2 p0), .int (i2 p1), .int (i2 p2), .int (i2 p3), .int (i2 p4)]) ++ List.replicate (6 - (lg_sl ([.ref (a 0), .int (i2 p0), .int (i2 p1), .int (i2 p2), .int (i2 p3), .int (i2 p4)])).length) Slot.unset).toArray = ls at hl ⊢
  have hl : lv_has ls 6 [(0, .ref (a 0)), (1, .int (i2 p0)), (2, .int (i2 p1)), (3, .int (i2 p2)), (4, .int (i2 p3)), (5, .int (i2 p4))] := hl
  unfold m_x11_feed at h
  refine lv_aload_n hx hb eX11_fault_37.2.2.1 rfl (lv_at hl 0 rfl) ?_
  refine va_get (D := D) (ci := 11) (v := .ref (a 3)) (C := RX11) (T := TX11) (N := 13) hx hb ht inX11 hown hK hP 0 CW_0 rfl 0 (by decide) (ht (.fieldLink RX11 12 "CloneVolumes" "tape" "LCloneVolumes$Tape;") fl_X11_12) (fun _ h9 => h9) rfl eX11_fault_37.2.2.2.1 ?_
  obtain ⟨r2, hc1, h⟩ := bn_e h
  refine ycV (r0 := i2 r2) (As := []) (rest := []) (C := RX9) (n := 0) ⟨hx, hb, hml, hown, ht⟩ (k_x9_hasRoom l D a _ _ hc1) (zgV ml_X11_83 im_X9_hasRoom se_X9_hasRoom in_X9 co_X9_hasRoom) rfl rfl (by decide +kernel) ⟨Nat.le_of_ble_eq_true rfl, Nat.le_of_ble_eq_true rfl⟩ hN hK hP hS 3 CW_3 rfl rfl rfl hl.1 rfl (Nat.le_of_ble_eq_true rfl) eX11_fault_37.2.2.2.2.1 ⟨Nat.le_of_ble_eq_true rfl, Nat.le_of_ble_eq_true rfl⟩ (fun H locs hP hS => ?_)
  obtain ⟨hr3, h⟩ := rg_e h
  refine lv_if_ne (tgt := 16) hx hb eX11_fault_37.2.2.2.2.2.1 (by decide) (fun c4 => ?_) (fun c4 => ?_)
  · have h := if_f (mt (i2_eq (x := r2) (y := 0) hr3 (by decide)).mpr c4) h
    refine lv_aload_n hx hb eX11_feed_12.2.2.1 rfl (lv_at hl 0 rfl) ?_
    refine va_get (D := D) (ci := 11) (v := .ref (a 3)) (C := RX11) (T := TX11) (N := 13) hx hb ht inX11 hown hK hP 0 CW_0 rfl 0 (by decide) (ht (.fieldLink RX11 12 "CloneVolumes" "tape" "LCloneVolumes$Tape;") fl_X11_12) (fun _ h9 => h9) rfl eX11_feed_12.2.2.2.1 ?_
    refine lv_iload_n hx hb eX11_feed_12.2.2.2.2.1 rfl (lv_at hl 1 rfl) ?_
    obtain ⟨s6, hc5, h⟩ := bn_e h
    refine ywVv (As := [.int (i2 p0)]) (rest := []) (C := RX9) (n := 1) (ws' := CS D a s6) ⟨hx, hb, hml, hown, ht⟩ (k_x9_append l D a p0 _ _ _ hc5) (zgV ml_X11_91 im_X9_append se_X9_append in_X9 co_X9_append) rfl rfl (by decide +kernel) ⟨Nat.le_of_ble_eq_true rfl, Nat.le_of_ble_eq_true rfl⟩ hN hK hP (hDD _) hS hA 3 CW_3 rfl rfl rfl hl.1 rfl (Nat.le_of_ble_eq_true rfl) eX11_feed_12.2.2.2.2.2.1 ⟨Nat.le_of_ble_eq_true rfl, Nat.le_of_ble_eq_true rfl⟩ (fun H locs hP hS => ?_)
    refine lv_aload_n hx hb eX11_feed_12.2.2.2.2.2.2.1 rfl (lv_at hl 0 rfl) ?_
    refine va_get (D := D) (ci := 11) (v := .ref (a 3)) (C := RX11) (T := TX11) (N := 13) hx hb ht inX11 hown hK hP 0 CW_0 rfl 0 (by decide) (ht (.fieldLink RX11 12 "CloneVolumes" "tape" "LCloneVolumes$Tape;") fl_X11_12) (fun _ h9 => h9) rfl eX11_feed_12.2.2.2.2.2.2.2 ?_
    refine lv_iload_n hx hb eX11_feed_28.1 rfl (lv_at hl 2 rfl) ?_
    obtain ⟨s8, hc7, h⟩ := bn_e h
    refine ywVv (As := [.int (i2 p1)]) (rest := []) (C := RX9) (n := 1) (ws' := CS D a s8) ⟨hx, hb, hml, hown, ht⟩ (k_x9_append l D a p1 _ _ _ hc7) (zgV ml_X11_91 im_X9_append se_X9_append in_X9 co_X9_append) rfl rfl (by decide +kernel) ⟨Nat.le_of_ble_eq_true rfl, Nat.le_of_ble_eq_true rfl⟩ hN hK hP (hDD _) hS hA 3 CW_3 rfl rfl rfl hl.1 rfl (Nat.le_of_ble_eq_true rfl) eX11_feed_28.2.1 ⟨Nat.le_of_ble_eq_true rfl, Nat.le_of_ble_eq_true rfl⟩ (fun H locs hP hS => ?_)
    refine lv_aload_n hx hb eX11_feed_28.2.2.1 rfl (lv_at hl 0 rfl) ?_
    refine va_get (D := D) (ci := 11) (v := .ref (a 3)) (C := RX11) (T := TX11) (N := 13) hx hb ht inX11 hown hK hP 0 CW_0 rfl 0 (by decide) (ht (.fieldLink RX11 12 "CloneVolumes" "tape" "LCloneVolumes$Tape;") fl_X11_12) (fun _ h9 => h9) rfl eX11_feed_28.2.2.2.1 ?_
    refine lv_iload_n hx hb eX11_feed_28.2.2.2.2.1 rfl (lv_at hl 3 rfl) ?_
    obtain ⟨s10, hc9, h⟩ := bn_e h
    refine ywVv (As := [.int (i2 p2)]) (rest := []) (C := RX9) (n := 1) (ws' := CS D a s10) ⟨hx, hb, hml, hown, ht⟩ (k_x9_append l D a p2 _ _ _ hc9) (zgV ml_X11_91 im_X9_append se_X9_append in_X9 co_X9_append) rfl rfl (by decide +kernel) ⟨Nat.le_of_ble_eq_true rfl, Nat.le_of_ble_eq_true rfl⟩ hN hK hP (hDD _) hS hA 3 CW_3 rfl rfl rfl hl.1 rfl (Nat.le_of_ble_eq_true rfl) eX11_feed_28.2.2.2.2.2.1 ⟨Nat.le_of_ble_eq_true rfl, Nat.le_of_ble_eq_true rfl⟩ (fun H locs hP hS => ?_)
    refine lv_aload_n hx hb eX11_feed_28.2.2.2.2.2.2.1 rfl (lv_at hl 0 rfl) ?_
    refine va_get (D := D) (ci := 11) (v := .ref (a 3)) (C := RX11) (T := TX11) (N := 13) hx hb ht inX11 hown hK hP 0 CW_0 rfl 0 (by decide) (ht (.fieldLink RX11 12 "CloneVolumes" "tape" "LCloneVolumes$Tape;") fl_X11_12) (fun _ h9 => h9) rfl eX11_feed_28.2.2.2.2.2.2.2 ?_
    refine lv_iload hx hb eX11_feed_44.1 (lv_at hl 4 rfl) ?_
    obtain ⟨s12, hc11, h⟩ := bn_e h
    refine ywVv (As := [.int (i2 p3)]) (rest := []) (C := RX9) (n := 1) (ws' := CS D a s12) ⟨hx, hb, hml, hown, ht⟩ (k_x9_append l D a p3 _ _ _ hc11) (zgV ml_X11_91 im_X9_append se_X9_append in_X9 co_X9_append) rfl rfl (by decide +kernel) ⟨Nat.le_of_ble_eq_true rfl, Nat.le_of_ble_eq_true rfl⟩ hN hK hP (hDD _) hS hA 3 CW_3 rfl rfl rfl hl.1 rfl (Nat.le_of_ble_eq_true rfl) eX11_feed_44.2.1 ⟨Nat.le_of_ble_eq_true rfl, Nat.le_of_ble_eq_true rfl⟩ (fun H locs hP hS => ?_)
    refine lv_aload_n hx hb eX11_feed_44.2.2.1 rfl (lv_at hl 0 rfl) ?_
    refine va_get (D := D) (ci := 11) (v := .ref (a 3)) (C := RX11) (T := TX11) (N := 13) hx hb ht inX11 hown hK hP 0 CW_0 rfl 0 (by decide) (ht (.fieldLink RX11 12 "CloneVolumes" "tape" "LCloneVolumes$Tape;") fl_X11_12) (fun _ h9 => h9) rfl eX11_feed_44.2.2.2.1 ?_
    refine lv_iload hx hb eX11_feed_44.2.2.2.2.1 (lv_at hl 5 rfl) ?_
    obtain ⟨s14, hc13, h⟩ := bn_e h
    refine ywVv (As := [.int (i2 p4)]) (rest := []) (C := RX9) (n := 1) (ws' := CS D a s14) ⟨hx, hb, hml, hown, ht⟩ (k_x9_append l D a p4 _ _ _ hc13) (zgV ml_X11_91 im_X9_append se_X9_append in_X9 co_X9_append) rfl rfl (by decide +kernel) ⟨Nat.le_of_ble_eq_true rfl, Nat.le_of_ble_eq_true rfl⟩ hN hK hP (hDD _) hS hA 3 CW_3 rfl rfl rfl hl.1 rfl (Nat.le_of_ble_eq_true rfl) eX11_feed_44.2.2.2.2.2.1 ⟨Nat.le_of_ble_eq_true rfl, Nat.le_of_ble_eq_true rfl⟩ (fun H locs hP hS => ?_)
    refine lv_aload_n hx hb eX11_feed_44.2.2.2.2.2.2.1 rfl (lv_at hl 0 rfl) ?_
    refine va_get (D := D) (ci := 11) (v := .ref (a 3)) (C := RX11) (T := TX11) (N := 13) hx hb ht inX11 hown hK hP 0 CW_0 rfl 0 (by decide) (ht (.fieldLink RX11 12 "CloneVolumes" "tape" "LCloneVolumes$Tape;") fl_X11_12) (fun _ h9 => h9) rfl eX11_feed_44.2.2.2.2.2.2.2 ?_
    refine va_get (D := D) (ci := 9) (v := .int (i2 (gI s14 61))) (C := RX9) (T := TX9) (N := 2) hx hb ht inX9 hown hK hP 3 CW_3 rfl 1 (by decide) (ht (.fieldLink RX11 95 "CloneVolumes$Tape" "length" "I") fl_X11_95) (fun _ h9 => h9) rfl eX11_feed_62.1 ?_
    obtain rfl := Option.some.inj h
    exact W.iret (v := (i2 (gI s14 61))) hx hb hr (fun t ht hW => ⟨⟨_, (), rfl, rfl, by rw [ht]; exact hP, va_K.moved hW.alike hK, hDD _⟩, hS.F ht⟩) hS.2.2 eX11_feed_62.2.1
  · have h := if_t ((i2_eq (x := r2) (y := 0) hr3 (by decide)).mp c4) h
    refine lv_aload_n hx hb eX11_fault_37.2.2.2.2.2.2.1 rfl (lv_at hl 0 rfl) ?_
    refine lv_iconst (v := 0) hx hb eX11_fault_37.2.2.2.2.2.2.2 (by decide) ?_
    obtain ⟨⟨r17, s16⟩, hc15, h⟩ := bn_e h
    refine ywV (r0 := i2 r17) (As := [.int 0]) (rest := []) (C := RX11) (n := 1) (ws' := CS D a s16) ⟨hx, hb, hml, hown, ht⟩ (k_x11_refuse l D a 0 _ _ _ hc15) (zgV ml_X11_87 im_X11_refuse se_X11_refuse in_X11 co_X11_refuse) rfl rfl (by decide +kernel) ⟨Nat.le_of_ble_eq_true rfl, Nat.le_of_ble_eq_true rfl⟩ hN hK hP (hDD _) hS hA 0 CW_0 rfl rfl rfl hl.1 rfl (Nat.le_of_ble_eq_true rfl) eX11_feed_12.1 ⟨Nat.le_of_ble_eq_true rfl, Nat.le_of_ble_eq_true rfl⟩ (fun H locs hP hS => ?_)
    obtain rfl := Option.some.inj h
    exact W.iret (v := (i2 r17)) hx hb hr (fun t ht hW => ⟨⟨_, (), rfl, rfl, by rw [ht]; exact hP, va_K.moved hW.alike hK, hDD _⟩, hS.F ht⟩) hS.2.2 eX11_feed_12.2.1
set_option maxHeartbeats 4000000 in
set_option maxRecDepth 100000 in
theorem k_x11_end (l : Launch) (D : va_G) (a : Nat → Nat) (p0 : Int) (sz : Nat) (s : MS) (o : (Int × MS)) (h : m_x11_end p0 s = some o) : yWi l yX11_end cX11_end 2 (some .boolean) { frames := 1, cells := 0, slots := 0, locals := 60 } D sz [.ref (a 0), .int (i2 p0)] (CS D a s) (CS D a o.2) (i2 o.1) := by
  refine Met.ofW (cc := cX11_end) (maxL := 2) (ret := (some .boolean)) (by decide) rfl ?_
  intro p e s₀ m args below meth c s₁ B hml hv
  obtain ⟨rfl, ⟨hsz, hP, hK, hD0⟩, hN⟩ := hv
  have hx := B.exec
  have hb := B.bytes
  have hr := B.returns
  have hts := atoms_spec (ws := wz yX11_end cX11_end 2 (some .boolean)) B.pre
  have ht : ∀ w ∈ lw_gd, w.before _ s₀ = true := fun w h => hts w (List.mem_cons_of_mem _ h)
  have hown : s₀.vm.findClass RX11 = some m.cls := findClass_of_methodNamed B.named
  have hlocks := B.notSynchronized
  subst hsz
  have hD := hD0.self (sz := s₀.heap.size)
  generalize hAe : va_A (CS D a s) s₀.heap.size = A at hD ⊢
  have hA : ∀ q : Nat, s₀.heap.size ≤ q → A q := fun q h => by rw [← hAe]; exact Or.inr h
  have hS : va_S A s₀.heap s₀.heap [] := va_S.rf
  have hDD : ∀ t : MS, va_D A (CS D a t) := fun t => CW_D t hD
  have hl := lv_entry ([.ref (a 0), .int (i2 p0)]) (n := 2) (Nat.le_of_ble_eq_true rfl)
  rw [lg_entry_eq]
  generalize (lg_sl ([.ref (a 0), .int (i2 p0)]) ++ List.replicate (2 - (lg_sl ([.ref (a 0), .int (i2 p0)])).length) Slot.unset).toArray = ls at hl ⊢
  have hl : lv_has ls 2 [(0, .ref (a 0)), (1, .int (i2 p0))] := hl
  unfold m_x11_end at h
  refine y_head (pcJ := 15) (σ := MS) (fun u H locs ls => va_P D vwCl (CS D a u) H ∧ va_S A s₀.heap H locs ∧ lv_has ls 2 [(0, .ref (a 0))] ∧ m_x11_end_J15 u = some o) (fun u => []) (fun u H locs ls hI => ?_) (fun J15 => ?_)
  · obtain ⟨hP, hS, hl, h⟩ := hI
    obtain ⟨s1, rfl⟩ : ∃ z, z = u := ⟨u, rfl⟩
    have hP : va_P D vwCl (CS D a s1) H := hP
    have hl : lv_has ls 2 [(0, .ref (a 0))] := hl
    have h : m_x11_end_J15 s1 = some o := h
    unfold m_x11_end_J15 at h
    refine lv_aload_n hx hb eX11_end_6.2.2.2.1 rfl (lv_at hl 0 rfl) ?_
    refine lv_iconst (v := 0) hx hb eX11_end_6.2.2.2.2.1 (by decide) ?_
    obtain ⟨⟨r4, s3⟩, hc2, h⟩ := bn_e h
    refine ywV (r0 := i2 r4) (As := [.int 0]) (rest := []) (C := RX11) (n := 1) (ws' := CS D a s3) ⟨hx, hb, hml, hown, ht⟩ (k_x11_refuse l D a 0 _ _ _ hc2) (zgV ml_X11_87 im_X11_refuse se_X11_refuse in_X11 co_X11_refuse) rfl rfl (by decide +kernel) ⟨Nat.le_of_ble_eq_true rfl, Nat.le_of_ble_eq_true rfl⟩ hN hK hP (hDD _) hS hA 0 CW_0 rfl rfl rfl hl.1 rfl (Nat.le_of_ble_eq_true rfl) eX11_end_6.2.2.2.2.2.1 ⟨Nat.le_of_ble_eq_true rfl, Nat.le_of_ble_eq_true rfl⟩ (fun H locs hP hS => ?_)
    refine lv_pop hx hb eX11_end_6.2.2.2.2.2.2.1 rfl ?_
    refine lv_iconst (v := 0) hx hb eX11_end_6.2.2.2.2.2.2.2 (by decide) ?_
    obtain rfl := Option.some.inj h
    exact W.zret (v := 0) hx hb hr (by decide) (fun t ht hW => ⟨⟨_, (), rfl, rfl, by rw [ht]; exact hP, va_K.moved hW.alike hK, hDD _⟩, hS.F ht⟩) hS.2.2 eX11_end_22.1
  refine lv_iload_n hx hb eX10_tree_155.2.2.2.2.1 rfl (lv_at hl 1 rfl) ?_
  obtain ⟨hr5, h⟩ := rg_e h
  refine lv_if_lt (tgt := 15) hx hb eX10_tree_155.2.2.2.2.2.1 (by decide) (fun c6 => ?_) (fun c6 => ?_)
  · have h := if_t ((i2_lt (x := p0) (y := 0) hr5 (by decide)).mp c6) h
    exact J15 s _ _ _ ⟨hP, hS, lv_sub hl [0] rfl, h⟩
  · have h := if_f (mt (i2_lt (x := p0) (y := 0) hr5 (by decide)).mpr c6) h
    refine lv_iload_n hx hb eX10_tree_155.2.2.2.2.2.2.1 rfl (lv_at hl 1 rfl) ?_
    refine lv_aload_n hx hb eX10_tree_155.2.2.2.2.2.2.2 rfl (lv_at hl 0 rfl) ?_
    refine va_get (D := D) (ci := 11) (v := .ref (a 3)) (C := RX11) (T := TX11) (N := 13) hx hb ht inX11 hown hK hP 0 CW_0 rfl 0 (by decide) (ht (.fieldLink RX11 12 "CloneVolumes" "tape" "LCloneVolumes$Tape;") fl_X11_12) (fun _ h9 => h9) rfl eX11_end_6.1 ?_
    refine va_get (D := D) (ci := 9) (v := .int (i2 (gI s 61))) (C := RX9) (T := TX9) (N := 2) hx hb ht inX9 hown hK hP 3 CW_3 rfl 1 (by decide) (ht (.fieldLink RX11 95 "CloneVolumes$Tape" "length" "I") fl_X11_95) (fun _ h9 => h9) rfl eX11_end_6.2.1 ?_
    obtain ⟨hr7, h⟩ := rg_e h
    obtain ⟨hr8, h⟩ := rg_e h
    refine lv_icmp_le (tgt := 23) hx hb eX11_end_6.2.2.1 (by decide) (fun c9 => ?_) (fun c9 => ?_)
    · have h := if_t ((i2_le (x := p0) (y := (gI s 61)) hr7 hr8).mp c9) h
      refine lv_aload_n hx hb eX11_end_22.2.1 rfl (lv_at hl 0 rfl) ?_
      refine va_get (D := D) (ci := 11) (v := .ref (a 3)) (C := RX11) (T := TX11) (N := 13) hx hb ht inX11 hown hK hP 0 CW_0 rfl 0 (by decide) (ht (.fieldLink RX11 12 "CloneVolumes" "tape" "LCloneVolumes$Tape;") fl_X11_12) (fun _ h9 => h9) rfl eX11_end_22.2.2.1 ?_
      refine lv_iload_n hx hb eX11_end_22.2.2.2.1 rfl (lv_at hl 1 rfl) ?_
      refine ya_put (D := D) (ci := 9) (v := .int (i2 p0)) (ty := .int) (C := RX9) (T := TX9) (N := 2) hx hb ht inX9 tyX9 tyX9_ok nmX9 hown hK hP (hDD _) hS 3 CW_3 rfl 1 (by decide) (ht (.fieldLink RX11 95 "CloneVolumes$Tape" "length" "I") fl_X11_95) (fun _ h9 => h9) rfl (by decide +kernel) rfl rfl (Nat.le_of_ble_eq_true rfl) eX11_end_22.2.2.2.2.1 (CW_w3_1 p0) (fun H locs hP hS => ?_)
      obtain ⟨s10, hs10, h⟩ := st_e h
      rw [hs10] at hP
      refine lv_iconst (v := 1) hx hb eX11_end_22.2.2.2.2.2.1 (by decide) ?_
      obtain rfl := Option.some.inj h
      exact W.zret (v := 1) hx hb hr (by decide) (fun t ht hW => ⟨⟨_, (), rfl, rfl, by rw [ht]; exact hP, va_K.moved hW.alike hK, hDD _⟩, hS.F ht⟩) hS.2.2 eX11_end_22.2.2.2.2.2.2.1
    · have h := if_f (mt (i2_le (x := p0) (y := (gI s 61)) hr7 hr8).mpr c9) h
      exact J15 s _ _ _ ⟨hP, hS, lv_sub hl [0] rfl, h⟩
set_option maxHeartbeats 4000000 in
set_option maxRecDepth 100000 in
theorem k_x11_fault (l : Launch) (D : va_G) (a : Nat → Nat) (p0 : Int) (s : MS) (o : Int) (h : m_x11_fault p0 s = some o) : yRi l yX11_fault cX11_fault 2 (some .int) { frames := 0, cells := 0, slots := 0, locals := 0 } D [.ref (a 0), .int (i2 p0)] (CS D a s) (i2 o) := by
  refine Met.ofW (cc := cX11_fault) (maxL := 2) (ret := (some .int)) (by decide) rfl ?_
  intro p e s₀ m args below meth c s₁ B hml hv
  obtain ⟨rfl, ⟨hP, hK⟩, hN⟩ := hv
  have hx := B.exec
  have hb := B.bytes
  have hr := B.returns
  have hts := atoms_spec (ws := wz yX11_fault cX11_fault 2 (some .int)) B.pre
  have ht : ∀ w ∈ lw_gd, w.before _ s₀ = true := fun w h => hts w (List.mem_cons_of_mem _ h)
  have hown : s₀.vm.findClass RX11 = some m.cls := findClass_of_methodNamed B.named
  have hlocks := B.notSynchronized
  have hS : va_S (fun _ => False) s₀.heap s₀.heap [] := va_S.rf
  have hl := lv_entry ([.ref (a 0), .int (i2 p0)]) (n := 2) (Nat.le_of_ble_eq_true rfl)
  rw [lg_entry_eq]
  generalize (lg_sl ([.ref (a 0), .int (i2 p0)]) ++ List.replicate (2 - (lg_sl ([.ref (a 0), .int (i2 p0)])).length) Slot.unset).toArray = ls at hl ⊢
  have hl : lv_has ls 2 [(0, .ref (a 0)), (1, .int (i2 p0))] := hl
  unfold m_x11_fault at h
  refine y_head (pcJ := 38) (σ := Int) (fun u H locs ls => va_P D vwCl (CS D a s) H ∧ va_S (fun _ => False) s₀.heap H locs ∧ lv_has ls 2 [] ∧ m_x11_fault_J38 s u = some o) (fun u => [.int (i2 u)]) (fun u H locs ls hI => ?_) (fun J38 => ?_)
  · obtain ⟨hP, hS, hl, h⟩ := hI
    obtain ⟨x1, rfl⟩ : ∃ z, z = u := ⟨u, rfl⟩
    have hP : va_P D vwCl (CS D a s) H := hP
    have hl : lv_has ls 2 [] := hl
    have h : m_x11_fault_J38 s x1 = some o := h
    unfold m_x11_fault_J38 at h
    obtain rfl := Option.some.inj h
    exact W.iret (v := (i2 x1)) hx hb hr (fun t ht hW => ⟨⟨_, (), rfl, rfl, trivial⟩, hS.F ht⟩) hS.2.2 eX11_fault_37.2.1
  refine y_head (pcJ := 37) (σ := Unit) (fun u H locs ls => va_P D vwCl (CS D a s) H ∧ va_S (fun _ => False) s₀.heap H locs ∧ lv_has ls 2 [] ∧ m_x11_fault_J37 s u = some o) (fun u => []) (fun u H locs ls hI => ?_) (fun J37 => ?_)
  · obtain ⟨hP, hS, hl, h⟩ := hI
    skip
    have hP : va_P D vwCl (CS D a s) H := hP
    have hl : lv_has ls 2 [] := hl
    have h : m_x11_fault_J37 s () = some o := h
    unfold m_x11_fault_J37 at h
    refine lv_iconst (v := (-1)) hx hb eX11_fault_37.1 (by decide) ?_
    exact J38 (-1) _ _ _ ⟨hP, hS, lv_sub hl [] rfl, h⟩
  refine lv_iload_n hx hb eX11_end_22.2.2.2.2.2.2.2 rfl (lv_at hl 1 rfl) ?_
  obtain ⟨hr2, h⟩ := rg_e h
  refine lv_if_ne (tgt := 12) hx hb eX11_fault_1.1 (by decide) (fun c3 => ?_) (fun c3 => ?_)
  · have h := if_f (mt (i2_eq (x := p0) (y := 0) hr2 (by decide)).mpr c3) h
    refine lv_iload_n hx hb eX11_fault_1.2.2.2.2.2.1 rfl (lv_at hl 1 rfl) ?_
    refine lv_iconst (v := 1) hx hb eX11_fault_1.2.2.2.2.2.2.1 (by decide) ?_
    obtain ⟨hr4, h⟩ := rg_e h
    refine lv_icmp_ne (tgt := 37) hx hb eX11_fault_1.2.2.2.2.2.2.2 (by decide) (fun c5 => ?_) (fun c5 => ?_)
    · have h := if_f (mt (i2_eq (x := p0) (y := 1) hr4 (by decide)).mpr c5) h
      exact J37 () _ _ _ ⟨hP, hS, lv_sub hl [] rfl, h⟩
    · have h := if_t ((i2_eq (x := p0) (y := 1) hr4 (by decide)).mp c5) h
      refine lv_aload_n hx hb eX11_fault_17.1 rfl (lv_at hl 0 rfl) ?_
      refine va_get (D := D) (ci := 11) (v := .ref (a 5)) (C := RX11) (T := TX11) (N := 13) hx hb ht inX11 hown hK hP 0 CW_0 rfl 1 (by decide) (ht (.fieldLink RX11 21 "CloneVolumes" "reader" "LCloneVolumes$Reader;") fl_X11_21) (fun _ h9 => h9) rfl eX11_fault_17.2.1 ?_
      refine va_get (D := D) (ci := 6) (v := .int (i2 (gI s 100))) (C := RX6) (T := TX6) (N := 12) hx hb ht inX6 hown hK hP 5 CW_5 rfl 0 (by decide) (ht (.fieldLink RX11 119 "CloneVolumes$Reader" "fault" "I") fl_X11_119) (fun _ h9 => h9) rfl eX11_fault_17.2.2.1 ?_
      obtain ⟨hr6, h⟩ := rg_e h
      refine lv_if_eq (tgt := 37) hx hb eX11_fault_17.2.2.2.1 (by decide) (fun c7 => ?_) (fun c7 => ?_)
      · have h := if_t ((i2_eq (x := (gI s 100)) (y := 0) hr6 (by decide)).mp c7) h
        exact J37 () _ _ _ ⟨hP, hS, lv_sub hl [] rfl, h⟩
      · have h := if_f (mt (i2_eq (x := (gI s 100)) (y := 0) hr6 (by decide)).mpr c7) h
        refine lv_aload_n hx hb eX11_fault_17.2.2.2.2.1 rfl (lv_at hl 0 rfl) ?_
        refine va_get (D := D) (ci := 11) (v := .ref (a 5)) (C := RX11) (T := TX11) (N := 13) hx hb ht inX11 hown hK hP 0 CW_0 rfl 1 (by decide) (ht (.fieldLink RX11 21 "CloneVolumes" "reader" "LCloneVolumes$Reader;") fl_X11_21) (fun _ h9 => h9) rfl eX11_fault_17.2.2.2.2.2.1 ?_
        refine va_get (D := D) (ci := 6) (v := .int (i2 (gI s 101))) (C := RX6) (T := TX6) (N := 12) hx hb ht inX6 hown hK hP 5 CW_5 rfl 1 (by decide) (ht (.fieldLink RX11 122 "CloneVolumes$Reader" "place" "I") fl_X11_122) (fun _ h9 => h9) rfl eX11_fault_17.2.2.2.2.2.2.1 ?_
        refine lv_goto (tgt := 38) hx hb eX11_fault_17.2.2.2.2.2.2.2 (by decide) ?_
        exact J38 (gI s 101) _ _ _ ⟨hP, hS, lv_sub hl [] rfl, h⟩
  · have h := if_t ((i2_eq (x := p0) (y := 0) hr2 (by decide)).mp c3) h
    refine lv_aload_n hx hb eX11_fault_1.2.1 rfl (lv_at hl 0 rfl) ?_
    refine va_get (D := D) (ci := 11) (v := .ref (a 5)) (C := RX11) (T := TX11) (N := 13) hx hb ht inX11 hown hK hP 0 CW_0 rfl 1 (by decide) (ht (.fieldLink RX11 21 "CloneVolumes" "reader" "LCloneVolumes$Reader;") fl_X11_21) (fun _ h9 => h9) rfl eX11_fault_1.2.2.1 ?_
    refine va_get (D := D) (ci := 6) (v := .int (i2 (gI s 100))) (C := RX6) (T := TX6) (N := 12) hx hb ht inX6 hown hK hP 5 CW_5 rfl 0 (by decide) (ht (.fieldLink RX11 119 "CloneVolumes$Reader" "fault" "I") fl_X11_119) (fun _ h9 => h9) rfl eX11_fault_1.2.2.2.1 ?_
    obtain rfl := Option.some.inj h
    exact W.iret (v := (i2 (gI s 100))) hx hb hr (fun t ht hW => ⟨⟨_, (), rfl, rfl, trivial⟩, hS.F ht⟩) hS.2.2 eX11_fault_1.2.2.2.2.1
set_option maxHeartbeats 4000000 in
set_option maxRecDepth 100000 in
theorem k_x8_isVolume (l : Launch) (D : va_G) (a : Nat → Nat) (p0 : Int) (s : MS) (o : Int) (h : m_x8_isVolume p0 s = some o) : yRi l yX8_isVolume cX8_isVolume 2 (some .boolean) { frames := 0, cells := 0, slots := 0, locals := 0 } D [.ref (a 53), .int (i2 p0)] (CS D a s) (i2 o) := by
  refine Met.ofW (cc := cX8_isVolume) (maxL := 2) (ret := (some .boolean)) (by decide) rfl ?_
  intro p e s₀ m args below meth c s₁ B hml hv
  obtain ⟨rfl, ⟨hP, hK⟩, hN⟩ := hv
  have hx := B.exec
  have hb := B.bytes
  have hr := B.returns
  have hts := atoms_spec (ws := wz yX8_isVolume cX8_isVolume 2 (some .boolean)) B.pre
  have ht : ∀ w ∈ lw_gd, w.before _ s₀ = true := fun w h => hts w (List.mem_cons_of_mem _ h)
  have hown : s₀.vm.findClass RX8 = some m.cls := findClass_of_methodNamed B.named
  have hlocks := B.notSynchronized
  have hS : va_S (fun _ => False) s₀.heap s₀.heap [] := va_S.rf
  have hl := lv_entry ([.ref (a 53), .int (i2 p0)]) (n := 2) (Nat.le_of_ble_eq_true rfl)
  rw [lg_entry_eq]
  generalize (lg_sl ([.ref (a 53), .int (i2 p0)]) ++ List.replicate (2 - (lg_sl ([.ref (a 53), .int (i2 p0)])).length) Slot.unset).toArray = ls at hl ⊢
  have hl : lv_has ls 2 [(0, .ref (a 53)), (1, .int (i2 p0))] := hl
  unfold m_x8_isVolume at h
  refine y_head (pcJ := 26) (σ := Int) (fun u H locs ls => va_P D vwCl (CS D a s) H ∧ va_S (fun _ => False) s₀.heap H locs ∧ lv_has ls 2 [] ∧ m_x8_isVolume_J26 s u = some o) (fun u => [.int (i2 u)]) (fun u H locs ls hI => ?_) (fun J26 => ?_)
  · obtain ⟨hP, hS, hl, h⟩ := hI
    obtain ⟨x1, rfl⟩ : ∃ z, z = u := ⟨u, rfl⟩
    have hP : va_P D vwCl (CS D a s) H := hP
    have hl : lv_has ls 2 [] := hl
    have h : m_x8_isVolume_J26 s x1 = some o := h
    unfold m_x8_isVolume_J26 at h
    obtain ⟨hb2, h⟩ := bo_e h
    obtain rfl := Option.some.inj h
    exact W.zret (v := (i2 x1)) hx hb hr (bo_n hb2) (fun t ht hW => ⟨⟨_, (), rfl, rfl, trivial⟩, hS.F ht⟩) hS.2.2 eX8_isVolume_16.2.2.2.2.2.1
  refine y_head (pcJ := 25) (σ := Unit) (fun u H locs ls => va_P D vwCl (CS D a s) H ∧ va_S (fun _ => False) s₀.heap H locs ∧ lv_has ls 2 [] ∧ m_x8_isVolume_J25 s u = some o) (fun u => []) (fun u H locs ls hI => ?_) (fun J25 => ?_)
  · obtain ⟨hP, hS, hl, h⟩ := hI
    skip
    have hP : va_P D vwCl (CS D a s) H := hP
    have hl : lv_has ls 2 [] := hl
    have h : m_x8_isVolume_J25 s () = some o := h
    unfold m_x8_isVolume_J25 at h
    refine lv_iconst (v := 0) hx hb eX8_isVolume_16.2.2.2.2.1 (by decide) ?_
    exact J26 0 _ _ _ ⟨hP, hS, lv_sub hl [] rfl, h⟩
  refine lv_iload_n hx hb eX8_isHeld_21.2.2.2.2.2.2.2 rfl (lv_at hl 1 rfl) ?_
  obtain ⟨hr3, h⟩ := rg_e h
  refine lv_if_lt (tgt := 25) hx hb eX8_isVolume_1.1 (by decide) (fun c4 => ?_) (fun c4 => ?_)
  · have h := if_t ((i2_lt (x := p0) (y := 0) hr3 (by decide)).mp c4) h
    exact J25 () _ _ _ ⟨hP, hS, lv_sub hl [] rfl, h⟩
  · have h := if_f (mt (i2_lt (x := p0) (y := 0) hr3 (by decide)).mpr c4) h
    refine lv_iload_n hx hb eX8_isVolume_1.2.1 rfl (lv_at hl 1 rfl) ?_
    refine lv_bipush (v := 8) hx hb eX8_isVolume_1.2.2.1 (by decide) ?_
    obtain ⟨hr5, h⟩ := rg_e h
    refine lv_icmp_ge (tgt := 25) hx hb eX8_isVolume_1.2.2.2.1 (by decide) (fun c6 => ?_) (fun c6 => ?_)
    · have h := if_t ((i2_le (x := 8) (y := p0) (by decide) hr5).mp c6) h
      exact J25 () _ _ _ ⟨hP, hS, lv_sub hl [] rfl, h⟩
    · have h := if_f (mt (i2_le (x := 8) (y := p0) (by decide) hr5).mpr c6) h
      refine lv_aload_n hx hb eX8_isVolume_1.2.2.2.2.1 rfl (lv_at hl 0 rfl) ?_
      refine va_get (D := D) (ci := 8) (v := .ref (a 60)) (C := RX8) (T := TX8) (N := 11) hx hb ht inX8 hown hK hP 53 CW_53 rfl 9 (by decide) (ht (.fieldLink RX8 30 "CloneVolumes$State" "roots" "[I") fl_X8_30) (fun _ h9 => h9) rfl eX8_isVolume_1.2.2.2.2.2.1 ?_
      refine lv_iload_n hx hb eX8_isVolume_1.2.2.2.2.2.2.1 rfl (lv_at hl 1 rfl) ?_
      obtain ⟨y7, ey7, iy7, h⟩ := rdI_e h
      refine ya_iald (i := p0) hx hb hK hP 60 0 CW_60 rfl (by decide) ey7 iy7 eX8_isVolume_1.2.2.2.2.2.2.2 ?_
      refine lv_bipush (v := (-2)) hx hb eX8_isVolume_16.1 (by decide) ?_
      obtain ⟨hr8, h⟩ := rg_e h
      refine lv_icmp_eq (tgt := 25) hx hb eX8_isVolume_16.2.1 (by decide) (fun c9 => ?_) (fun c9 => ?_)
      · rw [show ((-2) : Int32) = i2 (-2) from by decide] at c9
        have h := if_t ((i2_eq (x := y7) (y := (-2)) hr8 (by decide)).mp c9) h
        exact J25 () _ _ _ ⟨hP, hS, lv_sub hl [] rfl, h⟩
      · rw [show ((-2) : Int32) = i2 (-2) from by decide] at c9
        have h := if_f (mt (i2_eq (x := y7) (y := (-2)) hr8 (by decide)).mpr c9) h
        refine lv_iconst (v := 1) hx hb eX8_isVolume_16.2.2.1 (by decide) ?_
        refine lv_goto (tgt := 26) hx hb eX8_isVolume_16.2.2.2.1 (by decide) ?_
        exact J26 1 _ _ _ ⟨hP, hS, lv_sub hl [] rfl, h⟩
set_option maxHeartbeats 4000000 in
set_option maxRecDepth 100000 in
theorem k_x8_volumes (l : Launch) (D : va_G) (a : Nat → Nat) (s : MS) (o : Int) (h : m_x8_volumes s = some o) : yRi l yX8_volumes cX8_volumes 3 (some .int) { frames := 1, cells := 0, slots := 0, locals := 60 } D [.ref (a 53)] (CS D a s) (i2 o) := by
  refine Met.ofW (cc := cX8_volumes) (maxL := 3) (ret := (some .int)) (by decide) rfl ?_
  intro p e s₀ m args below meth c s₁ B hml hv
  obtain ⟨rfl, ⟨hP, hK⟩, hN⟩ := hv
  have hx := B.exec
  have hb := B.bytes
  have hr := B.returns
  have hts := atoms_spec (ws := wz yX8_volumes cX8_volumes 3 (some .int)) B.pre
  have ht : ∀ w ∈ lw_gd, w.before _ s₀ = true := fun w h => hts w (List.mem_cons_of_mem _ h)
  have hown : s₀.vm.findClass RX8 = some m.cls := findClass_of_methodNamed B.named
  have hlocks := B.notSynchronized
  have hS : va_S (fun _ => False) s₀.heap s₀.heap [] := va_S.rf
  have hl := lv_entry ([.ref (a 53)]) (n := 3) (Nat.le_of_ble_eq_true rfl)
  rw [lg_entry_eq]
  generalize (lg_sl ([.ref (a 53)]) ++ List.replicate (3 - (lg_sl ([.ref (a 53)])).length) Slot.unset).toArray = ls at hl ⊢
  have hl : lv_has ls 3 [(0, .ref (a 53))] := hl
  unfold m_x8_volumes at h
  refine y_loop (pcJ := 4) (σ := Int × Int) (fun n u H locs ls => va_P D vwCl (CS D a s) H ∧ va_S (fun _ => False) s₀.heap H locs ∧ lv_has ls 3 [(0, .ref (a 53)), (1, .int (i2 u.1)), (2, .int (i2 u.2))] ∧ m_x8_volumes_L4 s n u.1 u.2 = some o) (fun u => []) (fun u H locs ls hI => by obtain ⟨_, _, _, h⟩ := hI; cases h) (fun n4 ih4 u H locs ls hI => ?_) (fun J4 => ?_)
  · obtain ⟨hP, hS, hl, h⟩ := hI
    obtain ⟨x1, x2⟩ := u
    have hP : va_P D vwCl (CS D a s) H := hP
    have hl : lv_has ls 3 [(0, .ref (a 53)), (1, .int (i2 x1)), (2, .int (i2 x2))] := hl
    have h : m_x8_volumes_b4 s (m_x8_volumes_L4 s n4) x1 x2 = some o := h
    unfold m_x8_volumes_b4 at h
    refine y_head (pcJ := 24) (σ := Int × Int × Int) (fun u H locs ls => va_P D vwCl (CS D a s) H ∧ va_S (fun _ => False) s₀.heap H locs ∧ lv_has ls 3 [(0, .ref (a 53)), (2, .int (i2 u.1))] ∧ m_x8_volumes_J24 s (m_x8_volumes_L4 s n4) u.1 u.2.1 u.2.2 = some o) (fun u => [.int (i2 u.2.1), .int (i2 u.2.2)]) (fun u H locs ls hI => ?_) (fun J24 => ?_)
    · obtain ⟨hP, hS, hl, h⟩ := hI
      obtain ⟨x3, x4, x5⟩ := u
      have hP : va_P D vwCl (CS D a s) H := hP
      have hl : lv_has ls 3 [(0, .ref (a 53)), (2, .int (i2 x3))] := hl
      have h : m_x8_volumes_J24 s (m_x8_volumes_L4 s n4) x3 x4 x5 = some o := h
      unfold m_x8_volumes_J24 at h
      refine lv_iadd hx hb eX8_volumes_20.2.2.1 ?_
      refine z_topi (y := i2 (x5 + x4)) (i2_add x5 x4) ?_
      refine lv_istore_n (lv' := [(1, .int (i2 (x5 + x4))), (0, .ref (a 53)), (2, .int (i2 x3))]) hx hb eX8_volumes_20.2.2.2.1 rfl hl (by decide) rfl (fun ls hl => ?_)
      refine lv_iinc (v := i2 (x3 + 1)) (lv' := [(2, .int (i2 (x3 + 1))), (1, .int (i2 (x5 + x4))), (0, .ref (a 53))]) hx hb eX8_volumes_20.2.2.2.2.1 hl (k := 2) rfl (i2_add x3 1) (by decide) rfl (fun ls hl => ?_)
      refine lv_goto (tgt := 4) hx hb eX8_volumes_20.2.2.2.2.2.1 (by decide) ?_
      exact ih4 (x5 + x4, x3 + 1) _ _ _ ⟨hP, hS, lv_sub hl [2, 1, 0] rfl, h⟩
    refine lv_iload_n hx hb eX8_used_32.2.2.2.2.2.2.2 rfl (lv_at hl 2 rfl) ?_
    refine lv_bipush (v := 8) hx hb eX8_volumes_5.1 (by decide) ?_
    obtain ⟨hr6, h⟩ := rg_e h
    refine lv_icmp_ge (tgt := 32) hx hb eX8_volumes_5.2.1 (by decide) (fun c7 => ?_) (fun c7 => ?_)
    · have h := if_t ((i2_le (x := 8) (y := x2) (by decide) hr6).mp c7) h
      refine lv_iload_n hx hb eX8_volumes_20.2.2.2.2.2.2.1 rfl (lv_at hl 1 rfl) ?_
      obtain rfl := Option.some.inj h
      exact W.iret (v := (i2 x1)) hx hb hr (fun t ht hW => ⟨⟨_, (), rfl, rfl, trivial⟩, hS.F ht⟩) hS.2.2 eX8_volumes_20.2.2.2.2.2.2.2
    · have h := if_f (mt (i2_le (x := 8) (y := x2) (by decide) hr6).mpr c7) h
      refine lv_iload_n hx hb eX8_volumes_5.2.2.1 rfl (lv_at hl 1 rfl) ?_
      refine lv_aload_n hx hb eX8_volumes_5.2.2.2.1 rfl (lv_at hl 0 rfl) ?_
      refine lv_iload_n hx hb eX8_volumes_5.2.2.2.2.1 rfl (lv_at hl 2 rfl) ?_
      obtain ⟨r9, hc8, h⟩ := bn_e h
      refine ycV (r0 := i2 r9) (As := [.int (i2 x2)]) (rest := [.int (i2 x1)]) (C := RX8) (n := 1) ⟨hx, hb, hml, hown, ht⟩ (k_x8_isVolume l D a x2 _ _ hc8) (zgV ml_X8_67 im_X8_isVolume se_X8_isVolume in_X8 co_X8_isVolume) rfl rfl (by decide +kernel) ⟨Nat.le_of_ble_eq_true rfl, Nat.le_of_ble_eq_true rfl⟩ hN hK hP hS 53 CW_53 rfl rfl rfl hl.1 rfl (Nat.le_of_ble_eq_true rfl) eX8_volumes_5.2.2.2.2.2.1 ⟨Nat.le_of_ble_eq_true rfl, Nat.le_of_ble_eq_true rfl⟩ (fun H locs hP hS => ?_)
      obtain ⟨hr10, h⟩ := rg_e h
      refine lv_if_eq (tgt := 23) hx hb eX8_volumes_5.2.2.2.2.2.2.1 (by decide) (fun c11 => ?_) (fun c11 => ?_)
      · have h := if_t ((i2_eq (x := r9) (y := 0) hr10 (by decide)).mp c11) h
        refine lv_iconst (v := 0) hx hb eX8_volumes_20.2.1 (by decide) ?_
        exact J24 (x2, 0, x1) _ _ _ ⟨hP, hS, lv_sub hl [0, 2] rfl, h⟩
      · have h := if_f (mt (i2_eq (x := r9) (y := 0) hr10 (by decide)).mpr c11) h
        refine lv_iconst (v := 1) hx hb eX8_volumes_5.2.2.2.2.2.2.2 (by decide) ?_
        refine lv_goto (tgt := 24) hx hb eX8_volumes_20.1 (by decide) ?_
        exact J24 (x2, 1, x1) _ _ _ ⟨hP, hS, lv_sub hl [0, 2] rfl, h⟩
  refine lv_iconst (v := 0) hx hb eX8_used_32.2.2.2.1 (by decide) ?_
  refine lv_istore_n (lv' := [(1, .int 0), (0, .ref (a 53))]) hx hb eX8_used_32.2.2.2.2.1 rfl hl (by decide) rfl (fun ls hl => ?_)
  refine lv_iconst (v := 0) hx hb eX8_used_32.2.2.2.2.2.1 (by decide) ?_
  refine lv_istore_n (lv' := [(2, .int 0), (1, .int 0), (0, .ref (a 53))]) hx hb eX8_used_32.2.2.2.2.2.2.1 rfl hl (by decide) rfl (fun ls hl => ?_)
  exact J4 FU (0, 0) _ _ _ ⟨hP, hS, lv_sub hl [2, 1, 0] rfl, h⟩
set_option maxHeartbeats 4000000 in
set_option maxRecDepth 100000 in
theorem k_x8_used (l : Launch) (D : va_G) (a : Nat → Nat) (s : MS) (o : Int) (h : m_x8_used s = some o) : yRi l yX8_used cX8_used 3 (some .int) { frames := 0, cells := 0, slots := 0, locals := 0 } D [.ref (a 53)] (CS D a s) (i2 o) := by
  refine Met.ofW (cc := cX8_used) (maxL := 3) (ret := (some .int)) (by decide) rfl ?_
  intro p e s₀ m args below meth c s₁ B hml hv
  obtain ⟨rfl, ⟨hP, hK⟩, hN⟩ := hv
  have hx := B.exec
  have hb := B.bytes
  have hr := B.returns
  have hts := atoms_spec (ws := wz yX8_used cX8_used 3 (some .int)) B.pre
  have ht : ∀ w ∈ lw_gd, w.before _ s₀ = true := fun w h => hts w (List.mem_cons_of_mem _ h)
  have hown : s₀.vm.findClass RX8 = some m.cls := findClass_of_methodNamed B.named
  have hlocks := B.notSynchronized
  have hS : va_S (fun _ => False) s₀.heap s₀.heap [] := va_S.rf
  have hl := lv_entry ([.ref (a 53)]) (n := 3) (Nat.le_of_ble_eq_true rfl)
  rw [lg_entry_eq]
  generalize (lg_sl ([.ref (a 53)]) ++ List.replicate (3 - (lg_sl ([.ref (a 53)])).length) Slot.unset).toArray = ls at hl ⊢
  have hl : lv_has ls 3 [(0, .ref (a 53))] := hl
  unfold m_x8_used at h
  refine y_loop (pcJ := 4) (σ := Int × Int) (fun n u H locs ls => va_P D vwCl (CS D a s) H ∧ va_S (fun _ => False) s₀.heap H locs ∧ lv_has ls 3 [(0, .ref (a 53)), (1, .int (i2 u.1)), (2, .int (i2 u.2))] ∧ m_x8_used_L4 s n u.1 u.2 = some o) (fun u => []) (fun u H locs ls hI => by obtain ⟨_, _, _, h⟩ := hI; cases h) (fun n4 ih4 u H locs ls hI => ?_) (fun J4 => ?_)
  · obtain ⟨hP, hS, hl, h⟩ := hI
    obtain ⟨x1, x2⟩ := u
    have hP : va_P D vwCl (CS D a s) H := hP
    have hl : lv_has ls 3 [(0, .ref (a 53)), (1, .int (i2 x1)), (2, .int (i2 x2))] := hl
    have h : m_x8_used_b4 s (m_x8_used_L4 s n4) x1 x2 = some o := h
    unfold m_x8_used_b4 at h
    refine y_head (pcJ := 27) (σ := Int × Int × Int) (fun u H locs ls => va_P D vwCl (CS D a s) H ∧ va_S (fun _ => False) s₀.heap H locs ∧ lv_has ls 3 [(0, .ref (a 53)), (2, .int (i2 u.1))] ∧ m_x8_used_J27 s (m_x8_used_L4 s n4) u.1 u.2.1 u.2.2 = some o) (fun u => [.int (i2 u.2.1), .int (i2 u.2.2)]) (fun u H locs ls hI => ?_) (fun J27 => ?_)
    · obtain ⟨hP, hS, hl, h⟩ := hI
      obtain ⟨x3, x4, x5⟩ := u
      have hP : va_P D vwCl (CS D a s) H := hP
      have hl : lv_has ls 3 [(0, .ref (a 53)), (2, .int (i2 x3))] := hl
      have h : m_x8_used_J27 s (m_x8_used_L4 s n4) x3 x4 x5 = some o := h
      unfold m_x8_used_J27 at h
      refine lv_iadd hx hb eX8_used_18.2.2.2.2.2.1 ?_
      refine z_topi (y := i2 (x5 + x4)) (i2_add x5 x4) ?_
      refine lv_istore_n (lv' := [(1, .int (i2 (x5 + x4))), (0, .ref (a 53)), (2, .int (i2 x3))]) hx hb eX8_used_18.2.2.2.2.2.2.1 rfl hl (by decide) rfl (fun ls hl => ?_)
      refine lv_iinc (v := i2 (x3 + 1)) (lv' := [(2, .int (i2 (x3 + 1))), (1, .int (i2 (x5 + x4))), (0, .ref (a 53))]) hx hb eX8_used_18.2.2.2.2.2.2.2 hl (k := 2) rfl (i2_add x3 1) (by decide) rfl (fun ls hl => ?_)
      refine lv_goto (tgt := 4) hx hb eX8_used_32.1 (by decide) ?_
      exact ih4 (x5 + x4, x3 + 1) _ _ _ ⟨hP, hS, lv_sub hl [2, 1, 0] rfl, h⟩
    refine lv_iload_n hx hb eX8_used_4.1 rfl (lv_at hl 2 rfl) ?_
    refine lv_aload_n hx hb eX8_used_4.2.1 rfl (lv_at hl 0 rfl) ?_
    refine va_get (D := D) (ci := 8) (v := .int (i2 (gI s 1060))) (C := RX8) (T := TX8) (N := 11) hx hb ht inX8 hown hK hP 53 CW_53 rfl 0 (by decide) (ht (.fieldLink RX8 40 "CloneVolumes$State" "blocks" "I") fl_X8_40) (fun _ h9 => h9) rfl eX8_used_4.2.2.1 ?_
    obtain ⟨hr6, h⟩ := rg_e h
    obtain ⟨hr7, h⟩ := rg_e h
    refine lv_icmp_ge (tgt := 35) hx hb eX8_used_4.2.2.2.1 (by decide) (fun c8 => ?_) (fun c8 => ?_)
    · have h := if_t ((i2_le (x := (gI s 1060)) (y := x2) hr7 hr6).mp c8) h
      refine lv_iload_n hx hb eX8_used_32.2.1 rfl (lv_at hl 1 rfl) ?_
      obtain rfl := Option.some.inj h
      exact W.iret (v := (i2 x1)) hx hb hr (fun t ht hW => ⟨⟨_, (), rfl, rfl, trivial⟩, hS.F ht⟩) hS.2.2 eX8_used_32.2.2.1
    · have h := if_f (mt (i2_le (x := (gI s 1060)) (y := x2) hr7 hr6).mpr c8) h
      refine lv_iload_n hx hb eX8_used_4.2.2.2.2.1 rfl (lv_at hl 1 rfl) ?_
      refine lv_aload_n hx hb eX8_used_4.2.2.2.2.2.1 rfl (lv_at hl 0 rfl) ?_
      refine va_get (D := D) (ci := 8) (v := .ref (a 54)) (C := RX8) (T := TX8) (N := 11) hx hb ht inX8 hown hK hP 53 CW_53 rfl 3 (by decide) (ht (.fieldLink RX8 9 "CloneVolumes$State" "count" "[I") fl_X8_9) (fun _ h9 => h9) rfl eX8_used_4.2.2.2.2.2.2.1 ?_
      refine lv_iload_n hx hb eX8_used_4.2.2.2.2.2.2.2 rfl (lv_at hl 2 rfl) ?_
      obtain ⟨y9, ey9, iy9, h⟩ := rdI_e h
      refine ya_iald (i := x2) hx hb hK hP 54 0 CW_54 rfl (by decide) ey9 iy9 eX8_used_18.1 ?_
      obtain ⟨hr10, h⟩ := rg_e h
      refine lv_if_le (tgt := 26) hx hb eX8_used_18.2.1 (by decide) (fun c11 => ?_) (fun c11 => ?_)
      · have h := if_t ((i2_le (x := y9) (y := 0) hr10 (by decide)).mp c11) h
        refine lv_iconst (v := 0) hx hb eX8_used_18.2.2.2.2.1 (by decide) ?_
        exact J27 (x2, 0, x1) _ _ _ ⟨hP, hS, lv_sub hl [0, 2] rfl, h⟩
      · have h := if_f (mt (i2_le (x := y9) (y := 0) hr10 (by decide)).mpr c11) h
        refine lv_iconst (v := 1) hx hb eX8_used_18.2.2.1 (by decide) ?_
        refine lv_goto (tgt := 27) hx hb eX8_used_18.2.2.2.1 (by decide) ?_
        exact J27 (x2, 1, x1) _ _ _ ⟨hP, hS, lv_sub hl [0, 2] rfl, h⟩
  refine lv_iconst (v := 0) hx hb eX8_slot_3.2.2.2.2.1 (by decide) ?_
  refine lv_istore_n (lv' := [(1, .int 0), (0, .ref (a 53))]) hx hb eX8_slot_3.2.2.2.2.2.1 rfl hl (by decide) rfl (fun ls hl => ?_)
  refine lv_iconst (v := 0) hx hb eX8_slot_3.2.2.2.2.2.2.1 (by decide) ?_
  refine lv_istore_n (lv' := [(2, .int 0), (1, .int 0), (0, .ref (a 53))]) hx hb eX8_slot_3.2.2.2.2.2.2.2 rfl hl (by decide) rfl (fun ls hl => ?_)
  exact J4 FU (0, 0) _ _ _ ⟨hP, hS, lv_sub hl [2, 1, 0] rfl, h⟩
set_option maxHeartbeats 4000000 in
set_option maxRecDepth 100000 in
theorem k_x8_isBlock (l : Launch) (D : va_G) (a : Nat → Nat) (p0 : Int) (s : MS) (o : Int) (h : m_x8_isBlock p0 s = some o) : yRi l yX8_isBlock cX8_isBlock 2 (some .boolean) { frames := 0, cells := 0, slots := 0, locals := 0 } D [.ref (a 53), .int (i2 p0)] (CS D a s) (i2 o) := by
  refine Met.ofW (cc := cX8_isBlock) (maxL := 2) (ret := (some .boolean)) (by decide) rfl ?_
  intro p e s₀ m args below meth c s₁ B hml hv
  obtain ⟨rfl, ⟨hP, hK⟩, hN⟩ := hv
  have hx := B.exec
  have hb := B.bytes
  have hr := B.returns
  have hts := atoms_spec (ws := wz yX8_isBlock cX8_isBlock 2 (some .boolean)) B.pre
  have ht : ∀ w ∈ lw_gd, w.before _ s₀ = true := fun w h => hts w (List.mem_cons_of_mem _ h)
  have hown : s₀.vm.findClass RX8 = some m.cls := findClass_of_methodNamed B.named
  have hlocks := B.notSynchronized
  have hS : va_S (fun _ => False) s₀.heap s₀.heap [] := va_S.rf
  have hl := lv_entry ([.ref (a 53), .int (i2 p0)]) (n := 2) (Nat.le_of_ble_eq_true rfl)
  rw [lg_entry_eq]
  generalize (lg_sl ([.ref (a 53), .int (i2 p0)]) ++ List.replicate (2 - (lg_sl ([.ref (a 53), .int (i2 p0)])).length) Slot.unset).toArray = ls at hl ⊢
  have hl : lv_has ls 2 [(0, .ref (a 53)), (1, .int (i2 p0))] := hl
  unfold m_x8_isBlock at h
  refine y_head (pcJ := 17) (σ := Int) (fun u H locs ls => va_P D vwCl (CS D a s) H ∧ va_S (fun _ => False) s₀.heap H locs ∧ lv_has ls 2 [] ∧ m_x8_isBlock_J17 s u = some o) (fun u => [.int (i2 u)]) (fun u H locs ls hI => ?_) (fun J17 => ?_)
  · obtain ⟨hP, hS, hl, h⟩ := hI
    obtain ⟨x1, rfl⟩ : ∃ z, z = u := ⟨u, rfl⟩
    have hP : va_P D vwCl (CS D a s) H := hP
    have hl : lv_has ls 2 [] := hl
    have h : m_x8_isBlock_J17 s x1 = some o := h
    unfold m_x8_isBlock_J17 at h
    obtain ⟨hb2, h⟩ := bo_e h
    obtain rfl := Option.some.inj h
    exact W.zret (v := (i2 x1)) hx hb hr (bo_n hb2) (fun t ht hW => ⟨⟨_, (), rfl, rfl, trivial⟩, hS.F ht⟩) hS.2.2 eX8_isBlock_9.2.2.2.2.1
  refine y_head (pcJ := 16) (σ := Unit) (fun u H locs ls => va_P D vwCl (CS D a s) H ∧ va_S (fun _ => False) s₀.heap H locs ∧ lv_has ls 2 [] ∧ m_x8_isBlock_J16 s u = some o) (fun u => []) (fun u H locs ls hI => ?_) (fun J16 => ?_)
  · obtain ⟨hP, hS, hl, h⟩ := hI
    skip
    have hP : va_P D vwCl (CS D a s) H := hP
    have hl : lv_has ls 2 [] := hl
    have h : m_x8_isBlock_J16 s () = some o := h
    unfold m_x8_isBlock_J16 at h
    refine lv_iconst (v := 0) hx hb eX8_isBlock_9.2.2.2.1 (by decide) ?_
    exact J17 0 _ _ _ ⟨hP, hS, lv_sub hl [] rfl, h⟩
  refine lv_iload_n hx hb eX8_held_31.2.2.2.1 rfl (lv_at hl 1 rfl) ?_
  obtain ⟨hr3, h⟩ := rg_e h
  refine lv_if_lt (tgt := 16) hx hb eX8_held_31.2.2.2.2.1 (by decide) (fun c4 => ?_) (fun c4 => ?_)
  · have h := if_t ((i2_lt (x := p0) (y := 0) hr3 (by decide)).mp c4) h
    exact J16 () _ _ _ ⟨hP, hS, lv_sub hl [] rfl, h⟩
  · have h := if_f (mt (i2_lt (x := p0) (y := 0) hr3 (by decide)).mpr c4) h
    refine lv_iload_n hx hb eX8_held_31.2.2.2.2.2.1 rfl (lv_at hl 1 rfl) ?_
    refine lv_aload_n hx hb eX8_held_31.2.2.2.2.2.2.1 rfl (lv_at hl 0 rfl) ?_
    refine va_get (D := D) (ci := 8) (v := .int (i2 (gI s 1060))) (C := RX8) (T := TX8) (N := 11) hx hb ht inX8 hown hK hP 53 CW_53 rfl 0 (by decide) (ht (.fieldLink RX8 40 "CloneVolumes$State" "blocks" "I") fl_X8_40) (fun _ h9 => h9) rfl eX8_held_31.2.2.2.2.2.2.2 ?_
    obtain ⟨hr5, h⟩ := rg_e h
    obtain ⟨hr6, h⟩ := rg_e h
    refine lv_icmp_ge (tgt := 16) hx hb eX8_isBlock_9.1 (by decide) (fun c7 => ?_) (fun c7 => ?_)
    · have h := if_t ((i2_le (x := (gI s 1060)) (y := p0) hr6 hr5).mp c7) h
      exact J16 () _ _ _ ⟨hP, hS, lv_sub hl [] rfl, h⟩
    · have h := if_f (mt (i2_le (x := (gI s 1060)) (y := p0) hr6 hr5).mpr c7) h
      refine lv_iconst (v := 1) hx hb eX8_isBlock_9.2.1 (by decide) ?_
      refine lv_goto (tgt := 17) hx hb eX8_isBlock_9.2.2.1 (by decide) ?_
      exact J17 1 _ _ _ ⟨hP, hS, lv_sub hl [] rfl, h⟩
set_option maxHeartbeats 4000000 in
set_option maxRecDepth 100000 in
theorem k_x8_isHeld (l : Launch) (D : va_G) (a : Nat → Nat) (p0 : Int) (s : MS) (o : Int) (h : m_x8_isHeld p0 s = some o) : yRi l yX8_isHeld cX8_isHeld 2 (some .boolean) { frames := 1, cells := 0, slots := 0, locals := 60 } D [.ref (a 53), .int (i2 p0)] (CS D a s) (i2 o) := by
  refine Met.ofW (cc := cX8_isHeld) (maxL := 2) (ret := (some .boolean)) (by decide) rfl ?_
  intro p e s₀ m args below meth c s₁ B hml hv
  obtain ⟨rfl, ⟨hP, hK⟩, hN⟩ := hv
  have hx := B.exec
  have hb := B.bytes
  have hr := B.returns
  have hts := atoms_spec (ws := wz yX8_isHeld cX8_isHeld 2 (some .boolean)) B.pre
  have ht : ∀ w ∈ lw_gd, w.before _ s₀ = true := fun w h => hts w (List.mem_cons_of_mem _ h)
  have hown : s₀.vm.findClass RX8 = some m.cls := findClass_of_methodNamed B.named
  have hlocks := B.notSynchronized
  have hS : va_S (fun _ => False) s₀.heap s₀.heap [] := va_S.rf
  have hl := lv_entry ([.ref (a 53), .int (i2 p0)]) (n := 2) (Nat.le_of_ble_eq_true rfl)
  rw [lg_entry_eq]
  generalize (lg_sl ([.ref (a 53), .int (i2 p0)]) ++ List.replicate (2 - (lg_sl ([.ref (a 53), .int (i2 p0)])).length) Slot.unset).toArray = ls at hl ⊢
  have hl : lv_has ls 2 [(0, .ref (a 53)), (1, .int (i2 p0))] := hl
  unfold m_x8_isHeld at h
  refine y_head (pcJ := 31) (σ := Int) (fun u H locs ls => va_P D vwCl (CS D a s) H ∧ va_S (fun _ => False) s₀.heap H locs ∧ lv_has ls 2 [] ∧ m_x8_isHeld_J31 s u = some o) (fun u => [.int (i2 u)]) (fun u H locs ls hI => ?_) (fun J31 => ?_)
  · obtain ⟨hP, hS, hl, h⟩ := hI
    obtain ⟨x1, rfl⟩ : ∃ z, z = u := ⟨u, rfl⟩
    have hP : va_P D vwCl (CS D a s) H := hP
    have hl : lv_has ls 2 [] := hl
    have h : m_x8_isHeld_J31 s x1 = some o := h
    unfold m_x8_isHeld_J31 at h
    obtain ⟨hb2, h⟩ := bo_e h
    obtain rfl := Option.some.inj h
    exact W.zret (v := (i2 x1)) hx hb hr (bo_n hb2) (fun t ht hW => ⟨⟨_, (), rfl, rfl, trivial⟩, hS.F ht⟩) hS.2.2 eX8_isHeld_21.2.2.2.2.2.2.1
  refine y_head (pcJ := 30) (σ := Unit) (fun u H locs ls => va_P D vwCl (CS D a s) H ∧ va_S (fun _ => False) s₀.heap H locs ∧ lv_has ls 2 [] ∧ m_x8_isHeld_J30 s u = some o) (fun u => []) (fun u H locs ls hI => ?_) (fun J30 => ?_)
  · obtain ⟨hP, hS, hl, h⟩ := hI
    skip
    have hP : va_P D vwCl (CS D a s) H := hP
    have hl : lv_has ls 2 [] := hl
    have h : m_x8_isHeld_J30 s () = some o := h
    unfold m_x8_isHeld_J30 at h
    refine lv_iconst (v := 0) hx hb eX8_isHeld_21.2.2.2.2.2.1 (by decide) ?_
    exact J31 0 _ _ _ ⟨hP, hS, lv_sub hl [] rfl, h⟩
  refine lv_aload_n hx hb eX8_isBlock_9.2.2.2.2.2.1 rfl (lv_at hl 0 rfl) ?_
  refine lv_iload_n hx hb eX8_isBlock_9.2.2.2.2.2.2.1 rfl (lv_at hl 1 rfl) ?_
  obtain ⟨r4, hc3, h⟩ := bn_e h
  refine ycV (r0 := i2 r4) (As := [.int (i2 p0)]) (rest := []) (C := RX8) (n := 1) ⟨hx, hb, hml, hown, ht⟩ (k_x8_isBlock l D a p0 _ _ hc3) (zgV ml_X8_57 im_X8_isBlock se_X8_isBlock in_X8 co_X8_isBlock) rfl rfl (by decide +kernel) ⟨Nat.le_of_ble_eq_true rfl, Nat.le_of_ble_eq_true rfl⟩ hN hK hP hS 53 CW_53 rfl rfl rfl hl.1 rfl (Nat.le_of_ble_eq_true rfl) eX8_isBlock_9.2.2.2.2.2.2.2 ⟨Nat.le_of_ble_eq_true rfl, Nat.le_of_ble_eq_true rfl⟩ (fun H locs hP hS => ?_)
  obtain ⟨hr5, h⟩ := rg_e h
  refine lv_if_eq (tgt := 30) hx hb eX8_isHeld_5.1 (by decide) (fun c6 => ?_) (fun c6 => ?_)
  · have h := if_t ((i2_eq (x := r4) (y := 0) hr5 (by decide)).mp c6) h
    exact J30 () _ _ _ ⟨hP, hS, lv_sub hl [] rfl, h⟩
  · have h := if_f (mt (i2_eq (x := r4) (y := 0) hr5 (by decide)).mpr c6) h
    refine lv_aload_n hx hb eX8_isHeld_5.2.1 rfl (lv_at hl 0 rfl) ?_
    refine va_get (D := D) (ci := 8) (v := .ref (a 54)) (C := RX8) (T := TX8) (N := 11) hx hb ht inX8 hown hK hP 53 CW_53 rfl 3 (by decide) (ht (.fieldLink RX8 9 "CloneVolumes$State" "count" "[I") fl_X8_9) (fun _ h9 => h9) rfl eX8_isHeld_5.2.2.1 ?_
    refine lv_iload_n hx hb eX8_isHeld_5.2.2.2.1 rfl (lv_at hl 1 rfl) ?_
    obtain ⟨y7, ey7, iy7, h⟩ := rdI_e h
    refine ya_iald (i := p0) hx hb hK hP 54 0 CW_54 rfl (by decide) ey7 iy7 eX8_isHeld_5.2.2.2.2.1 ?_
    obtain ⟨hr8, h⟩ := rg_e h
    refine lv_if_ne (tgt := 30) hx hb eX8_isHeld_5.2.2.2.2.2.1 (by decide) (fun c9 => ?_) (fun c9 => ?_)
    · have h := if_f (mt (i2_eq (x := y7) (y := 0) hr8 (by decide)).mpr c9) h
      exact J30 () _ _ _ ⟨hP, hS, lv_sub hl [] rfl, h⟩
    · have h := if_t ((i2_eq (x := y7) (y := 0) hr8 (by decide)).mp c9) h
      refine lv_aload_n hx hb eX8_isHeld_5.2.2.2.2.2.2.1 rfl (lv_at hl 0 rfl) ?_
      refine va_get (D := D) (ci := 8) (v := .ref (a 55)) (C := RX8) (T := TX8) (N := 11) hx hb ht inX8 hown hK hP 53 CW_53 rfl 4 (by decide) (ht (.fieldLink RX8 15 "CloneVolumes$State" "saved" "[I") fl_X8_15) (fun _ h9 => h9) rfl eX8_isHeld_5.2.2.2.2.2.2.2 ?_
      refine lv_iload_n hx hb eX8_isHeld_21.1 rfl (lv_at hl 1 rfl) ?_
      obtain ⟨y10, ey10, iy10, h⟩ := rdI_e h
      refine ya_iald (i := p0) hx hb hK hP 55 0 CW_55 rfl (by decide) ey10 iy10 eX8_isHeld_21.2.1 ?_
      obtain ⟨hr11, h⟩ := rg_e h
      refine lv_if_le (tgt := 30) hx hb eX8_isHeld_21.2.2.1 (by decide) (fun c12 => ?_) (fun c12 => ?_)
      · have h := if_t ((i2_le (x := y10) (y := 0) hr11 (by decide)).mp c12) h
        exact J30 () _ _ _ ⟨hP, hS, lv_sub hl [] rfl, h⟩
      · have h := if_f (mt (i2_le (x := y10) (y := 0) hr11 (by decide)).mpr c12) h
        refine lv_iconst (v := 1) hx hb eX8_isHeld_21.2.2.2.1 (by decide) ?_
        refine lv_goto (tgt := 31) hx hb eX8_isHeld_21.2.2.2.2.1 (by decide) ?_
        exact J31 1 _ _ _ ⟨hP, hS, lv_sub hl [] rfl, h⟩
set_option maxHeartbeats 4000000 in
set_option maxRecDepth 100000 in
theorem k_x8_held (l : Launch) (D : va_G) (a : Nat → Nat) (s : MS) (o : Int) (h : m_x8_held s = some o) : yRi l yX8_held cX8_held 3 (some .int) { frames := 2, cells := 0, slots := 0, locals := 120 } D [.ref (a 53)] (CS D a s) (i2 o) := by
  refine Met.ofW (cc := cX8_held) (maxL := 3) (ret := (some .int)) (by decide) rfl ?_
  intro p e s₀ m args below meth c s₁ B hml hv
  obtain ⟨rfl, ⟨hP, hK⟩, hN⟩ := hv
  have hx := B.exec
  have hb := B.bytes
  have hr := B.returns
  have hts := atoms_spec (ws := wz yX8_held cX8_held 3 (some .int)) B.pre
  have ht : ∀ w ∈ lw_gd, w.before _ s₀ = true := fun w h => hts w (List.mem_cons_of_mem _ h)
  have hown : s₀.vm.findClass RX8 = some m.cls := findClass_of_methodNamed B.named
  have hlocks := B.notSynchronized
  have hS : va_S (fun _ => False) s₀.heap s₀.heap [] := va_S.rf
  have hl := lv_entry ([.ref (a 53)]) (n := 3) (Nat.le_of_ble_eq_true rfl)
  rw [lg_entry_eq]
  generalize (lg_sl ([.ref (a 53)]) ++ List.replicate (3 - (lg_sl ([.ref (a 53)])).length) Slot.unset).toArray = ls at hl ⊢
  have hl : lv_has ls 3 [(0, .ref (a 53))] := hl
  unfold m_x8_held at h
  refine y_loop (pcJ := 4) (σ := Int × Int) (fun n u H locs ls => va_P D vwCl (CS D a s) H ∧ va_S (fun _ => False) s₀.heap H locs ∧ lv_has ls 3 [(0, .ref (a 53)), (1, .int (i2 u.1)), (2, .int (i2 u.2))] ∧ m_x8_held_L4 s n u.1 u.2 = some o) (fun u => []) (fun u H locs ls hI => by obtain ⟨_, _, _, h⟩ := hI; cases h) (fun n4 ih4 u H locs ls hI => ?_) (fun J4 => ?_)
  · obtain ⟨hP, hS, hl, h⟩ := hI
    obtain ⟨x1, x2⟩ := u
    have hP : va_P D vwCl (CS D a s) H := hP
    have hl : lv_has ls 3 [(0, .ref (a 53)), (1, .int (i2 x1)), (2, .int (i2 x2))] := hl
    have h : m_x8_held_b4 s (m_x8_held_L4 s n4) x1 x2 = some o := h
    unfold m_x8_held_b4 at h
    refine y_head (pcJ := 26) (σ := Int × Int × Int) (fun u H locs ls => va_P D vwCl (CS D a s) H ∧ va_S (fun _ => False) s₀.heap H locs ∧ lv_has ls 3 [(0, .ref (a 53)), (2, .int (i2 u.1))] ∧ m_x8_held_J26 s (m_x8_held_L4 s n4) u.1 u.2.1 u.2.2 = some o) (fun u => [.int (i2 u.2.1), .int (i2 u.2.2)]) (fun u H locs ls hI => ?_) (fun J26 => ?_)
    · obtain ⟨hP, hS, hl, h⟩ := hI
      obtain ⟨x3, x4, x5⟩ := u
      have hP : va_P D vwCl (CS D a s) H := hP
      have hl : lv_has ls 3 [(0, .ref (a 53)), (2, .int (i2 x3))] := hl
      have h : m_x8_held_J26 s (m_x8_held_L4 s n4) x3 x4 x5 = some o := h
      unfold m_x8_held_J26 at h
      refine lv_iadd hx hb eX8_held_15.2.2.2.2.2.1 ?_
      refine z_topi (y := i2 (x5 + x4)) (i2_add x5 x4) ?_
      refine lv_istore_n (lv' := [(1, .int (i2 (x5 + x4))), (0, .ref (a 53)), (2, .int (i2 x3))]) hx hb eX8_held_15.2.2.2.2.2.2.1 rfl hl (by decide) rfl (fun ls hl => ?_)
      refine lv_iinc (v := i2 (x3 + 1)) (lv' := [(2, .int (i2 (x3 + 1))), (1, .int (i2 (x5 + x4))), (0, .ref (a 53))]) hx hb eX8_held_15.2.2.2.2.2.2.2 hl (k := 2) rfl (i2_add x3 1) (by decide) rfl (fun ls hl => ?_)
      refine lv_goto (tgt := 4) hx hb eX8_held_31.1 (by decide) ?_
      exact ih4 (x5 + x4, x3 + 1) _ _ _ ⟨hP, hS, lv_sub hl [2, 1, 0] rfl, h⟩
    refine lv_iload_n hx hb eX8_held_3.2.1 rfl (lv_at hl 2 rfl) ?_
    refine lv_aload_n hx hb eX8_held_3.2.2.1 rfl (lv_at hl 0 rfl) ?_
    refine va_get (D := D) (ci := 8) (v := .int (i2 (gI s 1060))) (C := RX8) (T := TX8) (N := 11) hx hb ht inX8 hown hK hP 53 CW_53 rfl 0 (by decide) (ht (.fieldLink RX8 40 "CloneVolumes$State" "blocks" "I") fl_X8_40) (fun _ h9 => h9) rfl eX8_held_3.2.2.2.1 ?_
    obtain ⟨hr6, h⟩ := rg_e h
    obtain ⟨hr7, h⟩ := rg_e h
    refine lv_icmp_ge (tgt := 34) hx hb eX8_held_3.2.2.2.2.1 (by decide) (fun c8 => ?_) (fun c8 => ?_)
    · have h := if_t ((i2_le (x := (gI s 1060)) (y := x2) hr7 hr6).mp c8) h
      refine lv_iload_n hx hb eX8_held_31.2.1 rfl (lv_at hl 1 rfl) ?_
      obtain rfl := Option.some.inj h
      exact W.iret (v := (i2 x1)) hx hb hr (fun t ht hW => ⟨⟨_, (), rfl, rfl, trivial⟩, hS.F ht⟩) hS.2.2 eX8_held_31.2.2.1
    · have h := if_f (mt (i2_le (x := (gI s 1060)) (y := x2) hr7 hr6).mpr c8) h
      refine lv_iload_n hx hb eX8_held_3.2.2.2.2.2.1 rfl (lv_at hl 1 rfl) ?_
      refine lv_aload_n hx hb eX8_held_3.2.2.2.2.2.2.1 rfl (lv_at hl 0 rfl) ?_
      refine lv_iload_n hx hb eX8_held_3.2.2.2.2.2.2.2 rfl (lv_at hl 2 rfl) ?_
      obtain ⟨r10, hc9, h⟩ := bn_e h
      refine ycV (r0 := i2 r10) (As := [.int (i2 x2)]) (rest := [.int (i2 x1)]) (C := RX8) (n := 1) ⟨hx, hb, hml, hown, ht⟩ (k_x8_isHeld l D a x2 _ _ hc9) (zgV ml_X8_64 im_X8_isHeld se_X8_isHeld in_X8 co_X8_isHeld) rfl rfl (by decide +kernel) ⟨Nat.le_of_ble_eq_true rfl, Nat.le_of_ble_eq_true rfl⟩ hN hK hP hS 53 CW_53 rfl rfl rfl hl.1 rfl (Nat.le_of_ble_eq_true rfl) eX8_held_15.1 ⟨Nat.le_of_ble_eq_true rfl, Nat.le_of_ble_eq_true rfl⟩ (fun H locs hP hS => ?_)
      obtain ⟨hr11, h⟩ := rg_e h
      refine lv_if_eq (tgt := 25) hx hb eX8_held_15.2.1 (by decide) (fun c12 => ?_) (fun c12 => ?_)
      · have h := if_t ((i2_eq (x := r10) (y := 0) hr11 (by decide)).mp c12) h
        refine lv_iconst (v := 0) hx hb eX8_held_15.2.2.2.2.1 (by decide) ?_
        exact J26 (x2, 0, x1) _ _ _ ⟨hP, hS, lv_sub hl [0, 2] rfl, h⟩
      · have h := if_f (mt (i2_eq (x := r10) (y := 0) hr11 (by decide)).mpr c12) h
        refine lv_iconst (v := 1) hx hb eX8_held_15.2.2.1 (by decide) ?_
        refine lv_goto (tgt := 26) hx hb eX8_held_15.2.2.2.1 (by decide) ?_
        exact J26 (x2, 1, x1) _ _ _ ⟨hP, hS, lv_sub hl [0, 2] rfl, h⟩
  refine lv_iconst (v := 0) hx hb eX6_readTest_34.2.2.2.2.2.1 (by decide) ?_
  refine lv_istore_n (lv' := [(1, .int 0), (0, .ref (a 53))]) hx hb eX6_readTest_34.2.2.2.2.2.2.1 rfl hl (by decide) rfl (fun ls hl => ?_)
  refine lv_iconst (v := 0) hx hb eX6_readTest_34.2.2.2.2.2.2.2 (by decide) ?_
  refine lv_istore_n (lv' := [(2, .int 0), (1, .int 0), (0, .ref (a 53))]) hx hb eX8_held_3.1 rfl hl (by decide) rfl (fun ls hl => ?_)
  exact J4 FU (0, 0) _ _ _ ⟨hP, hS, lv_sub hl [2, 1, 0] rfl, h⟩
set_option maxHeartbeats 4000000 in
set_option maxRecDepth 100000 in
theorem k_x2_toldRows (l : Launch) (D : va_G) (a : Nat → Nat) (s : MS) (o : Int) (h : m_x2_toldRows s = some o) : yRi l yX2_toldRows cX2_toldRows 1 (some .int) { frames := 1, cells := 0, slots := 0, locals := 60 } D [.ref (a 7)] (CS D a s) (i2 o) := by
  refine Met.ofW (cc := cX2_toldRows) (maxL := 1) (ret := (some .int)) (by decide) rfl ?_
  intro p e s₀ m args below meth c s₁ B hml hv
  obtain ⟨rfl, ⟨hP, hK⟩, hN⟩ := hv
  have hx := B.exec
  have hb := B.bytes
  have hr := B.returns
  have hts := atoms_spec (ws := wz yX2_toldRows cX2_toldRows 1 (some .int)) B.pre
  have ht : ∀ w ∈ lw_gd, w.before _ s₀ = true := fun w h => hts w (List.mem_cons_of_mem _ h)
  have hown : s₀.vm.findClass RX2 = some m.cls := findClass_of_methodNamed B.named
  have hlocks := B.notSynchronized
  have hS : va_S (fun _ => False) s₀.heap s₀.heap [] := va_S.rf
  have hl := lv_entry ([.ref (a 7)]) (n := 1) (Nat.le_of_ble_eq_true rfl)
  rw [lg_entry_eq]
  generalize (lg_sl ([.ref (a 7)]) ++ List.replicate (1 - (lg_sl ([.ref (a 7)])).length) Slot.unset).toArray = ls at hl ⊢
  have hl : lv_has ls 1 [(0, .ref (a 7))] := hl
  unfold m_x2_toldRows at h
  refine lv_aload_n hx hb eX11_refuse_8.2.2.2.2.1 rfl (lv_at hl 0 rfl) ?_
  refine va_get (D := D) (ci := 2) (v := .int (i2 (gI s 143))) (C := RX2) (T := TX2) (N := 6) hx hb ht inX2 hown hK hP 7 CW_7 rfl 3 (by decide) (ht (.fieldLink RX2 27 "CloneVolumes$History" "rows" "I") fl_X2_27) (fun _ h9 => h9) rfl eX11_refuse_8.2.2.2.2.2.1 ?_
  refine lv_bipush (v := 40) hx hb eX11_refuse_8.2.2.2.2.2.2.1 (by decide) ?_
  obtain ⟨hr1, h⟩ := rg_e h
  refine va_mmin hx hb (by rw [hml]; exact hl.1.symm) hown (ht _ ml_X2_34) (ht _ st_mmin) (ht _ in_math) (ht _ co_mmin) (Nat.le_of_ble_eq_true rfl) (Nat.le_of_ble_eq_true rfl) (Nat.le_of_ble_eq_true rfl) (Nat.le_of_ble_eq_true rfl) eX11_refuse_8.2.2.2.2.2.2.2 ?_
  refine z_topi (y := i2 (minZ (gI s 143) 40)) (i2_min (x := (gI s 143)) (y := 40) hr1 (by decide)) ?_
  obtain rfl := Option.some.inj h
  exact W.iret (v := (i2 (minZ (gI s 143) 40))) hx hb hr (fun t ht hW => ⟨⟨_, (), rfl, rfl, trivial⟩, hS.F ht⟩) hS.2.2 eX2_toldRows_9.1
set_option maxHeartbeats 4000000 in
set_option maxRecDepth 100000 in
theorem k_x11_has (l : Launch) (D : va_G) (a : Nat → Nat) (p0 : Int) (s : MS) (o : Int) (h : m_x11_has p0 s = some o) : yRi l yX11_has cX11_has 3 (some .int) { frames := 3, cells := 0, slots := 0, locals := 180 } D [.ref (a 0), .int (i2 p0)] (CS D a s) (i2 o) := by
  refine Met.ofW (cc := cX11_has) (maxL := 3) (ret := (some .int)) (by decide) rfl ?_
  intro p e s₀ m args below meth c s₁ B hml hv
  obtain ⟨rfl, ⟨hP, hK⟩, hN⟩ := hv
  have hx := B.exec
  have hb := B.bytes
  have hr := B.returns
  have hts := atoms_spec (ws := wz yX11_has cX11_has 3 (some .int)) B.pre
  have ht : ∀ w ∈ lw_gd, w.before _ s₀ = true := fun w h => hts w (List.mem_cons_of_mem _ h)
  have hown : s₀.vm.findClass RX11 = some m.cls := findClass_of_methodNamed B.named
  have hlocks := B.notSynchronized
  have hS : va_S (fun _ => False) s₀.heap s₀.heap [] := va_S.rf
  have hl := lv_entry ([.ref (a 0), .int (i2 p0)]) (n := 3) (Nat.le_of_ble_eq_true rfl)
  rw [lg_entry_eq]
  generalize (lg_sl ([.ref (a 0), .int (i2 p0)]) ++ List.replicate (3 - (lg_sl ([.ref (a 0), .int (i2 p0)])).length) Slot.unset).toArray = ls at hl ⊢
  have hl : lv_has ls 3 [(0, .ref (a 0)), (1, .int (i2 p0))] := hl
  unfold m_x11_has at h
  refine y_head (pcJ := 146) (σ := Int) (fun u H locs ls => va_P D vwCl (CS D a s) H ∧ va_S (fun _ => False) s₀.heap H locs ∧ lv_has ls 3 [] ∧ m_x11_has_J146 s u = some o) (fun u => [.int (i2 u)]) (fun u H locs ls hI => ?_) (fun J146 => ?_)
  · obtain ⟨hP, hS, hl, h⟩ := hI
    obtain ⟨x1, rfl⟩ : ∃ z, z = u := ⟨u, rfl⟩
    have hP : va_P D vwCl (CS D a s) H := hP
    have hl : lv_has ls 3 [] := hl
    have h : m_x11_has_J146 s x1 = some o := h
    unfold m_x11_has_J146 at h
    obtain rfl := Option.some.inj h
    exact W.iret (v := (i2 x1)) hx hb hr (fun t ht hW => ⟨⟨_, (), rfl, rfl, trivial⟩, hS.F ht⟩) hS.2.2 eX11_has_136.2.2.2.2.1
  refine lv_aload_n hx hb eX11_feed_62.2.2.1 rfl (lv_at hl 0 rfl) ?_
  refine va_get (D := D) (ci := 11) (v := .ref (a 49)) (C := RX11) (T := TX11) (N := 13) hx hb ht inX11 hown hK hP 0 CW_0 rfl 11 (by decide) (ht (.fieldLink RX11 79 "CloneVolumes" "forest" "LCloneVolumes$Forest;") fl_X11_79) (fun _ h9 => h9) rfl eX11_feed_62.2.2.2.1 ?_
  refine va_get (D := D) (ci := 1) (v := .ref (a 53)) (C := RX1) (T := TX1) (N := 9) hx hb ht inX1 hown hK hP 49 CW_49 rfl 0 (by decide) (ht (.fieldLink RX11 125 "CloneVolumes$Forest" "now" "LCloneVolumes$State;") fl_X11_125) (fun _ h9 => h9) rfl eX11_feed_62.2.2.2.2.1 ?_
  refine lv_astore_n (lv' := [(2, .ref (a 53)), (0, .ref (a 0)), (1, .int (i2 p0))]) hx hb eX11_feed_62.2.2.2.2.2.1 rfl hl (by decide) rfl (fun ls hl => ?_)
  refine lv_iload_n hx hb eX11_feed_62.2.2.2.2.2.2.1 rfl (lv_at hl 2 rfl) ?_
  obtain ⟨hr2, h⟩ := rg_e h
  by_cases c3 : p0 = 0
  · have h := if_t c3 h
    refine lv_tableIn (off := 55) (tgt := 64) hx hb eX11_feed_62.2.2.2.2.2.2.2 (by rw [c3]; decide) (by rw [c3]; decide) (by rw [c3]; decide) (by decide) ?_
    refine lv_aload_n hx hb eX11_has_64.1 rfl (lv_at hl 0 rfl) ?_
    refine va_get (D := D) (ci := 8) (v := .int (i2 (gI s 1060))) (C := RX8) (T := TX8) (N := 11) hx hb ht inX8 hown hK hP 53 CW_53 rfl 0 (by decide) (ht (.fieldLink RX11 129 "CloneVolumes$State" "blocks" "I") fl_X11_129) (fun _ h9 => h9) rfl eX11_has_64.2.1 ?_
    obtain rfl := Option.some.inj h
    exact W.iret (v := (i2 (gI s 1060))) hx hb hr (fun t ht hW => ⟨⟨_, (), rfl, rfl, trivial⟩, hS.F ht⟩) hS.2.2 eX11_has_64.2.2.1
  · have h := if_f c3 h
    by_cases c4 : p0 = 1
    · have h := if_t c4 h
      refine lv_tableIn (off := 60) (tgt := 69) hx hb eX11_feed_62.2.2.2.2.2.2.2 (by rw [c4]; decide) (by rw [c4]; decide) (by rw [c4]; decide) (by decide) ?_
      refine lv_aload_n hx hb eX11_has_64.2.2.2.1 rfl (lv_at hl 0 rfl) ?_
      obtain ⟨r6, hc5, h⟩ := bn_e h
      refine ycV (r0 := i2 r6) (As := []) (rest := []) (C := RX8) (n := 0) ⟨hx, hb, hml, hown, ht⟩ (k_x8_volumes l D a _ _ hc5) (zgV ml_X11_134 im_X8_volumes se_X8_volumes in_X8 co_X8_volumes) rfl rfl (by decide +kernel) ⟨Nat.le_of_ble_eq_true rfl, Nat.le_of_ble_eq_true rfl⟩ hN hK hP hS 53 CW_53 rfl rfl rfl hl.1 rfl (Nat.le_of_ble_eq_true rfl) eX11_has_64.2.2.2.2.1 ⟨Nat.le_of_ble_eq_true rfl, Nat.le_of_ble_eq_true rfl⟩ (fun H locs hP hS => ?_)
      obtain rfl := Option.some.inj h
      exact W.iret (v := (i2 r6)) hx hb hr (fun t ht hW => ⟨⟨_, (), rfl, rfl, trivial⟩, hS.F ht⟩) hS.2.2 eX11_has_64.2.2.2.2.2.1
    · have h := if_f c4 h
      by_cases c7 : p0 = 2
      · have h := if_t c7 h
        refine lv_tableIn (off := 65) (tgt := 74) hx hb eX11_feed_62.2.2.2.2.2.2.2 (by rw [c7]; decide) (by rw [c7]; decide) (by rw [c7]; decide) (by decide) ?_
        refine lv_aload_n hx hb eX11_has_64.2.2.2.2.2.2.1 rfl (lv_at hl 0 rfl) ?_
        obtain ⟨r9, hc8, h⟩ := bn_e h
        refine ycV (r0 := i2 r9) (As := []) (rest := []) (C := RX8) (n := 0) ⟨hx, hb, hml, hown, ht⟩ (k_x8_used l D a _ _ hc8) (zgV ml_X11_138 im_X8_used se_X8_used in_X8 co_X8_used) rfl rfl (by decide +kernel) ⟨Nat.le_of_ble_eq_true rfl, Nat.le_of_ble_eq_true rfl⟩ hN hK hP hS 53 CW_53 rfl rfl rfl hl.1 rfl (Nat.le_of_ble_eq_true rfl) eX11_has_64.2.2.2.2.2.2.2 ⟨Nat.le_of_ble_eq_true rfl, Nat.le_of_ble_eq_true rfl⟩ (fun H locs hP hS => ?_)
        obtain rfl := Option.some.inj h
        exact W.iret (v := (i2 r9)) hx hb hr (fun t ht hW => ⟨⟨_, (), rfl, rfl, trivial⟩, hS.F ht⟩) hS.2.2 eX11_has_78.1
      · have h := if_f c7 h
        by_cases c10 : p0 = 3
        · have h := if_t c10 h
          refine lv_tableIn (off := 70) (tgt := 79) hx hb eX11_feed_62.2.2.2.2.2.2.2 (by rw [c10]; decide) (by rw [c10]; decide) (by rw [c10]; decide) (by decide) ?_
          refine lv_aload_n hx hb eX11_has_78.2.1 rfl (lv_at hl 0 rfl) ?_
          obtain ⟨r12, hc11, h⟩ := bn_e h
          refine ycV (r0 := i2 r12) (As := []) (rest := []) (C := RX8) (n := 0) ⟨hx, hb, hml, hown, ht⟩ (k_x8_held l D a _ _ hc11) (zgV ml_X11_141 im_X8_held se_X8_held in_X8 co_X8_held) rfl rfl (by decide +kernel) ⟨Nat.le_of_ble_eq_true rfl, Nat.le_of_ble_eq_true rfl⟩ hN hK hP hS 53 CW_53 rfl rfl rfl hl.1 rfl (Nat.le_of_ble_eq_true rfl) eX11_has_78.2.2.1 ⟨Nat.le_of_ble_eq_true rfl, Nat.le_of_ble_eq_true rfl⟩ (fun H locs hP hS => ?_)
          obtain rfl := Option.some.inj h
          exact W.iret (v := (i2 r12)) hx hb hr (fun t ht hW => ⟨⟨_, (), rfl, rfl, trivial⟩, hS.F ht⟩) hS.2.2 eX11_has_78.2.2.2.1
        · have h := if_f c10 h
          by_cases c13 : p0 = 4
          · have h := if_t c13 h
            refine lv_tableIn (off := 75) (tgt := 84) hx hb eX11_feed_62.2.2.2.2.2.2.2 (by rw [c13]; decide) (by rw [c13]; decide) (by rw [c13]; decide) (by decide) ?_
            refine lv_aload_n hx hb eX11_has_78.2.2.2.2.1 rfl (lv_at hl 0 rfl) ?_
            refine va_get (D := D) (ci := 8) (v := .int (i2 (gI s 1060))) (C := RX8) (T := TX8) (N := 11) hx hb ht inX8 hown hK hP 53 CW_53 rfl 0 (by decide) (ht (.fieldLink RX11 129 "CloneVolumes$State" "blocks" "I") fl_X11_129) (fun _ h9 => h9) rfl eX11_has_78.2.2.2.2.2.1 ?_
            refine lv_aload_n hx hb eX11_has_78.2.2.2.2.2.2.1 rfl (lv_at hl 0 rfl) ?_
            obtain ⟨r15, hc14, h⟩ := bn_e h
            refine ycV (r0 := i2 r15) (As := []) (rest := [.int (i2 (gI s 1060))]) (C := RX8) (n := 0) ⟨hx, hb, hml, hown, ht⟩ (k_x8_used l D a _ _ hc14) (zgV ml_X11_138 im_X8_used se_X8_used in_X8 co_X8_used) rfl rfl (by decide +kernel) ⟨Nat.le_of_ble_eq_true rfl, Nat.le_of_ble_eq_true rfl⟩ hN hK hP hS 53 CW_53 rfl rfl rfl hl.1 rfl (Nat.le_of_ble_eq_true rfl) eX11_has_78.2.2.2.2.2.2.2 ⟨Nat.le_of_ble_eq_true rfl, Nat.le_of_ble_eq_true rfl⟩ (fun H locs hP hS => ?_)
            refine lv_isub hx hb eX11_has_92.1 ?_
            refine z_topi (y := i2 ((gI s 1060) - r15)) (i2_sub (gI s 1060) r15) ?_
            refine lv_aload_n hx hb eX11_has_92.2.1 rfl (lv_at hl 0 rfl) ?_
            obtain ⟨r17, hc16, h⟩ := bn_e h
            refine ycV (r0 := i2 r17) (As := []) (rest := [.int (i2 ((gI s 1060) - r15))]) (C := RX8) (n := 0) ⟨hx, hb, hml, hown, ht⟩ (k_x8_held l D a _ _ hc16) (zgV ml_X11_141 im_X8_held se_X8_held in_X8 co_X8_held) rfl rfl (by decide +kernel) ⟨Nat.le_of_ble_eq_true rfl, Nat.le_of_ble_eq_true rfl⟩ hN hK hP hS 53 CW_53 rfl rfl rfl hl.1 rfl (Nat.le_of_ble_eq_true rfl) eX11_has_92.2.2.1 ⟨Nat.le_of_ble_eq_true rfl, Nat.le_of_ble_eq_true rfl⟩ (fun H locs hP hS => ?_)
            refine lv_isub hx hb eX11_has_92.2.2.2.1 ?_
            refine z_topi (y := i2 (((gI s 1060) - r15) - r17)) (i2_sub ((gI s 1060) - r15) r17) ?_
            obtain rfl := Option.some.inj h
            exact W.iret (v := (i2 (((gI s 1060) - r15) - r17))) hx hb hr (fun t ht hW => ⟨⟨_, (), rfl, rfl, trivial⟩, hS.F ht⟩) hS.2.2 eX11_has_92.2.2.2.2.1
          · have h := if_f c13 h
            by_cases c18 : p0 = 5
            · have h := if_t c18 h
              refine lv_tableIn (off := 90) (tgt := 99) hx hb eX11_feed_62.2.2.2.2.2.2.2 (by rw [c18]; decide) (by rw [c18]; decide) (by rw [c18]; decide) (by decide) ?_
              refine lv_aload_n hx hb eX11_has_92.2.2.2.2.2.1 rfl (lv_at hl 0 rfl) ?_
              refine va_get (D := D) (ci := 8) (v := .int (i2 (gI s 1061))) (C := RX8) (T := TX8) (N := 11) hx hb ht inX8 hown hK hP 53 CW_53 rfl 1 (by decide) (ht (.fieldLink RX11 144 "CloneVolumes$State" "spent" "I") fl_X11_144) (fun _ h9 => h9) rfl eX11_has_92.2.2.2.2.2.2.1 ?_
              obtain rfl := Option.some.inj h
              exact W.iret (v := (i2 (gI s 1061))) hx hb hr (fun t ht hW => ⟨⟨_, (), rfl, rfl, trivial⟩, hS.F ht⟩) hS.2.2 eX11_has_92.2.2.2.2.2.2.2
            · have h := if_f c18 h
              by_cases c19 : p0 = 6
              · have h := if_t c19 h
                refine lv_tableIn (off := 95) (tgt := 104) hx hb eX11_feed_62.2.2.2.2.2.2.2 (by rw [c19]; decide) (by rw [c19]; decide) (by rw [c19]; decide) (by decide) ?_
                refine lv_aload_n hx hb eX11_has_104.1 rfl (lv_at hl 1 rfl) ?_
                refine va_get (D := D) (ci := 11) (v := .ref (a 7)) (C := RX11) (T := TX11) (N := 13) hx hb ht inX11 hown hK hP 0 CW_0 rfl 2 (by decide) (ht (.fieldLink RX11 28 "CloneVolumes" "history" "LCloneVolumes$History;") fl_X11_28) (fun _ h9 => h9) rfl eX11_has_104.2.1 ?_
                obtain ⟨r21, hc20, h⟩ := bn_e h
                refine ycV (r0 := i2 r21) (As := []) (rest := []) (C := RX2) (n := 0) ⟨hx, hb, hml, hown, ht⟩ (k_x2_toldRows l D a _ _ hc20) (zgV ml_X11_147 im_X2_toldRows se_X2_toldRows in_X2 co_X2_toldRows) rfl rfl (by decide +kernel) ⟨Nat.le_of_ble_eq_true rfl, Nat.le_of_ble_eq_true rfl⟩ hN hK hP hS 7 CW_7 rfl rfl rfl hl.1 rfl (Nat.le_of_ble_eq_true rfl) eX11_has_104.2.2.1 ⟨Nat.le_of_ble_eq_true rfl, Nat.le_of_ble_eq_true rfl⟩ (fun H locs hP hS => ?_)
                obtain rfl := Option.some.inj h
                exact W.iret (v := (i2 r21)) hx hb hr (fun t ht hW => ⟨⟨_, (), rfl, rfl, trivial⟩, hS.F ht⟩) hS.2.2 eX11_has_104.2.2.2.1
              · have h := if_f c19 h
                by_cases c22 : p0 = 7
                · have h := if_t c22 h
                  refine lv_tableIn (off := 103) (tgt := 112) hx hb eX11_feed_62.2.2.2.2.2.2.2 (by rw [c22]; decide) (by rw [c22]; decide) (by rw [c22]; decide) (by decide) ?_
                  refine lv_aload_n hx hb eX11_has_104.2.2.2.2.1 rfl (lv_at hl 1 rfl) ?_
                  refine va_get (D := D) (ci := 11) (v := .ref (a 11)) (C := RX11) (T := TX11) (N := 13) hx hb ht inX11 hown hK hP 0 CW_0 rfl 3 (by decide) (ht (.fieldLink RX11 35 "CloneVolumes" "sight" "LCloneVolumes$Sight;") fl_X11_35) (fun _ h9 => h9) rfl eX11_has_104.2.2.2.2.2.1 ?_
                  refine va_get (D := D) (ci := 7) (v := .int (i2 (gI s 220))) (C := RX7) (T := TX7) (N := 6) hx hb ht inX7 hown hK hP 11 CW_11 rfl 0 (by decide) (ht (.fieldLink RX11 109 "CloneVolumes$Sight" "rows" "I") fl_X11_109) (fun _ h9 => h9) rfl eX11_has_104.2.2.2.2.2.2.1 ?_
                  obtain rfl := Option.some.inj h
                  exact W.iret (v := (i2 (gI s 220))) hx hb hr (fun t ht hW => ⟨⟨_, (), rfl, rfl, trivial⟩, hS.F ht⟩) hS.2.2 eX11_has_104.2.2.2.2.2.2.2
                · have h := if_f c22 h
                  by_cases c23 : p0 = 8
                  · have h := if_t c23 h
                    refine lv_tableIn (off := 111) (tgt := 120) hx hb eX11_feed_62.2.2.2.2.2.2.2 (by rw [c23]; decide) (by rw [c23]; decide) (by rw [c23]; decide) (by decide) ?_
                    refine lv_aload_n hx hb eX11_has_120.1 rfl (lv_at hl 1 rfl) ?_
                    refine va_get (D := D) (ci := 11) (v := .ref (a 7)) (C := RX11) (T := TX11) (N := 13) hx hb ht inX11 hown hK hP 0 CW_0 rfl 2 (by decide) (ht (.fieldLink RX11 28 "CloneVolumes" "history" "LCloneVolumes$History;") fl_X11_28) (fun _ h9 => h9) rfl eX11_has_120.2.1 ?_
                    refine va_get (D := D) (ci := 2) (v := .int (i2 (gI s 145))) (C := RX2) (T := TX2) (N := 6) hx hb ht inX2 hown hK hP 7 CW_7 rfl 5 (by decide) (ht (.fieldLink RX11 150 "CloneVolumes$History" "depth" "I") fl_X11_150) (fun _ h9 => h9) rfl eX11_has_120.2.2.1 ?_
                    obtain rfl := Option.some.inj h
                    exact W.iret (v := (i2 (gI s 145))) hx hb hr (fun t ht hW => ⟨⟨_, (), rfl, rfl, trivial⟩, hS.F ht⟩) hS.2.2 eX11_has_120.2.2.2.1
                  · have h := if_f c23 h
                    by_cases c24 : p0 = 9
                    · have h := if_t c24 h
                      refine lv_tableIn (off := 119) (tgt := 128) hx hb eX11_feed_62.2.2.2.2.2.2.2 (by rw [c24]; decide) (by rw [c24]; decide) (by rw [c24]; decide) (by decide) ?_
                      refine lv_aload_n hx hb eX11_has_120.2.2.2.2.1 rfl (lv_at hl 1 rfl) ?_
                      refine va_get (D := D) (ci := 11) (v := .int (i2 (gI s 12))) (C := RX11) (T := TX11) (N := 13) hx hb ht inX11 hown hK hP 0 CW_0 rfl 12 (by decide) (ht (.fieldLink RX11 112 "CloneVolumes" "told" "Z") fl_X11_112) (fun _ h9 => h9) rfl eX11_has_120.2.2.2.2.2.1 ?_
                      obtain ⟨hr25, h⟩ := rg_e h
                      refine lv_if_eq (tgt := 145) hx hb eX11_has_120.2.2.2.2.2.2.1 (by decide) (fun c26 => ?_) (fun c26 => ?_)
                      · have h := if_t ((i2_eq (x := (gI s 12)) (y := 0) hr25 (by decide)).mp c26) h
                        refine lv_iconst (v := 0) hx hb eX11_has_136.2.2.2.1 (by decide) ?_
                        exact J146 0 _ _ _ ⟨hP, hS, lv_sub hl [] rfl, h⟩
                      · have h := if_f (mt (i2_eq (x := (gI s 12)) (y := 0) hr25 (by decide)).mpr c26) h
                        refine lv_aload_n hx hb eX11_has_120.2.2.2.2.2.2.2 rfl (lv_at hl 1 rfl) ?_
                        refine va_get (D := D) (ci := 11) (v := .ref (a 29)) (C := RX11) (T := TX11) (N := 13) hx hb ht inX11 hown hK hP 0 CW_0 rfl 9 (by decide) (ht (.fieldLink RX11 67 "CloneVolumes" "plan" "LCloneVolumes$Plan;") fl_X11_67) (fun _ h9 => h9) rfl eX11_has_136.1 ?_
                        refine va_get (D := D) (ci := 5) (v := .int (i2 (gI s 581))) (C := RX5) (T := TX5) (N := 14) hx hb ht inX5 hown hK hP 29 CW_29 rfl 1 (by decide) (ht (.fieldLink RX11 153 "CloneVolumes$Plan" "entriesMost" "I") fl_X11_153) (fun _ h9 => h9) rfl eX11_has_136.2.1 ?_
                        refine lv_goto (tgt := 146) hx hb eX11_has_136.2.2.1 (by decide) ?_
                        exact J146 (gI s 581) _ _ _ ⟨hP, hS, lv_sub hl [] rfl, h⟩
                    · have h := if_f c24 h
                      refine lv_tableOut (tgt := 147) hx hb eX11_feed_62.2.2.2.2.2.2.2 (by rw [i2_t hr2]; omega) (by decide) ?_
                      refine lv_iconst (v := (-1)) hx hb eX11_has_136.2.2.2.2.2.1 (by decide) ?_
                      obtain rfl := Option.some.inj h
                      exact W.iret (v := (-1)) hx hb hr (fun t ht hW => ⟨⟨_, (), rfl, rfl, trivial⟩, hS.F ht⟩) hS.2.2 eX11_has_136.2.2.2.2.2.2.1
set_option maxHeartbeats 4000000 in
set_option maxRecDepth 100000 in
theorem k_x11_letter (l : Launch) (D : va_G) (a : Nat → Nat) (p0 : Int) (p1 : Int) (s : MS) (o : Int) (h : m_x11_letter p0 p1 s = some o) : yRi l yX11_letter cX11_letter 3 (some .int) { frames := 0, cells := 0, slots := 0, locals := 0 } D [.ref (a 0), .int (i2 p0), .int (i2 p1)] (CS D a s) (i2 o) := by
  refine Met.ofW (cc := cX11_letter) (maxL := 3) (ret := (some .int)) (by decide) rfl ?_
  intro p e s₀ m args below meth c s₁ B hml hv
  obtain ⟨rfl, ⟨hP, hK⟩, hN⟩ := hv
  have hx := B.exec
  have hb := B.bytes
  have hr := B.returns
  have hts := atoms_spec (ws := wz yX11_letter cX11_letter 3 (some .int)) B.pre
  have ht : ∀ w ∈ lw_gd, w.before _ s₀ = true := fun w h => hts w (List.mem_cons_of_mem _ h)
  have hown : s₀.vm.findClass RX11 = some m.cls := findClass_of_methodNamed B.named
  have hlocks := B.notSynchronized
  have hS : va_S (fun _ => False) s₀.heap s₀.heap [] := va_S.rf
  have hl := lv_entry ([.ref (a 0), .int (i2 p0), .int (i2 p1)]) (n := 3) (Nat.le_of_ble_eq_true rfl)
  rw [lg_entry_eq]
  generalize (lg_sl ([.ref (a 0), .int (i2 p0), .int (i2 p1)]) ++ List.replicate (3 - (lg_sl ([.ref (a 0), .int (i2 p0), .int (i2 p1)])).length) Slot.unset).toArray = ls at hl ⊢
  have hl : lv_has ls 3 [(0, .ref (a 0)), (1, .int (i2 p0)), (2, .int (i2 p1))] := hl
  unfold m_x11_letter at h
  refine y_head (pcJ := 32) (σ := Unit) (fun u H locs ls => va_P D vwCl (CS D a s) H ∧ va_S (fun _ => False) s₀.heap H locs ∧ lv_has ls 3 [] ∧ m_x11_letter_J32 s u = some o) (fun u => []) (fun u H locs ls hI => ?_) (fun J32 => ?_)
  · obtain ⟨hP, hS, hl, h⟩ := hI
    skip
    have hP : va_P D vwCl (CS D a s) H := hP
    have hl : lv_has ls 3 [] := hl
    have h : m_x11_letter_J32 s () = some o := h
    unfold m_x11_letter_J32 at h
    refine lv_iconst (v := (-1)) hx hb eX11_letter_19.2.2.2.2.2.2.1 (by decide) ?_
    obtain rfl := Option.some.inj h
    exact W.iret (v := (-1)) hx hb hr (fun t ht hW => ⟨⟨_, (), rfl, rfl, trivial⟩, hS.F ht⟩) hS.2.2 eX11_letter_19.2.2.2.2.2.2.2
  refine lv_aload_n hx hb eX11_has_136.2.2.2.2.2.2.2 rfl (lv_at hl 0 rfl) ?_
  refine va_get (D := D) (ci := 11) (v := .int (i2 (gI s 12))) (C := RX11) (T := TX11) (N := 13) hx hb ht inX11 hown hK hP 0 CW_0 rfl 12 (by decide) (ht (.fieldLink RX11 112 "CloneVolumes" "told" "Z") fl_X11_112) (fun _ h9 => h9) rfl eX11_letter_1.1 ?_
  obtain ⟨hr1, h⟩ := rg_e h
  refine lv_if_eq (tgt := 32) hx hb eX11_letter_1.2.1 (by decide) (fun c2 => ?_) (fun c2 => ?_)
  · have h := if_t ((i2_eq (x := (gI s 12)) (y := 0) hr1 (by decide)).mp c2) h
    exact J32 () _ _ _ ⟨hP, hS, lv_sub hl [] rfl, h⟩
  · have h := if_f (mt (i2_eq (x := (gI s 12)) (y := 0) hr1 (by decide)).mpr c2) h
    refine lv_iload_n hx hb eX11_letter_1.2.2.1 rfl (lv_at hl 1 rfl) ?_
    obtain ⟨hr3, h⟩ := rg_e h
    refine lv_if_lt (tgt := 32) hx hb eX11_letter_1.2.2.2.1 (by decide) (fun c4 => ?_) (fun c4 => ?_)
    · have h := if_t ((i2_lt (x := p0) (y := 0) hr3 (by decide)).mp c4) h
      exact J32 () _ _ _ ⟨hP, hS, lv_sub hl [] rfl, h⟩
    · have h := if_f (mt (i2_lt (x := p0) (y := 0) hr3 (by decide)).mpr c4) h
      refine lv_iload_n hx hb eX11_letter_1.2.2.2.2.1 rfl (lv_at hl 1 rfl) ?_
      refine lv_aload_n hx hb eX11_letter_1.2.2.2.2.2.1 rfl (lv_at hl 0 rfl) ?_
      refine va_get (D := D) (ci := 11) (v := .ref (a 29)) (C := RX11) (T := TX11) (N := 13) hx hb ht inX11 hown hK hP 0 CW_0 rfl 9 (by decide) (ht (.fieldLink RX11 67 "CloneVolumes" "plan" "LCloneVolumes$Plan;") fl_X11_67) (fun _ h9 => h9) rfl eX11_letter_1.2.2.2.2.2.2.1 ?_
      refine va_get (D := D) (ci := 5) (v := .int (i2 (gI s 584))) (C := RX5) (T := TX5) (N := 14) hx hb ht inX5 hown hK hP 29 CW_29 rfl 4 (by decide) (ht (.fieldLink RX11 156 "CloneVolumes$Plan" "volumes" "I") fl_X11_156) (fun _ h9 => h9) rfl eX11_letter_1.2.2.2.2.2.2.2 ?_
      obtain ⟨hr5, h⟩ := rg_e h
      obtain ⟨hr6, h⟩ := rg_e h
      refine lv_icmp_ge (tgt := 32) hx hb eX11_letter_19.1 (by decide) (fun c7 => ?_) (fun c7 => ?_)
      · have h := if_t ((i2_le (x := (gI s 584)) (y := p0) hr6 hr5).mp c7) h
        exact J32 () _ _ _ ⟨hP, hS, lv_sub hl [] rfl, h⟩
      · have h := if_f (mt (i2_le (x := (gI s 584)) (y := p0) hr6 hr5).mpr c7) h
        refine lv_iload_n hx hb eX11_letter_19.2.1 rfl (lv_at hl 2 rfl) ?_
        obtain ⟨hr8, h⟩ := rg_e h
        refine lv_if_lt (tgt := 32) hx hb eX11_letter_19.2.2.1 (by decide) (fun c9 => ?_) (fun c9 => ?_)
        · have h := if_t ((i2_lt (x := p1) (y := 0) hr8 (by decide)).mp c9) h
          exact J32 () _ _ _ ⟨hP, hS, lv_sub hl [] rfl, h⟩
        · have h := if_f (mt (i2_lt (x := p1) (y := 0) hr8 (by decide)).mpr c9) h
          refine lv_iload_n hx hb eX11_letter_19.2.2.2.1 rfl (lv_at hl 2 rfl) ?_
          refine lv_bipush (v := 6) hx hb eX11_letter_19.2.2.2.2.1 (by decide) ?_
          obtain ⟨hr10, h⟩ := rg_e h
          refine lv_icmp_lt (tgt := 34) hx hb eX11_letter_19.2.2.2.2.2.1 (by decide) (fun c11 => ?_) (fun c11 => ?_)
          · have h := if_t ((i2_lt (x := p1) (y := 6) hr10 (by decide)).mp c11) h
            refine lv_aload_n hx hb eX11_letter_34.1 rfl (lv_at hl 0 rfl) ?_
            refine va_get (D := D) (ci := 11) (v := .ref (a 29)) (C := RX11) (T := TX11) (N := 13) hx hb ht inX11 hown hK hP 0 CW_0 rfl 9 (by decide) (ht (.fieldLink RX11 67 "CloneVolumes" "plan" "LCloneVolumes$Plan;") fl_X11_67) (fun _ h9 => h9) rfl eX11_letter_34.2.1 ?_
            refine va_get (D := D) (ci := 5) (v := .ref (a 30)) (C := RX5) (T := TX5) (N := 14) hx hb ht inX5 hown hK hP 29 CW_29 rfl 6 (by decide) (ht (.fieldLink RX11 158 "CloneVolumes$Plan" "names" "[I") fl_X11_158) (fun _ h9 => h9) rfl eX11_letter_34.2.2.1 ?_
            refine lv_iload_n hx hb eX11_letter_34.2.2.2.1 rfl (lv_at hl 1 rfl) ?_
            refine lv_bipush (v := 6) hx hb eX11_letter_34.2.2.2.2.1 (by decide) ?_
            refine lv_imul hx hb eX11_letter_34.2.2.2.2.2.1 ?_
            refine z_topi (y := i2 (p0 * 6)) (i2_mul p0 6) ?_
            refine lv_iload_n hx hb eX11_letter_34.2.2.2.2.2.2.1 rfl (lv_at hl 2 rfl) ?_
            refine lv_iadd hx hb eX11_letter_34.2.2.2.2.2.2.2 ?_
            refine z_topi (y := i2 ((p0 * 6) + p1)) (i2_add (p0 * 6) p1) ?_
            obtain ⟨y12, ey12, iy12, h⟩ := rdI_e h
            refine ya_iald (i := ((p0 * 6) + p1)) hx hb hK hP 30 0 CW_30 rfl (by decide) ey12 iy12 eX11_letter_47.1 ?_
            obtain rfl := Option.some.inj h
            exact W.iret (v := (i2 y12)) hx hb hr (fun t ht hW => ⟨⟨_, (), rfl, rfl, trivial⟩, hS.F ht⟩) hS.2.2 eX11_letter_47.2.1
          · have h := if_f (mt (i2_lt (x := p1) (y := 6) hr10 (by decide)).mpr c11) h
            exact J32 () _ _ _ ⟨hP, hS, lv_sub hl [] rfl, h⟩
set_option maxHeartbeats 4000000 in
set_option maxRecDepth 100000 in
theorem k_x8_slot (l : Launch) (D : va_G) (a : Nat → Nat) (p0 : Int) (p1 : Int) (s : MS) (o : Int) (h : m_x8_slot p0 p1 s = some o) : yRi l yX8_slot cX8_slot 3 (some .int) { frames := 0, cells := 0, slots := 0, locals := 0 } D [.ref (a 53), .int (i2 p0), .int (i2 p1)] (CS D a s) (i2 o) := by
  refine Met.ofW (cc := cX8_slot) (maxL := 3) (ret := (some .int)) (by decide) rfl ?_
  intro p e s₀ m args below meth c s₁ B hml hv
  obtain ⟨rfl, ⟨hP, hK⟩, hN⟩ := hv
  have hx := B.exec
  have hb := B.bytes
  have hr := B.returns
  have hts := atoms_spec (ws := wz yX8_slot cX8_slot 3 (some .int)) B.pre
  have ht : ∀ w ∈ lw_gd, w.before _ s₀ = true := fun w h => hts w (List.mem_cons_of_mem _ h)
  have hown : s₀.vm.findClass RX8 = some m.cls := findClass_of_methodNamed B.named
  have hlocks := B.notSynchronized
  have hS : va_S (fun _ => False) s₀.heap s₀.heap [] := va_S.rf
  have hl := lv_entry ([.ref (a 53), .int (i2 p0), .int (i2 p1)]) (n := 3) (Nat.le_of_ble_eq_true rfl)
  rw [lg_entry_eq]
  generalize (lg_sl ([.ref (a 53), .int (i2 p0), .int (i2 p1)]) ++ List.replicate (3 - (lg_sl ([.ref (a 53), .int (i2 p0), .int (i2 p1)])).length) Slot.unset).toArray = ls at hl ⊢
  have hl : lv_has ls 3 [(0, .ref (a 53)), (1, .int (i2 p0)), (2, .int (i2 p1))] := hl
  unfold m_x8_slot at h
  refine lv_iload_n hx hb eX8_isVolume_16.2.2.2.2.2.2.1 rfl (lv_at hl 1 rfl) ?_
  refine lv_bipush (v := 6) hx hb eX8_isVolume_16.2.2.2.2.2.2.2 (by decide) ?_
  refine lv_imul hx hb eX8_slot_3.1 ?_
  refine z_topi (y := i2 (p0 * 6)) (i2_mul p0 6) ?_
  refine lv_iload_n hx hb eX8_slot_3.2.1 rfl (lv_at hl 2 rfl) ?_
  refine lv_iadd hx hb eX8_slot_3.2.2.1 ?_
  refine z_topi (y := i2 ((p0 * 6) + p1)) (i2_add (p0 * 6) p1) ?_
  obtain rfl := Option.some.inj h
  exact W.iret (v := (i2 ((p0 * 6) + p1))) hx hb hr (fun t ht hW => ⟨⟨_, (), rfl, rfl, trivial⟩, hS.F ht⟩) hS.2.2 eX8_slot_3.2.2.2.1
set_option maxHeartbeats 4000000 in
set_option maxRecDepth 100000 in
theorem k_x10_tree (l : Launch) (D : va_G) (a : Nat → Nat) (p1 : Int) (sz : Nat) (s : MS) (o : (Int × MS)) (h : m_x10_tree p1 s = some o) : yWl l yX10_tree cX10_tree 8 (some .long) { frames := 1, cells := 0, slots := 0, locals := 60 } D sz [.ref (a 21), .ref (a 53), .int (i2 p1)] (CS D a s) (CS D a o.2) (i8 o.1) := by
  refine Met.ofW (cc := cX10_tree) (maxL := 8) (ret := (some .long)) (by decide) rfl ?_
  intro p e s₀ m args below meth c s₁ B hml hv
  obtain ⟨rfl, ⟨hsz, hP, hK, hD0⟩, hN⟩ := hv
  have hx := B.exec
  have hb := B.bytes
  have hr := B.returns
  have hts := atoms_spec (ws := wz yX10_tree cX10_tree 8 (some .long)) B.pre
  have ht : ∀ w ∈ lw_gd, w.before _ s₀ = true := fun w h => hts w (List.mem_cons_of_mem _ h)
  have hown : s₀.vm.findClass RX10 = some m.cls := findClass_of_methodNamed B.named
  have hlocks := B.notSynchronized
  subst hsz
  have hD := hD0.self (sz := s₀.heap.size)
  generalize hAe : va_A (CS D a s) s₀.heap.size = A at hD ⊢
  have hA : ∀ q : Nat, s₀.heap.size ≤ q → A q := fun q h => by rw [← hAe]; exact Or.inr h
  have hS : va_S A s₀.heap s₀.heap [] := va_S.rf
  have hDD : ∀ t : MS, va_D A (CS D a t) := fun t => CW_D t hD
  have hl := lv_entry ([.ref (a 21), .ref (a 53), .int (i2 p1)]) (n := 8) (Nat.le_of_ble_eq_true rfl)
  rw [lg_entry_eq]
  generalize (lg_sl ([.ref (a 21), .ref (a 53), .int (i2 p1)]) ++ List.replicate (8 - (lg_sl ([.ref (a 21), .ref (a 53), .int (i2 p1)])).length) Slot.unset).toArray = ls at hl ⊢
  have hl : lv_has ls 8 [(0, .ref (a 21)), (1, .ref (a 53)), (2, .int (i2 p1))] := hl
  unfold m_x10_tree at h
  refine y_head (pcJ := 161) (σ := Int × MS) (fun u H locs ls => va_P D vwCl (CS D a u.2) H ∧ va_S A s₀.heap H locs ∧ lv_has ls 8 [(3, .long (i8 u.1))] ∧ m_x10_tree_J161 u.1 u.2 = some o) (fun u => []) (fun u H locs ls hI => ?_) (fun J161 => ?_)
  · obtain ⟨hP, hS, hl, h⟩ := hI
    obtain ⟨z1, s2⟩ := u
    have hP : va_P D vwCl (CS D a s2) H := hP
    have hl : lv_has ls 8 [(3, .long (i8 z1))] := hl
    have h : m_x10_tree_J161 z1 s2 = some o := h
    unfold m_x10_tree_J161 at h
    refine lv_lload_n hx hb eX10_tree_155.2.2.1 rfl (lv_at hl 0 rfl) ?_
    obtain rfl := Option.some.inj h
    exact W.lret (v := (i8 z1)) hx hb hr (fun t ht hW => ⟨⟨_, (), rfl, rfl, by rw [ht]; exact hP, va_K.moved hW.alike hK, hDD _⟩, hS.F ht⟩) hS.2.2 eX10_tree_155.2.2.2.1
  refine y_loop (pcJ := 30) (σ := Int × Int × MS) (fun n u H locs ls => va_P D vwCl (CS D a u.2.2) H ∧ va_S A s₀.heap H locs ∧ lv_has ls 8 [(0, .ref (a 21)), (1, .ref (a 53)), (3, .long (i8 u.1)), (5, .int (i2 u.2.1))] ∧ m_x10_tree_L30 n u.1 u.2.1 u.2.2 = some o) (fun u => []) (fun u H locs ls hI => by obtain ⟨_, _, _, h⟩ := hI; cases h) (fun n30 ih30 u H locs ls hI => ?_) (fun J30 => ?_)
  · obtain ⟨hP, hS, hl, h⟩ := hI
    obtain ⟨z3, x4, s5⟩ := u
    have hP : va_P D vwCl (CS D a s5) H := hP
    have hl : lv_has ls 8 [(0, .ref (a 21)), (1, .ref (a 53)), (3, .long (i8 z3)), (5, .int (i2 x4))] := hl
    have h : m_x10_tree_b30 (m_x10_tree_L30 n30) z3 x4 s5 = some o := h
    unfold m_x10_tree_b30 at h
    refine y_head (pcJ := 155) (σ := Int × Int × MS) (fun u H locs ls => va_P D vwCl (CS D a u.2.2) H ∧ va_S A s₀.heap H locs ∧ lv_has ls 8 [(0, .ref (a 21)), (1, .ref (a 53)), (3, .long (i8 u.1)), (5, .int (i2 u.2.1))] ∧ m_x10_tree_J155 (m_x10_tree_L30 n30) u.1 u.2.1 u.2.2 = some o) (fun u => []) (fun u H locs ls hI => ?_) (fun J155 => ?_)
    · obtain ⟨hP, hS, hl, h⟩ := hI
      obtain ⟨z6, x7, s8⟩ := u
      have hP : va_P D vwCl (CS D a s8) H := hP
      have hl : lv_has ls 8 [(0, .ref (a 21)), (1, .ref (a 53)), (3, .long (i8 z6)), (5, .int (i2 x7))] := hl
      have h : m_x10_tree_J155 (m_x10_tree_L30 n30) z6 x7 s8 = some o := h
      unfold m_x10_tree_J155 at h
      refine lv_iinc (v := i2 (x7 + 1)) (lv' := [(5, .int (i2 (x7 + 1))), (0, .ref (a 21)), (1, .ref (a 53)), (3, .long (i8 z6))]) hx hb eX10_tree_155.1 hl (k := 3) rfl (i2_add x7 1) (by decide) rfl (fun ls hl => ?_)
      refine lv_goto (tgt := 30) hx hb eX10_tree_155.2.1 (by decide) ?_
      exact ih30 (z6, x7 + 1, s8) _ _ _ ⟨hP, hS, lv_sub hl [1, 2, 3, 0] rfl, h⟩
    refine y_loop (pcJ := 82) (σ := Int × Int × Int × Int × MS) (fun n u H locs ls => va_P D vwCl (CS D a u.2.2.2.2) H ∧ va_S A s₀.heap H locs ∧ lv_has ls 8 [(0, .ref (a 21)), (1, .ref (a 53)), (3, .long (i8 u.1)), (5, .int (i2 u.2.1)), (6, .int (i2 u.2.2.1)), (7, .int (i2 u.2.2.2.1))] ∧ m_x10_tree_L82 (m_x10_tree_L30 n30) n u.1 u.2.1 u.2.2.1 u.2.2.2.1 u.2.2.2.2 = some o) (fun u => []) (fun u H locs ls hI => by obtain ⟨_, _, _, h⟩ := hI; cases h) (fun n82 ih82 u H locs ls hI => ?_) (fun J82 => ?_)
    · obtain ⟨hP, hS, hl, h⟩ := hI
      obtain ⟨z9, x10, x11, x12, s13⟩ := u
      have hP : va_P D vwCl (CS D a s13) H := hP
      have hl : lv_has ls 8 [(0, .ref (a 21)), (1, .ref (a 53)), (3, .long (i8 z9)), (5, .int (i2 x10)), (6, .int (i2 x11)), (7, .int (i2 x12))] := hl
      have h : m_x10_tree_b82 (m_x10_tree_L30 n30) (m_x10_tree_L82 (m_x10_tree_L30 n30) n82) z9 x10 x11 x12 s13 = some o := h
      unfold m_x10_tree_b82 at h
      refine lv_iload hx hb eX10_tree_82.1 (lv_at hl 5 rfl) ?_
      refine lv_iload hx hb eX10_tree_82.2.1 (lv_at hl 4 rfl) ?_
      obtain ⟨hr14, h⟩ := rg_e h
      obtain ⟨hr15, h⟩ := rg_e h
      refine lv_icmp_ge (tgt := 155) hx hb eX10_tree_82.2.2.1 (by decide) (fun c16 => ?_) (fun c16 => ?_)
      · have h := if_t ((i2_le (x := x11) (y := x12) hr15 hr14).mp c16) h
        exact J155 (z9, x10, s13) _ _ _ ⟨hP, hS, lv_sub hl [0, 1, 2, 3] rfl, h⟩
      · have h := if_f (mt (i2_le (x := x11) (y := x12) hr15 hr14).mpr c16) h
        refine lv_aload_n hx hb eX10_tree_82.2.2.2.1 rfl (lv_at hl 0 rfl) ?_
        refine va_get (D := D) (ci := 10) (v := .int (i2 (gI s13 421))) (C := RX10) (T := TX10) (N := 4) hx hb ht inX10 hown hK hP 21 CW_21 rfl 1 (by decide) (ht (.fieldLink RX10 21 "CloneVolumes$Walk" "length" "I") fl_X10_21) (fun _ h9 => h9) rfl eX10_tree_82.2.2.2.2.1 ?_
        refine lv_bipush (v := 48) hx hb eX10_tree_82.2.2.2.2.2.1 (by decide) ?_
        obtain ⟨hr17, h⟩ := rg_e h
        refine lv_icmp_ge (tgt := 155) hx hb eX10_tree_82.2.2.2.2.2.2.1 (by decide) (fun c18 => ?_) (fun c18 => ?_)
        · have h := if_t ((i2_le (x := 48) (y := (gI s13 421)) (by decide) hr17).mp c18) h
          exact J155 (z9, x10, s13) _ _ _ ⟨hP, hS, lv_sub hl [0, 1, 2, 3] rfl, h⟩
        · have h := if_f (mt (i2_le (x := 48) (y := (gI s13 421)) (by decide) hr17).mpr c18) h
          refine lv_aload_n hx hb eX10_tree_82.2.2.2.2.2.2.2 rfl (lv_at hl 0 rfl) ?_
          refine va_get (D := D) (ci := 10) (v := .ref (a 22)) (C := RX10) (T := TX10) (N := 4) hx hb ht inX10 hown hK hP 21 CW_21 rfl 0 (by decide) (ht (.fieldLink RX10 9 "CloneVolumes$Walk" "row" "[I") fl_X10_9) (fun _ h9 => h9) rfl eX10_tree_99.1 ?_
          refine lv_aload_n hx hb eX10_tree_99.2.1 rfl (lv_at hl 0 rfl) ?_
          refine va_get (D := D) (ci := 10) (v := .int (i2 (gI s13 421))) (C := RX10) (T := TX10) (N := 4) hx hb ht inX10 hown hK hP 21 CW_21 rfl 1 (by decide) (ht (.fieldLink RX10 21 "CloneVolumes$Walk" "length" "I") fl_X10_21) (fun _ h9 => h9) rfl eX10_tree_99.2.2.1 ?_
          refine lv_aload_n hx hb eX10_tree_99.2.2.2.1 rfl (lv_at hl 1 rfl) ?_
          refine va_get (D := D) (ci := 8) (v := .ref (a 59)) (C := RX8) (T := TX8) (N := 11) hx hb ht inX8 hown hK hP 53 CW_53 rfl 8 (by decide) (ht (.fieldLink RX10 33 "CloneVolumes$State" "values" "[I") fl_X10_33) (fun _ h9 => h9) rfl eX10_tree_99.2.2.2.2.1 ?_
          refine lv_aload_n hx hb eX10_tree_99.2.2.2.2.2.1 rfl (lv_at hl 1 rfl) ?_
          refine lv_aload_n hx hb eX10_tree_99.2.2.2.2.2.2.1 rfl (lv_at hl 0 rfl) ?_
          refine va_get (D := D) (ci := 10) (v := .ref (a 22)) (C := RX10) (T := TX10) (N := 4) hx hb ht inX10 hown hK hP 21 CW_21 rfl 0 (by decide) (ht (.fieldLink RX10 9 "CloneVolumes$Walk" "row" "[I") fl_X10_9) (fun _ h9 => h9) rfl eX10_tree_99.2.2.2.2.2.2.2 ?_
          refine lv_iload hx hb eX10_tree_115.1 (lv_at hl 3 rfl) ?_
          obtain ⟨y19, ey19, iy19, h⟩ := rdI_e h
          refine ya_iald (i := x10) hx hb hK hP 22 0 CW_22 rfl (by decide) ey19 iy19 eX10_tree_115.2.1 ?_
          refine lv_iload hx hb eX10_tree_115.2.2.1 (lv_at hl 5 rfl) ?_
          obtain ⟨r21, hc20, h⟩ := bn_e h
          refine ycV (r0 := i2 r21) (As := [.int (i2 y19), .int (i2 x12)]) (rest := [.ref (a 59), .int (i2 (gI s13 421)), .ref (a 22)]) (C := RX8) (n := 2) ⟨hx, hb, hml, hown, ht⟩ (k_x8_slot l D a y19 x12 _ _ hc20) (zgV ml_X10_34 im_X8_slot se_X8_slot in_X8 co_X8_slot) rfl rfl (by decide +kernel) ⟨Nat.le_of_ble_eq_true rfl, Nat.le_of_ble_eq_true rfl⟩ hN hK hP hS 53 CW_53 rfl rfl rfl hl.1 rfl (Nat.le_of_ble_eq_true rfl) eX10_tree_115.2.2.2.1 ⟨Nat.le_of_ble_eq_true rfl, Nat.le_of_ble_eq_true rfl⟩ (fun H locs hP hS => ?_)
          obtain ⟨y22, ey22, iy22, h⟩ := rdI_e h
          refine ya_iald (i := r21) hx hb hK hP 59 0 CW_59 rfl (by decide) ey22 iy22 eX10_tree_115.2.2.2.2.1 ?_
          obtain ⟨hi23, h⟩ := inb_e h
          refine ya_iast (i := (gI s13 421)) (x := y22) hx hb hK hP (hDD _) hS 22 0 CW_22 rfl (by decide) hi23 eX10_tree_115.2.2.2.2.2.1 (CW_w22 _) (fun H locs hP hS => ?_)
          obtain ⟨s24, hs24, h⟩ := st_e h
          rw [hs24] at hP
          refine lv_lload_n hx hb eX10_tree_115.2.2.2.2.2.2.1 rfl (lv_at hl 2 rfl) ?_
          refine lv_lconst (v := 1) hx hb eX10_tree_115.2.2.2.2.2.2.2 (by decide) ?_
          refine lv_aload_n hx hb eX10_tree_127.1 rfl (lv_at hl 0 rfl) ?_
          refine va_get (D := D) (ci := 10) (v := .ref (a 22)) (C := RX10) (T := TX10) (N := 4) hx hb ht inX10 hown hK hP 21 CW_21 rfl 0 (by decide) (ht (.fieldLink RX10 9 "CloneVolumes$Walk" "row" "[I") fl_X10_9) (fun _ h9 => h9) rfl eX10_tree_127.2.1 ?_
          refine lv_aload_n hx hb eX10_tree_127.2.2.1 rfl (lv_at hl 0 rfl) ?_
          refine va_get (D := D) (ci := 10) (v := .int (i2 (gI s24 421))) (C := RX10) (T := TX10) (N := 4) hx hb ht inX10 hown hK hP 21 CW_21 rfl 1 (by decide) (ht (.fieldLink RX10 21 "CloneVolumes$Walk" "length" "I") fl_X10_21) (fun _ h9 => h9) rfl eX10_tree_127.2.2.2.1 ?_
          obtain ⟨y25, ey25, iy25, h⟩ := rdI_e h
          refine ya_iald (i := (gI s24 421)) hx hb hK hP 22 0 CW_22 rfl (by decide) ey25 iy25 eX10_tree_127.2.2.2.2.1 ?_
          refine lv_lshl (v := i8 (shlLZ 1 y25)) hx hb eX10_tree_127.2.2.2.2.2.1 (i8_of (shlL (i8 1) (i2 y25))).symm ?_
          refine lv_lor hx hb eX10_tree_127.2.2.2.2.2.2.1 ?_
          refine z_topl (y := i8 (orL z9 (shlLZ 1 y25))) (i8_of (i8 z9 ||| i8 (shlLZ 1 y25))).symm ?_
          refine lv_lstore_n (lv' := [(3, .long (i8 (orL z9 (shlLZ 1 y25)))), (0, .ref (a 21)), (1, .ref (a 53)), (5, .int (i2 x10)), (6, .int (i2 x11)), (7, .int (i2 x12))]) hx hb eX10_tree_127.2.2.2.2.2.2.2 rfl hl (by decide) rfl (fun ls hl => ?_)
          refine lv_aload_n hx hb eX10_tree_139.1 rfl (lv_at hl 1 rfl) ?_
          refine lv_dup hx hb eX10_tree_139.2.1 rfl ?_
          refine va_get (D := D) (ci := 10) (v := .int (i2 (gI s24 421))) (C := RX10) (T := TX10) (N := 4) hx hb ht inX10 hown hK hP 21 CW_21 rfl 1 (by decide) (ht (.fieldLink RX10 21 "CloneVolumes$Walk" "length" "I") fl_X10_21) (fun _ h9 => h9) rfl eX10_tree_139.2.2.1 ?_
          refine lv_iconst (v := 1) hx hb eX10_tree_139.2.2.2.1 (by decide) ?_
          refine lv_iadd hx hb eX10_tree_139.2.2.2.2.1 ?_
          refine z_topi (y := i2 ((gI s24 421) + 1)) (i2_add (gI s24 421) 1) ?_
          refine ya_put (D := D) (ci := 10) (v := .int (i2 ((gI s24 421) + 1))) (ty := .int) (C := RX10) (T := TX10) (N := 4) hx hb ht inX10 tyX10 tyX10_ok nmX10 hown hK hP (hDD _) hS 21 CW_21 rfl 1 (by decide) (ht (.fieldLink RX10 21 "CloneVolumes$Walk" "length" "I") fl_X10_21) (fun _ h9 => h9) rfl (by decide +kernel) rfl rfl (Nat.le_of_ble_eq_true rfl) eX10_tree_139.2.2.2.2.2.1 (CW_w21_1 ((gI s24 421) + 1)) (fun H locs hP hS => ?_)
          obtain ⟨s26, hs26, h⟩ := st_e h
          rw [hs26] at hP
          refine lv_iinc (v := i2 (x12 + 1)) (lv' := [(7, .int (i2 (x12 + 1))), (3, .long (i8 (orL z9 (shlLZ 1 y25)))), (0, .ref (a 21)), (1, .ref (a 53)), (5, .int (i2 x10)), (6, .int (i2 x11))]) hx hb eX10_tree_139.2.2.2.2.2.2.1 hl (k := 5) rfl (i2_add x12 1) (by decide) rfl (fun ls hl => ?_)
          refine lv_goto (tgt := 82) hx hb eX10_tree_139.2.2.2.2.2.2.2 (by decide) ?_
          exact ih82 (orL z9 (shlLZ 1 y25), x10, x11, x12 + 1, s26) _ _ _ ⟨hP, hS, lv_sub hl [2, 3, 1, 4, 5, 0] rfl, h⟩
    refine y_head (pcJ := 77) (σ := Int × Int × Int × MS) (fun u H locs ls => va_P D vwCl (CS D a u.2.2.2) H ∧ va_S A s₀.heap H locs ∧ lv_has ls 8 [(0, .ref (a 21)), (1, .ref (a 53)), (3, .long (i8 u.1)), (5, .int (i2 u.2.1))] ∧ m_x10_tree_J77 (m_x10_tree_L30 n30) u.1 u.2.1 u.2.2.1 u.2.2.2 = some o) (fun u => [.int (i2 u.2.2.1)]) (fun u H locs ls hI => ?_) (fun J77 => ?_)
    · obtain ⟨hP, hS, hl, h⟩ := hI
      obtain ⟨z27, x28, x29, s30⟩ := u
      have hP : va_P D vwCl (CS D a s30) H := hP
      have hl : lv_has ls 8 [(0, .ref (a 21)), (1, .ref (a 53)), (3, .long (i8 z27)), (5, .int (i2 x28))] := hl
      have h : m_x10_tree_J77 (m_x10_tree_L30 n30) z27 x28 x29 s30 = some o := h
      unfold m_x10_tree_J77 at h
      refine lv_istore (lv' := [(6, .int (i2 x29)), (0, .ref (a 21)), (1, .ref (a 53)), (3, .long (i8 z27)), (5, .int (i2 x28))]) hx hb eX10_tree_69.2.2.2.2.2.1 hl (by decide) rfl (fun ls hl => ?_)
      refine lv_iconst (v := 0) hx hb eX10_tree_69.2.2.2.2.2.2.1 (by decide) ?_
      refine lv_istore (lv' := [(7, .int 0), (6, .int (i2 x29)), (0, .ref (a 21)), (1, .ref (a 53)), (3, .long (i8 z27)), (5, .int (i2 x28))]) hx hb eX10_tree_69.2.2.2.2.2.2.2 hl (by decide) rfl (fun ls hl => ?_)
      exact J82 FU (z27, x28, x29, 0, s30) _ _ _ ⟨hP, hS, lv_sub hl [2, 3, 4, 5, 1, 0] rfl, h⟩
    refine lv_iload hx hb eX10_tree_24.2.2.2.2.2.1 (lv_at hl 3 rfl) ?_
    refine lv_aload_n hx hb eX10_tree_24.2.2.2.2.2.2.1 rfl (lv_at hl 0 rfl) ?_
    refine va_get (D := D) (ci := 10) (v := .int (i2 (gI s5 421))) (C := RX10) (T := TX10) (N := 4) hx hb ht inX10 hown hK hP 21 CW_21 rfl 1 (by decide) (ht (.fieldLink RX10 21 "CloneVolumes$Walk" "length" "I") fl_X10_21) (fun _ h9 => h9) rfl eX10_tree_24.2.2.2.2.2.2.2 ?_
    obtain ⟨hr31, h⟩ := rg_e h
    obtain ⟨hr32, h⟩ := rg_e h
    refine lv_icmp_ge (tgt := 161) hx hb eX10_tree_36.1 (by decide) (fun c33 => ?_) (fun c33 => ?_)
    · have h := if_t ((i2_le (x := (gI s5 421)) (y := x4) hr32 hr31).mp c33) h
      exact J161 (z3, s5) _ _ _ ⟨hP, hS, lv_sub hl [2] rfl, h⟩
    · have h := if_f (mt (i2_le (x := (gI s5 421)) (y := x4) hr32 hr31).mpr c33) h
      refine lv_iload hx hb eX10_tree_36.2.1 (lv_at hl 3 rfl) ?_
      refine lv_bipush (v := 48) hx hb eX10_tree_36.2.2.1 (by decide) ?_
      obtain ⟨hr34, h⟩ := rg_e h
      refine lv_icmp_ge (tgt := 161) hx hb eX10_tree_36.2.2.2.1 (by decide) (fun c35 => ?_) (fun c35 => ?_)
      · have h := if_t ((i2_le (x := 48) (y := x4) (by decide) hr34).mp c35) h
        exact J161 (z3, s5) _ _ _ ⟨hP, hS, lv_sub hl [2] rfl, h⟩
      · have h := if_f (mt (i2_le (x := 48) (y := x4) (by decide) hr34).mpr c35) h
        refine lv_aload_n hx hb eX10_tree_36.2.2.2.2.1 rfl (lv_at hl 1 rfl) ?_
        refine va_get (D := D) (ci := 8) (v := .ref (a 56)) (C := RX8) (T := TX8) (N := 11) hx hb ht inX8 hown hK hP 53 CW_53 rfl 5 (by decide) (ht (.fieldLink RX10 25 "CloneVolumes$State" "level" "[I") fl_X10_25) (fun _ h9 => h9) rfl eX10_tree_36.2.2.2.2.2.1 ?_
        refine lv_aload_n hx hb eX10_tree_36.2.2.2.2.2.2.1 rfl (lv_at hl 0 rfl) ?_
        refine va_get (D := D) (ci := 10) (v := .ref (a 22)) (C := RX10) (T := TX10) (N := 4) hx hb ht inX10 hown hK hP 21 CW_21 rfl 0 (by decide) (ht (.fieldLink RX10 9 "CloneVolumes$Walk" "row" "[I") fl_X10_9) (fun _ h9 => h9) rfl eX10_tree_36.2.2.2.2.2.2.2 ?_
        refine lv_iload hx hb eX10_tree_54.1 (lv_at hl 3 rfl) ?_
        obtain ⟨y36, ey36, iy36, h⟩ := rdI_e h
        refine ya_iald (i := x4) hx hb hK hP 22 0 CW_22 rfl (by decide) ey36 iy36 eX10_tree_54.2.1 ?_
        obtain ⟨y37, ey37, iy37, h⟩ := rdI_e h
        refine ya_iald (i := y36) hx hb hK hP 56 0 CW_56 rfl (by decide) ey37 iy37 eX10_tree_54.2.2.1 ?_
        obtain ⟨hr38, h⟩ := rg_e h
        refine lv_if_le (tgt := 76) hx hb eX10_tree_54.2.2.2.1 (by decide) (fun c39 => ?_) (fun c39 => ?_)
        · have h := if_t ((i2_le (x := y37) (y := 0) hr38 (by decide)).mp c39) h
          refine lv_iconst (v := 0) hx hb eX10_tree_69.2.2.2.2.1 (by decide) ?_
          exact J77 (z3, x4, 0, s5) _ _ _ ⟨hP, hS, lv_sub hl [0, 1, 2, 3] rfl, h⟩
        · have h := if_f (mt (i2_le (x := y37) (y := 0) hr38 (by decide)).mpr c39) h
          refine lv_aload_n hx hb eX10_tree_54.2.2.2.2.1 rfl (lv_at hl 1 rfl) ?_
          refine va_get (D := D) (ci := 8) (v := .ref (a 57)) (C := RX8) (T := TX8) (N := 11) hx hb ht inX8 hown hK hP 53 CW_53 rfl 6 (by decide) (ht (.fieldLink RX10 30 "CloneVolumes$State" "size" "[I") fl_X10_30) (fun _ h9 => h9) rfl eX10_tree_54.2.2.2.2.2.1 ?_
          refine lv_aload_n hx hb eX10_tree_54.2.2.2.2.2.2.1 rfl (lv_at hl 0 rfl) ?_
          refine va_get (D := D) (ci := 10) (v := .ref (a 22)) (C := RX10) (T := TX10) (N := 4) hx hb ht inX10 hown hK hP 21 CW_21 rfl 0 (by decide) (ht (.fieldLink RX10 9 "CloneVolumes$Walk" "row" "[I") fl_X10_9) (fun _ h9 => h9) rfl eX10_tree_54.2.2.2.2.2.2.2 ?_
          refine lv_iload hx hb eX10_tree_69.1 (lv_at hl 3 rfl) ?_
          obtain ⟨y40, ey40, iy40, h⟩ := rdI_e h
          refine ya_iald (i := x4) hx hb hK hP 22 0 CW_22 rfl (by decide) ey40 iy40 eX10_tree_69.2.1 ?_
          obtain ⟨y41, ey41, iy41, h⟩ := rdI_e h
          refine ya_iald (i := y40) hx hb hK hP 57 0 CW_57 rfl (by decide) ey41 iy41 eX10_tree_69.2.2.1 ?_
          refine lv_goto (tgt := 77) hx hb eX10_tree_69.2.2.2.1 (by decide) ?_
          exact J77 (z3, x4, y41, s5) _ _ _ ⟨hP, hS, lv_sub hl [0, 1, 2, 3] rfl, h⟩
  refine lv_aload_n hx hb eX10_tree_0.1 rfl (lv_at hl 0 rfl) ?_
  refine lv_iconst (v := 0) hx hb eX10_tree_0.2.1 (by decide) ?_
  refine ya_put (D := D) (ci := 10) (v := .int 0) (ty := .int) (C := RX10) (T := TX10) (N := 4) hx hb ht inX10 tyX10 tyX10_ok nmX10 hown hK hP (hDD _) hS 21 CW_21 rfl 1 (by decide) (ht (.fieldLink RX10 21 "CloneVolumes$Walk" "length" "I") fl_X10_21) (fun _ h9 => h9) rfl (by decide +kernel) rfl rfl (Nat.le_of_ble_eq_true rfl) eX10_tree_0.2.2.1 (CW_w21_1 0) (fun H locs hP hS => ?_)
  obtain ⟨s42, hs42, h⟩ := st_e h
  rw [hs42] at hP
  refine lv_iload_n hx hb eX10_tree_0.2.2.2.1 rfl (lv_at hl 2 rfl) ?_
  obtain ⟨hr43, h⟩ := rg_e h
  refine lv_if_ge (tgt := 11) hx hb eX10_tree_0.2.2.2.2.1 (by decide) (fun c44 => ?_) (fun c44 => ?_)
  · have h := if_t ((i2_le (x := 0) (y := p1) (by decide) hr43).mp c44) h
    refine lv_aload_n hx hb eX10_tree_0.2.2.2.2.2.2.2 rfl (lv_at hl 0 rfl) ?_
    refine va_get (D := D) (ci := 10) (v := .ref (a 22)) (C := RX10) (T := TX10) (N := 4) hx hb ht inX10 hown hK hP 21 CW_21 rfl 0 (by decide) (ht (.fieldLink RX10 9 "CloneVolumes$Walk" "row" "[I") fl_X10_9) (fun _ h9 => h9) rfl eX10_tree_12.1 ?_
    refine lv_iconst (v := 0) hx hb eX10_tree_12.2.1 (by decide) ?_
    refine lv_iload_n hx hb eX10_tree_12.2.2.1 rfl (lv_at hl 2 rfl) ?_
    obtain ⟨hi45, h⟩ := inb_e h
    refine ya_iast (i := 0) (x := p1) hx hb hK hP (hDD _) hS 22 0 CW_22 rfl (by decide) hi45 eX10_tree_12.2.2.2.1 (CW_w22 _) (fun H locs hP hS => ?_)
    obtain ⟨s46, hs46, h⟩ := st_e h
    rw [hs46] at hP
    refine lv_aload_n hx hb eX10_tree_12.2.2.2.2.1 rfl (lv_at hl 0 rfl) ?_
    refine lv_iconst (v := 1) hx hb eX10_tree_12.2.2.2.2.2.1 (by decide) ?_
    refine ya_put (D := D) (ci := 10) (v := .int 1) (ty := .int) (C := RX10) (T := TX10) (N := 4) hx hb ht inX10 tyX10 tyX10_ok nmX10 hown hK hP (hDD _) hS 21 CW_21 rfl 1 (by decide) (ht (.fieldLink RX10 21 "CloneVolumes$Walk" "length" "I") fl_X10_21) (fun _ h9 => h9) rfl (by decide +kernel) rfl rfl (Nat.le_of_ble_eq_true rfl) eX10_tree_12.2.2.2.2.2.2.1 (CW_w21_1 1) (fun H locs hP hS => ?_)
    obtain ⟨s47, hs47, h⟩ := st_e h
    rw [hs47] at hP
    refine lv_lconst (v := 1) hx hb eX10_tree_12.2.2.2.2.2.2.2 (by decide) ?_
    refine lv_iload_n hx hb eX10_tree_24.1 rfl (lv_at hl 2 rfl) ?_
    refine lv_lshl (v := i8 (shlLZ 1 p1)) hx hb eX10_tree_24.2.1 (i8_of (shlL (i8 1) (i2 p1))).symm ?_
    refine lv_lstore_n (lv' := [(3, .long (i8 (shlLZ 1 p1))), (0, .ref (a 21)), (1, .ref (a 53)), (2, .int (i2 p1))]) hx hb eX10_tree_24.2.2.1 rfl hl (by decide) rfl (fun ls hl => ?_)
    refine lv_iconst (v := 0) hx hb eX10_tree_24.2.2.2.1 (by decide) ?_
    refine lv_istore (lv' := [(5, .int 0), (3, .long (i8 (shlLZ 1 p1))), (0, .ref (a 21)), (1, .ref (a 53)), (2, .int (i2 p1))]) hx hb eX10_tree_24.2.2.2.2.1 hl (by decide) rfl (fun ls hl => ?_)
    exact J30 FU (shlLZ 1 p1, 0, s47) _ _ _ ⟨hP, hS, lv_sub hl [2, 3, 1, 0] rfl, h⟩
  · have h := if_f (mt (i2_le (x := 0) (y := p1) (by decide) hr43).mpr c44) h
    refine lv_lconst (v := 0) hx hb eX10_tree_0.2.2.2.2.2.1 (by decide) ?_
    obtain rfl := Option.some.inj h
    exact W.lret (v := 0) hx hb hr (fun t ht hW => ⟨⟨_, (), rfl, rfl, by rw [ht]; exact hP, va_K.moved hW.alike hK, hDD _⟩, hS.F ht⟩) hS.2.2 eX10_tree_0.2.2.2.2.2.2.1
