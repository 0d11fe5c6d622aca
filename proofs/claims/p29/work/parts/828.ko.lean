theorem co_X2_clear : Cond.code yX2_clear cX2_clear 1 none ∈ lw_gd := zm (lw_g_4 (List.mem_of_getElem? (i := 153) (by decide +kernel))) rfl
theorem co_X4_load : Cond.code yX4_load cX4_load 7 (some .boolean) ∈ lw_gd := zm (lw_g_6 (List.mem_of_getElem? (i := 89) (by decide +kernel))) rfl
theorem co_X5_addChange : Cond.code yX5_addChange cX5_addChange 5 none ∈ lw_gd := zm (lw_g_3 (List.mem_of_getElem? (i := 168) (by decide +kernel))) rfl
theorem co_X5_addVolume : Cond.code yX5_addVolume cX5_addVolume 5 (some .int) ∈ lw_gd := zm (lw_g_3 (List.mem_of_getElem? (i := 164) (by decide +kernel))) rfl
theorem co_X5_letterAt : Cond.code yX5_letterAt cX5_letterAt 3 (some .int) ∈ lw_gd := zm (lw_g_3 (List.mem_of_getElem? (i := 155) (by decide +kernel))) rfl
theorem co_X5_volumeNamed : Cond.code yX5_volumeNamed cX5_volumeNamed 7 (some .int) ∈ lw_gd := zm (lw_g_3 (List.mem_of_getElem? (i := 152) (by decide +kernel))) rfl
theorem co_X6_beginFormula : Cond.code yX6_beginFormula cX6_beginFormula 3 none ∈ lw_gd := zm (lw_g_3 (List.mem_of_getElem? (i := 176) (by decide +kernel))) rfl
theorem co_X6_expectVolume : Cond.code yX6_expectVolume cX6_expectVolume 3 (some .int) ∈ lw_gd := zm (lw_g_3 (List.mem_of_getElem? (i := 160) (by decide +kernel))) rfl
theorem co_X6_expectWord : Cond.code yX6_expectWord cX6_expectWord 2 none ∈ lw_gd := zm (lw_g_3 (List.mem_of_getElem? (i := 136) (by decide +kernel))) rfl
theorem co_X6_isName : Cond.code yX6_isName cX6_isName 1 (some .boolean) ∈ lw_gd := zm (lw_g_3 (List.mem_of_getElem? (i := 148) (by decide +kernel))) rfl
theorem co_X6_readBlocks : Cond.code yX6_readBlocks cX6_readBlocks 2 none ∈ lw_gd := zm (lw_g_3 (List.mem_of_getElem? (i := 128) (by decide +kernel))) rfl
theorem co_X6_readChange : Cond.code yX6_readChange cX6_readChange 6 none ∈ lw_gd := zm (lw_g_3 (List.mem_of_getElem? (i := 172) (by decide +kernel))) rfl
theorem co_X6_readVolume : Cond.code yX6_readVolume cX6_readVolume 6 none ∈ lw_gd := zm (lw_g_3 (List.mem_of_getElem? (i := 144) (by decide +kernel))) rfl
theorem fl_X11_345 : Cond.fieldLink RX11 345 "CloneVolumes$Forest" "inner" "LCloneVolumes$State;" ∈ lw_gd := zm (lw_g_2 (List.mem_of_getElem? (i := 236) (by decide +kernel))) rfl
theorem fl_X11_348 : Cond.fieldLink RX11 348 "CloneVolumes$Plan" "blocks" "I" ∈ lw_gd := zm (lw_g_2 (List.mem_of_getElem? (i := 36) (by decide +kernel))) rfl
theorem fl_X6_148 : Cond.fieldLink RX6 148 "CloneVolumes$Plan" "ends" "[I" ∈ lw_gd := zm (lw_g_2 (List.mem_of_getElem? (i := 70) (by decide +kernel))) rfl
theorem fl_X6_155 : Cond.fieldLink RX6 155 "CloneVolumes$Plan" "churn" "I" ∈ lw_gd := zm (lw_g_2 (List.mem_of_getElem? (i := 41) (by decide +kernel))) rfl
theorem fl_X6_162 : Cond.fieldLink RX6 162 "CloneVolumes$Plan" "blocks" "I" ∈ lw_gd := zm (lw_g_2 (List.mem_of_getElem? (i := 35) (by decide +kernel))) rfl
theorem fl_X6_168 : Cond.fieldLink RX6 168 "CloneVolumes$Plan" "entriesMost" "I" ∈ lw_gd := zm (lw_g_2 (List.mem_of_getElem? (i := 39) (by decide +kernel))) rfl
theorem fl_X6_171 : Cond.fieldLink RX6 171 "CloneVolumes$Plan" "volumes" "I" ∈ lw_gd := zm (lw_g_2 (List.mem_of_getElem? (i := 48) (by decide +kernel))) rfl
theorem fl_X6_185 : Cond.fieldLink RX6 185 "CloneVolumes$Plan" "begins" "[I" ∈ lw_gd := zm (lw_g_2 (List.mem_of_getElem? (i := 67) (by decide +kernel))) rfl
theorem fl_X6_58 : Cond.fieldLink RX6 58 "CloneVolumes$Plan" "statements" "I" ∈ lw_gd := zm (lw_g_2 (List.mem_of_getElem? (i := 44) (by decide +kernel))) rfl
theorem im_X2_clear : Cond.instanceMethod yX2_clear ∈ lw_gd := zm (lw_g_4 (List.mem_of_getElem? (i := 151) (by decide +kernel))) rfl
theorem im_X4_load : Cond.instanceMethod yX4_load ∈ lw_gd := zm (lw_g_6 (List.mem_of_getElem? (i := 87) (by decide +kernel))) rfl
theorem im_X5_addChange : Cond.instanceMethod yX5_addChange ∈ lw_gd := zm (lw_g_3 (List.mem_of_getElem? (i := 166) (by decide +kernel))) rfl
theorem im_X5_addVolume : Cond.instanceMethod yX5_addVolume ∈ lw_gd := zm (lw_g_3 (List.mem_of_getElem? (i := 162) (by decide +kernel))) rfl
theorem im_X5_volumeNamed : Cond.instanceMethod yX5_volumeNamed ∈ lw_gd := zm (lw_g_3 (List.mem_of_getElem? (i := 150) (by decide +kernel))) rfl
theorem im_X6_beginFormula : Cond.instanceMethod yX6_beginFormula ∈ lw_gd := zm (lw_g_3 (List.mem_of_getElem? (i := 175) (by decide +kernel))) rfl
theorem im_X6_expectVolume : Cond.instanceMethod yX6_expectVolume ∈ lw_gd := zm (lw_g_3 (List.mem_of_getElem? (i := 159) (by decide +kernel))) rfl
theorem im_X6_expectWord : Cond.instanceMethod yX6_expectWord ∈ lw_gd := zm (lw_g_3 (List.mem_of_getElem? (i := 135) (by decide +kernel))) rfl
theorem im_X6_isName : Cond.instanceMethod yX6_isName ∈ lw_gd := zm (lw_g_3 (List.mem_of_getElem? (i := 147) (by decide +kernel))) rfl
theorem im_X6_readBlocks : Cond.instanceMethod yX6_readBlocks ∈ lw_gd := zm (lw_g_3 (List.mem_of_getElem? (i := 127) (by decide +kernel))) rfl
theorem im_X6_readChange : Cond.instanceMethod yX6_readChange ∈ lw_gd := zm (lw_g_3 (List.mem_of_getElem? (i := 171) (by decide +kernel))) rfl
theorem im_X6_readVolume : Cond.instanceMethod yX6_readVolume ∈ lw_gd := zm (lw_g_3 (List.mem_of_getElem? (i := 143) (by decide +kernel))) rfl
theorem ml_X11_106 : Cond.methodLink RX11 106 yX2_clear ∈ lw_gd := zm (lw_g_4 (List.mem_of_getElem? (i := 150) (by decide +kernel))) rfl
theorem ml_X11_312 : Cond.methodLink RX11 312 yX8_become ∈ lw_gd := zm (lw_g_6 (List.mem_of_getElem? (i := 18) (by decide +kernel))) rfl
theorem ml_X11_349 : Cond.methodLink RX11 349 yX4_load ∈ lw_gd := zm (lw_g_6 (List.mem_of_getElem? (i := 86) (by decide +kernel))) rfl
theorem ml_X5_59 : Cond.methodLink RX5 59 yX5_letterAt ∈ lw_gd := zm (lw_g_3 (List.mem_of_getElem? (i := 153) (by decide +kernel))) rfl
theorem ml_X5_63 : Cond.methodLink RX5 63 yX9_at ∈ lw_gd := zm (lw_g_3 (List.mem_of_getElem? (i := 156) (by decide +kernel))) rfl
theorem ml_X6_127 : Cond.methodLink RX6 127 yX6_isName ∈ lw_gd := zm (lw_g_3 (List.mem_of_getElem? (i := 145) (by decide +kernel))) rfl
theorem ml_X6_131 : Cond.methodLink RX6 131 yX5_volumeNamed ∈ lw_gd := zm (lw_g_3 (List.mem_of_getElem? (i := 149) (by decide +kernel))) rfl
theorem ml_X6_135 : Cond.methodLink RX6 135 yX6_readBlocks ∈ lw_gd := zm (lw_g_3 (List.mem_of_getElem? (i := 125) (by decide +kernel))) rfl
theorem ml_X6_138 : Cond.methodLink RX6 138 yX6_readVolume ∈ lw_gd := zm (lw_g_3 (List.mem_of_getElem? (i := 141) (by decide +kernel))) rfl
theorem ml_X6_142 : Cond.methodLink RX6 142 yX6_readChange ∈ lw_gd := zm (lw_g_3 (List.mem_of_getElem? (i := 169) (by decide +kernel))) rfl
theorem ml_X6_145 : Cond.methodLink RX6 145 yX6_beginFormula ∈ lw_gd := zm (lw_g_3 (List.mem_of_getElem? (i := 173) (by decide +kernel))) rfl
theorem ml_X6_165 : Cond.methodLink RX6 165 yX6_expectWord ∈ lw_gd := zm (lw_g_3 (List.mem_of_getElem? (i := 133) (by decide +kernel))) rfl
theorem ml_X6_174 : Cond.methodLink RX6 174 yX6_expectVolume ∈ lw_gd := zm (lw_g_3 (List.mem_of_getElem? (i := 157) (by decide +kernel))) rfl
theorem ml_X6_178 : Cond.methodLink RX6 178 yX5_addVolume ∈ lw_gd := zm (lw_g_3 (List.mem_of_getElem? (i := 161) (by decide +kernel))) rfl
theorem ml_X6_181 : Cond.methodLink RX6 181 yX5_addChange ∈ lw_gd := zm (lw_g_3 (List.mem_of_getElem? (i := 165) (by decide +kernel))) rfl
theorem se_X2_clear : Cond.selects RX2 yX2_clear yX2_clear ∈ lw_gd := zm (lw_g_4 (List.mem_of_getElem? (i := 152) (by decide +kernel))) rfl
theorem se_X4_load : Cond.selects RX4 yX4_load yX4_load ∈ lw_gd := zm (lw_g_6 (List.mem_of_getElem? (i := 88) (by decide +kernel))) rfl
theorem se_X5_addChange : Cond.selects RX5 yX5_addChange yX5_addChange ∈ lw_gd := zm (lw_g_3 (List.mem_of_getElem? (i := 167) (by decide +kernel))) rfl
theorem se_X5_addVolume : Cond.selects RX5 yX5_addVolume yX5_addVolume ∈ lw_gd := zm (lw_g_3 (List.mem_of_getElem? (i := 163) (by decide +kernel))) rfl
theorem se_X5_volumeNamed : Cond.selects RX5 yX5_volumeNamed yX5_volumeNamed ∈ lw_gd := zm (lw_g_3 (List.mem_of_getElem? (i := 151) (by decide +kernel))) rfl
theorem se_X6_beginFormula : Cond.selects RX6 yX6_beginFormula yX6_beginFormula ∈ lw_gd := zm (List.mem_of_getElem? (i := 14) (by decide +kernel)) rfl
theorem se_X6_expectVolume : Cond.selects RX6 yX6_expectVolume yX6_expectVolume ∈ lw_gd := zm (List.mem_of_getElem? (i := 12) (by decide +kernel)) rfl
theorem se_X6_expectWord : Cond.selects RX6 yX6_expectWord yX6_expectWord ∈ lw_gd := zm (List.mem_of_getElem? (i := 8) (by decide +kernel)) rfl
theorem se_X6_isName : Cond.selects RX6 yX6_isName yX6_isName ∈ lw_gd := zm (List.mem_of_getElem? (i := 11) (by decide +kernel)) rfl
theorem se_X6_readBlocks : Cond.selects RX6 yX6_readBlocks yX6_readBlocks ∈ lw_gd := zm (List.mem_of_getElem? (i := 6) (by decide +kernel)) rfl
theorem se_X6_readChange : Cond.selects RX6 yX6_readChange yX6_readChange ∈ lw_gd := zm (List.mem_of_getElem? (i := 13) (by decide +kernel)) rfl
theorem se_X6_readVolume : Cond.selects RX6 yX6_readVolume yX6_readVolume ∈ lw_gd := zm (List.mem_of_getElem? (i := 10) (by decide +kernel)) rfl
theorem st_X5_letterAt : Cond.static yX5_letterAt ∈ lw_gd := zm (lw_g_3 (List.mem_of_getElem? (i := 154) (by decide +kernel))) rfl
theorem eX11_on_0 : decode cX11_on 0 = .ok (.aload_n 0, 1) ∧ decode cX11_on 1 = .ok (.getfield 112, 3) ∧ decode cX11_on 4 = .ok (.ifCond .eq 42, 3) ∧ decode cX11_on 7 = .ok (.aload_n 0, 1) ∧ decode cX11_on 8 = .ok (.getfield 42, 3) ∧ decode cX11_on 11 = .ok (.aload_n 0, 1) ∧ decode cX11_on 12 = .ok (.getfield 12, 3) ∧ decode cX11_on 15 = .ok (.aload_n 0, 1) := by decide +kernel
theorem eX11_on_16 : decode cX11_on 16 = .ok (.getfield 79, 3) ∧ decode cX11_on 19 = .ok (.getfield 345, 3) ∧ decode cX11_on 22 = .ok (.aload_n 0, 1) ∧ decode cX11_on 23 = .ok (.getfield 67, 3) ∧ decode cX11_on 26 = .ok (.getfield 348, 3) ∧ decode cX11_on 29 = .ok (.aload_n 0, 1) ∧ decode cX11_on 30 = .ok (.getfield 67, 3) ∧ decode cX11_on 33 = .ok (.getfield 153, 3) := by decide +kernel
theorem eX11_on_36 : decode cX11_on 36 = .ok (.invokevirtual 349, 3) ∧ decode cX11_on 39 = .ok (.ifCond .eq 7, 3) ∧ decode cX11_on 42 = .ok (.iconst 1, 1) ∧ decode cX11_on 43 = .ok (.goto 4, 3) ∧ decode cX11_on 46 = .ok (.iconst 0, 1) ∧ decode cX11_on 47 = .ok (.istore_n 1, 1) ∧ decode cX11_on 48 = .ok (.aload_n 0, 1) ∧ decode cX11_on 49 = .ok (.getfield 12, 3) := by decide +kernel
theorem eX11_on_52 : decode cX11_on 52 = .ok (.iconst 0, 1) ∧ decode cX11_on 53 = .ok (.putfield 95, 3) ∧ decode cX11_on 56 = .ok (.iload_n 1, 1) ∧ decode cX11_on 57 = .ok (.ifCond .ne 11, 3) ∧ decode cX11_on 60 = .ok (.aload_n 0, 1) ∧ decode cX11_on 61 = .ok (.iconst 5, 1) ∧ decode cX11_on 62 = .ok (.invokevirtual 87, 3) ∧ decode cX11_on 65 = .ok (.pop, 1) := by decide +kernel
theorem eX11_on_66 : decode cX11_on 66 = .ok (.iconst 0, 1) ∧ decode cX11_on 67 = .ok (.ireturn, 1) ∧ decode cX11_on 68 = .ok (.aload_n 0, 1) ∧ decode cX11_on 69 = .ok (.getfield 79, 3) ∧ decode cX11_on 72 = .ok (.getfield 125, 3) ∧ decode cX11_on 75 = .ok (.aload_n 0, 1) ∧ decode cX11_on 76 = .ok (.getfield 79, 3) ∧ decode cX11_on 79 = .ok (.getfield 345, 3) := by decide +kernel
theorem eX11_on_82 : decode cX11_on 82 = .ok (.invokevirtual 312, 3) ∧ decode cX11_on 85 = .ok (.aload_n 0, 1) ∧ decode cX11_on 86 = .ok (.getfield 28, 3) ∧ decode cX11_on 89 = .ok (.invokevirtual 106, 3) ∧ decode cX11_on 92 = .ok (.iconst 1, 1) ∧ decode cX11_on 93 = .ok (.ireturn, 1) ∧ decode cX11_status 0 = .ok (.iload_n 1, 1) ∧ decode cX11_status 1 = .ok (.ifCond .lt 18, 3) := by decide +kernel
theorem eX11_status_4 : decode cX11_status 4 = .ok (.iload_n 1, 1) ∧ decode cX11_status 5 = .ok (.bipush 6, 2) ∧ decode cX11_status 7 = .ok (.if_icmp .ge 12, 3) ∧ decode cX11_status 10 = .ok (.aload_n 0, 1) ∧ decode cX11_status 11 = .ok (.getfield 60, 3) ∧ decode cX11_status 14 = .ok (.iload_n 1, 1) ∧ decode cX11_status 15 = .ok (.iaload, 1) ∧ decode cX11_status 16 = .ok (.goto 4, 3) := by decide +kernel
theorem eX11_status_19 : decode cX11_status 19 = .ok (.iconst (-1), 1) ∧ decode cX11_status 20 = .ok (.ireturn, 1) ∧ decode cX5_addChange 0 = .ok (.aload_n 0, 1) ∧ decode cX5_addChange 1 = .ok (.getfield 50, 3) ∧ decode cX5_addChange 4 = .ok (.bipush 60, 2) ∧ decode cX5_addChange 6 = .ok (.if_icmp .ge 54, 3) ∧ decode cX5_addChange 9 = .ok (.aload_n 0, 1) ∧ decode cX5_addChange 10 = .ok (.getfield 15, 3) := by decide +kernel
theorem eX5_addChange_13 : decode cX5_addChange 13 = .ok (.aload_n 0, 1) ∧ decode cX5_addChange 14 = .ok (.getfield 50, 3) ∧ decode cX5_addChange 17 = .ok (.iload_n 1, 1) ∧ decode cX5_addChange 18 = .ok (.iastore, 1) ∧ decode cX5_addChange 19 = .ok (.aload_n 0, 1) ∧ decode cX5_addChange 20 = .ok (.getfield 18, 3) ∧ decode cX5_addChange 23 = .ok (.aload_n 0, 1) ∧ decode cX5_addChange 24 = .ok (.getfield 50, 3) := by decide +kernel
theorem eX5_addChange_27 : decode cX5_addChange 27 = .ok (.iload_n 2, 1) ∧ decode cX5_addChange 28 = .ok (.iastore, 1) ∧ decode cX5_addChange 29 = .ok (.aload_n 0, 1) ∧ decode cX5_addChange 30 = .ok (.getfield 21, 3) ∧ decode cX5_addChange 33 = .ok (.aload_n 0, 1) ∧ decode cX5_addChange 34 = .ok (.getfield 50, 3) ∧ decode cX5_addChange 37 = .ok (.iload_n 3, 1) ∧ decode cX5_addChange 38 = .ok (.iastore, 1) := by decide +kernel
theorem eX5_addChange_39 : decode cX5_addChange 39 = .ok (.aload_n 0, 1) ∧ decode cX5_addChange 40 = .ok (.getfield 24, 3) ∧ decode cX5_addChange 43 = .ok (.aload_n 0, 1) ∧ decode cX5_addChange 44 = .ok (.getfield 50, 3) ∧ decode cX5_addChange 47 = .ok (.iload 4, 2) ∧ decode cX5_addChange 49 = .ok (.iastore, 1) ∧ decode cX5_addChange 50 = .ok (.aload_n 0, 1) ∧ decode cX5_addChange 51 = .ok (.dup, 1) := by decide +kernel
theorem eX5_addChange_52 : decode cX5_addChange 52 = .ok (.getfield 50, 3) ∧ decode cX5_addChange 55 = .ok (.iconst 1, 1) ∧ decode cX5_addChange 56 = .ok (.iadd, 1) ∧ decode cX5_addChange 57 = .ok (.putfield 50, 3) ∧ decode cX5_addChange 60 = .ok (.return_, 1) ∧ decode cX5_addVolume 0 = .ok (.aload_n 0, 1) ∧ decode cX5_addVolume 1 = .ok (.getfield 47, 3) ∧ decode cX5_addVolume 4 = .ok (.bipush 8, 2) := by decide +kernel
theorem eX5_addVolume_6 : decode cX5_addVolume 6 = .ok (.if_icmp .lt 5, 3) ∧ decode cX5_addVolume 9 = .ok (.iconst (-1), 1) ∧ decode cX5_addVolume 10 = .ok (.ireturn, 1) ∧ decode cX5_addVolume 11 = .ok (.iconst 0, 1) ∧ decode cX5_addVolume 12 = .ok (.istore 4, 2) ∧ decode cX5_addVolume 14 = .ok (.iload 4, 2) ∧ decode cX5_addVolume 16 = .ok (.bipush 6, 2) ∧ decode cX5_addVolume 18 = .ok (.if_icmp .ge 33, 3) := by decide +kernel
theorem eX5_addVolume_21 : decode cX5_addVolume 21 = .ok (.aload_n 0, 1) ∧ decode cX5_addVolume 22 = .ok (.getfield 9, 3) ∧ decode cX5_addVolume 25 = .ok (.aload_n 0, 1) ∧ decode cX5_addVolume 26 = .ok (.getfield 47, 3) ∧ decode cX5_addVolume 29 = .ok (.bipush 6, 2) ∧ decode cX5_addVolume 31 = .ok (.imul, 1) ∧ decode cX5_addVolume 32 = .ok (.iload 4, 2) ∧ decode cX5_addVolume 34 = .ok (.iadd, 1) := by decide +kernel
theorem eX5_addVolume_35 : decode cX5_addVolume 35 = .ok (.aload_n 1, 1) ∧ decode cX5_addVolume 36 = .ok (.iload_n 2, 1) ∧ decode cX5_addVolume 37 = .ok (.iload 4, 2) ∧ decode cX5_addVolume 39 = .ok (.iadd, 1) ∧ decode cX5_addVolume 40 = .ok (.iload_n 3, 1) ∧ decode cX5_addVolume 41 = .ok (.invokestatic 59, 3) ∧ decode cX5_addVolume 44 = .ok (.iastore, 1) ∧ decode cX5_addVolume 45 = .ok (.iinc 4 1, 3) := by decide +kernel
theorem eX5_addVolume_48 : decode cX5_addVolume 48 = .ok (.goto (-34), 3) ∧ decode cX5_addVolume 51 = .ok (.aload_n 0, 1) ∧ decode cX5_addVolume 52 = .ok (.dup, 1) ∧ decode cX5_addVolume 53 = .ok (.getfield 47, 3) ∧ decode cX5_addVolume 56 = .ok (.iconst 1, 1) ∧ decode cX5_addVolume 57 = .ok (.iadd, 1) ∧ decode cX5_addVolume 58 = .ok (.putfield 47, 3) ∧ decode cX5_addVolume 61 = .ok (.aload_n 0, 1) := by decide +kernel
theorem eX5_addVolume_62 : decode cX5_addVolume 62 = .ok (.getfield 47, 3) ∧ decode cX5_addVolume 65 = .ok (.iconst 1, 1) ∧ decode cX5_addVolume 66 = .ok (.isub, 1) ∧ decode cX5_addVolume 67 = .ok (.ireturn, 1) ∧ decode cX5_letterAt 0 = .ok (.iload_n 1, 1) ∧ decode cX5_letterAt 1 = .ok (.iload_n 2, 1) ∧ decode cX5_letterAt 2 = .ok (.if_icmp .ge 16, 3) ∧ decode cX5_letterAt 5 = .ok (.aload_n 0, 1) := by decide +kernel
theorem eX5_letterAt_6 : decode cX5_letterAt 6 = .ok (.iload_n 1, 1) ∧ decode cX5_letterAt 7 = .ok (.invokevirtual 63, 3) ∧ decode cX5_letterAt 10 = .ok (.bipush 97, 2) ∧ decode cX5_letterAt 12 = .ok (.isub, 1) ∧ decode cX5_letterAt 13 = .ok (.iconst 1, 1) ∧ decode cX5_letterAt 14 = .ok (.iadd, 1) ∧ decode cX5_letterAt 15 = .ok (.goto 4, 3) ∧ decode cX5_letterAt 18 = .ok (.iconst 0, 1) := by decide +kernel
theorem eX5_letterAt_19 : decode cX5_letterAt 19 = .ok (.ireturn, 1) ∧ decode cX5_volumeNamed 0 = .ok (.iconst 0, 1) ∧ decode cX5_volumeNamed 1 = .ok (.istore 4, 2) ∧ decode cX5_volumeNamed 3 = .ok (.iload 4, 2) ∧ decode cX5_volumeNamed 5 = .ok (.aload_n 0, 1) ∧ decode cX5_volumeNamed 6 = .ok (.getfield 47, 3) ∧ decode cX5_volumeNamed 9 = .ok (.if_icmp .ge 73, 3) ∧ decode cX5_volumeNamed 12 = .ok (.iconst 1, 1) := by decide +kernel
theorem eX5_volumeNamed_13 : decode cX5_volumeNamed 13 = .ok (.istore 5, 2) ∧ decode cX5_volumeNamed 15 = .ok (.iconst 0, 1) ∧ decode cX5_volumeNamed 16 = .ok (.istore 6, 2) ∧ decode cX5_volumeNamed 18 = .ok (.iload 6, 2) ∧ decode cX5_volumeNamed 20 = .ok (.bipush 6, 2) ∧ decode cX5_volumeNamed 22 = .ok (.if_icmp .ge 46, 3) ∧ decode cX5_volumeNamed 25 = .ok (.iload 5, 2) ∧ decode cX5_volumeNamed 27 = .ok (.ifCond .eq 32, 3) := by decide +kernel
theorem eX5_volumeNamed_30 : decode cX5_volumeNamed 30 = .ok (.aload_n 0, 1) ∧ decode cX5_volumeNamed 31 = .ok (.getfield 9, 3) ∧ decode cX5_volumeNamed 34 = .ok (.iload 4, 2) ∧ decode cX5_volumeNamed 36 = .ok (.bipush 6, 2) ∧ decode cX5_volumeNamed 38 = .ok (.imul, 1) ∧ decode cX5_volumeNamed 39 = .ok (.iload 6, 2) ∧ decode cX5_volumeNamed 41 = .ok (.iadd, 1) ∧ decode cX5_volumeNamed 42 = .ok (.iaload, 1) := by decide +kernel
theorem eX5_volumeNamed_43 : decode cX5_volumeNamed 43 = .ok (.aload_n 1, 1) ∧ decode cX5_volumeNamed 44 = .ok (.iload_n 2, 1) ∧ decode cX5_volumeNamed 45 = .ok (.iload 6, 2) ∧ decode cX5_volumeNamed 47 = .ok (.iadd, 1) ∧ decode cX5_volumeNamed 48 = .ok (.iload_n 3, 1) ∧ decode cX5_volumeNamed 49 = .ok (.invokestatic 59, 3) ∧ decode cX5_volumeNamed 52 = .ok (.if_icmp .ne 7, 3) ∧ decode cX5_volumeNamed 55 = .ok (.iconst 1, 1) := by decide +kernel
theorem eX5_volumeNamed_56 : decode cX5_volumeNamed 56 = .ok (.goto 4, 3) ∧ decode cX5_volumeNamed 59 = .ok (.iconst 0, 1) ∧ decode cX5_volumeNamed 60 = .ok (.istore 5, 2) ∧ decode cX5_volumeNamed 62 = .ok (.iinc 6 1, 3) ∧ decode cX5_volumeNamed 65 = .ok (.goto (-47), 3) ∧ decode cX5_volumeNamed 68 = .ok (.iload 5, 2) ∧ decode cX5_volumeNamed 70 = .ok (.ifCond .eq 6, 3) ∧ decode cX5_volumeNamed 73 = .ok (.iload 4, 2) := by decide +kernel
theorem eX5_volumeNamed_75 : decode cX5_volumeNamed 75 = .ok (.ireturn, 1) ∧ decode cX5_volumeNamed 76 = .ok (.iinc 4 1, 3) ∧ decode cX5_volumeNamed 79 = .ok (.goto (-76), 3) ∧ decode cX5_volumeNamed 82 = .ok (.iconst (-1), 1) ∧ decode cX5_volumeNamed 83 = .ok (.ireturn, 1) ∧ decode cX6_beginFormula 0 = .ok (.aload_n 1, 1) ∧ decode cX6_beginFormula 1 = .ok (.getfield 185, 3) ∧ decode cX6_beginFormula 4 = .ok (.iload_n 2, 1) := by decide +kernel
theorem eX6_beginFormula_5 : decode cX6_beginFormula 5 = .ok (.iaload, 1) ∧ decode cX6_beginFormula 6 = .ok (.iconst (-1), 1) ∧ decode cX6_beginFormula 7 = .ok (.if_icmp .eq 13, 3) ∧ decode cX6_beginFormula 10 = .ok (.aload_n 0, 1) ∧ decode cX6_beginFormula 11 = .ok (.iconst 5, 1) ∧ decode cX6_beginFormula 12 = .ok (.aload_n 0, 1) ∧ decode cX6_beginFormula 13 = .ok (.getfield 51, 3) ∧ decode cX6_beginFormula 16 = .ok (.invokevirtual 54, 3) := by decide +kernel
theorem eX6_beginFormula_19 : decode cX6_beginFormula 19 = .ok (.pop, 1) ∧ decode cX6_beginFormula 20 = .ok (.aload_n 0, 1) ∧ decode cX6_beginFormula 21 = .ok (.invokevirtual 75, 3) ∧ decode cX6_beginFormula 24 = .ok (.aload_n 0, 1) ∧ decode cX6_beginFormula 25 = .ok (.iload_n 2, 1) ∧ decode cX6_beginFormula 26 = .ok (.putfield 69, 3) ∧ decode cX6_beginFormula 29 = .ok (.aload_n 1, 1) ∧ decode cX6_beginFormula 30 = .ok (.getfield 185, 3) := by decide +kernel
theorem eX6_beginFormula_33 : decode cX6_beginFormula 33 = .ok (.iload_n 2, 1) ∧ decode cX6_beginFormula 34 = .ok (.aload_n 0, 1) ∧ decode cX6_beginFormula 35 = .ok (.getfield 84, 3) ∧ decode cX6_beginFormula 38 = .ok (.getfield 64, 3) ∧ decode cX6_beginFormula 41 = .ok (.iastore, 1) ∧ decode cX6_beginFormula 42 = .ok (.return_, 1) ∧ decode cX6_expectVolume 0 = .ok (.aload_n 0, 1) ∧ decode cX6_expectVolume 1 = .ok (.invokevirtual 127, 3) := by decide +kernel
theorem eX6_expectVolume_4 : decode cX6_expectVolume 4 = .ok (.ifCond .ne 5, 3) ∧ decode cX6_expectVolume 7 = .ok (.iconst (-1), 1) ∧ decode cX6_expectVolume 8 = .ok (.ireturn, 1) ∧ decode cX6_expectVolume 9 = .ok (.aload_n 1, 1) ∧ decode cX6_expectVolume 10 = .ok (.aload_n 0, 1) ∧ decode cX6_expectVolume 11 = .ok (.getfield 27, 3) ∧ decode cX6_expectVolume 14 = .ok (.aload_n 0, 1) ∧ decode cX6_expectVolume 15 = .ok (.getfield 51, 3) := by decide +kernel
theorem eX6_expectVolume_18 : decode cX6_expectVolume 18 = .ok (.aload_n 0, 1) ∧ decode cX6_expectVolume 19 = .ok (.getfield 88, 3) ∧ decode cX6_expectVolume 22 = .ok (.invokevirtual 131, 3) ∧ decode cX6_expectVolume 25 = .ok (.istore_n 2, 1) ∧ decode cX6_expectVolume 26 = .ok (.iload_n 2, 1) ∧ decode cX6_expectVolume 27 = .ok (.iconst (-1), 1) ∧ decode cX6_expectVolume 28 = .ok (.if_icmp .ne 13, 3) ∧ decode cX6_expectVolume 31 = .ok (.aload_n 0, 1) := by decide +kernel
theorem eX6_expectVolume_32 : decode cX6_expectVolume 32 = .ok (.iconst 3, 1) ∧ decode cX6_expectVolume 33 = .ok (.aload_n 0, 1) ∧ decode cX6_expectVolume 34 = .ok (.getfield 51, 3) ∧ decode cX6_expectVolume 37 = .ok (.invokevirtual 54, 3) ∧ decode cX6_expectVolume 40 = .ok (.pop, 1) ∧ decode cX6_expectVolume 41 = .ok (.aload_n 0, 1) ∧ decode cX6_expectVolume 42 = .ok (.invokevirtual 75, 3) ∧ decode cX6_expectVolume 45 = .ok (.iload_n 2, 1) := by decide +kernel
theorem eX6_expectVolume_46 : decode cX6_expectVolume 46 = .ok (.ireturn, 1) ∧ decode cX6_expectWord 0 = .ok (.aload_n 0, 1) ∧ decode cX6_expectWord 1 = .ok (.iload_n 1, 1) ∧ decode cX6_expectWord 2 = .ok (.invokevirtual 121, 3) ∧ decode cX6_expectWord 5 = .ok (.ifCond .eq 10, 3) ∧ decode cX6_expectWord 8 = .ok (.aload_n 0, 1) ∧ decode cX6_expectWord 9 = .ok (.invokevirtual 75, 3) ∧ decode cX6_expectWord 12 = .ok (.goto 13, 3) := by decide +kernel
theorem eX6_expectWord_15 : decode cX6_expectWord 15 = .ok (.aload_n 0, 1) ∧ decode cX6_expectWord 16 = .ok (.iconst 1, 1) ∧ decode cX6_expectWord 17 = .ok (.aload_n 0, 1) ∧ decode cX6_expectWord 18 = .ok (.getfield 51, 3) ∧ decode cX6_expectWord 21 = .ok (.invokevirtual 54, 3) ∧ decode cX6_expectWord 24 = .ok (.pop, 1) ∧ decode cX6_expectWord 25 = .ok (.return_, 1) ∧ decode cX6_isName 0 = .ok (.aload_n 0, 1) := by decide +kernel
theorem eX6_isName_1 : decode cX6_isName 1 = .ok (.getfield 44, 3) ∧ decode cX6_isName 4 = .ok (.iconst 1, 1) ∧ decode cX6_isName 5 = .ok (.if_icmp .ne 20, 3) ∧ decode cX6_isName 8 = .ok (.aload_n 0, 1) ∧ decode cX6_isName 9 = .ok (.getfield 72, 3) ∧ decode cX6_isName 12 = .ok (.iconst (-1), 1) ∧ decode cX6_isName 13 = .ok (.if_icmp .eq 22, 3) ∧ decode cX6_isName 16 = .ok (.aload_n 0, 1) := by decide +kernel
theorem eX6_isName_17 : decode cX6_isName 17 = .ok (.getfield 72, 3) ∧ decode cX6_isName 20 = .ok (.bipush 27, 2) ∧ decode cX6_isName 22 = .ok (.if_icmp .ge 13, 3) ∧ decode cX6_isName 25 = .ok (.aload_n 0, 1) ∧ decode cX6_isName 26 = .ok (.iconst 1, 1) ∧ decode cX6_isName 27 = .ok (.aload_n 0, 1) ∧ decode cX6_isName 28 = .ok (.getfield 51, 3) ∧ decode cX6_isName 31 = .ok (.invokevirtual 54, 3) := by decide +kernel
theorem eX6_isName_34 : decode cX6_isName 34 = .ok (.ireturn, 1) ∧ decode cX6_isName 35 = .ok (.aload_n 0, 1) ∧ decode cX6_isName 36 = .ok (.getfield 88, 3) ∧ decode cX6_isName 39 = .ok (.aload_n 0, 1) ∧ decode cX6_isName 40 = .ok (.getfield 51, 3) ∧ decode cX6_isName 43 = .ok (.isub, 1) ∧ decode cX6_isName 44 = .ok (.bipush 6, 2) ∧ decode cX6_isName 46 = .ok (.if_icmp .le 18, 3) := by decide +kernel
theorem eX6_isName_49 : decode cX6_isName 49 = .ok (.aload_n 0, 1) ∧ decode cX6_isName 50 = .ok (.iconst 1, 1) ∧ decode cX6_isName 51 = .ok (.aload_n 0, 1) ∧ decode cX6_isName 52 = .ok (.getfield 51, 3) ∧ decode cX6_isName 55 = .ok (.bipush 6, 2) ∧ decode cX6_isName 57 = .ok (.iadd, 1) ∧ decode cX6_isName 58 = .ok (.invokevirtual 54, 3) ∧ decode cX6_isName 61 = .ok (.ifCond .eq 7, 3) := by decide +kernel
theorem eX6_isName_64 : decode cX6_isName 64 = .ok (.iconst 1, 1) ∧ decode cX6_isName 65 = .ok (.goto 4, 3) ∧ decode cX6_isName 68 = .ok (.iconst 0, 1) ∧ decode cX6_isName 69 = .ok (.ireturn, 1) ∧ decode cX6_readBlocks 0 = .ok (.aload_n 0, 1) ∧ decode cX6_readBlocks 1 = .ok (.invokevirtual 75, 3) ∧ decode cX6_readBlocks 4 = .ok (.aload_n 1, 1) ∧ decode cX6_readBlocks 5 = .ok (.aload_n 0, 1) := by decide +kernel
theorem eX6_readBlocks_6 : decode cX6_readBlocks 6 = .ok (.bipush 8, 2) ∧ decode cX6_readBlocks 8 = .ok (.bipush 48, 2) ∧ decode cX6_readBlocks 10 = .ok (.invokevirtual 151, 3) ∧ decode cX6_readBlocks 13 = .ok (.putfield 162, 3) ∧ decode cX6_readBlocks 16 = .ok (.aload_n 0, 1) ∧ decode cX6_readBlocks 17 = .ok (.iconst 1, 1) ∧ decode cX6_readBlocks 18 = .ok (.invokevirtual 165, 3) ∧ decode cX6_readBlocks 21 = .ok (.aload_n 1, 1) := by decide +kernel
theorem eX6_readBlocks_22 : decode cX6_readBlocks 22 = .ok (.aload_n 0, 1) ∧ decode cX6_readBlocks 23 = .ok (.iconst 3, 1) ∧ decode cX6_readBlocks 24 = .ok (.bipush 6, 2) ∧ decode cX6_readBlocks 26 = .ok (.invokevirtual 151, 3) ∧ decode cX6_readBlocks 29 = .ok (.putfield 168, 3) ∧ decode cX6_readBlocks 32 = .ok (.return_, 1) ∧ decode cX6_readChange 0 = .ok (.aload_n 0, 1) ∧ decode cX6_readChange 1 = .ok (.invokevirtual 75, 3) := by decide +kernel
theorem eX6_readChange_4 : decode cX6_readChange 4 = .ok (.aload_n 0, 1) ∧ decode cX6_readChange 5 = .ok (.aload_n 1, 1) ∧ decode cX6_readChange 6 = .ok (.invokevirtual 174, 3) ∧ decode cX6_readChange 9 = .ok (.istore_n 3, 1) ∧ decode cX6_readChange 10 = .ok (.aload_n 0, 1) ∧ decode cX6_readChange 11 = .ok (.iconst 0, 1) ∧ decode cX6_readChange 12 = .ok (.sipush 999, 3) ∧ decode cX6_readChange 15 = .ok (.invokevirtual 151, 3) := by decide +kernel
theorem eX6_readChange_18 : decode cX6_readChange 18 = .ok (.istore 4, 2) ∧ decode cX6_readChange 20 = .ok (.iload_n 2, 1) ∧ decode cX6_readChange 21 = .ok (.iconst 5, 1) ∧ decode cX6_readChange 22 = .ok (.if_icmp .ne 14, 3) ∧ decode cX6_readChange 25 = .ok (.aload_n 0, 1) ∧ decode cX6_readChange 26 = .ok (.iconst 0, 1) ∧ decode cX6_readChange 27 = .ok (.sipush 999, 3) ∧ decode cX6_readChange 30 = .ok (.invokevirtual 151, 3) := by decide +kernel
theorem eX6_readChange_33 : decode cX6_readChange 33 = .ok (.goto 4, 3) ∧ decode cX6_readChange 36 = .ok (.iconst 0, 1) ∧ decode cX6_readChange 37 = .ok (.istore 5, 2) ∧ decode cX6_readChange 39 = .ok (.aload_n 1, 1) ∧ decode cX6_readChange 40 = .ok (.iload_n 2, 1) ∧ decode cX6_readChange 41 = .ok (.iload_n 3, 1) ∧ decode cX6_readChange 42 = .ok (.iload 4, 2) ∧ decode cX6_readChange 44 = .ok (.iload 5, 2) := by decide +kernel
theorem eX6_readChange_46 : decode cX6_readChange 46 = .ok (.invokevirtual 181, 3) ∧ decode cX6_readChange 49 = .ok (.return_, 1) ∧ decode cX6_readStatement 0 = .ok (.aload_n 0, 1) ∧ decode cX6_readStatement 1 = .ok (.getfield 44, 3) ∧ decode cX6_readStatement 4 = .ok (.iconst 1, 1) ∧ decode cX6_readStatement 5 = .ok (.if_icmp .ne 10, 3) ∧ decode cX6_readStatement 8 = .ok (.aload_n 0, 1) ∧ decode cX6_readStatement 9 = .ok (.getfield 72, 3) := by decide +kernel
theorem eX6_readStatement_12 : decode cX6_readStatement 12 = .ok (.goto 4, 3) ∧ decode cX6_readStatement 15 = .ok (.iconst (-1), 1) ∧ decode cX6_readStatement 16 = .ok (.istore_n 2, 1) ∧ decode cX6_readStatement 17 = .ok (.aload_n 1, 1) ∧ decode cX6_readStatement 18 = .ok (.getfield 58, 3) ∧ decode cX6_readStatement 21 = .ok (.ifCond .ne 7, 3) ∧ decode cX6_readStatement 24 = .ok (.iconst 1, 1) ∧ decode cX6_readStatement 25 = .ok (.goto 4, 3) := by decide +kernel
theorem eX6_readStatement_28 : decode cX6_readStatement 28 = .ok (.iconst 0, 1) ∧ decode cX6_readStatement 29 = .ok (.istore_n 3, 1) ∧ decode cX6_readStatement 30 = .ok (.iload_n 3, 1) ∧ decode cX6_readStatement 31 = .ok (.iload_n 2, 1) ∧ decode cX6_readStatement 32 = .ok (.ifCond .ne 7, 3) ∧ decode cX6_readStatement 35 = .ok (.iconst 1, 1) ∧ decode cX6_readStatement 36 = .ok (.goto 4, 3) ∧ decode cX6_readStatement 39 = .ok (.iconst 0, 1) := by decide +kernel
theorem eX6_readStatement_40 : decode cX6_readStatement 40 = .ok (.if_icmp .eq 14, 3) ∧ decode cX6_readStatement 43 = .ok (.aload_n 0, 1) ∧ decode cX6_readStatement 44 = .ok (.iconst 1, 1) ∧ decode cX6_readStatement 45 = .ok (.aload_n 0, 1) ∧ decode cX6_readStatement 46 = .ok (.getfield 51, 3) ∧ decode cX6_readStatement 49 = .ok (.invokevirtual 54, 3) ∧ decode cX6_readStatement 52 = .ok (.pop, 1) ∧ decode cX6_readStatement 53 = .ok (.return_, 1) := by decide +kernel
theorem eX6_readStatement_54 : decode cX6_readStatement 54 = .ok (.iload_n 2, 1) ∧ decode cX6_readStatement 55 = .ok (.tableswitch 179 0 10 #[57, 179, 65, 65, 179, 74, 74, 83, 109, 135, 161], 57) ∧ decode cX6_readStatement 112 = .ok (.aload_n 0, 1) ∧ decode cX6_readStatement 113 = .ok (.aload_n 1, 1) ∧ decode cX6_readStatement 114 = .ok (.invokevirtual 135, 3) ∧ decode cX6_readStatement 117 = .ok (.goto 127, 3) ∧ decode cX6_readStatement 120 = .ok (.aload_n 0, 1) ∧ decode cX6_readStatement 121 = .ok (.aload_n 1, 1) := by decide +kernel
theorem eX6_readStatement_122 : decode cX6_readStatement 122 = .ok (.iload_n 2, 1) ∧ decode cX6_readStatement 123 = .ok (.invokevirtual 138, 3) ∧ decode cX6_readStatement 126 = .ok (.goto 118, 3) ∧ decode cX6_readStatement 129 = .ok (.aload_n 0, 1) ∧ decode cX6_readStatement 130 = .ok (.aload_n 1, 1) ∧ decode cX6_readStatement 131 = .ok (.iload_n 2, 1) ∧ decode cX6_readStatement 132 = .ok (.invokevirtual 142, 3) ∧ decode cX6_readStatement 135 = .ok (.goto 109, 3) := by decide +kernel
theorem eX6_readStatement_138 : decode cX6_readStatement 138 = .ok (.aload_n 0, 1) ∧ decode cX6_readStatement 139 = .ok (.aload_n 1, 1) ∧ decode cX6_readStatement 140 = .ok (.iconst 0, 1) ∧ decode cX6_readStatement 141 = .ok (.invokevirtual 145, 3) ∧ decode cX6_readStatement 144 = .ok (.aload_n 0, 1) ∧ decode cX6_readStatement 145 = .ok (.invokevirtual 81, 3) ∧ decode cX6_readStatement 148 = .ok (.aload_n 1, 1) ∧ decode cX6_readStatement 149 = .ok (.getfield 148, 3) := by decide +kernel
theorem eX6_readStatement_152 : decode cX6_readStatement 152 = .ok (.iconst 0, 1) ∧ decode cX6_readStatement 153 = .ok (.aload_n 0, 1) ∧ decode cX6_readStatement 154 = .ok (.getfield 84, 3) ∧ decode cX6_readStatement 157 = .ok (.getfield 64, 3) ∧ decode cX6_readStatement 160 = .ok (.iastore, 1) ∧ decode cX6_readStatement 161 = .ok (.goto 83, 3) ∧ decode cX6_readStatement 164 = .ok (.aload_n 0, 1) ∧ decode cX6_readStatement 165 = .ok (.aload_n 1, 1) := by decide +kernel
theorem eX6_readStatement_166 : decode cX6_readStatement 166 = .ok (.iconst 1, 1) ∧ decode cX6_readStatement 167 = .ok (.invokevirtual 145, 3) ∧ decode cX6_readStatement 170 = .ok (.aload_n 0, 1) ∧ decode cX6_readStatement 171 = .ok (.invokevirtual 78, 3) ∧ decode cX6_readStatement 174 = .ok (.aload_n 1, 1) ∧ decode cX6_readStatement 175 = .ok (.getfield 148, 3) ∧ decode cX6_readStatement 178 = .ok (.iconst 1, 1) ∧ decode cX6_readStatement 179 = .ok (.aload_n 0, 1) := by decide +kernel
theorem eX6_readStatement_180 : decode cX6_readStatement 180 = .ok (.getfield 84, 3) ∧ decode cX6_readStatement 183 = .ok (.getfield 64, 3) ∧ decode cX6_readStatement 186 = .ok (.iastore, 1) ∧ decode cX6_readStatement 187 = .ok (.goto 57, 3) ∧ decode cX6_readStatement 190 = .ok (.aload_n 0, 1) ∧ decode cX6_readStatement 191 = .ok (.aload_n 1, 1) ∧ decode cX6_readStatement 192 = .ok (.iconst 2, 1) ∧ decode cX6_readStatement 193 = .ok (.invokevirtual 145, 3) := by decide +kernel
theorem eX6_readStatement_196 : decode cX6_readStatement 196 = .ok (.aload_n 0, 1) ∧ decode cX6_readStatement 197 = .ok (.invokevirtual 81, 3) ∧ decode cX6_readStatement 200 = .ok (.aload_n 1, 1) ∧ decode cX6_readStatement 201 = .ok (.getfield 148, 3) ∧ decode cX6_readStatement 204 = .ok (.iconst 2, 1) ∧ decode cX6_readStatement 205 = .ok (.aload_n 0, 1) ∧ decode cX6_readStatement 206 = .ok (.getfield 84, 3) ∧ decode cX6_readStatement 209 = .ok (.getfield 64, 3) := by decide +kernel
theorem eX6_readStatement_212 : decode cX6_readStatement 212 = .ok (.iastore, 1) ∧ decode cX6_readStatement 213 = .ok (.goto 31, 3) ∧ decode cX6_readStatement 216 = .ok (.aload_n 0, 1) ∧ decode cX6_readStatement 217 = .ok (.invokevirtual 75, 3) ∧ decode cX6_readStatement 220 = .ok (.aload_n 1, 1) ∧ decode cX6_readStatement 221 = .ok (.aload_n 0, 1) ∧ decode cX6_readStatement 222 = .ok (.iconst 0, 1) ∧ decode cX6_readStatement 223 = .ok (.bipush 100, 2) := by decide +kernel
theorem eX6_readStatement_225 : decode cX6_readStatement 225 = .ok (.invokevirtual 151, 3) ∧ decode cX6_readStatement 228 = .ok (.putfield 155, 3) ∧ decode cX6_readStatement 231 = .ok (.goto 13, 3) ∧ decode cX6_readStatement 234 = .ok (.aload_n 0, 1) ∧ decode cX6_readStatement 235 = .ok (.iconst 1, 1) ∧ decode cX6_readStatement 236 = .ok (.aload_n 0, 1) ∧ decode cX6_readStatement 237 = .ok (.getfield 51, 3) ∧ decode cX6_readStatement 240 = .ok (.invokevirtual 54, 3) := by decide +kernel
theorem eX6_readStatement_243 : decode cX6_readStatement 243 = .ok (.pop, 1) ∧ decode cX6_readStatement 244 = .ok (.aload_n 0, 1) ∧ decode cX6_readStatement 245 = .ok (.bipush 59, 2) ∧ decode cX6_readStatement 247 = .ok (.invokevirtual 158, 3) ∧ decode cX6_readStatement 250 = .ok (.aload_n 1, 1) ∧ decode cX6_readStatement 251 = .ok (.dup, 1) ∧ decode cX6_readStatement 252 = .ok (.getfield 58, 3) ∧ decode cX6_readStatement 255 = .ok (.iconst 1, 1) := by decide +kernel
theorem eX6_readStatement_256 : decode cX6_readStatement 256 = .ok (.iadd, 1) ∧ decode cX6_readStatement 257 = .ok (.putfield 58, 3) ∧ decode cX6_readStatement 260 = .ok (.return_, 1) ∧ decode cX6_readVolume 0 = .ok (.aload_n 1, 1) ∧ decode cX6_readVolume 1 = .ok (.getfield 171, 3) ∧ decode cX6_readVolume 4 = .ok (.bipush 8, 2) ∧ decode cX6_readVolume 6 = .ok (.if_icmp .ne 13, 3) ∧ decode cX6_readVolume 9 = .ok (.aload_n 0, 1) := by decide +kernel
theorem eX6_readVolume_10 : decode cX6_readVolume 10 = .ok (.iconst 5, 1) ∧ decode cX6_readVolume 11 = .ok (.aload_n 0, 1) ∧ decode cX6_readVolume 12 = .ok (.getfield 51, 3) ∧ decode cX6_readVolume 15 = .ok (.invokevirtual 54, 3) ∧ decode cX6_readVolume 18 = .ok (.pop, 1) ∧ decode cX6_readVolume 19 = .ok (.aload_n 0, 1) ∧ decode cX6_readVolume 20 = .ok (.invokevirtual 75, 3) ∧ decode cX6_readVolume 23 = .ok (.aload_n 0, 1) := by decide +kernel
theorem eX6_readVolume_24 : decode cX6_readVolume 24 = .ok (.invokevirtual 127, 3) ∧ decode cX6_readVolume 27 = .ok (.ifCond .ne 4, 3) ∧ decode cX6_readVolume 30 = .ok (.return_, 1) ∧ decode cX6_readVolume 31 = .ok (.aload_n 1, 1) ∧ decode cX6_readVolume 32 = .ok (.aload_n 0, 1) ∧ decode cX6_readVolume 33 = .ok (.getfield 27, 3) ∧ decode cX6_readVolume 36 = .ok (.aload_n 0, 1) ∧ decode cX6_readVolume 37 = .ok (.getfield 51, 3) := by decide +kernel
theorem eX6_readVolume_40 : decode cX6_readVolume 40 = .ok (.aload_n 0, 1) ∧ decode cX6_readVolume 41 = .ok (.getfield 88, 3) ∧ decode cX6_readVolume 44 = .ok (.invokevirtual 131, 3) ∧ decode cX6_readVolume 47 = .ok (.iconst (-1), 1) ∧ decode cX6_readVolume 48 = .ok (.if_icmp .eq 13, 3) ∧ decode cX6_readVolume 51 = .ok (.aload_n 0, 1) ∧ decode cX6_readVolume 52 = .ok (.iconst 3, 1) ∧ decode cX6_readVolume 53 = .ok (.aload_n 0, 1) := by decide +kernel
theorem eX6_readVolume_54 : decode cX6_readVolume 54 = .ok (.getfield 51, 3) ∧ decode cX6_readVolume 57 = .ok (.invokevirtual 54, 3) ∧ decode cX6_readVolume 60 = .ok (.pop, 1) ∧ decode cX6_readVolume 61 = .ok (.aload_n 0, 1) ∧ decode cX6_readVolume 62 = .ok (.getfield 51, 3) ∧ decode cX6_readVolume 65 = .ok (.istore_n 3, 1) ∧ decode cX6_readVolume 66 = .ok (.aload_n 0, 1) ∧ decode cX6_readVolume 67 = .ok (.getfield 88, 3) := by decide +kernel
theorem eX6_readVolume_70 : decode cX6_readVolume 70 = .ok (.istore 4, 2) ∧ decode cX6_readVolume 72 = .ok (.iconst (-1), 1) ∧ decode cX6_readVolume 73 = .ok (.istore 5, 2) ∧ decode cX6_readVolume 75 = .ok (.aload_n 0, 1) ∧ decode cX6_readVolume 76 = .ok (.invokevirtual 75, 3) ∧ decode cX6_readVolume 79 = .ok (.iload_n 2, 1) ∧ decode cX6_readVolume 80 = .ok (.iconst 3, 1) ∧ decode cX6_readVolume 81 = .ok (.if_icmp .ne 15, 3) := by decide +kernel
theorem eX6_readVolume_84 : decode cX6_readVolume 84 = .ok (.aload_n 0, 1) ∧ decode cX6_readVolume 85 = .ok (.iconst 4, 1) ∧ decode cX6_readVolume 86 = .ok (.invokevirtual 165, 3) ∧ decode cX6_readVolume 89 = .ok (.aload_n 0, 1) ∧ decode cX6_readVolume 90 = .ok (.aload_n 1, 1) ∧ decode cX6_readVolume 91 = .ok (.invokevirtual 174, 3) ∧ decode cX6_readVolume 94 = .ok (.istore 5, 2) ∧ decode cX6_readVolume 96 = .ok (.aload_n 1, 1) := by decide +kernel
theorem eX6_readVolume_97 : decode cX6_readVolume 97 = .ok (.iload_n 2, 1) ∧ decode cX6_readVolume 98 = .ok (.aload_n 1, 1) ∧ decode cX6_readVolume 99 = .ok (.aload_n 0, 1) ∧ decode cX6_readVolume 100 = .ok (.getfield 27, 3) ∧ decode cX6_readVolume 103 = .ok (.iload_n 3, 1) ∧ decode cX6_readVolume 104 = .ok (.iload 4, 2) ∧ decode cX6_readVolume 106 = .ok (.invokevirtual 178, 3) ∧ decode cX6_readVolume 109 = .ok (.iload 5, 2) := by decide +kernel
theorem eX6_readVolume_111 : decode cX6_readVolume 111 = .ok (.iconst 0, 1) ∧ decode cX6_readVolume 112 = .ok (.invokevirtual 181, 3) ∧ decode cX6_readVolume 115 = .ok (.return_, 1) := by decide +kernel
set_option maxHeartbeats 4000000 in
set_option maxRecDepth 100000 in
theorem k_x11_on (l : Launch) (D : va_G) (a : Nat → Nat) (sz : Nat) (s : MS) (o : (Int × MS)) (h : m_x11_on s = some o) : yWi l yX11_on cX11_on 2 (some .boolean) { frames := 6, cells := 0, slots := 0, locals := 360 } D sz [.ref (a 0)] (CS D a s) (CS D a o.2) (i2 o.1) := by
  refine Met.ofW (cc := cX11_on) (maxL := 2) (ret := (some .boolean)) (by decide) rfl ?_
  intro p e s₀ m args below meth c s₁ B hml hv
  obtain ⟨rfl, ⟨hsz, hP, hK, hD0⟩, hN⟩ := hv
  have hx := B.exec
  have hb := B.bytes
  have hr := B.returns
  have hts := atoms_spec (ws := wz yX11_on cX11_on 2 (some .boolean)) B.pre
  have ht : ∀ w ∈ lw_gd, w.before _ s₀ = true := fun w h => hts w (List.mem_cons_of_mem _ h)
  have hown : s₀.vm.findClass RX11 = some m.cls := findClass_of_methodNamed B.named
  have hlocks := B.notSynchronized
  subst hsz
  have hD := hD0.self (sz := s₀.heap.size)
  generalize hAe : va_A (CS D a s) s₀.heap.size = A at hD ⊢
  have hA : ∀ q : Nat, s₀.heap.size ≤ q → A q := fun q h => by rw [← hAe]; exact Or.inr h
  have hS : va_S A s₀.heap s₀.heap [] := va_S.rf
  have hDD : ∀ t : MS, va_D A (CS D a t) := fun t => CW_D t hD
  have hl := lv_entry ([.ref (a 0)]) (n := 2) (Nat.le_of_ble_eq_true rfl)
  rw [lg_entry_eq]
  generalize (lg_sl ([.ref (a 0)]) ++ List.replicate (2 - (lg_sl ([.ref (a 0)])).length) Slot.unset).toArray = ls at hl ⊢
  have hl : lv_has ls 2 [(0, .ref (a 0))] := hl
  unfold m_x11_on at h
  refine y_head (pcJ := 47) (σ := Int × MS) (fun u H locs ls => va_P D vwCl (CS D a u.2) H ∧ va_S A s₀.heap H locs ∧ lv_has ls 2 [(0, .ref (a 0))] ∧ m_x11_on_J47 u.1 u.2 = some o) (fun u => [.int (i2 u.1)]) (fun u H locs ls hI => ?_) (fun J47 => ?_)
  · obtain ⟨hP, hS, hl, h⟩ := hI
    obtain ⟨x1, s2⟩ := u
    have hP : va_P D vwCl (CS D a s2) H := hP
    have hl : lv_has ls 2 [(0, .ref (a 0))] := hl
    have h : m_x11_on_J47 x1 s2 = some o := h
    unfold m_x11_on_J47 at h
    refine lv_istore_n (lv' := [(1, .int (i2 x1)), (0, .ref (a 0))]) hx hb eX11_on_36.2.2.2.2.2.1 rfl hl (by decide) rfl (fun ls hl => ?_)
    refine lv_aload_n hx hb eX11_on_36.2.2.2.2.2.2.1 rfl (lv_at hl 1 rfl) ?_
    refine va_get (D := D) (ci := 11) (v := .ref (a 3)) (C := RX11) (T := TX11) (N := 13) hx hb ht inX11 hown hK hP 0 CW_0 rfl 0 (by decide) (ht (.fieldLink RX11 12 "CloneVolumes" "tape" "LCloneVolumes$Tape;") fl_X11_12) (fun _ h9 => h9) rfl eX11_on_36.2.2.2.2.2.2.2 ?_
    refine lv_iconst (v := 0) hx hb eX11_on_52.1 (by decide) ?_
    refine ya_put (D := D) (ci := 9) (v := .int 0) (ty := .int) (C := RX9) (T := TX9) (N := 2) hx hb ht inX9 tyX9 tyX9_ok nmX9 hown hK hP (hDD _) hS 3 CW_3 rfl 1 (by decide) (ht (.fieldLink RX11 95 "CloneVolumes$Tape" "length" "I") fl_X11_95) (fun _ h9 => h9) rfl (by decide +kernel) rfl rfl (Nat.le_of_ble_eq_true rfl) eX11_on_52.2.1 (CW_w3_1 0) (fun H locs hP hS => ?_)
    obtain ⟨s3, hs3, h⟩ := st_e h
    rw [hs3] at hP
    refine lv_iload_n hx hb eX11_on_52.2.2.1 rfl (lv_at hl 0 rfl) ?_
    obtain ⟨hr4, h⟩ := rg_e h
    refine lv_if_ne (tgt := 68) hx hb eX11_on_52.2.2.2.1 (by decide) (fun c5 => ?_) (fun c5 => ?_)
    · have h := if_f (mt (i2_eq (x := x1) (y := 0) hr4 (by decide)).mpr c5) h
      refine lv_aload_n hx hb eX11_on_66.2.2.1 rfl (lv_at hl 1 rfl) ?_
      refine va_get (D := D) (ci := 11) (v := .ref (a 49)) (C := RX11) (T := TX11) (N := 13) hx hb ht inX11 hown hK hP 0 CW_0 rfl 11 (by decide) (ht (.fieldLink RX11 79 "CloneVolumes" "forest" "LCloneVolumes$Forest;") fl_X11_79) (fun _ h9 => h9) rfl eX11_on_66.2.2.2.1 ?_
      refine va_get (D := D) (ci := 1) (v := .ref (a 53)) (C := RX1) (T := TX1) (N := 9) hx hb ht inX1 hown hK hP 49 CW_49 rfl 0 (by decide) (ht (.fieldLink RX11 125 "CloneVolumes$Forest" "now" "LCloneVolumes$State;") fl_X11_125) (fun _ h9 => h9) rfl eX11_on_66.2.2.2.2.1 ?_
      refine lv_aload_n hx hb eX11_on_66.2.2.2.2.2.1 rfl (lv_at hl 1 rfl) ?_
      refine va_get (D := D) (ci := 11) (v := .ref (a 49)) (C := RX11) (T := TX11) (N := 13) hx hb ht inX11 hown hK hP 0 CW_0 rfl 11 (by decide) (ht (.fieldLink RX11 79 "CloneVolumes" "forest" "LCloneVolumes$Forest;") fl_X11_79) (fun _ h9 => h9) rfl eX11_on_66.2.2.2.2.2.2.1 ?_
      refine va_get (D := D) (ci := 1) (v := .ref (a 71)) (C := RX1) (T := TX1) (N := 9) hx hb ht inX1 hown hK hP 49 CW_49 rfl 2 (by decide) (ht (.fieldLink RX11 345 "CloneVolumes$Forest" "inner" "LCloneVolumes$State;") fl_X11_345) (fun _ h9 => h9) rfl eX11_on_66.2.2.2.2.2.2.2 ?_
      obtain ⟨s7, hc6, h⟩ := bn_e h
      refine ywVv (As := [.ref (a 71)]) (rest := []) (C := RX8) (n := 1) (ws' := CS D a s7) ⟨hx, hb, hml, hown, ht⟩ (k_x8_become_v4 l D a _ _ _ hc6) (zgV ml_X11_312 im_X8_become se_X8_become in_X8 co_X8_become) rfl rfl (by decide +kernel) ⟨Nat.le_of_ble_eq_true rfl, Nat.le_of_ble_eq_true rfl⟩ hN hK hP (hDD _) hS hA 53 CW_53 rfl rfl rfl hl.1 rfl (Nat.le_of_ble_eq_true rfl) eX11_on_82.1 ⟨Nat.le_of_ble_eq_true rfl, Nat.le_of_ble_eq_true rfl⟩ (fun H locs hP hS => ?_)
      refine lv_aload_n hx hb eX11_on_82.2.1 rfl (lv_at hl 1 rfl) ?_
      refine va_get (D := D) (ci := 11) (v := .ref (a 7)) (C := RX11) (T := TX11) (N := 13) hx hb ht inX11 hown hK hP 0 CW_0 rfl 2 (by decide) (ht (.fieldLink RX11 28 "CloneVolumes" "history" "LCloneVolumes$History;") fl_X11_28) (fun _ h9 => h9) rfl eX11_on_82.2.2.1 ?_
      obtain ⟨s9, hc8, h⟩ := bn_e h
      refine ywVv (As := []) (rest := []) (C := RX2) (n := 0) (ws' := CS D a s9) ⟨hx, hb, hml, hown, ht⟩ (k_x2_clear l D a _ _ _ hc8) (zgV ml_X11_106 im_X2_clear se_X2_clear in_X2 co_X2_clear) rfl rfl (by decide +kernel) ⟨Nat.le_of_ble_eq_true rfl, Nat.le_of_ble_eq_true rfl⟩ hN hK hP (hDD _) hS hA 7 CW_7 rfl rfl rfl hl.1 rfl (Nat.le_of_ble_eq_true rfl) eX11_on_82.2.2.2.1 ⟨Nat.le_of_ble_eq_true rfl, Nat.le_of_ble_eq_true rfl⟩ (fun H locs hP hS => ?_)
      refine lv_iconst (v := 1) hx hb eX11_on_82.2.2.2.2.1 (by decide) ?_
      obtain rfl := Option.some.inj h
      exact W.zret (v := 1) hx hb hr (by decide) (fun t ht hW => ⟨⟨_, (), rfl, rfl, by rw [ht]; exact hP, va_K.moved hW.alike hK, hDD _⟩, hS.F ht⟩) hS.2.2 eX11_on_82.2.2.2.2.2.1
    · have h := if_t ((i2_eq (x := x1) (y := 0) hr4 (by decide)).mp c5) h
      refine lv_aload_n hx hb eX11_on_52.2.2.2.2.1 rfl (lv_at hl 1 rfl) ?_
      refine lv_iconst (v := 5) hx hb eX11_on_52.2.2.2.2.2.1 (by decide) ?_
      obtain ⟨⟨r12, s11⟩, hc10, h⟩ := bn_e h
      refine ywV (r0 := i2 r12) (As := [.int 5]) (rest := []) (C := RX11) (n := 1) (ws' := CS D a s11) ⟨hx, hb, hml, hown, ht⟩ (k_x11_refuse l D a 5 _ _ _ hc10) (zgV ml_X11_87 im_X11_refuse se_X11_refuse in_X11 co_X11_refuse) rfl rfl (by decide +kernel) ⟨Nat.le_of_ble_eq_true rfl, Nat.le_of_ble_eq_true rfl⟩ hN hK hP (hDD _) hS hA 0 CW_0 rfl rfl rfl hl.1 rfl (Nat.le_of_ble_eq_true rfl) eX11_on_52.2.2.2.2.2.2.1 ⟨Nat.le_of_ble_eq_true rfl, Nat.le_of_ble_eq_true rfl⟩ (fun H locs hP hS => ?_)
      refine lv_pop hx hb eX11_on_52.2.2.2.2.2.2.2 rfl ?_
      refine lv_iconst (v := 0) hx hb eX11_on_66.1 (by decide) ?_
      obtain rfl := Option.some.inj h
      exact W.zret (v := 0) hx hb hr (by decide) (fun t ht hW => ⟨⟨_, (), rfl, rfl, by rw [ht]; exact hP, va_K.moved hW.alike hK, hDD _⟩, hS.F ht⟩) hS.2.2 eX11_on_66.2.1
  refine y_head (pcJ := 46) (σ := MS) (fun u H locs ls => va_P D vwCl (CS D a u) H ∧ va_S A s₀.heap H locs ∧ lv_has ls 2 [(0, .ref (a 0))] ∧ m_x11_on_J46 u = some o) (fun u => []) (fun u H locs ls hI => ?_) (fun J46 => ?_)
  · obtain ⟨hP, hS, hl, h⟩ := hI
    obtain ⟨s13, rfl⟩ : ∃ z, z = u := ⟨u, rfl⟩
    have hP : va_P D vwCl (CS D a s13) H := hP
    have hl : lv_has ls 2 [(0, .ref (a 0))] := hl
    have h : m_x11_on_J46 s13 = some o := h
    unfold m_x11_on_J46 at h
    refine lv_iconst (v := 0) hx hb eX11_on_36.2.2.2.2.1 (by decide) ?_
    exact J47 (0, s13) _ _ _ ⟨hP, hS, lv_sub hl [0] rfl, h⟩
  refine lv_aload_n hx hb eX11_on_0.1 rfl (lv_at hl 0 rfl) ?_
  refine va_get (D := D) (ci := 11) (v := .int (i2 (gI s 12))) (C := RX11) (T := TX11) (N := 13) hx hb ht inX11 hown hK hP 0 CW_0 rfl 12 (by decide) (ht (.fieldLink RX11 112 "CloneVolumes" "told" "Z") fl_X11_112) (fun _ h9 => h9) rfl eX11_on_0.2.1 ?_
  obtain ⟨hr14, h⟩ := rg_e h
  refine lv_if_eq (tgt := 46) hx hb eX11_on_0.2.2.1 (by decide) (fun c15 => ?_) (fun c15 => ?_)
  · have h := if_t ((i2_eq (x := (gI s 12)) (y := 0) hr14 (by decide)).mp c15) h
    exact J46 s _ _ _ ⟨hP, hS, lv_sub hl [0] rfl, h⟩
  · have h := if_f (mt (i2_eq (x := (gI s 12)) (y := 0) hr14 (by decide)).mpr c15) h
    refine lv_aload_n hx hb eX11_on_0.2.2.2.1 rfl (lv_at hl 0 rfl) ?_
    refine va_get (D := D) (ci := 11) (v := .ref (a 16)) (C := RX11) (T := TX11) (N := 13) hx hb ht inX11 hown hK hP 0 CW_0 rfl 4 (by decide) (ht (.fieldLink RX11 42 "CloneVolumes" "picture" "LCloneVolumes$Picture;") fl_X11_42) (fun _ h9 => h9) rfl eX11_on_0.2.2.2.2.1 ?_
    refine lv_aload_n hx hb eX11_on_0.2.2.2.2.2.1 rfl (lv_at hl 0 rfl) ?_
    refine va_get (D := D) (ci := 11) (v := .ref (a 3)) (C := RX11) (T := TX11) (N := 13) hx hb ht inX11 hown hK hP 0 CW_0 rfl 0 (by decide) (ht (.fieldLink RX11 12 "CloneVolumes" "tape" "LCloneVolumes$Tape;") fl_X11_12) (fun _ h9 => h9) rfl eX11_on_0.2.2.2.2.2.2.1 ?_
    refine lv_aload_n hx hb eX11_on_0.2.2.2.2.2.2.2 rfl (lv_at hl 0 rfl) ?_
    refine va_get (D := D) (ci := 11) (v := .ref (a 49)) (C := RX11) (T := TX11) (N := 13) hx hb ht inX11 hown hK hP 0 CW_0 rfl 11 (by decide) (ht (.fieldLink RX11 79 "CloneVolumes" "forest" "LCloneVolumes$Forest;") fl_X11_79) (fun _ h9 => h9) rfl eX11_on_16.1 ?_
    refine va_get (D := D) (ci := 1) (v := .ref (a 71)) (C := RX1) (T := TX1) (N := 9) hx hb ht inX1 hown hK hP 49 CW_49 rfl 2 (by decide) (ht (.fieldLink RX11 345 "CloneVolumes$Forest" "inner" "LCloneVolumes$State;") fl_X11_345) (fun _ h9 => h9) rfl eX11_on_16.2.1 ?_
    refine lv_aload_n hx hb eX11_on_16.2.2.1 rfl (lv_at hl 0 rfl) ?_
    refine va_get (D := D) (ci := 11) (v := .ref (a 29)) (C := RX11) (T := TX11) (N := 13) hx hb ht inX11 hown hK hP 0 CW_0 rfl 9 (by decide) (ht (.fieldLink RX11 67 "CloneVolumes" "plan" "LCloneVolumes$Plan;") fl_X11_67) (fun _ h9 => h9) rfl eX11_on_16.2.2.2.1 ?_
    refine va_get (D := D) (ci := 5) (v := .int (i2 (gI s 580))) (C := RX5) (T := TX5) (N := 14) hx hb ht inX5 hown hK hP 29 CW_29 rfl 0 (by decide) (ht (.fieldLink RX11 348 "CloneVolumes$Plan" "blocks" "I") fl_X11_348) (fun _ h9 => h9) rfl eX11_on_16.2.2.2.2.1 ?_
    refine lv_aload_n hx hb eX11_on_16.2.2.2.2.2.1 rfl (lv_at hl 0 rfl) ?_
    refine va_get (D := D) (ci := 11) (v := .ref (a 29)) (C := RX11) (T := TX11) (N := 13) hx hb ht inX11 hown hK hP 0 CW_0 rfl 9 (by decide) (ht (.fieldLink RX11 67 "CloneVolumes" "plan" "LCloneVolumes$Plan;") fl_X11_67) (fun _ h9 => h9) rfl eX11_on_16.2.2.2.2.2.2.1 ?_
    refine va_get (D := D) (ci := 5) (v := .int (i2 (gI s 581))) (C := RX5) (T := TX5) (N := 14) hx hb ht inX5 hown hK hP 29 CW_29 rfl 1 (by decide) (ht (.fieldLink RX11 153 "CloneVolumes$Plan" "entriesMost" "I") fl_X11_153) (fun _ h9 => h9) rfl eX11_on_16.2.2.2.2.2.2.2 ?_
    obtain ⟨⟨r18, s17⟩, hc16, h⟩ := bn_e h
    refine ywV (r0 := i2 r18) (As := [.ref (a 3), .ref (a 71), .int (i2 (gI s 580)), .int (i2 (gI s 581))]) (rest := []) (C := RX4) (n := 4) (ws' := CS D a s17) ⟨hx, hb, hml, hown, ht⟩ (k_x4_load l D a (gI s 580) (gI s 581) _ _ _ hc16) (zgV ml_X11_349 im_X4_load se_X4_load in_X4 co_X4_load) rfl rfl (by decide +kernel) ⟨Nat.le_of_ble_eq_true rfl, Nat.le_of_ble_eq_true rfl⟩ hN hK hP (hDD _) hS hA 16 CW_16 rfl rfl rfl hl.1 rfl (Nat.le_of_ble_eq_true rfl) eX11_on_36.1 ⟨Nat.le_of_ble_eq_true rfl, Nat.le_of_ble_eq_true rfl⟩ (fun H locs hP hS => ?_)
    obtain ⟨hr19, h⟩ := rg_e h
    refine lv_if_eq (tgt := 46) hx hb eX11_on_36.2.1 (by decide) (fun c20 => ?_) (fun c20 => ?_)
    · have h := if_t ((i2_eq (x := r18) (y := 0) hr19 (by decide)).mp c20) h
      exact J46 s17 _ _ _ ⟨hP, hS, lv_sub hl [0] rfl, h⟩
    · have h := if_f (mt (i2_eq (x := r18) (y := 0) hr19 (by decide)).mpr c20) h
      refine lv_iconst (v := 1) hx hb eX11_on_36.2.2.1 (by decide) ?_
      refine lv_goto (tgt := 47) hx hb eX11_on_36.2.2.2.1 (by decide) ?_
      exact J47 (1, s17) _ _ _ ⟨hP, hS, lv_sub hl [0] rfl, h⟩
set_option maxHeartbeats 4000000 in
set_option maxRecDepth 100000 in
theorem k_x11_status (l : Launch) (D : va_G) (a : Nat → Nat) (p0 : Int) (s : MS) (o : Int) (h : m_x11_status p0 s = some o) : yRi l yX11_status cX11_status 2 (some .int) { frames := 0, cells := 0, slots := 0, locals := 0 } D [.ref (a 0), .int (i2 p0)] (CS D a s) (i2 o) := by
  refine Met.ofW (cc := cX11_status) (maxL := 2) (ret := (some .int)) (by decide) rfl ?_
  intro p e s₀ m args below meth c s₁ B hml hv
  obtain ⟨rfl, ⟨hP, hK⟩, hN⟩ := hv
  have hx := B.exec
  have hb := B.bytes
  have hr := B.returns
  have hts := atoms_spec (ws := wz yX11_status cX11_status 2 (some .int)) B.pre
  have ht : ∀ w ∈ lw_gd, w.before _ s₀ = true := fun w h => hts w (List.mem_cons_of_mem _ h)
  have hown : s₀.vm.findClass RX11 = some m.cls := findClass_of_methodNamed B.named
  have hlocks := B.notSynchronized
  have hS : va_S (fun _ => False) s₀.heap s₀.heap [] := va_S.rf
  have hl := lv_entry ([.ref (a 0), .int (i2 p0)]) (n := 2) (Nat.le_of_ble_eq_true rfl)
  rw [lg_entry_eq]
  generalize (lg_sl ([.ref (a 0), .int (i2 p0)]) ++ List.replicate (2 - (lg_sl ([.ref (a 0), .int (i2 p0)])).length) Slot.unset).toArray = ls at hl ⊢
  have hl : lv_has ls 2 [(0, .ref (a 0)), (1, .int (i2 p0))] := hl
  unfold m_x11_status at h
  refine y_head (pcJ := 20) (σ := Int) (fun u H locs ls => va_P D vwCl (CS D a s) H ∧ va_S (fun _ => False) s₀.heap H locs ∧ lv_has ls 2 [] ∧ m_x11_status_J20 s u = some o) (fun u => [.int (i2 u)]) (fun u H locs ls hI => ?_) (fun J20 => ?_)
  · obtain ⟨hP, hS, hl, h⟩ := hI
    obtain ⟨x1, rfl⟩ : ∃ z, z = u := ⟨u, rfl⟩
    have hP : va_P D vwCl (CS D a s) H := hP
    have hl : lv_has ls 2 [] := hl
    have h : m_x11_status_J20 s x1 = some o := h
    unfold m_x11_status_J20 at h
    obtain rfl := Option.some.inj h
    exact W.iret (v := (i2 x1)) hx hb hr (fun t ht hW => ⟨⟨_, (), rfl, rfl, trivial⟩, hS.F ht⟩) hS.2.2 eX11_status_19.2.1
  refine y_head (pcJ := 19) (σ := Unit) (fun u H locs ls => va_P D vwCl (CS D a s) H ∧ va_S (fun _ => False) s₀.heap H locs ∧ lv_has ls 2 [] ∧ m_x11_status_J19 s u = some o) (fun u => []) (fun u H locs ls hI => ?_) (fun J19 => ?_)
  · obtain ⟨hP, hS, hl, h⟩ := hI
    skip
    have hP : va_P D vwCl (CS D a s) H := hP
    have hl : lv_has ls 2 [] := hl
    have h : m_x11_status_J19 s () = some o := h
    unfold m_x11_status_J19 at h
    refine lv_iconst (v := (-1)) hx hb eX11_status_19.1 (by decide) ?_
    exact J20 (-1) _ _ _ ⟨hP, hS, lv_sub hl [] rfl, h⟩
  refine lv_iload_n hx hb eX11_on_82.2.2.2.2.2.2.1 rfl (lv_at hl 1 rfl) ?_
  obtain ⟨hr2, h⟩ := rg_e h
  refine lv_if_lt (tgt := 19) hx hb eX11_on_82.2.2.2.2.2.2.2 (by decide) (fun c3 => ?_) (fun c3 => ?_)
  · have h := if_t ((i2_lt (x := p0) (y := 0) hr2 (by decide)).mp c3) h
    exact J19 () _ _ _ ⟨hP, hS, lv_sub hl [] rfl, h⟩
  · have h := if_f (mt (i2_lt (x := p0) (y := 0) hr2 (by decide)).mpr c3) h
    refine lv_iload_n hx hb eX11_status_4.1 rfl (lv_at hl 1 rfl) ?_
    refine lv_bipush (v := 6) hx hb eX11_status_4.2.1 (by decide) ?_
    obtain ⟨hr4, h⟩ := rg_e h
    refine lv_icmp_ge (tgt := 19) hx hb eX11_status_4.2.2.1 (by decide) (fun c5 => ?_) (fun c5 => ?_)
    · have h := if_t ((i2_le (x := 6) (y := p0) (by decide) hr4).mp c5) h
      exact J19 () _ _ _ ⟨hP, hS, lv_sub hl [] rfl, h⟩
    · have h := if_f (mt (i2_le (x := 6) (y := p0) (by decide) hr4).mpr c5) h
      refine lv_aload_n hx hb eX11_status_4.2.2.2.1 rfl (lv_at hl 0 rfl) ?_
      refine va_get (D := D) (ci := 11) (v := .ref (a 2)) (C := RX11) (T := TX11) (N := 13) hx hb ht inX11 hown hK hP 0 CW_0 rfl 8 (by decide) (ht (.fieldLink RX11 60 "CloneVolumes" "refused" "[I") fl_X11_60) (fun _ h9 => h9) rfl eX11_status_4.2.2.2.2.1 ?_
      refine lv_iload_n hx hb eX11_status_4.2.2.2.2.2.1 rfl (lv_at hl 1 rfl) ?_
      obtain ⟨y6, ey6, iy6, h⟩ := rdI_e h
      refine ya_iald (i := p0) hx hb hK hP 2 0 CW_2 rfl (by decide) ey6 iy6 eX11_status_4.2.2.2.2.2.2.1 ?_
      refine lv_goto (tgt := 20) hx hb eX11_status_4.2.2.2.2.2.2.2 (by decide) ?_
      exact J20 y6 _ _ _ ⟨hP, hS, lv_sub hl [] rfl, h⟩
set_option maxHeartbeats 4000000 in
set_option maxRecDepth 100000 in
theorem k_x5_addChange (l : Launch) (D : va_G) (a : Nat → Nat) (p0 : Int) (p1 : Int) (p2 : Int) (p3 : Int) (sz : Nat) (s : MS) (o : MS) (h : m_x5_addChange p0 p1 p2 p3 s = some o) : yWv l yX5_addChange cX5_addChange 5 none { frames := 0, cells := 0, slots := 0, locals := 0 } D sz [.ref (a 39), .int (i2 p0), .int (i2 p1), .int (i2 p2), .int (i2 p3)] (CS D a s) (CS D a o) := by
  refine Met.ofW (cc := cX5_addChange) (maxL := 5) (ret := none) (by decide) rfl ?_
  intro p e s₀ m args below meth c s₁ B hml hv
  obtain ⟨rfl, ⟨hsz, hP, hK, hD0⟩, hN⟩ := hv
  have hx := B.exec
  have hb := B.bytes
  have hr := B.returns
  have hts := atoms_spec (ws := wz yX5_addChange cX5_addChange 5 none) B.pre
  have ht : ∀ w ∈ lw_gd, w.before _ s₀ = true := fun w h => hts w (List.mem_cons_of_mem _ h)
  have hown : s₀.vm.findClass RX5 = some m.cls := findClass_of_methodNamed B.named
  have hlocks := B.notSynchronized
  subst hsz
  have hD := hD0.self (sz := s₀.heap.size)
  generalize hAe : va_A (CS D a s) s₀.heap.size = A at hD ⊢
  have hA : ∀ q : Nat, s₀.heap.size ≤ q → A q := fun q h => by rw [← hAe]; exact Or.inr h
  have hS : va_S A s₀.heap s₀.heap [] := va_S.rf
  have hDD : ∀ t : MS, va_D A (CS D a t) := fun t => CW_D t hD
  have hl := lv_entry ([.ref (a 39), .int (i2 p0), .int (i2 p1), .int (i2 p2), .int (i2 p3)]) (n := 5) (Nat.le_of_ble_eq_true rfl)
  rw [lg_entry_eq]
  generalize (lg_sl ([.ref (a 39), .int (i2 p0), .int (i2 p1), .int (i2 p2), .int (i2 p3)]) ++ List.replicate (5 - (lg_sl ([.ref (a 39), .int (i2 p0), .int (i2 p1), .int (i2 p2), .int (i2 p3)])).length) Slot.unset).toArray = ls at hl ⊢
  have hl : lv_has ls 5 [(0, .ref (a 39)), (1, .int (i2 p0)), (2, .int (i2 p1)), (3, .int (i2 p2)), (4, .int (i2 p3))] := hl
  unfold m_x5_addChange at h
  refine y_head (pcJ := 60) (σ := MS) (fun u H locs ls => va_P D vwCl (CS D a u) H ∧ va_S A s₀.heap H locs ∧ lv_has ls 5 [] ∧ m_x5_addChange_J60 u = some o) (fun u => []) (fun u H locs ls hI => ?_) (fun J60 => ?_)
  · obtain ⟨hP, hS, hl, h⟩ := hI
    obtain ⟨s1, rfl⟩ : ∃ z, z = u := ⟨u, rfl⟩
    have hP : va_P D vwCl (CS D a s1) H := hP
    have hl : lv_has ls 5 [] := hl
    have h : m_x5_addChange_J60 s1 = some o := h
    unfold m_x5_addChange_J60 at h
    obtain rfl := Option.some.inj h
    exact W.vret hx hb hr (fun t ht hW => ⟨⟨(), rfl, trivial, by rw [ht]; exact hP, va_K.moved hW.alike hK, hDD _⟩, hS.F ht⟩) hS.2.2 eX5_addChange_52.2.2.2.2.1
  refine lv_aload_n hx hb eX11_status_19.2.2.1 rfl (lv_at hl 0 rfl) ?_
  refine va_get (D := D) (ci := 5) (v := .int (i2 (gI s 785))) (C := RX5) (T := TX5) (N := 14) hx hb ht inX5 hown hK hP 39 CW_39 rfl 5 (by decide) (ht (.fieldLink RX5 50 "CloneVolumes$Plan" "changes" "I") fl_X5_50) (fun _ h9 => h9) rfl eX11_status_19.2.2.2.1 ?_
  refine lv_bipush (v := 60) hx hb eX11_status_19.2.2.2.2.1 (by decide) ?_
  obtain ⟨hr2, h⟩ := rg_e h
  refine lv_icmp_ge (tgt := 60) hx hb eX11_status_19.2.2.2.2.2.1 (by decide) (fun c3 => ?_) (fun c3 => ?_)
  · have h := if_t ((i2_le (x := 60) (y := (gI s 785)) (by decide) hr2).mp c3) h
    exact J60 s _ _ _ ⟨hP, hS, lv_sub hl [] rfl, h⟩
  · have h := if_f (mt (i2_le (x := 60) (y := (gI s 785)) (by decide) hr2).mpr c3) h
    refine lv_aload_n hx hb eX11_status_19.2.2.2.2.2.2.1 rfl (lv_at hl 0 rfl) ?_
    refine va_get (D := D) (ci := 5) (v := .ref (a 41)) (C := RX5) (T := TX5) (N := 14) hx hb ht inX5 hown hK hP 39 CW_39 rfl 7 (by decide) (ht (.fieldLink RX5 15 "CloneVolumes$Plan" "kinds" "[I") fl_X5_15) (fun _ h9 => h9) rfl eX11_status_19.2.2.2.2.2.2.2 ?_
    refine lv_aload_n hx hb eX5_addChange_13.1 rfl (lv_at hl 0 rfl) ?_
    refine va_get (D := D) (ci := 5) (v := .int (i2 (gI s 785))) (C := RX5) (T := TX5) (N := 14) hx hb ht inX5 hown hK hP 39 CW_39 rfl 5 (by decide) (ht (.fieldLink RX5 50 "CloneVolumes$Plan" "changes" "I") fl_X5_50) (fun _ h9 => h9) rfl eX5_addChange_13.2.1 ?_
    refine lv_iload_n hx hb eX5_addChange_13.2.2.1 rfl (lv_at hl 1 rfl) ?_
    obtain ⟨hi4, h⟩ := inb_e h
    refine ya_iast (i := (gI s 785)) (x := p0) hx hb hK hP (hDD _) hS 41 0 CW_41 rfl (by decide) hi4 eX5_addChange_13.2.2.2.1 (CW_w41 _) (fun H locs hP hS => ?_)
    obtain ⟨s5, hs5, h⟩ := st_e h
    rw [hs5] at hP
    refine lv_aload_n hx hb eX5_addChange_13.2.2.2.2.1 rfl (lv_at hl 0 rfl) ?_
    refine va_get (D := D) (ci := 5) (v := .ref (a 42)) (C := RX5) (T := TX5) (N := 14) hx hb ht inX5 hown hK hP 39 CW_39 rfl 8 (by decide) (ht (.fieldLink RX5 18 "CloneVolumes$Plan" "who" "[I") fl_X5_18) (fun _ h9 => h9) rfl eX5_addChange_13.2.2.2.2.2.1 ?_
    refine lv_aload_n hx hb eX5_addChange_13.2.2.2.2.2.2.1 rfl (lv_at hl 0 rfl) ?_
    refine va_get (D := D) (ci := 5) (v := .int (i2 (gI s5 785))) (C := RX5) (T := TX5) (N := 14) hx hb ht inX5 hown hK hP 39 CW_39 rfl 5 (by decide) (ht (.fieldLink RX5 50 "CloneVolumes$Plan" "changes" "I") fl_X5_50) (fun _ h9 => h9) rfl eX5_addChange_13.2.2.2.2.2.2.2 ?_
    refine lv_iload_n hx hb eX5_addChange_27.1 rfl (lv_at hl 2 rfl) ?_
    obtain ⟨hi6, h⟩ := inb_e h
    refine ya_iast (i := (gI s5 785)) (x := p1) hx hb hK hP (hDD _) hS 42 0 CW_42 rfl (by decide) hi6 eX5_addChange_27.2.1 (CW_w42 _) (fun H locs hP hS => ?_)
    obtain ⟨s7, hs7, h⟩ := st_e h
    rw [hs7] at hP
    refine lv_aload_n hx hb eX5_addChange_27.2.2.1 rfl (lv_at hl 0 rfl) ?_
    refine va_get (D := D) (ci := 5) (v := .ref (a 43)) (C := RX5) (T := TX5) (N := 14) hx hb ht inX5 hown hK hP 39 CW_39 rfl 9 (by decide) (ht (.fieldLink RX5 21 "CloneVolumes$Plan" "first" "[I") fl_X5_21) (fun _ h9 => h9) rfl eX5_addChange_27.2.2.2.1 ?_
    refine lv_aload_n hx hb eX5_addChange_27.2.2.2.2.1 rfl (lv_at hl 0 rfl) ?_
    refine va_get (D := D) (ci := 5) (v := .int (i2 (gI s7 785))) (C := RX5) (T := TX5) (N := 14) hx hb ht inX5 hown hK hP 39 CW_39 rfl 5 (by decide) (ht (.fieldLink RX5 50 "CloneVolumes$Plan" "changes" "I") fl_X5_50) (fun _ h9 => h9) rfl eX5_addChange_27.2.2.2.2.2.1 ?_
    refine lv_iload_n hx hb eX5_addChange_27.2.2.2.2.2.2.1 rfl (lv_at hl 3 rfl) ?_
    obtain ⟨hi8, h⟩ := inb_e h
    refine ya_iast (i := (gI s7 785)) (x := p2) hx hb hK hP (hDD _) hS 43 0 CW_43 rfl (by decide) hi8 eX5_addChange_27.2.2.2.2.2.2.2 (CW_w43 _) (fun H locs hP hS => ?_)
    obtain ⟨s9, hs9, h⟩ := st_e h
    rw [hs9] at hP
    refine lv_aload_n hx hb eX5_addChange_39.1 rfl (lv_at hl 0 rfl) ?_
    refine va_get (D := D) (ci := 5) (v := .ref (a 44)) (C := RX5) (T := TX5) (N := 14) hx hb ht inX5 hown hK hP 39 CW_39 rfl 10 (by decide) (ht (.fieldLink RX5 24 "CloneVolumes$Plan" "second" "[I") fl_X5_24) (fun _ h9 => h9) rfl eX5_addChange_39.2.1 ?_
    refine lv_aload_n hx hb eX5_addChange_39.2.2.1 rfl (lv_at hl 0 rfl) ?_
    refine va_get (D := D) (ci := 5) (v := .int (i2 (gI s9 785))) (C := RX5) (T := TX5) (N := 14) hx hb ht inX5 hown hK hP 39 CW_39 rfl 5 (by decide) (ht (.fieldLink RX5 50 "CloneVolumes$Plan" "changes" "I") fl_X5_50) (fun _ h9 => h9) rfl eX5_addChange_39.2.2.2.1 ?_
    refine lv_iload hx hb eX5_addChange_39.2.2.2.2.1 (lv_at hl 4 rfl) ?_
    obtain ⟨hi10, h⟩ := inb_e h
    refine ya_iast (i := (gI s9 785)) (x := p3) hx hb hK hP (hDD _) hS 44 0 CW_44 rfl (by decide) hi10 eX5_addChange_39.2.2.2.2.2.1 (CW_w44 _) (fun H locs hP hS => ?_)
    obtain ⟨s11, hs11, h⟩ := st_e h
    rw [hs11] at hP
    refine lv_aload_n hx hb eX5_addChange_39.2.2.2.2.2.2.1 rfl (lv_at hl 0 rfl) ?_
    refine lv_dup hx hb eX5_addChange_39.2.2.2.2.2.2.2 rfl ?_
    refine va_get (D := D) (ci := 5) (v := .int (i2 (gI s11 785))) (C := RX5) (T := TX5) (N := 14) hx hb ht inX5 hown hK hP 39 CW_39 rfl 5 (by decide) (ht (.fieldLink RX5 50 "CloneVolumes$Plan" "changes" "I") fl_X5_50) (fun _ h9 => h9) rfl eX5_addChange_52.1 ?_
    refine lv_iconst (v := 1) hx hb eX5_addChange_52.2.1 (by decide) ?_
    refine lv_iadd hx hb eX5_addChange_52.2.2.1 ?_
    refine z_topi (y := i2 ((gI s11 785) + 1)) (i2_add (gI s11 785) 1) ?_
    refine ya_put (D := D) (ci := 5) (v := .int (i2 ((gI s11 785) + 1))) (ty := .int) (C := RX5) (T := TX5) (N := 14) hx hb ht inX5 tyX5 tyX5_ok nmX5 hown hK hP (hDD _) hS 39 CW_39 rfl 5 (by decide) (ht (.fieldLink RX5 50 "CloneVolumes$Plan" "changes" "I") fl_X5_50) (fun _ h9 => h9) rfl (by decide +kernel) rfl rfl (Nat.le_of_ble_eq_true rfl) eX5_addChange_52.2.2.2.1 (CW_w39_5 ((gI s11 785) + 1)) (fun H locs hP hS => ?_)
    obtain ⟨s12, hs12, h⟩ := st_e h
    rw [hs12] at hP
    exact J60 s12 _ _ _ ⟨hP, hS, lv_sub hl [] rfl, h⟩
set_option maxHeartbeats 4000000 in
set_option maxRecDepth 100000 in
theorem k_x6_isName (l : Launch) (D : va_G) (a : Nat → Nat) (sz : Nat) (s : MS) (o : (Int × MS)) (h : m_x6_isName s = some o) : yWi l yX6_isName cX6_isName 1 (some .boolean) { frames := 1, cells := 0, slots := 0, locals := 60 } D sz [.ref (a 5)] (CS D a s) (CS D a o.2) (i2 o.1) := by
  refine Met.ofW (cc := cX6_isName) (maxL := 1) (ret := (some .boolean)) (by decide) rfl ?_
  intro p e s₀ m args below meth c s₁ B hml hv
  obtain ⟨rfl, ⟨hsz, hP, hK, hD0⟩, hN⟩ := hv
  have hx := B.exec
  have hb := B.bytes
  have hr := B.returns
  have hts := atoms_spec (ws := wz yX6_isName cX6_isName 1 (some .boolean)) B.pre
  have ht : ∀ w ∈ lw_gd, w.before _ s₀ = true := fun w h => hts w (List.mem_cons_of_mem _ h)
  have hown : s₀.vm.findClass RX6 = some m.cls := findClass_of_methodNamed B.named
  have hlocks := B.notSynchronized
  subst hsz
  have hD := hD0.self (sz := s₀.heap.size)
  generalize hAe : va_A (CS D a s) s₀.heap.size = A at hD ⊢
  have hA : ∀ q : Nat, s₀.heap.size ≤ q → A q := fun q h => by rw [← hAe]; exact Or.inr h
  have hS : va_S A s₀.heap s₀.heap [] := va_S.rf
  have hDD : ∀ t : MS, va_D A (CS D a t) := fun t => CW_D t hD
  have hl := lv_entry ([.ref (a 5)]) (n := 1) (Nat.le_of_ble_eq_true rfl)
  rw [lg_entry_eq]
  generalize (lg_sl ([.ref (a 5)]) ++ List.replicate (1 - (lg_sl ([.ref (a 5)])).length) Slot.unset).toArray = ls at hl ⊢
  have hl : lv_has ls 1 [(0, .ref (a 5))] := hl
  unfold m_x6_isName at h
  refine y_head (pcJ := 69) (σ := Int × MS) (fun u H locs ls => va_P D vwCl (CS D a u.2) H ∧ va_S A s₀.heap H locs ∧ lv_has ls 1 [] ∧ m_x6_isName_J69 u.1 u.2 = some o) (fun u => [.int (i2 u.1)]) (fun u H locs ls hI => ?_) (fun J69 => ?_)
  · obtain ⟨hP, hS, hl, h⟩ := hI
    obtain ⟨x1, s2⟩ := u
    have hP : va_P D vwCl (CS D a s2) H := hP
    have hl : lv_has ls 1 [] := hl
    have h : m_x6_isName_J69 x1 s2 = some o := h
    unfold m_x6_isName_J69 at h
    obtain ⟨hb3, h⟩ := bo_e h
    obtain rfl := Option.some.inj h
    exact W.zret (v := (i2 x1)) hx hb hr (bo_n hb3) (fun t ht hW => ⟨⟨_, (), rfl, rfl, by rw [ht]; exact hP, va_K.moved hW.alike hK, hDD _⟩, hS.F ht⟩) hS.2.2 eX6_isName_64.2.2.2.1
  refine y_head (pcJ := 64) (σ := MS) (fun u H locs ls => va_P D vwCl (CS D a u) H ∧ va_S A s₀.heap H locs ∧ lv_has ls 1 [] ∧ m_x6_isName_J64 u = some o) (fun u => []) (fun u H locs ls hI => ?_) (fun J64 => ?_)
  · obtain ⟨hP, hS, hl, h⟩ := hI
    obtain ⟨s4, rfl⟩ : ∃ z, z = u := ⟨u, rfl⟩
    have hP : va_P D vwCl (CS D a s4) H := hP
    have hl : lv_has ls 1 [] := hl
    have h : m_x6_isName_J64 s4 = some o := h
    unfold m_x6_isName_J64 at h
    refine lv_iconst (v := 1) hx hb eX6_isName_64.1 (by decide) ?_
    refine lv_goto (tgt := 69) hx hb eX6_isName_64.2.1 (by decide) ?_
    exact J69 (1, s4) _ _ _ ⟨hP, hS, lv_sub hl [] rfl, h⟩
  refine y_head (pcJ := 35) (σ := MS) (fun u H locs ls => va_P D vwCl (CS D a u) H ∧ va_S A s₀.heap H locs ∧ lv_has ls 1 [(0, .ref (a 5))] ∧ m_x6_isName_J35 u = some o) (fun u => []) (fun u H locs ls hI => ?_) (fun J35 => ?_)
  · obtain ⟨hP, hS, hl, h⟩ := hI
    obtain ⟨s5, rfl⟩ : ∃ z, z = u := ⟨u, rfl⟩
    have hP : va_P D vwCl (CS D a s5) H := hP
    have hl : lv_has ls 1 [(0, .ref (a 5))] := hl
    have h : m_x6_isName_J35 s5 = some o := h
    unfold m_x6_isName_J35 at h
    refine lv_aload_n hx hb eX6_isName_34.2.1 rfl (lv_at hl 0 rfl) ?_
    refine va_get (D := D) (ci := 6) (v := .int (i2 (gI s5 109))) (C := RX6) (T := TX6) (N := 12) hx hb ht inX6 hown hK hP 5 CW_5 rfl 9 (by decide) (ht (.fieldLink RX6 88 "CloneVolumes$Reader" "stop" "I") fl_X6_88) (fun _ h9 => h9) rfl eX6_isName_34.2.2.1 ?_
    refine lv_aload_n hx hb eX6_isName_34.2.2.2.1 rfl (lv_at hl 0 rfl) ?_
    refine va_get (D := D) (ci := 6) (v := .int (i2 (gI s5 108))) (C := RX6) (T := TX6) (N := 12) hx hb ht inX6 hown hK hP 5 CW_5 rfl 8 (by decide) (ht (.fieldLink RX6 51 "CloneVolumes$Reader" "start" "I") fl_X6_51) (fun _ h9 => h9) rfl eX6_isName_34.2.2.2.2.1 ?_
    refine lv_isub hx hb eX6_isName_34.2.2.2.2.2.1 ?_
    refine z_topi (y := i2 ((gI s5 109) - (gI s5 108))) (i2_sub (gI s5 109) (gI s5 108)) ?_
    refine lv_bipush (v := 6) hx hb eX6_isName_34.2.2.2.2.2.2.1 (by decide) ?_
    obtain ⟨hr6, h⟩ := rg_e h
    refine lv_icmp_le (tgt := 64) hx hb eX6_isName_34.2.2.2.2.2.2.2 (by decide) (fun c7 => ?_) (fun c7 => ?_)
    · have h := if_t ((i2_le (x := ((gI s5 109) - (gI s5 108))) (y := 6) hr6 (by decide)).mp c7) h
      exact J64 s5 _ _ _ ⟨hP, hS, lv_sub hl [] rfl, h⟩
    · have h := if_f (mt (i2_le (x := ((gI s5 109) - (gI s5 108))) (y := 6) hr6 (by decide)).mpr c7) h
      refine lv_aload_n hx hb eX6_isName_49.1 rfl (lv_at hl 0 rfl) ?_
      refine lv_iconst (v := 1) hx hb eX6_isName_49.2.1 (by decide) ?_
      refine lv_aload_n hx hb eX6_isName_49.2.2.1 rfl (lv_at hl 0 rfl) ?_
      refine va_get (D := D) (ci := 6) (v := .int (i2 (gI s5 108))) (C := RX6) (T := TX6) (N := 12) hx hb ht inX6 hown hK hP 5 CW_5 rfl 8 (by decide) (ht (.fieldLink RX6 51 "CloneVolumes$Reader" "start" "I") fl_X6_51) (fun _ h9 => h9) rfl eX6_isName_49.2.2.2.1 ?_
      refine lv_bipush (v := 6) hx hb eX6_isName_49.2.2.2.2.1 (by decide) ?_
      refine lv_iadd hx hb eX6_isName_49.2.2.2.2.2.1 ?_
      refine z_topi (y := i2 ((gI s5 108) + 6)) (i2_add (gI s5 108) 6) ?_
      obtain ⟨⟨r10, s9⟩, hc8, h⟩ := bn_e h
      refine ywV (r0 := i2 r10) (As := [.int 1, .int (i2 ((gI s5 108) + 6))]) (rest := []) (C := RX6) (n := 2) (ws' := CS D a s9) ⟨hx, hb, hml, hown, ht⟩ (k_x6_fail l D a 1 ((gI s5 108) + 6) _ _ _ hc8) (zgV ml_X6_54 im_X6_fail se_X6_fail in_X6 co_X6_fail) rfl rfl (by decide +kernel) ⟨Nat.le_of_ble_eq_true rfl, Nat.le_of_ble_eq_true rfl⟩ hN hK hP (hDD _) hS hA 5 CW_5 rfl rfl rfl hl.1 rfl (Nat.le_of_ble_eq_true rfl) eX6_isName_49.2.2.2.2.2.2.1 ⟨Nat.le_of_ble_eq_true rfl, Nat.le_of_ble_eq_true rfl⟩ (fun H locs hP hS => ?_)
      obtain ⟨hr11, h⟩ := rg_e h
      refine lv_if_eq (tgt := 68) hx hb eX6_isName_49.2.2.2.2.2.2.2 (by decide) (fun c12 => ?_) (fun c12 => ?_)
      · have h := if_t ((i2_eq (x := r10) (y := 0) hr11 (by decide)).mp c12) h
        refine lv_iconst (v := 0) hx hb eX6_isName_64.2.2.1 (by decide) ?_
        exact J69 (0, s9) _ _ _ ⟨hP, hS, lv_sub hl [] rfl, h⟩
      · have h := if_f (mt (i2_eq (x := r10) (y := 0) hr11 (by decide)).mpr c12) h
        exact J64 s9 _ _ _ ⟨hP, hS, lv_sub hl [] rfl, h⟩
  refine y_head (pcJ := 25) (σ := MS) (fun u H locs ls => va_P D vwCl (CS D a u) H ∧ va_S A s₀.heap H locs ∧ lv_has ls 1 [(0, .ref (a 5))] ∧ m_x6_isName_J25 u = some o) (fun u => []) (fun u H locs ls hI => ?_) (fun J25 => ?_)
  · obtain ⟨hP, hS, hl, h⟩ := hI
    obtain ⟨s13, rfl⟩ : ∃ z, z = u := ⟨u, rfl⟩
    have hP : va_P D vwCl (CS D a s13) H := hP
    have hl : lv_has ls 1 [(0, .ref (a 5))] := hl
    have h : m_x6_isName_J25 s13 = some o := h
    unfold m_x6_isName_J25 at h
    refine lv_aload_n hx hb eX6_isName_17.2.2.2.1 rfl (lv_at hl 0 rfl) ?_
    refine lv_iconst (v := 1) hx hb eX6_isName_17.2.2.2.2.1 (by decide) ?_
    refine lv_aload_n hx hb eX6_isName_17.2.2.2.2.2.1 rfl (lv_at hl 0 rfl) ?_
    refine va_get (D := D) (ci := 6) (v := .int (i2 (gI s13 108))) (C := RX6) (T := TX6) (N := 12) hx hb ht inX6 hown hK hP 5 CW_5 rfl 8 (by decide) (ht (.fieldLink RX6 51 "CloneVolumes$Reader" "start" "I") fl_X6_51) (fun _ h9 => h9) rfl eX6_isName_17.2.2.2.2.2.2.1 ?_
    obtain ⟨⟨r16, s15⟩, hc14, h⟩ := bn_e h
    refine ywV (r0 := i2 r16) (As := [.int 1, .int (i2 (gI s13 108))]) (rest := []) (C := RX6) (n := 2) (ws' := CS D a s15) ⟨hx, hb, hml, hown, ht⟩ (k_x6_fail l D a 1 (gI s13 108) _ _ _ hc14) (zgV ml_X6_54 im_X6_fail se_X6_fail in_X6 co_X6_fail) rfl rfl (by decide +kernel) ⟨Nat.le_of_ble_eq_true rfl, Nat.le_of_ble_eq_true rfl⟩ hN hK hP (hDD _) hS hA 5 CW_5 rfl rfl rfl hl.1 rfl (Nat.le_of_ble_eq_true rfl) eX6_isName_17.2.2.2.2.2.2.2 ⟨Nat.le_of_ble_eq_true rfl, Nat.le_of_ble_eq_true rfl⟩ (fun H locs hP hS => ?_)
    obtain ⟨hb17, h⟩ := bo_e h
    obtain rfl := Option.some.inj h
    exact W.zret (v := (i2 r16)) hx hb hr (bo_n hb17) (fun t ht hW => ⟨⟨_, (), rfl, rfl, by rw [ht]; exact hP, va_K.moved hW.alike hK, hDD _⟩, hS.F ht⟩) hS.2.2 eX6_isName_34.1
  refine lv_aload_n hx hb eX6_expectWord_15.2.2.2.2.2.2.2 rfl (lv_at hl 0 rfl) ?_
  refine va_get (D := D) (ci := 6) (v := .int (i2 (gI s 107))) (C := RX6) (T := TX6) (N := 12) hx hb ht inX6 hown hK hP 5 CW_5 rfl 7 (by decide) (ht (.fieldLink RX6 44 "CloneVolumes$Reader" "kind" "I") fl_X6_44) (fun _ h9 => h9) rfl eX6_isName_1.1 ?_
  refine lv_iconst (v := 1) hx hb eX6_isName_1.2.1 (by decide) ?_
  obtain ⟨hr18, h⟩ := rg_e h
  refine lv_icmp_ne (tgt := 25) hx hb eX6_isName_1.2.2.1 (by decide) (fun c19 => ?_) (fun c19 => ?_)
  · have h := if_f (mt (i2_eq (x := (gI s 107)) (y := 1) hr18 (by decide)).mpr c19) h
    exact J25 s _ _ _ ⟨hP, hS, lv_sub hl [0] rfl, h⟩
  · have h := if_t ((i2_eq (x := (gI s 107)) (y := 1) hr18 (by decide)).mp c19) h
    refine lv_aload_n hx hb eX6_isName_1.2.2.2.1 rfl (lv_at hl 0 rfl) ?_
    refine va_get (D := D) (ci := 6) (v := .int (i2 (gI s 110))) (C := RX6) (T := TX6) (N := 12) hx hb ht inX6 hown hK hP 5 CW_5 rfl 10 (by decide) (ht (.fieldLink RX6 72 "CloneVolumes$Reader" "word" "I") fl_X6_72) (fun _ h9 => h9) rfl eX6_isName_1.2.2.2.2.1 ?_
    refine lv_iconst (v := (-1)) hx hb eX6_isName_1.2.2.2.2.2.1 (by decide) ?_
    obtain ⟨hr20, h⟩ := rg_e h
    refine lv_icmp_eq (tgt := 35) hx hb eX6_isName_1.2.2.2.2.2.2.1 (by decide) (fun c21 => ?_) (fun c21 => ?_)
    · rw [show ((-1) : Int32) = i2 (-1) from by decide] at c21
      have h := if_t ((i2_eq (x := (gI s 110)) (y := (-1)) hr20 (by decide)).mp c21) h
      exact J35 s _ _ _ ⟨hP, hS, lv_sub hl [0] rfl, h⟩
    · rw [show ((-1) : Int32) = i2 (-1) from by decide] at c21
      have h := if_f (mt (i2_eq (x := (gI s 110)) (y := (-1)) hr20 (by decide)).mpr c21) h
      refine lv_aload_n hx hb eX6_isName_1.2.2.2.2.2.2.2 rfl (lv_at hl 0 rfl) ?_
      refine va_get (D := D) (ci := 6) (v := .int (i2 (gI s 110))) (C := RX6) (T := TX6) (N := 12) hx hb ht inX6 hown hK hP 5 CW_5 rfl 10 (by decide) (ht (.fieldLink RX6 72 "CloneVolumes$Reader" "word" "I") fl_X6_72) (fun _ h9 => h9) rfl eX6_isName_17.1 ?_
      refine lv_bipush (v := 27) hx hb eX6_isName_17.2.1 (by decide) ?_
      obtain ⟨hr22, h⟩ := rg_e h
      refine lv_icmp_ge (tgt := 35) hx hb eX6_isName_17.2.2.1 (by decide) (fun c23 => ?_) (fun c23 => ?_)
      · have h := if_t ((i2_le (x := 27) (y := (gI s 110)) (by decide) hr22).mp c23) h
        exact J35 s _ _ _ ⟨hP, hS, lv_sub hl [0] rfl, h⟩
      · have h := if_f (mt (i2_le (x := 27) (y := (gI s 110)) (by decide) hr22).mpr c23) h
        exact J25 s _ _ _ ⟨hP, hS, lv_sub hl [0] rfl, h⟩
set_option maxHeartbeats 4000000 in
set_option maxRecDepth 100000 in
theorem k_x5_letterAt (l : Launch) (D : va_G) (a : Nat → Nat) (p1 : Int) (p2 : Int) (s : MS) (o : Int) (h : m_x5_letterAt p1 p2 s = some o) : yRi l yX5_letterAt cX5_letterAt 3 (some .int) { frames := 1, cells := 0, slots := 0, locals := 60 } D [.ref (a 3), .int (i2 p1), .int (i2 p2)] (CS D a s) (i2 o) := by
  refine Met.ofW (cc := cX5_letterAt) (maxL := 3) (ret := (some .int)) (by decide) rfl ?_
  intro p e s₀ m args below meth c s₁ B hml hv
  obtain ⟨rfl, ⟨hP, hK⟩, hN⟩ := hv
  have hx := B.exec
  have hb := B.bytes
  have hr := B.returns
  have hts := atoms_spec (ws := wz yX5_letterAt cX5_letterAt 3 (some .int)) B.pre
  have ht : ∀ w ∈ lw_gd, w.before _ s₀ = true := fun w h => hts w (List.mem_cons_of_mem _ h)
  have hown : s₀.vm.findClass RX5 = some m.cls := findClass_of_methodNamed B.named
  have hlocks := B.notSynchronized
  have hS : va_S (fun _ => False) s₀.heap s₀.heap [] := va_S.rf
  have hl := lv_entry ([.ref (a 3), .int (i2 p1), .int (i2 p2)]) (n := 3) (Nat.le_of_ble_eq_true rfl)
  rw [lg_entry_eq]
  generalize (lg_sl ([.ref (a 3), .int (i2 p1), .int (i2 p2)]) ++ List.replicate (3 - (lg_sl ([.ref (a 3), .int (i2 p1), .int (i2 p2)])).length) Slot.unset).toArray = ls at hl ⊢
  have hl : lv_has ls 3 [(0, .ref (a 3)), (1, .int (i2 p1)), (2, .int (i2 p2))] := hl
  unfold m_x5_letterAt at h
  refine y_head (pcJ := 19) (σ := Int) (fun u H locs ls => va_P D vwCl (CS D a s) H ∧ va_S (fun _ => False) s₀.heap H locs ∧ lv_has ls 3 [] ∧ m_x5_letterAt_J19 s u = some o) (fun u => [.int (i2 u)]) (fun u H locs ls hI => ?_) (fun J19 => ?_)
  · obtain ⟨hP, hS, hl, h⟩ := hI
    obtain ⟨x1, rfl⟩ : ∃ z, z = u := ⟨u, rfl⟩
    have hP : va_P D vwCl (CS D a s) H := hP
    have hl : lv_has ls 3 [] := hl
    have h : m_x5_letterAt_J19 s x1 = some o := h
    unfold m_x5_letterAt_J19 at h
    obtain rfl := Option.some.inj h
    exact W.iret (v := (i2 x1)) hx hb hr (fun t ht hW => ⟨⟨_, (), rfl, rfl, trivial⟩, hS.F ht⟩) hS.2.2 eX5_letterAt_19.1
  refine lv_iload_n hx hb eX5_addVolume_62.2.2.2.2.1 rfl (lv_at hl 1 rfl) ?_
  refine lv_iload_n hx hb eX5_addVolume_62.2.2.2.2.2.1 rfl (lv_at hl 2 rfl) ?_
  obtain ⟨hr2, h⟩ := rg_e h
  obtain ⟨hr3, h⟩ := rg_e h
  refine lv_icmp_ge (tgt := 18) hx hb eX5_addVolume_62.2.2.2.2.2.2.1 (by decide) (fun c4 => ?_) (fun c4 => ?_)
  · have h := if_t ((i2_le (x := p2) (y := p1) hr3 hr2).mp c4) h
    refine lv_iconst (v := 0) hx hb eX5_letterAt_6.2.2.2.2.2.2.2 (by decide) ?_
    exact J19 0 _ _ _ ⟨hP, hS, lv_sub hl [] rfl, h⟩
  · have h := if_f (mt (i2_le (x := p2) (y := p1) hr3 hr2).mpr c4) h
    refine lv_aload_n hx hb eX5_addVolume_62.2.2.2.2.2.2.2 rfl (lv_at hl 0 rfl) ?_
    refine lv_iload_n hx hb eX5_letterAt_6.1 rfl (lv_at hl 1 rfl) ?_
    obtain ⟨r6, hc5, h⟩ := bn_e h
    refine ycV (r0 := i2 r6) (As := [.int (i2 p1)]) (rest := []) (C := RX9) (n := 1) ⟨hx, hb, hml, hown, ht⟩ (k_x9_at l D a p1 _ _ hc5) (zgV ml_X5_63 im_X9_at se_X9_at in_X9 co_X9_at) rfl rfl (by decide +kernel) ⟨Nat.le_of_ble_eq_true rfl, Nat.le_of_ble_eq_true rfl⟩ hN hK hP hS 3 CW_3 rfl rfl rfl hl.1 rfl (Nat.le_of_ble_eq_true rfl) eX5_letterAt_6.2.1 ⟨Nat.le_of_ble_eq_true rfl, Nat.le_of_ble_eq_true rfl⟩ (fun H locs hP hS => ?_)
    refine lv_bipush (v := 97) hx hb eX5_letterAt_6.2.2.1 (by decide) ?_
    refine lv_isub hx hb eX5_letterAt_6.2.2.2.1 ?_
    refine z_topi (y := i2 (r6 - 97)) (i2_sub r6 97) ?_
    refine lv_iconst (v := 1) hx hb eX5_letterAt_6.2.2.2.2.1 (by decide) ?_
    refine lv_iadd hx hb eX5_letterAt_6.2.2.2.2.2.1 ?_
    refine z_topi (y := i2 ((r6 - 97) + 1)) (i2_add (r6 - 97) 1) ?_
    refine lv_goto (tgt := 19) hx hb eX5_letterAt_6.2.2.2.2.2.2.1 (by decide) ?_
    exact J19 ((r6 - 97) + 1) _ _ _ ⟨hP, hS, lv_sub hl [] rfl, h⟩
set_option maxHeartbeats 4000000 in
set_option maxRecDepth 100000 in
theorem k_x5_volumeNamed (l : Launch) (D : va_G) (a : Nat → Nat) (p1 : Int) (p2 : Int) (s : MS) (o : Int) (h : m_x5_volumeNamed p1 p2 s = some o) : yRi l yX5_volumeNamed cX5_volumeNamed 7 (some .int) { frames := 2, cells := 0, slots := 0, locals := 120 } D [.ref (a 39), .ref (a 3), .int (i2 p1), .int (i2 p2)] (CS D a s) (i2 o) := by
  refine Met.ofW (cc := cX5_volumeNamed) (maxL := 7) (ret := (some .int)) (by decide) rfl ?_
  intro p e s₀ m args below meth c s₁ B hml hv
  obtain ⟨rfl, ⟨hP, hK⟩, hN⟩ := hv
  have hx := B.exec
  have hb := B.bytes
  have hr := B.returns
  have hts := atoms_spec (ws := wz yX5_volumeNamed cX5_volumeNamed 7 (some .int)) B.pre
  have ht : ∀ w ∈ lw_gd, w.before _ s₀ = true := fun w h => hts w (List.mem_cons_of_mem _ h)
  have hown : s₀.vm.findClass RX5 = some m.cls := findClass_of_methodNamed B.named
  have hlocks := B.notSynchronized
  have hS : va_S (fun _ => False) s₀.heap s₀.heap [] := va_S.rf
  have hl := lv_entry ([.ref (a 39), .ref (a 3), .int (i2 p1), .int (i2 p2)]) (n := 7) (Nat.le_of_ble_eq_true rfl)
  rw [lg_entry_eq]
  generalize (lg_sl ([.ref (a 39), .ref (a 3), .int (i2 p1), .int (i2 p2)]) ++ List.replicate (7 - (lg_sl ([.ref (a 39), .ref (a 3), .int (i2 p1), .int (i2 p2)])).length) Slot.unset).toArray = ls at hl ⊢
  have hl : lv_has ls 7 [(0, .ref (a 39)), (1, .ref (a 3)), (2, .int (i2 p1)), (3, .int (i2 p2))] := hl
  unfold m_x5_volumeNamed at h
  refine y_loop (pcJ := 3) (σ := Int × Int × Int) (fun n u H locs ls => va_P D vwCl (CS D a s) H ∧ va_S (fun _ => False) s₀.heap H locs ∧ lv_has ls 7 [(0, .ref (a 39)), (1, .ref (a 3)), (2, .int (i2 u.1)), (3, .int (i2 u.2.1)), (4, .int (i2 u.2.2))] ∧ m_x5_volumeNamed_L3 s n u.1 u.2.1 u.2.2 = some o) (fun u => []) (fun u H locs ls hI => by obtain ⟨_, _, _, h⟩ := hI; cases h) (fun n3 ih3 u H locs ls hI => ?_) (fun J3 => ?_)
  · obtain ⟨hP, hS, hl, h⟩ := hI
    obtain ⟨x1, x2, x3⟩ := u
    have hP : va_P D vwCl (CS D a s) H := hP
    have hl : lv_has ls 7 [(0, .ref (a 39)), (1, .ref (a 3)), (2, .int (i2 x1)), (3, .int (i2 x2)), (4, .int (i2 x3))] := hl
    have h : m_x5_volumeNamed_b3 s (m_x5_volumeNamed_L3 s n3) x1 x2 x3 = some o := h
    unfold m_x5_volumeNamed_b3 at h
    refine y_loop (pcJ := 18) (σ := Int × Int × Int × Int × Int) (fun n u H locs ls => va_P D vwCl (CS D a s) H ∧ va_S (fun _ => False) s₀.heap H locs ∧ lv_has ls 7 [(0, .ref (a 39)), (1, .ref (a 3)), (2, .int (i2 u.1)), (3, .int (i2 u.2.1)), (4, .int (i2 u.2.2.1)), (5, .int (i2 u.2.2.2.1)), (6, .int (i2 u.2.2.2.2))] ∧ m_x5_volumeNamed_L18 s (m_x5_volumeNamed_L3 s n3) n u.1 u.2.1 u.2.2.1 u.2.2.2.1 u.2.2.2.2 = some o) (fun u => []) (fun u H locs ls hI => by obtain ⟨_, _, _, h⟩ := hI; cases h) (fun n18 ih18 u H locs ls hI => ?_) (fun J18 => ?_)
    · obtain ⟨hP, hS, hl, h⟩ := hI
      obtain ⟨x4, x5, x6, x7, x8⟩ := u
      have hP : va_P D vwCl (CS D a s) H := hP
      have hl : lv_has ls 7 [(0, .ref (a 39)), (1, .ref (a 3)), (2, .int (i2 x4)), (3, .int (i2 x5)), (4, .int (i2 x6)), (5, .int (i2 x7)), (6, .int (i2 x8))] := hl
      have h : m_x5_volumeNamed_b18 s (m_x5_volumeNamed_L3 s n3) (m_x5_volumeNamed_L18 s (m_x5_volumeNamed_L3 s n3) n18) x4 x5 x6 x7 x8 = some o := h
      unfold m_x5_volumeNamed_b18 at h
      refine y_head (pcJ := 60) (σ := Int × Int × Int × Int × Int) (fun u H locs ls => va_P D vwCl (CS D a s) H ∧ va_S (fun _ => False) s₀.heap H locs ∧ lv_has ls 7 [(0, .ref (a 39)), (1, .ref (a 3)), (2, .int (i2 u.1)), (3, .int (i2 u.2.1)), (4, .int (i2 u.2.2.1)), (6, .int (i2 u.2.2.2.1))] ∧ m_x5_volumeNamed_J60 s (m_x5_volumeNamed_L3 s n3) (m_x5_volumeNamed_L18 s (m_x5_volumeNamed_L3 s n3) n18) u.1 u.2.1 u.2.2.1 u.2.2.2.1 u.2.2.2.2 = some o) (fun u => [.int (i2 u.2.2.2.2)]) (fun u H locs ls hI => ?_) (fun J60 => ?_)
      · obtain ⟨hP, hS, hl, h⟩ := hI
        obtain ⟨x9, x10, x11, x12, x13⟩ := u
        have hP : va_P D vwCl (CS D a s) H := hP
        have hl : lv_has ls 7 [(0, .ref (a 39)), (1, .ref (a 3)), (2, .int (i2 x9)), (3, .int (i2 x10)), (4, .int (i2 x11)), (6, .int (i2 x12))] := hl
        have h : m_x5_volumeNamed_J60 s (m_x5_volumeNamed_L3 s n3) (m_x5_volumeNamed_L18 s (m_x5_volumeNamed_L3 s n3) n18) x9 x10 x11 x12 x13 = some o := h
        unfold m_x5_volumeNamed_J60 at h
        refine lv_istore (lv' := [(5, .int (i2 x13)), (0, .ref (a 39)), (1, .ref (a 3)), (2, .int (i2 x9)), (3, .int (i2 x10)), (4, .int (i2 x11)), (6, .int (i2 x12))]) hx hb eX5_volumeNamed_56.2.2.1 hl (by decide) rfl (fun ls hl => ?_)
        refine lv_iinc (v := i2 (x12 + 1)) (lv' := [(6, .int (i2 (x12 + 1))), (5, .int (i2 x13)), (0, .ref (a 39)), (1, .ref (a 3)), (2, .int (i2 x9)), (3, .int (i2 x10)), (4, .int (i2 x11))]) hx hb eX5_volumeNamed_56.2.2.2.1 hl (k := 6) rfl (i2_add x12 1) (by decide) rfl (fun ls hl => ?_)
        refine lv_goto (tgt := 18) hx hb eX5_volumeNamed_56.2.2.2.2.1 (by decide) ?_
        exact ih18 (x9, x10, x11, x13, x12 + 1) _ _ _ ⟨hP, hS, lv_sub hl [2, 3, 4, 5, 6, 1, 0] rfl, h⟩
      refine y_head (pcJ := 59) (σ := Int × Int × Int × Int) (fun u H locs ls => va_P D vwCl (CS D a s) H ∧ va_S (fun _ => False) s₀.heap H locs ∧ lv_has ls 7 [(0, .ref (a 39)), (1, .ref (a 3)), (2, .int (i2 u.1)), (3, .int (i2 u.2.1)), (4, .int (i2 u.2.2.1)), (6, .int (i2 u.2.2.2))] ∧ m_x5_volumeNamed_J59 s (m_x5_volumeNamed_L3 s n3) (m_x5_volumeNamed_L18 s (m_x5_volumeNamed_L3 s n3) n18) u.1 u.2.1 u.2.2.1 u.2.2.2 = some o) (fun u => []) (fun u H locs ls hI => ?_) (fun J59 => ?_)
      · obtain ⟨hP, hS, hl, h⟩ := hI
        obtain ⟨x14, x15, x16, x17⟩ := u
        have hP : va_P D vwCl (CS D a s) H := hP
        have hl : lv_has ls 7 [(0, .ref (a 39)), (1, .ref (a 3)), (2, .int (i2 x14)), (3, .int (i2 x15)), (4, .int (i2 x16)), (6, .int (i2 x17))] := hl
        have h : m_x5_volumeNamed_J59 s (m_x5_volumeNamed_L3 s n3) (m_x5_volumeNamed_L18 s (m_x5_volumeNamed_L3 s n3) n18) x14 x15 x16 x17 = some o := h
        unfold m_x5_volumeNamed_J59 at h
        refine lv_iconst (v := 0) hx hb eX5_volumeNamed_56.2.1 (by decide) ?_
        exact J60 (x14, x15, x16, x17, 0) _ _ _ ⟨hP, hS, lv_sub hl [0, 1, 2, 3, 4, 5] rfl, h⟩
      refine lv_iload hx hb eX5_volumeNamed_13.2.2.2.1 (lv_at hl 6 rfl) ?_
      refine lv_bipush (v := 6) hx hb eX5_volumeNamed_13.2.2.2.2.1 (by decide) ?_
      obtain ⟨hr18, h⟩ := rg_e h
      refine lv_icmp_ge (tgt := 68) hx hb eX5_volumeNamed_13.2.2.2.2.2.1 (by decide) (fun c19 => ?_) (fun c19 => ?_)
      · have h := if_t ((i2_le (x := 6) (y := x8) (by decide) hr18).mp c19) h
        refine lv_iload hx hb eX5_volumeNamed_56.2.2.2.2.2.1 (lv_at hl 5 rfl) ?_
        obtain ⟨hr20, h⟩ := rg_e h
        refine lv_if_eq (tgt := 76) hx hb eX5_volumeNamed_56.2.2.2.2.2.2.1 (by decide) (fun c21 => ?_) (fun c21 => ?_)
        · have h := if_t ((i2_eq (x := x7) (y := 0) hr20 (by decide)).mp c21) h
          refine lv_iinc (v := i2 (x6 + 1)) (lv' := [(4, .int (i2 (x6 + 1))), (0, .ref (a 39)), (1, .ref (a 3)), (2, .int (i2 x4)), (3, .int (i2 x5)), (5, .int (i2 x7)), (6, .int (i2 x8))]) hx hb eX5_volumeNamed_75.2.1 hl (k := 4) rfl (i2_add x6 1) (by decide) rfl (fun ls hl => ?_)
          refine lv_goto (tgt := 3) hx hb eX5_volumeNamed_75.2.2.1 (by decide) ?_
          exact ih3 (x4, x5, x6 + 1) _ _ _ ⟨hP, hS, lv_sub hl [1, 2, 3, 4, 0] rfl, h⟩
        · have h := if_f (mt (i2_eq (x := x7) (y := 0) hr20 (by decide)).mpr c21) h
          refine lv_iload hx hb eX5_volumeNamed_56.2.2.2.2.2.2.2 (lv_at hl 4 rfl) ?_
          obtain rfl := Option.some.inj h
          exact W.iret (v := (i2 x6)) hx hb hr (fun t ht hW => ⟨⟨_, (), rfl, rfl, trivial⟩, hS.F ht⟩) hS.2.2 eX5_volumeNamed_75.1
      · have h := if_f (mt (i2_le (x := 6) (y := x8) (by decide) hr18).mpr c19) h
        refine lv_iload hx hb eX5_volumeNamed_13.2.2.2.2.2.2.1 (lv_at hl 5 rfl) ?_
        obtain ⟨hr22, h⟩ := rg_e h
        refine lv_if_eq (tgt := 59) hx hb eX5_volumeNamed_13.2.2.2.2.2.2.2 (by decide) (fun c23 => ?_) (fun c23 => ?_)
        · have h := if_t ((i2_eq (x := x7) (y := 0) hr22 (by decide)).mp c23) h
          exact J59 (x4, x5, x6, x8) _ _ _ ⟨hP, hS, lv_sub hl [0, 1, 2, 3, 4, 6] rfl, h⟩
        · have h := if_f (mt (i2_eq (x := x7) (y := 0) hr22 (by decide)).mpr c23) h
          refine lv_aload_n hx hb eX5_volumeNamed_30.1 rfl (lv_at hl 0 rfl) ?_
          refine va_get (D := D) (ci := 5) (v := .ref (a 40)) (C := RX5) (T := TX5) (N := 14) hx hb ht inX5 hown hK hP 39 CW_39 rfl 6 (by decide) (ht (.fieldLink RX5 9 "CloneVolumes$Plan" "names" "[I") fl_X5_9) (fun _ h9 => h9) rfl eX5_volumeNamed_30.2.1 ?_
          refine lv_iload hx hb eX5_volumeNamed_30.2.2.1 (lv_at hl 4 rfl) ?_
          refine lv_bipush (v := 6) hx hb eX5_volumeNamed_30.2.2.2.1 (by decide) ?_
          refine lv_imul hx hb eX5_volumeNamed_30.2.2.2.2.1 ?_
          refine z_topi (y := i2 (x6 * 6)) (i2_mul x6 6) ?_
          refine lv_iload hx hb eX5_volumeNamed_30.2.2.2.2.2.1 (lv_at hl 6 rfl) ?_
          refine lv_iadd hx hb eX5_volumeNamed_30.2.2.2.2.2.2.1 ?_
          refine z_topi (y := i2 ((x6 * 6) + x8)) (i2_add (x6 * 6) x8) ?_
          obtain ⟨y24, ey24, iy24, h⟩ := rdI_e h
          refine ya_iald (i := ((x6 * 6) + x8)) hx hb hK hP 40 0 CW_40 rfl (by decide) ey24 iy24 eX5_volumeNamed_30.2.2.2.2.2.2.2 ?_
          refine lv_aload_n hx hb eX5_volumeNamed_43.1 rfl (lv_at hl 1 rfl) ?_
          refine lv_iload_n hx hb eX5_volumeNamed_43.2.1 rfl (lv_at hl 2 rfl) ?_
          refine lv_iload hx hb eX5_volumeNamed_43.2.2.1 (lv_at hl 6 rfl) ?_
          refine lv_iadd hx hb eX5_volumeNamed_43.2.2.2.1 ?_
          refine z_topi (y := i2 (x4 + x8)) (i2_add x4 x8) ?_
          refine lv_iload_n hx hb eX5_volumeNamed_43.2.2.2.2.1 rfl (lv_at hl 3 rfl) ?_
          obtain ⟨r26, hc25, h⟩ := bn_e h
          refine ycS (r0 := i2 r26) (As := [.ref (a 3), .int (i2 (x4 + x8)), .int (i2 x5)]) (rest := [.int (i2 y24)]) (n := 3) ⟨hx, hb, hml, hown, ht⟩ (k_x5_letterAt l D a (x4 + x8) x5 _ _ hc25) (zgT ml_X5_59 st_X5_letterAt in_X5 co_X5_letterAt) rfl rfl (by decide +kernel) ⟨Nat.le_of_ble_eq_true rfl, Nat.le_of_ble_eq_true rfl⟩ hN hK hP hS rfl hl.1 rfl (Nat.le_of_ble_eq_true rfl) eX5_volumeNamed_43.2.2.2.2.2.1 ⟨Nat.le_of_ble_eq_true rfl, Nat.le_of_ble_eq_true rfl⟩ (fun H locs hP hS => ?_)
          obtain ⟨hr27, h⟩ := rg_e h
          obtain ⟨hr28, h⟩ := rg_e h
          refine lv_icmp_ne (tgt := 59) hx hb eX5_volumeNamed_43.2.2.2.2.2.2.1 (by decide) (fun c29 => ?_) (fun c29 => ?_)
          · have h := if_f (mt (i2_eq (x := y24) (y := r26) hr27 hr28).mpr c29) h
            exact J59 (x4, x5, x6, x8) _ _ _ ⟨hP, hS, lv_sub hl [0, 1, 2, 3, 4, 6] rfl, h⟩
          · have h := if_t ((i2_eq (x := y24) (y := r26) hr27 hr28).mp c29) h
            refine lv_iconst (v := 1) hx hb eX5_volumeNamed_43.2.2.2.2.2.2.2 (by decide) ?_
            refine lv_goto (tgt := 60) hx hb eX5_volumeNamed_56.1 (by decide) ?_
            exact J60 (x4, x5, x6, x8, 1) _ _ _ ⟨hP, hS, lv_sub hl [0, 1, 2, 3, 4, 6] rfl, h⟩
    refine lv_iload hx hb eX5_letterAt_19.2.2.2.1 (lv_at hl 4 rfl) ?_
    refine lv_aload_n hx hb eX5_letterAt_19.2.2.2.2.1 rfl (lv_at hl 0 rfl) ?_
    refine va_get (D := D) (ci := 5) (v := .int (i2 (gI s 784))) (C := RX5) (T := TX5) (N := 14) hx hb ht inX5 hown hK hP 39 CW_39 rfl 4 (by decide) (ht (.fieldLink RX5 47 "CloneVolumes$Plan" "volumes" "I") fl_X5_47) (fun _ h9 => h9) rfl eX5_letterAt_19.2.2.2.2.2.1 ?_
    obtain ⟨hr30, h⟩ := rg_e h
    obtain ⟨hr31, h⟩ := rg_e h
    refine lv_icmp_ge (tgt := 82) hx hb eX5_letterAt_19.2.2.2.2.2.2.1 (by decide) (fun c32 => ?_) (fun c32 => ?_)
    · have h := if_t ((i2_le (x := (gI s 784)) (y := x3) hr31 hr30).mp c32) h
      refine lv_iconst (v := (-1)) hx hb eX5_volumeNamed_75.2.2.2.1 (by decide) ?_
      obtain rfl := Option.some.inj h
      exact W.iret (v := (-1)) hx hb hr (fun t ht hW => ⟨⟨_, (), rfl, rfl, trivial⟩, hS.F ht⟩) hS.2.2 eX5_volumeNamed_75.2.2.2.2.1
    · have h := if_f (mt (i2_le (x := (gI s 784)) (y := x3) hr31 hr30).mpr c32) h
      refine lv_iconst (v := 1) hx hb eX5_letterAt_19.2.2.2.2.2.2.2 (by decide) ?_
      refine lv_istore (lv' := [(5, .int 1), (0, .ref (a 39)), (1, .ref (a 3)), (2, .int (i2 x1)), (3, .int (i2 x2)), (4, .int (i2 x3))]) hx hb eX5_volumeNamed_13.1 hl (by decide) rfl (fun ls hl => ?_)
      refine lv_iconst (v := 0) hx hb eX5_volumeNamed_13.2.1 (by decide) ?_
      refine lv_istore (lv' := [(6, .int 0), (5, .int 1), (0, .ref (a 39)), (1, .ref (a 3)), (2, .int (i2 x1)), (3, .int (i2 x2)), (4, .int (i2 x3))]) hx hb eX5_volumeNamed_13.2.2.1 hl (by decide) rfl (fun ls hl => ?_)
      exact J18 FU (x1, x2, x3, 1, 0) _ _ _ ⟨hP, hS, lv_sub hl [2, 3, 4, 5, 6, 1, 0] rfl, h⟩
  refine lv_iconst (v := 0) hx hb eX5_letterAt_19.2.1 (by decide) ?_
  refine lv_istore (lv' := [(4, .int 0), (0, .ref (a 39)), (1, .ref (a 3)), (2, .int (i2 p1)), (3, .int (i2 p2))]) hx hb eX5_letterAt_19.2.2.1 hl (by decide) rfl (fun ls hl => ?_)
  exact J3 FU (p1, p2, 0) _ _ _ ⟨hP, hS, lv_sub hl [1, 2, 3, 4, 0] rfl, h⟩
set_option maxHeartbeats 4000000 in
set_option maxRecDepth 100000 in
theorem k_x6_expectVolume (l : Launch) (D : va_G) (a : Nat → Nat) (sz : Nat) (s : MS) (o : (Int × MS)) (h : m_x6_expectVolume s = some o) : yWi l yX6_expectVolume cX6_expectVolume 3 (some .int) { frames := 3, cells := 0, slots := 0, locals := 180 } D sz [.ref (a 5), .ref (a 39)] (CS D a s) (CS D a o.2) (i2 o.1) := by
  refine Met.ofW (cc := cX6_expectVolume) (maxL := 3) (ret := (some .int)) (by decide) rfl ?_
  intro p e s₀ m args below meth c s₁ B hml hv
  obtain ⟨rfl, ⟨hsz, hP, hK, hD0⟩, hN⟩ := hv
  have hx := B.exec
  have hb := B.bytes
  have hr := B.returns
  have hts := atoms_spec (ws := wz yX6_expectVolume cX6_expectVolume 3 (some .int)) B.pre
  have ht : ∀ w ∈ lw_gd, w.before _ s₀ = true := fun w h => hts w (List.mem_cons_of_mem _ h)
  have hown : s₀.vm.findClass RX6 = some m.cls := findClass_of_methodNamed B.named
  have hlocks := B.notSynchronized
  subst hsz
  have hD := hD0.self (sz := s₀.heap.size)
  generalize hAe : va_A (CS D a s) s₀.heap.size = A at hD ⊢
  have hA : ∀ q : Nat, s₀.heap.size ≤ q → A q := fun q h => by rw [← hAe]; exact Or.inr h
  have hS : va_S A s₀.heap s₀.heap [] := va_S.rf
  have hDD : ∀ t : MS, va_D A (CS D a t) := fun t => CW_D t hD
  have hl := lv_entry ([.ref (a 5), .ref (a 39)]) (n := 3) (Nat.le_of_ble_eq_true rfl)
  rw [lg_entry_eq]
  generalize (lg_sl ([.ref (a 5), .ref (a 39)]) ++ List.replicate (3 - (lg_sl ([.ref (a 5), .ref (a 39)])).length) Slot.unset).toArray = ls at hl ⊢
  have hl : lv_has ls 3 [(0, .ref (a 5)), (1, .ref (a 39))] := hl
  unfold m_x6_expectVolume at h
  refine y_head (pcJ := 41) (σ := Int × MS) (fun u H locs ls => va_P D vwCl (CS D a u.2) H ∧ va_S A s₀.heap H locs ∧ lv_has ls 3 [(0, .ref (a 5)), (2, .int (i2 u.1))] ∧ m_x6_expectVolume_J41 u.1 u.2 = some o) (fun u => []) (fun u H locs ls hI => ?_) (fun J41 => ?_)
  · obtain ⟨hP, hS, hl, h⟩ := hI
    obtain ⟨x1, s2⟩ := u
    have hP : va_P D vwCl (CS D a s2) H := hP
    have hl : lv_has ls 3 [(0, .ref (a 5)), (2, .int (i2 x1))] := hl
    have h : m_x6_expectVolume_J41 x1 s2 = some o := h
    unfold m_x6_expectVolume_J41 at h
    refine lv_aload_n hx hb eX6_expectVolume_32.2.2.2.2.2.1 rfl (lv_at hl 0 rfl) ?_
    obtain ⟨s4, hc3, h⟩ := bn_e h
    refine ywVv (As := []) (rest := []) (C := RX6) (n := 0) (ws' := CS D a s4) ⟨hx, hb, hml, hown, ht⟩ (k_x6_advance l D a _ _ _ hc3) (zgV ml_X6_75 im_X6_advance se_X6_advance in_X6 co_X6_advance) rfl rfl (by decide +kernel) ⟨Nat.le_of_ble_eq_true rfl, Nat.le_of_ble_eq_true rfl⟩ hN hK hP (hDD _) hS hA 5 CW_5 rfl rfl rfl hl.1 rfl (Nat.le_of_ble_eq_true rfl) eX6_expectVolume_32.2.2.2.2.2.2.1 ⟨Nat.le_of_ble_eq_true rfl, Nat.le_of_ble_eq_true rfl⟩ (fun H locs hP hS => ?_)
    refine lv_iload_n hx hb eX6_expectVolume_32.2.2.2.2.2.2.2 rfl (lv_at hl 1 rfl) ?_
    obtain rfl := Option.some.inj h
    exact W.iret (v := (i2 x1)) hx hb hr (fun t ht hW => ⟨⟨_, (), rfl, rfl, by rw [ht]; exact hP, va_K.moved hW.alike hK, hDD _⟩, hS.F ht⟩) hS.2.2 eX6_expectVolume_46.1
  refine lv_aload_n hx hb eX6_beginFormula_33.2.2.2.2.2.2.1 rfl (lv_at hl 0 rfl) ?_
  obtain ⟨⟨r7, s6⟩, hc5, h⟩ := bn_e h
  refine ywV (r0 := i2 r7) (As := []) (rest := []) (C := RX6) (n := 0) (ws' := CS D a s6) ⟨hx, hb, hml, hown, ht⟩ (k_x6_isName l D a _ _ _ hc5) (zgV ml_X6_127 im_X6_isName se_X6_isName in_X6 co_X6_isName) rfl rfl (by decide +kernel) ⟨Nat.le_of_ble_eq_true rfl, Nat.le_of_ble_eq_true rfl⟩ hN hK hP (hDD _) hS hA 5 CW_5 rfl rfl rfl hl.1 rfl (Nat.le_of_ble_eq_true rfl) eX6_beginFormula_33.2.2.2.2.2.2.2 ⟨Nat.le_of_ble_eq_true rfl, Nat.le_of_ble_eq_true rfl⟩ (fun H locs hP hS => ?_)
  obtain ⟨hr8, h⟩ := rg_e h
  refine lv_if_ne (tgt := 9) hx hb eX6_expectVolume_4.1 (by decide) (fun c9 => ?_) (fun c9 => ?_)
  · have h := if_f (mt (i2_eq (x := r7) (y := 0) hr8 (by decide)).mpr c9) h
    refine lv_aload_n hx hb eX6_expectVolume_4.2.2.2.1 rfl (lv_at hl 1 rfl) ?_
    refine lv_aload_n hx hb eX6_expectVolume_4.2.2.2.2.1 rfl (lv_at hl 0 rfl) ?_
    refine va_get (D := D) (ci := 6) (v := .ref (a 3)) (C := RX6) (T := TX6) (N := 12) hx hb ht inX6 hown hK hP 5 CW_5 rfl 2 (by decide) (ht (.fieldLink RX6 27 "CloneVolumes$Reader" "tape" "LCloneVolumes$Tape;") fl_X6_27) (fun _ h9 => h9) rfl eX6_expectVolume_4.2.2.2.2.2.1 ?_
    refine lv_aload_n hx hb eX6_expectVolume_4.2.2.2.2.2.2.1 rfl (lv_at hl 0 rfl) ?_
    refine va_get (D := D) (ci := 6) (v := .int (i2 (gI s6 108))) (C := RX6) (T := TX6) (N := 12) hx hb ht inX6 hown hK hP 5 CW_5 rfl 8 (by decide) (ht (.fieldLink RX6 51 "CloneVolumes$Reader" "start" "I") fl_X6_51) (fun _ h9 => h9) rfl eX6_expectVolume_4.2.2.2.2.2.2.2 ?_
    refine lv_aload_n hx hb eX6_expectVolume_18.1 rfl (lv_at hl 0 rfl) ?_
    refine va_get (D := D) (ci := 6) (v := .int (i2 (gI s6 109))) (C := RX6) (T := TX6) (N := 12) hx hb ht inX6 hown hK hP 5 CW_5 rfl 9 (by decide) (ht (.fieldLink RX6 88 "CloneVolumes$Reader" "stop" "I") fl_X6_88) (fun _ h9 => h9) rfl eX6_expectVolume_18.2.1 ?_
    obtain ⟨r11, hc10, h⟩ := bn_e h
    refine ycV (r0 := i2 r11) (As := [.ref (a 3), .int (i2 (gI s6 108)), .int (i2 (gI s6 109))]) (rest := []) (C := RX5) (n := 3) ⟨hx, hb, hml, hown, ht⟩ (k_x5_volumeNamed l D a (gI s6 108) (gI s6 109) _ _ hc10) (zgV ml_X6_131 im_X5_volumeNamed se_X5_volumeNamed in_X5 co_X5_volumeNamed) rfl rfl (by decide +kernel) ⟨Nat.le_of_ble_eq_true rfl, Nat.le_of_ble_eq_true rfl⟩ hN hK hP hS 39 CW_39 rfl rfl rfl hl.1 rfl (Nat.le_of_ble_eq_true rfl) eX6_expectVolume_18.2.2.1 ⟨Nat.le_of_ble_eq_true rfl, Nat.le_of_ble_eq_true rfl⟩ (fun H locs hP hS => ?_)
    refine lv_istore_n (lv' := [(2, .int (i2 r11)), (0, .ref (a 5)), (1, .ref (a 39))]) hx hb eX6_expectVolume_18.2.2.2.1 rfl hl (by decide) rfl (fun ls hl => ?_)
    refine lv_iload_n hx hb eX6_expectVolume_18.2.2.2.2.1 rfl (lv_at hl 0 rfl) ?_
    refine lv_iconst (v := (-1)) hx hb eX6_expectVolume_18.2.2.2.2.2.1 (by decide) ?_
    obtain ⟨hr12, h⟩ := rg_e h
    refine lv_icmp_ne (tgt := 41) hx hb eX6_expectVolume_18.2.2.2.2.2.2.1 (by decide) (fun c13 => ?_) (fun c13 => ?_)
    · rw [show ((-1) : Int32) = i2 (-1) from by decide] at c13
      have h := if_f (mt (i2_eq (x := r11) (y := (-1)) hr12 (by decide)).mpr c13) h
      exact J41 (r11, s6) _ _ _ ⟨hP, hS, lv_sub hl [1, 0] rfl, h⟩
    · rw [show ((-1) : Int32) = i2 (-1) from by decide] at c13
      have h := if_t ((i2_eq (x := r11) (y := (-1)) hr12 (by decide)).mp c13) h
      refine lv_aload_n hx hb eX6_expectVolume_18.2.2.2.2.2.2.2 rfl (lv_at hl 1 rfl) ?_
      refine lv_iconst (v := 3) hx hb eX6_expectVolume_32.1 (by decide) ?_
      refine lv_aload_n hx hb eX6_expectVolume_32.2.1 rfl (lv_at hl 1 rfl) ?_
      refine va_get (D := D) (ci := 6) (v := .int (i2 (gI s6 108))) (C := RX6) (T := TX6) (N := 12) hx hb ht inX6 hown hK hP 5 CW_5 rfl 8 (by decide) (ht (.fieldLink RX6 51 "CloneVolumes$Reader" "start" "I") fl_X6_51) (fun _ h9 => h9) rfl eX6_expectVolume_32.2.2.1 ?_
      obtain ⟨⟨r16, s15⟩, hc14, h⟩ := bn_e h
      refine ywV (r0 := i2 r16) (As := [.int 3, .int (i2 (gI s6 108))]) (rest := []) (C := RX6) (n := 2) (ws' := CS D a s15) ⟨hx, hb, hml, hown, ht⟩ (k_x6_fail l D a 3 (gI s6 108) _ _ _ hc14) (zgV ml_X6_54 im_X6_fail se_X6_fail in_X6 co_X6_fail) rfl rfl (by decide +kernel) ⟨Nat.le_of_ble_eq_true rfl, Nat.le_of_ble_eq_true rfl⟩ hN hK hP (hDD _) hS hA 5 CW_5 rfl rfl rfl hl.1 rfl (Nat.le_of_ble_eq_true rfl) eX6_expectVolume_32.2.2.2.1 ⟨Nat.le_of_ble_eq_true rfl, Nat.le_of_ble_eq_true rfl⟩ (fun H locs hP hS => ?_)
      refine lv_pop hx hb eX6_expectVolume_32.2.2.2.2.1 rfl ?_
      exact J41 (r11, s15) _ _ _ ⟨hP, hS, lv_sub hl [1, 0] rfl, h⟩
  · have h := if_t ((i2_eq (x := r7) (y := 0) hr8 (by decide)).mp c9) h
    refine lv_iconst (v := (-1)) hx hb eX6_expectVolume_4.2.1 (by decide) ?_
    obtain rfl := Option.some.inj h
    exact W.iret (v := (-1)) hx hb hr (fun t ht hW => ⟨⟨_, (), rfl, rfl, by rw [ht]; exact hP, va_K.moved hW.alike hK, hDD _⟩, hS.F ht⟩) hS.2.2 eX6_expectVolume_4.2.2.1
set_option maxHeartbeats 4000000 in
set_option maxRecDepth 100000 in
theorem k_x6_readChange (l : Launch) (D : va_G) (a : Nat → Nat) (p1 : Int) (sz : Nat) (s : MS) (o : MS) (h : m_x6_readChange p1 s = some o) : yWv l yX6_readChange cX6_readChange 6 none { frames := 4, cells := 0, slots := 0, locals := 240 } D sz [.ref (a 5), .ref (a 39), .int (i2 p1)] (CS D a s) (CS D a o) := by
  refine Met.ofW (cc := cX6_readChange) (maxL := 6) (ret := none) (by decide) rfl ?_
  intro p e s₀ m args below meth c s₁ B hml hv
  obtain ⟨rfl, ⟨hsz, hP, hK, hD0⟩, hN⟩ := hv
  have hx := B.exec
  have hb := B.bytes
  have hr := B.returns
  have hts := atoms_spec (ws := wz yX6_readChange cX6_readChange 6 none) B.pre
  have ht : ∀ w ∈ lw_gd, w.before _ s₀ = true := fun w h => hts w (List.mem_cons_of_mem _ h)
  have hown : s₀.vm.findClass RX6 = some m.cls := findClass_of_methodNamed B.named
  have hlocks := B.notSynchronized
  subst hsz
  have hD := hD0.self (sz := s₀.heap.size)
  generalize hAe : va_A (CS D a s) s₀.heap.size = A at hD ⊢
  have hA : ∀ q : Nat, s₀.heap.size ≤ q → A q := fun q h => by rw [← hAe]; exact Or.inr h
  have hS : va_S A s₀.heap s₀.heap [] := va_S.rf
  have hDD : ∀ t : MS, va_D A (CS D a t) := fun t => CW_D t hD
  have hl := lv_entry ([.ref (a 5), .ref (a 39), .int (i2 p1)]) (n := 6) (Nat.le_of_ble_eq_true rfl)
  rw [lg_entry_eq]
  generalize (lg_sl ([.ref (a 5), .ref (a 39), .int (i2 p1)]) ++ List.replicate (6 - (lg_sl ([.ref (a 5), .ref (a 39), .int (i2 p1)])).length) Slot.unset).toArray = ls at hl ⊢
  have hl : lv_has ls 6 [(0, .ref (a 5)), (1, .ref (a 39)), (2, .int (i2 p1))] := hl
  unfold m_x6_readChange at h
  refine y_head (pcJ := 37) (σ := Int × Int × Int × Int × MS) (fun u H locs ls => va_P D vwCl (CS D a u.2.2.2.2) H ∧ va_S A s₀.heap H locs ∧ lv_has ls 6 [(1, .ref (a 39)), (2, .int (i2 u.1)), (3, .int (i2 u.2.1)), (4, .int (i2 u.2.2.1))] ∧ m_x6_readChange_J37 u.1 u.2.1 u.2.2.1 u.2.2.2.1 u.2.2.2.2 = some o) (fun u => [.int (i2 u.2.2.2.1)]) (fun u H locs ls hI => ?_) (fun J37 => ?_)
  · obtain ⟨hP, hS, hl, h⟩ := hI
    obtain ⟨x1, x2, x3, x4, s5⟩ := u
    have hP : va_P D vwCl (CS D a s5) H := hP
    have hl : lv_has ls 6 [(1, .ref (a 39)), (2, .int (i2 x1)), (3, .int (i2 x2)), (4, .int (i2 x3))] := hl
    have h : m_x6_readChange_J37 x1 x2 x3 x4 s5 = some o := h
    unfold m_x6_readChange_J37 at h
    refine lv_istore (lv' := [(5, .int (i2 x4)), (1, .ref (a 39)), (2, .int (i2 x1)), (3, .int (i2 x2)), (4, .int (i2 x3))]) hx hb eX6_readChange_33.2.2.1 hl (by decide) rfl (fun ls hl => ?_)
    refine lv_aload_n hx hb eX6_readChange_33.2.2.2.1 rfl (lv_at hl 1 rfl) ?_
    refine lv_iload_n hx hb eX6_readChange_33.2.2.2.2.1 rfl (lv_at hl 2 rfl) ?_
    refine lv_iload_n hx hb eX6_readChange_33.2.2.2.2.2.1 rfl (lv_at hl 3 rfl) ?_
    refine lv_iload hx hb eX6_readChange_33.2.2.2.2.2.2.1 (lv_at hl 4 rfl) ?_
    refine lv_iload hx hb eX6_readChange_33.2.2.2.2.2.2.2 (lv_at hl 0 rfl) ?_
    obtain ⟨s7, hc6, h⟩ := bn_e h
    refine ywVv (As := [.int (i2 x1), .int (i2 x2), .int (i2 x3), .int (i2 x4)]) (rest := []) (C := RX5) (n := 4) (ws' := CS D a s7) ⟨hx, hb, hml, hown, ht⟩ (k_x5_addChange l D a x1 x2 x3 x4 _ _ _ hc6) (zgV ml_X6_181 im_X5_addChange se_X5_addChange in_X5 co_X5_addChange) rfl rfl (by decide +kernel) ⟨Nat.le_of_ble_eq_true rfl, Nat.le_of_ble_eq_true rfl⟩ hN hK hP (hDD _) hS hA 39 CW_39 rfl rfl rfl hl.1 rfl (Nat.le_of_ble_eq_true rfl) eX6_readChange_46.1 ⟨Nat.le_of_ble_eq_true rfl, Nat.le_of_ble_eq_true rfl⟩ (fun H locs hP hS => ?_)
    obtain rfl := Option.some.inj h
    exact W.vret hx hb hr (fun t ht hW => ⟨⟨(), rfl, trivial, by rw [ht]; exact hP, va_K.moved hW.alike hK, hDD _⟩, hS.F ht⟩) hS.2.2 eX6_readChange_46.2.1
  refine lv_aload_n hx hb eX6_readBlocks_22.2.2.2.2.2.2.1 rfl (lv_at hl 0 rfl) ?_
  obtain ⟨s9, hc8, h⟩ := bn_e h
  refine ywVv (As := []) (rest := []) (C := RX6) (n := 0) (ws' := CS D a s9) ⟨hx, hb, hml, hown, ht⟩ (k_x6_advance l D a _ _ _ hc8) (zgV ml_X6_75 im_X6_advance se_X6_advance in_X6 co_X6_advance) rfl rfl (by decide +kernel) ⟨Nat.le_of_ble_eq_true rfl, Nat.le_of_ble_eq_true rfl⟩ hN hK hP (hDD _) hS hA 5 CW_5 rfl rfl rfl hl.1 rfl (Nat.le_of_ble_eq_true rfl) eX6_readBlocks_22.2.2.2.2.2.2.2 ⟨Nat.le_of_ble_eq_true rfl, Nat.le_of_ble_eq_true rfl⟩ (fun H locs hP hS => ?_)
  refine lv_aload_n hx hb eX6_readChange_4.1 rfl (lv_at hl 0 rfl) ?_
  refine lv_aload_n hx hb eX6_readChange_4.2.1 rfl (lv_at hl 1 rfl) ?_
  obtain ⟨⟨r12, s11⟩, hc10, h⟩ := bn_e h
  refine ywV (r0 := i2 r12) (As := [.ref (a 39)]) (rest := []) (C := RX6) (n := 1) (ws' := CS D a s11) ⟨hx, hb, hml, hown, ht⟩ (k_x6_expectVolume l D a _ _ _ hc10) (zgV ml_X6_174 im_X6_expectVolume se_X6_expectVolume in_X6 co_X6_expectVolume) rfl rfl (by decide +kernel) ⟨Nat.le_of_ble_eq_true rfl, Nat.le_of_ble_eq_true rfl⟩ hN hK hP (hDD _) hS hA 5 CW_5 rfl rfl rfl hl.1 rfl (Nat.le_of_ble_eq_true rfl) eX6_readChange_4.2.2.1 ⟨Nat.le_of_ble_eq_true rfl, Nat.le_of_ble_eq_true rfl⟩ (fun H locs hP hS => ?_)
  refine lv_istore_n (lv' := [(3, .int (i2 r12)), (0, .ref (a 5)), (1, .ref (a 39)), (2, .int (i2 p1))]) hx hb eX6_readChange_4.2.2.2.1 rfl hl (by decide) rfl (fun ls hl => ?_)
  refine lv_aload_n hx hb eX6_readChange_4.2.2.2.2.1 rfl (lv_at hl 1 rfl) ?_
  refine lv_iconst (v := 0) hx hb eX6_readChange_4.2.2.2.2.2.1 (by decide) ?_
  refine lv_sipush (v := 999) hx hb eX6_readChange_4.2.2.2.2.2.2.1 (by decide) ?_
  obtain ⟨⟨r15, s14⟩, hc13, h⟩ := bn_e h
  refine ywV (r0 := i2 r15) (As := [.int 0, .int 999]) (rest := []) (C := RX6) (n := 2) (ws' := CS D a s14) ⟨hx, hb, hml, hown, ht⟩ (k_x6_expectNumber l D a 0 999 _ _ _ hc13) (zgV ml_X6_151 im_X6_expectNumber se_X6_expectNumber in_X6 co_X6_expectNumber) rfl rfl (by decide +kernel) ⟨Nat.le_of_ble_eq_true rfl, Nat.le_of_ble_eq_true rfl⟩ hN hK hP (hDD _) hS hA 5 CW_5 rfl rfl rfl hl.1 rfl (Nat.le_of_ble_eq_true rfl) eX6_readChange_4.2.2.2.2.2.2.2 ⟨Nat.le_of_ble_eq_true rfl, Nat.le_of_ble_eq_true rfl⟩ (fun H locs hP hS => ?_)
  refine lv_istore (lv' := [(4, .int (i2 r15)), (3, .int (i2 r12)), (0, .ref (a 5)), (1, .ref (a 39)), (2, .int (i2 p1))]) hx hb eX6_readChange_18.1 hl (by decide) rfl (fun ls hl => ?_)
  refine lv_iload_n hx hb eX6_readChange_18.2.1 rfl (lv_at hl 4 rfl) ?_
  refine lv_iconst (v := 5) hx hb eX6_readChange_18.2.2.1 (by decide) ?_
  obtain ⟨hr16, h⟩ := rg_e h
  refine lv_icmp_ne (tgt := 36) hx hb eX6_readChange_18.2.2.2.1 (by decide) (fun c17 => ?_) (fun c17 => ?_)
  · have h := if_f (mt (i2_eq (x := p1) (y := 5) hr16 (by decide)).mpr c17) h
    refine lv_iconst (v := 0) hx hb eX6_readChange_33.2.1 (by decide) ?_
    exact J37 (p1, r12, r15, 0, s14) _ _ _ ⟨hP, hS, lv_sub hl [3, 4, 1, 0] rfl, h⟩
  · have h := if_t ((i2_eq (x := p1) (y := 5) hr16 (by decide)).mp c17) h
    refine lv_aload_n hx hb eX6_readChange_18.2.2.2.2.1 rfl (lv_at hl 2 rfl) ?_
    refine lv_iconst (v := 0) hx hb eX6_readChange_18.2.2.2.2.2.1 (by decide) ?_
    refine lv_sipush (v := 999) hx hb eX6_readChange_18.2.2.2.2.2.2.1 (by decide) ?_
    obtain ⟨⟨r20, s19⟩, hc18, h⟩ := bn_e h
    refine ywV (r0 := i2 r20) (As := [.int 0, .int 999]) (rest := []) (C := RX6) (n := 2) (ws' := CS D a s19) ⟨hx, hb, hml, hown, ht⟩ (k_x6_expectNumber l D a 0 999 _ _ _ hc18) (zgV ml_X6_151 im_X6_expectNumber se_X6_expectNumber in_X6 co_X6_expectNumber) rfl rfl (by decide +kernel) ⟨Nat.le_of_ble_eq_true rfl, Nat.le_of_ble_eq_true rfl⟩ hN hK hP (hDD _) hS hA 5 CW_5 rfl rfl rfl hl.1 rfl (Nat.le_of_ble_eq_true rfl) eX6_readChange_18.2.2.2.2.2.2.2 ⟨Nat.le_of_ble_eq_true rfl, Nat.le_of_ble_eq_true rfl⟩ (fun H locs hP hS => ?_)
    refine lv_goto (tgt := 37) hx hb eX6_readChange_33.1 (by decide) ?_
    exact J37 (p1, r12, r15, r20, s19) _ _ _ ⟨hP, hS, lv_sub hl [3, 4, 1, 0] rfl, h⟩
set_option maxHeartbeats 4000000 in
set_option maxRecDepth 100000 in
theorem k_x5_addVolume (l : Launch) (D : va_G) (a : Nat → Nat) (p1 : Int) (p2 : Int) (sz : Nat) (s : MS) (o : (Int × MS)) (h : m_x5_addVolume p1 p2 s = some o) : yWi l yX5_addVolume cX5_addVolume 5 (some .int) { frames := 2, cells := 0, slots := 0, locals := 120 } D sz [.ref (a 39), .ref (a 3), .int (i2 p1), .int (i2 p2)] (CS D a s) (CS D a o.2) (i2 o.1) := by
  refine Met.ofW (cc := cX5_addVolume) (maxL := 5) (ret := (some .int)) (by decide) rfl ?_
  intro p e s₀ m args below meth c s₁ B hml hv
  obtain ⟨rfl, ⟨hsz, hP, hK, hD0⟩, hN⟩ := hv
  have hx := B.exec
  have hb := B.bytes
  have hr := B.returns
  have hts := atoms_spec (ws := wz yX5_addVolume cX5_addVolume 5 (some .int)) B.pre
  have ht : ∀ w ∈ lw_gd, w.before _ s₀ = true := fun w h => hts w (List.mem_cons_of_mem _ h)
  have hown : s₀.vm.findClass RX5 = some m.cls := findClass_of_methodNamed B.named
  have hlocks := B.notSynchronized
  subst hsz
  have hD := hD0.self (sz := s₀.heap.size)
  generalize hAe : va_A (CS D a s) s₀.heap.size = A at hD ⊢
  have hA : ∀ q : Nat, s₀.heap.size ≤ q → A q := fun q h => by rw [← hAe]; exact Or.inr h
  have hS : va_S A s₀.heap s₀.heap [] := va_S.rf
  have hDD : ∀ t : MS, va_D A (CS D a t) := fun t => CW_D t hD
  have hl := lv_entry ([.ref (a 39), .ref (a 3), .int (i2 p1), .int (i2 p2)]) (n := 5) (Nat.le_of_ble_eq_true rfl)
  rw [lg_entry_eq]
  generalize (lg_sl ([.ref (a 39), .ref (a 3), .int (i2 p1), .int (i2 p2)]) ++ List.replicate (5 - (lg_sl ([.ref (a 39), .ref (a 3), .int (i2 p1), .int (i2 p2)])).length) Slot.unset).toArray = ls at hl ⊢
  have hl : lv_has ls 5 [(0, .ref (a 39)), (1, .ref (a 3)), (2, .int (i2 p1)), (3, .int (i2 p2))] := hl
  unfold m_x5_addVolume at h
  refine y_loop (pcJ := 14) (σ := Int × Int × Int × MS) (fun n u H locs ls => va_P D vwCl (CS D a u.2.2.2) H ∧ va_S A s₀.heap H locs ∧ lv_has ls 5 [(0, .ref (a 39)), (1, .ref (a 3)), (2, .int (i2 u.1)), (3, .int (i2 u.2.1)), (4, .int (i2 u.2.2.1))] ∧ m_x5_addVolume_L14 n u.1 u.2.1 u.2.2.1 u.2.2.2 = some o) (fun u => []) (fun u H locs ls hI => by obtain ⟨_, _, _, h⟩ := hI; cases h) (fun n14 ih14 u H locs ls hI => ?_) (fun J14 => ?_)
  · obtain ⟨hP, hS, hl, h⟩ := hI
    obtain ⟨x1, x2, x3, s4⟩ := u
    have hP : va_P D vwCl (CS D a s4) H := hP
    have hl : lv_has ls 5 [(0, .ref (a 39)), (1, .ref (a 3)), (2, .int (i2 x1)), (3, .int (i2 x2)), (4, .int (i2 x3))] := hl
    have h : m_x5_addVolume_b14 (m_x5_addVolume_L14 n14) x1 x2 x3 s4 = some o := h
    unfold m_x5_addVolume_b14 at h
    refine lv_iload hx hb eX5_addVolume_6.2.2.2.2.2.1 (lv_at hl 4 rfl) ?_
    refine lv_bipush (v := 6) hx hb eX5_addVolume_6.2.2.2.2.2.2.1 (by decide) ?_
    obtain ⟨hr5, h⟩ := rg_e h
    refine lv_icmp_ge (tgt := 51) hx hb eX5_addVolume_6.2.2.2.2.2.2.2 (by decide) (fun c6 => ?_) (fun c6 => ?_)
    · have h := if_t ((i2_le (x := 6) (y := x3) (by decide) hr5).mp c6) h
      refine lv_aload_n hx hb eX5_addVolume_48.2.1 rfl (lv_at hl 0 rfl) ?_
      refine lv_dup hx hb eX5_addVolume_48.2.2.1 rfl ?_
      refine va_get (D := D) (ci := 5) (v := .int (i2 (gI s4 784))) (C := RX5) (T := TX5) (N := 14) hx hb ht inX5 hown hK hP 39 CW_39 rfl 4 (by decide) (ht (.fieldLink RX5 47 "CloneVolumes$Plan" "volumes" "I") fl_X5_47) (fun _ h9 => h9) rfl eX5_addVolume_48.2.2.2.1 ?_
      refine lv_iconst (v := 1) hx hb eX5_addVolume_48.2.2.2.2.1 (by decide) ?_
      refine lv_iadd hx hb eX5_addVolume_48.2.2.2.2.2.1 ?_
      refine z_topi (y := i2 ((gI s4 784) + 1)) (i2_add (gI s4 784) 1) ?_
      refine ya_put (D := D) (ci := 5) (v := .int (i2 ((gI s4 784) + 1))) (ty := .int) (C := RX5) (T := TX5) (N := 14) hx hb ht inX5 tyX5 tyX5_ok nmX5 hown hK hP (hDD _) hS 39 CW_39 rfl 4 (by decide) (ht (.fieldLink RX5 47 "CloneVolumes$Plan" "volumes" "I") fl_X5_47) (fun _ h9 => h9) rfl (by decide +kernel) rfl rfl (Nat.le_of_ble_eq_true rfl) eX5_addVolume_48.2.2.2.2.2.2.1 (CW_w39_4 ((gI s4 784) + 1)) (fun H locs hP hS => ?_)
      obtain ⟨s7, hs7, h⟩ := st_e h
      rw [hs7] at hP
      refine lv_aload_n hx hb eX5_addVolume_48.2.2.2.2.2.2.2 rfl (lv_at hl 0 rfl) ?_
      refine va_get (D := D) (ci := 5) (v := .int (i2 (gI s7 784))) (C := RX5) (T := TX5) (N := 14) hx hb ht inX5 hown hK hP 39 CW_39 rfl 4 (by decide) (ht (.fieldLink RX5 47 "CloneVolumes$Plan" "volumes" "I") fl_X5_47) (fun _ h9 => h9) rfl eX5_addVolume_62.1 ?_
      refine lv_iconst (v := 1) hx hb eX5_addVolume_62.2.1 (by decide) ?_
      refine lv_isub hx hb eX5_addVolume_62.2.2.1 ?_
      refine z_topi (y := i2 ((gI s7 784) - 1)) (i2_sub (gI s7 784) 1) ?_
      obtain rfl := Option.some.inj h
      exact W.iret (v := (i2 ((gI s7 784) - 1))) hx hb hr (fun t ht hW => ⟨⟨_, (), rfl, rfl, by rw [ht]; exact hP, va_K.moved hW.alike hK, hDD _⟩, hS.F ht⟩) hS.2.2 eX5_addVolume_62.2.2.2.1
    · have h := if_f (mt (i2_le (x := 6) (y := x3) (by decide) hr5).mpr c6) h
      refine lv_aload_n hx hb eX5_addVolume_21.1 rfl (lv_at hl 0 rfl) ?_
      refine va_get (D := D) (ci := 5) (v := .ref (a 40)) (C := RX5) (T := TX5) (N := 14) hx hb ht inX5 hown hK hP 39 CW_39 rfl 6 (by decide) (ht (.fieldLink RX5 9 "CloneVolumes$Plan" "names" "[I") fl_X5_9) (fun _ h9 => h9) rfl eX5_addVolume_21.2.1 ?_
      refine lv_aload_n hx hb eX5_addVolume_21.2.2.1 rfl (lv_at hl 0 rfl) ?_
      refine va_get (D := D) (ci := 5) (v := .int (i2 (gI s4 784))) (C := RX5) (T := TX5) (N := 14) hx hb ht inX5 hown hK hP 39 CW_39 rfl 4 (by decide) (ht (.fieldLink RX5 47 "CloneVolumes$Plan" "volumes" "I") fl_X5_47) (fun _ h9 => h9) rfl eX5_addVolume_21.2.2.2.1 ?_
      refine lv_bipush (v := 6) hx hb eX5_addVolume_21.2.2.2.2.1 (by decide) ?_
      refine lv_imul hx hb eX5_addVolume_21.2.2.2.2.2.1 ?_
      refine z_topi (y := i2 ((gI s4 784) * 6)) (i2_mul (gI s4 784) 6) ?_
      refine lv_iload hx hb eX5_addVolume_21.2.2.2.2.2.2.1 (lv_at hl 4 rfl) ?_
      refine lv_iadd hx hb eX5_addVolume_21.2.2.2.2.2.2.2 ?_
      refine z_topi (y := i2 (((gI s4 784) * 6) + x3)) (i2_add ((gI s4 784) * 6) x3) ?_
      refine lv_aload_n hx hb eX5_addVolume_35.1 rfl (lv_at hl 1 rfl) ?_
      refine lv_iload_n hx hb eX5_addVolume_35.2.1 rfl (lv_at hl 2 rfl) ?_
      refine lv_iload hx hb eX5_addVolume_35.2.2.1 (lv_at hl 4 rfl) ?_
      refine lv_iadd hx hb eX5_addVolume_35.2.2.2.1 ?_
      refine z_topi (y := i2 (x1 + x3)) (i2_add x1 x3) ?_
      refine lv_iload_n hx hb eX5_addVolume_35.2.2.2.2.1 rfl (lv_at hl 3 rfl) ?_
      obtain ⟨r9, hc8, h⟩ := bn_e h
      refine ycS (r0 := i2 r9) (As := [.ref (a 3), .int (i2 (x1 + x3)), .int (i2 x2)]) (rest := [.int (i2 (((gI s4 784) * 6) + x3)), .ref (a 40)]) (n := 3) ⟨hx, hb, hml, hown, ht⟩ (k_x5_letterAt l D a (x1 + x3) x2 _ _ hc8) (zgT ml_X5_59 st_X5_letterAt in_X5 co_X5_letterAt) rfl rfl (by decide +kernel) ⟨Nat.le_of_ble_eq_true rfl, Nat.le_of_ble_eq_true rfl⟩ hN hK hP hS rfl hl.1 rfl (Nat.le_of_ble_eq_true rfl) eX5_addVolume_35.2.2.2.2.2.1 ⟨Nat.le_of_ble_eq_true rfl, Nat.le_of_ble_eq_true rfl⟩ (fun H locs hP hS => ?_)
      obtain ⟨hi10, h⟩ := inb_e h
      refine ya_iast (i := (((gI s4 784) * 6) + x3)) (x := r9) hx hb hK hP (hDD _) hS 40 0 CW_40 rfl (by decide) hi10 eX5_addVolume_35.2.2.2.2.2.2.1 (CW_w40 _) (fun H locs hP hS => ?_)
      obtain ⟨s11, hs11, h⟩ := st_e h
      rw [hs11] at hP
      refine lv_iinc (v := i2 (x3 + 1)) (lv' := [(4, .int (i2 (x3 + 1))), (0, .ref (a 39)), (1, .ref (a 3)), (2, .int (i2 x1)), (3, .int (i2 x2))]) hx hb eX5_addVolume_35.2.2.2.2.2.2.2 hl (k := 4) rfl (i2_add x3 1) (by decide) rfl (fun ls hl => ?_)
      refine lv_goto (tgt := 14) hx hb eX5_addVolume_48.1 (by decide) ?_
      exact ih14 (x1, x2, x3 + 1, s11) _ _ _ ⟨hP, hS, lv_sub hl [1, 2, 3, 4, 0] rfl, h⟩
  refine lv_aload_n hx hb eX5_addChange_52.2.2.2.2.2.1 rfl (lv_at hl 0 rfl) ?_
  refine va_get (D := D) (ci := 5) (v := .int (i2 (gI s 784))) (C := RX5) (T := TX5) (N := 14) hx hb ht inX5 hown hK hP 39 CW_39 rfl 4 (by decide) (ht (.fieldLink RX5 47 "CloneVolumes$Plan" "volumes" "I") fl_X5_47) (fun _ h9 => h9) rfl eX5_addChange_52.2.2.2.2.2.2.1 ?_
  refine lv_bipush (v := 8) hx hb eX5_addChange_52.2.2.2.2.2.2.2 (by decide) ?_
  obtain ⟨hr12, h⟩ := rg_e h
  refine lv_icmp_lt (tgt := 11) hx hb eX5_addVolume_6.1 (by decide) (fun c13 => ?_) (fun c13 => ?_)
  · have h := if_t ((i2_lt (x := (gI s 784)) (y := 8) hr12 (by decide)).mp c13) h
    refine lv_iconst (v := 0) hx hb eX5_addVolume_6.2.2.2.1 (by decide) ?_
    refine lv_istore (lv' := [(4, .int 0), (0, .ref (a 39)), (1, .ref (a 3)), (2, .int (i2 p1)), (3, .int (i2 p2))]) hx hb eX5_addVolume_6.2.2.2.2.1 hl (by decide) rfl (fun ls hl => ?_)
    exact J14 FU (p1, p2, 0, s) _ _ _ ⟨hP, hS, lv_sub hl [1, 2, 3, 4, 0] rfl, h⟩
  · have h := if_f (mt (i2_lt (x := (gI s 784)) (y := 8) hr12 (by decide)).mpr c13) h
    refine lv_iconst (v := (-1)) hx hb eX5_addVolume_6.2.1 (by decide) ?_
    obtain rfl := Option.some.inj h
    exact W.iret (v := (-1)) hx hb hr (fun t ht hW => ⟨⟨_, (), rfl, rfl, by rw [ht]; exact hP, va_K.moved hW.alike hK, hDD _⟩, hS.F ht⟩) hS.2.2 eX5_addVolume_6.2.2.1
set_option maxHeartbeats 4000000 in
set_option maxRecDepth 100000 in
theorem k_x6_expectWord (l : Launch) (D : va_G) (a : Nat → Nat) (p0 : Int) (sz : Nat) (s : MS) (o : MS) (h : m_x6_expectWord p0 s = some o) : yWv l yX6_expectWord cX6_expectWord 2 none { frames := 2, cells := 0, slots := 0, locals := 120 } D sz [.ref (a 5), .int (i2 p0)] (CS D a s) (CS D a o) := by
  refine Met.ofW (cc := cX6_expectWord) (maxL := 2) (ret := none) (by decide) rfl ?_
  intro p e s₀ m args below meth c s₁ B hml hv
  obtain ⟨rfl, ⟨hsz, hP, hK, hD0⟩, hN⟩ := hv
  have hx := B.exec
  have hb := B.bytes
  have hr := B.returns
  have hts := atoms_spec (ws := wz yX6_expectWord cX6_expectWord 2 none) B.pre
  have ht : ∀ w ∈ lw_gd, w.before _ s₀ = true := fun w h => hts w (List.mem_cons_of_mem _ h)
  have hown : s₀.vm.findClass RX6 = some m.cls := findClass_of_methodNamed B.named
  have hlocks := B.notSynchronized
  subst hsz
  have hD := hD0.self (sz := s₀.heap.size)
  generalize hAe : va_A (CS D a s) s₀.heap.size = A at hD ⊢
  have hA : ∀ q : Nat, s₀.heap.size ≤ q → A q := fun q h => by rw [← hAe]; exact Or.inr h
  have hS : va_S A s₀.heap s₀.heap [] := va_S.rf
  have hDD : ∀ t : MS, va_D A (CS D a t) := fun t => CW_D t hD
  have hl := lv_entry ([.ref (a 5), .int (i2 p0)]) (n := 2) (Nat.le_of_ble_eq_true rfl)
  rw [lg_entry_eq]
  generalize (lg_sl ([.ref (a 5), .int (i2 p0)]) ++ List.replicate (2 - (lg_sl ([.ref (a 5), .int (i2 p0)])).length) Slot.unset).toArray = ls at hl ⊢
  have hl : lv_has ls 2 [(0, .ref (a 5)), (1, .int (i2 p0))] := hl
  unfold m_x6_expectWord at h
  refine y_head (pcJ := 25) (σ := MS) (fun u H locs ls => va_P D vwCl (CS D a u) H ∧ va_S A s₀.heap H locs ∧ lv_has ls 2 [] ∧ m_x6_expectWord_J25 u = some o) (fun u => []) (fun u H locs ls hI => ?_) (fun J25 => ?_)
  · obtain ⟨hP, hS, hl, h⟩ := hI
    obtain ⟨s1, rfl⟩ : ∃ z, z = u := ⟨u, rfl⟩
    have hP : va_P D vwCl (CS D a s1) H := hP
    have hl : lv_has ls 2 [] := hl
    have h : m_x6_expectWord_J25 s1 = some o := h
    unfold m_x6_expectWord_J25 at h
    obtain rfl := Option.some.inj h
    exact W.vret hx hb hr (fun t ht hW => ⟨⟨(), rfl, trivial, by rw [ht]; exact hP, va_K.moved hW.alike hK, hDD _⟩, hS.F ht⟩) hS.2.2 eX6_expectWord_15.2.2.2.2.2.2.1
  refine lv_aload_n hx hb eX6_expectVolume_46.2.1 rfl (lv_at hl 0 rfl) ?_
  refine lv_iload_n hx hb eX6_expectVolume_46.2.2.1 rfl (lv_at hl 1 rfl) ?_
  obtain ⟨r3, hc2, h⟩ := bn_e h
  refine ycV (r0 := i2 r3) (As := [.int (i2 p0)]) (rest := []) (C := RX6) (n := 1) ⟨hx, hb, hml, hown, ht⟩ (k_x6_isWord l D a p0 _ _ hc2) (zgV ml_X6_121 im_X6_isWord se_X6_isWord in_X6 co_X6_isWord) rfl rfl (by decide +kernel) ⟨Nat.le_of_ble_eq_true rfl, Nat.le_of_ble_eq_true rfl⟩ hN hK hP hS 5 CW_5 rfl rfl rfl hl.1 rfl (Nat.le_of_ble_eq_true rfl) eX6_expectVolume_46.2.2.2.1 ⟨Nat.le_of_ble_eq_true rfl, Nat.le_of_ble_eq_true rfl⟩ (fun H locs hP hS => ?_)
  obtain ⟨hr4, h⟩ := rg_e h
  refine lv_if_eq (tgt := 15) hx hb eX6_expectVolume_46.2.2.2.2.1 (by decide) (fun c5 => ?_) (fun c5 => ?_)
  · have h := if_t ((i2_eq (x := r3) (y := 0) hr4 (by decide)).mp c5) h
    refine lv_aload_n hx hb eX6_expectWord_15.1 rfl (lv_at hl 0 rfl) ?_
    refine lv_iconst (v := 1) hx hb eX6_expectWord_15.2.1 (by decide) ?_
    refine lv_aload_n hx hb eX6_expectWord_15.2.2.1 rfl (lv_at hl 0 rfl) ?_
    refine va_get (D := D) (ci := 6) (v := .int (i2 (gI s 108))) (C := RX6) (T := TX6) (N := 12) hx hb ht inX6 hown hK hP 5 CW_5 rfl 8 (by decide) (ht (.fieldLink RX6 51 "CloneVolumes$Reader" "start" "I") fl_X6_51) (fun _ h9 => h9) rfl eX6_expectWord_15.2.2.2.1 ?_
    obtain ⟨⟨r8, s7⟩, hc6, h⟩ := bn_e h
    refine ywV (r0 := i2 r8) (As := [.int 1, .int (i2 (gI s 108))]) (rest := []) (C := RX6) (n := 2) (ws' := CS D a s7) ⟨hx, hb, hml, hown, ht⟩ (k_x6_fail l D a 1 (gI s 108) _ _ _ hc6) (zgV ml_X6_54 im_X6_fail se_X6_fail in_X6 co_X6_fail) rfl rfl (by decide +kernel) ⟨Nat.le_of_ble_eq_true rfl, Nat.le_of_ble_eq_true rfl⟩ hN hK hP (hDD _) hS hA 5 CW_5 rfl rfl rfl hl.1 rfl (Nat.le_of_ble_eq_true rfl) eX6_expectWord_15.2.2.2.2.1 ⟨Nat.le_of_ble_eq_true rfl, Nat.le_of_ble_eq_true rfl⟩ (fun H locs hP hS => ?_)
    refine lv_pop hx hb eX6_expectWord_15.2.2.2.2.2.1 rfl ?_
    exact J25 s7 _ _ _ ⟨hP, hS, lv_sub hl [] rfl, h⟩
  · have h := if_f (mt (i2_eq (x := r3) (y := 0) hr4 (by decide)).mpr c5) h
    refine lv_aload_n hx hb eX6_expectVolume_46.2.2.2.2.2.1 rfl (lv_at hl 0 rfl) ?_
    obtain ⟨s10, hc9, h⟩ := bn_e h
    refine ywVv (As := []) (rest := []) (C := RX6) (n := 0) (ws' := CS D a s10) ⟨hx, hb, hml, hown, ht⟩ (k_x6_advance l D a _ _ _ hc9) (zgV ml_X6_75 im_X6_advance se_X6_advance in_X6 co_X6_advance) rfl rfl (by decide +kernel) ⟨Nat.le_of_ble_eq_true rfl, Nat.le_of_ble_eq_true rfl⟩ hN hK hP (hDD _) hS hA 5 CW_5 rfl rfl rfl hl.1 rfl (Nat.le_of_ble_eq_true rfl) eX6_expectVolume_46.2.2.2.2.2.2.1 ⟨Nat.le_of_ble_eq_true rfl, Nat.le_of_ble_eq_true rfl⟩ (fun H locs hP hS => ?_)
    refine lv_goto (tgt := 25) hx hb eX6_expectVolume_46.2.2.2.2.2.2.2 (by decide) ?_
    exact J25 s10 _ _ _ ⟨hP, hS, lv_sub hl [] rfl, h⟩
set_option maxHeartbeats 4000000 in
set_option maxRecDepth 100000 in
theorem k_x6_readVolume (l : Launch) (D : va_G) (a : Nat → Nat) (p1 : Int) (sz : Nat) (s : MS) (o : MS) (h : m_x6_readVolume p1 s = some o) : yWv l yX6_readVolume cX6_readVolume 6 none { frames := 4, cells := 0, slots := 0, locals := 240 } D sz [.ref (a 5), .ref (a 39), .int (i2 p1)] (CS D a s) (CS D a o) := by
  refine Met.ofW (cc := cX6_readVolume) (maxL := 6) (ret := none) (by decide) rfl ?_
  intro p e s₀ m args below meth c s₁ B hml hv
  obtain ⟨rfl, ⟨hsz, hP, hK, hD0⟩, hN⟩ := hv
  have hx := B.exec
  have hb := B.bytes
  have hr := B.returns
  have hts := atoms_spec (ws := wz yX6_readVolume cX6_readVolume 6 none) B.pre
  have ht : ∀ w ∈ lw_gd, w.before _ s₀ = true := fun w h => hts w (List.mem_cons_of_mem _ h)
  have hown : s₀.vm.findClass RX6 = some m.cls := findClass_of_methodNamed B.named
  have hlocks := B.notSynchronized
  subst hsz
  have hD := hD0.self (sz := s₀.heap.size)
  generalize hAe : va_A (CS D a s) s₀.heap.size = A at hD ⊢
  have hA : ∀ q : Nat, s₀.heap.size ≤ q → A q := fun q h => by rw [← hAe]; exact Or.inr h
  have hS : va_S A s₀.heap s₀.heap [] := va_S.rf
  have hDD : ∀ t : MS, va_D A (CS D a t) := fun t => CW_D t hD
  have hl := lv_entry ([.ref (a 5), .ref (a 39), .int (i2 p1)]) (n := 6) (Nat.le_of_ble_eq_true rfl)
  rw [lg_entry_eq]
  generalize (lg_sl ([.ref (a 5), .ref (a 39), .int (i2 p1)]) ++ List.replicate (6 - (lg_sl ([.ref (a 5), .ref (a 39), .int (i2 p1)])).length) Slot.unset).toArray = ls at hl ⊢
  have hl : lv_has ls 6 [(0, .ref (a 5)), (1, .ref (a 39)), (2, .int (i2 p1))] := hl
  unfold m_x6_readVolume at h
  refine y_head (pcJ := 96) (σ := Int × Int × Int × Int × MS) (fun u H locs ls => va_P D vwCl (CS D a u.2.2.2.2) H ∧ va_S A s₀.heap H locs ∧ lv_has ls 6 [(0, .ref (a 5)), (1, .ref (a 39)), (2, .int (i2 u.1)), (3, .int (i2 u.2.1)), (4, .int (i2 u.2.2.1)), (5, .int (i2 u.2.2.2.1))] ∧ m_x6_readVolume_J96 u.1 u.2.1 u.2.2.1 u.2.2.2.1 u.2.2.2.2 = some o) (fun u => []) (fun u H locs ls hI => ?_) (fun J96 => ?_)
  · obtain ⟨hP, hS, hl, h⟩ := hI
    obtain ⟨x1, x2, x3, x4, s5⟩ := u
    have hP : va_P D vwCl (CS D a s5) H := hP
    have hl : lv_has ls 6 [(0, .ref (a 5)), (1, .ref (a 39)), (2, .int (i2 x1)), (3, .int (i2 x2)), (4, .int (i2 x3)), (5, .int (i2 x4))] := hl
    have h : m_x6_readVolume_J96 x1 x2 x3 x4 s5 = some o := h
    unfold m_x6_readVolume_J96 at h
    refine lv_aload_n hx hb eX6_readVolume_84.2.2.2.2.2.2.2 rfl (lv_at hl 1 rfl) ?_
    refine lv_iload_n hx hb eX6_readVolume_97.1 rfl (lv_at hl 2 rfl) ?_
    refine lv_aload_n hx hb eX6_readVolume_97.2.1 rfl (lv_at hl 1 rfl) ?_
    refine lv_aload_n hx hb eX6_readVolume_97.2.2.1 rfl (lv_at hl 0 rfl) ?_
    refine va_get (D := D) (ci := 6) (v := .ref (a 3)) (C := RX6) (T := TX6) (N := 12) hx hb ht inX6 hown hK hP 5 CW_5 rfl 2 (by decide) (ht (.fieldLink RX6 27 "CloneVolumes$Reader" "tape" "LCloneVolumes$Tape;") fl_X6_27) (fun _ h9 => h9) rfl eX6_readVolume_97.2.2.2.1 ?_
    refine lv_iload_n hx hb eX6_readVolume_97.2.2.2.2.1 rfl (lv_at hl 3 rfl) ?_
    refine lv_iload hx hb eX6_readVolume_97.2.2.2.2.2.1 (lv_at hl 4 rfl) ?_
    obtain ⟨⟨r8, s7⟩, hc6, h⟩ := bn_e h
    refine ywV (r0 := i2 r8) (As := [.ref (a 3), .int (i2 x2), .int (i2 x3)]) (rest := [.int (i2 x1), .ref (a 39)]) (C := RX5) (n := 3) (ws' := CS D a s7) ⟨hx, hb, hml, hown, ht⟩ (k_x5_addVolume l D a x2 x3 _ _ _ hc6) (zgV ml_X6_178 im_X5_addVolume se_X5_addVolume in_X5 co_X5_addVolume) rfl rfl (by decide +kernel) ⟨Nat.le_of_ble_eq_true rfl, Nat.le_of_ble_eq_true rfl⟩ hN hK hP (hDD _) hS hA 39 CW_39 rfl rfl rfl hl.1 rfl (Nat.le_of_ble_eq_true rfl) eX6_readVolume_97.2.2.2.2.2.2.1 ⟨Nat.le_of_ble_eq_true rfl, Nat.le_of_ble_eq_true rfl⟩ (fun H locs hP hS => ?_)
    refine lv_iload hx hb eX6_readVolume_97.2.2.2.2.2.2.2 (lv_at hl 5 rfl) ?_
    refine lv_iconst (v := 0) hx hb eX6_readVolume_111.1 (by decide) ?_
    obtain ⟨s10, hc9, h⟩ := bn_e h
    refine ywVv (As := [.int (i2 x1), .int (i2 r8), .int (i2 x4), .int 0]) (rest := []) (C := RX5) (n := 4) (ws' := CS D a s10) ⟨hx, hb, hml, hown, ht⟩ (k_x5_addChange l D a x1 r8 x4 0 _ _ _ hc9) (zgV ml_X6_181 im_X5_addChange se_X5_addChange in_X5 co_X5_addChange) rfl rfl (by decide +kernel) ⟨Nat.le_of_ble_eq_true rfl, Nat.le_of_ble_eq_true rfl⟩ hN hK hP (hDD _) hS hA 39 CW_39 rfl rfl rfl hl.1 rfl (Nat.le_of_ble_eq_true rfl) eX6_readVolume_111.2.1 ⟨Nat.le_of_ble_eq_true rfl, Nat.le_of_ble_eq_true rfl⟩ (fun H locs hP hS => ?_)
    obtain rfl := Option.some.inj h
    exact W.vret hx hb hr (fun t ht hW => ⟨⟨(), rfl, trivial, by rw [ht]; exact hP, va_K.moved hW.alike hK, hDD _⟩, hS.F ht⟩) hS.2.2 eX6_readVolume_111.2.2
  refine y_head (pcJ := 61) (σ := Int × MS) (fun u H locs ls => va_P D vwCl (CS D a u.2) H ∧ va_S A s₀.heap H locs ∧ lv_has ls 6 [(0, .ref (a 5)), (1, .ref (a 39)), (2, .int (i2 u.1))] ∧ m_x6_readVolume_J61 u.1 u.2 = some o) (fun u => []) (fun u H locs ls hI => ?_) (fun J61 => ?_)
  · obtain ⟨hP, hS, hl, h⟩ := hI
    obtain ⟨x11, s12⟩ := u
    have hP : va_P D vwCl (CS D a s12) H := hP
    have hl : lv_has ls 6 [(0, .ref (a 5)), (1, .ref (a 39)), (2, .int (i2 x11))] := hl
    have h : m_x6_readVolume_J61 x11 s12 = some o := h
    unfold m_x6_readVolume_J61 at h
    refine lv_aload_n hx hb eX6_readVolume_54.2.2.2.1 rfl (lv_at hl 0 rfl) ?_
    refine va_get (D := D) (ci := 6) (v := .int (i2 (gI s12 108))) (C := RX6) (T := TX6) (N := 12) hx hb ht inX6 hown hK hP 5 CW_5 rfl 8 (by decide) (ht (.fieldLink RX6 51 "CloneVolumes$Reader" "start" "I") fl_X6_51) (fun _ h9 => h9) rfl eX6_readVolume_54.2.2.2.2.1 ?_
    refine lv_istore_n (lv' := [(3, .int (i2 (gI s12 108))), (0, .ref (a 5)), (1, .ref (a 39)), (2, .int (i2 x11))]) hx hb eX6_readVolume_54.2.2.2.2.2.1 rfl hl (by decide) rfl (fun ls hl => ?_)
    refine lv_aload_n hx hb eX6_readVolume_54.2.2.2.2.2.2.1 rfl (lv_at hl 1 rfl) ?_
    refine va_get (D := D) (ci := 6) (v := .int (i2 (gI s12 109))) (C := RX6) (T := TX6) (N := 12) hx hb ht inX6 hown hK hP 5 CW_5 rfl 9 (by decide) (ht (.fieldLink RX6 88 "CloneVolumes$Reader" "stop" "I") fl_X6_88) (fun _ h9 => h9) rfl eX6_readVolume_54.2.2.2.2.2.2.2 ?_
    refine lv_istore (lv' := [(4, .int (i2 (gI s12 109))), (3, .int (i2 (gI s12 108))), (0, .ref (a 5)), (1, .ref (a 39)), (2, .int (i2 x11))]) hx hb eX6_readVolume_70.1 hl (by decide) rfl (fun ls hl => ?_)
    refine lv_iconst (v := (-1)) hx hb eX6_readVolume_70.2.1 (by decide) ?_
    refine lv_istore (lv' := [(5, .int (-1)), (4, .int (i2 (gI s12 109))), (3, .int (i2 (gI s12 108))), (0, .ref (a 5)), (1, .ref (a 39)), (2, .int (i2 x11))]) hx hb eX6_readVolume_70.2.2.1 hl (by decide) rfl (fun ls hl => ?_)
    refine lv_aload_n hx hb eX6_readVolume_70.2.2.2.1 rfl (lv_at hl 3 rfl) ?_
    obtain ⟨s14, hc13, h⟩ := bn_e h
    refine ywVv (As := []) (rest := []) (C := RX6) (n := 0) (ws' := CS D a s14) ⟨hx, hb, hml, hown, ht⟩ (k_x6_advance l D a _ _ _ hc13) (zgV ml_X6_75 im_X6_advance se_X6_advance in_X6 co_X6_advance) rfl rfl (by decide +kernel) ⟨Nat.le_of_ble_eq_true rfl, Nat.le_of_ble_eq_true rfl⟩ hN hK hP (hDD _) hS hA 5 CW_5 rfl rfl rfl hl.1 rfl (Nat.le_of_ble_eq_true rfl) eX6_readVolume_70.2.2.2.2.1 ⟨Nat.le_of_ble_eq_true rfl, Nat.le_of_ble_eq_true rfl⟩ (fun H locs hP hS => ?_)
    refine lv_iload_n hx hb eX6_readVolume_70.2.2.2.2.2.1 rfl (lv_at hl 5 rfl) ?_
    refine lv_iconst (v := 3) hx hb eX6_readVolume_70.2.2.2.2.2.2.1 (by decide) ?_
    obtain ⟨hr15, h⟩ := rg_e h
    refine lv_icmp_ne (tgt := 96) hx hb eX6_readVolume_70.2.2.2.2.2.2.2 (by decide) (fun c16 => ?_) (fun c16 => ?_)
    · have h := if_f (mt (i2_eq (x := x11) (y := 3) hr15 (by decide)).mpr c16) h
      exact J96 (x11, gI s12 108, gI s12 109, (-1), s14) _ _ _ ⟨hP, hS, lv_sub hl [3, 4, 5, 2, 1, 0] rfl, h⟩
    · have h := if_t ((i2_eq (x := x11) (y := 3) hr15 (by decide)).mp c16) h
      refine lv_aload_n hx hb eX6_readVolume_84.1 rfl (lv_at hl 3 rfl) ?_
      refine lv_iconst (v := 4) hx hb eX6_readVolume_84.2.1 (by decide) ?_
      obtain ⟨s18, hc17, h⟩ := bn_e h
      refine ywVv (As := [.int 4]) (rest := []) (C := RX6) (n := 1) (ws' := CS D a s18) ⟨hx, hb, hml, hown, ht⟩ (k_x6_expectWord l D a 4 _ _ _ hc17) (zgV ml_X6_165 im_X6_expectWord se_X6_expectWord in_X6 co_X6_expectWord) rfl rfl (by decide +kernel) ⟨Nat.le_of_ble_eq_true rfl, Nat.le_of_ble_eq_true rfl⟩ hN hK hP (hDD _) hS hA 5 CW_5 rfl rfl rfl hl.1 rfl (Nat.le_of_ble_eq_true rfl) eX6_readVolume_84.2.2.1 ⟨Nat.le_of_ble_eq_true rfl, Nat.le_of_ble_eq_true rfl⟩ (fun H locs hP hS => ?_)
      refine lv_aload_n hx hb eX6_readVolume_84.2.2.2.1 rfl (lv_at hl 3 rfl) ?_
      refine lv_aload_n hx hb eX6_readVolume_84.2.2.2.2.1 rfl (lv_at hl 4 rfl) ?_
      obtain ⟨⟨r21, s20⟩, hc19, h⟩ := bn_e h
      refine ywV (r0 := i2 r21) (As := [.ref (a 39)]) (rest := []) (C := RX6) (n := 1) (ws' := CS D a s20) ⟨hx, hb, hml, hown, ht⟩ (k_x6_expectVolume l D a _ _ _ hc19) (zgV ml_X6_174 im_X6_expectVolume se_X6_expectVolume in_X6 co_X6_expectVolume) rfl rfl (by decide +kernel) ⟨Nat.le_of_ble_eq_true rfl, Nat.le_of_ble_eq_true rfl⟩ hN hK hP (hDD _) hS hA 5 CW_5 rfl rfl rfl hl.1 rfl (Nat.le_of_ble_eq_true rfl) eX6_readVolume_84.2.2.2.2.2.1 ⟨Nat.le_of_ble_eq_true rfl, Nat.le_of_ble_eq_true rfl⟩ (fun H locs hP hS => ?_)
      refine lv_istore (lv' := [(5, .int (i2 r21)), (4, .int (i2 (gI s12 109))), (3, .int (i2 (gI s12 108))), (0, .ref (a 5)), (1, .ref (a 39)), (2, .int (i2 x11))]) hx hb eX6_readVolume_84.2.2.2.2.2.2.1 hl (by decide) rfl (fun ls hl => ?_)
      exact J96 (x11, gI s12 108, gI s12 109, r21, s20) _ _ _ ⟨hP, hS, lv_sub hl [3, 4, 5, 2, 1, 0] rfl, h⟩
  refine y_head (pcJ := 19) (σ := Int × MS) (fun u H locs ls => va_P D vwCl (CS D a u.2) H ∧ va_S A s₀.heap H locs ∧ lv_has ls 6 [(0, .ref (a 5)), (1, .ref (a 39)), (2, .int (i2 u.1))] ∧ m_x6_readVolume_J19 u.1 u.2 = some o) (fun u => []) (fun u H locs ls hI => ?_) (fun J19 => ?_)
  · obtain ⟨hP, hS, hl, h⟩ := hI
    obtain ⟨x22, s23⟩ := u
    have hP : va_P D vwCl (CS D a s23) H := hP
    have hl : lv_has ls 6 [(0, .ref (a 5)), (1, .ref (a 39)), (2, .int (i2 x22))] := hl
    have h : m_x6_readVolume_J19 x22 s23 = some o := h
    unfold m_x6_readVolume_J19 at h
    refine lv_aload_n hx hb eX6_readVolume_10.2.2.2.2.2.1 rfl (lv_at hl 0 rfl) ?_
    obtain ⟨s25, hc24, h⟩ := bn_e h
    refine ywVv (As := []) (rest := []) (C := RX6) (n := 0) (ws' := CS D a s25) ⟨hx, hb, hml, hown, ht⟩ (k_x6_advance l D a _ _ _ hc24) (zgV ml_X6_75 im_X6_advance se_X6_advance in_X6 co_X6_advance) rfl rfl (by decide +kernel) ⟨Nat.le_of_ble_eq_true rfl, Nat.le_of_ble_eq_true rfl⟩ hN hK hP (hDD _) hS hA 5 CW_5 rfl rfl rfl hl.1 rfl (Nat.le_of_ble_eq_true rfl) eX6_readVolume_10.2.2.2.2.2.2.1 ⟨Nat.le_of_ble_eq_true rfl, Nat.le_of_ble_eq_true rfl⟩ (fun H locs hP hS => ?_)
    refine lv_aload_n hx hb eX6_readVolume_10.2.2.2.2.2.2.2 rfl (lv_at hl 0 rfl) ?_
    obtain ⟨⟨r28, s27⟩, hc26, h⟩ := bn_e h
    refine ywV (r0 := i2 r28) (As := []) (rest := []) (C := RX6) (n := 0) (ws' := CS D a s27) ⟨hx, hb, hml, hown, ht⟩ (k_x6_isName l D a _ _ _ hc26) (zgV ml_X6_127 im_X6_isName se_X6_isName in_X6 co_X6_isName) rfl rfl (by decide +kernel) ⟨Nat.le_of_ble_eq_true rfl, Nat.le_of_ble_eq_true rfl⟩ hN hK hP (hDD _) hS hA 5 CW_5 rfl rfl rfl hl.1 rfl (Nat.le_of_ble_eq_true rfl) eX6_readVolume_24.1 ⟨Nat.le_of_ble_eq_true rfl, Nat.le_of_ble_eq_true rfl⟩ (fun H locs hP hS => ?_)
    obtain ⟨hr29, h⟩ := rg_e h
    refine lv_if_ne (tgt := 31) hx hb eX6_readVolume_24.2.1 (by decide) (fun c30 => ?_) (fun c30 => ?_)
    · have h := if_f (mt (i2_eq (x := r28) (y := 0) hr29 (by decide)).mpr c30) h
      refine lv_aload_n hx hb eX6_readVolume_24.2.2.2.1 rfl (lv_at hl 1 rfl) ?_
      refine lv_aload_n hx hb eX6_readVolume_24.2.2.2.2.1 rfl (lv_at hl 0 rfl) ?_
      refine va_get (D := D) (ci := 6) (v := .ref (a 3)) (C := RX6) (T := TX6) (N := 12) hx hb ht inX6 hown hK hP 5 CW_5 rfl 2 (by decide) (ht (.fieldLink RX6 27 "CloneVolumes$Reader" "tape" "LCloneVolumes$Tape;") fl_X6_27) (fun _ h9 => h9) rfl eX6_readVolume_24.2.2.2.2.2.1 ?_
      refine lv_aload_n hx hb eX6_readVolume_24.2.2.2.2.2.2.1 rfl (lv_at hl 0 rfl) ?_
      refine va_get (D := D) (ci := 6) (v := .int (i2 (gI s27 108))) (C := RX6) (T := TX6) (N := 12) hx hb ht inX6 hown hK hP 5 CW_5 rfl 8 (by decide) (ht (.fieldLink RX6 51 "CloneVolumes$Reader" "start" "I") fl_X6_51) (fun _ h9 => h9) rfl eX6_readVolume_24.2.2.2.2.2.2.2 ?_
      refine lv_aload_n hx hb eX6_readVolume_40.1 rfl (lv_at hl 0 rfl) ?_
      refine va_get (D := D) (ci := 6) (v := .int (i2 (gI s27 109))) (C := RX6) (T := TX6) (N := 12) hx hb ht inX6 hown hK hP 5 CW_5 rfl 9 (by decide) (ht (.fieldLink RX6 88 "CloneVolumes$Reader" "stop" "I") fl_X6_88) (fun _ h9 => h9) rfl eX6_readVolume_40.2.1 ?_
      obtain ⟨r32, hc31, h⟩ := bn_e h
      refine ycV (r0 := i2 r32) (As := [.ref (a 3), .int (i2 (gI s27 108)), .int (i2 (gI s27 109))]) (rest := []) (C := RX5) (n := 3) ⟨hx, hb, hml, hown, ht⟩ (k_x5_volumeNamed l D a (gI s27 108) (gI s27 109) _ _ hc31) (zgV ml_X6_131 im_X5_volumeNamed se_X5_volumeNamed in_X5 co_X5_volumeNamed) rfl rfl (by decide +kernel) ⟨Nat.le_of_ble_eq_true rfl, Nat.le_of_ble_eq_true rfl⟩ hN hK hP hS 39 CW_39 rfl rfl rfl hl.1 rfl (Nat.le_of_ble_eq_true rfl) eX6_readVolume_40.2.2.1 ⟨Nat.le_of_ble_eq_true rfl, Nat.le_of_ble_eq_true rfl⟩ (fun H locs hP hS => ?_)
      refine lv_iconst (v := (-1)) hx hb eX6_readVolume_40.2.2.2.1 (by decide) ?_
      obtain ⟨hr33, h⟩ := rg_e h
      refine lv_icmp_eq (tgt := 61) hx hb eX6_readVolume_40.2.2.2.2.1 (by decide) (fun c34 => ?_) (fun c34 => ?_)
      · rw [show ((-1) : Int32) = i2 (-1) from by decide] at c34
        have h := if_t ((i2_eq (x := r32) (y := (-1)) hr33 (by decide)).mp c34) h
        exact J61 (x22, s27) _ _ _ ⟨hP, hS, lv_sub hl [0, 1, 2] rfl, h⟩
      · rw [show ((-1) : Int32) = i2 (-1) from by decide] at c34
        have h := if_f (mt (i2_eq (x := r32) (y := (-1)) hr33 (by decide)).mpr c34) h
        refine lv_aload_n hx hb eX6_readVolume_40.2.2.2.2.2.1 rfl (lv_at hl 0 rfl) ?_
        refine lv_iconst (v := 3) hx hb eX6_readVolume_40.2.2.2.2.2.2.1 (by decide) ?_
        refine lv_aload_n hx hb eX6_readVolume_40.2.2.2.2.2.2.2 rfl (lv_at hl 0 rfl) ?_
        refine va_get (D := D) (ci := 6) (v := .int (i2 (gI s27 108))) (C := RX6) (T := TX6) (N := 12) hx hb ht inX6 hown hK hP 5 CW_5 rfl 8 (by decide) (ht (.fieldLink RX6 51 "CloneVolumes$Reader" "start" "I") fl_X6_51) (fun _ h9 => h9) rfl eX6_readVolume_54.1 ?_
        obtain ⟨⟨r37, s36⟩, hc35, h⟩ := bn_e h
        refine ywV (r0 := i2 r37) (As := [.int 3, .int (i2 (gI s27 108))]) (rest := []) (C := RX6) (n := 2) (ws' := CS D a s36) ⟨hx, hb, hml, hown, ht⟩ (k_x6_fail l D a 3 (gI s27 108) _ _ _ hc35) (zgV ml_X6_54 im_X6_fail se_X6_fail in_X6 co_X6_fail) rfl rfl (by decide +kernel) ⟨Nat.le_of_ble_eq_true rfl, Nat.le_of_ble_eq_true rfl⟩ hN hK hP (hDD _) hS hA 5 CW_5 rfl rfl rfl hl.1 rfl (Nat.le_of_ble_eq_true rfl) eX6_readVolume_54.2.1 ⟨Nat.le_of_ble_eq_true rfl, Nat.le_of_ble_eq_true rfl⟩ (fun H locs hP hS => ?_)
        refine lv_pop hx hb eX6_readVolume_54.2.2.1 rfl ?_
        exact J61 (x22, s36) _ _ _ ⟨hP, hS, lv_sub hl [0, 1, 2] rfl, h⟩
    · have h := if_t ((i2_eq (x := r28) (y := 0) hr29 (by decide)).mp c30) h
      obtain rfl := Option.some.inj h
      exact W.vret hx hb hr (fun t ht hW => ⟨⟨(), rfl, trivial, by rw [ht]; exact hP, va_K.moved hW.alike hK, hDD _⟩, hS.F ht⟩) hS.2.2 eX6_readVolume_24.2.2.1
  refine lv_aload_n hx hb eX6_readStatement_256.2.2.2.1 rfl (lv_at hl 1 rfl) ?_
  refine va_get (D := D) (ci := 5) (v := .int (i2 (gI s 784))) (C := RX5) (T := TX5) (N := 14) hx hb ht inX5 hown hK hP 39 CW_39 rfl 4 (by decide) (ht (.fieldLink RX6 171 "CloneVolumes$Plan" "volumes" "I") fl_X6_171) (fun _ h9 => h9) rfl eX6_readStatement_256.2.2.2.2.1 ?_
  refine lv_bipush (v := 8) hx hb eX6_readStatement_256.2.2.2.2.2.1 (by decide) ?_
  obtain ⟨hr38, h⟩ := rg_e h
  refine lv_icmp_ne (tgt := 19) hx hb eX6_readStatement_256.2.2.2.2.2.2.1 (by decide) (fun c39 => ?_) (fun c39 => ?_)
  · have h := if_f (mt (i2_eq (x := (gI s 784)) (y := 8) hr38 (by decide)).mpr c39) h
    exact J19 (p1, s) _ _ _ ⟨hP, hS, lv_sub hl [0, 1, 2] rfl, h⟩
  · have h := if_t ((i2_eq (x := (gI s 784)) (y := 8) hr38 (by decide)).mp c39) h
    refine lv_aload_n hx hb eX6_readStatement_256.2.2.2.2.2.2.2 rfl (lv_at hl 0 rfl) ?_
    refine lv_iconst (v := 5) hx hb eX6_readVolume_10.1 (by decide) ?_
    refine lv_aload_n hx hb eX6_readVolume_10.2.1 rfl (lv_at hl 0 rfl) ?_
    refine va_get (D := D) (ci := 6) (v := .int (i2 (gI s 108))) (C := RX6) (T := TX6) (N := 12) hx hb ht inX6 hown hK hP 5 CW_5 rfl 8 (by decide) (ht (.fieldLink RX6 51 "CloneVolumes$Reader" "start" "I") fl_X6_51) (fun _ h9 => h9) rfl eX6_readVolume_10.2.2.1 ?_
    obtain ⟨⟨r42, s41⟩, hc40, h⟩ := bn_e h
    refine ywV (r0 := i2 r42) (As := [.int 5, .int (i2 (gI s 108))]) (rest := []) (C := RX6) (n := 2) (ws' := CS D a s41) ⟨hx, hb, hml, hown, ht⟩ (k_x6_fail l D a 5 (gI s 108) _ _ _ hc40) (zgV ml_X6_54 im_X6_fail se_X6_fail in_X6 co_X6_fail) rfl rfl (by decide +kernel) ⟨Nat.le_of_ble_eq_true rfl, Nat.le_of_ble_eq_true rfl⟩ hN hK hP (hDD _) hS hA 5 CW_5 rfl rfl rfl hl.1 rfl (Nat.le_of_ble_eq_true rfl) eX6_readVolume_10.2.2.2.1 ⟨Nat.le_of_ble_eq_true rfl, Nat.le_of_ble_eq_true rfl⟩ (fun H locs hP hS => ?_)
    refine lv_pop hx hb eX6_readVolume_10.2.2.2.2.1 rfl ?_
    exact J19 (p1, s41) _ _ _ ⟨hP, hS, lv_sub hl [0, 1, 2] rfl, h⟩
set_option maxHeartbeats 4000000 in
set_option maxRecDepth 100000 in
theorem k_x6_readBlocks (l : Launch) (D : va_G) (a : Nat → Nat) (sz : Nat) (s : MS) (o : MS) (h : m_x6_readBlocks s = some o) : yWv l yX6_readBlocks cX6_readBlocks 2 none { frames := 3, cells := 0, slots := 0, locals := 180 } D sz [.ref (a 5), .ref (a 39)] (CS D a s) (CS D a o) := by
  refine Met.ofW (cc := cX6_readBlocks) (maxL := 2) (ret := none) (by decide) rfl ?_
  intro p e s₀ m args below meth c s₁ B hml hv
  obtain ⟨rfl, ⟨hsz, hP, hK, hD0⟩, hN⟩ := hv
  have hx := B.exec
  have hb := B.bytes
  have hr := B.returns
  have hts := atoms_spec (ws := wz yX6_readBlocks cX6_readBlocks 2 none) B.pre
  have ht : ∀ w ∈ lw_gd, w.before _ s₀ = true := fun w h => hts w (List.mem_cons_of_mem _ h)
  have hown : s₀.vm.findClass RX6 = some m.cls := findClass_of_methodNamed B.named
  have hlocks := B.notSynchronized
  subst hsz
  have hD := hD0.self (sz := s₀.heap.size)
  generalize hAe : va_A (CS D a s) s₀.heap.size = A at hD ⊢
  have hA : ∀ q : Nat, s₀.heap.size ≤ q → A q := fun q h => by rw [← hAe]; exact Or.inr h
  have hS : va_S A s₀.heap s₀.heap [] := va_S.rf
  have hDD : ∀ t : MS, va_D A (CS D a t) := fun t => CW_D t hD
  have hl := lv_entry ([.ref (a 5), .ref (a 39)]) (n := 2) (Nat.le_of_ble_eq_true rfl)
  rw [lg_entry_eq]
  generalize (lg_sl ([.ref (a 5), .ref (a 39)]) ++ List.replicate (2 - (lg_sl ([.ref (a 5), .ref (a 39)])).length) Slot.unset).toArray = ls at hl ⊢
  have hl : lv_has ls 2 [(0, .ref (a 5)), (1, .ref (a 39))] := hl
  unfold m_x6_readBlocks at h
  refine lv_aload_n hx hb eX6_isName_64.2.2.2.2.1 rfl (lv_at hl 0 rfl) ?_
  obtain ⟨s2, hc1, h⟩ := bn_e h
  refine ywVv (As := []) (rest := []) (C := RX6) (n := 0) (ws' := CS D a s2) ⟨hx, hb, hml, hown, ht⟩ (k_x6_advance l D a _ _ _ hc1) (zgV ml_X6_75 im_X6_advance se_X6_advance in_X6 co_X6_advance) rfl rfl (by decide +kernel) ⟨Nat.le_of_ble_eq_true rfl, Nat.le_of_ble_eq_true rfl⟩ hN hK hP (hDD _) hS hA 5 CW_5 rfl rfl rfl hl.1 rfl (Nat.le_of_ble_eq_true rfl) eX6_isName_64.2.2.2.2.2.1 ⟨Nat.le_of_ble_eq_true rfl, Nat.le_of_ble_eq_true rfl⟩ (fun H locs hP hS => ?_)
  refine lv_aload_n hx hb eX6_isName_64.2.2.2.2.2.2.1 rfl (lv_at hl 1 rfl) ?_
  refine lv_aload_n hx hb eX6_isName_64.2.2.2.2.2.2.2 rfl (lv_at hl 0 rfl) ?_
  refine lv_bipush (v := 8) hx hb eX6_readBlocks_6.1 (by decide) ?_
  refine lv_bipush (v := 48) hx hb eX6_readBlocks_6.2.1 (by decide) ?_
  obtain ⟨⟨r5, s4⟩, hc3, h⟩ := bn_e h
  refine ywV (r0 := i2 r5) (As := [.int 8, .int 48]) (rest := [.ref (a 39)]) (C := RX6) (n := 2) (ws' := CS D a s4) ⟨hx, hb, hml, hown, ht⟩ (k_x6_expectNumber l D a 8 48 _ _ _ hc3) (zgV ml_X6_151 im_X6_expectNumber se_X6_expectNumber in_X6 co_X6_expectNumber) rfl rfl (by decide +kernel) ⟨Nat.le_of_ble_eq_true rfl, Nat.le_of_ble_eq_true rfl⟩ hN hK hP (hDD _) hS hA 5 CW_5 rfl rfl rfl hl.1 rfl (Nat.le_of_ble_eq_true rfl) eX6_readBlocks_6.2.2.1 ⟨Nat.le_of_ble_eq_true rfl, Nat.le_of_ble_eq_true rfl⟩ (fun H locs hP hS => ?_)
  refine ya_put (D := D) (ci := 5) (v := .int (i2 r5)) (ty := .int) (C := RX5) (T := TX5) (N := 14) hx hb ht inX5 tyX5 tyX5_ok nmX5 hown hK hP (hDD _) hS 39 CW_39 rfl 0 (by decide) (ht (.fieldLink RX6 162 "CloneVolumes$Plan" "blocks" "I") fl_X6_162) (fun _ h9 => h9) rfl (by decide +kernel) rfl rfl (Nat.le_of_ble_eq_true rfl) eX6_readBlocks_6.2.2.2.1 (CW_w39_0 r5) (fun H locs hP hS => ?_)
  obtain ⟨s6, hs6, h⟩ := st_e h
  rw [hs6] at hP
  refine lv_aload_n hx hb eX6_readBlocks_6.2.2.2.2.1 rfl (lv_at hl 0 rfl) ?_
  refine lv_iconst (v := 1) hx hb eX6_readBlocks_6.2.2.2.2.2.1 (by decide) ?_
  obtain ⟨s8, hc7, h⟩ := bn_e h
  refine ywVv (As := [.int 1]) (rest := []) (C := RX6) (n := 1) (ws' := CS D a s8) ⟨hx, hb, hml, hown, ht⟩ (k_x6_expectWord l D a 1 _ _ _ hc7) (zgV ml_X6_165 im_X6_expectWord se_X6_expectWord in_X6 co_X6_expectWord) rfl rfl (by decide +kernel) ⟨Nat.le_of_ble_eq_true rfl, Nat.le_of_ble_eq_true rfl⟩ hN hK hP (hDD _) hS hA 5 CW_5 rfl rfl rfl hl.1 rfl (Nat.le_of_ble_eq_true rfl) eX6_readBlocks_6.2.2.2.2.2.2.1 ⟨Nat.le_of_ble_eq_true rfl, Nat.le_of_ble_eq_true rfl⟩ (fun H locs hP hS => ?_)
  refine lv_aload_n hx hb eX6_readBlocks_6.2.2.2.2.2.2.2 rfl (lv_at hl 1 rfl) ?_
  refine lv_aload_n hx hb eX6_readBlocks_22.1 rfl (lv_at hl 0 rfl) ?_
  refine lv_iconst (v := 3) hx hb eX6_readBlocks_22.2.1 (by decide) ?_
  refine lv_bipush (v := 6) hx hb eX6_readBlocks_22.2.2.1 (by decide) ?_
  obtain ⟨⟨r11, s10⟩, hc9, h⟩ := bn_e h
  refine ywV (r0 := i2 r11) (As := [.int 3, .int 6]) (rest := [.ref (a 39)]) (C := RX6) (n := 2) (ws' := CS D a s10) ⟨hx, hb, hml, hown, ht⟩ (k_x6_expectNumber l D a 3 6 _ _ _ hc9) (zgV ml_X6_151 im_X6_expectNumber se_X6_expectNumber in_X6 co_X6_expectNumber) rfl rfl (by decide +kernel) ⟨Nat.le_of_ble_eq_true rfl, Nat.le_of_ble_eq_true rfl⟩ hN hK hP (hDD _) hS hA 5 CW_5 rfl rfl rfl hl.1 rfl (Nat.le_of_ble_eq_true rfl) eX6_readBlocks_22.2.2.2.1 ⟨Nat.le_of_ble_eq_true rfl, Nat.le_of_ble_eq_true rfl⟩ (fun H locs hP hS => ?_)
  refine ya_put (D := D) (ci := 5) (v := .int (i2 r11)) (ty := .int) (C := RX5) (T := TX5) (N := 14) hx hb ht inX5 tyX5 tyX5_ok nmX5 hown hK hP (hDD _) hS 39 CW_39 rfl 1 (by decide) (ht (.fieldLink RX6 168 "CloneVolumes$Plan" "entriesMost" "I") fl_X6_168) (fun _ h9 => h9) rfl (by decide +kernel) rfl rfl (Nat.le_of_ble_eq_true rfl) eX6_readBlocks_22.2.2.2.2.1 (CW_w39_1 r11) (fun H locs hP hS => ?_)
  obtain ⟨s12, hs12, h⟩ := st_e h
  rw [hs12] at hP
  obtain rfl := Option.some.inj h
  exact W.vret hx hb hr (fun t ht hW => ⟨⟨(), rfl, trivial, by rw [ht]; exact hP, va_K.moved hW.alike hK, hDD _⟩, hS.F ht⟩) hS.2.2 eX6_readBlocks_22.2.2.2.2.2.1
set_option maxHeartbeats 4000000 in
set_option maxRecDepth 100000 in
theorem k_x6_beginFormula (l : Launch) (D : va_G) (a : Nat → Nat) (p1 : Int) (sz : Nat) (s : MS) (o : MS) (h : m_x6_beginFormula p1 s = some o) : yWv l yX6_beginFormula cX6_beginFormula 3 none { frames := 2, cells := 0, slots := 0, locals := 120 } D sz [.ref (a 5), .ref (a 39), .int (i2 p1)] (CS D a s) (CS D a o) := by
  refine Met.ofW (cc := cX6_beginFormula) (maxL := 3) (ret := none) (by decide) rfl ?_
  intro p e s₀ m args below meth c s₁ B hml hv
  obtain ⟨rfl, ⟨hsz, hP, hK, hD0⟩, hN⟩ := hv
  have hx := B.exec
  have hb := B.bytes
  have hr := B.returns
  have hts := atoms_spec (ws := wz yX6_beginFormula cX6_beginFormula 3 none) B.pre
  have ht : ∀ w ∈ lw_gd, w.before _ s₀ = true := fun w h => hts w (List.mem_cons_of_mem _ h)
  have hown : s₀.vm.findClass RX6 = some m.cls := findClass_of_methodNamed B.named
  have hlocks := B.notSynchronized
  subst hsz
  have hD := hD0.self (sz := s₀.heap.size)
  generalize hAe : va_A (CS D a s) s₀.heap.size = A at hD ⊢
  have hA : ∀ q : Nat, s₀.heap.size ≤ q → A q := fun q h => by rw [← hAe]; exact Or.inr h
  have hS : va_S A s₀.heap s₀.heap [] := va_S.rf
  have hDD : ∀ t : MS, va_D A (CS D a t) := fun t => CW_D t hD
  have hl := lv_entry ([.ref (a 5), .ref (a 39), .int (i2 p1)]) (n := 3) (Nat.le_of_ble_eq_true rfl)
  rw [lg_entry_eq]
  generalize (lg_sl ([.ref (a 5), .ref (a 39), .int (i2 p1)]) ++ List.replicate (3 - (lg_sl ([.ref (a 5), .ref (a 39), .int (i2 p1)])).length) Slot.unset).toArray = ls at hl ⊢
  have hl : lv_has ls 3 [(0, .ref (a 5)), (1, .ref (a 39)), (2, .int (i2 p1))] := hl
  unfold m_x6_beginFormula at h
  refine y_head (pcJ := 20) (σ := Int × MS) (fun u H locs ls => va_P D vwCl (CS D a u.2) H ∧ va_S A s₀.heap H locs ∧ lv_has ls 3 [(0, .ref (a 5)), (1, .ref (a 39)), (2, .int (i2 u.1))] ∧ m_x6_beginFormula_J20 u.1 u.2 = some o) (fun u => []) (fun u H locs ls hI => ?_) (fun J20 => ?_)
  · obtain ⟨hP, hS, hl, h⟩ := hI
    obtain ⟨x1, s2⟩ := u
    have hP : va_P D vwCl (CS D a s2) H := hP
    have hl : lv_has ls 3 [(0, .ref (a 5)), (1, .ref (a 39)), (2, .int (i2 x1))] := hl
    have h : m_x6_beginFormula_J20 x1 s2 = some o := h
    unfold m_x6_beginFormula_J20 at h
    refine lv_aload_n hx hb eX6_beginFormula_19.2.1 rfl (lv_at hl 0 rfl) ?_
    obtain ⟨s4, hc3, h⟩ := bn_e h
    refine ywVv (As := []) (rest := []) (C := RX6) (n := 0) (ws' := CS D a s4) ⟨hx, hb, hml, hown, ht⟩ (k_x6_advance l D a _ _ _ hc3) (zgV ml_X6_75 im_X6_advance se_X6_advance in_X6 co_X6_advance) rfl rfl (by decide +kernel) ⟨Nat.le_of_ble_eq_true rfl, Nat.le_of_ble_eq_true rfl⟩ hN hK hP (hDD _) hS hA 5 CW_5 rfl rfl rfl hl.1 rfl (Nat.le_of_ble_eq_true rfl) eX6_beginFormula_19.2.2.1 ⟨Nat.le_of_ble_eq_true rfl, Nat.le_of_ble_eq_true rfl⟩ (fun H locs hP hS => ?_)
    refine lv_aload_n hx hb eX6_beginFormula_19.2.2.2.1 rfl (lv_at hl 0 rfl) ?_
    refine lv_iload_n hx hb eX6_beginFormula_19.2.2.2.2.1 rfl (lv_at hl 2 rfl) ?_
    refine ya_put (D := D) (ci := 6) (v := .int (i2 x1)) (ty := .int) (C := RX6) (T := TX6) (N := 12) hx hb ht inX6 tyX6 tyX6_ok nmX6 hown hK hP (hDD _) hS 5 CW_5 rfl 5 (by decide) (ht (.fieldLink RX6 69 "CloneVolumes$Reader" "mode" "I") fl_X6_69) (fun _ h9 => h9) rfl (by decide +kernel) rfl rfl (Nat.le_of_ble_eq_true rfl) eX6_beginFormula_19.2.2.2.2.2.1 (CW_w5_5 x1) (fun H locs hP hS => ?_)
    obtain ⟨s5, hs5, h⟩ := st_e h
    rw [hs5] at hP
    refine lv_aload_n hx hb eX6_beginFormula_19.2.2.2.2.2.2.1 rfl (lv_at hl 1 rfl) ?_
    refine va_get (D := D) (ci := 5) (v := .ref (a 45)) (C := RX5) (T := TX5) (N := 14) hx hb ht inX5 hown hK hP 39 CW_39 rfl 12 (by decide) (ht (.fieldLink RX6 185 "CloneVolumes$Plan" "begins" "[I") fl_X6_185) (fun _ h9 => h9) rfl eX6_beginFormula_19.2.2.2.2.2.2.2 ?_
    refine lv_iload_n hx hb eX6_beginFormula_33.1 rfl (lv_at hl 2 rfl) ?_
    refine lv_aload_n hx hb eX6_beginFormula_33.2.1 rfl (lv_at hl 0 rfl) ?_
    obtain ⟨he6, h⟩ := eqg_e h
    refine va_get (D := D) (ci := 6) (v := .ref (a 47)) (C := RX6) (T := TX6) (N := 12) hx hb ht inX6 hown hK hP 5 CW_5 rfl 4 (by decide) (ht (.fieldLink RX6 84 "CloneVolumes$Reader" "code" "LCloneVolumes$Code;") fl_X6_84) (fun _ h9 => h9) (congrArg some (rcv_2 he6)) eX6_beginFormula_33.2.2.1 ?_
    refine va_get (D := D) (ci := 0) (v := .int (i2 (gI s5 941))) (C := RX0) (T := TX0) (N := 2) hx hb ht inX0 hown hK hP 47 CW_47 rfl 1 (by decide) (ht (.fieldLink RX6 64 "CloneVolumes$Code" "size" "I") fl_X6_64) (fun _ h9 => h9) rfl eX6_beginFormula_33.2.2.2.1 ?_
    obtain ⟨hi7, h⟩ := inb_e h
    refine ya_iast (i := x1) (x := (gI s5 941)) hx hb hK hP (hDD _) hS 45 0 CW_45 rfl (by decide) hi7 eX6_beginFormula_33.2.2.2.2.1 (CW_w45 _) (fun H locs hP hS => ?_)
    obtain ⟨s8, hs8, h⟩ := st_e h
    rw [hs8] at hP
    obtain rfl := Option.some.inj h
    exact W.vret hx hb hr (fun t ht hW => ⟨⟨(), rfl, trivial, by rw [ht]; exact hP, va_K.moved hW.alike hK, hDD _⟩, hS.F ht⟩) hS.2.2 eX6_beginFormula_33.2.2.2.2.2.1
  refine lv_aload_n hx hb eX5_volumeNamed_75.2.2.2.2.2.1 rfl (lv_at hl 1 rfl) ?_
  refine va_get (D := D) (ci := 5) (v := .ref (a 45)) (C := RX5) (T := TX5) (N := 14) hx hb ht inX5 hown hK hP 39 CW_39 rfl 12 (by decide) (ht (.fieldLink RX6 185 "CloneVolumes$Plan" "begins" "[I") fl_X6_185) (fun _ h9 => h9) rfl eX5_volumeNamed_75.2.2.2.2.2.2.1 ?_
  refine lv_iload_n hx hb eX5_volumeNamed_75.2.2.2.2.2.2.2 rfl (lv_at hl 2 rfl) ?_
  obtain ⟨y9, ey9, iy9, h⟩ := rdI_e h
  refine ya_iald (i := p1) hx hb hK hP 45 0 CW_45 rfl (by decide) ey9 iy9 eX6_beginFormula_5.1 ?_
  refine lv_iconst (v := (-1)) hx hb eX6_beginFormula_5.2.1 (by decide) ?_
  obtain ⟨hr10, h⟩ := rg_e h
  refine lv_icmp_eq (tgt := 20) hx hb eX6_beginFormula_5.2.2.1 (by decide) (fun c11 => ?_) (fun c11 => ?_)
  · rw [show ((-1) : Int32) = i2 (-1) from by decide] at c11
    have h := if_t ((i2_eq (x := y9) (y := (-1)) hr10 (by decide)).mp c11) h
    exact J20 (p1, s) _ _ _ ⟨hP, hS, lv_sub hl [0, 1, 2] rfl, h⟩
  · rw [show ((-1) : Int32) = i2 (-1) from by decide] at c11
    have h := if_f (mt (i2_eq (x := y9) (y := (-1)) hr10 (by decide)).mpr c11) h
    refine lv_aload_n hx hb eX6_beginFormula_5.2.2.2.1 rfl (lv_at hl 0 rfl) ?_
    refine lv_iconst (v := 5) hx hb eX6_beginFormula_5.2.2.2.2.1 (by decide) ?_
    refine lv_aload_n hx hb eX6_beginFormula_5.2.2.2.2.2.1 rfl (lv_at hl 0 rfl) ?_
    refine va_get (D := D) (ci := 6) (v := .int (i2 (gI s 108))) (C := RX6) (T := TX6) (N := 12) hx hb ht inX6 hown hK hP 5 CW_5 rfl 8 (by decide) (ht (.fieldLink RX6 51 "CloneVolumes$Reader" "start" "I") fl_X6_51) (fun _ h9 => h9) rfl eX6_beginFormula_5.2.2.2.2.2.2.1 ?_
    obtain ⟨⟨r14, s13⟩, hc12, h⟩ := bn_e h
    refine ywV (r0 := i2 r14) (As := [.int 5, .int (i2 (gI s 108))]) (rest := []) (C := RX6) (n := 2) (ws' := CS D a s13) ⟨hx, hb, hml, hown, ht⟩ (k_x6_fail l D a 5 (gI s 108) _ _ _ hc12) (zgV ml_X6_54 im_X6_fail se_X6_fail in_X6 co_X6_fail) rfl rfl (by decide +kernel) ⟨Nat.le_of_ble_eq_true rfl, Nat.le_of_ble_eq_true rfl⟩ hN hK hP (hDD _) hS hA 5 CW_5 rfl rfl rfl hl.1 rfl (Nat.le_of_ble_eq_true rfl) eX6_beginFormula_5.2.2.2.2.2.2.2 ⟨Nat.le_of_ble_eq_true rfl, Nat.le_of_ble_eq_true rfl⟩ (fun H locs hP hS => ?_)
    refine lv_pop hx hb eX6_beginFormula_19.1 rfl ?_
    exact J20 (p1, s13) _ _ _ ⟨hP, hS, lv_sub hl [0, 1, 2] rfl, h⟩
set_option maxHeartbeats 4000000 in
set_option maxRecDepth 100000 in
theorem k_x6_readStatement (l : Launch) (D : va_G) (a : Nat → Nat) (sz : Nat) (s : MS) (o : MS) (h : m_x6_readStatement s = some o) : yWv l yX6_readStatement cX6_readStatement 4 none { frames := 161, cells := 0, slots := 0, locals := 9660 } D sz [.ref (a 5), .ref (a 39)] (CS D a s) (CS D a o) := by
  refine Met.ofW (cc := cX6_readStatement) (maxL := 4) (ret := none) (by decide) rfl ?_
  intro p e s₀ m args below meth c s₁ B hml hv
  obtain ⟨rfl, ⟨hsz, hP, hK, hD0⟩, hN⟩ := hv
  have hx := B.exec
  have hb := B.bytes
  have hr := B.returns
  have hts := atoms_spec (ws := wz yX6_readStatement cX6_readStatement 4 none) B.pre
  have ht : ∀ w ∈ lw_gd, w.before _ s₀ = true := fun w h => hts w (List.mem_cons_of_mem _ h)
  have hown : s₀.vm.findClass RX6 = some m.cls := findClass_of_methodNamed B.named
  have hlocks := B.notSynchronized
  subst hsz
  have hD := hD0.self (sz := s₀.heap.size)
  generalize hAe : va_A (CS D a s) s₀.heap.size = A at hD ⊢
  have hA : ∀ q : Nat, s₀.heap.size ≤ q → A q := fun q h => by rw [← hAe]; exact Or.inr h
  have hS : va_S A s₀.heap s₀.heap [] := va_S.rf
  have hDD : ∀ t : MS, va_D A (CS D a t) := fun t => CW_D t hD
  have hl := lv_entry ([.ref (a 5), .ref (a 39)]) (n := 4) (Nat.le_of_ble_eq_true rfl)
  rw [lg_entry_eq]
  generalize (lg_sl ([.ref (a 5), .ref (a 39)]) ++ List.replicate (4 - (lg_sl ([.ref (a 5), .ref (a 39)])).length) Slot.unset).toArray = ls at hl ⊢
  have hl : lv_has ls 4 [(0, .ref (a 5)), (1, .ref (a 39))] := hl
  unfold m_x6_readStatement at h
  refine y_head (pcJ := 244) (σ := MS) (fun u H locs ls => va_P D vwCl (CS D a u) H ∧ va_S A s₀.heap H locs ∧ lv_has ls 4 [(0, .ref (a 5)), (1, .ref (a 39))] ∧ m_x6_readStatement_J244 u = some o) (fun u => []) (fun u H locs ls hI => ?_) (fun J244 => ?_)
  · obtain ⟨hP, hS, hl, h⟩ := hI
    obtain ⟨s1, rfl⟩ : ∃ z, z = u := ⟨u, rfl⟩
    have hP : va_P D vwCl (CS D a s1) H := hP
    have hl : lv_has ls 4 [(0, .ref (a 5)), (1, .ref (a 39))] := hl
    have h : m_x6_readStatement_J244 s1 = some o := h
    unfold m_x6_readStatement_J244 at h
    refine lv_aload_n hx hb eX6_readStatement_243.2.1 rfl (lv_at hl 0 rfl) ?_
    refine lv_bipush (v := 59) hx hb eX6_readStatement_243.2.2.1 (by decide) ?_
    obtain ⟨s3, hc2, h⟩ := bn_e h
    refine ywVv (As := [.int 59]) (rest := []) (C := RX6) (n := 1) (ws' := CS D a s3) ⟨hx, hb, hml, hown, ht⟩ (k_x6_expectSign l D a 59 _ _ _ hc2) (zgV ml_X6_158 im_X6_expectSign se_X6_expectSign in_X6 co_X6_expectSign) rfl rfl (by decide +kernel) ⟨Nat.le_of_ble_eq_true rfl, Nat.le_of_ble_eq_true rfl⟩ hN hK hP (hDD _) hS hA 5 CW_5 rfl rfl rfl hl.1 rfl (Nat.le_of_ble_eq_true rfl) eX6_readStatement_243.2.2.2.1 ⟨Nat.le_of_ble_eq_true rfl, Nat.le_of_ble_eq_true rfl⟩ (fun H locs hP hS => ?_)
    refine lv_aload_n hx hb eX6_readStatement_243.2.2.2.2.1 rfl (lv_at hl 1 rfl) ?_
    refine lv_dup hx hb eX6_readStatement_243.2.2.2.2.2.1 rfl ?_
    refine va_get (D := D) (ci := 5) (v := .int (i2 (gI s3 783))) (C := RX5) (T := TX5) (N := 14) hx hb ht inX5 hown hK hP 39 CW_39 rfl 3 (by decide) (ht (.fieldLink RX6 58 "CloneVolumes$Plan" "statements" "I") fl_X6_58) (fun _ h9 => h9) rfl eX6_readStatement_243.2.2.2.2.2.2.1 ?_
    refine lv_iconst (v := 1) hx hb eX6_readStatement_243.2.2.2.2.2.2.2 (by decide) ?_
    refine lv_iadd hx hb eX6_readStatement_256.1 ?_
    refine z_topi (y := i2 ((gI s3 783) + 1)) (i2_add (gI s3 783) 1) ?_
    refine ya_put (D := D) (ci := 5) (v := .int (i2 ((gI s3 783) + 1))) (ty := .int) (C := RX5) (T := TX5) (N := 14) hx hb ht inX5 tyX5 tyX5_ok nmX5 hown hK hP (hDD _) hS 39 CW_39 rfl 3 (by decide) (ht (.fieldLink RX6 58 "CloneVolumes$Plan" "statements" "I") fl_X6_58) (fun _ h9 => h9) rfl (by decide +kernel) rfl rfl (Nat.le_of_ble_eq_true rfl) eX6_readStatement_256.2.1 (CW_w39_3 ((gI s3 783) + 1)) (fun H locs hP hS => ?_)
    obtain ⟨s4, hs4, h⟩ := st_e h
    rw [hs4] at hP
    obtain rfl := Option.some.inj h
    exact W.vret hx hb hr (fun t ht hW => ⟨⟨(), rfl, trivial, by rw [ht]; exact hP, va_K.moved hW.alike hK, hDD _⟩, hS.F ht⟩) hS.2.2 eX6_readStatement_256.2.2.1
  refine y_head (pcJ := 234) (σ := MS) (fun u H locs ls => va_P D vwCl (CS D a u) H ∧ va_S A s₀.heap H locs ∧ lv_has ls 4 [(0, .ref (a 5)), (1, .ref (a 39))] ∧ m_x6_readStatement_J234 u = some o) (fun u => []) (fun u H locs ls hI => ?_) (fun J234 => ?_)
  · obtain ⟨hP, hS, hl, h⟩ := hI
    obtain ⟨s5, rfl⟩ : ∃ z, z = u := ⟨u, rfl⟩
    have hP : va_P D vwCl (CS D a s5) H := hP
    have hl : lv_has ls 4 [(0, .ref (a 5)), (1, .ref (a 39))] := hl
    have h : m_x6_readStatement_J234 s5 = some o := h
    unfold m_x6_readStatement_J234 at h
    refine lv_aload_n hx hb eX6_readStatement_225.2.2.2.1 rfl (lv_at hl 0 rfl) ?_
    refine lv_iconst (v := 1) hx hb eX6_readStatement_225.2.2.2.2.1 (by decide) ?_
    refine lv_aload_n hx hb eX6_readStatement_225.2.2.2.2.2.1 rfl (lv_at hl 0 rfl) ?_
    refine va_get (D := D) (ci := 6) (v := .int (i2 (gI s5 108))) (C := RX6) (T := TX6) (N := 12) hx hb ht inX6 hown hK hP 5 CW_5 rfl 8 (by decide) (ht (.fieldLink RX6 51 "CloneVolumes$Reader" "start" "I") fl_X6_51) (fun _ h9 => h9) rfl eX6_readStatement_225.2.2.2.2.2.2.1 ?_
    obtain ⟨⟨r8, s7⟩, hc6, h⟩ := bn_e h
    refine ywV (r0 := i2 r8) (As := [.int 1, .int (i2 (gI s5 108))]) (rest := []) (C := RX6) (n := 2) (ws' := CS D a s7) ⟨hx, hb, hml, hown, ht⟩ (k_x6_fail l D a 1 (gI s5 108) _ _ _ hc6) (zgV ml_X6_54 im_X6_fail se_X6_fail in_X6 co_X6_fail) rfl rfl (by decide +kernel) ⟨Nat.le_of_ble_eq_true rfl, Nat.le_of_ble_eq_true rfl⟩ hN hK hP (hDD _) hS hA 5 CW_5 rfl rfl rfl hl.1 rfl (Nat.le_of_ble_eq_true rfl) eX6_readStatement_225.2.2.2.2.2.2.2 ⟨Nat.le_of_ble_eq_true rfl, Nat.le_of_ble_eq_true rfl⟩ (fun H locs hP hS => ?_)
    refine lv_pop hx hb eX6_readStatement_243.1 rfl ?_
    exact J244 s7 _ _ _ ⟨hP, hS, lv_sub hl [0, 1] rfl, h⟩
  refine y_head (pcJ := 129) (σ := Int × MS) (fun u H locs ls => va_P D vwCl (CS D a u.2) H ∧ va_S A s₀.heap H locs ∧ lv_has ls 4 [(0, .ref (a 5)), (1, .ref (a 39)), (2, .int (i2 u.1))] ∧ m_x6_readStatement_J129 u.1 u.2 = some o) (fun u => []) (fun u H locs ls hI => ?_) (fun J129 => ?_)
  · obtain ⟨hP, hS, hl, h⟩ := hI
    obtain ⟨x9, s10⟩ := u
    have hP : va_P D vwCl (CS D a s10) H := hP
    have hl : lv_has ls 4 [(0, .ref (a 5)), (1, .ref (a 39)), (2, .int (i2 x9))] := hl
    have h : m_x6_readStatement_J129 x9 s10 = some o := h
    unfold m_x6_readStatement_J129 at h
    refine lv_aload_n hx hb eX6_readStatement_122.2.2.2.1 rfl (lv_at hl 0 rfl) ?_
    refine lv_aload_n hx hb eX6_readStatement_122.2.2.2.2.1 rfl (lv_at hl 1 rfl) ?_
    refine lv_iload_n hx hb eX6_readStatement_122.2.2.2.2.2.1 rfl (lv_at hl 2 rfl) ?_
    obtain ⟨s12, hc11, h⟩ := bn_e h
    refine ywVv (As := [.ref (a 39), .int (i2 x9)]) (rest := []) (C := RX6) (n := 2) (ws' := CS D a s12) ⟨hx, hb, hml, hown, ht⟩ (k_x6_readChange l D a x9 _ _ _ hc11) (zgV ml_X6_142 im_X6_readChange se_X6_readChange in_X6 co_X6_readChange) rfl rfl (by decide +kernel) ⟨Nat.le_of_ble_eq_true rfl, Nat.le_of_ble_eq_true rfl⟩ hN hK hP (hDD _) hS hA 5 CW_5 rfl rfl rfl hl.1 rfl (Nat.le_of_ble_eq_true rfl) eX6_readStatement_122.2.2.2.2.2.2.1 ⟨Nat.le_of_ble_eq_true rfl, Nat.le_of_ble_eq_true rfl⟩ (fun H locs hP hS => ?_)
    refine lv_goto (tgt := 244) hx hb eX6_readStatement_122.2.2.2.2.2.2.2 (by decide) ?_
    exact J244 s12 _ _ _ ⟨hP, hS, lv_sub hl [0, 1] rfl, h⟩
  refine y_head (pcJ := 120) (σ := Int × MS) (fun u H locs ls => va_P D vwCl (CS D a u.2) H ∧ va_S A s₀.heap H locs ∧ lv_has ls 4 [(0, .ref (a 5)), (1, .ref (a 39)), (2, .int (i2 u.1))] ∧ m_x6_readStatement_J120 u.1 u.2 = some o) (fun u => []) (fun u H locs ls hI => ?_) (fun J120 => ?_)
  · obtain ⟨hP, hS, hl, h⟩ := hI
    obtain ⟨x13, s14⟩ := u
    have hP : va_P D vwCl (CS D a s14) H := hP
    have hl : lv_has ls 4 [(0, .ref (a 5)), (1, .ref (a 39)), (2, .int (i2 x13))] := hl
    have h : m_x6_readStatement_J120 x13 s14 = some o := h
    unfold m_x6_readStatement_J120 at h
    refine lv_aload_n hx hb eX6_readStatement_54.2.2.2.2.2.2.1 rfl (lv_at hl 0 rfl) ?_
    refine lv_aload_n hx hb eX6_readStatement_54.2.2.2.2.2.2.2 rfl (lv_at hl 1 rfl) ?_
    refine lv_iload_n hx hb eX6_readStatement_122.1 rfl (lv_at hl 2 rfl) ?_
    obtain ⟨s16, hc15, h⟩ := bn_e h
    refine ywVv (As := [.ref (a 39), .int (i2 x13)]) (rest := []) (C := RX6) (n := 2) (ws' := CS D a s16) ⟨hx, hb, hml, hown, ht⟩ (k_x6_readVolume l D a x13 _ _ _ hc15) (zgV ml_X6_138 im_X6_readVolume se_X6_readVolume in_X6 co_X6_readVolume) rfl rfl (by decide +kernel) ⟨Nat.le_of_ble_eq_true rfl, Nat.le_of_ble_eq_true rfl⟩ hN hK hP (hDD _) hS hA 5 CW_5 rfl rfl rfl hl.1 rfl (Nat.le_of_ble_eq_true rfl) eX6_readStatement_122.2.1 ⟨Nat.le_of_ble_eq_true rfl, Nat.le_of_ble_eq_true rfl⟩ (fun H locs hP hS => ?_)
    refine lv_goto (tgt := 244) hx hb eX6_readStatement_122.2.2.1 (by decide) ?_
    exact J244 s16 _ _ _ ⟨hP, hS, lv_sub hl [0, 1] rfl, h⟩
  refine y_head (pcJ := 40) (σ := Int × Int × Int × MS) (fun u H locs ls => va_P D vwCl (CS D a u.2.2.2) H ∧ va_S A s₀.heap H locs ∧ lv_has ls 4 [(0, .ref (a 5)), (1, .ref (a 39)), (2, .int (i2 u.1))] ∧ m_x6_readStatement_J40 u.1 u.2.1 u.2.2.1 u.2.2.2 = some o) (fun u => [.int (i2 u.2.1), .int (i2 u.2.2.1)]) (fun u H locs ls hI => ?_) (fun J40 => ?_)
  · obtain ⟨hP, hS, hl, h⟩ := hI
    obtain ⟨x17, x18, x19, s20⟩ := u
    have hP : va_P D vwCl (CS D a s20) H := hP
    have hl : lv_has ls 4 [(0, .ref (a 5)), (1, .ref (a 39)), (2, .int (i2 x17))] := hl
    have h : m_x6_readStatement_J40 x17 x18 x19 s20 = some o := h
    unfold m_x6_readStatement_J40 at h
    obtain ⟨hr21, h⟩ := rg_e h
    obtain ⟨hr22, h⟩ := rg_e h
    refine lv_icmp_eq (tgt := 54) hx hb eX6_readStatement_40.1 (by decide) (fun c23 => ?_) (fun c23 => ?_)
    · have h := if_t ((i2_eq (x := x19) (y := x18) hr21 hr22).mp c23) h
      refine lv_iload_n hx hb eX6_readStatement_54.1 rfl (lv_at hl 2 rfl) ?_
      obtain ⟨hr24, h⟩ := rg_e h
      by_cases c25 : x17 = 0
      · have h := if_t c25 h
        refine lv_tableIn (off := 57) (tgt := 112) hx hb eX6_readStatement_54.2.1 (by rw [c25]; decide) (by rw [c25]; decide) (by rw [c25]; decide) (by decide) ?_
        refine lv_aload_n hx hb eX6_readStatement_54.2.2.1 rfl (lv_at hl 0 rfl) ?_
        refine lv_aload_n hx hb eX6_readStatement_54.2.2.2.1 rfl (lv_at hl 1 rfl) ?_
        obtain ⟨s27, hc26, h⟩ := bn_e h
        refine ywVv (As := [.ref (a 39)]) (rest := []) (C := RX6) (n := 1) (ws' := CS D a s27) ⟨hx, hb, hml, hown, ht⟩ (k_x6_readBlocks l D a _ _ _ hc26) (zgV ml_X6_135 im_X6_readBlocks se_X6_readBlocks in_X6 co_X6_readBlocks) rfl rfl (by decide +kernel) ⟨Nat.le_of_ble_eq_true rfl, Nat.le_of_ble_eq_true rfl⟩ hN hK hP (hDD _) hS hA 5 CW_5 rfl rfl rfl hl.1 rfl (Nat.le_of_ble_eq_true rfl) eX6_readStatement_54.2.2.2.2.1 ⟨Nat.le_of_ble_eq_true rfl, Nat.le_of_ble_eq_true rfl⟩ (fun H locs hP hS => ?_)
        refine lv_goto (tgt := 244) hx hb eX6_readStatement_54.2.2.2.2.2.1 (by decide) ?_
        exact J244 s27 _ _ _ ⟨hP, hS, lv_sub hl [0, 1] rfl, h⟩
      · have h := if_f c25 h
        by_cases c28 : x17 = 1
        · have h := if_t c28 h
          refine lv_tableIn (off := 179) (tgt := 234) hx hb eX6_readStatement_54.2.1 (by rw [c28]; decide) (by rw [c28]; decide) (by rw [c28]; decide) (by decide) ?_
          exact J234 s20 _ _ _ ⟨hP, hS, lv_sub hl [0, 1] rfl, h⟩
        · have h := if_f c28 h
          by_cases c29 : x17 = 2
          · have h := if_t c29 h
            refine lv_tableIn (off := 65) (tgt := 120) hx hb eX6_readStatement_54.2.1 (by rw [c29]; decide) (by rw [c29]; decide) (by rw [c29]; decide) (by decide) ?_
            exact J120 (x17, s20) _ _ _ ⟨hP, hS, lv_sub hl [0, 1, 2] rfl, h⟩
          · have h := if_f c29 h
            by_cases c30 : x17 = 3
            · have h := if_t c30 h
              refine lv_tableIn (off := 65) (tgt := 120) hx hb eX6_readStatement_54.2.1 (by rw [c30]; decide) (by rw [c30]; decide) (by rw [c30]; decide) (by decide) ?_
              exact J120 (x17, s20) _ _ _ ⟨hP, hS, lv_sub hl [0, 1, 2] rfl, h⟩
            · have h := if_f c30 h
              by_cases c31 : x17 = 4
              · have h := if_t c31 h
                refine lv_tableIn (off := 179) (tgt := 234) hx hb eX6_readStatement_54.2.1 (by rw [c31]; decide) (by rw [c31]; decide) (by rw [c31]; decide) (by decide) ?_
                exact J234 s20 _ _ _ ⟨hP, hS, lv_sub hl [0, 1] rfl, h⟩
              · have h := if_f c31 h
                by_cases c32 : x17 = 5
                · have h := if_t c32 h
                  refine lv_tableIn (off := 74) (tgt := 129) hx hb eX6_readStatement_54.2.1 (by rw [c32]; decide) (by rw [c32]; decide) (by rw [c32]; decide) (by decide) ?_
                  exact J129 (x17, s20) _ _ _ ⟨hP, hS, lv_sub hl [0, 1, 2] rfl, h⟩
                · have h := if_f c32 h
                  by_cases c33 : x17 = 6
                  · have h := if_t c33 h
                    refine lv_tableIn (off := 74) (tgt := 129) hx hb eX6_readStatement_54.2.1 (by rw [c33]; decide) (by rw [c33]; decide) (by rw [c33]; decide) (by decide) ?_
                    exact J129 (x17, s20) _ _ _ ⟨hP, hS, lv_sub hl [0, 1, 2] rfl, h⟩
                  · have h := if_f c33 h
                    by_cases c34 : x17 = 7
                    · have h := if_t c34 h
                      refine lv_tableIn (off := 83) (tgt := 138) hx hb eX6_readStatement_54.2.1 (by rw [c34]; decide) (by rw [c34]; decide) (by rw [c34]; decide) (by decide) ?_
                      refine lv_aload_n hx hb eX6_readStatement_138.1 rfl (lv_at hl 0 rfl) ?_
                      refine lv_aload_n hx hb eX6_readStatement_138.2.1 rfl (lv_at hl 1 rfl) ?_
                      refine lv_iconst (v := 0) hx hb eX6_readStatement_138.2.2.1 (by decide) ?_
                      obtain ⟨s36, hc35, h⟩ := bn_e h
                      refine ywVv (As := [.ref (a 39), .int 0]) (rest := []) (C := RX6) (n := 2) (ws' := CS D a s36) ⟨hx, hb, hml, hown, ht⟩ (k_x6_beginFormula l D a 0 _ _ _ hc35) (zgV ml_X6_145 im_X6_beginFormula se_X6_beginFormula in_X6 co_X6_beginFormula) rfl rfl (by decide +kernel) ⟨Nat.le_of_ble_eq_true rfl, Nat.le_of_ble_eq_true rfl⟩ hN hK hP (hDD _) hS hA 5 CW_5 rfl rfl rfl hl.1 rfl (Nat.le_of_ble_eq_true rfl) eX6_readStatement_138.2.2.2.1 ⟨Nat.le_of_ble_eq_true rfl, Nat.le_of_ble_eq_true rfl⟩ (fun H locs hP hS => ?_)
                      refine lv_aload_n hx hb eX6_readStatement_138.2.2.2.2.1 rfl (lv_at hl 0 rfl) ?_
                      obtain ⟨s38, hc37, h⟩ := bn_e h
                      refine ywVv (As := []) (rest := []) (C := RX6) (n := 0) (ws' := CS D a s38) ⟨hx, hb, hml, hown, ht⟩ (k_x6_readSumC l D a _ _ _ hc37) (zgV ml_X6_81 im_X6_readSum se_X6_readSum in_X6 co_X6_readSum) rfl rfl (by decide +kernel) ⟨Nat.le_of_ble_eq_true rfl, Nat.le_of_ble_eq_true rfl⟩ hN hK hP (hDD _) hS hA 5 CW_5 rfl rfl rfl hl.1 rfl (Nat.le_of_ble_eq_true rfl) eX6_readStatement_138.2.2.2.2.2.1 ⟨Nat.le_of_ble_eq_true rfl, Nat.le_of_ble_eq_true rfl⟩ (fun H locs hP hS => ?_)
                      refine lv_aload_n hx hb eX6_readStatement_138.2.2.2.2.2.2.1 rfl (lv_at hl 1 rfl) ?_
                      refine va_get (D := D) (ci := 5) (v := .ref (a 46)) (C := RX5) (T := TX5) (N := 14) hx hb ht inX5 hown hK hP 39 CW_39 rfl 13 (by decide) (ht (.fieldLink RX6 148 "CloneVolumes$Plan" "ends" "[I") fl_X6_148) (fun _ h9 => h9) rfl eX6_readStatement_138.2.2.2.2.2.2.2 ?_
                      refine lv_iconst (v := 0) hx hb eX6_readStatement_152.1 (by decide) ?_
                      refine lv_aload_n hx hb eX6_readStatement_152.2.1 rfl (lv_at hl 0 rfl) ?_
                      obtain ⟨he39, h⟩ := eqg_e h
                      refine va_get (D := D) (ci := 6) (v := .ref (a 47)) (C := RX6) (T := TX6) (N := 12) hx hb ht inX6 hown hK hP 5 CW_5 rfl 4 (by decide) (ht (.fieldLink RX6 84 "CloneVolumes$Reader" "code" "LCloneVolumes$Code;") fl_X6_84) (fun _ h9 => h9) (congrArg some (rcv_2 he39)) eX6_readStatement_152.2.2.1 ?_
                      refine va_get (D := D) (ci := 0) (v := .int (i2 (gI s38 941))) (C := RX0) (T := TX0) (N := 2) hx hb ht inX0 hown hK hP 47 CW_47 rfl 1 (by decide) (ht (.fieldLink RX6 64 "CloneVolumes$Code" "size" "I") fl_X6_64) (fun _ h9 => h9) rfl eX6_readStatement_152.2.2.2.1 ?_
                      obtain ⟨hi40, h⟩ := inb_e h
                      refine ya_iast (i := 0) (x := (gI s38 941)) hx hb hK hP (hDD _) hS 46 0 CW_46 rfl (by decide) hi40 eX6_readStatement_152.2.2.2.2.1 (CW_w46 _) (fun H locs hP hS => ?_)
                      obtain ⟨s41, hs41, h⟩ := st_e h
                      rw [hs41] at hP
                      refine lv_goto (tgt := 244) hx hb eX6_readStatement_152.2.2.2.2.2.1 (by decide) ?_
                      exact J244 s41 _ _ _ ⟨hP, hS, lv_sub hl [0, 1] rfl, h⟩
                    · have h := if_f c34 h
                      by_cases c42 : x17 = 8
                      · have h := if_t c42 h
                        refine lv_tableIn (off := 109) (tgt := 164) hx hb eX6_readStatement_54.2.1 (by rw [c42]; decide) (by rw [c42]; decide) (by rw [c42]; decide) (by decide) ?_
                        refine lv_aload_n hx hb eX6_readStatement_152.2.2.2.2.2.2.1 rfl (lv_at hl 0 rfl) ?_
                        refine lv_aload_n hx hb eX6_readStatement_152.2.2.2.2.2.2.2 rfl (lv_at hl 1 rfl) ?_
                        refine lv_iconst (v := 1) hx hb eX6_readStatement_166.1 (by decide) ?_
                        obtain ⟨s44, hc43, h⟩ := bn_e h
                        refine ywVv (As := [.ref (a 39), .int 1]) (rest := []) (C := RX6) (n := 2) (ws' := CS D a s44) ⟨hx, hb, hml, hown, ht⟩ (k_x6_beginFormula l D a 1 _ _ _ hc43) (zgV ml_X6_145 im_X6_beginFormula se_X6_beginFormula in_X6 co_X6_beginFormula) rfl rfl (by decide +kernel) ⟨Nat.le_of_ble_eq_true rfl, Nat.le_of_ble_eq_true rfl⟩ hN hK hP (hDD _) hS hA 5 CW_5 rfl rfl rfl hl.1 rfl (Nat.le_of_ble_eq_true rfl) eX6_readStatement_166.2.1 ⟨Nat.le_of_ble_eq_true rfl, Nat.le_of_ble_eq_true rfl⟩ (fun H locs hP hS => ?_)
                        refine lv_aload_n hx hb eX6_readStatement_166.2.2.1 rfl (lv_at hl 0 rfl) ?_
                        obtain ⟨s46, hc45, h⟩ := bn_e h
                        refine ywVv (As := []) (rest := []) (C := RX6) (n := 0) (ws' := CS D a s46) ⟨hx, hb, hml, hown, ht⟩ (k_x6_readTestC l D a _ _ _ hc45) (zgV ml_X6_78 im_X6_readTest se_X6_readTest in_X6 co_X6_readTest) rfl rfl (by decide +kernel) ⟨Nat.le_of_ble_eq_true rfl, Nat.le_of_ble_eq_true rfl⟩ hN hK hP (hDD _) hS hA 5 CW_5 rfl rfl rfl hl.1 rfl (Nat.le_of_ble_eq_true rfl) eX6_readStatement_166.2.2.2.1 ⟨Nat.le_of_ble_eq_true rfl, Nat.le_of_ble_eq_true rfl⟩ (fun H locs hP hS => ?_)
                        refine lv_aload_n hx hb eX6_readStatement_166.2.2.2.2.1 rfl (lv_at hl 1 rfl) ?_
                        refine va_get (D := D) (ci := 5) (v := .ref (a 46)) (C := RX5) (T := TX5) (N := 14) hx hb ht inX5 hown hK hP 39 CW_39 rfl 13 (by decide) (ht (.fieldLink RX6 148 "CloneVolumes$Plan" "ends" "[I") fl_X6_148) (fun _ h9 => h9) rfl eX6_readStatement_166.2.2.2.2.2.1 ?_
                        refine lv_iconst (v := 1) hx hb eX6_readStatement_166.2.2.2.2.2.2.1 (by decide) ?_
                        refine lv_aload_n hx hb eX6_readStatement_166.2.2.2.2.2.2.2 rfl (lv_at hl 0 rfl) ?_
                        obtain ⟨he47, h⟩ := eqg_e h
                        refine va_get (D := D) (ci := 6) (v := .ref (a 47)) (C := RX6) (T := TX6) (N := 12) hx hb ht inX6 hown hK hP 5 CW_5 rfl 4 (by decide) (ht (.fieldLink RX6 84 "CloneVolumes$Reader" "code" "LCloneVolumes$Code;") fl_X6_84) (fun _ h9 => h9) (congrArg some (rcv_2 he47)) eX6_readStatement_180.1 ?_
                        refine va_get (D := D) (ci := 0) (v := .int (i2 (gI s46 941))) (C := RX0) (T := TX0) (N := 2) hx hb ht inX0 hown hK hP 47 CW_47 rfl 1 (by decide) (ht (.fieldLink RX6 64 "CloneVolumes$Code" "size" "I") fl_X6_64) (fun _ h9 => h9) rfl eX6_readStatement_180.2.1 ?_
                        obtain ⟨hi48, h⟩ := inb_e h
                        refine ya_iast (i := 1) (x := (gI s46 941)) hx hb hK hP (hDD _) hS 46 0 CW_46 rfl (by decide) hi48 eX6_readStatement_180.2.2.1 (CW_w46 _) (fun H locs hP hS => ?_)
                        obtain ⟨s49, hs49, h⟩ := st_e h
                        rw [hs49] at hP
                        refine lv_goto (tgt := 244) hx hb eX6_readStatement_180.2.2.2.1 (by decide) ?_
                        exact J244 s49 _ _ _ ⟨hP, hS, lv_sub hl [0, 1] rfl, h⟩
                      · have h := if_f c42 h
                        by_cases c50 : x17 = 9
                        · have h := if_t c50 h
                          refine lv_tableIn (off := 135) (tgt := 190) hx hb eX6_readStatement_54.2.1 (by rw [c50]; decide) (by rw [c50]; decide) (by rw [c50]; decide) (by decide) ?_
                          refine lv_aload_n hx hb eX6_readStatement_180.2.2.2.2.1 rfl (lv_at hl 0 rfl) ?_
                          refine lv_aload_n hx hb eX6_readStatement_180.2.2.2.2.2.1 rfl (lv_at hl 1 rfl) ?_
                          refine lv_iconst (v := 2) hx hb eX6_readStatement_180.2.2.2.2.2.2.1 (by decide) ?_
                          obtain ⟨s52, hc51, h⟩ := bn_e h
                          refine ywVv (As := [.ref (a 39), .int 2]) (rest := []) (C := RX6) (n := 2) (ws' := CS D a s52) ⟨hx, hb, hml, hown, ht⟩ (k_x6_beginFormula l D a 2 _ _ _ hc51) (zgV ml_X6_145 im_X6_beginFormula se_X6_beginFormula in_X6 co_X6_beginFormula) rfl rfl (by decide +kernel) ⟨Nat.le_of_ble_eq_true rfl, Nat.le_of_ble_eq_true rfl⟩ hN hK hP (hDD _) hS hA 5 CW_5 rfl rfl rfl hl.1 rfl (Nat.le_of_ble_eq_true rfl) eX6_readStatement_180.2.2.2.2.2.2.2 ⟨Nat.le_of_ble_eq_true rfl, Nat.le_of_ble_eq_true rfl⟩ (fun H locs hP hS => ?_)
                          refine lv_aload_n hx hb eX6_readStatement_196.1 rfl (lv_at hl 0 rfl) ?_
                          obtain ⟨s54, hc53, h⟩ := bn_e h
                          refine ywVv (As := []) (rest := []) (C := RX6) (n := 0) (ws' := CS D a s54) ⟨hx, hb, hml, hown, ht⟩ (k_x6_readSumC l D a _ _ _ hc53) (zgV ml_X6_81 im_X6_readSum se_X6_readSum in_X6 co_X6_readSum) rfl rfl (by decide +kernel) ⟨Nat.le_of_ble_eq_true rfl, Nat.le_of_ble_eq_true rfl⟩ hN hK hP (hDD _) hS hA 5 CW_5 rfl rfl rfl hl.1 rfl (Nat.le_of_ble_eq_true rfl) eX6_readStatement_196.2.1 ⟨Nat.le_of_ble_eq_true rfl, Nat.le_of_ble_eq_true rfl⟩ (fun H locs hP hS => ?_)
                          refine lv_aload_n hx hb eX6_readStatement_196.2.2.1 rfl (lv_at hl 1 rfl) ?_
                          refine va_get (D := D) (ci := 5) (v := .ref (a 46)) (C := RX5) (T := TX5) (N := 14) hx hb ht inX5 hown hK hP 39 CW_39 rfl 13 (by decide) (ht (.fieldLink RX6 148 "CloneVolumes$Plan" "ends" "[I") fl_X6_148) (fun _ h9 => h9) rfl eX6_readStatement_196.2.2.2.1 ?_
                          refine lv_iconst (v := 2) hx hb eX6_readStatement_196.2.2.2.2.1 (by decide) ?_
                          refine lv_aload_n hx hb eX6_readStatement_196.2.2.2.2.2.1 rfl (lv_at hl 0 rfl) ?_
                          obtain ⟨he55, h⟩ := eqg_e h
                          refine va_get (D := D) (ci := 6) (v := .ref (a 47)) (C := RX6) (T := TX6) (N := 12) hx hb ht inX6 hown hK hP 5 CW_5 rfl 4 (by decide) (ht (.fieldLink RX6 84 "CloneVolumes$Reader" "code" "LCloneVolumes$Code;") fl_X6_84) (fun _ h9 => h9) (congrArg some (rcv_2 he55)) eX6_readStatement_196.2.2.2.2.2.2.1 ?_
                          refine va_get (D := D) (ci := 0) (v := .int (i2 (gI s54 941))) (C := RX0) (T := TX0) (N := 2) hx hb ht inX0 hown hK hP 47 CW_47 rfl 1 (by decide) (ht (.fieldLink RX6 64 "CloneVolumes$Code" "size" "I") fl_X6_64) (fun _ h9 => h9) rfl eX6_readStatement_196.2.2.2.2.2.2.2 ?_
                          obtain ⟨hi56, h⟩ := inb_e h
                          refine ya_iast (i := 2) (x := (gI s54 941)) hx hb hK hP (hDD _) hS 46 0 CW_46 rfl (by decide) hi56 eX6_readStatement_212.1 (CW_w46 _) (fun H locs hP hS => ?_)
                          obtain ⟨s57, hs57, h⟩ := st_e h
                          rw [hs57] at hP
                          refine lv_goto (tgt := 244) hx hb eX6_readStatement_212.2.1 (by decide) ?_
                          exact J244 s57 _ _ _ ⟨hP, hS, lv_sub hl [0, 1] rfl, h⟩
                        · have h := if_f c50 h
                          by_cases c58 : x17 = 10
                          · have h := if_t c58 h
                            refine lv_tableIn (off := 161) (tgt := 216) hx hb eX6_readStatement_54.2.1 (by rw [c58]; decide) (by rw [c58]; decide) (by rw [c58]; decide) (by decide) ?_
                            refine lv_aload_n hx hb eX6_readStatement_212.2.2.1 rfl (lv_at hl 0 rfl) ?_
                            obtain ⟨s60, hc59, h⟩ := bn_e h
                            refine ywVv (As := []) (rest := []) (C := RX6) (n := 0) (ws' := CS D a s60) ⟨hx, hb, hml, hown, ht⟩ (k_x6_advance l D a _ _ _ hc59) (zgV ml_X6_75 im_X6_advance se_X6_advance in_X6 co_X6_advance) rfl rfl (by decide +kernel) ⟨Nat.le_of_ble_eq_true rfl, Nat.le_of_ble_eq_true rfl⟩ hN hK hP (hDD _) hS hA 5 CW_5 rfl rfl rfl hl.1 rfl (Nat.le_of_ble_eq_true rfl) eX6_readStatement_212.2.2.2.1 ⟨Nat.le_of_ble_eq_true rfl, Nat.le_of_ble_eq_true rfl⟩ (fun H locs hP hS => ?_)
                            refine lv_aload_n hx hb eX6_readStatement_212.2.2.2.2.1 rfl (lv_at hl 1 rfl) ?_
                            refine lv_aload_n hx hb eX6_readStatement_212.2.2.2.2.2.1 rfl (lv_at hl 0 rfl) ?_
                            refine lv_iconst (v := 0) hx hb eX6_readStatement_212.2.2.2.2.2.2.1 (by decide) ?_
                            refine lv_bipush (v := 100) hx hb eX6_readStatement_212.2.2.2.2.2.2.2 (by decide) ?_
                            obtain ⟨⟨r63, s62⟩, hc61, h⟩ := bn_e h
                            refine ywV (r0 := i2 r63) (As := [.int 0, .int 100]) (rest := [.ref (a 39)]) (C := RX6) (n := 2) (ws' := CS D a s62) ⟨hx, hb, hml, hown, ht⟩ (k_x6_expectNumber l D a 0 100 _ _ _ hc61) (zgV ml_X6_151 im_X6_expectNumber se_X6_expectNumber in_X6 co_X6_expectNumber) rfl rfl (by decide +kernel) ⟨Nat.le_of_ble_eq_true rfl, Nat.le_of_ble_eq_true rfl⟩ hN hK hP (hDD _) hS hA 5 CW_5 rfl rfl rfl hl.1 rfl (Nat.le_of_ble_eq_true rfl) eX6_readStatement_225.1 ⟨Nat.le_of_ble_eq_true rfl, Nat.le_of_ble_eq_true rfl⟩ (fun H locs hP hS => ?_)
                            refine ya_put (D := D) (ci := 5) (v := .int (i2 r63)) (ty := .int) (C := RX5) (T := TX5) (N := 14) hx hb ht inX5 tyX5 tyX5_ok nmX5 hown hK hP (hDD _) hS 39 CW_39 rfl 2 (by decide) (ht (.fieldLink RX6 155 "CloneVolumes$Plan" "churn" "I") fl_X6_155) (fun _ h9 => h9) rfl (by decide +kernel) rfl rfl (Nat.le_of_ble_eq_true rfl) eX6_readStatement_225.2.1 (CW_w39_2 r63) (fun H locs hP hS => ?_)
                            obtain ⟨s64, hs64, h⟩ := st_e h
                            rw [hs64] at hP
                            refine lv_goto (tgt := 244) hx hb eX6_readStatement_225.2.2.1 (by decide) ?_
                            exact J244 s64 _ _ _ ⟨hP, hS, lv_sub hl [0, 1] rfl, h⟩
                          · have h := if_f c58 h
                            refine lv_tableOut (tgt := 234) hx hb eX6_readStatement_54.2.1 (by rw [i2_t hr24]; omega) (by decide) ?_
                            exact J234 s20 _ _ _ ⟨hP, hS, lv_sub hl [0, 1] rfl, h⟩
    · have h := if_f (mt (i2_eq (x := x19) (y := x18) hr21 hr22).mpr c23) h
      refine lv_aload_n hx hb eX6_readStatement_40.2.1 rfl (lv_at hl 0 rfl) ?_
      refine lv_iconst (v := 1) hx hb eX6_readStatement_40.2.2.1 (by decide) ?_
      refine lv_aload_n hx hb eX6_readStatement_40.2.2.2.1 rfl (lv_at hl 0 rfl) ?_
      refine va_get (D := D) (ci := 6) (v := .int (i2 (gI s20 108))) (C := RX6) (T := TX6) (N := 12) hx hb ht inX6 hown hK hP 5 CW_5 rfl 8 (by decide) (ht (.fieldLink RX6 51 "CloneVolumes$Reader" "start" "I") fl_X6_51) (fun _ h9 => h9) rfl eX6_readStatement_40.2.2.2.2.1 ?_
      obtain ⟨⟨r67, s66⟩, hc65, h⟩ := bn_e h
      refine ywV (r0 := i2 r67) (As := [.int 1, .int (i2 (gI s20 108))]) (rest := []) (C := RX6) (n := 2) (ws' := CS D a s66) ⟨hx, hb, hml, hown, ht⟩ (k_x6_fail l D a 1 (gI s20 108) _ _ _ hc65) (zgV ml_X6_54 im_X6_fail se_X6_fail in_X6 co_X6_fail) rfl rfl (by decide +kernel) ⟨Nat.le_of_ble_eq_true rfl, Nat.le_of_ble_eq_true rfl⟩ hN hK hP (hDD _) hS hA 5 CW_5 rfl rfl rfl hl.1 rfl (Nat.le_of_ble_eq_true rfl) eX6_readStatement_40.2.2.2.2.2.1 ⟨Nat.le_of_ble_eq_true rfl, Nat.le_of_ble_eq_true rfl⟩ (fun H locs hP hS => ?_)
      refine lv_pop hx hb eX6_readStatement_40.2.2.2.2.2.2.1 rfl ?_
      obtain rfl := Option.some.inj h
      exact W.vret hx hb hr (fun t ht hW => ⟨⟨(), rfl, trivial, by rw [ht]; exact hP, va_K.moved hW.alike hK, hDD _⟩, hS.F ht⟩) hS.2.2 eX6_readStatement_40.2.2.2.2.2.2.2
  refine y_head (pcJ := 29) (σ := Int × Int × MS) (fun u H locs ls => va_P D vwCl (CS D a u.2.2) H ∧ va_S A s₀.heap H locs ∧ lv_has ls 4 [(0, .ref (a 5)), (1, .ref (a 39)), (2, .int (i2 u.1))] ∧ m_x6_readStatement_J29 u.1 u.2.1 u.2.2 = some o) (fun u => [.int (i2 u.2.1)]) (fun u H locs ls hI => ?_) (fun J29 => ?_)
  · obtain ⟨hP, hS, hl, h⟩ := hI
    obtain ⟨x68, x69, s70⟩ := u
    have hP : va_P D vwCl (CS D a s70) H := hP
    have hl : lv_has ls 4 [(0, .ref (a 5)), (1, .ref (a 39)), (2, .int (i2 x68))] := hl
    have h : m_x6_readStatement_J29 x68 x69 s70 = some o := h
    unfold m_x6_readStatement_J29 at h
    refine lv_istore_n (lv' := [(3, .int (i2 x69)), (0, .ref (a 5)), (1, .ref (a 39)), (2, .int (i2 x68))]) hx hb eX6_readStatement_28.2.1 rfl hl (by decide) rfl (fun ls hl => ?_)
    refine lv_iload_n hx hb eX6_readStatement_28.2.2.1 rfl (lv_at hl 0 rfl) ?_
    refine lv_iload_n hx hb eX6_readStatement_28.2.2.2.1 rfl (lv_at hl 3 rfl) ?_
    obtain ⟨hr71, h⟩ := rg_e h
    refine lv_if_ne (tgt := 39) hx hb eX6_readStatement_28.2.2.2.2.1 (by decide) (fun c72 => ?_) (fun c72 => ?_)
    · have h := if_f (mt (i2_eq (x := x68) (y := 0) hr71 (by decide)).mpr c72) h
      refine lv_iconst (v := 0) hx hb eX6_readStatement_28.2.2.2.2.2.2.2 (by decide) ?_
      exact J40 (x68, 0, x69, s70) _ _ _ ⟨hP, hS, lv_sub hl [1, 2, 3] rfl, h⟩
    · have h := if_t ((i2_eq (x := x68) (y := 0) hr71 (by decide)).mp c72) h
      refine lv_iconst (v := 1) hx hb eX6_readStatement_28.2.2.2.2.2.1 (by decide) ?_
      refine lv_goto (tgt := 40) hx hb eX6_readStatement_28.2.2.2.2.2.2.1 (by decide) ?_
      exact J40 (x68, 1, x69, s70) _ _ _ ⟨hP, hS, lv_sub hl [1, 2, 3] rfl, h⟩
  refine y_head (pcJ := 16) (σ := Int × MS) (fun u H locs ls => va_P D vwCl (CS D a u.2) H ∧ va_S A s₀.heap H locs ∧ lv_has ls 4 [(0, .ref (a 5)), (1, .ref (a 39))] ∧ m_x6_readStatement_J16 u.1 u.2 = some o) (fun u => [.int (i2 u.1)]) (fun u H locs ls hI => ?_) (fun J16 => ?_)
  · obtain ⟨hP, hS, hl, h⟩ := hI
    obtain ⟨x73, s74⟩ := u
    have hP : va_P D vwCl (CS D a s74) H := hP
    have hl : lv_has ls 4 [(0, .ref (a 5)), (1, .ref (a 39))] := hl
    have h : m_x6_readStatement_J16 x73 s74 = some o := h
    unfold m_x6_readStatement_J16 at h
    refine lv_istore_n (lv' := [(2, .int (i2 x73)), (0, .ref (a 5)), (1, .ref (a 39))]) hx hb eX6_readStatement_12.2.2.1 rfl hl (by decide) rfl (fun ls hl => ?_)
    refine lv_aload_n hx hb eX6_readStatement_12.2.2.2.1 rfl (lv_at hl 2 rfl) ?_
    refine va_get (D := D) (ci := 5) (v := .int (i2 (gI s74 783))) (C := RX5) (T := TX5) (N := 14) hx hb ht inX5 hown hK hP 39 CW_39 rfl 3 (by decide) (ht (.fieldLink RX6 58 "CloneVolumes$Plan" "statements" "I") fl_X6_58) (fun _ h9 => h9) rfl eX6_readStatement_12.2.2.2.2.1 ?_
    obtain ⟨hr75, h⟩ := rg_e h
    refine lv_if_ne (tgt := 28) hx hb eX6_readStatement_12.2.2.2.2.2.1 (by decide) (fun c76 => ?_) (fun c76 => ?_)
    · have h := if_f (mt (i2_eq (x := (gI s74 783)) (y := 0) hr75 (by decide)).mpr c76) h
      refine lv_iconst (v := 0) hx hb eX6_readStatement_28.1 (by decide) ?_
      exact J29 (x73, 0, s74) _ _ _ ⟨hP, hS, lv_sub hl [1, 2, 0] rfl, h⟩
    · have h := if_t ((i2_eq (x := (gI s74 783)) (y := 0) hr75 (by decide)).mp c76) h
      refine lv_iconst (v := 1) hx hb eX6_readStatement_12.2.2.2.2.2.2.1 (by decide) ?_
      refine lv_goto (tgt := 29) hx hb eX6_readStatement_12.2.2.2.2.2.2.2 (by decide) ?_
      exact J29 (x73, 1, s74) _ _ _ ⟨hP, hS, lv_sub hl [1, 2, 0] rfl, h⟩
  refine lv_aload_n hx hb eX6_readChange_46.2.2.1 rfl (lv_at hl 0 rfl) ?_
  refine va_get (D := D) (ci := 6) (v := .int (i2 (gI s 107))) (C := RX6) (T := TX6) (N := 12) hx hb ht inX6 hown hK hP 5 CW_5 rfl 7 (by decide) (ht (.fieldLink RX6 44 "CloneVolumes$Reader" "kind" "I") fl_X6_44) (fun _ h9 => h9) rfl eX6_readChange_46.2.2.2.1 ?_
  refine lv_iconst (v := 1) hx hb eX6_readChange_46.2.2.2.2.1 (by decide) ?_
  obtain ⟨hr77, h⟩ := rg_e h
  refine lv_icmp_ne (tgt := 15) hx hb eX6_readChange_46.2.2.2.2.2.1 (by decide) (fun c78 => ?_) (fun c78 => ?_)
  · have h := if_f (mt (i2_eq (x := (gI s 107)) (y := 1) hr77 (by decide)).mpr c78) h
    refine lv_iconst (v := (-1)) hx hb eX6_readStatement_12.2.1 (by decide) ?_
    exact J16 ((-1), s) _ _ _ ⟨hP, hS, lv_sub hl [0, 1] rfl, h⟩
  · have h := if_t ((i2_eq (x := (gI s 107)) (y := 1) hr77 (by decide)).mp c78) h
    refine lv_aload_n hx hb eX6_readChange_46.2.2.2.2.2.2.1 rfl (lv_at hl 0 rfl) ?_
    refine va_get (D := D) (ci := 6) (v := .int (i2 (gI s 110))) (C := RX6) (T := TX6) (N := 12) hx hb ht inX6 hown hK hP 5 CW_5 rfl 10 (by decide) (ht (.fieldLink RX6 72 "CloneVolumes$Reader" "word" "I") fl_X6_72) (fun _ h9 => h9) rfl eX6_readChange_46.2.2.2.2.2.2.2 ?_
    refine lv_goto (tgt := 16) hx hb eX6_readStatement_12.1 (by decide) ?_
    exact J16 (gI s 110, s) _ _ _ ⟨hP, hS, lv_sub hl [0, 1] rfl, h⟩
theorem co_X6_readStatement : Cond.code yX6_readStatement cX6_readStatement 4 none ∈ lw_gd := zm (lw_g_3 (List.mem_of_getElem? (i := 120) (by decide +kernel))) rfl
theorem fl_X6_36 : Cond.fieldLink RX6 36 "CloneVolumes$Plan" "code" "LCloneVolumes$Code;" ∈ lw_gd := zm (lw_g_2 (List.mem_of_getElem? (i := 62) (by decide +kernel))) rfl
theorem im_X6_readStatement : Cond.instanceMethod yX6_readStatement ∈ lw_gd := zm (lw_g_3 (List.mem_of_getElem? (i := 119) (by decide +kernel))) rfl
theorem ml_X6_31 : Cond.methodLink RX6 31 yX5_clear ∈ lw_gd := zm (lw_g_3 (List.mem_of_getElem? (i := 91) (by decide +kernel))) rfl
theorem ml_X6_47 : Cond.methodLink RX6 47 yX6_readStatement ∈ lw_gd := zm (lw_g_3 (List.mem_of_getElem? (i := 117) (by decide +kernel))) rfl
theorem se_X6_readStatement : Cond.selects RX6 yX6_readStatement yX6_readStatement ∈ lw_gd := zm (List.mem_of_getElem? (i := 4) (by decide +kernel)) rfl
theorem eX6_readStore_0 : decode cX6_readStore 0 = .ok (.aload_n 1, 1) ∧ decode cX6_readStore 1 = .ok (.invokevirtual 31, 3) ∧ decode cX6_readStore 4 = .ok (.aload_n 0, 1) ∧ decode cX6_readStore 5 = .ok (.aload_n 1, 1) ∧ decode cX6_readStore 6 = .ok (.getfield 36, 3) ∧ decode cX6_readStore 9 = .ok (.invokevirtual 40, 3) ∧ decode cX6_readStore 12 = .ok (.iconst 0, 1) ∧ decode cX6_readStore 13 = .ok (.istore_n 2, 1) := by decide +kernel
theorem eX6_readStore_14 : decode cX6_readStore 14 = .ok (.iload_n 2, 1) ∧ decode cX6_readStore 15 = .ok (.bipush 60, 2) ∧ decode cX6_readStore 17 = .ok (.if_icmp .ge 21, 3) ∧ decode cX6_readStore 20 = .ok (.aload_n 0, 1) ∧ decode cX6_readStore 21 = .ok (.getfield 44, 3) ∧ decode cX6_readStore 24 = .ok (.ifCond .eq 14, 3) ∧ decode cX6_readStore 27 = .ok (.aload_n 0, 1) ∧ decode cX6_readStore 28 = .ok (.aload_n 1, 1) := by decide +kernel
theorem eX6_readStore_29 : decode cX6_readStore 29 = .ok (.invokevirtual 47, 3) ∧ decode cX6_readStore 32 = .ok (.iinc 2 1, 3) ∧ decode cX6_readStore 35 = .ok (.goto (-21), 3) ∧ decode cX6_readStore 38 = .ok (.aload_n 0, 1) ∧ decode cX6_readStore 39 = .ok (.getfield 44, 3) ∧ decode cX6_readStore 42 = .ok (.ifCond .eq 16, 3) ∧ decode cX6_readStore 45 = .ok (.aload_n 0, 1) ∧ decode cX6_readStore 46 = .ok (.iconst 5, 1) := by decide +kernel
theorem eX6_readStore_47 : decode cX6_readStore 47 = .ok (.aload_n 0, 1) ∧ decode cX6_readStore 48 = .ok (.getfield 51, 3) ∧ decode cX6_readStore 51 = .ok (.invokevirtual 54, 3) ∧ decode cX6_readStore 54 = .ok (.pop, 1) ∧ decode cX6_readStore 55 = .ok (.goto 20, 3) ∧ decode cX6_readStore 58 = .ok (.aload_n 1, 1) ∧ decode cX6_readStore 59 = .ok (.getfield 58, 3) ∧ decode cX6_readStore 62 = .ok (.ifCond .ne 13, 3) := by decide +kernel
theorem eX6_readStore_65 : decode cX6_readStore 65 = .ok (.aload_n 0, 1) ∧ decode cX6_readStore 66 = .ok (.iconst 1, 1) ∧ decode cX6_readStore 67 = .ok (.aload_n 0, 1) ∧ decode cX6_readStore 68 = .ok (.getfield 51, 3) ∧ decode cX6_readStore 71 = .ok (.invokevirtual 54, 3) ∧ decode cX6_readStore 74 = .ok (.pop, 1) ∧ decode cX6_readStore 75 = .ok (.aload_n 0, 1) ∧ decode cX6_readStore 76 = .ok (.getfield 61, 3) := by decide +kernel
theorem eX6_readStore_79 : decode cX6_readStore 79 = .ok (.ifCond .ne 7, 3) ∧ decode cX6_readStore 82 = .ok (.iconst 1, 1) ∧ decode cX6_readStore 83 = .ok (.goto 4, 3) ∧ decode cX6_readStore 86 = .ok (.iconst 0, 1) ∧ decode cX6_readStore 87 = .ok (.ireturn, 1) := by decide +kernel
set_option maxHeartbeats 4000000 in
set_option maxRecDepth 100000 in
theorem k_x5_clear (l : Launch) (D : va_G) (a : Nat → Nat) (sz : Nat) (s : MS) (o : MS) (h : m_x5_clear s = some o) : yWv l yX5_clear cX5_clear 2 none { frames := 0, cells := 0, slots := 0, locals := 0 } D sz [.ref (a 39)] (CS D a s) (CS D a o) := by
  refine Met.ofW (cc := cX5_clear) (maxL := 2) (ret := none) (by decide) rfl ?_
  intro p e s₀ m args below meth c s₁ B hml hv
  obtain ⟨rfl, ⟨hsz, hP, hK, hD0⟩, hN⟩ := hv
  have hx := B.exec
  have hb := B.bytes
  have hr := B.returns
  have hts := atoms_spec (ws := wz yX5_clear cX5_clear 2 none) B.pre
  have ht : ∀ w ∈ lw_gd, w.before _ s₀ = true := fun w h => hts w (List.mem_cons_of_mem _ h)
  have hown : s₀.vm.findClass RX5 = some m.cls := findClass_of_methodNamed B.named
  have hlocks := B.notSynchronized
  subst hsz
  have hD := hD0.self (sz := s₀.heap.size)
  generalize hAe : va_A (CS D a s) s₀.heap.size = A at hD ⊢
  have hA : ∀ q : Nat, s₀.heap.size ≤ q → A q := fun q h => by rw [← hAe]; exact Or.inr h
  have hS : va_S A s₀.heap s₀.heap [] := va_S.rf
  have hDD : ∀ t : MS, va_D A (CS D a t) := fun t => CW_D t hD
  have hl := lv_entry ([.ref (a 39)]) (n := 2) (Nat.le_of_ble_eq_true rfl)
  rw [lg_entry_eq]
  generalize (lg_sl ([.ref (a 39)]) ++ List.replicate (2 - (lg_sl ([.ref (a 39)])).length) Slot.unset).toArray = ls at hl ⊢
  have hl : lv_has ls 2 [(0, .ref (a 39))] := hl
  unfold m_x5_clear at h
  refine y_loop (pcJ := 30) (σ := Int × MS) (fun n u H locs ls => va_P D vwCl (CS D a u.2) H ∧ va_S A s₀.heap H locs ∧ lv_has ls 2 [(0, .ref (a 39)), (1, .int (i2 u.1))] ∧ m_x5_clear_L30 n u.1 u.2 = some o) (fun u => []) (fun u H locs ls hI => by obtain ⟨_, _, _, h⟩ := hI; cases h) (fun n30 ih30 u H locs ls hI => ?_) (fun J30 => ?_)
  · obtain ⟨hP, hS, hl, h⟩ := hI
    obtain ⟨x1, s2⟩ := u
    have hP : va_P D vwCl (CS D a s2) H := hP
    have hl : lv_has ls 2 [(0, .ref (a 39)), (1, .int (i2 x1))] := hl
    have h : m_x5_clear_b30 (m_x5_clear_L30 n30) x1 s2 = some o := h
    unfold m_x5_clear_b30 at h
    refine lv_iload_n hx hb eX5_clear_24.2.2.2.2.1 rfl (lv_at hl 1 rfl) ?_
    refine lv_iconst (v := 3) hx hb eX5_clear_24.2.2.2.2.2.1 (by decide) ?_
    obtain ⟨hr3, h⟩ := rg_e h
    refine lv_icmp_ge (tgt := 55) hx hb eX5_clear_24.2.2.2.2.2.2.1 (by decide) (fun c4 => ?_) (fun c4 => ?_)
    · have h := if_t ((i2_le (x := 3) (y := x1) (by decide) hr3).mp c4) h
      obtain rfl := Option.some.inj h
      exact W.vret hx hb hr (fun t ht hW => ⟨⟨(), rfl, trivial, by rw [ht]; exact hP, va_K.moved hW.alike hK, hDD _⟩, hS.F ht⟩) hS.2.2 eX5_clear_48.2.2.2.1
    · have h := if_f (mt (i2_le (x := 3) (y := x1) (by decide) hr3).mpr c4) h
      refine lv_aload_n hx hb eX5_clear_24.2.2.2.2.2.2.2 rfl (lv_at hl 0 rfl) ?_
      refine va_get (D := D) (ci := 5) (v := .ref (a 45)) (C := RX5) (T := TX5) (N := 14) hx hb ht inX5 hown hK hP 39 CW_39 rfl 12 (by decide) (ht (.fieldLink RX5 34 "CloneVolumes$Plan" "begins" "[I") fl_X5_34) (fun _ h9 => h9) rfl eX5_clear_36.1 ?_
      refine lv_iload_n hx hb eX5_clear_36.2.1 rfl (lv_at hl 1 rfl) ?_
      refine lv_iconst (v := (-1)) hx hb eX5_clear_36.2.2.1 (by decide) ?_
      obtain ⟨hi5, h⟩ := inb_e h
      refine ya_iast (i := x1) (x := (-1)) hx hb hK hP (hDD _) hS 45 0 CW_45 rfl (by decide) hi5 eX5_clear_36.2.2.2.1 (CW_w45 _) (fun H locs hP hS => ?_)
      obtain ⟨s6, hs6, h⟩ := st_e h
      rw [hs6] at hP
      refine lv_aload_n hx hb eX5_clear_36.2.2.2.2.1 rfl (lv_at hl 0 rfl) ?_
      refine va_get (D := D) (ci := 5) (v := .ref (a 46)) (C := RX5) (T := TX5) (N := 14) hx hb ht inX5 hown hK hP 39 CW_39 rfl 13 (by decide) (ht (.fieldLink RX5 37 "CloneVolumes$Plan" "ends" "[I") fl_X5_37) (fun _ h9 => h9) rfl eX5_clear_36.2.2.2.2.2.1 ?_
      refine lv_iload_n hx hb eX5_clear_36.2.2.2.2.2.2.1 rfl (lv_at hl 1 rfl) ?_
      refine lv_iconst (v := (-1)) hx hb eX5_clear_36.2.2.2.2.2.2.2 (by decide) ?_
      obtain ⟨hi7, h⟩ := inb_e h
      refine ya_iast (i := x1) (x := (-1)) hx hb hK hP (hDD _) hS 46 0 CW_46 rfl (by decide) hi7 eX5_clear_48.1 (CW_w46 _) (fun H locs hP hS => ?_)
      obtain ⟨s8, hs8, h⟩ := st_e h
      rw [hs8] at hP
      refine lv_iinc (v := i2 (x1 + 1)) (lv' := [(1, .int (i2 (x1 + 1))), (0, .ref (a 39))]) hx hb eX5_clear_48.2.1 hl (k := 1) rfl (i2_add x1 1) (by decide) rfl (fun ls hl => ?_)
      refine lv_goto (tgt := 30) hx hb eX5_clear_48.2.2.1 (by decide) ?_
      exact ih30 (x1 + 1, s8) _ _ _ ⟨hP, hS, lv_sub hl [1, 0] rfl, h⟩
  refine lv_aload_n hx hb eX3_init_14.2.2.1 rfl (lv_at hl 0 rfl) ?_
  refine lv_iconst (v := 0) hx hb eX3_init_14.2.2.2.1 (by decide) ?_
  refine ya_put (D := D) (ci := 5) (v := .int 0) (ty := .int) (C := RX5) (T := TX5) (N := 14) hx hb ht inX5 tyX5 tyX5_ok nmX5 hown hK hP (hDD _) hS 39 CW_39 rfl 3 (by decide) (ht (.fieldLink RX5 43 "CloneVolumes$Plan" "statements" "I") fl_X5_43) (fun _ h9 => h9) rfl (by decide +kernel) rfl rfl (Nat.le_of_ble_eq_true rfl) eX3_init_14.2.2.2.2.1 (CW_w39_3 0) (fun H locs hP hS => ?_)
  obtain ⟨s9, hs9, h⟩ := st_e h
  rw [hs9] at hP
  refine lv_aload_n hx hb eX3_init_14.2.2.2.2.2.1 rfl (lv_at hl 0 rfl) ?_
  refine lv_iconst (v := 0) hx hb eX3_init_14.2.2.2.2.2.2.1 (by decide) ?_
  refine ya_put (D := D) (ci := 5) (v := .int 0) (ty := .int) (C := RX5) (T := TX5) (N := 14) hx hb ht inX5 tyX5 tyX5_ok nmX5 hown hK hP (hDD _) hS 39 CW_39 rfl 4 (by decide) (ht (.fieldLink RX5 47 "CloneVolumes$Plan" "volumes" "I") fl_X5_47) (fun _ h9 => h9) rfl (by decide +kernel) rfl rfl (Nat.le_of_ble_eq_true rfl) eX3_init_14.2.2.2.2.2.2.2 (CW_w39_4 0) (fun H locs hP hS => ?_)
  obtain ⟨s10, hs10, h⟩ := st_e h
  rw [hs10] at hP
  refine lv_aload_n hx hb eX5_clear_10.1 rfl (lv_at hl 0 rfl) ?_
  refine lv_iconst (v := 0) hx hb eX5_clear_10.2.1 (by decide) ?_
  refine ya_put (D := D) (ci := 5) (v := .int 0) (ty := .int) (C := RX5) (T := TX5) (N := 14) hx hb ht inX5 tyX5 tyX5_ok nmX5 hown hK hP (hDD _) hS 39 CW_39 rfl 5 (by decide) (ht (.fieldLink RX5 50 "CloneVolumes$Plan" "changes" "I") fl_X5_50) (fun _ h9 => h9) rfl (by decide +kernel) rfl rfl (Nat.le_of_ble_eq_true rfl) eX5_clear_10.2.2.1 (CW_w39_5 0) (fun H locs hP hS => ?_)
  obtain ⟨s11, hs11, h⟩ := st_e h
  rw [hs11] at hP
  refine lv_aload_n hx hb eX5_clear_10.2.2.2.1 rfl (lv_at hl 0 rfl) ?_
  refine lv_iconst (v := 0) hx hb eX5_clear_10.2.2.2.2.1 (by decide) ?_
  refine ya_put (D := D) (ci := 5) (v := .int 0) (ty := .int) (C := RX5) (T := TX5) (N := 14) hx hb ht inX5 tyX5 tyX5_ok nmX5 hown hK hP (hDD _) hS 39 CW_39 rfl 2 (by decide) (ht (.fieldLink RX5 53 "CloneVolumes$Plan" "churn" "I") fl_X5_53) (fun _ h9 => h9) rfl (by decide +kernel) rfl rfl (Nat.le_of_ble_eq_true rfl) eX5_clear_10.2.2.2.2.2.1 (CW_w39_2 0) (fun H locs hP hS => ?_)
  obtain ⟨s12, hs12, h⟩ := st_e h
  rw [hs12] at hP
  refine lv_aload_n hx hb eX5_clear_10.2.2.2.2.2.2.1 rfl (lv_at hl 0 rfl) ?_
  refine va_get (D := D) (ci := 5) (v := .ref (a 47)) (C := RX5) (T := TX5) (N := 14) hx hb ht inX5 hown hK hP 39 CW_39 rfl 11 (by decide) (ht (.fieldLink RX5 30 "CloneVolumes$Plan" "code" "LCloneVolumes$Code;") fl_X5_30) (fun _ h9 => h9) rfl eX5_clear_10.2.2.2.2.2.2.2 ?_
  refine lv_iconst (v := 0) hx hb eX5_clear_24.1 (by decide) ?_
  refine ya_put (D := D) (ci := 0) (v := .int 0) (ty := .int) (C := RX0) (T := TX0) (N := 2) hx hb ht inX0 tyX0 tyX0_ok nmX0 hown hK hP (hDD _) hS 47 CW_47 rfl 1 (by decide) (ht (.fieldLink RX5 56 "CloneVolumes$Code" "size" "I") fl_X5_56) (fun _ h9 => h9) rfl (by decide +kernel) rfl rfl (Nat.le_of_ble_eq_true rfl) eX5_clear_24.2.1 (CW_w47_1 0) (fun H locs hP hS => ?_)
  obtain ⟨s13, hs13, h⟩ := st_e h
  rw [hs13] at hP
  refine lv_iconst (v := 0) hx hb eX5_clear_24.2.2.1 (by decide) ?_
  refine lv_istore_n (lv' := [(1, .int 0), (0, .ref (a 39))]) hx hb eX5_clear_24.2.2.2.1 rfl hl (by decide) rfl (fun ls hl => ?_)
  exact J30 FU (0, s13) _ _ _ ⟨hP, hS, lv_sub hl [1, 0] rfl, h⟩
set_option maxHeartbeats 4000000 in
set_option maxRecDepth 100000 in
theorem k_x6_readStore (l : Launch) (D : va_G) (a : Nat → Nat) (sz : Nat) (s : MS) (o : (Int × MS)) (h : m_x6_readStore s = some o) : yWi l yX6_readStore cX6_readStore 3 (some .boolean) { frames := 162, cells := 0, slots := 0, locals := 9720 } D sz [.ref (a 5), .ref (a 39)] (CS D a s) (CS D a o.2) (i2 o.1) := by
  refine Met.ofW (cc := cX6_readStore) (maxL := 3) (ret := (some .boolean)) (by decide) rfl ?_
  intro p e s₀ m args below meth c s₁ B hml hv
  obtain ⟨rfl, ⟨hsz, hP, hK, hD0⟩, hN⟩ := hv
  have hx := B.exec
  have hb := B.bytes
  have hr := B.returns
  have hts := atoms_spec (ws := wz yX6_readStore cX6_readStore 3 (some .boolean)) B.pre
  have ht : ∀ w ∈ lw_gd, w.before _ s₀ = true := fun w h => hts w (List.mem_cons_of_mem _ h)
  have hown : s₀.vm.findClass RX6 = some m.cls := findClass_of_methodNamed B.named
  have hlocks := B.notSynchronized
  subst hsz
  have hD := hD0.self (sz := s₀.heap.size)
  generalize hAe : va_A (CS D a s) s₀.heap.size = A at hD ⊢
  have hA : ∀ q : Nat, s₀.heap.size ≤ q → A q := fun q h => by rw [← hAe]; exact Or.inr h
  have hS : va_S A s₀.heap s₀.heap [] := va_S.rf
  have hDD : ∀ t : MS, va_D A (CS D a t) := fun t => CW_D t hD
  have hl := lv_entry ([.ref (a 5), .ref (a 39)]) (n := 3) (Nat.le_of_ble_eq_true rfl)
  rw [lg_entry_eq]
  generalize (lg_sl ([.ref (a 5), .ref (a 39)]) ++ List.replicate (3 - (lg_sl ([.ref (a 5), .ref (a 39)])).length) Slot.unset).toArray = ls at hl ⊢
  have hl : lv_has ls 3 [(0, .ref (a 5)), (1, .ref (a 39))] := hl
  unfold m_x6_readStore at h
  refine y_head (pcJ := 87) (σ := Int × MS) (fun u H locs ls => va_P D vwCl (CS D a u.2) H ∧ va_S A s₀.heap H locs ∧ lv_has ls 3 [] ∧ m_x6_readStore_J87 u.1 u.2 = some o) (fun u => [.int (i2 u.1)]) (fun u H locs ls hI => ?_) (fun J87 => ?_)
  · obtain ⟨hP, hS, hl, h⟩ := hI
    obtain ⟨x1, s2⟩ := u
    have hP : va_P D vwCl (CS D a s2) H := hP
    have hl : lv_has ls 3 [] := hl
    have h : m_x6_readStore_J87 x1 s2 = some o := h
    unfold m_x6_readStore_J87 at h
    obtain ⟨hb3, h⟩ := bo_e h
    obtain rfl := Option.some.inj h
    exact W.zret (v := (i2 x1)) hx hb hr (bo_n hb3) (fun t ht hW => ⟨⟨_, (), rfl, rfl, by rw [ht]; exact hP, va_K.moved hW.alike hK, hDD _⟩, hS.F ht⟩) hS.2.2 eX6_readStore_79.2.2.2.2
  refine y_head (pcJ := 75) (σ := MS) (fun u H locs ls => va_P D vwCl (CS D a u) H ∧ va_S A s₀.heap H locs ∧ lv_has ls 3 [(0, .ref (a 5))] ∧ m_x6_readStore_J75 u = some o) (fun u => []) (fun u H locs ls hI => ?_) (fun J75 => ?_)
  · obtain ⟨hP, hS, hl, h⟩ := hI
    obtain ⟨s4, rfl⟩ : ∃ z, z = u := ⟨u, rfl⟩
    have hP : va_P D vwCl (CS D a s4) H := hP
    have hl : lv_has ls 3 [(0, .ref (a 5))] := hl
    have h : m_x6_readStore_J75 s4 = some o := h
    unfold m_x6_readStore_J75 at h
    refine lv_aload_n hx hb eX6_readStore_65.2.2.2.2.2.2.1 rfl (lv_at hl 0 rfl) ?_
    refine va_get (D := D) (ci := 6) (v := .int (i2 (gI s4 100))) (C := RX6) (T := TX6) (N := 12) hx hb ht inX6 hown hK hP 5 CW_5 rfl 0 (by decide) (ht (.fieldLink RX6 61 "CloneVolumes$Reader" "fault" "I") fl_X6_61) (fun _ h9 => h9) rfl eX6_readStore_65.2.2.2.2.2.2.2 ?_
    obtain ⟨hr5, h⟩ := rg_e h
    refine lv_if_ne (tgt := 86) hx hb eX6_readStore_79.1 (by decide) (fun c6 => ?_) (fun c6 => ?_)
    · have h := if_f (mt (i2_eq (x := (gI s4 100)) (y := 0) hr5 (by decide)).mpr c6) h
      refine lv_iconst (v := 0) hx hb eX6_readStore_79.2.2.2.1 (by decide) ?_
      exact J87 (0, s4) _ _ _ ⟨hP, hS, lv_sub hl [] rfl, h⟩
    · have h := if_t ((i2_eq (x := (gI s4 100)) (y := 0) hr5 (by decide)).mp c6) h
      refine lv_iconst (v := 1) hx hb eX6_readStore_79.2.1 (by decide) ?_
      refine lv_goto (tgt := 87) hx hb eX6_readStore_79.2.2.1 (by decide) ?_
      exact J87 (1, s4) _ _ _ ⟨hP, hS, lv_sub hl [] rfl, h⟩
  refine y_head (pcJ := 38) (σ := MS) (fun u H locs ls => va_P D vwCl (CS D a u) H ∧ va_S A s₀.heap H locs ∧ lv_has ls 3 [(0, .ref (a 5)), (1, .ref (a 39))] ∧ m_x6_readStore_J38 u = some o) (fun u => []) (fun u H locs ls hI => ?_) (fun J38 => ?_)
  · obtain ⟨hP, hS, hl, h⟩ := hI
    obtain ⟨s7, rfl⟩ : ∃ z, z = u := ⟨u, rfl⟩
    have hP : va_P D vwCl (CS D a s7) H := hP
    have hl : lv_has ls 3 [(0, .ref (a 5)), (1, .ref (a 39))] := hl
    have h : m_x6_readStore_J38 s7 = some o := h
    unfold m_x6_readStore_J38 at h
    refine lv_aload_n hx hb eX6_readStore_29.2.2.2.1 rfl (lv_at hl 0 rfl) ?_
    refine va_get (D := D) (ci := 6) (v := .int (i2 (gI s7 107))) (C := RX6) (T := TX6) (N := 12) hx hb ht inX6 hown hK hP 5 CW_5 rfl 7 (by decide) (ht (.fieldLink RX6 44 "CloneVolumes$Reader" "kind" "I") fl_X6_44) (fun _ h9 => h9) rfl eX6_readStore_29.2.2.2.2.1 ?_
    obtain ⟨hr8, h⟩ := rg_e h
    refine lv_if_eq (tgt := 58) hx hb eX6_readStore_29.2.2.2.2.2.1 (by decide) (fun c9 => ?_) (fun c9 => ?_)
    · have h := if_t ((i2_eq (x := (gI s7 107)) (y := 0) hr8 (by decide)).mp c9) h
      refine lv_aload_n hx hb eX6_readStore_47.2.2.2.2.2.1 rfl (lv_at hl 1 rfl) ?_
      refine va_get (D := D) (ci := 5) (v := .int (i2 (gI s7 783))) (C := RX5) (T := TX5) (N := 14) hx hb ht inX5 hown hK hP 39 CW_39 rfl 3 (by decide) (ht (.fieldLink RX6 58 "CloneVolumes$Plan" "statements" "I") fl_X6_58) (fun _ h9 => h9) rfl eX6_readStore_47.2.2.2.2.2.2.1 ?_
      obtain ⟨hr10, h⟩ := rg_e h
      refine lv_if_ne (tgt := 75) hx hb eX6_readStore_47.2.2.2.2.2.2.2 (by decide) (fun c11 => ?_) (fun c11 => ?_)
      · have h := if_f (mt (i2_eq (x := (gI s7 783)) (y := 0) hr10 (by decide)).mpr c11) h
        exact J75 s7 _ _ _ ⟨hP, hS, lv_sub hl [0] rfl, h⟩
      · have h := if_t ((i2_eq (x := (gI s7 783)) (y := 0) hr10 (by decide)).mp c11) h
        refine lv_aload_n hx hb eX6_readStore_65.1 rfl (lv_at hl 0 rfl) ?_
        refine lv_iconst (v := 1) hx hb eX6_readStore_65.2.1 (by decide) ?_
        refine lv_aload_n hx hb eX6_readStore_65.2.2.1 rfl (lv_at hl 0 rfl) ?_
        refine va_get (D := D) (ci := 6) (v := .int (i2 (gI s7 108))) (C := RX6) (T := TX6) (N := 12) hx hb ht inX6 hown hK hP 5 CW_5 rfl 8 (by decide) (ht (.fieldLink RX6 51 "CloneVolumes$Reader" "start" "I") fl_X6_51) (fun _ h9 => h9) rfl eX6_readStore_65.2.2.2.1 ?_
        obtain ⟨⟨r14, s13⟩, hc12, h⟩ := bn_e h
        refine ywV (r0 := i2 r14) (As := [.int 1, .int (i2 (gI s7 108))]) (rest := []) (C := RX6) (n := 2) (ws' := CS D a s13) ⟨hx, hb, hml, hown, ht⟩ (k_x6_fail l D a 1 (gI s7 108) _ _ _ hc12) (zgV ml_X6_54 im_X6_fail se_X6_fail in_X6 co_X6_fail) rfl rfl (by decide +kernel) ⟨Nat.le_of_ble_eq_true rfl, Nat.le_of_ble_eq_true rfl⟩ hN hK hP (hDD _) hS hA 5 CW_5 rfl rfl rfl hl.1 rfl (Nat.le_of_ble_eq_true rfl) eX6_readStore_65.2.2.2.2.1 ⟨Nat.le_of_ble_eq_true rfl, Nat.le_of_ble_eq_true rfl⟩ (fun H locs hP hS => ?_)
        refine lv_pop hx hb eX6_readStore_65.2.2.2.2.2.1 rfl ?_
        exact J75 s13 _ _ _ ⟨hP, hS, lv_sub hl [0] rfl, h⟩
    · have h := if_f (mt (i2_eq (x := (gI s7 107)) (y := 0) hr8 (by decide)).mpr c9) h
      refine lv_aload_n hx hb eX6_readStore_29.2.2.2.2.2.2.1 rfl (lv_at hl 0 rfl) ?_
      refine lv_iconst (v := 5) hx hb eX6_readStore_29.2.2.2.2.2.2.2 (by decide) ?_
      refine lv_aload_n hx hb eX6_readStore_47.1 rfl (lv_at hl 0 rfl) ?_
      refine va_get (D := D) (ci := 6) (v := .int (i2 (gI s7 108))) (C := RX6) (T := TX6) (N := 12) hx hb ht inX6 hown hK hP 5 CW_5 rfl 8 (by decide) (ht (.fieldLink RX6 51 "CloneVolumes$Reader" "start" "I") fl_X6_51) (fun _ h9 => h9) rfl eX6_readStore_47.2.1 ?_
      obtain ⟨⟨r17, s16⟩, hc15, h⟩ := bn_e h
      refine ywV (r0 := i2 r17) (As := [.int 5, .int (i2 (gI s7 108))]) (rest := []) (C := RX6) (n := 2) (ws' := CS D a s16) ⟨hx, hb, hml, hown, ht⟩ (k_x6_fail l D a 5 (gI s7 108) _ _ _ hc15) (zgV ml_X6_54 im_X6_fail se_X6_fail in_X6 co_X6_fail) rfl rfl (by decide +kernel) ⟨Nat.le_of_ble_eq_true rfl, Nat.le_of_ble_eq_true rfl⟩ hN hK hP (hDD _) hS hA 5 CW_5 rfl rfl rfl hl.1 rfl (Nat.le_of_ble_eq_true rfl) eX6_readStore_47.2.2.1 ⟨Nat.le_of_ble_eq_true rfl, Nat.le_of_ble_eq_true rfl⟩ (fun H locs hP hS => ?_)
      refine lv_pop hx hb eX6_readStore_47.2.2.2.1 rfl ?_
      refine lv_goto (tgt := 75) hx hb eX6_readStore_47.2.2.2.2.1 (by decide) ?_
      exact J75 s16 _ _ _ ⟨hP, hS, lv_sub hl [0] rfl, h⟩
  refine y_loop (pcJ := 14) (σ := Int × MS) (fun n u H locs ls => va_P D vwCl (CS D a u.2) H ∧ va_S A s₀.heap H locs ∧ lv_has ls 3 [(0, .ref (a 5)), (1, .ref (a 39)), (2, .int (i2 u.1))] ∧ m_x6_readStore_L14 n u.1 u.2 = some o) (fun u => []) (fun u H locs ls hI => by obtain ⟨_, _, _, h⟩ := hI; cases h) (fun n14 ih14 u H locs ls hI => ?_) (fun J14 => ?_)
  · obtain ⟨hP, hS, hl, h⟩ := hI
    obtain ⟨x18, s19⟩ := u
    have hP : va_P D vwCl (CS D a s19) H := hP
    have hl : lv_has ls 3 [(0, .ref (a 5)), (1, .ref (a 39)), (2, .int (i2 x18))] := hl
    have h : m_x6_readStore_b14 (m_x6_readStore_L14 n14) x18 s19 = some o := h
    unfold m_x6_readStore_b14 at h
    refine lv_iload_n hx hb eX6_readStore_14.1 rfl (lv_at hl 2 rfl) ?_
    refine lv_bipush (v := 60) hx hb eX6_readStore_14.2.1 (by decide) ?_
    obtain ⟨hr20, h⟩ := rg_e h
    refine lv_icmp_ge (tgt := 38) hx hb eX6_readStore_14.2.2.1 (by decide) (fun c21 => ?_) (fun c21 => ?_)
    · have h := if_t ((i2_le (x := 60) (y := x18) (by decide) hr20).mp c21) h
      exact J38 s19 _ _ _ ⟨hP, hS, lv_sub hl [0, 1] rfl, h⟩
    · have h := if_f (mt (i2_le (x := 60) (y := x18) (by decide) hr20).mpr c21) h
      refine lv_aload_n hx hb eX6_readStore_14.2.2.2.1 rfl (lv_at hl 0 rfl) ?_
      refine va_get (D := D) (ci := 6) (v := .int (i2 (gI s19 107))) (C := RX6) (T := TX6) (N := 12) hx hb ht inX6 hown hK hP 5 CW_5 rfl 7 (by decide) (ht (.fieldLink RX6 44 "CloneVolumes$Reader" "kind" "I") fl_X6_44) (fun _ h9 => h9) rfl eX6_readStore_14.2.2.2.2.1 ?_
      obtain ⟨hr22, h⟩ := rg_e h
      refine lv_if_eq (tgt := 38) hx hb eX6_readStore_14.2.2.2.2.2.1 (by decide) (fun c23 => ?_) (fun c23 => ?_)
      · have h := if_t ((i2_eq (x := (gI s19 107)) (y := 0) hr22 (by decide)).mp c23) h
        exact J38 s19 _ _ _ ⟨hP, hS, lv_sub hl [0, 1] rfl, h⟩
      · have h := if_f (mt (i2_eq (x := (gI s19 107)) (y := 0) hr22 (by decide)).mpr c23) h
        refine lv_aload_n hx hb eX6_readStore_14.2.2.2.2.2.2.1 rfl (lv_at hl 0 rfl) ?_
        refine lv_aload_n hx hb eX6_readStore_14.2.2.2.2.2.2.2 rfl (lv_at hl 1 rfl) ?_
        obtain ⟨s25, hc24, h⟩ := bn_e h
        refine ywVv (As := [.ref (a 39)]) (rest := []) (C := RX6) (n := 1) (ws' := CS D a s25) ⟨hx, hb, hml, hown, ht⟩ (k_x6_readStatement l D a _ _ _ hc24) (zgV ml_X6_47 im_X6_readStatement se_X6_readStatement in_X6 co_X6_readStatement) rfl rfl (by decide +kernel) ⟨Nat.le_of_ble_eq_true rfl, Nat.le_of_ble_eq_true rfl⟩ hN hK hP (hDD _) hS hA 5 CW_5 rfl rfl rfl hl.1 rfl (Nat.le_of_ble_eq_true rfl) eX6_readStore_29.1 ⟨Nat.le_of_ble_eq_true rfl, Nat.le_of_ble_eq_true rfl⟩ (fun H locs hP hS => ?_)
        refine lv_iinc (v := i2 (x18 + 1)) (lv' := [(2, .int (i2 (x18 + 1))), (0, .ref (a 5)), (1, .ref (a 39))]) hx hb eX6_readStore_29.2.1 hl (k := 2) rfl (i2_add x18 1) (by decide) rfl (fun ls hl => ?_)
        refine lv_goto (tgt := 14) hx hb eX6_readStore_29.2.2.1 (by decide) ?_
        exact ih14 (x18 + 1, s25) _ _ _ ⟨hP, hS, lv_sub hl [1, 2, 0] rfl, h⟩
  refine lv_aload_n hx hb eX6_readStore_0.1 rfl (lv_at hl 1 rfl) ?_
  obtain ⟨s27, hc26, h⟩ := bn_e h
  refine ywVv (As := []) (rest := []) (C := RX5) (n := 0) (ws' := CS D a s27) ⟨hx, hb, hml, hown, ht⟩ (k_x5_clear l D a _ _ _ hc26) (zgV ml_X6_31 im_X5_clear se_X5_clear in_X5 co_X5_clear) rfl rfl (by decide +kernel) ⟨Nat.le_of_ble_eq_true rfl, Nat.le_of_ble_eq_true rfl⟩ hN hK hP (hDD _) hS hA 39 CW_39 rfl rfl rfl hl.1 rfl (Nat.le_of_ble_eq_true rfl) eX6_readStore_0.2.1 ⟨Nat.le_of_ble_eq_true rfl, Nat.le_of_ble_eq_true rfl⟩ (fun H locs hP hS => ?_)
  refine lv_aload_n hx hb eX6_readStore_0.2.2.1 rfl (lv_at hl 0 rfl) ?_
  refine lv_aload_n hx hb eX6_readStore_0.2.2.2.1 rfl (lv_at hl 1 rfl) ?_
  refine va_get (D := D) (ci := 5) (v := .ref (a 47)) (C := RX5) (T := TX5) (N := 14) hx hb ht inX5 hown hK hP 39 CW_39 rfl 11 (by decide) (ht (.fieldLink RX6 36 "CloneVolumes$Plan" "code" "LCloneVolumes$Code;") fl_X6_36) (fun _ h9 => h9) rfl eX6_readStore_0.2.2.2.2.1 ?_
  obtain ⟨s29, hc28, h⟩ := bn_e h
  refine ywVv (As := [.ref (a 47)]) (rest := []) (C := RX6) (n := 1) (ws' := CS D a s29) ⟨hx, hb, hml, hown, ht⟩ (k_x6_begin l D a _ _ _ hc28) (zgV ml_X6_40 im_X6_begin se_X6_begin in_X6 co_X6_begin) rfl rfl (by decide +kernel) ⟨Nat.le_of_ble_eq_true rfl, Nat.le_of_ble_eq_true rfl⟩ hN hK hP (hDD _) hS hA 5 CW_5 rfl rfl rfl hl.1 rfl (Nat.le_of_ble_eq_true rfl) eX6_readStore_0.2.2.2.2.2.1 ⟨Nat.le_of_ble_eq_true rfl, Nat.le_of_ble_eq_true rfl⟩ (fun H locs hP hS => ?_)
  refine lv_iconst (v := 0) hx hb eX6_readStore_0.2.2.2.2.2.2.1 (by decide) ?_
  refine lv_istore_n (lv' := [(2, .int 0), (0, .ref (a 5)), (1, .ref (a 39))]) hx hb eX6_readStore_0.2.2.2.2.2.2.2 rfl hl (by decide) rfl (fun ls hl => ?_)
  exact J14 FU (0, s29) _ _ _ ⟨hP, hS, lv_sub hl [1, 2, 0] rfl, h⟩
