theorem fl_X11_60 : Cond.fieldLink RX11 60 "CloneVolumes" "refused" "[I" ∈ lw_gd := zm (List.mem_of_getElem? (i := 708) (by decide +kernel)) rfl
theorem fl_X11_21 : Cond.fieldLink RX11 21 "CloneVolumes" "reader" "LCloneVolumes$Reader;" ∈ lw_gd := zm (List.mem_of_getElem? (i := 701) (by decide +kernel)) rfl
theorem fl_X11_119 : Cond.fieldLink RX11 119 "CloneVolumes$Reader" "fault" "I" ∈ lw_gd := zm (List.mem_of_getElem? (i := 299) (by decide +kernel)) rfl
theorem fl_X11_112 : Cond.fieldLink RX11 112 "CloneVolumes" "told" "Z" ∈ lw_gd := zm (List.mem_of_getElem? (i := 712) (by decide +kernel)) rfl
theorem fl_X11_79 : Cond.fieldLink RX11 79 "CloneVolumes" "forest" "LCloneVolumes$Forest;" ∈ lw_gd := zm (List.mem_of_getElem? (i := 711) (by decide +kernel)) rfl
theorem fl_X11_125 : Cond.fieldLink RX11 125 "CloneVolumes$Forest" "now" "LCloneVolumes$State;" ∈ lw_gd := zm (List.mem_of_getElem? (i := 669) (by decide +kernel)) rfl
theorem ml_X11_161 : Cond.methodLink RX11 161 yX8_isVolume ∈ lw_gd := zm (List.mem_of_getElem? (i := 1114) (by decide +kernel)) rfl
theorem ml_X11_188 : Cond.methodLink RX11 188 yX8_isBlock ∈ lw_gd := zm (List.mem_of_getElem? (i := 1139) (by decide +kernel)) rfl
theorem im_X8_isBlock : Cond.instanceMethod yX8_isBlock ∈ lw_gd := zm (List.mem_of_getElem? (i := 944) (by decide +kernel)) rfl
theorem se_X8_isBlock : Cond.selects RX8 yX8_isBlock yX8_isBlock ∈ lw_gd := zm (List.mem_of_getElem? (i := 945) (by decide +kernel)) rfl
theorem co_X8_isBlock : Cond.code yX8_isBlock cX8_isBlock 2 (some .boolean) ∈ lw_gd := zm (List.mem_of_getElem? (i := 946) (by decide +kernel)) rfl
theorem fl_X11_28 : Cond.fieldLink RX11 28 "CloneVolumes" "history" "LCloneVolumes$History;" ∈ lw_gd := zm (List.mem_of_getElem? (i := 702) (by decide +kernel)) rfl
theorem ml_X11_219 : Cond.methodLink RX11 219 yX2_toldOf ∈ lw_gd := zm (List.mem_of_getElem? (i := 1163) (by decide +kernel)) rfl
theorem im_X2_toldOf : Cond.instanceMethod yX2_toldOf ∈ lw_gd := zm (List.mem_of_getElem? (i := 1164) (by decide +kernel)) rfl
theorem se_X2_toldOf : Cond.selects RX2 yX2_toldOf yX2_toldOf ∈ lw_gd := zm (List.mem_of_getElem? (i := 1165) (by decide +kernel)) rfl
theorem co_X2_toldOf : Cond.code yX2_toldOf cX2_toldOf 4 (some .int) ∈ lw_gd := zm (List.mem_of_getElem? (i := 1166) (by decide +kernel)) rfl
theorem ml_X11_249 : Cond.methodLink RX11 249 yX11_oneOf ∈ lw_gd := zm (List.mem_of_getElem? (i := 1263) (by decide +kernel)) rfl
theorem st_X11_oneOf : Cond.static yX11_oneOf ∈ lw_gd := zm (List.mem_of_getElem? (i := 1264) (by decide +kernel)) rfl
theorem in_X11 : Cond.initialized RX11 ∈ lw_gd := zm (List.mem_of_getElem? (i := 198) (by decide +kernel)) rfl
theorem co_X11_oneOf : Cond.code yX11_oneOf cX11_oneOf 3 (some .int) ∈ lw_gd := zm (List.mem_of_getElem? (i := 1265) (by decide +kernel)) rfl
theorem fl_X11_42 : Cond.fieldLink RX11 42 "CloneVolumes" "picture" "LCloneVolumes$Picture;" ∈ lw_gd := zm (List.mem_of_getElem? (i := 704) (by decide +kernel)) rfl
theorem fl_X11_339 : Cond.fieldLink RX11 339 "CloneVolumes$Picture" "size" "I" ∈ lw_gd := zm (List.mem_of_getElem? (i := 403) (by decide +kernel)) rfl
theorem fl_X11_129 : Cond.fieldLink RX11 129 "CloneVolumes$State" "blocks" "I" ∈ lw_gd := zm (List.mem_of_getElem? (i := 557) (by decide +kernel)) rfl
theorem ml_X11_134 : Cond.methodLink RX11 134 yX8_volumes ∈ lw_gd := zm (List.mem_of_getElem? (i := 1079) (by decide +kernel)) rfl
theorem im_X8_volumes : Cond.instanceMethod yX8_volumes ∈ lw_gd := zm (List.mem_of_getElem? (i := 1080) (by decide +kernel)) rfl
theorem se_X8_volumes : Cond.selects RX8 yX8_volumes yX8_volumes ∈ lw_gd := zm (List.mem_of_getElem? (i := 1081) (by decide +kernel)) rfl
theorem co_X8_volumes : Cond.code yX8_volumes cX8_volumes 3 (some .int) ∈ lw_gd := zm (List.mem_of_getElem? (i := 1082) (by decide +kernel)) rfl
theorem ml_X11_138 : Cond.methodLink RX11 138 yX8_used ∈ lw_gd := zm (List.mem_of_getElem? (i := 1087) (by decide +kernel)) rfl
theorem im_X8_used : Cond.instanceMethod yX8_used ∈ lw_gd := zm (List.mem_of_getElem? (i := 1088) (by decide +kernel)) rfl
theorem se_X8_used : Cond.selects RX8 yX8_used yX8_used ∈ lw_gd := zm (List.mem_of_getElem? (i := 1089) (by decide +kernel)) rfl
theorem co_X8_used : Cond.code yX8_used cX8_used 3 (some .int) ∈ lw_gd := zm (List.mem_of_getElem? (i := 1090) (by decide +kernel)) rfl
theorem ml_X11_141 : Cond.methodLink RX11 141 yX8_held ∈ lw_gd := zm (List.mem_of_getElem? (i := 1091) (by decide +kernel)) rfl
theorem im_X8_held : Cond.instanceMethod yX8_held ∈ lw_gd := zm (List.mem_of_getElem? (i := 1092) (by decide +kernel)) rfl
theorem se_X8_held : Cond.selects RX8 yX8_held yX8_held ∈ lw_gd := zm (List.mem_of_getElem? (i := 1093) (by decide +kernel)) rfl
theorem co_X8_held : Cond.code yX8_held cX8_held 3 (some .int) ∈ lw_gd := zm (List.mem_of_getElem? (i := 1094) (by decide +kernel)) rfl
theorem fl_X11_144 : Cond.fieldLink RX11 144 "CloneVolumes$State" "spent" "I" ∈ lw_gd := zm (List.mem_of_getElem? (i := 561) (by decide +kernel)) rfl
theorem ml_X11_147 : Cond.methodLink RX11 147 yX2_toldRows ∈ lw_gd := zm (List.mem_of_getElem? (i := 1099) (by decide +kernel)) rfl
theorem fl_X11_35 : Cond.fieldLink RX11 35 "CloneVolumes" "sight" "LCloneVolumes$Sight;" ∈ lw_gd := zm (List.mem_of_getElem? (i := 703) (by decide +kernel)) rfl
theorem fl_X11_109 : Cond.fieldLink RX11 109 "CloneVolumes$Sight" "rows" "I" ∈ lw_gd := zm (List.mem_of_getElem? (i := 374) (by decide +kernel)) rfl
theorem fl_X11_150 : Cond.fieldLink RX11 150 "CloneVolumes$History" "depth" "I" ∈ lw_gd := zm (List.mem_of_getElem? (i := 353) (by decide +kernel)) rfl
theorem dX11_back_0 : decode cX11_back 0 = .ok (.aload_n 0, 1) := by decide +kernel
theorem dX11_back_1 : decode cX11_back 1 = .ok (.getfield 79, 3) := by decide +kernel
theorem dX11_back_4 : decode cX11_back 4 = .ok (.getfield 125, 3) := by decide +kernel
theorem dX11_back_7 : decode cX11_back 7 = .ok (.astore_n 2, 1) := by decide +kernel
theorem dX11_back_8 : decode cX11_back 8 = .ok (.aload_n 2, 1) := by decide +kernel
theorem dX11_back_9 : decode cX11_back 9 = .ok (.iload_n 1, 1) := by decide +kernel
theorem dX11_back_10 : decode cX11_back 10 = .ok (.invokevirtual 161, 3) := by decide +kernel
theorem dX11_back_13 : decode cX11_back 13 = .ok (.ifCond .eq 14, 3) := by decide +kernel
theorem dX11_back_27 : decode cX11_back 27 = .ok (.iconst (-1), 1) := by decide +kernel
theorem dX11_back_28 : decode cX11_back 28 = .ok (.ireturn, 1) := by decide +kernel
theorem dX11_block_0 : decode cX11_block 0 = .ok (.aload_n 0, 1) := by decide +kernel
theorem dX11_block_1 : decode cX11_block 1 = .ok (.getfield 79, 3) := by decide +kernel
theorem dX11_block_4 : decode cX11_block 4 = .ok (.getfield 125, 3) := by decide +kernel
theorem dX11_block_7 : decode cX11_block 7 = .ok (.astore_n 3, 1) := by decide +kernel
theorem dX11_block_8 : decode cX11_block 8 = .ok (.aload_n 3, 1) := by decide +kernel
theorem dX11_block_9 : decode cX11_block 9 = .ok (.iload_n 1, 1) := by decide +kernel
theorem dX11_block_10 : decode cX11_block 10 = .ok (.invokevirtual 188, 3) := by decide +kernel
theorem dX11_block_13 : decode cX11_block 13 = .ok (.ifCond .ne 5, 3) := by decide +kernel
theorem dX11_block_16 : decode cX11_block 16 = .ok (.iconst (-1), 1) := by decide +kernel
theorem dX11_block_17 : decode cX11_block 17 = .ok (.ireturn, 1) := by decide +kernel
theorem dX11_differs_0 : decode cX11_differs 0 = .ok (.aload_n 0, 1) := by decide +kernel
theorem dX11_differs_1 : decode cX11_differs 1 = .ok (.getfield 79, 3) := by decide +kernel
theorem dX11_differs_4 : decode cX11_differs 4 = .ok (.getfield 125, 3) := by decide +kernel
theorem dX11_differs_7 : decode cX11_differs 7 = .ok (.astore 4, 2) := by decide +kernel
theorem dX11_differs_9 : decode cX11_differs 9 = .ok (.aload 4, 2) := by decide +kernel
theorem dX11_differs_11 : decode cX11_differs 11 = .ok (.iload_n 1, 1) := by decide +kernel
theorem dX11_differs_12 : decode cX11_differs 12 = .ok (.invokevirtual 161, 3) := by decide +kernel
theorem dX11_differs_15 : decode cX11_differs 15 = .ok (.ifCond .eq 12, 3) := by decide +kernel
theorem dX11_differs_27 : decode cX11_differs 27 = .ok (.iconst (-1), 1) := by decide +kernel
theorem dX11_differs_28 : decode cX11_differs 28 = .ok (.ireturn, 1) := by decide +kernel
theorem dX11_entry_0 : decode cX11_entry 0 = .ok (.aload_n 0, 1) := by decide +kernel
theorem dX11_entry_1 : decode cX11_entry 1 = .ok (.getfield 79, 3) := by decide +kernel
theorem dX11_entry_4 : decode cX11_entry 4 = .ok (.getfield 125, 3) := by decide +kernel
theorem dX11_entry_7 : decode cX11_entry 7 = .ok (.astore 4, 2) := by decide +kernel
theorem dX11_entry_9 : decode cX11_entry 9 = .ok (.aload 4, 2) := by decide +kernel
theorem dX11_entry_11 : decode cX11_entry 11 = .ok (.iload_n 1, 1) := by decide +kernel
theorem dX11_entry_12 : decode cX11_entry 12 = .ok (.invokevirtual 188, 3) := by decide +kernel
theorem dX11_entry_15 : decode cX11_entry 15 = .ok (.ifCond .eq 17, 3) := by decide +kernel
theorem dX11_entry_32 : decode cX11_entry 32 = .ok (.iconst (-1), 1) := by decide +kernel
theorem dX11_entry_33 : decode cX11_entry 33 = .ok (.ireturn, 1) := by decide +kernel
theorem dX11_fault_0 : decode cX11_fault 0 = .ok (.iload_n 1, 1) := by decide +kernel
theorem dX11_fault_1 : decode cX11_fault 1 = .ok (.ifCond .ne 11, 3) := by decide +kernel
theorem dX11_fault_4 : decode cX11_fault 4 = .ok (.aload_n 0, 1) := by decide +kernel
theorem dX11_fault_5 : decode cX11_fault 5 = .ok (.getfield 21, 3) := by decide +kernel
theorem dX11_fault_8 : decode cX11_fault 8 = .ok (.getfield 119, 3) := by decide +kernel
theorem dX11_fault_11 : decode cX11_fault 11 = .ok (.ireturn, 1) := by decide +kernel
theorem dX11_fault_12 : decode cX11_fault 12 = .ok (.iload_n 1, 1) := by decide +kernel
theorem dX11_fault_13 : decode cX11_fault 13 = .ok (.iconst 1, 1) := by decide +kernel
theorem dX11_fault_14 : decode cX11_fault 14 = .ok (.if_icmp .ne 23, 3) := by decide +kernel
theorem dX11_fault_17 : decode cX11_fault 17 = .ok (.aload_n 0, 1) := by decide +kernel
theorem dX11_fault_18 : decode cX11_fault 18 = .ok (.getfield 21, 3) := by decide +kernel
theorem dX11_fault_21 : decode cX11_fault 21 = .ok (.getfield 119, 3) := by decide +kernel
theorem dX11_fault_24 : decode cX11_fault 24 = .ok (.ifCond .eq 13, 3) := by decide +kernel
theorem dX11_fault_37 : decode cX11_fault 37 = .ok (.iconst (-1), 1) := by decide +kernel
theorem dX11_fault_38 : decode cX11_fault 38 = .ok (.ireturn, 1) := by decide +kernel
theorem dX11_has_0 : decode cX11_has 0 = .ok (.aload_n 0, 1) := by decide +kernel
theorem dX11_has_1 : decode cX11_has 1 = .ok (.getfield 79, 3) := by decide +kernel
theorem dX11_has_4 : decode cX11_has 4 = .ok (.getfield 125, 3) := by decide +kernel
theorem dX11_has_7 : decode cX11_has 7 = .ok (.astore_n 2, 1) := by decide +kernel
theorem dX11_has_8 : decode cX11_has 8 = .ok (.iload_n 1, 1) := by decide +kernel
theorem dX11_has_9 : decode cX11_has 9 = .ok (.tableswitch 138 0 9 #[55, 60, 65, 70, 75, 90, 95, 103, 111, 119], 55) := by decide +kernel
theorem dX11_has_64 : decode cX11_has 64 = .ok (.aload_n 2, 1) := by decide +kernel
theorem dX11_has_65 : decode cX11_has 65 = .ok (.getfield 129, 3) := by decide +kernel
theorem dX11_has_68 : decode cX11_has 68 = .ok (.ireturn, 1) := by decide +kernel
theorem dX11_has_69 : decode cX11_has 69 = .ok (.aload_n 2, 1) := by decide +kernel
theorem dX11_has_70 : decode cX11_has 70 = .ok (.invokevirtual 134, 3) := by decide +kernel
theorem dX11_has_73 : decode cX11_has 73 = .ok (.ireturn, 1) := by decide +kernel
theorem dX11_has_74 : decode cX11_has 74 = .ok (.aload_n 2, 1) := by decide +kernel
theorem dX11_has_75 : decode cX11_has 75 = .ok (.invokevirtual 138, 3) := by decide +kernel
theorem dX11_has_78 : decode cX11_has 78 = .ok (.ireturn, 1) := by decide +kernel
theorem dX11_has_79 : decode cX11_has 79 = .ok (.aload_n 2, 1) := by decide +kernel
theorem dX11_has_80 : decode cX11_has 80 = .ok (.invokevirtual 141, 3) := by decide +kernel
theorem dX11_has_83 : decode cX11_has 83 = .ok (.ireturn, 1) := by decide +kernel
theorem dX11_has_84 : decode cX11_has 84 = .ok (.aload_n 2, 1) := by decide +kernel
theorem dX11_has_85 : decode cX11_has 85 = .ok (.getfield 129, 3) := by decide +kernel
theorem dX11_has_88 : decode cX11_has 88 = .ok (.aload_n 2, 1) := by decide +kernel
theorem dX11_has_89 : decode cX11_has 89 = .ok (.invokevirtual 138, 3) := by decide +kernel
theorem dX11_has_92 : decode cX11_has 92 = .ok (.isub, 1) := by decide +kernel
theorem dX11_has_93 : decode cX11_has 93 = .ok (.aload_n 2, 1) := by decide +kernel
theorem dX11_has_94 : decode cX11_has 94 = .ok (.invokevirtual 141, 3) := by decide +kernel
theorem dX11_has_97 : decode cX11_has 97 = .ok (.isub, 1) := by decide +kernel
theorem dX11_has_98 : decode cX11_has 98 = .ok (.ireturn, 1) := by decide +kernel
theorem dX11_has_99 : decode cX11_has 99 = .ok (.aload_n 2, 1) := by decide +kernel
theorem dX11_has_100 : decode cX11_has 100 = .ok (.getfield 144, 3) := by decide +kernel
theorem dX11_has_103 : decode cX11_has 103 = .ok (.ireturn, 1) := by decide +kernel
theorem dX11_has_104 : decode cX11_has 104 = .ok (.aload_n 0, 1) := by decide +kernel
theorem dX11_has_105 : decode cX11_has 105 = .ok (.getfield 28, 3) := by decide +kernel
theorem dX11_has_108 : decode cX11_has 108 = .ok (.invokevirtual 147, 3) := by decide +kernel
theorem dX11_has_111 : decode cX11_has 111 = .ok (.ireturn, 1) := by decide +kernel
theorem dX11_has_112 : decode cX11_has 112 = .ok (.aload_n 0, 1) := by decide +kernel
theorem dX11_has_113 : decode cX11_has 113 = .ok (.getfield 35, 3) := by decide +kernel
theorem dX11_has_116 : decode cX11_has 116 = .ok (.getfield 109, 3) := by decide +kernel
theorem dX11_has_119 : decode cX11_has 119 = .ok (.ireturn, 1) := by decide +kernel
theorem dX11_has_120 : decode cX11_has 120 = .ok (.aload_n 0, 1) := by decide +kernel
theorem dX11_has_121 : decode cX11_has 121 = .ok (.getfield 28, 3) := by decide +kernel
theorem dX11_has_124 : decode cX11_has 124 = .ok (.getfield 150, 3) := by decide +kernel
theorem dX11_has_127 : decode cX11_has 127 = .ok (.ireturn, 1) := by decide +kernel
theorem dX11_has_128 : decode cX11_has 128 = .ok (.aload_n 0, 1) := by decide +kernel
theorem dX11_has_129 : decode cX11_has 129 = .ok (.getfield 112, 3) := by decide +kernel
theorem dX11_has_132 : decode cX11_has 132 = .ok (.ifCond .eq 13, 3) := by decide +kernel
theorem dX11_has_145 : decode cX11_has 145 = .ok (.iconst 0, 1) := by decide +kernel
theorem dX11_has_146 : decode cX11_has 146 = .ok (.ireturn, 1) := by decide +kernel
theorem dX11_has_147 : decode cX11_has 147 = .ok (.iconst (-1), 1) := by decide +kernel
theorem dX11_has_148 : decode cX11_has 148 = .ok (.ireturn, 1) := by decide +kernel
theorem dX11_kept_0 : decode cX11_kept 0 = .ok (.aload_n 0, 1) := by decide +kernel
theorem dX11_kept_1 : decode cX11_kept 1 = .ok (.getfield 28, 3) := by decide +kernel
theorem dX11_kept_4 : decode cX11_kept 4 = .ok (.iload_n 1, 1) := by decide +kernel
theorem dX11_kept_5 : decode cX11_kept 5 = .ok (.iload_n 2, 1) := by decide +kernel
theorem dX11_kept_6 : decode cX11_kept 6 = .ok (.invokevirtual 219, 3) := by decide +kernel
theorem dX11_kept_9 : decode cX11_kept 9 = .ok (.ireturn, 1) := by decide +kernel
theorem dX11_key_0 : decode cX11_key 0 = .ok (.aload_n 0, 1) := by decide +kernel
theorem dX11_key_1 : decode cX11_key 1 = .ok (.getfield 79, 3) := by decide +kernel
theorem dX11_key_4 : decode cX11_key 4 = .ok (.getfield 125, 3) := by decide +kernel
theorem dX11_key_7 : decode cX11_key 7 = .ok (.astore_n 3, 1) := by decide +kernel
theorem dX11_key_8 : decode cX11_key 8 = .ok (.aload_n 3, 1) := by decide +kernel
theorem dX11_key_9 : decode cX11_key 9 = .ok (.iload_n 1, 1) := by decide +kernel
theorem dX11_key_10 : decode cX11_key 10 = .ok (.invokevirtual 161, 3) := by decide +kernel
theorem dX11_key_13 : decode cX11_key 13 = .ok (.ifCond .eq 25, 3) := by decide +kernel
theorem dX11_key_38 : decode cX11_key 38 = .ok (.iconst (-1), 1) := by decide +kernel
theorem dX11_key_39 : decode cX11_key 39 = .ok (.ireturn, 1) := by decide +kernel
theorem dX11_letter_0 : decode cX11_letter 0 = .ok (.aload_n 0, 1) := by decide +kernel
theorem dX11_letter_1 : decode cX11_letter 1 = .ok (.getfield 112, 3) := by decide +kernel
theorem dX11_letter_4 : decode cX11_letter 4 = .ok (.ifCond .eq 28, 3) := by decide +kernel
theorem dX11_letter_32 : decode cX11_letter 32 = .ok (.iconst (-1), 1) := by decide +kernel
theorem dX11_letter_33 : decode cX11_letter 33 = .ok (.ireturn, 1) := by decide +kernel
theorem dX11_lost_0 : decode cX11_lost 0 = .ok (.aload_n 0, 1) := by decide +kernel
theorem dX11_lost_1 : decode cX11_lost 1 = .ok (.getfield 79, 3) := by decide +kernel
theorem dX11_lost_4 : decode cX11_lost 4 = .ok (.getfield 125, 3) := by decide +kernel
theorem dX11_lost_7 : decode cX11_lost 7 = .ok (.iload_n 1, 1) := by decide +kernel
theorem dX11_lost_8 : decode cX11_lost 8 = .ok (.invokevirtual 188, 3) := by decide +kernel
theorem dX11_lost_11 : decode cX11_lost 11 = .ok (.ifCond .ne 5, 3) := by decide +kernel
theorem dX11_lost_14 : decode cX11_lost 14 = .ok (.iconst (-1), 1) := by decide +kernel
theorem dX11_lost_15 : decode cX11_lost 15 = .ok (.ireturn, 1) := by decide +kernel
theorem dX11_octet_0 : decode cX11_octet 0 = .ok (.iload_n 1, 1) := by decide +kernel
theorem dX11_octet_1 : decode cX11_octet 1 = .ok (.ifCond .lt 26, 3) := by decide +kernel
theorem dX11_octet_4 : decode cX11_octet 4 = .ok (.iload_n 1, 1) := by decide +kernel
theorem dX11_octet_5 : decode cX11_octet 5 = .ok (.aload_n 0, 1) := by decide +kernel
theorem dX11_octet_6 : decode cX11_octet 6 = .ok (.getfield 42, 3) := by decide +kernel
theorem dX11_octet_9 : decode cX11_octet 9 = .ok (.getfield 339, 3) := by decide +kernel
theorem dX11_octet_12 : decode cX11_octet 12 = .ok (.if_icmp .ge 15, 3) := by decide +kernel
theorem dX11_octet_27 : decode cX11_octet 27 = .ok (.iconst (-1), 1) := by decide +kernel
theorem dX11_octet_28 : decode cX11_octet 28 = .ok (.ireturn, 1) := by decide +kernel
theorem dX11_path_0 : decode cX11_path 0 = .ok (.aload_n 0, 1) := by decide +kernel
theorem dX11_path_1 : decode cX11_path 1 = .ok (.getfield 79, 3) := by decide +kernel
theorem dX11_path_4 : decode cX11_path 4 = .ok (.getfield 125, 3) := by decide +kernel
theorem dX11_path_7 : decode cX11_path 7 = .ok (.astore 4, 2) := by decide +kernel
theorem dX11_path_9 : decode cX11_path 9 = .ok (.aload 4, 2) := by decide +kernel
theorem dX11_path_11 : decode cX11_path 11 = .ok (.iload_n 1, 1) := by decide +kernel
theorem dX11_path_12 : decode cX11_path 12 = .ok (.invokevirtual 161, 3) := by decide +kernel
theorem dX11_path_15 : decode cX11_path 15 = .ok (.ifCond .eq 14, 3) := by decide +kernel
theorem dX11_path_29 : decode cX11_path 29 = .ok (.iconst (-1), 1) := by decide +kernel
theorem dX11_path_30 : decode cX11_path 30 = .ok (.ireturn, 1) := by decide +kernel
theorem dX11_read_0 : decode cX11_read 0 = .ok (.aload_n 0, 1) := by decide +kernel
theorem dX11_read_1 : decode cX11_read 1 = .ok (.getfield 79, 3) := by decide +kernel
theorem dX11_read_4 : decode cX11_read 4 = .ok (.getfield 125, 3) := by decide +kernel
theorem dX11_read_7 : decode cX11_read 7 = .ok (.iload_n 1, 1) := by decide +kernel
theorem dX11_read_8 : decode cX11_read 8 = .ok (.invokevirtual 161, 3) := by decide +kernel
theorem dX11_read_11 : decode cX11_read 11 = .ok (.ifCond .eq 29, 3) := by decide +kernel
theorem dX11_read_40 : decode cX11_read 40 = .ok (.iconst (-1), 1) := by decide +kernel
theorem dX11_read_41 : decode cX11_read 41 = .ok (.ireturn, 1) := by decide +kernel
theorem dX11_room_0 : decode cX11_room 0 = .ok (.aload_n 0, 1) := by decide +kernel
theorem dX11_room_1 : decode cX11_room 1 = .ok (.getfield 79, 3) := by decide +kernel
theorem dX11_room_4 : decode cX11_room 4 = .ok (.getfield 125, 3) := by decide +kernel
theorem dX11_room_7 : decode cX11_room 7 = .ok (.astore_n 2, 1) := by decide +kernel
theorem dX11_room_8 : decode cX11_room 8 = .ok (.aload_n 0, 1) := by decide +kernel
theorem dX11_room_9 : decode cX11_room 9 = .ok (.getfield 112, 3) := by decide +kernel
theorem dX11_room_12 : decode cX11_room 12 = .ok (.ifCond .ne 5, 3) := by decide +kernel
theorem dX11_room_15 : decode cX11_room 15 = .ok (.iconst (-1), 1) := by decide +kernel
theorem dX11_room_16 : decode cX11_room 16 = .ok (.ireturn, 1) := by decide +kernel
theorem dX11_shared_0 : decode cX11_shared 0 = .ok (.aload_n 0, 1) := by decide +kernel
theorem dX11_shared_1 : decode cX11_shared 1 = .ok (.getfield 79, 3) := by decide +kernel
theorem dX11_shared_4 : decode cX11_shared 4 = .ok (.getfield 125, 3) := by decide +kernel
theorem dX11_shared_7 : decode cX11_shared 7 = .ok (.astore_n 3, 1) := by decide +kernel
theorem dX11_shared_8 : decode cX11_shared 8 = .ok (.aload_n 3, 1) := by decide +kernel
theorem dX11_shared_9 : decode cX11_shared 9 = .ok (.iload_n 1, 1) := by decide +kernel
theorem dX11_shared_10 : decode cX11_shared 10 = .ok (.invokevirtual 161, 3) := by decide +kernel
theorem dX11_shared_13 : decode cX11_shared 13 = .ok (.ifCond .eq 11, 3) := by decide +kernel
theorem dX11_shared_24 : decode cX11_shared 24 = .ok (.iconst (-1), 1) := by decide +kernel
theorem dX11_shared_25 : decode cX11_shared 25 = .ok (.ireturn, 1) := by decide +kernel
theorem dX11_spread_0 : decode cX11_spread 0 = .ok (.aload_n 0, 1) := by decide +kernel
theorem dX11_spread_1 : decode cX11_spread 1 = .ok (.getfield 79, 3) := by decide +kernel
theorem dX11_spread_4 : decode cX11_spread 4 = .ok (.getfield 125, 3) := by decide +kernel
theorem dX11_spread_7 : decode cX11_spread 7 = .ok (.iload_n 1, 1) := by decide +kernel
theorem dX11_spread_8 : decode cX11_spread 8 = .ok (.invokevirtual 161, 3) := by decide +kernel
theorem dX11_spread_11 : decode cX11_spread 11 = .ok (.ifCond .eq 8, 3) := by decide +kernel
theorem dX11_spread_19 : decode cX11_spread 19 = .ok (.iconst (-1), 1) := by decide +kernel
theorem dX11_spread_20 : decode cX11_spread 20 = .ok (.ireturn, 1) := by decide +kernel
theorem dX11_status_0 : decode cX11_status 0 = .ok (.iload_n 1, 1) := by decide +kernel
theorem dX11_status_1 : decode cX11_status 1 = .ok (.ifCond .lt 18, 3) := by decide +kernel
theorem dX11_status_4 : decode cX11_status 4 = .ok (.iload_n 1, 1) := by decide +kernel
theorem dX11_status_5 : decode cX11_status 5 = .ok (.bipush 6, 2) := by decide +kernel
theorem dX11_status_7 : decode cX11_status 7 = .ok (.if_icmp .ge 12, 3) := by decide +kernel
theorem dX11_status_10 : decode cX11_status 10 = .ok (.aload_n 0, 1) := by decide +kernel
theorem dX11_status_11 : decode cX11_status 11 = .ok (.getfield 60, 3) := by decide +kernel
theorem dX11_status_14 : decode cX11_status 14 = .ok (.iload_n 1, 1) := by decide +kernel
theorem dX11_status_15 : decode cX11_status 15 = .ok (.iaload, 1) := by decide +kernel
theorem dX11_status_16 : decode cX11_status 16 = .ok (.goto 4, 3) := by decide +kernel
theorem dX11_status_19 : decode cX11_status 19 = .ok (.iconst (-1), 1) := by decide +kernel
theorem dX11_status_20 : decode cX11_status 20 = .ok (.ireturn, 1) := by decide +kernel
theorem dX11_total_0 : decode cX11_total 0 = .ok (.aload_n 0, 1) := by decide +kernel
theorem dX11_total_1 : decode cX11_total 1 = .ok (.getfield 79, 3) := by decide +kernel
theorem dX11_total_4 : decode cX11_total 4 = .ok (.getfield 125, 3) := by decide +kernel
theorem dX11_total_7 : decode cX11_total 7 = .ok (.astore 4, 2) := by decide +kernel
theorem dX11_total_9 : decode cX11_total 9 = .ok (.aload 4, 2) := by decide +kernel
theorem dX11_total_11 : decode cX11_total 11 = .ok (.iload_n 1, 1) := by decide +kernel
theorem dX11_total_12 : decode cX11_total 12 = .ok (.invokevirtual 161, 3) := by decide +kernel
theorem dX11_total_15 : decode cX11_total 15 = .ok (.ifCond .ne 5, 3) := by decide +kernel
theorem dX11_total_18 : decode cX11_total 18 = .ok (.iconst (-1), 1) := by decide +kernel
theorem dX11_total_19 : decode cX11_total 19 = .ok (.ireturn, 1) := by decide +kernel
theorem dX11_victim_0 : decode cX11_victim 0 = .ok (.aload_n 0, 1) := by decide +kernel
theorem dX11_victim_1 : decode cX11_victim 1 = .ok (.getfield 79, 3) := by decide +kernel
theorem dX11_victim_4 : decode cX11_victim 4 = .ok (.getfield 125, 3) := by decide +kernel
theorem dX11_victim_7 : decode cX11_victim 7 = .ok (.astore_n 2, 1) := by decide +kernel
theorem dX11_victim_8 : decode cX11_victim 8 = .ok (.iconst (-1), 1) := by decide +kernel
theorem dX11_victim_9 : decode cX11_victim 9 = .ok (.istore_n 3, 1) := by decide +kernel
theorem dX11_victim_10 : decode cX11_victim 10 = .ok (.iconst (-1), 1) := by decide +kernel
theorem dX11_victim_11 : decode cX11_victim 11 = .ok (.istore 4, 2) := by decide +kernel
theorem dX11_victim_13 : decode cX11_victim 13 = .ok (.iconst 0, 1) := by decide +kernel
theorem dX11_victim_14 : decode cX11_victim 14 = .ok (.istore 5, 2) := by decide +kernel
theorem dX11_victim_16 : decode cX11_victim 16 = .ok (.iload 5, 2) := by decide +kernel
theorem dX11_victim_18 : decode cX11_victim 18 = .ok (.bipush 8, 2) := by decide +kernel
theorem dX11_victim_20 : decode cX11_victim 20 = .ok (.if_icmp .ge 52, 3) := by decide +kernel
theorem dX11_victim_23 : decode cX11_victim 23 = .ok (.aload_n 2, 1) := by decide +kernel
theorem dX11_victim_24 : decode cX11_victim 24 = .ok (.iload 5, 2) := by decide +kernel
theorem dX11_victim_26 : decode cX11_victim 26 = .ok (.invokevirtual 161, 3) := by decide +kernel
theorem dX11_victim_29 : decode cX11_victim 29 = .ok (.ifCond .eq 20, 3) := by decide +kernel
theorem dX11_victim_49 : decode cX11_victim 49 = .ok (.iconst (-1), 1) := by decide +kernel
theorem dX11_victim_50 : decode cX11_victim 50 = .ok (.istore 6, 2) := by decide +kernel
theorem dX11_victim_52 : decode cX11_victim 52 = .ok (.iload 6, 2) := by decide +kernel
theorem dX11_victim_54 : decode cX11_victim 54 = .ok (.iload 4, 2) := by decide +kernel
theorem dX11_victim_56 : decode cX11_victim 56 = .ok (.if_icmp .le 10, 3) := by decide +kernel
theorem dX11_victim_66 : decode cX11_victim 66 = .ok (.iinc 5 1, 3) := by decide +kernel
theorem dX11_victim_69 : decode cX11_victim 69 = .ok (.goto (-53), 3) := by decide +kernel
theorem dX11_victim_72 : decode cX11_victim 72 = .ok (.iload_n 1, 1) := by decide +kernel
theorem dX11_victim_73 : decode cX11_victim 73 = .ok (.iload_n 3, 1) := by decide +kernel
theorem dX11_victim_74 : decode cX11_victim 74 = .ok (.iload 4, 2) := by decide +kernel
theorem dX11_victim_76 : decode cX11_victim 76 = .ok (.invokestatic 249, 3) := by decide +kernel
theorem dX11_victim_79 : decode cX11_victim 79 = .ok (.ireturn, 1) := by decide +kernel
theorem dX11_volume_0 : decode cX11_volume 0 = .ok (.aload_n 0, 1) := by decide +kernel
theorem dX11_volume_1 : decode cX11_volume 1 = .ok (.getfield 79, 3) := by decide +kernel
theorem dX11_volume_4 : decode cX11_volume 4 = .ok (.getfield 125, 3) := by decide +kernel
theorem dX11_volume_7 : decode cX11_volume 7 = .ok (.astore_n 3, 1) := by decide +kernel
theorem dX11_volume_8 : decode cX11_volume 8 = .ok (.aload_n 3, 1) := by decide +kernel
theorem dX11_volume_9 : decode cX11_volume 9 = .ok (.iload_n 1, 1) := by decide +kernel
theorem dX11_volume_10 : decode cX11_volume 10 = .ok (.invokevirtual 161, 3) := by decide +kernel
theorem dX11_volume_13 : decode cX11_volume 13 = .ok (.ifCond .ne 5, 3) := by decide +kernel
theorem dX11_volume_16 : decode cX11_volume 16 = .ok (.iconst (-1), 1) := by decide +kernel
theorem dX11_volume_17 : decode cX11_volume 17 = .ok (.ireturn, 1) := by decide +kernel
theorem dX11_writes_0 : decode cX11_writes 0 = .ok (.aload_n 0, 1) := by decide +kernel
theorem dX11_writes_1 : decode cX11_writes 1 = .ok (.getfield 79, 3) := by decide +kernel
theorem dX11_writes_4 : decode cX11_writes 4 = .ok (.getfield 125, 3) := by decide +kernel
theorem dX11_writes_7 : decode cX11_writes 7 = .ok (.iload_n 1, 1) := by decide +kernel
theorem dX11_writes_8 : decode cX11_writes 8 = .ok (.invokevirtual 161, 3) := by decide +kernel
theorem dX11_writes_11 : decode cX11_writes 11 = .ok (.ifCond .eq 10, 3) := by decide +kernel
theorem dX11_writes_21 : decode cX11_writes 21 = .ok (.iconst (-1), 1) := by decide +kernel
theorem dX11_writes_22 : decode cX11_writes 22 = .ok (.ireturn, 1) := by decide +kernel
set_option maxHeartbeats 4000000 in
set_option maxRecDepth 100000 in
theorem k_X11_status (l : Launch) (D : va_G) (a : Nat → Nat) (p0 : Int32) : Met l yX11_status (wz yX11_status cX11_status 2 (some .int)) { frames := 0, cells := 0, slots := 0, locals := 0 } (va_Pc [.ref (a 0), .int p0] (zP D [((a 0), .inr (11, [.ref (a 1), .ref (a 2), .ref (a 3), .ref (a 4), .ref (a 5), .ref (a 6), .ref (a 7), .ref (a 8), .ref (a 9), .ref (a 10), .ref (a 11), .ref (a 12), .int 0])), ((a 9), .inl (D.1 13, 6, .inl (fun _ => 0)))])) (va_Qi (fun r (_ : Unit) => (r = (-1) ∧ p0.toInt < 0) ∨ (r = (-1) ∧ 0 ≤ p0.toInt ∧ 6 ≤ p0.toInt) ∨ (r = 0 ∧ 0 ≤ p0.toInt ∧ p0.toInt < 6)) (fun _ _ => True) (fun _ => False)) 0 0 (fun _ => False) := by
  refine Met.ofW (cc := cX11_status) (maxL := 2) (ret := (some .int)) (by decide) rfl ?_
  intro p e s m args below meth c s₁ B hml hv
  obtain ⟨rfl, hP, hK⟩ := hv
  have hx := B.exec
  have hb := B.bytes
  have hr := B.returns
  have hts := atoms_spec (ws := wz yX11_status cX11_status 2 (some .int)) B.pre
  have ht : ∀ w ∈ lw_gd, w.before _ s = true := fun w h => hts w (List.mem_cons_of_mem _ h)
  have hown : s.vm.findClass RX11 = some m.cls := findClass_of_methodNamed B.named
  have hlocks := B.notSynchronized
  have hS : va_S (fun _ => False) s.heap s.heap [] := va_S.rf
  have hl := lv_entry ([.ref (a 0), .int p0]) (n := 2) (Nat.le_of_ble_eq_true rfl)
  rw [lg_entry_eq]
  generalize (lg_sl ([.ref (a 0), .int p0]) ++ List.replicate (2 - (lg_sl ([.ref (a 0), .int p0])).length) Slot.unset).toArray = ls at hl ⊢
  have hl : lv_has ls 2 [(0, .ref (a 0)), (1, .int p0)] := hl
  refine lv_iload_n hx hb dX11_status_0 rfl (lv_at hl 1 rfl) ?_
  refine lv_if_lt (tgt := 19) hx hb dX11_status_1 (by decide) (fun c_1 => ?_) (fun c_1 => ?_)
  · have g_2 : p0.toInt < 0 := z_lt rfl (by decide) c_1
    refine lv_iconst (v := (-1)) hx hb dX11_status_19 (by decide) ?_
    exact W.iret (v := (-1)) hx hb hr (fun t ht hW => ⟨⟨(-1), (), rfl, Or.inl (⟨rfl, zu_lt rfl (by decide) g_2⟩), trivial⟩, hS.F ht⟩) hS.2.2 dX11_status_20
  · have g_2 : 0 ≤ p0.toInt := z_nlt rfl (by decide) c_1
    refine lv_iload_n hx hb dX11_status_4 rfl (lv_at hl 1 rfl) ?_
    refine lv_bipush (v := 6) hx hb dX11_status_5 (by decide) ?_
    refine lv_icmp_ge (tgt := 19) hx hb dX11_status_7 (by decide) (fun c_3 => ?_) (fun c_3 => ?_)
    · have g_4 : 6 ≤ p0.toInt := z_le (by decide) rfl c_3
      refine lv_iconst (v := (-1)) hx hb dX11_status_19 (by decide) ?_
      exact W.iret (v := (-1)) hx hb hr (fun t ht hW => ⟨⟨(-1), (), rfl, Or.inr (Or.inl (⟨rfl, zu_ge rfl (by decide) g_2, zu_ge rfl (by decide) g_4⟩)), trivial⟩, hS.F ht⟩) hS.2.2 dX11_status_20
    · have g_4 : p0.toInt < 6 := z_nle (by decide) rfl c_3
      refine lv_aload_n hx hb dX11_status_10 rfl (lv_at hl 0 rfl) ?_
      refine va_get (D := D) (ci := 11) (v := .ref (a 9)) (C := RX11) (T := TX11) (N := 13) hx hb ht inX11 hown hK hP 0 rfl rfl 8 (by decide) (ht (.fieldLink RX11 60 "CloneVolumes" "refused" "[I") fl_X11_60) (fun _ h9 => h9) rfl dX11_status_11 ?_
      refine lv_iload_n hx hb dX11_status_14 rfl (lv_at hl 1 rfl) ?_
      refine va_iald hx hb hK hP 1 0 rfl rfl (z_in (by omega) (by omega)) dX11_status_15 ?_
      refine z_topi (y := 0) (by decide) ?_
      refine lv_goto (tgt := 20) hx hb dX11_status_16 (by decide) ?_
      exact W.iret (v := 0) hx hb hr (fun t ht hW => ⟨⟨0, (), rfl, Or.inr (Or.inr (⟨rfl, zu_ge rfl (by decide) g_2, zu_lt rfl (by decide) g_4⟩)), trivial⟩, hS.F ht⟩) hS.2.2 dX11_status_20
set_option maxHeartbeats 4000000 in
set_option maxRecDepth 100000 in
theorem k_X11_fault (l : Launch) (D : va_G) (a : Nat → Nat) (p0 : Int32) : Met l yX11_fault (wz yX11_fault cX11_fault 2 (some .int)) { frames := 0, cells := 0, slots := 0, locals := 0 } (va_Pc [.ref (a 0), .int p0] (zP D [((a 0), .inr (11, [.ref (a 1), .ref (a 2), .ref (a 3), .ref (a 4), .ref (a 5), .ref (a 6), .ref (a 7), .ref (a 8), .ref (a 9), .ref (a 10), .ref (a 11), .ref (a 12), .int 0])), ((a 2), .inr (6, [.int 0, .int (-1), .ref (a 1), .ref (a 21), .null, .int 0, .int 0, .int 0, .int 0, .int 0, .int 0, .int 0]))])) (va_Qi (fun r (_ : Unit) => (r = (-1) ∧ ¬ p0.toInt = 0 ∧ ¬ p0.toInt = 1) ∨ (r = (-1) ∧ ¬ p0.toInt = 0 ∧ p0.toInt = 1) ∨ (r = 0 ∧ p0.toInt = 0)) (fun _ _ => True) (fun _ => False)) 0 0 (fun _ => False) := by
  refine Met.ofW (cc := cX11_fault) (maxL := 2) (ret := (some .int)) (by decide) rfl ?_
  intro p e s m args below meth c s₁ B hml hv
  obtain ⟨rfl, hP, hK⟩ := hv
  have hx := B.exec
  have hb := B.bytes
  have hr := B.returns
  have hts := atoms_spec (ws := wz yX11_fault cX11_fault 2 (some .int)) B.pre
  have ht : ∀ w ∈ lw_gd, w.before _ s = true := fun w h => hts w (List.mem_cons_of_mem _ h)
  have hown : s.vm.findClass RX11 = some m.cls := findClass_of_methodNamed B.named
  have hlocks := B.notSynchronized
  have hS : va_S (fun _ => False) s.heap s.heap [] := va_S.rf
  have hl := lv_entry ([.ref (a 0), .int p0]) (n := 2) (Nat.le_of_ble_eq_true rfl)
  rw [lg_entry_eq]
  generalize (lg_sl ([.ref (a 0), .int p0]) ++ List.replicate (2 - (lg_sl ([.ref (a 0), .int p0])).length) Slot.unset).toArray = ls at hl ⊢
  have hl : lv_has ls 2 [(0, .ref (a 0)), (1, .int p0)] := hl
  refine lv_iload_n hx hb dX11_fault_0 rfl (lv_at hl 1 rfl) ?_
  refine lv_if_ne (tgt := 12) hx hb dX11_fault_1 (by decide) (fun c_1 => ?_) (fun c_1 => ?_)
  · have g_2 : ¬ p0.toInt = 0 := z_ne rfl (by decide) c_1
    refine lv_iload_n hx hb dX11_fault_12 rfl (lv_at hl 1 rfl) ?_
    refine lv_iconst (v := 1) hx hb dX11_fault_13 (by decide) ?_
    refine lv_icmp_ne (tgt := 37) hx hb dX11_fault_14 (by decide) (fun c_3 => ?_) (fun c_3 => ?_)
    · have g_4 : ¬ p0.toInt = 1 := z_ne rfl (by decide) c_3
      refine lv_iconst (v := (-1)) hx hb dX11_fault_37 (by decide) ?_
      exact W.iret (v := (-1)) hx hb hr (fun t ht hW => ⟨⟨(-1), (), rfl, Or.inl (⟨rfl, zu_ne rfl (by decide) g_2, zu_ne rfl (by decide) g_4⟩), trivial⟩, hS.F ht⟩) hS.2.2 dX11_fault_38
    · have g_4 : p0.toInt = 1 := z_eq rfl (by decide) c_3
      refine lv_aload_n hx hb dX11_fault_17 rfl (lv_at hl 0 rfl) ?_
      refine va_get (D := D) (ci := 11) (v := .ref (a 2)) (C := RX11) (T := TX11) (N := 13) hx hb ht inX11 hown hK hP 0 rfl rfl 1 (by decide) (ht (.fieldLink RX11 21 "CloneVolumes" "reader" "LCloneVolumes$Reader;") fl_X11_21) (fun _ h9 => h9) rfl dX11_fault_18 ?_
      refine va_get (D := D) (ci := 6) (v := .int 0) (C := RX6) (T := TX6) (N := 12) hx hb ht inX6 hown hK hP 1 rfl rfl 0 (by decide) (ht (.fieldLink RX11 119 "CloneVolumes$Reader" "fault" "I") fl_X11_119) (fun _ h9 => h9) rfl dX11_fault_21 ?_
      refine lv_if_eq (tgt := 37) hx hb dX11_fault_24 (by decide) (fun _ => ?_) (fun c_5 => (z_abs c_5 (by decide)).elim)
      refine lv_iconst (v := (-1)) hx hb dX11_fault_37 (by decide) ?_
      exact W.iret (v := (-1)) hx hb hr (fun t ht hW => ⟨⟨(-1), (), rfl, Or.inr (Or.inl (⟨rfl, zu_ne rfl (by decide) g_2, zu_eq rfl (by decide) g_4⟩)), trivial⟩, hS.F ht⟩) hS.2.2 dX11_fault_38
  · have g_2 : p0.toInt = 0 := z_eq rfl (by decide) c_1
    refine lv_aload_n hx hb dX11_fault_4 rfl (lv_at hl 0 rfl) ?_
    refine va_get (D := D) (ci := 11) (v := .ref (a 2)) (C := RX11) (T := TX11) (N := 13) hx hb ht inX11 hown hK hP 0 rfl rfl 1 (by decide) (ht (.fieldLink RX11 21 "CloneVolumes" "reader" "LCloneVolumes$Reader;") fl_X11_21) (fun _ h9 => h9) rfl dX11_fault_5 ?_
    refine va_get (D := D) (ci := 6) (v := .int 0) (C := RX6) (T := TX6) (N := 12) hx hb ht inX6 hown hK hP 1 rfl rfl 0 (by decide) (ht (.fieldLink RX11 119 "CloneVolumes$Reader" "fault" "I") fl_X11_119) (fun _ h9 => h9) rfl dX11_fault_8 ?_
    exact W.iret (v := 0) hx hb hr (fun t ht hW => ⟨⟨0, (), rfl, Or.inr (Or.inr (⟨rfl, zu_eq rfl (by decide) g_2⟩)), trivial⟩, hS.F ht⟩) hS.2.2 dX11_fault_11
set_option maxHeartbeats 4000000 in
set_option maxRecDepth 100000 in
theorem k_X11_letter (l : Launch) (D : va_G) (a : Nat → Nat) (p0 : Int32) (p1 : Int32) : Met l yX11_letter (wz yX11_letter cX11_letter 3 (some .int)) { frames := 0, cells := 0, slots := 0, locals := 0 } (va_Pc [.ref (a 0), .int p0, .int p1] (zP D [((a 0), .inr (11, [.ref (a 1), .ref (a 2), .ref (a 3), .ref (a 4), .ref (a 5), .ref (a 6), .ref (a 7), .ref (a 8), .ref (a 9), .ref (a 10), .ref (a 11), .ref (a 12), .int 0]))])) (va_Qi (fun r (_ : Unit) => r = (-1)) (fun _ _ => True) (fun _ => False)) 0 0 (fun _ => False) := by
  refine Met.ofW (cc := cX11_letter) (maxL := 3) (ret := (some .int)) (by decide) rfl ?_
  intro p e s m args below meth c s₁ B hml hv
  obtain ⟨rfl, hP, hK⟩ := hv
  have hx := B.exec
  have hb := B.bytes
  have hr := B.returns
  have hts := atoms_spec (ws := wz yX11_letter cX11_letter 3 (some .int)) B.pre
  have ht : ∀ w ∈ lw_gd, w.before _ s = true := fun w h => hts w (List.mem_cons_of_mem _ h)
  have hown : s.vm.findClass RX11 = some m.cls := findClass_of_methodNamed B.named
  have hlocks := B.notSynchronized
  have hS : va_S (fun _ => False) s.heap s.heap [] := va_S.rf
  have hl := lv_entry ([.ref (a 0), .int p0, .int p1]) (n := 3) (Nat.le_of_ble_eq_true rfl)
  rw [lg_entry_eq]
  generalize (lg_sl ([.ref (a 0), .int p0, .int p1]) ++ List.replicate (3 - (lg_sl ([.ref (a 0), .int p0, .int p1])).length) Slot.unset).toArray = ls at hl ⊢
  have hl : lv_has ls 3 [(0, .ref (a 0)), (1, .int p0), (2, .int p1)] := hl
  refine lv_aload_n hx hb dX11_letter_0 rfl (lv_at hl 0 rfl) ?_
  refine va_get (D := D) (ci := 11) (v := .int 0) (C := RX11) (T := TX11) (N := 13) hx hb ht inX11 hown hK hP 0 rfl rfl 12 (by decide) (ht (.fieldLink RX11 112 "CloneVolumes" "told" "Z") fl_X11_112) (fun _ h9 => h9) rfl dX11_letter_1 ?_
  refine lv_if_eq (tgt := 32) hx hb dX11_letter_4 (by decide) (fun _ => ?_) (fun c_1 => (z_abs c_1 (by decide)).elim)
  refine lv_iconst (v := (-1)) hx hb dX11_letter_32 (by decide) ?_
  exact W.iret (v := (-1)) hx hb hr (fun t ht hW => ⟨⟨(-1), (), rfl, rfl, trivial⟩, hS.F ht⟩) hS.2.2 dX11_letter_33
set_option maxHeartbeats 4000000 in
set_option maxRecDepth 100000 in
theorem k_X11_volume (l : Launch) (D : va_G) (a : Nat → Nat) (p0 : Int32) (p1 : Int32) : Met l yX11_volume (wz yX11_volume cX11_volume 5 (some .int)) { frames := 1, cells := 0, slots := 0, locals := 60 } (va_Pc [.ref (a 0), .int p0, .int p1] (zP D [((a 0), .inr (11, [.ref (a 1), .ref (a 2), .ref (a 3), .ref (a 4), .ref (a 5), .ref (a 6), .ref (a 7), .ref (a 8), .ref (a 9), .ref (a 10), .ref (a 11), .ref (a 12), .int 0])), ((a 12), .inr (1, [.ref (a 13), .ref (a 14), .ref (a 15), .int 1, .ref (a 10), .ref (a 16), .ref (a 17), .ref (a 18), .ref (a 19)])), ((a 13), .inr (8, [.int 0, .int 0, .long 0, .ref (a 60), .ref (a 61), .ref (a 62), .ref (a 63), .ref (a 64), .ref (a 65), .ref (a 66), .ref (a 67)])), ((a 66), .inl (D.1 13, 8, .inl (fun _ => (-2))))])) (va_Qi (fun r (_ : Unit) => r = (-1)) (fun _ _ => True) (fun _ => False)) 0 0 (fun _ => False) := by
  refine Met.ofW (cc := cX11_volume) (maxL := 5) (ret := (some .int)) (by decide) rfl ?_
  intro p e s m args below meth c s₁ B hml hv
  obtain ⟨rfl, hP, hK⟩ := hv
  have hx := B.exec
  have hb := B.bytes
  have hr := B.returns
  have hts := atoms_spec (ws := wz yX11_volume cX11_volume 5 (some .int)) B.pre
  have ht : ∀ w ∈ lw_gd, w.before _ s = true := fun w h => hts w (List.mem_cons_of_mem _ h)
  have hown : s.vm.findClass RX11 = some m.cls := findClass_of_methodNamed B.named
  have hlocks := B.notSynchronized
  have hS : va_S (fun _ => False) s.heap s.heap [] := va_S.rf
  have hl := lv_entry ([.ref (a 0), .int p0, .int p1]) (n := 5) (Nat.le_of_ble_eq_true rfl)
  rw [lg_entry_eq]
  generalize (lg_sl ([.ref (a 0), .int p0, .int p1]) ++ List.replicate (5 - (lg_sl ([.ref (a 0), .int p0, .int p1])).length) Slot.unset).toArray = ls at hl ⊢
  have hl : lv_has ls 5 [(0, .ref (a 0)), (1, .int p0), (2, .int p1)] := hl
  refine lv_aload_n hx hb dX11_volume_0 rfl (lv_at hl 0 rfl) ?_
  refine va_get (D := D) (ci := 11) (v := .ref (a 12)) (C := RX11) (T := TX11) (N := 13) hx hb ht inX11 hown hK hP 0 rfl rfl 11 (by decide) (ht (.fieldLink RX11 79 "CloneVolumes" "forest" "LCloneVolumes$Forest;") fl_X11_79) (fun _ h9 => h9) rfl dX11_volume_1 ?_
  refine va_get (D := D) (ci := 1) (v := .ref (a 13)) (C := RX1) (T := TX1) (N := 9) hx hb ht inX1 hown hK hP 1 rfl rfl 0 (by decide) (ht (.fieldLink RX11 125 "CloneVolumes$Forest" "now" "LCloneVolumes$State;") fl_X11_125) (fun _ h9 => h9) rfl dX11_volume_4 ?_
  refine lv_astore_n (lv' := [(3, .ref (a 13)), (0, .ref (a 0)), (1, .int p0), (2, .int p1)]) hx hb dX11_volume_7 rfl hl (by decide) rfl (fun ls hl => ?_)
  refine lv_aload_n hx hb dX11_volume_8 rfl (lv_at hl 0 rfl) ?_
  refine lv_iload_n hx hb dX11_volume_9 rfl (lv_at hl 2 rfl) ?_
  refine zcV (As := [.int p0]) (rest := []) (C := RX8) (n := 1) ⟨hx, hb, hml, hown, ht⟩ (k_X8_isVolume l D a p0) (zgV ml_X11_161 im_X8_isVolume se_X8_isVolume in_X8 co_X8_isVolume) rfl rfl (by decide +kernel) ⟨Nat.le_of_ble_eq_true rfl, Nat.le_of_ble_eq_true rfl⟩ hK hP hS [2, 3] rfl 0 rfl rfl rfl rfl hl.1 rfl (Nat.le_of_ble_eq_true rfl) dX11_volume_10 ⟨Nat.le_of_ble_eq_true rfl, Nat.le_of_ble_eq_true rfl⟩ (fun r_1 H locs hw hP hS => ?_)
  subst hw
  refine lv_if_ne (tgt := 18) hx hb dX11_volume_13 (by decide) (fun c_2 => (z_abs c_2 (by decide)).elim) (fun _ => ?_)
  refine lv_iconst (v := (-1)) hx hb dX11_volume_16 (by decide) ?_
  exact W.iret (v := (-1)) hx hb hr (fun t ht hW => ⟨⟨(-1), (), rfl, rfl, trivial⟩, hS.F ht⟩) hS.2.2 dX11_volume_17
set_option maxHeartbeats 4000000 in
set_option maxRecDepth 100000 in
theorem k_X11_block (l : Launch) (D : va_G) (a : Nat → Nat) (p0 : Int32) (p1 : Int32) : Met l yX11_block (wz yX11_block cX11_block 4 (some .int)) { frames := 1, cells := 0, slots := 0, locals := 60 } (va_Pc [.ref (a 0), .int p0, .int p1] (zP D [((a 0), .inr (11, [.ref (a 1), .ref (a 2), .ref (a 3), .ref (a 4), .ref (a 5), .ref (a 6), .ref (a 7), .ref (a 8), .ref (a 9), .ref (a 10), .ref (a 11), .ref (a 12), .int 0])), ((a 12), .inr (1, [.ref (a 13), .ref (a 14), .ref (a 15), .int 1, .ref (a 10), .ref (a 16), .ref (a 17), .ref (a 18), .ref (a 19)])), ((a 13), .inr (8, [.int 0, .int 0, .long 0, .ref (a 60), .ref (a 61), .ref (a 62), .ref (a 63), .ref (a 64), .ref (a 65), .ref (a 66), .ref (a 67)]))])) (va_Qi (fun r (_ : Unit) => r = (-1)) (fun _ _ => True) (fun _ => False)) 0 0 (fun _ => False) := by
  refine Met.ofW (cc := cX11_block) (maxL := 4) (ret := (some .int)) (by decide) rfl ?_
  intro p e s m args below meth c s₁ B hml hv
  obtain ⟨rfl, hP, hK⟩ := hv
  have hx := B.exec
  have hb := B.bytes
  have hr := B.returns
  have hts := atoms_spec (ws := wz yX11_block cX11_block 4 (some .int)) B.pre
  have ht : ∀ w ∈ lw_gd, w.before _ s = true := fun w h => hts w (List.mem_cons_of_mem _ h)
  have hown : s.vm.findClass RX11 = some m.cls := findClass_of_methodNamed B.named
  have hlocks := B.notSynchronized
  have hS : va_S (fun _ => False) s.heap s.heap [] := va_S.rf
  have hl := lv_entry ([.ref (a 0), .int p0, .int p1]) (n := 4) (Nat.le_of_ble_eq_true rfl)
  rw [lg_entry_eq]
  generalize (lg_sl ([.ref (a 0), .int p0, .int p1]) ++ List.replicate (4 - (lg_sl ([.ref (a 0), .int p0, .int p1])).length) Slot.unset).toArray = ls at hl ⊢
  have hl : lv_has ls 4 [(0, .ref (a 0)), (1, .int p0), (2, .int p1)] := hl
  refine lv_aload_n hx hb dX11_block_0 rfl (lv_at hl 0 rfl) ?_
  refine va_get (D := D) (ci := 11) (v := .ref (a 12)) (C := RX11) (T := TX11) (N := 13) hx hb ht inX11 hown hK hP 0 rfl rfl 11 (by decide) (ht (.fieldLink RX11 79 "CloneVolumes" "forest" "LCloneVolumes$Forest;") fl_X11_79) (fun _ h9 => h9) rfl dX11_block_1 ?_
  refine va_get (D := D) (ci := 1) (v := .ref (a 13)) (C := RX1) (T := TX1) (N := 9) hx hb ht inX1 hown hK hP 1 rfl rfl 0 (by decide) (ht (.fieldLink RX11 125 "CloneVolumes$Forest" "now" "LCloneVolumes$State;") fl_X11_125) (fun _ h9 => h9) rfl dX11_block_4 ?_
  refine lv_astore_n (lv' := [(3, .ref (a 13)), (0, .ref (a 0)), (1, .int p0), (2, .int p1)]) hx hb dX11_block_7 rfl hl (by decide) rfl (fun ls hl => ?_)
  refine lv_aload_n hx hb dX11_block_8 rfl (lv_at hl 0 rfl) ?_
  refine lv_iload_n hx hb dX11_block_9 rfl (lv_at hl 2 rfl) ?_
  refine zcV (As := [.int p0]) (rest := []) (C := RX8) (n := 1) ⟨hx, hb, hml, hown, ht⟩ (k_X8_isBlock l D a p0) (zgV ml_X11_188 im_X8_isBlock se_X8_isBlock in_X8 co_X8_isBlock) rfl rfl (by decide +kernel) ⟨Nat.le_of_ble_eq_true rfl, Nat.le_of_ble_eq_true rfl⟩ hK hP hS [2] rfl 0 rfl rfl rfl rfl hl.1 rfl (Nat.le_of_ble_eq_true rfl) dX11_block_10 ⟨Nat.le_of_ble_eq_true rfl, Nat.le_of_ble_eq_true rfl⟩ (fun r_1 H locs hw hP hS => ?_)
  subst hw
  refine lv_if_ne (tgt := 18) hx hb dX11_block_13 (by decide) (fun c_2 => (z_abs c_2 (by decide)).elim) (fun _ => ?_)
  refine lv_iconst (v := (-1)) hx hb dX11_block_16 (by decide) ?_
  exact W.iret (v := (-1)) hx hb hr (fun t ht hW => ⟨⟨(-1), (), rfl, rfl, trivial⟩, hS.F ht⟩) hS.2.2 dX11_block_17
set_option maxHeartbeats 4000000 in
set_option maxRecDepth 100000 in
theorem k_X11_entry (l : Launch) (D : va_G) (a : Nat → Nat) (p0 : Int32) (p1 : Int32) (p2 : Int32) : Met l yX11_entry (wz yX11_entry cX11_entry 6 (some .int)) { frames := 1, cells := 0, slots := 0, locals := 60 } (va_Pc [.ref (a 0), .int p0, .int p1, .int p2] (zP D [((a 0), .inr (11, [.ref (a 1), .ref (a 2), .ref (a 3), .ref (a 4), .ref (a 5), .ref (a 6), .ref (a 7), .ref (a 8), .ref (a 9), .ref (a 10), .ref (a 11), .ref (a 12), .int 0])), ((a 12), .inr (1, [.ref (a 13), .ref (a 14), .ref (a 15), .int 1, .ref (a 10), .ref (a 16), .ref (a 17), .ref (a 18), .ref (a 19)])), ((a 13), .inr (8, [.int 0, .int 0, .long 0, .ref (a 60), .ref (a 61), .ref (a 62), .ref (a 63), .ref (a 64), .ref (a 65), .ref (a 66), .ref (a 67)]))])) (va_Qi (fun r (_ : Unit) => r = (-1)) (fun _ _ => True) (fun _ => False)) 0 0 (fun _ => False) := by
  refine Met.ofW (cc := cX11_entry) (maxL := 6) (ret := (some .int)) (by decide) rfl ?_
  intro p e s m args below meth c s₁ B hml hv
  obtain ⟨rfl, hP, hK⟩ := hv
  have hx := B.exec
  have hb := B.bytes
  have hr := B.returns
  have hts := atoms_spec (ws := wz yX11_entry cX11_entry 6 (some .int)) B.pre
  have ht : ∀ w ∈ lw_gd, w.before _ s = true := fun w h => hts w (List.mem_cons_of_mem _ h)
  have hown : s.vm.findClass RX11 = some m.cls := findClass_of_methodNamed B.named
  have hlocks := B.notSynchronized
  have hS : va_S (fun _ => False) s.heap s.heap [] := va_S.rf
  have hl := lv_entry ([.ref (a 0), .int p0, .int p1, .int p2]) (n := 6) (Nat.le_of_ble_eq_true rfl)
  rw [lg_entry_eq]
  generalize (lg_sl ([.ref (a 0), .int p0, .int p1, .int p2]) ++ List.replicate (6 - (lg_sl ([.ref (a 0), .int p0, .int p1, .int p2])).length) Slot.unset).toArray = ls at hl ⊢
  have hl : lv_has ls 6 [(0, .ref (a 0)), (1, .int p0), (2, .int p1), (3, .int p2)] := hl
  refine lv_aload_n hx hb dX11_entry_0 rfl (lv_at hl 0 rfl) ?_
  refine va_get (D := D) (ci := 11) (v := .ref (a 12)) (C := RX11) (T := TX11) (N := 13) hx hb ht inX11 hown hK hP 0 rfl rfl 11 (by decide) (ht (.fieldLink RX11 79 "CloneVolumes" "forest" "LCloneVolumes$Forest;") fl_X11_79) (fun _ h9 => h9) rfl dX11_entry_1 ?_
  refine va_get (D := D) (ci := 1) (v := .ref (a 13)) (C := RX1) (T := TX1) (N := 9) hx hb ht inX1 hown hK hP 1 rfl rfl 0 (by decide) (ht (.fieldLink RX11 125 "CloneVolumes$Forest" "now" "LCloneVolumes$State;") fl_X11_125) (fun _ h9 => h9) rfl dX11_entry_4 ?_
  refine lv_astore (lv' := [(4, .ref (a 13)), (0, .ref (a 0)), (1, .int p0), (2, .int p1), (3, .int p2)]) hx hb dX11_entry_7 hl (by decide) rfl (fun ls hl => ?_)
  refine lv_aload hx hb dX11_entry_9 (lv_at hl 0 rfl) ?_
  refine lv_iload_n hx hb dX11_entry_11 rfl (lv_at hl 2 rfl) ?_
  refine zcV (As := [.int p0]) (rest := []) (C := RX8) (n := 1) ⟨hx, hb, hml, hown, ht⟩ (k_X8_isBlock l D a p0) (zgV ml_X11_188 im_X8_isBlock se_X8_isBlock in_X8 co_X8_isBlock) rfl rfl (by decide +kernel) ⟨Nat.le_of_ble_eq_true rfl, Nat.le_of_ble_eq_true rfl⟩ hK hP hS [2] rfl 0 rfl rfl rfl rfl hl.1 rfl (Nat.le_of_ble_eq_true rfl) dX11_entry_12 ⟨Nat.le_of_ble_eq_true rfl, Nat.le_of_ble_eq_true rfl⟩ (fun r_1 H locs hw hP hS => ?_)
  subst hw
  refine lv_if_eq (tgt := 32) hx hb dX11_entry_15 (by decide) (fun _ => ?_) (fun c_2 => (z_abs c_2 (by decide)).elim)
  refine lv_iconst (v := (-1)) hx hb dX11_entry_32 (by decide) ?_
  exact W.iret (v := (-1)) hx hb hr (fun t ht hW => ⟨⟨(-1), (), rfl, rfl, trivial⟩, hS.F ht⟩) hS.2.2 dX11_entry_33
set_option maxHeartbeats 4000000 in
set_option maxRecDepth 100000 in
theorem k_X11_kept (l : Launch) (D : va_G) (a : Nat → Nat) (p0 : Int32) (p1 : Int32) : Met l yX11_kept (wz yX11_kept cX11_kept 3 (some .int)) { frames := 3, cells := 0, slots := 0, locals := 180 } (va_Pc [.ref (a 0), .int p0, .int p1] (zP D [((a 0), .inr (11, [.ref (a 1), .ref (a 2), .ref (a 3), .ref (a 4), .ref (a 5), .ref (a 6), .ref (a 7), .ref (a 8), .ref (a 9), .ref (a 10), .ref (a 11), .ref (a 12), .int 0])), ((a 3), .inr (2, [.ref (a 22), .ref (a 23), .ref (a 24), .int 0, .ref (a 25), .int 0]))])) (va_Qi (fun r (_ : Unit) => r = (-1)) (fun _ _ => True) (fun _ => False)) 0 0 (fun _ => False) := by
  refine Met.ofW (cc := cX11_kept) (maxL := 3) (ret := (some .int)) (by decide) rfl ?_
  intro p e s m args below meth c s₁ B hml hv
  obtain ⟨rfl, hP, hK⟩ := hv
  have hx := B.exec
  have hb := B.bytes
  have hr := B.returns
  have hts := atoms_spec (ws := wz yX11_kept cX11_kept 3 (some .int)) B.pre
  have ht : ∀ w ∈ lw_gd, w.before _ s = true := fun w h => hts w (List.mem_cons_of_mem _ h)
  have hown : s.vm.findClass RX11 = some m.cls := findClass_of_methodNamed B.named
  have hlocks := B.notSynchronized
  have hS : va_S (fun _ => False) s.heap s.heap [] := va_S.rf
  have hl := lv_entry ([.ref (a 0), .int p0, .int p1]) (n := 3) (Nat.le_of_ble_eq_true rfl)
  rw [lg_entry_eq]
  generalize (lg_sl ([.ref (a 0), .int p0, .int p1]) ++ List.replicate (3 - (lg_sl ([.ref (a 0), .int p0, .int p1])).length) Slot.unset).toArray = ls at hl ⊢
  have hl : lv_has ls 3 [(0, .ref (a 0)), (1, .int p0), (2, .int p1)] := hl
  refine lv_aload_n hx hb dX11_kept_0 rfl (lv_at hl 0 rfl) ?_
  refine va_get (D := D) (ci := 11) (v := .ref (a 3)) (C := RX11) (T := TX11) (N := 13) hx hb ht inX11 hown hK hP 0 rfl rfl 2 (by decide) (ht (.fieldLink RX11 28 "CloneVolumes" "history" "LCloneVolumes$History;") fl_X11_28) (fun _ h9 => h9) rfl dX11_kept_1 ?_
  refine lv_iload_n hx hb dX11_kept_4 rfl (lv_at hl 1 rfl) ?_
  refine lv_iload_n hx hb dX11_kept_5 rfl (lv_at hl 2 rfl) ?_
  refine zcV (As := [.int p0, .int p1]) (rest := []) (C := RX2) (n := 2) ⟨hx, hb, hml, hown, ht⟩ (k_X2_toldOf l D a p0 p1) (zgV ml_X11_219 im_X2_toldOf se_X2_toldOf in_X2 co_X2_toldOf) rfl rfl (by decide +kernel) ⟨Nat.le_of_ble_eq_true rfl, Nat.le_of_ble_eq_true rfl⟩ hK hP hS [1] rfl 0 rfl rfl rfl rfl hl.1 rfl (Nat.le_of_ble_eq_true rfl) dX11_kept_6 ⟨Nat.le_of_ble_eq_true rfl, Nat.le_of_ble_eq_true rfl⟩ (fun r_1 H locs hw hP hS => ?_)
  subst hw
  exact W.iret (v := (-1)) hx hb hr (fun t ht hW => ⟨⟨(-1), (), rfl, rfl, trivial⟩, hS.F ht⟩) hS.2.2 dX11_kept_9
set_option maxHeartbeats 4000000 in
set_option maxRecDepth 100000 in
theorem k_X11_read (l : Launch) (D : va_G) (a : Nat → Nat) (p0 : Int32) (p1 : Int32) : Met l yX11_read (wz yX11_read cX11_read 3 (some .int)) { frames := 1, cells := 0, slots := 0, locals := 60 } (va_Pc [.ref (a 0), .int p0, .int p1] (zP D [((a 0), .inr (11, [.ref (a 1), .ref (a 2), .ref (a 3), .ref (a 4), .ref (a 5), .ref (a 6), .ref (a 7), .ref (a 8), .ref (a 9), .ref (a 10), .ref (a 11), .ref (a 12), .int 0])), ((a 12), .inr (1, [.ref (a 13), .ref (a 14), .ref (a 15), .int 1, .ref (a 10), .ref (a 16), .ref (a 17), .ref (a 18), .ref (a 19)])), ((a 13), .inr (8, [.int 0, .int 0, .long 0, .ref (a 60), .ref (a 61), .ref (a 62), .ref (a 63), .ref (a 64), .ref (a 65), .ref (a 66), .ref (a 67)])), ((a 66), .inl (D.1 13, 8, .inl (fun _ => (-2))))])) (va_Qi (fun r (_ : Unit) => r = (-1)) (fun _ _ => True) (fun _ => False)) 0 0 (fun _ => False) := by
  refine Met.ofW (cc := cX11_read) (maxL := 3) (ret := (some .int)) (by decide) rfl ?_
  intro p e s m args below meth c s₁ B hml hv
  obtain ⟨rfl, hP, hK⟩ := hv
  have hx := B.exec
  have hb := B.bytes
  have hr := B.returns
  have hts := atoms_spec (ws := wz yX11_read cX11_read 3 (some .int)) B.pre
  have ht : ∀ w ∈ lw_gd, w.before _ s = true := fun w h => hts w (List.mem_cons_of_mem _ h)
  have hown : s.vm.findClass RX11 = some m.cls := findClass_of_methodNamed B.named
  have hlocks := B.notSynchronized
  have hS : va_S (fun _ => False) s.heap s.heap [] := va_S.rf
  have hl := lv_entry ([.ref (a 0), .int p0, .int p1]) (n := 3) (Nat.le_of_ble_eq_true rfl)
  rw [lg_entry_eq]
  generalize (lg_sl ([.ref (a 0), .int p0, .int p1]) ++ List.replicate (3 - (lg_sl ([.ref (a 0), .int p0, .int p1])).length) Slot.unset).toArray = ls at hl ⊢
  have hl : lv_has ls 3 [(0, .ref (a 0)), (1, .int p0), (2, .int p1)] := hl
  refine lv_aload_n hx hb dX11_read_0 rfl (lv_at hl 0 rfl) ?_
  refine va_get (D := D) (ci := 11) (v := .ref (a 12)) (C := RX11) (T := TX11) (N := 13) hx hb ht inX11 hown hK hP 0 rfl rfl 11 (by decide) (ht (.fieldLink RX11 79 "CloneVolumes" "forest" "LCloneVolumes$Forest;") fl_X11_79) (fun _ h9 => h9) rfl dX11_read_1 ?_
  refine va_get (D := D) (ci := 1) (v := .ref (a 13)) (C := RX1) (T := TX1) (N := 9) hx hb ht inX1 hown hK hP 1 rfl rfl 0 (by decide) (ht (.fieldLink RX11 125 "CloneVolumes$Forest" "now" "LCloneVolumes$State;") fl_X11_125) (fun _ h9 => h9) rfl dX11_read_4 ?_
  refine lv_iload_n hx hb dX11_read_7 rfl (lv_at hl 1 rfl) ?_
  refine zcV (As := [.int p0]) (rest := []) (C := RX8) (n := 1) ⟨hx, hb, hml, hown, ht⟩ (k_X8_isVolume l D a p0) (zgV ml_X11_161 im_X8_isVolume se_X8_isVolume in_X8 co_X8_isVolume) rfl rfl (by decide +kernel) ⟨Nat.le_of_ble_eq_true rfl, Nat.le_of_ble_eq_true rfl⟩ hK hP hS [2, 3] rfl 0 rfl rfl rfl rfl hl.1 rfl (Nat.le_of_ble_eq_true rfl) dX11_read_8 ⟨Nat.le_of_ble_eq_true rfl, Nat.le_of_ble_eq_true rfl⟩ (fun r_1 H locs hw hP hS => ?_)
  subst hw
  refine lv_if_eq (tgt := 40) hx hb dX11_read_11 (by decide) (fun _ => ?_) (fun c_2 => (z_abs c_2 (by decide)).elim)
  refine lv_iconst (v := (-1)) hx hb dX11_read_40 (by decide) ?_
  exact W.iret (v := (-1)) hx hb hr (fun t ht hW => ⟨⟨(-1), (), rfl, rfl, trivial⟩, hS.F ht⟩) hS.2.2 dX11_read_41
set_option maxHeartbeats 4000000 in
set_option maxRecDepth 100000 in
theorem k_X11_key (l : Launch) (D : va_G) (a : Nat → Nat) (p0 : Int32) (p1 : Int32) : Met l yX11_key (wz yX11_key cX11_key 4 (some .int)) { frames := 1, cells := 0, slots := 0, locals := 60 } (va_Pc [.ref (a 0), .int p0, .int p1] (zP D [((a 0), .inr (11, [.ref (a 1), .ref (a 2), .ref (a 3), .ref (a 4), .ref (a 5), .ref (a 6), .ref (a 7), .ref (a 8), .ref (a 9), .ref (a 10), .ref (a 11), .ref (a 12), .int 0])), ((a 12), .inr (1, [.ref (a 13), .ref (a 14), .ref (a 15), .int 1, .ref (a 10), .ref (a 16), .ref (a 17), .ref (a 18), .ref (a 19)])), ((a 13), .inr (8, [.int 0, .int 0, .long 0, .ref (a 60), .ref (a 61), .ref (a 62), .ref (a 63), .ref (a 64), .ref (a 65), .ref (a 66), .ref (a 67)])), ((a 66), .inl (D.1 13, 8, .inl (fun _ => (-2))))])) (va_Qi (fun r (_ : Unit) => r = (-1)) (fun _ _ => True) (fun _ => False)) 0 0 (fun _ => False) := by
  refine Met.ofW (cc := cX11_key) (maxL := 4) (ret := (some .int)) (by decide) rfl ?_
  intro p e s m args below meth c s₁ B hml hv
  obtain ⟨rfl, hP, hK⟩ := hv
  have hx := B.exec
  have hb := B.bytes
  have hr := B.returns
  have hts := atoms_spec (ws := wz yX11_key cX11_key 4 (some .int)) B.pre
  have ht : ∀ w ∈ lw_gd, w.before _ s = true := fun w h => hts w (List.mem_cons_of_mem _ h)
  have hown : s.vm.findClass RX11 = some m.cls := findClass_of_methodNamed B.named
  have hlocks := B.notSynchronized
  have hS : va_S (fun _ => False) s.heap s.heap [] := va_S.rf
  have hl := lv_entry ([.ref (a 0), .int p0, .int p1]) (n := 4) (Nat.le_of_ble_eq_true rfl)
  rw [lg_entry_eq]
  generalize (lg_sl ([.ref (a 0), .int p0, .int p1]) ++ List.replicate (4 - (lg_sl ([.ref (a 0), .int p0, .int p1])).length) Slot.unset).toArray = ls at hl ⊢
  have hl : lv_has ls 4 [(0, .ref (a 0)), (1, .int p0), (2, .int p1)] := hl
  refine lv_aload_n hx hb dX11_key_0 rfl (lv_at hl 0 rfl) ?_
  refine va_get (D := D) (ci := 11) (v := .ref (a 12)) (C := RX11) (T := TX11) (N := 13) hx hb ht inX11 hown hK hP 0 rfl rfl 11 (by decide) (ht (.fieldLink RX11 79 "CloneVolumes" "forest" "LCloneVolumes$Forest;") fl_X11_79) (fun _ h9 => h9) rfl dX11_key_1 ?_
  refine va_get (D := D) (ci := 1) (v := .ref (a 13)) (C := RX1) (T := TX1) (N := 9) hx hb ht inX1 hown hK hP 1 rfl rfl 0 (by decide) (ht (.fieldLink RX11 125 "CloneVolumes$Forest" "now" "LCloneVolumes$State;") fl_X11_125) (fun _ h9 => h9) rfl dX11_key_4 ?_
  refine lv_astore_n (lv' := [(3, .ref (a 13)), (0, .ref (a 0)), (1, .int p0), (2, .int p1)]) hx hb dX11_key_7 rfl hl (by decide) rfl (fun ls hl => ?_)
  refine lv_aload_n hx hb dX11_key_8 rfl (lv_at hl 0 rfl) ?_
  refine lv_iload_n hx hb dX11_key_9 rfl (lv_at hl 2 rfl) ?_
  refine zcV (As := [.int p0]) (rest := []) (C := RX8) (n := 1) ⟨hx, hb, hml, hown, ht⟩ (k_X8_isVolume l D a p0) (zgV ml_X11_161 im_X8_isVolume se_X8_isVolume in_X8 co_X8_isVolume) rfl rfl (by decide +kernel) ⟨Nat.le_of_ble_eq_true rfl, Nat.le_of_ble_eq_true rfl⟩ hK hP hS [2, 3] rfl 0 rfl rfl rfl rfl hl.1 rfl (Nat.le_of_ble_eq_true rfl) dX11_key_10 ⟨Nat.le_of_ble_eq_true rfl, Nat.le_of_ble_eq_true rfl⟩ (fun r_1 H locs hw hP hS => ?_)
  subst hw
  refine lv_if_eq (tgt := 38) hx hb dX11_key_13 (by decide) (fun _ => ?_) (fun c_2 => (z_abs c_2 (by decide)).elim)
  refine lv_iconst (v := (-1)) hx hb dX11_key_38 (by decide) ?_
  exact W.iret (v := (-1)) hx hb hr (fun t ht hW => ⟨⟨(-1), (), rfl, rfl, trivial⟩, hS.F ht⟩) hS.2.2 dX11_key_39
set_option maxHeartbeats 4000000 in
set_option maxRecDepth 100000 in
theorem k_X11_total (l : Launch) (D : va_G) (a : Nat → Nat) (p0 : Int32) (p1 : Int32) (p2 : Int32) : Met l yX11_total (wz yX11_total cX11_total 8 (some .int)) { frames := 1, cells := 0, slots := 0, locals := 60 } (va_Pc [.ref (a 0), .int p0, .int p1, .int p2] (zP D [((a 0), .inr (11, [.ref (a 1), .ref (a 2), .ref (a 3), .ref (a 4), .ref (a 5), .ref (a 6), .ref (a 7), .ref (a 8), .ref (a 9), .ref (a 10), .ref (a 11), .ref (a 12), .int 0])), ((a 12), .inr (1, [.ref (a 13), .ref (a 14), .ref (a 15), .int 1, .ref (a 10), .ref (a 16), .ref (a 17), .ref (a 18), .ref (a 19)])), ((a 13), .inr (8, [.int 0, .int 0, .long 0, .ref (a 60), .ref (a 61), .ref (a 62), .ref (a 63), .ref (a 64), .ref (a 65), .ref (a 66), .ref (a 67)])), ((a 66), .inl (D.1 13, 8, .inl (fun _ => (-2))))])) (va_Qi (fun r (_ : Unit) => r = (-1)) (fun _ _ => True) (fun _ => False)) 0 0 (fun _ => False) := by
  refine Met.ofW (cc := cX11_total) (maxL := 8) (ret := (some .int)) (by decide) rfl ?_
  intro p e s m args below meth c s₁ B hml hv
  obtain ⟨rfl, hP, hK⟩ := hv
  have hx := B.exec
  have hb := B.bytes
  have hr := B.returns
  have hts := atoms_spec (ws := wz yX11_total cX11_total 8 (some .int)) B.pre
  have ht : ∀ w ∈ lw_gd, w.before _ s = true := fun w h => hts w (List.mem_cons_of_mem _ h)
  have hown : s.vm.findClass RX11 = some m.cls := findClass_of_methodNamed B.named
  have hlocks := B.notSynchronized
  have hS : va_S (fun _ => False) s.heap s.heap [] := va_S.rf
  have hl := lv_entry ([.ref (a 0), .int p0, .int p1, .int p2]) (n := 8) (Nat.le_of_ble_eq_true rfl)
  rw [lg_entry_eq]
  generalize (lg_sl ([.ref (a 0), .int p0, .int p1, .int p2]) ++ List.replicate (8 - (lg_sl ([.ref (a 0), .int p0, .int p1, .int p2])).length) Slot.unset).toArray = ls at hl ⊢
  have hl : lv_has ls 8 [(0, .ref (a 0)), (1, .int p0), (2, .int p1), (3, .int p2)] := hl
  refine lv_aload_n hx hb dX11_total_0 rfl (lv_at hl 0 rfl) ?_
  refine va_get (D := D) (ci := 11) (v := .ref (a 12)) (C := RX11) (T := TX11) (N := 13) hx hb ht inX11 hown hK hP 0 rfl rfl 11 (by decide) (ht (.fieldLink RX11 79 "CloneVolumes" "forest" "LCloneVolumes$Forest;") fl_X11_79) (fun _ h9 => h9) rfl dX11_total_1 ?_
  refine va_get (D := D) (ci := 1) (v := .ref (a 13)) (C := RX1) (T := TX1) (N := 9) hx hb ht inX1 hown hK hP 1 rfl rfl 0 (by decide) (ht (.fieldLink RX11 125 "CloneVolumes$Forest" "now" "LCloneVolumes$State;") fl_X11_125) (fun _ h9 => h9) rfl dX11_total_4 ?_
  refine lv_astore (lv' := [(4, .ref (a 13)), (0, .ref (a 0)), (1, .int p0), (2, .int p1), (3, .int p2)]) hx hb dX11_total_7 hl (by decide) rfl (fun ls hl => ?_)
  refine lv_aload hx hb dX11_total_9 (lv_at hl 0 rfl) ?_
  refine lv_iload_n hx hb dX11_total_11 rfl (lv_at hl 2 rfl) ?_
  refine zcV (As := [.int p0]) (rest := []) (C := RX8) (n := 1) ⟨hx, hb, hml, hown, ht⟩ (k_X8_isVolume l D a p0) (zgV ml_X11_161 im_X8_isVolume se_X8_isVolume in_X8 co_X8_isVolume) rfl rfl (by decide +kernel) ⟨Nat.le_of_ble_eq_true rfl, Nat.le_of_ble_eq_true rfl⟩ hK hP hS [2, 3] rfl 0 rfl rfl rfl rfl hl.1 rfl (Nat.le_of_ble_eq_true rfl) dX11_total_12 ⟨Nat.le_of_ble_eq_true rfl, Nat.le_of_ble_eq_true rfl⟩ (fun r_1 H locs hw hP hS => ?_)
  subst hw
  refine lv_if_ne (tgt := 20) hx hb dX11_total_15 (by decide) (fun c_2 => (z_abs c_2 (by decide)).elim) (fun _ => ?_)
  refine lv_iconst (v := (-1)) hx hb dX11_total_18 (by decide) ?_
  exact W.iret (v := (-1)) hx hb hr (fun t ht hW => ⟨⟨(-1), (), rfl, rfl, trivial⟩, hS.F ht⟩) hS.2.2 dX11_total_19
set_option maxHeartbeats 4000000 in
set_option maxRecDepth 100000 in
theorem k_X11_path (l : Launch) (D : va_G) (a : Nat → Nat) (p0 : Int32) (p1 : Int32) (p2 : Int32) : Met l yX11_path (wz yX11_path cX11_path 7 (some .int)) { frames := 1, cells := 0, slots := 0, locals := 60 } (va_Pc [.ref (a 0), .int p0, .int p1, .int p2] (zP D [((a 0), .inr (11, [.ref (a 1), .ref (a 2), .ref (a 3), .ref (a 4), .ref (a 5), .ref (a 6), .ref (a 7), .ref (a 8), .ref (a 9), .ref (a 10), .ref (a 11), .ref (a 12), .int 0])), ((a 12), .inr (1, [.ref (a 13), .ref (a 14), .ref (a 15), .int 1, .ref (a 10), .ref (a 16), .ref (a 17), .ref (a 18), .ref (a 19)])), ((a 13), .inr (8, [.int 0, .int 0, .long 0, .ref (a 60), .ref (a 61), .ref (a 62), .ref (a 63), .ref (a 64), .ref (a 65), .ref (a 66), .ref (a 67)])), ((a 66), .inl (D.1 13, 8, .inl (fun _ => (-2))))])) (va_Qi (fun r (_ : Unit) => r = (-1)) (fun _ _ => True) (fun _ => False)) 0 0 (fun _ => False) := by
  refine Met.ofW (cc := cX11_path) (maxL := 7) (ret := (some .int)) (by decide) rfl ?_
  intro p e s m args below meth c s₁ B hml hv
  obtain ⟨rfl, hP, hK⟩ := hv
  have hx := B.exec
  have hb := B.bytes
  have hr := B.returns
  have hts := atoms_spec (ws := wz yX11_path cX11_path 7 (some .int)) B.pre
  have ht : ∀ w ∈ lw_gd, w.before _ s = true := fun w h => hts w (List.mem_cons_of_mem _ h)
  have hown : s.vm.findClass RX11 = some m.cls := findClass_of_methodNamed B.named
  have hlocks := B.notSynchronized
  have hS : va_S (fun _ => False) s.heap s.heap [] := va_S.rf
  have hl := lv_entry ([.ref (a 0), .int p0, .int p1, .int p2]) (n := 7) (Nat.le_of_ble_eq_true rfl)
  rw [lg_entry_eq]
  generalize (lg_sl ([.ref (a 0), .int p0, .int p1, .int p2]) ++ List.replicate (7 - (lg_sl ([.ref (a 0), .int p0, .int p1, .int p2])).length) Slot.unset).toArray = ls at hl ⊢
  have hl : lv_has ls 7 [(0, .ref (a 0)), (1, .int p0), (2, .int p1), (3, .int p2)] := hl
  refine lv_aload_n hx hb dX11_path_0 rfl (lv_at hl 0 rfl) ?_
  refine va_get (D := D) (ci := 11) (v := .ref (a 12)) (C := RX11) (T := TX11) (N := 13) hx hb ht inX11 hown hK hP 0 rfl rfl 11 (by decide) (ht (.fieldLink RX11 79 "CloneVolumes" "forest" "LCloneVolumes$Forest;") fl_X11_79) (fun _ h9 => h9) rfl dX11_path_1 ?_
  refine va_get (D := D) (ci := 1) (v := .ref (a 13)) (C := RX1) (T := TX1) (N := 9) hx hb ht inX1 hown hK hP 1 rfl rfl 0 (by decide) (ht (.fieldLink RX11 125 "CloneVolumes$Forest" "now" "LCloneVolumes$State;") fl_X11_125) (fun _ h9 => h9) rfl dX11_path_4 ?_
  refine lv_astore (lv' := [(4, .ref (a 13)), (0, .ref (a 0)), (1, .int p0), (2, .int p1), (3, .int p2)]) hx hb dX11_path_7 hl (by decide) rfl (fun ls hl => ?_)
  refine lv_aload hx hb dX11_path_9 (lv_at hl 0 rfl) ?_
  refine lv_iload_n hx hb dX11_path_11 rfl (lv_at hl 2 rfl) ?_
  refine zcV (As := [.int p0]) (rest := []) (C := RX8) (n := 1) ⟨hx, hb, hml, hown, ht⟩ (k_X8_isVolume l D a p0) (zgV ml_X11_161 im_X8_isVolume se_X8_isVolume in_X8 co_X8_isVolume) rfl rfl (by decide +kernel) ⟨Nat.le_of_ble_eq_true rfl, Nat.le_of_ble_eq_true rfl⟩ hK hP hS [2, 3] rfl 0 rfl rfl rfl rfl hl.1 rfl (Nat.le_of_ble_eq_true rfl) dX11_path_12 ⟨Nat.le_of_ble_eq_true rfl, Nat.le_of_ble_eq_true rfl⟩ (fun r_1 H locs hw hP hS => ?_)
  subst hw
  refine lv_if_eq (tgt := 29) hx hb dX11_path_15 (by decide) (fun _ => ?_) (fun c_2 => (z_abs c_2 (by decide)).elim)
  refine lv_iconst (v := (-1)) hx hb dX11_path_29 (by decide) ?_
  exact W.iret (v := (-1)) hx hb hr (fun t ht hW => ⟨⟨(-1), (), rfl, rfl, trivial⟩, hS.F ht⟩) hS.2.2 dX11_path_30
set_option maxHeartbeats 4000000 in
set_option maxRecDepth 100000 in
theorem k_X11_shared (l : Launch) (D : va_G) (a : Nat → Nat) (p0 : Int32) (p1 : Int32) : Met l yX11_shared (wz yX11_shared cX11_shared 4 (some .int)) { frames := 1, cells := 0, slots := 0, locals := 60 } (va_Pc [.ref (a 0), .int p0, .int p1] (zP D [((a 0), .inr (11, [.ref (a 1), .ref (a 2), .ref (a 3), .ref (a 4), .ref (a 5), .ref (a 6), .ref (a 7), .ref (a 8), .ref (a 9), .ref (a 10), .ref (a 11), .ref (a 12), .int 0])), ((a 12), .inr (1, [.ref (a 13), .ref (a 14), .ref (a 15), .int 1, .ref (a 10), .ref (a 16), .ref (a 17), .ref (a 18), .ref (a 19)])), ((a 13), .inr (8, [.int 0, .int 0, .long 0, .ref (a 60), .ref (a 61), .ref (a 62), .ref (a 63), .ref (a 64), .ref (a 65), .ref (a 66), .ref (a 67)])), ((a 66), .inl (D.1 13, 8, .inl (fun _ => (-2))))])) (va_Qi (fun r (_ : Unit) => r = (-1)) (fun _ _ => True) (fun _ => False)) 0 0 (fun _ => False) := by
  refine Met.ofW (cc := cX11_shared) (maxL := 4) (ret := (some .int)) (by decide) rfl ?_
  intro p e s m args below meth c s₁ B hml hv
  obtain ⟨rfl, hP, hK⟩ := hv
  have hx := B.exec
  have hb := B.bytes
  have hr := B.returns
  have hts := atoms_spec (ws := wz yX11_shared cX11_shared 4 (some .int)) B.pre
  have ht : ∀ w ∈ lw_gd, w.before _ s = true := fun w h => hts w (List.mem_cons_of_mem _ h)
  have hown : s.vm.findClass RX11 = some m.cls := findClass_of_methodNamed B.named
  have hlocks := B.notSynchronized
  have hS : va_S (fun _ => False) s.heap s.heap [] := va_S.rf
  have hl := lv_entry ([.ref (a 0), .int p0, .int p1]) (n := 4) (Nat.le_of_ble_eq_true rfl)
  rw [lg_entry_eq]
  generalize (lg_sl ([.ref (a 0), .int p0, .int p1]) ++ List.replicate (4 - (lg_sl ([.ref (a 0), .int p0, .int p1])).length) Slot.unset).toArray = ls at hl ⊢
  have hl : lv_has ls 4 [(0, .ref (a 0)), (1, .int p0), (2, .int p1)] := hl
  refine lv_aload_n hx hb dX11_shared_0 rfl (lv_at hl 0 rfl) ?_
  refine va_get (D := D) (ci := 11) (v := .ref (a 12)) (C := RX11) (T := TX11) (N := 13) hx hb ht inX11 hown hK hP 0 rfl rfl 11 (by decide) (ht (.fieldLink RX11 79 "CloneVolumes" "forest" "LCloneVolumes$Forest;") fl_X11_79) (fun _ h9 => h9) rfl dX11_shared_1 ?_
  refine va_get (D := D) (ci := 1) (v := .ref (a 13)) (C := RX1) (T := TX1) (N := 9) hx hb ht inX1 hown hK hP 1 rfl rfl 0 (by decide) (ht (.fieldLink RX11 125 "CloneVolumes$Forest" "now" "LCloneVolumes$State;") fl_X11_125) (fun _ h9 => h9) rfl dX11_shared_4 ?_
  refine lv_astore_n (lv' := [(3, .ref (a 13)), (0, .ref (a 0)), (1, .int p0), (2, .int p1)]) hx hb dX11_shared_7 rfl hl (by decide) rfl (fun ls hl => ?_)
  refine lv_aload_n hx hb dX11_shared_8 rfl (lv_at hl 0 rfl) ?_
  refine lv_iload_n hx hb dX11_shared_9 rfl (lv_at hl 2 rfl) ?_
  refine zcV (As := [.int p0]) (rest := []) (C := RX8) (n := 1) ⟨hx, hb, hml, hown, ht⟩ (k_X8_isVolume l D a p0) (zgV ml_X11_161 im_X8_isVolume se_X8_isVolume in_X8 co_X8_isVolume) rfl rfl (by decide +kernel) ⟨Nat.le_of_ble_eq_true rfl, Nat.le_of_ble_eq_true rfl⟩ hK hP hS [2, 3] rfl 0 rfl rfl rfl rfl hl.1 rfl (Nat.le_of_ble_eq_true rfl) dX11_shared_10 ⟨Nat.le_of_ble_eq_true rfl, Nat.le_of_ble_eq_true rfl⟩ (fun r_1 H locs hw hP hS => ?_)
  subst hw
  refine lv_if_eq (tgt := 24) hx hb dX11_shared_13 (by decide) (fun _ => ?_) (fun c_2 => (z_abs c_2 (by decide)).elim)
  refine lv_iconst (v := (-1)) hx hb dX11_shared_24 (by decide) ?_
  exact W.iret (v := (-1)) hx hb hr (fun t ht hW => ⟨⟨(-1), (), rfl, rfl, trivial⟩, hS.F ht⟩) hS.2.2 dX11_shared_25
set_option maxHeartbeats 4000000 in
set_option maxRecDepth 100000 in
theorem k_X11_differs (l : Launch) (D : va_G) (a : Nat → Nat) (p0 : Int32) (p1 : Int32) (p2 : Int32) : Met l yX11_differs (wz yX11_differs cX11_differs 5 (some .int)) { frames := 1, cells := 0, slots := 0, locals := 60 } (va_Pc [.ref (a 0), .int p0, .int p1, .int p2] (zP D [((a 0), .inr (11, [.ref (a 1), .ref (a 2), .ref (a 3), .ref (a 4), .ref (a 5), .ref (a 6), .ref (a 7), .ref (a 8), .ref (a 9), .ref (a 10), .ref (a 11), .ref (a 12), .int 0])), ((a 12), .inr (1, [.ref (a 13), .ref (a 14), .ref (a 15), .int 1, .ref (a 10), .ref (a 16), .ref (a 17), .ref (a 18), .ref (a 19)])), ((a 13), .inr (8, [.int 0, .int 0, .long 0, .ref (a 60), .ref (a 61), .ref (a 62), .ref (a 63), .ref (a 64), .ref (a 65), .ref (a 66), .ref (a 67)])), ((a 66), .inl (D.1 13, 8, .inl (fun _ => (-2))))])) (va_Qi (fun r (_ : Unit) => r = (-1)) (fun _ _ => True) (fun _ => False)) 0 0 (fun _ => False) := by
  refine Met.ofW (cc := cX11_differs) (maxL := 5) (ret := (some .int)) (by decide) rfl ?_
  intro p e s m args below meth c s₁ B hml hv
  obtain ⟨rfl, hP, hK⟩ := hv
  have hx := B.exec
  have hb := B.bytes
  have hr := B.returns
  have hts := atoms_spec (ws := wz yX11_differs cX11_differs 5 (some .int)) B.pre
  have ht : ∀ w ∈ lw_gd, w.before _ s = true := fun w h => hts w (List.mem_cons_of_mem _ h)
  have hown : s.vm.findClass RX11 = some m.cls := findClass_of_methodNamed B.named
  have hlocks := B.notSynchronized
  have hS : va_S (fun _ => False) s.heap s.heap [] := va_S.rf
  have hl := lv_entry ([.ref (a 0), .int p0, .int p1, .int p2]) (n := 5) (Nat.le_of_ble_eq_true rfl)
  rw [lg_entry_eq]
  generalize (lg_sl ([.ref (a 0), .int p0, .int p1, .int p2]) ++ List.replicate (5 - (lg_sl ([.ref (a 0), .int p0, .int p1, .int p2])).length) Slot.unset).toArray = ls at hl ⊢
  have hl : lv_has ls 5 [(0, .ref (a 0)), (1, .int p0), (2, .int p1), (3, .int p2)] := hl
  refine lv_aload_n hx hb dX11_differs_0 rfl (lv_at hl 0 rfl) ?_
  refine va_get (D := D) (ci := 11) (v := .ref (a 12)) (C := RX11) (T := TX11) (N := 13) hx hb ht inX11 hown hK hP 0 rfl rfl 11 (by decide) (ht (.fieldLink RX11 79 "CloneVolumes" "forest" "LCloneVolumes$Forest;") fl_X11_79) (fun _ h9 => h9) rfl dX11_differs_1 ?_
  refine va_get (D := D) (ci := 1) (v := .ref (a 13)) (C := RX1) (T := TX1) (N := 9) hx hb ht inX1 hown hK hP 1 rfl rfl 0 (by decide) (ht (.fieldLink RX11 125 "CloneVolumes$Forest" "now" "LCloneVolumes$State;") fl_X11_125) (fun _ h9 => h9) rfl dX11_differs_4 ?_
  refine lv_astore (lv' := [(4, .ref (a 13)), (0, .ref (a 0)), (1, .int p0), (2, .int p1), (3, .int p2)]) hx hb dX11_differs_7 hl (by decide) rfl (fun ls hl => ?_)
  refine lv_aload hx hb dX11_differs_9 (lv_at hl 0 rfl) ?_
  refine lv_iload_n hx hb dX11_differs_11 rfl (lv_at hl 2 rfl) ?_
  refine zcV (As := [.int p0]) (rest := []) (C := RX8) (n := 1) ⟨hx, hb, hml, hown, ht⟩ (k_X8_isVolume l D a p0) (zgV ml_X11_161 im_X8_isVolume se_X8_isVolume in_X8 co_X8_isVolume) rfl rfl (by decide +kernel) ⟨Nat.le_of_ble_eq_true rfl, Nat.le_of_ble_eq_true rfl⟩ hK hP hS [2, 3] rfl 0 rfl rfl rfl rfl hl.1 rfl (Nat.le_of_ble_eq_true rfl) dX11_differs_12 ⟨Nat.le_of_ble_eq_true rfl, Nat.le_of_ble_eq_true rfl⟩ (fun r_1 H locs hw hP hS => ?_)
  subst hw
  refine lv_if_eq (tgt := 27) hx hb dX11_differs_15 (by decide) (fun _ => ?_) (fun c_2 => (z_abs c_2 (by decide)).elim)
  refine lv_iconst (v := (-1)) hx hb dX11_differs_27 (by decide) ?_
  exact W.iret (v := (-1)) hx hb hr (fun t ht hW => ⟨⟨(-1), (), rfl, rfl, trivial⟩, hS.F ht⟩) hS.2.2 dX11_differs_28
set_option maxHeartbeats 4000000 in
set_option maxRecDepth 100000 in
theorem k_X11_writes (l : Launch) (D : va_G) (a : Nat → Nat) (p0 : Int32) (p1 : Int32) (p2 : Int32) : Met l yX11_writes (wz yX11_writes cX11_writes 4 (some .int)) { frames := 1, cells := 0, slots := 0, locals := 60 } (va_Pc [.ref (a 0), .int p0, .int p1, .int p2] (zP D [((a 0), .inr (11, [.ref (a 1), .ref (a 2), .ref (a 3), .ref (a 4), .ref (a 5), .ref (a 6), .ref (a 7), .ref (a 8), .ref (a 9), .ref (a 10), .ref (a 11), .ref (a 12), .int 0])), ((a 12), .inr (1, [.ref (a 13), .ref (a 14), .ref (a 15), .int 1, .ref (a 10), .ref (a 16), .ref (a 17), .ref (a 18), .ref (a 19)])), ((a 13), .inr (8, [.int 0, .int 0, .long 0, .ref (a 60), .ref (a 61), .ref (a 62), .ref (a 63), .ref (a 64), .ref (a 65), .ref (a 66), .ref (a 67)])), ((a 66), .inl (D.1 13, 8, .inl (fun _ => (-2))))])) (va_Qi (fun r (_ : Unit) => r = (-1)) (fun _ _ => True) (fun _ => False)) 0 0 (fun _ => False) := by
  refine Met.ofW (cc := cX11_writes) (maxL := 4) (ret := (some .int)) (by decide) rfl ?_
  intro p e s m args below meth c s₁ B hml hv
  obtain ⟨rfl, hP, hK⟩ := hv
  have hx := B.exec
  have hb := B.bytes
  have hr := B.returns
  have hts := atoms_spec (ws := wz yX11_writes cX11_writes 4 (some .int)) B.pre
  have ht : ∀ w ∈ lw_gd, w.before _ s = true := fun w h => hts w (List.mem_cons_of_mem _ h)
  have hown : s.vm.findClass RX11 = some m.cls := findClass_of_methodNamed B.named
  have hlocks := B.notSynchronized
  have hS : va_S (fun _ => False) s.heap s.heap [] := va_S.rf
  have hl := lv_entry ([.ref (a 0), .int p0, .int p1, .int p2]) (n := 4) (Nat.le_of_ble_eq_true rfl)
  rw [lg_entry_eq]
  generalize (lg_sl ([.ref (a 0), .int p0, .int p1, .int p2]) ++ List.replicate (4 - (lg_sl ([.ref (a 0), .int p0, .int p1, .int p2])).length) Slot.unset).toArray = ls at hl ⊢
  have hl : lv_has ls 4 [(0, .ref (a 0)), (1, .int p0), (2, .int p1), (3, .int p2)] := hl
  refine lv_aload_n hx hb dX11_writes_0 rfl (lv_at hl 0 rfl) ?_
  refine va_get (D := D) (ci := 11) (v := .ref (a 12)) (C := RX11) (T := TX11) (N := 13) hx hb ht inX11 hown hK hP 0 rfl rfl 11 (by decide) (ht (.fieldLink RX11 79 "CloneVolumes" "forest" "LCloneVolumes$Forest;") fl_X11_79) (fun _ h9 => h9) rfl dX11_writes_1 ?_
  refine va_get (D := D) (ci := 1) (v := .ref (a 13)) (C := RX1) (T := TX1) (N := 9) hx hb ht inX1 hown hK hP 1 rfl rfl 0 (by decide) (ht (.fieldLink RX11 125 "CloneVolumes$Forest" "now" "LCloneVolumes$State;") fl_X11_125) (fun _ h9 => h9) rfl dX11_writes_4 ?_
  refine lv_iload_n hx hb dX11_writes_7 rfl (lv_at hl 1 rfl) ?_
  refine zcV (As := [.int p0]) (rest := []) (C := RX8) (n := 1) ⟨hx, hb, hml, hown, ht⟩ (k_X8_isVolume l D a p0) (zgV ml_X11_161 im_X8_isVolume se_X8_isVolume in_X8 co_X8_isVolume) rfl rfl (by decide +kernel) ⟨Nat.le_of_ble_eq_true rfl, Nat.le_of_ble_eq_true rfl⟩ hK hP hS [2, 3] rfl 0 rfl rfl rfl rfl hl.1 rfl (Nat.le_of_ble_eq_true rfl) dX11_writes_8 ⟨Nat.le_of_ble_eq_true rfl, Nat.le_of_ble_eq_true rfl⟩ (fun r_1 H locs hw hP hS => ?_)
  subst hw
  refine lv_if_eq (tgt := 21) hx hb dX11_writes_11 (by decide) (fun _ => ?_) (fun c_2 => (z_abs c_2 (by decide)).elim)
  refine lv_iconst (v := (-1)) hx hb dX11_writes_21 (by decide) ?_
  exact W.iret (v := (-1)) hx hb hr (fun t ht hW => ⟨⟨(-1), (), rfl, rfl, trivial⟩, hS.F ht⟩) hS.2.2 dX11_writes_22
set_option maxHeartbeats 4000000 in
set_option maxRecDepth 100000 in
theorem k_X11_spread (l : Launch) (D : va_G) (a : Nat → Nat) (p0 : Int32) (p1 : Int32) : Met l yX11_spread (wz yX11_spread cX11_spread 5 (some .int)) { frames := 1, cells := 0, slots := 0, locals := 60 } (va_Pc [.ref (a 0), .int p0, .int p1] (zP D [((a 0), .inr (11, [.ref (a 1), .ref (a 2), .ref (a 3), .ref (a 4), .ref (a 5), .ref (a 6), .ref (a 7), .ref (a 8), .ref (a 9), .ref (a 10), .ref (a 11), .ref (a 12), .int 0])), ((a 12), .inr (1, [.ref (a 13), .ref (a 14), .ref (a 15), .int 1, .ref (a 10), .ref (a 16), .ref (a 17), .ref (a 18), .ref (a 19)])), ((a 13), .inr (8, [.int 0, .int 0, .long 0, .ref (a 60), .ref (a 61), .ref (a 62), .ref (a 63), .ref (a 64), .ref (a 65), .ref (a 66), .ref (a 67)])), ((a 66), .inl (D.1 13, 8, .inl (fun _ => (-2))))])) (va_Qi (fun r (_ : Unit) => r = (-1)) (fun _ _ => True) (fun _ => False)) 0 0 (fun _ => False) := by
  refine Met.ofW (cc := cX11_spread) (maxL := 5) (ret := (some .int)) (by decide) rfl ?_
  intro p e s m args below meth c s₁ B hml hv
  obtain ⟨rfl, hP, hK⟩ := hv
  have hx := B.exec
  have hb := B.bytes
  have hr := B.returns
  have hts := atoms_spec (ws := wz yX11_spread cX11_spread 5 (some .int)) B.pre
  have ht : ∀ w ∈ lw_gd, w.before _ s = true := fun w h => hts w (List.mem_cons_of_mem _ h)
  have hown : s.vm.findClass RX11 = some m.cls := findClass_of_methodNamed B.named
  have hlocks := B.notSynchronized
  have hS : va_S (fun _ => False) s.heap s.heap [] := va_S.rf
  have hl := lv_entry ([.ref (a 0), .int p0, .int p1]) (n := 5) (Nat.le_of_ble_eq_true rfl)
  rw [lg_entry_eq]
  generalize (lg_sl ([.ref (a 0), .int p0, .int p1]) ++ List.replicate (5 - (lg_sl ([.ref (a 0), .int p0, .int p1])).length) Slot.unset).toArray = ls at hl ⊢
  have hl : lv_has ls 5 [(0, .ref (a 0)), (1, .int p0), (2, .int p1)] := hl
  refine lv_aload_n hx hb dX11_spread_0 rfl (lv_at hl 0 rfl) ?_
  refine va_get (D := D) (ci := 11) (v := .ref (a 12)) (C := RX11) (T := TX11) (N := 13) hx hb ht inX11 hown hK hP 0 rfl rfl 11 (by decide) (ht (.fieldLink RX11 79 "CloneVolumes" "forest" "LCloneVolumes$Forest;") fl_X11_79) (fun _ h9 => h9) rfl dX11_spread_1 ?_
  refine va_get (D := D) (ci := 1) (v := .ref (a 13)) (C := RX1) (T := TX1) (N := 9) hx hb ht inX1 hown hK hP 1 rfl rfl 0 (by decide) (ht (.fieldLink RX11 125 "CloneVolumes$Forest" "now" "LCloneVolumes$State;") fl_X11_125) (fun _ h9 => h9) rfl dX11_spread_4 ?_
  refine lv_iload_n hx hb dX11_spread_7 rfl (lv_at hl 1 rfl) ?_
  refine zcV (As := [.int p0]) (rest := []) (C := RX8) (n := 1) ⟨hx, hb, hml, hown, ht⟩ (k_X8_isVolume l D a p0) (zgV ml_X11_161 im_X8_isVolume se_X8_isVolume in_X8 co_X8_isVolume) rfl rfl (by decide +kernel) ⟨Nat.le_of_ble_eq_true rfl, Nat.le_of_ble_eq_true rfl⟩ hK hP hS [2, 3] rfl 0 rfl rfl rfl rfl hl.1 rfl (Nat.le_of_ble_eq_true rfl) dX11_spread_8 ⟨Nat.le_of_ble_eq_true rfl, Nat.le_of_ble_eq_true rfl⟩ (fun r_1 H locs hw hP hS => ?_)
  subst hw
  refine lv_if_eq (tgt := 19) hx hb dX11_spread_11 (by decide) (fun _ => ?_) (fun c_2 => (z_abs c_2 (by decide)).elim)
  refine lv_iconst (v := (-1)) hx hb dX11_spread_19 (by decide) ?_
  exact W.iret (v := (-1)) hx hb hr (fun t ht hW => ⟨⟨(-1), (), rfl, rfl, trivial⟩, hS.F ht⟩) hS.2.2 dX11_spread_20
set_option maxHeartbeats 4000000 in
set_option maxRecDepth 100000 in
theorem k_X11_lost (l : Launch) (D : va_G) (a : Nat → Nat) (p0 : Int32) : Met l yX11_lost (wz yX11_lost cX11_lost 2 (some .int)) { frames := 1, cells := 0, slots := 0, locals := 60 } (va_Pc [.ref (a 0), .int p0] (zP D [((a 0), .inr (11, [.ref (a 1), .ref (a 2), .ref (a 3), .ref (a 4), .ref (a 5), .ref (a 6), .ref (a 7), .ref (a 8), .ref (a 9), .ref (a 10), .ref (a 11), .ref (a 12), .int 0])), ((a 12), .inr (1, [.ref (a 13), .ref (a 14), .ref (a 15), .int 1, .ref (a 10), .ref (a 16), .ref (a 17), .ref (a 18), .ref (a 19)])), ((a 13), .inr (8, [.int 0, .int 0, .long 0, .ref (a 60), .ref (a 61), .ref (a 62), .ref (a 63), .ref (a 64), .ref (a 65), .ref (a 66), .ref (a 67)]))])) (va_Qi (fun r (_ : Unit) => r = (-1)) (fun _ _ => True) (fun _ => False)) 0 0 (fun _ => False) := by
  refine Met.ofW (cc := cX11_lost) (maxL := 2) (ret := (some .int)) (by decide) rfl ?_
  intro p e s m args below meth c s₁ B hml hv
  obtain ⟨rfl, hP, hK⟩ := hv
  have hx := B.exec
  have hb := B.bytes
  have hr := B.returns
  have hts := atoms_spec (ws := wz yX11_lost cX11_lost 2 (some .int)) B.pre
  have ht : ∀ w ∈ lw_gd, w.before _ s = true := fun w h => hts w (List.mem_cons_of_mem _ h)
  have hown : s.vm.findClass RX11 = some m.cls := findClass_of_methodNamed B.named
  have hlocks := B.notSynchronized
  have hS : va_S (fun _ => False) s.heap s.heap [] := va_S.rf
  have hl := lv_entry ([.ref (a 0), .int p0]) (n := 2) (Nat.le_of_ble_eq_true rfl)
  rw [lg_entry_eq]
  generalize (lg_sl ([.ref (a 0), .int p0]) ++ List.replicate (2 - (lg_sl ([.ref (a 0), .int p0])).length) Slot.unset).toArray = ls at hl ⊢
  have hl : lv_has ls 2 [(0, .ref (a 0)), (1, .int p0)] := hl
  refine lv_aload_n hx hb dX11_lost_0 rfl (lv_at hl 0 rfl) ?_
  refine va_get (D := D) (ci := 11) (v := .ref (a 12)) (C := RX11) (T := TX11) (N := 13) hx hb ht inX11 hown hK hP 0 rfl rfl 11 (by decide) (ht (.fieldLink RX11 79 "CloneVolumes" "forest" "LCloneVolumes$Forest;") fl_X11_79) (fun _ h9 => h9) rfl dX11_lost_1 ?_
  refine va_get (D := D) (ci := 1) (v := .ref (a 13)) (C := RX1) (T := TX1) (N := 9) hx hb ht inX1 hown hK hP 1 rfl rfl 0 (by decide) (ht (.fieldLink RX11 125 "CloneVolumes$Forest" "now" "LCloneVolumes$State;") fl_X11_125) (fun _ h9 => h9) rfl dX11_lost_4 ?_
  refine lv_iload_n hx hb dX11_lost_7 rfl (lv_at hl 1 rfl) ?_
  refine zcV (As := [.int p0]) (rest := []) (C := RX8) (n := 1) ⟨hx, hb, hml, hown, ht⟩ (k_X8_isBlock l D a p0) (zgV ml_X11_188 im_X8_isBlock se_X8_isBlock in_X8 co_X8_isBlock) rfl rfl (by decide +kernel) ⟨Nat.le_of_ble_eq_true rfl, Nat.le_of_ble_eq_true rfl⟩ hK hP hS [2] rfl 0 rfl rfl rfl rfl hl.1 rfl (Nat.le_of_ble_eq_true rfl) dX11_lost_8 ⟨Nat.le_of_ble_eq_true rfl, Nat.le_of_ble_eq_true rfl⟩ (fun r_1 H locs hw hP hS => ?_)
  subst hw
  refine lv_if_ne (tgt := 16) hx hb dX11_lost_11 (by decide) (fun c_2 => (z_abs c_2 (by decide)).elim) (fun _ => ?_)
  refine lv_iconst (v := (-1)) hx hb dX11_lost_14 (by decide) ?_
  exact W.iret (v := (-1)) hx hb hr (fun t ht hW => ⟨⟨(-1), (), rfl, rfl, trivial⟩, hS.F ht⟩) hS.2.2 dX11_lost_15
set_option maxHeartbeats 4000000 in
set_option maxRecDepth 100000 in
theorem k_X11_victim (l : Launch) (D : va_G) (a : Nat → Nat) (p0 : Int32) : Met l yX11_victim (wz yX11_victim cX11_victim 7 (some .int)) { frames := 1, cells := 0, slots := 0, locals := 60 } (va_Pc [.ref (a 0), .int p0] (zP D [((a 0), .inr (11, [.ref (a 1), .ref (a 2), .ref (a 3), .ref (a 4), .ref (a 5), .ref (a 6), .ref (a 7), .ref (a 8), .ref (a 9), .ref (a 10), .ref (a 11), .ref (a 12), .int 0])), ((a 12), .inr (1, [.ref (a 13), .ref (a 14), .ref (a 15), .int 1, .ref (a 10), .ref (a 16), .ref (a 17), .ref (a 18), .ref (a 19)])), ((a 13), .inr (8, [.int 0, .int 0, .long 0, .ref (a 60), .ref (a 61), .ref (a 62), .ref (a 63), .ref (a 64), .ref (a 65), .ref (a 66), .ref (a 67)])), ((a 66), .inl (D.1 13, 8, .inl (fun _ => (-2))))])) (va_Qi (fun r (_ : Unit) => r = (-1)) (fun _ _ => True) (fun _ => False)) 0 0 (fun _ => False) := by
  refine Met.ofW (cc := cX11_victim) (maxL := 7) (ret := (some .int)) (by decide) rfl ?_
  intro p e s m args below meth c s₁ B hml hv
  obtain ⟨rfl, hP, hK⟩ := hv
  have hx := B.exec
  have hb := B.bytes
  have hr := B.returns
  have hts := atoms_spec (ws := wz yX11_victim cX11_victim 7 (some .int)) B.pre
  have ht : ∀ w ∈ lw_gd, w.before _ s = true := fun w h => hts w (List.mem_cons_of_mem _ h)
  have hown : s.vm.findClass RX11 = some m.cls := findClass_of_methodNamed B.named
  have hlocks := B.notSynchronized
  have hS : va_S (fun _ => False) s.heap s.heap [] := va_S.rf
  have hl := lv_entry ([.ref (a 0), .int p0]) (n := 7) (Nat.le_of_ble_eq_true rfl)
  rw [lg_entry_eq]
  generalize (lg_sl ([.ref (a 0), .int p0]) ++ List.replicate (7 - (lg_sl ([.ref (a 0), .int p0])).length) Slot.unset).toArray = ls at hl ⊢
  have hl : lv_has ls 7 [(0, .ref (a 0)), (1, .int p0)] := hl
  refine lv_aload_n hx hb dX11_victim_0 rfl (lv_at hl 0 rfl) ?_
  refine va_get (D := D) (ci := 11) (v := .ref (a 12)) (C := RX11) (T := TX11) (N := 13) hx hb ht inX11 hown hK hP 0 rfl rfl 11 (by decide) (ht (.fieldLink RX11 79 "CloneVolumes" "forest" "LCloneVolumes$Forest;") fl_X11_79) (fun _ h9 => h9) rfl dX11_victim_1 ?_
  refine va_get (D := D) (ci := 1) (v := .ref (a 13)) (C := RX1) (T := TX1) (N := 9) hx hb ht inX1 hown hK hP 1 rfl rfl 0 (by decide) (ht (.fieldLink RX11 125 "CloneVolumes$Forest" "now" "LCloneVolumes$State;") fl_X11_125) (fun _ h9 => h9) rfl dX11_victim_4 ?_
  refine lv_astore_n (lv' := [(2, .ref (a 13)), (0, .ref (a 0)), (1, .int p0)]) hx hb dX11_victim_7 rfl hl (by decide) rfl (fun ls hl => ?_)
  refine lv_iconst (v := (-1)) hx hb dX11_victim_8 (by decide) ?_
  refine lv_istore_n (lv' := [(3, .int (-1)), (2, .ref (a 13)), (0, .ref (a 0)), (1, .int p0)]) hx hb dX11_victim_9 rfl hl (by decide) rfl (fun ls hl => ?_)
  refine lv_iconst (v := (-1)) hx hb dX11_victim_10 (by decide) ?_
  refine lv_istore (lv' := [(4, .int (-1)), (3, .int (-1)), (2, .ref (a 13)), (0, .ref (a 0)), (1, .int p0)]) hx hb dX11_victim_11 hl (by decide) rfl (fun ls hl => ?_)
  refine lv_iconst (v := 0) hx hb dX11_victim_13 (by decide) ?_
  refine lv_istore (lv' := [(5, .int 0), (4, .int (-1)), (3, .int (-1)), (2, .ref (a 13)), (0, .ref (a 0)), (1, .int p0)]) hx hb dX11_victim_14 hl (by decide) rfl (fun ls hl => ?_)
  refine z_loop (σ := Unit) (N := 8) (fun i u H locs ls => va_P D vwCl [((a 0), .inr (11, [.ref (a 1), .ref (a 2), .ref (a 3), .ref (a 4), .ref (a 5), .ref (a 6), .ref (a 7), .ref (a 8), .ref (a 9), .ref (a 10), .ref (a 11), .ref (a 12), .int 0])), ((a 12), .inr (1, [.ref (a 13), .ref (a 14), .ref (a 15), .int 1, .ref (a 10), .ref (a 16), .ref (a 17), .ref (a 18), .ref (a 19)])), ((a 13), .inr (8, [.int 0, .int 0, .long 0, .ref (a 60), .ref (a 61), .ref (a 62), .ref (a 63), .ref (a 64), .ref (a 65), .ref (a 66), .ref (a 67)])), ((a 66), .inl (D.1 13, 8, .inl (fun _ => (-2))))] H ∧ va_S (fun _ => False) s.heap H locs ∧ lv_has ls 7 [(5, .int (nI i)), (4, .int (-1)), (3, .int (-1)), (2, .ref (a 13)), (0, .ref (a 0)), (1, .int p0)]) (fun i_1 _u H locs ls hi_i_1 hI ih_16 => ?_) 0 () (by decide) ⟨hP, hS, lv_sub hl [0, 1, 2, 3, 4, 5] rfl⟩
  obtain ⟨hP, hS, hl⟩ := hI
  have hP : va_P D vwCl [((a 0), .inr (11, [.ref (a 1), .ref (a 2), .ref (a 3), .ref (a 4), .ref (a 5), .ref (a 6), .ref (a 7), .ref (a 8), .ref (a 9), .ref (a 10), .ref (a 11), .ref (a 12), .int 0])), ((a 12), .inr (1, [.ref (a 13), .ref (a 14), .ref (a 15), .int 1, .ref (a 10), .ref (a 16), .ref (a 17), .ref (a 18), .ref (a 19)])), ((a 13), .inr (8, [.int 0, .int 0, .long 0, .ref (a 60), .ref (a 61), .ref (a 62), .ref (a 63), .ref (a 64), .ref (a 65), .ref (a 66), .ref (a 67)])), ((a 66), .inl (D.1 13, 8, .inl (fun _ => (-2))))] H := hP
  have hl : lv_has ls 7 [(5, .int (nI i_1)), (4, .int (-1)), (3, .int (-1)), (2, .ref (a 13)), (0, .ref (a 0)), (1, .int p0)] := hl
  refine lv_iload hx hb dX11_victim_16 (lv_at hl 0 rfl) ?_
  refine lv_bipush (v := 8) hx hb dX11_victim_18 (by decide) ?_
  refine lv_icmp_ge (tgt := 72) hx hb dX11_victim_20 (by decide) (fun c_2 => ?_) (fun c_2 => ?_)
  · have g_3 : 8 ≤ ((i_1 : Nat) : Int) := z_le (by decide) (nI_toInt (by omega)) c_2
    obtain rfl : i_1 = 8 := by omega
    have hP : va_P D vwCl [((a 0), .inr (11, [.ref (a 1), .ref (a 2), .ref (a 3), .ref (a 4), .ref (a 5), .ref (a 6), .ref (a 7), .ref (a 8), .ref (a 9), .ref (a 10), .ref (a 11), .ref (a 12), .int 0])), ((a 12), .inr (1, [.ref (a 13), .ref (a 14), .ref (a 15), .int 1, .ref (a 10), .ref (a 16), .ref (a 17), .ref (a 18), .ref (a 19)])), ((a 13), .inr (8, [.int 0, .int 0, .long 0, .ref (a 60), .ref (a 61), .ref (a 62), .ref (a 63), .ref (a 64), .ref (a 65), .ref (a 66), .ref (a 67)])), ((a 66), .inl (D.1 13, 8, .inl (fun _ => (-2))))] H := hP
    have hl : lv_has ls 7 [(5, .int 8), (4, .int (-1)), (3, .int (-1)), (2, .ref (a 13)), (0, .ref (a 0)), (1, .int p0)] := hl
    refine lv_iload_n hx hb dX11_victim_72 rfl (lv_at hl 5 rfl) ?_
    refine lv_iload_n hx hb dX11_victim_73 rfl (lv_at hl 2 rfl) ?_
    refine lv_iload hx hb dX11_victim_74 (lv_at hl 1 rfl) ?_
    refine zcS (As := [.int p0, .int (-1), .int (-1)]) (rest := []) (n := 3) ⟨hx, hb, hml, hown, ht⟩ (k_X11_oneOf l D p0 (-1) (-1)) (zgT ml_X11_249 st_X11_oneOf in_X11 co_X11_oneOf) rfl rfl (by decide +kernel) ⟨Nat.le_of_ble_eq_true rfl, Nat.le_of_ble_eq_true rfl⟩ hK hP hS [] rfl rfl hl.1 rfl (Nat.le_of_ble_eq_true rfl) dX11_victim_76 ⟨Nat.le_of_ble_eq_true rfl, Nat.le_of_ble_eq_true rfl⟩ (fun r_4 H locs hw hP hS => ?_)
    rcases hw with ⟨rfl, g_5, g_6⟩ | ⟨rfl, g_7, g_8⟩ | ⟨rfl, g_9⟩
    · skip
      have g_5 : ¬ p0.toInt = 0 := zt_ne rfl (by decide) g_5
      have g_6 : ¬ p0.toInt = 1 := zt_ne rfl (by decide) g_6
      exact W.iret (v := (-1)) hx hb hr (fun t ht hW => ⟨⟨(-1), (), rfl, rfl, trivial⟩, hS.F ht⟩) hS.2.2 dX11_victim_79
    · skip
      have g_7 : ¬ p0.toInt = 0 := zt_ne rfl (by decide) g_7
      have g_8 : p0.toInt = 1 := zt_eq rfl (by decide) g_8
      exact W.iret (v := (-1)) hx hb hr (fun t ht hW => ⟨⟨(-1), (), rfl, rfl, trivial⟩, hS.F ht⟩) hS.2.2 dX11_victim_79
    · skip
      have g_9 : p0.toInt = 0 := zt_eq rfl (by decide) g_9
      exact W.iret (v := (-1)) hx hb hr (fun t ht hW => ⟨⟨(-1), (), rfl, rfl, trivial⟩, hS.F ht⟩) hS.2.2 dX11_victim_79
  · have g_3 : ((i_1 : Nat) : Int) < 8 := z_nle (by decide) (nI_toInt (by omega)) c_2
    refine lv_aload_n hx hb dX11_victim_23 rfl (lv_at hl 3 rfl) ?_
    refine lv_iload hx hb dX11_victim_24 (lv_at hl 0 rfl) ?_
    refine zcV (As := [.int (nI i_1)]) (rest := []) (C := RX8) (n := 1) ⟨hx, hb, hml, hown, ht⟩ (k_X8_isVolume l D a (nI i_1)) (zgV ml_X11_161 im_X8_isVolume se_X8_isVolume in_X8 co_X8_isVolume) rfl rfl (by decide +kernel) ⟨Nat.le_of_ble_eq_true rfl, Nat.le_of_ble_eq_true rfl⟩ hK hP hS [2, 3] rfl 0 rfl rfl rfl rfl hl.1 rfl (Nat.le_of_ble_eq_true rfl) dX11_victim_26 ⟨Nat.le_of_ble_eq_true rfl, Nat.le_of_ble_eq_true rfl⟩ (fun r_10 H locs hw hP hS => ?_)
    subst hw
    refine lv_if_eq (tgt := 49) hx hb dX11_victim_29 (by decide) (fun _ => ?_) (fun c_11 => (z_abs c_11 (by decide)).elim)
    refine lv_iconst (v := (-1)) hx hb dX11_victim_49 (by decide) ?_
    refine lv_istore (lv' := [(6, .int (-1)), (5, .int (nI i_1)), (4, .int (-1)), (3, .int (-1)), (2, .ref (a 13)), (0, .ref (a 0)), (1, .int p0)]) hx hb dX11_victim_50 hl (by decide) rfl (fun ls hl => ?_)
    refine lv_iload hx hb dX11_victim_52 (lv_at hl 0 rfl) ?_
    refine lv_iload hx hb dX11_victim_54 (lv_at hl 2 rfl) ?_
    refine lv_icmp_le (tgt := 66) hx hb dX11_victim_56 (by decide) (fun _ => ?_) (fun c_13 => (z_abs c_13 (by decide)).elim)
    refine lv_iinc (v := nI (i_1 + 1)) (lv' := [(5, .int (nI (i_1 + 1))), (6, .int (-1)), (4, .int (-1)), (3, .int (-1)), (2, .ref (a 13)), (0, .ref (a 0)), (1, .int p0)]) hx hb dX11_victim_66 hl (k := 1) rfl (z_inc _) (by decide) rfl (fun ls hl => ?_)
    refine lv_goto (tgt := 16) hx hb dX11_victim_69 (by decide) ?_
    exact ih_16 () _ _ _ (by omega) ⟨hP.sub [0, 1, 2, 3] rfl, hS, lv_sub hl [0, 2, 3, 4, 5, 6] rfl⟩
set_option maxHeartbeats 4000000 in
set_option maxRecDepth 100000 in
theorem k_X11_room (l : Launch) (D : va_G) (a : Nat → Nat) (p0 : Int32) : Met l yX11_room (wz yX11_room cX11_room 3 (some .int)) { frames := 0, cells := 0, slots := 0, locals := 0 } (va_Pc [.ref (a 0), .int p0] (zP D [((a 0), .inr (11, [.ref (a 1), .ref (a 2), .ref (a 3), .ref (a 4), .ref (a 5), .ref (a 6), .ref (a 7), .ref (a 8), .ref (a 9), .ref (a 10), .ref (a 11), .ref (a 12), .int 0])), ((a 12), .inr (1, [.ref (a 13), .ref (a 14), .ref (a 15), .int 1, .ref (a 10), .ref (a 16), .ref (a 17), .ref (a 18), .ref (a 19)]))])) (va_Qi (fun r (_ : Unit) => r = (-1)) (fun _ _ => True) (fun _ => False)) 0 0 (fun _ => False) := by
  refine Met.ofW (cc := cX11_room) (maxL := 3) (ret := (some .int)) (by decide) rfl ?_
  intro p e s m args below meth c s₁ B hml hv
  obtain ⟨rfl, hP, hK⟩ := hv
  have hx := B.exec
  have hb := B.bytes
  have hr := B.returns
  have hts := atoms_spec (ws := wz yX11_room cX11_room 3 (some .int)) B.pre
  have ht : ∀ w ∈ lw_gd, w.before _ s = true := fun w h => hts w (List.mem_cons_of_mem _ h)
  have hown : s.vm.findClass RX11 = some m.cls := findClass_of_methodNamed B.named
  have hlocks := B.notSynchronized
  have hS : va_S (fun _ => False) s.heap s.heap [] := va_S.rf
  have hl := lv_entry ([.ref (a 0), .int p0]) (n := 3) (Nat.le_of_ble_eq_true rfl)
  rw [lg_entry_eq]
  generalize (lg_sl ([.ref (a 0), .int p0]) ++ List.replicate (3 - (lg_sl ([.ref (a 0), .int p0])).length) Slot.unset).toArray = ls at hl ⊢
  have hl : lv_has ls 3 [(0, .ref (a 0)), (1, .int p0)] := hl
  refine lv_aload_n hx hb dX11_room_0 rfl (lv_at hl 0 rfl) ?_
  refine va_get (D := D) (ci := 11) (v := .ref (a 12)) (C := RX11) (T := TX11) (N := 13) hx hb ht inX11 hown hK hP 0 rfl rfl 11 (by decide) (ht (.fieldLink RX11 79 "CloneVolumes" "forest" "LCloneVolumes$Forest;") fl_X11_79) (fun _ h9 => h9) rfl dX11_room_1 ?_
  refine va_get (D := D) (ci := 1) (v := .ref (a 13)) (C := RX1) (T := TX1) (N := 9) hx hb ht inX1 hown hK hP 1 rfl rfl 0 (by decide) (ht (.fieldLink RX11 125 "CloneVolumes$Forest" "now" "LCloneVolumes$State;") fl_X11_125) (fun _ h9 => h9) rfl dX11_room_4 ?_
  refine lv_astore_n (lv' := [(2, .ref (a 13)), (0, .ref (a 0)), (1, .int p0)]) hx hb dX11_room_7 rfl hl (by decide) rfl (fun ls hl => ?_)
  refine lv_aload_n hx hb dX11_room_8 rfl (lv_at hl 1 rfl) ?_
  refine va_get (D := D) (ci := 11) (v := .int 0) (C := RX11) (T := TX11) (N := 13) hx hb ht inX11 hown hK hP 0 rfl rfl 12 (by decide) (ht (.fieldLink RX11 112 "CloneVolumes" "told" "Z") fl_X11_112) (fun _ h9 => h9) rfl dX11_room_9 ?_
  refine lv_if_ne (tgt := 17) hx hb dX11_room_12 (by decide) (fun c_1 => (z_abs c_1 (by decide)).elim) (fun _ => ?_)
  refine lv_iconst (v := (-1)) hx hb dX11_room_15 (by decide) ?_
  exact W.iret (v := (-1)) hx hb hr (fun t ht hW => ⟨⟨(-1), (), rfl, rfl, trivial⟩, hS.F ht⟩) hS.2.2 dX11_room_16
set_option maxHeartbeats 4000000 in
set_option maxRecDepth 100000 in
theorem k_X11_back (l : Launch) (D : va_G) (a : Nat → Nat) (p0 : Int32) : Met l yX11_back (wz yX11_back cX11_back 3 (some .int)) { frames := 1, cells := 0, slots := 0, locals := 60 } (va_Pc [.ref (a 0), .int p0] (zP D [((a 0), .inr (11, [.ref (a 1), .ref (a 2), .ref (a 3), .ref (a 4), .ref (a 5), .ref (a 6), .ref (a 7), .ref (a 8), .ref (a 9), .ref (a 10), .ref (a 11), .ref (a 12), .int 0])), ((a 12), .inr (1, [.ref (a 13), .ref (a 14), .ref (a 15), .int 1, .ref (a 10), .ref (a 16), .ref (a 17), .ref (a 18), .ref (a 19)])), ((a 13), .inr (8, [.int 0, .int 0, .long 0, .ref (a 60), .ref (a 61), .ref (a 62), .ref (a 63), .ref (a 64), .ref (a 65), .ref (a 66), .ref (a 67)])), ((a 66), .inl (D.1 13, 8, .inl (fun _ => (-2))))])) (va_Qi (fun r (_ : Unit) => r = (-1)) (fun _ _ => True) (fun _ => False)) 0 0 (fun _ => False) := by
  refine Met.ofW (cc := cX11_back) (maxL := 3) (ret := (some .int)) (by decide) rfl ?_
  intro p e s m args below meth c s₁ B hml hv
  obtain ⟨rfl, hP, hK⟩ := hv
  have hx := B.exec
  have hb := B.bytes
  have hr := B.returns
  have hts := atoms_spec (ws := wz yX11_back cX11_back 3 (some .int)) B.pre
  have ht : ∀ w ∈ lw_gd, w.before _ s = true := fun w h => hts w (List.mem_cons_of_mem _ h)
  have hown : s.vm.findClass RX11 = some m.cls := findClass_of_methodNamed B.named
  have hlocks := B.notSynchronized
  have hS : va_S (fun _ => False) s.heap s.heap [] := va_S.rf
  have hl := lv_entry ([.ref (a 0), .int p0]) (n := 3) (Nat.le_of_ble_eq_true rfl)
  rw [lg_entry_eq]
  generalize (lg_sl ([.ref (a 0), .int p0]) ++ List.replicate (3 - (lg_sl ([.ref (a 0), .int p0])).length) Slot.unset).toArray = ls at hl ⊢
  have hl : lv_has ls 3 [(0, .ref (a 0)), (1, .int p0)] := hl
  refine lv_aload_n hx hb dX11_back_0 rfl (lv_at hl 0 rfl) ?_
  refine va_get (D := D) (ci := 11) (v := .ref (a 12)) (C := RX11) (T := TX11) (N := 13) hx hb ht inX11 hown hK hP 0 rfl rfl 11 (by decide) (ht (.fieldLink RX11 79 "CloneVolumes" "forest" "LCloneVolumes$Forest;") fl_X11_79) (fun _ h9 => h9) rfl dX11_back_1 ?_
  refine va_get (D := D) (ci := 1) (v := .ref (a 13)) (C := RX1) (T := TX1) (N := 9) hx hb ht inX1 hown hK hP 1 rfl rfl 0 (by decide) (ht (.fieldLink RX11 125 "CloneVolumes$Forest" "now" "LCloneVolumes$State;") fl_X11_125) (fun _ h9 => h9) rfl dX11_back_4 ?_
  refine lv_astore_n (lv' := [(2, .ref (a 13)), (0, .ref (a 0)), (1, .int p0)]) hx hb dX11_back_7 rfl hl (by decide) rfl (fun ls hl => ?_)
  refine lv_aload_n hx hb dX11_back_8 rfl (lv_at hl 0 rfl) ?_
  refine lv_iload_n hx hb dX11_back_9 rfl (lv_at hl 2 rfl) ?_
  refine zcV (As := [.int p0]) (rest := []) (C := RX8) (n := 1) ⟨hx, hb, hml, hown, ht⟩ (k_X8_isVolume l D a p0) (zgV ml_X11_161 im_X8_isVolume se_X8_isVolume in_X8 co_X8_isVolume) rfl rfl (by decide +kernel) ⟨Nat.le_of_ble_eq_true rfl, Nat.le_of_ble_eq_true rfl⟩ hK hP hS [2, 3] rfl 0 rfl rfl rfl rfl hl.1 rfl (Nat.le_of_ble_eq_true rfl) dX11_back_10 ⟨Nat.le_of_ble_eq_true rfl, Nat.le_of_ble_eq_true rfl⟩ (fun r_1 H locs hw hP hS => ?_)
  subst hw
  refine lv_if_eq (tgt := 27) hx hb dX11_back_13 (by decide) (fun _ => ?_) (fun c_2 => (z_abs c_2 (by decide)).elim)
  refine lv_iconst (v := (-1)) hx hb dX11_back_27 (by decide) ?_
  exact W.iret (v := (-1)) hx hb hr (fun t ht hW => ⟨⟨(-1), (), rfl, rfl, trivial⟩, hS.F ht⟩) hS.2.2 dX11_back_28
set_option maxHeartbeats 4000000 in
set_option maxRecDepth 100000 in
theorem k_X11_octet (l : Launch) (D : va_G) (a : Nat → Nat) (p0 : Int32) : Met l yX11_octet (wz yX11_octet cX11_octet 2 (some .int)) { frames := 0, cells := 0, slots := 0, locals := 0 } (va_Pc [.ref (a 0), .int p0] (zP D [((a 0), .inr (11, [.ref (a 1), .ref (a 2), .ref (a 3), .ref (a 4), .ref (a 5), .ref (a 6), .ref (a 7), .ref (a 8), .ref (a 9), .ref (a 10), .ref (a 11), .ref (a 12), .int 0])), ((a 5), .inr (4, [.ref (a 30), .int 0, .int 0, .ref (a 31), .ref (a 32), .ref (a 33)]))])) (va_Qi (fun r (_ : Unit) => r = (-1)) (fun _ _ => True) (fun _ => False)) 0 0 (fun _ => False) := by
  refine Met.ofW (cc := cX11_octet) (maxL := 2) (ret := (some .int)) (by decide) rfl ?_
  intro p e s m args below meth c s₁ B hml hv
  obtain ⟨rfl, hP, hK⟩ := hv
  have hx := B.exec
  have hb := B.bytes
  have hr := B.returns
  have hts := atoms_spec (ws := wz yX11_octet cX11_octet 2 (some .int)) B.pre
  have ht : ∀ w ∈ lw_gd, w.before _ s = true := fun w h => hts w (List.mem_cons_of_mem _ h)
  have hown : s.vm.findClass RX11 = some m.cls := findClass_of_methodNamed B.named
  have hlocks := B.notSynchronized
  have hS : va_S (fun _ => False) s.heap s.heap [] := va_S.rf
  have hl := lv_entry ([.ref (a 0), .int p0]) (n := 2) (Nat.le_of_ble_eq_true rfl)
  rw [lg_entry_eq]
  generalize (lg_sl ([.ref (a 0), .int p0]) ++ List.replicate (2 - (lg_sl ([.ref (a 0), .int p0])).length) Slot.unset).toArray = ls at hl ⊢
  have hl : lv_has ls 2 [(0, .ref (a 0)), (1, .int p0)] := hl
  refine lv_iload_n hx hb dX11_octet_0 rfl (lv_at hl 1 rfl) ?_
  refine lv_if_lt (tgt := 27) hx hb dX11_octet_1 (by decide) (fun c_1 => ?_) (fun c_1 => ?_)
  · have g_2 : p0.toInt < 0 := z_lt rfl (by decide) c_1
    refine lv_iconst (v := (-1)) hx hb dX11_octet_27 (by decide) ?_
    exact W.iret (v := (-1)) hx hb hr (fun t ht hW => ⟨⟨(-1), (), rfl, rfl, trivial⟩, hS.F ht⟩) hS.2.2 dX11_octet_28
  · have g_2 : 0 ≤ p0.toInt := z_nlt rfl (by decide) c_1
    refine lv_iload_n hx hb dX11_octet_4 rfl (lv_at hl 1 rfl) ?_
    refine lv_aload_n hx hb dX11_octet_5 rfl (lv_at hl 0 rfl) ?_
    refine va_get (D := D) (ci := 11) (v := .ref (a 5)) (C := RX11) (T := TX11) (N := 13) hx hb ht inX11 hown hK hP 0 rfl rfl 4 (by decide) (ht (.fieldLink RX11 42 "CloneVolumes" "picture" "LCloneVolumes$Picture;") fl_X11_42) (fun _ h9 => h9) rfl dX11_octet_6 ?_
    refine va_get (D := D) (ci := 4) (v := .int 0) (C := RX4) (T := TX4) (N := 6) hx hb ht inX4 hown hK hP 1 rfl rfl 1 (by decide) (ht (.fieldLink RX11 339 "CloneVolumes$Picture" "size" "I") fl_X11_339) (fun _ h9 => h9) rfl dX11_octet_9 ?_
    refine lv_icmp_ge (tgt := 27) hx hb dX11_octet_12 (by decide) (fun c_3 => ?_) (fun c_3 => ?_)
    · have g_4 : 0 ≤ p0.toInt := z_le (by decide) rfl c_3
      refine lv_iconst (v := (-1)) hx hb dX11_octet_27 (by decide) ?_
      exact W.iret (v := (-1)) hx hb hr (fun t ht hW => ⟨⟨(-1), (), rfl, rfl, trivial⟩, hS.F ht⟩) hS.2.2 dX11_octet_28
    · exfalso
      have g_4 : p0.toInt < 0 := z_nle (by decide) rfl c_3
      omega
set_option maxHeartbeats 4000000 in
set_option maxRecDepth 100000 in
theorem k_X11_has (l : Launch) (D : va_G) (a : Nat → Nat) (p0 : Int32) : Met l yX11_has (wz yX11_has cX11_has 3 (some .int)) { frames := 2, cells := 0, slots := 0, locals := 120 } (va_Pc [.ref (a 0), .int p0] (zP D [((a 0), .inr (11, [.ref (a 1), .ref (a 2), .ref (a 3), .ref (a 4), .ref (a 5), .ref (a 6), .ref (a 7), .ref (a 8), .ref (a 9), .ref (a 10), .ref (a 11), .ref (a 12), .int 0])), ((a 12), .inr (1, [.ref (a 13), .ref (a 14), .ref (a 15), .int 1, .ref (a 10), .ref (a 16), .ref (a 17), .ref (a 18), .ref (a 19)])), ((a 13), .inr (8, [.int 0, .int 0, .long 0, .ref (a 60), .ref (a 61), .ref (a 62), .ref (a 63), .ref (a 64), .ref (a 65), .ref (a 66), .ref (a 67)])), ((a 66), .inl (D.1 13, 8, .inl (fun _ => (-2)))), ((a 3), .inr (2, [.ref (a 22), .ref (a 23), .ref (a 24), .int 0, .ref (a 25), .int 0])), ((a 4), .inr (7, [.int 0, .ref (a 26), .ref (a 27), .ref (a 28), .int 0, .ref (a 29)]))])) (va_Qi (fun r (_ : Unit) => (r = 0 ∧ p0.toInt = 0) ∨ (r = 0 ∧ ¬ p0.toInt = 0 ∧ p0.toInt = 1) ∨ (r = 0 ∧ ¬ p0.toInt = 0 ∧ ¬ p0.toInt = 1 ∧ p0.toInt = 2) ∨ (r = 0 ∧ ¬ p0.toInt = 0 ∧ ¬ p0.toInt = 1 ∧ ¬ p0.toInt = 2 ∧ p0.toInt = 3) ∨ (r = 0 ∧ ¬ p0.toInt = 0 ∧ ¬ p0.toInt = 1 ∧ ¬ p0.toInt = 2 ∧ ¬ p0.toInt = 3 ∧ p0.toInt = 4) ∨ (r = 0 ∧ ¬ p0.toInt = 0 ∧ ¬ p0.toInt = 1 ∧ ¬ p0.toInt = 2 ∧ ¬ p0.toInt = 3 ∧ ¬ p0.toInt = 4 ∧ p0.toInt = 5) ∨ (r = 0 ∧ ¬ p0.toInt = 0 ∧ ¬ p0.toInt = 1 ∧ ¬ p0.toInt = 2 ∧ ¬ p0.toInt = 3 ∧ ¬ p0.toInt = 4 ∧ ¬ p0.toInt = 5 ∧ p0.toInt = 6) ∨ (r = 0 ∧ ¬ p0.toInt = 0 ∧ ¬ p0.toInt = 1 ∧ ¬ p0.toInt = 2 ∧ ¬ p0.toInt = 3 ∧ ¬ p0.toInt = 4 ∧ ¬ p0.toInt = 5 ∧ ¬ p0.toInt = 6 ∧ p0.toInt = 7) ∨ (r = 0 ∧ ¬ p0.toInt = 0 ∧ ¬ p0.toInt = 1 ∧ ¬ p0.toInt = 2 ∧ ¬ p0.toInt = 3 ∧ ¬ p0.toInt = 4 ∧ ¬ p0.toInt = 5 ∧ ¬ p0.toInt = 6 ∧ ¬ p0.toInt = 7 ∧ p0.toInt = 8) ∨ (r = 0 ∧ ¬ p0.toInt = 0 ∧ ¬ p0.toInt = 1 ∧ ¬ p0.toInt = 2 ∧ ¬ p0.toInt = 3 ∧ ¬ p0.toInt = 4 ∧ ¬ p0.toInt = 5 ∧ ¬ p0.toInt = 6 ∧ ¬ p0.toInt = 7 ∧ ¬ p0.toInt = 8 ∧ p0.toInt = 9) ∨ (r = (-1) ∧ ¬ p0.toInt = 0 ∧ ¬ p0.toInt = 1 ∧ ¬ p0.toInt = 2 ∧ ¬ p0.toInt = 3 ∧ ¬ p0.toInt = 4 ∧ ¬ p0.toInt = 5 ∧ ¬ p0.toInt = 6 ∧ ¬ p0.toInt = 7 ∧ ¬ p0.toInt = 8 ∧ ¬ p0.toInt = 9)) (fun _ _ => True) (fun _ => False)) 0 0 (fun _ => False) := by
  refine Met.ofW (cc := cX11_has) (maxL := 3) (ret := (some .int)) (by decide) rfl ?_
  intro p e s m args below meth c s₁ B hml hv
  obtain ⟨rfl, hP, hK⟩ := hv
  have hx := B.exec
  have hb := B.bytes
  have hr := B.returns
  have hts := atoms_spec (ws := wz yX11_has cX11_has 3 (some .int)) B.pre
  have ht : ∀ w ∈ lw_gd, w.before _ s = true := fun w h => hts w (List.mem_cons_of_mem _ h)
  have hown : s.vm.findClass RX11 = some m.cls := findClass_of_methodNamed B.named
  have hlocks := B.notSynchronized
  have hS : va_S (fun _ => False) s.heap s.heap [] := va_S.rf
  have hl := lv_entry ([.ref (a 0), .int p0]) (n := 3) (Nat.le_of_ble_eq_true rfl)
  rw [lg_entry_eq]
  generalize (lg_sl ([.ref (a 0), .int p0]) ++ List.replicate (3 - (lg_sl ([.ref (a 0), .int p0])).length) Slot.unset).toArray = ls at hl ⊢
  have hl : lv_has ls 3 [(0, .ref (a 0)), (1, .int p0)] := hl
  refine lv_aload_n hx hb dX11_has_0 rfl (lv_at hl 0 rfl) ?_
  refine va_get (D := D) (ci := 11) (v := .ref (a 12)) (C := RX11) (T := TX11) (N := 13) hx hb ht inX11 hown hK hP 0 rfl rfl 11 (by decide) (ht (.fieldLink RX11 79 "CloneVolumes" "forest" "LCloneVolumes$Forest;") fl_X11_79) (fun _ h9 => h9) rfl dX11_has_1 ?_
  refine va_get (D := D) (ci := 1) (v := .ref (a 13)) (C := RX1) (T := TX1) (N := 9) hx hb ht inX1 hown hK hP 1 rfl rfl 0 (by decide) (ht (.fieldLink RX11 125 "CloneVolumes$Forest" "now" "LCloneVolumes$State;") fl_X11_125) (fun _ h9 => h9) rfl dX11_has_4 ?_
  refine lv_astore_n (lv' := [(2, .ref (a 13)), (0, .ref (a 0)), (1, .int p0)]) hx hb dX11_has_7 rfl hl (by decide) rfl (fun ls hl => ?_)
  refine lv_iload_n hx hb dX11_has_8 rfl (lv_at hl 2 rfl) ?_
  by_cases c_1 : p0 = 0
  · have g_2 : p0.toInt = 0 := z_eq rfl (by decide) c_1
    refine lv_tableIn (off := 55) (tgt := 64) hx hb dX11_has_9 (by omega) (by omega) (by rw [g_2]; decide) (by decide) ?_
    refine lv_aload_n hx hb dX11_has_64 rfl (lv_at hl 0 rfl) ?_
    refine va_get (D := D) (ci := 8) (v := .int 0) (C := RX8) (T := TX8) (N := 11) hx hb ht inX8 hown hK hP 2 rfl rfl 0 (by decide) (ht (.fieldLink RX11 129 "CloneVolumes$State" "blocks" "I") fl_X11_129) (fun _ h9 => h9) rfl dX11_has_65 ?_
    exact W.iret (v := 0) hx hb hr (fun t ht hW => ⟨⟨0, (), rfl, Or.inl (⟨rfl, zu_eq rfl (by decide) g_2⟩), trivial⟩, hS.F ht⟩) hS.2.2 dX11_has_68
  · have g_2 : ¬ p0.toInt = 0 := z_ne rfl (by decide) c_1
    by_cases c_3 : p0 = 1
    · have g_4 : p0.toInt = 1 := z_eq rfl (by decide) c_3
      refine lv_tableIn (off := 60) (tgt := 69) hx hb dX11_has_9 (by omega) (by omega) (by rw [g_4]; decide) (by decide) ?_
      refine lv_aload_n hx hb dX11_has_69 rfl (lv_at hl 0 rfl) ?_
      refine zcV (As := []) (rest := []) (C := RX8) (n := 0) ⟨hx, hb, hml, hown, ht⟩ (k_X8_volumes l D a) (zgV ml_X11_134 im_X8_volumes se_X8_volumes in_X8 co_X8_volumes) rfl rfl (by decide +kernel) ⟨Nat.le_of_ble_eq_true rfl, Nat.le_of_ble_eq_true rfl⟩ hK hP hS [2, 3] rfl 0 rfl rfl rfl rfl hl.1 rfl (Nat.le_of_ble_eq_true rfl) dX11_has_70 ⟨Nat.le_of_ble_eq_true rfl, Nat.le_of_ble_eq_true rfl⟩ (fun r_5 H locs hw hP hS => ?_)
      subst hw
      exact W.iret (v := 0) hx hb hr (fun t ht hW => ⟨⟨0, (), rfl, Or.inr (Or.inl (⟨rfl, zu_ne rfl (by decide) g_2, zu_eq rfl (by decide) g_4⟩)), trivial⟩, hS.F ht⟩) hS.2.2 dX11_has_73
    · have g_4 : ¬ p0.toInt = 1 := z_ne rfl (by decide) c_3
      by_cases c_6 : p0 = 2
      · have g_7 : p0.toInt = 2 := z_eq rfl (by decide) c_6
        refine lv_tableIn (off := 65) (tgt := 74) hx hb dX11_has_9 (by omega) (by omega) (by rw [g_7]; decide) (by decide) ?_
        refine lv_aload_n hx hb dX11_has_74 rfl (lv_at hl 0 rfl) ?_
        refine zcV (As := []) (rest := []) (C := RX8) (n := 0) ⟨hx, hb, hml, hown, ht⟩ (k_X8_used l D a) (zgV ml_X11_138 im_X8_used se_X8_used in_X8 co_X8_used) rfl rfl (by decide +kernel) ⟨Nat.le_of_ble_eq_true rfl, Nat.le_of_ble_eq_true rfl⟩ hK hP hS [2] rfl 0 rfl rfl rfl rfl hl.1 rfl (Nat.le_of_ble_eq_true rfl) dX11_has_75 ⟨Nat.le_of_ble_eq_true rfl, Nat.le_of_ble_eq_true rfl⟩ (fun r_8 H locs hw hP hS => ?_)
        subst hw
        exact W.iret (v := 0) hx hb hr (fun t ht hW => ⟨⟨0, (), rfl, Or.inr (Or.inr (Or.inl (⟨rfl, zu_ne rfl (by decide) g_2, zu_ne rfl (by decide) g_4, zu_eq rfl (by decide) g_7⟩))), trivial⟩, hS.F ht⟩) hS.2.2 dX11_has_78
      · have g_7 : ¬ p0.toInt = 2 := z_ne rfl (by decide) c_6
        by_cases c_9 : p0 = 3
        · have g_10 : p0.toInt = 3 := z_eq rfl (by decide) c_9
          refine lv_tableIn (off := 70) (tgt := 79) hx hb dX11_has_9 (by omega) (by omega) (by rw [g_10]; decide) (by decide) ?_
          refine lv_aload_n hx hb dX11_has_79 rfl (lv_at hl 0 rfl) ?_
          refine zcV (As := []) (rest := []) (C := RX8) (n := 0) ⟨hx, hb, hml, hown, ht⟩ (k_X8_held l D a) (zgV ml_X11_141 im_X8_held se_X8_held in_X8 co_X8_held) rfl rfl (by decide +kernel) ⟨Nat.le_of_ble_eq_true rfl, Nat.le_of_ble_eq_true rfl⟩ hK hP hS [2] rfl 0 rfl rfl rfl rfl hl.1 rfl (Nat.le_of_ble_eq_true rfl) dX11_has_80 ⟨Nat.le_of_ble_eq_true rfl, Nat.le_of_ble_eq_true rfl⟩ (fun r_11 H locs hw hP hS => ?_)
          subst hw
          exact W.iret (v := 0) hx hb hr (fun t ht hW => ⟨⟨0, (), rfl, Or.inr (Or.inr (Or.inr (Or.inl (⟨rfl, zu_ne rfl (by decide) g_2, zu_ne rfl (by decide) g_4, zu_ne rfl (by decide) g_7, zu_eq rfl (by decide) g_10⟩)))), trivial⟩, hS.F ht⟩) hS.2.2 dX11_has_83
        · have g_10 : ¬ p0.toInt = 3 := z_ne rfl (by decide) c_9
          by_cases c_12 : p0 = 4
          · have g_13 : p0.toInt = 4 := z_eq rfl (by decide) c_12
            refine lv_tableIn (off := 75) (tgt := 84) hx hb dX11_has_9 (by omega) (by omega) (by rw [g_13]; decide) (by decide) ?_
            refine lv_aload_n hx hb dX11_has_84 rfl (lv_at hl 0 rfl) ?_
            refine va_get (D := D) (ci := 8) (v := .int 0) (C := RX8) (T := TX8) (N := 11) hx hb ht inX8 hown hK hP 2 rfl rfl 0 (by decide) (ht (.fieldLink RX11 129 "CloneVolumes$State" "blocks" "I") fl_X11_129) (fun _ h9 => h9) rfl dX11_has_85 ?_
            refine lv_aload_n hx hb dX11_has_88 rfl (lv_at hl 0 rfl) ?_
            refine zcV (As := []) (rest := [.int 0]) (C := RX8) (n := 0) ⟨hx, hb, hml, hown, ht⟩ (k_X8_used l D a) (zgV ml_X11_138 im_X8_used se_X8_used in_X8 co_X8_used) rfl rfl (by decide +kernel) ⟨Nat.le_of_ble_eq_true rfl, Nat.le_of_ble_eq_true rfl⟩ hK hP hS [2] rfl 0 rfl rfl rfl rfl hl.1 rfl (Nat.le_of_ble_eq_true rfl) dX11_has_89 ⟨Nat.le_of_ble_eq_true rfl, Nat.le_of_ble_eq_true rfl⟩ (fun r_14 H locs hw hP hS => ?_)
            subst hw
            refine lv_isub hx hb dX11_has_92 ?_
            refine z_topi (y := 0) (by decide) ?_
            refine lv_aload_n hx hb dX11_has_93 rfl (lv_at hl 0 rfl) ?_
            refine zcV (As := []) (rest := [.int 0]) (C := RX8) (n := 0) ⟨hx, hb, hml, hown, ht⟩ (k_X8_held l D a) (zgV ml_X11_141 im_X8_held se_X8_held in_X8 co_X8_held) rfl rfl (by decide +kernel) ⟨Nat.le_of_ble_eq_true rfl, Nat.le_of_ble_eq_true rfl⟩ hK hP hS [2] rfl 0 rfl rfl rfl rfl hl.1 rfl (Nat.le_of_ble_eq_true rfl) dX11_has_94 ⟨Nat.le_of_ble_eq_true rfl, Nat.le_of_ble_eq_true rfl⟩ (fun r_15 H locs hw hP hS => ?_)
            subst hw
            refine lv_isub hx hb dX11_has_97 ?_
            refine z_topi (y := 0) (by decide) ?_
            exact W.iret (v := 0) hx hb hr (fun t ht hW => ⟨⟨0, (), rfl, Or.inr (Or.inr (Or.inr (Or.inr (Or.inl (⟨rfl, zu_ne rfl (by decide) g_2, zu_ne rfl (by decide) g_4, zu_ne rfl (by decide) g_7, zu_ne rfl (by decide) g_10, zu_eq rfl (by decide) g_13⟩))))), trivial⟩, hS.F ht⟩) hS.2.2 dX11_has_98
          · have g_13 : ¬ p0.toInt = 4 := z_ne rfl (by decide) c_12
            by_cases c_16 : p0 = 5
            · have g_17 : p0.toInt = 5 := z_eq rfl (by decide) c_16
              refine lv_tableIn (off := 90) (tgt := 99) hx hb dX11_has_9 (by omega) (by omega) (by rw [g_17]; decide) (by decide) ?_
              refine lv_aload_n hx hb dX11_has_99 rfl (lv_at hl 0 rfl) ?_
              refine va_get (D := D) (ci := 8) (v := .int 0) (C := RX8) (T := TX8) (N := 11) hx hb ht inX8 hown hK hP 2 rfl rfl 1 (by decide) (ht (.fieldLink RX11 144 "CloneVolumes$State" "spent" "I") fl_X11_144) (fun _ h9 => h9) rfl dX11_has_100 ?_
              exact W.iret (v := 0) hx hb hr (fun t ht hW => ⟨⟨0, (), rfl, Or.inr (Or.inr (Or.inr (Or.inr (Or.inr (Or.inl (⟨rfl, zu_ne rfl (by decide) g_2, zu_ne rfl (by decide) g_4, zu_ne rfl (by decide) g_7, zu_ne rfl (by decide) g_10, zu_ne rfl (by decide) g_13, zu_eq rfl (by decide) g_17⟩)))))), trivial⟩, hS.F ht⟩) hS.2.2 dX11_has_103
            · have g_17 : ¬ p0.toInt = 5 := z_ne rfl (by decide) c_16
              by_cases c_18 : p0 = 6
              · have g_19 : p0.toInt = 6 := z_eq rfl (by decide) c_18
                refine lv_tableIn (off := 95) (tgt := 104) hx hb dX11_has_9 (by omega) (by omega) (by rw [g_19]; decide) (by decide) ?_
                refine lv_aload_n hx hb dX11_has_104 rfl (lv_at hl 1 rfl) ?_
                refine va_get (D := D) (ci := 11) (v := .ref (a 3)) (C := RX11) (T := TX11) (N := 13) hx hb ht inX11 hown hK hP 0 rfl rfl 2 (by decide) (ht (.fieldLink RX11 28 "CloneVolumes" "history" "LCloneVolumes$History;") fl_X11_28) (fun _ h9 => h9) rfl dX11_has_105 ?_
                refine zcV (As := []) (rest := []) (C := RX2) (n := 0) ⟨hx, hb, hml, hown, ht⟩ (k_X2_toldRows l D a) (zgV ml_X11_147 im_X2_toldRows se_X2_toldRows in_X2 co_X2_toldRows) rfl rfl (by decide +kernel) ⟨Nat.le_of_ble_eq_true rfl, Nat.le_of_ble_eq_true rfl⟩ hK hP hS [4] rfl 0 rfl rfl rfl rfl hl.1 rfl (Nat.le_of_ble_eq_true rfl) dX11_has_108 ⟨Nat.le_of_ble_eq_true rfl, Nat.le_of_ble_eq_true rfl⟩ (fun r_20 H locs hw hP hS => ?_)
                subst hw
                exact W.iret (v := 0) hx hb hr (fun t ht hW => ⟨⟨0, (), rfl, Or.inr (Or.inr (Or.inr (Or.inr (Or.inr (Or.inr (Or.inl (⟨rfl, zu_ne rfl (by decide) g_2, zu_ne rfl (by decide) g_4, zu_ne rfl (by decide) g_7, zu_ne rfl (by decide) g_10, zu_ne rfl (by decide) g_13, zu_ne rfl (by decide) g_17, zu_eq rfl (by decide) g_19⟩))))))), trivial⟩, hS.F ht⟩) hS.2.2 dX11_has_111
              · have g_19 : ¬ p0.toInt = 6 := z_ne rfl (by decide) c_18
                by_cases c_21 : p0 = 7
                · have g_22 : p0.toInt = 7 := z_eq rfl (by decide) c_21
                  refine lv_tableIn (off := 103) (tgt := 112) hx hb dX11_has_9 (by omega) (by omega) (by rw [g_22]; decide) (by decide) ?_
                  refine lv_aload_n hx hb dX11_has_112 rfl (lv_at hl 1 rfl) ?_
                  refine va_get (D := D) (ci := 11) (v := .ref (a 4)) (C := RX11) (T := TX11) (N := 13) hx hb ht inX11 hown hK hP 0 rfl rfl 3 (by decide) (ht (.fieldLink RX11 35 "CloneVolumes" "sight" "LCloneVolumes$Sight;") fl_X11_35) (fun _ h9 => h9) rfl dX11_has_113 ?_
                  refine va_get (D := D) (ci := 7) (v := .int 0) (C := RX7) (T := TX7) (N := 6) hx hb ht inX7 hown hK hP 5 rfl rfl 0 (by decide) (ht (.fieldLink RX11 109 "CloneVolumes$Sight" "rows" "I") fl_X11_109) (fun _ h9 => h9) rfl dX11_has_116 ?_
                  exact W.iret (v := 0) hx hb hr (fun t ht hW => ⟨⟨0, (), rfl, Or.inr (Or.inr (Or.inr (Or.inr (Or.inr (Or.inr (Or.inr (Or.inl (⟨rfl, zu_ne rfl (by decide) g_2, zu_ne rfl (by decide) g_4, zu_ne rfl (by decide) g_7, zu_ne rfl (by decide) g_10, zu_ne rfl (by decide) g_13, zu_ne rfl (by decide) g_17, zu_ne rfl (by decide) g_19, zu_eq rfl (by decide) g_22⟩)))))))), trivial⟩, hS.F ht⟩) hS.2.2 dX11_has_119
                · have g_22 : ¬ p0.toInt = 7 := z_ne rfl (by decide) c_21
                  by_cases c_23 : p0 = 8
                  · have g_24 : p0.toInt = 8 := z_eq rfl (by decide) c_23
                    refine lv_tableIn (off := 111) (tgt := 120) hx hb dX11_has_9 (by omega) (by omega) (by rw [g_24]; decide) (by decide) ?_
                    refine lv_aload_n hx hb dX11_has_120 rfl (lv_at hl 1 rfl) ?_
                    refine va_get (D := D) (ci := 11) (v := .ref (a 3)) (C := RX11) (T := TX11) (N := 13) hx hb ht inX11 hown hK hP 0 rfl rfl 2 (by decide) (ht (.fieldLink RX11 28 "CloneVolumes" "history" "LCloneVolumes$History;") fl_X11_28) (fun _ h9 => h9) rfl dX11_has_121 ?_
                    refine va_get (D := D) (ci := 2) (v := .int 0) (C := RX2) (T := TX2) (N := 6) hx hb ht inX2 hown hK hP 4 rfl rfl 5 (by decide) (ht (.fieldLink RX11 150 "CloneVolumes$History" "depth" "I") fl_X11_150) (fun _ h9 => h9) rfl dX11_has_124 ?_
                    exact W.iret (v := 0) hx hb hr (fun t ht hW => ⟨⟨0, (), rfl, Or.inr (Or.inr (Or.inr (Or.inr (Or.inr (Or.inr (Or.inr (Or.inr (Or.inl (⟨rfl, zu_ne rfl (by decide) g_2, zu_ne rfl (by decide) g_4, zu_ne rfl (by decide) g_7, zu_ne rfl (by decide) g_10, zu_ne rfl (by decide) g_13, zu_ne rfl (by decide) g_17, zu_ne rfl (by decide) g_19, zu_ne rfl (by decide) g_22, zu_eq rfl (by decide) g_24⟩))))))))), trivial⟩, hS.F ht⟩) hS.2.2 dX11_has_127
                  · have g_24 : ¬ p0.toInt = 8 := z_ne rfl (by decide) c_23
                    by_cases c_25 : p0 = 9
                    · have g_26 : p0.toInt = 9 := z_eq rfl (by decide) c_25
                      refine lv_tableIn (off := 119) (tgt := 128) hx hb dX11_has_9 (by omega) (by omega) (by rw [g_26]; decide) (by decide) ?_
                      refine lv_aload_n hx hb dX11_has_128 rfl (lv_at hl 1 rfl) ?_
                      refine va_get (D := D) (ci := 11) (v := .int 0) (C := RX11) (T := TX11) (N := 13) hx hb ht inX11 hown hK hP 0 rfl rfl 12 (by decide) (ht (.fieldLink RX11 112 "CloneVolumes" "told" "Z") fl_X11_112) (fun _ h9 => h9) rfl dX11_has_129 ?_
                      refine lv_if_eq (tgt := 145) hx hb dX11_has_132 (by decide) (fun _ => ?_) (fun c_27 => (z_abs c_27 (by decide)).elim)
                      refine lv_iconst (v := 0) hx hb dX11_has_145 (by decide) ?_
                      exact W.iret (v := 0) hx hb hr (fun t ht hW => ⟨⟨0, (), rfl, Or.inr (Or.inr (Or.inr (Or.inr (Or.inr (Or.inr (Or.inr (Or.inr (Or.inr (Or.inl (⟨rfl, zu_ne rfl (by decide) g_2, zu_ne rfl (by decide) g_4, zu_ne rfl (by decide) g_7, zu_ne rfl (by decide) g_10, zu_ne rfl (by decide) g_13, zu_ne rfl (by decide) g_17, zu_ne rfl (by decide) g_19, zu_ne rfl (by decide) g_22, zu_ne rfl (by decide) g_24, zu_eq rfl (by decide) g_26⟩)))))))))), trivial⟩, hS.F ht⟩) hS.2.2 dX11_has_146
                    · have g_26 : ¬ p0.toInt = 9 := z_ne rfl (by decide) c_25
                      refine lv_tableOut (tgt := 147) hx hb dX11_has_9 (by omega) (by decide) ?_
                      refine lv_iconst (v := (-1)) hx hb dX11_has_147 (by decide) ?_
                      exact W.iret (v := (-1)) hx hb hr (fun t ht hW => ⟨⟨(-1), (), rfl, Or.inr (Or.inr (Or.inr (Or.inr (Or.inr (Or.inr (Or.inr (Or.inr (Or.inr (Or.inr (⟨rfl, zu_ne rfl (by decide) g_2, zu_ne rfl (by decide) g_4, zu_ne rfl (by decide) g_7, zu_ne rfl (by decide) g_10, zu_ne rfl (by decide) g_13, zu_ne rfl (by decide) g_17, zu_ne rfl (by decide) g_19, zu_ne rfl (by decide) g_22, zu_ne rfl (by decide) g_24, zu_ne rfl (by decide) g_26⟩)))))))))), trivial⟩, hS.F ht⟩) hS.2.2 dX11_has_148
