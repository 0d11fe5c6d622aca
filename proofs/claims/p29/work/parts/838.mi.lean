theorem cl_X12_590 : Cond.constantLong RX12 590 5 ∈ lw_gd := zm (lw_g_9 (List.mem_of_getElem? (i := 154) (by decide +kernel))) rfl
theorem co_X12_clearsTouched : Cond.code yX12_clearsTouched cX12_clearsTouched 2 none ∈ lw_gd := zm (lw_g_9 (List.mem_of_getElem? (i := 178) (by decide +kernel))) rfl
theorem co_X12_drops : Cond.code yX12_drops cX12_drops 2 none ∈ lw_gd := zm (lw_g_9 (List.mem_of_getElem? (i := 182) (by decide +kernel))) rfl
theorem co_X12_dropsMany : Cond.code yX12_dropsMany cX12_dropsMany 4 (some .int) ∈ lw_gd := zm (lw_g_9 (List.mem_of_getElem? (i := 170) (by decide +kernel))) rfl
theorem co_X12_freeMany : Cond.code yX12_freeMany cX12_freeMany 1 (some .int) ∈ lw_gd := zm (lw_g_9 (List.mem_of_getElem? (i := 149) (by decide +kernel))) rfl
theorem co_X12_heldMany : Cond.code yX12_heldMany cX12_heldMany 3 (some .int) ∈ lw_gd := zm (lw_g_9 (List.mem_of_getElem? (i := 141) (by decide +kernel))) rfl
theorem co_X12_isHeld : Cond.code yX12_isHeld cX12_isHeld 2 (some .boolean) ∈ lw_gd := zm (lw_g_9 (List.mem_of_getElem? (i := 145) (by decide +kernel))) rfl
theorem co_X12_isVolume : Cond.code yX12_isVolume cX12_isVolume 3 (some .boolean) ∈ lw_gd := zm (lw_g_9 (List.mem_of_getElem? (i := 132) (by decide +kernel))) rfl
theorem co_X12_laysLeaf : Cond.code yX12_laysLeaf cX12_laysLeaf 3 none ∈ lw_gd := zm (lw_g_9 (List.mem_of_getElem? (i := 166) (by decide +kernel))) rfl
theorem co_X12_laysTree : Cond.code yX12_laysTree cX12_laysTree 5 none ∈ lw_gd := zm (lw_g_9 (List.mem_of_getElem? (i := 162) (by decide +kernel))) rfl
theorem co_X12_putsAside : Cond.code yX12_putsAside cX12_putsAside 2 none ∈ lw_gd := zm (lw_g_9 (List.mem_of_getElem? (i := 174) (by decide +kernel))) rfl
theorem co_X12_takesBack : Cond.code yX12_takesBack cX12_takesBack 2 none ∈ lw_gd := zm (lw_g_9 (List.mem_of_getElem? (i := 186) (by decide +kernel))) rfl
theorem co_X12_usedMany : Cond.code yX12_usedMany cX12_usedMany 3 (some .int) ∈ lw_gd := zm (lw_g_9 (List.mem_of_getElem? (i := 137) (by decide +kernel))) rfl
theorem co_X12_volumeMany : Cond.code yX12_volumeMany cX12_volumeMany 3 (some .int) ∈ lw_gd := zm (lw_g_9 (List.mem_of_getElem? (i := 128) (by decide +kernel))) rfl
theorem fl_X12_592 : Cond.fieldLink RX12 592 "CloneVolumesModel" "keyMany" "I" ∈ lw_gd := zm (lw_g_6 (List.mem_of_getElem? (i := 208) (by decide +kernel))) rfl
theorem fl_X12_595 : Cond.fieldLink RX12 595 "CloneVolumesModel" "treeMany" "I" ∈ lw_gd := zm (lw_g_6 (List.mem_of_getElem? (i := 209) (by decide +kernel))) rfl
theorem im_X12_clearsTouched : Cond.instanceMethod yX12_clearsTouched ∈ lw_gd := zm (lw_g_9 (List.mem_of_getElem? (i := 177) (by decide +kernel))) rfl
theorem im_X12_drops : Cond.instanceMethod yX12_drops ∈ lw_gd := zm (lw_g_9 (List.mem_of_getElem? (i := 181) (by decide +kernel))) rfl
theorem im_X12_dropsMany : Cond.instanceMethod yX12_dropsMany ∈ lw_gd := zm (lw_g_9 (List.mem_of_getElem? (i := 169) (by decide +kernel))) rfl
theorem im_X12_freeMany : Cond.instanceMethod yX12_freeMany ∈ lw_gd := zm (lw_g_9 (List.mem_of_getElem? (i := 148) (by decide +kernel))) rfl
theorem im_X12_heldMany : Cond.instanceMethod yX12_heldMany ∈ lw_gd := zm (lw_g_9 (List.mem_of_getElem? (i := 140) (by decide +kernel))) rfl
theorem im_X12_isHeld : Cond.instanceMethod yX12_isHeld ∈ lw_gd := zm (lw_g_9 (List.mem_of_getElem? (i := 144) (by decide +kernel))) rfl
theorem im_X12_isVolume : Cond.instanceMethod yX12_isVolume ∈ lw_gd := zm (lw_g_9 (List.mem_of_getElem? (i := 131) (by decide +kernel))) rfl
theorem im_X12_laysLeaf : Cond.instanceMethod yX12_laysLeaf ∈ lw_gd := zm (lw_g_9 (List.mem_of_getElem? (i := 165) (by decide +kernel))) rfl
theorem im_X12_laysTree : Cond.instanceMethod yX12_laysTree ∈ lw_gd := zm (lw_g_9 (List.mem_of_getElem? (i := 161) (by decide +kernel))) rfl
theorem im_X12_putsAside : Cond.instanceMethod yX12_putsAside ∈ lw_gd := zm (lw_g_9 (List.mem_of_getElem? (i := 173) (by decide +kernel))) rfl
theorem im_X12_takesBack : Cond.instanceMethod yX12_takesBack ∈ lw_gd := zm (lw_g_9 (List.mem_of_getElem? (i := 185) (by decide +kernel))) rfl
theorem im_X12_usedMany : Cond.instanceMethod yX12_usedMany ∈ lw_gd := zm (lw_g_9 (List.mem_of_getElem? (i := 136) (by decide +kernel))) rfl
theorem im_X12_volumeMany : Cond.instanceMethod yX12_volumeMany ∈ lw_gd := zm (lw_g_9 (List.mem_of_getElem? (i := 127) (by decide +kernel))) rfl
theorem ml_X12_568 : Cond.methodLink RX12 568 yX12_clearsTouched ∈ lw_gd := zm (lw_g_9 (List.mem_of_getElem? (i := 175) (by decide +kernel))) rfl
theorem ml_X12_571 : Cond.methodLink RX12 571 yX12_isVolume ∈ lw_gd := zm (lw_g_9 (List.mem_of_getElem? (i := 129) (by decide +kernel))) rfl
theorem ml_X12_575 : Cond.methodLink RX12 575 yX12_isHeld ∈ lw_gd := zm (lw_g_9 (List.mem_of_getElem? (i := 142) (by decide +kernel))) rfl
theorem ml_X12_578 : Cond.methodLink RX12 578 yX12_usedMany ∈ lw_gd := zm (lw_g_9 (List.mem_of_getElem? (i := 134) (by decide +kernel))) rfl
theorem ml_X12_581 : Cond.methodLink RX12 581 yX12_heldMany ∈ lw_gd := zm (lw_g_9 (List.mem_of_getElem? (i := 138) (by decide +kernel))) rfl
theorem ml_X12_584 : Cond.methodLink RX12 584 yX12_volumeMany ∈ lw_gd := zm (lw_g_9 (List.mem_of_getElem? (i := 125) (by decide +kernel))) rfl
theorem ml_X12_587 : Cond.methodLink RX12 587 yX12_freeMany ∈ lw_gd := zm (lw_g_9 (List.mem_of_getElem? (i := 146) (by decide +kernel))) rfl
theorem ml_X12_598 : Cond.methodLink RX12 598 yX12_laysLeaf ∈ lw_gd := zm (lw_g_9 (List.mem_of_getElem? (i := 163) (by decide +kernel))) rfl
theorem ml_X12_601 : Cond.methodLink RX12 601 yX12_putsAside ∈ lw_gd := zm (lw_g_9 (List.mem_of_getElem? (i := 171) (by decide +kernel))) rfl
theorem ml_X12_604 : Cond.methodLink RX12 604 yX12_drops ∈ lw_gd := zm (lw_g_9 (List.mem_of_getElem? (i := 179) (by decide +kernel))) rfl
theorem ml_X12_607 : Cond.methodLink RX12 607 yX12_takesBack ∈ lw_gd := zm (lw_g_9 (List.mem_of_getElem? (i := 183) (by decide +kernel))) rfl
theorem ml_X12_610 : Cond.methodLink RX12 610 yX12_laysTree ∈ lw_gd := zm (lw_g_9 (List.mem_of_getElem? (i := 159) (by decide +kernel))) rfl
theorem ml_X12_613 : Cond.methodLink RX12 613 yX12_dropsMany ∈ lw_gd := zm (lw_g_9 (List.mem_of_getElem? (i := 167) (by decide +kernel))) rfl
theorem se_X12_clearsTouched : Cond.selects RX12 yX12_clearsTouched yX12_clearsTouched ∈ lw_gd := zm (List.mem_of_getElem? (i := 157) (by decide +kernel)) rfl
theorem se_X12_drops : Cond.selects RX12 yX12_drops yX12_drops ∈ lw_gd := zm (List.mem_of_getElem? (i := 158) (by decide +kernel)) rfl
theorem se_X12_dropsMany : Cond.selects RX12 yX12_dropsMany yX12_dropsMany ∈ lw_gd := zm (List.mem_of_getElem? (i := 155) (by decide +kernel)) rfl
theorem se_X12_freeMany : Cond.selects RX12 yX12_freeMany yX12_freeMany ∈ lw_gd := zm (List.mem_of_getElem? (i := 152) (by decide +kernel)) rfl
theorem se_X12_heldMany : Cond.selects RX12 yX12_heldMany yX12_heldMany ∈ lw_gd := zm (List.mem_of_getElem? (i := 150) (by decide +kernel)) rfl
theorem se_X12_isHeld : Cond.selects RX12 yX12_isHeld yX12_isHeld ∈ lw_gd := zm (List.mem_of_getElem? (i := 151) (by decide +kernel)) rfl
theorem se_X12_isVolume : Cond.selects RX12 yX12_isVolume yX12_isVolume ∈ lw_gd := zm (List.mem_of_getElem? (i := 148) (by decide +kernel)) rfl
theorem se_X12_laysLeaf : Cond.selects RX12 yX12_laysLeaf yX12_laysLeaf ∈ lw_gd := zm (List.mem_of_getElem? (i := 154) (by decide +kernel)) rfl
theorem se_X12_laysTree : Cond.selects RX12 yX12_laysTree yX12_laysTree ∈ lw_gd := zm (List.mem_of_getElem? (i := 153) (by decide +kernel)) rfl
theorem se_X12_putsAside : Cond.selects RX12 yX12_putsAside yX12_putsAside ∈ lw_gd := zm (List.mem_of_getElem? (i := 156) (by decide +kernel)) rfl
theorem se_X12_takesBack : Cond.selects RX12 yX12_takesBack yX12_takesBack ∈ lw_gd := zm (List.mem_of_getElem? (i := 159) (by decide +kernel)) rfl
theorem se_X12_usedMany : Cond.selects RX12 yX12_usedMany yX12_usedMany ∈ lw_gd := zm (List.mem_of_getElem? (i := 149) (by decide +kernel)) rfl
theorem se_X12_volumeMany : Cond.selects RX12 yX12_volumeMany yX12_volumeMany ∈ lw_gd := zm (List.mem_of_getElem? (i := 147) (by decide +kernel)) rfl
theorem eX12_crashes_0 : decode cX12_crashes 0 = .ok (.iconst 0, 1) ∧ decode cX12_crashes 1 = .ok (.istore_n 1, 1) ∧ decode cX12_crashes 2 = .ok (.iload_n 1, 1) ∧ decode cX12_crashes 3 = .ok (.bipush 8, 2) ∧ decode cX12_crashes 5 = .ok (.if_icmp .ge 24, 3) ∧ decode cX12_crashes 8 = .ok (.aload_n 0, 1) ∧ decode cX12_crashes 9 = .ok (.getfield 121, 3) ∧ decode cX12_crashes 12 = .ok (.iload_n 1, 1) := by decide +kernel
theorem eX12_crashes_13 : decode cX12_crashes 13 = .ok (.aload_n 0, 1) ∧ decode cX12_crashes 14 = .ok (.getfield 121, 3) ∧ decode cX12_crashes 17 = .ok (.bipush 8, 2) ∧ decode cX12_crashes 19 = .ok (.iload_n 1, 1) ∧ decode cX12_crashes 20 = .ok (.iadd, 1) ∧ decode cX12_crashes 21 = .ok (.iaload, 1) ∧ decode cX12_crashes 22 = .ok (.iastore, 1) ∧ decode cX12_crashes 23 = .ok (.iinc 1 1, 3) := by decide +kernel
theorem eX12_crashes_26 : decode cX12_crashes 26 = .ok (.goto (-24), 3) ∧ decode cX12_crashes 29 = .ok (.iconst 0, 1) ∧ decode cX12_crashes 30 = .ok (.istore_n 1, 1) ∧ decode cX12_crashes 31 = .ok (.iload_n 1, 1) ∧ decode cX12_crashes 32 = .ok (.bipush 48, 2) ∧ decode cX12_crashes 34 = .ok (.if_icmp .ge 26, 3) ∧ decode cX12_crashes 37 = .ok (.aload_n 0, 1) ∧ decode cX12_crashes 38 = .ok (.getfield 121, 3) := by decide +kernel
theorem eX12_crashes_41 : decode cX12_crashes 41 = .ok (.bipush 17, 2) ∧ decode cX12_crashes 43 = .ok (.bipush 16, 2) ∧ decode cX12_crashes 45 = .ok (.iload_n 1, 1) ∧ decode cX12_crashes 46 = .ok (.imul, 1) ∧ decode cX12_crashes 47 = .ok (.iadd, 1) ∧ decode cX12_crashes 48 = .ok (.aload_n 0, 1) ∧ decode cX12_crashes 49 = .ok (.iload_n 1, 1) ∧ decode cX12_crashes 50 = .ok (.invokevirtual 438, 3) := by decide +kernel
theorem eX12_crashes_53 : decode cX12_crashes 53 = .ok (.iastore, 1) ∧ decode cX12_crashes 54 = .ok (.iinc 1 1, 3) ∧ decode cX12_crashes 57 = .ok (.goto (-26), 3) ∧ decode cX12_crashes 60 = .ok (.return_, 1) ∧ decode cX12_drops 0 = .ok (.aload_n 0, 1) ∧ decode cX12_drops 1 = .ok (.getfield 121, 3) ∧ decode cX12_drops 4 = .ok (.iload_n 1, 1) ∧ decode cX12_drops 5 = .ok (.iaload, 1) := by decide +kernel
theorem eX12_drops_6 : decode cX12_drops 6 = .ok (.sipush 254, 3) ∧ decode cX12_drops 9 = .ok (.if_icmp .eq 13, 3) ∧ decode cX12_drops 12 = .ok (.aload_n 0, 1) ∧ decode cX12_drops 13 = .ok (.aload_n 0, 1) ∧ decode cX12_drops 14 = .ok (.getfield 121, 3) ∧ decode cX12_drops 17 = .ok (.iload_n 1, 1) ∧ decode cX12_drops 18 = .ok (.iaload, 1) ∧ decode cX12_drops 19 = .ok (.invokevirtual 514, 3) := by decide +kernel
theorem eX12_drops_22 : decode cX12_drops 22 = .ok (.aload_n 0, 1) ∧ decode cX12_drops 23 = .ok (.getfield 121, 3) ∧ decode cX12_drops 26 = .ok (.iload_n 1, 1) ∧ decode cX12_drops 27 = .ok (.sipush 255, 3) ∧ decode cX12_drops 30 = .ok (.iastore, 1) ∧ decode cX12_drops 31 = .ok (.return_, 1) ∧ decode cX12_dropsMany 0 = .ok (.aload_n 0, 1) ∧ decode cX12_dropsMany 1 = .ok (.invokevirtual 601, 3) := by decide +kernel
theorem eX12_dropsMany_4 : decode cX12_dropsMany 4 = .ok (.aload_n 0, 1) ∧ decode cX12_dropsMany 5 = .ok (.invokevirtual 578, 3) ∧ decode cX12_dropsMany 8 = .ok (.istore_n 2, 1) ∧ decode cX12_dropsMany 9 = .ok (.aload_n 0, 1) ∧ decode cX12_dropsMany 10 = .ok (.iload_n 1, 1) ∧ decode cX12_dropsMany 11 = .ok (.invokevirtual 604, 3) ∧ decode cX12_dropsMany 14 = .ok (.iload_n 2, 1) ∧ decode cX12_dropsMany 15 = .ok (.aload_n 0, 1) := by decide +kernel
theorem eX12_dropsMany_16 : decode cX12_dropsMany 16 = .ok (.invokevirtual 578, 3) ∧ decode cX12_dropsMany 19 = .ok (.isub, 1) ∧ decode cX12_dropsMany 20 = .ok (.istore_n 3, 1) ∧ decode cX12_dropsMany 21 = .ok (.aload_n 0, 1) ∧ decode cX12_dropsMany 22 = .ok (.invokevirtual 607, 3) ∧ decode cX12_dropsMany 25 = .ok (.iload_n 3, 1) ∧ decode cX12_dropsMany 26 = .ok (.ireturn, 1) ∧ decode cX12_freeMany 0 = .ok (.aload_n 0, 1) := by decide +kernel
theorem eX12_freeMany_1 : decode cX12_freeMany 1 = .ok (.invokevirtual 429, 3) ∧ decode cX12_freeMany 4 = .ok (.aload_n 0, 1) ∧ decode cX12_freeMany 5 = .ok (.invokevirtual 578, 3) ∧ decode cX12_freeMany 8 = .ok (.isub, 1) ∧ decode cX12_freeMany 9 = .ok (.aload_n 0, 1) ∧ decode cX12_freeMany 10 = .ok (.invokevirtual 581, 3) ∧ decode cX12_freeMany 13 = .ok (.isub, 1) ∧ decode cX12_freeMany 14 = .ok (.ireturn, 1) := by decide +kernel
theorem eX12_has_0 : decode cX12_has 0 = .ok (.iload_n 1, 1) ∧ decode cX12_has 1 = .ok (.tableswitch 112 0 9 #[55, 60, 65, 70, 75, 80, 88, 97, 102, 107], 55) ∧ decode cX12_has 56 = .ok (.aload_n 0, 1) ∧ decode cX12_has 57 = .ok (.invokevirtual 429, 3) ∧ decode cX12_has 60 = .ok (.ireturn, 1) ∧ decode cX12_has 61 = .ok (.aload_n 0, 1) ∧ decode cX12_has 62 = .ok (.invokevirtual 584, 3) ∧ decode cX12_has 65 = .ok (.ireturn, 1) := by decide +kernel
theorem eX12_has_66 : decode cX12_has 66 = .ok (.aload_n 0, 1) ∧ decode cX12_has 67 = .ok (.invokevirtual 578, 3) ∧ decode cX12_has 70 = .ok (.ireturn, 1) ∧ decode cX12_has 71 = .ok (.aload_n 0, 1) ∧ decode cX12_has 72 = .ok (.invokevirtual 581, 3) ∧ decode cX12_has 75 = .ok (.ireturn, 1) ∧ decode cX12_has 76 = .ok (.aload_n 0, 1) ∧ decode cX12_has 77 = .ok (.invokevirtual 587, 3) := by decide +kernel
theorem eX12_has_80 : decode cX12_has 80 = .ok (.ireturn, 1) ∧ decode cX12_has 81 = .ok (.aload_n 0, 1) ∧ decode cX12_has 82 = .ok (.getfield 121, 3) ∧ decode cX12_has 85 = .ok (.bipush 16, 2) ∧ decode cX12_has 87 = .ok (.iaload, 1) ∧ decode cX12_has 88 = .ok (.ireturn, 1) ∧ decode cX12_has 89 = .ok (.aload_n 0, 1) ∧ decode cX12_has 90 = .ok (.getfield 121, 3) := by decide +kernel
theorem eX12_has_93 : decode cX12_has 93 = .ok (.sipush 785, 3) ∧ decode cX12_has 96 = .ok (.iaload, 1) ∧ decode cX12_has 97 = .ok (.ireturn, 1) ∧ decode cX12_has 98 = .ok (.aload_n 0, 1) ∧ decode cX12_has 99 = .ok (.getfield 419, 3) ∧ decode cX12_has 102 = .ok (.ireturn, 1) ∧ decode cX12_has 103 = .ok (.aload_n 0, 1) ∧ decode cX12_has 104 = .ok (.getfield 416, 3) := by decide +kernel
theorem eX12_has_107 : decode cX12_has 107 = .ok (.ireturn, 1) ∧ decode cX12_has 108 = .ok (.aload_n 0, 1) ∧ decode cX12_has 109 = .ok (.invokevirtual 523, 3) ∧ decode cX12_has 112 = .ok (.ireturn, 1) ∧ decode cX12_has 113 = .ok (.iconst (-1), 1) ∧ decode cX12_has 114 = .ok (.ireturn, 1) ∧ decode cX12_heldMany 0 = .ok (.iconst 0, 1) ∧ decode cX12_heldMany 1 = .ok (.istore_n 1, 1) := by decide +kernel
theorem eX12_heldMany_2 : decode cX12_heldMany 2 = .ok (.iconst 0, 1) ∧ decode cX12_heldMany 3 = .ok (.istore_n 2, 1) ∧ decode cX12_heldMany 4 = .ok (.iload_n 2, 1) ∧ decode cX12_heldMany 5 = .ok (.aload_n 0, 1) ∧ decode cX12_heldMany 6 = .ok (.invokevirtual 429, 3) ∧ decode cX12_heldMany 9 = .ok (.if_icmp .ge 20, 3) ∧ decode cX12_heldMany 12 = .ok (.aload_n 0, 1) ∧ decode cX12_heldMany 13 = .ok (.iload_n 2, 1) := by decide +kernel
theorem eX12_heldMany_14 : decode cX12_heldMany 14 = .ok (.invokevirtual 575, 3) ∧ decode cX12_heldMany 17 = .ok (.ifCond .eq 6, 3) ∧ decode cX12_heldMany 20 = .ok (.iinc 1 1, 3) ∧ decode cX12_heldMany 23 = .ok (.iinc 2 1, 3) ∧ decode cX12_heldMany 26 = .ok (.goto (-22), 3) ∧ decode cX12_heldMany 29 = .ok (.iload_n 1, 1) ∧ decode cX12_heldMany 30 = .ok (.ireturn, 1) ∧ decode cX12_laysLeaf 0 = .ok (.iconst 0, 1) := by decide +kernel
theorem eX12_laysLeaf_1 : decode cX12_laysLeaf 1 = .ok (.istore_n 2, 1) ∧ decode cX12_laysLeaf 2 = .ok (.iload_n 2, 1) ∧ decode cX12_laysLeaf 3 = .ok (.aload_n 0, 1) ∧ decode cX12_laysLeaf 4 = .ok (.iload_n 1, 1) ∧ decode cX12_laysLeaf 5 = .ok (.invokevirtual 466, 3) ∧ decode cX12_laysLeaf 8 = .ok (.if_icmp .ge 59, 3) ∧ decode cX12_laysLeaf 11 = .ok (.aload_n 0, 1) ∧ decode cX12_laysLeaf 12 = .ok (.getfield 152, 3) := by decide +kernel
theorem eX12_laysLeaf_15 : decode cX12_laysLeaf 15 = .ok (.aload_n 0, 1) ∧ decode cX12_laysLeaf 16 = .ok (.getfield 592, 3) ∧ decode cX12_laysLeaf 19 = .ok (.aload_n 0, 1) ∧ decode cX12_laysLeaf 20 = .ok (.iload_n 1, 1) ∧ decode cX12_laysLeaf 21 = .ok (.iload_n 2, 1) ∧ decode cX12_laysLeaf 22 = .ok (.invokevirtual 517, 3) ∧ decode cX12_laysLeaf 25 = .ok (.iastore, 1) ∧ decode cX12_laysLeaf 26 = .ok (.aload_n 0, 1) := by decide +kernel
theorem eX12_laysLeaf_27 : decode cX12_laysLeaf 27 = .ok (.getfield 155, 3) ∧ decode cX12_laysLeaf 30 = .ok (.aload_n 0, 1) ∧ decode cX12_laysLeaf 31 = .ok (.getfield 592, 3) ∧ decode cX12_laysLeaf 34 = .ok (.aload_n 0, 1) ∧ decode cX12_laysLeaf 35 = .ok (.iload_n 1, 1) ∧ decode cX12_laysLeaf 36 = .ok (.iload_n 2, 1) ∧ decode cX12_laysLeaf 37 = .ok (.invokevirtual 505, 3) ∧ decode cX12_laysLeaf 40 = .ok (.iastore, 1) := by decide +kernel
theorem eX12_laysLeaf_41 : decode cX12_laysLeaf 41 = .ok (.aload_n 0, 1) ∧ decode cX12_laysLeaf 42 = .ok (.getfield 158, 3) ∧ decode cX12_laysLeaf 45 = .ok (.aload_n 0, 1) ∧ decode cX12_laysLeaf 46 = .ok (.getfield 592, 3) ∧ decode cX12_laysLeaf 49 = .ok (.iload_n 1, 1) ∧ decode cX12_laysLeaf 50 = .ok (.iastore, 1) ∧ decode cX12_laysLeaf 51 = .ok (.aload_n 0, 1) ∧ decode cX12_laysLeaf 52 = .ok (.dup, 1) := by decide +kernel
theorem eX12_laysLeaf_53 : decode cX12_laysLeaf 53 = .ok (.getfield 592, 3) ∧ decode cX12_laysLeaf 56 = .ok (.iconst 1, 1) ∧ decode cX12_laysLeaf 57 = .ok (.iadd, 1) ∧ decode cX12_laysLeaf 58 = .ok (.putfield 592, 3) ∧ decode cX12_laysLeaf 61 = .ok (.iinc 2 1, 3) ∧ decode cX12_laysLeaf 64 = .ok (.goto (-62), 3) ∧ decode cX12_laysLeaf 67 = .ok (.return_, 1) ∧ decode cX12_laysTree 0 = .ok (.aload_n 0, 1) := by decide +kernel
theorem eX12_laysTree_1 : decode cX12_laysTree 1 = .ok (.iconst 0, 1) ∧ decode cX12_laysTree 2 = .ok (.putfield 592, 3) ∧ decode cX12_laysTree 5 = .ok (.aload_n 0, 1) ∧ decode cX12_laysTree 6 = .ok (.iconst 0, 1) ∧ decode cX12_laysTree 7 = .ok (.putfield 595, 3) ∧ decode cX12_laysTree 10 = .ok (.iconst 0, 1) ∧ decode cX12_laysTree 11 = .ok (.istore_n 2, 1) ∧ decode cX12_laysTree 12 = .ok (.iload_n 2, 1) := by decide +kernel
theorem eX12_laysTree_13 : decode cX12_laysTree 13 = .ok (.bipush 48, 2) ∧ decode cX12_laysTree 15 = .ok (.if_icmp .ge 16, 3) ∧ decode cX12_laysTree 18 = .ok (.aload_n 0, 1) ∧ decode cX12_laysTree 19 = .ok (.getfield 149, 3) ∧ decode cX12_laysTree 22 = .ok (.iload_n 2, 1) ∧ decode cX12_laysTree 23 = .ok (.iconst 0, 1) ∧ decode cX12_laysTree 24 = .ok (.bastore, 1) ∧ decode cX12_laysTree 25 = .ok (.iinc 2 1, 3) := by decide +kernel
theorem eX12_laysTree_28 : decode cX12_laysTree 28 = .ok (.goto (-16), 3) ∧ decode cX12_laysTree 31 = .ok (.iload_n 1, 1) ∧ decode cX12_laysTree 32 = .ok (.sipush 254, 3) ∧ decode cX12_laysTree 35 = .ok (.if_icmp .lt 4, 3) ∧ decode cX12_laysTree 38 = .ok (.return_, 1) ∧ decode cX12_laysTree 39 = .ok (.iconst 1, 1) ∧ decode cX12_laysTree 40 = .ok (.istore_n 2, 1) ∧ decode cX12_laysTree 41 = .ok (.aload_n 0, 1) := by decide +kernel
theorem eX12_laysTree_42 : decode cX12_laysTree 42 = .ok (.getfield 146, 3) ∧ decode cX12_laysTree 45 = .ok (.iconst 0, 1) ∧ decode cX12_laysTree 46 = .ok (.iload_n 1, 1) ∧ decode cX12_laysTree 47 = .ok (.iastore, 1) ∧ decode cX12_laysTree 48 = .ok (.iload_n 2, 1) ∧ decode cX12_laysTree 49 = .ok (.ifCond .le 94, 3) ∧ decode cX12_laysTree 52 = .ok (.iinc 2 (-1), 3) ∧ decode cX12_laysTree 55 = .ok (.aload_n 0, 1) := by decide +kernel
theorem eX12_laysTree_56 : decode cX12_laysTree 56 = .ok (.getfield 146, 3) ∧ decode cX12_laysTree 59 = .ok (.iload_n 2, 1) ∧ decode cX12_laysTree 60 = .ok (.iaload, 1) ∧ decode cX12_laysTree 61 = .ok (.istore_n 3, 1) ∧ decode cX12_laysTree 62 = .ok (.aload_n 0, 1) ∧ decode cX12_laysTree 63 = .ok (.getfield 149, 3) ∧ decode cX12_laysTree 66 = .ok (.iload_n 3, 1) ∧ decode cX12_laysTree 67 = .ok (.baload, 1) := by decide +kernel
theorem eX12_laysTree_68 : decode cX12_laysTree 68 = .ok (.ifCond .ne 13, 3) ∧ decode cX12_laysTree 71 = .ok (.aload_n 0, 1) ∧ decode cX12_laysTree 72 = .ok (.dup, 1) ∧ decode cX12_laysTree 73 = .ok (.getfield 595, 3) ∧ decode cX12_laysTree 76 = .ok (.iconst 1, 1) ∧ decode cX12_laysTree 77 = .ok (.iadd, 1) ∧ decode cX12_laysTree 78 = .ok (.putfield 595, 3) ∧ decode cX12_laysTree 81 = .ok (.aload_n 0, 1) := by decide +kernel
theorem eX12_laysTree_82 : decode cX12_laysTree 82 = .ok (.getfield 149, 3) ∧ decode cX12_laysTree 85 = .ok (.iload_n 3, 1) ∧ decode cX12_laysTree 86 = .ok (.iconst 1, 1) ∧ decode cX12_laysTree 87 = .ok (.bastore, 1) ∧ decode cX12_laysTree 88 = .ok (.aload_n 0, 1) ∧ decode cX12_laysTree 89 = .ok (.iload_n 3, 1) ∧ decode cX12_laysTree 90 = .ok (.invokevirtual 460, 3) ∧ decode cX12_laysTree 93 = .ok (.ifCond .ne 11, 3) := by decide +kernel
theorem eX12_laysTree_96 : decode cX12_laysTree 96 = .ok (.aload_n 0, 1) ∧ decode cX12_laysTree 97 = .ok (.iload_n 3, 1) ∧ decode cX12_laysTree 98 = .ok (.invokevirtual 598, 3) ∧ decode cX12_laysTree 101 = .ok (.goto 39, 3) ∧ decode cX12_laysTree 104 = .ok (.aload_n 0, 1) ∧ decode cX12_laysTree 105 = .ok (.iload_n 3, 1) ∧ decode cX12_laysTree 106 = .ok (.invokevirtual 466, 3) ∧ decode cX12_laysTree 109 = .ok (.iconst 1, 1) := by decide +kernel
theorem eX12_laysTree_110 : decode cX12_laysTree 110 = .ok (.isub, 1) ∧ decode cX12_laysTree 111 = .ok (.istore 4, 2) ∧ decode cX12_laysTree 113 = .ok (.iload 4, 2) ∧ decode cX12_laysTree 115 = .ok (.ifCond .lt 25, 3) ∧ decode cX12_laysTree 118 = .ok (.aload_n 0, 1) ∧ decode cX12_laysTree 119 = .ok (.getfield 146, 3) ∧ decode cX12_laysTree 122 = .ok (.iload_n 2, 1) ∧ decode cX12_laysTree 123 = .ok (.aload_n 0, 1) := by decide +kernel
theorem eX12_laysTree_124 : decode cX12_laysTree 124 = .ok (.iload_n 3, 1) ∧ decode cX12_laysTree 125 = .ok (.iload 4, 2) ∧ decode cX12_laysTree 127 = .ok (.invokevirtual 505, 3) ∧ decode cX12_laysTree 130 = .ok (.iastore, 1) ∧ decode cX12_laysTree 131 = .ok (.iinc 2 1, 3) ∧ decode cX12_laysTree 134 = .ok (.iinc 4 (-1), 3) ∧ decode cX12_laysTree 137 = .ok (.goto (-24), 3) ∧ decode cX12_laysTree 140 = .ok (.goto (-92), 3) := by decide +kernel
theorem eX12_laysTree_143 : decode cX12_laysTree 143 = .ok (.return_, 1) ∧ decode cX12_letter 0 = .ok (.iload_n 1, 1) ∧ decode cX12_letter 1 = .ok (.i2l, 1) ∧ decode cX12_letter 2 = .ok (.lconst 0, 1) ∧ decode cX12_letter 3 = .ok (.aload_n 0, 1) ∧ decode cX12_letter 4 = .ok (.getfield 102, 3) ∧ decode cX12_letter 7 = .ok (.bipush 7, 2) ∧ decode cX12_letter 9 = .ok (.iaload, 1) := by decide +kernel
theorem eX12_letter_10 : decode cX12_letter 10 = .ok (.iconst 1, 1) ∧ decode cX12_letter 11 = .ok (.isub, 1) ∧ decode cX12_letter 12 = .ok (.i2l, 1) ∧ decode cX12_letter 13 = .ok (.invokestatic 309, 3) ∧ decode cX12_letter 16 = .ok (.ifCond .eq 15, 3) ∧ decode cX12_letter 19 = .ok (.iload_n 2, 1) ∧ decode cX12_letter 20 = .ok (.i2l, 1) ∧ decode cX12_letter 21 = .ok (.lconst 0, 1) := by decide +kernel
theorem eX12_letter_22 : decode cX12_letter 22 = .ok (.ldc2_w 590, 3) ∧ decode cX12_letter 25 = .ok (.invokestatic 309, 3) ∧ decode cX12_letter 28 = .ok (.ifCond .ne 5, 3) ∧ decode cX12_letter 31 = .ok (.iconst (-1), 1) ∧ decode cX12_letter 32 = .ok (.ireturn, 1) ∧ decode cX12_letter 33 = .ok (.aload_n 0, 1) ∧ decode cX12_letter 34 = .ok (.getfield 105, 3) ∧ decode cX12_letter 37 = .ok (.bipush 8, 2) := by decide +kernel
theorem eX12_letter_39 : decode cX12_letter 39 = .ok (.iload_n 1, 1) ∧ decode cX12_letter 40 = .ok (.iadd, 1) ∧ decode cX12_letter 41 = .ok (.laload, 1) ∧ decode cX12_letter 42 = .ok (.lstore_n 3, 1) ∧ decode cX12_letter 43 = .ok (.iconst 0, 1) ∧ decode cX12_letter 44 = .ok (.istore 5, 2) ∧ decode cX12_letter 46 = .ok (.lload_n 3, 1) ∧ decode cX12_letter 47 = .ok (.lstore 6, 2) := by decide +kernel
theorem eX12_letter_49 : decode cX12_letter 49 = .ok (.lload 6, 2) ∧ decode cX12_letter 51 = .ok (.lconst 0, 1) ∧ decode cX12_letter 52 = .ok (.lcmp, 1) ∧ decode cX12_letter 53 = .ok (.ifCond .le 17, 3) ∧ decode cX12_letter 56 = .ok (.iinc 5 1, 3) ∧ decode cX12_letter 59 = .ok (.lload 6, 2) ∧ decode cX12_letter 61 = .ok (.ldc2_w 320, 3) ∧ decode cX12_letter 64 = .ok (.ldiv, 1) := by decide +kernel
theorem eX12_letter_65 : decode cX12_letter 65 = .ok (.lstore 6, 2) ∧ decode cX12_letter 67 = .ok (.goto (-18), 3) ∧ decode cX12_letter 70 = .ok (.iload_n 2, 1) ∧ decode cX12_letter 71 = .ok (.iload 5, 2) ∧ decode cX12_letter 73 = .ok (.if_icmp .lt 5, 3) ∧ decode cX12_letter 76 = .ok (.iconst 0, 1) ∧ decode cX12_letter 77 = .ok (.ireturn, 1) ∧ decode cX12_letter 78 = .ok (.iload 5, 2) := by decide +kernel
theorem eX12_letter_80 : decode cX12_letter 80 = .ok (.iconst 1, 1) ∧ decode cX12_letter 81 = .ok (.isub, 1) ∧ decode cX12_letter 82 = .ok (.istore 6, 2) ∧ decode cX12_letter 84 = .ok (.iload 6, 2) ∧ decode cX12_letter 86 = .ok (.iload_n 2, 1) ∧ decode cX12_letter 87 = .ok (.if_icmp .le 15, 3) ∧ decode cX12_letter 90 = .ok (.lload_n 3, 1) ∧ decode cX12_letter 91 = .ok (.ldc2_w 320, 3) := by decide +kernel
theorem eX12_letter_94 : decode cX12_letter 94 = .ok (.ldiv, 1) ∧ decode cX12_letter 95 = .ok (.lstore_n 3, 1) ∧ decode cX12_letter 96 = .ok (.iinc 6 (-1), 3) ∧ decode cX12_letter 99 = .ok (.goto (-15), 3) ∧ decode cX12_letter 102 = .ok (.lload_n 3, 1) ∧ decode cX12_letter 103 = .ok (.ldc2_w 320, 3) ∧ decode cX12_letter 106 = .ok (.lrem, 1) ∧ decode cX12_letter 107 = .ok (.l2i, 1) := by decide +kernel
theorem eX12_letter_108 : decode cX12_letter 108 = .ok (.ireturn, 1) ∧ decode cX12_putsAside 0 = .ok (.iconst 0, 1) ∧ decode cX12_putsAside 1 = .ok (.istore_n 1, 1) ∧ decode cX12_putsAside 2 = .ok (.iload_n 1, 1) ∧ decode cX12_putsAside 3 = .ok (.sipush 785, 3) ∧ decode cX12_putsAside 6 = .ok (.if_icmp .ge 21, 3) ∧ decode cX12_putsAside 9 = .ok (.aload_n 0, 1) ∧ decode cX12_putsAside 10 = .ok (.getfield 143, 3) := by decide +kernel
theorem eX12_putsAside_13 : decode cX12_putsAside 13 = .ok (.iload_n 1, 1) ∧ decode cX12_putsAside 14 = .ok (.aload_n 0, 1) ∧ decode cX12_putsAside 15 = .ok (.getfield 121, 3) ∧ decode cX12_putsAside 18 = .ok (.iload_n 1, 1) ∧ decode cX12_putsAside 19 = .ok (.iaload, 1) ∧ decode cX12_putsAside 20 = .ok (.iastore, 1) ∧ decode cX12_putsAside 21 = .ok (.iinc 1 1, 3) ∧ decode cX12_putsAside 24 = .ok (.goto (-22), 3) := by decide +kernel
theorem eX12_putsAside_27 : decode cX12_putsAside 27 = .ok (.aload_n 0, 1) ∧ decode cX12_putsAside 28 = .ok (.invokevirtual 568, 3) ∧ decode cX12_putsAside 31 = .ok (.return_, 1) ∧ decode cX12_takesBack 0 = .ok (.iconst 0, 1) ∧ decode cX12_takesBack 1 = .ok (.istore_n 1, 1) ∧ decode cX12_takesBack 2 = .ok (.iload_n 1, 1) ∧ decode cX12_takesBack 3 = .ok (.sipush 785, 3) ∧ decode cX12_takesBack 6 = .ok (.if_icmp .ge 21, 3) := by decide +kernel
theorem eX12_takesBack_9 : decode cX12_takesBack 9 = .ok (.aload_n 0, 1) ∧ decode cX12_takesBack 10 = .ok (.getfield 121, 3) ∧ decode cX12_takesBack 13 = .ok (.iload_n 1, 1) ∧ decode cX12_takesBack 14 = .ok (.aload_n 0, 1) ∧ decode cX12_takesBack 15 = .ok (.getfield 143, 3) ∧ decode cX12_takesBack 18 = .ok (.iload_n 1, 1) ∧ decode cX12_takesBack 19 = .ok (.iaload, 1) ∧ decode cX12_takesBack 20 = .ok (.iastore, 1) := by decide +kernel
theorem eX12_takesBack_21 : decode cX12_takesBack 21 = .ok (.iinc 1 1, 3) ∧ decode cX12_takesBack 24 = .ok (.goto (-22), 3) ∧ decode cX12_takesBack 27 = .ok (.return_, 1) ∧ decode cX12_usedMany 0 = .ok (.iconst 0, 1) ∧ decode cX12_usedMany 1 = .ok (.istore_n 1, 1) ∧ decode cX12_usedMany 2 = .ok (.iconst 0, 1) ∧ decode cX12_usedMany 3 = .ok (.istore_n 2, 1) ∧ decode cX12_usedMany 4 = .ok (.iload_n 2, 1) := by decide +kernel
theorem eX12_usedMany_5 : decode cX12_usedMany 5 = .ok (.aload_n 0, 1) ∧ decode cX12_usedMany 6 = .ok (.invokevirtual 429, 3) ∧ decode cX12_usedMany 9 = .ok (.if_icmp .ge 20, 3) ∧ decode cX12_usedMany 12 = .ok (.aload_n 0, 1) ∧ decode cX12_usedMany 13 = .ok (.iload_n 2, 1) ∧ decode cX12_usedMany 14 = .ok (.invokevirtual 435, 3) ∧ decode cX12_usedMany 17 = .ok (.ifCond .eq 6, 3) ∧ decode cX12_usedMany 20 = .ok (.iinc 1 1, 3) := by decide +kernel
theorem eX12_usedMany_23 : decode cX12_usedMany 23 = .ok (.iinc 2 1, 3) ∧ decode cX12_usedMany 26 = .ok (.goto (-22), 3) ∧ decode cX12_usedMany 29 = .ok (.iload_n 1, 1) ∧ decode cX12_usedMany 30 = .ok (.ireturn, 1) ∧ decode cX12_volume 0 = .ok (.aload_n 0, 1) ∧ decode cX12_volume 1 = .ok (.iload_n 1, 1) ∧ decode cX12_volume 2 = .ok (.i2l, 1) ∧ decode cX12_volume 3 = .ok (.invokevirtual 571, 3) := by decide +kernel
theorem eX12_volume_6 : decode cX12_volume 6 = .ok (.ifCond .ne 5, 3) ∧ decode cX12_volume 9 = .ok (.iconst (-1), 1) ∧ decode cX12_volume 10 = .ok (.ireturn, 1) ∧ decode cX12_volume 11 = .ok (.aload_n 0, 1) ∧ decode cX12_volume 12 = .ok (.getfield 121, 3) ∧ decode cX12_volume 15 = .ok (.iload_n 1, 1) ∧ decode cX12_volume 16 = .ok (.iaload, 1) ∧ decode cX12_volume 17 = .ok (.istore_n 3, 1) := by decide +kernel
theorem eX12_volume_18 : decode cX12_volume 18 = .ok (.aload_n 0, 1) ∧ decode cX12_volume 19 = .ok (.iload_n 3, 1) ∧ decode cX12_volume 20 = .ok (.invokevirtual 610, 3) ∧ decode cX12_volume 23 = .ok (.iload_n 2, 1) ∧ decode cX12_volume 24 = .ok (.tableswitch 84 0 4 #[36, 49, 54, 73, 78], 36) ∧ decode cX12_volume 60 = .ok (.iload_n 3, 1) ∧ decode cX12_volume 61 = .ok (.sipush 254, 3) ∧ decode cX12_volume 64 = .ok (.if_icmp .ne 7, 3) := by decide +kernel
theorem eX12_volume_67 : decode cX12_volume 67 = .ok (.iconst (-1), 1) ∧ decode cX12_volume 68 = .ok (.goto 4, 3) ∧ decode cX12_volume 71 = .ok (.iload_n 3, 1) ∧ decode cX12_volume 72 = .ok (.ireturn, 1) ∧ decode cX12_volume 73 = .ok (.aload_n 0, 1) ∧ decode cX12_volume 74 = .ok (.getfield 592, 3) ∧ decode cX12_volume 77 = .ok (.ireturn, 1) ∧ decode cX12_volume 78 = .ok (.iload_n 3, 1) := by decide +kernel
theorem eX12_volume_79 : decode cX12_volume 79 = .ok (.sipush 254, 3) ∧ decode cX12_volume 82 = .ok (.if_icmp .ne 7, 3) ∧ decode cX12_volume 85 = .ok (.iconst 0, 1) ∧ decode cX12_volume 86 = .ok (.goto 10, 3) ∧ decode cX12_volume 89 = .ok (.aload_n 0, 1) ∧ decode cX12_volume 90 = .ok (.iload_n 3, 1) ∧ decode cX12_volume 91 = .ok (.invokevirtual 460, 3) ∧ decode cX12_volume 94 = .ok (.iconst 1, 1) := by decide +kernel
theorem eX12_volume_95 : decode cX12_volume 95 = .ok (.iadd, 1) ∧ decode cX12_volume 96 = .ok (.ireturn, 1) ∧ decode cX12_volume 97 = .ok (.aload_n 0, 1) ∧ decode cX12_volume 98 = .ok (.getfield 595, 3) ∧ decode cX12_volume 101 = .ok (.ireturn, 1) ∧ decode cX12_volume 102 = .ok (.aload_n 0, 1) ∧ decode cX12_volume 103 = .ok (.iload_n 1, 1) ∧ decode cX12_volume 104 = .ok (.invokevirtual 613, 3) := by decide +kernel
theorem eX12_volume_107 : decode cX12_volume 107 = .ok (.ireturn, 1) ∧ decode cX12_volume 108 = .ok (.iconst (-1), 1) ∧ decode cX12_volume 109 = .ok (.ireturn, 1) ∧ decode cX12_volumeMany 0 = .ok (.iconst 0, 1) ∧ decode cX12_volumeMany 1 = .ok (.istore_n 1, 1) ∧ decode cX12_volumeMany 2 = .ok (.iconst 0, 1) ∧ decode cX12_volumeMany 3 = .ok (.istore_n 2, 1) ∧ decode cX12_volumeMany 4 = .ok (.iload_n 2, 1) := by decide +kernel
theorem eX12_volumeMany_5 : decode cX12_volumeMany 5 = .ok (.bipush 8, 2) ∧ decode cX12_volumeMany 7 = .ok (.if_icmp .ge 21, 3) ∧ decode cX12_volumeMany 10 = .ok (.aload_n 0, 1) ∧ decode cX12_volumeMany 11 = .ok (.iload_n 2, 1) ∧ decode cX12_volumeMany 12 = .ok (.i2l, 1) ∧ decode cX12_volumeMany 13 = .ok (.invokevirtual 571, 3) ∧ decode cX12_volumeMany 16 = .ok (.ifCond .eq 6, 3) ∧ decode cX12_volumeMany 19 = .ok (.iinc 1 1, 3) := by decide +kernel
theorem eX12_volumeMany_22 : decode cX12_volumeMany 22 = .ok (.iinc 2 1, 3) ∧ decode cX12_volumeMany 25 = .ok (.goto (-21), 3) ∧ decode cX12_volumeMany 28 = .ok (.iload_n 1, 1) ∧ decode cX12_volumeMany 29 = .ok (.ireturn, 1) := by decide +kernel
set_option maxHeartbeats 4000000 in
set_option maxRecDepth 100000 in
theorem k_x12_drops (l : Launch) (D : va_G) (a : Nat → Nat) (p0 : Int) (sz : Nat) (s : MS) (o : MS) (h : m_x12_drops p0 s = some o) : yWv l yX12_drops cX12_drops 2 none { frames := 3, cells := 0, slots := 0, locals := 180 } D sz [.ref (a 200), .int (i2 p0)] (RW D a s) (RW D a o) := by
  refine Met.ofW (cc := cX12_drops) (maxL := 2) (ret := none) (by decide) rfl ?_
  intro p e s₀ m args below meth c s₁ B hml hv
  obtain ⟨rfl, ⟨hsz, hP, hK, hD0⟩, hN⟩ := hv
  have hx := B.exec
  have hb := B.bytes
  have hr := B.returns
  have hts := atoms_spec (ws := wz yX12_drops cX12_drops 2 none) B.pre
  have ht : ∀ w ∈ lw_gd, w.before _ s₀ = true := fun w h => hts w (List.mem_cons_of_mem _ h)
  have hown : s₀.vm.findClass RX12 = some m.cls := findClass_of_methodNamed B.named
  have hlocks := B.notSynchronized
  subst hsz
  have hD := hD0.self (sz := s₀.heap.size)
  generalize hAe : va_A (RW D a s) s₀.heap.size = A at hD ⊢
  have hA : ∀ q : Nat, s₀.heap.size ≤ q → A q := fun q h => by rw [← hAe]; exact Or.inr h
  have hS : va_S A s₀.heap s₀.heap [] := va_S.rf
  have hDD : ∀ t : MS, va_D A (RW D a t) := fun t => RW_D t hD
  have hl := lv_entry ([.ref (a 200), .int (i2 p0)]) (n := 2) (Nat.le_of_ble_eq_true rfl)
  rw [lg_entry_eq]
  generalize (lg_sl ([.ref (a 200), .int (i2 p0)]) ++ List.replicate (2 - (lg_sl ([.ref (a 200), .int (i2 p0)])).length) Slot.unset).toArray = ls at hl ⊢
  have hl : lv_has ls 2 [(0, .ref (a 200)), (1, .int (i2 p0))] := hl
  unfold m_x12_drops at h
  refine y_head (pcJ := 22) (σ := Int × MS) (fun u H locs ls => va_P D vwCl (RW D a u.2) H ∧ va_S A s₀.heap H locs ∧ lv_has ls 2 [(0, .ref (a 200)), (1, .int (i2 u.1))] ∧ m_x12_drops_J22 u.1 u.2 = some o) (fun u => []) (fun u H locs ls hI => ?_) (fun J22 => ?_)
  · obtain ⟨hP, hS, hl, h⟩ := hI
    obtain ⟨x1, s2⟩ := u
    have hP : va_P D vwCl (RW D a s2) H := hP
    have hl : lv_has ls 2 [(0, .ref (a 200)), (1, .int (i2 x1))] := hl
    have h : m_x12_drops_J22 x1 s2 = some o := h
    unfold m_x12_drops_J22 at h
    refine lv_aload_n hx hb eX12_drops_22.1 rfl (lv_at hl 0 rfl) ?_
    refine va_get (D := D) (ci := 12) (v := .ref (a 49)) (C := RX12) (T := TX12) (N := 116) hx hb ht inX12 hown hK hP 0 RW_0 rfl 49 (by decide) (ht (.fieldLink RX12 121 "CloneVolumesModel" "now" "[I") fl_X12_121) (fun _ h9 => h9) mF_49 eX12_drops_22.2.1 ?_
    refine lv_iload_n hx hb eX12_drops_22.2.2.1 rfl (lv_at hl 1 rfl) ?_
    refine lv_sipush (v := 255) hx hb eX12_drops_22.2.2.2.1 (by decide) ?_
    obtain ⟨hi3, h⟩ := inb_e h
    refine ya_iast (i := x1) (x := 255) hx hb hK hP (hDD _) hS 36 0 RW_36 rfl (by decide) hi3 eX12_drops_22.2.2.2.2.1 (RW_w36 _) (fun H locs hP hS => ?_)
    obtain ⟨s4, hs4, h⟩ := st_e h
    rw [hs4] at hP
    obtain rfl := Option.some.inj h
    exact W.vret hx hb hr (fun t ht hW => ⟨⟨(), rfl, trivial, by rw [ht]; exact hP, va_K.moved hW.alike hK, hDD _⟩, hS.F ht⟩) hS.2.2 eX12_drops_22.2.2.2.2.2.1
  refine lv_aload_n hx hb eX12_crashes_53.2.2.2.2.1 rfl (lv_at hl 0 rfl) ?_
  refine va_get (D := D) (ci := 12) (v := .ref (a 49)) (C := RX12) (T := TX12) (N := 116) hx hb ht inX12 hown hK hP 0 RW_0 rfl 49 (by decide) (ht (.fieldLink RX12 121 "CloneVolumesModel" "now" "[I") fl_X12_121) (fun _ h9 => h9) mF_49 eX12_crashes_53.2.2.2.2.2.1 ?_
  refine lv_iload_n hx hb eX12_crashes_53.2.2.2.2.2.2.1 rfl (lv_at hl 1 rfl) ?_
  obtain ⟨y5, ey5, iy5, h⟩ := rdI_e h
  refine ya_iald (i := p0) hx hb hK hP 36 0 RW_36 rfl (by decide) ey5 iy5 eX12_crashes_53.2.2.2.2.2.2.2 ?_
  refine lv_sipush (v := 254) hx hb eX12_drops_6.1 (by decide) ?_
  obtain ⟨hr6, h⟩ := rg_e h
  refine lv_icmp_eq (tgt := 22) hx hb eX12_drops_6.2.1 (by decide) (fun c7 => ?_) (fun c7 => ?_)
  · have h := if_t ((i2_eq (x := y5) (y := 254) hr6 (by decide)).mp c7) h
    exact J22 (p0, s) _ _ _ ⟨hP, hS, lv_sub hl [0, 1] rfl, h⟩
  · have h := if_f (mt (i2_eq (x := y5) (y := 254) hr6 (by decide)).mpr c7) h
    refine lv_aload_n hx hb eX12_drops_6.2.2.1 rfl (lv_at hl 0 rfl) ?_
    refine lv_aload_n hx hb eX12_drops_6.2.2.2.1 rfl (lv_at hl 0 rfl) ?_
    refine va_get (D := D) (ci := 12) (v := .ref (a 49)) (C := RX12) (T := TX12) (N := 116) hx hb ht inX12 hown hK hP 0 RW_0 rfl 49 (by decide) (ht (.fieldLink RX12 121 "CloneVolumesModel" "now" "[I") fl_X12_121) (fun _ h9 => h9) mF_49 eX12_drops_6.2.2.2.2.1 ?_
    refine lv_iload_n hx hb eX12_drops_6.2.2.2.2.2.1 rfl (lv_at hl 1 rfl) ?_
    obtain ⟨y8, ey8, iy8, h⟩ := rdI_e h
    refine ya_iald (i := p0) hx hb hK hP 36 0 RW_36 rfl (by decide) ey8 iy8 eX12_drops_6.2.2.2.2.2.2.1 ?_
    obtain ⟨s10, hc9, h⟩ := bn_e h
    refine ywVv (As := [.int (i2 y8)]) (rest := []) (C := RX12) (n := 1) (ws' := RW D a s10) ⟨hx, hb, hml, hown, ht⟩ (k_x12_falls l D a y8 _ _ _ hc9) (zgV ml_X12_514 im_X12_falls se_X12_falls in_X12 co_X12_falls) rfl rfl (by decide +kernel) ⟨Nat.le_of_ble_eq_true rfl, Nat.le_of_ble_eq_true rfl⟩ hN hK hP (hDD _) hS hA 0 RW_0 rfl rfl rfl hl.1 rfl (Nat.le_of_ble_eq_true rfl) eX12_drops_6.2.2.2.2.2.2.2 ⟨Nat.le_of_ble_eq_true rfl, Nat.le_of_ble_eq_true rfl⟩ (fun H locs hP hS => ?_)
    exact J22 (p0, s10) _ _ _ ⟨hP, hS, lv_sub hl [0, 1] rfl, h⟩
set_option maxHeartbeats 4000000 in
set_option maxRecDepth 100000 in
theorem k_x12_crashes (l : Launch) (D : va_G) (a : Nat → Nat) (sz : Nat) (s : MS) (o : MS) (h : m_x12_crashes s = some o) : yWv l yX12_crashes cX12_crashes 2 none { frames := 1, cells := 0, slots := 0, locals := 60 } D sz [.ref (a 200)] (RW D a s) (RW D a o) := by
  refine Met.ofW (cc := cX12_crashes) (maxL := 2) (ret := none) (by decide) rfl ?_
  intro p e s₀ m args below meth c s₁ B hml hv
  obtain ⟨rfl, ⟨hsz, hP, hK, hD0⟩, hN⟩ := hv
  have hx := B.exec
  have hb := B.bytes
  have hr := B.returns
  have hts := atoms_spec (ws := wz yX12_crashes cX12_crashes 2 none) B.pre
  have ht : ∀ w ∈ lw_gd, w.before _ s₀ = true := fun w h => hts w (List.mem_cons_of_mem _ h)
  have hown : s₀.vm.findClass RX12 = some m.cls := findClass_of_methodNamed B.named
  have hlocks := B.notSynchronized
  subst hsz
  have hD := hD0.self (sz := s₀.heap.size)
  generalize hAe : va_A (RW D a s) s₀.heap.size = A at hD ⊢
  have hA : ∀ q : Nat, s₀.heap.size ≤ q → A q := fun q h => by rw [← hAe]; exact Or.inr h
  have hS : va_S A s₀.heap s₀.heap [] := va_S.rf
  have hDD : ∀ t : MS, va_D A (RW D a t) := fun t => RW_D t hD
  have hl := lv_entry ([.ref (a 200)]) (n := 2) (Nat.le_of_ble_eq_true rfl)
  rw [lg_entry_eq]
  generalize (lg_sl ([.ref (a 200)]) ++ List.replicate (2 - (lg_sl ([.ref (a 200)])).length) Slot.unset).toArray = ls at hl ⊢
  have hl : lv_has ls 2 [(0, .ref (a 200))] := hl
  unfold m_x12_crashes at h
  refine y_loop (pcJ := 31) (σ := Int × MS) (fun n u H locs ls => va_P D vwCl (RW D a u.2) H ∧ va_S A s₀.heap H locs ∧ lv_has ls 2 [(0, .ref (a 200)), (1, .int (i2 u.1))] ∧ m_x12_crashes_L31 n u.1 u.2 = some o) (fun u => []) (fun u H locs ls hI => by obtain ⟨_, _, _, h⟩ := hI; cases h) (fun n31 ih31 u H locs ls hI => ?_) (fun J31 => ?_)
  · obtain ⟨hP, hS, hl, h⟩ := hI
    obtain ⟨x1, s2⟩ := u
    have hP : va_P D vwCl (RW D a s2) H := hP
    have hl : lv_has ls 2 [(0, .ref (a 200)), (1, .int (i2 x1))] := hl
    have h : m_x12_crashes_b31 (m_x12_crashes_L31 n31) x1 s2 = some o := h
    unfold m_x12_crashes_b31 at h
    refine lv_iload_n hx hb eX12_crashes_26.2.2.2.1 rfl (lv_at hl 1 rfl) ?_
    refine lv_bipush (v := 48) hx hb eX12_crashes_26.2.2.2.2.1 (by decide) ?_
    obtain ⟨hr3, h⟩ := rg_e h
    refine lv_icmp_ge (tgt := 60) hx hb eX12_crashes_26.2.2.2.2.2.1 (by decide) (fun c4 => ?_) (fun c4 => ?_)
    · have h := if_t ((i2_le (x := 48) (y := x1) (by decide) hr3).mp c4) h
      obtain rfl := Option.some.inj h
      exact W.vret hx hb hr (fun t ht hW => ⟨⟨(), rfl, trivial, by rw [ht]; exact hP, va_K.moved hW.alike hK, hDD _⟩, hS.F ht⟩) hS.2.2 eX12_crashes_53.2.2.2.1
    · have h := if_f (mt (i2_le (x := 48) (y := x1) (by decide) hr3).mpr c4) h
      refine lv_aload_n hx hb eX12_crashes_26.2.2.2.2.2.2.1 rfl (lv_at hl 0 rfl) ?_
      refine va_get (D := D) (ci := 12) (v := .ref (a 49)) (C := RX12) (T := TX12) (N := 116) hx hb ht inX12 hown hK hP 0 RW_0 rfl 49 (by decide) (ht (.fieldLink RX12 121 "CloneVolumesModel" "now" "[I") fl_X12_121) (fun _ h9 => h9) mF_49 eX12_crashes_26.2.2.2.2.2.2.2 ?_
      refine lv_bipush (v := 17) hx hb eX12_crashes_41.1 (by decide) ?_
      refine lv_bipush (v := 16) hx hb eX12_crashes_41.2.1 (by decide) ?_
      refine lv_iload_n hx hb eX12_crashes_41.2.2.1 rfl (lv_at hl 1 rfl) ?_
      refine lv_imul hx hb eX12_crashes_41.2.2.2.1 ?_
      refine z_topi (y := i2 (16 * x1)) (i2_mul 16 x1) ?_
      refine lv_iadd hx hb eX12_crashes_41.2.2.2.2.1 ?_
      refine z_topi (y := i2 (17 + (16 * x1))) (i2_add 17 (16 * x1)) ?_
      refine lv_aload_n hx hb eX12_crashes_41.2.2.2.2.2.1 rfl (lv_at hl 0 rfl) ?_
      refine lv_iload_n hx hb eX12_crashes_41.2.2.2.2.2.2.1 rfl (lv_at hl 1 rfl) ?_
      obtain ⟨r6, hc5, h⟩ := bn_e h
      refine ycV (r0 := i2 r6) (As := [.int (i2 x1)]) (rest := [.int (i2 (17 + (16 * x1))), .ref (a 49)]) (C := RX12) (n := 1) ⟨hx, hb, hml, hown, ht⟩ (k_x12_savedOf l D a x1 _ _ hc5) (zgV ml_X12_438 im_X12_savedOf se_X12_savedOf in_X12 co_X12_savedOf) rfl rfl (by decide +kernel) ⟨Nat.le_of_ble_eq_true rfl, Nat.le_of_ble_eq_true rfl⟩ hN hK hP hS 0 RW_0 rfl rfl rfl hl.1 rfl (Nat.le_of_ble_eq_true rfl) eX12_crashes_41.2.2.2.2.2.2.2 ⟨Nat.le_of_ble_eq_true rfl, Nat.le_of_ble_eq_true rfl⟩ (fun H locs hP hS => ?_)
      obtain ⟨hi7, h⟩ := inb_e h
      refine ya_iast (i := (17 + (16 * x1))) (x := r6) hx hb hK hP (hDD _) hS 36 0 RW_36 rfl (by decide) hi7 eX12_crashes_53.1 (RW_w36 _) (fun H locs hP hS => ?_)
      obtain ⟨s8, hs8, h⟩ := st_e h
      rw [hs8] at hP
      refine lv_iinc (v := i2 (x1 + 1)) (lv' := [(1, .int (i2 (x1 + 1))), (0, .ref (a 200))]) hx hb eX12_crashes_53.2.1 hl (k := 1) rfl (i2_add x1 1) (by decide) rfl (fun ls hl => ?_)
      refine lv_goto (tgt := 31) hx hb eX12_crashes_53.2.2.1 (by decide) ?_
      exact ih31 (x1 + 1, s8) _ _ _ ⟨hP, hS, lv_sub hl [1, 0] rfl, h⟩
  refine y_loop (pcJ := 2) (σ := Int × MS) (fun n u H locs ls => va_P D vwCl (RW D a u.2) H ∧ va_S A s₀.heap H locs ∧ lv_has ls 2 [(0, .ref (a 200)), (1, .int (i2 u.1))] ∧ m_x12_crashes_L2 n u.1 u.2 = some o) (fun u => []) (fun u H locs ls hI => by obtain ⟨_, _, _, h⟩ := hI; cases h) (fun n2 ih2 u H locs ls hI => ?_) (fun J2 => ?_)
  · obtain ⟨hP, hS, hl, h⟩ := hI
    obtain ⟨x9, s10⟩ := u
    have hP : va_P D vwCl (RW D a s10) H := hP
    have hl : lv_has ls 2 [(0, .ref (a 200)), (1, .int (i2 x9))] := hl
    have h : m_x12_crashes_b2 (m_x12_crashes_L2 n2) x9 s10 = some o := h
    unfold m_x12_crashes_b2 at h
    refine lv_iload_n hx hb eX12_crashes_0.2.2.1 rfl (lv_at hl 1 rfl) ?_
    refine lv_bipush (v := 8) hx hb eX12_crashes_0.2.2.2.1 (by decide) ?_
    obtain ⟨hr11, h⟩ := rg_e h
    refine lv_icmp_ge (tgt := 29) hx hb eX12_crashes_0.2.2.2.2.1 (by decide) (fun c12 => ?_) (fun c12 => ?_)
    · have h := if_t ((i2_le (x := 8) (y := x9) (by decide) hr11).mp c12) h
      refine lv_iconst (v := 0) hx hb eX12_crashes_26.2.1 (by decide) ?_
      refine lv_istore_n (lv' := [(1, .int 0), (0, .ref (a 200))]) hx hb eX12_crashes_26.2.2.1 rfl hl (by decide) rfl (fun ls hl => ?_)
      exact J31 FU (0, s10) _ _ _ ⟨hP, hS, lv_sub hl [1, 0] rfl, h⟩
    · have h := if_f (mt (i2_le (x := 8) (y := x9) (by decide) hr11).mpr c12) h
      refine lv_aload_n hx hb eX12_crashes_0.2.2.2.2.2.1 rfl (lv_at hl 0 rfl) ?_
      refine va_get (D := D) (ci := 12) (v := .ref (a 49)) (C := RX12) (T := TX12) (N := 116) hx hb ht inX12 hown hK hP 0 RW_0 rfl 49 (by decide) (ht (.fieldLink RX12 121 "CloneVolumesModel" "now" "[I") fl_X12_121) (fun _ h9 => h9) mF_49 eX12_crashes_0.2.2.2.2.2.2.1 ?_
      refine lv_iload_n hx hb eX12_crashes_0.2.2.2.2.2.2.2 rfl (lv_at hl 1 rfl) ?_
      refine lv_aload_n hx hb eX12_crashes_13.1 rfl (lv_at hl 0 rfl) ?_
      refine va_get (D := D) (ci := 12) (v := .ref (a 49)) (C := RX12) (T := TX12) (N := 116) hx hb ht inX12 hown hK hP 0 RW_0 rfl 49 (by decide) (ht (.fieldLink RX12 121 "CloneVolumesModel" "now" "[I") fl_X12_121) (fun _ h9 => h9) mF_49 eX12_crashes_13.2.1 ?_
      refine lv_bipush (v := 8) hx hb eX12_crashes_13.2.2.1 (by decide) ?_
      refine lv_iload_n hx hb eX12_crashes_13.2.2.2.1 rfl (lv_at hl 1 rfl) ?_
      refine lv_iadd hx hb eX12_crashes_13.2.2.2.2.1 ?_
      refine z_topi (y := i2 (8 + x9)) (i2_add 8 x9) ?_
      obtain ⟨y13, ey13, iy13, h⟩ := rdI_e h
      refine ya_iald (i := (8 + x9)) hx hb hK hP 36 0 RW_36 rfl (by decide) ey13 iy13 eX12_crashes_13.2.2.2.2.2.1 ?_
      obtain ⟨hi14, h⟩ := inb_e h
      refine ya_iast (i := x9) (x := y13) hx hb hK hP (hDD _) hS 36 0 RW_36 rfl (by decide) hi14 eX12_crashes_13.2.2.2.2.2.2.1 (RW_w36 _) (fun H locs hP hS => ?_)
      obtain ⟨s15, hs15, h⟩ := st_e h
      rw [hs15] at hP
      refine lv_iinc (v := i2 (x9 + 1)) (lv' := [(1, .int (i2 (x9 + 1))), (0, .ref (a 200))]) hx hb eX12_crashes_13.2.2.2.2.2.2.2 hl (k := 1) rfl (i2_add x9 1) (by decide) rfl (fun ls hl => ?_)
      refine lv_goto (tgt := 2) hx hb eX12_crashes_26.1 (by decide) ?_
      exact ih2 (x9 + 1, s15) _ _ _ ⟨hP, hS, lv_sub hl [1, 0] rfl, h⟩
  refine lv_iconst (v := 0) hx hb eX12_crashes_0.1 (by decide) ?_
  refine lv_istore_n (lv' := [(1, .int 0), (0, .ref (a 200))]) hx hb eX12_crashes_0.2.1 rfl hl (by decide) rfl (fun ls hl => ?_)
  exact J2 FU (0, s) _ _ _ ⟨hP, hS, lv_sub hl [1, 0] rfl, h⟩
set_option maxHeartbeats 4000000 in
set_option maxRecDepth 100000 in
theorem k_x12_putsAside (l : Launch) (D : va_G) (a : Nat → Nat) (sz : Nat) (s : MS) (o : MS) (h : m_x12_putsAside s = some o) : yWv l yX12_putsAside cX12_putsAside 2 none { frames := 1, cells := 0, slots := 0, locals := 60 } D sz [.ref (a 200)] (RW D a s) (RW D a o) := by
  refine Met.ofW (cc := cX12_putsAside) (maxL := 2) (ret := none) (by decide) rfl ?_
  intro p e s₀ m args below meth c s₁ B hml hv
  obtain ⟨rfl, ⟨hsz, hP, hK, hD0⟩, hN⟩ := hv
  have hx := B.exec
  have hb := B.bytes
  have hr := B.returns
  have hts := atoms_spec (ws := wz yX12_putsAside cX12_putsAside 2 none) B.pre
  have ht : ∀ w ∈ lw_gd, w.before _ s₀ = true := fun w h => hts w (List.mem_cons_of_mem _ h)
  have hown : s₀.vm.findClass RX12 = some m.cls := findClass_of_methodNamed B.named
  have hlocks := B.notSynchronized
  subst hsz
  have hD := hD0.self (sz := s₀.heap.size)
  generalize hAe : va_A (RW D a s) s₀.heap.size = A at hD ⊢
  have hA : ∀ q : Nat, s₀.heap.size ≤ q → A q := fun q h => by rw [← hAe]; exact Or.inr h
  have hS : va_S A s₀.heap s₀.heap [] := va_S.rf
  have hDD : ∀ t : MS, va_D A (RW D a t) := fun t => RW_D t hD
  have hl := lv_entry ([.ref (a 200)]) (n := 2) (Nat.le_of_ble_eq_true rfl)
  rw [lg_entry_eq]
  generalize (lg_sl ([.ref (a 200)]) ++ List.replicate (2 - (lg_sl ([.ref (a 200)])).length) Slot.unset).toArray = ls at hl ⊢
  have hl : lv_has ls 2 [(0, .ref (a 200))] := hl
  unfold m_x12_putsAside at h
  refine y_loop (pcJ := 2) (σ := Int × MS) (fun n u H locs ls => va_P D vwCl (RW D a u.2) H ∧ va_S A s₀.heap H locs ∧ lv_has ls 2 [(0, .ref (a 200)), (1, .int (i2 u.1))] ∧ m_x12_putsAside_L2 n u.1 u.2 = some o) (fun u => []) (fun u H locs ls hI => by obtain ⟨_, _, _, h⟩ := hI; cases h) (fun n2 ih2 u H locs ls hI => ?_) (fun J2 => ?_)
  · obtain ⟨hP, hS, hl, h⟩ := hI
    obtain ⟨x1, s2⟩ := u
    have hP : va_P D vwCl (RW D a s2) H := hP
    have hl : lv_has ls 2 [(0, .ref (a 200)), (1, .int (i2 x1))] := hl
    have h : m_x12_putsAside_b2 (m_x12_putsAside_L2 n2) x1 s2 = some o := h
    unfold m_x12_putsAside_b2 at h
    refine lv_iload_n hx hb eX12_letter_108.2.2.2.1 rfl (lv_at hl 1 rfl) ?_
    refine lv_sipush (v := 785) hx hb eX12_letter_108.2.2.2.2.1 (by decide) ?_
    obtain ⟨hr3, h⟩ := rg_e h
    refine lv_icmp_ge (tgt := 27) hx hb eX12_letter_108.2.2.2.2.2.1 (by decide) (fun c4 => ?_) (fun c4 => ?_)
    · have h := if_t ((i2_le (x := 785) (y := x1) (by decide) hr3).mp c4) h
      refine lv_aload_n hx hb eX12_putsAside_27.1 rfl (lv_at hl 0 rfl) ?_
      obtain ⟨s6, hc5, h⟩ := bn_e h
      refine ywVv (As := []) (rest := []) (C := RX12) (n := 0) (ws' := RW D a s6) ⟨hx, hb, hml, hown, ht⟩ (k_x12_clearsTouched l D a _ _ _ hc5) (zgV ml_X12_568 im_X12_clearsTouched se_X12_clearsTouched in_X12 co_X12_clearsTouched) rfl rfl (by decide +kernel) ⟨Nat.le_of_ble_eq_true rfl, Nat.le_of_ble_eq_true rfl⟩ hN hK hP (hDD _) hS hA 0 RW_0 rfl rfl rfl hl.1 rfl (Nat.le_of_ble_eq_true rfl) eX12_putsAside_27.2.1 ⟨Nat.le_of_ble_eq_true rfl, Nat.le_of_ble_eq_true rfl⟩ (fun H locs hP hS => ?_)
      obtain rfl := Option.some.inj h
      exact W.vret hx hb hr (fun t ht hW => ⟨⟨(), rfl, trivial, by rw [ht]; exact hP, va_K.moved hW.alike hK, hDD _⟩, hS.F ht⟩) hS.2.2 eX12_putsAside_27.2.2.1
    · have h := if_f (mt (i2_le (x := 785) (y := x1) (by decide) hr3).mpr c4) h
      refine lv_aload_n hx hb eX12_letter_108.2.2.2.2.2.2.1 rfl (lv_at hl 0 rfl) ?_
      refine va_get (D := D) (ci := 12) (v := .ref (a 61)) (C := RX12) (T := TX12) (N := 116) hx hb ht inX12 hown hK hP 0 RW_0 rfl 61 (by decide) (ht (.fieldLink RX12 143 "CloneVolumesModel" "aside" "[I") fl_X12_143) (fun _ h9 => h9) mF_61 eX12_letter_108.2.2.2.2.2.2.2 ?_
      refine lv_iload_n hx hb eX12_putsAside_13.1 rfl (lv_at hl 1 rfl) ?_
      refine lv_aload_n hx hb eX12_putsAside_13.2.1 rfl (lv_at hl 0 rfl) ?_
      refine va_get (D := D) (ci := 12) (v := .ref (a 49)) (C := RX12) (T := TX12) (N := 116) hx hb ht inX12 hown hK hP 0 RW_0 rfl 49 (by decide) (ht (.fieldLink RX12 121 "CloneVolumesModel" "now" "[I") fl_X12_121) (fun _ h9 => h9) mF_49 eX12_putsAside_13.2.2.1 ?_
      refine lv_iload_n hx hb eX12_putsAside_13.2.2.2.1 rfl (lv_at hl 1 rfl) ?_
      obtain ⟨y7, ey7, iy7, h⟩ := rdI_e h
      refine ya_iald (i := x1) hx hb hK hP 36 0 RW_36 rfl (by decide) ey7 iy7 eX12_putsAside_13.2.2.2.2.1 ?_
      obtain ⟨hi8, h⟩ := inb_e h
      refine ya_iast (i := x1) (x := y7) hx hb hK hP (hDD _) hS 43 0 RW_43 rfl (by decide) hi8 eX12_putsAside_13.2.2.2.2.2.1 (RW_w43 _) (fun H locs hP hS => ?_)
      obtain ⟨s9, hs9, h⟩ := st_e h
      rw [hs9] at hP
      refine lv_iinc (v := i2 (x1 + 1)) (lv' := [(1, .int (i2 (x1 + 1))), (0, .ref (a 200))]) hx hb eX12_putsAside_13.2.2.2.2.2.2.1 hl (k := 1) rfl (i2_add x1 1) (by decide) rfl (fun ls hl => ?_)
      refine lv_goto (tgt := 2) hx hb eX12_putsAside_13.2.2.2.2.2.2.2 (by decide) ?_
      exact ih2 (x1 + 1, s9) _ _ _ ⟨hP, hS, lv_sub hl [1, 0] rfl, h⟩
  refine lv_iconst (v := 0) hx hb eX12_letter_108.2.1 (by decide) ?_
  refine lv_istore_n (lv' := [(1, .int 0), (0, .ref (a 200))]) hx hb eX12_letter_108.2.2.1 rfl hl (by decide) rfl (fun ls hl => ?_)
  exact J2 FU (0, s) _ _ _ ⟨hP, hS, lv_sub hl [1, 0] rfl, h⟩
set_option maxHeartbeats 4000000 in
set_option maxRecDepth 100000 in
theorem k_x12_takesBack (l : Launch) (D : va_G) (a : Nat → Nat) (sz : Nat) (s : MS) (o : MS) (h : m_x12_takesBack s = some o) : yWv l yX12_takesBack cX12_takesBack 2 none { frames := 0, cells := 0, slots := 0, locals := 0 } D sz [.ref (a 200)] (RW D a s) (RW D a o) := by
  refine Met.ofW (cc := cX12_takesBack) (maxL := 2) (ret := none) (by decide) rfl ?_
  intro p e s₀ m args below meth c s₁ B hml hv
  obtain ⟨rfl, ⟨hsz, hP, hK, hD0⟩, hN⟩ := hv
  have hx := B.exec
  have hb := B.bytes
  have hr := B.returns
  have hts := atoms_spec (ws := wz yX12_takesBack cX12_takesBack 2 none) B.pre
  have ht : ∀ w ∈ lw_gd, w.before _ s₀ = true := fun w h => hts w (List.mem_cons_of_mem _ h)
  have hown : s₀.vm.findClass RX12 = some m.cls := findClass_of_methodNamed B.named
  have hlocks := B.notSynchronized
  subst hsz
  have hD := hD0.self (sz := s₀.heap.size)
  generalize hAe : va_A (RW D a s) s₀.heap.size = A at hD ⊢
  have hA : ∀ q : Nat, s₀.heap.size ≤ q → A q := fun q h => by rw [← hAe]; exact Or.inr h
  have hS : va_S A s₀.heap s₀.heap [] := va_S.rf
  have hDD : ∀ t : MS, va_D A (RW D a t) := fun t => RW_D t hD
  have hl := lv_entry ([.ref (a 200)]) (n := 2) (Nat.le_of_ble_eq_true rfl)
  rw [lg_entry_eq]
  generalize (lg_sl ([.ref (a 200)]) ++ List.replicate (2 - (lg_sl ([.ref (a 200)])).length) Slot.unset).toArray = ls at hl ⊢
  have hl : lv_has ls 2 [(0, .ref (a 200))] := hl
  unfold m_x12_takesBack at h
  refine y_loop (pcJ := 2) (σ := Int × MS) (fun n u H locs ls => va_P D vwCl (RW D a u.2) H ∧ va_S A s₀.heap H locs ∧ lv_has ls 2 [(0, .ref (a 200)), (1, .int (i2 u.1))] ∧ m_x12_takesBack_L2 n u.1 u.2 = some o) (fun u => []) (fun u H locs ls hI => by obtain ⟨_, _, _, h⟩ := hI; cases h) (fun n2 ih2 u H locs ls hI => ?_) (fun J2 => ?_)
  · obtain ⟨hP, hS, hl, h⟩ := hI
    obtain ⟨x1, s2⟩ := u
    have hP : va_P D vwCl (RW D a s2) H := hP
    have hl : lv_has ls 2 [(0, .ref (a 200)), (1, .int (i2 x1))] := hl
    have h : m_x12_takesBack_b2 (m_x12_takesBack_L2 n2) x1 s2 = some o := h
    unfold m_x12_takesBack_b2 at h
    refine lv_iload_n hx hb eX12_putsAside_27.2.2.2.2.2.1 rfl (lv_at hl 1 rfl) ?_
    refine lv_sipush (v := 785) hx hb eX12_putsAside_27.2.2.2.2.2.2.1 (by decide) ?_
    obtain ⟨hr3, h⟩ := rg_e h
    refine lv_icmp_ge (tgt := 27) hx hb eX12_putsAside_27.2.2.2.2.2.2.2 (by decide) (fun c4 => ?_) (fun c4 => ?_)
    · have h := if_t ((i2_le (x := 785) (y := x1) (by decide) hr3).mp c4) h
      obtain rfl := Option.some.inj h
      exact W.vret hx hb hr (fun t ht hW => ⟨⟨(), rfl, trivial, by rw [ht]; exact hP, va_K.moved hW.alike hK, hDD _⟩, hS.F ht⟩) hS.2.2 eX12_takesBack_21.2.2.1
    · have h := if_f (mt (i2_le (x := 785) (y := x1) (by decide) hr3).mpr c4) h
      refine lv_aload_n hx hb eX12_takesBack_9.1 rfl (lv_at hl 0 rfl) ?_
      refine va_get (D := D) (ci := 12) (v := .ref (a 49)) (C := RX12) (T := TX12) (N := 116) hx hb ht inX12 hown hK hP 0 RW_0 rfl 49 (by decide) (ht (.fieldLink RX12 121 "CloneVolumesModel" "now" "[I") fl_X12_121) (fun _ h9 => h9) mF_49 eX12_takesBack_9.2.1 ?_
      refine lv_iload_n hx hb eX12_takesBack_9.2.2.1 rfl (lv_at hl 1 rfl) ?_
      refine lv_aload_n hx hb eX12_takesBack_9.2.2.2.1 rfl (lv_at hl 0 rfl) ?_
      refine va_get (D := D) (ci := 12) (v := .ref (a 61)) (C := RX12) (T := TX12) (N := 116) hx hb ht inX12 hown hK hP 0 RW_0 rfl 61 (by decide) (ht (.fieldLink RX12 143 "CloneVolumesModel" "aside" "[I") fl_X12_143) (fun _ h9 => h9) mF_61 eX12_takesBack_9.2.2.2.2.1 ?_
      refine lv_iload_n hx hb eX12_takesBack_9.2.2.2.2.2.1 rfl (lv_at hl 1 rfl) ?_
      obtain ⟨y5, ey5, iy5, h⟩ := rdI_e h
      refine ya_iald (i := x1) hx hb hK hP 43 0 RW_43 rfl (by decide) ey5 iy5 eX12_takesBack_9.2.2.2.2.2.2.1 ?_
      obtain ⟨hi6, h⟩ := inb_e h
      refine ya_iast (i := x1) (x := y5) hx hb hK hP (hDD _) hS 36 0 RW_36 rfl (by decide) hi6 eX12_takesBack_9.2.2.2.2.2.2.2 (RW_w36 _) (fun H locs hP hS => ?_)
      obtain ⟨s7, hs7, h⟩ := st_e h
      rw [hs7] at hP
      refine lv_iinc (v := i2 (x1 + 1)) (lv' := [(1, .int (i2 (x1 + 1))), (0, .ref (a 200))]) hx hb eX12_takesBack_21.1 hl (k := 1) rfl (i2_add x1 1) (by decide) rfl (fun ls hl => ?_)
      refine lv_goto (tgt := 2) hx hb eX12_takesBack_21.2.1 (by decide) ?_
      exact ih2 (x1 + 1, s7) _ _ _ ⟨hP, hS, lv_sub hl [1, 0] rfl, h⟩
  refine lv_iconst (v := 0) hx hb eX12_putsAside_27.2.2.2.1 (by decide) ?_
  refine lv_istore_n (lv' := [(1, .int 0), (0, .ref (a 200))]) hx hb eX12_putsAside_27.2.2.2.2.1 rfl hl (by decide) rfl (fun ls hl => ?_)
  exact J2 FU (0, s) _ _ _ ⟨hP, hS, lv_sub hl [1, 0] rfl, h⟩
set_option maxHeartbeats 4000000 in
set_option maxRecDepth 100000 in
theorem k_x12_volumeMany (l : Launch) (D : va_G) (a : Nat → Nat) (s : MS) (o : Int) (h : m_x12_volumeMany s = some o) : yRi l yX12_volumeMany cX12_volumeMany 3 (some .int) { frames := 2, cells := 0, slots := 0, locals := 120 } D [.ref (a 200)] (RW D a s) (i2 o) := by
  refine Met.ofW (cc := cX12_volumeMany) (maxL := 3) (ret := (some .int)) (by decide) rfl ?_
  intro p e s₀ m args below meth c s₁ B hml hv
  obtain ⟨rfl, ⟨hP, hK⟩, hN⟩ := hv
  have hx := B.exec
  have hb := B.bytes
  have hr := B.returns
  have hts := atoms_spec (ws := wz yX12_volumeMany cX12_volumeMany 3 (some .int)) B.pre
  have ht : ∀ w ∈ lw_gd, w.before _ s₀ = true := fun w h => hts w (List.mem_cons_of_mem _ h)
  have hown : s₀.vm.findClass RX12 = some m.cls := findClass_of_methodNamed B.named
  have hlocks := B.notSynchronized
  have hS : va_S (fun _ => False) s₀.heap s₀.heap [] := va_S.rf
  have hl := lv_entry ([.ref (a 200)]) (n := 3) (Nat.le_of_ble_eq_true rfl)
  rw [lg_entry_eq]
  generalize (lg_sl ([.ref (a 200)]) ++ List.replicate (3 - (lg_sl ([.ref (a 200)])).length) Slot.unset).toArray = ls at hl ⊢
  have hl : lv_has ls 3 [(0, .ref (a 200))] := hl
  unfold m_x12_volumeMany at h
  refine y_loop (pcJ := 4) (σ := Int × Int) (fun n u H locs ls => va_P D vwCl (RW D a s) H ∧ va_S (fun _ => False) s₀.heap H locs ∧ lv_has ls 3 [(0, .ref (a 200)), (1, .int (i2 u.1)), (2, .int (i2 u.2))] ∧ m_x12_volumeMany_L4 s n u.1 u.2 = some o) (fun u => []) (fun u H locs ls hI => by obtain ⟨_, _, _, h⟩ := hI; cases h) (fun n4 ih4 u H locs ls hI => ?_) (fun J4 => ?_)
  · obtain ⟨hP, hS, hl, h⟩ := hI
    obtain ⟨x1, x2⟩ := u
    have hP : va_P D vwCl (RW D a s) H := hP
    have hl : lv_has ls 3 [(0, .ref (a 200)), (1, .int (i2 x1)), (2, .int (i2 x2))] := hl
    have h : m_x12_volumeMany_b4 s (m_x12_volumeMany_L4 s n4) x1 x2 = some o := h
    unfold m_x12_volumeMany_b4 at h
    refine y_head (pcJ := 22) (σ := Int × Int) (fun u H locs ls => va_P D vwCl (RW D a s) H ∧ va_S (fun _ => False) s₀.heap H locs ∧ lv_has ls 3 [(0, .ref (a 200)), (1, .int (i2 u.1)), (2, .int (i2 u.2))] ∧ m_x12_volumeMany_J22 s (m_x12_volumeMany_L4 s n4) u.1 u.2 = some o) (fun u => []) (fun u H locs ls hI => ?_) (fun J22 => ?_)
    · obtain ⟨hP, hS, hl, h⟩ := hI
      obtain ⟨x3, x4⟩ := u
      have hP : va_P D vwCl (RW D a s) H := hP
      have hl : lv_has ls 3 [(0, .ref (a 200)), (1, .int (i2 x3)), (2, .int (i2 x4))] := hl
      have h : m_x12_volumeMany_J22 s (m_x12_volumeMany_L4 s n4) x3 x4 = some o := h
      unfold m_x12_volumeMany_J22 at h
      refine lv_iinc (v := i2 (x4 + 1)) (lv' := [(2, .int (i2 (x4 + 1))), (0, .ref (a 200)), (1, .int (i2 x3))]) hx hb eX12_volumeMany_22.1 hl (k := 2) rfl (i2_add x4 1) (by decide) rfl (fun ls hl => ?_)
      refine lv_goto (tgt := 4) hx hb eX12_volumeMany_22.2.1 (by decide) ?_
      exact ih4 (x3, x4 + 1) _ _ _ ⟨hP, hS, lv_sub hl [1, 2, 0] rfl, h⟩
    refine lv_iload_n hx hb eX12_volume_107.2.2.2.2.2.2.2 rfl (lv_at hl 2 rfl) ?_
    refine lv_bipush (v := 8) hx hb eX12_volumeMany_5.1 (by decide) ?_
    obtain ⟨hr5, h⟩ := rg_e h
    refine lv_icmp_ge (tgt := 28) hx hb eX12_volumeMany_5.2.1 (by decide) (fun c6 => ?_) (fun c6 => ?_)
    · have h := if_t ((i2_le (x := 8) (y := x2) (by decide) hr5).mp c6) h
      refine lv_iload_n hx hb eX12_volumeMany_22.2.2.1 rfl (lv_at hl 1 rfl) ?_
      obtain rfl := Option.some.inj h
      exact W.iret (v := (i2 x1)) hx hb hr (fun t ht hW => ⟨⟨_, (), rfl, rfl, trivial⟩, hS.F ht⟩) hS.2.2 eX12_volumeMany_22.2.2.2
    · have h := if_f (mt (i2_le (x := 8) (y := x2) (by decide) hr5).mpr c6) h
      refine lv_aload_n hx hb eX12_volumeMany_5.2.2.1 rfl (lv_at hl 0 rfl) ?_
      refine lv_iload_n hx hb eX12_volumeMany_5.2.2.2.1 rfl (lv_at hl 2 rfl) ?_
      obtain ⟨hr7, h⟩ := rg_e h
      refine lv_i2l (v := i8 x2) hx hb eX12_volumeMany_5.2.2.2.2.1 (i2_l hr7) ?_
      obtain ⟨r9, hc8, h⟩ := bn_e h
      refine ycV (r0 := i2 r9) (As := [.long (i8 x2)]) (rest := []) (C := RX12) (n := 1) ⟨hx, hb, hml, hown, ht⟩ (k_x12_isVolume l D a x2 _ _ hc8) (zgV ml_X12_571 im_X12_isVolume se_X12_isVolume in_X12 co_X12_isVolume) rfl rfl (by decide +kernel) ⟨Nat.le_of_ble_eq_true rfl, Nat.le_of_ble_eq_true rfl⟩ hN hK hP hS 0 RW_0 rfl rfl rfl hl.1 rfl (Nat.le_of_ble_eq_true rfl) eX12_volumeMany_5.2.2.2.2.2.1 ⟨Nat.le_of_ble_eq_true rfl, Nat.le_of_ble_eq_true rfl⟩ (fun H locs hP hS => ?_)
      obtain ⟨hr10, h⟩ := rg_e h
      refine lv_if_eq (tgt := 22) hx hb eX12_volumeMany_5.2.2.2.2.2.2.1 (by decide) (fun c11 => ?_) (fun c11 => ?_)
      · have h := if_t ((i2_eq (x := r9) (y := 0) hr10 (by decide)).mp c11) h
        exact J22 (x1, x2) _ _ _ ⟨hP, hS, lv_sub hl [0, 1, 2] rfl, h⟩
      · have h := if_f (mt (i2_eq (x := r9) (y := 0) hr10 (by decide)).mpr c11) h
        refine lv_iinc (v := i2 (x1 + 1)) (lv' := [(1, .int (i2 (x1 + 1))), (0, .ref (a 200)), (2, .int (i2 x2))]) hx hb eX12_volumeMany_5.2.2.2.2.2.2.2 hl (k := 1) rfl (i2_add x1 1) (by decide) rfl (fun ls hl => ?_)
        exact J22 (x1 + 1, x2) _ _ _ ⟨hP, hS, lv_sub hl [1, 0, 2] rfl, h⟩
  refine lv_iconst (v := 0) hx hb eX12_volume_107.2.2.2.1 (by decide) ?_
  refine lv_istore_n (lv' := [(1, .int 0), (0, .ref (a 200))]) hx hb eX12_volume_107.2.2.2.2.1 rfl hl (by decide) rfl (fun ls hl => ?_)
  refine lv_iconst (v := 0) hx hb eX12_volume_107.2.2.2.2.2.1 (by decide) ?_
  refine lv_istore_n (lv' := [(2, .int 0), (1, .int 0), (0, .ref (a 200))]) hx hb eX12_volume_107.2.2.2.2.2.2.1 rfl hl (by decide) rfl (fun ls hl => ?_)
  exact J4 FU (0, 0) _ _ _ ⟨hP, hS, lv_sub hl [2, 1, 0] rfl, h⟩
set_option maxHeartbeats 4000000 in
set_option maxRecDepth 100000 in
theorem k_x12_usedMany (l : Launch) (D : va_G) (a : Nat → Nat) (s : MS) (o : Int) (h : m_x12_usedMany s = some o) : yRi l yX12_usedMany cX12_usedMany 3 (some .int) { frames := 2, cells := 0, slots := 0, locals := 120 } D [.ref (a 200)] (RW D a s) (i2 o) := by
  refine Met.ofW (cc := cX12_usedMany) (maxL := 3) (ret := (some .int)) (by decide) rfl ?_
  intro p e s₀ m args below meth c s₁ B hml hv
  obtain ⟨rfl, ⟨hP, hK⟩, hN⟩ := hv
  have hx := B.exec
  have hb := B.bytes
  have hr := B.returns
  have hts := atoms_spec (ws := wz yX12_usedMany cX12_usedMany 3 (some .int)) B.pre
  have ht : ∀ w ∈ lw_gd, w.before _ s₀ = true := fun w h => hts w (List.mem_cons_of_mem _ h)
  have hown : s₀.vm.findClass RX12 = some m.cls := findClass_of_methodNamed B.named
  have hlocks := B.notSynchronized
  have hS : va_S (fun _ => False) s₀.heap s₀.heap [] := va_S.rf
  have hl := lv_entry ([.ref (a 200)]) (n := 3) (Nat.le_of_ble_eq_true rfl)
  rw [lg_entry_eq]
  generalize (lg_sl ([.ref (a 200)]) ++ List.replicate (3 - (lg_sl ([.ref (a 200)])).length) Slot.unset).toArray = ls at hl ⊢
  have hl : lv_has ls 3 [(0, .ref (a 200))] := hl
  unfold m_x12_usedMany at h
  refine y_loop (pcJ := 4) (σ := Int × Int) (fun n u H locs ls => va_P D vwCl (RW D a s) H ∧ va_S (fun _ => False) s₀.heap H locs ∧ lv_has ls 3 [(0, .ref (a 200)), (1, .int (i2 u.1)), (2, .int (i2 u.2))] ∧ m_x12_usedMany_L4 s n u.1 u.2 = some o) (fun u => []) (fun u H locs ls hI => by obtain ⟨_, _, _, h⟩ := hI; cases h) (fun n4 ih4 u H locs ls hI => ?_) (fun J4 => ?_)
  · obtain ⟨hP, hS, hl, h⟩ := hI
    obtain ⟨x1, x2⟩ := u
    have hP : va_P D vwCl (RW D a s) H := hP
    have hl : lv_has ls 3 [(0, .ref (a 200)), (1, .int (i2 x1)), (2, .int (i2 x2))] := hl
    have h : m_x12_usedMany_b4 s (m_x12_usedMany_L4 s n4) x1 x2 = some o := h
    unfold m_x12_usedMany_b4 at h
    refine y_head (pcJ := 23) (σ := Int × Int) (fun u H locs ls => va_P D vwCl (RW D a s) H ∧ va_S (fun _ => False) s₀.heap H locs ∧ lv_has ls 3 [(0, .ref (a 200)), (1, .int (i2 u.1)), (2, .int (i2 u.2))] ∧ m_x12_usedMany_J23 s (m_x12_usedMany_L4 s n4) u.1 u.2 = some o) (fun u => []) (fun u H locs ls hI => ?_) (fun J23 => ?_)
    · obtain ⟨hP, hS, hl, h⟩ := hI
      obtain ⟨x3, x4⟩ := u
      have hP : va_P D vwCl (RW D a s) H := hP
      have hl : lv_has ls 3 [(0, .ref (a 200)), (1, .int (i2 x3)), (2, .int (i2 x4))] := hl
      have h : m_x12_usedMany_J23 s (m_x12_usedMany_L4 s n4) x3 x4 = some o := h
      unfold m_x12_usedMany_J23 at h
      refine lv_iinc (v := i2 (x4 + 1)) (lv' := [(2, .int (i2 (x4 + 1))), (0, .ref (a 200)), (1, .int (i2 x3))]) hx hb eX12_usedMany_23.1 hl (k := 2) rfl (i2_add x4 1) (by decide) rfl (fun ls hl => ?_)
      refine lv_goto (tgt := 4) hx hb eX12_usedMany_23.2.1 (by decide) ?_
      exact ih4 (x3, x4 + 1) _ _ _ ⟨hP, hS, lv_sub hl [1, 2, 0] rfl, h⟩
    refine lv_iload_n hx hb eX12_takesBack_21.2.2.2.2.2.2.2 rfl (lv_at hl 2 rfl) ?_
    refine lv_aload_n hx hb eX12_usedMany_5.1 rfl (lv_at hl 0 rfl) ?_
    obtain ⟨r6, hc5, h⟩ := bn_e h
    refine ycV (r0 := i2 r6) (As := []) (rest := [.int (i2 x2)]) (C := RX12) (n := 0) ⟨hx, hb, hml, hown, ht⟩ (k_x12_blockMany l D a _ _ hc5) (zgV ml_X12_429 im_X12_blockMany se_X12_blockMany in_X12 co_X12_blockMany) rfl rfl (by decide +kernel) ⟨Nat.le_of_ble_eq_true rfl, Nat.le_of_ble_eq_true rfl⟩ hN hK hP hS 0 RW_0 rfl rfl rfl hl.1 rfl (Nat.le_of_ble_eq_true rfl) eX12_usedMany_5.2.1 ⟨Nat.le_of_ble_eq_true rfl, Nat.le_of_ble_eq_true rfl⟩ (fun H locs hP hS => ?_)
    obtain ⟨hr7, h⟩ := rg_e h
    obtain ⟨hr8, h⟩ := rg_e h
    refine lv_icmp_ge (tgt := 29) hx hb eX12_usedMany_5.2.2.1 (by decide) (fun c9 => ?_) (fun c9 => ?_)
    · have h := if_t ((i2_le (x := r6) (y := x2) hr8 hr7).mp c9) h
      refine lv_iload_n hx hb eX12_usedMany_23.2.2.1 rfl (lv_at hl 1 rfl) ?_
      obtain rfl := Option.some.inj h
      exact W.iret (v := (i2 x1)) hx hb hr (fun t ht hW => ⟨⟨_, (), rfl, rfl, trivial⟩, hS.F ht⟩) hS.2.2 eX12_usedMany_23.2.2.2.1
    · have h := if_f (mt (i2_le (x := r6) (y := x2) hr8 hr7).mpr c9) h
      refine lv_aload_n hx hb eX12_usedMany_5.2.2.2.1 rfl (lv_at hl 0 rfl) ?_
      refine lv_iload_n hx hb eX12_usedMany_5.2.2.2.2.1 rfl (lv_at hl 2 rfl) ?_
      obtain ⟨r11, hc10, h⟩ := bn_e h
      refine ycV (r0 := i2 r11) (As := [.int (i2 x2)]) (rest := []) (C := RX12) (n := 1) ⟨hx, hb, hml, hown, ht⟩ (k_x12_isUsed l D a x2 _ _ hc10) (zgV ml_X12_435 im_X12_isUsed se_X12_isUsed in_X12 co_X12_isUsed) rfl rfl (by decide +kernel) ⟨Nat.le_of_ble_eq_true rfl, Nat.le_of_ble_eq_true rfl⟩ hN hK hP hS 0 RW_0 rfl rfl rfl hl.1 rfl (Nat.le_of_ble_eq_true rfl) eX12_usedMany_5.2.2.2.2.2.1 ⟨Nat.le_of_ble_eq_true rfl, Nat.le_of_ble_eq_true rfl⟩ (fun H locs hP hS => ?_)
      obtain ⟨hr12, h⟩ := rg_e h
      refine lv_if_eq (tgt := 23) hx hb eX12_usedMany_5.2.2.2.2.2.2.1 (by decide) (fun c13 => ?_) (fun c13 => ?_)
      · have h := if_t ((i2_eq (x := r11) (y := 0) hr12 (by decide)).mp c13) h
        exact J23 (x1, x2) _ _ _ ⟨hP, hS, lv_sub hl [0, 1, 2] rfl, h⟩
      · have h := if_f (mt (i2_eq (x := r11) (y := 0) hr12 (by decide)).mpr c13) h
        refine lv_iinc (v := i2 (x1 + 1)) (lv' := [(1, .int (i2 (x1 + 1))), (0, .ref (a 200)), (2, .int (i2 x2))]) hx hb eX12_usedMany_5.2.2.2.2.2.2.2 hl (k := 1) rfl (i2_add x1 1) (by decide) rfl (fun ls hl => ?_)
        exact J23 (x1 + 1, x2) _ _ _ ⟨hP, hS, lv_sub hl [1, 0, 2] rfl, h⟩
  refine lv_iconst (v := 0) hx hb eX12_takesBack_21.2.2.2.1 (by decide) ?_
  refine lv_istore_n (lv' := [(1, .int 0), (0, .ref (a 200))]) hx hb eX12_takesBack_21.2.2.2.2.1 rfl hl (by decide) rfl (fun ls hl => ?_)
  refine lv_iconst (v := 0) hx hb eX12_takesBack_21.2.2.2.2.2.1 (by decide) ?_
  refine lv_istore_n (lv' := [(2, .int 0), (1, .int 0), (0, .ref (a 200))]) hx hb eX12_takesBack_21.2.2.2.2.2.2.1 rfl hl (by decide) rfl (fun ls hl => ?_)
  exact J4 FU (0, 0) _ _ _ ⟨hP, hS, lv_sub hl [2, 1, 0] rfl, h⟩
set_option maxHeartbeats 4000000 in
set_option maxRecDepth 100000 in
theorem k_x12_heldMany (l : Launch) (D : va_G) (a : Nat → Nat) (s : MS) (o : Int) (h : m_x12_heldMany s = some o) : yRi l yX12_heldMany cX12_heldMany 3 (some .int) { frames := 3, cells := 0, slots := 0, locals := 180 } D [.ref (a 200)] (RW D a s) (i2 o) := by
  refine Met.ofW (cc := cX12_heldMany) (maxL := 3) (ret := (some .int)) (by decide) rfl ?_
  intro p e s₀ m args below meth c s₁ B hml hv
  obtain ⟨rfl, ⟨hP, hK⟩, hN⟩ := hv
  have hx := B.exec
  have hb := B.bytes
  have hr := B.returns
  have hts := atoms_spec (ws := wz yX12_heldMany cX12_heldMany 3 (some .int)) B.pre
  have ht : ∀ w ∈ lw_gd, w.before _ s₀ = true := fun w h => hts w (List.mem_cons_of_mem _ h)
  have hown : s₀.vm.findClass RX12 = some m.cls := findClass_of_methodNamed B.named
  have hlocks := B.notSynchronized
  have hS : va_S (fun _ => False) s₀.heap s₀.heap [] := va_S.rf
  have hl := lv_entry ([.ref (a 200)]) (n := 3) (Nat.le_of_ble_eq_true rfl)
  rw [lg_entry_eq]
  generalize (lg_sl ([.ref (a 200)]) ++ List.replicate (3 - (lg_sl ([.ref (a 200)])).length) Slot.unset).toArray = ls at hl ⊢
  have hl : lv_has ls 3 [(0, .ref (a 200))] := hl
  unfold m_x12_heldMany at h
  refine y_loop (pcJ := 4) (σ := Int × Int) (fun n u H locs ls => va_P D vwCl (RW D a s) H ∧ va_S (fun _ => False) s₀.heap H locs ∧ lv_has ls 3 [(0, .ref (a 200)), (1, .int (i2 u.1)), (2, .int (i2 u.2))] ∧ m_x12_heldMany_L4 s n u.1 u.2 = some o) (fun u => []) (fun u H locs ls hI => by obtain ⟨_, _, _, h⟩ := hI; cases h) (fun n4 ih4 u H locs ls hI => ?_) (fun J4 => ?_)
  · obtain ⟨hP, hS, hl, h⟩ := hI
    obtain ⟨x1, x2⟩ := u
    have hP : va_P D vwCl (RW D a s) H := hP
    have hl : lv_has ls 3 [(0, .ref (a 200)), (1, .int (i2 x1)), (2, .int (i2 x2))] := hl
    have h : m_x12_heldMany_b4 s (m_x12_heldMany_L4 s n4) x1 x2 = some o := h
    unfold m_x12_heldMany_b4 at h
    refine y_head (pcJ := 23) (σ := Int × Int) (fun u H locs ls => va_P D vwCl (RW D a s) H ∧ va_S (fun _ => False) s₀.heap H locs ∧ lv_has ls 3 [(0, .ref (a 200)), (1, .int (i2 u.1)), (2, .int (i2 u.2))] ∧ m_x12_heldMany_J23 s (m_x12_heldMany_L4 s n4) u.1 u.2 = some o) (fun u => []) (fun u H locs ls hI => ?_) (fun J23 => ?_)
    · obtain ⟨hP, hS, hl, h⟩ := hI
      obtain ⟨x3, x4⟩ := u
      have hP : va_P D vwCl (RW D a s) H := hP
      have hl : lv_has ls 3 [(0, .ref (a 200)), (1, .int (i2 x3)), (2, .int (i2 x4))] := hl
      have h : m_x12_heldMany_J23 s (m_x12_heldMany_L4 s n4) x3 x4 = some o := h
      unfold m_x12_heldMany_J23 at h
      refine lv_iinc (v := i2 (x4 + 1)) (lv' := [(2, .int (i2 (x4 + 1))), (0, .ref (a 200)), (1, .int (i2 x3))]) hx hb eX12_heldMany_14.2.2.2.1 hl (k := 2) rfl (i2_add x4 1) (by decide) rfl (fun ls hl => ?_)
      refine lv_goto (tgt := 4) hx hb eX12_heldMany_14.2.2.2.2.1 (by decide) ?_
      exact ih4 (x3, x4 + 1) _ _ _ ⟨hP, hS, lv_sub hl [1, 2, 0] rfl, h⟩
    refine lv_iload_n hx hb eX12_heldMany_2.2.2.1 rfl (lv_at hl 2 rfl) ?_
    refine lv_aload_n hx hb eX12_heldMany_2.2.2.2.1 rfl (lv_at hl 0 rfl) ?_
    obtain ⟨r6, hc5, h⟩ := bn_e h
    refine ycV (r0 := i2 r6) (As := []) (rest := [.int (i2 x2)]) (C := RX12) (n := 0) ⟨hx, hb, hml, hown, ht⟩ (k_x12_blockMany l D a _ _ hc5) (zgV ml_X12_429 im_X12_blockMany se_X12_blockMany in_X12 co_X12_blockMany) rfl rfl (by decide +kernel) ⟨Nat.le_of_ble_eq_true rfl, Nat.le_of_ble_eq_true rfl⟩ hN hK hP hS 0 RW_0 rfl rfl rfl hl.1 rfl (Nat.le_of_ble_eq_true rfl) eX12_heldMany_2.2.2.2.2.1 ⟨Nat.le_of_ble_eq_true rfl, Nat.le_of_ble_eq_true rfl⟩ (fun H locs hP hS => ?_)
    obtain ⟨hr7, h⟩ := rg_e h
    obtain ⟨hr8, h⟩ := rg_e h
    refine lv_icmp_ge (tgt := 29) hx hb eX12_heldMany_2.2.2.2.2.2.1 (by decide) (fun c9 => ?_) (fun c9 => ?_)
    · have h := if_t ((i2_le (x := r6) (y := x2) hr8 hr7).mp c9) h
      refine lv_iload_n hx hb eX12_heldMany_14.2.2.2.2.2.1 rfl (lv_at hl 1 rfl) ?_
      obtain rfl := Option.some.inj h
      exact W.iret (v := (i2 x1)) hx hb hr (fun t ht hW => ⟨⟨_, (), rfl, rfl, trivial⟩, hS.F ht⟩) hS.2.2 eX12_heldMany_14.2.2.2.2.2.2.1
    · have h := if_f (mt (i2_le (x := r6) (y := x2) hr8 hr7).mpr c9) h
      refine lv_aload_n hx hb eX12_heldMany_2.2.2.2.2.2.2.1 rfl (lv_at hl 0 rfl) ?_
      refine lv_iload_n hx hb eX12_heldMany_2.2.2.2.2.2.2.2 rfl (lv_at hl 2 rfl) ?_
      obtain ⟨r11, hc10, h⟩ := bn_e h
      refine ycV (r0 := i2 r11) (As := [.int (i2 x2)]) (rest := []) (C := RX12) (n := 1) ⟨hx, hb, hml, hown, ht⟩ (k_x12_isHeld l D a x2 _ _ hc10) (zgV ml_X12_575 im_X12_isHeld se_X12_isHeld in_X12 co_X12_isHeld) rfl rfl (by decide +kernel) ⟨Nat.le_of_ble_eq_true rfl, Nat.le_of_ble_eq_true rfl⟩ hN hK hP hS 0 RW_0 rfl rfl rfl hl.1 rfl (Nat.le_of_ble_eq_true rfl) eX12_heldMany_14.1 ⟨Nat.le_of_ble_eq_true rfl, Nat.le_of_ble_eq_true rfl⟩ (fun H locs hP hS => ?_)
      obtain ⟨hr12, h⟩ := rg_e h
      refine lv_if_eq (tgt := 23) hx hb eX12_heldMany_14.2.1 (by decide) (fun c13 => ?_) (fun c13 => ?_)
      · have h := if_t ((i2_eq (x := r11) (y := 0) hr12 (by decide)).mp c13) h
        exact J23 (x1, x2) _ _ _ ⟨hP, hS, lv_sub hl [0, 1, 2] rfl, h⟩
      · have h := if_f (mt (i2_eq (x := r11) (y := 0) hr12 (by decide)).mpr c13) h
        refine lv_iinc (v := i2 (x1 + 1)) (lv' := [(1, .int (i2 (x1 + 1))), (0, .ref (a 200)), (2, .int (i2 x2))]) hx hb eX12_heldMany_14.2.2.1 hl (k := 1) rfl (i2_add x1 1) (by decide) rfl (fun ls hl => ?_)
        exact J23 (x1 + 1, x2) _ _ _ ⟨hP, hS, lv_sub hl [1, 0, 2] rfl, h⟩
  refine lv_iconst (v := 0) hx hb eX12_has_107.2.2.2.2.2.2.1 (by decide) ?_
  refine lv_istore_n (lv' := [(1, .int 0), (0, .ref (a 200))]) hx hb eX12_has_107.2.2.2.2.2.2.2 rfl hl (by decide) rfl (fun ls hl => ?_)
  refine lv_iconst (v := 0) hx hb eX12_heldMany_2.1 (by decide) ?_
  refine lv_istore_n (lv' := [(2, .int 0), (1, .int 0), (0, .ref (a 200))]) hx hb eX12_heldMany_2.2.1 rfl hl (by decide) rfl (fun ls hl => ?_)
  exact J4 FU (0, 0) _ _ _ ⟨hP, hS, lv_sub hl [2, 1, 0] rfl, h⟩
set_option maxHeartbeats 4000000 in
set_option maxRecDepth 100000 in
theorem k_x12_freeMany (l : Launch) (D : va_G) (a : Nat → Nat) (s : MS) (o : Int) (h : m_x12_freeMany s = some o) : yRi l yX12_freeMany cX12_freeMany 1 (some .int) { frames := 4, cells := 0, slots := 0, locals := 240 } D [.ref (a 200)] (RW D a s) (i2 o) := by
  refine Met.ofW (cc := cX12_freeMany) (maxL := 1) (ret := (some .int)) (by decide) rfl ?_
  intro p e s₀ m args below meth c s₁ B hml hv
  obtain ⟨rfl, ⟨hP, hK⟩, hN⟩ := hv
  have hx := B.exec
  have hb := B.bytes
  have hr := B.returns
  have hts := atoms_spec (ws := wz yX12_freeMany cX12_freeMany 1 (some .int)) B.pre
  have ht : ∀ w ∈ lw_gd, w.before _ s₀ = true := fun w h => hts w (List.mem_cons_of_mem _ h)
  have hown : s₀.vm.findClass RX12 = some m.cls := findClass_of_methodNamed B.named
  have hlocks := B.notSynchronized
  have hS : va_S (fun _ => False) s₀.heap s₀.heap [] := va_S.rf
  have hl := lv_entry ([.ref (a 200)]) (n := 1) (Nat.le_of_ble_eq_true rfl)
  rw [lg_entry_eq]
  generalize (lg_sl ([.ref (a 200)]) ++ List.replicate (1 - (lg_sl ([.ref (a 200)])).length) Slot.unset).toArray = ls at hl ⊢
  have hl : lv_has ls 1 [(0, .ref (a 200))] := hl
  unfold m_x12_freeMany at h
  refine lv_aload_n hx hb eX12_dropsMany_16.2.2.2.2.2.2.2 rfl (lv_at hl 0 rfl) ?_
  obtain ⟨r2, hc1, h⟩ := bn_e h
  refine ycV (r0 := i2 r2) (As := []) (rest := []) (C := RX12) (n := 0) ⟨hx, hb, hml, hown, ht⟩ (k_x12_blockMany l D a _ _ hc1) (zgV ml_X12_429 im_X12_blockMany se_X12_blockMany in_X12 co_X12_blockMany) rfl rfl (by decide +kernel) ⟨Nat.le_of_ble_eq_true rfl, Nat.le_of_ble_eq_true rfl⟩ hN hK hP hS 0 RW_0 rfl rfl rfl hl.1 rfl (Nat.le_of_ble_eq_true rfl) eX12_freeMany_1.1 ⟨Nat.le_of_ble_eq_true rfl, Nat.le_of_ble_eq_true rfl⟩ (fun H locs hP hS => ?_)
  refine lv_aload_n hx hb eX12_freeMany_1.2.1 rfl (lv_at hl 0 rfl) ?_
  obtain ⟨r4, hc3, h⟩ := bn_e h
  refine ycV (r0 := i2 r4) (As := []) (rest := [.int (i2 r2)]) (C := RX12) (n := 0) ⟨hx, hb, hml, hown, ht⟩ (k_x12_usedMany l D a _ _ hc3) (zgV ml_X12_578 im_X12_usedMany se_X12_usedMany in_X12 co_X12_usedMany) rfl rfl (by decide +kernel) ⟨Nat.le_of_ble_eq_true rfl, Nat.le_of_ble_eq_true rfl⟩ hN hK hP hS 0 RW_0 rfl rfl rfl hl.1 rfl (Nat.le_of_ble_eq_true rfl) eX12_freeMany_1.2.2.1 ⟨Nat.le_of_ble_eq_true rfl, Nat.le_of_ble_eq_true rfl⟩ (fun H locs hP hS => ?_)
  refine lv_isub hx hb eX12_freeMany_1.2.2.2.1 ?_
  refine z_topi (y := i2 (r2 - r4)) (i2_sub r2 r4) ?_
  refine lv_aload_n hx hb eX12_freeMany_1.2.2.2.2.1 rfl (lv_at hl 0 rfl) ?_
  obtain ⟨r6, hc5, h⟩ := bn_e h
  refine ycV (r0 := i2 r6) (As := []) (rest := [.int (i2 (r2 - r4))]) (C := RX12) (n := 0) ⟨hx, hb, hml, hown, ht⟩ (k_x12_heldMany l D a _ _ hc5) (zgV ml_X12_581 im_X12_heldMany se_X12_heldMany in_X12 co_X12_heldMany) rfl rfl (by decide +kernel) ⟨Nat.le_of_ble_eq_true rfl, Nat.le_of_ble_eq_true rfl⟩ hN hK hP hS 0 RW_0 rfl rfl rfl hl.1 rfl (Nat.le_of_ble_eq_true rfl) eX12_freeMany_1.2.2.2.2.2.1 ⟨Nat.le_of_ble_eq_true rfl, Nat.le_of_ble_eq_true rfl⟩ (fun H locs hP hS => ?_)
  refine lv_isub hx hb eX12_freeMany_1.2.2.2.2.2.2.1 ?_
  refine z_topi (y := i2 ((r2 - r4) - r6)) (i2_sub (r2 - r4) r6) ?_
  obtain rfl := Option.some.inj h
  exact W.iret (v := (i2 ((r2 - r4) - r6))) hx hb hr (fun t ht hW => ⟨⟨_, (), rfl, rfl, trivial⟩, hS.F ht⟩) hS.2.2 eX12_freeMany_1.2.2.2.2.2.2.2
set_option maxHeartbeats 4000000 in
set_option maxRecDepth 100000 in
theorem k_x12_has (l : Launch) (D : va_G) (a : Nat → Nat) (p0 : Int) (s : MS) (o : Int) (h : m_x12_has p0 s = some o) : yRi l yX12_has cX12_has 2 (some .int) { frames := 5, cells := 0, slots := 0, locals := 300 } D [.ref (a 200), .int (i2 p0)] (RW D a s) (i2 o) := by
  refine Met.ofW (cc := cX12_has) (maxL := 2) (ret := (some .int)) (by decide) rfl ?_
  intro p e s₀ m args below meth c s₁ B hml hv
  obtain ⟨rfl, ⟨hP, hK⟩, hN⟩ := hv
  have hx := B.exec
  have hb := B.bytes
  have hr := B.returns
  have hts := atoms_spec (ws := wz yX12_has cX12_has 2 (some .int)) B.pre
  have ht : ∀ w ∈ lw_gd, w.before _ s₀ = true := fun w h => hts w (List.mem_cons_of_mem _ h)
  have hown : s₀.vm.findClass RX12 = some m.cls := findClass_of_methodNamed B.named
  have hlocks := B.notSynchronized
  have hS : va_S (fun _ => False) s₀.heap s₀.heap [] := va_S.rf
  have hl := lv_entry ([.ref (a 200), .int (i2 p0)]) (n := 2) (Nat.le_of_ble_eq_true rfl)
  rw [lg_entry_eq]
  generalize (lg_sl ([.ref (a 200), .int (i2 p0)]) ++ List.replicate (2 - (lg_sl ([.ref (a 200), .int (i2 p0)])).length) Slot.unset).toArray = ls at hl ⊢
  have hl : lv_has ls 2 [(0, .ref (a 200)), (1, .int (i2 p0))] := hl
  unfold m_x12_has at h
  refine lv_iload_n hx hb eX12_has_0.1 rfl (lv_at hl 1 rfl) ?_
  obtain ⟨hr1, h⟩ := rg_e h
  by_cases c2 : p0 = 0
  · have h := if_t c2 h
    refine lv_tableIn (off := 55) (tgt := 56) hx hb eX12_has_0.2.1 (by rw [c2]; decide) (by rw [c2]; decide) (by rw [c2]; decide) (by decide) ?_
    refine lv_aload_n hx hb eX12_has_0.2.2.1 rfl (lv_at hl 0 rfl) ?_
    obtain ⟨r4, hc3, h⟩ := bn_e h
    refine ycV (r0 := i2 r4) (As := []) (rest := []) (C := RX12) (n := 0) ⟨hx, hb, hml, hown, ht⟩ (k_x12_blockMany l D a _ _ hc3) (zgV ml_X12_429 im_X12_blockMany se_X12_blockMany in_X12 co_X12_blockMany) rfl rfl (by decide +kernel) ⟨Nat.le_of_ble_eq_true rfl, Nat.le_of_ble_eq_true rfl⟩ hN hK hP hS 0 RW_0 rfl rfl rfl hl.1 rfl (Nat.le_of_ble_eq_true rfl) eX12_has_0.2.2.2.1 ⟨Nat.le_of_ble_eq_true rfl, Nat.le_of_ble_eq_true rfl⟩ (fun H locs hP hS => ?_)
    obtain rfl := Option.some.inj h
    exact W.iret (v := (i2 r4)) hx hb hr (fun t ht hW => ⟨⟨_, (), rfl, rfl, trivial⟩, hS.F ht⟩) hS.2.2 eX12_has_0.2.2.2.2.1
  · have h := if_f c2 h
    by_cases c5 : p0 = 1
    · have h := if_t c5 h
      refine lv_tableIn (off := 60) (tgt := 61) hx hb eX12_has_0.2.1 (by rw [c5]; decide) (by rw [c5]; decide) (by rw [c5]; decide) (by decide) ?_
      refine lv_aload_n hx hb eX12_has_0.2.2.2.2.2.1 rfl (lv_at hl 0 rfl) ?_
      obtain ⟨r7, hc6, h⟩ := bn_e h
      refine ycV (r0 := i2 r7) (As := []) (rest := []) (C := RX12) (n := 0) ⟨hx, hb, hml, hown, ht⟩ (k_x12_volumeMany l D a _ _ hc6) (zgV ml_X12_584 im_X12_volumeMany se_X12_volumeMany in_X12 co_X12_volumeMany) rfl rfl (by decide +kernel) ⟨Nat.le_of_ble_eq_true rfl, Nat.le_of_ble_eq_true rfl⟩ hN hK hP hS 0 RW_0 rfl rfl rfl hl.1 rfl (Nat.le_of_ble_eq_true rfl) eX12_has_0.2.2.2.2.2.2.1 ⟨Nat.le_of_ble_eq_true rfl, Nat.le_of_ble_eq_true rfl⟩ (fun H locs hP hS => ?_)
      obtain rfl := Option.some.inj h
      exact W.iret (v := (i2 r7)) hx hb hr (fun t ht hW => ⟨⟨_, (), rfl, rfl, trivial⟩, hS.F ht⟩) hS.2.2 eX12_has_0.2.2.2.2.2.2.2
    · have h := if_f c5 h
      by_cases c8 : p0 = 2
      · have h := if_t c8 h
        refine lv_tableIn (off := 65) (tgt := 66) hx hb eX12_has_0.2.1 (by rw [c8]; decide) (by rw [c8]; decide) (by rw [c8]; decide) (by decide) ?_
        refine lv_aload_n hx hb eX12_has_66.1 rfl (lv_at hl 0 rfl) ?_
        obtain ⟨r10, hc9, h⟩ := bn_e h
        refine ycV (r0 := i2 r10) (As := []) (rest := []) (C := RX12) (n := 0) ⟨hx, hb, hml, hown, ht⟩ (k_x12_usedMany l D a _ _ hc9) (zgV ml_X12_578 im_X12_usedMany se_X12_usedMany in_X12 co_X12_usedMany) rfl rfl (by decide +kernel) ⟨Nat.le_of_ble_eq_true rfl, Nat.le_of_ble_eq_true rfl⟩ hN hK hP hS 0 RW_0 rfl rfl rfl hl.1 rfl (Nat.le_of_ble_eq_true rfl) eX12_has_66.2.1 ⟨Nat.le_of_ble_eq_true rfl, Nat.le_of_ble_eq_true rfl⟩ (fun H locs hP hS => ?_)
        obtain rfl := Option.some.inj h
        exact W.iret (v := (i2 r10)) hx hb hr (fun t ht hW => ⟨⟨_, (), rfl, rfl, trivial⟩, hS.F ht⟩) hS.2.2 eX12_has_66.2.2.1
      · have h := if_f c8 h
        by_cases c11 : p0 = 3
        · have h := if_t c11 h
          refine lv_tableIn (off := 70) (tgt := 71) hx hb eX12_has_0.2.1 (by rw [c11]; decide) (by rw [c11]; decide) (by rw [c11]; decide) (by decide) ?_
          refine lv_aload_n hx hb eX12_has_66.2.2.2.1 rfl (lv_at hl 0 rfl) ?_
          obtain ⟨r13, hc12, h⟩ := bn_e h
          refine ycV (r0 := i2 r13) (As := []) (rest := []) (C := RX12) (n := 0) ⟨hx, hb, hml, hown, ht⟩ (k_x12_heldMany l D a _ _ hc12) (zgV ml_X12_581 im_X12_heldMany se_X12_heldMany in_X12 co_X12_heldMany) rfl rfl (by decide +kernel) ⟨Nat.le_of_ble_eq_true rfl, Nat.le_of_ble_eq_true rfl⟩ hN hK hP hS 0 RW_0 rfl rfl rfl hl.1 rfl (Nat.le_of_ble_eq_true rfl) eX12_has_66.2.2.2.2.1 ⟨Nat.le_of_ble_eq_true rfl, Nat.le_of_ble_eq_true rfl⟩ (fun H locs hP hS => ?_)
          obtain rfl := Option.some.inj h
          exact W.iret (v := (i2 r13)) hx hb hr (fun t ht hW => ⟨⟨_, (), rfl, rfl, trivial⟩, hS.F ht⟩) hS.2.2 eX12_has_66.2.2.2.2.2.1
        · have h := if_f c11 h
          by_cases c14 : p0 = 4
          · have h := if_t c14 h
            refine lv_tableIn (off := 75) (tgt := 76) hx hb eX12_has_0.2.1 (by rw [c14]; decide) (by rw [c14]; decide) (by rw [c14]; decide) (by decide) ?_
            refine lv_aload_n hx hb eX12_has_66.2.2.2.2.2.2.1 rfl (lv_at hl 0 rfl) ?_
            obtain ⟨r16, hc15, h⟩ := bn_e h
            refine ycV (r0 := i2 r16) (As := []) (rest := []) (C := RX12) (n := 0) ⟨hx, hb, hml, hown, ht⟩ (k_x12_freeMany l D a _ _ hc15) (zgV ml_X12_587 im_X12_freeMany se_X12_freeMany in_X12 co_X12_freeMany) rfl rfl (by decide +kernel) ⟨Nat.le_of_ble_eq_true rfl, Nat.le_of_ble_eq_true rfl⟩ hN hK hP hS 0 RW_0 rfl rfl rfl hl.1 rfl (Nat.le_of_ble_eq_true rfl) eX12_has_66.2.2.2.2.2.2.2 ⟨Nat.le_of_ble_eq_true rfl, Nat.le_of_ble_eq_true rfl⟩ (fun H locs hP hS => ?_)
            obtain rfl := Option.some.inj h
            exact W.iret (v := (i2 r16)) hx hb hr (fun t ht hW => ⟨⟨_, (), rfl, rfl, trivial⟩, hS.F ht⟩) hS.2.2 eX12_has_80.1
          · have h := if_f c14 h
            by_cases c17 : p0 = 5
            · have h := if_t c17 h
              refine lv_tableIn (off := 80) (tgt := 81) hx hb eX12_has_0.2.1 (by rw [c17]; decide) (by rw [c17]; decide) (by rw [c17]; decide) (by decide) ?_
              refine lv_aload_n hx hb eX12_has_80.2.1 rfl (lv_at hl 0 rfl) ?_
              refine va_get (D := D) (ci := 12) (v := .ref (a 49)) (C := RX12) (T := TX12) (N := 116) hx hb ht inX12 hown hK hP 0 RW_0 rfl 49 (by decide) (ht (.fieldLink RX12 121 "CloneVolumesModel" "now" "[I") fl_X12_121) (fun _ h9 => h9) mF_49 eX12_has_80.2.2.1 ?_
              refine lv_bipush (v := 16) hx hb eX12_has_80.2.2.2.1 (by decide) ?_
              obtain ⟨y18, ey18, iy18, h⟩ := rdI_e h
              refine ya_iald (i := 16) hx hb hK hP 36 0 RW_36 rfl (by decide) ey18 iy18 eX12_has_80.2.2.2.2.1 ?_
              obtain rfl := Option.some.inj h
              exact W.iret (v := (i2 y18)) hx hb hr (fun t ht hW => ⟨⟨_, (), rfl, rfl, trivial⟩, hS.F ht⟩) hS.2.2 eX12_has_80.2.2.2.2.2.1
            · have h := if_f c17 h
              by_cases c19 : p0 = 6
              · have h := if_t c19 h
                refine lv_tableIn (off := 88) (tgt := 89) hx hb eX12_has_0.2.1 (by rw [c19]; decide) (by rw [c19]; decide) (by rw [c19]; decide) (by decide) ?_
                refine lv_aload_n hx hb eX12_has_80.2.2.2.2.2.2.1 rfl (lv_at hl 0 rfl) ?_
                refine va_get (D := D) (ci := 12) (v := .ref (a 49)) (C := RX12) (T := TX12) (N := 116) hx hb ht inX12 hown hK hP 0 RW_0 rfl 49 (by decide) (ht (.fieldLink RX12 121 "CloneVolumesModel" "now" "[I") fl_X12_121) (fun _ h9 => h9) mF_49 eX12_has_80.2.2.2.2.2.2.2 ?_
                refine lv_sipush (v := 785) hx hb eX12_has_93.1 (by decide) ?_
                obtain ⟨y20, ey20, iy20, h⟩ := rdI_e h
                refine ya_iald (i := 785) hx hb hK hP 36 0 RW_36 rfl (by decide) ey20 iy20 eX12_has_93.2.1 ?_
                obtain rfl := Option.some.inj h
                exact W.iret (v := (i2 y20)) hx hb hr (fun t ht hW => ⟨⟨_, (), rfl, rfl, trivial⟩, hS.F ht⟩) hS.2.2 eX12_has_93.2.2.1
              · have h := if_f c19 h
                by_cases c21 : p0 = 7
                · have h := if_t c21 h
                  refine lv_tableIn (off := 97) (tgt := 98) hx hb eX12_has_0.2.1 (by rw [c21]; decide) (by rw [c21]; decide) (by rw [c21]; decide) (by decide) ?_
                  refine lv_aload_n hx hb eX12_has_93.2.2.2.1 rfl (lv_at hl 0 rfl) ?_
                  refine va_get (D := D) (ci := 12) (v := .int (i2 (gI s 73))) (C := RX12) (T := TX12) (N := 116) hx hb ht inX12 hown hK hP 0 RW_0 rfl 73 (by decide) (ht (.fieldLink RX12 419 "CloneVolumesModel" "rowMany" "I") fl_X12_419) (fun _ h9 => h9) mF_73 eX12_has_93.2.2.2.2.1 ?_
                  obtain rfl := Option.some.inj h
                  exact W.iret (v := (i2 (gI s 73))) hx hb hr (fun t ht hW => ⟨⟨_, (), rfl, rfl, trivial⟩, hS.F ht⟩) hS.2.2 eX12_has_93.2.2.2.2.2.1
                · have h := if_f c21 h
                  by_cases c22 : p0 = 8
                  · have h := if_t c22 h
                    refine lv_tableIn (off := 102) (tgt := 103) hx hb eX12_has_0.2.1 (by rw [c22]; decide) (by rw [c22]; decide) (by rw [c22]; decide) (by decide) ?_
                    refine lv_aload_n hx hb eX12_has_93.2.2.2.2.2.2.1 rfl (lv_at hl 0 rfl) ?_
                    refine va_get (D := D) (ci := 12) (v := .int (i2 (gI s 76))) (C := RX12) (T := TX12) (N := 116) hx hb ht inX12 hown hK hP 0 RW_0 rfl 76 (by decide) (ht (.fieldLink RX12 416 "CloneVolumesModel" "undoable" "I") fl_X12_416) (fun _ h9 => h9) mF_76 eX12_has_93.2.2.2.2.2.2.2 ?_
                    obtain rfl := Option.some.inj h
                    exact W.iret (v := (i2 (gI s 76))) hx hb hr (fun t ht hW => ⟨⟨_, (), rfl, rfl, trivial⟩, hS.F ht⟩) hS.2.2 eX12_has_107.1
                  · have h := if_f c22 h
                    by_cases c23 : p0 = 9
                    · have h := if_t c23 h
                      refine lv_tableIn (off := 107) (tgt := 108) hx hb eX12_has_0.2.1 (by rw [c23]; decide) (by rw [c23]; decide) (by rw [c23]; decide) (by decide) ?_
                      refine lv_aload_n hx hb eX12_has_107.2.1 rfl (lv_at hl 0 rfl) ?_
                      obtain ⟨r25, hc24, h⟩ := bn_e h
                      refine ycV (r0 := i2 r25) (As := []) (rest := []) (C := RX12) (n := 0) ⟨hx, hb, hml, hown, ht⟩ (k_x12_roomOf l D a _ _ hc24) (zgV ml_X12_523 im_X12_roomOf se_X12_roomOf in_X12 co_X12_roomOf) rfl rfl (by decide +kernel) ⟨Nat.le_of_ble_eq_true rfl, Nat.le_of_ble_eq_true rfl⟩ hN hK hP hS 0 RW_0 rfl rfl rfl hl.1 rfl (Nat.le_of_ble_eq_true rfl) eX12_has_107.2.2.1 ⟨Nat.le_of_ble_eq_true rfl, Nat.le_of_ble_eq_true rfl⟩ (fun H locs hP hS => ?_)
                      obtain rfl := Option.some.inj h
                      exact W.iret (v := (i2 r25)) hx hb hr (fun t ht hW => ⟨⟨_, (), rfl, rfl, trivial⟩, hS.F ht⟩) hS.2.2 eX12_has_107.2.2.2.1
                    · have h := if_f c23 h
                      refine lv_tableOut (tgt := 113) hx hb eX12_has_0.2.1 (by rw [i2_t hr1]; omega) (by decide) ?_
                      refine lv_iconst (v := (-1)) hx hb eX12_has_107.2.2.2.2.1 (by decide) ?_
                      obtain rfl := Option.some.inj h
                      exact W.iret (v := (-1)) hx hb hr (fun t ht hW => ⟨⟨_, (), rfl, rfl, trivial⟩, hS.F ht⟩) hS.2.2 eX12_has_107.2.2.2.2.2.1
set_option maxHeartbeats 4000000 in
set_option maxRecDepth 100000 in
theorem k_x12_letter (l : Launch) (D : va_G) (a : Nat → Nat) (p0 : Int) (p1 : Int) (s : MS) (o : Int) (h : m_x12_letter p0 p1 s = some o) : yRi l yX12_letter cX12_letter 8 (some .int) { frames := 1, cells := 0, slots := 0, locals := 60 } D [.ref (a 200), .int (i2 p0), .int (i2 p1)] (RW D a s) (i2 o) := by
  refine Met.ofW (cc := cX12_letter) (maxL := 8) (ret := (some .int)) (by decide) rfl ?_
  intro p e s₀ m args below meth c s₁ B hml hv
  obtain ⟨rfl, ⟨hP, hK⟩, hN⟩ := hv
  have hx := B.exec
  have hb := B.bytes
  have hr := B.returns
  have hts := atoms_spec (ws := wz yX12_letter cX12_letter 8 (some .int)) B.pre
  have ht : ∀ w ∈ lw_gd, w.before _ s₀ = true := fun w h => hts w (List.mem_cons_of_mem _ h)
  have hown : s₀.vm.findClass RX12 = some m.cls := findClass_of_methodNamed B.named
  have hlocks := B.notSynchronized
  have hS : va_S (fun _ => False) s₀.heap s₀.heap [] := va_S.rf
  have hl := lv_entry ([.ref (a 200), .int (i2 p0), .int (i2 p1)]) (n := 8) (Nat.le_of_ble_eq_true rfl)
  rw [lg_entry_eq]
  generalize (lg_sl ([.ref (a 200), .int (i2 p0), .int (i2 p1)]) ++ List.replicate (8 - (lg_sl ([.ref (a 200), .int (i2 p0), .int (i2 p1)])).length) Slot.unset).toArray = ls at hl ⊢
  have hl : lv_has ls 8 [(0, .ref (a 200)), (1, .int (i2 p0)), (2, .int (i2 p1))] := hl
  unfold m_x12_letter at h
  refine y_loop (pcJ := 84) (σ := Int × Int × Int) (fun n u H locs ls => va_P D vwCl (RW D a s) H ∧ va_S (fun _ => False) s₀.heap H locs ∧ lv_has ls 8 [(2, .int (i2 u.1)), (3, .long (i8 u.2.1)), (6, .int (i2 u.2.2))] ∧ m_x12_letter_L84 s n u.1 u.2.1 u.2.2 = some o) (fun u => []) (fun u H locs ls hI => by obtain ⟨_, _, _, h⟩ := hI; cases h) (fun n84 ih84 u H locs ls hI => ?_) (fun J84 => ?_)
  · obtain ⟨hP, hS, hl, h⟩ := hI
    obtain ⟨x1, z2, x3⟩ := u
    have hP : va_P D vwCl (RW D a s) H := hP
    have hl : lv_has ls 8 [(2, .int (i2 x1)), (3, .long (i8 z2)), (6, .int (i2 x3))] := hl
    have h : m_x12_letter_b84 s (m_x12_letter_L84 s n84) x1 z2 x3 = some o := h
    unfold m_x12_letter_b84 at h
    refine lv_iload hx hb eX12_letter_80.2.2.2.1 (lv_at hl 2 rfl) ?_
    refine lv_iload_n hx hb eX12_letter_80.2.2.2.2.1 rfl (lv_at hl 0 rfl) ?_
    obtain ⟨hr4, h⟩ := rg_e h
    obtain ⟨hr5, h⟩ := rg_e h
    refine lv_icmp_le (tgt := 102) hx hb eX12_letter_80.2.2.2.2.2.1 (by decide) (fun c6 => ?_) (fun c6 => ?_)
    · have h := if_t ((i2_le (x := x3) (y := x1) hr4 hr5).mp c6) h
      refine lv_lload_n hx hb eX12_letter_94.2.2.2.2.1 rfl (lv_at hl 1 rfl) ?_
      refine lv_ldc2 (own := RX12) (v := 27) hx hb hown (ht _ cl_X12_320) eX12_letter_94.2.2.2.2.2.1 ?_
      obtain ⟨hn7, h⟩ := dvL_e h
      refine lv_lrem hx hb eX12_letter_94.2.2.2.2.2.2.1 (dvL_nz hn7) ?_
      refine z_topl (y := i8 (Int.tmod z2 27)) (by rw [show (27 : Int64) = i8 27 from by decide +kernel]; exact dvL_r hn7) ?_
      refine lv_l2i (v := i2 (Int.tmod z2 27)) hx hb eX12_letter_94.2.2.2.2.2.2.2 (i8_i (Int.tmod z2 27)) ?_
      obtain rfl := Option.some.inj h
      exact W.iret (v := (i2 (Int.tmod z2 27))) hx hb hr (fun t ht hW => ⟨⟨_, (), rfl, rfl, trivial⟩, hS.F ht⟩) hS.2.2 eX12_letter_108.1
    · have h := if_f (mt (i2_le (x := x3) (y := x1) hr4 hr5).mpr c6) h
      refine lv_lload_n hx hb eX12_letter_80.2.2.2.2.2.2.1 rfl (lv_at hl 1 rfl) ?_
      refine lv_ldc2 (own := RX12) (v := 27) hx hb hown (ht _ cl_X12_320) eX12_letter_80.2.2.2.2.2.2.2 ?_
      obtain ⟨hn8, h⟩ := dvL_e h
      refine lv_ldiv hx hb eX12_letter_94.1 (dvL_nz hn8) ?_
      refine z_topl (y := i8 (Int.tdiv z2 27)) (by rw [show (27 : Int64) = i8 27 from by decide +kernel]; exact dvL_d hn8) ?_
      refine lv_lstore_n (lv' := [(3, .long (i8 (Int.tdiv z2 27))), (2, .int (i2 x1)), (6, .int (i2 x3))]) hx hb eX12_letter_94.2.1 rfl hl (by decide) rfl (fun ls hl => ?_)
      refine lv_iinc (v := i2 (x3 + (-1))) (lv' := [(6, .int (i2 (x3 + (-1)))), (3, .long (i8 (Int.tdiv z2 27))), (2, .int (i2 x1))]) hx hb eX12_letter_94.2.2.1 hl (k := 2) rfl (i2_add x3 (-1)) (by decide) rfl (fun ls hl => ?_)
      refine lv_goto (tgt := 84) hx hb eX12_letter_94.2.2.2.1 (by decide) ?_
      exact ih84 (x1, Int.tdiv z2 27, x3 + (-1)) _ _ _ ⟨hP, hS, lv_sub hl [2, 1, 0] rfl, h⟩
  refine y_loop (pcJ := 49) (σ := Int × Int × Int × Int) (fun n u H locs ls => va_P D vwCl (RW D a s) H ∧ va_S (fun _ => False) s₀.heap H locs ∧ lv_has ls 8 [(2, .int (i2 u.1)), (3, .long (i8 u.2.1)), (5, .int (i2 u.2.2.1)), (6, .long (i8 u.2.2.2))] ∧ m_x12_letter_L49 s n u.1 u.2.1 u.2.2.1 u.2.2.2 = some o) (fun u => []) (fun u H locs ls hI => by obtain ⟨_, _, _, h⟩ := hI; cases h) (fun n49 ih49 u H locs ls hI => ?_) (fun J49 => ?_)
  · obtain ⟨hP, hS, hl, h⟩ := hI
    obtain ⟨x9, z10, x11, z12⟩ := u
    have hP : va_P D vwCl (RW D a s) H := hP
    have hl : lv_has ls 8 [(2, .int (i2 x9)), (3, .long (i8 z10)), (5, .int (i2 x11)), (6, .long (i8 z12))] := hl
    have h : m_x12_letter_b49 s (m_x12_letter_L49 s n49) x9 z10 x11 z12 = some o := h
    unfold m_x12_letter_b49 at h
    refine lv_lload hx hb eX12_letter_49.1 (lv_at hl 3 rfl) ?_
    refine lv_lconst (v := 0) hx hb eX12_letter_49.2.1 (by decide) ?_
    refine W.lcmp hx hb eX12_letter_49.2.2.1 ?_
    obtain ⟨hr13, h⟩ := rgL_e h
    refine lv_if_le (tgt := 70) hx hb eX12_letter_49.2.2.2.1 (by decide) (fun c14 => ?_) (fun c14 => ?_)
    · have h := if_t ((l_le (x := z12) (y := 0) hr13 (by decide)).mp c14) h
      refine lv_iload_n hx hb eX12_letter_65.2.2.1 rfl (lv_at hl 0 rfl) ?_
      refine lv_iload hx hb eX12_letter_65.2.2.2.1 (lv_at hl 2 rfl) ?_
      obtain ⟨hr15, h⟩ := rg_e h
      obtain ⟨hr16, h⟩ := rg_e h
      refine lv_icmp_lt (tgt := 78) hx hb eX12_letter_65.2.2.2.2.1 (by decide) (fun c17 => ?_) (fun c17 => ?_)
      · have h := if_t ((i2_lt (x := x9) (y := x11) hr15 hr16).mp c17) h
        refine lv_iload hx hb eX12_letter_65.2.2.2.2.2.2.2 (lv_at hl 2 rfl) ?_
        refine lv_iconst (v := 1) hx hb eX12_letter_80.1 (by decide) ?_
        refine lv_isub hx hb eX12_letter_80.2.1 ?_
        refine z_topi (y := i2 (x11 - 1)) (i2_sub x11 1) ?_
        refine lv_istore (lv' := [(6, .int (i2 (x11 - 1))), (2, .int (i2 x9)), (3, .long (i8 z10)), (5, .int (i2 x11))]) hx hb eX12_letter_80.2.2.1 hl (by decide) rfl (fun ls hl => ?_)
        exact J84 FU (x9, z10, x11 - 1) _ _ _ ⟨hP, hS, lv_sub hl [1, 2, 0] rfl, h⟩
      · have h := if_f (mt (i2_lt (x := x9) (y := x11) hr15 hr16).mpr c17) h
        refine lv_iconst (v := 0) hx hb eX12_letter_65.2.2.2.2.2.1 (by decide) ?_
        obtain rfl := Option.some.inj h
        exact W.iret (v := 0) hx hb hr (fun t ht hW => ⟨⟨_, (), rfl, rfl, trivial⟩, hS.F ht⟩) hS.2.2 eX12_letter_65.2.2.2.2.2.2.1
    · have h := if_f (mt (l_le (x := z12) (y := 0) hr13 (by decide)).mpr c14) h
      refine lv_iinc (v := i2 (x11 + 1)) (lv' := [(5, .int (i2 (x11 + 1))), (2, .int (i2 x9)), (3, .long (i8 z10)), (6, .long (i8 z12))]) hx hb eX12_letter_49.2.2.2.2.1 hl (k := 2) rfl (i2_add x11 1) (by decide) rfl (fun ls hl => ?_)
      refine lv_lload hx hb eX12_letter_49.2.2.2.2.2.1 (lv_at hl 3 rfl) ?_
      refine lv_ldc2 (own := RX12) (v := 27) hx hb hown (ht _ cl_X12_320) eX12_letter_49.2.2.2.2.2.2.1 ?_
      obtain ⟨hn18, h⟩ := dvL_e h
      refine lv_ldiv hx hb eX12_letter_49.2.2.2.2.2.2.2 (dvL_nz hn18) ?_
      refine z_topl (y := i8 (Int.tdiv z12 27)) (by rw [show (27 : Int64) = i8 27 from by decide +kernel]; exact dvL_d hn18) ?_
      refine lv_lstore (lv' := [(6, .long (i8 (Int.tdiv z12 27))), (5, .int (i2 (x11 + 1))), (2, .int (i2 x9)), (3, .long (i8 z10))]) hx hb eX12_letter_65.1 hl (by decide) rfl (fun ls hl => ?_)
      refine lv_goto (tgt := 49) hx hb eX12_letter_65.2.1 (by decide) ?_
      exact ih49 (x9, z10, x11 + 1, Int.tdiv z12 27) _ _ _ ⟨hP, hS, lv_sub hl [2, 3, 1, 0] rfl, h⟩
  refine y_head (pcJ := 31) (σ := Unit) (fun u H locs ls => va_P D vwCl (RW D a s) H ∧ va_S (fun _ => False) s₀.heap H locs ∧ lv_has ls 8 [] ∧ m_x12_letter_J31 s u = some o) (fun u => []) (fun u H locs ls hI => ?_) (fun J31 => ?_)
  · obtain ⟨hP, hS, hl, h⟩ := hI
    skip
    have hP : va_P D vwCl (RW D a s) H := hP
    have hl : lv_has ls 8 [] := hl
    have h : m_x12_letter_J31 s () = some o := h
    unfold m_x12_letter_J31 at h
    refine lv_iconst (v := (-1)) hx hb eX12_letter_22.2.2.2.1 (by decide) ?_
    obtain rfl := Option.some.inj h
    exact W.iret (v := (-1)) hx hb hr (fun t ht hW => ⟨⟨_, (), rfl, rfl, trivial⟩, hS.F ht⟩) hS.2.2 eX12_letter_22.2.2.2.2.1
  refine lv_iload_n hx hb eX12_laysTree_143.2.1 rfl (lv_at hl 1 rfl) ?_
  obtain ⟨hr19, h⟩ := rg_e h
  refine lv_i2l (v := i8 p0) hx hb eX12_laysTree_143.2.2.1 (i2_l hr19) ?_
  refine lv_lconst (v := 0) hx hb eX12_laysTree_143.2.2.2.1 (by decide) ?_
  refine lv_aload_n hx hb eX12_laysTree_143.2.2.2.2.1 rfl (lv_at hl 0 rfl) ?_
  refine va_get (D := D) (ci := 12) (v := .ref (a 39)) (C := RX12) (T := TX12) (N := 116) hx hb ht inX12 hown hK hP 0 RW_0 rfl 39 (by decide) (ht (.fieldLink RX12 102 "CloneVolumesModel" "many" "[I") fl_X12_102) (fun _ h9 => h9) mF_39 eX12_laysTree_143.2.2.2.2.2.1 ?_
  refine lv_bipush (v := 7) hx hb eX12_laysTree_143.2.2.2.2.2.2.1 (by decide) ?_
  obtain ⟨y20, ey20, iy20, h⟩ := rdI_e h
  refine ya_iald (i := 7) hx hb hK hP 30 0 RW_30 rfl (by decide) ey20 iy20 eX12_laysTree_143.2.2.2.2.2.2.2 ?_
  refine lv_iconst (v := 1) hx hb eX12_letter_10.1 (by decide) ?_
  refine lv_isub hx hb eX12_letter_10.2.1 ?_
  refine z_topi (y := i2 (y20 - 1)) (i2_sub y20 1) ?_
  obtain ⟨hr21, h⟩ := rg_e h
  refine lv_i2l (v := i8 (y20 - 1)) hx hb eX12_letter_10.2.2.1 (i2_l hr21) ?_
  obtain ⟨r23, hc22, h⟩ := bn_e h
  refine ycS (r0 := i2 r23) (As := [.long (i8 p0), .long 0, .long (i8 (y20 - 1))]) (rest := []) (n := 3) ⟨hx, hb, hml, hown, ht⟩ (k_x12_isIn l D a p0 0 (y20 - 1) _ _ hc22) (zgT ml_X12_309 st_X12_isIn in_X12 co_X12_isIn) rfl rfl (by decide +kernel) ⟨Nat.le_of_ble_eq_true rfl, Nat.le_of_ble_eq_true rfl⟩ hN hK hP hS rfl hl.1 rfl (Nat.le_of_ble_eq_true rfl) eX12_letter_10.2.2.2.1 ⟨Nat.le_of_ble_eq_true rfl, Nat.le_of_ble_eq_true rfl⟩ (fun H locs hP hS => ?_)
  obtain ⟨hr24, h⟩ := rg_e h
  refine lv_if_eq (tgt := 31) hx hb eX12_letter_10.2.2.2.2.1 (by decide) (fun c25 => ?_) (fun c25 => ?_)
  · have h := if_t ((i2_eq (x := r23) (y := 0) hr24 (by decide)).mp c25) h
    exact J31 () _ _ _ ⟨hP, hS, lv_sub hl [] rfl, h⟩
  · have h := if_f (mt (i2_eq (x := r23) (y := 0) hr24 (by decide)).mpr c25) h
    refine lv_iload_n hx hb eX12_letter_10.2.2.2.2.2.1 rfl (lv_at hl 2 rfl) ?_
    obtain ⟨hr26, h⟩ := rg_e h
    refine lv_i2l (v := i8 p1) hx hb eX12_letter_10.2.2.2.2.2.2.1 (i2_l hr26) ?_
    refine lv_lconst (v := 0) hx hb eX12_letter_10.2.2.2.2.2.2.2 (by decide) ?_
    refine lv_ldc2 (own := RX12) (v := 5) hx hb hown (ht _ cl_X12_590) eX12_letter_22.1 ?_
    obtain ⟨r28, hc27, h⟩ := bn_e h
    refine ycS (r0 := i2 r28) (As := [.long (i8 p1), .long 0, .long 5]) (rest := []) (n := 3) ⟨hx, hb, hml, hown, ht⟩ (k_x12_isIn l D a p1 0 5 _ _ hc27) (zgT ml_X12_309 st_X12_isIn in_X12 co_X12_isIn) rfl rfl (by decide +kernel) ⟨Nat.le_of_ble_eq_true rfl, Nat.le_of_ble_eq_true rfl⟩ hN hK hP hS rfl hl.1 rfl (Nat.le_of_ble_eq_true rfl) eX12_letter_22.2.1 ⟨Nat.le_of_ble_eq_true rfl, Nat.le_of_ble_eq_true rfl⟩ (fun H locs hP hS => ?_)
    obtain ⟨hr29, h⟩ := rg_e h
    refine lv_if_ne (tgt := 33) hx hb eX12_letter_22.2.2.1 (by decide) (fun c30 => ?_) (fun c30 => ?_)
    · have h := if_f (mt (i2_eq (x := r28) (y := 0) hr29 (by decide)).mpr c30) h
      refine lv_aload_n hx hb eX12_letter_22.2.2.2.2.2.1 rfl (lv_at hl 0 rfl) ?_
      refine va_get (D := D) (ci := 12) (v := .ref (a 40)) (C := RX12) (T := TX12) (N := 116) hx hb ht inX12 hown hK hP 0 RW_0 rfl 40 (by decide) (ht (.fieldLink RX12 105 "CloneVolumesModel" "names" "[J") fl_X12_105) (fun _ h9 => h9) mF_40 eX12_letter_22.2.2.2.2.2.2.1 ?_
      refine lv_bipush (v := 8) hx hb eX12_letter_22.2.2.2.2.2.2.2 (by decide) ?_
      refine lv_iload_n hx hb eX12_letter_39.1 rfl (lv_at hl 1 rfl) ?_
      refine lv_iadd hx hb eX12_letter_39.2.1 ?_
      refine z_topi (y := i2 (8 + p0)) (i2_add 8 p0) ?_
      obtain ⟨yl31, eyl31, iyl31, h⟩ := rdL_e h
      refine ya_lald (i := (8 + p0)) hx hb hK hP 31 2 RW_31 rfl (by decide) eyl31 iyl31 eX12_letter_39.2.2.1 ?_
      refine lv_lstore_n (lv' := [(3, .long (i8 yl31)), (0, .ref (a 200)), (1, .int (i2 p0)), (2, .int (i2 p1))]) hx hb eX12_letter_39.2.2.2.1 rfl hl (by decide) rfl (fun ls hl => ?_)
      refine lv_iconst (v := 0) hx hb eX12_letter_39.2.2.2.2.1 (by decide) ?_
      refine lv_istore (lv' := [(5, .int 0), (3, .long (i8 yl31)), (0, .ref (a 200)), (1, .int (i2 p0)), (2, .int (i2 p1))]) hx hb eX12_letter_39.2.2.2.2.2.1 hl (by decide) rfl (fun ls hl => ?_)
      refine lv_lload_n hx hb eX12_letter_39.2.2.2.2.2.2.1 rfl (lv_at hl 1 rfl) ?_
      refine lv_lstore (lv' := [(6, .long (i8 yl31)), (5, .int 0), (3, .long (i8 yl31)), (0, .ref (a 200)), (1, .int (i2 p0)), (2, .int (i2 p1))]) hx hb eX12_letter_39.2.2.2.2.2.2.2 hl (by decide) rfl (fun ls hl => ?_)
      exact J49 FU (p1, yl31, 0, yl31) _ _ _ ⟨hP, hS, lv_sub hl [5, 2, 1, 0] rfl, h⟩
    · have h := if_t ((i2_eq (x := r28) (y := 0) hr29 (by decide)).mp c30) h
      exact J31 () _ _ _ ⟨hP, hS, lv_sub hl [] rfl, h⟩
set_option maxHeartbeats 4000000 in
set_option maxRecDepth 100000 in
theorem k_x12_laysLeaf (l : Launch) (D : va_G) (a : Nat → Nat) (p0 : Int) (sz : Nat) (s : MS) (o : MS) (h : m_x12_laysLeaf p0 s = some o) : yWv l yX12_laysLeaf cX12_laysLeaf 3 none { frames := 1, cells := 0, slots := 0, locals := 60 } D sz [.ref (a 200), .int (i2 p0)] (RW D a s) (RW D a o) := by
  refine Met.ofW (cc := cX12_laysLeaf) (maxL := 3) (ret := none) (by decide) rfl ?_
  intro p e s₀ m args below meth c s₁ B hml hv
  obtain ⟨rfl, ⟨hsz, hP, hK, hD0⟩, hN⟩ := hv
  have hx := B.exec
  have hb := B.bytes
  have hr := B.returns
  have hts := atoms_spec (ws := wz yX12_laysLeaf cX12_laysLeaf 3 none) B.pre
  have ht : ∀ w ∈ lw_gd, w.before _ s₀ = true := fun w h => hts w (List.mem_cons_of_mem _ h)
  have hown : s₀.vm.findClass RX12 = some m.cls := findClass_of_methodNamed B.named
  have hlocks := B.notSynchronized
  subst hsz
  have hD := hD0.self (sz := s₀.heap.size)
  generalize hAe : va_A (RW D a s) s₀.heap.size = A at hD ⊢
  have hA : ∀ q : Nat, s₀.heap.size ≤ q → A q := fun q h => by rw [← hAe]; exact Or.inr h
  have hS : va_S A s₀.heap s₀.heap [] := va_S.rf
  have hDD : ∀ t : MS, va_D A (RW D a t) := fun t => RW_D t hD
  have hl := lv_entry ([.ref (a 200), .int (i2 p0)]) (n := 3) (Nat.le_of_ble_eq_true rfl)
  rw [lg_entry_eq]
  generalize (lg_sl ([.ref (a 200), .int (i2 p0)]) ++ List.replicate (3 - (lg_sl ([.ref (a 200), .int (i2 p0)])).length) Slot.unset).toArray = ls at hl ⊢
  have hl : lv_has ls 3 [(0, .ref (a 200)), (1, .int (i2 p0))] := hl
  unfold m_x12_laysLeaf at h
  refine y_loop (pcJ := 2) (σ := Int × Int × MS) (fun n u H locs ls => va_P D vwCl (RW D a u.2.2) H ∧ va_S A s₀.heap H locs ∧ lv_has ls 3 [(0, .ref (a 200)), (1, .int (i2 u.1)), (2, .int (i2 u.2.1))] ∧ m_x12_laysLeaf_L2 n u.1 u.2.1 u.2.2 = some o) (fun u => []) (fun u H locs ls hI => by obtain ⟨_, _, _, h⟩ := hI; cases h) (fun n2 ih2 u H locs ls hI => ?_) (fun J2 => ?_)
  · obtain ⟨hP, hS, hl, h⟩ := hI
    obtain ⟨x1, x2, s3⟩ := u
    have hP : va_P D vwCl (RW D a s3) H := hP
    have hl : lv_has ls 3 [(0, .ref (a 200)), (1, .int (i2 x1)), (2, .int (i2 x2))] := hl
    have h : m_x12_laysLeaf_b2 (m_x12_laysLeaf_L2 n2) x1 x2 s3 = some o := h
    unfold m_x12_laysLeaf_b2 at h
    refine lv_iload_n hx hb eX12_laysLeaf_1.2.1 rfl (lv_at hl 2 rfl) ?_
    refine lv_aload_n hx hb eX12_laysLeaf_1.2.2.1 rfl (lv_at hl 0 rfl) ?_
    refine lv_iload_n hx hb eX12_laysLeaf_1.2.2.2.1 rfl (lv_at hl 1 rfl) ?_
    obtain ⟨r5, hc4, h⟩ := bn_e h
    refine ycV (r0 := i2 r5) (As := [.int (i2 x1)]) (rest := [.int (i2 x2)]) (C := RX12) (n := 1) ⟨hx, hb, hml, hown, ht⟩ (k_x12_entriesOf l D a x1 _ _ hc4) (zgV ml_X12_466 im_X12_entriesOf se_X12_entriesOf in_X12 co_X12_entriesOf) rfl rfl (by decide +kernel) ⟨Nat.le_of_ble_eq_true rfl, Nat.le_of_ble_eq_true rfl⟩ hN hK hP hS 0 RW_0 rfl rfl rfl hl.1 rfl (Nat.le_of_ble_eq_true rfl) eX12_laysLeaf_1.2.2.2.2.1 ⟨Nat.le_of_ble_eq_true rfl, Nat.le_of_ble_eq_true rfl⟩ (fun H locs hP hS => ?_)
    obtain ⟨hr6, h⟩ := rg_e h
    obtain ⟨hr7, h⟩ := rg_e h
    refine lv_icmp_ge (tgt := 67) hx hb eX12_laysLeaf_1.2.2.2.2.2.1 (by decide) (fun c8 => ?_) (fun c8 => ?_)
    · have h := if_t ((i2_le (x := r5) (y := x2) hr7 hr6).mp c8) h
      obtain rfl := Option.some.inj h
      exact W.vret hx hb hr (fun t ht hW => ⟨⟨(), rfl, trivial, by rw [ht]; exact hP, va_K.moved hW.alike hK, hDD _⟩, hS.F ht⟩) hS.2.2 eX12_laysLeaf_53.2.2.2.2.2.2.1
    · have h := if_f (mt (i2_le (x := r5) (y := x2) hr7 hr6).mpr c8) h
      refine lv_aload_n hx hb eX12_laysLeaf_1.2.2.2.2.2.2.1 rfl (lv_at hl 0 rfl) ?_
      refine va_get (D := D) (ci := 12) (v := .ref (a 64)) (C := RX12) (T := TX12) (N := 116) hx hb ht inX12 hown hK hP 0 RW_0 rfl 64 (by decide) (ht (.fieldLink RX12 152 "CloneVolumesModel" "keyRow" "[I") fl_X12_152) (fun _ h9 => h9) mF_64 eX12_laysLeaf_1.2.2.2.2.2.2.2 ?_
      refine lv_aload_n hx hb eX12_laysLeaf_15.1 rfl (lv_at hl 0 rfl) ?_
      refine va_get (D := D) (ci := 12) (v := .int (i2 (gI s3 67))) (C := RX12) (T := TX12) (N := 116) hx hb ht inX12 hown hK hP 0 RW_0 rfl 67 (by decide) (ht (.fieldLink RX12 592 "CloneVolumesModel" "keyMany" "I") fl_X12_592) (fun _ h9 => h9) mF_67 eX12_laysLeaf_15.2.1 ?_
      refine lv_aload_n hx hb eX12_laysLeaf_15.2.2.1 rfl (lv_at hl 0 rfl) ?_
      refine lv_iload_n hx hb eX12_laysLeaf_15.2.2.2.1 rfl (lv_at hl 1 rfl) ?_
      refine lv_iload_n hx hb eX12_laysLeaf_15.2.2.2.2.1 rfl (lv_at hl 2 rfl) ?_
      obtain ⟨r10, hc9, h⟩ := bn_e h
      refine ycV (r0 := i2 r10) (As := [.int (i2 x1), .int (i2 x2)]) (rest := [.int (i2 (gI s3 67)), .ref (a 64)]) (C := RX12) (n := 2) ⟨hx, hb, hml, hown, ht⟩ (k_x12_keyAt l D a x1 x2 _ _ hc9) (zgV ml_X12_517 im_X12_keyAt se_X12_keyAt in_X12 co_X12_keyAt) rfl rfl (by decide +kernel) ⟨Nat.le_of_ble_eq_true rfl, Nat.le_of_ble_eq_true rfl⟩ hN hK hP hS 0 RW_0 rfl rfl rfl hl.1 rfl (Nat.le_of_ble_eq_true rfl) eX12_laysLeaf_15.2.2.2.2.2.1 ⟨Nat.le_of_ble_eq_true rfl, Nat.le_of_ble_eq_true rfl⟩ (fun H locs hP hS => ?_)
      obtain ⟨hi11, h⟩ := inb_e h
      refine ya_iast (i := (gI s3 67)) (x := r10) hx hb hK hP (hDD _) hS 46 0 RW_46 rfl (by decide) hi11 eX12_laysLeaf_15.2.2.2.2.2.2.1 (RW_w46 _) (fun H locs hP hS => ?_)
      obtain ⟨s12, hs12, h⟩ := st_e h
      rw [hs12] at hP
      refine lv_aload_n hx hb eX12_laysLeaf_15.2.2.2.2.2.2.2 rfl (lv_at hl 0 rfl) ?_
      refine va_get (D := D) (ci := 12) (v := .ref (a 65)) (C := RX12) (T := TX12) (N := 116) hx hb ht inX12 hown hK hP 0 RW_0 rfl 65 (by decide) (ht (.fieldLink RX12 155 "CloneVolumesModel" "valueRow" "[I") fl_X12_155) (fun _ h9 => h9) mF_65 eX12_laysLeaf_27.1 ?_
      refine lv_aload_n hx hb eX12_laysLeaf_27.2.1 rfl (lv_at hl 0 rfl) ?_
      refine va_get (D := D) (ci := 12) (v := .int (i2 (gI s12 67))) (C := RX12) (T := TX12) (N := 116) hx hb ht inX12 hown hK hP 0 RW_0 rfl 67 (by decide) (ht (.fieldLink RX12 592 "CloneVolumesModel" "keyMany" "I") fl_X12_592) (fun _ h9 => h9) mF_67 eX12_laysLeaf_27.2.2.1 ?_
      refine lv_aload_n hx hb eX12_laysLeaf_27.2.2.2.1 rfl (lv_at hl 0 rfl) ?_
      refine lv_iload_n hx hb eX12_laysLeaf_27.2.2.2.2.1 rfl (lv_at hl 1 rfl) ?_
      refine lv_iload_n hx hb eX12_laysLeaf_27.2.2.2.2.2.1 rfl (lv_at hl 2 rfl) ?_
      obtain ⟨r14, hc13, h⟩ := bn_e h
      refine ycV (r0 := i2 r14) (As := [.int (i2 x1), .int (i2 x2)]) (rest := [.int (i2 (gI s12 67)), .ref (a 65)]) (C := RX12) (n := 2) ⟨hx, hb, hml, hown, ht⟩ (k_x12_valueAt l D a x1 x2 _ _ hc13) (zgV ml_X12_505 im_X12_valueAt se_X12_valueAt in_X12 co_X12_valueAt) rfl rfl (by decide +kernel) ⟨Nat.le_of_ble_eq_true rfl, Nat.le_of_ble_eq_true rfl⟩ hN hK hP hS 0 RW_0 rfl rfl rfl hl.1 rfl (Nat.le_of_ble_eq_true rfl) eX12_laysLeaf_27.2.2.2.2.2.2.1 ⟨Nat.le_of_ble_eq_true rfl, Nat.le_of_ble_eq_true rfl⟩ (fun H locs hP hS => ?_)
      obtain ⟨hi15, h⟩ := inb_e h
      refine ya_iast (i := (gI s12 67)) (x := r14) hx hb hK hP (hDD _) hS 47 0 RW_47 rfl (by decide) hi15 eX12_laysLeaf_27.2.2.2.2.2.2.2 (RW_w47 _) (fun H locs hP hS => ?_)
      obtain ⟨s16, hs16, h⟩ := st_e h
      rw [hs16] at hP
      refine lv_aload_n hx hb eX12_laysLeaf_41.1 rfl (lv_at hl 0 rfl) ?_
      refine va_get (D := D) (ci := 12) (v := .ref (a 66)) (C := RX12) (T := TX12) (N := 116) hx hb ht inX12 hown hK hP 0 RW_0 rfl 66 (by decide) (ht (.fieldLink RX12 158 "CloneVolumesModel" "leafRow" "[I") fl_X12_158) (fun _ h9 => h9) mF_66 eX12_laysLeaf_41.2.1 ?_
      refine lv_aload_n hx hb eX12_laysLeaf_41.2.2.1 rfl (lv_at hl 0 rfl) ?_
      refine va_get (D := D) (ci := 12) (v := .int (i2 (gI s16 67))) (C := RX12) (T := TX12) (N := 116) hx hb ht inX12 hown hK hP 0 RW_0 rfl 67 (by decide) (ht (.fieldLink RX12 592 "CloneVolumesModel" "keyMany" "I") fl_X12_592) (fun _ h9 => h9) mF_67 eX12_laysLeaf_41.2.2.2.1 ?_
      refine lv_iload_n hx hb eX12_laysLeaf_41.2.2.2.2.1 rfl (lv_at hl 1 rfl) ?_
      obtain ⟨hi17, h⟩ := inb_e h
      refine ya_iast (i := (gI s16 67)) (x := x1) hx hb hK hP (hDD _) hS 48 0 RW_48 rfl (by decide) hi17 eX12_laysLeaf_41.2.2.2.2.2.1 (RW_w48 _) (fun H locs hP hS => ?_)
      obtain ⟨s18, hs18, h⟩ := st_e h
      rw [hs18] at hP
      refine lv_aload_n hx hb eX12_laysLeaf_41.2.2.2.2.2.2.1 rfl (lv_at hl 0 rfl) ?_
      refine lv_dup hx hb eX12_laysLeaf_41.2.2.2.2.2.2.2 rfl ?_
      refine va_get (D := D) (ci := 12) (v := .int (i2 (gI s18 67))) (C := RX12) (T := TX12) (N := 116) hx hb ht inX12 hown hK hP 0 RW_0 rfl 67 (by decide) (ht (.fieldLink RX12 592 "CloneVolumesModel" "keyMany" "I") fl_X12_592) (fun _ h9 => h9) mF_67 eX12_laysLeaf_53.1 ?_
      refine lv_iconst (v := 1) hx hb eX12_laysLeaf_53.2.1 (by decide) ?_
      refine lv_iadd hx hb eX12_laysLeaf_53.2.2.1 ?_
      refine z_topi (y := i2 ((gI s18 67) + 1)) (i2_add (gI s18 67) 1) ?_
      refine ya_put (D := D) (ci := 12) (v := .int (i2 ((gI s18 67) + 1))) (ty := .int) (C := RX12) (T := TX12) (N := 116) hx hb ht inX12 tyX12 tyX12_ok nmX12 hown hK hP (hDD _) hS 0 RW_0 rfl 67 (by decide) (ht (.fieldLink RX12 592 "CloneVolumesModel" "keyMany" "I") fl_X12_592) (fun _ h9 => h9) rfl (by decide +kernel) rfl rfl (by rw [mF_len]; decide) eX12_laysLeaf_53.2.2.2.1 (RW_f67 ((gI s18 67) + 1)) (fun H locs hP hS => ?_)
      obtain ⟨s19, hs19, h⟩ := st_e h
      rw [hs19] at hP
      refine lv_iinc (v := i2 (x2 + 1)) (lv' := [(2, .int (i2 (x2 + 1))), (0, .ref (a 200)), (1, .int (i2 x1))]) hx hb eX12_laysLeaf_53.2.2.2.2.1 hl (k := 2) rfl (i2_add x2 1) (by decide) rfl (fun ls hl => ?_)
      refine lv_goto (tgt := 2) hx hb eX12_laysLeaf_53.2.2.2.2.2.1 (by decide) ?_
      exact ih2 (x1, x2 + 1, s19) _ _ _ ⟨hP, hS, lv_sub hl [1, 2, 0] rfl, h⟩
  refine lv_iconst (v := 0) hx hb eX12_heldMany_14.2.2.2.2.2.2.2 (by decide) ?_
  refine lv_istore_n (lv' := [(2, .int 0), (0, .ref (a 200)), (1, .int (i2 p0))]) hx hb eX12_laysLeaf_1.1 rfl hl (by decide) rfl (fun ls hl => ?_)
  exact J2 FU (p0, 0, s) _ _ _ ⟨hP, hS, lv_sub hl [1, 2, 0] rfl, h⟩
set_option maxHeartbeats 4000000 in
set_option maxRecDepth 100000 in
theorem k_x12_laysTree (l : Launch) (D : va_G) (a : Nat → Nat) (p0 : Int) (sz : Nat) (s : MS) (o : MS) (h : m_x12_laysTree p0 s = some o) : yWv l yX12_laysTree cX12_laysTree 5 none { frames := 2, cells := 0, slots := 0, locals := 120 } D sz [.ref (a 200), .int (i2 p0)] (RW D a s) (RW D a o) := by
  refine Met.ofW (cc := cX12_laysTree) (maxL := 5) (ret := none) (by decide) rfl ?_
  intro p e s₀ m args below meth c s₁ B hml hv
  obtain ⟨rfl, ⟨hsz, hP, hK, hD0⟩, hN⟩ := hv
  have hx := B.exec
  have hb := B.bytes
  have hr := B.returns
  have hts := atoms_spec (ws := wz yX12_laysTree cX12_laysTree 5 none) B.pre
  have ht : ∀ w ∈ lw_gd, w.before _ s₀ = true := fun w h => hts w (List.mem_cons_of_mem _ h)
  have hown : s₀.vm.findClass RX12 = some m.cls := findClass_of_methodNamed B.named
  have hlocks := B.notSynchronized
  subst hsz
  have hD := hD0.self (sz := s₀.heap.size)
  generalize hAe : va_A (RW D a s) s₀.heap.size = A at hD ⊢
  have hA : ∀ q : Nat, s₀.heap.size ≤ q → A q := fun q h => by rw [← hAe]; exact Or.inr h
  have hS : va_S A s₀.heap s₀.heap [] := va_S.rf
  have hDD : ∀ t : MS, va_D A (RW D a t) := fun t => RW_D t hD
  have hl := lv_entry ([.ref (a 200), .int (i2 p0)]) (n := 5) (Nat.le_of_ble_eq_true rfl)
  rw [lg_entry_eq]
  generalize (lg_sl ([.ref (a 200), .int (i2 p0)]) ++ List.replicate (5 - (lg_sl ([.ref (a 200), .int (i2 p0)])).length) Slot.unset).toArray = ls at hl ⊢
  have hl : lv_has ls 5 [(0, .ref (a 200)), (1, .int (i2 p0))] := hl
  unfold m_x12_laysTree at h
  refine y_loop (pcJ := 48) (σ := Int × MS) (fun n u H locs ls => va_P D vwCl (RW D a u.2) H ∧ va_S A s₀.heap H locs ∧ lv_has ls 5 [(0, .ref (a 200)), (2, .int (i2 u.1))] ∧ m_x12_laysTree_L48 n u.1 u.2 = some o) (fun u => []) (fun u H locs ls hI => by obtain ⟨_, _, _, h⟩ := hI; cases h) (fun n48 ih48 u H locs ls hI => ?_) (fun J48 => ?_)
  · obtain ⟨hP, hS, hl, h⟩ := hI
    obtain ⟨x1, s2⟩ := u
    have hP : va_P D vwCl (RW D a s2) H := hP
    have hl : lv_has ls 5 [(0, .ref (a 200)), (2, .int (i2 x1))] := hl
    have h : m_x12_laysTree_b48 (m_x12_laysTree_L48 n48) x1 s2 = some o := h
    unfold m_x12_laysTree_b48 at h
    refine y_head (pcJ := 140) (σ := Int × MS) (fun u H locs ls => va_P D vwCl (RW D a u.2) H ∧ va_S A s₀.heap H locs ∧ lv_has ls 5 [(0, .ref (a 200)), (2, .int (i2 u.1))] ∧ m_x12_laysTree_J140 (m_x12_laysTree_L48 n48) u.1 u.2 = some o) (fun u => []) (fun u H locs ls hI => ?_) (fun J140 => ?_)
    · obtain ⟨hP, hS, hl, h⟩ := hI
      obtain ⟨x3, s4⟩ := u
      have hP : va_P D vwCl (RW D a s4) H := hP
      have hl : lv_has ls 5 [(0, .ref (a 200)), (2, .int (i2 x3))] := hl
      have h : m_x12_laysTree_J140 (m_x12_laysTree_L48 n48) x3 s4 = some o := h
      unfold m_x12_laysTree_J140 at h
      refine lv_goto (tgt := 48) hx hb eX12_laysTree_124.2.2.2.2.2.2.2 (by decide) ?_
      exact ih48 (x3, s4) _ _ _ ⟨hP, hS, lv_sub hl [0, 1] rfl, h⟩
    refine y_loop (pcJ := 113) (σ := Int × Int × Int × MS) (fun n u H locs ls => va_P D vwCl (RW D a u.2.2.2) H ∧ va_S A s₀.heap H locs ∧ lv_has ls 5 [(0, .ref (a 200)), (2, .int (i2 u.1)), (3, .int (i2 u.2.1)), (4, .int (i2 u.2.2.1))] ∧ m_x12_laysTree_L113 (m_x12_laysTree_L48 n48) n u.1 u.2.1 u.2.2.1 u.2.2.2 = some o) (fun u => []) (fun u H locs ls hI => by obtain ⟨_, _, _, h⟩ := hI; cases h) (fun n113 ih113 u H locs ls hI => ?_) (fun J113 => ?_)
    · obtain ⟨hP, hS, hl, h⟩ := hI
      obtain ⟨x5, x6, x7, s8⟩ := u
      have hP : va_P D vwCl (RW D a s8) H := hP
      have hl : lv_has ls 5 [(0, .ref (a 200)), (2, .int (i2 x5)), (3, .int (i2 x6)), (4, .int (i2 x7))] := hl
      have h : m_x12_laysTree_b113 (m_x12_laysTree_L48 n48) (m_x12_laysTree_L113 (m_x12_laysTree_L48 n48) n113) x5 x6 x7 s8 = some o := h
      unfold m_x12_laysTree_b113 at h
      refine lv_iload hx hb eX12_laysTree_110.2.2.1 (lv_at hl 3 rfl) ?_
      obtain ⟨hr9, h⟩ := rg_e h
      refine lv_if_lt (tgt := 140) hx hb eX12_laysTree_110.2.2.2.1 (by decide) (fun c10 => ?_) (fun c10 => ?_)
      · have h := if_t ((i2_lt (x := x7) (y := 0) hr9 (by decide)).mp c10) h
        exact J140 (x5, s8) _ _ _ ⟨hP, hS, lv_sub hl [0, 1] rfl, h⟩
      · have h := if_f (mt (i2_lt (x := x7) (y := 0) hr9 (by decide)).mpr c10) h
        refine lv_aload_n hx hb eX12_laysTree_110.2.2.2.2.1 rfl (lv_at hl 0 rfl) ?_
        refine va_get (D := D) (ci := 12) (v := .ref (a 62)) (C := RX12) (T := TX12) (N := 116) hx hb ht inX12 hown hK hP 0 RW_0 rfl 62 (by decide) (ht (.fieldLink RX12 146 "CloneVolumesModel" "treeRow" "[I") fl_X12_146) (fun _ h9 => h9) mF_62 eX12_laysTree_110.2.2.2.2.2.1 ?_
        refine lv_iload_n hx hb eX12_laysTree_110.2.2.2.2.2.2.1 rfl (lv_at hl 1 rfl) ?_
        refine lv_aload_n hx hb eX12_laysTree_110.2.2.2.2.2.2.2 rfl (lv_at hl 0 rfl) ?_
        refine lv_iload_n hx hb eX12_laysTree_124.1 rfl (lv_at hl 2 rfl) ?_
        refine lv_iload hx hb eX12_laysTree_124.2.1 (lv_at hl 3 rfl) ?_
        obtain ⟨r12, hc11, h⟩ := bn_e h
        refine ycV (r0 := i2 r12) (As := [.int (i2 x6), .int (i2 x7)]) (rest := [.int (i2 x5), .ref (a 62)]) (C := RX12) (n := 2) ⟨hx, hb, hml, hown, ht⟩ (k_x12_valueAt l D a x6 x7 _ _ hc11) (zgV ml_X12_505 im_X12_valueAt se_X12_valueAt in_X12 co_X12_valueAt) rfl rfl (by decide +kernel) ⟨Nat.le_of_ble_eq_true rfl, Nat.le_of_ble_eq_true rfl⟩ hN hK hP hS 0 RW_0 rfl rfl rfl hl.1 rfl (Nat.le_of_ble_eq_true rfl) eX12_laysTree_124.2.2.1 ⟨Nat.le_of_ble_eq_true rfl, Nat.le_of_ble_eq_true rfl⟩ (fun H locs hP hS => ?_)
        obtain ⟨hi13, h⟩ := inb_e h
        refine ya_iast (i := x5) (x := r12) hx hb hK hP (hDD _) hS 44 0 RW_44 rfl (by decide) hi13 eX12_laysTree_124.2.2.2.1 (RW_w44 _) (fun H locs hP hS => ?_)
        obtain ⟨s14, hs14, h⟩ := st_e h
        rw [hs14] at hP
        refine lv_iinc (v := i2 (x5 + 1)) (lv' := [(2, .int (i2 (x5 + 1))), (0, .ref (a 200)), (3, .int (i2 x6)), (4, .int (i2 x7))]) hx hb eX12_laysTree_124.2.2.2.2.1 hl (k := 1) rfl (i2_add x5 1) (by decide) rfl (fun ls hl => ?_)
        refine lv_iinc (v := i2 (x7 + (-1))) (lv' := [(4, .int (i2 (x7 + (-1)))), (2, .int (i2 (x5 + 1))), (0, .ref (a 200)), (3, .int (i2 x6))]) hx hb eX12_laysTree_124.2.2.2.2.2.1 hl (k := 3) rfl (i2_add x7 (-1)) (by decide) rfl (fun ls hl => ?_)
        refine lv_goto (tgt := 113) hx hb eX12_laysTree_124.2.2.2.2.2.2.1 (by decide) ?_
        exact ih113 (x5 + 1, x6, x7 + (-1), s14) _ _ _ ⟨hP, hS, lv_sub hl [2, 1, 3, 0] rfl, h⟩
    refine y_head (pcJ := 81) (σ := Int × Int × MS) (fun u H locs ls => va_P D vwCl (RW D a u.2.2) H ∧ va_S A s₀.heap H locs ∧ lv_has ls 5 [(0, .ref (a 200)), (2, .int (i2 u.1)), (3, .int (i2 u.2.1))] ∧ m_x12_laysTree_J81 (m_x12_laysTree_L48 n48) u.1 u.2.1 u.2.2 = some o) (fun u => []) (fun u H locs ls hI => ?_) (fun J81 => ?_)
    · obtain ⟨hP, hS, hl, h⟩ := hI
      obtain ⟨x15, x16, s17⟩ := u
      have hP : va_P D vwCl (RW D a s17) H := hP
      have hl : lv_has ls 5 [(0, .ref (a 200)), (2, .int (i2 x15)), (3, .int (i2 x16))] := hl
      have h : m_x12_laysTree_J81 (m_x12_laysTree_L48 n48) x15 x16 s17 = some o := h
      unfold m_x12_laysTree_J81 at h
      refine lv_aload_n hx hb eX12_laysTree_68.2.2.2.2.2.2.2 rfl (lv_at hl 0 rfl) ?_
      refine va_get (D := D) (ci := 12) (v := .ref (a 63)) (C := RX12) (T := TX12) (N := 116) hx hb ht inX12 hown hK hP 0 RW_0 rfl 63 (by decide) (ht (.fieldLink RX12 149 "CloneVolumesModel" "isInTree" "[Z") fl_X12_149) (fun _ h9 => h9) mF_63 eX12_laysTree_82.1 ?_
      refine lv_iload_n hx hb eX12_laysTree_82.2.1 rfl (lv_at hl 2 rfl) ?_
      refine lv_iconst (v := 1) hx hb eX12_laysTree_82.2.2.1 (by decide) ?_
      obtain ⟨hi18, h⟩ := inb_e h
      obtain ⟨hb19, h⟩ := bo_e h
      refine ya_zast (i := x16) (x := 1) hx hb hK hP (hDD _) hS 45 3 RW_45 rfl (by decide) hi18 hb19 eX12_laysTree_82.2.2.2.1 (RW_w45 _) (fun H locs hP hS => ?_)
      obtain ⟨s20, hs20, h⟩ := st_e h
      rw [hs20] at hP
      refine lv_aload_n hx hb eX12_laysTree_82.2.2.2.2.1 rfl (lv_at hl 0 rfl) ?_
      refine lv_iload_n hx hb eX12_laysTree_82.2.2.2.2.2.1 rfl (lv_at hl 2 rfl) ?_
      obtain ⟨r22, hc21, h⟩ := bn_e h
      refine ycV (r0 := i2 r22) (As := [.int (i2 x16)]) (rest := []) (C := RX12) (n := 1) ⟨hx, hb, hml, hown, ht⟩ (k_x12_levelOf l D a x16 _ _ hc21) (zgV ml_X12_460 im_X12_levelOf se_X12_levelOf in_X12 co_X12_levelOf) rfl rfl (by decide +kernel) ⟨Nat.le_of_ble_eq_true rfl, Nat.le_of_ble_eq_true rfl⟩ hN hK hP hS 0 RW_0 rfl rfl rfl hl.1 rfl (Nat.le_of_ble_eq_true rfl) eX12_laysTree_82.2.2.2.2.2.2.1 ⟨Nat.le_of_ble_eq_true rfl, Nat.le_of_ble_eq_true rfl⟩ (fun H locs hP hS => ?_)
      obtain ⟨hr23, h⟩ := rg_e h
      refine lv_if_ne (tgt := 104) hx hb eX12_laysTree_82.2.2.2.2.2.2.2 (by decide) (fun c24 => ?_) (fun c24 => ?_)
      · have h := if_f (mt (i2_eq (x := r22) (y := 0) hr23 (by decide)).mpr c24) h
        refine lv_aload_n hx hb eX12_laysTree_96.2.2.2.2.1 rfl (lv_at hl 0 rfl) ?_
        refine lv_iload_n hx hb eX12_laysTree_96.2.2.2.2.2.1 rfl (lv_at hl 2 rfl) ?_
        obtain ⟨r26, hc25, h⟩ := bn_e h
        refine ycV (r0 := i2 r26) (As := [.int (i2 x16)]) (rest := []) (C := RX12) (n := 1) ⟨hx, hb, hml, hown, ht⟩ (k_x12_entriesOf l D a x16 _ _ hc25) (zgV ml_X12_466 im_X12_entriesOf se_X12_entriesOf in_X12 co_X12_entriesOf) rfl rfl (by decide +kernel) ⟨Nat.le_of_ble_eq_true rfl, Nat.le_of_ble_eq_true rfl⟩ hN hK hP hS 0 RW_0 rfl rfl rfl hl.1 rfl (Nat.le_of_ble_eq_true rfl) eX12_laysTree_96.2.2.2.2.2.2.1 ⟨Nat.le_of_ble_eq_true rfl, Nat.le_of_ble_eq_true rfl⟩ (fun H locs hP hS => ?_)
        refine lv_iconst (v := 1) hx hb eX12_laysTree_96.2.2.2.2.2.2.2 (by decide) ?_
        refine lv_isub hx hb eX12_laysTree_110.1 ?_
        refine z_topi (y := i2 (r26 - 1)) (i2_sub r26 1) ?_
        refine lv_istore (lv' := [(4, .int (i2 (r26 - 1))), (0, .ref (a 200)), (2, .int (i2 x15)), (3, .int (i2 x16))]) hx hb eX12_laysTree_110.2.1 hl (by decide) rfl (fun ls hl => ?_)
        exact J113 FU (x15, x16, r26 - 1, s20) _ _ _ ⟨hP, hS, lv_sub hl [1, 2, 3, 0] rfl, h⟩
      · have h := if_t ((i2_eq (x := r22) (y := 0) hr23 (by decide)).mp c24) h
        refine lv_aload_n hx hb eX12_laysTree_96.1 rfl (lv_at hl 0 rfl) ?_
        refine lv_iload_n hx hb eX12_laysTree_96.2.1 rfl (lv_at hl 2 rfl) ?_
        obtain ⟨s28, hc27, h⟩ := bn_e h
        refine ywVv (As := [.int (i2 x16)]) (rest := []) (C := RX12) (n := 1) (ws' := RW D a s28) ⟨hx, hb, hml, hown, ht⟩ (k_x12_laysLeaf l D a x16 _ _ _ hc27) (zgV ml_X12_598 im_X12_laysLeaf se_X12_laysLeaf in_X12 co_X12_laysLeaf) rfl rfl (by decide +kernel) ⟨Nat.le_of_ble_eq_true rfl, Nat.le_of_ble_eq_true rfl⟩ hN hK hP (hDD _) hS hA 0 RW_0 rfl rfl rfl hl.1 rfl (Nat.le_of_ble_eq_true rfl) eX12_laysTree_96.2.2.1 ⟨Nat.le_of_ble_eq_true rfl, Nat.le_of_ble_eq_true rfl⟩ (fun H locs hP hS => ?_)
        refine lv_goto (tgt := 140) hx hb eX12_laysTree_96.2.2.2.1 (by decide) ?_
        exact J140 (x15, s28) _ _ _ ⟨hP, hS, lv_sub hl [0, 1] rfl, h⟩
    refine lv_iload_n hx hb eX12_laysTree_42.2.2.2.2.1 rfl (lv_at hl 1 rfl) ?_
    obtain ⟨hr29, h⟩ := rg_e h
    refine lv_if_le (tgt := 143) hx hb eX12_laysTree_42.2.2.2.2.2.1 (by decide) (fun c30 => ?_) (fun c30 => ?_)
    · have h := if_t ((i2_le (x := x1) (y := 0) hr29 (by decide)).mp c30) h
      obtain rfl := Option.some.inj h
      exact W.vret hx hb hr (fun t ht hW => ⟨⟨(), rfl, trivial, by rw [ht]; exact hP, va_K.moved hW.alike hK, hDD _⟩, hS.F ht⟩) hS.2.2 eX12_laysTree_143.1
    · have h := if_f (mt (i2_le (x := x1) (y := 0) hr29 (by decide)).mpr c30) h
      refine lv_iinc (v := i2 (x1 + (-1))) (lv' := [(2, .int (i2 (x1 + (-1)))), (0, .ref (a 200))]) hx hb eX12_laysTree_42.2.2.2.2.2.2.1 hl (k := 1) rfl (i2_add x1 (-1)) (by decide) rfl (fun ls hl => ?_)
      refine lv_aload_n hx hb eX12_laysTree_42.2.2.2.2.2.2.2 rfl (lv_at hl 1 rfl) ?_
      refine va_get (D := D) (ci := 12) (v := .ref (a 62)) (C := RX12) (T := TX12) (N := 116) hx hb ht inX12 hown hK hP 0 RW_0 rfl 62 (by decide) (ht (.fieldLink RX12 146 "CloneVolumesModel" "treeRow" "[I") fl_X12_146) (fun _ h9 => h9) mF_62 eX12_laysTree_56.1 ?_
      refine lv_iload_n hx hb eX12_laysTree_56.2.1 rfl (lv_at hl 0 rfl) ?_
      obtain ⟨y31, ey31, iy31, h⟩ := rdI_e h
      refine ya_iald (i := (x1 + (-1))) hx hb hK hP 44 0 RW_44 rfl (by decide) ey31 iy31 eX12_laysTree_56.2.2.1 ?_
      refine lv_istore_n (lv' := [(3, .int (i2 y31)), (2, .int (i2 (x1 + (-1)))), (0, .ref (a 200))]) hx hb eX12_laysTree_56.2.2.2.1 rfl hl (by decide) rfl (fun ls hl => ?_)
      refine lv_aload_n hx hb eX12_laysTree_56.2.2.2.2.1 rfl (lv_at hl 2 rfl) ?_
      refine va_get (D := D) (ci := 12) (v := .ref (a 63)) (C := RX12) (T := TX12) (N := 116) hx hb ht inX12 hown hK hP 0 RW_0 rfl 63 (by decide) (ht (.fieldLink RX12 149 "CloneVolumesModel" "isInTree" "[Z") fl_X12_149) (fun _ h9 => h9) mF_63 eX12_laysTree_56.2.2.2.2.2.1 ?_
      refine lv_iload_n hx hb eX12_laysTree_56.2.2.2.2.2.2.1 rfl (lv_at hl 0 rfl) ?_
      obtain ⟨y32, ey32, iy32, h⟩ := rdI_e h
      refine ya_zald (i := y31) hx hb hK hP 45 3 RW_45 rfl (by decide) ey32 iy32 eX12_laysTree_56.2.2.2.2.2.2.2 ?_
      obtain ⟨hr33, h⟩ := rg_e h
      refine lv_if_ne (tgt := 81) hx hb eX12_laysTree_68.1 (by decide) (fun c34 => ?_) (fun c34 => ?_)
      · have h := if_f (mt (i2_eq (x := y32) (y := 0) hr33 (by decide)).mpr c34) h
        exact J81 (x1 + (-1), y31, s2) _ _ _ ⟨hP, hS, lv_sub hl [2, 1, 0] rfl, h⟩
      · have h := if_t ((i2_eq (x := y32) (y := 0) hr33 (by decide)).mp c34) h
        refine lv_aload_n hx hb eX12_laysTree_68.2.1 rfl (lv_at hl 2 rfl) ?_
        refine lv_dup hx hb eX12_laysTree_68.2.2.1 rfl ?_
        refine va_get (D := D) (ci := 12) (v := .int (i2 (gI s2 68))) (C := RX12) (T := TX12) (N := 116) hx hb ht inX12 hown hK hP 0 RW_0 rfl 68 (by decide) (ht (.fieldLink RX12 595 "CloneVolumesModel" "treeMany" "I") fl_X12_595) (fun _ h9 => h9) mF_68 eX12_laysTree_68.2.2.2.1 ?_
        refine lv_iconst (v := 1) hx hb eX12_laysTree_68.2.2.2.2.1 (by decide) ?_
        refine lv_iadd hx hb eX12_laysTree_68.2.2.2.2.2.1 ?_
        refine z_topi (y := i2 ((gI s2 68) + 1)) (i2_add (gI s2 68) 1) ?_
        refine ya_put (D := D) (ci := 12) (v := .int (i2 ((gI s2 68) + 1))) (ty := .int) (C := RX12) (T := TX12) (N := 116) hx hb ht inX12 tyX12 tyX12_ok nmX12 hown hK hP (hDD _) hS 0 RW_0 rfl 68 (by decide) (ht (.fieldLink RX12 595 "CloneVolumesModel" "treeMany" "I") fl_X12_595) (fun _ h9 => h9) rfl (by decide +kernel) rfl rfl (by rw [mF_len]; decide) eX12_laysTree_68.2.2.2.2.2.2.1 (RW_f68 ((gI s2 68) + 1)) (fun H locs hP hS => ?_)
        obtain ⟨s35, hs35, h⟩ := st_e h
        rw [hs35] at hP
        exact J81 (x1 + (-1), y31, s35) _ _ _ ⟨hP, hS, lv_sub hl [2, 1, 0] rfl, h⟩
  refine y_loop (pcJ := 12) (σ := Int × Int × MS) (fun n u H locs ls => va_P D vwCl (RW D a u.2.2) H ∧ va_S A s₀.heap H locs ∧ lv_has ls 5 [(0, .ref (a 200)), (1, .int (i2 u.1)), (2, .int (i2 u.2.1))] ∧ m_x12_laysTree_L12 n u.1 u.2.1 u.2.2 = some o) (fun u => []) (fun u H locs ls hI => by obtain ⟨_, _, _, h⟩ := hI; cases h) (fun n12 ih12 u H locs ls hI => ?_) (fun J12 => ?_)
  · obtain ⟨hP, hS, hl, h⟩ := hI
    obtain ⟨x36, x37, s38⟩ := u
    have hP : va_P D vwCl (RW D a s38) H := hP
    have hl : lv_has ls 5 [(0, .ref (a 200)), (1, .int (i2 x36)), (2, .int (i2 x37))] := hl
    have h : m_x12_laysTree_b12 (m_x12_laysTree_L12 n12) x36 x37 s38 = some o := h
    unfold m_x12_laysTree_b12 at h
    refine lv_iload_n hx hb eX12_laysTree_1.2.2.2.2.2.2.2 rfl (lv_at hl 2 rfl) ?_
    refine lv_bipush (v := 48) hx hb eX12_laysTree_13.1 (by decide) ?_
    obtain ⟨hr39, h⟩ := rg_e h
    refine lv_icmp_ge (tgt := 31) hx hb eX12_laysTree_13.2.1 (by decide) (fun c40 => ?_) (fun c40 => ?_)
    · have h := if_t ((i2_le (x := 48) (y := x37) (by decide) hr39).mp c40) h
      refine lv_iload_n hx hb eX12_laysTree_28.2.1 rfl (lv_at hl 1 rfl) ?_
      refine lv_sipush (v := 254) hx hb eX12_laysTree_28.2.2.1 (by decide) ?_
      obtain ⟨hr41, h⟩ := rg_e h
      refine lv_icmp_lt (tgt := 39) hx hb eX12_laysTree_28.2.2.2.1 (by decide) (fun c42 => ?_) (fun c42 => ?_)
      · have h := if_t ((i2_lt (x := x36) (y := 254) hr41 (by decide)).mp c42) h
        refine lv_iconst (v := 1) hx hb eX12_laysTree_28.2.2.2.2.2.1 (by decide) ?_
        refine lv_istore_n (lv' := [(2, .int 1), (0, .ref (a 200)), (1, .int (i2 x36))]) hx hb eX12_laysTree_28.2.2.2.2.2.2.1 rfl hl (by decide) rfl (fun ls hl => ?_)
        refine lv_aload_n hx hb eX12_laysTree_28.2.2.2.2.2.2.2 rfl (lv_at hl 1 rfl) ?_
        refine va_get (D := D) (ci := 12) (v := .ref (a 62)) (C := RX12) (T := TX12) (N := 116) hx hb ht inX12 hown hK hP 0 RW_0 rfl 62 (by decide) (ht (.fieldLink RX12 146 "CloneVolumesModel" "treeRow" "[I") fl_X12_146) (fun _ h9 => h9) mF_62 eX12_laysTree_42.1 ?_
        refine lv_iconst (v := 0) hx hb eX12_laysTree_42.2.1 (by decide) ?_
        refine lv_iload_n hx hb eX12_laysTree_42.2.2.1 rfl (lv_at hl 2 rfl) ?_
        obtain ⟨hi43, h⟩ := inb_e h
        refine ya_iast (i := 0) (x := x36) hx hb hK hP (hDD _) hS 44 0 RW_44 rfl (by decide) hi43 eX12_laysTree_42.2.2.2.1 (RW_w44 _) (fun H locs hP hS => ?_)
        obtain ⟨s44, hs44, h⟩ := st_e h
        rw [hs44] at hP
        exact J48 FU (1, s44) _ _ _ ⟨hP, hS, lv_sub hl [1, 0] rfl, h⟩
      · have h := if_f (mt (i2_lt (x := x36) (y := 254) hr41 (by decide)).mpr c42) h
        obtain rfl := Option.some.inj h
        exact W.vret hx hb hr (fun t ht hW => ⟨⟨(), rfl, trivial, by rw [ht]; exact hP, va_K.moved hW.alike hK, hDD _⟩, hS.F ht⟩) hS.2.2 eX12_laysTree_28.2.2.2.2.1
    · have h := if_f (mt (i2_le (x := 48) (y := x37) (by decide) hr39).mpr c40) h
      refine lv_aload_n hx hb eX12_laysTree_13.2.2.1 rfl (lv_at hl 0 rfl) ?_
      refine va_get (D := D) (ci := 12) (v := .ref (a 63)) (C := RX12) (T := TX12) (N := 116) hx hb ht inX12 hown hK hP 0 RW_0 rfl 63 (by decide) (ht (.fieldLink RX12 149 "CloneVolumesModel" "isInTree" "[Z") fl_X12_149) (fun _ h9 => h9) mF_63 eX12_laysTree_13.2.2.2.1 ?_
      refine lv_iload_n hx hb eX12_laysTree_13.2.2.2.2.1 rfl (lv_at hl 2 rfl) ?_
      refine lv_iconst (v := 0) hx hb eX12_laysTree_13.2.2.2.2.2.1 (by decide) ?_
      obtain ⟨hi45, h⟩ := inb_e h
      obtain ⟨hb46, h⟩ := bo_e h
      refine ya_zast (i := x37) (x := 0) hx hb hK hP (hDD _) hS 45 3 RW_45 rfl (by decide) hi45 hb46 eX12_laysTree_13.2.2.2.2.2.2.1 (RW_w45 _) (fun H locs hP hS => ?_)
      obtain ⟨s47, hs47, h⟩ := st_e h
      rw [hs47] at hP
      refine lv_iinc (v := i2 (x37 + 1)) (lv' := [(2, .int (i2 (x37 + 1))), (0, .ref (a 200)), (1, .int (i2 x36))]) hx hb eX12_laysTree_13.2.2.2.2.2.2.2 hl (k := 2) rfl (i2_add x37 1) (by decide) rfl (fun ls hl => ?_)
      refine lv_goto (tgt := 12) hx hb eX12_laysTree_28.1 (by decide) ?_
      exact ih12 (x36, x37 + 1, s47) _ _ _ ⟨hP, hS, lv_sub hl [1, 2, 0] rfl, h⟩
  refine lv_aload_n hx hb eX12_laysLeaf_53.2.2.2.2.2.2.2 rfl (lv_at hl 0 rfl) ?_
  refine lv_iconst (v := 0) hx hb eX12_laysTree_1.1 (by decide) ?_
  refine ya_put (D := D) (ci := 12) (v := .int 0) (ty := .int) (C := RX12) (T := TX12) (N := 116) hx hb ht inX12 tyX12 tyX12_ok nmX12 hown hK hP (hDD _) hS 0 RW_0 rfl 67 (by decide) (ht (.fieldLink RX12 592 "CloneVolumesModel" "keyMany" "I") fl_X12_592) (fun _ h9 => h9) rfl (by decide +kernel) rfl rfl (by rw [mF_len]; decide) eX12_laysTree_1.2.1 (RW_f67 0) (fun H locs hP hS => ?_)
  obtain ⟨s48, hs48, h⟩ := st_e h
  rw [hs48] at hP
  refine lv_aload_n hx hb eX12_laysTree_1.2.2.1 rfl (lv_at hl 0 rfl) ?_
  refine lv_iconst (v := 0) hx hb eX12_laysTree_1.2.2.2.1 (by decide) ?_
  refine ya_put (D := D) (ci := 12) (v := .int 0) (ty := .int) (C := RX12) (T := TX12) (N := 116) hx hb ht inX12 tyX12 tyX12_ok nmX12 hown hK hP (hDD _) hS 0 RW_0 rfl 68 (by decide) (ht (.fieldLink RX12 595 "CloneVolumesModel" "treeMany" "I") fl_X12_595) (fun _ h9 => h9) rfl (by decide +kernel) rfl rfl (by rw [mF_len]; decide) eX12_laysTree_1.2.2.2.2.1 (RW_f68 0) (fun H locs hP hS => ?_)
  obtain ⟨s49, hs49, h⟩ := st_e h
  rw [hs49] at hP
  refine lv_iconst (v := 0) hx hb eX12_laysTree_1.2.2.2.2.2.1 (by decide) ?_
  refine lv_istore_n (lv' := [(2, .int 0), (0, .ref (a 200)), (1, .int (i2 p0))]) hx hb eX12_laysTree_1.2.2.2.2.2.2.1 rfl hl (by decide) rfl (fun ls hl => ?_)
  exact J12 FU (p0, 0, s49) _ _ _ ⟨hP, hS, lv_sub hl [1, 2, 0] rfl, h⟩
set_option maxHeartbeats 4000000 in
set_option maxRecDepth 100000 in
theorem k_x12_dropsMany (l : Launch) (D : va_G) (a : Nat → Nat) (p0 : Int) (sz : Nat) (s : MS) (o : (Int × MS)) (h : m_x12_dropsMany p0 s = some o) : yWi l yX12_dropsMany cX12_dropsMany 4 (some .int) { frames := 4, cells := 0, slots := 0, locals := 240 } D sz [.ref (a 200), .int (i2 p0)] (RW D a s) (RW D a o.2) (i2 o.1) := by
  refine Met.ofW (cc := cX12_dropsMany) (maxL := 4) (ret := (some .int)) (by decide) rfl ?_
  intro p e s₀ m args below meth c s₁ B hml hv
  obtain ⟨rfl, ⟨hsz, hP, hK, hD0⟩, hN⟩ := hv
  have hx := B.exec
  have hb := B.bytes
  have hr := B.returns
  have hts := atoms_spec (ws := wz yX12_dropsMany cX12_dropsMany 4 (some .int)) B.pre
  have ht : ∀ w ∈ lw_gd, w.before _ s₀ = true := fun w h => hts w (List.mem_cons_of_mem _ h)
  have hown : s₀.vm.findClass RX12 = some m.cls := findClass_of_methodNamed B.named
  have hlocks := B.notSynchronized
  subst hsz
  have hD := hD0.self (sz := s₀.heap.size)
  generalize hAe : va_A (RW D a s) s₀.heap.size = A at hD ⊢
  have hA : ∀ q : Nat, s₀.heap.size ≤ q → A q := fun q h => by rw [← hAe]; exact Or.inr h
  have hS : va_S A s₀.heap s₀.heap [] := va_S.rf
  have hDD : ∀ t : MS, va_D A (RW D a t) := fun t => RW_D t hD
  have hl := lv_entry ([.ref (a 200), .int (i2 p0)]) (n := 4) (Nat.le_of_ble_eq_true rfl)
  rw [lg_entry_eq]
  generalize (lg_sl ([.ref (a 200), .int (i2 p0)]) ++ List.replicate (4 - (lg_sl ([.ref (a 200), .int (i2 p0)])).length) Slot.unset).toArray = ls at hl ⊢
  have hl : lv_has ls 4 [(0, .ref (a 200)), (1, .int (i2 p0))] := hl
  unfold m_x12_dropsMany at h
  refine lv_aload_n hx hb eX12_drops_22.2.2.2.2.2.2.1 rfl (lv_at hl 0 rfl) ?_
  obtain ⟨s2, hc1, h⟩ := bn_e h
  refine ywVv (As := []) (rest := []) (C := RX12) (n := 0) (ws' := RW D a s2) ⟨hx, hb, hml, hown, ht⟩ (k_x12_putsAside l D a _ _ _ hc1) (zgV ml_X12_601 im_X12_putsAside se_X12_putsAside in_X12 co_X12_putsAside) rfl rfl (by decide +kernel) ⟨Nat.le_of_ble_eq_true rfl, Nat.le_of_ble_eq_true rfl⟩ hN hK hP (hDD _) hS hA 0 RW_0 rfl rfl rfl hl.1 rfl (Nat.le_of_ble_eq_true rfl) eX12_drops_22.2.2.2.2.2.2.2 ⟨Nat.le_of_ble_eq_true rfl, Nat.le_of_ble_eq_true rfl⟩ (fun H locs hP hS => ?_)
  refine lv_aload_n hx hb eX12_dropsMany_4.1 rfl (lv_at hl 0 rfl) ?_
  obtain ⟨r4, hc3, h⟩ := bn_e h
  refine ycV (r0 := i2 r4) (As := []) (rest := []) (C := RX12) (n := 0) ⟨hx, hb, hml, hown, ht⟩ (k_x12_usedMany l D a _ _ hc3) (zgV ml_X12_578 im_X12_usedMany se_X12_usedMany in_X12 co_X12_usedMany) rfl rfl (by decide +kernel) ⟨Nat.le_of_ble_eq_true rfl, Nat.le_of_ble_eq_true rfl⟩ hN hK hP hS 0 RW_0 rfl rfl rfl hl.1 rfl (Nat.le_of_ble_eq_true rfl) eX12_dropsMany_4.2.1 ⟨Nat.le_of_ble_eq_true rfl, Nat.le_of_ble_eq_true rfl⟩ (fun H locs hP hS => ?_)
  refine lv_istore_n (lv' := [(2, .int (i2 r4)), (0, .ref (a 200)), (1, .int (i2 p0))]) hx hb eX12_dropsMany_4.2.2.1 rfl hl (by decide) rfl (fun ls hl => ?_)
  refine lv_aload_n hx hb eX12_dropsMany_4.2.2.2.1 rfl (lv_at hl 1 rfl) ?_
  refine lv_iload_n hx hb eX12_dropsMany_4.2.2.2.2.1 rfl (lv_at hl 2 rfl) ?_
  obtain ⟨s6, hc5, h⟩ := bn_e h
  refine ywVv (As := [.int (i2 p0)]) (rest := []) (C := RX12) (n := 1) (ws' := RW D a s6) ⟨hx, hb, hml, hown, ht⟩ (k_x12_drops l D a p0 _ _ _ hc5) (zgV ml_X12_604 im_X12_drops se_X12_drops in_X12 co_X12_drops) rfl rfl (by decide +kernel) ⟨Nat.le_of_ble_eq_true rfl, Nat.le_of_ble_eq_true rfl⟩ hN hK hP (hDD _) hS hA 0 RW_0 rfl rfl rfl hl.1 rfl (Nat.le_of_ble_eq_true rfl) eX12_dropsMany_4.2.2.2.2.2.1 ⟨Nat.le_of_ble_eq_true rfl, Nat.le_of_ble_eq_true rfl⟩ (fun H locs hP hS => ?_)
  refine lv_iload_n hx hb eX12_dropsMany_4.2.2.2.2.2.2.1 rfl (lv_at hl 0 rfl) ?_
  refine lv_aload_n hx hb eX12_dropsMany_4.2.2.2.2.2.2.2 rfl (lv_at hl 1 rfl) ?_
  obtain ⟨r8, hc7, h⟩ := bn_e h
  refine ycV (r0 := i2 r8) (As := []) (rest := [.int (i2 r4)]) (C := RX12) (n := 0) ⟨hx, hb, hml, hown, ht⟩ (k_x12_usedMany l D a _ _ hc7) (zgV ml_X12_578 im_X12_usedMany se_X12_usedMany in_X12 co_X12_usedMany) rfl rfl (by decide +kernel) ⟨Nat.le_of_ble_eq_true rfl, Nat.le_of_ble_eq_true rfl⟩ hN hK hP hS 0 RW_0 rfl rfl rfl hl.1 rfl (Nat.le_of_ble_eq_true rfl) eX12_dropsMany_16.1 ⟨Nat.le_of_ble_eq_true rfl, Nat.le_of_ble_eq_true rfl⟩ (fun H locs hP hS => ?_)
  refine lv_isub hx hb eX12_dropsMany_16.2.1 ?_
  refine z_topi (y := i2 (r4 - r8)) (i2_sub r4 r8) ?_
  refine lv_istore_n (lv' := [(3, .int (i2 (r4 - r8))), (2, .int (i2 r4)), (0, .ref (a 200)), (1, .int (i2 p0))]) hx hb eX12_dropsMany_16.2.2.1 rfl hl (by decide) rfl (fun ls hl => ?_)
  refine lv_aload_n hx hb eX12_dropsMany_16.2.2.2.1 rfl (lv_at hl 2 rfl) ?_
  obtain ⟨s10, hc9, h⟩ := bn_e h
  refine ywVv (As := []) (rest := []) (C := RX12) (n := 0) (ws' := RW D a s10) ⟨hx, hb, hml, hown, ht⟩ (k_x12_takesBack l D a _ _ _ hc9) (zgV ml_X12_607 im_X12_takesBack se_X12_takesBack in_X12 co_X12_takesBack) rfl rfl (by decide +kernel) ⟨Nat.le_of_ble_eq_true rfl, Nat.le_of_ble_eq_true rfl⟩ hN hK hP (hDD _) hS hA 0 RW_0 rfl rfl rfl hl.1 rfl (Nat.le_of_ble_eq_true rfl) eX12_dropsMany_16.2.2.2.2.1 ⟨Nat.le_of_ble_eq_true rfl, Nat.le_of_ble_eq_true rfl⟩ (fun H locs hP hS => ?_)
  refine lv_iload_n hx hb eX12_dropsMany_16.2.2.2.2.2.1 rfl (lv_at hl 0 rfl) ?_
  obtain rfl := Option.some.inj h
  exact W.iret (v := (i2 (r4 - r8))) hx hb hr (fun t ht hW => ⟨⟨_, (), rfl, rfl, by rw [ht]; exact hP, va_K.moved hW.alike hK, hDD _⟩, hS.F ht⟩) hS.2.2 eX12_dropsMany_16.2.2.2.2.2.2.1
set_option maxHeartbeats 4000000 in
set_option maxRecDepth 100000 in
theorem k_x12_volume (l : Launch) (D : va_G) (a : Nat → Nat) (p0 : Int) (p1 : Int) (sz : Nat) (s : MS) (o : (Int × MS)) (h : m_x12_volume p0 p1 s = some o) : yWi l yX12_volume cX12_volume 4 (some .int) { frames := 5, cells := 0, slots := 0, locals := 300 } D sz [.ref (a 200), .int (i2 p0), .int (i2 p1)] (RW D a s) (RW D a o.2) (i2 o.1) := by
  refine Met.ofW (cc := cX12_volume) (maxL := 4) (ret := (some .int)) (by decide) rfl ?_
  intro p e s₀ m args below meth c s₁ B hml hv
  obtain ⟨rfl, ⟨hsz, hP, hK, hD0⟩, hN⟩ := hv
  have hx := B.exec
  have hb := B.bytes
  have hr := B.returns
  have hts := atoms_spec (ws := wz yX12_volume cX12_volume 4 (some .int)) B.pre
  have ht : ∀ w ∈ lw_gd, w.before _ s₀ = true := fun w h => hts w (List.mem_cons_of_mem _ h)
  have hown : s₀.vm.findClass RX12 = some m.cls := findClass_of_methodNamed B.named
  have hlocks := B.notSynchronized
  subst hsz
  have hD := hD0.self (sz := s₀.heap.size)
  generalize hAe : va_A (RW D a s) s₀.heap.size = A at hD ⊢
  have hA : ∀ q : Nat, s₀.heap.size ≤ q → A q := fun q h => by rw [← hAe]; exact Or.inr h
  have hS : va_S A s₀.heap s₀.heap [] := va_S.rf
  have hDD : ∀ t : MS, va_D A (RW D a t) := fun t => RW_D t hD
  have hl := lv_entry ([.ref (a 200), .int (i2 p0), .int (i2 p1)]) (n := 4) (Nat.le_of_ble_eq_true rfl)
  rw [lg_entry_eq]
  generalize (lg_sl ([.ref (a 200), .int (i2 p0), .int (i2 p1)]) ++ List.replicate (4 - (lg_sl ([.ref (a 200), .int (i2 p0), .int (i2 p1)])).length) Slot.unset).toArray = ls at hl ⊢
  have hl : lv_has ls 4 [(0, .ref (a 200)), (1, .int (i2 p0)), (2, .int (i2 p1))] := hl
  unfold m_x12_volume at h
  refine y_head (pcJ := 96) (σ := Int × MS) (fun u H locs ls => va_P D vwCl (RW D a u.2) H ∧ va_S A s₀.heap H locs ∧ lv_has ls 4 [] ∧ m_x12_volume_J96 u.1 u.2 = some o) (fun u => [.int (i2 u.1)]) (fun u H locs ls hI => ?_) (fun J96 => ?_)
  · obtain ⟨hP, hS, hl, h⟩ := hI
    obtain ⟨x1, s2⟩ := u
    have hP : va_P D vwCl (RW D a s2) H := hP
    have hl : lv_has ls 4 [] := hl
    have h : m_x12_volume_J96 x1 s2 = some o := h
    unfold m_x12_volume_J96 at h
    obtain rfl := Option.some.inj h
    exact W.iret (v := (i2 x1)) hx hb hr (fun t ht hW => ⟨⟨_, (), rfl, rfl, by rw [ht]; exact hP, va_K.moved hW.alike hK, hDD _⟩, hS.F ht⟩) hS.2.2 eX12_volume_95.2.1
  refine y_head (pcJ := 72) (σ := Int × MS) (fun u H locs ls => va_P D vwCl (RW D a u.2) H ∧ va_S A s₀.heap H locs ∧ lv_has ls 4 [] ∧ m_x12_volume_J72 u.1 u.2 = some o) (fun u => [.int (i2 u.1)]) (fun u H locs ls hI => ?_) (fun J72 => ?_)
  · obtain ⟨hP, hS, hl, h⟩ := hI
    obtain ⟨x3, s4⟩ := u
    have hP : va_P D vwCl (RW D a s4) H := hP
    have hl : lv_has ls 4 [] := hl
    have h : m_x12_volume_J72 x3 s4 = some o := h
    unfold m_x12_volume_J72 at h
    obtain rfl := Option.some.inj h
    exact W.iret (v := (i2 x3)) hx hb hr (fun t ht hW => ⟨⟨_, (), rfl, rfl, by rw [ht]; exact hP, va_K.moved hW.alike hK, hDD _⟩, hS.F ht⟩) hS.2.2 eX12_volume_67.2.2.2.1
  refine lv_aload_n hx hb eX12_usedMany_23.2.2.2.2.1 rfl (lv_at hl 0 rfl) ?_
  refine lv_iload_n hx hb eX12_usedMany_23.2.2.2.2.2.1 rfl (lv_at hl 1 rfl) ?_
  obtain ⟨hr5, h⟩ := rg_e h
  refine lv_i2l (v := i8 p0) hx hb eX12_usedMany_23.2.2.2.2.2.2.1 (i2_l hr5) ?_
  obtain ⟨r7, hc6, h⟩ := bn_e h
  refine ycV (r0 := i2 r7) (As := [.long (i8 p0)]) (rest := []) (C := RX12) (n := 1) ⟨hx, hb, hml, hown, ht⟩ (k_x12_isVolume l D a p0 _ _ hc6) (zgV ml_X12_571 im_X12_isVolume se_X12_isVolume in_X12 co_X12_isVolume) rfl rfl (by decide +kernel) ⟨Nat.le_of_ble_eq_true rfl, Nat.le_of_ble_eq_true rfl⟩ hN hK hP hS 0 RW_0 rfl rfl rfl hl.1 rfl (Nat.le_of_ble_eq_true rfl) eX12_usedMany_23.2.2.2.2.2.2.2 ⟨Nat.le_of_ble_eq_true rfl, Nat.le_of_ble_eq_true rfl⟩ (fun H locs hP hS => ?_)
  obtain ⟨hr8, h⟩ := rg_e h
  refine lv_if_ne (tgt := 11) hx hb eX12_volume_6.1 (by decide) (fun c9 => ?_) (fun c9 => ?_)
  · have h := if_f (mt (i2_eq (x := r7) (y := 0) hr8 (by decide)).mpr c9) h
    refine lv_aload_n hx hb eX12_volume_6.2.2.2.1 rfl (lv_at hl 0 rfl) ?_
    refine va_get (D := D) (ci := 12) (v := .ref (a 49)) (C := RX12) (T := TX12) (N := 116) hx hb ht inX12 hown hK hP 0 RW_0 rfl 49 (by decide) (ht (.fieldLink RX12 121 "CloneVolumesModel" "now" "[I") fl_X12_121) (fun _ h9 => h9) mF_49 eX12_volume_6.2.2.2.2.1 ?_
    refine lv_iload_n hx hb eX12_volume_6.2.2.2.2.2.1 rfl (lv_at hl 1 rfl) ?_
    obtain ⟨y10, ey10, iy10, h⟩ := rdI_e h
    refine ya_iald (i := p0) hx hb hK hP 36 0 RW_36 rfl (by decide) ey10 iy10 eX12_volume_6.2.2.2.2.2.2.1 ?_
    refine lv_istore_n (lv' := [(3, .int (i2 y10)), (0, .ref (a 200)), (1, .int (i2 p0)), (2, .int (i2 p1))]) hx hb eX12_volume_6.2.2.2.2.2.2.2 rfl hl (by decide) rfl (fun ls hl => ?_)
    refine lv_aload_n hx hb eX12_volume_18.1 rfl (lv_at hl 1 rfl) ?_
    refine lv_iload_n hx hb eX12_volume_18.2.1 rfl (lv_at hl 0 rfl) ?_
    obtain ⟨s12, hc11, h⟩ := bn_e h
    refine ywVv (As := [.int (i2 y10)]) (rest := []) (C := RX12) (n := 1) (ws' := RW D a s12) ⟨hx, hb, hml, hown, ht⟩ (k_x12_laysTree l D a y10 _ _ _ hc11) (zgV ml_X12_610 im_X12_laysTree se_X12_laysTree in_X12 co_X12_laysTree) rfl rfl (by decide +kernel) ⟨Nat.le_of_ble_eq_true rfl, Nat.le_of_ble_eq_true rfl⟩ hN hK hP (hDD _) hS hA 0 RW_0 rfl rfl rfl hl.1 rfl (Nat.le_of_ble_eq_true rfl) eX12_volume_18.2.2.1 ⟨Nat.le_of_ble_eq_true rfl, Nat.le_of_ble_eq_true rfl⟩ (fun H locs hP hS => ?_)
    refine lv_iload_n hx hb eX12_volume_18.2.2.2.1 rfl (lv_at hl 3 rfl) ?_
    obtain ⟨hr13, h⟩ := rg_e h
    by_cases c14 : p1 = 0
    · have h := if_t c14 h
      refine lv_tableIn (off := 36) (tgt := 60) hx hb eX12_volume_18.2.2.2.2.1 (by rw [c14]; decide) (by rw [c14]; decide) (by rw [c14]; decide) (by decide) ?_
      refine lv_iload_n hx hb eX12_volume_18.2.2.2.2.2.1 rfl (lv_at hl 0 rfl) ?_
      refine lv_sipush (v := 254) hx hb eX12_volume_18.2.2.2.2.2.2.1 (by decide) ?_
      obtain ⟨hr15, h⟩ := rg_e h
      refine lv_icmp_ne (tgt := 71) hx hb eX12_volume_18.2.2.2.2.2.2.2 (by decide) (fun c16 => ?_) (fun c16 => ?_)
      · have h := if_f (mt (i2_eq (x := y10) (y := 254) hr15 (by decide)).mpr c16) h
        refine lv_iload_n hx hb eX12_volume_67.2.2.1 rfl (lv_at hl 0 rfl) ?_
        exact J72 (y10, s12) _ _ _ ⟨hP, hS, lv_sub hl [] rfl, h⟩
      · have h := if_t ((i2_eq (x := y10) (y := 254) hr15 (by decide)).mp c16) h
        refine lv_iconst (v := (-1)) hx hb eX12_volume_67.1 (by decide) ?_
        refine lv_goto (tgt := 72) hx hb eX12_volume_67.2.1 (by decide) ?_
        exact J72 ((-1), s12) _ _ _ ⟨hP, hS, lv_sub hl [] rfl, h⟩
    · have h := if_f c14 h
      by_cases c17 : p1 = 1
      · have h := if_t c17 h
        refine lv_tableIn (off := 49) (tgt := 73) hx hb eX12_volume_18.2.2.2.2.1 (by rw [c17]; decide) (by rw [c17]; decide) (by rw [c17]; decide) (by decide) ?_
        refine lv_aload_n hx hb eX12_volume_67.2.2.2.2.1 rfl (lv_at hl 1 rfl) ?_
        refine va_get (D := D) (ci := 12) (v := .int (i2 (gI s12 67))) (C := RX12) (T := TX12) (N := 116) hx hb ht inX12 hown hK hP 0 RW_0 rfl 67 (by decide) (ht (.fieldLink RX12 592 "CloneVolumesModel" "keyMany" "I") fl_X12_592) (fun _ h9 => h9) mF_67 eX12_volume_67.2.2.2.2.2.1 ?_
        obtain rfl := Option.some.inj h
        exact W.iret (v := (i2 (gI s12 67))) hx hb hr (fun t ht hW => ⟨⟨_, (), rfl, rfl, by rw [ht]; exact hP, va_K.moved hW.alike hK, hDD _⟩, hS.F ht⟩) hS.2.2 eX12_volume_67.2.2.2.2.2.2.1
      · have h := if_f c17 h
        by_cases c18 : p1 = 2
        · have h := if_t c18 h
          refine lv_tableIn (off := 54) (tgt := 78) hx hb eX12_volume_18.2.2.2.2.1 (by rw [c18]; decide) (by rw [c18]; decide) (by rw [c18]; decide) (by decide) ?_
          refine lv_iload_n hx hb eX12_volume_67.2.2.2.2.2.2.2 rfl (lv_at hl 0 rfl) ?_
          refine lv_sipush (v := 254) hx hb eX12_volume_79.1 (by decide) ?_
          obtain ⟨hr19, h⟩ := rg_e h
          refine lv_icmp_ne (tgt := 89) hx hb eX12_volume_79.2.1 (by decide) (fun c20 => ?_) (fun c20 => ?_)
          · have h := if_f (mt (i2_eq (x := y10) (y := 254) hr19 (by decide)).mpr c20) h
            refine lv_aload_n hx hb eX12_volume_79.2.2.2.2.1 rfl (lv_at hl 1 rfl) ?_
            refine lv_iload_n hx hb eX12_volume_79.2.2.2.2.2.1 rfl (lv_at hl 0 rfl) ?_
            obtain ⟨r22, hc21, h⟩ := bn_e h
            refine ycV (r0 := i2 r22) (As := [.int (i2 y10)]) (rest := []) (C := RX12) (n := 1) ⟨hx, hb, hml, hown, ht⟩ (k_x12_levelOf l D a y10 _ _ hc21) (zgV ml_X12_460 im_X12_levelOf se_X12_levelOf in_X12 co_X12_levelOf) rfl rfl (by decide +kernel) ⟨Nat.le_of_ble_eq_true rfl, Nat.le_of_ble_eq_true rfl⟩ hN hK hP hS 0 RW_0 rfl rfl rfl hl.1 rfl (Nat.le_of_ble_eq_true rfl) eX12_volume_79.2.2.2.2.2.2.1 ⟨Nat.le_of_ble_eq_true rfl, Nat.le_of_ble_eq_true rfl⟩ (fun H locs hP hS => ?_)
            refine lv_iconst (v := 1) hx hb eX12_volume_79.2.2.2.2.2.2.2 (by decide) ?_
            refine lv_iadd hx hb eX12_volume_95.1 ?_
            refine z_topi (y := i2 (r22 + 1)) (i2_add r22 1) ?_
            exact J96 (r22 + 1, s12) _ _ _ ⟨hP, hS, lv_sub hl [] rfl, h⟩
          · have h := if_t ((i2_eq (x := y10) (y := 254) hr19 (by decide)).mp c20) h
            refine lv_iconst (v := 0) hx hb eX12_volume_79.2.2.1 (by decide) ?_
            refine lv_goto (tgt := 96) hx hb eX12_volume_79.2.2.2.1 (by decide) ?_
            exact J96 (0, s12) _ _ _ ⟨hP, hS, lv_sub hl [] rfl, h⟩
        · have h := if_f c18 h
          by_cases c23 : p1 = 3
          · have h := if_t c23 h
            refine lv_tableIn (off := 73) (tgt := 97) hx hb eX12_volume_18.2.2.2.2.1 (by rw [c23]; decide) (by rw [c23]; decide) (by rw [c23]; decide) (by decide) ?_
            refine lv_aload_n hx hb eX12_volume_95.2.2.1 rfl (lv_at hl 1 rfl) ?_
            refine va_get (D := D) (ci := 12) (v := .int (i2 (gI s12 68))) (C := RX12) (T := TX12) (N := 116) hx hb ht inX12 hown hK hP 0 RW_0 rfl 68 (by decide) (ht (.fieldLink RX12 595 "CloneVolumesModel" "treeMany" "I") fl_X12_595) (fun _ h9 => h9) mF_68 eX12_volume_95.2.2.2.1 ?_
            obtain rfl := Option.some.inj h
            exact W.iret (v := (i2 (gI s12 68))) hx hb hr (fun t ht hW => ⟨⟨_, (), rfl, rfl, by rw [ht]; exact hP, va_K.moved hW.alike hK, hDD _⟩, hS.F ht⟩) hS.2.2 eX12_volume_95.2.2.2.2.1
          · have h := if_f c23 h
            by_cases c24 : p1 = 4
            · have h := if_t c24 h
              refine lv_tableIn (off := 78) (tgt := 102) hx hb eX12_volume_18.2.2.2.2.1 (by rw [c24]; decide) (by rw [c24]; decide) (by rw [c24]; decide) (by decide) ?_
              refine lv_aload_n hx hb eX12_volume_95.2.2.2.2.2.1 rfl (lv_at hl 1 rfl) ?_
              refine lv_iload_n hx hb eX12_volume_95.2.2.2.2.2.2.1 rfl (lv_at hl 2 rfl) ?_
              obtain ⟨⟨r27, s26⟩, hc25, h⟩ := bn_e h
              refine ywV (r0 := i2 r27) (As := [.int (i2 p0)]) (rest := []) (C := RX12) (n := 1) (ws' := RW D a s26) ⟨hx, hb, hml, hown, ht⟩ (k_x12_dropsMany l D a p0 _ _ _ hc25) (zgV ml_X12_613 im_X12_dropsMany se_X12_dropsMany in_X12 co_X12_dropsMany) rfl rfl (by decide +kernel) ⟨Nat.le_of_ble_eq_true rfl, Nat.le_of_ble_eq_true rfl⟩ hN hK hP (hDD _) hS hA 0 RW_0 rfl rfl rfl hl.1 rfl (Nat.le_of_ble_eq_true rfl) eX12_volume_95.2.2.2.2.2.2.2 ⟨Nat.le_of_ble_eq_true rfl, Nat.le_of_ble_eq_true rfl⟩ (fun H locs hP hS => ?_)
              obtain rfl := Option.some.inj h
              exact W.iret (v := (i2 r27)) hx hb hr (fun t ht hW => ⟨⟨_, (), rfl, rfl, by rw [ht]; exact hP, va_K.moved hW.alike hK, hDD _⟩, hS.F ht⟩) hS.2.2 eX12_volume_107.1
            · have h := if_f c24 h
              refine lv_tableOut (tgt := 108) hx hb eX12_volume_18.2.2.2.2.1 (by rw [i2_t hr13]; omega) (by decide) ?_
              refine lv_iconst (v := (-1)) hx hb eX12_volume_107.2.1 (by decide) ?_
              obtain rfl := Option.some.inj h
              exact W.iret (v := (-1)) hx hb hr (fun t ht hW => ⟨⟨_, (), rfl, rfl, by rw [ht]; exact hP, va_K.moved hW.alike hK, hDD _⟩, hS.F ht⟩) hS.2.2 eX12_volume_107.2.2.1
  · have h := if_t ((i2_eq (x := r7) (y := 0) hr8 (by decide)).mp c9) h
    refine lv_iconst (v := (-1)) hx hb eX12_volume_6.2.1 (by decide) ?_
    obtain rfl := Option.some.inj h
    exact W.iret (v := (-1)) hx hb hr (fun t ht hW => ⟨⟨_, (), rfl, rfl, by rw [ht]; exact hP, va_K.moved hW.alike hK, hDD _⟩, hS.F ht⟩) hS.2.2 eX12_volume_6.2.2.1
