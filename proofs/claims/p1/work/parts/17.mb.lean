theorem cl_X12_590 : Cond.constantLong RX12 590 5 ∈ lw_gd := zm (List.mem_of_getElem? (i := 2271) (by decide +kernel)) rfl
theorem fl_X12_17 : Cond.fieldLink RX12 17 "CloneVolumesModel" "refused" "[I" ∈ lw_gd := zm (List.mem_of_getElem? (i := 1547) (by decide +kernel)) rfl
theorem fl_X12_13 : Cond.fieldLink RX12 13 "CloneVolumesModel" "faultPlace" "I" ∈ lw_gd := zm (List.mem_of_getElem? (i := 1546) (by decide +kernel)) rfl
theorem fl_X12_396 : Cond.fieldLink RX12 396 "CloneVolumesModel" "fault" "I" ∈ lw_gd := zm (List.mem_of_getElem? (i := 1545) (by decide +kernel)) rfl
theorem ml_X12_616 : Cond.methodLink RX12 616 yX12_isBlock ∈ lw_gd := zm (List.mem_of_getElem? (i := 2308) (by decide +kernel)) rfl
theorem im_X12_isBlock : Cond.instanceMethod yX12_isBlock ∈ lw_gd := zm (List.mem_of_getElem? (i := 2310) (by decide +kernel)) rfl
theorem se_X12_isBlock : Cond.selects RX12 yX12_isBlock yX12_isBlock ∈ lw_gd := zm (List.mem_of_getElem? (i := 160) (by decide +kernel)) rfl
theorem co_X12_isBlock : Cond.code yX12_isBlock cX12_isBlock 3 (some .boolean) ∈ lw_gd := zm (List.mem_of_getElem? (i := 2311) (by decide +kernel)) rfl
theorem fl_X12_783 : Cond.fieldLink RX12 783 "CloneVolumesModel" "octets" "I" ∈ lw_gd := zm (List.mem_of_getElem? (i := 1650) (by decide +kernel)) rfl
theorem ml_X12_647 : Cond.methodLink RX12 647 yX12_fits ∈ lw_gd := zm (List.mem_of_getElem? (i := 2422) (by decide +kernel)) rfl
theorem im_X12_fits : Cond.instanceMethod yX12_fits ∈ lw_gd := zm (List.mem_of_getElem? (i := 2407) (by decide +kernel)) rfl
theorem se_X12_fits : Cond.selects RX12 yX12_fits yX12_fits ∈ lw_gd := zm (List.mem_of_getElem? (i := 2408) (by decide +kernel)) rfl
theorem co_X12_fits : Cond.code yX12_fits cX12_fits 4 (some .int) ∈ lw_gd := zm (List.mem_of_getElem? (i := 2409) (by decide +kernel)) rfl
theorem ml_X12_584 : Cond.methodLink RX12 584 yX12_volumeMany ∈ lw_gd := zm (List.mem_of_getElem? (i := 2242) (by decide +kernel)) rfl
theorem im_X12_volumeMany : Cond.instanceMethod yX12_volumeMany ∈ lw_gd := zm (List.mem_of_getElem? (i := 2244) (by decide +kernel)) rfl
theorem se_X12_volumeMany : Cond.selects RX12 yX12_volumeMany yX12_volumeMany ∈ lw_gd := zm (List.mem_of_getElem? (i := 147) (by decide +kernel)) rfl
theorem co_X12_volumeMany : Cond.code yX12_volumeMany cX12_volumeMany 3 (some .int) ∈ lw_gd := zm (List.mem_of_getElem? (i := 2245) (by decide +kernel)) rfl
theorem ml_X12_587 : Cond.methodLink RX12 587 yX12_freeMany ∈ lw_gd := zm (List.mem_of_getElem? (i := 2263) (by decide +kernel)) rfl
theorem im_X12_freeMany : Cond.instanceMethod yX12_freeMany ∈ lw_gd := zm (List.mem_of_getElem? (i := 2265) (by decide +kernel)) rfl
theorem se_X12_freeMany : Cond.selects RX12 yX12_freeMany yX12_freeMany ∈ lw_gd := zm (List.mem_of_getElem? (i := 152) (by decide +kernel)) rfl
theorem co_X12_freeMany : Cond.code yX12_freeMany cX12_freeMany 1 (some .int) ∈ lw_gd := zm (List.mem_of_getElem? (i := 2266) (by decide +kernel)) rfl
theorem fl_X12_419 : Cond.fieldLink RX12 419 "CloneVolumesModel" "rowMany" "I" ∈ lw_gd := zm (List.mem_of_getElem? (i := 1611) (by decide +kernel)) rfl
theorem fl_X12_416 : Cond.fieldLink RX12 416 "CloneVolumesModel" "undoable" "I" ∈ lw_gd := zm (List.mem_of_getElem? (i := 1614) (by decide +kernel)) rfl
theorem ml_X12_523 : Cond.methodLink RX12 523 yX12_roomOf ∈ lw_gd := zm (List.mem_of_getElem? (i := 2202) (by decide +kernel)) rfl
theorem im_X12_roomOf : Cond.instanceMethod yX12_roomOf ∈ lw_gd := zm (List.mem_of_getElem? (i := 2204) (by decide +kernel)) rfl
theorem se_X12_roomOf : Cond.selects RX12 yX12_roomOf yX12_roomOf ∈ lw_gd := zm (List.mem_of_getElem? (i := 139) (by decide +kernel)) rfl
theorem co_X12_roomOf : Cond.code yX12_roomOf cX12_roomOf 1 (some .int) ∈ lw_gd := zm (List.mem_of_getElem? (i := 2205) (by decide +kernel)) rfl
theorem dX12_back_0 : decode cX12_back 0 = .ok (.aload_n 0, 1) := by decide +kernel
theorem dX12_back_1 : decode cX12_back 1 = .ok (.iload_n 1, 1) := by decide +kernel
theorem dX12_back_2 : decode cX12_back 2 = .ok (.i2l, 1) := by decide +kernel
theorem dX12_back_3 : decode cX12_back 3 = .ok (.invokevirtual 571, 3) := by decide +kernel
theorem dX12_back_6 : decode cX12_back 6 = .ok (.ifCond .eq 41, 3) := by decide +kernel
theorem dX12_back_47 : decode cX12_back 47 = .ok (.iconst (-1), 1) := by decide +kernel
theorem dX12_back_48 : decode cX12_back 48 = .ok (.ireturn, 1) := by decide +kernel
theorem dX12_block_0 : decode cX12_block 0 = .ok (.aload_n 0, 1) := by decide +kernel
theorem dX12_block_1 : decode cX12_block 1 = .ok (.iload_n 1, 1) := by decide +kernel
theorem dX12_block_2 : decode cX12_block 2 = .ok (.i2l, 1) := by decide +kernel
theorem dX12_block_3 : decode cX12_block 3 = .ok (.invokevirtual 616, 3) := by decide +kernel
theorem dX12_block_6 : decode cX12_block 6 = .ok (.ifCond .ne 5, 3) := by decide +kernel
theorem dX12_block_9 : decode cX12_block 9 = .ok (.iconst (-1), 1) := by decide +kernel
theorem dX12_block_10 : decode cX12_block 10 = .ok (.ireturn, 1) := by decide +kernel
theorem dX12_differs_0 : decode cX12_differs 0 = .ok (.aload_n 0, 1) := by decide +kernel
theorem dX12_differs_1 : decode cX12_differs 1 = .ok (.iload_n 1, 1) := by decide +kernel
theorem dX12_differs_2 : decode cX12_differs 2 = .ok (.i2l, 1) := by decide +kernel
theorem dX12_differs_3 : decode cX12_differs 3 = .ok (.invokevirtual 571, 3) := by decide +kernel
theorem dX12_differs_6 : decode cX12_differs 6 = .ok (.ifCond .eq 37, 3) := by decide +kernel
theorem dX12_differs_43 : decode cX12_differs 43 = .ok (.iconst (-1), 1) := by decide +kernel
theorem dX12_differs_44 : decode cX12_differs 44 = .ok (.ireturn, 1) := by decide +kernel
theorem dX12_entry_0 : decode cX12_entry 0 = .ok (.aload_n 0, 1) := by decide +kernel
theorem dX12_entry_1 : decode cX12_entry 1 = .ok (.iload_n 1, 1) := by decide +kernel
theorem dX12_entry_2 : decode cX12_entry 2 = .ok (.i2l, 1) := by decide +kernel
theorem dX12_entry_3 : decode cX12_entry 3 = .ok (.invokevirtual 616, 3) := by decide +kernel
theorem dX12_entry_6 : decode cX12_entry 6 = .ok (.ifCond .eq 38, 3) := by decide +kernel
theorem dX12_entry_44 : decode cX12_entry 44 = .ok (.iconst (-1), 1) := by decide +kernel
theorem dX12_entry_45 : decode cX12_entry 45 = .ok (.ireturn, 1) := by decide +kernel
theorem dX12_fault_0 : decode cX12_fault 0 = .ok (.iload_n 1, 1) := by decide +kernel
theorem dX12_fault_1 : decode cX12_fault 1 = .ok (.ifCond .ne 10, 3) := by decide +kernel
theorem dX12_fault_4 : decode cX12_fault 4 = .ok (.aload_n 0, 1) := by decide +kernel
theorem dX12_fault_5 : decode cX12_fault 5 = .ok (.getfield 396, 3) := by decide +kernel
theorem dX12_fault_8 : decode cX12_fault 8 = .ok (.goto 16, 3) := by decide +kernel
theorem dX12_fault_11 : decode cX12_fault 11 = .ok (.iload_n 1, 1) := by decide +kernel
theorem dX12_fault_12 : decode cX12_fault 12 = .ok (.iconst 1, 1) := by decide +kernel
theorem dX12_fault_13 : decode cX12_fault 13 = .ok (.if_icmp .ne 10, 3) := by decide +kernel
theorem dX12_fault_16 : decode cX12_fault 16 = .ok (.aload_n 0, 1) := by decide +kernel
theorem dX12_fault_17 : decode cX12_fault 17 = .ok (.getfield 13, 3) := by decide +kernel
theorem dX12_fault_20 : decode cX12_fault 20 = .ok (.goto 4, 3) := by decide +kernel
theorem dX12_fault_23 : decode cX12_fault 23 = .ok (.iconst (-1), 1) := by decide +kernel
theorem dX12_fault_24 : decode cX12_fault 24 = .ok (.ireturn, 1) := by decide +kernel
theorem dX12_has_0 : decode cX12_has 0 = .ok (.iload_n 1, 1) := by decide +kernel
theorem dX12_has_1 : decode cX12_has 1 = .ok (.tableswitch 112 0 9 #[55, 60, 65, 70, 75, 80, 88, 97, 102, 107], 55) := by decide +kernel
theorem dX12_has_56 : decode cX12_has 56 = .ok (.aload_n 0, 1) := by decide +kernel
theorem dX12_has_57 : decode cX12_has 57 = .ok (.invokevirtual 429, 3) := by decide +kernel
theorem dX12_has_60 : decode cX12_has 60 = .ok (.ireturn, 1) := by decide +kernel
theorem dX12_has_61 : decode cX12_has 61 = .ok (.aload_n 0, 1) := by decide +kernel
theorem dX12_has_62 : decode cX12_has 62 = .ok (.invokevirtual 584, 3) := by decide +kernel
theorem dX12_has_65 : decode cX12_has 65 = .ok (.ireturn, 1) := by decide +kernel
theorem dX12_has_66 : decode cX12_has 66 = .ok (.aload_n 0, 1) := by decide +kernel
theorem dX12_has_67 : decode cX12_has 67 = .ok (.invokevirtual 578, 3) := by decide +kernel
theorem dX12_has_70 : decode cX12_has 70 = .ok (.ireturn, 1) := by decide +kernel
theorem dX12_has_71 : decode cX12_has 71 = .ok (.aload_n 0, 1) := by decide +kernel
theorem dX12_has_72 : decode cX12_has 72 = .ok (.invokevirtual 581, 3) := by decide +kernel
theorem dX12_has_75 : decode cX12_has 75 = .ok (.ireturn, 1) := by decide +kernel
theorem dX12_has_76 : decode cX12_has 76 = .ok (.aload_n 0, 1) := by decide +kernel
theorem dX12_has_77 : decode cX12_has 77 = .ok (.invokevirtual 587, 3) := by decide +kernel
theorem dX12_has_80 : decode cX12_has 80 = .ok (.ireturn, 1) := by decide +kernel
theorem dX12_has_81 : decode cX12_has 81 = .ok (.aload_n 0, 1) := by decide +kernel
theorem dX12_has_82 : decode cX12_has 82 = .ok (.getfield 121, 3) := by decide +kernel
theorem dX12_has_85 : decode cX12_has 85 = .ok (.bipush 16, 2) := by decide +kernel
theorem dX12_has_87 : decode cX12_has 87 = .ok (.iaload, 1) := by decide +kernel
theorem dX12_has_88 : decode cX12_has 88 = .ok (.ireturn, 1) := by decide +kernel
theorem dX12_has_89 : decode cX12_has 89 = .ok (.aload_n 0, 1) := by decide +kernel
theorem dX12_has_90 : decode cX12_has 90 = .ok (.getfield 121, 3) := by decide +kernel
theorem dX12_has_93 : decode cX12_has 93 = .ok (.sipush 785, 3) := by decide +kernel
theorem dX12_has_96 : decode cX12_has 96 = .ok (.iaload, 1) := by decide +kernel
theorem dX12_has_97 : decode cX12_has 97 = .ok (.ireturn, 1) := by decide +kernel
theorem dX12_has_98 : decode cX12_has 98 = .ok (.aload_n 0, 1) := by decide +kernel
theorem dX12_has_99 : decode cX12_has 99 = .ok (.getfield 419, 3) := by decide +kernel
theorem dX12_has_102 : decode cX12_has 102 = .ok (.ireturn, 1) := by decide +kernel
theorem dX12_has_103 : decode cX12_has 103 = .ok (.aload_n 0, 1) := by decide +kernel
theorem dX12_has_104 : decode cX12_has 104 = .ok (.getfield 416, 3) := by decide +kernel
theorem dX12_has_107 : decode cX12_has 107 = .ok (.ireturn, 1) := by decide +kernel
theorem dX12_has_108 : decode cX12_has 108 = .ok (.aload_n 0, 1) := by decide +kernel
theorem dX12_has_109 : decode cX12_has 109 = .ok (.invokevirtual 523, 3) := by decide +kernel
theorem dX12_has_112 : decode cX12_has 112 = .ok (.ireturn, 1) := by decide +kernel
theorem dX12_has_113 : decode cX12_has 113 = .ok (.iconst (-1), 1) := by decide +kernel
theorem dX12_has_114 : decode cX12_has 114 = .ok (.ireturn, 1) := by decide +kernel
theorem dX12_kept_0 : decode cX12_kept 0 = .ok (.iload_n 1, 1) := by decide +kernel
theorem dX12_kept_1 : decode cX12_kept 1 = .ok (.i2l, 1) := by decide +kernel
theorem dX12_kept_2 : decode cX12_kept 2 = .ok (.lconst 0, 1) := by decide +kernel
theorem dX12_kept_3 : decode cX12_kept 3 = .ok (.aload_n 0, 1) := by decide +kernel
theorem dX12_kept_4 : decode cX12_kept 4 = .ok (.getfield 121, 3) := by decide +kernel
theorem dX12_kept_7 : decode cX12_kept 7 = .ok (.sipush 785, 3) := by decide +kernel
theorem dX12_kept_10 : decode cX12_kept 10 = .ok (.iaload, 1) := by decide +kernel
theorem dX12_kept_11 : decode cX12_kept 11 = .ok (.iconst 1, 1) := by decide +kernel
theorem dX12_kept_12 : decode cX12_kept 12 = .ok (.isub, 1) := by decide +kernel
theorem dX12_kept_13 : decode cX12_kept 13 = .ok (.i2l, 1) := by decide +kernel
theorem dX12_kept_14 : decode cX12_kept 14 = .ok (.invokestatic 309, 3) := by decide +kernel
theorem dX12_kept_17 : decode cX12_kept 17 = .ok (.ifCond .eq 32, 3) := by decide +kernel
theorem dX12_kept_49 : decode cX12_kept 49 = .ok (.iconst (-1), 1) := by decide +kernel
theorem dX12_kept_50 : decode cX12_kept 50 = .ok (.ireturn, 1) := by decide +kernel
theorem dX12_key_0 : decode cX12_key 0 = .ok (.aload_n 0, 1) := by decide +kernel
theorem dX12_key_1 : decode cX12_key 1 = .ok (.iload_n 1, 1) := by decide +kernel
theorem dX12_key_2 : decode cX12_key 2 = .ok (.i2l, 1) := by decide +kernel
theorem dX12_key_3 : decode cX12_key 3 = .ok (.invokevirtual 571, 3) := by decide +kernel
theorem dX12_key_6 : decode cX12_key 6 = .ok (.ifCond .ne 5, 3) := by decide +kernel
theorem dX12_key_9 : decode cX12_key 9 = .ok (.iconst (-1), 1) := by decide +kernel
theorem dX12_key_10 : decode cX12_key 10 = .ok (.ireturn, 1) := by decide +kernel
theorem dX12_letter_0 : decode cX12_letter 0 = .ok (.iload_n 1, 1) := by decide +kernel
theorem dX12_letter_1 : decode cX12_letter 1 = .ok (.i2l, 1) := by decide +kernel
theorem dX12_letter_2 : decode cX12_letter 2 = .ok (.lconst 0, 1) := by decide +kernel
theorem dX12_letter_3 : decode cX12_letter 3 = .ok (.aload_n 0, 1) := by decide +kernel
theorem dX12_letter_4 : decode cX12_letter 4 = .ok (.getfield 102, 3) := by decide +kernel
theorem dX12_letter_7 : decode cX12_letter 7 = .ok (.bipush 7, 2) := by decide +kernel
theorem dX12_letter_9 : decode cX12_letter 9 = .ok (.iaload, 1) := by decide +kernel
theorem dX12_letter_10 : decode cX12_letter 10 = .ok (.iconst 1, 1) := by decide +kernel
theorem dX12_letter_11 : decode cX12_letter 11 = .ok (.isub, 1) := by decide +kernel
theorem dX12_letter_12 : decode cX12_letter 12 = .ok (.i2l, 1) := by decide +kernel
theorem dX12_letter_13 : decode cX12_letter 13 = .ok (.invokestatic 309, 3) := by decide +kernel
theorem dX12_letter_16 : decode cX12_letter 16 = .ok (.ifCond .eq 15, 3) := by decide +kernel
theorem dX12_letter_31 : decode cX12_letter 31 = .ok (.iconst (-1), 1) := by decide +kernel
theorem dX12_letter_32 : decode cX12_letter 32 = .ok (.ireturn, 1) := by decide +kernel
theorem dX12_lost_0 : decode cX12_lost 0 = .ok (.aload_n 0, 1) := by decide +kernel
theorem dX12_lost_1 : decode cX12_lost 1 = .ok (.iload_n 1, 1) := by decide +kernel
theorem dX12_lost_2 : decode cX12_lost 2 = .ok (.i2l, 1) := by decide +kernel
theorem dX12_lost_3 : decode cX12_lost 3 = .ok (.invokevirtual 616, 3) := by decide +kernel
theorem dX12_lost_6 : decode cX12_lost 6 = .ok (.ifCond .ne 5, 3) := by decide +kernel
theorem dX12_lost_9 : decode cX12_lost 9 = .ok (.iconst (-1), 1) := by decide +kernel
theorem dX12_lost_10 : decode cX12_lost 10 = .ok (.ireturn, 1) := by decide +kernel
theorem dX12_octet_0 : decode cX12_octet 0 = .ok (.iload_n 1, 1) := by decide +kernel
theorem dX12_octet_1 : decode cX12_octet 1 = .ok (.ifCond .lt 20, 3) := by decide +kernel
theorem dX12_octet_4 : decode cX12_octet 4 = .ok (.iload_n 1, 1) := by decide +kernel
theorem dX12_octet_5 : decode cX12_octet 5 = .ok (.aload_n 0, 1) := by decide +kernel
theorem dX12_octet_6 : decode cX12_octet 6 = .ok (.getfield 783, 3) := by decide +kernel
theorem dX12_octet_9 : decode cX12_octet 9 = .ok (.if_icmp .ge 12, 3) := by decide +kernel
theorem dX12_octet_21 : decode cX12_octet 21 = .ok (.iconst (-1), 1) := by decide +kernel
theorem dX12_octet_22 : decode cX12_octet 22 = .ok (.ireturn, 1) := by decide +kernel
theorem dX12_path_0 : decode cX12_path 0 = .ok (.aload_n 0, 1) := by decide +kernel
theorem dX12_path_1 : decode cX12_path 1 = .ok (.iload_n 1, 1) := by decide +kernel
theorem dX12_path_2 : decode cX12_path 2 = .ok (.i2l, 1) := by decide +kernel
theorem dX12_path_3 : decode cX12_path 3 = .ok (.invokevirtual 571, 3) := by decide +kernel
theorem dX12_path_6 : decode cX12_path 6 = .ok (.ifCond .eq 31, 3) := by decide +kernel
theorem dX12_path_37 : decode cX12_path 37 = .ok (.iconst (-1), 1) := by decide +kernel
theorem dX12_path_38 : decode cX12_path 38 = .ok (.ireturn, 1) := by decide +kernel
theorem dX12_read_0 : decode cX12_read 0 = .ok (.aload_n 0, 1) := by decide +kernel
theorem dX12_read_1 : decode cX12_read 1 = .ok (.iload_n 1, 1) := by decide +kernel
theorem dX12_read_2 : decode cX12_read 2 = .ok (.i2l, 1) := by decide +kernel
theorem dX12_read_3 : decode cX12_read 3 = .ok (.invokevirtual 571, 3) := by decide +kernel
theorem dX12_read_6 : decode cX12_read 6 = .ok (.ifCond .eq 12, 3) := by decide +kernel
theorem dX12_read_18 : decode cX12_read 18 = .ok (.iconst (-1), 1) := by decide +kernel
theorem dX12_read_19 : decode cX12_read 19 = .ok (.ireturn, 1) := by decide +kernel
theorem dX12_room_0 : decode cX12_room 0 = .ok (.aload_n 0, 1) := by decide +kernel
theorem dX12_room_1 : decode cX12_room 1 = .ok (.getfield 406, 3) := by decide +kernel
theorem dX12_room_4 : decode cX12_room 4 = .ok (.ifCond .eq 15, 3) := by decide +kernel
theorem dX12_room_19 : decode cX12_room 19 = .ok (.iconst (-1), 1) := by decide +kernel
theorem dX12_room_20 : decode cX12_room 20 = .ok (.ireturn, 1) := by decide +kernel
theorem dX12_shared_0 : decode cX12_shared 0 = .ok (.aload_n 0, 1) := by decide +kernel
theorem dX12_shared_1 : decode cX12_shared 1 = .ok (.iload_n 1, 1) := by decide +kernel
theorem dX12_shared_2 : decode cX12_shared 2 = .ok (.i2l, 1) := by decide +kernel
theorem dX12_shared_3 : decode cX12_shared 3 = .ok (.invokevirtual 571, 3) := by decide +kernel
theorem dX12_shared_6 : decode cX12_shared 6 = .ok (.ifCond .eq 12, 3) := by decide +kernel
theorem dX12_shared_18 : decode cX12_shared 18 = .ok (.iconst (-1), 1) := by decide +kernel
theorem dX12_shared_19 : decode cX12_shared 19 = .ok (.ireturn, 1) := by decide +kernel
theorem dX12_spread_0 : decode cX12_spread 0 = .ok (.aload_n 0, 1) := by decide +kernel
theorem dX12_spread_1 : decode cX12_spread 1 = .ok (.iload_n 1, 1) := by decide +kernel
theorem dX12_spread_2 : decode cX12_spread 2 = .ok (.i2l, 1) := by decide +kernel
theorem dX12_spread_3 : decode cX12_spread 3 = .ok (.invokevirtual 571, 3) := by decide +kernel
theorem dX12_spread_6 : decode cX12_spread 6 = .ok (.ifCond .eq 8, 3) := by decide +kernel
theorem dX12_spread_14 : decode cX12_spread 14 = .ok (.iconst (-1), 1) := by decide +kernel
theorem dX12_spread_15 : decode cX12_spread 15 = .ok (.ireturn, 1) := by decide +kernel
theorem dX12_status_0 : decode cX12_status 0 = .ok (.iload_n 1, 1) := by decide +kernel
theorem dX12_status_1 : decode cX12_status 1 = .ok (.i2l, 1) := by decide +kernel
theorem dX12_status_2 : decode cX12_status 2 = .ok (.lconst 0, 1) := by decide +kernel
theorem dX12_status_3 : decode cX12_status 3 = .ok (.ldc2_w 590, 3) := by decide +kernel
theorem dX12_status_6 : decode cX12_status 6 = .ok (.invokestatic 309, 3) := by decide +kernel
theorem dX12_status_9 : decode cX12_status 9 = .ok (.ifCond .eq 12, 3) := by decide +kernel
theorem dX12_status_12 : decode cX12_status 12 = .ok (.aload_n 0, 1) := by decide +kernel
theorem dX12_status_13 : decode cX12_status 13 = .ok (.getfield 17, 3) := by decide +kernel
theorem dX12_status_16 : decode cX12_status 16 = .ok (.iload_n 1, 1) := by decide +kernel
theorem dX12_status_17 : decode cX12_status 17 = .ok (.iaload, 1) := by decide +kernel
theorem dX12_status_18 : decode cX12_status 18 = .ok (.goto 4, 3) := by decide +kernel
theorem dX12_status_21 : decode cX12_status 21 = .ok (.iconst (-1), 1) := by decide +kernel
theorem dX12_status_22 : decode cX12_status 22 = .ok (.ireturn, 1) := by decide +kernel
theorem dX12_tells_0 : decode cX12_tells 0 = .ok (.iload_n 1, 1) := by decide +kernel
theorem dX12_tells_1 : decode cX12_tells 1 = .ok (.i2l, 1) := by decide +kernel
theorem dX12_tells_2 : decode cX12_tells 2 = .ok (.lconst 0, 1) := by decide +kernel
theorem dX12_tells_3 : decode cX12_tells 3 = .ok (.lconst 1, 1) := by decide +kernel
theorem dX12_tells_4 : decode cX12_tells 4 = .ok (.invokestatic 309, 3) := by decide +kernel
theorem dX12_tells_7 : decode cX12_tells 7 = .ok (.ifCond .eq 11, 3) := by decide +kernel
theorem dX12_tells_10 : decode cX12_tells 10 = .ok (.aload_n 0, 1) := by decide +kernel
theorem dX12_tells_11 : decode cX12_tells 11 = .ok (.iconst (-1), 1) := by decide +kernel
theorem dX12_tells_12 : decode cX12_tells 12 = .ok (.invokevirtual 647, 3) := by decide +kernel
theorem dX12_tells_15 : decode cX12_tells 15 = .ok (.ifCond .ne 5, 3) := by decide +kernel
theorem dX12_tells_18 : decode cX12_tells 18 = .ok (.iconst (-1), 1) := by decide +kernel
theorem dX12_tells_19 : decode cX12_tells 19 = .ok (.ireturn, 1) := by decide +kernel
theorem dX12_total_0 : decode cX12_total 0 = .ok (.aload_n 0, 1) := by decide +kernel
theorem dX12_total_1 : decode cX12_total 1 = .ok (.iload_n 1, 1) := by decide +kernel
theorem dX12_total_2 : decode cX12_total 2 = .ok (.i2l, 1) := by decide +kernel
theorem dX12_total_3 : decode cX12_total 3 = .ok (.invokevirtual 571, 3) := by decide +kernel
theorem dX12_total_6 : decode cX12_total 6 = .ok (.ifCond .ne 5, 3) := by decide +kernel
theorem dX12_total_9 : decode cX12_total 9 = .ok (.iconst (-1), 1) := by decide +kernel
theorem dX12_total_10 : decode cX12_total 10 = .ok (.ireturn, 1) := by decide +kernel
theorem dX12_victim_0 : decode cX12_victim 0 = .ok (.iload_n 1, 1) := by decide +kernel
theorem dX12_victim_1 : decode cX12_victim 1 = .ok (.i2l, 1) := by decide +kernel
theorem dX12_victim_2 : decode cX12_victim 2 = .ok (.lconst 0, 1) := by decide +kernel
theorem dX12_victim_3 : decode cX12_victim 3 = .ok (.lconst 1, 1) := by decide +kernel
theorem dX12_victim_4 : decode cX12_victim 4 = .ok (.invokestatic 309, 3) := by decide +kernel
theorem dX12_victim_7 : decode cX12_victim 7 = .ok (.ifCond .ne 5, 3) := by decide +kernel
theorem dX12_victim_10 : decode cX12_victim 10 = .ok (.iconst (-1), 1) := by decide +kernel
theorem dX12_victim_11 : decode cX12_victim 11 = .ok (.ireturn, 1) := by decide +kernel
theorem dX12_victim_12 : decode cX12_victim 12 = .ok (.iconst (-1), 1) := by decide +kernel
theorem dX12_victim_13 : decode cX12_victim 13 = .ok (.istore_n 2, 1) := by decide +kernel
theorem dX12_victim_14 : decode cX12_victim 14 = .ok (.iconst (-1), 1) := by decide +kernel
theorem dX12_victim_15 : decode cX12_victim 15 = .ok (.istore_n 3, 1) := by decide +kernel
theorem dX12_victim_16 : decode cX12_victim 16 = .ok (.iconst 0, 1) := by decide +kernel
theorem dX12_victim_17 : decode cX12_victim 17 = .ok (.istore 4, 2) := by decide +kernel
theorem dX12_victim_19 : decode cX12_victim 19 = .ok (.iload 4, 2) := by decide +kernel
theorem dX12_victim_21 : decode cX12_victim 21 = .ok (.bipush 8, 2) := by decide +kernel
theorem dX12_victim_23 : decode cX12_victim 23 = .ok (.if_icmp .ge 46, 3) := by decide +kernel
theorem dX12_victim_26 : decode cX12_victim 26 = .ok (.aload_n 0, 1) := by decide +kernel
theorem dX12_victim_27 : decode cX12_victim 27 = .ok (.iload 4, 2) := by decide +kernel
theorem dX12_victim_29 : decode cX12_victim 29 = .ok (.i2l, 1) := by decide +kernel
theorem dX12_victim_30 : decode cX12_victim 30 = .ok (.invokevirtual 571, 3) := by decide +kernel
theorem dX12_victim_33 : decode cX12_victim 33 = .ok (.ifCond .eq 12, 3) := by decide +kernel
theorem dX12_victim_45 : decode cX12_victim 45 = .ok (.iconst (-1), 1) := by decide +kernel
theorem dX12_victim_46 : decode cX12_victim 46 = .ok (.istore 5, 2) := by decide +kernel
theorem dX12_victim_48 : decode cX12_victim 48 = .ok (.iload 5, 2) := by decide +kernel
theorem dX12_victim_50 : decode cX12_victim 50 = .ok (.iload_n 3, 1) := by decide +kernel
theorem dX12_victim_51 : decode cX12_victim 51 = .ok (.if_icmp .gt 6, 3) := by decide +kernel
theorem dX12_victim_54 : decode cX12_victim 54 = .ok (.goto 9, 3) := by decide +kernel
theorem dX12_victim_63 : decode cX12_victim 63 = .ok (.iinc 4 1, 3) := by decide +kernel
theorem dX12_victim_66 : decode cX12_victim 66 = .ok (.goto (-47), 3) := by decide +kernel
theorem dX12_victim_69 : decode cX12_victim 69 = .ok (.iload_n 1, 1) := by decide +kernel
theorem dX12_victim_70 : decode cX12_victim 70 = .ok (.ifCond .ne 7, 3) := by decide +kernel
theorem dX12_victim_73 : decode cX12_victim 73 = .ok (.iload_n 2, 1) := by decide +kernel
theorem dX12_victim_74 : decode cX12_victim 74 = .ok (.goto 4, 3) := by decide +kernel
theorem dX12_victim_77 : decode cX12_victim 77 = .ok (.iload_n 3, 1) := by decide +kernel
theorem dX12_victim_78 : decode cX12_victim 78 = .ok (.ireturn, 1) := by decide +kernel
theorem dX12_volume_0 : decode cX12_volume 0 = .ok (.aload_n 0, 1) := by decide +kernel
theorem dX12_volume_1 : decode cX12_volume 1 = .ok (.iload_n 1, 1) := by decide +kernel
theorem dX12_volume_2 : decode cX12_volume 2 = .ok (.i2l, 1) := by decide +kernel
theorem dX12_volume_3 : decode cX12_volume 3 = .ok (.invokevirtual 571, 3) := by decide +kernel
theorem dX12_volume_6 : decode cX12_volume 6 = .ok (.ifCond .ne 5, 3) := by decide +kernel
theorem dX12_volume_9 : decode cX12_volume 9 = .ok (.iconst (-1), 1) := by decide +kernel
theorem dX12_volume_10 : decode cX12_volume 10 = .ok (.ireturn, 1) := by decide +kernel
theorem dX12_writes_0 : decode cX12_writes 0 = .ok (.aload_n 0, 1) := by decide +kernel
theorem dX12_writes_1 : decode cX12_writes 1 = .ok (.iload_n 1, 1) := by decide +kernel
theorem dX12_writes_2 : decode cX12_writes 2 = .ok (.i2l, 1) := by decide +kernel
theorem dX12_writes_3 : decode cX12_writes 3 = .ok (.invokevirtual 571, 3) := by decide +kernel
theorem dX12_writes_6 : decode cX12_writes 6 = .ok (.ifCond .eq 25, 3) := by decide +kernel
theorem dX12_writes_31 : decode cX12_writes 31 = .ok (.iconst (-1), 1) := by decide +kernel
theorem dX12_writes_32 : decode cX12_writes 32 = .ok (.ireturn, 1) := by decide +kernel
set_option maxHeartbeats 4000000 in
set_option maxRecDepth 100000 in
theorem k_X12_status (l : Launch) (D : va_G) (a : Nat → Nat) (p0 : Int32) : Met l yX12_status (wz yX12_status cX12_status 2 (some .int)) { frames := 1, cells := 0, slots := 0, locals := 60 } (va_Pc [.ref (a 200), .int p0] (zP D [((a 200), .inr (12, mO a 0 0 0 0 0 0 0 (-1) 0 0 1 0)), ((a 9), .inl (D.1 13, 6, .inl (fun _ => 0)))])) (va_Qi (fun r (_ : Unit) => (r = (-1) ∧ p0.toInt < 0) ∨ (r = (-1) ∧ 0 ≤ p0.toInt ∧ 5 < p0.toInt) ∨ (r = 0 ∧ 0 ≤ p0.toInt ∧ p0.toInt ≤ 5)) (fun _ _ => True) (fun _ => False)) 0 0 (fun _ => False) := by
  refine Met.ofW (cc := cX12_status) (maxL := 2) (ret := (some .int)) (by decide) rfl ?_
  intro p e s m args below meth c s₁ B hml hv
  obtain ⟨rfl, hP, hK⟩ := hv
  have hx := B.exec
  have hb := B.bytes
  have hr := B.returns
  have hts := atoms_spec (ws := wz yX12_status cX12_status 2 (some .int)) B.pre
  have ht : ∀ w ∈ lw_gd, w.before _ s = true := fun w h => hts w (List.mem_cons_of_mem _ h)
  have hown : s.vm.findClass RX12 = some m.cls := findClass_of_methodNamed B.named
  have hlocks := B.notSynchronized
  have hS : va_S (fun _ => False) s.heap s.heap [] := va_S.rf
  have hl := lv_entry ([.ref (a 200), .int p0]) (n := 2) (Nat.le_of_ble_eq_true rfl)
  rw [lg_entry_eq]
  generalize (lg_sl ([.ref (a 200), .int p0]) ++ List.replicate (2 - (lg_sl ([.ref (a 200), .int p0])).length) Slot.unset).toArray = ls at hl ⊢
  have hl : lv_has ls 2 [(0, .ref (a 200)), (1, .int p0)] := hl
  refine lv_iload_n hx hb dX12_status_0 rfl (lv_at hl 1 rfl) ?_
  refine lv_i2l (v := p0.toInt64) hx hb dX12_status_1 rfl ?_
  refine lv_lconst (v := 0) hx hb dX12_status_2 (by decide) ?_
  refine lv_ldc2 (own := RX12) (v := 5) hx hb hown (ht _ cl_X12_590) dX12_status_3 ?_
  refine zcS (As := [.long p0.toInt64, .long 0, .long 5]) (rest := []) (n := 3) ⟨hx, hb, hml, hown, ht⟩ (k_X12_isIn l D p0.toInt64 0 5) (zgT ml_X12_309 st_X12_isIn in_X12 co_X12_isIn) rfl rfl (by decide +kernel) ⟨Nat.le_of_ble_eq_true rfl, Nat.le_of_ble_eq_true rfl⟩ hK hP hS [] rfl rfl hl.1 rfl (Nat.le_of_ble_eq_true rfl) dX12_status_6 ⟨Nat.le_of_ble_eq_true rfl, Nat.le_of_ble_eq_true rfl⟩ (fun r_1 H locs hw hP hS => ?_)
  rcases hw with ⟨rfl, g_2⟩ | ⟨rfl, g_3, g_4⟩ | ⟨rfl, g_5, g_6⟩
  · skip
    have g_2 : p0.toInt < 0 := zt_lt (Int32.toInt_toInt64 _) (by decide) g_2
    refine lv_if_eq (tgt := 21) hx hb dX12_status_9 (by decide) (fun _ => ?_) (fun c_7 => (z_abs c_7 (by decide)).elim)
    refine lv_iconst (v := (-1)) hx hb dX12_status_21 (by decide) ?_
    exact W.iret (v := (-1)) hx hb hr (fun t ht hW => ⟨⟨(-1), (), rfl, Or.inl (⟨rfl, zu_lt rfl (by decide) g_2⟩), trivial⟩, hS.F ht⟩) hS.2.2 dX12_status_22
  · skip
    have g_3 : 0 ≤ p0.toInt := zt_ge (Int32.toInt_toInt64 _) (by decide) g_3
    have g_4 : 5 < p0.toInt := zt_gt (Int32.toInt_toInt64 _) (by decide) g_4
    refine lv_if_eq (tgt := 21) hx hb dX12_status_9 (by decide) (fun _ => ?_) (fun c_9 => (z_abs c_9 (by decide)).elim)
    refine lv_iconst (v := (-1)) hx hb dX12_status_21 (by decide) ?_
    exact W.iret (v := (-1)) hx hb hr (fun t ht hW => ⟨⟨(-1), (), rfl, Or.inr (Or.inl (⟨rfl, zu_ge rfl (by decide) g_3, zu_gt rfl (by decide) g_4⟩)), trivial⟩, hS.F ht⟩) hS.2.2 dX12_status_22
  · skip
    have g_5 : 0 ≤ p0.toInt := zt_ge (Int32.toInt_toInt64 _) (by decide) g_5
    have g_6 : p0.toInt ≤ 5 := zt_le (Int32.toInt_toInt64 _) (by decide) g_6
    refine lv_if_eq (tgt := 21) hx hb dX12_status_9 (by decide) (fun c_11 => (z_abs c_11 (by decide)).elim) (fun _ => ?_)
    refine lv_aload_n hx hb dX12_status_12 rfl (lv_at hl 0 rfl) ?_
    refine va_get (D := D) (ci := 12) (v := .ref (a 9)) (C := RX12) (T := TX12) (N := 116) hx hb ht inX12 hown hK hP 0 rfl rfl 9 (by decide) (ht (.fieldLink RX12 17 "CloneVolumesModel" "refused" "[I") fl_X12_17) (fun _ h9 => h9) rfl dX12_status_13 ?_
    refine lv_iload_n hx hb dX12_status_16 rfl (lv_at hl 1 rfl) ?_
    refine va_iald hx hb hK hP 1 0 rfl rfl (z_in (by omega) (by omega)) dX12_status_17 ?_
    refine z_topi (y := 0) (by decide) ?_
    refine lv_goto (tgt := 22) hx hb dX12_status_18 (by decide) ?_
    exact W.iret (v := 0) hx hb hr (fun t ht hW => ⟨⟨0, (), rfl, Or.inr (Or.inr (⟨rfl, zu_ge rfl (by decide) g_5, zu_le rfl (by decide) g_6⟩)), trivial⟩, hS.F ht⟩) hS.2.2 dX12_status_22
set_option maxHeartbeats 4000000 in
set_option maxRecDepth 100000 in
theorem k_X12_fault (l : Launch) (D : va_G) (a : Nat → Nat) (p0 : Int32) : Met l yX12_fault (wz yX12_fault cX12_fault 2 (some .int)) { frames := 0, cells := 0, slots := 0, locals := 0 } (va_Pc [.ref (a 200), .int p0] (zP D [((a 200), .inr (12, mO a 0 0 0 0 0 0 0 (-1) 0 0 1 0))])) (va_Qi (fun r (_ : Unit) => (r = (-1) ∧ ¬ p0.toInt = 0 ∧ ¬ p0.toInt = 1) ∨ (r = (-1) ∧ ¬ p0.toInt = 0 ∧ p0.toInt = 1) ∨ (r = 0 ∧ p0.toInt = 0)) (fun _ _ => True) (fun _ => False)) 0 0 (fun _ => False) := by
  refine Met.ofW (cc := cX12_fault) (maxL := 2) (ret := (some .int)) (by decide) rfl ?_
  intro p e s m args below meth c s₁ B hml hv
  obtain ⟨rfl, hP, hK⟩ := hv
  have hx := B.exec
  have hb := B.bytes
  have hr := B.returns
  have hts := atoms_spec (ws := wz yX12_fault cX12_fault 2 (some .int)) B.pre
  have ht : ∀ w ∈ lw_gd, w.before _ s = true := fun w h => hts w (List.mem_cons_of_mem _ h)
  have hown : s.vm.findClass RX12 = some m.cls := findClass_of_methodNamed B.named
  have hlocks := B.notSynchronized
  have hS : va_S (fun _ => False) s.heap s.heap [] := va_S.rf
  have hl := lv_entry ([.ref (a 200), .int p0]) (n := 2) (Nat.le_of_ble_eq_true rfl)
  rw [lg_entry_eq]
  generalize (lg_sl ([.ref (a 200), .int p0]) ++ List.replicate (2 - (lg_sl ([.ref (a 200), .int p0])).length) Slot.unset).toArray = ls at hl ⊢
  have hl : lv_has ls 2 [(0, .ref (a 200)), (1, .int p0)] := hl
  refine lv_iload_n hx hb dX12_fault_0 rfl (lv_at hl 1 rfl) ?_
  refine lv_if_ne (tgt := 11) hx hb dX12_fault_1 (by decide) (fun c_1 => ?_) (fun c_1 => ?_)
  · have g_2 : ¬ p0.toInt = 0 := z_ne rfl (by decide) c_1
    refine lv_iload_n hx hb dX12_fault_11 rfl (lv_at hl 1 rfl) ?_
    refine lv_iconst (v := 1) hx hb dX12_fault_12 (by decide) ?_
    refine lv_icmp_ne (tgt := 23) hx hb dX12_fault_13 (by decide) (fun c_3 => ?_) (fun c_3 => ?_)
    · have g_4 : ¬ p0.toInt = 1 := z_ne rfl (by decide) c_3
      refine lv_iconst (v := (-1)) hx hb dX12_fault_23 (by decide) ?_
      exact W.iret (v := (-1)) hx hb hr (fun t ht hW => ⟨⟨(-1), (), rfl, Or.inl (⟨rfl, zu_ne rfl (by decide) g_2, zu_ne rfl (by decide) g_4⟩), trivial⟩, hS.F ht⟩) hS.2.2 dX12_fault_24
    · have g_4 : p0.toInt = 1 := z_eq rfl (by decide) c_3
      refine lv_aload_n hx hb dX12_fault_16 rfl (lv_at hl 0 rfl) ?_
      refine va_get (D := D) (ci := 12) (v := .int (-1)) (C := RX12) (T := TX12) (N := 116) hx hb ht inX12 hown hK hP 0 rfl rfl 8 (by decide) (ht (.fieldLink RX12 13 "CloneVolumesModel" "faultPlace" "I") fl_X12_13) (fun _ h9 => h9) rfl dX12_fault_17 ?_
      refine lv_goto (tgt := 24) hx hb dX12_fault_20 (by decide) ?_
      exact W.iret (v := (-1)) hx hb hr (fun t ht hW => ⟨⟨(-1), (), rfl, Or.inr (Or.inl (⟨rfl, zu_ne rfl (by decide) g_2, zu_eq rfl (by decide) g_4⟩)), trivial⟩, hS.F ht⟩) hS.2.2 dX12_fault_24
  · have g_2 : p0.toInt = 0 := z_eq rfl (by decide) c_1
    refine lv_aload_n hx hb dX12_fault_4 rfl (lv_at hl 0 rfl) ?_
    refine va_get (D := D) (ci := 12) (v := .int 0) (C := RX12) (T := TX12) (N := 116) hx hb ht inX12 hown hK hP 0 rfl rfl 7 (by decide) (ht (.fieldLink RX12 396 "CloneVolumesModel" "fault" "I") fl_X12_396) (fun _ h9 => h9) rfl dX12_fault_5 ?_
    refine lv_goto (tgt := 24) hx hb dX12_fault_8 (by decide) ?_
    exact W.iret (v := 0) hx hb hr (fun t ht hW => ⟨⟨0, (), rfl, Or.inr (Or.inr (⟨rfl, zu_eq rfl (by decide) g_2⟩)), trivial⟩, hS.F ht⟩) hS.2.2 dX12_fault_24
set_option maxHeartbeats 4000000 in
set_option maxRecDepth 100000 in
theorem k_X12_letter (l : Launch) (D : va_G) (a : Nat → Nat) (p0 : Int32) (p1 : Int32) : Met l yX12_letter (wz yX12_letter cX12_letter 8 (some .int)) { frames := 1, cells := 0, slots := 0, locals := 60 } (va_Pc [.ref (a 200), .int p0, .int p1] (zP D [((a 200), .inr (12, mO a 0 0 0 0 0 0 0 (-1) 0 0 1 0)), ((a 39), .inl (D.1 13, 10, .inl (fun _ => 0)))])) (va_Qi (fun r (_ : Unit) => r = (-1)) (fun _ _ => True) (fun _ => False)) 0 0 (fun _ => False) := by
  refine Met.ofW (cc := cX12_letter) (maxL := 8) (ret := (some .int)) (by decide) rfl ?_
  intro p e s m args below meth c s₁ B hml hv
  obtain ⟨rfl, hP, hK⟩ := hv
  have hx := B.exec
  have hb := B.bytes
  have hr := B.returns
  have hts := atoms_spec (ws := wz yX12_letter cX12_letter 8 (some .int)) B.pre
  have ht : ∀ w ∈ lw_gd, w.before _ s = true := fun w h => hts w (List.mem_cons_of_mem _ h)
  have hown : s.vm.findClass RX12 = some m.cls := findClass_of_methodNamed B.named
  have hlocks := B.notSynchronized
  have hS : va_S (fun _ => False) s.heap s.heap [] := va_S.rf
  have hl := lv_entry ([.ref (a 200), .int p0, .int p1]) (n := 8) (Nat.le_of_ble_eq_true rfl)
  rw [lg_entry_eq]
  generalize (lg_sl ([.ref (a 200), .int p0, .int p1]) ++ List.replicate (8 - (lg_sl ([.ref (a 200), .int p0, .int p1])).length) Slot.unset).toArray = ls at hl ⊢
  have hl : lv_has ls 8 [(0, .ref (a 200)), (1, .int p0), (2, .int p1)] := hl
  refine lv_iload_n hx hb dX12_letter_0 rfl (lv_at hl 1 rfl) ?_
  refine lv_i2l (v := p0.toInt64) hx hb dX12_letter_1 rfl ?_
  refine lv_lconst (v := 0) hx hb dX12_letter_2 (by decide) ?_
  refine lv_aload_n hx hb dX12_letter_3 rfl (lv_at hl 0 rfl) ?_
  refine va_get (D := D) (ci := 12) (v := .ref (a 39)) (C := RX12) (T := TX12) (N := 116) hx hb ht inX12 hown hK hP 0 rfl rfl 39 (by decide) (ht (.fieldLink RX12 102 "CloneVolumesModel" "many" "[I") fl_X12_102) (fun _ h9 => h9) rfl dX12_letter_4 ?_
  refine lv_bipush (v := 7) hx hb dX12_letter_7 (by decide) ?_
  refine va_iald hx hb hK hP 1 0 rfl rfl (z_in (by decide) (by decide)) dX12_letter_9 ?_
  refine z_topi (y := 0) (by decide) ?_
  refine lv_iconst (v := 1) hx hb dX12_letter_10 (by decide) ?_
  refine lv_isub hx hb dX12_letter_11 ?_
  refine z_topi (y := (-1)) (by decide) ?_
  refine lv_i2l (v := (-1)) hx hb dX12_letter_12 (by decide) ?_
  refine zcS (As := [.long p0.toInt64, .long 0, .long (-1)]) (rest := []) (n := 3) ⟨hx, hb, hml, hown, ht⟩ (k_X12_isIn l D p0.toInt64 0 (-1)) (zgT ml_X12_309 st_X12_isIn in_X12 co_X12_isIn) rfl rfl (by decide +kernel) ⟨Nat.le_of_ble_eq_true rfl, Nat.le_of_ble_eq_true rfl⟩ hK hP hS [] rfl rfl hl.1 rfl (Nat.le_of_ble_eq_true rfl) dX12_letter_13 ⟨Nat.le_of_ble_eq_true rfl, Nat.le_of_ble_eq_true rfl⟩ (fun r_1 H locs hw hP hS => ?_)
  rcases hw with ⟨rfl, g_2⟩ | ⟨rfl, g_3, g_4⟩ | ⟨rfl, g_5, g_6⟩
  · skip
    have g_2 : p0.toInt < 0 := zt_lt (Int32.toInt_toInt64 _) (by decide) g_2
    refine lv_if_eq (tgt := 31) hx hb dX12_letter_16 (by decide) (fun _ => ?_) (fun c_7 => (z_abs c_7 (by decide)).elim)
    refine lv_iconst (v := (-1)) hx hb dX12_letter_31 (by decide) ?_
    exact W.iret (v := (-1)) hx hb hr (fun t ht hW => ⟨⟨(-1), (), rfl, rfl, trivial⟩, hS.F ht⟩) hS.2.2 dX12_letter_32
  · skip
    have g_3 : 0 ≤ p0.toInt := zt_ge (Int32.toInt_toInt64 _) (by decide) g_3
    have g_4 : (-1) < p0.toInt := zt_gt (Int32.toInt_toInt64 _) (by decide) g_4
    refine lv_if_eq (tgt := 31) hx hb dX12_letter_16 (by decide) (fun _ => ?_) (fun c_9 => (z_abs c_9 (by decide)).elim)
    refine lv_iconst (v := (-1)) hx hb dX12_letter_31 (by decide) ?_
    exact W.iret (v := (-1)) hx hb hr (fun t ht hW => ⟨⟨(-1), (), rfl, rfl, trivial⟩, hS.F ht⟩) hS.2.2 dX12_letter_32
  · skip
    have g_5 : 0 ≤ p0.toInt := zt_ge (Int32.toInt_toInt64 _) (by decide) g_5
    have g_6 : p0.toInt ≤ (-1) := zt_le (Int32.toInt_toInt64 _) (by decide) g_6
    exfalso; omega
set_option maxHeartbeats 4000000 in
set_option maxRecDepth 100000 in
theorem k_X12_volume (l : Launch) (D : va_G) (a : Nat → Nat) (p0 : Int32) (p1 : Int32) : Met l yX12_volume (wz yX12_volume cX12_volume 4 (some .int)) { frames := 2, cells := 0, slots := 0, locals := 120 } (va_Pc [.ref (a 200), .int p0, .int p1] (zP D [((a 200), .inr (12, mO a 0 0 0 0 0 0 0 (-1) 0 0 1 0))])) (va_Qi (fun r (_ : Unit) => r = (-1)) (fun _ _ => True) (fun _ => False)) 0 0 (fun _ => False) := by
  refine Met.ofW (cc := cX12_volume) (maxL := 4) (ret := (some .int)) (by decide) rfl ?_
  intro p e s m args below meth c s₁ B hml hv
  obtain ⟨rfl, hP, hK⟩ := hv
  have hx := B.exec
  have hb := B.bytes
  have hr := B.returns
  have hts := atoms_spec (ws := wz yX12_volume cX12_volume 4 (some .int)) B.pre
  have ht : ∀ w ∈ lw_gd, w.before _ s = true := fun w h => hts w (List.mem_cons_of_mem _ h)
  have hown : s.vm.findClass RX12 = some m.cls := findClass_of_methodNamed B.named
  have hlocks := B.notSynchronized
  have hS : va_S (fun _ => False) s.heap s.heap [] := va_S.rf
  have hl := lv_entry ([.ref (a 200), .int p0, .int p1]) (n := 4) (Nat.le_of_ble_eq_true rfl)
  rw [lg_entry_eq]
  generalize (lg_sl ([.ref (a 200), .int p0, .int p1]) ++ List.replicate (4 - (lg_sl ([.ref (a 200), .int p0, .int p1])).length) Slot.unset).toArray = ls at hl ⊢
  have hl : lv_has ls 4 [(0, .ref (a 200)), (1, .int p0), (2, .int p1)] := hl
  refine lv_aload_n hx hb dX12_volume_0 rfl (lv_at hl 0 rfl) ?_
  refine lv_iload_n hx hb dX12_volume_1 rfl (lv_at hl 1 rfl) ?_
  refine lv_i2l (v := p0.toInt64) hx hb dX12_volume_2 rfl ?_
  refine zcV (As := [.long p0.toInt64]) (rest := []) (C := RX12) (n := 1) ⟨hx, hb, hml, hown, ht⟩ (k_X12_isVolume l D a p0.toInt64) (zgV ml_X12_571 im_X12_isVolume se_X12_isVolume in_X12 co_X12_isVolume) rfl rfl (by decide +kernel) ⟨Nat.le_of_ble_eq_true rfl, Nat.le_of_ble_eq_true rfl⟩ hK hP hS [0] rfl 0 rfl rfl rfl rfl hl.1 rfl (Nat.le_of_ble_eq_true rfl) dX12_volume_3 ⟨Nat.le_of_ble_eq_true rfl, Nat.le_of_ble_eq_true rfl⟩ (fun r_1 H locs hw hP hS => ?_)
  subst hw
  refine lv_if_ne (tgt := 11) hx hb dX12_volume_6 (by decide) (fun c_2 => (z_abs c_2 (by decide)).elim) (fun _ => ?_)
  refine lv_iconst (v := (-1)) hx hb dX12_volume_9 (by decide) ?_
  exact W.iret (v := (-1)) hx hb hr (fun t ht hW => ⟨⟨(-1), (), rfl, rfl, trivial⟩, hS.F ht⟩) hS.2.2 dX12_volume_10
set_option maxHeartbeats 4000000 in
set_option maxRecDepth 100000 in
theorem k_X12_block (l : Launch) (D : va_G) (a : Nat → Nat) (p0 : Int32) (p1 : Int32) : Met l yX12_block (wz yX12_block cX12_block 3 (some .int)) { frames := 2, cells := 0, slots := 0, locals := 120 } (va_Pc [.ref (a 200), .int p0, .int p1] (zP D [((a 200), .inr (12, mO a 0 0 0 0 0 0 0 (-1) 0 0 1 0)), ((a 39), .inl (D.1 13, 10, .inl (fun _ => 0)))])) (va_Qi (fun r (_ : Unit) => r = (-1)) (fun _ _ => True) (fun _ => False)) 0 0 (fun _ => False) := by
  refine Met.ofW (cc := cX12_block) (maxL := 3) (ret := (some .int)) (by decide) rfl ?_
  intro p e s m args below meth c s₁ B hml hv
  obtain ⟨rfl, hP, hK⟩ := hv
  have hx := B.exec
  have hb := B.bytes
  have hr := B.returns
  have hts := atoms_spec (ws := wz yX12_block cX12_block 3 (some .int)) B.pre
  have ht : ∀ w ∈ lw_gd, w.before _ s = true := fun w h => hts w (List.mem_cons_of_mem _ h)
  have hown : s.vm.findClass RX12 = some m.cls := findClass_of_methodNamed B.named
  have hlocks := B.notSynchronized
  have hS : va_S (fun _ => False) s.heap s.heap [] := va_S.rf
  have hl := lv_entry ([.ref (a 200), .int p0, .int p1]) (n := 3) (Nat.le_of_ble_eq_true rfl)
  rw [lg_entry_eq]
  generalize (lg_sl ([.ref (a 200), .int p0, .int p1]) ++ List.replicate (3 - (lg_sl ([.ref (a 200), .int p0, .int p1])).length) Slot.unset).toArray = ls at hl ⊢
  have hl : lv_has ls 3 [(0, .ref (a 200)), (1, .int p0), (2, .int p1)] := hl
  refine lv_aload_n hx hb dX12_block_0 rfl (lv_at hl 0 rfl) ?_
  refine lv_iload_n hx hb dX12_block_1 rfl (lv_at hl 1 rfl) ?_
  refine lv_i2l (v := p0.toInt64) hx hb dX12_block_2 rfl ?_
  refine zcV (As := [.long p0.toInt64]) (rest := []) (C := RX12) (n := 1) ⟨hx, hb, hml, hown, ht⟩ (k_X12_isBlock l D a p0.toInt64) (zgV ml_X12_616 im_X12_isBlock se_X12_isBlock in_X12 co_X12_isBlock) rfl rfl (by decide +kernel) ⟨Nat.le_of_ble_eq_true rfl, Nat.le_of_ble_eq_true rfl⟩ hK hP hS [0, 1] rfl 0 rfl rfl rfl rfl hl.1 rfl (Nat.le_of_ble_eq_true rfl) dX12_block_3 ⟨Nat.le_of_ble_eq_true rfl, Nat.le_of_ble_eq_true rfl⟩ (fun r_1 H locs hw hP hS => ?_)
  subst hw
  refine lv_if_ne (tgt := 11) hx hb dX12_block_6 (by decide) (fun c_2 => (z_abs c_2 (by decide)).elim) (fun _ => ?_)
  refine lv_iconst (v := (-1)) hx hb dX12_block_9 (by decide) ?_
  exact W.iret (v := (-1)) hx hb hr (fun t ht hW => ⟨⟨(-1), (), rfl, rfl, trivial⟩, hS.F ht⟩) hS.2.2 dX12_block_10
set_option maxHeartbeats 4000000 in
set_option maxRecDepth 100000 in
theorem k_X12_entry (l : Launch) (D : va_G) (a : Nat → Nat) (p0 : Int32) (p1 : Int32) (p2 : Int32) : Met l yX12_entry (wz yX12_entry cX12_entry 4 (some .int)) { frames := 2, cells := 0, slots := 0, locals := 120 } (va_Pc [.ref (a 200), .int p0, .int p1, .int p2] (zP D [((a 200), .inr (12, mO a 0 0 0 0 0 0 0 (-1) 0 0 1 0)), ((a 39), .inl (D.1 13, 10, .inl (fun _ => 0)))])) (va_Qi (fun r (_ : Unit) => r = (-1)) (fun _ _ => True) (fun _ => False)) 0 0 (fun _ => False) := by
  refine Met.ofW (cc := cX12_entry) (maxL := 4) (ret := (some .int)) (by decide) rfl ?_
  intro p e s m args below meth c s₁ B hml hv
  obtain ⟨rfl, hP, hK⟩ := hv
  have hx := B.exec
  have hb := B.bytes
  have hr := B.returns
  have hts := atoms_spec (ws := wz yX12_entry cX12_entry 4 (some .int)) B.pre
  have ht : ∀ w ∈ lw_gd, w.before _ s = true := fun w h => hts w (List.mem_cons_of_mem _ h)
  have hown : s.vm.findClass RX12 = some m.cls := findClass_of_methodNamed B.named
  have hlocks := B.notSynchronized
  have hS : va_S (fun _ => False) s.heap s.heap [] := va_S.rf
  have hl := lv_entry ([.ref (a 200), .int p0, .int p1, .int p2]) (n := 4) (Nat.le_of_ble_eq_true rfl)
  rw [lg_entry_eq]
  generalize (lg_sl ([.ref (a 200), .int p0, .int p1, .int p2]) ++ List.replicate (4 - (lg_sl ([.ref (a 200), .int p0, .int p1, .int p2])).length) Slot.unset).toArray = ls at hl ⊢
  have hl : lv_has ls 4 [(0, .ref (a 200)), (1, .int p0), (2, .int p1), (3, .int p2)] := hl
  refine lv_aload_n hx hb dX12_entry_0 rfl (lv_at hl 0 rfl) ?_
  refine lv_iload_n hx hb dX12_entry_1 rfl (lv_at hl 1 rfl) ?_
  refine lv_i2l (v := p0.toInt64) hx hb dX12_entry_2 rfl ?_
  refine zcV (As := [.long p0.toInt64]) (rest := []) (C := RX12) (n := 1) ⟨hx, hb, hml, hown, ht⟩ (k_X12_isBlock l D a p0.toInt64) (zgV ml_X12_616 im_X12_isBlock se_X12_isBlock in_X12 co_X12_isBlock) rfl rfl (by decide +kernel) ⟨Nat.le_of_ble_eq_true rfl, Nat.le_of_ble_eq_true rfl⟩ hK hP hS [0, 1] rfl 0 rfl rfl rfl rfl hl.1 rfl (Nat.le_of_ble_eq_true rfl) dX12_entry_3 ⟨Nat.le_of_ble_eq_true rfl, Nat.le_of_ble_eq_true rfl⟩ (fun r_1 H locs hw hP hS => ?_)
  subst hw
  refine lv_if_eq (tgt := 44) hx hb dX12_entry_6 (by decide) (fun _ => ?_) (fun c_2 => (z_abs c_2 (by decide)).elim)
  refine lv_iconst (v := (-1)) hx hb dX12_entry_44 (by decide) ?_
  exact W.iret (v := (-1)) hx hb hr (fun t ht hW => ⟨⟨(-1), (), rfl, rfl, trivial⟩, hS.F ht⟩) hS.2.2 dX12_entry_45
set_option maxHeartbeats 4000000 in
set_option maxRecDepth 100000 in
theorem k_X12_kept (l : Launch) (D : va_G) (a : Nat → Nat) (p0 : Int32) (p1 : Int32) : Met l yX12_kept (wz yX12_kept cX12_kept 3 (some .int)) { frames := 1, cells := 0, slots := 0, locals := 60 } (va_Pc [.ref (a 200), .int p0, .int p1] (zP D [((a 200), .inr (12, mO a 0 0 0 0 0 0 0 (-1) 0 0 1 0)), ((a 49), .inl (D.1 13, 906, .inl (fun _ => 0)))])) (va_Qi (fun r (_ : Unit) => r = (-1)) (fun _ _ => True) (fun _ => False)) 0 0 (fun _ => False) := by
  refine Met.ofW (cc := cX12_kept) (maxL := 3) (ret := (some .int)) (by decide) rfl ?_
  intro p e s m args below meth c s₁ B hml hv
  obtain ⟨rfl, hP, hK⟩ := hv
  have hx := B.exec
  have hb := B.bytes
  have hr := B.returns
  have hts := atoms_spec (ws := wz yX12_kept cX12_kept 3 (some .int)) B.pre
  have ht : ∀ w ∈ lw_gd, w.before _ s = true := fun w h => hts w (List.mem_cons_of_mem _ h)
  have hown : s.vm.findClass RX12 = some m.cls := findClass_of_methodNamed B.named
  have hlocks := B.notSynchronized
  have hS : va_S (fun _ => False) s.heap s.heap [] := va_S.rf
  have hl := lv_entry ([.ref (a 200), .int p0, .int p1]) (n := 3) (Nat.le_of_ble_eq_true rfl)
  rw [lg_entry_eq]
  generalize (lg_sl ([.ref (a 200), .int p0, .int p1]) ++ List.replicate (3 - (lg_sl ([.ref (a 200), .int p0, .int p1])).length) Slot.unset).toArray = ls at hl ⊢
  have hl : lv_has ls 3 [(0, .ref (a 200)), (1, .int p0), (2, .int p1)] := hl
  refine lv_iload_n hx hb dX12_kept_0 rfl (lv_at hl 1 rfl) ?_
  refine lv_i2l (v := p0.toInt64) hx hb dX12_kept_1 rfl ?_
  refine lv_lconst (v := 0) hx hb dX12_kept_2 (by decide) ?_
  refine lv_aload_n hx hb dX12_kept_3 rfl (lv_at hl 0 rfl) ?_
  refine va_get (D := D) (ci := 12) (v := .ref (a 49)) (C := RX12) (T := TX12) (N := 116) hx hb ht inX12 hown hK hP 0 rfl rfl 49 (by decide) (ht (.fieldLink RX12 121 "CloneVolumesModel" "now" "[I") fl_X12_121) (fun _ h9 => h9) rfl dX12_kept_4 ?_
  refine lv_sipush (v := 785) hx hb dX12_kept_7 (by decide) ?_
  refine va_iald hx hb hK hP 1 0 rfl rfl (z_in (by decide) (by decide)) dX12_kept_10 ?_
  refine z_topi (y := 0) (by decide) ?_
  refine lv_iconst (v := 1) hx hb dX12_kept_11 (by decide) ?_
  refine lv_isub hx hb dX12_kept_12 ?_
  refine z_topi (y := (-1)) (by decide) ?_
  refine lv_i2l (v := (-1)) hx hb dX12_kept_13 (by decide) ?_
  refine zcS (As := [.long p0.toInt64, .long 0, .long (-1)]) (rest := []) (n := 3) ⟨hx, hb, hml, hown, ht⟩ (k_X12_isIn l D p0.toInt64 0 (-1)) (zgT ml_X12_309 st_X12_isIn in_X12 co_X12_isIn) rfl rfl (by decide +kernel) ⟨Nat.le_of_ble_eq_true rfl, Nat.le_of_ble_eq_true rfl⟩ hK hP hS [] rfl rfl hl.1 rfl (Nat.le_of_ble_eq_true rfl) dX12_kept_14 ⟨Nat.le_of_ble_eq_true rfl, Nat.le_of_ble_eq_true rfl⟩ (fun r_1 H locs hw hP hS => ?_)
  rcases hw with ⟨rfl, g_2⟩ | ⟨rfl, g_3, g_4⟩ | ⟨rfl, g_5, g_6⟩
  · skip
    have g_2 : p0.toInt < 0 := zt_lt (Int32.toInt_toInt64 _) (by decide) g_2
    refine lv_if_eq (tgt := 49) hx hb dX12_kept_17 (by decide) (fun _ => ?_) (fun c_7 => (z_abs c_7 (by decide)).elim)
    refine lv_iconst (v := (-1)) hx hb dX12_kept_49 (by decide) ?_
    exact W.iret (v := (-1)) hx hb hr (fun t ht hW => ⟨⟨(-1), (), rfl, rfl, trivial⟩, hS.F ht⟩) hS.2.2 dX12_kept_50
  · skip
    have g_3 : 0 ≤ p0.toInt := zt_ge (Int32.toInt_toInt64 _) (by decide) g_3
    have g_4 : (-1) < p0.toInt := zt_gt (Int32.toInt_toInt64 _) (by decide) g_4
    refine lv_if_eq (tgt := 49) hx hb dX12_kept_17 (by decide) (fun _ => ?_) (fun c_9 => (z_abs c_9 (by decide)).elim)
    refine lv_iconst (v := (-1)) hx hb dX12_kept_49 (by decide) ?_
    exact W.iret (v := (-1)) hx hb hr (fun t ht hW => ⟨⟨(-1), (), rfl, rfl, trivial⟩, hS.F ht⟩) hS.2.2 dX12_kept_50
  · skip
    have g_5 : 0 ≤ p0.toInt := zt_ge (Int32.toInt_toInt64 _) (by decide) g_5
    have g_6 : p0.toInt ≤ (-1) := zt_le (Int32.toInt_toInt64 _) (by decide) g_6
    exfalso; omega
set_option maxHeartbeats 4000000 in
set_option maxRecDepth 100000 in
theorem k_X12_read (l : Launch) (D : va_G) (a : Nat → Nat) (p0 : Int32) (p1 : Int32) : Met l yX12_read (wz yX12_read cX12_read 3 (some .int)) { frames := 2, cells := 0, slots := 0, locals := 120 } (va_Pc [.ref (a 200), .int p0, .int p1] (zP D [((a 200), .inr (12, mO a 0 0 0 0 0 0 0 (-1) 0 0 1 0))])) (va_Qi (fun r (_ : Unit) => r = (-1)) (fun _ _ => True) (fun _ => False)) 0 0 (fun _ => False) := by
  refine Met.ofW (cc := cX12_read) (maxL := 3) (ret := (some .int)) (by decide) rfl ?_
  intro p e s m args below meth c s₁ B hml hv
  obtain ⟨rfl, hP, hK⟩ := hv
  have hx := B.exec
  have hb := B.bytes
  have hr := B.returns
  have hts := atoms_spec (ws := wz yX12_read cX12_read 3 (some .int)) B.pre
  have ht : ∀ w ∈ lw_gd, w.before _ s = true := fun w h => hts w (List.mem_cons_of_mem _ h)
  have hown : s.vm.findClass RX12 = some m.cls := findClass_of_methodNamed B.named
  have hlocks := B.notSynchronized
  have hS : va_S (fun _ => False) s.heap s.heap [] := va_S.rf
  have hl := lv_entry ([.ref (a 200), .int p0, .int p1]) (n := 3) (Nat.le_of_ble_eq_true rfl)
  rw [lg_entry_eq]
  generalize (lg_sl ([.ref (a 200), .int p0, .int p1]) ++ List.replicate (3 - (lg_sl ([.ref (a 200), .int p0, .int p1])).length) Slot.unset).toArray = ls at hl ⊢
  have hl : lv_has ls 3 [(0, .ref (a 200)), (1, .int p0), (2, .int p1)] := hl
  refine lv_aload_n hx hb dX12_read_0 rfl (lv_at hl 0 rfl) ?_
  refine lv_iload_n hx hb dX12_read_1 rfl (lv_at hl 1 rfl) ?_
  refine lv_i2l (v := p0.toInt64) hx hb dX12_read_2 rfl ?_
  refine zcV (As := [.long p0.toInt64]) (rest := []) (C := RX12) (n := 1) ⟨hx, hb, hml, hown, ht⟩ (k_X12_isVolume l D a p0.toInt64) (zgV ml_X12_571 im_X12_isVolume se_X12_isVolume in_X12 co_X12_isVolume) rfl rfl (by decide +kernel) ⟨Nat.le_of_ble_eq_true rfl, Nat.le_of_ble_eq_true rfl⟩ hK hP hS [0] rfl 0 rfl rfl rfl rfl hl.1 rfl (Nat.le_of_ble_eq_true rfl) dX12_read_3 ⟨Nat.le_of_ble_eq_true rfl, Nat.le_of_ble_eq_true rfl⟩ (fun r_1 H locs hw hP hS => ?_)
  subst hw
  refine lv_if_eq (tgt := 18) hx hb dX12_read_6 (by decide) (fun _ => ?_) (fun c_2 => (z_abs c_2 (by decide)).elim)
  refine lv_iconst (v := (-1)) hx hb dX12_read_18 (by decide) ?_
  exact W.iret (v := (-1)) hx hb hr (fun t ht hW => ⟨⟨(-1), (), rfl, rfl, trivial⟩, hS.F ht⟩) hS.2.2 dX12_read_19
set_option maxHeartbeats 4000000 in
set_option maxRecDepth 100000 in
theorem k_X12_key (l : Launch) (D : va_G) (a : Nat → Nat) (p0 : Int32) (p1 : Int32) : Met l yX12_key (wz yX12_key cX12_key 3 (some .int)) { frames := 2, cells := 0, slots := 0, locals := 120 } (va_Pc [.ref (a 200), .int p0, .int p1] (zP D [((a 200), .inr (12, mO a 0 0 0 0 0 0 0 (-1) 0 0 1 0))])) (va_Qi (fun r (_ : Unit) => r = (-1)) (fun _ _ => True) (fun _ => False)) 0 0 (fun _ => False) := by
  refine Met.ofW (cc := cX12_key) (maxL := 3) (ret := (some .int)) (by decide) rfl ?_
  intro p e s m args below meth c s₁ B hml hv
  obtain ⟨rfl, hP, hK⟩ := hv
  have hx := B.exec
  have hb := B.bytes
  have hr := B.returns
  have hts := atoms_spec (ws := wz yX12_key cX12_key 3 (some .int)) B.pre
  have ht : ∀ w ∈ lw_gd, w.before _ s = true := fun w h => hts w (List.mem_cons_of_mem _ h)
  have hown : s.vm.findClass RX12 = some m.cls := findClass_of_methodNamed B.named
  have hlocks := B.notSynchronized
  have hS : va_S (fun _ => False) s.heap s.heap [] := va_S.rf
  have hl := lv_entry ([.ref (a 200), .int p0, .int p1]) (n := 3) (Nat.le_of_ble_eq_true rfl)
  rw [lg_entry_eq]
  generalize (lg_sl ([.ref (a 200), .int p0, .int p1]) ++ List.replicate (3 - (lg_sl ([.ref (a 200), .int p0, .int p1])).length) Slot.unset).toArray = ls at hl ⊢
  have hl : lv_has ls 3 [(0, .ref (a 200)), (1, .int p0), (2, .int p1)] := hl
  refine lv_aload_n hx hb dX12_key_0 rfl (lv_at hl 0 rfl) ?_
  refine lv_iload_n hx hb dX12_key_1 rfl (lv_at hl 1 rfl) ?_
  refine lv_i2l (v := p0.toInt64) hx hb dX12_key_2 rfl ?_
  refine zcV (As := [.long p0.toInt64]) (rest := []) (C := RX12) (n := 1) ⟨hx, hb, hml, hown, ht⟩ (k_X12_isVolume l D a p0.toInt64) (zgV ml_X12_571 im_X12_isVolume se_X12_isVolume in_X12 co_X12_isVolume) rfl rfl (by decide +kernel) ⟨Nat.le_of_ble_eq_true rfl, Nat.le_of_ble_eq_true rfl⟩ hK hP hS [0] rfl 0 rfl rfl rfl rfl hl.1 rfl (Nat.le_of_ble_eq_true rfl) dX12_key_3 ⟨Nat.le_of_ble_eq_true rfl, Nat.le_of_ble_eq_true rfl⟩ (fun r_1 H locs hw hP hS => ?_)
  subst hw
  refine lv_if_ne (tgt := 11) hx hb dX12_key_6 (by decide) (fun c_2 => (z_abs c_2 (by decide)).elim) (fun _ => ?_)
  refine lv_iconst (v := (-1)) hx hb dX12_key_9 (by decide) ?_
  exact W.iret (v := (-1)) hx hb hr (fun t ht hW => ⟨⟨(-1), (), rfl, rfl, trivial⟩, hS.F ht⟩) hS.2.2 dX12_key_10
set_option maxHeartbeats 4000000 in
set_option maxRecDepth 100000 in
theorem k_X12_total (l : Launch) (D : va_G) (a : Nat → Nat) (p0 : Int32) (p1 : Int32) (p2 : Int32) : Met l yX12_total (wz yX12_total cX12_total 6 (some .int)) { frames := 2, cells := 0, slots := 0, locals := 120 } (va_Pc [.ref (a 200), .int p0, .int p1, .int p2] (zP D [((a 200), .inr (12, mO a 0 0 0 0 0 0 0 (-1) 0 0 1 0))])) (va_Qi (fun r (_ : Unit) => r = (-1)) (fun _ _ => True) (fun _ => False)) 0 0 (fun _ => False) := by
  refine Met.ofW (cc := cX12_total) (maxL := 6) (ret := (some .int)) (by decide) rfl ?_
  intro p e s m args below meth c s₁ B hml hv
  obtain ⟨rfl, hP, hK⟩ := hv
  have hx := B.exec
  have hb := B.bytes
  have hr := B.returns
  have hts := atoms_spec (ws := wz yX12_total cX12_total 6 (some .int)) B.pre
  have ht : ∀ w ∈ lw_gd, w.before _ s = true := fun w h => hts w (List.mem_cons_of_mem _ h)
  have hown : s.vm.findClass RX12 = some m.cls := findClass_of_methodNamed B.named
  have hlocks := B.notSynchronized
  have hS : va_S (fun _ => False) s.heap s.heap [] := va_S.rf
  have hl := lv_entry ([.ref (a 200), .int p0, .int p1, .int p2]) (n := 6) (Nat.le_of_ble_eq_true rfl)
  rw [lg_entry_eq]
  generalize (lg_sl ([.ref (a 200), .int p0, .int p1, .int p2]) ++ List.replicate (6 - (lg_sl ([.ref (a 200), .int p0, .int p1, .int p2])).length) Slot.unset).toArray = ls at hl ⊢
  have hl : lv_has ls 6 [(0, .ref (a 200)), (1, .int p0), (2, .int p1), (3, .int p2)] := hl
  refine lv_aload_n hx hb dX12_total_0 rfl (lv_at hl 0 rfl) ?_
  refine lv_iload_n hx hb dX12_total_1 rfl (lv_at hl 1 rfl) ?_
  refine lv_i2l (v := p0.toInt64) hx hb dX12_total_2 rfl ?_
  refine zcV (As := [.long p0.toInt64]) (rest := []) (C := RX12) (n := 1) ⟨hx, hb, hml, hown, ht⟩ (k_X12_isVolume l D a p0.toInt64) (zgV ml_X12_571 im_X12_isVolume se_X12_isVolume in_X12 co_X12_isVolume) rfl rfl (by decide +kernel) ⟨Nat.le_of_ble_eq_true rfl, Nat.le_of_ble_eq_true rfl⟩ hK hP hS [0] rfl 0 rfl rfl rfl rfl hl.1 rfl (Nat.le_of_ble_eq_true rfl) dX12_total_3 ⟨Nat.le_of_ble_eq_true rfl, Nat.le_of_ble_eq_true rfl⟩ (fun r_1 H locs hw hP hS => ?_)
  subst hw
  refine lv_if_ne (tgt := 11) hx hb dX12_total_6 (by decide) (fun c_2 => (z_abs c_2 (by decide)).elim) (fun _ => ?_)
  refine lv_iconst (v := (-1)) hx hb dX12_total_9 (by decide) ?_
  exact W.iret (v := (-1)) hx hb hr (fun t ht hW => ⟨⟨(-1), (), rfl, rfl, trivial⟩, hS.F ht⟩) hS.2.2 dX12_total_10
set_option maxHeartbeats 4000000 in
set_option maxRecDepth 100000 in
theorem k_X12_path (l : Launch) (D : va_G) (a : Nat → Nat) (p0 : Int32) (p1 : Int32) (p2 : Int32) : Met l yX12_path (wz yX12_path cX12_path 6 (some .int)) { frames := 2, cells := 0, slots := 0, locals := 120 } (va_Pc [.ref (a 200), .int p0, .int p1, .int p2] (zP D [((a 200), .inr (12, mO a 0 0 0 0 0 0 0 (-1) 0 0 1 0))])) (va_Qi (fun r (_ : Unit) => r = (-1)) (fun _ _ => True) (fun _ => False)) 0 0 (fun _ => False) := by
  refine Met.ofW (cc := cX12_path) (maxL := 6) (ret := (some .int)) (by decide) rfl ?_
  intro p e s m args below meth c s₁ B hml hv
  obtain ⟨rfl, hP, hK⟩ := hv
  have hx := B.exec
  have hb := B.bytes
  have hr := B.returns
  have hts := atoms_spec (ws := wz yX12_path cX12_path 6 (some .int)) B.pre
  have ht : ∀ w ∈ lw_gd, w.before _ s = true := fun w h => hts w (List.mem_cons_of_mem _ h)
  have hown : s.vm.findClass RX12 = some m.cls := findClass_of_methodNamed B.named
  have hlocks := B.notSynchronized
  have hS : va_S (fun _ => False) s.heap s.heap [] := va_S.rf
  have hl := lv_entry ([.ref (a 200), .int p0, .int p1, .int p2]) (n := 6) (Nat.le_of_ble_eq_true rfl)
  rw [lg_entry_eq]
  generalize (lg_sl ([.ref (a 200), .int p0, .int p1, .int p2]) ++ List.replicate (6 - (lg_sl ([.ref (a 200), .int p0, .int p1, .int p2])).length) Slot.unset).toArray = ls at hl ⊢
  have hl : lv_has ls 6 [(0, .ref (a 200)), (1, .int p0), (2, .int p1), (3, .int p2)] := hl
  refine lv_aload_n hx hb dX12_path_0 rfl (lv_at hl 0 rfl) ?_
  refine lv_iload_n hx hb dX12_path_1 rfl (lv_at hl 1 rfl) ?_
  refine lv_i2l (v := p0.toInt64) hx hb dX12_path_2 rfl ?_
  refine zcV (As := [.long p0.toInt64]) (rest := []) (C := RX12) (n := 1) ⟨hx, hb, hml, hown, ht⟩ (k_X12_isVolume l D a p0.toInt64) (zgV ml_X12_571 im_X12_isVolume se_X12_isVolume in_X12 co_X12_isVolume) rfl rfl (by decide +kernel) ⟨Nat.le_of_ble_eq_true rfl, Nat.le_of_ble_eq_true rfl⟩ hK hP hS [0] rfl 0 rfl rfl rfl rfl hl.1 rfl (Nat.le_of_ble_eq_true rfl) dX12_path_3 ⟨Nat.le_of_ble_eq_true rfl, Nat.le_of_ble_eq_true rfl⟩ (fun r_1 H locs hw hP hS => ?_)
  subst hw
  refine lv_if_eq (tgt := 37) hx hb dX12_path_6 (by decide) (fun _ => ?_) (fun c_2 => (z_abs c_2 (by decide)).elim)
  refine lv_iconst (v := (-1)) hx hb dX12_path_37 (by decide) ?_
  exact W.iret (v := (-1)) hx hb hr (fun t ht hW => ⟨⟨(-1), (), rfl, rfl, trivial⟩, hS.F ht⟩) hS.2.2 dX12_path_38
set_option maxHeartbeats 4000000 in
set_option maxRecDepth 100000 in
theorem k_X12_shared (l : Launch) (D : va_G) (a : Nat → Nat) (p0 : Int32) (p1 : Int32) : Met l yX12_shared (wz yX12_shared cX12_shared 5 (some .int)) { frames := 2, cells := 0, slots := 0, locals := 120 } (va_Pc [.ref (a 200), .int p0, .int p1] (zP D [((a 200), .inr (12, mO a 0 0 0 0 0 0 0 (-1) 0 0 1 0))])) (va_Qi (fun r (_ : Unit) => r = (-1)) (fun _ _ => True) (fun _ => False)) 0 0 (fun _ => False) := by
  refine Met.ofW (cc := cX12_shared) (maxL := 5) (ret := (some .int)) (by decide) rfl ?_
  intro p e s m args below meth c s₁ B hml hv
  obtain ⟨rfl, hP, hK⟩ := hv
  have hx := B.exec
  have hb := B.bytes
  have hr := B.returns
  have hts := atoms_spec (ws := wz yX12_shared cX12_shared 5 (some .int)) B.pre
  have ht : ∀ w ∈ lw_gd, w.before _ s = true := fun w h => hts w (List.mem_cons_of_mem _ h)
  have hown : s.vm.findClass RX12 = some m.cls := findClass_of_methodNamed B.named
  have hlocks := B.notSynchronized
  have hS : va_S (fun _ => False) s.heap s.heap [] := va_S.rf
  have hl := lv_entry ([.ref (a 200), .int p0, .int p1]) (n := 5) (Nat.le_of_ble_eq_true rfl)
  rw [lg_entry_eq]
  generalize (lg_sl ([.ref (a 200), .int p0, .int p1]) ++ List.replicate (5 - (lg_sl ([.ref (a 200), .int p0, .int p1])).length) Slot.unset).toArray = ls at hl ⊢
  have hl : lv_has ls 5 [(0, .ref (a 200)), (1, .int p0), (2, .int p1)] := hl
  refine lv_aload_n hx hb dX12_shared_0 rfl (lv_at hl 0 rfl) ?_
  refine lv_iload_n hx hb dX12_shared_1 rfl (lv_at hl 1 rfl) ?_
  refine lv_i2l (v := p0.toInt64) hx hb dX12_shared_2 rfl ?_
  refine zcV (As := [.long p0.toInt64]) (rest := []) (C := RX12) (n := 1) ⟨hx, hb, hml, hown, ht⟩ (k_X12_isVolume l D a p0.toInt64) (zgV ml_X12_571 im_X12_isVolume se_X12_isVolume in_X12 co_X12_isVolume) rfl rfl (by decide +kernel) ⟨Nat.le_of_ble_eq_true rfl, Nat.le_of_ble_eq_true rfl⟩ hK hP hS [0] rfl 0 rfl rfl rfl rfl hl.1 rfl (Nat.le_of_ble_eq_true rfl) dX12_shared_3 ⟨Nat.le_of_ble_eq_true rfl, Nat.le_of_ble_eq_true rfl⟩ (fun r_1 H locs hw hP hS => ?_)
  subst hw
  refine lv_if_eq (tgt := 18) hx hb dX12_shared_6 (by decide) (fun _ => ?_) (fun c_2 => (z_abs c_2 (by decide)).elim)
  refine lv_iconst (v := (-1)) hx hb dX12_shared_18 (by decide) ?_
  exact W.iret (v := (-1)) hx hb hr (fun t ht hW => ⟨⟨(-1), (), rfl, rfl, trivial⟩, hS.F ht⟩) hS.2.2 dX12_shared_19
set_option maxHeartbeats 4000000 in
set_option maxRecDepth 100000 in
theorem k_X12_differs (l : Launch) (D : va_G) (a : Nat → Nat) (p0 : Int32) (p1 : Int32) (p2 : Int32) : Met l yX12_differs (wz yX12_differs cX12_differs 4 (some .int)) { frames := 2, cells := 0, slots := 0, locals := 120 } (va_Pc [.ref (a 200), .int p0, .int p1, .int p2] (zP D [((a 200), .inr (12, mO a 0 0 0 0 0 0 0 (-1) 0 0 1 0))])) (va_Qi (fun r (_ : Unit) => r = (-1)) (fun _ _ => True) (fun _ => False)) 0 0 (fun _ => False) := by
  refine Met.ofW (cc := cX12_differs) (maxL := 4) (ret := (some .int)) (by decide) rfl ?_
  intro p e s m args below meth c s₁ B hml hv
  obtain ⟨rfl, hP, hK⟩ := hv
  have hx := B.exec
  have hb := B.bytes
  have hr := B.returns
  have hts := atoms_spec (ws := wz yX12_differs cX12_differs 4 (some .int)) B.pre
  have ht : ∀ w ∈ lw_gd, w.before _ s = true := fun w h => hts w (List.mem_cons_of_mem _ h)
  have hown : s.vm.findClass RX12 = some m.cls := findClass_of_methodNamed B.named
  have hlocks := B.notSynchronized
  have hS : va_S (fun _ => False) s.heap s.heap [] := va_S.rf
  have hl := lv_entry ([.ref (a 200), .int p0, .int p1, .int p2]) (n := 4) (Nat.le_of_ble_eq_true rfl)
  rw [lg_entry_eq]
  generalize (lg_sl ([.ref (a 200), .int p0, .int p1, .int p2]) ++ List.replicate (4 - (lg_sl ([.ref (a 200), .int p0, .int p1, .int p2])).length) Slot.unset).toArray = ls at hl ⊢
  have hl : lv_has ls 4 [(0, .ref (a 200)), (1, .int p0), (2, .int p1), (3, .int p2)] := hl
  refine lv_aload_n hx hb dX12_differs_0 rfl (lv_at hl 0 rfl) ?_
  refine lv_iload_n hx hb dX12_differs_1 rfl (lv_at hl 1 rfl) ?_
  refine lv_i2l (v := p0.toInt64) hx hb dX12_differs_2 rfl ?_
  refine zcV (As := [.long p0.toInt64]) (rest := []) (C := RX12) (n := 1) ⟨hx, hb, hml, hown, ht⟩ (k_X12_isVolume l D a p0.toInt64) (zgV ml_X12_571 im_X12_isVolume se_X12_isVolume in_X12 co_X12_isVolume) rfl rfl (by decide +kernel) ⟨Nat.le_of_ble_eq_true rfl, Nat.le_of_ble_eq_true rfl⟩ hK hP hS [0] rfl 0 rfl rfl rfl rfl hl.1 rfl (Nat.le_of_ble_eq_true rfl) dX12_differs_3 ⟨Nat.le_of_ble_eq_true rfl, Nat.le_of_ble_eq_true rfl⟩ (fun r_1 H locs hw hP hS => ?_)
  subst hw
  refine lv_if_eq (tgt := 43) hx hb dX12_differs_6 (by decide) (fun _ => ?_) (fun c_2 => (z_abs c_2 (by decide)).elim)
  refine lv_iconst (v := (-1)) hx hb dX12_differs_43 (by decide) ?_
  exact W.iret (v := (-1)) hx hb hr (fun t ht hW => ⟨⟨(-1), (), rfl, rfl, trivial⟩, hS.F ht⟩) hS.2.2 dX12_differs_44
set_option maxHeartbeats 4000000 in
set_option maxRecDepth 100000 in
theorem k_X12_writes (l : Launch) (D : va_G) (a : Nat → Nat) (p0 : Int32) (p1 : Int32) (p2 : Int32) : Met l yX12_writes (wz yX12_writes cX12_writes 4 (some .int)) { frames := 2, cells := 0, slots := 0, locals := 120 } (va_Pc [.ref (a 200), .int p0, .int p1, .int p2] (zP D [((a 200), .inr (12, mO a 0 0 0 0 0 0 0 (-1) 0 0 1 0))])) (va_Qi (fun r (_ : Unit) => r = (-1)) (fun _ _ => True) (fun _ => False)) 0 0 (fun _ => False) := by
  refine Met.ofW (cc := cX12_writes) (maxL := 4) (ret := (some .int)) (by decide) rfl ?_
  intro p e s m args below meth c s₁ B hml hv
  obtain ⟨rfl, hP, hK⟩ := hv
  have hx := B.exec
  have hb := B.bytes
  have hr := B.returns
  have hts := atoms_spec (ws := wz yX12_writes cX12_writes 4 (some .int)) B.pre
  have ht : ∀ w ∈ lw_gd, w.before _ s = true := fun w h => hts w (List.mem_cons_of_mem _ h)
  have hown : s.vm.findClass RX12 = some m.cls := findClass_of_methodNamed B.named
  have hlocks := B.notSynchronized
  have hS : va_S (fun _ => False) s.heap s.heap [] := va_S.rf
  have hl := lv_entry ([.ref (a 200), .int p0, .int p1, .int p2]) (n := 4) (Nat.le_of_ble_eq_true rfl)
  rw [lg_entry_eq]
  generalize (lg_sl ([.ref (a 200), .int p0, .int p1, .int p2]) ++ List.replicate (4 - (lg_sl ([.ref (a 200), .int p0, .int p1, .int p2])).length) Slot.unset).toArray = ls at hl ⊢
  have hl : lv_has ls 4 [(0, .ref (a 200)), (1, .int p0), (2, .int p1), (3, .int p2)] := hl
  refine lv_aload_n hx hb dX12_writes_0 rfl (lv_at hl 0 rfl) ?_
  refine lv_iload_n hx hb dX12_writes_1 rfl (lv_at hl 1 rfl) ?_
  refine lv_i2l (v := p0.toInt64) hx hb dX12_writes_2 rfl ?_
  refine zcV (As := [.long p0.toInt64]) (rest := []) (C := RX12) (n := 1) ⟨hx, hb, hml, hown, ht⟩ (k_X12_isVolume l D a p0.toInt64) (zgV ml_X12_571 im_X12_isVolume se_X12_isVolume in_X12 co_X12_isVolume) rfl rfl (by decide +kernel) ⟨Nat.le_of_ble_eq_true rfl, Nat.le_of_ble_eq_true rfl⟩ hK hP hS [0] rfl 0 rfl rfl rfl rfl hl.1 rfl (Nat.le_of_ble_eq_true rfl) dX12_writes_3 ⟨Nat.le_of_ble_eq_true rfl, Nat.le_of_ble_eq_true rfl⟩ (fun r_1 H locs hw hP hS => ?_)
  subst hw
  refine lv_if_eq (tgt := 31) hx hb dX12_writes_6 (by decide) (fun _ => ?_) (fun c_2 => (z_abs c_2 (by decide)).elim)
  refine lv_iconst (v := (-1)) hx hb dX12_writes_31 (by decide) ?_
  exact W.iret (v := (-1)) hx hb hr (fun t ht hW => ⟨⟨(-1), (), rfl, rfl, trivial⟩, hS.F ht⟩) hS.2.2 dX12_writes_32
set_option maxHeartbeats 4000000 in
set_option maxRecDepth 100000 in
theorem k_X12_spread (l : Launch) (D : va_G) (a : Nat → Nat) (p0 : Int32) (p1 : Int32) : Met l yX12_spread (wz yX12_spread cX12_spread 5 (some .int)) { frames := 2, cells := 0, slots := 0, locals := 120 } (va_Pc [.ref (a 200), .int p0, .int p1] (zP D [((a 200), .inr (12, mO a 0 0 0 0 0 0 0 (-1) 0 0 1 0))])) (va_Qi (fun r (_ : Unit) => r = (-1)) (fun _ _ => True) (fun _ => False)) 0 0 (fun _ => False) := by
  refine Met.ofW (cc := cX12_spread) (maxL := 5) (ret := (some .int)) (by decide) rfl ?_
  intro p e s m args below meth c s₁ B hml hv
  obtain ⟨rfl, hP, hK⟩ := hv
  have hx := B.exec
  have hb := B.bytes
  have hr := B.returns
  have hts := atoms_spec (ws := wz yX12_spread cX12_spread 5 (some .int)) B.pre
  have ht : ∀ w ∈ lw_gd, w.before _ s = true := fun w h => hts w (List.mem_cons_of_mem _ h)
  have hown : s.vm.findClass RX12 = some m.cls := findClass_of_methodNamed B.named
  have hlocks := B.notSynchronized
  have hS : va_S (fun _ => False) s.heap s.heap [] := va_S.rf
  have hl := lv_entry ([.ref (a 200), .int p0, .int p1]) (n := 5) (Nat.le_of_ble_eq_true rfl)
  rw [lg_entry_eq]
  generalize (lg_sl ([.ref (a 200), .int p0, .int p1]) ++ List.replicate (5 - (lg_sl ([.ref (a 200), .int p0, .int p1])).length) Slot.unset).toArray = ls at hl ⊢
  have hl : lv_has ls 5 [(0, .ref (a 200)), (1, .int p0), (2, .int p1)] := hl
  refine lv_aload_n hx hb dX12_spread_0 rfl (lv_at hl 0 rfl) ?_
  refine lv_iload_n hx hb dX12_spread_1 rfl (lv_at hl 1 rfl) ?_
  refine lv_i2l (v := p0.toInt64) hx hb dX12_spread_2 rfl ?_
  refine zcV (As := [.long p0.toInt64]) (rest := []) (C := RX12) (n := 1) ⟨hx, hb, hml, hown, ht⟩ (k_X12_isVolume l D a p0.toInt64) (zgV ml_X12_571 im_X12_isVolume se_X12_isVolume in_X12 co_X12_isVolume) rfl rfl (by decide +kernel) ⟨Nat.le_of_ble_eq_true rfl, Nat.le_of_ble_eq_true rfl⟩ hK hP hS [0] rfl 0 rfl rfl rfl rfl hl.1 rfl (Nat.le_of_ble_eq_true rfl) dX12_spread_3 ⟨Nat.le_of_ble_eq_true rfl, Nat.le_of_ble_eq_true rfl⟩ (fun r_1 H locs hw hP hS => ?_)
  subst hw
  refine lv_if_eq (tgt := 14) hx hb dX12_spread_6 (by decide) (fun _ => ?_) (fun c_2 => (z_abs c_2 (by decide)).elim)
  refine lv_iconst (v := (-1)) hx hb dX12_spread_14 (by decide) ?_
  exact W.iret (v := (-1)) hx hb hr (fun t ht hW => ⟨⟨(-1), (), rfl, rfl, trivial⟩, hS.F ht⟩) hS.2.2 dX12_spread_15
set_option maxHeartbeats 4000000 in
set_option maxRecDepth 100000 in
theorem k_X12_lost (l : Launch) (D : va_G) (a : Nat → Nat) (p0 : Int32) : Met l yX12_lost (wz yX12_lost cX12_lost 2 (some .int)) { frames := 2, cells := 0, slots := 0, locals := 120 } (va_Pc [.ref (a 200), .int p0] (zP D [((a 200), .inr (12, mO a 0 0 0 0 0 0 0 (-1) 0 0 1 0)), ((a 39), .inl (D.1 13, 10, .inl (fun _ => 0)))])) (va_Qi (fun r (_ : Unit) => r = (-1)) (fun _ _ => True) (fun _ => False)) 0 0 (fun _ => False) := by
  refine Met.ofW (cc := cX12_lost) (maxL := 2) (ret := (some .int)) (by decide) rfl ?_
  intro p e s m args below meth c s₁ B hml hv
  obtain ⟨rfl, hP, hK⟩ := hv
  have hx := B.exec
  have hb := B.bytes
  have hr := B.returns
  have hts := atoms_spec (ws := wz yX12_lost cX12_lost 2 (some .int)) B.pre
  have ht : ∀ w ∈ lw_gd, w.before _ s = true := fun w h => hts w (List.mem_cons_of_mem _ h)
  have hown : s.vm.findClass RX12 = some m.cls := findClass_of_methodNamed B.named
  have hlocks := B.notSynchronized
  have hS : va_S (fun _ => False) s.heap s.heap [] := va_S.rf
  have hl := lv_entry ([.ref (a 200), .int p0]) (n := 2) (Nat.le_of_ble_eq_true rfl)
  rw [lg_entry_eq]
  generalize (lg_sl ([.ref (a 200), .int p0]) ++ List.replicate (2 - (lg_sl ([.ref (a 200), .int p0])).length) Slot.unset).toArray = ls at hl ⊢
  have hl : lv_has ls 2 [(0, .ref (a 200)), (1, .int p0)] := hl
  refine lv_aload_n hx hb dX12_lost_0 rfl (lv_at hl 0 rfl) ?_
  refine lv_iload_n hx hb dX12_lost_1 rfl (lv_at hl 1 rfl) ?_
  refine lv_i2l (v := p0.toInt64) hx hb dX12_lost_2 rfl ?_
  refine zcV (As := [.long p0.toInt64]) (rest := []) (C := RX12) (n := 1) ⟨hx, hb, hml, hown, ht⟩ (k_X12_isBlock l D a p0.toInt64) (zgV ml_X12_616 im_X12_isBlock se_X12_isBlock in_X12 co_X12_isBlock) rfl rfl (by decide +kernel) ⟨Nat.le_of_ble_eq_true rfl, Nat.le_of_ble_eq_true rfl⟩ hK hP hS [0, 1] rfl 0 rfl rfl rfl rfl hl.1 rfl (Nat.le_of_ble_eq_true rfl) dX12_lost_3 ⟨Nat.le_of_ble_eq_true rfl, Nat.le_of_ble_eq_true rfl⟩ (fun r_1 H locs hw hP hS => ?_)
  subst hw
  refine lv_if_ne (tgt := 11) hx hb dX12_lost_6 (by decide) (fun c_2 => (z_abs c_2 (by decide)).elim) (fun _ => ?_)
  refine lv_iconst (v := (-1)) hx hb dX12_lost_9 (by decide) ?_
  exact W.iret (v := (-1)) hx hb hr (fun t ht hW => ⟨⟨(-1), (), rfl, rfl, trivial⟩, hS.F ht⟩) hS.2.2 dX12_lost_10
set_option maxHeartbeats 4000000 in
set_option maxRecDepth 100000 in
theorem k_X12_victim (l : Launch) (D : va_G) (a : Nat → Nat) (p0 : Int32) : Met l yX12_victim (wz yX12_victim cX12_victim 6 (some .int)) { frames := 2, cells := 0, slots := 0, locals := 120 } (va_Pc [.ref (a 200), .int p0] (zP D [((a 200), .inr (12, mO a 0 0 0 0 0 0 0 (-1) 0 0 1 0))])) (va_Qi (fun r (_ : Unit) => r = (-1)) (fun _ _ => True) (fun _ => False)) 0 0 (fun _ => False) := by
  refine Met.ofW (cc := cX12_victim) (maxL := 6) (ret := (some .int)) (by decide) rfl ?_
  intro p e s m args below meth c s₁ B hml hv
  obtain ⟨rfl, hP, hK⟩ := hv
  have hx := B.exec
  have hb := B.bytes
  have hr := B.returns
  have hts := atoms_spec (ws := wz yX12_victim cX12_victim 6 (some .int)) B.pre
  have ht : ∀ w ∈ lw_gd, w.before _ s = true := fun w h => hts w (List.mem_cons_of_mem _ h)
  have hown : s.vm.findClass RX12 = some m.cls := findClass_of_methodNamed B.named
  have hlocks := B.notSynchronized
  have hS : va_S (fun _ => False) s.heap s.heap [] := va_S.rf
  have hl := lv_entry ([.ref (a 200), .int p0]) (n := 6) (Nat.le_of_ble_eq_true rfl)
  rw [lg_entry_eq]
  generalize (lg_sl ([.ref (a 200), .int p0]) ++ List.replicate (6 - (lg_sl ([.ref (a 200), .int p0])).length) Slot.unset).toArray = ls at hl ⊢
  have hl : lv_has ls 6 [(0, .ref (a 200)), (1, .int p0)] := hl
  refine lv_iload_n hx hb dX12_victim_0 rfl (lv_at hl 1 rfl) ?_
  refine lv_i2l (v := p0.toInt64) hx hb dX12_victim_1 rfl ?_
  refine lv_lconst (v := 0) hx hb dX12_victim_2 (by decide) ?_
  refine lv_lconst (v := 1) hx hb dX12_victim_3 (by decide) ?_
  refine zcS (As := [.long p0.toInt64, .long 0, .long 1]) (rest := []) (n := 3) ⟨hx, hb, hml, hown, ht⟩ (k_X12_isIn l D p0.toInt64 0 1) (zgT ml_X12_309 st_X12_isIn in_X12 co_X12_isIn) rfl rfl (by decide +kernel) ⟨Nat.le_of_ble_eq_true rfl, Nat.le_of_ble_eq_true rfl⟩ hK hP hS [] rfl rfl hl.1 rfl (Nat.le_of_ble_eq_true rfl) dX12_victim_4 ⟨Nat.le_of_ble_eq_true rfl, Nat.le_of_ble_eq_true rfl⟩ (fun r_1 H locs hw hP hS => ?_)
  rcases hw with ⟨rfl, g_2⟩ | ⟨rfl, g_3, g_4⟩ | ⟨rfl, g_5, g_6⟩
  · skip
    have g_2 : p0.toInt < 0 := zt_lt (Int32.toInt_toInt64 _) (by decide) g_2
    refine lv_if_ne (tgt := 12) hx hb dX12_victim_7 (by decide) (fun c_7 => (z_abs c_7 (by decide)).elim) (fun _ => ?_)
    refine lv_iconst (v := (-1)) hx hb dX12_victim_10 (by decide) ?_
    exact W.iret (v := (-1)) hx hb hr (fun t ht hW => ⟨⟨(-1), (), rfl, rfl, trivial⟩, hS.F ht⟩) hS.2.2 dX12_victim_11
  · skip
    have g_3 : 0 ≤ p0.toInt := zt_ge (Int32.toInt_toInt64 _) (by decide) g_3
    have g_4 : 1 < p0.toInt := zt_gt (Int32.toInt_toInt64 _) (by decide) g_4
    refine lv_if_ne (tgt := 12) hx hb dX12_victim_7 (by decide) (fun c_9 => (z_abs c_9 (by decide)).elim) (fun _ => ?_)
    refine lv_iconst (v := (-1)) hx hb dX12_victim_10 (by decide) ?_
    exact W.iret (v := (-1)) hx hb hr (fun t ht hW => ⟨⟨(-1), (), rfl, rfl, trivial⟩, hS.F ht⟩) hS.2.2 dX12_victim_11
  · skip
    have g_5 : 0 ≤ p0.toInt := zt_ge (Int32.toInt_toInt64 _) (by decide) g_5
    have g_6 : p0.toInt ≤ 1 := zt_le (Int32.toInt_toInt64 _) (by decide) g_6
    refine lv_if_ne (tgt := 12) hx hb dX12_victim_7 (by decide) (fun _ => ?_) (fun c_11 => (z_abs c_11 (by decide)).elim)
    refine lv_iconst (v := (-1)) hx hb dX12_victim_12 (by decide) ?_
    refine lv_istore_n (lv' := [(2, .int (-1)), (0, .ref (a 200)), (1, .int p0)]) hx hb dX12_victim_13 rfl hl (by decide) rfl (fun ls hl => ?_)
    refine lv_iconst (v := (-1)) hx hb dX12_victim_14 (by decide) ?_
    refine lv_istore_n (lv' := [(3, .int (-1)), (2, .int (-1)), (0, .ref (a 200)), (1, .int p0)]) hx hb dX12_victim_15 rfl hl (by decide) rfl (fun ls hl => ?_)
    refine lv_iconst (v := 0) hx hb dX12_victim_16 (by decide) ?_
    refine lv_istore (lv' := [(4, .int 0), (3, .int (-1)), (2, .int (-1)), (0, .ref (a 200)), (1, .int p0)]) hx hb dX12_victim_17 hl (by decide) rfl (fun ls hl => ?_)
    refine z_loop (σ := Unit) (N := 8) (fun i u H locs ls => va_P D vwCl [((a 200), .inr (12, mO a 0 0 0 0 0 0 0 (-1) 0 0 1 0))] H ∧ va_S (fun _ => False) s.heap H locs ∧ lv_has ls 6 [(4, .int (nI i)), (3, .int (-1)), (2, .int (-1)), (0, .ref (a 200)), (1, .int p0)]) (fun i_13 _u H locs ls hi_i_13 hI ih_19 => ?_) 0 () (by decide) ⟨hP, hS, lv_sub hl [0, 1, 2, 3, 4] rfl⟩
    obtain ⟨hP, hS, hl⟩ := hI
    have hP : va_P D vwCl [((a 200), .inr (12, mO a 0 0 0 0 0 0 0 (-1) 0 0 1 0))] H := hP
    have hl : lv_has ls 6 [(4, .int (nI i_13)), (3, .int (-1)), (2, .int (-1)), (0, .ref (a 200)), (1, .int p0)] := hl
    refine lv_iload hx hb dX12_victim_19 (lv_at hl 0 rfl) ?_
    refine lv_bipush (v := 8) hx hb dX12_victim_21 (by decide) ?_
    refine lv_icmp_ge (tgt := 69) hx hb dX12_victim_23 (by decide) (fun c_14 => ?_) (fun c_14 => ?_)
    · have g_15 : 8 ≤ ((i_13 : Nat) : Int) := z_le (by decide) (nI_toInt (by omega)) c_14
      obtain rfl : i_13 = 8 := by omega
      have hP : va_P D vwCl [((a 200), .inr (12, mO a 0 0 0 0 0 0 0 (-1) 0 0 1 0))] H := hP
      have hl : lv_has ls 6 [(4, .int 8), (3, .int (-1)), (2, .int (-1)), (0, .ref (a 200)), (1, .int p0)] := hl
      refine lv_iload_n hx hb dX12_victim_69 rfl (lv_at hl 4 rfl) ?_
      refine lv_if_ne (tgt := 77) hx hb dX12_victim_70 (by decide) (fun c_16 => ?_) (fun c_16 => ?_)
      · have g_17 : ¬ p0.toInt = 0 := z_ne rfl (by decide) c_16
        refine lv_iload_n hx hb dX12_victim_77 rfl (lv_at hl 1 rfl) ?_
        exact W.iret (v := (-1)) hx hb hr (fun t ht hW => ⟨⟨(-1), (), rfl, rfl, trivial⟩, hS.F ht⟩) hS.2.2 dX12_victim_78
      · have g_17 : p0.toInt = 0 := z_eq rfl (by decide) c_16
        refine lv_iload_n hx hb dX12_victim_73 rfl (lv_at hl 2 rfl) ?_
        refine lv_goto (tgt := 78) hx hb dX12_victim_74 (by decide) ?_
        exact W.iret (v := (-1)) hx hb hr (fun t ht hW => ⟨⟨(-1), (), rfl, rfl, trivial⟩, hS.F ht⟩) hS.2.2 dX12_victim_78
    · have g_15 : ((i_13 : Nat) : Int) < 8 := z_nle (by decide) (nI_toInt (by omega)) c_14
      refine lv_aload_n hx hb dX12_victim_26 rfl (lv_at hl 3 rfl) ?_
      refine lv_iload hx hb dX12_victim_27 (lv_at hl 0 rfl) ?_
      refine lv_i2l (v := (nI i_13).toInt64) hx hb dX12_victim_29 rfl ?_
      refine zcV (As := [.long ((nI i_13).toInt64)]) (rest := []) (C := RX12) (n := 1) ⟨hx, hb, hml, hown, ht⟩ (k_X12_isVolume l D a ((nI i_13).toInt64)) (zgV ml_X12_571 im_X12_isVolume se_X12_isVolume in_X12 co_X12_isVolume) rfl rfl (by decide +kernel) ⟨Nat.le_of_ble_eq_true rfl, Nat.le_of_ble_eq_true rfl⟩ hK hP hS [0] rfl 0 rfl rfl rfl rfl hl.1 rfl (Nat.le_of_ble_eq_true rfl) dX12_victim_30 ⟨Nat.le_of_ble_eq_true rfl, Nat.le_of_ble_eq_true rfl⟩ (fun r_18 H locs hw hP hS => ?_)
      subst hw
      refine lv_if_eq (tgt := 45) hx hb dX12_victim_33 (by decide) (fun _ => ?_) (fun c_19 => (z_abs c_19 (by decide)).elim)
      refine lv_iconst (v := (-1)) hx hb dX12_victim_45 (by decide) ?_
      refine lv_istore (lv' := [(5, .int (-1)), (4, .int (nI i_13)), (3, .int (-1)), (2, .int (-1)), (0, .ref (a 200)), (1, .int p0)]) hx hb dX12_victim_46 hl (by decide) rfl (fun ls hl => ?_)
      refine lv_iload hx hb dX12_victim_48 (lv_at hl 0 rfl) ?_
      refine lv_iload_n hx hb dX12_victim_50 rfl (lv_at hl 2 rfl) ?_
      refine lv_icmp_gt (tgt := 57) hx hb dX12_victim_51 (by decide) (fun c_21 => (z_abs c_21 (by decide)).elim) (fun _ => ?_)
      refine lv_goto (tgt := 63) hx hb dX12_victim_54 (by decide) ?_
      refine lv_iinc (v := nI (i_13 + 1)) (lv' := [(4, .int (nI (i_13 + 1))), (5, .int (-1)), (3, .int (-1)), (2, .int (-1)), (0, .ref (a 200)), (1, .int p0)]) hx hb dX12_victim_63 hl (k := 1) rfl (z_inc _) (by decide) rfl (fun ls hl => ?_)
      refine lv_goto (tgt := 19) hx hb dX12_victim_66 (by decide) ?_
      exact ih_19 () _ _ _ (by omega) ⟨hP.sub [0] rfl, hS, lv_sub hl [0, 2, 3, 4, 5] rfl⟩
set_option maxHeartbeats 4000000 in
set_option maxRecDepth 100000 in
theorem k_X12_room (l : Launch) (D : va_G) (a : Nat → Nat) (p0 : Int32) : Met l yX12_room (wz yX12_room cX12_room 4 (some .int)) { frames := 0, cells := 0, slots := 0, locals := 0 } (va_Pc [.ref (a 200), .int p0] (zP D [((a 200), .inr (12, mO a 0 0 0 0 0 0 0 (-1) 0 0 1 0))])) (va_Qi (fun r (_ : Unit) => r = (-1)) (fun _ _ => True) (fun _ => False)) 0 0 (fun _ => False) := by
  refine Met.ofW (cc := cX12_room) (maxL := 4) (ret := (some .int)) (by decide) rfl ?_
  intro p e s m args below meth c s₁ B hml hv
  obtain ⟨rfl, hP, hK⟩ := hv
  have hx := B.exec
  have hb := B.bytes
  have hr := B.returns
  have hts := atoms_spec (ws := wz yX12_room cX12_room 4 (some .int)) B.pre
  have ht : ∀ w ∈ lw_gd, w.before _ s = true := fun w h => hts w (List.mem_cons_of_mem _ h)
  have hown : s.vm.findClass RX12 = some m.cls := findClass_of_methodNamed B.named
  have hlocks := B.notSynchronized
  have hS : va_S (fun _ => False) s.heap s.heap [] := va_S.rf
  have hl := lv_entry ([.ref (a 200), .int p0]) (n := 4) (Nat.le_of_ble_eq_true rfl)
  rw [lg_entry_eq]
  generalize (lg_sl ([.ref (a 200), .int p0]) ++ List.replicate (4 - (lg_sl ([.ref (a 200), .int p0])).length) Slot.unset).toArray = ls at hl ⊢
  have hl : lv_has ls 4 [(0, .ref (a 200)), (1, .int p0)] := hl
  refine lv_aload_n hx hb dX12_room_0 rfl (lv_at hl 0 rfl) ?_
  refine va_get (D := D) (ci := 12) (v := .int 0) (C := RX12) (T := TX12) (N := 116) hx hb ht inX12 hown hK hP 0 rfl rfl 47 (by decide) (ht (.fieldLink RX12 406 "CloneVolumesModel" "isTold" "Z") fl_X12_406) (fun _ h9 => h9) rfl dX12_room_1 ?_
  refine lv_if_eq (tgt := 19) hx hb dX12_room_4 (by decide) (fun _ => ?_) (fun c_1 => (z_abs c_1 (by decide)).elim)
  refine lv_iconst (v := (-1)) hx hb dX12_room_19 (by decide) ?_
  exact W.iret (v := (-1)) hx hb hr (fun t ht hW => ⟨⟨(-1), (), rfl, rfl, trivial⟩, hS.F ht⟩) hS.2.2 dX12_room_20
set_option maxHeartbeats 4000000 in
set_option maxRecDepth 100000 in
theorem k_X12_back (l : Launch) (D : va_G) (a : Nat → Nat) (p0 : Int32) : Met l yX12_back (wz yX12_back cX12_back 2 (some .int)) { frames := 2, cells := 0, slots := 0, locals := 120 } (va_Pc [.ref (a 200), .int p0] (zP D [((a 200), .inr (12, mO a 0 0 0 0 0 0 0 (-1) 0 0 1 0))])) (va_Qi (fun r (_ : Unit) => r = (-1)) (fun _ _ => True) (fun _ => False)) 0 0 (fun _ => False) := by
  refine Met.ofW (cc := cX12_back) (maxL := 2) (ret := (some .int)) (by decide) rfl ?_
  intro p e s m args below meth c s₁ B hml hv
  obtain ⟨rfl, hP, hK⟩ := hv
  have hx := B.exec
  have hb := B.bytes
  have hr := B.returns
  have hts := atoms_spec (ws := wz yX12_back cX12_back 2 (some .int)) B.pre
  have ht : ∀ w ∈ lw_gd, w.before _ s = true := fun w h => hts w (List.mem_cons_of_mem _ h)
  have hown : s.vm.findClass RX12 = some m.cls := findClass_of_methodNamed B.named
  have hlocks := B.notSynchronized
  have hS : va_S (fun _ => False) s.heap s.heap [] := va_S.rf
  have hl := lv_entry ([.ref (a 200), .int p0]) (n := 2) (Nat.le_of_ble_eq_true rfl)
  rw [lg_entry_eq]
  generalize (lg_sl ([.ref (a 200), .int p0]) ++ List.replicate (2 - (lg_sl ([.ref (a 200), .int p0])).length) Slot.unset).toArray = ls at hl ⊢
  have hl : lv_has ls 2 [(0, .ref (a 200)), (1, .int p0)] := hl
  refine lv_aload_n hx hb dX12_back_0 rfl (lv_at hl 0 rfl) ?_
  refine lv_iload_n hx hb dX12_back_1 rfl (lv_at hl 1 rfl) ?_
  refine lv_i2l (v := p0.toInt64) hx hb dX12_back_2 rfl ?_
  refine zcV (As := [.long p0.toInt64]) (rest := []) (C := RX12) (n := 1) ⟨hx, hb, hml, hown, ht⟩ (k_X12_isVolume l D a p0.toInt64) (zgV ml_X12_571 im_X12_isVolume se_X12_isVolume in_X12 co_X12_isVolume) rfl rfl (by decide +kernel) ⟨Nat.le_of_ble_eq_true rfl, Nat.le_of_ble_eq_true rfl⟩ hK hP hS [0] rfl 0 rfl rfl rfl rfl hl.1 rfl (Nat.le_of_ble_eq_true rfl) dX12_back_3 ⟨Nat.le_of_ble_eq_true rfl, Nat.le_of_ble_eq_true rfl⟩ (fun r_1 H locs hw hP hS => ?_)
  subst hw
  refine lv_if_eq (tgt := 47) hx hb dX12_back_6 (by decide) (fun _ => ?_) (fun c_2 => (z_abs c_2 (by decide)).elim)
  refine lv_iconst (v := (-1)) hx hb dX12_back_47 (by decide) ?_
  exact W.iret (v := (-1)) hx hb hr (fun t ht hW => ⟨⟨(-1), (), rfl, rfl, trivial⟩, hS.F ht⟩) hS.2.2 dX12_back_48
set_option maxHeartbeats 4000000 in
set_option maxRecDepth 100000 in
theorem k_X12_octet (l : Launch) (D : va_G) (a : Nat → Nat) (p0 : Int32) : Met l yX12_octet (wz yX12_octet cX12_octet 2 (some .int)) { frames := 0, cells := 0, slots := 0, locals := 0 } (va_Pc [.ref (a 200), .int p0] (zP D [((a 200), .inr (12, mO a 0 0 0 0 0 0 0 (-1) 0 0 1 0))])) (va_Qi (fun r (_ : Unit) => r = (-1)) (fun _ _ => True) (fun _ => False)) 0 0 (fun _ => False) := by
  refine Met.ofW (cc := cX12_octet) (maxL := 2) (ret := (some .int)) (by decide) rfl ?_
  intro p e s m args below meth c s₁ B hml hv
  obtain ⟨rfl, hP, hK⟩ := hv
  have hx := B.exec
  have hb := B.bytes
  have hr := B.returns
  have hts := atoms_spec (ws := wz yX12_octet cX12_octet 2 (some .int)) B.pre
  have ht : ∀ w ∈ lw_gd, w.before _ s = true := fun w h => hts w (List.mem_cons_of_mem _ h)
  have hown : s.vm.findClass RX12 = some m.cls := findClass_of_methodNamed B.named
  have hlocks := B.notSynchronized
  have hS : va_S (fun _ => False) s.heap s.heap [] := va_S.rf
  have hl := lv_entry ([.ref (a 200), .int p0]) (n := 2) (Nat.le_of_ble_eq_true rfl)
  rw [lg_entry_eq]
  generalize (lg_sl ([.ref (a 200), .int p0]) ++ List.replicate (2 - (lg_sl ([.ref (a 200), .int p0])).length) Slot.unset).toArray = ls at hl ⊢
  have hl : lv_has ls 2 [(0, .ref (a 200)), (1, .int p0)] := hl
  refine lv_iload_n hx hb dX12_octet_0 rfl (lv_at hl 1 rfl) ?_
  refine lv_if_lt (tgt := 21) hx hb dX12_octet_1 (by decide) (fun c_1 => ?_) (fun c_1 => ?_)
  · have g_2 : p0.toInt < 0 := z_lt rfl (by decide) c_1
    refine lv_iconst (v := (-1)) hx hb dX12_octet_21 (by decide) ?_
    exact W.iret (v := (-1)) hx hb hr (fun t ht hW => ⟨⟨(-1), (), rfl, rfl, trivial⟩, hS.F ht⟩) hS.2.2 dX12_octet_22
  · have g_2 : 0 ≤ p0.toInt := z_nlt rfl (by decide) c_1
    refine lv_iload_n hx hb dX12_octet_4 rfl (lv_at hl 1 rfl) ?_
    refine lv_aload_n hx hb dX12_octet_5 rfl (lv_at hl 0 rfl) ?_
    refine va_get (D := D) (ci := 12) (v := .int 0) (C := RX12) (T := TX12) (N := 116) hx hb ht inX12 hown hK hP 0 rfl rfl 112 (by decide) (ht (.fieldLink RX12 783 "CloneVolumesModel" "octets" "I") fl_X12_783) (fun _ h9 => h9) rfl dX12_octet_6 ?_
    refine lv_icmp_ge (tgt := 21) hx hb dX12_octet_9 (by decide) (fun c_3 => ?_) (fun c_3 => ?_)
    · have g_4 : 0 ≤ p0.toInt := z_le (by decide) rfl c_3
      refine lv_iconst (v := (-1)) hx hb dX12_octet_21 (by decide) ?_
      exact W.iret (v := (-1)) hx hb hr (fun t ht hW => ⟨⟨(-1), (), rfl, rfl, trivial⟩, hS.F ht⟩) hS.2.2 dX12_octet_22
    · exfalso
      have g_4 : p0.toInt < 0 := z_nle (by decide) rfl c_3
      omega
set_option maxHeartbeats 4000000 in
set_option maxRecDepth 100000 in
theorem k_X12_tells (l : Launch) (D : va_G) (a : Nat → Nat) (p0 : Int32) : Met l yX12_tells (wz yX12_tells cX12_tells 6 (some .int)) { frames := 4, cells := 0, slots := 0, locals := 240 } (va_Pc [.ref (a 200), .int p0] (zP D [((a 200), .inr (12, mO a 0 0 0 0 0 0 0 (-1) 0 0 1 0))])) (va_Qi (fun r (_ : Unit) => r = (-1)) (fun _ _ => True) (fun _ => False)) 0 0 (fun _ => False) := by
  refine Met.ofW (cc := cX12_tells) (maxL := 6) (ret := (some .int)) (by decide) rfl ?_
  intro p e s m args below meth c s₁ B hml hv
  obtain ⟨rfl, hP, hK⟩ := hv
  have hx := B.exec
  have hb := B.bytes
  have hr := B.returns
  have hts := atoms_spec (ws := wz yX12_tells cX12_tells 6 (some .int)) B.pre
  have ht : ∀ w ∈ lw_gd, w.before _ s = true := fun w h => hts w (List.mem_cons_of_mem _ h)
  have hown : s.vm.findClass RX12 = some m.cls := findClass_of_methodNamed B.named
  have hlocks := B.notSynchronized
  have hS : va_S (fun _ => False) s.heap s.heap [] := va_S.rf
  have hl := lv_entry ([.ref (a 200), .int p0]) (n := 6) (Nat.le_of_ble_eq_true rfl)
  rw [lg_entry_eq]
  generalize (lg_sl ([.ref (a 200), .int p0]) ++ List.replicate (6 - (lg_sl ([.ref (a 200), .int p0])).length) Slot.unset).toArray = ls at hl ⊢
  have hl : lv_has ls 6 [(0, .ref (a 200)), (1, .int p0)] := hl
  refine lv_iload_n hx hb dX12_tells_0 rfl (lv_at hl 1 rfl) ?_
  refine lv_i2l (v := p0.toInt64) hx hb dX12_tells_1 rfl ?_
  refine lv_lconst (v := 0) hx hb dX12_tells_2 (by decide) ?_
  refine lv_lconst (v := 1) hx hb dX12_tells_3 (by decide) ?_
  refine zcS (As := [.long p0.toInt64, .long 0, .long 1]) (rest := []) (n := 3) ⟨hx, hb, hml, hown, ht⟩ (k_X12_isIn l D p0.toInt64 0 1) (zgT ml_X12_309 st_X12_isIn in_X12 co_X12_isIn) rfl rfl (by decide +kernel) ⟨Nat.le_of_ble_eq_true rfl, Nat.le_of_ble_eq_true rfl⟩ hK hP hS [] rfl rfl hl.1 rfl (Nat.le_of_ble_eq_true rfl) dX12_tells_4 ⟨Nat.le_of_ble_eq_true rfl, Nat.le_of_ble_eq_true rfl⟩ (fun r_1 H locs hw hP hS => ?_)
  rcases hw with ⟨rfl, g_2⟩ | ⟨rfl, g_3, g_4⟩ | ⟨rfl, g_5, g_6⟩
  · skip
    have g_2 : p0.toInt < 0 := zt_lt (Int32.toInt_toInt64 _) (by decide) g_2
    refine lv_if_eq (tgt := 18) hx hb dX12_tells_7 (by decide) (fun _ => ?_) (fun c_7 => (z_abs c_7 (by decide)).elim)
    refine lv_iconst (v := (-1)) hx hb dX12_tells_18 (by decide) ?_
    exact W.iret (v := (-1)) hx hb hr (fun t ht hW => ⟨⟨(-1), (), rfl, rfl, trivial⟩, hS.F ht⟩) hS.2.2 dX12_tells_19
  · skip
    have g_3 : 0 ≤ p0.toInt := zt_ge (Int32.toInt_toInt64 _) (by decide) g_3
    have g_4 : 1 < p0.toInt := zt_gt (Int32.toInt_toInt64 _) (by decide) g_4
    refine lv_if_eq (tgt := 18) hx hb dX12_tells_7 (by decide) (fun _ => ?_) (fun c_9 => (z_abs c_9 (by decide)).elim)
    refine lv_iconst (v := (-1)) hx hb dX12_tells_18 (by decide) ?_
    exact W.iret (v := (-1)) hx hb hr (fun t ht hW => ⟨⟨(-1), (), rfl, rfl, trivial⟩, hS.F ht⟩) hS.2.2 dX12_tells_19
  · skip
    have g_5 : 0 ≤ p0.toInt := zt_ge (Int32.toInt_toInt64 _) (by decide) g_5
    have g_6 : p0.toInt ≤ 1 := zt_le (Int32.toInt_toInt64 _) (by decide) g_6
    refine lv_if_eq (tgt := 18) hx hb dX12_tells_7 (by decide) (fun c_11 => (z_abs c_11 (by decide)).elim) (fun _ => ?_)
    refine lv_aload_n hx hb dX12_tells_10 rfl (lv_at hl 0 rfl) ?_
    refine lv_iconst (v := (-1)) hx hb dX12_tells_11 (by decide) ?_
    refine zcV (As := [.int (-1)]) (rest := []) (C := RX12) (n := 1) ⟨hx, hb, hml, hown, ht⟩ (k_X12_fits l D a (-1)) (zgV ml_X12_647 im_X12_fits se_X12_fits in_X12 co_X12_fits) rfl rfl (by decide +kernel) ⟨Nat.le_of_ble_eq_true rfl, Nat.le_of_ble_eq_true rfl⟩ hK hP hS [0] rfl 0 rfl rfl rfl rfl hl.1 rfl (Nat.le_of_ble_eq_true rfl) dX12_tells_12 ⟨Nat.le_of_ble_eq_true rfl, Nat.le_of_ble_eq_true rfl⟩ (fun r_13 H locs hw hP hS => ?_)
    rcases hw with ⟨rfl, g_14, g_15⟩ | ⟨rfl, g_16, g_17⟩ | ⟨rfl, g_18⟩
    · skip
      have g_14 : (-1) ≤ ((-1) : Int) := zt_ge (by decide) (by decide) g_14
      have g_15 : ¬ ((-1) : Int) = (-1) := zt_ne (by decide) (by decide) g_15
      exfalso; omega
    · skip
      have g_16 : (-1) ≤ ((-1) : Int) := zt_ge (by decide) (by decide) g_16
      have g_17 : ((-1) : Int) = (-1) := zt_eq (by decide) (by decide) g_17
      refine lv_if_ne (tgt := 20) hx hb dX12_tells_15 (by decide) (fun c_19 => (z_abs c_19 (by decide)).elim) (fun _ => ?_)
      refine lv_iconst (v := (-1)) hx hb dX12_tells_18 (by decide) ?_
      exact W.iret (v := (-1)) hx hb hr (fun t ht hW => ⟨⟨(-1), (), rfl, rfl, trivial⟩, hS.F ht⟩) hS.2.2 dX12_tells_19
    · skip
      have g_18 : ((-1) : Int) < (-1) := zt_lt (by decide) (by decide) g_18
      exfalso; omega
set_option maxHeartbeats 4000000 in
set_option maxRecDepth 100000 in
theorem k_X12_has (l : Launch) (D : va_G) (a : Nat → Nat) (p0 : Int32) : Met l yX12_has (wz yX12_has cX12_has 2 (some .int)) { frames := 3, cells := 0, slots := 0, locals := 180 } (va_Pc [.ref (a 200), .int p0] (zP D [((a 200), .inr (12, mO a 0 0 0 0 0 0 0 (-1) 0 0 1 0)), ((a 39), .inl (D.1 13, 10, .inl (fun _ => 0))), ((a 49), .inl (D.1 13, 906, .inl (fun _ => 0)))])) (va_Qi (fun r (_ : Unit) => (r = 0 ∧ p0.toInt = 0) ∨ (r = 0 ∧ ¬ p0.toInt = 0 ∧ p0.toInt = 1) ∨ (r = 0 ∧ ¬ p0.toInt = 0 ∧ ¬ p0.toInt = 1 ∧ p0.toInt = 2) ∨ (r = 0 ∧ ¬ p0.toInt = 0 ∧ ¬ p0.toInt = 1 ∧ ¬ p0.toInt = 2 ∧ p0.toInt = 3) ∨ (r = 0 ∧ ¬ p0.toInt = 0 ∧ ¬ p0.toInt = 1 ∧ ¬ p0.toInt = 2 ∧ ¬ p0.toInt = 3 ∧ p0.toInt = 4) ∨ (r = 0 ∧ ¬ p0.toInt = 0 ∧ ¬ p0.toInt = 1 ∧ ¬ p0.toInt = 2 ∧ ¬ p0.toInt = 3 ∧ ¬ p0.toInt = 4 ∧ p0.toInt = 5) ∨ (r = 0 ∧ ¬ p0.toInt = 0 ∧ ¬ p0.toInt = 1 ∧ ¬ p0.toInt = 2 ∧ ¬ p0.toInt = 3 ∧ ¬ p0.toInt = 4 ∧ ¬ p0.toInt = 5 ∧ p0.toInt = 6) ∨ (r = 0 ∧ ¬ p0.toInt = 0 ∧ ¬ p0.toInt = 1 ∧ ¬ p0.toInt = 2 ∧ ¬ p0.toInt = 3 ∧ ¬ p0.toInt = 4 ∧ ¬ p0.toInt = 5 ∧ ¬ p0.toInt = 6 ∧ p0.toInt = 7) ∨ (r = 0 ∧ ¬ p0.toInt = 0 ∧ ¬ p0.toInt = 1 ∧ ¬ p0.toInt = 2 ∧ ¬ p0.toInt = 3 ∧ ¬ p0.toInt = 4 ∧ ¬ p0.toInt = 5 ∧ ¬ p0.toInt = 6 ∧ ¬ p0.toInt = 7 ∧ p0.toInt = 8) ∨ (r = 0 ∧ ¬ p0.toInt = 0 ∧ ¬ p0.toInt = 1 ∧ ¬ p0.toInt = 2 ∧ ¬ p0.toInt = 3 ∧ ¬ p0.toInt = 4 ∧ ¬ p0.toInt = 5 ∧ ¬ p0.toInt = 6 ∧ ¬ p0.toInt = 7 ∧ ¬ p0.toInt = 8 ∧ p0.toInt = 9) ∨ (r = (-1) ∧ ¬ p0.toInt = 0 ∧ ¬ p0.toInt = 1 ∧ ¬ p0.toInt = 2 ∧ ¬ p0.toInt = 3 ∧ ¬ p0.toInt = 4 ∧ ¬ p0.toInt = 5 ∧ ¬ p0.toInt = 6 ∧ ¬ p0.toInt = 7 ∧ ¬ p0.toInt = 8 ∧ ¬ p0.toInt = 9)) (fun _ _ => True) (fun _ => False)) 0 0 (fun _ => False) := by
  refine Met.ofW (cc := cX12_has) (maxL := 2) (ret := (some .int)) (by decide) rfl ?_
  intro p e s m args below meth c s₁ B hml hv
  obtain ⟨rfl, hP, hK⟩ := hv
  have hx := B.exec
  have hb := B.bytes
  have hr := B.returns
  have hts := atoms_spec (ws := wz yX12_has cX12_has 2 (some .int)) B.pre
  have ht : ∀ w ∈ lw_gd, w.before _ s = true := fun w h => hts w (List.mem_cons_of_mem _ h)
  have hown : s.vm.findClass RX12 = some m.cls := findClass_of_methodNamed B.named
  have hlocks := B.notSynchronized
  have hS : va_S (fun _ => False) s.heap s.heap [] := va_S.rf
  have hl := lv_entry ([.ref (a 200), .int p0]) (n := 2) (Nat.le_of_ble_eq_true rfl)
  rw [lg_entry_eq]
  generalize (lg_sl ([.ref (a 200), .int p0]) ++ List.replicate (2 - (lg_sl ([.ref (a 200), .int p0])).length) Slot.unset).toArray = ls at hl ⊢
  have hl : lv_has ls 2 [(0, .ref (a 200)), (1, .int p0)] := hl
  refine lv_iload_n hx hb dX12_has_0 rfl (lv_at hl 1 rfl) ?_
  by_cases c_1 : p0 = 0
  · have g_2 : p0.toInt = 0 := z_eq rfl (by decide) c_1
    refine lv_tableIn (off := 55) (tgt := 56) hx hb dX12_has_1 (by omega) (by omega) (by rw [g_2]; decide) (by decide) ?_
    refine lv_aload_n hx hb dX12_has_56 rfl (lv_at hl 0 rfl) ?_
    refine zcV (As := []) (rest := []) (C := RX12) (n := 0) ⟨hx, hb, hml, hown, ht⟩ (k_X12_blockMany l D a) (zgV ml_X12_429 im_X12_blockMany se_X12_blockMany in_X12 co_X12_blockMany) rfl rfl (by decide +kernel) ⟨Nat.le_of_ble_eq_true rfl, Nat.le_of_ble_eq_true rfl⟩ hK hP hS [0, 1] rfl 0 rfl rfl rfl rfl hl.1 rfl (Nat.le_of_ble_eq_true rfl) dX12_has_57 ⟨Nat.le_of_ble_eq_true rfl, Nat.le_of_ble_eq_true rfl⟩ (fun r_3 H locs hw hP hS => ?_)
    subst hw
    exact W.iret (v := 0) hx hb hr (fun t ht hW => ⟨⟨0, (), rfl, Or.inl (⟨rfl, zu_eq rfl (by decide) g_2⟩), trivial⟩, hS.F ht⟩) hS.2.2 dX12_has_60
  · have g_2 : ¬ p0.toInt = 0 := z_ne rfl (by decide) c_1
    by_cases c_4 : p0 = 1
    · have g_5 : p0.toInt = 1 := z_eq rfl (by decide) c_4
      refine lv_tableIn (off := 60) (tgt := 61) hx hb dX12_has_1 (by omega) (by omega) (by rw [g_5]; decide) (by decide) ?_
      refine lv_aload_n hx hb dX12_has_61 rfl (lv_at hl 0 rfl) ?_
      refine zcV (As := []) (rest := []) (C := RX12) (n := 0) ⟨hx, hb, hml, hown, ht⟩ (k_X12_volumeMany l D a) (zgV ml_X12_584 im_X12_volumeMany se_X12_volumeMany in_X12 co_X12_volumeMany) rfl rfl (by decide +kernel) ⟨Nat.le_of_ble_eq_true rfl, Nat.le_of_ble_eq_true rfl⟩ hK hP hS [0] rfl 0 rfl rfl rfl rfl hl.1 rfl (Nat.le_of_ble_eq_true rfl) dX12_has_62 ⟨Nat.le_of_ble_eq_true rfl, Nat.le_of_ble_eq_true rfl⟩ (fun r_6 H locs hw hP hS => ?_)
      subst hw
      exact W.iret (v := 0) hx hb hr (fun t ht hW => ⟨⟨0, (), rfl, Or.inr (Or.inl (⟨rfl, zu_ne rfl (by decide) g_2, zu_eq rfl (by decide) g_5⟩)), trivial⟩, hS.F ht⟩) hS.2.2 dX12_has_65
    · have g_5 : ¬ p0.toInt = 1 := z_ne rfl (by decide) c_4
      by_cases c_7 : p0 = 2
      · have g_8 : p0.toInt = 2 := z_eq rfl (by decide) c_7
        refine lv_tableIn (off := 65) (tgt := 66) hx hb dX12_has_1 (by omega) (by omega) (by rw [g_8]; decide) (by decide) ?_
        refine lv_aload_n hx hb dX12_has_66 rfl (lv_at hl 0 rfl) ?_
        refine zcV (As := []) (rest := []) (C := RX12) (n := 0) ⟨hx, hb, hml, hown, ht⟩ (k_X12_usedMany l D a) (zgV ml_X12_578 im_X12_usedMany se_X12_usedMany in_X12 co_X12_usedMany) rfl rfl (by decide +kernel) ⟨Nat.le_of_ble_eq_true rfl, Nat.le_of_ble_eq_true rfl⟩ hK hP hS [0, 1] rfl 0 rfl rfl rfl rfl hl.1 rfl (Nat.le_of_ble_eq_true rfl) dX12_has_67 ⟨Nat.le_of_ble_eq_true rfl, Nat.le_of_ble_eq_true rfl⟩ (fun r_9 H locs hw hP hS => ?_)
        subst hw
        exact W.iret (v := 0) hx hb hr (fun t ht hW => ⟨⟨0, (), rfl, Or.inr (Or.inr (Or.inl (⟨rfl, zu_ne rfl (by decide) g_2, zu_ne rfl (by decide) g_5, zu_eq rfl (by decide) g_8⟩))), trivial⟩, hS.F ht⟩) hS.2.2 dX12_has_70
      · have g_8 : ¬ p0.toInt = 2 := z_ne rfl (by decide) c_7
        by_cases c_10 : p0 = 3
        · have g_11 : p0.toInt = 3 := z_eq rfl (by decide) c_10
          refine lv_tableIn (off := 70) (tgt := 71) hx hb dX12_has_1 (by omega) (by omega) (by rw [g_11]; decide) (by decide) ?_
          refine lv_aload_n hx hb dX12_has_71 rfl (lv_at hl 0 rfl) ?_
          refine zcV (As := []) (rest := []) (C := RX12) (n := 0) ⟨hx, hb, hml, hown, ht⟩ (k_X12_heldMany l D a) (zgV ml_X12_581 im_X12_heldMany se_X12_heldMany in_X12 co_X12_heldMany) rfl rfl (by decide +kernel) ⟨Nat.le_of_ble_eq_true rfl, Nat.le_of_ble_eq_true rfl⟩ hK hP hS [0, 1] rfl 0 rfl rfl rfl rfl hl.1 rfl (Nat.le_of_ble_eq_true rfl) dX12_has_72 ⟨Nat.le_of_ble_eq_true rfl, Nat.le_of_ble_eq_true rfl⟩ (fun r_12 H locs hw hP hS => ?_)
          subst hw
          exact W.iret (v := 0) hx hb hr (fun t ht hW => ⟨⟨0, (), rfl, Or.inr (Or.inr (Or.inr (Or.inl (⟨rfl, zu_ne rfl (by decide) g_2, zu_ne rfl (by decide) g_5, zu_ne rfl (by decide) g_8, zu_eq rfl (by decide) g_11⟩)))), trivial⟩, hS.F ht⟩) hS.2.2 dX12_has_75
        · have g_11 : ¬ p0.toInt = 3 := z_ne rfl (by decide) c_10
          by_cases c_13 : p0 = 4
          · have g_14 : p0.toInt = 4 := z_eq rfl (by decide) c_13
            refine lv_tableIn (off := 75) (tgt := 76) hx hb dX12_has_1 (by omega) (by omega) (by rw [g_14]; decide) (by decide) ?_
            refine lv_aload_n hx hb dX12_has_76 rfl (lv_at hl 0 rfl) ?_
            refine zcV (As := []) (rest := []) (C := RX12) (n := 0) ⟨hx, hb, hml, hown, ht⟩ (k_X12_freeMany l D a) (zgV ml_X12_587 im_X12_freeMany se_X12_freeMany in_X12 co_X12_freeMany) rfl rfl (by decide +kernel) ⟨Nat.le_of_ble_eq_true rfl, Nat.le_of_ble_eq_true rfl⟩ hK hP hS [0, 1] rfl 0 rfl rfl rfl rfl hl.1 rfl (Nat.le_of_ble_eq_true rfl) dX12_has_77 ⟨Nat.le_of_ble_eq_true rfl, Nat.le_of_ble_eq_true rfl⟩ (fun r_15 H locs hw hP hS => ?_)
            subst hw
            exact W.iret (v := 0) hx hb hr (fun t ht hW => ⟨⟨0, (), rfl, Or.inr (Or.inr (Or.inr (Or.inr (Or.inl (⟨rfl, zu_ne rfl (by decide) g_2, zu_ne rfl (by decide) g_5, zu_ne rfl (by decide) g_8, zu_ne rfl (by decide) g_11, zu_eq rfl (by decide) g_14⟩))))), trivial⟩, hS.F ht⟩) hS.2.2 dX12_has_80
          · have g_14 : ¬ p0.toInt = 4 := z_ne rfl (by decide) c_13
            by_cases c_16 : p0 = 5
            · have g_17 : p0.toInt = 5 := z_eq rfl (by decide) c_16
              refine lv_tableIn (off := 80) (tgt := 81) hx hb dX12_has_1 (by omega) (by omega) (by rw [g_17]; decide) (by decide) ?_
              refine lv_aload_n hx hb dX12_has_81 rfl (lv_at hl 0 rfl) ?_
              refine va_get (D := D) (ci := 12) (v := .ref (a 49)) (C := RX12) (T := TX12) (N := 116) hx hb ht inX12 hown hK hP 0 rfl rfl 49 (by decide) (ht (.fieldLink RX12 121 "CloneVolumesModel" "now" "[I") fl_X12_121) (fun _ h9 => h9) rfl dX12_has_82 ?_
              refine lv_bipush (v := 16) hx hb dX12_has_85 (by decide) ?_
              refine va_iald hx hb hK hP 2 0 rfl rfl (z_in (by decide) (by decide)) dX12_has_87 ?_
              refine z_topi (y := 0) (by decide) ?_
              exact W.iret (v := 0) hx hb hr (fun t ht hW => ⟨⟨0, (), rfl, Or.inr (Or.inr (Or.inr (Or.inr (Or.inr (Or.inl (⟨rfl, zu_ne rfl (by decide) g_2, zu_ne rfl (by decide) g_5, zu_ne rfl (by decide) g_8, zu_ne rfl (by decide) g_11, zu_ne rfl (by decide) g_14, zu_eq rfl (by decide) g_17⟩)))))), trivial⟩, hS.F ht⟩) hS.2.2 dX12_has_88
            · have g_17 : ¬ p0.toInt = 5 := z_ne rfl (by decide) c_16
              by_cases c_18 : p0 = 6
              · have g_19 : p0.toInt = 6 := z_eq rfl (by decide) c_18
                refine lv_tableIn (off := 88) (tgt := 89) hx hb dX12_has_1 (by omega) (by omega) (by rw [g_19]; decide) (by decide) ?_
                refine lv_aload_n hx hb dX12_has_89 rfl (lv_at hl 0 rfl) ?_
                refine va_get (D := D) (ci := 12) (v := .ref (a 49)) (C := RX12) (T := TX12) (N := 116) hx hb ht inX12 hown hK hP 0 rfl rfl 49 (by decide) (ht (.fieldLink RX12 121 "CloneVolumesModel" "now" "[I") fl_X12_121) (fun _ h9 => h9) rfl dX12_has_90 ?_
                refine lv_sipush (v := 785) hx hb dX12_has_93 (by decide) ?_
                refine va_iald hx hb hK hP 2 0 rfl rfl (z_in (by decide) (by decide)) dX12_has_96 ?_
                refine z_topi (y := 0) (by decide) ?_
                exact W.iret (v := 0) hx hb hr (fun t ht hW => ⟨⟨0, (), rfl, Or.inr (Or.inr (Or.inr (Or.inr (Or.inr (Or.inr (Or.inl (⟨rfl, zu_ne rfl (by decide) g_2, zu_ne rfl (by decide) g_5, zu_ne rfl (by decide) g_8, zu_ne rfl (by decide) g_11, zu_ne rfl (by decide) g_14, zu_ne rfl (by decide) g_17, zu_eq rfl (by decide) g_19⟩))))))), trivial⟩, hS.F ht⟩) hS.2.2 dX12_has_97
              · have g_19 : ¬ p0.toInt = 6 := z_ne rfl (by decide) c_18
                by_cases c_20 : p0 = 7
                · have g_21 : p0.toInt = 7 := z_eq rfl (by decide) c_20
                  refine lv_tableIn (off := 97) (tgt := 98) hx hb dX12_has_1 (by omega) (by omega) (by rw [g_21]; decide) (by decide) ?_
                  refine lv_aload_n hx hb dX12_has_98 rfl (lv_at hl 0 rfl) ?_
                  refine va_get (D := D) (ci := 12) (v := .int 0) (C := RX12) (T := TX12) (N := 116) hx hb ht inX12 hown hK hP 0 rfl rfl 73 (by decide) (ht (.fieldLink RX12 419 "CloneVolumesModel" "rowMany" "I") fl_X12_419) (fun _ h9 => h9) rfl dX12_has_99 ?_
                  exact W.iret (v := 0) hx hb hr (fun t ht hW => ⟨⟨0, (), rfl, Or.inr (Or.inr (Or.inr (Or.inr (Or.inr (Or.inr (Or.inr (Or.inl (⟨rfl, zu_ne rfl (by decide) g_2, zu_ne rfl (by decide) g_5, zu_ne rfl (by decide) g_8, zu_ne rfl (by decide) g_11, zu_ne rfl (by decide) g_14, zu_ne rfl (by decide) g_17, zu_ne rfl (by decide) g_19, zu_eq rfl (by decide) g_21⟩)))))))), trivial⟩, hS.F ht⟩) hS.2.2 dX12_has_102
                · have g_21 : ¬ p0.toInt = 7 := z_ne rfl (by decide) c_20
                  by_cases c_22 : p0 = 8
                  · have g_23 : p0.toInt = 8 := z_eq rfl (by decide) c_22
                    refine lv_tableIn (off := 102) (tgt := 103) hx hb dX12_has_1 (by omega) (by omega) (by rw [g_23]; decide) (by decide) ?_
                    refine lv_aload_n hx hb dX12_has_103 rfl (lv_at hl 0 rfl) ?_
                    refine va_get (D := D) (ci := 12) (v := .int 0) (C := RX12) (T := TX12) (N := 116) hx hb ht inX12 hown hK hP 0 rfl rfl 76 (by decide) (ht (.fieldLink RX12 416 "CloneVolumesModel" "undoable" "I") fl_X12_416) (fun _ h9 => h9) rfl dX12_has_104 ?_
                    exact W.iret (v := 0) hx hb hr (fun t ht hW => ⟨⟨0, (), rfl, Or.inr (Or.inr (Or.inr (Or.inr (Or.inr (Or.inr (Or.inr (Or.inr (Or.inl (⟨rfl, zu_ne rfl (by decide) g_2, zu_ne rfl (by decide) g_5, zu_ne rfl (by decide) g_8, zu_ne rfl (by decide) g_11, zu_ne rfl (by decide) g_14, zu_ne rfl (by decide) g_17, zu_ne rfl (by decide) g_19, zu_ne rfl (by decide) g_21, zu_eq rfl (by decide) g_23⟩))))))))), trivial⟩, hS.F ht⟩) hS.2.2 dX12_has_107
                  · have g_23 : ¬ p0.toInt = 8 := z_ne rfl (by decide) c_22
                    by_cases c_24 : p0 = 9
                    · have g_25 : p0.toInt = 9 := z_eq rfl (by decide) c_24
                      refine lv_tableIn (off := 107) (tgt := 108) hx hb dX12_has_1 (by omega) (by omega) (by rw [g_25]; decide) (by decide) ?_
                      refine lv_aload_n hx hb dX12_has_108 rfl (lv_at hl 0 rfl) ?_
                      refine zcV (As := []) (rest := []) (C := RX12) (n := 0) ⟨hx, hb, hml, hown, ht⟩ (k_X12_roomOf l D a) (zgV ml_X12_523 im_X12_roomOf se_X12_roomOf in_X12 co_X12_roomOf) rfl rfl (by decide +kernel) ⟨Nat.le_of_ble_eq_true rfl, Nat.le_of_ble_eq_true rfl⟩ hK hP hS [0, 1] rfl 0 rfl rfl rfl rfl hl.1 rfl (Nat.le_of_ble_eq_true rfl) dX12_has_109 ⟨Nat.le_of_ble_eq_true rfl, Nat.le_of_ble_eq_true rfl⟩ (fun r_26 H locs hw hP hS => ?_)
                      subst hw
                      exact W.iret (v := 0) hx hb hr (fun t ht hW => ⟨⟨0, (), rfl, Or.inr (Or.inr (Or.inr (Or.inr (Or.inr (Or.inr (Or.inr (Or.inr (Or.inr (Or.inl (⟨rfl, zu_ne rfl (by decide) g_2, zu_ne rfl (by decide) g_5, zu_ne rfl (by decide) g_8, zu_ne rfl (by decide) g_11, zu_ne rfl (by decide) g_14, zu_ne rfl (by decide) g_17, zu_ne rfl (by decide) g_19, zu_ne rfl (by decide) g_21, zu_ne rfl (by decide) g_23, zu_eq rfl (by decide) g_25⟩)))))))))), trivial⟩, hS.F ht⟩) hS.2.2 dX12_has_112
                    · have g_25 : ¬ p0.toInt = 9 := z_ne rfl (by decide) c_24
                      refine lv_tableOut (tgt := 113) hx hb dX12_has_1 (by omega) (by decide) ?_
                      refine lv_iconst (v := (-1)) hx hb dX12_has_113 (by decide) ?_
                      exact W.iret (v := (-1)) hx hb hr (fun t ht hW => ⟨⟨(-1), (), rfl, Or.inr (Or.inr (Or.inr (Or.inr (Or.inr (Or.inr (Or.inr (Or.inr (Or.inr (Or.inr (⟨rfl, zu_ne rfl (by decide) g_2, zu_ne rfl (by decide) g_5, zu_ne rfl (by decide) g_8, zu_ne rfl (by decide) g_11, zu_ne rfl (by decide) g_14, zu_ne rfl (by decide) g_17, zu_ne rfl (by decide) g_19, zu_ne rfl (by decide) g_21, zu_ne rfl (by decide) g_23, zu_ne rfl (by decide) g_25⟩)))))))))), trivial⟩, hS.F ht⟩) hS.2.2 dX12_has_114
