theorem ck_X12_792 : Cond.constant RX12 792 65536 ∈ lw_gd := zm (List.mem_of_getElem? (i := 2539) (by decide +kernel)) rfl
theorem co_X12_byteRead : Cond.code yX12_byteRead cX12_byteRead 2 (some .int) ∈ lw_gd := zm (List.mem_of_getElem? (i := 2574) (by decide +kernel)) rfl
theorem co_X12_checked : Cond.code yX12_checked cX12_checked 4 (some .int) ∈ lw_gd := zm (List.mem_of_getElem? (i := 2558) (by decide +kernel)) rfl
theorem co_X12_isLaidBlock : Cond.code yX12_isLaidBlock cX12_isLaidBlock 6 (some .boolean) ∈ lw_gd := zm (List.mem_of_getElem? (i := 2582) (by decide +kernel)) rfl
theorem co_X12_rootTold : Cond.code yX12_rootTold cX12_rootTold 2 (some .int) ∈ lw_gd := zm (List.mem_of_getElem? (i := 2551) (by decide +kernel)) rfl
theorem co_X12_tellsByte : Cond.code yX12_tellsByte cX12_tellsByte 2 none ∈ lw_gd := zm (List.mem_of_getElem? (i := 2543) (by decide +kernel)) rfl
theorem co_X12_tellsTwo : Cond.code yX12_tellsTwo cX12_tellsTwo 2 none ∈ lw_gd := zm (List.mem_of_getElem? (i := 2547) (by decide +kernel)) rfl
theorem co_X12_twoRead : Cond.code yX12_twoRead cX12_twoRead 4 (some .int) ∈ lw_gd := zm (List.mem_of_getElem? (i := 2578) (by decide +kernel)) rfl
theorem co_X12_writesBlock : Cond.code yX12_writesBlock cX12_writesBlock 3 none ∈ lw_gd := zm (List.mem_of_getElem? (i := 2555) (by decide +kernel)) rfl
theorem fl_X12_252 : Cond.fieldLink RX12 252 "CloneVolumesModel" "octet" "[I" ∈ lw_gd := zm (List.mem_of_getElem? (i := 1649) (by decide +kernel)) rfl
theorem fl_X12_255 : Cond.fieldLink RX12 255 "CloneVolumesModel" "laid" "[I" ∈ lw_gd := zm (List.mem_of_getElem? (i := 1651) (by decide +kernel)) rfl
theorem fl_X12_783 : Cond.fieldLink RX12 783 "CloneVolumesModel" "octets" "I" ∈ lw_gd := zm (List.mem_of_getElem? (i := 1650) (by decide +kernel)) rfl
theorem fl_X12_803 : Cond.fieldLink RX12 803 "CloneVolumesModel" "read0" "I" ∈ lw_gd := zm (List.mem_of_getElem? (i := 1652) (by decide +kernel)) rfl
theorem im_X12_byteRead : Cond.instanceMethod yX12_byteRead ∈ lw_gd := zm (List.mem_of_getElem? (i := 2573) (by decide +kernel)) rfl
theorem im_X12_isLaidBlock : Cond.instanceMethod yX12_isLaidBlock ∈ lw_gd := zm (List.mem_of_getElem? (i := 2581) (by decide +kernel)) rfl
theorem im_X12_rootTold : Cond.instanceMethod yX12_rootTold ∈ lw_gd := zm (List.mem_of_getElem? (i := 2550) (by decide +kernel)) rfl
theorem im_X12_tellsByte : Cond.instanceMethod yX12_tellsByte ∈ lw_gd := zm (List.mem_of_getElem? (i := 2542) (by decide +kernel)) rfl
theorem im_X12_tellsTwo : Cond.instanceMethod yX12_tellsTwo ∈ lw_gd := zm (List.mem_of_getElem? (i := 2546) (by decide +kernel)) rfl
theorem im_X12_twoRead : Cond.instanceMethod yX12_twoRead ∈ lw_gd := zm (List.mem_of_getElem? (i := 2577) (by decide +kernel)) rfl
theorem im_X12_writesBlock : Cond.instanceMethod yX12_writesBlock ∈ lw_gd := zm (List.mem_of_getElem? (i := 2554) (by decide +kernel)) rfl
theorem ml_X12_786 : Cond.methodLink RX12 786 yX12_tellsByte ∈ lw_gd := zm (List.mem_of_getElem? (i := 2540) (by decide +kernel)) rfl
theorem ml_X12_789 : Cond.methodLink RX12 789 yX12_tellsTwo ∈ lw_gd := zm (List.mem_of_getElem? (i := 2544) (by decide +kernel)) rfl
theorem ml_X12_793 : Cond.methodLink RX12 793 yX12_rootTold ∈ lw_gd := zm (List.mem_of_getElem? (i := 2548) (by decide +kernel)) rfl
theorem ml_X12_796 : Cond.methodLink RX12 796 yX12_writesBlock ∈ lw_gd := zm (List.mem_of_getElem? (i := 2552) (by decide +kernel)) rfl
theorem ml_X12_799 : Cond.methodLink RX12 799 yX12_checked ∈ lw_gd := zm (List.mem_of_getElem? (i := 2556) (by decide +kernel)) rfl
theorem ml_X12_806 : Cond.methodLink RX12 806 yX12_byteRead ∈ lw_gd := zm (List.mem_of_getElem? (i := 2571) (by decide +kernel)) rfl
theorem ml_X12_809 : Cond.methodLink RX12 809 yX12_twoRead ∈ lw_gd := zm (List.mem_of_getElem? (i := 2575) (by decide +kernel)) rfl
theorem ml_X12_812 : Cond.methodLink RX12 812 yX12_isLaidBlock ∈ lw_gd := zm (List.mem_of_getElem? (i := 2579) (by decide +kernel)) rfl
theorem se_X12_byteRead : Cond.selects RX12 yX12_byteRead yX12_byteRead ∈ lw_gd := zm (List.mem_of_getElem? (i := 189) (by decide +kernel)) rfl
theorem se_X12_isLaidBlock : Cond.selects RX12 yX12_isLaidBlock yX12_isLaidBlock ∈ lw_gd := zm (List.mem_of_getElem? (i := 191) (by decide +kernel)) rfl
theorem se_X12_rootTold : Cond.selects RX12 yX12_rootTold yX12_rootTold ∈ lw_gd := zm (List.mem_of_getElem? (i := 185) (by decide +kernel)) rfl
theorem se_X12_tellsByte : Cond.selects RX12 yX12_tellsByte yX12_tellsByte ∈ lw_gd := zm (List.mem_of_getElem? (i := 183) (by decide +kernel)) rfl
theorem se_X12_tellsTwo : Cond.selects RX12 yX12_tellsTwo yX12_tellsTwo ∈ lw_gd := zm (List.mem_of_getElem? (i := 184) (by decide +kernel)) rfl
theorem se_X12_twoRead : Cond.selects RX12 yX12_twoRead yX12_twoRead ∈ lw_gd := zm (List.mem_of_getElem? (i := 190) (by decide +kernel)) rfl
theorem se_X12_writesBlock : Cond.selects RX12 yX12_writesBlock yX12_writesBlock ∈ lw_gd := zm (List.mem_of_getElem? (i := 186) (by decide +kernel)) rfl
theorem st_X12_checked : Cond.static yX12_checked ∈ lw_gd := zm (List.mem_of_getElem? (i := 2557) (by decide +kernel)) rfl
theorem dX12_byteRead_0 : decode cX12_byteRead 0 = .ok (.aload_n 0, 1) := by decide +kernel
theorem dX12_byteRead_1 : decode cX12_byteRead 1 = .ok (.dup, 1) := by decide +kernel
theorem dX12_byteRead_2 : decode cX12_byteRead 2 = .ok (.getfield 803, 3) := by decide +kernel
theorem dX12_byteRead_5 : decode cX12_byteRead 5 = .ok (.iconst 1, 1) := by decide +kernel
theorem dX12_byteRead_6 : decode cX12_byteRead 6 = .ok (.iadd, 1) := by decide +kernel
theorem dX12_byteRead_7 : decode cX12_byteRead 7 = .ok (.putfield 803, 3) := by decide +kernel
theorem dX12_byteRead_10 : decode cX12_byteRead 10 = .ok (.aload_n 0, 1) := by decide +kernel
theorem dX12_byteRead_11 : decode cX12_byteRead 11 = .ok (.getfield 803, 3) := by decide +kernel
theorem dX12_byteRead_14 : decode cX12_byteRead 14 = .ok (.iload_n 1, 1) := by decide +kernel
theorem dX12_byteRead_15 : decode cX12_byteRead 15 = .ok (.if_icmp .gt 17, 3) := by decide +kernel
theorem dX12_byteRead_18 : decode cX12_byteRead 18 = .ok (.aload_n 0, 1) := by decide +kernel
theorem dX12_byteRead_19 : decode cX12_byteRead 19 = .ok (.getfield 7, 3) := by decide +kernel
theorem dX12_byteRead_22 : decode cX12_byteRead 22 = .ok (.aload_n 0, 1) := by decide +kernel
theorem dX12_byteRead_23 : decode cX12_byteRead 23 = .ok (.getfield 803, 3) := by decide +kernel
theorem dX12_byteRead_26 : decode cX12_byteRead 26 = .ok (.iconst 1, 1) := by decide +kernel
theorem dX12_byteRead_27 : decode cX12_byteRead 27 = .ok (.isub, 1) := by decide +kernel
theorem dX12_byteRead_28 : decode cX12_byteRead 28 = .ok (.iaload, 1) := by decide +kernel
theorem dX12_byteRead_29 : decode cX12_byteRead 29 = .ok (.goto 4, 3) := by decide +kernel
theorem dX12_byteRead_32 : decode cX12_byteRead 32 = .ok (.iconst (-1), 1) := by decide +kernel
theorem dX12_byteRead_33 : decode cX12_byteRead 33 = .ok (.ireturn, 1) := by decide +kernel
theorem dX12_checked_0 : decode cX12_checked 0 = .ok (.sipush 157, 3) := by decide +kernel
theorem dX12_checked_3 : decode cX12_checked 3 = .ok (.istore_n 2, 1) := by decide +kernel
theorem dX12_checked_4 : decode cX12_checked 4 = .ok (.iconst 0, 1) := by decide +kernel
theorem dX12_checked_5 : decode cX12_checked 5 = .ok (.istore_n 3, 1) := by decide +kernel
theorem dX12_checked_6 : decode cX12_checked 6 = .ok (.iload_n 3, 1) := by decide +kernel
theorem dX12_checked_7 : decode cX12_checked 7 = .ok (.iload_n 1, 1) := by decide +kernel
theorem dX12_checked_8 : decode cX12_checked 8 = .ok (.if_icmp .ge 21, 3) := by decide +kernel
theorem dX12_checked_11 : decode cX12_checked 11 = .ok (.iconst 3, 1) := by decide +kernel
theorem dX12_checked_12 : decode cX12_checked 12 = .ok (.iload_n 2, 1) := by decide +kernel
theorem dX12_checked_13 : decode cX12_checked 13 = .ok (.imul, 1) := by decide +kernel
theorem dX12_checked_14 : decode cX12_checked 14 = .ok (.aload_n 0, 1) := by decide +kernel
theorem dX12_checked_15 : decode cX12_checked 15 = .ok (.iload_n 3, 1) := by decide +kernel
theorem dX12_checked_16 : decode cX12_checked 16 = .ok (.iaload, 1) := by decide +kernel
theorem dX12_checked_17 : decode cX12_checked 17 = .ok (.iadd, 1) := by decide +kernel
theorem dX12_checked_18 : decode cX12_checked 18 = .ok (.sipush 251, 3) := by decide +kernel
theorem dX12_checked_21 : decode cX12_checked 21 = .ok (.irem, 1) := by decide +kernel
theorem dX12_checked_22 : decode cX12_checked 22 = .ok (.istore_n 2, 1) := by decide +kernel
theorem dX12_checked_23 : decode cX12_checked 23 = .ok (.iinc 3 1, 3) := by decide +kernel
theorem dX12_checked_26 : decode cX12_checked 26 = .ok (.goto (-20), 3) := by decide +kernel
theorem dX12_checked_29 : decode cX12_checked 29 = .ok (.iload_n 2, 1) := by decide +kernel
theorem dX12_checked_30 : decode cX12_checked 30 = .ok (.ireturn, 1) := by decide +kernel
theorem dX12_image_0 : decode cX12_image 0 = .ok (.aload_n 0, 1) := by decide +kernel
theorem dX12_image_1 : decode cX12_image 1 = .ok (.iconst 0, 1) := by decide +kernel
theorem dX12_image_2 : decode cX12_image 2 = .ok (.putfield 783, 3) := by decide +kernel
theorem dX12_image_5 : decode cX12_image 5 = .ok (.aload_n 0, 1) := by decide +kernel
theorem dX12_image_6 : decode cX12_image 6 = .ok (.aload_n 0, 1) := by decide +kernel
theorem dX12_image_7 : decode cX12_image 7 = .ok (.getfield 121, 3) := by decide +kernel
theorem dX12_image_10 : decode cX12_image 10 = .ok (.bipush 16, 2) := by decide +kernel
theorem dX12_image_12 : decode cX12_image 12 = .ok (.iaload, 1) := by decide +kernel
theorem dX12_image_13 : decode cX12_image 13 = .ok (.ldc_w 792, 3) := by decide +kernel
theorem dX12_image_16 : decode cX12_image 16 = .ok (.idiv, 1) := by decide +kernel
theorem dX12_image_17 : decode cX12_image 17 = .ok (.invokevirtual 786, 3) := by decide +kernel
theorem dX12_image_20 : decode cX12_image 20 = .ok (.aload_n 0, 1) := by decide +kernel
theorem dX12_image_21 : decode cX12_image 21 = .ok (.aload_n 0, 1) := by decide +kernel
theorem dX12_image_22 : decode cX12_image 22 = .ok (.getfield 121, 3) := by decide +kernel
theorem dX12_image_25 : decode cX12_image 25 = .ok (.bipush 16, 2) := by decide +kernel
theorem dX12_image_27 : decode cX12_image 27 = .ok (.iaload, 1) := by decide +kernel
theorem dX12_image_28 : decode cX12_image 28 = .ok (.ldc_w 792, 3) := by decide +kernel
theorem dX12_image_31 : decode cX12_image 31 = .ok (.irem, 1) := by decide +kernel
theorem dX12_image_32 : decode cX12_image 32 = .ok (.invokevirtual 789, 3) := by decide +kernel
theorem dX12_image_35 : decode cX12_image 35 = .ok (.iconst 0, 1) := by decide +kernel
theorem dX12_image_36 : decode cX12_image 36 = .ok (.istore_n 1, 1) := by decide +kernel
theorem dX12_image_37 : decode cX12_image 37 = .ok (.iload_n 1, 1) := by decide +kernel
theorem dX12_image_38 : decode cX12_image 38 = .ok (.bipush 8, 2) := by decide +kernel
theorem dX12_image_40 : decode cX12_image 40 = .ok (.if_icmp .ge 30, 3) := by decide +kernel
theorem dX12_image_43 : decode cX12_image 43 = .ok (.aload_n 0, 1) := by decide +kernel
theorem dX12_image_44 : decode cX12_image 44 = .ok (.aload_n 0, 1) := by decide +kernel
theorem dX12_image_45 : decode cX12_image 45 = .ok (.iload_n 1, 1) := by decide +kernel
theorem dX12_image_46 : decode cX12_image 46 = .ok (.invokevirtual 793, 3) := by decide +kernel
theorem dX12_image_49 : decode cX12_image 49 = .ok (.invokevirtual 786, 3) := by decide +kernel
theorem dX12_image_52 : decode cX12_image 52 = .ok (.aload_n 0, 1) := by decide +kernel
theorem dX12_image_53 : decode cX12_image 53 = .ok (.aload_n 0, 1) := by decide +kernel
theorem dX12_image_54 : decode cX12_image 54 = .ok (.bipush 8, 2) := by decide +kernel
theorem dX12_image_56 : decode cX12_image 56 = .ok (.iload_n 1, 1) := by decide +kernel
theorem dX12_image_57 : decode cX12_image 57 = .ok (.iadd, 1) := by decide +kernel
theorem dX12_image_58 : decode cX12_image 58 = .ok (.invokevirtual 793, 3) := by decide +kernel
theorem dX12_image_61 : decode cX12_image 61 = .ok (.invokevirtual 786, 3) := by decide +kernel
theorem dX12_image_64 : decode cX12_image 64 = .ok (.iinc 1 1, 3) := by decide +kernel
theorem dX12_image_67 : decode cX12_image 67 = .ok (.goto (-30), 3) := by decide +kernel
theorem dX12_image_70 : decode cX12_image 70 = .ok (.iconst 0, 1) := by decide +kernel
theorem dX12_image_71 : decode cX12_image 71 = .ok (.istore_n 1, 1) := by decide +kernel
theorem dX12_image_72 : decode cX12_image 72 = .ok (.iload_n 1, 1) := by decide +kernel
theorem dX12_image_73 : decode cX12_image 73 = .ok (.aload_n 0, 1) := by decide +kernel
theorem dX12_image_74 : decode cX12_image 74 = .ok (.invokevirtual 429, 3) := by decide +kernel
theorem dX12_image_77 : decode cX12_image 77 = .ok (.if_icmp .ge 14, 3) := by decide +kernel
theorem dX12_image_80 : decode cX12_image 80 = .ok (.aload_n 0, 1) := by decide +kernel
theorem dX12_image_81 : decode cX12_image 81 = .ok (.iload_n 1, 1) := by decide +kernel
theorem dX12_image_82 : decode cX12_image 82 = .ok (.invokevirtual 796, 3) := by decide +kernel
theorem dX12_image_85 : decode cX12_image 85 = .ok (.iinc 1 1, 3) := by decide +kernel
theorem dX12_image_88 : decode cX12_image 88 = .ok (.goto (-16), 3) := by decide +kernel
theorem dX12_image_91 : decode cX12_image 91 = .ok (.aload_n 0, 1) := by decide +kernel
theorem dX12_image_92 : decode cX12_image 92 = .ok (.aload_n 0, 1) := by decide +kernel
theorem dX12_image_93 : decode cX12_image 93 = .ok (.getfield 252, 3) := by decide +kernel
theorem dX12_image_96 : decode cX12_image 96 = .ok (.aload_n 0, 1) := by decide +kernel
theorem dX12_image_97 : decode cX12_image 97 = .ok (.getfield 783, 3) := by decide +kernel
theorem dX12_image_100 : decode cX12_image 100 = .ok (.invokestatic 799, 3) := by decide +kernel
theorem dX12_image_103 : decode cX12_image 103 = .ok (.invokevirtual 786, 3) := by decide +kernel
theorem dX12_image_106 : decode cX12_image 106 = .ok (.aload_n 0, 1) := by decide +kernel
theorem dX12_image_107 : decode cX12_image 107 = .ok (.getfield 783, 3) := by decide +kernel
theorem dX12_image_110 : decode cX12_image 110 = .ok (.ireturn, 1) := by decide +kernel
theorem dX12_isLaid_0 : decode cX12_isLaid 0 = .ok (.aload_n 0, 1) := by decide +kernel
theorem dX12_isLaid_1 : decode cX12_isLaid 1 = .ok (.iconst 0, 1) := by decide +kernel
theorem dX12_isLaid_2 : decode cX12_isLaid 2 = .ok (.putfield 803, 3) := by decide +kernel
theorem dX12_isLaid_5 : decode cX12_isLaid 5 = .ok (.aload_n 0, 1) := by decide +kernel
theorem dX12_isLaid_6 : decode cX12_isLaid 6 = .ok (.iload_n 1, 1) := by decide +kernel
theorem dX12_isLaid_7 : decode cX12_isLaid 7 = .ok (.invokevirtual 806, 3) := by decide +kernel
theorem dX12_isLaid_10 : decode cX12_isLaid 10 = .ok (.istore_n 2, 1) := by decide +kernel
theorem dX12_isLaid_11 : decode cX12_isLaid 11 = .ok (.aload_n 0, 1) := by decide +kernel
theorem dX12_isLaid_12 : decode cX12_isLaid 12 = .ok (.iload_n 1, 1) := by decide +kernel
theorem dX12_isLaid_13 : decode cX12_isLaid 13 = .ok (.invokevirtual 809, 3) := by decide +kernel
theorem dX12_isLaid_16 : decode cX12_isLaid 16 = .ok (.istore_n 3, 1) := by decide +kernel
theorem dX12_isLaid_17 : decode cX12_isLaid 17 = .ok (.aload_n 0, 1) := by decide +kernel
theorem dX12_isLaid_18 : decode cX12_isLaid 18 = .ok (.getfield 255, 3) := by decide +kernel
theorem dX12_isLaid_21 : decode cX12_isLaid 21 = .ok (.bipush 16, 2) := by decide +kernel
theorem dX12_isLaid_23 : decode cX12_isLaid 23 = .ok (.ldc_w 792, 3) := by decide +kernel
theorem dX12_isLaid_26 : decode cX12_isLaid 26 = .ok (.iload_n 2, 1) := by decide +kernel
theorem dX12_isLaid_27 : decode cX12_isLaid 27 = .ok (.imul, 1) := by decide +kernel
theorem dX12_isLaid_28 : decode cX12_isLaid 28 = .ok (.iload_n 3, 1) := by decide +kernel
theorem dX12_isLaid_29 : decode cX12_isLaid 29 = .ok (.iadd, 1) := by decide +kernel
theorem dX12_isLaid_30 : decode cX12_isLaid 30 = .ok (.iastore, 1) := by decide +kernel
theorem dX12_isLaid_31 : decode cX12_isLaid 31 = .ok (.iload_n 2, 1) := by decide +kernel
theorem dX12_isLaid_32 : decode cX12_isLaid 32 = .ok (.iconst (-1), 1) := by decide +kernel
theorem dX12_isLaid_33 : decode cX12_isLaid 33 = .ok (.if_icmp .eq 21, 3) := by decide +kernel
theorem dX12_isLaid_36 : decode cX12_isLaid 36 = .ok (.iload_n 3, 1) := by decide +kernel
theorem dX12_isLaid_37 : decode cX12_isLaid 37 = .ok (.iconst (-1), 1) := by decide +kernel
theorem dX12_isLaid_38 : decode cX12_isLaid 38 = .ok (.if_icmp .eq 16, 3) := by decide +kernel
theorem dX12_isLaid_41 : decode cX12_isLaid 41 = .ok (.aload_n 0, 1) := by decide +kernel
theorem dX12_isLaid_42 : decode cX12_isLaid 42 = .ok (.getfield 255, 3) := by decide +kernel
theorem dX12_isLaid_45 : decode cX12_isLaid 45 = .ok (.bipush 16, 2) := by decide +kernel
theorem dX12_isLaid_47 : decode cX12_isLaid 47 = .ok (.iaload, 1) := by decide +kernel
theorem dX12_isLaid_48 : decode cX12_isLaid 48 = .ok (.ldc_w 492, 3) := by decide +kernel
theorem dX12_isLaid_51 : decode cX12_isLaid 51 = .ok (.if_icmp .le 5, 3) := by decide +kernel
theorem dX12_isLaid_54 : decode cX12_isLaid 54 = .ok (.iconst 0, 1) := by decide +kernel
theorem dX12_isLaid_55 : decode cX12_isLaid 55 = .ok (.ireturn, 1) := by decide +kernel
theorem dX12_isLaid_56 : decode cX12_isLaid 56 = .ok (.iconst 0, 1) := by decide +kernel
theorem dX12_isLaid_57 : decode cX12_isLaid 57 = .ok (.istore 4, 2) := by decide +kernel
theorem dX12_isLaid_59 : decode cX12_isLaid 59 = .ok (.iload 4, 2) := by decide +kernel
theorem dX12_isLaid_61 : decode cX12_isLaid 61 = .ok (.bipush 8, 2) := by decide +kernel
theorem dX12_isLaid_63 : decode cX12_isLaid 63 = .ok (.if_icmp .ge 36, 3) := by decide +kernel
theorem dX12_isLaid_66 : decode cX12_isLaid 66 = .ok (.aload_n 0, 1) := by decide +kernel
theorem dX12_isLaid_67 : decode cX12_isLaid 67 = .ok (.getfield 255, 3) := by decide +kernel
theorem dX12_isLaid_70 : decode cX12_isLaid 70 = .ok (.iload 4, 2) := by decide +kernel
theorem dX12_isLaid_72 : decode cX12_isLaid 72 = .ok (.aload_n 0, 1) := by decide +kernel
theorem dX12_isLaid_73 : decode cX12_isLaid 73 = .ok (.iload_n 1, 1) := by decide +kernel
theorem dX12_isLaid_74 : decode cX12_isLaid 74 = .ok (.invokevirtual 806, 3) := by decide +kernel
theorem dX12_isLaid_77 : decode cX12_isLaid 77 = .ok (.iastore, 1) := by decide +kernel
theorem dX12_isLaid_78 : decode cX12_isLaid 78 = .ok (.aload_n 0, 1) := by decide +kernel
theorem dX12_isLaid_79 : decode cX12_isLaid 79 = .ok (.getfield 255, 3) := by decide +kernel
theorem dX12_isLaid_82 : decode cX12_isLaid 82 = .ok (.bipush 8, 2) := by decide +kernel
theorem dX12_isLaid_84 : decode cX12_isLaid 84 = .ok (.iload 4, 2) := by decide +kernel
theorem dX12_isLaid_86 : decode cX12_isLaid 86 = .ok (.iadd, 1) := by decide +kernel
theorem dX12_isLaid_87 : decode cX12_isLaid 87 = .ok (.aload_n 0, 1) := by decide +kernel
theorem dX12_isLaid_88 : decode cX12_isLaid 88 = .ok (.iload_n 1, 1) := by decide +kernel
theorem dX12_isLaid_89 : decode cX12_isLaid 89 = .ok (.invokevirtual 806, 3) := by decide +kernel
theorem dX12_isLaid_92 : decode cX12_isLaid 92 = .ok (.iastore, 1) := by decide +kernel
theorem dX12_isLaid_93 : decode cX12_isLaid 93 = .ok (.iinc 4 1, 3) := by decide +kernel
theorem dX12_isLaid_96 : decode cX12_isLaid 96 = .ok (.goto (-37), 3) := by decide +kernel
theorem dX12_isLaid_99 : decode cX12_isLaid 99 = .ok (.iconst 0, 1) := by decide +kernel
theorem dX12_isLaid_100 : decode cX12_isLaid 100 = .ok (.istore 4, 2) := by decide +kernel
theorem dX12_isLaid_102 : decode cX12_isLaid 102 = .ok (.iload 4, 2) := by decide +kernel
theorem dX12_isLaid_104 : decode cX12_isLaid 104 = .ok (.aload_n 0, 1) := by decide +kernel
theorem dX12_isLaid_105 : decode cX12_isLaid 105 = .ok (.invokevirtual 429, 3) := by decide +kernel
theorem dX12_isLaid_108 : decode cX12_isLaid 108 = .ok (.if_icmp .ge 21, 3) := by decide +kernel
theorem dX12_isLaid_111 : decode cX12_isLaid 111 = .ok (.aload_n 0, 1) := by decide +kernel
theorem dX12_isLaid_112 : decode cX12_isLaid 112 = .ok (.iload 4, 2) := by decide +kernel
theorem dX12_isLaid_114 : decode cX12_isLaid 114 = .ok (.iload_n 1, 1) := by decide +kernel
theorem dX12_isLaid_115 : decode cX12_isLaid 115 = .ok (.invokevirtual 812, 3) := by decide +kernel
theorem dX12_isLaid_118 : decode cX12_isLaid 118 = .ok (.ifCond .ne 5, 3) := by decide +kernel
theorem dX12_isLaid_121 : decode cX12_isLaid 121 = .ok (.iconst 0, 1) := by decide +kernel
theorem dX12_isLaid_122 : decode cX12_isLaid 122 = .ok (.ireturn, 1) := by decide +kernel
theorem dX12_isLaid_123 : decode cX12_isLaid 123 = .ok (.iinc 4 1, 3) := by decide +kernel
theorem dX12_isLaid_126 : decode cX12_isLaid 126 = .ok (.goto (-24), 3) := by decide +kernel
theorem dX12_isLaid_129 : decode cX12_isLaid 129 = .ok (.aload_n 0, 1) := by decide +kernel
theorem dX12_isLaid_130 : decode cX12_isLaid 130 = .ok (.invokevirtual 429, 3) := by decide +kernel
theorem dX12_isLaid_133 : decode cX12_isLaid 133 = .ok (.istore 4, 2) := by decide +kernel
theorem dX12_isLaid_135 : decode cX12_isLaid 135 = .ok (.iload 4, 2) := by decide +kernel
theorem dX12_isLaid_137 : decode cX12_isLaid 137 = .ok (.bipush 48, 2) := by decide +kernel
theorem dX12_isLaid_139 : decode cX12_isLaid 139 = .ok (.if_icmp .ge 42, 3) := by decide +kernel
theorem dX12_isLaid_142 : decode cX12_isLaid 142 = .ok (.iconst 0, 1) := by decide +kernel
theorem dX12_isLaid_143 : decode cX12_isLaid 143 = .ok (.istore 5, 2) := by decide +kernel
theorem dX12_isLaid_145 : decode cX12_isLaid 145 = .ok (.iload 5, 2) := by decide +kernel
theorem dX12_isLaid_147 : decode cX12_isLaid 147 = .ok (.bipush 16, 2) := by decide +kernel
theorem dX12_isLaid_149 : decode cX12_isLaid 149 = .ok (.if_icmp .ge 26, 3) := by decide +kernel
theorem dX12_isLaid_152 : decode cX12_isLaid 152 = .ok (.aload_n 0, 1) := by decide +kernel
theorem dX12_isLaid_153 : decode cX12_isLaid 153 = .ok (.getfield 255, 3) := by decide +kernel
theorem dX12_isLaid_156 : decode cX12_isLaid 156 = .ok (.bipush 17, 2) := by decide +kernel
theorem dX12_isLaid_158 : decode cX12_isLaid 158 = .ok (.bipush 16, 2) := by decide +kernel
theorem dX12_isLaid_160 : decode cX12_isLaid 160 = .ok (.iload 4, 2) := by decide +kernel
theorem dX12_isLaid_162 : decode cX12_isLaid 162 = .ok (.imul, 1) := by decide +kernel
theorem dX12_isLaid_163 : decode cX12_isLaid 163 = .ok (.iadd, 1) := by decide +kernel
theorem dX12_isLaid_164 : decode cX12_isLaid 164 = .ok (.iload 5, 2) := by decide +kernel
theorem dX12_isLaid_166 : decode cX12_isLaid 166 = .ok (.iadd, 1) := by decide +kernel
theorem dX12_isLaid_167 : decode cX12_isLaid 167 = .ok (.iconst 0, 1) := by decide +kernel
theorem dX12_isLaid_168 : decode cX12_isLaid 168 = .ok (.iastore, 1) := by decide +kernel
theorem dX12_isLaid_169 : decode cX12_isLaid 169 = .ok (.iinc 5 1, 3) := by decide +kernel
theorem dX12_isLaid_172 : decode cX12_isLaid 172 = .ok (.goto (-27), 3) := by decide +kernel
theorem dX12_isLaid_175 : decode cX12_isLaid 175 = .ok (.iinc 4 1, 3) := by decide +kernel
theorem dX12_isLaid_178 : decode cX12_isLaid 178 = .ok (.goto (-43), 3) := by decide +kernel
theorem dX12_isLaid_181 : decode cX12_isLaid 181 = .ok (.aload_n 0, 1) := by decide +kernel
theorem dX12_isLaid_182 : decode cX12_isLaid 182 = .ok (.getfield 803, 3) := by decide +kernel
theorem dX12_isLaid_185 : decode cX12_isLaid 185 = .ok (.iload_n 1, 1) := by decide +kernel
theorem dX12_isLaid_186 : decode cX12_isLaid 186 = .ok (.if_icmp .ne 7, 3) := by decide +kernel
theorem dX12_isLaid_189 : decode cX12_isLaid 189 = .ok (.iconst 1, 1) := by decide +kernel
theorem dX12_isLaid_190 : decode cX12_isLaid 190 = .ok (.goto 4, 3) := by decide +kernel
theorem dX12_isLaid_193 : decode cX12_isLaid 193 = .ok (.iconst 0, 1) := by decide +kernel
theorem dX12_isLaid_194 : decode cX12_isLaid 194 = .ok (.ireturn, 1) := by decide +kernel
theorem dX12_isLaidBlock_0 : decode cX12_isLaidBlock 0 = .ok (.bipush 17, 2) := by decide +kernel
theorem dX12_isLaidBlock_2 : decode cX12_isLaidBlock 2 = .ok (.bipush 16, 2) := by decide +kernel
theorem dX12_isLaidBlock_4 : decode cX12_isLaidBlock 4 = .ok (.iload_n 1, 1) := by decide +kernel
theorem dX12_isLaidBlock_5 : decode cX12_isLaidBlock 5 = .ok (.imul, 1) := by decide +kernel
theorem dX12_isLaidBlock_6 : decode cX12_isLaidBlock 6 = .ok (.iadd, 1) := by decide +kernel
theorem dX12_isLaidBlock_7 : decode cX12_isLaidBlock 7 = .ok (.istore_n 3, 1) := by decide +kernel
theorem dX12_isLaidBlock_8 : decode cX12_isLaidBlock 8 = .ok (.iconst 0, 1) := by decide +kernel
theorem dX12_isLaidBlock_9 : decode cX12_isLaidBlock 9 = .ok (.istore 4, 2) := by decide +kernel
theorem dX12_isLaidBlock_11 : decode cX12_isLaidBlock 11 = .ok (.iload 4, 2) := by decide +kernel
theorem dX12_isLaidBlock_13 : decode cX12_isLaidBlock 13 = .ok (.bipush 16, 2) := by decide +kernel
theorem dX12_isLaidBlock_15 : decode cX12_isLaidBlock 15 = .ok (.if_icmp .ge 19, 3) := by decide +kernel
theorem dX12_isLaidBlock_18 : decode cX12_isLaidBlock 18 = .ok (.aload_n 0, 1) := by decide +kernel
theorem dX12_isLaidBlock_19 : decode cX12_isLaidBlock 19 = .ok (.getfield 255, 3) := by decide +kernel
theorem dX12_isLaidBlock_22 : decode cX12_isLaidBlock 22 = .ok (.iload_n 3, 1) := by decide +kernel
theorem dX12_isLaidBlock_23 : decode cX12_isLaidBlock 23 = .ok (.iload 4, 2) := by decide +kernel
theorem dX12_isLaidBlock_25 : decode cX12_isLaidBlock 25 = .ok (.iadd, 1) := by decide +kernel
theorem dX12_isLaidBlock_26 : decode cX12_isLaidBlock 26 = .ok (.iconst 0, 1) := by decide +kernel
theorem dX12_isLaidBlock_27 : decode cX12_isLaidBlock 27 = .ok (.iastore, 1) := by decide +kernel
theorem dX12_isLaidBlock_28 : decode cX12_isLaidBlock 28 = .ok (.iinc 4 1, 3) := by decide +kernel
theorem dX12_isLaidBlock_31 : decode cX12_isLaidBlock 31 = .ok (.goto (-20), 3) := by decide +kernel
theorem dX12_isLaidBlock_34 : decode cX12_isLaidBlock 34 = .ok (.aload_n 0, 1) := by decide +kernel
theorem dX12_isLaidBlock_35 : decode cX12_isLaidBlock 35 = .ok (.getfield 255, 3) := by decide +kernel
theorem dX12_isLaidBlock_38 : decode cX12_isLaidBlock 38 = .ok (.iload_n 3, 1) := by decide +kernel
theorem dX12_isLaidBlock_39 : decode cX12_isLaidBlock 39 = .ok (.aload_n 0, 1) := by decide +kernel
theorem dX12_isLaidBlock_40 : decode cX12_isLaidBlock 40 = .ok (.iload_n 2, 1) := by decide +kernel
theorem dX12_isLaidBlock_41 : decode cX12_isLaidBlock 41 = .ok (.invokevirtual 806, 3) := by decide +kernel
theorem dX12_isLaidBlock_44 : decode cX12_isLaidBlock 44 = .ok (.iastore, 1) := by decide +kernel
theorem dX12_isLaidBlock_45 : decode cX12_isLaidBlock 45 = .ok (.aload_n 0, 1) := by decide +kernel
theorem dX12_isLaidBlock_46 : decode cX12_isLaidBlock 46 = .ok (.getfield 255, 3) := by decide +kernel
theorem dX12_isLaidBlock_49 : decode cX12_isLaidBlock 49 = .ok (.iload_n 3, 1) := by decide +kernel
theorem dX12_isLaidBlock_50 : decode cX12_isLaidBlock 50 = .ok (.iconst 1, 1) := by decide +kernel
theorem dX12_isLaidBlock_51 : decode cX12_isLaidBlock 51 = .ok (.iadd, 1) := by decide +kernel
theorem dX12_isLaidBlock_52 : decode cX12_isLaidBlock 52 = .ok (.aload_n 0, 1) := by decide +kernel
theorem dX12_isLaidBlock_53 : decode cX12_isLaidBlock 53 = .ok (.iload_n 2, 1) := by decide +kernel
theorem dX12_isLaidBlock_54 : decode cX12_isLaidBlock 54 = .ok (.invokevirtual 806, 3) := by decide +kernel
theorem dX12_isLaidBlock_57 : decode cX12_isLaidBlock 57 = .ok (.iastore, 1) := by decide +kernel
theorem dX12_isLaidBlock_58 : decode cX12_isLaidBlock 58 = .ok (.aload_n 0, 1) := by decide +kernel
theorem dX12_isLaidBlock_59 : decode cX12_isLaidBlock 59 = .ok (.getfield 255, 3) := by decide +kernel
theorem dX12_isLaidBlock_62 : decode cX12_isLaidBlock 62 = .ok (.iload_n 3, 1) := by decide +kernel
theorem dX12_isLaidBlock_63 : decode cX12_isLaidBlock 63 = .ok (.iaload, 1) := by decide +kernel
theorem dX12_isLaidBlock_64 : decode cX12_isLaidBlock 64 = .ok (.aload_n 0, 1) := by decide +kernel
theorem dX12_isLaidBlock_65 : decode cX12_isLaidBlock 65 = .ok (.getfield 255, 3) := by decide +kernel
theorem dX12_isLaidBlock_68 : decode cX12_isLaidBlock 68 = .ok (.iload_n 3, 1) := by decide +kernel
theorem dX12_isLaidBlock_69 : decode cX12_isLaidBlock 69 = .ok (.iconst 1, 1) := by decide +kernel
theorem dX12_isLaidBlock_70 : decode cX12_isLaidBlock 70 = .ok (.iadd, 1) := by decide +kernel
theorem dX12_isLaidBlock_71 : decode cX12_isLaidBlock 71 = .ok (.iaload, 1) := by decide +kernel
theorem dX12_isLaidBlock_72 : decode cX12_isLaidBlock 72 = .ok (.iadd, 1) := by decide +kernel
theorem dX12_isLaidBlock_73 : decode cX12_isLaidBlock 73 = .ok (.ifCond .ne 5, 3) := by decide +kernel
theorem dX12_isLaidBlock_76 : decode cX12_isLaidBlock 76 = .ok (.iconst 1, 1) := by decide +kernel
theorem dX12_isLaidBlock_77 : decode cX12_isLaidBlock 77 = .ok (.ireturn, 1) := by decide +kernel
theorem dX12_isLaidBlock_78 : decode cX12_isLaidBlock 78 = .ok (.aload_n 0, 1) := by decide +kernel
theorem dX12_isLaidBlock_79 : decode cX12_isLaidBlock 79 = .ok (.getfield 255, 3) := by decide +kernel
theorem dX12_isLaidBlock_82 : decode cX12_isLaidBlock 82 = .ok (.iload_n 3, 1) := by decide +kernel
theorem dX12_isLaidBlock_83 : decode cX12_isLaidBlock 83 = .ok (.iconst 2, 1) := by decide +kernel
theorem dX12_isLaidBlock_84 : decode cX12_isLaidBlock 84 = .ok (.iadd, 1) := by decide +kernel
theorem dX12_isLaidBlock_85 : decode cX12_isLaidBlock 85 = .ok (.aload_n 0, 1) := by decide +kernel
theorem dX12_isLaidBlock_86 : decode cX12_isLaidBlock 86 = .ok (.iload_n 2, 1) := by decide +kernel
theorem dX12_isLaidBlock_87 : decode cX12_isLaidBlock 87 = .ok (.invokevirtual 806, 3) := by decide +kernel
theorem dX12_isLaidBlock_90 : decode cX12_isLaidBlock 90 = .ok (.iastore, 1) := by decide +kernel
theorem dX12_isLaidBlock_91 : decode cX12_isLaidBlock 91 = .ok (.aload_n 0, 1) := by decide +kernel
theorem dX12_isLaidBlock_92 : decode cX12_isLaidBlock 92 = .ok (.getfield 255, 3) := by decide +kernel
theorem dX12_isLaidBlock_95 : decode cX12_isLaidBlock 95 = .ok (.iload_n 3, 1) := by decide +kernel
theorem dX12_isLaidBlock_96 : decode cX12_isLaidBlock 96 = .ok (.iconst 3, 1) := by decide +kernel
theorem dX12_isLaidBlock_97 : decode cX12_isLaidBlock 97 = .ok (.iadd, 1) := by decide +kernel
theorem dX12_isLaidBlock_98 : decode cX12_isLaidBlock 98 = .ok (.aload_n 0, 1) := by decide +kernel
theorem dX12_isLaidBlock_99 : decode cX12_isLaidBlock 99 = .ok (.iload_n 2, 1) := by decide +kernel
theorem dX12_isLaidBlock_100 : decode cX12_isLaidBlock 100 = .ok (.invokevirtual 806, 3) := by decide +kernel
theorem dX12_isLaidBlock_103 : decode cX12_isLaidBlock 103 = .ok (.iastore, 1) := by decide +kernel
theorem dX12_isLaidBlock_104 : decode cX12_isLaidBlock 104 = .ok (.aload_n 0, 1) := by decide +kernel
theorem dX12_isLaidBlock_105 : decode cX12_isLaidBlock 105 = .ok (.getfield 255, 3) := by decide +kernel
theorem dX12_isLaidBlock_108 : decode cX12_isLaidBlock 108 = .ok (.iload_n 3, 1) := by decide +kernel
theorem dX12_isLaidBlock_109 : decode cX12_isLaidBlock 109 = .ok (.iconst 3, 1) := by decide +kernel
theorem dX12_isLaidBlock_110 : decode cX12_isLaidBlock 110 = .ok (.iadd, 1) := by decide +kernel
theorem dX12_isLaidBlock_111 : decode cX12_isLaidBlock 111 = .ok (.iaload, 1) := by decide +kernel
theorem dX12_isLaidBlock_112 : decode cX12_isLaidBlock 112 = .ok (.i2l, 1) := by decide +kernel
theorem dX12_isLaidBlock_113 : decode cX12_isLaidBlock 113 = .ok (.lconst 1, 1) := by decide +kernel
theorem dX12_isLaidBlock_114 : decode cX12_isLaidBlock 114 = .ok (.aload_n 0, 1) := by decide +kernel
theorem dX12_isLaidBlock_115 : decode cX12_isLaidBlock 115 = .ok (.invokevirtual 523, 3) := by decide +kernel
theorem dX12_isLaidBlock_118 : decode cX12_isLaidBlock 118 = .ok (.i2l, 1) := by decide +kernel
theorem dX12_isLaidBlock_119 : decode cX12_isLaidBlock 119 = .ok (.invokestatic 309, 3) := by decide +kernel
theorem dX12_isLaidBlock_122 : decode cX12_isLaidBlock 122 = .ok (.ifCond .ne 5, 3) := by decide +kernel
theorem dX12_isLaidBlock_125 : decode cX12_isLaidBlock 125 = .ok (.iconst 0, 1) := by decide +kernel
theorem dX12_isLaidBlock_126 : decode cX12_isLaidBlock 126 = .ok (.ireturn, 1) := by decide +kernel
theorem dX12_isLaidBlock_127 : decode cX12_isLaidBlock 127 = .ok (.iconst 0, 1) := by decide +kernel
theorem dX12_isLaidBlock_128 : decode cX12_isLaidBlock 128 = .ok (.istore 4, 2) := by decide +kernel
theorem dX12_isLaidBlock_130 : decode cX12_isLaidBlock 130 = .ok (.iload 4, 2) := by decide +kernel
theorem dX12_isLaidBlock_132 : decode cX12_isLaidBlock 132 = .ok (.aload_n 0, 1) := by decide +kernel
theorem dX12_isLaidBlock_133 : decode cX12_isLaidBlock 133 = .ok (.getfield 255, 3) := by decide +kernel
theorem dX12_isLaidBlock_136 : decode cX12_isLaidBlock 136 = .ok (.iload_n 3, 1) := by decide +kernel
theorem dX12_isLaidBlock_137 : decode cX12_isLaidBlock 137 = .ok (.iconst 3, 1) := by decide +kernel
theorem dX12_isLaidBlock_138 : decode cX12_isLaidBlock 138 = .ok (.iadd, 1) := by decide +kernel
theorem dX12_isLaidBlock_139 : decode cX12_isLaidBlock 139 = .ok (.iaload, 1) := by decide +kernel
theorem dX12_isLaidBlock_140 : decode cX12_isLaidBlock 140 = .ok (.if_icmp .ge 109, 3) := by decide +kernel
theorem dX12_isLaidBlock_143 : decode cX12_isLaidBlock 143 = .ok (.aload_n 0, 1) := by decide +kernel
theorem dX12_isLaidBlock_144 : decode cX12_isLaidBlock 144 = .ok (.getfield 255, 3) := by decide +kernel
theorem dX12_isLaidBlock_147 : decode cX12_isLaidBlock 147 = .ok (.iload_n 3, 1) := by decide +kernel
theorem dX12_isLaidBlock_148 : decode cX12_isLaidBlock 148 = .ok (.iconst 4, 1) := by decide +kernel
theorem dX12_isLaidBlock_149 : decode cX12_isLaidBlock 149 = .ok (.iadd, 1) := by decide +kernel
theorem dX12_isLaidBlock_150 : decode cX12_isLaidBlock 150 = .ok (.iload 4, 2) := by decide +kernel
theorem dX12_isLaidBlock_152 : decode cX12_isLaidBlock 152 = .ok (.iadd, 1) := by decide +kernel
theorem dX12_isLaidBlock_153 : decode cX12_isLaidBlock 153 = .ok (.aload_n 0, 1) := by decide +kernel
theorem dX12_isLaidBlock_154 : decode cX12_isLaidBlock 154 = .ok (.iload_n 2, 1) := by decide +kernel
theorem dX12_isLaidBlock_155 : decode cX12_isLaidBlock 155 = .ok (.invokevirtual 809, 3) := by decide +kernel
theorem dX12_isLaidBlock_158 : decode cX12_isLaidBlock 158 = .ok (.iastore, 1) := by decide +kernel
theorem dX12_isLaidBlock_159 : decode cX12_isLaidBlock 159 = .ok (.aload_n 0, 1) := by decide +kernel
theorem dX12_isLaidBlock_160 : decode cX12_isLaidBlock 160 = .ok (.getfield 255, 3) := by decide +kernel
theorem dX12_isLaidBlock_163 : decode cX12_isLaidBlock 163 = .ok (.iload_n 3, 1) := by decide +kernel
theorem dX12_isLaidBlock_164 : decode cX12_isLaidBlock 164 = .ok (.bipush 10, 2) := by decide +kernel
theorem dX12_isLaidBlock_166 : decode cX12_isLaidBlock 166 = .ok (.iadd, 1) := by decide +kernel
theorem dX12_isLaidBlock_167 : decode cX12_isLaidBlock 167 = .ok (.iload 4, 2) := by decide +kernel
theorem dX12_isLaidBlock_169 : decode cX12_isLaidBlock 169 = .ok (.iadd, 1) := by decide +kernel
theorem dX12_isLaidBlock_170 : decode cX12_isLaidBlock 170 = .ok (.aload_n 0, 1) := by decide +kernel
theorem dX12_isLaidBlock_171 : decode cX12_isLaidBlock 171 = .ok (.iload_n 2, 1) := by decide +kernel
theorem dX12_isLaidBlock_172 : decode cX12_isLaidBlock 172 = .ok (.invokevirtual 809, 3) := by decide +kernel
theorem dX12_isLaidBlock_175 : decode cX12_isLaidBlock 175 = .ok (.iastore, 1) := by decide +kernel
theorem dX12_isLaidBlock_176 : decode cX12_isLaidBlock 176 = .ok (.iload 4, 2) := by decide +kernel
theorem dX12_isLaidBlock_178 : decode cX12_isLaidBlock 178 = .ok (.ifCond .eq 20, 3) := by decide +kernel
theorem dX12_isLaidBlock_181 : decode cX12_isLaidBlock 181 = .ok (.iload 4, 2) := by decide +kernel
theorem dX12_isLaidBlock_183 : decode cX12_isLaidBlock 183 = .ok (.iconst 1, 1) := by decide +kernel
theorem dX12_isLaidBlock_184 : decode cX12_isLaidBlock 184 = .ok (.if_icmp .ne 18, 3) := by decide +kernel
theorem dX12_isLaidBlock_187 : decode cX12_isLaidBlock 187 = .ok (.aload_n 0, 1) := by decide +kernel
theorem dX12_isLaidBlock_188 : decode cX12_isLaidBlock 188 = .ok (.getfield 255, 3) := by decide +kernel
theorem dX12_isLaidBlock_191 : decode cX12_isLaidBlock 191 = .ok (.iload_n 3, 1) := by decide +kernel
theorem dX12_isLaidBlock_192 : decode cX12_isLaidBlock 192 = .ok (.iconst 2, 1) := by decide +kernel
theorem dX12_isLaidBlock_193 : decode cX12_isLaidBlock 193 = .ok (.iadd, 1) := by decide +kernel
theorem dX12_isLaidBlock_194 : decode cX12_isLaidBlock 194 = .ok (.iaload, 1) := by decide +kernel
theorem dX12_isLaidBlock_195 : decode cX12_isLaidBlock 195 = .ok (.ifCond .le 7, 3) := by decide +kernel
theorem dX12_isLaidBlock_198 : decode cX12_isLaidBlock 198 = .ok (.iconst 0, 1) := by decide +kernel
theorem dX12_isLaidBlock_199 : decode cX12_isLaidBlock 199 = .ok (.goto 16, 3) := by decide +kernel
theorem dX12_isLaidBlock_202 : decode cX12_isLaidBlock 202 = .ok (.aload_n 0, 1) := by decide +kernel
theorem dX12_isLaidBlock_203 : decode cX12_isLaidBlock 203 = .ok (.getfield 255, 3) := by decide +kernel
theorem dX12_isLaidBlock_206 : decode cX12_isLaidBlock 206 = .ok (.iload_n 3, 1) := by decide +kernel
theorem dX12_isLaidBlock_207 : decode cX12_isLaidBlock 207 = .ok (.iconst 3, 1) := by decide +kernel
theorem dX12_isLaidBlock_208 : decode cX12_isLaidBlock 208 = .ok (.iadd, 1) := by decide +kernel
theorem dX12_isLaidBlock_209 : decode cX12_isLaidBlock 209 = .ok (.iload 4, 2) := by decide +kernel
theorem dX12_isLaidBlock_211 : decode cX12_isLaidBlock 211 = .ok (.iadd, 1) := by decide +kernel
theorem dX12_isLaidBlock_212 : decode cX12_isLaidBlock 212 = .ok (.iaload, 1) := by decide +kernel
theorem dX12_isLaidBlock_213 : decode cX12_isLaidBlock 213 = .ok (.iconst 1, 1) := by decide +kernel
theorem dX12_isLaidBlock_214 : decode cX12_isLaidBlock 214 = .ok (.iadd, 1) := by decide +kernel
theorem dX12_isLaidBlock_215 : decode cX12_isLaidBlock 215 = .ok (.istore 5, 2) := by decide +kernel
theorem dX12_isLaidBlock_217 : decode cX12_isLaidBlock 217 = .ok (.aload_n 0, 1) := by decide +kernel
theorem dX12_isLaidBlock_218 : decode cX12_isLaidBlock 218 = .ok (.getfield 255, 3) := by decide +kernel
theorem dX12_isLaidBlock_221 : decode cX12_isLaidBlock 221 = .ok (.iload_n 3, 1) := by decide +kernel
theorem dX12_isLaidBlock_222 : decode cX12_isLaidBlock 222 = .ok (.iconst 4, 1) := by decide +kernel
theorem dX12_isLaidBlock_223 : decode cX12_isLaidBlock 223 = .ok (.iadd, 1) := by decide +kernel
theorem dX12_isLaidBlock_224 : decode cX12_isLaidBlock 224 = .ok (.iload 4, 2) := by decide +kernel
theorem dX12_isLaidBlock_226 : decode cX12_isLaidBlock 226 = .ok (.iadd, 1) := by decide +kernel
theorem dX12_isLaidBlock_227 : decode cX12_isLaidBlock 227 = .ok (.iaload, 1) := by decide +kernel
theorem dX12_isLaidBlock_228 : decode cX12_isLaidBlock 228 = .ok (.i2l, 1) := by decide +kernel
theorem dX12_isLaidBlock_229 : decode cX12_isLaidBlock 229 = .ok (.iload 5, 2) := by decide +kernel
theorem dX12_isLaidBlock_231 : decode cX12_isLaidBlock 231 = .ok (.i2l, 1) := by decide +kernel
theorem dX12_isLaidBlock_232 : decode cX12_isLaidBlock 232 = .ok (.ldc2_w 624, 3) := by decide +kernel
theorem dX12_isLaidBlock_235 : decode cX12_isLaidBlock 235 = .ok (.invokestatic 309, 3) := by decide +kernel
theorem dX12_isLaidBlock_238 : decode cX12_isLaidBlock 238 = .ok (.ifCond .ne 5, 3) := by decide +kernel
theorem dX12_isLaidBlock_241 : decode cX12_isLaidBlock 241 = .ok (.iconst 0, 1) := by decide +kernel
theorem dX12_isLaidBlock_242 : decode cX12_isLaidBlock 242 = .ok (.ireturn, 1) := by decide +kernel
theorem dX12_isLaidBlock_243 : decode cX12_isLaidBlock 243 = .ok (.iinc 4 1, 3) := by decide +kernel
theorem dX12_isLaidBlock_246 : decode cX12_isLaidBlock 246 = .ok (.goto (-116), 3) := by decide +kernel
theorem dX12_isLaidBlock_249 : decode cX12_isLaidBlock 249 = .ok (.aload_n 0, 1) := by decide +kernel
theorem dX12_isLaidBlock_250 : decode cX12_isLaidBlock 250 = .ok (.getfield 803, 3) := by decide +kernel
theorem dX12_isLaidBlock_253 : decode cX12_isLaidBlock 253 = .ok (.iload_n 2, 1) := by decide +kernel
theorem dX12_isLaidBlock_254 : decode cX12_isLaidBlock 254 = .ok (.if_icmp .gt 7, 3) := by decide +kernel
theorem dX12_isLaidBlock_257 : decode cX12_isLaidBlock 257 = .ok (.iconst 1, 1) := by decide +kernel
theorem dX12_isLaidBlock_258 : decode cX12_isLaidBlock 258 = .ok (.goto 4, 3) := by decide +kernel
theorem dX12_isLaidBlock_261 : decode cX12_isLaidBlock 261 = .ok (.iconst 0, 1) := by decide +kernel
theorem dX12_isLaidBlock_262 : decode cX12_isLaidBlock 262 = .ok (.ireturn, 1) := by decide +kernel
theorem dX12_laidOf_0 : decode cX12_laidOf 0 = .ok (.aload_n 0, 1) := by decide +kernel
theorem dX12_laidOf_1 : decode cX12_laidOf 1 = .ok (.getfield 255, 3) := by decide +kernel
theorem dX12_laidOf_4 : decode cX12_laidOf 4 = .ok (.bipush 17, 2) := by decide +kernel
theorem dX12_laidOf_6 : decode cX12_laidOf 6 = .ok (.bipush 16, 2) := by decide +kernel
theorem dX12_laidOf_8 : decode cX12_laidOf 8 = .ok (.iload_n 1, 1) := by decide +kernel
theorem dX12_laidOf_9 : decode cX12_laidOf 9 = .ok (.imul, 1) := by decide +kernel
theorem dX12_laidOf_10 : decode cX12_laidOf 10 = .ok (.iadd, 1) := by decide +kernel
theorem dX12_laidOf_11 : decode cX12_laidOf 11 = .ok (.iload_n 2, 1) := by decide +kernel
theorem dX12_laidOf_12 : decode cX12_laidOf 12 = .ok (.iadd, 1) := by decide +kernel
theorem dX12_laidOf_13 : decode cX12_laidOf 13 = .ok (.iaload, 1) := by decide +kernel
theorem dX12_laidOf_14 : decode cX12_laidOf 14 = .ok (.ireturn, 1) := by decide +kernel
theorem dX12_octet_0 : decode cX12_octet 0 = .ok (.iload_n 1, 1) := by decide +kernel
theorem dX12_octet_1 : decode cX12_octet 1 = .ok (.ifCond .lt 20, 3) := by decide +kernel
theorem dX12_octet_4 : decode cX12_octet 4 = .ok (.iload_n 1, 1) := by decide +kernel
theorem dX12_octet_5 : decode cX12_octet 5 = .ok (.aload_n 0, 1) := by decide +kernel
theorem dX12_octet_6 : decode cX12_octet 6 = .ok (.getfield 783, 3) := by decide +kernel
theorem dX12_octet_9 : decode cX12_octet 9 = .ok (.if_icmp .ge 12, 3) := by decide +kernel
theorem dX12_octet_12 : decode cX12_octet 12 = .ok (.aload_n 0, 1) := by decide +kernel
theorem dX12_octet_13 : decode cX12_octet 13 = .ok (.getfield 252, 3) := by decide +kernel
theorem dX12_octet_16 : decode cX12_octet 16 = .ok (.iload_n 1, 1) := by decide +kernel
theorem dX12_octet_17 : decode cX12_octet 17 = .ok (.iaload, 1) := by decide +kernel
theorem dX12_octet_18 : decode cX12_octet 18 = .ok (.goto 4, 3) := by decide +kernel
theorem dX12_octet_21 : decode cX12_octet 21 = .ok (.iconst (-1), 1) := by decide +kernel
theorem dX12_octet_22 : decode cX12_octet 22 = .ok (.ireturn, 1) := by decide +kernel
theorem dX12_rootTold_0 : decode cX12_rootTold 0 = .ok (.aload_n 0, 1) := by decide +kernel
theorem dX12_rootTold_1 : decode cX12_rootTold 1 = .ok (.getfield 406, 3) := by decide +kernel
theorem dX12_rootTold_4 : decode cX12_rootTold 4 = .ok (.ifCond .eq 12, 3) := by decide +kernel
theorem dX12_rootTold_7 : decode cX12_rootTold 7 = .ok (.aload_n 0, 1) := by decide +kernel
theorem dX12_rootTold_8 : decode cX12_rootTold 8 = .ok (.getfield 121, 3) := by decide +kernel
theorem dX12_rootTold_11 : decode cX12_rootTold 11 = .ok (.iload_n 1, 1) := by decide +kernel
theorem dX12_rootTold_12 : decode cX12_rootTold 12 = .ok (.iaload, 1) := by decide +kernel
theorem dX12_rootTold_13 : decode cX12_rootTold 13 = .ok (.goto 6, 3) := by decide +kernel
theorem dX12_rootTold_16 : decode cX12_rootTold 16 = .ok (.sipush 255, 3) := by decide +kernel
theorem dX12_rootTold_19 : decode cX12_rootTold 19 = .ok (.ireturn, 1) := by decide +kernel
theorem dX12_status_0 : decode cX12_status 0 = .ok (.iload_n 1, 1) := by decide +kernel
theorem dX12_status_1 : decode cX12_status 1 = .ok (.i2l, 1) := by decide +kernel
theorem dX12_status_2 : decode cX12_status 2 = .ok (.lconst 0, 1) := by decide +kernel
theorem dX12_status_3 : decode cX12_status 3 = .ok (.ldc2_w 590, 3) := by decide +kernel
theorem dX12_status_6 : decode cX12_status 6 = .ok (.invokestatic 309, 3) := by decide +kernel
theorem dX12_status_9 : decode cX12_status 9 = .ok (.ifCond .eq 12, 3) := by decide +kernel
theorem dX12_status_12 : decode cX12_status 12 = .ok (.aload_n 0, 1) := by decide +kernel
theorem dX12_status_13 : decode cX12_status 13 = .ok (.getfield 17, 3) := by decide +kernel
theorem dX12_status_16 : decode cX12_status 16 = .ok (.iload_n 1, 1) := by decide +kernel
theorem dX12_status_17 : decode cX12_status 17 = .ok (.iaload, 1) := by decide +kernel
theorem dX12_status_18 : decode cX12_status 18 = .ok (.goto 4, 3) := by decide +kernel
theorem dX12_status_21 : decode cX12_status 21 = .ok (.iconst (-1), 1) := by decide +kernel
theorem dX12_status_22 : decode cX12_status 22 = .ok (.ireturn, 1) := by decide +kernel
theorem dX12_tellsByte_0 : decode cX12_tellsByte 0 = .ok (.aload_n 0, 1) := by decide +kernel
theorem dX12_tellsByte_1 : decode cX12_tellsByte 1 = .ok (.getfield 252, 3) := by decide +kernel
theorem dX12_tellsByte_4 : decode cX12_tellsByte 4 = .ok (.aload_n 0, 1) := by decide +kernel
theorem dX12_tellsByte_5 : decode cX12_tellsByte 5 = .ok (.getfield 783, 3) := by decide +kernel
theorem dX12_tellsByte_8 : decode cX12_tellsByte 8 = .ok (.iload_n 1, 1) := by decide +kernel
theorem dX12_tellsByte_9 : decode cX12_tellsByte 9 = .ok (.iastore, 1) := by decide +kernel
theorem dX12_tellsByte_10 : decode cX12_tellsByte 10 = .ok (.aload_n 0, 1) := by decide +kernel
theorem dX12_tellsByte_11 : decode cX12_tellsByte 11 = .ok (.dup, 1) := by decide +kernel
theorem dX12_tellsByte_12 : decode cX12_tellsByte 12 = .ok (.getfield 783, 3) := by decide +kernel
theorem dX12_tellsByte_15 : decode cX12_tellsByte 15 = .ok (.iconst 1, 1) := by decide +kernel
theorem dX12_tellsByte_16 : decode cX12_tellsByte 16 = .ok (.iadd, 1) := by decide +kernel
theorem dX12_tellsByte_17 : decode cX12_tellsByte 17 = .ok (.putfield 783, 3) := by decide +kernel
theorem dX12_tellsByte_20 : decode cX12_tellsByte 20 = .ok (.return_, 1) := by decide +kernel
theorem dX12_tellsTwo_0 : decode cX12_tellsTwo 0 = .ok (.aload_n 0, 1) := by decide +kernel
theorem dX12_tellsTwo_1 : decode cX12_tellsTwo 1 = .ok (.iload_n 1, 1) := by decide +kernel
theorem dX12_tellsTwo_2 : decode cX12_tellsTwo 2 = .ok (.sipush 256, 3) := by decide +kernel
theorem dX12_tellsTwo_5 : decode cX12_tellsTwo 5 = .ok (.idiv, 1) := by decide +kernel
theorem dX12_tellsTwo_6 : decode cX12_tellsTwo 6 = .ok (.invokevirtual 786, 3) := by decide +kernel
theorem dX12_tellsTwo_9 : decode cX12_tellsTwo 9 = .ok (.aload_n 0, 1) := by decide +kernel
theorem dX12_tellsTwo_10 : decode cX12_tellsTwo 10 = .ok (.iload_n 1, 1) := by decide +kernel
theorem dX12_tellsTwo_11 : decode cX12_tellsTwo 11 = .ok (.sipush 256, 3) := by decide +kernel
theorem dX12_tellsTwo_14 : decode cX12_tellsTwo 14 = .ok (.irem, 1) := by decide +kernel
theorem dX12_tellsTwo_15 : decode cX12_tellsTwo 15 = .ok (.invokevirtual 786, 3) := by decide +kernel
theorem dX12_tellsTwo_18 : decode cX12_tellsTwo 18 = .ok (.return_, 1) := by decide +kernel
theorem dX12_twoRead_0 : decode cX12_twoRead 0 = .ok (.aload_n 0, 1) := by decide +kernel
theorem dX12_twoRead_1 : decode cX12_twoRead 1 = .ok (.iload_n 1, 1) := by decide +kernel
theorem dX12_twoRead_2 : decode cX12_twoRead 2 = .ok (.invokevirtual 806, 3) := by decide +kernel
theorem dX12_twoRead_5 : decode cX12_twoRead 5 = .ok (.istore_n 2, 1) := by decide +kernel
theorem dX12_twoRead_6 : decode cX12_twoRead 6 = .ok (.aload_n 0, 1) := by decide +kernel
theorem dX12_twoRead_7 : decode cX12_twoRead 7 = .ok (.iload_n 1, 1) := by decide +kernel
theorem dX12_twoRead_8 : decode cX12_twoRead 8 = .ok (.invokevirtual 806, 3) := by decide +kernel
theorem dX12_twoRead_11 : decode cX12_twoRead 11 = .ok (.istore_n 3, 1) := by decide +kernel
theorem dX12_twoRead_12 : decode cX12_twoRead 12 = .ok (.iload_n 2, 1) := by decide +kernel
theorem dX12_twoRead_13 : decode cX12_twoRead 13 = .ok (.iconst (-1), 1) := by decide +kernel
theorem dX12_twoRead_14 : decode cX12_twoRead 14 = .ok (.if_icmp .eq 8, 3) := by decide +kernel
theorem dX12_twoRead_17 : decode cX12_twoRead 17 = .ok (.iload_n 3, 1) := by decide +kernel
theorem dX12_twoRead_18 : decode cX12_twoRead 18 = .ok (.iconst (-1), 1) := by decide +kernel
theorem dX12_twoRead_19 : decode cX12_twoRead 19 = .ok (.if_icmp .ne 7, 3) := by decide +kernel
theorem dX12_twoRead_22 : decode cX12_twoRead 22 = .ok (.iconst (-1), 1) := by decide +kernel
theorem dX12_twoRead_23 : decode cX12_twoRead 23 = .ok (.goto 10, 3) := by decide +kernel
theorem dX12_twoRead_26 : decode cX12_twoRead 26 = .ok (.sipush 256, 3) := by decide +kernel
theorem dX12_twoRead_29 : decode cX12_twoRead 29 = .ok (.iload_n 2, 1) := by decide +kernel
theorem dX12_twoRead_30 : decode cX12_twoRead 30 = .ok (.imul, 1) := by decide +kernel
theorem dX12_twoRead_31 : decode cX12_twoRead 31 = .ok (.iload_n 3, 1) := by decide +kernel
theorem dX12_twoRead_32 : decode cX12_twoRead 32 = .ok (.iadd, 1) := by decide +kernel
theorem dX12_twoRead_33 : decode cX12_twoRead 33 = .ok (.ireturn, 1) := by decide +kernel
theorem dX12_writesBlock_0 : decode cX12_writesBlock 0 = .ok (.aload_n 0, 1) := by decide +kernel
theorem dX12_writesBlock_1 : decode cX12_writesBlock 1 = .ok (.aload_n 0, 1) := by decide +kernel
theorem dX12_writesBlock_2 : decode cX12_writesBlock 2 = .ok (.iload_n 1, 1) := by decide +kernel
theorem dX12_writesBlock_3 : decode cX12_writesBlock 3 = .ok (.invokevirtual 432, 3) := by decide +kernel
theorem dX12_writesBlock_6 : decode cX12_writesBlock 6 = .ok (.invokevirtual 786, 3) := by decide +kernel
theorem dX12_writesBlock_9 : decode cX12_writesBlock 9 = .ok (.aload_n 0, 1) := by decide +kernel
theorem dX12_writesBlock_10 : decode cX12_writesBlock 10 = .ok (.aload_n 0, 1) := by decide +kernel
theorem dX12_writesBlock_11 : decode cX12_writesBlock 11 = .ok (.iload_n 1, 1) := by decide +kernel
theorem dX12_writesBlock_12 : decode cX12_writesBlock 12 = .ok (.invokevirtual 438, 3) := by decide +kernel
theorem dX12_writesBlock_15 : decode cX12_writesBlock 15 = .ok (.invokevirtual 786, 3) := by decide +kernel
theorem dX12_writesBlock_18 : decode cX12_writesBlock 18 = .ok (.aload_n 0, 1) := by decide +kernel
theorem dX12_writesBlock_19 : decode cX12_writesBlock 19 = .ok (.iload_n 1, 1) := by decide +kernel
theorem dX12_writesBlock_20 : decode cX12_writesBlock 20 = .ok (.invokevirtual 496, 3) := by decide +kernel
theorem dX12_writesBlock_23 : decode cX12_writesBlock 23 = .ok (.ifCond .ne 4, 3) := by decide +kernel
theorem dX12_writesBlock_26 : decode cX12_writesBlock 26 = .ok (.return_, 1) := by decide +kernel
theorem dX12_writesBlock_27 : decode cX12_writesBlock 27 = .ok (.aload_n 0, 1) := by decide +kernel
theorem dX12_writesBlock_28 : decode cX12_writesBlock 28 = .ok (.aload_n 0, 1) := by decide +kernel
theorem dX12_writesBlock_29 : decode cX12_writesBlock 29 = .ok (.iload_n 1, 1) := by decide +kernel
theorem dX12_writesBlock_30 : decode cX12_writesBlock 30 = .ok (.invokevirtual 460, 3) := by decide +kernel
theorem dX12_writesBlock_33 : decode cX12_writesBlock 33 = .ok (.invokevirtual 786, 3) := by decide +kernel
theorem dX12_writesBlock_36 : decode cX12_writesBlock 36 = .ok (.aload_n 0, 1) := by decide +kernel
theorem dX12_writesBlock_37 : decode cX12_writesBlock 37 = .ok (.aload_n 0, 1) := by decide +kernel
theorem dX12_writesBlock_38 : decode cX12_writesBlock 38 = .ok (.iload_n 1, 1) := by decide +kernel
theorem dX12_writesBlock_39 : decode cX12_writesBlock 39 = .ok (.invokevirtual 466, 3) := by decide +kernel
theorem dX12_writesBlock_42 : decode cX12_writesBlock 42 = .ok (.invokevirtual 786, 3) := by decide +kernel
theorem dX12_writesBlock_45 : decode cX12_writesBlock 45 = .ok (.iconst 0, 1) := by decide +kernel
theorem dX12_writesBlock_46 : decode cX12_writesBlock 46 = .ok (.istore_n 2, 1) := by decide +kernel
theorem dX12_writesBlock_47 : decode cX12_writesBlock 47 = .ok (.iload_n 2, 1) := by decide +kernel
theorem dX12_writesBlock_48 : decode cX12_writesBlock 48 = .ok (.aload_n 0, 1) := by decide +kernel
theorem dX12_writesBlock_49 : decode cX12_writesBlock 49 = .ok (.iload_n 1, 1) := by decide +kernel
theorem dX12_writesBlock_50 : decode cX12_writesBlock 50 = .ok (.invokevirtual 466, 3) := by decide +kernel
theorem dX12_writesBlock_53 : decode cX12_writesBlock 53 = .ok (.if_icmp .ge 29, 3) := by decide +kernel
theorem dX12_writesBlock_56 : decode cX12_writesBlock 56 = .ok (.aload_n 0, 1) := by decide +kernel
theorem dX12_writesBlock_57 : decode cX12_writesBlock 57 = .ok (.aload_n 0, 1) := by decide +kernel
theorem dX12_writesBlock_58 : decode cX12_writesBlock 58 = .ok (.iload_n 1, 1) := by decide +kernel
theorem dX12_writesBlock_59 : decode cX12_writesBlock 59 = .ok (.iload_n 2, 1) := by decide +kernel
theorem dX12_writesBlock_60 : decode cX12_writesBlock 60 = .ok (.invokevirtual 517, 3) := by decide +kernel
theorem dX12_writesBlock_63 : decode cX12_writesBlock 63 = .ok (.invokevirtual 789, 3) := by decide +kernel
theorem dX12_writesBlock_66 : decode cX12_writesBlock 66 = .ok (.aload_n 0, 1) := by decide +kernel
theorem dX12_writesBlock_67 : decode cX12_writesBlock 67 = .ok (.aload_n 0, 1) := by decide +kernel
theorem dX12_writesBlock_68 : decode cX12_writesBlock 68 = .ok (.iload_n 1, 1) := by decide +kernel
theorem dX12_writesBlock_69 : decode cX12_writesBlock 69 = .ok (.iload_n 2, 1) := by decide +kernel
theorem dX12_writesBlock_70 : decode cX12_writesBlock 70 = .ok (.invokevirtual 505, 3) := by decide +kernel
theorem dX12_writesBlock_73 : decode cX12_writesBlock 73 = .ok (.invokevirtual 789, 3) := by decide +kernel
theorem dX12_writesBlock_76 : decode cX12_writesBlock 76 = .ok (.iinc 2 1, 3) := by decide +kernel
theorem dX12_writesBlock_79 : decode cX12_writesBlock 79 = .ok (.goto (-32), 3) := by decide +kernel
theorem dX12_writesBlock_82 : decode cX12_writesBlock 82 = .ok (.return_, 1) := by decide +kernel
def m_x12_tellsByte (p0 : Int32) (s : MS) : Option MS :=
  inb 1364 (gI s 112) (stn (sA s 111 (upd (gA s 111) (Int32.toNatClampNeg (gI s 112)) p0)) (fun s2 => stn (sI s2 112 ((gI s2 112) + 1)) (fun s3 => some s3)))
set_option maxHeartbeats 4000000 in
set_option maxRecDepth 100000 in
theorem k_x12_tellsByte (l : Launch) (D : va_G) (a : Nat → Nat) (p0 : Int32) (sz : Nat) (s : MS) (o : MS) (h : m_x12_tellsByte p0 s = some o) : yWv l yX12_tellsByte cX12_tellsByte 2 none { frames := 0, cells := 0, slots := 0, locals := 0 } D sz [.ref (a 200), .int p0] (RW D a s) (RW D a o) := by
  refine Met.ofW (cc := cX12_tellsByte) (maxL := 2) (ret := none) (by decide) rfl ?_
  intro p e s₀ m args below meth c s₁ B hml hv
  obtain ⟨rfl, ⟨hsz, hP, hK, hD0⟩, hN⟩ := hv
  have hx := B.exec
  have hb := B.bytes
  have hr := B.returns
  have hts := atoms_spec (ws := wz yX12_tellsByte cX12_tellsByte 2 none) B.pre
  have ht : ∀ w ∈ lw_gd, w.before _ s₀ = true := fun w h => hts w (List.mem_cons_of_mem _ h)
  have hown : s₀.vm.findClass RX12 = some m.cls := findClass_of_methodNamed B.named
  have hlocks := B.notSynchronized
  subst hsz
  have hD := hD0.self (sz := s₀.heap.size)
  generalize hAe : va_A (RW D a s) s₀.heap.size = A at hD ⊢
  have hA : ∀ q : Nat, s₀.heap.size ≤ q → A q := fun q h => by rw [← hAe]; exact Or.inr h
  have hS : va_S A s₀.heap s₀.heap [] := va_S.rf
  have hDD : ∀ t : MS, va_D A (RW D a t) := fun t => RW_D t hD
  have hl := lv_entry ([.ref (a 200), .int p0]) (n := 2) (Nat.le_of_ble_eq_true rfl)
  rw [lg_entry_eq]
  generalize (lg_sl ([.ref (a 200), .int p0]) ++ List.replicate (2 - (lg_sl ([.ref (a 200), .int p0])).length) Slot.unset).toArray = ls at hl ⊢
  have hl : lv_has ls 2 [(0, .ref (a 200)), (1, .int p0)] := hl
  unfold m_x12_tellsByte at h
  refine lv_aload_n hx hb dX12_tellsByte_0 rfl (lv_at hl 0 rfl) ?_
  refine va_get (D := D) (ci := 12) (v := .ref (a 111)) (C := RX12) (T := TX12) (N := 116) hx hb ht inX12 hown hK hP 0 RW_0 rfl 111 (by decide) (ht (.fieldLink RX12 252 "CloneVolumesModel" "octet" "[I") fl_X12_252) (fun _ h9 => h9) mF_111 dX12_tellsByte_1 ?_
  refine lv_aload_n hx hb dX12_tellsByte_4 rfl (lv_at hl 0 rfl) ?_
  refine va_get (D := D) (ci := 12) (v := .int (gI s 112)) (C := RX12) (T := TX12) (N := 116) hx hb ht inX12 hown hK hP 0 RW_0 rfl 112 (by decide) (ht (.fieldLink RX12 783 "CloneVolumesModel" "octets" "I") fl_X12_783) (fun _ h9 => h9) mF_112 dX12_tellsByte_5 ?_
  refine lv_iload_n hx hb dX12_tellsByte_8 rfl (lv_at hl 1 rfl) ?_
  obtain ⟨hi1, h⟩ := inb_e h
  refine ya_iast hx hb hK hP (hDD _) hS 78 0 RW_78 rfl hi1 dX12_tellsByte_9 (RW_w78 _) (fun H locs hP hS => ?_)
  obtain ⟨s2, hs2, h⟩ := st_e h
  rw [hs2] at hP
  refine lv_aload_n hx hb dX12_tellsByte_10 rfl (lv_at hl 0 rfl) ?_
  refine lv_dup hx hb dX12_tellsByte_11 rfl ?_
  refine va_get (D := D) (ci := 12) (v := .int (gI s2 112)) (C := RX12) (T := TX12) (N := 116) hx hb ht inX12 hown hK hP 0 RW_0 rfl 112 (by decide) (ht (.fieldLink RX12 783 "CloneVolumesModel" "octets" "I") fl_X12_783) (fun _ h9 => h9) mF_112 dX12_tellsByte_12 ?_
  refine lv_iconst (v := 1) hx hb dX12_tellsByte_15 (by decide) ?_
  refine lv_iadd hx hb dX12_tellsByte_16 ?_
  refine ya_put (D := D) (ci := 12) (v := .int ((gI s2 112) + 1)) (ty := .int) (C := RX12) (T := TX12) (N := 116) hx hb ht inX12 tyX12 tyX12_ok nmX12 hown hK hP (hDD _) hS 0 RW_0 rfl 112 (by decide) (ht (.fieldLink RX12 783 "CloneVolumesModel" "octets" "I") fl_X12_783) (fun _ h9 => h9) rfl (by decide +kernel) rfl rfl (by rw [mF_len]; decide) dX12_tellsByte_17 (RW_f112 _) (fun H locs hP hS => ?_)
  obtain ⟨s3, hs3, h⟩ := st_e h
  rw [hs3] at hP
  obtain rfl := Option.some.inj h
  exact W.vret hx hb hr (fun t ht hW => ⟨⟨(), rfl, trivial, by rw [ht]; exact hP, va_K.moved hW.alike hK, hDD _⟩, hS.F ht⟩) hS.2.2 dX12_tellsByte_20
def m_x12_tellsTwo (p0 : Int32) (s : MS) : Option MS :=
  bn (m_x12_tellsByte (p0 / 256) s) (fun s2 => bn (m_x12_tellsByte (p0 - p0 / 256 * 256) s2) (fun s4 => some s4))
set_option maxHeartbeats 4000000 in
set_option maxRecDepth 100000 in
theorem k_x12_tellsTwo (l : Launch) (D : va_G) (a : Nat → Nat) (p0 : Int32) (sz : Nat) (s : MS) (o : MS) (h : m_x12_tellsTwo p0 s = some o) : yWv l yX12_tellsTwo cX12_tellsTwo 2 none { frames := 1, cells := 0, slots := 0, locals := 60 } D sz [.ref (a 200), .int p0] (RW D a s) (RW D a o) := by
  refine Met.ofW (cc := cX12_tellsTwo) (maxL := 2) (ret := none) (by decide) rfl ?_
  intro p e s₀ m args below meth c s₁ B hml hv
  obtain ⟨rfl, ⟨hsz, hP, hK, hD0⟩, hN⟩ := hv
  have hx := B.exec
  have hb := B.bytes
  have hr := B.returns
  have hts := atoms_spec (ws := wz yX12_tellsTwo cX12_tellsTwo 2 none) B.pre
  have ht : ∀ w ∈ lw_gd, w.before _ s₀ = true := fun w h => hts w (List.mem_cons_of_mem _ h)
  have hown : s₀.vm.findClass RX12 = some m.cls := findClass_of_methodNamed B.named
  have hlocks := B.notSynchronized
  subst hsz
  have hD := hD0.self (sz := s₀.heap.size)
  generalize hAe : va_A (RW D a s) s₀.heap.size = A at hD ⊢
  have hA : ∀ q : Nat, s₀.heap.size ≤ q → A q := fun q h => by rw [← hAe]; exact Or.inr h
  have hS : va_S A s₀.heap s₀.heap [] := va_S.rf
  have hDD : ∀ t : MS, va_D A (RW D a t) := fun t => RW_D t hD
  have hl := lv_entry ([.ref (a 200), .int p0]) (n := 2) (Nat.le_of_ble_eq_true rfl)
  rw [lg_entry_eq]
  generalize (lg_sl ([.ref (a 200), .int p0]) ++ List.replicate (2 - (lg_sl ([.ref (a 200), .int p0])).length) Slot.unset).toArray = ls at hl ⊢
  have hl : lv_has ls 2 [(0, .ref (a 200)), (1, .int p0)] := hl
  unfold m_x12_tellsTwo at h
  refine lv_aload_n hx hb dX12_tellsTwo_0 rfl (lv_at hl 0 rfl) ?_
  refine lv_iload_n hx hb dX12_tellsTwo_1 rfl (lv_at hl 1 rfl) ?_
  refine lv_sipush (v := 256) hx hb dX12_tellsTwo_2 (by decide) ?_
  refine lv_idiv hx hb dX12_tellsTwo_5 (by decide) ?_
  obtain ⟨s2, hc1, h⟩ := bn_e h
  refine ywVv (As := [.int (p0 / 256)]) (rest := []) (C := RX12) (n := 1) (ws' := RW D a s2) ⟨hx, hb, hml, hown, ht⟩ (k_x12_tellsByte l D a (p0 / 256) _ _ _ hc1) (zgV ml_X12_786 im_X12_tellsByte se_X12_tellsByte in_X12 co_X12_tellsByte) rfl rfl (by decide +kernel) ⟨Nat.le_of_ble_eq_true rfl, Nat.le_of_ble_eq_true rfl⟩ hN hK hP (hDD _) hS hA 0 RW_0 rfl rfl rfl hl.1 rfl (Nat.le_of_ble_eq_true rfl) dX12_tellsTwo_6 ⟨Nat.le_of_ble_eq_true rfl, Nat.le_of_ble_eq_true rfl⟩ (fun H locs hP hS => ?_)
  refine lv_aload_n hx hb dX12_tellsTwo_9 rfl (lv_at hl 0 rfl) ?_
  refine lv_iload_n hx hb dX12_tellsTwo_10 rfl (lv_at hl 1 rfl) ?_
  refine lv_sipush (v := 256) hx hb dX12_tellsTwo_11 (by decide) ?_
  refine lv_irem hx hb dX12_tellsTwo_14 (by decide) ?_
  obtain ⟨s4, hc3, h⟩ := bn_e h
  refine ywVv (As := [.int (p0 - p0 / 256 * 256)]) (rest := []) (C := RX12) (n := 1) (ws' := RW D a s4) ⟨hx, hb, hml, hown, ht⟩ (k_x12_tellsByte l D a (p0 - p0 / 256 * 256) _ _ _ hc3) (zgV ml_X12_786 im_X12_tellsByte se_X12_tellsByte in_X12 co_X12_tellsByte) rfl rfl (by decide +kernel) ⟨Nat.le_of_ble_eq_true rfl, Nat.le_of_ble_eq_true rfl⟩ hN hK hP (hDD _) hS hA 0 RW_0 rfl rfl rfl hl.1 rfl (Nat.le_of_ble_eq_true rfl) dX12_tellsTwo_15 ⟨Nat.le_of_ble_eq_true rfl, Nat.le_of_ble_eq_true rfl⟩ (fun H locs hP hS => ?_)
  obtain rfl := Option.some.inj h
  exact W.vret hx hb hr (fun t ht hW => ⟨⟨(), rfl, trivial, by rw [ht]; exact hP, va_K.moved hW.alike hK, hDD _⟩, hS.F ht⟩) hS.2.2 dX12_tellsTwo_18
def m_x12_octet_J22 (s : MS) (x1 : Int32) : Option Int32 :=
  some x1
def m_x12_octet_J21 (s : MS) (_u : Unit) : Option Int32 :=
  m_x12_octet_J22 s (-1)
def m_x12_octet (p0 : Int32) (s : MS) : Option Int32 :=
  if p0 < 0 then m_x12_octet_J21 s () else if (gI s 112) ≤ p0 then m_x12_octet_J21 s () else rdI (gA s 111) 1364 p0 (fun y4 => m_x12_octet_J22 s y4)
set_option maxHeartbeats 4000000 in
set_option maxRecDepth 100000 in
theorem k_x12_octet (l : Launch) (D : va_G) (a : Nat → Nat) (p0 : Int32) (s : MS) (o : Int32) (h : m_x12_octet p0 s = some o) : yRi l yX12_octet cX12_octet 2 (some .int) { frames := 0, cells := 0, slots := 0, locals := 0 } D [.ref (a 200), .int p0] (RW D a s) o := by
  refine Met.ofW (cc := cX12_octet) (maxL := 2) (ret := (some .int)) (by decide) rfl ?_
  intro p e s₀ m args below meth c s₁ B hml hv
  obtain ⟨rfl, ⟨hP, hK⟩, hN⟩ := hv
  have hx := B.exec
  have hb := B.bytes
  have hr := B.returns
  have hts := atoms_spec (ws := wz yX12_octet cX12_octet 2 (some .int)) B.pre
  have ht : ∀ w ∈ lw_gd, w.before _ s₀ = true := fun w h => hts w (List.mem_cons_of_mem _ h)
  have hown : s₀.vm.findClass RX12 = some m.cls := findClass_of_methodNamed B.named
  have hlocks := B.notSynchronized
  have hS : va_S (fun _ => False) s₀.heap s₀.heap [] := va_S.rf
  have hl := lv_entry ([.ref (a 200), .int p0]) (n := 2) (Nat.le_of_ble_eq_true rfl)
  rw [lg_entry_eq]
  generalize (lg_sl ([.ref (a 200), .int p0]) ++ List.replicate (2 - (lg_sl ([.ref (a 200), .int p0])).length) Slot.unset).toArray = ls at hl ⊢
  have hl : lv_has ls 2 [(0, .ref (a 200)), (1, .int p0)] := hl
  unfold m_x12_octet at h
  refine y_head (pcJ := 22) (σ := Int32) (fun u H locs ls => va_P D vwCl (RW D a s) H ∧ va_S (fun _ => False) s₀.heap H locs ∧ lv_has ls 2 [] ∧ m_x12_octet_J22 s u = some o) (fun u => [.int u]) (fun u H locs ls hI => ?_) (fun J22 => ?_)
  · obtain ⟨hP, hS, hl, h⟩ := hI
    obtain ⟨x1, rfl⟩ : ∃ z, z = u := ⟨u, rfl⟩
    have hP : va_P D vwCl (RW D a s) H := hP
    have hl : lv_has ls 2 [] := hl
    have h : m_x12_octet_J22 s x1 = some o := h
    unfold m_x12_octet_J22 at h
    obtain rfl := Option.some.inj h
    exact W.iret (v := x1) hx hb hr (fun t ht hW => ⟨⟨_, (), rfl, rfl, trivial⟩, hS.F ht⟩) hS.2.2 dX12_octet_22
  refine y_head (pcJ := 21) (σ := Unit) (fun u H locs ls => va_P D vwCl (RW D a s) H ∧ va_S (fun _ => False) s₀.heap H locs ∧ lv_has ls 2 [] ∧ m_x12_octet_J21 s u = some o) (fun u => []) (fun u H locs ls hI => ?_) (fun J21 => ?_)
  · obtain ⟨hP, hS, hl, h⟩ := hI
    skip
    have hP : va_P D vwCl (RW D a s) H := hP
    have hl : lv_has ls 2 [] := hl
    have h : m_x12_octet_J21 s () = some o := h
    unfold m_x12_octet_J21 at h
    refine lv_iconst (v := (-1)) hx hb dX12_octet_21 (by decide) ?_
    exact J22 (-1) _ _ _ ⟨hP, hS, lv_sub hl [] rfl, h⟩
  refine lv_iload_n hx hb dX12_octet_0 rfl (lv_at hl 1 rfl) ?_
  refine lv_if_lt (tgt := 21) hx hb dX12_octet_1 (by decide) (fun c2 => ?_) (fun c2 => ?_)
  · have h := if_t c2 h
    exact J21 () _ _ _ ⟨hP, hS, lv_sub hl [] rfl, h⟩
  · have h := if_f c2 h
    refine lv_iload_n hx hb dX12_octet_4 rfl (lv_at hl 1 rfl) ?_
    refine lv_aload_n hx hb dX12_octet_5 rfl (lv_at hl 0 rfl) ?_
    refine va_get (D := D) (ci := 12) (v := .int (gI s 112)) (C := RX12) (T := TX12) (N := 116) hx hb ht inX12 hown hK hP 0 RW_0 rfl 112 (by decide) (ht (.fieldLink RX12 783 "CloneVolumesModel" "octets" "I") fl_X12_783) (fun _ h9 => h9) mF_112 dX12_octet_6 ?_
    refine lv_icmp_ge (tgt := 21) hx hb dX12_octet_9 (by decide) (fun c3 => ?_) (fun c3 => ?_)
    · have h := if_t c3 h
      exact J21 () _ _ _ ⟨hP, hS, lv_sub hl [] rfl, h⟩
    · have h := if_f c3 h
      refine lv_aload_n hx hb dX12_octet_12 rfl (lv_at hl 0 rfl) ?_
      refine va_get (D := D) (ci := 12) (v := .ref (a 111)) (C := RX12) (T := TX12) (N := 116) hx hb ht inX12 hown hK hP 0 RW_0 rfl 111 (by decide) (ht (.fieldLink RX12 252 "CloneVolumesModel" "octet" "[I") fl_X12_252) (fun _ h9 => h9) mF_111 dX12_octet_13 ?_
      refine lv_iload_n hx hb dX12_octet_16 rfl (lv_at hl 1 rfl) ?_
      obtain ⟨y4, ey4, iy4, h⟩ := rdI_e h
      refine ya_iald hx hb hK hP 78 0 RW_78 rfl ey4 iy4 dX12_octet_17 ?_
      refine lv_goto (tgt := 22) hx hb dX12_octet_18 (by decide) ?_
      exact J22 y4 _ _ _ ⟨hP, hS, lv_sub hl [] rfl, h⟩
def m_x12_status_J22 (s : MS) (x1 : Int32) : Option Int32 :=
  some x1
def m_x12_status (p0 : Int32) (s : MS) : Option Int32 :=
  bn (m_x12_isIn (Int32.toInt64 p0) 0 5 s) (fun r3 => if r3 = 0 then m_x12_status_J22 s (-1) else rdI (gA s 9) 6 p0 (fun y5 => m_x12_status_J22 s y5))
set_option maxHeartbeats 4000000 in
set_option maxRecDepth 100000 in
theorem k_x12_status (l : Launch) (D : va_G) (a : Nat → Nat) (p0 : Int32) (s : MS) (o : Int32) (h : m_x12_status p0 s = some o) : yRi l yX12_status cX12_status 2 (some .int) { frames := 1, cells := 0, slots := 0, locals := 60 } D [.ref (a 200), .int p0] (RW D a s) o := by
  refine Met.ofW (cc := cX12_status) (maxL := 2) (ret := (some .int)) (by decide) rfl ?_
  intro p e s₀ m args below meth c s₁ B hml hv
  obtain ⟨rfl, ⟨hP, hK⟩, hN⟩ := hv
  have hx := B.exec
  have hb := B.bytes
  have hr := B.returns
  have hts := atoms_spec (ws := wz yX12_status cX12_status 2 (some .int)) B.pre
  have ht : ∀ w ∈ lw_gd, w.before _ s₀ = true := fun w h => hts w (List.mem_cons_of_mem _ h)
  have hown : s₀.vm.findClass RX12 = some m.cls := findClass_of_methodNamed B.named
  have hlocks := B.notSynchronized
  have hS : va_S (fun _ => False) s₀.heap s₀.heap [] := va_S.rf
  have hl := lv_entry ([.ref (a 200), .int p0]) (n := 2) (Nat.le_of_ble_eq_true rfl)
  rw [lg_entry_eq]
  generalize (lg_sl ([.ref (a 200), .int p0]) ++ List.replicate (2 - (lg_sl ([.ref (a 200), .int p0])).length) Slot.unset).toArray = ls at hl ⊢
  have hl : lv_has ls 2 [(0, .ref (a 200)), (1, .int p0)] := hl
  unfold m_x12_status at h
  refine y_head (pcJ := 22) (σ := Int32) (fun u H locs ls => va_P D vwCl (RW D a s) H ∧ va_S (fun _ => False) s₀.heap H locs ∧ lv_has ls 2 [] ∧ m_x12_status_J22 s u = some o) (fun u => [.int u]) (fun u H locs ls hI => ?_) (fun J22 => ?_)
  · obtain ⟨hP, hS, hl, h⟩ := hI
    obtain ⟨x1, rfl⟩ : ∃ z, z = u := ⟨u, rfl⟩
    have hP : va_P D vwCl (RW D a s) H := hP
    have hl : lv_has ls 2 [] := hl
    have h : m_x12_status_J22 s x1 = some o := h
    unfold m_x12_status_J22 at h
    obtain rfl := Option.some.inj h
    exact W.iret (v := x1) hx hb hr (fun t ht hW => ⟨⟨_, (), rfl, rfl, trivial⟩, hS.F ht⟩) hS.2.2 dX12_status_22
  refine lv_iload_n hx hb dX12_status_0 rfl (lv_at hl 1 rfl) ?_
  refine lv_i2l (v := Int32.toInt64 p0) hx hb dX12_status_1 rfl ?_
  refine lv_lconst (v := 0) hx hb dX12_status_2 (by decide) ?_
  refine lv_ldc2 (own := RX12) (v := 5) hx hb hown (ht _ cl_X12_590) dX12_status_3 ?_
  obtain ⟨r3, hc2, h⟩ := bn_e h
  refine ycS (As := [.long (Int32.toInt64 p0), .long 0, .long 5]) (rest := []) (n := 3) ⟨hx, hb, hml, hown, ht⟩ (k_x12_isIn l D a (Int32.toInt64 p0) 0 5 _ _ hc2) (zgT ml_X12_309 st_X12_isIn in_X12 co_X12_isIn) rfl rfl (by decide +kernel) ⟨Nat.le_of_ble_eq_true rfl, Nat.le_of_ble_eq_true rfl⟩ hN hK hP hS rfl hl.1 rfl (Nat.le_of_ble_eq_true rfl) dX12_status_6 ⟨Nat.le_of_ble_eq_true rfl, Nat.le_of_ble_eq_true rfl⟩ (fun H locs hP hS => ?_)
  refine lv_if_eq (tgt := 21) hx hb dX12_status_9 (by decide) (fun c4 => ?_) (fun c4 => ?_)
  · have h := if_t c4 h
    refine lv_iconst (v := (-1)) hx hb dX12_status_21 (by decide) ?_
    exact J22 (-1) _ _ _ ⟨hP, hS, lv_sub hl [] rfl, h⟩
  · have h := if_f c4 h
    refine lv_aload_n hx hb dX12_status_12 rfl (lv_at hl 0 rfl) ?_
    refine va_get (D := D) (ci := 12) (v := .ref (a 9)) (C := RX12) (T := TX12) (N := 116) hx hb ht inX12 hown hK hP 0 RW_0 rfl 9 (by decide) (ht (.fieldLink RX12 17 "CloneVolumesModel" "refused" "[I") fl_X12_17) (fun _ h9 => h9) mF_9 dX12_status_13 ?_
    refine lv_iload_n hx hb dX12_status_16 rfl (lv_at hl 1 rfl) ?_
    obtain ⟨y5, ey5, iy5, h⟩ := rdI_e h
    refine ya_iald hx hb hK hP 2 0 RW_2 rfl ey5 iy5 dX12_status_17 ?_
    refine lv_goto (tgt := 22) hx hb dX12_status_18 (by decide) ?_
    exact J22 y5 _ _ _ ⟨hP, hS, lv_sub hl [] rfl, h⟩
def m_x12_writesBlock_b47 (lr47 : Int32 → Int32 → MS → Option MS) (x1 : Int32) (x2 : Int32) (s3 : MS) : Option MS :=
  bn (m_x12_entriesOf x1 s3) (fun r5 => if r5 ≤ x2 then some s3 else bn (m_x12_keyAt x1 x2 s3) (fun r8 => bn (m_x12_tellsTwo r8 s3) (fun s10 => bn (m_x12_valueAt x1 x2 s10) (fun r12 => bn (m_x12_tellsTwo r12 s10) (fun s14 => lr47 x1 (x2 + 1) s14)))))
def m_x12_writesBlock_L47 (n : Nat) : Int32 → Int32 → MS → Option MS := lp (fun _ _ _ => none) (m_x12_writesBlock_b47) n
def m_x12_writesBlock (p0 : Int32) (s : MS) : Option MS :=
  bn (m_x12_countOf p0 s) (fun r16 => bn (m_x12_tellsByte r16 s) (fun s18 => bn (m_x12_savedOf p0 s18) (fun r20 => bn (m_x12_tellsByte r20 s18) (fun s22 => bn (m_x12_isThere p0 s22) (fun r24 => if r24 = 0 then some s22 else bn (m_x12_levelOf p0 s22) (fun r27 => bn (m_x12_tellsByte r27 s22) (fun s29 => bn (m_x12_entriesOf p0 s29) (fun r31 => bn (m_x12_tellsByte r31 s29) (fun s33 => m_x12_writesBlock_L47 FU p0 0 s33)))))))))
set_option maxHeartbeats 4000000 in
set_option maxRecDepth 100000 in
theorem k_x12_writesBlock (l : Launch) (D : va_G) (a : Nat → Nat) (p0 : Int32) (sz : Nat) (s : MS) (o : MS) (h : m_x12_writesBlock p0 s = some o) : yWv l yX12_writesBlock cX12_writesBlock 3 none { frames := 3, cells := 0, slots := 0, locals := 180 } D sz [.ref (a 200), .int p0] (RW D a s) (RW D a o) := by
  refine Met.ofW (cc := cX12_writesBlock) (maxL := 3) (ret := none) (by decide) rfl ?_
  intro p e s₀ m args below meth c s₁ B hml hv
  obtain ⟨rfl, ⟨hsz, hP, hK, hD0⟩, hN⟩ := hv
  have hx := B.exec
  have hb := B.bytes
  have hr := B.returns
  have hts := atoms_spec (ws := wz yX12_writesBlock cX12_writesBlock 3 none) B.pre
  have ht : ∀ w ∈ lw_gd, w.before _ s₀ = true := fun w h => hts w (List.mem_cons_of_mem _ h)
  have hown : s₀.vm.findClass RX12 = some m.cls := findClass_of_methodNamed B.named
  have hlocks := B.notSynchronized
  subst hsz
  have hD := hD0.self (sz := s₀.heap.size)
  generalize hAe : va_A (RW D a s) s₀.heap.size = A at hD ⊢
  have hA : ∀ q : Nat, s₀.heap.size ≤ q → A q := fun q h => by rw [← hAe]; exact Or.inr h
  have hS : va_S A s₀.heap s₀.heap [] := va_S.rf
  have hDD : ∀ t : MS, va_D A (RW D a t) := fun t => RW_D t hD
  have hl := lv_entry ([.ref (a 200), .int p0]) (n := 3) (Nat.le_of_ble_eq_true rfl)
  rw [lg_entry_eq]
  generalize (lg_sl ([.ref (a 200), .int p0]) ++ List.replicate (3 - (lg_sl ([.ref (a 200), .int p0])).length) Slot.unset).toArray = ls at hl ⊢
  have hl : lv_has ls 3 [(0, .ref (a 200)), (1, .int p0)] := hl
  unfold m_x12_writesBlock at h
  refine y_loop (pcJ := 47) (σ := Int32 × Int32 × MS) (fun n u H locs ls => va_P D vwCl (RW D a u.2.2) H ∧ va_S A s₀.heap H locs ∧ lv_has ls 3 [(0, .ref (a 200)), (1, .int u.1), (2, .int u.2.1)] ∧ m_x12_writesBlock_L47 n u.1 u.2.1 u.2.2 = some o) (fun u => []) (fun u H locs ls hI => by obtain ⟨_, _, _, h⟩ := hI; cases h) (fun n47 ih47 u H locs ls hI => ?_) (fun J47 => ?_)
  · obtain ⟨hP, hS, hl, h⟩ := hI
    obtain ⟨x1, x2, s3⟩ := u
    have hP : va_P D vwCl (RW D a s3) H := hP
    have hl : lv_has ls 3 [(0, .ref (a 200)), (1, .int x1), (2, .int x2)] := hl
    have h : m_x12_writesBlock_b47 (m_x12_writesBlock_L47 n47) x1 x2 s3 = some o := h
    unfold m_x12_writesBlock_b47 at h
    refine lv_iload_n hx hb dX12_writesBlock_47 rfl (lv_at hl 2 rfl) ?_
    refine lv_aload_n hx hb dX12_writesBlock_48 rfl (lv_at hl 0 rfl) ?_
    refine lv_iload_n hx hb dX12_writesBlock_49 rfl (lv_at hl 1 rfl) ?_
    obtain ⟨r5, hc4, h⟩ := bn_e h
    refine ycV (As := [.int x1]) (rest := [.int x2]) (C := RX12) (n := 1) ⟨hx, hb, hml, hown, ht⟩ (k_x12_entriesOf l D a x1 _ _ hc4) (zgV ml_X12_466 im_X12_entriesOf se_X12_entriesOf in_X12 co_X12_entriesOf) rfl rfl (by decide +kernel) ⟨Nat.le_of_ble_eq_true rfl, Nat.le_of_ble_eq_true rfl⟩ hN hK hP hS 0 RW_0 rfl rfl rfl hl.1 rfl (Nat.le_of_ble_eq_true rfl) dX12_writesBlock_50 ⟨Nat.le_of_ble_eq_true rfl, Nat.le_of_ble_eq_true rfl⟩ (fun H locs hP hS => ?_)
    refine lv_icmp_ge (tgt := 82) hx hb dX12_writesBlock_53 (by decide) (fun c6 => ?_) (fun c6 => ?_)
    · have h := if_t c6 h
      obtain rfl := Option.some.inj h
      exact W.vret hx hb hr (fun t ht hW => ⟨⟨(), rfl, trivial, by rw [ht]; exact hP, va_K.moved hW.alike hK, hDD _⟩, hS.F ht⟩) hS.2.2 dX12_writesBlock_82
    · have h := if_f c6 h
      refine lv_aload_n hx hb dX12_writesBlock_56 rfl (lv_at hl 0 rfl) ?_
      refine lv_aload_n hx hb dX12_writesBlock_57 rfl (lv_at hl 0 rfl) ?_
      refine lv_iload_n hx hb dX12_writesBlock_58 rfl (lv_at hl 1 rfl) ?_
      refine lv_iload_n hx hb dX12_writesBlock_59 rfl (lv_at hl 2 rfl) ?_
      obtain ⟨r8, hc7, h⟩ := bn_e h
      refine ycV (As := [.int x1, .int x2]) (rest := [.ref (a 200)]) (C := RX12) (n := 2) ⟨hx, hb, hml, hown, ht⟩ (k_x12_keyAt l D a x1 x2 _ _ hc7) (zgV ml_X12_517 im_X12_keyAt se_X12_keyAt in_X12 co_X12_keyAt) rfl rfl (by decide +kernel) ⟨Nat.le_of_ble_eq_true rfl, Nat.le_of_ble_eq_true rfl⟩ hN hK hP hS 0 RW_0 rfl rfl rfl hl.1 rfl (Nat.le_of_ble_eq_true rfl) dX12_writesBlock_60 ⟨Nat.le_of_ble_eq_true rfl, Nat.le_of_ble_eq_true rfl⟩ (fun H locs hP hS => ?_)
      obtain ⟨s10, hc9, h⟩ := bn_e h
      refine ywVv (As := [.int r8]) (rest := []) (C := RX12) (n := 1) (ws' := RW D a s10) ⟨hx, hb, hml, hown, ht⟩ (k_x12_tellsTwo l D a r8 _ _ _ hc9) (zgV ml_X12_789 im_X12_tellsTwo se_X12_tellsTwo in_X12 co_X12_tellsTwo) rfl rfl (by decide +kernel) ⟨Nat.le_of_ble_eq_true rfl, Nat.le_of_ble_eq_true rfl⟩ hN hK hP (hDD _) hS hA 0 RW_0 rfl rfl rfl hl.1 rfl (Nat.le_of_ble_eq_true rfl) dX12_writesBlock_63 ⟨Nat.le_of_ble_eq_true rfl, Nat.le_of_ble_eq_true rfl⟩ (fun H locs hP hS => ?_)
      refine lv_aload_n hx hb dX12_writesBlock_66 rfl (lv_at hl 0 rfl) ?_
      refine lv_aload_n hx hb dX12_writesBlock_67 rfl (lv_at hl 0 rfl) ?_
      refine lv_iload_n hx hb dX12_writesBlock_68 rfl (lv_at hl 1 rfl) ?_
      refine lv_iload_n hx hb dX12_writesBlock_69 rfl (lv_at hl 2 rfl) ?_
      obtain ⟨r12, hc11, h⟩ := bn_e h
      refine ycV (As := [.int x1, .int x2]) (rest := [.ref (a 200)]) (C := RX12) (n := 2) ⟨hx, hb, hml, hown, ht⟩ (k_x12_valueAt l D a x1 x2 _ _ hc11) (zgV ml_X12_505 im_X12_valueAt se_X12_valueAt in_X12 co_X12_valueAt) rfl rfl (by decide +kernel) ⟨Nat.le_of_ble_eq_true rfl, Nat.le_of_ble_eq_true rfl⟩ hN hK hP hS 0 RW_0 rfl rfl rfl hl.1 rfl (Nat.le_of_ble_eq_true rfl) dX12_writesBlock_70 ⟨Nat.le_of_ble_eq_true rfl, Nat.le_of_ble_eq_true rfl⟩ (fun H locs hP hS => ?_)
      obtain ⟨s14, hc13, h⟩ := bn_e h
      refine ywVv (As := [.int r12]) (rest := []) (C := RX12) (n := 1) (ws' := RW D a s14) ⟨hx, hb, hml, hown, ht⟩ (k_x12_tellsTwo l D a r12 _ _ _ hc13) (zgV ml_X12_789 im_X12_tellsTwo se_X12_tellsTwo in_X12 co_X12_tellsTwo) rfl rfl (by decide +kernel) ⟨Nat.le_of_ble_eq_true rfl, Nat.le_of_ble_eq_true rfl⟩ hN hK hP (hDD _) hS hA 0 RW_0 rfl rfl rfl hl.1 rfl (Nat.le_of_ble_eq_true rfl) dX12_writesBlock_73 ⟨Nat.le_of_ble_eq_true rfl, Nat.le_of_ble_eq_true rfl⟩ (fun H locs hP hS => ?_)
      refine lv_iinc (v := x2 + 1) (lv' := [(2, .int (x2 + 1)), (0, .ref (a 200)), (1, .int x1)]) hx hb dX12_writesBlock_76 hl (k := 2) rfl rfl (by decide) rfl (fun ls hl => ?_)
      refine lv_goto (tgt := 47) hx hb dX12_writesBlock_79 (by decide) ?_
      exact ih47 (x1, x2 + 1, s14) _ _ _ ⟨hP, hS, lv_sub hl [1, 2, 0] rfl, h⟩
  refine lv_aload_n hx hb dX12_writesBlock_0 rfl (lv_at hl 0 rfl) ?_
  refine lv_aload_n hx hb dX12_writesBlock_1 rfl (lv_at hl 0 rfl) ?_
  refine lv_iload_n hx hb dX12_writesBlock_2 rfl (lv_at hl 1 rfl) ?_
  obtain ⟨r16, hc15, h⟩ := bn_e h
  refine ycV (As := [.int p0]) (rest := [.ref (a 200)]) (C := RX12) (n := 1) ⟨hx, hb, hml, hown, ht⟩ (k_x12_countOf l D a p0 _ _ hc15) (zgV ml_X12_432 im_X12_countOf se_X12_countOf in_X12 co_X12_countOf) rfl rfl (by decide +kernel) ⟨Nat.le_of_ble_eq_true rfl, Nat.le_of_ble_eq_true rfl⟩ hN hK hP hS 0 RW_0 rfl rfl rfl hl.1 rfl (Nat.le_of_ble_eq_true rfl) dX12_writesBlock_3 ⟨Nat.le_of_ble_eq_true rfl, Nat.le_of_ble_eq_true rfl⟩ (fun H locs hP hS => ?_)
  obtain ⟨s18, hc17, h⟩ := bn_e h
  refine ywVv (As := [.int r16]) (rest := []) (C := RX12) (n := 1) (ws' := RW D a s18) ⟨hx, hb, hml, hown, ht⟩ (k_x12_tellsByte l D a r16 _ _ _ hc17) (zgV ml_X12_786 im_X12_tellsByte se_X12_tellsByte in_X12 co_X12_tellsByte) rfl rfl (by decide +kernel) ⟨Nat.le_of_ble_eq_true rfl, Nat.le_of_ble_eq_true rfl⟩ hN hK hP (hDD _) hS hA 0 RW_0 rfl rfl rfl hl.1 rfl (Nat.le_of_ble_eq_true rfl) dX12_writesBlock_6 ⟨Nat.le_of_ble_eq_true rfl, Nat.le_of_ble_eq_true rfl⟩ (fun H locs hP hS => ?_)
  refine lv_aload_n hx hb dX12_writesBlock_9 rfl (lv_at hl 0 rfl) ?_
  refine lv_aload_n hx hb dX12_writesBlock_10 rfl (lv_at hl 0 rfl) ?_
  refine lv_iload_n hx hb dX12_writesBlock_11 rfl (lv_at hl 1 rfl) ?_
  obtain ⟨r20, hc19, h⟩ := bn_e h
  refine ycV (As := [.int p0]) (rest := [.ref (a 200)]) (C := RX12) (n := 1) ⟨hx, hb, hml, hown, ht⟩ (k_x12_savedOf l D a p0 _ _ hc19) (zgV ml_X12_438 im_X12_savedOf se_X12_savedOf in_X12 co_X12_savedOf) rfl rfl (by decide +kernel) ⟨Nat.le_of_ble_eq_true rfl, Nat.le_of_ble_eq_true rfl⟩ hN hK hP hS 0 RW_0 rfl rfl rfl hl.1 rfl (Nat.le_of_ble_eq_true rfl) dX12_writesBlock_12 ⟨Nat.le_of_ble_eq_true rfl, Nat.le_of_ble_eq_true rfl⟩ (fun H locs hP hS => ?_)
  obtain ⟨s22, hc21, h⟩ := bn_e h
  refine ywVv (As := [.int r20]) (rest := []) (C := RX12) (n := 1) (ws' := RW D a s22) ⟨hx, hb, hml, hown, ht⟩ (k_x12_tellsByte l D a r20 _ _ _ hc21) (zgV ml_X12_786 im_X12_tellsByte se_X12_tellsByte in_X12 co_X12_tellsByte) rfl rfl (by decide +kernel) ⟨Nat.le_of_ble_eq_true rfl, Nat.le_of_ble_eq_true rfl⟩ hN hK hP (hDD _) hS hA 0 RW_0 rfl rfl rfl hl.1 rfl (Nat.le_of_ble_eq_true rfl) dX12_writesBlock_15 ⟨Nat.le_of_ble_eq_true rfl, Nat.le_of_ble_eq_true rfl⟩ (fun H locs hP hS => ?_)
  refine lv_aload_n hx hb dX12_writesBlock_18 rfl (lv_at hl 0 rfl) ?_
  refine lv_iload_n hx hb dX12_writesBlock_19 rfl (lv_at hl 1 rfl) ?_
  obtain ⟨r24, hc23, h⟩ := bn_e h
  refine ycV (As := [.int p0]) (rest := []) (C := RX12) (n := 1) ⟨hx, hb, hml, hown, ht⟩ (k_x12_isThere l D a p0 _ _ hc23) (zgV ml_X12_496 im_X12_isThere se_X12_isThere in_X12 co_X12_isThere) rfl rfl (by decide +kernel) ⟨Nat.le_of_ble_eq_true rfl, Nat.le_of_ble_eq_true rfl⟩ hN hK hP hS 0 RW_0 rfl rfl rfl hl.1 rfl (Nat.le_of_ble_eq_true rfl) dX12_writesBlock_20 ⟨Nat.le_of_ble_eq_true rfl, Nat.le_of_ble_eq_true rfl⟩ (fun H locs hP hS => ?_)
  refine lv_if_ne (tgt := 27) hx hb dX12_writesBlock_23 (by decide) (fun c25 => ?_) (fun c25 => ?_)
  · have h := if_f c25 h
    refine lv_aload_n hx hb dX12_writesBlock_27 rfl (lv_at hl 0 rfl) ?_
    refine lv_aload_n hx hb dX12_writesBlock_28 rfl (lv_at hl 0 rfl) ?_
    refine lv_iload_n hx hb dX12_writesBlock_29 rfl (lv_at hl 1 rfl) ?_
    obtain ⟨r27, hc26, h⟩ := bn_e h
    refine ycV (As := [.int p0]) (rest := [.ref (a 200)]) (C := RX12) (n := 1) ⟨hx, hb, hml, hown, ht⟩ (k_x12_levelOf l D a p0 _ _ hc26) (zgV ml_X12_460 im_X12_levelOf se_X12_levelOf in_X12 co_X12_levelOf) rfl rfl (by decide +kernel) ⟨Nat.le_of_ble_eq_true rfl, Nat.le_of_ble_eq_true rfl⟩ hN hK hP hS 0 RW_0 rfl rfl rfl hl.1 rfl (Nat.le_of_ble_eq_true rfl) dX12_writesBlock_30 ⟨Nat.le_of_ble_eq_true rfl, Nat.le_of_ble_eq_true rfl⟩ (fun H locs hP hS => ?_)
    obtain ⟨s29, hc28, h⟩ := bn_e h
    refine ywVv (As := [.int r27]) (rest := []) (C := RX12) (n := 1) (ws' := RW D a s29) ⟨hx, hb, hml, hown, ht⟩ (k_x12_tellsByte l D a r27 _ _ _ hc28) (zgV ml_X12_786 im_X12_tellsByte se_X12_tellsByte in_X12 co_X12_tellsByte) rfl rfl (by decide +kernel) ⟨Nat.le_of_ble_eq_true rfl, Nat.le_of_ble_eq_true rfl⟩ hN hK hP (hDD _) hS hA 0 RW_0 rfl rfl rfl hl.1 rfl (Nat.le_of_ble_eq_true rfl) dX12_writesBlock_33 ⟨Nat.le_of_ble_eq_true rfl, Nat.le_of_ble_eq_true rfl⟩ (fun H locs hP hS => ?_)
    refine lv_aload_n hx hb dX12_writesBlock_36 rfl (lv_at hl 0 rfl) ?_
    refine lv_aload_n hx hb dX12_writesBlock_37 rfl (lv_at hl 0 rfl) ?_
    refine lv_iload_n hx hb dX12_writesBlock_38 rfl (lv_at hl 1 rfl) ?_
    obtain ⟨r31, hc30, h⟩ := bn_e h
    refine ycV (As := [.int p0]) (rest := [.ref (a 200)]) (C := RX12) (n := 1) ⟨hx, hb, hml, hown, ht⟩ (k_x12_entriesOf l D a p0 _ _ hc30) (zgV ml_X12_466 im_X12_entriesOf se_X12_entriesOf in_X12 co_X12_entriesOf) rfl rfl (by decide +kernel) ⟨Nat.le_of_ble_eq_true rfl, Nat.le_of_ble_eq_true rfl⟩ hN hK hP hS 0 RW_0 rfl rfl rfl hl.1 rfl (Nat.le_of_ble_eq_true rfl) dX12_writesBlock_39 ⟨Nat.le_of_ble_eq_true rfl, Nat.le_of_ble_eq_true rfl⟩ (fun H locs hP hS => ?_)
    obtain ⟨s33, hc32, h⟩ := bn_e h
    refine ywVv (As := [.int r31]) (rest := []) (C := RX12) (n := 1) (ws' := RW D a s33) ⟨hx, hb, hml, hown, ht⟩ (k_x12_tellsByte l D a r31 _ _ _ hc32) (zgV ml_X12_786 im_X12_tellsByte se_X12_tellsByte in_X12 co_X12_tellsByte) rfl rfl (by decide +kernel) ⟨Nat.le_of_ble_eq_true rfl, Nat.le_of_ble_eq_true rfl⟩ hN hK hP (hDD _) hS hA 0 RW_0 rfl rfl rfl hl.1 rfl (Nat.le_of_ble_eq_true rfl) dX12_writesBlock_42 ⟨Nat.le_of_ble_eq_true rfl, Nat.le_of_ble_eq_true rfl⟩ (fun H locs hP hS => ?_)
    refine lv_iconst (v := 0) hx hb dX12_writesBlock_45 (by decide) ?_
    refine lv_istore_n (lv' := [(2, .int 0), (0, .ref (a 200)), (1, .int p0)]) hx hb dX12_writesBlock_46 rfl hl (by decide) rfl (fun ls hl => ?_)
    exact J47 FU (p0, 0, s33) _ _ _ ⟨hP, hS, lv_sub hl [1, 2, 0] rfl, h⟩
  · have h := if_t c25 h
    obtain rfl := Option.some.inj h
    exact W.vret hx hb hr (fun t ht hW => ⟨⟨(), rfl, trivial, by rw [ht]; exact hP, va_K.moved hW.alike hK, hDD _⟩, hS.F ht⟩) hS.2.2 dX12_writesBlock_26
def m_x12_rootTold_J19 (s : MS) (x1 : Int32) : Option Int32 :=
  some x1
def m_x12_rootTold (p0 : Int32) (s : MS) : Option Int32 :=
  if (gI s 47) = 0 then m_x12_rootTold_J19 s 255 else rdI (gA s 49) 906 p0 (fun y3 => m_x12_rootTold_J19 s y3)
set_option maxHeartbeats 4000000 in
set_option maxRecDepth 100000 in
theorem k_x12_rootTold (l : Launch) (D : va_G) (a : Nat → Nat) (p0 : Int32) (s : MS) (o : Int32) (h : m_x12_rootTold p0 s = some o) : yRi l yX12_rootTold cX12_rootTold 2 (some .int) { frames := 0, cells := 0, slots := 0, locals := 0 } D [.ref (a 200), .int p0] (RW D a s) o := by
  refine Met.ofW (cc := cX12_rootTold) (maxL := 2) (ret := (some .int)) (by decide) rfl ?_
  intro p e s₀ m args below meth c s₁ B hml hv
  obtain ⟨rfl, ⟨hP, hK⟩, hN⟩ := hv
  have hx := B.exec
  have hb := B.bytes
  have hr := B.returns
  have hts := atoms_spec (ws := wz yX12_rootTold cX12_rootTold 2 (some .int)) B.pre
  have ht : ∀ w ∈ lw_gd, w.before _ s₀ = true := fun w h => hts w (List.mem_cons_of_mem _ h)
  have hown : s₀.vm.findClass RX12 = some m.cls := findClass_of_methodNamed B.named
  have hlocks := B.notSynchronized
  have hS : va_S (fun _ => False) s₀.heap s₀.heap [] := va_S.rf
  have hl := lv_entry ([.ref (a 200), .int p0]) (n := 2) (Nat.le_of_ble_eq_true rfl)
  rw [lg_entry_eq]
  generalize (lg_sl ([.ref (a 200), .int p0]) ++ List.replicate (2 - (lg_sl ([.ref (a 200), .int p0])).length) Slot.unset).toArray = ls at hl ⊢
  have hl : lv_has ls 2 [(0, .ref (a 200)), (1, .int p0)] := hl
  unfold m_x12_rootTold at h
  refine y_head (pcJ := 19) (σ := Int32) (fun u H locs ls => va_P D vwCl (RW D a s) H ∧ va_S (fun _ => False) s₀.heap H locs ∧ lv_has ls 2 [] ∧ m_x12_rootTold_J19 s u = some o) (fun u => [.int u]) (fun u H locs ls hI => ?_) (fun J19 => ?_)
  · obtain ⟨hP, hS, hl, h⟩ := hI
    obtain ⟨x1, rfl⟩ : ∃ z, z = u := ⟨u, rfl⟩
    have hP : va_P D vwCl (RW D a s) H := hP
    have hl : lv_has ls 2 [] := hl
    have h : m_x12_rootTold_J19 s x1 = some o := h
    unfold m_x12_rootTold_J19 at h
    obtain rfl := Option.some.inj h
    exact W.iret (v := x1) hx hb hr (fun t ht hW => ⟨⟨_, (), rfl, rfl, trivial⟩, hS.F ht⟩) hS.2.2 dX12_rootTold_19
  refine lv_aload_n hx hb dX12_rootTold_0 rfl (lv_at hl 0 rfl) ?_
  refine va_get (D := D) (ci := 12) (v := .int (gI s 47)) (C := RX12) (T := TX12) (N := 116) hx hb ht inX12 hown hK hP 0 RW_0 rfl 47 (by decide) (ht (.fieldLink RX12 406 "CloneVolumesModel" "isTold" "Z") fl_X12_406) (fun _ h9 => h9) mF_47 dX12_rootTold_1 ?_
  refine lv_if_eq (tgt := 16) hx hb dX12_rootTold_4 (by decide) (fun c2 => ?_) (fun c2 => ?_)
  · have h := if_t c2 h
    refine lv_sipush (v := 255) hx hb dX12_rootTold_16 (by decide) ?_
    exact J19 255 _ _ _ ⟨hP, hS, lv_sub hl [] rfl, h⟩
  · have h := if_f c2 h
    refine lv_aload_n hx hb dX12_rootTold_7 rfl (lv_at hl 0 rfl) ?_
    refine va_get (D := D) (ci := 12) (v := .ref (a 49)) (C := RX12) (T := TX12) (N := 116) hx hb ht inX12 hown hK hP 0 RW_0 rfl 49 (by decide) (ht (.fieldLink RX12 121 "CloneVolumesModel" "now" "[I") fl_X12_121) (fun _ h9 => h9) mF_49 dX12_rootTold_8 ?_
    refine lv_iload_n hx hb dX12_rootTold_11 rfl (lv_at hl 1 rfl) ?_
    obtain ⟨y3, ey3, iy3, h⟩ := rdI_e h
    refine ya_iald hx hb hK hP 36 0 RW_36 rfl ey3 iy3 dX12_rootTold_12 ?_
    refine lv_goto (tgt := 19) hx hb dX12_rootTold_13 (by decide) ?_
    exact J19 y3 _ _ _ ⟨hP, hS, lv_sub hl [] rfl, h⟩
def m_x12_checked_b6 (s : MS) (lr6 : Int32 → Int32 → Int32 → Option Int32) (x1 : Int32) (x2 : Int32) (x3 : Int32) : Option Int32 :=
  if x1 ≤ x3 then some x2 else rdI (gA s 111) 1364 x3 (fun y5 => lr6 x1 (((3 * x2) + y5) - ((3 * x2) + y5) / 251 * 251) (x3 + 1))
def m_x12_checked_L6 (s : MS) (n : Nat) : Int32 → Int32 → Int32 → Option Int32 := lp (fun _ _ _ => none) (m_x12_checked_b6 s) n
def m_x12_checked (p1 : Int32) (s : MS) : Option Int32 :=
  m_x12_checked_L6 s FU p1 157 0
set_option maxHeartbeats 4000000 in
set_option maxRecDepth 100000 in
theorem k_x12_checked (l : Launch) (D : va_G) (a : Nat → Nat) (p1 : Int32) (s : MS) (o : Int32) (h : m_x12_checked p1 s = some o) : yRi l yX12_checked cX12_checked 4 (some .int) { frames := 0, cells := 0, slots := 0, locals := 0 } D [.ref (a 111), .int p1] (RW D a s) o := by
  refine Met.ofW (cc := cX12_checked) (maxL := 4) (ret := (some .int)) (by decide) rfl ?_
  intro p e s₀ m args below meth c s₁ B hml hv
  obtain ⟨rfl, ⟨hP, hK⟩, hN⟩ := hv
  have hx := B.exec
  have hb := B.bytes
  have hr := B.returns
  have hts := atoms_spec (ws := wz yX12_checked cX12_checked 4 (some .int)) B.pre
  have ht : ∀ w ∈ lw_gd, w.before _ s₀ = true := fun w h => hts w (List.mem_cons_of_mem _ h)
  have hown : s₀.vm.findClass RX12 = some m.cls := findClass_of_methodNamed B.named
  have hlocks := B.notSynchronized
  have hS : va_S (fun _ => False) s₀.heap s₀.heap [] := va_S.rf
  have hl := lv_entry ([.ref (a 111), .int p1]) (n := 4) (Nat.le_of_ble_eq_true rfl)
  rw [lg_entry_eq]
  generalize (lg_sl ([.ref (a 111), .int p1]) ++ List.replicate (4 - (lg_sl ([.ref (a 111), .int p1])).length) Slot.unset).toArray = ls at hl ⊢
  have hl : lv_has ls 4 [(0, .ref (a 111)), (1, .int p1)] := hl
  unfold m_x12_checked at h
  refine y_loop (pcJ := 6) (σ := Int32 × Int32 × Int32) (fun n u H locs ls => va_P D vwCl (RW D a s) H ∧ va_S (fun _ => False) s₀.heap H locs ∧ lv_has ls 4 [(0, .ref (a 111)), (1, .int u.1), (2, .int u.2.1), (3, .int u.2.2)] ∧ m_x12_checked_L6 s n u.1 u.2.1 u.2.2 = some o) (fun u => []) (fun u H locs ls hI => by obtain ⟨_, _, _, h⟩ := hI; cases h) (fun n6 ih6 u H locs ls hI => ?_) (fun J6 => ?_)
  · obtain ⟨hP, hS, hl, h⟩ := hI
    obtain ⟨x1, x2, x3⟩ := u
    have hP : va_P D vwCl (RW D a s) H := hP
    have hl : lv_has ls 4 [(0, .ref (a 111)), (1, .int x1), (2, .int x2), (3, .int x3)] := hl
    have h : m_x12_checked_b6 s (m_x12_checked_L6 s n6) x1 x2 x3 = some o := h
    unfold m_x12_checked_b6 at h
    refine lv_iload_n hx hb dX12_checked_6 rfl (lv_at hl 3 rfl) ?_
    refine lv_iload_n hx hb dX12_checked_7 rfl (lv_at hl 1 rfl) ?_
    refine lv_icmp_ge (tgt := 29) hx hb dX12_checked_8 (by decide) (fun c4 => ?_) (fun c4 => ?_)
    · have h := if_t c4 h
      refine lv_iload_n hx hb dX12_checked_29 rfl (lv_at hl 2 rfl) ?_
      obtain rfl := Option.some.inj h
      exact W.iret (v := x2) hx hb hr (fun t ht hW => ⟨⟨_, (), rfl, rfl, trivial⟩, hS.F ht⟩) hS.2.2 dX12_checked_30
    · have h := if_f c4 h
      refine lv_iconst (v := 3) hx hb dX12_checked_11 (by decide) ?_
      refine lv_iload_n hx hb dX12_checked_12 rfl (lv_at hl 2 rfl) ?_
      refine lv_imul hx hb dX12_checked_13 ?_
      refine lv_aload_n hx hb dX12_checked_14 rfl (lv_at hl 0 rfl) ?_
      refine lv_iload_n hx hb dX12_checked_15 rfl (lv_at hl 3 rfl) ?_
      obtain ⟨y5, ey5, iy5, h⟩ := rdI_e h
      refine ya_iald hx hb hK hP 78 0 RW_78 rfl ey5 iy5 dX12_checked_16 ?_
      refine lv_iadd hx hb dX12_checked_17 ?_
      refine lv_sipush (v := 251) hx hb dX12_checked_18 (by decide) ?_
      refine lv_irem hx hb dX12_checked_21 (by decide) ?_
      refine lv_istore_n (lv' := [(2, .int (((3 * x2) + y5) - ((3 * x2) + y5) / 251 * 251)), (0, .ref (a 111)), (1, .int x1), (3, .int x3)]) hx hb dX12_checked_22 rfl hl (by decide) rfl (fun ls hl => ?_)
      refine lv_iinc (v := x3 + 1) (lv' := [(3, .int (x3 + 1)), (2, .int (((3 * x2) + y5) - ((3 * x2) + y5) / 251 * 251)), (0, .ref (a 111)), (1, .int x1)]) hx hb dX12_checked_23 hl (k := 3) rfl rfl (by decide) rfl (fun ls hl => ?_)
      refine lv_goto (tgt := 6) hx hb dX12_checked_26 (by decide) ?_
      exact ih6 (x1, ((3 * x2) + y5) - ((3 * x2) + y5) / 251 * 251, x3 + 1) _ _ _ ⟨hP, hS, lv_sub hl [2, 3, 1, 0] rfl, h⟩
  refine lv_sipush (v := 157) hx hb dX12_checked_0 (by decide) ?_
  refine lv_istore_n (lv' := [(2, .int 157), (0, .ref (a 111)), (1, .int p1)]) hx hb dX12_checked_3 rfl hl (by decide) rfl (fun ls hl => ?_)
  refine lv_iconst (v := 0) hx hb dX12_checked_4 (by decide) ?_
  refine lv_istore_n (lv' := [(3, .int 0), (2, .int 157), (0, .ref (a 111)), (1, .int p1)]) hx hb dX12_checked_5 rfl hl (by decide) rfl (fun ls hl => ?_)
  exact J6 FU (p1, 157, 0) _ _ _ ⟨hP, hS, lv_sub hl [2, 3, 1, 0] rfl, h⟩
def m_x12_image_b72 (lr72 : Int32 → MS → Option (Int32 × MS)) (x1 : Int32) (s2 : MS) : Option (Int32 × MS) :=
  bn (m_x12_blockMany s2) (fun r4 => if r4 ≤ x1 then bn (m_x12_checked (gI s2 112) s2) (fun r7 => bn (m_x12_tellsByte r7 s2) (fun s9 => some (gI s9 112, s9))) else bn (m_x12_writesBlock x1 s2) (fun s11 => lr72 (x1 + 1) s11))
def m_x12_image_L72 (n : Nat) : Int32 → MS → Option (Int32 × MS) := lp (fun _ _ => none) (m_x12_image_b72) n
def m_x12_image_b37 (lr37 : Int32 → MS → Option (Int32 × MS)) (x12 : Int32) (s13 : MS) : Option (Int32 × MS) :=
  if 8 ≤ x12 then m_x12_image_L72 FU 0 s13 else bn (m_x12_rootTold x12 s13) (fun r16 => bn (m_x12_tellsByte r16 s13) (fun s18 => bn (m_x12_rootTold (8 + x12) s18) (fun r20 => bn (m_x12_tellsByte r20 s18) (fun s22 => lr37 (x12 + 1) s22))))
def m_x12_image_L37 (n : Nat) : Int32 → MS → Option (Int32 × MS) := lp (fun _ _ => none) (m_x12_image_b37) n
def m_x12_image (s : MS) : Option (Int32 × MS) :=
  stn (sI s 112 0) (fun s23 => rdI (gA s23 49) 906 16 (fun y24 => bn (m_x12_tellsByte (y24 / 65536) s23) (fun s26 => rdI (gA s26 49) 906 16 (fun y27 => bn (m_x12_tellsTwo (y27 - y27 / 65536 * 65536) s26) (fun s29 => m_x12_image_L37 FU 0 s29)))))
set_option maxHeartbeats 4000000 in
set_option maxRecDepth 100000 in
theorem k_x12_image (l : Launch) (D : va_G) (a : Nat → Nat) (sz : Nat) (s : MS) (o : (Int32 × MS)) (h : m_x12_image s = some o) : yWi l yX12_image cX12_image 2 (some .int) { frames := 4, cells := 0, slots := 0, locals := 240 } D sz [.ref (a 200)] (RW D a s) (RW D a o.2) o.1 := by
  refine Met.ofW (cc := cX12_image) (maxL := 2) (ret := (some .int)) (by decide) rfl ?_
  intro p e s₀ m args below meth c s₁ B hml hv
  obtain ⟨rfl, ⟨hsz, hP, hK, hD0⟩, hN⟩ := hv
  have hx := B.exec
  have hb := B.bytes
  have hr := B.returns
  have hts := atoms_spec (ws := wz yX12_image cX12_image 2 (some .int)) B.pre
  have ht : ∀ w ∈ lw_gd, w.before _ s₀ = true := fun w h => hts w (List.mem_cons_of_mem _ h)
  have hown : s₀.vm.findClass RX12 = some m.cls := findClass_of_methodNamed B.named
  have hlocks := B.notSynchronized
  subst hsz
  have hD := hD0.self (sz := s₀.heap.size)
  generalize hAe : va_A (RW D a s) s₀.heap.size = A at hD ⊢
  have hA : ∀ q : Nat, s₀.heap.size ≤ q → A q := fun q h => by rw [← hAe]; exact Or.inr h
  have hS : va_S A s₀.heap s₀.heap [] := va_S.rf
  have hDD : ∀ t : MS, va_D A (RW D a t) := fun t => RW_D t hD
  have hl := lv_entry ([.ref (a 200)]) (n := 2) (Nat.le_of_ble_eq_true rfl)
  rw [lg_entry_eq]
  generalize (lg_sl ([.ref (a 200)]) ++ List.replicate (2 - (lg_sl ([.ref (a 200)])).length) Slot.unset).toArray = ls at hl ⊢
  have hl : lv_has ls 2 [(0, .ref (a 200))] := hl
  unfold m_x12_image at h
  refine y_loop (pcJ := 72) (σ := Int32 × MS) (fun n u H locs ls => va_P D vwCl (RW D a u.2) H ∧ va_S A s₀.heap H locs ∧ lv_has ls 2 [(0, .ref (a 200)), (1, .int u.1)] ∧ m_x12_image_L72 n u.1 u.2 = some o) (fun u => []) (fun u H locs ls hI => by obtain ⟨_, _, _, h⟩ := hI; cases h) (fun n72 ih72 u H locs ls hI => ?_) (fun J72 => ?_)
  · obtain ⟨hP, hS, hl, h⟩ := hI
    obtain ⟨x1, s2⟩ := u
    have hP : va_P D vwCl (RW D a s2) H := hP
    have hl : lv_has ls 2 [(0, .ref (a 200)), (1, .int x1)] := hl
    have h : m_x12_image_b72 (m_x12_image_L72 n72) x1 s2 = some o := h
    unfold m_x12_image_b72 at h
    refine lv_iload_n hx hb dX12_image_72 rfl (lv_at hl 1 rfl) ?_
    refine lv_aload_n hx hb dX12_image_73 rfl (lv_at hl 0 rfl) ?_
    obtain ⟨r4, hc3, h⟩ := bn_e h
    refine ycV (As := []) (rest := [.int x1]) (C := RX12) (n := 0) ⟨hx, hb, hml, hown, ht⟩ (k_x12_blockMany l D a _ _ hc3) (zgV ml_X12_429 im_X12_blockMany se_X12_blockMany in_X12 co_X12_blockMany) rfl rfl (by decide +kernel) ⟨Nat.le_of_ble_eq_true rfl, Nat.le_of_ble_eq_true rfl⟩ hN hK hP hS 0 RW_0 rfl rfl rfl hl.1 rfl (Nat.le_of_ble_eq_true rfl) dX12_image_74 ⟨Nat.le_of_ble_eq_true rfl, Nat.le_of_ble_eq_true rfl⟩ (fun H locs hP hS => ?_)
    refine lv_icmp_ge (tgt := 91) hx hb dX12_image_77 (by decide) (fun c5 => ?_) (fun c5 => ?_)
    · have h := if_t c5 h
      refine lv_aload_n hx hb dX12_image_91 rfl (lv_at hl 0 rfl) ?_
      refine lv_aload_n hx hb dX12_image_92 rfl (lv_at hl 0 rfl) ?_
      refine va_get (D := D) (ci := 12) (v := .ref (a 111)) (C := RX12) (T := TX12) (N := 116) hx hb ht inX12 hown hK hP 0 RW_0 rfl 111 (by decide) (ht (.fieldLink RX12 252 "CloneVolumesModel" "octet" "[I") fl_X12_252) (fun _ h9 => h9) mF_111 dX12_image_93 ?_
      refine lv_aload_n hx hb dX12_image_96 rfl (lv_at hl 0 rfl) ?_
      refine va_get (D := D) (ci := 12) (v := .int (gI s2 112)) (C := RX12) (T := TX12) (N := 116) hx hb ht inX12 hown hK hP 0 RW_0 rfl 112 (by decide) (ht (.fieldLink RX12 783 "CloneVolumesModel" "octets" "I") fl_X12_783) (fun _ h9 => h9) mF_112 dX12_image_97 ?_
      obtain ⟨r7, hc6, h⟩ := bn_e h
      refine ycS (As := [.ref (a 111), .int (gI s2 112)]) (rest := [.ref (a 200)]) (n := 2) ⟨hx, hb, hml, hown, ht⟩ (k_x12_checked l D a (gI s2 112) _ _ hc6) (zgT ml_X12_799 st_X12_checked in_X12 co_X12_checked) rfl rfl (by decide +kernel) ⟨Nat.le_of_ble_eq_true rfl, Nat.le_of_ble_eq_true rfl⟩ hN hK hP hS rfl hl.1 rfl (Nat.le_of_ble_eq_true rfl) dX12_image_100 ⟨Nat.le_of_ble_eq_true rfl, Nat.le_of_ble_eq_true rfl⟩ (fun H locs hP hS => ?_)
      obtain ⟨s9, hc8, h⟩ := bn_e h
      refine ywVv (As := [.int r7]) (rest := []) (C := RX12) (n := 1) (ws' := RW D a s9) ⟨hx, hb, hml, hown, ht⟩ (k_x12_tellsByte l D a r7 _ _ _ hc8) (zgV ml_X12_786 im_X12_tellsByte se_X12_tellsByte in_X12 co_X12_tellsByte) rfl rfl (by decide +kernel) ⟨Nat.le_of_ble_eq_true rfl, Nat.le_of_ble_eq_true rfl⟩ hN hK hP (hDD _) hS hA 0 RW_0 rfl rfl rfl hl.1 rfl (Nat.le_of_ble_eq_true rfl) dX12_image_103 ⟨Nat.le_of_ble_eq_true rfl, Nat.le_of_ble_eq_true rfl⟩ (fun H locs hP hS => ?_)
      refine lv_aload_n hx hb dX12_image_106 rfl (lv_at hl 0 rfl) ?_
      refine va_get (D := D) (ci := 12) (v := .int (gI s9 112)) (C := RX12) (T := TX12) (N := 116) hx hb ht inX12 hown hK hP 0 RW_0 rfl 112 (by decide) (ht (.fieldLink RX12 783 "CloneVolumesModel" "octets" "I") fl_X12_783) (fun _ h9 => h9) mF_112 dX12_image_107 ?_
      obtain rfl := Option.some.inj h
      exact W.iret (v := gI s9 112) hx hb hr (fun t ht hW => ⟨⟨_, (), rfl, rfl, by rw [ht]; exact hP, va_K.moved hW.alike hK, hDD _⟩, hS.F ht⟩) hS.2.2 dX12_image_110
    · have h := if_f c5 h
      refine lv_aload_n hx hb dX12_image_80 rfl (lv_at hl 0 rfl) ?_
      refine lv_iload_n hx hb dX12_image_81 rfl (lv_at hl 1 rfl) ?_
      obtain ⟨s11, hc10, h⟩ := bn_e h
      refine ywVv (As := [.int x1]) (rest := []) (C := RX12) (n := 1) (ws' := RW D a s11) ⟨hx, hb, hml, hown, ht⟩ (k_x12_writesBlock l D a x1 _ _ _ hc10) (zgV ml_X12_796 im_X12_writesBlock se_X12_writesBlock in_X12 co_X12_writesBlock) rfl rfl (by decide +kernel) ⟨Nat.le_of_ble_eq_true rfl, Nat.le_of_ble_eq_true rfl⟩ hN hK hP (hDD _) hS hA 0 RW_0 rfl rfl rfl hl.1 rfl (Nat.le_of_ble_eq_true rfl) dX12_image_82 ⟨Nat.le_of_ble_eq_true rfl, Nat.le_of_ble_eq_true rfl⟩ (fun H locs hP hS => ?_)
      refine lv_iinc (v := x1 + 1) (lv' := [(1, .int (x1 + 1)), (0, .ref (a 200))]) hx hb dX12_image_85 hl (k := 1) rfl rfl (by decide) rfl (fun ls hl => ?_)
      refine lv_goto (tgt := 72) hx hb dX12_image_88 (by decide) ?_
      exact ih72 (x1 + 1, s11) _ _ _ ⟨hP, hS, lv_sub hl [1, 0] rfl, h⟩
  refine y_loop (pcJ := 37) (σ := Int32 × MS) (fun n u H locs ls => va_P D vwCl (RW D a u.2) H ∧ va_S A s₀.heap H locs ∧ lv_has ls 2 [(0, .ref (a 200)), (1, .int u.1)] ∧ m_x12_image_L37 n u.1 u.2 = some o) (fun u => []) (fun u H locs ls hI => by obtain ⟨_, _, _, h⟩ := hI; cases h) (fun n37 ih37 u H locs ls hI => ?_) (fun J37 => ?_)
  · obtain ⟨hP, hS, hl, h⟩ := hI
    obtain ⟨x12, s13⟩ := u
    have hP : va_P D vwCl (RW D a s13) H := hP
    have hl : lv_has ls 2 [(0, .ref (a 200)), (1, .int x12)] := hl
    have h : m_x12_image_b37 (m_x12_image_L37 n37) x12 s13 = some o := h
    unfold m_x12_image_b37 at h
    refine lv_iload_n hx hb dX12_image_37 rfl (lv_at hl 1 rfl) ?_
    refine lv_bipush (v := 8) hx hb dX12_image_38 (by decide) ?_
    refine lv_icmp_ge (tgt := 70) hx hb dX12_image_40 (by decide) (fun c14 => ?_) (fun c14 => ?_)
    · have h := if_t c14 h
      refine lv_iconst (v := 0) hx hb dX12_image_70 (by decide) ?_
      refine lv_istore_n (lv' := [(1, .int 0), (0, .ref (a 200))]) hx hb dX12_image_71 rfl hl (by decide) rfl (fun ls hl => ?_)
      exact J72 FU (0, s13) _ _ _ ⟨hP, hS, lv_sub hl [1, 0] rfl, h⟩
    · have h := if_f c14 h
      refine lv_aload_n hx hb dX12_image_43 rfl (lv_at hl 0 rfl) ?_
      refine lv_aload_n hx hb dX12_image_44 rfl (lv_at hl 0 rfl) ?_
      refine lv_iload_n hx hb dX12_image_45 rfl (lv_at hl 1 rfl) ?_
      obtain ⟨r16, hc15, h⟩ := bn_e h
      refine ycV (As := [.int x12]) (rest := [.ref (a 200)]) (C := RX12) (n := 1) ⟨hx, hb, hml, hown, ht⟩ (k_x12_rootTold l D a x12 _ _ hc15) (zgV ml_X12_793 im_X12_rootTold se_X12_rootTold in_X12 co_X12_rootTold) rfl rfl (by decide +kernel) ⟨Nat.le_of_ble_eq_true rfl, Nat.le_of_ble_eq_true rfl⟩ hN hK hP hS 0 RW_0 rfl rfl rfl hl.1 rfl (Nat.le_of_ble_eq_true rfl) dX12_image_46 ⟨Nat.le_of_ble_eq_true rfl, Nat.le_of_ble_eq_true rfl⟩ (fun H locs hP hS => ?_)
      obtain ⟨s18, hc17, h⟩ := bn_e h
      refine ywVv (As := [.int r16]) (rest := []) (C := RX12) (n := 1) (ws' := RW D a s18) ⟨hx, hb, hml, hown, ht⟩ (k_x12_tellsByte l D a r16 _ _ _ hc17) (zgV ml_X12_786 im_X12_tellsByte se_X12_tellsByte in_X12 co_X12_tellsByte) rfl rfl (by decide +kernel) ⟨Nat.le_of_ble_eq_true rfl, Nat.le_of_ble_eq_true rfl⟩ hN hK hP (hDD _) hS hA 0 RW_0 rfl rfl rfl hl.1 rfl (Nat.le_of_ble_eq_true rfl) dX12_image_49 ⟨Nat.le_of_ble_eq_true rfl, Nat.le_of_ble_eq_true rfl⟩ (fun H locs hP hS => ?_)
      refine lv_aload_n hx hb dX12_image_52 rfl (lv_at hl 0 rfl) ?_
      refine lv_aload_n hx hb dX12_image_53 rfl (lv_at hl 0 rfl) ?_
      refine lv_bipush (v := 8) hx hb dX12_image_54 (by decide) ?_
      refine lv_iload_n hx hb dX12_image_56 rfl (lv_at hl 1 rfl) ?_
      refine lv_iadd hx hb dX12_image_57 ?_
      obtain ⟨r20, hc19, h⟩ := bn_e h
      refine ycV (As := [.int (8 + x12)]) (rest := [.ref (a 200)]) (C := RX12) (n := 1) ⟨hx, hb, hml, hown, ht⟩ (k_x12_rootTold l D a (8 + x12) _ _ hc19) (zgV ml_X12_793 im_X12_rootTold se_X12_rootTold in_X12 co_X12_rootTold) rfl rfl (by decide +kernel) ⟨Nat.le_of_ble_eq_true rfl, Nat.le_of_ble_eq_true rfl⟩ hN hK hP hS 0 RW_0 rfl rfl rfl hl.1 rfl (Nat.le_of_ble_eq_true rfl) dX12_image_58 ⟨Nat.le_of_ble_eq_true rfl, Nat.le_of_ble_eq_true rfl⟩ (fun H locs hP hS => ?_)
      obtain ⟨s22, hc21, h⟩ := bn_e h
      refine ywVv (As := [.int r20]) (rest := []) (C := RX12) (n := 1) (ws' := RW D a s22) ⟨hx, hb, hml, hown, ht⟩ (k_x12_tellsByte l D a r20 _ _ _ hc21) (zgV ml_X12_786 im_X12_tellsByte se_X12_tellsByte in_X12 co_X12_tellsByte) rfl rfl (by decide +kernel) ⟨Nat.le_of_ble_eq_true rfl, Nat.le_of_ble_eq_true rfl⟩ hN hK hP (hDD _) hS hA 0 RW_0 rfl rfl rfl hl.1 rfl (Nat.le_of_ble_eq_true rfl) dX12_image_61 ⟨Nat.le_of_ble_eq_true rfl, Nat.le_of_ble_eq_true rfl⟩ (fun H locs hP hS => ?_)
      refine lv_iinc (v := x12 + 1) (lv' := [(1, .int (x12 + 1)), (0, .ref (a 200))]) hx hb dX12_image_64 hl (k := 1) rfl rfl (by decide) rfl (fun ls hl => ?_)
      refine lv_goto (tgt := 37) hx hb dX12_image_67 (by decide) ?_
      exact ih37 (x12 + 1, s22) _ _ _ ⟨hP, hS, lv_sub hl [1, 0] rfl, h⟩
  refine lv_aload_n hx hb dX12_image_0 rfl (lv_at hl 0 rfl) ?_
  refine lv_iconst (v := 0) hx hb dX12_image_1 (by decide) ?_
  refine ya_put (D := D) (ci := 12) (v := .int 0) (ty := .int) (C := RX12) (T := TX12) (N := 116) hx hb ht inX12 tyX12 tyX12_ok nmX12 hown hK hP (hDD _) hS 0 RW_0 rfl 112 (by decide) (ht (.fieldLink RX12 783 "CloneVolumesModel" "octets" "I") fl_X12_783) (fun _ h9 => h9) rfl (by decide +kernel) rfl rfl (by rw [mF_len]; decide) dX12_image_2 (RW_f112 _) (fun H locs hP hS => ?_)
  obtain ⟨s23, hs23, h⟩ := st_e h
  rw [hs23] at hP
  refine lv_aload_n hx hb dX12_image_5 rfl (lv_at hl 0 rfl) ?_
  refine lv_aload_n hx hb dX12_image_6 rfl (lv_at hl 0 rfl) ?_
  refine va_get (D := D) (ci := 12) (v := .ref (a 49)) (C := RX12) (T := TX12) (N := 116) hx hb ht inX12 hown hK hP 0 RW_0 rfl 49 (by decide) (ht (.fieldLink RX12 121 "CloneVolumesModel" "now" "[I") fl_X12_121) (fun _ h9 => h9) mF_49 dX12_image_7 ?_
  refine lv_bipush (v := 16) hx hb dX12_image_10 (by decide) ?_
  obtain ⟨y24, ey24, iy24, h⟩ := rdI_e h
  refine ya_iald hx hb hK hP 36 0 RW_36 rfl ey24 iy24 dX12_image_12 ?_
  refine lv_ldcw (own := RX12) (v := 65536) hx hb hown (ht _ ck_X12_792) dX12_image_13 ?_
  refine lv_idiv hx hb dX12_image_16 (by decide) ?_
  obtain ⟨s26, hc25, h⟩ := bn_e h
  refine ywVv (As := [.int (y24 / 65536)]) (rest := []) (C := RX12) (n := 1) (ws' := RW D a s26) ⟨hx, hb, hml, hown, ht⟩ (k_x12_tellsByte l D a (y24 / 65536) _ _ _ hc25) (zgV ml_X12_786 im_X12_tellsByte se_X12_tellsByte in_X12 co_X12_tellsByte) rfl rfl (by decide +kernel) ⟨Nat.le_of_ble_eq_true rfl, Nat.le_of_ble_eq_true rfl⟩ hN hK hP (hDD _) hS hA 0 RW_0 rfl rfl rfl hl.1 rfl (Nat.le_of_ble_eq_true rfl) dX12_image_17 ⟨Nat.le_of_ble_eq_true rfl, Nat.le_of_ble_eq_true rfl⟩ (fun H locs hP hS => ?_)
  refine lv_aload_n hx hb dX12_image_20 rfl (lv_at hl 0 rfl) ?_
  refine lv_aload_n hx hb dX12_image_21 rfl (lv_at hl 0 rfl) ?_
  refine va_get (D := D) (ci := 12) (v := .ref (a 49)) (C := RX12) (T := TX12) (N := 116) hx hb ht inX12 hown hK hP 0 RW_0 rfl 49 (by decide) (ht (.fieldLink RX12 121 "CloneVolumesModel" "now" "[I") fl_X12_121) (fun _ h9 => h9) mF_49 dX12_image_22 ?_
  refine lv_bipush (v := 16) hx hb dX12_image_25 (by decide) ?_
  obtain ⟨y27, ey27, iy27, h⟩ := rdI_e h
  refine ya_iald hx hb hK hP 36 0 RW_36 rfl ey27 iy27 dX12_image_27 ?_
  refine lv_ldcw (own := RX12) (v := 65536) hx hb hown (ht _ ck_X12_792) dX12_image_28 ?_
  refine lv_irem hx hb dX12_image_31 (by decide) ?_
  obtain ⟨s29, hc28, h⟩ := bn_e h
  refine ywVv (As := [.int (y27 - y27 / 65536 * 65536)]) (rest := []) (C := RX12) (n := 1) (ws' := RW D a s29) ⟨hx, hb, hml, hown, ht⟩ (k_x12_tellsTwo l D a (y27 - y27 / 65536 * 65536) _ _ _ hc28) (zgV ml_X12_789 im_X12_tellsTwo se_X12_tellsTwo in_X12 co_X12_tellsTwo) rfl rfl (by decide +kernel) ⟨Nat.le_of_ble_eq_true rfl, Nat.le_of_ble_eq_true rfl⟩ hN hK hP (hDD _) hS hA 0 RW_0 rfl rfl rfl hl.1 rfl (Nat.le_of_ble_eq_true rfl) dX12_image_32 ⟨Nat.le_of_ble_eq_true rfl, Nat.le_of_ble_eq_true rfl⟩ (fun H locs hP hS => ?_)
  refine lv_iconst (v := 0) hx hb dX12_image_35 (by decide) ?_
  refine lv_istore_n (lv' := [(1, .int 0), (0, .ref (a 200))]) hx hb dX12_image_36 rfl hl (by decide) rfl (fun ls hl => ?_)
  exact J37 FU (0, s29) _ _ _ ⟨hP, hS, lv_sub hl [1, 0] rfl, h⟩
def m_x12_byteRead_J33 (x1 : Int32) (s2 : MS) : Option (Int32 × MS) :=
  some (x1, s2)
def m_x12_byteRead (p0 : Int32) (s : MS) : Option (Int32 × MS) :=
  stn (sI s 114 ((gI s 114) + 1)) (fun s3 => if p0 < (gI s3 114) then m_x12_byteRead_J33 (-1) s3 else rdI (gA s3 0) 1600 ((gI s3 114) - 1) (fun y5 => m_x12_byteRead_J33 y5 s3))
set_option maxHeartbeats 4000000 in
set_option maxRecDepth 100000 in
theorem k_x12_byteRead (l : Launch) (D : va_G) (a : Nat → Nat) (p0 : Int32) (sz : Nat) (s : MS) (o : (Int32 × MS)) (h : m_x12_byteRead p0 s = some o) : yWi l yX12_byteRead cX12_byteRead 2 (some .int) { frames := 0, cells := 0, slots := 0, locals := 0 } D sz [.ref (a 200), .int p0] (RW D a s) (RW D a o.2) o.1 := by
  refine Met.ofW (cc := cX12_byteRead) (maxL := 2) (ret := (some .int)) (by decide) rfl ?_
  intro p e s₀ m args below meth c s₁ B hml hv
  obtain ⟨rfl, ⟨hsz, hP, hK, hD0⟩, hN⟩ := hv
  have hx := B.exec
  have hb := B.bytes
  have hr := B.returns
  have hts := atoms_spec (ws := wz yX12_byteRead cX12_byteRead 2 (some .int)) B.pre
  have ht : ∀ w ∈ lw_gd, w.before _ s₀ = true := fun w h => hts w (List.mem_cons_of_mem _ h)
  have hown : s₀.vm.findClass RX12 = some m.cls := findClass_of_methodNamed B.named
  have hlocks := B.notSynchronized
  subst hsz
  have hD := hD0.self (sz := s₀.heap.size)
  generalize hAe : va_A (RW D a s) s₀.heap.size = A at hD ⊢
  have hA : ∀ q : Nat, s₀.heap.size ≤ q → A q := fun q h => by rw [← hAe]; exact Or.inr h
  have hS : va_S A s₀.heap s₀.heap [] := va_S.rf
  have hDD : ∀ t : MS, va_D A (RW D a t) := fun t => RW_D t hD
  have hl := lv_entry ([.ref (a 200), .int p0]) (n := 2) (Nat.le_of_ble_eq_true rfl)
  rw [lg_entry_eq]
  generalize (lg_sl ([.ref (a 200), .int p0]) ++ List.replicate (2 - (lg_sl ([.ref (a 200), .int p0])).length) Slot.unset).toArray = ls at hl ⊢
  have hl : lv_has ls 2 [(0, .ref (a 200)), (1, .int p0)] := hl
  unfold m_x12_byteRead at h
  refine y_head (pcJ := 33) (σ := Int32 × MS) (fun u H locs ls => va_P D vwCl (RW D a u.2) H ∧ va_S A s₀.heap H locs ∧ lv_has ls 2 [] ∧ m_x12_byteRead_J33 u.1 u.2 = some o) (fun u => [.int u.1]) (fun u H locs ls hI => ?_) (fun J33 => ?_)
  · obtain ⟨hP, hS, hl, h⟩ := hI
    obtain ⟨x1, s2⟩ := u
    have hP : va_P D vwCl (RW D a s2) H := hP
    have hl : lv_has ls 2 [] := hl
    have h : m_x12_byteRead_J33 x1 s2 = some o := h
    unfold m_x12_byteRead_J33 at h
    obtain rfl := Option.some.inj h
    exact W.iret (v := x1) hx hb hr (fun t ht hW => ⟨⟨_, (), rfl, rfl, by rw [ht]; exact hP, va_K.moved hW.alike hK, hDD _⟩, hS.F ht⟩) hS.2.2 dX12_byteRead_33
  refine lv_aload_n hx hb dX12_byteRead_0 rfl (lv_at hl 0 rfl) ?_
  refine lv_dup hx hb dX12_byteRead_1 rfl ?_
  refine va_get (D := D) (ci := 12) (v := .int (gI s 114)) (C := RX12) (T := TX12) (N := 116) hx hb ht inX12 hown hK hP 0 RW_0 rfl 114 (by decide) (ht (.fieldLink RX12 803 "CloneVolumesModel" "read0" "I") fl_X12_803) (fun _ h9 => h9) mF_114 dX12_byteRead_2 ?_
  refine lv_iconst (v := 1) hx hb dX12_byteRead_5 (by decide) ?_
  refine lv_iadd hx hb dX12_byteRead_6 ?_
  refine ya_put (D := D) (ci := 12) (v := .int ((gI s 114) + 1)) (ty := .int) (C := RX12) (T := TX12) (N := 116) hx hb ht inX12 tyX12 tyX12_ok nmX12 hown hK hP (hDD _) hS 0 RW_0 rfl 114 (by decide) (ht (.fieldLink RX12 803 "CloneVolumesModel" "read0" "I") fl_X12_803) (fun _ h9 => h9) rfl (by decide +kernel) rfl rfl (by rw [mF_len]; decide) dX12_byteRead_7 (RW_f114 _) (fun H locs hP hS => ?_)
  obtain ⟨s3, hs3, h⟩ := st_e h
  rw [hs3] at hP
  refine lv_aload_n hx hb dX12_byteRead_10 rfl (lv_at hl 0 rfl) ?_
  refine va_get (D := D) (ci := 12) (v := .int (gI s3 114)) (C := RX12) (T := TX12) (N := 116) hx hb ht inX12 hown hK hP 0 RW_0 rfl 114 (by decide) (ht (.fieldLink RX12 803 "CloneVolumesModel" "read0" "I") fl_X12_803) (fun _ h9 => h9) mF_114 dX12_byteRead_11 ?_
  refine lv_iload_n hx hb dX12_byteRead_14 rfl (lv_at hl 1 rfl) ?_
  refine lv_icmp_gt (tgt := 32) hx hb dX12_byteRead_15 (by decide) (fun c4 => ?_) (fun c4 => ?_)
  · have h := if_t c4 h
    refine lv_iconst (v := (-1)) hx hb dX12_byteRead_32 (by decide) ?_
    exact J33 ((-1), s3) _ _ _ ⟨hP, hS, lv_sub hl [] rfl, h⟩
  · have h := if_f c4 h
    refine lv_aload_n hx hb dX12_byteRead_18 rfl (lv_at hl 0 rfl) ?_
    refine va_get (D := D) (ci := 12) (v := .ref (a 0)) (C := RX12) (T := TX12) (N := 116) hx hb ht inX12 hown hK hP 0 RW_0 rfl 0 (by decide) (ht (.fieldLink RX12 7 "CloneVolumesModel" "tape" "[I") fl_X12_7) (fun _ h9 => h9) mF_0 dX12_byteRead_19 ?_
    refine lv_aload_n hx hb dX12_byteRead_22 rfl (lv_at hl 0 rfl) ?_
    refine va_get (D := D) (ci := 12) (v := .int (gI s3 114)) (C := RX12) (T := TX12) (N := 116) hx hb ht inX12 hown hK hP 0 RW_0 rfl 114 (by decide) (ht (.fieldLink RX12 803 "CloneVolumesModel" "read0" "I") fl_X12_803) (fun _ h9 => h9) mF_114 dX12_byteRead_23 ?_
    refine lv_iconst (v := 1) hx hb dX12_byteRead_26 (by decide) ?_
    refine lv_isub hx hb dX12_byteRead_27 ?_
    obtain ⟨y5, ey5, iy5, h⟩ := rdI_e h
    refine ya_iald hx hb hK hP 1 0 RW_1 rfl ey5 iy5 dX12_byteRead_28 ?_
    refine lv_goto (tgt := 33) hx hb dX12_byteRead_29 (by decide) ?_
    exact J33 (y5, s3) _ _ _ ⟨hP, hS, lv_sub hl [] rfl, h⟩
def m_x12_twoRead_J33 (x1 : Int32) (s2 : MS) : Option (Int32 × MS) :=
  some (x1, s2)
def m_x12_twoRead_J22 (s3 : MS) : Option (Int32 × MS) :=
  m_x12_twoRead_J33 (-1) s3
def m_x12_twoRead (p0 : Int32) (s : MS) : Option (Int32 × MS) :=
  bn (m_x12_byteRead p0 s) (fun qr6 => bn (m_x12_byteRead p0 qr6.2) (fun qr9 => if qr6.1 = (-1) then m_x12_twoRead_J22 qr9.2 else if qr9.1 = (-1) then m_x12_twoRead_J22 qr9.2 else m_x12_twoRead_J33 ((256 * qr6.1) + qr9.1) qr9.2))
set_option maxHeartbeats 4000000 in
set_option maxRecDepth 100000 in
theorem k_x12_twoRead (l : Launch) (D : va_G) (a : Nat → Nat) (p0 : Int32) (sz : Nat) (s : MS) (o : (Int32 × MS)) (h : m_x12_twoRead p0 s = some o) : yWi l yX12_twoRead cX12_twoRead 4 (some .int) { frames := 1, cells := 0, slots := 0, locals := 60 } D sz [.ref (a 200), .int p0] (RW D a s) (RW D a o.2) o.1 := by
  refine Met.ofW (cc := cX12_twoRead) (maxL := 4) (ret := (some .int)) (by decide) rfl ?_
  intro p e s₀ m args below meth c s₁ B hml hv
  obtain ⟨rfl, ⟨hsz, hP, hK, hD0⟩, hN⟩ := hv
  have hx := B.exec
  have hb := B.bytes
  have hr := B.returns
  have hts := atoms_spec (ws := wz yX12_twoRead cX12_twoRead 4 (some .int)) B.pre
  have ht : ∀ w ∈ lw_gd, w.before _ s₀ = true := fun w h => hts w (List.mem_cons_of_mem _ h)
  have hown : s₀.vm.findClass RX12 = some m.cls := findClass_of_methodNamed B.named
  have hlocks := B.notSynchronized
  subst hsz
  have hD := hD0.self (sz := s₀.heap.size)
  generalize hAe : va_A (RW D a s) s₀.heap.size = A at hD ⊢
  have hA : ∀ q : Nat, s₀.heap.size ≤ q → A q := fun q h => by rw [← hAe]; exact Or.inr h
  have hS : va_S A s₀.heap s₀.heap [] := va_S.rf
  have hDD : ∀ t : MS, va_D A (RW D a t) := fun t => RW_D t hD
  have hl := lv_entry ([.ref (a 200), .int p0]) (n := 4) (Nat.le_of_ble_eq_true rfl)
  rw [lg_entry_eq]
  generalize (lg_sl ([.ref (a 200), .int p0]) ++ List.replicate (4 - (lg_sl ([.ref (a 200), .int p0])).length) Slot.unset).toArray = ls at hl ⊢
  have hl : lv_has ls 4 [(0, .ref (a 200)), (1, .int p0)] := hl
  unfold m_x12_twoRead at h
  refine y_head (pcJ := 33) (σ := Int32 × MS) (fun u H locs ls => va_P D vwCl (RW D a u.2) H ∧ va_S A s₀.heap H locs ∧ lv_has ls 4 [] ∧ m_x12_twoRead_J33 u.1 u.2 = some o) (fun u => [.int u.1]) (fun u H locs ls hI => ?_) (fun J33 => ?_)
  · obtain ⟨hP, hS, hl, h⟩ := hI
    obtain ⟨x1, s2⟩ := u
    have hP : va_P D vwCl (RW D a s2) H := hP
    have hl : lv_has ls 4 [] := hl
    have h : m_x12_twoRead_J33 x1 s2 = some o := h
    unfold m_x12_twoRead_J33 at h
    obtain rfl := Option.some.inj h
    exact W.iret (v := x1) hx hb hr (fun t ht hW => ⟨⟨_, (), rfl, rfl, by rw [ht]; exact hP, va_K.moved hW.alike hK, hDD _⟩, hS.F ht⟩) hS.2.2 dX12_twoRead_33
  refine y_head (pcJ := 22) (σ := MS) (fun u H locs ls => va_P D vwCl (RW D a u) H ∧ va_S A s₀.heap H locs ∧ lv_has ls 4 [] ∧ m_x12_twoRead_J22 u = some o) (fun u => []) (fun u H locs ls hI => ?_) (fun J22 => ?_)
  · obtain ⟨hP, hS, hl, h⟩ := hI
    obtain ⟨s3, rfl⟩ : ∃ z, z = u := ⟨u, rfl⟩
    have hP : va_P D vwCl (RW D a s3) H := hP
    have hl : lv_has ls 4 [] := hl
    have h : m_x12_twoRead_J22 s3 = some o := h
    unfold m_x12_twoRead_J22 at h
    refine lv_iconst (v := (-1)) hx hb dX12_twoRead_22 (by decide) ?_
    refine lv_goto (tgt := 33) hx hb dX12_twoRead_23 (by decide) ?_
    exact J33 ((-1), s3) _ _ _ ⟨hP, hS, lv_sub hl [] rfl, h⟩
  refine lv_aload_n hx hb dX12_twoRead_0 rfl (lv_at hl 0 rfl) ?_
  refine lv_iload_n hx hb dX12_twoRead_1 rfl (lv_at hl 1 rfl) ?_
  obtain ⟨⟨r6, s5⟩, hc4, h⟩ := bn_e h
  refine ywV (r0 := r6) (As := [.int p0]) (rest := []) (C := RX12) (n := 1) (ws' := RW D a s5) ⟨hx, hb, hml, hown, ht⟩ (k_x12_byteRead l D a p0 _ _ _ hc4) (zgV ml_X12_806 im_X12_byteRead se_X12_byteRead in_X12 co_X12_byteRead) rfl rfl (by decide +kernel) ⟨Nat.le_of_ble_eq_true rfl, Nat.le_of_ble_eq_true rfl⟩ hN hK hP (hDD _) hS hA 0 RW_0 rfl rfl rfl hl.1 rfl (Nat.le_of_ble_eq_true rfl) dX12_twoRead_2 ⟨Nat.le_of_ble_eq_true rfl, Nat.le_of_ble_eq_true rfl⟩ (fun H locs hP hS => ?_)
  refine lv_istore_n (lv' := [(2, .int r6), (0, .ref (a 200)), (1, .int p0)]) hx hb dX12_twoRead_5 rfl hl (by decide) rfl (fun ls hl => ?_)
  refine lv_aload_n hx hb dX12_twoRead_6 rfl (lv_at hl 1 rfl) ?_
  refine lv_iload_n hx hb dX12_twoRead_7 rfl (lv_at hl 2 rfl) ?_
  obtain ⟨⟨r9, s8⟩, hc7, h⟩ := bn_e h
  refine ywV (r0 := r9) (As := [.int p0]) (rest := []) (C := RX12) (n := 1) (ws' := RW D a s8) ⟨hx, hb, hml, hown, ht⟩ (k_x12_byteRead l D a p0 _ _ _ hc7) (zgV ml_X12_806 im_X12_byteRead se_X12_byteRead in_X12 co_X12_byteRead) rfl rfl (by decide +kernel) ⟨Nat.le_of_ble_eq_true rfl, Nat.le_of_ble_eq_true rfl⟩ hN hK hP (hDD _) hS hA 0 RW_0 rfl rfl rfl hl.1 rfl (Nat.le_of_ble_eq_true rfl) dX12_twoRead_8 ⟨Nat.le_of_ble_eq_true rfl, Nat.le_of_ble_eq_true rfl⟩ (fun H locs hP hS => ?_)
  refine lv_istore_n (lv' := [(3, .int r9), (2, .int r6), (0, .ref (a 200)), (1, .int p0)]) hx hb dX12_twoRead_11 rfl hl (by decide) rfl (fun ls hl => ?_)
  refine lv_iload_n hx hb dX12_twoRead_12 rfl (lv_at hl 1 rfl) ?_
  refine lv_iconst (v := (-1)) hx hb dX12_twoRead_13 (by decide) ?_
  refine lv_icmp_eq (tgt := 22) hx hb dX12_twoRead_14 (by decide) (fun c10 => ?_) (fun c10 => ?_)
  · have h := if_t c10 h
    exact J22 s8 _ _ _ ⟨hP, hS, lv_sub hl [] rfl, h⟩
  · have h := if_f c10 h
    refine lv_iload_n hx hb dX12_twoRead_17 rfl (lv_at hl 0 rfl) ?_
    refine lv_iconst (v := (-1)) hx hb dX12_twoRead_18 (by decide) ?_
    refine lv_icmp_ne (tgt := 26) hx hb dX12_twoRead_19 (by decide) (fun c11 => ?_) (fun c11 => ?_)
    · have h := if_f c11 h
      refine lv_sipush (v := 256) hx hb dX12_twoRead_26 (by decide) ?_
      refine lv_iload_n hx hb dX12_twoRead_29 rfl (lv_at hl 1 rfl) ?_
      refine lv_imul hx hb dX12_twoRead_30 ?_
      refine lv_iload_n hx hb dX12_twoRead_31 rfl (lv_at hl 0 rfl) ?_
      refine lv_iadd hx hb dX12_twoRead_32 ?_
      exact J33 ((256 * r6) + r9, s8) _ _ _ ⟨hP, hS, lv_sub hl [] rfl, h⟩
    · have h := if_t c11 h
      exact J22 s8 _ _ _ ⟨hP, hS, lv_sub hl [] rfl, h⟩
def m_x12_laidOf (p0 : Int32) (p1 : Int32) (s : MS) : Option Int32 :=
  rdI (gA s 113) 785 ((17 + (16 * p0)) + p1) (fun y1 => some y1)
set_option maxHeartbeats 4000000 in
set_option maxRecDepth 100000 in
theorem k_x12_laidOf (l : Launch) (D : va_G) (a : Nat → Nat) (p0 : Int32) (p1 : Int32) (s : MS) (o : Int32) (h : m_x12_laidOf p0 p1 s = some o) : yRi l yX12_laidOf cX12_laidOf 3 (some .int) { frames := 0, cells := 0, slots := 0, locals := 0 } D [.ref (a 200), .int p0, .int p1] (RW D a s) o := by
  refine Met.ofW (cc := cX12_laidOf) (maxL := 3) (ret := (some .int)) (by decide) rfl ?_
  intro p e s₀ m args below meth c s₁ B hml hv
  obtain ⟨rfl, ⟨hP, hK⟩, hN⟩ := hv
  have hx := B.exec
  have hb := B.bytes
  have hr := B.returns
  have hts := atoms_spec (ws := wz yX12_laidOf cX12_laidOf 3 (some .int)) B.pre
  have ht : ∀ w ∈ lw_gd, w.before _ s₀ = true := fun w h => hts w (List.mem_cons_of_mem _ h)
  have hown : s₀.vm.findClass RX12 = some m.cls := findClass_of_methodNamed B.named
  have hlocks := B.notSynchronized
  have hS : va_S (fun _ => False) s₀.heap s₀.heap [] := va_S.rf
  have hl := lv_entry ([.ref (a 200), .int p0, .int p1]) (n := 3) (Nat.le_of_ble_eq_true rfl)
  rw [lg_entry_eq]
  generalize (lg_sl ([.ref (a 200), .int p0, .int p1]) ++ List.replicate (3 - (lg_sl ([.ref (a 200), .int p0, .int p1])).length) Slot.unset).toArray = ls at hl ⊢
  have hl : lv_has ls 3 [(0, .ref (a 200)), (1, .int p0), (2, .int p1)] := hl
  unfold m_x12_laidOf at h
  refine lv_aload_n hx hb dX12_laidOf_0 rfl (lv_at hl 0 rfl) ?_
  refine va_get (D := D) (ci := 12) (v := .ref (a 113)) (C := RX12) (T := TX12) (N := 116) hx hb ht inX12 hown hK hP 0 RW_0 rfl 113 (by decide) (ht (.fieldLink RX12 255 "CloneVolumesModel" "laid" "[I") fl_X12_255) (fun _ h9 => h9) mF_113 dX12_laidOf_1 ?_
  refine lv_bipush (v := 17) hx hb dX12_laidOf_4 (by decide) ?_
  refine lv_bipush (v := 16) hx hb dX12_laidOf_6 (by decide) ?_
  refine lv_iload_n hx hb dX12_laidOf_8 rfl (lv_at hl 1 rfl) ?_
  refine lv_imul hx hb dX12_laidOf_9 ?_
  refine lv_iadd hx hb dX12_laidOf_10 ?_
  refine lv_iload_n hx hb dX12_laidOf_11 rfl (lv_at hl 2 rfl) ?_
  refine lv_iadd hx hb dX12_laidOf_12 ?_
  obtain ⟨y1, ey1, iy1, h⟩ := rdI_e h
  refine ya_iald hx hb hK hP 79 0 RW_79 rfl ey1 iy1 dX12_laidOf_13 ?_
  obtain rfl := Option.some.inj h
  exact W.iret (v := y1) hx hb hr (fun t ht hW => ⟨⟨_, (), rfl, rfl, trivial⟩, hS.F ht⟩) hS.2.2 dX12_laidOf_14
def m_x12_isLaidBlock_J262 (x1 : Int32) (s2 : MS) : Option (Int32 × MS) :=
  bo x1 (some (x1, s2))
def m_x12_isLaidBlock_J215 (lr130 : Int32 → Int32 → Int32 → MS → Option (Int32 × MS)) (x8 : Int32) (x9 : Int32) (x10 : Int32) (x11 : Int32) (s12 : MS) : Option (Int32 × MS) :=
  rdI (gA s12 113) 785 ((x9 + 4) + x10) (fun y13 => bn (m_x12_isIn (Int32.toInt64 y13) (Int32.toInt64 x11) 999 s12) (fun r15 => if r15 = 0 then some (0, s12) else lr130 x8 x9 (x10 + 1) s12))
def m_x12_isLaidBlock_J202 (lr130 : Int32 → Int32 → Int32 → MS → Option (Int32 × MS)) (x17 : Int32) (x18 : Int32) (x19 : Int32) (s20 : MS) : Option (Int32 × MS) :=
  rdI (gA s20 113) 785 ((x18 + 3) + x19) (fun y21 => m_x12_isLaidBlock_J215 lr130 x17 x18 x19 (y21 + 1) s20)
def m_x12_isLaidBlock_J198 (lr130 : Int32 → Int32 → Int32 → MS → Option (Int32 × MS)) (x22 : Int32) (x23 : Int32) (x24 : Int32) (s25 : MS) : Option (Int32 × MS) :=
  m_x12_isLaidBlock_J215 lr130 x22 x23 x24 0 s25
def m_x12_isLaidBlock_b130 (lr130 : Int32 → Int32 → Int32 → MS → Option (Int32 × MS)) (x4 : Int32) (x5 : Int32) (x6 : Int32) (s7 : MS) : Option (Int32 × MS) :=
  rdI (gA s7 113) 785 (x5 + 3) (fun y26 => if y26 ≤ x6 then if x4 < (gI s7 114) then m_x12_isLaidBlock_J262 0 s7 else m_x12_isLaidBlock_J262 1 s7 else bn (m_x12_twoRead x4 s7) (fun qr31 => inb 785 ((x5 + 4) + x6) (stn (sA qr31.2 113 (upd (gA qr31.2 113) (Int32.toNatClampNeg ((x5 + 4) + x6)) qr31.1)) (fun s33 => bn (m_x12_twoRead x4 s33) (fun qr36 => inb 785 ((x5 + 10) + x6) (stn (sA qr36.2 113 (upd (gA qr36.2 113) (Int32.toNatClampNeg ((x5 + 10) + x6)) qr36.1)) (fun s38 => if x6 = 0 then m_x12_isLaidBlock_J198 lr130 x4 x5 x6 s38 else if x6 = 1 then rdI (gA s38 113) 785 (x5 + 2) (fun y41 => if y41 ≤ 0 then m_x12_isLaidBlock_J202 lr130 x4 x5 x6 s38 else m_x12_isLaidBlock_J198 lr130 x4 x5 x6 s38) else m_x12_isLaidBlock_J202 lr130 x4 x5 x6 s38)))))))
def m_x12_isLaidBlock_L130 (n : Nat) : Int32 → Int32 → Int32 → MS → Option (Int32 × MS) := lp (fun _ _ _ _ => none) (m_x12_isLaidBlock_b130) n
def m_x12_isLaidBlock_b11 (lr11 : Int32 → Int32 → Int32 → MS → Option (Int32 × MS)) (x43 : Int32) (x44 : Int32) (x45 : Int32) (s46 : MS) : Option (Int32 × MS) :=
  if 16 ≤ x45 then bn (m_x12_byteRead x43 s46) (fun qr50 => inb 785 x44 (stn (sA qr50.2 113 (upd (gA qr50.2 113) (Int32.toNatClampNeg x44) qr50.1)) (fun s52 => bn (m_x12_byteRead x43 s52) (fun qr55 => inb 785 (x44 + 1) (stn (sA qr55.2 113 (upd (gA qr55.2 113) (Int32.toNatClampNeg (x44 + 1)) qr55.1)) (fun s57 => rdI (gA s57 113) 785 x44 (fun y58 => rdI (gA s57 113) 785 (x44 + 1) (fun y59 => if (y58 + y59) = 0 then some (1, s57) else bn (m_x12_byteRead x43 s57) (fun qr63 => inb 785 (x44 + 2) (stn (sA qr63.2 113 (upd (gA qr63.2 113) (Int32.toNatClampNeg (x44 + 2)) qr63.1)) (fun s65 => bn (m_x12_byteRead x43 s65) (fun qr68 => inb 785 (x44 + 3) (stn (sA qr68.2 113 (upd (gA qr68.2 113) (Int32.toNatClampNeg (x44 + 3)) qr68.1)) (fun s70 => rdI (gA s70 113) 785 (x44 + 3) (fun y71 => bn (m_x12_roomOf s70) (fun r73 => bn (m_x12_isIn (Int32.toInt64 y71) 1 (Int32.toInt64 r73) s70) (fun r75 => if r75 = 0 then some (0, s70) else m_x12_isLaidBlock_L130 FU x43 x44 0 s70))))))))))))))))) else inb 785 (x44 + x45) (stn (sA s46 113 (upd (gA s46 113) (Int32.toNatClampNeg (x44 + x45)) 0)) (fun s78 => lr11 x43 x44 (x45 + 1) s78))
def m_x12_isLaidBlock_L11 (n : Nat) : Int32 → Int32 → Int32 → MS → Option (Int32 × MS) := lp (fun _ _ _ _ => none) (m_x12_isLaidBlock_b11) n
def m_x12_isLaidBlock (p0 : Int32) (p1 : Int32) (s : MS) : Option (Int32 × MS) :=
  m_x12_isLaidBlock_L11 FU p1 (17 + (16 * p0)) 0 s
set_option maxHeartbeats 4000000 in
set_option maxRecDepth 100000 in
theorem k_x12_isLaidBlock (l : Launch) (D : va_G) (a : Nat → Nat) (p0 : Int32) (p1 : Int32) (sz : Nat) (s : MS) (o : (Int32 × MS)) (h : m_x12_isLaidBlock p0 p1 s = some o) : yWi l yX12_isLaidBlock cX12_isLaidBlock 6 (some .boolean) { frames := 2, cells := 0, slots := 0, locals := 120 } D sz [.ref (a 200), .int p0, .int p1] (RW D a s) (RW D a o.2) o.1 := by
  refine Met.ofW (cc := cX12_isLaidBlock) (maxL := 6) (ret := (some .boolean)) (by decide) rfl ?_
  intro p e s₀ m args below meth c s₁ B hml hv
  obtain ⟨rfl, ⟨hsz, hP, hK, hD0⟩, hN⟩ := hv
  have hx := B.exec
  have hb := B.bytes
  have hr := B.returns
  have hts := atoms_spec (ws := wz yX12_isLaidBlock cX12_isLaidBlock 6 (some .boolean)) B.pre
  have ht : ∀ w ∈ lw_gd, w.before _ s₀ = true := fun w h => hts w (List.mem_cons_of_mem _ h)
  have hown : s₀.vm.findClass RX12 = some m.cls := findClass_of_methodNamed B.named
  have hlocks := B.notSynchronized
  subst hsz
  have hD := hD0.self (sz := s₀.heap.size)
  generalize hAe : va_A (RW D a s) s₀.heap.size = A at hD ⊢
  have hA : ∀ q : Nat, s₀.heap.size ≤ q → A q := fun q h => by rw [← hAe]; exact Or.inr h
  have hS : va_S A s₀.heap s₀.heap [] := va_S.rf
  have hDD : ∀ t : MS, va_D A (RW D a t) := fun t => RW_D t hD
  have hl := lv_entry ([.ref (a 200), .int p0, .int p1]) (n := 6) (Nat.le_of_ble_eq_true rfl)
  rw [lg_entry_eq]
  generalize (lg_sl ([.ref (a 200), .int p0, .int p1]) ++ List.replicate (6 - (lg_sl ([.ref (a 200), .int p0, .int p1])).length) Slot.unset).toArray = ls at hl ⊢
  have hl : lv_has ls 6 [(0, .ref (a 200)), (1, .int p0), (2, .int p1)] := hl
  unfold m_x12_isLaidBlock at h
  refine y_head (pcJ := 262) (σ := Int32 × MS) (fun u H locs ls => va_P D vwCl (RW D a u.2) H ∧ va_S A s₀.heap H locs ∧ lv_has ls 6 [] ∧ m_x12_isLaidBlock_J262 u.1 u.2 = some o) (fun u => [.int u.1]) (fun u H locs ls hI => ?_) (fun J262 => ?_)
  · obtain ⟨hP, hS, hl, h⟩ := hI
    obtain ⟨x1, s2⟩ := u
    have hP : va_P D vwCl (RW D a s2) H := hP
    have hl : lv_has ls 6 [] := hl
    have h : m_x12_isLaidBlock_J262 x1 s2 = some o := h
    unfold m_x12_isLaidBlock_J262 at h
    obtain ⟨hb3, h⟩ := bo_e h
    obtain rfl := Option.some.inj h
    exact W.zret (v := x1) hx hb hr (bo_n hb3) (fun t ht hW => ⟨⟨_, (), rfl, rfl, by rw [ht]; exact hP, va_K.moved hW.alike hK, hDD _⟩, hS.F ht⟩) hS.2.2 dX12_isLaidBlock_262
  refine y_loop (pcJ := 130) (σ := Int32 × Int32 × Int32 × MS) (fun n u H locs ls => va_P D vwCl (RW D a u.2.2.2) H ∧ va_S A s₀.heap H locs ∧ lv_has ls 6 [(0, .ref (a 200)), (2, .int u.1), (3, .int u.2.1), (4, .int u.2.2.1)] ∧ m_x12_isLaidBlock_L130 n u.1 u.2.1 u.2.2.1 u.2.2.2 = some o) (fun u => []) (fun u H locs ls hI => by obtain ⟨_, _, _, h⟩ := hI; cases h) (fun n130 ih130 u H locs ls hI => ?_) (fun J130 => ?_)
  · obtain ⟨hP, hS, hl, h⟩ := hI
    obtain ⟨x4, x5, x6, s7⟩ := u
    have hP : va_P D vwCl (RW D a s7) H := hP
    have hl : lv_has ls 6 [(0, .ref (a 200)), (2, .int x4), (3, .int x5), (4, .int x6)] := hl
    have h : m_x12_isLaidBlock_b130 (m_x12_isLaidBlock_L130 n130) x4 x5 x6 s7 = some o := h
    unfold m_x12_isLaidBlock_b130 at h
    refine y_head (pcJ := 215) (σ := Int32 × Int32 × Int32 × Int32 × MS) (fun u H locs ls => va_P D vwCl (RW D a u.2.2.2.2) H ∧ va_S A s₀.heap H locs ∧ lv_has ls 6 [(0, .ref (a 200)), (2, .int u.1), (3, .int u.2.1), (4, .int u.2.2.1)] ∧ m_x12_isLaidBlock_J215 (m_x12_isLaidBlock_L130 n130) u.1 u.2.1 u.2.2.1 u.2.2.2.1 u.2.2.2.2 = some o) (fun u => [.int u.2.2.2.1]) (fun u H locs ls hI => ?_) (fun J215 => ?_)
    · obtain ⟨hP, hS, hl, h⟩ := hI
      obtain ⟨x8, x9, x10, x11, s12⟩ := u
      have hP : va_P D vwCl (RW D a s12) H := hP
      have hl : lv_has ls 6 [(0, .ref (a 200)), (2, .int x8), (3, .int x9), (4, .int x10)] := hl
      have h : m_x12_isLaidBlock_J215 (m_x12_isLaidBlock_L130 n130) x8 x9 x10 x11 s12 = some o := h
      unfold m_x12_isLaidBlock_J215 at h
      refine lv_istore (lv' := [(5, .int x11), (0, .ref (a 200)), (2, .int x8), (3, .int x9), (4, .int x10)]) hx hb dX12_isLaidBlock_215 hl (by decide) rfl (fun ls hl => ?_)
      refine lv_aload_n hx hb dX12_isLaidBlock_217 rfl (lv_at hl 1 rfl) ?_
      refine va_get (D := D) (ci := 12) (v := .ref (a 113)) (C := RX12) (T := TX12) (N := 116) hx hb ht inX12 hown hK hP 0 RW_0 rfl 113 (by decide) (ht (.fieldLink RX12 255 "CloneVolumesModel" "laid" "[I") fl_X12_255) (fun _ h9 => h9) mF_113 dX12_isLaidBlock_218 ?_
      refine lv_iload_n hx hb dX12_isLaidBlock_221 rfl (lv_at hl 3 rfl) ?_
      refine lv_iconst (v := 4) hx hb dX12_isLaidBlock_222 (by decide) ?_
      refine lv_iadd hx hb dX12_isLaidBlock_223 ?_
      refine lv_iload hx hb dX12_isLaidBlock_224 (lv_at hl 4 rfl) ?_
      refine lv_iadd hx hb dX12_isLaidBlock_226 ?_
      obtain ⟨y13, ey13, iy13, h⟩ := rdI_e h
      refine ya_iald hx hb hK hP 79 0 RW_79 rfl ey13 iy13 dX12_isLaidBlock_227 ?_
      refine lv_i2l (v := Int32.toInt64 y13) hx hb dX12_isLaidBlock_228 rfl ?_
      refine lv_iload hx hb dX12_isLaidBlock_229 (lv_at hl 0 rfl) ?_
      refine lv_i2l (v := Int32.toInt64 x11) hx hb dX12_isLaidBlock_231 rfl ?_
      refine lv_ldc2 (own := RX12) (v := 999) hx hb hown (ht _ cl_X12_624) dX12_isLaidBlock_232 ?_
      obtain ⟨r15, hc14, h⟩ := bn_e h
      refine ycS (As := [.long (Int32.toInt64 y13), .long (Int32.toInt64 x11), .long 999]) (rest := []) (n := 3) ⟨hx, hb, hml, hown, ht⟩ (k_x12_isIn l D a (Int32.toInt64 y13) (Int32.toInt64 x11) 999 _ _ hc14) (zgT ml_X12_309 st_X12_isIn in_X12 co_X12_isIn) rfl rfl (by decide +kernel) ⟨Nat.le_of_ble_eq_true rfl, Nat.le_of_ble_eq_true rfl⟩ hN hK hP hS rfl hl.1 rfl (Nat.le_of_ble_eq_true rfl) dX12_isLaidBlock_235 ⟨Nat.le_of_ble_eq_true rfl, Nat.le_of_ble_eq_true rfl⟩ (fun H locs hP hS => ?_)
      refine lv_if_ne (tgt := 243) hx hb dX12_isLaidBlock_238 (by decide) (fun c16 => ?_) (fun c16 => ?_)
      · have h := if_f c16 h
        refine lv_iinc (v := x10 + 1) (lv' := [(4, .int (x10 + 1)), (5, .int x11), (0, .ref (a 200)), (2, .int x8), (3, .int x9)]) hx hb dX12_isLaidBlock_243 hl (k := 4) rfl rfl (by decide) rfl (fun ls hl => ?_)
        refine lv_goto (tgt := 130) hx hb dX12_isLaidBlock_246 (by decide) ?_
        exact ih130 (x8, x9, x10 + 1, s12) _ _ _ ⟨hP, hS, lv_sub hl [2, 3, 4, 0] rfl, h⟩
      · have h := if_t c16 h
        refine lv_iconst (v := 0) hx hb dX12_isLaidBlock_241 (by decide) ?_
        obtain rfl := Option.some.inj h
        exact W.zret (v := 0) hx hb hr (by decide) (fun t ht hW => ⟨⟨_, (), rfl, rfl, by rw [ht]; exact hP, va_K.moved hW.alike hK, hDD _⟩, hS.F ht⟩) hS.2.2 dX12_isLaidBlock_242
    refine y_head (pcJ := 202) (σ := Int32 × Int32 × Int32 × MS) (fun u H locs ls => va_P D vwCl (RW D a u.2.2.2) H ∧ va_S A s₀.heap H locs ∧ lv_has ls 6 [(0, .ref (a 200)), (2, .int u.1), (3, .int u.2.1), (4, .int u.2.2.1)] ∧ m_x12_isLaidBlock_J202 (m_x12_isLaidBlock_L130 n130) u.1 u.2.1 u.2.2.1 u.2.2.2 = some o) (fun u => []) (fun u H locs ls hI => ?_) (fun J202 => ?_)
    · obtain ⟨hP, hS, hl, h⟩ := hI
      obtain ⟨x17, x18, x19, s20⟩ := u
      have hP : va_P D vwCl (RW D a s20) H := hP
      have hl : lv_has ls 6 [(0, .ref (a 200)), (2, .int x17), (3, .int x18), (4, .int x19)] := hl
      have h : m_x12_isLaidBlock_J202 (m_x12_isLaidBlock_L130 n130) x17 x18 x19 s20 = some o := h
      unfold m_x12_isLaidBlock_J202 at h
      refine lv_aload_n hx hb dX12_isLaidBlock_202 rfl (lv_at hl 0 rfl) ?_
      refine va_get (D := D) (ci := 12) (v := .ref (a 113)) (C := RX12) (T := TX12) (N := 116) hx hb ht inX12 hown hK hP 0 RW_0 rfl 113 (by decide) (ht (.fieldLink RX12 255 "CloneVolumesModel" "laid" "[I") fl_X12_255) (fun _ h9 => h9) mF_113 dX12_isLaidBlock_203 ?_
      refine lv_iload_n hx hb dX12_isLaidBlock_206 rfl (lv_at hl 2 rfl) ?_
      refine lv_iconst (v := 3) hx hb dX12_isLaidBlock_207 (by decide) ?_
      refine lv_iadd hx hb dX12_isLaidBlock_208 ?_
      refine lv_iload hx hb dX12_isLaidBlock_209 (lv_at hl 3 rfl) ?_
      refine lv_iadd hx hb dX12_isLaidBlock_211 ?_
      obtain ⟨y21, ey21, iy21, h⟩ := rdI_e h
      refine ya_iald hx hb hK hP 79 0 RW_79 rfl ey21 iy21 dX12_isLaidBlock_212 ?_
      refine lv_iconst (v := 1) hx hb dX12_isLaidBlock_213 (by decide) ?_
      refine lv_iadd hx hb dX12_isLaidBlock_214 ?_
      exact J215 (x17, x18, x19, y21 + 1, s20) _ _ _ ⟨hP, hS, lv_sub hl [0, 1, 2, 3] rfl, h⟩
    refine y_head (pcJ := 198) (σ := Int32 × Int32 × Int32 × MS) (fun u H locs ls => va_P D vwCl (RW D a u.2.2.2) H ∧ va_S A s₀.heap H locs ∧ lv_has ls 6 [(0, .ref (a 200)), (2, .int u.1), (3, .int u.2.1), (4, .int u.2.2.1)] ∧ m_x12_isLaidBlock_J198 (m_x12_isLaidBlock_L130 n130) u.1 u.2.1 u.2.2.1 u.2.2.2 = some o) (fun u => []) (fun u H locs ls hI => ?_) (fun J198 => ?_)
    · obtain ⟨hP, hS, hl, h⟩ := hI
      obtain ⟨x22, x23, x24, s25⟩ := u
      have hP : va_P D vwCl (RW D a s25) H := hP
      have hl : lv_has ls 6 [(0, .ref (a 200)), (2, .int x22), (3, .int x23), (4, .int x24)] := hl
      have h : m_x12_isLaidBlock_J198 (m_x12_isLaidBlock_L130 n130) x22 x23 x24 s25 = some o := h
      unfold m_x12_isLaidBlock_J198 at h
      refine lv_iconst (v := 0) hx hb dX12_isLaidBlock_198 (by decide) ?_
      refine lv_goto (tgt := 215) hx hb dX12_isLaidBlock_199 (by decide) ?_
      exact J215 (x22, x23, x24, 0, s25) _ _ _ ⟨hP, hS, lv_sub hl [0, 1, 2, 3] rfl, h⟩
    refine lv_iload hx hb dX12_isLaidBlock_130 (lv_at hl 3 rfl) ?_
    refine lv_aload_n hx hb dX12_isLaidBlock_132 rfl (lv_at hl 0 rfl) ?_
    refine va_get (D := D) (ci := 12) (v := .ref (a 113)) (C := RX12) (T := TX12) (N := 116) hx hb ht inX12 hown hK hP 0 RW_0 rfl 113 (by decide) (ht (.fieldLink RX12 255 "CloneVolumesModel" "laid" "[I") fl_X12_255) (fun _ h9 => h9) mF_113 dX12_isLaidBlock_133 ?_
    refine lv_iload_n hx hb dX12_isLaidBlock_136 rfl (lv_at hl 2 rfl) ?_
    refine lv_iconst (v := 3) hx hb dX12_isLaidBlock_137 (by decide) ?_
    refine lv_iadd hx hb dX12_isLaidBlock_138 ?_
    obtain ⟨y26, ey26, iy26, h⟩ := rdI_e h
    refine ya_iald hx hb hK hP 79 0 RW_79 rfl ey26 iy26 dX12_isLaidBlock_139 ?_
    refine lv_icmp_ge (tgt := 249) hx hb dX12_isLaidBlock_140 (by decide) (fun c27 => ?_) (fun c27 => ?_)
    · have h := if_t c27 h
      refine lv_aload_n hx hb dX12_isLaidBlock_249 rfl (lv_at hl 0 rfl) ?_
      refine va_get (D := D) (ci := 12) (v := .int (gI s7 114)) (C := RX12) (T := TX12) (N := 116) hx hb ht inX12 hown hK hP 0 RW_0 rfl 114 (by decide) (ht (.fieldLink RX12 803 "CloneVolumesModel" "read0" "I") fl_X12_803) (fun _ h9 => h9) mF_114 dX12_isLaidBlock_250 ?_
      refine lv_iload_n hx hb dX12_isLaidBlock_253 rfl (lv_at hl 1 rfl) ?_
      refine lv_icmp_gt (tgt := 261) hx hb dX12_isLaidBlock_254 (by decide) (fun c28 => ?_) (fun c28 => ?_)
      · have h := if_t c28 h
        refine lv_iconst (v := 0) hx hb dX12_isLaidBlock_261 (by decide) ?_
        exact J262 (0, s7) _ _ _ ⟨hP, hS, lv_sub hl [] rfl, h⟩
      · have h := if_f c28 h
        refine lv_iconst (v := 1) hx hb dX12_isLaidBlock_257 (by decide) ?_
        refine lv_goto (tgt := 262) hx hb dX12_isLaidBlock_258 (by decide) ?_
        exact J262 (1, s7) _ _ _ ⟨hP, hS, lv_sub hl [] rfl, h⟩
    · have h := if_f c27 h
      refine lv_aload_n hx hb dX12_isLaidBlock_143 rfl (lv_at hl 0 rfl) ?_
      refine va_get (D := D) (ci := 12) (v := .ref (a 113)) (C := RX12) (T := TX12) (N := 116) hx hb ht inX12 hown hK hP 0 RW_0 rfl 113 (by decide) (ht (.fieldLink RX12 255 "CloneVolumesModel" "laid" "[I") fl_X12_255) (fun _ h9 => h9) mF_113 dX12_isLaidBlock_144 ?_
      refine lv_iload_n hx hb dX12_isLaidBlock_147 rfl (lv_at hl 2 rfl) ?_
      refine lv_iconst (v := 4) hx hb dX12_isLaidBlock_148 (by decide) ?_
      refine lv_iadd hx hb dX12_isLaidBlock_149 ?_
      refine lv_iload hx hb dX12_isLaidBlock_150 (lv_at hl 3 rfl) ?_
      refine lv_iadd hx hb dX12_isLaidBlock_152 ?_
      refine lv_aload_n hx hb dX12_isLaidBlock_153 rfl (lv_at hl 0 rfl) ?_
      refine lv_iload_n hx hb dX12_isLaidBlock_154 rfl (lv_at hl 1 rfl) ?_
      obtain ⟨⟨r31, s30⟩, hc29, h⟩ := bn_e h
      refine ywV (r0 := r31) (As := [.int x4]) (rest := [.int ((x5 + 4) + x6), .ref (a 113)]) (C := RX12) (n := 1) (ws' := RW D a s30) ⟨hx, hb, hml, hown, ht⟩ (k_x12_twoRead l D a x4 _ _ _ hc29) (zgV ml_X12_809 im_X12_twoRead se_X12_twoRead in_X12 co_X12_twoRead) rfl rfl (by decide +kernel) ⟨Nat.le_of_ble_eq_true rfl, Nat.le_of_ble_eq_true rfl⟩ hN hK hP (hDD _) hS hA 0 RW_0 rfl rfl rfl hl.1 rfl (Nat.le_of_ble_eq_true rfl) dX12_isLaidBlock_155 ⟨Nat.le_of_ble_eq_true rfl, Nat.le_of_ble_eq_true rfl⟩ (fun H locs hP hS => ?_)
      obtain ⟨hi32, h⟩ := inb_e h
      refine ya_iast hx hb hK hP (hDD _) hS 79 0 RW_79 rfl hi32 dX12_isLaidBlock_158 (RW_w79 _) (fun H locs hP hS => ?_)
      obtain ⟨s33, hs33, h⟩ := st_e h
      rw [hs33] at hP
      refine lv_aload_n hx hb dX12_isLaidBlock_159 rfl (lv_at hl 0 rfl) ?_
      refine va_get (D := D) (ci := 12) (v := .ref (a 113)) (C := RX12) (T := TX12) (N := 116) hx hb ht inX12 hown hK hP 0 RW_0 rfl 113 (by decide) (ht (.fieldLink RX12 255 "CloneVolumesModel" "laid" "[I") fl_X12_255) (fun _ h9 => h9) mF_113 dX12_isLaidBlock_160 ?_
      refine lv_iload_n hx hb dX12_isLaidBlock_163 rfl (lv_at hl 2 rfl) ?_
      refine lv_bipush (v := 10) hx hb dX12_isLaidBlock_164 (by decide) ?_
      refine lv_iadd hx hb dX12_isLaidBlock_166 ?_
      refine lv_iload hx hb dX12_isLaidBlock_167 (lv_at hl 3 rfl) ?_
      refine lv_iadd hx hb dX12_isLaidBlock_169 ?_
      refine lv_aload_n hx hb dX12_isLaidBlock_170 rfl (lv_at hl 0 rfl) ?_
      refine lv_iload_n hx hb dX12_isLaidBlock_171 rfl (lv_at hl 1 rfl) ?_
      obtain ⟨⟨r36, s35⟩, hc34, h⟩ := bn_e h
      refine ywV (r0 := r36) (As := [.int x4]) (rest := [.int ((x5 + 10) + x6), .ref (a 113)]) (C := RX12) (n := 1) (ws' := RW D a s35) ⟨hx, hb, hml, hown, ht⟩ (k_x12_twoRead l D a x4 _ _ _ hc34) (zgV ml_X12_809 im_X12_twoRead se_X12_twoRead in_X12 co_X12_twoRead) rfl rfl (by decide +kernel) ⟨Nat.le_of_ble_eq_true rfl, Nat.le_of_ble_eq_true rfl⟩ hN hK hP (hDD _) hS hA 0 RW_0 rfl rfl rfl hl.1 rfl (Nat.le_of_ble_eq_true rfl) dX12_isLaidBlock_172 ⟨Nat.le_of_ble_eq_true rfl, Nat.le_of_ble_eq_true rfl⟩ (fun H locs hP hS => ?_)
      obtain ⟨hi37, h⟩ := inb_e h
      refine ya_iast hx hb hK hP (hDD _) hS 79 0 RW_79 rfl hi37 dX12_isLaidBlock_175 (RW_w79 _) (fun H locs hP hS => ?_)
      obtain ⟨s38, hs38, h⟩ := st_e h
      rw [hs38] at hP
      refine lv_iload hx hb dX12_isLaidBlock_176 (lv_at hl 3 rfl) ?_
      refine lv_if_eq (tgt := 198) hx hb dX12_isLaidBlock_178 (by decide) (fun c39 => ?_) (fun c39 => ?_)
      · have h := if_t c39 h
        exact J198 (x4, x5, x6, s38) _ _ _ ⟨hP, hS, lv_sub hl [0, 1, 2, 3] rfl, h⟩
      · have h := if_f c39 h
        refine lv_iload hx hb dX12_isLaidBlock_181 (lv_at hl 3 rfl) ?_
        refine lv_iconst (v := 1) hx hb dX12_isLaidBlock_183 (by decide) ?_
        refine lv_icmp_ne (tgt := 202) hx hb dX12_isLaidBlock_184 (by decide) (fun c40 => ?_) (fun c40 => ?_)
        · have h := if_f c40 h
          exact J202 (x4, x5, x6, s38) _ _ _ ⟨hP, hS, lv_sub hl [0, 1, 2, 3] rfl, h⟩
        · have h := if_t c40 h
          refine lv_aload_n hx hb dX12_isLaidBlock_187 rfl (lv_at hl 0 rfl) ?_
          refine va_get (D := D) (ci := 12) (v := .ref (a 113)) (C := RX12) (T := TX12) (N := 116) hx hb ht inX12 hown hK hP 0 RW_0 rfl 113 (by decide) (ht (.fieldLink RX12 255 "CloneVolumesModel" "laid" "[I") fl_X12_255) (fun _ h9 => h9) mF_113 dX12_isLaidBlock_188 ?_
          refine lv_iload_n hx hb dX12_isLaidBlock_191 rfl (lv_at hl 2 rfl) ?_
          refine lv_iconst (v := 2) hx hb dX12_isLaidBlock_192 (by decide) ?_
          refine lv_iadd hx hb dX12_isLaidBlock_193 ?_
          obtain ⟨y41, ey41, iy41, h⟩ := rdI_e h
          refine ya_iald hx hb hK hP 79 0 RW_79 rfl ey41 iy41 dX12_isLaidBlock_194 ?_
          refine lv_if_le (tgt := 202) hx hb dX12_isLaidBlock_195 (by decide) (fun c42 => ?_) (fun c42 => ?_)
          · have h := if_t c42 h
            exact J202 (x4, x5, x6, s38) _ _ _ ⟨hP, hS, lv_sub hl [0, 1, 2, 3] rfl, h⟩
          · have h := if_f c42 h
            exact J198 (x4, x5, x6, s38) _ _ _ ⟨hP, hS, lv_sub hl [0, 1, 2, 3] rfl, h⟩
  refine y_loop (pcJ := 11) (σ := Int32 × Int32 × Int32 × MS) (fun n u H locs ls => va_P D vwCl (RW D a u.2.2.2) H ∧ va_S A s₀.heap H locs ∧ lv_has ls 6 [(0, .ref (a 200)), (2, .int u.1), (3, .int u.2.1), (4, .int u.2.2.1)] ∧ m_x12_isLaidBlock_L11 n u.1 u.2.1 u.2.2.1 u.2.2.2 = some o) (fun u => []) (fun u H locs ls hI => by obtain ⟨_, _, _, h⟩ := hI; cases h) (fun n11 ih11 u H locs ls hI => ?_) (fun J11 => ?_)
  · obtain ⟨hP, hS, hl, h⟩ := hI
    obtain ⟨x43, x44, x45, s46⟩ := u
    have hP : va_P D vwCl (RW D a s46) H := hP
    have hl : lv_has ls 6 [(0, .ref (a 200)), (2, .int x43), (3, .int x44), (4, .int x45)] := hl
    have h : m_x12_isLaidBlock_b11 (m_x12_isLaidBlock_L11 n11) x43 x44 x45 s46 = some o := h
    unfold m_x12_isLaidBlock_b11 at h
    refine lv_iload hx hb dX12_isLaidBlock_11 (lv_at hl 3 rfl) ?_
    refine lv_bipush (v := 16) hx hb dX12_isLaidBlock_13 (by decide) ?_
    refine lv_icmp_ge (tgt := 34) hx hb dX12_isLaidBlock_15 (by decide) (fun c47 => ?_) (fun c47 => ?_)
    · have h := if_t c47 h
      refine lv_aload_n hx hb dX12_isLaidBlock_34 rfl (lv_at hl 0 rfl) ?_
      refine va_get (D := D) (ci := 12) (v := .ref (a 113)) (C := RX12) (T := TX12) (N := 116) hx hb ht inX12 hown hK hP 0 RW_0 rfl 113 (by decide) (ht (.fieldLink RX12 255 "CloneVolumesModel" "laid" "[I") fl_X12_255) (fun _ h9 => h9) mF_113 dX12_isLaidBlock_35 ?_
      refine lv_iload_n hx hb dX12_isLaidBlock_38 rfl (lv_at hl 2 rfl) ?_
      refine lv_aload_n hx hb dX12_isLaidBlock_39 rfl (lv_at hl 0 rfl) ?_
      refine lv_iload_n hx hb dX12_isLaidBlock_40 rfl (lv_at hl 1 rfl) ?_
      obtain ⟨⟨r50, s49⟩, hc48, h⟩ := bn_e h
      refine ywV (r0 := r50) (As := [.int x43]) (rest := [.int x44, .ref (a 113)]) (C := RX12) (n := 1) (ws' := RW D a s49) ⟨hx, hb, hml, hown, ht⟩ (k_x12_byteRead l D a x43 _ _ _ hc48) (zgV ml_X12_806 im_X12_byteRead se_X12_byteRead in_X12 co_X12_byteRead) rfl rfl (by decide +kernel) ⟨Nat.le_of_ble_eq_true rfl, Nat.le_of_ble_eq_true rfl⟩ hN hK hP (hDD _) hS hA 0 RW_0 rfl rfl rfl hl.1 rfl (Nat.le_of_ble_eq_true rfl) dX12_isLaidBlock_41 ⟨Nat.le_of_ble_eq_true rfl, Nat.le_of_ble_eq_true rfl⟩ (fun H locs hP hS => ?_)
      obtain ⟨hi51, h⟩ := inb_e h
      refine ya_iast hx hb hK hP (hDD _) hS 79 0 RW_79 rfl hi51 dX12_isLaidBlock_44 (RW_w79 _) (fun H locs hP hS => ?_)
      obtain ⟨s52, hs52, h⟩ := st_e h
      rw [hs52] at hP
      refine lv_aload_n hx hb dX12_isLaidBlock_45 rfl (lv_at hl 0 rfl) ?_
      refine va_get (D := D) (ci := 12) (v := .ref (a 113)) (C := RX12) (T := TX12) (N := 116) hx hb ht inX12 hown hK hP 0 RW_0 rfl 113 (by decide) (ht (.fieldLink RX12 255 "CloneVolumesModel" "laid" "[I") fl_X12_255) (fun _ h9 => h9) mF_113 dX12_isLaidBlock_46 ?_
      refine lv_iload_n hx hb dX12_isLaidBlock_49 rfl (lv_at hl 2 rfl) ?_
      refine lv_iconst (v := 1) hx hb dX12_isLaidBlock_50 (by decide) ?_
      refine lv_iadd hx hb dX12_isLaidBlock_51 ?_
      refine lv_aload_n hx hb dX12_isLaidBlock_52 rfl (lv_at hl 0 rfl) ?_
      refine lv_iload_n hx hb dX12_isLaidBlock_53 rfl (lv_at hl 1 rfl) ?_
      obtain ⟨⟨r55, s54⟩, hc53, h⟩ := bn_e h
      refine ywV (r0 := r55) (As := [.int x43]) (rest := [.int (x44 + 1), .ref (a 113)]) (C := RX12) (n := 1) (ws' := RW D a s54) ⟨hx, hb, hml, hown, ht⟩ (k_x12_byteRead l D a x43 _ _ _ hc53) (zgV ml_X12_806 im_X12_byteRead se_X12_byteRead in_X12 co_X12_byteRead) rfl rfl (by decide +kernel) ⟨Nat.le_of_ble_eq_true rfl, Nat.le_of_ble_eq_true rfl⟩ hN hK hP (hDD _) hS hA 0 RW_0 rfl rfl rfl hl.1 rfl (Nat.le_of_ble_eq_true rfl) dX12_isLaidBlock_54 ⟨Nat.le_of_ble_eq_true rfl, Nat.le_of_ble_eq_true rfl⟩ (fun H locs hP hS => ?_)
      obtain ⟨hi56, h⟩ := inb_e h
      refine ya_iast hx hb hK hP (hDD _) hS 79 0 RW_79 rfl hi56 dX12_isLaidBlock_57 (RW_w79 _) (fun H locs hP hS => ?_)
      obtain ⟨s57, hs57, h⟩ := st_e h
      rw [hs57] at hP
      refine lv_aload_n hx hb dX12_isLaidBlock_58 rfl (lv_at hl 0 rfl) ?_
      refine va_get (D := D) (ci := 12) (v := .ref (a 113)) (C := RX12) (T := TX12) (N := 116) hx hb ht inX12 hown hK hP 0 RW_0 rfl 113 (by decide) (ht (.fieldLink RX12 255 "CloneVolumesModel" "laid" "[I") fl_X12_255) (fun _ h9 => h9) mF_113 dX12_isLaidBlock_59 ?_
      refine lv_iload_n hx hb dX12_isLaidBlock_62 rfl (lv_at hl 2 rfl) ?_
      obtain ⟨y58, ey58, iy58, h⟩ := rdI_e h
      refine ya_iald hx hb hK hP 79 0 RW_79 rfl ey58 iy58 dX12_isLaidBlock_63 ?_
      refine lv_aload_n hx hb dX12_isLaidBlock_64 rfl (lv_at hl 0 rfl) ?_
      refine va_get (D := D) (ci := 12) (v := .ref (a 113)) (C := RX12) (T := TX12) (N := 116) hx hb ht inX12 hown hK hP 0 RW_0 rfl 113 (by decide) (ht (.fieldLink RX12 255 "CloneVolumesModel" "laid" "[I") fl_X12_255) (fun _ h9 => h9) mF_113 dX12_isLaidBlock_65 ?_
      refine lv_iload_n hx hb dX12_isLaidBlock_68 rfl (lv_at hl 2 rfl) ?_
      refine lv_iconst (v := 1) hx hb dX12_isLaidBlock_69 (by decide) ?_
      refine lv_iadd hx hb dX12_isLaidBlock_70 ?_
      obtain ⟨y59, ey59, iy59, h⟩ := rdI_e h
      refine ya_iald hx hb hK hP 79 0 RW_79 rfl ey59 iy59 dX12_isLaidBlock_71 ?_
      refine lv_iadd hx hb dX12_isLaidBlock_72 ?_
      refine lv_if_ne (tgt := 78) hx hb dX12_isLaidBlock_73 (by decide) (fun c60 => ?_) (fun c60 => ?_)
      · have h := if_f c60 h
        refine lv_aload_n hx hb dX12_isLaidBlock_78 rfl (lv_at hl 0 rfl) ?_
        refine va_get (D := D) (ci := 12) (v := .ref (a 113)) (C := RX12) (T := TX12) (N := 116) hx hb ht inX12 hown hK hP 0 RW_0 rfl 113 (by decide) (ht (.fieldLink RX12 255 "CloneVolumesModel" "laid" "[I") fl_X12_255) (fun _ h9 => h9) mF_113 dX12_isLaidBlock_79 ?_
        refine lv_iload_n hx hb dX12_isLaidBlock_82 rfl (lv_at hl 2 rfl) ?_
        refine lv_iconst (v := 2) hx hb dX12_isLaidBlock_83 (by decide) ?_
        refine lv_iadd hx hb dX12_isLaidBlock_84 ?_
        refine lv_aload_n hx hb dX12_isLaidBlock_85 rfl (lv_at hl 0 rfl) ?_
        refine lv_iload_n hx hb dX12_isLaidBlock_86 rfl (lv_at hl 1 rfl) ?_
        obtain ⟨⟨r63, s62⟩, hc61, h⟩ := bn_e h
        refine ywV (r0 := r63) (As := [.int x43]) (rest := [.int (x44 + 2), .ref (a 113)]) (C := RX12) (n := 1) (ws' := RW D a s62) ⟨hx, hb, hml, hown, ht⟩ (k_x12_byteRead l D a x43 _ _ _ hc61) (zgV ml_X12_806 im_X12_byteRead se_X12_byteRead in_X12 co_X12_byteRead) rfl rfl (by decide +kernel) ⟨Nat.le_of_ble_eq_true rfl, Nat.le_of_ble_eq_true rfl⟩ hN hK hP (hDD _) hS hA 0 RW_0 rfl rfl rfl hl.1 rfl (Nat.le_of_ble_eq_true rfl) dX12_isLaidBlock_87 ⟨Nat.le_of_ble_eq_true rfl, Nat.le_of_ble_eq_true rfl⟩ (fun H locs hP hS => ?_)
        obtain ⟨hi64, h⟩ := inb_e h
        refine ya_iast hx hb hK hP (hDD _) hS 79 0 RW_79 rfl hi64 dX12_isLaidBlock_90 (RW_w79 _) (fun H locs hP hS => ?_)
        obtain ⟨s65, hs65, h⟩ := st_e h
        rw [hs65] at hP
        refine lv_aload_n hx hb dX12_isLaidBlock_91 rfl (lv_at hl 0 rfl) ?_
        refine va_get (D := D) (ci := 12) (v := .ref (a 113)) (C := RX12) (T := TX12) (N := 116) hx hb ht inX12 hown hK hP 0 RW_0 rfl 113 (by decide) (ht (.fieldLink RX12 255 "CloneVolumesModel" "laid" "[I") fl_X12_255) (fun _ h9 => h9) mF_113 dX12_isLaidBlock_92 ?_
        refine lv_iload_n hx hb dX12_isLaidBlock_95 rfl (lv_at hl 2 rfl) ?_
        refine lv_iconst (v := 3) hx hb dX12_isLaidBlock_96 (by decide) ?_
        refine lv_iadd hx hb dX12_isLaidBlock_97 ?_
        refine lv_aload_n hx hb dX12_isLaidBlock_98 rfl (lv_at hl 0 rfl) ?_
        refine lv_iload_n hx hb dX12_isLaidBlock_99 rfl (lv_at hl 1 rfl) ?_
        obtain ⟨⟨r68, s67⟩, hc66, h⟩ := bn_e h
        refine ywV (r0 := r68) (As := [.int x43]) (rest := [.int (x44 + 3), .ref (a 113)]) (C := RX12) (n := 1) (ws' := RW D a s67) ⟨hx, hb, hml, hown, ht⟩ (k_x12_byteRead l D a x43 _ _ _ hc66) (zgV ml_X12_806 im_X12_byteRead se_X12_byteRead in_X12 co_X12_byteRead) rfl rfl (by decide +kernel) ⟨Nat.le_of_ble_eq_true rfl, Nat.le_of_ble_eq_true rfl⟩ hN hK hP (hDD _) hS hA 0 RW_0 rfl rfl rfl hl.1 rfl (Nat.le_of_ble_eq_true rfl) dX12_isLaidBlock_100 ⟨Nat.le_of_ble_eq_true rfl, Nat.le_of_ble_eq_true rfl⟩ (fun H locs hP hS => ?_)
        obtain ⟨hi69, h⟩ := inb_e h
        refine ya_iast hx hb hK hP (hDD _) hS 79 0 RW_79 rfl hi69 dX12_isLaidBlock_103 (RW_w79 _) (fun H locs hP hS => ?_)
        obtain ⟨s70, hs70, h⟩ := st_e h
        rw [hs70] at hP
        refine lv_aload_n hx hb dX12_isLaidBlock_104 rfl (lv_at hl 0 rfl) ?_
        refine va_get (D := D) (ci := 12) (v := .ref (a 113)) (C := RX12) (T := TX12) (N := 116) hx hb ht inX12 hown hK hP 0 RW_0 rfl 113 (by decide) (ht (.fieldLink RX12 255 "CloneVolumesModel" "laid" "[I") fl_X12_255) (fun _ h9 => h9) mF_113 dX12_isLaidBlock_105 ?_
        refine lv_iload_n hx hb dX12_isLaidBlock_108 rfl (lv_at hl 2 rfl) ?_
        refine lv_iconst (v := 3) hx hb dX12_isLaidBlock_109 (by decide) ?_
        refine lv_iadd hx hb dX12_isLaidBlock_110 ?_
        obtain ⟨y71, ey71, iy71, h⟩ := rdI_e h
        refine ya_iald hx hb hK hP 79 0 RW_79 rfl ey71 iy71 dX12_isLaidBlock_111 ?_
        refine lv_i2l (v := Int32.toInt64 y71) hx hb dX12_isLaidBlock_112 rfl ?_
        refine lv_lconst (v := 1) hx hb dX12_isLaidBlock_113 (by decide) ?_
        refine lv_aload_n hx hb dX12_isLaidBlock_114 rfl (lv_at hl 0 rfl) ?_
        obtain ⟨r73, hc72, h⟩ := bn_e h
        refine ycV (As := []) (rest := [.long 1, .long (Int32.toInt64 y71)]) (C := RX12) (n := 0) ⟨hx, hb, hml, hown, ht⟩ (k_x12_roomOf l D a _ _ hc72) (zgV ml_X12_523 im_X12_roomOf se_X12_roomOf in_X12 co_X12_roomOf) rfl rfl (by decide +kernel) ⟨Nat.le_of_ble_eq_true rfl, Nat.le_of_ble_eq_true rfl⟩ hN hK hP hS 0 RW_0 rfl rfl rfl hl.1 rfl (Nat.le_of_ble_eq_true rfl) dX12_isLaidBlock_115 ⟨Nat.le_of_ble_eq_true rfl, Nat.le_of_ble_eq_true rfl⟩ (fun H locs hP hS => ?_)
        refine lv_i2l (v := Int32.toInt64 r73) hx hb dX12_isLaidBlock_118 rfl ?_
        obtain ⟨r75, hc74, h⟩ := bn_e h
        refine ycS (As := [.long (Int32.toInt64 y71), .long 1, .long (Int32.toInt64 r73)]) (rest := []) (n := 3) ⟨hx, hb, hml, hown, ht⟩ (k_x12_isIn l D a (Int32.toInt64 y71) 1 (Int32.toInt64 r73) _ _ hc74) (zgT ml_X12_309 st_X12_isIn in_X12 co_X12_isIn) rfl rfl (by decide +kernel) ⟨Nat.le_of_ble_eq_true rfl, Nat.le_of_ble_eq_true rfl⟩ hN hK hP hS rfl hl.1 rfl (Nat.le_of_ble_eq_true rfl) dX12_isLaidBlock_119 ⟨Nat.le_of_ble_eq_true rfl, Nat.le_of_ble_eq_true rfl⟩ (fun H locs hP hS => ?_)
        refine lv_if_ne (tgt := 127) hx hb dX12_isLaidBlock_122 (by decide) (fun c76 => ?_) (fun c76 => ?_)
        · have h := if_f c76 h
          refine lv_iconst (v := 0) hx hb dX12_isLaidBlock_127 (by decide) ?_
          refine lv_istore (lv' := [(4, .int 0), (0, .ref (a 200)), (2, .int x43), (3, .int x44)]) hx hb dX12_isLaidBlock_128 hl (by decide) rfl (fun ls hl => ?_)
          exact J130 FU (x43, x44, 0, s70) _ _ _ ⟨hP, hS, lv_sub hl [1, 2, 3, 0] rfl, h⟩
        · have h := if_t c76 h
          refine lv_iconst (v := 0) hx hb dX12_isLaidBlock_125 (by decide) ?_
          obtain rfl := Option.some.inj h
          exact W.zret (v := 0) hx hb hr (by decide) (fun t ht hW => ⟨⟨_, (), rfl, rfl, by rw [ht]; exact hP, va_K.moved hW.alike hK, hDD _⟩, hS.F ht⟩) hS.2.2 dX12_isLaidBlock_126
      · have h := if_t c60 h
        refine lv_iconst (v := 1) hx hb dX12_isLaidBlock_76 (by decide) ?_
        obtain rfl := Option.some.inj h
        exact W.zret (v := 1) hx hb hr (by decide) (fun t ht hW => ⟨⟨_, (), rfl, rfl, by rw [ht]; exact hP, va_K.moved hW.alike hK, hDD _⟩, hS.F ht⟩) hS.2.2 dX12_isLaidBlock_77
    · have h := if_f c47 h
      refine lv_aload_n hx hb dX12_isLaidBlock_18 rfl (lv_at hl 0 rfl) ?_
      refine va_get (D := D) (ci := 12) (v := .ref (a 113)) (C := RX12) (T := TX12) (N := 116) hx hb ht inX12 hown hK hP 0 RW_0 rfl 113 (by decide) (ht (.fieldLink RX12 255 "CloneVolumesModel" "laid" "[I") fl_X12_255) (fun _ h9 => h9) mF_113 dX12_isLaidBlock_19 ?_
      refine lv_iload_n hx hb dX12_isLaidBlock_22 rfl (lv_at hl 2 rfl) ?_
      refine lv_iload hx hb dX12_isLaidBlock_23 (lv_at hl 3 rfl) ?_
      refine lv_iadd hx hb dX12_isLaidBlock_25 ?_
      refine lv_iconst (v := 0) hx hb dX12_isLaidBlock_26 (by decide) ?_
      obtain ⟨hi77, h⟩ := inb_e h
      refine ya_iast hx hb hK hP (hDD _) hS 79 0 RW_79 rfl hi77 dX12_isLaidBlock_27 (RW_w79 _) (fun H locs hP hS => ?_)
      obtain ⟨s78, hs78, h⟩ := st_e h
      rw [hs78] at hP
      refine lv_iinc (v := x45 + 1) (lv' := [(4, .int (x45 + 1)), (0, .ref (a 200)), (2, .int x43), (3, .int x44)]) hx hb dX12_isLaidBlock_28 hl (k := 3) rfl rfl (by decide) rfl (fun ls hl => ?_)
      refine lv_goto (tgt := 11) hx hb dX12_isLaidBlock_31 (by decide) ?_
      exact ih11 (x43, x44, x45 + 1, s78) _ _ _ ⟨hP, hS, lv_sub hl [1, 2, 3, 0] rfl, h⟩
  refine lv_bipush (v := 17) hx hb dX12_isLaidBlock_0 (by decide) ?_
  refine lv_bipush (v := 16) hx hb dX12_isLaidBlock_2 (by decide) ?_
  refine lv_iload_n hx hb dX12_isLaidBlock_4 rfl (lv_at hl 1 rfl) ?_
  refine lv_imul hx hb dX12_isLaidBlock_5 ?_
  refine lv_iadd hx hb dX12_isLaidBlock_6 ?_
  refine lv_istore_n (lv' := [(3, .int (17 + (16 * p0))), (0, .ref (a 200)), (1, .int p0), (2, .int p1)]) hx hb dX12_isLaidBlock_7 rfl hl (by decide) rfl (fun ls hl => ?_)
  refine lv_iconst (v := 0) hx hb dX12_isLaidBlock_8 (by decide) ?_
  refine lv_istore (lv' := [(4, .int 0), (3, .int (17 + (16 * p0))), (0, .ref (a 200)), (1, .int p0), (2, .int p1)]) hx hb dX12_isLaidBlock_9 hl (by decide) rfl (fun ls hl => ?_)
  exact J11 FU (p1, 17 + (16 * p0), 0, s) _ _ _ ⟨hP, hS, lv_sub hl [2, 4, 1, 0] rfl, h⟩
def m_x12_isLaid_J194 (x1 : Int32) (s2 : MS) : Option (Int32 × MS) :=
  bo x1 (some (x1, s2))
def m_x12_isLaid_b145 (lr135 : Int32 → Int32 → MS → Option (Int32 × MS)) (lr145 : Int32 → Int32 → Int32 → MS → Option (Int32 × MS)) (x7 : Int32) (x8 : Int32) (x9 : Int32) (s10 : MS) : Option (Int32 × MS) :=
  if 16 ≤ x9 then lr135 x7 (x8 + 1) s10 else inb 785 ((17 + (16 * x8)) + x9) (stn (sA s10 113 (upd (gA s10 113) (Int32.toNatClampNeg ((17 + (16 * x8)) + x9)) 0)) (fun s13 => lr145 x7 x8 (x9 + 1) s13))
def m_x12_isLaid_L145 (lr135 : Int32 → Int32 → MS → Option (Int32 × MS)) (n : Nat) : Int32 → Int32 → Int32 → MS → Option (Int32 × MS) := lp (fun _ _ _ _ => none) (m_x12_isLaid_b145 lr135) n
def m_x12_isLaid_b135 (lr135 : Int32 → Int32 → MS → Option (Int32 × MS)) (x4 : Int32) (x5 : Int32) (s6 : MS) : Option (Int32 × MS) :=
  if 48 ≤ x5 then if (gI s6 114) = x4 then m_x12_isLaid_J194 1 s6 else m_x12_isLaid_J194 0 s6 else m_x12_isLaid_L145 lr135 FU x4 x5 0 s6
def m_x12_isLaid_L135 (n : Nat) : Int32 → Int32 → MS → Option (Int32 × MS) := lp (fun _ _ _ => none) (m_x12_isLaid_b135) n
def m_x12_isLaid_b102 (lr102 : Int32 → Int32 → MS → Option (Int32 × MS)) (x16 : Int32) (x17 : Int32) (s18 : MS) : Option (Int32 × MS) :=
  bn (m_x12_blockMany s18) (fun r20 => if r20 ≤ x17 then bn (m_x12_blockMany s18) (fun r23 => m_x12_isLaid_L135 FU x16 r23 s18) else bn (m_x12_isLaidBlock x17 x16 s18) (fun qr26 => if qr26.1 = 0 then some (0, qr26.2) else lr102 x16 (x17 + 1) qr26.2))
def m_x12_isLaid_L102 (n : Nat) : Int32 → Int32 → MS → Option (Int32 × MS) := lp (fun _ _ _ => none) (m_x12_isLaid_b102) n
def m_x12_isLaid_b59 (lr59 : Int32 → Int32 → MS → Option (Int32 × MS)) (x28 : Int32) (x29 : Int32) (s30 : MS) : Option (Int32 × MS) :=
  if 8 ≤ x29 then m_x12_isLaid_L102 FU x28 0 s30 else bn (m_x12_byteRead x28 s30) (fun qr34 => inb 785 x29 (stn (sA qr34.2 113 (upd (gA qr34.2 113) (Int32.toNatClampNeg x29) qr34.1)) (fun s36 => bn (m_x12_byteRead x28 s36) (fun qr39 => inb 785 (8 + x29) (stn (sA qr39.2 113 (upd (gA qr39.2 113) (Int32.toNatClampNeg (8 + x29)) qr39.1)) (fun s41 => lr59 x28 (x29 + 1) s41))))))
def m_x12_isLaid_L59 (n : Nat) : Int32 → Int32 → MS → Option (Int32 × MS) := lp (fun _ _ _ => none) (m_x12_isLaid_b59) n
def m_x12_isLaid_J54 (s42 : MS) : Option (Int32 × MS) :=
  some (0, s42)
def m_x12_isLaid (p0 : Int32) (s : MS) : Option (Int32 × MS) :=
  stn (sI s 114 0) (fun s43 => bn (m_x12_byteRead p0 s43) (fun qr46 => bn (m_x12_twoRead p0 qr46.2) (fun qr49 => inb 785 16 (stn (sA qr49.2 113 (upd (gA qr49.2 113) (Int32.toNatClampNeg 16) ((65536 * qr46.1) + qr49.1))) (fun s51 => if qr46.1 = (-1) then m_x12_isLaid_J54 s51 else if qr49.1 = (-1) then m_x12_isLaid_J54 s51 else rdI (gA s51 113) 785 16 (fun y54 => if y54 ≤ 999999 then m_x12_isLaid_L59 FU p0 0 s51 else m_x12_isLaid_J54 s51))))))
set_option maxHeartbeats 4000000 in
set_option maxRecDepth 100000 in
theorem k_x12_isLaid (l : Launch) (D : va_G) (a : Nat → Nat) (p0 : Int32) (sz : Nat) (s : MS) (o : (Int32 × MS)) (h : m_x12_isLaid p0 s = some o) : yWi l yX12_isLaid cX12_isLaid 6 (some .boolean) { frames := 3, cells := 0, slots := 0, locals := 180 } D sz [.ref (a 200), .int p0] (RW D a s) (RW D a o.2) o.1 := by
  refine Met.ofW (cc := cX12_isLaid) (maxL := 6) (ret := (some .boolean)) (by decide) rfl ?_
  intro p e s₀ m args below meth c s₁ B hml hv
  obtain ⟨rfl, ⟨hsz, hP, hK, hD0⟩, hN⟩ := hv
  have hx := B.exec
  have hb := B.bytes
  have hr := B.returns
  have hts := atoms_spec (ws := wz yX12_isLaid cX12_isLaid 6 (some .boolean)) B.pre
  have ht : ∀ w ∈ lw_gd, w.before _ s₀ = true := fun w h => hts w (List.mem_cons_of_mem _ h)
  have hown : s₀.vm.findClass RX12 = some m.cls := findClass_of_methodNamed B.named
  have hlocks := B.notSynchronized
  subst hsz
  have hD := hD0.self (sz := s₀.heap.size)
  generalize hAe : va_A (RW D a s) s₀.heap.size = A at hD ⊢
  have hA : ∀ q : Nat, s₀.heap.size ≤ q → A q := fun q h => by rw [← hAe]; exact Or.inr h
  have hS : va_S A s₀.heap s₀.heap [] := va_S.rf
  have hDD : ∀ t : MS, va_D A (RW D a t) := fun t => RW_D t hD
  have hl := lv_entry ([.ref (a 200), .int p0]) (n := 6) (Nat.le_of_ble_eq_true rfl)
  rw [lg_entry_eq]
  generalize (lg_sl ([.ref (a 200), .int p0]) ++ List.replicate (6 - (lg_sl ([.ref (a 200), .int p0])).length) Slot.unset).toArray = ls at hl ⊢
  have hl : lv_has ls 6 [(0, .ref (a 200)), (1, .int p0)] := hl
  unfold m_x12_isLaid at h
  refine y_head (pcJ := 194) (σ := Int32 × MS) (fun u H locs ls => va_P D vwCl (RW D a u.2) H ∧ va_S A s₀.heap H locs ∧ lv_has ls 6 [] ∧ m_x12_isLaid_J194 u.1 u.2 = some o) (fun u => [.int u.1]) (fun u H locs ls hI => ?_) (fun J194 => ?_)
  · obtain ⟨hP, hS, hl, h⟩ := hI
    obtain ⟨x1, s2⟩ := u
    have hP : va_P D vwCl (RW D a s2) H := hP
    have hl : lv_has ls 6 [] := hl
    have h : m_x12_isLaid_J194 x1 s2 = some o := h
    unfold m_x12_isLaid_J194 at h
    obtain ⟨hb3, h⟩ := bo_e h
    obtain rfl := Option.some.inj h
    exact W.zret (v := x1) hx hb hr (bo_n hb3) (fun t ht hW => ⟨⟨_, (), rfl, rfl, by rw [ht]; exact hP, va_K.moved hW.alike hK, hDD _⟩, hS.F ht⟩) hS.2.2 dX12_isLaid_194
  refine y_loop (pcJ := 135) (σ := Int32 × Int32 × MS) (fun n u H locs ls => va_P D vwCl (RW D a u.2.2) H ∧ va_S A s₀.heap H locs ∧ lv_has ls 6 [(0, .ref (a 200)), (1, .int u.1), (4, .int u.2.1)] ∧ m_x12_isLaid_L135 n u.1 u.2.1 u.2.2 = some o) (fun u => []) (fun u H locs ls hI => by obtain ⟨_, _, _, h⟩ := hI; cases h) (fun n135 ih135 u H locs ls hI => ?_) (fun J135 => ?_)
  · obtain ⟨hP, hS, hl, h⟩ := hI
    obtain ⟨x4, x5, s6⟩ := u
    have hP : va_P D vwCl (RW D a s6) H := hP
    have hl : lv_has ls 6 [(0, .ref (a 200)), (1, .int x4), (4, .int x5)] := hl
    have h : m_x12_isLaid_b135 (m_x12_isLaid_L135 n135) x4 x5 s6 = some o := h
    unfold m_x12_isLaid_b135 at h
    refine y_loop (pcJ := 145) (σ := Int32 × Int32 × Int32 × MS) (fun n u H locs ls => va_P D vwCl (RW D a u.2.2.2) H ∧ va_S A s₀.heap H locs ∧ lv_has ls 6 [(0, .ref (a 200)), (1, .int u.1), (4, .int u.2.1), (5, .int u.2.2.1)] ∧ m_x12_isLaid_L145 (m_x12_isLaid_L135 n135) n u.1 u.2.1 u.2.2.1 u.2.2.2 = some o) (fun u => []) (fun u H locs ls hI => by obtain ⟨_, _, _, h⟩ := hI; cases h) (fun n145 ih145 u H locs ls hI => ?_) (fun J145 => ?_)
    · obtain ⟨hP, hS, hl, h⟩ := hI
      obtain ⟨x7, x8, x9, s10⟩ := u
      have hP : va_P D vwCl (RW D a s10) H := hP
      have hl : lv_has ls 6 [(0, .ref (a 200)), (1, .int x7), (4, .int x8), (5, .int x9)] := hl
      have h : m_x12_isLaid_b145 (m_x12_isLaid_L135 n135) (m_x12_isLaid_L145 (m_x12_isLaid_L135 n135) n145) x7 x8 x9 s10 = some o := h
      unfold m_x12_isLaid_b145 at h
      refine lv_iload hx hb dX12_isLaid_145 (lv_at hl 3 rfl) ?_
      refine lv_bipush (v := 16) hx hb dX12_isLaid_147 (by decide) ?_
      refine lv_icmp_ge (tgt := 175) hx hb dX12_isLaid_149 (by decide) (fun c11 => ?_) (fun c11 => ?_)
      · have h := if_t c11 h
        refine lv_iinc (v := x8 + 1) (lv' := [(4, .int (x8 + 1)), (0, .ref (a 200)), (1, .int x7), (5, .int x9)]) hx hb dX12_isLaid_175 hl (k := 2) rfl rfl (by decide) rfl (fun ls hl => ?_)
        refine lv_goto (tgt := 135) hx hb dX12_isLaid_178 (by decide) ?_
        exact ih135 (x7, x8 + 1, s10) _ _ _ ⟨hP, hS, lv_sub hl [1, 2, 0] rfl, h⟩
      · have h := if_f c11 h
        refine lv_aload_n hx hb dX12_isLaid_152 rfl (lv_at hl 0 rfl) ?_
        refine va_get (D := D) (ci := 12) (v := .ref (a 113)) (C := RX12) (T := TX12) (N := 116) hx hb ht inX12 hown hK hP 0 RW_0 rfl 113 (by decide) (ht (.fieldLink RX12 255 "CloneVolumesModel" "laid" "[I") fl_X12_255) (fun _ h9 => h9) mF_113 dX12_isLaid_153 ?_
        refine lv_bipush (v := 17) hx hb dX12_isLaid_156 (by decide) ?_
        refine lv_bipush (v := 16) hx hb dX12_isLaid_158 (by decide) ?_
        refine lv_iload hx hb dX12_isLaid_160 (lv_at hl 2 rfl) ?_
        refine lv_imul hx hb dX12_isLaid_162 ?_
        refine lv_iadd hx hb dX12_isLaid_163 ?_
        refine lv_iload hx hb dX12_isLaid_164 (lv_at hl 3 rfl) ?_
        refine lv_iadd hx hb dX12_isLaid_166 ?_
        refine lv_iconst (v := 0) hx hb dX12_isLaid_167 (by decide) ?_
        obtain ⟨hi12, h⟩ := inb_e h
        refine ya_iast hx hb hK hP (hDD _) hS 79 0 RW_79 rfl hi12 dX12_isLaid_168 (RW_w79 _) (fun H locs hP hS => ?_)
        obtain ⟨s13, hs13, h⟩ := st_e h
        rw [hs13] at hP
        refine lv_iinc (v := x9 + 1) (lv' := [(5, .int (x9 + 1)), (0, .ref (a 200)), (1, .int x7), (4, .int x8)]) hx hb dX12_isLaid_169 hl (k := 3) rfl rfl (by decide) rfl (fun ls hl => ?_)
        refine lv_goto (tgt := 145) hx hb dX12_isLaid_172 (by decide) ?_
        exact ih145 (x7, x8, x9 + 1, s13) _ _ _ ⟨hP, hS, lv_sub hl [1, 2, 3, 0] rfl, h⟩
    refine lv_iload hx hb dX12_isLaid_135 (lv_at hl 2 rfl) ?_
    refine lv_bipush (v := 48) hx hb dX12_isLaid_137 (by decide) ?_
    refine lv_icmp_ge (tgt := 181) hx hb dX12_isLaid_139 (by decide) (fun c14 => ?_) (fun c14 => ?_)
    · have h := if_t c14 h
      refine lv_aload_n hx hb dX12_isLaid_181 rfl (lv_at hl 0 rfl) ?_
      refine va_get (D := D) (ci := 12) (v := .int (gI s6 114)) (C := RX12) (T := TX12) (N := 116) hx hb ht inX12 hown hK hP 0 RW_0 rfl 114 (by decide) (ht (.fieldLink RX12 803 "CloneVolumesModel" "read0" "I") fl_X12_803) (fun _ h9 => h9) mF_114 dX12_isLaid_182 ?_
      refine lv_iload_n hx hb dX12_isLaid_185 rfl (lv_at hl 1 rfl) ?_
      refine lv_icmp_ne (tgt := 193) hx hb dX12_isLaid_186 (by decide) (fun c15 => ?_) (fun c15 => ?_)
      · have h := if_f c15 h
        refine lv_iconst (v := 0) hx hb dX12_isLaid_193 (by decide) ?_
        exact J194 (0, s6) _ _ _ ⟨hP, hS, lv_sub hl [] rfl, h⟩
      · have h := if_t c15 h
        refine lv_iconst (v := 1) hx hb dX12_isLaid_189 (by decide) ?_
        refine lv_goto (tgt := 194) hx hb dX12_isLaid_190 (by decide) ?_
        exact J194 (1, s6) _ _ _ ⟨hP, hS, lv_sub hl [] rfl, h⟩
    · have h := if_f c14 h
      refine lv_iconst (v := 0) hx hb dX12_isLaid_142 (by decide) ?_
      refine lv_istore (lv' := [(5, .int 0), (0, .ref (a 200)), (1, .int x4), (4, .int x5)]) hx hb dX12_isLaid_143 hl (by decide) rfl (fun ls hl => ?_)
      exact J145 FU (x4, x5, 0, s6) _ _ _ ⟨hP, hS, lv_sub hl [1, 2, 3, 0] rfl, h⟩
  refine y_loop (pcJ := 102) (σ := Int32 × Int32 × MS) (fun n u H locs ls => va_P D vwCl (RW D a u.2.2) H ∧ va_S A s₀.heap H locs ∧ lv_has ls 6 [(0, .ref (a 200)), (1, .int u.1), (4, .int u.2.1)] ∧ m_x12_isLaid_L102 n u.1 u.2.1 u.2.2 = some o) (fun u => []) (fun u H locs ls hI => by obtain ⟨_, _, _, h⟩ := hI; cases h) (fun n102 ih102 u H locs ls hI => ?_) (fun J102 => ?_)
  · obtain ⟨hP, hS, hl, h⟩ := hI
    obtain ⟨x16, x17, s18⟩ := u
    have hP : va_P D vwCl (RW D a s18) H := hP
    have hl : lv_has ls 6 [(0, .ref (a 200)), (1, .int x16), (4, .int x17)] := hl
    have h : m_x12_isLaid_b102 (m_x12_isLaid_L102 n102) x16 x17 s18 = some o := h
    unfold m_x12_isLaid_b102 at h
    refine lv_iload hx hb dX12_isLaid_102 (lv_at hl 2 rfl) ?_
    refine lv_aload_n hx hb dX12_isLaid_104 rfl (lv_at hl 0 rfl) ?_
    obtain ⟨r20, hc19, h⟩ := bn_e h
    refine ycV (As := []) (rest := [.int x17]) (C := RX12) (n := 0) ⟨hx, hb, hml, hown, ht⟩ (k_x12_blockMany l D a _ _ hc19) (zgV ml_X12_429 im_X12_blockMany se_X12_blockMany in_X12 co_X12_blockMany) rfl rfl (by decide +kernel) ⟨Nat.le_of_ble_eq_true rfl, Nat.le_of_ble_eq_true rfl⟩ hN hK hP hS 0 RW_0 rfl rfl rfl hl.1 rfl (Nat.le_of_ble_eq_true rfl) dX12_isLaid_105 ⟨Nat.le_of_ble_eq_true rfl, Nat.le_of_ble_eq_true rfl⟩ (fun H locs hP hS => ?_)
    refine lv_icmp_ge (tgt := 129) hx hb dX12_isLaid_108 (by decide) (fun c21 => ?_) (fun c21 => ?_)
    · have h := if_t c21 h
      refine lv_aload_n hx hb dX12_isLaid_129 rfl (lv_at hl 0 rfl) ?_
      obtain ⟨r23, hc22, h⟩ := bn_e h
      refine ycV (As := []) (rest := []) (C := RX12) (n := 0) ⟨hx, hb, hml, hown, ht⟩ (k_x12_blockMany l D a _ _ hc22) (zgV ml_X12_429 im_X12_blockMany se_X12_blockMany in_X12 co_X12_blockMany) rfl rfl (by decide +kernel) ⟨Nat.le_of_ble_eq_true rfl, Nat.le_of_ble_eq_true rfl⟩ hN hK hP hS 0 RW_0 rfl rfl rfl hl.1 rfl (Nat.le_of_ble_eq_true rfl) dX12_isLaid_130 ⟨Nat.le_of_ble_eq_true rfl, Nat.le_of_ble_eq_true rfl⟩ (fun H locs hP hS => ?_)
      refine lv_istore (lv' := [(4, .int r23), (0, .ref (a 200)), (1, .int x16)]) hx hb dX12_isLaid_133 hl (by decide) rfl (fun ls hl => ?_)
      exact J135 FU (x16, r23, s18) _ _ _ ⟨hP, hS, lv_sub hl [1, 2, 0] rfl, h⟩
    · have h := if_f c21 h
      refine lv_aload_n hx hb dX12_isLaid_111 rfl (lv_at hl 0 rfl) ?_
      refine lv_iload hx hb dX12_isLaid_112 (lv_at hl 2 rfl) ?_
      refine lv_iload_n hx hb dX12_isLaid_114 rfl (lv_at hl 1 rfl) ?_
      obtain ⟨⟨r26, s25⟩, hc24, h⟩ := bn_e h
      refine ywV (r0 := r26) (As := [.int x17, .int x16]) (rest := []) (C := RX12) (n := 2) (ws' := RW D a s25) ⟨hx, hb, hml, hown, ht⟩ (k_x12_isLaidBlock l D a x17 x16 _ _ _ hc24) (zgV ml_X12_812 im_X12_isLaidBlock se_X12_isLaidBlock in_X12 co_X12_isLaidBlock) rfl rfl (by decide +kernel) ⟨Nat.le_of_ble_eq_true rfl, Nat.le_of_ble_eq_true rfl⟩ hN hK hP (hDD _) hS hA 0 RW_0 rfl rfl rfl hl.1 rfl (Nat.le_of_ble_eq_true rfl) dX12_isLaid_115 ⟨Nat.le_of_ble_eq_true rfl, Nat.le_of_ble_eq_true rfl⟩ (fun H locs hP hS => ?_)
      refine lv_if_ne (tgt := 123) hx hb dX12_isLaid_118 (by decide) (fun c27 => ?_) (fun c27 => ?_)
      · have h := if_f c27 h
        refine lv_iinc (v := x17 + 1) (lv' := [(4, .int (x17 + 1)), (0, .ref (a 200)), (1, .int x16)]) hx hb dX12_isLaid_123 hl (k := 2) rfl rfl (by decide) rfl (fun ls hl => ?_)
        refine lv_goto (tgt := 102) hx hb dX12_isLaid_126 (by decide) ?_
        exact ih102 (x16, x17 + 1, s25) _ _ _ ⟨hP, hS, lv_sub hl [1, 2, 0] rfl, h⟩
      · have h := if_t c27 h
        refine lv_iconst (v := 0) hx hb dX12_isLaid_121 (by decide) ?_
        obtain rfl := Option.some.inj h
        exact W.zret (v := 0) hx hb hr (by decide) (fun t ht hW => ⟨⟨_, (), rfl, rfl, by rw [ht]; exact hP, va_K.moved hW.alike hK, hDD _⟩, hS.F ht⟩) hS.2.2 dX12_isLaid_122
  refine y_loop (pcJ := 59) (σ := Int32 × Int32 × MS) (fun n u H locs ls => va_P D vwCl (RW D a u.2.2) H ∧ va_S A s₀.heap H locs ∧ lv_has ls 6 [(0, .ref (a 200)), (1, .int u.1), (4, .int u.2.1)] ∧ m_x12_isLaid_L59 n u.1 u.2.1 u.2.2 = some o) (fun u => []) (fun u H locs ls hI => by obtain ⟨_, _, _, h⟩ := hI; cases h) (fun n59 ih59 u H locs ls hI => ?_) (fun J59 => ?_)
  · obtain ⟨hP, hS, hl, h⟩ := hI
    obtain ⟨x28, x29, s30⟩ := u
    have hP : va_P D vwCl (RW D a s30) H := hP
    have hl : lv_has ls 6 [(0, .ref (a 200)), (1, .int x28), (4, .int x29)] := hl
    have h : m_x12_isLaid_b59 (m_x12_isLaid_L59 n59) x28 x29 s30 = some o := h
    unfold m_x12_isLaid_b59 at h
    refine lv_iload hx hb dX12_isLaid_59 (lv_at hl 2 rfl) ?_
    refine lv_bipush (v := 8) hx hb dX12_isLaid_61 (by decide) ?_
    refine lv_icmp_ge (tgt := 99) hx hb dX12_isLaid_63 (by decide) (fun c31 => ?_) (fun c31 => ?_)
    · have h := if_t c31 h
      refine lv_iconst (v := 0) hx hb dX12_isLaid_99 (by decide) ?_
      refine lv_istore (lv' := [(4, .int 0), (0, .ref (a 200)), (1, .int x28)]) hx hb dX12_isLaid_100 hl (by decide) rfl (fun ls hl => ?_)
      exact J102 FU (x28, 0, s30) _ _ _ ⟨hP, hS, lv_sub hl [1, 2, 0] rfl, h⟩
    · have h := if_f c31 h
      refine lv_aload_n hx hb dX12_isLaid_66 rfl (lv_at hl 0 rfl) ?_
      refine va_get (D := D) (ci := 12) (v := .ref (a 113)) (C := RX12) (T := TX12) (N := 116) hx hb ht inX12 hown hK hP 0 RW_0 rfl 113 (by decide) (ht (.fieldLink RX12 255 "CloneVolumesModel" "laid" "[I") fl_X12_255) (fun _ h9 => h9) mF_113 dX12_isLaid_67 ?_
      refine lv_iload hx hb dX12_isLaid_70 (lv_at hl 2 rfl) ?_
      refine lv_aload_n hx hb dX12_isLaid_72 rfl (lv_at hl 0 rfl) ?_
      refine lv_iload_n hx hb dX12_isLaid_73 rfl (lv_at hl 1 rfl) ?_
      obtain ⟨⟨r34, s33⟩, hc32, h⟩ := bn_e h
      refine ywV (r0 := r34) (As := [.int x28]) (rest := [.int x29, .ref (a 113)]) (C := RX12) (n := 1) (ws' := RW D a s33) ⟨hx, hb, hml, hown, ht⟩ (k_x12_byteRead l D a x28 _ _ _ hc32) (zgV ml_X12_806 im_X12_byteRead se_X12_byteRead in_X12 co_X12_byteRead) rfl rfl (by decide +kernel) ⟨Nat.le_of_ble_eq_true rfl, Nat.le_of_ble_eq_true rfl⟩ hN hK hP (hDD _) hS hA 0 RW_0 rfl rfl rfl hl.1 rfl (Nat.le_of_ble_eq_true rfl) dX12_isLaid_74 ⟨Nat.le_of_ble_eq_true rfl, Nat.le_of_ble_eq_true rfl⟩ (fun H locs hP hS => ?_)
      obtain ⟨hi35, h⟩ := inb_e h
      refine ya_iast hx hb hK hP (hDD _) hS 79 0 RW_79 rfl hi35 dX12_isLaid_77 (RW_w79 _) (fun H locs hP hS => ?_)
      obtain ⟨s36, hs36, h⟩ := st_e h
      rw [hs36] at hP
      refine lv_aload_n hx hb dX12_isLaid_78 rfl (lv_at hl 0 rfl) ?_
      refine va_get (D := D) (ci := 12) (v := .ref (a 113)) (C := RX12) (T := TX12) (N := 116) hx hb ht inX12 hown hK hP 0 RW_0 rfl 113 (by decide) (ht (.fieldLink RX12 255 "CloneVolumesModel" "laid" "[I") fl_X12_255) (fun _ h9 => h9) mF_113 dX12_isLaid_79 ?_
      refine lv_bipush (v := 8) hx hb dX12_isLaid_82 (by decide) ?_
      refine lv_iload hx hb dX12_isLaid_84 (lv_at hl 2 rfl) ?_
      refine lv_iadd hx hb dX12_isLaid_86 ?_
      refine lv_aload_n hx hb dX12_isLaid_87 rfl (lv_at hl 0 rfl) ?_
      refine lv_iload_n hx hb dX12_isLaid_88 rfl (lv_at hl 1 rfl) ?_
      obtain ⟨⟨r39, s38⟩, hc37, h⟩ := bn_e h
      refine ywV (r0 := r39) (As := [.int x28]) (rest := [.int (8 + x29), .ref (a 113)]) (C := RX12) (n := 1) (ws' := RW D a s38) ⟨hx, hb, hml, hown, ht⟩ (k_x12_byteRead l D a x28 _ _ _ hc37) (zgV ml_X12_806 im_X12_byteRead se_X12_byteRead in_X12 co_X12_byteRead) rfl rfl (by decide +kernel) ⟨Nat.le_of_ble_eq_true rfl, Nat.le_of_ble_eq_true rfl⟩ hN hK hP (hDD _) hS hA 0 RW_0 rfl rfl rfl hl.1 rfl (Nat.le_of_ble_eq_true rfl) dX12_isLaid_89 ⟨Nat.le_of_ble_eq_true rfl, Nat.le_of_ble_eq_true rfl⟩ (fun H locs hP hS => ?_)
      obtain ⟨hi40, h⟩ := inb_e h
      refine ya_iast hx hb hK hP (hDD _) hS 79 0 RW_79 rfl hi40 dX12_isLaid_92 (RW_w79 _) (fun H locs hP hS => ?_)
      obtain ⟨s41, hs41, h⟩ := st_e h
      rw [hs41] at hP
      refine lv_iinc (v := x29 + 1) (lv' := [(4, .int (x29 + 1)), (0, .ref (a 200)), (1, .int x28)]) hx hb dX12_isLaid_93 hl (k := 2) rfl rfl (by decide) rfl (fun ls hl => ?_)
      refine lv_goto (tgt := 59) hx hb dX12_isLaid_96 (by decide) ?_
      exact ih59 (x28, x29 + 1, s41) _ _ _ ⟨hP, hS, lv_sub hl [1, 2, 0] rfl, h⟩
  refine y_head (pcJ := 54) (σ := MS) (fun u H locs ls => va_P D vwCl (RW D a u) H ∧ va_S A s₀.heap H locs ∧ lv_has ls 6 [] ∧ m_x12_isLaid_J54 u = some o) (fun u => []) (fun u H locs ls hI => ?_) (fun J54 => ?_)
  · obtain ⟨hP, hS, hl, h⟩ := hI
    obtain ⟨s42, rfl⟩ : ∃ z, z = u := ⟨u, rfl⟩
    have hP : va_P D vwCl (RW D a s42) H := hP
    have hl : lv_has ls 6 [] := hl
    have h : m_x12_isLaid_J54 s42 = some o := h
    unfold m_x12_isLaid_J54 at h
    refine lv_iconst (v := 0) hx hb dX12_isLaid_54 (by decide) ?_
    obtain rfl := Option.some.inj h
    exact W.zret (v := 0) hx hb hr (by decide) (fun t ht hW => ⟨⟨_, (), rfl, rfl, by rw [ht]; exact hP, va_K.moved hW.alike hK, hDD _⟩, hS.F ht⟩) hS.2.2 dX12_isLaid_55
  refine lv_aload_n hx hb dX12_isLaid_0 rfl (lv_at hl 0 rfl) ?_
  refine lv_iconst (v := 0) hx hb dX12_isLaid_1 (by decide) ?_
  refine ya_put (D := D) (ci := 12) (v := .int 0) (ty := .int) (C := RX12) (T := TX12) (N := 116) hx hb ht inX12 tyX12 tyX12_ok nmX12 hown hK hP (hDD _) hS 0 RW_0 rfl 114 (by decide) (ht (.fieldLink RX12 803 "CloneVolumesModel" "read0" "I") fl_X12_803) (fun _ h9 => h9) rfl (by decide +kernel) rfl rfl (by rw [mF_len]; decide) dX12_isLaid_2 (RW_f114 _) (fun H locs hP hS => ?_)
  obtain ⟨s43, hs43, h⟩ := st_e h
  rw [hs43] at hP
  refine lv_aload_n hx hb dX12_isLaid_5 rfl (lv_at hl 0 rfl) ?_
  refine lv_iload_n hx hb dX12_isLaid_6 rfl (lv_at hl 1 rfl) ?_
  obtain ⟨⟨r46, s45⟩, hc44, h⟩ := bn_e h
  refine ywV (r0 := r46) (As := [.int p0]) (rest := []) (C := RX12) (n := 1) (ws' := RW D a s45) ⟨hx, hb, hml, hown, ht⟩ (k_x12_byteRead l D a p0 _ _ _ hc44) (zgV ml_X12_806 im_X12_byteRead se_X12_byteRead in_X12 co_X12_byteRead) rfl rfl (by decide +kernel) ⟨Nat.le_of_ble_eq_true rfl, Nat.le_of_ble_eq_true rfl⟩ hN hK hP (hDD _) hS hA 0 RW_0 rfl rfl rfl hl.1 rfl (Nat.le_of_ble_eq_true rfl) dX12_isLaid_7 ⟨Nat.le_of_ble_eq_true rfl, Nat.le_of_ble_eq_true rfl⟩ (fun H locs hP hS => ?_)
  refine lv_istore_n (lv' := [(2, .int r46), (0, .ref (a 200)), (1, .int p0)]) hx hb dX12_isLaid_10 rfl hl (by decide) rfl (fun ls hl => ?_)
  refine lv_aload_n hx hb dX12_isLaid_11 rfl (lv_at hl 1 rfl) ?_
  refine lv_iload_n hx hb dX12_isLaid_12 rfl (lv_at hl 2 rfl) ?_
  obtain ⟨⟨r49, s48⟩, hc47, h⟩ := bn_e h
  refine ywV (r0 := r49) (As := [.int p0]) (rest := []) (C := RX12) (n := 1) (ws' := RW D a s48) ⟨hx, hb, hml, hown, ht⟩ (k_x12_twoRead l D a p0 _ _ _ hc47) (zgV ml_X12_809 im_X12_twoRead se_X12_twoRead in_X12 co_X12_twoRead) rfl rfl (by decide +kernel) ⟨Nat.le_of_ble_eq_true rfl, Nat.le_of_ble_eq_true rfl⟩ hN hK hP (hDD _) hS hA 0 RW_0 rfl rfl rfl hl.1 rfl (Nat.le_of_ble_eq_true rfl) dX12_isLaid_13 ⟨Nat.le_of_ble_eq_true rfl, Nat.le_of_ble_eq_true rfl⟩ (fun H locs hP hS => ?_)
  refine lv_istore_n (lv' := [(3, .int r49), (2, .int r46), (0, .ref (a 200)), (1, .int p0)]) hx hb dX12_isLaid_16 rfl hl (by decide) rfl (fun ls hl => ?_)
  refine lv_aload_n hx hb dX12_isLaid_17 rfl (lv_at hl 2 rfl) ?_
  refine va_get (D := D) (ci := 12) (v := .ref (a 113)) (C := RX12) (T := TX12) (N := 116) hx hb ht inX12 hown hK hP 0 RW_0 rfl 113 (by decide) (ht (.fieldLink RX12 255 "CloneVolumesModel" "laid" "[I") fl_X12_255) (fun _ h9 => h9) mF_113 dX12_isLaid_18 ?_
  refine lv_bipush (v := 16) hx hb dX12_isLaid_21 (by decide) ?_
  refine lv_ldcw (own := RX12) (v := 65536) hx hb hown (ht _ ck_X12_792) dX12_isLaid_23 ?_
  refine lv_iload_n hx hb dX12_isLaid_26 rfl (lv_at hl 1 rfl) ?_
  refine lv_imul hx hb dX12_isLaid_27 ?_
  refine lv_iload_n hx hb dX12_isLaid_28 rfl (lv_at hl 0 rfl) ?_
  refine lv_iadd hx hb dX12_isLaid_29 ?_
  obtain ⟨hi50, h⟩ := inb_e h
  refine ya_iast hx hb hK hP (hDD _) hS 79 0 RW_79 rfl hi50 dX12_isLaid_30 (RW_w79 _) (fun H locs hP hS => ?_)
  obtain ⟨s51, hs51, h⟩ := st_e h
  rw [hs51] at hP
  refine lv_iload_n hx hb dX12_isLaid_31 rfl (lv_at hl 1 rfl) ?_
  refine lv_iconst (v := (-1)) hx hb dX12_isLaid_32 (by decide) ?_
  refine lv_icmp_eq (tgt := 54) hx hb dX12_isLaid_33 (by decide) (fun c52 => ?_) (fun c52 => ?_)
  · have h := if_t c52 h
    exact J54 s51 _ _ _ ⟨hP, hS, lv_sub hl [] rfl, h⟩
  · have h := if_f c52 h
    refine lv_iload_n hx hb dX12_isLaid_36 rfl (lv_at hl 0 rfl) ?_
    refine lv_iconst (v := (-1)) hx hb dX12_isLaid_37 (by decide) ?_
    refine lv_icmp_eq (tgt := 54) hx hb dX12_isLaid_38 (by decide) (fun c53 => ?_) (fun c53 => ?_)
    · have h := if_t c53 h
      exact J54 s51 _ _ _ ⟨hP, hS, lv_sub hl [] rfl, h⟩
    · have h := if_f c53 h
      refine lv_aload_n hx hb dX12_isLaid_41 rfl (lv_at hl 2 rfl) ?_
      refine va_get (D := D) (ci := 12) (v := .ref (a 113)) (C := RX12) (T := TX12) (N := 116) hx hb ht inX12 hown hK hP 0 RW_0 rfl 113 (by decide) (ht (.fieldLink RX12 255 "CloneVolumesModel" "laid" "[I") fl_X12_255) (fun _ h9 => h9) mF_113 dX12_isLaid_42 ?_
      refine lv_bipush (v := 16) hx hb dX12_isLaid_45 (by decide) ?_
      obtain ⟨y54, ey54, iy54, h⟩ := rdI_e h
      refine ya_iald hx hb hK hP 79 0 RW_79 rfl ey54 iy54 dX12_isLaid_47 ?_
      refine lv_ldcw (own := RX12) (v := 999999) hx hb hown (ht _ ck_X12_492) dX12_isLaid_48 ?_
      refine lv_icmp_le (tgt := 56) hx hb dX12_isLaid_51 (by decide) (fun c55 => ?_) (fun c55 => ?_)
      · have h := if_t c55 h
        refine lv_iconst (v := 0) hx hb dX12_isLaid_56 (by decide) ?_
        refine lv_istore (lv' := [(4, .int 0), (3, .int r49), (2, .int r46), (0, .ref (a 200)), (1, .int p0)]) hx hb dX12_isLaid_57 hl (by decide) rfl (fun ls hl => ?_)
        exact J59 FU (p0, 0, s51) _ _ _ ⟨hP, hS, lv_sub hl [3, 4, 0] rfl, h⟩
      · have h := if_f c55 h
        exact J54 s51 _ _ _ ⟨hP, hS, lv_sub hl [] rfl, h⟩
