theorem fl_X12_164 : Cond.fieldLink RX12 164 "CloneVolumesModel" "lostBy" "[I" ∈ lw_gd := zm (List.mem_of_getElem? (i := 1610) (by decide +kernel)) rfl
theorem ml_X12_638 : Cond.methodLink RX12 638 yX12_laysLost ∈ lw_gd := zm (List.mem_of_getElem? (i := 2382) (by decide +kernel)) rfl
theorem im_X12_laysLost : Cond.instanceMethod yX12_laysLost ∈ lw_gd := zm (List.mem_of_getElem? (i := 2384) (by decide +kernel)) rfl
theorem se_X12_laysLost : Cond.selects RX12 yX12_laysLost yX12_laysLost ∈ lw_gd := zm (List.mem_of_getElem? (i := 166) (by decide +kernel)) rfl
theorem co_X12_laysLost : Cond.code yX12_laysLost cX12_laysLost 4 none ∈ lw_gd := zm (List.mem_of_getElem? (i := 2385) (by decide +kernel)) rfl
theorem fl_X12_7 : Cond.fieldLink RX12 7 "CloneVolumesModel" "tape" "[I" ∈ lw_gd := zm (List.mem_of_getElem? (i := 1538) (by decide +kernel)) rfl
theorem fl_X12_252 : Cond.fieldLink RX12 252 "CloneVolumesModel" "octet" "[I" ∈ lw_gd := zm (List.mem_of_getElem? (i := 1649) (by decide +kernel)) rfl
theorem ml_X12_786 : Cond.methodLink RX12 786 yX12_tellsByte ∈ lw_gd := zm (List.mem_of_getElem? (i := 2540) (by decide +kernel)) rfl
theorem im_X12_tellsByte : Cond.instanceMethod yX12_tellsByte ∈ lw_gd := zm (List.mem_of_getElem? (i := 2542) (by decide +kernel)) rfl
theorem se_X12_tellsByte : Cond.selects RX12 yX12_tellsByte yX12_tellsByte ∈ lw_gd := zm (List.mem_of_getElem? (i := 183) (by decide +kernel)) rfl
theorem co_X12_tellsByte : Cond.code yX12_tellsByte cX12_tellsByte 2 none ∈ lw_gd := zm (List.mem_of_getElem? (i := 2543) (by decide +kernel)) rfl
theorem ck_X12_792 : Cond.constant RX12 792 65536 ∈ lw_gd := zm (List.mem_of_getElem? (i := 2539) (by decide +kernel)) rfl
theorem ml_X12_789 : Cond.methodLink RX12 789 yX12_tellsTwo ∈ lw_gd := zm (List.mem_of_getElem? (i := 2544) (by decide +kernel)) rfl
theorem im_X12_tellsTwo : Cond.instanceMethod yX12_tellsTwo ∈ lw_gd := zm (List.mem_of_getElem? (i := 2546) (by decide +kernel)) rfl
theorem se_X12_tellsTwo : Cond.selects RX12 yX12_tellsTwo yX12_tellsTwo ∈ lw_gd := zm (List.mem_of_getElem? (i := 184) (by decide +kernel)) rfl
theorem co_X12_tellsTwo : Cond.code yX12_tellsTwo cX12_tellsTwo 2 none ∈ lw_gd := zm (List.mem_of_getElem? (i := 2547) (by decide +kernel)) rfl
theorem ml_X12_799 : Cond.methodLink RX12 799 yX12_checked ∈ lw_gd := zm (List.mem_of_getElem? (i := 2556) (by decide +kernel)) rfl
theorem st_X12_checked : Cond.static yX12_checked ∈ lw_gd := zm (List.mem_of_getElem? (i := 2557) (by decide +kernel)) rfl
theorem co_X12_checked : Cond.code yX12_checked cX12_checked 4 (some .int) ∈ lw_gd := zm (List.mem_of_getElem? (i := 2558) (by decide +kernel)) rfl
theorem ml_X12_793 : Cond.methodLink RX12 793 yX12_rootTold ∈ lw_gd := zm (List.mem_of_getElem? (i := 2548) (by decide +kernel)) rfl
theorem im_X12_rootTold : Cond.instanceMethod yX12_rootTold ∈ lw_gd := zm (List.mem_of_getElem? (i := 2550) (by decide +kernel)) rfl
theorem se_X12_rootTold : Cond.selects RX12 yX12_rootTold yX12_rootTold ∈ lw_gd := zm (List.mem_of_getElem? (i := 185) (by decide +kernel)) rfl
theorem co_X12_rootTold : Cond.code yX12_rootTold cX12_rootTold 2 (some .int) ∈ lw_gd := zm (List.mem_of_getElem? (i := 2551) (by decide +kernel)) rfl
theorem dX12_checked_0 : decode cX12_checked 0 = .ok (.sipush 157, 3) := by decide +kernel
theorem dX12_checked_3 : decode cX12_checked 3 = .ok (.istore_n 2, 1) := by decide +kernel
theorem dX12_checked_4 : decode cX12_checked 4 = .ok (.iconst 0, 1) := by decide +kernel
theorem dX12_checked_5 : decode cX12_checked 5 = .ok (.istore_n 3, 1) := by decide +kernel
theorem dX12_checked_6 : decode cX12_checked 6 = .ok (.iload_n 3, 1) := by decide +kernel
theorem dX12_checked_7 : decode cX12_checked 7 = .ok (.iload_n 1, 1) := by decide +kernel
theorem dX12_checked_8 : decode cX12_checked 8 = .ok (.if_icmp .ge 21, 3) := by decide +kernel
theorem dX12_checked_11 : decode cX12_checked 11 = .ok (.iconst 3, 1) := by decide +kernel
theorem dX12_checked_12 : decode cX12_checked 12 = .ok (.iload_n 2, 1) := by decide +kernel
theorem dX12_checked_13 : decode cX12_checked 13 = .ok (.imul, 1) := by decide +kernel
theorem dX12_checked_14 : decode cX12_checked 14 = .ok (.aload_n 0, 1) := by decide +kernel
theorem dX12_checked_15 : decode cX12_checked 15 = .ok (.iload_n 3, 1) := by decide +kernel
theorem dX12_checked_16 : decode cX12_checked 16 = .ok (.iaload, 1) := by decide +kernel
theorem dX12_checked_17 : decode cX12_checked 17 = .ok (.iadd, 1) := by decide +kernel
theorem dX12_checked_18 : decode cX12_checked 18 = .ok (.sipush 251, 3) := by decide +kernel
theorem dX12_checked_21 : decode cX12_checked 21 = .ok (.irem, 1) := by decide +kernel
theorem dX12_checked_22 : decode cX12_checked 22 = .ok (.istore_n 2, 1) := by decide +kernel
theorem dX12_checked_23 : decode cX12_checked 23 = .ok (.iinc 3 1, 3) := by decide +kernel
theorem dX12_checked_26 : decode cX12_checked 26 = .ok (.goto (-20), 3) := by decide +kernel
theorem dX12_checked_29 : decode cX12_checked 29 = .ok (.iload_n 2, 1) := by decide +kernel
theorem dX12_checked_30 : decode cX12_checked 30 = .ok (.ireturn, 1) := by decide +kernel
theorem dX12_feed_0 : decode cX12_feed 0 = .ok (.aload_n 0, 1) := by decide +kernel
theorem dX12_feed_1 : decode cX12_feed 1 = .ok (.getfield 263, 3) := by decide +kernel
theorem dX12_feed_4 : decode cX12_feed 4 = .ok (.bipush 20, 2) := by decide +kernel
theorem dX12_feed_6 : decode cX12_feed 6 = .ok (.iadd, 1) := by decide +kernel
theorem dX12_feed_7 : decode cX12_feed 7 = .ok (.sipush 1600, 3) := by decide +kernel
theorem dX12_feed_10 : decode cX12_feed 10 = .ok (.if_icmp .le 15, 3) := by decide +kernel
theorem dX12_feed_25 : decode cX12_feed 25 = .ok (.iconst 0, 1) := by decide +kernel
theorem dX12_feed_26 : decode cX12_feed 26 = .ok (.istore 6, 2) := by decide +kernel
theorem dX12_feed_28 : decode cX12_feed 28 = .ok (.iload 6, 2) := by decide +kernel
theorem dX12_feed_30 : decode cX12_feed 30 = .ok (.bipush 20, 2) := by decide +kernel
theorem dX12_feed_32 : decode cX12_feed 32 = .ok (.if_icmp .ge 92, 3) := by decide +kernel
theorem dX12_feed_35 : decode cX12_feed 35 = .ok (.iload 6, 2) := by decide +kernel
theorem dX12_feed_37 : decode cX12_feed 37 = .ok (.iconst 4, 1) := by decide +kernel
theorem dX12_feed_38 : decode cX12_feed 38 = .ok (.if_icmp .ge 7, 3) := by decide +kernel
theorem dX12_feed_41 : decode cX12_feed 41 = .ok (.iload_n 1, 1) := by decide +kernel
theorem dX12_feed_42 : decode cX12_feed 42 = .ok (.goto 39, 3) := by decide +kernel
theorem dX12_feed_45 : decode cX12_feed 45 = .ok (.iload 6, 2) := by decide +kernel
theorem dX12_feed_47 : decode cX12_feed 47 = .ok (.bipush 8, 2) := by decide +kernel
theorem dX12_feed_49 : decode cX12_feed 49 = .ok (.if_icmp .ge 7, 3) := by decide +kernel
theorem dX12_feed_52 : decode cX12_feed 52 = .ok (.iload_n 2, 1) := by decide +kernel
theorem dX12_feed_53 : decode cX12_feed 53 = .ok (.goto 28, 3) := by decide +kernel
theorem dX12_feed_56 : decode cX12_feed 56 = .ok (.iload 6, 2) := by decide +kernel
theorem dX12_feed_58 : decode cX12_feed 58 = .ok (.bipush 12, 2) := by decide +kernel
theorem dX12_feed_60 : decode cX12_feed 60 = .ok (.if_icmp .ge 7, 3) := by decide +kernel
theorem dX12_feed_63 : decode cX12_feed 63 = .ok (.iload_n 3, 1) := by decide +kernel
theorem dX12_feed_64 : decode cX12_feed 64 = .ok (.goto 17, 3) := by decide +kernel
theorem dX12_feed_67 : decode cX12_feed 67 = .ok (.iload 6, 2) := by decide +kernel
theorem dX12_feed_69 : decode cX12_feed 69 = .ok (.bipush 16, 2) := by decide +kernel
theorem dX12_feed_71 : decode cX12_feed 71 = .ok (.if_icmp .ge 8, 3) := by decide +kernel
theorem dX12_feed_74 : decode cX12_feed 74 = .ok (.iload 4, 2) := by decide +kernel
theorem dX12_feed_76 : decode cX12_feed 76 = .ok (.goto 5, 3) := by decide +kernel
theorem dX12_feed_79 : decode cX12_feed 79 = .ok (.iload 5, 2) := by decide +kernel
theorem dX12_feed_81 : decode cX12_feed 81 = .ok (.istore 7, 2) := by decide +kernel
theorem dX12_feed_83 : decode cX12_feed 83 = .ok (.aload_n 0, 1) := by decide +kernel
theorem dX12_feed_84 : decode cX12_feed 84 = .ok (.getfield 7, 3) := by decide +kernel
theorem dX12_feed_87 : decode cX12_feed 87 = .ok (.aload_n 0, 1) := by decide +kernel
theorem dX12_feed_88 : decode cX12_feed 88 = .ok (.getfield 263, 3) := by decide +kernel
theorem dX12_feed_91 : decode cX12_feed 91 = .ok (.iload 7, 2) := by decide +kernel
theorem dX12_feed_93 : decode cX12_feed 93 = .ok (.bipush 8, 2) := by decide +kernel
theorem dX12_feed_95 : decode cX12_feed 95 = .ok (.iconst 3, 1) := by decide +kernel
theorem dX12_feed_96 : decode cX12_feed 96 = .ok (.iload 6, 2) := by decide +kernel
theorem dX12_feed_98 : decode cX12_feed 98 = .ok (.iconst 4, 1) := by decide +kernel
theorem dX12_feed_99 : decode cX12_feed 99 = .ok (.irem, 1) := by decide +kernel
theorem dX12_feed_100 : decode cX12_feed 100 = .ok (.isub, 1) := by decide +kernel
theorem dX12_feed_101 : decode cX12_feed 101 = .ok (.imul, 1) := by decide +kernel
theorem dX12_feed_102 : decode cX12_feed 102 = .ok (.ishr, 1) := by decide +kernel
theorem dX12_feed_103 : decode cX12_feed 103 = .ok (.sipush 255, 3) := by decide +kernel
theorem dX12_feed_106 : decode cX12_feed 106 = .ok (.iand, 1) := by decide +kernel
theorem dX12_feed_107 : decode cX12_feed 107 = .ok (.iastore, 1) := by decide +kernel
theorem dX12_feed_108 : decode cX12_feed 108 = .ok (.aload_n 0, 1) := by decide +kernel
theorem dX12_feed_109 : decode cX12_feed 109 = .ok (.dup, 1) := by decide +kernel
theorem dX12_feed_110 : decode cX12_feed 110 = .ok (.getfield 263, 3) := by decide +kernel
theorem dX12_feed_113 : decode cX12_feed 113 = .ok (.iconst 1, 1) := by decide +kernel
theorem dX12_feed_114 : decode cX12_feed 114 = .ok (.iadd, 1) := by decide +kernel
theorem dX12_feed_115 : decode cX12_feed 115 = .ok (.putfield 263, 3) := by decide +kernel
theorem dX12_feed_118 : decode cX12_feed 118 = .ok (.iinc 6 1, 3) := by decide +kernel
theorem dX12_feed_121 : decode cX12_feed 121 = .ok (.goto (-93), 3) := by decide +kernel
theorem dX12_feed_124 : decode cX12_feed 124 = .ok (.aload_n 0, 1) := by decide +kernel
theorem dX12_feed_125 : decode cX12_feed 125 = .ok (.getfield 263, 3) := by decide +kernel
theorem dX12_feed_128 : decode cX12_feed 128 = .ok (.ireturn, 1) := by decide +kernel
theorem dX12_image_0 : decode cX12_image 0 = .ok (.aload_n 0, 1) := by decide +kernel
theorem dX12_image_1 : decode cX12_image 1 = .ok (.iconst 0, 1) := by decide +kernel
theorem dX12_image_2 : decode cX12_image 2 = .ok (.putfield 783, 3) := by decide +kernel
theorem dX12_image_5 : decode cX12_image 5 = .ok (.aload_n 0, 1) := by decide +kernel
theorem dX12_image_6 : decode cX12_image 6 = .ok (.aload_n 0, 1) := by decide +kernel
theorem dX12_image_7 : decode cX12_image 7 = .ok (.getfield 121, 3) := by decide +kernel
theorem dX12_image_10 : decode cX12_image 10 = .ok (.bipush 16, 2) := by decide +kernel
theorem dX12_image_12 : decode cX12_image 12 = .ok (.iaload, 1) := by decide +kernel
theorem dX12_image_13 : decode cX12_image 13 = .ok (.ldc_w 792, 3) := by decide +kernel
theorem dX12_image_16 : decode cX12_image 16 = .ok (.idiv, 1) := by decide +kernel
theorem dX12_image_17 : decode cX12_image 17 = .ok (.invokevirtual 786, 3) := by decide +kernel
theorem dX12_image_20 : decode cX12_image 20 = .ok (.aload_n 0, 1) := by decide +kernel
theorem dX12_image_21 : decode cX12_image 21 = .ok (.aload_n 0, 1) := by decide +kernel
theorem dX12_image_22 : decode cX12_image 22 = .ok (.getfield 121, 3) := by decide +kernel
theorem dX12_image_25 : decode cX12_image 25 = .ok (.bipush 16, 2) := by decide +kernel
theorem dX12_image_27 : decode cX12_image 27 = .ok (.iaload, 1) := by decide +kernel
theorem dX12_image_28 : decode cX12_image 28 = .ok (.ldc_w 792, 3) := by decide +kernel
theorem dX12_image_31 : decode cX12_image 31 = .ok (.irem, 1) := by decide +kernel
theorem dX12_image_32 : decode cX12_image 32 = .ok (.invokevirtual 789, 3) := by decide +kernel
theorem dX12_image_35 : decode cX12_image 35 = .ok (.iconst 0, 1) := by decide +kernel
theorem dX12_image_36 : decode cX12_image 36 = .ok (.istore_n 1, 1) := by decide +kernel
theorem dX12_image_37 : decode cX12_image 37 = .ok (.iload_n 1, 1) := by decide +kernel
theorem dX12_image_38 : decode cX12_image 38 = .ok (.bipush 8, 2) := by decide +kernel
theorem dX12_image_40 : decode cX12_image 40 = .ok (.if_icmp .ge 30, 3) := by decide +kernel
theorem dX12_image_43 : decode cX12_image 43 = .ok (.aload_n 0, 1) := by decide +kernel
theorem dX12_image_44 : decode cX12_image 44 = .ok (.aload_n 0, 1) := by decide +kernel
theorem dX12_image_45 : decode cX12_image 45 = .ok (.iload_n 1, 1) := by decide +kernel
theorem dX12_image_46 : decode cX12_image 46 = .ok (.invokevirtual 793, 3) := by decide +kernel
theorem dX12_image_49 : decode cX12_image 49 = .ok (.invokevirtual 786, 3) := by decide +kernel
theorem dX12_image_52 : decode cX12_image 52 = .ok (.aload_n 0, 1) := by decide +kernel
theorem dX12_image_53 : decode cX12_image 53 = .ok (.aload_n 0, 1) := by decide +kernel
theorem dX12_image_54 : decode cX12_image 54 = .ok (.bipush 8, 2) := by decide +kernel
theorem dX12_image_56 : decode cX12_image 56 = .ok (.iload_n 1, 1) := by decide +kernel
theorem dX12_image_57 : decode cX12_image 57 = .ok (.iadd, 1) := by decide +kernel
theorem dX12_image_58 : decode cX12_image 58 = .ok (.invokevirtual 793, 3) := by decide +kernel
theorem dX12_image_61 : decode cX12_image 61 = .ok (.invokevirtual 786, 3) := by decide +kernel
theorem dX12_image_64 : decode cX12_image 64 = .ok (.iinc 1 1, 3) := by decide +kernel
theorem dX12_image_67 : decode cX12_image 67 = .ok (.goto (-30), 3) := by decide +kernel
theorem dX12_image_70 : decode cX12_image 70 = .ok (.iconst 0, 1) := by decide +kernel
theorem dX12_image_71 : decode cX12_image 71 = .ok (.istore_n 1, 1) := by decide +kernel
theorem dX12_image_72 : decode cX12_image 72 = .ok (.iload_n 1, 1) := by decide +kernel
theorem dX12_image_73 : decode cX12_image 73 = .ok (.aload_n 0, 1) := by decide +kernel
theorem dX12_image_74 : decode cX12_image 74 = .ok (.invokevirtual 429, 3) := by decide +kernel
theorem dX12_image_77 : decode cX12_image 77 = .ok (.if_icmp .ge 14, 3) := by decide +kernel
theorem dX12_image_91 : decode cX12_image 91 = .ok (.aload_n 0, 1) := by decide +kernel
theorem dX12_image_92 : decode cX12_image 92 = .ok (.aload_n 0, 1) := by decide +kernel
theorem dX12_image_93 : decode cX12_image 93 = .ok (.getfield 252, 3) := by decide +kernel
theorem dX12_image_96 : decode cX12_image 96 = .ok (.aload_n 0, 1) := by decide +kernel
theorem dX12_image_97 : decode cX12_image 97 = .ok (.getfield 783, 3) := by decide +kernel
theorem dX12_image_100 : decode cX12_image 100 = .ok (.invokestatic 799, 3) := by decide +kernel
theorem dX12_image_103 : decode cX12_image 103 = .ok (.invokevirtual 786, 3) := by decide +kernel
theorem dX12_image_106 : decode cX12_image 106 = .ok (.aload_n 0, 1) := by decide +kernel
theorem dX12_image_107 : decode cX12_image 107 = .ok (.getfield 783, 3) := by decide +kernel
theorem dX12_image_110 : decode cX12_image 110 = .ok (.ireturn, 1) := by decide +kernel
theorem dX12_laysLost_0 : decode cX12_laysLost 0 = .ok (.iconst 0, 1) := by decide +kernel
theorem dX12_laysLost_1 : decode cX12_laysLost 1 = .ok (.istore_n 1, 1) := by decide +kernel
theorem dX12_laysLost_2 : decode cX12_laysLost 2 = .ok (.iload_n 1, 1) := by decide +kernel
theorem dX12_laysLost_3 : decode cX12_laysLost 3 = .ok (.bipush 48, 2) := by decide +kernel
theorem dX12_laysLost_5 : decode cX12_laysLost 5 = .ok (.if_icmp .ge 16, 3) := by decide +kernel
theorem dX12_laysLost_8 : decode cX12_laysLost 8 = .ok (.aload_n 0, 1) := by decide +kernel
theorem dX12_laysLost_9 : decode cX12_laysLost 9 = .ok (.getfield 164, 3) := by decide +kernel
theorem dX12_laysLost_12 : decode cX12_laysLost 12 = .ok (.iload_n 1, 1) := by decide +kernel
theorem dX12_laysLost_13 : decode cX12_laysLost 13 = .ok (.iconst 0, 1) := by decide +kernel
theorem dX12_laysLost_14 : decode cX12_laysLost 14 = .ok (.iastore, 1) := by decide +kernel
theorem dX12_laysLost_15 : decode cX12_laysLost 15 = .ok (.iinc 1 1, 3) := by decide +kernel
theorem dX12_laysLost_18 : decode cX12_laysLost 18 = .ok (.goto (-16), 3) := by decide +kernel
theorem dX12_laysLost_21 : decode cX12_laysLost 21 = .ok (.iconst 0, 1) := by decide +kernel
theorem dX12_laysLost_22 : decode cX12_laysLost 22 = .ok (.istore_n 1, 1) := by decide +kernel
theorem dX12_laysLost_23 : decode cX12_laysLost 23 = .ok (.iload_n 1, 1) := by decide +kernel
theorem dX12_laysLost_24 : decode cX12_laysLost 24 = .ok (.bipush 8, 2) := by decide +kernel
theorem dX12_laysLost_26 : decode cX12_laysLost 26 = .ok (.if_icmp .ge 102, 3) := by decide +kernel
theorem dX12_laysLost_29 : decode cX12_laysLost 29 = .ok (.aload_n 0, 1) := by decide +kernel
theorem dX12_laysLost_30 : decode cX12_laysLost 30 = .ok (.iload_n 1, 1) := by decide +kernel
theorem dX12_laysLost_31 : decode cX12_laysLost 31 = .ok (.i2l, 1) := by decide +kernel
theorem dX12_laysLost_32 : decode cX12_laysLost 32 = .ok (.invokevirtual 571, 3) := by decide +kernel
theorem dX12_laysLost_35 : decode cX12_laysLost 35 = .ok (.ifCond .ne 6, 3) := by decide +kernel
theorem dX12_laysLost_38 : decode cX12_laysLost 38 = .ok (.goto 84, 3) := by decide +kernel
theorem dX12_laysLost_122 : decode cX12_laysLost 122 = .ok (.iinc 1 1, 3) := by decide +kernel
theorem dX12_laysLost_125 : decode cX12_laysLost 125 = .ok (.goto (-102), 3) := by decide +kernel
theorem dX12_laysLost_128 : decode cX12_laysLost 128 = .ok (.return_, 1) := by decide +kernel
theorem dX12_rootTold_0 : decode cX12_rootTold 0 = .ok (.aload_n 0, 1) := by decide +kernel
theorem dX12_rootTold_1 : decode cX12_rootTold 1 = .ok (.getfield 406, 3) := by decide +kernel
theorem dX12_rootTold_4 : decode cX12_rootTold 4 = .ok (.ifCond .eq 12, 3) := by decide +kernel
theorem dX12_rootTold_16 : decode cX12_rootTold 16 = .ok (.sipush 255, 3) := by decide +kernel
theorem dX12_rootTold_19 : decode cX12_rootTold 19 = .ok (.ireturn, 1) := by decide +kernel
theorem dX12_tellsByte_0 : decode cX12_tellsByte 0 = .ok (.aload_n 0, 1) := by decide +kernel
theorem dX12_tellsByte_1 : decode cX12_tellsByte 1 = .ok (.getfield 252, 3) := by decide +kernel
theorem dX12_tellsByte_4 : decode cX12_tellsByte 4 = .ok (.aload_n 0, 1) := by decide +kernel
theorem dX12_tellsByte_5 : decode cX12_tellsByte 5 = .ok (.getfield 783, 3) := by decide +kernel
theorem dX12_tellsByte_8 : decode cX12_tellsByte 8 = .ok (.iload_n 1, 1) := by decide +kernel
theorem dX12_tellsByte_9 : decode cX12_tellsByte 9 = .ok (.iastore, 1) := by decide +kernel
theorem dX12_tellsByte_10 : decode cX12_tellsByte 10 = .ok (.aload_n 0, 1) := by decide +kernel
theorem dX12_tellsByte_11 : decode cX12_tellsByte 11 = .ok (.dup, 1) := by decide +kernel
theorem dX12_tellsByte_12 : decode cX12_tellsByte 12 = .ok (.getfield 783, 3) := by decide +kernel
theorem dX12_tellsByte_15 : decode cX12_tellsByte 15 = .ok (.iconst 1, 1) := by decide +kernel
theorem dX12_tellsByte_16 : decode cX12_tellsByte 16 = .ok (.iadd, 1) := by decide +kernel
theorem dX12_tellsByte_17 : decode cX12_tellsByte 17 = .ok (.putfield 783, 3) := by decide +kernel
theorem dX12_tellsByte_20 : decode cX12_tellsByte 20 = .ok (.return_, 1) := by decide +kernel
theorem dX12_tellsTwo_0 : decode cX12_tellsTwo 0 = .ok (.aload_n 0, 1) := by decide +kernel
theorem dX12_tellsTwo_1 : decode cX12_tellsTwo 1 = .ok (.iload_n 1, 1) := by decide +kernel
theorem dX12_tellsTwo_2 : decode cX12_tellsTwo 2 = .ok (.sipush 256, 3) := by decide +kernel
theorem dX12_tellsTwo_5 : decode cX12_tellsTwo 5 = .ok (.idiv, 1) := by decide +kernel
theorem dX12_tellsTwo_6 : decode cX12_tellsTwo 6 = .ok (.invokevirtual 786, 3) := by decide +kernel
theorem dX12_tellsTwo_9 : decode cX12_tellsTwo 9 = .ok (.aload_n 0, 1) := by decide +kernel
theorem dX12_tellsTwo_10 : decode cX12_tellsTwo 10 = .ok (.iload_n 1, 1) := by decide +kernel
theorem dX12_tellsTwo_11 : decode cX12_tellsTwo 11 = .ok (.sipush 256, 3) := by decide +kernel
theorem dX12_tellsTwo_14 : decode cX12_tellsTwo 14 = .ok (.irem, 1) := by decide +kernel
theorem dX12_tellsTwo_15 : decode cX12_tellsTwo 15 = .ok (.invokevirtual 786, 3) := by decide +kernel
theorem dX12_tellsTwo_18 : decode cX12_tellsTwo 18 = .ok (.return_, 1) := by decide +kernel
theorem dX12_worst_0 : decode cX12_worst 0 = .ok (.iload_n 1, 1) := by decide +kernel
theorem dX12_worst_1 : decode cX12_worst 1 = .ok (.i2l, 1) := by decide +kernel
theorem dX12_worst_2 : decode cX12_worst 2 = .ok (.lconst 0, 1) := by decide +kernel
theorem dX12_worst_3 : decode cX12_worst 3 = .ok (.lconst 1, 1) := by decide +kernel
theorem dX12_worst_4 : decode cX12_worst 4 = .ok (.invokestatic 309, 3) := by decide +kernel
theorem dX12_worst_7 : decode cX12_worst 7 = .ok (.ifCond .ne 5, 3) := by decide +kernel
theorem dX12_worst_10 : decode cX12_worst 10 = .ok (.iconst (-1), 1) := by decide +kernel
theorem dX12_worst_11 : decode cX12_worst 11 = .ok (.ireturn, 1) := by decide +kernel
theorem dX12_worst_12 : decode cX12_worst 12 = .ok (.aload_n 0, 1) := by decide +kernel
theorem dX12_worst_13 : decode cX12_worst 13 = .ok (.invokevirtual 638, 3) := by decide +kernel
theorem dX12_worst_16 : decode cX12_worst 16 = .ok (.iconst 0, 1) := by decide +kernel
theorem dX12_worst_17 : decode cX12_worst 17 = .ok (.istore_n 2, 1) := by decide +kernel
theorem dX12_worst_18 : decode cX12_worst 18 = .ok (.iconst 1, 1) := by decide +kernel
theorem dX12_worst_19 : decode cX12_worst 19 = .ok (.istore_n 3, 1) := by decide +kernel
theorem dX12_worst_20 : decode cX12_worst 20 = .ok (.iload_n 3, 1) := by decide +kernel
theorem dX12_worst_21 : decode cX12_worst 21 = .ok (.bipush 48, 2) := by decide +kernel
theorem dX12_worst_23 : decode cX12_worst 23 = .ok (.if_icmp .ge 26, 3) := by decide +kernel
theorem dX12_worst_26 : decode cX12_worst 26 = .ok (.aload_n 0, 1) := by decide +kernel
theorem dX12_worst_27 : decode cX12_worst 27 = .ok (.getfield 164, 3) := by decide +kernel
theorem dX12_worst_30 : decode cX12_worst 30 = .ok (.iload_n 3, 1) := by decide +kernel
theorem dX12_worst_31 : decode cX12_worst 31 = .ok (.iaload, 1) := by decide +kernel
theorem dX12_worst_32 : decode cX12_worst 32 = .ok (.aload_n 0, 1) := by decide +kernel
theorem dX12_worst_33 : decode cX12_worst 33 = .ok (.getfield 164, 3) := by decide +kernel
theorem dX12_worst_36 : decode cX12_worst 36 = .ok (.iload_n 2, 1) := by decide +kernel
theorem dX12_worst_37 : decode cX12_worst 37 = .ok (.iaload, 1) := by decide +kernel
theorem dX12_worst_38 : decode cX12_worst 38 = .ok (.if_icmp .le 5, 3) := by decide +kernel
theorem dX12_worst_43 : decode cX12_worst 43 = .ok (.iinc 3 1, 3) := by decide +kernel
theorem dX12_worst_46 : decode cX12_worst 46 = .ok (.goto (-26), 3) := by decide +kernel
theorem dX12_worst_49 : decode cX12_worst 49 = .ok (.aload_n 0, 1) := by decide +kernel
theorem dX12_worst_50 : decode cX12_worst 50 = .ok (.getfield 164, 3) := by decide +kernel
theorem dX12_worst_53 : decode cX12_worst 53 = .ok (.iload_n 2, 1) := by decide +kernel
theorem dX12_worst_54 : decode cX12_worst 54 = .ok (.iaload, 1) := by decide +kernel
theorem dX12_worst_55 : decode cX12_worst 55 = .ok (.ifCond .ne 7, 3) := by decide +kernel
theorem dX12_worst_58 : decode cX12_worst 58 = .ok (.iconst (-1), 1) := by decide +kernel
theorem dX12_worst_59 : decode cX12_worst 59 = .ok (.goto 17, 3) := by decide +kernel
theorem dX12_worst_76 : decode cX12_worst 76 = .ok (.ireturn, 1) := by decide +kernel
set_option maxHeartbeats 4000000 in
set_option maxRecDepth 100000 in
theorem k_X12_laysLost (l : Launch) (D : va_G) (sz : Nat) (a : Nat → Nat)  : Met l yX12_laysLost (wz yX12_laysLost cX12_laysLost 4 none) { frames := 2, cells := 0, slots := 0, locals := 120 } (va_Pc [.ref (a 200)] (zW D sz [((a 200), .inr (12, mO a 0 0 0 0 0 0 0 (-1) 0 0 1 0)), ((a 72), .inl (D.1 13, 48, .inl (fun _ => 0)))])) (va_Qv (fun (_ : Unit) => True) (fun u t => zB D (va_A [((a 200), .inr (12, mO a 0 0 0 0 0 0 0 (-1) 0 0 1 0)), ((a 72), .inl (D.1 13, 48, .inl (fun _ => 0)))] sz) ((fun (u : Unit) => [((a 200), .inr (12, mO a 0 0 0 0 0 0 0 (-1) 0 0 1 0)), ((a 72), .inl (D.1 13, 48, .inl (fun _ => 0)))]) u) t) (va_A [((a 200), .inr (12, mO a 0 0 0 0 0 0 0 (-1) 0 0 1 0)), ((a 72), .inl (D.1 13, 48, .inl (fun _ => 0)))] sz)) 0 0 (va_A [((a 200), .inr (12, mO a 0 0 0 0 0 0 0 (-1) 0 0 1 0)), ((a 72), .inl (D.1 13, 48, .inl (fun _ => 0)))] sz) := by
  refine Met.ofW (cc := cX12_laysLost) (maxL := 4) (ret := none) (by decide) rfl ?_
  intro p e s m args below meth c s₁ B hml hv
  obtain ⟨rfl, hsz, hP, hK, hD0⟩ := hv
  have hx := B.exec
  have hb := B.bytes
  have hr := B.returns
  have hts := atoms_spec (ws := wz yX12_laysLost cX12_laysLost 4 none) B.pre
  have ht : ∀ w ∈ lw_gd, w.before _ s = true := fun w h => hts w (List.mem_cons_of_mem _ h)
  have hown : s.vm.findClass RX12 = some m.cls := findClass_of_methodNamed B.named
  have hlocks := B.notSynchronized
  subst hsz
  have hD := hD0.self (sz := s.heap.size)
  generalize hAe : va_A [((a 200), .inr (12, mO a 0 0 0 0 0 0 0 (-1) 0 0 1 0)), ((a 72), .inl (D.1 13, 48, .inl (fun _ => 0)))] s.heap.size = A at hD ⊢
  have hA : ∀ q : Nat, s.heap.size ≤ q → A q := fun q h => by rw [← hAe]; exact Or.inr h
  have hS : va_S A s.heap s.heap [] := va_S.rf
  have hl := lv_entry ([.ref (a 200)]) (n := 4) (Nat.le_of_ble_eq_true rfl)
  rw [lg_entry_eq]
  generalize (lg_sl ([.ref (a 200)]) ++ List.replicate (4 - (lg_sl ([.ref (a 200)])).length) Slot.unset).toArray = ls at hl ⊢
  have hl : lv_has ls 4 [(0, .ref (a 200))] := hl
  refine lv_iconst (v := 0) hx hb dX12_laysLost_0 (by decide) ?_
  refine lv_istore_n (lv' := [(1, .int 0), (0, .ref (a 200))]) hx hb dX12_laysLost_1 rfl hl (by decide) rfl (fun ls hl => ?_)
  refine z_loop (σ := Unit) (N := 48) (fun i u H locs ls => va_P D vwCl [((a 200), .inr (12, mO a 0 0 0 0 0 0 0 (-1) 0 0 1 0)), ((a 72), .inl (D.1 13, 48, .inl (fun _ => 0)))] H ∧ va_D A [((a 200), .inr (12, mO a 0 0 0 0 0 0 0 (-1) 0 0 1 0)), ((a 72), .inl (D.1 13, 48, .inl (fun _ => 0)))] ∧ va_S A s.heap H locs ∧ lv_has ls 4 [(1, .int (nI i)), (0, .ref (a 200))]) (fun i_1 _u H locs ls hi_i_1 hI ih_2 => ?_) 0 () (by decide) ⟨hP, hD, hS, lv_sub hl [0, 1] rfl⟩
  obtain ⟨hP, hD, hS, hl⟩ := hI
  have hP : va_P D vwCl [((a 200), .inr (12, mO a 0 0 0 0 0 0 0 (-1) 0 0 1 0)), ((a 72), .inl (D.1 13, 48, .inl (fun _ => 0)))] H := hP
  have hD : va_D A [((a 200), .inr (12, mO a 0 0 0 0 0 0 0 (-1) 0 0 1 0)), ((a 72), .inl (D.1 13, 48, .inl (fun _ => 0)))] := hD
  have hl : lv_has ls 4 [(1, .int (nI i_1)), (0, .ref (a 200))] := hl
  refine lv_iload_n hx hb dX12_laysLost_2 rfl (lv_at hl 0 rfl) ?_
  refine lv_bipush (v := 48) hx hb dX12_laysLost_3 (by decide) ?_
  refine lv_icmp_ge (tgt := 21) hx hb dX12_laysLost_5 (by decide) (fun c_2 => ?_) (fun c_2 => ?_)
  · have g_3 : 48 ≤ ((i_1 : Nat) : Int) := z_le (by decide) (nI_toInt (by omega)) c_2
    obtain rfl : i_1 = 48 := by omega
    have hP : va_P D vwCl [((a 200), .inr (12, mO a 0 0 0 0 0 0 0 (-1) 0 0 1 0)), ((a 72), .inl (D.1 13, 48, .inl (fun _ => 0)))] H := hP
    have hD : va_D A [((a 200), .inr (12, mO a 0 0 0 0 0 0 0 (-1) 0 0 1 0)), ((a 72), .inl (D.1 13, 48, .inl (fun _ => 0)))] := hD
    have hl : lv_has ls 4 [(1, .int 48), (0, .ref (a 200))] := hl
    refine lv_iconst (v := 0) hx hb dX12_laysLost_21 (by decide) ?_
    refine lv_istore_n (lv' := [(1, .int 0), (0, .ref (a 200))]) hx hb dX12_laysLost_22 rfl hl (by decide) rfl (fun ls hl => ?_)
    refine z_loop (σ := Unit) (N := 8) (fun i u H locs ls => va_P D vwCl [((a 200), .inr (12, mO a 0 0 0 0 0 0 0 (-1) 0 0 1 0)), ((a 72), .inl (D.1 13, 48, .inl (fun _ => 0)))] H ∧ va_D A [((a 200), .inr (12, mO a 0 0 0 0 0 0 0 (-1) 0 0 1 0)), ((a 72), .inl (D.1 13, 48, .inl (fun _ => 0)))] ∧ va_S A s.heap H locs ∧ lv_has ls 4 [(1, .int (nI i)), (0, .ref (a 200))]) (fun i_4 _u H locs ls hi_i_4 hI ih_23 => ?_) 0 () (by decide) ⟨hP, hD, hS, lv_sub hl [0, 1] rfl⟩
    obtain ⟨hP, hD, hS, hl⟩ := hI
    have hP : va_P D vwCl [((a 200), .inr (12, mO a 0 0 0 0 0 0 0 (-1) 0 0 1 0)), ((a 72), .inl (D.1 13, 48, .inl (fun _ => 0)))] H := hP
    have hD : va_D A [((a 200), .inr (12, mO a 0 0 0 0 0 0 0 (-1) 0 0 1 0)), ((a 72), .inl (D.1 13, 48, .inl (fun _ => 0)))] := hD
    have hl : lv_has ls 4 [(1, .int (nI i_4)), (0, .ref (a 200))] := hl
    refine lv_iload_n hx hb dX12_laysLost_23 rfl (lv_at hl 0 rfl) ?_
    refine lv_bipush (v := 8) hx hb dX12_laysLost_24 (by decide) ?_
    refine lv_icmp_ge (tgt := 128) hx hb dX12_laysLost_26 (by decide) (fun c_5 => ?_) (fun c_5 => ?_)
    · have g_6 : 8 ≤ ((i_4 : Nat) : Int) := z_le (by decide) (nI_toInt (by omega)) c_5
      obtain rfl : i_4 = 8 := by omega
      have hP : va_P D vwCl [((a 200), .inr (12, mO a 0 0 0 0 0 0 0 (-1) 0 0 1 0)), ((a 72), .inl (D.1 13, 48, .inl (fun _ => 0)))] H := hP
      have hD : va_D A [((a 200), .inr (12, mO a 0 0 0 0 0 0 0 (-1) 0 0 1 0)), ((a 72), .inl (D.1 13, 48, .inl (fun _ => 0)))] := hD
      have hl : lv_has ls 4 [(1, .int 8), (0, .ref (a 200))] := hl
      have hP9 := hP.sub (ws' := [((a 200), .inr (12, mO a 0 0 0 0 0 0 0 (-1) 0 0 1 0)), ((a 72), .inl (D.1 13, 48, .inl (fun _ => 0)))]) [0, 1] rfl
      have hD9 := hD.sub (ws' := [((a 200), .inr (12, mO a 0 0 0 0 0 0 0 (-1) 0 0 1 0)), ((a 72), .inl (D.1 13, 48, .inl (fun _ => 0)))]) [0, 1] (by decide) rfl
      refine W.widen (k := 0) (n := 0) (Nat.le_of_ble_eq_true rfl) (Nat.le_of_ble_eq_true rfl) ?_
      exact W.vret hx hb hr (fun t ht hW => ⟨⟨(), rfl, trivial, by rw [ht]; exact hP9, va_K.moved hW.alike hK, hD9⟩, hS.F ht⟩) hS.2.2 dX12_laysLost_128
    · have g_6 : ((i_4 : Nat) : Int) < 8 := z_nle (by decide) (nI_toInt (by omega)) c_5
      refine lv_aload_n hx hb dX12_laysLost_29 rfl (lv_at hl 1 rfl) ?_
      refine lv_iload_n hx hb dX12_laysLost_30 rfl (lv_at hl 0 rfl) ?_
      refine lv_i2l (v := (nI i_4).toInt64) hx hb dX12_laysLost_31 rfl ?_
      refine zcV (As := [.long ((nI i_4).toInt64)]) (rest := []) (C := RX12) (n := 1) ⟨hx, hb, hml, hown, ht⟩ (k_X12_isVolume l D a ((nI i_4).toInt64)) (zgV ml_X12_571 im_X12_isVolume se_X12_isVolume in_X12 co_X12_isVolume) rfl rfl (by decide +kernel) ⟨Nat.le_of_ble_eq_true rfl, Nat.le_of_ble_eq_true rfl⟩ hK hP hS [0] rfl 0 rfl rfl rfl rfl hl.1 rfl (Nat.le_of_ble_eq_true rfl) dX12_laysLost_32 ⟨Nat.le_of_ble_eq_true rfl, Nat.le_of_ble_eq_true rfl⟩ (fun r_7 H locs hw hP hS => ?_)
      subst hw
      refine lv_if_ne (tgt := 41) hx hb dX12_laysLost_35 (by decide) (fun c_8 => (z_abs c_8 (by decide)).elim) (fun _ => ?_)
      refine lv_goto (tgt := 122) hx hb dX12_laysLost_38 (by decide) ?_
      refine lv_iinc (v := nI (i_4 + 1)) (lv' := [(1, .int (nI (i_4 + 1))), (0, .ref (a 200))]) hx hb dX12_laysLost_122 hl (k := 0) rfl (z_inc _) (by decide) rfl (fun ls hl => ?_)
      refine lv_goto (tgt := 23) hx hb dX12_laysLost_125 (by decide) ?_
      exact ih_23 () _ _ _ (by omega) ⟨hP.sub [0, 1] rfl, hD.sub [0, 1] (by decide) rfl, hS, lv_sub hl [0, 1] rfl⟩
  · have g_3 : ((i_1 : Nat) : Int) < 48 := z_nle (by decide) (nI_toInt (by omega)) c_2
    refine lv_aload_n hx hb dX12_laysLost_8 rfl (lv_at hl 1 rfl) ?_
    refine va_get (D := D) (ci := 12) (v := .ref (a 72)) (C := RX12) (T := TX12) (N := 116) hx hb ht inX12 hown hK hP 0 rfl rfl 72 (by decide) (ht (.fieldLink RX12 164 "CloneVolumesModel" "lostBy" "[I") fl_X12_164) (fun _ h9 => h9) rfl dX12_laysLost_9 ?_
    refine lv_iload_n hx hb dX12_laysLost_12 rfl (lv_at hl 0 rfl) ?_
    refine lv_iconst (v := 0) hx hb dX12_laysLost_13 (by decide) ?_
    refine va_iast hx hb hK hP hD hS 1 0 rfl rfl (vp_in_nI (by omega) (by omega)) dX12_laysLost_14 (fun H locs hP hD hS => ?_)
    rw [z_updc] at hP hD
    have hP : va_P D vwCl [((a 200), .inr (12, mO a 0 0 0 0 0 0 0 (-1) 0 0 1 0)), ((a 72), .inl (D.1 13, 48, .inl (fun _ => 0)))] H := hP
    have hD : va_D A [((a 200), .inr (12, mO a 0 0 0 0 0 0 0 (-1) 0 0 1 0)), ((a 72), .inl (D.1 13, 48, .inl (fun _ => 0)))] := hD
    refine lv_iinc (v := nI (i_1 + 1)) (lv' := [(1, .int (nI (i_1 + 1))), (0, .ref (a 200))]) hx hb dX12_laysLost_15 hl (k := 0) rfl (z_inc _) (by decide) rfl (fun ls hl => ?_)
    refine lv_goto (tgt := 2) hx hb dX12_laysLost_18 (by decide) ?_
    exact ih_2 () _ _ _ (by omega) ⟨hP.sub [0, 1] rfl, hD.sub [0, 1] (by decide) rfl, hS, lv_sub hl [0, 1] rfl⟩
set_option maxHeartbeats 4000000 in
set_option maxRecDepth 100000 in
theorem k_X12_worst (l : Launch) (D : va_G) (sz : Nat) (a : Nat → Nat) (p0 : Int32) : Met l yX12_worst (wz yX12_worst cX12_worst 4 (some .int)) { frames := 3, cells := 0, slots := 0, locals := 180 } (va_Pc [.ref (a 200), .int p0] (zW D sz [((a 200), .inr (12, mO a 0 0 0 0 0 0 0 (-1) 0 0 1 0)), ((a 72), .inl (D.1 13, 48, .inl (fun _ => 0)))])) (va_Qi (fun r (_ : Unit) => r = (-1)) (fun u t => zB D (va_A [((a 200), .inr (12, mO a 0 0 0 0 0 0 0 (-1) 0 0 1 0)), ((a 72), .inl (D.1 13, 48, .inl (fun _ => 0)))] sz) ((fun (_ : Unit) => []) u) t) (va_A [((a 200), .inr (12, mO a 0 0 0 0 0 0 0 (-1) 0 0 1 0)), ((a 72), .inl (D.1 13, 48, .inl (fun _ => 0)))] sz)) 0 0 (va_A [((a 200), .inr (12, mO a 0 0 0 0 0 0 0 (-1) 0 0 1 0)), ((a 72), .inl (D.1 13, 48, .inl (fun _ => 0)))] sz) := by
  refine Met.ofW (cc := cX12_worst) (maxL := 4) (ret := (some .int)) (by decide) rfl ?_
  intro p e s m args below meth c s₁ B hml hv
  obtain ⟨rfl, hsz, hP, hK, hD0⟩ := hv
  have hx := B.exec
  have hb := B.bytes
  have hr := B.returns
  have hts := atoms_spec (ws := wz yX12_worst cX12_worst 4 (some .int)) B.pre
  have ht : ∀ w ∈ lw_gd, w.before _ s = true := fun w h => hts w (List.mem_cons_of_mem _ h)
  have hown : s.vm.findClass RX12 = some m.cls := findClass_of_methodNamed B.named
  have hlocks := B.notSynchronized
  subst hsz
  have hD := hD0.self (sz := s.heap.size)
  generalize hAe : va_A [((a 200), .inr (12, mO a 0 0 0 0 0 0 0 (-1) 0 0 1 0)), ((a 72), .inl (D.1 13, 48, .inl (fun _ => 0)))] s.heap.size = A at hD ⊢
  have hA : ∀ q : Nat, s.heap.size ≤ q → A q := fun q h => by rw [← hAe]; exact Or.inr h
  have hS : va_S A s.heap s.heap [] := va_S.rf
  have hl := lv_entry ([.ref (a 200), .int p0]) (n := 4) (Nat.le_of_ble_eq_true rfl)
  rw [lg_entry_eq]
  generalize (lg_sl ([.ref (a 200), .int p0]) ++ List.replicate (4 - (lg_sl ([.ref (a 200), .int p0])).length) Slot.unset).toArray = ls at hl ⊢
  have hl : lv_has ls 4 [(0, .ref (a 200)), (1, .int p0)] := hl
  refine lv_iload_n hx hb dX12_worst_0 rfl (lv_at hl 1 rfl) ?_
  refine lv_i2l (v := p0.toInt64) hx hb dX12_worst_1 rfl ?_
  refine lv_lconst (v := 0) hx hb dX12_worst_2 (by decide) ?_
  refine lv_lconst (v := 1) hx hb dX12_worst_3 (by decide) ?_
  refine zcS (As := [.long p0.toInt64, .long 0, .long 1]) (rest := []) (n := 3) ⟨hx, hb, hml, hown, ht⟩ (k_X12_isIn l D p0.toInt64 0 1) (zgT ml_X12_309 st_X12_isIn in_X12 co_X12_isIn) rfl rfl (by decide +kernel) ⟨Nat.le_of_ble_eq_true rfl, Nat.le_of_ble_eq_true rfl⟩ hK hP hS [] rfl rfl hl.1 rfl (Nat.le_of_ble_eq_true rfl) dX12_worst_4 ⟨Nat.le_of_ble_eq_true rfl, Nat.le_of_ble_eq_true rfl⟩ (fun r_1 H locs hw hP hS => ?_)
  rcases hw with ⟨rfl, g_2⟩ | ⟨rfl, g_3, g_4⟩ | ⟨rfl, g_5, g_6⟩
  · skip
    have g_2 : p0.toInt < 0 := zt_lt (Int32.toInt_toInt64 _) (by decide) g_2
    refine lv_if_ne (tgt := 12) hx hb dX12_worst_7 (by decide) (fun c_7 => (z_abs c_7 (by decide)).elim) (fun _ => ?_)
    refine lv_iconst (v := (-1)) hx hb dX12_worst_10 (by decide) ?_
    have hP9 := hP.sub (ws' := []) [] rfl
    have hD9 := hD.sub (ws' := []) [] (by decide) rfl
    refine W.widen (k := 0) (n := 0) (Nat.le_of_ble_eq_true rfl) (Nat.le_of_ble_eq_true rfl) ?_
    exact W.iret (v := (-1)) hx hb hr (fun t ht hW => ⟨⟨(-1), (), rfl, rfl, by rw [ht]; exact hP9, va_K.moved hW.alike hK, hD9⟩, hS.F ht⟩) hS.2.2 dX12_worst_11
  · skip
    have g_3 : 0 ≤ p0.toInt := zt_ge (Int32.toInt_toInt64 _) (by decide) g_3
    have g_4 : 1 < p0.toInt := zt_gt (Int32.toInt_toInt64 _) (by decide) g_4
    refine lv_if_ne (tgt := 12) hx hb dX12_worst_7 (by decide) (fun c_9 => (z_abs c_9 (by decide)).elim) (fun _ => ?_)
    refine lv_iconst (v := (-1)) hx hb dX12_worst_10 (by decide) ?_
    have hP9 := hP.sub (ws' := []) [] rfl
    have hD9 := hD.sub (ws' := []) [] (by decide) rfl
    refine W.widen (k := 0) (n := 0) (Nat.le_of_ble_eq_true rfl) (Nat.le_of_ble_eq_true rfl) ?_
    exact W.iret (v := (-1)) hx hb hr (fun t ht hW => ⟨⟨(-1), (), rfl, rfl, by rw [ht]; exact hP9, va_K.moved hW.alike hK, hD9⟩, hS.F ht⟩) hS.2.2 dX12_worst_11
  · skip
    have g_5 : 0 ≤ p0.toInt := zt_ge (Int32.toInt_toInt64 _) (by decide) g_5
    have g_6 : p0.toInt ≤ 1 := zt_le (Int32.toInt_toInt64 _) (by decide) g_6
    refine lv_if_ne (tgt := 12) hx hb dX12_worst_7 (by decide) (fun _ => ?_) (fun c_11 => (z_abs c_11 (by decide)).elim)
    refine lv_aload_n hx hb dX12_worst_12 rfl (lv_at hl 0 rfl) ?_
    refine zwVv (As := []) (rest := []) (C := RX12) (n := 0) (wr := []) ⟨hx, hb, hml, hown, ht⟩ (k_X12_laysLost l D _ a) (zgV ml_X12_638 im_X12_laysLost se_X12_laysLost in_X12 co_X12_laysLost) rfl rfl (by decide +kernel) ⟨Nat.le_of_ble_eq_true rfl, Nat.le_of_ble_eq_true rfl⟩ hK hP hD hS hA [0, 1] [] rfl rfl rfl rfl (by decide) 0 rfl rfl rfl rfl hl.1 rfl (Nat.le_of_ble_eq_true rfl) dX12_worst_13 ⟨Nat.le_of_ble_eq_true rfl, Nat.le_of_ble_eq_true rfl⟩ (fun u_13 H locs hw hP hD hS => ?_)
    have hP : va_P D vwCl [((a 200), .inr (12, mO a 0 0 0 0 0 0 0 (-1) 0 0 1 0)), ((a 72), .inl (D.1 13, 48, .inl (fun _ => 0)))] H := hP
    have hD : va_D A [((a 200), .inr (12, mO a 0 0 0 0 0 0 0 (-1) 0 0 1 0)), ((a 72), .inl (D.1 13, 48, .inl (fun _ => 0)))] := hD
    refine lv_iconst (v := 0) hx hb dX12_worst_16 (by decide) ?_
    refine lv_istore_n (lv' := [(2, .int 0), (0, .ref (a 200)), (1, .int p0)]) hx hb dX12_worst_17 rfl hl (by decide) rfl (fun ls hl => ?_)
    refine lv_iconst (v := 1) hx hb dX12_worst_18 (by decide) ?_
    refine lv_istore_n (lv' := [(3, .int 1), (2, .int 0), (0, .ref (a 200)), (1, .int p0)]) hx hb dX12_worst_19 rfl hl (by decide) rfl (fun ls hl => ?_)
    refine z_loop (σ := Unit) (N := 48) (fun i u H locs ls => va_P D vwCl [((a 200), .inr (12, mO a 0 0 0 0 0 0 0 (-1) 0 0 1 0)), ((a 72), .inl (D.1 13, 48, .inl (fun _ => 0)))] H ∧ va_D A [((a 200), .inr (12, mO a 0 0 0 0 0 0 0 (-1) 0 0 1 0)), ((a 72), .inl (D.1 13, 48, .inl (fun _ => 0)))] ∧ va_S A s.heap H locs ∧ lv_has ls 4 [(3, .int (nI (i))), (2, .int 0), (0, .ref (a 200)), (1, .int p0)]) (fun i_15 _u H locs ls hi_i_15 hI ih_20 => ?_) 1 () (by decide) ⟨hP, hD, hS, lv_sub hl [0, 1, 2, 3] rfl⟩
    obtain ⟨hP, hD, hS, hl⟩ := hI
    have hP : va_P D vwCl [((a 200), .inr (12, mO a 0 0 0 0 0 0 0 (-1) 0 0 1 0)), ((a 72), .inl (D.1 13, 48, .inl (fun _ => 0)))] H := hP
    have hD : va_D A [((a 200), .inr (12, mO a 0 0 0 0 0 0 0 (-1) 0 0 1 0)), ((a 72), .inl (D.1 13, 48, .inl (fun _ => 0)))] := hD
    have hl : lv_has ls 4 [(3, .int (nI (i_15))), (2, .int 0), (0, .ref (a 200)), (1, .int p0)] := hl
    refine lv_iload_n hx hb dX12_worst_20 rfl (lv_at hl 0 rfl) ?_
    refine lv_bipush (v := 48) hx hb dX12_worst_21 (by decide) ?_
    refine lv_icmp_ge (tgt := 49) hx hb dX12_worst_23 (by decide) (fun c_16 => ?_) (fun c_16 => ?_)
    · have g_17 : 48 ≤ ((i_15 : Nat) : Int) := z_le (by decide) (nI_toInt (by omega)) c_16
      obtain rfl : i_15 = 48 := by omega
      have hP : va_P D vwCl [((a 200), .inr (12, mO a 0 0 0 0 0 0 0 (-1) 0 0 1 0)), ((a 72), .inl (D.1 13, 48, .inl (fun _ => 0)))] H := hP
      have hD : va_D A [((a 200), .inr (12, mO a 0 0 0 0 0 0 0 (-1) 0 0 1 0)), ((a 72), .inl (D.1 13, 48, .inl (fun _ => 0)))] := hD
      have hl : lv_has ls 4 [(3, .int 48), (2, .int 0), (0, .ref (a 200)), (1, .int p0)] := hl
      refine lv_aload_n hx hb dX12_worst_49 rfl (lv_at hl 2 rfl) ?_
      refine va_get (D := D) (ci := 12) (v := .ref (a 72)) (C := RX12) (T := TX12) (N := 116) hx hb ht inX12 hown hK hP 0 rfl rfl 72 (by decide) (ht (.fieldLink RX12 164 "CloneVolumesModel" "lostBy" "[I") fl_X12_164) (fun _ h9 => h9) rfl dX12_worst_50 ?_
      refine lv_iload_n hx hb dX12_worst_53 rfl (lv_at hl 1 rfl) ?_
      refine va_iald hx hb hK hP 1 0 rfl rfl (z_in (by decide) (by decide)) dX12_worst_54 ?_
      refine z_topi (y := 0) (by decide) ?_
      refine lv_if_ne (tgt := 62) hx hb dX12_worst_55 (by decide) (fun c_18 => (z_abs c_18 (by decide)).elim) (fun _ => ?_)
      refine lv_iconst (v := (-1)) hx hb dX12_worst_58 (by decide) ?_
      refine lv_goto (tgt := 76) hx hb dX12_worst_59 (by decide) ?_
      have hP9 := hP.sub (ws' := []) [] rfl
      have hD9 := hD.sub (ws' := []) [] (by decide) rfl
      refine W.widen (k := 0) (n := 0) (Nat.le_of_ble_eq_true rfl) (Nat.le_of_ble_eq_true rfl) ?_
      exact W.iret (v := (-1)) hx hb hr (fun t ht hW => ⟨⟨(-1), (), rfl, rfl, by rw [ht]; exact hP9, va_K.moved hW.alike hK, hD9⟩, hS.F ht⟩) hS.2.2 dX12_worst_76
    · have g_17 : ((i_15 : Nat) : Int) < 48 := z_nle (by decide) (nI_toInt (by omega)) c_16
      refine lv_aload_n hx hb dX12_worst_26 rfl (lv_at hl 2 rfl) ?_
      refine va_get (D := D) (ci := 12) (v := .ref (a 72)) (C := RX12) (T := TX12) (N := 116) hx hb ht inX12 hown hK hP 0 rfl rfl 72 (by decide) (ht (.fieldLink RX12 164 "CloneVolumesModel" "lostBy" "[I") fl_X12_164) (fun _ h9 => h9) rfl dX12_worst_27 ?_
      refine lv_iload_n hx hb dX12_worst_30 rfl (lv_at hl 0 rfl) ?_
      refine va_iald hx hb hK hP 1 0 rfl rfl (vp_in_nI (by omega) (by omega)) dX12_worst_31 ?_
      refine z_topi (y := 0) (by decide) ?_
      refine lv_aload_n hx hb dX12_worst_32 rfl (lv_at hl 2 rfl) ?_
      refine va_get (D := D) (ci := 12) (v := .ref (a 72)) (C := RX12) (T := TX12) (N := 116) hx hb ht inX12 hown hK hP 0 rfl rfl 72 (by decide) (ht (.fieldLink RX12 164 "CloneVolumesModel" "lostBy" "[I") fl_X12_164) (fun _ h9 => h9) rfl dX12_worst_33 ?_
      refine lv_iload_n hx hb dX12_worst_36 rfl (lv_at hl 1 rfl) ?_
      refine va_iald hx hb hK hP 1 0 rfl rfl (z_in (by decide) (by decide)) dX12_worst_37 ?_
      refine z_topi (y := 0) (by decide) ?_
      refine lv_icmp_le (tgt := 43) hx hb dX12_worst_38 (by decide) (fun _ => ?_) (fun c_20 => (z_abs c_20 (by decide)).elim)
      refine lv_iinc (v := nI (i_15 + 1)) (lv' := [(3, .int (nI (i_15 + 1))), (2, .int 0), (0, .ref (a 200)), (1, .int p0)]) hx hb dX12_worst_43 hl (k := 0) rfl (z_inc _) (by decide) rfl (fun ls hl => ?_)
      refine lv_goto (tgt := 20) hx hb dX12_worst_46 (by decide) ?_
      exact ih_20 () _ _ _ (by omega) ⟨hP.sub [0, 1] rfl, hD.sub [0, 1] (by decide) rfl, hS, lv_sub hl [0, 1, 2, 3] rfl⟩
set_option maxHeartbeats 4000000 in
set_option maxRecDepth 100000 in
theorem k_X12_feed (l : Launch) (D : va_G) (sz : Nat) (a : Nat → Nat) (p0 : Int32) (p1 : Int32) (p2 : Int32) (p3 : Int32) (p4 : Int32) : Met l yX12_feed (wz yX12_feed cX12_feed 8 (some .int)) { frames := 0, cells := 0, slots := 0, locals := 0 } (va_Pc [.ref (a 200), .int p0, .int p1, .int p2, .int p3, .int p4] (zW D sz [((a 200), .inr (12, mO a 0 0 0 0 0 0 0 (-1) 0 0 1 0)), ((a 0), .inl (D.1 13, 1600, .inl (fun _ => 0))), ((a 9), .inl (D.1 13, 6, .inl (fun _ => 0)))])) (va_Qi (fun r (_ : Unit) => r = 20) (fun u t => zB D (va_A [((a 200), .inr (12, mO a 0 0 0 0 0 0 0 (-1) 0 0 1 0)), ((a 0), .inl (D.1 13, 1600, .inl (fun _ => 0))), ((a 9), .inl (D.1 13, 6, .inl (fun _ => 0)))] sz) ((fun (_ : Unit) => []) u) t) (va_A [((a 200), .inr (12, mO a 0 0 0 0 0 0 0 (-1) 0 0 1 0)), ((a 0), .inl (D.1 13, 1600, .inl (fun _ => 0))), ((a 9), .inl (D.1 13, 6, .inl (fun _ => 0)))] sz)) 0 0 (va_A [((a 200), .inr (12, mO a 0 0 0 0 0 0 0 (-1) 0 0 1 0)), ((a 0), .inl (D.1 13, 1600, .inl (fun _ => 0))), ((a 9), .inl (D.1 13, 6, .inl (fun _ => 0)))] sz) := by
  refine Met.ofW (cc := cX12_feed) (maxL := 8) (ret := (some .int)) (by decide) rfl ?_
  intro p e s m args below meth c s₁ B hml hv
  obtain ⟨rfl, hsz, hP, hK, hD0⟩ := hv
  have hx := B.exec
  have hb := B.bytes
  have hr := B.returns
  have hts := atoms_spec (ws := wz yX12_feed cX12_feed 8 (some .int)) B.pre
  have ht : ∀ w ∈ lw_gd, w.before _ s = true := fun w h => hts w (List.mem_cons_of_mem _ h)
  have hown : s.vm.findClass RX12 = some m.cls := findClass_of_methodNamed B.named
  have hlocks := B.notSynchronized
  subst hsz
  have hD := hD0.self (sz := s.heap.size)
  generalize hAe : va_A [((a 200), .inr (12, mO a 0 0 0 0 0 0 0 (-1) 0 0 1 0)), ((a 0), .inl (D.1 13, 1600, .inl (fun _ => 0))), ((a 9), .inl (D.1 13, 6, .inl (fun _ => 0)))] s.heap.size = A at hD ⊢
  have hA : ∀ q : Nat, s.heap.size ≤ q → A q := fun q h => by rw [← hAe]; exact Or.inr h
  have hS : va_S A s.heap s.heap [] := va_S.rf
  have hl := lv_entry ([.ref (a 200), .int p0, .int p1, .int p2, .int p3, .int p4]) (n := 8) (Nat.le_of_ble_eq_true rfl)
  rw [lg_entry_eq]
  generalize (lg_sl ([.ref (a 200), .int p0, .int p1, .int p2, .int p3, .int p4]) ++ List.replicate (8 - (lg_sl ([.ref (a 200), .int p0, .int p1, .int p2, .int p3, .int p4])).length) Slot.unset).toArray = ls at hl ⊢
  have hl : lv_has ls 8 [(0, .ref (a 200)), (1, .int p0), (2, .int p1), (3, .int p2), (4, .int p3), (5, .int p4)] := hl
  refine lv_aload_n hx hb dX12_feed_0 rfl (lv_at hl 0 rfl) ?_
  refine va_get (D := D) (ci := 12) (v := .int 0) (C := RX12) (T := TX12) (N := 116) hx hb ht inX12 hown hK hP 0 rfl rfl 1 (by decide) (ht (.fieldLink RX12 263 "CloneVolumesModel" "taped" "I") fl_X12_263) (fun _ h9 => h9) rfl dX12_feed_1 ?_
  refine lv_bipush (v := 20) hx hb dX12_feed_4 (by decide) ?_
  refine lv_iadd hx hb dX12_feed_6 ?_
  refine z_topi (y := 20) (by decide) ?_
  refine lv_sipush (v := 1600) hx hb dX12_feed_7 (by decide) ?_
  refine lv_icmp_le (tgt := 25) hx hb dX12_feed_10 (by decide) (fun _ => ?_) (fun c_1 => (z_abs c_1 (by decide)).elim)
  refine lv_iconst (v := 0) hx hb dX12_feed_25 (by decide) ?_
  refine lv_istore (lv' := [(6, .int 0), (0, .ref (a 200)), (1, .int p0), (2, .int p1), (3, .int p2), (4, .int p3), (5, .int p4)]) hx hb dX12_feed_26 hl (by decide) rfl (fun ls hl => ?_)
  refine z_loop (σ := (Nat → Int32)) (N := 20) (fun i u H locs ls => va_P D vwCl [((a 200), .inr (12, mO a (nI (i)) 0 0 0 0 0 0 (-1) 0 0 1 0)), ((a 0), .inl (D.1 13, 1600, .inl u)), ((a 9), .inl (D.1 13, 6, .inl (fun _ => 0)))] H ∧ va_D A [((a 200), .inr (12, mO a (nI (i)) 0 0 0 0 0 0 (-1) 0 0 1 0)), ((a 0), .inl (D.1 13, 1600, .inl u)), ((a 9), .inl (D.1 13, 6, .inl (fun _ => 0)))] ∧ va_S A s.heap H locs ∧ lv_has ls 8 [(6, .int (nI i)), (0, .ref (a 200)), (1, .int p0), (2, .int p1), (3, .int p2), (4, .int p3), (5, .int p4)]) (fun i_3 f_4 H locs ls hi_i_3 hI ih_28 => ?_) 0 (fun _ => 0) (by decide) ⟨hP, hD, hS, lv_sub hl [0, 1, 2, 3, 4, 5, 6] rfl⟩
  obtain ⟨hP, hD, hS, hl⟩ := hI
  have hP : va_P D vwCl [((a 200), .inr (12, mO a (nI (i_3)) 0 0 0 0 0 0 (-1) 0 0 1 0)), ((a 0), .inl (D.1 13, 1600, .inl f_4)), ((a 9), .inl (D.1 13, 6, .inl (fun _ => 0)))] H := hP
  have hD : va_D A [((a 200), .inr (12, mO a (nI (i_3)) 0 0 0 0 0 0 (-1) 0 0 1 0)), ((a 0), .inl (D.1 13, 1600, .inl f_4)), ((a 9), .inl (D.1 13, 6, .inl (fun _ => 0)))] := hD
  have hl : lv_has ls 8 [(6, .int (nI i_3)), (0, .ref (a 200)), (1, .int p0), (2, .int p1), (3, .int p2), (4, .int p3), (5, .int p4)] := hl
  refine lv_iload hx hb dX12_feed_28 (lv_at hl 0 rfl) ?_
  refine lv_bipush (v := 20) hx hb dX12_feed_30 (by decide) ?_
  refine lv_icmp_ge (tgt := 124) hx hb dX12_feed_32 (by decide) (fun c_5 => ?_) (fun c_5 => ?_)
  · have g_6 : 20 ≤ ((i_3 : Nat) : Int) := z_le (by decide) (nI_toInt (by omega)) c_5
    obtain rfl : i_3 = 20 := by omega
    have hP : va_P D vwCl [((a 200), .inr (12, mO a 20 0 0 0 0 0 0 (-1) 0 0 1 0)), ((a 0), .inl (D.1 13, 1600, .inl f_4)), ((a 9), .inl (D.1 13, 6, .inl (fun _ => 0)))] H := hP
    have hD : va_D A [((a 200), .inr (12, mO a 20 0 0 0 0 0 0 (-1) 0 0 1 0)), ((a 0), .inl (D.1 13, 1600, .inl f_4)), ((a 9), .inl (D.1 13, 6, .inl (fun _ => 0)))] := hD
    have hl : lv_has ls 8 [(6, .int 20), (0, .ref (a 200)), (1, .int p0), (2, .int p1), (3, .int p2), (4, .int p3), (5, .int p4)] := hl
    refine lv_aload_n hx hb dX12_feed_124 rfl (lv_at hl 1 rfl) ?_
    refine va_get (D := D) (ci := 12) (v := .int 20) (C := RX12) (T := TX12) (N := 116) hx hb ht inX12 hown hK hP 0 rfl rfl 1 (by decide) (ht (.fieldLink RX12 263 "CloneVolumesModel" "taped" "I") fl_X12_263) (fun _ h9 => h9) rfl dX12_feed_125 ?_
    have hP9 := hP.sub (ws' := []) [] rfl
    have hD9 := hD.sub (ws' := []) [] (by decide) rfl
    refine W.widen (k := 0) (n := 0) (Nat.le_of_ble_eq_true rfl) (Nat.le_of_ble_eq_true rfl) ?_
    exact W.iret (v := 20) hx hb hr (fun t ht hW => ⟨⟨20, (), rfl, rfl, by rw [ht]; exact hP9, va_K.moved hW.alike hK, hD9⟩, hS.F ht⟩) hS.2.2 dX12_feed_128
  · have g_6 : ((i_3 : Nat) : Int) < 20 := z_nle (by decide) (nI_toInt (by omega)) c_5
    refine lv_iload hx hb dX12_feed_35 (lv_at hl 0 rfl) ?_
    refine lv_iconst (v := 4) hx hb dX12_feed_37 (by decide) ?_
    refine lv_icmp_ge (tgt := 45) hx hb dX12_feed_38 (by decide) (fun c_7 => ?_) (fun c_7 => ?_)
    · have g_8 : 4 ≤ ((i_3 : Nat) : Int) := z_le (by decide) (nI_toInt (by omega)) c_7
      refine lv_iload hx hb dX12_feed_45 (lv_at hl 0 rfl) ?_
      refine lv_bipush (v := 8) hx hb dX12_feed_47 (by decide) ?_
      refine lv_icmp_ge (tgt := 56) hx hb dX12_feed_49 (by decide) (fun c_9 => ?_) (fun c_9 => ?_)
      · have g_10 : 8 ≤ ((i_3 : Nat) : Int) := z_le (by decide) (nI_toInt (by omega)) c_9
        refine lv_iload hx hb dX12_feed_56 (lv_at hl 0 rfl) ?_
        refine lv_bipush (v := 12) hx hb dX12_feed_58 (by decide) ?_
        refine lv_icmp_ge (tgt := 67) hx hb dX12_feed_60 (by decide) (fun c_11 => ?_) (fun c_11 => ?_)
        · have g_12 : 12 ≤ ((i_3 : Nat) : Int) := z_le (by decide) (nI_toInt (by omega)) c_11
          refine lv_iload hx hb dX12_feed_67 (lv_at hl 0 rfl) ?_
          refine lv_bipush (v := 16) hx hb dX12_feed_69 (by decide) ?_
          refine lv_icmp_ge (tgt := 79) hx hb dX12_feed_71 (by decide) (fun c_13 => ?_) (fun c_13 => ?_)
          · have g_14 : 16 ≤ ((i_3 : Nat) : Int) := z_le (by decide) (nI_toInt (by omega)) c_13
            refine lv_iload hx hb dX12_feed_79 (lv_at hl 6 rfl) ?_
            refine lv_istore (lv' := [(7, .int p4), (6, .int (nI i_3)), (0, .ref (a 200)), (1, .int p0), (2, .int p1), (3, .int p2), (4, .int p3), (5, .int p4)]) hx hb dX12_feed_81 hl (by decide) rfl (fun ls hl => ?_)
            refine lv_aload_n hx hb dX12_feed_83 rfl (lv_at hl 2 rfl) ?_
            refine va_get (D := D) (ci := 12) (v := .ref (a 0)) (C := RX12) (T := TX12) (N := 116) hx hb ht inX12 hown hK hP 0 rfl rfl 0 (by decide) (ht (.fieldLink RX12 7 "CloneVolumesModel" "tape" "[I") fl_X12_7) (fun _ h9 => h9) rfl dX12_feed_84 ?_
            refine lv_aload_n hx hb dX12_feed_87 rfl (lv_at hl 2 rfl) ?_
            refine va_get (D := D) (ci := 12) (v := .int (nI (i_3))) (C := RX12) (T := TX12) (N := 116) hx hb ht inX12 hown hK hP 0 rfl rfl 1 (by decide) (ht (.fieldLink RX12 263 "CloneVolumesModel" "taped" "I") fl_X12_263) (fun _ h9 => h9) rfl dX12_feed_88 ?_
            refine lv_iload hx hb dX12_feed_91 (lv_at hl 0 rfl) ?_
            refine lv_bipush (v := 8) hx hb dX12_feed_93 (by decide) ?_
            refine lv_iconst (v := 3) hx hb dX12_feed_95 (by decide) ?_
            refine lv_iload hx hb dX12_feed_96 (lv_at hl 1 rfl) ?_
            refine lv_iconst (v := 4) hx hb dX12_feed_98 (by decide) ?_
            refine lv_irem hx hb dX12_feed_99 (by decide) ?_
            refine lv_topi (fun x_15 ex_15 => ?_)
            refine lv_isub hx hb dX12_feed_100 ?_
            refine lv_topi (fun x_16 ex_16 => ?_)
            refine lv_imul hx hb dX12_feed_101 ?_
            refine lv_topi (fun x_17 ex_17 => ?_)
            refine lv_ishr hx hb dX12_feed_102 ?_
            refine lv_topi (fun x_18 ex_18 => ?_)
            refine lv_sipush (v := 255) hx hb dX12_feed_103 (by decide) ?_
            refine lv_iand hx hb dX12_feed_106 ?_
            refine lv_topi (fun x_19 ex_19 => ?_)
            refine va_iast hx hb hK hP hD hS 1 0 rfl rfl (vp_in_nI (by omega) (by omega)) dX12_feed_107 (fun H locs hP hD hS => ?_)
            generalize hf_20 : upd _ _ _ = f_20 at hP hD
            have hP : va_P D vwCl [((a 200), .inr (12, mO a (nI (i_3)) 0 0 0 0 0 0 (-1) 0 0 1 0)), ((a 0), .inl (D.1 13, 1600, .inl f_20)), ((a 9), .inl (D.1 13, 6, .inl (fun _ => 0)))] H := hP
            have hD : va_D A [((a 200), .inr (12, mO a (nI (i_3)) 0 0 0 0 0 0 (-1) 0 0 1 0)), ((a 0), .inl (D.1 13, 1600, .inl f_20)), ((a 9), .inl (D.1 13, 6, .inl (fun _ => 0)))] := hD
            refine lv_aload_n hx hb dX12_feed_108 rfl (lv_at hl 2 rfl) ?_
            refine lv_dup hx hb dX12_feed_109 rfl ?_
            refine va_get (D := D) (ci := 12) (v := .int (nI (i_3))) (C := RX12) (T := TX12) (N := 116) hx hb ht inX12 hown hK hP 0 rfl rfl 1 (by decide) (ht (.fieldLink RX12 263 "CloneVolumesModel" "taped" "I") fl_X12_263) (fun _ h9 => h9) rfl dX12_feed_110 ?_
            refine lv_iconst (v := 1) hx hb dX12_feed_113 (by decide) ?_
            refine lv_iadd hx hb dX12_feed_114 ?_
            refine z_topi (y := nI (i_3 + 1)) (nI_add _ _) ?_
            refine va_put (D := D) (ci := 12) (v := .int (nI (i_3 + 1))) (ty := .int) (C := RX12) (T := TX12) (N := 116) hx hb ht inX12 tyX12 tyX12_ok nmX12 hown hK hP hD hS 0 rfl rfl 1 (by decide) (ht (.fieldLink RX12 263 "CloneVolumesModel" "taped" "I") fl_X12_263) (fun _ h9 => h9) rfl (by decide +kernel) rfl rfl (Nat.le_of_ble_eq_true rfl) dX12_feed_115 (fun H locs hP hD hS => ?_)
            have hP : va_P D vwCl [((a 200), .inr (12, mO a (nI (i_3 + 1)) 0 0 0 0 0 0 (-1) 0 0 1 0)), ((a 0), .inl (D.1 13, 1600, .inl f_20)), ((a 9), .inl (D.1 13, 6, .inl (fun _ => 0)))] H := hP
            have hD : va_D A [((a 200), .inr (12, mO a (nI (i_3 + 1)) 0 0 0 0 0 0 (-1) 0 0 1 0)), ((a 0), .inl (D.1 13, 1600, .inl f_20)), ((a 9), .inl (D.1 13, 6, .inl (fun _ => 0)))] := hD
            refine lv_iinc (v := nI (i_3 + 1)) (lv' := [(6, .int (nI (i_3 + 1))), (7, .int p4), (0, .ref (a 200)), (1, .int p0), (2, .int p1), (3, .int p2), (4, .int p3), (5, .int p4)]) hx hb dX12_feed_118 hl (k := 1) rfl (z_inc _) (by decide) rfl (fun ls hl => ?_)
            refine lv_goto (tgt := 28) hx hb dX12_feed_121 (by decide) ?_
            exact ih_28 f_20 _ _ _ (by omega) ⟨hP.sub [0, 1, 2] rfl, hD.sub [0, 1, 2] (by decide) rfl, hS, lv_sub hl [0, 2, 3, 4, 5, 6, 7] rfl⟩
          · have g_14 : ((i_3 : Nat) : Int) < 16 := z_nle (by decide) (nI_toInt (by omega)) c_13
            refine lv_iload hx hb dX12_feed_74 (lv_at hl 5 rfl) ?_
            refine lv_goto (tgt := 81) hx hb dX12_feed_76 (by decide) ?_
            refine lv_istore (lv' := [(7, .int p3), (6, .int (nI i_3)), (0, .ref (a 200)), (1, .int p0), (2, .int p1), (3, .int p2), (4, .int p3), (5, .int p4)]) hx hb dX12_feed_81 hl (by decide) rfl (fun ls hl => ?_)
            refine lv_aload_n hx hb dX12_feed_83 rfl (lv_at hl 2 rfl) ?_
            refine va_get (D := D) (ci := 12) (v := .ref (a 0)) (C := RX12) (T := TX12) (N := 116) hx hb ht inX12 hown hK hP 0 rfl rfl 0 (by decide) (ht (.fieldLink RX12 7 "CloneVolumesModel" "tape" "[I") fl_X12_7) (fun _ h9 => h9) rfl dX12_feed_84 ?_
            refine lv_aload_n hx hb dX12_feed_87 rfl (lv_at hl 2 rfl) ?_
            refine va_get (D := D) (ci := 12) (v := .int (nI (i_3))) (C := RX12) (T := TX12) (N := 116) hx hb ht inX12 hown hK hP 0 rfl rfl 1 (by decide) (ht (.fieldLink RX12 263 "CloneVolumesModel" "taped" "I") fl_X12_263) (fun _ h9 => h9) rfl dX12_feed_88 ?_
            refine lv_iload hx hb dX12_feed_91 (lv_at hl 0 rfl) ?_
            refine lv_bipush (v := 8) hx hb dX12_feed_93 (by decide) ?_
            refine lv_iconst (v := 3) hx hb dX12_feed_95 (by decide) ?_
            refine lv_iload hx hb dX12_feed_96 (lv_at hl 1 rfl) ?_
            refine lv_iconst (v := 4) hx hb dX12_feed_98 (by decide) ?_
            refine lv_irem hx hb dX12_feed_99 (by decide) ?_
            refine lv_topi (fun x_21 ex_21 => ?_)
            refine lv_isub hx hb dX12_feed_100 ?_
            refine lv_topi (fun x_22 ex_22 => ?_)
            refine lv_imul hx hb dX12_feed_101 ?_
            refine lv_topi (fun x_23 ex_23 => ?_)
            refine lv_ishr hx hb dX12_feed_102 ?_
            refine lv_topi (fun x_24 ex_24 => ?_)
            refine lv_sipush (v := 255) hx hb dX12_feed_103 (by decide) ?_
            refine lv_iand hx hb dX12_feed_106 ?_
            refine lv_topi (fun x_25 ex_25 => ?_)
            refine va_iast hx hb hK hP hD hS 1 0 rfl rfl (vp_in_nI (by omega) (by omega)) dX12_feed_107 (fun H locs hP hD hS => ?_)
            generalize hf_26 : upd _ _ _ = f_26 at hP hD
            have hP : va_P D vwCl [((a 200), .inr (12, mO a (nI (i_3)) 0 0 0 0 0 0 (-1) 0 0 1 0)), ((a 0), .inl (D.1 13, 1600, .inl f_26)), ((a 9), .inl (D.1 13, 6, .inl (fun _ => 0)))] H := hP
            have hD : va_D A [((a 200), .inr (12, mO a (nI (i_3)) 0 0 0 0 0 0 (-1) 0 0 1 0)), ((a 0), .inl (D.1 13, 1600, .inl f_26)), ((a 9), .inl (D.1 13, 6, .inl (fun _ => 0)))] := hD
            refine lv_aload_n hx hb dX12_feed_108 rfl (lv_at hl 2 rfl) ?_
            refine lv_dup hx hb dX12_feed_109 rfl ?_
            refine va_get (D := D) (ci := 12) (v := .int (nI (i_3))) (C := RX12) (T := TX12) (N := 116) hx hb ht inX12 hown hK hP 0 rfl rfl 1 (by decide) (ht (.fieldLink RX12 263 "CloneVolumesModel" "taped" "I") fl_X12_263) (fun _ h9 => h9) rfl dX12_feed_110 ?_
            refine lv_iconst (v := 1) hx hb dX12_feed_113 (by decide) ?_
            refine lv_iadd hx hb dX12_feed_114 ?_
            refine z_topi (y := nI (i_3 + 1)) (nI_add _ _) ?_
            refine va_put (D := D) (ci := 12) (v := .int (nI (i_3 + 1))) (ty := .int) (C := RX12) (T := TX12) (N := 116) hx hb ht inX12 tyX12 tyX12_ok nmX12 hown hK hP hD hS 0 rfl rfl 1 (by decide) (ht (.fieldLink RX12 263 "CloneVolumesModel" "taped" "I") fl_X12_263) (fun _ h9 => h9) rfl (by decide +kernel) rfl rfl (Nat.le_of_ble_eq_true rfl) dX12_feed_115 (fun H locs hP hD hS => ?_)
            have hP : va_P D vwCl [((a 200), .inr (12, mO a (nI (i_3 + 1)) 0 0 0 0 0 0 (-1) 0 0 1 0)), ((a 0), .inl (D.1 13, 1600, .inl f_26)), ((a 9), .inl (D.1 13, 6, .inl (fun _ => 0)))] H := hP
            have hD : va_D A [((a 200), .inr (12, mO a (nI (i_3 + 1)) 0 0 0 0 0 0 (-1) 0 0 1 0)), ((a 0), .inl (D.1 13, 1600, .inl f_26)), ((a 9), .inl (D.1 13, 6, .inl (fun _ => 0)))] := hD
            refine lv_iinc (v := nI (i_3 + 1)) (lv' := [(6, .int (nI (i_3 + 1))), (7, .int p3), (0, .ref (a 200)), (1, .int p0), (2, .int p1), (3, .int p2), (4, .int p3), (5, .int p4)]) hx hb dX12_feed_118 hl (k := 1) rfl (z_inc _) (by decide) rfl (fun ls hl => ?_)
            refine lv_goto (tgt := 28) hx hb dX12_feed_121 (by decide) ?_
            exact ih_28 f_26 _ _ _ (by omega) ⟨hP.sub [0, 1, 2] rfl, hD.sub [0, 1, 2] (by decide) rfl, hS, lv_sub hl [0, 2, 3, 4, 5, 6, 7] rfl⟩
        · have g_12 : ((i_3 : Nat) : Int) < 12 := z_nle (by decide) (nI_toInt (by omega)) c_11
          refine lv_iload_n hx hb dX12_feed_63 rfl (lv_at hl 4 rfl) ?_
          refine lv_goto (tgt := 81) hx hb dX12_feed_64 (by decide) ?_
          refine lv_istore (lv' := [(7, .int p2), (6, .int (nI i_3)), (0, .ref (a 200)), (1, .int p0), (2, .int p1), (3, .int p2), (4, .int p3), (5, .int p4)]) hx hb dX12_feed_81 hl (by decide) rfl (fun ls hl => ?_)
          refine lv_aload_n hx hb dX12_feed_83 rfl (lv_at hl 2 rfl) ?_
          refine va_get (D := D) (ci := 12) (v := .ref (a 0)) (C := RX12) (T := TX12) (N := 116) hx hb ht inX12 hown hK hP 0 rfl rfl 0 (by decide) (ht (.fieldLink RX12 7 "CloneVolumesModel" "tape" "[I") fl_X12_7) (fun _ h9 => h9) rfl dX12_feed_84 ?_
          refine lv_aload_n hx hb dX12_feed_87 rfl (lv_at hl 2 rfl) ?_
          refine va_get (D := D) (ci := 12) (v := .int (nI (i_3))) (C := RX12) (T := TX12) (N := 116) hx hb ht inX12 hown hK hP 0 rfl rfl 1 (by decide) (ht (.fieldLink RX12 263 "CloneVolumesModel" "taped" "I") fl_X12_263) (fun _ h9 => h9) rfl dX12_feed_88 ?_
          refine lv_iload hx hb dX12_feed_91 (lv_at hl 0 rfl) ?_
          refine lv_bipush (v := 8) hx hb dX12_feed_93 (by decide) ?_
          refine lv_iconst (v := 3) hx hb dX12_feed_95 (by decide) ?_
          refine lv_iload hx hb dX12_feed_96 (lv_at hl 1 rfl) ?_
          refine lv_iconst (v := 4) hx hb dX12_feed_98 (by decide) ?_
          refine lv_irem hx hb dX12_feed_99 (by decide) ?_
          refine lv_topi (fun x_27 ex_27 => ?_)
          refine lv_isub hx hb dX12_feed_100 ?_
          refine lv_topi (fun x_28 ex_28 => ?_)
          refine lv_imul hx hb dX12_feed_101 ?_
          refine lv_topi (fun x_29 ex_29 => ?_)
          refine lv_ishr hx hb dX12_feed_102 ?_
          refine lv_topi (fun x_30 ex_30 => ?_)
          refine lv_sipush (v := 255) hx hb dX12_feed_103 (by decide) ?_
          refine lv_iand hx hb dX12_feed_106 ?_
          refine lv_topi (fun x_31 ex_31 => ?_)
          refine va_iast hx hb hK hP hD hS 1 0 rfl rfl (vp_in_nI (by omega) (by omega)) dX12_feed_107 (fun H locs hP hD hS => ?_)
          generalize hf_32 : upd _ _ _ = f_32 at hP hD
          have hP : va_P D vwCl [((a 200), .inr (12, mO a (nI (i_3)) 0 0 0 0 0 0 (-1) 0 0 1 0)), ((a 0), .inl (D.1 13, 1600, .inl f_32)), ((a 9), .inl (D.1 13, 6, .inl (fun _ => 0)))] H := hP
          have hD : va_D A [((a 200), .inr (12, mO a (nI (i_3)) 0 0 0 0 0 0 (-1) 0 0 1 0)), ((a 0), .inl (D.1 13, 1600, .inl f_32)), ((a 9), .inl (D.1 13, 6, .inl (fun _ => 0)))] := hD
          refine lv_aload_n hx hb dX12_feed_108 rfl (lv_at hl 2 rfl) ?_
          refine lv_dup hx hb dX12_feed_109 rfl ?_
          refine va_get (D := D) (ci := 12) (v := .int (nI (i_3))) (C := RX12) (T := TX12) (N := 116) hx hb ht inX12 hown hK hP 0 rfl rfl 1 (by decide) (ht (.fieldLink RX12 263 "CloneVolumesModel" "taped" "I") fl_X12_263) (fun _ h9 => h9) rfl dX12_feed_110 ?_
          refine lv_iconst (v := 1) hx hb dX12_feed_113 (by decide) ?_
          refine lv_iadd hx hb dX12_feed_114 ?_
          refine z_topi (y := nI (i_3 + 1)) (nI_add _ _) ?_
          refine va_put (D := D) (ci := 12) (v := .int (nI (i_3 + 1))) (ty := .int) (C := RX12) (T := TX12) (N := 116) hx hb ht inX12 tyX12 tyX12_ok nmX12 hown hK hP hD hS 0 rfl rfl 1 (by decide) (ht (.fieldLink RX12 263 "CloneVolumesModel" "taped" "I") fl_X12_263) (fun _ h9 => h9) rfl (by decide +kernel) rfl rfl (Nat.le_of_ble_eq_true rfl) dX12_feed_115 (fun H locs hP hD hS => ?_)
          have hP : va_P D vwCl [((a 200), .inr (12, mO a (nI (i_3 + 1)) 0 0 0 0 0 0 (-1) 0 0 1 0)), ((a 0), .inl (D.1 13, 1600, .inl f_32)), ((a 9), .inl (D.1 13, 6, .inl (fun _ => 0)))] H := hP
          have hD : va_D A [((a 200), .inr (12, mO a (nI (i_3 + 1)) 0 0 0 0 0 0 (-1) 0 0 1 0)), ((a 0), .inl (D.1 13, 1600, .inl f_32)), ((a 9), .inl (D.1 13, 6, .inl (fun _ => 0)))] := hD
          refine lv_iinc (v := nI (i_3 + 1)) (lv' := [(6, .int (nI (i_3 + 1))), (7, .int p2), (0, .ref (a 200)), (1, .int p0), (2, .int p1), (3, .int p2), (4, .int p3), (5, .int p4)]) hx hb dX12_feed_118 hl (k := 1) rfl (z_inc _) (by decide) rfl (fun ls hl => ?_)
          refine lv_goto (tgt := 28) hx hb dX12_feed_121 (by decide) ?_
          exact ih_28 f_32 _ _ _ (by omega) ⟨hP.sub [0, 1, 2] rfl, hD.sub [0, 1, 2] (by decide) rfl, hS, lv_sub hl [0, 2, 3, 4, 5, 6, 7] rfl⟩
      · have g_10 : ((i_3 : Nat) : Int) < 8 := z_nle (by decide) (nI_toInt (by omega)) c_9
        refine lv_iload_n hx hb dX12_feed_52 rfl (lv_at hl 3 rfl) ?_
        refine lv_goto (tgt := 81) hx hb dX12_feed_53 (by decide) ?_
        refine lv_istore (lv' := [(7, .int p1), (6, .int (nI i_3)), (0, .ref (a 200)), (1, .int p0), (2, .int p1), (3, .int p2), (4, .int p3), (5, .int p4)]) hx hb dX12_feed_81 hl (by decide) rfl (fun ls hl => ?_)
        refine lv_aload_n hx hb dX12_feed_83 rfl (lv_at hl 2 rfl) ?_
        refine va_get (D := D) (ci := 12) (v := .ref (a 0)) (C := RX12) (T := TX12) (N := 116) hx hb ht inX12 hown hK hP 0 rfl rfl 0 (by decide) (ht (.fieldLink RX12 7 "CloneVolumesModel" "tape" "[I") fl_X12_7) (fun _ h9 => h9) rfl dX12_feed_84 ?_
        refine lv_aload_n hx hb dX12_feed_87 rfl (lv_at hl 2 rfl) ?_
        refine va_get (D := D) (ci := 12) (v := .int (nI (i_3))) (C := RX12) (T := TX12) (N := 116) hx hb ht inX12 hown hK hP 0 rfl rfl 1 (by decide) (ht (.fieldLink RX12 263 "CloneVolumesModel" "taped" "I") fl_X12_263) (fun _ h9 => h9) rfl dX12_feed_88 ?_
        refine lv_iload hx hb dX12_feed_91 (lv_at hl 0 rfl) ?_
        refine lv_bipush (v := 8) hx hb dX12_feed_93 (by decide) ?_
        refine lv_iconst (v := 3) hx hb dX12_feed_95 (by decide) ?_
        refine lv_iload hx hb dX12_feed_96 (lv_at hl 1 rfl) ?_
        refine lv_iconst (v := 4) hx hb dX12_feed_98 (by decide) ?_
        refine lv_irem hx hb dX12_feed_99 (by decide) ?_
        refine lv_topi (fun x_33 ex_33 => ?_)
        refine lv_isub hx hb dX12_feed_100 ?_
        refine lv_topi (fun x_34 ex_34 => ?_)
        refine lv_imul hx hb dX12_feed_101 ?_
        refine lv_topi (fun x_35 ex_35 => ?_)
        refine lv_ishr hx hb dX12_feed_102 ?_
        refine lv_topi (fun x_36 ex_36 => ?_)
        refine lv_sipush (v := 255) hx hb dX12_feed_103 (by decide) ?_
        refine lv_iand hx hb dX12_feed_106 ?_
        refine lv_topi (fun x_37 ex_37 => ?_)
        refine va_iast hx hb hK hP hD hS 1 0 rfl rfl (vp_in_nI (by omega) (by omega)) dX12_feed_107 (fun H locs hP hD hS => ?_)
        generalize hf_38 : upd _ _ _ = f_38 at hP hD
        have hP : va_P D vwCl [((a 200), .inr (12, mO a (nI (i_3)) 0 0 0 0 0 0 (-1) 0 0 1 0)), ((a 0), .inl (D.1 13, 1600, .inl f_38)), ((a 9), .inl (D.1 13, 6, .inl (fun _ => 0)))] H := hP
        have hD : va_D A [((a 200), .inr (12, mO a (nI (i_3)) 0 0 0 0 0 0 (-1) 0 0 1 0)), ((a 0), .inl (D.1 13, 1600, .inl f_38)), ((a 9), .inl (D.1 13, 6, .inl (fun _ => 0)))] := hD
        refine lv_aload_n hx hb dX12_feed_108 rfl (lv_at hl 2 rfl) ?_
        refine lv_dup hx hb dX12_feed_109 rfl ?_
        refine va_get (D := D) (ci := 12) (v := .int (nI (i_3))) (C := RX12) (T := TX12) (N := 116) hx hb ht inX12 hown hK hP 0 rfl rfl 1 (by decide) (ht (.fieldLink RX12 263 "CloneVolumesModel" "taped" "I") fl_X12_263) (fun _ h9 => h9) rfl dX12_feed_110 ?_
        refine lv_iconst (v := 1) hx hb dX12_feed_113 (by decide) ?_
        refine lv_iadd hx hb dX12_feed_114 ?_
        refine z_topi (y := nI (i_3 + 1)) (nI_add _ _) ?_
        refine va_put (D := D) (ci := 12) (v := .int (nI (i_3 + 1))) (ty := .int) (C := RX12) (T := TX12) (N := 116) hx hb ht inX12 tyX12 tyX12_ok nmX12 hown hK hP hD hS 0 rfl rfl 1 (by decide) (ht (.fieldLink RX12 263 "CloneVolumesModel" "taped" "I") fl_X12_263) (fun _ h9 => h9) rfl (by decide +kernel) rfl rfl (Nat.le_of_ble_eq_true rfl) dX12_feed_115 (fun H locs hP hD hS => ?_)
        have hP : va_P D vwCl [((a 200), .inr (12, mO a (nI (i_3 + 1)) 0 0 0 0 0 0 (-1) 0 0 1 0)), ((a 0), .inl (D.1 13, 1600, .inl f_38)), ((a 9), .inl (D.1 13, 6, .inl (fun _ => 0)))] H := hP
        have hD : va_D A [((a 200), .inr (12, mO a (nI (i_3 + 1)) 0 0 0 0 0 0 (-1) 0 0 1 0)), ((a 0), .inl (D.1 13, 1600, .inl f_38)), ((a 9), .inl (D.1 13, 6, .inl (fun _ => 0)))] := hD
        refine lv_iinc (v := nI (i_3 + 1)) (lv' := [(6, .int (nI (i_3 + 1))), (7, .int p1), (0, .ref (a 200)), (1, .int p0), (2, .int p1), (3, .int p2), (4, .int p3), (5, .int p4)]) hx hb dX12_feed_118 hl (k := 1) rfl (z_inc _) (by decide) rfl (fun ls hl => ?_)
        refine lv_goto (tgt := 28) hx hb dX12_feed_121 (by decide) ?_
        exact ih_28 f_38 _ _ _ (by omega) ⟨hP.sub [0, 1, 2] rfl, hD.sub [0, 1, 2] (by decide) rfl, hS, lv_sub hl [0, 2, 3, 4, 5, 6, 7] rfl⟩
    · have g_8 : ((i_3 : Nat) : Int) < 4 := z_nle (by decide) (nI_toInt (by omega)) c_7
      refine lv_iload_n hx hb dX12_feed_41 rfl (lv_at hl 2 rfl) ?_
      refine lv_goto (tgt := 81) hx hb dX12_feed_42 (by decide) ?_
      refine lv_istore (lv' := [(7, .int p0), (6, .int (nI i_3)), (0, .ref (a 200)), (1, .int p0), (2, .int p1), (3, .int p2), (4, .int p3), (5, .int p4)]) hx hb dX12_feed_81 hl (by decide) rfl (fun ls hl => ?_)
      refine lv_aload_n hx hb dX12_feed_83 rfl (lv_at hl 2 rfl) ?_
      refine va_get (D := D) (ci := 12) (v := .ref (a 0)) (C := RX12) (T := TX12) (N := 116) hx hb ht inX12 hown hK hP 0 rfl rfl 0 (by decide) (ht (.fieldLink RX12 7 "CloneVolumesModel" "tape" "[I") fl_X12_7) (fun _ h9 => h9) rfl dX12_feed_84 ?_
      refine lv_aload_n hx hb dX12_feed_87 rfl (lv_at hl 2 rfl) ?_
      refine va_get (D := D) (ci := 12) (v := .int (nI (i_3))) (C := RX12) (T := TX12) (N := 116) hx hb ht inX12 hown hK hP 0 rfl rfl 1 (by decide) (ht (.fieldLink RX12 263 "CloneVolumesModel" "taped" "I") fl_X12_263) (fun _ h9 => h9) rfl dX12_feed_88 ?_
      refine lv_iload hx hb dX12_feed_91 (lv_at hl 0 rfl) ?_
      refine lv_bipush (v := 8) hx hb dX12_feed_93 (by decide) ?_
      refine lv_iconst (v := 3) hx hb dX12_feed_95 (by decide) ?_
      refine lv_iload hx hb dX12_feed_96 (lv_at hl 1 rfl) ?_
      refine lv_iconst (v := 4) hx hb dX12_feed_98 (by decide) ?_
      refine lv_irem hx hb dX12_feed_99 (by decide) ?_
      refine lv_topi (fun x_39 ex_39 => ?_)
      refine lv_isub hx hb dX12_feed_100 ?_
      refine lv_topi (fun x_40 ex_40 => ?_)
      refine lv_imul hx hb dX12_feed_101 ?_
      refine lv_topi (fun x_41 ex_41 => ?_)
      refine lv_ishr hx hb dX12_feed_102 ?_
      refine lv_topi (fun x_42 ex_42 => ?_)
      refine lv_sipush (v := 255) hx hb dX12_feed_103 (by decide) ?_
      refine lv_iand hx hb dX12_feed_106 ?_
      refine lv_topi (fun x_43 ex_43 => ?_)
      refine va_iast hx hb hK hP hD hS 1 0 rfl rfl (vp_in_nI (by omega) (by omega)) dX12_feed_107 (fun H locs hP hD hS => ?_)
      generalize hf_44 : upd _ _ _ = f_44 at hP hD
      have hP : va_P D vwCl [((a 200), .inr (12, mO a (nI (i_3)) 0 0 0 0 0 0 (-1) 0 0 1 0)), ((a 0), .inl (D.1 13, 1600, .inl f_44)), ((a 9), .inl (D.1 13, 6, .inl (fun _ => 0)))] H := hP
      have hD : va_D A [((a 200), .inr (12, mO a (nI (i_3)) 0 0 0 0 0 0 (-1) 0 0 1 0)), ((a 0), .inl (D.1 13, 1600, .inl f_44)), ((a 9), .inl (D.1 13, 6, .inl (fun _ => 0)))] := hD
      refine lv_aload_n hx hb dX12_feed_108 rfl (lv_at hl 2 rfl) ?_
      refine lv_dup hx hb dX12_feed_109 rfl ?_
      refine va_get (D := D) (ci := 12) (v := .int (nI (i_3))) (C := RX12) (T := TX12) (N := 116) hx hb ht inX12 hown hK hP 0 rfl rfl 1 (by decide) (ht (.fieldLink RX12 263 "CloneVolumesModel" "taped" "I") fl_X12_263) (fun _ h9 => h9) rfl dX12_feed_110 ?_
      refine lv_iconst (v := 1) hx hb dX12_feed_113 (by decide) ?_
      refine lv_iadd hx hb dX12_feed_114 ?_
      refine z_topi (y := nI (i_3 + 1)) (nI_add _ _) ?_
      refine va_put (D := D) (ci := 12) (v := .int (nI (i_3 + 1))) (ty := .int) (C := RX12) (T := TX12) (N := 116) hx hb ht inX12 tyX12 tyX12_ok nmX12 hown hK hP hD hS 0 rfl rfl 1 (by decide) (ht (.fieldLink RX12 263 "CloneVolumesModel" "taped" "I") fl_X12_263) (fun _ h9 => h9) rfl (by decide +kernel) rfl rfl (Nat.le_of_ble_eq_true rfl) dX12_feed_115 (fun H locs hP hD hS => ?_)
      have hP : va_P D vwCl [((a 200), .inr (12, mO a (nI (i_3 + 1)) 0 0 0 0 0 0 (-1) 0 0 1 0)), ((a 0), .inl (D.1 13, 1600, .inl f_44)), ((a 9), .inl (D.1 13, 6, .inl (fun _ => 0)))] H := hP
      have hD : va_D A [((a 200), .inr (12, mO a (nI (i_3 + 1)) 0 0 0 0 0 0 (-1) 0 0 1 0)), ((a 0), .inl (D.1 13, 1600, .inl f_44)), ((a 9), .inl (D.1 13, 6, .inl (fun _ => 0)))] := hD
      refine lv_iinc (v := nI (i_3 + 1)) (lv' := [(6, .int (nI (i_3 + 1))), (7, .int p0), (0, .ref (a 200)), (1, .int p0), (2, .int p1), (3, .int p2), (4, .int p3), (5, .int p4)]) hx hb dX12_feed_118 hl (k := 1) rfl (z_inc _) (by decide) rfl (fun ls hl => ?_)
      refine lv_goto (tgt := 28) hx hb dX12_feed_121 (by decide) ?_
      exact ih_28 f_44 _ _ _ (by omega) ⟨hP.sub [0, 1, 2] rfl, hD.sub [0, 1, 2] (by decide) rfl, hS, lv_sub hl [0, 2, 3, 4, 5, 6, 7] rfl⟩
set_option maxHeartbeats 4000000 in
set_option maxRecDepth 100000 in
theorem k_X12_tellsByte (l : Launch) (D : va_G) (sz : Nat) (a : Nat → Nat) (k : Nat) (h_1 : k < 1300) (f : Nat → Int32) (p0 : Int32) : Met l yX12_tellsByte (wz yX12_tellsByte cX12_tellsByte 2 none) { frames := 0, cells := 0, slots := 0, locals := 0 } (va_Pc [.ref (a 200), .int p0] (zW D sz [((a 200), .inr (12, mO a 0 0 0 0 0 0 0 (-1) 0 0 1 (nI k))), ((a 111), .inl (D.1 13, 1364, .inl f))])) (va_Qv (fun (_ : (Nat → Int32)) => True) (fun u t => zB D (va_A [((a 200), .inr (12, mO a 0 0 0 0 0 0 0 (-1) 0 0 1 (nI k))), ((a 111), .inl (D.1 13, 1364, .inl f))] sz) ((fun (u : (Nat → Int32)) => [((a 200), .inr (12, mO a 0 0 0 0 0 0 0 (-1) 0 0 1 (nI (k + 1)))), ((a 111), .inl (D.1 13, 1364, .inl u))]) u) t) (va_A [((a 200), .inr (12, mO a 0 0 0 0 0 0 0 (-1) 0 0 1 (nI k))), ((a 111), .inl (D.1 13, 1364, .inl f))] sz)) 0 0 (va_A [((a 200), .inr (12, mO a 0 0 0 0 0 0 0 (-1) 0 0 1 (nI k))), ((a 111), .inl (D.1 13, 1364, .inl f))] sz) := by
  refine Met.ofW (cc := cX12_tellsByte) (maxL := 2) (ret := none) (by decide) rfl ?_
  intro p e s m args below meth c s₁ B hml hv
  obtain ⟨rfl, hsz, hP, hK, hD0⟩ := hv
  have hx := B.exec
  have hb := B.bytes
  have hr := B.returns
  have hts := atoms_spec (ws := wz yX12_tellsByte cX12_tellsByte 2 none) B.pre
  have ht : ∀ w ∈ lw_gd, w.before _ s = true := fun w h => hts w (List.mem_cons_of_mem _ h)
  have hown : s.vm.findClass RX12 = some m.cls := findClass_of_methodNamed B.named
  have hlocks := B.notSynchronized
  subst hsz
  have hD := hD0.self (sz := s.heap.size)
  generalize hAe : va_A [((a 200), .inr (12, mO a 0 0 0 0 0 0 0 (-1) 0 0 1 (nI k))), ((a 111), .inl (D.1 13, 1364, .inl f))] s.heap.size = A at hD ⊢
  have hA : ∀ q : Nat, s.heap.size ≤ q → A q := fun q h => by rw [← hAe]; exact Or.inr h
  have hS : va_S A s.heap s.heap [] := va_S.rf
  have hl := lv_entry ([.ref (a 200), .int p0]) (n := 2) (Nat.le_of_ble_eq_true rfl)
  rw [lg_entry_eq]
  generalize (lg_sl ([.ref (a 200), .int p0]) ++ List.replicate (2 - (lg_sl ([.ref (a 200), .int p0])).length) Slot.unset).toArray = ls at hl ⊢
  have hl : lv_has ls 2 [(0, .ref (a 200)), (1, .int p0)] := hl
  refine lv_aload_n hx hb dX12_tellsByte_0 rfl (lv_at hl 0 rfl) ?_
  refine va_get (D := D) (ci := 12) (v := .ref (a 111)) (C := RX12) (T := TX12) (N := 116) hx hb ht inX12 hown hK hP 0 rfl rfl 111 (by decide) (ht (.fieldLink RX12 252 "CloneVolumesModel" "octet" "[I") fl_X12_252) (fun _ h9 => h9) rfl dX12_tellsByte_1 ?_
  refine lv_aload_n hx hb dX12_tellsByte_4 rfl (lv_at hl 0 rfl) ?_
  refine va_get (D := D) (ci := 12) (v := .int (nI k)) (C := RX12) (T := TX12) (N := 116) hx hb ht inX12 hown hK hP 0 rfl rfl 112 (by decide) (ht (.fieldLink RX12 783 "CloneVolumesModel" "octets" "I") fl_X12_783) (fun _ h9 => h9) rfl dX12_tellsByte_5 ?_
  refine lv_iload_n hx hb dX12_tellsByte_8 rfl (lv_at hl 1 rfl) ?_
  refine va_iast hx hb hK hP hD hS 1 0 rfl rfl (vp_in_nI (by omega) (by omega)) dX12_tellsByte_9 (fun H locs hP hD hS => ?_)
  generalize hf_1 : upd _ _ _ = f_1 at hP hD
  have hP : va_P D vwCl [((a 200), .inr (12, mO a 0 0 0 0 0 0 0 (-1) 0 0 1 (nI k))), ((a 111), .inl (D.1 13, 1364, .inl f_1))] H := hP
  have hD : va_D A [((a 200), .inr (12, mO a 0 0 0 0 0 0 0 (-1) 0 0 1 (nI k))), ((a 111), .inl (D.1 13, 1364, .inl f_1))] := hD
  refine lv_aload_n hx hb dX12_tellsByte_10 rfl (lv_at hl 0 rfl) ?_
  refine lv_dup hx hb dX12_tellsByte_11 rfl ?_
  refine va_get (D := D) (ci := 12) (v := .int (nI k)) (C := RX12) (T := TX12) (N := 116) hx hb ht inX12 hown hK hP 0 rfl rfl 112 (by decide) (ht (.fieldLink RX12 783 "CloneVolumesModel" "octets" "I") fl_X12_783) (fun _ h9 => h9) rfl dX12_tellsByte_12 ?_
  refine lv_iconst (v := 1) hx hb dX12_tellsByte_15 (by decide) ?_
  refine lv_iadd hx hb dX12_tellsByte_16 ?_
  refine z_topi (y := nI (k + 1)) (nI_add _ _) ?_
  refine va_put (D := D) (ci := 12) (v := .int (nI (k + 1))) (ty := .int) (C := RX12) (T := TX12) (N := 116) hx hb ht inX12 tyX12 tyX12_ok nmX12 hown hK hP hD hS 0 rfl rfl 112 (by decide) (ht (.fieldLink RX12 783 "CloneVolumesModel" "octets" "I") fl_X12_783) (fun _ h9 => h9) rfl (by decide +kernel) rfl rfl (Nat.le_of_ble_eq_true rfl) dX12_tellsByte_17 (fun H locs hP hD hS => ?_)
  have hP : va_P D vwCl [((a 200), .inr (12, mO a 0 0 0 0 0 0 0 (-1) 0 0 1 (nI (k + 1)))), ((a 111), .inl (D.1 13, 1364, .inl f_1))] H := hP
  have hD : va_D A [((a 200), .inr (12, mO a 0 0 0 0 0 0 0 (-1) 0 0 1 (nI (k + 1)))), ((a 111), .inl (D.1 13, 1364, .inl f_1))] := hD
  have hP9 := hP.sub (ws' := [((a 200), .inr (12, mO a 0 0 0 0 0 0 0 (-1) 0 0 1 (nI (k + 1)))), ((a 111), .inl (D.1 13, 1364, .inl f_1))]) [0, 1] rfl
  have hD9 := hD.sub (ws' := [((a 200), .inr (12, mO a 0 0 0 0 0 0 0 (-1) 0 0 1 (nI (k + 1)))), ((a 111), .inl (D.1 13, 1364, .inl f_1))]) [0, 1] (by decide) rfl
  refine W.widen (k := 0) (n := 0) (Nat.le_of_ble_eq_true rfl) (Nat.le_of_ble_eq_true rfl) ?_
  exact W.vret hx hb hr (fun t ht hW => ⟨⟨f_1, rfl, trivial, by rw [ht]; exact hP9, va_K.moved hW.alike hK, hD9⟩, hS.F ht⟩) hS.2.2 dX12_tellsByte_20
set_option maxHeartbeats 4000000 in
set_option maxRecDepth 100000 in
theorem k_X12_tellsTwo (l : Launch) (D : va_G) (sz : Nat) (a : Nat → Nat) (k : Nat) (h_1 : k < 1200) (f : Nat → Int32) (p0 : Int32) : Met l yX12_tellsTwo (wz yX12_tellsTwo cX12_tellsTwo 2 none) { frames := 1, cells := 0, slots := 0, locals := 60 } (va_Pc [.ref (a 200), .int p0] (zW D sz [((a 200), .inr (12, mO a 0 0 0 0 0 0 0 (-1) 0 0 1 (nI k))), ((a 111), .inl (D.1 13, 1364, .inl f))])) (va_Qv (fun (_ : (Nat → Int32)) => True) (fun u t => zB D (va_A [((a 200), .inr (12, mO a 0 0 0 0 0 0 0 (-1) 0 0 1 (nI k))), ((a 111), .inl (D.1 13, 1364, .inl f))] sz) ((fun (u : (Nat → Int32)) => [((a 200), .inr (12, mO a 0 0 0 0 0 0 0 (-1) 0 0 1 (nI ((k + 1) + 1)))), ((a 111), .inl (D.1 13, 1364, .inl u))]) u) t) (va_A [((a 200), .inr (12, mO a 0 0 0 0 0 0 0 (-1) 0 0 1 (nI k))), ((a 111), .inl (D.1 13, 1364, .inl f))] sz)) 0 0 (va_A [((a 200), .inr (12, mO a 0 0 0 0 0 0 0 (-1) 0 0 1 (nI k))), ((a 111), .inl (D.1 13, 1364, .inl f))] sz) := by
  refine Met.ofW (cc := cX12_tellsTwo) (maxL := 2) (ret := none) (by decide) rfl ?_
  intro p e s m args below meth c s₁ B hml hv
  obtain ⟨rfl, hsz, hP, hK, hD0⟩ := hv
  have hx := B.exec
  have hb := B.bytes
  have hr := B.returns
  have hts := atoms_spec (ws := wz yX12_tellsTwo cX12_tellsTwo 2 none) B.pre
  have ht : ∀ w ∈ lw_gd, w.before _ s = true := fun w h => hts w (List.mem_cons_of_mem _ h)
  have hown : s.vm.findClass RX12 = some m.cls := findClass_of_methodNamed B.named
  have hlocks := B.notSynchronized
  subst hsz
  have hD := hD0.self (sz := s.heap.size)
  generalize hAe : va_A [((a 200), .inr (12, mO a 0 0 0 0 0 0 0 (-1) 0 0 1 (nI k))), ((a 111), .inl (D.1 13, 1364, .inl f))] s.heap.size = A at hD ⊢
  have hA : ∀ q : Nat, s.heap.size ≤ q → A q := fun q h => by rw [← hAe]; exact Or.inr h
  have hS : va_S A s.heap s.heap [] := va_S.rf
  have hl := lv_entry ([.ref (a 200), .int p0]) (n := 2) (Nat.le_of_ble_eq_true rfl)
  rw [lg_entry_eq]
  generalize (lg_sl ([.ref (a 200), .int p0]) ++ List.replicate (2 - (lg_sl ([.ref (a 200), .int p0])).length) Slot.unset).toArray = ls at hl ⊢
  have hl : lv_has ls 2 [(0, .ref (a 200)), (1, .int p0)] := hl
  refine lv_aload_n hx hb dX12_tellsTwo_0 rfl (lv_at hl 0 rfl) ?_
  refine lv_iload_n hx hb dX12_tellsTwo_1 rfl (lv_at hl 1 rfl) ?_
  refine lv_sipush (v := 256) hx hb dX12_tellsTwo_2 (by decide) ?_
  refine lv_idiv hx hb dX12_tellsTwo_5 (by decide) ?_
  refine lv_topi (fun x_1 ex_1 => ?_)
  refine zwVv (As := [.int x_1]) (rest := []) (C := RX12) (n := 1) (wr := []) ⟨hx, hb, hml, hown, ht⟩ (k_X12_tellsByte l D _ a k (by first | decide | omega) f x_1) (zgV ml_X12_786 im_X12_tellsByte se_X12_tellsByte in_X12 co_X12_tellsByte) rfl rfl (by decide +kernel) ⟨Nat.le_of_ble_eq_true rfl, Nat.le_of_ble_eq_true rfl⟩ hK hP hD hS hA [0, 1] [] rfl rfl rfl rfl (by decide) 0 rfl rfl rfl rfl hl.1 rfl (Nat.le_of_ble_eq_true rfl) dX12_tellsTwo_6 ⟨Nat.le_of_ble_eq_true rfl, Nat.le_of_ble_eq_true rfl⟩ (fun u_2 H locs hw hP hD hS => ?_)
  have hP : va_P D vwCl [((a 200), .inr (12, mO a 0 0 0 0 0 0 0 (-1) 0 0 1 (nI (k + 1)))), ((a 111), .inl (D.1 13, 1364, .inl u_2))] H := hP
  have hD : va_D A [((a 200), .inr (12, mO a 0 0 0 0 0 0 0 (-1) 0 0 1 (nI (k + 1)))), ((a 111), .inl (D.1 13, 1364, .inl u_2))] := hD
  refine lv_aload_n hx hb dX12_tellsTwo_9 rfl (lv_at hl 0 rfl) ?_
  refine lv_iload_n hx hb dX12_tellsTwo_10 rfl (lv_at hl 1 rfl) ?_
  refine lv_sipush (v := 256) hx hb dX12_tellsTwo_11 (by decide) ?_
  refine lv_irem hx hb dX12_tellsTwo_14 (by decide) ?_
  refine lv_topi (fun x_4 ex_4 => ?_)
  refine zwVv (As := [.int x_4]) (rest := []) (C := RX12) (n := 1) (wr := []) ⟨hx, hb, hml, hown, ht⟩ (k_X12_tellsByte l D _ a (k + 1) (by first | decide | omega) u_2 x_4) (zgV ml_X12_786 im_X12_tellsByte se_X12_tellsByte in_X12 co_X12_tellsByte) rfl rfl (by decide +kernel) ⟨Nat.le_of_ble_eq_true rfl, Nat.le_of_ble_eq_true rfl⟩ hK hP hD hS hA [0, 1] [] rfl rfl rfl rfl (by decide) 0 rfl rfl rfl rfl hl.1 rfl (Nat.le_of_ble_eq_true rfl) dX12_tellsTwo_15 ⟨Nat.le_of_ble_eq_true rfl, Nat.le_of_ble_eq_true rfl⟩ (fun u_5 H locs hw hP hD hS => ?_)
  have hP : va_P D vwCl [((a 200), .inr (12, mO a 0 0 0 0 0 0 0 (-1) 0 0 1 (nI ((k + 1) + 1)))), ((a 111), .inl (D.1 13, 1364, .inl u_5))] H := hP
  have hD : va_D A [((a 200), .inr (12, mO a 0 0 0 0 0 0 0 (-1) 0 0 1 (nI ((k + 1) + 1)))), ((a 111), .inl (D.1 13, 1364, .inl u_5))] := hD
  have hP9 := hP.sub (ws' := [((a 200), .inr (12, mO a 0 0 0 0 0 0 0 (-1) 0 0 1 (nI ((k + 1) + 1)))), ((a 111), .inl (D.1 13, 1364, .inl u_5))]) [0, 1] rfl
  have hD9 := hD.sub (ws' := [((a 200), .inr (12, mO a 0 0 0 0 0 0 0 (-1) 0 0 1 (nI ((k + 1) + 1)))), ((a 111), .inl (D.1 13, 1364, .inl u_5))]) [0, 1] (by decide) rfl
  refine W.widen (k := 0) (n := 0) (Nat.le_of_ble_eq_true rfl) (Nat.le_of_ble_eq_true rfl) ?_
  exact W.vret hx hb hr (fun t ht hW => ⟨⟨u_5, rfl, trivial, by rw [ht]; exact hP9, va_K.moved hW.alike hK, hD9⟩, hS.F ht⟩) hS.2.2 dX12_tellsTwo_18
set_option maxHeartbeats 4000000 in
set_option maxRecDepth 100000 in
theorem k_X12_checked (l : Launch) (D : va_G) (a : Nat → Nat) (f : Nat → Int32) : Met l yX12_checked (wz yX12_checked cX12_checked 4 (some .int)) { frames := 0, cells := 0, slots := 0, locals := 0 } (va_Pc [.ref (a 111), .int 19] (zP D [((a 111), .inl (D.1 13, 1364, .inl f))])) (va_Qi (fun r (_ : Unit) => True) (fun _ _ => True) (fun _ => False)) 0 0 (fun _ => False) := by
  refine Met.ofW (cc := cX12_checked) (maxL := 4) (ret := (some .int)) (by decide) rfl ?_
  intro p e s m args below meth c s₁ B hml hv
  obtain ⟨rfl, hP, hK⟩ := hv
  have hx := B.exec
  have hb := B.bytes
  have hr := B.returns
  have hts := atoms_spec (ws := wz yX12_checked cX12_checked 4 (some .int)) B.pre
  have ht : ∀ w ∈ lw_gd, w.before _ s = true := fun w h => hts w (List.mem_cons_of_mem _ h)
  have hown : s.vm.findClass RX12 = some m.cls := findClass_of_methodNamed B.named
  have hlocks := B.notSynchronized
  have hS : va_S (fun _ => False) s.heap s.heap [] := va_S.rf
  have hl := lv_entry ([.ref (a 111), .int 19]) (n := 4) (Nat.le_of_ble_eq_true rfl)
  rw [lg_entry_eq]
  generalize (lg_sl ([.ref (a 111), .int 19]) ++ List.replicate (4 - (lg_sl ([.ref (a 111), .int 19])).length) Slot.unset).toArray = ls at hl ⊢
  have hl : lv_has ls 4 [(0, .ref (a 111)), (1, .int 19)] := hl
  refine lv_sipush (v := 157) hx hb dX12_checked_0 (by decide) ?_
  refine lv_istore_n (lv' := [(2, .int 157), (0, .ref (a 111)), (1, .int 19)]) hx hb dX12_checked_3 rfl hl (by decide) rfl (fun ls hl => ?_)
  refine lv_iconst (v := 0) hx hb dX12_checked_4 (by decide) ?_
  refine lv_istore_n (lv' := [(3, .int 0), (2, .int 157), (0, .ref (a 111)), (1, .int 19)]) hx hb dX12_checked_5 rfl hl (by decide) rfl (fun ls hl => ?_)
  refine z_loop (σ := (Int32)) (N := 19) (fun i u H locs ls => va_P D vwCl [((a 111), .inl (D.1 13, 1364, .inl f))] H ∧ va_S (fun _ => False) s.heap H locs ∧ lv_has ls 4 [(3, .int (nI i)), (2, .int u), (0, .ref (a 111)), (1, .int 19)]) (fun i_1 x_2 H locs ls hi_i_1 hI ih_6 => ?_) 0 157 (by decide) ⟨hP, hS, lv_sub hl [0, 1, 2, 3] rfl⟩
  obtain ⟨hP, hS, hl⟩ := hI
  have hP : va_P D vwCl [((a 111), .inl (D.1 13, 1364, .inl f))] H := hP
  have hl : lv_has ls 4 [(3, .int (nI i_1)), (2, .int x_2), (0, .ref (a 111)), (1, .int 19)] := hl
  refine lv_iload_n hx hb dX12_checked_6 rfl (lv_at hl 0 rfl) ?_
  refine lv_iload_n hx hb dX12_checked_7 rfl (lv_at hl 3 rfl) ?_
  refine lv_icmp_ge (tgt := 29) hx hb dX12_checked_8 (by decide) (fun c_3 => ?_) (fun c_3 => ?_)
  · have g_4 : 19 ≤ ((i_1 : Nat) : Int) := z_le (by decide) (nI_toInt (by omega)) c_3
    obtain rfl : i_1 = 19 := by omega
    have hP : va_P D vwCl [((a 111), .inl (D.1 13, 1364, .inl f))] H := hP
    have hl : lv_has ls 4 [(3, .int 19), (2, .int x_2), (0, .ref (a 111)), (1, .int 19)] := hl
    refine lv_iload_n hx hb dX12_checked_29 rfl (lv_at hl 1 rfl) ?_
    exact W.iret (v := x_2) hx hb hr (fun t ht hW => ⟨⟨x_2, (), rfl, trivial, trivial⟩, hS.F ht⟩) hS.2.2 dX12_checked_30
  · have g_4 : ((i_1 : Nat) : Int) < 19 := z_nle (by decide) (nI_toInt (by omega)) c_3
    refine lv_iconst (v := 3) hx hb dX12_checked_11 (by decide) ?_
    refine lv_iload_n hx hb dX12_checked_12 rfl (lv_at hl 1 rfl) ?_
    refine lv_imul hx hb dX12_checked_13 ?_
    refine lv_topi (fun x_5 ex_5 => ?_)
    refine lv_aload_n hx hb dX12_checked_14 rfl (lv_at hl 2 rfl) ?_
    refine lv_iload_n hx hb dX12_checked_15 rfl (lv_at hl 0 rfl) ?_
    refine va_iald hx hb hK hP 0 0 rfl rfl (vp_in_nI (by omega) (by omega)) dX12_checked_16 ?_
    refine lv_topi (fun x_6 ex_6 => ?_)
    refine lv_iadd hx hb dX12_checked_17 ?_
    refine lv_topi (fun x_7 ex_7 => ?_)
    refine lv_sipush (v := 251) hx hb dX12_checked_18 (by decide) ?_
    refine lv_irem hx hb dX12_checked_21 (by decide) ?_
    refine lv_topi (fun x_8 ex_8 => ?_)
    refine lv_istore_n (lv' := [(2, .int x_8), (3, .int (nI i_1)), (0, .ref (a 111)), (1, .int 19)]) hx hb dX12_checked_22 rfl hl (by decide) rfl (fun ls hl => ?_)
    refine lv_iinc (v := nI (i_1 + 1)) (lv' := [(3, .int (nI (i_1 + 1))), (2, .int x_8), (0, .ref (a 111)), (1, .int 19)]) hx hb dX12_checked_23 hl (k := 1) rfl (z_inc _) (by decide) rfl (fun ls hl => ?_)
    refine lv_goto (tgt := 6) hx hb dX12_checked_26 (by decide) ?_
    exact ih_6 x_8 _ _ _ (by omega) ⟨hP.sub [0] rfl, hS, lv_sub hl [0, 1, 2, 3] rfl⟩
set_option maxHeartbeats 4000000 in
set_option maxRecDepth 100000 in
theorem k_X12_rootTold (l : Launch) (D : va_G) (a : Nat → Nat) (k : Nat) (p0 : Int32) : Met l yX12_rootTold (wz yX12_rootTold cX12_rootTold 2 (some .int)) { frames := 0, cells := 0, slots := 0, locals := 0 } (va_Pc [.ref (a 200), .int p0] (zP D [((a 200), .inr (12, mO a 0 0 0 0 0 0 0 (-1) 0 0 1 (nI k)))])) (va_Qi (fun r (_ : Unit) => r = 255) (fun _ _ => True) (fun _ => False)) 0 0 (fun _ => False) := by
  refine Met.ofW (cc := cX12_rootTold) (maxL := 2) (ret := (some .int)) (by decide) rfl ?_
  intro p e s m args below meth c s₁ B hml hv
  obtain ⟨rfl, hP, hK⟩ := hv
  have hx := B.exec
  have hb := B.bytes
  have hr := B.returns
  have hts := atoms_spec (ws := wz yX12_rootTold cX12_rootTold 2 (some .int)) B.pre
  have ht : ∀ w ∈ lw_gd, w.before _ s = true := fun w h => hts w (List.mem_cons_of_mem _ h)
  have hown : s.vm.findClass RX12 = some m.cls := findClass_of_methodNamed B.named
  have hlocks := B.notSynchronized
  have hS : va_S (fun _ => False) s.heap s.heap [] := va_S.rf
  have hl := lv_entry ([.ref (a 200), .int p0]) (n := 2) (Nat.le_of_ble_eq_true rfl)
  rw [lg_entry_eq]
  generalize (lg_sl ([.ref (a 200), .int p0]) ++ List.replicate (2 - (lg_sl ([.ref (a 200), .int p0])).length) Slot.unset).toArray = ls at hl ⊢
  have hl : lv_has ls 2 [(0, .ref (a 200)), (1, .int p0)] := hl
  refine lv_aload_n hx hb dX12_rootTold_0 rfl (lv_at hl 0 rfl) ?_
  refine va_get (D := D) (ci := 12) (v := .int 0) (C := RX12) (T := TX12) (N := 116) hx hb ht inX12 hown hK hP 0 rfl rfl 47 (by decide) (ht (.fieldLink RX12 406 "CloneVolumesModel" "isTold" "Z") fl_X12_406) (fun _ h9 => h9) rfl dX12_rootTold_1 ?_
  refine lv_if_eq (tgt := 16) hx hb dX12_rootTold_4 (by decide) (fun _ => ?_) (fun c_1 => (z_abs c_1 (by decide)).elim)
  refine lv_sipush (v := 255) hx hb dX12_rootTold_16 (by decide) ?_
  exact W.iret (v := 255) hx hb hr (fun t ht hW => ⟨⟨255, (), rfl, rfl, trivial⟩, hS.F ht⟩) hS.2.2 dX12_rootTold_19
set_option maxHeartbeats 4000000 in
set_option maxRecDepth 100000 in
theorem k_X12_blockMany2 (l : Launch) (D : va_G) (a : Nat → Nat) (k : Nat) : Met l yX12_blockMany (wz yX12_blockMany cX12_blockMany 1 (some .int)) { frames := 0, cells := 0, slots := 0, locals := 0 } (va_Pc [.ref (a 200)] (zP D [((a 200), .inr (12, mO a 0 0 0 0 0 0 0 (-1) 0 0 1 (nI k))), ((a 39), .inl (D.1 13, 10, .inl (fun _ => 0)))])) (va_Qi (fun r (_ : Unit) => r = 0) (fun _ _ => True) (fun _ => False)) 0 0 (fun _ => False) := by
  refine Met.ofW (cc := cX12_blockMany) (maxL := 1) (ret := (some .int)) (by decide) rfl ?_
  intro p e s m args below meth c s₁ B hml hv
  obtain ⟨rfl, hP, hK⟩ := hv
  have hx := B.exec
  have hb := B.bytes
  have hr := B.returns
  have hts := atoms_spec (ws := wz yX12_blockMany cX12_blockMany 1 (some .int)) B.pre
  have ht : ∀ w ∈ lw_gd, w.before _ s = true := fun w h => hts w (List.mem_cons_of_mem _ h)
  have hown : s.vm.findClass RX12 = some m.cls := findClass_of_methodNamed B.named
  have hlocks := B.notSynchronized
  have hS : va_S (fun _ => False) s.heap s.heap [] := va_S.rf
  have hl := lv_entry ([.ref (a 200)]) (n := 1) (Nat.le_of_ble_eq_true rfl)
  rw [lg_entry_eq]
  generalize (lg_sl ([.ref (a 200)]) ++ List.replicate (1 - (lg_sl ([.ref (a 200)])).length) Slot.unset).toArray = ls at hl ⊢
  have hl : lv_has ls 1 [(0, .ref (a 200))] := hl
  refine lv_aload_n hx hb dX12_blockMany_0 rfl (lv_at hl 0 rfl) ?_
  refine va_get (D := D) (ci := 12) (v := .ref (a 39)) (C := RX12) (T := TX12) (N := 116) hx hb ht inX12 hown hK hP 0 rfl rfl 39 (by decide) (ht (.fieldLink RX12 102 "CloneVolumesModel" "many" "[I") fl_X12_102) (fun _ h9 => h9) rfl dX12_blockMany_1 ?_
  refine lv_iconst (v := 5) hx hb dX12_blockMany_4 (by decide) ?_
  refine va_iald hx hb hK hP 1 0 rfl rfl (z_in (by decide) (by decide)) dX12_blockMany_5 ?_
  refine z_topi (y := 0) (by decide) ?_
  exact W.iret (v := 0) hx hb hr (fun t ht hW => ⟨⟨0, (), rfl, rfl, trivial⟩, hS.F ht⟩) hS.2.2 dX12_blockMany_6
set_option maxHeartbeats 4000000 in
set_option maxRecDepth 100000 in
theorem k_X12_image (l : Launch) (D : va_G) (sz : Nat) (a : Nat → Nat)  : Met l yX12_image (wz yX12_image cX12_image 2 (some .int)) { frames := 2, cells := 0, slots := 0, locals := 120 } (va_Pc [.ref (a 200)] (zW D sz [((a 200), .inr (12, mO a 0 0 0 0 0 0 0 (-1) 0 0 1 0)), ((a 49), .inl (D.1 13, 906, .inl (fun _ => 0))), ((a 111), .inl (D.1 13, 1364, .inl (fun _ => 0))), ((a 39), .inl (D.1 13, 10, .inl (fun _ => 0)))])) (va_Qi (fun r (_ : Unit) => r = 20) (fun u t => zB D (va_A [((a 200), .inr (12, mO a 0 0 0 0 0 0 0 (-1) 0 0 1 0)), ((a 49), .inl (D.1 13, 906, .inl (fun _ => 0))), ((a 111), .inl (D.1 13, 1364, .inl (fun _ => 0))), ((a 39), .inl (D.1 13, 10, .inl (fun _ => 0)))] sz) ((fun (_ : Unit) => []) u) t) (va_A [((a 200), .inr (12, mO a 0 0 0 0 0 0 0 (-1) 0 0 1 0)), ((a 49), .inl (D.1 13, 906, .inl (fun _ => 0))), ((a 111), .inl (D.1 13, 1364, .inl (fun _ => 0))), ((a 39), .inl (D.1 13, 10, .inl (fun _ => 0)))] sz)) 0 0 (va_A [((a 200), .inr (12, mO a 0 0 0 0 0 0 0 (-1) 0 0 1 0)), ((a 49), .inl (D.1 13, 906, .inl (fun _ => 0))), ((a 111), .inl (D.1 13, 1364, .inl (fun _ => 0))), ((a 39), .inl (D.1 13, 10, .inl (fun _ => 0)))] sz) := by
  refine Met.ofW (cc := cX12_image) (maxL := 2) (ret := (some .int)) (by decide) rfl ?_
  intro p e s m args below meth c s₁ B hml hv
  obtain ⟨rfl, hsz, hP, hK, hD0⟩ := hv
  have hx := B.exec
  have hb := B.bytes
  have hr := B.returns
  have hts := atoms_spec (ws := wz yX12_image cX12_image 2 (some .int)) B.pre
  have ht : ∀ w ∈ lw_gd, w.before _ s = true := fun w h => hts w (List.mem_cons_of_mem _ h)
  have hown : s.vm.findClass RX12 = some m.cls := findClass_of_methodNamed B.named
  have hlocks := B.notSynchronized
  subst hsz
  have hD := hD0.self (sz := s.heap.size)
  generalize hAe : va_A [((a 200), .inr (12, mO a 0 0 0 0 0 0 0 (-1) 0 0 1 0)), ((a 49), .inl (D.1 13, 906, .inl (fun _ => 0))), ((a 111), .inl (D.1 13, 1364, .inl (fun _ => 0))), ((a 39), .inl (D.1 13, 10, .inl (fun _ => 0)))] s.heap.size = A at hD ⊢
  have hA : ∀ q : Nat, s.heap.size ≤ q → A q := fun q h => by rw [← hAe]; exact Or.inr h
  have hS : va_S A s.heap s.heap [] := va_S.rf
  have hl := lv_entry ([.ref (a 200)]) (n := 2) (Nat.le_of_ble_eq_true rfl)
  rw [lg_entry_eq]
  generalize (lg_sl ([.ref (a 200)]) ++ List.replicate (2 - (lg_sl ([.ref (a 200)])).length) Slot.unset).toArray = ls at hl ⊢
  have hl : lv_has ls 2 [(0, .ref (a 200))] := hl
  refine lv_aload_n hx hb dX12_image_0 rfl (lv_at hl 0 rfl) ?_
  refine lv_iconst (v := 0) hx hb dX12_image_1 (by decide) ?_
  refine va_put (D := D) (ci := 12) (v := .int 0) (ty := .int) (C := RX12) (T := TX12) (N := 116) hx hb ht inX12 tyX12 tyX12_ok nmX12 hown hK hP hD hS 0 rfl rfl 112 (by decide) (ht (.fieldLink RX12 783 "CloneVolumesModel" "octets" "I") fl_X12_783) (fun _ h9 => h9) rfl (by decide +kernel) rfl rfl (Nat.le_of_ble_eq_true rfl) dX12_image_2 (fun H locs hP hD hS => ?_)
  have hP : va_P D vwCl [((a 200), .inr (12, mO a 0 0 0 0 0 0 0 (-1) 0 0 1 0)), ((a 49), .inl (D.1 13, 906, .inl (fun _ => 0))), ((a 111), .inl (D.1 13, 1364, .inl (fun _ => 0))), ((a 39), .inl (D.1 13, 10, .inl (fun _ => 0)))] H := hP
  have hD : va_D A [((a 200), .inr (12, mO a 0 0 0 0 0 0 0 (-1) 0 0 1 0)), ((a 49), .inl (D.1 13, 906, .inl (fun _ => 0))), ((a 111), .inl (D.1 13, 1364, .inl (fun _ => 0))), ((a 39), .inl (D.1 13, 10, .inl (fun _ => 0)))] := hD
  refine lv_aload_n hx hb dX12_image_5 rfl (lv_at hl 0 rfl) ?_
  refine lv_aload_n hx hb dX12_image_6 rfl (lv_at hl 0 rfl) ?_
  refine va_get (D := D) (ci := 12) (v := .ref (a 49)) (C := RX12) (T := TX12) (N := 116) hx hb ht inX12 hown hK hP 0 rfl rfl 49 (by decide) (ht (.fieldLink RX12 121 "CloneVolumesModel" "now" "[I") fl_X12_121) (fun _ h9 => h9) rfl dX12_image_7 ?_
  refine lv_bipush (v := 16) hx hb dX12_image_10 (by decide) ?_
  refine va_iald hx hb hK hP 1 0 rfl rfl (z_in (by decide) (by decide)) dX12_image_12 ?_
  refine z_topi (y := 0) (by decide) ?_
  refine lv_ldcw (own := RX12) (v := 65536) hx hb hown (ht _ ck_X12_792) dX12_image_13 ?_
  refine lv_idiv hx hb dX12_image_16 (by decide) ?_
  refine z_topi (y := 0) (by decide) ?_
  refine zwVv (As := [.int 0]) (rest := []) (C := RX12) (n := 1) (wr := [((a 49), .inl (D.1 13, 906, .inl (fun _ => 0))), ((a 39), .inl (D.1 13, 10, .inl (fun _ => 0)))]) ⟨hx, hb, hml, hown, ht⟩ (k_X12_tellsByte l D _ a 0 (by first | decide | omega) (fun _ => 0) 0) (zgV ml_X12_786 im_X12_tellsByte se_X12_tellsByte in_X12 co_X12_tellsByte) rfl rfl (by decide +kernel) ⟨Nat.le_of_ble_eq_true rfl, Nat.le_of_ble_eq_true rfl⟩ hK hP hD hS hA [0, 2] [1, 3] rfl rfl rfl rfl (by decide) 0 rfl rfl rfl rfl hl.1 rfl (Nat.le_of_ble_eq_true rfl) dX12_image_17 ⟨Nat.le_of_ble_eq_true rfl, Nat.le_of_ble_eq_true rfl⟩ (fun u_1 H locs hw hP hD hS => ?_)
  have hP : va_P D vwCl [((a 49), .inl (D.1 13, 906, .inl (fun _ => 0))), ((a 39), .inl (D.1 13, 10, .inl (fun _ => 0))), ((a 200), .inr (12, mO a 0 0 0 0 0 0 0 (-1) 0 0 1 1)), ((a 111), .inl (D.1 13, 1364, .inl u_1))] H := hP
  have hD : va_D A [((a 49), .inl (D.1 13, 906, .inl (fun _ => 0))), ((a 39), .inl (D.1 13, 10, .inl (fun _ => 0))), ((a 200), .inr (12, mO a 0 0 0 0 0 0 0 (-1) 0 0 1 1)), ((a 111), .inl (D.1 13, 1364, .inl u_1))] := hD
  refine lv_aload_n hx hb dX12_image_20 rfl (lv_at hl 0 rfl) ?_
  refine lv_aload_n hx hb dX12_image_21 rfl (lv_at hl 0 rfl) ?_
  refine va_get (D := D) (ci := 12) (v := .ref (a 49)) (C := RX12) (T := TX12) (N := 116) hx hb ht inX12 hown hK hP 2 rfl rfl 49 (by decide) (ht (.fieldLink RX12 121 "CloneVolumesModel" "now" "[I") fl_X12_121) (fun _ h9 => h9) rfl dX12_image_22 ?_
  refine lv_bipush (v := 16) hx hb dX12_image_25 (by decide) ?_
  refine va_iald hx hb hK hP 0 0 rfl rfl (z_in (by decide) (by decide)) dX12_image_27 ?_
  refine z_topi (y := 0) (by decide) ?_
  refine lv_ldcw (own := RX12) (v := 65536) hx hb hown (ht _ ck_X12_792) dX12_image_28 ?_
  refine lv_irem hx hb dX12_image_31 (by decide) ?_
  refine z_topi (y := 0) (by decide) ?_
  refine zwVv (As := [.int 0]) (rest := []) (C := RX12) (n := 1) (wr := [((a 49), .inl (D.1 13, 906, .inl (fun _ => 0))), ((a 39), .inl (D.1 13, 10, .inl (fun _ => 0)))]) ⟨hx, hb, hml, hown, ht⟩ (k_X12_tellsTwo l D _ a 1 (by first | decide | omega) u_1 0) (zgV ml_X12_789 im_X12_tellsTwo se_X12_tellsTwo in_X12 co_X12_tellsTwo) rfl rfl (by decide +kernel) ⟨Nat.le_of_ble_eq_true rfl, Nat.le_of_ble_eq_true rfl⟩ hK hP hD hS hA [2, 3] [0, 1] rfl rfl rfl rfl (by decide) 0 rfl rfl rfl rfl hl.1 rfl (Nat.le_of_ble_eq_true rfl) dX12_image_32 ⟨Nat.le_of_ble_eq_true rfl, Nat.le_of_ble_eq_true rfl⟩ (fun u_3 H locs hw hP hD hS => ?_)
  have hP : va_P D vwCl [((a 49), .inl (D.1 13, 906, .inl (fun _ => 0))), ((a 39), .inl (D.1 13, 10, .inl (fun _ => 0))), ((a 200), .inr (12, mO a 0 0 0 0 0 0 0 (-1) 0 0 1 3)), ((a 111), .inl (D.1 13, 1364, .inl u_3))] H := hP
  have hD : va_D A [((a 49), .inl (D.1 13, 906, .inl (fun _ => 0))), ((a 39), .inl (D.1 13, 10, .inl (fun _ => 0))), ((a 200), .inr (12, mO a 0 0 0 0 0 0 0 (-1) 0 0 1 3)), ((a 111), .inl (D.1 13, 1364, .inl u_3))] := hD
  refine lv_iconst (v := 0) hx hb dX12_image_35 (by decide) ?_
  refine lv_istore_n (lv' := [(1, .int 0), (0, .ref (a 200))]) hx hb dX12_image_36 rfl hl (by decide) rfl (fun ls hl => ?_)
  refine z_loop (σ := (Nat → Int32)) (N := 8) (fun i u H locs ls => va_P D vwCl [((a 49), .inl (D.1 13, 906, .inl (fun _ => 0))), ((a 39), .inl (D.1 13, 10, .inl (fun _ => 0))), ((a 200), .inr (12, mO a 0 0 0 0 0 0 0 (-1) 0 0 1 (nI (3 + 2 * i)))), ((a 111), .inl (D.1 13, 1364, .inl u))] H ∧ va_D A [((a 49), .inl (D.1 13, 906, .inl (fun _ => 0))), ((a 39), .inl (D.1 13, 10, .inl (fun _ => 0))), ((a 200), .inr (12, mO a 0 0 0 0 0 0 0 (-1) 0 0 1 (nI (3 + 2 * i)))), ((a 111), .inl (D.1 13, 1364, .inl u))] ∧ va_S A s.heap H locs ∧ lv_has ls 2 [(1, .int (nI i)), (0, .ref (a 200))]) (fun i_5 f_6 H locs ls hi_i_5 hI ih_37 => ?_) 0 u_3 (by decide) ⟨hP, hD, hS, lv_sub hl [0, 1] rfl⟩
  obtain ⟨hP, hD, hS, hl⟩ := hI
  have hP : va_P D vwCl [((a 49), .inl (D.1 13, 906, .inl (fun _ => 0))), ((a 39), .inl (D.1 13, 10, .inl (fun _ => 0))), ((a 200), .inr (12, mO a 0 0 0 0 0 0 0 (-1) 0 0 1 (nI (3 + 2 * i_5)))), ((a 111), .inl (D.1 13, 1364, .inl f_6))] H := hP
  have hD : va_D A [((a 49), .inl (D.1 13, 906, .inl (fun _ => 0))), ((a 39), .inl (D.1 13, 10, .inl (fun _ => 0))), ((a 200), .inr (12, mO a 0 0 0 0 0 0 0 (-1) 0 0 1 (nI (3 + 2 * i_5)))), ((a 111), .inl (D.1 13, 1364, .inl f_6))] := hD
  have hl : lv_has ls 2 [(1, .int (nI i_5)), (0, .ref (a 200))] := hl
  refine lv_iload_n hx hb dX12_image_37 rfl (lv_at hl 0 rfl) ?_
  refine lv_bipush (v := 8) hx hb dX12_image_38 (by decide) ?_
  refine lv_icmp_ge (tgt := 70) hx hb dX12_image_40 (by decide) (fun c_7 => ?_) (fun c_7 => ?_)
  · have g_8 : 8 ≤ ((i_5 : Nat) : Int) := z_le (by decide) (nI_toInt (by omega)) c_7
    obtain rfl : i_5 = 8 := by omega
    have hP : va_P D vwCl [((a 49), .inl (D.1 13, 906, .inl (fun _ => 0))), ((a 39), .inl (D.1 13, 10, .inl (fun _ => 0))), ((a 200), .inr (12, mO a 0 0 0 0 0 0 0 (-1) 0 0 1 19)), ((a 111), .inl (D.1 13, 1364, .inl f_6))] H := hP
    have hD : va_D A [((a 49), .inl (D.1 13, 906, .inl (fun _ => 0))), ((a 39), .inl (D.1 13, 10, .inl (fun _ => 0))), ((a 200), .inr (12, mO a 0 0 0 0 0 0 0 (-1) 0 0 1 19)), ((a 111), .inl (D.1 13, 1364, .inl f_6))] := hD
    have hl : lv_has ls 2 [(1, .int 8), (0, .ref (a 200))] := hl
    refine lv_iconst (v := 0) hx hb dX12_image_70 (by decide) ?_
    refine lv_istore_n (lv' := [(1, .int 0), (0, .ref (a 200))]) hx hb dX12_image_71 rfl hl (by decide) rfl (fun ls hl => ?_)
    refine lv_iload_n hx hb dX12_image_72 rfl (lv_at hl 0 rfl) ?_
    refine lv_aload_n hx hb dX12_image_73 rfl (lv_at hl 1 rfl) ?_
    refine zcV (As := []) (rest := [.int 0]) (C := RX12) (n := 0) ⟨hx, hb, hml, hown, ht⟩ (k_X12_blockMany2 l D a 19) (zgV ml_X12_429 im_X12_blockMany se_X12_blockMany in_X12 co_X12_blockMany) rfl rfl (by decide +kernel) ⟨Nat.le_of_ble_eq_true rfl, Nat.le_of_ble_eq_true rfl⟩ hK hP hS [2, 1] rfl 0 rfl rfl rfl rfl hl.1 rfl (Nat.le_of_ble_eq_true rfl) dX12_image_74 ⟨Nat.le_of_ble_eq_true rfl, Nat.le_of_ble_eq_true rfl⟩ (fun r_9 H locs hw hP hS => ?_)
    subst hw
    refine lv_icmp_ge (tgt := 91) hx hb dX12_image_77 (by decide) (fun _ => ?_) (fun c_10 => (z_abs c_10 (by decide)).elim)
    refine lv_aload_n hx hb dX12_image_91 rfl (lv_at hl 1 rfl) ?_
    refine lv_aload_n hx hb dX12_image_92 rfl (lv_at hl 1 rfl) ?_
    refine va_get (D := D) (ci := 12) (v := .ref (a 111)) (C := RX12) (T := TX12) (N := 116) hx hb ht inX12 hown hK hP 2 rfl rfl 111 (by decide) (ht (.fieldLink RX12 252 "CloneVolumesModel" "octet" "[I") fl_X12_252) (fun _ h9 => h9) rfl dX12_image_93 ?_
    refine lv_aload_n hx hb dX12_image_96 rfl (lv_at hl 1 rfl) ?_
    refine va_get (D := D) (ci := 12) (v := .int 19) (C := RX12) (T := TX12) (N := 116) hx hb ht inX12 hown hK hP 2 rfl rfl 112 (by decide) (ht (.fieldLink RX12 783 "CloneVolumesModel" "octets" "I") fl_X12_783) (fun _ h9 => h9) rfl dX12_image_97 ?_
    refine zcS (As := [.ref (a 111), .int 19]) (rest := [.ref (a 200)]) (n := 2) ⟨hx, hb, hml, hown, ht⟩ (k_X12_checked l D a f_6) (zgT ml_X12_799 st_X12_checked in_X12 co_X12_checked) rfl rfl (by decide +kernel) ⟨Nat.le_of_ble_eq_true rfl, Nat.le_of_ble_eq_true rfl⟩ hK hP hS [3] rfl rfl hl.1 rfl (Nat.le_of_ble_eq_true rfl) dX12_image_100 ⟨Nat.le_of_ble_eq_true rfl, Nat.le_of_ble_eq_true rfl⟩ (fun r_12 H locs hw hP hS => ?_)
    refine zwVv (As := [.int r_12]) (rest := []) (C := RX12) (n := 1) (wr := [((a 49), .inl (D.1 13, 906, .inl (fun _ => 0))), ((a 39), .inl (D.1 13, 10, .inl (fun _ => 0)))]) ⟨hx, hb, hml, hown, ht⟩ (k_X12_tellsByte l D _ a 19 (by first | decide | omega) f_6 r_12) (zgV ml_X12_786 im_X12_tellsByte se_X12_tellsByte in_X12 co_X12_tellsByte) rfl rfl (by decide +kernel) ⟨Nat.le_of_ble_eq_true rfl, Nat.le_of_ble_eq_true rfl⟩ hK hP hD hS hA [2, 3] [0, 1] rfl rfl rfl rfl (by decide) 0 rfl rfl rfl rfl hl.1 rfl (Nat.le_of_ble_eq_true rfl) dX12_image_103 ⟨Nat.le_of_ble_eq_true rfl, Nat.le_of_ble_eq_true rfl⟩ (fun u_13 H locs hw hP hD hS => ?_)
    have hP : va_P D vwCl [((a 49), .inl (D.1 13, 906, .inl (fun _ => 0))), ((a 39), .inl (D.1 13, 10, .inl (fun _ => 0))), ((a 200), .inr (12, mO a 0 0 0 0 0 0 0 (-1) 0 0 1 20)), ((a 111), .inl (D.1 13, 1364, .inl u_13))] H := hP
    have hD : va_D A [((a 49), .inl (D.1 13, 906, .inl (fun _ => 0))), ((a 39), .inl (D.1 13, 10, .inl (fun _ => 0))), ((a 200), .inr (12, mO a 0 0 0 0 0 0 0 (-1) 0 0 1 20)), ((a 111), .inl (D.1 13, 1364, .inl u_13))] := hD
    refine lv_aload_n hx hb dX12_image_106 rfl (lv_at hl 1 rfl) ?_
    refine va_get (D := D) (ci := 12) (v := .int 20) (C := RX12) (T := TX12) (N := 116) hx hb ht inX12 hown hK hP 2 rfl rfl 112 (by decide) (ht (.fieldLink RX12 783 "CloneVolumesModel" "octets" "I") fl_X12_783) (fun _ h9 => h9) rfl dX12_image_107 ?_
    have hP9 := hP.sub (ws' := []) [] rfl
    have hD9 := hD.sub (ws' := []) [] (by decide) rfl
    refine W.widen (k := 0) (n := 0) (Nat.le_of_ble_eq_true rfl) (Nat.le_of_ble_eq_true rfl) ?_
    exact W.iret (v := 20) hx hb hr (fun t ht hW => ⟨⟨20, (), rfl, rfl, by rw [ht]; exact hP9, va_K.moved hW.alike hK, hD9⟩, hS.F ht⟩) hS.2.2 dX12_image_110
  · have g_8 : ((i_5 : Nat) : Int) < 8 := z_nle (by decide) (nI_toInt (by omega)) c_7
    refine lv_aload_n hx hb dX12_image_43 rfl (lv_at hl 1 rfl) ?_
    refine lv_aload_n hx hb dX12_image_44 rfl (lv_at hl 1 rfl) ?_
    refine lv_iload_n hx hb dX12_image_45 rfl (lv_at hl 0 rfl) ?_
    refine zcV (As := [.int (nI i_5)]) (rest := [.ref (a 200)]) (C := RX12) (n := 1) ⟨hx, hb, hml, hown, ht⟩ (k_X12_rootTold l D a (3 + 2 * i_5) (nI i_5)) (zgV ml_X12_793 im_X12_rootTold se_X12_rootTold in_X12 co_X12_rootTold) rfl rfl (by decide +kernel) ⟨Nat.le_of_ble_eq_true rfl, Nat.le_of_ble_eq_true rfl⟩ hK hP hS [2] rfl 0 rfl rfl rfl rfl hl.1 rfl (Nat.le_of_ble_eq_true rfl) dX12_image_46 ⟨Nat.le_of_ble_eq_true rfl, Nat.le_of_ble_eq_true rfl⟩ (fun r_15 H locs hw hP hS => ?_)
    subst hw
    refine zwVv (As := [.int 255]) (rest := []) (C := RX12) (n := 1) (wr := [((a 49), .inl (D.1 13, 906, .inl (fun _ => 0))), ((a 39), .inl (D.1 13, 10, .inl (fun _ => 0)))]) ⟨hx, hb, hml, hown, ht⟩ (k_X12_tellsByte l D _ a (3 + 2 * i_5) (by first | decide | omega) f_6 255) (zgV ml_X12_786 im_X12_tellsByte se_X12_tellsByte in_X12 co_X12_tellsByte) rfl rfl (by decide +kernel) ⟨Nat.le_of_ble_eq_true rfl, Nat.le_of_ble_eq_true rfl⟩ hK hP hD hS hA [2, 3] [0, 1] rfl rfl rfl rfl (by decide) 0 rfl rfl rfl rfl hl.1 rfl (Nat.le_of_ble_eq_true rfl) dX12_image_49 ⟨Nat.le_of_ble_eq_true rfl, Nat.le_of_ble_eq_true rfl⟩ (fun u_16 H locs hw hP hD hS => ?_)
    have hP : va_P D vwCl [((a 49), .inl (D.1 13, 906, .inl (fun _ => 0))), ((a 39), .inl (D.1 13, 10, .inl (fun _ => 0))), ((a 200), .inr (12, mO a 0 0 0 0 0 0 0 (-1) 0 0 1 (nI ((3 + 2 * i_5) + 1)))), ((a 111), .inl (D.1 13, 1364, .inl u_16))] H := hP
    have hD : va_D A [((a 49), .inl (D.1 13, 906, .inl (fun _ => 0))), ((a 39), .inl (D.1 13, 10, .inl (fun _ => 0))), ((a 200), .inr (12, mO a 0 0 0 0 0 0 0 (-1) 0 0 1 (nI ((3 + 2 * i_5) + 1)))), ((a 111), .inl (D.1 13, 1364, .inl u_16))] := hD
    refine lv_aload_n hx hb dX12_image_52 rfl (lv_at hl 1 rfl) ?_
    refine lv_aload_n hx hb dX12_image_53 rfl (lv_at hl 1 rfl) ?_
    refine lv_bipush (v := 8) hx hb dX12_image_54 (by decide) ?_
    refine lv_iload_n hx hb dX12_image_56 rfl (lv_at hl 0 rfl) ?_
    refine lv_iadd hx hb dX12_image_57 ?_
    refine z_topi (y := nI (8 + i_5)) (nI_add _ _) ?_
    refine zcV (As := [.int (nI (8 + i_5))]) (rest := [.ref (a 200)]) (C := RX12) (n := 1) ⟨hx, hb, hml, hown, ht⟩ (k_X12_rootTold l D a ((3 + 2 * i_5) + 1) (nI (8 + i_5))) (zgV ml_X12_793 im_X12_rootTold se_X12_rootTold in_X12 co_X12_rootTold) rfl rfl (by decide +kernel) ⟨Nat.le_of_ble_eq_true rfl, Nat.le_of_ble_eq_true rfl⟩ hK hP hS [2] rfl 0 rfl rfl rfl rfl hl.1 rfl (Nat.le_of_ble_eq_true rfl) dX12_image_58 ⟨Nat.le_of_ble_eq_true rfl, Nat.le_of_ble_eq_true rfl⟩ (fun r_18 H locs hw hP hS => ?_)
    subst hw
    refine zwVv (As := [.int 255]) (rest := []) (C := RX12) (n := 1) (wr := [((a 49), .inl (D.1 13, 906, .inl (fun _ => 0))), ((a 39), .inl (D.1 13, 10, .inl (fun _ => 0)))]) ⟨hx, hb, hml, hown, ht⟩ (k_X12_tellsByte l D _ a ((3 + 2 * i_5) + 1) (by first | decide | omega) u_16 255) (zgV ml_X12_786 im_X12_tellsByte se_X12_tellsByte in_X12 co_X12_tellsByte) rfl rfl (by decide +kernel) ⟨Nat.le_of_ble_eq_true rfl, Nat.le_of_ble_eq_true rfl⟩ hK hP hD hS hA [2, 3] [0, 1] rfl rfl rfl rfl (by decide) 0 rfl rfl rfl rfl hl.1 rfl (Nat.le_of_ble_eq_true rfl) dX12_image_61 ⟨Nat.le_of_ble_eq_true rfl, Nat.le_of_ble_eq_true rfl⟩ (fun u_19 H locs hw hP hD hS => ?_)
    have hP : va_P D vwCl [((a 49), .inl (D.1 13, 906, .inl (fun _ => 0))), ((a 39), .inl (D.1 13, 10, .inl (fun _ => 0))), ((a 200), .inr (12, mO a 0 0 0 0 0 0 0 (-1) 0 0 1 (nI (((3 + 2 * i_5) + 1) + 1)))), ((a 111), .inl (D.1 13, 1364, .inl u_19))] H := hP
    have hD : va_D A [((a 49), .inl (D.1 13, 906, .inl (fun _ => 0))), ((a 39), .inl (D.1 13, 10, .inl (fun _ => 0))), ((a 200), .inr (12, mO a 0 0 0 0 0 0 0 (-1) 0 0 1 (nI (((3 + 2 * i_5) + 1) + 1)))), ((a 111), .inl (D.1 13, 1364, .inl u_19))] := hD
    refine lv_iinc (v := nI (i_5 + 1)) (lv' := [(1, .int (nI (i_5 + 1))), (0, .ref (a 200))]) hx hb dX12_image_64 hl (k := 0) rfl (z_inc _) (by decide) rfl (fun ls hl => ?_)
    refine lv_goto (tgt := 37) hx hb dX12_image_67 (by decide) ?_
    rw [show ((3 + 2 * i_5) + 1) + 1 = 3 + 2 * (i_5 + 1) by omega] at hP hD
    exact ih_37 u_19 _ _ _ (by omega) ⟨hP.sub [0, 1, 2, 3] rfl, hD.sub [0, 1, 2, 3] (by decide) rfl, hS, lv_sub hl [0, 1] rfl⟩
