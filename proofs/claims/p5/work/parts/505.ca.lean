theorem ac_long : Cond.arrayClass .long ∈ lw_gd := zm (List.mem_of_getElem? (i := 466) (by decide +kernel)) rfl
theorem co_X10_init : Cond.code yX10_init cX10_init 1 none ∈ lw_gd := zm (List.mem_of_getElem? (i := 425) (by decide +kernel)) rfl
theorem co_X1_init : Cond.code yX1_init cX1_init 2 none ∈ lw_gd := zm (List.mem_of_getElem? (i := 541) (by decide +kernel)) rfl
theorem co_X2_init : Cond.code yX2_init cX2_init 1 none ∈ lw_gd := zm (List.mem_of_getElem? (i := 343) (by decide +kernel)) rfl
theorem co_X4_init : Cond.code yX4_init cX4_init 1 none ∈ lw_gd := zm (List.mem_of_getElem? (i := 398) (by decide +kernel)) rfl
theorem co_X5_init : Cond.code yX5_init cX5_init 1 none ∈ lw_gd := zm (List.mem_of_getElem? (i := 446) (by decide +kernel)) rfl
theorem co_X6_init : Cond.code yX6_init cX6_init 2 none ∈ lw_gd := zm (List.mem_of_getElem? (i := 250) (by decide +kernel)) rfl
theorem co_X7_init : Cond.code yX7_init cX7_init 1 none ∈ lw_gd := zm (List.mem_of_getElem? (i := 371) (by decide +kernel)) rfl
theorem co_X9_init : Cond.code yX9_init cX9_init 1 none ∈ lw_gd := zm (List.mem_of_getElem? (i := 230) (by decide +kernel)) rfl
theorem cx_X11_16 : Cond.classLink RX11 16 RX6 ∈ lw_gd := zm (List.mem_of_getElem? (i := 246) (by decide +kernel)) rfl
theorem cx_X11_25 : Cond.classLink RX11 25 RX2 ∈ lw_gd := zm (List.mem_of_getElem? (i := 339) (by decide +kernel)) rfl
theorem cx_X11_32 : Cond.classLink RX11 32 RX7 ∈ lw_gd := zm (List.mem_of_getElem? (i := 367) (by decide +kernel)) rfl
theorem cx_X11_39 : Cond.classLink RX11 39 RX4 ∈ lw_gd := zm (List.mem_of_getElem? (i := 394) (by decide +kernel)) rfl
theorem cx_X11_46 : Cond.classLink RX11 46 RX10 ∈ lw_gd := zm (List.mem_of_getElem? (i := 421) (by decide +kernel)) rfl
theorem cx_X11_64 : Cond.classLink RX11 64 RX5 ∈ lw_gd := zm (List.mem_of_getElem? (i := 442) (by decide +kernel)) rfl
theorem cx_X11_74 : Cond.classLink RX11 74 RX1 ∈ lw_gd := zm (List.mem_of_getElem? (i := 537) (by decide +kernel)) rfl
theorem cx_X11_9 : Cond.classLink RX11 9 RX9 ∈ lw_gd := zm (List.mem_of_getElem? (i := 226) (by decide +kernel)) rfl
theorem fl_X11_12 : Cond.fieldLink RX11 12 "CloneVolumes" "tape" "LCloneVolumes$Tape;" ∈ lw_gd := zm (List.mem_of_getElem? (i := 700) (by decide +kernel)) rfl
theorem fl_X11_21 : Cond.fieldLink RX11 21 "CloneVolumes" "reader" "LCloneVolumes$Reader;" ∈ lw_gd := zm (List.mem_of_getElem? (i := 701) (by decide +kernel)) rfl
theorem fl_X11_28 : Cond.fieldLink RX11 28 "CloneVolumes" "history" "LCloneVolumes$History;" ∈ lw_gd := zm (List.mem_of_getElem? (i := 702) (by decide +kernel)) rfl
theorem fl_X11_35 : Cond.fieldLink RX11 35 "CloneVolumes" "sight" "LCloneVolumes$Sight;" ∈ lw_gd := zm (List.mem_of_getElem? (i := 703) (by decide +kernel)) rfl
theorem fl_X11_42 : Cond.fieldLink RX11 42 "CloneVolumes" "picture" "LCloneVolumes$Picture;" ∈ lw_gd := zm (List.mem_of_getElem? (i := 704) (by decide +kernel)) rfl
theorem fl_X11_49 : Cond.fieldLink RX11 49 "CloneVolumes" "walk" "LCloneVolumes$Walk;" ∈ lw_gd := zm (List.mem_of_getElem? (i := 705) (by decide +kernel)) rfl
theorem fl_X11_53 : Cond.fieldLink RX11 53 "CloneVolumes" "otherWalk" "LCloneVolumes$Walk;" ∈ lw_gd := zm (List.mem_of_getElem? (i := 706) (by decide +kernel)) rfl
theorem fl_X11_56 : Cond.fieldLink RX11 56 "CloneVolumes" "trees" "[J" ∈ lw_gd := zm (List.mem_of_getElem? (i := 707) (by decide +kernel)) rfl
theorem fl_X11_60 : Cond.fieldLink RX11 60 "CloneVolumes" "refused" "[I" ∈ lw_gd := zm (List.mem_of_getElem? (i := 708) (by decide +kernel)) rfl
theorem fl_X11_67 : Cond.fieldLink RX11 67 "CloneVolumes" "plan" "LCloneVolumes$Plan;" ∈ lw_gd := zm (List.mem_of_getElem? (i := 709) (by decide +kernel)) rfl
theorem fl_X11_71 : Cond.fieldLink RX11 71 "CloneVolumes" "spare" "LCloneVolumes$Plan;" ∈ lw_gd := zm (List.mem_of_getElem? (i := 710) (by decide +kernel)) rfl
theorem fl_X11_79 : Cond.fieldLink RX11 79 "CloneVolumes" "forest" "LCloneVolumes$Forest;" ∈ lw_gd := zm (List.mem_of_getElem? (i := 711) (by decide +kernel)) rfl
theorem fl_X12_13 : Cond.fieldLink RX12 13 "CloneVolumesModel" "faultPlace" "I" ∈ lw_gd := zm (List.mem_of_getElem? (i := 1546) (by decide +kernel)) rfl
theorem fl_X12_17 : Cond.fieldLink RX12 17 "CloneVolumesModel" "refused" "[I" ∈ lw_gd := zm (List.mem_of_getElem? (i := 1547) (by decide +kernel)) rfl
theorem fl_X12_20 : Cond.fieldLink RX12 20 "CloneVolumesModel" "blocksWord" "[C" ∈ lw_gd := zm (List.mem_of_getElem? (i := 1549) (by decide +kernel)) rfl
theorem fl_X12_24 : Cond.fieldLink RX12 24 "CloneVolumesModel" "roomWord" "[C" ∈ lw_gd := zm (List.mem_of_getElem? (i := 1550) (by decide +kernel)) rfl
theorem fl_X12_7 : Cond.fieldLink RX12 7 "CloneVolumesModel" "tape" "[I" ∈ lw_gd := zm (List.mem_of_getElem? (i := 1538) (by decide +kernel)) rfl
theorem ia_X1 : Cond.instantiable RX1 9 ∈ lw_gd := zm (List.mem_of_getElem? (i := 538) (by decide +kernel)) rfl
theorem ia_X10 : Cond.instantiable RX10 4 ∈ lw_gd := zm (List.mem_of_getElem? (i := 422) (by decide +kernel)) rfl
theorem ia_X2 : Cond.instantiable RX2 6 ∈ lw_gd := zm (List.mem_of_getElem? (i := 340) (by decide +kernel)) rfl
theorem ia_X4 : Cond.instantiable RX4 6 ∈ lw_gd := zm (List.mem_of_getElem? (i := 395) (by decide +kernel)) rfl
theorem ia_X5 : Cond.instantiable RX5 14 ∈ lw_gd := zm (List.mem_of_getElem? (i := 443) (by decide +kernel)) rfl
theorem ia_X6 : Cond.instantiable RX6 12 ∈ lw_gd := zm (List.mem_of_getElem? (i := 247) (by decide +kernel)) rfl
theorem ia_X7 : Cond.instantiable RX7 6 ∈ lw_gd := zm (List.mem_of_getElem? (i := 368) (by decide +kernel)) rfl
theorem ia_X9 : Cond.instantiable RX9 2 ∈ lw_gd := zm (List.mem_of_getElem? (i := 227) (by decide +kernel)) rfl
theorem im_X10_init : Cond.instanceMethod yX10_init ∈ lw_gd := zm (List.mem_of_getElem? (i := 424) (by decide +kernel)) rfl
theorem im_X1_init : Cond.instanceMethod yX1_init ∈ lw_gd := zm (List.mem_of_getElem? (i := 540) (by decide +kernel)) rfl
theorem im_X2_init : Cond.instanceMethod yX2_init ∈ lw_gd := zm (List.mem_of_getElem? (i := 342) (by decide +kernel)) rfl
theorem im_X4_init : Cond.instanceMethod yX4_init ∈ lw_gd := zm (List.mem_of_getElem? (i := 397) (by decide +kernel)) rfl
theorem im_X5_init : Cond.instanceMethod yX5_init ∈ lw_gd := zm (List.mem_of_getElem? (i := 445) (by decide +kernel)) rfl
theorem im_X6_init : Cond.instanceMethod yX6_init ∈ lw_gd := zm (List.mem_of_getElem? (i := 249) (by decide +kernel)) rfl
theorem im_X7_init : Cond.instanceMethod yX7_init ∈ lw_gd := zm (List.mem_of_getElem? (i := 370) (by decide +kernel)) rfl
theorem im_X9_init : Cond.instanceMethod yX9_init ∈ lw_gd := zm (List.mem_of_getElem? (i := 229) (by decide +kernel)) rfl
theorem in_X1 : Cond.initialized RX1 ∈ lw_gd := zm (List.mem_of_getElem? (i := 211) (by decide +kernel)) rfl
theorem in_X10 : Cond.initialized RX10 ∈ lw_gd := zm (List.mem_of_getElem? (i := 208) (by decide +kernel)) rfl
theorem in_X2 : Cond.initialized RX2 ∈ lw_gd := zm (List.mem_of_getElem? (i := 205) (by decide +kernel)) rfl
theorem in_X4 : Cond.initialized RX4 ∈ lw_gd := zm (List.mem_of_getElem? (i := 207) (by decide +kernel)) rfl
theorem in_X6 : Cond.initialized RX6 ∈ lw_gd := zm (List.mem_of_getElem? (i := 200) (by decide +kernel)) rfl
theorem in_X7 : Cond.initialized RX7 ∈ lw_gd := zm (List.mem_of_getElem? (i := 206) (by decide +kernel)) rfl
theorem in_X9 : Cond.initialized RX9 ∈ lw_gd := zm (List.mem_of_getElem? (i := 199) (by decide +kernel)) rfl
theorem ml_X11_18 : Cond.methodLink RX11 18 yX6_init ∈ lw_gd := zm (List.mem_of_getElem? (i := 248) (by decide +kernel)) rfl
theorem ml_X11_3 : Cond.methodLink RX11 3 objectInit ∈ lw_gd := zm (List.mem_of_getElem? (i := 223) (by decide +kernel)) rfl
theorem ml_X11_66 : Cond.methodLink RX11 66 yX5_init ∈ lw_gd := zm (List.mem_of_getElem? (i := 444) (by decide +kernel)) rfl
theorem ml_X11_76 : Cond.methodLink RX11 76 yX1_init ∈ lw_gd := zm (List.mem_of_getElem? (i := 539) (by decide +kernel)) rfl
theorem dX11_init_0 : decode cX11_init 0 = .ok (.aload_n 0, 1) := by decide +kernel
theorem dX11_init_1 : decode cX11_init 1 = .ok (.invokespecial 3, 3) := by decide +kernel
theorem dX11_init_4 : decode cX11_init 4 = .ok (.aload_n 0, 1) := by decide +kernel
theorem dX11_init_5 : decode cX11_init 5 = .ok (.new 9, 3) := by decide +kernel
theorem dX11_init_8 : decode cX11_init 8 = .ok (.dup, 1) := by decide +kernel
theorem dX11_init_9 : decode cX11_init 9 = .ok (.invokespecial 11, 3) := by decide +kernel
theorem dX11_init_12 : decode cX11_init 12 = .ok (.putfield 12, 3) := by decide +kernel
theorem dX11_init_15 : decode cX11_init 15 = .ok (.aload_n 0, 1) := by decide +kernel
theorem dX11_init_16 : decode cX11_init 16 = .ok (.new 16, 3) := by decide +kernel
theorem dX11_init_19 : decode cX11_init 19 = .ok (.dup, 1) := by decide +kernel
theorem dX11_init_20 : decode cX11_init 20 = .ok (.aload_n 0, 1) := by decide +kernel
theorem dX11_init_21 : decode cX11_init 21 = .ok (.getfield 12, 3) := by decide +kernel
theorem dX11_init_24 : decode cX11_init 24 = .ok (.invokespecial 18, 3) := by decide +kernel
theorem dX11_init_27 : decode cX11_init 27 = .ok (.putfield 21, 3) := by decide +kernel
theorem dX11_init_30 : decode cX11_init 30 = .ok (.aload_n 0, 1) := by decide +kernel
theorem dX11_init_31 : decode cX11_init 31 = .ok (.new 25, 3) := by decide +kernel
theorem dX11_init_34 : decode cX11_init 34 = .ok (.dup, 1) := by decide +kernel
theorem dX11_init_35 : decode cX11_init 35 = .ok (.invokespecial 27, 3) := by decide +kernel
theorem dX11_init_38 : decode cX11_init 38 = .ok (.putfield 28, 3) := by decide +kernel
theorem dX11_init_41 : decode cX11_init 41 = .ok (.aload_n 0, 1) := by decide +kernel
theorem dX11_init_42 : decode cX11_init 42 = .ok (.new 32, 3) := by decide +kernel
theorem dX11_init_45 : decode cX11_init 45 = .ok (.dup, 1) := by decide +kernel
theorem dX11_init_46 : decode cX11_init 46 = .ok (.invokespecial 34, 3) := by decide +kernel
theorem dX11_init_49 : decode cX11_init 49 = .ok (.putfield 35, 3) := by decide +kernel
theorem dX11_init_52 : decode cX11_init 52 = .ok (.aload_n 0, 1) := by decide +kernel
theorem dX11_init_53 : decode cX11_init 53 = .ok (.new 39, 3) := by decide +kernel
theorem dX11_init_56 : decode cX11_init 56 = .ok (.dup, 1) := by decide +kernel
theorem dX11_init_57 : decode cX11_init 57 = .ok (.invokespecial 41, 3) := by decide +kernel
theorem dX11_init_60 : decode cX11_init 60 = .ok (.putfield 42, 3) := by decide +kernel
theorem dX11_init_63 : decode cX11_init 63 = .ok (.aload_n 0, 1) := by decide +kernel
theorem dX11_init_64 : decode cX11_init 64 = .ok (.new 46, 3) := by decide +kernel
theorem dX11_init_67 : decode cX11_init 67 = .ok (.dup, 1) := by decide +kernel
theorem dX11_init_68 : decode cX11_init 68 = .ok (.invokespecial 48, 3) := by decide +kernel
theorem dX11_init_71 : decode cX11_init 71 = .ok (.putfield 49, 3) := by decide +kernel
theorem dX11_init_74 : decode cX11_init 74 = .ok (.aload_n 0, 1) := by decide +kernel
theorem dX11_init_75 : decode cX11_init 75 = .ok (.new 46, 3) := by decide +kernel
theorem dX11_init_78 : decode cX11_init 78 = .ok (.dup, 1) := by decide +kernel
theorem dX11_init_79 : decode cX11_init 79 = .ok (.invokespecial 48, 3) := by decide +kernel
theorem dX11_init_82 : decode cX11_init 82 = .ok (.putfield 53, 3) := by decide +kernel
theorem dX11_init_85 : decode cX11_init 85 = .ok (.aload_n 0, 1) := by decide +kernel
theorem dX11_init_86 : decode cX11_init 86 = .ok (.bipush 8, 2) := by decide +kernel
theorem dX11_init_88 : decode cX11_init 88 = .ok (.newarray .long, 2) := by decide +kernel
theorem dX11_init_90 : decode cX11_init 90 = .ok (.putfield 56, 3) := by decide +kernel
theorem dX11_init_93 : decode cX11_init 93 = .ok (.aload_n 0, 1) := by decide +kernel
theorem dX11_init_94 : decode cX11_init 94 = .ok (.bipush 6, 2) := by decide +kernel
theorem dX11_init_96 : decode cX11_init 96 = .ok (.newarray .int, 2) := by decide +kernel
theorem dX11_init_98 : decode cX11_init 98 = .ok (.putfield 60, 3) := by decide +kernel
theorem dX11_init_101 : decode cX11_init 101 = .ok (.aload_n 0, 1) := by decide +kernel
theorem dX11_init_102 : decode cX11_init 102 = .ok (.new 64, 3) := by decide +kernel
theorem dX11_init_105 : decode cX11_init 105 = .ok (.dup, 1) := by decide +kernel
theorem dX11_init_106 : decode cX11_init 106 = .ok (.invokespecial 66, 3) := by decide +kernel
theorem dX11_init_109 : decode cX11_init 109 = .ok (.putfield 67, 3) := by decide +kernel
theorem dX11_init_112 : decode cX11_init 112 = .ok (.aload_n 0, 1) := by decide +kernel
theorem dX11_init_113 : decode cX11_init 113 = .ok (.new 64, 3) := by decide +kernel
theorem dX11_init_116 : decode cX11_init 116 = .ok (.dup, 1) := by decide +kernel
theorem dX11_init_117 : decode cX11_init 117 = .ok (.invokespecial 66, 3) := by decide +kernel
theorem dX11_init_120 : decode cX11_init 120 = .ok (.putfield 71, 3) := by decide +kernel
theorem dX11_init_123 : decode cX11_init 123 = .ok (.aload_n 0, 1) := by decide +kernel
theorem dX11_init_124 : decode cX11_init 124 = .ok (.new 74, 3) := by decide +kernel
theorem dX11_init_127 : decode cX11_init 127 = .ok (.dup, 1) := by decide +kernel
theorem dX11_init_128 : decode cX11_init 128 = .ok (.aload_n 0, 1) := by decide +kernel
theorem dX11_init_129 : decode cX11_init 129 = .ok (.getfield 67, 3) := by decide +kernel
theorem dX11_init_132 : decode cX11_init 132 = .ok (.invokespecial 76, 3) := by decide +kernel
theorem dX11_init_135 : decode cX11_init 135 = .ok (.putfield 79, 3) := by decide +kernel
theorem dX11_init_138 : decode cX11_init 138 = .ok (.return_, 1) := by decide +kernel
theorem dX12_init_4 : decode cX12_init 4 = .ok (.aload_n 0, 1) := by decide +kernel
theorem dX12_init_5 : decode cX12_init 5 = .ok (.sipush 1600, 3) := by decide +kernel
theorem dX12_init_8 : decode cX12_init 8 = .ok (.newarray .int, 2) := by decide +kernel
theorem dX12_init_10 : decode cX12_init 10 = .ok (.putfield 7, 3) := by decide +kernel
theorem dX12_init_13 : decode cX12_init 13 = .ok (.aload_n 0, 1) := by decide +kernel
theorem dX12_init_14 : decode cX12_init 14 = .ok (.iconst (-1), 1) := by decide +kernel
theorem dX12_init_15 : decode cX12_init 15 = .ok (.putfield 13, 3) := by decide +kernel
theorem dX12_init_18 : decode cX12_init 18 = .ok (.aload_n 0, 1) := by decide +kernel
theorem dX12_init_19 : decode cX12_init 19 = .ok (.bipush 6, 2) := by decide +kernel
theorem dX12_init_21 : decode cX12_init 21 = .ok (.newarray .int, 2) := by decide +kernel
theorem dX12_init_23 : decode cX12_init 23 = .ok (.putfield 17, 3) := by decide +kernel
theorem dX12_init_26 : decode cX12_init 26 = .ok (.aload_n 0, 1) := by decide +kernel
theorem dX12_init_27 : decode cX12_init 27 = .ok (.bipush 6, 2) := by decide +kernel
theorem dX12_init_29 : decode cX12_init 29 = .ok (.newarray .char, 2) := by decide +kernel
theorem dX12_init_31 : decode cX12_init 31 = .ok (.dup, 1) := by decide +kernel
theorem dX12_init_32 : decode cX12_init 32 = .ok (.iconst 0, 1) := by decide +kernel
theorem dX12_init_33 : decode cX12_init 33 = .ok (.bipush 98, 2) := by decide +kernel
theorem dX12_init_35 : decode cX12_init 35 = .ok (.castore, 1) := by decide +kernel
theorem dX12_init_36 : decode cX12_init 36 = .ok (.dup, 1) := by decide +kernel
theorem dX12_init_37 : decode cX12_init 37 = .ok (.iconst 1, 1) := by decide +kernel
theorem dX12_init_38 : decode cX12_init 38 = .ok (.bipush 108, 2) := by decide +kernel
theorem dX12_init_40 : decode cX12_init 40 = .ok (.castore, 1) := by decide +kernel
theorem dX12_init_41 : decode cX12_init 41 = .ok (.dup, 1) := by decide +kernel
theorem dX12_init_42 : decode cX12_init 42 = .ok (.iconst 2, 1) := by decide +kernel
theorem dX12_init_43 : decode cX12_init 43 = .ok (.bipush 111, 2) := by decide +kernel
theorem dX12_init_45 : decode cX12_init 45 = .ok (.castore, 1) := by decide +kernel
theorem dX12_init_46 : decode cX12_init 46 = .ok (.dup, 1) := by decide +kernel
theorem dX12_init_47 : decode cX12_init 47 = .ok (.iconst 3, 1) := by decide +kernel
theorem dX12_init_48 : decode cX12_init 48 = .ok (.bipush 99, 2) := by decide +kernel
theorem dX12_init_50 : decode cX12_init 50 = .ok (.castore, 1) := by decide +kernel
theorem dX12_init_51 : decode cX12_init 51 = .ok (.dup, 1) := by decide +kernel
theorem dX12_init_52 : decode cX12_init 52 = .ok (.iconst 4, 1) := by decide +kernel
theorem dX12_init_53 : decode cX12_init 53 = .ok (.bipush 107, 2) := by decide +kernel
theorem dX12_init_55 : decode cX12_init 55 = .ok (.castore, 1) := by decide +kernel
theorem dX12_init_56 : decode cX12_init 56 = .ok (.dup, 1) := by decide +kernel
theorem dX12_init_57 : decode cX12_init 57 = .ok (.iconst 5, 1) := by decide +kernel
theorem dX12_init_58 : decode cX12_init 58 = .ok (.bipush 115, 2) := by decide +kernel
theorem dX12_init_60 : decode cX12_init 60 = .ok (.castore, 1) := by decide +kernel
theorem dX12_init_61 : decode cX12_init 61 = .ok (.putfield 20, 3) := by decide +kernel
theorem dX12_init_64 : decode cX12_init 64 = .ok (.aload_n 0, 1) := by decide +kernel
theorem dX12_init_65 : decode cX12_init 65 = .ok (.iconst 4, 1) := by decide +kernel
theorem dX12_init_66 : decode cX12_init 66 = .ok (.newarray .char, 2) := by decide +kernel
theorem dX12_init_68 : decode cX12_init 68 = .ok (.dup, 1) := by decide +kernel
theorem dX12_init_69 : decode cX12_init 69 = .ok (.iconst 0, 1) := by decide +kernel
theorem dX12_init_70 : decode cX12_init 70 = .ok (.bipush 114, 2) := by decide +kernel
theorem dX12_init_72 : decode cX12_init 72 = .ok (.castore, 1) := by decide +kernel
theorem dX12_init_73 : decode cX12_init 73 = .ok (.dup, 1) := by decide +kernel
theorem dX12_init_74 : decode cX12_init 74 = .ok (.iconst 1, 1) := by decide +kernel
theorem dX12_init_75 : decode cX12_init 75 = .ok (.bipush 111, 2) := by decide +kernel
theorem dX12_init_77 : decode cX12_init 77 = .ok (.castore, 1) := by decide +kernel
theorem dX12_init_78 : decode cX12_init 78 = .ok (.dup, 1) := by decide +kernel
theorem dX12_init_79 : decode cX12_init 79 = .ok (.iconst 2, 1) := by decide +kernel
theorem dX12_init_80 : decode cX12_init 80 = .ok (.bipush 111, 2) := by decide +kernel
theorem dX12_init_82 : decode cX12_init 82 = .ok (.castore, 1) := by decide +kernel
theorem dX12_init_83 : decode cX12_init 83 = .ok (.dup, 1) := by decide +kernel
theorem dX12_init_84 : decode cX12_init 84 = .ok (.iconst 3, 1) := by decide +kernel
theorem dX12_init_85 : decode cX12_init 85 = .ok (.bipush 109, 2) := by decide +kernel
theorem dX12_init_87 : decode cX12_init 87 = .ok (.castore, 1) := by decide +kernel
theorem dX12_init_88 : decode cX12_init 88 = .ok (.putfield 24, 3) := by decide +kernel
