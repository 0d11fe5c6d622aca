theorem ac_long : Cond.arrayClass .long ∈ lw_gd := zm (List.mem_of_getElem? (i := 466) (by decide +kernel)) rfl
theorem co_X10_init : Cond.code yX10_init cX10_init 1 none ∈ lw_gd := zm (List.mem_of_getElem? (i := 425) (by decide +kernel)) rfl
theorem co_X1_init : Cond.code yX1_init cX1_init 2 none ∈ lw_gd := zm (List.mem_of_getElem? (i := 541) (by decide +kernel)) rfl
theorem co_X2_init : Cond.code yX2_init cX2_init 1 none ∈ lw_gd := zm (List.mem_of_getElem? (i := 343) (by decide +kernel)) rfl
theorem co_X4_init : Cond.code yX4_init cX4_init 1 none ∈ lw_gd := zm (List.mem_of_getElem? (i := 398) (by decide +kernel)) rfl
theorem co_X5_init : Cond.code yX5_init cX5_init 1 none ∈ lw_gd := zm (List.mem_of_getElem? (i := 446) (by decide +kernel)) rfl
theorem co_X6_init : Cond.code yX6_init cX6_init 2 none ∈ lw_gd := zm (List.mem_of_getElem? (i := 250) (by decide +kernel)) rfl
theorem co_X7_init : Cond.code yX7_init cX7_init 1 none ∈ lw_gd := zm (List.mem_of_getElem? (i := 371) (by decide +kernel)) rfl
theorem co_X9_init : Cond.code yX9_init cX9_init 1 none ∈ lw_gd := zm (List.mem_of_getElem? (i := 230) (by decide +kernel)) rfl
theorem cx_X11_16 : Cond.classLink RX11 16 RX6 ∈ lw_gd := zm (List.mem_of_getElem? (i := 246) (by decide +kernel)) rfl
theorem cx_X11_25 : Cond.classLink RX11 25 RX2 ∈ lw_gd := zm (List.mem_of_getElem? (i := 339) (by decide +kernel)) rfl
theorem cx_X11_32 : Cond.classLink RX11 32 RX7 ∈ lw_gd := zm (List.mem_of_getElem? (i := 367) (by decide +kernel)) rfl
theorem cx_X11_39 : Cond.classLink RX11 39 RX4 ∈ lw_gd := zm (List.mem_of_getElem? (i := 394) (by decide +kernel)) rfl
theorem cx_X11_46 : Cond.classLink RX11 46 RX10 ∈ lw_gd := zm (List.mem_of_getElem? (i := 421) (by decide +kernel)) rfl
theorem cx_X11_64 : Cond.classLink RX11 64 RX5 ∈ lw_gd := zm (List.mem_of_getElem? (i := 442) (by decide +kernel)) rfl
theorem cx_X11_74 : Cond.classLink RX11 74 RX1 ∈ lw_gd := zm (List.mem_of_getElem? (i := 537) (by decide +kernel)) rfl
theorem cx_X11_9 : Cond.classLink RX11 9 RX9 ∈ lw_gd := zm (List.mem_of_getElem? (i := 226) (by decide +kernel)) rfl
theorem fl_X11_12 : Cond.fieldLink RX11 12 "CloneVolumes" "tape" "LCloneVolumes$Tape;" ∈ lw_gd := zm (List.mem_of_getElem? (i := 700) (by decide +kernel)) rfl
theorem fl_X11_21 : Cond.fieldLink RX11 21 "CloneVolumes" "reader" "LCloneVolumes$Reader;" ∈ lw_gd := zm (List.mem_of_getElem? (i := 701) (by decide +kernel)) rfl
theorem fl_X11_28 : Cond.fieldLink RX11 28 "CloneVolumes" "history" "LCloneVolumes$History;" ∈ lw_gd := zm (List.mem_of_getElem? (i := 702) (by decide +kernel)) rfl
theorem fl_X11_35 : Cond.fieldLink RX11 35 "CloneVolumes" "sight" "LCloneVolumes$Sight;" ∈ lw_gd := zm (List.mem_of_getElem? (i := 703) (by decide +kernel)) rfl
theorem fl_X11_42 : Cond.fieldLink RX11 42 "CloneVolumes" "picture" "LCloneVolumes$Picture;" ∈ lw_gd := zm (List.mem_of_getElem? (i := 704) (by decide +kernel)) rfl
theorem fl_X11_49 : Cond.fieldLink RX11 49 "CloneVolumes" "walk" "LCloneVolumes$Walk;" ∈ lw_gd := zm (List.mem_of_getElem? (i := 705) (by decide +kernel)) rfl
theorem fl_X11_53 : Cond.fieldLink RX11 53 "CloneVolumes" "otherWalk" "LCloneVolumes$Walk;" ∈ lw_gd := zm (List.mem_of_getElem? (i := 706) (by decide +kernel)) rfl
theorem fl_X11_56 : Cond.fieldLink RX11 56 "CloneVolumes" "trees" "[J" ∈ lw_gd := zm (List.mem_of_getElem? (i := 707) (by decide +kernel)) rfl
theorem fl_X11_60 : Cond.fieldLink RX11 60 "CloneVolumes" "refused" "[I" ∈ lw_gd := zm (List.mem_of_getElem? (i := 708) (by decide +kernel)) rfl
theorem fl_X11_67 : Cond.fieldLink RX11 67 "CloneVolumes" "plan" "LCloneVolumes$Plan;" ∈ lw_gd := zm (List.mem_of_getElem? (i := 709) (by decide +kernel)) rfl
theorem fl_X11_71 : Cond.fieldLink RX11 71 "CloneVolumes" "spare" "LCloneVolumes$Plan;" ∈ lw_gd := zm (List.mem_of_getElem? (i := 710) (by decide +kernel)) rfl
theorem fl_X11_79 : Cond.fieldLink RX11 79 "CloneVolumes" "forest" "LCloneVolumes$Forest;" ∈ lw_gd := zm (List.mem_of_getElem? (i := 711) (by decide +kernel)) rfl
theorem fl_X12_13 : Cond.fieldLink RX12 13 "CloneVolumesModel" "faultPlace" "I" ∈ lw_gd := zm (List.mem_of_getElem? (i := 1546) (by decide +kernel)) rfl
theorem fl_X12_17 : Cond.fieldLink RX12 17 "CloneVolumesModel" "refused" "[I" ∈ lw_gd := zm (List.mem_of_getElem? (i := 1547) (by decide +kernel)) rfl
theorem fl_X12_20 : Cond.fieldLink RX12 20 "CloneVolumesModel" "blocksWord" "[C" ∈ lw_gd := zm (List.mem_of_getElem? (i := 1549) (by decide +kernel)) rfl
theorem fl_X12_24 : Cond.fieldLink RX12 24 "CloneVolumesModel" "roomWord" "[C" ∈ lw_gd := zm (List.mem_of_getElem? (i := 1550) (by decide +kernel)) rfl
theorem fl_X12_7 : Cond.fieldLink RX12 7 "CloneVolumesModel" "tape" "[I" ∈ lw_gd := zm (List.mem_of_getElem? (i := 1538) (by decide +kernel)) rfl
theorem ia_X1 : Cond.instantiable RX1 9 ∈ lw_gd := zm (List.mem_of_getElem? (i := 538) (by decide +kernel)) rfl
theorem ia_X10 : Cond.instantiable RX10 4 ∈ lw_gd := zm (List.mem_of_getElem? (i := 422) (by decide +kernel)) rfl
theorem ia_X2 : Cond.instantiable RX2 6 ∈ lw_gd := zm (List.mem_of_getElem? (i := 340) (by decide +kernel)) rfl
theorem ia_X4 : Cond.instantiable RX4 6 ∈ lw_gd := zm (List.mem_of_getElem? (i := 395) (by decide +kernel)) rfl
theorem ia_X5 : Cond.instantiable RX5 14 ∈ lw_gd := zm (List.mem_of_getElem? (i := 443) (by decide +kernel)) rfl
theorem ia_X6 : Cond.instantiable RX6 12 ∈ lw_gd := zm (List.mem_of_getElem? (i := 247) (by decide +kernel)) rfl
theorem ia_X7 : Cond.instantiable RX7 6 ∈ lw_gd := zm (List.mem_of_getElem? (i := 368) (by decide +kernel)) rfl
theorem ia_X9 : Cond.instantiable RX9 2 ∈ lw_gd := zm (List.mem_of_getElem? (i := 227) (by decide +kernel)) rfl
theorem im_X10_init : Cond.instanceMethod yX10_init ∈ lw_gd := zm (List.mem_of_getElem? (i := 424) (by decide +kernel)) rfl
theorem im_X1_init : Cond.instanceMethod yX1_init ∈ lw_gd := zm (List.mem_of_getElem? (i := 540) (by decide +kernel)) rfl
theorem im_X2_init : Cond.instanceMethod yX2_init ∈ lw_gd := zm (List.mem_of_getElem? (i := 342) (by decide +kernel)) rfl
theorem im_X4_init : Cond.instanceMethod yX4_init ∈ lw_gd := zm (List.mem_of_getElem? (i := 397) (by decide +kernel)) rfl
theorem im_X5_init : Cond.instanceMethod yX5_init ∈ lw_gd := zm (List.mem_of_getElem? (i := 445) (by decide +kernel)) rfl
theorem im_X6_init : Cond.instanceMethod yX6_init ∈ lw_gd := zm (List.mem_of_getElem? (i := 249) (by decide +kernel)) rfl
theorem im_X7_init : Cond.instanceMethod yX7_init ∈ lw_gd := zm (List.mem_of_getElem? (i := 370) (by decide +kernel)) rfl
theorem im_X9_init : Cond.instanceMethod yX9_init ∈ lw_gd := zm (List.mem_of_getElem? (i := 229) (by decide +kernel)) rfl
theorem in_X1 : Cond.initialized RX1 ∈ lw_gd := zm (List.mem_of_getElem? (i := 211) (by decide +kernel)) rfl
theorem in_X10 : Cond.initialized RX10 ∈ lw_gd := zm (List.mem_of_getElem? (i := 208) (by decide +kernel)) rfl
theorem in_X2 : Cond.initialized RX2 ∈ lw_gd := zm (List.mem_of_getElem? (i := 205) (by decide +kernel)) rfl
theorem in_X4 : Cond.initialized RX4 ∈ lw_gd := zm (List.mem_of_getElem? (i := 207) (by decide +kernel)) rfl
theorem in_X6 : Cond.initialized RX6 ∈ lw_gd := zm (List.mem_of_getElem? (i := 200) (by decide +kernel)) rfl
theorem in_X7 : Cond.initialized RX7 ∈ lw_gd := zm (List.mem_of_getElem? (i := 206) (by decide +kernel)) rfl
theorem in_X9 : Cond.initialized RX9 ∈ lw_gd := zm (List.mem_of_getElem? (i := 199) (by decide +kernel)) rfl
theorem ml_X11_18 : Cond.methodLink RX11 18 yX6_init ∈ lw_gd := zm (List.mem_of_getElem? (i := 248) (by decide +kernel)) rfl
theorem ml_X11_3 : Cond.methodLink RX11 3 objectInit ∈ lw_gd := zm (List.mem_of_getElem? (i := 223) (by decide +kernel)) rfl
theorem ml_X11_66 : Cond.methodLink RX11 66 yX5_init ∈ lw_gd := zm (List.mem_of_getElem? (i := 444) (by decide +kernel)) rfl
theorem ml_X11_76 : Cond.methodLink RX11 76 yX1_init ∈ lw_gd := zm (List.mem_of_getElem? (i := 539) (by decide +kernel)) rfl
theorem dX11_init_0 : decode cX11_init 0 = .ok (.aload_n 0, 1) := by decide +kernel
theorem dX11_init_1 : decode cX11_init 1 = .ok (.invokespecial 3, 3) := by decide +kernel
theorem dX11_init_4 : decode cX11_init 4 = .ok (.aload_n 0, 1) := by decide +kernel
theorem dX11_init_5 : decode cX11_init 5 = .ok (.new 9, 3) := by decide +kernel
theorem dX11_init_8 : decode cX11_init 8 = .ok (.dup, 1) := by decide +kernel
theorem dX11_init_9 : decode cX11_init 9 = .ok (.invokespecial 11, 3) := by decide +kernel
theorem dX11_init_12 : decode cX11_init 12 = .ok (.putfield 12, 3) := by decide +kernel
theorem dX11_init_15 : decode cX11_init 15 = .ok (.aload_n 0, 1) := by decide +kernel
theorem dX11_init_16 : decode cX11_init 16 = .ok (.new 16, 3) := by decide +kernel
theorem dX11_init_19 : decode cX11_init 19 = .ok (.dup, 1) := by decide +kernel
theorem dX11_init_20 : decode cX11_init 20 = .ok (.aload_n 0, 1) := by decide +kernel
theorem dX11_init_21 : decode cX11_init 21 = .ok (.getfield 12, 3) := by decide +kernel
theorem dX11_init_24 : decode cX11_init 24 = .ok (.invokespecial 18, 3) := by decide +kernel
theorem dX11_init_27 : decode cX11_init 27 = .ok (.putfield 21, 3) := by decide +kernel
theorem dX11_init_30 : decode cX11_init 30 = .ok (.aload_n 0, 1) := by decide +kernel
theorem dX11_init_31 : decode cX11_init 31 = .ok (.new 25, 3) := by decide +kernel
theorem dX11_init_34 : decode cX11_init 34 = .ok (.dup, 1) := by decide +kernel
theorem dX11_init_35 : decode cX11_init 35 = .ok (.invokespecial 27, 3) := by decide +kernel
theorem dX11_init_38 : decode cX11_init 38 = .ok (.putfield 28, 3) := by decide +kernel
theorem dX11_init_41 : decode cX11_init 41 = .ok (.aload_n 0, 1) := by decide +kernel
theorem dX11_init_42 : decode cX11_init 42 = .ok (.new 32, 3) := by decide +kernel
theorem dX11_init_45 : decode cX11_init 45 = .ok (.dup, 1) := by decide +kernel
theorem dX11_init_46 : decode cX11_init 46 = .ok (.invokespecial 34, 3) := by decide +kernel
theorem dX11_init_49 : decode cX11_init 49 = .ok (.putfield 35, 3) := by decide +kernel
theorem dX11_init_52 : decode cX11_init 52 = .ok (.aload_n 0, 1) := by decide +kernel
theorem dX11_init_53 : decode cX11_init 53 = .ok (.new 39, 3) := by decide +kernel
theorem dX11_init_56 : decode cX11_init 56 = .ok (.dup, 1) := by decide +kernel
theorem dX11_init_57 : decode cX11_init 57 = .ok (.invokespecial 41, 3) := by decide +kernel
theorem dX11_init_60 : decode cX11_init 60 = .ok (.putfield 42, 3) := by decide +kernel
theorem dX11_init_63 : decode cX11_init 63 = .ok (.aload_n 0, 1) := by decide +kernel
theorem dX11_init_64 : decode cX11_init 64 = .ok (.new 46, 3) := by decide +kernel
theorem dX11_init_67 : decode cX11_init 67 = .ok (.dup, 1) := by decide +kernel
theorem dX11_init_68 : decode cX11_init 68 = .ok (.invokespecial 48, 3) := by decide +kernel
theorem dX11_init_71 : decode cX11_init 71 = .ok (.putfield 49, 3) := by decide +kernel
theorem dX11_init_74 : decode cX11_init 74 = .ok (.aload_n 0, 1) := by decide +kernel
theorem dX11_init_75 : decode cX11_init 75 = .ok (.new 46, 3) := by decide +kernel
theorem dX11_init_78 : decode cX11_init 78 = .ok (.dup, 1) := by decide +kernel
theorem dX11_init_79 : decode cX11_init 79 = .ok (.invokespecial 48, 3) := by decide +kernel
theorem dX11_init_82 : decode cX11_init 82 = .ok (.putfield 53, 3) := by decide +kernel
theorem dX11_init_85 : decode cX11_init 85 = .ok (.aload_n 0, 1) := by decide +kernel
theorem dX11_init_86 : decode cX11_init 86 = .ok (.bipush 8, 2) := by decide +kernel
theorem dX11_init_88 : decode cX11_init 88 = .ok (.newarray .long, 2) := by decide +kernel
theorem dX11_init_90 : decode cX11_init 90 = .ok (.putfield 56, 3) := by decide +kernel
theorem dX11_init_93 : decode cX11_init 93 = .ok (.aload_n 0, 1) := by decide +kernel
theorem dX11_init_94 : decode cX11_init 94 = .ok (.bipush 6, 2) := by decide +kernel
theorem dX11_init_96 : decode cX11_init 96 = .ok (.newarray .int, 2) := by decide +kernel
theorem dX11_init_98 : decode cX11_init 98 = .ok (.putfield 60, 3) := by decide +kernel
theorem dX11_init_101 : decode cX11_init 101 = .ok (.aload_n 0, 1) := by decide +kernel
theorem dX11_init_102 : decode cX11_init 102 = .ok (.new 64, 3) := by decide +kernel
theorem dX11_init_105 : decode cX11_init 105 = .ok (.dup, 1) := by decide +kernel
theorem dX11_init_106 : decode cX11_init 106 = .ok (.invokespecial 66, 3) := by decide +kernel
theorem dX11_init_109 : decode cX11_init 109 = .ok (.putfield 67, 3) := by decide +kernel
theorem dX11_init_112 : decode cX11_init 112 = .ok (.aload_n 0, 1) := by decide +kernel
theorem dX11_init_113 : decode cX11_init 113 = .ok (.new 64, 3) := by decide +kernel
theorem dX11_init_116 : decode cX11_init 116 = .ok (.dup, 1) := by decide +kernel
theorem dX11_init_117 : decode cX11_init 117 = .ok (.invokespecial 66, 3) := by decide +kernel
theorem dX11_init_120 : decode cX11_init 120 = .ok (.putfield 71, 3) := by decide +kernel
theorem dX11_init_123 : decode cX11_init 123 = .ok (.aload_n 0, 1) := by decide +kernel
theorem dX11_init_124 : decode cX11_init 124 = .ok (.new 74, 3) := by decide +kernel
theorem dX11_init_127 : decode cX11_init 127 = .ok (.dup, 1) := by decide +kernel
theorem dX11_init_128 : decode cX11_init 128 = .ok (.aload_n 0, 1) := by decide +kernel
theorem dX11_init_129 : decode cX11_init 129 = .ok (.getfield 67, 3) := by decide +kernel
theorem dX11_init_132 : decode cX11_init 132 = .ok (.invokespecial 76, 3) := by decide +kernel
theorem dX11_init_135 : decode cX11_init 135 = .ok (.putfield 79, 3) := by decide +kernel
theorem dX11_init_138 : decode cX11_init 138 = .ok (.return_, 1) := by decide +kernel
theorem dX12_init_4 : decode cX12_init 4 = .ok (.aload_n 0, 1) := by decide +kernel
theorem dX12_init_5 : decode cX12_init 5 = .ok (.sipush 1600, 3) := by decide +kernel
theorem dX12_init_8 : decode cX12_init 8 = .ok (.newarray .int, 2) := by decide +kernel
theorem dX12_init_10 : decode cX12_init 10 = .ok (.putfield 7, 3) := by decide +kernel
theorem dX12_init_13 : decode cX12_init 13 = .ok (.aload_n 0, 1) := by decide +kernel
theorem dX12_init_14 : decode cX12_init 14 = .ok (.iconst (-1), 1) := by decide +kernel
theorem dX12_init_15 : decode cX12_init 15 = .ok (.putfield 13, 3) := by decide +kernel
theorem dX12_init_18 : decode cX12_init 18 = .ok (.aload_n 0, 1) := by decide +kernel
theorem dX12_init_19 : decode cX12_init 19 = .ok (.bipush 6, 2) := by decide +kernel
theorem dX12_init_21 : decode cX12_init 21 = .ok (.newarray .int, 2) := by decide +kernel
theorem dX12_init_23 : decode cX12_init 23 = .ok (.putfield 17, 3) := by decide +kernel
theorem dX12_init_26 : decode cX12_init 26 = .ok (.aload_n 0, 1) := by decide +kernel
theorem dX12_init_27 : decode cX12_init 27 = .ok (.bipush 6, 2) := by decide +kernel
theorem dX12_init_29 : decode cX12_init 29 = .ok (.newarray .char, 2) := by decide +kernel
theorem dX12_init_31 : decode cX12_init 31 = .ok (.dup, 1) := by decide +kernel
theorem dX12_init_32 : decode cX12_init 32 = .ok (.iconst 0, 1) := by decide +kernel
theorem dX12_init_33 : decode cX12_init 33 = .ok (.bipush 98, 2) := by decide +kernel
theorem dX12_init_35 : decode cX12_init 35 = .ok (.castore, 1) := by decide +kernel
theorem dX12_init_36 : decode cX12_init 36 = .ok (.dup, 1) := by decide +kernel
theorem dX12_init_37 : decode cX12_init 37 = .ok (.iconst 1, 1) := by decide +kernel
theorem dX12_init_38 : decode cX12_init 38 = .ok (.bipush 108, 2) := by decide +kernel
theorem dX12_init_40 : decode cX12_init 40 = .ok (.castore, 1) := by decide +kernel
theorem dX12_init_41 : decode cX12_init 41 = .ok (.dup, 1) := by decide +kernel
theorem dX12_init_42 : decode cX12_init 42 = .ok (.iconst 2, 1) := by decide +kernel
theorem dX12_init_43 : decode cX12_init 43 = .ok (.bipush 111, 2) := by decide +kernel
theorem dX12_init_45 : decode cX12_init 45 = .ok (.castore, 1) := by decide +kernel
theorem dX12_init_46 : decode cX12_init 46 = .ok (.dup, 1) := by decide +kernel
theorem dX12_init_47 : decode cX12_init 47 = .ok (.iconst 3, 1) := by decide +kernel
theorem dX12_init_48 : decode cX12_init 48 = .ok (.bipush 99, 2) := by decide +kernel
theorem dX12_init_50 : decode cX12_init 50 = .ok (.castore, 1) := by decide +kernel
theorem dX12_init_51 : decode cX12_init 51 = .ok (.dup, 1) := by decide +kernel
theorem dX12_init_52 : decode cX12_init 52 = .ok (.iconst 4, 1) := by decide +kernel
theorem dX12_init_53 : decode cX12_init 53 = .ok (.bipush 107, 2) := by decide +kernel
theorem dX12_init_55 : decode cX12_init 55 = .ok (.castore, 1) := by decide +kernel
theorem dX12_init_56 : decode cX12_init 56 = .ok (.dup, 1) := by decide +kernel
theorem dX12_init_57 : decode cX12_init 57 = .ok (.iconst 5, 1) := by decide +kernel
theorem dX12_init_58 : decode cX12_init 58 = .ok (.bipush 115, 2) := by decide +kernel
theorem dX12_init_60 : decode cX12_init 60 = .ok (.castore, 1) := by decide +kernel
theorem dX12_init_61 : decode cX12_init 61 = .ok (.putfield 20, 3) := by decide +kernel
theorem dX12_init_64 : decode cX12_init 64 = .ok (.aload_n 0, 1) := by decide +kernel
theorem dX12_init_65 : decode cX12_init 65 = .ok (.iconst 4, 1) := by decide +kernel
theorem dX12_init_66 : decode cX12_init 66 = .ok (.newarray .char, 2) := by decide +kernel
theorem dX12_init_68 : decode cX12_init 68 = .ok (.dup, 1) := by decide +kernel
theorem dX12_init_69 : decode cX12_init 69 = .ok (.iconst 0, 1) := by decide +kernel
theorem dX12_init_70 : decode cX12_init 70 = .ok (.bipush 114, 2) := by decide +kernel
theorem dX12_init_72 : decode cX12_init 72 = .ok (.castore, 1) := by decide +kernel
theorem dX12_init_73 : decode cX12_init 73 = .ok (.dup, 1) := by decide +kernel
theorem dX12_init_74 : decode cX12_init 74 = .ok (.iconst 1, 1) := by decide +kernel
theorem dX12_init_75 : decode cX12_init 75 = .ok (.bipush 111, 2) := by decide +kernel
theorem dX12_init_77 : decode cX12_init 77 = .ok (.castore, 1) := by decide +kernel
theorem dX12_init_78 : decode cX12_init 78 = .ok (.dup, 1) := by decide +kernel
theorem dX12_init_79 : decode cX12_init 79 = .ok (.iconst 2, 1) := by decide +kernel
theorem dX12_init_80 : decode cX12_init 80 = .ok (.bipush 111, 2) := by decide +kernel
theorem dX12_init_82 : decode cX12_init 82 = .ok (.castore, 1) := by decide +kernel
theorem dX12_init_83 : decode cX12_init 83 = .ok (.dup, 1) := by decide +kernel
theorem dX12_init_84 : decode cX12_init 84 = .ok (.iconst 3, 1) := by decide +kernel
theorem dX12_init_85 : decode cX12_init 85 = .ok (.bipush 109, 2) := by decide +kernel
theorem dX12_init_87 : decode cX12_init 87 = .ok (.castore, 1) := by decide +kernel
theorem dX12_init_88 : decode cX12_init 88 = .ok (.putfield 24, 3) := by decide +kernel
set_option maxHeartbeats 4000000 in
set_option maxRecDepth 100000 in
theorem k_X11_init (l : Launch) (D : va_G) (sz : Nat) (b0 qS vS : Nat) (fS : Nat → Int32) (h0 : Nat) (hB : ∀ q, va_A [(h0, .inr (11, [.null, .null, .null, .null, .null, .null, .null, .null, .null, .null, .null, .null, .int 0]))] sz q → b0 ≤ q) : Met l yX11_init (wz yX11_init cX11_init 1 none) { frames := 4, cells := 82, slots := 11261, locals := 240 } (va_Pc [.ref h0] (fun U => zW D sz [(h0, .inr (11, [.null, .null, .null, .null, .null, .null, .null, .null, .null, .null, .null, .null, .int 0]))] U ∧ EE b0 qS vS fS U)) (va_Qv (fun (u : ((Nat → Nat) × (Nat → Int) × (Nat → Int) × (Nat → Int) × (Nat → Int) × (Nat → Int))) => u.1 0 = h0 ∧ u.2.1 = fun j => (zw (fS j)).toInt) (fun u t => zB D (va_A [(h0, .inr (11, [.null, .null, .null, .null, .null, .null, .null, .null, .null, .null, .null, .null, .int 0]))] sz) (XW D u.1 (cw0 u.2.1 u.2.2.1 u.2.2.2.1 u.2.2.2.2.1 u.2.2.2.2.2) []) t) (va_A [(h0, .inr (11, [.null, .null, .null, .null, .null, .null, .null, .null, .null, .null, .null, .null, .int 0]))] sz)) 82 11261 (va_A [(h0, .inr (11, [.null, .null, .null, .null, .null, .null, .null, .null, .null, .null, .null, .null, .int 0]))] sz) := by
  refine Met.ofW (cc := cX11_init) (maxL := 1) (ret := none) (by decide) rfl ?_
  intro p e s m args below meth c s₁ B hml hv
  obtain ⟨rfl, ⟨hsz, hP, hK, hD0⟩, hE⟩ := hv
  have hx := B.exec
  have hb := B.bytes
  have hr := B.returns
  have hts := atoms_spec (ws := wz yX11_init cX11_init 1 none) B.pre
  have ht : ∀ w ∈ lw_gd, w.before _ s = true := fun w h => hts w (List.mem_cons_of_mem _ h)
  have hown : s.vm.findClass RX11 = some m.cls := findClass_of_methodNamed B.named
  have hlocks := B.notSynchronized
  have hin : meth.name = "<init>" := (name_of_methodNamed B.named B.method).1
  subst hsz
  have hD := hD0.self (sz := s.heap.size)
  have hAb := hB
  generalize hAe : va_A [(h0, .inr (11, [.null, .null, .null, .null, .null, .null, .null, .null, .null, .null, .null, .null, .int 0]))] s.heap.size = A at hAb hD ⊢
  have hA : ∀ q : Nat, s.heap.size ≤ q → A q := fun q h => by rw [← hAe]; exact Or.inr h
  have hS : va_S A s.heap s.heap [] := va_S.rf
  have hl := lv_entry ([.ref h0]) (n := 1) (Nat.le_of_ble_eq_true rfl)
  rw [lg_entry_eq]
  generalize (lg_sl ([.ref h0]) ++ List.replicate (1 - (lg_sl ([.ref h0])).length) Slot.unset).toArray = ls at hl ⊢
  have hl : lv_has ls 1 [(0, .ref h0)] := hl
  refine lv_aload_n hx hb dX11_init_0 rfl (lv_at hl 0 rfl) ?_
  refine W.objInit hx hb hown (ht _ ml_X11_3) (ht _ im_obj) (ht _ co_obj) rfl (by rw [hml]; exact hl.1) rfl dX11_init_1 (Nat.le_of_ble_eq_true rfl) (Nat.le_of_ble_eq_true rfl) ?_
  refine W.eq (g2 := F0 m 4 ls []) rfl ?_
  obtain ⟨T, hT0⟩ : ∃ T : va_W, T = [] := ⟨[], rfl⟩
  have hP : va_P D vwCl ((h0, .inr (11, [.null, .null, .null, .null, .null, .null, .null, .null, .null, .null, .null, .null, .int 0])) :: T) s.heap := by rw [hT0]; exact hP
  have hD : va_D A ((h0, .inr (11, [.null, .null, .null, .null, .null, .null, .null, .null, .null, .null, .null, .null, .int 0])) :: T) := by rw [hT0]; exact hD
  refine lv_aload_n hx hb dX11_init_4 rfl (lv_at hl 0 rfl) ?_
  refine va_new (ci := 9) (fs := [.null, .int 0]) (C := RX9) (T := TX9) (N := 2) hx hb ht inX9 tyX9 tyX9_ok hown (ht _ cx_X11_9) (ht _ ia_X9) (ht _ in_X9) hK hP hD hS hA rfl (by decide +kernel) (Nat.le_of_ble_eq_true rfl) (Nat.le_of_ble_eq_true rfl) dX11_init_5 (fun q1 H hP hD hS => ?_)
  refine W.widen (k := 1) (n := 2) (Nat.le_of_ble_eq_true rfl) (Nat.le_of_ble_eq_true rfl) ?_
  obtain ⟨hP, hD⟩ := z_rot2 hP hD
  refine lv_dup hx hb dX11_init_8 rfl ?_
  refine zwIN (As := []) (rest := [.ref q1, .ref h0]) (n := 0) (wr := (h0, .inr (11, [.null, .null, .null, .null, .null, .null, .null, .null, .null, .null, .null, .null, .int 0])) :: T) ⟨hx, hb, hml, hown, ht⟩ (k_X9_init l D _ q1) co_X9_init rfl rfl in_X9 hE.1.1 im_X9_init rfl (by decide +kernel) ⟨Nat.le_of_ble_eq_true rfl, Nat.le_of_ble_eq_true rfl⟩ hK hP hD hS hA [0] (irl _) rfl irl_map rfl irl_nd irl_dis rfl hl.1 rfl (Nat.le_of_ble_eq_true rfl) dX11_init_9 ⟨Nat.le_of_ble_eq_true rfl, Nat.le_of_ble_eq_true rfl⟩ (fun u2 H locs hw hP hD hS => ?_)
  refine W.widen (k := 2) (n := 1602) (Nat.le_of_ble_eq_true rfl) (Nat.le_of_ble_eq_true rfl) ?_
  refine va_putF (D := D) (ci := 11) (v := .ref q1) (ty := .object "CloneVolumes$Tape") (C := RX11) (T := TX11) (N := 13) hx hb ht inX11 tyX11 tyX11_ok nmX11 hown hK hP hD hS 0 rfl rfl 0 (by decide) (ht (.fieldLink RX11 12 "CloneVolumes" "tape" "LCloneVolumes$Tape;") fl_X11_12) (fun _ h9 => h9) rfl hin rfl (by decide +kernel) rfl rfl (Nat.le_of_ble_eq_true rfl) dX11_init_12 (fun H locs hP hD hS => ?_)
  have hP : va_P D vwCl ((h0, .inr (11, [.ref q1, .null, .null, .null, .null, .null, .null, .null, .null, .null, .null, .null, .int 0])) :: (T ++ [(q1, .inr (9, [.ref u2, .int 0])), (u2, .inl (D.1 13, 1600, .inl (fun _ => 0)))])) H := hP
  have hD : va_D A ((h0, .inr (11, [.ref q1, .null, .null, .null, .null, .null, .null, .null, .null, .null, .null, .null, .int 0])) :: (T ++ [(q1, .inr (9, [.ref u2, .int 0])), (u2, .inl (D.1 13, 1600, .inl (fun _ => 0)))])) := hD
  obtain ⟨T3, hT3⟩ : ∃ z : va_W, T ++ [(q1, .inr (9, [.ref u2, .int 0])), (u2, .inl (D.1 13, 1600, .inl (fun _ => 0)))] = z := ⟨_, rfl⟩
  rw [hT3] at hP hD
  refine lv_aload_n hx hb dX11_init_15 rfl (lv_at hl 0 rfl) ?_
  refine va_new (ci := 6) (fs := [.int 0, .int 0, .null, .null, .null, .int 0, .int 0, .int 0, .int 0, .int 0, .int 0, .int 0]) (C := RX6) (T := TX6) (N := 12) hx hb ht inX6 tyX6 tyX6_ok hown (ht _ cx_X11_16) (ht _ ia_X6) (ht _ in_X6) hK hP hD hS hA rfl (by decide +kernel) (Nat.le_of_ble_eq_true rfl) (Nat.le_of_ble_eq_true rfl) dX11_init_16 (fun q4 H hP hD hS => ?_)
  refine W.widen (k := 3) (n := 1614) (Nat.le_of_ble_eq_true rfl) (Nat.le_of_ble_eq_true rfl) ?_
  obtain ⟨hP, hD⟩ := z_rot2 hP hD
  refine lv_dup hx hb dX11_init_19 rfl ?_
  refine lv_aload_n hx hb dX11_init_20 rfl (lv_at hl 0 rfl) ?_
  refine va_get (D := D) (ci := 11) (v := .ref q1) (C := RX11) (T := TX11) (N := 13) hx hb ht inX11 hown hK hP 1 rfl rfl 0 (by decide) (ht (.fieldLink RX11 12 "CloneVolumes" "tape" "LCloneVolumes$Tape;") fl_X11_12) (fun _ h9 => h9) rfl dX11_init_21 ?_
  refine zwIE (As := [.ref q1]) (rest := [.ref q4, .ref h0]) (n := 1) (wr := (h0, .inr (11, [.ref q1, .null, .null, .null, .null, .null, .null, .null, .null, .null, .null, .null, .int 0])) :: T3) ⟨hx, hb, hml, hown, ht⟩ (k_X6_init l D _ b0 qS vS fS q4 q1) co_X6_init rfl rfl in_X6 ml_X11_18 im_X6_init rfl (by decide +kernel) ⟨Nat.le_of_ble_eq_true rfl, Nat.le_of_ble_eq_true rfl⟩ hK hP hD hS hA hE hAb [0] (irl _) rfl irl_map rfl irl_nd irl_dis rfl hl.1 rfl (Nat.le_of_ble_eq_true rfl) dX11_init_24 ⟨Nat.le_of_ble_eq_true rfl, Nat.le_of_ble_eq_true rfl⟩ (fun u5 H locs hw hP hD hS => ?_)
  refine W.widen (k := 4) (n := 1793) (Nat.le_of_ble_eq_true rfl) (Nat.le_of_ble_eq_true rfl) ?_
  refine va_putF (D := D) (ci := 11) (v := .ref q4) (ty := .object "CloneVolumes$Reader") (C := RX11) (T := TX11) (N := 13) hx hb ht inX11 tyX11 tyX11_ok nmX11 hown hK hP hD hS 0 rfl rfl 1 (by decide) (ht (.fieldLink RX11 21 "CloneVolumes" "reader" "LCloneVolumes$Reader;") fl_X11_21) (fun _ h9 => h9) rfl hin rfl (by decide +kernel) rfl rfl (Nat.le_of_ble_eq_true rfl) dX11_init_27 (fun H locs hP hD hS => ?_)
  have hP : va_P D vwCl ((h0, .inr (11, [.ref q1, .ref q4, .null, .null, .null, .null, .null, .null, .null, .null, .null, .null, .int 0])) :: (T3 ++ [(q4, .inr (6, [.int 0, .int (-1), .ref q1, .ref u5, .null, .int 0, .int 0, .int 0, .int 0, .int 0, .int 0, .int 0])), (u5, .inl (D.1 14, 179, .inl (fun j => zw (fS j))))])) H := hP
  have hD : va_D A ((h0, .inr (11, [.ref q1, .ref q4, .null, .null, .null, .null, .null, .null, .null, .null, .null, .null, .int 0])) :: (T3 ++ [(q4, .inr (6, [.int 0, .int (-1), .ref q1, .ref u5, .null, .int 0, .int 0, .int 0, .int 0, .int 0, .int 0, .int 0])), (u5, .inl (D.1 14, 179, .inl (fun j => zw (fS j))))])) := hD
  obtain ⟨T6, hT6⟩ : ∃ z : va_W, T3 ++ [(q4, .inr (6, [.int 0, .int (-1), .ref q1, .ref u5, .null, .int 0, .int 0, .int 0, .int 0, .int 0, .int 0, .int 0])), (u5, .inl (D.1 14, 179, .inl (fun j => zw (fS j))))] = z := ⟨_, rfl⟩
  rw [hT6] at hP hD
  refine lv_aload_n hx hb dX11_init_30 rfl (lv_at hl 0 rfl) ?_
  refine va_new (ci := 2) (fs := [.null, .null, .null, .int 0, .null, .int 0]) (C := RX2) (T := TX2) (N := 6) hx hb ht inX2 tyX2 tyX2_ok hown (ht _ cx_X11_25) (ht _ ia_X2) (ht _ in_X2) hK hP hD hS hA rfl (by decide +kernel) (Nat.le_of_ble_eq_true rfl) (Nat.le_of_ble_eq_true rfl) dX11_init_31 (fun q7 H hP hD hS => ?_)
  refine W.widen (k := 5) (n := 1799) (Nat.le_of_ble_eq_true rfl) (Nat.le_of_ble_eq_true rfl) ?_
  obtain ⟨hP, hD⟩ := z_rot2 hP hD
  refine lv_dup hx hb dX11_init_34 rfl ?_
  refine zwINE (As := []) (rest := [.ref q7, .ref h0]) (n := 0) (wr := (h0, .inr (11, [.ref q1, .ref q4, .null, .null, .null, .null, .null, .null, .null, .null, .null, .null, .int 0])) :: T6) ⟨hx, hb, hml, hown, ht⟩ (k_X2_init l D _ b0 qS vS fS q7) co_X2_init rfl rfl in_X2 hE.1.2.1 im_X2_init rfl (by decide +kernel) ⟨Nat.le_of_ble_eq_true rfl, Nat.le_of_ble_eq_true rfl⟩ hK hP hD hS hA hE hAb [0] (irl _) rfl irl_map rfl irl_nd irl_dis rfl hl.1 rfl (Nat.le_of_ble_eq_true rfl) dX11_init_35 ⟨Nat.le_of_ble_eq_true rfl, Nat.le_of_ble_eq_true rfl⟩ (fun u8 H locs hw hP hD hS => ?_)
  refine W.widen (k := 9) (n := 1999) (Nat.le_of_ble_eq_true rfl) (Nat.le_of_ble_eq_true rfl) ?_
  obtain ⟨n9, n10, n11, n12⟩ := u8
  refine va_putF (D := D) (ci := 11) (v := .ref q7) (ty := .object "CloneVolumes$History") (C := RX11) (T := TX11) (N := 13) hx hb ht inX11 tyX11 tyX11_ok nmX11 hown hK hP hD hS 0 rfl rfl 2 (by decide) (ht (.fieldLink RX11 28 "CloneVolumes" "history" "LCloneVolumes$History;") fl_X11_28) (fun _ h9 => h9) rfl hin rfl (by decide +kernel) rfl rfl (Nat.le_of_ble_eq_true rfl) dX11_init_38 (fun H locs hP hD hS => ?_)
  have hP : va_P D vwCl ((h0, .inr (11, [.ref q1, .ref q4, .ref q7, .null, .null, .null, .null, .null, .null, .null, .null, .null, .int 0])) :: (T6 ++ [(q7, .inr (2, [.ref n9, .ref n10, .ref n11, .int 0, .ref n12, .int 0])), (n9, .inl (D.1 13, 60, .inl (fun _ => 0))), (n10, .inl (D.1 13, 60, .inl (fun _ => 0))), (n11, .inl (D.1 13, 60, .inl (fun _ => 0))), (n12, .inl (D.1 17, 20, .inr (.inr (.inr (.inr (fun _ => none))))))])) H := hP
  have hD : va_D A ((h0, .inr (11, [.ref q1, .ref q4, .ref q7, .null, .null, .null, .null, .null, .null, .null, .null, .null, .int 0])) :: (T6 ++ [(q7, .inr (2, [.ref n9, .ref n10, .ref n11, .int 0, .ref n12, .int 0])), (n9, .inl (D.1 13, 60, .inl (fun _ => 0))), (n10, .inl (D.1 13, 60, .inl (fun _ => 0))), (n11, .inl (D.1 13, 60, .inl (fun _ => 0))), (n12, .inl (D.1 17, 20, .inr (.inr (.inr (.inr (fun _ => none))))))])) := hD
  obtain ⟨T13, hT13⟩ : ∃ z : va_W, T6 ++ [(q7, .inr (2, [.ref n9, .ref n10, .ref n11, .int 0, .ref n12, .int 0])), (n9, .inl (D.1 13, 60, .inl (fun _ => 0))), (n10, .inl (D.1 13, 60, .inl (fun _ => 0))), (n11, .inl (D.1 13, 60, .inl (fun _ => 0))), (n12, .inl (D.1 17, 20, .inr (.inr (.inr (.inr (fun _ => none))))))] = z := ⟨_, rfl⟩
  rw [hT13] at hP hD
  refine lv_aload_n hx hb dX11_init_41 rfl (lv_at hl 0 rfl) ?_
  refine va_new (ci := 7) (fs := [.int 0, .null, .null, .null, .int 0, .null]) (C := RX7) (T := TX7) (N := 6) hx hb ht inX7 tyX7 tyX7_ok hown (ht _ cx_X11_32) (ht _ ia_X7) (ht _ in_X7) hK hP hD hS hA rfl (by decide +kernel) (Nat.le_of_ble_eq_true rfl) (Nat.le_of_ble_eq_true rfl) dX11_init_42 (fun q14 H hP hD hS => ?_)
  refine W.widen (k := 10) (n := 2005) (Nat.le_of_ble_eq_true rfl) (Nat.le_of_ble_eq_true rfl) ?_
  obtain ⟨hP, hD⟩ := z_rot2 hP hD
  refine lv_dup hx hb dX11_init_45 rfl ?_
  refine zwIN (As := []) (rest := [.ref q14, .ref h0]) (n := 0) (wr := (h0, .inr (11, [.ref q1, .ref q4, .ref q7, .null, .null, .null, .null, .null, .null, .null, .null, .null, .int 0])) :: T13) ⟨hx, hb, hml, hown, ht⟩ (k_X7_init l D _ q14) co_X7_init rfl rfl in_X7 hE.1.2.2.1 im_X7_init rfl (by decide +kernel) ⟨Nat.le_of_ble_eq_true rfl, Nat.le_of_ble_eq_true rfl⟩ hK hP hD hS hA [0] (irl _) rfl irl_map rfl irl_nd irl_dis rfl hl.1 rfl (Nat.le_of_ble_eq_true rfl) dX11_init_46 ⟨Nat.le_of_ble_eq_true rfl, Nat.le_of_ble_eq_true rfl⟩ (fun u15 H locs hw hP hD hS => ?_)
  refine W.widen (k := 14) (n := 2045) (Nat.le_of_ble_eq_true rfl) (Nat.le_of_ble_eq_true rfl) ?_
  obtain ⟨n16, n17, n18, n19⟩ := u15
  refine va_putF (D := D) (ci := 11) (v := .ref q14) (ty := .object "CloneVolumes$Sight") (C := RX11) (T := TX11) (N := 13) hx hb ht inX11 tyX11 tyX11_ok nmX11 hown hK hP hD hS 0 rfl rfl 3 (by decide) (ht (.fieldLink RX11 35 "CloneVolumes" "sight" "LCloneVolumes$Sight;") fl_X11_35) (fun _ h9 => h9) rfl hin rfl (by decide +kernel) rfl rfl (Nat.le_of_ble_eq_true rfl) dX11_init_49 (fun H locs hP hD hS => ?_)
  have hP : va_P D vwCl ((h0, .inr (11, [.ref q1, .ref q4, .ref q7, .ref q14, .null, .null, .null, .null, .null, .null, .null, .null, .int 0])) :: (T13 ++ [(q14, .inr (7, [.int 0, .ref n16, .ref n17, .ref n18, .int 0, .ref n19])), (n16, .inl (D.1 13, 12, .inl (fun _ => 0))), (n17, .inl (D.1 13, 12, .inl (fun _ => 0))), (n18, .inl (D.1 13, 8, .inl (fun _ => 0))), (n19, .inl (D.1 13, 8, .inl (fun _ => 0)))])) H := hP
  have hD : va_D A ((h0, .inr (11, [.ref q1, .ref q4, .ref q7, .ref q14, .null, .null, .null, .null, .null, .null, .null, .null, .int 0])) :: (T13 ++ [(q14, .inr (7, [.int 0, .ref n16, .ref n17, .ref n18, .int 0, .ref n19])), (n16, .inl (D.1 13, 12, .inl (fun _ => 0))), (n17, .inl (D.1 13, 12, .inl (fun _ => 0))), (n18, .inl (D.1 13, 8, .inl (fun _ => 0))), (n19, .inl (D.1 13, 8, .inl (fun _ => 0)))])) := hD
  obtain ⟨T20, hT20⟩ : ∃ z : va_W, T13 ++ [(q14, .inr (7, [.int 0, .ref n16, .ref n17, .ref n18, .int 0, .ref n19])), (n16, .inl (D.1 13, 12, .inl (fun _ => 0))), (n17, .inl (D.1 13, 12, .inl (fun _ => 0))), (n18, .inl (D.1 13, 8, .inl (fun _ => 0))), (n19, .inl (D.1 13, 8, .inl (fun _ => 0)))] = z := ⟨_, rfl⟩
  rw [hT20] at hP hD
  refine lv_aload_n hx hb dX11_init_52 rfl (lv_at hl 0 rfl) ?_
  refine va_new (ci := 4) (fs := [.null, .int 0, .int 0, .null, .null, .null]) (C := RX4) (T := TX4) (N := 6) hx hb ht inX4 tyX4 tyX4_ok hown (ht _ cx_X11_39) (ht _ ia_X4) (ht _ in_X4) hK hP hD hS hA rfl (by decide +kernel) (Nat.le_of_ble_eq_true rfl) (Nat.le_of_ble_eq_true rfl) dX11_init_53 (fun q21 H hP hD hS => ?_)
  refine W.widen (k := 15) (n := 2051) (Nat.le_of_ble_eq_true rfl) (Nat.le_of_ble_eq_true rfl) ?_
  obtain ⟨hP, hD⟩ := z_rot2 hP hD
  refine lv_dup hx hb dX11_init_56 rfl ?_
  refine zwIN (As := []) (rest := [.ref q21, .ref h0]) (n := 0) (wr := (h0, .inr (11, [.ref q1, .ref q4, .ref q7, .ref q14, .null, .null, .null, .null, .null, .null, .null, .null, .int 0])) :: T20) ⟨hx, hb, hml, hown, ht⟩ (k_X4_init l D _ q21) co_X4_init rfl rfl in_X4 hE.1.2.2.2.1 im_X4_init rfl (by decide +kernel) ⟨Nat.le_of_ble_eq_true rfl, Nat.le_of_ble_eq_true rfl⟩ hK hP hD hS hA [0] (irl _) rfl irl_map rfl irl_nd irl_dis rfl hl.1 rfl (Nat.le_of_ble_eq_true rfl) dX11_init_57 ⟨Nat.le_of_ble_eq_true rfl, Nat.le_of_ble_eq_true rfl⟩ (fun u22 H locs hw hP hD hS => ?_)
  refine W.widen (k := 19) (n := 3559) (Nat.le_of_ble_eq_true rfl) (Nat.le_of_ble_eq_true rfl) ?_
  obtain ⟨n23, n24, n25, n26⟩ := u22
  refine va_putF (D := D) (ci := 11) (v := .ref q21) (ty := .object "CloneVolumes$Picture") (C := RX11) (T := TX11) (N := 13) hx hb ht inX11 tyX11 tyX11_ok nmX11 hown hK hP hD hS 0 rfl rfl 4 (by decide) (ht (.fieldLink RX11 42 "CloneVolumes" "picture" "LCloneVolumes$Picture;") fl_X11_42) (fun _ h9 => h9) rfl hin rfl (by decide +kernel) rfl rfl (Nat.le_of_ble_eq_true rfl) dX11_init_60 (fun H locs hP hD hS => ?_)
  have hP : va_P D vwCl ((h0, .inr (11, [.ref q1, .ref q4, .ref q7, .ref q14, .ref q21, .null, .null, .null, .null, .null, .null, .null, .int 0])) :: (T20 ++ [(q21, .inr (4, [.ref n23, .int 0, .int 0, .ref n24, .ref n25, .ref n26])), (n23, .inl (D.1 13, 1364, .inl (fun _ => 0))), (n24, .inl (D.1 13, 48, .inl (fun _ => 0))), (n25, .inl (D.1 13, 48, .inl (fun _ => 0))), (n26, .inl (D.1 13, 48, .inl (fun _ => 0)))])) H := hP
  have hD : va_D A ((h0, .inr (11, [.ref q1, .ref q4, .ref q7, .ref q14, .ref q21, .null, .null, .null, .null, .null, .null, .null, .int 0])) :: (T20 ++ [(q21, .inr (4, [.ref n23, .int 0, .int 0, .ref n24, .ref n25, .ref n26])), (n23, .inl (D.1 13, 1364, .inl (fun _ => 0))), (n24, .inl (D.1 13, 48, .inl (fun _ => 0))), (n25, .inl (D.1 13, 48, .inl (fun _ => 0))), (n26, .inl (D.1 13, 48, .inl (fun _ => 0)))])) := hD
  obtain ⟨T27, hT27⟩ : ∃ z : va_W, T20 ++ [(q21, .inr (4, [.ref n23, .int 0, .int 0, .ref n24, .ref n25, .ref n26])), (n23, .inl (D.1 13, 1364, .inl (fun _ => 0))), (n24, .inl (D.1 13, 48, .inl (fun _ => 0))), (n25, .inl (D.1 13, 48, .inl (fun _ => 0))), (n26, .inl (D.1 13, 48, .inl (fun _ => 0)))] = z := ⟨_, rfl⟩
  rw [hT27] at hP hD
  refine lv_aload_n hx hb dX11_init_63 rfl (lv_at hl 0 rfl) ?_
  refine va_new (ci := 10) (fs := [.null, .int 0, .null, .null]) (C := RX10) (T := TX10) (N := 4) hx hb ht inX10 tyX10 tyX10_ok hown (ht _ cx_X11_46) (ht _ ia_X10) (ht _ in_X10) hK hP hD hS hA rfl (by decide +kernel) (Nat.le_of_ble_eq_true rfl) (Nat.le_of_ble_eq_true rfl) dX11_init_64 (fun q28 H hP hD hS => ?_)
  refine W.widen (k := 20) (n := 3563) (Nat.le_of_ble_eq_true rfl) (Nat.le_of_ble_eq_true rfl) ?_
  obtain ⟨hP, hD⟩ := z_rot2 hP hD
  refine lv_dup hx hb dX11_init_67 rfl ?_
  refine zwIN (As := []) (rest := [.ref q28, .ref h0]) (n := 0) (wr := (h0, .inr (11, [.ref q1, .ref q4, .ref q7, .ref q14, .ref q21, .null, .null, .null, .null, .null, .null, .null, .int 0])) :: T27) ⟨hx, hb, hml, hown, ht⟩ (k_X10_init l D _ q28) co_X10_init rfl rfl in_X10 hE.1.2.2.2.2.1 im_X10_init rfl (by decide +kernel) ⟨Nat.le_of_ble_eq_true rfl, Nat.le_of_ble_eq_true rfl⟩ hK hP hD hS hA [0] (irl _) rfl irl_map rfl irl_nd irl_dis rfl hl.1 rfl (Nat.le_of_ble_eq_true rfl) dX11_init_68 ⟨Nat.le_of_ble_eq_true rfl, Nat.le_of_ble_eq_true rfl⟩ (fun u29 H locs hw hP hD hS => ?_)
  refine W.widen (k := 23) (n := 4187) (Nat.le_of_ble_eq_true rfl) (Nat.le_of_ble_eq_true rfl) ?_
  obtain ⟨n30, n31, n32⟩ := u29
  refine va_putF (D := D) (ci := 11) (v := .ref q28) (ty := .object "CloneVolumes$Walk") (C := RX11) (T := TX11) (N := 13) hx hb ht inX11 tyX11 tyX11_ok nmX11 hown hK hP hD hS 0 rfl rfl 5 (by decide) (ht (.fieldLink RX11 49 "CloneVolumes" "walk" "LCloneVolumes$Walk;") fl_X11_49) (fun _ h9 => h9) rfl hin rfl (by decide +kernel) rfl rfl (Nat.le_of_ble_eq_true rfl) dX11_init_71 (fun H locs hP hD hS => ?_)
  have hP : va_P D vwCl ((h0, .inr (11, [.ref q1, .ref q4, .ref q7, .ref q14, .ref q21, .ref q28, .null, .null, .null, .null, .null, .null, .int 0])) :: (T27 ++ [(q28, .inr (10, [.ref n30, .int 0, .ref n31, .ref n32])), (n30, .inl (D.1 13, 48, .inl (fun _ => 0))), (n31, .inl (D.1 13, 288, .inl (fun _ => 0))), (n32, .inl (D.1 13, 288, .inl (fun _ => 0)))])) H := hP
  have hD : va_D A ((h0, .inr (11, [.ref q1, .ref q4, .ref q7, .ref q14, .ref q21, .ref q28, .null, .null, .null, .null, .null, .null, .int 0])) :: (T27 ++ [(q28, .inr (10, [.ref n30, .int 0, .ref n31, .ref n32])), (n30, .inl (D.1 13, 48, .inl (fun _ => 0))), (n31, .inl (D.1 13, 288, .inl (fun _ => 0))), (n32, .inl (D.1 13, 288, .inl (fun _ => 0)))])) := hD
  obtain ⟨T33, hT33⟩ : ∃ z : va_W, T27 ++ [(q28, .inr (10, [.ref n30, .int 0, .ref n31, .ref n32])), (n30, .inl (D.1 13, 48, .inl (fun _ => 0))), (n31, .inl (D.1 13, 288, .inl (fun _ => 0))), (n32, .inl (D.1 13, 288, .inl (fun _ => 0)))] = z := ⟨_, rfl⟩
  rw [hT33] at hP hD
  refine lv_aload_n hx hb dX11_init_74 rfl (lv_at hl 0 rfl) ?_
  refine va_new (ci := 10) (fs := [.null, .int 0, .null, .null]) (C := RX10) (T := TX10) (N := 4) hx hb ht inX10 tyX10 tyX10_ok hown (ht _ cx_X11_46) (ht _ ia_X10) (ht _ in_X10) hK hP hD hS hA rfl (by decide +kernel) (Nat.le_of_ble_eq_true rfl) (Nat.le_of_ble_eq_true rfl) dX11_init_75 (fun q34 H hP hD hS => ?_)
  refine W.widen (k := 24) (n := 4191) (Nat.le_of_ble_eq_true rfl) (Nat.le_of_ble_eq_true rfl) ?_
  obtain ⟨hP, hD⟩ := z_rot2 hP hD
  refine lv_dup hx hb dX11_init_78 rfl ?_
  refine zwIN (As := []) (rest := [.ref q34, .ref h0]) (n := 0) (wr := (h0, .inr (11, [.ref q1, .ref q4, .ref q7, .ref q14, .ref q21, .ref q28, .null, .null, .null, .null, .null, .null, .int 0])) :: T33) ⟨hx, hb, hml, hown, ht⟩ (k_X10_init l D _ q34) co_X10_init rfl rfl in_X10 hE.1.2.2.2.2.1 im_X10_init rfl (by decide +kernel) ⟨Nat.le_of_ble_eq_true rfl, Nat.le_of_ble_eq_true rfl⟩ hK hP hD hS hA [0] (irl _) rfl irl_map rfl irl_nd irl_dis rfl hl.1 rfl (Nat.le_of_ble_eq_true rfl) dX11_init_79 ⟨Nat.le_of_ble_eq_true rfl, Nat.le_of_ble_eq_true rfl⟩ (fun u35 H locs hw hP hD hS => ?_)
  refine W.widen (k := 27) (n := 4815) (Nat.le_of_ble_eq_true rfl) (Nat.le_of_ble_eq_true rfl) ?_
  obtain ⟨n36, n37, n38⟩ := u35
  refine va_putF (D := D) (ci := 11) (v := .ref q34) (ty := .object "CloneVolumes$Walk") (C := RX11) (T := TX11) (N := 13) hx hb ht inX11 tyX11 tyX11_ok nmX11 hown hK hP hD hS 0 rfl rfl 6 (by decide) (ht (.fieldLink RX11 53 "CloneVolumes" "otherWalk" "LCloneVolumes$Walk;") fl_X11_53) (fun _ h9 => h9) rfl hin rfl (by decide +kernel) rfl rfl (Nat.le_of_ble_eq_true rfl) dX11_init_82 (fun H locs hP hD hS => ?_)
  have hP : va_P D vwCl ((h0, .inr (11, [.ref q1, .ref q4, .ref q7, .ref q14, .ref q21, .ref q28, .ref q34, .null, .null, .null, .null, .null, .int 0])) :: (T33 ++ [(q34, .inr (10, [.ref n36, .int 0, .ref n37, .ref n38])), (n36, .inl (D.1 13, 48, .inl (fun _ => 0))), (n37, .inl (D.1 13, 288, .inl (fun _ => 0))), (n38, .inl (D.1 13, 288, .inl (fun _ => 0)))])) H := hP
  have hD : va_D A ((h0, .inr (11, [.ref q1, .ref q4, .ref q7, .ref q14, .ref q21, .ref q28, .ref q34, .null, .null, .null, .null, .null, .int 0])) :: (T33 ++ [(q34, .inr (10, [.ref n36, .int 0, .ref n37, .ref n38])), (n36, .inl (D.1 13, 48, .inl (fun _ => 0))), (n37, .inl (D.1 13, 288, .inl (fun _ => 0))), (n38, .inl (D.1 13, 288, .inl (fun _ => 0)))])) := hD
  obtain ⟨T39, hT39⟩ : ∃ z : va_W, T33 ++ [(q34, .inr (10, [.ref n36, .int 0, .ref n37, .ref n38])), (n36, .inl (D.1 13, 48, .inl (fun _ => 0))), (n37, .inl (D.1 13, 288, .inl (fun _ => 0))), (n38, .inl (D.1 13, 288, .inl (fun _ => 0)))] = z := ⟨_, rfl⟩
  rw [hT39] at hP hD
  refine lv_aload_n hx hb dX11_init_85 rfl (lv_at hl 0 rfl) ?_
  refine lv_bipush (v := 8) hx hb dX11_init_86 (by decide) ?_
  refine va_newa (atype := .long) (a0 := (8, .inr (.inl (fun _ => 0)))) (ty := .long) (N' := 8) hx hb (ht _ ac_long) rfl hK hP hD hS hA (fun _ => rfl) (by decide) (by decide) (by decide) (Nat.le_of_ble_eq_true rfl) (Nat.le_of_ble_eq_true rfl) dX11_init_88 (fun q40 cA H hK2 hP hD hS => ?_)
  obtain rfl := z_cls_long hK hK2
  refine W.widen (k := 28) (n := 4823) (Nat.le_of_ble_eq_true rfl) (Nat.le_of_ble_eq_true rfl) ?_
  refine va_putF (D := D) (ci := 11) (v := .ref q40) (ty := .array .long) (C := RX11) (T := TX11) (N := 13) hx hb ht inX11 tyX11 tyX11_ok nmX11 hown hK hP hD hS 0 rfl rfl 7 (by decide) (ht (.fieldLink RX11 56 "CloneVolumes" "trees" "[J") fl_X11_56) (fun _ h9 => h9) rfl hin rfl (by decide +kernel) rfl rfl (Nat.le_of_ble_eq_true rfl) dX11_init_90 (fun H locs hP hD hS => ?_)
  have hP : va_P D vwCl ((h0, .inr (11, [.ref q1, .ref q4, .ref q7, .ref q14, .ref q21, .ref q28, .ref q34, .ref q40, .null, .null, .null, .null, .int 0])) :: (T39 ++ [(q40, .inl (D.1 15, 8, .inr (.inl (fun _ => 0))))])) H := hP
  have hD : va_D A ((h0, .inr (11, [.ref q1, .ref q4, .ref q7, .ref q14, .ref q21, .ref q28, .ref q34, .ref q40, .null, .null, .null, .null, .int 0])) :: (T39 ++ [(q40, .inl (D.1 15, 8, .inr (.inl (fun _ => 0))))])) := hD
  obtain ⟨T41, hT41⟩ : ∃ z : va_W, T39 ++ [(q40, .inl (D.1 15, 8, .inr (.inl (fun _ => 0))))] = z := ⟨_, rfl⟩
  rw [hT41] at hP hD
  refine lv_aload_n hx hb dX11_init_93 rfl (lv_at hl 0 rfl) ?_
  refine lv_bipush (v := 6) hx hb dX11_init_94 (by decide) ?_
  refine va_newa (atype := .int) (a0 := (6, .inl (fun _ => 0))) (ty := .int) (N' := 6) hx hb (ht _ ac_int) rfl hK hP hD hS hA (fun _ => rfl) (by decide) (by decide) (by decide) (Nat.le_of_ble_eq_true rfl) (Nat.le_of_ble_eq_true rfl) dX11_init_96 (fun q42 cA H hK2 hP hD hS => ?_)
  obtain rfl := z_cls_int hK hK2
  refine W.widen (k := 29) (n := 4829) (Nat.le_of_ble_eq_true rfl) (Nat.le_of_ble_eq_true rfl) ?_
  refine va_putF (D := D) (ci := 11) (v := .ref q42) (ty := .array .int) (C := RX11) (T := TX11) (N := 13) hx hb ht inX11 tyX11 tyX11_ok nmX11 hown hK hP hD hS 0 rfl rfl 8 (by decide) (ht (.fieldLink RX11 60 "CloneVolumes" "refused" "[I") fl_X11_60) (fun _ h9 => h9) rfl hin rfl (by decide +kernel) rfl rfl (Nat.le_of_ble_eq_true rfl) dX11_init_98 (fun H locs hP hD hS => ?_)
  have hP : va_P D vwCl ((h0, .inr (11, [.ref q1, .ref q4, .ref q7, .ref q14, .ref q21, .ref q28, .ref q34, .ref q40, .ref q42, .null, .null, .null, .int 0])) :: (T41 ++ [(q42, .inl (D.1 13, 6, .inl (fun _ => 0)))])) H := hP
  have hD : va_D A ((h0, .inr (11, [.ref q1, .ref q4, .ref q7, .ref q14, .ref q21, .ref q28, .ref q34, .ref q40, .ref q42, .null, .null, .null, .int 0])) :: (T41 ++ [(q42, .inl (D.1 13, 6, .inl (fun _ => 0)))])) := hD
  obtain ⟨T43, hT43⟩ : ∃ z : va_W, T41 ++ [(q42, .inl (D.1 13, 6, .inl (fun _ => 0)))] = z := ⟨_, rfl⟩
  rw [hT43] at hP hD
  refine lv_aload_n hx hb dX11_init_101 rfl (lv_at hl 0 rfl) ?_
  refine va_new (ci := 5) (fs := [.int 0, .int 0, .int 0, .int 0, .int 0, .int 0, .null, .null, .null, .null, .null, .null, .null, .null]) (C := RX5) (T := TX5) (N := 14) hx hb ht inX5 tyX5 tyX5_ok hown (ht _ cx_X11_64) (ht _ ia_X5) (ht _ in_X5) hK hP hD hS hA rfl (by decide +kernel) (Nat.le_of_ble_eq_true rfl) (Nat.le_of_ble_eq_true rfl) dX11_init_102 (fun q44 H hP hD hS => ?_)
  refine W.widen (k := 30) (n := 4843) (Nat.le_of_ble_eq_true rfl) (Nat.le_of_ble_eq_true rfl) ?_
  obtain ⟨hP, hD⟩ := z_rot2 hP hD
  refine lv_dup hx hb dX11_init_105 rfl ?_
  refine zwIE (As := []) (rest := [.ref q44, .ref h0]) (n := 0) (wr := (h0, .inr (11, [.ref q1, .ref q4, .ref q7, .ref q14, .ref q21, .ref q28, .ref q34, .ref q40, .ref q42, .null, .null, .null, .int 0])) :: T43) ⟨hx, hb, hml, hown, ht⟩ (k_X5_init l D _ b0 qS vS fS q44) co_X5_init rfl rfl in_X5 ml_X11_66 im_X5_init rfl (by decide +kernel) ⟨Nat.le_of_ble_eq_true rfl, Nat.le_of_ble_eq_true rfl⟩ hK hP hD hS hA hE hAb [0] (irl _) rfl irl_map rfl irl_nd irl_dis rfl hl.1 rfl (Nat.le_of_ble_eq_true rfl) dX11_init_106 ⟨Nat.le_of_ble_eq_true rfl, Nat.le_of_ble_eq_true rfl⟩ (fun u45 H locs hw hP hD hS => ?_)
  refine W.widen (k := 39) (n := 6739) (Nat.le_of_ble_eq_true rfl) (Nat.le_of_ble_eq_true rfl) ?_
  obtain ⟨n46, n47, n48, n49, n50, n51, n52, n53, n54, f55, f56⟩ := u45
  refine va_put (D := D) (ci := 11) (v := .ref q44) (ty := .object "CloneVolumes$Plan") (C := RX11) (T := TX11) (N := 13) hx hb ht inX11 tyX11 tyX11_ok nmX11 hown hK hP hD hS 0 rfl rfl 9 (by decide) (ht (.fieldLink RX11 67 "CloneVolumes" "plan" "LCloneVolumes$Plan;") fl_X11_67) (fun _ h9 => h9) rfl (by decide +kernel) rfl rfl (Nat.le_of_ble_eq_true rfl) dX11_init_109 (fun H locs hP hD hS => ?_)
  have hP : va_P D vwCl ((h0, .inr (11, [.ref q1, .ref q4, .ref q7, .ref q14, .ref q21, .ref q28, .ref q34, .ref q40, .ref q42, .ref q44, .null, .null, .int 0])) :: (T43 ++ [(n46, .inl (D.1 13, 48, .inl (fun _ => 0))), (n47, .inl (D.1 13, 60, .inl (fun _ => 0))), (n48, .inl (D.1 13, 60, .inl (fun _ => 0))), (n49, .inl (D.1 13, 60, .inl (fun _ => 0))), (n50, .inl (D.1 13, 60, .inl (fun _ => 0))), (n51, .inl (D.1 13, 1600, .inl (fun _ => 0))), (q44, .inr (5, [.int 0, .int 0, .int 0, .int 0, .int 0, .int 0, .ref n46, .ref n47, .ref n48, .ref n49, .ref n50, .ref n52, .ref n53, .ref n54])), (n52, .inr (0, [.ref n51, .int 0])), (n53, .inl (D.1 13, 3, .inl f55)), (n54, .inl (D.1 13, 3, .inl f56))])) H := hP
  have hD : va_D A ((h0, .inr (11, [.ref q1, .ref q4, .ref q7, .ref q14, .ref q21, .ref q28, .ref q34, .ref q40, .ref q42, .ref q44, .null, .null, .int 0])) :: (T43 ++ [(n46, .inl (D.1 13, 48, .inl (fun _ => 0))), (n47, .inl (D.1 13, 60, .inl (fun _ => 0))), (n48, .inl (D.1 13, 60, .inl (fun _ => 0))), (n49, .inl (D.1 13, 60, .inl (fun _ => 0))), (n50, .inl (D.1 13, 60, .inl (fun _ => 0))), (n51, .inl (D.1 13, 1600, .inl (fun _ => 0))), (q44, .inr (5, [.int 0, .int 0, .int 0, .int 0, .int 0, .int 0, .ref n46, .ref n47, .ref n48, .ref n49, .ref n50, .ref n52, .ref n53, .ref n54])), (n52, .inr (0, [.ref n51, .int 0])), (n53, .inl (D.1 13, 3, .inl f55)), (n54, .inl (D.1 13, 3, .inl f56))])) := hD
  obtain ⟨T57, hT57⟩ : ∃ z : va_W, T43 ++ [(n46, .inl (D.1 13, 48, .inl (fun _ => 0))), (n47, .inl (D.1 13, 60, .inl (fun _ => 0))), (n48, .inl (D.1 13, 60, .inl (fun _ => 0))), (n49, .inl (D.1 13, 60, .inl (fun _ => 0))), (n50, .inl (D.1 13, 60, .inl (fun _ => 0))), (n51, .inl (D.1 13, 1600, .inl (fun _ => 0))), (q44, .inr (5, [.int 0, .int 0, .int 0, .int 0, .int 0, .int 0, .ref n46, .ref n47, .ref n48, .ref n49, .ref n50, .ref n52, .ref n53, .ref n54])), (n52, .inr (0, [.ref n51, .int 0])), (n53, .inl (D.1 13, 3, .inl f55)), (n54, .inl (D.1 13, 3, .inl f56))] = z := ⟨_, rfl⟩
  rw [hT57] at hP hD
  refine lv_aload_n hx hb dX11_init_112 rfl (lv_at hl 0 rfl) ?_
  refine va_new (ci := 5) (fs := [.int 0, .int 0, .int 0, .int 0, .int 0, .int 0, .null, .null, .null, .null, .null, .null, .null, .null]) (C := RX5) (T := TX5) (N := 14) hx hb ht inX5 tyX5 tyX5_ok hown (ht _ cx_X11_64) (ht _ ia_X5) (ht _ in_X5) hK hP hD hS hA rfl (by decide +kernel) (Nat.le_of_ble_eq_true rfl) (Nat.le_of_ble_eq_true rfl) dX11_init_113 (fun q58 H hP hD hS => ?_)
  refine W.widen (k := 40) (n := 6753) (Nat.le_of_ble_eq_true rfl) (Nat.le_of_ble_eq_true rfl) ?_
  obtain ⟨hP, hD⟩ := z_rot2 hP hD
  refine lv_dup hx hb dX11_init_116 rfl ?_
  refine zwIE (As := []) (rest := [.ref q58, .ref h0]) (n := 0) (wr := (h0, .inr (11, [.ref q1, .ref q4, .ref q7, .ref q14, .ref q21, .ref q28, .ref q34, .ref q40, .ref q42, .ref q44, .null, .null, .int 0])) :: T57) ⟨hx, hb, hml, hown, ht⟩ (k_X5_init l D _ b0 qS vS fS q58) co_X5_init rfl rfl in_X5 ml_X11_66 im_X5_init rfl (by decide +kernel) ⟨Nat.le_of_ble_eq_true rfl, Nat.le_of_ble_eq_true rfl⟩ hK hP hD hS hA hE hAb [0] (irl _) rfl irl_map rfl irl_nd irl_dis rfl hl.1 rfl (Nat.le_of_ble_eq_true rfl) dX11_init_117 ⟨Nat.le_of_ble_eq_true rfl, Nat.le_of_ble_eq_true rfl⟩ (fun u59 H locs hw hP hD hS => ?_)
  refine W.widen (k := 49) (n := 8649) (Nat.le_of_ble_eq_true rfl) (Nat.le_of_ble_eq_true rfl) ?_
  obtain ⟨n60, n61, n62, n63, n64, n65, n66, n67, n68, f69, f70⟩ := u59
  refine va_put (D := D) (ci := 11) (v := .ref q58) (ty := .object "CloneVolumes$Plan") (C := RX11) (T := TX11) (N := 13) hx hb ht inX11 tyX11 tyX11_ok nmX11 hown hK hP hD hS 0 rfl rfl 10 (by decide) (ht (.fieldLink RX11 71 "CloneVolumes" "spare" "LCloneVolumes$Plan;") fl_X11_71) (fun _ h9 => h9) rfl (by decide +kernel) rfl rfl (Nat.le_of_ble_eq_true rfl) dX11_init_120 (fun H locs hP hD hS => ?_)
  have hP : va_P D vwCl ((h0, .inr (11, [.ref q1, .ref q4, .ref q7, .ref q14, .ref q21, .ref q28, .ref q34, .ref q40, .ref q42, .ref q44, .ref q58, .null, .int 0])) :: (T57 ++ [(n60, .inl (D.1 13, 48, .inl (fun _ => 0))), (n61, .inl (D.1 13, 60, .inl (fun _ => 0))), (n62, .inl (D.1 13, 60, .inl (fun _ => 0))), (n63, .inl (D.1 13, 60, .inl (fun _ => 0))), (n64, .inl (D.1 13, 60, .inl (fun _ => 0))), (n65, .inl (D.1 13, 1600, .inl (fun _ => 0))), (q58, .inr (5, [.int 0, .int 0, .int 0, .int 0, .int 0, .int 0, .ref n60, .ref n61, .ref n62, .ref n63, .ref n64, .ref n66, .ref n67, .ref n68])), (n66, .inr (0, [.ref n65, .int 0])), (n67, .inl (D.1 13, 3, .inl f69)), (n68, .inl (D.1 13, 3, .inl f70))])) H := hP
  have hD : va_D A ((h0, .inr (11, [.ref q1, .ref q4, .ref q7, .ref q14, .ref q21, .ref q28, .ref q34, .ref q40, .ref q42, .ref q44, .ref q58, .null, .int 0])) :: (T57 ++ [(n60, .inl (D.1 13, 48, .inl (fun _ => 0))), (n61, .inl (D.1 13, 60, .inl (fun _ => 0))), (n62, .inl (D.1 13, 60, .inl (fun _ => 0))), (n63, .inl (D.1 13, 60, .inl (fun _ => 0))), (n64, .inl (D.1 13, 60, .inl (fun _ => 0))), (n65, .inl (D.1 13, 1600, .inl (fun _ => 0))), (q58, .inr (5, [.int 0, .int 0, .int 0, .int 0, .int 0, .int 0, .ref n60, .ref n61, .ref n62, .ref n63, .ref n64, .ref n66, .ref n67, .ref n68])), (n66, .inr (0, [.ref n65, .int 0])), (n67, .inl (D.1 13, 3, .inl f69)), (n68, .inl (D.1 13, 3, .inl f70))])) := hD
  obtain ⟨T71, hT71⟩ : ∃ z : va_W, T57 ++ [(n60, .inl (D.1 13, 48, .inl (fun _ => 0))), (n61, .inl (D.1 13, 60, .inl (fun _ => 0))), (n62, .inl (D.1 13, 60, .inl (fun _ => 0))), (n63, .inl (D.1 13, 60, .inl (fun _ => 0))), (n64, .inl (D.1 13, 60, .inl (fun _ => 0))), (n65, .inl (D.1 13, 1600, .inl (fun _ => 0))), (q58, .inr (5, [.int 0, .int 0, .int 0, .int 0, .int 0, .int 0, .ref n60, .ref n61, .ref n62, .ref n63, .ref n64, .ref n66, .ref n67, .ref n68])), (n66, .inr (0, [.ref n65, .int 0])), (n67, .inl (D.1 13, 3, .inl f69)), (n68, .inl (D.1 13, 3, .inl f70))] = z := ⟨_, rfl⟩
  rw [hT71] at hP hD
  refine lv_aload_n hx hb dX11_init_123 rfl (lv_at hl 0 rfl) ?_
  refine va_new (ci := 1) (fs := [.null, .null, .null, .int 0, .null, .null, .null, .null, .null]) (C := RX1) (T := TX1) (N := 9) hx hb ht inX1 tyX1 tyX1_ok hown (ht _ cx_X11_74) (ht _ ia_X1) (ht _ in_X1) hK hP hD hS hA rfl (by decide +kernel) (Nat.le_of_ble_eq_true rfl) (Nat.le_of_ble_eq_true rfl) dX11_init_124 (fun q72 H hP hD hS => ?_)
  refine W.widen (k := 50) (n := 8658) (Nat.le_of_ble_eq_true rfl) (Nat.le_of_ble_eq_true rfl) ?_
  obtain ⟨hP, hD⟩ := z_rot2 hP hD
  refine lv_dup hx hb dX11_init_127 rfl ?_
  refine lv_aload_n hx hb dX11_init_128 rfl (lv_at hl 0 rfl) ?_
  refine va_get (D := D) (ci := 11) (v := .ref q44) (C := RX11) (T := TX11) (N := 13) hx hb ht inX11 hown hK hP 1 rfl rfl 9 (by decide) (ht (.fieldLink RX11 67 "CloneVolumes" "plan" "LCloneVolumes$Plan;") fl_X11_67) (fun _ h9 => h9) rfl dX11_init_129 ?_
  refine zwI (As := [.ref q44]) (rest := [.ref q72, .ref h0]) (n := 1) (wr := (h0, .inr (11, [.ref q1, .ref q4, .ref q7, .ref q14, .ref q21, .ref q28, .ref q34, .ref q40, .ref q42, .ref q44, .ref q58, .null, .int 0])) :: T71) ⟨hx, hb, hml, hown, ht⟩ (k_X1_init l D _ q72 q44) co_X1_init rfl rfl in_X1 ml_X11_76 im_X1_init rfl (by decide +kernel) ⟨Nat.le_of_ble_eq_true rfl, Nat.le_of_ble_eq_true rfl⟩ hK hP hD hS hA [0] (irl _) rfl irl_map rfl irl_nd irl_dis rfl hl.1 rfl (Nat.le_of_ble_eq_true rfl) dX11_init_132 ⟨Nat.le_of_ble_eq_true rfl, Nat.le_of_ble_eq_true rfl⟩ (fun u73 H locs hw hP hD hS => ?_)
  refine W.widen (k := 82) (n := 11261) (Nat.le_of_ble_eq_true rfl) (Nat.le_of_ble_eq_true rfl) ?_
  obtain ⟨n74, n75, n76, n77, n78, n79, n80, n81, n82, n83, n84, n85, n86, n87, n88, n89, n90, n91, n92, n93, n94, n95, n96, n97, n98, n99, n100, n101, n102, n103, n104, n105⟩ := u73
  refine va_putF (D := D) (ci := 11) (v := .ref q72) (ty := .object "CloneVolumes$Forest") (C := RX11) (T := TX11) (N := 13) hx hb ht inX11 tyX11 tyX11_ok nmX11 hown hK hP hD hS 0 rfl rfl 11 (by decide) (ht (.fieldLink RX11 79 "CloneVolumes" "forest" "LCloneVolumes$Forest;") fl_X11_79) (fun _ h9 => h9) rfl hin rfl (by decide +kernel) rfl rfl (Nat.le_of_ble_eq_true rfl) dX11_init_135 (fun H locs hP hD hS => ?_)
  have hP : va_P D vwCl ((h0, .inr (11, [.ref q1, .ref q4, .ref q7, .ref q14, .ref q21, .ref q28, .ref q34, .ref q40, .ref q42, .ref q44, .ref q58, .ref q72, .int 0])) :: (T71 ++ [(q72, .inr (1, [.ref n74, .ref n75, .ref n76, .int 1, .ref q44, .ref n77, .ref n78, .ref n79, .ref n80])), (n81, .inl (D.1 13, 288, .inl (fun _ => 0))), (n82, .inl (D.1 13, 288, .inl (fun _ => 0))), (n74, .inr (8, [.int 0, .int 0, .long 0, .ref n83, .ref n84, .ref n85, .ref n86, .ref n81, .ref n82, .ref n87, .ref n88])), (n83, .inl (D.1 13, 48, .inl (fun _ => 0))), (n84, .inl (D.1 13, 48, .inl (fun _ => 0))), (n85, .inl (D.1 13, 48, .inl (fun _ => 0))), (n86, .inl (D.1 13, 48, .inl (fun _ => 0))), (n87, .inl (D.1 13, 8, .inl (fun _ => (-2)))), (n88, .inl (D.1 13, 8, .inl (fun _ => (-2)))), (n89, .inl (D.1 13, 288, .inl (fun _ => 0))), (n90, .inl (D.1 13, 288, .inl (fun _ => 0))), (n75, .inr (8, [.int 0, .int 0, .long 0, .ref n91, .ref n92, .ref n93, .ref n94, .ref n89, .ref n90, .ref n95, .ref n96])), (n91, .inl (D.1 13, 48, .inl (fun _ => 0))), (n92, .inl (D.1 13, 48, .inl (fun _ => 0))), (n93, .inl (D.1 13, 48, .inl (fun _ => 0))), (n94, .inl (D.1 13, 48, .inl (fun _ => 0))), (n95, .inl (D.1 13, 8, .inl (fun _ => (-2)))), (n96, .inl (D.1 13, 8, .inl (fun _ => (-2)))), (n97, .inl (D.1 13, 288, .inl (fun _ => 0))), (n98, .inl (D.1 13, 288, .inl (fun _ => 0))), (n76, .inr (8, [.int 0, .int 0, .long 0, .ref n99, .ref n100, .ref n101, .ref n102, .ref n97, .ref n98, .ref n103, .ref n104])), (n99, .inl (D.1 13, 48, .inl (fun _ => 0))), (n100, .inl (D.1 13, 48, .inl (fun _ => 0))), (n101, .inl (D.1 13, 48, .inl (fun _ => 0))), (n102, .inl (D.1 13, 48, .inl (fun _ => 0))), (n103, .inl (D.1 13, 8, .inl (fun _ => (-2)))), (n104, .inl (D.1 13, 8, .inl (fun _ => (-2)))), (n77, .inr (3, [.ref n105, .int 0, .int 0, .int 0, .int 0, .int 0, .int 0, .int 0, .int 0, .ref n74])), (n105, .inl (D.1 13, 64, .inl (fun _ => 0))), (n78, .inl (D.1 13, 48, .inl (fun _ => 0))), (n79, .inl (D.1 13, 48, .inl (fun _ => 0))), (n80, .inl (D.1 13, 48, .inl (fun _ => 0)))])) H := hP
  have hD : va_D A ((h0, .inr (11, [.ref q1, .ref q4, .ref q7, .ref q14, .ref q21, .ref q28, .ref q34, .ref q40, .ref q42, .ref q44, .ref q58, .ref q72, .int 0])) :: (T71 ++ [(q72, .inr (1, [.ref n74, .ref n75, .ref n76, .int 1, .ref q44, .ref n77, .ref n78, .ref n79, .ref n80])), (n81, .inl (D.1 13, 288, .inl (fun _ => 0))), (n82, .inl (D.1 13, 288, .inl (fun _ => 0))), (n74, .inr (8, [.int 0, .int 0, .long 0, .ref n83, .ref n84, .ref n85, .ref n86, .ref n81, .ref n82, .ref n87, .ref n88])), (n83, .inl (D.1 13, 48, .inl (fun _ => 0))), (n84, .inl (D.1 13, 48, .inl (fun _ => 0))), (n85, .inl (D.1 13, 48, .inl (fun _ => 0))), (n86, .inl (D.1 13, 48, .inl (fun _ => 0))), (n87, .inl (D.1 13, 8, .inl (fun _ => (-2)))), (n88, .inl (D.1 13, 8, .inl (fun _ => (-2)))), (n89, .inl (D.1 13, 288, .inl (fun _ => 0))), (n90, .inl (D.1 13, 288, .inl (fun _ => 0))), (n75, .inr (8, [.int 0, .int 0, .long 0, .ref n91, .ref n92, .ref n93, .ref n94, .ref n89, .ref n90, .ref n95, .ref n96])), (n91, .inl (D.1 13, 48, .inl (fun _ => 0))), (n92, .inl (D.1 13, 48, .inl (fun _ => 0))), (n93, .inl (D.1 13, 48, .inl (fun _ => 0))), (n94, .inl (D.1 13, 48, .inl (fun _ => 0))), (n95, .inl (D.1 13, 8, .inl (fun _ => (-2)))), (n96, .inl (D.1 13, 8, .inl (fun _ => (-2)))), (n97, .inl (D.1 13, 288, .inl (fun _ => 0))), (n98, .inl (D.1 13, 288, .inl (fun _ => 0))), (n76, .inr (8, [.int 0, .int 0, .long 0, .ref n99, .ref n100, .ref n101, .ref n102, .ref n97, .ref n98, .ref n103, .ref n104])), (n99, .inl (D.1 13, 48, .inl (fun _ => 0))), (n100, .inl (D.1 13, 48, .inl (fun _ => 0))), (n101, .inl (D.1 13, 48, .inl (fun _ => 0))), (n102, .inl (D.1 13, 48, .inl (fun _ => 0))), (n103, .inl (D.1 13, 8, .inl (fun _ => (-2)))), (n104, .inl (D.1 13, 8, .inl (fun _ => (-2)))), (n77, .inr (3, [.ref n105, .int 0, .int 0, .int 0, .int 0, .int 0, .int 0, .int 0, .int 0, .ref n74])), (n105, .inl (D.1 13, 64, .inl (fun _ => 0))), (n78, .inl (D.1 13, 48, .inl (fun _ => 0))), (n79, .inl (D.1 13, 48, .inl (fun _ => 0))), (n80, .inl (D.1 13, 48, .inl (fun _ => 0)))])) := hD
  obtain ⟨T106, hT106⟩ : ∃ z : va_W, T71 ++ [(q72, .inr (1, [.ref n74, .ref n75, .ref n76, .int 1, .ref q44, .ref n77, .ref n78, .ref n79, .ref n80])), (n81, .inl (D.1 13, 288, .inl (fun _ => 0))), (n82, .inl (D.1 13, 288, .inl (fun _ => 0))), (n74, .inr (8, [.int 0, .int 0, .long 0, .ref n83, .ref n84, .ref n85, .ref n86, .ref n81, .ref n82, .ref n87, .ref n88])), (n83, .inl (D.1 13, 48, .inl (fun _ => 0))), (n84, .inl (D.1 13, 48, .inl (fun _ => 0))), (n85, .inl (D.1 13, 48, .inl (fun _ => 0))), (n86, .inl (D.1 13, 48, .inl (fun _ => 0))), (n87, .inl (D.1 13, 8, .inl (fun _ => (-2)))), (n88, .inl (D.1 13, 8, .inl (fun _ => (-2)))), (n89, .inl (D.1 13, 288, .inl (fun _ => 0))), (n90, .inl (D.1 13, 288, .inl (fun _ => 0))), (n75, .inr (8, [.int 0, .int 0, .long 0, .ref n91, .ref n92, .ref n93, .ref n94, .ref n89, .ref n90, .ref n95, .ref n96])), (n91, .inl (D.1 13, 48, .inl (fun _ => 0))), (n92, .inl (D.1 13, 48, .inl (fun _ => 0))), (n93, .inl (D.1 13, 48, .inl (fun _ => 0))), (n94, .inl (D.1 13, 48, .inl (fun _ => 0))), (n95, .inl (D.1 13, 8, .inl (fun _ => (-2)))), (n96, .inl (D.1 13, 8, .inl (fun _ => (-2)))), (n97, .inl (D.1 13, 288, .inl (fun _ => 0))), (n98, .inl (D.1 13, 288, .inl (fun _ => 0))), (n76, .inr (8, [.int 0, .int 0, .long 0, .ref n99, .ref n100, .ref n101, .ref n102, .ref n97, .ref n98, .ref n103, .ref n104])), (n99, .inl (D.1 13, 48, .inl (fun _ => 0))), (n100, .inl (D.1 13, 48, .inl (fun _ => 0))), (n101, .inl (D.1 13, 48, .inl (fun _ => 0))), (n102, .inl (D.1 13, 48, .inl (fun _ => 0))), (n103, .inl (D.1 13, 8, .inl (fun _ => (-2)))), (n104, .inl (D.1 13, 8, .inl (fun _ => (-2)))), (n77, .inr (3, [.ref n105, .int 0, .int 0, .int 0, .int 0, .int 0, .int 0, .int 0, .int 0, .ref n74])), (n105, .inl (D.1 13, 64, .inl (fun _ => 0))), (n78, .inl (D.1 13, 48, .inl (fun _ => 0))), (n79, .inl (D.1 13, 48, .inl (fun _ => 0))), (n80, .inl (D.1 13, 48, .inl (fun _ => 0)))] = z := ⟨_, rfl⟩
  rw [hT106] at hP hD
  rw [← hT106] at hP hD
  rw [← hT71] at hP hD
  rw [← hT57] at hP hD
  rw [← hT43] at hP hD
  rw [← hT41] at hP hD
  rw [← hT39] at hP hD
  rw [← hT33] at hP hD
  rw [← hT27] at hP hD
  rw [← hT20] at hP hD
  rw [← hT13] at hP hD
  rw [← hT6] at hP hD
  rw [← hT3] at hP hD
  rw [hT0] at hP hD
  rw [show (fun j => zw (fS j)) = (fun j => i2 ((zw (fS j)).toInt)) from funext (fun j => (i2_of _).symm)] at hP hD
  obtain ⟨g35, hg35⟩ : ∃ g : Nat → Int, f55 = fun j => i2 (g j) := ⟨fun j => (f55 j).toInt, by funext j; exact (i2_of _).symm⟩
  subst hg35
  obtain ⟨g36, hg36⟩ : ∃ g : Nat → Int, f56 = fun j => i2 (g j) := ⟨fun j => (f56 j).toInt, by funext j; exact (i2_of _).symm⟩
  subst hg36
  obtain ⟨g45, hg45⟩ : ∃ g : Nat → Int, f69 = fun j => i2 (g j) := ⟨fun j => (f69 j).toInt, by funext j; exact (i2_of _).symm⟩
  subst hg45
  obtain ⟨g46, hg46⟩ : ∃ g : Nat → Int, f70 = fun j => i2 (g j) := ⟨fun j => (f70 j).toInt, by funext j; exact (i2_of _).symm⟩
  subst hg46
  obtain ⟨a, ha⟩ : ∃ a : Nat → Nat, a = fun k => (h0 :: q40 :: q42 :: q1 :: u2 :: q4 :: u5 :: q7 :: n9 :: n10 :: n11 :: q14 :: n16 :: n17 :: n18 :: n19 :: q21 :: n23 :: n24 :: n25 :: n26 :: q28 :: n30 :: n31 :: n32 :: q34 :: n36 :: n37 :: n38 :: q44 :: n46 :: n47 :: n48 :: n49 :: n50 :: n53 :: n54 :: n52 :: n51 :: q58 :: n60 :: n61 :: n62 :: n63 :: n64 :: n67 :: n68 :: n66 :: n65 :: q72 :: n78 :: n79 :: n80 :: n74 :: n83 :: n84 :: n85 :: n86 :: n81 :: n82 :: n87 :: n88 :: n75 :: n91 :: n92 :: n93 :: n94 :: n89 :: n90 :: n95 :: n96 :: n76 :: n99 :: n100 :: n101 :: n102 :: n97 :: n98 :: n103 :: n104 :: n77 :: n105 :: 0 :: 0 :: 0 :: 0 :: 0 :: 0 :: 0 :: 0 :: n12 :: [] : List Nat).getD k 0 := ⟨_, rfl⟩
  have hP9 : va_P D vwCl (XW D a (cw0 (fun j => (zw (fS j)).toInt) g35 g36 g45 g46) []) H := by rw [ha]; exact hP.sub [0, 28, 29, 1, 2, 3, 4, 5, 6, 7, 8, 10, 11, 12, 13, 14, 15, 16, 17, 18, 19, 20, 21, 22, 23, 24, 25, 26, 27, 36, 30, 31, 32, 33, 34, 38, 39, 37, 35, 46, 40, 41, 42, 43, 44, 48, 49, 47, 45, 50, 80, 81, 82, 53, 54, 55, 56, 57, 51, 52, 58, 59, 62, 63, 64, 65, 66, 60, 61, 67, 68, 71, 72, 73, 74, 75, 69, 70, 76, 77, 78, 79, 9] rfl
  have hD9 : va_D A (XW D a (cw0 (fun j => (zw (fS j)).toInt) g35 g36 g45 g46) []) := by rw [ha]; exact hD.sub [0, 28, 29, 1, 2, 3, 4, 5, 6, 7, 8, 10, 11, 12, 13, 14, 15, 16, 17, 18, 19, 20, 21, 22, 23, 24, 25, 26, 27, 36, 30, 31, 32, 33, 34, 38, 39, 37, 35, 46, 40, 41, 42, 43, 44, 48, 49, 47, 45, 50, 80, 81, 82, 53, 54, 55, 56, 57, 51, 52, 58, 59, 62, 63, 64, 65, 66, 60, 61, 67, 68, 71, 72, 73, 74, 75, 69, 70, 76, 77, 78, 79, 9] (by decide) rfl
  exact W.vret hx hb hr (fun t ht hW => ⟨⟨(a, (fun j => (zw (fS j)).toInt), g35, g36, g45, g46), rfl, ⟨by rw [ha]; rfl, rfl⟩, by rw [ht]; exact hP9, va_K.moved hW.alike hK, hD9⟩, hS.F ht⟩) hS.2.2 dX11_init_138
set_option maxHeartbeats 4000000 in
set_option maxRecDepth 100000 in
theorem cM_1 {p : Program} {l : Launch} {e : Env} {R : Room} {s : State} {m : MethodId} {args : Array Value} {below : List Frame} {meth : Method} {c : Code} {Q : State → Prop} {D : va_G} {A : Nat → Prop} {ls : Array Slot} {h0 : Nat} {T : va_W} (hx : p.tables.exec = Jvm.exec) (hb : c.code = cX12_init) (ht : ∀ w ∈ lw_gd, w.before args s = true) (hown : s.vm.findClass RX12 = some m.cls) (hin : meth.name = "<init>") (hK : va_K D vwCl (TY D) s) (hA : ∀ q : Nat, s.heap.size ≤ q → A q) (hRc : 80 ≤ R.cells) (hRs : 35050 ≤ R.slots) (hl : lv_has ls 1 [(0, .ref h0)]) {fs : List Value} (hlen : fs.length = 116) {H : Heap} {locs : List Loc} (hP : va_P D vwCl ((h0, .inr (12, fs)) :: T) H) (hD : va_D A ((h0, .inr (12, fs)) :: T)) (hS : va_S A s.heap H locs)
    (kk : ∀ (q_8 : Nat) (q_6 : Nat) (q_4 : Nat) (q_1 : Nat) (fs' : List Value) (H : Heap) (locs : List Loc), fs' = (((((fs.set 0 (.ref q_1)).set 8 (.int (-1))).set 9 (.ref q_4)).set 11 (.ref q_6)).set 12 (.ref q_8)) → va_P D vwCl ((h0, .inr (12, fs')) :: (q_8, .inl (D.1 14, 4, .inl (fun j => i2 (upZ (upZ (upZ (upZ (fun _ => 0) 0 114) 1 111) 2 111) 3 109 j)))) :: (q_6, .inl (D.1 14, 6, .inl (fun j => i2 (upZ (upZ (upZ (upZ (upZ (upZ (fun _ => 0) 0 98) 1 108) 2 111) 3 99) 4 107) 5 115 j)))) :: (q_4, .inl (D.1 13, 6, .inl (fun _ => i2 0))) :: (q_1, .inl (D.1 13, 1600, .inl (fun _ => 0))) :: T) H → va_D A ((h0, .inr (12, fs')) :: (q_8, .inl (D.1 14, 4, .inl (fun j => i2 (upZ (upZ (upZ (upZ (fun _ => 0) 0 114) 1 111) 2 111) 3 109 j)))) :: (q_6, .inl (D.1 14, 6, .inl (fun j => i2 (upZ (upZ (upZ (upZ (upZ (upZ (fun _ => 0) 0 98) 1 108) 2 111) 3 99) 4 107) 5 115 j)))) :: (q_4, .inl (D.1 13, 6, .inl (fun _ => i2 0))) :: (q_1, .inl (D.1 13, 1600, .inl (fun _ => 0))) :: T) → va_S A s.heap H locs → W p l e R s m args below meth c H locs 4 1616 Q (F0 m 91 ls [])) : W p l e R s m args below meth c H locs 0 0 Q (F0 m 4 ls []) := by
  refine lv_aload_n hx hb dX12_init_4 rfl (lv_at hl 0 rfl) ?_
  refine lv_sipush (v := 1600) hx hb dX12_init_5 (by decide) ?_
  refine va_newa (atype := .int) (a0 := (1600, .inl (fun _ => 0))) (ty := .int) (N' := 1600) hx hb (ht _ ac_int) rfl hK hP hD hS hA (fun _ => rfl) (by decide) (by decide) (by decide) (Nat.le_trans (Nat.le_of_ble_eq_true rfl) hRc) (Nat.le_trans (Nat.le_of_ble_eq_true rfl) hRs) dX12_init_8 (fun q_1 cA H hK2 hP hD hS => ?_)
  obtain rfl := z_cls_int hK hK2
  refine W.widen (k := 1) (n := 1600) (Nat.le_of_ble_eq_true rfl) (Nat.le_of_ble_eq_true rfl) ?_
  obtain ⟨hP, hD⟩ := z_rot hP hD
  have hP : va_P D vwCl ((h0, .inr (12, fs)) :: (q_1, .inl (D.1 13, 1600, .inl (fun _ => 0))) :: T) H := hP
  have hD : va_D A ((h0, .inr (12, fs)) :: (q_1, .inl (D.1 13, 1600, .inl (fun _ => 0))) :: T) := hD
  refine va_putF (D := D) (ci := 12) (v := .ref q_1) (ty := .array .int) (C := RX12) (T := TX12) (N := 116) hx hb ht inX12 tyX12 tyX12_ok nmX12 hown hK hP hD hS 0 rfl rfl 0 (by decide) (ht (.fieldLink RX12 7 "CloneVolumesModel" "tape" "[I") fl_X12_7) (fun _ h9 => h9) rfl hin rfl (by decide +kernel) rfl rfl (by rw [hlen]; decide) dX12_init_10 (fun H locs hP hD hS => ?_)
  have hP : va_P D vwCl ((h0, .inr (12, (fs.set 0 (.ref q_1)))) :: (q_1, .inl (D.1 13, 1600, .inl (fun _ => 0))) :: T) H := hP
  have hD : va_D A ((h0, .inr (12, (fs.set 0 (.ref q_1)))) :: (q_1, .inl (D.1 13, 1600, .inl (fun _ => 0))) :: T) := hD
  generalize hfs_2 : fs.set 0 (.ref q_1) = fs_2 at hP hD
  have hlen : fs_2.length = 116 := by rw [← hfs_2, List.length_set]; exact hlen
  have hP : va_P D vwCl ((h0, .inr (12, fs_2)) :: (q_1, .inl (D.1 13, 1600, .inl (fun _ => 0))) :: T) H := hP
  have hD : va_D A ((h0, .inr (12, fs_2)) :: (q_1, .inl (D.1 13, 1600, .inl (fun _ => 0))) :: T) := hD
  refine lv_aload_n hx hb dX12_init_13 rfl (lv_at hl 0 rfl) ?_
  refine lv_iconst (v := (-1)) hx hb dX12_init_14 (by decide) ?_
  refine va_put (D := D) (ci := 12) (v := .int (-1)) (ty := .int) (C := RX12) (T := TX12) (N := 116) hx hb ht inX12 tyX12 tyX12_ok nmX12 hown hK hP hD hS 0 rfl rfl 8 (by decide) (ht (.fieldLink RX12 13 "CloneVolumesModel" "faultPlace" "I") fl_X12_13) (fun _ h9 => h9) rfl (by decide +kernel) rfl rfl (by rw [hlen]; decide) dX12_init_15 (fun H locs hP hD hS => ?_)
  have hP : va_P D vwCl ((h0, .inr (12, (fs_2.set 8 (.int (-1))))) :: (q_1, .inl (D.1 13, 1600, .inl (fun _ => 0))) :: T) H := hP
  have hD : va_D A ((h0, .inr (12, (fs_2.set 8 (.int (-1))))) :: (q_1, .inl (D.1 13, 1600, .inl (fun _ => 0))) :: T) := hD
  generalize hfs_3 : fs_2.set 8 (.int (-1)) = fs_3 at hP hD
  have hlen : fs_3.length = 116 := by rw [← hfs_3, List.length_set]; exact hlen
  have hP : va_P D vwCl ((h0, .inr (12, fs_3)) :: (q_1, .inl (D.1 13, 1600, .inl (fun _ => 0))) :: T) H := hP
  have hD : va_D A ((h0, .inr (12, fs_3)) :: (q_1, .inl (D.1 13, 1600, .inl (fun _ => 0))) :: T) := hD
  refine lv_aload_n hx hb dX12_init_18 rfl (lv_at hl 0 rfl) ?_
  refine lv_bipush (v := 6) hx hb dX12_init_19 (by decide) ?_
  refine va_newa (atype := .int) (a0 := (6, .inl (fun _ => 0))) (ty := .int) (N' := 6) hx hb (ht _ ac_int) rfl hK hP hD hS hA (fun _ => rfl) (by decide) (by decide) (by decide) (Nat.le_trans (Nat.le_of_ble_eq_true rfl) hRc) (Nat.le_trans (Nat.le_of_ble_eq_true rfl) hRs) dX12_init_21 (fun q_4 cA H hK2 hP hD hS => ?_)
  obtain rfl := z_cls_int hK hK2
  refine W.widen (k := 2) (n := 1606) (Nat.le_of_ble_eq_true rfl) (Nat.le_of_ble_eq_true rfl) ?_
  obtain ⟨hP, hD⟩ := z_rot hP hD
  have hP : va_P D vwCl ((h0, .inr (12, fs_3)) :: (q_4, .inl (D.1 13, 6, .inl (fun _ => i2 0))) :: (q_1, .inl (D.1 13, 1600, .inl (fun _ => 0))) :: T) H := hP
  have hD : va_D A ((h0, .inr (12, fs_3)) :: (q_4, .inl (D.1 13, 6, .inl (fun _ => i2 0))) :: (q_1, .inl (D.1 13, 1600, .inl (fun _ => 0))) :: T) := hD
  refine va_putF (D := D) (ci := 12) (v := .ref q_4) (ty := .array .int) (C := RX12) (T := TX12) (N := 116) hx hb ht inX12 tyX12 tyX12_ok nmX12 hown hK hP hD hS 0 rfl rfl 9 (by decide) (ht (.fieldLink RX12 17 "CloneVolumesModel" "refused" "[I") fl_X12_17) (fun _ h9 => h9) rfl hin rfl (by decide +kernel) rfl rfl (by rw [hlen]; decide) dX12_init_23 (fun H locs hP hD hS => ?_)
  have hP : va_P D vwCl ((h0, .inr (12, (fs_3.set 9 (.ref q_4)))) :: (q_4, .inl (D.1 13, 6, .inl (fun _ => i2 0))) :: (q_1, .inl (D.1 13, 1600, .inl (fun _ => 0))) :: T) H := hP
  have hD : va_D A ((h0, .inr (12, (fs_3.set 9 (.ref q_4)))) :: (q_4, .inl (D.1 13, 6, .inl (fun _ => i2 0))) :: (q_1, .inl (D.1 13, 1600, .inl (fun _ => 0))) :: T) := hD
  generalize hfs_5 : fs_3.set 9 (.ref q_4) = fs_5 at hP hD
  have hlen : fs_5.length = 116 := by rw [← hfs_5, List.length_set]; exact hlen
  have hP : va_P D vwCl ((h0, .inr (12, fs_5)) :: (q_4, .inl (D.1 13, 6, .inl (fun _ => i2 0))) :: (q_1, .inl (D.1 13, 1600, .inl (fun _ => 0))) :: T) H := hP
  have hD : va_D A ((h0, .inr (12, fs_5)) :: (q_4, .inl (D.1 13, 6, .inl (fun _ => i2 0))) :: (q_1, .inl (D.1 13, 1600, .inl (fun _ => 0))) :: T) := hD
  refine lv_aload_n hx hb dX12_init_26 rfl (lv_at hl 0 rfl) ?_
  refine lv_bipush (v := 6) hx hb dX12_init_27 (by decide) ?_
  refine va_newa (atype := .char) (a0 := (6, .inl (fun _ => 0))) (ty := .char) (N' := 6) hx hb (ht _ ac_char) rfl hK hP hD hS hA (fun _ => rfl) (by decide) (by decide) (by decide) (Nat.le_trans (Nat.le_of_ble_eq_true rfl) hRc) (Nat.le_trans (Nat.le_of_ble_eq_true rfl) hRs) dX12_init_29 (fun q_6 cA H hK2 hP hD hS => ?_)
  obtain rfl := z_cls_char hK hK2
  refine W.widen (k := 3) (n := 1612) (Nat.le_of_ble_eq_true rfl) (Nat.le_of_ble_eq_true rfl) ?_
  obtain ⟨hP, hD⟩ := z_rot hP hD
  have hP : va_P D vwCl ((h0, .inr (12, fs_5)) :: (q_6, .inl (D.1 14, 6, .inl (fun _ => i2 0))) :: (q_4, .inl (D.1 13, 6, .inl (fun _ => i2 0))) :: (q_1, .inl (D.1 13, 1600, .inl (fun _ => 0))) :: T) H := hP
  have hD : va_D A ((h0, .inr (12, fs_5)) :: (q_6, .inl (D.1 14, 6, .inl (fun _ => i2 0))) :: (q_4, .inl (D.1 13, 6, .inl (fun _ => i2 0))) :: (q_1, .inl (D.1 13, 1600, .inl (fun _ => 0))) :: T) := hD
  refine lv_dup hx hb dX12_init_31 rfl ?_
  refine lv_iconst (v := 0) hx hb dX12_init_32 (by decide) ?_
  refine lv_bipush (v := 98) hx hb dX12_init_33 (by decide) ?_
  refine va_cast hx hb hK hP hD hS 1 1 rfl rfl (z_in (by decide) (by decide)) dX12_init_35 (fun H locs hP hD hS => ?_)
  rw [c_i2 (F := fun _ => 0) (k := Int32.toNatClampNeg 0) (c := vp_nar .char 98) (v := 98) (by decide)] at hP hD
  have hP : va_P D vwCl ((h0, .inr (12, fs_5)) :: (q_6, .inl (D.1 14, 6, .inl (fun j => i2 (upZ (fun _ => 0) 0 98 j)))) :: (q_4, .inl (D.1 13, 6, .inl (fun _ => i2 0))) :: (q_1, .inl (D.1 13, 1600, .inl (fun _ => 0))) :: T) H := hP
  have hD : va_D A ((h0, .inr (12, fs_5)) :: (q_6, .inl (D.1 14, 6, .inl (fun j => i2 (upZ (fun _ => 0) 0 98 j)))) :: (q_4, .inl (D.1 13, 6, .inl (fun _ => i2 0))) :: (q_1, .inl (D.1 13, 1600, .inl (fun _ => 0))) :: T) := hD
  refine lv_dup hx hb dX12_init_36 rfl ?_
  refine lv_iconst (v := 1) hx hb dX12_init_37 (by decide) ?_
  refine lv_bipush (v := 108) hx hb dX12_init_38 (by decide) ?_
  refine va_cast hx hb hK hP hD hS 1 1 rfl rfl (z_in (by decide) (by decide)) dX12_init_40 (fun H locs hP hD hS => ?_)
  rw [c_i2 (F := upZ (fun _ => 0) 0 98) (k := Int32.toNatClampNeg 1) (c := vp_nar .char 108) (v := 108) (by decide)] at hP hD
  have hP : va_P D vwCl ((h0, .inr (12, fs_5)) :: (q_6, .inl (D.1 14, 6, .inl (fun j => i2 (upZ (upZ (fun _ => 0) 0 98) 1 108 j)))) :: (q_4, .inl (D.1 13, 6, .inl (fun _ => i2 0))) :: (q_1, .inl (D.1 13, 1600, .inl (fun _ => 0))) :: T) H := hP
  have hD : va_D A ((h0, .inr (12, fs_5)) :: (q_6, .inl (D.1 14, 6, .inl (fun j => i2 (upZ (upZ (fun _ => 0) 0 98) 1 108 j)))) :: (q_4, .inl (D.1 13, 6, .inl (fun _ => i2 0))) :: (q_1, .inl (D.1 13, 1600, .inl (fun _ => 0))) :: T) := hD
  refine lv_dup hx hb dX12_init_41 rfl ?_
  refine lv_iconst (v := 2) hx hb dX12_init_42 (by decide) ?_
  refine lv_bipush (v := 111) hx hb dX12_init_43 (by decide) ?_
  refine va_cast hx hb hK hP hD hS 1 1 rfl rfl (z_in (by decide) (by decide)) dX12_init_45 (fun H locs hP hD hS => ?_)
  rw [c_i2 (F := upZ (upZ (fun _ => 0) 0 98) 1 108) (k := Int32.toNatClampNeg 2) (c := vp_nar .char 111) (v := 111) (by decide)] at hP hD
  have hP : va_P D vwCl ((h0, .inr (12, fs_5)) :: (q_6, .inl (D.1 14, 6, .inl (fun j => i2 (upZ (upZ (upZ (fun _ => 0) 0 98) 1 108) 2 111 j)))) :: (q_4, .inl (D.1 13, 6, .inl (fun _ => i2 0))) :: (q_1, .inl (D.1 13, 1600, .inl (fun _ => 0))) :: T) H := hP
  have hD : va_D A ((h0, .inr (12, fs_5)) :: (q_6, .inl (D.1 14, 6, .inl (fun j => i2 (upZ (upZ (upZ (fun _ => 0) 0 98) 1 108) 2 111 j)))) :: (q_4, .inl (D.1 13, 6, .inl (fun _ => i2 0))) :: (q_1, .inl (D.1 13, 1600, .inl (fun _ => 0))) :: T) := hD
  refine lv_dup hx hb dX12_init_46 rfl ?_
  refine lv_iconst (v := 3) hx hb dX12_init_47 (by decide) ?_
  refine lv_bipush (v := 99) hx hb dX12_init_48 (by decide) ?_
  refine va_cast hx hb hK hP hD hS 1 1 rfl rfl (z_in (by decide) (by decide)) dX12_init_50 (fun H locs hP hD hS => ?_)
  rw [c_i2 (F := upZ (upZ (upZ (fun _ => 0) 0 98) 1 108) 2 111) (k := Int32.toNatClampNeg 3) (c := vp_nar .char 99) (v := 99) (by decide)] at hP hD
  have hP : va_P D vwCl ((h0, .inr (12, fs_5)) :: (q_6, .inl (D.1 14, 6, .inl (fun j => i2 (upZ (upZ (upZ (upZ (fun _ => 0) 0 98) 1 108) 2 111) 3 99 j)))) :: (q_4, .inl (D.1 13, 6, .inl (fun _ => i2 0))) :: (q_1, .inl (D.1 13, 1600, .inl (fun _ => 0))) :: T) H := hP
  have hD : va_D A ((h0, .inr (12, fs_5)) :: (q_6, .inl (D.1 14, 6, .inl (fun j => i2 (upZ (upZ (upZ (upZ (fun _ => 0) 0 98) 1 108) 2 111) 3 99 j)))) :: (q_4, .inl (D.1 13, 6, .inl (fun _ => i2 0))) :: (q_1, .inl (D.1 13, 1600, .inl (fun _ => 0))) :: T) := hD
  refine lv_dup hx hb dX12_init_51 rfl ?_
  refine lv_iconst (v := 4) hx hb dX12_init_52 (by decide) ?_
  refine lv_bipush (v := 107) hx hb dX12_init_53 (by decide) ?_
  refine va_cast hx hb hK hP hD hS 1 1 rfl rfl (z_in (by decide) (by decide)) dX12_init_55 (fun H locs hP hD hS => ?_)
  rw [c_i2 (F := upZ (upZ (upZ (upZ (fun _ => 0) 0 98) 1 108) 2 111) 3 99) (k := Int32.toNatClampNeg 4) (c := vp_nar .char 107) (v := 107) (by decide)] at hP hD
  have hP : va_P D vwCl ((h0, .inr (12, fs_5)) :: (q_6, .inl (D.1 14, 6, .inl (fun j => i2 (upZ (upZ (upZ (upZ (upZ (fun _ => 0) 0 98) 1 108) 2 111) 3 99) 4 107 j)))) :: (q_4, .inl (D.1 13, 6, .inl (fun _ => i2 0))) :: (q_1, .inl (D.1 13, 1600, .inl (fun _ => 0))) :: T) H := hP
  have hD : va_D A ((h0, .inr (12, fs_5)) :: (q_6, .inl (D.1 14, 6, .inl (fun j => i2 (upZ (upZ (upZ (upZ (upZ (fun _ => 0) 0 98) 1 108) 2 111) 3 99) 4 107 j)))) :: (q_4, .inl (D.1 13, 6, .inl (fun _ => i2 0))) :: (q_1, .inl (D.1 13, 1600, .inl (fun _ => 0))) :: T) := hD
  refine lv_dup hx hb dX12_init_56 rfl ?_
  refine lv_iconst (v := 5) hx hb dX12_init_57 (by decide) ?_
  refine lv_bipush (v := 115) hx hb dX12_init_58 (by decide) ?_
  refine va_cast hx hb hK hP hD hS 1 1 rfl rfl (z_in (by decide) (by decide)) dX12_init_60 (fun H locs hP hD hS => ?_)
  rw [c_i2 (F := upZ (upZ (upZ (upZ (upZ (fun _ => 0) 0 98) 1 108) 2 111) 3 99) 4 107) (k := Int32.toNatClampNeg 5) (c := vp_nar .char 115) (v := 115) (by decide)] at hP hD
  have hP : va_P D vwCl ((h0, .inr (12, fs_5)) :: (q_6, .inl (D.1 14, 6, .inl (fun j => i2 (upZ (upZ (upZ (upZ (upZ (upZ (fun _ => 0) 0 98) 1 108) 2 111) 3 99) 4 107) 5 115 j)))) :: (q_4, .inl (D.1 13, 6, .inl (fun _ => i2 0))) :: (q_1, .inl (D.1 13, 1600, .inl (fun _ => 0))) :: T) H := hP
  have hD : va_D A ((h0, .inr (12, fs_5)) :: (q_6, .inl (D.1 14, 6, .inl (fun j => i2 (upZ (upZ (upZ (upZ (upZ (upZ (fun _ => 0) 0 98) 1 108) 2 111) 3 99) 4 107) 5 115 j)))) :: (q_4, .inl (D.1 13, 6, .inl (fun _ => i2 0))) :: (q_1, .inl (D.1 13, 1600, .inl (fun _ => 0))) :: T) := hD
  refine va_putF (D := D) (ci := 12) (v := .ref q_6) (ty := .array .char) (C := RX12) (T := TX12) (N := 116) hx hb ht inX12 tyX12 tyX12_ok nmX12 hown hK hP hD hS 0 rfl rfl 11 (by decide) (ht (.fieldLink RX12 20 "CloneVolumesModel" "blocksWord" "[C") fl_X12_20) (fun _ h9 => h9) rfl hin rfl (by decide +kernel) rfl rfl (by rw [hlen]; decide) dX12_init_61 (fun H locs hP hD hS => ?_)
  have hP : va_P D vwCl ((h0, .inr (12, (fs_5.set 11 (.ref q_6)))) :: (q_6, .inl (D.1 14, 6, .inl (fun j => i2 (upZ (upZ (upZ (upZ (upZ (upZ (fun _ => 0) 0 98) 1 108) 2 111) 3 99) 4 107) 5 115 j)))) :: (q_4, .inl (D.1 13, 6, .inl (fun _ => i2 0))) :: (q_1, .inl (D.1 13, 1600, .inl (fun _ => 0))) :: T) H := hP
  have hD : va_D A ((h0, .inr (12, (fs_5.set 11 (.ref q_6)))) :: (q_6, .inl (D.1 14, 6, .inl (fun j => i2 (upZ (upZ (upZ (upZ (upZ (upZ (fun _ => 0) 0 98) 1 108) 2 111) 3 99) 4 107) 5 115 j)))) :: (q_4, .inl (D.1 13, 6, .inl (fun _ => i2 0))) :: (q_1, .inl (D.1 13, 1600, .inl (fun _ => 0))) :: T) := hD
  generalize hfs_7 : fs_5.set 11 (.ref q_6) = fs_7 at hP hD
  have hlen : fs_7.length = 116 := by rw [← hfs_7, List.length_set]; exact hlen
  have hP : va_P D vwCl ((h0, .inr (12, fs_7)) :: (q_6, .inl (D.1 14, 6, .inl (fun j => i2 (upZ (upZ (upZ (upZ (upZ (upZ (fun _ => 0) 0 98) 1 108) 2 111) 3 99) 4 107) 5 115 j)))) :: (q_4, .inl (D.1 13, 6, .inl (fun _ => i2 0))) :: (q_1, .inl (D.1 13, 1600, .inl (fun _ => 0))) :: T) H := hP
  have hD : va_D A ((h0, .inr (12, fs_7)) :: (q_6, .inl (D.1 14, 6, .inl (fun j => i2 (upZ (upZ (upZ (upZ (upZ (upZ (fun _ => 0) 0 98) 1 108) 2 111) 3 99) 4 107) 5 115 j)))) :: (q_4, .inl (D.1 13, 6, .inl (fun _ => i2 0))) :: (q_1, .inl (D.1 13, 1600, .inl (fun _ => 0))) :: T) := hD
  refine lv_aload_n hx hb dX12_init_64 rfl (lv_at hl 0 rfl) ?_
  refine lv_iconst (v := 4) hx hb dX12_init_65 (by decide) ?_
  refine va_newa (atype := .char) (a0 := (4, .inl (fun _ => 0))) (ty := .char) (N' := 4) hx hb (ht _ ac_char) rfl hK hP hD hS hA (fun _ => rfl) (by decide) (by decide) (by decide) (Nat.le_trans (Nat.le_of_ble_eq_true rfl) hRc) (Nat.le_trans (Nat.le_of_ble_eq_true rfl) hRs) dX12_init_66 (fun q_8 cA H hK2 hP hD hS => ?_)
  obtain rfl := z_cls_char hK hK2
  refine W.widen (k := 4) (n := 1616) (Nat.le_of_ble_eq_true rfl) (Nat.le_of_ble_eq_true rfl) ?_
  obtain ⟨hP, hD⟩ := z_rot hP hD
  have hP : va_P D vwCl ((h0, .inr (12, fs_7)) :: (q_8, .inl (D.1 14, 4, .inl (fun _ => i2 0))) :: (q_6, .inl (D.1 14, 6, .inl (fun j => i2 (upZ (upZ (upZ (upZ (upZ (upZ (fun _ => 0) 0 98) 1 108) 2 111) 3 99) 4 107) 5 115 j)))) :: (q_4, .inl (D.1 13, 6, .inl (fun _ => i2 0))) :: (q_1, .inl (D.1 13, 1600, .inl (fun _ => 0))) :: T) H := hP
  have hD : va_D A ((h0, .inr (12, fs_7)) :: (q_8, .inl (D.1 14, 4, .inl (fun _ => i2 0))) :: (q_6, .inl (D.1 14, 6, .inl (fun j => i2 (upZ (upZ (upZ (upZ (upZ (upZ (fun _ => 0) 0 98) 1 108) 2 111) 3 99) 4 107) 5 115 j)))) :: (q_4, .inl (D.1 13, 6, .inl (fun _ => i2 0))) :: (q_1, .inl (D.1 13, 1600, .inl (fun _ => 0))) :: T) := hD
  refine lv_dup hx hb dX12_init_68 rfl ?_
  refine lv_iconst (v := 0) hx hb dX12_init_69 (by decide) ?_
  refine lv_bipush (v := 114) hx hb dX12_init_70 (by decide) ?_
  refine va_cast hx hb hK hP hD hS 1 1 rfl rfl (z_in (by decide) (by decide)) dX12_init_72 (fun H locs hP hD hS => ?_)
  rw [c_i2 (F := fun _ => 0) (k := Int32.toNatClampNeg 0) (c := vp_nar .char 114) (v := 114) (by decide)] at hP hD
  have hP : va_P D vwCl ((h0, .inr (12, fs_7)) :: (q_8, .inl (D.1 14, 4, .inl (fun j => i2 (upZ (fun _ => 0) 0 114 j)))) :: (q_6, .inl (D.1 14, 6, .inl (fun j => i2 (upZ (upZ (upZ (upZ (upZ (upZ (fun _ => 0) 0 98) 1 108) 2 111) 3 99) 4 107) 5 115 j)))) :: (q_4, .inl (D.1 13, 6, .inl (fun _ => i2 0))) :: (q_1, .inl (D.1 13, 1600, .inl (fun _ => 0))) :: T) H := hP
  have hD : va_D A ((h0, .inr (12, fs_7)) :: (q_8, .inl (D.1 14, 4, .inl (fun j => i2 (upZ (fun _ => 0) 0 114 j)))) :: (q_6, .inl (D.1 14, 6, .inl (fun j => i2 (upZ (upZ (upZ (upZ (upZ (upZ (fun _ => 0) 0 98) 1 108) 2 111) 3 99) 4 107) 5 115 j)))) :: (q_4, .inl (D.1 13, 6, .inl (fun _ => i2 0))) :: (q_1, .inl (D.1 13, 1600, .inl (fun _ => 0))) :: T) := hD
  refine lv_dup hx hb dX12_init_73 rfl ?_
  refine lv_iconst (v := 1) hx hb dX12_init_74 (by decide) ?_
  refine lv_bipush (v := 111) hx hb dX12_init_75 (by decide) ?_
  refine va_cast hx hb hK hP hD hS 1 1 rfl rfl (z_in (by decide) (by decide)) dX12_init_77 (fun H locs hP hD hS => ?_)
  rw [c_i2 (F := upZ (fun _ => 0) 0 114) (k := Int32.toNatClampNeg 1) (c := vp_nar .char 111) (v := 111) (by decide)] at hP hD
  have hP : va_P D vwCl ((h0, .inr (12, fs_7)) :: (q_8, .inl (D.1 14, 4, .inl (fun j => i2 (upZ (upZ (fun _ => 0) 0 114) 1 111 j)))) :: (q_6, .inl (D.1 14, 6, .inl (fun j => i2 (upZ (upZ (upZ (upZ (upZ (upZ (fun _ => 0) 0 98) 1 108) 2 111) 3 99) 4 107) 5 115 j)))) :: (q_4, .inl (D.1 13, 6, .inl (fun _ => i2 0))) :: (q_1, .inl (D.1 13, 1600, .inl (fun _ => 0))) :: T) H := hP
  have hD : va_D A ((h0, .inr (12, fs_7)) :: (q_8, .inl (D.1 14, 4, .inl (fun j => i2 (upZ (upZ (fun _ => 0) 0 114) 1 111 j)))) :: (q_6, .inl (D.1 14, 6, .inl (fun j => i2 (upZ (upZ (upZ (upZ (upZ (upZ (fun _ => 0) 0 98) 1 108) 2 111) 3 99) 4 107) 5 115 j)))) :: (q_4, .inl (D.1 13, 6, .inl (fun _ => i2 0))) :: (q_1, .inl (D.1 13, 1600, .inl (fun _ => 0))) :: T) := hD
  refine lv_dup hx hb dX12_init_78 rfl ?_
  refine lv_iconst (v := 2) hx hb dX12_init_79 (by decide) ?_
  refine lv_bipush (v := 111) hx hb dX12_init_80 (by decide) ?_
  refine va_cast hx hb hK hP hD hS 1 1 rfl rfl (z_in (by decide) (by decide)) dX12_init_82 (fun H locs hP hD hS => ?_)
  rw [c_i2 (F := upZ (upZ (fun _ => 0) 0 114) 1 111) (k := Int32.toNatClampNeg 2) (c := vp_nar .char 111) (v := 111) (by decide)] at hP hD
  have hP : va_P D vwCl ((h0, .inr (12, fs_7)) :: (q_8, .inl (D.1 14, 4, .inl (fun j => i2 (upZ (upZ (upZ (fun _ => 0) 0 114) 1 111) 2 111 j)))) :: (q_6, .inl (D.1 14, 6, .inl (fun j => i2 (upZ (upZ (upZ (upZ (upZ (upZ (fun _ => 0) 0 98) 1 108) 2 111) 3 99) 4 107) 5 115 j)))) :: (q_4, .inl (D.1 13, 6, .inl (fun _ => i2 0))) :: (q_1, .inl (D.1 13, 1600, .inl (fun _ => 0))) :: T) H := hP
  have hD : va_D A ((h0, .inr (12, fs_7)) :: (q_8, .inl (D.1 14, 4, .inl (fun j => i2 (upZ (upZ (upZ (fun _ => 0) 0 114) 1 111) 2 111 j)))) :: (q_6, .inl (D.1 14, 6, .inl (fun j => i2 (upZ (upZ (upZ (upZ (upZ (upZ (fun _ => 0) 0 98) 1 108) 2 111) 3 99) 4 107) 5 115 j)))) :: (q_4, .inl (D.1 13, 6, .inl (fun _ => i2 0))) :: (q_1, .inl (D.1 13, 1600, .inl (fun _ => 0))) :: T) := hD
  refine lv_dup hx hb dX12_init_83 rfl ?_
  refine lv_iconst (v := 3) hx hb dX12_init_84 (by decide) ?_
  refine lv_bipush (v := 109) hx hb dX12_init_85 (by decide) ?_
  refine va_cast hx hb hK hP hD hS 1 1 rfl rfl (z_in (by decide) (by decide)) dX12_init_87 (fun H locs hP hD hS => ?_)
  rw [c_i2 (F := upZ (upZ (upZ (fun _ => 0) 0 114) 1 111) 2 111) (k := Int32.toNatClampNeg 3) (c := vp_nar .char 109) (v := 109) (by decide)] at hP hD
  have hP : va_P D vwCl ((h0, .inr (12, fs_7)) :: (q_8, .inl (D.1 14, 4, .inl (fun j => i2 (upZ (upZ (upZ (upZ (fun _ => 0) 0 114) 1 111) 2 111) 3 109 j)))) :: (q_6, .inl (D.1 14, 6, .inl (fun j => i2 (upZ (upZ (upZ (upZ (upZ (upZ (fun _ => 0) 0 98) 1 108) 2 111) 3 99) 4 107) 5 115 j)))) :: (q_4, .inl (D.1 13, 6, .inl (fun _ => i2 0))) :: (q_1, .inl (D.1 13, 1600, .inl (fun _ => 0))) :: T) H := hP
  have hD : va_D A ((h0, .inr (12, fs_7)) :: (q_8, .inl (D.1 14, 4, .inl (fun j => i2 (upZ (upZ (upZ (upZ (fun _ => 0) 0 114) 1 111) 2 111) 3 109 j)))) :: (q_6, .inl (D.1 14, 6, .inl (fun j => i2 (upZ (upZ (upZ (upZ (upZ (upZ (fun _ => 0) 0 98) 1 108) 2 111) 3 99) 4 107) 5 115 j)))) :: (q_4, .inl (D.1 13, 6, .inl (fun _ => i2 0))) :: (q_1, .inl (D.1 13, 1600, .inl (fun _ => 0))) :: T) := hD
  refine va_putF (D := D) (ci := 12) (v := .ref q_8) (ty := .array .char) (C := RX12) (T := TX12) (N := 116) hx hb ht inX12 tyX12 tyX12_ok nmX12 hown hK hP hD hS 0 rfl rfl 12 (by decide) (ht (.fieldLink RX12 24 "CloneVolumesModel" "roomWord" "[C") fl_X12_24) (fun _ h9 => h9) rfl hin rfl (by decide +kernel) rfl rfl (by rw [hlen]; decide) dX12_init_88 (fun H locs hP hD hS => ?_)
  have hP : va_P D vwCl ((h0, .inr (12, (fs_7.set 12 (.ref q_8)))) :: (q_8, .inl (D.1 14, 4, .inl (fun j => i2 (upZ (upZ (upZ (upZ (fun _ => 0) 0 114) 1 111) 2 111) 3 109 j)))) :: (q_6, .inl (D.1 14, 6, .inl (fun j => i2 (upZ (upZ (upZ (upZ (upZ (upZ (fun _ => 0) 0 98) 1 108) 2 111) 3 99) 4 107) 5 115 j)))) :: (q_4, .inl (D.1 13, 6, .inl (fun _ => i2 0))) :: (q_1, .inl (D.1 13, 1600, .inl (fun _ => 0))) :: T) H := hP
  have hD : va_D A ((h0, .inr (12, (fs_7.set 12 (.ref q_8)))) :: (q_8, .inl (D.1 14, 4, .inl (fun j => i2 (upZ (upZ (upZ (upZ (fun _ => 0) 0 114) 1 111) 2 111) 3 109 j)))) :: (q_6, .inl (D.1 14, 6, .inl (fun j => i2 (upZ (upZ (upZ (upZ (upZ (upZ (fun _ => 0) 0 98) 1 108) 2 111) 3 99) 4 107) 5 115 j)))) :: (q_4, .inl (D.1 13, 6, .inl (fun _ => i2 0))) :: (q_1, .inl (D.1 13, 1600, .inl (fun _ => 0))) :: T) := hD
  generalize hfs_9 : fs_7.set 12 (.ref q_8) = fs_9 at hP hD
  have hlen : fs_9.length = 116 := by rw [← hfs_9, List.length_set]; exact hlen
  have hP : va_P D vwCl ((h0, .inr (12, fs_9)) :: (q_8, .inl (D.1 14, 4, .inl (fun j => i2 (upZ (upZ (upZ (upZ (fun _ => 0) 0 114) 1 111) 2 111) 3 109 j)))) :: (q_6, .inl (D.1 14, 6, .inl (fun j => i2 (upZ (upZ (upZ (upZ (upZ (upZ (fun _ => 0) 0 98) 1 108) 2 111) 3 99) 4 107) 5 115 j)))) :: (q_4, .inl (D.1 13, 6, .inl (fun _ => i2 0))) :: (q_1, .inl (D.1 13, 1600, .inl (fun _ => 0))) :: T) H := hP
  have hD : va_D A ((h0, .inr (12, fs_9)) :: (q_8, .inl (D.1 14, 4, .inl (fun j => i2 (upZ (upZ (upZ (upZ (fun _ => 0) 0 114) 1 111) 2 111) 3 109 j)))) :: (q_6, .inl (D.1 14, 6, .inl (fun j => i2 (upZ (upZ (upZ (upZ (upZ (upZ (fun _ => 0) 0 98) 1 108) 2 111) 3 99) 4 107) 5 115 j)))) :: (q_4, .inl (D.1 13, 6, .inl (fun _ => i2 0))) :: (q_1, .inl (D.1 13, 1600, .inl (fun _ => 0))) :: T) := hD
  exact kk q_8 q_6 q_4 q_1 fs_9 _ _ (by rw [← hfs_9, ← hfs_7, ← hfs_5, ← hfs_3, ← hfs_2]) hP hD hS
