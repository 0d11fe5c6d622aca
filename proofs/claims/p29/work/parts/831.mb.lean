theorem cl_X12_320 : Cond.constantLong RX12 320 27 ∈ lw_gd := zm (lw_g_8 (List.mem_of_getElem? (i := 88) (by decide +kernel))) rfl
theorem cl_X12_322 : Cond.constantLong RX12 322 97 ∈ lw_gd := zm (lw_g_8 (List.mem_of_getElem? (i := 89) (by decide +kernel))) rfl
theorem co_X12_actTold : Cond.code yX12_actTold cX12_actTold 6 none ∈ lw_gd := zm (lw_g_8 (List.mem_of_getElem? (i := 97) (by decide +kernel))) rfl
theorem co_X12_asks : Cond.code yX12_asks cX12_asks 2 none ∈ lw_gd := zm (lw_g_8 (List.mem_of_getElem? (i := 30) (by decide +kernel))) rfl
theorem co_X12_asksSign : Cond.code yX12_asksSign cX12_asksSign 2 none ∈ lw_gd := zm (lw_g_8 (List.mem_of_getElem? (i := 63) (by decide +kernel))) rfl
theorem co_X12_isOwnHere : Cond.code yX12_isOwnHere cX12_isOwnHere 2 (some .boolean) ∈ lw_gd := zm (lw_g_8 (List.mem_of_getElem? (i := 87) (by decide +kernel))) rfl
theorem co_X12_name : Cond.code yX12_name cX12_name 3 (some .long) ∈ lw_gd := zm (lw_g_8 (List.mem_of_getElem? (i := 83) (by decide +kernel))) rfl
theorem co_X12_newName : Cond.code yX12_newName cX12_newName 4 (some .long) ∈ lw_gd := zm (lw_g_8 (List.mem_of_getElem? (i := 79) (by decide +kernel))) rfl
theorem co_X12_number : Cond.code yX12_number cX12_number 5 (some .int) ∈ lw_gd := zm (lw_g_8 (List.mem_of_getElem? (i := 53) (by decide +kernel))) rfl
theorem co_X12_qCode : Cond.code yX12_qCode cX12_qCode 2 none ∈ lw_gd := zm (lw_g_8 (List.mem_of_getElem? (i := 125) (by decide +kernel))) rfl
theorem co_X12_qDrops : Cond.code yX12_qDrops cX12_qDrops 1 none ∈ lw_gd := zm (lw_g_8 (List.mem_of_getElem? (i := 157) (by decide +kernel))) rfl
theorem co_X12_volumeNamed : Cond.code yX12_volumeNamed cX12_volumeNamed 4 (some .int) ∈ lw_gd := zm (lw_g_8 (List.mem_of_getElem? (i := 93) (by decide +kernel))) rfl
theorem fl_X12_317 : Cond.fieldLink RX12 317 "CloneVolumesModel" "namePlace" "I" ∈ lw_gd := zm (lw_g_6 (List.mem_of_getElem? (i := 179) (by decide +kernel))) rfl
theorem fl_X12_324 : Cond.fieldLink RX12 324 "CloneVolumesModel" "textKind" "I" ∈ lw_gd := zm (lw_g_6 (List.mem_of_getElem? (i := 189) (by decide +kernel))) rfl
theorem fl_X12_353 : Cond.fieldLink RX12 353 "CloneVolumesModel" "qCoded" "I" ∈ lw_gd := zm (lw_g_7 (List.mem_of_getElem? (i := 3) (by decide +kernel))) rfl
theorem fl_X12_356 : Cond.fieldLink RX12 356 "CloneVolumesModel" "qWaits" "I" ∈ lw_gd := zm (lw_g_7 (List.mem_of_getElem? (i := 5) (by decide +kernel))) rfl
theorem fl_X12_359 : Cond.fieldLink RX12 359 "CloneVolumesModel" "qOpened" "I" ∈ lw_gd := zm (lw_g_7 (List.mem_of_getElem? (i := 6) (by decide +kernel))) rfl
theorem fl_X12_362 : Cond.fieldLink RX12 362 "CloneVolumesModel" "qBase" "I" ∈ lw_gd := zm (lw_g_7 (List.mem_of_getElem? (i := 7) (by decide +kernel))) rfl
theorem im_X12_actTold : Cond.instanceMethod yX12_actTold ∈ lw_gd := zm (lw_g_8 (List.mem_of_getElem? (i := 96) (by decide +kernel))) rfl
theorem im_X12_asks : Cond.instanceMethod yX12_asks ∈ lw_gd := zm (lw_g_8 (List.mem_of_getElem? (i := 29) (by decide +kernel))) rfl
theorem im_X12_asksSign : Cond.instanceMethod yX12_asksSign ∈ lw_gd := zm (lw_g_8 (List.mem_of_getElem? (i := 62) (by decide +kernel))) rfl
theorem im_X12_isOwnHere : Cond.instanceMethod yX12_isOwnHere ∈ lw_gd := zm (lw_g_8 (List.mem_of_getElem? (i := 86) (by decide +kernel))) rfl
theorem im_X12_name : Cond.instanceMethod yX12_name ∈ lw_gd := zm (lw_g_8 (List.mem_of_getElem? (i := 82) (by decide +kernel))) rfl
theorem im_X12_newName : Cond.instanceMethod yX12_newName ∈ lw_gd := zm (lw_g_8 (List.mem_of_getElem? (i := 78) (by decide +kernel))) rfl
theorem im_X12_number : Cond.instanceMethod yX12_number ∈ lw_gd := zm (lw_g_8 (List.mem_of_getElem? (i := 52) (by decide +kernel))) rfl
theorem im_X12_qCode : Cond.instanceMethod yX12_qCode ∈ lw_gd := zm (lw_g_8 (List.mem_of_getElem? (i := 124) (by decide +kernel))) rfl
theorem im_X12_qDrops : Cond.instanceMethod yX12_qDrops ∈ lw_gd := zm (lw_g_8 (List.mem_of_getElem? (i := 156) (by decide +kernel))) rfl
theorem im_X12_volumeNamed : Cond.instanceMethod yX12_volumeNamed ∈ lw_gd := zm (lw_g_8 (List.mem_of_getElem? (i := 92) (by decide +kernel))) rfl
theorem ml_X12_313 : Cond.methodLink RX12 313 yX12_isOwnHere ∈ lw_gd := zm (lw_g_8 (List.mem_of_getElem? (i := 84) (by decide +kernel))) rfl
theorem ml_X12_327 : Cond.methodLink RX12 327 yX12_asks ∈ lw_gd := zm (lw_g_8 (List.mem_of_getElem? (i := 27) (by decide +kernel))) rfl
theorem ml_X12_331 : Cond.methodLink RX12 331 yX12_number ∈ lw_gd := zm (lw_g_8 (List.mem_of_getElem? (i := 50) (by decide +kernel))) rfl
theorem ml_X12_335 : Cond.methodLink RX12 335 yX12_asksSign ∈ lw_gd := zm (lw_g_8 (List.mem_of_getElem? (i := 60) (by decide +kernel))) rfl
theorem ml_X12_339 : Cond.methodLink RX12 339 yX12_name ∈ lw_gd := zm (lw_g_8 (List.mem_of_getElem? (i := 80) (by decide +kernel))) rfl
theorem ml_X12_343 : Cond.methodLink RX12 343 yX12_newName ∈ lw_gd := zm (lw_g_8 (List.mem_of_getElem? (i := 76) (by decide +kernel))) rfl
theorem ml_X12_346 : Cond.methodLink RX12 346 yX12_volumeNamed ∈ lw_gd := zm (lw_g_8 (List.mem_of_getElem? (i := 90) (by decide +kernel))) rfl
theorem ml_X12_349 : Cond.methodLink RX12 349 yX12_actTold ∈ lw_gd := zm (lw_g_8 (List.mem_of_getElem? (i := 94) (by decide +kernel))) rfl
theorem ml_X12_693 : Cond.methodLink RX12 693 yX12_qCode ∈ lw_gd := zm (lw_g_8 (List.mem_of_getElem? (i := 122) (by decide +kernel))) rfl
theorem ml_X12_699 : Cond.methodLink RX12 699 yX12_qDrops ∈ lw_gd := zm (lw_g_8 (List.mem_of_getElem? (i := 154) (by decide +kernel))) rfl
theorem se_X12_actTold : Cond.selects RX12 yX12_actTold yX12_actTold ∈ lw_gd := zm (List.mem_of_getElem? (i := 84) (by decide +kernel)) rfl
theorem se_X12_asks : Cond.selects RX12 yX12_asks yX12_asks ∈ lw_gd := zm (List.mem_of_getElem? (i := 70) (by decide +kernel)) rfl
theorem se_X12_asksSign : Cond.selects RX12 yX12_asksSign yX12_asksSign ∈ lw_gd := zm (List.mem_of_getElem? (i := 76) (by decide +kernel)) rfl
theorem se_X12_isOwnHere : Cond.selects RX12 yX12_isOwnHere yX12_isOwnHere ∈ lw_gd := zm (List.mem_of_getElem? (i := 82) (by decide +kernel)) rfl
theorem se_X12_name : Cond.selects RX12 yX12_name yX12_name ∈ lw_gd := zm (List.mem_of_getElem? (i := 81) (by decide +kernel)) rfl
theorem se_X12_newName : Cond.selects RX12 yX12_newName yX12_newName ∈ lw_gd := zm (List.mem_of_getElem? (i := 80) (by decide +kernel)) rfl
theorem se_X12_number : Cond.selects RX12 yX12_number yX12_number ∈ lw_gd := zm (List.mem_of_getElem? (i := 75) (by decide +kernel)) rfl
theorem se_X12_qCode : Cond.selects RX12 yX12_qCode yX12_qCode ∈ lw_gd := zm (List.mem_of_getElem? (i := 91) (by decide +kernel)) rfl
theorem se_X12_qDrops : Cond.selects RX12 yX12_qDrops yX12_qDrops ∈ lw_gd := zm (List.mem_of_getElem? (i := 99) (by decide +kernel)) rfl
theorem se_X12_volumeNamed : Cond.selects RX12 yX12_volumeNamed yX12_volumeNamed ∈ lw_gd := zm (List.mem_of_getElem? (i := 83) (by decide +kernel)) rfl
theorem eX12_actTold_0 : decode cX12_actTold 0 = .ok (.aload_n 0, 1) ∧ decode cX12_actTold 1 = .ok (.getfield 266, 3) ∧ decode cX12_actTold 4 = .ok (.ifCond .eq 4, 3) ∧ decode cX12_actTold 7 = .ok (.return_, 1) ∧ decode cX12_actTold 8 = .ok (.iconst 4, 1) ∧ decode cX12_actTold 9 = .ok (.aload_n 0, 1) ∧ decode cX12_actTold 10 = .ok (.getfield 102, 3) ∧ decode cX12_actTold 13 = .ok (.iconst 3, 1) := by decide +kernel
theorem eX12_actTold_14 : decode cX12_actTold 14 = .ok (.iaload, 1) ∧ decode cX12_actTold 15 = .ok (.imul, 1) ∧ decode cX12_actTold 16 = .ok (.istore 5, 2) ∧ decode cX12_actTold 18 = .ok (.aload_n 0, 1) ∧ decode cX12_actTold 19 = .ok (.getfield 109, 3) ∧ decode cX12_actTold 22 = .ok (.iload 5, 2) ∧ decode cX12_actTold 24 = .ok (.iload_n 1, 1) ∧ decode cX12_actTold 25 = .ok (.iastore, 1) := by decide +kernel
theorem eX12_actTold_26 : decode cX12_actTold 26 = .ok (.aload_n 0, 1) ∧ decode cX12_actTold 27 = .ok (.getfield 109, 3) ∧ decode cX12_actTold 30 = .ok (.iload 5, 2) ∧ decode cX12_actTold 32 = .ok (.iconst 1, 1) ∧ decode cX12_actTold 33 = .ok (.iadd, 1) ∧ decode cX12_actTold 34 = .ok (.iload_n 2, 1) ∧ decode cX12_actTold 35 = .ok (.iastore, 1) ∧ decode cX12_actTold 36 = .ok (.aload_n 0, 1) := by decide +kernel
theorem eX12_actTold_37 : decode cX12_actTold 37 = .ok (.getfield 109, 3) ∧ decode cX12_actTold 40 = .ok (.iload 5, 2) ∧ decode cX12_actTold 42 = .ok (.iconst 2, 1) ∧ decode cX12_actTold 43 = .ok (.iadd, 1) ∧ decode cX12_actTold 44 = .ok (.iload_n 3, 1) ∧ decode cX12_actTold 45 = .ok (.iastore, 1) ∧ decode cX12_actTold 46 = .ok (.aload_n 0, 1) ∧ decode cX12_actTold 47 = .ok (.getfield 109, 3) := by decide +kernel
theorem eX12_actTold_50 : decode cX12_actTold 50 = .ok (.iload 5, 2) ∧ decode cX12_actTold 52 = .ok (.iconst 3, 1) ∧ decode cX12_actTold 53 = .ok (.iadd, 1) ∧ decode cX12_actTold 54 = .ok (.iload 4, 2) ∧ decode cX12_actTold 56 = .ok (.iastore, 1) ∧ decode cX12_actTold 57 = .ok (.aload_n 0, 1) ∧ decode cX12_actTold 58 = .ok (.getfield 102, 3) ∧ decode cX12_actTold 61 = .ok (.iconst 3, 1) := by decide +kernel
theorem eX12_actTold_62 : decode cX12_actTold 62 = .ok (.dup2, 1) ∧ decode cX12_actTold 63 = .ok (.iaload, 1) ∧ decode cX12_actTold 64 = .ok (.iconst 1, 1) ∧ decode cX12_actTold 65 = .ok (.iadd, 1) ∧ decode cX12_actTold 66 = .ok (.iastore, 1) ∧ decode cX12_actTold 67 = .ok (.return_, 1) ∧ decode cX12_isAllowed 0 = .ok (.aload_n 0, 1) ∧ decode cX12_isAllowed 1 = .ok (.getfield 324, 3) := by decide +kernel
theorem eX12_isAllowed_4 : decode cX12_isAllowed 4 = .ok (.tableswitch 70 0 2 #[28, 39, 54], 28) ∧ decode cX12_isAllowed 32 = .ok (.iload_n 1, 1) ∧ decode cX12_isAllowed 33 = .ok (.iconst 3, 1) ∧ decode cX12_isAllowed 34 = .ok (.if_icmp .ge 7, 3) ∧ decode cX12_isAllowed 37 = .ok (.iconst 1, 1) ∧ decode cX12_isAllowed 38 = .ok (.goto 4, 3) ∧ decode cX12_isAllowed 41 = .ok (.iconst 0, 1) ∧ decode cX12_isAllowed 42 = .ok (.ireturn, 1) := by decide +kernel
theorem eX12_isAllowed_43 : decode cX12_isAllowed 43 = .ok (.iload_n 1, 1) ∧ decode cX12_isAllowed 44 = .ok (.ifCond .eq 8, 3) ∧ decode cX12_isAllowed 47 = .ok (.iload_n 1, 1) ∧ decode cX12_isAllowed 48 = .ok (.iconst 3, 1) ∧ decode cX12_isAllowed 49 = .ok (.if_icmp .ne 7, 3) ∧ decode cX12_isAllowed 52 = .ok (.iconst 1, 1) ∧ decode cX12_isAllowed 53 = .ok (.goto 4, 3) ∧ decode cX12_isAllowed 56 = .ok (.iconst 0, 1) := by decide +kernel
theorem eX12_isAllowed_57 : decode cX12_isAllowed 57 = .ok (.ireturn, 1) ∧ decode cX12_isAllowed 58 = .ok (.iload_n 1, 1) ∧ decode cX12_isAllowed 59 = .ok (.iconst 2, 1) ∧ decode cX12_isAllowed 60 = .ok (.if_icmp .lt 8, 3) ∧ decode cX12_isAllowed 63 = .ok (.iload_n 1, 1) ∧ decode cX12_isAllowed 64 = .ok (.iconst 3, 1) ∧ decode cX12_isAllowed 65 = .ok (.if_icmp .ne 7, 3) ∧ decode cX12_isAllowed 68 = .ok (.iconst 1, 1) := by decide +kernel
theorem eX12_isAllowed_69 : decode cX12_isAllowed 69 = .ok (.goto 4, 3) ∧ decode cX12_isAllowed 72 = .ok (.iconst 0, 1) ∧ decode cX12_isAllowed 73 = .ok (.ireturn, 1) ∧ decode cX12_isAllowed 74 = .ok (.iload_n 1, 1) ∧ decode cX12_isAllowed 75 = .ok (.ifCond .eq 8, 3) ∧ decode cX12_isAllowed 78 = .ok (.iload_n 1, 1) ∧ decode cX12_isAllowed 79 = .ok (.iconst 2, 1) ∧ decode cX12_isAllowed 80 = .ok (.if_icmp .le 7, 3) := by decide +kernel
theorem eX12_isAllowed_83 : decode cX12_isAllowed 83 = .ok (.iconst 1, 1) ∧ decode cX12_isAllowed 84 = .ok (.goto 4, 3) ∧ decode cX12_isAllowed 87 = .ok (.iconst 0, 1) ∧ decode cX12_isAllowed 88 = .ok (.ireturn, 1) ∧ decode cX12_name 0 = .ok (.aload_n 0, 1) ∧ decode cX12_name 1 = .ok (.getfield 266, 3) ∧ decode cX12_name 4 = .ok (.ifCond .eq 5, 3) ∧ decode cX12_name 7 = .ok (.lconst 0, 1) := by decide +kernel
theorem eX12_name_8 : decode cX12_name 8 = .ok (.lreturn, 1) ∧ decode cX12_name 9 = .ok (.aload_n 0, 1) ∧ decode cX12_name 10 = .ok (.invokevirtual 278, 3) ∧ decode cX12_name 13 = .ok (.invokestatic 282, 3) ∧ decode cX12_name 16 = .ok (.ifCond .eq 21, 3) ∧ decode cX12_name 19 = .ok (.aload_n 0, 1) ∧ decode cX12_name 20 = .ok (.getfield 272, 3) ∧ decode cX12_name 23 = .ok (.aload_n 0, 1) := by decide +kernel
theorem eX12_name_24 : decode cX12_name 24 = .ok (.getfield 286, 3) ∧ decode cX12_name 27 = .ok (.if_icmp .eq 10, 3) ∧ decode cX12_name 30 = .ok (.aload_n 0, 1) ∧ decode cX12_name 31 = .ok (.invokevirtual 313, 3) ∧ decode cX12_name 34 = .ok (.ifCond .eq 14, 3) ∧ decode cX12_name 37 = .ok (.aload_n 0, 1) ∧ decode cX12_name 38 = .ok (.iconst 1, 1) ∧ decode cX12_name 39 = .ok (.aload_n 0, 1) := by decide +kernel
theorem eX12_name_40 : decode cX12_name 40 = .ok (.getfield 272, 3) ∧ decode cX12_name 43 = .ok (.invokevirtual 296, 3) ∧ decode cX12_name 46 = .ok (.lconst 0, 1) ∧ decode cX12_name 47 = .ok (.lreturn, 1) ∧ decode cX12_name 48 = .ok (.aload_n 0, 1) ∧ decode cX12_name 49 = .ok (.aload_n 0, 1) ∧ decode cX12_name 50 = .ok (.getfield 272, 3) ∧ decode cX12_name 53 = .ok (.putfield 317, 3) := by decide +kernel
theorem eX12_name_56 : decode cX12_name 56 = .ok (.lconst 0, 1) ∧ decode cX12_name 57 = .ok (.lstore_n 1, 1) ∧ decode cX12_name 58 = .ok (.aload_n 0, 1) ∧ decode cX12_name 59 = .ok (.getfield 272, 3) ∧ decode cX12_name 62 = .ok (.aload_n 0, 1) ∧ decode cX12_name 63 = .ok (.getfield 275, 3) ∧ decode cX12_name 66 = .ok (.if_icmp .ge 79, 3) ∧ decode cX12_name 69 = .ok (.aload_n 0, 1) := by decide +kernel
theorem eX12_name_70 : decode cX12_name 70 = .ok (.getfield 7, 3) ∧ decode cX12_name 73 = .ok (.aload_n 0, 1) ∧ decode cX12_name 74 = .ok (.getfield 272, 3) ∧ decode cX12_name 77 = .ok (.iaload, 1) ∧ decode cX12_name 78 = .ok (.invokestatic 282, 3) ∧ decode cX12_name 81 = .ok (.ifCond .eq 64, 3) ∧ decode cX12_name 84 = .ok (.aload_n 0, 1) ∧ decode cX12_name 85 = .ok (.getfield 272, 3) := by decide +kernel
theorem eX12_name_88 : decode cX12_name 88 = .ok (.aload_n 0, 1) ∧ decode cX12_name 89 = .ok (.getfield 317, 3) ∧ decode cX12_name 92 = .ok (.isub, 1) ∧ decode cX12_name 93 = .ok (.bipush 6, 2) ∧ decode cX12_name 95 = .ok (.if_icmp .ne 14, 3) ∧ decode cX12_name 98 = .ok (.aload_n 0, 1) ∧ decode cX12_name 99 = .ok (.iconst 1, 1) ∧ decode cX12_name 100 = .ok (.aload_n 0, 1) := by decide +kernel
theorem eX12_name_101 : decode cX12_name 101 = .ok (.getfield 272, 3) ∧ decode cX12_name 104 = .ok (.invokevirtual 296, 3) ∧ decode cX12_name 107 = .ok (.lconst 0, 1) ∧ decode cX12_name 108 = .ok (.lreturn, 1) ∧ decode cX12_name 109 = .ok (.ldc2_w 320, 3) ∧ decode cX12_name 112 = .ok (.lload_n 1, 1) ∧ decode cX12_name 113 = .ok (.lmul, 1) ∧ decode cX12_name 114 = .ok (.aload_n 0, 1) := by decide +kernel
theorem eX12_name_115 : decode cX12_name 115 = .ok (.getfield 7, 3) ∧ decode cX12_name 118 = .ok (.aload_n 0, 1) ∧ decode cX12_name 119 = .ok (.getfield 272, 3) ∧ decode cX12_name 122 = .ok (.iaload, 1) ∧ decode cX12_name 123 = .ok (.i2l, 1) ∧ decode cX12_name 124 = .ok (.ladd, 1) ∧ decode cX12_name 125 = .ok (.ldc2_w 322, 3) ∧ decode cX12_name 128 = .ok (.lsub, 1) := by decide +kernel
theorem eX12_name_129 : decode cX12_name 129 = .ok (.lconst 1, 1) ∧ decode cX12_name 130 = .ok (.ladd, 1) ∧ decode cX12_name 131 = .ok (.lstore_n 1, 1) ∧ decode cX12_name 132 = .ok (.aload_n 0, 1) ∧ decode cX12_name 133 = .ok (.dup, 1) ∧ decode cX12_name 134 = .ok (.getfield 272, 3) ∧ decode cX12_name 137 = .ok (.iconst 1, 1) ∧ decode cX12_name 138 = .ok (.iadd, 1) := by decide +kernel
theorem eX12_name_139 : decode cX12_name 139 = .ok (.putfield 272, 3) ∧ decode cX12_name 142 = .ok (.goto (-84), 3) ∧ decode cX12_name 145 = .ok (.aload_n 0, 1) ∧ decode cX12_name 146 = .ok (.aload_n 0, 1) ∧ decode cX12_name 147 = .ok (.getfield 272, 3) ∧ decode cX12_name 150 = .ok (.putfield 286, 3) ∧ decode cX12_name 153 = .ok (.lload_n 1, 1) ∧ decode cX12_name 154 = .ok (.lreturn, 1) := by decide +kernel
theorem eX12_newName_0 : decode cX12_newName 0 = .ok (.aload_n 0, 1) ∧ decode cX12_newName 1 = .ok (.invokevirtual 339, 3) ∧ decode cX12_newName 4 = .ok (.lstore_n 1, 1) ∧ decode cX12_newName 5 = .ok (.iconst 0, 1) ∧ decode cX12_newName 6 = .ok (.istore_n 3, 1) ∧ decode cX12_newName 7 = .ok (.iload_n 3, 1) ∧ decode cX12_newName 8 = .ok (.aload_n 0, 1) ∧ decode cX12_newName 9 = .ok (.getfield 102, 3) := by decide +kernel
theorem eX12_newName_12 : decode cX12_newName 12 = .ok (.iconst 2, 1) ∧ decode cX12_newName 13 = .ok (.iaload, 1) ∧ decode cX12_newName 14 = .ok (.if_icmp .ge 36, 3) ∧ decode cX12_newName 17 = .ok (.aload_n 0, 1) ∧ decode cX12_newName 18 = .ok (.getfield 266, 3) ∧ decode cX12_newName 21 = .ok (.ifCond .ne 23, 3) ∧ decode cX12_newName 24 = .ok (.aload_n 0, 1) ∧ decode cX12_newName 25 = .ok (.getfield 105, 3) := by decide +kernel
theorem eX12_newName_28 : decode cX12_newName 28 = .ok (.iload_n 3, 1) ∧ decode cX12_newName 29 = .ok (.laload, 1) ∧ decode cX12_newName 30 = .ok (.lload_n 1, 1) ∧ decode cX12_newName 31 = .ok (.lcmp, 1) ∧ decode cX12_newName 32 = .ok (.ifCond .ne 12, 3) ∧ decode cX12_newName 35 = .ok (.aload_n 0, 1) ∧ decode cX12_newName 36 = .ok (.iconst 3, 1) ∧ decode cX12_newName 37 = .ok (.aload_n 0, 1) := by decide +kernel
theorem eX12_newName_38 : decode cX12_newName 38 = .ok (.getfield 317, 3) ∧ decode cX12_newName 41 = .ok (.invokevirtual 296, 3) ∧ decode cX12_newName 44 = .ok (.iinc 3 1, 3) ∧ decode cX12_newName 47 = .ok (.goto (-40), 3) ∧ decode cX12_newName 50 = .ok (.lload_n 1, 1) ∧ decode cX12_newName 51 = .ok (.lreturn, 1) ∧ decode cX12_putTold 0 = .ok (.aload_n 0, 1) ∧ decode cX12_putTold 1 = .ok (.invokevirtual 346, 3) := by decide +kernel
theorem eX12_putTold_4 : decode cX12_putTold 4 = .ok (.istore_n 1, 1) ∧ decode cX12_putTold 5 = .ok (.aload_n 0, 1) ∧ decode cX12_putTold 6 = .ok (.iconst 0, 1) ∧ decode cX12_putTold 7 = .ok (.sipush 999, 3) ∧ decode cX12_putTold 10 = .ok (.invokevirtual 331, 3) ∧ decode cX12_putTold 13 = .ok (.istore_n 2, 1) ∧ decode cX12_putTold 14 = .ok (.aload_n 0, 1) ∧ decode cX12_putTold 15 = .ok (.iconst 2, 1) := by decide +kernel
theorem eX12_putTold_16 : decode cX12_putTold 16 = .ok (.iload_n 1, 1) ∧ decode cX12_putTold 17 = .ok (.iload_n 2, 1) ∧ decode cX12_putTold 18 = .ok (.aload_n 0, 1) ∧ decode cX12_putTold 19 = .ok (.iconst 0, 1) ∧ decode cX12_putTold 20 = .ok (.sipush 999, 3) ∧ decode cX12_putTold 23 = .ok (.invokevirtual 331, 3) ∧ decode cX12_putTold 26 = .ok (.invokevirtual 349, 3) ∧ decode cX12_putTold 29 = .ok (.return_, 1) := by decide +kernel
theorem eX12_qCode_0 : decode cX12_qCode 0 = .ok (.aload_n 0, 1) ∧ decode cX12_qCode 1 = .ok (.getfield 243, 3) ∧ decode cX12_qCode 4 = .ok (.aload_n 0, 1) ∧ decode cX12_qCode 5 = .ok (.getfield 353, 3) ∧ decode cX12_qCode 8 = .ok (.iload_n 1, 1) ∧ decode cX12_qCode 9 = .ok (.iastore, 1) ∧ decode cX12_qCode 10 = .ok (.aload_n 0, 1) ∧ decode cX12_qCode 11 = .ok (.dup, 1) := by decide +kernel
theorem eX12_qCode_12 : decode cX12_qCode 12 = .ok (.getfield 353, 3) ∧ decode cX12_qCode 15 = .ok (.iconst 1, 1) ∧ decode cX12_qCode 16 = .ok (.iadd, 1) ∧ decode cX12_qCode 17 = .ok (.putfield 353, 3) ∧ decode cX12_qCode 20 = .ok (.return_, 1) ∧ decode cX12_qDrops 0 = .ok (.aload_n 0, 1) ∧ decode cX12_qDrops 1 = .ok (.dup, 1) ∧ decode cX12_qDrops 2 = .ok (.getfield 356, 3) := by decide +kernel
theorem eX12_qDrops_5 : decode cX12_qDrops 5 = .ok (.iconst 1, 1) ∧ decode cX12_qDrops 6 = .ok (.isub, 1) ∧ decode cX12_qDrops 7 = .ok (.putfield 356, 3) ∧ decode cX12_qDrops 10 = .ok (.aload_n 0, 1) ∧ decode cX12_qDrops 11 = .ok (.aload_n 0, 1) ∧ decode cX12_qDrops 12 = .ok (.getfield 246, 3) ∧ decode cX12_qDrops 15 = .ok (.aload_n 0, 1) ∧ decode cX12_qDrops 16 = .ok (.getfield 356, 3) := by decide +kernel
theorem eX12_qDrops_19 : decode cX12_qDrops 19 = .ok (.iaload, 1) ∧ decode cX12_qDrops 20 = .ok (.invokevirtual 693, 3) ∧ decode cX12_qDrops 23 = .ok (.return_, 1) ∧ decode cX12_qEndsPart 0 = .ok (.aload_n 0, 1) ∧ decode cX12_qEndsPart 1 = .ok (.getfield 266, 3) ∧ decode cX12_qEndsPart 4 = .ok (.ifCond .ne 47, 3) ∧ decode cX12_qEndsPart 7 = .ok (.aload_n 0, 1) ∧ decode cX12_qEndsPart 8 = .ok (.getfield 356, 3) := by decide +kernel
theorem eX12_qEndsPart_11 : decode cX12_qEndsPart 11 = .ok (.aload_n 0, 1) ∧ decode cX12_qEndsPart 12 = .ok (.getfield 362, 3) ∧ decode cX12_qEndsPart 15 = .ok (.if_icmp .le 36, 3) ∧ decode cX12_qEndsPart 18 = .ok (.aload_n 0, 1) ∧ decode cX12_qEndsPart 19 = .ok (.getfield 246, 3) ∧ decode cX12_qEndsPart 22 = .ok (.aload_n 0, 1) ∧ decode cX12_qEndsPart 23 = .ok (.getfield 356, 3) ∧ decode cX12_qEndsPart 26 = .ok (.iconst 1, 1) := by decide +kernel
theorem eX12_qEndsPart_27 : decode cX12_qEndsPart 27 = .ok (.isub, 1) ∧ decode cX12_qEndsPart 28 = .ok (.iaload, 1) ∧ decode cX12_qEndsPart 29 = .ok (.bipush 60, 2) ∧ decode cX12_qEndsPart 31 = .ok (.if_icmp .lt 20, 3) ∧ decode cX12_qEndsPart 34 = .ok (.aload_n 0, 1) ∧ decode cX12_qEndsPart 35 = .ok (.dup, 1) ∧ decode cX12_qEndsPart 36 = .ok (.getfield 359, 3) ∧ decode cX12_qEndsPart 39 = .ok (.iconst 1, 1) := by decide +kernel
theorem eX12_qEndsPart_40 : decode cX12_qEndsPart 40 = .ok (.isub, 1) ∧ decode cX12_qEndsPart 41 = .ok (.putfield 359, 3) ∧ decode cX12_qEndsPart 44 = .ok (.aload_n 0, 1) ∧ decode cX12_qEndsPart 45 = .ok (.invokevirtual 699, 3) ∧ decode cX12_qEndsPart 48 = .ok (.goto (-48), 3) ∧ decode cX12_qEndsPart 51 = .ok (.return_, 1) ∧ decode cX12_qWordHere 0 = .ok (.aload_n 0, 1) ∧ decode cX12_qWordHere 1 = .ok (.aload_n 0, 1) := by decide +kernel
theorem eX12_qWordHere_2 : decode cX12_qWordHere 2 = .ok (.getfield 213, 3) ∧ decode cX12_qWordHere 5 = .ok (.invokevirtual 289, 3) ∧ decode cX12_qWordHere 8 = .ok (.ifCond .eq 5, 3) ∧ decode cX12_qWordHere 11 = .ok (.iconst 0, 1) ∧ decode cX12_qWordHere 12 = .ok (.ireturn, 1) ∧ decode cX12_qWordHere 13 = .ok (.aload_n 0, 1) ∧ decode cX12_qWordHere 14 = .ok (.aload_n 0, 1) ∧ decode cX12_qWordHere 15 = .ok (.getfield 216, 3) := by decide +kernel
theorem eX12_qWordHere_18 : decode cX12_qWordHere 18 = .ok (.invokevirtual 289, 3) ∧ decode cX12_qWordHere 21 = .ok (.ifCond .eq 5, 3) ∧ decode cX12_qWordHere 24 = .ok (.iconst 1, 1) ∧ decode cX12_qWordHere 25 = .ok (.ireturn, 1) ∧ decode cX12_qWordHere 26 = .ok (.aload_n 0, 1) ∧ decode cX12_qWordHere 27 = .ok (.aload_n 0, 1) ∧ decode cX12_qWordHere 28 = .ok (.getfield 219, 3) ∧ decode cX12_qWordHere 31 = .ok (.invokevirtual 289, 3) := by decide +kernel
theorem eX12_qWordHere_34 : decode cX12_qWordHere 34 = .ok (.ifCond .eq 5, 3) ∧ decode cX12_qWordHere 37 = .ok (.iconst 2, 1) ∧ decode cX12_qWordHere 38 = .ok (.ireturn, 1) ∧ decode cX12_qWordHere 39 = .ok (.aload_n 0, 1) ∧ decode cX12_qWordHere 40 = .ok (.aload_n 0, 1) ∧ decode cX12_qWordHere 41 = .ok (.getfield 222, 3) ∧ decode cX12_qWordHere 44 = .ok (.invokevirtual 289, 3) ∧ decode cX12_qWordHere 47 = .ok (.ifCond .eq 5, 3) := by decide +kernel
theorem eX12_qWordHere_50 : decode cX12_qWordHere 50 = .ok (.iconst 3, 1) ∧ decode cX12_qWordHere 51 = .ok (.ireturn, 1) ∧ decode cX12_qWordHere 52 = .ok (.aload_n 0, 1) ∧ decode cX12_qWordHere 53 = .ok (.aload_n 0, 1) ∧ decode cX12_qWordHere 54 = .ok (.getfield 225, 3) ∧ decode cX12_qWordHere 57 = .ok (.invokevirtual 289, 3) ∧ decode cX12_qWordHere 60 = .ok (.ifCond .eq 5, 3) ∧ decode cX12_qWordHere 63 = .ok (.iconst 4, 1) := by decide +kernel
theorem eX12_qWordHere_64 : decode cX12_qWordHere 64 = .ok (.ireturn, 1) ∧ decode cX12_qWordHere 65 = .ok (.aload_n 0, 1) ∧ decode cX12_qWordHere 66 = .ok (.aload_n 0, 1) ∧ decode cX12_qWordHere 67 = .ok (.getfield 228, 3) ∧ decode cX12_qWordHere 70 = .ok (.invokevirtual 289, 3) ∧ decode cX12_qWordHere 73 = .ok (.ifCond .eq 5, 3) ∧ decode cX12_qWordHere 76 = .ok (.iconst 5, 1) ∧ decode cX12_qWordHere 77 = .ok (.ireturn, 1) := by decide +kernel
theorem eX12_qWordHere_78 : decode cX12_qWordHere 78 = .ok (.aload_n 0, 1) ∧ decode cX12_qWordHere 79 = .ok (.aload_n 0, 1) ∧ decode cX12_qWordHere 80 = .ok (.getfield 231, 3) ∧ decode cX12_qWordHere 83 = .ok (.invokevirtual 289, 3) ∧ decode cX12_qWordHere 86 = .ok (.ifCond .eq 6, 3) ∧ decode cX12_qWordHere 89 = .ok (.bipush 6, 2) ∧ decode cX12_qWordHere 91 = .ok (.ireturn, 1) ∧ decode cX12_qWordHere 92 = .ok (.aload_n 0, 1) := by decide +kernel
theorem eX12_qWordHere_93 : decode cX12_qWordHere 93 = .ok (.aload_n 0, 1) ∧ decode cX12_qWordHere 94 = .ok (.getfield 234, 3) ∧ decode cX12_qWordHere 97 = .ok (.invokevirtual 289, 3) ∧ decode cX12_qWordHere 100 = .ok (.ifCond .eq 6, 3) ∧ decode cX12_qWordHere 103 = .ok (.bipush 7, 2) ∧ decode cX12_qWordHere 105 = .ok (.ireturn, 1) ∧ decode cX12_qWordHere 106 = .ok (.aload_n 0, 1) ∧ decode cX12_qWordHere 107 = .ok (.aload_n 0, 1) := by decide +kernel
theorem eX12_qWordHere_108 : decode cX12_qWordHere 108 = .ok (.getfield 237, 3) ∧ decode cX12_qWordHere 111 = .ok (.invokevirtual 289, 3) ∧ decode cX12_qWordHere 114 = .ok (.ifCond .eq 6, 3) ∧ decode cX12_qWordHere 117 = .ok (.bipush 8, 2) ∧ decode cX12_qWordHere 119 = .ok (.ireturn, 1) ∧ decode cX12_qWordHere 120 = .ok (.aload_n 0, 1) ∧ decode cX12_qWordHere 121 = .ok (.aload_n 0, 1) ∧ decode cX12_qWordHere 122 = .ok (.getfield 240, 3) := by decide +kernel
theorem eX12_qWordHere_125 : decode cX12_qWordHere 125 = .ok (.invokevirtual 289, 3) ∧ decode cX12_qWordHere 128 = .ok (.ifCond .eq 6, 3) ∧ decode cX12_qWordHere 131 = .ok (.bipush 9, 2) ∧ decode cX12_qWordHere 133 = .ok (.ireturn, 1) ∧ decode cX12_qWordHere 134 = .ok (.iconst (-1), 1) ∧ decode cX12_qWordHere 135 = .ok (.ireturn, 1) ∧ decode cX12_removeTold 0 = .ok (.aload_n 0, 1) ∧ decode cX12_removeTold 1 = .ok (.invokevirtual 346, 3) := by decide +kernel
theorem eX12_removeTold_4 : decode cX12_removeTold 4 = .ok (.istore_n 1, 1) ∧ decode cX12_removeTold 5 = .ok (.aload_n 0, 1) ∧ decode cX12_removeTold 6 = .ok (.iconst 3, 1) ∧ decode cX12_removeTold 7 = .ok (.iload_n 1, 1) ∧ decode cX12_removeTold 8 = .ok (.aload_n 0, 1) ∧ decode cX12_removeTold 9 = .ok (.iconst 0, 1) ∧ decode cX12_removeTold 10 = .ok (.sipush 999, 3) ∧ decode cX12_removeTold 13 = .ok (.invokevirtual 331, 3) := by decide +kernel
theorem eX12_removeTold_16 : decode cX12_removeTold 16 = .ok (.iconst 0, 1) ∧ decode cX12_removeTold 17 = .ok (.invokevirtual 349, 3) ∧ decode cX12_removeTold 20 = .ok (.return_, 1) ∧ decode cX12_storeTold 0 = .ok (.aload_n 0, 1) ∧ decode cX12_storeTold 1 = .ok (.aload_n 0, 1) ∧ decode cX12_storeTold 2 = .ok (.getfield 20, 3) ∧ decode cX12_storeTold 5 = .ok (.invokevirtual 327, 3) ∧ decode cX12_storeTold 8 = .ok (.aload_n 0, 1) := by decide +kernel
theorem eX12_storeTold_9 : decode cX12_storeTold 9 = .ok (.getfield 102, 3) ∧ decode cX12_storeTold 12 = .ok (.iconst 0, 1) ∧ decode cX12_storeTold 13 = .ok (.aload_n 0, 1) ∧ decode cX12_storeTold 14 = .ok (.bipush 8, 2) ∧ decode cX12_storeTold 16 = .ok (.bipush 48, 2) ∧ decode cX12_storeTold 18 = .ok (.invokevirtual 331, 3) ∧ decode cX12_storeTold 21 = .ok (.iastore, 1) ∧ decode cX12_storeTold 22 = .ok (.aload_n 0, 1) := by decide +kernel
theorem eX12_storeTold_23 : decode cX12_storeTold 23 = .ok (.aload_n 0, 1) ∧ decode cX12_storeTold 24 = .ok (.getfield 24, 3) ∧ decode cX12_storeTold 27 = .ok (.invokevirtual 327, 3) ∧ decode cX12_storeTold 30 = .ok (.aload_n 0, 1) ∧ decode cX12_storeTold 31 = .ok (.getfield 102, 3) ∧ decode cX12_storeTold 34 = .ok (.iconst 1, 1) ∧ decode cX12_storeTold 35 = .ok (.aload_n 0, 1) ∧ decode cX12_storeTold 36 = .ok (.iconst 3, 1) := by decide +kernel
theorem eX12_storeTold_37 : decode cX12_storeTold 37 = .ok (.bipush 6, 2) ∧ decode cX12_storeTold 39 = .ok (.invokevirtual 331, 3) ∧ decode cX12_storeTold 42 = .ok (.iastore, 1) ∧ decode cX12_storeTold 43 = .ok (.aload_n 0, 1) ∧ decode cX12_storeTold 44 = .ok (.bipush 59, 2) ∧ decode cX12_storeTold 46 = .ok (.invokevirtual 335, 3) ∧ decode cX12_storeTold 49 = .ok (.return_, 1) ∧ decode cX12_volumeNamed 0 = .ok (.aload_n 0, 1) := by decide +kernel
theorem eX12_volumeNamed_1 : decode cX12_volumeNamed 1 = .ok (.invokevirtual 339, 3) ∧ decode cX12_volumeNamed 4 = .ok (.lstore_n 1, 1) ∧ decode cX12_volumeNamed 5 = .ok (.iconst 0, 1) ∧ decode cX12_volumeNamed 6 = .ok (.istore_n 3, 1) ∧ decode cX12_volumeNamed 7 = .ok (.iload_n 3, 1) ∧ decode cX12_volumeNamed 8 = .ok (.aload_n 0, 1) ∧ decode cX12_volumeNamed 9 = .ok (.getfield 102, 3) ∧ decode cX12_volumeNamed 12 = .ok (.iconst 2, 1) := by decide +kernel
theorem eX12_volumeNamed_13 : decode cX12_volumeNamed 13 = .ok (.iaload, 1) ∧ decode cX12_volumeNamed 14 = .ok (.if_icmp .ge 22, 3) ∧ decode cX12_volumeNamed 17 = .ok (.aload_n 0, 1) ∧ decode cX12_volumeNamed 18 = .ok (.getfield 105, 3) ∧ decode cX12_volumeNamed 21 = .ok (.iload_n 3, 1) ∧ decode cX12_volumeNamed 22 = .ok (.laload, 1) ∧ decode cX12_volumeNamed 23 = .ok (.lload_n 1, 1) ∧ decode cX12_volumeNamed 24 = .ok (.lcmp, 1) := by decide +kernel
theorem eX12_volumeNamed_25 : decode cX12_volumeNamed 25 = .ok (.ifCond .ne 5, 3) ∧ decode cX12_volumeNamed 28 = .ok (.iload_n 3, 1) ∧ decode cX12_volumeNamed 29 = .ok (.ireturn, 1) ∧ decode cX12_volumeNamed 30 = .ok (.iinc 3 1, 3) ∧ decode cX12_volumeNamed 33 = .ok (.goto (-26), 3) ∧ decode cX12_volumeNamed 36 = .ok (.aload_n 0, 1) ∧ decode cX12_volumeNamed 37 = .ok (.getfield 266, 3) ∧ decode cX12_volumeNamed 40 = .ok (.ifCond .ne 12, 3) := by decide +kernel
theorem eX12_volumeNamed_43 : decode cX12_volumeNamed 43 = .ok (.aload_n 0, 1) ∧ decode cX12_volumeNamed 44 = .ok (.iconst 3, 1) ∧ decode cX12_volumeNamed 45 = .ok (.aload_n 0, 1) ∧ decode cX12_volumeNamed 46 = .ok (.getfield 317, 3) ∧ decode cX12_volumeNamed 49 = .ok (.invokevirtual 296, 3) ∧ decode cX12_volumeNamed 52 = .ok (.iconst 0, 1) ∧ decode cX12_volumeNamed 53 = .ok (.ireturn, 1) ∧ decode cX12_volumeTold 0 = .ok (.aload_n 0, 1) := by decide +kernel
theorem eX12_volumeTold_1 : decode cX12_volumeTold 1 = .ok (.getfield 266, 3) ∧ decode cX12_volumeTold 4 = .ok (.ifCond .ne 20, 3) ∧ decode cX12_volumeTold 7 = .ok (.aload_n 0, 1) ∧ decode cX12_volumeTold 8 = .ok (.getfield 102, 3) ∧ decode cX12_volumeTold 11 = .ok (.iconst 2, 1) ∧ decode cX12_volumeTold 12 = .ok (.iaload, 1) ∧ decode cX12_volumeTold 13 = .ok (.bipush 8, 2) ∧ decode cX12_volumeTold 15 = .ok (.if_icmp .ne 9, 3) := by decide +kernel
theorem eX12_volumeTold_18 : decode cX12_volumeTold 18 = .ok (.aload_n 0, 1) ∧ decode cX12_volumeTold 19 = .ok (.iconst 5, 1) ∧ decode cX12_volumeTold 20 = .ok (.iload_n 2, 1) ∧ decode cX12_volumeTold 21 = .ok (.invokevirtual 296, 3) ∧ decode cX12_volumeTold 24 = .ok (.aload_n 0, 1) ∧ decode cX12_volumeTold 25 = .ok (.invokevirtual 343, 3) ∧ decode cX12_volumeTold 28 = .ok (.lstore_n 3, 1) ∧ decode cX12_volumeTold 29 = .ok (.iconst (-1), 1) := by decide +kernel
theorem eX12_volumeTold_30 : decode cX12_volumeTold 30 = .ok (.istore 5, 2) ∧ decode cX12_volumeTold 32 = .ok (.iload_n 1, 1) ∧ decode cX12_volumeTold 33 = .ok (.ifCond .eq 17, 3) ∧ decode cX12_volumeTold 36 = .ok (.aload_n 0, 1) ∧ decode cX12_volumeTold 37 = .ok (.aload_n 0, 1) ∧ decode cX12_volumeTold 38 = .ok (.getfield 33, 3) ∧ decode cX12_volumeTold 41 = .ok (.invokevirtual 327, 3) ∧ decode cX12_volumeTold 44 = .ok (.aload_n 0, 1) := by decide +kernel
theorem eX12_volumeTold_45 : decode cX12_volumeTold 45 = .ok (.invokevirtual 346, 3) ∧ decode cX12_volumeTold 48 = .ok (.istore 5, 2) ∧ decode cX12_volumeTold 50 = .ok (.aload_n 0, 1) ∧ decode cX12_volumeTold 51 = .ok (.getfield 266, 3) ∧ decode cX12_volumeTold 54 = .ok (.ifCond .eq 4, 3) ∧ decode cX12_volumeTold 57 = .ok (.return_, 1) ∧ decode cX12_volumeTold 58 = .ok (.aload_n 0, 1) ∧ decode cX12_volumeTold 59 = .ok (.iload_n 1, 1) := by decide +kernel
theorem eX12_volumeTold_60 : decode cX12_volumeTold 60 = .ok (.ifCond .eq 7, 3) ∧ decode cX12_volumeTold 63 = .ok (.iconst 1, 1) ∧ decode cX12_volumeTold 64 = .ok (.goto 4, 3) ∧ decode cX12_volumeTold 67 = .ok (.iconst 0, 1) ∧ decode cX12_volumeTold 68 = .ok (.iload_n 1, 1) ∧ decode cX12_volumeTold 69 = .ok (.ifCond .eq 8, 3) ∧ decode cX12_volumeTold 72 = .ok (.iload 5, 2) ∧ decode cX12_volumeTold 74 = .ok (.goto 9, 3) := by decide +kernel
theorem eX12_volumeTold_77 : decode cX12_volumeTold 77 = .ok (.aload_n 0, 1) ∧ decode cX12_volumeTold 78 = .ok (.getfield 102, 3) ∧ decode cX12_volumeTold 81 = .ok (.iconst 2, 1) ∧ decode cX12_volumeTold 82 = .ok (.iaload, 1) ∧ decode cX12_volumeTold 83 = .ok (.aload_n 0, 1) ∧ decode cX12_volumeTold 84 = .ok (.getfield 102, 3) ∧ decode cX12_volumeTold 87 = .ok (.iconst 2, 1) ∧ decode cX12_volumeTold 88 = .ok (.iaload, 1) := by decide +kernel
theorem eX12_volumeTold_89 : decode cX12_volumeTold 89 = .ok (.iconst 0, 1) ∧ decode cX12_volumeTold 90 = .ok (.invokevirtual 349, 3) ∧ decode cX12_volumeTold 93 = .ok (.aload_n 0, 1) ∧ decode cX12_volumeTold 94 = .ok (.getfield 105, 3) ∧ decode cX12_volumeTold 97 = .ok (.aload_n 0, 1) ∧ decode cX12_volumeTold 98 = .ok (.getfield 102, 3) ∧ decode cX12_volumeTold 101 = .ok (.iconst 2, 1) ∧ decode cX12_volumeTold 102 = .ok (.iaload, 1) := by decide +kernel
theorem eX12_volumeTold_103 : decode cX12_volumeTold 103 = .ok (.lload_n 3, 1) ∧ decode cX12_volumeTold 104 = .ok (.lastore, 1) ∧ decode cX12_volumeTold 105 = .ok (.aload_n 0, 1) ∧ decode cX12_volumeTold 106 = .ok (.getfield 102, 3) ∧ decode cX12_volumeTold 109 = .ok (.iconst 2, 1) ∧ decode cX12_volumeTold 110 = .ok (.dup2, 1) ∧ decode cX12_volumeTold 111 = .ok (.iaload, 1) ∧ decode cX12_volumeTold 112 = .ok (.iconst 1, 1) := by decide +kernel
theorem eX12_volumeTold_113 : decode cX12_volumeTold 113 = .ok (.iadd, 1) ∧ decode cX12_volumeTold 114 = .ok (.iastore, 1) ∧ decode cX12_volumeTold 115 = .ok (.return_, 1) := by decide +kernel
set_option maxHeartbeats 4000000 in
set_option maxRecDepth 100000 in
theorem k_x12_name (l : Launch) (D : va_G) (a : Nat → Nat) (sz : Nat) (s : MS) (o : (Int × MS)) (h : m_x12_name s = some o) : yWl l yX12_name cX12_name 3 (some .long) { frames := 3, cells := 0, slots := 0, locals := 180 } D sz [.ref (a 200)] (RW D a s) (RW D a o.2) (i8 o.1) := by
  refine Met.ofW (cc := cX12_name) (maxL := 3) (ret := (some .long)) (by decide) rfl ?_
  intro p e s₀ m args below meth c s₁ B hml hv
  obtain ⟨rfl, ⟨hsz, hP, hK, hD0⟩, hN⟩ := hv
  have hx := B.exec
  have hb := B.bytes
  have hr := B.returns
  have hts := atoms_spec (ws := wz yX12_name cX12_name 3 (some .long)) B.pre
  have ht : ∀ w ∈ lw_gd, w.before _ s₀ = true := fun w h => hts w (List.mem_cons_of_mem _ h)
  have hown : s₀.vm.findClass RX12 = some m.cls := findClass_of_methodNamed B.named
  have hlocks := B.notSynchronized
  subst hsz
  have hD := hD0.self (sz := s₀.heap.size)
  generalize hAe : va_A (RW D a s) s₀.heap.size = A at hD ⊢
  have hA : ∀ q : Nat, s₀.heap.size ≤ q → A q := fun q h => by rw [← hAe]; exact Or.inr h
  have hS : va_S A s₀.heap s₀.heap [] := va_S.rf
  have hDD : ∀ t : MS, va_D A (RW D a t) := fun t => RW_D t hD
  have hl := lv_entry ([.ref (a 200)]) (n := 3) (Nat.le_of_ble_eq_true rfl)
  rw [lg_entry_eq]
  generalize (lg_sl ([.ref (a 200)]) ++ List.replicate (3 - (lg_sl ([.ref (a 200)])).length) Slot.unset).toArray = ls at hl ⊢
  have hl : lv_has ls 3 [(0, .ref (a 200))] := hl
  unfold m_x12_name at h
  refine y_head (pcJ := 145) (σ := Int × MS) (fun u H locs ls => va_P D vwCl (RW D a u.2) H ∧ va_S A s₀.heap H locs ∧ lv_has ls 3 [(0, .ref (a 200)), (1, .long (i8 u.1))] ∧ m_x12_name_J145 u.1 u.2 = some o) (fun u => []) (fun u H locs ls hI => ?_) (fun J145 => ?_)
  · obtain ⟨hP, hS, hl, h⟩ := hI
    obtain ⟨z1, s2⟩ := u
    have hP : va_P D vwCl (RW D a s2) H := hP
    have hl : lv_has ls 3 [(0, .ref (a 200)), (1, .long (i8 z1))] := hl
    have h : m_x12_name_J145 z1 s2 = some o := h
    unfold m_x12_name_J145 at h
    refine lv_aload_n hx hb eX12_name_139.2.2.1 rfl (lv_at hl 0 rfl) ?_
    refine lv_aload_n hx hb eX12_name_139.2.2.2.1 rfl (lv_at hl 0 rfl) ?_
    refine va_get (D := D) (ci := 12) (v := .int (i2 (gI s2 2))) (C := RX12) (T := TX12) (N := 116) hx hb ht inX12 hown hK hP 0 RW_0 rfl 2 (by decide) (ht (.fieldLink RX12 272 "CloneVolumesModel" "at" "I") fl_X12_272) (fun _ h9 => h9) mF_2 eX12_name_139.2.2.2.2.1 ?_
    refine ya_put (D := D) (ci := 12) (v := .int (i2 (gI s2 2))) (ty := .int) (C := RX12) (T := TX12) (N := 116) hx hb ht inX12 tyX12 tyX12_ok nmX12 hown hK hP (hDD _) hS 0 RW_0 rfl 4 (by decide) (ht (.fieldLink RX12 286 "CloneVolumesModel" "ended" "I") fl_X12_286) (fun _ h9 => h9) rfl (by decide +kernel) rfl rfl (by rw [mF_len]; decide) eX12_name_139.2.2.2.2.2.1 (RW_f4 (gI s2 2)) (fun H locs hP hS => ?_)
    obtain ⟨s3, hs3, h⟩ := st_e h
    rw [hs3] at hP
    refine lv_lload_n hx hb eX12_name_139.2.2.2.2.2.2.1 rfl (lv_at hl 1 rfl) ?_
    obtain rfl := Option.some.inj h
    exact W.lret (v := (i8 z1)) hx hb hr (fun t ht hW => ⟨⟨_, (), rfl, rfl, by rw [ht]; exact hP, va_K.moved hW.alike hK, hDD _⟩, hS.F ht⟩) hS.2.2 eX12_name_139.2.2.2.2.2.2.2
  refine y_loop (pcJ := 58) (σ := Int × MS) (fun n u H locs ls => va_P D vwCl (RW D a u.2) H ∧ va_S A s₀.heap H locs ∧ lv_has ls 3 [(0, .ref (a 200)), (1, .long (i8 u.1))] ∧ m_x12_name_L58 n u.1 u.2 = some o) (fun u => []) (fun u H locs ls hI => by obtain ⟨_, _, _, h⟩ := hI; cases h) (fun n58 ih58 u H locs ls hI => ?_) (fun J58 => ?_)
  · obtain ⟨hP, hS, hl, h⟩ := hI
    obtain ⟨z4, s5⟩ := u
    have hP : va_P D vwCl (RW D a s5) H := hP
    have hl : lv_has ls 3 [(0, .ref (a 200)), (1, .long (i8 z4))] := hl
    have h : m_x12_name_b58 (m_x12_name_L58 n58) z4 s5 = some o := h
    unfold m_x12_name_b58 at h
    refine lv_aload_n hx hb eX12_name_56.2.2.1 rfl (lv_at hl 0 rfl) ?_
    refine va_get (D := D) (ci := 12) (v := .int (i2 (gI s5 2))) (C := RX12) (T := TX12) (N := 116) hx hb ht inX12 hown hK hP 0 RW_0 rfl 2 (by decide) (ht (.fieldLink RX12 272 "CloneVolumesModel" "at" "I") fl_X12_272) (fun _ h9 => h9) mF_2 eX12_name_56.2.2.2.1 ?_
    refine lv_aload_n hx hb eX12_name_56.2.2.2.2.1 rfl (lv_at hl 0 rfl) ?_
    refine va_get (D := D) (ci := 12) (v := .int (i2 (gI s5 3))) (C := RX12) (T := TX12) (N := 116) hx hb ht inX12 hown hK hP 0 RW_0 rfl 3 (by decide) (ht (.fieldLink RX12 275 "CloneVolumesModel" "end" "I") fl_X12_275) (fun _ h9 => h9) mF_3 eX12_name_56.2.2.2.2.2.1 ?_
    obtain ⟨hr6, h⟩ := rg_e h
    obtain ⟨hr7, h⟩ := rg_e h
    refine lv_icmp_ge (tgt := 145) hx hb eX12_name_56.2.2.2.2.2.2.1 (by decide) (fun c8 => ?_) (fun c8 => ?_)
    · have h := if_t ((i2_le (x := (gI s5 3)) (y := (gI s5 2)) hr7 hr6).mp c8) h
      exact J145 (z4, s5) _ _ _ ⟨hP, hS, lv_sub hl [0, 1] rfl, h⟩
    · have h := if_f (mt (i2_le (x := (gI s5 3)) (y := (gI s5 2)) hr7 hr6).mpr c8) h
      refine lv_aload_n hx hb eX12_name_56.2.2.2.2.2.2.2 rfl (lv_at hl 0 rfl) ?_
      refine va_get (D := D) (ci := 12) (v := .ref (a 0)) (C := RX12) (T := TX12) (N := 116) hx hb ht inX12 hown hK hP 0 RW_0 rfl 0 (by decide) (ht (.fieldLink RX12 7 "CloneVolumesModel" "tape" "[I") fl_X12_7) (fun _ h9 => h9) mF_0 eX12_name_70.1 ?_
      refine lv_aload_n hx hb eX12_name_70.2.1 rfl (lv_at hl 0 rfl) ?_
      refine va_get (D := D) (ci := 12) (v := .int (i2 (gI s5 2))) (C := RX12) (T := TX12) (N := 116) hx hb ht inX12 hown hK hP 0 RW_0 rfl 2 (by decide) (ht (.fieldLink RX12 272 "CloneVolumesModel" "at" "I") fl_X12_272) (fun _ h9 => h9) mF_2 eX12_name_70.2.2.1 ?_
      obtain ⟨y9, ey9, iy9, h⟩ := rdI_e h
      refine ya_iald (i := (gI s5 2)) hx hb hK hP 1 0 RW_1 rfl (by decide) ey9 iy9 eX12_name_70.2.2.2.1 ?_
      obtain ⟨r11, hc10, h⟩ := bn_e h
      refine ycS (r0 := i2 r11) (As := [.int (i2 y9)]) (rest := []) (n := 1) ⟨hx, hb, hml, hown, ht⟩ (k_x12_isLetter l D a y9 _ _ hc10) (zgT ml_X12_282 st_X12_isLetter in_X12 co_X12_isLetter) rfl rfl (by decide +kernel) ⟨Nat.le_of_ble_eq_true rfl, Nat.le_of_ble_eq_true rfl⟩ hN hK hP hS rfl hl.1 rfl (Nat.le_of_ble_eq_true rfl) eX12_name_70.2.2.2.2.1 ⟨Nat.le_of_ble_eq_true rfl, Nat.le_of_ble_eq_true rfl⟩ (fun H locs hP hS => ?_)
      obtain ⟨hr12, h⟩ := rg_e h
      refine lv_if_eq (tgt := 145) hx hb eX12_name_70.2.2.2.2.2.1 (by decide) (fun c13 => ?_) (fun c13 => ?_)
      · have h := if_t ((i2_eq (x := r11) (y := 0) hr12 (by decide)).mp c13) h
        exact J145 (z4, s5) _ _ _ ⟨hP, hS, lv_sub hl [0, 1] rfl, h⟩
      · have h := if_f (mt (i2_eq (x := r11) (y := 0) hr12 (by decide)).mpr c13) h
        refine lv_aload_n hx hb eX12_name_70.2.2.2.2.2.2.1 rfl (lv_at hl 0 rfl) ?_
        refine va_get (D := D) (ci := 12) (v := .int (i2 (gI s5 2))) (C := RX12) (T := TX12) (N := 116) hx hb ht inX12 hown hK hP 0 RW_0 rfl 2 (by decide) (ht (.fieldLink RX12 272 "CloneVolumesModel" "at" "I") fl_X12_272) (fun _ h9 => h9) mF_2 eX12_name_70.2.2.2.2.2.2.2 ?_
        refine lv_aload_n hx hb eX12_name_88.1 rfl (lv_at hl 0 rfl) ?_
        refine va_get (D := D) (ci := 12) (v := .int (i2 (gI s5 38))) (C := RX12) (T := TX12) (N := 116) hx hb ht inX12 hown hK hP 0 RW_0 rfl 38 (by decide) (ht (.fieldLink RX12 317 "CloneVolumesModel" "namePlace" "I") fl_X12_317) (fun _ h9 => h9) mF_38 eX12_name_88.2.1 ?_
        refine lv_isub hx hb eX12_name_88.2.2.1 ?_
        refine z_topi (y := i2 ((gI s5 2) - (gI s5 38))) (i2_sub (gI s5 2) (gI s5 38)) ?_
        refine lv_bipush (v := 6) hx hb eX12_name_88.2.2.2.1 (by decide) ?_
        obtain ⟨hr14, h⟩ := rg_e h
        refine lv_icmp_ne (tgt := 109) hx hb eX12_name_88.2.2.2.2.1 (by decide) (fun c15 => ?_) (fun c15 => ?_)
        · have h := if_f (mt (i2_eq (x := ((gI s5 2) - (gI s5 38))) (y := 6) hr14 (by decide)).mpr c15) h
          refine lv_ldc2 (own := RX12) (v := 27) hx hb hown (ht _ cl_X12_320) eX12_name_101.2.2.2.2.1 ?_
          refine lv_lload_n hx hb eX12_name_101.2.2.2.2.2.1 rfl (lv_at hl 1 rfl) ?_
          refine lv_lmul hx hb eX12_name_101.2.2.2.2.2.2.1 ?_
          refine z_topl (y := i8 (27 * z4)) (i8_mul 27 z4) ?_
          refine lv_aload_n hx hb eX12_name_101.2.2.2.2.2.2.2 rfl (lv_at hl 0 rfl) ?_
          refine va_get (D := D) (ci := 12) (v := .ref (a 0)) (C := RX12) (T := TX12) (N := 116) hx hb ht inX12 hown hK hP 0 RW_0 rfl 0 (by decide) (ht (.fieldLink RX12 7 "CloneVolumesModel" "tape" "[I") fl_X12_7) (fun _ h9 => h9) mF_0 eX12_name_115.1 ?_
          refine lv_aload_n hx hb eX12_name_115.2.1 rfl (lv_at hl 0 rfl) ?_
          refine va_get (D := D) (ci := 12) (v := .int (i2 (gI s5 2))) (C := RX12) (T := TX12) (N := 116) hx hb ht inX12 hown hK hP 0 RW_0 rfl 2 (by decide) (ht (.fieldLink RX12 272 "CloneVolumesModel" "at" "I") fl_X12_272) (fun _ h9 => h9) mF_2 eX12_name_115.2.2.1 ?_
          obtain ⟨y16, ey16, iy16, h⟩ := rdI_e h
          refine ya_iald (i := (gI s5 2)) hx hb hK hP 1 0 RW_1 rfl (by decide) ey16 iy16 eX12_name_115.2.2.2.1 ?_
          obtain ⟨hr17, h⟩ := rg_e h
          refine lv_i2l (v := i8 y16) hx hb eX12_name_115.2.2.2.2.1 (i2_l hr17) ?_
          refine lv_ladd hx hb eX12_name_115.2.2.2.2.2.1 ?_
          refine z_topl (y := i8 ((27 * z4) + y16)) (i8_add (27 * z4) y16) ?_
          refine lv_ldc2 (own := RX12) (v := 97) hx hb hown (ht _ cl_X12_322) eX12_name_115.2.2.2.2.2.2.1 ?_
          refine lv_lsub hx hb eX12_name_115.2.2.2.2.2.2.2 ?_
          refine z_topl (y := i8 (((27 * z4) + y16) - 97)) (i8_sub ((27 * z4) + y16) 97) ?_
          refine lv_lconst (v := 1) hx hb eX12_name_129.1 (by decide) ?_
          refine lv_ladd hx hb eX12_name_129.2.1 ?_
          refine z_topl (y := i8 ((((27 * z4) + y16) - 97) + 1)) (i8_add (((27 * z4) + y16) - 97) 1) ?_
          refine lv_lstore_n (lv' := [(1, .long (i8 ((((27 * z4) + y16) - 97) + 1))), (0, .ref (a 200))]) hx hb eX12_name_129.2.2.1 rfl hl (by decide) rfl (fun ls hl => ?_)
          refine lv_aload_n hx hb eX12_name_129.2.2.2.1 rfl (lv_at hl 1 rfl) ?_
          refine lv_dup hx hb eX12_name_129.2.2.2.2.1 rfl ?_
          refine va_get (D := D) (ci := 12) (v := .int (i2 (gI s5 2))) (C := RX12) (T := TX12) (N := 116) hx hb ht inX12 hown hK hP 0 RW_0 rfl 2 (by decide) (ht (.fieldLink RX12 272 "CloneVolumesModel" "at" "I") fl_X12_272) (fun _ h9 => h9) mF_2 eX12_name_129.2.2.2.2.2.1 ?_
          refine lv_iconst (v := 1) hx hb eX12_name_129.2.2.2.2.2.2.1 (by decide) ?_
          refine lv_iadd hx hb eX12_name_129.2.2.2.2.2.2.2 ?_
          refine z_topi (y := i2 ((gI s5 2) + 1)) (i2_add (gI s5 2) 1) ?_
          refine ya_put (D := D) (ci := 12) (v := .int (i2 ((gI s5 2) + 1))) (ty := .int) (C := RX12) (T := TX12) (N := 116) hx hb ht inX12 tyX12 tyX12_ok nmX12 hown hK hP (hDD _) hS 0 RW_0 rfl 2 (by decide) (ht (.fieldLink RX12 272 "CloneVolumesModel" "at" "I") fl_X12_272) (fun _ h9 => h9) rfl (by decide +kernel) rfl rfl (by rw [mF_len]; decide) eX12_name_139.1 (RW_f2 ((gI s5 2) + 1)) (fun H locs hP hS => ?_)
          obtain ⟨s18, hs18, h⟩ := st_e h
          rw [hs18] at hP
          refine lv_goto (tgt := 58) hx hb eX12_name_139.2.1 (by decide) ?_
          exact ih58 ((((27 * z4) + y16) - 97) + 1, s18) _ _ _ ⟨hP, hS, lv_sub hl [1, 0] rfl, h⟩
        · have h := if_t ((i2_eq (x := ((gI s5 2) - (gI s5 38))) (y := 6) hr14 (by decide)).mp c15) h
          refine lv_aload_n hx hb eX12_name_88.2.2.2.2.2.1 rfl (lv_at hl 0 rfl) ?_
          refine lv_iconst (v := 1) hx hb eX12_name_88.2.2.2.2.2.2.1 (by decide) ?_
          refine lv_aload_n hx hb eX12_name_88.2.2.2.2.2.2.2 rfl (lv_at hl 0 rfl) ?_
          refine va_get (D := D) (ci := 12) (v := .int (i2 (gI s5 2))) (C := RX12) (T := TX12) (N := 116) hx hb ht inX12 hown hK hP 0 RW_0 rfl 2 (by decide) (ht (.fieldLink RX12 272 "CloneVolumesModel" "at" "I") fl_X12_272) (fun _ h9 => h9) mF_2 eX12_name_101.1 ?_
          obtain ⟨s20, hc19, h⟩ := bn_e h
          refine ywVv (As := [.int 1, .int (i2 (gI s5 2))]) (rest := []) (C := RX12) (n := 2) (ws' := RW D a s20) ⟨hx, hb, hml, hown, ht⟩ (k_x12_fail l D a 1 (gI s5 2) _ _ _ hc19) (zgV ml_X12_296 im_X12_fail se_X12_fail in_X12 co_X12_fail) rfl rfl (by decide +kernel) ⟨Nat.le_of_ble_eq_true rfl, Nat.le_of_ble_eq_true rfl⟩ hN hK hP (hDD _) hS hA 0 RW_0 rfl rfl rfl hl.1 rfl (Nat.le_of_ble_eq_true rfl) eX12_name_101.2.1 ⟨Nat.le_of_ble_eq_true rfl, Nat.le_of_ble_eq_true rfl⟩ (fun H locs hP hS => ?_)
          refine lv_lconst (v := 0) hx hb eX12_name_101.2.2.1 (by decide) ?_
          obtain rfl := Option.some.inj h
          exact W.lret (v := 0) hx hb hr (fun t ht hW => ⟨⟨_, (), rfl, rfl, by rw [ht]; exact hP, va_K.moved hW.alike hK, hDD _⟩, hS.F ht⟩) hS.2.2 eX12_name_101.2.2.2.1
  refine y_head (pcJ := 37) (σ := MS) (fun u H locs ls => va_P D vwCl (RW D a u) H ∧ va_S A s₀.heap H locs ∧ lv_has ls 3 [(0, .ref (a 200))] ∧ m_x12_name_J37 u = some o) (fun u => []) (fun u H locs ls hI => ?_) (fun J37 => ?_)
  · obtain ⟨hP, hS, hl, h⟩ := hI
    obtain ⟨s21, rfl⟩ : ∃ z, z = u := ⟨u, rfl⟩
    have hP : va_P D vwCl (RW D a s21) H := hP
    have hl : lv_has ls 3 [(0, .ref (a 200))] := hl
    have h : m_x12_name_J37 s21 = some o := h
    unfold m_x12_name_J37 at h
    refine lv_aload_n hx hb eX12_name_24.2.2.2.2.2.1 rfl (lv_at hl 0 rfl) ?_
    refine lv_iconst (v := 1) hx hb eX12_name_24.2.2.2.2.2.2.1 (by decide) ?_
    refine lv_aload_n hx hb eX12_name_24.2.2.2.2.2.2.2 rfl (lv_at hl 0 rfl) ?_
    refine va_get (D := D) (ci := 12) (v := .int (i2 (gI s21 2))) (C := RX12) (T := TX12) (N := 116) hx hb ht inX12 hown hK hP 0 RW_0 rfl 2 (by decide) (ht (.fieldLink RX12 272 "CloneVolumesModel" "at" "I") fl_X12_272) (fun _ h9 => h9) mF_2 eX12_name_40.1 ?_
    obtain ⟨s23, hc22, h⟩ := bn_e h
    refine ywVv (As := [.int 1, .int (i2 (gI s21 2))]) (rest := []) (C := RX12) (n := 2) (ws' := RW D a s23) ⟨hx, hb, hml, hown, ht⟩ (k_x12_fail l D a 1 (gI s21 2) _ _ _ hc22) (zgV ml_X12_296 im_X12_fail se_X12_fail in_X12 co_X12_fail) rfl rfl (by decide +kernel) ⟨Nat.le_of_ble_eq_true rfl, Nat.le_of_ble_eq_true rfl⟩ hN hK hP (hDD _) hS hA 0 RW_0 rfl rfl rfl hl.1 rfl (Nat.le_of_ble_eq_true rfl) eX12_name_40.2.1 ⟨Nat.le_of_ble_eq_true rfl, Nat.le_of_ble_eq_true rfl⟩ (fun H locs hP hS => ?_)
    refine lv_lconst (v := 0) hx hb eX12_name_40.2.2.1 (by decide) ?_
    obtain rfl := Option.some.inj h
    exact W.lret (v := 0) hx hb hr (fun t ht hW => ⟨⟨_, (), rfl, rfl, by rw [ht]; exact hP, va_K.moved hW.alike hK, hDD _⟩, hS.F ht⟩) hS.2.2 eX12_name_40.2.2.2.1
  refine lv_aload_n hx hb eX12_isAllowed_83.2.2.2.2.1 rfl (lv_at hl 0 rfl) ?_
  refine va_get (D := D) (ci := 12) (v := .int (i2 (gI s 5))) (C := RX12) (T := TX12) (N := 116) hx hb ht inX12 hown hK hP 0 RW_0 rfl 5 (by decide) (ht (.fieldLink RX12 266 "CloneVolumesModel" "bad" "I") fl_X12_266) (fun _ h9 => h9) mF_5 eX12_isAllowed_83.2.2.2.2.2.1 ?_
  obtain ⟨hr24, h⟩ := rg_e h
  refine lv_if_eq (tgt := 9) hx hb eX12_isAllowed_83.2.2.2.2.2.2.1 (by decide) (fun c25 => ?_) (fun c25 => ?_)
  · have h := if_t ((i2_eq (x := (gI s 5)) (y := 0) hr24 (by decide)).mp c25) h
    refine lv_aload_n hx hb eX12_name_8.2.1 rfl (lv_at hl 0 rfl) ?_
    obtain ⟨⟨r28, s27⟩, hc26, h⟩ := bn_e h
    refine ywV (r0 := i2 r28) (As := []) (rest := []) (C := RX12) (n := 0) (ws' := RW D a s27) ⟨hx, hb, hml, hown, ht⟩ (k_x12_look l D a _ _ _ hc26) (zgV ml_X12_278 im_X12_look se_X12_look in_X12 co_X12_look) rfl rfl (by decide +kernel) ⟨Nat.le_of_ble_eq_true rfl, Nat.le_of_ble_eq_true rfl⟩ hN hK hP (hDD _) hS hA 0 RW_0 rfl rfl rfl hl.1 rfl (Nat.le_of_ble_eq_true rfl) eX12_name_8.2.2.1 ⟨Nat.le_of_ble_eq_true rfl, Nat.le_of_ble_eq_true rfl⟩ (fun H locs hP hS => ?_)
    obtain ⟨r30, hc29, h⟩ := bn_e h
    refine ycS (r0 := i2 r30) (As := [.int (i2 r28)]) (rest := []) (n := 1) ⟨hx, hb, hml, hown, ht⟩ (k_x12_isLetter l D a r28 _ _ hc29) (zgT ml_X12_282 st_X12_isLetter in_X12 co_X12_isLetter) rfl rfl (by decide +kernel) ⟨Nat.le_of_ble_eq_true rfl, Nat.le_of_ble_eq_true rfl⟩ hN hK hP hS rfl hl.1 rfl (Nat.le_of_ble_eq_true rfl) eX12_name_8.2.2.2.1 ⟨Nat.le_of_ble_eq_true rfl, Nat.le_of_ble_eq_true rfl⟩ (fun H locs hP hS => ?_)
    obtain ⟨hr31, h⟩ := rg_e h
    refine lv_if_eq (tgt := 37) hx hb eX12_name_8.2.2.2.2.1 (by decide) (fun c32 => ?_) (fun c32 => ?_)
    · have h := if_t ((i2_eq (x := r30) (y := 0) hr31 (by decide)).mp c32) h
      exact J37 s27 _ _ _ ⟨hP, hS, lv_sub hl [0] rfl, h⟩
    · have h := if_f (mt (i2_eq (x := r30) (y := 0) hr31 (by decide)).mpr c32) h
      refine lv_aload_n hx hb eX12_name_8.2.2.2.2.2.1 rfl (lv_at hl 0 rfl) ?_
      refine va_get (D := D) (ci := 12) (v := .int (i2 (gI s27 2))) (C := RX12) (T := TX12) (N := 116) hx hb ht inX12 hown hK hP 0 RW_0 rfl 2 (by decide) (ht (.fieldLink RX12 272 "CloneVolumesModel" "at" "I") fl_X12_272) (fun _ h9 => h9) mF_2 eX12_name_8.2.2.2.2.2.2.1 ?_
      refine lv_aload_n hx hb eX12_name_8.2.2.2.2.2.2.2 rfl (lv_at hl 0 rfl) ?_
      refine va_get (D := D) (ci := 12) (v := .int (i2 (gI s27 4))) (C := RX12) (T := TX12) (N := 116) hx hb ht inX12 hown hK hP 0 RW_0 rfl 4 (by decide) (ht (.fieldLink RX12 286 "CloneVolumesModel" "ended" "I") fl_X12_286) (fun _ h9 => h9) mF_4 eX12_name_24.1 ?_
      obtain ⟨hr33, h⟩ := rg_e h
      obtain ⟨hr34, h⟩ := rg_e h
      refine lv_icmp_eq (tgt := 37) hx hb eX12_name_24.2.1 (by decide) (fun c35 => ?_) (fun c35 => ?_)
      · have h := if_t ((i2_eq (x := (gI s27 2)) (y := (gI s27 4)) hr33 hr34).mp c35) h
        exact J37 s27 _ _ _ ⟨hP, hS, lv_sub hl [0] rfl, h⟩
      · have h := if_f (mt (i2_eq (x := (gI s27 2)) (y := (gI s27 4)) hr33 hr34).mpr c35) h
        refine lv_aload_n hx hb eX12_name_24.2.2.1 rfl (lv_at hl 0 rfl) ?_
        obtain ⟨⟨r38, s37⟩, hc36, h⟩ := bn_e h
        refine ywV (r0 := i2 r38) (As := []) (rest := []) (C := RX12) (n := 0) (ws' := RW D a s37) ⟨hx, hb, hml, hown, ht⟩ (k_x12_isOwnHere l D a _ _ _ hc36) (zgV ml_X12_313 im_X12_isOwnHere se_X12_isOwnHere in_X12 co_X12_isOwnHere) rfl rfl (by decide +kernel) ⟨Nat.le_of_ble_eq_true rfl, Nat.le_of_ble_eq_true rfl⟩ hN hK hP (hDD _) hS hA 0 RW_0 rfl rfl rfl hl.1 rfl (Nat.le_of_ble_eq_true rfl) eX12_name_24.2.2.2.1 ⟨Nat.le_of_ble_eq_true rfl, Nat.le_of_ble_eq_true rfl⟩ (fun H locs hP hS => ?_)
        obtain ⟨hr39, h⟩ := rg_e h
        refine lv_if_eq (tgt := 48) hx hb eX12_name_24.2.2.2.2.1 (by decide) (fun c40 => ?_) (fun c40 => ?_)
        · have h := if_t ((i2_eq (x := r38) (y := 0) hr39 (by decide)).mp c40) h
          refine lv_aload_n hx hb eX12_name_40.2.2.2.2.1 rfl (lv_at hl 0 rfl) ?_
          refine lv_aload_n hx hb eX12_name_40.2.2.2.2.2.1 rfl (lv_at hl 0 rfl) ?_
          refine va_get (D := D) (ci := 12) (v := .int (i2 (gI s37 2))) (C := RX12) (T := TX12) (N := 116) hx hb ht inX12 hown hK hP 0 RW_0 rfl 2 (by decide) (ht (.fieldLink RX12 272 "CloneVolumesModel" "at" "I") fl_X12_272) (fun _ h9 => h9) mF_2 eX12_name_40.2.2.2.2.2.2.1 ?_
          refine ya_put (D := D) (ci := 12) (v := .int (i2 (gI s37 2))) (ty := .int) (C := RX12) (T := TX12) (N := 116) hx hb ht inX12 tyX12 tyX12_ok nmX12 hown hK hP (hDD _) hS 0 RW_0 rfl 38 (by decide) (ht (.fieldLink RX12 317 "CloneVolumesModel" "namePlace" "I") fl_X12_317) (fun _ h9 => h9) rfl (by decide +kernel) rfl rfl (by rw [mF_len]; decide) eX12_name_40.2.2.2.2.2.2.2 (RW_f38 (gI s37 2)) (fun H locs hP hS => ?_)
          obtain ⟨s41, hs41, h⟩ := st_e h
          rw [hs41] at hP
          refine lv_lconst (v := 0) hx hb eX12_name_56.1 (by decide) ?_
          refine lv_lstore_n (lv' := [(1, .long 0), (0, .ref (a 200))]) hx hb eX12_name_56.2.1 rfl hl (by decide) rfl (fun ls hl => ?_)
          exact J58 FU (0, s41) _ _ _ ⟨hP, hS, lv_sub hl [1, 0] rfl, h⟩
        · have h := if_f (mt (i2_eq (x := r38) (y := 0) hr39 (by decide)).mpr c40) h
          exact J37 s37 _ _ _ ⟨hP, hS, lv_sub hl [0] rfl, h⟩
  · have h := if_f (mt (i2_eq (x := (gI s 5)) (y := 0) hr24 (by decide)).mpr c25) h
    refine lv_lconst (v := 0) hx hb eX12_isAllowed_83.2.2.2.2.2.2.2 (by decide) ?_
    obtain rfl := Option.some.inj h
    exact W.lret (v := 0) hx hb hr (fun t ht hW => ⟨⟨_, (), rfl, rfl, by rw [ht]; exact hP, va_K.moved hW.alike hK, hDD _⟩, hS.F ht⟩) hS.2.2 eX12_name_8.1
set_option maxHeartbeats 4000000 in
set_option maxRecDepth 100000 in
theorem k_x12_isAllowed (l : Launch) (D : va_G) (a : Nat → Nat) (p0 : Int) (s : MS) (o : Int) (h : m_x12_isAllowed p0 s = some o) : yRi l yX12_isAllowed cX12_isAllowed 2 (some .boolean) { frames := 0, cells := 0, slots := 0, locals := 0 } D [.ref (a 200), .int (i2 p0)] (RW D a s) (i2 o) := by
  refine Met.ofW (cc := cX12_isAllowed) (maxL := 2) (ret := (some .boolean)) (by decide) rfl ?_
  intro p e s₀ m args below meth c s₁ B hml hv
  obtain ⟨rfl, ⟨hP, hK⟩, hN⟩ := hv
  have hx := B.exec
  have hb := B.bytes
  have hr := B.returns
  have hts := atoms_spec (ws := wz yX12_isAllowed cX12_isAllowed 2 (some .boolean)) B.pre
  have ht : ∀ w ∈ lw_gd, w.before _ s₀ = true := fun w h => hts w (List.mem_cons_of_mem _ h)
  have hown : s₀.vm.findClass RX12 = some m.cls := findClass_of_methodNamed B.named
  have hlocks := B.notSynchronized
  have hS : va_S (fun _ => False) s₀.heap s₀.heap [] := va_S.rf
  have hl := lv_entry ([.ref (a 200), .int (i2 p0)]) (n := 2) (Nat.le_of_ble_eq_true rfl)
  rw [lg_entry_eq]
  generalize (lg_sl ([.ref (a 200), .int (i2 p0)]) ++ List.replicate (2 - (lg_sl ([.ref (a 200), .int (i2 p0)])).length) Slot.unset).toArray = ls at hl ⊢
  have hl : lv_has ls 2 [(0, .ref (a 200)), (1, .int (i2 p0))] := hl
  unfold m_x12_isAllowed at h
  refine y_head (pcJ := 88) (σ := Int) (fun u H locs ls => va_P D vwCl (RW D a s) H ∧ va_S (fun _ => False) s₀.heap H locs ∧ lv_has ls 2 [] ∧ m_x12_isAllowed_J88 s u = some o) (fun u => [.int (i2 u)]) (fun u H locs ls hI => ?_) (fun J88 => ?_)
  · obtain ⟨hP, hS, hl, h⟩ := hI
    obtain ⟨x1, rfl⟩ : ∃ z, z = u := ⟨u, rfl⟩
    have hP : va_P D vwCl (RW D a s) H := hP
    have hl : lv_has ls 2 [] := hl
    have h : m_x12_isAllowed_J88 s x1 = some o := h
    unfold m_x12_isAllowed_J88 at h
    obtain ⟨hb2, h⟩ := bo_e h
    obtain rfl := Option.some.inj h
    exact W.zret (v := (i2 x1)) hx hb hr (bo_n hb2) (fun t ht hW => ⟨⟨_, (), rfl, rfl, trivial⟩, hS.F ht⟩) hS.2.2 eX12_isAllowed_83.2.2.2.1
  refine y_head (pcJ := 83) (σ := Unit) (fun u H locs ls => va_P D vwCl (RW D a s) H ∧ va_S (fun _ => False) s₀.heap H locs ∧ lv_has ls 2 [] ∧ m_x12_isAllowed_J83 s u = some o) (fun u => []) (fun u H locs ls hI => ?_) (fun J83 => ?_)
  · obtain ⟨hP, hS, hl, h⟩ := hI
    skip
    have hP : va_P D vwCl (RW D a s) H := hP
    have hl : lv_has ls 2 [] := hl
    have h : m_x12_isAllowed_J83 s () = some o := h
    unfold m_x12_isAllowed_J83 at h
    refine lv_iconst (v := 1) hx hb eX12_isAllowed_83.1 (by decide) ?_
    refine lv_goto (tgt := 88) hx hb eX12_isAllowed_83.2.1 (by decide) ?_
    exact J88 1 _ _ _ ⟨hP, hS, lv_sub hl [] rfl, h⟩
  refine y_head (pcJ := 73) (σ := Int) (fun u H locs ls => va_P D vwCl (RW D a s) H ∧ va_S (fun _ => False) s₀.heap H locs ∧ lv_has ls 2 [] ∧ m_x12_isAllowed_J73 s u = some o) (fun u => [.int (i2 u)]) (fun u H locs ls hI => ?_) (fun J73 => ?_)
  · obtain ⟨hP, hS, hl, h⟩ := hI
    obtain ⟨x3, rfl⟩ : ∃ z, z = u := ⟨u, rfl⟩
    have hP : va_P D vwCl (RW D a s) H := hP
    have hl : lv_has ls 2 [] := hl
    have h : m_x12_isAllowed_J73 s x3 = some o := h
    unfold m_x12_isAllowed_J73 at h
    obtain ⟨hb4, h⟩ := bo_e h
    obtain rfl := Option.some.inj h
    exact W.zret (v := (i2 x3)) hx hb hr (bo_n hb4) (fun t ht hW => ⟨⟨_, (), rfl, rfl, trivial⟩, hS.F ht⟩) hS.2.2 eX12_isAllowed_69.2.2.1
  refine y_head (pcJ := 68) (σ := Unit) (fun u H locs ls => va_P D vwCl (RW D a s) H ∧ va_S (fun _ => False) s₀.heap H locs ∧ lv_has ls 2 [] ∧ m_x12_isAllowed_J68 s u = some o) (fun u => []) (fun u H locs ls hI => ?_) (fun J68 => ?_)
  · obtain ⟨hP, hS, hl, h⟩ := hI
    skip
    have hP : va_P D vwCl (RW D a s) H := hP
    have hl : lv_has ls 2 [] := hl
    have h : m_x12_isAllowed_J68 s () = some o := h
    unfold m_x12_isAllowed_J68 at h
    refine lv_iconst (v := 1) hx hb eX12_isAllowed_57.2.2.2.2.2.2.2 (by decide) ?_
    refine lv_goto (tgt := 73) hx hb eX12_isAllowed_69.1 (by decide) ?_
    exact J73 1 _ _ _ ⟨hP, hS, lv_sub hl [] rfl, h⟩
  refine y_head (pcJ := 57) (σ := Int) (fun u H locs ls => va_P D vwCl (RW D a s) H ∧ va_S (fun _ => False) s₀.heap H locs ∧ lv_has ls 2 [] ∧ m_x12_isAllowed_J57 s u = some o) (fun u => [.int (i2 u)]) (fun u H locs ls hI => ?_) (fun J57 => ?_)
  · obtain ⟨hP, hS, hl, h⟩ := hI
    obtain ⟨x5, rfl⟩ : ∃ z, z = u := ⟨u, rfl⟩
    have hP : va_P D vwCl (RW D a s) H := hP
    have hl : lv_has ls 2 [] := hl
    have h : m_x12_isAllowed_J57 s x5 = some o := h
    unfold m_x12_isAllowed_J57 at h
    obtain ⟨hb6, h⟩ := bo_e h
    obtain rfl := Option.some.inj h
    exact W.zret (v := (i2 x5)) hx hb hr (bo_n hb6) (fun t ht hW => ⟨⟨_, (), rfl, rfl, trivial⟩, hS.F ht⟩) hS.2.2 eX12_isAllowed_57.1
  refine y_head (pcJ := 52) (σ := Unit) (fun u H locs ls => va_P D vwCl (RW D a s) H ∧ va_S (fun _ => False) s₀.heap H locs ∧ lv_has ls 2 [] ∧ m_x12_isAllowed_J52 s u = some o) (fun u => []) (fun u H locs ls hI => ?_) (fun J52 => ?_)
  · obtain ⟨hP, hS, hl, h⟩ := hI
    skip
    have hP : va_P D vwCl (RW D a s) H := hP
    have hl : lv_has ls 2 [] := hl
    have h : m_x12_isAllowed_J52 s () = some o := h
    unfold m_x12_isAllowed_J52 at h
    refine lv_iconst (v := 1) hx hb eX12_isAllowed_43.2.2.2.2.2.1 (by decide) ?_
    refine lv_goto (tgt := 57) hx hb eX12_isAllowed_43.2.2.2.2.2.2.1 (by decide) ?_
    exact J57 1 _ _ _ ⟨hP, hS, lv_sub hl [] rfl, h⟩
  refine y_head (pcJ := 42) (σ := Int) (fun u H locs ls => va_P D vwCl (RW D a s) H ∧ va_S (fun _ => False) s₀.heap H locs ∧ lv_has ls 2 [] ∧ m_x12_isAllowed_J42 s u = some o) (fun u => [.int (i2 u)]) (fun u H locs ls hI => ?_) (fun J42 => ?_)
  · obtain ⟨hP, hS, hl, h⟩ := hI
    obtain ⟨x7, rfl⟩ : ∃ z, z = u := ⟨u, rfl⟩
    have hP : va_P D vwCl (RW D a s) H := hP
    have hl : lv_has ls 2 [] := hl
    have h : m_x12_isAllowed_J42 s x7 = some o := h
    unfold m_x12_isAllowed_J42 at h
    obtain ⟨hb8, h⟩ := bo_e h
    obtain rfl := Option.some.inj h
    exact W.zret (v := (i2 x7)) hx hb hr (bo_n hb8) (fun t ht hW => ⟨⟨_, (), rfl, rfl, trivial⟩, hS.F ht⟩) hS.2.2 eX12_isAllowed_4.2.2.2.2.2.2.2
  refine lv_aload_n hx hb eX12_actTold_62.2.2.2.2.2.2.1 rfl (lv_at hl 0 rfl) ?_
  refine va_get (D := D) (ci := 12) (v := .int (i2 (gI s 48))) (C := RX12) (T := TX12) (N := 116) hx hb ht inX12 hown hK hP 0 RW_0 rfl 48 (by decide) (ht (.fieldLink RX12 324 "CloneVolumesModel" "textKind" "I") fl_X12_324) (fun _ h9 => h9) mF_48 eX12_actTold_62.2.2.2.2.2.2.2 ?_
  obtain ⟨hr9, h⟩ := rg_e h
  by_cases c10 : (gI s 48) = 0
  · have h := if_t c10 h
    refine lv_tableIn (off := 28) (tgt := 32) hx hb eX12_isAllowed_4.1 (by rw [c10]; decide) (by rw [c10]; decide) (by rw [c10]; decide) (by decide) ?_
    refine lv_iload_n hx hb eX12_isAllowed_4.2.1 rfl (lv_at hl 1 rfl) ?_
    refine lv_iconst (v := 3) hx hb eX12_isAllowed_4.2.2.1 (by decide) ?_
    obtain ⟨hr11, h⟩ := rg_e h
    refine lv_icmp_ge (tgt := 41) hx hb eX12_isAllowed_4.2.2.2.1 (by decide) (fun c12 => ?_) (fun c12 => ?_)
    · have h := if_t ((i2_le (x := 3) (y := p0) (by decide) hr11).mp c12) h
      refine lv_iconst (v := 0) hx hb eX12_isAllowed_4.2.2.2.2.2.2.1 (by decide) ?_
      exact J42 0 _ _ _ ⟨hP, hS, lv_sub hl [] rfl, h⟩
    · have h := if_f (mt (i2_le (x := 3) (y := p0) (by decide) hr11).mpr c12) h
      refine lv_iconst (v := 1) hx hb eX12_isAllowed_4.2.2.2.2.1 (by decide) ?_
      refine lv_goto (tgt := 42) hx hb eX12_isAllowed_4.2.2.2.2.2.1 (by decide) ?_
      exact J42 1 _ _ _ ⟨hP, hS, lv_sub hl [] rfl, h⟩
  · have h := if_f c10 h
    by_cases c13 : (gI s 48) = 1
    · have h := if_t c13 h
      refine lv_tableIn (off := 39) (tgt := 43) hx hb eX12_isAllowed_4.1 (by rw [c13]; decide) (by rw [c13]; decide) (by rw [c13]; decide) (by decide) ?_
      refine lv_iload_n hx hb eX12_isAllowed_43.1 rfl (lv_at hl 1 rfl) ?_
      obtain ⟨hr14, h⟩ := rg_e h
      refine lv_if_eq (tgt := 52) hx hb eX12_isAllowed_43.2.1 (by decide) (fun c15 => ?_) (fun c15 => ?_)
      · have h := if_t ((i2_eq (x := p0) (y := 0) hr14 (by decide)).mp c15) h
        exact J52 () _ _ _ ⟨hP, hS, lv_sub hl [] rfl, h⟩
      · have h := if_f (mt (i2_eq (x := p0) (y := 0) hr14 (by decide)).mpr c15) h
        refine lv_iload_n hx hb eX12_isAllowed_43.2.2.1 rfl (lv_at hl 1 rfl) ?_
        refine lv_iconst (v := 3) hx hb eX12_isAllowed_43.2.2.2.1 (by decide) ?_
        obtain ⟨hr16, h⟩ := rg_e h
        refine lv_icmp_ne (tgt := 56) hx hb eX12_isAllowed_43.2.2.2.2.1 (by decide) (fun c17 => ?_) (fun c17 => ?_)
        · have h := if_f (mt (i2_eq (x := p0) (y := 3) hr16 (by decide)).mpr c17) h
          refine lv_iconst (v := 0) hx hb eX12_isAllowed_43.2.2.2.2.2.2.2 (by decide) ?_
          exact J57 0 _ _ _ ⟨hP, hS, lv_sub hl [] rfl, h⟩
        · have h := if_t ((i2_eq (x := p0) (y := 3) hr16 (by decide)).mp c17) h
          exact J52 () _ _ _ ⟨hP, hS, lv_sub hl [] rfl, h⟩
    · have h := if_f c13 h
      by_cases c18 : (gI s 48) = 2
      · have h := if_t c18 h
        refine lv_tableIn (off := 54) (tgt := 58) hx hb eX12_isAllowed_4.1 (by rw [c18]; decide) (by rw [c18]; decide) (by rw [c18]; decide) (by decide) ?_
        refine lv_iload_n hx hb eX12_isAllowed_57.2.1 rfl (lv_at hl 1 rfl) ?_
        refine lv_iconst (v := 2) hx hb eX12_isAllowed_57.2.2.1 (by decide) ?_
        obtain ⟨hr19, h⟩ := rg_e h
        refine lv_icmp_lt (tgt := 68) hx hb eX12_isAllowed_57.2.2.2.1 (by decide) (fun c20 => ?_) (fun c20 => ?_)
        · have h := if_t ((i2_lt (x := p0) (y := 2) hr19 (by decide)).mp c20) h
          exact J68 () _ _ _ ⟨hP, hS, lv_sub hl [] rfl, h⟩
        · have h := if_f (mt (i2_lt (x := p0) (y := 2) hr19 (by decide)).mpr c20) h
          refine lv_iload_n hx hb eX12_isAllowed_57.2.2.2.2.1 rfl (lv_at hl 1 rfl) ?_
          refine lv_iconst (v := 3) hx hb eX12_isAllowed_57.2.2.2.2.2.1 (by decide) ?_
          obtain ⟨hr21, h⟩ := rg_e h
          refine lv_icmp_ne (tgt := 72) hx hb eX12_isAllowed_57.2.2.2.2.2.2.1 (by decide) (fun c22 => ?_) (fun c22 => ?_)
          · have h := if_f (mt (i2_eq (x := p0) (y := 3) hr21 (by decide)).mpr c22) h
            refine lv_iconst (v := 0) hx hb eX12_isAllowed_69.2.1 (by decide) ?_
            exact J73 0 _ _ _ ⟨hP, hS, lv_sub hl [] rfl, h⟩
          · have h := if_t ((i2_eq (x := p0) (y := 3) hr21 (by decide)).mp c22) h
            exact J68 () _ _ _ ⟨hP, hS, lv_sub hl [] rfl, h⟩
      · have h := if_f c18 h
        refine lv_tableOut (tgt := 74) hx hb eX12_isAllowed_4.1 (by rw [i2_t hr9]; omega) (by decide) ?_
        refine lv_iload_n hx hb eX12_isAllowed_69.2.2.2.1 rfl (lv_at hl 1 rfl) ?_
        obtain ⟨hr23, h⟩ := rg_e h
        refine lv_if_eq (tgt := 83) hx hb eX12_isAllowed_69.2.2.2.2.1 (by decide) (fun c24 => ?_) (fun c24 => ?_)
        · have h := if_t ((i2_eq (x := p0) (y := 0) hr23 (by decide)).mp c24) h
          exact J83 () _ _ _ ⟨hP, hS, lv_sub hl [] rfl, h⟩
        · have h := if_f (mt (i2_eq (x := p0) (y := 0) hr23 (by decide)).mpr c24) h
          refine lv_iload_n hx hb eX12_isAllowed_69.2.2.2.2.2.1 rfl (lv_at hl 1 rfl) ?_
          refine lv_iconst (v := 2) hx hb eX12_isAllowed_69.2.2.2.2.2.2.1 (by decide) ?_
          obtain ⟨hr25, h⟩ := rg_e h
          refine lv_icmp_le (tgt := 87) hx hb eX12_isAllowed_69.2.2.2.2.2.2.2 (by decide) (fun c26 => ?_) (fun c26 => ?_)
          · have h := if_t ((i2_le (x := p0) (y := 2) hr25 (by decide)).mp c26) h
            refine lv_iconst (v := 0) hx hb eX12_isAllowed_83.2.2.1 (by decide) ?_
            exact J88 0 _ _ _ ⟨hP, hS, lv_sub hl [] rfl, h⟩
          · have h := if_f (mt (i2_le (x := p0) (y := 2) hr25 (by decide)).mpr c26) h
            exact J83 () _ _ _ ⟨hP, hS, lv_sub hl [] rfl, h⟩
set_option maxHeartbeats 4000000 in
set_option maxRecDepth 100000 in
theorem k_x12_storeTold (l : Launch) (D : va_G) (a : Nat → Nat) (sz : Nat) (s : MS) (o : MS) (h : m_x12_storeTold s = some o) : yWv l yX12_storeTold cX12_storeTold 1 none { frames := 4, cells := 0, slots := 0, locals := 240 } D sz [.ref (a 200)] (RW D a s) (RW D a o) := by
  refine Met.ofW (cc := cX12_storeTold) (maxL := 1) (ret := none) (by decide) rfl ?_
  intro p e s₀ m args below meth c s₁ B hml hv
  obtain ⟨rfl, ⟨hsz, hP, hK, hD0⟩, hN⟩ := hv
  have hx := B.exec
  have hb := B.bytes
  have hr := B.returns
  have hts := atoms_spec (ws := wz yX12_storeTold cX12_storeTold 1 none) B.pre
  have ht : ∀ w ∈ lw_gd, w.before _ s₀ = true := fun w h => hts w (List.mem_cons_of_mem _ h)
  have hown : s₀.vm.findClass RX12 = some m.cls := findClass_of_methodNamed B.named
  have hlocks := B.notSynchronized
  subst hsz
  have hD := hD0.self (sz := s₀.heap.size)
  generalize hAe : va_A (RW D a s) s₀.heap.size = A at hD ⊢
  have hA : ∀ q : Nat, s₀.heap.size ≤ q → A q := fun q h => by rw [← hAe]; exact Or.inr h
  have hS : va_S A s₀.heap s₀.heap [] := va_S.rf
  have hDD : ∀ t : MS, va_D A (RW D a t) := fun t => RW_D t hD
  have hl := lv_entry ([.ref (a 200)]) (n := 1) (Nat.le_of_ble_eq_true rfl)
  rw [lg_entry_eq]
  generalize (lg_sl ([.ref (a 200)]) ++ List.replicate (1 - (lg_sl ([.ref (a 200)])).length) Slot.unset).toArray = ls at hl ⊢
  have hl : lv_has ls 1 [(0, .ref (a 200))] := hl
  unfold m_x12_storeTold at h
  refine lv_aload_n hx hb eX12_removeTold_16.2.2.2.1 rfl (lv_at hl 0 rfl) ?_
  refine lv_aload_n hx hb eX12_removeTold_16.2.2.2.2.1 rfl (lv_at hl 0 rfl) ?_
  refine va_get (D := D) (ci := 12) (v := .ref (a 11)) (C := RX12) (T := TX12) (N := 116) hx hb ht inX12 hown hK hP 0 RW_0 rfl 11 (by decide) (ht (.fieldLink RX12 20 "CloneVolumesModel" "blocksWord" "[C") fl_X12_20) (fun _ h9 => h9) mF_11 eX12_removeTold_16.2.2.2.2.2.1 ?_
  obtain ⟨s2, hc1, h⟩ := bn_e h
  refine ywVv (As := [.ref (a 11)]) (rest := []) (C := RX12) (n := 1) (ws' := RW D a s2) ⟨hx, hb, hml, hown, ht⟩ (k_x12_asks l D a 3 (a 11) 11 6 (fun _ => RW_3) (by decide) _ _ _ hc1) (zgV ml_X12_327 im_X12_asks se_X12_asks in_X12 co_X12_asks) rfl rfl (by decide +kernel) ⟨Nat.le_of_ble_eq_true rfl, Nat.le_of_ble_eq_true rfl⟩ hN hK hP (hDD _) hS hA 0 RW_0 rfl rfl rfl hl.1 rfl (Nat.le_of_ble_eq_true rfl) eX12_removeTold_16.2.2.2.2.2.2.1 ⟨Nat.le_of_ble_eq_true rfl, Nat.le_of_ble_eq_true rfl⟩ (fun H locs hP hS => ?_)
  refine lv_aload_n hx hb eX12_removeTold_16.2.2.2.2.2.2.2 rfl (lv_at hl 0 rfl) ?_
  refine va_get (D := D) (ci := 12) (v := .ref (a 39)) (C := RX12) (T := TX12) (N := 116) hx hb ht inX12 hown hK hP 0 RW_0 rfl 39 (by decide) (ht (.fieldLink RX12 102 "CloneVolumesModel" "many" "[I") fl_X12_102) (fun _ h9 => h9) mF_39 eX12_storeTold_9.1 ?_
  refine lv_iconst (v := 0) hx hb eX12_storeTold_9.2.1 (by decide) ?_
  refine lv_aload_n hx hb eX12_storeTold_9.2.2.1 rfl (lv_at hl 0 rfl) ?_
  refine lv_bipush (v := 8) hx hb eX12_storeTold_9.2.2.2.1 (by decide) ?_
  refine lv_bipush (v := 48) hx hb eX12_storeTold_9.2.2.2.2.1 (by decide) ?_
  obtain ⟨⟨r5, s4⟩, hc3, h⟩ := bn_e h
  refine ywV (r0 := i2 r5) (As := [.int 8, .int 48]) (rest := [.int 0, .ref (a 39)]) (C := RX12) (n := 2) (ws' := RW D a s4) ⟨hx, hb, hml, hown, ht⟩ (k_x12_number l D a 8 48 _ _ _ hc3) (zgV ml_X12_331 im_X12_number se_X12_number in_X12 co_X12_number) rfl rfl (by decide +kernel) ⟨Nat.le_of_ble_eq_true rfl, Nat.le_of_ble_eq_true rfl⟩ hN hK hP (hDD _) hS hA 0 RW_0 rfl rfl rfl hl.1 rfl (Nat.le_of_ble_eq_true rfl) eX12_storeTold_9.2.2.2.2.2.1 ⟨Nat.le_of_ble_eq_true rfl, Nat.le_of_ble_eq_true rfl⟩ (fun H locs hP hS => ?_)
  obtain ⟨hi6, h⟩ := inb_e h
  refine ya_iast (i := 0) (x := r5) hx hb hK hP (hDD _) hS 30 0 RW_30 rfl (by decide) hi6 eX12_storeTold_9.2.2.2.2.2.2.1 (RW_w30 _) (fun H locs hP hS => ?_)
  obtain ⟨s7, hs7, h⟩ := st_e h
  rw [hs7] at hP
  refine lv_aload_n hx hb eX12_storeTold_9.2.2.2.2.2.2.2 rfl (lv_at hl 0 rfl) ?_
  refine lv_aload_n hx hb eX12_storeTold_23.1 rfl (lv_at hl 0 rfl) ?_
  refine va_get (D := D) (ci := 12) (v := .ref (a 12)) (C := RX12) (T := TX12) (N := 116) hx hb ht inX12 hown hK hP 0 RW_0 rfl 12 (by decide) (ht (.fieldLink RX12 24 "CloneVolumesModel" "roomWord" "[C") fl_X12_24) (fun _ h9 => h9) mF_12 eX12_storeTold_23.2.1 ?_
  obtain ⟨s9, hc8, h⟩ := bn_e h
  refine ywVv (As := [.ref (a 12)]) (rest := []) (C := RX12) (n := 1) (ws' := RW D a s9) ⟨hx, hb, hml, hown, ht⟩ (k_x12_asks l D a 4 (a 12) 12 4 (fun _ => RW_4) (by decide) _ _ _ hc8) (zgV ml_X12_327 im_X12_asks se_X12_asks in_X12 co_X12_asks) rfl rfl (by decide +kernel) ⟨Nat.le_of_ble_eq_true rfl, Nat.le_of_ble_eq_true rfl⟩ hN hK hP (hDD _) hS hA 0 RW_0 rfl rfl rfl hl.1 rfl (Nat.le_of_ble_eq_true rfl) eX12_storeTold_23.2.2.1 ⟨Nat.le_of_ble_eq_true rfl, Nat.le_of_ble_eq_true rfl⟩ (fun H locs hP hS => ?_)
  refine lv_aload_n hx hb eX12_storeTold_23.2.2.2.1 rfl (lv_at hl 0 rfl) ?_
  refine va_get (D := D) (ci := 12) (v := .ref (a 39)) (C := RX12) (T := TX12) (N := 116) hx hb ht inX12 hown hK hP 0 RW_0 rfl 39 (by decide) (ht (.fieldLink RX12 102 "CloneVolumesModel" "many" "[I") fl_X12_102) (fun _ h9 => h9) mF_39 eX12_storeTold_23.2.2.2.2.1 ?_
  refine lv_iconst (v := 1) hx hb eX12_storeTold_23.2.2.2.2.2.1 (by decide) ?_
  refine lv_aload_n hx hb eX12_storeTold_23.2.2.2.2.2.2.1 rfl (lv_at hl 0 rfl) ?_
  refine lv_iconst (v := 3) hx hb eX12_storeTold_23.2.2.2.2.2.2.2 (by decide) ?_
  refine lv_bipush (v := 6) hx hb eX12_storeTold_37.1 (by decide) ?_
  obtain ⟨⟨r12, s11⟩, hc10, h⟩ := bn_e h
  refine ywV (r0 := i2 r12) (As := [.int 3, .int 6]) (rest := [.int 1, .ref (a 39)]) (C := RX12) (n := 2) (ws' := RW D a s11) ⟨hx, hb, hml, hown, ht⟩ (k_x12_number l D a 3 6 _ _ _ hc10) (zgV ml_X12_331 im_X12_number se_X12_number in_X12 co_X12_number) rfl rfl (by decide +kernel) ⟨Nat.le_of_ble_eq_true rfl, Nat.le_of_ble_eq_true rfl⟩ hN hK hP (hDD _) hS hA 0 RW_0 rfl rfl rfl hl.1 rfl (Nat.le_of_ble_eq_true rfl) eX12_storeTold_37.2.1 ⟨Nat.le_of_ble_eq_true rfl, Nat.le_of_ble_eq_true rfl⟩ (fun H locs hP hS => ?_)
  obtain ⟨hi13, h⟩ := inb_e h
  refine ya_iast (i := 1) (x := r12) hx hb hK hP (hDD _) hS 30 0 RW_30 rfl (by decide) hi13 eX12_storeTold_37.2.2.1 (RW_w30 _) (fun H locs hP hS => ?_)
  obtain ⟨s14, hs14, h⟩ := st_e h
  rw [hs14] at hP
  refine lv_aload_n hx hb eX12_storeTold_37.2.2.2.1 rfl (lv_at hl 0 rfl) ?_
  refine lv_bipush (v := 59) hx hb eX12_storeTold_37.2.2.2.2.1 (by decide) ?_
  obtain ⟨s16, hc15, h⟩ := bn_e h
  refine ywVv (As := [.int 59]) (rest := []) (C := RX12) (n := 1) (ws' := RW D a s16) ⟨hx, hb, hml, hown, ht⟩ (k_x12_asksSign l D a 59 _ _ _ hc15) (zgV ml_X12_335 im_X12_asksSign se_X12_asksSign in_X12 co_X12_asksSign) rfl rfl (by decide +kernel) ⟨Nat.le_of_ble_eq_true rfl, Nat.le_of_ble_eq_true rfl⟩ hN hK hP (hDD _) hS hA 0 RW_0 rfl rfl rfl hl.1 rfl (Nat.le_of_ble_eq_true rfl) eX12_storeTold_37.2.2.2.2.2.1 ⟨Nat.le_of_ble_eq_true rfl, Nat.le_of_ble_eq_true rfl⟩ (fun H locs hP hS => ?_)
  obtain rfl := Option.some.inj h
  exact W.vret hx hb hr (fun t ht hW => ⟨⟨(), rfl, trivial, by rw [ht]; exact hP, va_K.moved hW.alike hK, hDD _⟩, hS.F ht⟩) hS.2.2 eX12_storeTold_37.2.2.2.2.2.2.1
set_option maxHeartbeats 4000000 in
set_option maxRecDepth 100000 in
theorem k_x12_actTold (l : Launch) (D : va_G) (a : Nat → Nat) (p0 : Int) (p1 : Int) (p2 : Int) (p3 : Int) (sz : Nat) (s : MS) (o : MS) (h : m_x12_actTold p0 p1 p2 p3 s = some o) : yWv l yX12_actTold cX12_actTold 6 none { frames := 0, cells := 0, slots := 0, locals := 0 } D sz [.ref (a 200), .int (i2 p0), .int (i2 p1), .int (i2 p2), .int (i2 p3)] (RW D a s) (RW D a o) := by
  refine Met.ofW (cc := cX12_actTold) (maxL := 6) (ret := none) (by decide) rfl ?_
  intro p e s₀ m args below meth c s₁ B hml hv
  obtain ⟨rfl, ⟨hsz, hP, hK, hD0⟩, hN⟩ := hv
  have hx := B.exec
  have hb := B.bytes
  have hr := B.returns
  have hts := atoms_spec (ws := wz yX12_actTold cX12_actTold 6 none) B.pre
  have ht : ∀ w ∈ lw_gd, w.before _ s₀ = true := fun w h => hts w (List.mem_cons_of_mem _ h)
  have hown : s₀.vm.findClass RX12 = some m.cls := findClass_of_methodNamed B.named
  have hlocks := B.notSynchronized
  subst hsz
  have hD := hD0.self (sz := s₀.heap.size)
  generalize hAe : va_A (RW D a s) s₀.heap.size = A at hD ⊢
  have hA : ∀ q : Nat, s₀.heap.size ≤ q → A q := fun q h => by rw [← hAe]; exact Or.inr h
  have hS : va_S A s₀.heap s₀.heap [] := va_S.rf
  have hDD : ∀ t : MS, va_D A (RW D a t) := fun t => RW_D t hD
  have hl := lv_entry ([.ref (a 200), .int (i2 p0), .int (i2 p1), .int (i2 p2), .int (i2 p3)]) (n := 6) (Nat.le_of_ble_eq_true rfl)
  rw [lg_entry_eq]
  generalize (lg_sl ([.ref (a 200), .int (i2 p0), .int (i2 p1), .int (i2 p2), .int (i2 p3)]) ++ List.replicate (6 - (lg_sl ([.ref (a 200), .int (i2 p0), .int (i2 p1), .int (i2 p2), .int (i2 p3)])).length) Slot.unset).toArray = ls at hl ⊢
  have hl : lv_has ls 6 [(0, .ref (a 200)), (1, .int (i2 p0)), (2, .int (i2 p1)), (3, .int (i2 p2)), (4, .int (i2 p3))] := hl
  unfold m_x12_actTold at h
  refine lv_aload_n hx hb eX12_actTold_0.1 rfl (lv_at hl 0 rfl) ?_
  refine va_get (D := D) (ci := 12) (v := .int (i2 (gI s 5))) (C := RX12) (T := TX12) (N := 116) hx hb ht inX12 hown hK hP 0 RW_0 rfl 5 (by decide) (ht (.fieldLink RX12 266 "CloneVolumesModel" "bad" "I") fl_X12_266) (fun _ h9 => h9) mF_5 eX12_actTold_0.2.1 ?_
  obtain ⟨hr1, h⟩ := rg_e h
  refine lv_if_eq (tgt := 8) hx hb eX12_actTold_0.2.2.1 (by decide) (fun c2 => ?_) (fun c2 => ?_)
  · have h := if_t ((i2_eq (x := (gI s 5)) (y := 0) hr1 (by decide)).mp c2) h
    refine lv_iconst (v := 4) hx hb eX12_actTold_0.2.2.2.2.1 (by decide) ?_
    refine lv_aload_n hx hb eX12_actTold_0.2.2.2.2.2.1 rfl (lv_at hl 0 rfl) ?_
    refine va_get (D := D) (ci := 12) (v := .ref (a 39)) (C := RX12) (T := TX12) (N := 116) hx hb ht inX12 hown hK hP 0 RW_0 rfl 39 (by decide) (ht (.fieldLink RX12 102 "CloneVolumesModel" "many" "[I") fl_X12_102) (fun _ h9 => h9) mF_39 eX12_actTold_0.2.2.2.2.2.2.1 ?_
    refine lv_iconst (v := 3) hx hb eX12_actTold_0.2.2.2.2.2.2.2 (by decide) ?_
    obtain ⟨y3, ey3, iy3, h⟩ := rdI_e h
    refine ya_iald (i := 3) hx hb hK hP 30 0 RW_30 rfl (by decide) ey3 iy3 eX12_actTold_14.1 ?_
    refine lv_imul hx hb eX12_actTold_14.2.1 ?_
    refine z_topi (y := i2 (4 * y3)) (i2_mul 4 y3) ?_
    refine lv_istore (lv' := [(5, .int (i2 (4 * y3))), (0, .ref (a 200)), (1, .int (i2 p0)), (2, .int (i2 p1)), (3, .int (i2 p2)), (4, .int (i2 p3))]) hx hb eX12_actTold_14.2.2.1 hl (by decide) rfl (fun ls hl => ?_)
    refine lv_aload_n hx hb eX12_actTold_14.2.2.2.1 rfl (lv_at hl 1 rfl) ?_
    refine va_get (D := D) (ci := 12) (v := .ref (a 41)) (C := RX12) (T := TX12) (N := 116) hx hb ht inX12 hown hK hP 0 RW_0 rfl 41 (by decide) (ht (.fieldLink RX12 109 "CloneVolumesModel" "acts" "[I") fl_X12_109) (fun _ h9 => h9) mF_41 eX12_actTold_14.2.2.2.2.1 ?_
    refine lv_iload hx hb eX12_actTold_14.2.2.2.2.2.1 (lv_at hl 0 rfl) ?_
    refine lv_iload_n hx hb eX12_actTold_14.2.2.2.2.2.2.1 rfl (lv_at hl 2 rfl) ?_
    obtain ⟨hi4, h⟩ := inb_e h
    refine ya_iast (i := (4 * y3)) (x := p0) hx hb hK hP (hDD _) hS 32 0 RW_32 rfl (by decide) hi4 eX12_actTold_14.2.2.2.2.2.2.2 (RW_w32 _) (fun H locs hP hS => ?_)
    obtain ⟨s5, hs5, h⟩ := st_e h
    rw [hs5] at hP
    refine lv_aload_n hx hb eX12_actTold_26.1 rfl (lv_at hl 1 rfl) ?_
    refine va_get (D := D) (ci := 12) (v := .ref (a 41)) (C := RX12) (T := TX12) (N := 116) hx hb ht inX12 hown hK hP 0 RW_0 rfl 41 (by decide) (ht (.fieldLink RX12 109 "CloneVolumesModel" "acts" "[I") fl_X12_109) (fun _ h9 => h9) mF_41 eX12_actTold_26.2.1 ?_
    refine lv_iload hx hb eX12_actTold_26.2.2.1 (lv_at hl 0 rfl) ?_
    refine lv_iconst (v := 1) hx hb eX12_actTold_26.2.2.2.1 (by decide) ?_
    refine lv_iadd hx hb eX12_actTold_26.2.2.2.2.1 ?_
    refine z_topi (y := i2 ((4 * y3) + 1)) (i2_add (4 * y3) 1) ?_
    refine lv_iload_n hx hb eX12_actTold_26.2.2.2.2.2.1 rfl (lv_at hl 3 rfl) ?_
    obtain ⟨hi6, h⟩ := inb_e h
    refine ya_iast (i := ((4 * y3) + 1)) (x := p1) hx hb hK hP (hDD _) hS 32 0 RW_32 rfl (by decide) hi6 eX12_actTold_26.2.2.2.2.2.2.1 (RW_w32 _) (fun H locs hP hS => ?_)
    obtain ⟨s7, hs7, h⟩ := st_e h
    rw [hs7] at hP
    refine lv_aload_n hx hb eX12_actTold_26.2.2.2.2.2.2.2 rfl (lv_at hl 1 rfl) ?_
    refine va_get (D := D) (ci := 12) (v := .ref (a 41)) (C := RX12) (T := TX12) (N := 116) hx hb ht inX12 hown hK hP 0 RW_0 rfl 41 (by decide) (ht (.fieldLink RX12 109 "CloneVolumesModel" "acts" "[I") fl_X12_109) (fun _ h9 => h9) mF_41 eX12_actTold_37.1 ?_
    refine lv_iload hx hb eX12_actTold_37.2.1 (lv_at hl 0 rfl) ?_
    refine lv_iconst (v := 2) hx hb eX12_actTold_37.2.2.1 (by decide) ?_
    refine lv_iadd hx hb eX12_actTold_37.2.2.2.1 ?_
    refine z_topi (y := i2 ((4 * y3) + 2)) (i2_add (4 * y3) 2) ?_
    refine lv_iload_n hx hb eX12_actTold_37.2.2.2.2.1 rfl (lv_at hl 4 rfl) ?_
    obtain ⟨hi8, h⟩ := inb_e h
    refine ya_iast (i := ((4 * y3) + 2)) (x := p2) hx hb hK hP (hDD _) hS 32 0 RW_32 rfl (by decide) hi8 eX12_actTold_37.2.2.2.2.2.1 (RW_w32 _) (fun H locs hP hS => ?_)
    obtain ⟨s9, hs9, h⟩ := st_e h
    rw [hs9] at hP
    refine lv_aload_n hx hb eX12_actTold_37.2.2.2.2.2.2.1 rfl (lv_at hl 1 rfl) ?_
    refine va_get (D := D) (ci := 12) (v := .ref (a 41)) (C := RX12) (T := TX12) (N := 116) hx hb ht inX12 hown hK hP 0 RW_0 rfl 41 (by decide) (ht (.fieldLink RX12 109 "CloneVolumesModel" "acts" "[I") fl_X12_109) (fun _ h9 => h9) mF_41 eX12_actTold_37.2.2.2.2.2.2.2 ?_
    refine lv_iload hx hb eX12_actTold_50.1 (lv_at hl 0 rfl) ?_
    refine lv_iconst (v := 3) hx hb eX12_actTold_50.2.1 (by decide) ?_
    refine lv_iadd hx hb eX12_actTold_50.2.2.1 ?_
    refine z_topi (y := i2 ((4 * y3) + 3)) (i2_add (4 * y3) 3) ?_
    refine lv_iload hx hb eX12_actTold_50.2.2.2.1 (lv_at hl 5 rfl) ?_
    obtain ⟨hi10, h⟩ := inb_e h
    refine ya_iast (i := ((4 * y3) + 3)) (x := p3) hx hb hK hP (hDD _) hS 32 0 RW_32 rfl (by decide) hi10 eX12_actTold_50.2.2.2.2.1 (RW_w32 _) (fun H locs hP hS => ?_)
    obtain ⟨s11, hs11, h⟩ := st_e h
    rw [hs11] at hP
    refine lv_aload_n hx hb eX12_actTold_50.2.2.2.2.2.1 rfl (lv_at hl 1 rfl) ?_
    refine va_get (D := D) (ci := 12) (v := .ref (a 39)) (C := RX12) (T := TX12) (N := 116) hx hb ht inX12 hown hK hP 0 RW_0 rfl 39 (by decide) (ht (.fieldLink RX12 102 "CloneVolumesModel" "many" "[I") fl_X12_102) (fun _ h9 => h9) mF_39 eX12_actTold_50.2.2.2.2.2.2.1 ?_
    refine lv_iconst (v := 3) hx hb eX12_actTold_50.2.2.2.2.2.2.2 (by decide) ?_
    refine lv_dup2_11 hx hb eX12_actTold_62.1 rfl rfl ?_
    obtain ⟨y12, ey12, iy12, h⟩ := rdI_e h
    refine ya_iald (i := 3) hx hb hK hP 30 0 RW_30 rfl (by decide) ey12 iy12 eX12_actTold_62.2.1 ?_
    refine lv_iconst (v := 1) hx hb eX12_actTold_62.2.2.1 (by decide) ?_
    refine lv_iadd hx hb eX12_actTold_62.2.2.2.1 ?_
    refine z_topi (y := i2 (y12 + 1)) (i2_add y12 1) ?_
    obtain ⟨hi13, h⟩ := inb_e h
    refine ya_iast (i := 3) (x := (y12 + 1)) hx hb hK hP (hDD _) hS 30 0 RW_30 rfl (by decide) hi13 eX12_actTold_62.2.2.2.2.1 (RW_w30 _) (fun H locs hP hS => ?_)
    obtain ⟨s14, hs14, h⟩ := st_e h
    rw [hs14] at hP
    obtain rfl := Option.some.inj h
    exact W.vret hx hb hr (fun t ht hW => ⟨⟨(), rfl, trivial, by rw [ht]; exact hP, va_K.moved hW.alike hK, hDD _⟩, hS.F ht⟩) hS.2.2 eX12_actTold_62.2.2.2.2.2.1
  · have h := if_f (mt (i2_eq (x := (gI s 5)) (y := 0) hr1 (by decide)).mpr c2) h
    obtain rfl := Option.some.inj h
    exact W.vret hx hb hr (fun t ht hW => ⟨⟨(), rfl, trivial, by rw [ht]; exact hP, va_K.moved hW.alike hK, hDD _⟩, hS.F ht⟩) hS.2.2 eX12_actTold_0.2.2.2.1
set_option maxHeartbeats 4000000 in
set_option maxRecDepth 100000 in
theorem k_x12_newName (l : Launch) (D : va_G) (a : Nat → Nat) (sz : Nat) (s : MS) (o : (Int × MS)) (h : m_x12_newName s = some o) : yWl l yX12_newName cX12_newName 4 (some .long) { frames := 4, cells := 0, slots := 0, locals := 240 } D sz [.ref (a 200)] (RW D a s) (RW D a o.2) (i8 o.1) := by
  refine Met.ofW (cc := cX12_newName) (maxL := 4) (ret := (some .long)) (by decide) rfl ?_
  intro p e s₀ m args below meth c s₁ B hml hv
  obtain ⟨rfl, ⟨hsz, hP, hK, hD0⟩, hN⟩ := hv
  have hx := B.exec
  have hb := B.bytes
  have hr := B.returns
  have hts := atoms_spec (ws := wz yX12_newName cX12_newName 4 (some .long)) B.pre
  have ht : ∀ w ∈ lw_gd, w.before _ s₀ = true := fun w h => hts w (List.mem_cons_of_mem _ h)
  have hown : s₀.vm.findClass RX12 = some m.cls := findClass_of_methodNamed B.named
  have hlocks := B.notSynchronized
  subst hsz
  have hD := hD0.self (sz := s₀.heap.size)
  generalize hAe : va_A (RW D a s) s₀.heap.size = A at hD ⊢
  have hA : ∀ q : Nat, s₀.heap.size ≤ q → A q := fun q h => by rw [← hAe]; exact Or.inr h
  have hS : va_S A s₀.heap s₀.heap [] := va_S.rf
  have hDD : ∀ t : MS, va_D A (RW D a t) := fun t => RW_D t hD
  have hl := lv_entry ([.ref (a 200)]) (n := 4) (Nat.le_of_ble_eq_true rfl)
  rw [lg_entry_eq]
  generalize (lg_sl ([.ref (a 200)]) ++ List.replicate (4 - (lg_sl ([.ref (a 200)])).length) Slot.unset).toArray = ls at hl ⊢
  have hl : lv_has ls 4 [(0, .ref (a 200))] := hl
  unfold m_x12_newName at h
  refine y_loop (pcJ := 7) (σ := Int × Int × MS) (fun n u H locs ls => va_P D vwCl (RW D a u.2.2) H ∧ va_S A s₀.heap H locs ∧ lv_has ls 4 [(0, .ref (a 200)), (1, .long (i8 u.1)), (3, .int (i2 u.2.1))] ∧ m_x12_newName_L7 n u.1 u.2.1 u.2.2 = some o) (fun u => []) (fun u H locs ls hI => by obtain ⟨_, _, _, h⟩ := hI; cases h) (fun n7 ih7 u H locs ls hI => ?_) (fun J7 => ?_)
  · obtain ⟨hP, hS, hl, h⟩ := hI
    obtain ⟨z1, x2, s3⟩ := u
    have hP : va_P D vwCl (RW D a s3) H := hP
    have hl : lv_has ls 4 [(0, .ref (a 200)), (1, .long (i8 z1)), (3, .int (i2 x2))] := hl
    have h : m_x12_newName_b7 (m_x12_newName_L7 n7) z1 x2 s3 = some o := h
    unfold m_x12_newName_b7 at h
    refine y_head (pcJ := 44) (σ := Int × Int × MS) (fun u H locs ls => va_P D vwCl (RW D a u.2.2) H ∧ va_S A s₀.heap H locs ∧ lv_has ls 4 [(0, .ref (a 200)), (1, .long (i8 u.1)), (3, .int (i2 u.2.1))] ∧ m_x12_newName_J44 (m_x12_newName_L7 n7) u.1 u.2.1 u.2.2 = some o) (fun u => []) (fun u H locs ls hI => ?_) (fun J44 => ?_)
    · obtain ⟨hP, hS, hl, h⟩ := hI
      obtain ⟨z4, x5, s6⟩ := u
      have hP : va_P D vwCl (RW D a s6) H := hP
      have hl : lv_has ls 4 [(0, .ref (a 200)), (1, .long (i8 z4)), (3, .int (i2 x5))] := hl
      have h : m_x12_newName_J44 (m_x12_newName_L7 n7) z4 x5 s6 = some o := h
      unfold m_x12_newName_J44 at h
      refine lv_iinc (v := i2 (x5 + 1)) (lv' := [(3, .int (i2 (x5 + 1))), (0, .ref (a 200)), (1, .long (i8 z4))]) hx hb eX12_newName_38.2.2.1 hl (k := 2) rfl (i2_add x5 1) (by decide) rfl (fun ls hl => ?_)
      refine lv_goto (tgt := 7) hx hb eX12_newName_38.2.2.2.1 (by decide) ?_
      exact ih7 (z4, x5 + 1, s6) _ _ _ ⟨hP, hS, lv_sub hl [1, 2, 0] rfl, h⟩
    refine lv_iload_n hx hb eX12_newName_0.2.2.2.2.2.1 rfl (lv_at hl 2 rfl) ?_
    refine lv_aload_n hx hb eX12_newName_0.2.2.2.2.2.2.1 rfl (lv_at hl 0 rfl) ?_
    refine va_get (D := D) (ci := 12) (v := .ref (a 39)) (C := RX12) (T := TX12) (N := 116) hx hb ht inX12 hown hK hP 0 RW_0 rfl 39 (by decide) (ht (.fieldLink RX12 102 "CloneVolumesModel" "many" "[I") fl_X12_102) (fun _ h9 => h9) mF_39 eX12_newName_0.2.2.2.2.2.2.2 ?_
    refine lv_iconst (v := 2) hx hb eX12_newName_12.1 (by decide) ?_
    obtain ⟨y7, ey7, iy7, h⟩ := rdI_e h
    refine ya_iald (i := 2) hx hb hK hP 30 0 RW_30 rfl (by decide) ey7 iy7 eX12_newName_12.2.1 ?_
    obtain ⟨hr8, h⟩ := rg_e h
    obtain ⟨hr9, h⟩ := rg_e h
    refine lv_icmp_ge (tgt := 50) hx hb eX12_newName_12.2.2.1 (by decide) (fun c10 => ?_) (fun c10 => ?_)
    · have h := if_t ((i2_le (x := y7) (y := x2) hr9 hr8).mp c10) h
      refine lv_lload_n hx hb eX12_newName_38.2.2.2.2.1 rfl (lv_at hl 1 rfl) ?_
      obtain rfl := Option.some.inj h
      exact W.lret (v := (i8 z1)) hx hb hr (fun t ht hW => ⟨⟨_, (), rfl, rfl, by rw [ht]; exact hP, va_K.moved hW.alike hK, hDD _⟩, hS.F ht⟩) hS.2.2 eX12_newName_38.2.2.2.2.2.1
    · have h := if_f (mt (i2_le (x := y7) (y := x2) hr9 hr8).mpr c10) h
      refine lv_aload_n hx hb eX12_newName_12.2.2.2.1 rfl (lv_at hl 0 rfl) ?_
      refine va_get (D := D) (ci := 12) (v := .int (i2 (gI s3 5))) (C := RX12) (T := TX12) (N := 116) hx hb ht inX12 hown hK hP 0 RW_0 rfl 5 (by decide) (ht (.fieldLink RX12 266 "CloneVolumesModel" "bad" "I") fl_X12_266) (fun _ h9 => h9) mF_5 eX12_newName_12.2.2.2.2.1 ?_
      obtain ⟨hr11, h⟩ := rg_e h
      refine lv_if_ne (tgt := 44) hx hb eX12_newName_12.2.2.2.2.2.1 (by decide) (fun c12 => ?_) (fun c12 => ?_)
      · have h := if_f (mt (i2_eq (x := (gI s3 5)) (y := 0) hr11 (by decide)).mpr c12) h
        exact J44 (z1, x2, s3) _ _ _ ⟨hP, hS, lv_sub hl [0, 1, 2] rfl, h⟩
      · have h := if_t ((i2_eq (x := (gI s3 5)) (y := 0) hr11 (by decide)).mp c12) h
        refine lv_aload_n hx hb eX12_newName_12.2.2.2.2.2.2.1 rfl (lv_at hl 0 rfl) ?_
        refine va_get (D := D) (ci := 12) (v := .ref (a 40)) (C := RX12) (T := TX12) (N := 116) hx hb ht inX12 hown hK hP 0 RW_0 rfl 40 (by decide) (ht (.fieldLink RX12 105 "CloneVolumesModel" "names" "[J") fl_X12_105) (fun _ h9 => h9) mF_40 eX12_newName_12.2.2.2.2.2.2.2 ?_
        refine lv_iload_n hx hb eX12_newName_28.1 rfl (lv_at hl 2 rfl) ?_
        obtain ⟨yl13, eyl13, iyl13, h⟩ := rdL_e h
        refine ya_lald (i := x2) hx hb hK hP 31 2 RW_31 rfl (by decide) eyl13 iyl13 eX12_newName_28.2.1 ?_
        refine lv_lload_n hx hb eX12_newName_28.2.2.1 rfl (lv_at hl 1 rfl) ?_
        refine W.lcmp hx hb eX12_newName_28.2.2.2.1 ?_
        obtain ⟨hr14, h⟩ := rgL_e h
        obtain ⟨hr15, h⟩ := rgL_e h
        refine lv_if_ne (tgt := 44) hx hb eX12_newName_28.2.2.2.2.1 (by decide) (fun c16 => ?_) (fun c16 => ?_)
        · have h := if_f (mt (l_eq (x := yl13) (y := z1) hr14 hr15).mpr c16) h
          exact J44 (z1, x2, s3) _ _ _ ⟨hP, hS, lv_sub hl [0, 1, 2] rfl, h⟩
        · have h := if_t ((l_eq (x := yl13) (y := z1) hr14 hr15).mp c16) h
          refine lv_aload_n hx hb eX12_newName_28.2.2.2.2.2.1 rfl (lv_at hl 0 rfl) ?_
          refine lv_iconst (v := 3) hx hb eX12_newName_28.2.2.2.2.2.2.1 (by decide) ?_
          refine lv_aload_n hx hb eX12_newName_28.2.2.2.2.2.2.2 rfl (lv_at hl 0 rfl) ?_
          refine va_get (D := D) (ci := 12) (v := .int (i2 (gI s3 38))) (C := RX12) (T := TX12) (N := 116) hx hb ht inX12 hown hK hP 0 RW_0 rfl 38 (by decide) (ht (.fieldLink RX12 317 "CloneVolumesModel" "namePlace" "I") fl_X12_317) (fun _ h9 => h9) mF_38 eX12_newName_38.1 ?_
          obtain ⟨s18, hc17, h⟩ := bn_e h
          refine ywVv (As := [.int 3, .int (i2 (gI s3 38))]) (rest := []) (C := RX12) (n := 2) (ws' := RW D a s18) ⟨hx, hb, hml, hown, ht⟩ (k_x12_fail l D a 3 (gI s3 38) _ _ _ hc17) (zgV ml_X12_296 im_X12_fail se_X12_fail in_X12 co_X12_fail) rfl rfl (by decide +kernel) ⟨Nat.le_of_ble_eq_true rfl, Nat.le_of_ble_eq_true rfl⟩ hN hK hP (hDD _) hS hA 0 RW_0 rfl rfl rfl hl.1 rfl (Nat.le_of_ble_eq_true rfl) eX12_newName_38.2.1 ⟨Nat.le_of_ble_eq_true rfl, Nat.le_of_ble_eq_true rfl⟩ (fun H locs hP hS => ?_)
          exact J44 (z1, x2, s18) _ _ _ ⟨hP, hS, lv_sub hl [0, 1, 2] rfl, h⟩
  refine lv_aload_n hx hb eX12_newName_0.1 rfl (lv_at hl 0 rfl) ?_
  obtain ⟨⟨rl21, s20⟩, hc19, h⟩ := bn_e h
  refine ywVl (r0 := i8 rl21) (As := []) (rest := []) (C := RX12) (n := 0) (ws' := RW D a s20) ⟨hx, hb, hml, hown, ht⟩ (k_x12_name l D a _ _ _ hc19) (zgV ml_X12_339 im_X12_name se_X12_name in_X12 co_X12_name) rfl rfl (by decide +kernel) ⟨Nat.le_of_ble_eq_true rfl, Nat.le_of_ble_eq_true rfl⟩ hN hK hP (hDD _) hS hA 0 RW_0 rfl rfl rfl hl.1 rfl (Nat.le_of_ble_eq_true rfl) eX12_newName_0.2.1 ⟨Nat.le_of_ble_eq_true rfl, Nat.le_of_ble_eq_true rfl⟩ (fun H locs hP hS => ?_)
  refine lv_lstore_n (lv' := [(1, .long (i8 rl21)), (0, .ref (a 200))]) hx hb eX12_newName_0.2.2.1 rfl hl (by decide) rfl (fun ls hl => ?_)
  refine lv_iconst (v := 0) hx hb eX12_newName_0.2.2.2.1 (by decide) ?_
  refine lv_istore_n (lv' := [(3, .int 0), (1, .long (i8 rl21)), (0, .ref (a 200))]) hx hb eX12_newName_0.2.2.2.2.1 rfl hl (by decide) rfl (fun ls hl => ?_)
  exact J7 FU (rl21, 0, s20) _ _ _ ⟨hP, hS, lv_sub hl [2, 1, 0] rfl, h⟩
set_option maxHeartbeats 4000000 in
set_option maxRecDepth 100000 in
theorem k_x12_volumeNamed (l : Launch) (D : va_G) (a : Nat → Nat) (sz : Nat) (s : MS) (o : (Int × MS)) (h : m_x12_volumeNamed s = some o) : yWi l yX12_volumeNamed cX12_volumeNamed 4 (some .int) { frames := 4, cells := 0, slots := 0, locals := 240 } D sz [.ref (a 200)] (RW D a s) (RW D a o.2) (i2 o.1) := by
  refine Met.ofW (cc := cX12_volumeNamed) (maxL := 4) (ret := (some .int)) (by decide) rfl ?_
  intro p e s₀ m args below meth c s₁ B hml hv
  obtain ⟨rfl, ⟨hsz, hP, hK, hD0⟩, hN⟩ := hv
  have hx := B.exec
  have hb := B.bytes
  have hr := B.returns
  have hts := atoms_spec (ws := wz yX12_volumeNamed cX12_volumeNamed 4 (some .int)) B.pre
  have ht : ∀ w ∈ lw_gd, w.before _ s₀ = true := fun w h => hts w (List.mem_cons_of_mem _ h)
  have hown : s₀.vm.findClass RX12 = some m.cls := findClass_of_methodNamed B.named
  have hlocks := B.notSynchronized
  subst hsz
  have hD := hD0.self (sz := s₀.heap.size)
  generalize hAe : va_A (RW D a s) s₀.heap.size = A at hD ⊢
  have hA : ∀ q : Nat, s₀.heap.size ≤ q → A q := fun q h => by rw [← hAe]; exact Or.inr h
  have hS : va_S A s₀.heap s₀.heap [] := va_S.rf
  have hDD : ∀ t : MS, va_D A (RW D a t) := fun t => RW_D t hD
  have hl := lv_entry ([.ref (a 200)]) (n := 4) (Nat.le_of_ble_eq_true rfl)
  rw [lg_entry_eq]
  generalize (lg_sl ([.ref (a 200)]) ++ List.replicate (4 - (lg_sl ([.ref (a 200)])).length) Slot.unset).toArray = ls at hl ⊢
  have hl : lv_has ls 4 [(0, .ref (a 200))] := hl
  unfold m_x12_volumeNamed at h
  refine y_head (pcJ := 52) (σ := MS) (fun u H locs ls => va_P D vwCl (RW D a u) H ∧ va_S A s₀.heap H locs ∧ lv_has ls 4 [] ∧ m_x12_volumeNamed_J52 u = some o) (fun u => []) (fun u H locs ls hI => ?_) (fun J52 => ?_)
  · obtain ⟨hP, hS, hl, h⟩ := hI
    obtain ⟨s1, rfl⟩ : ∃ z, z = u := ⟨u, rfl⟩
    have hP : va_P D vwCl (RW D a s1) H := hP
    have hl : lv_has ls 4 [] := hl
    have h : m_x12_volumeNamed_J52 s1 = some o := h
    unfold m_x12_volumeNamed_J52 at h
    refine lv_iconst (v := 0) hx hb eX12_volumeNamed_43.2.2.2.2.2.1 (by decide) ?_
    obtain rfl := Option.some.inj h
    exact W.iret (v := 0) hx hb hr (fun t ht hW => ⟨⟨_, (), rfl, rfl, by rw [ht]; exact hP, va_K.moved hW.alike hK, hDD _⟩, hS.F ht⟩) hS.2.2 eX12_volumeNamed_43.2.2.2.2.2.2.1
  refine y_loop (pcJ := 7) (σ := Int × Int × MS) (fun n u H locs ls => va_P D vwCl (RW D a u.2.2) H ∧ va_S A s₀.heap H locs ∧ lv_has ls 4 [(0, .ref (a 200)), (1, .long (i8 u.1)), (3, .int (i2 u.2.1))] ∧ m_x12_volumeNamed_L7 n u.1 u.2.1 u.2.2 = some o) (fun u => []) (fun u H locs ls hI => by obtain ⟨_, _, _, h⟩ := hI; cases h) (fun n7 ih7 u H locs ls hI => ?_) (fun J7 => ?_)
  · obtain ⟨hP, hS, hl, h⟩ := hI
    obtain ⟨z2, x3, s4⟩ := u
    have hP : va_P D vwCl (RW D a s4) H := hP
    have hl : lv_has ls 4 [(0, .ref (a 200)), (1, .long (i8 z2)), (3, .int (i2 x3))] := hl
    have h : m_x12_volumeNamed_b7 (m_x12_volumeNamed_L7 n7) z2 x3 s4 = some o := h
    unfold m_x12_volumeNamed_b7 at h
    refine lv_iload_n hx hb eX12_volumeNamed_1.2.2.2.2.1 rfl (lv_at hl 2 rfl) ?_
    refine lv_aload_n hx hb eX12_volumeNamed_1.2.2.2.2.2.1 rfl (lv_at hl 0 rfl) ?_
    refine va_get (D := D) (ci := 12) (v := .ref (a 39)) (C := RX12) (T := TX12) (N := 116) hx hb ht inX12 hown hK hP 0 RW_0 rfl 39 (by decide) (ht (.fieldLink RX12 102 "CloneVolumesModel" "many" "[I") fl_X12_102) (fun _ h9 => h9) mF_39 eX12_volumeNamed_1.2.2.2.2.2.2.1 ?_
    refine lv_iconst (v := 2) hx hb eX12_volumeNamed_1.2.2.2.2.2.2.2 (by decide) ?_
    obtain ⟨y5, ey5, iy5, h⟩ := rdI_e h
    refine ya_iald (i := 2) hx hb hK hP 30 0 RW_30 rfl (by decide) ey5 iy5 eX12_volumeNamed_13.1 ?_
    obtain ⟨hr6, h⟩ := rg_e h
    obtain ⟨hr7, h⟩ := rg_e h
    refine lv_icmp_ge (tgt := 36) hx hb eX12_volumeNamed_13.2.1 (by decide) (fun c8 => ?_) (fun c8 => ?_)
    · have h := if_t ((i2_le (x := y5) (y := x3) hr7 hr6).mp c8) h
      refine lv_aload_n hx hb eX12_volumeNamed_25.2.2.2.2.2.1 rfl (lv_at hl 0 rfl) ?_
      refine va_get (D := D) (ci := 12) (v := .int (i2 (gI s4 5))) (C := RX12) (T := TX12) (N := 116) hx hb ht inX12 hown hK hP 0 RW_0 rfl 5 (by decide) (ht (.fieldLink RX12 266 "CloneVolumesModel" "bad" "I") fl_X12_266) (fun _ h9 => h9) mF_5 eX12_volumeNamed_25.2.2.2.2.2.2.1 ?_
      obtain ⟨hr9, h⟩ := rg_e h
      refine lv_if_ne (tgt := 52) hx hb eX12_volumeNamed_25.2.2.2.2.2.2.2 (by decide) (fun c10 => ?_) (fun c10 => ?_)
      · have h := if_f (mt (i2_eq (x := (gI s4 5)) (y := 0) hr9 (by decide)).mpr c10) h
        exact J52 s4 _ _ _ ⟨hP, hS, lv_sub hl [] rfl, h⟩
      · have h := if_t ((i2_eq (x := (gI s4 5)) (y := 0) hr9 (by decide)).mp c10) h
        refine lv_aload_n hx hb eX12_volumeNamed_43.1 rfl (lv_at hl 0 rfl) ?_
        refine lv_iconst (v := 3) hx hb eX12_volumeNamed_43.2.1 (by decide) ?_
        refine lv_aload_n hx hb eX12_volumeNamed_43.2.2.1 rfl (lv_at hl 0 rfl) ?_
        refine va_get (D := D) (ci := 12) (v := .int (i2 (gI s4 38))) (C := RX12) (T := TX12) (N := 116) hx hb ht inX12 hown hK hP 0 RW_0 rfl 38 (by decide) (ht (.fieldLink RX12 317 "CloneVolumesModel" "namePlace" "I") fl_X12_317) (fun _ h9 => h9) mF_38 eX12_volumeNamed_43.2.2.2.1 ?_
        obtain ⟨s12, hc11, h⟩ := bn_e h
        refine ywVv (As := [.int 3, .int (i2 (gI s4 38))]) (rest := []) (C := RX12) (n := 2) (ws' := RW D a s12) ⟨hx, hb, hml, hown, ht⟩ (k_x12_fail l D a 3 (gI s4 38) _ _ _ hc11) (zgV ml_X12_296 im_X12_fail se_X12_fail in_X12 co_X12_fail) rfl rfl (by decide +kernel) ⟨Nat.le_of_ble_eq_true rfl, Nat.le_of_ble_eq_true rfl⟩ hN hK hP (hDD _) hS hA 0 RW_0 rfl rfl rfl hl.1 rfl (Nat.le_of_ble_eq_true rfl) eX12_volumeNamed_43.2.2.2.2.1 ⟨Nat.le_of_ble_eq_true rfl, Nat.le_of_ble_eq_true rfl⟩ (fun H locs hP hS => ?_)
        exact J52 s12 _ _ _ ⟨hP, hS, lv_sub hl [] rfl, h⟩
    · have h := if_f (mt (i2_le (x := y5) (y := x3) hr7 hr6).mpr c8) h
      refine lv_aload_n hx hb eX12_volumeNamed_13.2.2.1 rfl (lv_at hl 0 rfl) ?_
      refine va_get (D := D) (ci := 12) (v := .ref (a 40)) (C := RX12) (T := TX12) (N := 116) hx hb ht inX12 hown hK hP 0 RW_0 rfl 40 (by decide) (ht (.fieldLink RX12 105 "CloneVolumesModel" "names" "[J") fl_X12_105) (fun _ h9 => h9) mF_40 eX12_volumeNamed_13.2.2.2.1 ?_
      refine lv_iload_n hx hb eX12_volumeNamed_13.2.2.2.2.1 rfl (lv_at hl 2 rfl) ?_
      obtain ⟨yl13, eyl13, iyl13, h⟩ := rdL_e h
      refine ya_lald (i := x3) hx hb hK hP 31 2 RW_31 rfl (by decide) eyl13 iyl13 eX12_volumeNamed_13.2.2.2.2.2.1 ?_
      refine lv_lload_n hx hb eX12_volumeNamed_13.2.2.2.2.2.2.1 rfl (lv_at hl 1 rfl) ?_
      refine W.lcmp hx hb eX12_volumeNamed_13.2.2.2.2.2.2.2 ?_
      obtain ⟨hr14, h⟩ := rgL_e h
      obtain ⟨hr15, h⟩ := rgL_e h
      refine lv_if_ne (tgt := 30) hx hb eX12_volumeNamed_25.1 (by decide) (fun c16 => ?_) (fun c16 => ?_)
      · have h := if_f (mt (l_eq (x := yl13) (y := z2) hr14 hr15).mpr c16) h
        refine lv_iinc (v := i2 (x3 + 1)) (lv' := [(3, .int (i2 (x3 + 1))), (0, .ref (a 200)), (1, .long (i8 z2))]) hx hb eX12_volumeNamed_25.2.2.2.1 hl (k := 2) rfl (i2_add x3 1) (by decide) rfl (fun ls hl => ?_)
        refine lv_goto (tgt := 7) hx hb eX12_volumeNamed_25.2.2.2.2.1 (by decide) ?_
        exact ih7 (z2, x3 + 1, s4) _ _ _ ⟨hP, hS, lv_sub hl [1, 2, 0] rfl, h⟩
      · have h := if_t ((l_eq (x := yl13) (y := z2) hr14 hr15).mp c16) h
        refine lv_iload_n hx hb eX12_volumeNamed_25.2.1 rfl (lv_at hl 2 rfl) ?_
        obtain rfl := Option.some.inj h
        exact W.iret (v := (i2 x3)) hx hb hr (fun t ht hW => ⟨⟨_, (), rfl, rfl, by rw [ht]; exact hP, va_K.moved hW.alike hK, hDD _⟩, hS.F ht⟩) hS.2.2 eX12_volumeNamed_25.2.2.1
  refine lv_aload_n hx hb eX12_storeTold_37.2.2.2.2.2.2.2 rfl (lv_at hl 0 rfl) ?_
  obtain ⟨⟨rl19, s18⟩, hc17, h⟩ := bn_e h
  refine ywVl (r0 := i8 rl19) (As := []) (rest := []) (C := RX12) (n := 0) (ws' := RW D a s18) ⟨hx, hb, hml, hown, ht⟩ (k_x12_name l D a _ _ _ hc17) (zgV ml_X12_339 im_X12_name se_X12_name in_X12 co_X12_name) rfl rfl (by decide +kernel) ⟨Nat.le_of_ble_eq_true rfl, Nat.le_of_ble_eq_true rfl⟩ hN hK hP (hDD _) hS hA 0 RW_0 rfl rfl rfl hl.1 rfl (Nat.le_of_ble_eq_true rfl) eX12_volumeNamed_1.1 ⟨Nat.le_of_ble_eq_true rfl, Nat.le_of_ble_eq_true rfl⟩ (fun H locs hP hS => ?_)
  refine lv_lstore_n (lv' := [(1, .long (i8 rl19)), (0, .ref (a 200))]) hx hb eX12_volumeNamed_1.2.1 rfl hl (by decide) rfl (fun ls hl => ?_)
  refine lv_iconst (v := 0) hx hb eX12_volumeNamed_1.2.2.1 (by decide) ?_
  refine lv_istore_n (lv' := [(3, .int 0), (1, .long (i8 rl19)), (0, .ref (a 200))]) hx hb eX12_volumeNamed_1.2.2.2.1 rfl hl (by decide) rfl (fun ls hl => ?_)
  exact J7 FU (rl19, 0, s18) _ _ _ ⟨hP, hS, lv_sub hl [2, 1, 0] rfl, h⟩
set_option maxHeartbeats 4000000 in
set_option maxRecDepth 100000 in
theorem k_x12_volumeTold (l : Launch) (D : va_G) (a : Nat → Nat) (p0 : Int) (p1 : Int) (sz : Nat) (s : MS) (o : MS) (h : m_x12_volumeTold p0 p1 s = some o) : yWv l yX12_volumeTold cX12_volumeTold 6 none { frames := 5, cells := 0, slots := 0, locals := 300 } D sz [.ref (a 200), .int (i2 p0), .int (i2 p1)] (RW D a s) (RW D a o) := by
  refine Met.ofW (cc := cX12_volumeTold) (maxL := 6) (ret := none) (by decide) rfl ?_
  intro p e s₀ m args below meth c s₁ B hml hv
  obtain ⟨rfl, ⟨hsz, hP, hK, hD0⟩, hN⟩ := hv
  have hx := B.exec
  have hb := B.bytes
  have hr := B.returns
  have hts := atoms_spec (ws := wz yX12_volumeTold cX12_volumeTold 6 none) B.pre
  have ht : ∀ w ∈ lw_gd, w.before _ s₀ = true := fun w h => hts w (List.mem_cons_of_mem _ h)
  have hown : s₀.vm.findClass RX12 = some m.cls := findClass_of_methodNamed B.named
  have hlocks := B.notSynchronized
  subst hsz
  have hD := hD0.self (sz := s₀.heap.size)
  generalize hAe : va_A (RW D a s) s₀.heap.size = A at hD ⊢
  have hA : ∀ q : Nat, s₀.heap.size ≤ q → A q := fun q h => by rw [← hAe]; exact Or.inr h
  have hS : va_S A s₀.heap s₀.heap [] := va_S.rf
  have hDD : ∀ t : MS, va_D A (RW D a t) := fun t => RW_D t hD
  have hl := lv_entry ([.ref (a 200), .int (i2 p0), .int (i2 p1)]) (n := 6) (Nat.le_of_ble_eq_true rfl)
  rw [lg_entry_eq]
  generalize (lg_sl ([.ref (a 200), .int (i2 p0), .int (i2 p1)]) ++ List.replicate (6 - (lg_sl ([.ref (a 200), .int (i2 p0), .int (i2 p1)])).length) Slot.unset).toArray = ls at hl ⊢
  have hl : lv_has ls 6 [(0, .ref (a 200)), (1, .int (i2 p0)), (2, .int (i2 p1))] := hl
  unfold m_x12_volumeTold at h
  refine y_head (pcJ := 83) (σ := Int × Int × Int × MS) (fun u H locs ls => va_P D vwCl (RW D a u.2.2.2) H ∧ va_S A s₀.heap H locs ∧ lv_has ls 6 [(0, .ref (a 200)), (3, .long (i8 u.1))] ∧ m_x12_volumeTold_J83 u.1 u.2.1 u.2.2.1 u.2.2.2 = some o) (fun u => [.int (i2 u.2.1), .int (i2 u.2.2.1), .ref (a 200)]) (fun u H locs ls hI => ?_) (fun J83 => ?_)
  · obtain ⟨hP, hS, hl, h⟩ := hI
    obtain ⟨z1, x2, x3, s4⟩ := u
    have hP : va_P D vwCl (RW D a s4) H := hP
    have hl : lv_has ls 6 [(0, .ref (a 200)), (3, .long (i8 z1))] := hl
    have h : m_x12_volumeTold_J83 z1 x2 x3 s4 = some o := h
    unfold m_x12_volumeTold_J83 at h
    refine lv_aload_n hx hb eX12_volumeTold_77.2.2.2.2.1 rfl (lv_at hl 0 rfl) ?_
    refine va_get (D := D) (ci := 12) (v := .ref (a 39)) (C := RX12) (T := TX12) (N := 116) hx hb ht inX12 hown hK hP 0 RW_0 rfl 39 (by decide) (ht (.fieldLink RX12 102 "CloneVolumesModel" "many" "[I") fl_X12_102) (fun _ h9 => h9) mF_39 eX12_volumeTold_77.2.2.2.2.2.1 ?_
    refine lv_iconst (v := 2) hx hb eX12_volumeTold_77.2.2.2.2.2.2.1 (by decide) ?_
    obtain ⟨y5, ey5, iy5, h⟩ := rdI_e h
    refine ya_iald (i := 2) hx hb hK hP 30 0 RW_30 rfl (by decide) ey5 iy5 eX12_volumeTold_77.2.2.2.2.2.2.2 ?_
    refine lv_iconst (v := 0) hx hb eX12_volumeTold_89.1 (by decide) ?_
    obtain ⟨s7, hc6, h⟩ := bn_e h
    refine ywVv (As := [.int (i2 x3), .int (i2 x2), .int (i2 y5), .int 0]) (rest := []) (C := RX12) (n := 4) (ws' := RW D a s7) ⟨hx, hb, hml, hown, ht⟩ (k_x12_actTold l D a x3 x2 y5 0 _ _ _ hc6) (zgV ml_X12_349 im_X12_actTold se_X12_actTold in_X12 co_X12_actTold) rfl rfl (by decide +kernel) ⟨Nat.le_of_ble_eq_true rfl, Nat.le_of_ble_eq_true rfl⟩ hN hK hP (hDD _) hS hA 0 RW_0 rfl rfl rfl hl.1 rfl (Nat.le_of_ble_eq_true rfl) eX12_volumeTold_89.2.1 ⟨Nat.le_of_ble_eq_true rfl, Nat.le_of_ble_eq_true rfl⟩ (fun H locs hP hS => ?_)
    refine lv_aload_n hx hb eX12_volumeTold_89.2.2.1 rfl (lv_at hl 0 rfl) ?_
    refine va_get (D := D) (ci := 12) (v := .ref (a 40)) (C := RX12) (T := TX12) (N := 116) hx hb ht inX12 hown hK hP 0 RW_0 rfl 40 (by decide) (ht (.fieldLink RX12 105 "CloneVolumesModel" "names" "[J") fl_X12_105) (fun _ h9 => h9) mF_40 eX12_volumeTold_89.2.2.2.1 ?_
    refine lv_aload_n hx hb eX12_volumeTold_89.2.2.2.2.1 rfl (lv_at hl 0 rfl) ?_
    refine va_get (D := D) (ci := 12) (v := .ref (a 39)) (C := RX12) (T := TX12) (N := 116) hx hb ht inX12 hown hK hP 0 RW_0 rfl 39 (by decide) (ht (.fieldLink RX12 102 "CloneVolumesModel" "many" "[I") fl_X12_102) (fun _ h9 => h9) mF_39 eX12_volumeTold_89.2.2.2.2.2.1 ?_
    refine lv_iconst (v := 2) hx hb eX12_volumeTold_89.2.2.2.2.2.2.1 (by decide) ?_
    obtain ⟨y8, ey8, iy8, h⟩ := rdI_e h
    refine ya_iald (i := 2) hx hb hK hP 30 0 RW_30 rfl (by decide) ey8 iy8 eX12_volumeTold_89.2.2.2.2.2.2.2 ?_
    refine lv_lload_n hx hb eX12_volumeTold_103.1 rfl (lv_at hl 1 rfl) ?_
    obtain ⟨hi9, h⟩ := inb_e h
    refine ya_last (i := y8) (x := z1) hx hb hK hP (hDD _) hS 31 2 RW_31 rfl (by decide) hi9 eX12_volumeTold_103.2.1 (RW_w31 _) (fun H locs hP hS => ?_)
    obtain ⟨s10, hs10, h⟩ := st_e h
    rw [hs10] at hP
    refine lv_aload_n hx hb eX12_volumeTold_103.2.2.1 rfl (lv_at hl 0 rfl) ?_
    refine va_get (D := D) (ci := 12) (v := .ref (a 39)) (C := RX12) (T := TX12) (N := 116) hx hb ht inX12 hown hK hP 0 RW_0 rfl 39 (by decide) (ht (.fieldLink RX12 102 "CloneVolumesModel" "many" "[I") fl_X12_102) (fun _ h9 => h9) mF_39 eX12_volumeTold_103.2.2.2.1 ?_
    refine lv_iconst (v := 2) hx hb eX12_volumeTold_103.2.2.2.2.1 (by decide) ?_
    refine lv_dup2_11 hx hb eX12_volumeTold_103.2.2.2.2.2.1 rfl rfl ?_
    obtain ⟨y11, ey11, iy11, h⟩ := rdI_e h
    refine ya_iald (i := 2) hx hb hK hP 30 0 RW_30 rfl (by decide) ey11 iy11 eX12_volumeTold_103.2.2.2.2.2.2.1 ?_
    refine lv_iconst (v := 1) hx hb eX12_volumeTold_103.2.2.2.2.2.2.2 (by decide) ?_
    refine lv_iadd hx hb eX12_volumeTold_113.1 ?_
    refine z_topi (y := i2 (y11 + 1)) (i2_add y11 1) ?_
    obtain ⟨hi12, h⟩ := inb_e h
    refine ya_iast (i := 2) (x := (y11 + 1)) hx hb hK hP (hDD _) hS 30 0 RW_30 rfl (by decide) hi12 eX12_volumeTold_113.2.1 (RW_w30 _) (fun H locs hP hS => ?_)
    obtain ⟨s13, hs13, h⟩ := st_e h
    rw [hs13] at hP
    obtain rfl := Option.some.inj h
    exact W.vret hx hb hr (fun t ht hW => ⟨⟨(), rfl, trivial, by rw [ht]; exact hP, va_K.moved hW.alike hK, hDD _⟩, hS.F ht⟩) hS.2.2 eX12_volumeTold_113.2.2
  refine y_head (pcJ := 68) (σ := Int × Int × Int × Int × MS) (fun u H locs ls => va_P D vwCl (RW D a u.2.2.2.2) H ∧ va_S A s₀.heap H locs ∧ lv_has ls 6 [(0, .ref (a 200)), (1, .int (i2 u.1)), (3, .long (i8 u.2.1)), (5, .int (i2 u.2.2.1))] ∧ m_x12_volumeTold_J68 u.1 u.2.1 u.2.2.1 u.2.2.2.1 u.2.2.2.2 = some o) (fun u => [.int (i2 u.2.2.2.1), .ref (a 200)]) (fun u H locs ls hI => ?_) (fun J68 => ?_)
  · obtain ⟨hP, hS, hl, h⟩ := hI
    obtain ⟨x14, z15, x16, x17, s18⟩ := u
    have hP : va_P D vwCl (RW D a s18) H := hP
    have hl : lv_has ls 6 [(0, .ref (a 200)), (1, .int (i2 x14)), (3, .long (i8 z15)), (5, .int (i2 x16))] := hl
    have h : m_x12_volumeTold_J68 x14 z15 x16 x17 s18 = some o := h
    unfold m_x12_volumeTold_J68 at h
    refine lv_iload_n hx hb eX12_volumeTold_60.2.2.2.2.1 rfl (lv_at hl 1 rfl) ?_
    obtain ⟨hr19, h⟩ := rg_e h
    refine lv_if_eq (tgt := 77) hx hb eX12_volumeTold_60.2.2.2.2.2.1 (by decide) (fun c20 => ?_) (fun c20 => ?_)
    · have h := if_t ((i2_eq (x := x14) (y := 0) hr19 (by decide)).mp c20) h
      refine lv_aload_n hx hb eX12_volumeTold_77.1 rfl (lv_at hl 0 rfl) ?_
      refine va_get (D := D) (ci := 12) (v := .ref (a 39)) (C := RX12) (T := TX12) (N := 116) hx hb ht inX12 hown hK hP 0 RW_0 rfl 39 (by decide) (ht (.fieldLink RX12 102 "CloneVolumesModel" "many" "[I") fl_X12_102) (fun _ h9 => h9) mF_39 eX12_volumeTold_77.2.1 ?_
      refine lv_iconst (v := 2) hx hb eX12_volumeTold_77.2.2.1 (by decide) ?_
      obtain ⟨y21, ey21, iy21, h⟩ := rdI_e h
      refine ya_iald (i := 2) hx hb hK hP 30 0 RW_30 rfl (by decide) ey21 iy21 eX12_volumeTold_77.2.2.2.1 ?_
      exact J83 (z15, y21, x17, s18) _ _ _ ⟨hP, hS, lv_sub hl [0, 2] rfl, h⟩
    · have h := if_f (mt (i2_eq (x := x14) (y := 0) hr19 (by decide)).mpr c20) h
      refine lv_iload hx hb eX12_volumeTold_60.2.2.2.2.2.2.1 (lv_at hl 3 rfl) ?_
      refine lv_goto (tgt := 83) hx hb eX12_volumeTold_60.2.2.2.2.2.2.2 (by decide) ?_
      exact J83 (z15, x16, x17, s18) _ _ _ ⟨hP, hS, lv_sub hl [0, 2] rfl, h⟩
  refine y_head (pcJ := 50) (σ := Int × Int × Int × MS) (fun u H locs ls => va_P D vwCl (RW D a u.2.2.2) H ∧ va_S A s₀.heap H locs ∧ lv_has ls 6 [(0, .ref (a 200)), (1, .int (i2 u.1)), (3, .long (i8 u.2.1)), (5, .int (i2 u.2.2.1))] ∧ m_x12_volumeTold_J50 u.1 u.2.1 u.2.2.1 u.2.2.2 = some o) (fun u => []) (fun u H locs ls hI => ?_) (fun J50 => ?_)
  · obtain ⟨hP, hS, hl, h⟩ := hI
    obtain ⟨x22, z23, x24, s25⟩ := u
    have hP : va_P D vwCl (RW D a s25) H := hP
    have hl : lv_has ls 6 [(0, .ref (a 200)), (1, .int (i2 x22)), (3, .long (i8 z23)), (5, .int (i2 x24))] := hl
    have h : m_x12_volumeTold_J50 x22 z23 x24 s25 = some o := h
    unfold m_x12_volumeTold_J50 at h
    refine lv_aload_n hx hb eX12_volumeTold_45.2.2.1 rfl (lv_at hl 0 rfl) ?_
    refine va_get (D := D) (ci := 12) (v := .int (i2 (gI s25 5))) (C := RX12) (T := TX12) (N := 116) hx hb ht inX12 hown hK hP 0 RW_0 rfl 5 (by decide) (ht (.fieldLink RX12 266 "CloneVolumesModel" "bad" "I") fl_X12_266) (fun _ h9 => h9) mF_5 eX12_volumeTold_45.2.2.2.1 ?_
    obtain ⟨hr26, h⟩ := rg_e h
    refine lv_if_eq (tgt := 58) hx hb eX12_volumeTold_45.2.2.2.2.1 (by decide) (fun c27 => ?_) (fun c27 => ?_)
    · have h := if_t ((i2_eq (x := (gI s25 5)) (y := 0) hr26 (by decide)).mp c27) h
      refine lv_aload_n hx hb eX12_volumeTold_45.2.2.2.2.2.2.1 rfl (lv_at hl 0 rfl) ?_
      refine lv_iload_n hx hb eX12_volumeTold_45.2.2.2.2.2.2.2 rfl (lv_at hl 1 rfl) ?_
      obtain ⟨hr28, h⟩ := rg_e h
      refine lv_if_eq (tgt := 67) hx hb eX12_volumeTold_60.1 (by decide) (fun c29 => ?_) (fun c29 => ?_)
      · have h := if_t ((i2_eq (x := x22) (y := 0) hr28 (by decide)).mp c29) h
        refine lv_iconst (v := 0) hx hb eX12_volumeTold_60.2.2.2.1 (by decide) ?_
        exact J68 (x22, z23, x24, 0, s25) _ _ _ ⟨hP, hS, lv_sub hl [0, 1, 2, 3] rfl, h⟩
      · have h := if_f (mt (i2_eq (x := x22) (y := 0) hr28 (by decide)).mpr c29) h
        refine lv_iconst (v := 1) hx hb eX12_volumeTold_60.2.1 (by decide) ?_
        refine lv_goto (tgt := 68) hx hb eX12_volumeTold_60.2.2.1 (by decide) ?_
        exact J68 (x22, z23, x24, 1, s25) _ _ _ ⟨hP, hS, lv_sub hl [0, 1, 2, 3] rfl, h⟩
    · have h := if_f (mt (i2_eq (x := (gI s25 5)) (y := 0) hr26 (by decide)).mpr c27) h
      obtain rfl := Option.some.inj h
      exact W.vret hx hb hr (fun t ht hW => ⟨⟨(), rfl, trivial, by rw [ht]; exact hP, va_K.moved hW.alike hK, hDD _⟩, hS.F ht⟩) hS.2.2 eX12_volumeTold_45.2.2.2.2.2.1
  refine y_head (pcJ := 24) (σ := Int × MS) (fun u H locs ls => va_P D vwCl (RW D a u.2) H ∧ va_S A s₀.heap H locs ∧ lv_has ls 6 [(0, .ref (a 200)), (1, .int (i2 u.1))] ∧ m_x12_volumeTold_J24 u.1 u.2 = some o) (fun u => []) (fun u H locs ls hI => ?_) (fun J24 => ?_)
  · obtain ⟨hP, hS, hl, h⟩ := hI
    obtain ⟨x30, s31⟩ := u
    have hP : va_P D vwCl (RW D a s31) H := hP
    have hl : lv_has ls 6 [(0, .ref (a 200)), (1, .int (i2 x30))] := hl
    have h : m_x12_volumeTold_J24 x30 s31 = some o := h
    unfold m_x12_volumeTold_J24 at h
    refine lv_aload_n hx hb eX12_volumeTold_18.2.2.2.2.1 rfl (lv_at hl 0 rfl) ?_
    obtain ⟨⟨rl34, s33⟩, hc32, h⟩ := bn_e h
    refine ywVl (r0 := i8 rl34) (As := []) (rest := []) (C := RX12) (n := 0) (ws' := RW D a s33) ⟨hx, hb, hml, hown, ht⟩ (k_x12_newName l D a _ _ _ hc32) (zgV ml_X12_343 im_X12_newName se_X12_newName in_X12 co_X12_newName) rfl rfl (by decide +kernel) ⟨Nat.le_of_ble_eq_true rfl, Nat.le_of_ble_eq_true rfl⟩ hN hK hP (hDD _) hS hA 0 RW_0 rfl rfl rfl hl.1 rfl (Nat.le_of_ble_eq_true rfl) eX12_volumeTold_18.2.2.2.2.2.1 ⟨Nat.le_of_ble_eq_true rfl, Nat.le_of_ble_eq_true rfl⟩ (fun H locs hP hS => ?_)
    refine lv_lstore_n (lv' := [(3, .long (i8 rl34)), (0, .ref (a 200)), (1, .int (i2 x30))]) hx hb eX12_volumeTold_18.2.2.2.2.2.2.1 rfl hl (by decide) rfl (fun ls hl => ?_)
    refine lv_iconst (v := (-1)) hx hb eX12_volumeTold_18.2.2.2.2.2.2.2 (by decide) ?_
    refine lv_istore (lv' := [(5, .int (-1)), (3, .long (i8 rl34)), (0, .ref (a 200)), (1, .int (i2 x30))]) hx hb eX12_volumeTold_30.1 hl (by decide) rfl (fun ls hl => ?_)
    refine lv_iload_n hx hb eX12_volumeTold_30.2.1 rfl (lv_at hl 3 rfl) ?_
    obtain ⟨hr35, h⟩ := rg_e h
    refine lv_if_eq (tgt := 50) hx hb eX12_volumeTold_30.2.2.1 (by decide) (fun c36 => ?_) (fun c36 => ?_)
    · have h := if_t ((i2_eq (x := x30) (y := 0) hr35 (by decide)).mp c36) h
      exact J50 (x30, rl34, (-1), s33) _ _ _ ⟨hP, hS, lv_sub hl [2, 3, 1, 0] rfl, h⟩
    · have h := if_f (mt (i2_eq (x := x30) (y := 0) hr35 (by decide)).mpr c36) h
      refine lv_aload_n hx hb eX12_volumeTold_30.2.2.2.1 rfl (lv_at hl 2 rfl) ?_
      refine lv_aload_n hx hb eX12_volumeTold_30.2.2.2.2.1 rfl (lv_at hl 2 rfl) ?_
      refine va_get (D := D) (ci := 12) (v := .ref (a 15)) (C := RX12) (T := TX12) (N := 116) hx hb ht inX12 hown hK hP 0 RW_0 rfl 15 (by decide) (ht (.fieldLink RX12 33 "CloneVolumesModel" "ofWord" "[C") fl_X12_33) (fun _ h9 => h9) mF_15 eX12_volumeTold_30.2.2.2.2.2.1 ?_
      obtain ⟨s38, hc37, h⟩ := bn_e h
      refine ywVv (As := [.ref (a 15)]) (rest := []) (C := RX12) (n := 1) (ws' := RW D a s38) ⟨hx, hb, hml, hown, ht⟩ (k_x12_asks l D a 7 (a 15) 15 2 (fun _ => RW_7) (by decide) _ _ _ hc37) (zgV ml_X12_327 im_X12_asks se_X12_asks in_X12 co_X12_asks) rfl rfl (by decide +kernel) ⟨Nat.le_of_ble_eq_true rfl, Nat.le_of_ble_eq_true rfl⟩ hN hK hP (hDD _) hS hA 0 RW_0 rfl rfl rfl hl.1 rfl (Nat.le_of_ble_eq_true rfl) eX12_volumeTold_30.2.2.2.2.2.2.1 ⟨Nat.le_of_ble_eq_true rfl, Nat.le_of_ble_eq_true rfl⟩ (fun H locs hP hS => ?_)
      refine lv_aload_n hx hb eX12_volumeTold_30.2.2.2.2.2.2.2 rfl (lv_at hl 2 rfl) ?_
      obtain ⟨⟨r41, s40⟩, hc39, h⟩ := bn_e h
      refine ywV (r0 := i2 r41) (As := []) (rest := []) (C := RX12) (n := 0) (ws' := RW D a s40) ⟨hx, hb, hml, hown, ht⟩ (k_x12_volumeNamed l D a _ _ _ hc39) (zgV ml_X12_346 im_X12_volumeNamed se_X12_volumeNamed in_X12 co_X12_volumeNamed) rfl rfl (by decide +kernel) ⟨Nat.le_of_ble_eq_true rfl, Nat.le_of_ble_eq_true rfl⟩ hN hK hP (hDD _) hS hA 0 RW_0 rfl rfl rfl hl.1 rfl (Nat.le_of_ble_eq_true rfl) eX12_volumeTold_45.1 ⟨Nat.le_of_ble_eq_true rfl, Nat.le_of_ble_eq_true rfl⟩ (fun H locs hP hS => ?_)
      refine lv_istore (lv' := [(5, .int (i2 r41)), (3, .long (i8 rl34)), (0, .ref (a 200)), (1, .int (i2 x30))]) hx hb eX12_volumeTold_45.2.1 hl (by decide) rfl (fun ls hl => ?_)
      exact J50 (x30, rl34, r41, s40) _ _ _ ⟨hP, hS, lv_sub hl [2, 3, 1, 0] rfl, h⟩
  refine lv_aload_n hx hb eX12_volumeNamed_43.2.2.2.2.2.2.2 rfl (lv_at hl 0 rfl) ?_
  refine va_get (D := D) (ci := 12) (v := .int (i2 (gI s 5))) (C := RX12) (T := TX12) (N := 116) hx hb ht inX12 hown hK hP 0 RW_0 rfl 5 (by decide) (ht (.fieldLink RX12 266 "CloneVolumesModel" "bad" "I") fl_X12_266) (fun _ h9 => h9) mF_5 eX12_volumeTold_1.1 ?_
  obtain ⟨hr42, h⟩ := rg_e h
  refine lv_if_ne (tgt := 24) hx hb eX12_volumeTold_1.2.1 (by decide) (fun c43 => ?_) (fun c43 => ?_)
  · have h := if_f (mt (i2_eq (x := (gI s 5)) (y := 0) hr42 (by decide)).mpr c43) h
    exact J24 (p0, s) _ _ _ ⟨hP, hS, lv_sub hl [0, 1] rfl, h⟩
  · have h := if_t ((i2_eq (x := (gI s 5)) (y := 0) hr42 (by decide)).mp c43) h
    refine lv_aload_n hx hb eX12_volumeTold_1.2.2.1 rfl (lv_at hl 0 rfl) ?_
    refine va_get (D := D) (ci := 12) (v := .ref (a 39)) (C := RX12) (T := TX12) (N := 116) hx hb ht inX12 hown hK hP 0 RW_0 rfl 39 (by decide) (ht (.fieldLink RX12 102 "CloneVolumesModel" "many" "[I") fl_X12_102) (fun _ h9 => h9) mF_39 eX12_volumeTold_1.2.2.2.1 ?_
    refine lv_iconst (v := 2) hx hb eX12_volumeTold_1.2.2.2.2.1 (by decide) ?_
    obtain ⟨y44, ey44, iy44, h⟩ := rdI_e h
    refine ya_iald (i := 2) hx hb hK hP 30 0 RW_30 rfl (by decide) ey44 iy44 eX12_volumeTold_1.2.2.2.2.2.1 ?_
    refine lv_bipush (v := 8) hx hb eX12_volumeTold_1.2.2.2.2.2.2.1 (by decide) ?_
    obtain ⟨hr45, h⟩ := rg_e h
    refine lv_icmp_ne (tgt := 24) hx hb eX12_volumeTold_1.2.2.2.2.2.2.2 (by decide) (fun c46 => ?_) (fun c46 => ?_)
    · have h := if_f (mt (i2_eq (x := y44) (y := 8) hr45 (by decide)).mpr c46) h
      exact J24 (p0, s) _ _ _ ⟨hP, hS, lv_sub hl [0, 1] rfl, h⟩
    · have h := if_t ((i2_eq (x := y44) (y := 8) hr45 (by decide)).mp c46) h
      refine lv_aload_n hx hb eX12_volumeTold_18.1 rfl (lv_at hl 0 rfl) ?_
      refine lv_iconst (v := 5) hx hb eX12_volumeTold_18.2.1 (by decide) ?_
      refine lv_iload_n hx hb eX12_volumeTold_18.2.2.1 rfl (lv_at hl 2 rfl) ?_
      obtain ⟨s48, hc47, h⟩ := bn_e h
      refine ywVv (As := [.int 5, .int (i2 p1)]) (rest := []) (C := RX12) (n := 2) (ws' := RW D a s48) ⟨hx, hb, hml, hown, ht⟩ (k_x12_fail l D a 5 p1 _ _ _ hc47) (zgV ml_X12_296 im_X12_fail se_X12_fail in_X12 co_X12_fail) rfl rfl (by decide +kernel) ⟨Nat.le_of_ble_eq_true rfl, Nat.le_of_ble_eq_true rfl⟩ hN hK hP (hDD _) hS hA 0 RW_0 rfl rfl rfl hl.1 rfl (Nat.le_of_ble_eq_true rfl) eX12_volumeTold_18.2.2.2.1 ⟨Nat.le_of_ble_eq_true rfl, Nat.le_of_ble_eq_true rfl⟩ (fun H locs hP hS => ?_)
      exact J24 (p0, s48) _ _ _ ⟨hP, hS, lv_sub hl [0, 1] rfl, h⟩
set_option maxHeartbeats 4000000 in
set_option maxRecDepth 100000 in
theorem k_x12_putTold (l : Launch) (D : va_G) (a : Nat → Nat) (sz : Nat) (s : MS) (o : MS) (h : m_x12_putTold s = some o) : yWv l yX12_putTold cX12_putTold 3 none { frames := 5, cells := 0, slots := 0, locals := 300 } D sz [.ref (a 200)] (RW D a s) (RW D a o) := by
  refine Met.ofW (cc := cX12_putTold) (maxL := 3) (ret := none) (by decide) rfl ?_
  intro p e s₀ m args below meth c s₁ B hml hv
  obtain ⟨rfl, ⟨hsz, hP, hK, hD0⟩, hN⟩ := hv
  have hx := B.exec
  have hb := B.bytes
  have hr := B.returns
  have hts := atoms_spec (ws := wz yX12_putTold cX12_putTold 3 none) B.pre
  have ht : ∀ w ∈ lw_gd, w.before _ s₀ = true := fun w h => hts w (List.mem_cons_of_mem _ h)
  have hown : s₀.vm.findClass RX12 = some m.cls := findClass_of_methodNamed B.named
  have hlocks := B.notSynchronized
  subst hsz
  have hD := hD0.self (sz := s₀.heap.size)
  generalize hAe : va_A (RW D a s) s₀.heap.size = A at hD ⊢
  have hA : ∀ q : Nat, s₀.heap.size ≤ q → A q := fun q h => by rw [← hAe]; exact Or.inr h
  have hS : va_S A s₀.heap s₀.heap [] := va_S.rf
  have hDD : ∀ t : MS, va_D A (RW D a t) := fun t => RW_D t hD
  have hl := lv_entry ([.ref (a 200)]) (n := 3) (Nat.le_of_ble_eq_true rfl)
  rw [lg_entry_eq]
  generalize (lg_sl ([.ref (a 200)]) ++ List.replicate (3 - (lg_sl ([.ref (a 200)])).length) Slot.unset).toArray = ls at hl ⊢
  have hl : lv_has ls 3 [(0, .ref (a 200))] := hl
  unfold m_x12_putTold at h
  refine lv_aload_n hx hb eX12_newName_38.2.2.2.2.2.2.1 rfl (lv_at hl 0 rfl) ?_
  obtain ⟨⟨r3, s2⟩, hc1, h⟩ := bn_e h
  refine ywV (r0 := i2 r3) (As := []) (rest := []) (C := RX12) (n := 0) (ws' := RW D a s2) ⟨hx, hb, hml, hown, ht⟩ (k_x12_volumeNamed l D a _ _ _ hc1) (zgV ml_X12_346 im_X12_volumeNamed se_X12_volumeNamed in_X12 co_X12_volumeNamed) rfl rfl (by decide +kernel) ⟨Nat.le_of_ble_eq_true rfl, Nat.le_of_ble_eq_true rfl⟩ hN hK hP (hDD _) hS hA 0 RW_0 rfl rfl rfl hl.1 rfl (Nat.le_of_ble_eq_true rfl) eX12_newName_38.2.2.2.2.2.2.2 ⟨Nat.le_of_ble_eq_true rfl, Nat.le_of_ble_eq_true rfl⟩ (fun H locs hP hS => ?_)
  refine lv_istore_n (lv' := [(1, .int (i2 r3)), (0, .ref (a 200))]) hx hb eX12_putTold_4.1 rfl hl (by decide) rfl (fun ls hl => ?_)
  refine lv_aload_n hx hb eX12_putTold_4.2.1 rfl (lv_at hl 1 rfl) ?_
  refine lv_iconst (v := 0) hx hb eX12_putTold_4.2.2.1 (by decide) ?_
  refine lv_sipush (v := 999) hx hb eX12_putTold_4.2.2.2.1 (by decide) ?_
  obtain ⟨⟨r6, s5⟩, hc4, h⟩ := bn_e h
  refine ywV (r0 := i2 r6) (As := [.int 0, .int 999]) (rest := []) (C := RX12) (n := 2) (ws' := RW D a s5) ⟨hx, hb, hml, hown, ht⟩ (k_x12_number l D a 0 999 _ _ _ hc4) (zgV ml_X12_331 im_X12_number se_X12_number in_X12 co_X12_number) rfl rfl (by decide +kernel) ⟨Nat.le_of_ble_eq_true rfl, Nat.le_of_ble_eq_true rfl⟩ hN hK hP (hDD _) hS hA 0 RW_0 rfl rfl rfl hl.1 rfl (Nat.le_of_ble_eq_true rfl) eX12_putTold_4.2.2.2.2.1 ⟨Nat.le_of_ble_eq_true rfl, Nat.le_of_ble_eq_true rfl⟩ (fun H locs hP hS => ?_)
  refine lv_istore_n (lv' := [(2, .int (i2 r6)), (1, .int (i2 r3)), (0, .ref (a 200))]) hx hb eX12_putTold_4.2.2.2.2.2.1 rfl hl (by decide) rfl (fun ls hl => ?_)
  refine lv_aload_n hx hb eX12_putTold_4.2.2.2.2.2.2.1 rfl (lv_at hl 2 rfl) ?_
  refine lv_iconst (v := 2) hx hb eX12_putTold_4.2.2.2.2.2.2.2 (by decide) ?_
  refine lv_iload_n hx hb eX12_putTold_16.1 rfl (lv_at hl 1 rfl) ?_
  refine lv_iload_n hx hb eX12_putTold_16.2.1 rfl (lv_at hl 0 rfl) ?_
  refine lv_aload_n hx hb eX12_putTold_16.2.2.1 rfl (lv_at hl 2 rfl) ?_
  refine lv_iconst (v := 0) hx hb eX12_putTold_16.2.2.2.1 (by decide) ?_
  refine lv_sipush (v := 999) hx hb eX12_putTold_16.2.2.2.2.1 (by decide) ?_
  obtain ⟨⟨r9, s8⟩, hc7, h⟩ := bn_e h
  refine ywV (r0 := i2 r9) (As := [.int 0, .int 999]) (rest := [.int (i2 r6), .int (i2 r3), .int 2, .ref (a 200)]) (C := RX12) (n := 2) (ws' := RW D a s8) ⟨hx, hb, hml, hown, ht⟩ (k_x12_number l D a 0 999 _ _ _ hc7) (zgV ml_X12_331 im_X12_number se_X12_number in_X12 co_X12_number) rfl rfl (by decide +kernel) ⟨Nat.le_of_ble_eq_true rfl, Nat.le_of_ble_eq_true rfl⟩ hN hK hP (hDD _) hS hA 0 RW_0 rfl rfl rfl hl.1 rfl (Nat.le_of_ble_eq_true rfl) eX12_putTold_16.2.2.2.2.2.1 ⟨Nat.le_of_ble_eq_true rfl, Nat.le_of_ble_eq_true rfl⟩ (fun H locs hP hS => ?_)
  obtain ⟨s11, hc10, h⟩ := bn_e h
  refine ywVv (As := [.int 2, .int (i2 r3), .int (i2 r6), .int (i2 r9)]) (rest := []) (C := RX12) (n := 4) (ws' := RW D a s11) ⟨hx, hb, hml, hown, ht⟩ (k_x12_actTold l D a 2 r3 r6 r9 _ _ _ hc10) (zgV ml_X12_349 im_X12_actTold se_X12_actTold in_X12 co_X12_actTold) rfl rfl (by decide +kernel) ⟨Nat.le_of_ble_eq_true rfl, Nat.le_of_ble_eq_true rfl⟩ hN hK hP (hDD _) hS hA 0 RW_0 rfl rfl rfl hl.1 rfl (Nat.le_of_ble_eq_true rfl) eX12_putTold_16.2.2.2.2.2.2.1 ⟨Nat.le_of_ble_eq_true rfl, Nat.le_of_ble_eq_true rfl⟩ (fun H locs hP hS => ?_)
  obtain rfl := Option.some.inj h
  exact W.vret hx hb hr (fun t ht hW => ⟨⟨(), rfl, trivial, by rw [ht]; exact hP, va_K.moved hW.alike hK, hDD _⟩, hS.F ht⟩) hS.2.2 eX12_putTold_16.2.2.2.2.2.2.2
set_option maxHeartbeats 4000000 in
set_option maxRecDepth 100000 in
theorem k_x12_removeTold (l : Launch) (D : va_G) (a : Nat → Nat) (sz : Nat) (s : MS) (o : MS) (h : m_x12_removeTold s = some o) : yWv l yX12_removeTold cX12_removeTold 2 none { frames := 5, cells := 0, slots := 0, locals := 300 } D sz [.ref (a 200)] (RW D a s) (RW D a o) := by
  refine Met.ofW (cc := cX12_removeTold) (maxL := 2) (ret := none) (by decide) rfl ?_
  intro p e s₀ m args below meth c s₁ B hml hv
  obtain ⟨rfl, ⟨hsz, hP, hK, hD0⟩, hN⟩ := hv
  have hx := B.exec
  have hb := B.bytes
  have hr := B.returns
  have hts := atoms_spec (ws := wz yX12_removeTold cX12_removeTold 2 none) B.pre
  have ht : ∀ w ∈ lw_gd, w.before _ s₀ = true := fun w h => hts w (List.mem_cons_of_mem _ h)
  have hown : s₀.vm.findClass RX12 = some m.cls := findClass_of_methodNamed B.named
  have hlocks := B.notSynchronized
  subst hsz
  have hD := hD0.self (sz := s₀.heap.size)
  generalize hAe : va_A (RW D a s) s₀.heap.size = A at hD ⊢
  have hA : ∀ q : Nat, s₀.heap.size ≤ q → A q := fun q h => by rw [← hAe]; exact Or.inr h
  have hS : va_S A s₀.heap s₀.heap [] := va_S.rf
  have hDD : ∀ t : MS, va_D A (RW D a t) := fun t => RW_D t hD
  have hl := lv_entry ([.ref (a 200)]) (n := 2) (Nat.le_of_ble_eq_true rfl)
  rw [lg_entry_eq]
  generalize (lg_sl ([.ref (a 200)]) ++ List.replicate (2 - (lg_sl ([.ref (a 200)])).length) Slot.unset).toArray = ls at hl ⊢
  have hl : lv_has ls 2 [(0, .ref (a 200))] := hl
  unfold m_x12_removeTold at h
  refine lv_aload_n hx hb eX12_qWordHere_125.2.2.2.2.2.2.1 rfl (lv_at hl 0 rfl) ?_
  obtain ⟨⟨r3, s2⟩, hc1, h⟩ := bn_e h
  refine ywV (r0 := i2 r3) (As := []) (rest := []) (C := RX12) (n := 0) (ws' := RW D a s2) ⟨hx, hb, hml, hown, ht⟩ (k_x12_volumeNamed l D a _ _ _ hc1) (zgV ml_X12_346 im_X12_volumeNamed se_X12_volumeNamed in_X12 co_X12_volumeNamed) rfl rfl (by decide +kernel) ⟨Nat.le_of_ble_eq_true rfl, Nat.le_of_ble_eq_true rfl⟩ hN hK hP (hDD _) hS hA 0 RW_0 rfl rfl rfl hl.1 rfl (Nat.le_of_ble_eq_true rfl) eX12_qWordHere_125.2.2.2.2.2.2.2 ⟨Nat.le_of_ble_eq_true rfl, Nat.le_of_ble_eq_true rfl⟩ (fun H locs hP hS => ?_)
  refine lv_istore_n (lv' := [(1, .int (i2 r3)), (0, .ref (a 200))]) hx hb eX12_removeTold_4.1 rfl hl (by decide) rfl (fun ls hl => ?_)
  refine lv_aload_n hx hb eX12_removeTold_4.2.1 rfl (lv_at hl 1 rfl) ?_
  refine lv_iconst (v := 3) hx hb eX12_removeTold_4.2.2.1 (by decide) ?_
  refine lv_iload_n hx hb eX12_removeTold_4.2.2.2.1 rfl (lv_at hl 0 rfl) ?_
  refine lv_aload_n hx hb eX12_removeTold_4.2.2.2.2.1 rfl (lv_at hl 1 rfl) ?_
  refine lv_iconst (v := 0) hx hb eX12_removeTold_4.2.2.2.2.2.1 (by decide) ?_
  refine lv_sipush (v := 999) hx hb eX12_removeTold_4.2.2.2.2.2.2.1 (by decide) ?_
  obtain ⟨⟨r6, s5⟩, hc4, h⟩ := bn_e h
  refine ywV (r0 := i2 r6) (As := [.int 0, .int 999]) (rest := [.int (i2 r3), .int 3, .ref (a 200)]) (C := RX12) (n := 2) (ws' := RW D a s5) ⟨hx, hb, hml, hown, ht⟩ (k_x12_number l D a 0 999 _ _ _ hc4) (zgV ml_X12_331 im_X12_number se_X12_number in_X12 co_X12_number) rfl rfl (by decide +kernel) ⟨Nat.le_of_ble_eq_true rfl, Nat.le_of_ble_eq_true rfl⟩ hN hK hP (hDD _) hS hA 0 RW_0 rfl rfl rfl hl.1 rfl (Nat.le_of_ble_eq_true rfl) eX12_removeTold_4.2.2.2.2.2.2.2 ⟨Nat.le_of_ble_eq_true rfl, Nat.le_of_ble_eq_true rfl⟩ (fun H locs hP hS => ?_)
  refine lv_iconst (v := 0) hx hb eX12_removeTold_16.1 (by decide) ?_
  obtain ⟨s8, hc7, h⟩ := bn_e h
  refine ywVv (As := [.int 3, .int (i2 r3), .int (i2 r6), .int 0]) (rest := []) (C := RX12) (n := 4) (ws' := RW D a s8) ⟨hx, hb, hml, hown, ht⟩ (k_x12_actTold l D a 3 r3 r6 0 _ _ _ hc7) (zgV ml_X12_349 im_X12_actTold se_X12_actTold in_X12 co_X12_actTold) rfl rfl (by decide +kernel) ⟨Nat.le_of_ble_eq_true rfl, Nat.le_of_ble_eq_true rfl⟩ hN hK hP (hDD _) hS hA 0 RW_0 rfl rfl rfl hl.1 rfl (Nat.le_of_ble_eq_true rfl) eX12_removeTold_16.2.1 ⟨Nat.le_of_ble_eq_true rfl, Nat.le_of_ble_eq_true rfl⟩ (fun H locs hP hS => ?_)
  obtain rfl := Option.some.inj h
  exact W.vret hx hb hr (fun t ht hW => ⟨⟨(), rfl, trivial, by rw [ht]; exact hP, va_K.moved hW.alike hK, hDD _⟩, hS.F ht⟩) hS.2.2 eX12_removeTold_16.2.2.1
set_option maxHeartbeats 4000000 in
set_option maxRecDepth 100000 in
theorem k_x12_qCode (l : Launch) (D : va_G) (a : Nat → Nat) (p0 : Int) (sz : Nat) (s : MS) (o : MS) (h : m_x12_qCode p0 s = some o) : yWv l yX12_qCode cX12_qCode 2 none { frames := 0, cells := 0, slots := 0, locals := 0 } D sz [.ref (a 200), .int (i2 p0)] (RW D a s) (RW D a o) := by
  refine Met.ofW (cc := cX12_qCode) (maxL := 2) (ret := none) (by decide) rfl ?_
  intro p e s₀ m args below meth c s₁ B hml hv
  obtain ⟨rfl, ⟨hsz, hP, hK, hD0⟩, hN⟩ := hv
  have hx := B.exec
  have hb := B.bytes
  have hr := B.returns
  have hts := atoms_spec (ws := wz yX12_qCode cX12_qCode 2 none) B.pre
  have ht : ∀ w ∈ lw_gd, w.before _ s₀ = true := fun w h => hts w (List.mem_cons_of_mem _ h)
  have hown : s₀.vm.findClass RX12 = some m.cls := findClass_of_methodNamed B.named
  have hlocks := B.notSynchronized
  subst hsz
  have hD := hD0.self (sz := s₀.heap.size)
  generalize hAe : va_A (RW D a s) s₀.heap.size = A at hD ⊢
  have hA : ∀ q : Nat, s₀.heap.size ≤ q → A q := fun q h => by rw [← hAe]; exact Or.inr h
  have hS : va_S A s₀.heap s₀.heap [] := va_S.rf
  have hDD : ∀ t : MS, va_D A (RW D a t) := fun t => RW_D t hD
  have hl := lv_entry ([.ref (a 200), .int (i2 p0)]) (n := 2) (Nat.le_of_ble_eq_true rfl)
  rw [lg_entry_eq]
  generalize (lg_sl ([.ref (a 200), .int (i2 p0)]) ++ List.replicate (2 - (lg_sl ([.ref (a 200), .int (i2 p0)])).length) Slot.unset).toArray = ls at hl ⊢
  have hl : lv_has ls 2 [(0, .ref (a 200)), (1, .int (i2 p0))] := hl
  unfold m_x12_qCode at h
  refine lv_aload_n hx hb eX12_qCode_0.1 rfl (lv_at hl 0 rfl) ?_
  refine va_get (D := D) (ci := 12) (v := .ref (a 101)) (C := RX12) (T := TX12) (N := 116) hx hb ht inX12 hown hK hP 0 RW_0 rfl 101 (by decide) (ht (.fieldLink RX12 243 "CloneVolumesModel" "qCodes" "[I") fl_X12_243) (fun _ h9 => h9) mF_101 eX12_qCode_0.2.1 ?_
  refine lv_aload_n hx hb eX12_qCode_0.2.2.1 rfl (lv_at hl 0 rfl) ?_
  refine va_get (D := D) (ci := 12) (v := .int (i2 (gI s 102))) (C := RX12) (T := TX12) (N := 116) hx hb ht inX12 hown hK hP 0 RW_0 rfl 102 (by decide) (ht (.fieldLink RX12 353 "CloneVolumesModel" "qCoded" "I") fl_X12_353) (fun _ h9 => h9) mF_102 eX12_qCode_0.2.2.2.1 ?_
  refine lv_iload_n hx hb eX12_qCode_0.2.2.2.2.1 rfl (lv_at hl 1 rfl) ?_
  obtain ⟨hi1, h⟩ := inb_e h
  refine ya_iast (i := (gI s 102)) (x := p0) hx hb hK hP (hDD _) hS 75 0 RW_75 rfl (by decide) hi1 eX12_qCode_0.2.2.2.2.2.1 (RW_w75 _) (fun H locs hP hS => ?_)
  obtain ⟨s2, hs2, h⟩ := st_e h
  rw [hs2] at hP
  refine lv_aload_n hx hb eX12_qCode_0.2.2.2.2.2.2.1 rfl (lv_at hl 0 rfl) ?_
  refine lv_dup hx hb eX12_qCode_0.2.2.2.2.2.2.2 rfl ?_
  refine va_get (D := D) (ci := 12) (v := .int (i2 (gI s2 102))) (C := RX12) (T := TX12) (N := 116) hx hb ht inX12 hown hK hP 0 RW_0 rfl 102 (by decide) (ht (.fieldLink RX12 353 "CloneVolumesModel" "qCoded" "I") fl_X12_353) (fun _ h9 => h9) mF_102 eX12_qCode_12.1 ?_
  refine lv_iconst (v := 1) hx hb eX12_qCode_12.2.1 (by decide) ?_
  refine lv_iadd hx hb eX12_qCode_12.2.2.1 ?_
  refine z_topi (y := i2 ((gI s2 102) + 1)) (i2_add (gI s2 102) 1) ?_
  refine ya_put (D := D) (ci := 12) (v := .int (i2 ((gI s2 102) + 1))) (ty := .int) (C := RX12) (T := TX12) (N := 116) hx hb ht inX12 tyX12 tyX12_ok nmX12 hown hK hP (hDD _) hS 0 RW_0 rfl 102 (by decide) (ht (.fieldLink RX12 353 "CloneVolumesModel" "qCoded" "I") fl_X12_353) (fun _ h9 => h9) rfl (by decide +kernel) rfl rfl (by rw [mF_len]; decide) eX12_qCode_12.2.2.2.1 (RW_f102 ((gI s2 102) + 1)) (fun H locs hP hS => ?_)
  obtain ⟨s3, hs3, h⟩ := st_e h
  rw [hs3] at hP
  obtain rfl := Option.some.inj h
  exact W.vret hx hb hr (fun t ht hW => ⟨⟨(), rfl, trivial, by rw [ht]; exact hP, va_K.moved hW.alike hK, hDD _⟩, hS.F ht⟩) hS.2.2 eX12_qCode_12.2.2.2.2.1
set_option maxHeartbeats 4000000 in
set_option maxRecDepth 100000 in
theorem k_x12_qDrops (l : Launch) (D : va_G) (a : Nat → Nat) (sz : Nat) (s : MS) (o : MS) (h : m_x12_qDrops s = some o) : yWv l yX12_qDrops cX12_qDrops 1 none { frames := 1, cells := 0, slots := 0, locals := 60 } D sz [.ref (a 200)] (RW D a s) (RW D a o) := by
  refine Met.ofW (cc := cX12_qDrops) (maxL := 1) (ret := none) (by decide) rfl ?_
  intro p e s₀ m args below meth c s₁ B hml hv
  obtain ⟨rfl, ⟨hsz, hP, hK, hD0⟩, hN⟩ := hv
  have hx := B.exec
  have hb := B.bytes
  have hr := B.returns
  have hts := atoms_spec (ws := wz yX12_qDrops cX12_qDrops 1 none) B.pre
  have ht : ∀ w ∈ lw_gd, w.before _ s₀ = true := fun w h => hts w (List.mem_cons_of_mem _ h)
  have hown : s₀.vm.findClass RX12 = some m.cls := findClass_of_methodNamed B.named
  have hlocks := B.notSynchronized
  subst hsz
  have hD := hD0.self (sz := s₀.heap.size)
  generalize hAe : va_A (RW D a s) s₀.heap.size = A at hD ⊢
  have hA : ∀ q : Nat, s₀.heap.size ≤ q → A q := fun q h => by rw [← hAe]; exact Or.inr h
  have hS : va_S A s₀.heap s₀.heap [] := va_S.rf
  have hDD : ∀ t : MS, va_D A (RW D a t) := fun t => RW_D t hD
  have hl := lv_entry ([.ref (a 200)]) (n := 1) (Nat.le_of_ble_eq_true rfl)
  rw [lg_entry_eq]
  generalize (lg_sl ([.ref (a 200)]) ++ List.replicate (1 - (lg_sl ([.ref (a 200)])).length) Slot.unset).toArray = ls at hl ⊢
  have hl : lv_has ls 1 [(0, .ref (a 200))] := hl
  unfold m_x12_qDrops at h
  refine lv_aload_n hx hb eX12_qCode_12.2.2.2.2.2.1 rfl (lv_at hl 0 rfl) ?_
  refine lv_dup hx hb eX12_qCode_12.2.2.2.2.2.2.1 rfl ?_
  refine va_get (D := D) (ci := 12) (v := .int (i2 (gI s 104))) (C := RX12) (T := TX12) (N := 116) hx hb ht inX12 hown hK hP 0 RW_0 rfl 104 (by decide) (ht (.fieldLink RX12 356 "CloneVolumesModel" "qWaits" "I") fl_X12_356) (fun _ h9 => h9) mF_104 eX12_qCode_12.2.2.2.2.2.2.2 ?_
  refine lv_iconst (v := 1) hx hb eX12_qDrops_5.1 (by decide) ?_
  refine lv_isub hx hb eX12_qDrops_5.2.1 ?_
  refine z_topi (y := i2 ((gI s 104) - 1)) (i2_sub (gI s 104) 1) ?_
  refine ya_put (D := D) (ci := 12) (v := .int (i2 ((gI s 104) - 1))) (ty := .int) (C := RX12) (T := TX12) (N := 116) hx hb ht inX12 tyX12 tyX12_ok nmX12 hown hK hP (hDD _) hS 0 RW_0 rfl 104 (by decide) (ht (.fieldLink RX12 356 "CloneVolumesModel" "qWaits" "I") fl_X12_356) (fun _ h9 => h9) rfl (by decide +kernel) rfl rfl (by rw [mF_len]; decide) eX12_qDrops_5.2.2.1 (RW_f104 ((gI s 104) - 1)) (fun H locs hP hS => ?_)
  obtain ⟨s1, hs1, h⟩ := st_e h
  rw [hs1] at hP
  refine lv_aload_n hx hb eX12_qDrops_5.2.2.2.1 rfl (lv_at hl 0 rfl) ?_
  refine lv_aload_n hx hb eX12_qDrops_5.2.2.2.2.1 rfl (lv_at hl 0 rfl) ?_
  refine va_get (D := D) (ci := 12) (v := .ref (a 103)) (C := RX12) (T := TX12) (N := 116) hx hb ht inX12 hown hK hP 0 RW_0 rfl 103 (by decide) (ht (.fieldLink RX12 246 "CloneVolumesModel" "qWait" "[I") fl_X12_246) (fun _ h9 => h9) mF_103 eX12_qDrops_5.2.2.2.2.2.1 ?_
  refine lv_aload_n hx hb eX12_qDrops_5.2.2.2.2.2.2.1 rfl (lv_at hl 0 rfl) ?_
  refine va_get (D := D) (ci := 12) (v := .int (i2 (gI s1 104))) (C := RX12) (T := TX12) (N := 116) hx hb ht inX12 hown hK hP 0 RW_0 rfl 104 (by decide) (ht (.fieldLink RX12 356 "CloneVolumesModel" "qWaits" "I") fl_X12_356) (fun _ h9 => h9) mF_104 eX12_qDrops_5.2.2.2.2.2.2.2 ?_
  obtain ⟨y2, ey2, iy2, h⟩ := rdI_e h
  refine ya_iald (i := (gI s1 104)) hx hb hK hP 76 0 RW_76 rfl (by decide) ey2 iy2 eX12_qDrops_19.1 ?_
  obtain ⟨s4, hc3, h⟩ := bn_e h
  refine ywVv (As := [.int (i2 y2)]) (rest := []) (C := RX12) (n := 1) (ws' := RW D a s4) ⟨hx, hb, hml, hown, ht⟩ (k_x12_qCode l D a y2 _ _ _ hc3) (zgV ml_X12_693 im_X12_qCode se_X12_qCode in_X12 co_X12_qCode) rfl rfl (by decide +kernel) ⟨Nat.le_of_ble_eq_true rfl, Nat.le_of_ble_eq_true rfl⟩ hN hK hP (hDD _) hS hA 0 RW_0 rfl rfl rfl hl.1 rfl (Nat.le_of_ble_eq_true rfl) eX12_qDrops_19.2.1 ⟨Nat.le_of_ble_eq_true rfl, Nat.le_of_ble_eq_true rfl⟩ (fun H locs hP hS => ?_)
  obtain rfl := Option.some.inj h
  exact W.vret hx hb hr (fun t ht hW => ⟨⟨(), rfl, trivial, by rw [ht]; exact hP, va_K.moved hW.alike hK, hDD _⟩, hS.F ht⟩) hS.2.2 eX12_qDrops_19.2.2.1
set_option maxHeartbeats 4000000 in
set_option maxRecDepth 100000 in
theorem k_x12_qEndsPart (l : Launch) (D : va_G) (a : Nat → Nat) (sz : Nat) (s : MS) (o : MS) (h : m_x12_qEndsPart s = some o) : yWv l yX12_qEndsPart cX12_qEndsPart 1 none { frames := 2, cells := 0, slots := 0, locals := 120 } D sz [.ref (a 200)] (RW D a s) (RW D a o) := by
  refine Met.ofW (cc := cX12_qEndsPart) (maxL := 1) (ret := none) (by decide) rfl ?_
  intro p e s₀ m args below meth c s₁ B hml hv
  obtain ⟨rfl, ⟨hsz, hP, hK, hD0⟩, hN⟩ := hv
  have hx := B.exec
  have hb := B.bytes
  have hr := B.returns
  have hts := atoms_spec (ws := wz yX12_qEndsPart cX12_qEndsPart 1 none) B.pre
  have ht : ∀ w ∈ lw_gd, w.before _ s₀ = true := fun w h => hts w (List.mem_cons_of_mem _ h)
  have hown : s₀.vm.findClass RX12 = some m.cls := findClass_of_methodNamed B.named
  have hlocks := B.notSynchronized
  subst hsz
  have hD := hD0.self (sz := s₀.heap.size)
  generalize hAe : va_A (RW D a s) s₀.heap.size = A at hD ⊢
  have hA : ∀ q : Nat, s₀.heap.size ≤ q → A q := fun q h => by rw [← hAe]; exact Or.inr h
  have hS : va_S A s₀.heap s₀.heap [] := va_S.rf
  have hDD : ∀ t : MS, va_D A (RW D a t) := fun t => RW_D t hD
  have hl := lv_entry ([.ref (a 200)]) (n := 1) (Nat.le_of_ble_eq_true rfl)
  rw [lg_entry_eq]
  generalize (lg_sl ([.ref (a 200)]) ++ List.replicate (1 - (lg_sl ([.ref (a 200)])).length) Slot.unset).toArray = ls at hl ⊢
  have hl : lv_has ls 1 [(0, .ref (a 200))] := hl
  unfold m_x12_qEndsPart at h
  refine y_head (pcJ := 51) (σ := MS) (fun u H locs ls => va_P D vwCl (RW D a u) H ∧ va_S A s₀.heap H locs ∧ lv_has ls 1 [] ∧ m_x12_qEndsPart_J51 u = some o) (fun u => []) (fun u H locs ls hI => ?_) (fun J51 => ?_)
  · obtain ⟨hP, hS, hl, h⟩ := hI
    obtain ⟨s1, rfl⟩ : ∃ z, z = u := ⟨u, rfl⟩
    have hP : va_P D vwCl (RW D a s1) H := hP
    have hl : lv_has ls 1 [] := hl
    have h : m_x12_qEndsPart_J51 s1 = some o := h
    unfold m_x12_qEndsPart_J51 at h
    obtain rfl := Option.some.inj h
    exact W.vret hx hb hr (fun t ht hW => ⟨⟨(), rfl, trivial, by rw [ht]; exact hP, va_K.moved hW.alike hK, hDD _⟩, hS.F ht⟩) hS.2.2 eX12_qEndsPart_40.2.2.2.2.2.1
  refine y_loop (pcJ := 0) (σ := MS) (fun n u H locs ls => va_P D vwCl (RW D a u) H ∧ va_S A s₀.heap H locs ∧ lv_has ls 1 [(0, .ref (a 200))] ∧ m_x12_qEndsPart_L0 n u = some o) (fun u => []) (fun u H locs ls hI => by obtain ⟨_, _, _, h⟩ := hI; cases h) (fun n0 ih0 u H locs ls hI => ?_) (fun J0 => ?_)
  · obtain ⟨hP, hS, hl, h⟩ := hI
    obtain ⟨s2, rfl⟩ : ∃ z, z = u := ⟨u, rfl⟩
    have hP : va_P D vwCl (RW D a s2) H := hP
    have hl : lv_has ls 1 [(0, .ref (a 200))] := hl
    have h : m_x12_qEndsPart_b0 (m_x12_qEndsPart_L0 n0) s2 = some o := h
    unfold m_x12_qEndsPart_b0 at h
    refine lv_aload_n hx hb eX12_qDrops_19.2.2.2.1 rfl (lv_at hl 0 rfl) ?_
    refine va_get (D := D) (ci := 12) (v := .int (i2 (gI s2 5))) (C := RX12) (T := TX12) (N := 116) hx hb ht inX12 hown hK hP 0 RW_0 rfl 5 (by decide) (ht (.fieldLink RX12 266 "CloneVolumesModel" "bad" "I") fl_X12_266) (fun _ h9 => h9) mF_5 eX12_qDrops_19.2.2.2.2.1 ?_
    obtain ⟨hr3, h⟩ := rg_e h
    refine lv_if_ne (tgt := 51) hx hb eX12_qDrops_19.2.2.2.2.2.1 (by decide) (fun c4 => ?_) (fun c4 => ?_)
    · have h := if_f (mt (i2_eq (x := (gI s2 5)) (y := 0) hr3 (by decide)).mpr c4) h
      exact J51 s2 _ _ _ ⟨hP, hS, lv_sub hl [] rfl, h⟩
    · have h := if_t ((i2_eq (x := (gI s2 5)) (y := 0) hr3 (by decide)).mp c4) h
      refine lv_aload_n hx hb eX12_qDrops_19.2.2.2.2.2.2.1 rfl (lv_at hl 0 rfl) ?_
      refine va_get (D := D) (ci := 12) (v := .int (i2 (gI s2 104))) (C := RX12) (T := TX12) (N := 116) hx hb ht inX12 hown hK hP 0 RW_0 rfl 104 (by decide) (ht (.fieldLink RX12 356 "CloneVolumesModel" "qWaits" "I") fl_X12_356) (fun _ h9 => h9) mF_104 eX12_qDrops_19.2.2.2.2.2.2.2 ?_
      refine lv_aload_n hx hb eX12_qEndsPart_11.1 rfl (lv_at hl 0 rfl) ?_
      refine va_get (D := D) (ci := 12) (v := .int (i2 (gI s2 106))) (C := RX12) (T := TX12) (N := 116) hx hb ht inX12 hown hK hP 0 RW_0 rfl 106 (by decide) (ht (.fieldLink RX12 362 "CloneVolumesModel" "qBase" "I") fl_X12_362) (fun _ h9 => h9) mF_106 eX12_qEndsPart_11.2.1 ?_
      obtain ⟨hr5, h⟩ := rg_e h
      obtain ⟨hr6, h⟩ := rg_e h
      refine lv_icmp_le (tgt := 51) hx hb eX12_qEndsPart_11.2.2.1 (by decide) (fun c7 => ?_) (fun c7 => ?_)
      · have h := if_t ((i2_le (x := (gI s2 104)) (y := (gI s2 106)) hr5 hr6).mp c7) h
        exact J51 s2 _ _ _ ⟨hP, hS, lv_sub hl [] rfl, h⟩
      · have h := if_f (mt (i2_le (x := (gI s2 104)) (y := (gI s2 106)) hr5 hr6).mpr c7) h
        refine lv_aload_n hx hb eX12_qEndsPart_11.2.2.2.1 rfl (lv_at hl 0 rfl) ?_
        refine va_get (D := D) (ci := 12) (v := .ref (a 103)) (C := RX12) (T := TX12) (N := 116) hx hb ht inX12 hown hK hP 0 RW_0 rfl 103 (by decide) (ht (.fieldLink RX12 246 "CloneVolumesModel" "qWait" "[I") fl_X12_246) (fun _ h9 => h9) mF_103 eX12_qEndsPart_11.2.2.2.2.1 ?_
        refine lv_aload_n hx hb eX12_qEndsPart_11.2.2.2.2.2.1 rfl (lv_at hl 0 rfl) ?_
        refine va_get (D := D) (ci := 12) (v := .int (i2 (gI s2 104))) (C := RX12) (T := TX12) (N := 116) hx hb ht inX12 hown hK hP 0 RW_0 rfl 104 (by decide) (ht (.fieldLink RX12 356 "CloneVolumesModel" "qWaits" "I") fl_X12_356) (fun _ h9 => h9) mF_104 eX12_qEndsPart_11.2.2.2.2.2.2.1 ?_
        refine lv_iconst (v := 1) hx hb eX12_qEndsPart_11.2.2.2.2.2.2.2 (by decide) ?_
        refine lv_isub hx hb eX12_qEndsPart_27.1 ?_
        refine z_topi (y := i2 ((gI s2 104) - 1)) (i2_sub (gI s2 104) 1) ?_
        obtain ⟨y8, ey8, iy8, h⟩ := rdI_e h
        refine ya_iald (i := ((gI s2 104) - 1)) hx hb hK hP 76 0 RW_76 rfl (by decide) ey8 iy8 eX12_qEndsPart_27.2.1 ?_
        refine lv_bipush (v := 60) hx hb eX12_qEndsPart_27.2.2.1 (by decide) ?_
        obtain ⟨hr9, h⟩ := rg_e h
        refine lv_icmp_lt (tgt := 51) hx hb eX12_qEndsPart_27.2.2.2.1 (by decide) (fun c10 => ?_) (fun c10 => ?_)
        · have h := if_t ((i2_lt (x := y8) (y := 60) hr9 (by decide)).mp c10) h
          exact J51 s2 _ _ _ ⟨hP, hS, lv_sub hl [] rfl, h⟩
        · have h := if_f (mt (i2_lt (x := y8) (y := 60) hr9 (by decide)).mpr c10) h
          refine lv_aload_n hx hb eX12_qEndsPart_27.2.2.2.2.1 rfl (lv_at hl 0 rfl) ?_
          refine lv_dup hx hb eX12_qEndsPart_27.2.2.2.2.2.1 rfl ?_
          refine va_get (D := D) (ci := 12) (v := .int (i2 (gI s2 105))) (C := RX12) (T := TX12) (N := 116) hx hb ht inX12 hown hK hP 0 RW_0 rfl 105 (by decide) (ht (.fieldLink RX12 359 "CloneVolumesModel" "qOpened" "I") fl_X12_359) (fun _ h9 => h9) mF_105 eX12_qEndsPart_27.2.2.2.2.2.2.1 ?_
          refine lv_iconst (v := 1) hx hb eX12_qEndsPart_27.2.2.2.2.2.2.2 (by decide) ?_
          refine lv_isub hx hb eX12_qEndsPart_40.1 ?_
          refine z_topi (y := i2 ((gI s2 105) - 1)) (i2_sub (gI s2 105) 1) ?_
          refine ya_put (D := D) (ci := 12) (v := .int (i2 ((gI s2 105) - 1))) (ty := .int) (C := RX12) (T := TX12) (N := 116) hx hb ht inX12 tyX12 tyX12_ok nmX12 hown hK hP (hDD _) hS 0 RW_0 rfl 105 (by decide) (ht (.fieldLink RX12 359 "CloneVolumesModel" "qOpened" "I") fl_X12_359) (fun _ h9 => h9) rfl (by decide +kernel) rfl rfl (by rw [mF_len]; decide) eX12_qEndsPart_40.2.1 (RW_f105 ((gI s2 105) - 1)) (fun H locs hP hS => ?_)
          obtain ⟨s11, hs11, h⟩ := st_e h
          rw [hs11] at hP
          refine lv_aload_n hx hb eX12_qEndsPart_40.2.2.1 rfl (lv_at hl 0 rfl) ?_
          obtain ⟨s13, hc12, h⟩ := bn_e h
          refine ywVv (As := []) (rest := []) (C := RX12) (n := 0) (ws' := RW D a s13) ⟨hx, hb, hml, hown, ht⟩ (k_x12_qDrops l D a _ _ _ hc12) (zgV ml_X12_699 im_X12_qDrops se_X12_qDrops in_X12 co_X12_qDrops) rfl rfl (by decide +kernel) ⟨Nat.le_of_ble_eq_true rfl, Nat.le_of_ble_eq_true rfl⟩ hN hK hP (hDD _) hS hA 0 RW_0 rfl rfl rfl hl.1 rfl (Nat.le_of_ble_eq_true rfl) eX12_qEndsPart_40.2.2.2.1 ⟨Nat.le_of_ble_eq_true rfl, Nat.le_of_ble_eq_true rfl⟩ (fun H locs hP hS => ?_)
          refine lv_goto (tgt := 0) hx hb eX12_qEndsPart_40.2.2.2.2.1 (by decide) ?_
          exact ih0 s13 _ _ _ ⟨hP, hS, lv_sub hl [0] rfl, h⟩
  exact J0 FU s _ _ _ ⟨hP, hS, lv_sub hl [0] rfl, h⟩
set_option maxHeartbeats 4000000 in
set_option maxRecDepth 100000 in
theorem k_x12_qWordHere (l : Launch) (D : va_G) (a : Nat → Nat) (sz : Nat) (s : MS) (o : (Int × MS)) (h : m_x12_qWordHere s = some o) : yWi l yX12_qWordHere cX12_qWordHere 1 (some .int) { frames := 2, cells := 0, slots := 0, locals := 120 } D sz [.ref (a 200)] (RW D a s) (RW D a o.2) (i2 o.1) := by
  refine Met.ofW (cc := cX12_qWordHere) (maxL := 1) (ret := (some .int)) (by decide) rfl ?_
  intro p e s₀ m args below meth c s₁ B hml hv
  obtain ⟨rfl, ⟨hsz, hP, hK, hD0⟩, hN⟩ := hv
  have hx := B.exec
  have hb := B.bytes
  have hr := B.returns
  have hts := atoms_spec (ws := wz yX12_qWordHere cX12_qWordHere 1 (some .int)) B.pre
  have ht : ∀ w ∈ lw_gd, w.before _ s₀ = true := fun w h => hts w (List.mem_cons_of_mem _ h)
  have hown : s₀.vm.findClass RX12 = some m.cls := findClass_of_methodNamed B.named
  have hlocks := B.notSynchronized
  subst hsz
  have hD := hD0.self (sz := s₀.heap.size)
  generalize hAe : va_A (RW D a s) s₀.heap.size = A at hD ⊢
  have hA : ∀ q : Nat, s₀.heap.size ≤ q → A q := fun q h => by rw [← hAe]; exact Or.inr h
  have hS : va_S A s₀.heap s₀.heap [] := va_S.rf
  have hDD : ∀ t : MS, va_D A (RW D a t) := fun t => RW_D t hD
  have hl := lv_entry ([.ref (a 200)]) (n := 1) (Nat.le_of_ble_eq_true rfl)
  rw [lg_entry_eq]
  generalize (lg_sl ([.ref (a 200)]) ++ List.replicate (1 - (lg_sl ([.ref (a 200)])).length) Slot.unset).toArray = ls at hl ⊢
  have hl : lv_has ls 1 [(0, .ref (a 200))] := hl
  unfold m_x12_qWordHere at h
  refine lv_aload_n hx hb eX12_qEndsPart_40.2.2.2.2.2.2.1 rfl (lv_at hl 0 rfl) ?_
  refine lv_aload_n hx hb eX12_qEndsPart_40.2.2.2.2.2.2.2 rfl (lv_at hl 0 rfl) ?_
  refine va_get (D := D) (ci := 12) (v := .ref (a 91)) (C := RX12) (T := TX12) (N := 116) hx hb ht inX12 hown hK hP 0 RW_0 rfl 91 (by decide) (ht (.fieldLink RX12 213 "CloneVolumesModel" "levelAsked" "[C") fl_X12_213) (fun _ h9 => h9) mF_91 eX12_qWordHere_2.1 ?_
  obtain ⟨⟨r3, s2⟩, hc1, h⟩ := bn_e h
  refine ywV (r0 := i2 r3) (As := [.ref (a 91)]) (rest := []) (C := RX12) (n := 1) (ws' := RW D a s2) ⟨hx, hb, hml, hown, ht⟩ (k_x12_isHere l D a 65 (a 91) 91 5 (fun _ => RW_65) (by decide) _ _ _ hc1) (zgV ml_X12_289 im_X12_isHere se_X12_isHere in_X12 co_X12_isHere) rfl rfl (by decide +kernel) ⟨Nat.le_of_ble_eq_true rfl, Nat.le_of_ble_eq_true rfl⟩ hN hK hP (hDD _) hS hA 0 RW_0 rfl rfl rfl hl.1 rfl (Nat.le_of_ble_eq_true rfl) eX12_qWordHere_2.2.1 ⟨Nat.le_of_ble_eq_true rfl, Nat.le_of_ble_eq_true rfl⟩ (fun H locs hP hS => ?_)
  obtain ⟨hr4, h⟩ := rg_e h
  refine lv_if_eq (tgt := 13) hx hb eX12_qWordHere_2.2.2.1 (by decide) (fun c5 => ?_) (fun c5 => ?_)
  · have h := if_t ((i2_eq (x := r3) (y := 0) hr4 (by decide)).mp c5) h
    refine lv_aload_n hx hb eX12_qWordHere_2.2.2.2.2.2.1 rfl (lv_at hl 0 rfl) ?_
    refine lv_aload_n hx hb eX12_qWordHere_2.2.2.2.2.2.2.1 rfl (lv_at hl 0 rfl) ?_
    refine va_get (D := D) (ci := 12) (v := .ref (a 92)) (C := RX12) (T := TX12) (N := 116) hx hb ht inX12 hown hK hP 0 RW_0 rfl 92 (by decide) (ht (.fieldLink RX12 216 "CloneVolumesModel" "blockAsked" "[C") fl_X12_216) (fun _ h9 => h9) mF_92 eX12_qWordHere_2.2.2.2.2.2.2.2 ?_
    obtain ⟨⟨r8, s7⟩, hc6, h⟩ := bn_e h
    refine ywV (r0 := i2 r8) (As := [.ref (a 92)]) (rest := []) (C := RX12) (n := 1) (ws' := RW D a s7) ⟨hx, hb, hml, hown, ht⟩ (k_x12_isHere l D a 66 (a 92) 92 5 (fun _ => RW_66) (by decide) _ _ _ hc6) (zgV ml_X12_289 im_X12_isHere se_X12_isHere in_X12 co_X12_isHere) rfl rfl (by decide +kernel) ⟨Nat.le_of_ble_eq_true rfl, Nat.le_of_ble_eq_true rfl⟩ hN hK hP (hDD _) hS hA 0 RW_0 rfl rfl rfl hl.1 rfl (Nat.le_of_ble_eq_true rfl) eX12_qWordHere_18.1 ⟨Nat.le_of_ble_eq_true rfl, Nat.le_of_ble_eq_true rfl⟩ (fun H locs hP hS => ?_)
    obtain ⟨hr9, h⟩ := rg_e h
    refine lv_if_eq (tgt := 26) hx hb eX12_qWordHere_18.2.1 (by decide) (fun c10 => ?_) (fun c10 => ?_)
    · have h := if_t ((i2_eq (x := r8) (y := 0) hr9 (by decide)).mp c10) h
      refine lv_aload_n hx hb eX12_qWordHere_18.2.2.2.2.1 rfl (lv_at hl 0 rfl) ?_
      refine lv_aload_n hx hb eX12_qWordHere_18.2.2.2.2.2.1 rfl (lv_at hl 0 rfl) ?_
      refine va_get (D := D) (ci := 12) (v := .ref (a 93)) (C := RX12) (T := TX12) (N := 116) hx hb ht inX12 hown hK hP 0 RW_0 rfl 93 (by decide) (ht (.fieldLink RX12 219 "CloneVolumesModel" "fromAsked" "[C") fl_X12_219) (fun _ h9 => h9) mF_93 eX12_qWordHere_18.2.2.2.2.2.2.1 ?_
      obtain ⟨⟨r13, s12⟩, hc11, h⟩ := bn_e h
      refine ywV (r0 := i2 r13) (As := [.ref (a 93)]) (rest := []) (C := RX12) (n := 1) (ws' := RW D a s12) ⟨hx, hb, hml, hown, ht⟩ (k_x12_isHere l D a 67 (a 93) 93 4 (fun _ => RW_67) (by decide) _ _ _ hc11) (zgV ml_X12_289 im_X12_isHere se_X12_isHere in_X12 co_X12_isHere) rfl rfl (by decide +kernel) ⟨Nat.le_of_ble_eq_true rfl, Nat.le_of_ble_eq_true rfl⟩ hN hK hP (hDD _) hS hA 0 RW_0 rfl rfl rfl hl.1 rfl (Nat.le_of_ble_eq_true rfl) eX12_qWordHere_18.2.2.2.2.2.2.2 ⟨Nat.le_of_ble_eq_true rfl, Nat.le_of_ble_eq_true rfl⟩ (fun H locs hP hS => ?_)
      obtain ⟨hr14, h⟩ := rg_e h
      refine lv_if_eq (tgt := 39) hx hb eX12_qWordHere_34.1 (by decide) (fun c15 => ?_) (fun c15 => ?_)
      · have h := if_t ((i2_eq (x := r13) (y := 0) hr14 (by decide)).mp c15) h
        refine lv_aload_n hx hb eX12_qWordHere_34.2.2.2.1 rfl (lv_at hl 0 rfl) ?_
        refine lv_aload_n hx hb eX12_qWordHere_34.2.2.2.2.1 rfl (lv_at hl 0 rfl) ?_
        refine va_get (D := D) (ci := 12) (v := .ref (a 94)) (C := RX12) (T := TX12) (N := 116) hx hb ht inX12 hown hK hP 0 RW_0 rfl 94 (by decide) (ht (.fieldLink RX12 222 "CloneVolumesModel" "entriesAsked" "[C") fl_X12_222) (fun _ h9 => h9) mF_94 eX12_qWordHere_34.2.2.2.2.2.1 ?_
        obtain ⟨⟨r18, s17⟩, hc16, h⟩ := bn_e h
        refine ywV (r0 := i2 r18) (As := [.ref (a 94)]) (rest := []) (C := RX12) (n := 1) (ws' := RW D a s17) ⟨hx, hb, hml, hown, ht⟩ (k_x12_isHere l D a 68 (a 94) 94 7 (fun _ => RW_68) (by decide) _ _ _ hc16) (zgV ml_X12_289 im_X12_isHere se_X12_isHere in_X12 co_X12_isHere) rfl rfl (by decide +kernel) ⟨Nat.le_of_ble_eq_true rfl, Nat.le_of_ble_eq_true rfl⟩ hN hK hP (hDD _) hS hA 0 RW_0 rfl rfl rfl hl.1 rfl (Nat.le_of_ble_eq_true rfl) eX12_qWordHere_34.2.2.2.2.2.2.1 ⟨Nat.le_of_ble_eq_true rfl, Nat.le_of_ble_eq_true rfl⟩ (fun H locs hP hS => ?_)
        obtain ⟨hr19, h⟩ := rg_e h
        refine lv_if_eq (tgt := 52) hx hb eX12_qWordHere_34.2.2.2.2.2.2.2 (by decide) (fun c20 => ?_) (fun c20 => ?_)
        · have h := if_t ((i2_eq (x := r18) (y := 0) hr19 (by decide)).mp c20) h
          refine lv_aload_n hx hb eX12_qWordHere_50.2.2.1 rfl (lv_at hl 0 rfl) ?_
          refine lv_aload_n hx hb eX12_qWordHere_50.2.2.2.1 rfl (lv_at hl 0 rfl) ?_
          refine va_get (D := D) (ci := 12) (v := .ref (a 95)) (C := RX12) (T := TX12) (N := 116) hx hb ht inX12 hown hK hP 0 RW_0 rfl 95 (by decide) (ht (.fieldLink RX12 225 "CloneVolumesModel" "numberAsked" "[C") fl_X12_225) (fun _ h9 => h9) mF_95 eX12_qWordHere_50.2.2.2.2.1 ?_
          obtain ⟨⟨r23, s22⟩, hc21, h⟩ := bn_e h
          refine ywV (r0 := i2 r23) (As := [.ref (a 95)]) (rest := []) (C := RX12) (n := 1) (ws' := RW D a s22) ⟨hx, hb, hml, hown, ht⟩ (k_x12_isHere l D a 69 (a 95) 95 6 (fun _ => RW_69) (by decide) _ _ _ hc21) (zgV ml_X12_289 im_X12_isHere se_X12_isHere in_X12 co_X12_isHere) rfl rfl (by decide +kernel) ⟨Nat.le_of_ble_eq_true rfl, Nat.le_of_ble_eq_true rfl⟩ hN hK hP (hDD _) hS hA 0 RW_0 rfl rfl rfl hl.1 rfl (Nat.le_of_ble_eq_true rfl) eX12_qWordHere_50.2.2.2.2.2.1 ⟨Nat.le_of_ble_eq_true rfl, Nat.le_of_ble_eq_true rfl⟩ (fun H locs hP hS => ?_)
          obtain ⟨hr24, h⟩ := rg_e h
          refine lv_if_eq (tgt := 65) hx hb eX12_qWordHere_50.2.2.2.2.2.2.1 (by decide) (fun c25 => ?_) (fun c25 => ?_)
          · have h := if_t ((i2_eq (x := r23) (y := 0) hr24 (by decide)).mp c25) h
            refine lv_aload_n hx hb eX12_qWordHere_64.2.1 rfl (lv_at hl 0 rfl) ?_
            refine lv_aload_n hx hb eX12_qWordHere_64.2.2.1 rfl (lv_at hl 0 rfl) ?_
            refine va_get (D := D) (ci := 12) (v := .ref (a 96)) (C := RX12) (T := TX12) (N := 116) hx hb ht inX12 hown hK hP 0 RW_0 rfl 96 (by decide) (ht (.fieldLink RX12 228 "CloneVolumesModel" "countAsked" "[C") fl_X12_228) (fun _ h9 => h9) mF_96 eX12_qWordHere_64.2.2.2.1 ?_
            obtain ⟨⟨r28, s27⟩, hc26, h⟩ := bn_e h
            refine ywV (r0 := i2 r28) (As := [.ref (a 96)]) (rest := []) (C := RX12) (n := 1) (ws' := RW D a s27) ⟨hx, hb, hml, hown, ht⟩ (k_x12_isHere l D a 70 (a 96) 96 5 (fun _ => RW_70) (by decide) _ _ _ hc26) (zgV ml_X12_289 im_X12_isHere se_X12_isHere in_X12 co_X12_isHere) rfl rfl (by decide +kernel) ⟨Nat.le_of_ble_eq_true rfl, Nat.le_of_ble_eq_true rfl⟩ hN hK hP (hDD _) hS hA 0 RW_0 rfl rfl rfl hl.1 rfl (Nat.le_of_ble_eq_true rfl) eX12_qWordHere_64.2.2.2.2.1 ⟨Nat.le_of_ble_eq_true rfl, Nat.le_of_ble_eq_true rfl⟩ (fun H locs hP hS => ?_)
            obtain ⟨hr29, h⟩ := rg_e h
            refine lv_if_eq (tgt := 78) hx hb eX12_qWordHere_64.2.2.2.2.2.1 (by decide) (fun c30 => ?_) (fun c30 => ?_)
            · have h := if_t ((i2_eq (x := r28) (y := 0) hr29 (by decide)).mp c30) h
              refine lv_aload_n hx hb eX12_qWordHere_78.1 rfl (lv_at hl 0 rfl) ?_
              refine lv_aload_n hx hb eX12_qWordHere_78.2.1 rfl (lv_at hl 0 rfl) ?_
              refine va_get (D := D) (ci := 12) (v := .ref (a 97)) (C := RX12) (T := TX12) (N := 116) hx hb ht inX12 hown hK hP 0 RW_0 rfl 97 (by decide) (ht (.fieldLink RX12 231 "CloneVolumesModel" "freshAsked" "[C") fl_X12_231) (fun _ h9 => h9) mF_97 eX12_qWordHere_78.2.2.1 ?_
              obtain ⟨⟨r33, s32⟩, hc31, h⟩ := bn_e h
              refine ywV (r0 := i2 r33) (As := [.ref (a 97)]) (rest := []) (C := RX12) (n := 1) (ws' := RW D a s32) ⟨hx, hb, hml, hown, ht⟩ (k_x12_isHere l D a 71 (a 97) 97 5 (fun _ => RW_71) (by decide) _ _ _ hc31) (zgV ml_X12_289 im_X12_isHere se_X12_isHere in_X12 co_X12_isHere) rfl rfl (by decide +kernel) ⟨Nat.le_of_ble_eq_true rfl, Nat.le_of_ble_eq_true rfl⟩ hN hK hP (hDD _) hS hA 0 RW_0 rfl rfl rfl hl.1 rfl (Nat.le_of_ble_eq_true rfl) eX12_qWordHere_78.2.2.2.1 ⟨Nat.le_of_ble_eq_true rfl, Nat.le_of_ble_eq_true rfl⟩ (fun H locs hP hS => ?_)
              obtain ⟨hr34, h⟩ := rg_e h
              refine lv_if_eq (tgt := 92) hx hb eX12_qWordHere_78.2.2.2.2.1 (by decide) (fun c35 => ?_) (fun c35 => ?_)
              · have h := if_t ((i2_eq (x := r33) (y := 0) hr34 (by decide)).mp c35) h
                refine lv_aload_n hx hb eX12_qWordHere_78.2.2.2.2.2.2.2 rfl (lv_at hl 0 rfl) ?_
                refine lv_aload_n hx hb eX12_qWordHere_93.1 rfl (lv_at hl 0 rfl) ?_
                refine va_get (D := D) (ci := 12) (v := .ref (a 98)) (C := RX12) (T := TX12) (N := 116) hx hb ht inX12 hown hK hP 0 RW_0 rfl 98 (by decide) (ht (.fieldLink RX12 234 "CloneVolumesModel" "savedAsked" "[C") fl_X12_234) (fun _ h9 => h9) mF_98 eX12_qWordHere_93.2.1 ?_
                obtain ⟨⟨r38, s37⟩, hc36, h⟩ := bn_e h
                refine ywV (r0 := i2 r38) (As := [.ref (a 98)]) (rest := []) (C := RX12) (n := 1) (ws' := RW D a s37) ⟨hx, hb, hml, hown, ht⟩ (k_x12_isHere l D a 72 (a 98) 98 5 (fun _ => RW_72) (by decide) _ _ _ hc36) (zgV ml_X12_289 im_X12_isHere se_X12_isHere in_X12 co_X12_isHere) rfl rfl (by decide +kernel) ⟨Nat.le_of_ble_eq_true rfl, Nat.le_of_ble_eq_true rfl⟩ hN hK hP (hDD _) hS hA 0 RW_0 rfl rfl rfl hl.1 rfl (Nat.le_of_ble_eq_true rfl) eX12_qWordHere_93.2.2.1 ⟨Nat.le_of_ble_eq_true rfl, Nat.le_of_ble_eq_true rfl⟩ (fun H locs hP hS => ?_)
                obtain ⟨hr39, h⟩ := rg_e h
                refine lv_if_eq (tgt := 106) hx hb eX12_qWordHere_93.2.2.2.1 (by decide) (fun c40 => ?_) (fun c40 => ?_)
                · have h := if_t ((i2_eq (x := r38) (y := 0) hr39 (by decide)).mp c40) h
                  refine lv_aload_n hx hb eX12_qWordHere_93.2.2.2.2.2.2.1 rfl (lv_at hl 0 rfl) ?_
                  refine lv_aload_n hx hb eX12_qWordHere_93.2.2.2.2.2.2.2 rfl (lv_at hl 0 rfl) ?_
                  refine va_get (D := D) (ci := 12) (v := .ref (a 99)) (C := RX12) (T := TX12) (N := 116) hx hb ht inX12 hown hK hP 0 RW_0 rfl 99 (by decide) (ht (.fieldLink RX12 237 "CloneVolumesModel" "refsAsked" "[C") fl_X12_237) (fun _ h9 => h9) mF_99 eX12_qWordHere_108.1 ?_
                  obtain ⟨⟨r43, s42⟩, hc41, h⟩ := bn_e h
                  refine ywV (r0 := i2 r43) (As := [.ref (a 99)]) (rest := []) (C := RX12) (n := 1) (ws' := RW D a s42) ⟨hx, hb, hml, hown, ht⟩ (k_x12_isHere l D a 73 (a 99) 99 4 (fun _ => RW_73) (by decide) _ _ _ hc41) (zgV ml_X12_289 im_X12_isHere se_X12_isHere in_X12 co_X12_isHere) rfl rfl (by decide +kernel) ⟨Nat.le_of_ble_eq_true rfl, Nat.le_of_ble_eq_true rfl⟩ hN hK hP (hDD _) hS hA 0 RW_0 rfl rfl rfl hl.1 rfl (Nat.le_of_ble_eq_true rfl) eX12_qWordHere_108.2.1 ⟨Nat.le_of_ble_eq_true rfl, Nat.le_of_ble_eq_true rfl⟩ (fun H locs hP hS => ?_)
                  obtain ⟨hr44, h⟩ := rg_e h
                  refine lv_if_eq (tgt := 120) hx hb eX12_qWordHere_108.2.2.1 (by decide) (fun c45 => ?_) (fun c45 => ?_)
                  · have h := if_t ((i2_eq (x := r43) (y := 0) hr44 (by decide)).mp c45) h
                    refine lv_aload_n hx hb eX12_qWordHere_108.2.2.2.2.2.1 rfl (lv_at hl 0 rfl) ?_
                    refine lv_aload_n hx hb eX12_qWordHere_108.2.2.2.2.2.2.1 rfl (lv_at hl 0 rfl) ?_
                    refine va_get (D := D) (ci := 12) (v := .ref (a 100)) (C := RX12) (T := TX12) (N := 116) hx hb ht inX12 hown hK hP 0 RW_0 rfl 100 (by decide) (ht (.fieldLink RX12 240 "CloneVolumesModel" "keyAsked" "[C") fl_X12_240) (fun _ h9 => h9) mF_100 eX12_qWordHere_108.2.2.2.2.2.2.2 ?_
                    obtain ⟨⟨r48, s47⟩, hc46, h⟩ := bn_e h
                    refine ywV (r0 := i2 r48) (As := [.ref (a 100)]) (rest := []) (C := RX12) (n := 1) (ws' := RW D a s47) ⟨hx, hb, hml, hown, ht⟩ (k_x12_isHere l D a 74 (a 100) 100 3 (fun _ => RW_74) (by decide) _ _ _ hc46) (zgV ml_X12_289 im_X12_isHere se_X12_isHere in_X12 co_X12_isHere) rfl rfl (by decide +kernel) ⟨Nat.le_of_ble_eq_true rfl, Nat.le_of_ble_eq_true rfl⟩ hN hK hP (hDD _) hS hA 0 RW_0 rfl rfl rfl hl.1 rfl (Nat.le_of_ble_eq_true rfl) eX12_qWordHere_125.1 ⟨Nat.le_of_ble_eq_true rfl, Nat.le_of_ble_eq_true rfl⟩ (fun H locs hP hS => ?_)
                    obtain ⟨hr49, h⟩ := rg_e h
                    refine lv_if_eq (tgt := 134) hx hb eX12_qWordHere_125.2.1 (by decide) (fun c50 => ?_) (fun c50 => ?_)
                    · have h := if_t ((i2_eq (x := r48) (y := 0) hr49 (by decide)).mp c50) h
                      refine lv_iconst (v := (-1)) hx hb eX12_qWordHere_125.2.2.2.2.1 (by decide) ?_
                      obtain rfl := Option.some.inj h
                      exact W.iret (v := (-1)) hx hb hr (fun t ht hW => ⟨⟨_, (), rfl, rfl, by rw [ht]; exact hP, va_K.moved hW.alike hK, hDD _⟩, hS.F ht⟩) hS.2.2 eX12_qWordHere_125.2.2.2.2.2.1
                    · have h := if_f (mt (i2_eq (x := r48) (y := 0) hr49 (by decide)).mpr c50) h
                      refine lv_bipush (v := 9) hx hb eX12_qWordHere_125.2.2.1 (by decide) ?_
                      obtain rfl := Option.some.inj h
                      exact W.iret (v := 9) hx hb hr (fun t ht hW => ⟨⟨_, (), rfl, rfl, by rw [ht]; exact hP, va_K.moved hW.alike hK, hDD _⟩, hS.F ht⟩) hS.2.2 eX12_qWordHere_125.2.2.2.1
                  · have h := if_f (mt (i2_eq (x := r43) (y := 0) hr44 (by decide)).mpr c45) h
                    refine lv_bipush (v := 8) hx hb eX12_qWordHere_108.2.2.2.1 (by decide) ?_
                    obtain rfl := Option.some.inj h
                    exact W.iret (v := 8) hx hb hr (fun t ht hW => ⟨⟨_, (), rfl, rfl, by rw [ht]; exact hP, va_K.moved hW.alike hK, hDD _⟩, hS.F ht⟩) hS.2.2 eX12_qWordHere_108.2.2.2.2.1
                · have h := if_f (mt (i2_eq (x := r38) (y := 0) hr39 (by decide)).mpr c40) h
                  refine lv_bipush (v := 7) hx hb eX12_qWordHere_93.2.2.2.2.1 (by decide) ?_
                  obtain rfl := Option.some.inj h
                  exact W.iret (v := 7) hx hb hr (fun t ht hW => ⟨⟨_, (), rfl, rfl, by rw [ht]; exact hP, va_K.moved hW.alike hK, hDD _⟩, hS.F ht⟩) hS.2.2 eX12_qWordHere_93.2.2.2.2.2.1
              · have h := if_f (mt (i2_eq (x := r33) (y := 0) hr34 (by decide)).mpr c35) h
                refine lv_bipush (v := 6) hx hb eX12_qWordHere_78.2.2.2.2.2.1 (by decide) ?_
                obtain rfl := Option.some.inj h
                exact W.iret (v := 6) hx hb hr (fun t ht hW => ⟨⟨_, (), rfl, rfl, by rw [ht]; exact hP, va_K.moved hW.alike hK, hDD _⟩, hS.F ht⟩) hS.2.2 eX12_qWordHere_78.2.2.2.2.2.2.1
            · have h := if_f (mt (i2_eq (x := r28) (y := 0) hr29 (by decide)).mpr c30) h
              refine lv_iconst (v := 5) hx hb eX12_qWordHere_64.2.2.2.2.2.2.1 (by decide) ?_
              obtain rfl := Option.some.inj h
              exact W.iret (v := 5) hx hb hr (fun t ht hW => ⟨⟨_, (), rfl, rfl, by rw [ht]; exact hP, va_K.moved hW.alike hK, hDD _⟩, hS.F ht⟩) hS.2.2 eX12_qWordHere_64.2.2.2.2.2.2.2
          · have h := if_f (mt (i2_eq (x := r23) (y := 0) hr24 (by decide)).mpr c25) h
            refine lv_iconst (v := 4) hx hb eX12_qWordHere_50.2.2.2.2.2.2.2 (by decide) ?_
            obtain rfl := Option.some.inj h
            exact W.iret (v := 4) hx hb hr (fun t ht hW => ⟨⟨_, (), rfl, rfl, by rw [ht]; exact hP, va_K.moved hW.alike hK, hDD _⟩, hS.F ht⟩) hS.2.2 eX12_qWordHere_64.1
        · have h := if_f (mt (i2_eq (x := r18) (y := 0) hr19 (by decide)).mpr c20) h
          refine lv_iconst (v := 3) hx hb eX12_qWordHere_50.1 (by decide) ?_
          obtain rfl := Option.some.inj h
          exact W.iret (v := 3) hx hb hr (fun t ht hW => ⟨⟨_, (), rfl, rfl, by rw [ht]; exact hP, va_K.moved hW.alike hK, hDD _⟩, hS.F ht⟩) hS.2.2 eX12_qWordHere_50.2.1
      · have h := if_f (mt (i2_eq (x := r13) (y := 0) hr14 (by decide)).mpr c15) h
        refine lv_iconst (v := 2) hx hb eX12_qWordHere_34.2.1 (by decide) ?_
        obtain rfl := Option.some.inj h
        exact W.iret (v := 2) hx hb hr (fun t ht hW => ⟨⟨_, (), rfl, rfl, by rw [ht]; exact hP, va_K.moved hW.alike hK, hDD _⟩, hS.F ht⟩) hS.2.2 eX12_qWordHere_34.2.2.1
    · have h := if_f (mt (i2_eq (x := r8) (y := 0) hr9 (by decide)).mpr c10) h
      refine lv_iconst (v := 1) hx hb eX12_qWordHere_18.2.2.1 (by decide) ?_
      obtain rfl := Option.some.inj h
      exact W.iret (v := 1) hx hb hr (fun t ht hW => ⟨⟨_, (), rfl, rfl, by rw [ht]; exact hP, va_K.moved hW.alike hK, hDD _⟩, hS.F ht⟩) hS.2.2 eX12_qWordHere_18.2.2.2.1
  · have h := if_f (mt (i2_eq (x := r3) (y := 0) hr4 (by decide)).mpr c5) h
    refine lv_iconst (v := 0) hx hb eX12_qWordHere_2.2.2.2.1 (by decide) ?_
    obtain rfl := Option.some.inj h
    exact W.iret (v := 0) hx hb hr (fun t ht hW => ⟨⟨_, (), rfl, rfl, by rw [ht]; exact hP, va_K.moved hW.alike hK, hDD _⟩, hS.F ht⟩) hS.2.2 eX12_qWordHere_2.2.2.2.2.1
