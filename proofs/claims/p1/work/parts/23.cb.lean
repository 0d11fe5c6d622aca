theorem fl_X8_44 : Cond.fieldLink RX8 44 "CloneVolumes$State" "spent" "I" ∈ lw_gd := zm (List.mem_of_getElem? (i := 558) (by decide +kernel)) rfl
theorem fl_X8_47 : Cond.fieldLink RX8 47 "CloneVolumes$State" "written" "J" ∈ lw_gd := zm (List.mem_of_getElem? (i := 562) (by decide +kernel)) rfl
theorem fl_X8_33 : Cond.fieldLink RX8 33 "CloneVolumes$State" "savedRoots" "[I" ∈ lw_gd := zm (List.mem_of_getElem? (i := 598) (by decide +kernel)) rfl
theorem fl_X8_9 : Cond.fieldLink RX8 9 "CloneVolumes$State" "count" "[I" ∈ lw_gd := zm (List.mem_of_getElem? (i := 564) (by decide +kernel)) rfl
theorem fl_X8_15 : Cond.fieldLink RX8 15 "CloneVolumes$State" "saved" "[I" ∈ lw_gd := zm (List.mem_of_getElem? (i := 569) (by decide +kernel)) rfl
theorem fl_X8_18 : Cond.fieldLink RX8 18 "CloneVolumes$State" "level" "[I" ∈ lw_gd := zm (List.mem_of_getElem? (i := 573) (by decide +kernel)) rfl
theorem fl_X8_21 : Cond.fieldLink RX8 21 "CloneVolumes$State" "size" "[I" ∈ lw_gd := zm (List.mem_of_getElem? (i := 578) (by decide +kernel)) rfl
theorem ml_X8_3 : Cond.methodLink RX8 3 objectInit ∈ lw_gd := zm (List.mem_of_getElem? (i := 548) (by decide +kernel)) rfl
theorem fl_X8_24 : Cond.fieldLink RX8 24 "CloneVolumes$State" "keys" "[I" ∈ lw_gd := zm (List.mem_of_getElem? (i := 582) (by decide +kernel)) rfl
theorem fl_X8_27 : Cond.fieldLink RX8 27 "CloneVolumes$State" "values" "[I" ∈ lw_gd := zm (List.mem_of_getElem? (i := 588) (by decide +kernel)) rfl
theorem ml_X8_36 : Cond.methodLink RX8 36 yX8_clear ∈ lw_gd := zm (List.mem_of_getElem? (i := 549) (by decide +kernel)) rfl
theorem im_X8_clear : Cond.instanceMethod yX8_clear ∈ lw_gd := zm (List.mem_of_getElem? (i := 550) (by decide +kernel)) rfl
theorem se_X8_clear : Cond.selects RX8 yX8_clear yX8_clear ∈ lw_gd := zm (List.mem_of_getElem? (i := 551) (by decide +kernel)) rfl
theorem co_X8_clear : Cond.code yX8_clear cX8_clear 3 none ∈ lw_gd := zm (List.mem_of_getElem? (i := 552) (by decide +kernel)) rfl
theorem ml_X1_3 : Cond.methodLink RX1 3 objectInit ∈ lw_gd := zm (List.mem_of_getElem? (i := 542) (by decide +kernel)) rfl
theorem cx_X1_9 : Cond.classLink RX1 9 RX8 ∈ lw_gd := zm (List.mem_of_getElem? (i := 543) (by decide +kernel)) rfl
theorem ia_X8 : Cond.instantiable RX8 11 ∈ lw_gd := zm (List.mem_of_getElem? (i := 544) (by decide +kernel)) rfl
theorem ml_X1_11 : Cond.methodLink RX1 11 yX8_init ∈ lw_gd := zm (List.mem_of_getElem? (i := 545) (by decide +kernel)) rfl
theorem co_X8_init : Cond.code yX8_init cX8_init 1 none ∈ lw_gd := zm (List.mem_of_getElem? (i := 547) (by decide +kernel)) rfl
theorem im_X8_init : Cond.instanceMethod yX8_init ∈ lw_gd := zm (List.mem_of_getElem? (i := 546) (by decide +kernel)) rfl
theorem fl_X1_12 : Cond.fieldLink RX1 12 "CloneVolumes$Forest" "now" "LCloneVolumes$State;" ∈ lw_gd := zm (List.mem_of_getElem? (i := 668) (by decide +kernel)) rfl
theorem fl_X1_18 : Cond.fieldLink RX1 18 "CloneVolumes$Forest" "before" "LCloneVolumes$State;" ∈ lw_gd := zm (List.mem_of_getElem? (i := 670) (by decide +kernel)) rfl
theorem fl_X1_21 : Cond.fieldLink RX1 21 "CloneVolumes$Forest" "inner" "LCloneVolumes$State;" ∈ lw_gd := zm (List.mem_of_getElem? (i := 672) (by decide +kernel)) rfl
theorem fl_X1_24 : Cond.fieldLink RX1 24 "CloneVolumes$Forest" "seed" "I" ∈ lw_gd := zm (List.mem_of_getElem? (i := 674) (by decide +kernel)) rfl
theorem cx_X1_28 : Cond.classLink RX1 28 RX3 ∈ lw_gd := zm (List.mem_of_getElem? (i := 624) (by decide +kernel)) rfl
theorem ia_X3 : Cond.instantiable RX3 10 ∈ lw_gd := zm (List.mem_of_getElem? (i := 625) (by decide +kernel)) rfl
theorem in_X3 : Cond.initialized RX3 ∈ lw_gd := zm (List.mem_of_getElem? (i := 213) (by decide +kernel)) rfl
theorem ml_X1_30 : Cond.methodLink RX1 30 yX3_init ∈ lw_gd := zm (List.mem_of_getElem? (i := 626) (by decide +kernel)) rfl
theorem co_X3_init : Cond.code yX3_init cX3_init 2 none ∈ lw_gd := zm (List.mem_of_getElem? (i := 628) (by decide +kernel)) rfl
theorem im_X3_init : Cond.instanceMethod yX3_init ∈ lw_gd := zm (List.mem_of_getElem? (i := 627) (by decide +kernel)) rfl
theorem fl_X1_33 : Cond.fieldLink RX1 33 "CloneVolumes$Forest" "machine" "LCloneVolumes$Machine;" ∈ lw_gd := zm (List.mem_of_getElem? (i := 677) (by decide +kernel)) rfl
theorem fl_X1_37 : Cond.fieldLink RX1 37 "CloneVolumes$Forest" "chain" "[I" ∈ lw_gd := zm (List.mem_of_getElem? (i := 678) (by decide +kernel)) rfl
theorem fl_X1_41 : Cond.fieldLink RX1 41 "CloneVolumes$Forest" "turns" "[I" ∈ lw_gd := zm (List.mem_of_getElem? (i := 679) (by decide +kernel)) rfl
theorem fl_X1_44 : Cond.fieldLink RX1 44 "CloneVolumes$Forest" "counts" "[I" ∈ lw_gd := zm (List.mem_of_getElem? (i := 680) (by decide +kernel)) rfl
theorem fl_X1_47 : Cond.fieldLink RX1 47 "CloneVolumes$Forest" "plan" "LCloneVolumes$Plan;" ∈ lw_gd := zm (List.mem_of_getElem? (i := 676) (by decide +kernel)) rfl
theorem dX1_init_0 : decode cX1_init 0 = .ok (.aload_n 0, 1) := by decide +kernel
theorem dX1_init_1 : decode cX1_init 1 = .ok (.invokespecial 3, 3) := by decide +kernel
theorem dX1_init_4 : decode cX1_init 4 = .ok (.aload_n 0, 1) := by decide +kernel
theorem dX1_init_5 : decode cX1_init 5 = .ok (.new 9, 3) := by decide +kernel
theorem dX1_init_8 : decode cX1_init 8 = .ok (.dup, 1) := by decide +kernel
theorem dX1_init_9 : decode cX1_init 9 = .ok (.invokespecial 11, 3) := by decide +kernel
theorem dX1_init_12 : decode cX1_init 12 = .ok (.putfield 12, 3) := by decide +kernel
theorem dX1_init_15 : decode cX1_init 15 = .ok (.aload_n 0, 1) := by decide +kernel
theorem dX1_init_16 : decode cX1_init 16 = .ok (.new 9, 3) := by decide +kernel
theorem dX1_init_19 : decode cX1_init 19 = .ok (.dup, 1) := by decide +kernel
theorem dX1_init_20 : decode cX1_init 20 = .ok (.invokespecial 11, 3) := by decide +kernel
theorem dX1_init_23 : decode cX1_init 23 = .ok (.putfield 18, 3) := by decide +kernel
theorem dX1_init_26 : decode cX1_init 26 = .ok (.aload_n 0, 1) := by decide +kernel
theorem dX1_init_27 : decode cX1_init 27 = .ok (.new 9, 3) := by decide +kernel
theorem dX1_init_30 : decode cX1_init 30 = .ok (.dup, 1) := by decide +kernel
theorem dX1_init_31 : decode cX1_init 31 = .ok (.invokespecial 11, 3) := by decide +kernel
theorem dX1_init_34 : decode cX1_init 34 = .ok (.putfield 21, 3) := by decide +kernel
theorem dX1_init_37 : decode cX1_init 37 = .ok (.aload_n 0, 1) := by decide +kernel
theorem dX1_init_38 : decode cX1_init 38 = .ok (.iconst 1, 1) := by decide +kernel
theorem dX1_init_39 : decode cX1_init 39 = .ok (.putfield 24, 3) := by decide +kernel
theorem dX1_init_42 : decode cX1_init 42 = .ok (.aload_n 0, 1) := by decide +kernel
theorem dX1_init_43 : decode cX1_init 43 = .ok (.new 28, 3) := by decide +kernel
theorem dX1_init_46 : decode cX1_init 46 = .ok (.dup, 1) := by decide +kernel
theorem dX1_init_47 : decode cX1_init 47 = .ok (.aload_n 0, 1) := by decide +kernel
theorem dX1_init_48 : decode cX1_init 48 = .ok (.getfield 12, 3) := by decide +kernel
theorem dX1_init_51 : decode cX1_init 51 = .ok (.invokespecial 30, 3) := by decide +kernel
theorem dX1_init_54 : decode cX1_init 54 = .ok (.putfield 33, 3) := by decide +kernel
theorem dX1_init_57 : decode cX1_init 57 = .ok (.aload_n 0, 1) := by decide +kernel
theorem dX1_init_58 : decode cX1_init 58 = .ok (.bipush 48, 2) := by decide +kernel
theorem dX1_init_60 : decode cX1_init 60 = .ok (.newarray .int, 2) := by decide +kernel
theorem dX1_init_62 : decode cX1_init 62 = .ok (.putfield 37, 3) := by decide +kernel
theorem dX1_init_65 : decode cX1_init 65 = .ok (.aload_n 0, 1) := by decide +kernel
theorem dX1_init_66 : decode cX1_init 66 = .ok (.bipush 48, 2) := by decide +kernel
theorem dX1_init_68 : decode cX1_init 68 = .ok (.newarray .int, 2) := by decide +kernel
theorem dX1_init_70 : decode cX1_init 70 = .ok (.putfield 41, 3) := by decide +kernel
theorem dX1_init_73 : decode cX1_init 73 = .ok (.aload_n 0, 1) := by decide +kernel
theorem dX1_init_74 : decode cX1_init 74 = .ok (.bipush 48, 2) := by decide +kernel
theorem dX1_init_76 : decode cX1_init 76 = .ok (.newarray .int, 2) := by decide +kernel
theorem dX1_init_78 : decode cX1_init 78 = .ok (.putfield 44, 3) := by decide +kernel
theorem dX1_init_81 : decode cX1_init 81 = .ok (.aload_n 0, 1) := by decide +kernel
theorem dX1_init_82 : decode cX1_init 82 = .ok (.aload_n 1, 1) := by decide +kernel
theorem dX1_init_83 : decode cX1_init 83 = .ok (.putfield 47, 3) := by decide +kernel
theorem dX1_init_86 : decode cX1_init 86 = .ok (.return_, 1) := by decide +kernel
theorem dX8_clear_0 : decode cX8_clear 0 = .ok (.aload_n 0, 1) := by decide +kernel
theorem dX8_clear_1 : decode cX8_clear 1 = .ok (.iload_n 1, 1) := by decide +kernel
theorem dX8_clear_2 : decode cX8_clear 2 = .ok (.putfield 40, 3) := by decide +kernel
theorem dX8_clear_5 : decode cX8_clear 5 = .ok (.aload_n 0, 1) := by decide +kernel
theorem dX8_clear_6 : decode cX8_clear 6 = .ok (.iconst 0, 1) := by decide +kernel
theorem dX8_clear_7 : decode cX8_clear 7 = .ok (.putfield 44, 3) := by decide +kernel
theorem dX8_clear_10 : decode cX8_clear 10 = .ok (.aload_n 0, 1) := by decide +kernel
theorem dX8_clear_11 : decode cX8_clear 11 = .ok (.lconst 0, 1) := by decide +kernel
theorem dX8_clear_12 : decode cX8_clear 12 = .ok (.putfield 47, 3) := by decide +kernel
theorem dX8_clear_15 : decode cX8_clear 15 = .ok (.iconst 0, 1) := by decide +kernel
theorem dX8_clear_16 : decode cX8_clear 16 = .ok (.istore_n 2, 1) := by decide +kernel
theorem dX8_clear_17 : decode cX8_clear 17 = .ok (.iload_n 2, 1) := by decide +kernel
theorem dX8_clear_18 : decode cX8_clear 18 = .ok (.bipush 48, 2) := by decide +kernel
theorem dX8_clear_20 : decode cX8_clear 20 = .ok (.if_icmp .ge 37, 3) := by decide +kernel
theorem dX8_clear_23 : decode cX8_clear 23 = .ok (.aload_n 0, 1) := by decide +kernel
theorem dX8_clear_24 : decode cX8_clear 24 = .ok (.getfield 9, 3) := by decide +kernel
theorem dX8_clear_27 : decode cX8_clear 27 = .ok (.iload_n 2, 1) := by decide +kernel
theorem dX8_clear_28 : decode cX8_clear 28 = .ok (.iconst 0, 1) := by decide +kernel
theorem dX8_clear_29 : decode cX8_clear 29 = .ok (.iastore, 1) := by decide +kernel
theorem dX8_clear_30 : decode cX8_clear 30 = .ok (.aload_n 0, 1) := by decide +kernel
theorem dX8_clear_31 : decode cX8_clear 31 = .ok (.getfield 15, 3) := by decide +kernel
theorem dX8_clear_34 : decode cX8_clear 34 = .ok (.iload_n 2, 1) := by decide +kernel
theorem dX8_clear_35 : decode cX8_clear 35 = .ok (.iconst 0, 1) := by decide +kernel
theorem dX8_clear_36 : decode cX8_clear 36 = .ok (.iastore, 1) := by decide +kernel
theorem dX8_clear_37 : decode cX8_clear 37 = .ok (.aload_n 0, 1) := by decide +kernel
theorem dX8_clear_38 : decode cX8_clear 38 = .ok (.getfield 18, 3) := by decide +kernel
theorem dX8_clear_41 : decode cX8_clear 41 = .ok (.iload_n 2, 1) := by decide +kernel
theorem dX8_clear_42 : decode cX8_clear 42 = .ok (.iconst 0, 1) := by decide +kernel
theorem dX8_clear_43 : decode cX8_clear 43 = .ok (.iastore, 1) := by decide +kernel
theorem dX8_clear_44 : decode cX8_clear 44 = .ok (.aload_n 0, 1) := by decide +kernel
theorem dX8_clear_45 : decode cX8_clear 45 = .ok (.getfield 21, 3) := by decide +kernel
theorem dX8_clear_48 : decode cX8_clear 48 = .ok (.iload_n 2, 1) := by decide +kernel
theorem dX8_clear_49 : decode cX8_clear 49 = .ok (.iconst 0, 1) := by decide +kernel
theorem dX8_clear_50 : decode cX8_clear 50 = .ok (.iastore, 1) := by decide +kernel
theorem dX8_clear_51 : decode cX8_clear 51 = .ok (.iinc 2 1, 3) := by decide +kernel
theorem dX8_clear_54 : decode cX8_clear 54 = .ok (.goto (-37), 3) := by decide +kernel
theorem dX8_clear_57 : decode cX8_clear 57 = .ok (.iconst 0, 1) := by decide +kernel
theorem dX8_clear_58 : decode cX8_clear 58 = .ok (.istore_n 2, 1) := by decide +kernel
theorem dX8_clear_59 : decode cX8_clear 59 = .ok (.iload_n 2, 1) := by decide +kernel
theorem dX8_clear_60 : decode cX8_clear 60 = .ok (.bipush 8, 2) := by decide +kernel
theorem dX8_clear_62 : decode cX8_clear 62 = .ok (.if_icmp .ge 25, 3) := by decide +kernel
theorem dX8_clear_65 : decode cX8_clear 65 = .ok (.aload_n 0, 1) := by decide +kernel
theorem dX8_clear_66 : decode cX8_clear 66 = .ok (.getfield 30, 3) := by decide +kernel
theorem dX8_clear_69 : decode cX8_clear 69 = .ok (.iload_n 2, 1) := by decide +kernel
theorem dX8_clear_70 : decode cX8_clear 70 = .ok (.bipush (-2), 2) := by decide +kernel
theorem dX8_clear_72 : decode cX8_clear 72 = .ok (.iastore, 1) := by decide +kernel
theorem dX8_clear_73 : decode cX8_clear 73 = .ok (.aload_n 0, 1) := by decide +kernel
theorem dX8_clear_74 : decode cX8_clear 74 = .ok (.getfield 33, 3) := by decide +kernel
theorem dX8_clear_77 : decode cX8_clear 77 = .ok (.iload_n 2, 1) := by decide +kernel
theorem dX8_clear_78 : decode cX8_clear 78 = .ok (.bipush (-2), 2) := by decide +kernel
theorem dX8_clear_80 : decode cX8_clear 80 = .ok (.iastore, 1) := by decide +kernel
theorem dX8_clear_81 : decode cX8_clear 81 = .ok (.iinc 2 1, 3) := by decide +kernel
theorem dX8_clear_84 : decode cX8_clear 84 = .ok (.goto (-25), 3) := by decide +kernel
theorem dX8_clear_87 : decode cX8_clear 87 = .ok (.return_, 1) := by decide +kernel
theorem dX8_init_0 : decode cX8_init 0 = .ok (.aload_n 0, 1) := by decide +kernel
theorem dX8_init_1 : decode cX8_init 1 = .ok (.invokespecial 3, 3) := by decide +kernel
theorem dX8_init_4 : decode cX8_init 4 = .ok (.aload_n 0, 1) := by decide +kernel
theorem dX8_init_5 : decode cX8_init 5 = .ok (.bipush 48, 2) := by decide +kernel
theorem dX8_init_7 : decode cX8_init 7 = .ok (.newarray .int, 2) := by decide +kernel
theorem dX8_init_9 : decode cX8_init 9 = .ok (.putfield 9, 3) := by decide +kernel
theorem dX8_init_12 : decode cX8_init 12 = .ok (.aload_n 0, 1) := by decide +kernel
theorem dX8_init_13 : decode cX8_init 13 = .ok (.bipush 48, 2) := by decide +kernel
theorem dX8_init_15 : decode cX8_init 15 = .ok (.newarray .int, 2) := by decide +kernel
theorem dX8_init_17 : decode cX8_init 17 = .ok (.putfield 15, 3) := by decide +kernel
theorem dX8_init_20 : decode cX8_init 20 = .ok (.aload_n 0, 1) := by decide +kernel
theorem dX8_init_21 : decode cX8_init 21 = .ok (.bipush 48, 2) := by decide +kernel
theorem dX8_init_23 : decode cX8_init 23 = .ok (.newarray .int, 2) := by decide +kernel
theorem dX8_init_25 : decode cX8_init 25 = .ok (.putfield 18, 3) := by decide +kernel
theorem dX8_init_28 : decode cX8_init 28 = .ok (.aload_n 0, 1) := by decide +kernel
theorem dX8_init_29 : decode cX8_init 29 = .ok (.bipush 48, 2) := by decide +kernel
theorem dX8_init_31 : decode cX8_init 31 = .ok (.newarray .int, 2) := by decide +kernel
theorem dX8_init_33 : decode cX8_init 33 = .ok (.putfield 21, 3) := by decide +kernel
theorem dX8_init_36 : decode cX8_init 36 = .ok (.aload_n 0, 1) := by decide +kernel
theorem dX8_init_37 : decode cX8_init 37 = .ok (.sipush 288, 3) := by decide +kernel
theorem dX8_init_40 : decode cX8_init 40 = .ok (.newarray .int, 2) := by decide +kernel
theorem dX8_init_42 : decode cX8_init 42 = .ok (.putfield 24, 3) := by decide +kernel
theorem dX8_init_45 : decode cX8_init 45 = .ok (.aload_n 0, 1) := by decide +kernel
theorem dX8_init_46 : decode cX8_init 46 = .ok (.sipush 288, 3) := by decide +kernel
theorem dX8_init_49 : decode cX8_init 49 = .ok (.newarray .int, 2) := by decide +kernel
theorem dX8_init_51 : decode cX8_init 51 = .ok (.putfield 27, 3) := by decide +kernel
theorem dX8_init_54 : decode cX8_init 54 = .ok (.aload_n 0, 1) := by decide +kernel
theorem dX8_init_55 : decode cX8_init 55 = .ok (.bipush 8, 2) := by decide +kernel
theorem dX8_init_57 : decode cX8_init 57 = .ok (.newarray .int, 2) := by decide +kernel
theorem dX8_init_59 : decode cX8_init 59 = .ok (.putfield 30, 3) := by decide +kernel
theorem dX8_init_62 : decode cX8_init 62 = .ok (.aload_n 0, 1) := by decide +kernel
theorem dX8_init_63 : decode cX8_init 63 = .ok (.bipush 8, 2) := by decide +kernel
theorem dX8_init_65 : decode cX8_init 65 = .ok (.newarray .int, 2) := by decide +kernel
theorem dX8_init_67 : decode cX8_init 67 = .ok (.putfield 33, 3) := by decide +kernel
theorem dX8_init_70 : decode cX8_init 70 = .ok (.aload_n 0, 1) := by decide +kernel
theorem dX8_init_71 : decode cX8_init 71 = .ok (.iconst 0, 1) := by decide +kernel
theorem dX8_init_72 : decode cX8_init 72 = .ok (.invokevirtual 36, 3) := by decide +kernel
theorem dX8_init_75 : decode cX8_init 75 = .ok (.return_, 1) := by decide +kernel
set_option maxHeartbeats 4000000 in
set_option maxRecDepth 100000 in
theorem k_X8_clear (l : Launch) (D : va_G) (sz : Nat) (h0 h1 h2 h3 h4 h5 h6 x1 x2 : Nat) : Met l yX8_clear (wz yX8_clear cX8_clear 3 none) { frames := 0, cells := 0, slots := 0, locals := 0 } (va_Pc [.ref h0, .int 0] (zW D sz [(h0, .inr (8, [.int 0, .int 0, .long 0, .ref h1, .ref h2, .ref h3, .ref h4, .ref x1, .ref x2, .ref h5, .ref h6])), (h1, .inl (D.1 13, 48, .inl (fun _ => 0))), (h2, .inl (D.1 13, 48, .inl (fun _ => 0))), (h3, .inl (D.1 13, 48, .inl (fun _ => 0))), (h4, .inl (D.1 13, 48, .inl (fun _ => 0))), (h5, .inl (D.1 13, 8, .inl (fun _ => 0))), (h6, .inl (D.1 13, 8, .inl (fun _ => 0)))])) (va_Qv (fun (_ : Unit) => True) (fun u t => zB D (va_A [(h0, .inr (8, [.int 0, .int 0, .long 0, .ref h1, .ref h2, .ref h3, .ref h4, .ref x1, .ref x2, .ref h5, .ref h6])), (h1, .inl (D.1 13, 48, .inl (fun _ => 0))), (h2, .inl (D.1 13, 48, .inl (fun _ => 0))), (h3, .inl (D.1 13, 48, .inl (fun _ => 0))), (h4, .inl (D.1 13, 48, .inl (fun _ => 0))), (h5, .inl (D.1 13, 8, .inl (fun _ => 0))), (h6, .inl (D.1 13, 8, .inl (fun _ => 0)))] sz) ((fun (u : Unit) => [(h0, .inr (8, [.int 0, .int 0, .long 0, .ref h1, .ref h2, .ref h3, .ref h4, .ref x1, .ref x2, .ref h5, .ref h6])), (h5, .inl (D.1 13, 8, .inl (fun _ => (-2)))), (h6, .inl (D.1 13, 8, .inl (fun _ => (-2))))]) u) t) (va_A [(h0, .inr (8, [.int 0, .int 0, .long 0, .ref h1, .ref h2, .ref h3, .ref h4, .ref x1, .ref x2, .ref h5, .ref h6])), (h1, .inl (D.1 13, 48, .inl (fun _ => 0))), (h2, .inl (D.1 13, 48, .inl (fun _ => 0))), (h3, .inl (D.1 13, 48, .inl (fun _ => 0))), (h4, .inl (D.1 13, 48, .inl (fun _ => 0))), (h5, .inl (D.1 13, 8, .inl (fun _ => 0))), (h6, .inl (D.1 13, 8, .inl (fun _ => 0)))] sz)) 0 0 (va_A [(h0, .inr (8, [.int 0, .int 0, .long 0, .ref h1, .ref h2, .ref h3, .ref h4, .ref x1, .ref x2, .ref h5, .ref h6])), (h1, .inl (D.1 13, 48, .inl (fun _ => 0))), (h2, .inl (D.1 13, 48, .inl (fun _ => 0))), (h3, .inl (D.1 13, 48, .inl (fun _ => 0))), (h4, .inl (D.1 13, 48, .inl (fun _ => 0))), (h5, .inl (D.1 13, 8, .inl (fun _ => 0))), (h6, .inl (D.1 13, 8, .inl (fun _ => 0)))] sz) := by
  refine Met.ofW (cc := cX8_clear) (maxL := 3) (ret := none) (by decide) rfl ?_
  intro p e s m args below meth c s₁ B hml hv
  obtain ⟨rfl, hsz, hP, hK, hD0⟩ := hv
  have hx := B.exec
  have hb := B.bytes
  have hr := B.returns
  have hts := atoms_spec (ws := wz yX8_clear cX8_clear 3 none) B.pre
  have ht : ∀ w ∈ lw_gd, w.before _ s = true := fun w h => hts w (List.mem_cons_of_mem _ h)
  have hown : s.vm.findClass RX8 = some m.cls := findClass_of_methodNamed B.named
  have hlocks := B.notSynchronized
  subst hsz
  have hD := hD0.self (sz := s.heap.size)
  generalize hAe : va_A [(h0, .inr (8, [.int 0, .int 0, .long 0, .ref h1, .ref h2, .ref h3, .ref h4, .ref x1, .ref x2, .ref h5, .ref h6])), (h1, .inl (D.1 13, 48, .inl (fun _ => 0))), (h2, .inl (D.1 13, 48, .inl (fun _ => 0))), (h3, .inl (D.1 13, 48, .inl (fun _ => 0))), (h4, .inl (D.1 13, 48, .inl (fun _ => 0))), (h5, .inl (D.1 13, 8, .inl (fun _ => 0))), (h6, .inl (D.1 13, 8, .inl (fun _ => 0)))] s.heap.size = A at hD ⊢
  have hA : ∀ q : Nat, s.heap.size ≤ q → A q := fun q h => by rw [← hAe]; exact Or.inr h
  have hS : va_S A s.heap s.heap [] := va_S.rf
  have hl := lv_entry ([.ref h0, .int 0]) (n := 3) (Nat.le_of_ble_eq_true rfl)
  rw [lg_entry_eq]
  generalize (lg_sl ([.ref h0, .int 0]) ++ List.replicate (3 - (lg_sl ([.ref h0, .int 0])).length) Slot.unset).toArray = ls at hl ⊢
  have hl : lv_has ls 3 [(0, .ref h0), (1, .int 0)] := hl
  refine lv_aload_n hx hb dX8_clear_0 rfl (lv_at hl 0 rfl) ?_
  refine lv_iload_n hx hb dX8_clear_1 rfl (lv_at hl 1 rfl) ?_
  refine va_put (D := D) (ci := 8) (v := .int 0) (ty := .int) (C := RX8) (T := TX8) (N := 11) hx hb ht inX8 tyX8 tyX8_ok nmX8 hown hK hP hD hS 0 rfl rfl 0 (by decide) (ht (.fieldLink RX8 40 "CloneVolumes$State" "blocks" "I") fl_X8_40) (fun _ h9 => h9) rfl (by decide +kernel) rfl rfl (Nat.le_of_ble_eq_true rfl) dX8_clear_2 (fun H locs hP hD hS => ?_)
  have hP : va_P D vwCl [(h0, .inr (8, [.int 0, .int 0, .long 0, .ref h1, .ref h2, .ref h3, .ref h4, .ref x1, .ref x2, .ref h5, .ref h6])), (h1, .inl (D.1 13, 48, .inl (fun _ => 0))), (h2, .inl (D.1 13, 48, .inl (fun _ => 0))), (h3, .inl (D.1 13, 48, .inl (fun _ => 0))), (h4, .inl (D.1 13, 48, .inl (fun _ => 0))), (h5, .inl (D.1 13, 8, .inl (fun _ => 0))), (h6, .inl (D.1 13, 8, .inl (fun _ => 0)))] H := hP
  have hD : va_D A [(h0, .inr (8, [.int 0, .int 0, .long 0, .ref h1, .ref h2, .ref h3, .ref h4, .ref x1, .ref x2, .ref h5, .ref h6])), (h1, .inl (D.1 13, 48, .inl (fun _ => 0))), (h2, .inl (D.1 13, 48, .inl (fun _ => 0))), (h3, .inl (D.1 13, 48, .inl (fun _ => 0))), (h4, .inl (D.1 13, 48, .inl (fun _ => 0))), (h5, .inl (D.1 13, 8, .inl (fun _ => 0))), (h6, .inl (D.1 13, 8, .inl (fun _ => 0)))] := hD
  refine lv_aload_n hx hb dX8_clear_5 rfl (lv_at hl 0 rfl) ?_
  refine lv_iconst (v := 0) hx hb dX8_clear_6 (by decide) ?_
  refine va_put (D := D) (ci := 8) (v := .int 0) (ty := .int) (C := RX8) (T := TX8) (N := 11) hx hb ht inX8 tyX8 tyX8_ok nmX8 hown hK hP hD hS 0 rfl rfl 1 (by decide) (ht (.fieldLink RX8 44 "CloneVolumes$State" "spent" "I") fl_X8_44) (fun _ h9 => h9) rfl (by decide +kernel) rfl rfl (Nat.le_of_ble_eq_true rfl) dX8_clear_7 (fun H locs hP hD hS => ?_)
  have hP : va_P D vwCl [(h0, .inr (8, [.int 0, .int 0, .long 0, .ref h1, .ref h2, .ref h3, .ref h4, .ref x1, .ref x2, .ref h5, .ref h6])), (h1, .inl (D.1 13, 48, .inl (fun _ => 0))), (h2, .inl (D.1 13, 48, .inl (fun _ => 0))), (h3, .inl (D.1 13, 48, .inl (fun _ => 0))), (h4, .inl (D.1 13, 48, .inl (fun _ => 0))), (h5, .inl (D.1 13, 8, .inl (fun _ => 0))), (h6, .inl (D.1 13, 8, .inl (fun _ => 0)))] H := hP
  have hD : va_D A [(h0, .inr (8, [.int 0, .int 0, .long 0, .ref h1, .ref h2, .ref h3, .ref h4, .ref x1, .ref x2, .ref h5, .ref h6])), (h1, .inl (D.1 13, 48, .inl (fun _ => 0))), (h2, .inl (D.1 13, 48, .inl (fun _ => 0))), (h3, .inl (D.1 13, 48, .inl (fun _ => 0))), (h4, .inl (D.1 13, 48, .inl (fun _ => 0))), (h5, .inl (D.1 13, 8, .inl (fun _ => 0))), (h6, .inl (D.1 13, 8, .inl (fun _ => 0)))] := hD
  refine lv_aload_n hx hb dX8_clear_10 rfl (lv_at hl 0 rfl) ?_
  refine lv_lconst (v := 0) hx hb dX8_clear_11 (by decide) ?_
  refine va_put (D := D) (ci := 8) (v := .long 0) (ty := .long) (C := RX8) (T := TX8) (N := 11) hx hb ht inX8 tyX8 tyX8_ok nmX8 hown hK hP hD hS 0 rfl rfl 2 (by decide) (ht (.fieldLink RX8 47 "CloneVolumes$State" "written" "J") fl_X8_47) (fun _ h9 => h9) rfl (by decide +kernel) rfl rfl (Nat.le_of_ble_eq_true rfl) dX8_clear_12 (fun H locs hP hD hS => ?_)
  have hP : va_P D vwCl [(h0, .inr (8, [.int 0, .int 0, .long 0, .ref h1, .ref h2, .ref h3, .ref h4, .ref x1, .ref x2, .ref h5, .ref h6])), (h1, .inl (D.1 13, 48, .inl (fun _ => 0))), (h2, .inl (D.1 13, 48, .inl (fun _ => 0))), (h3, .inl (D.1 13, 48, .inl (fun _ => 0))), (h4, .inl (D.1 13, 48, .inl (fun _ => 0))), (h5, .inl (D.1 13, 8, .inl (fun _ => 0))), (h6, .inl (D.1 13, 8, .inl (fun _ => 0)))] H := hP
  have hD : va_D A [(h0, .inr (8, [.int 0, .int 0, .long 0, .ref h1, .ref h2, .ref h3, .ref h4, .ref x1, .ref x2, .ref h5, .ref h6])), (h1, .inl (D.1 13, 48, .inl (fun _ => 0))), (h2, .inl (D.1 13, 48, .inl (fun _ => 0))), (h3, .inl (D.1 13, 48, .inl (fun _ => 0))), (h4, .inl (D.1 13, 48, .inl (fun _ => 0))), (h5, .inl (D.1 13, 8, .inl (fun _ => 0))), (h6, .inl (D.1 13, 8, .inl (fun _ => 0)))] := hD
  refine lv_iconst (v := 0) hx hb dX8_clear_15 (by decide) ?_
  refine lv_istore_n (lv' := [(2, .int 0), (0, .ref h0), (1, .int 0)]) hx hb dX8_clear_16 rfl hl (by decide) rfl (fun ls hl => ?_)
  refine z_loop (σ := Unit) (N := 48) (fun i u H locs ls => va_P D vwCl [(h0, .inr (8, [.int 0, .int 0, .long 0, .ref h1, .ref h2, .ref h3, .ref h4, .ref x1, .ref x2, .ref h5, .ref h6])), (h1, .inl (D.1 13, 48, .inl (fun _ => 0))), (h2, .inl (D.1 13, 48, .inl (fun _ => 0))), (h3, .inl (D.1 13, 48, .inl (fun _ => 0))), (h4, .inl (D.1 13, 48, .inl (fun _ => 0))), (h5, .inl (D.1 13, 8, .inl (fun _ => 0))), (h6, .inl (D.1 13, 8, .inl (fun _ => 0)))] H ∧ va_D A [(h0, .inr (8, [.int 0, .int 0, .long 0, .ref h1, .ref h2, .ref h3, .ref h4, .ref x1, .ref x2, .ref h5, .ref h6])), (h1, .inl (D.1 13, 48, .inl (fun _ => 0))), (h2, .inl (D.1 13, 48, .inl (fun _ => 0))), (h3, .inl (D.1 13, 48, .inl (fun _ => 0))), (h4, .inl (D.1 13, 48, .inl (fun _ => 0))), (h5, .inl (D.1 13, 8, .inl (fun _ => 0))), (h6, .inl (D.1 13, 8, .inl (fun _ => 0)))] ∧ va_S A s.heap H locs ∧ lv_has ls 3 [(2, .int (nI i)), (0, .ref h0), (1, .int 0)]) (fun i_1 _u H locs ls hi_i_1 hI ih_17 => ?_) 0 () (by decide) ⟨hP, hD, hS, lv_sub hl [0, 1, 2] rfl⟩
  obtain ⟨hP, hD, hS, hl⟩ := hI
  have hP : va_P D vwCl [(h0, .inr (8, [.int 0, .int 0, .long 0, .ref h1, .ref h2, .ref h3, .ref h4, .ref x1, .ref x2, .ref h5, .ref h6])), (h1, .inl (D.1 13, 48, .inl (fun _ => 0))), (h2, .inl (D.1 13, 48, .inl (fun _ => 0))), (h3, .inl (D.1 13, 48, .inl (fun _ => 0))), (h4, .inl (D.1 13, 48, .inl (fun _ => 0))), (h5, .inl (D.1 13, 8, .inl (fun _ => 0))), (h6, .inl (D.1 13, 8, .inl (fun _ => 0)))] H := hP
  have hD : va_D A [(h0, .inr (8, [.int 0, .int 0, .long 0, .ref h1, .ref h2, .ref h3, .ref h4, .ref x1, .ref x2, .ref h5, .ref h6])), (h1, .inl (D.1 13, 48, .inl (fun _ => 0))), (h2, .inl (D.1 13, 48, .inl (fun _ => 0))), (h3, .inl (D.1 13, 48, .inl (fun _ => 0))), (h4, .inl (D.1 13, 48, .inl (fun _ => 0))), (h5, .inl (D.1 13, 8, .inl (fun _ => 0))), (h6, .inl (D.1 13, 8, .inl (fun _ => 0)))] := hD
  have hl : lv_has ls 3 [(2, .int (nI i_1)), (0, .ref h0), (1, .int 0)] := hl
  refine lv_iload_n hx hb dX8_clear_17 rfl (lv_at hl 0 rfl) ?_
  refine lv_bipush (v := 48) hx hb dX8_clear_18 (by decide) ?_
  refine lv_icmp_ge (tgt := 57) hx hb dX8_clear_20 (by decide) (fun c_2 => ?_) (fun c_2 => ?_)
  · have g_3 : 48 ≤ ((i_1 : Nat) : Int) := z_le (by decide) (nI_toInt (by omega)) c_2
    obtain rfl : i_1 = 48 := by omega
    have hP : va_P D vwCl [(h0, .inr (8, [.int 0, .int 0, .long 0, .ref h1, .ref h2, .ref h3, .ref h4, .ref x1, .ref x2, .ref h5, .ref h6])), (h1, .inl (D.1 13, 48, .inl (fun _ => 0))), (h2, .inl (D.1 13, 48, .inl (fun _ => 0))), (h3, .inl (D.1 13, 48, .inl (fun _ => 0))), (h4, .inl (D.1 13, 48, .inl (fun _ => 0))), (h5, .inl (D.1 13, 8, .inl (fun _ => 0))), (h6, .inl (D.1 13, 8, .inl (fun _ => 0)))] H := hP
    have hD : va_D A [(h0, .inr (8, [.int 0, .int 0, .long 0, .ref h1, .ref h2, .ref h3, .ref h4, .ref x1, .ref x2, .ref h5, .ref h6])), (h1, .inl (D.1 13, 48, .inl (fun _ => 0))), (h2, .inl (D.1 13, 48, .inl (fun _ => 0))), (h3, .inl (D.1 13, 48, .inl (fun _ => 0))), (h4, .inl (D.1 13, 48, .inl (fun _ => 0))), (h5, .inl (D.1 13, 8, .inl (fun _ => 0))), (h6, .inl (D.1 13, 8, .inl (fun _ => 0)))] := hD
    have hl : lv_has ls 3 [(2, .int 48), (0, .ref h0), (1, .int 0)] := hl
    refine lv_iconst (v := 0) hx hb dX8_clear_57 (by decide) ?_
    refine lv_istore_n (lv' := [(2, .int 0), (0, .ref h0), (1, .int 0)]) hx hb dX8_clear_58 rfl hl (by decide) rfl (fun ls hl => ?_)
    refine z_loop (σ := ((Nat → Int32) × (Nat → Int32))) (N := 8) (fun i u H locs ls => ((∀ j, j < i → u.1 j = (-2)) ∧ (∀ j, j < i → u.2 j = (-2))) ∧ va_P D vwCl [(h0, .inr (8, [.int 0, .int 0, .long 0, .ref h1, .ref h2, .ref h3, .ref h4, .ref x1, .ref x2, .ref h5, .ref h6])), (h1, .inl (D.1 13, 48, .inl (fun _ => 0))), (h2, .inl (D.1 13, 48, .inl (fun _ => 0))), (h3, .inl (D.1 13, 48, .inl (fun _ => 0))), (h4, .inl (D.1 13, 48, .inl (fun _ => 0))), (h5, .inl (D.1 13, 8, .inl u.1)), (h6, .inl (D.1 13, 8, .inl u.2))] H ∧ va_D A [(h0, .inr (8, [.int 0, .int 0, .long 0, .ref h1, .ref h2, .ref h3, .ref h4, .ref x1, .ref x2, .ref h5, .ref h6])), (h1, .inl (D.1 13, 48, .inl (fun _ => 0))), (h2, .inl (D.1 13, 48, .inl (fun _ => 0))), (h3, .inl (D.1 13, 48, .inl (fun _ => 0))), (h4, .inl (D.1 13, 48, .inl (fun _ => 0))), (h5, .inl (D.1 13, 8, .inl u.1)), (h6, .inl (D.1 13, 8, .inl u.2))] ∧ va_S A s.heap H locs ∧ lv_has ls 3 [(2, .int (nI i)), (0, .ref h0), (1, .int 0)]) (fun i_4 u_7 H locs ls hi_i_4 hI ih_59 => ?_) 0 ((fun _ => 0), (fun _ => 0)) (by decide) ⟨⟨fun j hj => absurd hj (Nat.not_lt_zero j), fun j hj => absurd hj (Nat.not_lt_zero j)⟩, hP, hD, hS, lv_sub hl [0, 1, 2] rfl⟩
    obtain ⟨hv_i_4, hP, hD, hS, hl⟩ := hI
    obtain ⟨f_5, f_6⟩ := u_7
    have hP : va_P D vwCl [(h0, .inr (8, [.int 0, .int 0, .long 0, .ref h1, .ref h2, .ref h3, .ref h4, .ref x1, .ref x2, .ref h5, .ref h6])), (h1, .inl (D.1 13, 48, .inl (fun _ => 0))), (h2, .inl (D.1 13, 48, .inl (fun _ => 0))), (h3, .inl (D.1 13, 48, .inl (fun _ => 0))), (h4, .inl (D.1 13, 48, .inl (fun _ => 0))), (h5, .inl (D.1 13, 8, .inl f_5)), (h6, .inl (D.1 13, 8, .inl f_6))] H := hP
    have hD : va_D A [(h0, .inr (8, [.int 0, .int 0, .long 0, .ref h1, .ref h2, .ref h3, .ref h4, .ref x1, .ref x2, .ref h5, .ref h6])), (h1, .inl (D.1 13, 48, .inl (fun _ => 0))), (h2, .inl (D.1 13, 48, .inl (fun _ => 0))), (h3, .inl (D.1 13, 48, .inl (fun _ => 0))), (h4, .inl (D.1 13, 48, .inl (fun _ => 0))), (h5, .inl (D.1 13, 8, .inl f_5)), (h6, .inl (D.1 13, 8, .inl f_6))] := hD
    have hl : lv_has ls 3 [(2, .int (nI i_4)), (0, .ref h0), (1, .int 0)] := hl
    refine lv_iload_n hx hb dX8_clear_59 rfl (lv_at hl 0 rfl) ?_
    refine lv_bipush (v := 8) hx hb dX8_clear_60 (by decide) ?_
    refine lv_icmp_ge (tgt := 87) hx hb dX8_clear_62 (by decide) (fun c_8 => ?_) (fun c_8 => ?_)
    · have g_9 : 8 ≤ ((i_4 : Nat) : Int) := z_le (by decide) (nI_toInt (by omega)) c_8
      obtain rfl : i_4 = 8 := by omega
      have hP : va_P D vwCl [(h0, .inr (8, [.int 0, .int 0, .long 0, .ref h1, .ref h2, .ref h3, .ref h4, .ref x1, .ref x2, .ref h5, .ref h6])), (h1, .inl (D.1 13, 48, .inl (fun _ => 0))), (h2, .inl (D.1 13, 48, .inl (fun _ => 0))), (h3, .inl (D.1 13, 48, .inl (fun _ => 0))), (h4, .inl (D.1 13, 48, .inl (fun _ => 0))), (h5, .inl (D.1 13, 8, .inl f_5)), (h6, .inl (D.1 13, 8, .inl f_6))] H := hP
      have hD : va_D A [(h0, .inr (8, [.int 0, .int 0, .long 0, .ref h1, .ref h2, .ref h3, .ref h4, .ref x1, .ref x2, .ref h5, .ref h6])), (h1, .inl (D.1 13, 48, .inl (fun _ => 0))), (h2, .inl (D.1 13, 48, .inl (fun _ => 0))), (h3, .inl (D.1 13, 48, .inl (fun _ => 0))), (h4, .inl (D.1 13, 48, .inl (fun _ => 0))), (h5, .inl (D.1 13, 8, .inl f_5)), (h6, .inl (D.1 13, 8, .inl f_6))] := hD
      have hl : lv_has ls 3 [(2, .int 8), (0, .ref h0), (1, .int 0)] := hl
      have hPn := z_cong (k := 5) (g := fun _ => (-2)) hP hD rfl (fun j hj => hv_i_4.1 j hj)
      have hDn := hD.set (p := 5) (e := .inl (D.1 13, 8, .inl (fun _ => (-2)))) (A := A) (ws := [(h0, .inr (8, [.int 0, .int 0, .long 0, .ref h1, .ref h2, .ref h3, .ref h4, .ref x1, .ref x2, .ref h5, .ref h6])), (h1, .inl (D.1 13, 48, .inl (fun _ => 0))), (h2, .inl (D.1 13, 48, .inl (fun _ => 0))), (h3, .inl (D.1 13, 48, .inl (fun _ => 0))), (h4, .inl (D.1 13, 48, .inl (fun _ => 0))), (h5, .inl (D.1 13, 8, .inl f_5)), (h6, .inl (D.1 13, 8, .inl f_6))]) rfl
      have hP : va_P D vwCl [(h0, .inr (8, [.int 0, .int 0, .long 0, .ref h1, .ref h2, .ref h3, .ref h4, .ref x1, .ref x2, .ref h5, .ref h6])), (h1, .inl (D.1 13, 48, .inl (fun _ => 0))), (h2, .inl (D.1 13, 48, .inl (fun _ => 0))), (h3, .inl (D.1 13, 48, .inl (fun _ => 0))), (h4, .inl (D.1 13, 48, .inl (fun _ => 0))), (h5, .inl (D.1 13, 8, .inl (fun _ => (-2)))), (h6, .inl (D.1 13, 8, .inl f_6))] H := hPn
      have hD : va_D A [(h0, .inr (8, [.int 0, .int 0, .long 0, .ref h1, .ref h2, .ref h3, .ref h4, .ref x1, .ref x2, .ref h5, .ref h6])), (h1, .inl (D.1 13, 48, .inl (fun _ => 0))), (h2, .inl (D.1 13, 48, .inl (fun _ => 0))), (h3, .inl (D.1 13, 48, .inl (fun _ => 0))), (h4, .inl (D.1 13, 48, .inl (fun _ => 0))), (h5, .inl (D.1 13, 8, .inl (fun _ => (-2)))), (h6, .inl (D.1 13, 8, .inl f_6))] := hDn
      have hPn := z_cong (k := 6) (g := fun _ => (-2)) hP hD rfl (fun j hj => hv_i_4.2 j hj)
      have hDn := hD.set (p := 6) (e := .inl (D.1 13, 8, .inl (fun _ => (-2)))) (A := A) (ws := [(h0, .inr (8, [.int 0, .int 0, .long 0, .ref h1, .ref h2, .ref h3, .ref h4, .ref x1, .ref x2, .ref h5, .ref h6])), (h1, .inl (D.1 13, 48, .inl (fun _ => 0))), (h2, .inl (D.1 13, 48, .inl (fun _ => 0))), (h3, .inl (D.1 13, 48, .inl (fun _ => 0))), (h4, .inl (D.1 13, 48, .inl (fun _ => 0))), (h5, .inl (D.1 13, 8, .inl (fun _ => (-2)))), (h6, .inl (D.1 13, 8, .inl f_6))]) rfl
      have hP : va_P D vwCl [(h0, .inr (8, [.int 0, .int 0, .long 0, .ref h1, .ref h2, .ref h3, .ref h4, .ref x1, .ref x2, .ref h5, .ref h6])), (h1, .inl (D.1 13, 48, .inl (fun _ => 0))), (h2, .inl (D.1 13, 48, .inl (fun _ => 0))), (h3, .inl (D.1 13, 48, .inl (fun _ => 0))), (h4, .inl (D.1 13, 48, .inl (fun _ => 0))), (h5, .inl (D.1 13, 8, .inl (fun _ => (-2)))), (h6, .inl (D.1 13, 8, .inl (fun _ => (-2))))] H := hPn
      have hD : va_D A [(h0, .inr (8, [.int 0, .int 0, .long 0, .ref h1, .ref h2, .ref h3, .ref h4, .ref x1, .ref x2, .ref h5, .ref h6])), (h1, .inl (D.1 13, 48, .inl (fun _ => 0))), (h2, .inl (D.1 13, 48, .inl (fun _ => 0))), (h3, .inl (D.1 13, 48, .inl (fun _ => 0))), (h4, .inl (D.1 13, 48, .inl (fun _ => 0))), (h5, .inl (D.1 13, 8, .inl (fun _ => (-2)))), (h6, .inl (D.1 13, 8, .inl (fun _ => (-2))))] := hDn
      have hP9 := hP.sub (ws' := [(h0, .inr (8, [.int 0, .int 0, .long 0, .ref h1, .ref h2, .ref h3, .ref h4, .ref x1, .ref x2, .ref h5, .ref h6])), (h5, .inl (D.1 13, 8, .inl (fun _ => (-2)))), (h6, .inl (D.1 13, 8, .inl (fun _ => (-2))))]) [0, 5, 6] rfl
      have hD9 := hD.sub (ws' := [(h0, .inr (8, [.int 0, .int 0, .long 0, .ref h1, .ref h2, .ref h3, .ref h4, .ref x1, .ref x2, .ref h5, .ref h6])), (h5, .inl (D.1 13, 8, .inl (fun _ => (-2)))), (h6, .inl (D.1 13, 8, .inl (fun _ => (-2))))]) [0, 5, 6] (by decide) rfl
      refine W.widen (k := 0) (n := 0) (Nat.le_of_ble_eq_true rfl) (Nat.le_of_ble_eq_true rfl) ?_
      exact W.vret hx hb hr (fun t ht hW => ⟨⟨(), rfl, trivial, by rw [ht]; exact hP9, va_K.moved hW.alike hK, hD9⟩, hS.F ht⟩) hS.2.2 dX8_clear_87
    · have g_9 : ((i_4 : Nat) : Int) < 8 := z_nle (by decide) (nI_toInt (by omega)) c_8
      refine lv_aload_n hx hb dX8_clear_65 rfl (lv_at hl 1 rfl) ?_
      refine va_get (D := D) (ci := 8) (v := .ref h5) (C := RX8) (T := TX8) (N := 11) hx hb ht inX8 hown hK hP 0 rfl rfl 9 (by decide) (ht (.fieldLink RX8 30 "CloneVolumes$State" "roots" "[I") fl_X8_30) (fun _ h9 => h9) rfl dX8_clear_66 ?_
      refine lv_iload_n hx hb dX8_clear_69 rfl (lv_at hl 0 rfl) ?_
      refine lv_bipush (v := (-2)) hx hb dX8_clear_70 (by decide) ?_
      refine va_iast hx hb hK hP hD hS 5 0 rfl rfl (vp_in_nI (by omega) (by omega)) dX8_clear_72 (fun H locs hP hD hS => ?_)
      generalize hf_10 : upd _ _ _ = f_10 at hP hD
      have hP : va_P D vwCl [(h0, .inr (8, [.int 0, .int 0, .long 0, .ref h1, .ref h2, .ref h3, .ref h4, .ref x1, .ref x2, .ref h5, .ref h6])), (h1, .inl (D.1 13, 48, .inl (fun _ => 0))), (h2, .inl (D.1 13, 48, .inl (fun _ => 0))), (h3, .inl (D.1 13, 48, .inl (fun _ => 0))), (h4, .inl (D.1 13, 48, .inl (fun _ => 0))), (h5, .inl (D.1 13, 8, .inl f_10)), (h6, .inl (D.1 13, 8, .inl f_6))] H := hP
      have hD : va_D A [(h0, .inr (8, [.int 0, .int 0, .long 0, .ref h1, .ref h2, .ref h3, .ref h4, .ref x1, .ref x2, .ref h5, .ref h6])), (h1, .inl (D.1 13, 48, .inl (fun _ => 0))), (h2, .inl (D.1 13, 48, .inl (fun _ => 0))), (h3, .inl (D.1 13, 48, .inl (fun _ => 0))), (h4, .inl (D.1 13, 48, .inl (fun _ => 0))), (h5, .inl (D.1 13, 8, .inl f_10)), (h6, .inl (D.1 13, 8, .inl f_6))] := hD
      refine lv_aload_n hx hb dX8_clear_73 rfl (lv_at hl 1 rfl) ?_
      refine va_get (D := D) (ci := 8) (v := .ref h6) (C := RX8) (T := TX8) (N := 11) hx hb ht inX8 hown hK hP 0 rfl rfl 10 (by decide) (ht (.fieldLink RX8 33 "CloneVolumes$State" "savedRoots" "[I") fl_X8_33) (fun _ h9 => h9) rfl dX8_clear_74 ?_
      refine lv_iload_n hx hb dX8_clear_77 rfl (lv_at hl 0 rfl) ?_
      refine lv_bipush (v := (-2)) hx hb dX8_clear_78 (by decide) ?_
      refine va_iast hx hb hK hP hD hS 6 0 rfl rfl (vp_in_nI (by omega) (by omega)) dX8_clear_80 (fun H locs hP hD hS => ?_)
      generalize hf_11 : upd _ _ _ = f_11 at hP hD
      have hP : va_P D vwCl [(h0, .inr (8, [.int 0, .int 0, .long 0, .ref h1, .ref h2, .ref h3, .ref h4, .ref x1, .ref x2, .ref h5, .ref h6])), (h1, .inl (D.1 13, 48, .inl (fun _ => 0))), (h2, .inl (D.1 13, 48, .inl (fun _ => 0))), (h3, .inl (D.1 13, 48, .inl (fun _ => 0))), (h4, .inl (D.1 13, 48, .inl (fun _ => 0))), (h5, .inl (D.1 13, 8, .inl f_10)), (h6, .inl (D.1 13, 8, .inl f_11))] H := hP
      have hD : va_D A [(h0, .inr (8, [.int 0, .int 0, .long 0, .ref h1, .ref h2, .ref h3, .ref h4, .ref x1, .ref x2, .ref h5, .ref h6])), (h1, .inl (D.1 13, 48, .inl (fun _ => 0))), (h2, .inl (D.1 13, 48, .inl (fun _ => 0))), (h3, .inl (D.1 13, 48, .inl (fun _ => 0))), (h4, .inl (D.1 13, 48, .inl (fun _ => 0))), (h5, .inl (D.1 13, 8, .inl f_10)), (h6, .inl (D.1 13, 8, .inl f_11))] := hD
      refine lv_iinc (v := nI (i_4 + 1)) (lv' := [(2, .int (nI (i_4 + 1))), (0, .ref h0), (1, .int 0)]) hx hb dX8_clear_81 hl (k := 0) rfl (z_inc _) (by decide) rfl (fun ls hl => ?_)
      refine lv_goto (tgt := 59) hx hb dX8_clear_84 (by decide) ?_
      exact ih_59 (f_10, f_11) _ _ _ (by omega) ⟨⟨z_upd_inv hv_i_4.1 hf_10 (by omega), z_upd_inv hv_i_4.2 hf_11 (by omega)⟩, hP.sub [0, 1, 2, 3, 4, 5, 6] rfl, hD.sub [0, 1, 2, 3, 4, 5, 6] (by decide) rfl, hS, lv_sub hl [0, 1, 2] rfl⟩
  · have g_3 : ((i_1 : Nat) : Int) < 48 := z_nle (by decide) (nI_toInt (by omega)) c_2
    refine lv_aload_n hx hb dX8_clear_23 rfl (lv_at hl 1 rfl) ?_
    refine va_get (D := D) (ci := 8) (v := .ref h1) (C := RX8) (T := TX8) (N := 11) hx hb ht inX8 hown hK hP 0 rfl rfl 3 (by decide) (ht (.fieldLink RX8 9 "CloneVolumes$State" "count" "[I") fl_X8_9) (fun _ h9 => h9) rfl dX8_clear_24 ?_
    refine lv_iload_n hx hb dX8_clear_27 rfl (lv_at hl 0 rfl) ?_
    refine lv_iconst (v := 0) hx hb dX8_clear_28 (by decide) ?_
    refine va_iast hx hb hK hP hD hS 1 0 rfl rfl (vp_in_nI (by omega) (by omega)) dX8_clear_29 (fun H locs hP hD hS => ?_)
    rw [z_updc] at hP hD
    have hP : va_P D vwCl [(h0, .inr (8, [.int 0, .int 0, .long 0, .ref h1, .ref h2, .ref h3, .ref h4, .ref x1, .ref x2, .ref h5, .ref h6])), (h1, .inl (D.1 13, 48, .inl (fun _ => 0))), (h2, .inl (D.1 13, 48, .inl (fun _ => 0))), (h3, .inl (D.1 13, 48, .inl (fun _ => 0))), (h4, .inl (D.1 13, 48, .inl (fun _ => 0))), (h5, .inl (D.1 13, 8, .inl (fun _ => 0))), (h6, .inl (D.1 13, 8, .inl (fun _ => 0)))] H := hP
    have hD : va_D A [(h0, .inr (8, [.int 0, .int 0, .long 0, .ref h1, .ref h2, .ref h3, .ref h4, .ref x1, .ref x2, .ref h5, .ref h6])), (h1, .inl (D.1 13, 48, .inl (fun _ => 0))), (h2, .inl (D.1 13, 48, .inl (fun _ => 0))), (h3, .inl (D.1 13, 48, .inl (fun _ => 0))), (h4, .inl (D.1 13, 48, .inl (fun _ => 0))), (h5, .inl (D.1 13, 8, .inl (fun _ => 0))), (h6, .inl (D.1 13, 8, .inl (fun _ => 0)))] := hD
    refine lv_aload_n hx hb dX8_clear_30 rfl (lv_at hl 1 rfl) ?_
    refine va_get (D := D) (ci := 8) (v := .ref h2) (C := RX8) (T := TX8) (N := 11) hx hb ht inX8 hown hK hP 0 rfl rfl 4 (by decide) (ht (.fieldLink RX8 15 "CloneVolumes$State" "saved" "[I") fl_X8_15) (fun _ h9 => h9) rfl dX8_clear_31 ?_
    refine lv_iload_n hx hb dX8_clear_34 rfl (lv_at hl 0 rfl) ?_
    refine lv_iconst (v := 0) hx hb dX8_clear_35 (by decide) ?_
    refine va_iast hx hb hK hP hD hS 2 0 rfl rfl (vp_in_nI (by omega) (by omega)) dX8_clear_36 (fun H locs hP hD hS => ?_)
    rw [z_updc] at hP hD
    have hP : va_P D vwCl [(h0, .inr (8, [.int 0, .int 0, .long 0, .ref h1, .ref h2, .ref h3, .ref h4, .ref x1, .ref x2, .ref h5, .ref h6])), (h1, .inl (D.1 13, 48, .inl (fun _ => 0))), (h2, .inl (D.1 13, 48, .inl (fun _ => 0))), (h3, .inl (D.1 13, 48, .inl (fun _ => 0))), (h4, .inl (D.1 13, 48, .inl (fun _ => 0))), (h5, .inl (D.1 13, 8, .inl (fun _ => 0))), (h6, .inl (D.1 13, 8, .inl (fun _ => 0)))] H := hP
    have hD : va_D A [(h0, .inr (8, [.int 0, .int 0, .long 0, .ref h1, .ref h2, .ref h3, .ref h4, .ref x1, .ref x2, .ref h5, .ref h6])), (h1, .inl (D.1 13, 48, .inl (fun _ => 0))), (h2, .inl (D.1 13, 48, .inl (fun _ => 0))), (h3, .inl (D.1 13, 48, .inl (fun _ => 0))), (h4, .inl (D.1 13, 48, .inl (fun _ => 0))), (h5, .inl (D.1 13, 8, .inl (fun _ => 0))), (h6, .inl (D.1 13, 8, .inl (fun _ => 0)))] := hD
    refine lv_aload_n hx hb dX8_clear_37 rfl (lv_at hl 1 rfl) ?_
    refine va_get (D := D) (ci := 8) (v := .ref h3) (C := RX8) (T := TX8) (N := 11) hx hb ht inX8 hown hK hP 0 rfl rfl 5 (by decide) (ht (.fieldLink RX8 18 "CloneVolumes$State" "level" "[I") fl_X8_18) (fun _ h9 => h9) rfl dX8_clear_38 ?_
    refine lv_iload_n hx hb dX8_clear_41 rfl (lv_at hl 0 rfl) ?_
    refine lv_iconst (v := 0) hx hb dX8_clear_42 (by decide) ?_
    refine va_iast hx hb hK hP hD hS 3 0 rfl rfl (vp_in_nI (by omega) (by omega)) dX8_clear_43 (fun H locs hP hD hS => ?_)
    rw [z_updc] at hP hD
    have hP : va_P D vwCl [(h0, .inr (8, [.int 0, .int 0, .long 0, .ref h1, .ref h2, .ref h3, .ref h4, .ref x1, .ref x2, .ref h5, .ref h6])), (h1, .inl (D.1 13, 48, .inl (fun _ => 0))), (h2, .inl (D.1 13, 48, .inl (fun _ => 0))), (h3, .inl (D.1 13, 48, .inl (fun _ => 0))), (h4, .inl (D.1 13, 48, .inl (fun _ => 0))), (h5, .inl (D.1 13, 8, .inl (fun _ => 0))), (h6, .inl (D.1 13, 8, .inl (fun _ => 0)))] H := hP
    have hD : va_D A [(h0, .inr (8, [.int 0, .int 0, .long 0, .ref h1, .ref h2, .ref h3, .ref h4, .ref x1, .ref x2, .ref h5, .ref h6])), (h1, .inl (D.1 13, 48, .inl (fun _ => 0))), (h2, .inl (D.1 13, 48, .inl (fun _ => 0))), (h3, .inl (D.1 13, 48, .inl (fun _ => 0))), (h4, .inl (D.1 13, 48, .inl (fun _ => 0))), (h5, .inl (D.1 13, 8, .inl (fun _ => 0))), (h6, .inl (D.1 13, 8, .inl (fun _ => 0)))] := hD
    refine lv_aload_n hx hb dX8_clear_44 rfl (lv_at hl 1 rfl) ?_
    refine va_get (D := D) (ci := 8) (v := .ref h4) (C := RX8) (T := TX8) (N := 11) hx hb ht inX8 hown hK hP 0 rfl rfl 6 (by decide) (ht (.fieldLink RX8 21 "CloneVolumes$State" "size" "[I") fl_X8_21) (fun _ h9 => h9) rfl dX8_clear_45 ?_
    refine lv_iload_n hx hb dX8_clear_48 rfl (lv_at hl 0 rfl) ?_
    refine lv_iconst (v := 0) hx hb dX8_clear_49 (by decide) ?_
    refine va_iast hx hb hK hP hD hS 4 0 rfl rfl (vp_in_nI (by omega) (by omega)) dX8_clear_50 (fun H locs hP hD hS => ?_)
    rw [z_updc] at hP hD
    have hP : va_P D vwCl [(h0, .inr (8, [.int 0, .int 0, .long 0, .ref h1, .ref h2, .ref h3, .ref h4, .ref x1, .ref x2, .ref h5, .ref h6])), (h1, .inl (D.1 13, 48, .inl (fun _ => 0))), (h2, .inl (D.1 13, 48, .inl (fun _ => 0))), (h3, .inl (D.1 13, 48, .inl (fun _ => 0))), (h4, .inl (D.1 13, 48, .inl (fun _ => 0))), (h5, .inl (D.1 13, 8, .inl (fun _ => 0))), (h6, .inl (D.1 13, 8, .inl (fun _ => 0)))] H := hP
    have hD : va_D A [(h0, .inr (8, [.int 0, .int 0, .long 0, .ref h1, .ref h2, .ref h3, .ref h4, .ref x1, .ref x2, .ref h5, .ref h6])), (h1, .inl (D.1 13, 48, .inl (fun _ => 0))), (h2, .inl (D.1 13, 48, .inl (fun _ => 0))), (h3, .inl (D.1 13, 48, .inl (fun _ => 0))), (h4, .inl (D.1 13, 48, .inl (fun _ => 0))), (h5, .inl (D.1 13, 8, .inl (fun _ => 0))), (h6, .inl (D.1 13, 8, .inl (fun _ => 0)))] := hD
    refine lv_iinc (v := nI (i_1 + 1)) (lv' := [(2, .int (nI (i_1 + 1))), (0, .ref h0), (1, .int 0)]) hx hb dX8_clear_51 hl (k := 0) rfl (z_inc _) (by decide) rfl (fun ls hl => ?_)
    refine lv_goto (tgt := 17) hx hb dX8_clear_54 (by decide) ?_
    exact ih_17 () _ _ _ (by omega) ⟨hP.sub [0, 1, 2, 3, 4, 5, 6] rfl, hD.sub [0, 1, 2, 3, 4, 5, 6] (by decide) rfl, hS, lv_sub hl [0, 1, 2] rfl⟩
set_option maxHeartbeats 4000000 in
set_option maxRecDepth 100000 in
theorem k_X8_init (l : Launch) (D : va_G) (sz : Nat) (h0 : Nat) : Met l yX8_init (wz yX8_init cX8_init 1 none) { frames := 1, cells := 8, slots := 784, locals := 60 } (va_Pc [.ref h0] (zW D sz [(h0, .inr (8, [.int 0, .int 0, .long 0, .null, .null, .null, .null, .null, .null, .null, .null]))])) (va_Qv (fun (_ : ((Nat) × (Nat) × (Nat) × (Nat) × (Nat) × (Nat) × (Nat) × (Nat))) => True) (fun u t => zB D (va_A [(h0, .inr (8, [.int 0, .int 0, .long 0, .null, .null, .null, .null, .null, .null, .null, .null]))] sz) ((fun (u : ((Nat) × (Nat) × (Nat) × (Nat) × (Nat) × (Nat) × (Nat) × (Nat))) => [(h0, .inr (8, [.int 0, .int 0, .long 0, .ref u.1, .ref u.2.1, .ref u.2.2.1, .ref u.2.2.2.1, .ref u.2.2.2.2.1, .ref u.2.2.2.2.2.1, .ref u.2.2.2.2.2.2.1, .ref u.2.2.2.2.2.2.2])), (u.2.2.2.2.2.2.1, .inl (D.1 13, 8, .inl (fun _ => (-2)))), (u.2.2.2.2.2.2.2, .inl (D.1 13, 8, .inl (fun _ => (-2))))]) u) t) (va_A [(h0, .inr (8, [.int 0, .int 0, .long 0, .null, .null, .null, .null, .null, .null, .null, .null]))] sz)) 8 784 (va_A [(h0, .inr (8, [.int 0, .int 0, .long 0, .null, .null, .null, .null, .null, .null, .null, .null]))] sz) := by
  refine Met.ofW (cc := cX8_init) (maxL := 1) (ret := none) (by decide) rfl ?_
  intro p e s m args below meth c s₁ B hml hv
  obtain ⟨rfl, hsz, hP, hK, hD0⟩ := hv
  have hx := B.exec
  have hb := B.bytes
  have hr := B.returns
  have hts := atoms_spec (ws := wz yX8_init cX8_init 1 none) B.pre
  have ht : ∀ w ∈ lw_gd, w.before _ s = true := fun w h => hts w (List.mem_cons_of_mem _ h)
  have hown : s.vm.findClass RX8 = some m.cls := findClass_of_methodNamed B.named
  have hlocks := B.notSynchronized
  have hin : meth.name = "<init>" := (name_of_methodNamed B.named B.method).1
  subst hsz
  have hD := hD0.self (sz := s.heap.size)
  generalize hAe : va_A [(h0, .inr (8, [.int 0, .int 0, .long 0, .null, .null, .null, .null, .null, .null, .null, .null]))] s.heap.size = A at hD ⊢
  have hA : ∀ q : Nat, s.heap.size ≤ q → A q := fun q h => by rw [← hAe]; exact Or.inr h
  have hS : va_S A s.heap s.heap [] := va_S.rf
  have hl := lv_entry ([.ref h0]) (n := 1) (Nat.le_of_ble_eq_true rfl)
  rw [lg_entry_eq]
  generalize (lg_sl ([.ref h0]) ++ List.replicate (1 - (lg_sl ([.ref h0])).length) Slot.unset).toArray = ls at hl ⊢
  have hl : lv_has ls 1 [(0, .ref h0)] := hl
  refine lv_aload_n hx hb dX8_init_0 rfl (lv_at hl 0 rfl) ?_
  refine W.objInit hx hb hown (ht _ ml_X8_3) (ht _ im_obj) (ht _ co_obj) rfl (by rw [hml]; exact hl.1) rfl dX8_init_1 (Nat.le_of_ble_eq_true rfl) (Nat.le_of_ble_eq_true rfl) ?_
  refine W.eq (g2 := F0 m 4 ls []) rfl ?_
  refine lv_aload_n hx hb dX8_init_4 rfl (lv_at hl 0 rfl) ?_
  refine lv_bipush (v := 48) hx hb dX8_init_5 (by decide) ?_
  refine va_newa (atype := .int) (a0 := (48, .inl (fun _ => 0))) (ty := .int) (N' := 48) hx hb (ht _ ac_int) rfl hK hP hD hS hA (fun _ => rfl) (by decide) (by decide) (by decide) (Nat.le_of_ble_eq_true rfl) (Nat.le_of_ble_eq_true rfl) dX8_init_7 (fun q_1 cA H hK2 hP hD hS => ?_)
  obtain rfl := z_cls_int hK hK2
  refine W.widen (k := 1) (n := 48) (Nat.le_of_ble_eq_true rfl) (Nat.le_of_ble_eq_true rfl) ?_
  have hP : va_P D vwCl [(h0, .inr (8, [.int 0, .int 0, .long 0, .null, .null, .null, .null, .null, .null, .null, .null])), (q_1, .inl (D.1 13, 48, .inl (fun _ => 0)))] H := hP
  have hD : va_D A [(h0, .inr (8, [.int 0, .int 0, .long 0, .null, .null, .null, .null, .null, .null, .null, .null])), (q_1, .inl (D.1 13, 48, .inl (fun _ => 0)))] := hD
  refine va_putF (D := D) (ci := 8) (v := .ref q_1) (ty := .array .int) (C := RX8) (T := TX8) (N := 11) hx hb ht inX8 tyX8 tyX8_ok nmX8 hown hK hP hD hS 0 rfl rfl 3 (by decide) (ht (.fieldLink RX8 9 "CloneVolumes$State" "count" "[I") fl_X8_9) (fun _ h9 => h9) rfl hin rfl (by decide +kernel) rfl rfl (Nat.le_of_ble_eq_true rfl) dX8_init_9 (fun H locs hP hD hS => ?_)
  have hP : va_P D vwCl [(h0, .inr (8, [.int 0, .int 0, .long 0, .ref q_1, .null, .null, .null, .null, .null, .null, .null])), (q_1, .inl (D.1 13, 48, .inl (fun _ => 0)))] H := hP
  have hD : va_D A [(h0, .inr (8, [.int 0, .int 0, .long 0, .ref q_1, .null, .null, .null, .null, .null, .null, .null])), (q_1, .inl (D.1 13, 48, .inl (fun _ => 0)))] := hD
  refine lv_aload_n hx hb dX8_init_12 rfl (lv_at hl 0 rfl) ?_
  refine lv_bipush (v := 48) hx hb dX8_init_13 (by decide) ?_
  refine va_newa (atype := .int) (a0 := (48, .inl (fun _ => 0))) (ty := .int) (N' := 48) hx hb (ht _ ac_int) rfl hK hP hD hS hA (fun _ => rfl) (by decide) (by decide) (by decide) (Nat.le_of_ble_eq_true rfl) (Nat.le_of_ble_eq_true rfl) dX8_init_15 (fun q_2 cA H hK2 hP hD hS => ?_)
  obtain rfl := z_cls_int hK hK2
  refine W.widen (k := 2) (n := 96) (Nat.le_of_ble_eq_true rfl) (Nat.le_of_ble_eq_true rfl) ?_
  have hP : va_P D vwCl [(h0, .inr (8, [.int 0, .int 0, .long 0, .ref q_1, .null, .null, .null, .null, .null, .null, .null])), (q_1, .inl (D.1 13, 48, .inl (fun _ => 0))), (q_2, .inl (D.1 13, 48, .inl (fun _ => 0)))] H := hP
  have hD : va_D A [(h0, .inr (8, [.int 0, .int 0, .long 0, .ref q_1, .null, .null, .null, .null, .null, .null, .null])), (q_1, .inl (D.1 13, 48, .inl (fun _ => 0))), (q_2, .inl (D.1 13, 48, .inl (fun _ => 0)))] := hD
  refine va_putF (D := D) (ci := 8) (v := .ref q_2) (ty := .array .int) (C := RX8) (T := TX8) (N := 11) hx hb ht inX8 tyX8 tyX8_ok nmX8 hown hK hP hD hS 0 rfl rfl 4 (by decide) (ht (.fieldLink RX8 15 "CloneVolumes$State" "saved" "[I") fl_X8_15) (fun _ h9 => h9) rfl hin rfl (by decide +kernel) rfl rfl (Nat.le_of_ble_eq_true rfl) dX8_init_17 (fun H locs hP hD hS => ?_)
  have hP : va_P D vwCl [(h0, .inr (8, [.int 0, .int 0, .long 0, .ref q_1, .ref q_2, .null, .null, .null, .null, .null, .null])), (q_1, .inl (D.1 13, 48, .inl (fun _ => 0))), (q_2, .inl (D.1 13, 48, .inl (fun _ => 0)))] H := hP
  have hD : va_D A [(h0, .inr (8, [.int 0, .int 0, .long 0, .ref q_1, .ref q_2, .null, .null, .null, .null, .null, .null])), (q_1, .inl (D.1 13, 48, .inl (fun _ => 0))), (q_2, .inl (D.1 13, 48, .inl (fun _ => 0)))] := hD
  refine lv_aload_n hx hb dX8_init_20 rfl (lv_at hl 0 rfl) ?_
  refine lv_bipush (v := 48) hx hb dX8_init_21 (by decide) ?_
  refine va_newa (atype := .int) (a0 := (48, .inl (fun _ => 0))) (ty := .int) (N' := 48) hx hb (ht _ ac_int) rfl hK hP hD hS hA (fun _ => rfl) (by decide) (by decide) (by decide) (Nat.le_of_ble_eq_true rfl) (Nat.le_of_ble_eq_true rfl) dX8_init_23 (fun q_3 cA H hK2 hP hD hS => ?_)
  obtain rfl := z_cls_int hK hK2
  refine W.widen (k := 3) (n := 144) (Nat.le_of_ble_eq_true rfl) (Nat.le_of_ble_eq_true rfl) ?_
  have hP : va_P D vwCl [(h0, .inr (8, [.int 0, .int 0, .long 0, .ref q_1, .ref q_2, .null, .null, .null, .null, .null, .null])), (q_1, .inl (D.1 13, 48, .inl (fun _ => 0))), (q_2, .inl (D.1 13, 48, .inl (fun _ => 0))), (q_3, .inl (D.1 13, 48, .inl (fun _ => 0)))] H := hP
  have hD : va_D A [(h0, .inr (8, [.int 0, .int 0, .long 0, .ref q_1, .ref q_2, .null, .null, .null, .null, .null, .null])), (q_1, .inl (D.1 13, 48, .inl (fun _ => 0))), (q_2, .inl (D.1 13, 48, .inl (fun _ => 0))), (q_3, .inl (D.1 13, 48, .inl (fun _ => 0)))] := hD
  refine va_putF (D := D) (ci := 8) (v := .ref q_3) (ty := .array .int) (C := RX8) (T := TX8) (N := 11) hx hb ht inX8 tyX8 tyX8_ok nmX8 hown hK hP hD hS 0 rfl rfl 5 (by decide) (ht (.fieldLink RX8 18 "CloneVolumes$State" "level" "[I") fl_X8_18) (fun _ h9 => h9) rfl hin rfl (by decide +kernel) rfl rfl (Nat.le_of_ble_eq_true rfl) dX8_init_25 (fun H locs hP hD hS => ?_)
  have hP : va_P D vwCl [(h0, .inr (8, [.int 0, .int 0, .long 0, .ref q_1, .ref q_2, .ref q_3, .null, .null, .null, .null, .null])), (q_1, .inl (D.1 13, 48, .inl (fun _ => 0))), (q_2, .inl (D.1 13, 48, .inl (fun _ => 0))), (q_3, .inl (D.1 13, 48, .inl (fun _ => 0)))] H := hP
  have hD : va_D A [(h0, .inr (8, [.int 0, .int 0, .long 0, .ref q_1, .ref q_2, .ref q_3, .null, .null, .null, .null, .null])), (q_1, .inl (D.1 13, 48, .inl (fun _ => 0))), (q_2, .inl (D.1 13, 48, .inl (fun _ => 0))), (q_3, .inl (D.1 13, 48, .inl (fun _ => 0)))] := hD
  refine lv_aload_n hx hb dX8_init_28 rfl (lv_at hl 0 rfl) ?_
  refine lv_bipush (v := 48) hx hb dX8_init_29 (by decide) ?_
  refine va_newa (atype := .int) (a0 := (48, .inl (fun _ => 0))) (ty := .int) (N' := 48) hx hb (ht _ ac_int) rfl hK hP hD hS hA (fun _ => rfl) (by decide) (by decide) (by decide) (Nat.le_of_ble_eq_true rfl) (Nat.le_of_ble_eq_true rfl) dX8_init_31 (fun q_4 cA H hK2 hP hD hS => ?_)
  obtain rfl := z_cls_int hK hK2
  refine W.widen (k := 4) (n := 192) (Nat.le_of_ble_eq_true rfl) (Nat.le_of_ble_eq_true rfl) ?_
  have hP : va_P D vwCl [(h0, .inr (8, [.int 0, .int 0, .long 0, .ref q_1, .ref q_2, .ref q_3, .null, .null, .null, .null, .null])), (q_1, .inl (D.1 13, 48, .inl (fun _ => 0))), (q_2, .inl (D.1 13, 48, .inl (fun _ => 0))), (q_3, .inl (D.1 13, 48, .inl (fun _ => 0))), (q_4, .inl (D.1 13, 48, .inl (fun _ => 0)))] H := hP
  have hD : va_D A [(h0, .inr (8, [.int 0, .int 0, .long 0, .ref q_1, .ref q_2, .ref q_3, .null, .null, .null, .null, .null])), (q_1, .inl (D.1 13, 48, .inl (fun _ => 0))), (q_2, .inl (D.1 13, 48, .inl (fun _ => 0))), (q_3, .inl (D.1 13, 48, .inl (fun _ => 0))), (q_4, .inl (D.1 13, 48, .inl (fun _ => 0)))] := hD
  refine va_putF (D := D) (ci := 8) (v := .ref q_4) (ty := .array .int) (C := RX8) (T := TX8) (N := 11) hx hb ht inX8 tyX8 tyX8_ok nmX8 hown hK hP hD hS 0 rfl rfl 6 (by decide) (ht (.fieldLink RX8 21 "CloneVolumes$State" "size" "[I") fl_X8_21) (fun _ h9 => h9) rfl hin rfl (by decide +kernel) rfl rfl (Nat.le_of_ble_eq_true rfl) dX8_init_33 (fun H locs hP hD hS => ?_)
  have hP : va_P D vwCl [(h0, .inr (8, [.int 0, .int 0, .long 0, .ref q_1, .ref q_2, .ref q_3, .ref q_4, .null, .null, .null, .null])), (q_1, .inl (D.1 13, 48, .inl (fun _ => 0))), (q_2, .inl (D.1 13, 48, .inl (fun _ => 0))), (q_3, .inl (D.1 13, 48, .inl (fun _ => 0))), (q_4, .inl (D.1 13, 48, .inl (fun _ => 0)))] H := hP
  have hD : va_D A [(h0, .inr (8, [.int 0, .int 0, .long 0, .ref q_1, .ref q_2, .ref q_3, .ref q_4, .null, .null, .null, .null])), (q_1, .inl (D.1 13, 48, .inl (fun _ => 0))), (q_2, .inl (D.1 13, 48, .inl (fun _ => 0))), (q_3, .inl (D.1 13, 48, .inl (fun _ => 0))), (q_4, .inl (D.1 13, 48, .inl (fun _ => 0)))] := hD
  refine lv_aload_n hx hb dX8_init_36 rfl (lv_at hl 0 rfl) ?_
  refine lv_sipush (v := 288) hx hb dX8_init_37 (by decide) ?_
  refine va_newa (atype := .int) (a0 := (288, .inl (fun _ => 0))) (ty := .int) (N' := 288) hx hb (ht _ ac_int) rfl hK hP hD hS hA (fun _ => rfl) (by decide) (by decide) (by decide) (Nat.le_of_ble_eq_true rfl) (Nat.le_of_ble_eq_true rfl) dX8_init_40 (fun q_5 cA H hK2 hP hD hS => ?_)
  obtain rfl := z_cls_int hK hK2
  refine W.widen (k := 5) (n := 480) (Nat.le_of_ble_eq_true rfl) (Nat.le_of_ble_eq_true rfl) ?_
  have hP : va_P D vwCl [(h0, .inr (8, [.int 0, .int 0, .long 0, .ref q_1, .ref q_2, .ref q_3, .ref q_4, .null, .null, .null, .null])), (q_1, .inl (D.1 13, 48, .inl (fun _ => 0))), (q_2, .inl (D.1 13, 48, .inl (fun _ => 0))), (q_3, .inl (D.1 13, 48, .inl (fun _ => 0))), (q_4, .inl (D.1 13, 48, .inl (fun _ => 0))), (q_5, .inl (D.1 13, 288, .inl (fun _ => 0)))] H := hP
  have hD : va_D A [(h0, .inr (8, [.int 0, .int 0, .long 0, .ref q_1, .ref q_2, .ref q_3, .ref q_4, .null, .null, .null, .null])), (q_1, .inl (D.1 13, 48, .inl (fun _ => 0))), (q_2, .inl (D.1 13, 48, .inl (fun _ => 0))), (q_3, .inl (D.1 13, 48, .inl (fun _ => 0))), (q_4, .inl (D.1 13, 48, .inl (fun _ => 0))), (q_5, .inl (D.1 13, 288, .inl (fun _ => 0)))] := hD
  refine va_putF (D := D) (ci := 8) (v := .ref q_5) (ty := .array .int) (C := RX8) (T := TX8) (N := 11) hx hb ht inX8 tyX8 tyX8_ok nmX8 hown hK hP hD hS 0 rfl rfl 7 (by decide) (ht (.fieldLink RX8 24 "CloneVolumes$State" "keys" "[I") fl_X8_24) (fun _ h9 => h9) rfl hin rfl (by decide +kernel) rfl rfl (Nat.le_of_ble_eq_true rfl) dX8_init_42 (fun H locs hP hD hS => ?_)
  have hP : va_P D vwCl [(h0, .inr (8, [.int 0, .int 0, .long 0, .ref q_1, .ref q_2, .ref q_3, .ref q_4, .ref q_5, .null, .null, .null])), (q_1, .inl (D.1 13, 48, .inl (fun _ => 0))), (q_2, .inl (D.1 13, 48, .inl (fun _ => 0))), (q_3, .inl (D.1 13, 48, .inl (fun _ => 0))), (q_4, .inl (D.1 13, 48, .inl (fun _ => 0))), (q_5, .inl (D.1 13, 288, .inl (fun _ => 0)))] H := hP
  have hD : va_D A [(h0, .inr (8, [.int 0, .int 0, .long 0, .ref q_1, .ref q_2, .ref q_3, .ref q_4, .ref q_5, .null, .null, .null])), (q_1, .inl (D.1 13, 48, .inl (fun _ => 0))), (q_2, .inl (D.1 13, 48, .inl (fun _ => 0))), (q_3, .inl (D.1 13, 48, .inl (fun _ => 0))), (q_4, .inl (D.1 13, 48, .inl (fun _ => 0))), (q_5, .inl (D.1 13, 288, .inl (fun _ => 0)))] := hD
  have hP := hP.sub (ws' := [(h0, .inr (8, [.int 0, .int 0, .long 0, .ref q_1, .ref q_2, .ref q_3, .ref q_4, .ref q_5, .null, .null, .null])), (q_1, .inl (D.1 13, 48, .inl (fun _ => 0))), (q_2, .inl (D.1 13, 48, .inl (fun _ => 0))), (q_3, .inl (D.1 13, 48, .inl (fun _ => 0))), (q_4, .inl (D.1 13, 48, .inl (fun _ => 0)))]) [0, 1, 2, 3, 4] rfl
  have hD := hD.sub (ws' := [(h0, .inr (8, [.int 0, .int 0, .long 0, .ref q_1, .ref q_2, .ref q_3, .ref q_4, .ref q_5, .null, .null, .null])), (q_1, .inl (D.1 13, 48, .inl (fun _ => 0))), (q_2, .inl (D.1 13, 48, .inl (fun _ => 0))), (q_3, .inl (D.1 13, 48, .inl (fun _ => 0))), (q_4, .inl (D.1 13, 48, .inl (fun _ => 0)))]) [0, 1, 2, 3, 4] (by decide) rfl
  refine lv_aload_n hx hb dX8_init_45 rfl (lv_at hl 0 rfl) ?_
  refine lv_sipush (v := 288) hx hb dX8_init_46 (by decide) ?_
  refine va_newa (atype := .int) (a0 := (288, .inl (fun _ => 0))) (ty := .int) (N' := 288) hx hb (ht _ ac_int) rfl hK hP hD hS hA (fun _ => rfl) (by decide) (by decide) (by decide) (Nat.le_of_ble_eq_true rfl) (Nat.le_of_ble_eq_true rfl) dX8_init_49 (fun q_6 cA H hK2 hP hD hS => ?_)
  obtain rfl := z_cls_int hK hK2
  refine W.widen (k := 6) (n := 768) (Nat.le_of_ble_eq_true rfl) (Nat.le_of_ble_eq_true rfl) ?_
  have hP : va_P D vwCl [(h0, .inr (8, [.int 0, .int 0, .long 0, .ref q_1, .ref q_2, .ref q_3, .ref q_4, .ref q_5, .null, .null, .null])), (q_1, .inl (D.1 13, 48, .inl (fun _ => 0))), (q_2, .inl (D.1 13, 48, .inl (fun _ => 0))), (q_3, .inl (D.1 13, 48, .inl (fun _ => 0))), (q_4, .inl (D.1 13, 48, .inl (fun _ => 0))), (q_6, .inl (D.1 13, 288, .inl (fun _ => 0)))] H := hP
  have hD : va_D A [(h0, .inr (8, [.int 0, .int 0, .long 0, .ref q_1, .ref q_2, .ref q_3, .ref q_4, .ref q_5, .null, .null, .null])), (q_1, .inl (D.1 13, 48, .inl (fun _ => 0))), (q_2, .inl (D.1 13, 48, .inl (fun _ => 0))), (q_3, .inl (D.1 13, 48, .inl (fun _ => 0))), (q_4, .inl (D.1 13, 48, .inl (fun _ => 0))), (q_6, .inl (D.1 13, 288, .inl (fun _ => 0)))] := hD
  refine va_putF (D := D) (ci := 8) (v := .ref q_6) (ty := .array .int) (C := RX8) (T := TX8) (N := 11) hx hb ht inX8 tyX8 tyX8_ok nmX8 hown hK hP hD hS 0 rfl rfl 8 (by decide) (ht (.fieldLink RX8 27 "CloneVolumes$State" "values" "[I") fl_X8_27) (fun _ h9 => h9) rfl hin rfl (by decide +kernel) rfl rfl (Nat.le_of_ble_eq_true rfl) dX8_init_51 (fun H locs hP hD hS => ?_)
  have hP : va_P D vwCl [(h0, .inr (8, [.int 0, .int 0, .long 0, .ref q_1, .ref q_2, .ref q_3, .ref q_4, .ref q_5, .ref q_6, .null, .null])), (q_1, .inl (D.1 13, 48, .inl (fun _ => 0))), (q_2, .inl (D.1 13, 48, .inl (fun _ => 0))), (q_3, .inl (D.1 13, 48, .inl (fun _ => 0))), (q_4, .inl (D.1 13, 48, .inl (fun _ => 0))), (q_6, .inl (D.1 13, 288, .inl (fun _ => 0)))] H := hP
  have hD : va_D A [(h0, .inr (8, [.int 0, .int 0, .long 0, .ref q_1, .ref q_2, .ref q_3, .ref q_4, .ref q_5, .ref q_6, .null, .null])), (q_1, .inl (D.1 13, 48, .inl (fun _ => 0))), (q_2, .inl (D.1 13, 48, .inl (fun _ => 0))), (q_3, .inl (D.1 13, 48, .inl (fun _ => 0))), (q_4, .inl (D.1 13, 48, .inl (fun _ => 0))), (q_6, .inl (D.1 13, 288, .inl (fun _ => 0)))] := hD
  have hP := hP.sub (ws' := [(h0, .inr (8, [.int 0, .int 0, .long 0, .ref q_1, .ref q_2, .ref q_3, .ref q_4, .ref q_5, .ref q_6, .null, .null])), (q_1, .inl (D.1 13, 48, .inl (fun _ => 0))), (q_2, .inl (D.1 13, 48, .inl (fun _ => 0))), (q_3, .inl (D.1 13, 48, .inl (fun _ => 0))), (q_4, .inl (D.1 13, 48, .inl (fun _ => 0)))]) [0, 1, 2, 3, 4] rfl
  have hD := hD.sub (ws' := [(h0, .inr (8, [.int 0, .int 0, .long 0, .ref q_1, .ref q_2, .ref q_3, .ref q_4, .ref q_5, .ref q_6, .null, .null])), (q_1, .inl (D.1 13, 48, .inl (fun _ => 0))), (q_2, .inl (D.1 13, 48, .inl (fun _ => 0))), (q_3, .inl (D.1 13, 48, .inl (fun _ => 0))), (q_4, .inl (D.1 13, 48, .inl (fun _ => 0)))]) [0, 1, 2, 3, 4] (by decide) rfl
  refine lv_aload_n hx hb dX8_init_54 rfl (lv_at hl 0 rfl) ?_
  refine lv_bipush (v := 8) hx hb dX8_init_55 (by decide) ?_
  refine va_newa (atype := .int) (a0 := (8, .inl (fun _ => 0))) (ty := .int) (N' := 8) hx hb (ht _ ac_int) rfl hK hP hD hS hA (fun _ => rfl) (by decide) (by decide) (by decide) (Nat.le_of_ble_eq_true rfl) (Nat.le_of_ble_eq_true rfl) dX8_init_57 (fun q_7 cA H hK2 hP hD hS => ?_)
  obtain rfl := z_cls_int hK hK2
  refine W.widen (k := 7) (n := 776) (Nat.le_of_ble_eq_true rfl) (Nat.le_of_ble_eq_true rfl) ?_
  have hP : va_P D vwCl [(h0, .inr (8, [.int 0, .int 0, .long 0, .ref q_1, .ref q_2, .ref q_3, .ref q_4, .ref q_5, .ref q_6, .null, .null])), (q_1, .inl (D.1 13, 48, .inl (fun _ => 0))), (q_2, .inl (D.1 13, 48, .inl (fun _ => 0))), (q_3, .inl (D.1 13, 48, .inl (fun _ => 0))), (q_4, .inl (D.1 13, 48, .inl (fun _ => 0))), (q_7, .inl (D.1 13, 8, .inl (fun _ => 0)))] H := hP
  have hD : va_D A [(h0, .inr (8, [.int 0, .int 0, .long 0, .ref q_1, .ref q_2, .ref q_3, .ref q_4, .ref q_5, .ref q_6, .null, .null])), (q_1, .inl (D.1 13, 48, .inl (fun _ => 0))), (q_2, .inl (D.1 13, 48, .inl (fun _ => 0))), (q_3, .inl (D.1 13, 48, .inl (fun _ => 0))), (q_4, .inl (D.1 13, 48, .inl (fun _ => 0))), (q_7, .inl (D.1 13, 8, .inl (fun _ => 0)))] := hD
  refine va_putF (D := D) (ci := 8) (v := .ref q_7) (ty := .array .int) (C := RX8) (T := TX8) (N := 11) hx hb ht inX8 tyX8 tyX8_ok nmX8 hown hK hP hD hS 0 rfl rfl 9 (by decide) (ht (.fieldLink RX8 30 "CloneVolumes$State" "roots" "[I") fl_X8_30) (fun _ h9 => h9) rfl hin rfl (by decide +kernel) rfl rfl (Nat.le_of_ble_eq_true rfl) dX8_init_59 (fun H locs hP hD hS => ?_)
  have hP : va_P D vwCl [(h0, .inr (8, [.int 0, .int 0, .long 0, .ref q_1, .ref q_2, .ref q_3, .ref q_4, .ref q_5, .ref q_6, .ref q_7, .null])), (q_1, .inl (D.1 13, 48, .inl (fun _ => 0))), (q_2, .inl (D.1 13, 48, .inl (fun _ => 0))), (q_3, .inl (D.1 13, 48, .inl (fun _ => 0))), (q_4, .inl (D.1 13, 48, .inl (fun _ => 0))), (q_7, .inl (D.1 13, 8, .inl (fun _ => 0)))] H := hP
  have hD : va_D A [(h0, .inr (8, [.int 0, .int 0, .long 0, .ref q_1, .ref q_2, .ref q_3, .ref q_4, .ref q_5, .ref q_6, .ref q_7, .null])), (q_1, .inl (D.1 13, 48, .inl (fun _ => 0))), (q_2, .inl (D.1 13, 48, .inl (fun _ => 0))), (q_3, .inl (D.1 13, 48, .inl (fun _ => 0))), (q_4, .inl (D.1 13, 48, .inl (fun _ => 0))), (q_7, .inl (D.1 13, 8, .inl (fun _ => 0)))] := hD
  refine lv_aload_n hx hb dX8_init_62 rfl (lv_at hl 0 rfl) ?_
  refine lv_bipush (v := 8) hx hb dX8_init_63 (by decide) ?_
  refine va_newa (atype := .int) (a0 := (8, .inl (fun _ => 0))) (ty := .int) (N' := 8) hx hb (ht _ ac_int) rfl hK hP hD hS hA (fun _ => rfl) (by decide) (by decide) (by decide) (Nat.le_of_ble_eq_true rfl) (Nat.le_of_ble_eq_true rfl) dX8_init_65 (fun q_8 cA H hK2 hP hD hS => ?_)
  obtain rfl := z_cls_int hK hK2
  refine W.widen (k := 8) (n := 784) (Nat.le_of_ble_eq_true rfl) (Nat.le_of_ble_eq_true rfl) ?_
  have hP : va_P D vwCl [(h0, .inr (8, [.int 0, .int 0, .long 0, .ref q_1, .ref q_2, .ref q_3, .ref q_4, .ref q_5, .ref q_6, .ref q_7, .null])), (q_1, .inl (D.1 13, 48, .inl (fun _ => 0))), (q_2, .inl (D.1 13, 48, .inl (fun _ => 0))), (q_3, .inl (D.1 13, 48, .inl (fun _ => 0))), (q_4, .inl (D.1 13, 48, .inl (fun _ => 0))), (q_7, .inl (D.1 13, 8, .inl (fun _ => 0))), (q_8, .inl (D.1 13, 8, .inl (fun _ => 0)))] H := hP
  have hD : va_D A [(h0, .inr (8, [.int 0, .int 0, .long 0, .ref q_1, .ref q_2, .ref q_3, .ref q_4, .ref q_5, .ref q_6, .ref q_7, .null])), (q_1, .inl (D.1 13, 48, .inl (fun _ => 0))), (q_2, .inl (D.1 13, 48, .inl (fun _ => 0))), (q_3, .inl (D.1 13, 48, .inl (fun _ => 0))), (q_4, .inl (D.1 13, 48, .inl (fun _ => 0))), (q_7, .inl (D.1 13, 8, .inl (fun _ => 0))), (q_8, .inl (D.1 13, 8, .inl (fun _ => 0)))] := hD
  refine va_putF (D := D) (ci := 8) (v := .ref q_8) (ty := .array .int) (C := RX8) (T := TX8) (N := 11) hx hb ht inX8 tyX8 tyX8_ok nmX8 hown hK hP hD hS 0 rfl rfl 10 (by decide) (ht (.fieldLink RX8 33 "CloneVolumes$State" "savedRoots" "[I") fl_X8_33) (fun _ h9 => h9) rfl hin rfl (by decide +kernel) rfl rfl (Nat.le_of_ble_eq_true rfl) dX8_init_67 (fun H locs hP hD hS => ?_)
  have hP : va_P D vwCl [(h0, .inr (8, [.int 0, .int 0, .long 0, .ref q_1, .ref q_2, .ref q_3, .ref q_4, .ref q_5, .ref q_6, .ref q_7, .ref q_8])), (q_1, .inl (D.1 13, 48, .inl (fun _ => 0))), (q_2, .inl (D.1 13, 48, .inl (fun _ => 0))), (q_3, .inl (D.1 13, 48, .inl (fun _ => 0))), (q_4, .inl (D.1 13, 48, .inl (fun _ => 0))), (q_7, .inl (D.1 13, 8, .inl (fun _ => 0))), (q_8, .inl (D.1 13, 8, .inl (fun _ => 0)))] H := hP
  have hD : va_D A [(h0, .inr (8, [.int 0, .int 0, .long 0, .ref q_1, .ref q_2, .ref q_3, .ref q_4, .ref q_5, .ref q_6, .ref q_7, .ref q_8])), (q_1, .inl (D.1 13, 48, .inl (fun _ => 0))), (q_2, .inl (D.1 13, 48, .inl (fun _ => 0))), (q_3, .inl (D.1 13, 48, .inl (fun _ => 0))), (q_4, .inl (D.1 13, 48, .inl (fun _ => 0))), (q_7, .inl (D.1 13, 8, .inl (fun _ => 0))), (q_8, .inl (D.1 13, 8, .inl (fun _ => 0)))] := hD
  refine lv_aload_n hx hb dX8_init_70 rfl (lv_at hl 0 rfl) ?_
  refine lv_iconst (v := 0) hx hb dX8_init_71 (by decide) ?_
  refine zwVv (As := [.int 0]) (rest := []) (C := RX8) (n := 1) (wr := []) ⟨hx, hb, hml, hown, ht⟩ (k_X8_clear l D _ h0 q_1 q_2 q_3 q_4 q_7 q_8 q_5 q_6) (zgV ml_X8_36 im_X8_clear se_X8_clear in_X8 co_X8_clear) rfl rfl (by decide +kernel) ⟨Nat.le_of_ble_eq_true rfl, Nat.le_of_ble_eq_true rfl⟩ hK hP hD hS hA [0, 1, 2, 3, 4, 5, 6] [] rfl rfl rfl rfl (by decide) 0 rfl rfl rfl rfl hl.1 rfl (Nat.le_of_ble_eq_true rfl) dX8_init_72 ⟨Nat.le_of_ble_eq_true rfl, Nat.le_of_ble_eq_true rfl⟩ (fun u_9 H locs hw hP hD hS => ?_)
  have hP : va_P D vwCl [(h0, .inr (8, [.int 0, .int 0, .long 0, .ref q_1, .ref q_2, .ref q_3, .ref q_4, .ref q_5, .ref q_6, .ref q_7, .ref q_8])), (q_7, .inl (D.1 13, 8, .inl (fun _ => (-2)))), (q_8, .inl (D.1 13, 8, .inl (fun _ => (-2))))] H := hP
  have hD : va_D A [(h0, .inr (8, [.int 0, .int 0, .long 0, .ref q_1, .ref q_2, .ref q_3, .ref q_4, .ref q_5, .ref q_6, .ref q_7, .ref q_8])), (q_7, .inl (D.1 13, 8, .inl (fun _ => (-2)))), (q_8, .inl (D.1 13, 8, .inl (fun _ => (-2))))] := hD
  have hP9 := hP.sub (ws' := [(h0, .inr (8, [.int 0, .int 0, .long 0, .ref q_1, .ref q_2, .ref q_3, .ref q_4, .ref q_5, .ref q_6, .ref q_7, .ref q_8])), (q_7, .inl (D.1 13, 8, .inl (fun _ => (-2)))), (q_8, .inl (D.1 13, 8, .inl (fun _ => (-2))))]) [0, 1, 2] rfl
  have hD9 := hD.sub (ws' := [(h0, .inr (8, [.int 0, .int 0, .long 0, .ref q_1, .ref q_2, .ref q_3, .ref q_4, .ref q_5, .ref q_6, .ref q_7, .ref q_8])), (q_7, .inl (D.1 13, 8, .inl (fun _ => (-2)))), (q_8, .inl (D.1 13, 8, .inl (fun _ => (-2))))]) [0, 1, 2] (by decide) rfl
  refine W.widen (k := 8) (n := 784) (Nat.le_of_ble_eq_true rfl) (Nat.le_of_ble_eq_true rfl) ?_
  exact W.vret hx hb hr (fun t ht hW => ⟨⟨(q_1, q_2, q_3, q_4, q_5, q_6, q_7, q_8), rfl, trivial, by rw [ht]; exact hP9, va_K.moved hW.alike hK, hD9⟩, hS.F ht⟩) hS.2.2 dX8_init_75
set_option maxHeartbeats 4000000 in
set_option maxRecDepth 100000 in
theorem k_X1_init (l : Launch) (D : va_G) (sz : Nat) (h0 h1 : Nat) : Met l yX1_init (wz yX1_init cX1_init 2 none) { frames := 2, cells := 32, slots := 2603, locals := 120 } (va_Pc [.ref h0, .ref h1] (zW D sz [(h0, .inr (1, [.null, .null, .null, .int 0, .null, .null, .null, .null, .null]))])) (va_Qv (fun (_ : ((Nat) × (Nat) × (Nat) × (Nat) × (Nat) × (Nat) × (Nat) × (Nat) × (Nat) × (Nat) × (Nat) × (Nat) × (Nat) × (Nat) × (Nat))) => True) (fun u t => zB D (va_A [(h0, .inr (1, [.null, .null, .null, .int 0, .null, .null, .null, .null, .null]))] sz) ((fun (u : ((Nat) × (Nat) × (Nat) × (Nat) × (Nat) × (Nat) × (Nat) × (Nat) × (Nat) × (Nat) × (Nat) × (Nat) × (Nat) × (Nat) × (Nat))) => [(h0, .inr (1, [.ref u.1, .ref u.2.1, .ref u.2.2.1, .int 1, .ref h1, .ref u.2.2.2.1, .ref u.2.2.2.2.1, .ref u.2.2.2.2.2.1, .ref u.2.2.2.2.2.2.1])), (u.1, .inr (8, [.int 0, .int 0, .long 0, .ref u.2.2.2.2.2.2.2.1, .ref u.2.2.2.2.2.2.2.2.1, .ref u.2.2.2.2.2.2.2.2.2.1, .ref u.2.2.2.2.2.2.2.2.2.2.1, .ref u.2.2.2.2.2.2.2.2.2.2.2.1, .ref u.2.2.2.2.2.2.2.2.2.2.2.2.1, .ref u.2.2.2.2.2.2.2.2.2.2.2.2.2.1, .ref u.2.2.2.2.2.2.2.2.2.2.2.2.2.2])), (u.2.2.2.2.2.2.2.2.2.2.2.2.2.1, .inl (D.1 13, 8, .inl (fun _ => (-2)))), (u.2.2.2.2.2.2.2.2.2.2.2.2.2.2, .inl (D.1 13, 8, .inl (fun _ => (-2))))]) u) t) (va_A [(h0, .inr (1, [.null, .null, .null, .int 0, .null, .null, .null, .null, .null]))] sz)) 32 2603 (va_A [(h0, .inr (1, [.null, .null, .null, .int 0, .null, .null, .null, .null, .null]))] sz) := by
  refine Met.ofW (cc := cX1_init) (maxL := 2) (ret := none) (by decide) rfl ?_
  intro p e s m args below meth c s₁ B hml hv
  obtain ⟨rfl, hsz, hP, hK, hD0⟩ := hv
  have hx := B.exec
  have hb := B.bytes
  have hr := B.returns
  have hts := atoms_spec (ws := wz yX1_init cX1_init 2 none) B.pre
  have ht : ∀ w ∈ lw_gd, w.before _ s = true := fun w h => hts w (List.mem_cons_of_mem _ h)
  have hown : s.vm.findClass RX1 = some m.cls := findClass_of_methodNamed B.named
  have hlocks := B.notSynchronized
  have hin : meth.name = "<init>" := (name_of_methodNamed B.named B.method).1
  subst hsz
  have hD := hD0.self (sz := s.heap.size)
  generalize hAe : va_A [(h0, .inr (1, [.null, .null, .null, .int 0, .null, .null, .null, .null, .null]))] s.heap.size = A at hD ⊢
  have hA : ∀ q : Nat, s.heap.size ≤ q → A q := fun q h => by rw [← hAe]; exact Or.inr h
  have hS : va_S A s.heap s.heap [] := va_S.rf
  have hl := lv_entry ([.ref h0, .ref h1]) (n := 2) (Nat.le_of_ble_eq_true rfl)
  rw [lg_entry_eq]
  generalize (lg_sl ([.ref h0, .ref h1]) ++ List.replicate (2 - (lg_sl ([.ref h0, .ref h1])).length) Slot.unset).toArray = ls at hl ⊢
  have hl : lv_has ls 2 [(0, .ref h0), (1, .ref h1)] := hl
  refine lv_aload_n hx hb dX1_init_0 rfl (lv_at hl 0 rfl) ?_
  refine W.objInit hx hb hown (ht _ ml_X1_3) (ht _ im_obj) (ht _ co_obj) rfl (by rw [hml]; exact hl.1) rfl dX1_init_1 (Nat.le_of_ble_eq_true rfl) (Nat.le_of_ble_eq_true rfl) ?_
  refine W.eq (g2 := F0 m 4 ls []) rfl ?_
  refine lv_aload_n hx hb dX1_init_4 rfl (lv_at hl 0 rfl) ?_
  refine va_new (ci := 8) (fs := [.int 0, .int 0, .long 0, .null, .null, .null, .null, .null, .null, .null, .null]) (C := RX8) (T := TX8) (N := 11) hx hb ht inX8 tyX8 tyX8_ok hown (ht _ cx_X1_9) (ht _ ia_X8) (ht _ in_X8) hK hP hD hS hA rfl (by decide +kernel) (Nat.le_of_ble_eq_true rfl) (Nat.le_of_ble_eq_true rfl) dX1_init_5 (fun q_1 H hP hD hS => ?_)
  refine W.widen (k := 1) (n := 11) (Nat.le_of_ble_eq_true rfl) (Nat.le_of_ble_eq_true rfl) ?_
  have hP : va_P D vwCl [(h0, .inr (1, [.null, .null, .null, .int 0, .null, .null, .null, .null, .null])), (q_1, .inr (8, [.int 0, .int 0, .long 0, .null, .null, .null, .null, .null, .null, .null, .null]))] H := hP
  have hD : va_D A [(h0, .inr (1, [.null, .null, .null, .int 0, .null, .null, .null, .null, .null])), (q_1, .inr (8, [.int 0, .int 0, .long 0, .null, .null, .null, .null, .null, .null, .null, .null]))] := hD
  refine lv_dup hx hb dX1_init_8 rfl ?_
  refine zwI (As := []) (rest := [.ref q_1, .ref h0]) (n := 0) (wr := [(h0, .inr (1, [.null, .null, .null, .int 0, .null, .null, .null, .null, .null]))]) ⟨hx, hb, hml, hown, ht⟩ (k_X8_init l D _ q_1) co_X8_init rfl rfl in_X8 ml_X1_11 im_X8_init rfl (by decide +kernel) ⟨Nat.le_of_ble_eq_true rfl, Nat.le_of_ble_eq_true rfl⟩ hK hP hD hS hA [1] [0] rfl rfl rfl rfl (by decide) rfl hl.1 rfl (Nat.le_of_ble_eq_true rfl) dX1_init_9 ⟨Nat.le_of_ble_eq_true rfl, Nat.le_of_ble_eq_true rfl⟩ (fun u_2 H locs hw hP hD hS => ?_)
  refine W.widen (k := 9) (n := 795) (Nat.le_of_ble_eq_true rfl) (Nat.le_of_ble_eq_true rfl) ?_
  obtain ⟨q_3, q_4, q_5, q_6, q_7, q_8, q_9, q_10⟩ := u_2
  have hP : va_P D vwCl [(h0, .inr (1, [.null, .null, .null, .int 0, .null, .null, .null, .null, .null])), (q_1, .inr (8, [.int 0, .int 0, .long 0, .ref q_3, .ref q_4, .ref q_5, .ref q_6, .ref q_7, .ref q_8, .ref q_9, .ref q_10])), (q_9, .inl (D.1 13, 8, .inl (fun _ => (-2)))), (q_10, .inl (D.1 13, 8, .inl (fun _ => (-2))))] H := hP
  have hD : va_D A [(h0, .inr (1, [.null, .null, .null, .int 0, .null, .null, .null, .null, .null])), (q_1, .inr (8, [.int 0, .int 0, .long 0, .ref q_3, .ref q_4, .ref q_5, .ref q_6, .ref q_7, .ref q_8, .ref q_9, .ref q_10])), (q_9, .inl (D.1 13, 8, .inl (fun _ => (-2)))), (q_10, .inl (D.1 13, 8, .inl (fun _ => (-2))))] := hD
  refine va_putF (D := D) (ci := 1) (v := .ref q_1) (ty := .object "CloneVolumes$State") (C := RX1) (T := TX1) (N := 9) hx hb ht inX1 tyX1 tyX1_ok nmX1 hown hK hP hD hS 0 rfl rfl 0 (by decide) (ht (.fieldLink RX1 12 "CloneVolumes$Forest" "now" "LCloneVolumes$State;") fl_X1_12) (fun _ h9 => h9) rfl hin rfl (by decide +kernel) rfl rfl (Nat.le_of_ble_eq_true rfl) dX1_init_12 (fun H locs hP hD hS => ?_)
  have hP : va_P D vwCl [(h0, .inr (1, [.ref q_1, .null, .null, .int 0, .null, .null, .null, .null, .null])), (q_1, .inr (8, [.int 0, .int 0, .long 0, .ref q_3, .ref q_4, .ref q_5, .ref q_6, .ref q_7, .ref q_8, .ref q_9, .ref q_10])), (q_9, .inl (D.1 13, 8, .inl (fun _ => (-2)))), (q_10, .inl (D.1 13, 8, .inl (fun _ => (-2))))] H := hP
  have hD : va_D A [(h0, .inr (1, [.ref q_1, .null, .null, .int 0, .null, .null, .null, .null, .null])), (q_1, .inr (8, [.int 0, .int 0, .long 0, .ref q_3, .ref q_4, .ref q_5, .ref q_6, .ref q_7, .ref q_8, .ref q_9, .ref q_10])), (q_9, .inl (D.1 13, 8, .inl (fun _ => (-2)))), (q_10, .inl (D.1 13, 8, .inl (fun _ => (-2))))] := hD
  refine lv_aload_n hx hb dX1_init_15 rfl (lv_at hl 0 rfl) ?_
  refine va_new (ci := 8) (fs := [.int 0, .int 0, .long 0, .null, .null, .null, .null, .null, .null, .null, .null]) (C := RX8) (T := TX8) (N := 11) hx hb ht inX8 tyX8 tyX8_ok hown (ht _ cx_X1_9) (ht _ ia_X8) (ht _ in_X8) hK hP hD hS hA rfl (by decide +kernel) (Nat.le_of_ble_eq_true rfl) (Nat.le_of_ble_eq_true rfl) dX1_init_16 (fun q_11 H hP hD hS => ?_)
  refine W.widen (k := 10) (n := 806) (Nat.le_of_ble_eq_true rfl) (Nat.le_of_ble_eq_true rfl) ?_
  have hP : va_P D vwCl [(h0, .inr (1, [.ref q_1, .null, .null, .int 0, .null, .null, .null, .null, .null])), (q_1, .inr (8, [.int 0, .int 0, .long 0, .ref q_3, .ref q_4, .ref q_5, .ref q_6, .ref q_7, .ref q_8, .ref q_9, .ref q_10])), (q_9, .inl (D.1 13, 8, .inl (fun _ => (-2)))), (q_10, .inl (D.1 13, 8, .inl (fun _ => (-2)))), (q_11, .inr (8, [.int 0, .int 0, .long 0, .null, .null, .null, .null, .null, .null, .null, .null]))] H := hP
  have hD : va_D A [(h0, .inr (1, [.ref q_1, .null, .null, .int 0, .null, .null, .null, .null, .null])), (q_1, .inr (8, [.int 0, .int 0, .long 0, .ref q_3, .ref q_4, .ref q_5, .ref q_6, .ref q_7, .ref q_8, .ref q_9, .ref q_10])), (q_9, .inl (D.1 13, 8, .inl (fun _ => (-2)))), (q_10, .inl (D.1 13, 8, .inl (fun _ => (-2)))), (q_11, .inr (8, [.int 0, .int 0, .long 0, .null, .null, .null, .null, .null, .null, .null, .null]))] := hD
  refine lv_dup hx hb dX1_init_19 rfl ?_
  refine zwI (As := []) (rest := [.ref q_11, .ref h0]) (n := 0) (wr := [(h0, .inr (1, [.ref q_1, .null, .null, .int 0, .null, .null, .null, .null, .null])), (q_1, .inr (8, [.int 0, .int 0, .long 0, .ref q_3, .ref q_4, .ref q_5, .ref q_6, .ref q_7, .ref q_8, .ref q_9, .ref q_10])), (q_9, .inl (D.1 13, 8, .inl (fun _ => (-2)))), (q_10, .inl (D.1 13, 8, .inl (fun _ => (-2))))]) ⟨hx, hb, hml, hown, ht⟩ (k_X8_init l D _ q_11) co_X8_init rfl rfl in_X8 ml_X1_11 im_X8_init rfl (by decide +kernel) ⟨Nat.le_of_ble_eq_true rfl, Nat.le_of_ble_eq_true rfl⟩ hK hP hD hS hA [4] [0, 1, 2, 3] rfl rfl rfl rfl (by decide) rfl hl.1 rfl (Nat.le_of_ble_eq_true rfl) dX1_init_20 ⟨Nat.le_of_ble_eq_true rfl, Nat.le_of_ble_eq_true rfl⟩ (fun u_12 H locs hw hP hD hS => ?_)
  refine W.widen (k := 18) (n := 1590) (Nat.le_of_ble_eq_true rfl) (Nat.le_of_ble_eq_true rfl) ?_
  obtain ⟨q_13, q_14, q_15, q_16, q_17, q_18, q_19, q_20⟩ := u_12
  have hP : va_P D vwCl [(h0, .inr (1, [.ref q_1, .null, .null, .int 0, .null, .null, .null, .null, .null])), (q_1, .inr (8, [.int 0, .int 0, .long 0, .ref q_3, .ref q_4, .ref q_5, .ref q_6, .ref q_7, .ref q_8, .ref q_9, .ref q_10])), (q_9, .inl (D.1 13, 8, .inl (fun _ => (-2)))), (q_10, .inl (D.1 13, 8, .inl (fun _ => (-2)))), (q_11, .inr (8, [.int 0, .int 0, .long 0, .ref q_13, .ref q_14, .ref q_15, .ref q_16, .ref q_17, .ref q_18, .ref q_19, .ref q_20])), (q_19, .inl (D.1 13, 8, .inl (fun _ => (-2)))), (q_20, .inl (D.1 13, 8, .inl (fun _ => (-2))))] H := hP
  have hD : va_D A [(h0, .inr (1, [.ref q_1, .null, .null, .int 0, .null, .null, .null, .null, .null])), (q_1, .inr (8, [.int 0, .int 0, .long 0, .ref q_3, .ref q_4, .ref q_5, .ref q_6, .ref q_7, .ref q_8, .ref q_9, .ref q_10])), (q_9, .inl (D.1 13, 8, .inl (fun _ => (-2)))), (q_10, .inl (D.1 13, 8, .inl (fun _ => (-2)))), (q_11, .inr (8, [.int 0, .int 0, .long 0, .ref q_13, .ref q_14, .ref q_15, .ref q_16, .ref q_17, .ref q_18, .ref q_19, .ref q_20])), (q_19, .inl (D.1 13, 8, .inl (fun _ => (-2)))), (q_20, .inl (D.1 13, 8, .inl (fun _ => (-2))))] := hD
  refine va_put (D := D) (ci := 1) (v := .ref q_11) (ty := .object "CloneVolumes$State") (C := RX1) (T := TX1) (N := 9) hx hb ht inX1 tyX1 tyX1_ok nmX1 hown hK hP hD hS 0 rfl rfl 1 (by decide) (ht (.fieldLink RX1 18 "CloneVolumes$Forest" "before" "LCloneVolumes$State;") fl_X1_18) (fun _ h9 => h9) rfl (by decide +kernel) rfl rfl (Nat.le_of_ble_eq_true rfl) dX1_init_23 (fun H locs hP hD hS => ?_)
  have hP : va_P D vwCl [(h0, .inr (1, [.ref q_1, .ref q_11, .null, .int 0, .null, .null, .null, .null, .null])), (q_1, .inr (8, [.int 0, .int 0, .long 0, .ref q_3, .ref q_4, .ref q_5, .ref q_6, .ref q_7, .ref q_8, .ref q_9, .ref q_10])), (q_9, .inl (D.1 13, 8, .inl (fun _ => (-2)))), (q_10, .inl (D.1 13, 8, .inl (fun _ => (-2)))), (q_11, .inr (8, [.int 0, .int 0, .long 0, .ref q_13, .ref q_14, .ref q_15, .ref q_16, .ref q_17, .ref q_18, .ref q_19, .ref q_20])), (q_19, .inl (D.1 13, 8, .inl (fun _ => (-2)))), (q_20, .inl (D.1 13, 8, .inl (fun _ => (-2))))] H := hP
  have hD : va_D A [(h0, .inr (1, [.ref q_1, .ref q_11, .null, .int 0, .null, .null, .null, .null, .null])), (q_1, .inr (8, [.int 0, .int 0, .long 0, .ref q_3, .ref q_4, .ref q_5, .ref q_6, .ref q_7, .ref q_8, .ref q_9, .ref q_10])), (q_9, .inl (D.1 13, 8, .inl (fun _ => (-2)))), (q_10, .inl (D.1 13, 8, .inl (fun _ => (-2)))), (q_11, .inr (8, [.int 0, .int 0, .long 0, .ref q_13, .ref q_14, .ref q_15, .ref q_16, .ref q_17, .ref q_18, .ref q_19, .ref q_20])), (q_19, .inl (D.1 13, 8, .inl (fun _ => (-2)))), (q_20, .inl (D.1 13, 8, .inl (fun _ => (-2))))] := hD
  have hP := hP.sub (ws' := [(h0, .inr (1, [.ref q_1, .ref q_11, .null, .int 0, .null, .null, .null, .null, .null])), (q_1, .inr (8, [.int 0, .int 0, .long 0, .ref q_3, .ref q_4, .ref q_5, .ref q_6, .ref q_7, .ref q_8, .ref q_9, .ref q_10])), (q_9, .inl (D.1 13, 8, .inl (fun _ => (-2)))), (q_10, .inl (D.1 13, 8, .inl (fun _ => (-2))))]) [0, 1, 2, 3] rfl
  have hD := hD.sub (ws' := [(h0, .inr (1, [.ref q_1, .ref q_11, .null, .int 0, .null, .null, .null, .null, .null])), (q_1, .inr (8, [.int 0, .int 0, .long 0, .ref q_3, .ref q_4, .ref q_5, .ref q_6, .ref q_7, .ref q_8, .ref q_9, .ref q_10])), (q_9, .inl (D.1 13, 8, .inl (fun _ => (-2)))), (q_10, .inl (D.1 13, 8, .inl (fun _ => (-2))))]) [0, 1, 2, 3] (by decide) rfl
  refine lv_aload_n hx hb dX1_init_26 rfl (lv_at hl 0 rfl) ?_
  refine va_new (ci := 8) (fs := [.int 0, .int 0, .long 0, .null, .null, .null, .null, .null, .null, .null, .null]) (C := RX8) (T := TX8) (N := 11) hx hb ht inX8 tyX8 tyX8_ok hown (ht _ cx_X1_9) (ht _ ia_X8) (ht _ in_X8) hK hP hD hS hA rfl (by decide +kernel) (Nat.le_of_ble_eq_true rfl) (Nat.le_of_ble_eq_true rfl) dX1_init_27 (fun q_21 H hP hD hS => ?_)
  refine W.widen (k := 19) (n := 1601) (Nat.le_of_ble_eq_true rfl) (Nat.le_of_ble_eq_true rfl) ?_
  have hP : va_P D vwCl [(h0, .inr (1, [.ref q_1, .ref q_11, .null, .int 0, .null, .null, .null, .null, .null])), (q_1, .inr (8, [.int 0, .int 0, .long 0, .ref q_3, .ref q_4, .ref q_5, .ref q_6, .ref q_7, .ref q_8, .ref q_9, .ref q_10])), (q_9, .inl (D.1 13, 8, .inl (fun _ => (-2)))), (q_10, .inl (D.1 13, 8, .inl (fun _ => (-2)))), (q_21, .inr (8, [.int 0, .int 0, .long 0, .null, .null, .null, .null, .null, .null, .null, .null]))] H := hP
  have hD : va_D A [(h0, .inr (1, [.ref q_1, .ref q_11, .null, .int 0, .null, .null, .null, .null, .null])), (q_1, .inr (8, [.int 0, .int 0, .long 0, .ref q_3, .ref q_4, .ref q_5, .ref q_6, .ref q_7, .ref q_8, .ref q_9, .ref q_10])), (q_9, .inl (D.1 13, 8, .inl (fun _ => (-2)))), (q_10, .inl (D.1 13, 8, .inl (fun _ => (-2)))), (q_21, .inr (8, [.int 0, .int 0, .long 0, .null, .null, .null, .null, .null, .null, .null, .null]))] := hD
  refine lv_dup hx hb dX1_init_30 rfl ?_
  refine zwI (As := []) (rest := [.ref q_21, .ref h0]) (n := 0) (wr := [(h0, .inr (1, [.ref q_1, .ref q_11, .null, .int 0, .null, .null, .null, .null, .null])), (q_1, .inr (8, [.int 0, .int 0, .long 0, .ref q_3, .ref q_4, .ref q_5, .ref q_6, .ref q_7, .ref q_8, .ref q_9, .ref q_10])), (q_9, .inl (D.1 13, 8, .inl (fun _ => (-2)))), (q_10, .inl (D.1 13, 8, .inl (fun _ => (-2))))]) ⟨hx, hb, hml, hown, ht⟩ (k_X8_init l D _ q_21) co_X8_init rfl rfl in_X8 ml_X1_11 im_X8_init rfl (by decide +kernel) ⟨Nat.le_of_ble_eq_true rfl, Nat.le_of_ble_eq_true rfl⟩ hK hP hD hS hA [4] [0, 1, 2, 3] rfl rfl rfl rfl (by decide) rfl hl.1 rfl (Nat.le_of_ble_eq_true rfl) dX1_init_31 ⟨Nat.le_of_ble_eq_true rfl, Nat.le_of_ble_eq_true rfl⟩ (fun u_22 H locs hw hP hD hS => ?_)
  refine W.widen (k := 27) (n := 2385) (Nat.le_of_ble_eq_true rfl) (Nat.le_of_ble_eq_true rfl) ?_
  obtain ⟨q_23, q_24, q_25, q_26, q_27, q_28, q_29, q_30⟩ := u_22
  have hP : va_P D vwCl [(h0, .inr (1, [.ref q_1, .ref q_11, .null, .int 0, .null, .null, .null, .null, .null])), (q_1, .inr (8, [.int 0, .int 0, .long 0, .ref q_3, .ref q_4, .ref q_5, .ref q_6, .ref q_7, .ref q_8, .ref q_9, .ref q_10])), (q_9, .inl (D.1 13, 8, .inl (fun _ => (-2)))), (q_10, .inl (D.1 13, 8, .inl (fun _ => (-2)))), (q_21, .inr (8, [.int 0, .int 0, .long 0, .ref q_23, .ref q_24, .ref q_25, .ref q_26, .ref q_27, .ref q_28, .ref q_29, .ref q_30])), (q_29, .inl (D.1 13, 8, .inl (fun _ => (-2)))), (q_30, .inl (D.1 13, 8, .inl (fun _ => (-2))))] H := hP
  have hD : va_D A [(h0, .inr (1, [.ref q_1, .ref q_11, .null, .int 0, .null, .null, .null, .null, .null])), (q_1, .inr (8, [.int 0, .int 0, .long 0, .ref q_3, .ref q_4, .ref q_5, .ref q_6, .ref q_7, .ref q_8, .ref q_9, .ref q_10])), (q_9, .inl (D.1 13, 8, .inl (fun _ => (-2)))), (q_10, .inl (D.1 13, 8, .inl (fun _ => (-2)))), (q_21, .inr (8, [.int 0, .int 0, .long 0, .ref q_23, .ref q_24, .ref q_25, .ref q_26, .ref q_27, .ref q_28, .ref q_29, .ref q_30])), (q_29, .inl (D.1 13, 8, .inl (fun _ => (-2)))), (q_30, .inl (D.1 13, 8, .inl (fun _ => (-2))))] := hD
  refine va_putF (D := D) (ci := 1) (v := .ref q_21) (ty := .object "CloneVolumes$State") (C := RX1) (T := TX1) (N := 9) hx hb ht inX1 tyX1 tyX1_ok nmX1 hown hK hP hD hS 0 rfl rfl 2 (by decide) (ht (.fieldLink RX1 21 "CloneVolumes$Forest" "inner" "LCloneVolumes$State;") fl_X1_21) (fun _ h9 => h9) rfl hin rfl (by decide +kernel) rfl rfl (Nat.le_of_ble_eq_true rfl) dX1_init_34 (fun H locs hP hD hS => ?_)
  have hP : va_P D vwCl [(h0, .inr (1, [.ref q_1, .ref q_11, .ref q_21, .int 0, .null, .null, .null, .null, .null])), (q_1, .inr (8, [.int 0, .int 0, .long 0, .ref q_3, .ref q_4, .ref q_5, .ref q_6, .ref q_7, .ref q_8, .ref q_9, .ref q_10])), (q_9, .inl (D.1 13, 8, .inl (fun _ => (-2)))), (q_10, .inl (D.1 13, 8, .inl (fun _ => (-2)))), (q_21, .inr (8, [.int 0, .int 0, .long 0, .ref q_23, .ref q_24, .ref q_25, .ref q_26, .ref q_27, .ref q_28, .ref q_29, .ref q_30])), (q_29, .inl (D.1 13, 8, .inl (fun _ => (-2)))), (q_30, .inl (D.1 13, 8, .inl (fun _ => (-2))))] H := hP
  have hD : va_D A [(h0, .inr (1, [.ref q_1, .ref q_11, .ref q_21, .int 0, .null, .null, .null, .null, .null])), (q_1, .inr (8, [.int 0, .int 0, .long 0, .ref q_3, .ref q_4, .ref q_5, .ref q_6, .ref q_7, .ref q_8, .ref q_9, .ref q_10])), (q_9, .inl (D.1 13, 8, .inl (fun _ => (-2)))), (q_10, .inl (D.1 13, 8, .inl (fun _ => (-2)))), (q_21, .inr (8, [.int 0, .int 0, .long 0, .ref q_23, .ref q_24, .ref q_25, .ref q_26, .ref q_27, .ref q_28, .ref q_29, .ref q_30])), (q_29, .inl (D.1 13, 8, .inl (fun _ => (-2)))), (q_30, .inl (D.1 13, 8, .inl (fun _ => (-2))))] := hD
  have hP := hP.sub (ws' := [(h0, .inr (1, [.ref q_1, .ref q_11, .ref q_21, .int 0, .null, .null, .null, .null, .null])), (q_1, .inr (8, [.int 0, .int 0, .long 0, .ref q_3, .ref q_4, .ref q_5, .ref q_6, .ref q_7, .ref q_8, .ref q_9, .ref q_10])), (q_9, .inl (D.1 13, 8, .inl (fun _ => (-2)))), (q_10, .inl (D.1 13, 8, .inl (fun _ => (-2))))]) [0, 1, 2, 3] rfl
  have hD := hD.sub (ws' := [(h0, .inr (1, [.ref q_1, .ref q_11, .ref q_21, .int 0, .null, .null, .null, .null, .null])), (q_1, .inr (8, [.int 0, .int 0, .long 0, .ref q_3, .ref q_4, .ref q_5, .ref q_6, .ref q_7, .ref q_8, .ref q_9, .ref q_10])), (q_9, .inl (D.1 13, 8, .inl (fun _ => (-2)))), (q_10, .inl (D.1 13, 8, .inl (fun _ => (-2))))]) [0, 1, 2, 3] (by decide) rfl
  refine lv_aload_n hx hb dX1_init_37 rfl (lv_at hl 0 rfl) ?_
  refine lv_iconst (v := 1) hx hb dX1_init_38 (by decide) ?_
  refine va_put (D := D) (ci := 1) (v := .int 1) (ty := .int) (C := RX1) (T := TX1) (N := 9) hx hb ht inX1 tyX1 tyX1_ok nmX1 hown hK hP hD hS 0 rfl rfl 3 (by decide) (ht (.fieldLink RX1 24 "CloneVolumes$Forest" "seed" "I") fl_X1_24) (fun _ h9 => h9) rfl (by decide +kernel) rfl rfl (Nat.le_of_ble_eq_true rfl) dX1_init_39 (fun H locs hP hD hS => ?_)
  have hP : va_P D vwCl [(h0, .inr (1, [.ref q_1, .ref q_11, .ref q_21, .int 1, .null, .null, .null, .null, .null])), (q_1, .inr (8, [.int 0, .int 0, .long 0, .ref q_3, .ref q_4, .ref q_5, .ref q_6, .ref q_7, .ref q_8, .ref q_9, .ref q_10])), (q_9, .inl (D.1 13, 8, .inl (fun _ => (-2)))), (q_10, .inl (D.1 13, 8, .inl (fun _ => (-2))))] H := hP
  have hD : va_D A [(h0, .inr (1, [.ref q_1, .ref q_11, .ref q_21, .int 1, .null, .null, .null, .null, .null])), (q_1, .inr (8, [.int 0, .int 0, .long 0, .ref q_3, .ref q_4, .ref q_5, .ref q_6, .ref q_7, .ref q_8, .ref q_9, .ref q_10])), (q_9, .inl (D.1 13, 8, .inl (fun _ => (-2)))), (q_10, .inl (D.1 13, 8, .inl (fun _ => (-2))))] := hD
  refine lv_aload_n hx hb dX1_init_42 rfl (lv_at hl 0 rfl) ?_
  refine va_new (ci := 3) (fs := [.null, .int 0, .int 0, .int 0, .int 0, .int 0, .int 0, .int 0, .int 0, .null]) (C := RX3) (T := TX3) (N := 10) hx hb ht inX3 tyX3 tyX3_ok hown (ht _ cx_X1_28) (ht _ ia_X3) (ht _ in_X3) hK hP hD hS hA rfl (by decide +kernel) (Nat.le_of_ble_eq_true rfl) (Nat.le_of_ble_eq_true rfl) dX1_init_43 (fun q_31 H hP hD hS => ?_)
  refine W.widen (k := 28) (n := 2395) (Nat.le_of_ble_eq_true rfl) (Nat.le_of_ble_eq_true rfl) ?_
  have hP : va_P D vwCl [(h0, .inr (1, [.ref q_1, .ref q_11, .ref q_21, .int 1, .null, .null, .null, .null, .null])), (q_1, .inr (8, [.int 0, .int 0, .long 0, .ref q_3, .ref q_4, .ref q_5, .ref q_6, .ref q_7, .ref q_8, .ref q_9, .ref q_10])), (q_9, .inl (D.1 13, 8, .inl (fun _ => (-2)))), (q_10, .inl (D.1 13, 8, .inl (fun _ => (-2)))), (q_31, .inr (3, [.null, .int 0, .int 0, .int 0, .int 0, .int 0, .int 0, .int 0, .int 0, .null]))] H := hP
  have hD : va_D A [(h0, .inr (1, [.ref q_1, .ref q_11, .ref q_21, .int 1, .null, .null, .null, .null, .null])), (q_1, .inr (8, [.int 0, .int 0, .long 0, .ref q_3, .ref q_4, .ref q_5, .ref q_6, .ref q_7, .ref q_8, .ref q_9, .ref q_10])), (q_9, .inl (D.1 13, 8, .inl (fun _ => (-2)))), (q_10, .inl (D.1 13, 8, .inl (fun _ => (-2)))), (q_31, .inr (3, [.null, .int 0, .int 0, .int 0, .int 0, .int 0, .int 0, .int 0, .int 0, .null]))] := hD
  refine lv_dup hx hb dX1_init_46 rfl ?_
  refine lv_aload_n hx hb dX1_init_47 rfl (lv_at hl 0 rfl) ?_
  refine va_get (D := D) (ci := 1) (v := .ref q_1) (C := RX1) (T := TX1) (N := 9) hx hb ht inX1 hown hK hP 0 rfl rfl 0 (by decide) (ht (.fieldLink RX1 12 "CloneVolumes$Forest" "now" "LCloneVolumes$State;") fl_X1_12) (fun _ h9 => h9) rfl dX1_init_48 ?_
  refine zwI (As := [.ref q_1]) (rest := [.ref q_31, .ref h0]) (n := 1) (wr := [(h0, .inr (1, [.ref q_1, .ref q_11, .ref q_21, .int 1, .null, .null, .null, .null, .null])), (q_1, .inr (8, [.int 0, .int 0, .long 0, .ref q_3, .ref q_4, .ref q_5, .ref q_6, .ref q_7, .ref q_8, .ref q_9, .ref q_10])), (q_9, .inl (D.1 13, 8, .inl (fun _ => (-2)))), (q_10, .inl (D.1 13, 8, .inl (fun _ => (-2))))]) ⟨hx, hb, hml, hown, ht⟩ (k_X3_init l D _ q_31 q_1) co_X3_init rfl rfl in_X3 ml_X1_30 im_X3_init rfl (by decide +kernel) ⟨Nat.le_of_ble_eq_true rfl, Nat.le_of_ble_eq_true rfl⟩ hK hP hD hS hA [4] [0, 1, 2, 3] rfl rfl rfl rfl (by decide) rfl hl.1 rfl (Nat.le_of_ble_eq_true rfl) dX1_init_51 ⟨Nat.le_of_ble_eq_true rfl, Nat.le_of_ble_eq_true rfl⟩ (fun u_32 H locs hw hP hD hS => ?_)
  refine W.widen (k := 29) (n := 2459) (Nat.le_of_ble_eq_true rfl) (Nat.le_of_ble_eq_true rfl) ?_
  have hP : va_P D vwCl [(h0, .inr (1, [.ref q_1, .ref q_11, .ref q_21, .int 1, .null, .null, .null, .null, .null])), (q_1, .inr (8, [.int 0, .int 0, .long 0, .ref q_3, .ref q_4, .ref q_5, .ref q_6, .ref q_7, .ref q_8, .ref q_9, .ref q_10])), (q_9, .inl (D.1 13, 8, .inl (fun _ => (-2)))), (q_10, .inl (D.1 13, 8, .inl (fun _ => (-2)))), (q_31, .inr (3, [.ref u_32, .int 0, .int 0, .int 0, .int 0, .int 0, .int 0, .int 0, .int 0, .ref q_1]))] H := hP
  have hD : va_D A [(h0, .inr (1, [.ref q_1, .ref q_11, .ref q_21, .int 1, .null, .null, .null, .null, .null])), (q_1, .inr (8, [.int 0, .int 0, .long 0, .ref q_3, .ref q_4, .ref q_5, .ref q_6, .ref q_7, .ref q_8, .ref q_9, .ref q_10])), (q_9, .inl (D.1 13, 8, .inl (fun _ => (-2)))), (q_10, .inl (D.1 13, 8, .inl (fun _ => (-2)))), (q_31, .inr (3, [.ref u_32, .int 0, .int 0, .int 0, .int 0, .int 0, .int 0, .int 0, .int 0, .ref q_1]))] := hD
  refine va_putF (D := D) (ci := 1) (v := .ref q_31) (ty := .object "CloneVolumes$Machine") (C := RX1) (T := TX1) (N := 9) hx hb ht inX1 tyX1 tyX1_ok nmX1 hown hK hP hD hS 0 rfl rfl 5 (by decide) (ht (.fieldLink RX1 33 "CloneVolumes$Forest" "machine" "LCloneVolumes$Machine;") fl_X1_33) (fun _ h9 => h9) rfl hin rfl (by decide +kernel) rfl rfl (Nat.le_of_ble_eq_true rfl) dX1_init_54 (fun H locs hP hD hS => ?_)
  have hP : va_P D vwCl [(h0, .inr (1, [.ref q_1, .ref q_11, .ref q_21, .int 1, .null, .ref q_31, .null, .null, .null])), (q_1, .inr (8, [.int 0, .int 0, .long 0, .ref q_3, .ref q_4, .ref q_5, .ref q_6, .ref q_7, .ref q_8, .ref q_9, .ref q_10])), (q_9, .inl (D.1 13, 8, .inl (fun _ => (-2)))), (q_10, .inl (D.1 13, 8, .inl (fun _ => (-2)))), (q_31, .inr (3, [.ref u_32, .int 0, .int 0, .int 0, .int 0, .int 0, .int 0, .int 0, .int 0, .ref q_1]))] H := hP
  have hD : va_D A [(h0, .inr (1, [.ref q_1, .ref q_11, .ref q_21, .int 1, .null, .ref q_31, .null, .null, .null])), (q_1, .inr (8, [.int 0, .int 0, .long 0, .ref q_3, .ref q_4, .ref q_5, .ref q_6, .ref q_7, .ref q_8, .ref q_9, .ref q_10])), (q_9, .inl (D.1 13, 8, .inl (fun _ => (-2)))), (q_10, .inl (D.1 13, 8, .inl (fun _ => (-2)))), (q_31, .inr (3, [.ref u_32, .int 0, .int 0, .int 0, .int 0, .int 0, .int 0, .int 0, .int 0, .ref q_1]))] := hD
  have hP := hP.sub (ws' := [(h0, .inr (1, [.ref q_1, .ref q_11, .ref q_21, .int 1, .null, .ref q_31, .null, .null, .null])), (q_1, .inr (8, [.int 0, .int 0, .long 0, .ref q_3, .ref q_4, .ref q_5, .ref q_6, .ref q_7, .ref q_8, .ref q_9, .ref q_10])), (q_9, .inl (D.1 13, 8, .inl (fun _ => (-2)))), (q_10, .inl (D.1 13, 8, .inl (fun _ => (-2))))]) [0, 1, 2, 3] rfl
  have hD := hD.sub (ws' := [(h0, .inr (1, [.ref q_1, .ref q_11, .ref q_21, .int 1, .null, .ref q_31, .null, .null, .null])), (q_1, .inr (8, [.int 0, .int 0, .long 0, .ref q_3, .ref q_4, .ref q_5, .ref q_6, .ref q_7, .ref q_8, .ref q_9, .ref q_10])), (q_9, .inl (D.1 13, 8, .inl (fun _ => (-2)))), (q_10, .inl (D.1 13, 8, .inl (fun _ => (-2))))]) [0, 1, 2, 3] (by decide) rfl
  refine lv_aload_n hx hb dX1_init_57 rfl (lv_at hl 0 rfl) ?_
  refine lv_bipush (v := 48) hx hb dX1_init_58 (by decide) ?_
  refine va_newa (atype := .int) (a0 := (48, .inl (fun _ => 0))) (ty := .int) (N' := 48) hx hb (ht _ ac_int) rfl hK hP hD hS hA (fun _ => rfl) (by decide) (by decide) (by decide) (Nat.le_of_ble_eq_true rfl) (Nat.le_of_ble_eq_true rfl) dX1_init_60 (fun q_33 cA H hK2 hP hD hS => ?_)
  obtain rfl := z_cls_int hK hK2
  refine W.widen (k := 30) (n := 2507) (Nat.le_of_ble_eq_true rfl) (Nat.le_of_ble_eq_true rfl) ?_
  have hP : va_P D vwCl [(h0, .inr (1, [.ref q_1, .ref q_11, .ref q_21, .int 1, .null, .ref q_31, .null, .null, .null])), (q_1, .inr (8, [.int 0, .int 0, .long 0, .ref q_3, .ref q_4, .ref q_5, .ref q_6, .ref q_7, .ref q_8, .ref q_9, .ref q_10])), (q_9, .inl (D.1 13, 8, .inl (fun _ => (-2)))), (q_10, .inl (D.1 13, 8, .inl (fun _ => (-2)))), (q_33, .inl (D.1 13, 48, .inl (fun _ => 0)))] H := hP
  have hD : va_D A [(h0, .inr (1, [.ref q_1, .ref q_11, .ref q_21, .int 1, .null, .ref q_31, .null, .null, .null])), (q_1, .inr (8, [.int 0, .int 0, .long 0, .ref q_3, .ref q_4, .ref q_5, .ref q_6, .ref q_7, .ref q_8, .ref q_9, .ref q_10])), (q_9, .inl (D.1 13, 8, .inl (fun _ => (-2)))), (q_10, .inl (D.1 13, 8, .inl (fun _ => (-2)))), (q_33, .inl (D.1 13, 48, .inl (fun _ => 0)))] := hD
  refine va_putF (D := D) (ci := 1) (v := .ref q_33) (ty := .array .int) (C := RX1) (T := TX1) (N := 9) hx hb ht inX1 tyX1 tyX1_ok nmX1 hown hK hP hD hS 0 rfl rfl 6 (by decide) (ht (.fieldLink RX1 37 "CloneVolumes$Forest" "chain" "[I") fl_X1_37) (fun _ h9 => h9) rfl hin rfl (by decide +kernel) rfl rfl (Nat.le_of_ble_eq_true rfl) dX1_init_62 (fun H locs hP hD hS => ?_)
  have hP : va_P D vwCl [(h0, .inr (1, [.ref q_1, .ref q_11, .ref q_21, .int 1, .null, .ref q_31, .ref q_33, .null, .null])), (q_1, .inr (8, [.int 0, .int 0, .long 0, .ref q_3, .ref q_4, .ref q_5, .ref q_6, .ref q_7, .ref q_8, .ref q_9, .ref q_10])), (q_9, .inl (D.1 13, 8, .inl (fun _ => (-2)))), (q_10, .inl (D.1 13, 8, .inl (fun _ => (-2)))), (q_33, .inl (D.1 13, 48, .inl (fun _ => 0)))] H := hP
  have hD : va_D A [(h0, .inr (1, [.ref q_1, .ref q_11, .ref q_21, .int 1, .null, .ref q_31, .ref q_33, .null, .null])), (q_1, .inr (8, [.int 0, .int 0, .long 0, .ref q_3, .ref q_4, .ref q_5, .ref q_6, .ref q_7, .ref q_8, .ref q_9, .ref q_10])), (q_9, .inl (D.1 13, 8, .inl (fun _ => (-2)))), (q_10, .inl (D.1 13, 8, .inl (fun _ => (-2)))), (q_33, .inl (D.1 13, 48, .inl (fun _ => 0)))] := hD
  have hP := hP.sub (ws' := [(h0, .inr (1, [.ref q_1, .ref q_11, .ref q_21, .int 1, .null, .ref q_31, .ref q_33, .null, .null])), (q_1, .inr (8, [.int 0, .int 0, .long 0, .ref q_3, .ref q_4, .ref q_5, .ref q_6, .ref q_7, .ref q_8, .ref q_9, .ref q_10])), (q_9, .inl (D.1 13, 8, .inl (fun _ => (-2)))), (q_10, .inl (D.1 13, 8, .inl (fun _ => (-2))))]) [0, 1, 2, 3] rfl
  have hD := hD.sub (ws' := [(h0, .inr (1, [.ref q_1, .ref q_11, .ref q_21, .int 1, .null, .ref q_31, .ref q_33, .null, .null])), (q_1, .inr (8, [.int 0, .int 0, .long 0, .ref q_3, .ref q_4, .ref q_5, .ref q_6, .ref q_7, .ref q_8, .ref q_9, .ref q_10])), (q_9, .inl (D.1 13, 8, .inl (fun _ => (-2)))), (q_10, .inl (D.1 13, 8, .inl (fun _ => (-2))))]) [0, 1, 2, 3] (by decide) rfl
  refine lv_aload_n hx hb dX1_init_65 rfl (lv_at hl 0 rfl) ?_
  refine lv_bipush (v := 48) hx hb dX1_init_66 (by decide) ?_
  refine va_newa (atype := .int) (a0 := (48, .inl (fun _ => 0))) (ty := .int) (N' := 48) hx hb (ht _ ac_int) rfl hK hP hD hS hA (fun _ => rfl) (by decide) (by decide) (by decide) (Nat.le_of_ble_eq_true rfl) (Nat.le_of_ble_eq_true rfl) dX1_init_68 (fun q_34 cA H hK2 hP hD hS => ?_)
  obtain rfl := z_cls_int hK hK2
  refine W.widen (k := 31) (n := 2555) (Nat.le_of_ble_eq_true rfl) (Nat.le_of_ble_eq_true rfl) ?_
  have hP : va_P D vwCl [(h0, .inr (1, [.ref q_1, .ref q_11, .ref q_21, .int 1, .null, .ref q_31, .ref q_33, .null, .null])), (q_1, .inr (8, [.int 0, .int 0, .long 0, .ref q_3, .ref q_4, .ref q_5, .ref q_6, .ref q_7, .ref q_8, .ref q_9, .ref q_10])), (q_9, .inl (D.1 13, 8, .inl (fun _ => (-2)))), (q_10, .inl (D.1 13, 8, .inl (fun _ => (-2)))), (q_34, .inl (D.1 13, 48, .inl (fun _ => 0)))] H := hP
  have hD : va_D A [(h0, .inr (1, [.ref q_1, .ref q_11, .ref q_21, .int 1, .null, .ref q_31, .ref q_33, .null, .null])), (q_1, .inr (8, [.int 0, .int 0, .long 0, .ref q_3, .ref q_4, .ref q_5, .ref q_6, .ref q_7, .ref q_8, .ref q_9, .ref q_10])), (q_9, .inl (D.1 13, 8, .inl (fun _ => (-2)))), (q_10, .inl (D.1 13, 8, .inl (fun _ => (-2)))), (q_34, .inl (D.1 13, 48, .inl (fun _ => 0)))] := hD
  refine va_putF (D := D) (ci := 1) (v := .ref q_34) (ty := .array .int) (C := RX1) (T := TX1) (N := 9) hx hb ht inX1 tyX1 tyX1_ok nmX1 hown hK hP hD hS 0 rfl rfl 7 (by decide) (ht (.fieldLink RX1 41 "CloneVolumes$Forest" "turns" "[I") fl_X1_41) (fun _ h9 => h9) rfl hin rfl (by decide +kernel) rfl rfl (Nat.le_of_ble_eq_true rfl) dX1_init_70 (fun H locs hP hD hS => ?_)
  have hP : va_P D vwCl [(h0, .inr (1, [.ref q_1, .ref q_11, .ref q_21, .int 1, .null, .ref q_31, .ref q_33, .ref q_34, .null])), (q_1, .inr (8, [.int 0, .int 0, .long 0, .ref q_3, .ref q_4, .ref q_5, .ref q_6, .ref q_7, .ref q_8, .ref q_9, .ref q_10])), (q_9, .inl (D.1 13, 8, .inl (fun _ => (-2)))), (q_10, .inl (D.1 13, 8, .inl (fun _ => (-2)))), (q_34, .inl (D.1 13, 48, .inl (fun _ => 0)))] H := hP
  have hD : va_D A [(h0, .inr (1, [.ref q_1, .ref q_11, .ref q_21, .int 1, .null, .ref q_31, .ref q_33, .ref q_34, .null])), (q_1, .inr (8, [.int 0, .int 0, .long 0, .ref q_3, .ref q_4, .ref q_5, .ref q_6, .ref q_7, .ref q_8, .ref q_9, .ref q_10])), (q_9, .inl (D.1 13, 8, .inl (fun _ => (-2)))), (q_10, .inl (D.1 13, 8, .inl (fun _ => (-2)))), (q_34, .inl (D.1 13, 48, .inl (fun _ => 0)))] := hD
  have hP := hP.sub (ws' := [(h0, .inr (1, [.ref q_1, .ref q_11, .ref q_21, .int 1, .null, .ref q_31, .ref q_33, .ref q_34, .null])), (q_1, .inr (8, [.int 0, .int 0, .long 0, .ref q_3, .ref q_4, .ref q_5, .ref q_6, .ref q_7, .ref q_8, .ref q_9, .ref q_10])), (q_9, .inl (D.1 13, 8, .inl (fun _ => (-2)))), (q_10, .inl (D.1 13, 8, .inl (fun _ => (-2))))]) [0, 1, 2, 3] rfl
  have hD := hD.sub (ws' := [(h0, .inr (1, [.ref q_1, .ref q_11, .ref q_21, .int 1, .null, .ref q_31, .ref q_33, .ref q_34, .null])), (q_1, .inr (8, [.int 0, .int 0, .long 0, .ref q_3, .ref q_4, .ref q_5, .ref q_6, .ref q_7, .ref q_8, .ref q_9, .ref q_10])), (q_9, .inl (D.1 13, 8, .inl (fun _ => (-2)))), (q_10, .inl (D.1 13, 8, .inl (fun _ => (-2))))]) [0, 1, 2, 3] (by decide) rfl
  refine lv_aload_n hx hb dX1_init_73 rfl (lv_at hl 0 rfl) ?_
  refine lv_bipush (v := 48) hx hb dX1_init_74 (by decide) ?_
  refine va_newa (atype := .int) (a0 := (48, .inl (fun _ => 0))) (ty := .int) (N' := 48) hx hb (ht _ ac_int) rfl hK hP hD hS hA (fun _ => rfl) (by decide) (by decide) (by decide) (Nat.le_of_ble_eq_true rfl) (Nat.le_of_ble_eq_true rfl) dX1_init_76 (fun q_35 cA H hK2 hP hD hS => ?_)
  obtain rfl := z_cls_int hK hK2
  refine W.widen (k := 32) (n := 2603) (Nat.le_of_ble_eq_true rfl) (Nat.le_of_ble_eq_true rfl) ?_
  have hP : va_P D vwCl [(h0, .inr (1, [.ref q_1, .ref q_11, .ref q_21, .int 1, .null, .ref q_31, .ref q_33, .ref q_34, .null])), (q_1, .inr (8, [.int 0, .int 0, .long 0, .ref q_3, .ref q_4, .ref q_5, .ref q_6, .ref q_7, .ref q_8, .ref q_9, .ref q_10])), (q_9, .inl (D.1 13, 8, .inl (fun _ => (-2)))), (q_10, .inl (D.1 13, 8, .inl (fun _ => (-2)))), (q_35, .inl (D.1 13, 48, .inl (fun _ => 0)))] H := hP
  have hD : va_D A [(h0, .inr (1, [.ref q_1, .ref q_11, .ref q_21, .int 1, .null, .ref q_31, .ref q_33, .ref q_34, .null])), (q_1, .inr (8, [.int 0, .int 0, .long 0, .ref q_3, .ref q_4, .ref q_5, .ref q_6, .ref q_7, .ref q_8, .ref q_9, .ref q_10])), (q_9, .inl (D.1 13, 8, .inl (fun _ => (-2)))), (q_10, .inl (D.1 13, 8, .inl (fun _ => (-2)))), (q_35, .inl (D.1 13, 48, .inl (fun _ => 0)))] := hD
  refine va_putF (D := D) (ci := 1) (v := .ref q_35) (ty := .array .int) (C := RX1) (T := TX1) (N := 9) hx hb ht inX1 tyX1 tyX1_ok nmX1 hown hK hP hD hS 0 rfl rfl 8 (by decide) (ht (.fieldLink RX1 44 "CloneVolumes$Forest" "counts" "[I") fl_X1_44) (fun _ h9 => h9) rfl hin rfl (by decide +kernel) rfl rfl (Nat.le_of_ble_eq_true rfl) dX1_init_78 (fun H locs hP hD hS => ?_)
  have hP : va_P D vwCl [(h0, .inr (1, [.ref q_1, .ref q_11, .ref q_21, .int 1, .null, .ref q_31, .ref q_33, .ref q_34, .ref q_35])), (q_1, .inr (8, [.int 0, .int 0, .long 0, .ref q_3, .ref q_4, .ref q_5, .ref q_6, .ref q_7, .ref q_8, .ref q_9, .ref q_10])), (q_9, .inl (D.1 13, 8, .inl (fun _ => (-2)))), (q_10, .inl (D.1 13, 8, .inl (fun _ => (-2)))), (q_35, .inl (D.1 13, 48, .inl (fun _ => 0)))] H := hP
  have hD : va_D A [(h0, .inr (1, [.ref q_1, .ref q_11, .ref q_21, .int 1, .null, .ref q_31, .ref q_33, .ref q_34, .ref q_35])), (q_1, .inr (8, [.int 0, .int 0, .long 0, .ref q_3, .ref q_4, .ref q_5, .ref q_6, .ref q_7, .ref q_8, .ref q_9, .ref q_10])), (q_9, .inl (D.1 13, 8, .inl (fun _ => (-2)))), (q_10, .inl (D.1 13, 8, .inl (fun _ => (-2)))), (q_35, .inl (D.1 13, 48, .inl (fun _ => 0)))] := hD
  have hP := hP.sub (ws' := [(h0, .inr (1, [.ref q_1, .ref q_11, .ref q_21, .int 1, .null, .ref q_31, .ref q_33, .ref q_34, .ref q_35])), (q_1, .inr (8, [.int 0, .int 0, .long 0, .ref q_3, .ref q_4, .ref q_5, .ref q_6, .ref q_7, .ref q_8, .ref q_9, .ref q_10])), (q_9, .inl (D.1 13, 8, .inl (fun _ => (-2)))), (q_10, .inl (D.1 13, 8, .inl (fun _ => (-2))))]) [0, 1, 2, 3] rfl
  have hD := hD.sub (ws' := [(h0, .inr (1, [.ref q_1, .ref q_11, .ref q_21, .int 1, .null, .ref q_31, .ref q_33, .ref q_34, .ref q_35])), (q_1, .inr (8, [.int 0, .int 0, .long 0, .ref q_3, .ref q_4, .ref q_5, .ref q_6, .ref q_7, .ref q_8, .ref q_9, .ref q_10])), (q_9, .inl (D.1 13, 8, .inl (fun _ => (-2)))), (q_10, .inl (D.1 13, 8, .inl (fun _ => (-2))))]) [0, 1, 2, 3] (by decide) rfl
  refine lv_aload_n hx hb dX1_init_81 rfl (lv_at hl 0 rfl) ?_
  refine lv_aload_n hx hb dX1_init_82 rfl (lv_at hl 1 rfl) ?_
  refine va_put (D := D) (ci := 1) (v := .ref h1) (ty := .object "CloneVolumes$Plan") (C := RX1) (T := TX1) (N := 9) hx hb ht inX1 tyX1 tyX1_ok nmX1 hown hK hP hD hS 0 rfl rfl 4 (by decide) (ht (.fieldLink RX1 47 "CloneVolumes$Forest" "plan" "LCloneVolumes$Plan;") fl_X1_47) (fun _ h9 => h9) rfl (by decide +kernel) rfl rfl (Nat.le_of_ble_eq_true rfl) dX1_init_83 (fun H locs hP hD hS => ?_)
  have hP : va_P D vwCl [(h0, .inr (1, [.ref q_1, .ref q_11, .ref q_21, .int 1, .ref h1, .ref q_31, .ref q_33, .ref q_34, .ref q_35])), (q_1, .inr (8, [.int 0, .int 0, .long 0, .ref q_3, .ref q_4, .ref q_5, .ref q_6, .ref q_7, .ref q_8, .ref q_9, .ref q_10])), (q_9, .inl (D.1 13, 8, .inl (fun _ => (-2)))), (q_10, .inl (D.1 13, 8, .inl (fun _ => (-2))))] H := hP
  have hD : va_D A [(h0, .inr (1, [.ref q_1, .ref q_11, .ref q_21, .int 1, .ref h1, .ref q_31, .ref q_33, .ref q_34, .ref q_35])), (q_1, .inr (8, [.int 0, .int 0, .long 0, .ref q_3, .ref q_4, .ref q_5, .ref q_6, .ref q_7, .ref q_8, .ref q_9, .ref q_10])), (q_9, .inl (D.1 13, 8, .inl (fun _ => (-2)))), (q_10, .inl (D.1 13, 8, .inl (fun _ => (-2))))] := hD
  have hP9 := hP.sub (ws' := [(h0, .inr (1, [.ref q_1, .ref q_11, .ref q_21, .int 1, .ref h1, .ref q_31, .ref q_33, .ref q_34, .ref q_35])), (q_1, .inr (8, [.int 0, .int 0, .long 0, .ref q_3, .ref q_4, .ref q_5, .ref q_6, .ref q_7, .ref q_8, .ref q_9, .ref q_10])), (q_9, .inl (D.1 13, 8, .inl (fun _ => (-2)))), (q_10, .inl (D.1 13, 8, .inl (fun _ => (-2))))]) [0, 1, 2, 3] rfl
  have hD9 := hD.sub (ws' := [(h0, .inr (1, [.ref q_1, .ref q_11, .ref q_21, .int 1, .ref h1, .ref q_31, .ref q_33, .ref q_34, .ref q_35])), (q_1, .inr (8, [.int 0, .int 0, .long 0, .ref q_3, .ref q_4, .ref q_5, .ref q_6, .ref q_7, .ref q_8, .ref q_9, .ref q_10])), (q_9, .inl (D.1 13, 8, .inl (fun _ => (-2)))), (q_10, .inl (D.1 13, 8, .inl (fun _ => (-2))))]) [0, 1, 2, 3] (by decide) rfl
  refine W.widen (k := 32) (n := 2603) (Nat.le_of_ble_eq_true rfl) (Nat.le_of_ble_eq_true rfl) ?_
  exact W.vret hx hb hr (fun t ht hW => ⟨⟨(q_1, q_11, q_21, q_31, q_33, q_34, q_35, q_3, q_4, q_5, q_6, q_7, q_8, q_9, q_10), rfl, trivial, by rw [ht]; exact hP9, va_K.moved hW.alike hK, hD9⟩, hS.F ht⟩) hS.2.2 dX1_init_86
