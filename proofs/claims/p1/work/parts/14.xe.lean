theorem fl_X5_43 : Cond.fieldLink RX5 43 "CloneVolumes$Plan" "statements" "I" ∈ lw_gd := zm (List.mem_of_getElem? (i := 480) (by decide +kernel)) rfl
theorem fl_X5_47 : Cond.fieldLink RX5 47 "CloneVolumes$Plan" "volumes" "I" ∈ lw_gd := zm (List.mem_of_getElem? (i := 483) (by decide +kernel)) rfl
theorem fl_X5_50 : Cond.fieldLink RX5 50 "CloneVolumes$Plan" "changes" "I" ∈ lw_gd := zm (List.mem_of_getElem? (i := 486) (by decide +kernel)) rfl
theorem fl_X5_53 : Cond.fieldLink RX5 53 "CloneVolumes$Plan" "churn" "I" ∈ lw_gd := zm (List.mem_of_getElem? (i := 477) (by decide +kernel)) rfl
theorem fl_X5_30 : Cond.fieldLink RX5 30 "CloneVolumes$Plan" "code" "LCloneVolumes$Code;" ∈ lw_gd := zm (List.mem_of_getElem? (i := 498) (by decide +kernel)) rfl
theorem fl_X5_56 : Cond.fieldLink RX5 56 "CloneVolumes$Code" "size" "I" ∈ lw_gd := zm (List.mem_of_getElem? (i := 458) (by decide +kernel)) rfl
theorem fl_X5_34 : Cond.fieldLink RX5 34 "CloneVolumes$Plan" "begins" "[I" ∈ lw_gd := zm (List.mem_of_getElem? (i := 502) (by decide +kernel)) rfl
theorem fl_X5_37 : Cond.fieldLink RX5 37 "CloneVolumes$Plan" "ends" "[I" ∈ lw_gd := zm (List.mem_of_getElem? (i := 505) (by decide +kernel)) rfl
theorem fl_X6_61 : Cond.fieldLink RX6 61 "CloneVolumes$Reader" "fault" "I" ∈ lw_gd := zm (List.mem_of_getElem? (i := 298) (by decide +kernel)) rfl
theorem fl_X6_88 : Cond.fieldLink RX6 88 "CloneVolumes$Reader" "stop" "I" ∈ lw_gd := zm (List.mem_of_getElem? (i := 309) (by decide +kernel)) rfl
theorem fl_X6_51 : Cond.fieldLink RX6 51 "CloneVolumes$Reader" "start" "I" ∈ lw_gd := zm (List.mem_of_getElem? (i := 308) (by decide +kernel)) rfl
theorem fl_X6_27 : Cond.fieldLink RX6 27 "CloneVolumes$Reader" "tape" "LCloneVolumes$Tape;" ∈ lw_gd := zm (List.mem_of_getElem? (i := 302) (by decide +kernel)) rfl
theorem fl_X6_91 : Cond.fieldLink RX6 91 "CloneVolumes$Tape" "length" "I" ∈ lw_gd := zm (List.mem_of_getElem? (i := 238) (by decide +kernel)) rfl
theorem fl_X6_72 : Cond.fieldLink RX6 72 "CloneVolumes$Reader" "word" "I" ∈ lw_gd := zm (List.mem_of_getElem? (i := 310) (by decide +kernel)) rfl
theorem ml_X6_104 : Cond.methodLink RX6 104 yX9_at ∈ lw_gd := zm (List.mem_of_getElem? (i := 780) (by decide +kernel)) rfl
theorem im_X9_at : Cond.instanceMethod yX9_at ∈ lw_gd := zm (List.mem_of_getElem? (i := 781) (by decide +kernel)) rfl
theorem se_X9_at : Cond.selects RX9 yX9_at yX9_at ∈ lw_gd := zm (List.mem_of_getElem? (i := 782) (by decide +kernel)) rfl
theorem co_X9_at : Cond.code yX9_at cX9_at 2 (some .int) ∈ lw_gd := zm (List.mem_of_getElem? (i := 783) (by decide +kernel)) rfl
theorem fl_X6_108 : Cond.fieldLink RX6 108 "CloneVolumes$Reader" "sign" "I" ∈ lw_gd := zm (List.mem_of_getElem? (i := 311) (by decide +kernel)) rfl
theorem fl_X6_44 : Cond.fieldLink RX6 44 "CloneVolumes$Reader" "kind" "I" ∈ lw_gd := zm (List.mem_of_getElem? (i := 307) (by decide +kernel)) rfl
theorem fl_X6_84 : Cond.fieldLink RX6 84 "CloneVolumes$Reader" "code" "LCloneVolumes$Code;" ∈ lw_gd := zm (List.mem_of_getElem? (i := 304) (by decide +kernel)) rfl
theorem fl_X6_9 : Cond.fieldLink RX6 9 "CloneVolumes$Reader" "place" "I" ∈ lw_gd := zm (List.mem_of_getElem? (i := 300) (by decide +kernel)) rfl
theorem fl_X6_85 : Cond.fieldLink RX6 85 "CloneVolumes$Reader" "open" "I" ∈ lw_gd := zm (List.mem_of_getElem? (i := 306) (by decide +kernel)) rfl
theorem ml_X6_75 : Cond.methodLink RX6 75 yX6_advance ∈ lw_gd := zm (List.mem_of_getElem? (i := 773) (by decide +kernel)) rfl
theorem im_X6_advance : Cond.instanceMethod yX6_advance ∈ lw_gd := zm (List.mem_of_getElem? (i := 775) (by decide +kernel)) rfl
theorem se_X6_advance : Cond.selects RX6 yX6_advance yX6_advance ∈ lw_gd := zm (List.mem_of_getElem? (i := 2) (by decide +kernel)) rfl
theorem in_X6 : Cond.initialized RX6 ∈ lw_gd := zm (List.mem_of_getElem? (i := 200) (by decide +kernel)) rfl
theorem co_X6_advance : Cond.code yX6_advance cX6_advance 2 none ∈ lw_gd := zm (List.mem_of_getElem? (i := 776) (by decide +kernel)) rfl
theorem ml_X6_31 : Cond.methodLink RX6 31 yX5_clear ∈ lw_gd := zm (List.mem_of_getElem? (i := 768) (by decide +kernel)) rfl
theorem im_X5_clear : Cond.instanceMethod yX5_clear ∈ lw_gd := zm (List.mem_of_getElem? (i := 468) (by decide +kernel)) rfl
theorem se_X5_clear : Cond.selects RX5 yX5_clear yX5_clear ∈ lw_gd := zm (List.mem_of_getElem? (i := 469) (by decide +kernel)) rfl
theorem in_X5 : Cond.initialized RX5 ∈ lw_gd := zm (List.mem_of_getElem? (i := 209) (by decide +kernel)) rfl
theorem co_X5_clear : Cond.code yX5_clear cX5_clear 2 none ∈ lw_gd := zm (List.mem_of_getElem? (i := 470) (by decide +kernel)) rfl
theorem fl_X6_36 : Cond.fieldLink RX6 36 "CloneVolumes$Plan" "code" "LCloneVolumes$Code;" ∈ lw_gd := zm (List.mem_of_getElem? (i := 499) (by decide +kernel)) rfl
theorem ml_X6_40 : Cond.methodLink RX6 40 yX6_begin ∈ lw_gd := zm (List.mem_of_getElem? (i := 769) (by decide +kernel)) rfl
theorem im_X6_begin : Cond.instanceMethod yX6_begin ∈ lw_gd := zm (List.mem_of_getElem? (i := 771) (by decide +kernel)) rfl
theorem se_X6_begin : Cond.selects RX6 yX6_begin yX6_begin ∈ lw_gd := zm (List.mem_of_getElem? (i := 1) (by decide +kernel)) rfl
theorem co_X6_begin : Cond.code yX6_begin cX6_begin 2 none ∈ lw_gd := zm (List.mem_of_getElem? (i := 772) (by decide +kernel)) rfl
theorem fl_X6_58 : Cond.fieldLink RX6 58 "CloneVolumes$Plan" "statements" "I" ∈ lw_gd := zm (List.mem_of_getElem? (i := 481) (by decide +kernel)) rfl
theorem ml_X6_54 : Cond.methodLink RX6 54 yX6_fail ∈ lw_gd := zm (List.mem_of_getElem? (i := 798) (by decide +kernel)) rfl
theorem im_X6_fail : Cond.instanceMethod yX6_fail ∈ lw_gd := zm (List.mem_of_getElem? (i := 800) (by decide +kernel)) rfl
theorem se_X6_fail : Cond.selects RX6 yX6_fail yX6_fail ∈ lw_gd := zm (List.mem_of_getElem? (i := 5) (by decide +kernel)) rfl
theorem co_X6_fail : Cond.code yX6_fail cX6_fail 3 (some .boolean) ∈ lw_gd := zm (List.mem_of_getElem? (i := 801) (by decide +kernel)) rfl
theorem fl_X11_71 : Cond.fieldLink RX11 71 "CloneVolumes" "spare" "LCloneVolumes$Plan;" ∈ lw_gd := zm (List.mem_of_getElem? (i := 710) (by decide +kernel)) rfl
theorem ml_X11_99 : Cond.methodLink RX11 99 yX6_readStore ∈ lw_gd := zm (List.mem_of_getElem? (i := 764) (by decide +kernel)) rfl
theorem im_X6_readStore : Cond.instanceMethod yX6_readStore ∈ lw_gd := zm (List.mem_of_getElem? (i := 765) (by decide +kernel)) rfl
theorem se_X6_readStore : Cond.selects RX6 yX6_readStore yX6_readStore ∈ lw_gd := zm (List.mem_of_getElem? (i := 766) (by decide +kernel)) rfl
theorem co_X6_readStore : Cond.code yX6_readStore cX6_readStore 3 (some .boolean) ∈ lw_gd := zm (List.mem_of_getElem? (i := 767) (by decide +kernel)) rfl
theorem dX11_store_0 : decode cX11_store 0 = .ok (.aload_n 0, 1) := by decide +kernel
theorem dX11_store_1 : decode cX11_store 1 = .ok (.getfield 21, 3) := by decide +kernel
theorem dX11_store_4 : decode cX11_store 4 = .ok (.aload_n 0, 1) := by decide +kernel
theorem dX11_store_5 : decode cX11_store 5 = .ok (.getfield 71, 3) := by decide +kernel
theorem dX11_store_8 : decode cX11_store 8 = .ok (.invokevirtual 99, 3) := by decide +kernel
theorem dX11_store_11 : decode cX11_store 11 = .ok (.istore_n 1, 1) := by decide +kernel
theorem dX11_store_12 : decode cX11_store 12 = .ok (.aload_n 0, 1) := by decide +kernel
theorem dX11_store_13 : decode cX11_store 13 = .ok (.getfield 12, 3) := by decide +kernel
theorem dX11_store_16 : decode cX11_store 16 = .ok (.iconst 0, 1) := by decide +kernel
theorem dX11_store_17 : decode cX11_store 17 = .ok (.putfield 95, 3) := by decide +kernel
theorem dX11_store_20 : decode cX11_store 20 = .ok (.iload_n 1, 1) := by decide +kernel
theorem dX11_store_21 : decode cX11_store 21 = .ok (.ifCond .ne 9, 3) := by decide +kernel
theorem dX11_store_24 : decode cX11_store 24 = .ok (.aload_n 0, 1) := by decide +kernel
theorem dX11_store_25 : decode cX11_store 25 = .ok (.iconst 1, 1) := by decide +kernel
theorem dX11_store_26 : decode cX11_store 26 = .ok (.invokevirtual 87, 3) := by decide +kernel
theorem dX11_store_29 : decode cX11_store 29 = .ok (.ireturn, 1) := by decide +kernel
theorem dX5_clear_0 : decode cX5_clear 0 = .ok (.aload_n 0, 1) := by decide +kernel
theorem dX5_clear_1 : decode cX5_clear 1 = .ok (.iconst 0, 1) := by decide +kernel
theorem dX5_clear_2 : decode cX5_clear 2 = .ok (.putfield 43, 3) := by decide +kernel
theorem dX5_clear_5 : decode cX5_clear 5 = .ok (.aload_n 0, 1) := by decide +kernel
theorem dX5_clear_6 : decode cX5_clear 6 = .ok (.iconst 0, 1) := by decide +kernel
theorem dX5_clear_7 : decode cX5_clear 7 = .ok (.putfield 47, 3) := by decide +kernel
theorem dX5_clear_10 : decode cX5_clear 10 = .ok (.aload_n 0, 1) := by decide +kernel
theorem dX5_clear_11 : decode cX5_clear 11 = .ok (.iconst 0, 1) := by decide +kernel
theorem dX5_clear_12 : decode cX5_clear 12 = .ok (.putfield 50, 3) := by decide +kernel
theorem dX5_clear_15 : decode cX5_clear 15 = .ok (.aload_n 0, 1) := by decide +kernel
theorem dX5_clear_16 : decode cX5_clear 16 = .ok (.iconst 0, 1) := by decide +kernel
theorem dX5_clear_17 : decode cX5_clear 17 = .ok (.putfield 53, 3) := by decide +kernel
theorem dX5_clear_20 : decode cX5_clear 20 = .ok (.aload_n 0, 1) := by decide +kernel
theorem dX5_clear_21 : decode cX5_clear 21 = .ok (.getfield 30, 3) := by decide +kernel
theorem dX5_clear_24 : decode cX5_clear 24 = .ok (.iconst 0, 1) := by decide +kernel
theorem dX5_clear_25 : decode cX5_clear 25 = .ok (.putfield 56, 3) := by decide +kernel
theorem dX5_clear_28 : decode cX5_clear 28 = .ok (.iconst 0, 1) := by decide +kernel
theorem dX5_clear_29 : decode cX5_clear 29 = .ok (.istore_n 1, 1) := by decide +kernel
theorem dX5_clear_30 : decode cX5_clear 30 = .ok (.iload_n 1, 1) := by decide +kernel
theorem dX5_clear_31 : decode cX5_clear 31 = .ok (.iconst 3, 1) := by decide +kernel
theorem dX5_clear_32 : decode cX5_clear 32 = .ok (.if_icmp .ge 23, 3) := by decide +kernel
theorem dX5_clear_35 : decode cX5_clear 35 = .ok (.aload_n 0, 1) := by decide +kernel
theorem dX5_clear_36 : decode cX5_clear 36 = .ok (.getfield 34, 3) := by decide +kernel
theorem dX5_clear_39 : decode cX5_clear 39 = .ok (.iload_n 1, 1) := by decide +kernel
theorem dX5_clear_40 : decode cX5_clear 40 = .ok (.iconst (-1), 1) := by decide +kernel
theorem dX5_clear_41 : decode cX5_clear 41 = .ok (.iastore, 1) := by decide +kernel
theorem dX5_clear_42 : decode cX5_clear 42 = .ok (.aload_n 0, 1) := by decide +kernel
theorem dX5_clear_43 : decode cX5_clear 43 = .ok (.getfield 37, 3) := by decide +kernel
theorem dX5_clear_46 : decode cX5_clear 46 = .ok (.iload_n 1, 1) := by decide +kernel
theorem dX5_clear_47 : decode cX5_clear 47 = .ok (.iconst (-1), 1) := by decide +kernel
theorem dX5_clear_48 : decode cX5_clear 48 = .ok (.iastore, 1) := by decide +kernel
theorem dX5_clear_49 : decode cX5_clear 49 = .ok (.iinc 1 1, 3) := by decide +kernel
theorem dX5_clear_52 : decode cX5_clear 52 = .ok (.goto (-22), 3) := by decide +kernel
theorem dX5_clear_55 : decode cX5_clear 55 = .ok (.return_, 1) := by decide +kernel
theorem dX6_advance_0 : decode cX6_advance 0 = .ok (.aload_n 0, 1) := by decide +kernel
theorem dX6_advance_1 : decode cX6_advance 1 = .ok (.getfield 61, 3) := by decide +kernel
theorem dX6_advance_4 : decode cX6_advance 4 = .ok (.ifCond .eq 4, 3) := by decide +kernel
theorem dX6_advance_8 : decode cX6_advance 8 = .ok (.aload_n 0, 1) := by decide +kernel
theorem dX6_advance_9 : decode cX6_advance 9 = .ok (.aload_n 0, 1) := by decide +kernel
theorem dX6_advance_10 : decode cX6_advance 10 = .ok (.getfield 88, 3) := by decide +kernel
theorem dX6_advance_13 : decode cX6_advance 13 = .ok (.putfield 51, 3) := by decide +kernel
theorem dX6_advance_16 : decode cX6_advance 16 = .ok (.aload_n 0, 1) := by decide +kernel
theorem dX6_advance_17 : decode cX6_advance 17 = .ok (.getfield 51, 3) := by decide +kernel
theorem dX6_advance_20 : decode cX6_advance 20 = .ok (.aload_n 0, 1) := by decide +kernel
theorem dX6_advance_21 : decode cX6_advance 21 = .ok (.getfield 27, 3) := by decide +kernel
theorem dX6_advance_24 : decode cX6_advance 24 = .ok (.getfield 91, 3) := by decide +kernel
theorem dX6_advance_27 : decode cX6_advance 27 = .ok (.if_icmp .ge 34, 3) := by decide +kernel
theorem dX6_advance_61 : decode cX6_advance 61 = .ok (.aload_n 0, 1) := by decide +kernel
theorem dX6_advance_62 : decode cX6_advance 62 = .ok (.aload_n 0, 1) := by decide +kernel
theorem dX6_advance_63 : decode cX6_advance 63 = .ok (.getfield 51, 3) := by decide +kernel
theorem dX6_advance_66 : decode cX6_advance 66 = .ok (.putfield 88, 3) := by decide +kernel
theorem dX6_advance_69 : decode cX6_advance 69 = .ok (.aload_n 0, 1) := by decide +kernel
theorem dX6_advance_70 : decode cX6_advance 70 = .ok (.iconst (-1), 1) := by decide +kernel
theorem dX6_advance_71 : decode cX6_advance 71 = .ok (.putfield 72, 3) := by decide +kernel
theorem dX6_advance_74 : decode cX6_advance 74 = .ok (.aload_n 0, 1) := by decide +kernel
theorem dX6_advance_75 : decode cX6_advance 75 = .ok (.aload_n 0, 1) := by decide +kernel
theorem dX6_advance_76 : decode cX6_advance 76 = .ok (.getfield 27, 3) := by decide +kernel
theorem dX6_advance_79 : decode cX6_advance 79 = .ok (.aload_n 0, 1) := by decide +kernel
theorem dX6_advance_80 : decode cX6_advance 80 = .ok (.getfield 51, 3) := by decide +kernel
theorem dX6_advance_83 : decode cX6_advance 83 = .ok (.invokevirtual 104, 3) := by decide +kernel
theorem dX6_advance_86 : decode cX6_advance 86 = .ok (.putfield 108, 3) := by decide +kernel
theorem dX6_advance_89 : decode cX6_advance 89 = .ok (.aload_n 0, 1) := by decide +kernel
theorem dX6_advance_90 : decode cX6_advance 90 = .ok (.getfield 108, 3) := by decide +kernel
theorem dX6_advance_93 : decode cX6_advance 93 = .ok (.iconst (-1), 1) := by decide +kernel
theorem dX6_advance_94 : decode cX6_advance 94 = .ok (.if_icmp .ne 11, 3) := by decide +kernel
theorem dX6_advance_97 : decode cX6_advance 97 = .ok (.aload_n 0, 1) := by decide +kernel
theorem dX6_advance_98 : decode cX6_advance 98 = .ok (.iconst 0, 1) := by decide +kernel
theorem dX6_advance_99 : decode cX6_advance 99 = .ok (.putfield 44, 3) := by decide +kernel
theorem dX6_advance_102 : decode cX6_advance 102 = .ok (.goto 149, 3) := by decide +kernel
theorem dX6_advance_251 : decode cX6_advance 251 = .ok (.aload_n 0, 1) := by decide +kernel
theorem dX6_advance_252 : decode cX6_advance 252 = .ok (.getfield 27, 3) := by decide +kernel
theorem dX6_advance_255 : decode cX6_advance 255 = .ok (.aload_n 0, 1) := by decide +kernel
theorem dX6_advance_256 : decode cX6_advance 256 = .ok (.getfield 51, 3) := by decide +kernel
theorem dX6_advance_259 : decode cX6_advance 259 = .ok (.iconst 1, 1) := by decide +kernel
theorem dX6_advance_260 : decode cX6_advance 260 = .ok (.isub, 1) := by decide +kernel
theorem dX6_advance_261 : decode cX6_advance 261 = .ok (.invokevirtual 104, 3) := by decide +kernel
theorem dX6_advance_264 : decode cX6_advance 264 = .ok (.istore_n 1, 1) := by decide +kernel
theorem dX6_advance_265 : decode cX6_advance 265 = .ok (.aload_n 0, 1) := by decide +kernel
theorem dX6_advance_266 : decode cX6_advance 266 = .ok (.getfield 44, 3) := by decide +kernel
theorem dX6_advance_269 : decode cX6_advance 269 = .ok (.iconst 1, 1) := by decide +kernel
theorem dX6_advance_270 : decode cX6_advance 270 = .ok (.if_icmp .eq 11, 3) := by decide +kernel
theorem dX6_advance_273 : decode cX6_advance 273 = .ok (.aload_n 0, 1) := by decide +kernel
theorem dX6_advance_274 : decode cX6_advance 274 = .ok (.getfield 44, 3) := by decide +kernel
theorem dX6_advance_277 : decode cX6_advance 277 = .ok (.iconst 2, 1) := by decide +kernel
theorem dX6_advance_278 : decode cX6_advance 278 = .ok (.if_icmp .ne 22, 3) := by decide +kernel
theorem dX6_advance_300 : decode cX6_advance 300 = .ok (.return_, 1) := by decide +kernel
theorem dX6_begin_0 : decode cX6_begin 0 = .ok (.aload_n 0, 1) := by decide +kernel
theorem dX6_begin_1 : decode cX6_begin 1 = .ok (.aload_n 1, 1) := by decide +kernel
theorem dX6_begin_2 : decode cX6_begin 2 = .ok (.putfield 84, 3) := by decide +kernel
theorem dX6_begin_5 : decode cX6_begin 5 = .ok (.aload_n 0, 1) := by decide +kernel
theorem dX6_begin_6 : decode cX6_begin 6 = .ok (.iconst 0, 1) := by decide +kernel
theorem dX6_begin_7 : decode cX6_begin 7 = .ok (.putfield 61, 3) := by decide +kernel
theorem dX6_begin_10 : decode cX6_begin 10 = .ok (.aload_n 0, 1) := by decide +kernel
theorem dX6_begin_11 : decode cX6_begin 11 = .ok (.iconst (-1), 1) := by decide +kernel
theorem dX6_begin_12 : decode cX6_begin 12 = .ok (.putfield 9, 3) := by decide +kernel
theorem dX6_begin_15 : decode cX6_begin 15 = .ok (.aload_n 0, 1) := by decide +kernel
theorem dX6_begin_16 : decode cX6_begin 16 = .ok (.iconst 0, 1) := by decide +kernel
theorem dX6_begin_17 : decode cX6_begin 17 = .ok (.putfield 85, 3) := by decide +kernel
theorem dX6_begin_20 : decode cX6_begin 20 = .ok (.aload_n 0, 1) := by decide +kernel
theorem dX6_begin_21 : decode cX6_begin 21 = .ok (.iconst 0, 1) := by decide +kernel
theorem dX6_begin_22 : decode cX6_begin 22 = .ok (.putfield 88, 3) := by decide +kernel
theorem dX6_begin_25 : decode cX6_begin 25 = .ok (.aload_n 0, 1) := by decide +kernel
theorem dX6_begin_26 : decode cX6_begin 26 = .ok (.invokevirtual 75, 3) := by decide +kernel
theorem dX6_begin_29 : decode cX6_begin 29 = .ok (.return_, 1) := by decide +kernel
theorem dX6_fail_0 : decode cX6_fail 0 = .ok (.aload_n 0, 1) := by decide +kernel
theorem dX6_fail_1 : decode cX6_fail 1 = .ok (.getfield 61, 3) := by decide +kernel
theorem dX6_fail_4 : decode cX6_fail 4 = .ok (.ifCond .ne 18, 3) := by decide +kernel
theorem dX6_fail_7 : decode cX6_fail 7 = .ok (.aload_n 0, 1) := by decide +kernel
theorem dX6_fail_8 : decode cX6_fail 8 = .ok (.iload_n 1, 1) := by decide +kernel
theorem dX6_fail_9 : decode cX6_fail 9 = .ok (.putfield 61, 3) := by decide +kernel
theorem dX6_fail_12 : decode cX6_fail 12 = .ok (.aload_n 0, 1) := by decide +kernel
theorem dX6_fail_13 : decode cX6_fail 13 = .ok (.iload_n 2, 1) := by decide +kernel
theorem dX6_fail_14 : decode cX6_fail 14 = .ok (.putfield 9, 3) := by decide +kernel
theorem dX6_fail_17 : decode cX6_fail 17 = .ok (.aload_n 0, 1) := by decide +kernel
theorem dX6_fail_18 : decode cX6_fail 18 = .ok (.iconst 0, 1) := by decide +kernel
theorem dX6_fail_19 : decode cX6_fail 19 = .ok (.putfield 44, 3) := by decide +kernel
theorem dX6_fail_22 : decode cX6_fail 22 = .ok (.iconst 0, 1) := by decide +kernel
theorem dX6_fail_23 : decode cX6_fail 23 = .ok (.ireturn, 1) := by decide +kernel
theorem dX6_readStore_0 : decode cX6_readStore 0 = .ok (.aload_n 1, 1) := by decide +kernel
theorem dX6_readStore_1 : decode cX6_readStore 1 = .ok (.invokevirtual 31, 3) := by decide +kernel
theorem dX6_readStore_4 : decode cX6_readStore 4 = .ok (.aload_n 0, 1) := by decide +kernel
theorem dX6_readStore_5 : decode cX6_readStore 5 = .ok (.aload_n 1, 1) := by decide +kernel
theorem dX6_readStore_6 : decode cX6_readStore 6 = .ok (.getfield 36, 3) := by decide +kernel
theorem dX6_readStore_9 : decode cX6_readStore 9 = .ok (.invokevirtual 40, 3) := by decide +kernel
theorem dX6_readStore_12 : decode cX6_readStore 12 = .ok (.iconst 0, 1) := by decide +kernel
theorem dX6_readStore_13 : decode cX6_readStore 13 = .ok (.istore_n 2, 1) := by decide +kernel
theorem dX6_readStore_14 : decode cX6_readStore 14 = .ok (.iload_n 2, 1) := by decide +kernel
theorem dX6_readStore_15 : decode cX6_readStore 15 = .ok (.bipush 60, 2) := by decide +kernel
theorem dX6_readStore_17 : decode cX6_readStore 17 = .ok (.if_icmp .ge 21, 3) := by decide +kernel
theorem dX6_readStore_20 : decode cX6_readStore 20 = .ok (.aload_n 0, 1) := by decide +kernel
theorem dX6_readStore_21 : decode cX6_readStore 21 = .ok (.getfield 44, 3) := by decide +kernel
theorem dX6_readStore_24 : decode cX6_readStore 24 = .ok (.ifCond .eq 14, 3) := by decide +kernel
theorem dX6_readStore_38 : decode cX6_readStore 38 = .ok (.aload_n 0, 1) := by decide +kernel
theorem dX6_readStore_39 : decode cX6_readStore 39 = .ok (.getfield 44, 3) := by decide +kernel
theorem dX6_readStore_42 : decode cX6_readStore 42 = .ok (.ifCond .eq 16, 3) := by decide +kernel
theorem dX6_readStore_58 : decode cX6_readStore 58 = .ok (.aload_n 1, 1) := by decide +kernel
theorem dX6_readStore_59 : decode cX6_readStore 59 = .ok (.getfield 58, 3) := by decide +kernel
theorem dX6_readStore_62 : decode cX6_readStore 62 = .ok (.ifCond .ne 13, 3) := by decide +kernel
theorem dX6_readStore_65 : decode cX6_readStore 65 = .ok (.aload_n 0, 1) := by decide +kernel
theorem dX6_readStore_66 : decode cX6_readStore 66 = .ok (.iconst 1, 1) := by decide +kernel
theorem dX6_readStore_67 : decode cX6_readStore 67 = .ok (.aload_n 0, 1) := by decide +kernel
theorem dX6_readStore_68 : decode cX6_readStore 68 = .ok (.getfield 51, 3) := by decide +kernel
theorem dX6_readStore_71 : decode cX6_readStore 71 = .ok (.invokevirtual 54, 3) := by decide +kernel
theorem dX6_readStore_74 : decode cX6_readStore 74 = .ok (.pop, 1) := by decide +kernel
theorem dX6_readStore_75 : decode cX6_readStore 75 = .ok (.aload_n 0, 1) := by decide +kernel
theorem dX6_readStore_76 : decode cX6_readStore 76 = .ok (.getfield 61, 3) := by decide +kernel
theorem dX6_readStore_79 : decode cX6_readStore 79 = .ok (.ifCond .ne 7, 3) := by decide +kernel
theorem dX6_readStore_86 : decode cX6_readStore 86 = .ok (.iconst 0, 1) := by decide +kernel
theorem dX6_readStore_87 : decode cX6_readStore 87 = .ok (.ireturn, 1) := by decide +kernel
set_option maxHeartbeats 4000000 in
set_option maxRecDepth 100000 in
theorem k_X5_clear (l : Launch) (D : va_G) (sz : Nat) (h0 h1 h2 h3 x1 x2 x3 x4 x5 x6 : Nat) (fb fe : Nat → Int32) : Met l yX5_clear (wz yX5_clear cX5_clear 2 none) { frames := 0, cells := 0, slots := 0, locals := 0 } (va_Pc [.ref h0] (zW D sz [(h0, .inr (5, [.int 0, .int 0, .int 0, .int 0, .int 0, .int 0, .ref x1, .ref x2, .ref x3, .ref x4, .ref x5, .ref h1, .ref h2, .ref h3])), (h1, .inr (0, [.ref x6, .int 0])), (h2, .inl (D.1 13, 3, .inl fb)), (h3, .inl (D.1 13, 3, .inl fe))])) (va_Qv (fun (_ : ((Nat → Int32) × (Nat → Int32))) => True) (fun u t => zB D (va_A [(h0, .inr (5, [.int 0, .int 0, .int 0, .int 0, .int 0, .int 0, .ref x1, .ref x2, .ref x3, .ref x4, .ref x5, .ref h1, .ref h2, .ref h3])), (h1, .inr (0, [.ref x6, .int 0])), (h2, .inl (D.1 13, 3, .inl fb)), (h3, .inl (D.1 13, 3, .inl fe))] sz) ((fun (u : ((Nat → Int32) × (Nat → Int32))) => [(h0, .inr (5, [.int 0, .int 0, .int 0, .int 0, .int 0, .int 0, .ref x1, .ref x2, .ref x3, .ref x4, .ref x5, .ref h1, .ref h2, .ref h3])), (h1, .inr (0, [.ref x6, .int 0])), (h2, .inl (D.1 13, 3, .inl u.1)), (h3, .inl (D.1 13, 3, .inl u.2))]) u) t) (va_A [(h0, .inr (5, [.int 0, .int 0, .int 0, .int 0, .int 0, .int 0, .ref x1, .ref x2, .ref x3, .ref x4, .ref x5, .ref h1, .ref h2, .ref h3])), (h1, .inr (0, [.ref x6, .int 0])), (h2, .inl (D.1 13, 3, .inl fb)), (h3, .inl (D.1 13, 3, .inl fe))] sz)) 0 0 (va_A [(h0, .inr (5, [.int 0, .int 0, .int 0, .int 0, .int 0, .int 0, .ref x1, .ref x2, .ref x3, .ref x4, .ref x5, .ref h1, .ref h2, .ref h3])), (h1, .inr (0, [.ref x6, .int 0])), (h2, .inl (D.1 13, 3, .inl fb)), (h3, .inl (D.1 13, 3, .inl fe))] sz) := by
  refine Met.ofW (cc := cX5_clear) (maxL := 2) (ret := none) (by decide) rfl ?_
  intro p e s m args below meth c s₁ B hml hv
  obtain ⟨rfl, hsz, hP, hK, hD0⟩ := hv
  have hx := B.exec
  have hb := B.bytes
  have hr := B.returns
  have hts := atoms_spec (ws := wz yX5_clear cX5_clear 2 none) B.pre
  have ht : ∀ w ∈ lw_gd, w.before _ s = true := fun w h => hts w (List.mem_cons_of_mem _ h)
  have hown : s.vm.findClass RX5 = some m.cls := findClass_of_methodNamed B.named
  have hlocks := B.notSynchronized
  subst hsz
  have hD := hD0.self (sz := s.heap.size)
  generalize hAe : va_A [(h0, .inr (5, [.int 0, .int 0, .int 0, .int 0, .int 0, .int 0, .ref x1, .ref x2, .ref x3, .ref x4, .ref x5, .ref h1, .ref h2, .ref h3])), (h1, .inr (0, [.ref x6, .int 0])), (h2, .inl (D.1 13, 3, .inl fb)), (h3, .inl (D.1 13, 3, .inl fe))] s.heap.size = A at hD ⊢
  have hA : ∀ q : Nat, s.heap.size ≤ q → A q := fun q h => by rw [← hAe]; exact Or.inr h
  have hS : va_S A s.heap s.heap [] := va_S.rf
  have hl := lv_entry ([.ref h0]) (n := 2) (Nat.le_of_ble_eq_true rfl)
  rw [lg_entry_eq]
  generalize (lg_sl ([.ref h0]) ++ List.replicate (2 - (lg_sl ([.ref h0])).length) Slot.unset).toArray = ls at hl ⊢
  have hl : lv_has ls 2 [(0, .ref h0)] := hl
  refine lv_aload_n hx hb dX5_clear_0 rfl (lv_at hl 0 rfl) ?_
  refine lv_iconst (v := 0) hx hb dX5_clear_1 (by decide) ?_
  refine va_put (D := D) (ci := 5) (v := .int 0) (ty := .int) (C := RX5) (T := TX5) (N := 14) hx hb ht inX5 tyX5 tyX5_ok nmX5 hown hK hP hD hS 0 rfl rfl 3 (by decide) (ht (.fieldLink RX5 43 "CloneVolumes$Plan" "statements" "I") fl_X5_43) (fun _ h9 => h9) rfl (by decide +kernel) rfl rfl (Nat.le_of_ble_eq_true rfl) dX5_clear_2 (fun H locs hP hD hS => ?_)
  have hP : va_P D vwCl [(h0, .inr (5, [.int 0, .int 0, .int 0, .int 0, .int 0, .int 0, .ref x1, .ref x2, .ref x3, .ref x4, .ref x5, .ref h1, .ref h2, .ref h3])), (h1, .inr (0, [.ref x6, .int 0])), (h2, .inl (D.1 13, 3, .inl fb)), (h3, .inl (D.1 13, 3, .inl fe))] H := hP
  have hD : va_D A [(h0, .inr (5, [.int 0, .int 0, .int 0, .int 0, .int 0, .int 0, .ref x1, .ref x2, .ref x3, .ref x4, .ref x5, .ref h1, .ref h2, .ref h3])), (h1, .inr (0, [.ref x6, .int 0])), (h2, .inl (D.1 13, 3, .inl fb)), (h3, .inl (D.1 13, 3, .inl fe))] := hD
  refine lv_aload_n hx hb dX5_clear_5 rfl (lv_at hl 0 rfl) ?_
  refine lv_iconst (v := 0) hx hb dX5_clear_6 (by decide) ?_
  refine va_put (D := D) (ci := 5) (v := .int 0) (ty := .int) (C := RX5) (T := TX5) (N := 14) hx hb ht inX5 tyX5 tyX5_ok nmX5 hown hK hP hD hS 0 rfl rfl 4 (by decide) (ht (.fieldLink RX5 47 "CloneVolumes$Plan" "volumes" "I") fl_X5_47) (fun _ h9 => h9) rfl (by decide +kernel) rfl rfl (Nat.le_of_ble_eq_true rfl) dX5_clear_7 (fun H locs hP hD hS => ?_)
  have hP : va_P D vwCl [(h0, .inr (5, [.int 0, .int 0, .int 0, .int 0, .int 0, .int 0, .ref x1, .ref x2, .ref x3, .ref x4, .ref x5, .ref h1, .ref h2, .ref h3])), (h1, .inr (0, [.ref x6, .int 0])), (h2, .inl (D.1 13, 3, .inl fb)), (h3, .inl (D.1 13, 3, .inl fe))] H := hP
  have hD : va_D A [(h0, .inr (5, [.int 0, .int 0, .int 0, .int 0, .int 0, .int 0, .ref x1, .ref x2, .ref x3, .ref x4, .ref x5, .ref h1, .ref h2, .ref h3])), (h1, .inr (0, [.ref x6, .int 0])), (h2, .inl (D.1 13, 3, .inl fb)), (h3, .inl (D.1 13, 3, .inl fe))] := hD
  refine lv_aload_n hx hb dX5_clear_10 rfl (lv_at hl 0 rfl) ?_
  refine lv_iconst (v := 0) hx hb dX5_clear_11 (by decide) ?_
  refine va_put (D := D) (ci := 5) (v := .int 0) (ty := .int) (C := RX5) (T := TX5) (N := 14) hx hb ht inX5 tyX5 tyX5_ok nmX5 hown hK hP hD hS 0 rfl rfl 5 (by decide) (ht (.fieldLink RX5 50 "CloneVolumes$Plan" "changes" "I") fl_X5_50) (fun _ h9 => h9) rfl (by decide +kernel) rfl rfl (Nat.le_of_ble_eq_true rfl) dX5_clear_12 (fun H locs hP hD hS => ?_)
  have hP : va_P D vwCl [(h0, .inr (5, [.int 0, .int 0, .int 0, .int 0, .int 0, .int 0, .ref x1, .ref x2, .ref x3, .ref x4, .ref x5, .ref h1, .ref h2, .ref h3])), (h1, .inr (0, [.ref x6, .int 0])), (h2, .inl (D.1 13, 3, .inl fb)), (h3, .inl (D.1 13, 3, .inl fe))] H := hP
  have hD : va_D A [(h0, .inr (5, [.int 0, .int 0, .int 0, .int 0, .int 0, .int 0, .ref x1, .ref x2, .ref x3, .ref x4, .ref x5, .ref h1, .ref h2, .ref h3])), (h1, .inr (0, [.ref x6, .int 0])), (h2, .inl (D.1 13, 3, .inl fb)), (h3, .inl (D.1 13, 3, .inl fe))] := hD
  refine lv_aload_n hx hb dX5_clear_15 rfl (lv_at hl 0 rfl) ?_
  refine lv_iconst (v := 0) hx hb dX5_clear_16 (by decide) ?_
  refine va_put (D := D) (ci := 5) (v := .int 0) (ty := .int) (C := RX5) (T := TX5) (N := 14) hx hb ht inX5 tyX5 tyX5_ok nmX5 hown hK hP hD hS 0 rfl rfl 2 (by decide) (ht (.fieldLink RX5 53 "CloneVolumes$Plan" "churn" "I") fl_X5_53) (fun _ h9 => h9) rfl (by decide +kernel) rfl rfl (Nat.le_of_ble_eq_true rfl) dX5_clear_17 (fun H locs hP hD hS => ?_)
  have hP : va_P D vwCl [(h0, .inr (5, [.int 0, .int 0, .int 0, .int 0, .int 0, .int 0, .ref x1, .ref x2, .ref x3, .ref x4, .ref x5, .ref h1, .ref h2, .ref h3])), (h1, .inr (0, [.ref x6, .int 0])), (h2, .inl (D.1 13, 3, .inl fb)), (h3, .inl (D.1 13, 3, .inl fe))] H := hP
  have hD : va_D A [(h0, .inr (5, [.int 0, .int 0, .int 0, .int 0, .int 0, .int 0, .ref x1, .ref x2, .ref x3, .ref x4, .ref x5, .ref h1, .ref h2, .ref h3])), (h1, .inr (0, [.ref x6, .int 0])), (h2, .inl (D.1 13, 3, .inl fb)), (h3, .inl (D.1 13, 3, .inl fe))] := hD
  refine lv_aload_n hx hb dX5_clear_20 rfl (lv_at hl 0 rfl) ?_
  refine va_get (D := D) (ci := 5) (v := .ref h1) (C := RX5) (T := TX5) (N := 14) hx hb ht inX5 hown hK hP 0 rfl rfl 11 (by decide) (ht (.fieldLink RX5 30 "CloneVolumes$Plan" "code" "LCloneVolumes$Code;") fl_X5_30) (fun _ h9 => h9) rfl dX5_clear_21 ?_
  refine lv_iconst (v := 0) hx hb dX5_clear_24 (by decide) ?_
  refine va_put (D := D) (ci := 0) (v := .int 0) (ty := .int) (C := RX0) (T := TX0) (N := 2) hx hb ht inX0 tyX0 tyX0_ok nmX0 hown hK hP hD hS 1 rfl rfl 1 (by decide) (ht (.fieldLink RX5 56 "CloneVolumes$Code" "size" "I") fl_X5_56) (fun _ h9 => h9) rfl (by decide +kernel) rfl rfl (Nat.le_of_ble_eq_true rfl) dX5_clear_25 (fun H locs hP hD hS => ?_)
  have hP : va_P D vwCl [(h0, .inr (5, [.int 0, .int 0, .int 0, .int 0, .int 0, .int 0, .ref x1, .ref x2, .ref x3, .ref x4, .ref x5, .ref h1, .ref h2, .ref h3])), (h1, .inr (0, [.ref x6, .int 0])), (h2, .inl (D.1 13, 3, .inl fb)), (h3, .inl (D.1 13, 3, .inl fe))] H := hP
  have hD : va_D A [(h0, .inr (5, [.int 0, .int 0, .int 0, .int 0, .int 0, .int 0, .ref x1, .ref x2, .ref x3, .ref x4, .ref x5, .ref h1, .ref h2, .ref h3])), (h1, .inr (0, [.ref x6, .int 0])), (h2, .inl (D.1 13, 3, .inl fb)), (h3, .inl (D.1 13, 3, .inl fe))] := hD
  refine lv_iconst (v := 0) hx hb dX5_clear_28 (by decide) ?_
  refine lv_istore_n (lv' := [(1, .int 0), (0, .ref h0)]) hx hb dX5_clear_29 rfl hl (by decide) rfl (fun ls hl => ?_)
  refine lv_iload_n hx hb dX5_clear_30 rfl (lv_at hl 0 rfl) ?_
  refine lv_iconst (v := 3) hx hb dX5_clear_31 (by decide) ?_
  refine lv_icmp_ge (tgt := 55) hx hb dX5_clear_32 (by decide) (fun c_1 => (z_abs c_1 (by decide)).elim) (fun _ => ?_)
  refine lv_aload_n hx hb dX5_clear_35 rfl (lv_at hl 1 rfl) ?_
  refine va_get (D := D) (ci := 5) (v := .ref h2) (C := RX5) (T := TX5) (N := 14) hx hb ht inX5 hown hK hP 0 rfl rfl 12 (by decide) (ht (.fieldLink RX5 34 "CloneVolumes$Plan" "begins" "[I") fl_X5_34) (fun _ h9 => h9) rfl dX5_clear_36 ?_
  refine lv_iload_n hx hb dX5_clear_39 rfl (lv_at hl 0 rfl) ?_
  refine lv_iconst (v := (-1)) hx hb dX5_clear_40 (by decide) ?_
  refine va_iast hx hb hK hP hD hS 2 0 rfl rfl (z_in (by decide) (by decide)) dX5_clear_41 (fun H locs hP hD hS => ?_)
  generalize hf_3 : upd _ _ _ = f_3 at hP hD
  have hP : va_P D vwCl [(h0, .inr (5, [.int 0, .int 0, .int 0, .int 0, .int 0, .int 0, .ref x1, .ref x2, .ref x3, .ref x4, .ref x5, .ref h1, .ref h2, .ref h3])), (h1, .inr (0, [.ref x6, .int 0])), (h2, .inl (D.1 13, 3, .inl f_3)), (h3, .inl (D.1 13, 3, .inl fe))] H := hP
  have hD : va_D A [(h0, .inr (5, [.int 0, .int 0, .int 0, .int 0, .int 0, .int 0, .ref x1, .ref x2, .ref x3, .ref x4, .ref x5, .ref h1, .ref h2, .ref h3])), (h1, .inr (0, [.ref x6, .int 0])), (h2, .inl (D.1 13, 3, .inl f_3)), (h3, .inl (D.1 13, 3, .inl fe))] := hD
  refine lv_aload_n hx hb dX5_clear_42 rfl (lv_at hl 1 rfl) ?_
  refine va_get (D := D) (ci := 5) (v := .ref h3) (C := RX5) (T := TX5) (N := 14) hx hb ht inX5 hown hK hP 0 rfl rfl 13 (by decide) (ht (.fieldLink RX5 37 "CloneVolumes$Plan" "ends" "[I") fl_X5_37) (fun _ h9 => h9) rfl dX5_clear_43 ?_
  refine lv_iload_n hx hb dX5_clear_46 rfl (lv_at hl 0 rfl) ?_
  refine lv_iconst (v := (-1)) hx hb dX5_clear_47 (by decide) ?_
  refine va_iast hx hb hK hP hD hS 3 0 rfl rfl (z_in (by decide) (by decide)) dX5_clear_48 (fun H locs hP hD hS => ?_)
  generalize hf_4 : upd _ _ _ = f_4 at hP hD
  have hP : va_P D vwCl [(h0, .inr (5, [.int 0, .int 0, .int 0, .int 0, .int 0, .int 0, .ref x1, .ref x2, .ref x3, .ref x4, .ref x5, .ref h1, .ref h2, .ref h3])), (h1, .inr (0, [.ref x6, .int 0])), (h2, .inl (D.1 13, 3, .inl f_3)), (h3, .inl (D.1 13, 3, .inl f_4))] H := hP
  have hD : va_D A [(h0, .inr (5, [.int 0, .int 0, .int 0, .int 0, .int 0, .int 0, .ref x1, .ref x2, .ref x3, .ref x4, .ref x5, .ref h1, .ref h2, .ref h3])), (h1, .inr (0, [.ref x6, .int 0])), (h2, .inl (D.1 13, 3, .inl f_3)), (h3, .inl (D.1 13, 3, .inl f_4))] := hD
  refine lv_iinc (v := 1) (lv' := [(1, .int 1), (0, .ref h0)]) hx hb dX5_clear_49 hl (k := 0) rfl (by decide) (by decide) rfl (fun ls hl => ?_)
  refine lv_goto (tgt := 30) hx hb dX5_clear_52 (by decide) ?_
  refine lv_iload_n hx hb dX5_clear_30 rfl (lv_at hl 0 rfl) ?_
  refine lv_iconst (v := 3) hx hb dX5_clear_31 (by decide) ?_
  refine lv_icmp_ge (tgt := 55) hx hb dX5_clear_32 (by decide) (fun c_5 => (z_abs c_5 (by decide)).elim) (fun _ => ?_)
  refine lv_aload_n hx hb dX5_clear_35 rfl (lv_at hl 1 rfl) ?_
  refine va_get (D := D) (ci := 5) (v := .ref h2) (C := RX5) (T := TX5) (N := 14) hx hb ht inX5 hown hK hP 0 rfl rfl 12 (by decide) (ht (.fieldLink RX5 34 "CloneVolumes$Plan" "begins" "[I") fl_X5_34) (fun _ h9 => h9) rfl dX5_clear_36 ?_
  refine lv_iload_n hx hb dX5_clear_39 rfl (lv_at hl 0 rfl) ?_
  refine lv_iconst (v := (-1)) hx hb dX5_clear_40 (by decide) ?_
  refine va_iast hx hb hK hP hD hS 2 0 rfl rfl (z_in (by decide) (by decide)) dX5_clear_41 (fun H locs hP hD hS => ?_)
  generalize hf_7 : upd _ _ _ = f_7 at hP hD
  have hP : va_P D vwCl [(h0, .inr (5, [.int 0, .int 0, .int 0, .int 0, .int 0, .int 0, .ref x1, .ref x2, .ref x3, .ref x4, .ref x5, .ref h1, .ref h2, .ref h3])), (h1, .inr (0, [.ref x6, .int 0])), (h2, .inl (D.1 13, 3, .inl f_7)), (h3, .inl (D.1 13, 3, .inl f_4))] H := hP
  have hD : va_D A [(h0, .inr (5, [.int 0, .int 0, .int 0, .int 0, .int 0, .int 0, .ref x1, .ref x2, .ref x3, .ref x4, .ref x5, .ref h1, .ref h2, .ref h3])), (h1, .inr (0, [.ref x6, .int 0])), (h2, .inl (D.1 13, 3, .inl f_7)), (h3, .inl (D.1 13, 3, .inl f_4))] := hD
  refine lv_aload_n hx hb dX5_clear_42 rfl (lv_at hl 1 rfl) ?_
  refine va_get (D := D) (ci := 5) (v := .ref h3) (C := RX5) (T := TX5) (N := 14) hx hb ht inX5 hown hK hP 0 rfl rfl 13 (by decide) (ht (.fieldLink RX5 37 "CloneVolumes$Plan" "ends" "[I") fl_X5_37) (fun _ h9 => h9) rfl dX5_clear_43 ?_
  refine lv_iload_n hx hb dX5_clear_46 rfl (lv_at hl 0 rfl) ?_
  refine lv_iconst (v := (-1)) hx hb dX5_clear_47 (by decide) ?_
  refine va_iast hx hb hK hP hD hS 3 0 rfl rfl (z_in (by decide) (by decide)) dX5_clear_48 (fun H locs hP hD hS => ?_)
  generalize hf_8 : upd _ _ _ = f_8 at hP hD
  have hP : va_P D vwCl [(h0, .inr (5, [.int 0, .int 0, .int 0, .int 0, .int 0, .int 0, .ref x1, .ref x2, .ref x3, .ref x4, .ref x5, .ref h1, .ref h2, .ref h3])), (h1, .inr (0, [.ref x6, .int 0])), (h2, .inl (D.1 13, 3, .inl f_7)), (h3, .inl (D.1 13, 3, .inl f_8))] H := hP
  have hD : va_D A [(h0, .inr (5, [.int 0, .int 0, .int 0, .int 0, .int 0, .int 0, .ref x1, .ref x2, .ref x3, .ref x4, .ref x5, .ref h1, .ref h2, .ref h3])), (h1, .inr (0, [.ref x6, .int 0])), (h2, .inl (D.1 13, 3, .inl f_7)), (h3, .inl (D.1 13, 3, .inl f_8))] := hD
  refine lv_iinc (v := 2) (lv' := [(1, .int 2), (0, .ref h0)]) hx hb dX5_clear_49 hl (k := 0) rfl (by decide) (by decide) rfl (fun ls hl => ?_)
  refine lv_goto (tgt := 30) hx hb dX5_clear_52 (by decide) ?_
  refine lv_iload_n hx hb dX5_clear_30 rfl (lv_at hl 0 rfl) ?_
  refine lv_iconst (v := 3) hx hb dX5_clear_31 (by decide) ?_
  refine lv_icmp_ge (tgt := 55) hx hb dX5_clear_32 (by decide) (fun c_9 => (z_abs c_9 (by decide)).elim) (fun _ => ?_)
  refine lv_aload_n hx hb dX5_clear_35 rfl (lv_at hl 1 rfl) ?_
  refine va_get (D := D) (ci := 5) (v := .ref h2) (C := RX5) (T := TX5) (N := 14) hx hb ht inX5 hown hK hP 0 rfl rfl 12 (by decide) (ht (.fieldLink RX5 34 "CloneVolumes$Plan" "begins" "[I") fl_X5_34) (fun _ h9 => h9) rfl dX5_clear_36 ?_
  refine lv_iload_n hx hb dX5_clear_39 rfl (lv_at hl 0 rfl) ?_
  refine lv_iconst (v := (-1)) hx hb dX5_clear_40 (by decide) ?_
  refine va_iast hx hb hK hP hD hS 2 0 rfl rfl (z_in (by decide) (by decide)) dX5_clear_41 (fun H locs hP hD hS => ?_)
  generalize hf_11 : upd _ _ _ = f_11 at hP hD
  have hP : va_P D vwCl [(h0, .inr (5, [.int 0, .int 0, .int 0, .int 0, .int 0, .int 0, .ref x1, .ref x2, .ref x3, .ref x4, .ref x5, .ref h1, .ref h2, .ref h3])), (h1, .inr (0, [.ref x6, .int 0])), (h2, .inl (D.1 13, 3, .inl f_11)), (h3, .inl (D.1 13, 3, .inl f_8))] H := hP
  have hD : va_D A [(h0, .inr (5, [.int 0, .int 0, .int 0, .int 0, .int 0, .int 0, .ref x1, .ref x2, .ref x3, .ref x4, .ref x5, .ref h1, .ref h2, .ref h3])), (h1, .inr (0, [.ref x6, .int 0])), (h2, .inl (D.1 13, 3, .inl f_11)), (h3, .inl (D.1 13, 3, .inl f_8))] := hD
  refine lv_aload_n hx hb dX5_clear_42 rfl (lv_at hl 1 rfl) ?_
  refine va_get (D := D) (ci := 5) (v := .ref h3) (C := RX5) (T := TX5) (N := 14) hx hb ht inX5 hown hK hP 0 rfl rfl 13 (by decide) (ht (.fieldLink RX5 37 "CloneVolumes$Plan" "ends" "[I") fl_X5_37) (fun _ h9 => h9) rfl dX5_clear_43 ?_
  refine lv_iload_n hx hb dX5_clear_46 rfl (lv_at hl 0 rfl) ?_
  refine lv_iconst (v := (-1)) hx hb dX5_clear_47 (by decide) ?_
  refine va_iast hx hb hK hP hD hS 3 0 rfl rfl (z_in (by decide) (by decide)) dX5_clear_48 (fun H locs hP hD hS => ?_)
  generalize hf_12 : upd _ _ _ = f_12 at hP hD
  have hP : va_P D vwCl [(h0, .inr (5, [.int 0, .int 0, .int 0, .int 0, .int 0, .int 0, .ref x1, .ref x2, .ref x3, .ref x4, .ref x5, .ref h1, .ref h2, .ref h3])), (h1, .inr (0, [.ref x6, .int 0])), (h2, .inl (D.1 13, 3, .inl f_11)), (h3, .inl (D.1 13, 3, .inl f_12))] H := hP
  have hD : va_D A [(h0, .inr (5, [.int 0, .int 0, .int 0, .int 0, .int 0, .int 0, .ref x1, .ref x2, .ref x3, .ref x4, .ref x5, .ref h1, .ref h2, .ref h3])), (h1, .inr (0, [.ref x6, .int 0])), (h2, .inl (D.1 13, 3, .inl f_11)), (h3, .inl (D.1 13, 3, .inl f_12))] := hD
  refine lv_iinc (v := 3) (lv' := [(1, .int 3), (0, .ref h0)]) hx hb dX5_clear_49 hl (k := 0) rfl (by decide) (by decide) rfl (fun ls hl => ?_)
  refine lv_goto (tgt := 30) hx hb dX5_clear_52 (by decide) ?_
  refine lv_iload_n hx hb dX5_clear_30 rfl (lv_at hl 0 rfl) ?_
  refine lv_iconst (v := 3) hx hb dX5_clear_31 (by decide) ?_
  refine lv_icmp_ge (tgt := 55) hx hb dX5_clear_32 (by decide) (fun _ => ?_) (fun c_13 => (z_abs c_13 (by decide)).elim)
  have hP9 := hP.sub (ws' := [(h0, .inr (5, [.int 0, .int 0, .int 0, .int 0, .int 0, .int 0, .ref x1, .ref x2, .ref x3, .ref x4, .ref x5, .ref h1, .ref h2, .ref h3])), (h1, .inr (0, [.ref x6, .int 0])), (h2, .inl (D.1 13, 3, .inl f_11)), (h3, .inl (D.1 13, 3, .inl f_12))]) [0, 1, 2, 3] rfl
  have hD9 := hD.sub (ws' := [(h0, .inr (5, [.int 0, .int 0, .int 0, .int 0, .int 0, .int 0, .ref x1, .ref x2, .ref x3, .ref x4, .ref x5, .ref h1, .ref h2, .ref h3])), (h1, .inr (0, [.ref x6, .int 0])), (h2, .inl (D.1 13, 3, .inl f_11)), (h3, .inl (D.1 13, 3, .inl f_12))]) [0, 1, 2, 3] (by decide) rfl
  refine W.widen (k := 0) (n := 0) (Nat.le_of_ble_eq_true rfl) (Nat.le_of_ble_eq_true rfl) ?_
  exact W.vret hx hb hr (fun t ht hW => ⟨⟨(f_11, f_12), rfl, trivial, by rw [ht]; exact hP9, va_K.moved hW.alike hK, hD9⟩, hS.F ht⟩) hS.2.2 dX5_clear_55
set_option maxHeartbeats 4000000 in
set_option maxRecDepth 100000 in
theorem k_X6_advance (l : Launch) (D : va_G) (sz : Nat) (a : Nat → Nat)  : Met l yX6_advance (wz yX6_advance cX6_advance 2 none) { frames := 1, cells := 0, slots := 0, locals := 60 } (va_Pc [.ref (a 2)] (zW D sz [((a 2), .inr (6, [.int 0, .int (-1), .ref (a 1), .ref (a 21), .ref (a 55), .int 0, .int 0, .int 0, .int 0, .int 0, .int 0, .int 0])), ((a 1), .inr (9, [.ref (a 20), .int 0]))])) (va_Qv (fun (_ : Unit) => True) (fun u t => zB D (va_A [((a 2), .inr (6, [.int 0, .int (-1), .ref (a 1), .ref (a 21), .ref (a 55), .int 0, .int 0, .int 0, .int 0, .int 0, .int 0, .int 0])), ((a 1), .inr (9, [.ref (a 20), .int 0]))] sz) ((fun (u : Unit) => [((a 2), .inr (6, [.int 0, .int (-1), .ref (a 1), .ref (a 21), .ref (a 55), .int 0, .int 0, .int 0, .int 0, .int 0, .int (-1), .int (-1)])), ((a 1), .inr (9, [.ref (a 20), .int 0]))]) u) t) (va_A [((a 2), .inr (6, [.int 0, .int (-1), .ref (a 1), .ref (a 21), .ref (a 55), .int 0, .int 0, .int 0, .int 0, .int 0, .int 0, .int 0])), ((a 1), .inr (9, [.ref (a 20), .int 0]))] sz)) 0 0 (va_A [((a 2), .inr (6, [.int 0, .int (-1), .ref (a 1), .ref (a 21), .ref (a 55), .int 0, .int 0, .int 0, .int 0, .int 0, .int 0, .int 0])), ((a 1), .inr (9, [.ref (a 20), .int 0]))] sz) := by
  refine Met.ofW (cc := cX6_advance) (maxL := 2) (ret := none) (by decide) rfl ?_
  intro p e s m args below meth c s₁ B hml hv
  obtain ⟨rfl, hsz, hP, hK, hD0⟩ := hv
  have hx := B.exec
  have hb := B.bytes
  have hr := B.returns
  have hts := atoms_spec (ws := wz yX6_advance cX6_advance 2 none) B.pre
  have ht : ∀ w ∈ lw_gd, w.before _ s = true := fun w h => hts w (List.mem_cons_of_mem _ h)
  have hown : s.vm.findClass RX6 = some m.cls := findClass_of_methodNamed B.named
  have hlocks := B.notSynchronized
  subst hsz
  have hD := hD0.self (sz := s.heap.size)
  generalize hAe : va_A [((a 2), .inr (6, [.int 0, .int (-1), .ref (a 1), .ref (a 21), .ref (a 55), .int 0, .int 0, .int 0, .int 0, .int 0, .int 0, .int 0])), ((a 1), .inr (9, [.ref (a 20), .int 0]))] s.heap.size = A at hD ⊢
  have hA : ∀ q : Nat, s.heap.size ≤ q → A q := fun q h => by rw [← hAe]; exact Or.inr h
  have hS : va_S A s.heap s.heap [] := va_S.rf
  have hl := lv_entry ([.ref (a 2)]) (n := 2) (Nat.le_of_ble_eq_true rfl)
  rw [lg_entry_eq]
  generalize (lg_sl ([.ref (a 2)]) ++ List.replicate (2 - (lg_sl ([.ref (a 2)])).length) Slot.unset).toArray = ls at hl ⊢
  have hl : lv_has ls 2 [(0, .ref (a 2))] := hl
  refine lv_aload_n hx hb dX6_advance_0 rfl (lv_at hl 0 rfl) ?_
  refine va_get (D := D) (ci := 6) (v := .int 0) (C := RX6) (T := TX6) (N := 12) hx hb ht inX6 hown hK hP 0 rfl rfl 0 (by decide) (ht (.fieldLink RX6 61 "CloneVolumes$Reader" "fault" "I") fl_X6_61) (fun _ h9 => h9) rfl dX6_advance_1 ?_
  refine lv_if_eq (tgt := 8) hx hb dX6_advance_4 (by decide) (fun _ => ?_) (fun c_1 => (z_abs c_1 (by decide)).elim)
  refine lv_aload_n hx hb dX6_advance_8 rfl (lv_at hl 0 rfl) ?_
  refine lv_aload_n hx hb dX6_advance_9 rfl (lv_at hl 0 rfl) ?_
  refine va_get (D := D) (ci := 6) (v := .int 0) (C := RX6) (T := TX6) (N := 12) hx hb ht inX6 hown hK hP 0 rfl rfl 9 (by decide) (ht (.fieldLink RX6 88 "CloneVolumes$Reader" "stop" "I") fl_X6_88) (fun _ h9 => h9) rfl dX6_advance_10 ?_
  refine va_put (D := D) (ci := 6) (v := .int 0) (ty := .int) (C := RX6) (T := TX6) (N := 12) hx hb ht inX6 tyX6 tyX6_ok nmX6 hown hK hP hD hS 0 rfl rfl 8 (by decide) (ht (.fieldLink RX6 51 "CloneVolumes$Reader" "start" "I") fl_X6_51) (fun _ h9 => h9) rfl (by decide +kernel) rfl rfl (Nat.le_of_ble_eq_true rfl) dX6_advance_13 (fun H locs hP hD hS => ?_)
  have hP : va_P D vwCl [((a 2), .inr (6, [.int 0, .int (-1), .ref (a 1), .ref (a 21), .ref (a 55), .int 0, .int 0, .int 0, .int 0, .int 0, .int 0, .int 0])), ((a 1), .inr (9, [.ref (a 20), .int 0]))] H := hP
  have hD : va_D A [((a 2), .inr (6, [.int 0, .int (-1), .ref (a 1), .ref (a 21), .ref (a 55), .int 0, .int 0, .int 0, .int 0, .int 0, .int 0, .int 0])), ((a 1), .inr (9, [.ref (a 20), .int 0]))] := hD
  refine lv_aload_n hx hb dX6_advance_16 rfl (lv_at hl 0 rfl) ?_
  refine va_get (D := D) (ci := 6) (v := .int 0) (C := RX6) (T := TX6) (N := 12) hx hb ht inX6 hown hK hP 0 rfl rfl 8 (by decide) (ht (.fieldLink RX6 51 "CloneVolumes$Reader" "start" "I") fl_X6_51) (fun _ h9 => h9) rfl dX6_advance_17 ?_
  refine lv_aload_n hx hb dX6_advance_20 rfl (lv_at hl 0 rfl) ?_
  refine va_get (D := D) (ci := 6) (v := .ref (a 1)) (C := RX6) (T := TX6) (N := 12) hx hb ht inX6 hown hK hP 0 rfl rfl 2 (by decide) (ht (.fieldLink RX6 27 "CloneVolumes$Reader" "tape" "LCloneVolumes$Tape;") fl_X6_27) (fun _ h9 => h9) rfl dX6_advance_21 ?_
  refine va_get (D := D) (ci := 9) (v := .int 0) (C := RX9) (T := TX9) (N := 2) hx hb ht inX9 hown hK hP 1 rfl rfl 1 (by decide) (ht (.fieldLink RX6 91 "CloneVolumes$Tape" "length" "I") fl_X6_91) (fun _ h9 => h9) rfl dX6_advance_24 ?_
  refine lv_icmp_ge (tgt := 61) hx hb dX6_advance_27 (by decide) (fun _ => ?_) (fun c_3 => (z_abs c_3 (by decide)).elim)
  refine lv_aload_n hx hb dX6_advance_61 rfl (lv_at hl 0 rfl) ?_
  refine lv_aload_n hx hb dX6_advance_62 rfl (lv_at hl 0 rfl) ?_
  refine va_get (D := D) (ci := 6) (v := .int 0) (C := RX6) (T := TX6) (N := 12) hx hb ht inX6 hown hK hP 0 rfl rfl 8 (by decide) (ht (.fieldLink RX6 51 "CloneVolumes$Reader" "start" "I") fl_X6_51) (fun _ h9 => h9) rfl dX6_advance_63 ?_
  refine va_put (D := D) (ci := 6) (v := .int 0) (ty := .int) (C := RX6) (T := TX6) (N := 12) hx hb ht inX6 tyX6 tyX6_ok nmX6 hown hK hP hD hS 0 rfl rfl 9 (by decide) (ht (.fieldLink RX6 88 "CloneVolumes$Reader" "stop" "I") fl_X6_88) (fun _ h9 => h9) rfl (by decide +kernel) rfl rfl (Nat.le_of_ble_eq_true rfl) dX6_advance_66 (fun H locs hP hD hS => ?_)
  have hP : va_P D vwCl [((a 2), .inr (6, [.int 0, .int (-1), .ref (a 1), .ref (a 21), .ref (a 55), .int 0, .int 0, .int 0, .int 0, .int 0, .int 0, .int 0])), ((a 1), .inr (9, [.ref (a 20), .int 0]))] H := hP
  have hD : va_D A [((a 2), .inr (6, [.int 0, .int (-1), .ref (a 1), .ref (a 21), .ref (a 55), .int 0, .int 0, .int 0, .int 0, .int 0, .int 0, .int 0])), ((a 1), .inr (9, [.ref (a 20), .int 0]))] := hD
  refine lv_aload_n hx hb dX6_advance_69 rfl (lv_at hl 0 rfl) ?_
  refine lv_iconst (v := (-1)) hx hb dX6_advance_70 (by decide) ?_
  refine va_put (D := D) (ci := 6) (v := .int (-1)) (ty := .int) (C := RX6) (T := TX6) (N := 12) hx hb ht inX6 tyX6 tyX6_ok nmX6 hown hK hP hD hS 0 rfl rfl 10 (by decide) (ht (.fieldLink RX6 72 "CloneVolumes$Reader" "word" "I") fl_X6_72) (fun _ h9 => h9) rfl (by decide +kernel) rfl rfl (Nat.le_of_ble_eq_true rfl) dX6_advance_71 (fun H locs hP hD hS => ?_)
  have hP : va_P D vwCl [((a 2), .inr (6, [.int 0, .int (-1), .ref (a 1), .ref (a 21), .ref (a 55), .int 0, .int 0, .int 0, .int 0, .int 0, .int (-1), .int 0])), ((a 1), .inr (9, [.ref (a 20), .int 0]))] H := hP
  have hD : va_D A [((a 2), .inr (6, [.int 0, .int (-1), .ref (a 1), .ref (a 21), .ref (a 55), .int 0, .int 0, .int 0, .int 0, .int 0, .int (-1), .int 0])), ((a 1), .inr (9, [.ref (a 20), .int 0]))] := hD
  refine lv_aload_n hx hb dX6_advance_74 rfl (lv_at hl 0 rfl) ?_
  refine lv_aload_n hx hb dX6_advance_75 rfl (lv_at hl 0 rfl) ?_
  refine va_get (D := D) (ci := 6) (v := .ref (a 1)) (C := RX6) (T := TX6) (N := 12) hx hb ht inX6 hown hK hP 0 rfl rfl 2 (by decide) (ht (.fieldLink RX6 27 "CloneVolumes$Reader" "tape" "LCloneVolumes$Tape;") fl_X6_27) (fun _ h9 => h9) rfl dX6_advance_76 ?_
  refine lv_aload_n hx hb dX6_advance_79 rfl (lv_at hl 0 rfl) ?_
  refine va_get (D := D) (ci := 6) (v := .int 0) (C := RX6) (T := TX6) (N := 12) hx hb ht inX6 hown hK hP 0 rfl rfl 8 (by decide) (ht (.fieldLink RX6 51 "CloneVolumes$Reader" "start" "I") fl_X6_51) (fun _ h9 => h9) rfl dX6_advance_80 ?_
  refine zcV (As := [.int 0]) (rest := [.ref (a 2)]) (C := RX9) (n := 1) ⟨hx, hb, hml, hown, ht⟩ (k_X9_at l D a 0) (zgV ml_X6_104 im_X9_at se_X9_at in_X9 co_X9_at) rfl rfl (by decide +kernel) ⟨Nat.le_of_ble_eq_true rfl, Nat.le_of_ble_eq_true rfl⟩ hK hP hS [1] rfl 0 rfl rfl rfl rfl hl.1 rfl (Nat.le_of_ble_eq_true rfl) dX6_advance_83 ⟨Nat.le_of_ble_eq_true rfl, Nat.le_of_ble_eq_true rfl⟩ (fun r_5 H locs hw hP hS => ?_)
  subst hw
  refine va_put (D := D) (ci := 6) (v := .int (-1)) (ty := .int) (C := RX6) (T := TX6) (N := 12) hx hb ht inX6 tyX6 tyX6_ok nmX6 hown hK hP hD hS 0 rfl rfl 11 (by decide) (ht (.fieldLink RX6 108 "CloneVolumes$Reader" "sign" "I") fl_X6_108) (fun _ h9 => h9) rfl (by decide +kernel) rfl rfl (Nat.le_of_ble_eq_true rfl) dX6_advance_86 (fun H locs hP hD hS => ?_)
  have hP : va_P D vwCl [((a 2), .inr (6, [.int 0, .int (-1), .ref (a 1), .ref (a 21), .ref (a 55), .int 0, .int 0, .int 0, .int 0, .int 0, .int (-1), .int (-1)])), ((a 1), .inr (9, [.ref (a 20), .int 0]))] H := hP
  have hD : va_D A [((a 2), .inr (6, [.int 0, .int (-1), .ref (a 1), .ref (a 21), .ref (a 55), .int 0, .int 0, .int 0, .int 0, .int 0, .int (-1), .int (-1)])), ((a 1), .inr (9, [.ref (a 20), .int 0]))] := hD
  refine lv_aload_n hx hb dX6_advance_89 rfl (lv_at hl 0 rfl) ?_
  refine va_get (D := D) (ci := 6) (v := .int (-1)) (C := RX6) (T := TX6) (N := 12) hx hb ht inX6 hown hK hP 0 rfl rfl 11 (by decide) (ht (.fieldLink RX6 108 "CloneVolumes$Reader" "sign" "I") fl_X6_108) (fun _ h9 => h9) rfl dX6_advance_90 ?_
  refine lv_iconst (v := (-1)) hx hb dX6_advance_93 (by decide) ?_
  refine lv_icmp_ne (tgt := 105) hx hb dX6_advance_94 (by decide) (fun c_6 => (z_abs c_6 (by decide)).elim) (fun _ => ?_)
  refine lv_aload_n hx hb dX6_advance_97 rfl (lv_at hl 0 rfl) ?_
  refine lv_iconst (v := 0) hx hb dX6_advance_98 (by decide) ?_
  refine va_put (D := D) (ci := 6) (v := .int 0) (ty := .int) (C := RX6) (T := TX6) (N := 12) hx hb ht inX6 tyX6 tyX6_ok nmX6 hown hK hP hD hS 0 rfl rfl 7 (by decide) (ht (.fieldLink RX6 44 "CloneVolumes$Reader" "kind" "I") fl_X6_44) (fun _ h9 => h9) rfl (by decide +kernel) rfl rfl (Nat.le_of_ble_eq_true rfl) dX6_advance_99 (fun H locs hP hD hS => ?_)
  have hP : va_P D vwCl [((a 2), .inr (6, [.int 0, .int (-1), .ref (a 1), .ref (a 21), .ref (a 55), .int 0, .int 0, .int 0, .int 0, .int 0, .int (-1), .int (-1)])), ((a 1), .inr (9, [.ref (a 20), .int 0]))] H := hP
  have hD : va_D A [((a 2), .inr (6, [.int 0, .int (-1), .ref (a 1), .ref (a 21), .ref (a 55), .int 0, .int 0, .int 0, .int 0, .int 0, .int (-1), .int (-1)])), ((a 1), .inr (9, [.ref (a 20), .int 0]))] := hD
  refine lv_goto (tgt := 251) hx hb dX6_advance_102 (by decide) ?_
  refine lv_aload_n hx hb dX6_advance_251 rfl (lv_at hl 0 rfl) ?_
  refine va_get (D := D) (ci := 6) (v := .ref (a 1)) (C := RX6) (T := TX6) (N := 12) hx hb ht inX6 hown hK hP 0 rfl rfl 2 (by decide) (ht (.fieldLink RX6 27 "CloneVolumes$Reader" "tape" "LCloneVolumes$Tape;") fl_X6_27) (fun _ h9 => h9) rfl dX6_advance_252 ?_
  refine lv_aload_n hx hb dX6_advance_255 rfl (lv_at hl 0 rfl) ?_
  refine va_get (D := D) (ci := 6) (v := .int 0) (C := RX6) (T := TX6) (N := 12) hx hb ht inX6 hown hK hP 0 rfl rfl 8 (by decide) (ht (.fieldLink RX6 51 "CloneVolumes$Reader" "start" "I") fl_X6_51) (fun _ h9 => h9) rfl dX6_advance_256 ?_
  refine lv_iconst (v := 1) hx hb dX6_advance_259 (by decide) ?_
  refine lv_isub hx hb dX6_advance_260 ?_
  refine z_topi (y := (-1)) (by decide) ?_
  refine zcV (As := [.int (-1)]) (rest := []) (C := RX9) (n := 1) ⟨hx, hb, hml, hown, ht⟩ (k_X9_at l D a (-1)) (zgV ml_X6_104 im_X9_at se_X9_at in_X9 co_X9_at) rfl rfl (by decide +kernel) ⟨Nat.le_of_ble_eq_true rfl, Nat.le_of_ble_eq_true rfl⟩ hK hP hS [1] rfl 0 rfl rfl rfl rfl hl.1 rfl (Nat.le_of_ble_eq_true rfl) dX6_advance_261 ⟨Nat.le_of_ble_eq_true rfl, Nat.le_of_ble_eq_true rfl⟩ (fun r_8 H locs hw hP hS => ?_)
  subst hw
  refine lv_istore_n (lv' := [(1, .int (-1)), (0, .ref (a 2))]) hx hb dX6_advance_264 rfl hl (by decide) rfl (fun ls hl => ?_)
  refine lv_aload_n hx hb dX6_advance_265 rfl (lv_at hl 1 rfl) ?_
  refine va_get (D := D) (ci := 6) (v := .int 0) (C := RX6) (T := TX6) (N := 12) hx hb ht inX6 hown hK hP 0 rfl rfl 7 (by decide) (ht (.fieldLink RX6 44 "CloneVolumes$Reader" "kind" "I") fl_X6_44) (fun _ h9 => h9) rfl dX6_advance_266 ?_
  refine lv_iconst (v := 1) hx hb dX6_advance_269 (by decide) ?_
  refine lv_icmp_eq (tgt := 281) hx hb dX6_advance_270 (by decide) (fun c_9 => (z_abs c_9 (by decide)).elim) (fun _ => ?_)
  refine lv_aload_n hx hb dX6_advance_273 rfl (lv_at hl 1 rfl) ?_
  refine va_get (D := D) (ci := 6) (v := .int 0) (C := RX6) (T := TX6) (N := 12) hx hb ht inX6 hown hK hP 0 rfl rfl 7 (by decide) (ht (.fieldLink RX6 44 "CloneVolumes$Reader" "kind" "I") fl_X6_44) (fun _ h9 => h9) rfl dX6_advance_274 ?_
  refine lv_iconst (v := 2) hx hb dX6_advance_277 (by decide) ?_
  refine lv_icmp_ne (tgt := 300) hx hb dX6_advance_278 (by decide) (fun _ => ?_) (fun c_11 => (z_abs c_11 (by decide)).elim)
  have hP9 := hP.sub (ws' := [((a 2), .inr (6, [.int 0, .int (-1), .ref (a 1), .ref (a 21), .ref (a 55), .int 0, .int 0, .int 0, .int 0, .int 0, .int (-1), .int (-1)])), ((a 1), .inr (9, [.ref (a 20), .int 0]))]) [0, 1] rfl
  have hD9 := hD.sub (ws' := [((a 2), .inr (6, [.int 0, .int (-1), .ref (a 1), .ref (a 21), .ref (a 55), .int 0, .int 0, .int 0, .int 0, .int 0, .int (-1), .int (-1)])), ((a 1), .inr (9, [.ref (a 20), .int 0]))]) [0, 1] (by decide) rfl
  refine W.widen (k := 0) (n := 0) (Nat.le_of_ble_eq_true rfl) (Nat.le_of_ble_eq_true rfl) ?_
  exact W.vret hx hb hr (fun t ht hW => ⟨⟨(), rfl, trivial, by rw [ht]; exact hP9, va_K.moved hW.alike hK, hD9⟩, hS.F ht⟩) hS.2.2 dX6_advance_300
set_option maxHeartbeats 4000000 in
set_option maxRecDepth 100000 in
theorem k_X6_begin (l : Launch) (D : va_G) (sz : Nat) (a : Nat → Nat)  : Met l yX6_begin (wz yX6_begin cX6_begin 2 none) { frames := 2, cells := 0, slots := 0, locals := 120 } (va_Pc [.ref (a 2), .ref (a 55)] (zW D sz [((a 2), .inr (6, [.int 0, .int (-1), .ref (a 1), .ref (a 21), .null, .int 0, .int 0, .int 0, .int 0, .int 0, .int 0, .int 0])), ((a 1), .inr (9, [.ref (a 20), .int 0]))])) (va_Qv (fun (_ : Unit) => True) (fun u t => zB D (va_A [((a 2), .inr (6, [.int 0, .int (-1), .ref (a 1), .ref (a 21), .null, .int 0, .int 0, .int 0, .int 0, .int 0, .int 0, .int 0])), ((a 1), .inr (9, [.ref (a 20), .int 0]))] sz) ((fun (u : Unit) => [((a 2), .inr (6, [.int 0, .int (-1), .ref (a 1), .ref (a 21), .ref (a 55), .int 0, .int 0, .int 0, .int 0, .int 0, .int (-1), .int (-1)])), ((a 1), .inr (9, [.ref (a 20), .int 0]))]) u) t) (va_A [((a 2), .inr (6, [.int 0, .int (-1), .ref (a 1), .ref (a 21), .null, .int 0, .int 0, .int 0, .int 0, .int 0, .int 0, .int 0])), ((a 1), .inr (9, [.ref (a 20), .int 0]))] sz)) 0 0 (va_A [((a 2), .inr (6, [.int 0, .int (-1), .ref (a 1), .ref (a 21), .null, .int 0, .int 0, .int 0, .int 0, .int 0, .int 0, .int 0])), ((a 1), .inr (9, [.ref (a 20), .int 0]))] sz) := by
  refine Met.ofW (cc := cX6_begin) (maxL := 2) (ret := none) (by decide) rfl ?_
  intro p e s m args below meth c s₁ B hml hv
  obtain ⟨rfl, hsz, hP, hK, hD0⟩ := hv
  have hx := B.exec
  have hb := B.bytes
  have hr := B.returns
  have hts := atoms_spec (ws := wz yX6_begin cX6_begin 2 none) B.pre
  have ht : ∀ w ∈ lw_gd, w.before _ s = true := fun w h => hts w (List.mem_cons_of_mem _ h)
  have hown : s.vm.findClass RX6 = some m.cls := findClass_of_methodNamed B.named
  have hlocks := B.notSynchronized
  subst hsz
  have hD := hD0.self (sz := s.heap.size)
  generalize hAe : va_A [((a 2), .inr (6, [.int 0, .int (-1), .ref (a 1), .ref (a 21), .null, .int 0, .int 0, .int 0, .int 0, .int 0, .int 0, .int 0])), ((a 1), .inr (9, [.ref (a 20), .int 0]))] s.heap.size = A at hD ⊢
  have hA : ∀ q : Nat, s.heap.size ≤ q → A q := fun q h => by rw [← hAe]; exact Or.inr h
  have hS : va_S A s.heap s.heap [] := va_S.rf
  have hl := lv_entry ([.ref (a 2), .ref (a 55)]) (n := 2) (Nat.le_of_ble_eq_true rfl)
  rw [lg_entry_eq]
  generalize (lg_sl ([.ref (a 2), .ref (a 55)]) ++ List.replicate (2 - (lg_sl ([.ref (a 2), .ref (a 55)])).length) Slot.unset).toArray = ls at hl ⊢
  have hl : lv_has ls 2 [(0, .ref (a 2)), (1, .ref (a 55))] := hl
  refine lv_aload_n hx hb dX6_begin_0 rfl (lv_at hl 0 rfl) ?_
  refine lv_aload_n hx hb dX6_begin_1 rfl (lv_at hl 1 rfl) ?_
  refine va_put (D := D) (ci := 6) (v := .ref (a 55)) (ty := .object "CloneVolumes$Code") (C := RX6) (T := TX6) (N := 12) hx hb ht inX6 tyX6 tyX6_ok nmX6 hown hK hP hD hS 0 rfl rfl 4 (by decide) (ht (.fieldLink RX6 84 "CloneVolumes$Reader" "code" "LCloneVolumes$Code;") fl_X6_84) (fun _ h9 => h9) rfl (by decide +kernel) rfl rfl (Nat.le_of_ble_eq_true rfl) dX6_begin_2 (fun H locs hP hD hS => ?_)
  have hP : va_P D vwCl [((a 2), .inr (6, [.int 0, .int (-1), .ref (a 1), .ref (a 21), .ref (a 55), .int 0, .int 0, .int 0, .int 0, .int 0, .int 0, .int 0])), ((a 1), .inr (9, [.ref (a 20), .int 0]))] H := hP
  have hD : va_D A [((a 2), .inr (6, [.int 0, .int (-1), .ref (a 1), .ref (a 21), .ref (a 55), .int 0, .int 0, .int 0, .int 0, .int 0, .int 0, .int 0])), ((a 1), .inr (9, [.ref (a 20), .int 0]))] := hD
  refine lv_aload_n hx hb dX6_begin_5 rfl (lv_at hl 0 rfl) ?_
  refine lv_iconst (v := 0) hx hb dX6_begin_6 (by decide) ?_
  refine va_put (D := D) (ci := 6) (v := .int 0) (ty := .int) (C := RX6) (T := TX6) (N := 12) hx hb ht inX6 tyX6 tyX6_ok nmX6 hown hK hP hD hS 0 rfl rfl 0 (by decide) (ht (.fieldLink RX6 61 "CloneVolumes$Reader" "fault" "I") fl_X6_61) (fun _ h9 => h9) rfl (by decide +kernel) rfl rfl (Nat.le_of_ble_eq_true rfl) dX6_begin_7 (fun H locs hP hD hS => ?_)
  have hP : va_P D vwCl [((a 2), .inr (6, [.int 0, .int (-1), .ref (a 1), .ref (a 21), .ref (a 55), .int 0, .int 0, .int 0, .int 0, .int 0, .int 0, .int 0])), ((a 1), .inr (9, [.ref (a 20), .int 0]))] H := hP
  have hD : va_D A [((a 2), .inr (6, [.int 0, .int (-1), .ref (a 1), .ref (a 21), .ref (a 55), .int 0, .int 0, .int 0, .int 0, .int 0, .int 0, .int 0])), ((a 1), .inr (9, [.ref (a 20), .int 0]))] := hD
  refine lv_aload_n hx hb dX6_begin_10 rfl (lv_at hl 0 rfl) ?_
  refine lv_iconst (v := (-1)) hx hb dX6_begin_11 (by decide) ?_
  refine va_put (D := D) (ci := 6) (v := .int (-1)) (ty := .int) (C := RX6) (T := TX6) (N := 12) hx hb ht inX6 tyX6 tyX6_ok nmX6 hown hK hP hD hS 0 rfl rfl 1 (by decide) (ht (.fieldLink RX6 9 "CloneVolumes$Reader" "place" "I") fl_X6_9) (fun _ h9 => h9) rfl (by decide +kernel) rfl rfl (Nat.le_of_ble_eq_true rfl) dX6_begin_12 (fun H locs hP hD hS => ?_)
  have hP : va_P D vwCl [((a 2), .inr (6, [.int 0, .int (-1), .ref (a 1), .ref (a 21), .ref (a 55), .int 0, .int 0, .int 0, .int 0, .int 0, .int 0, .int 0])), ((a 1), .inr (9, [.ref (a 20), .int 0]))] H := hP
  have hD : va_D A [((a 2), .inr (6, [.int 0, .int (-1), .ref (a 1), .ref (a 21), .ref (a 55), .int 0, .int 0, .int 0, .int 0, .int 0, .int 0, .int 0])), ((a 1), .inr (9, [.ref (a 20), .int 0]))] := hD
  refine lv_aload_n hx hb dX6_begin_15 rfl (lv_at hl 0 rfl) ?_
  refine lv_iconst (v := 0) hx hb dX6_begin_16 (by decide) ?_
  refine va_put (D := D) (ci := 6) (v := .int 0) (ty := .int) (C := RX6) (T := TX6) (N := 12) hx hb ht inX6 tyX6 tyX6_ok nmX6 hown hK hP hD hS 0 rfl rfl 6 (by decide) (ht (.fieldLink RX6 85 "CloneVolumes$Reader" "open" "I") fl_X6_85) (fun _ h9 => h9) rfl (by decide +kernel) rfl rfl (Nat.le_of_ble_eq_true rfl) dX6_begin_17 (fun H locs hP hD hS => ?_)
  have hP : va_P D vwCl [((a 2), .inr (6, [.int 0, .int (-1), .ref (a 1), .ref (a 21), .ref (a 55), .int 0, .int 0, .int 0, .int 0, .int 0, .int 0, .int 0])), ((a 1), .inr (9, [.ref (a 20), .int 0]))] H := hP
  have hD : va_D A [((a 2), .inr (6, [.int 0, .int (-1), .ref (a 1), .ref (a 21), .ref (a 55), .int 0, .int 0, .int 0, .int 0, .int 0, .int 0, .int 0])), ((a 1), .inr (9, [.ref (a 20), .int 0]))] := hD
  refine lv_aload_n hx hb dX6_begin_20 rfl (lv_at hl 0 rfl) ?_
  refine lv_iconst (v := 0) hx hb dX6_begin_21 (by decide) ?_
  refine va_put (D := D) (ci := 6) (v := .int 0) (ty := .int) (C := RX6) (T := TX6) (N := 12) hx hb ht inX6 tyX6 tyX6_ok nmX6 hown hK hP hD hS 0 rfl rfl 9 (by decide) (ht (.fieldLink RX6 88 "CloneVolumes$Reader" "stop" "I") fl_X6_88) (fun _ h9 => h9) rfl (by decide +kernel) rfl rfl (Nat.le_of_ble_eq_true rfl) dX6_begin_22 (fun H locs hP hD hS => ?_)
  have hP : va_P D vwCl [((a 2), .inr (6, [.int 0, .int (-1), .ref (a 1), .ref (a 21), .ref (a 55), .int 0, .int 0, .int 0, .int 0, .int 0, .int 0, .int 0])), ((a 1), .inr (9, [.ref (a 20), .int 0]))] H := hP
  have hD : va_D A [((a 2), .inr (6, [.int 0, .int (-1), .ref (a 1), .ref (a 21), .ref (a 55), .int 0, .int 0, .int 0, .int 0, .int 0, .int 0, .int 0])), ((a 1), .inr (9, [.ref (a 20), .int 0]))] := hD
  refine lv_aload_n hx hb dX6_begin_25 rfl (lv_at hl 0 rfl) ?_
  refine zwVv (As := []) (rest := []) (C := RX6) (n := 0) (wr := []) ⟨hx, hb, hml, hown, ht⟩ (k_X6_advance l D _ a) (zgV ml_X6_75 im_X6_advance se_X6_advance in_X6 co_X6_advance) rfl rfl (by decide +kernel) ⟨Nat.le_of_ble_eq_true rfl, Nat.le_of_ble_eq_true rfl⟩ hK hP hD hS hA [0, 1] [] rfl rfl rfl rfl (by decide) 0 rfl rfl rfl rfl hl.1 rfl (Nat.le_of_ble_eq_true rfl) dX6_begin_26 ⟨Nat.le_of_ble_eq_true rfl, Nat.le_of_ble_eq_true rfl⟩ (fun u_1 H locs hw hP hD hS => ?_)
  have hP : va_P D vwCl [((a 2), .inr (6, [.int 0, .int (-1), .ref (a 1), .ref (a 21), .ref (a 55), .int 0, .int 0, .int 0, .int 0, .int 0, .int (-1), .int (-1)])), ((a 1), .inr (9, [.ref (a 20), .int 0]))] H := hP
  have hD : va_D A [((a 2), .inr (6, [.int 0, .int (-1), .ref (a 1), .ref (a 21), .ref (a 55), .int 0, .int 0, .int 0, .int 0, .int 0, .int (-1), .int (-1)])), ((a 1), .inr (9, [.ref (a 20), .int 0]))] := hD
  have hP9 := hP.sub (ws' := [((a 2), .inr (6, [.int 0, .int (-1), .ref (a 1), .ref (a 21), .ref (a 55), .int 0, .int 0, .int 0, .int 0, .int 0, .int (-1), .int (-1)])), ((a 1), .inr (9, [.ref (a 20), .int 0]))]) [0, 1] rfl
  have hD9 := hD.sub (ws' := [((a 2), .inr (6, [.int 0, .int (-1), .ref (a 1), .ref (a 21), .ref (a 55), .int 0, .int 0, .int 0, .int 0, .int 0, .int (-1), .int (-1)])), ((a 1), .inr (9, [.ref (a 20), .int 0]))]) [0, 1] (by decide) rfl
  refine W.widen (k := 0) (n := 0) (Nat.le_of_ble_eq_true rfl) (Nat.le_of_ble_eq_true rfl) ?_
  exact W.vret hx hb hr (fun t ht hW => ⟨⟨(), rfl, trivial, by rw [ht]; exact hP9, va_K.moved hW.alike hK, hD9⟩, hS.F ht⟩) hS.2.2 dX6_begin_29
set_option maxHeartbeats 4000000 in
set_option maxRecDepth 100000 in
theorem k_X6_fail (l : Launch) (D : va_G) (sz : Nat) (a : Nat → Nat)  : Met l yX6_fail (wz yX6_fail cX6_fail 3 (some .boolean)) { frames := 0, cells := 0, slots := 0, locals := 0 } (va_Pc [.ref (a 2), .int 1, .int 0] (zW D sz [((a 2), .inr (6, [.int 0, .int (-1), .ref (a 1), .ref (a 21), .ref (a 55), .int 0, .int 0, .int 0, .int 0, .int 0, .int (-1), .int (-1)]))])) (va_Qi (fun r (_ : Unit) => r = 0) (fun u t => zB D (va_A [((a 2), .inr (6, [.int 0, .int (-1), .ref (a 1), .ref (a 21), .ref (a 55), .int 0, .int 0, .int 0, .int 0, .int 0, .int (-1), .int (-1)]))] sz) ((fun (u : Unit) => [((a 2), .inr (6, [.int 1, .int 0, .ref (a 1), .ref (a 21), .ref (a 55), .int 0, .int 0, .int 0, .int 0, .int 0, .int (-1), .int (-1)]))]) u) t) (va_A [((a 2), .inr (6, [.int 0, .int (-1), .ref (a 1), .ref (a 21), .ref (a 55), .int 0, .int 0, .int 0, .int 0, .int 0, .int (-1), .int (-1)]))] sz)) 0 0 (va_A [((a 2), .inr (6, [.int 0, .int (-1), .ref (a 1), .ref (a 21), .ref (a 55), .int 0, .int 0, .int 0, .int 0, .int 0, .int (-1), .int (-1)]))] sz) := by
  refine Met.ofW (cc := cX6_fail) (maxL := 3) (ret := (some .boolean)) (by decide) rfl ?_
  intro p e s m args below meth c s₁ B hml hv
  obtain ⟨rfl, hsz, hP, hK, hD0⟩ := hv
  have hx := B.exec
  have hb := B.bytes
  have hr := B.returns
  have hts := atoms_spec (ws := wz yX6_fail cX6_fail 3 (some .boolean)) B.pre
  have ht : ∀ w ∈ lw_gd, w.before _ s = true := fun w h => hts w (List.mem_cons_of_mem _ h)
  have hown : s.vm.findClass RX6 = some m.cls := findClass_of_methodNamed B.named
  have hlocks := B.notSynchronized
  subst hsz
  have hD := hD0.self (sz := s.heap.size)
  generalize hAe : va_A [((a 2), .inr (6, [.int 0, .int (-1), .ref (a 1), .ref (a 21), .ref (a 55), .int 0, .int 0, .int 0, .int 0, .int 0, .int (-1), .int (-1)]))] s.heap.size = A at hD ⊢
  have hA : ∀ q : Nat, s.heap.size ≤ q → A q := fun q h => by rw [← hAe]; exact Or.inr h
  have hS : va_S A s.heap s.heap [] := va_S.rf
  have hl := lv_entry ([.ref (a 2), .int 1, .int 0]) (n := 3) (Nat.le_of_ble_eq_true rfl)
  rw [lg_entry_eq]
  generalize (lg_sl ([.ref (a 2), .int 1, .int 0]) ++ List.replicate (3 - (lg_sl ([.ref (a 2), .int 1, .int 0])).length) Slot.unset).toArray = ls at hl ⊢
  have hl : lv_has ls 3 [(0, .ref (a 2)), (1, .int 1), (2, .int 0)] := hl
  refine lv_aload_n hx hb dX6_fail_0 rfl (lv_at hl 0 rfl) ?_
  refine va_get (D := D) (ci := 6) (v := .int 0) (C := RX6) (T := TX6) (N := 12) hx hb ht inX6 hown hK hP 0 rfl rfl 0 (by decide) (ht (.fieldLink RX6 61 "CloneVolumes$Reader" "fault" "I") fl_X6_61) (fun _ h9 => h9) rfl dX6_fail_1 ?_
  refine lv_if_ne (tgt := 22) hx hb dX6_fail_4 (by decide) (fun c_1 => (z_abs c_1 (by decide)).elim) (fun _ => ?_)
  refine lv_aload_n hx hb dX6_fail_7 rfl (lv_at hl 0 rfl) ?_
  refine lv_iload_n hx hb dX6_fail_8 rfl (lv_at hl 1 rfl) ?_
  refine va_put (D := D) (ci := 6) (v := .int 1) (ty := .int) (C := RX6) (T := TX6) (N := 12) hx hb ht inX6 tyX6 tyX6_ok nmX6 hown hK hP hD hS 0 rfl rfl 0 (by decide) (ht (.fieldLink RX6 61 "CloneVolumes$Reader" "fault" "I") fl_X6_61) (fun _ h9 => h9) rfl (by decide +kernel) rfl rfl (Nat.le_of_ble_eq_true rfl) dX6_fail_9 (fun H locs hP hD hS => ?_)
  have hP : va_P D vwCl [((a 2), .inr (6, [.int 1, .int (-1), .ref (a 1), .ref (a 21), .ref (a 55), .int 0, .int 0, .int 0, .int 0, .int 0, .int (-1), .int (-1)]))] H := hP
  have hD : va_D A [((a 2), .inr (6, [.int 1, .int (-1), .ref (a 1), .ref (a 21), .ref (a 55), .int 0, .int 0, .int 0, .int 0, .int 0, .int (-1), .int (-1)]))] := hD
  refine lv_aload_n hx hb dX6_fail_12 rfl (lv_at hl 0 rfl) ?_
  refine lv_iload_n hx hb dX6_fail_13 rfl (lv_at hl 2 rfl) ?_
  refine va_put (D := D) (ci := 6) (v := .int 0) (ty := .int) (C := RX6) (T := TX6) (N := 12) hx hb ht inX6 tyX6 tyX6_ok nmX6 hown hK hP hD hS 0 rfl rfl 1 (by decide) (ht (.fieldLink RX6 9 "CloneVolumes$Reader" "place" "I") fl_X6_9) (fun _ h9 => h9) rfl (by decide +kernel) rfl rfl (Nat.le_of_ble_eq_true rfl) dX6_fail_14 (fun H locs hP hD hS => ?_)
  have hP : va_P D vwCl [((a 2), .inr (6, [.int 1, .int 0, .ref (a 1), .ref (a 21), .ref (a 55), .int 0, .int 0, .int 0, .int 0, .int 0, .int (-1), .int (-1)]))] H := hP
  have hD : va_D A [((a 2), .inr (6, [.int 1, .int 0, .ref (a 1), .ref (a 21), .ref (a 55), .int 0, .int 0, .int 0, .int 0, .int 0, .int (-1), .int (-1)]))] := hD
  refine lv_aload_n hx hb dX6_fail_17 rfl (lv_at hl 0 rfl) ?_
  refine lv_iconst (v := 0) hx hb dX6_fail_18 (by decide) ?_
  refine va_put (D := D) (ci := 6) (v := .int 0) (ty := .int) (C := RX6) (T := TX6) (N := 12) hx hb ht inX6 tyX6 tyX6_ok nmX6 hown hK hP hD hS 0 rfl rfl 7 (by decide) (ht (.fieldLink RX6 44 "CloneVolumes$Reader" "kind" "I") fl_X6_44) (fun _ h9 => h9) rfl (by decide +kernel) rfl rfl (Nat.le_of_ble_eq_true rfl) dX6_fail_19 (fun H locs hP hD hS => ?_)
  have hP : va_P D vwCl [((a 2), .inr (6, [.int 1, .int 0, .ref (a 1), .ref (a 21), .ref (a 55), .int 0, .int 0, .int 0, .int 0, .int 0, .int (-1), .int (-1)]))] H := hP
  have hD : va_D A [((a 2), .inr (6, [.int 1, .int 0, .ref (a 1), .ref (a 21), .ref (a 55), .int 0, .int 0, .int 0, .int 0, .int 0, .int (-1), .int (-1)]))] := hD
  refine lv_iconst (v := 0) hx hb dX6_fail_22 (by decide) ?_
  have hP9 := hP.sub (ws' := [((a 2), .inr (6, [.int 1, .int 0, .ref (a 1), .ref (a 21), .ref (a 55), .int 0, .int 0, .int 0, .int 0, .int 0, .int (-1), .int (-1)]))]) [0] rfl
  have hD9 := hD.sub (ws' := [((a 2), .inr (6, [.int 1, .int 0, .ref (a 1), .ref (a 21), .ref (a 55), .int 0, .int 0, .int 0, .int 0, .int 0, .int (-1), .int (-1)]))]) [0] (by decide) rfl
  refine W.widen (k := 0) (n := 0) (Nat.le_of_ble_eq_true rfl) (Nat.le_of_ble_eq_true rfl) ?_
  exact W.zret (v := 0) hx hb hr (by decide) (fun t ht hW => ⟨⟨0, (), rfl, rfl, by rw [ht]; exact hP9, va_K.moved hW.alike hK, hD9⟩, hS.F ht⟩) hS.2.2 dX6_fail_23
set_option maxHeartbeats 4000000 in
set_option maxRecDepth 100000 in
theorem k_X6_readStore (l : Launch) (D : va_G) (sz : Nat) (a : Nat → Nat) (fb fe : Nat → Int32) : Met l yX6_readStore (wz yX6_readStore cX6_readStore 3 (some .boolean)) { frames := 3, cells := 0, slots := 0, locals := 180 } (va_Pc [.ref (a 2), .ref (a 11)] (zW D sz [((a 2), .inr (6, [.int 0, .int (-1), .ref (a 1), .ref (a 21), .null, .int 0, .int 0, .int 0, .int 0, .int 0, .int 0, .int 0])), ((a 1), .inr (9, [.ref (a 20), .int 0])), ((a 11), .inr (5, [.int 0, .int 0, .int 0, .int 0, .int 0, .int 0, .ref (a 50), .ref (a 51), .ref (a 52), .ref (a 53), .ref (a 54), .ref (a 55), .ref (a 56), .ref (a 57)])), ((a 55), .inr (0, [.ref (a 58), .int 0])), ((a 56), .inl (D.1 13, 3, .inl fb)), ((a 57), .inl (D.1 13, 3, .inl fe))])) (va_Qi (fun r (_ : Unit) => r = 0) (fun u t => zB D (va_A [((a 2), .inr (6, [.int 0, .int (-1), .ref (a 1), .ref (a 21), .null, .int 0, .int 0, .int 0, .int 0, .int 0, .int 0, .int 0])), ((a 1), .inr (9, [.ref (a 20), .int 0])), ((a 11), .inr (5, [.int 0, .int 0, .int 0, .int 0, .int 0, .int 0, .ref (a 50), .ref (a 51), .ref (a 52), .ref (a 53), .ref (a 54), .ref (a 55), .ref (a 56), .ref (a 57)])), ((a 55), .inr (0, [.ref (a 58), .int 0])), ((a 56), .inl (D.1 13, 3, .inl fb)), ((a 57), .inl (D.1 13, 3, .inl fe))] sz) ((fun (u : Unit) => [((a 1), .inr (9, [.ref (a 20), .int 0]))]) u) t) (va_A [((a 2), .inr (6, [.int 0, .int (-1), .ref (a 1), .ref (a 21), .null, .int 0, .int 0, .int 0, .int 0, .int 0, .int 0, .int 0])), ((a 1), .inr (9, [.ref (a 20), .int 0])), ((a 11), .inr (5, [.int 0, .int 0, .int 0, .int 0, .int 0, .int 0, .ref (a 50), .ref (a 51), .ref (a 52), .ref (a 53), .ref (a 54), .ref (a 55), .ref (a 56), .ref (a 57)])), ((a 55), .inr (0, [.ref (a 58), .int 0])), ((a 56), .inl (D.1 13, 3, .inl fb)), ((a 57), .inl (D.1 13, 3, .inl fe))] sz)) 0 0 (va_A [((a 2), .inr (6, [.int 0, .int (-1), .ref (a 1), .ref (a 21), .null, .int 0, .int 0, .int 0, .int 0, .int 0, .int 0, .int 0])), ((a 1), .inr (9, [.ref (a 20), .int 0])), ((a 11), .inr (5, [.int 0, .int 0, .int 0, .int 0, .int 0, .int 0, .ref (a 50), .ref (a 51), .ref (a 52), .ref (a 53), .ref (a 54), .ref (a 55), .ref (a 56), .ref (a 57)])), ((a 55), .inr (0, [.ref (a 58), .int 0])), ((a 56), .inl (D.1 13, 3, .inl fb)), ((a 57), .inl (D.1 13, 3, .inl fe))] sz) := by
  refine Met.ofW (cc := cX6_readStore) (maxL := 3) (ret := (some .boolean)) (by decide) rfl ?_
  intro p e s m args below meth c s₁ B hml hv
  obtain ⟨rfl, hsz, hP, hK, hD0⟩ := hv
  have hx := B.exec
  have hb := B.bytes
  have hr := B.returns
  have hts := atoms_spec (ws := wz yX6_readStore cX6_readStore 3 (some .boolean)) B.pre
  have ht : ∀ w ∈ lw_gd, w.before _ s = true := fun w h => hts w (List.mem_cons_of_mem _ h)
  have hown : s.vm.findClass RX6 = some m.cls := findClass_of_methodNamed B.named
  have hlocks := B.notSynchronized
  subst hsz
  have hD := hD0.self (sz := s.heap.size)
  generalize hAe : va_A [((a 2), .inr (6, [.int 0, .int (-1), .ref (a 1), .ref (a 21), .null, .int 0, .int 0, .int 0, .int 0, .int 0, .int 0, .int 0])), ((a 1), .inr (9, [.ref (a 20), .int 0])), ((a 11), .inr (5, [.int 0, .int 0, .int 0, .int 0, .int 0, .int 0, .ref (a 50), .ref (a 51), .ref (a 52), .ref (a 53), .ref (a 54), .ref (a 55), .ref (a 56), .ref (a 57)])), ((a 55), .inr (0, [.ref (a 58), .int 0])), ((a 56), .inl (D.1 13, 3, .inl fb)), ((a 57), .inl (D.1 13, 3, .inl fe))] s.heap.size = A at hD ⊢
  have hA : ∀ q : Nat, s.heap.size ≤ q → A q := fun q h => by rw [← hAe]; exact Or.inr h
  have hS : va_S A s.heap s.heap [] := va_S.rf
  have hl := lv_entry ([.ref (a 2), .ref (a 11)]) (n := 3) (Nat.le_of_ble_eq_true rfl)
  rw [lg_entry_eq]
  generalize (lg_sl ([.ref (a 2), .ref (a 11)]) ++ List.replicate (3 - (lg_sl ([.ref (a 2), .ref (a 11)])).length) Slot.unset).toArray = ls at hl ⊢
  have hl : lv_has ls 3 [(0, .ref (a 2)), (1, .ref (a 11))] := hl
  refine lv_aload_n hx hb dX6_readStore_0 rfl (lv_at hl 1 rfl) ?_
  refine zwVv (As := []) (rest := []) (C := RX5) (n := 0) (wr := [((a 2), .inr (6, [.int 0, .int (-1), .ref (a 1), .ref (a 21), .null, .int 0, .int 0, .int 0, .int 0, .int 0, .int 0, .int 0])), ((a 1), .inr (9, [.ref (a 20), .int 0]))]) ⟨hx, hb, hml, hown, ht⟩ (k_X5_clear l D _ (a 11) (a 55) (a 56) (a 57) (a 50) (a 51) (a 52) (a 53) (a 54) (a 58) fb fe) (zgV ml_X6_31 im_X5_clear se_X5_clear in_X5 co_X5_clear) rfl rfl (by decide +kernel) ⟨Nat.le_of_ble_eq_true rfl, Nat.le_of_ble_eq_true rfl⟩ hK hP hD hS hA [2, 3, 4, 5] [0, 1] rfl rfl rfl rfl (by decide) 0 rfl rfl rfl rfl hl.1 rfl (Nat.le_of_ble_eq_true rfl) dX6_readStore_1 ⟨Nat.le_of_ble_eq_true rfl, Nat.le_of_ble_eq_true rfl⟩ (fun u_1 H locs hw hP hD hS => ?_)
  obtain ⟨f_3, f_4⟩ := u_1
  have hP : va_P D vwCl [((a 2), .inr (6, [.int 0, .int (-1), .ref (a 1), .ref (a 21), .null, .int 0, .int 0, .int 0, .int 0, .int 0, .int 0, .int 0])), ((a 1), .inr (9, [.ref (a 20), .int 0])), ((a 11), .inr (5, [.int 0, .int 0, .int 0, .int 0, .int 0, .int 0, .ref (a 50), .ref (a 51), .ref (a 52), .ref (a 53), .ref (a 54), .ref (a 55), .ref (a 56), .ref (a 57)])), ((a 55), .inr (0, [.ref (a 58), .int 0])), ((a 56), .inl (D.1 13, 3, .inl f_3)), ((a 57), .inl (D.1 13, 3, .inl f_4))] H := hP
  have hD : va_D A [((a 2), .inr (6, [.int 0, .int (-1), .ref (a 1), .ref (a 21), .null, .int 0, .int 0, .int 0, .int 0, .int 0, .int 0, .int 0])), ((a 1), .inr (9, [.ref (a 20), .int 0])), ((a 11), .inr (5, [.int 0, .int 0, .int 0, .int 0, .int 0, .int 0, .ref (a 50), .ref (a 51), .ref (a 52), .ref (a 53), .ref (a 54), .ref (a 55), .ref (a 56), .ref (a 57)])), ((a 55), .inr (0, [.ref (a 58), .int 0])), ((a 56), .inl (D.1 13, 3, .inl f_3)), ((a 57), .inl (D.1 13, 3, .inl f_4))] := hD
  refine lv_aload_n hx hb dX6_readStore_4 rfl (lv_at hl 0 rfl) ?_
  refine lv_aload_n hx hb dX6_readStore_5 rfl (lv_at hl 1 rfl) ?_
  refine va_get (D := D) (ci := 5) (v := .ref (a 55)) (C := RX5) (T := TX5) (N := 14) hx hb ht inX5 hown hK hP 2 rfl rfl 11 (by decide) (ht (.fieldLink RX6 36 "CloneVolumes$Plan" "code" "LCloneVolumes$Code;") fl_X6_36) (fun _ h9 => h9) rfl dX6_readStore_6 ?_
  refine zwVv (As := [.ref (a 55)]) (rest := []) (C := RX6) (n := 1) (wr := [((a 11), .inr (5, [.int 0, .int 0, .int 0, .int 0, .int 0, .int 0, .ref (a 50), .ref (a 51), .ref (a 52), .ref (a 53), .ref (a 54), .ref (a 55), .ref (a 56), .ref (a 57)])), ((a 55), .inr (0, [.ref (a 58), .int 0])), ((a 56), .inl (D.1 13, 3, .inl f_3)), ((a 57), .inl (D.1 13, 3, .inl f_4))]) ⟨hx, hb, hml, hown, ht⟩ (k_X6_begin l D _ a) (zgV ml_X6_40 im_X6_begin se_X6_begin in_X6 co_X6_begin) rfl rfl (by decide +kernel) ⟨Nat.le_of_ble_eq_true rfl, Nat.le_of_ble_eq_true rfl⟩ hK hP hD hS hA [0, 1] [2, 3, 4, 5] rfl rfl rfl rfl (by decide) 0 rfl rfl rfl rfl hl.1 rfl (Nat.le_of_ble_eq_true rfl) dX6_readStore_9 ⟨Nat.le_of_ble_eq_true rfl, Nat.le_of_ble_eq_true rfl⟩ (fun u_5 H locs hw hP hD hS => ?_)
  have hP : va_P D vwCl [((a 11), .inr (5, [.int 0, .int 0, .int 0, .int 0, .int 0, .int 0, .ref (a 50), .ref (a 51), .ref (a 52), .ref (a 53), .ref (a 54), .ref (a 55), .ref (a 56), .ref (a 57)])), ((a 55), .inr (0, [.ref (a 58), .int 0])), ((a 56), .inl (D.1 13, 3, .inl f_3)), ((a 57), .inl (D.1 13, 3, .inl f_4)), ((a 2), .inr (6, [.int 0, .int (-1), .ref (a 1), .ref (a 21), .ref (a 55), .int 0, .int 0, .int 0, .int 0, .int 0, .int (-1), .int (-1)])), ((a 1), .inr (9, [.ref (a 20), .int 0]))] H := hP
  have hD : va_D A [((a 11), .inr (5, [.int 0, .int 0, .int 0, .int 0, .int 0, .int 0, .ref (a 50), .ref (a 51), .ref (a 52), .ref (a 53), .ref (a 54), .ref (a 55), .ref (a 56), .ref (a 57)])), ((a 55), .inr (0, [.ref (a 58), .int 0])), ((a 56), .inl (D.1 13, 3, .inl f_3)), ((a 57), .inl (D.1 13, 3, .inl f_4)), ((a 2), .inr (6, [.int 0, .int (-1), .ref (a 1), .ref (a 21), .ref (a 55), .int 0, .int 0, .int 0, .int 0, .int 0, .int (-1), .int (-1)])), ((a 1), .inr (9, [.ref (a 20), .int 0]))] := hD
  refine lv_iconst (v := 0) hx hb dX6_readStore_12 (by decide) ?_
  refine lv_istore_n (lv' := [(2, .int 0), (0, .ref (a 2)), (1, .ref (a 11))]) hx hb dX6_readStore_13 rfl hl (by decide) rfl (fun ls hl => ?_)
  refine lv_iload_n hx hb dX6_readStore_14 rfl (lv_at hl 0 rfl) ?_
  refine lv_bipush (v := 60) hx hb dX6_readStore_15 (by decide) ?_
  refine lv_icmp_ge (tgt := 38) hx hb dX6_readStore_17 (by decide) (fun c_7 => (z_abs c_7 (by decide)).elim) (fun _ => ?_)
  refine lv_aload_n hx hb dX6_readStore_20 rfl (lv_at hl 1 rfl) ?_
  refine va_get (D := D) (ci := 6) (v := .int 0) (C := RX6) (T := TX6) (N := 12) hx hb ht inX6 hown hK hP 4 rfl rfl 7 (by decide) (ht (.fieldLink RX6 44 "CloneVolumes$Reader" "kind" "I") fl_X6_44) (fun _ h9 => h9) rfl dX6_readStore_21 ?_
  refine lv_if_eq (tgt := 38) hx hb dX6_readStore_24 (by decide) (fun _ => ?_) (fun c_9 => (z_abs c_9 (by decide)).elim)
  refine lv_aload_n hx hb dX6_readStore_38 rfl (lv_at hl 1 rfl) ?_
  refine va_get (D := D) (ci := 6) (v := .int 0) (C := RX6) (T := TX6) (N := 12) hx hb ht inX6 hown hK hP 4 rfl rfl 7 (by decide) (ht (.fieldLink RX6 44 "CloneVolumes$Reader" "kind" "I") fl_X6_44) (fun _ h9 => h9) rfl dX6_readStore_39 ?_
  refine lv_if_eq (tgt := 58) hx hb dX6_readStore_42 (by decide) (fun _ => ?_) (fun c_11 => (z_abs c_11 (by decide)).elim)
  refine lv_aload_n hx hb dX6_readStore_58 rfl (lv_at hl 2 rfl) ?_
  refine va_get (D := D) (ci := 5) (v := .int 0) (C := RX5) (T := TX5) (N := 14) hx hb ht inX5 hown hK hP 0 rfl rfl 3 (by decide) (ht (.fieldLink RX6 58 "CloneVolumes$Plan" "statements" "I") fl_X6_58) (fun _ h9 => h9) rfl dX6_readStore_59 ?_
  refine lv_if_ne (tgt := 75) hx hb dX6_readStore_62 (by decide) (fun c_13 => (z_abs c_13 (by decide)).elim) (fun _ => ?_)
  refine lv_aload_n hx hb dX6_readStore_65 rfl (lv_at hl 1 rfl) ?_
  refine lv_iconst (v := 1) hx hb dX6_readStore_66 (by decide) ?_
  refine lv_aload_n hx hb dX6_readStore_67 rfl (lv_at hl 1 rfl) ?_
  refine va_get (D := D) (ci := 6) (v := .int 0) (C := RX6) (T := TX6) (N := 12) hx hb ht inX6 hown hK hP 4 rfl rfl 8 (by decide) (ht (.fieldLink RX6 51 "CloneVolumes$Reader" "start" "I") fl_X6_51) (fun _ h9 => h9) rfl dX6_readStore_68 ?_
  refine zwV (As := [.int 1, .int 0]) (rest := []) (C := RX6) (n := 2) (wr := [((a 11), .inr (5, [.int 0, .int 0, .int 0, .int 0, .int 0, .int 0, .ref (a 50), .ref (a 51), .ref (a 52), .ref (a 53), .ref (a 54), .ref (a 55), .ref (a 56), .ref (a 57)])), ((a 55), .inr (0, [.ref (a 58), .int 0])), ((a 56), .inl (D.1 13, 3, .inl f_3)), ((a 57), .inl (D.1 13, 3, .inl f_4)), ((a 1), .inr (9, [.ref (a 20), .int 0]))]) ⟨hx, hb, hml, hown, ht⟩ (k_X6_fail l D _ a) (zgV ml_X6_54 im_X6_fail se_X6_fail in_X6 co_X6_fail) rfl rfl (by decide +kernel) ⟨Nat.le_of_ble_eq_true rfl, Nat.le_of_ble_eq_true rfl⟩ hK hP hD hS hA [4] [0, 1, 2, 3, 5] rfl rfl rfl rfl (by decide) 0 rfl rfl rfl rfl hl.1 rfl (Nat.le_of_ble_eq_true rfl) dX6_readStore_71 ⟨Nat.le_of_ble_eq_true rfl, Nat.le_of_ble_eq_true rfl⟩ (fun r_16 u_15 H locs hw hP hD hS => ?_)
  have hP : va_P D vwCl [((a 11), .inr (5, [.int 0, .int 0, .int 0, .int 0, .int 0, .int 0, .ref (a 50), .ref (a 51), .ref (a 52), .ref (a 53), .ref (a 54), .ref (a 55), .ref (a 56), .ref (a 57)])), ((a 55), .inr (0, [.ref (a 58), .int 0])), ((a 56), .inl (D.1 13, 3, .inl f_3)), ((a 57), .inl (D.1 13, 3, .inl f_4)), ((a 1), .inr (9, [.ref (a 20), .int 0])), ((a 2), .inr (6, [.int 1, .int 0, .ref (a 1), .ref (a 21), .ref (a 55), .int 0, .int 0, .int 0, .int 0, .int 0, .int (-1), .int (-1)]))] H := hP
  have hD : va_D A [((a 11), .inr (5, [.int 0, .int 0, .int 0, .int 0, .int 0, .int 0, .ref (a 50), .ref (a 51), .ref (a 52), .ref (a 53), .ref (a 54), .ref (a 55), .ref (a 56), .ref (a 57)])), ((a 55), .inr (0, [.ref (a 58), .int 0])), ((a 56), .inl (D.1 13, 3, .inl f_3)), ((a 57), .inl (D.1 13, 3, .inl f_4)), ((a 1), .inr (9, [.ref (a 20), .int 0])), ((a 2), .inr (6, [.int 1, .int 0, .ref (a 1), .ref (a 21), .ref (a 55), .int 0, .int 0, .int 0, .int 0, .int 0, .int (-1), .int (-1)]))] := hD
  subst hw
  refine lv_pop hx hb dX6_readStore_74 rfl ?_
  refine lv_aload_n hx hb dX6_readStore_75 rfl (lv_at hl 1 rfl) ?_
  refine va_get (D := D) (ci := 6) (v := .int 1) (C := RX6) (T := TX6) (N := 12) hx hb ht inX6 hown hK hP 5 rfl rfl 0 (by decide) (ht (.fieldLink RX6 61 "CloneVolumes$Reader" "fault" "I") fl_X6_61) (fun _ h9 => h9) rfl dX6_readStore_76 ?_
  refine lv_if_ne (tgt := 86) hx hb dX6_readStore_79 (by decide) (fun _ => ?_) (fun c_17 => (z_abs c_17 (by decide)).elim)
  refine lv_iconst (v := 0) hx hb dX6_readStore_86 (by decide) ?_
  have hP9 := hP.sub (ws' := [((a 1), .inr (9, [.ref (a 20), .int 0]))]) [4] rfl
  have hD9 := hD.sub (ws' := [((a 1), .inr (9, [.ref (a 20), .int 0]))]) [4] (by decide) rfl
  refine W.widen (k := 0) (n := 0) (Nat.le_of_ble_eq_true rfl) (Nat.le_of_ble_eq_true rfl) ?_
  exact W.zret (v := 0) hx hb hr (by decide) (fun t ht hW => ⟨⟨0, (), rfl, rfl, by rw [ht]; exact hP9, va_K.moved hW.alike hK, hD9⟩, hS.F ht⟩) hS.2.2 dX6_readStore_87
set_option maxHeartbeats 4000000 in
set_option maxRecDepth 100000 in
theorem k_X11_store (l : Launch) (D : va_G) (sz : Nat) (a : Nat → Nat) (fb fe : Nat → Int32) : Met l yX11_store (wz yX11_store cX11_store 3 (some .int)) { frames := 4, cells := 0, slots := 0, locals := 240 } (va_Pc [.ref (a 0)] (zW D sz [((a 0), .inr (11, [.ref (a 1), .ref (a 2), .ref (a 3), .ref (a 4), .ref (a 5), .ref (a 6), .ref (a 7), .ref (a 8), .ref (a 9), .ref (a 10), .ref (a 11), .ref (a 12), .int 0])), ((a 2), .inr (6, [.int 0, .int (-1), .ref (a 1), .ref (a 21), .null, .int 0, .int 0, .int 0, .int 0, .int 0, .int 0, .int 0])), ((a 1), .inr (9, [.ref (a 20), .int 0])), ((a 11), .inr (5, [.int 0, .int 0, .int 0, .int 0, .int 0, .int 0, .ref (a 50), .ref (a 51), .ref (a 52), .ref (a 53), .ref (a 54), .ref (a 55), .ref (a 56), .ref (a 57)])), ((a 55), .inr (0, [.ref (a 58), .int 0])), ((a 56), .inl (D.1 13, 3, .inl fb)), ((a 57), .inl (D.1 13, 3, .inl fe)), ((a 9), .inl (D.1 13, 6, .inl (fun _ => 0)))])) (va_Qi (fun r (_ : Unit) => r = (-1)) (fun u t => zB D (va_A [((a 0), .inr (11, [.ref (a 1), .ref (a 2), .ref (a 3), .ref (a 4), .ref (a 5), .ref (a 6), .ref (a 7), .ref (a 8), .ref (a 9), .ref (a 10), .ref (a 11), .ref (a 12), .int 0])), ((a 2), .inr (6, [.int 0, .int (-1), .ref (a 1), .ref (a 21), .null, .int 0, .int 0, .int 0, .int 0, .int 0, .int 0, .int 0])), ((a 1), .inr (9, [.ref (a 20), .int 0])), ((a 11), .inr (5, [.int 0, .int 0, .int 0, .int 0, .int 0, .int 0, .ref (a 50), .ref (a 51), .ref (a 52), .ref (a 53), .ref (a 54), .ref (a 55), .ref (a 56), .ref (a 57)])), ((a 55), .inr (0, [.ref (a 58), .int 0])), ((a 56), .inl (D.1 13, 3, .inl fb)), ((a 57), .inl (D.1 13, 3, .inl fe)), ((a 9), .inl (D.1 13, 6, .inl (fun _ => 0)))] sz) ((fun (_ : Unit) => []) u) t) (va_A [((a 0), .inr (11, [.ref (a 1), .ref (a 2), .ref (a 3), .ref (a 4), .ref (a 5), .ref (a 6), .ref (a 7), .ref (a 8), .ref (a 9), .ref (a 10), .ref (a 11), .ref (a 12), .int 0])), ((a 2), .inr (6, [.int 0, .int (-1), .ref (a 1), .ref (a 21), .null, .int 0, .int 0, .int 0, .int 0, .int 0, .int 0, .int 0])), ((a 1), .inr (9, [.ref (a 20), .int 0])), ((a 11), .inr (5, [.int 0, .int 0, .int 0, .int 0, .int 0, .int 0, .ref (a 50), .ref (a 51), .ref (a 52), .ref (a 53), .ref (a 54), .ref (a 55), .ref (a 56), .ref (a 57)])), ((a 55), .inr (0, [.ref (a 58), .int 0])), ((a 56), .inl (D.1 13, 3, .inl fb)), ((a 57), .inl (D.1 13, 3, .inl fe)), ((a 9), .inl (D.1 13, 6, .inl (fun _ => 0)))] sz)) 0 0 (va_A [((a 0), .inr (11, [.ref (a 1), .ref (a 2), .ref (a 3), .ref (a 4), .ref (a 5), .ref (a 6), .ref (a 7), .ref (a 8), .ref (a 9), .ref (a 10), .ref (a 11), .ref (a 12), .int 0])), ((a 2), .inr (6, [.int 0, .int (-1), .ref (a 1), .ref (a 21), .null, .int 0, .int 0, .int 0, .int 0, .int 0, .int 0, .int 0])), ((a 1), .inr (9, [.ref (a 20), .int 0])), ((a 11), .inr (5, [.int 0, .int 0, .int 0, .int 0, .int 0, .int 0, .ref (a 50), .ref (a 51), .ref (a 52), .ref (a 53), .ref (a 54), .ref (a 55), .ref (a 56), .ref (a 57)])), ((a 55), .inr (0, [.ref (a 58), .int 0])), ((a 56), .inl (D.1 13, 3, .inl fb)), ((a 57), .inl (D.1 13, 3, .inl fe)), ((a 9), .inl (D.1 13, 6, .inl (fun _ => 0)))] sz) := by
  refine Met.ofW (cc := cX11_store) (maxL := 3) (ret := (some .int)) (by decide) rfl ?_
  intro p e s m args below meth c s₁ B hml hv
  obtain ⟨rfl, hsz, hP, hK, hD0⟩ := hv
  have hx := B.exec
  have hb := B.bytes
  have hr := B.returns
  have hts := atoms_spec (ws := wz yX11_store cX11_store 3 (some .int)) B.pre
  have ht : ∀ w ∈ lw_gd, w.before _ s = true := fun w h => hts w (List.mem_cons_of_mem _ h)
  have hown : s.vm.findClass RX11 = some m.cls := findClass_of_methodNamed B.named
  have hlocks := B.notSynchronized
  subst hsz
  have hD := hD0.self (sz := s.heap.size)
  generalize hAe : va_A [((a 0), .inr (11, [.ref (a 1), .ref (a 2), .ref (a 3), .ref (a 4), .ref (a 5), .ref (a 6), .ref (a 7), .ref (a 8), .ref (a 9), .ref (a 10), .ref (a 11), .ref (a 12), .int 0])), ((a 2), .inr (6, [.int 0, .int (-1), .ref (a 1), .ref (a 21), .null, .int 0, .int 0, .int 0, .int 0, .int 0, .int 0, .int 0])), ((a 1), .inr (9, [.ref (a 20), .int 0])), ((a 11), .inr (5, [.int 0, .int 0, .int 0, .int 0, .int 0, .int 0, .ref (a 50), .ref (a 51), .ref (a 52), .ref (a 53), .ref (a 54), .ref (a 55), .ref (a 56), .ref (a 57)])), ((a 55), .inr (0, [.ref (a 58), .int 0])), ((a 56), .inl (D.1 13, 3, .inl fb)), ((a 57), .inl (D.1 13, 3, .inl fe)), ((a 9), .inl (D.1 13, 6, .inl (fun _ => 0)))] s.heap.size = A at hD ⊢
  have hA : ∀ q : Nat, s.heap.size ≤ q → A q := fun q h => by rw [← hAe]; exact Or.inr h
  have hS : va_S A s.heap s.heap [] := va_S.rf
  have hl := lv_entry ([.ref (a 0)]) (n := 3) (Nat.le_of_ble_eq_true rfl)
  rw [lg_entry_eq]
  generalize (lg_sl ([.ref (a 0)]) ++ List.replicate (3 - (lg_sl ([.ref (a 0)])).length) Slot.unset).toArray = ls at hl ⊢
  have hl : lv_has ls 3 [(0, .ref (a 0))] := hl
  refine lv_aload_n hx hb dX11_store_0 rfl (lv_at hl 0 rfl) ?_
  refine va_get (D := D) (ci := 11) (v := .ref (a 2)) (C := RX11) (T := TX11) (N := 13) hx hb ht inX11 hown hK hP 0 rfl rfl 1 (by decide) (ht (.fieldLink RX11 21 "CloneVolumes" "reader" "LCloneVolumes$Reader;") fl_X11_21) (fun _ h9 => h9) rfl dX11_store_1 ?_
  refine lv_aload_n hx hb dX11_store_4 rfl (lv_at hl 0 rfl) ?_
  refine va_get (D := D) (ci := 11) (v := .ref (a 11)) (C := RX11) (T := TX11) (N := 13) hx hb ht inX11 hown hK hP 0 rfl rfl 10 (by decide) (ht (.fieldLink RX11 71 "CloneVolumes" "spare" "LCloneVolumes$Plan;") fl_X11_71) (fun _ h9 => h9) rfl dX11_store_5 ?_
  refine zwV (As := [.ref (a 11)]) (rest := []) (C := RX6) (n := 1) (wr := [((a 0), .inr (11, [.ref (a 1), .ref (a 2), .ref (a 3), .ref (a 4), .ref (a 5), .ref (a 6), .ref (a 7), .ref (a 8), .ref (a 9), .ref (a 10), .ref (a 11), .ref (a 12), .int 0])), ((a 9), .inl (D.1 13, 6, .inl (fun _ => 0)))]) ⟨hx, hb, hml, hown, ht⟩ (k_X6_readStore l D _ a fb fe) (zgV ml_X11_99 im_X6_readStore se_X6_readStore in_X6 co_X6_readStore) rfl rfl (by decide +kernel) ⟨Nat.le_of_ble_eq_true rfl, Nat.le_of_ble_eq_true rfl⟩ hK hP hD hS hA [1, 2, 3, 4, 5, 6] [0, 7] rfl rfl rfl rfl (by decide) 0 rfl rfl rfl rfl hl.1 rfl (Nat.le_of_ble_eq_true rfl) dX11_store_8 ⟨Nat.le_of_ble_eq_true rfl, Nat.le_of_ble_eq_true rfl⟩ (fun r_2 u_1 H locs hw hP hD hS => ?_)
  have hP : va_P D vwCl [((a 0), .inr (11, [.ref (a 1), .ref (a 2), .ref (a 3), .ref (a 4), .ref (a 5), .ref (a 6), .ref (a 7), .ref (a 8), .ref (a 9), .ref (a 10), .ref (a 11), .ref (a 12), .int 0])), ((a 9), .inl (D.1 13, 6, .inl (fun _ => 0))), ((a 1), .inr (9, [.ref (a 20), .int 0]))] H := hP
  have hD : va_D A [((a 0), .inr (11, [.ref (a 1), .ref (a 2), .ref (a 3), .ref (a 4), .ref (a 5), .ref (a 6), .ref (a 7), .ref (a 8), .ref (a 9), .ref (a 10), .ref (a 11), .ref (a 12), .int 0])), ((a 9), .inl (D.1 13, 6, .inl (fun _ => 0))), ((a 1), .inr (9, [.ref (a 20), .int 0]))] := hD
  subst hw
  refine lv_istore_n (lv' := [(1, .int 0), (0, .ref (a 0))]) hx hb dX11_store_11 rfl hl (by decide) rfl (fun ls hl => ?_)
  refine lv_aload_n hx hb dX11_store_12 rfl (lv_at hl 1 rfl) ?_
  refine va_get (D := D) (ci := 11) (v := .ref (a 1)) (C := RX11) (T := TX11) (N := 13) hx hb ht inX11 hown hK hP 0 rfl rfl 0 (by decide) (ht (.fieldLink RX11 12 "CloneVolumes" "tape" "LCloneVolumes$Tape;") fl_X11_12) (fun _ h9 => h9) rfl dX11_store_13 ?_
  refine lv_iconst (v := 0) hx hb dX11_store_16 (by decide) ?_
  refine va_put (D := D) (ci := 9) (v := .int 0) (ty := .int) (C := RX9) (T := TX9) (N := 2) hx hb ht inX9 tyX9 tyX9_ok nmX9 hown hK hP hD hS 2 rfl rfl 1 (by decide) (ht (.fieldLink RX11 95 "CloneVolumes$Tape" "length" "I") fl_X11_95) (fun _ h9 => h9) rfl (by decide +kernel) rfl rfl (Nat.le_of_ble_eq_true rfl) dX11_store_17 (fun H locs hP hD hS => ?_)
  have hP : va_P D vwCl [((a 0), .inr (11, [.ref (a 1), .ref (a 2), .ref (a 3), .ref (a 4), .ref (a 5), .ref (a 6), .ref (a 7), .ref (a 8), .ref (a 9), .ref (a 10), .ref (a 11), .ref (a 12), .int 0])), ((a 9), .inl (D.1 13, 6, .inl (fun _ => 0))), ((a 1), .inr (9, [.ref (a 20), .int 0]))] H := hP
  have hD : va_D A [((a 0), .inr (11, [.ref (a 1), .ref (a 2), .ref (a 3), .ref (a 4), .ref (a 5), .ref (a 6), .ref (a 7), .ref (a 8), .ref (a 9), .ref (a 10), .ref (a 11), .ref (a 12), .int 0])), ((a 9), .inl (D.1 13, 6, .inl (fun _ => 0))), ((a 1), .inr (9, [.ref (a 20), .int 0]))] := hD
  refine lv_iload_n hx hb dX11_store_20 rfl (lv_at hl 0 rfl) ?_
  refine lv_if_ne (tgt := 30) hx hb dX11_store_21 (by decide) (fun c_3 => (z_abs c_3 (by decide)).elim) (fun _ => ?_)
  refine lv_aload_n hx hb dX11_store_24 rfl (lv_at hl 1 rfl) ?_
  refine lv_iconst (v := 1) hx hb dX11_store_25 (by decide) ?_
  refine zwV (As := [.int 1]) (rest := []) (C := RX11) (n := 1) (wr := [((a 1), .inr (9, [.ref (a 20), .int 0]))]) ⟨hx, hb, hml, hown, ht⟩ (k_X11_refuse l D _ a 1 (by first | decide | omega)) (zgV ml_X11_87 im_X11_refuse se_X11_refuse in_X11 co_X11_refuse) rfl rfl (by decide +kernel) ⟨Nat.le_of_ble_eq_true rfl, Nat.le_of_ble_eq_true rfl⟩ hK hP hD hS hA [0, 1] [2] rfl rfl rfl rfl (by decide) 0 rfl rfl rfl rfl hl.1 rfl (Nat.le_of_ble_eq_true rfl) dX11_store_26 ⟨Nat.le_of_ble_eq_true rfl, Nat.le_of_ble_eq_true rfl⟩ (fun r_6 u_5 H locs hw hP hD hS => ?_)
  have hP : va_P D vwCl [((a 1), .inr (9, [.ref (a 20), .int 0]))] H := hP
  have hD : va_D A [((a 1), .inr (9, [.ref (a 20), .int 0]))] := hD
  subst hw
  have hP9 := hP.sub (ws' := []) [] rfl
  have hD9 := hD.sub (ws' := []) [] (by decide) rfl
  refine W.widen (k := 0) (n := 0) (Nat.le_of_ble_eq_true rfl) (Nat.le_of_ble_eq_true rfl) ?_
  exact W.iret (v := (-1)) hx hb hr (fun t ht hW => ⟨⟨(-1), (), rfl, rfl, by rw [ht]; exact hP9, va_K.moved hW.alike hK, hD9⟩, hS.F ht⟩) hS.2.2 dX11_store_29
