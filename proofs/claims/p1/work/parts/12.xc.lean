theorem fl_X9_9 : Cond.fieldLink RX9 9 "CloneVolumes$Tape" "bytes" "[I" ∈ lw_gd := zm (List.mem_of_getElem? (i := 232) (by decide +kernel)) rfl
theorem fl_X11_12 : Cond.fieldLink RX11 12 "CloneVolumes" "tape" "LCloneVolumes$Tape;" ∈ lw_gd := zm (List.mem_of_getElem? (i := 700) (by decide +kernel)) rfl
theorem ml_X11_83 : Cond.methodLink RX11 83 yX9_hasRoom ∈ lw_gd := zm (List.mem_of_getElem? (i := 744) (by decide +kernel)) rfl
theorem im_X9_hasRoom : Cond.instanceMethod yX9_hasRoom ∈ lw_gd := zm (List.mem_of_getElem? (i := 745) (by decide +kernel)) rfl
theorem se_X9_hasRoom : Cond.selects RX9 yX9_hasRoom yX9_hasRoom ∈ lw_gd := zm (List.mem_of_getElem? (i := 746) (by decide +kernel)) rfl
theorem in_X9 : Cond.initialized RX9 ∈ lw_gd := zm (List.mem_of_getElem? (i := 199) (by decide +kernel)) rfl
theorem co_X9_hasRoom : Cond.code yX9_hasRoom cX9_hasRoom 1 (some .boolean) ∈ lw_gd := zm (List.mem_of_getElem? (i := 747) (by decide +kernel)) rfl
theorem ml_X11_91 : Cond.methodLink RX11 91 yX9_append ∈ lw_gd := zm (List.mem_of_getElem? (i := 752) (by decide +kernel)) rfl
theorem im_X9_append : Cond.instanceMethod yX9_append ∈ lw_gd := zm (List.mem_of_getElem? (i := 753) (by decide +kernel)) rfl
theorem se_X9_append : Cond.selects RX9 yX9_append yX9_append ∈ lw_gd := zm (List.mem_of_getElem? (i := 754) (by decide +kernel)) rfl
theorem co_X9_append : Cond.code yX9_append cX9_append 3 none ∈ lw_gd := zm (List.mem_of_getElem? (i := 755) (by decide +kernel)) rfl
theorem fl_X11_95 : Cond.fieldLink RX11 95 "CloneVolumes$Tape" "length" "I" ∈ lw_gd := zm (List.mem_of_getElem? (i := 237) (by decide +kernel)) rfl
theorem ml_X11_87 : Cond.methodLink RX11 87 yX11_refuse ∈ lw_gd := zm (List.mem_of_getElem? (i := 748) (by decide +kernel)) rfl
theorem im_X11_refuse : Cond.instanceMethod yX11_refuse ∈ lw_gd := zm (List.mem_of_getElem? (i := 750) (by decide +kernel)) rfl
theorem se_X11_refuse : Cond.selects RX11 yX11_refuse yX11_refuse ∈ lw_gd := zm (List.mem_of_getElem? (i := 0) (by decide +kernel)) rfl
theorem co_X11_refuse : Cond.code yX11_refuse cX11_refuse 2 (some .int) ∈ lw_gd := zm (List.mem_of_getElem? (i := 751) (by decide +kernel)) rfl
theorem fl_X11_316 : Cond.fieldLink RX11 316 "CloneVolumes$Forest" "seed" "I" ∈ lw_gd := zm (List.mem_of_getElem? (i := 675) (by decide +kernel)) rfl
theorem ml_X11_258 : Cond.methodLink RX11 258 yX7_take ∈ lw_gd := zm (List.mem_of_getElem? (i := 1286) (by decide +kernel)) rfl
theorem im_X7_take : Cond.instanceMethod yX7_take ∈ lw_gd := zm (List.mem_of_getElem? (i := 1287) (by decide +kernel)) rfl
theorem se_X7_take : Cond.selects RX7 yX7_take yX7_take ∈ lw_gd := zm (List.mem_of_getElem? (i := 1288) (by decide +kernel)) rfl
theorem in_X7 : Cond.initialized RX7 ∈ lw_gd := zm (List.mem_of_getElem? (i := 206) (by decide +kernel)) rfl
theorem co_X7_take : Cond.code yX7_take cX7_take 4 (some .boolean) ∈ lw_gd := zm (List.mem_of_getElem? (i := 1289) (by decide +kernel)) rfl
theorem ml_X11_308 : Cond.methodLink RX11 308 yX2_forget ∈ lw_gd := zm (List.mem_of_getElem? (i := 1411) (by decide +kernel)) rfl
theorem im_X2_forget : Cond.instanceMethod yX2_forget ∈ lw_gd := zm (List.mem_of_getElem? (i := 1412) (by decide +kernel)) rfl
theorem se_X2_forget : Cond.selects RX2 yX2_forget yX2_forget ∈ lw_gd := zm (List.mem_of_getElem? (i := 1413) (by decide +kernel)) rfl
theorem co_X2_forget : Cond.code yX2_forget cX2_forget 1 (some (.object "CloneVolumes$State")) ∈ lw_gd := zm (List.mem_of_getElem? (i := 1414) (by decide +kernel)) rfl
theorem ml_X11_286 : Cond.methodLink RX11 286 yX8_freeNumber ∈ lw_gd := zm (List.mem_of_getElem? (i := 1355) (by decide +kernel)) rfl
theorem im_X8_freeNumber : Cond.instanceMethod yX8_freeNumber ∈ lw_gd := zm (List.mem_of_getElem? (i := 1356) (by decide +kernel)) rfl
theorem se_X8_freeNumber : Cond.selects RX8 yX8_freeNumber yX8_freeNumber ∈ lw_gd := zm (List.mem_of_getElem? (i := 1357) (by decide +kernel)) rfl
theorem co_X8_freeNumber : Cond.code yX8_freeNumber cX8_freeNumber 2 (some .int) ∈ lw_gd := zm (List.mem_of_getElem? (i := 1358) (by decide +kernel)) rfl
theorem cl_X11_319 : Cond.constantLong RX11 319 (-1000000000000000) ∈ lw_gd := zm (List.mem_of_getElem? (i := 1424) (by decide +kernel)) rfl
theorem dX11_ask_0 : decode cX11_ask 0 = .ok (.aload_n 0, 1) := by decide +kernel
theorem dX11_ask_1 : decode cX11_ask 1 = .ok (.getfield 112, 3) := by decide +kernel
theorem dX11_ask_4 : decode cX11_ask 4 = .ok (.ifCond .ne 15, 3) := by decide +kernel
theorem dX11_ask_7 : decode cX11_ask 7 = .ok (.aload_n 0, 1) := by decide +kernel
theorem dX11_ask_8 : decode cX11_ask 8 = .ok (.getfield 12, 3) := by decide +kernel
theorem dX11_ask_11 : decode cX11_ask 11 = .ok (.iconst 0, 1) := by decide +kernel
theorem dX11_ask_12 : decode cX11_ask 12 = .ok (.putfield 95, 3) := by decide +kernel
theorem dX11_ask_15 : decode cX11_ask 15 = .ok (.ldc2_w 319, 3) := by decide +kernel
theorem dX11_ask_18 : decode cX11_ask 18 = .ok (.lreturn, 1) := by decide +kernel
theorem dX11_chance_0 : decode cX11_chance 0 = .ok (.aload_n 0, 1) := by decide +kernel
theorem dX11_chance_1 : decode cX11_chance 1 = .ok (.getfield 112, 3) := by decide +kernel
theorem dX11_chance_4 : decode cX11_chance 4 = .ok (.ifCond .eq 14, 3) := by decide +kernel
theorem dX11_chance_18 : decode cX11_chance 18 = .ok (.aload_n 0, 1) := by decide +kernel
theorem dX11_chance_19 : decode cX11_chance 19 = .ok (.iconst 3, 1) := by decide +kernel
theorem dX11_chance_20 : decode cX11_chance 20 = .ok (.invokevirtual 87, 3) := by decide +kernel
theorem dX11_chance_23 : decode cX11_chance 23 = .ok (.ireturn, 1) := by decide +kernel
theorem dX11_checkpoint_0 : decode cX11_checkpoint 0 = .ok (.aload_n 0, 1) := by decide +kernel
theorem dX11_checkpoint_1 : decode cX11_checkpoint 1 = .ok (.getfield 112, 3) := by decide +kernel
theorem dX11_checkpoint_4 : decode cX11_checkpoint 4 = .ok (.ifCond .ne 9, 3) := by decide +kernel
theorem dX11_checkpoint_7 : decode cX11_checkpoint 7 = .ok (.aload_n 0, 1) := by decide +kernel
theorem dX11_checkpoint_8 : decode cX11_checkpoint 8 = .ok (.iconst 3, 1) := by decide +kernel
theorem dX11_checkpoint_9 : decode cX11_checkpoint 9 = .ok (.invokevirtual 87, 3) := by decide +kernel
theorem dX11_checkpoint_12 : decode cX11_checkpoint 12 = .ok (.ireturn, 1) := by decide +kernel
theorem dX11_copy_0 : decode cX11_copy 0 = .ok (.aload_n 0, 1) := by decide +kernel
theorem dX11_copy_1 : decode cX11_copy 1 = .ok (.getfield 79, 3) := by decide +kernel
theorem dX11_copy_4 : decode cX11_copy 4 = .ok (.getfield 125, 3) := by decide +kernel
theorem dX11_copy_7 : decode cX11_copy 7 = .ok (.invokevirtual 286, 3) := by decide +kernel
theorem dX11_copy_10 : decode cX11_copy 10 = .ok (.istore_n 2, 1) := by decide +kernel
theorem dX11_copy_11 : decode cX11_copy 11 = .ok (.aload_n 0, 1) := by decide +kernel
theorem dX11_copy_12 : decode cX11_copy 12 = .ok (.getfield 79, 3) := by decide +kernel
theorem dX11_copy_15 : decode cX11_copy 15 = .ok (.getfield 125, 3) := by decide +kernel
theorem dX11_copy_18 : decode cX11_copy 18 = .ok (.iload_n 1, 1) := by decide +kernel
theorem dX11_copy_19 : decode cX11_copy 19 = .ok (.invokevirtual 161, 3) := by decide +kernel
theorem dX11_copy_22 : decode cX11_copy 22 = .ok (.ifCond .eq 8, 3) := by decide +kernel
theorem dX11_copy_30 : decode cX11_copy 30 = .ok (.aload_n 0, 1) := by decide +kernel
theorem dX11_copy_31 : decode cX11_copy 31 = .ok (.iconst 2, 1) := by decide +kernel
theorem dX11_copy_32 : decode cX11_copy 32 = .ok (.invokevirtual 87, 3) := by decide +kernel
theorem dX11_copy_35 : decode cX11_copy 35 = .ok (.ireturn, 1) := by decide +kernel
theorem dX11_crash_0 : decode cX11_crash 0 = .ok (.aload_n 0, 1) := by decide +kernel
theorem dX11_crash_1 : decode cX11_crash 1 = .ok (.getfield 112, 3) := by decide +kernel
theorem dX11_crash_4 : decode cX11_crash 4 = .ok (.ifCond .ne 9, 3) := by decide +kernel
theorem dX11_crash_7 : decode cX11_crash 7 = .ok (.aload_n 0, 1) := by decide +kernel
theorem dX11_crash_8 : decode cX11_crash 8 = .ok (.iconst 3, 1) := by decide +kernel
theorem dX11_crash_9 : decode cX11_crash 9 = .ok (.invokevirtual 87, 3) := by decide +kernel
theorem dX11_crash_12 : decode cX11_crash 12 = .ok (.ireturn, 1) := by decide +kernel
theorem dX11_drop_0 : decode cX11_drop 0 = .ok (.aload_n 0, 1) := by decide +kernel
theorem dX11_drop_1 : decode cX11_drop 1 = .ok (.getfield 79, 3) := by decide +kernel
theorem dX11_drop_4 : decode cX11_drop 4 = .ok (.getfield 125, 3) := by decide +kernel
theorem dX11_drop_7 : decode cX11_drop 7 = .ok (.iload_n 1, 1) := by decide +kernel
theorem dX11_drop_8 : decode cX11_drop 8 = .ok (.invokevirtual 161, 3) := by decide +kernel
theorem dX11_drop_11 : decode cX11_drop 11 = .ok (.ifCond .ne 9, 3) := by decide +kernel
theorem dX11_drop_14 : decode cX11_drop 14 = .ok (.aload_n 0, 1) := by decide +kernel
theorem dX11_drop_15 : decode cX11_drop 15 = .ok (.iconst 2, 1) := by decide +kernel
theorem dX11_drop_16 : decode cX11_drop 16 = .ok (.invokevirtual 87, 3) := by decide +kernel
theorem dX11_drop_19 : decode cX11_drop 19 = .ok (.ireturn, 1) := by decide +kernel
theorem dX11_end_0 : decode cX11_end 0 = .ok (.iload_n 1, 1) := by decide +kernel
theorem dX11_end_1 : decode cX11_end 1 = .ok (.ifCond .lt 14, 3) := by decide +kernel
theorem dX11_end_4 : decode cX11_end 4 = .ok (.iload_n 1, 1) := by decide +kernel
theorem dX11_end_5 : decode cX11_end 5 = .ok (.aload_n 0, 1) := by decide +kernel
theorem dX11_end_6 : decode cX11_end 6 = .ok (.getfield 12, 3) := by decide +kernel
theorem dX11_end_9 : decode cX11_end 9 = .ok (.getfield 95, 3) := by decide +kernel
theorem dX11_end_12 : decode cX11_end 12 = .ok (.if_icmp .le 11, 3) := by decide +kernel
theorem dX11_end_15 : decode cX11_end 15 = .ok (.aload_n 0, 1) := by decide +kernel
theorem dX11_end_16 : decode cX11_end 16 = .ok (.iconst 0, 1) := by decide +kernel
theorem dX11_end_17 : decode cX11_end 17 = .ok (.invokevirtual 87, 3) := by decide +kernel
theorem dX11_end_20 : decode cX11_end 20 = .ok (.pop, 1) := by decide +kernel
theorem dX11_end_21 : decode cX11_end 21 = .ok (.iconst 0, 1) := by decide +kernel
theorem dX11_end_22 : decode cX11_end 22 = .ok (.ireturn, 1) := by decide +kernel
theorem dX11_end_23 : decode cX11_end 23 = .ok (.aload_n 0, 1) := by decide +kernel
theorem dX11_end_24 : decode cX11_end 24 = .ok (.getfield 12, 3) := by decide +kernel
theorem dX11_end_27 : decode cX11_end 27 = .ok (.iload_n 1, 1) := by decide +kernel
theorem dX11_end_28 : decode cX11_end 28 = .ok (.putfield 95, 3) := by decide +kernel
theorem dX11_end_31 : decode cX11_end 31 = .ok (.iconst 1, 1) := by decide +kernel
theorem dX11_end_32 : decode cX11_end 32 = .ok (.ireturn, 1) := by decide +kernel
theorem dX11_feed_0 : decode cX11_feed 0 = .ok (.aload_n 0, 1) := by decide +kernel
theorem dX11_feed_1 : decode cX11_feed 1 = .ok (.getfield 12, 3) := by decide +kernel
theorem dX11_feed_4 : decode cX11_feed 4 = .ok (.invokevirtual 83, 3) := by decide +kernel
theorem dX11_feed_7 : decode cX11_feed 7 = .ok (.ifCond .ne 9, 3) := by decide +kernel
theorem dX11_feed_16 : decode cX11_feed 16 = .ok (.aload_n 0, 1) := by decide +kernel
theorem dX11_feed_17 : decode cX11_feed 17 = .ok (.getfield 12, 3) := by decide +kernel
theorem dX11_feed_20 : decode cX11_feed 20 = .ok (.iload_n 1, 1) := by decide +kernel
theorem dX11_feed_21 : decode cX11_feed 21 = .ok (.invokevirtual 91, 3) := by decide +kernel
theorem dX11_feed_24 : decode cX11_feed 24 = .ok (.aload_n 0, 1) := by decide +kernel
theorem dX11_feed_25 : decode cX11_feed 25 = .ok (.getfield 12, 3) := by decide +kernel
theorem dX11_feed_28 : decode cX11_feed 28 = .ok (.iload_n 2, 1) := by decide +kernel
theorem dX11_feed_29 : decode cX11_feed 29 = .ok (.invokevirtual 91, 3) := by decide +kernel
theorem dX11_feed_32 : decode cX11_feed 32 = .ok (.aload_n 0, 1) := by decide +kernel
theorem dX11_feed_33 : decode cX11_feed 33 = .ok (.getfield 12, 3) := by decide +kernel
theorem dX11_feed_36 : decode cX11_feed 36 = .ok (.iload_n 3, 1) := by decide +kernel
theorem dX11_feed_37 : decode cX11_feed 37 = .ok (.invokevirtual 91, 3) := by decide +kernel
theorem dX11_feed_40 : decode cX11_feed 40 = .ok (.aload_n 0, 1) := by decide +kernel
theorem dX11_feed_41 : decode cX11_feed 41 = .ok (.getfield 12, 3) := by decide +kernel
theorem dX11_feed_44 : decode cX11_feed 44 = .ok (.iload 4, 2) := by decide +kernel
theorem dX11_feed_46 : decode cX11_feed 46 = .ok (.invokevirtual 91, 3) := by decide +kernel
theorem dX11_feed_49 : decode cX11_feed 49 = .ok (.aload_n 0, 1) := by decide +kernel
theorem dX11_feed_50 : decode cX11_feed 50 = .ok (.getfield 12, 3) := by decide +kernel
theorem dX11_feed_53 : decode cX11_feed 53 = .ok (.iload 5, 2) := by decide +kernel
theorem dX11_feed_55 : decode cX11_feed 55 = .ok (.invokevirtual 91, 3) := by decide +kernel
theorem dX11_feed_58 : decode cX11_feed 58 = .ok (.aload_n 0, 1) := by decide +kernel
theorem dX11_feed_59 : decode cX11_feed 59 = .ok (.getfield 12, 3) := by decide +kernel
theorem dX11_feed_62 : decode cX11_feed 62 = .ok (.getfield 95, 3) := by decide +kernel
theorem dX11_feed_65 : decode cX11_feed 65 = .ok (.ireturn, 1) := by decide +kernel
theorem dX11_on_0 : decode cX11_on 0 = .ok (.aload_n 0, 1) := by decide +kernel
theorem dX11_on_1 : decode cX11_on 1 = .ok (.getfield 112, 3) := by decide +kernel
theorem dX11_on_4 : decode cX11_on 4 = .ok (.ifCond .eq 42, 3) := by decide +kernel
theorem dX11_on_46 : decode cX11_on 46 = .ok (.iconst 0, 1) := by decide +kernel
theorem dX11_on_47 : decode cX11_on 47 = .ok (.istore_n 1, 1) := by decide +kernel
theorem dX11_on_48 : decode cX11_on 48 = .ok (.aload_n 0, 1) := by decide +kernel
theorem dX11_on_49 : decode cX11_on 49 = .ok (.getfield 12, 3) := by decide +kernel
theorem dX11_on_52 : decode cX11_on 52 = .ok (.iconst 0, 1) := by decide +kernel
theorem dX11_on_53 : decode cX11_on 53 = .ok (.putfield 95, 3) := by decide +kernel
theorem dX11_on_56 : decode cX11_on 56 = .ok (.iload_n 1, 1) := by decide +kernel
theorem dX11_on_57 : decode cX11_on 57 = .ok (.ifCond .ne 11, 3) := by decide +kernel
theorem dX11_on_60 : decode cX11_on 60 = .ok (.aload_n 0, 1) := by decide +kernel
theorem dX11_on_61 : decode cX11_on 61 = .ok (.iconst 5, 1) := by decide +kernel
theorem dX11_on_62 : decode cX11_on 62 = .ok (.invokevirtual 87, 3) := by decide +kernel
theorem dX11_on_65 : decode cX11_on 65 = .ok (.pop, 1) := by decide +kernel
theorem dX11_on_66 : decode cX11_on 66 = .ok (.iconst 0, 1) := by decide +kernel
theorem dX11_on_67 : decode cX11_on 67 = .ok (.ireturn, 1) := by decide +kernel
theorem dX11_put_0 : decode cX11_put 0 = .ok (.aload_n 0, 1) := by decide +kernel
theorem dX11_put_1 : decode cX11_put 1 = .ok (.getfield 79, 3) := by decide +kernel
theorem dX11_put_4 : decode cX11_put 4 = .ok (.getfield 125, 3) := by decide +kernel
theorem dX11_put_7 : decode cX11_put 7 = .ok (.iload_n 1, 1) := by decide +kernel
theorem dX11_put_8 : decode cX11_put 8 = .ok (.invokevirtual 161, 3) := by decide +kernel
theorem dX11_put_11 : decode cX11_put 11 = .ok (.ifCond .eq 17, 3) := by decide +kernel
theorem dX11_put_28 : decode cX11_put 28 = .ok (.aload_n 0, 1) := by decide +kernel
theorem dX11_put_29 : decode cX11_put 29 = .ok (.iconst 2, 1) := by decide +kernel
theorem dX11_put_30 : decode cX11_put 30 = .ok (.invokevirtual 87, 3) := by decide +kernel
theorem dX11_put_33 : decode cX11_put 33 = .ok (.ireturn, 1) := by decide +kernel
theorem dX11_refuse_0 : decode cX11_refuse 0 = .ok (.aload_n 0, 1) := by decide +kernel
theorem dX11_refuse_1 : decode cX11_refuse 1 = .ok (.getfield 60, 3) := by decide +kernel
theorem dX11_refuse_4 : decode cX11_refuse 4 = .ok (.iload_n 1, 1) := by decide +kernel
theorem dX11_refuse_5 : decode cX11_refuse 5 = .ok (.dup2, 1) := by decide +kernel
theorem dX11_refuse_6 : decode cX11_refuse 6 = .ok (.iaload, 1) := by decide +kernel
theorem dX11_refuse_7 : decode cX11_refuse 7 = .ok (.iconst 1, 1) := by decide +kernel
theorem dX11_refuse_8 : decode cX11_refuse 8 = .ok (.iadd, 1) := by decide +kernel
theorem dX11_refuse_9 : decode cX11_refuse 9 = .ok (.iastore, 1) := by decide +kernel
theorem dX11_refuse_10 : decode cX11_refuse 10 = .ok (.iconst (-1), 1) := by decide +kernel
theorem dX11_refuse_11 : decode cX11_refuse 11 = .ok (.ireturn, 1) := by decide +kernel
theorem dX11_remove_0 : decode cX11_remove 0 = .ok (.aload_n 0, 1) := by decide +kernel
theorem dX11_remove_1 : decode cX11_remove 1 = .ok (.getfield 79, 3) := by decide +kernel
theorem dX11_remove_4 : decode cX11_remove 4 = .ok (.getfield 125, 3) := by decide +kernel
theorem dX11_remove_7 : decode cX11_remove 7 = .ok (.iload_n 1, 1) := by decide +kernel
theorem dX11_remove_8 : decode cX11_remove 8 = .ok (.invokevirtual 161, 3) := by decide +kernel
theorem dX11_remove_11 : decode cX11_remove 11 = .ok (.ifCond .ne 9, 3) := by decide +kernel
theorem dX11_remove_14 : decode cX11_remove 14 = .ok (.aload_n 0, 1) := by decide +kernel
theorem dX11_remove_15 : decode cX11_remove 15 = .ok (.iconst 2, 1) := by decide +kernel
theorem dX11_remove_16 : decode cX11_remove 16 = .ok (.invokevirtual 87, 3) := by decide +kernel
theorem dX11_remove_19 : decode cX11_remove 19 = .ok (.ireturn, 1) := by decide +kernel
theorem dX11_see_0 : decode cX11_see 0 = .ok (.aload_n 0, 1) := by decide +kernel
theorem dX11_see_1 : decode cX11_see 1 = .ok (.getfield 35, 3) := by decide +kernel
theorem dX11_see_4 : decode cX11_see 4 = .ok (.aload_n 0, 1) := by decide +kernel
theorem dX11_see_5 : decode cX11_see 5 = .ok (.getfield 12, 3) := by decide +kernel
theorem dX11_see_8 : decode cX11_see 8 = .ok (.invokevirtual 258, 3) := by decide +kernel
theorem dX11_see_11 : decode cX11_see 11 = .ok (.istore_n 1, 1) := by decide +kernel
theorem dX11_see_12 : decode cX11_see 12 = .ok (.aload_n 0, 1) := by decide +kernel
theorem dX11_see_13 : decode cX11_see 13 = .ok (.getfield 12, 3) := by decide +kernel
theorem dX11_see_16 : decode cX11_see 16 = .ok (.iconst 0, 1) := by decide +kernel
theorem dX11_see_17 : decode cX11_see 17 = .ok (.putfield 95, 3) := by decide +kernel
theorem dX11_see_20 : decode cX11_see 20 = .ok (.iload_n 1, 1) := by decide +kernel
theorem dX11_see_21 : decode cX11_see 21 = .ok (.ifCond .eq 13, 3) := by decide +kernel
theorem dX11_see_34 : decode cX11_see 34 = .ok (.aload_n 0, 1) := by decide +kernel
theorem dX11_see_35 : decode cX11_see 35 = .ok (.iconst 1, 1) := by decide +kernel
theorem dX11_see_36 : decode cX11_see 36 = .ok (.invokevirtual 87, 3) := by decide +kernel
theorem dX11_see_39 : decode cX11_see 39 = .ok (.ireturn, 1) := by decide +kernel
theorem dX11_seed_0 : decode cX11_seed 0 = .ok (.iload_n 1, 1) := by decide +kernel
theorem dX11_seed_1 : decode cX11_seed 1 = .ok (.ifCond .ge 11, 3) := by decide +kernel
theorem dX11_seed_4 : decode cX11_seed 4 = .ok (.aload_n 0, 1) := by decide +kernel
theorem dX11_seed_5 : decode cX11_seed 5 = .ok (.iconst 5, 1) := by decide +kernel
theorem dX11_seed_6 : decode cX11_seed 6 = .ok (.invokevirtual 87, 3) := by decide +kernel
theorem dX11_seed_9 : decode cX11_seed 9 = .ok (.pop, 1) := by decide +kernel
theorem dX11_seed_10 : decode cX11_seed 10 = .ok (.iconst 0, 1) := by decide +kernel
theorem dX11_seed_11 : decode cX11_seed 11 = .ok (.ireturn, 1) := by decide +kernel
theorem dX11_seed_12 : decode cX11_seed 12 = .ok (.aload_n 0, 1) := by decide +kernel
theorem dX11_seed_13 : decode cX11_seed 13 = .ok (.getfield 79, 3) := by decide +kernel
theorem dX11_seed_16 : decode cX11_seed 16 = .ok (.iload_n 1, 1) := by decide +kernel
theorem dX11_seed_17 : decode cX11_seed 17 = .ok (.putfield 316, 3) := by decide +kernel
theorem dX11_seed_20 : decode cX11_seed 20 = .ok (.iconst 1, 1) := by decide +kernel
theorem dX11_seed_21 : decode cX11_seed 21 = .ok (.ireturn, 1) := by decide +kernel
theorem dX11_undo_0 : decode cX11_undo 0 = .ok (.aload_n 0, 1) := by decide +kernel
theorem dX11_undo_1 : decode cX11_undo 1 = .ok (.getfield 28, 3) := by decide +kernel
theorem dX11_undo_4 : decode cX11_undo 4 = .ok (.invokevirtual 308, 3) := by decide +kernel
theorem dX11_undo_7 : decode cX11_undo 7 = .ok (.astore_n 1, 1) := by decide +kernel
theorem dX11_undo_8 : decode cX11_undo 8 = .ok (.aload_n 1, 1) := by decide +kernel
theorem dX11_undo_9 : decode cX11_undo 9 = .ok (.ifnonnull 11, 3) := by decide +kernel
theorem dX11_undo_12 : decode cX11_undo 12 = .ok (.aload_n 0, 1) := by decide +kernel
theorem dX11_undo_13 : decode cX11_undo 13 = .ok (.iconst 4, 1) := by decide +kernel
theorem dX11_undo_14 : decode cX11_undo 14 = .ok (.invokevirtual 87, 3) := by decide +kernel
theorem dX11_undo_17 : decode cX11_undo 17 = .ok (.pop, 1) := by decide +kernel
theorem dX11_undo_18 : decode cX11_undo 18 = .ok (.iconst 0, 1) := by decide +kernel
theorem dX11_undo_19 : decode cX11_undo 19 = .ok (.ireturn, 1) := by decide +kernel
theorem dX9_append_0 : decode cX9_append 0 = .ok (.bipush 24, 2) := by decide +kernel
theorem dX9_append_2 : decode cX9_append 2 = .ok (.istore_n 2, 1) := by decide +kernel
theorem dX9_append_3 : decode cX9_append 3 = .ok (.iload_n 2, 1) := by decide +kernel
theorem dX9_append_4 : decode cX9_append 4 = .ok (.ifCond .lt 45, 3) := by decide +kernel
theorem dX9_append_7 : decode cX9_append 7 = .ok (.aload_n 0, 1) := by decide +kernel
theorem dX9_append_8 : decode cX9_append 8 = .ok (.getfield 15, 3) := by decide +kernel
theorem dX9_append_11 : decode cX9_append 11 = .ok (.sipush 1600, 3) := by decide +kernel
theorem dX9_append_14 : decode cX9_append 14 = .ok (.if_icmp .ge 35, 3) := by decide +kernel
theorem dX9_append_17 : decode cX9_append 17 = .ok (.aload_n 0, 1) := by decide +kernel
theorem dX9_append_18 : decode cX9_append 18 = .ok (.getfield 9, 3) := by decide +kernel
theorem dX9_append_21 : decode cX9_append 21 = .ok (.aload_n 0, 1) := by decide +kernel
theorem dX9_append_22 : decode cX9_append 22 = .ok (.getfield 15, 3) := by decide +kernel
theorem dX9_append_25 : decode cX9_append 25 = .ok (.iload_n 1, 1) := by decide +kernel
theorem dX9_append_26 : decode cX9_append 26 = .ok (.iload_n 2, 1) := by decide +kernel
theorem dX9_append_27 : decode cX9_append 27 = .ok (.iushr, 1) := by decide +kernel
theorem dX9_append_28 : decode cX9_append 28 = .ok (.sipush 255, 3) := by decide +kernel
theorem dX9_append_31 : decode cX9_append 31 = .ok (.iand, 1) := by decide +kernel
theorem dX9_append_32 : decode cX9_append 32 = .ok (.iastore, 1) := by decide +kernel
theorem dX9_append_33 : decode cX9_append 33 = .ok (.aload_n 0, 1) := by decide +kernel
theorem dX9_append_34 : decode cX9_append 34 = .ok (.dup, 1) := by decide +kernel
theorem dX9_append_35 : decode cX9_append 35 = .ok (.getfield 15, 3) := by decide +kernel
theorem dX9_append_38 : decode cX9_append 38 = .ok (.iconst 1, 1) := by decide +kernel
theorem dX9_append_39 : decode cX9_append 39 = .ok (.iadd, 1) := by decide +kernel
theorem dX9_append_40 : decode cX9_append 40 = .ok (.putfield 15, 3) := by decide +kernel
theorem dX9_append_43 : decode cX9_append 43 = .ok (.iinc 2 (-8), 3) := by decide +kernel
theorem dX9_append_46 : decode cX9_append 46 = .ok (.goto (-43), 3) := by decide +kernel
theorem dX9_append_49 : decode cX9_append 49 = .ok (.return_, 1) := by decide +kernel
set_option maxHeartbeats 4000000 in
set_option maxRecDepth 100000 in
theorem k_X11_refuse (l : Launch) (D : va_G) (sz : Nat) (a : Nat → Nat) (p0 : Int32) (h_1 : 0 ≤ p0.toInt ∧ p0.toInt < 6) : Met l yX11_refuse (wz yX11_refuse cX11_refuse 2 (some .int)) { frames := 0, cells := 0, slots := 0, locals := 0 } (va_Pc [.ref (a 0), .int p0] (zW D sz [((a 0), .inr (11, [.ref (a 1), .ref (a 2), .ref (a 3), .ref (a 4), .ref (a 5), .ref (a 6), .ref (a 7), .ref (a 8), .ref (a 9), .ref (a 10), .ref (a 11), .ref (a 12), .int 0])), ((a 9), .inl (D.1 13, 6, .inl (fun _ => 0)))])) (va_Qi (fun r (_ : Unit) => r = (-1)) (fun u t => zB D (va_A [((a 0), .inr (11, [.ref (a 1), .ref (a 2), .ref (a 3), .ref (a 4), .ref (a 5), .ref (a 6), .ref (a 7), .ref (a 8), .ref (a 9), .ref (a 10), .ref (a 11), .ref (a 12), .int 0])), ((a 9), .inl (D.1 13, 6, .inl (fun _ => 0)))] sz) ((fun (_ : Unit) => []) u) t) (va_A [((a 0), .inr (11, [.ref (a 1), .ref (a 2), .ref (a 3), .ref (a 4), .ref (a 5), .ref (a 6), .ref (a 7), .ref (a 8), .ref (a 9), .ref (a 10), .ref (a 11), .ref (a 12), .int 0])), ((a 9), .inl (D.1 13, 6, .inl (fun _ => 0)))] sz)) 0 0 (va_A [((a 0), .inr (11, [.ref (a 1), .ref (a 2), .ref (a 3), .ref (a 4), .ref (a 5), .ref (a 6), .ref (a 7), .ref (a 8), .ref (a 9), .ref (a 10), .ref (a 11), .ref (a 12), .int 0])), ((a 9), .inl (D.1 13, 6, .inl (fun _ => 0)))] sz) := by
  refine Met.ofW (cc := cX11_refuse) (maxL := 2) (ret := (some .int)) (by decide) rfl ?_
  intro p e s m args below meth c s₁ B hml hv
  obtain ⟨rfl, hsz, hP, hK, hD0⟩ := hv
  have hx := B.exec
  have hb := B.bytes
  have hr := B.returns
  have hts := atoms_spec (ws := wz yX11_refuse cX11_refuse 2 (some .int)) B.pre
  have ht : ∀ w ∈ lw_gd, w.before _ s = true := fun w h => hts w (List.mem_cons_of_mem _ h)
  have hown : s.vm.findClass RX11 = some m.cls := findClass_of_methodNamed B.named
  have hlocks := B.notSynchronized
  subst hsz
  have hD := hD0.self (sz := s.heap.size)
  generalize hAe : va_A [((a 0), .inr (11, [.ref (a 1), .ref (a 2), .ref (a 3), .ref (a 4), .ref (a 5), .ref (a 6), .ref (a 7), .ref (a 8), .ref (a 9), .ref (a 10), .ref (a 11), .ref (a 12), .int 0])), ((a 9), .inl (D.1 13, 6, .inl (fun _ => 0)))] s.heap.size = A at hD ⊢
  have hA : ∀ q : Nat, s.heap.size ≤ q → A q := fun q h => by rw [← hAe]; exact Or.inr h
  have hS : va_S A s.heap s.heap [] := va_S.rf
  have hl := lv_entry ([.ref (a 0), .int p0]) (n := 2) (Nat.le_of_ble_eq_true rfl)
  rw [lg_entry_eq]
  generalize (lg_sl ([.ref (a 0), .int p0]) ++ List.replicate (2 - (lg_sl ([.ref (a 0), .int p0])).length) Slot.unset).toArray = ls at hl ⊢
  have hl : lv_has ls 2 [(0, .ref (a 0)), (1, .int p0)] := hl
  refine lv_aload_n hx hb dX11_refuse_0 rfl (lv_at hl 0 rfl) ?_
  refine va_get (D := D) (ci := 11) (v := .ref (a 9)) (C := RX11) (T := TX11) (N := 13) hx hb ht inX11 hown hK hP 0 rfl rfl 8 (by decide) (ht (.fieldLink RX11 60 "CloneVolumes" "refused" "[I") fl_X11_60) (fun _ h9 => h9) rfl dX11_refuse_1 ?_
  refine lv_iload_n hx hb dX11_refuse_4 rfl (lv_at hl 1 rfl) ?_
  refine lv_dup2_11 hx hb dX11_refuse_5 rfl rfl ?_
  refine va_iald hx hb hK hP 1 0 rfl rfl (z_in (by omega) (by omega)) dX11_refuse_6 ?_
  refine z_topi (y := 0) (by decide) ?_
  refine lv_iconst (v := 1) hx hb dX11_refuse_7 (by decide) ?_
  refine lv_iadd hx hb dX11_refuse_8 ?_
  refine z_topi (y := 1) (by decide) ?_
  refine va_iast hx hb hK hP hD hS 1 0 rfl rfl (z_in (by omega) (by omega)) dX11_refuse_9 (fun H locs hP hD hS => ?_)
  generalize hf_1 : upd _ _ _ = f_1 at hP hD
  have hP : va_P D vwCl [((a 0), .inr (11, [.ref (a 1), .ref (a 2), .ref (a 3), .ref (a 4), .ref (a 5), .ref (a 6), .ref (a 7), .ref (a 8), .ref (a 9), .ref (a 10), .ref (a 11), .ref (a 12), .int 0])), ((a 9), .inl (D.1 13, 6, .inl f_1))] H := hP
  have hD : va_D A [((a 0), .inr (11, [.ref (a 1), .ref (a 2), .ref (a 3), .ref (a 4), .ref (a 5), .ref (a 6), .ref (a 7), .ref (a 8), .ref (a 9), .ref (a 10), .ref (a 11), .ref (a 12), .int 0])), ((a 9), .inl (D.1 13, 6, .inl f_1))] := hD
  refine lv_iconst (v := (-1)) hx hb dX11_refuse_10 (by decide) ?_
  have hP9 := hP.sub (ws' := []) [] rfl
  have hD9 := hD.sub (ws' := []) [] (by decide) rfl
  refine W.widen (k := 0) (n := 0) (Nat.le_of_ble_eq_true rfl) (Nat.le_of_ble_eq_true rfl) ?_
  exact W.iret (v := (-1)) hx hb hr (fun t ht hW => ⟨⟨(-1), (), rfl, rfl, by rw [ht]; exact hP9, va_K.moved hW.alike hK, hD9⟩, hS.F ht⟩) hS.2.2 dX11_refuse_11
set_option maxHeartbeats 4000000 in
set_option maxRecDepth 100000 in
theorem k_X9_append (l : Launch) (D : va_G) (sz : Nat) (a : Nat → Nat) (k : Nat) (h_1 : k ≤ 16) (f : Nat → Int32) (p0 : Int32) : Met l yX9_append (wz yX9_append cX9_append 3 none) { frames := 0, cells := 0, slots := 0, locals := 0 } (va_Pc [.ref (a 1), .int p0] (zW D sz [((a 1), .inr (9, [.ref (a 20), .int (nI k)])), ((a 20), .inl (D.1 13, 1600, .inl f))])) (va_Qv (fun (_ : (Nat → Int32)) => True) (fun u t => zB D (va_A [((a 1), .inr (9, [.ref (a 20), .int (nI k)])), ((a 20), .inl (D.1 13, 1600, .inl f))] sz) ((fun (u : (Nat → Int32)) => [((a 1), .inr (9, [.ref (a 20), .int (nI (k + 1 + 1 + 1 + 1))])), ((a 20), .inl (D.1 13, 1600, .inl u))]) u) t) (va_A [((a 1), .inr (9, [.ref (a 20), .int (nI k)])), ((a 20), .inl (D.1 13, 1600, .inl f))] sz)) 0 0 (va_A [((a 1), .inr (9, [.ref (a 20), .int (nI k)])), ((a 20), .inl (D.1 13, 1600, .inl f))] sz) := by
  refine Met.ofW (cc := cX9_append) (maxL := 3) (ret := none) (by decide) rfl ?_
  intro p e s m args below meth c s₁ B hml hv
  obtain ⟨rfl, hsz, hP, hK, hD0⟩ := hv
  have hx := B.exec
  have hb := B.bytes
  have hr := B.returns
  have hts := atoms_spec (ws := wz yX9_append cX9_append 3 none) B.pre
  have ht : ∀ w ∈ lw_gd, w.before _ s = true := fun w h => hts w (List.mem_cons_of_mem _ h)
  have hown : s.vm.findClass RX9 = some m.cls := findClass_of_methodNamed B.named
  have hlocks := B.notSynchronized
  subst hsz
  have hD := hD0.self (sz := s.heap.size)
  generalize hAe : va_A [((a 1), .inr (9, [.ref (a 20), .int (nI k)])), ((a 20), .inl (D.1 13, 1600, .inl f))] s.heap.size = A at hD ⊢
  have hA : ∀ q : Nat, s.heap.size ≤ q → A q := fun q h => by rw [← hAe]; exact Or.inr h
  have hS : va_S A s.heap s.heap [] := va_S.rf
  have hl := lv_entry ([.ref (a 1), .int p0]) (n := 3) (Nat.le_of_ble_eq_true rfl)
  rw [lg_entry_eq]
  generalize (lg_sl ([.ref (a 1), .int p0]) ++ List.replicate (3 - (lg_sl ([.ref (a 1), .int p0])).length) Slot.unset).toArray = ls at hl ⊢
  have hl : lv_has ls 3 [(0, .ref (a 1)), (1, .int p0)] := hl
  refine lv_bipush (v := 24) hx hb dX9_append_0 (by decide) ?_
  refine lv_istore_n (lv' := [(2, .int 24), (0, .ref (a 1)), (1, .int p0)]) hx hb dX9_append_2 rfl hl (by decide) rfl (fun ls hl => ?_)
  refine lv_iload_n hx hb dX9_append_3 rfl (lv_at hl 0 rfl) ?_
  refine lv_if_lt (tgt := 49) hx hb dX9_append_4 (by decide) (fun c_1 => (z_abs c_1 (by decide)).elim) (fun _ => ?_)
  refine lv_aload_n hx hb dX9_append_7 rfl (lv_at hl 1 rfl) ?_
  refine va_get (D := D) (ci := 9) (v := .int (nI k)) (C := RX9) (T := TX9) (N := 2) hx hb ht inX9 hown hK hP 0 rfl rfl 1 (by decide) (ht (.fieldLink RX9 15 "CloneVolumes$Tape" "length" "I") fl_X9_15) (fun _ h9 => h9) rfl dX9_append_8 ?_
  refine lv_sipush (v := 1600) hx hb dX9_append_11 (by decide) ?_
  refine lv_icmp_ge (tgt := 49) hx hb dX9_append_14 (by decide) (fun c_3 => ?_) (fun c_3 => ?_)
  · exfalso
    have g_4 : 1600 ≤ ((k : Nat) : Int) := z_le (by decide) (nI_toInt (by omega)) c_3
    omega
  · have g_4 : ((k : Nat) : Int) < 1600 := z_nle (by decide) (nI_toInt (by omega)) c_3
    refine lv_aload_n hx hb dX9_append_17 rfl (lv_at hl 1 rfl) ?_
    refine va_get (D := D) (ci := 9) (v := .ref (a 20)) (C := RX9) (T := TX9) (N := 2) hx hb ht inX9 hown hK hP 0 rfl rfl 0 (by decide) (ht (.fieldLink RX9 9 "CloneVolumes$Tape" "bytes" "[I") fl_X9_9) (fun _ h9 => h9) rfl dX9_append_18 ?_
    refine lv_aload_n hx hb dX9_append_21 rfl (lv_at hl 1 rfl) ?_
    refine va_get (D := D) (ci := 9) (v := .int (nI k)) (C := RX9) (T := TX9) (N := 2) hx hb ht inX9 hown hK hP 0 rfl rfl 1 (by decide) (ht (.fieldLink RX9 15 "CloneVolumes$Tape" "length" "I") fl_X9_15) (fun _ h9 => h9) rfl dX9_append_22 ?_
    refine lv_iload_n hx hb dX9_append_25 rfl (lv_at hl 2 rfl) ?_
    refine lv_iload_n hx hb dX9_append_26 rfl (lv_at hl 0 rfl) ?_
    obtain ⟨x_5, ex_5⟩ : ∃ z : Int32, (p0.toUInt32 >>> ((24 : Int32).toUInt32 &&& Int32.toUInt32 31)).toInt32 = z := ⟨_, rfl⟩
    refine lv_iushr (v := x_5) hx hb dX9_append_27 ex_5 ?_
    refine lv_sipush (v := 255) hx hb dX9_append_28 (by decide) ?_
    refine lv_iand hx hb dX9_append_31 ?_
    refine lv_topi (fun x_6 ex_6 => ?_)
    refine va_iast hx hb hK hP hD hS 1 0 rfl rfl (vp_in_nI (by omega) (by omega)) dX9_append_32 (fun H locs hP hD hS => ?_)
    generalize hf_7 : upd _ _ _ = f_7 at hP hD
    have hP : va_P D vwCl [((a 1), .inr (9, [.ref (a 20), .int (nI k)])), ((a 20), .inl (D.1 13, 1600, .inl f_7))] H := hP
    have hD : va_D A [((a 1), .inr (9, [.ref (a 20), .int (nI k)])), ((a 20), .inl (D.1 13, 1600, .inl f_7))] := hD
    refine lv_aload_n hx hb dX9_append_33 rfl (lv_at hl 1 rfl) ?_
    refine lv_dup hx hb dX9_append_34 rfl ?_
    refine va_get (D := D) (ci := 9) (v := .int (nI k)) (C := RX9) (T := TX9) (N := 2) hx hb ht inX9 hown hK hP 0 rfl rfl 1 (by decide) (ht (.fieldLink RX9 15 "CloneVolumes$Tape" "length" "I") fl_X9_15) (fun _ h9 => h9) rfl dX9_append_35 ?_
    refine lv_iconst (v := 1) hx hb dX9_append_38 (by decide) ?_
    refine lv_iadd hx hb dX9_append_39 ?_
    refine z_topi (y := nI (k + 1)) (nI_add _ _) ?_
    refine va_put (D := D) (ci := 9) (v := .int (nI (k + 1))) (ty := .int) (C := RX9) (T := TX9) (N := 2) hx hb ht inX9 tyX9 tyX9_ok nmX9 hown hK hP hD hS 0 rfl rfl 1 (by decide) (ht (.fieldLink RX9 15 "CloneVolumes$Tape" "length" "I") fl_X9_15) (fun _ h9 => h9) rfl (by decide +kernel) rfl rfl (Nat.le_of_ble_eq_true rfl) dX9_append_40 (fun H locs hP hD hS => ?_)
    have hP : va_P D vwCl [((a 1), .inr (9, [.ref (a 20), .int (nI (k + 1))])), ((a 20), .inl (D.1 13, 1600, .inl f_7))] H := hP
    have hD : va_D A [((a 1), .inr (9, [.ref (a 20), .int (nI (k + 1))])), ((a 20), .inl (D.1 13, 1600, .inl f_7))] := hD
    refine lv_iinc (v := 16) (lv' := [(2, .int 16), (0, .ref (a 1)), (1, .int p0)]) hx hb dX9_append_43 hl (k := 0) rfl (by decide) (by decide) rfl (fun ls hl => ?_)
    refine lv_goto (tgt := 3) hx hb dX9_append_46 (by decide) ?_
    refine lv_iload_n hx hb dX9_append_3 rfl (lv_at hl 0 rfl) ?_
    refine lv_if_lt (tgt := 49) hx hb dX9_append_4 (by decide) (fun c_8 => (z_abs c_8 (by decide)).elim) (fun _ => ?_)
    refine lv_aload_n hx hb dX9_append_7 rfl (lv_at hl 1 rfl) ?_
    refine va_get (D := D) (ci := 9) (v := .int (nI (k + 1))) (C := RX9) (T := TX9) (N := 2) hx hb ht inX9 hown hK hP 0 rfl rfl 1 (by decide) (ht (.fieldLink RX9 15 "CloneVolumes$Tape" "length" "I") fl_X9_15) (fun _ h9 => h9) rfl dX9_append_8 ?_
    refine lv_sipush (v := 1600) hx hb dX9_append_11 (by decide) ?_
    refine lv_icmp_ge (tgt := 49) hx hb dX9_append_14 (by decide) (fun c_10 => ?_) (fun c_10 => ?_)
    · exfalso
      have g_11 : 1600 ≤ ((k + 1 : Nat) : Int) := z_le (by decide) (nI_toInt (by omega)) c_10
      omega
    · have g_11 : ((k + 1 : Nat) : Int) < 1600 := z_nle (by decide) (nI_toInt (by omega)) c_10
      refine lv_aload_n hx hb dX9_append_17 rfl (lv_at hl 1 rfl) ?_
      refine va_get (D := D) (ci := 9) (v := .ref (a 20)) (C := RX9) (T := TX9) (N := 2) hx hb ht inX9 hown hK hP 0 rfl rfl 0 (by decide) (ht (.fieldLink RX9 9 "CloneVolumes$Tape" "bytes" "[I") fl_X9_9) (fun _ h9 => h9) rfl dX9_append_18 ?_
      refine lv_aload_n hx hb dX9_append_21 rfl (lv_at hl 1 rfl) ?_
      refine va_get (D := D) (ci := 9) (v := .int (nI (k + 1))) (C := RX9) (T := TX9) (N := 2) hx hb ht inX9 hown hK hP 0 rfl rfl 1 (by decide) (ht (.fieldLink RX9 15 "CloneVolumes$Tape" "length" "I") fl_X9_15) (fun _ h9 => h9) rfl dX9_append_22 ?_
      refine lv_iload_n hx hb dX9_append_25 rfl (lv_at hl 2 rfl) ?_
      refine lv_iload_n hx hb dX9_append_26 rfl (lv_at hl 0 rfl) ?_
      obtain ⟨x_12, ex_12⟩ : ∃ z : Int32, (p0.toUInt32 >>> ((16 : Int32).toUInt32 &&& Int32.toUInt32 31)).toInt32 = z := ⟨_, rfl⟩
      refine lv_iushr (v := x_12) hx hb dX9_append_27 ex_12 ?_
      refine lv_sipush (v := 255) hx hb dX9_append_28 (by decide) ?_
      refine lv_iand hx hb dX9_append_31 ?_
      refine lv_topi (fun x_13 ex_13 => ?_)
      refine va_iast hx hb hK hP hD hS 1 0 rfl rfl (vp_in_nI (by omega) (by omega)) dX9_append_32 (fun H locs hP hD hS => ?_)
      generalize hf_14 : upd _ _ _ = f_14 at hP hD
      have hP : va_P D vwCl [((a 1), .inr (9, [.ref (a 20), .int (nI (k + 1))])), ((a 20), .inl (D.1 13, 1600, .inl f_14))] H := hP
      have hD : va_D A [((a 1), .inr (9, [.ref (a 20), .int (nI (k + 1))])), ((a 20), .inl (D.1 13, 1600, .inl f_14))] := hD
      refine lv_aload_n hx hb dX9_append_33 rfl (lv_at hl 1 rfl) ?_
      refine lv_dup hx hb dX9_append_34 rfl ?_
      refine va_get (D := D) (ci := 9) (v := .int (nI (k + 1))) (C := RX9) (T := TX9) (N := 2) hx hb ht inX9 hown hK hP 0 rfl rfl 1 (by decide) (ht (.fieldLink RX9 15 "CloneVolumes$Tape" "length" "I") fl_X9_15) (fun _ h9 => h9) rfl dX9_append_35 ?_
      refine lv_iconst (v := 1) hx hb dX9_append_38 (by decide) ?_
      refine lv_iadd hx hb dX9_append_39 ?_
      refine z_topi (y := nI (k + 1 + 1)) (nI_add _ _) ?_
      refine va_put (D := D) (ci := 9) (v := .int (nI (k + 1 + 1))) (ty := .int) (C := RX9) (T := TX9) (N := 2) hx hb ht inX9 tyX9 tyX9_ok nmX9 hown hK hP hD hS 0 rfl rfl 1 (by decide) (ht (.fieldLink RX9 15 "CloneVolumes$Tape" "length" "I") fl_X9_15) (fun _ h9 => h9) rfl (by decide +kernel) rfl rfl (Nat.le_of_ble_eq_true rfl) dX9_append_40 (fun H locs hP hD hS => ?_)
      have hP : va_P D vwCl [((a 1), .inr (9, [.ref (a 20), .int (nI (k + 1 + 1))])), ((a 20), .inl (D.1 13, 1600, .inl f_14))] H := hP
      have hD : va_D A [((a 1), .inr (9, [.ref (a 20), .int (nI (k + 1 + 1))])), ((a 20), .inl (D.1 13, 1600, .inl f_14))] := hD
      refine lv_iinc (v := 8) (lv' := [(2, .int 8), (0, .ref (a 1)), (1, .int p0)]) hx hb dX9_append_43 hl (k := 0) rfl (by decide) (by decide) rfl (fun ls hl => ?_)
      refine lv_goto (tgt := 3) hx hb dX9_append_46 (by decide) ?_
      refine lv_iload_n hx hb dX9_append_3 rfl (lv_at hl 0 rfl) ?_
      refine lv_if_lt (tgt := 49) hx hb dX9_append_4 (by decide) (fun c_15 => (z_abs c_15 (by decide)).elim) (fun _ => ?_)
      refine lv_aload_n hx hb dX9_append_7 rfl (lv_at hl 1 rfl) ?_
      refine va_get (D := D) (ci := 9) (v := .int (nI (k + 1 + 1))) (C := RX9) (T := TX9) (N := 2) hx hb ht inX9 hown hK hP 0 rfl rfl 1 (by decide) (ht (.fieldLink RX9 15 "CloneVolumes$Tape" "length" "I") fl_X9_15) (fun _ h9 => h9) rfl dX9_append_8 ?_
      refine lv_sipush (v := 1600) hx hb dX9_append_11 (by decide) ?_
      refine lv_icmp_ge (tgt := 49) hx hb dX9_append_14 (by decide) (fun c_17 => ?_) (fun c_17 => ?_)
      · exfalso
        have g_18 : 1600 ≤ ((k + 1 + 1 : Nat) : Int) := z_le (by decide) (nI_toInt (by omega)) c_17
        omega
      · have g_18 : ((k + 1 + 1 : Nat) : Int) < 1600 := z_nle (by decide) (nI_toInt (by omega)) c_17
        refine lv_aload_n hx hb dX9_append_17 rfl (lv_at hl 1 rfl) ?_
        refine va_get (D := D) (ci := 9) (v := .ref (a 20)) (C := RX9) (T := TX9) (N := 2) hx hb ht inX9 hown hK hP 0 rfl rfl 0 (by decide) (ht (.fieldLink RX9 9 "CloneVolumes$Tape" "bytes" "[I") fl_X9_9) (fun _ h9 => h9) rfl dX9_append_18 ?_
        refine lv_aload_n hx hb dX9_append_21 rfl (lv_at hl 1 rfl) ?_
        refine va_get (D := D) (ci := 9) (v := .int (nI (k + 1 + 1))) (C := RX9) (T := TX9) (N := 2) hx hb ht inX9 hown hK hP 0 rfl rfl 1 (by decide) (ht (.fieldLink RX9 15 "CloneVolumes$Tape" "length" "I") fl_X9_15) (fun _ h9 => h9) rfl dX9_append_22 ?_
        refine lv_iload_n hx hb dX9_append_25 rfl (lv_at hl 2 rfl) ?_
        refine lv_iload_n hx hb dX9_append_26 rfl (lv_at hl 0 rfl) ?_
        obtain ⟨x_19, ex_19⟩ : ∃ z : Int32, (p0.toUInt32 >>> ((8 : Int32).toUInt32 &&& Int32.toUInt32 31)).toInt32 = z := ⟨_, rfl⟩
        refine lv_iushr (v := x_19) hx hb dX9_append_27 ex_19 ?_
        refine lv_sipush (v := 255) hx hb dX9_append_28 (by decide) ?_
        refine lv_iand hx hb dX9_append_31 ?_
        refine lv_topi (fun x_20 ex_20 => ?_)
        refine va_iast hx hb hK hP hD hS 1 0 rfl rfl (vp_in_nI (by omega) (by omega)) dX9_append_32 (fun H locs hP hD hS => ?_)
        generalize hf_21 : upd _ _ _ = f_21 at hP hD
        have hP : va_P D vwCl [((a 1), .inr (9, [.ref (a 20), .int (nI (k + 1 + 1))])), ((a 20), .inl (D.1 13, 1600, .inl f_21))] H := hP
        have hD : va_D A [((a 1), .inr (9, [.ref (a 20), .int (nI (k + 1 + 1))])), ((a 20), .inl (D.1 13, 1600, .inl f_21))] := hD
        refine lv_aload_n hx hb dX9_append_33 rfl (lv_at hl 1 rfl) ?_
        refine lv_dup hx hb dX9_append_34 rfl ?_
        refine va_get (D := D) (ci := 9) (v := .int (nI (k + 1 + 1))) (C := RX9) (T := TX9) (N := 2) hx hb ht inX9 hown hK hP 0 rfl rfl 1 (by decide) (ht (.fieldLink RX9 15 "CloneVolumes$Tape" "length" "I") fl_X9_15) (fun _ h9 => h9) rfl dX9_append_35 ?_
        refine lv_iconst (v := 1) hx hb dX9_append_38 (by decide) ?_
        refine lv_iadd hx hb dX9_append_39 ?_
        refine z_topi (y := nI (k + 1 + 1 + 1)) (nI_add _ _) ?_
        refine va_put (D := D) (ci := 9) (v := .int (nI (k + 1 + 1 + 1))) (ty := .int) (C := RX9) (T := TX9) (N := 2) hx hb ht inX9 tyX9 tyX9_ok nmX9 hown hK hP hD hS 0 rfl rfl 1 (by decide) (ht (.fieldLink RX9 15 "CloneVolumes$Tape" "length" "I") fl_X9_15) (fun _ h9 => h9) rfl (by decide +kernel) rfl rfl (Nat.le_of_ble_eq_true rfl) dX9_append_40 (fun H locs hP hD hS => ?_)
        have hP : va_P D vwCl [((a 1), .inr (9, [.ref (a 20), .int (nI (k + 1 + 1 + 1))])), ((a 20), .inl (D.1 13, 1600, .inl f_21))] H := hP
        have hD : va_D A [((a 1), .inr (9, [.ref (a 20), .int (nI (k + 1 + 1 + 1))])), ((a 20), .inl (D.1 13, 1600, .inl f_21))] := hD
        refine lv_iinc (v := 0) (lv' := [(2, .int 0), (0, .ref (a 1)), (1, .int p0)]) hx hb dX9_append_43 hl (k := 0) rfl (by decide) (by decide) rfl (fun ls hl => ?_)
        refine lv_goto (tgt := 3) hx hb dX9_append_46 (by decide) ?_
        refine lv_iload_n hx hb dX9_append_3 rfl (lv_at hl 0 rfl) ?_
        refine lv_if_lt (tgt := 49) hx hb dX9_append_4 (by decide) (fun c_22 => (z_abs c_22 (by decide)).elim) (fun _ => ?_)
        refine lv_aload_n hx hb dX9_append_7 rfl (lv_at hl 1 rfl) ?_
        refine va_get (D := D) (ci := 9) (v := .int (nI (k + 1 + 1 + 1))) (C := RX9) (T := TX9) (N := 2) hx hb ht inX9 hown hK hP 0 rfl rfl 1 (by decide) (ht (.fieldLink RX9 15 "CloneVolumes$Tape" "length" "I") fl_X9_15) (fun _ h9 => h9) rfl dX9_append_8 ?_
        refine lv_sipush (v := 1600) hx hb dX9_append_11 (by decide) ?_
        refine lv_icmp_ge (tgt := 49) hx hb dX9_append_14 (by decide) (fun c_24 => ?_) (fun c_24 => ?_)
        · exfalso
          have g_25 : 1600 ≤ ((k + 1 + 1 + 1 : Nat) : Int) := z_le (by decide) (nI_toInt (by omega)) c_24
          omega
        · have g_25 : ((k + 1 + 1 + 1 : Nat) : Int) < 1600 := z_nle (by decide) (nI_toInt (by omega)) c_24
          refine lv_aload_n hx hb dX9_append_17 rfl (lv_at hl 1 rfl) ?_
          refine va_get (D := D) (ci := 9) (v := .ref (a 20)) (C := RX9) (T := TX9) (N := 2) hx hb ht inX9 hown hK hP 0 rfl rfl 0 (by decide) (ht (.fieldLink RX9 9 "CloneVolumes$Tape" "bytes" "[I") fl_X9_9) (fun _ h9 => h9) rfl dX9_append_18 ?_
          refine lv_aload_n hx hb dX9_append_21 rfl (lv_at hl 1 rfl) ?_
          refine va_get (D := D) (ci := 9) (v := .int (nI (k + 1 + 1 + 1))) (C := RX9) (T := TX9) (N := 2) hx hb ht inX9 hown hK hP 0 rfl rfl 1 (by decide) (ht (.fieldLink RX9 15 "CloneVolumes$Tape" "length" "I") fl_X9_15) (fun _ h9 => h9) rfl dX9_append_22 ?_
          refine lv_iload_n hx hb dX9_append_25 rfl (lv_at hl 2 rfl) ?_
          refine lv_iload_n hx hb dX9_append_26 rfl (lv_at hl 0 rfl) ?_
          obtain ⟨x_26, ex_26⟩ : ∃ z : Int32, (p0.toUInt32 >>> ((0 : Int32).toUInt32 &&& Int32.toUInt32 31)).toInt32 = z := ⟨_, rfl⟩
          refine lv_iushr (v := x_26) hx hb dX9_append_27 ex_26 ?_
          refine lv_sipush (v := 255) hx hb dX9_append_28 (by decide) ?_
          refine lv_iand hx hb dX9_append_31 ?_
          refine lv_topi (fun x_27 ex_27 => ?_)
          refine va_iast hx hb hK hP hD hS 1 0 rfl rfl (vp_in_nI (by omega) (by omega)) dX9_append_32 (fun H locs hP hD hS => ?_)
          generalize hf_28 : upd _ _ _ = f_28 at hP hD
          have hP : va_P D vwCl [((a 1), .inr (9, [.ref (a 20), .int (nI (k + 1 + 1 + 1))])), ((a 20), .inl (D.1 13, 1600, .inl f_28))] H := hP
          have hD : va_D A [((a 1), .inr (9, [.ref (a 20), .int (nI (k + 1 + 1 + 1))])), ((a 20), .inl (D.1 13, 1600, .inl f_28))] := hD
          refine lv_aload_n hx hb dX9_append_33 rfl (lv_at hl 1 rfl) ?_
          refine lv_dup hx hb dX9_append_34 rfl ?_
          refine va_get (D := D) (ci := 9) (v := .int (nI (k + 1 + 1 + 1))) (C := RX9) (T := TX9) (N := 2) hx hb ht inX9 hown hK hP 0 rfl rfl 1 (by decide) (ht (.fieldLink RX9 15 "CloneVolumes$Tape" "length" "I") fl_X9_15) (fun _ h9 => h9) rfl dX9_append_35 ?_
          refine lv_iconst (v := 1) hx hb dX9_append_38 (by decide) ?_
          refine lv_iadd hx hb dX9_append_39 ?_
          refine z_topi (y := nI (k + 1 + 1 + 1 + 1)) (nI_add _ _) ?_
          refine va_put (D := D) (ci := 9) (v := .int (nI (k + 1 + 1 + 1 + 1))) (ty := .int) (C := RX9) (T := TX9) (N := 2) hx hb ht inX9 tyX9 tyX9_ok nmX9 hown hK hP hD hS 0 rfl rfl 1 (by decide) (ht (.fieldLink RX9 15 "CloneVolumes$Tape" "length" "I") fl_X9_15) (fun _ h9 => h9) rfl (by decide +kernel) rfl rfl (Nat.le_of_ble_eq_true rfl) dX9_append_40 (fun H locs hP hD hS => ?_)
          have hP : va_P D vwCl [((a 1), .inr (9, [.ref (a 20), .int (nI (k + 1 + 1 + 1 + 1))])), ((a 20), .inl (D.1 13, 1600, .inl f_28))] H := hP
          have hD : va_D A [((a 1), .inr (9, [.ref (a 20), .int (nI (k + 1 + 1 + 1 + 1))])), ((a 20), .inl (D.1 13, 1600, .inl f_28))] := hD
          refine lv_iinc (v := (-8)) (lv' := [(2, .int (-8)), (0, .ref (a 1)), (1, .int p0)]) hx hb dX9_append_43 hl (k := 0) rfl (by decide) (by decide) rfl (fun ls hl => ?_)
          refine lv_goto (tgt := 3) hx hb dX9_append_46 (by decide) ?_
          refine lv_iload_n hx hb dX9_append_3 rfl (lv_at hl 0 rfl) ?_
          refine lv_if_lt (tgt := 49) hx hb dX9_append_4 (by decide) (fun _ => ?_) (fun c_29 => (z_abs c_29 (by decide)).elim)
          have hP9 := hP.sub (ws' := [((a 1), .inr (9, [.ref (a 20), .int (nI (k + 1 + 1 + 1 + 1))])), ((a 20), .inl (D.1 13, 1600, .inl f_28))]) [0, 1] rfl
          have hD9 := hD.sub (ws' := [((a 1), .inr (9, [.ref (a 20), .int (nI (k + 1 + 1 + 1 + 1))])), ((a 20), .inl (D.1 13, 1600, .inl f_28))]) [0, 1] (by decide) rfl
          refine W.widen (k := 0) (n := 0) (Nat.le_of_ble_eq_true rfl) (Nat.le_of_ble_eq_true rfl) ?_
          exact W.vret hx hb hr (fun t ht hW => ⟨⟨f_28, rfl, trivial, by rw [ht]; exact hP9, va_K.moved hW.alike hK, hD9⟩, hS.F ht⟩) hS.2.2 dX9_append_49
set_option maxHeartbeats 4000000 in
set_option maxRecDepth 100000 in
theorem k_X11_feed (l : Launch) (D : va_G) (sz : Nat) (a : Nat → Nat) (p0 : Int32) (p1 : Int32) (p2 : Int32) (p3 : Int32) (p4 : Int32) : Met l yX11_feed (wz yX11_feed cX11_feed 6 (some .int)) { frames := 1, cells := 0, slots := 0, locals := 60 } (va_Pc [.ref (a 0), .int p0, .int p1, .int p2, .int p3, .int p4] (zW D sz [((a 0), .inr (11, [.ref (a 1), .ref (a 2), .ref (a 3), .ref (a 4), .ref (a 5), .ref (a 6), .ref (a 7), .ref (a 8), .ref (a 9), .ref (a 10), .ref (a 11), .ref (a 12), .int 0])), ((a 1), .inr (9, [.ref (a 20), .int 0])), ((a 20), .inl (D.1 13, 1600, .inl (fun _ => 0)))])) (va_Qi (fun r (_ : Unit) => r = 20) (fun u t => zB D (va_A [((a 0), .inr (11, [.ref (a 1), .ref (a 2), .ref (a 3), .ref (a 4), .ref (a 5), .ref (a 6), .ref (a 7), .ref (a 8), .ref (a 9), .ref (a 10), .ref (a 11), .ref (a 12), .int 0])), ((a 1), .inr (9, [.ref (a 20), .int 0])), ((a 20), .inl (D.1 13, 1600, .inl (fun _ => 0)))] sz) ((fun (_ : Unit) => []) u) t) (va_A [((a 0), .inr (11, [.ref (a 1), .ref (a 2), .ref (a 3), .ref (a 4), .ref (a 5), .ref (a 6), .ref (a 7), .ref (a 8), .ref (a 9), .ref (a 10), .ref (a 11), .ref (a 12), .int 0])), ((a 1), .inr (9, [.ref (a 20), .int 0])), ((a 20), .inl (D.1 13, 1600, .inl (fun _ => 0)))] sz)) 0 0 (va_A [((a 0), .inr (11, [.ref (a 1), .ref (a 2), .ref (a 3), .ref (a 4), .ref (a 5), .ref (a 6), .ref (a 7), .ref (a 8), .ref (a 9), .ref (a 10), .ref (a 11), .ref (a 12), .int 0])), ((a 1), .inr (9, [.ref (a 20), .int 0])), ((a 20), .inl (D.1 13, 1600, .inl (fun _ => 0)))] sz) := by
  refine Met.ofW (cc := cX11_feed) (maxL := 6) (ret := (some .int)) (by decide) rfl ?_
  intro p e s m args below meth c s₁ B hml hv
  obtain ⟨rfl, hsz, hP, hK, hD0⟩ := hv
  have hx := B.exec
  have hb := B.bytes
  have hr := B.returns
  have hts := atoms_spec (ws := wz yX11_feed cX11_feed 6 (some .int)) B.pre
  have ht : ∀ w ∈ lw_gd, w.before _ s = true := fun w h => hts w (List.mem_cons_of_mem _ h)
  have hown : s.vm.findClass RX11 = some m.cls := findClass_of_methodNamed B.named
  have hlocks := B.notSynchronized
  subst hsz
  have hD := hD0.self (sz := s.heap.size)
  generalize hAe : va_A [((a 0), .inr (11, [.ref (a 1), .ref (a 2), .ref (a 3), .ref (a 4), .ref (a 5), .ref (a 6), .ref (a 7), .ref (a 8), .ref (a 9), .ref (a 10), .ref (a 11), .ref (a 12), .int 0])), ((a 1), .inr (9, [.ref (a 20), .int 0])), ((a 20), .inl (D.1 13, 1600, .inl (fun _ => 0)))] s.heap.size = A at hD ⊢
  have hA : ∀ q : Nat, s.heap.size ≤ q → A q := fun q h => by rw [← hAe]; exact Or.inr h
  have hS : va_S A s.heap s.heap [] := va_S.rf
  have hl := lv_entry ([.ref (a 0), .int p0, .int p1, .int p2, .int p3, .int p4]) (n := 6) (Nat.le_of_ble_eq_true rfl)
  rw [lg_entry_eq]
  generalize (lg_sl ([.ref (a 0), .int p0, .int p1, .int p2, .int p3, .int p4]) ++ List.replicate (6 - (lg_sl ([.ref (a 0), .int p0, .int p1, .int p2, .int p3, .int p4])).length) Slot.unset).toArray = ls at hl ⊢
  have hl : lv_has ls 6 [(0, .ref (a 0)), (1, .int p0), (2, .int p1), (3, .int p2), (4, .int p3), (5, .int p4)] := hl
  refine lv_aload_n hx hb dX11_feed_0 rfl (lv_at hl 0 rfl) ?_
  refine va_get (D := D) (ci := 11) (v := .ref (a 1)) (C := RX11) (T := TX11) (N := 13) hx hb ht inX11 hown hK hP 0 rfl rfl 0 (by decide) (ht (.fieldLink RX11 12 "CloneVolumes" "tape" "LCloneVolumes$Tape;") fl_X11_12) (fun _ h9 => h9) rfl dX11_feed_1 ?_
  refine zcV (As := []) (rest := []) (C := RX9) (n := 0) ⟨hx, hb, hml, hown, ht⟩ (k_X9_hasRoom l D a) (zgV ml_X11_83 im_X9_hasRoom se_X9_hasRoom in_X9 co_X9_hasRoom) rfl rfl (by decide +kernel) ⟨Nat.le_of_ble_eq_true rfl, Nat.le_of_ble_eq_true rfl⟩ hK hP hS [1] rfl 0 rfl rfl rfl rfl hl.1 rfl (Nat.le_of_ble_eq_true rfl) dX11_feed_4 ⟨Nat.le_of_ble_eq_true rfl, Nat.le_of_ble_eq_true rfl⟩ (fun r_1 H locs hw hP hS => ?_)
  subst hw
  refine lv_if_ne (tgt := 16) hx hb dX11_feed_7 (by decide) (fun _ => ?_) (fun c_2 => (z_abs c_2 (by decide)).elim)
  refine lv_aload_n hx hb dX11_feed_16 rfl (lv_at hl 0 rfl) ?_
  refine va_get (D := D) (ci := 11) (v := .ref (a 1)) (C := RX11) (T := TX11) (N := 13) hx hb ht inX11 hown hK hP 0 rfl rfl 0 (by decide) (ht (.fieldLink RX11 12 "CloneVolumes" "tape" "LCloneVolumes$Tape;") fl_X11_12) (fun _ h9 => h9) rfl dX11_feed_17 ?_
  refine lv_iload_n hx hb dX11_feed_20 rfl (lv_at hl 1 rfl) ?_
  refine zwVv (As := [.int p0]) (rest := []) (C := RX9) (n := 1) (wr := [((a 0), .inr (11, [.ref (a 1), .ref (a 2), .ref (a 3), .ref (a 4), .ref (a 5), .ref (a 6), .ref (a 7), .ref (a 8), .ref (a 9), .ref (a 10), .ref (a 11), .ref (a 12), .int 0]))]) ⟨hx, hb, hml, hown, ht⟩ (k_X9_append l D _ a 0 (by first | decide | omega) (fun _ => 0) p0) (zgV ml_X11_91 im_X9_append se_X9_append in_X9 co_X9_append) rfl rfl (by decide +kernel) ⟨Nat.le_of_ble_eq_true rfl, Nat.le_of_ble_eq_true rfl⟩ hK hP hD hS hA [1, 2] [0] rfl rfl rfl rfl (by decide) 0 rfl rfl rfl rfl hl.1 rfl (Nat.le_of_ble_eq_true rfl) dX11_feed_21 ⟨Nat.le_of_ble_eq_true rfl, Nat.le_of_ble_eq_true rfl⟩ (fun u_4 H locs hw hP hD hS => ?_)
  have hP : va_P D vwCl [((a 0), .inr (11, [.ref (a 1), .ref (a 2), .ref (a 3), .ref (a 4), .ref (a 5), .ref (a 6), .ref (a 7), .ref (a 8), .ref (a 9), .ref (a 10), .ref (a 11), .ref (a 12), .int 0])), ((a 1), .inr (9, [.ref (a 20), .int 4])), ((a 20), .inl (D.1 13, 1600, .inl u_4))] H := hP
  have hD : va_D A [((a 0), .inr (11, [.ref (a 1), .ref (a 2), .ref (a 3), .ref (a 4), .ref (a 5), .ref (a 6), .ref (a 7), .ref (a 8), .ref (a 9), .ref (a 10), .ref (a 11), .ref (a 12), .int 0])), ((a 1), .inr (9, [.ref (a 20), .int 4])), ((a 20), .inl (D.1 13, 1600, .inl u_4))] := hD
  refine lv_aload_n hx hb dX11_feed_24 rfl (lv_at hl 0 rfl) ?_
  refine va_get (D := D) (ci := 11) (v := .ref (a 1)) (C := RX11) (T := TX11) (N := 13) hx hb ht inX11 hown hK hP 0 rfl rfl 0 (by decide) (ht (.fieldLink RX11 12 "CloneVolumes" "tape" "LCloneVolumes$Tape;") fl_X11_12) (fun _ h9 => h9) rfl dX11_feed_25 ?_
  refine lv_iload_n hx hb dX11_feed_28 rfl (lv_at hl 2 rfl) ?_
  refine zwVv (As := [.int p1]) (rest := []) (C := RX9) (n := 1) (wr := [((a 0), .inr (11, [.ref (a 1), .ref (a 2), .ref (a 3), .ref (a 4), .ref (a 5), .ref (a 6), .ref (a 7), .ref (a 8), .ref (a 9), .ref (a 10), .ref (a 11), .ref (a 12), .int 0]))]) ⟨hx, hb, hml, hown, ht⟩ (k_X9_append l D _ a 4 (by first | decide | omega) u_4 p1) (zgV ml_X11_91 im_X9_append se_X9_append in_X9 co_X9_append) rfl rfl (by decide +kernel) ⟨Nat.le_of_ble_eq_true rfl, Nat.le_of_ble_eq_true rfl⟩ hK hP hD hS hA [1, 2] [0] rfl rfl rfl rfl (by decide) 0 rfl rfl rfl rfl hl.1 rfl (Nat.le_of_ble_eq_true rfl) dX11_feed_29 ⟨Nat.le_of_ble_eq_true rfl, Nat.le_of_ble_eq_true rfl⟩ (fun u_6 H locs hw hP hD hS => ?_)
  have hP : va_P D vwCl [((a 0), .inr (11, [.ref (a 1), .ref (a 2), .ref (a 3), .ref (a 4), .ref (a 5), .ref (a 6), .ref (a 7), .ref (a 8), .ref (a 9), .ref (a 10), .ref (a 11), .ref (a 12), .int 0])), ((a 1), .inr (9, [.ref (a 20), .int 8])), ((a 20), .inl (D.1 13, 1600, .inl u_6))] H := hP
  have hD : va_D A [((a 0), .inr (11, [.ref (a 1), .ref (a 2), .ref (a 3), .ref (a 4), .ref (a 5), .ref (a 6), .ref (a 7), .ref (a 8), .ref (a 9), .ref (a 10), .ref (a 11), .ref (a 12), .int 0])), ((a 1), .inr (9, [.ref (a 20), .int 8])), ((a 20), .inl (D.1 13, 1600, .inl u_6))] := hD
  refine lv_aload_n hx hb dX11_feed_32 rfl (lv_at hl 0 rfl) ?_
  refine va_get (D := D) (ci := 11) (v := .ref (a 1)) (C := RX11) (T := TX11) (N := 13) hx hb ht inX11 hown hK hP 0 rfl rfl 0 (by decide) (ht (.fieldLink RX11 12 "CloneVolumes" "tape" "LCloneVolumes$Tape;") fl_X11_12) (fun _ h9 => h9) rfl dX11_feed_33 ?_
  refine lv_iload_n hx hb dX11_feed_36 rfl (lv_at hl 3 rfl) ?_
  refine zwVv (As := [.int p2]) (rest := []) (C := RX9) (n := 1) (wr := [((a 0), .inr (11, [.ref (a 1), .ref (a 2), .ref (a 3), .ref (a 4), .ref (a 5), .ref (a 6), .ref (a 7), .ref (a 8), .ref (a 9), .ref (a 10), .ref (a 11), .ref (a 12), .int 0]))]) ⟨hx, hb, hml, hown, ht⟩ (k_X9_append l D _ a 8 (by first | decide | omega) u_6 p2) (zgV ml_X11_91 im_X9_append se_X9_append in_X9 co_X9_append) rfl rfl (by decide +kernel) ⟨Nat.le_of_ble_eq_true rfl, Nat.le_of_ble_eq_true rfl⟩ hK hP hD hS hA [1, 2] [0] rfl rfl rfl rfl (by decide) 0 rfl rfl rfl rfl hl.1 rfl (Nat.le_of_ble_eq_true rfl) dX11_feed_37 ⟨Nat.le_of_ble_eq_true rfl, Nat.le_of_ble_eq_true rfl⟩ (fun u_8 H locs hw hP hD hS => ?_)
  have hP : va_P D vwCl [((a 0), .inr (11, [.ref (a 1), .ref (a 2), .ref (a 3), .ref (a 4), .ref (a 5), .ref (a 6), .ref (a 7), .ref (a 8), .ref (a 9), .ref (a 10), .ref (a 11), .ref (a 12), .int 0])), ((a 1), .inr (9, [.ref (a 20), .int 12])), ((a 20), .inl (D.1 13, 1600, .inl u_8))] H := hP
  have hD : va_D A [((a 0), .inr (11, [.ref (a 1), .ref (a 2), .ref (a 3), .ref (a 4), .ref (a 5), .ref (a 6), .ref (a 7), .ref (a 8), .ref (a 9), .ref (a 10), .ref (a 11), .ref (a 12), .int 0])), ((a 1), .inr (9, [.ref (a 20), .int 12])), ((a 20), .inl (D.1 13, 1600, .inl u_8))] := hD
  refine lv_aload_n hx hb dX11_feed_40 rfl (lv_at hl 0 rfl) ?_
  refine va_get (D := D) (ci := 11) (v := .ref (a 1)) (C := RX11) (T := TX11) (N := 13) hx hb ht inX11 hown hK hP 0 rfl rfl 0 (by decide) (ht (.fieldLink RX11 12 "CloneVolumes" "tape" "LCloneVolumes$Tape;") fl_X11_12) (fun _ h9 => h9) rfl dX11_feed_41 ?_
  refine lv_iload hx hb dX11_feed_44 (lv_at hl 4 rfl) ?_
  refine zwVv (As := [.int p3]) (rest := []) (C := RX9) (n := 1) (wr := [((a 0), .inr (11, [.ref (a 1), .ref (a 2), .ref (a 3), .ref (a 4), .ref (a 5), .ref (a 6), .ref (a 7), .ref (a 8), .ref (a 9), .ref (a 10), .ref (a 11), .ref (a 12), .int 0]))]) ⟨hx, hb, hml, hown, ht⟩ (k_X9_append l D _ a 12 (by first | decide | omega) u_8 p3) (zgV ml_X11_91 im_X9_append se_X9_append in_X9 co_X9_append) rfl rfl (by decide +kernel) ⟨Nat.le_of_ble_eq_true rfl, Nat.le_of_ble_eq_true rfl⟩ hK hP hD hS hA [1, 2] [0] rfl rfl rfl rfl (by decide) 0 rfl rfl rfl rfl hl.1 rfl (Nat.le_of_ble_eq_true rfl) dX11_feed_46 ⟨Nat.le_of_ble_eq_true rfl, Nat.le_of_ble_eq_true rfl⟩ (fun u_10 H locs hw hP hD hS => ?_)
  have hP : va_P D vwCl [((a 0), .inr (11, [.ref (a 1), .ref (a 2), .ref (a 3), .ref (a 4), .ref (a 5), .ref (a 6), .ref (a 7), .ref (a 8), .ref (a 9), .ref (a 10), .ref (a 11), .ref (a 12), .int 0])), ((a 1), .inr (9, [.ref (a 20), .int 16])), ((a 20), .inl (D.1 13, 1600, .inl u_10))] H := hP
  have hD : va_D A [((a 0), .inr (11, [.ref (a 1), .ref (a 2), .ref (a 3), .ref (a 4), .ref (a 5), .ref (a 6), .ref (a 7), .ref (a 8), .ref (a 9), .ref (a 10), .ref (a 11), .ref (a 12), .int 0])), ((a 1), .inr (9, [.ref (a 20), .int 16])), ((a 20), .inl (D.1 13, 1600, .inl u_10))] := hD
  refine lv_aload_n hx hb dX11_feed_49 rfl (lv_at hl 0 rfl) ?_
  refine va_get (D := D) (ci := 11) (v := .ref (a 1)) (C := RX11) (T := TX11) (N := 13) hx hb ht inX11 hown hK hP 0 rfl rfl 0 (by decide) (ht (.fieldLink RX11 12 "CloneVolumes" "tape" "LCloneVolumes$Tape;") fl_X11_12) (fun _ h9 => h9) rfl dX11_feed_50 ?_
  refine lv_iload hx hb dX11_feed_53 (lv_at hl 5 rfl) ?_
  refine zwVv (As := [.int p4]) (rest := []) (C := RX9) (n := 1) (wr := [((a 0), .inr (11, [.ref (a 1), .ref (a 2), .ref (a 3), .ref (a 4), .ref (a 5), .ref (a 6), .ref (a 7), .ref (a 8), .ref (a 9), .ref (a 10), .ref (a 11), .ref (a 12), .int 0]))]) ⟨hx, hb, hml, hown, ht⟩ (k_X9_append l D _ a 16 (by first | decide | omega) u_10 p4) (zgV ml_X11_91 im_X9_append se_X9_append in_X9 co_X9_append) rfl rfl (by decide +kernel) ⟨Nat.le_of_ble_eq_true rfl, Nat.le_of_ble_eq_true rfl⟩ hK hP hD hS hA [1, 2] [0] rfl rfl rfl rfl (by decide) 0 rfl rfl rfl rfl hl.1 rfl (Nat.le_of_ble_eq_true rfl) dX11_feed_55 ⟨Nat.le_of_ble_eq_true rfl, Nat.le_of_ble_eq_true rfl⟩ (fun u_12 H locs hw hP hD hS => ?_)
  have hP : va_P D vwCl [((a 0), .inr (11, [.ref (a 1), .ref (a 2), .ref (a 3), .ref (a 4), .ref (a 5), .ref (a 6), .ref (a 7), .ref (a 8), .ref (a 9), .ref (a 10), .ref (a 11), .ref (a 12), .int 0])), ((a 1), .inr (9, [.ref (a 20), .int 20])), ((a 20), .inl (D.1 13, 1600, .inl u_12))] H := hP
  have hD : va_D A [((a 0), .inr (11, [.ref (a 1), .ref (a 2), .ref (a 3), .ref (a 4), .ref (a 5), .ref (a 6), .ref (a 7), .ref (a 8), .ref (a 9), .ref (a 10), .ref (a 11), .ref (a 12), .int 0])), ((a 1), .inr (9, [.ref (a 20), .int 20])), ((a 20), .inl (D.1 13, 1600, .inl u_12))] := hD
  refine lv_aload_n hx hb dX11_feed_58 rfl (lv_at hl 0 rfl) ?_
  refine va_get (D := D) (ci := 11) (v := .ref (a 1)) (C := RX11) (T := TX11) (N := 13) hx hb ht inX11 hown hK hP 0 rfl rfl 0 (by decide) (ht (.fieldLink RX11 12 "CloneVolumes" "tape" "LCloneVolumes$Tape;") fl_X11_12) (fun _ h9 => h9) rfl dX11_feed_59 ?_
  refine va_get (D := D) (ci := 9) (v := .int 20) (C := RX9) (T := TX9) (N := 2) hx hb ht inX9 hown hK hP 1 rfl rfl 1 (by decide) (ht (.fieldLink RX11 95 "CloneVolumes$Tape" "length" "I") fl_X11_95) (fun _ h9 => h9) rfl dX11_feed_62 ?_
  have hP9 := hP.sub (ws' := []) [] rfl
  have hD9 := hD.sub (ws' := []) [] (by decide) rfl
  refine W.widen (k := 0) (n := 0) (Nat.le_of_ble_eq_true rfl) (Nat.le_of_ble_eq_true rfl) ?_
  exact W.iret (v := 20) hx hb hr (fun t ht hW => ⟨⟨20, (), rfl, rfl, by rw [ht]; exact hP9, va_K.moved hW.alike hK, hD9⟩, hS.F ht⟩) hS.2.2 dX11_feed_65
set_option maxHeartbeats 4000000 in
set_option maxRecDepth 100000 in
theorem k_X11_end (l : Launch) (D : va_G) (sz : Nat) (a : Nat → Nat) (p0 : Int32) : Met l yX11_end (wz yX11_end cX11_end 2 (some .boolean)) { frames := 1, cells := 0, slots := 0, locals := 60 } (va_Pc [.ref (a 0), .int p0] (zW D sz [((a 0), .inr (11, [.ref (a 1), .ref (a 2), .ref (a 3), .ref (a 4), .ref (a 5), .ref (a 6), .ref (a 7), .ref (a 8), .ref (a 9), .ref (a 10), .ref (a 11), .ref (a 12), .int 0])), ((a 1), .inr (9, [.ref (a 20), .int 0])), ((a 9), .inl (D.1 13, 6, .inl (fun _ => 0)))])) (va_Qi (fun r (_ : Unit) => (r = 0 ∧ p0.toInt < 0) ∨ (r = 1 ∧ 0 ≤ p0.toInt ∧ p0.toInt ≤ 0) ∨ (r = 0 ∧ 0 ≤ p0.toInt ∧ 0 < p0.toInt)) (fun u t => zB D (va_A [((a 0), .inr (11, [.ref (a 1), .ref (a 2), .ref (a 3), .ref (a 4), .ref (a 5), .ref (a 6), .ref (a 7), .ref (a 8), .ref (a 9), .ref (a 10), .ref (a 11), .ref (a 12), .int 0])), ((a 1), .inr (9, [.ref (a 20), .int 0])), ((a 9), .inl (D.1 13, 6, .inl (fun _ => 0)))] sz) ((fun (_ : Unit) => []) u) t) (va_A [((a 0), .inr (11, [.ref (a 1), .ref (a 2), .ref (a 3), .ref (a 4), .ref (a 5), .ref (a 6), .ref (a 7), .ref (a 8), .ref (a 9), .ref (a 10), .ref (a 11), .ref (a 12), .int 0])), ((a 1), .inr (9, [.ref (a 20), .int 0])), ((a 9), .inl (D.1 13, 6, .inl (fun _ => 0)))] sz)) 0 0 (va_A [((a 0), .inr (11, [.ref (a 1), .ref (a 2), .ref (a 3), .ref (a 4), .ref (a 5), .ref (a 6), .ref (a 7), .ref (a 8), .ref (a 9), .ref (a 10), .ref (a 11), .ref (a 12), .int 0])), ((a 1), .inr (9, [.ref (a 20), .int 0])), ((a 9), .inl (D.1 13, 6, .inl (fun _ => 0)))] sz) := by
  refine Met.ofW (cc := cX11_end) (maxL := 2) (ret := (some .boolean)) (by decide) rfl ?_
  intro p e s m args below meth c s₁ B hml hv
  obtain ⟨rfl, hsz, hP, hK, hD0⟩ := hv
  have hx := B.exec
  have hb := B.bytes
  have hr := B.returns
  have hts := atoms_spec (ws := wz yX11_end cX11_end 2 (some .boolean)) B.pre
  have ht : ∀ w ∈ lw_gd, w.before _ s = true := fun w h => hts w (List.mem_cons_of_mem _ h)
  have hown : s.vm.findClass RX11 = some m.cls := findClass_of_methodNamed B.named
  have hlocks := B.notSynchronized
  subst hsz
  have hD := hD0.self (sz := s.heap.size)
  generalize hAe : va_A [((a 0), .inr (11, [.ref (a 1), .ref (a 2), .ref (a 3), .ref (a 4), .ref (a 5), .ref (a 6), .ref (a 7), .ref (a 8), .ref (a 9), .ref (a 10), .ref (a 11), .ref (a 12), .int 0])), ((a 1), .inr (9, [.ref (a 20), .int 0])), ((a 9), .inl (D.1 13, 6, .inl (fun _ => 0)))] s.heap.size = A at hD ⊢
  have hA : ∀ q : Nat, s.heap.size ≤ q → A q := fun q h => by rw [← hAe]; exact Or.inr h
  have hS : va_S A s.heap s.heap [] := va_S.rf
  have hl := lv_entry ([.ref (a 0), .int p0]) (n := 2) (Nat.le_of_ble_eq_true rfl)
  rw [lg_entry_eq]
  generalize (lg_sl ([.ref (a 0), .int p0]) ++ List.replicate (2 - (lg_sl ([.ref (a 0), .int p0])).length) Slot.unset).toArray = ls at hl ⊢
  have hl : lv_has ls 2 [(0, .ref (a 0)), (1, .int p0)] := hl
  refine lv_iload_n hx hb dX11_end_0 rfl (lv_at hl 1 rfl) ?_
  refine lv_if_lt (tgt := 15) hx hb dX11_end_1 (by decide) (fun c_1 => ?_) (fun c_1 => ?_)
  · have g_2 : p0.toInt < 0 := z_lt rfl (by decide) c_1
    refine lv_aload_n hx hb dX11_end_15 rfl (lv_at hl 0 rfl) ?_
    refine lv_iconst (v := 0) hx hb dX11_end_16 (by decide) ?_
    refine zwV (As := [.int 0]) (rest := []) (C := RX11) (n := 1) (wr := [((a 1), .inr (9, [.ref (a 20), .int 0]))]) ⟨hx, hb, hml, hown, ht⟩ (k_X11_refuse l D _ a 0 (by first | decide | omega)) (zgV ml_X11_87 im_X11_refuse se_X11_refuse in_X11 co_X11_refuse) rfl rfl (by decide +kernel) ⟨Nat.le_of_ble_eq_true rfl, Nat.le_of_ble_eq_true rfl⟩ hK hP hD hS hA [0, 2] [1] rfl rfl rfl rfl (by decide) 0 rfl rfl rfl rfl hl.1 rfl (Nat.le_of_ble_eq_true rfl) dX11_end_17 ⟨Nat.le_of_ble_eq_true rfl, Nat.le_of_ble_eq_true rfl⟩ (fun r_4 u_3 H locs hw hP hD hS => ?_)
    have hP : va_P D vwCl [((a 1), .inr (9, [.ref (a 20), .int 0]))] H := hP
    have hD : va_D A [((a 1), .inr (9, [.ref (a 20), .int 0]))] := hD
    subst hw
    refine lv_pop hx hb dX11_end_20 rfl ?_
    refine lv_iconst (v := 0) hx hb dX11_end_21 (by decide) ?_
    have hP9 := hP.sub (ws' := []) [] rfl
    have hD9 := hD.sub (ws' := []) [] (by decide) rfl
    refine W.widen (k := 0) (n := 0) (Nat.le_of_ble_eq_true rfl) (Nat.le_of_ble_eq_true rfl) ?_
    exact W.zret (v := 0) hx hb hr (by decide) (fun t ht hW => ⟨⟨0, (), rfl, Or.inl (⟨rfl, zu_lt rfl (by decide) g_2⟩), by rw [ht]; exact hP9, va_K.moved hW.alike hK, hD9⟩, hS.F ht⟩) hS.2.2 dX11_end_22
  · have g_2 : 0 ≤ p0.toInt := z_nlt rfl (by decide) c_1
    refine lv_iload_n hx hb dX11_end_4 rfl (lv_at hl 1 rfl) ?_
    refine lv_aload_n hx hb dX11_end_5 rfl (lv_at hl 0 rfl) ?_
    refine va_get (D := D) (ci := 11) (v := .ref (a 1)) (C := RX11) (T := TX11) (N := 13) hx hb ht inX11 hown hK hP 0 rfl rfl 0 (by decide) (ht (.fieldLink RX11 12 "CloneVolumes" "tape" "LCloneVolumes$Tape;") fl_X11_12) (fun _ h9 => h9) rfl dX11_end_6 ?_
    refine va_get (D := D) (ci := 9) (v := .int 0) (C := RX9) (T := TX9) (N := 2) hx hb ht inX9 hown hK hP 1 rfl rfl 1 (by decide) (ht (.fieldLink RX11 95 "CloneVolumes$Tape" "length" "I") fl_X11_95) (fun _ h9 => h9) rfl dX11_end_9 ?_
    refine lv_icmp_le (tgt := 23) hx hb dX11_end_12 (by decide) (fun c_5 => ?_) (fun c_5 => ?_)
    · have g_6 : p0.toInt ≤ 0 := z_le rfl (by decide) c_5
      refine lv_aload_n hx hb dX11_end_23 rfl (lv_at hl 0 rfl) ?_
      refine va_get (D := D) (ci := 11) (v := .ref (a 1)) (C := RX11) (T := TX11) (N := 13) hx hb ht inX11 hown hK hP 0 rfl rfl 0 (by decide) (ht (.fieldLink RX11 12 "CloneVolumes" "tape" "LCloneVolumes$Tape;") fl_X11_12) (fun _ h9 => h9) rfl dX11_end_24 ?_
      refine lv_iload_n hx hb dX11_end_27 rfl (lv_at hl 1 rfl) ?_
      refine va_put (D := D) (ci := 9) (v := .int p0) (ty := .int) (C := RX9) (T := TX9) (N := 2) hx hb ht inX9 tyX9 tyX9_ok nmX9 hown hK hP hD hS 1 rfl rfl 1 (by decide) (ht (.fieldLink RX11 95 "CloneVolumes$Tape" "length" "I") fl_X11_95) (fun _ h9 => h9) rfl (by decide +kernel) rfl rfl (Nat.le_of_ble_eq_true rfl) dX11_end_28 (fun H locs hP hD hS => ?_)
      have hP : va_P D vwCl [((a 0), .inr (11, [.ref (a 1), .ref (a 2), .ref (a 3), .ref (a 4), .ref (a 5), .ref (a 6), .ref (a 7), .ref (a 8), .ref (a 9), .ref (a 10), .ref (a 11), .ref (a 12), .int 0])), ((a 1), .inr (9, [.ref (a 20), .int p0])), ((a 9), .inl (D.1 13, 6, .inl (fun _ => 0)))] H := hP
      have hD : va_D A [((a 0), .inr (11, [.ref (a 1), .ref (a 2), .ref (a 3), .ref (a 4), .ref (a 5), .ref (a 6), .ref (a 7), .ref (a 8), .ref (a 9), .ref (a 10), .ref (a 11), .ref (a 12), .int 0])), ((a 1), .inr (9, [.ref (a 20), .int p0])), ((a 9), .inl (D.1 13, 6, .inl (fun _ => 0)))] := hD
      refine lv_iconst (v := 1) hx hb dX11_end_31 (by decide) ?_
      have hP9 := hP.sub (ws' := []) [] rfl
      have hD9 := hD.sub (ws' := []) [] (by decide) rfl
      refine W.widen (k := 0) (n := 0) (Nat.le_of_ble_eq_true rfl) (Nat.le_of_ble_eq_true rfl) ?_
      exact W.zret (v := 1) hx hb hr (by decide) (fun t ht hW => ⟨⟨1, (), rfl, Or.inr (Or.inl (⟨rfl, zu_ge rfl (by decide) g_2, zu_le rfl (by decide) g_6⟩)), by rw [ht]; exact hP9, va_K.moved hW.alike hK, hD9⟩, hS.F ht⟩) hS.2.2 dX11_end_32
    · have g_6 : 0 < p0.toInt := z_nle rfl (by decide) c_5
      refine lv_aload_n hx hb dX11_end_15 rfl (lv_at hl 0 rfl) ?_
      refine lv_iconst (v := 0) hx hb dX11_end_16 (by decide) ?_
      refine zwV (As := [.int 0]) (rest := []) (C := RX11) (n := 1) (wr := [((a 1), .inr (9, [.ref (a 20), .int 0]))]) ⟨hx, hb, hml, hown, ht⟩ (k_X11_refuse l D _ a 0 (by first | decide | omega)) (zgV ml_X11_87 im_X11_refuse se_X11_refuse in_X11 co_X11_refuse) rfl rfl (by decide +kernel) ⟨Nat.le_of_ble_eq_true rfl, Nat.le_of_ble_eq_true rfl⟩ hK hP hD hS hA [0, 2] [1] rfl rfl rfl rfl (by decide) 0 rfl rfl rfl rfl hl.1 rfl (Nat.le_of_ble_eq_true rfl) dX11_end_17 ⟨Nat.le_of_ble_eq_true rfl, Nat.le_of_ble_eq_true rfl⟩ (fun r_8 u_7 H locs hw hP hD hS => ?_)
      have hP : va_P D vwCl [((a 1), .inr (9, [.ref (a 20), .int 0]))] H := hP
      have hD : va_D A [((a 1), .inr (9, [.ref (a 20), .int 0]))] := hD
      subst hw
      refine lv_pop hx hb dX11_end_20 rfl ?_
      refine lv_iconst (v := 0) hx hb dX11_end_21 (by decide) ?_
      have hP9 := hP.sub (ws' := []) [] rfl
      have hD9 := hD.sub (ws' := []) [] (by decide) rfl
      refine W.widen (k := 0) (n := 0) (Nat.le_of_ble_eq_true rfl) (Nat.le_of_ble_eq_true rfl) ?_
      exact W.zret (v := 0) hx hb hr (by decide) (fun t ht hW => ⟨⟨0, (), rfl, Or.inr (Or.inr (⟨rfl, zu_ge rfl (by decide) g_2, zu_gt rfl (by decide) g_6⟩)), by rw [ht]; exact hP9, va_K.moved hW.alike hK, hD9⟩, hS.F ht⟩) hS.2.2 dX11_end_22
set_option maxHeartbeats 4000000 in
set_option maxRecDepth 100000 in
theorem k_X11_seed (l : Launch) (D : va_G) (sz : Nat) (a : Nat → Nat) (p0 : Int32) : Met l yX11_seed (wz yX11_seed cX11_seed 2 (some .boolean)) { frames := 1, cells := 0, slots := 0, locals := 60 } (va_Pc [.ref (a 0), .int p0] (zW D sz [((a 0), .inr (11, [.ref (a 1), .ref (a 2), .ref (a 3), .ref (a 4), .ref (a 5), .ref (a 6), .ref (a 7), .ref (a 8), .ref (a 9), .ref (a 10), .ref (a 11), .ref (a 12), .int 0])), ((a 12), .inr (1, [.ref (a 13), .ref (a 14), .ref (a 15), .int 1, .ref (a 10), .ref (a 16), .ref (a 17), .ref (a 18), .ref (a 19)])), ((a 9), .inl (D.1 13, 6, .inl (fun _ => 0)))])) (va_Qi (fun r (_ : Unit) => (r = 1 ∧ 0 ≤ p0.toInt) ∨ (r = 0 ∧ p0.toInt < 0)) (fun u t => zB D (va_A [((a 0), .inr (11, [.ref (a 1), .ref (a 2), .ref (a 3), .ref (a 4), .ref (a 5), .ref (a 6), .ref (a 7), .ref (a 8), .ref (a 9), .ref (a 10), .ref (a 11), .ref (a 12), .int 0])), ((a 12), .inr (1, [.ref (a 13), .ref (a 14), .ref (a 15), .int 1, .ref (a 10), .ref (a 16), .ref (a 17), .ref (a 18), .ref (a 19)])), ((a 9), .inl (D.1 13, 6, .inl (fun _ => 0)))] sz) ((fun (_ : Unit) => []) u) t) (va_A [((a 0), .inr (11, [.ref (a 1), .ref (a 2), .ref (a 3), .ref (a 4), .ref (a 5), .ref (a 6), .ref (a 7), .ref (a 8), .ref (a 9), .ref (a 10), .ref (a 11), .ref (a 12), .int 0])), ((a 12), .inr (1, [.ref (a 13), .ref (a 14), .ref (a 15), .int 1, .ref (a 10), .ref (a 16), .ref (a 17), .ref (a 18), .ref (a 19)])), ((a 9), .inl (D.1 13, 6, .inl (fun _ => 0)))] sz)) 0 0 (va_A [((a 0), .inr (11, [.ref (a 1), .ref (a 2), .ref (a 3), .ref (a 4), .ref (a 5), .ref (a 6), .ref (a 7), .ref (a 8), .ref (a 9), .ref (a 10), .ref (a 11), .ref (a 12), .int 0])), ((a 12), .inr (1, [.ref (a 13), .ref (a 14), .ref (a 15), .int 1, .ref (a 10), .ref (a 16), .ref (a 17), .ref (a 18), .ref (a 19)])), ((a 9), .inl (D.1 13, 6, .inl (fun _ => 0)))] sz) := by
  refine Met.ofW (cc := cX11_seed) (maxL := 2) (ret := (some .boolean)) (by decide) rfl ?_
  intro p e s m args below meth c s₁ B hml hv
  obtain ⟨rfl, hsz, hP, hK, hD0⟩ := hv
  have hx := B.exec
  have hb := B.bytes
  have hr := B.returns
  have hts := atoms_spec (ws := wz yX11_seed cX11_seed 2 (some .boolean)) B.pre
  have ht : ∀ w ∈ lw_gd, w.before _ s = true := fun w h => hts w (List.mem_cons_of_mem _ h)
  have hown : s.vm.findClass RX11 = some m.cls := findClass_of_methodNamed B.named
  have hlocks := B.notSynchronized
  subst hsz
  have hD := hD0.self (sz := s.heap.size)
  generalize hAe : va_A [((a 0), .inr (11, [.ref (a 1), .ref (a 2), .ref (a 3), .ref (a 4), .ref (a 5), .ref (a 6), .ref (a 7), .ref (a 8), .ref (a 9), .ref (a 10), .ref (a 11), .ref (a 12), .int 0])), ((a 12), .inr (1, [.ref (a 13), .ref (a 14), .ref (a 15), .int 1, .ref (a 10), .ref (a 16), .ref (a 17), .ref (a 18), .ref (a 19)])), ((a 9), .inl (D.1 13, 6, .inl (fun _ => 0)))] s.heap.size = A at hD ⊢
  have hA : ∀ q : Nat, s.heap.size ≤ q → A q := fun q h => by rw [← hAe]; exact Or.inr h
  have hS : va_S A s.heap s.heap [] := va_S.rf
  have hl := lv_entry ([.ref (a 0), .int p0]) (n := 2) (Nat.le_of_ble_eq_true rfl)
  rw [lg_entry_eq]
  generalize (lg_sl ([.ref (a 0), .int p0]) ++ List.replicate (2 - (lg_sl ([.ref (a 0), .int p0])).length) Slot.unset).toArray = ls at hl ⊢
  have hl : lv_has ls 2 [(0, .ref (a 0)), (1, .int p0)] := hl
  refine lv_iload_n hx hb dX11_seed_0 rfl (lv_at hl 1 rfl) ?_
  refine lv_if_ge (tgt := 12) hx hb dX11_seed_1 (by decide) (fun c_1 => ?_) (fun c_1 => ?_)
  · have g_2 : 0 ≤ p0.toInt := z_le (by decide) rfl c_1
    refine lv_aload_n hx hb dX11_seed_12 rfl (lv_at hl 0 rfl) ?_
    refine va_get (D := D) (ci := 11) (v := .ref (a 12)) (C := RX11) (T := TX11) (N := 13) hx hb ht inX11 hown hK hP 0 rfl rfl 11 (by decide) (ht (.fieldLink RX11 79 "CloneVolumes" "forest" "LCloneVolumes$Forest;") fl_X11_79) (fun _ h9 => h9) rfl dX11_seed_13 ?_
    refine lv_iload_n hx hb dX11_seed_16 rfl (lv_at hl 1 rfl) ?_
    refine va_put (D := D) (ci := 1) (v := .int p0) (ty := .int) (C := RX1) (T := TX1) (N := 9) hx hb ht inX1 tyX1 tyX1_ok nmX1 hown hK hP hD hS 1 rfl rfl 3 (by decide) (ht (.fieldLink RX11 316 "CloneVolumes$Forest" "seed" "I") fl_X11_316) (fun _ h9 => h9) rfl (by decide +kernel) rfl rfl (Nat.le_of_ble_eq_true rfl) dX11_seed_17 (fun H locs hP hD hS => ?_)
    have hP : va_P D vwCl [((a 0), .inr (11, [.ref (a 1), .ref (a 2), .ref (a 3), .ref (a 4), .ref (a 5), .ref (a 6), .ref (a 7), .ref (a 8), .ref (a 9), .ref (a 10), .ref (a 11), .ref (a 12), .int 0])), ((a 12), .inr (1, [.ref (a 13), .ref (a 14), .ref (a 15), .int p0, .ref (a 10), .ref (a 16), .ref (a 17), .ref (a 18), .ref (a 19)])), ((a 9), .inl (D.1 13, 6, .inl (fun _ => 0)))] H := hP
    have hD : va_D A [((a 0), .inr (11, [.ref (a 1), .ref (a 2), .ref (a 3), .ref (a 4), .ref (a 5), .ref (a 6), .ref (a 7), .ref (a 8), .ref (a 9), .ref (a 10), .ref (a 11), .ref (a 12), .int 0])), ((a 12), .inr (1, [.ref (a 13), .ref (a 14), .ref (a 15), .int p0, .ref (a 10), .ref (a 16), .ref (a 17), .ref (a 18), .ref (a 19)])), ((a 9), .inl (D.1 13, 6, .inl (fun _ => 0)))] := hD
    refine lv_iconst (v := 1) hx hb dX11_seed_20 (by decide) ?_
    have hP9 := hP.sub (ws' := []) [] rfl
    have hD9 := hD.sub (ws' := []) [] (by decide) rfl
    refine W.widen (k := 0) (n := 0) (Nat.le_of_ble_eq_true rfl) (Nat.le_of_ble_eq_true rfl) ?_
    exact W.zret (v := 1) hx hb hr (by decide) (fun t ht hW => ⟨⟨1, (), rfl, Or.inl (⟨rfl, zu_ge rfl (by decide) g_2⟩), by rw [ht]; exact hP9, va_K.moved hW.alike hK, hD9⟩, hS.F ht⟩) hS.2.2 dX11_seed_21
  · have g_2 : p0.toInt < 0 := z_nle (by decide) rfl c_1
    refine lv_aload_n hx hb dX11_seed_4 rfl (lv_at hl 0 rfl) ?_
    refine lv_iconst (v := 5) hx hb dX11_seed_5 (by decide) ?_
    refine zwV (As := [.int 5]) (rest := []) (C := RX11) (n := 1) (wr := [((a 12), .inr (1, [.ref (a 13), .ref (a 14), .ref (a 15), .int 1, .ref (a 10), .ref (a 16), .ref (a 17), .ref (a 18), .ref (a 19)]))]) ⟨hx, hb, hml, hown, ht⟩ (k_X11_refuse l D _ a 5 (by first | decide | omega)) (zgV ml_X11_87 im_X11_refuse se_X11_refuse in_X11 co_X11_refuse) rfl rfl (by decide +kernel) ⟨Nat.le_of_ble_eq_true rfl, Nat.le_of_ble_eq_true rfl⟩ hK hP hD hS hA [0, 2] [1] rfl rfl rfl rfl (by decide) 0 rfl rfl rfl rfl hl.1 rfl (Nat.le_of_ble_eq_true rfl) dX11_seed_6 ⟨Nat.le_of_ble_eq_true rfl, Nat.le_of_ble_eq_true rfl⟩ (fun r_4 u_3 H locs hw hP hD hS => ?_)
    have hP : va_P D vwCl [((a 12), .inr (1, [.ref (a 13), .ref (a 14), .ref (a 15), .int 1, .ref (a 10), .ref (a 16), .ref (a 17), .ref (a 18), .ref (a 19)]))] H := hP
    have hD : va_D A [((a 12), .inr (1, [.ref (a 13), .ref (a 14), .ref (a 15), .int 1, .ref (a 10), .ref (a 16), .ref (a 17), .ref (a 18), .ref (a 19)]))] := hD
    subst hw
    refine lv_pop hx hb dX11_seed_9 rfl ?_
    refine lv_iconst (v := 0) hx hb dX11_seed_10 (by decide) ?_
    have hP9 := hP.sub (ws' := []) [] rfl
    have hD9 := hD.sub (ws' := []) [] (by decide) rfl
    refine W.widen (k := 0) (n := 0) (Nat.le_of_ble_eq_true rfl) (Nat.le_of_ble_eq_true rfl) ?_
    exact W.zret (v := 0) hx hb hr (by decide) (fun t ht hW => ⟨⟨0, (), rfl, Or.inr (⟨rfl, zu_lt rfl (by decide) g_2⟩), by rw [ht]; exact hP9, va_K.moved hW.alike hK, hD9⟩, hS.F ht⟩) hS.2.2 dX11_seed_11
set_option maxHeartbeats 4000000 in
set_option maxRecDepth 100000 in
theorem k_X11_see (l : Launch) (D : va_G) (sz : Nat) (a : Nat → Nat)  : Met l yX11_see (wz yX11_see cX11_see 2 (some .int)) { frames := 1, cells := 0, slots := 0, locals := 60 } (va_Pc [.ref (a 0)] (zW D sz [((a 0), .inr (11, [.ref (a 1), .ref (a 2), .ref (a 3), .ref (a 4), .ref (a 5), .ref (a 6), .ref (a 7), .ref (a 8), .ref (a 9), .ref (a 10), .ref (a 11), .ref (a 12), .int 0])), ((a 4), .inr (7, [.int 0, .ref (a 26), .ref (a 27), .ref (a 28), .int 0, .ref (a 29)])), ((a 1), .inr (9, [.ref (a 20), .int 0])), ((a 9), .inl (D.1 13, 6, .inl (fun _ => 0)))])) (va_Qi (fun r (_ : Unit) => r = (-1)) (fun u t => zB D (va_A [((a 0), .inr (11, [.ref (a 1), .ref (a 2), .ref (a 3), .ref (a 4), .ref (a 5), .ref (a 6), .ref (a 7), .ref (a 8), .ref (a 9), .ref (a 10), .ref (a 11), .ref (a 12), .int 0])), ((a 4), .inr (7, [.int 0, .ref (a 26), .ref (a 27), .ref (a 28), .int 0, .ref (a 29)])), ((a 1), .inr (9, [.ref (a 20), .int 0])), ((a 9), .inl (D.1 13, 6, .inl (fun _ => 0)))] sz) ((fun (_ : Unit) => []) u) t) (va_A [((a 0), .inr (11, [.ref (a 1), .ref (a 2), .ref (a 3), .ref (a 4), .ref (a 5), .ref (a 6), .ref (a 7), .ref (a 8), .ref (a 9), .ref (a 10), .ref (a 11), .ref (a 12), .int 0])), ((a 4), .inr (7, [.int 0, .ref (a 26), .ref (a 27), .ref (a 28), .int 0, .ref (a 29)])), ((a 1), .inr (9, [.ref (a 20), .int 0])), ((a 9), .inl (D.1 13, 6, .inl (fun _ => 0)))] sz)) 0 0 (va_A [((a 0), .inr (11, [.ref (a 1), .ref (a 2), .ref (a 3), .ref (a 4), .ref (a 5), .ref (a 6), .ref (a 7), .ref (a 8), .ref (a 9), .ref (a 10), .ref (a 11), .ref (a 12), .int 0])), ((a 4), .inr (7, [.int 0, .ref (a 26), .ref (a 27), .ref (a 28), .int 0, .ref (a 29)])), ((a 1), .inr (9, [.ref (a 20), .int 0])), ((a 9), .inl (D.1 13, 6, .inl (fun _ => 0)))] sz) := by
  refine Met.ofW (cc := cX11_see) (maxL := 2) (ret := (some .int)) (by decide) rfl ?_
  intro p e s m args below meth c s₁ B hml hv
  obtain ⟨rfl, hsz, hP, hK, hD0⟩ := hv
  have hx := B.exec
  have hb := B.bytes
  have hr := B.returns
  have hts := atoms_spec (ws := wz yX11_see cX11_see 2 (some .int)) B.pre
  have ht : ∀ w ∈ lw_gd, w.before _ s = true := fun w h => hts w (List.mem_cons_of_mem _ h)
  have hown : s.vm.findClass RX11 = some m.cls := findClass_of_methodNamed B.named
  have hlocks := B.notSynchronized
  subst hsz
  have hD := hD0.self (sz := s.heap.size)
  generalize hAe : va_A [((a 0), .inr (11, [.ref (a 1), .ref (a 2), .ref (a 3), .ref (a 4), .ref (a 5), .ref (a 6), .ref (a 7), .ref (a 8), .ref (a 9), .ref (a 10), .ref (a 11), .ref (a 12), .int 0])), ((a 4), .inr (7, [.int 0, .ref (a 26), .ref (a 27), .ref (a 28), .int 0, .ref (a 29)])), ((a 1), .inr (9, [.ref (a 20), .int 0])), ((a 9), .inl (D.1 13, 6, .inl (fun _ => 0)))] s.heap.size = A at hD ⊢
  have hA : ∀ q : Nat, s.heap.size ≤ q → A q := fun q h => by rw [← hAe]; exact Or.inr h
  have hS : va_S A s.heap s.heap [] := va_S.rf
  have hl := lv_entry ([.ref (a 0)]) (n := 2) (Nat.le_of_ble_eq_true rfl)
  rw [lg_entry_eq]
  generalize (lg_sl ([.ref (a 0)]) ++ List.replicate (2 - (lg_sl ([.ref (a 0)])).length) Slot.unset).toArray = ls at hl ⊢
  have hl : lv_has ls 2 [(0, .ref (a 0))] := hl
  refine lv_aload_n hx hb dX11_see_0 rfl (lv_at hl 0 rfl) ?_
  refine va_get (D := D) (ci := 11) (v := .ref (a 4)) (C := RX11) (T := TX11) (N := 13) hx hb ht inX11 hown hK hP 0 rfl rfl 3 (by decide) (ht (.fieldLink RX11 35 "CloneVolumes" "sight" "LCloneVolumes$Sight;") fl_X11_35) (fun _ h9 => h9) rfl dX11_see_1 ?_
  refine lv_aload_n hx hb dX11_see_4 rfl (lv_at hl 0 rfl) ?_
  refine va_get (D := D) (ci := 11) (v := .ref (a 1)) (C := RX11) (T := TX11) (N := 13) hx hb ht inX11 hown hK hP 0 rfl rfl 0 (by decide) (ht (.fieldLink RX11 12 "CloneVolumes" "tape" "LCloneVolumes$Tape;") fl_X11_12) (fun _ h9 => h9) rfl dX11_see_5 ?_
  refine zcV (As := [.ref (a 1)]) (rest := []) (C := RX7) (n := 1) ⟨hx, hb, hml, hown, ht⟩ (k_X7_take l D a) (zgV ml_X11_258 im_X7_take se_X7_take in_X7 co_X7_take) rfl rfl (by decide +kernel) ⟨Nat.le_of_ble_eq_true rfl, Nat.le_of_ble_eq_true rfl⟩ hK hP hS [1, 2] rfl 0 rfl rfl rfl rfl hl.1 rfl (Nat.le_of_ble_eq_true rfl) dX11_see_8 ⟨Nat.le_of_ble_eq_true rfl, Nat.le_of_ble_eq_true rfl⟩ (fun r_1 H locs hw hP hS => ?_)
  subst hw
  refine lv_istore_n (lv' := [(1, .int 0), (0, .ref (a 0))]) hx hb dX11_see_11 rfl hl (by decide) rfl (fun ls hl => ?_)
  refine lv_aload_n hx hb dX11_see_12 rfl (lv_at hl 1 rfl) ?_
  refine va_get (D := D) (ci := 11) (v := .ref (a 1)) (C := RX11) (T := TX11) (N := 13) hx hb ht inX11 hown hK hP 0 rfl rfl 0 (by decide) (ht (.fieldLink RX11 12 "CloneVolumes" "tape" "LCloneVolumes$Tape;") fl_X11_12) (fun _ h9 => h9) rfl dX11_see_13 ?_
  refine lv_iconst (v := 0) hx hb dX11_see_16 (by decide) ?_
  refine va_put (D := D) (ci := 9) (v := .int 0) (ty := .int) (C := RX9) (T := TX9) (N := 2) hx hb ht inX9 tyX9 tyX9_ok nmX9 hown hK hP hD hS 2 rfl rfl 1 (by decide) (ht (.fieldLink RX11 95 "CloneVolumes$Tape" "length" "I") fl_X11_95) (fun _ h9 => h9) rfl (by decide +kernel) rfl rfl (Nat.le_of_ble_eq_true rfl) dX11_see_17 (fun H locs hP hD hS => ?_)
  have hP : va_P D vwCl [((a 0), .inr (11, [.ref (a 1), .ref (a 2), .ref (a 3), .ref (a 4), .ref (a 5), .ref (a 6), .ref (a 7), .ref (a 8), .ref (a 9), .ref (a 10), .ref (a 11), .ref (a 12), .int 0])), ((a 4), .inr (7, [.int 0, .ref (a 26), .ref (a 27), .ref (a 28), .int 0, .ref (a 29)])), ((a 1), .inr (9, [.ref (a 20), .int 0])), ((a 9), .inl (D.1 13, 6, .inl (fun _ => 0)))] H := hP
  have hD : va_D A [((a 0), .inr (11, [.ref (a 1), .ref (a 2), .ref (a 3), .ref (a 4), .ref (a 5), .ref (a 6), .ref (a 7), .ref (a 8), .ref (a 9), .ref (a 10), .ref (a 11), .ref (a 12), .int 0])), ((a 4), .inr (7, [.int 0, .ref (a 26), .ref (a 27), .ref (a 28), .int 0, .ref (a 29)])), ((a 1), .inr (9, [.ref (a 20), .int 0])), ((a 9), .inl (D.1 13, 6, .inl (fun _ => 0)))] := hD
  refine lv_iload_n hx hb dX11_see_20 rfl (lv_at hl 0 rfl) ?_
  refine lv_if_eq (tgt := 34) hx hb dX11_see_21 (by decide) (fun _ => ?_) (fun c_2 => (z_abs c_2 (by decide)).elim)
  refine lv_aload_n hx hb dX11_see_34 rfl (lv_at hl 1 rfl) ?_
  refine lv_iconst (v := 1) hx hb dX11_see_35 (by decide) ?_
  refine zwV (As := [.int 1]) (rest := []) (C := RX11) (n := 1) (wr := [((a 4), .inr (7, [.int 0, .ref (a 26), .ref (a 27), .ref (a 28), .int 0, .ref (a 29)])), ((a 1), .inr (9, [.ref (a 20), .int 0]))]) ⟨hx, hb, hml, hown, ht⟩ (k_X11_refuse l D _ a 1 (by first | decide | omega)) (zgV ml_X11_87 im_X11_refuse se_X11_refuse in_X11 co_X11_refuse) rfl rfl (by decide +kernel) ⟨Nat.le_of_ble_eq_true rfl, Nat.le_of_ble_eq_true rfl⟩ hK hP hD hS hA [0, 3] [1, 2] rfl rfl rfl rfl (by decide) 0 rfl rfl rfl rfl hl.1 rfl (Nat.le_of_ble_eq_true rfl) dX11_see_36 ⟨Nat.le_of_ble_eq_true rfl, Nat.le_of_ble_eq_true rfl⟩ (fun r_5 u_4 H locs hw hP hD hS => ?_)
  have hP : va_P D vwCl [((a 4), .inr (7, [.int 0, .ref (a 26), .ref (a 27), .ref (a 28), .int 0, .ref (a 29)])), ((a 1), .inr (9, [.ref (a 20), .int 0]))] H := hP
  have hD : va_D A [((a 4), .inr (7, [.int 0, .ref (a 26), .ref (a 27), .ref (a 28), .int 0, .ref (a 29)])), ((a 1), .inr (9, [.ref (a 20), .int 0]))] := hD
  subst hw
  have hP9 := hP.sub (ws' := []) [] rfl
  have hD9 := hD.sub (ws' := []) [] (by decide) rfl
  refine W.widen (k := 0) (n := 0) (Nat.le_of_ble_eq_true rfl) (Nat.le_of_ble_eq_true rfl) ?_
  exact W.iret (v := (-1)) hx hb hr (fun t ht hW => ⟨⟨(-1), (), rfl, rfl, by rw [ht]; exact hP9, va_K.moved hW.alike hK, hD9⟩, hS.F ht⟩) hS.2.2 dX11_see_39
set_option maxHeartbeats 4000000 in
set_option maxRecDepth 100000 in
theorem k_X11_undo (l : Launch) (D : va_G) (sz : Nat) (a : Nat → Nat)  : Met l yX11_undo (wz yX11_undo cX11_undo 2 (some .boolean)) { frames := 1, cells := 0, slots := 0, locals := 60 } (va_Pc [.ref (a 0)] (zW D sz [((a 0), .inr (11, [.ref (a 1), .ref (a 2), .ref (a 3), .ref (a 4), .ref (a 5), .ref (a 6), .ref (a 7), .ref (a 8), .ref (a 9), .ref (a 10), .ref (a 11), .ref (a 12), .int 0])), ((a 3), .inr (2, [.ref (a 22), .ref (a 23), .ref (a 24), .int 0, .ref (a 25), .int 0])), ((a 9), .inl (D.1 13, 6, .inl (fun _ => 0)))])) (va_Qi (fun r (_ : Unit) => r = 0) (fun u t => zB D (va_A [((a 0), .inr (11, [.ref (a 1), .ref (a 2), .ref (a 3), .ref (a 4), .ref (a 5), .ref (a 6), .ref (a 7), .ref (a 8), .ref (a 9), .ref (a 10), .ref (a 11), .ref (a 12), .int 0])), ((a 3), .inr (2, [.ref (a 22), .ref (a 23), .ref (a 24), .int 0, .ref (a 25), .int 0])), ((a 9), .inl (D.1 13, 6, .inl (fun _ => 0)))] sz) ((fun (_ : Unit) => []) u) t) (va_A [((a 0), .inr (11, [.ref (a 1), .ref (a 2), .ref (a 3), .ref (a 4), .ref (a 5), .ref (a 6), .ref (a 7), .ref (a 8), .ref (a 9), .ref (a 10), .ref (a 11), .ref (a 12), .int 0])), ((a 3), .inr (2, [.ref (a 22), .ref (a 23), .ref (a 24), .int 0, .ref (a 25), .int 0])), ((a 9), .inl (D.1 13, 6, .inl (fun _ => 0)))] sz)) 0 0 (va_A [((a 0), .inr (11, [.ref (a 1), .ref (a 2), .ref (a 3), .ref (a 4), .ref (a 5), .ref (a 6), .ref (a 7), .ref (a 8), .ref (a 9), .ref (a 10), .ref (a 11), .ref (a 12), .int 0])), ((a 3), .inr (2, [.ref (a 22), .ref (a 23), .ref (a 24), .int 0, .ref (a 25), .int 0])), ((a 9), .inl (D.1 13, 6, .inl (fun _ => 0)))] sz) := by
  refine Met.ofW (cc := cX11_undo) (maxL := 2) (ret := (some .boolean)) (by decide) rfl ?_
  intro p e s m args below meth c s₁ B hml hv
  obtain ⟨rfl, hsz, hP, hK, hD0⟩ := hv
  have hx := B.exec
  have hb := B.bytes
  have hr := B.returns
  have hts := atoms_spec (ws := wz yX11_undo cX11_undo 2 (some .boolean)) B.pre
  have ht : ∀ w ∈ lw_gd, w.before _ s = true := fun w h => hts w (List.mem_cons_of_mem _ h)
  have hown : s.vm.findClass RX11 = some m.cls := findClass_of_methodNamed B.named
  have hlocks := B.notSynchronized
  subst hsz
  have hD := hD0.self (sz := s.heap.size)
  generalize hAe : va_A [((a 0), .inr (11, [.ref (a 1), .ref (a 2), .ref (a 3), .ref (a 4), .ref (a 5), .ref (a 6), .ref (a 7), .ref (a 8), .ref (a 9), .ref (a 10), .ref (a 11), .ref (a 12), .int 0])), ((a 3), .inr (2, [.ref (a 22), .ref (a 23), .ref (a 24), .int 0, .ref (a 25), .int 0])), ((a 9), .inl (D.1 13, 6, .inl (fun _ => 0)))] s.heap.size = A at hD ⊢
  have hA : ∀ q : Nat, s.heap.size ≤ q → A q := fun q h => by rw [← hAe]; exact Or.inr h
  have hS : va_S A s.heap s.heap [] := va_S.rf
  have hl := lv_entry ([.ref (a 0)]) (n := 2) (Nat.le_of_ble_eq_true rfl)
  rw [lg_entry_eq]
  generalize (lg_sl ([.ref (a 0)]) ++ List.replicate (2 - (lg_sl ([.ref (a 0)])).length) Slot.unset).toArray = ls at hl ⊢
  have hl : lv_has ls 2 [(0, .ref (a 0))] := hl
  refine lv_aload_n hx hb dX11_undo_0 rfl (lv_at hl 0 rfl) ?_
  refine va_get (D := D) (ci := 11) (v := .ref (a 3)) (C := RX11) (T := TX11) (N := 13) hx hb ht inX11 hown hK hP 0 rfl rfl 2 (by decide) (ht (.fieldLink RX11 28 "CloneVolumes" "history" "LCloneVolumes$History;") fl_X11_28) (fun _ h9 => h9) rfl dX11_undo_1 ?_
  refine zcVn (As := []) (rest := []) (C := RX2) (n := 0) ⟨hx, hb, hml, hown, ht⟩ (k_X2_forget l D a) (zgV ml_X11_308 im_X2_forget se_X2_forget in_X2 co_X2_forget) rfl rfl (by decide +kernel) ⟨Nat.le_of_ble_eq_true rfl, Nat.le_of_ble_eq_true rfl⟩ hK hP hS [1] rfl 0 rfl rfl rfl rfl hl.1 rfl (Nat.le_of_ble_eq_true rfl) dX11_undo_4 ⟨Nat.le_of_ble_eq_true rfl, Nat.le_of_ble_eq_true rfl⟩ (fun H locs hP hS => ?_)
  refine lv_astore_nN (lv' := [(1, .null), (0, .ref (a 0))]) hx hb dX11_undo_7 rfl hl (by decide) rfl (fun ls hl => ?_)
  refine lv_aload_nN hx hb dX11_undo_8 rfl (lv_at hl 0 rfl) ?_
  refine lv_ifnonnullN hx hb dX11_undo_9 ?_
  refine lv_aload_n hx hb dX11_undo_12 rfl (lv_at hl 1 rfl) ?_
  refine lv_iconst (v := 4) hx hb dX11_undo_13 (by decide) ?_
  refine zwV (As := [.int 4]) (rest := []) (C := RX11) (n := 1) (wr := [((a 3), .inr (2, [.ref (a 22), .ref (a 23), .ref (a 24), .int 0, .ref (a 25), .int 0]))]) ⟨hx, hb, hml, hown, ht⟩ (k_X11_refuse l D _ a 4 (by first | decide | omega)) (zgV ml_X11_87 im_X11_refuse se_X11_refuse in_X11 co_X11_refuse) rfl rfl (by decide +kernel) ⟨Nat.le_of_ble_eq_true rfl, Nat.le_of_ble_eq_true rfl⟩ hK hP hD hS hA [0, 2] [1] rfl rfl rfl rfl (by decide) 0 rfl rfl rfl rfl hl.1 rfl (Nat.le_of_ble_eq_true rfl) dX11_undo_14 ⟨Nat.le_of_ble_eq_true rfl, Nat.le_of_ble_eq_true rfl⟩ (fun r_3 u_2 H locs hw hP hD hS => ?_)
  have hP : va_P D vwCl [((a 3), .inr (2, [.ref (a 22), .ref (a 23), .ref (a 24), .int 0, .ref (a 25), .int 0]))] H := hP
  have hD : va_D A [((a 3), .inr (2, [.ref (a 22), .ref (a 23), .ref (a 24), .int 0, .ref (a 25), .int 0]))] := hD
  subst hw
  refine lv_pop hx hb dX11_undo_17 rfl ?_
  refine lv_iconst (v := 0) hx hb dX11_undo_18 (by decide) ?_
  have hP9 := hP.sub (ws' := []) [] rfl
  have hD9 := hD.sub (ws' := []) [] (by decide) rfl
  refine W.widen (k := 0) (n := 0) (Nat.le_of_ble_eq_true rfl) (Nat.le_of_ble_eq_true rfl) ?_
  exact W.zret (v := 0) hx hb hr (by decide) (fun t ht hW => ⟨⟨0, (), rfl, rfl, by rw [ht]; exact hP9, va_K.moved hW.alike hK, hD9⟩, hS.F ht⟩) hS.2.2 dX11_undo_19
set_option maxHeartbeats 4000000 in
set_option maxRecDepth 100000 in
theorem k_X11_put (l : Launch) (D : va_G) (sz : Nat) (a : Nat → Nat) (p0 : Int32) (p1 : Int32) (p2 : Int32) : Met l yX11_put (wz yX11_put cX11_put 4 (some .int)) { frames := 1, cells := 0, slots := 0, locals := 60 } (va_Pc [.ref (a 0), .int p0, .int p1, .int p2] (zW D sz [((a 0), .inr (11, [.ref (a 1), .ref (a 2), .ref (a 3), .ref (a 4), .ref (a 5), .ref (a 6), .ref (a 7), .ref (a 8), .ref (a 9), .ref (a 10), .ref (a 11), .ref (a 12), .int 0])), ((a 12), .inr (1, [.ref (a 13), .ref (a 14), .ref (a 15), .int 1, .ref (a 10), .ref (a 16), .ref (a 17), .ref (a 18), .ref (a 19)])), ((a 13), .inr (8, [.int 0, .int 0, .long 0, .ref (a 60), .ref (a 61), .ref (a 62), .ref (a 63), .ref (a 64), .ref (a 65), .ref (a 66), .ref (a 67)])), ((a 66), .inl (D.1 13, 8, .inl (fun _ => (-2)))), ((a 9), .inl (D.1 13, 6, .inl (fun _ => 0)))])) (va_Qi (fun r (_ : Unit) => r = (-1)) (fun u t => zB D (va_A [((a 0), .inr (11, [.ref (a 1), .ref (a 2), .ref (a 3), .ref (a 4), .ref (a 5), .ref (a 6), .ref (a 7), .ref (a 8), .ref (a 9), .ref (a 10), .ref (a 11), .ref (a 12), .int 0])), ((a 12), .inr (1, [.ref (a 13), .ref (a 14), .ref (a 15), .int 1, .ref (a 10), .ref (a 16), .ref (a 17), .ref (a 18), .ref (a 19)])), ((a 13), .inr (8, [.int 0, .int 0, .long 0, .ref (a 60), .ref (a 61), .ref (a 62), .ref (a 63), .ref (a 64), .ref (a 65), .ref (a 66), .ref (a 67)])), ((a 66), .inl (D.1 13, 8, .inl (fun _ => (-2)))), ((a 9), .inl (D.1 13, 6, .inl (fun _ => 0)))] sz) ((fun (_ : Unit) => []) u) t) (va_A [((a 0), .inr (11, [.ref (a 1), .ref (a 2), .ref (a 3), .ref (a 4), .ref (a 5), .ref (a 6), .ref (a 7), .ref (a 8), .ref (a 9), .ref (a 10), .ref (a 11), .ref (a 12), .int 0])), ((a 12), .inr (1, [.ref (a 13), .ref (a 14), .ref (a 15), .int 1, .ref (a 10), .ref (a 16), .ref (a 17), .ref (a 18), .ref (a 19)])), ((a 13), .inr (8, [.int 0, .int 0, .long 0, .ref (a 60), .ref (a 61), .ref (a 62), .ref (a 63), .ref (a 64), .ref (a 65), .ref (a 66), .ref (a 67)])), ((a 66), .inl (D.1 13, 8, .inl (fun _ => (-2)))), ((a 9), .inl (D.1 13, 6, .inl (fun _ => 0)))] sz)) 0 0 (va_A [((a 0), .inr (11, [.ref (a 1), .ref (a 2), .ref (a 3), .ref (a 4), .ref (a 5), .ref (a 6), .ref (a 7), .ref (a 8), .ref (a 9), .ref (a 10), .ref (a 11), .ref (a 12), .int 0])), ((a 12), .inr (1, [.ref (a 13), .ref (a 14), .ref (a 15), .int 1, .ref (a 10), .ref (a 16), .ref (a 17), .ref (a 18), .ref (a 19)])), ((a 13), .inr (8, [.int 0, .int 0, .long 0, .ref (a 60), .ref (a 61), .ref (a 62), .ref (a 63), .ref (a 64), .ref (a 65), .ref (a 66), .ref (a 67)])), ((a 66), .inl (D.1 13, 8, .inl (fun _ => (-2)))), ((a 9), .inl (D.1 13, 6, .inl (fun _ => 0)))] sz) := by
  refine Met.ofW (cc := cX11_put) (maxL := 4) (ret := (some .int)) (by decide) rfl ?_
  intro p e s m args below meth c s₁ B hml hv
  obtain ⟨rfl, hsz, hP, hK, hD0⟩ := hv
  have hx := B.exec
  have hb := B.bytes
  have hr := B.returns
  have hts := atoms_spec (ws := wz yX11_put cX11_put 4 (some .int)) B.pre
  have ht : ∀ w ∈ lw_gd, w.before _ s = true := fun w h => hts w (List.mem_cons_of_mem _ h)
  have hown : s.vm.findClass RX11 = some m.cls := findClass_of_methodNamed B.named
  have hlocks := B.notSynchronized
  subst hsz
  have hD := hD0.self (sz := s.heap.size)
  generalize hAe : va_A [((a 0), .inr (11, [.ref (a 1), .ref (a 2), .ref (a 3), .ref (a 4), .ref (a 5), .ref (a 6), .ref (a 7), .ref (a 8), .ref (a 9), .ref (a 10), .ref (a 11), .ref (a 12), .int 0])), ((a 12), .inr (1, [.ref (a 13), .ref (a 14), .ref (a 15), .int 1, .ref (a 10), .ref (a 16), .ref (a 17), .ref (a 18), .ref (a 19)])), ((a 13), .inr (8, [.int 0, .int 0, .long 0, .ref (a 60), .ref (a 61), .ref (a 62), .ref (a 63), .ref (a 64), .ref (a 65), .ref (a 66), .ref (a 67)])), ((a 66), .inl (D.1 13, 8, .inl (fun _ => (-2)))), ((a 9), .inl (D.1 13, 6, .inl (fun _ => 0)))] s.heap.size = A at hD ⊢
  have hA : ∀ q : Nat, s.heap.size ≤ q → A q := fun q h => by rw [← hAe]; exact Or.inr h
  have hS : va_S A s.heap s.heap [] := va_S.rf
  have hl := lv_entry ([.ref (a 0), .int p0, .int p1, .int p2]) (n := 4) (Nat.le_of_ble_eq_true rfl)
  rw [lg_entry_eq]
  generalize (lg_sl ([.ref (a 0), .int p0, .int p1, .int p2]) ++ List.replicate (4 - (lg_sl ([.ref (a 0), .int p0, .int p1, .int p2])).length) Slot.unset).toArray = ls at hl ⊢
  have hl : lv_has ls 4 [(0, .ref (a 0)), (1, .int p0), (2, .int p1), (3, .int p2)] := hl
  refine lv_aload_n hx hb dX11_put_0 rfl (lv_at hl 0 rfl) ?_
  refine va_get (D := D) (ci := 11) (v := .ref (a 12)) (C := RX11) (T := TX11) (N := 13) hx hb ht inX11 hown hK hP 0 rfl rfl 11 (by decide) (ht (.fieldLink RX11 79 "CloneVolumes" "forest" "LCloneVolumes$Forest;") fl_X11_79) (fun _ h9 => h9) rfl dX11_put_1 ?_
  refine va_get (D := D) (ci := 1) (v := .ref (a 13)) (C := RX1) (T := TX1) (N := 9) hx hb ht inX1 hown hK hP 1 rfl rfl 0 (by decide) (ht (.fieldLink RX11 125 "CloneVolumes$Forest" "now" "LCloneVolumes$State;") fl_X11_125) (fun _ h9 => h9) rfl dX11_put_4 ?_
  refine lv_iload_n hx hb dX11_put_7 rfl (lv_at hl 1 rfl) ?_
  refine zcV (As := [.int p0]) (rest := []) (C := RX8) (n := 1) ⟨hx, hb, hml, hown, ht⟩ (k_X8_isVolume l D a p0) (zgV ml_X11_161 im_X8_isVolume se_X8_isVolume in_X8 co_X8_isVolume) rfl rfl (by decide +kernel) ⟨Nat.le_of_ble_eq_true rfl, Nat.le_of_ble_eq_true rfl⟩ hK hP hS [2, 3] rfl 0 rfl rfl rfl rfl hl.1 rfl (Nat.le_of_ble_eq_true rfl) dX11_put_8 ⟨Nat.le_of_ble_eq_true rfl, Nat.le_of_ble_eq_true rfl⟩ (fun r_1 H locs hw hP hS => ?_)
  subst hw
  refine lv_if_eq (tgt := 28) hx hb dX11_put_11 (by decide) (fun _ => ?_) (fun c_2 => (z_abs c_2 (by decide)).elim)
  refine lv_aload_n hx hb dX11_put_28 rfl (lv_at hl 0 rfl) ?_
  refine lv_iconst (v := 2) hx hb dX11_put_29 (by decide) ?_
  refine zwV (As := [.int 2]) (rest := []) (C := RX11) (n := 1) (wr := [((a 12), .inr (1, [.ref (a 13), .ref (a 14), .ref (a 15), .int 1, .ref (a 10), .ref (a 16), .ref (a 17), .ref (a 18), .ref (a 19)])), ((a 13), .inr (8, [.int 0, .int 0, .long 0, .ref (a 60), .ref (a 61), .ref (a 62), .ref (a 63), .ref (a 64), .ref (a 65), .ref (a 66), .ref (a 67)])), ((a 66), .inl (D.1 13, 8, .inl (fun _ => (-2))))]) ⟨hx, hb, hml, hown, ht⟩ (k_X11_refuse l D _ a 2 (by first | decide | omega)) (zgV ml_X11_87 im_X11_refuse se_X11_refuse in_X11 co_X11_refuse) rfl rfl (by decide +kernel) ⟨Nat.le_of_ble_eq_true rfl, Nat.le_of_ble_eq_true rfl⟩ hK hP hD hS hA [0, 4] [1, 2, 3] rfl rfl rfl rfl (by decide) 0 rfl rfl rfl rfl hl.1 rfl (Nat.le_of_ble_eq_true rfl) dX11_put_30 ⟨Nat.le_of_ble_eq_true rfl, Nat.le_of_ble_eq_true rfl⟩ (fun r_5 u_4 H locs hw hP hD hS => ?_)
  have hP : va_P D vwCl [((a 12), .inr (1, [.ref (a 13), .ref (a 14), .ref (a 15), .int 1, .ref (a 10), .ref (a 16), .ref (a 17), .ref (a 18), .ref (a 19)])), ((a 13), .inr (8, [.int 0, .int 0, .long 0, .ref (a 60), .ref (a 61), .ref (a 62), .ref (a 63), .ref (a 64), .ref (a 65), .ref (a 66), .ref (a 67)])), ((a 66), .inl (D.1 13, 8, .inl (fun _ => (-2))))] H := hP
  have hD : va_D A [((a 12), .inr (1, [.ref (a 13), .ref (a 14), .ref (a 15), .int 1, .ref (a 10), .ref (a 16), .ref (a 17), .ref (a 18), .ref (a 19)])), ((a 13), .inr (8, [.int 0, .int 0, .long 0, .ref (a 60), .ref (a 61), .ref (a 62), .ref (a 63), .ref (a 64), .ref (a 65), .ref (a 66), .ref (a 67)])), ((a 66), .inl (D.1 13, 8, .inl (fun _ => (-2))))] := hD
  subst hw
  have hP9 := hP.sub (ws' := []) [] rfl
  have hD9 := hD.sub (ws' := []) [] (by decide) rfl
  refine W.widen (k := 0) (n := 0) (Nat.le_of_ble_eq_true rfl) (Nat.le_of_ble_eq_true rfl) ?_
  exact W.iret (v := (-1)) hx hb hr (fun t ht hW => ⟨⟨(-1), (), rfl, rfl, by rw [ht]; exact hP9, va_K.moved hW.alike hK, hD9⟩, hS.F ht⟩) hS.2.2 dX11_put_33
set_option maxHeartbeats 4000000 in
set_option maxRecDepth 100000 in
theorem k_X11_remove (l : Launch) (D : va_G) (sz : Nat) (a : Nat → Nat) (p0 : Int32) (p1 : Int32) : Met l yX11_remove (wz yX11_remove cX11_remove 3 (some .int)) { frames := 1, cells := 0, slots := 0, locals := 60 } (va_Pc [.ref (a 0), .int p0, .int p1] (zW D sz [((a 0), .inr (11, [.ref (a 1), .ref (a 2), .ref (a 3), .ref (a 4), .ref (a 5), .ref (a 6), .ref (a 7), .ref (a 8), .ref (a 9), .ref (a 10), .ref (a 11), .ref (a 12), .int 0])), ((a 12), .inr (1, [.ref (a 13), .ref (a 14), .ref (a 15), .int 1, .ref (a 10), .ref (a 16), .ref (a 17), .ref (a 18), .ref (a 19)])), ((a 13), .inr (8, [.int 0, .int 0, .long 0, .ref (a 60), .ref (a 61), .ref (a 62), .ref (a 63), .ref (a 64), .ref (a 65), .ref (a 66), .ref (a 67)])), ((a 66), .inl (D.1 13, 8, .inl (fun _ => (-2)))), ((a 9), .inl (D.1 13, 6, .inl (fun _ => 0)))])) (va_Qi (fun r (_ : Unit) => r = (-1)) (fun u t => zB D (va_A [((a 0), .inr (11, [.ref (a 1), .ref (a 2), .ref (a 3), .ref (a 4), .ref (a 5), .ref (a 6), .ref (a 7), .ref (a 8), .ref (a 9), .ref (a 10), .ref (a 11), .ref (a 12), .int 0])), ((a 12), .inr (1, [.ref (a 13), .ref (a 14), .ref (a 15), .int 1, .ref (a 10), .ref (a 16), .ref (a 17), .ref (a 18), .ref (a 19)])), ((a 13), .inr (8, [.int 0, .int 0, .long 0, .ref (a 60), .ref (a 61), .ref (a 62), .ref (a 63), .ref (a 64), .ref (a 65), .ref (a 66), .ref (a 67)])), ((a 66), .inl (D.1 13, 8, .inl (fun _ => (-2)))), ((a 9), .inl (D.1 13, 6, .inl (fun _ => 0)))] sz) ((fun (_ : Unit) => []) u) t) (va_A [((a 0), .inr (11, [.ref (a 1), .ref (a 2), .ref (a 3), .ref (a 4), .ref (a 5), .ref (a 6), .ref (a 7), .ref (a 8), .ref (a 9), .ref (a 10), .ref (a 11), .ref (a 12), .int 0])), ((a 12), .inr (1, [.ref (a 13), .ref (a 14), .ref (a 15), .int 1, .ref (a 10), .ref (a 16), .ref (a 17), .ref (a 18), .ref (a 19)])), ((a 13), .inr (8, [.int 0, .int 0, .long 0, .ref (a 60), .ref (a 61), .ref (a 62), .ref (a 63), .ref (a 64), .ref (a 65), .ref (a 66), .ref (a 67)])), ((a 66), .inl (D.1 13, 8, .inl (fun _ => (-2)))), ((a 9), .inl (D.1 13, 6, .inl (fun _ => 0)))] sz)) 0 0 (va_A [((a 0), .inr (11, [.ref (a 1), .ref (a 2), .ref (a 3), .ref (a 4), .ref (a 5), .ref (a 6), .ref (a 7), .ref (a 8), .ref (a 9), .ref (a 10), .ref (a 11), .ref (a 12), .int 0])), ((a 12), .inr (1, [.ref (a 13), .ref (a 14), .ref (a 15), .int 1, .ref (a 10), .ref (a 16), .ref (a 17), .ref (a 18), .ref (a 19)])), ((a 13), .inr (8, [.int 0, .int 0, .long 0, .ref (a 60), .ref (a 61), .ref (a 62), .ref (a 63), .ref (a 64), .ref (a 65), .ref (a 66), .ref (a 67)])), ((a 66), .inl (D.1 13, 8, .inl (fun _ => (-2)))), ((a 9), .inl (D.1 13, 6, .inl (fun _ => 0)))] sz) := by
  refine Met.ofW (cc := cX11_remove) (maxL := 3) (ret := (some .int)) (by decide) rfl ?_
  intro p e s m args below meth c s₁ B hml hv
  obtain ⟨rfl, hsz, hP, hK, hD0⟩ := hv
  have hx := B.exec
  have hb := B.bytes
  have hr := B.returns
  have hts := atoms_spec (ws := wz yX11_remove cX11_remove 3 (some .int)) B.pre
  have ht : ∀ w ∈ lw_gd, w.before _ s = true := fun w h => hts w (List.mem_cons_of_mem _ h)
  have hown : s.vm.findClass RX11 = some m.cls := findClass_of_methodNamed B.named
  have hlocks := B.notSynchronized
  subst hsz
  have hD := hD0.self (sz := s.heap.size)
  generalize hAe : va_A [((a 0), .inr (11, [.ref (a 1), .ref (a 2), .ref (a 3), .ref (a 4), .ref (a 5), .ref (a 6), .ref (a 7), .ref (a 8), .ref (a 9), .ref (a 10), .ref (a 11), .ref (a 12), .int 0])), ((a 12), .inr (1, [.ref (a 13), .ref (a 14), .ref (a 15), .int 1, .ref (a 10), .ref (a 16), .ref (a 17), .ref (a 18), .ref (a 19)])), ((a 13), .inr (8, [.int 0, .int 0, .long 0, .ref (a 60), .ref (a 61), .ref (a 62), .ref (a 63), .ref (a 64), .ref (a 65), .ref (a 66), .ref (a 67)])), ((a 66), .inl (D.1 13, 8, .inl (fun _ => (-2)))), ((a 9), .inl (D.1 13, 6, .inl (fun _ => 0)))] s.heap.size = A at hD ⊢
  have hA : ∀ q : Nat, s.heap.size ≤ q → A q := fun q h => by rw [← hAe]; exact Or.inr h
  have hS : va_S A s.heap s.heap [] := va_S.rf
  have hl := lv_entry ([.ref (a 0), .int p0, .int p1]) (n := 3) (Nat.le_of_ble_eq_true rfl)
  rw [lg_entry_eq]
  generalize (lg_sl ([.ref (a 0), .int p0, .int p1]) ++ List.replicate (3 - (lg_sl ([.ref (a 0), .int p0, .int p1])).length) Slot.unset).toArray = ls at hl ⊢
  have hl : lv_has ls 3 [(0, .ref (a 0)), (1, .int p0), (2, .int p1)] := hl
  refine lv_aload_n hx hb dX11_remove_0 rfl (lv_at hl 0 rfl) ?_
  refine va_get (D := D) (ci := 11) (v := .ref (a 12)) (C := RX11) (T := TX11) (N := 13) hx hb ht inX11 hown hK hP 0 rfl rfl 11 (by decide) (ht (.fieldLink RX11 79 "CloneVolumes" "forest" "LCloneVolumes$Forest;") fl_X11_79) (fun _ h9 => h9) rfl dX11_remove_1 ?_
  refine va_get (D := D) (ci := 1) (v := .ref (a 13)) (C := RX1) (T := TX1) (N := 9) hx hb ht inX1 hown hK hP 1 rfl rfl 0 (by decide) (ht (.fieldLink RX11 125 "CloneVolumes$Forest" "now" "LCloneVolumes$State;") fl_X11_125) (fun _ h9 => h9) rfl dX11_remove_4 ?_
  refine lv_iload_n hx hb dX11_remove_7 rfl (lv_at hl 1 rfl) ?_
  refine zcV (As := [.int p0]) (rest := []) (C := RX8) (n := 1) ⟨hx, hb, hml, hown, ht⟩ (k_X8_isVolume l D a p0) (zgV ml_X11_161 im_X8_isVolume se_X8_isVolume in_X8 co_X8_isVolume) rfl rfl (by decide +kernel) ⟨Nat.le_of_ble_eq_true rfl, Nat.le_of_ble_eq_true rfl⟩ hK hP hS [2, 3] rfl 0 rfl rfl rfl rfl hl.1 rfl (Nat.le_of_ble_eq_true rfl) dX11_remove_8 ⟨Nat.le_of_ble_eq_true rfl, Nat.le_of_ble_eq_true rfl⟩ (fun r_1 H locs hw hP hS => ?_)
  subst hw
  refine lv_if_ne (tgt := 20) hx hb dX11_remove_11 (by decide) (fun c_2 => (z_abs c_2 (by decide)).elim) (fun _ => ?_)
  refine lv_aload_n hx hb dX11_remove_14 rfl (lv_at hl 0 rfl) ?_
  refine lv_iconst (v := 2) hx hb dX11_remove_15 (by decide) ?_
  refine zwV (As := [.int 2]) (rest := []) (C := RX11) (n := 1) (wr := [((a 12), .inr (1, [.ref (a 13), .ref (a 14), .ref (a 15), .int 1, .ref (a 10), .ref (a 16), .ref (a 17), .ref (a 18), .ref (a 19)])), ((a 13), .inr (8, [.int 0, .int 0, .long 0, .ref (a 60), .ref (a 61), .ref (a 62), .ref (a 63), .ref (a 64), .ref (a 65), .ref (a 66), .ref (a 67)])), ((a 66), .inl (D.1 13, 8, .inl (fun _ => (-2))))]) ⟨hx, hb, hml, hown, ht⟩ (k_X11_refuse l D _ a 2 (by first | decide | omega)) (zgV ml_X11_87 im_X11_refuse se_X11_refuse in_X11 co_X11_refuse) rfl rfl (by decide +kernel) ⟨Nat.le_of_ble_eq_true rfl, Nat.le_of_ble_eq_true rfl⟩ hK hP hD hS hA [0, 4] [1, 2, 3] rfl rfl rfl rfl (by decide) 0 rfl rfl rfl rfl hl.1 rfl (Nat.le_of_ble_eq_true rfl) dX11_remove_16 ⟨Nat.le_of_ble_eq_true rfl, Nat.le_of_ble_eq_true rfl⟩ (fun r_5 u_4 H locs hw hP hD hS => ?_)
  have hP : va_P D vwCl [((a 12), .inr (1, [.ref (a 13), .ref (a 14), .ref (a 15), .int 1, .ref (a 10), .ref (a 16), .ref (a 17), .ref (a 18), .ref (a 19)])), ((a 13), .inr (8, [.int 0, .int 0, .long 0, .ref (a 60), .ref (a 61), .ref (a 62), .ref (a 63), .ref (a 64), .ref (a 65), .ref (a 66), .ref (a 67)])), ((a 66), .inl (D.1 13, 8, .inl (fun _ => (-2))))] H := hP
  have hD : va_D A [((a 12), .inr (1, [.ref (a 13), .ref (a 14), .ref (a 15), .int 1, .ref (a 10), .ref (a 16), .ref (a 17), .ref (a 18), .ref (a 19)])), ((a 13), .inr (8, [.int 0, .int 0, .long 0, .ref (a 60), .ref (a 61), .ref (a 62), .ref (a 63), .ref (a 64), .ref (a 65), .ref (a 66), .ref (a 67)])), ((a 66), .inl (D.1 13, 8, .inl (fun _ => (-2))))] := hD
  subst hw
  have hP9 := hP.sub (ws' := []) [] rfl
  have hD9 := hD.sub (ws' := []) [] (by decide) rfl
  refine W.widen (k := 0) (n := 0) (Nat.le_of_ble_eq_true rfl) (Nat.le_of_ble_eq_true rfl) ?_
  exact W.iret (v := (-1)) hx hb hr (fun t ht hW => ⟨⟨(-1), (), rfl, rfl, by rw [ht]; exact hP9, va_K.moved hW.alike hK, hD9⟩, hS.F ht⟩) hS.2.2 dX11_remove_19
set_option maxHeartbeats 4000000 in
set_option maxRecDepth 100000 in
theorem k_X11_copy (l : Launch) (D : va_G) (sz : Nat) (a : Nat → Nat) (p0 : Int32) : Met l yX11_copy (wz yX11_copy cX11_copy 3 (some .int)) { frames := 2, cells := 0, slots := 0, locals := 120 } (va_Pc [.ref (a 0), .int p0] (zW D sz [((a 0), .inr (11, [.ref (a 1), .ref (a 2), .ref (a 3), .ref (a 4), .ref (a 5), .ref (a 6), .ref (a 7), .ref (a 8), .ref (a 9), .ref (a 10), .ref (a 11), .ref (a 12), .int 0])), ((a 12), .inr (1, [.ref (a 13), .ref (a 14), .ref (a 15), .int 1, .ref (a 10), .ref (a 16), .ref (a 17), .ref (a 18), .ref (a 19)])), ((a 13), .inr (8, [.int 0, .int 0, .long 0, .ref (a 60), .ref (a 61), .ref (a 62), .ref (a 63), .ref (a 64), .ref (a 65), .ref (a 66), .ref (a 67)])), ((a 66), .inl (D.1 13, 8, .inl (fun _ => (-2)))), ((a 9), .inl (D.1 13, 6, .inl (fun _ => 0)))])) (va_Qi (fun r (_ : Unit) => r = (-1)) (fun u t => zB D (va_A [((a 0), .inr (11, [.ref (a 1), .ref (a 2), .ref (a 3), .ref (a 4), .ref (a 5), .ref (a 6), .ref (a 7), .ref (a 8), .ref (a 9), .ref (a 10), .ref (a 11), .ref (a 12), .int 0])), ((a 12), .inr (1, [.ref (a 13), .ref (a 14), .ref (a 15), .int 1, .ref (a 10), .ref (a 16), .ref (a 17), .ref (a 18), .ref (a 19)])), ((a 13), .inr (8, [.int 0, .int 0, .long 0, .ref (a 60), .ref (a 61), .ref (a 62), .ref (a 63), .ref (a 64), .ref (a 65), .ref (a 66), .ref (a 67)])), ((a 66), .inl (D.1 13, 8, .inl (fun _ => (-2)))), ((a 9), .inl (D.1 13, 6, .inl (fun _ => 0)))] sz) ((fun (_ : Unit) => []) u) t) (va_A [((a 0), .inr (11, [.ref (a 1), .ref (a 2), .ref (a 3), .ref (a 4), .ref (a 5), .ref (a 6), .ref (a 7), .ref (a 8), .ref (a 9), .ref (a 10), .ref (a 11), .ref (a 12), .int 0])), ((a 12), .inr (1, [.ref (a 13), .ref (a 14), .ref (a 15), .int 1, .ref (a 10), .ref (a 16), .ref (a 17), .ref (a 18), .ref (a 19)])), ((a 13), .inr (8, [.int 0, .int 0, .long 0, .ref (a 60), .ref (a 61), .ref (a 62), .ref (a 63), .ref (a 64), .ref (a 65), .ref (a 66), .ref (a 67)])), ((a 66), .inl (D.1 13, 8, .inl (fun _ => (-2)))), ((a 9), .inl (D.1 13, 6, .inl (fun _ => 0)))] sz)) 0 0 (va_A [((a 0), .inr (11, [.ref (a 1), .ref (a 2), .ref (a 3), .ref (a 4), .ref (a 5), .ref (a 6), .ref (a 7), .ref (a 8), .ref (a 9), .ref (a 10), .ref (a 11), .ref (a 12), .int 0])), ((a 12), .inr (1, [.ref (a 13), .ref (a 14), .ref (a 15), .int 1, .ref (a 10), .ref (a 16), .ref (a 17), .ref (a 18), .ref (a 19)])), ((a 13), .inr (8, [.int 0, .int 0, .long 0, .ref (a 60), .ref (a 61), .ref (a 62), .ref (a 63), .ref (a 64), .ref (a 65), .ref (a 66), .ref (a 67)])), ((a 66), .inl (D.1 13, 8, .inl (fun _ => (-2)))), ((a 9), .inl (D.1 13, 6, .inl (fun _ => 0)))] sz) := by
  refine Met.ofW (cc := cX11_copy) (maxL := 3) (ret := (some .int)) (by decide) rfl ?_
  intro p e s m args below meth c s₁ B hml hv
  obtain ⟨rfl, hsz, hP, hK, hD0⟩ := hv
  have hx := B.exec
  have hb := B.bytes
  have hr := B.returns
  have hts := atoms_spec (ws := wz yX11_copy cX11_copy 3 (some .int)) B.pre
  have ht : ∀ w ∈ lw_gd, w.before _ s = true := fun w h => hts w (List.mem_cons_of_mem _ h)
  have hown : s.vm.findClass RX11 = some m.cls := findClass_of_methodNamed B.named
  have hlocks := B.notSynchronized
  subst hsz
  have hD := hD0.self (sz := s.heap.size)
  generalize hAe : va_A [((a 0), .inr (11, [.ref (a 1), .ref (a 2), .ref (a 3), .ref (a 4), .ref (a 5), .ref (a 6), .ref (a 7), .ref (a 8), .ref (a 9), .ref (a 10), .ref (a 11), .ref (a 12), .int 0])), ((a 12), .inr (1, [.ref (a 13), .ref (a 14), .ref (a 15), .int 1, .ref (a 10), .ref (a 16), .ref (a 17), .ref (a 18), .ref (a 19)])), ((a 13), .inr (8, [.int 0, .int 0, .long 0, .ref (a 60), .ref (a 61), .ref (a 62), .ref (a 63), .ref (a 64), .ref (a 65), .ref (a 66), .ref (a 67)])), ((a 66), .inl (D.1 13, 8, .inl (fun _ => (-2)))), ((a 9), .inl (D.1 13, 6, .inl (fun _ => 0)))] s.heap.size = A at hD ⊢
  have hA : ∀ q : Nat, s.heap.size ≤ q → A q := fun q h => by rw [← hAe]; exact Or.inr h
  have hS : va_S A s.heap s.heap [] := va_S.rf
  have hl := lv_entry ([.ref (a 0), .int p0]) (n := 3) (Nat.le_of_ble_eq_true rfl)
  rw [lg_entry_eq]
  generalize (lg_sl ([.ref (a 0), .int p0]) ++ List.replicate (3 - (lg_sl ([.ref (a 0), .int p0])).length) Slot.unset).toArray = ls at hl ⊢
  have hl : lv_has ls 3 [(0, .ref (a 0)), (1, .int p0)] := hl
  refine lv_aload_n hx hb dX11_copy_0 rfl (lv_at hl 0 rfl) ?_
  refine va_get (D := D) (ci := 11) (v := .ref (a 12)) (C := RX11) (T := TX11) (N := 13) hx hb ht inX11 hown hK hP 0 rfl rfl 11 (by decide) (ht (.fieldLink RX11 79 "CloneVolumes" "forest" "LCloneVolumes$Forest;") fl_X11_79) (fun _ h9 => h9) rfl dX11_copy_1 ?_
  refine va_get (D := D) (ci := 1) (v := .ref (a 13)) (C := RX1) (T := TX1) (N := 9) hx hb ht inX1 hown hK hP 1 rfl rfl 0 (by decide) (ht (.fieldLink RX11 125 "CloneVolumes$Forest" "now" "LCloneVolumes$State;") fl_X11_125) (fun _ h9 => h9) rfl dX11_copy_4 ?_
  refine zcV (As := []) (rest := []) (C := RX8) (n := 0) ⟨hx, hb, hml, hown, ht⟩ (k_X8_freeNumber l D a) (zgV ml_X11_286 im_X8_freeNumber se_X8_freeNumber in_X8 co_X8_freeNumber) rfl rfl (by decide +kernel) ⟨Nat.le_of_ble_eq_true rfl, Nat.le_of_ble_eq_true rfl⟩ hK hP hS [2, 3] rfl 0 rfl rfl rfl rfl hl.1 rfl (Nat.le_of_ble_eq_true rfl) dX11_copy_7 ⟨Nat.le_of_ble_eq_true rfl, Nat.le_of_ble_eq_true rfl⟩ (fun r_1 H locs hw hP hS => ?_)
  subst hw
  refine lv_istore_n (lv' := [(2, .int 0), (0, .ref (a 0)), (1, .int p0)]) hx hb dX11_copy_10 rfl hl (by decide) rfl (fun ls hl => ?_)
  refine lv_aload_n hx hb dX11_copy_11 rfl (lv_at hl 1 rfl) ?_
  refine va_get (D := D) (ci := 11) (v := .ref (a 12)) (C := RX11) (T := TX11) (N := 13) hx hb ht inX11 hown hK hP 0 rfl rfl 11 (by decide) (ht (.fieldLink RX11 79 "CloneVolumes" "forest" "LCloneVolumes$Forest;") fl_X11_79) (fun _ h9 => h9) rfl dX11_copy_12 ?_
  refine va_get (D := D) (ci := 1) (v := .ref (a 13)) (C := RX1) (T := TX1) (N := 9) hx hb ht inX1 hown hK hP 1 rfl rfl 0 (by decide) (ht (.fieldLink RX11 125 "CloneVolumes$Forest" "now" "LCloneVolumes$State;") fl_X11_125) (fun _ h9 => h9) rfl dX11_copy_15 ?_
  refine lv_iload_n hx hb dX11_copy_18 rfl (lv_at hl 2 rfl) ?_
  refine zcV (As := [.int p0]) (rest := []) (C := RX8) (n := 1) ⟨hx, hb, hml, hown, ht⟩ (k_X8_isVolume l D a p0) (zgV ml_X11_161 im_X8_isVolume se_X8_isVolume in_X8 co_X8_isVolume) rfl rfl (by decide +kernel) ⟨Nat.le_of_ble_eq_true rfl, Nat.le_of_ble_eq_true rfl⟩ hK hP hS [2, 3] rfl 0 rfl rfl rfl rfl hl.1 rfl (Nat.le_of_ble_eq_true rfl) dX11_copy_19 ⟨Nat.le_of_ble_eq_true rfl, Nat.le_of_ble_eq_true rfl⟩ (fun r_2 H locs hw hP hS => ?_)
  subst hw
  refine lv_if_eq (tgt := 30) hx hb dX11_copy_22 (by decide) (fun _ => ?_) (fun c_3 => (z_abs c_3 (by decide)).elim)
  refine lv_aload_n hx hb dX11_copy_30 rfl (lv_at hl 1 rfl) ?_
  refine lv_iconst (v := 2) hx hb dX11_copy_31 (by decide) ?_
  refine zwV (As := [.int 2]) (rest := []) (C := RX11) (n := 1) (wr := [((a 12), .inr (1, [.ref (a 13), .ref (a 14), .ref (a 15), .int 1, .ref (a 10), .ref (a 16), .ref (a 17), .ref (a 18), .ref (a 19)])), ((a 13), .inr (8, [.int 0, .int 0, .long 0, .ref (a 60), .ref (a 61), .ref (a 62), .ref (a 63), .ref (a 64), .ref (a 65), .ref (a 66), .ref (a 67)])), ((a 66), .inl (D.1 13, 8, .inl (fun _ => (-2))))]) ⟨hx, hb, hml, hown, ht⟩ (k_X11_refuse l D _ a 2 (by first | decide | omega)) (zgV ml_X11_87 im_X11_refuse se_X11_refuse in_X11 co_X11_refuse) rfl rfl (by decide +kernel) ⟨Nat.le_of_ble_eq_true rfl, Nat.le_of_ble_eq_true rfl⟩ hK hP hD hS hA [0, 4] [1, 2, 3] rfl rfl rfl rfl (by decide) 0 rfl rfl rfl rfl hl.1 rfl (Nat.le_of_ble_eq_true rfl) dX11_copy_32 ⟨Nat.le_of_ble_eq_true rfl, Nat.le_of_ble_eq_true rfl⟩ (fun r_6 u_5 H locs hw hP hD hS => ?_)
  have hP : va_P D vwCl [((a 12), .inr (1, [.ref (a 13), .ref (a 14), .ref (a 15), .int 1, .ref (a 10), .ref (a 16), .ref (a 17), .ref (a 18), .ref (a 19)])), ((a 13), .inr (8, [.int 0, .int 0, .long 0, .ref (a 60), .ref (a 61), .ref (a 62), .ref (a 63), .ref (a 64), .ref (a 65), .ref (a 66), .ref (a 67)])), ((a 66), .inl (D.1 13, 8, .inl (fun _ => (-2))))] H := hP
  have hD : va_D A [((a 12), .inr (1, [.ref (a 13), .ref (a 14), .ref (a 15), .int 1, .ref (a 10), .ref (a 16), .ref (a 17), .ref (a 18), .ref (a 19)])), ((a 13), .inr (8, [.int 0, .int 0, .long 0, .ref (a 60), .ref (a 61), .ref (a 62), .ref (a 63), .ref (a 64), .ref (a 65), .ref (a 66), .ref (a 67)])), ((a 66), .inl (D.1 13, 8, .inl (fun _ => (-2))))] := hD
  subst hw
  have hP9 := hP.sub (ws' := []) [] rfl
  have hD9 := hD.sub (ws' := []) [] (by decide) rfl
  refine W.widen (k := 0) (n := 0) (Nat.le_of_ble_eq_true rfl) (Nat.le_of_ble_eq_true rfl) ?_
  exact W.iret (v := (-1)) hx hb hr (fun t ht hW => ⟨⟨(-1), (), rfl, rfl, by rw [ht]; exact hP9, va_K.moved hW.alike hK, hD9⟩, hS.F ht⟩) hS.2.2 dX11_copy_35
set_option maxHeartbeats 4000000 in
set_option maxRecDepth 100000 in
theorem k_X11_drop (l : Launch) (D : va_G) (sz : Nat) (a : Nat → Nat) (p0 : Int32) : Met l yX11_drop (wz yX11_drop cX11_drop 3 (some .int)) { frames := 1, cells := 0, slots := 0, locals := 60 } (va_Pc [.ref (a 0), .int p0] (zW D sz [((a 0), .inr (11, [.ref (a 1), .ref (a 2), .ref (a 3), .ref (a 4), .ref (a 5), .ref (a 6), .ref (a 7), .ref (a 8), .ref (a 9), .ref (a 10), .ref (a 11), .ref (a 12), .int 0])), ((a 12), .inr (1, [.ref (a 13), .ref (a 14), .ref (a 15), .int 1, .ref (a 10), .ref (a 16), .ref (a 17), .ref (a 18), .ref (a 19)])), ((a 13), .inr (8, [.int 0, .int 0, .long 0, .ref (a 60), .ref (a 61), .ref (a 62), .ref (a 63), .ref (a 64), .ref (a 65), .ref (a 66), .ref (a 67)])), ((a 66), .inl (D.1 13, 8, .inl (fun _ => (-2)))), ((a 9), .inl (D.1 13, 6, .inl (fun _ => 0)))])) (va_Qi (fun r (_ : Unit) => r = (-1)) (fun u t => zB D (va_A [((a 0), .inr (11, [.ref (a 1), .ref (a 2), .ref (a 3), .ref (a 4), .ref (a 5), .ref (a 6), .ref (a 7), .ref (a 8), .ref (a 9), .ref (a 10), .ref (a 11), .ref (a 12), .int 0])), ((a 12), .inr (1, [.ref (a 13), .ref (a 14), .ref (a 15), .int 1, .ref (a 10), .ref (a 16), .ref (a 17), .ref (a 18), .ref (a 19)])), ((a 13), .inr (8, [.int 0, .int 0, .long 0, .ref (a 60), .ref (a 61), .ref (a 62), .ref (a 63), .ref (a 64), .ref (a 65), .ref (a 66), .ref (a 67)])), ((a 66), .inl (D.1 13, 8, .inl (fun _ => (-2)))), ((a 9), .inl (D.1 13, 6, .inl (fun _ => 0)))] sz) ((fun (_ : Unit) => []) u) t) (va_A [((a 0), .inr (11, [.ref (a 1), .ref (a 2), .ref (a 3), .ref (a 4), .ref (a 5), .ref (a 6), .ref (a 7), .ref (a 8), .ref (a 9), .ref (a 10), .ref (a 11), .ref (a 12), .int 0])), ((a 12), .inr (1, [.ref (a 13), .ref (a 14), .ref (a 15), .int 1, .ref (a 10), .ref (a 16), .ref (a 17), .ref (a 18), .ref (a 19)])), ((a 13), .inr (8, [.int 0, .int 0, .long 0, .ref (a 60), .ref (a 61), .ref (a 62), .ref (a 63), .ref (a 64), .ref (a 65), .ref (a 66), .ref (a 67)])), ((a 66), .inl (D.1 13, 8, .inl (fun _ => (-2)))), ((a 9), .inl (D.1 13, 6, .inl (fun _ => 0)))] sz)) 0 0 (va_A [((a 0), .inr (11, [.ref (a 1), .ref (a 2), .ref (a 3), .ref (a 4), .ref (a 5), .ref (a 6), .ref (a 7), .ref (a 8), .ref (a 9), .ref (a 10), .ref (a 11), .ref (a 12), .int 0])), ((a 12), .inr (1, [.ref (a 13), .ref (a 14), .ref (a 15), .int 1, .ref (a 10), .ref (a 16), .ref (a 17), .ref (a 18), .ref (a 19)])), ((a 13), .inr (8, [.int 0, .int 0, .long 0, .ref (a 60), .ref (a 61), .ref (a 62), .ref (a 63), .ref (a 64), .ref (a 65), .ref (a 66), .ref (a 67)])), ((a 66), .inl (D.1 13, 8, .inl (fun _ => (-2)))), ((a 9), .inl (D.1 13, 6, .inl (fun _ => 0)))] sz) := by
  refine Met.ofW (cc := cX11_drop) (maxL := 3) (ret := (some .int)) (by decide) rfl ?_
  intro p e s m args below meth c s₁ B hml hv
  obtain ⟨rfl, hsz, hP, hK, hD0⟩ := hv
  have hx := B.exec
  have hb := B.bytes
  have hr := B.returns
  have hts := atoms_spec (ws := wz yX11_drop cX11_drop 3 (some .int)) B.pre
  have ht : ∀ w ∈ lw_gd, w.before _ s = true := fun w h => hts w (List.mem_cons_of_mem _ h)
  have hown : s.vm.findClass RX11 = some m.cls := findClass_of_methodNamed B.named
  have hlocks := B.notSynchronized
  subst hsz
  have hD := hD0.self (sz := s.heap.size)
  generalize hAe : va_A [((a 0), .inr (11, [.ref (a 1), .ref (a 2), .ref (a 3), .ref (a 4), .ref (a 5), .ref (a 6), .ref (a 7), .ref (a 8), .ref (a 9), .ref (a 10), .ref (a 11), .ref (a 12), .int 0])), ((a 12), .inr (1, [.ref (a 13), .ref (a 14), .ref (a 15), .int 1, .ref (a 10), .ref (a 16), .ref (a 17), .ref (a 18), .ref (a 19)])), ((a 13), .inr (8, [.int 0, .int 0, .long 0, .ref (a 60), .ref (a 61), .ref (a 62), .ref (a 63), .ref (a 64), .ref (a 65), .ref (a 66), .ref (a 67)])), ((a 66), .inl (D.1 13, 8, .inl (fun _ => (-2)))), ((a 9), .inl (D.1 13, 6, .inl (fun _ => 0)))] s.heap.size = A at hD ⊢
  have hA : ∀ q : Nat, s.heap.size ≤ q → A q := fun q h => by rw [← hAe]; exact Or.inr h
  have hS : va_S A s.heap s.heap [] := va_S.rf
  have hl := lv_entry ([.ref (a 0), .int p0]) (n := 3) (Nat.le_of_ble_eq_true rfl)
  rw [lg_entry_eq]
  generalize (lg_sl ([.ref (a 0), .int p0]) ++ List.replicate (3 - (lg_sl ([.ref (a 0), .int p0])).length) Slot.unset).toArray = ls at hl ⊢
  have hl : lv_has ls 3 [(0, .ref (a 0)), (1, .int p0)] := hl
  refine lv_aload_n hx hb dX11_drop_0 rfl (lv_at hl 0 rfl) ?_
  refine va_get (D := D) (ci := 11) (v := .ref (a 12)) (C := RX11) (T := TX11) (N := 13) hx hb ht inX11 hown hK hP 0 rfl rfl 11 (by decide) (ht (.fieldLink RX11 79 "CloneVolumes" "forest" "LCloneVolumes$Forest;") fl_X11_79) (fun _ h9 => h9) rfl dX11_drop_1 ?_
  refine va_get (D := D) (ci := 1) (v := .ref (a 13)) (C := RX1) (T := TX1) (N := 9) hx hb ht inX1 hown hK hP 1 rfl rfl 0 (by decide) (ht (.fieldLink RX11 125 "CloneVolumes$Forest" "now" "LCloneVolumes$State;") fl_X11_125) (fun _ h9 => h9) rfl dX11_drop_4 ?_
  refine lv_iload_n hx hb dX11_drop_7 rfl (lv_at hl 1 rfl) ?_
  refine zcV (As := [.int p0]) (rest := []) (C := RX8) (n := 1) ⟨hx, hb, hml, hown, ht⟩ (k_X8_isVolume l D a p0) (zgV ml_X11_161 im_X8_isVolume se_X8_isVolume in_X8 co_X8_isVolume) rfl rfl (by decide +kernel) ⟨Nat.le_of_ble_eq_true rfl, Nat.le_of_ble_eq_true rfl⟩ hK hP hS [2, 3] rfl 0 rfl rfl rfl rfl hl.1 rfl (Nat.le_of_ble_eq_true rfl) dX11_drop_8 ⟨Nat.le_of_ble_eq_true rfl, Nat.le_of_ble_eq_true rfl⟩ (fun r_1 H locs hw hP hS => ?_)
  subst hw
  refine lv_if_ne (tgt := 20) hx hb dX11_drop_11 (by decide) (fun c_2 => (z_abs c_2 (by decide)).elim) (fun _ => ?_)
  refine lv_aload_n hx hb dX11_drop_14 rfl (lv_at hl 0 rfl) ?_
  refine lv_iconst (v := 2) hx hb dX11_drop_15 (by decide) ?_
  refine zwV (As := [.int 2]) (rest := []) (C := RX11) (n := 1) (wr := [((a 12), .inr (1, [.ref (a 13), .ref (a 14), .ref (a 15), .int 1, .ref (a 10), .ref (a 16), .ref (a 17), .ref (a 18), .ref (a 19)])), ((a 13), .inr (8, [.int 0, .int 0, .long 0, .ref (a 60), .ref (a 61), .ref (a 62), .ref (a 63), .ref (a 64), .ref (a 65), .ref (a 66), .ref (a 67)])), ((a 66), .inl (D.1 13, 8, .inl (fun _ => (-2))))]) ⟨hx, hb, hml, hown, ht⟩ (k_X11_refuse l D _ a 2 (by first | decide | omega)) (zgV ml_X11_87 im_X11_refuse se_X11_refuse in_X11 co_X11_refuse) rfl rfl (by decide +kernel) ⟨Nat.le_of_ble_eq_true rfl, Nat.le_of_ble_eq_true rfl⟩ hK hP hD hS hA [0, 4] [1, 2, 3] rfl rfl rfl rfl (by decide) 0 rfl rfl rfl rfl hl.1 rfl (Nat.le_of_ble_eq_true rfl) dX11_drop_16 ⟨Nat.le_of_ble_eq_true rfl, Nat.le_of_ble_eq_true rfl⟩ (fun r_5 u_4 H locs hw hP hD hS => ?_)
  have hP : va_P D vwCl [((a 12), .inr (1, [.ref (a 13), .ref (a 14), .ref (a 15), .int 1, .ref (a 10), .ref (a 16), .ref (a 17), .ref (a 18), .ref (a 19)])), ((a 13), .inr (8, [.int 0, .int 0, .long 0, .ref (a 60), .ref (a 61), .ref (a 62), .ref (a 63), .ref (a 64), .ref (a 65), .ref (a 66), .ref (a 67)])), ((a 66), .inl (D.1 13, 8, .inl (fun _ => (-2))))] H := hP
  have hD : va_D A [((a 12), .inr (1, [.ref (a 13), .ref (a 14), .ref (a 15), .int 1, .ref (a 10), .ref (a 16), .ref (a 17), .ref (a 18), .ref (a 19)])), ((a 13), .inr (8, [.int 0, .int 0, .long 0, .ref (a 60), .ref (a 61), .ref (a 62), .ref (a 63), .ref (a 64), .ref (a 65), .ref (a 66), .ref (a 67)])), ((a 66), .inl (D.1 13, 8, .inl (fun _ => (-2))))] := hD
  subst hw
  have hP9 := hP.sub (ws' := []) [] rfl
  have hD9 := hD.sub (ws' := []) [] (by decide) rfl
  refine W.widen (k := 0) (n := 0) (Nat.le_of_ble_eq_true rfl) (Nat.le_of_ble_eq_true rfl) ?_
  exact W.iret (v := (-1)) hx hb hr (fun t ht hW => ⟨⟨(-1), (), rfl, rfl, by rw [ht]; exact hP9, va_K.moved hW.alike hK, hD9⟩, hS.F ht⟩) hS.2.2 dX11_drop_19
set_option maxHeartbeats 4000000 in
set_option maxRecDepth 100000 in
theorem k_X11_checkpoint (l : Launch) (D : va_G) (sz : Nat) (a : Nat → Nat)  : Met l yX11_checkpoint (wz yX11_checkpoint cX11_checkpoint 2 (some .int)) { frames := 1, cells := 0, slots := 0, locals := 60 } (va_Pc [.ref (a 0)] (zW D sz [((a 0), .inr (11, [.ref (a 1), .ref (a 2), .ref (a 3), .ref (a 4), .ref (a 5), .ref (a 6), .ref (a 7), .ref (a 8), .ref (a 9), .ref (a 10), .ref (a 11), .ref (a 12), .int 0])), ((a 9), .inl (D.1 13, 6, .inl (fun _ => 0)))])) (va_Qi (fun r (_ : Unit) => r = (-1)) (fun u t => zB D (va_A [((a 0), .inr (11, [.ref (a 1), .ref (a 2), .ref (a 3), .ref (a 4), .ref (a 5), .ref (a 6), .ref (a 7), .ref (a 8), .ref (a 9), .ref (a 10), .ref (a 11), .ref (a 12), .int 0])), ((a 9), .inl (D.1 13, 6, .inl (fun _ => 0)))] sz) ((fun (_ : Unit) => []) u) t) (va_A [((a 0), .inr (11, [.ref (a 1), .ref (a 2), .ref (a 3), .ref (a 4), .ref (a 5), .ref (a 6), .ref (a 7), .ref (a 8), .ref (a 9), .ref (a 10), .ref (a 11), .ref (a 12), .int 0])), ((a 9), .inl (D.1 13, 6, .inl (fun _ => 0)))] sz)) 0 0 (va_A [((a 0), .inr (11, [.ref (a 1), .ref (a 2), .ref (a 3), .ref (a 4), .ref (a 5), .ref (a 6), .ref (a 7), .ref (a 8), .ref (a 9), .ref (a 10), .ref (a 11), .ref (a 12), .int 0])), ((a 9), .inl (D.1 13, 6, .inl (fun _ => 0)))] sz) := by
  refine Met.ofW (cc := cX11_checkpoint) (maxL := 2) (ret := (some .int)) (by decide) rfl ?_
  intro p e s m args below meth c s₁ B hml hv
  obtain ⟨rfl, hsz, hP, hK, hD0⟩ := hv
  have hx := B.exec
  have hb := B.bytes
  have hr := B.returns
  have hts := atoms_spec (ws := wz yX11_checkpoint cX11_checkpoint 2 (some .int)) B.pre
  have ht : ∀ w ∈ lw_gd, w.before _ s = true := fun w h => hts w (List.mem_cons_of_mem _ h)
  have hown : s.vm.findClass RX11 = some m.cls := findClass_of_methodNamed B.named
  have hlocks := B.notSynchronized
  subst hsz
  have hD := hD0.self (sz := s.heap.size)
  generalize hAe : va_A [((a 0), .inr (11, [.ref (a 1), .ref (a 2), .ref (a 3), .ref (a 4), .ref (a 5), .ref (a 6), .ref (a 7), .ref (a 8), .ref (a 9), .ref (a 10), .ref (a 11), .ref (a 12), .int 0])), ((a 9), .inl (D.1 13, 6, .inl (fun _ => 0)))] s.heap.size = A at hD ⊢
  have hA : ∀ q : Nat, s.heap.size ≤ q → A q := fun q h => by rw [← hAe]; exact Or.inr h
  have hS : va_S A s.heap s.heap [] := va_S.rf
  have hl := lv_entry ([.ref (a 0)]) (n := 2) (Nat.le_of_ble_eq_true rfl)
  rw [lg_entry_eq]
  generalize (lg_sl ([.ref (a 0)]) ++ List.replicate (2 - (lg_sl ([.ref (a 0)])).length) Slot.unset).toArray = ls at hl ⊢
  have hl : lv_has ls 2 [(0, .ref (a 0))] := hl
  refine lv_aload_n hx hb dX11_checkpoint_0 rfl (lv_at hl 0 rfl) ?_
  refine va_get (D := D) (ci := 11) (v := .int 0) (C := RX11) (T := TX11) (N := 13) hx hb ht inX11 hown hK hP 0 rfl rfl 12 (by decide) (ht (.fieldLink RX11 112 "CloneVolumes" "told" "Z") fl_X11_112) (fun _ h9 => h9) rfl dX11_checkpoint_1 ?_
  refine lv_if_ne (tgt := 13) hx hb dX11_checkpoint_4 (by decide) (fun c_1 => (z_abs c_1 (by decide)).elim) (fun _ => ?_)
  refine lv_aload_n hx hb dX11_checkpoint_7 rfl (lv_at hl 0 rfl) ?_
  refine lv_iconst (v := 3) hx hb dX11_checkpoint_8 (by decide) ?_
  refine zwV (As := [.int 3]) (rest := []) (C := RX11) (n := 1) (wr := []) ⟨hx, hb, hml, hown, ht⟩ (k_X11_refuse l D _ a 3 (by first | decide | omega)) (zgV ml_X11_87 im_X11_refuse se_X11_refuse in_X11 co_X11_refuse) rfl rfl (by decide +kernel) ⟨Nat.le_of_ble_eq_true rfl, Nat.le_of_ble_eq_true rfl⟩ hK hP hD hS hA [0, 1] [] rfl rfl rfl rfl (by decide) 0 rfl rfl rfl rfl hl.1 rfl (Nat.le_of_ble_eq_true rfl) dX11_checkpoint_9 ⟨Nat.le_of_ble_eq_true rfl, Nat.le_of_ble_eq_true rfl⟩ (fun r_4 u_3 H locs hw hP hD hS => ?_)
  have hP : va_P D vwCl [] H := hP
  have hD : va_D A [] := hD
  subst hw
  have hP9 := hP.sub (ws' := []) [] rfl
  have hD9 := hD.sub (ws' := []) [] (by decide) rfl
  refine W.widen (k := 0) (n := 0) (Nat.le_of_ble_eq_true rfl) (Nat.le_of_ble_eq_true rfl) ?_
  exact W.iret (v := (-1)) hx hb hr (fun t ht hW => ⟨⟨(-1), (), rfl, rfl, by rw [ht]; exact hP9, va_K.moved hW.alike hK, hD9⟩, hS.F ht⟩) hS.2.2 dX11_checkpoint_12
set_option maxHeartbeats 4000000 in
set_option maxRecDepth 100000 in
theorem k_X11_crash (l : Launch) (D : va_G) (sz : Nat) (a : Nat → Nat)  : Met l yX11_crash (wz yX11_crash cX11_crash 2 (some .int)) { frames := 1, cells := 0, slots := 0, locals := 60 } (va_Pc [.ref (a 0)] (zW D sz [((a 0), .inr (11, [.ref (a 1), .ref (a 2), .ref (a 3), .ref (a 4), .ref (a 5), .ref (a 6), .ref (a 7), .ref (a 8), .ref (a 9), .ref (a 10), .ref (a 11), .ref (a 12), .int 0])), ((a 9), .inl (D.1 13, 6, .inl (fun _ => 0)))])) (va_Qi (fun r (_ : Unit) => r = (-1)) (fun u t => zB D (va_A [((a 0), .inr (11, [.ref (a 1), .ref (a 2), .ref (a 3), .ref (a 4), .ref (a 5), .ref (a 6), .ref (a 7), .ref (a 8), .ref (a 9), .ref (a 10), .ref (a 11), .ref (a 12), .int 0])), ((a 9), .inl (D.1 13, 6, .inl (fun _ => 0)))] sz) ((fun (_ : Unit) => []) u) t) (va_A [((a 0), .inr (11, [.ref (a 1), .ref (a 2), .ref (a 3), .ref (a 4), .ref (a 5), .ref (a 6), .ref (a 7), .ref (a 8), .ref (a 9), .ref (a 10), .ref (a 11), .ref (a 12), .int 0])), ((a 9), .inl (D.1 13, 6, .inl (fun _ => 0)))] sz)) 0 0 (va_A [((a 0), .inr (11, [.ref (a 1), .ref (a 2), .ref (a 3), .ref (a 4), .ref (a 5), .ref (a 6), .ref (a 7), .ref (a 8), .ref (a 9), .ref (a 10), .ref (a 11), .ref (a 12), .int 0])), ((a 9), .inl (D.1 13, 6, .inl (fun _ => 0)))] sz) := by
  refine Met.ofW (cc := cX11_crash) (maxL := 2) (ret := (some .int)) (by decide) rfl ?_
  intro p e s m args below meth c s₁ B hml hv
  obtain ⟨rfl, hsz, hP, hK, hD0⟩ := hv
  have hx := B.exec
  have hb := B.bytes
  have hr := B.returns
  have hts := atoms_spec (ws := wz yX11_crash cX11_crash 2 (some .int)) B.pre
  have ht : ∀ w ∈ lw_gd, w.before _ s = true := fun w h => hts w (List.mem_cons_of_mem _ h)
  have hown : s.vm.findClass RX11 = some m.cls := findClass_of_methodNamed B.named
  have hlocks := B.notSynchronized
  subst hsz
  have hD := hD0.self (sz := s.heap.size)
  generalize hAe : va_A [((a 0), .inr (11, [.ref (a 1), .ref (a 2), .ref (a 3), .ref (a 4), .ref (a 5), .ref (a 6), .ref (a 7), .ref (a 8), .ref (a 9), .ref (a 10), .ref (a 11), .ref (a 12), .int 0])), ((a 9), .inl (D.1 13, 6, .inl (fun _ => 0)))] s.heap.size = A at hD ⊢
  have hA : ∀ q : Nat, s.heap.size ≤ q → A q := fun q h => by rw [← hAe]; exact Or.inr h
  have hS : va_S A s.heap s.heap [] := va_S.rf
  have hl := lv_entry ([.ref (a 0)]) (n := 2) (Nat.le_of_ble_eq_true rfl)
  rw [lg_entry_eq]
  generalize (lg_sl ([.ref (a 0)]) ++ List.replicate (2 - (lg_sl ([.ref (a 0)])).length) Slot.unset).toArray = ls at hl ⊢
  have hl : lv_has ls 2 [(0, .ref (a 0))] := hl
  refine lv_aload_n hx hb dX11_crash_0 rfl (lv_at hl 0 rfl) ?_
  refine va_get (D := D) (ci := 11) (v := .int 0) (C := RX11) (T := TX11) (N := 13) hx hb ht inX11 hown hK hP 0 rfl rfl 12 (by decide) (ht (.fieldLink RX11 112 "CloneVolumes" "told" "Z") fl_X11_112) (fun _ h9 => h9) rfl dX11_crash_1 ?_
  refine lv_if_ne (tgt := 13) hx hb dX11_crash_4 (by decide) (fun c_1 => (z_abs c_1 (by decide)).elim) (fun _ => ?_)
  refine lv_aload_n hx hb dX11_crash_7 rfl (lv_at hl 0 rfl) ?_
  refine lv_iconst (v := 3) hx hb dX11_crash_8 (by decide) ?_
  refine zwV (As := [.int 3]) (rest := []) (C := RX11) (n := 1) (wr := []) ⟨hx, hb, hml, hown, ht⟩ (k_X11_refuse l D _ a 3 (by first | decide | omega)) (zgV ml_X11_87 im_X11_refuse se_X11_refuse in_X11 co_X11_refuse) rfl rfl (by decide +kernel) ⟨Nat.le_of_ble_eq_true rfl, Nat.le_of_ble_eq_true rfl⟩ hK hP hD hS hA [0, 1] [] rfl rfl rfl rfl (by decide) 0 rfl rfl rfl rfl hl.1 rfl (Nat.le_of_ble_eq_true rfl) dX11_crash_9 ⟨Nat.le_of_ble_eq_true rfl, Nat.le_of_ble_eq_true rfl⟩ (fun r_4 u_3 H locs hw hP hD hS => ?_)
  have hP : va_P D vwCl [] H := hP
  have hD : va_D A [] := hD
  subst hw
  have hP9 := hP.sub (ws' := []) [] rfl
  have hD9 := hD.sub (ws' := []) [] (by decide) rfl
  refine W.widen (k := 0) (n := 0) (Nat.le_of_ble_eq_true rfl) (Nat.le_of_ble_eq_true rfl) ?_
  exact W.iret (v := (-1)) hx hb hr (fun t ht hW => ⟨⟨(-1), (), rfl, rfl, by rw [ht]; exact hP9, va_K.moved hW.alike hK, hD9⟩, hS.F ht⟩) hS.2.2 dX11_crash_12
set_option maxHeartbeats 4000000 in
set_option maxRecDepth 100000 in
theorem k_X11_chance (l : Launch) (D : va_G) (sz : Nat) (a : Nat → Nat) (p0 : Int32) : Met l yX11_chance (wz yX11_chance cX11_chance 4 (some .int)) { frames := 1, cells := 0, slots := 0, locals := 60 } (va_Pc [.ref (a 0), .int p0] (zW D sz [((a 0), .inr (11, [.ref (a 1), .ref (a 2), .ref (a 3), .ref (a 4), .ref (a 5), .ref (a 6), .ref (a 7), .ref (a 8), .ref (a 9), .ref (a 10), .ref (a 11), .ref (a 12), .int 0])), ((a 9), .inl (D.1 13, 6, .inl (fun _ => 0)))])) (va_Qi (fun r (_ : Unit) => r = (-1)) (fun u t => zB D (va_A [((a 0), .inr (11, [.ref (a 1), .ref (a 2), .ref (a 3), .ref (a 4), .ref (a 5), .ref (a 6), .ref (a 7), .ref (a 8), .ref (a 9), .ref (a 10), .ref (a 11), .ref (a 12), .int 0])), ((a 9), .inl (D.1 13, 6, .inl (fun _ => 0)))] sz) ((fun (_ : Unit) => []) u) t) (va_A [((a 0), .inr (11, [.ref (a 1), .ref (a 2), .ref (a 3), .ref (a 4), .ref (a 5), .ref (a 6), .ref (a 7), .ref (a 8), .ref (a 9), .ref (a 10), .ref (a 11), .ref (a 12), .int 0])), ((a 9), .inl (D.1 13, 6, .inl (fun _ => 0)))] sz)) 0 0 (va_A [((a 0), .inr (11, [.ref (a 1), .ref (a 2), .ref (a 3), .ref (a 4), .ref (a 5), .ref (a 6), .ref (a 7), .ref (a 8), .ref (a 9), .ref (a 10), .ref (a 11), .ref (a 12), .int 0])), ((a 9), .inl (D.1 13, 6, .inl (fun _ => 0)))] sz) := by
  refine Met.ofW (cc := cX11_chance) (maxL := 4) (ret := (some .int)) (by decide) rfl ?_
  intro p e s m args below meth c s₁ B hml hv
  obtain ⟨rfl, hsz, hP, hK, hD0⟩ := hv
  have hx := B.exec
  have hb := B.bytes
  have hr := B.returns
  have hts := atoms_spec (ws := wz yX11_chance cX11_chance 4 (some .int)) B.pre
  have ht : ∀ w ∈ lw_gd, w.before _ s = true := fun w h => hts w (List.mem_cons_of_mem _ h)
  have hown : s.vm.findClass RX11 = some m.cls := findClass_of_methodNamed B.named
  have hlocks := B.notSynchronized
  subst hsz
  have hD := hD0.self (sz := s.heap.size)
  generalize hAe : va_A [((a 0), .inr (11, [.ref (a 1), .ref (a 2), .ref (a 3), .ref (a 4), .ref (a 5), .ref (a 6), .ref (a 7), .ref (a 8), .ref (a 9), .ref (a 10), .ref (a 11), .ref (a 12), .int 0])), ((a 9), .inl (D.1 13, 6, .inl (fun _ => 0)))] s.heap.size = A at hD ⊢
  have hA : ∀ q : Nat, s.heap.size ≤ q → A q := fun q h => by rw [← hAe]; exact Or.inr h
  have hS : va_S A s.heap s.heap [] := va_S.rf
  have hl := lv_entry ([.ref (a 0), .int p0]) (n := 4) (Nat.le_of_ble_eq_true rfl)
  rw [lg_entry_eq]
  generalize (lg_sl ([.ref (a 0), .int p0]) ++ List.replicate (4 - (lg_sl ([.ref (a 0), .int p0])).length) Slot.unset).toArray = ls at hl ⊢
  have hl : lv_has ls 4 [(0, .ref (a 0)), (1, .int p0)] := hl
  refine lv_aload_n hx hb dX11_chance_0 rfl (lv_at hl 0 rfl) ?_
  refine va_get (D := D) (ci := 11) (v := .int 0) (C := RX11) (T := TX11) (N := 13) hx hb ht inX11 hown hK hP 0 rfl rfl 12 (by decide) (ht (.fieldLink RX11 112 "CloneVolumes" "told" "Z") fl_X11_112) (fun _ h9 => h9) rfl dX11_chance_1 ?_
  refine lv_if_eq (tgt := 18) hx hb dX11_chance_4 (by decide) (fun _ => ?_) (fun c_1 => (z_abs c_1 (by decide)).elim)
  refine lv_aload_n hx hb dX11_chance_18 rfl (lv_at hl 0 rfl) ?_
  refine lv_iconst (v := 3) hx hb dX11_chance_19 (by decide) ?_
  refine zwV (As := [.int 3]) (rest := []) (C := RX11) (n := 1) (wr := []) ⟨hx, hb, hml, hown, ht⟩ (k_X11_refuse l D _ a 3 (by first | decide | omega)) (zgV ml_X11_87 im_X11_refuse se_X11_refuse in_X11 co_X11_refuse) rfl rfl (by decide +kernel) ⟨Nat.le_of_ble_eq_true rfl, Nat.le_of_ble_eq_true rfl⟩ hK hP hD hS hA [0, 1] [] rfl rfl rfl rfl (by decide) 0 rfl rfl rfl rfl hl.1 rfl (Nat.le_of_ble_eq_true rfl) dX11_chance_20 ⟨Nat.le_of_ble_eq_true rfl, Nat.le_of_ble_eq_true rfl⟩ (fun r_4 u_3 H locs hw hP hD hS => ?_)
  have hP : va_P D vwCl [] H := hP
  have hD : va_D A [] := hD
  subst hw
  have hP9 := hP.sub (ws' := []) [] rfl
  have hD9 := hD.sub (ws' := []) [] (by decide) rfl
  refine W.widen (k := 0) (n := 0) (Nat.le_of_ble_eq_true rfl) (Nat.le_of_ble_eq_true rfl) ?_
  exact W.iret (v := (-1)) hx hb hr (fun t ht hW => ⟨⟨(-1), (), rfl, rfl, by rw [ht]; exact hP9, va_K.moved hW.alike hK, hD9⟩, hS.F ht⟩) hS.2.2 dX11_chance_23
set_option maxHeartbeats 4000000 in
set_option maxRecDepth 100000 in
theorem k_X11_on (l : Launch) (D : va_G) (sz : Nat) (a : Nat → Nat)  : Met l yX11_on (wz yX11_on cX11_on 2 (some .boolean)) { frames := 1, cells := 0, slots := 0, locals := 60 } (va_Pc [.ref (a 0)] (zW D sz [((a 0), .inr (11, [.ref (a 1), .ref (a 2), .ref (a 3), .ref (a 4), .ref (a 5), .ref (a 6), .ref (a 7), .ref (a 8), .ref (a 9), .ref (a 10), .ref (a 11), .ref (a 12), .int 0])), ((a 1), .inr (9, [.ref (a 20), .int 0])), ((a 9), .inl (D.1 13, 6, .inl (fun _ => 0)))])) (va_Qi (fun r (_ : Unit) => r = 0) (fun u t => zB D (va_A [((a 0), .inr (11, [.ref (a 1), .ref (a 2), .ref (a 3), .ref (a 4), .ref (a 5), .ref (a 6), .ref (a 7), .ref (a 8), .ref (a 9), .ref (a 10), .ref (a 11), .ref (a 12), .int 0])), ((a 1), .inr (9, [.ref (a 20), .int 0])), ((a 9), .inl (D.1 13, 6, .inl (fun _ => 0)))] sz) ((fun (_ : Unit) => []) u) t) (va_A [((a 0), .inr (11, [.ref (a 1), .ref (a 2), .ref (a 3), .ref (a 4), .ref (a 5), .ref (a 6), .ref (a 7), .ref (a 8), .ref (a 9), .ref (a 10), .ref (a 11), .ref (a 12), .int 0])), ((a 1), .inr (9, [.ref (a 20), .int 0])), ((a 9), .inl (D.1 13, 6, .inl (fun _ => 0)))] sz)) 0 0 (va_A [((a 0), .inr (11, [.ref (a 1), .ref (a 2), .ref (a 3), .ref (a 4), .ref (a 5), .ref (a 6), .ref (a 7), .ref (a 8), .ref (a 9), .ref (a 10), .ref (a 11), .ref (a 12), .int 0])), ((a 1), .inr (9, [.ref (a 20), .int 0])), ((a 9), .inl (D.1 13, 6, .inl (fun _ => 0)))] sz) := by
  refine Met.ofW (cc := cX11_on) (maxL := 2) (ret := (some .boolean)) (by decide) rfl ?_
  intro p e s m args below meth c s₁ B hml hv
  obtain ⟨rfl, hsz, hP, hK, hD0⟩ := hv
  have hx := B.exec
  have hb := B.bytes
  have hr := B.returns
  have hts := atoms_spec (ws := wz yX11_on cX11_on 2 (some .boolean)) B.pre
  have ht : ∀ w ∈ lw_gd, w.before _ s = true := fun w h => hts w (List.mem_cons_of_mem _ h)
  have hown : s.vm.findClass RX11 = some m.cls := findClass_of_methodNamed B.named
  have hlocks := B.notSynchronized
  subst hsz
  have hD := hD0.self (sz := s.heap.size)
  generalize hAe : va_A [((a 0), .inr (11, [.ref (a 1), .ref (a 2), .ref (a 3), .ref (a 4), .ref (a 5), .ref (a 6), .ref (a 7), .ref (a 8), .ref (a 9), .ref (a 10), .ref (a 11), .ref (a 12), .int 0])), ((a 1), .inr (9, [.ref (a 20), .int 0])), ((a 9), .inl (D.1 13, 6, .inl (fun _ => 0)))] s.heap.size = A at hD ⊢
  have hA : ∀ q : Nat, s.heap.size ≤ q → A q := fun q h => by rw [← hAe]; exact Or.inr h
  have hS : va_S A s.heap s.heap [] := va_S.rf
  have hl := lv_entry ([.ref (a 0)]) (n := 2) (Nat.le_of_ble_eq_true rfl)
  rw [lg_entry_eq]
  generalize (lg_sl ([.ref (a 0)]) ++ List.replicate (2 - (lg_sl ([.ref (a 0)])).length) Slot.unset).toArray = ls at hl ⊢
  have hl : lv_has ls 2 [(0, .ref (a 0))] := hl
  refine lv_aload_n hx hb dX11_on_0 rfl (lv_at hl 0 rfl) ?_
  refine va_get (D := D) (ci := 11) (v := .int 0) (C := RX11) (T := TX11) (N := 13) hx hb ht inX11 hown hK hP 0 rfl rfl 12 (by decide) (ht (.fieldLink RX11 112 "CloneVolumes" "told" "Z") fl_X11_112) (fun _ h9 => h9) rfl dX11_on_1 ?_
  refine lv_if_eq (tgt := 46) hx hb dX11_on_4 (by decide) (fun _ => ?_) (fun c_1 => (z_abs c_1 (by decide)).elim)
  refine lv_iconst (v := 0) hx hb dX11_on_46 (by decide) ?_
  refine lv_istore_n (lv' := [(1, .int 0), (0, .ref (a 0))]) hx hb dX11_on_47 rfl hl (by decide) rfl (fun ls hl => ?_)
  refine lv_aload_n hx hb dX11_on_48 rfl (lv_at hl 1 rfl) ?_
  refine va_get (D := D) (ci := 11) (v := .ref (a 1)) (C := RX11) (T := TX11) (N := 13) hx hb ht inX11 hown hK hP 0 rfl rfl 0 (by decide) (ht (.fieldLink RX11 12 "CloneVolumes" "tape" "LCloneVolumes$Tape;") fl_X11_12) (fun _ h9 => h9) rfl dX11_on_49 ?_
  refine lv_iconst (v := 0) hx hb dX11_on_52 (by decide) ?_
  refine va_put (D := D) (ci := 9) (v := .int 0) (ty := .int) (C := RX9) (T := TX9) (N := 2) hx hb ht inX9 tyX9 tyX9_ok nmX9 hown hK hP hD hS 1 rfl rfl 1 (by decide) (ht (.fieldLink RX11 95 "CloneVolumes$Tape" "length" "I") fl_X11_95) (fun _ h9 => h9) rfl (by decide +kernel) rfl rfl (Nat.le_of_ble_eq_true rfl) dX11_on_53 (fun H locs hP hD hS => ?_)
  have hP : va_P D vwCl [((a 0), .inr (11, [.ref (a 1), .ref (a 2), .ref (a 3), .ref (a 4), .ref (a 5), .ref (a 6), .ref (a 7), .ref (a 8), .ref (a 9), .ref (a 10), .ref (a 11), .ref (a 12), .int 0])), ((a 1), .inr (9, [.ref (a 20), .int 0])), ((a 9), .inl (D.1 13, 6, .inl (fun _ => 0)))] H := hP
  have hD : va_D A [((a 0), .inr (11, [.ref (a 1), .ref (a 2), .ref (a 3), .ref (a 4), .ref (a 5), .ref (a 6), .ref (a 7), .ref (a 8), .ref (a 9), .ref (a 10), .ref (a 11), .ref (a 12), .int 0])), ((a 1), .inr (9, [.ref (a 20), .int 0])), ((a 9), .inl (D.1 13, 6, .inl (fun _ => 0)))] := hD
  refine lv_iload_n hx hb dX11_on_56 rfl (lv_at hl 0 rfl) ?_
  refine lv_if_ne (tgt := 68) hx hb dX11_on_57 (by decide) (fun c_3 => (z_abs c_3 (by decide)).elim) (fun _ => ?_)
  refine lv_aload_n hx hb dX11_on_60 rfl (lv_at hl 1 rfl) ?_
  refine lv_iconst (v := 5) hx hb dX11_on_61 (by decide) ?_
  refine zwV (As := [.int 5]) (rest := []) (C := RX11) (n := 1) (wr := [((a 1), .inr (9, [.ref (a 20), .int 0]))]) ⟨hx, hb, hml, hown, ht⟩ (k_X11_refuse l D _ a 5 (by first | decide | omega)) (zgV ml_X11_87 im_X11_refuse se_X11_refuse in_X11 co_X11_refuse) rfl rfl (by decide +kernel) ⟨Nat.le_of_ble_eq_true rfl, Nat.le_of_ble_eq_true rfl⟩ hK hP hD hS hA [0, 2] [1] rfl rfl rfl rfl (by decide) 0 rfl rfl rfl rfl hl.1 rfl (Nat.le_of_ble_eq_true rfl) dX11_on_62 ⟨Nat.le_of_ble_eq_true rfl, Nat.le_of_ble_eq_true rfl⟩ (fun r_6 u_5 H locs hw hP hD hS => ?_)
  have hP : va_P D vwCl [((a 1), .inr (9, [.ref (a 20), .int 0]))] H := hP
  have hD : va_D A [((a 1), .inr (9, [.ref (a 20), .int 0]))] := hD
  subst hw
  refine lv_pop hx hb dX11_on_65 rfl ?_
  refine lv_iconst (v := 0) hx hb dX11_on_66 (by decide) ?_
  have hP9 := hP.sub (ws' := []) [] rfl
  have hD9 := hD.sub (ws' := []) [] (by decide) rfl
  refine W.widen (k := 0) (n := 0) (Nat.le_of_ble_eq_true rfl) (Nat.le_of_ble_eq_true rfl) ?_
  exact W.zret (v := 0) hx hb hr (by decide) (fun t ht hW => ⟨⟨0, (), rfl, rfl, by rw [ht]; exact hP9, va_K.moved hW.alike hK, hD9⟩, hS.F ht⟩) hS.2.2 dX11_on_67
set_option maxHeartbeats 4000000 in
set_option maxRecDepth 100000 in
theorem k_X11_ask (l : Launch) (D : va_G) (sz : Nat) (a : Nat → Nat)  : Met l yX11_ask (wz yX11_ask cX11_ask 2 (some .long)) { frames := 0, cells := 0, slots := 0, locals := 0 } (va_Pc [.ref (a 0)] (zW D sz [((a 0), .inr (11, [.ref (a 1), .ref (a 2), .ref (a 3), .ref (a 4), .ref (a 5), .ref (a 6), .ref (a 7), .ref (a 8), .ref (a 9), .ref (a 10), .ref (a 11), .ref (a 12), .int 0])), ((a 1), .inr (9, [.ref (a 20), .int 0]))])) (va_Ql (fun r (_ : Unit) => r = (-1000000000000000)) (fun u t => zB D (va_A [((a 0), .inr (11, [.ref (a 1), .ref (a 2), .ref (a 3), .ref (a 4), .ref (a 5), .ref (a 6), .ref (a 7), .ref (a 8), .ref (a 9), .ref (a 10), .ref (a 11), .ref (a 12), .int 0])), ((a 1), .inr (9, [.ref (a 20), .int 0]))] sz) ((fun (_ : Unit) => []) u) t) (va_A [((a 0), .inr (11, [.ref (a 1), .ref (a 2), .ref (a 3), .ref (a 4), .ref (a 5), .ref (a 6), .ref (a 7), .ref (a 8), .ref (a 9), .ref (a 10), .ref (a 11), .ref (a 12), .int 0])), ((a 1), .inr (9, [.ref (a 20), .int 0]))] sz)) 0 0 (va_A [((a 0), .inr (11, [.ref (a 1), .ref (a 2), .ref (a 3), .ref (a 4), .ref (a 5), .ref (a 6), .ref (a 7), .ref (a 8), .ref (a 9), .ref (a 10), .ref (a 11), .ref (a 12), .int 0])), ((a 1), .inr (9, [.ref (a 20), .int 0]))] sz) := by
  refine Met.ofW (cc := cX11_ask) (maxL := 2) (ret := (some .long)) (by decide) rfl ?_
  intro p e s m args below meth c s₁ B hml hv
  obtain ⟨rfl, hsz, hP, hK, hD0⟩ := hv
  have hx := B.exec
  have hb := B.bytes
  have hr := B.returns
  have hts := atoms_spec (ws := wz yX11_ask cX11_ask 2 (some .long)) B.pre
  have ht : ∀ w ∈ lw_gd, w.before _ s = true := fun w h => hts w (List.mem_cons_of_mem _ h)
  have hown : s.vm.findClass RX11 = some m.cls := findClass_of_methodNamed B.named
  have hlocks := B.notSynchronized
  subst hsz
  have hD := hD0.self (sz := s.heap.size)
  generalize hAe : va_A [((a 0), .inr (11, [.ref (a 1), .ref (a 2), .ref (a 3), .ref (a 4), .ref (a 5), .ref (a 6), .ref (a 7), .ref (a 8), .ref (a 9), .ref (a 10), .ref (a 11), .ref (a 12), .int 0])), ((a 1), .inr (9, [.ref (a 20), .int 0]))] s.heap.size = A at hD ⊢
  have hA : ∀ q : Nat, s.heap.size ≤ q → A q := fun q h => by rw [← hAe]; exact Or.inr h
  have hS : va_S A s.heap s.heap [] := va_S.rf
  have hl := lv_entry ([.ref (a 0)]) (n := 2) (Nat.le_of_ble_eq_true rfl)
  rw [lg_entry_eq]
  generalize (lg_sl ([.ref (a 0)]) ++ List.replicate (2 - (lg_sl ([.ref (a 0)])).length) Slot.unset).toArray = ls at hl ⊢
  have hl : lv_has ls 2 [(0, .ref (a 0))] := hl
  refine lv_aload_n hx hb dX11_ask_0 rfl (lv_at hl 0 rfl) ?_
  refine va_get (D := D) (ci := 11) (v := .int 0) (C := RX11) (T := TX11) (N := 13) hx hb ht inX11 hown hK hP 0 rfl rfl 12 (by decide) (ht (.fieldLink RX11 112 "CloneVolumes" "told" "Z") fl_X11_112) (fun _ h9 => h9) rfl dX11_ask_1 ?_
  refine lv_if_ne (tgt := 19) hx hb dX11_ask_4 (by decide) (fun c_1 => (z_abs c_1 (by decide)).elim) (fun _ => ?_)
  refine lv_aload_n hx hb dX11_ask_7 rfl (lv_at hl 0 rfl) ?_
  refine va_get (D := D) (ci := 11) (v := .ref (a 1)) (C := RX11) (T := TX11) (N := 13) hx hb ht inX11 hown hK hP 0 rfl rfl 0 (by decide) (ht (.fieldLink RX11 12 "CloneVolumes" "tape" "LCloneVolumes$Tape;") fl_X11_12) (fun _ h9 => h9) rfl dX11_ask_8 ?_
  refine lv_iconst (v := 0) hx hb dX11_ask_11 (by decide) ?_
  refine va_put (D := D) (ci := 9) (v := .int 0) (ty := .int) (C := RX9) (T := TX9) (N := 2) hx hb ht inX9 tyX9 tyX9_ok nmX9 hown hK hP hD hS 1 rfl rfl 1 (by decide) (ht (.fieldLink RX11 95 "CloneVolumes$Tape" "length" "I") fl_X11_95) (fun _ h9 => h9) rfl (by decide +kernel) rfl rfl (Nat.le_of_ble_eq_true rfl) dX11_ask_12 (fun H locs hP hD hS => ?_)
  have hP : va_P D vwCl [((a 0), .inr (11, [.ref (a 1), .ref (a 2), .ref (a 3), .ref (a 4), .ref (a 5), .ref (a 6), .ref (a 7), .ref (a 8), .ref (a 9), .ref (a 10), .ref (a 11), .ref (a 12), .int 0])), ((a 1), .inr (9, [.ref (a 20), .int 0]))] H := hP
  have hD : va_D A [((a 0), .inr (11, [.ref (a 1), .ref (a 2), .ref (a 3), .ref (a 4), .ref (a 5), .ref (a 6), .ref (a 7), .ref (a 8), .ref (a 9), .ref (a 10), .ref (a 11), .ref (a 12), .int 0])), ((a 1), .inr (9, [.ref (a 20), .int 0]))] := hD
  refine lv_ldc2 (own := RX11) (v := (-1000000000000000)) hx hb hown (ht _ cl_X11_319) dX11_ask_15 ?_
  have hP9 := hP.sub (ws' := []) [] rfl
  have hD9 := hD.sub (ws' := []) [] (by decide) rfl
  refine W.widen (k := 0) (n := 0) (Nat.le_of_ble_eq_true rfl) (Nat.le_of_ble_eq_true rfl) ?_
  exact W.lret (v := (-1000000000000000)) hx hb hr (fun t ht hW => ⟨⟨(-1000000000000000), (), rfl, rfl, by rw [ht]; exact hP9, va_K.moved hW.alike hK, hD9⟩, hS.F ht⟩) hS.2.2 dX11_ask_18
