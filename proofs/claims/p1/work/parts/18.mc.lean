theorem fl_X12_263 : Cond.fieldLink RX12 263 "CloneVolumesModel" "taped" "I" ∈ lw_gd := zm (List.mem_of_getElem? (i := 1539) (by decide +kernel)) rfl
theorem fl_X12_173 : Cond.fieldLink RX12 173 "CloneVolumesModel" "seeded" "J" ∈ lw_gd := zm (List.mem_of_getElem? (i := 1616) (by decide +kernel)) rfl
theorem ml_X12_671 : Cond.methodLink RX12 671 yX12_isRefused ∈ lw_gd := zm (List.mem_of_getElem? (i := 2480) (by decide +kernel)) rfl
theorem im_X12_isRefused : Cond.instanceMethod yX12_isRefused ∈ lw_gd := zm (List.mem_of_getElem? (i := 2482) (by decide +kernel)) rfl
theorem se_X12_isRefused : Cond.selects RX12 yX12_isRefused yX12_isRefused ∈ lw_gd := zm (List.mem_of_getElem? (i := 175) (by decide +kernel)) rfl
theorem co_X12_isRefused : Cond.code yX12_isRefused cX12_isRefused 2 (some .boolean) ∈ lw_gd := zm (List.mem_of_getElem? (i := 2483) (by decide +kernel)) rfl
theorem ml_X12_399 : Cond.methodLink RX12 399 yX12_refuses ∈ lw_gd := zm (List.mem_of_getElem? (i := 2066) (by decide +kernel)) rfl
theorem im_X12_refuses : Cond.instanceMethod yX12_refuses ∈ lw_gd := zm (List.mem_of_getElem? (i := 2068) (by decide +kernel)) rfl
theorem se_X12_refuses : Cond.selects RX12 yX12_refuses yX12_refuses ∈ lw_gd := zm (List.mem_of_getElem? (i := 107) (by decide +kernel)) rfl
theorem co_X12_refuses : Cond.code yX12_refuses cX12_refuses 2 (some .int) ∈ lw_gd := zm (List.mem_of_getElem? (i := 2069) (by decide +kernel)) rfl
theorem ml_X12_665 : Cond.methodLink RX12 665 yX12_freeNumber ∈ lw_gd := zm (List.mem_of_getElem? (i := 2456) (by decide +kernel)) rfl
theorem im_X12_freeNumber : Cond.instanceMethod yX12_freeNumber ∈ lw_gd := zm (List.mem_of_getElem? (i := 2458) (by decide +kernel)) rfl
theorem se_X12_freeNumber : Cond.selects RX12 yX12_freeNumber yX12_freeNumber ∈ lw_gd := zm (List.mem_of_getElem? (i := 173) (by decide +kernel)) rfl
theorem co_X12_freeNumber : Cond.code yX12_freeNumber cX12_freeNumber 2 (some .int) ∈ lw_gd := zm (List.mem_of_getElem? (i := 2459) (by decide +kernel)) rfl
theorem ml_X12_835 : Cond.methodLink RX12 835 yX12_isImage ∈ lw_gd := zm (List.mem_of_getElem? (i := 2563) (by decide +kernel)) rfl
theorem im_X12_isImage : Cond.instanceMethod yX12_isImage ∈ lw_gd := zm (List.mem_of_getElem? (i := 2565) (by decide +kernel)) rfl
theorem se_X12_isImage : Cond.selects RX12 yX12_isImage yX12_isImage ∈ lw_gd := zm (List.mem_of_getElem? (i := 187) (by decide +kernel)) rfl
theorem co_X12_isImage : Cond.code yX12_isImage cX12_isImage 4 (some .boolean) ∈ lw_gd := zm (List.mem_of_getElem? (i := 2566) (by decide +kernel)) rfl
theorem cl_X12_771 : Cond.constantLong RX12 771 (-1000000000000000) ∈ lw_gd := zm (List.mem_of_getElem? (i := 2509) (by decide +kernel)) rfl
theorem dX12_ask_0 : decode cX12_ask 0 = .ok (.aload_n 0, 1) := by decide +kernel
theorem dX12_ask_1 : decode cX12_ask 1 = .ok (.getfield 406, 3) := by decide +kernel
theorem dX12_ask_4 : decode cX12_ask 4 = .ok (.ifCond .ne 12, 3) := by decide +kernel
theorem dX12_ask_7 : decode cX12_ask 7 = .ok (.aload_n 0, 1) := by decide +kernel
theorem dX12_ask_8 : decode cX12_ask 8 = .ok (.iconst 0, 1) := by decide +kernel
theorem dX12_ask_9 : decode cX12_ask 9 = .ok (.putfield 263, 3) := by decide +kernel
theorem dX12_ask_12 : decode cX12_ask 12 = .ok (.ldc2_w 771, 3) := by decide +kernel
theorem dX12_ask_15 : decode cX12_ask 15 = .ok (.lreturn, 1) := by decide +kernel
theorem dX12_chance_0 : decode cX12_chance 0 = .ok (.aload_n 0, 1) := by decide +kernel
theorem dX12_chance_1 : decode cX12_chance 1 = .ok (.getfield 406, 3) := by decide +kernel
theorem dX12_chance_4 : decode cX12_chance 4 = .ok (.ifCond .eq 15, 3) := by decide +kernel
theorem dX12_chance_19 : decode cX12_chance 19 = .ok (.aload_n 0, 1) := by decide +kernel
theorem dX12_chance_20 : decode cX12_chance 20 = .ok (.iconst 3, 1) := by decide +kernel
theorem dX12_chance_21 : decode cX12_chance 21 = .ok (.invokevirtual 399, 3) := by decide +kernel
theorem dX12_chance_24 : decode cX12_chance 24 = .ok (.ireturn, 1) := by decide +kernel
theorem dX12_checkpoint_0 : decode cX12_checkpoint 0 = .ok (.aload_n 0, 1) := by decide +kernel
theorem dX12_checkpoint_1 : decode cX12_checkpoint 1 = .ok (.getfield 406, 3) := by decide +kernel
theorem dX12_checkpoint_4 : decode cX12_checkpoint 4 = .ok (.ifCond .ne 9, 3) := by decide +kernel
theorem dX12_checkpoint_7 : decode cX12_checkpoint 7 = .ok (.aload_n 0, 1) := by decide +kernel
theorem dX12_checkpoint_8 : decode cX12_checkpoint 8 = .ok (.iconst 3, 1) := by decide +kernel
theorem dX12_checkpoint_9 : decode cX12_checkpoint 9 = .ok (.invokevirtual 399, 3) := by decide +kernel
theorem dX12_checkpoint_12 : decode cX12_checkpoint 12 = .ok (.ireturn, 1) := by decide +kernel
theorem dX12_copy_0 : decode cX12_copy 0 = .ok (.aload_n 0, 1) := by decide +kernel
theorem dX12_copy_1 : decode cX12_copy 1 = .ok (.invokevirtual 665, 3) := by decide +kernel
theorem dX12_copy_4 : decode cX12_copy 4 = .ok (.istore_n 2, 1) := by decide +kernel
theorem dX12_copy_5 : decode cX12_copy 5 = .ok (.aload_n 0, 1) := by decide +kernel
theorem dX12_copy_6 : decode cX12_copy 6 = .ok (.iload_n 1, 1) := by decide +kernel
theorem dX12_copy_7 : decode cX12_copy 7 = .ok (.i2l, 1) := by decide +kernel
theorem dX12_copy_8 : decode cX12_copy 8 = .ok (.invokevirtual 571, 3) := by decide +kernel
theorem dX12_copy_11 : decode cX12_copy 11 = .ok (.ifCond .eq 9, 3) := by decide +kernel
theorem dX12_copy_20 : decode cX12_copy 20 = .ok (.aload_n 0, 1) := by decide +kernel
theorem dX12_copy_21 : decode cX12_copy 21 = .ok (.iconst 2, 1) := by decide +kernel
theorem dX12_copy_22 : decode cX12_copy 22 = .ok (.invokevirtual 399, 3) := by decide +kernel
theorem dX12_copy_25 : decode cX12_copy 25 = .ok (.ireturn, 1) := by decide +kernel
theorem dX12_crash_0 : decode cX12_crash 0 = .ok (.aload_n 0, 1) := by decide +kernel
theorem dX12_crash_1 : decode cX12_crash 1 = .ok (.getfield 406, 3) := by decide +kernel
theorem dX12_crash_4 : decode cX12_crash 4 = .ok (.ifCond .ne 9, 3) := by decide +kernel
theorem dX12_crash_7 : decode cX12_crash 7 = .ok (.aload_n 0, 1) := by decide +kernel
theorem dX12_crash_8 : decode cX12_crash 8 = .ok (.iconst 3, 1) := by decide +kernel
theorem dX12_crash_9 : decode cX12_crash 9 = .ok (.invokevirtual 399, 3) := by decide +kernel
theorem dX12_crash_12 : decode cX12_crash 12 = .ok (.ireturn, 1) := by decide +kernel
theorem dX12_drop_0 : decode cX12_drop 0 = .ok (.aload_n 0, 1) := by decide +kernel
theorem dX12_drop_1 : decode cX12_drop 1 = .ok (.iload_n 1, 1) := by decide +kernel
theorem dX12_drop_2 : decode cX12_drop 2 = .ok (.i2l, 1) := by decide +kernel
theorem dX12_drop_3 : decode cX12_drop 3 = .ok (.invokevirtual 571, 3) := by decide +kernel
theorem dX12_drop_6 : decode cX12_drop 6 = .ok (.ifCond .ne 9, 3) := by decide +kernel
theorem dX12_drop_9 : decode cX12_drop 9 = .ok (.aload_n 0, 1) := by decide +kernel
theorem dX12_drop_10 : decode cX12_drop 10 = .ok (.iconst 2, 1) := by decide +kernel
theorem dX12_drop_11 : decode cX12_drop 11 = .ok (.invokevirtual 399, 3) := by decide +kernel
theorem dX12_drop_14 : decode cX12_drop 14 = .ok (.ireturn, 1) := by decide +kernel
theorem dX12_end_0 : decode cX12_end 0 = .ok (.iload_n 1, 1) := by decide +kernel
theorem dX12_end_1 : decode cX12_end 1 = .ok (.ifCond .lt 11, 3) := by decide +kernel
theorem dX12_end_4 : decode cX12_end 4 = .ok (.iload_n 1, 1) := by decide +kernel
theorem dX12_end_5 : decode cX12_end 5 = .ok (.aload_n 0, 1) := by decide +kernel
theorem dX12_end_6 : decode cX12_end 6 = .ok (.getfield 263, 3) := by decide +kernel
theorem dX12_end_9 : decode cX12_end 9 = .ok (.if_icmp .le 15, 3) := by decide +kernel
theorem dX12_end_12 : decode cX12_end 12 = .ok (.aload_n 0, 1) := by decide +kernel
theorem dX12_end_13 : decode cX12_end 13 = .ok (.getfield 17, 3) := by decide +kernel
theorem dX12_end_16 : decode cX12_end 16 = .ok (.iconst 0, 1) := by decide +kernel
theorem dX12_end_17 : decode cX12_end 17 = .ok (.dup2, 1) := by decide +kernel
theorem dX12_end_18 : decode cX12_end 18 = .ok (.iaload, 1) := by decide +kernel
theorem dX12_end_19 : decode cX12_end 19 = .ok (.iconst 1, 1) := by decide +kernel
theorem dX12_end_20 : decode cX12_end 20 = .ok (.iadd, 1) := by decide +kernel
theorem dX12_end_21 : decode cX12_end 21 = .ok (.iastore, 1) := by decide +kernel
theorem dX12_end_22 : decode cX12_end 22 = .ok (.iconst 0, 1) := by decide +kernel
theorem dX12_end_23 : decode cX12_end 23 = .ok (.ireturn, 1) := by decide +kernel
theorem dX12_end_24 : decode cX12_end 24 = .ok (.aload_n 0, 1) := by decide +kernel
theorem dX12_end_25 : decode cX12_end 25 = .ok (.iload_n 1, 1) := by decide +kernel
theorem dX12_end_26 : decode cX12_end 26 = .ok (.putfield 263, 3) := by decide +kernel
theorem dX12_end_29 : decode cX12_end 29 = .ok (.iconst 1, 1) := by decide +kernel
theorem dX12_end_30 : decode cX12_end 30 = .ok (.ireturn, 1) := by decide +kernel
theorem dX12_isRefused_0 : decode cX12_isRefused 0 = .ok (.aload_n 0, 1) := by decide +kernel
theorem dX12_isRefused_1 : decode cX12_isRefused 1 = .ok (.getfield 17, 3) := by decide +kernel
theorem dX12_isRefused_4 : decode cX12_isRefused 4 = .ok (.iload_n 1, 1) := by decide +kernel
theorem dX12_isRefused_5 : decode cX12_isRefused 5 = .ok (.dup2, 1) := by decide +kernel
theorem dX12_isRefused_6 : decode cX12_isRefused 6 = .ok (.iaload, 1) := by decide +kernel
theorem dX12_isRefused_7 : decode cX12_isRefused 7 = .ok (.iconst 1, 1) := by decide +kernel
theorem dX12_isRefused_8 : decode cX12_isRefused 8 = .ok (.iadd, 1) := by decide +kernel
theorem dX12_isRefused_9 : decode cX12_isRefused 9 = .ok (.iastore, 1) := by decide +kernel
theorem dX12_isRefused_10 : decode cX12_isRefused 10 = .ok (.iconst 0, 1) := by decide +kernel
theorem dX12_isRefused_11 : decode cX12_isRefused 11 = .ok (.ireturn, 1) := by decide +kernel
theorem dX12_on_0 : decode cX12_on 0 = .ok (.aload_n 0, 1) := by decide +kernel
theorem dX12_on_1 : decode cX12_on 1 = .ok (.getfield 263, 3) := by decide +kernel
theorem dX12_on_4 : decode cX12_on 4 = .ok (.istore_n 1, 1) := by decide +kernel
theorem dX12_on_5 : decode cX12_on 5 = .ok (.aload_n 0, 1) := by decide +kernel
theorem dX12_on_6 : decode cX12_on 6 = .ok (.iconst 0, 1) := by decide +kernel
theorem dX12_on_7 : decode cX12_on 7 = .ok (.putfield 263, 3) := by decide +kernel
theorem dX12_on_10 : decode cX12_on 10 = .ok (.aload_n 0, 1) := by decide +kernel
theorem dX12_on_11 : decode cX12_on 11 = .ok (.iload_n 1, 1) := by decide +kernel
theorem dX12_on_12 : decode cX12_on 12 = .ok (.invokevirtual 835, 3) := by decide +kernel
theorem dX12_on_15 : decode cX12_on 15 = .ok (.ifCond .ne 9, 3) := by decide +kernel
theorem dX12_on_18 : decode cX12_on 18 = .ok (.aload_n 0, 1) := by decide +kernel
theorem dX12_on_19 : decode cX12_on 19 = .ok (.iconst 5, 1) := by decide +kernel
theorem dX12_on_20 : decode cX12_on 20 = .ok (.invokevirtual 671, 3) := by decide +kernel
theorem dX12_on_23 : decode cX12_on 23 = .ok (.ireturn, 1) := by decide +kernel
theorem dX12_put_0 : decode cX12_put 0 = .ok (.aload_n 0, 1) := by decide +kernel
theorem dX12_put_1 : decode cX12_put 1 = .ok (.iload_n 1, 1) := by decide +kernel
theorem dX12_put_2 : decode cX12_put 2 = .ok (.i2l, 1) := by decide +kernel
theorem dX12_put_3 : decode cX12_put 3 = .ok (.invokevirtual 571, 3) := by decide +kernel
theorem dX12_put_6 : decode cX12_put 6 = .ok (.ifCond .eq 27, 3) := by decide +kernel
theorem dX12_put_33 : decode cX12_put 33 = .ok (.aload_n 0, 1) := by decide +kernel
theorem dX12_put_34 : decode cX12_put 34 = .ok (.iconst 2, 1) := by decide +kernel
theorem dX12_put_35 : decode cX12_put 35 = .ok (.invokevirtual 399, 3) := by decide +kernel
theorem dX12_put_38 : decode cX12_put 38 = .ok (.ireturn, 1) := by decide +kernel
theorem dX12_refuses_0 : decode cX12_refuses 0 = .ok (.aload_n 0, 1) := by decide +kernel
theorem dX12_refuses_1 : decode cX12_refuses 1 = .ok (.getfield 17, 3) := by decide +kernel
theorem dX12_refuses_4 : decode cX12_refuses 4 = .ok (.iload_n 1, 1) := by decide +kernel
theorem dX12_refuses_5 : decode cX12_refuses 5 = .ok (.dup2, 1) := by decide +kernel
theorem dX12_refuses_6 : decode cX12_refuses 6 = .ok (.iaload, 1) := by decide +kernel
theorem dX12_refuses_7 : decode cX12_refuses 7 = .ok (.iconst 1, 1) := by decide +kernel
theorem dX12_refuses_8 : decode cX12_refuses 8 = .ok (.iadd, 1) := by decide +kernel
theorem dX12_refuses_9 : decode cX12_refuses 9 = .ok (.iastore, 1) := by decide +kernel
theorem dX12_refuses_10 : decode cX12_refuses 10 = .ok (.iconst (-1), 1) := by decide +kernel
theorem dX12_refuses_11 : decode cX12_refuses 11 = .ok (.ireturn, 1) := by decide +kernel
theorem dX12_remove_0 : decode cX12_remove 0 = .ok (.aload_n 0, 1) := by decide +kernel
theorem dX12_remove_1 : decode cX12_remove 1 = .ok (.iload_n 1, 1) := by decide +kernel
theorem dX12_remove_2 : decode cX12_remove 2 = .ok (.i2l, 1) := by decide +kernel
theorem dX12_remove_3 : decode cX12_remove 3 = .ok (.invokevirtual 571, 3) := by decide +kernel
theorem dX12_remove_6 : decode cX12_remove 6 = .ok (.ifCond .ne 9, 3) := by decide +kernel
theorem dX12_remove_9 : decode cX12_remove 9 = .ok (.aload_n 0, 1) := by decide +kernel
theorem dX12_remove_10 : decode cX12_remove 10 = .ok (.iconst 2, 1) := by decide +kernel
theorem dX12_remove_11 : decode cX12_remove 11 = .ok (.invokevirtual 399, 3) := by decide +kernel
theorem dX12_remove_14 : decode cX12_remove 14 = .ok (.ireturn, 1) := by decide +kernel
theorem dX12_see_0 : decode cX12_see 0 = .ok (.aload_n 0, 1) := by decide +kernel
theorem dX12_see_1 : decode cX12_see 1 = .ok (.getfield 263, 3) := by decide +kernel
theorem dX12_see_4 : decode cX12_see 4 = .ok (.istore_n 1, 1) := by decide +kernel
theorem dX12_see_5 : decode cX12_see 5 = .ok (.aload_n 0, 1) := by decide +kernel
theorem dX12_see_6 : decode cX12_see 6 = .ok (.iconst 0, 1) := by decide +kernel
theorem dX12_see_7 : decode cX12_see 7 = .ok (.putfield 263, 3) := by decide +kernel
theorem dX12_see_10 : decode cX12_see 10 = .ok (.iload_n 1, 1) := by decide +kernel
theorem dX12_see_11 : decode cX12_see 11 = .ok (.ifCond .le 21, 3) := by decide +kernel
theorem dX12_see_32 : decode cX12_see 32 = .ok (.iconst 0, 1) := by decide +kernel
theorem dX12_see_33 : decode cX12_see 33 = .ok (.istore_n 2, 1) := by decide +kernel
theorem dX12_see_34 : decode cX12_see 34 = .ok (.iconst 0, 1) := by decide +kernel
theorem dX12_see_35 : decode cX12_see 35 = .ok (.istore_n 3, 1) := by decide +kernel
theorem dX12_see_36 : decode cX12_see 36 = .ok (.iload_n 3, 1) := by decide +kernel
theorem dX12_see_37 : decode cX12_see 37 = .ok (.iload_n 1, 1) := by decide +kernel
theorem dX12_see_38 : decode cX12_see 38 = .ok (.if_icmp .ge 71, 3) := by decide +kernel
theorem dX12_see_109 : decode cX12_see 109 = .ok (.iload_n 2, 1) := by decide +kernel
theorem dX12_see_110 : decode cX12_see 110 = .ok (.ifCond .ne 9, 3) := by decide +kernel
theorem dX12_see_113 : decode cX12_see 113 = .ok (.aload_n 0, 1) := by decide +kernel
theorem dX12_see_114 : decode cX12_see 114 = .ok (.iconst 1, 1) := by decide +kernel
theorem dX12_see_115 : decode cX12_see 115 = .ok (.invokevirtual 399, 3) := by decide +kernel
theorem dX12_see_118 : decode cX12_see 118 = .ok (.ireturn, 1) := by decide +kernel
theorem dX12_seed_0 : decode cX12_seed 0 = .ok (.iload_n 1, 1) := by decide +kernel
theorem dX12_seed_1 : decode cX12_seed 1 = .ok (.ifCond .ge 9, 3) := by decide +kernel
theorem dX12_seed_4 : decode cX12_seed 4 = .ok (.aload_n 0, 1) := by decide +kernel
theorem dX12_seed_5 : decode cX12_seed 5 = .ok (.iconst 5, 1) := by decide +kernel
theorem dX12_seed_6 : decode cX12_seed 6 = .ok (.invokevirtual 671, 3) := by decide +kernel
theorem dX12_seed_9 : decode cX12_seed 9 = .ok (.ireturn, 1) := by decide +kernel
theorem dX12_seed_10 : decode cX12_seed 10 = .ok (.aload_n 0, 1) := by decide +kernel
theorem dX12_seed_11 : decode cX12_seed 11 = .ok (.iload_n 1, 1) := by decide +kernel
theorem dX12_seed_12 : decode cX12_seed 12 = .ok (.i2l, 1) := by decide +kernel
theorem dX12_seed_13 : decode cX12_seed 13 = .ok (.putfield 173, 3) := by decide +kernel
theorem dX12_seed_16 : decode cX12_seed 16 = .ok (.iconst 1, 1) := by decide +kernel
theorem dX12_seed_17 : decode cX12_seed 17 = .ok (.ireturn, 1) := by decide +kernel
theorem dX12_undo_0 : decode cX12_undo 0 = .ok (.aload_n 0, 1) := by decide +kernel
theorem dX12_undo_1 : decode cX12_undo 1 = .ok (.getfield 416, 3) := by decide +kernel
theorem dX12_undo_4 : decode cX12_undo 4 = .ok (.ifCond .ne 15, 3) := by decide +kernel
theorem dX12_undo_7 : decode cX12_undo 7 = .ok (.aload_n 0, 1) := by decide +kernel
theorem dX12_undo_8 : decode cX12_undo 8 = .ok (.getfield 17, 3) := by decide +kernel
theorem dX12_undo_11 : decode cX12_undo 11 = .ok (.iconst 4, 1) := by decide +kernel
theorem dX12_undo_12 : decode cX12_undo 12 = .ok (.dup2, 1) := by decide +kernel
theorem dX12_undo_13 : decode cX12_undo 13 = .ok (.iaload, 1) := by decide +kernel
theorem dX12_undo_14 : decode cX12_undo 14 = .ok (.iconst 1, 1) := by decide +kernel
theorem dX12_undo_15 : decode cX12_undo 15 = .ok (.iadd, 1) := by decide +kernel
theorem dX12_undo_16 : decode cX12_undo 16 = .ok (.iastore, 1) := by decide +kernel
theorem dX12_undo_17 : decode cX12_undo 17 = .ok (.iconst 0, 1) := by decide +kernel
theorem dX12_undo_18 : decode cX12_undo 18 = .ok (.ireturn, 1) := by decide +kernel
set_option maxHeartbeats 4000000 in
set_option maxRecDepth 100000 in
theorem k_X12_refuses (l : Launch) (D : va_G) (sz : Nat) (a : Nat → Nat) (p0 : Int32) (h_1 : 0 ≤ p0.toInt ∧ p0.toInt < 6) : Met l yX12_refuses (wz yX12_refuses cX12_refuses 2 (some .int)) { frames := 0, cells := 0, slots := 0, locals := 0 } (va_Pc [.ref (a 200), .int p0] (zW D sz [((a 200), .inr (12, mO a 0 0 0 0 0 0 0 (-1) 0 0 1 0)), ((a 9), .inl (D.1 13, 6, .inl (fun _ => 0)))])) (va_Qi (fun r (_ : Unit) => r = (-1)) (fun u t => zB D (va_A [((a 200), .inr (12, mO a 0 0 0 0 0 0 0 (-1) 0 0 1 0)), ((a 9), .inl (D.1 13, 6, .inl (fun _ => 0)))] sz) ((fun (_ : Unit) => []) u) t) (va_A [((a 200), .inr (12, mO a 0 0 0 0 0 0 0 (-1) 0 0 1 0)), ((a 9), .inl (D.1 13, 6, .inl (fun _ => 0)))] sz)) 0 0 (va_A [((a 200), .inr (12, mO a 0 0 0 0 0 0 0 (-1) 0 0 1 0)), ((a 9), .inl (D.1 13, 6, .inl (fun _ => 0)))] sz) := by
  refine Met.ofW (cc := cX12_refuses) (maxL := 2) (ret := (some .int)) (by decide) rfl ?_
  intro p e s m args below meth c s₁ B hml hv
  obtain ⟨rfl, hsz, hP, hK, hD0⟩ := hv
  have hx := B.exec
  have hb := B.bytes
  have hr := B.returns
  have hts := atoms_spec (ws := wz yX12_refuses cX12_refuses 2 (some .int)) B.pre
  have ht : ∀ w ∈ lw_gd, w.before _ s = true := fun w h => hts w (List.mem_cons_of_mem _ h)
  have hown : s.vm.findClass RX12 = some m.cls := findClass_of_methodNamed B.named
  have hlocks := B.notSynchronized
  subst hsz
  have hD := hD0.self (sz := s.heap.size)
  generalize hAe : va_A [((a 200), .inr (12, mO a 0 0 0 0 0 0 0 (-1) 0 0 1 0)), ((a 9), .inl (D.1 13, 6, .inl (fun _ => 0)))] s.heap.size = A at hD ⊢
  have hA : ∀ q : Nat, s.heap.size ≤ q → A q := fun q h => by rw [← hAe]; exact Or.inr h
  have hS : va_S A s.heap s.heap [] := va_S.rf
  have hl := lv_entry ([.ref (a 200), .int p0]) (n := 2) (Nat.le_of_ble_eq_true rfl)
  rw [lg_entry_eq]
  generalize (lg_sl ([.ref (a 200), .int p0]) ++ List.replicate (2 - (lg_sl ([.ref (a 200), .int p0])).length) Slot.unset).toArray = ls at hl ⊢
  have hl : lv_has ls 2 [(0, .ref (a 200)), (1, .int p0)] := hl
  refine lv_aload_n hx hb dX12_refuses_0 rfl (lv_at hl 0 rfl) ?_
  refine va_get (D := D) (ci := 12) (v := .ref (a 9)) (C := RX12) (T := TX12) (N := 116) hx hb ht inX12 hown hK hP 0 rfl rfl 9 (by decide) (ht (.fieldLink RX12 17 "CloneVolumesModel" "refused" "[I") fl_X12_17) (fun _ h9 => h9) rfl dX12_refuses_1 ?_
  refine lv_iload_n hx hb dX12_refuses_4 rfl (lv_at hl 1 rfl) ?_
  refine lv_dup2_11 hx hb dX12_refuses_5 rfl rfl ?_
  refine va_iald hx hb hK hP 1 0 rfl rfl (z_in (by omega) (by omega)) dX12_refuses_6 ?_
  refine z_topi (y := 0) (by decide) ?_
  refine lv_iconst (v := 1) hx hb dX12_refuses_7 (by decide) ?_
  refine lv_iadd hx hb dX12_refuses_8 ?_
  refine z_topi (y := 1) (by decide) ?_
  refine va_iast hx hb hK hP hD hS 1 0 rfl rfl (z_in (by omega) (by omega)) dX12_refuses_9 (fun H locs hP hD hS => ?_)
  generalize hf_1 : upd _ _ _ = f_1 at hP hD
  have hP : va_P D vwCl [((a 200), .inr (12, mO a 0 0 0 0 0 0 0 (-1) 0 0 1 0)), ((a 9), .inl (D.1 13, 6, .inl f_1))] H := hP
  have hD : va_D A [((a 200), .inr (12, mO a 0 0 0 0 0 0 0 (-1) 0 0 1 0)), ((a 9), .inl (D.1 13, 6, .inl f_1))] := hD
  refine lv_iconst (v := (-1)) hx hb dX12_refuses_10 (by decide) ?_
  have hP9 := hP.sub (ws' := []) [] rfl
  have hD9 := hD.sub (ws' := []) [] (by decide) rfl
  refine W.widen (k := 0) (n := 0) (Nat.le_of_ble_eq_true rfl) (Nat.le_of_ble_eq_true rfl) ?_
  exact W.iret (v := (-1)) hx hb hr (fun t ht hW => ⟨⟨(-1), (), rfl, rfl, by rw [ht]; exact hP9, va_K.moved hW.alike hK, hD9⟩, hS.F ht⟩) hS.2.2 dX12_refuses_11
set_option maxHeartbeats 4000000 in
set_option maxRecDepth 100000 in
theorem k_X12_isRefused (l : Launch) (D : va_G) (sz : Nat) (a : Nat → Nat) (p0 : Int32) (h_1 : 0 ≤ p0.toInt ∧ p0.toInt < 6) : Met l yX12_isRefused (wz yX12_isRefused cX12_isRefused 2 (some .boolean)) { frames := 0, cells := 0, slots := 0, locals := 0 } (va_Pc [.ref (a 200), .int p0] (zW D sz [((a 200), .inr (12, mO a 0 0 0 0 0 0 0 (-1) 0 0 1 0)), ((a 9), .inl (D.1 13, 6, .inl (fun _ => 0)))])) (va_Qi (fun r (_ : Unit) => r = 0) (fun u t => zB D (va_A [((a 200), .inr (12, mO a 0 0 0 0 0 0 0 (-1) 0 0 1 0)), ((a 9), .inl (D.1 13, 6, .inl (fun _ => 0)))] sz) ((fun (_ : Unit) => []) u) t) (va_A [((a 200), .inr (12, mO a 0 0 0 0 0 0 0 (-1) 0 0 1 0)), ((a 9), .inl (D.1 13, 6, .inl (fun _ => 0)))] sz)) 0 0 (va_A [((a 200), .inr (12, mO a 0 0 0 0 0 0 0 (-1) 0 0 1 0)), ((a 9), .inl (D.1 13, 6, .inl (fun _ => 0)))] sz) := by
  refine Met.ofW (cc := cX12_isRefused) (maxL := 2) (ret := (some .boolean)) (by decide) rfl ?_
  intro p e s m args below meth c s₁ B hml hv
  obtain ⟨rfl, hsz, hP, hK, hD0⟩ := hv
  have hx := B.exec
  have hb := B.bytes
  have hr := B.returns
  have hts := atoms_spec (ws := wz yX12_isRefused cX12_isRefused 2 (some .boolean)) B.pre
  have ht : ∀ w ∈ lw_gd, w.before _ s = true := fun w h => hts w (List.mem_cons_of_mem _ h)
  have hown : s.vm.findClass RX12 = some m.cls := findClass_of_methodNamed B.named
  have hlocks := B.notSynchronized
  subst hsz
  have hD := hD0.self (sz := s.heap.size)
  generalize hAe : va_A [((a 200), .inr (12, mO a 0 0 0 0 0 0 0 (-1) 0 0 1 0)), ((a 9), .inl (D.1 13, 6, .inl (fun _ => 0)))] s.heap.size = A at hD ⊢
  have hA : ∀ q : Nat, s.heap.size ≤ q → A q := fun q h => by rw [← hAe]; exact Or.inr h
  have hS : va_S A s.heap s.heap [] := va_S.rf
  have hl := lv_entry ([.ref (a 200), .int p0]) (n := 2) (Nat.le_of_ble_eq_true rfl)
  rw [lg_entry_eq]
  generalize (lg_sl ([.ref (a 200), .int p0]) ++ List.replicate (2 - (lg_sl ([.ref (a 200), .int p0])).length) Slot.unset).toArray = ls at hl ⊢
  have hl : lv_has ls 2 [(0, .ref (a 200)), (1, .int p0)] := hl
  refine lv_aload_n hx hb dX12_isRefused_0 rfl (lv_at hl 0 rfl) ?_
  refine va_get (D := D) (ci := 12) (v := .ref (a 9)) (C := RX12) (T := TX12) (N := 116) hx hb ht inX12 hown hK hP 0 rfl rfl 9 (by decide) (ht (.fieldLink RX12 17 "CloneVolumesModel" "refused" "[I") fl_X12_17) (fun _ h9 => h9) rfl dX12_isRefused_1 ?_
  refine lv_iload_n hx hb dX12_isRefused_4 rfl (lv_at hl 1 rfl) ?_
  refine lv_dup2_11 hx hb dX12_isRefused_5 rfl rfl ?_
  refine va_iald hx hb hK hP 1 0 rfl rfl (z_in (by omega) (by omega)) dX12_isRefused_6 ?_
  refine z_topi (y := 0) (by decide) ?_
  refine lv_iconst (v := 1) hx hb dX12_isRefused_7 (by decide) ?_
  refine lv_iadd hx hb dX12_isRefused_8 ?_
  refine z_topi (y := 1) (by decide) ?_
  refine va_iast hx hb hK hP hD hS 1 0 rfl rfl (z_in (by omega) (by omega)) dX12_isRefused_9 (fun H locs hP hD hS => ?_)
  generalize hf_1 : upd _ _ _ = f_1 at hP hD
  have hP : va_P D vwCl [((a 200), .inr (12, mO a 0 0 0 0 0 0 0 (-1) 0 0 1 0)), ((a 9), .inl (D.1 13, 6, .inl f_1))] H := hP
  have hD : va_D A [((a 200), .inr (12, mO a 0 0 0 0 0 0 0 (-1) 0 0 1 0)), ((a 9), .inl (D.1 13, 6, .inl f_1))] := hD
  refine lv_iconst (v := 0) hx hb dX12_isRefused_10 (by decide) ?_
  have hP9 := hP.sub (ws' := []) [] rfl
  have hD9 := hD.sub (ws' := []) [] (by decide) rfl
  refine W.widen (k := 0) (n := 0) (Nat.le_of_ble_eq_true rfl) (Nat.le_of_ble_eq_true rfl) ?_
  exact W.zret (v := 0) hx hb hr (by decide) (fun t ht hW => ⟨⟨0, (), rfl, rfl, by rw [ht]; exact hP9, va_K.moved hW.alike hK, hD9⟩, hS.F ht⟩) hS.2.2 dX12_isRefused_11
set_option maxHeartbeats 4000000 in
set_option maxRecDepth 100000 in
theorem k_X12_end (l : Launch) (D : va_G) (sz : Nat) (a : Nat → Nat) (p0 : Int32) : Met l yX12_end (wz yX12_end cX12_end 2 (some .boolean)) { frames := 0, cells := 0, slots := 0, locals := 0 } (va_Pc [.ref (a 200), .int p0] (zW D sz [((a 200), .inr (12, mO a 0 0 0 0 0 0 0 (-1) 0 0 1 0)), ((a 9), .inl (D.1 13, 6, .inl (fun _ => 0)))])) (va_Qi (fun r (_ : Unit) => (r = 0 ∧ p0.toInt < 0) ∨ (r = 1 ∧ 0 ≤ p0.toInt ∧ p0.toInt ≤ 0) ∨ (r = 0 ∧ 0 ≤ p0.toInt ∧ 0 < p0.toInt)) (fun u t => zB D (va_A [((a 200), .inr (12, mO a 0 0 0 0 0 0 0 (-1) 0 0 1 0)), ((a 9), .inl (D.1 13, 6, .inl (fun _ => 0)))] sz) ((fun (_ : Unit) => []) u) t) (va_A [((a 200), .inr (12, mO a 0 0 0 0 0 0 0 (-1) 0 0 1 0)), ((a 9), .inl (D.1 13, 6, .inl (fun _ => 0)))] sz)) 0 0 (va_A [((a 200), .inr (12, mO a 0 0 0 0 0 0 0 (-1) 0 0 1 0)), ((a 9), .inl (D.1 13, 6, .inl (fun _ => 0)))] sz) := by
  refine Met.ofW (cc := cX12_end) (maxL := 2) (ret := (some .boolean)) (by decide) rfl ?_
  intro p e s m args below meth c s₁ B hml hv
  obtain ⟨rfl, hsz, hP, hK, hD0⟩ := hv
  have hx := B.exec
  have hb := B.bytes
  have hr := B.returns
  have hts := atoms_spec (ws := wz yX12_end cX12_end 2 (some .boolean)) B.pre
  have ht : ∀ w ∈ lw_gd, w.before _ s = true := fun w h => hts w (List.mem_cons_of_mem _ h)
  have hown : s.vm.findClass RX12 = some m.cls := findClass_of_methodNamed B.named
  have hlocks := B.notSynchronized
  subst hsz
  have hD := hD0.self (sz := s.heap.size)
  generalize hAe : va_A [((a 200), .inr (12, mO a 0 0 0 0 0 0 0 (-1) 0 0 1 0)), ((a 9), .inl (D.1 13, 6, .inl (fun _ => 0)))] s.heap.size = A at hD ⊢
  have hA : ∀ q : Nat, s.heap.size ≤ q → A q := fun q h => by rw [← hAe]; exact Or.inr h
  have hS : va_S A s.heap s.heap [] := va_S.rf
  have hl := lv_entry ([.ref (a 200), .int p0]) (n := 2) (Nat.le_of_ble_eq_true rfl)
  rw [lg_entry_eq]
  generalize (lg_sl ([.ref (a 200), .int p0]) ++ List.replicate (2 - (lg_sl ([.ref (a 200), .int p0])).length) Slot.unset).toArray = ls at hl ⊢
  have hl : lv_has ls 2 [(0, .ref (a 200)), (1, .int p0)] := hl
  refine lv_iload_n hx hb dX12_end_0 rfl (lv_at hl 1 rfl) ?_
  refine lv_if_lt (tgt := 12) hx hb dX12_end_1 (by decide) (fun c_1 => ?_) (fun c_1 => ?_)
  · have g_2 : p0.toInt < 0 := z_lt rfl (by decide) c_1
    refine lv_aload_n hx hb dX12_end_12 rfl (lv_at hl 0 rfl) ?_
    refine va_get (D := D) (ci := 12) (v := .ref (a 9)) (C := RX12) (T := TX12) (N := 116) hx hb ht inX12 hown hK hP 0 rfl rfl 9 (by decide) (ht (.fieldLink RX12 17 "CloneVolumesModel" "refused" "[I") fl_X12_17) (fun _ h9 => h9) rfl dX12_end_13 ?_
    refine lv_iconst (v := 0) hx hb dX12_end_16 (by decide) ?_
    refine lv_dup2_11 hx hb dX12_end_17 rfl rfl ?_
    refine va_iald hx hb hK hP 1 0 rfl rfl (z_in (by decide) (by decide)) dX12_end_18 ?_
    refine z_topi (y := 0) (by decide) ?_
    refine lv_iconst (v := 1) hx hb dX12_end_19 (by decide) ?_
    refine lv_iadd hx hb dX12_end_20 ?_
    refine z_topi (y := 1) (by decide) ?_
    refine va_iast hx hb hK hP hD hS 1 0 rfl rfl (z_in (by decide) (by decide)) dX12_end_21 (fun H locs hP hD hS => ?_)
    generalize hf_3 : upd _ _ _ = f_3 at hP hD
    have hP : va_P D vwCl [((a 200), .inr (12, mO a 0 0 0 0 0 0 0 (-1) 0 0 1 0)), ((a 9), .inl (D.1 13, 6, .inl f_3))] H := hP
    have hD : va_D A [((a 200), .inr (12, mO a 0 0 0 0 0 0 0 (-1) 0 0 1 0)), ((a 9), .inl (D.1 13, 6, .inl f_3))] := hD
    refine lv_iconst (v := 0) hx hb dX12_end_22 (by decide) ?_
    have hP9 := hP.sub (ws' := []) [] rfl
    have hD9 := hD.sub (ws' := []) [] (by decide) rfl
    refine W.widen (k := 0) (n := 0) (Nat.le_of_ble_eq_true rfl) (Nat.le_of_ble_eq_true rfl) ?_
    exact W.zret (v := 0) hx hb hr (by decide) (fun t ht hW => ⟨⟨0, (), rfl, Or.inl (⟨rfl, zu_lt rfl (by decide) g_2⟩), by rw [ht]; exact hP9, va_K.moved hW.alike hK, hD9⟩, hS.F ht⟩) hS.2.2 dX12_end_23
  · have g_2 : 0 ≤ p0.toInt := z_nlt rfl (by decide) c_1
    refine lv_iload_n hx hb dX12_end_4 rfl (lv_at hl 1 rfl) ?_
    refine lv_aload_n hx hb dX12_end_5 rfl (lv_at hl 0 rfl) ?_
    refine va_get (D := D) (ci := 12) (v := .int 0) (C := RX12) (T := TX12) (N := 116) hx hb ht inX12 hown hK hP 0 rfl rfl 1 (by decide) (ht (.fieldLink RX12 263 "CloneVolumesModel" "taped" "I") fl_X12_263) (fun _ h9 => h9) rfl dX12_end_6 ?_
    refine lv_icmp_le (tgt := 24) hx hb dX12_end_9 (by decide) (fun c_4 => ?_) (fun c_4 => ?_)
    · have g_5 : p0.toInt ≤ 0 := z_le rfl (by decide) c_4
      refine lv_aload_n hx hb dX12_end_24 rfl (lv_at hl 0 rfl) ?_
      refine lv_iload_n hx hb dX12_end_25 rfl (lv_at hl 1 rfl) ?_
      refine va_put (D := D) (ci := 12) (v := .int p0) (ty := .int) (C := RX12) (T := TX12) (N := 116) hx hb ht inX12 tyX12 tyX12_ok nmX12 hown hK hP hD hS 0 rfl rfl 1 (by decide) (ht (.fieldLink RX12 263 "CloneVolumesModel" "taped" "I") fl_X12_263) (fun _ h9 => h9) rfl (by decide +kernel) rfl rfl (Nat.le_of_ble_eq_true rfl) dX12_end_26 (fun H locs hP hD hS => ?_)
      have hP : va_P D vwCl [((a 200), .inr (12, mO a p0 0 0 0 0 0 0 (-1) 0 0 1 0)), ((a 9), .inl (D.1 13, 6, .inl (fun _ => 0)))] H := hP
      have hD : va_D A [((a 200), .inr (12, mO a p0 0 0 0 0 0 0 (-1) 0 0 1 0)), ((a 9), .inl (D.1 13, 6, .inl (fun _ => 0)))] := hD
      refine lv_iconst (v := 1) hx hb dX12_end_29 (by decide) ?_
      have hP9 := hP.sub (ws' := []) [] rfl
      have hD9 := hD.sub (ws' := []) [] (by decide) rfl
      refine W.widen (k := 0) (n := 0) (Nat.le_of_ble_eq_true rfl) (Nat.le_of_ble_eq_true rfl) ?_
      exact W.zret (v := 1) hx hb hr (by decide) (fun t ht hW => ⟨⟨1, (), rfl, Or.inr (Or.inl (⟨rfl, zu_ge rfl (by decide) g_2, zu_le rfl (by decide) g_5⟩)), by rw [ht]; exact hP9, va_K.moved hW.alike hK, hD9⟩, hS.F ht⟩) hS.2.2 dX12_end_30
    · have g_5 : 0 < p0.toInt := z_nle rfl (by decide) c_4
      refine lv_aload_n hx hb dX12_end_12 rfl (lv_at hl 0 rfl) ?_
      refine va_get (D := D) (ci := 12) (v := .ref (a 9)) (C := RX12) (T := TX12) (N := 116) hx hb ht inX12 hown hK hP 0 rfl rfl 9 (by decide) (ht (.fieldLink RX12 17 "CloneVolumesModel" "refused" "[I") fl_X12_17) (fun _ h9 => h9) rfl dX12_end_13 ?_
      refine lv_iconst (v := 0) hx hb dX12_end_16 (by decide) ?_
      refine lv_dup2_11 hx hb dX12_end_17 rfl rfl ?_
      refine va_iald hx hb hK hP 1 0 rfl rfl (z_in (by decide) (by decide)) dX12_end_18 ?_
      refine z_topi (y := 0) (by decide) ?_
      refine lv_iconst (v := 1) hx hb dX12_end_19 (by decide) ?_
      refine lv_iadd hx hb dX12_end_20 ?_
      refine z_topi (y := 1) (by decide) ?_
      refine va_iast hx hb hK hP hD hS 1 0 rfl rfl (z_in (by decide) (by decide)) dX12_end_21 (fun H locs hP hD hS => ?_)
      generalize hf_6 : upd _ _ _ = f_6 at hP hD
      have hP : va_P D vwCl [((a 200), .inr (12, mO a 0 0 0 0 0 0 0 (-1) 0 0 1 0)), ((a 9), .inl (D.1 13, 6, .inl f_6))] H := hP
      have hD : va_D A [((a 200), .inr (12, mO a 0 0 0 0 0 0 0 (-1) 0 0 1 0)), ((a 9), .inl (D.1 13, 6, .inl f_6))] := hD
      refine lv_iconst (v := 0) hx hb dX12_end_22 (by decide) ?_
      have hP9 := hP.sub (ws' := []) [] rfl
      have hD9 := hD.sub (ws' := []) [] (by decide) rfl
      refine W.widen (k := 0) (n := 0) (Nat.le_of_ble_eq_true rfl) (Nat.le_of_ble_eq_true rfl) ?_
      exact W.zret (v := 0) hx hb hr (by decide) (fun t ht hW => ⟨⟨0, (), rfl, Or.inr (Or.inr (⟨rfl, zu_ge rfl (by decide) g_2, zu_gt rfl (by decide) g_5⟩)), by rw [ht]; exact hP9, va_K.moved hW.alike hK, hD9⟩, hS.F ht⟩) hS.2.2 dX12_end_23
set_option maxHeartbeats 4000000 in
set_option maxRecDepth 100000 in
theorem k_X12_seed (l : Launch) (D : va_G) (sz : Nat) (a : Nat → Nat) (p0 : Int32) : Met l yX12_seed (wz yX12_seed cX12_seed 2 (some .boolean)) { frames := 1, cells := 0, slots := 0, locals := 60 } (va_Pc [.ref (a 200), .int p0] (zW D sz [((a 200), .inr (12, mO a 0 0 0 0 0 0 0 (-1) 0 0 1 0)), ((a 9), .inl (D.1 13, 6, .inl (fun _ => 0)))])) (va_Qi (fun r (_ : Unit) => (r = 1 ∧ 0 ≤ p0.toInt) ∨ (r = 0 ∧ p0.toInt < 0)) (fun u t => zB D (va_A [((a 200), .inr (12, mO a 0 0 0 0 0 0 0 (-1) 0 0 1 0)), ((a 9), .inl (D.1 13, 6, .inl (fun _ => 0)))] sz) ((fun (_ : Unit) => []) u) t) (va_A [((a 200), .inr (12, mO a 0 0 0 0 0 0 0 (-1) 0 0 1 0)), ((a 9), .inl (D.1 13, 6, .inl (fun _ => 0)))] sz)) 0 0 (va_A [((a 200), .inr (12, mO a 0 0 0 0 0 0 0 (-1) 0 0 1 0)), ((a 9), .inl (D.1 13, 6, .inl (fun _ => 0)))] sz) := by
  refine Met.ofW (cc := cX12_seed) (maxL := 2) (ret := (some .boolean)) (by decide) rfl ?_
  intro p e s m args below meth c s₁ B hml hv
  obtain ⟨rfl, hsz, hP, hK, hD0⟩ := hv
  have hx := B.exec
  have hb := B.bytes
  have hr := B.returns
  have hts := atoms_spec (ws := wz yX12_seed cX12_seed 2 (some .boolean)) B.pre
  have ht : ∀ w ∈ lw_gd, w.before _ s = true := fun w h => hts w (List.mem_cons_of_mem _ h)
  have hown : s.vm.findClass RX12 = some m.cls := findClass_of_methodNamed B.named
  have hlocks := B.notSynchronized
  subst hsz
  have hD := hD0.self (sz := s.heap.size)
  generalize hAe : va_A [((a 200), .inr (12, mO a 0 0 0 0 0 0 0 (-1) 0 0 1 0)), ((a 9), .inl (D.1 13, 6, .inl (fun _ => 0)))] s.heap.size = A at hD ⊢
  have hA : ∀ q : Nat, s.heap.size ≤ q → A q := fun q h => by rw [← hAe]; exact Or.inr h
  have hS : va_S A s.heap s.heap [] := va_S.rf
  have hl := lv_entry ([.ref (a 200), .int p0]) (n := 2) (Nat.le_of_ble_eq_true rfl)
  rw [lg_entry_eq]
  generalize (lg_sl ([.ref (a 200), .int p0]) ++ List.replicate (2 - (lg_sl ([.ref (a 200), .int p0])).length) Slot.unset).toArray = ls at hl ⊢
  have hl : lv_has ls 2 [(0, .ref (a 200)), (1, .int p0)] := hl
  refine lv_iload_n hx hb dX12_seed_0 rfl (lv_at hl 1 rfl) ?_
  refine lv_if_ge (tgt := 10) hx hb dX12_seed_1 (by decide) (fun c_1 => ?_) (fun c_1 => ?_)
  · have g_2 : 0 ≤ p0.toInt := z_le (by decide) rfl c_1
    refine lv_aload_n hx hb dX12_seed_10 rfl (lv_at hl 0 rfl) ?_
    refine lv_iload_n hx hb dX12_seed_11 rfl (lv_at hl 1 rfl) ?_
    refine lv_i2l (v := p0.toInt64) hx hb dX12_seed_12 rfl ?_
    refine va_put (D := D) (ci := 12) (v := .long p0.toInt64) (ty := .long) (C := RX12) (T := TX12) (N := 116) hx hb ht inX12 tyX12 tyX12_ok nmX12 hown hK hP hD hS 0 rfl rfl 78 (by decide) (ht (.fieldLink RX12 173 "CloneVolumesModel" "seeded" "J") fl_X12_173) (fun _ h9 => h9) rfl (by decide +kernel) rfl rfl (Nat.le_of_ble_eq_true rfl) dX12_seed_13 (fun H locs hP hD hS => ?_)
    have hP : va_P D vwCl [((a 200), .inr (12, mO a 0 0 0 0 0 0 0 (-1) 0 0 p0.toInt64 0)), ((a 9), .inl (D.1 13, 6, .inl (fun _ => 0)))] H := hP
    have hD : va_D A [((a 200), .inr (12, mO a 0 0 0 0 0 0 0 (-1) 0 0 p0.toInt64 0)), ((a 9), .inl (D.1 13, 6, .inl (fun _ => 0)))] := hD
    refine lv_iconst (v := 1) hx hb dX12_seed_16 (by decide) ?_
    have hP9 := hP.sub (ws' := []) [] rfl
    have hD9 := hD.sub (ws' := []) [] (by decide) rfl
    refine W.widen (k := 0) (n := 0) (Nat.le_of_ble_eq_true rfl) (Nat.le_of_ble_eq_true rfl) ?_
    exact W.zret (v := 1) hx hb hr (by decide) (fun t ht hW => ⟨⟨1, (), rfl, Or.inl (⟨rfl, zu_ge rfl (by decide) g_2⟩), by rw [ht]; exact hP9, va_K.moved hW.alike hK, hD9⟩, hS.F ht⟩) hS.2.2 dX12_seed_17
  · have g_2 : p0.toInt < 0 := z_nle (by decide) rfl c_1
    refine lv_aload_n hx hb dX12_seed_4 rfl (lv_at hl 0 rfl) ?_
    refine lv_iconst (v := 5) hx hb dX12_seed_5 (by decide) ?_
    refine zwV (As := [.int 5]) (rest := []) (C := RX12) (n := 1) (wr := []) ⟨hx, hb, hml, hown, ht⟩ (k_X12_isRefused l D _ a 5 (by first | decide | omega)) (zgV ml_X12_671 im_X12_isRefused se_X12_isRefused in_X12 co_X12_isRefused) rfl rfl (by decide +kernel) ⟨Nat.le_of_ble_eq_true rfl, Nat.le_of_ble_eq_true rfl⟩ hK hP hD hS hA [0, 1] [] rfl rfl rfl rfl (by decide) 0 rfl rfl rfl rfl hl.1 rfl (Nat.le_of_ble_eq_true rfl) dX12_seed_6 ⟨Nat.le_of_ble_eq_true rfl, Nat.le_of_ble_eq_true rfl⟩ (fun r_4 u_3 H locs hw hP hD hS => ?_)
    have hP : va_P D vwCl [] H := hP
    have hD : va_D A [] := hD
    subst hw
    have hP9 := hP.sub (ws' := []) [] rfl
    have hD9 := hD.sub (ws' := []) [] (by decide) rfl
    refine W.widen (k := 0) (n := 0) (Nat.le_of_ble_eq_true rfl) (Nat.le_of_ble_eq_true rfl) ?_
    exact W.zret (v := 0) hx hb hr (by decide) (fun t ht hW => ⟨⟨0, (), rfl, Or.inr (⟨rfl, zu_lt rfl (by decide) g_2⟩), by rw [ht]; exact hP9, va_K.moved hW.alike hK, hD9⟩, hS.F ht⟩) hS.2.2 dX12_seed_9
set_option maxHeartbeats 4000000 in
set_option maxRecDepth 100000 in
theorem k_X12_see (l : Launch) (D : va_G) (sz : Nat) (a : Nat → Nat)  : Met l yX12_see (wz yX12_see cX12_see 4 (some .int)) { frames := 1, cells := 0, slots := 0, locals := 60 } (va_Pc [.ref (a 200)] (zW D sz [((a 200), .inr (12, mO a 0 0 0 0 0 0 0 (-1) 0 0 1 0)), ((a 9), .inl (D.1 13, 6, .inl (fun _ => 0)))])) (va_Qi (fun r (_ : Unit) => r = (-1)) (fun u t => zB D (va_A [((a 200), .inr (12, mO a 0 0 0 0 0 0 0 (-1) 0 0 1 0)), ((a 9), .inl (D.1 13, 6, .inl (fun _ => 0)))] sz) ((fun (_ : Unit) => []) u) t) (va_A [((a 200), .inr (12, mO a 0 0 0 0 0 0 0 (-1) 0 0 1 0)), ((a 9), .inl (D.1 13, 6, .inl (fun _ => 0)))] sz)) 0 0 (va_A [((a 200), .inr (12, mO a 0 0 0 0 0 0 0 (-1) 0 0 1 0)), ((a 9), .inl (D.1 13, 6, .inl (fun _ => 0)))] sz) := by
  refine Met.ofW (cc := cX12_see) (maxL := 4) (ret := (some .int)) (by decide) rfl ?_
  intro p e s m args below meth c s₁ B hml hv
  obtain ⟨rfl, hsz, hP, hK, hD0⟩ := hv
  have hx := B.exec
  have hb := B.bytes
  have hr := B.returns
  have hts := atoms_spec (ws := wz yX12_see cX12_see 4 (some .int)) B.pre
  have ht : ∀ w ∈ lw_gd, w.before _ s = true := fun w h => hts w (List.mem_cons_of_mem _ h)
  have hown : s.vm.findClass RX12 = some m.cls := findClass_of_methodNamed B.named
  have hlocks := B.notSynchronized
  subst hsz
  have hD := hD0.self (sz := s.heap.size)
  generalize hAe : va_A [((a 200), .inr (12, mO a 0 0 0 0 0 0 0 (-1) 0 0 1 0)), ((a 9), .inl (D.1 13, 6, .inl (fun _ => 0)))] s.heap.size = A at hD ⊢
  have hA : ∀ q : Nat, s.heap.size ≤ q → A q := fun q h => by rw [← hAe]; exact Or.inr h
  have hS : va_S A s.heap s.heap [] := va_S.rf
  have hl := lv_entry ([.ref (a 200)]) (n := 4) (Nat.le_of_ble_eq_true rfl)
  rw [lg_entry_eq]
  generalize (lg_sl ([.ref (a 200)]) ++ List.replicate (4 - (lg_sl ([.ref (a 200)])).length) Slot.unset).toArray = ls at hl ⊢
  have hl : lv_has ls 4 [(0, .ref (a 200))] := hl
  refine lv_aload_n hx hb dX12_see_0 rfl (lv_at hl 0 rfl) ?_
  refine va_get (D := D) (ci := 12) (v := .int 0) (C := RX12) (T := TX12) (N := 116) hx hb ht inX12 hown hK hP 0 rfl rfl 1 (by decide) (ht (.fieldLink RX12 263 "CloneVolumesModel" "taped" "I") fl_X12_263) (fun _ h9 => h9) rfl dX12_see_1 ?_
  refine lv_istore_n (lv' := [(1, .int 0), (0, .ref (a 200))]) hx hb dX12_see_4 rfl hl (by decide) rfl (fun ls hl => ?_)
  refine lv_aload_n hx hb dX12_see_5 rfl (lv_at hl 1 rfl) ?_
  refine lv_iconst (v := 0) hx hb dX12_see_6 (by decide) ?_
  refine va_put (D := D) (ci := 12) (v := .int 0) (ty := .int) (C := RX12) (T := TX12) (N := 116) hx hb ht inX12 tyX12 tyX12_ok nmX12 hown hK hP hD hS 0 rfl rfl 1 (by decide) (ht (.fieldLink RX12 263 "CloneVolumesModel" "taped" "I") fl_X12_263) (fun _ h9 => h9) rfl (by decide +kernel) rfl rfl (Nat.le_of_ble_eq_true rfl) dX12_see_7 (fun H locs hP hD hS => ?_)
  have hP : va_P D vwCl [((a 200), .inr (12, mO a 0 0 0 0 0 0 0 (-1) 0 0 1 0)), ((a 9), .inl (D.1 13, 6, .inl (fun _ => 0)))] H := hP
  have hD : va_D A [((a 200), .inr (12, mO a 0 0 0 0 0 0 0 (-1) 0 0 1 0)), ((a 9), .inl (D.1 13, 6, .inl (fun _ => 0)))] := hD
  refine lv_iload_n hx hb dX12_see_10 rfl (lv_at hl 0 rfl) ?_
  refine lv_if_le (tgt := 32) hx hb dX12_see_11 (by decide) (fun _ => ?_) (fun c_1 => (z_abs c_1 (by decide)).elim)
  refine lv_iconst (v := 0) hx hb dX12_see_32 (by decide) ?_
  refine lv_istore_n (lv' := [(2, .int 0), (1, .int 0), (0, .ref (a 200))]) hx hb dX12_see_33 rfl hl (by decide) rfl (fun ls hl => ?_)
  refine lv_iconst (v := 0) hx hb dX12_see_34 (by decide) ?_
  refine lv_istore_n (lv' := [(3, .int 0), (2, .int 0), (1, .int 0), (0, .ref (a 200))]) hx hb dX12_see_35 rfl hl (by decide) rfl (fun ls hl => ?_)
  refine lv_iload_n hx hb dX12_see_36 rfl (lv_at hl 0 rfl) ?_
  refine lv_iload_n hx hb dX12_see_37 rfl (lv_at hl 2 rfl) ?_
  refine lv_icmp_ge (tgt := 109) hx hb dX12_see_38 (by decide) (fun _ => ?_) (fun c_3 => (z_abs c_3 (by decide)).elim)
  refine lv_iload_n hx hb dX12_see_109 rfl (lv_at hl 1 rfl) ?_
  refine lv_if_ne (tgt := 119) hx hb dX12_see_110 (by decide) (fun c_5 => (z_abs c_5 (by decide)).elim) (fun _ => ?_)
  refine lv_aload_n hx hb dX12_see_113 rfl (lv_at hl 3 rfl) ?_
  refine lv_iconst (v := 1) hx hb dX12_see_114 (by decide) ?_
  refine zwV (As := [.int 1]) (rest := []) (C := RX12) (n := 1) (wr := []) ⟨hx, hb, hml, hown, ht⟩ (k_X12_refuses l D _ a 1 (by first | decide | omega)) (zgV ml_X12_399 im_X12_refuses se_X12_refuses in_X12 co_X12_refuses) rfl rfl (by decide +kernel) ⟨Nat.le_of_ble_eq_true rfl, Nat.le_of_ble_eq_true rfl⟩ hK hP hD hS hA [0, 1] [] rfl rfl rfl rfl (by decide) 0 rfl rfl rfl rfl hl.1 rfl (Nat.le_of_ble_eq_true rfl) dX12_see_115 ⟨Nat.le_of_ble_eq_true rfl, Nat.le_of_ble_eq_true rfl⟩ (fun r_8 u_7 H locs hw hP hD hS => ?_)
  have hP : va_P D vwCl [] H := hP
  have hD : va_D A [] := hD
  subst hw
  have hP9 := hP.sub (ws' := []) [] rfl
  have hD9 := hD.sub (ws' := []) [] (by decide) rfl
  refine W.widen (k := 0) (n := 0) (Nat.le_of_ble_eq_true rfl) (Nat.le_of_ble_eq_true rfl) ?_
  exact W.iret (v := (-1)) hx hb hr (fun t ht hW => ⟨⟨(-1), (), rfl, rfl, by rw [ht]; exact hP9, va_K.moved hW.alike hK, hD9⟩, hS.F ht⟩) hS.2.2 dX12_see_118
set_option maxHeartbeats 4000000 in
set_option maxRecDepth 100000 in
theorem k_X12_undo (l : Launch) (D : va_G) (sz : Nat) (a : Nat → Nat)  : Met l yX12_undo (wz yX12_undo cX12_undo 2 (some .boolean)) { frames := 0, cells := 0, slots := 0, locals := 0 } (va_Pc [.ref (a 200)] (zW D sz [((a 200), .inr (12, mO a 0 0 0 0 0 0 0 (-1) 0 0 1 0)), ((a 9), .inl (D.1 13, 6, .inl (fun _ => 0)))])) (va_Qi (fun r (_ : Unit) => r = 0) (fun u t => zB D (va_A [((a 200), .inr (12, mO a 0 0 0 0 0 0 0 (-1) 0 0 1 0)), ((a 9), .inl (D.1 13, 6, .inl (fun _ => 0)))] sz) ((fun (_ : Unit) => []) u) t) (va_A [((a 200), .inr (12, mO a 0 0 0 0 0 0 0 (-1) 0 0 1 0)), ((a 9), .inl (D.1 13, 6, .inl (fun _ => 0)))] sz)) 0 0 (va_A [((a 200), .inr (12, mO a 0 0 0 0 0 0 0 (-1) 0 0 1 0)), ((a 9), .inl (D.1 13, 6, .inl (fun _ => 0)))] sz) := by
  refine Met.ofW (cc := cX12_undo) (maxL := 2) (ret := (some .boolean)) (by decide) rfl ?_
  intro p e s m args below meth c s₁ B hml hv
  obtain ⟨rfl, hsz, hP, hK, hD0⟩ := hv
  have hx := B.exec
  have hb := B.bytes
  have hr := B.returns
  have hts := atoms_spec (ws := wz yX12_undo cX12_undo 2 (some .boolean)) B.pre
  have ht : ∀ w ∈ lw_gd, w.before _ s = true := fun w h => hts w (List.mem_cons_of_mem _ h)
  have hown : s.vm.findClass RX12 = some m.cls := findClass_of_methodNamed B.named
  have hlocks := B.notSynchronized
  subst hsz
  have hD := hD0.self (sz := s.heap.size)
  generalize hAe : va_A [((a 200), .inr (12, mO a 0 0 0 0 0 0 0 (-1) 0 0 1 0)), ((a 9), .inl (D.1 13, 6, .inl (fun _ => 0)))] s.heap.size = A at hD ⊢
  have hA : ∀ q : Nat, s.heap.size ≤ q → A q := fun q h => by rw [← hAe]; exact Or.inr h
  have hS : va_S A s.heap s.heap [] := va_S.rf
  have hl := lv_entry ([.ref (a 200)]) (n := 2) (Nat.le_of_ble_eq_true rfl)
  rw [lg_entry_eq]
  generalize (lg_sl ([.ref (a 200)]) ++ List.replicate (2 - (lg_sl ([.ref (a 200)])).length) Slot.unset).toArray = ls at hl ⊢
  have hl : lv_has ls 2 [(0, .ref (a 200))] := hl
  refine lv_aload_n hx hb dX12_undo_0 rfl (lv_at hl 0 rfl) ?_
  refine va_get (D := D) (ci := 12) (v := .int 0) (C := RX12) (T := TX12) (N := 116) hx hb ht inX12 hown hK hP 0 rfl rfl 76 (by decide) (ht (.fieldLink RX12 416 "CloneVolumesModel" "undoable" "I") fl_X12_416) (fun _ h9 => h9) rfl dX12_undo_1 ?_
  refine lv_if_ne (tgt := 19) hx hb dX12_undo_4 (by decide) (fun c_1 => (z_abs c_1 (by decide)).elim) (fun _ => ?_)
  refine lv_aload_n hx hb dX12_undo_7 rfl (lv_at hl 0 rfl) ?_
  refine va_get (D := D) (ci := 12) (v := .ref (a 9)) (C := RX12) (T := TX12) (N := 116) hx hb ht inX12 hown hK hP 0 rfl rfl 9 (by decide) (ht (.fieldLink RX12 17 "CloneVolumesModel" "refused" "[I") fl_X12_17) (fun _ h9 => h9) rfl dX12_undo_8 ?_
  refine lv_iconst (v := 4) hx hb dX12_undo_11 (by decide) ?_
  refine lv_dup2_11 hx hb dX12_undo_12 rfl rfl ?_
  refine va_iald hx hb hK hP 1 0 rfl rfl (z_in (by decide) (by decide)) dX12_undo_13 ?_
  refine z_topi (y := 0) (by decide) ?_
  refine lv_iconst (v := 1) hx hb dX12_undo_14 (by decide) ?_
  refine lv_iadd hx hb dX12_undo_15 ?_
  refine z_topi (y := 1) (by decide) ?_
  refine va_iast hx hb hK hP hD hS 1 0 rfl rfl (z_in (by decide) (by decide)) dX12_undo_16 (fun H locs hP hD hS => ?_)
  generalize hf_3 : upd _ _ _ = f_3 at hP hD
  have hP : va_P D vwCl [((a 200), .inr (12, mO a 0 0 0 0 0 0 0 (-1) 0 0 1 0)), ((a 9), .inl (D.1 13, 6, .inl f_3))] H := hP
  have hD : va_D A [((a 200), .inr (12, mO a 0 0 0 0 0 0 0 (-1) 0 0 1 0)), ((a 9), .inl (D.1 13, 6, .inl f_3))] := hD
  refine lv_iconst (v := 0) hx hb dX12_undo_17 (by decide) ?_
  have hP9 := hP.sub (ws' := []) [] rfl
  have hD9 := hD.sub (ws' := []) [] (by decide) rfl
  refine W.widen (k := 0) (n := 0) (Nat.le_of_ble_eq_true rfl) (Nat.le_of_ble_eq_true rfl) ?_
  exact W.zret (v := 0) hx hb hr (by decide) (fun t ht hW => ⟨⟨0, (), rfl, rfl, by rw [ht]; exact hP9, va_K.moved hW.alike hK, hD9⟩, hS.F ht⟩) hS.2.2 dX12_undo_18
set_option maxHeartbeats 4000000 in
set_option maxRecDepth 100000 in
theorem k_X12_put (l : Launch) (D : va_G) (sz : Nat) (a : Nat → Nat) (p0 : Int32) (p1 : Int32) (p2 : Int32) : Met l yX12_put (wz yX12_put cX12_put 4 (some .int)) { frames := 2, cells := 0, slots := 0, locals := 120 } (va_Pc [.ref (a 200), .int p0, .int p1, .int p2] (zW D sz [((a 200), .inr (12, mO a 0 0 0 0 0 0 0 (-1) 0 0 1 0)), ((a 9), .inl (D.1 13, 6, .inl (fun _ => 0)))])) (va_Qi (fun r (_ : Unit) => r = (-1)) (fun u t => zB D (va_A [((a 200), .inr (12, mO a 0 0 0 0 0 0 0 (-1) 0 0 1 0)), ((a 9), .inl (D.1 13, 6, .inl (fun _ => 0)))] sz) ((fun (_ : Unit) => []) u) t) (va_A [((a 200), .inr (12, mO a 0 0 0 0 0 0 0 (-1) 0 0 1 0)), ((a 9), .inl (D.1 13, 6, .inl (fun _ => 0)))] sz)) 0 0 (va_A [((a 200), .inr (12, mO a 0 0 0 0 0 0 0 (-1) 0 0 1 0)), ((a 9), .inl (D.1 13, 6, .inl (fun _ => 0)))] sz) := by
  refine Met.ofW (cc := cX12_put) (maxL := 4) (ret := (some .int)) (by decide) rfl ?_
  intro p e s m args below meth c s₁ B hml hv
  obtain ⟨rfl, hsz, hP, hK, hD0⟩ := hv
  have hx := B.exec
  have hb := B.bytes
  have hr := B.returns
  have hts := atoms_spec (ws := wz yX12_put cX12_put 4 (some .int)) B.pre
  have ht : ∀ w ∈ lw_gd, w.before _ s = true := fun w h => hts w (List.mem_cons_of_mem _ h)
  have hown : s.vm.findClass RX12 = some m.cls := findClass_of_methodNamed B.named
  have hlocks := B.notSynchronized
  subst hsz
  have hD := hD0.self (sz := s.heap.size)
  generalize hAe : va_A [((a 200), .inr (12, mO a 0 0 0 0 0 0 0 (-1) 0 0 1 0)), ((a 9), .inl (D.1 13, 6, .inl (fun _ => 0)))] s.heap.size = A at hD ⊢
  have hA : ∀ q : Nat, s.heap.size ≤ q → A q := fun q h => by rw [← hAe]; exact Or.inr h
  have hS : va_S A s.heap s.heap [] := va_S.rf
  have hl := lv_entry ([.ref (a 200), .int p0, .int p1, .int p2]) (n := 4) (Nat.le_of_ble_eq_true rfl)
  rw [lg_entry_eq]
  generalize (lg_sl ([.ref (a 200), .int p0, .int p1, .int p2]) ++ List.replicate (4 - (lg_sl ([.ref (a 200), .int p0, .int p1, .int p2])).length) Slot.unset).toArray = ls at hl ⊢
  have hl : lv_has ls 4 [(0, .ref (a 200)), (1, .int p0), (2, .int p1), (3, .int p2)] := hl
  refine lv_aload_n hx hb dX12_put_0 rfl (lv_at hl 0 rfl) ?_
  refine lv_iload_n hx hb dX12_put_1 rfl (lv_at hl 1 rfl) ?_
  refine lv_i2l (v := p0.toInt64) hx hb dX12_put_2 rfl ?_
  refine zcV (As := [.long p0.toInt64]) (rest := []) (C := RX12) (n := 1) ⟨hx, hb, hml, hown, ht⟩ (k_X12_isVolume l D a p0.toInt64) (zgV ml_X12_571 im_X12_isVolume se_X12_isVolume in_X12 co_X12_isVolume) rfl rfl (by decide +kernel) ⟨Nat.le_of_ble_eq_true rfl, Nat.le_of_ble_eq_true rfl⟩ hK hP hS [0] rfl 0 rfl rfl rfl rfl hl.1 rfl (Nat.le_of_ble_eq_true rfl) dX12_put_3 ⟨Nat.le_of_ble_eq_true rfl, Nat.le_of_ble_eq_true rfl⟩ (fun r_1 H locs hw hP hS => ?_)
  subst hw
  refine lv_if_eq (tgt := 33) hx hb dX12_put_6 (by decide) (fun _ => ?_) (fun c_2 => (z_abs c_2 (by decide)).elim)
  refine lv_aload_n hx hb dX12_put_33 rfl (lv_at hl 0 rfl) ?_
  refine lv_iconst (v := 2) hx hb dX12_put_34 (by decide) ?_
  refine zwV (As := [.int 2]) (rest := []) (C := RX12) (n := 1) (wr := []) ⟨hx, hb, hml, hown, ht⟩ (k_X12_refuses l D _ a 2 (by first | decide | omega)) (zgV ml_X12_399 im_X12_refuses se_X12_refuses in_X12 co_X12_refuses) rfl rfl (by decide +kernel) ⟨Nat.le_of_ble_eq_true rfl, Nat.le_of_ble_eq_true rfl⟩ hK hP hD hS hA [0, 1] [] rfl rfl rfl rfl (by decide) 0 rfl rfl rfl rfl hl.1 rfl (Nat.le_of_ble_eq_true rfl) dX12_put_35 ⟨Nat.le_of_ble_eq_true rfl, Nat.le_of_ble_eq_true rfl⟩ (fun r_5 u_4 H locs hw hP hD hS => ?_)
  have hP : va_P D vwCl [] H := hP
  have hD : va_D A [] := hD
  subst hw
  have hP9 := hP.sub (ws' := []) [] rfl
  have hD9 := hD.sub (ws' := []) [] (by decide) rfl
  refine W.widen (k := 0) (n := 0) (Nat.le_of_ble_eq_true rfl) (Nat.le_of_ble_eq_true rfl) ?_
  exact W.iret (v := (-1)) hx hb hr (fun t ht hW => ⟨⟨(-1), (), rfl, rfl, by rw [ht]; exact hP9, va_K.moved hW.alike hK, hD9⟩, hS.F ht⟩) hS.2.2 dX12_put_38
set_option maxHeartbeats 4000000 in
set_option maxRecDepth 100000 in
theorem k_X12_remove (l : Launch) (D : va_G) (sz : Nat) (a : Nat → Nat) (p0 : Int32) (p1 : Int32) : Met l yX12_remove (wz yX12_remove cX12_remove 3 (some .int)) { frames := 2, cells := 0, slots := 0, locals := 120 } (va_Pc [.ref (a 200), .int p0, .int p1] (zW D sz [((a 200), .inr (12, mO a 0 0 0 0 0 0 0 (-1) 0 0 1 0)), ((a 9), .inl (D.1 13, 6, .inl (fun _ => 0)))])) (va_Qi (fun r (_ : Unit) => r = (-1)) (fun u t => zB D (va_A [((a 200), .inr (12, mO a 0 0 0 0 0 0 0 (-1) 0 0 1 0)), ((a 9), .inl (D.1 13, 6, .inl (fun _ => 0)))] sz) ((fun (_ : Unit) => []) u) t) (va_A [((a 200), .inr (12, mO a 0 0 0 0 0 0 0 (-1) 0 0 1 0)), ((a 9), .inl (D.1 13, 6, .inl (fun _ => 0)))] sz)) 0 0 (va_A [((a 200), .inr (12, mO a 0 0 0 0 0 0 0 (-1) 0 0 1 0)), ((a 9), .inl (D.1 13, 6, .inl (fun _ => 0)))] sz) := by
  refine Met.ofW (cc := cX12_remove) (maxL := 3) (ret := (some .int)) (by decide) rfl ?_
  intro p e s m args below meth c s₁ B hml hv
  obtain ⟨rfl, hsz, hP, hK, hD0⟩ := hv
  have hx := B.exec
  have hb := B.bytes
  have hr := B.returns
  have hts := atoms_spec (ws := wz yX12_remove cX12_remove 3 (some .int)) B.pre
  have ht : ∀ w ∈ lw_gd, w.before _ s = true := fun w h => hts w (List.mem_cons_of_mem _ h)
  have hown : s.vm.findClass RX12 = some m.cls := findClass_of_methodNamed B.named
  have hlocks := B.notSynchronized
  subst hsz
  have hD := hD0.self (sz := s.heap.size)
  generalize hAe : va_A [((a 200), .inr (12, mO a 0 0 0 0 0 0 0 (-1) 0 0 1 0)), ((a 9), .inl (D.1 13, 6, .inl (fun _ => 0)))] s.heap.size = A at hD ⊢
  have hA : ∀ q : Nat, s.heap.size ≤ q → A q := fun q h => by rw [← hAe]; exact Or.inr h
  have hS : va_S A s.heap s.heap [] := va_S.rf
  have hl := lv_entry ([.ref (a 200), .int p0, .int p1]) (n := 3) (Nat.le_of_ble_eq_true rfl)
  rw [lg_entry_eq]
  generalize (lg_sl ([.ref (a 200), .int p0, .int p1]) ++ List.replicate (3 - (lg_sl ([.ref (a 200), .int p0, .int p1])).length) Slot.unset).toArray = ls at hl ⊢
  have hl : lv_has ls 3 [(0, .ref (a 200)), (1, .int p0), (2, .int p1)] := hl
  refine lv_aload_n hx hb dX12_remove_0 rfl (lv_at hl 0 rfl) ?_
  refine lv_iload_n hx hb dX12_remove_1 rfl (lv_at hl 1 rfl) ?_
  refine lv_i2l (v := p0.toInt64) hx hb dX12_remove_2 rfl ?_
  refine zcV (As := [.long p0.toInt64]) (rest := []) (C := RX12) (n := 1) ⟨hx, hb, hml, hown, ht⟩ (k_X12_isVolume l D a p0.toInt64) (zgV ml_X12_571 im_X12_isVolume se_X12_isVolume in_X12 co_X12_isVolume) rfl rfl (by decide +kernel) ⟨Nat.le_of_ble_eq_true rfl, Nat.le_of_ble_eq_true rfl⟩ hK hP hS [0] rfl 0 rfl rfl rfl rfl hl.1 rfl (Nat.le_of_ble_eq_true rfl) dX12_remove_3 ⟨Nat.le_of_ble_eq_true rfl, Nat.le_of_ble_eq_true rfl⟩ (fun r_1 H locs hw hP hS => ?_)
  subst hw
  refine lv_if_ne (tgt := 15) hx hb dX12_remove_6 (by decide) (fun c_2 => (z_abs c_2 (by decide)).elim) (fun _ => ?_)
  refine lv_aload_n hx hb dX12_remove_9 rfl (lv_at hl 0 rfl) ?_
  refine lv_iconst (v := 2) hx hb dX12_remove_10 (by decide) ?_
  refine zwV (As := [.int 2]) (rest := []) (C := RX12) (n := 1) (wr := []) ⟨hx, hb, hml, hown, ht⟩ (k_X12_refuses l D _ a 2 (by first | decide | omega)) (zgV ml_X12_399 im_X12_refuses se_X12_refuses in_X12 co_X12_refuses) rfl rfl (by decide +kernel) ⟨Nat.le_of_ble_eq_true rfl, Nat.le_of_ble_eq_true rfl⟩ hK hP hD hS hA [0, 1] [] rfl rfl rfl rfl (by decide) 0 rfl rfl rfl rfl hl.1 rfl (Nat.le_of_ble_eq_true rfl) dX12_remove_11 ⟨Nat.le_of_ble_eq_true rfl, Nat.le_of_ble_eq_true rfl⟩ (fun r_5 u_4 H locs hw hP hD hS => ?_)
  have hP : va_P D vwCl [] H := hP
  have hD : va_D A [] := hD
  subst hw
  have hP9 := hP.sub (ws' := []) [] rfl
  have hD9 := hD.sub (ws' := []) [] (by decide) rfl
  refine W.widen (k := 0) (n := 0) (Nat.le_of_ble_eq_true rfl) (Nat.le_of_ble_eq_true rfl) ?_
  exact W.iret (v := (-1)) hx hb hr (fun t ht hW => ⟨⟨(-1), (), rfl, rfl, by rw [ht]; exact hP9, va_K.moved hW.alike hK, hD9⟩, hS.F ht⟩) hS.2.2 dX12_remove_14
set_option maxHeartbeats 4000000 in
set_option maxRecDepth 100000 in
theorem k_X12_copy (l : Launch) (D : va_G) (sz : Nat) (a : Nat → Nat) (p0 : Int32) : Met l yX12_copy (wz yX12_copy cX12_copy 3 (some .int)) { frames := 2, cells := 0, slots := 0, locals := 120 } (va_Pc [.ref (a 200), .int p0] (zW D sz [((a 200), .inr (12, mO a 0 0 0 0 0 0 0 (-1) 0 0 1 0)), ((a 9), .inl (D.1 13, 6, .inl (fun _ => 0))), ((a 49), .inl (D.1 13, 906, .inl (fun _ => 0)))])) (va_Qi (fun r (_ : Unit) => r = (-1)) (fun u t => zB D (va_A [((a 200), .inr (12, mO a 0 0 0 0 0 0 0 (-1) 0 0 1 0)), ((a 9), .inl (D.1 13, 6, .inl (fun _ => 0))), ((a 49), .inl (D.1 13, 906, .inl (fun _ => 0)))] sz) ((fun (_ : Unit) => []) u) t) (va_A [((a 200), .inr (12, mO a 0 0 0 0 0 0 0 (-1) 0 0 1 0)), ((a 9), .inl (D.1 13, 6, .inl (fun _ => 0))), ((a 49), .inl (D.1 13, 906, .inl (fun _ => 0)))] sz)) 0 0 (va_A [((a 200), .inr (12, mO a 0 0 0 0 0 0 0 (-1) 0 0 1 0)), ((a 9), .inl (D.1 13, 6, .inl (fun _ => 0))), ((a 49), .inl (D.1 13, 906, .inl (fun _ => 0)))] sz) := by
  refine Met.ofW (cc := cX12_copy) (maxL := 3) (ret := (some .int)) (by decide) rfl ?_
  intro p e s m args below meth c s₁ B hml hv
  obtain ⟨rfl, hsz, hP, hK, hD0⟩ := hv
  have hx := B.exec
  have hb := B.bytes
  have hr := B.returns
  have hts := atoms_spec (ws := wz yX12_copy cX12_copy 3 (some .int)) B.pre
  have ht : ∀ w ∈ lw_gd, w.before _ s = true := fun w h => hts w (List.mem_cons_of_mem _ h)
  have hown : s.vm.findClass RX12 = some m.cls := findClass_of_methodNamed B.named
  have hlocks := B.notSynchronized
  subst hsz
  have hD := hD0.self (sz := s.heap.size)
  generalize hAe : va_A [((a 200), .inr (12, mO a 0 0 0 0 0 0 0 (-1) 0 0 1 0)), ((a 9), .inl (D.1 13, 6, .inl (fun _ => 0))), ((a 49), .inl (D.1 13, 906, .inl (fun _ => 0)))] s.heap.size = A at hD ⊢
  have hA : ∀ q : Nat, s.heap.size ≤ q → A q := fun q h => by rw [← hAe]; exact Or.inr h
  have hS : va_S A s.heap s.heap [] := va_S.rf
  have hl := lv_entry ([.ref (a 200), .int p0]) (n := 3) (Nat.le_of_ble_eq_true rfl)
  rw [lg_entry_eq]
  generalize (lg_sl ([.ref (a 200), .int p0]) ++ List.replicate (3 - (lg_sl ([.ref (a 200), .int p0])).length) Slot.unset).toArray = ls at hl ⊢
  have hl : lv_has ls 3 [(0, .ref (a 200)), (1, .int p0)] := hl
  refine lv_aload_n hx hb dX12_copy_0 rfl (lv_at hl 0 rfl) ?_
  refine zcV (As := []) (rest := []) (C := RX12) (n := 0) ⟨hx, hb, hml, hown, ht⟩ (k_X12_freeNumber l D a) (zgV ml_X12_665 im_X12_freeNumber se_X12_freeNumber in_X12 co_X12_freeNumber) rfl rfl (by decide +kernel) ⟨Nat.le_of_ble_eq_true rfl, Nat.le_of_ble_eq_true rfl⟩ hK hP hS [0, 2] rfl 0 rfl rfl rfl rfl hl.1 rfl (Nat.le_of_ble_eq_true rfl) dX12_copy_1 ⟨Nat.le_of_ble_eq_true rfl, Nat.le_of_ble_eq_true rfl⟩ (fun r_1 H locs hw hP hS => ?_)
  subst hw
  refine lv_istore_n (lv' := [(2, .int 8), (0, .ref (a 200)), (1, .int p0)]) hx hb dX12_copy_4 rfl hl (by decide) rfl (fun ls hl => ?_)
  refine lv_aload_n hx hb dX12_copy_5 rfl (lv_at hl 1 rfl) ?_
  refine lv_iload_n hx hb dX12_copy_6 rfl (lv_at hl 2 rfl) ?_
  refine lv_i2l (v := p0.toInt64) hx hb dX12_copy_7 rfl ?_
  refine zcV (As := [.long p0.toInt64]) (rest := []) (C := RX12) (n := 1) ⟨hx, hb, hml, hown, ht⟩ (k_X12_isVolume l D a p0.toInt64) (zgV ml_X12_571 im_X12_isVolume se_X12_isVolume in_X12 co_X12_isVolume) rfl rfl (by decide +kernel) ⟨Nat.le_of_ble_eq_true rfl, Nat.le_of_ble_eq_true rfl⟩ hK hP hS [0] rfl 0 rfl rfl rfl rfl hl.1 rfl (Nat.le_of_ble_eq_true rfl) dX12_copy_8 ⟨Nat.le_of_ble_eq_true rfl, Nat.le_of_ble_eq_true rfl⟩ (fun r_2 H locs hw hP hS => ?_)
  subst hw
  refine lv_if_eq (tgt := 20) hx hb dX12_copy_11 (by decide) (fun _ => ?_) (fun c_3 => (z_abs c_3 (by decide)).elim)
  refine lv_aload_n hx hb dX12_copy_20 rfl (lv_at hl 1 rfl) ?_
  refine lv_iconst (v := 2) hx hb dX12_copy_21 (by decide) ?_
  refine zwV (As := [.int 2]) (rest := []) (C := RX12) (n := 1) (wr := [((a 49), .inl (D.1 13, 906, .inl (fun _ => 0)))]) ⟨hx, hb, hml, hown, ht⟩ (k_X12_refuses l D _ a 2 (by first | decide | omega)) (zgV ml_X12_399 im_X12_refuses se_X12_refuses in_X12 co_X12_refuses) rfl rfl (by decide +kernel) ⟨Nat.le_of_ble_eq_true rfl, Nat.le_of_ble_eq_true rfl⟩ hK hP hD hS hA [0, 1] [2] rfl rfl rfl rfl (by decide) 0 rfl rfl rfl rfl hl.1 rfl (Nat.le_of_ble_eq_true rfl) dX12_copy_22 ⟨Nat.le_of_ble_eq_true rfl, Nat.le_of_ble_eq_true rfl⟩ (fun r_6 u_5 H locs hw hP hD hS => ?_)
  have hP : va_P D vwCl [((a 49), .inl (D.1 13, 906, .inl (fun _ => 0)))] H := hP
  have hD : va_D A [((a 49), .inl (D.1 13, 906, .inl (fun _ => 0)))] := hD
  subst hw
  have hP9 := hP.sub (ws' := []) [] rfl
  have hD9 := hD.sub (ws' := []) [] (by decide) rfl
  refine W.widen (k := 0) (n := 0) (Nat.le_of_ble_eq_true rfl) (Nat.le_of_ble_eq_true rfl) ?_
  exact W.iret (v := (-1)) hx hb hr (fun t ht hW => ⟨⟨(-1), (), rfl, rfl, by rw [ht]; exact hP9, va_K.moved hW.alike hK, hD9⟩, hS.F ht⟩) hS.2.2 dX12_copy_25
set_option maxHeartbeats 4000000 in
set_option maxRecDepth 100000 in
theorem k_X12_drop (l : Launch) (D : va_G) (sz : Nat) (a : Nat → Nat) (p0 : Int32) : Met l yX12_drop (wz yX12_drop cX12_drop 3 (some .int)) { frames := 2, cells := 0, slots := 0, locals := 120 } (va_Pc [.ref (a 200), .int p0] (zW D sz [((a 200), .inr (12, mO a 0 0 0 0 0 0 0 (-1) 0 0 1 0)), ((a 9), .inl (D.1 13, 6, .inl (fun _ => 0)))])) (va_Qi (fun r (_ : Unit) => r = (-1)) (fun u t => zB D (va_A [((a 200), .inr (12, mO a 0 0 0 0 0 0 0 (-1) 0 0 1 0)), ((a 9), .inl (D.1 13, 6, .inl (fun _ => 0)))] sz) ((fun (_ : Unit) => []) u) t) (va_A [((a 200), .inr (12, mO a 0 0 0 0 0 0 0 (-1) 0 0 1 0)), ((a 9), .inl (D.1 13, 6, .inl (fun _ => 0)))] sz)) 0 0 (va_A [((a 200), .inr (12, mO a 0 0 0 0 0 0 0 (-1) 0 0 1 0)), ((a 9), .inl (D.1 13, 6, .inl (fun _ => 0)))] sz) := by
  refine Met.ofW (cc := cX12_drop) (maxL := 3) (ret := (some .int)) (by decide) rfl ?_
  intro p e s m args below meth c s₁ B hml hv
  obtain ⟨rfl, hsz, hP, hK, hD0⟩ := hv
  have hx := B.exec
  have hb := B.bytes
  have hr := B.returns
  have hts := atoms_spec (ws := wz yX12_drop cX12_drop 3 (some .int)) B.pre
  have ht : ∀ w ∈ lw_gd, w.before _ s = true := fun w h => hts w (List.mem_cons_of_mem _ h)
  have hown : s.vm.findClass RX12 = some m.cls := findClass_of_methodNamed B.named
  have hlocks := B.notSynchronized
  subst hsz
  have hD := hD0.self (sz := s.heap.size)
  generalize hAe : va_A [((a 200), .inr (12, mO a 0 0 0 0 0 0 0 (-1) 0 0 1 0)), ((a 9), .inl (D.1 13, 6, .inl (fun _ => 0)))] s.heap.size = A at hD ⊢
  have hA : ∀ q : Nat, s.heap.size ≤ q → A q := fun q h => by rw [← hAe]; exact Or.inr h
  have hS : va_S A s.heap s.heap [] := va_S.rf
  have hl := lv_entry ([.ref (a 200), .int p0]) (n := 3) (Nat.le_of_ble_eq_true rfl)
  rw [lg_entry_eq]
  generalize (lg_sl ([.ref (a 200), .int p0]) ++ List.replicate (3 - (lg_sl ([.ref (a 200), .int p0])).length) Slot.unset).toArray = ls at hl ⊢
  have hl : lv_has ls 3 [(0, .ref (a 200)), (1, .int p0)] := hl
  refine lv_aload_n hx hb dX12_drop_0 rfl (lv_at hl 0 rfl) ?_
  refine lv_iload_n hx hb dX12_drop_1 rfl (lv_at hl 1 rfl) ?_
  refine lv_i2l (v := p0.toInt64) hx hb dX12_drop_2 rfl ?_
  refine zcV (As := [.long p0.toInt64]) (rest := []) (C := RX12) (n := 1) ⟨hx, hb, hml, hown, ht⟩ (k_X12_isVolume l D a p0.toInt64) (zgV ml_X12_571 im_X12_isVolume se_X12_isVolume in_X12 co_X12_isVolume) rfl rfl (by decide +kernel) ⟨Nat.le_of_ble_eq_true rfl, Nat.le_of_ble_eq_true rfl⟩ hK hP hS [0] rfl 0 rfl rfl rfl rfl hl.1 rfl (Nat.le_of_ble_eq_true rfl) dX12_drop_3 ⟨Nat.le_of_ble_eq_true rfl, Nat.le_of_ble_eq_true rfl⟩ (fun r_1 H locs hw hP hS => ?_)
  subst hw
  refine lv_if_ne (tgt := 15) hx hb dX12_drop_6 (by decide) (fun c_2 => (z_abs c_2 (by decide)).elim) (fun _ => ?_)
  refine lv_aload_n hx hb dX12_drop_9 rfl (lv_at hl 0 rfl) ?_
  refine lv_iconst (v := 2) hx hb dX12_drop_10 (by decide) ?_
  refine zwV (As := [.int 2]) (rest := []) (C := RX12) (n := 1) (wr := []) ⟨hx, hb, hml, hown, ht⟩ (k_X12_refuses l D _ a 2 (by first | decide | omega)) (zgV ml_X12_399 im_X12_refuses se_X12_refuses in_X12 co_X12_refuses) rfl rfl (by decide +kernel) ⟨Nat.le_of_ble_eq_true rfl, Nat.le_of_ble_eq_true rfl⟩ hK hP hD hS hA [0, 1] [] rfl rfl rfl rfl (by decide) 0 rfl rfl rfl rfl hl.1 rfl (Nat.le_of_ble_eq_true rfl) dX12_drop_11 ⟨Nat.le_of_ble_eq_true rfl, Nat.le_of_ble_eq_true rfl⟩ (fun r_5 u_4 H locs hw hP hD hS => ?_)
  have hP : va_P D vwCl [] H := hP
  have hD : va_D A [] := hD
  subst hw
  have hP9 := hP.sub (ws' := []) [] rfl
  have hD9 := hD.sub (ws' := []) [] (by decide) rfl
  refine W.widen (k := 0) (n := 0) (Nat.le_of_ble_eq_true rfl) (Nat.le_of_ble_eq_true rfl) ?_
  exact W.iret (v := (-1)) hx hb hr (fun t ht hW => ⟨⟨(-1), (), rfl, rfl, by rw [ht]; exact hP9, va_K.moved hW.alike hK, hD9⟩, hS.F ht⟩) hS.2.2 dX12_drop_14
set_option maxHeartbeats 4000000 in
set_option maxRecDepth 100000 in
theorem k_X12_checkpoint (l : Launch) (D : va_G) (sz : Nat) (a : Nat → Nat)  : Met l yX12_checkpoint (wz yX12_checkpoint cX12_checkpoint 2 (some .int)) { frames := 1, cells := 0, slots := 0, locals := 60 } (va_Pc [.ref (a 200)] (zW D sz [((a 200), .inr (12, mO a 0 0 0 0 0 0 0 (-1) 0 0 1 0)), ((a 9), .inl (D.1 13, 6, .inl (fun _ => 0)))])) (va_Qi (fun r (_ : Unit) => r = (-1)) (fun u t => zB D (va_A [((a 200), .inr (12, mO a 0 0 0 0 0 0 0 (-1) 0 0 1 0)), ((a 9), .inl (D.1 13, 6, .inl (fun _ => 0)))] sz) ((fun (_ : Unit) => []) u) t) (va_A [((a 200), .inr (12, mO a 0 0 0 0 0 0 0 (-1) 0 0 1 0)), ((a 9), .inl (D.1 13, 6, .inl (fun _ => 0)))] sz)) 0 0 (va_A [((a 200), .inr (12, mO a 0 0 0 0 0 0 0 (-1) 0 0 1 0)), ((a 9), .inl (D.1 13, 6, .inl (fun _ => 0)))] sz) := by
  refine Met.ofW (cc := cX12_checkpoint) (maxL := 2) (ret := (some .int)) (by decide) rfl ?_
  intro p e s m args below meth c s₁ B hml hv
  obtain ⟨rfl, hsz, hP, hK, hD0⟩ := hv
  have hx := B.exec
  have hb := B.bytes
  have hr := B.returns
  have hts := atoms_spec (ws := wz yX12_checkpoint cX12_checkpoint 2 (some .int)) B.pre
  have ht : ∀ w ∈ lw_gd, w.before _ s = true := fun w h => hts w (List.mem_cons_of_mem _ h)
  have hown : s.vm.findClass RX12 = some m.cls := findClass_of_methodNamed B.named
  have hlocks := B.notSynchronized
  subst hsz
  have hD := hD0.self (sz := s.heap.size)
  generalize hAe : va_A [((a 200), .inr (12, mO a 0 0 0 0 0 0 0 (-1) 0 0 1 0)), ((a 9), .inl (D.1 13, 6, .inl (fun _ => 0)))] s.heap.size = A at hD ⊢
  have hA : ∀ q : Nat, s.heap.size ≤ q → A q := fun q h => by rw [← hAe]; exact Or.inr h
  have hS : va_S A s.heap s.heap [] := va_S.rf
  have hl := lv_entry ([.ref (a 200)]) (n := 2) (Nat.le_of_ble_eq_true rfl)
  rw [lg_entry_eq]
  generalize (lg_sl ([.ref (a 200)]) ++ List.replicate (2 - (lg_sl ([.ref (a 200)])).length) Slot.unset).toArray = ls at hl ⊢
  have hl : lv_has ls 2 [(0, .ref (a 200))] := hl
  refine lv_aload_n hx hb dX12_checkpoint_0 rfl (lv_at hl 0 rfl) ?_
  refine va_get (D := D) (ci := 12) (v := .int 0) (C := RX12) (T := TX12) (N := 116) hx hb ht inX12 hown hK hP 0 rfl rfl 47 (by decide) (ht (.fieldLink RX12 406 "CloneVolumesModel" "isTold" "Z") fl_X12_406) (fun _ h9 => h9) rfl dX12_checkpoint_1 ?_
  refine lv_if_ne (tgt := 13) hx hb dX12_checkpoint_4 (by decide) (fun c_1 => (z_abs c_1 (by decide)).elim) (fun _ => ?_)
  refine lv_aload_n hx hb dX12_checkpoint_7 rfl (lv_at hl 0 rfl) ?_
  refine lv_iconst (v := 3) hx hb dX12_checkpoint_8 (by decide) ?_
  refine zwV (As := [.int 3]) (rest := []) (C := RX12) (n := 1) (wr := []) ⟨hx, hb, hml, hown, ht⟩ (k_X12_refuses l D _ a 3 (by first | decide | omega)) (zgV ml_X12_399 im_X12_refuses se_X12_refuses in_X12 co_X12_refuses) rfl rfl (by decide +kernel) ⟨Nat.le_of_ble_eq_true rfl, Nat.le_of_ble_eq_true rfl⟩ hK hP hD hS hA [0, 1] [] rfl rfl rfl rfl (by decide) 0 rfl rfl rfl rfl hl.1 rfl (Nat.le_of_ble_eq_true rfl) dX12_checkpoint_9 ⟨Nat.le_of_ble_eq_true rfl, Nat.le_of_ble_eq_true rfl⟩ (fun r_4 u_3 H locs hw hP hD hS => ?_)
  have hP : va_P D vwCl [] H := hP
  have hD : va_D A [] := hD
  subst hw
  have hP9 := hP.sub (ws' := []) [] rfl
  have hD9 := hD.sub (ws' := []) [] (by decide) rfl
  refine W.widen (k := 0) (n := 0) (Nat.le_of_ble_eq_true rfl) (Nat.le_of_ble_eq_true rfl) ?_
  exact W.iret (v := (-1)) hx hb hr (fun t ht hW => ⟨⟨(-1), (), rfl, rfl, by rw [ht]; exact hP9, va_K.moved hW.alike hK, hD9⟩, hS.F ht⟩) hS.2.2 dX12_checkpoint_12
set_option maxHeartbeats 4000000 in
set_option maxRecDepth 100000 in
theorem k_X12_crash (l : Launch) (D : va_G) (sz : Nat) (a : Nat → Nat)  : Met l yX12_crash (wz yX12_crash cX12_crash 3 (some .int)) { frames := 1, cells := 0, slots := 0, locals := 60 } (va_Pc [.ref (a 200)] (zW D sz [((a 200), .inr (12, mO a 0 0 0 0 0 0 0 (-1) 0 0 1 0)), ((a 9), .inl (D.1 13, 6, .inl (fun _ => 0)))])) (va_Qi (fun r (_ : Unit) => r = (-1)) (fun u t => zB D (va_A [((a 200), .inr (12, mO a 0 0 0 0 0 0 0 (-1) 0 0 1 0)), ((a 9), .inl (D.1 13, 6, .inl (fun _ => 0)))] sz) ((fun (_ : Unit) => []) u) t) (va_A [((a 200), .inr (12, mO a 0 0 0 0 0 0 0 (-1) 0 0 1 0)), ((a 9), .inl (D.1 13, 6, .inl (fun _ => 0)))] sz)) 0 0 (va_A [((a 200), .inr (12, mO a 0 0 0 0 0 0 0 (-1) 0 0 1 0)), ((a 9), .inl (D.1 13, 6, .inl (fun _ => 0)))] sz) := by
  refine Met.ofW (cc := cX12_crash) (maxL := 3) (ret := (some .int)) (by decide) rfl ?_
  intro p e s m args below meth c s₁ B hml hv
  obtain ⟨rfl, hsz, hP, hK, hD0⟩ := hv
  have hx := B.exec
  have hb := B.bytes
  have hr := B.returns
  have hts := atoms_spec (ws := wz yX12_crash cX12_crash 3 (some .int)) B.pre
  have ht : ∀ w ∈ lw_gd, w.before _ s = true := fun w h => hts w (List.mem_cons_of_mem _ h)
  have hown : s.vm.findClass RX12 = some m.cls := findClass_of_methodNamed B.named
  have hlocks := B.notSynchronized
  subst hsz
  have hD := hD0.self (sz := s.heap.size)
  generalize hAe : va_A [((a 200), .inr (12, mO a 0 0 0 0 0 0 0 (-1) 0 0 1 0)), ((a 9), .inl (D.1 13, 6, .inl (fun _ => 0)))] s.heap.size = A at hD ⊢
  have hA : ∀ q : Nat, s.heap.size ≤ q → A q := fun q h => by rw [← hAe]; exact Or.inr h
  have hS : va_S A s.heap s.heap [] := va_S.rf
  have hl := lv_entry ([.ref (a 200)]) (n := 3) (Nat.le_of_ble_eq_true rfl)
  rw [lg_entry_eq]
  generalize (lg_sl ([.ref (a 200)]) ++ List.replicate (3 - (lg_sl ([.ref (a 200)])).length) Slot.unset).toArray = ls at hl ⊢
  have hl : lv_has ls 3 [(0, .ref (a 200))] := hl
  refine lv_aload_n hx hb dX12_crash_0 rfl (lv_at hl 0 rfl) ?_
  refine va_get (D := D) (ci := 12) (v := .int 0) (C := RX12) (T := TX12) (N := 116) hx hb ht inX12 hown hK hP 0 rfl rfl 47 (by decide) (ht (.fieldLink RX12 406 "CloneVolumesModel" "isTold" "Z") fl_X12_406) (fun _ h9 => h9) rfl dX12_crash_1 ?_
  refine lv_if_ne (tgt := 13) hx hb dX12_crash_4 (by decide) (fun c_1 => (z_abs c_1 (by decide)).elim) (fun _ => ?_)
  refine lv_aload_n hx hb dX12_crash_7 rfl (lv_at hl 0 rfl) ?_
  refine lv_iconst (v := 3) hx hb dX12_crash_8 (by decide) ?_
  refine zwV (As := [.int 3]) (rest := []) (C := RX12) (n := 1) (wr := []) ⟨hx, hb, hml, hown, ht⟩ (k_X12_refuses l D _ a 3 (by first | decide | omega)) (zgV ml_X12_399 im_X12_refuses se_X12_refuses in_X12 co_X12_refuses) rfl rfl (by decide +kernel) ⟨Nat.le_of_ble_eq_true rfl, Nat.le_of_ble_eq_true rfl⟩ hK hP hD hS hA [0, 1] [] rfl rfl rfl rfl (by decide) 0 rfl rfl rfl rfl hl.1 rfl (Nat.le_of_ble_eq_true rfl) dX12_crash_9 ⟨Nat.le_of_ble_eq_true rfl, Nat.le_of_ble_eq_true rfl⟩ (fun r_4 u_3 H locs hw hP hD hS => ?_)
  have hP : va_P D vwCl [] H := hP
  have hD : va_D A [] := hD
  subst hw
  have hP9 := hP.sub (ws' := []) [] rfl
  have hD9 := hD.sub (ws' := []) [] (by decide) rfl
  refine W.widen (k := 0) (n := 0) (Nat.le_of_ble_eq_true rfl) (Nat.le_of_ble_eq_true rfl) ?_
  exact W.iret (v := (-1)) hx hb hr (fun t ht hW => ⟨⟨(-1), (), rfl, rfl, by rw [ht]; exact hP9, va_K.moved hW.alike hK, hD9⟩, hS.F ht⟩) hS.2.2 dX12_crash_12
set_option maxHeartbeats 4000000 in
set_option maxRecDepth 100000 in
theorem k_X12_chance (l : Launch) (D : va_G) (sz : Nat) (a : Nat → Nat) (p0 : Int32) : Met l yX12_chance (wz yX12_chance cX12_chance 4 (some .int)) { frames := 1, cells := 0, slots := 0, locals := 60 } (va_Pc [.ref (a 200), .int p0] (zW D sz [((a 200), .inr (12, mO a 0 0 0 0 0 0 0 (-1) 0 0 1 0)), ((a 9), .inl (D.1 13, 6, .inl (fun _ => 0)))])) (va_Qi (fun r (_ : Unit) => r = (-1)) (fun u t => zB D (va_A [((a 200), .inr (12, mO a 0 0 0 0 0 0 0 (-1) 0 0 1 0)), ((a 9), .inl (D.1 13, 6, .inl (fun _ => 0)))] sz) ((fun (_ : Unit) => []) u) t) (va_A [((a 200), .inr (12, mO a 0 0 0 0 0 0 0 (-1) 0 0 1 0)), ((a 9), .inl (D.1 13, 6, .inl (fun _ => 0)))] sz)) 0 0 (va_A [((a 200), .inr (12, mO a 0 0 0 0 0 0 0 (-1) 0 0 1 0)), ((a 9), .inl (D.1 13, 6, .inl (fun _ => 0)))] sz) := by
  refine Met.ofW (cc := cX12_chance) (maxL := 4) (ret := (some .int)) (by decide) rfl ?_
  intro p e s m args below meth c s₁ B hml hv
  obtain ⟨rfl, hsz, hP, hK, hD0⟩ := hv
  have hx := B.exec
  have hb := B.bytes
  have hr := B.returns
  have hts := atoms_spec (ws := wz yX12_chance cX12_chance 4 (some .int)) B.pre
  have ht : ∀ w ∈ lw_gd, w.before _ s = true := fun w h => hts w (List.mem_cons_of_mem _ h)
  have hown : s.vm.findClass RX12 = some m.cls := findClass_of_methodNamed B.named
  have hlocks := B.notSynchronized
  subst hsz
  have hD := hD0.self (sz := s.heap.size)
  generalize hAe : va_A [((a 200), .inr (12, mO a 0 0 0 0 0 0 0 (-1) 0 0 1 0)), ((a 9), .inl (D.1 13, 6, .inl (fun _ => 0)))] s.heap.size = A at hD ⊢
  have hA : ∀ q : Nat, s.heap.size ≤ q → A q := fun q h => by rw [← hAe]; exact Or.inr h
  have hS : va_S A s.heap s.heap [] := va_S.rf
  have hl := lv_entry ([.ref (a 200), .int p0]) (n := 4) (Nat.le_of_ble_eq_true rfl)
  rw [lg_entry_eq]
  generalize (lg_sl ([.ref (a 200), .int p0]) ++ List.replicate (4 - (lg_sl ([.ref (a 200), .int p0])).length) Slot.unset).toArray = ls at hl ⊢
  have hl : lv_has ls 4 [(0, .ref (a 200)), (1, .int p0)] := hl
  refine lv_aload_n hx hb dX12_chance_0 rfl (lv_at hl 0 rfl) ?_
  refine va_get (D := D) (ci := 12) (v := .int 0) (C := RX12) (T := TX12) (N := 116) hx hb ht inX12 hown hK hP 0 rfl rfl 47 (by decide) (ht (.fieldLink RX12 406 "CloneVolumesModel" "isTold" "Z") fl_X12_406) (fun _ h9 => h9) rfl dX12_chance_1 ?_
  refine lv_if_eq (tgt := 19) hx hb dX12_chance_4 (by decide) (fun _ => ?_) (fun c_1 => (z_abs c_1 (by decide)).elim)
  refine lv_aload_n hx hb dX12_chance_19 rfl (lv_at hl 0 rfl) ?_
  refine lv_iconst (v := 3) hx hb dX12_chance_20 (by decide) ?_
  refine zwV (As := [.int 3]) (rest := []) (C := RX12) (n := 1) (wr := []) ⟨hx, hb, hml, hown, ht⟩ (k_X12_refuses l D _ a 3 (by first | decide | omega)) (zgV ml_X12_399 im_X12_refuses se_X12_refuses in_X12 co_X12_refuses) rfl rfl (by decide +kernel) ⟨Nat.le_of_ble_eq_true rfl, Nat.le_of_ble_eq_true rfl⟩ hK hP hD hS hA [0, 1] [] rfl rfl rfl rfl (by decide) 0 rfl rfl rfl rfl hl.1 rfl (Nat.le_of_ble_eq_true rfl) dX12_chance_21 ⟨Nat.le_of_ble_eq_true rfl, Nat.le_of_ble_eq_true rfl⟩ (fun r_4 u_3 H locs hw hP hD hS => ?_)
  have hP : va_P D vwCl [] H := hP
  have hD : va_D A [] := hD
  subst hw
  have hP9 := hP.sub (ws' := []) [] rfl
  have hD9 := hD.sub (ws' := []) [] (by decide) rfl
  refine W.widen (k := 0) (n := 0) (Nat.le_of_ble_eq_true rfl) (Nat.le_of_ble_eq_true rfl) ?_
  exact W.iret (v := (-1)) hx hb hr (fun t ht hW => ⟨⟨(-1), (), rfl, rfl, by rw [ht]; exact hP9, va_K.moved hW.alike hK, hD9⟩, hS.F ht⟩) hS.2.2 dX12_chance_24
set_option maxHeartbeats 4000000 in
set_option maxRecDepth 100000 in
theorem k_X12_on (l : Launch) (D : va_G) (sz : Nat) (a : Nat → Nat)  : Met l yX12_on (wz yX12_on cX12_on 3 (some .boolean)) { frames := 1, cells := 0, slots := 0, locals := 60 } (va_Pc [.ref (a 200)] (zW D sz [((a 200), .inr (12, mO a 0 0 0 0 0 0 0 (-1) 0 0 1 0)), ((a 9), .inl (D.1 13, 6, .inl (fun _ => 0)))])) (va_Qi (fun r (_ : Unit) => r = 0) (fun u t => zB D (va_A [((a 200), .inr (12, mO a 0 0 0 0 0 0 0 (-1) 0 0 1 0)), ((a 9), .inl (D.1 13, 6, .inl (fun _ => 0)))] sz) ((fun (_ : Unit) => []) u) t) (va_A [((a 200), .inr (12, mO a 0 0 0 0 0 0 0 (-1) 0 0 1 0)), ((a 9), .inl (D.1 13, 6, .inl (fun _ => 0)))] sz)) 0 0 (va_A [((a 200), .inr (12, mO a 0 0 0 0 0 0 0 (-1) 0 0 1 0)), ((a 9), .inl (D.1 13, 6, .inl (fun _ => 0)))] sz) := by
  refine Met.ofW (cc := cX12_on) (maxL := 3) (ret := (some .boolean)) (by decide) rfl ?_
  intro p e s m args below meth c s₁ B hml hv
  obtain ⟨rfl, hsz, hP, hK, hD0⟩ := hv
  have hx := B.exec
  have hb := B.bytes
  have hr := B.returns
  have hts := atoms_spec (ws := wz yX12_on cX12_on 3 (some .boolean)) B.pre
  have ht : ∀ w ∈ lw_gd, w.before _ s = true := fun w h => hts w (List.mem_cons_of_mem _ h)
  have hown : s.vm.findClass RX12 = some m.cls := findClass_of_methodNamed B.named
  have hlocks := B.notSynchronized
  subst hsz
  have hD := hD0.self (sz := s.heap.size)
  generalize hAe : va_A [((a 200), .inr (12, mO a 0 0 0 0 0 0 0 (-1) 0 0 1 0)), ((a 9), .inl (D.1 13, 6, .inl (fun _ => 0)))] s.heap.size = A at hD ⊢
  have hA : ∀ q : Nat, s.heap.size ≤ q → A q := fun q h => by rw [← hAe]; exact Or.inr h
  have hS : va_S A s.heap s.heap [] := va_S.rf
  have hl := lv_entry ([.ref (a 200)]) (n := 3) (Nat.le_of_ble_eq_true rfl)
  rw [lg_entry_eq]
  generalize (lg_sl ([.ref (a 200)]) ++ List.replicate (3 - (lg_sl ([.ref (a 200)])).length) Slot.unset).toArray = ls at hl ⊢
  have hl : lv_has ls 3 [(0, .ref (a 200))] := hl
  refine lv_aload_n hx hb dX12_on_0 rfl (lv_at hl 0 rfl) ?_
  refine va_get (D := D) (ci := 12) (v := .int 0) (C := RX12) (T := TX12) (N := 116) hx hb ht inX12 hown hK hP 0 rfl rfl 1 (by decide) (ht (.fieldLink RX12 263 "CloneVolumesModel" "taped" "I") fl_X12_263) (fun _ h9 => h9) rfl dX12_on_1 ?_
  refine lv_istore_n (lv' := [(1, .int 0), (0, .ref (a 200))]) hx hb dX12_on_4 rfl hl (by decide) rfl (fun ls hl => ?_)
  refine lv_aload_n hx hb dX12_on_5 rfl (lv_at hl 1 rfl) ?_
  refine lv_iconst (v := 0) hx hb dX12_on_6 (by decide) ?_
  refine va_put (D := D) (ci := 12) (v := .int 0) (ty := .int) (C := RX12) (T := TX12) (N := 116) hx hb ht inX12 tyX12 tyX12_ok nmX12 hown hK hP hD hS 0 rfl rfl 1 (by decide) (ht (.fieldLink RX12 263 "CloneVolumesModel" "taped" "I") fl_X12_263) (fun _ h9 => h9) rfl (by decide +kernel) rfl rfl (Nat.le_of_ble_eq_true rfl) dX12_on_7 (fun H locs hP hD hS => ?_)
  have hP : va_P D vwCl [((a 200), .inr (12, mO a 0 0 0 0 0 0 0 (-1) 0 0 1 0)), ((a 9), .inl (D.1 13, 6, .inl (fun _ => 0)))] H := hP
  have hD : va_D A [((a 200), .inr (12, mO a 0 0 0 0 0 0 0 (-1) 0 0 1 0)), ((a 9), .inl (D.1 13, 6, .inl (fun _ => 0)))] := hD
  refine lv_aload_n hx hb dX12_on_10 rfl (lv_at hl 1 rfl) ?_
  refine lv_iload_n hx hb dX12_on_11 rfl (lv_at hl 0 rfl) ?_
  refine zcV (As := [.int 0]) (rest := []) (C := RX12) (n := 1) ⟨hx, hb, hml, hown, ht⟩ (k_X12_isImage l D a) (zgV ml_X12_835 im_X12_isImage se_X12_isImage in_X12 co_X12_isImage) rfl rfl (by decide +kernel) ⟨Nat.le_of_ble_eq_true rfl, Nat.le_of_ble_eq_true rfl⟩ hK hP hS [0] rfl 0 rfl rfl rfl rfl hl.1 rfl (Nat.le_of_ble_eq_true rfl) dX12_on_12 ⟨Nat.le_of_ble_eq_true rfl, Nat.le_of_ble_eq_true rfl⟩ (fun r_1 H locs hw hP hS => ?_)
  subst hw
  refine lv_if_ne (tgt := 24) hx hb dX12_on_15 (by decide) (fun c_2 => (z_abs c_2 (by decide)).elim) (fun _ => ?_)
  refine lv_aload_n hx hb dX12_on_18 rfl (lv_at hl 1 rfl) ?_
  refine lv_iconst (v := 5) hx hb dX12_on_19 (by decide) ?_
  refine zwV (As := [.int 5]) (rest := []) (C := RX12) (n := 1) (wr := []) ⟨hx, hb, hml, hown, ht⟩ (k_X12_isRefused l D _ a 5 (by first | decide | omega)) (zgV ml_X12_671 im_X12_isRefused se_X12_isRefused in_X12 co_X12_isRefused) rfl rfl (by decide +kernel) ⟨Nat.le_of_ble_eq_true rfl, Nat.le_of_ble_eq_true rfl⟩ hK hP hD hS hA [0, 1] [] rfl rfl rfl rfl (by decide) 0 rfl rfl rfl rfl hl.1 rfl (Nat.le_of_ble_eq_true rfl) dX12_on_20 ⟨Nat.le_of_ble_eq_true rfl, Nat.le_of_ble_eq_true rfl⟩ (fun r_5 u_4 H locs hw hP hD hS => ?_)
  have hP : va_P D vwCl [] H := hP
  have hD : va_D A [] := hD
  subst hw
  have hP9 := hP.sub (ws' := []) [] rfl
  have hD9 := hD.sub (ws' := []) [] (by decide) rfl
  refine W.widen (k := 0) (n := 0) (Nat.le_of_ble_eq_true rfl) (Nat.le_of_ble_eq_true rfl) ?_
  exact W.zret (v := 0) hx hb hr (by decide) (fun t ht hW => ⟨⟨0, (), rfl, rfl, by rw [ht]; exact hP9, va_K.moved hW.alike hK, hD9⟩, hS.F ht⟩) hS.2.2 dX12_on_23
set_option maxHeartbeats 4000000 in
set_option maxRecDepth 100000 in
theorem k_X12_ask (l : Launch) (D : va_G) (sz : Nat) (a : Nat → Nat)  : Met l yX12_ask (wz yX12_ask cX12_ask 3 (some .long)) { frames := 0, cells := 0, slots := 0, locals := 0 } (va_Pc [.ref (a 200)] (zW D sz [((a 200), .inr (12, mO a 0 0 0 0 0 0 0 (-1) 0 0 1 0))])) (va_Ql (fun r (_ : Unit) => r = (-1000000000000000)) (fun u t => zB D (va_A [((a 200), .inr (12, mO a 0 0 0 0 0 0 0 (-1) 0 0 1 0))] sz) ((fun (_ : Unit) => []) u) t) (va_A [((a 200), .inr (12, mO a 0 0 0 0 0 0 0 (-1) 0 0 1 0))] sz)) 0 0 (va_A [((a 200), .inr (12, mO a 0 0 0 0 0 0 0 (-1) 0 0 1 0))] sz) := by
  refine Met.ofW (cc := cX12_ask) (maxL := 3) (ret := (some .long)) (by decide) rfl ?_
  intro p e s m args below meth c s₁ B hml hv
  obtain ⟨rfl, hsz, hP, hK, hD0⟩ := hv
  have hx := B.exec
  have hb := B.bytes
  have hr := B.returns
  have hts := atoms_spec (ws := wz yX12_ask cX12_ask 3 (some .long)) B.pre
  have ht : ∀ w ∈ lw_gd, w.before _ s = true := fun w h => hts w (List.mem_cons_of_mem _ h)
  have hown : s.vm.findClass RX12 = some m.cls := findClass_of_methodNamed B.named
  have hlocks := B.notSynchronized
  subst hsz
  have hD := hD0.self (sz := s.heap.size)
  generalize hAe : va_A [((a 200), .inr (12, mO a 0 0 0 0 0 0 0 (-1) 0 0 1 0))] s.heap.size = A at hD ⊢
  have hA : ∀ q : Nat, s.heap.size ≤ q → A q := fun q h => by rw [← hAe]; exact Or.inr h
  have hS : va_S A s.heap s.heap [] := va_S.rf
  have hl := lv_entry ([.ref (a 200)]) (n := 3) (Nat.le_of_ble_eq_true rfl)
  rw [lg_entry_eq]
  generalize (lg_sl ([.ref (a 200)]) ++ List.replicate (3 - (lg_sl ([.ref (a 200)])).length) Slot.unset).toArray = ls at hl ⊢
  have hl : lv_has ls 3 [(0, .ref (a 200))] := hl
  refine lv_aload_n hx hb dX12_ask_0 rfl (lv_at hl 0 rfl) ?_
  refine va_get (D := D) (ci := 12) (v := .int 0) (C := RX12) (T := TX12) (N := 116) hx hb ht inX12 hown hK hP 0 rfl rfl 47 (by decide) (ht (.fieldLink RX12 406 "CloneVolumesModel" "isTold" "Z") fl_X12_406) (fun _ h9 => h9) rfl dX12_ask_1 ?_
  refine lv_if_ne (tgt := 16) hx hb dX12_ask_4 (by decide) (fun c_1 => (z_abs c_1 (by decide)).elim) (fun _ => ?_)
  refine lv_aload_n hx hb dX12_ask_7 rfl (lv_at hl 0 rfl) ?_
  refine lv_iconst (v := 0) hx hb dX12_ask_8 (by decide) ?_
  refine va_put (D := D) (ci := 12) (v := .int 0) (ty := .int) (C := RX12) (T := TX12) (N := 116) hx hb ht inX12 tyX12 tyX12_ok nmX12 hown hK hP hD hS 0 rfl rfl 1 (by decide) (ht (.fieldLink RX12 263 "CloneVolumesModel" "taped" "I") fl_X12_263) (fun _ h9 => h9) rfl (by decide +kernel) rfl rfl (Nat.le_of_ble_eq_true rfl) dX12_ask_9 (fun H locs hP hD hS => ?_)
  have hP : va_P D vwCl [((a 200), .inr (12, mO a 0 0 0 0 0 0 0 (-1) 0 0 1 0))] H := hP
  have hD : va_D A [((a 200), .inr (12, mO a 0 0 0 0 0 0 0 (-1) 0 0 1 0))] := hD
  refine lv_ldc2 (own := RX12) (v := (-1000000000000000)) hx hb hown (ht _ cl_X12_771) dX12_ask_12 ?_
  have hP9 := hP.sub (ws' := []) [] rfl
  have hD9 := hD.sub (ws' := []) [] (by decide) rfl
  refine W.widen (k := 0) (n := 0) (Nat.le_of_ble_eq_true rfl) (Nat.le_of_ble_eq_true rfl) ?_
  exact W.lret (v := (-1000000000000000)) hx hb hr (fun t ht hW => ⟨⟨(-1000000000000000), (), rfl, rfl, by rw [ht]; exact hP9, va_K.moved hW.alike hK, hD9⟩, hS.F ht⟩) hS.2.2 dX12_ask_15
