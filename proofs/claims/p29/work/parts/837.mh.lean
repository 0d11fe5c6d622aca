theorem ck_X12_492 : Cond.constant RX12 492 999999 ∈ lw_gd := zm (lw_g_10 (List.mem_of_getElem? (i := 90) (by decide +kernel))) rfl
theorem cl_X12_441 : Cond.constantLong RX12 441 7 ∈ lw_gd := zm (lw_g_9 (List.mem_of_getElem? (i := 133) (by decide +kernel))) rfl
theorem co_X12_actGoes : Cond.code yX12_actGoes cX12_actGoes 5 none ∈ lw_gd := zm (lw_g_8 (List.mem_of_getElem? (i := 200) (by decide +kernel))) rfl
theorem co_X12_checks : Cond.code yX12_checks cX12_checks 2 none ∈ lw_gd := zm (lw_g_9 (List.mem_of_getElem? (i := 116) (by decide +kernel))) rfl
theorem co_X12_clamp : Cond.code yX12_clamp cX12_clamp 2 (some .int) ∈ lw_gd := zm (lw_g_10 (List.mem_of_getElem? (i := 15) (by decide +kernel))) rfl
theorem co_X12_copies : Cond.code yX12_copies cX12_copies 3 none ∈ lw_gd := zm (lw_g_8 (List.mem_of_getElem? (i := 204) (by decide +kernel))) rfl
theorem co_X12_costOf : Cond.code yX12_costOf cX12_costOf 2 (some .int) ∈ lw_gd := zm (lw_g_10 (List.mem_of_getElem? (i := 12) (by decide +kernel))) rfl
theorem co_X12_refuses : Cond.code yX12_refuses cX12_refuses 2 (some .int) ∈ lw_gd := zm (lw_g_8 (List.mem_of_getElem? (i := 192) (by decide +kernel))) rfl
theorem co_X12_stands : Cond.code yX12_stands cX12_stands 2 none ∈ lw_gd := zm (lw_g_8 (List.mem_of_getElem? (i := 196) (by decide +kernel))) rfl
theorem co_X12_statementTold : Cond.code yX12_statementTold cX12_statementTold 2 none ∈ lw_gd := zm (lw_g_8 (List.mem_of_getElem? (i := 71) (by decide +kernel))) rfl
theorem co_X12_storeTold : Cond.code yX12_storeTold cX12_storeTold 1 none ∈ lw_gd := zm (lw_g_8 (List.mem_of_getElem? (i := 26) (by decide +kernel))) rfl
theorem co_X12_tries : Cond.code yX12_tries cX12_tries 6 (some .boolean) ∈ lw_gd := zm (lw_g_8 (List.mem_of_getElem? (i := 212) (by decide +kernel))) rfl
theorem co_X12_writtenCost : Cond.code yX12_writtenCost cX12_writtenCost 3 (some .int) ∈ lw_gd := zm (lw_g_10 (List.mem_of_getElem? (i := 8) (by decide +kernel))) rfl
theorem co_X12_writtenMany : Cond.code yX12_writtenMany cX12_writtenMany 3 (some .int) ∈ lw_gd := zm (lw_g_10 (List.mem_of_getElem? (i := 4) (by decide +kernel))) rfl
theorem fl_X12_396 : Cond.fieldLink RX12 396 "CloneVolumesModel" "fault" "I" ∈ lw_gd := zm (lw_g_6 (List.mem_of_getElem? (i := 148) (by decide +kernel))) rfl
theorem fl_X12_406 : Cond.fieldLink RX12 406 "CloneVolumesModel" "isTold" "Z" ∈ lw_gd := zm (lw_g_6 (List.mem_of_getElem? (i := 188) (by decide +kernel))) rfl
theorem fl_X12_416 : Cond.fieldLink RX12 416 "CloneVolumesModel" "undoable" "I" ∈ lw_gd := zm (lw_g_6 (List.mem_of_getElem? (i := 217) (by decide +kernel))) rfl
theorem fl_X12_419 : Cond.fieldLink RX12 419 "CloneVolumesModel" "rowMany" "I" ∈ lw_gd := zm (lw_g_6 (List.mem_of_getElem? (i := 214) (by decide +kernel))) rfl
theorem im_X12_actGoes : Cond.instanceMethod yX12_actGoes ∈ lw_gd := zm (lw_g_8 (List.mem_of_getElem? (i := 199) (by decide +kernel))) rfl
theorem im_X12_checks : Cond.instanceMethod yX12_checks ∈ lw_gd := zm (lw_g_9 (List.mem_of_getElem? (i := 115) (by decide +kernel))) rfl
theorem im_X12_copies : Cond.instanceMethod yX12_copies ∈ lw_gd := zm (lw_g_8 (List.mem_of_getElem? (i := 203) (by decide +kernel))) rfl
theorem im_X12_costOf : Cond.instanceMethod yX12_costOf ∈ lw_gd := zm (lw_g_10 (List.mem_of_getElem? (i := 11) (by decide +kernel))) rfl
theorem im_X12_refuses : Cond.instanceMethod yX12_refuses ∈ lw_gd := zm (lw_g_8 (List.mem_of_getElem? (i := 191) (by decide +kernel))) rfl
theorem im_X12_stands : Cond.instanceMethod yX12_stands ∈ lw_gd := zm (lw_g_8 (List.mem_of_getElem? (i := 195) (by decide +kernel))) rfl
theorem im_X12_statementTold : Cond.instanceMethod yX12_statementTold ∈ lw_gd := zm (lw_g_8 (List.mem_of_getElem? (i := 70) (by decide +kernel))) rfl
theorem im_X12_storeTold : Cond.instanceMethod yX12_storeTold ∈ lw_gd := zm (lw_g_8 (List.mem_of_getElem? (i := 25) (by decide +kernel))) rfl
theorem im_X12_tries : Cond.instanceMethod yX12_tries ∈ lw_gd := zm (lw_g_8 (List.mem_of_getElem? (i := 211) (by decide +kernel))) rfl
theorem im_X12_writtenCost : Cond.instanceMethod yX12_writtenCost ∈ lw_gd := zm (lw_g_10 (List.mem_of_getElem? (i := 7) (by decide +kernel))) rfl
theorem im_X12_writtenMany : Cond.instanceMethod yX12_writtenMany ∈ lw_gd := zm (lw_g_10 (List.mem_of_getElem? (i := 3) (by decide +kernel))) rfl
theorem ml_X12_390 : Cond.methodLink RX12 390 yX12_storeTold ∈ lw_gd := zm (lw_g_8 (List.mem_of_getElem? (i := 23) (by decide +kernel))) rfl
theorem ml_X12_393 : Cond.methodLink RX12 393 yX12_statementTold ∈ lw_gd := zm (lw_g_8 (List.mem_of_getElem? (i := 68) (by decide +kernel))) rfl
theorem ml_X12_399 : Cond.methodLink RX12 399 yX12_refuses ∈ lw_gd := zm (lw_g_8 (List.mem_of_getElem? (i := 189) (by decide +kernel))) rfl
theorem ml_X12_403 : Cond.methodLink RX12 403 yX12_stands ∈ lw_gd := zm (lw_g_8 (List.mem_of_getElem? (i := 193) (by decide +kernel))) rfl
theorem ml_X12_410 : Cond.methodLink RX12 410 yX12_actGoes ∈ lw_gd := zm (lw_g_8 (List.mem_of_getElem? (i := 197) (by decide +kernel))) rfl
theorem ml_X12_413 : Cond.methodLink RX12 413 yX12_checks ∈ lw_gd := zm (lw_g_9 (List.mem_of_getElem? (i := 113) (by decide +kernel))) rfl
theorem ml_X12_422 : Cond.methodLink RX12 422 yX12_copies ∈ lw_gd := zm (lw_g_8 (List.mem_of_getElem? (i := 201) (by decide +kernel))) rfl
theorem ml_X12_425 : Cond.methodLink RX12 425 yX12_tries ∈ lw_gd := zm (lw_g_8 (List.mem_of_getElem? (i := 209) (by decide +kernel))) rfl
theorem ml_X12_479 : Cond.methodLink RX12 479 yX12_clamp ∈ lw_gd := zm (lw_g_10 (List.mem_of_getElem? (i := 13) (by decide +kernel))) rfl
theorem ml_X12_483 : Cond.methodLink RX12 483 yX12_costOf ∈ lw_gd := zm (lw_g_10 (List.mem_of_getElem? (i := 9) (by decide +kernel))) rfl
theorem ml_X12_486 : Cond.methodLink RX12 486 yX12_writtenMany ∈ lw_gd := zm (lw_g_10 (List.mem_of_getElem? (i := 1) (by decide +kernel))) rfl
theorem ml_X12_489 : Cond.methodLink RX12 489 yX12_writtenCost ∈ lw_gd := zm (lw_g_10 (List.mem_of_getElem? (i := 5) (by decide +kernel))) rfl
theorem se_X12_actGoes : Cond.selects RX12 yX12_actGoes yX12_actGoes ∈ lw_gd := zm (List.mem_of_getElem? (i := 109) (by decide +kernel)) rfl
theorem se_X12_checks : Cond.selects RX12 yX12_checks yX12_checks ∈ lw_gd := zm (List.mem_of_getElem? (i := 146) (by decide +kernel)) rfl
theorem se_X12_copies : Cond.selects RX12 yX12_copies yX12_copies ∈ lw_gd := zm (List.mem_of_getElem? (i := 110) (by decide +kernel)) rfl
theorem se_X12_costOf : Cond.selects RX12 yX12_costOf yX12_costOf ∈ lw_gd := zm (List.mem_of_getElem? (i := 165) (by decide +kernel)) rfl
theorem se_X12_refuses : Cond.selects RX12 yX12_refuses yX12_refuses ∈ lw_gd := zm (List.mem_of_getElem? (i := 107) (by decide +kernel)) rfl
theorem se_X12_stands : Cond.selects RX12 yX12_stands yX12_stands ∈ lw_gd := zm (List.mem_of_getElem? (i := 108) (by decide +kernel)) rfl
theorem se_X12_statementTold : Cond.selects RX12 yX12_statementTold yX12_statementTold ∈ lw_gd := zm (List.mem_of_getElem? (i := 78) (by decide +kernel)) rfl
theorem se_X12_storeTold : Cond.selects RX12 yX12_storeTold yX12_storeTold ∈ lw_gd := zm (List.mem_of_getElem? (i := 69) (by decide +kernel)) rfl
theorem se_X12_tries : Cond.selects RX12 yX12_tries yX12_tries ∈ lw_gd := zm (List.mem_of_getElem? (i := 112) (by decide +kernel)) rfl
theorem se_X12_writtenCost : Cond.selects RX12 yX12_writtenCost yX12_writtenCost ∈ lw_gd := zm (List.mem_of_getElem? (i := 164) (by decide +kernel)) rfl
theorem se_X12_writtenMany : Cond.selects RX12 yX12_writtenMany yX12_writtenMany ∈ lw_gd := zm (List.mem_of_getElem? (i := 163) (by decide +kernel)) rfl
theorem st_X12_clamp : Cond.static yX12_clamp ∈ lw_gd := zm (lw_g_10 (List.mem_of_getElem? (i := 14) (by decide +kernel))) rfl
theorem eX12_actGoes_0 : decode cX12_actGoes 0 = .ok (.iload_n 1, 1) ∧ decode cX12_actGoes 1 = .ok (.ifCond .ne 15, 3) ∧ decode cX12_actGoes 4 = .ok (.aload_n 0, 1) ∧ decode cX12_actGoes 5 = .ok (.getfield 121, 3) ∧ decode cX12_actGoes 8 = .ok (.iload_n 2, 1) ∧ decode cX12_actGoes 9 = .ok (.sipush 254, 3) ∧ decode cX12_actGoes 12 = .ok (.iastore, 1) ∧ decode cX12_actGoes 13 = .ok (.goto 27, 3) := by decide +kernel
theorem eX12_actGoes_16 : decode cX12_actGoes 16 = .ok (.iload_n 1, 1) ∧ decode cX12_actGoes 17 = .ok (.iconst 1, 1) ∧ decode cX12_actGoes 18 = .ok (.if_icmp .ne 12, 3) ∧ decode cX12_actGoes 21 = .ok (.aload_n 0, 1) ∧ decode cX12_actGoes 22 = .ok (.iload_n 2, 1) ∧ decode cX12_actGoes 23 = .ok (.iload_n 3, 1) ∧ decode cX12_actGoes 24 = .ok (.invokevirtual 422, 3) ∧ decode cX12_actGoes 27 = .ok (.goto 13, 3) := by decide +kernel
theorem eX12_actGoes_30 : decode cX12_actGoes 30 = .ok (.aload_n 0, 1) ∧ decode cX12_actGoes 31 = .ok (.iload_n 1, 1) ∧ decode cX12_actGoes 32 = .ok (.iload_n 2, 1) ∧ decode cX12_actGoes 33 = .ok (.iload_n 3, 1) ∧ decode cX12_actGoes 34 = .ok (.iload 4, 2) ∧ decode cX12_actGoes 36 = .ok (.invokevirtual 425, 3) ∧ decode cX12_actGoes 39 = .ok (.pop, 1) ∧ decode cX12_actGoes 40 = .ok (.return_, 1) := by decide +kernel
theorem eX12_clearsTouched_0 : decode cX12_clearsTouched 0 = .ok (.iconst 0, 1) ∧ decode cX12_clearsTouched 1 = .ok (.istore_n 1, 1) ∧ decode cX12_clearsTouched 2 = .ok (.iload_n 1, 1) ∧ decode cX12_clearsTouched 3 = .ok (.bipush 48, 2) ∧ decode cX12_clearsTouched 5 = .ok (.if_icmp .ge 16, 3) ∧ decode cX12_clearsTouched 8 = .ok (.aload_n 0, 1) ∧ decode cX12_clearsTouched 9 = .ok (.getfield 124, 3) ∧ decode cX12_clearsTouched 12 = .ok (.iload_n 1, 1) := by decide +kernel
theorem eX12_clearsTouched_13 : decode cX12_clearsTouched 13 = .ok (.iconst 0, 1) ∧ decode cX12_clearsTouched 14 = .ok (.bastore, 1) ∧ decode cX12_clearsTouched 15 = .ok (.iinc 1 1, 3) ∧ decode cX12_clearsTouched 18 = .ok (.goto (-16), 3) ∧ decode cX12_clearsTouched 21 = .ok (.return_, 1) ∧ decode cX12_copies 0 = .ok (.aload_n 0, 1) ∧ decode cX12_copies 1 = .ok (.getfield 121, 3) ∧ decode cX12_copies 4 = .ok (.iload_n 2, 1) := by decide +kernel
theorem eX12_copies_5 : decode cX12_copies 5 = .ok (.aload_n 0, 1) ∧ decode cX12_copies 6 = .ok (.getfield 121, 3) ∧ decode cX12_copies 9 = .ok (.iload_n 1, 1) ∧ decode cX12_copies 10 = .ok (.iaload, 1) ∧ decode cX12_copies 11 = .ok (.iastore, 1) ∧ decode cX12_copies 12 = .ok (.aload_n 0, 1) ∧ decode cX12_copies 13 = .ok (.getfield 121, 3) ∧ decode cX12_copies 16 = .ok (.iload_n 2, 1) := by decide +kernel
theorem eX12_copies_17 : decode cX12_copies 17 = .ok (.iaload, 1) ∧ decode cX12_copies 18 = .ok (.sipush 254, 3) ∧ decode cX12_copies 21 = .ok (.if_icmp .eq 14, 3) ∧ decode cX12_copies 24 = .ok (.aload_n 0, 1) ∧ decode cX12_copies 25 = .ok (.aload_n 0, 1) ∧ decode cX12_copies 26 = .ok (.getfield 121, 3) ∧ decode cX12_copies 29 = .ok (.iload_n 2, 1) ∧ decode cX12_copies 30 = .ok (.iaload, 1) := by decide +kernel
theorem eX12_copies_31 : decode cX12_copies 31 = .ok (.iconst 1, 1) ∧ decode cX12_copies 32 = .ok (.invokevirtual 502, 3) ∧ decode cX12_copies 35 = .ok (.return_, 1) ∧ decode cX12_costOf 0 = .ok (.aload_n 0, 1) ∧ decode cX12_costOf 1 = .ok (.iload_n 1, 1) ∧ decode cX12_costOf 2 = .ok (.putfield 457, 3) ∧ decode cX12_costOf 5 = .ok (.aload_n 0, 1) ∧ decode cX12_costOf 6 = .ok (.aload_n 0, 1) := by decide +kernel
theorem eX12_costOf_7 : decode cX12_costOf 7 = .ok (.iload_n 1, 1) ∧ decode cX12_costOf 8 = .ok (.invokevirtual 460, 3) ∧ decode cX12_costOf 11 = .ok (.putfield 463, 3) ∧ decode cX12_costOf 14 = .ok (.aload_n 0, 1) ∧ decode cX12_costOf 15 = .ok (.aload_n 0, 1) ∧ decode cX12_costOf 16 = .ok (.iload_n 1, 1) ∧ decode cX12_costOf 17 = .ok (.invokevirtual 466, 3) ∧ decode cX12_costOf 20 = .ok (.putfield 469, 3) := by decide +kernel
theorem eX12_costOf_23 : decode cX12_costOf 23 = .ok (.aload_n 0, 1) ∧ decode cX12_costOf 24 = .ok (.iconst 2, 1) ∧ decode cX12_costOf 25 = .ok (.invokevirtual 472, 3) ∧ decode cX12_costOf 28 = .ok (.ifCond .eq 14, 3) ∧ decode cX12_costOf 31 = .ok (.aload_n 0, 1) ∧ decode cX12_costOf 32 = .ok (.iconst 2, 1) ∧ decode cX12_costOf 33 = .ok (.invokevirtual 475, 3) ∧ decode cX12_costOf 36 = .ok (.invokestatic 479, 3) := by decide +kernel
theorem eX12_costOf_39 : decode cX12_costOf 39 = .ok (.goto 4, 3) ∧ decode cX12_costOf 42 = .ok (.iconst 1, 1) ∧ decode cX12_costOf 43 = .ok (.ireturn, 1) ∧ decode cX12_fault 0 = .ok (.iload_n 1, 1) ∧ decode cX12_fault 1 = .ok (.ifCond .ne 10, 3) ∧ decode cX12_fault 4 = .ok (.aload_n 0, 1) ∧ decode cX12_fault 5 = .ok (.getfield 396, 3) ∧ decode cX12_fault 8 = .ok (.goto 16, 3) := by decide +kernel
theorem eX12_fault_11 : decode cX12_fault 11 = .ok (.iload_n 1, 1) ∧ decode cX12_fault 12 = .ok (.iconst 1, 1) ∧ decode cX12_fault 13 = .ok (.if_icmp .ne 10, 3) ∧ decode cX12_fault 16 = .ok (.aload_n 0, 1) ∧ decode cX12_fault 17 = .ok (.getfield 13, 3) ∧ decode cX12_fault 20 = .ok (.goto 4, 3) ∧ decode cX12_fault 23 = .ok (.iconst (-1), 1) ∧ decode cX12_fault 24 = .ok (.ireturn, 1) := by decide +kernel
theorem eX12_isBlock_0 : decode cX12_isBlock 0 = .ok (.lload_n 1, 1) ∧ decode cX12_isBlock 1 = .ok (.lconst 0, 1) ∧ decode cX12_isBlock 2 = .ok (.aload_n 0, 1) ∧ decode cX12_isBlock 3 = .ok (.invokevirtual 429, 3) ∧ decode cX12_isBlock 6 = .ok (.iconst 1, 1) ∧ decode cX12_isBlock 7 = .ok (.isub, 1) ∧ decode cX12_isBlock 8 = .ok (.i2l, 1) ∧ decode cX12_isBlock 9 = .ok (.invokestatic 309, 3) := by decide +kernel
theorem eX12_isBlock_12 : decode cX12_isBlock 12 = .ok (.ireturn, 1) ∧ decode cX12_isHeld 0 = .ok (.aload_n 0, 1) ∧ decode cX12_isHeld 1 = .ok (.iload_n 1, 1) ∧ decode cX12_isHeld 2 = .ok (.invokevirtual 435, 3) ∧ decode cX12_isHeld 5 = .ok (.ifCond .ne 15, 3) ∧ decode cX12_isHeld 8 = .ok (.aload_n 0, 1) ∧ decode cX12_isHeld 9 = .ok (.iload_n 1, 1) ∧ decode cX12_isHeld 10 = .ok (.invokevirtual 438, 3) := by decide +kernel
theorem eX12_isHeld_13 : decode cX12_isHeld 13 = .ok (.ifCond .le 7, 3) ∧ decode cX12_isHeld 16 = .ok (.iconst 1, 1) ∧ decode cX12_isHeld 17 = .ok (.goto 4, 3) ∧ decode cX12_isHeld 20 = .ok (.iconst 0, 1) ∧ decode cX12_isHeld 21 = .ok (.ireturn, 1) ∧ decode cX12_isKept 0 = .ok (.aload_n 0, 1) ∧ decode cX12_isKept 1 = .ok (.invokevirtual 486, 3) ∧ decode cX12_isKept 4 = .ok (.istore_n 3, 1) := by decide +kernel
theorem eX12_isKept_5 : decode cX12_isKept 5 = .ok (.aload_n 0, 1) ∧ decode cX12_isKept 6 = .ok (.getfield 121, 3) ∧ decode cX12_isKept 9 = .ok (.bipush 16, 2) ∧ decode cX12_isKept 11 = .ok (.dup2, 1) ∧ decode cX12_isKept 12 = .ok (.iaload, 1) ∧ decode cX12_isKept 13 = .ok (.aload_n 0, 1) ∧ decode cX12_isKept 14 = .ok (.invokevirtual 489, 3) ∧ decode cX12_isKept 17 = .ok (.iadd, 1) := by decide +kernel
theorem eX12_isKept_18 : decode cX12_isKept 18 = .ok (.iastore, 1) ∧ decode cX12_isKept 19 = .ok (.aload_n 0, 1) ∧ decode cX12_isKept 20 = .ok (.getfield 121, 3) ∧ decode cX12_isKept 23 = .ok (.bipush 16, 2) ∧ decode cX12_isKept 25 = .ok (.iaload, 1) ∧ decode cX12_isKept 26 = .ok (.ldc_w 492, 3) ∧ decode cX12_isKept 29 = .ok (.if_icmp .le 13, 3) ∧ decode cX12_isKept 32 = .ok (.aload_n 0, 1) := by decide +kernel
theorem eX12_isKept_33 : decode cX12_isKept 33 = .ok (.getfield 121, 3) ∧ decode cX12_isKept 36 = .ok (.bipush 16, 2) ∧ decode cX12_isKept 38 = .ok (.ldc_w 492, 3) ∧ decode cX12_isKept 41 = .ok (.iastore, 1) ∧ decode cX12_isKept 42 = .ok (.aload_n 0, 1) ∧ decode cX12_isKept 43 = .ok (.getfield 121, 3) ∧ decode cX12_isKept 46 = .ok (.sipush 785, 3) ∧ decode cX12_isKept 49 = .ok (.iaload, 1) := by decide +kernel
theorem eX12_isKept_50 : decode cX12_isKept 50 = .ok (.bipush 40, 2) ∧ decode cX12_isKept 52 = .ok (.if_icmp .ne 41, 3) ∧ decode cX12_isKept 55 = .ok (.sipush 786, 3) ∧ decode cX12_isKept 58 = .ok (.istore 4, 2) ∧ decode cX12_isKept 60 = .ok (.iload 4, 2) ∧ decode cX12_isKept 62 = .ok (.sipush 903, 3) ∧ decode cX12_isKept 65 = .ok (.if_icmp .ge 25, 3) ∧ decode cX12_isKept 68 = .ok (.aload_n 0, 1) := by decide +kernel
theorem eX12_isKept_69 : decode cX12_isKept 69 = .ok (.getfield 121, 3) ∧ decode cX12_isKept 72 = .ok (.iload 4, 2) ∧ decode cX12_isKept 74 = .ok (.aload_n 0, 1) ∧ decode cX12_isKept 75 = .ok (.getfield 121, 3) ∧ decode cX12_isKept 78 = .ok (.iload 4, 2) ∧ decode cX12_isKept 80 = .ok (.iconst 3, 1) ∧ decode cX12_isKept 81 = .ok (.iadd, 1) ∧ decode cX12_isKept 82 = .ok (.iaload, 1) := by decide +kernel
theorem eX12_isKept_83 : decode cX12_isKept 83 = .ok (.iastore, 1) ∧ decode cX12_isKept 84 = .ok (.iinc 4 1, 3) ∧ decode cX12_isKept 87 = .ok (.goto (-27), 3) ∧ decode cX12_isKept 90 = .ok (.goto 15, 3) ∧ decode cX12_isKept 93 = .ok (.aload_n 0, 1) ∧ decode cX12_isKept 94 = .ok (.getfield 121, 3) ∧ decode cX12_isKept 97 = .ok (.sipush 785, 3) ∧ decode cX12_isKept 100 = .ok (.dup2, 1) := by decide +kernel
theorem eX12_isKept_101 : decode cX12_isKept 101 = .ok (.iaload, 1) ∧ decode cX12_isKept 102 = .ok (.iconst 1, 1) ∧ decode cX12_isKept 103 = .ok (.iadd, 1) ∧ decode cX12_isKept 104 = .ok (.iastore, 1) ∧ decode cX12_isKept 105 = .ok (.sipush 786, 3) ∧ decode cX12_isKept 108 = .ok (.iconst 3, 1) ∧ decode cX12_isKept 109 = .ok (.aload_n 0, 1) ∧ decode cX12_isKept 110 = .ok (.getfield 121, 3) := by decide +kernel
theorem eX12_isKept_113 : decode cX12_isKept 113 = .ok (.sipush 785, 3) ∧ decode cX12_isKept 116 = .ok (.iaload, 1) ∧ decode cX12_isKept 117 = .ok (.imul, 1) ∧ decode cX12_isKept 118 = .ok (.iadd, 1) ∧ decode cX12_isKept 119 = .ok (.iconst 3, 1) ∧ decode cX12_isKept 120 = .ok (.isub, 1) ∧ decode cX12_isKept 121 = .ok (.istore 4, 2) ∧ decode cX12_isKept 123 = .ok (.aload_n 0, 1) := by decide +kernel
theorem eX12_isKept_124 : decode cX12_isKept 124 = .ok (.getfield 121, 3) ∧ decode cX12_isKept 127 = .ok (.iload 4, 2) ∧ decode cX12_isKept 129 = .ok (.iload_n 1, 1) ∧ decode cX12_isKept 130 = .ok (.iastore, 1) ∧ decode cX12_isKept 131 = .ok (.aload_n 0, 1) ∧ decode cX12_isKept 132 = .ok (.getfield 121, 3) ∧ decode cX12_isKept 135 = .ok (.iload 4, 2) ∧ decode cX12_isKept 137 = .ok (.iconst 1, 1) := by decide +kernel
theorem eX12_isKept_138 : decode cX12_isKept 138 = .ok (.iadd, 1) ∧ decode cX12_isKept 139 = .ok (.iload_n 2, 1) ∧ decode cX12_isKept 140 = .ok (.iastore, 1) ∧ decode cX12_isKept 141 = .ok (.aload_n 0, 1) ∧ decode cX12_isKept 142 = .ok (.getfield 121, 3) ∧ decode cX12_isKept 145 = .ok (.iload 4, 2) ∧ decode cX12_isKept 147 = .ok (.iconst 2, 1) ∧ decode cX12_isKept 148 = .ok (.iadd, 1) := by decide +kernel
theorem eX12_isKept_149 : decode cX12_isKept 149 = .ok (.iload_n 3, 1) ∧ decode cX12_isKept 150 = .ok (.iastore, 1) ∧ decode cX12_isKept 151 = .ok (.return_, 1) ∧ decode cX12_isVolume 0 = .ok (.lload_n 1, 1) ∧ decode cX12_isVolume 1 = .ok (.lconst 0, 1) ∧ decode cX12_isVolume 2 = .ok (.ldc2_w 441, 3) ∧ decode cX12_isVolume 5 = .ok (.invokestatic 309, 3) ∧ decode cX12_isVolume 8 = .ok (.ifCond .eq 27, 3) := by decide +kernel
theorem eX12_isVolume_11 : decode cX12_isVolume 11 = .ok (.aload_n 0, 1) ∧ decode cX12_isVolume 12 = .ok (.getfield 406, 3) ∧ decode cX12_isVolume 15 = .ok (.ifCond .eq 20, 3) ∧ decode cX12_isVolume 18 = .ok (.aload_n 0, 1) ∧ decode cX12_isVolume 19 = .ok (.getfield 121, 3) ∧ decode cX12_isVolume 22 = .ok (.lload_n 1, 1) ∧ decode cX12_isVolume 23 = .ok (.l2i, 1) ∧ decode cX12_isVolume 24 = .ok (.iaload, 1) := by decide +kernel
theorem eX12_isVolume_25 : decode cX12_isVolume 25 = .ok (.sipush 255, 3) ∧ decode cX12_isVolume 28 = .ok (.if_icmp .eq 7, 3) ∧ decode cX12_isVolume 31 = .ok (.iconst 1, 1) ∧ decode cX12_isVolume 32 = .ok (.goto 4, 3) ∧ decode cX12_isVolume 35 = .ok (.iconst 0, 1) ∧ decode cX12_isVolume 36 = .ok (.ireturn, 1) ∧ decode cX12_refuses 0 = .ok (.aload_n 0, 1) ∧ decode cX12_refuses 1 = .ok (.getfield 17, 3) := by decide +kernel
theorem eX12_refuses_4 : decode cX12_refuses 4 = .ok (.iload_n 1, 1) ∧ decode cX12_refuses 5 = .ok (.dup2, 1) ∧ decode cX12_refuses 6 = .ok (.iaload, 1) ∧ decode cX12_refuses 7 = .ok (.iconst 1, 1) ∧ decode cX12_refuses 8 = .ok (.iadd, 1) ∧ decode cX12_refuses 9 = .ok (.iastore, 1) ∧ decode cX12_refuses 10 = .ok (.iconst (-1), 1) ∧ decode cX12_refuses 11 = .ok (.ireturn, 1) := by decide +kernel
theorem eX12_stands_0 : decode cX12_stands 0 = .ok (.aload_n 0, 1) ∧ decode cX12_stands 1 = .ok (.iconst 1, 1) ∧ decode cX12_stands 2 = .ok (.putfield 406, 3) ∧ decode cX12_stands 5 = .ok (.iconst 0, 1) ∧ decode cX12_stands 6 = .ok (.istore_n 1, 1) ∧ decode cX12_stands 7 = .ok (.iload_n 1, 1) ∧ decode cX12_stands 8 = .ok (.iconst 5, 1) ∧ decode cX12_stands 9 = .ok (.if_icmp .ge 23, 3) := by decide +kernel
theorem eX12_stands_12 : decode cX12_stands 12 = .ok (.aload_n 0, 1) ∧ decode cX12_stands 13 = .ok (.getfield 102, 3) ∧ decode cX12_stands 16 = .ok (.iconst 5, 1) ∧ decode cX12_stands 17 = .ok (.iload_n 1, 1) ∧ decode cX12_stands 18 = .ok (.iadd, 1) ∧ decode cX12_stands 19 = .ok (.aload_n 0, 1) ∧ decode cX12_stands 20 = .ok (.getfield 102, 3) ∧ decode cX12_stands 23 = .ok (.iload_n 1, 1) := by decide +kernel
theorem eX12_stands_24 : decode cX12_stands 24 = .ok (.iaload, 1) ∧ decode cX12_stands 25 = .ok (.iastore, 1) ∧ decode cX12_stands 26 = .ok (.iinc 1 1, 3) ∧ decode cX12_stands 29 = .ok (.goto (-22), 3) ∧ decode cX12_stands 32 = .ok (.iconst 0, 1) ∧ decode cX12_stands 33 = .ok (.istore_n 1, 1) ∧ decode cX12_stands 34 = .ok (.iload_n 1, 1) ∧ decode cX12_stands 35 = .ok (.iconst 3, 1) := by decide +kernel
theorem eX12_stands_36 : decode cX12_stands 36 = .ok (.if_icmp .ge 37, 3) ∧ decode cX12_stands 39 = .ok (.aload_n 0, 1) ∧ decode cX12_stands 40 = .ok (.getfield 112, 3) ∧ decode cX12_stands 43 = .ok (.iconst 3, 1) ∧ decode cX12_stands 44 = .ok (.iload_n 1, 1) ∧ decode cX12_stands 45 = .ok (.iadd, 1) ∧ decode cX12_stands 46 = .ok (.aload_n 0, 1) ∧ decode cX12_stands 47 = .ok (.getfield 112, 3) := by decide +kernel
theorem eX12_stands_50 : decode cX12_stands 50 = .ok (.iload_n 1, 1) ∧ decode cX12_stands 51 = .ok (.iaload, 1) ∧ decode cX12_stands 52 = .ok (.iastore, 1) ∧ decode cX12_stands 53 = .ok (.aload_n 0, 1) ∧ decode cX12_stands 54 = .ok (.getfield 115, 3) ∧ decode cX12_stands 57 = .ok (.iconst 3, 1) ∧ decode cX12_stands 58 = .ok (.iload_n 1, 1) ∧ decode cX12_stands 59 = .ok (.iadd, 1) := by decide +kernel
theorem eX12_stands_60 : decode cX12_stands 60 = .ok (.aload_n 0, 1) ∧ decode cX12_stands 61 = .ok (.getfield 115, 3) ∧ decode cX12_stands 64 = .ok (.iload_n 1, 1) ∧ decode cX12_stands 65 = .ok (.iaload, 1) ∧ decode cX12_stands 66 = .ok (.iastore, 1) ∧ decode cX12_stands 67 = .ok (.iinc 1 1, 3) ∧ decode cX12_stands 70 = .ok (.goto (-36), 3) ∧ decode cX12_stands 73 = .ok (.iconst 0, 1) := by decide +kernel
theorem eX12_stands_74 : decode cX12_stands 74 = .ok (.istore_n 1, 1) ∧ decode cX12_stands 75 = .ok (.iload_n 1, 1) ∧ decode cX12_stands 76 = .ok (.bipush 8, 2) ∧ decode cX12_stands 78 = .ok (.if_icmp .ge 24, 3) ∧ decode cX12_stands 81 = .ok (.aload_n 0, 1) ∧ decode cX12_stands 82 = .ok (.getfield 105, 3) ∧ decode cX12_stands 85 = .ok (.bipush 8, 2) ∧ decode cX12_stands 87 = .ok (.iload_n 1, 1) := by decide +kernel
theorem eX12_stands_88 : decode cX12_stands 88 = .ok (.iadd, 1) ∧ decode cX12_stands 89 = .ok (.aload_n 0, 1) ∧ decode cX12_stands 90 = .ok (.getfield 105, 3) ∧ decode cX12_stands 93 = .ok (.iload_n 1, 1) ∧ decode cX12_stands 94 = .ok (.laload, 1) ∧ decode cX12_stands 95 = .ok (.lastore, 1) ∧ decode cX12_stands 96 = .ok (.iinc 1 1, 3) ∧ decode cX12_stands 99 = .ok (.goto (-24), 3) := by decide +kernel
theorem eX12_stands_102 : decode cX12_stands 102 = .ok (.iconst 0, 1) ∧ decode cX12_stands 103 = .ok (.istore_n 1, 1) ∧ decode cX12_stands 104 = .ok (.iload_n 1, 1) ∧ decode cX12_stands 105 = .ok (.aload_n 0, 1) ∧ decode cX12_stands 106 = .ok (.getfield 371, 3) ∧ decode cX12_stands 109 = .ok (.if_icmp .ge 25, 3) ∧ decode cX12_stands 112 = .ok (.aload_n 0, 1) ∧ decode cX12_stands 113 = .ok (.getfield 118, 3) := by decide +kernel
theorem eX12_stands_116 : decode cX12_stands 116 = .ok (.sipush 1600, 3) ∧ decode cX12_stands 119 = .ok (.iload_n 1, 1) ∧ decode cX12_stands 120 = .ok (.iadd, 1) ∧ decode cX12_stands 121 = .ok (.aload_n 0, 1) ∧ decode cX12_stands 122 = .ok (.getfield 118, 3) ∧ decode cX12_stands 125 = .ok (.iload_n 1, 1) ∧ decode cX12_stands 126 = .ok (.iaload, 1) ∧ decode cX12_stands 127 = .ok (.iastore, 1) := by decide +kernel
theorem eX12_stands_128 : decode cX12_stands 128 = .ok (.iinc 1 1, 3) ∧ decode cX12_stands 131 = .ok (.goto (-27), 3) ∧ decode cX12_stands 134 = .ok (.iconst 0, 1) ∧ decode cX12_stands 135 = .ok (.istore_n 1, 1) ∧ decode cX12_stands 136 = .ok (.iload_n 1, 1) ∧ decode cX12_stands 137 = .ok (.sipush 906, 3) ∧ decode cX12_stands 140 = .ok (.if_icmp .ge 16, 3) ∧ decode cX12_stands 143 = .ok (.aload_n 0, 1) := by decide +kernel
theorem eX12_stands_144 : decode cX12_stands 144 = .ok (.getfield 121, 3) ∧ decode cX12_stands 147 = .ok (.iload_n 1, 1) ∧ decode cX12_stands 148 = .ok (.iconst 0, 1) ∧ decode cX12_stands 149 = .ok (.iastore, 1) ∧ decode cX12_stands 150 = .ok (.iinc 1 1, 3) ∧ decode cX12_stands 153 = .ok (.goto (-17), 3) ∧ decode cX12_stands 156 = .ok (.iconst 0, 1) ∧ decode cX12_stands 157 = .ok (.istore_n 1, 1) := by decide +kernel
theorem eX12_stands_158 : decode cX12_stands 158 = .ok (.iload_n 1, 1) ∧ decode cX12_stands 159 = .ok (.bipush 8, 2) ∧ decode cX12_stands 161 = .ok (.if_icmp .ge 30, 3) ∧ decode cX12_stands 164 = .ok (.aload_n 0, 1) ∧ decode cX12_stands 165 = .ok (.getfield 121, 3) ∧ decode cX12_stands 168 = .ok (.iload_n 1, 1) ∧ decode cX12_stands 169 = .ok (.sipush 255, 3) ∧ decode cX12_stands 172 = .ok (.iastore, 1) := by decide +kernel
theorem eX12_stands_173 : decode cX12_stands 173 = .ok (.aload_n 0, 1) ∧ decode cX12_stands 174 = .ok (.getfield 121, 3) ∧ decode cX12_stands 177 = .ok (.bipush 8, 2) ∧ decode cX12_stands 179 = .ok (.iload_n 1, 1) ∧ decode cX12_stands 180 = .ok (.iadd, 1) ∧ decode cX12_stands 181 = .ok (.sipush 255, 3) ∧ decode cX12_stands 184 = .ok (.iastore, 1) ∧ decode cX12_stands 185 = .ok (.iinc 1 1, 3) := by decide +kernel
theorem eX12_stands_188 : decode cX12_stands 188 = .ok (.goto (-30), 3) ∧ decode cX12_stands 191 = .ok (.iconst 0, 1) ∧ decode cX12_stands 192 = .ok (.istore_n 1, 1) ∧ decode cX12_stands 193 = .ok (.iload_n 1, 1) ∧ decode cX12_stands 194 = .ok (.aload_n 0, 1) ∧ decode cX12_stands 195 = .ok (.getfield 102, 3) ∧ decode cX12_stands 198 = .ok (.iconst 3, 1) ∧ decode cX12_stands 199 = .ok (.iaload, 1) := by decide +kernel
theorem eX12_stands_200 : decode cX12_stands 200 = .ok (.if_icmp .ge 51, 3) ∧ decode cX12_stands 203 = .ok (.aload_n 0, 1) ∧ decode cX12_stands 204 = .ok (.aload_n 0, 1) ∧ decode cX12_stands 205 = .ok (.getfield 109, 3) ∧ decode cX12_stands 208 = .ok (.iconst 4, 1) ∧ decode cX12_stands 209 = .ok (.iload_n 1, 1) ∧ decode cX12_stands 210 = .ok (.imul, 1) ∧ decode cX12_stands 211 = .ok (.iaload, 1) := by decide +kernel
theorem eX12_stands_212 : decode cX12_stands 212 = .ok (.aload_n 0, 1) ∧ decode cX12_stands 213 = .ok (.getfield 109, 3) ∧ decode cX12_stands 216 = .ok (.iconst 4, 1) ∧ decode cX12_stands 217 = .ok (.iload_n 1, 1) ∧ decode cX12_stands 218 = .ok (.imul, 1) ∧ decode cX12_stands 219 = .ok (.iconst 1, 1) ∧ decode cX12_stands 220 = .ok (.iadd, 1) ∧ decode cX12_stands 221 = .ok (.iaload, 1) := by decide +kernel
theorem eX12_stands_222 : decode cX12_stands 222 = .ok (.aload_n 0, 1) ∧ decode cX12_stands 223 = .ok (.getfield 109, 3) ∧ decode cX12_stands 226 = .ok (.iconst 4, 1) ∧ decode cX12_stands 227 = .ok (.iload_n 1, 1) ∧ decode cX12_stands 228 = .ok (.imul, 1) ∧ decode cX12_stands 229 = .ok (.iconst 2, 1) ∧ decode cX12_stands 230 = .ok (.iadd, 1) ∧ decode cX12_stands 231 = .ok (.iaload, 1) := by decide +kernel
theorem eX12_stands_232 : decode cX12_stands 232 = .ok (.aload_n 0, 1) ∧ decode cX12_stands 233 = .ok (.getfield 109, 3) ∧ decode cX12_stands 236 = .ok (.iconst 4, 1) ∧ decode cX12_stands 237 = .ok (.iload_n 1, 1) ∧ decode cX12_stands 238 = .ok (.imul, 1) ∧ decode cX12_stands 239 = .ok (.iconst 3, 1) ∧ decode cX12_stands 240 = .ok (.iadd, 1) ∧ decode cX12_stands 241 = .ok (.iaload, 1) := by decide +kernel
theorem eX12_stands_242 : decode cX12_stands 242 = .ok (.invokevirtual 410, 3) ∧ decode cX12_stands 245 = .ok (.iinc 1 1, 3) ∧ decode cX12_stands 248 = .ok (.goto (-55), 3) ∧ decode cX12_stands 251 = .ok (.aload_n 0, 1) ∧ decode cX12_stands 252 = .ok (.invokevirtual 413, 3) ∧ decode cX12_stands 255 = .ok (.aload_n 0, 1) ∧ decode cX12_stands 256 = .ok (.getfield 121, 3) ∧ decode cX12_stands 259 = .ok (.bipush 16, 2) := by decide +kernel
theorem eX12_stands_261 : decode cX12_stands 261 = .ok (.iconst 0, 1) ∧ decode cX12_stands 262 = .ok (.iastore, 1) ∧ decode cX12_stands 263 = .ok (.aload_n 0, 1) ∧ decode cX12_stands 264 = .ok (.iconst 0, 1) ∧ decode cX12_stands 265 = .ok (.putfield 416, 3) ∧ decode cX12_stands 268 = .ok (.aload_n 0, 1) ∧ decode cX12_stands 269 = .ok (.iconst 0, 1) ∧ decode cX12_stands 270 = .ok (.putfield 419, 3) := by decide +kernel
theorem eX12_stands_273 : decode cX12_stands 273 = .ok (.return_, 1) ∧ decode cX12_store 0 = .ok (.aload_n 0, 1) ∧ decode cX12_store 1 = .ok (.aload_n 0, 1) ∧ decode cX12_store 2 = .ok (.getfield 263, 3) ∧ decode cX12_store 5 = .ok (.putfield 275, 3) ∧ decode cX12_store 8 = .ok (.aload_n 0, 1) ∧ decode cX12_store 9 = .ok (.iconst 0, 1) ∧ decode cX12_store 10 = .ok (.putfield 263, 3) := by decide +kernel
theorem eX12_store_13 : decode cX12_store 13 = .ok (.aload_n 0, 1) ∧ decode cX12_store 14 = .ok (.iconst 0, 1) ∧ decode cX12_store 15 = .ok (.putfield 272, 3) ∧ decode cX12_store 18 = .ok (.aload_n 0, 1) ∧ decode cX12_store 19 = .ok (.iconst (-1), 1) ∧ decode cX12_store 20 = .ok (.putfield 286, 3) ∧ decode cX12_store 23 = .ok (.aload_n 0, 1) ∧ decode cX12_store 24 = .ok (.iconst 0, 1) := by decide +kernel
theorem eX12_store_25 : decode cX12_store 25 = .ok (.putfield 266, 3) ∧ decode cX12_store 28 = .ok (.aload_n 0, 1) ∧ decode cX12_store 29 = .ok (.iconst (-1), 1) ∧ decode cX12_store 30 = .ok (.putfield 269, 3) ∧ decode cX12_store 33 = .ok (.aload_n 0, 1) ∧ decode cX12_store 34 = .ok (.iconst 0, 1) ∧ decode cX12_store 35 = .ok (.putfield 371, 3) ∧ decode cX12_store 38 = .ok (.iconst 0, 1) := by decide +kernel
theorem eX12_store_39 : decode cX12_store 39 = .ok (.istore_n 1, 1) ∧ decode cX12_store 40 = .ok (.iload_n 1, 1) ∧ decode cX12_store 41 = .ok (.iconst 5, 1) ∧ decode cX12_store 42 = .ok (.if_icmp .ge 16, 3) ∧ decode cX12_store 45 = .ok (.aload_n 0, 1) ∧ decode cX12_store 46 = .ok (.getfield 102, 3) ∧ decode cX12_store 49 = .ok (.iload_n 1, 1) ∧ decode cX12_store 50 = .ok (.iconst 0, 1) := by decide +kernel
theorem eX12_store_51 : decode cX12_store 51 = .ok (.iastore, 1) ∧ decode cX12_store 52 = .ok (.iinc 1 1, 3) ∧ decode cX12_store 55 = .ok (.goto (-15), 3) ∧ decode cX12_store 58 = .ok (.iconst 0, 1) ∧ decode cX12_store 59 = .ok (.istore_n 1, 1) ∧ decode cX12_store 60 = .ok (.iload_n 1, 1) ∧ decode cX12_store 61 = .ok (.iconst 3, 1) ∧ decode cX12_store 62 = .ok (.if_icmp .ge 16, 3) := by decide +kernel
theorem eX12_store_65 : decode cX12_store 65 = .ok (.aload_n 0, 1) ∧ decode cX12_store 66 = .ok (.getfield 112, 3) ∧ decode cX12_store 69 = .ok (.iload_n 1, 1) ∧ decode cX12_store 70 = .ok (.iconst (-1), 1) ∧ decode cX12_store 71 = .ok (.iastore, 1) ∧ decode cX12_store 72 = .ok (.iinc 1 1, 3) ∧ decode cX12_store 75 = .ok (.goto (-15), 3) ∧ decode cX12_store 78 = .ok (.aload_n 0, 1) := by decide +kernel
theorem eX12_store_79 : decode cX12_store 79 = .ok (.invokevirtual 390, 3) ∧ decode cX12_store 82 = .ok (.aload_n 0, 1) ∧ decode cX12_store 83 = .ok (.iconst 1, 1) ∧ decode cX12_store 84 = .ok (.putfield 374, 3) ∧ decode cX12_store 87 = .ok (.aload_n 0, 1) ∧ decode cX12_store 88 = .ok (.getfield 266, 3) ∧ decode cX12_store 91 = .ok (.ifCond .ne 18, 3) ∧ decode cX12_store 94 = .ok (.aload_n 0, 1) := by decide +kernel
theorem eX12_store_95 : decode cX12_store 95 = .ok (.invokevirtual 278, 3) ∧ decode cX12_store 98 = .ok (.iconst (-1), 1) ∧ decode cX12_store 99 = .ok (.if_icmp .eq 10, 3) ∧ decode cX12_store 102 = .ok (.aload_n 0, 1) ∧ decode cX12_store 103 = .ok (.invokevirtual 393, 3) ∧ decode cX12_store 106 = .ok (.goto (-19), 3) ∧ decode cX12_store 109 = .ok (.aload_n 0, 1) ∧ decode cX12_store 110 = .ok (.aload_n 0, 1) := by decide +kernel
theorem eX12_store_111 : decode cX12_store 111 = .ok (.getfield 266, 3) ∧ decode cX12_store 114 = .ok (.putfield 396, 3) ∧ decode cX12_store 117 = .ok (.aload_n 0, 1) ∧ decode cX12_store 118 = .ok (.aload_n 0, 1) ∧ decode cX12_store 119 = .ok (.getfield 269, 3) ∧ decode cX12_store 122 = .ok (.putfield 13, 3) ∧ decode cX12_store 125 = .ok (.aload_n 0, 1) ∧ decode cX12_store 126 = .ok (.getfield 266, 3) := by decide +kernel
theorem eX12_store_129 : decode cX12_store 129 = .ok (.ifCond .eq 9, 3) ∧ decode cX12_store 132 = .ok (.aload_n 0, 1) ∧ decode cX12_store 133 = .ok (.iconst 1, 1) ∧ decode cX12_store 134 = .ok (.invokevirtual 399, 3) ∧ decode cX12_store 137 = .ok (.ireturn, 1) ∧ decode cX12_store 138 = .ok (.aload_n 0, 1) ∧ decode cX12_store 139 = .ok (.invokevirtual 403, 3) ∧ decode cX12_store 142 = .ok (.aload_n 0, 1) := by decide +kernel
theorem eX12_store_143 : decode cX12_store 143 = .ok (.getfield 374, 3) ∧ decode cX12_store 146 = .ok (.ireturn, 1) ∧ decode cX12_writtenCost 0 = .ok (.iconst 0, 1) ∧ decode cX12_writtenCost 1 = .ok (.istore_n 1, 1) ∧ decode cX12_writtenCost 2 = .ok (.iconst 0, 1) ∧ decode cX12_writtenCost 3 = .ok (.istore_n 2, 1) ∧ decode cX12_writtenCost 4 = .ok (.iload_n 2, 1) ∧ decode cX12_writtenCost 5 = .ok (.aload_n 0, 1) := by decide +kernel
theorem eX12_writtenCost_6 : decode cX12_writtenCost 6 = .ok (.invokevirtual 429, 3) ∧ decode cX12_writtenCost 9 = .ok (.if_icmp .ge 34, 3) ∧ decode cX12_writtenCost 12 = .ok (.aload_n 0, 1) ∧ decode cX12_writtenCost 13 = .ok (.getfield 124, 3) ∧ decode cX12_writtenCost 16 = .ok (.iload_n 2, 1) ∧ decode cX12_writtenCost 17 = .ok (.baload, 1) ∧ decode cX12_writtenCost 18 = .ok (.ifCond .eq 19, 3) ∧ decode cX12_writtenCost 21 = .ok (.aload_n 0, 1) := by decide +kernel
theorem eX12_writtenCost_22 : decode cX12_writtenCost 22 = .ok (.iload_n 2, 1) ∧ decode cX12_writtenCost 23 = .ok (.invokevirtual 435, 3) ∧ decode cX12_writtenCost 26 = .ok (.ifCond .eq 11, 3) ∧ decode cX12_writtenCost 29 = .ok (.iload_n 1, 1) ∧ decode cX12_writtenCost 30 = .ok (.aload_n 0, 1) ∧ decode cX12_writtenCost 31 = .ok (.iload_n 2, 1) ∧ decode cX12_writtenCost 32 = .ok (.invokevirtual 483, 3) ∧ decode cX12_writtenCost 35 = .ok (.iadd, 1) := by decide +kernel
theorem eX12_writtenCost_36 : decode cX12_writtenCost 36 = .ok (.istore_n 1, 1) ∧ decode cX12_writtenCost 37 = .ok (.iinc 2 1, 3) ∧ decode cX12_writtenCost 40 = .ok (.goto (-36), 3) ∧ decode cX12_writtenCost 43 = .ok (.iload_n 1, 1) ∧ decode cX12_writtenCost 44 = .ok (.ireturn, 1) ∧ decode cX12_writtenMany 0 = .ok (.iconst 0, 1) ∧ decode cX12_writtenMany 1 = .ok (.istore_n 1, 1) ∧ decode cX12_writtenMany 2 = .ok (.iconst 0, 1) := by decide +kernel
theorem eX12_writtenMany_3 : decode cX12_writtenMany 3 = .ok (.istore_n 2, 1) ∧ decode cX12_writtenMany 4 = .ok (.iload_n 2, 1) ∧ decode cX12_writtenMany 5 = .ok (.aload_n 0, 1) ∧ decode cX12_writtenMany 6 = .ok (.invokevirtual 429, 3) ∧ decode cX12_writtenMany 9 = .ok (.if_icmp .ge 29, 3) ∧ decode cX12_writtenMany 12 = .ok (.aload_n 0, 1) ∧ decode cX12_writtenMany 13 = .ok (.getfield 124, 3) ∧ decode cX12_writtenMany 16 = .ok (.iload_n 2, 1) := by decide +kernel
theorem eX12_writtenMany_17 : decode cX12_writtenMany 17 = .ok (.baload, 1) ∧ decode cX12_writtenMany 18 = .ok (.ifCond .eq 14, 3) ∧ decode cX12_writtenMany 21 = .ok (.aload_n 0, 1) ∧ decode cX12_writtenMany 22 = .ok (.iload_n 2, 1) ∧ decode cX12_writtenMany 23 = .ok (.invokevirtual 435, 3) ∧ decode cX12_writtenMany 26 = .ok (.ifCond .eq 6, 3) ∧ decode cX12_writtenMany 29 = .ok (.iinc 1 1, 3) ∧ decode cX12_writtenMany 32 = .ok (.iinc 2 1, 3) := by decide +kernel
theorem eX12_writtenMany_35 : decode cX12_writtenMany 35 = .ok (.goto (-31), 3) ∧ decode cX12_writtenMany 38 = .ok (.iload_n 1, 1) ∧ decode cX12_writtenMany 39 = .ok (.ireturn, 1) := by decide +kernel
set_option maxHeartbeats 4000000 in
set_option maxRecDepth 100000 in
theorem k_x12_copies (l : Launch) (D : va_G) (a : Nat → Nat) (p0 : Int) (p1 : Int) (sz : Nat) (s : MS) (o : MS) (h : m_x12_copies p0 p1 s = some o) : yWv l yX12_copies cX12_copies 3 none { frames := 1, cells := 0, slots := 0, locals := 60 } D sz [.ref (a 200), .int (i2 p0), .int (i2 p1)] (RW D a s) (RW D a o) := by
  refine Met.ofW (cc := cX12_copies) (maxL := 3) (ret := none) (by decide) rfl ?_
  intro p e s₀ m args below meth c s₁ B hml hv
  obtain ⟨rfl, ⟨hsz, hP, hK, hD0⟩, hN⟩ := hv
  have hx := B.exec
  have hb := B.bytes
  have hr := B.returns
  have hts := atoms_spec (ws := wz yX12_copies cX12_copies 3 none) B.pre
  have ht : ∀ w ∈ lw_gd, w.before _ s₀ = true := fun w h => hts w (List.mem_cons_of_mem _ h)
  have hown : s₀.vm.findClass RX12 = some m.cls := findClass_of_methodNamed B.named
  have hlocks := B.notSynchronized
  subst hsz
  have hD := hD0.self (sz := s₀.heap.size)
  generalize hAe : va_A (RW D a s) s₀.heap.size = A at hD ⊢
  have hA : ∀ q : Nat, s₀.heap.size ≤ q → A q := fun q h => by rw [← hAe]; exact Or.inr h
  have hS : va_S A s₀.heap s₀.heap [] := va_S.rf
  have hDD : ∀ t : MS, va_D A (RW D a t) := fun t => RW_D t hD
  have hl := lv_entry ([.ref (a 200), .int (i2 p0), .int (i2 p1)]) (n := 3) (Nat.le_of_ble_eq_true rfl)
  rw [lg_entry_eq]
  generalize (lg_sl ([.ref (a 200), .int (i2 p0), .int (i2 p1)]) ++ List.replicate (3 - (lg_sl ([.ref (a 200), .int (i2 p0), .int (i2 p1)])).length) Slot.unset).toArray = ls at hl ⊢
  have hl : lv_has ls 3 [(0, .ref (a 200)), (1, .int (i2 p0)), (2, .int (i2 p1))] := hl
  unfold m_x12_copies at h
  refine y_head (pcJ := 35) (σ := MS) (fun u H locs ls => va_P D vwCl (RW D a u) H ∧ va_S A s₀.heap H locs ∧ lv_has ls 3 [] ∧ m_x12_copies_J35 u = some o) (fun u => []) (fun u H locs ls hI => ?_) (fun J35 => ?_)
  · obtain ⟨hP, hS, hl, h⟩ := hI
    obtain ⟨s1, rfl⟩ : ∃ z, z = u := ⟨u, rfl⟩
    have hP : va_P D vwCl (RW D a s1) H := hP
    have hl : lv_has ls 3 [] := hl
    have h : m_x12_copies_J35 s1 = some o := h
    unfold m_x12_copies_J35 at h
    obtain rfl := Option.some.inj h
    exact W.vret hx hb hr (fun t ht hW => ⟨⟨(), rfl, trivial, by rw [ht]; exact hP, va_K.moved hW.alike hK, hDD _⟩, hS.F ht⟩) hS.2.2 eX12_copies_31.2.2.1
  refine lv_aload_n hx hb eX12_clearsTouched_13.2.2.2.2.2.1 rfl (lv_at hl 0 rfl) ?_
  refine va_get (D := D) (ci := 12) (v := .ref (a 49)) (C := RX12) (T := TX12) (N := 116) hx hb ht inX12 hown hK hP 0 RW_0 rfl 49 (by decide) (ht (.fieldLink RX12 121 "CloneVolumesModel" "now" "[I") fl_X12_121) (fun _ h9 => h9) mF_49 eX12_clearsTouched_13.2.2.2.2.2.2.1 ?_
  refine lv_iload_n hx hb eX12_clearsTouched_13.2.2.2.2.2.2.2 rfl (lv_at hl 2 rfl) ?_
  refine lv_aload_n hx hb eX12_copies_5.1 rfl (lv_at hl 0 rfl) ?_
  refine va_get (D := D) (ci := 12) (v := .ref (a 49)) (C := RX12) (T := TX12) (N := 116) hx hb ht inX12 hown hK hP 0 RW_0 rfl 49 (by decide) (ht (.fieldLink RX12 121 "CloneVolumesModel" "now" "[I") fl_X12_121) (fun _ h9 => h9) mF_49 eX12_copies_5.2.1 ?_
  refine lv_iload_n hx hb eX12_copies_5.2.2.1 rfl (lv_at hl 1 rfl) ?_
  obtain ⟨y2, ey2, iy2, h⟩ := rdI_e h
  refine ya_iald (i := p0) hx hb hK hP 36 0 RW_36 rfl (by decide) ey2 iy2 eX12_copies_5.2.2.2.1 ?_
  obtain ⟨hi3, h⟩ := inb_e h
  refine ya_iast (i := p1) (x := y2) hx hb hK hP (hDD _) hS 36 0 RW_36 rfl (by decide) hi3 eX12_copies_5.2.2.2.2.1 (RW_w36 _) (fun H locs hP hS => ?_)
  obtain ⟨s4, hs4, h⟩ := st_e h
  rw [hs4] at hP
  refine lv_aload_n hx hb eX12_copies_5.2.2.2.2.2.1 rfl (lv_at hl 0 rfl) ?_
  refine va_get (D := D) (ci := 12) (v := .ref (a 49)) (C := RX12) (T := TX12) (N := 116) hx hb ht inX12 hown hK hP 0 RW_0 rfl 49 (by decide) (ht (.fieldLink RX12 121 "CloneVolumesModel" "now" "[I") fl_X12_121) (fun _ h9 => h9) mF_49 eX12_copies_5.2.2.2.2.2.2.1 ?_
  refine lv_iload_n hx hb eX12_copies_5.2.2.2.2.2.2.2 rfl (lv_at hl 2 rfl) ?_
  obtain ⟨y5, ey5, iy5, h⟩ := rdI_e h
  refine ya_iald (i := p1) hx hb hK hP 36 0 RW_36 rfl (by decide) ey5 iy5 eX12_copies_17.1 ?_
  refine lv_sipush (v := 254) hx hb eX12_copies_17.2.1 (by decide) ?_
  obtain ⟨hr6, h⟩ := rg_e h
  refine lv_icmp_eq (tgt := 35) hx hb eX12_copies_17.2.2.1 (by decide) (fun c7 => ?_) (fun c7 => ?_)
  · have h := if_t ((i2_eq (x := y5) (y := 254) hr6 (by decide)).mp c7) h
    exact J35 s4 _ _ _ ⟨hP, hS, lv_sub hl [] rfl, h⟩
  · have h := if_f (mt (i2_eq (x := y5) (y := 254) hr6 (by decide)).mpr c7) h
    refine lv_aload_n hx hb eX12_copies_17.2.2.2.1 rfl (lv_at hl 0 rfl) ?_
    refine lv_aload_n hx hb eX12_copies_17.2.2.2.2.1 rfl (lv_at hl 0 rfl) ?_
    refine va_get (D := D) (ci := 12) (v := .ref (a 49)) (C := RX12) (T := TX12) (N := 116) hx hb ht inX12 hown hK hP 0 RW_0 rfl 49 (by decide) (ht (.fieldLink RX12 121 "CloneVolumesModel" "now" "[I") fl_X12_121) (fun _ h9 => h9) mF_49 eX12_copies_17.2.2.2.2.2.1 ?_
    refine lv_iload_n hx hb eX12_copies_17.2.2.2.2.2.2.1 rfl (lv_at hl 2 rfl) ?_
    obtain ⟨y8, ey8, iy8, h⟩ := rdI_e h
    refine ya_iald (i := p1) hx hb hK hP 36 0 RW_36 rfl (by decide) ey8 iy8 eX12_copies_17.2.2.2.2.2.2.2 ?_
    refine lv_iconst (v := 1) hx hb eX12_copies_31.1 (by decide) ?_
    obtain ⟨s10, hc9, h⟩ := bn_e h
    refine ywVv (As := [.int (i2 y8), .int 1]) (rest := []) (C := RX12) (n := 2) (ws' := RW D a s10) ⟨hx, hb, hml, hown, ht⟩ (k_x12_counts l D a y8 1 _ _ _ hc9) (zgV ml_X12_502 im_X12_counts se_X12_counts in_X12 co_X12_counts) rfl rfl (by decide +kernel) ⟨Nat.le_of_ble_eq_true rfl, Nat.le_of_ble_eq_true rfl⟩ hN hK hP (hDD _) hS hA 0 RW_0 rfl rfl rfl hl.1 rfl (Nat.le_of_ble_eq_true rfl) eX12_copies_31.2.1 ⟨Nat.le_of_ble_eq_true rfl, Nat.le_of_ble_eq_true rfl⟩ (fun H locs hP hS => ?_)
    exact J35 s10 _ _ _ ⟨hP, hS, lv_sub hl [] rfl, h⟩
set_option maxHeartbeats 4000000 in
set_option maxRecDepth 100000 in
theorem k_x12_actGoes (l : Launch) (D : va_G) (a : Nat → Nat) (p0 : Int) (p1 : Int) (p2 : Int) (p3 : Int) (sz : Nat) (s : MS) (o : MS) (h : m_x12_actGoes p0 p1 p2 p3 s = some o) : yWv l yX12_actGoes cX12_actGoes 5 none { frames := 10, cells := 0, slots := 0, locals := 600 } D sz [.ref (a 200), .int (i2 p0), .int (i2 p1), .int (i2 p2), .int (i2 p3)] (RW D a s) (RW D a o) := by
  refine Met.ofW (cc := cX12_actGoes) (maxL := 5) (ret := none) (by decide) rfl ?_
  intro p e s₀ m args below meth c s₁ B hml hv
  obtain ⟨rfl, ⟨hsz, hP, hK, hD0⟩, hN⟩ := hv
  have hx := B.exec
  have hb := B.bytes
  have hr := B.returns
  have hts := atoms_spec (ws := wz yX12_actGoes cX12_actGoes 5 none) B.pre
  have ht : ∀ w ∈ lw_gd, w.before _ s₀ = true := fun w h => hts w (List.mem_cons_of_mem _ h)
  have hown : s₀.vm.findClass RX12 = some m.cls := findClass_of_methodNamed B.named
  have hlocks := B.notSynchronized
  subst hsz
  have hD := hD0.self (sz := s₀.heap.size)
  generalize hAe : va_A (RW D a s) s₀.heap.size = A at hD ⊢
  have hA : ∀ q : Nat, s₀.heap.size ≤ q → A q := fun q h => by rw [← hAe]; exact Or.inr h
  have hS : va_S A s₀.heap s₀.heap [] := va_S.rf
  have hDD : ∀ t : MS, va_D A (RW D a t) := fun t => RW_D t hD
  have hl := lv_entry ([.ref (a 200), .int (i2 p0), .int (i2 p1), .int (i2 p2), .int (i2 p3)]) (n := 5) (Nat.le_of_ble_eq_true rfl)
  rw [lg_entry_eq]
  generalize (lg_sl ([.ref (a 200), .int (i2 p0), .int (i2 p1), .int (i2 p2), .int (i2 p3)]) ++ List.replicate (5 - (lg_sl ([.ref (a 200), .int (i2 p0), .int (i2 p1), .int (i2 p2), .int (i2 p3)])).length) Slot.unset).toArray = ls at hl ⊢
  have hl : lv_has ls 5 [(0, .ref (a 200)), (1, .int (i2 p0)), (2, .int (i2 p1)), (3, .int (i2 p2)), (4, .int (i2 p3))] := hl
  unfold m_x12_actGoes at h
  refine y_head (pcJ := 40) (σ := MS) (fun u H locs ls => va_P D vwCl (RW D a u) H ∧ va_S A s₀.heap H locs ∧ lv_has ls 5 [] ∧ m_x12_actGoes_J40 u = some o) (fun u => []) (fun u H locs ls hI => ?_) (fun J40 => ?_)
  · obtain ⟨hP, hS, hl, h⟩ := hI
    obtain ⟨s1, rfl⟩ : ∃ z, z = u := ⟨u, rfl⟩
    have hP : va_P D vwCl (RW D a s1) H := hP
    have hl : lv_has ls 5 [] := hl
    have h : m_x12_actGoes_J40 s1 = some o := h
    unfold m_x12_actGoes_J40 at h
    obtain rfl := Option.some.inj h
    exact W.vret hx hb hr (fun t ht hW => ⟨⟨(), rfl, trivial, by rw [ht]; exact hP, va_K.moved hW.alike hK, hDD _⟩, hS.F ht⟩) hS.2.2 eX12_actGoes_30.2.2.2.2.2.2.2
  refine lv_iload_n hx hb eX12_actGoes_0.1 rfl (lv_at hl 1 rfl) ?_
  obtain ⟨hr2, h⟩ := rg_e h
  refine lv_if_ne (tgt := 16) hx hb eX12_actGoes_0.2.1 (by decide) (fun c3 => ?_) (fun c3 => ?_)
  · have h := if_f (mt (i2_eq (x := p0) (y := 0) hr2 (by decide)).mpr c3) h
    refine lv_iload_n hx hb eX12_actGoes_16.1 rfl (lv_at hl 1 rfl) ?_
    refine lv_iconst (v := 1) hx hb eX12_actGoes_16.2.1 (by decide) ?_
    obtain ⟨hr4, h⟩ := rg_e h
    refine lv_icmp_ne (tgt := 30) hx hb eX12_actGoes_16.2.2.1 (by decide) (fun c5 => ?_) (fun c5 => ?_)
    · have h := if_f (mt (i2_eq (x := p0) (y := 1) hr4 (by decide)).mpr c5) h
      refine lv_aload_n hx hb eX12_actGoes_30.1 rfl (lv_at hl 0 rfl) ?_
      refine lv_iload_n hx hb eX12_actGoes_30.2.1 rfl (lv_at hl 1 rfl) ?_
      refine lv_iload_n hx hb eX12_actGoes_30.2.2.1 rfl (lv_at hl 2 rfl) ?_
      refine lv_iload_n hx hb eX12_actGoes_30.2.2.2.1 rfl (lv_at hl 3 rfl) ?_
      refine lv_iload hx hb eX12_actGoes_30.2.2.2.2.1 (lv_at hl 4 rfl) ?_
      obtain ⟨⟨r8, s7⟩, hc6, h⟩ := bn_e h
      refine ywV (r0 := i2 r8) (As := [.int (i2 p0), .int (i2 p1), .int (i2 p2), .int (i2 p3)]) (rest := []) (C := RX12) (n := 4) (ws' := RW D a s7) ⟨hx, hb, hml, hown, ht⟩ (k_x12_tries l D a p0 p1 p2 p3 _ _ _ hc6) (zgV ml_X12_425 im_X12_tries se_X12_tries in_X12 co_X12_tries) rfl rfl (by decide +kernel) ⟨Nat.le_of_ble_eq_true rfl, Nat.le_of_ble_eq_true rfl⟩ hN hK hP (hDD _) hS hA 0 RW_0 rfl rfl rfl hl.1 rfl (Nat.le_of_ble_eq_true rfl) eX12_actGoes_30.2.2.2.2.2.1 ⟨Nat.le_of_ble_eq_true rfl, Nat.le_of_ble_eq_true rfl⟩ (fun H locs hP hS => ?_)
      refine lv_pop hx hb eX12_actGoes_30.2.2.2.2.2.2.1 rfl ?_
      exact J40 s7 _ _ _ ⟨hP, hS, lv_sub hl [] rfl, h⟩
    · have h := if_t ((i2_eq (x := p0) (y := 1) hr4 (by decide)).mp c5) h
      refine lv_aload_n hx hb eX12_actGoes_16.2.2.2.1 rfl (lv_at hl 0 rfl) ?_
      refine lv_iload_n hx hb eX12_actGoes_16.2.2.2.2.1 rfl (lv_at hl 2 rfl) ?_
      refine lv_iload_n hx hb eX12_actGoes_16.2.2.2.2.2.1 rfl (lv_at hl 3 rfl) ?_
      obtain ⟨s10, hc9, h⟩ := bn_e h
      refine ywVv (As := [.int (i2 p1), .int (i2 p2)]) (rest := []) (C := RX12) (n := 2) (ws' := RW D a s10) ⟨hx, hb, hml, hown, ht⟩ (k_x12_copies l D a p1 p2 _ _ _ hc9) (zgV ml_X12_422 im_X12_copies se_X12_copies in_X12 co_X12_copies) rfl rfl (by decide +kernel) ⟨Nat.le_of_ble_eq_true rfl, Nat.le_of_ble_eq_true rfl⟩ hN hK hP (hDD _) hS hA 0 RW_0 rfl rfl rfl hl.1 rfl (Nat.le_of_ble_eq_true rfl) eX12_actGoes_16.2.2.2.2.2.2.1 ⟨Nat.le_of_ble_eq_true rfl, Nat.le_of_ble_eq_true rfl⟩ (fun H locs hP hS => ?_)
      refine lv_goto (tgt := 40) hx hb eX12_actGoes_16.2.2.2.2.2.2.2 (by decide) ?_
      exact J40 s10 _ _ _ ⟨hP, hS, lv_sub hl [] rfl, h⟩
  · have h := if_t ((i2_eq (x := p0) (y := 0) hr2 (by decide)).mp c3) h
    refine lv_aload_n hx hb eX12_actGoes_0.2.2.1 rfl (lv_at hl 0 rfl) ?_
    refine va_get (D := D) (ci := 12) (v := .ref (a 49)) (C := RX12) (T := TX12) (N := 116) hx hb ht inX12 hown hK hP 0 RW_0 rfl 49 (by decide) (ht (.fieldLink RX12 121 "CloneVolumesModel" "now" "[I") fl_X12_121) (fun _ h9 => h9) mF_49 eX12_actGoes_0.2.2.2.1 ?_
    refine lv_iload_n hx hb eX12_actGoes_0.2.2.2.2.1 rfl (lv_at hl 2 rfl) ?_
    refine lv_sipush (v := 254) hx hb eX12_actGoes_0.2.2.2.2.2.1 (by decide) ?_
    obtain ⟨hi11, h⟩ := inb_e h
    refine ya_iast (i := p1) (x := 254) hx hb hK hP (hDD _) hS 36 0 RW_36 rfl (by decide) hi11 eX12_actGoes_0.2.2.2.2.2.2.1 (RW_w36 _) (fun H locs hP hS => ?_)
    obtain ⟨s12, hs12, h⟩ := st_e h
    rw [hs12] at hP
    refine lv_goto (tgt := 40) hx hb eX12_actGoes_0.2.2.2.2.2.2.2 (by decide) ?_
    exact J40 s12 _ _ _ ⟨hP, hS, lv_sub hl [] rfl, h⟩
set_option maxHeartbeats 4000000 in
set_option maxRecDepth 100000 in
theorem k_x12_stands (l : Launch) (D : va_G) (a : Nat → Nat) (sz : Nat) (s : MS) (o : MS) (h : m_x12_stands s = some o) : yWv l yX12_stands cX12_stands 2 none { frames := 11, cells := 0, slots := 0, locals := 660 } D sz [.ref (a 200)] (RW D a s) (RW D a o) := by
  refine Met.ofW (cc := cX12_stands) (maxL := 2) (ret := none) (by decide) rfl ?_
  intro p e s₀ m args below meth c s₁ B hml hv
  obtain ⟨rfl, ⟨hsz, hP, hK, hD0⟩, hN⟩ := hv
  have hx := B.exec
  have hb := B.bytes
  have hr := B.returns
  have hts := atoms_spec (ws := wz yX12_stands cX12_stands 2 none) B.pre
  have ht : ∀ w ∈ lw_gd, w.before _ s₀ = true := fun w h => hts w (List.mem_cons_of_mem _ h)
  have hown : s₀.vm.findClass RX12 = some m.cls := findClass_of_methodNamed B.named
  have hlocks := B.notSynchronized
  subst hsz
  have hD := hD0.self (sz := s₀.heap.size)
  generalize hAe : va_A (RW D a s) s₀.heap.size = A at hD ⊢
  have hA : ∀ q : Nat, s₀.heap.size ≤ q → A q := fun q h => by rw [← hAe]; exact Or.inr h
  have hS : va_S A s₀.heap s₀.heap [] := va_S.rf
  have hDD : ∀ t : MS, va_D A (RW D a t) := fun t => RW_D t hD
  have hl := lv_entry ([.ref (a 200)]) (n := 2) (Nat.le_of_ble_eq_true rfl)
  rw [lg_entry_eq]
  generalize (lg_sl ([.ref (a 200)]) ++ List.replicate (2 - (lg_sl ([.ref (a 200)])).length) Slot.unset).toArray = ls at hl ⊢
  have hl : lv_has ls 2 [(0, .ref (a 200))] := hl
  unfold m_x12_stands at h
  refine y_loop (pcJ := 193) (σ := Int × MS) (fun n u H locs ls => va_P D vwCl (RW D a u.2) H ∧ va_S A s₀.heap H locs ∧ lv_has ls 2 [(0, .ref (a 200)), (1, .int (i2 u.1))] ∧ m_x12_stands_L193 n u.1 u.2 = some o) (fun u => []) (fun u H locs ls hI => by obtain ⟨_, _, _, h⟩ := hI; cases h) (fun n193 ih193 u H locs ls hI => ?_) (fun J193 => ?_)
  · obtain ⟨hP, hS, hl, h⟩ := hI
    obtain ⟨x1, s2⟩ := u
    have hP : va_P D vwCl (RW D a s2) H := hP
    have hl : lv_has ls 2 [(0, .ref (a 200)), (1, .int (i2 x1))] := hl
    have h : m_x12_stands_b193 (m_x12_stands_L193 n193) x1 s2 = some o := h
    unfold m_x12_stands_b193 at h
    refine lv_iload_n hx hb eX12_stands_188.2.2.2.1 rfl (lv_at hl 1 rfl) ?_
    refine lv_aload_n hx hb eX12_stands_188.2.2.2.2.1 rfl (lv_at hl 0 rfl) ?_
    refine va_get (D := D) (ci := 12) (v := .ref (a 39)) (C := RX12) (T := TX12) (N := 116) hx hb ht inX12 hown hK hP 0 RW_0 rfl 39 (by decide) (ht (.fieldLink RX12 102 "CloneVolumesModel" "many" "[I") fl_X12_102) (fun _ h9 => h9) mF_39 eX12_stands_188.2.2.2.2.2.1 ?_
    refine lv_iconst (v := 3) hx hb eX12_stands_188.2.2.2.2.2.2.1 (by decide) ?_
    obtain ⟨y3, ey3, iy3, h⟩ := rdI_e h
    refine ya_iald (i := 3) hx hb hK hP 30 0 RW_30 rfl (by decide) ey3 iy3 eX12_stands_188.2.2.2.2.2.2.2 ?_
    obtain ⟨hr4, h⟩ := rg_e h
    obtain ⟨hr5, h⟩ := rg_e h
    refine lv_icmp_ge (tgt := 251) hx hb eX12_stands_200.1 (by decide) (fun c6 => ?_) (fun c6 => ?_)
    · have h := if_t ((i2_le (x := y3) (y := x1) hr5 hr4).mp c6) h
      refine lv_aload_n hx hb eX12_stands_242.2.2.2.1 rfl (lv_at hl 0 rfl) ?_
      obtain ⟨s8, hc7, h⟩ := bn_e h
      refine ywVv (As := []) (rest := []) (C := RX12) (n := 0) (ws' := RW D a s8) ⟨hx, hb, hml, hown, ht⟩ (k_x12_checks l D a _ _ _ hc7) (zgV ml_X12_413 im_X12_checks se_X12_checks in_X12 co_X12_checks) rfl rfl (by decide +kernel) ⟨Nat.le_of_ble_eq_true rfl, Nat.le_of_ble_eq_true rfl⟩ hN hK hP (hDD _) hS hA 0 RW_0 rfl rfl rfl hl.1 rfl (Nat.le_of_ble_eq_true rfl) eX12_stands_242.2.2.2.2.1 ⟨Nat.le_of_ble_eq_true rfl, Nat.le_of_ble_eq_true rfl⟩ (fun H locs hP hS => ?_)
      refine lv_aload_n hx hb eX12_stands_242.2.2.2.2.2.1 rfl (lv_at hl 0 rfl) ?_
      refine va_get (D := D) (ci := 12) (v := .ref (a 49)) (C := RX12) (T := TX12) (N := 116) hx hb ht inX12 hown hK hP 0 RW_0 rfl 49 (by decide) (ht (.fieldLink RX12 121 "CloneVolumesModel" "now" "[I") fl_X12_121) (fun _ h9 => h9) mF_49 eX12_stands_242.2.2.2.2.2.2.1 ?_
      refine lv_bipush (v := 16) hx hb eX12_stands_242.2.2.2.2.2.2.2 (by decide) ?_
      refine lv_iconst (v := 0) hx hb eX12_stands_261.1 (by decide) ?_
      obtain ⟨hi9, h⟩ := inb_e h
      refine ya_iast (i := 16) (x := 0) hx hb hK hP (hDD _) hS 36 0 RW_36 rfl (by decide) hi9 eX12_stands_261.2.1 (RW_w36 _) (fun H locs hP hS => ?_)
      obtain ⟨s10, hs10, h⟩ := st_e h
      rw [hs10] at hP
      refine lv_aload_n hx hb eX12_stands_261.2.2.1 rfl (lv_at hl 0 rfl) ?_
      refine lv_iconst (v := 0) hx hb eX12_stands_261.2.2.2.1 (by decide) ?_
      refine ya_put (D := D) (ci := 12) (v := .int 0) (ty := .int) (C := RX12) (T := TX12) (N := 116) hx hb ht inX12 tyX12 tyX12_ok nmX12 hown hK hP (hDD _) hS 0 RW_0 rfl 76 (by decide) (ht (.fieldLink RX12 416 "CloneVolumesModel" "undoable" "I") fl_X12_416) (fun _ h9 => h9) rfl (by decide +kernel) rfl rfl (by rw [mF_len]; decide) eX12_stands_261.2.2.2.2.1 (RW_f76 0) (fun H locs hP hS => ?_)
      obtain ⟨s11, hs11, h⟩ := st_e h
      rw [hs11] at hP
      refine lv_aload_n hx hb eX12_stands_261.2.2.2.2.2.1 rfl (lv_at hl 0 rfl) ?_
      refine lv_iconst (v := 0) hx hb eX12_stands_261.2.2.2.2.2.2.1 (by decide) ?_
      refine ya_put (D := D) (ci := 12) (v := .int 0) (ty := .int) (C := RX12) (T := TX12) (N := 116) hx hb ht inX12 tyX12 tyX12_ok nmX12 hown hK hP (hDD _) hS 0 RW_0 rfl 73 (by decide) (ht (.fieldLink RX12 419 "CloneVolumesModel" "rowMany" "I") fl_X12_419) (fun _ h9 => h9) rfl (by decide +kernel) rfl rfl (by rw [mF_len]; decide) eX12_stands_261.2.2.2.2.2.2.2 (RW_f73 0) (fun H locs hP hS => ?_)
      obtain ⟨s12, hs12, h⟩ := st_e h
      rw [hs12] at hP
      obtain rfl := Option.some.inj h
      exact W.vret hx hb hr (fun t ht hW => ⟨⟨(), rfl, trivial, by rw [ht]; exact hP, va_K.moved hW.alike hK, hDD _⟩, hS.F ht⟩) hS.2.2 eX12_stands_273.1
    · have h := if_f (mt (i2_le (x := y3) (y := x1) hr5 hr4).mpr c6) h
      refine lv_aload_n hx hb eX12_stands_200.2.1 rfl (lv_at hl 0 rfl) ?_
      refine lv_aload_n hx hb eX12_stands_200.2.2.1 rfl (lv_at hl 0 rfl) ?_
      refine va_get (D := D) (ci := 12) (v := .ref (a 41)) (C := RX12) (T := TX12) (N := 116) hx hb ht inX12 hown hK hP 0 RW_0 rfl 41 (by decide) (ht (.fieldLink RX12 109 "CloneVolumesModel" "acts" "[I") fl_X12_109) (fun _ h9 => h9) mF_41 eX12_stands_200.2.2.2.1 ?_
      refine lv_iconst (v := 4) hx hb eX12_stands_200.2.2.2.2.1 (by decide) ?_
      refine lv_iload_n hx hb eX12_stands_200.2.2.2.2.2.1 rfl (lv_at hl 1 rfl) ?_
      refine lv_imul hx hb eX12_stands_200.2.2.2.2.2.2.1 ?_
      refine z_topi (y := i2 (4 * x1)) (i2_mul 4 x1) ?_
      obtain ⟨y13, ey13, iy13, h⟩ := rdI_e h
      refine ya_iald (i := (4 * x1)) hx hb hK hP 32 0 RW_32 rfl (by decide) ey13 iy13 eX12_stands_200.2.2.2.2.2.2.2 ?_
      refine lv_aload_n hx hb eX12_stands_212.1 rfl (lv_at hl 0 rfl) ?_
      refine va_get (D := D) (ci := 12) (v := .ref (a 41)) (C := RX12) (T := TX12) (N := 116) hx hb ht inX12 hown hK hP 0 RW_0 rfl 41 (by decide) (ht (.fieldLink RX12 109 "CloneVolumesModel" "acts" "[I") fl_X12_109) (fun _ h9 => h9) mF_41 eX12_stands_212.2.1 ?_
      refine lv_iconst (v := 4) hx hb eX12_stands_212.2.2.1 (by decide) ?_
      refine lv_iload_n hx hb eX12_stands_212.2.2.2.1 rfl (lv_at hl 1 rfl) ?_
      refine lv_imul hx hb eX12_stands_212.2.2.2.2.1 ?_
      refine z_topi (y := i2 (4 * x1)) (i2_mul 4 x1) ?_
      refine lv_iconst (v := 1) hx hb eX12_stands_212.2.2.2.2.2.1 (by decide) ?_
      refine lv_iadd hx hb eX12_stands_212.2.2.2.2.2.2.1 ?_
      refine z_topi (y := i2 ((4 * x1) + 1)) (i2_add (4 * x1) 1) ?_
      obtain ⟨y14, ey14, iy14, h⟩ := rdI_e h
      refine ya_iald (i := ((4 * x1) + 1)) hx hb hK hP 32 0 RW_32 rfl (by decide) ey14 iy14 eX12_stands_212.2.2.2.2.2.2.2 ?_
      refine lv_aload_n hx hb eX12_stands_222.1 rfl (lv_at hl 0 rfl) ?_
      refine va_get (D := D) (ci := 12) (v := .ref (a 41)) (C := RX12) (T := TX12) (N := 116) hx hb ht inX12 hown hK hP 0 RW_0 rfl 41 (by decide) (ht (.fieldLink RX12 109 "CloneVolumesModel" "acts" "[I") fl_X12_109) (fun _ h9 => h9) mF_41 eX12_stands_222.2.1 ?_
      refine lv_iconst (v := 4) hx hb eX12_stands_222.2.2.1 (by decide) ?_
      refine lv_iload_n hx hb eX12_stands_222.2.2.2.1 rfl (lv_at hl 1 rfl) ?_
      refine lv_imul hx hb eX12_stands_222.2.2.2.2.1 ?_
      refine z_topi (y := i2 (4 * x1)) (i2_mul 4 x1) ?_
      refine lv_iconst (v := 2) hx hb eX12_stands_222.2.2.2.2.2.1 (by decide) ?_
      refine lv_iadd hx hb eX12_stands_222.2.2.2.2.2.2.1 ?_
      refine z_topi (y := i2 ((4 * x1) + 2)) (i2_add (4 * x1) 2) ?_
      obtain ⟨y15, ey15, iy15, h⟩ := rdI_e h
      refine ya_iald (i := ((4 * x1) + 2)) hx hb hK hP 32 0 RW_32 rfl (by decide) ey15 iy15 eX12_stands_222.2.2.2.2.2.2.2 ?_
      refine lv_aload_n hx hb eX12_stands_232.1 rfl (lv_at hl 0 rfl) ?_
      refine va_get (D := D) (ci := 12) (v := .ref (a 41)) (C := RX12) (T := TX12) (N := 116) hx hb ht inX12 hown hK hP 0 RW_0 rfl 41 (by decide) (ht (.fieldLink RX12 109 "CloneVolumesModel" "acts" "[I") fl_X12_109) (fun _ h9 => h9) mF_41 eX12_stands_232.2.1 ?_
      refine lv_iconst (v := 4) hx hb eX12_stands_232.2.2.1 (by decide) ?_
      refine lv_iload_n hx hb eX12_stands_232.2.2.2.1 rfl (lv_at hl 1 rfl) ?_
      refine lv_imul hx hb eX12_stands_232.2.2.2.2.1 ?_
      refine z_topi (y := i2 (4 * x1)) (i2_mul 4 x1) ?_
      refine lv_iconst (v := 3) hx hb eX12_stands_232.2.2.2.2.2.1 (by decide) ?_
      refine lv_iadd hx hb eX12_stands_232.2.2.2.2.2.2.1 ?_
      refine z_topi (y := i2 ((4 * x1) + 3)) (i2_add (4 * x1) 3) ?_
      obtain ⟨y16, ey16, iy16, h⟩ := rdI_e h
      refine ya_iald (i := ((4 * x1) + 3)) hx hb hK hP 32 0 RW_32 rfl (by decide) ey16 iy16 eX12_stands_232.2.2.2.2.2.2.2 ?_
      obtain ⟨s18, hc17, h⟩ := bn_e h
      refine ywVv (As := [.int (i2 y13), .int (i2 y14), .int (i2 y15), .int (i2 y16)]) (rest := []) (C := RX12) (n := 4) (ws' := RW D a s18) ⟨hx, hb, hml, hown, ht⟩ (k_x12_actGoes l D a y13 y14 y15 y16 _ _ _ hc17) (zgV ml_X12_410 im_X12_actGoes se_X12_actGoes in_X12 co_X12_actGoes) rfl rfl (by decide +kernel) ⟨Nat.le_of_ble_eq_true rfl, Nat.le_of_ble_eq_true rfl⟩ hN hK hP (hDD _) hS hA 0 RW_0 rfl rfl rfl hl.1 rfl (Nat.le_of_ble_eq_true rfl) eX12_stands_242.1 ⟨Nat.le_of_ble_eq_true rfl, Nat.le_of_ble_eq_true rfl⟩ (fun H locs hP hS => ?_)
      refine lv_iinc (v := i2 (x1 + 1)) (lv' := [(1, .int (i2 (x1 + 1))), (0, .ref (a 200))]) hx hb eX12_stands_242.2.1 hl (k := 1) rfl (i2_add x1 1) (by decide) rfl (fun ls hl => ?_)
      refine lv_goto (tgt := 193) hx hb eX12_stands_242.2.2.1 (by decide) ?_
      exact ih193 (x1 + 1, s18) _ _ _ ⟨hP, hS, lv_sub hl [1, 0] rfl, h⟩
  refine y_loop (pcJ := 158) (σ := Int × MS) (fun n u H locs ls => va_P D vwCl (RW D a u.2) H ∧ va_S A s₀.heap H locs ∧ lv_has ls 2 [(0, .ref (a 200)), (1, .int (i2 u.1))] ∧ m_x12_stands_L158 n u.1 u.2 = some o) (fun u => []) (fun u H locs ls hI => by obtain ⟨_, _, _, h⟩ := hI; cases h) (fun n158 ih158 u H locs ls hI => ?_) (fun J158 => ?_)
  · obtain ⟨hP, hS, hl, h⟩ := hI
    obtain ⟨x19, s20⟩ := u
    have hP : va_P D vwCl (RW D a s20) H := hP
    have hl : lv_has ls 2 [(0, .ref (a 200)), (1, .int (i2 x19))] := hl
    have h : m_x12_stands_b158 (m_x12_stands_L158 n158) x19 s20 = some o := h
    unfold m_x12_stands_b158 at h
    refine lv_iload_n hx hb eX12_stands_158.1 rfl (lv_at hl 1 rfl) ?_
    refine lv_bipush (v := 8) hx hb eX12_stands_158.2.1 (by decide) ?_
    obtain ⟨hr21, h⟩ := rg_e h
    refine lv_icmp_ge (tgt := 191) hx hb eX12_stands_158.2.2.1 (by decide) (fun c22 => ?_) (fun c22 => ?_)
    · have h := if_t ((i2_le (x := 8) (y := x19) (by decide) hr21).mp c22) h
      refine lv_iconst (v := 0) hx hb eX12_stands_188.2.1 (by decide) ?_
      refine lv_istore_n (lv' := [(1, .int 0), (0, .ref (a 200))]) hx hb eX12_stands_188.2.2.1 rfl hl (by decide) rfl (fun ls hl => ?_)
      exact J193 FU (0, s20) _ _ _ ⟨hP, hS, lv_sub hl [1, 0] rfl, h⟩
    · have h := if_f (mt (i2_le (x := 8) (y := x19) (by decide) hr21).mpr c22) h
      refine lv_aload_n hx hb eX12_stands_158.2.2.2.1 rfl (lv_at hl 0 rfl) ?_
      refine va_get (D := D) (ci := 12) (v := .ref (a 49)) (C := RX12) (T := TX12) (N := 116) hx hb ht inX12 hown hK hP 0 RW_0 rfl 49 (by decide) (ht (.fieldLink RX12 121 "CloneVolumesModel" "now" "[I") fl_X12_121) (fun _ h9 => h9) mF_49 eX12_stands_158.2.2.2.2.1 ?_
      refine lv_iload_n hx hb eX12_stands_158.2.2.2.2.2.1 rfl (lv_at hl 1 rfl) ?_
      refine lv_sipush (v := 255) hx hb eX12_stands_158.2.2.2.2.2.2.1 (by decide) ?_
      obtain ⟨hi23, h⟩ := inb_e h
      refine ya_iast (i := x19) (x := 255) hx hb hK hP (hDD _) hS 36 0 RW_36 rfl (by decide) hi23 eX12_stands_158.2.2.2.2.2.2.2 (RW_w36 _) (fun H locs hP hS => ?_)
      obtain ⟨s24, hs24, h⟩ := st_e h
      rw [hs24] at hP
      refine lv_aload_n hx hb eX12_stands_173.1 rfl (lv_at hl 0 rfl) ?_
      refine va_get (D := D) (ci := 12) (v := .ref (a 49)) (C := RX12) (T := TX12) (N := 116) hx hb ht inX12 hown hK hP 0 RW_0 rfl 49 (by decide) (ht (.fieldLink RX12 121 "CloneVolumesModel" "now" "[I") fl_X12_121) (fun _ h9 => h9) mF_49 eX12_stands_173.2.1 ?_
      refine lv_bipush (v := 8) hx hb eX12_stands_173.2.2.1 (by decide) ?_
      refine lv_iload_n hx hb eX12_stands_173.2.2.2.1 rfl (lv_at hl 1 rfl) ?_
      refine lv_iadd hx hb eX12_stands_173.2.2.2.2.1 ?_
      refine z_topi (y := i2 (8 + x19)) (i2_add 8 x19) ?_
      refine lv_sipush (v := 255) hx hb eX12_stands_173.2.2.2.2.2.1 (by decide) ?_
      obtain ⟨hi25, h⟩ := inb_e h
      refine ya_iast (i := (8 + x19)) (x := 255) hx hb hK hP (hDD _) hS 36 0 RW_36 rfl (by decide) hi25 eX12_stands_173.2.2.2.2.2.2.1 (RW_w36 _) (fun H locs hP hS => ?_)
      obtain ⟨s26, hs26, h⟩ := st_e h
      rw [hs26] at hP
      refine lv_iinc (v := i2 (x19 + 1)) (lv' := [(1, .int (i2 (x19 + 1))), (0, .ref (a 200))]) hx hb eX12_stands_173.2.2.2.2.2.2.2 hl (k := 1) rfl (i2_add x19 1) (by decide) rfl (fun ls hl => ?_)
      refine lv_goto (tgt := 158) hx hb eX12_stands_188.1 (by decide) ?_
      exact ih158 (x19 + 1, s26) _ _ _ ⟨hP, hS, lv_sub hl [1, 0] rfl, h⟩
  refine y_loop (pcJ := 136) (σ := Int × MS) (fun n u H locs ls => va_P D vwCl (RW D a u.2) H ∧ va_S A s₀.heap H locs ∧ lv_has ls 2 [(0, .ref (a 200)), (1, .int (i2 u.1))] ∧ m_x12_stands_L136 n u.1 u.2 = some o) (fun u => []) (fun u H locs ls hI => by obtain ⟨_, _, _, h⟩ := hI; cases h) (fun n136 ih136 u H locs ls hI => ?_) (fun J136 => ?_)
  · obtain ⟨hP, hS, hl, h⟩ := hI
    obtain ⟨x27, s28⟩ := u
    have hP : va_P D vwCl (RW D a s28) H := hP
    have hl : lv_has ls 2 [(0, .ref (a 200)), (1, .int (i2 x27))] := hl
    have h : m_x12_stands_b136 (m_x12_stands_L136 n136) x27 s28 = some o := h
    unfold m_x12_stands_b136 at h
    refine lv_iload_n hx hb eX12_stands_128.2.2.2.2.1 rfl (lv_at hl 1 rfl) ?_
    refine lv_sipush (v := 906) hx hb eX12_stands_128.2.2.2.2.2.1 (by decide) ?_
    obtain ⟨hr29, h⟩ := rg_e h
    refine lv_icmp_ge (tgt := 156) hx hb eX12_stands_128.2.2.2.2.2.2.1 (by decide) (fun c30 => ?_) (fun c30 => ?_)
    · have h := if_t ((i2_le (x := 906) (y := x27) (by decide) hr29).mp c30) h
      refine lv_iconst (v := 0) hx hb eX12_stands_144.2.2.2.2.2.2.1 (by decide) ?_
      refine lv_istore_n (lv' := [(1, .int 0), (0, .ref (a 200))]) hx hb eX12_stands_144.2.2.2.2.2.2.2 rfl hl (by decide) rfl (fun ls hl => ?_)
      exact J158 FU (0, s28) _ _ _ ⟨hP, hS, lv_sub hl [1, 0] rfl, h⟩
    · have h := if_f (mt (i2_le (x := 906) (y := x27) (by decide) hr29).mpr c30) h
      refine lv_aload_n hx hb eX12_stands_128.2.2.2.2.2.2.2 rfl (lv_at hl 0 rfl) ?_
      refine va_get (D := D) (ci := 12) (v := .ref (a 49)) (C := RX12) (T := TX12) (N := 116) hx hb ht inX12 hown hK hP 0 RW_0 rfl 49 (by decide) (ht (.fieldLink RX12 121 "CloneVolumesModel" "now" "[I") fl_X12_121) (fun _ h9 => h9) mF_49 eX12_stands_144.1 ?_
      refine lv_iload_n hx hb eX12_stands_144.2.1 rfl (lv_at hl 1 rfl) ?_
      refine lv_iconst (v := 0) hx hb eX12_stands_144.2.2.1 (by decide) ?_
      obtain ⟨hi31, h⟩ := inb_e h
      refine ya_iast (i := x27) (x := 0) hx hb hK hP (hDD _) hS 36 0 RW_36 rfl (by decide) hi31 eX12_stands_144.2.2.2.1 (RW_w36 _) (fun H locs hP hS => ?_)
      obtain ⟨s32, hs32, h⟩ := st_e h
      rw [hs32] at hP
      refine lv_iinc (v := i2 (x27 + 1)) (lv' := [(1, .int (i2 (x27 + 1))), (0, .ref (a 200))]) hx hb eX12_stands_144.2.2.2.2.1 hl (k := 1) rfl (i2_add x27 1) (by decide) rfl (fun ls hl => ?_)
      refine lv_goto (tgt := 136) hx hb eX12_stands_144.2.2.2.2.2.1 (by decide) ?_
      exact ih136 (x27 + 1, s32) _ _ _ ⟨hP, hS, lv_sub hl [1, 0] rfl, h⟩
  refine y_loop (pcJ := 104) (σ := Int × MS) (fun n u H locs ls => va_P D vwCl (RW D a u.2) H ∧ va_S A s₀.heap H locs ∧ lv_has ls 2 [(0, .ref (a 200)), (1, .int (i2 u.1))] ∧ m_x12_stands_L104 n u.1 u.2 = some o) (fun u => []) (fun u H locs ls hI => by obtain ⟨_, _, _, h⟩ := hI; cases h) (fun n104 ih104 u H locs ls hI => ?_) (fun J104 => ?_)
  · obtain ⟨hP, hS, hl, h⟩ := hI
    obtain ⟨x33, s34⟩ := u
    have hP : va_P D vwCl (RW D a s34) H := hP
    have hl : lv_has ls 2 [(0, .ref (a 200)), (1, .int (i2 x33))] := hl
    have h : m_x12_stands_b104 (m_x12_stands_L104 n104) x33 s34 = some o := h
    unfold m_x12_stands_b104 at h
    refine lv_iload_n hx hb eX12_stands_102.2.2.1 rfl (lv_at hl 1 rfl) ?_
    refine lv_aload_n hx hb eX12_stands_102.2.2.2.1 rfl (lv_at hl 0 rfl) ?_
    refine va_get (D := D) (ci := 12) (v := .int (i2 (gI s34 45))) (C := RX12) (T := TX12) (N := 116) hx hb ht inX12 hown hK hP 0 RW_0 rfl 45 (by decide) (ht (.fieldLink RX12 371 "CloneVolumesModel" "coded" "I") fl_X12_371) (fun _ h9 => h9) mF_45 eX12_stands_102.2.2.2.2.1 ?_
    obtain ⟨hr35, h⟩ := rg_e h
    obtain ⟨hr36, h⟩ := rg_e h
    refine lv_icmp_ge (tgt := 134) hx hb eX12_stands_102.2.2.2.2.2.1 (by decide) (fun c37 => ?_) (fun c37 => ?_)
    · have h := if_t ((i2_le (x := (gI s34 45)) (y := x33) hr36 hr35).mp c37) h
      refine lv_iconst (v := 0) hx hb eX12_stands_128.2.2.1 (by decide) ?_
      refine lv_istore_n (lv' := [(1, .int 0), (0, .ref (a 200))]) hx hb eX12_stands_128.2.2.2.1 rfl hl (by decide) rfl (fun ls hl => ?_)
      exact J136 FU (0, s34) _ _ _ ⟨hP, hS, lv_sub hl [1, 0] rfl, h⟩
    · have h := if_f (mt (i2_le (x := (gI s34 45)) (y := x33) hr36 hr35).mpr c37) h
      refine lv_aload_n hx hb eX12_stands_102.2.2.2.2.2.2.1 rfl (lv_at hl 0 rfl) ?_
      refine va_get (D := D) (ci := 12) (v := .ref (a 44)) (C := RX12) (T := TX12) (N := 116) hx hb ht inX12 hown hK hP 0 RW_0 rfl 44 (by decide) (ht (.fieldLink RX12 118 "CloneVolumesModel" "codes" "[I") fl_X12_118) (fun _ h9 => h9) mF_44 eX12_stands_102.2.2.2.2.2.2.2 ?_
      refine lv_sipush (v := 1600) hx hb eX12_stands_116.1 (by decide) ?_
      refine lv_iload_n hx hb eX12_stands_116.2.1 rfl (lv_at hl 1 rfl) ?_
      refine lv_iadd hx hb eX12_stands_116.2.2.1 ?_
      refine z_topi (y := i2 (1600 + x33)) (i2_add 1600 x33) ?_
      refine lv_aload_n hx hb eX12_stands_116.2.2.2.1 rfl (lv_at hl 0 rfl) ?_
      refine va_get (D := D) (ci := 12) (v := .ref (a 44)) (C := RX12) (T := TX12) (N := 116) hx hb ht inX12 hown hK hP 0 RW_0 rfl 44 (by decide) (ht (.fieldLink RX12 118 "CloneVolumesModel" "codes" "[I") fl_X12_118) (fun _ h9 => h9) mF_44 eX12_stands_116.2.2.2.2.1 ?_
      refine lv_iload_n hx hb eX12_stands_116.2.2.2.2.2.1 rfl (lv_at hl 1 rfl) ?_
      obtain ⟨y38, ey38, iy38, h⟩ := rdI_e h
      refine ya_iald (i := x33) hx hb hK hP 35 0 RW_35 rfl (by decide) ey38 iy38 eX12_stands_116.2.2.2.2.2.2.1 ?_
      obtain ⟨hi39, h⟩ := inb_e h
      refine ya_iast (i := (1600 + x33)) (x := y38) hx hb hK hP (hDD _) hS 35 0 RW_35 rfl (by decide) hi39 eX12_stands_116.2.2.2.2.2.2.2 (RW_w35 _) (fun H locs hP hS => ?_)
      obtain ⟨s40, hs40, h⟩ := st_e h
      rw [hs40] at hP
      refine lv_iinc (v := i2 (x33 + 1)) (lv' := [(1, .int (i2 (x33 + 1))), (0, .ref (a 200))]) hx hb eX12_stands_128.1 hl (k := 1) rfl (i2_add x33 1) (by decide) rfl (fun ls hl => ?_)
      refine lv_goto (tgt := 104) hx hb eX12_stands_128.2.1 (by decide) ?_
      exact ih104 (x33 + 1, s40) _ _ _ ⟨hP, hS, lv_sub hl [1, 0] rfl, h⟩
  refine y_loop (pcJ := 75) (σ := Int × MS) (fun n u H locs ls => va_P D vwCl (RW D a u.2) H ∧ va_S A s₀.heap H locs ∧ lv_has ls 2 [(0, .ref (a 200)), (1, .int (i2 u.1))] ∧ m_x12_stands_L75 n u.1 u.2 = some o) (fun u => []) (fun u H locs ls hI => by obtain ⟨_, _, _, h⟩ := hI; cases h) (fun n75 ih75 u H locs ls hI => ?_) (fun J75 => ?_)
  · obtain ⟨hP, hS, hl, h⟩ := hI
    obtain ⟨x41, s42⟩ := u
    have hP : va_P D vwCl (RW D a s42) H := hP
    have hl : lv_has ls 2 [(0, .ref (a 200)), (1, .int (i2 x41))] := hl
    have h : m_x12_stands_b75 (m_x12_stands_L75 n75) x41 s42 = some o := h
    unfold m_x12_stands_b75 at h
    refine lv_iload_n hx hb eX12_stands_74.2.1 rfl (lv_at hl 1 rfl) ?_
    refine lv_bipush (v := 8) hx hb eX12_stands_74.2.2.1 (by decide) ?_
    obtain ⟨hr43, h⟩ := rg_e h
    refine lv_icmp_ge (tgt := 102) hx hb eX12_stands_74.2.2.2.1 (by decide) (fun c44 => ?_) (fun c44 => ?_)
    · have h := if_t ((i2_le (x := 8) (y := x41) (by decide) hr43).mp c44) h
      refine lv_iconst (v := 0) hx hb eX12_stands_102.1 (by decide) ?_
      refine lv_istore_n (lv' := [(1, .int 0), (0, .ref (a 200))]) hx hb eX12_stands_102.2.1 rfl hl (by decide) rfl (fun ls hl => ?_)
      exact J104 FU (0, s42) _ _ _ ⟨hP, hS, lv_sub hl [1, 0] rfl, h⟩
    · have h := if_f (mt (i2_le (x := 8) (y := x41) (by decide) hr43).mpr c44) h
      refine lv_aload_n hx hb eX12_stands_74.2.2.2.2.1 rfl (lv_at hl 0 rfl) ?_
      refine va_get (D := D) (ci := 12) (v := .ref (a 40)) (C := RX12) (T := TX12) (N := 116) hx hb ht inX12 hown hK hP 0 RW_0 rfl 40 (by decide) (ht (.fieldLink RX12 105 "CloneVolumesModel" "names" "[J") fl_X12_105) (fun _ h9 => h9) mF_40 eX12_stands_74.2.2.2.2.2.1 ?_
      refine lv_bipush (v := 8) hx hb eX12_stands_74.2.2.2.2.2.2.1 (by decide) ?_
      refine lv_iload_n hx hb eX12_stands_74.2.2.2.2.2.2.2 rfl (lv_at hl 1 rfl) ?_
      refine lv_iadd hx hb eX12_stands_88.1 ?_
      refine z_topi (y := i2 (8 + x41)) (i2_add 8 x41) ?_
      refine lv_aload_n hx hb eX12_stands_88.2.1 rfl (lv_at hl 0 rfl) ?_
      refine va_get (D := D) (ci := 12) (v := .ref (a 40)) (C := RX12) (T := TX12) (N := 116) hx hb ht inX12 hown hK hP 0 RW_0 rfl 40 (by decide) (ht (.fieldLink RX12 105 "CloneVolumesModel" "names" "[J") fl_X12_105) (fun _ h9 => h9) mF_40 eX12_stands_88.2.2.1 ?_
      refine lv_iload_n hx hb eX12_stands_88.2.2.2.1 rfl (lv_at hl 1 rfl) ?_
      obtain ⟨yl45, eyl45, iyl45, h⟩ := rdL_e h
      refine ya_lald (i := x41) hx hb hK hP 31 2 RW_31 rfl (by decide) eyl45 iyl45 eX12_stands_88.2.2.2.2.1 ?_
      obtain ⟨hi46, h⟩ := inb_e h
      refine ya_last (i := (8 + x41)) (x := yl45) hx hb hK hP (hDD _) hS 31 2 RW_31 rfl (by decide) hi46 eX12_stands_88.2.2.2.2.2.1 (RW_w31 _) (fun H locs hP hS => ?_)
      obtain ⟨s47, hs47, h⟩ := st_e h
      rw [hs47] at hP
      refine lv_iinc (v := i2 (x41 + 1)) (lv' := [(1, .int (i2 (x41 + 1))), (0, .ref (a 200))]) hx hb eX12_stands_88.2.2.2.2.2.2.1 hl (k := 1) rfl (i2_add x41 1) (by decide) rfl (fun ls hl => ?_)
      refine lv_goto (tgt := 75) hx hb eX12_stands_88.2.2.2.2.2.2.2 (by decide) ?_
      exact ih75 (x41 + 1, s47) _ _ _ ⟨hP, hS, lv_sub hl [1, 0] rfl, h⟩
  refine y_loop (pcJ := 34) (σ := Int × MS) (fun n u H locs ls => va_P D vwCl (RW D a u.2) H ∧ va_S A s₀.heap H locs ∧ lv_has ls 2 [(0, .ref (a 200)), (1, .int (i2 u.1))] ∧ m_x12_stands_L34 n u.1 u.2 = some o) (fun u => []) (fun u H locs ls hI => by obtain ⟨_, _, _, h⟩ := hI; cases h) (fun n34 ih34 u H locs ls hI => ?_) (fun J34 => ?_)
  · obtain ⟨hP, hS, hl, h⟩ := hI
    obtain ⟨x48, s49⟩ := u
    have hP : va_P D vwCl (RW D a s49) H := hP
    have hl : lv_has ls 2 [(0, .ref (a 200)), (1, .int (i2 x48))] := hl
    have h : m_x12_stands_b34 (m_x12_stands_L34 n34) x48 s49 = some o := h
    unfold m_x12_stands_b34 at h
    refine lv_iload_n hx hb eX12_stands_24.2.2.2.2.2.2.1 rfl (lv_at hl 1 rfl) ?_
    refine lv_iconst (v := 3) hx hb eX12_stands_24.2.2.2.2.2.2.2 (by decide) ?_
    obtain ⟨hr50, h⟩ := rg_e h
    refine lv_icmp_ge (tgt := 73) hx hb eX12_stands_36.1 (by decide) (fun c51 => ?_) (fun c51 => ?_)
    · have h := if_t ((i2_le (x := 3) (y := x48) (by decide) hr50).mp c51) h
      refine lv_iconst (v := 0) hx hb eX12_stands_60.2.2.2.2.2.2.2 (by decide) ?_
      refine lv_istore_n (lv' := [(1, .int 0), (0, .ref (a 200))]) hx hb eX12_stands_74.1 rfl hl (by decide) rfl (fun ls hl => ?_)
      exact J75 FU (0, s49) _ _ _ ⟨hP, hS, lv_sub hl [1, 0] rfl, h⟩
    · have h := if_f (mt (i2_le (x := 3) (y := x48) (by decide) hr50).mpr c51) h
      refine lv_aload_n hx hb eX12_stands_36.2.1 rfl (lv_at hl 0 rfl) ?_
      refine va_get (D := D) (ci := 12) (v := .ref (a 42)) (C := RX12) (T := TX12) (N := 116) hx hb ht inX12 hown hK hP 0 RW_0 rfl 42 (by decide) (ht (.fieldLink RX12 112 "CloneVolumesModel" "codeFrom" "[I") fl_X12_112) (fun _ h9 => h9) mF_42 eX12_stands_36.2.2.1 ?_
      refine lv_iconst (v := 3) hx hb eX12_stands_36.2.2.2.1 (by decide) ?_
      refine lv_iload_n hx hb eX12_stands_36.2.2.2.2.1 rfl (lv_at hl 1 rfl) ?_
      refine lv_iadd hx hb eX12_stands_36.2.2.2.2.2.1 ?_
      refine z_topi (y := i2 (3 + x48)) (i2_add 3 x48) ?_
      refine lv_aload_n hx hb eX12_stands_36.2.2.2.2.2.2.1 rfl (lv_at hl 0 rfl) ?_
      refine va_get (D := D) (ci := 12) (v := .ref (a 42)) (C := RX12) (T := TX12) (N := 116) hx hb ht inX12 hown hK hP 0 RW_0 rfl 42 (by decide) (ht (.fieldLink RX12 112 "CloneVolumesModel" "codeFrom" "[I") fl_X12_112) (fun _ h9 => h9) mF_42 eX12_stands_36.2.2.2.2.2.2.2 ?_
      refine lv_iload_n hx hb eX12_stands_50.1 rfl (lv_at hl 1 rfl) ?_
      obtain ⟨y52, ey52, iy52, h⟩ := rdI_e h
      refine ya_iald (i := x48) hx hb hK hP 33 0 RW_33 rfl (by decide) ey52 iy52 eX12_stands_50.2.1 ?_
      obtain ⟨hi53, h⟩ := inb_e h
      refine ya_iast (i := (3 + x48)) (x := y52) hx hb hK hP (hDD _) hS 33 0 RW_33 rfl (by decide) hi53 eX12_stands_50.2.2.1 (RW_w33 _) (fun H locs hP hS => ?_)
      obtain ⟨s54, hs54, h⟩ := st_e h
      rw [hs54] at hP
      refine lv_aload_n hx hb eX12_stands_50.2.2.2.1 rfl (lv_at hl 0 rfl) ?_
      refine va_get (D := D) (ci := 12) (v := .ref (a 43)) (C := RX12) (T := TX12) (N := 116) hx hb ht inX12 hown hK hP 0 RW_0 rfl 43 (by decide) (ht (.fieldLink RX12 115 "CloneVolumesModel" "codeEnd" "[I") fl_X12_115) (fun _ h9 => h9) mF_43 eX12_stands_50.2.2.2.2.1 ?_
      refine lv_iconst (v := 3) hx hb eX12_stands_50.2.2.2.2.2.1 (by decide) ?_
      refine lv_iload_n hx hb eX12_stands_50.2.2.2.2.2.2.1 rfl (lv_at hl 1 rfl) ?_
      refine lv_iadd hx hb eX12_stands_50.2.2.2.2.2.2.2 ?_
      refine z_topi (y := i2 (3 + x48)) (i2_add 3 x48) ?_
      refine lv_aload_n hx hb eX12_stands_60.1 rfl (lv_at hl 0 rfl) ?_
      refine va_get (D := D) (ci := 12) (v := .ref (a 43)) (C := RX12) (T := TX12) (N := 116) hx hb ht inX12 hown hK hP 0 RW_0 rfl 43 (by decide) (ht (.fieldLink RX12 115 "CloneVolumesModel" "codeEnd" "[I") fl_X12_115) (fun _ h9 => h9) mF_43 eX12_stands_60.2.1 ?_
      refine lv_iload_n hx hb eX12_stands_60.2.2.1 rfl (lv_at hl 1 rfl) ?_
      obtain ⟨y55, ey55, iy55, h⟩ := rdI_e h
      refine ya_iald (i := x48) hx hb hK hP 34 0 RW_34 rfl (by decide) ey55 iy55 eX12_stands_60.2.2.2.1 ?_
      obtain ⟨hi56, h⟩ := inb_e h
      refine ya_iast (i := (3 + x48)) (x := y55) hx hb hK hP (hDD _) hS 34 0 RW_34 rfl (by decide) hi56 eX12_stands_60.2.2.2.2.1 (RW_w34 _) (fun H locs hP hS => ?_)
      obtain ⟨s57, hs57, h⟩ := st_e h
      rw [hs57] at hP
      refine lv_iinc (v := i2 (x48 + 1)) (lv' := [(1, .int (i2 (x48 + 1))), (0, .ref (a 200))]) hx hb eX12_stands_60.2.2.2.2.2.1 hl (k := 1) rfl (i2_add x48 1) (by decide) rfl (fun ls hl => ?_)
      refine lv_goto (tgt := 34) hx hb eX12_stands_60.2.2.2.2.2.2.1 (by decide) ?_
      exact ih34 (x48 + 1, s57) _ _ _ ⟨hP, hS, lv_sub hl [1, 0] rfl, h⟩
  refine y_loop (pcJ := 7) (σ := Int × MS) (fun n u H locs ls => va_P D vwCl (RW D a u.2) H ∧ va_S A s₀.heap H locs ∧ lv_has ls 2 [(0, .ref (a 200)), (1, .int (i2 u.1))] ∧ m_x12_stands_L7 n u.1 u.2 = some o) (fun u => []) (fun u H locs ls hI => by obtain ⟨_, _, _, h⟩ := hI; cases h) (fun n7 ih7 u H locs ls hI => ?_) (fun J7 => ?_)
  · obtain ⟨hP, hS, hl, h⟩ := hI
    obtain ⟨x58, s59⟩ := u
    have hP : va_P D vwCl (RW D a s59) H := hP
    have hl : lv_has ls 2 [(0, .ref (a 200)), (1, .int (i2 x58))] := hl
    have h : m_x12_stands_b7 (m_x12_stands_L7 n7) x58 s59 = some o := h
    unfold m_x12_stands_b7 at h
    refine lv_iload_n hx hb eX12_stands_0.2.2.2.2.2.1 rfl (lv_at hl 1 rfl) ?_
    refine lv_iconst (v := 5) hx hb eX12_stands_0.2.2.2.2.2.2.1 (by decide) ?_
    obtain ⟨hr60, h⟩ := rg_e h
    refine lv_icmp_ge (tgt := 32) hx hb eX12_stands_0.2.2.2.2.2.2.2 (by decide) (fun c61 => ?_) (fun c61 => ?_)
    · have h := if_t ((i2_le (x := 5) (y := x58) (by decide) hr60).mp c61) h
      refine lv_iconst (v := 0) hx hb eX12_stands_24.2.2.2.2.1 (by decide) ?_
      refine lv_istore_n (lv' := [(1, .int 0), (0, .ref (a 200))]) hx hb eX12_stands_24.2.2.2.2.2.1 rfl hl (by decide) rfl (fun ls hl => ?_)
      exact J34 FU (0, s59) _ _ _ ⟨hP, hS, lv_sub hl [1, 0] rfl, h⟩
    · have h := if_f (mt (i2_le (x := 5) (y := x58) (by decide) hr60).mpr c61) h
      refine lv_aload_n hx hb eX12_stands_12.1 rfl (lv_at hl 0 rfl) ?_
      refine va_get (D := D) (ci := 12) (v := .ref (a 39)) (C := RX12) (T := TX12) (N := 116) hx hb ht inX12 hown hK hP 0 RW_0 rfl 39 (by decide) (ht (.fieldLink RX12 102 "CloneVolumesModel" "many" "[I") fl_X12_102) (fun _ h9 => h9) mF_39 eX12_stands_12.2.1 ?_
      refine lv_iconst (v := 5) hx hb eX12_stands_12.2.2.1 (by decide) ?_
      refine lv_iload_n hx hb eX12_stands_12.2.2.2.1 rfl (lv_at hl 1 rfl) ?_
      refine lv_iadd hx hb eX12_stands_12.2.2.2.2.1 ?_
      refine z_topi (y := i2 (5 + x58)) (i2_add 5 x58) ?_
      refine lv_aload_n hx hb eX12_stands_12.2.2.2.2.2.1 rfl (lv_at hl 0 rfl) ?_
      refine va_get (D := D) (ci := 12) (v := .ref (a 39)) (C := RX12) (T := TX12) (N := 116) hx hb ht inX12 hown hK hP 0 RW_0 rfl 39 (by decide) (ht (.fieldLink RX12 102 "CloneVolumesModel" "many" "[I") fl_X12_102) (fun _ h9 => h9) mF_39 eX12_stands_12.2.2.2.2.2.2.1 ?_
      refine lv_iload_n hx hb eX12_stands_12.2.2.2.2.2.2.2 rfl (lv_at hl 1 rfl) ?_
      obtain ⟨y62, ey62, iy62, h⟩ := rdI_e h
      refine ya_iald (i := x58) hx hb hK hP 30 0 RW_30 rfl (by decide) ey62 iy62 eX12_stands_24.1 ?_
      obtain ⟨hi63, h⟩ := inb_e h
      refine ya_iast (i := (5 + x58)) (x := y62) hx hb hK hP (hDD _) hS 30 0 RW_30 rfl (by decide) hi63 eX12_stands_24.2.1 (RW_w30 _) (fun H locs hP hS => ?_)
      obtain ⟨s64, hs64, h⟩ := st_e h
      rw [hs64] at hP
      refine lv_iinc (v := i2 (x58 + 1)) (lv' := [(1, .int (i2 (x58 + 1))), (0, .ref (a 200))]) hx hb eX12_stands_24.2.2.1 hl (k := 1) rfl (i2_add x58 1) (by decide) rfl (fun ls hl => ?_)
      refine lv_goto (tgt := 7) hx hb eX12_stands_24.2.2.2.1 (by decide) ?_
      exact ih7 (x58 + 1, s64) _ _ _ ⟨hP, hS, lv_sub hl [1, 0] rfl, h⟩
  refine lv_aload_n hx hb eX12_stands_0.1 rfl (lv_at hl 0 rfl) ?_
  refine lv_iconst (v := 1) hx hb eX12_stands_0.2.1 (by decide) ?_
  refine ya_put (D := D) (ci := 12) (v := .int 1) (ty := .boolean) (C := RX12) (T := TX12) (N := 116) hx hb ht inX12 tyX12 tyX12_ok nmX12 hown hK hP (hDD _) hS 0 RW_0 rfl 47 (by decide) (ht (.fieldLink RX12 406 "CloneVolumesModel" "isTold" "Z") fl_X12_406) (fun _ h9 => h9) rfl (by decide +kernel) (by decide) (by decide) (by rw [mF_len]; decide) eX12_stands_0.2.2.1 (RW_f47 1) (fun H locs hP hS => ?_)
  obtain ⟨s65, hs65, h⟩ := st_e h
  rw [hs65] at hP
  refine lv_iconst (v := 0) hx hb eX12_stands_0.2.2.2.1 (by decide) ?_
  refine lv_istore_n (lv' := [(1, .int 0), (0, .ref (a 200))]) hx hb eX12_stands_0.2.2.2.2.1 rfl hl (by decide) rfl (fun ls hl => ?_)
  exact J7 FU (0, s65) _ _ _ ⟨hP, hS, lv_sub hl [1, 0] rfl, h⟩
set_option maxHeartbeats 4000000 in
set_option maxRecDepth 100000 in
theorem k_x12_refuses (l : Launch) (D : va_G) (a : Nat → Nat) (p0 : Int) (sz : Nat) (s : MS) (o : (Int × MS)) (h : m_x12_refuses p0 s = some o) : yWi l yX12_refuses cX12_refuses 2 (some .int) { frames := 0, cells := 0, slots := 0, locals := 0 } D sz [.ref (a 200), .int (i2 p0)] (RW D a s) (RW D a o.2) (i2 o.1) := by
  refine Met.ofW (cc := cX12_refuses) (maxL := 2) (ret := (some .int)) (by decide) rfl ?_
  intro p e s₀ m args below meth c s₁ B hml hv
  obtain ⟨rfl, ⟨hsz, hP, hK, hD0⟩, hN⟩ := hv
  have hx := B.exec
  have hb := B.bytes
  have hr := B.returns
  have hts := atoms_spec (ws := wz yX12_refuses cX12_refuses 2 (some .int)) B.pre
  have ht : ∀ w ∈ lw_gd, w.before _ s₀ = true := fun w h => hts w (List.mem_cons_of_mem _ h)
  have hown : s₀.vm.findClass RX12 = some m.cls := findClass_of_methodNamed B.named
  have hlocks := B.notSynchronized
  subst hsz
  have hD := hD0.self (sz := s₀.heap.size)
  generalize hAe : va_A (RW D a s) s₀.heap.size = A at hD ⊢
  have hA : ∀ q : Nat, s₀.heap.size ≤ q → A q := fun q h => by rw [← hAe]; exact Or.inr h
  have hS : va_S A s₀.heap s₀.heap [] := va_S.rf
  have hDD : ∀ t : MS, va_D A (RW D a t) := fun t => RW_D t hD
  have hl := lv_entry ([.ref (a 200), .int (i2 p0)]) (n := 2) (Nat.le_of_ble_eq_true rfl)
  rw [lg_entry_eq]
  generalize (lg_sl ([.ref (a 200), .int (i2 p0)]) ++ List.replicate (2 - (lg_sl ([.ref (a 200), .int (i2 p0)])).length) Slot.unset).toArray = ls at hl ⊢
  have hl : lv_has ls 2 [(0, .ref (a 200)), (1, .int (i2 p0))] := hl
  unfold m_x12_refuses at h
  refine lv_aload_n hx hb eX12_isVolume_25.2.2.2.2.2.2.1 rfl (lv_at hl 0 rfl) ?_
  refine va_get (D := D) (ci := 12) (v := .ref (a 9)) (C := RX12) (T := TX12) (N := 116) hx hb ht inX12 hown hK hP 0 RW_0 rfl 9 (by decide) (ht (.fieldLink RX12 17 "CloneVolumesModel" "refused" "[I") fl_X12_17) (fun _ h9 => h9) mF_9 eX12_isVolume_25.2.2.2.2.2.2.2 ?_
  refine lv_iload_n hx hb eX12_refuses_4.1 rfl (lv_at hl 1 rfl) ?_
  refine lv_dup2_11 hx hb eX12_refuses_4.2.1 rfl rfl ?_
  obtain ⟨y1, ey1, iy1, h⟩ := rdI_e h
  refine ya_iald (i := p0) hx hb hK hP 2 0 RW_2 rfl (by decide) ey1 iy1 eX12_refuses_4.2.2.1 ?_
  refine lv_iconst (v := 1) hx hb eX12_refuses_4.2.2.2.1 (by decide) ?_
  refine lv_iadd hx hb eX12_refuses_4.2.2.2.2.1 ?_
  refine z_topi (y := i2 (y1 + 1)) (i2_add y1 1) ?_
  obtain ⟨hi2, h⟩ := inb_e h
  refine ya_iast (i := p0) (x := (y1 + 1)) hx hb hK hP (hDD _) hS 2 0 RW_2 rfl (by decide) hi2 eX12_refuses_4.2.2.2.2.2.1 (RW_w2 _) (fun H locs hP hS => ?_)
  obtain ⟨s3, hs3, h⟩ := st_e h
  rw [hs3] at hP
  refine lv_iconst (v := (-1)) hx hb eX12_refuses_4.2.2.2.2.2.2.1 (by decide) ?_
  obtain rfl := Option.some.inj h
  exact W.iret (v := (-1)) hx hb hr (fun t ht hW => ⟨⟨_, (), rfl, rfl, by rw [ht]; exact hP, va_K.moved hW.alike hK, hDD _⟩, hS.F ht⟩) hS.2.2 eX12_refuses_4.2.2.2.2.2.2.2
set_option maxHeartbeats 4000000 in
set_option maxRecDepth 100000 in
theorem k_x12_store (l : Launch) (D : va_G) (a : Nat → Nat) (sz : Nat) (s : MS) (o : (Int × MS)) (h : m_x12_store s = some o) : yWi l yX12_store cX12_store 2 (some .int) { frames := 12, cells := 0, slots := 0, locals := 720 } D sz [.ref (a 200)] (RW D a s) (RW D a o.2) (i2 o.1) := by
  refine Met.ofW (cc := cX12_store) (maxL := 2) (ret := (some .int)) (by decide) rfl ?_
  intro p e s₀ m args below meth c s₁ B hml hv
  obtain ⟨rfl, ⟨hsz, hP, hK, hD0⟩, hN⟩ := hv
  have hx := B.exec
  have hb := B.bytes
  have hr := B.returns
  have hts := atoms_spec (ws := wz yX12_store cX12_store 2 (some .int)) B.pre
  have ht : ∀ w ∈ lw_gd, w.before _ s₀ = true := fun w h => hts w (List.mem_cons_of_mem _ h)
  have hown : s₀.vm.findClass RX12 = some m.cls := findClass_of_methodNamed B.named
  have hlocks := B.notSynchronized
  subst hsz
  have hD := hD0.self (sz := s₀.heap.size)
  generalize hAe : va_A (RW D a s) s₀.heap.size = A at hD ⊢
  have hA : ∀ q : Nat, s₀.heap.size ≤ q → A q := fun q h => by rw [← hAe]; exact Or.inr h
  have hS : va_S A s₀.heap s₀.heap [] := va_S.rf
  have hDD : ∀ t : MS, va_D A (RW D a t) := fun t => RW_D t hD
  have hl := lv_entry ([.ref (a 200)]) (n := 2) (Nat.le_of_ble_eq_true rfl)
  rw [lg_entry_eq]
  generalize (lg_sl ([.ref (a 200)]) ++ List.replicate (2 - (lg_sl ([.ref (a 200)])).length) Slot.unset).toArray = ls at hl ⊢
  have hl : lv_has ls 2 [(0, .ref (a 200))] := hl
  unfold m_x12_store at h
  refine y_head (pcJ := 109) (σ := MS) (fun u H locs ls => va_P D vwCl (RW D a u) H ∧ va_S A s₀.heap H locs ∧ lv_has ls 2 [(0, .ref (a 200))] ∧ m_x12_store_J109 u = some o) (fun u => []) (fun u H locs ls hI => ?_) (fun J109 => ?_)
  · obtain ⟨hP, hS, hl, h⟩ := hI
    obtain ⟨s1, rfl⟩ : ∃ z, z = u := ⟨u, rfl⟩
    have hP : va_P D vwCl (RW D a s1) H := hP
    have hl : lv_has ls 2 [(0, .ref (a 200))] := hl
    have h : m_x12_store_J109 s1 = some o := h
    unfold m_x12_store_J109 at h
    refine lv_aload_n hx hb eX12_store_95.2.2.2.2.2.2.1 rfl (lv_at hl 0 rfl) ?_
    refine lv_aload_n hx hb eX12_store_95.2.2.2.2.2.2.2 rfl (lv_at hl 0 rfl) ?_
    refine va_get (D := D) (ci := 12) (v := .int (i2 (gI s1 5))) (C := RX12) (T := TX12) (N := 116) hx hb ht inX12 hown hK hP 0 RW_0 rfl 5 (by decide) (ht (.fieldLink RX12 266 "CloneVolumesModel" "bad" "I") fl_X12_266) (fun _ h9 => h9) mF_5 eX12_store_111.1 ?_
    refine ya_put (D := D) (ci := 12) (v := .int (i2 (gI s1 5))) (ty := .int) (C := RX12) (T := TX12) (N := 116) hx hb ht inX12 tyX12 tyX12_ok nmX12 hown hK hP (hDD _) hS 0 RW_0 rfl 7 (by decide) (ht (.fieldLink RX12 396 "CloneVolumesModel" "fault" "I") fl_X12_396) (fun _ h9 => h9) rfl (by decide +kernel) rfl rfl (by rw [mF_len]; decide) eX12_store_111.2.1 (RW_f7 (gI s1 5)) (fun H locs hP hS => ?_)
    obtain ⟨s2, hs2, h⟩ := st_e h
    rw [hs2] at hP
    refine lv_aload_n hx hb eX12_store_111.2.2.1 rfl (lv_at hl 0 rfl) ?_
    refine lv_aload_n hx hb eX12_store_111.2.2.2.1 rfl (lv_at hl 0 rfl) ?_
    refine va_get (D := D) (ci := 12) (v := .int (i2 (gI s2 6))) (C := RX12) (T := TX12) (N := 116) hx hb ht inX12 hown hK hP 0 RW_0 rfl 6 (by decide) (ht (.fieldLink RX12 269 "CloneVolumesModel" "badPlace" "I") fl_X12_269) (fun _ h9 => h9) mF_6 eX12_store_111.2.2.2.2.1 ?_
    refine ya_put (D := D) (ci := 12) (v := .int (i2 (gI s2 6))) (ty := .int) (C := RX12) (T := TX12) (N := 116) hx hb ht inX12 tyX12 tyX12_ok nmX12 hown hK hP (hDD _) hS 0 RW_0 rfl 8 (by decide) (ht (.fieldLink RX12 13 "CloneVolumesModel" "faultPlace" "I") fl_X12_13) (fun _ h9 => h9) rfl (by decide +kernel) rfl rfl (by rw [mF_len]; decide) eX12_store_111.2.2.2.2.2.1 (RW_f8 (gI s2 6)) (fun H locs hP hS => ?_)
    obtain ⟨s3, hs3, h⟩ := st_e h
    rw [hs3] at hP
    refine lv_aload_n hx hb eX12_store_111.2.2.2.2.2.2.1 rfl (lv_at hl 0 rfl) ?_
    refine va_get (D := D) (ci := 12) (v := .int (i2 (gI s3 5))) (C := RX12) (T := TX12) (N := 116) hx hb ht inX12 hown hK hP 0 RW_0 rfl 5 (by decide) (ht (.fieldLink RX12 266 "CloneVolumesModel" "bad" "I") fl_X12_266) (fun _ h9 => h9) mF_5 eX12_store_111.2.2.2.2.2.2.2 ?_
    obtain ⟨hr4, h⟩ := rg_e h
    refine lv_if_eq (tgt := 138) hx hb eX12_store_129.1 (by decide) (fun c5 => ?_) (fun c5 => ?_)
    · have h := if_t ((i2_eq (x := (gI s3 5)) (y := 0) hr4 (by decide)).mp c5) h
      refine lv_aload_n hx hb eX12_store_129.2.2.2.2.2.1 rfl (lv_at hl 0 rfl) ?_
      obtain ⟨s7, hc6, h⟩ := bn_e h
      refine ywVv (As := []) (rest := []) (C := RX12) (n := 0) (ws' := RW D a s7) ⟨hx, hb, hml, hown, ht⟩ (k_x12_stands l D a _ _ _ hc6) (zgV ml_X12_403 im_X12_stands se_X12_stands in_X12 co_X12_stands) rfl rfl (by decide +kernel) ⟨Nat.le_of_ble_eq_true rfl, Nat.le_of_ble_eq_true rfl⟩ hN hK hP (hDD _) hS hA 0 RW_0 rfl rfl rfl hl.1 rfl (Nat.le_of_ble_eq_true rfl) eX12_store_129.2.2.2.2.2.2.1 ⟨Nat.le_of_ble_eq_true rfl, Nat.le_of_ble_eq_true rfl⟩ (fun H locs hP hS => ?_)
      refine lv_aload_n hx hb eX12_store_129.2.2.2.2.2.2.2 rfl (lv_at hl 0 rfl) ?_
      refine va_get (D := D) (ci := 12) (v := .int (i2 (gI s7 46))) (C := RX12) (T := TX12) (N := 116) hx hb ht inX12 hown hK hP 0 RW_0 rfl 46 (by decide) (ht (.fieldLink RX12 374 "CloneVolumesModel" "statements" "I") fl_X12_374) (fun _ h9 => h9) mF_46 eX12_store_143.1 ?_
      obtain rfl := Option.some.inj h
      exact W.iret (v := (i2 (gI s7 46))) hx hb hr (fun t ht hW => ⟨⟨_, (), rfl, rfl, by rw [ht]; exact hP, va_K.moved hW.alike hK, hDD _⟩, hS.F ht⟩) hS.2.2 eX12_store_143.2.1
    · have h := if_f (mt (i2_eq (x := (gI s3 5)) (y := 0) hr4 (by decide)).mpr c5) h
      refine lv_aload_n hx hb eX12_store_129.2.1 rfl (lv_at hl 0 rfl) ?_
      refine lv_iconst (v := 1) hx hb eX12_store_129.2.2.1 (by decide) ?_
      obtain ⟨⟨r10, s9⟩, hc8, h⟩ := bn_e h
      refine ywV (r0 := i2 r10) (As := [.int 1]) (rest := []) (C := RX12) (n := 1) (ws' := RW D a s9) ⟨hx, hb, hml, hown, ht⟩ (k_x12_refuses l D a 1 _ _ _ hc8) (zgV ml_X12_399 im_X12_refuses se_X12_refuses in_X12 co_X12_refuses) rfl rfl (by decide +kernel) ⟨Nat.le_of_ble_eq_true rfl, Nat.le_of_ble_eq_true rfl⟩ hN hK hP (hDD _) hS hA 0 RW_0 rfl rfl rfl hl.1 rfl (Nat.le_of_ble_eq_true rfl) eX12_store_129.2.2.2.1 ⟨Nat.le_of_ble_eq_true rfl, Nat.le_of_ble_eq_true rfl⟩ (fun H locs hP hS => ?_)
      obtain rfl := Option.some.inj h
      exact W.iret (v := (i2 r10)) hx hb hr (fun t ht hW => ⟨⟨_, (), rfl, rfl, by rw [ht]; exact hP, va_K.moved hW.alike hK, hDD _⟩, hS.F ht⟩) hS.2.2 eX12_store_129.2.2.2.2.1
  refine y_loop (pcJ := 87) (σ := MS) (fun n u H locs ls => va_P D vwCl (RW D a u) H ∧ va_S A s₀.heap H locs ∧ lv_has ls 2 [(0, .ref (a 200))] ∧ m_x12_store_L87 n u = some o) (fun u => []) (fun u H locs ls hI => by obtain ⟨_, _, _, h⟩ := hI; cases h) (fun n87 ih87 u H locs ls hI => ?_) (fun J87 => ?_)
  · obtain ⟨hP, hS, hl, h⟩ := hI
    obtain ⟨s11, rfl⟩ : ∃ z, z = u := ⟨u, rfl⟩
    have hP : va_P D vwCl (RW D a s11) H := hP
    have hl : lv_has ls 2 [(0, .ref (a 200))] := hl
    have h : m_x12_store_b87 (m_x12_store_L87 n87) s11 = some o := h
    unfold m_x12_store_b87 at h
    refine lv_aload_n hx hb eX12_store_79.2.2.2.2.1 rfl (lv_at hl 0 rfl) ?_
    refine va_get (D := D) (ci := 12) (v := .int (i2 (gI s11 5))) (C := RX12) (T := TX12) (N := 116) hx hb ht inX12 hown hK hP 0 RW_0 rfl 5 (by decide) (ht (.fieldLink RX12 266 "CloneVolumesModel" "bad" "I") fl_X12_266) (fun _ h9 => h9) mF_5 eX12_store_79.2.2.2.2.2.1 ?_
    obtain ⟨hr12, h⟩ := rg_e h
    refine lv_if_ne (tgt := 109) hx hb eX12_store_79.2.2.2.2.2.2.1 (by decide) (fun c13 => ?_) (fun c13 => ?_)
    · have h := if_f (mt (i2_eq (x := (gI s11 5)) (y := 0) hr12 (by decide)).mpr c13) h
      exact J109 s11 _ _ _ ⟨hP, hS, lv_sub hl [0] rfl, h⟩
    · have h := if_t ((i2_eq (x := (gI s11 5)) (y := 0) hr12 (by decide)).mp c13) h
      refine lv_aload_n hx hb eX12_store_79.2.2.2.2.2.2.2 rfl (lv_at hl 0 rfl) ?_
      obtain ⟨⟨r16, s15⟩, hc14, h⟩ := bn_e h
      refine ywV (r0 := i2 r16) (As := []) (rest := []) (C := RX12) (n := 0) (ws' := RW D a s15) ⟨hx, hb, hml, hown, ht⟩ (k_x12_look l D a _ _ _ hc14) (zgV ml_X12_278 im_X12_look se_X12_look in_X12 co_X12_look) rfl rfl (by decide +kernel) ⟨Nat.le_of_ble_eq_true rfl, Nat.le_of_ble_eq_true rfl⟩ hN hK hP (hDD _) hS hA 0 RW_0 rfl rfl rfl hl.1 rfl (Nat.le_of_ble_eq_true rfl) eX12_store_95.1 ⟨Nat.le_of_ble_eq_true rfl, Nat.le_of_ble_eq_true rfl⟩ (fun H locs hP hS => ?_)
      refine lv_iconst (v := (-1)) hx hb eX12_store_95.2.1 (by decide) ?_
      obtain ⟨hr17, h⟩ := rg_e h
      refine lv_icmp_eq (tgt := 109) hx hb eX12_store_95.2.2.1 (by decide) (fun c18 => ?_) (fun c18 => ?_)
      · rw [show ((-1) : Int32) = i2 (-1) from by decide] at c18
        have h := if_t ((i2_eq (x := r16) (y := (-1)) hr17 (by decide)).mp c18) h
        exact J109 s15 _ _ _ ⟨hP, hS, lv_sub hl [0] rfl, h⟩
      · rw [show ((-1) : Int32) = i2 (-1) from by decide] at c18
        have h := if_f (mt (i2_eq (x := r16) (y := (-1)) hr17 (by decide)).mpr c18) h
        refine lv_aload_n hx hb eX12_store_95.2.2.2.1 rfl (lv_at hl 0 rfl) ?_
        obtain ⟨s20, hc19, h⟩ := bn_e h
        refine ywVv (As := []) (rest := []) (C := RX12) (n := 0) (ws' := RW D a s20) ⟨hx, hb, hml, hown, ht⟩ (k_x12_statementTold l D a _ _ _ hc19) (zgV ml_X12_393 im_X12_statementTold se_X12_statementTold in_X12 co_X12_statementTold) rfl rfl (by decide +kernel) ⟨Nat.le_of_ble_eq_true rfl, Nat.le_of_ble_eq_true rfl⟩ hN hK hP (hDD _) hS hA 0 RW_0 rfl rfl rfl hl.1 rfl (Nat.le_of_ble_eq_true rfl) eX12_store_95.2.2.2.2.1 ⟨Nat.le_of_ble_eq_true rfl, Nat.le_of_ble_eq_true rfl⟩ (fun H locs hP hS => ?_)
        refine lv_goto (tgt := 87) hx hb eX12_store_95.2.2.2.2.2.1 (by decide) ?_
        exact ih87 s20 _ _ _ ⟨hP, hS, lv_sub hl [0] rfl, h⟩
  refine y_loop (pcJ := 60) (σ := Int × MS) (fun n u H locs ls => va_P D vwCl (RW D a u.2) H ∧ va_S A s₀.heap H locs ∧ lv_has ls 2 [(0, .ref (a 200)), (1, .int (i2 u.1))] ∧ m_x12_store_L60 n u.1 u.2 = some o) (fun u => []) (fun u H locs ls hI => by obtain ⟨_, _, _, h⟩ := hI; cases h) (fun n60 ih60 u H locs ls hI => ?_) (fun J60 => ?_)
  · obtain ⟨hP, hS, hl, h⟩ := hI
    obtain ⟨x21, s22⟩ := u
    have hP : va_P D vwCl (RW D a s22) H := hP
    have hl : lv_has ls 2 [(0, .ref (a 200)), (1, .int (i2 x21))] := hl
    have h : m_x12_store_b60 (m_x12_store_L60 n60) x21 s22 = some o := h
    unfold m_x12_store_b60 at h
    refine lv_iload_n hx hb eX12_store_51.2.2.2.2.2.1 rfl (lv_at hl 1 rfl) ?_
    refine lv_iconst (v := 3) hx hb eX12_store_51.2.2.2.2.2.2.1 (by decide) ?_
    obtain ⟨hr23, h⟩ := rg_e h
    refine lv_icmp_ge (tgt := 78) hx hb eX12_store_51.2.2.2.2.2.2.2 (by decide) (fun c24 => ?_) (fun c24 => ?_)
    · have h := if_t ((i2_le (x := 3) (y := x21) (by decide) hr23).mp c24) h
      refine lv_aload_n hx hb eX12_store_65.2.2.2.2.2.2.2 rfl (lv_at hl 0 rfl) ?_
      obtain ⟨s26, hc25, h⟩ := bn_e h
      refine ywVv (As := []) (rest := []) (C := RX12) (n := 0) (ws' := RW D a s26) ⟨hx, hb, hml, hown, ht⟩ (k_x12_storeTold l D a _ _ _ hc25) (zgV ml_X12_390 im_X12_storeTold se_X12_storeTold in_X12 co_X12_storeTold) rfl rfl (by decide +kernel) ⟨Nat.le_of_ble_eq_true rfl, Nat.le_of_ble_eq_true rfl⟩ hN hK hP (hDD _) hS hA 0 RW_0 rfl rfl rfl hl.1 rfl (Nat.le_of_ble_eq_true rfl) eX12_store_79.1 ⟨Nat.le_of_ble_eq_true rfl, Nat.le_of_ble_eq_true rfl⟩ (fun H locs hP hS => ?_)
      refine lv_aload_n hx hb eX12_store_79.2.1 rfl (lv_at hl 0 rfl) ?_
      refine lv_iconst (v := 1) hx hb eX12_store_79.2.2.1 (by decide) ?_
      refine ya_put (D := D) (ci := 12) (v := .int 1) (ty := .int) (C := RX12) (T := TX12) (N := 116) hx hb ht inX12 tyX12 tyX12_ok nmX12 hown hK hP (hDD _) hS 0 RW_0 rfl 46 (by decide) (ht (.fieldLink RX12 374 "CloneVolumesModel" "statements" "I") fl_X12_374) (fun _ h9 => h9) rfl (by decide +kernel) rfl rfl (by rw [mF_len]; decide) eX12_store_79.2.2.2.1 (RW_f46 1) (fun H locs hP hS => ?_)
      obtain ⟨s27, hs27, h⟩ := st_e h
      rw [hs27] at hP
      exact J87 FU s27 _ _ _ ⟨hP, hS, lv_sub hl [0] rfl, h⟩
    · have h := if_f (mt (i2_le (x := 3) (y := x21) (by decide) hr23).mpr c24) h
      refine lv_aload_n hx hb eX12_store_65.1 rfl (lv_at hl 0 rfl) ?_
      refine va_get (D := D) (ci := 12) (v := .ref (a 42)) (C := RX12) (T := TX12) (N := 116) hx hb ht inX12 hown hK hP 0 RW_0 rfl 42 (by decide) (ht (.fieldLink RX12 112 "CloneVolumesModel" "codeFrom" "[I") fl_X12_112) (fun _ h9 => h9) mF_42 eX12_store_65.2.1 ?_
      refine lv_iload_n hx hb eX12_store_65.2.2.1 rfl (lv_at hl 1 rfl) ?_
      refine lv_iconst (v := (-1)) hx hb eX12_store_65.2.2.2.1 (by decide) ?_
      obtain ⟨hi28, h⟩ := inb_e h
      refine ya_iast (i := x21) (x := (-1)) hx hb hK hP (hDD _) hS 33 0 RW_33 rfl (by decide) hi28 eX12_store_65.2.2.2.2.1 (RW_w33 _) (fun H locs hP hS => ?_)
      obtain ⟨s29, hs29, h⟩ := st_e h
      rw [hs29] at hP
      refine lv_iinc (v := i2 (x21 + 1)) (lv' := [(1, .int (i2 (x21 + 1))), (0, .ref (a 200))]) hx hb eX12_store_65.2.2.2.2.2.1 hl (k := 1) rfl (i2_add x21 1) (by decide) rfl (fun ls hl => ?_)
      refine lv_goto (tgt := 60) hx hb eX12_store_65.2.2.2.2.2.2.1 (by decide) ?_
      exact ih60 (x21 + 1, s29) _ _ _ ⟨hP, hS, lv_sub hl [1, 0] rfl, h⟩
  refine y_loop (pcJ := 40) (σ := Int × MS) (fun n u H locs ls => va_P D vwCl (RW D a u.2) H ∧ va_S A s₀.heap H locs ∧ lv_has ls 2 [(0, .ref (a 200)), (1, .int (i2 u.1))] ∧ m_x12_store_L40 n u.1 u.2 = some o) (fun u => []) (fun u H locs ls hI => by obtain ⟨_, _, _, h⟩ := hI; cases h) (fun n40 ih40 u H locs ls hI => ?_) (fun J40 => ?_)
  · obtain ⟨hP, hS, hl, h⟩ := hI
    obtain ⟨x30, s31⟩ := u
    have hP : va_P D vwCl (RW D a s31) H := hP
    have hl : lv_has ls 2 [(0, .ref (a 200)), (1, .int (i2 x30))] := hl
    have h : m_x12_store_b40 (m_x12_store_L40 n40) x30 s31 = some o := h
    unfold m_x12_store_b40 at h
    refine lv_iload_n hx hb eX12_store_39.2.1 rfl (lv_at hl 1 rfl) ?_
    refine lv_iconst (v := 5) hx hb eX12_store_39.2.2.1 (by decide) ?_
    obtain ⟨hr32, h⟩ := rg_e h
    refine lv_icmp_ge (tgt := 58) hx hb eX12_store_39.2.2.2.1 (by decide) (fun c33 => ?_) (fun c33 => ?_)
    · have h := if_t ((i2_le (x := 5) (y := x30) (by decide) hr32).mp c33) h
      refine lv_iconst (v := 0) hx hb eX12_store_51.2.2.2.1 (by decide) ?_
      refine lv_istore_n (lv' := [(1, .int 0), (0, .ref (a 200))]) hx hb eX12_store_51.2.2.2.2.1 rfl hl (by decide) rfl (fun ls hl => ?_)
      exact J60 FU (0, s31) _ _ _ ⟨hP, hS, lv_sub hl [1, 0] rfl, h⟩
    · have h := if_f (mt (i2_le (x := 5) (y := x30) (by decide) hr32).mpr c33) h
      refine lv_aload_n hx hb eX12_store_39.2.2.2.2.1 rfl (lv_at hl 0 rfl) ?_
      refine va_get (D := D) (ci := 12) (v := .ref (a 39)) (C := RX12) (T := TX12) (N := 116) hx hb ht inX12 hown hK hP 0 RW_0 rfl 39 (by decide) (ht (.fieldLink RX12 102 "CloneVolumesModel" "many" "[I") fl_X12_102) (fun _ h9 => h9) mF_39 eX12_store_39.2.2.2.2.2.1 ?_
      refine lv_iload_n hx hb eX12_store_39.2.2.2.2.2.2.1 rfl (lv_at hl 1 rfl) ?_
      refine lv_iconst (v := 0) hx hb eX12_store_39.2.2.2.2.2.2.2 (by decide) ?_
      obtain ⟨hi34, h⟩ := inb_e h
      refine ya_iast (i := x30) (x := 0) hx hb hK hP (hDD _) hS 30 0 RW_30 rfl (by decide) hi34 eX12_store_51.1 (RW_w30 _) (fun H locs hP hS => ?_)
      obtain ⟨s35, hs35, h⟩ := st_e h
      rw [hs35] at hP
      refine lv_iinc (v := i2 (x30 + 1)) (lv' := [(1, .int (i2 (x30 + 1))), (0, .ref (a 200))]) hx hb eX12_store_51.2.1 hl (k := 1) rfl (i2_add x30 1) (by decide) rfl (fun ls hl => ?_)
      refine lv_goto (tgt := 40) hx hb eX12_store_51.2.2.1 (by decide) ?_
      exact ih40 (x30 + 1, s35) _ _ _ ⟨hP, hS, lv_sub hl [1, 0] rfl, h⟩
  refine lv_aload_n hx hb eX12_stands_273.2.1 rfl (lv_at hl 0 rfl) ?_
  refine lv_aload_n hx hb eX12_stands_273.2.2.1 rfl (lv_at hl 0 rfl) ?_
  refine va_get (D := D) (ci := 12) (v := .int (i2 (gI s 1))) (C := RX12) (T := TX12) (N := 116) hx hb ht inX12 hown hK hP 0 RW_0 rfl 1 (by decide) (ht (.fieldLink RX12 263 "CloneVolumesModel" "taped" "I") fl_X12_263) (fun _ h9 => h9) mF_1 eX12_stands_273.2.2.2.1 ?_
  refine ya_put (D := D) (ci := 12) (v := .int (i2 (gI s 1))) (ty := .int) (C := RX12) (T := TX12) (N := 116) hx hb ht inX12 tyX12 tyX12_ok nmX12 hown hK hP (hDD _) hS 0 RW_0 rfl 3 (by decide) (ht (.fieldLink RX12 275 "CloneVolumesModel" "end" "I") fl_X12_275) (fun _ h9 => h9) rfl (by decide +kernel) rfl rfl (by rw [mF_len]; decide) eX12_stands_273.2.2.2.2.1 (RW_f3 (gI s 1)) (fun H locs hP hS => ?_)
  obtain ⟨s36, hs36, h⟩ := st_e h
  rw [hs36] at hP
  refine lv_aload_n hx hb eX12_stands_273.2.2.2.2.2.1 rfl (lv_at hl 0 rfl) ?_
  refine lv_iconst (v := 0) hx hb eX12_stands_273.2.2.2.2.2.2.1 (by decide) ?_
  refine ya_put (D := D) (ci := 12) (v := .int 0) (ty := .int) (C := RX12) (T := TX12) (N := 116) hx hb ht inX12 tyX12 tyX12_ok nmX12 hown hK hP (hDD _) hS 0 RW_0 rfl 1 (by decide) (ht (.fieldLink RX12 263 "CloneVolumesModel" "taped" "I") fl_X12_263) (fun _ h9 => h9) rfl (by decide +kernel) rfl rfl (by rw [mF_len]; decide) eX12_stands_273.2.2.2.2.2.2.2 (RW_f1 0) (fun H locs hP hS => ?_)
  obtain ⟨s37, hs37, h⟩ := st_e h
  rw [hs37] at hP
  refine lv_aload_n hx hb eX12_store_13.1 rfl (lv_at hl 0 rfl) ?_
  refine lv_iconst (v := 0) hx hb eX12_store_13.2.1 (by decide) ?_
  refine ya_put (D := D) (ci := 12) (v := .int 0) (ty := .int) (C := RX12) (T := TX12) (N := 116) hx hb ht inX12 tyX12 tyX12_ok nmX12 hown hK hP (hDD _) hS 0 RW_0 rfl 2 (by decide) (ht (.fieldLink RX12 272 "CloneVolumesModel" "at" "I") fl_X12_272) (fun _ h9 => h9) rfl (by decide +kernel) rfl rfl (by rw [mF_len]; decide) eX12_store_13.2.2.1 (RW_f2 0) (fun H locs hP hS => ?_)
  obtain ⟨s38, hs38, h⟩ := st_e h
  rw [hs38] at hP
  refine lv_aload_n hx hb eX12_store_13.2.2.2.1 rfl (lv_at hl 0 rfl) ?_
  refine lv_iconst (v := (-1)) hx hb eX12_store_13.2.2.2.2.1 (by decide) ?_
  refine ya_put (D := D) (ci := 12) (v := .int (-1)) (ty := .int) (C := RX12) (T := TX12) (N := 116) hx hb ht inX12 tyX12 tyX12_ok nmX12 hown hK hP (hDD _) hS 0 RW_0 rfl 4 (by decide) (ht (.fieldLink RX12 286 "CloneVolumesModel" "ended" "I") fl_X12_286) (fun _ h9 => h9) rfl (by decide +kernel) rfl rfl (by rw [mF_len]; decide) eX12_store_13.2.2.2.2.2.1 (RW_f4 (-1)) (fun H locs hP hS => ?_)
  obtain ⟨s39, hs39, h⟩ := st_e h
  rw [hs39] at hP
  refine lv_aload_n hx hb eX12_store_13.2.2.2.2.2.2.1 rfl (lv_at hl 0 rfl) ?_
  refine lv_iconst (v := 0) hx hb eX12_store_13.2.2.2.2.2.2.2 (by decide) ?_
  refine ya_put (D := D) (ci := 12) (v := .int 0) (ty := .int) (C := RX12) (T := TX12) (N := 116) hx hb ht inX12 tyX12 tyX12_ok nmX12 hown hK hP (hDD _) hS 0 RW_0 rfl 5 (by decide) (ht (.fieldLink RX12 266 "CloneVolumesModel" "bad" "I") fl_X12_266) (fun _ h9 => h9) rfl (by decide +kernel) rfl rfl (by rw [mF_len]; decide) eX12_store_25.1 (RW_f5 0) (fun H locs hP hS => ?_)
  obtain ⟨s40, hs40, h⟩ := st_e h
  rw [hs40] at hP
  refine lv_aload_n hx hb eX12_store_25.2.1 rfl (lv_at hl 0 rfl) ?_
  refine lv_iconst (v := (-1)) hx hb eX12_store_25.2.2.1 (by decide) ?_
  refine ya_put (D := D) (ci := 12) (v := .int (-1)) (ty := .int) (C := RX12) (T := TX12) (N := 116) hx hb ht inX12 tyX12 tyX12_ok nmX12 hown hK hP (hDD _) hS 0 RW_0 rfl 6 (by decide) (ht (.fieldLink RX12 269 "CloneVolumesModel" "badPlace" "I") fl_X12_269) (fun _ h9 => h9) rfl (by decide +kernel) rfl rfl (by rw [mF_len]; decide) eX12_store_25.2.2.2.1 (RW_f6 (-1)) (fun H locs hP hS => ?_)
  obtain ⟨s41, hs41, h⟩ := st_e h
  rw [hs41] at hP
  refine lv_aload_n hx hb eX12_store_25.2.2.2.2.1 rfl (lv_at hl 0 rfl) ?_
  refine lv_iconst (v := 0) hx hb eX12_store_25.2.2.2.2.2.1 (by decide) ?_
  refine ya_put (D := D) (ci := 12) (v := .int 0) (ty := .int) (C := RX12) (T := TX12) (N := 116) hx hb ht inX12 tyX12 tyX12_ok nmX12 hown hK hP (hDD _) hS 0 RW_0 rfl 45 (by decide) (ht (.fieldLink RX12 371 "CloneVolumesModel" "coded" "I") fl_X12_371) (fun _ h9 => h9) rfl (by decide +kernel) rfl rfl (by rw [mF_len]; decide) eX12_store_25.2.2.2.2.2.2.1 (RW_f45 0) (fun H locs hP hS => ?_)
  obtain ⟨s42, hs42, h⟩ := st_e h
  rw [hs42] at hP
  refine lv_iconst (v := 0) hx hb eX12_store_25.2.2.2.2.2.2.2 (by decide) ?_
  refine lv_istore_n (lv' := [(1, .int 0), (0, .ref (a 200))]) hx hb eX12_store_39.1 rfl hl (by decide) rfl (fun ls hl => ?_)
  exact J40 FU (0, s42) _ _ _ ⟨hP, hS, lv_sub hl [1, 0] rfl, h⟩
set_option maxHeartbeats 4000000 in
set_option maxRecDepth 100000 in
theorem k_x12_fault (l : Launch) (D : va_G) (a : Nat → Nat) (p0 : Int) (s : MS) (o : Int) (h : m_x12_fault p0 s = some o) : yRi l yX12_fault cX12_fault 2 (some .int) { frames := 0, cells := 0, slots := 0, locals := 0 } D [.ref (a 200), .int (i2 p0)] (RW D a s) (i2 o) := by
  refine Met.ofW (cc := cX12_fault) (maxL := 2) (ret := (some .int)) (by decide) rfl ?_
  intro p e s₀ m args below meth c s₁ B hml hv
  obtain ⟨rfl, ⟨hP, hK⟩, hN⟩ := hv
  have hx := B.exec
  have hb := B.bytes
  have hr := B.returns
  have hts := atoms_spec (ws := wz yX12_fault cX12_fault 2 (some .int)) B.pre
  have ht : ∀ w ∈ lw_gd, w.before _ s₀ = true := fun w h => hts w (List.mem_cons_of_mem _ h)
  have hown : s₀.vm.findClass RX12 = some m.cls := findClass_of_methodNamed B.named
  have hlocks := B.notSynchronized
  have hS : va_S (fun _ => False) s₀.heap s₀.heap [] := va_S.rf
  have hl := lv_entry ([.ref (a 200), .int (i2 p0)]) (n := 2) (Nat.le_of_ble_eq_true rfl)
  rw [lg_entry_eq]
  generalize (lg_sl ([.ref (a 200), .int (i2 p0)]) ++ List.replicate (2 - (lg_sl ([.ref (a 200), .int (i2 p0)])).length) Slot.unset).toArray = ls at hl ⊢
  have hl : lv_has ls 2 [(0, .ref (a 200)), (1, .int (i2 p0))] := hl
  unfold m_x12_fault at h
  refine y_head (pcJ := 24) (σ := Int) (fun u H locs ls => va_P D vwCl (RW D a s) H ∧ va_S (fun _ => False) s₀.heap H locs ∧ lv_has ls 2 [] ∧ m_x12_fault_J24 s u = some o) (fun u => [.int (i2 u)]) (fun u H locs ls hI => ?_) (fun J24 => ?_)
  · obtain ⟨hP, hS, hl, h⟩ := hI
    obtain ⟨x1, rfl⟩ : ∃ z, z = u := ⟨u, rfl⟩
    have hP : va_P D vwCl (RW D a s) H := hP
    have hl : lv_has ls 2 [] := hl
    have h : m_x12_fault_J24 s x1 = some o := h
    unfold m_x12_fault_J24 at h
    obtain rfl := Option.some.inj h
    exact W.iret (v := (i2 x1)) hx hb hr (fun t ht hW => ⟨⟨_, (), rfl, rfl, trivial⟩, hS.F ht⟩) hS.2.2 eX12_fault_11.2.2.2.2.2.2.2
  refine lv_iload_n hx hb eX12_costOf_39.2.2.2.1 rfl (lv_at hl 1 rfl) ?_
  obtain ⟨hr2, h⟩ := rg_e h
  refine lv_if_ne (tgt := 11) hx hb eX12_costOf_39.2.2.2.2.1 (by decide) (fun c3 => ?_) (fun c3 => ?_)
  · have h := if_f (mt (i2_eq (x := p0) (y := 0) hr2 (by decide)).mpr c3) h
    refine lv_iload_n hx hb eX12_fault_11.1 rfl (lv_at hl 1 rfl) ?_
    refine lv_iconst (v := 1) hx hb eX12_fault_11.2.1 (by decide) ?_
    obtain ⟨hr4, h⟩ := rg_e h
    refine lv_icmp_ne (tgt := 23) hx hb eX12_fault_11.2.2.1 (by decide) (fun c5 => ?_) (fun c5 => ?_)
    · have h := if_f (mt (i2_eq (x := p0) (y := 1) hr4 (by decide)).mpr c5) h
      refine lv_iconst (v := (-1)) hx hb eX12_fault_11.2.2.2.2.2.2.1 (by decide) ?_
      exact J24 (-1) _ _ _ ⟨hP, hS, lv_sub hl [] rfl, h⟩
    · have h := if_t ((i2_eq (x := p0) (y := 1) hr4 (by decide)).mp c5) h
      refine lv_aload_n hx hb eX12_fault_11.2.2.2.1 rfl (lv_at hl 0 rfl) ?_
      refine va_get (D := D) (ci := 12) (v := .int (i2 (gI s 8))) (C := RX12) (T := TX12) (N := 116) hx hb ht inX12 hown hK hP 0 RW_0 rfl 8 (by decide) (ht (.fieldLink RX12 13 "CloneVolumesModel" "faultPlace" "I") fl_X12_13) (fun _ h9 => h9) mF_8 eX12_fault_11.2.2.2.2.1 ?_
      refine lv_goto (tgt := 24) hx hb eX12_fault_11.2.2.2.2.2.1 (by decide) ?_
      exact J24 (gI s 8) _ _ _ ⟨hP, hS, lv_sub hl [] rfl, h⟩
  · have h := if_t ((i2_eq (x := p0) (y := 0) hr2 (by decide)).mp c3) h
    refine lv_aload_n hx hb eX12_costOf_39.2.2.2.2.2.1 rfl (lv_at hl 0 rfl) ?_
    refine va_get (D := D) (ci := 12) (v := .int (i2 (gI s 7))) (C := RX12) (T := TX12) (N := 116) hx hb ht inX12 hown hK hP 0 RW_0 rfl 7 (by decide) (ht (.fieldLink RX12 396 "CloneVolumesModel" "fault" "I") fl_X12_396) (fun _ h9 => h9) mF_7 eX12_costOf_39.2.2.2.2.2.2.1 ?_
    refine lv_goto (tgt := 24) hx hb eX12_costOf_39.2.2.2.2.2.2.2 (by decide) ?_
    exact J24 (gI s 7) _ _ _ ⟨hP, hS, lv_sub hl [] rfl, h⟩
set_option maxHeartbeats 4000000 in
set_option maxRecDepth 100000 in
theorem k_x12_isBlock (l : Launch) (D : va_G) (a : Nat → Nat) (p0 : Int) (s : MS) (o : Int) (h : m_x12_isBlock p0 s = some o) : yRi l yX12_isBlock cX12_isBlock 3 (some .boolean) { frames := 1, cells := 0, slots := 0, locals := 60 } D [.ref (a 200), .long (i8 p0)] (RW D a s) (i2 o) := by
  refine Met.ofW (cc := cX12_isBlock) (maxL := 3) (ret := (some .boolean)) (by decide) rfl ?_
  intro p e s₀ m args below meth c s₁ B hml hv
  obtain ⟨rfl, ⟨hP, hK⟩, hN⟩ := hv
  have hx := B.exec
  have hb := B.bytes
  have hr := B.returns
  have hts := atoms_spec (ws := wz yX12_isBlock cX12_isBlock 3 (some .boolean)) B.pre
  have ht : ∀ w ∈ lw_gd, w.before _ s₀ = true := fun w h => hts w (List.mem_cons_of_mem _ h)
  have hown : s₀.vm.findClass RX12 = some m.cls := findClass_of_methodNamed B.named
  have hlocks := B.notSynchronized
  have hS : va_S (fun _ => False) s₀.heap s₀.heap [] := va_S.rf
  have hl := lv_entry ([.ref (a 200), .long (i8 p0)]) (n := 3) (Nat.le_of_ble_eq_true rfl)
  rw [lg_entry_eq]
  generalize (lg_sl ([.ref (a 200), .long (i8 p0)]) ++ List.replicate (3 - (lg_sl ([.ref (a 200), .long (i8 p0)])).length) Slot.unset).toArray = ls at hl ⊢
  have hl : lv_has ls 3 [(0, .ref (a 200)), (1, .long (i8 p0))] := hl
  unfold m_x12_isBlock at h
  refine lv_lload_n hx hb eX12_isBlock_0.1 rfl (lv_at hl 1 rfl) ?_
  refine lv_lconst (v := 0) hx hb eX12_isBlock_0.2.1 (by decide) ?_
  refine lv_aload_n hx hb eX12_isBlock_0.2.2.1 rfl (lv_at hl 0 rfl) ?_
  obtain ⟨r2, hc1, h⟩ := bn_e h
  refine ycV (r0 := i2 r2) (As := []) (rest := [.long 0, .long (i8 p0)]) (C := RX12) (n := 0) ⟨hx, hb, hml, hown, ht⟩ (k_x12_blockMany l D a _ _ hc1) (zgV ml_X12_429 im_X12_blockMany se_X12_blockMany in_X12 co_X12_blockMany) rfl rfl (by decide +kernel) ⟨Nat.le_of_ble_eq_true rfl, Nat.le_of_ble_eq_true rfl⟩ hN hK hP hS 0 RW_0 rfl rfl rfl hl.1 rfl (Nat.le_of_ble_eq_true rfl) eX12_isBlock_0.2.2.2.1 ⟨Nat.le_of_ble_eq_true rfl, Nat.le_of_ble_eq_true rfl⟩ (fun H locs hP hS => ?_)
  refine lv_iconst (v := 1) hx hb eX12_isBlock_0.2.2.2.2.1 (by decide) ?_
  refine lv_isub hx hb eX12_isBlock_0.2.2.2.2.2.1 ?_
  refine z_topi (y := i2 (r2 - 1)) (i2_sub r2 1) ?_
  obtain ⟨hr3, h⟩ := rg_e h
  refine lv_i2l (v := i8 (r2 - 1)) hx hb eX12_isBlock_0.2.2.2.2.2.2.1 (i2_l hr3) ?_
  obtain ⟨r5, hc4, h⟩ := bn_e h
  refine ycS (r0 := i2 r5) (As := [.long (i8 p0), .long 0, .long (i8 (r2 - 1))]) (rest := []) (n := 3) ⟨hx, hb, hml, hown, ht⟩ (k_x12_isIn l D a p0 0 (r2 - 1) _ _ hc4) (zgT ml_X12_309 st_X12_isIn in_X12 co_X12_isIn) rfl rfl (by decide +kernel) ⟨Nat.le_of_ble_eq_true rfl, Nat.le_of_ble_eq_true rfl⟩ hN hK hP hS rfl hl.1 rfl (Nat.le_of_ble_eq_true rfl) eX12_isBlock_0.2.2.2.2.2.2.2 ⟨Nat.le_of_ble_eq_true rfl, Nat.le_of_ble_eq_true rfl⟩ (fun H locs hP hS => ?_)
  obtain ⟨hb6, h⟩ := bo_e h
  obtain rfl := Option.some.inj h
  exact W.zret (v := (i2 r5)) hx hb hr (bo_n hb6) (fun t ht hW => ⟨⟨_, (), rfl, rfl, trivial⟩, hS.F ht⟩) hS.2.2 eX12_isBlock_12.1
set_option maxHeartbeats 4000000 in
set_option maxRecDepth 100000 in
theorem k_x12_isHeld (l : Launch) (D : va_G) (a : Nat → Nat) (p0 : Int) (s : MS) (o : Int) (h : m_x12_isHeld p0 s = some o) : yRi l yX12_isHeld cX12_isHeld 2 (some .boolean) { frames := 2, cells := 0, slots := 0, locals := 120 } D [.ref (a 200), .int (i2 p0)] (RW D a s) (i2 o) := by
  refine Met.ofW (cc := cX12_isHeld) (maxL := 2) (ret := (some .boolean)) (by decide) rfl ?_
  intro p e s₀ m args below meth c s₁ B hml hv
  obtain ⟨rfl, ⟨hP, hK⟩, hN⟩ := hv
  have hx := B.exec
  have hb := B.bytes
  have hr := B.returns
  have hts := atoms_spec (ws := wz yX12_isHeld cX12_isHeld 2 (some .boolean)) B.pre
  have ht : ∀ w ∈ lw_gd, w.before _ s₀ = true := fun w h => hts w (List.mem_cons_of_mem _ h)
  have hown : s₀.vm.findClass RX12 = some m.cls := findClass_of_methodNamed B.named
  have hlocks := B.notSynchronized
  have hS : va_S (fun _ => False) s₀.heap s₀.heap [] := va_S.rf
  have hl := lv_entry ([.ref (a 200), .int (i2 p0)]) (n := 2) (Nat.le_of_ble_eq_true rfl)
  rw [lg_entry_eq]
  generalize (lg_sl ([.ref (a 200), .int (i2 p0)]) ++ List.replicate (2 - (lg_sl ([.ref (a 200), .int (i2 p0)])).length) Slot.unset).toArray = ls at hl ⊢
  have hl : lv_has ls 2 [(0, .ref (a 200)), (1, .int (i2 p0))] := hl
  unfold m_x12_isHeld at h
  refine y_head (pcJ := 21) (σ := Int) (fun u H locs ls => va_P D vwCl (RW D a s) H ∧ va_S (fun _ => False) s₀.heap H locs ∧ lv_has ls 2 [] ∧ m_x12_isHeld_J21 s u = some o) (fun u => [.int (i2 u)]) (fun u H locs ls hI => ?_) (fun J21 => ?_)
  · obtain ⟨hP, hS, hl, h⟩ := hI
    obtain ⟨x1, rfl⟩ : ∃ z, z = u := ⟨u, rfl⟩
    have hP : va_P D vwCl (RW D a s) H := hP
    have hl : lv_has ls 2 [] := hl
    have h : m_x12_isHeld_J21 s x1 = some o := h
    unfold m_x12_isHeld_J21 at h
    obtain ⟨hb2, h⟩ := bo_e h
    obtain rfl := Option.some.inj h
    exact W.zret (v := (i2 x1)) hx hb hr (bo_n hb2) (fun t ht hW => ⟨⟨_, (), rfl, rfl, trivial⟩, hS.F ht⟩) hS.2.2 eX12_isHeld_13.2.2.2.2.1
  refine y_head (pcJ := 20) (σ := Unit) (fun u H locs ls => va_P D vwCl (RW D a s) H ∧ va_S (fun _ => False) s₀.heap H locs ∧ lv_has ls 2 [] ∧ m_x12_isHeld_J20 s u = some o) (fun u => []) (fun u H locs ls hI => ?_) (fun J20 => ?_)
  · obtain ⟨hP, hS, hl, h⟩ := hI
    skip
    have hP : va_P D vwCl (RW D a s) H := hP
    have hl : lv_has ls 2 [] := hl
    have h : m_x12_isHeld_J20 s () = some o := h
    unfold m_x12_isHeld_J20 at h
    refine lv_iconst (v := 0) hx hb eX12_isHeld_13.2.2.2.1 (by decide) ?_
    exact J21 0 _ _ _ ⟨hP, hS, lv_sub hl [] rfl, h⟩
  refine lv_aload_n hx hb eX12_isBlock_12.2.1 rfl (lv_at hl 0 rfl) ?_
  refine lv_iload_n hx hb eX12_isBlock_12.2.2.1 rfl (lv_at hl 1 rfl) ?_
  obtain ⟨r4, hc3, h⟩ := bn_e h
  refine ycV (r0 := i2 r4) (As := [.int (i2 p0)]) (rest := []) (C := RX12) (n := 1) ⟨hx, hb, hml, hown, ht⟩ (k_x12_isUsed l D a p0 _ _ hc3) (zgV ml_X12_435 im_X12_isUsed se_X12_isUsed in_X12 co_X12_isUsed) rfl rfl (by decide +kernel) ⟨Nat.le_of_ble_eq_true rfl, Nat.le_of_ble_eq_true rfl⟩ hN hK hP hS 0 RW_0 rfl rfl rfl hl.1 rfl (Nat.le_of_ble_eq_true rfl) eX12_isBlock_12.2.2.2.1 ⟨Nat.le_of_ble_eq_true rfl, Nat.le_of_ble_eq_true rfl⟩ (fun H locs hP hS => ?_)
  obtain ⟨hr5, h⟩ := rg_e h
  refine lv_if_ne (tgt := 20) hx hb eX12_isBlock_12.2.2.2.2.1 (by decide) (fun c6 => ?_) (fun c6 => ?_)
  · have h := if_f (mt (i2_eq (x := r4) (y := 0) hr5 (by decide)).mpr c6) h
    exact J20 () _ _ _ ⟨hP, hS, lv_sub hl [] rfl, h⟩
  · have h := if_t ((i2_eq (x := r4) (y := 0) hr5 (by decide)).mp c6) h
    refine lv_aload_n hx hb eX12_isBlock_12.2.2.2.2.2.1 rfl (lv_at hl 0 rfl) ?_
    refine lv_iload_n hx hb eX12_isBlock_12.2.2.2.2.2.2.1 rfl (lv_at hl 1 rfl) ?_
    obtain ⟨r8, hc7, h⟩ := bn_e h
    refine ycV (r0 := i2 r8) (As := [.int (i2 p0)]) (rest := []) (C := RX12) (n := 1) ⟨hx, hb, hml, hown, ht⟩ (k_x12_savedOf l D a p0 _ _ hc7) (zgV ml_X12_438 im_X12_savedOf se_X12_savedOf in_X12 co_X12_savedOf) rfl rfl (by decide +kernel) ⟨Nat.le_of_ble_eq_true rfl, Nat.le_of_ble_eq_true rfl⟩ hN hK hP hS 0 RW_0 rfl rfl rfl hl.1 rfl (Nat.le_of_ble_eq_true rfl) eX12_isBlock_12.2.2.2.2.2.2.2 ⟨Nat.le_of_ble_eq_true rfl, Nat.le_of_ble_eq_true rfl⟩ (fun H locs hP hS => ?_)
    obtain ⟨hr9, h⟩ := rg_e h
    refine lv_if_le (tgt := 20) hx hb eX12_isHeld_13.1 (by decide) (fun c10 => ?_) (fun c10 => ?_)
    · have h := if_t ((i2_le (x := r8) (y := 0) hr9 (by decide)).mp c10) h
      exact J20 () _ _ _ ⟨hP, hS, lv_sub hl [] rfl, h⟩
    · have h := if_f (mt (i2_le (x := r8) (y := 0) hr9 (by decide)).mpr c10) h
      refine lv_iconst (v := 1) hx hb eX12_isHeld_13.2.1 (by decide) ?_
      refine lv_goto (tgt := 21) hx hb eX12_isHeld_13.2.2.1 (by decide) ?_
      exact J21 1 _ _ _ ⟨hP, hS, lv_sub hl [] rfl, h⟩
set_option maxHeartbeats 4000000 in
set_option maxRecDepth 100000 in
theorem k_x12_isVolume (l : Launch) (D : va_G) (a : Nat → Nat) (p0 : Int) (s : MS) (o : Int) (h : m_x12_isVolume p0 s = some o) : yRi l yX12_isVolume cX12_isVolume 3 (some .boolean) { frames := 1, cells := 0, slots := 0, locals := 60 } D [.ref (a 200), .long (i8 p0)] (RW D a s) (i2 o) := by
  refine Met.ofW (cc := cX12_isVolume) (maxL := 3) (ret := (some .boolean)) (by decide) rfl ?_
  intro p e s₀ m args below meth c s₁ B hml hv
  obtain ⟨rfl, ⟨hP, hK⟩, hN⟩ := hv
  have hx := B.exec
  have hb := B.bytes
  have hr := B.returns
  have hts := atoms_spec (ws := wz yX12_isVolume cX12_isVolume 3 (some .boolean)) B.pre
  have ht : ∀ w ∈ lw_gd, w.before _ s₀ = true := fun w h => hts w (List.mem_cons_of_mem _ h)
  have hown : s₀.vm.findClass RX12 = some m.cls := findClass_of_methodNamed B.named
  have hlocks := B.notSynchronized
  have hS : va_S (fun _ => False) s₀.heap s₀.heap [] := va_S.rf
  have hl := lv_entry ([.ref (a 200), .long (i8 p0)]) (n := 3) (Nat.le_of_ble_eq_true rfl)
  rw [lg_entry_eq]
  generalize (lg_sl ([.ref (a 200), .long (i8 p0)]) ++ List.replicate (3 - (lg_sl ([.ref (a 200), .long (i8 p0)])).length) Slot.unset).toArray = ls at hl ⊢
  have hl : lv_has ls 3 [(0, .ref (a 200)), (1, .long (i8 p0))] := hl
  unfold m_x12_isVolume at h
  refine y_head (pcJ := 36) (σ := Int) (fun u H locs ls => va_P D vwCl (RW D a s) H ∧ va_S (fun _ => False) s₀.heap H locs ∧ lv_has ls 3 [] ∧ m_x12_isVolume_J36 s u = some o) (fun u => [.int (i2 u)]) (fun u H locs ls hI => ?_) (fun J36 => ?_)
  · obtain ⟨hP, hS, hl, h⟩ := hI
    obtain ⟨x1, rfl⟩ : ∃ z, z = u := ⟨u, rfl⟩
    have hP : va_P D vwCl (RW D a s) H := hP
    have hl : lv_has ls 3 [] := hl
    have h : m_x12_isVolume_J36 s x1 = some o := h
    unfold m_x12_isVolume_J36 at h
    obtain ⟨hb2, h⟩ := bo_e h
    obtain rfl := Option.some.inj h
    exact W.zret (v := (i2 x1)) hx hb hr (bo_n hb2) (fun t ht hW => ⟨⟨_, (), rfl, rfl, trivial⟩, hS.F ht⟩) hS.2.2 eX12_isVolume_25.2.2.2.2.2.1
  refine y_head (pcJ := 35) (σ := Unit) (fun u H locs ls => va_P D vwCl (RW D a s) H ∧ va_S (fun _ => False) s₀.heap H locs ∧ lv_has ls 3 [] ∧ m_x12_isVolume_J35 s u = some o) (fun u => []) (fun u H locs ls hI => ?_) (fun J35 => ?_)
  · obtain ⟨hP, hS, hl, h⟩ := hI
    skip
    have hP : va_P D vwCl (RW D a s) H := hP
    have hl : lv_has ls 3 [] := hl
    have h : m_x12_isVolume_J35 s () = some o := h
    unfold m_x12_isVolume_J35 at h
    refine lv_iconst (v := 0) hx hb eX12_isVolume_25.2.2.2.2.1 (by decide) ?_
    exact J36 0 _ _ _ ⟨hP, hS, lv_sub hl [] rfl, h⟩
  refine lv_lload_n hx hb eX12_isKept_149.2.2.2.1 rfl (lv_at hl 1 rfl) ?_
  refine lv_lconst (v := 0) hx hb eX12_isKept_149.2.2.2.2.1 (by decide) ?_
  refine lv_ldc2 (own := RX12) (v := 7) hx hb hown (ht _ cl_X12_441) eX12_isKept_149.2.2.2.2.2.1 ?_
  obtain ⟨r4, hc3, h⟩ := bn_e h
  refine ycS (r0 := i2 r4) (As := [.long (i8 p0), .long 0, .long 7]) (rest := []) (n := 3) ⟨hx, hb, hml, hown, ht⟩ (k_x12_isIn l D a p0 0 7 _ _ hc3) (zgT ml_X12_309 st_X12_isIn in_X12 co_X12_isIn) rfl rfl (by decide +kernel) ⟨Nat.le_of_ble_eq_true rfl, Nat.le_of_ble_eq_true rfl⟩ hN hK hP hS rfl hl.1 rfl (Nat.le_of_ble_eq_true rfl) eX12_isKept_149.2.2.2.2.2.2.1 ⟨Nat.le_of_ble_eq_true rfl, Nat.le_of_ble_eq_true rfl⟩ (fun H locs hP hS => ?_)
  obtain ⟨hr5, h⟩ := rg_e h
  refine lv_if_eq (tgt := 35) hx hb eX12_isKept_149.2.2.2.2.2.2.2 (by decide) (fun c6 => ?_) (fun c6 => ?_)
  · have h := if_t ((i2_eq (x := r4) (y := 0) hr5 (by decide)).mp c6) h
    exact J35 () _ _ _ ⟨hP, hS, lv_sub hl [] rfl, h⟩
  · have h := if_f (mt (i2_eq (x := r4) (y := 0) hr5 (by decide)).mpr c6) h
    refine lv_aload_n hx hb eX12_isVolume_11.1 rfl (lv_at hl 0 rfl) ?_
    refine va_get (D := D) (ci := 12) (v := .int (i2 (gI s 47))) (C := RX12) (T := TX12) (N := 116) hx hb ht inX12 hown hK hP 0 RW_0 rfl 47 (by decide) (ht (.fieldLink RX12 406 "CloneVolumesModel" "isTold" "Z") fl_X12_406) (fun _ h9 => h9) mF_47 eX12_isVolume_11.2.1 ?_
    obtain ⟨hr7, h⟩ := rg_e h
    refine lv_if_eq (tgt := 35) hx hb eX12_isVolume_11.2.2.1 (by decide) (fun c8 => ?_) (fun c8 => ?_)
    · have h := if_t ((i2_eq (x := (gI s 47)) (y := 0) hr7 (by decide)).mp c8) h
      exact J35 () _ _ _ ⟨hP, hS, lv_sub hl [] rfl, h⟩
    · have h := if_f (mt (i2_eq (x := (gI s 47)) (y := 0) hr7 (by decide)).mpr c8) h
      refine lv_aload_n hx hb eX12_isVolume_11.2.2.2.1 rfl (lv_at hl 0 rfl) ?_
      refine va_get (D := D) (ci := 12) (v := .ref (a 49)) (C := RX12) (T := TX12) (N := 116) hx hb ht inX12 hown hK hP 0 RW_0 rfl 49 (by decide) (ht (.fieldLink RX12 121 "CloneVolumesModel" "now" "[I") fl_X12_121) (fun _ h9 => h9) mF_49 eX12_isVolume_11.2.2.2.2.1 ?_
      refine lv_lload_n hx hb eX12_isVolume_11.2.2.2.2.2.1 rfl (lv_at hl 1 rfl) ?_
      refine lv_l2i (v := i2 p0) hx hb eX12_isVolume_11.2.2.2.2.2.2.1 (i8_i p0) ?_
      obtain ⟨y9, ey9, iy9, h⟩ := rdI_e h
      refine ya_iald (i := p0) hx hb hK hP 36 0 RW_36 rfl (by decide) ey9 iy9 eX12_isVolume_11.2.2.2.2.2.2.2 ?_
      refine lv_sipush (v := 255) hx hb eX12_isVolume_25.1 (by decide) ?_
      obtain ⟨hr10, h⟩ := rg_e h
      refine lv_icmp_eq (tgt := 35) hx hb eX12_isVolume_25.2.1 (by decide) (fun c11 => ?_) (fun c11 => ?_)
      · have h := if_t ((i2_eq (x := y9) (y := 255) hr10 (by decide)).mp c11) h
        exact J35 () _ _ _ ⟨hP, hS, lv_sub hl [] rfl, h⟩
      · have h := if_f (mt (i2_eq (x := y9) (y := 255) hr10 (by decide)).mpr c11) h
        refine lv_iconst (v := 1) hx hb eX12_isVolume_25.2.2.1 (by decide) ?_
        refine lv_goto (tgt := 36) hx hb eX12_isVolume_25.2.2.2.1 (by decide) ?_
        exact J36 1 _ _ _ ⟨hP, hS, lv_sub hl [] rfl, h⟩
set_option maxHeartbeats 4000000 in
set_option maxRecDepth 100000 in
theorem k_x12_clearsTouched (l : Launch) (D : va_G) (a : Nat → Nat) (sz : Nat) (s : MS) (o : MS) (h : m_x12_clearsTouched s = some o) : yWv l yX12_clearsTouched cX12_clearsTouched 2 none { frames := 0, cells := 0, slots := 0, locals := 0 } D sz [.ref (a 200)] (RW D a s) (RW D a o) := by
  refine Met.ofW (cc := cX12_clearsTouched) (maxL := 2) (ret := none) (by decide) rfl ?_
  intro p e s₀ m args below meth c s₁ B hml hv
  obtain ⟨rfl, ⟨hsz, hP, hK, hD0⟩, hN⟩ := hv
  have hx := B.exec
  have hb := B.bytes
  have hr := B.returns
  have hts := atoms_spec (ws := wz yX12_clearsTouched cX12_clearsTouched 2 none) B.pre
  have ht : ∀ w ∈ lw_gd, w.before _ s₀ = true := fun w h => hts w (List.mem_cons_of_mem _ h)
  have hown : s₀.vm.findClass RX12 = some m.cls := findClass_of_methodNamed B.named
  have hlocks := B.notSynchronized
  subst hsz
  have hD := hD0.self (sz := s₀.heap.size)
  generalize hAe : va_A (RW D a s) s₀.heap.size = A at hD ⊢
  have hA : ∀ q : Nat, s₀.heap.size ≤ q → A q := fun q h => by rw [← hAe]; exact Or.inr h
  have hS : va_S A s₀.heap s₀.heap [] := va_S.rf
  have hDD : ∀ t : MS, va_D A (RW D a t) := fun t => RW_D t hD
  have hl := lv_entry ([.ref (a 200)]) (n := 2) (Nat.le_of_ble_eq_true rfl)
  rw [lg_entry_eq]
  generalize (lg_sl ([.ref (a 200)]) ++ List.replicate (2 - (lg_sl ([.ref (a 200)])).length) Slot.unset).toArray = ls at hl ⊢
  have hl : lv_has ls 2 [(0, .ref (a 200))] := hl
  unfold m_x12_clearsTouched at h
  refine y_loop (pcJ := 2) (σ := Int × MS) (fun n u H locs ls => va_P D vwCl (RW D a u.2) H ∧ va_S A s₀.heap H locs ∧ lv_has ls 2 [(0, .ref (a 200)), (1, .int (i2 u.1))] ∧ m_x12_clearsTouched_L2 n u.1 u.2 = some o) (fun u => []) (fun u H locs ls hI => by obtain ⟨_, _, _, h⟩ := hI; cases h) (fun n2 ih2 u H locs ls hI => ?_) (fun J2 => ?_)
  · obtain ⟨hP, hS, hl, h⟩ := hI
    obtain ⟨x1, s2⟩ := u
    have hP : va_P D vwCl (RW D a s2) H := hP
    have hl : lv_has ls 2 [(0, .ref (a 200)), (1, .int (i2 x1))] := hl
    have h : m_x12_clearsTouched_b2 (m_x12_clearsTouched_L2 n2) x1 s2 = some o := h
    unfold m_x12_clearsTouched_b2 at h
    refine lv_iload_n hx hb eX12_clearsTouched_0.2.2.1 rfl (lv_at hl 1 rfl) ?_
    refine lv_bipush (v := 48) hx hb eX12_clearsTouched_0.2.2.2.1 (by decide) ?_
    obtain ⟨hr3, h⟩ := rg_e h
    refine lv_icmp_ge (tgt := 21) hx hb eX12_clearsTouched_0.2.2.2.2.1 (by decide) (fun c4 => ?_) (fun c4 => ?_)
    · have h := if_t ((i2_le (x := 48) (y := x1) (by decide) hr3).mp c4) h
      obtain rfl := Option.some.inj h
      exact W.vret hx hb hr (fun t ht hW => ⟨⟨(), rfl, trivial, by rw [ht]; exact hP, va_K.moved hW.alike hK, hDD _⟩, hS.F ht⟩) hS.2.2 eX12_clearsTouched_13.2.2.2.2.1
    · have h := if_f (mt (i2_le (x := 48) (y := x1) (by decide) hr3).mpr c4) h
      refine lv_aload_n hx hb eX12_clearsTouched_0.2.2.2.2.2.1 rfl (lv_at hl 0 rfl) ?_
      refine va_get (D := D) (ci := 12) (v := .ref (a 54)) (C := RX12) (T := TX12) (N := 116) hx hb ht inX12 hown hK hP 0 RW_0 rfl 54 (by decide) (ht (.fieldLink RX12 124 "CloneVolumesModel" "isTouched" "[Z") fl_X12_124) (fun _ h9 => h9) mF_54 eX12_clearsTouched_0.2.2.2.2.2.2.1 ?_
      refine lv_iload_n hx hb eX12_clearsTouched_0.2.2.2.2.2.2.2 rfl (lv_at hl 1 rfl) ?_
      refine lv_iconst (v := 0) hx hb eX12_clearsTouched_13.1 (by decide) ?_
      obtain ⟨hi5, h⟩ := inb_e h
      obtain ⟨hb6, h⟩ := bo_e h
      refine ya_zast (i := x1) (x := 0) hx hb hK hP (hDD _) hS 37 3 RW_37 rfl (by decide) hi5 hb6 eX12_clearsTouched_13.2.1 (RW_w37 _) (fun H locs hP hS => ?_)
      obtain ⟨s7, hs7, h⟩ := st_e h
      rw [hs7] at hP
      refine lv_iinc (v := i2 (x1 + 1)) (lv' := [(1, .int (i2 (x1 + 1))), (0, .ref (a 200))]) hx hb eX12_clearsTouched_13.2.2.1 hl (k := 1) rfl (i2_add x1 1) (by decide) rfl (fun ls hl => ?_)
      refine lv_goto (tgt := 2) hx hb eX12_clearsTouched_13.2.2.2.1 (by decide) ?_
      exact ih2 (x1 + 1, s7) _ _ _ ⟨hP, hS, lv_sub hl [1, 0] rfl, h⟩
  refine lv_iconst (v := 0) hx hb eX12_clearsTouched_0.1 (by decide) ?_
  refine lv_istore_n (lv' := [(1, .int 0), (0, .ref (a 200))]) hx hb eX12_clearsTouched_0.2.1 rfl hl (by decide) rfl (fun ls hl => ?_)
  exact J2 FU (0, s) _ _ _ ⟨hP, hS, lv_sub hl [1, 0] rfl, h⟩
set_option maxHeartbeats 4000000 in
set_option maxRecDepth 100000 in
theorem k_x12_costOf (l : Launch) (D : va_G) (a : Nat → Nat) (p0 : Int) (sz : Nat) (s : MS) (o : (Int × MS)) (h : m_x12_costOf p0 s = some o) : yWi l yX12_costOf cX12_costOf 2 (some .int) { frames := 5, cells := 0, slots := 0, locals := 300 } D sz [.ref (a 200), .int (i2 p0)] (RW D a s) (RW D a o.2) (i2 o.1) := by
  refine Met.ofW (cc := cX12_costOf) (maxL := 2) (ret := (some .int)) (by decide) rfl ?_
  intro p e s₀ m args below meth c s₁ B hml hv
  obtain ⟨rfl, ⟨hsz, hP, hK, hD0⟩, hN⟩ := hv
  have hx := B.exec
  have hb := B.bytes
  have hr := B.returns
  have hts := atoms_spec (ws := wz yX12_costOf cX12_costOf 2 (some .int)) B.pre
  have ht : ∀ w ∈ lw_gd, w.before _ s₀ = true := fun w h => hts w (List.mem_cons_of_mem _ h)
  have hown : s₀.vm.findClass RX12 = some m.cls := findClass_of_methodNamed B.named
  have hlocks := B.notSynchronized
  subst hsz
  have hD := hD0.self (sz := s₀.heap.size)
  generalize hAe : va_A (RW D a s) s₀.heap.size = A at hD ⊢
  have hA : ∀ q : Nat, s₀.heap.size ≤ q → A q := fun q h => by rw [← hAe]; exact Or.inr h
  have hS : va_S A s₀.heap s₀.heap [] := va_S.rf
  have hDD : ∀ t : MS, va_D A (RW D a t) := fun t => RW_D t hD
  have hl := lv_entry ([.ref (a 200), .int (i2 p0)]) (n := 2) (Nat.le_of_ble_eq_true rfl)
  rw [lg_entry_eq]
  generalize (lg_sl ([.ref (a 200), .int (i2 p0)]) ++ List.replicate (2 - (lg_sl ([.ref (a 200), .int (i2 p0)])).length) Slot.unset).toArray = ls at hl ⊢
  have hl : lv_has ls 2 [(0, .ref (a 200)), (1, .int (i2 p0))] := hl
  unfold m_x12_costOf at h
  refine y_head (pcJ := 43) (σ := Int × MS) (fun u H locs ls => va_P D vwCl (RW D a u.2) H ∧ va_S A s₀.heap H locs ∧ lv_has ls 2 [] ∧ m_x12_costOf_J43 u.1 u.2 = some o) (fun u => [.int (i2 u.1)]) (fun u H locs ls hI => ?_) (fun J43 => ?_)
  · obtain ⟨hP, hS, hl, h⟩ := hI
    obtain ⟨x1, s2⟩ := u
    have hP : va_P D vwCl (RW D a s2) H := hP
    have hl : lv_has ls 2 [] := hl
    have h : m_x12_costOf_J43 x1 s2 = some o := h
    unfold m_x12_costOf_J43 at h
    obtain rfl := Option.some.inj h
    exact W.iret (v := (i2 x1)) hx hb hr (fun t ht hW => ⟨⟨_, (), rfl, rfl, by rw [ht]; exact hP, va_K.moved hW.alike hK, hDD _⟩, hS.F ht⟩) hS.2.2 eX12_costOf_39.2.2.1
  refine lv_aload_n hx hb eX12_copies_31.2.2.2.1 rfl (lv_at hl 0 rfl) ?_
  refine lv_iload_n hx hb eX12_copies_31.2.2.2.2.1 rfl (lv_at hl 1 rfl) ?_
  refine ya_put (D := D) (ci := 12) (v := .int (i2 p0)) (ty := .int) (C := RX12) (T := TX12) (N := 116) hx hb ht inX12 tyX12 tyX12_ok nmX12 hown hK hP (hDD _) hS 0 RW_0 rfl 50 (by decide) (ht (.fieldLink RX12 457 "CloneVolumesModel" "askBlock" "I") fl_X12_457) (fun _ h9 => h9) rfl (by decide +kernel) rfl rfl (by rw [mF_len]; decide) eX12_copies_31.2.2.2.2.2.1 (RW_f50 p0) (fun H locs hP hS => ?_)
  obtain ⟨s3, hs3, h⟩ := st_e h
  rw [hs3] at hP
  refine lv_aload_n hx hb eX12_copies_31.2.2.2.2.2.2.1 rfl (lv_at hl 0 rfl) ?_
  refine lv_aload_n hx hb eX12_copies_31.2.2.2.2.2.2.2 rfl (lv_at hl 0 rfl) ?_
  refine lv_iload_n hx hb eX12_costOf_7.1 rfl (lv_at hl 1 rfl) ?_
  obtain ⟨r5, hc4, h⟩ := bn_e h
  refine ycV (r0 := i2 r5) (As := [.int (i2 p0)]) (rest := [.ref (a 200)]) (C := RX12) (n := 1) ⟨hx, hb, hml, hown, ht⟩ (k_x12_levelOf l D a p0 _ _ hc4) (zgV ml_X12_460 im_X12_levelOf se_X12_levelOf in_X12 co_X12_levelOf) rfl rfl (by decide +kernel) ⟨Nat.le_of_ble_eq_true rfl, Nat.le_of_ble_eq_true rfl⟩ hN hK hP hS 0 RW_0 rfl rfl rfl hl.1 rfl (Nat.le_of_ble_eq_true rfl) eX12_costOf_7.2.1 ⟨Nat.le_of_ble_eq_true rfl, Nat.le_of_ble_eq_true rfl⟩ (fun H locs hP hS => ?_)
  refine ya_put (D := D) (ci := 12) (v := .int (i2 r5)) (ty := .int) (C := RX12) (T := TX12) (N := 116) hx hb ht inX12 tyX12 tyX12_ok nmX12 hown hK hP (hDD _) hS 0 RW_0 rfl 52 (by decide) (ht (.fieldLink RX12 463 "CloneVolumesModel" "askLevel" "I") fl_X12_463) (fun _ h9 => h9) rfl (by decide +kernel) rfl rfl (by rw [mF_len]; decide) eX12_costOf_7.2.2.1 (RW_f52 r5) (fun H locs hP hS => ?_)
  obtain ⟨s6, hs6, h⟩ := st_e h
  rw [hs6] at hP
  refine lv_aload_n hx hb eX12_costOf_7.2.2.2.1 rfl (lv_at hl 0 rfl) ?_
  refine lv_aload_n hx hb eX12_costOf_7.2.2.2.2.1 rfl (lv_at hl 0 rfl) ?_
  refine lv_iload_n hx hb eX12_costOf_7.2.2.2.2.2.1 rfl (lv_at hl 1 rfl) ?_
  obtain ⟨r8, hc7, h⟩ := bn_e h
  refine ycV (r0 := i2 r8) (As := [.int (i2 p0)]) (rest := [.ref (a 200)]) (C := RX12) (n := 1) ⟨hx, hb, hml, hown, ht⟩ (k_x12_entriesOf l D a p0 _ _ hc7) (zgV ml_X12_466 im_X12_entriesOf se_X12_entriesOf in_X12 co_X12_entriesOf) rfl rfl (by decide +kernel) ⟨Nat.le_of_ble_eq_true rfl, Nat.le_of_ble_eq_true rfl⟩ hN hK hP hS 0 RW_0 rfl rfl rfl hl.1 rfl (Nat.le_of_ble_eq_true rfl) eX12_costOf_7.2.2.2.2.2.2.1 ⟨Nat.le_of_ble_eq_true rfl, Nat.le_of_ble_eq_true rfl⟩ (fun H locs hP hS => ?_)
  refine ya_put (D := D) (ci := 12) (v := .int (i2 r8)) (ty := .int) (C := RX12) (T := TX12) (N := 116) hx hb ht inX12 tyX12 tyX12_ok nmX12 hown hK hP (hDD _) hS 0 RW_0 rfl 53 (by decide) (ht (.fieldLink RX12 469 "CloneVolumesModel" "askEntries" "I") fl_X12_469) (fun _ h9 => h9) rfl (by decide +kernel) rfl rfl (by rw [mF_len]; decide) eX12_costOf_7.2.2.2.2.2.2.2 (RW_f53 r8) (fun H locs hP hS => ?_)
  obtain ⟨s9, hs9, h⟩ := st_e h
  rw [hs9] at hP
  refine lv_aload_n hx hb eX12_costOf_23.1 rfl (lv_at hl 0 rfl) ?_
  refine lv_iconst (v := 2) hx hb eX12_costOf_23.2.1 (by decide) ?_
  obtain ⟨r11, hc10, h⟩ := bn_e h
  refine ycV (r0 := i2 r11) (As := [.int 2]) (rest := []) (C := RX12) (n := 1) ⟨hx, hb, hml, hown, ht⟩ (k_x12_isCoded l D a 2 _ _ hc10) (zgV ml_X12_472 im_X12_isCoded se_X12_isCoded in_X12 co_X12_isCoded) rfl rfl (by decide +kernel) ⟨Nat.le_of_ble_eq_true rfl, Nat.le_of_ble_eq_true rfl⟩ hN hK hP hS 0 RW_0 rfl rfl rfl hl.1 rfl (Nat.le_of_ble_eq_true rfl) eX12_costOf_23.2.2.1 ⟨Nat.le_of_ble_eq_true rfl, Nat.le_of_ble_eq_true rfl⟩ (fun H locs hP hS => ?_)
  obtain ⟨hr12, h⟩ := rg_e h
  refine lv_if_eq (tgt := 42) hx hb eX12_costOf_23.2.2.2.1 (by decide) (fun c13 => ?_) (fun c13 => ?_)
  · have h := if_t ((i2_eq (x := r11) (y := 0) hr12 (by decide)).mp c13) h
    refine lv_iconst (v := 1) hx hb eX12_costOf_39.2.1 (by decide) ?_
    exact J43 (1, s9) _ _ _ ⟨hP, hS, lv_sub hl [] rfl, h⟩
  · have h := if_f (mt (i2_eq (x := r11) (y := 0) hr12 (by decide)).mpr c13) h
    refine lv_aload_n hx hb eX12_costOf_23.2.2.2.2.1 rfl (lv_at hl 0 rfl) ?_
    refine lv_iconst (v := 2) hx hb eX12_costOf_23.2.2.2.2.2.1 (by decide) ?_
    obtain ⟨⟨rl16, s15⟩, hc14, h⟩ := bn_e h
    refine ywVl (r0 := i8 rl16) (As := [.int 2]) (rest := []) (C := RX12) (n := 1) (ws' := RW D a s15) ⟨hx, hb, hml, hown, ht⟩ (k_x12_codesTell l D a 2 _ _ _ hc14) (zgV ml_X12_475 im_X12_codesTell se_X12_codesTell in_X12 co_X12_codesTell) rfl rfl (by decide +kernel) ⟨Nat.le_of_ble_eq_true rfl, Nat.le_of_ble_eq_true rfl⟩ hN hK hP (hDD _) hS hA 0 RW_0 rfl rfl rfl hl.1 rfl (Nat.le_of_ble_eq_true rfl) eX12_costOf_23.2.2.2.2.2.2.1 ⟨Nat.le_of_ble_eq_true rfl, Nat.le_of_ble_eq_true rfl⟩ (fun H locs hP hS => ?_)
    obtain ⟨r18, hc17, h⟩ := bn_e h
    refine ycS (r0 := i2 r18) (As := [.long (i8 rl16)]) (rest := []) (n := 1) ⟨hx, hb, hml, hown, ht⟩ (k_x12_clamp l D a rl16 _ _ hc17) (zgT ml_X12_479 st_X12_clamp in_X12 co_X12_clamp) rfl rfl (by decide +kernel) ⟨Nat.le_of_ble_eq_true rfl, Nat.le_of_ble_eq_true rfl⟩ hN hK hP hS rfl hl.1 rfl (Nat.le_of_ble_eq_true rfl) eX12_costOf_23.2.2.2.2.2.2.2 ⟨Nat.le_of_ble_eq_true rfl, Nat.le_of_ble_eq_true rfl⟩ (fun H locs hP hS => ?_)
    refine lv_goto (tgt := 43) hx hb eX12_costOf_39.1 (by decide) ?_
    exact J43 (r18, s15) _ _ _ ⟨hP, hS, lv_sub hl [] rfl, h⟩
set_option maxHeartbeats 4000000 in
set_option maxRecDepth 100000 in
theorem k_x12_writtenMany (l : Launch) (D : va_G) (a : Nat → Nat) (s : MS) (o : Int) (h : m_x12_writtenMany s = some o) : yRi l yX12_writtenMany cX12_writtenMany 3 (some .int) { frames := 2, cells := 0, slots := 0, locals := 120 } D [.ref (a 200)] (RW D a s) (i2 o) := by
  refine Met.ofW (cc := cX12_writtenMany) (maxL := 3) (ret := (some .int)) (by decide) rfl ?_
  intro p e s₀ m args below meth c s₁ B hml hv
  obtain ⟨rfl, ⟨hP, hK⟩, hN⟩ := hv
  have hx := B.exec
  have hb := B.bytes
  have hr := B.returns
  have hts := atoms_spec (ws := wz yX12_writtenMany cX12_writtenMany 3 (some .int)) B.pre
  have ht : ∀ w ∈ lw_gd, w.before _ s₀ = true := fun w h => hts w (List.mem_cons_of_mem _ h)
  have hown : s₀.vm.findClass RX12 = some m.cls := findClass_of_methodNamed B.named
  have hlocks := B.notSynchronized
  have hS : va_S (fun _ => False) s₀.heap s₀.heap [] := va_S.rf
  have hl := lv_entry ([.ref (a 200)]) (n := 3) (Nat.le_of_ble_eq_true rfl)
  rw [lg_entry_eq]
  generalize (lg_sl ([.ref (a 200)]) ++ List.replicate (3 - (lg_sl ([.ref (a 200)])).length) Slot.unset).toArray = ls at hl ⊢
  have hl : lv_has ls 3 [(0, .ref (a 200))] := hl
  unfold m_x12_writtenMany at h
  refine y_loop (pcJ := 4) (σ := Int × Int) (fun n u H locs ls => va_P D vwCl (RW D a s) H ∧ va_S (fun _ => False) s₀.heap H locs ∧ lv_has ls 3 [(0, .ref (a 200)), (1, .int (i2 u.1)), (2, .int (i2 u.2))] ∧ m_x12_writtenMany_L4 s n u.1 u.2 = some o) (fun u => []) (fun u H locs ls hI => by obtain ⟨_, _, _, h⟩ := hI; cases h) (fun n4 ih4 u H locs ls hI => ?_) (fun J4 => ?_)
  · obtain ⟨hP, hS, hl, h⟩ := hI
    obtain ⟨x1, x2⟩ := u
    have hP : va_P D vwCl (RW D a s) H := hP
    have hl : lv_has ls 3 [(0, .ref (a 200)), (1, .int (i2 x1)), (2, .int (i2 x2))] := hl
    have h : m_x12_writtenMany_b4 s (m_x12_writtenMany_L4 s n4) x1 x2 = some o := h
    unfold m_x12_writtenMany_b4 at h
    refine y_head (pcJ := 32) (σ := Int × Int) (fun u H locs ls => va_P D vwCl (RW D a s) H ∧ va_S (fun _ => False) s₀.heap H locs ∧ lv_has ls 3 [(0, .ref (a 200)), (1, .int (i2 u.1)), (2, .int (i2 u.2))] ∧ m_x12_writtenMany_J32 s (m_x12_writtenMany_L4 s n4) u.1 u.2 = some o) (fun u => []) (fun u H locs ls hI => ?_) (fun J32 => ?_)
    · obtain ⟨hP, hS, hl, h⟩ := hI
      obtain ⟨x3, x4⟩ := u
      have hP : va_P D vwCl (RW D a s) H := hP
      have hl : lv_has ls 3 [(0, .ref (a 200)), (1, .int (i2 x3)), (2, .int (i2 x4))] := hl
      have h : m_x12_writtenMany_J32 s (m_x12_writtenMany_L4 s n4) x3 x4 = some o := h
      unfold m_x12_writtenMany_J32 at h
      refine lv_iinc (v := i2 (x4 + 1)) (lv' := [(2, .int (i2 (x4 + 1))), (0, .ref (a 200)), (1, .int (i2 x3))]) hx hb eX12_writtenMany_17.2.2.2.2.2.2.2 hl (k := 2) rfl (i2_add x4 1) (by decide) rfl (fun ls hl => ?_)
      refine lv_goto (tgt := 4) hx hb eX12_writtenMany_35.1 (by decide) ?_
      exact ih4 (x3, x4 + 1) _ _ _ ⟨hP, hS, lv_sub hl [1, 2, 0] rfl, h⟩
    refine lv_iload_n hx hb eX12_writtenMany_3.2.1 rfl (lv_at hl 2 rfl) ?_
    refine lv_aload_n hx hb eX12_writtenMany_3.2.2.1 rfl (lv_at hl 0 rfl) ?_
    obtain ⟨r6, hc5, h⟩ := bn_e h
    refine ycV (r0 := i2 r6) (As := []) (rest := [.int (i2 x2)]) (C := RX12) (n := 0) ⟨hx, hb, hml, hown, ht⟩ (k_x12_blockMany l D a _ _ hc5) (zgV ml_X12_429 im_X12_blockMany se_X12_blockMany in_X12 co_X12_blockMany) rfl rfl (by decide +kernel) ⟨Nat.le_of_ble_eq_true rfl, Nat.le_of_ble_eq_true rfl⟩ hN hK hP hS 0 RW_0 rfl rfl rfl hl.1 rfl (Nat.le_of_ble_eq_true rfl) eX12_writtenMany_3.2.2.2.1 ⟨Nat.le_of_ble_eq_true rfl, Nat.le_of_ble_eq_true rfl⟩ (fun H locs hP hS => ?_)
    obtain ⟨hr7, h⟩ := rg_e h
    obtain ⟨hr8, h⟩ := rg_e h
    refine lv_icmp_ge (tgt := 38) hx hb eX12_writtenMany_3.2.2.2.2.1 (by decide) (fun c9 => ?_) (fun c9 => ?_)
    · have h := if_t ((i2_le (x := r6) (y := x2) hr8 hr7).mp c9) h
      refine lv_iload_n hx hb eX12_writtenMany_35.2.1 rfl (lv_at hl 1 rfl) ?_
      obtain rfl := Option.some.inj h
      exact W.iret (v := (i2 x1)) hx hb hr (fun t ht hW => ⟨⟨_, (), rfl, rfl, trivial⟩, hS.F ht⟩) hS.2.2 eX12_writtenMany_35.2.2
    · have h := if_f (mt (i2_le (x := r6) (y := x2) hr8 hr7).mpr c9) h
      refine lv_aload_n hx hb eX12_writtenMany_3.2.2.2.2.2.1 rfl (lv_at hl 0 rfl) ?_
      refine va_get (D := D) (ci := 12) (v := .ref (a 54)) (C := RX12) (T := TX12) (N := 116) hx hb ht inX12 hown hK hP 0 RW_0 rfl 54 (by decide) (ht (.fieldLink RX12 124 "CloneVolumesModel" "isTouched" "[Z") fl_X12_124) (fun _ h9 => h9) mF_54 eX12_writtenMany_3.2.2.2.2.2.2.1 ?_
      refine lv_iload_n hx hb eX12_writtenMany_3.2.2.2.2.2.2.2 rfl (lv_at hl 2 rfl) ?_
      obtain ⟨y10, ey10, iy10, h⟩ := rdI_e h
      refine ya_zald (i := x2) hx hb hK hP 37 3 RW_37 rfl (by decide) ey10 iy10 eX12_writtenMany_17.1 ?_
      obtain ⟨hr11, h⟩ := rg_e h
      refine lv_if_eq (tgt := 32) hx hb eX12_writtenMany_17.2.1 (by decide) (fun c12 => ?_) (fun c12 => ?_)
      · have h := if_t ((i2_eq (x := y10) (y := 0) hr11 (by decide)).mp c12) h
        exact J32 (x1, x2) _ _ _ ⟨hP, hS, lv_sub hl [0, 1, 2] rfl, h⟩
      · have h := if_f (mt (i2_eq (x := y10) (y := 0) hr11 (by decide)).mpr c12) h
        refine lv_aload_n hx hb eX12_writtenMany_17.2.2.1 rfl (lv_at hl 0 rfl) ?_
        refine lv_iload_n hx hb eX12_writtenMany_17.2.2.2.1 rfl (lv_at hl 2 rfl) ?_
        obtain ⟨r14, hc13, h⟩ := bn_e h
        refine ycV (r0 := i2 r14) (As := [.int (i2 x2)]) (rest := []) (C := RX12) (n := 1) ⟨hx, hb, hml, hown, ht⟩ (k_x12_isUsed l D a x2 _ _ hc13) (zgV ml_X12_435 im_X12_isUsed se_X12_isUsed in_X12 co_X12_isUsed) rfl rfl (by decide +kernel) ⟨Nat.le_of_ble_eq_true rfl, Nat.le_of_ble_eq_true rfl⟩ hN hK hP hS 0 RW_0 rfl rfl rfl hl.1 rfl (Nat.le_of_ble_eq_true rfl) eX12_writtenMany_17.2.2.2.2.1 ⟨Nat.le_of_ble_eq_true rfl, Nat.le_of_ble_eq_true rfl⟩ (fun H locs hP hS => ?_)
        obtain ⟨hr15, h⟩ := rg_e h
        refine lv_if_eq (tgt := 32) hx hb eX12_writtenMany_17.2.2.2.2.2.1 (by decide) (fun c16 => ?_) (fun c16 => ?_)
        · have h := if_t ((i2_eq (x := r14) (y := 0) hr15 (by decide)).mp c16) h
          exact J32 (x1, x2) _ _ _ ⟨hP, hS, lv_sub hl [0, 1, 2] rfl, h⟩
        · have h := if_f (mt (i2_eq (x := r14) (y := 0) hr15 (by decide)).mpr c16) h
          refine lv_iinc (v := i2 (x1 + 1)) (lv' := [(1, .int (i2 (x1 + 1))), (0, .ref (a 200)), (2, .int (i2 x2))]) hx hb eX12_writtenMany_17.2.2.2.2.2.2.1 hl (k := 1) rfl (i2_add x1 1) (by decide) rfl (fun ls hl => ?_)
          exact J32 (x1 + 1, x2) _ _ _ ⟨hP, hS, lv_sub hl [1, 0, 2] rfl, h⟩
  refine lv_iconst (v := 0) hx hb eX12_writtenCost_36.2.2.2.2.2.1 (by decide) ?_
  refine lv_istore_n (lv' := [(1, .int 0), (0, .ref (a 200))]) hx hb eX12_writtenCost_36.2.2.2.2.2.2.1 rfl hl (by decide) rfl (fun ls hl => ?_)
  refine lv_iconst (v := 0) hx hb eX12_writtenCost_36.2.2.2.2.2.2.2 (by decide) ?_
  refine lv_istore_n (lv' := [(2, .int 0), (1, .int 0), (0, .ref (a 200))]) hx hb eX12_writtenMany_3.1 rfl hl (by decide) rfl (fun ls hl => ?_)
  exact J4 FU (0, 0) _ _ _ ⟨hP, hS, lv_sub hl [2, 1, 0] rfl, h⟩
set_option maxHeartbeats 4000000 in
set_option maxRecDepth 100000 in
theorem k_x12_writtenCost (l : Launch) (D : va_G) (a : Nat → Nat) (sz : Nat) (s : MS) (o : (Int × MS)) (h : m_x12_writtenCost s = some o) : yWi l yX12_writtenCost cX12_writtenCost 3 (some .int) { frames := 6, cells := 0, slots := 0, locals := 360 } D sz [.ref (a 200)] (RW D a s) (RW D a o.2) (i2 o.1) := by
  refine Met.ofW (cc := cX12_writtenCost) (maxL := 3) (ret := (some .int)) (by decide) rfl ?_
  intro p e s₀ m args below meth c s₁ B hml hv
  obtain ⟨rfl, ⟨hsz, hP, hK, hD0⟩, hN⟩ := hv
  have hx := B.exec
  have hb := B.bytes
  have hr := B.returns
  have hts := atoms_spec (ws := wz yX12_writtenCost cX12_writtenCost 3 (some .int)) B.pre
  have ht : ∀ w ∈ lw_gd, w.before _ s₀ = true := fun w h => hts w (List.mem_cons_of_mem _ h)
  have hown : s₀.vm.findClass RX12 = some m.cls := findClass_of_methodNamed B.named
  have hlocks := B.notSynchronized
  subst hsz
  have hD := hD0.self (sz := s₀.heap.size)
  generalize hAe : va_A (RW D a s) s₀.heap.size = A at hD ⊢
  have hA : ∀ q : Nat, s₀.heap.size ≤ q → A q := fun q h => by rw [← hAe]; exact Or.inr h
  have hS : va_S A s₀.heap s₀.heap [] := va_S.rf
  have hDD : ∀ t : MS, va_D A (RW D a t) := fun t => RW_D t hD
  have hl := lv_entry ([.ref (a 200)]) (n := 3) (Nat.le_of_ble_eq_true rfl)
  rw [lg_entry_eq]
  generalize (lg_sl ([.ref (a 200)]) ++ List.replicate (3 - (lg_sl ([.ref (a 200)])).length) Slot.unset).toArray = ls at hl ⊢
  have hl : lv_has ls 3 [(0, .ref (a 200))] := hl
  unfold m_x12_writtenCost at h
  refine y_loop (pcJ := 4) (σ := Int × Int × MS) (fun n u H locs ls => va_P D vwCl (RW D a u.2.2) H ∧ va_S A s₀.heap H locs ∧ lv_has ls 3 [(0, .ref (a 200)), (1, .int (i2 u.1)), (2, .int (i2 u.2.1))] ∧ m_x12_writtenCost_L4 n u.1 u.2.1 u.2.2 = some o) (fun u => []) (fun u H locs ls hI => by obtain ⟨_, _, _, h⟩ := hI; cases h) (fun n4 ih4 u H locs ls hI => ?_) (fun J4 => ?_)
  · obtain ⟨hP, hS, hl, h⟩ := hI
    obtain ⟨x1, x2, s3⟩ := u
    have hP : va_P D vwCl (RW D a s3) H := hP
    have hl : lv_has ls 3 [(0, .ref (a 200)), (1, .int (i2 x1)), (2, .int (i2 x2))] := hl
    have h : m_x12_writtenCost_b4 (m_x12_writtenCost_L4 n4) x1 x2 s3 = some o := h
    unfold m_x12_writtenCost_b4 at h
    refine y_head (pcJ := 37) (σ := Int × Int × MS) (fun u H locs ls => va_P D vwCl (RW D a u.2.2) H ∧ va_S A s₀.heap H locs ∧ lv_has ls 3 [(0, .ref (a 200)), (1, .int (i2 u.1)), (2, .int (i2 u.2.1))] ∧ m_x12_writtenCost_J37 (m_x12_writtenCost_L4 n4) u.1 u.2.1 u.2.2 = some o) (fun u => []) (fun u H locs ls hI => ?_) (fun J37 => ?_)
    · obtain ⟨hP, hS, hl, h⟩ := hI
      obtain ⟨x4, x5, s6⟩ := u
      have hP : va_P D vwCl (RW D a s6) H := hP
      have hl : lv_has ls 3 [(0, .ref (a 200)), (1, .int (i2 x4)), (2, .int (i2 x5))] := hl
      have h : m_x12_writtenCost_J37 (m_x12_writtenCost_L4 n4) x4 x5 s6 = some o := h
      unfold m_x12_writtenCost_J37 at h
      refine lv_iinc (v := i2 (x5 + 1)) (lv' := [(2, .int (i2 (x5 + 1))), (0, .ref (a 200)), (1, .int (i2 x4))]) hx hb eX12_writtenCost_36.2.1 hl (k := 2) rfl (i2_add x5 1) (by decide) rfl (fun ls hl => ?_)
      refine lv_goto (tgt := 4) hx hb eX12_writtenCost_36.2.2.1 (by decide) ?_
      exact ih4 (x4, x5 + 1, s6) _ _ _ ⟨hP, hS, lv_sub hl [1, 2, 0] rfl, h⟩
    refine lv_iload_n hx hb eX12_store_143.2.2.2.2.2.2.1 rfl (lv_at hl 2 rfl) ?_
    refine lv_aload_n hx hb eX12_store_143.2.2.2.2.2.2.2 rfl (lv_at hl 0 rfl) ?_
    obtain ⟨r8, hc7, h⟩ := bn_e h
    refine ycV (r0 := i2 r8) (As := []) (rest := [.int (i2 x2)]) (C := RX12) (n := 0) ⟨hx, hb, hml, hown, ht⟩ (k_x12_blockMany l D a _ _ hc7) (zgV ml_X12_429 im_X12_blockMany se_X12_blockMany in_X12 co_X12_blockMany) rfl rfl (by decide +kernel) ⟨Nat.le_of_ble_eq_true rfl, Nat.le_of_ble_eq_true rfl⟩ hN hK hP hS 0 RW_0 rfl rfl rfl hl.1 rfl (Nat.le_of_ble_eq_true rfl) eX12_writtenCost_6.1 ⟨Nat.le_of_ble_eq_true rfl, Nat.le_of_ble_eq_true rfl⟩ (fun H locs hP hS => ?_)
    obtain ⟨hr9, h⟩ := rg_e h
    obtain ⟨hr10, h⟩ := rg_e h
    refine lv_icmp_ge (tgt := 43) hx hb eX12_writtenCost_6.2.1 (by decide) (fun c11 => ?_) (fun c11 => ?_)
    · have h := if_t ((i2_le (x := r8) (y := x2) hr10 hr9).mp c11) h
      refine lv_iload_n hx hb eX12_writtenCost_36.2.2.2.1 rfl (lv_at hl 1 rfl) ?_
      obtain rfl := Option.some.inj h
      exact W.iret (v := (i2 x1)) hx hb hr (fun t ht hW => ⟨⟨_, (), rfl, rfl, by rw [ht]; exact hP, va_K.moved hW.alike hK, hDD _⟩, hS.F ht⟩) hS.2.2 eX12_writtenCost_36.2.2.2.2.1
    · have h := if_f (mt (i2_le (x := r8) (y := x2) hr10 hr9).mpr c11) h
      refine lv_aload_n hx hb eX12_writtenCost_6.2.2.1 rfl (lv_at hl 0 rfl) ?_
      refine va_get (D := D) (ci := 12) (v := .ref (a 54)) (C := RX12) (T := TX12) (N := 116) hx hb ht inX12 hown hK hP 0 RW_0 rfl 54 (by decide) (ht (.fieldLink RX12 124 "CloneVolumesModel" "isTouched" "[Z") fl_X12_124) (fun _ h9 => h9) mF_54 eX12_writtenCost_6.2.2.2.1 ?_
      refine lv_iload_n hx hb eX12_writtenCost_6.2.2.2.2.1 rfl (lv_at hl 2 rfl) ?_
      obtain ⟨y12, ey12, iy12, h⟩ := rdI_e h
      refine ya_zald (i := x2) hx hb hK hP 37 3 RW_37 rfl (by decide) ey12 iy12 eX12_writtenCost_6.2.2.2.2.2.1 ?_
      obtain ⟨hr13, h⟩ := rg_e h
      refine lv_if_eq (tgt := 37) hx hb eX12_writtenCost_6.2.2.2.2.2.2.1 (by decide) (fun c14 => ?_) (fun c14 => ?_)
      · have h := if_t ((i2_eq (x := y12) (y := 0) hr13 (by decide)).mp c14) h
        exact J37 (x1, x2, s3) _ _ _ ⟨hP, hS, lv_sub hl [0, 1, 2] rfl, h⟩
      · have h := if_f (mt (i2_eq (x := y12) (y := 0) hr13 (by decide)).mpr c14) h
        refine lv_aload_n hx hb eX12_writtenCost_6.2.2.2.2.2.2.2 rfl (lv_at hl 0 rfl) ?_
        refine lv_iload_n hx hb eX12_writtenCost_22.1 rfl (lv_at hl 2 rfl) ?_
        obtain ⟨r16, hc15, h⟩ := bn_e h
        refine ycV (r0 := i2 r16) (As := [.int (i2 x2)]) (rest := []) (C := RX12) (n := 1) ⟨hx, hb, hml, hown, ht⟩ (k_x12_isUsed l D a x2 _ _ hc15) (zgV ml_X12_435 im_X12_isUsed se_X12_isUsed in_X12 co_X12_isUsed) rfl rfl (by decide +kernel) ⟨Nat.le_of_ble_eq_true rfl, Nat.le_of_ble_eq_true rfl⟩ hN hK hP hS 0 RW_0 rfl rfl rfl hl.1 rfl (Nat.le_of_ble_eq_true rfl) eX12_writtenCost_22.2.1 ⟨Nat.le_of_ble_eq_true rfl, Nat.le_of_ble_eq_true rfl⟩ (fun H locs hP hS => ?_)
        obtain ⟨hr17, h⟩ := rg_e h
        refine lv_if_eq (tgt := 37) hx hb eX12_writtenCost_22.2.2.1 (by decide) (fun c18 => ?_) (fun c18 => ?_)
        · have h := if_t ((i2_eq (x := r16) (y := 0) hr17 (by decide)).mp c18) h
          exact J37 (x1, x2, s3) _ _ _ ⟨hP, hS, lv_sub hl [0, 1, 2] rfl, h⟩
        · have h := if_f (mt (i2_eq (x := r16) (y := 0) hr17 (by decide)).mpr c18) h
          refine lv_iload_n hx hb eX12_writtenCost_22.2.2.2.1 rfl (lv_at hl 1 rfl) ?_
          refine lv_aload_n hx hb eX12_writtenCost_22.2.2.2.2.1 rfl (lv_at hl 0 rfl) ?_
          refine lv_iload_n hx hb eX12_writtenCost_22.2.2.2.2.2.1 rfl (lv_at hl 2 rfl) ?_
          obtain ⟨⟨r21, s20⟩, hc19, h⟩ := bn_e h
          refine ywV (r0 := i2 r21) (As := [.int (i2 x2)]) (rest := [.int (i2 x1)]) (C := RX12) (n := 1) (ws' := RW D a s20) ⟨hx, hb, hml, hown, ht⟩ (k_x12_costOf l D a x2 _ _ _ hc19) (zgV ml_X12_483 im_X12_costOf se_X12_costOf in_X12 co_X12_costOf) rfl rfl (by decide +kernel) ⟨Nat.le_of_ble_eq_true rfl, Nat.le_of_ble_eq_true rfl⟩ hN hK hP (hDD _) hS hA 0 RW_0 rfl rfl rfl hl.1 rfl (Nat.le_of_ble_eq_true rfl) eX12_writtenCost_22.2.2.2.2.2.2.1 ⟨Nat.le_of_ble_eq_true rfl, Nat.le_of_ble_eq_true rfl⟩ (fun H locs hP hS => ?_)
          refine lv_iadd hx hb eX12_writtenCost_22.2.2.2.2.2.2.2 ?_
          refine z_topi (y := i2 (x1 + r21)) (i2_add x1 r21) ?_
          refine lv_istore_n (lv' := [(1, .int (i2 (x1 + r21))), (0, .ref (a 200)), (2, .int (i2 x2))]) hx hb eX12_writtenCost_36.1 rfl hl (by decide) rfl (fun ls hl => ?_)
          exact J37 (x1 + r21, x2, s20) _ _ _ ⟨hP, hS, lv_sub hl [1, 0, 2] rfl, h⟩
  refine lv_iconst (v := 0) hx hb eX12_store_143.2.2.1 (by decide) ?_
  refine lv_istore_n (lv' := [(1, .int 0), (0, .ref (a 200))]) hx hb eX12_store_143.2.2.2.1 rfl hl (by decide) rfl (fun ls hl => ?_)
  refine lv_iconst (v := 0) hx hb eX12_store_143.2.2.2.2.1 (by decide) ?_
  refine lv_istore_n (lv' := [(2, .int 0), (1, .int 0), (0, .ref (a 200))]) hx hb eX12_store_143.2.2.2.2.2.1 rfl hl (by decide) rfl (fun ls hl => ?_)
  exact J4 FU (0, 0, s) _ _ _ ⟨hP, hS, lv_sub hl [2, 1, 0] rfl, h⟩
set_option maxHeartbeats 4000000 in
set_option maxRecDepth 100000 in
theorem k_x12_isKept (l : Launch) (D : va_G) (a : Nat → Nat) (p0 : Int) (p1 : Int) (sz : Nat) (s : MS) (o : MS) (h : m_x12_isKept p0 p1 s = some o) : yWv l yX12_isKept cX12_isKept 5 none { frames := 7, cells := 0, slots := 0, locals := 420 } D sz [.ref (a 200), .int (i2 p0), .int (i2 p1)] (RW D a s) (RW D a o) := by
  refine Met.ofW (cc := cX12_isKept) (maxL := 5) (ret := none) (by decide) rfl ?_
  intro p e s₀ m args below meth c s₁ B hml hv
  obtain ⟨rfl, ⟨hsz, hP, hK, hD0⟩, hN⟩ := hv
  have hx := B.exec
  have hb := B.bytes
  have hr := B.returns
  have hts := atoms_spec (ws := wz yX12_isKept cX12_isKept 5 none) B.pre
  have ht : ∀ w ∈ lw_gd, w.before _ s₀ = true := fun w h => hts w (List.mem_cons_of_mem _ h)
  have hown : s₀.vm.findClass RX12 = some m.cls := findClass_of_methodNamed B.named
  have hlocks := B.notSynchronized
  subst hsz
  have hD := hD0.self (sz := s₀.heap.size)
  generalize hAe : va_A (RW D a s) s₀.heap.size = A at hD ⊢
  have hA : ∀ q : Nat, s₀.heap.size ≤ q → A q := fun q h => by rw [← hAe]; exact Or.inr h
  have hS : va_S A s₀.heap s₀.heap [] := va_S.rf
  have hDD : ∀ t : MS, va_D A (RW D a t) := fun t => RW_D t hD
  have hl := lv_entry ([.ref (a 200), .int (i2 p0), .int (i2 p1)]) (n := 5) (Nat.le_of_ble_eq_true rfl)
  rw [lg_entry_eq]
  generalize (lg_sl ([.ref (a 200), .int (i2 p0), .int (i2 p1)]) ++ List.replicate (5 - (lg_sl ([.ref (a 200), .int (i2 p0), .int (i2 p1)])).length) Slot.unset).toArray = ls at hl ⊢
  have hl : lv_has ls 5 [(0, .ref (a 200)), (1, .int (i2 p0)), (2, .int (i2 p1))] := hl
  unfold m_x12_isKept at h
  refine y_head (pcJ := 105) (σ := Int × Int × Int × MS) (fun u H locs ls => va_P D vwCl (RW D a u.2.2.2) H ∧ va_S A s₀.heap H locs ∧ lv_has ls 5 [(0, .ref (a 200)), (1, .int (i2 u.1)), (2, .int (i2 u.2.1)), (3, .int (i2 u.2.2.1))] ∧ m_x12_isKept_J105 u.1 u.2.1 u.2.2.1 u.2.2.2 = some o) (fun u => []) (fun u H locs ls hI => ?_) (fun J105 => ?_)
  · obtain ⟨hP, hS, hl, h⟩ := hI
    obtain ⟨x1, x2, x3, s4⟩ := u
    have hP : va_P D vwCl (RW D a s4) H := hP
    have hl : lv_has ls 5 [(0, .ref (a 200)), (1, .int (i2 x1)), (2, .int (i2 x2)), (3, .int (i2 x3))] := hl
    have h : m_x12_isKept_J105 x1 x2 x3 s4 = some o := h
    unfold m_x12_isKept_J105 at h
    refine lv_sipush (v := 786) hx hb eX12_isKept_101.2.2.2.2.1 (by decide) ?_
    refine lv_iconst (v := 3) hx hb eX12_isKept_101.2.2.2.2.2.1 (by decide) ?_
    refine lv_aload_n hx hb eX12_isKept_101.2.2.2.2.2.2.1 rfl (lv_at hl 0 rfl) ?_
    refine va_get (D := D) (ci := 12) (v := .ref (a 49)) (C := RX12) (T := TX12) (N := 116) hx hb ht inX12 hown hK hP 0 RW_0 rfl 49 (by decide) (ht (.fieldLink RX12 121 "CloneVolumesModel" "now" "[I") fl_X12_121) (fun _ h9 => h9) mF_49 eX12_isKept_101.2.2.2.2.2.2.2 ?_
    refine lv_sipush (v := 785) hx hb eX12_isKept_113.1 (by decide) ?_
    obtain ⟨y5, ey5, iy5, h⟩ := rdI_e h
    refine ya_iald (i := 785) hx hb hK hP 36 0 RW_36 rfl (by decide) ey5 iy5 eX12_isKept_113.2.1 ?_
    refine lv_imul hx hb eX12_isKept_113.2.2.1 ?_
    refine z_topi (y := i2 (3 * y5)) (i2_mul 3 y5) ?_
    refine lv_iadd hx hb eX12_isKept_113.2.2.2.1 ?_
    refine z_topi (y := i2 (786 + (3 * y5))) (i2_add 786 (3 * y5)) ?_
    refine lv_iconst (v := 3) hx hb eX12_isKept_113.2.2.2.2.1 (by decide) ?_
    refine lv_isub hx hb eX12_isKept_113.2.2.2.2.2.1 ?_
    refine z_topi (y := i2 ((786 + (3 * y5)) - 3)) (i2_sub (786 + (3 * y5)) 3) ?_
    refine lv_istore (lv' := [(4, .int (i2 ((786 + (3 * y5)) - 3))), (0, .ref (a 200)), (1, .int (i2 x1)), (2, .int (i2 x2)), (3, .int (i2 x3))]) hx hb eX12_isKept_113.2.2.2.2.2.2.1 hl (by decide) rfl (fun ls hl => ?_)
    refine lv_aload_n hx hb eX12_isKept_113.2.2.2.2.2.2.2 rfl (lv_at hl 1 rfl) ?_
    refine va_get (D := D) (ci := 12) (v := .ref (a 49)) (C := RX12) (T := TX12) (N := 116) hx hb ht inX12 hown hK hP 0 RW_0 rfl 49 (by decide) (ht (.fieldLink RX12 121 "CloneVolumesModel" "now" "[I") fl_X12_121) (fun _ h9 => h9) mF_49 eX12_isKept_124.1 ?_
    refine lv_iload hx hb eX12_isKept_124.2.1 (lv_at hl 0 rfl) ?_
    refine lv_iload_n hx hb eX12_isKept_124.2.2.1 rfl (lv_at hl 2 rfl) ?_
    obtain ⟨hi6, h⟩ := inb_e h
    refine ya_iast (i := ((786 + (3 * y5)) - 3)) (x := x1) hx hb hK hP (hDD _) hS 36 0 RW_36 rfl (by decide) hi6 eX12_isKept_124.2.2.2.1 (RW_w36 _) (fun H locs hP hS => ?_)
    obtain ⟨s7, hs7, h⟩ := st_e h
    rw [hs7] at hP
    refine lv_aload_n hx hb eX12_isKept_124.2.2.2.2.1 rfl (lv_at hl 1 rfl) ?_
    refine va_get (D := D) (ci := 12) (v := .ref (a 49)) (C := RX12) (T := TX12) (N := 116) hx hb ht inX12 hown hK hP 0 RW_0 rfl 49 (by decide) (ht (.fieldLink RX12 121 "CloneVolumesModel" "now" "[I") fl_X12_121) (fun _ h9 => h9) mF_49 eX12_isKept_124.2.2.2.2.2.1 ?_
    refine lv_iload hx hb eX12_isKept_124.2.2.2.2.2.2.1 (lv_at hl 0 rfl) ?_
    refine lv_iconst (v := 1) hx hb eX12_isKept_124.2.2.2.2.2.2.2 (by decide) ?_
    refine lv_iadd hx hb eX12_isKept_138.1 ?_
    refine z_topi (y := i2 (((786 + (3 * y5)) - 3) + 1)) (i2_add ((786 + (3 * y5)) - 3) 1) ?_
    refine lv_iload_n hx hb eX12_isKept_138.2.1 rfl (lv_at hl 3 rfl) ?_
    obtain ⟨hi8, h⟩ := inb_e h
    refine ya_iast (i := (((786 + (3 * y5)) - 3) + 1)) (x := x2) hx hb hK hP (hDD _) hS 36 0 RW_36 rfl (by decide) hi8 eX12_isKept_138.2.2.1 (RW_w36 _) (fun H locs hP hS => ?_)
    obtain ⟨s9, hs9, h⟩ := st_e h
    rw [hs9] at hP
    refine lv_aload_n hx hb eX12_isKept_138.2.2.2.1 rfl (lv_at hl 1 rfl) ?_
    refine va_get (D := D) (ci := 12) (v := .ref (a 49)) (C := RX12) (T := TX12) (N := 116) hx hb ht inX12 hown hK hP 0 RW_0 rfl 49 (by decide) (ht (.fieldLink RX12 121 "CloneVolumesModel" "now" "[I") fl_X12_121) (fun _ h9 => h9) mF_49 eX12_isKept_138.2.2.2.2.1 ?_
    refine lv_iload hx hb eX12_isKept_138.2.2.2.2.2.1 (lv_at hl 0 rfl) ?_
    refine lv_iconst (v := 2) hx hb eX12_isKept_138.2.2.2.2.2.2.1 (by decide) ?_
    refine lv_iadd hx hb eX12_isKept_138.2.2.2.2.2.2.2 ?_
    refine z_topi (y := i2 (((786 + (3 * y5)) - 3) + 2)) (i2_add ((786 + (3 * y5)) - 3) 2) ?_
    refine lv_iload_n hx hb eX12_isKept_149.1 rfl (lv_at hl 4 rfl) ?_
    obtain ⟨hi10, h⟩ := inb_e h
    refine ya_iast (i := (((786 + (3 * y5)) - 3) + 2)) (x := x3) hx hb hK hP (hDD _) hS 36 0 RW_36 rfl (by decide) hi10 eX12_isKept_149.2.1 (RW_w36 _) (fun H locs hP hS => ?_)
    obtain ⟨s11, hs11, h⟩ := st_e h
    rw [hs11] at hP
    obtain rfl := Option.some.inj h
    exact W.vret hx hb hr (fun t ht hW => ⟨⟨(), rfl, trivial, by rw [ht]; exact hP, va_K.moved hW.alike hK, hDD _⟩, hS.F ht⟩) hS.2.2 eX12_isKept_149.2.2.1
  refine y_loop (pcJ := 60) (σ := Int × Int × Int × Int × MS) (fun n u H locs ls => va_P D vwCl (RW D a u.2.2.2.2) H ∧ va_S A s₀.heap H locs ∧ lv_has ls 5 [(0, .ref (a 200)), (1, .int (i2 u.1)), (2, .int (i2 u.2.1)), (3, .int (i2 u.2.2.1)), (4, .int (i2 u.2.2.2.1))] ∧ m_x12_isKept_L60 n u.1 u.2.1 u.2.2.1 u.2.2.2.1 u.2.2.2.2 = some o) (fun u => []) (fun u H locs ls hI => by obtain ⟨_, _, _, h⟩ := hI; cases h) (fun n60 ih60 u H locs ls hI => ?_) (fun J60 => ?_)
  · obtain ⟨hP, hS, hl, h⟩ := hI
    obtain ⟨x12, x13, x14, x15, s16⟩ := u
    have hP : va_P D vwCl (RW D a s16) H := hP
    have hl : lv_has ls 5 [(0, .ref (a 200)), (1, .int (i2 x12)), (2, .int (i2 x13)), (3, .int (i2 x14)), (4, .int (i2 x15))] := hl
    have h : m_x12_isKept_b60 (m_x12_isKept_L60 n60) x12 x13 x14 x15 s16 = some o := h
    unfold m_x12_isKept_b60 at h
    refine lv_iload hx hb eX12_isKept_50.2.2.2.2.1 (lv_at hl 4 rfl) ?_
    refine lv_sipush (v := 903) hx hb eX12_isKept_50.2.2.2.2.2.1 (by decide) ?_
    obtain ⟨hr17, h⟩ := rg_e h
    refine lv_icmp_ge (tgt := 90) hx hb eX12_isKept_50.2.2.2.2.2.2.1 (by decide) (fun c18 => ?_) (fun c18 => ?_)
    · have h := if_t ((i2_le (x := 903) (y := x15) (by decide) hr17).mp c18) h
      refine lv_goto (tgt := 105) hx hb eX12_isKept_83.2.2.2.1 (by decide) ?_
      exact J105 (x12, x13, x14, s16) _ _ _ ⟨hP, hS, lv_sub hl [0, 1, 2, 3] rfl, h⟩
    · have h := if_f (mt (i2_le (x := 903) (y := x15) (by decide) hr17).mpr c18) h
      refine lv_aload_n hx hb eX12_isKept_50.2.2.2.2.2.2.2 rfl (lv_at hl 0 rfl) ?_
      refine va_get (D := D) (ci := 12) (v := .ref (a 49)) (C := RX12) (T := TX12) (N := 116) hx hb ht inX12 hown hK hP 0 RW_0 rfl 49 (by decide) (ht (.fieldLink RX12 121 "CloneVolumesModel" "now" "[I") fl_X12_121) (fun _ h9 => h9) mF_49 eX12_isKept_69.1 ?_
      refine lv_iload hx hb eX12_isKept_69.2.1 (lv_at hl 4 rfl) ?_
      refine lv_aload_n hx hb eX12_isKept_69.2.2.1 rfl (lv_at hl 0 rfl) ?_
      refine va_get (D := D) (ci := 12) (v := .ref (a 49)) (C := RX12) (T := TX12) (N := 116) hx hb ht inX12 hown hK hP 0 RW_0 rfl 49 (by decide) (ht (.fieldLink RX12 121 "CloneVolumesModel" "now" "[I") fl_X12_121) (fun _ h9 => h9) mF_49 eX12_isKept_69.2.2.2.1 ?_
      refine lv_iload hx hb eX12_isKept_69.2.2.2.2.1 (lv_at hl 4 rfl) ?_
      refine lv_iconst (v := 3) hx hb eX12_isKept_69.2.2.2.2.2.1 (by decide) ?_
      refine lv_iadd hx hb eX12_isKept_69.2.2.2.2.2.2.1 ?_
      refine z_topi (y := i2 (x15 + 3)) (i2_add x15 3) ?_
      obtain ⟨y19, ey19, iy19, h⟩ := rdI_e h
      refine ya_iald (i := (x15 + 3)) hx hb hK hP 36 0 RW_36 rfl (by decide) ey19 iy19 eX12_isKept_69.2.2.2.2.2.2.2 ?_
      obtain ⟨hi20, h⟩ := inb_e h
      refine ya_iast (i := x15) (x := y19) hx hb hK hP (hDD _) hS 36 0 RW_36 rfl (by decide) hi20 eX12_isKept_83.1 (RW_w36 _) (fun H locs hP hS => ?_)
      obtain ⟨s21, hs21, h⟩ := st_e h
      rw [hs21] at hP
      refine lv_iinc (v := i2 (x15 + 1)) (lv' := [(4, .int (i2 (x15 + 1))), (0, .ref (a 200)), (1, .int (i2 x12)), (2, .int (i2 x13)), (3, .int (i2 x14))]) hx hb eX12_isKept_83.2.1 hl (k := 4) rfl (i2_add x15 1) (by decide) rfl (fun ls hl => ?_)
      refine lv_goto (tgt := 60) hx hb eX12_isKept_83.2.2.1 (by decide) ?_
      exact ih60 (x12, x13, x14, x15 + 1, s21) _ _ _ ⟨hP, hS, lv_sub hl [1, 2, 3, 4, 0] rfl, h⟩
  refine y_head (pcJ := 42) (σ := Int × Int × Int × MS) (fun u H locs ls => va_P D vwCl (RW D a u.2.2.2) H ∧ va_S A s₀.heap H locs ∧ lv_has ls 5 [(0, .ref (a 200)), (1, .int (i2 u.1)), (2, .int (i2 u.2.1)), (3, .int (i2 u.2.2.1))] ∧ m_x12_isKept_J42 u.1 u.2.1 u.2.2.1 u.2.2.2 = some o) (fun u => []) (fun u H locs ls hI => ?_) (fun J42 => ?_)
  · obtain ⟨hP, hS, hl, h⟩ := hI
    obtain ⟨x22, x23, x24, s25⟩ := u
    have hP : va_P D vwCl (RW D a s25) H := hP
    have hl : lv_has ls 5 [(0, .ref (a 200)), (1, .int (i2 x22)), (2, .int (i2 x23)), (3, .int (i2 x24))] := hl
    have h : m_x12_isKept_J42 x22 x23 x24 s25 = some o := h
    unfold m_x12_isKept_J42 at h
    refine lv_aload_n hx hb eX12_isKept_33.2.2.2.2.1 rfl (lv_at hl 0 rfl) ?_
    refine va_get (D := D) (ci := 12) (v := .ref (a 49)) (C := RX12) (T := TX12) (N := 116) hx hb ht inX12 hown hK hP 0 RW_0 rfl 49 (by decide) (ht (.fieldLink RX12 121 "CloneVolumesModel" "now" "[I") fl_X12_121) (fun _ h9 => h9) mF_49 eX12_isKept_33.2.2.2.2.2.1 ?_
    refine lv_sipush (v := 785) hx hb eX12_isKept_33.2.2.2.2.2.2.1 (by decide) ?_
    obtain ⟨y26, ey26, iy26, h⟩ := rdI_e h
    refine ya_iald (i := 785) hx hb hK hP 36 0 RW_36 rfl (by decide) ey26 iy26 eX12_isKept_33.2.2.2.2.2.2.2 ?_
    refine lv_bipush (v := 40) hx hb eX12_isKept_50.1 (by decide) ?_
    obtain ⟨hr27, h⟩ := rg_e h
    refine lv_icmp_ne (tgt := 93) hx hb eX12_isKept_50.2.1 (by decide) (fun c28 => ?_) (fun c28 => ?_)
    · have h := if_f (mt (i2_eq (x := y26) (y := 40) hr27 (by decide)).mpr c28) h
      refine lv_aload_n hx hb eX12_isKept_83.2.2.2.2.1 rfl (lv_at hl 0 rfl) ?_
      refine va_get (D := D) (ci := 12) (v := .ref (a 49)) (C := RX12) (T := TX12) (N := 116) hx hb ht inX12 hown hK hP 0 RW_0 rfl 49 (by decide) (ht (.fieldLink RX12 121 "CloneVolumesModel" "now" "[I") fl_X12_121) (fun _ h9 => h9) mF_49 eX12_isKept_83.2.2.2.2.2.1 ?_
      refine lv_sipush (v := 785) hx hb eX12_isKept_83.2.2.2.2.2.2.1 (by decide) ?_
      refine lv_dup2_11 hx hb eX12_isKept_83.2.2.2.2.2.2.2 rfl rfl ?_
      obtain ⟨y29, ey29, iy29, h⟩ := rdI_e h
      refine ya_iald (i := 785) hx hb hK hP 36 0 RW_36 rfl (by decide) ey29 iy29 eX12_isKept_101.1 ?_
      refine lv_iconst (v := 1) hx hb eX12_isKept_101.2.1 (by decide) ?_
      refine lv_iadd hx hb eX12_isKept_101.2.2.1 ?_
      refine z_topi (y := i2 (y29 + 1)) (i2_add y29 1) ?_
      obtain ⟨hi30, h⟩ := inb_e h
      refine ya_iast (i := 785) (x := (y29 + 1)) hx hb hK hP (hDD _) hS 36 0 RW_36 rfl (by decide) hi30 eX12_isKept_101.2.2.2.1 (RW_w36 _) (fun H locs hP hS => ?_)
      obtain ⟨s31, hs31, h⟩ := st_e h
      rw [hs31] at hP
      exact J105 (x22, x23, x24, s31) _ _ _ ⟨hP, hS, lv_sub hl [0, 1, 2, 3] rfl, h⟩
    · have h := if_t ((i2_eq (x := y26) (y := 40) hr27 (by decide)).mp c28) h
      refine lv_sipush (v := 786) hx hb eX12_isKept_50.2.2.1 (by decide) ?_
      refine lv_istore (lv' := [(4, .int 786), (0, .ref (a 200)), (1, .int (i2 x22)), (2, .int (i2 x23)), (3, .int (i2 x24))]) hx hb eX12_isKept_50.2.2.2.1 hl (by decide) rfl (fun ls hl => ?_)
      exact J60 FU (x22, x23, x24, 786, s25) _ _ _ ⟨hP, hS, lv_sub hl [1, 2, 3, 4, 0] rfl, h⟩
  refine lv_aload_n hx hb eX12_isHeld_13.2.2.2.2.2.1 rfl (lv_at hl 0 rfl) ?_
  obtain ⟨r33, hc32, h⟩ := bn_e h
  refine ycV (r0 := i2 r33) (As := []) (rest := []) (C := RX12) (n := 0) ⟨hx, hb, hml, hown, ht⟩ (k_x12_writtenMany l D a _ _ hc32) (zgV ml_X12_486 im_X12_writtenMany se_X12_writtenMany in_X12 co_X12_writtenMany) rfl rfl (by decide +kernel) ⟨Nat.le_of_ble_eq_true rfl, Nat.le_of_ble_eq_true rfl⟩ hN hK hP hS 0 RW_0 rfl rfl rfl hl.1 rfl (Nat.le_of_ble_eq_true rfl) eX12_isHeld_13.2.2.2.2.2.2.1 ⟨Nat.le_of_ble_eq_true rfl, Nat.le_of_ble_eq_true rfl⟩ (fun H locs hP hS => ?_)
  refine lv_istore_n (lv' := [(3, .int (i2 r33)), (0, .ref (a 200)), (1, .int (i2 p0)), (2, .int (i2 p1))]) hx hb eX12_isHeld_13.2.2.2.2.2.2.2 rfl hl (by decide) rfl (fun ls hl => ?_)
  refine lv_aload_n hx hb eX12_isKept_5.1 rfl (lv_at hl 1 rfl) ?_
  refine va_get (D := D) (ci := 12) (v := .ref (a 49)) (C := RX12) (T := TX12) (N := 116) hx hb ht inX12 hown hK hP 0 RW_0 rfl 49 (by decide) (ht (.fieldLink RX12 121 "CloneVolumesModel" "now" "[I") fl_X12_121) (fun _ h9 => h9) mF_49 eX12_isKept_5.2.1 ?_
  refine lv_bipush (v := 16) hx hb eX12_isKept_5.2.2.1 (by decide) ?_
  refine lv_dup2_11 hx hb eX12_isKept_5.2.2.2.1 rfl rfl ?_
  obtain ⟨y34, ey34, iy34, h⟩ := rdI_e h
  refine ya_iald (i := 16) hx hb hK hP 36 0 RW_36 rfl (by decide) ey34 iy34 eX12_isKept_5.2.2.2.2.1 ?_
  refine lv_aload_n hx hb eX12_isKept_5.2.2.2.2.2.1 rfl (lv_at hl 1 rfl) ?_
  obtain ⟨⟨r37, s36⟩, hc35, h⟩ := bn_e h
  refine ywV (r0 := i2 r37) (As := []) (rest := [.int (i2 y34), .int 16, .ref (a 49)]) (C := RX12) (n := 0) (ws' := RW D a s36) ⟨hx, hb, hml, hown, ht⟩ (k_x12_writtenCost l D a _ _ _ hc35) (zgV ml_X12_489 im_X12_writtenCost se_X12_writtenCost in_X12 co_X12_writtenCost) rfl rfl (by decide +kernel) ⟨Nat.le_of_ble_eq_true rfl, Nat.le_of_ble_eq_true rfl⟩ hN hK hP (hDD _) hS hA 0 RW_0 rfl rfl rfl hl.1 rfl (Nat.le_of_ble_eq_true rfl) eX12_isKept_5.2.2.2.2.2.2.1 ⟨Nat.le_of_ble_eq_true rfl, Nat.le_of_ble_eq_true rfl⟩ (fun H locs hP hS => ?_)
  refine lv_iadd hx hb eX12_isKept_5.2.2.2.2.2.2.2 ?_
  refine z_topi (y := i2 (y34 + r37)) (i2_add y34 r37) ?_
  obtain ⟨hi38, h⟩ := inb_e h
  refine ya_iast (i := 16) (x := (y34 + r37)) hx hb hK hP (hDD _) hS 36 0 RW_36 rfl (by decide) hi38 eX12_isKept_18.1 (RW_w36 _) (fun H locs hP hS => ?_)
  obtain ⟨s39, hs39, h⟩ := st_e h
  rw [hs39] at hP
  refine lv_aload_n hx hb eX12_isKept_18.2.1 rfl (lv_at hl 1 rfl) ?_
  refine va_get (D := D) (ci := 12) (v := .ref (a 49)) (C := RX12) (T := TX12) (N := 116) hx hb ht inX12 hown hK hP 0 RW_0 rfl 49 (by decide) (ht (.fieldLink RX12 121 "CloneVolumesModel" "now" "[I") fl_X12_121) (fun _ h9 => h9) mF_49 eX12_isKept_18.2.2.1 ?_
  refine lv_bipush (v := 16) hx hb eX12_isKept_18.2.2.2.1 (by decide) ?_
  obtain ⟨y40, ey40, iy40, h⟩ := rdI_e h
  refine ya_iald (i := 16) hx hb hK hP 36 0 RW_36 rfl (by decide) ey40 iy40 eX12_isKept_18.2.2.2.2.1 ?_
  refine lv_ldcw (own := RX12) (v := 999999) hx hb hown (ht _ ck_X12_492) eX12_isKept_18.2.2.2.2.2.1 ?_
  obtain ⟨hr41, h⟩ := rg_e h
  refine lv_icmp_le (tgt := 42) hx hb eX12_isKept_18.2.2.2.2.2.2.1 (by decide) (fun c42 => ?_) (fun c42 => ?_)
  · have h := if_t ((i2_le (x := y40) (y := 999999) hr41 (by decide)).mp c42) h
    exact J42 (p0, p1, r33, s39) _ _ _ ⟨hP, hS, lv_sub hl [1, 2, 3, 0] rfl, h⟩
  · have h := if_f (mt (i2_le (x := y40) (y := 999999) hr41 (by decide)).mpr c42) h
    refine lv_aload_n hx hb eX12_isKept_18.2.2.2.2.2.2.2 rfl (lv_at hl 1 rfl) ?_
    refine va_get (D := D) (ci := 12) (v := .ref (a 49)) (C := RX12) (T := TX12) (N := 116) hx hb ht inX12 hown hK hP 0 RW_0 rfl 49 (by decide) (ht (.fieldLink RX12 121 "CloneVolumesModel" "now" "[I") fl_X12_121) (fun _ h9 => h9) mF_49 eX12_isKept_33.1 ?_
    refine lv_bipush (v := 16) hx hb eX12_isKept_33.2.1 (by decide) ?_
    refine lv_ldcw (own := RX12) (v := 999999) hx hb hown (ht _ ck_X12_492) eX12_isKept_33.2.2.1 ?_
    obtain ⟨hi43, h⟩ := inb_e h
    refine ya_iast (i := 16) (x := 999999) hx hb hK hP (hDD _) hS 36 0 RW_36 rfl (by decide) hi43 eX12_isKept_33.2.2.2.1 (RW_w36 _) (fun H locs hP hS => ?_)
    obtain ⟨s44, hs44, h⟩ := st_e h
    rw [hs44] at hP
    exact J42 (p0, p1, r33, s44) _ _ _ ⟨hP, hS, lv_sub hl [1, 2, 3, 0] rfl, h⟩
