theorem ck_X12_492 : Cond.constant RX12 492 999999 ∈ lw_gd := zm (List.mem_of_getElem? (i := 2447) (by decide +kernel)) rfl
theorem cl_X12_441 : Cond.constantLong RX12 441 7 ∈ lw_gd := zm (List.mem_of_getElem? (i := 2250) (by decide +kernel)) rfl
theorem co_X12_actGoes : Cond.code yX12_actGoes cX12_actGoes 5 none ∈ lw_gd := zm (List.mem_of_getElem? (i := 2077) (by decide +kernel)) rfl
theorem co_X12_checks : Cond.code yX12_checks cX12_checks 2 none ∈ lw_gd := zm (List.mem_of_getElem? (i := 2233) (by decide +kernel)) rfl
theorem co_X12_clamp : Cond.code yX12_clamp cX12_clamp 2 (some .int) ∈ lw_gd := zm (List.mem_of_getElem? (i := 2372) (by decide +kernel)) rfl
theorem co_X12_copies : Cond.code yX12_copies cX12_copies 3 none ∈ lw_gd := zm (List.mem_of_getElem? (i := 2081) (by decide +kernel)) rfl
theorem co_X12_costOf : Cond.code yX12_costOf cX12_costOf 2 (some .int) ∈ lw_gd := zm (List.mem_of_getElem? (i := 2369) (by decide +kernel)) rfl
theorem co_X12_refuses : Cond.code yX12_refuses cX12_refuses 2 (some .int) ∈ lw_gd := zm (List.mem_of_getElem? (i := 2069) (by decide +kernel)) rfl
theorem co_X12_stands : Cond.code yX12_stands cX12_stands 2 none ∈ lw_gd := zm (List.mem_of_getElem? (i := 2073) (by decide +kernel)) rfl
theorem co_X12_statementTold : Cond.code yX12_statementTold cX12_statementTold 2 none ∈ lw_gd := zm (List.mem_of_getElem? (i := 1948) (by decide +kernel)) rfl
theorem co_X12_storeTold : Cond.code yX12_storeTold cX12_storeTold 1 none ∈ lw_gd := zm (List.mem_of_getElem? (i := 1903) (by decide +kernel)) rfl
theorem co_X12_tries : Cond.code yX12_tries cX12_tries 6 (some .boolean) ∈ lw_gd := zm (List.mem_of_getElem? (i := 2089) (by decide +kernel)) rfl
theorem co_X12_writtenCost : Cond.code yX12_writtenCost cX12_writtenCost 3 (some .int) ∈ lw_gd := zm (List.mem_of_getElem? (i := 2365) (by decide +kernel)) rfl
theorem co_X12_writtenMany : Cond.code yX12_writtenMany cX12_writtenMany 3 (some .int) ∈ lw_gd := zm (List.mem_of_getElem? (i := 2361) (by decide +kernel)) rfl
theorem fl_X12_13 : Cond.fieldLink RX12 13 "CloneVolumesModel" "faultPlace" "I" ∈ lw_gd := zm (List.mem_of_getElem? (i := 1546) (by decide +kernel)) rfl
theorem fl_X12_396 : Cond.fieldLink RX12 396 "CloneVolumesModel" "fault" "I" ∈ lw_gd := zm (List.mem_of_getElem? (i := 1545) (by decide +kernel)) rfl
theorem fl_X12_406 : Cond.fieldLink RX12 406 "CloneVolumesModel" "isTold" "Z" ∈ lw_gd := zm (List.mem_of_getElem? (i := 1585) (by decide +kernel)) rfl
theorem fl_X12_416 : Cond.fieldLink RX12 416 "CloneVolumesModel" "undoable" "I" ∈ lw_gd := zm (List.mem_of_getElem? (i := 1614) (by decide +kernel)) rfl
theorem fl_X12_419 : Cond.fieldLink RX12 419 "CloneVolumesModel" "rowMany" "I" ∈ lw_gd := zm (List.mem_of_getElem? (i := 1611) (by decide +kernel)) rfl
theorem im_X12_actGoes : Cond.instanceMethod yX12_actGoes ∈ lw_gd := zm (List.mem_of_getElem? (i := 2076) (by decide +kernel)) rfl
theorem im_X12_checks : Cond.instanceMethod yX12_checks ∈ lw_gd := zm (List.mem_of_getElem? (i := 2232) (by decide +kernel)) rfl
theorem im_X12_copies : Cond.instanceMethod yX12_copies ∈ lw_gd := zm (List.mem_of_getElem? (i := 2080) (by decide +kernel)) rfl
theorem im_X12_costOf : Cond.instanceMethod yX12_costOf ∈ lw_gd := zm (List.mem_of_getElem? (i := 2368) (by decide +kernel)) rfl
theorem im_X12_refuses : Cond.instanceMethod yX12_refuses ∈ lw_gd := zm (List.mem_of_getElem? (i := 2068) (by decide +kernel)) rfl
theorem im_X12_stands : Cond.instanceMethod yX12_stands ∈ lw_gd := zm (List.mem_of_getElem? (i := 2072) (by decide +kernel)) rfl
theorem im_X12_statementTold : Cond.instanceMethod yX12_statementTold ∈ lw_gd := zm (List.mem_of_getElem? (i := 1947) (by decide +kernel)) rfl
theorem im_X12_storeTold : Cond.instanceMethod yX12_storeTold ∈ lw_gd := zm (List.mem_of_getElem? (i := 1902) (by decide +kernel)) rfl
theorem im_X12_tries : Cond.instanceMethod yX12_tries ∈ lw_gd := zm (List.mem_of_getElem? (i := 2088) (by decide +kernel)) rfl
theorem im_X12_writtenCost : Cond.instanceMethod yX12_writtenCost ∈ lw_gd := zm (List.mem_of_getElem? (i := 2364) (by decide +kernel)) rfl
theorem im_X12_writtenMany : Cond.instanceMethod yX12_writtenMany ∈ lw_gd := zm (List.mem_of_getElem? (i := 2360) (by decide +kernel)) rfl
theorem ml_X12_390 : Cond.methodLink RX12 390 yX12_storeTold ∈ lw_gd := zm (List.mem_of_getElem? (i := 1900) (by decide +kernel)) rfl
theorem ml_X12_393 : Cond.methodLink RX12 393 yX12_statementTold ∈ lw_gd := zm (List.mem_of_getElem? (i := 1945) (by decide +kernel)) rfl
theorem ml_X12_399 : Cond.methodLink RX12 399 yX12_refuses ∈ lw_gd := zm (List.mem_of_getElem? (i := 2066) (by decide +kernel)) rfl
theorem ml_X12_403 : Cond.methodLink RX12 403 yX12_stands ∈ lw_gd := zm (List.mem_of_getElem? (i := 2070) (by decide +kernel)) rfl
theorem ml_X12_410 : Cond.methodLink RX12 410 yX12_actGoes ∈ lw_gd := zm (List.mem_of_getElem? (i := 2074) (by decide +kernel)) rfl
theorem ml_X12_413 : Cond.methodLink RX12 413 yX12_checks ∈ lw_gd := zm (List.mem_of_getElem? (i := 2230) (by decide +kernel)) rfl
theorem ml_X12_422 : Cond.methodLink RX12 422 yX12_copies ∈ lw_gd := zm (List.mem_of_getElem? (i := 2078) (by decide +kernel)) rfl
theorem ml_X12_425 : Cond.methodLink RX12 425 yX12_tries ∈ lw_gd := zm (List.mem_of_getElem? (i := 2086) (by decide +kernel)) rfl
theorem ml_X12_479 : Cond.methodLink RX12 479 yX12_clamp ∈ lw_gd := zm (List.mem_of_getElem? (i := 2370) (by decide +kernel)) rfl
theorem ml_X12_483 : Cond.methodLink RX12 483 yX12_costOf ∈ lw_gd := zm (List.mem_of_getElem? (i := 2366) (by decide +kernel)) rfl
theorem ml_X12_486 : Cond.methodLink RX12 486 yX12_writtenMany ∈ lw_gd := zm (List.mem_of_getElem? (i := 2358) (by decide +kernel)) rfl
theorem ml_X12_489 : Cond.methodLink RX12 489 yX12_writtenCost ∈ lw_gd := zm (List.mem_of_getElem? (i := 2362) (by decide +kernel)) rfl
theorem se_X12_actGoes : Cond.selects RX12 yX12_actGoes yX12_actGoes ∈ lw_gd := zm (List.mem_of_getElem? (i := 109) (by decide +kernel)) rfl
theorem se_X12_checks : Cond.selects RX12 yX12_checks yX12_checks ∈ lw_gd := zm (List.mem_of_getElem? (i := 146) (by decide +kernel)) rfl
theorem se_X12_copies : Cond.selects RX12 yX12_copies yX12_copies ∈ lw_gd := zm (List.mem_of_getElem? (i := 110) (by decide +kernel)) rfl
theorem se_X12_costOf : Cond.selects RX12 yX12_costOf yX12_costOf ∈ lw_gd := zm (List.mem_of_getElem? (i := 165) (by decide +kernel)) rfl
theorem se_X12_refuses : Cond.selects RX12 yX12_refuses yX12_refuses ∈ lw_gd := zm (List.mem_of_getElem? (i := 107) (by decide +kernel)) rfl
theorem se_X12_stands : Cond.selects RX12 yX12_stands yX12_stands ∈ lw_gd := zm (List.mem_of_getElem? (i := 108) (by decide +kernel)) rfl
theorem se_X12_statementTold : Cond.selects RX12 yX12_statementTold yX12_statementTold ∈ lw_gd := zm (List.mem_of_getElem? (i := 78) (by decide +kernel)) rfl
theorem se_X12_storeTold : Cond.selects RX12 yX12_storeTold yX12_storeTold ∈ lw_gd := zm (List.mem_of_getElem? (i := 69) (by decide +kernel)) rfl
theorem se_X12_tries : Cond.selects RX12 yX12_tries yX12_tries ∈ lw_gd := zm (List.mem_of_getElem? (i := 112) (by decide +kernel)) rfl
theorem se_X12_writtenCost : Cond.selects RX12 yX12_writtenCost yX12_writtenCost ∈ lw_gd := zm (List.mem_of_getElem? (i := 164) (by decide +kernel)) rfl
theorem se_X12_writtenMany : Cond.selects RX12 yX12_writtenMany yX12_writtenMany ∈ lw_gd := zm (List.mem_of_getElem? (i := 163) (by decide +kernel)) rfl
theorem st_X12_clamp : Cond.static yX12_clamp ∈ lw_gd := zm (List.mem_of_getElem? (i := 2371) (by decide +kernel)) rfl
theorem dX12_actGoes_0 : decode cX12_actGoes 0 = .ok (.iload_n 1, 1) := by decide +kernel
theorem dX12_actGoes_1 : decode cX12_actGoes 1 = .ok (.ifCond .ne 15, 3) := by decide +kernel
theorem dX12_actGoes_4 : decode cX12_actGoes 4 = .ok (.aload_n 0, 1) := by decide +kernel
theorem dX12_actGoes_5 : decode cX12_actGoes 5 = .ok (.getfield 121, 3) := by decide +kernel
theorem dX12_actGoes_8 : decode cX12_actGoes 8 = .ok (.iload_n 2, 1) := by decide +kernel
theorem dX12_actGoes_9 : decode cX12_actGoes 9 = .ok (.sipush 254, 3) := by decide +kernel
theorem dX12_actGoes_12 : decode cX12_actGoes 12 = .ok (.iastore, 1) := by decide +kernel
theorem dX12_actGoes_13 : decode cX12_actGoes 13 = .ok (.goto 27, 3) := by decide +kernel
theorem dX12_actGoes_16 : decode cX12_actGoes 16 = .ok (.iload_n 1, 1) := by decide +kernel
theorem dX12_actGoes_17 : decode cX12_actGoes 17 = .ok (.iconst 1, 1) := by decide +kernel
theorem dX12_actGoes_18 : decode cX12_actGoes 18 = .ok (.if_icmp .ne 12, 3) := by decide +kernel
theorem dX12_actGoes_21 : decode cX12_actGoes 21 = .ok (.aload_n 0, 1) := by decide +kernel
theorem dX12_actGoes_22 : decode cX12_actGoes 22 = .ok (.iload_n 2, 1) := by decide +kernel
theorem dX12_actGoes_23 : decode cX12_actGoes 23 = .ok (.iload_n 3, 1) := by decide +kernel
theorem dX12_actGoes_24 : decode cX12_actGoes 24 = .ok (.invokevirtual 422, 3) := by decide +kernel
theorem dX12_actGoes_27 : decode cX12_actGoes 27 = .ok (.goto 13, 3) := by decide +kernel
theorem dX12_actGoes_30 : decode cX12_actGoes 30 = .ok (.aload_n 0, 1) := by decide +kernel
theorem dX12_actGoes_31 : decode cX12_actGoes 31 = .ok (.iload_n 1, 1) := by decide +kernel
theorem dX12_actGoes_32 : decode cX12_actGoes 32 = .ok (.iload_n 2, 1) := by decide +kernel
theorem dX12_actGoes_33 : decode cX12_actGoes 33 = .ok (.iload_n 3, 1) := by decide +kernel
theorem dX12_actGoes_34 : decode cX12_actGoes 34 = .ok (.iload 4, 2) := by decide +kernel
theorem dX12_actGoes_36 : decode cX12_actGoes 36 = .ok (.invokevirtual 425, 3) := by decide +kernel
theorem dX12_actGoes_39 : decode cX12_actGoes 39 = .ok (.pop, 1) := by decide +kernel
theorem dX12_actGoes_40 : decode cX12_actGoes 40 = .ok (.return_, 1) := by decide +kernel
theorem dX12_clearsTouched_0 : decode cX12_clearsTouched 0 = .ok (.iconst 0, 1) := by decide +kernel
theorem dX12_clearsTouched_1 : decode cX12_clearsTouched 1 = .ok (.istore_n 1, 1) := by decide +kernel
theorem dX12_clearsTouched_2 : decode cX12_clearsTouched 2 = .ok (.iload_n 1, 1) := by decide +kernel
theorem dX12_clearsTouched_3 : decode cX12_clearsTouched 3 = .ok (.bipush 48, 2) := by decide +kernel
theorem dX12_clearsTouched_5 : decode cX12_clearsTouched 5 = .ok (.if_icmp .ge 16, 3) := by decide +kernel
theorem dX12_clearsTouched_8 : decode cX12_clearsTouched 8 = .ok (.aload_n 0, 1) := by decide +kernel
theorem dX12_clearsTouched_9 : decode cX12_clearsTouched 9 = .ok (.getfield 124, 3) := by decide +kernel
theorem dX12_clearsTouched_12 : decode cX12_clearsTouched 12 = .ok (.iload_n 1, 1) := by decide +kernel
theorem dX12_clearsTouched_13 : decode cX12_clearsTouched 13 = .ok (.iconst 0, 1) := by decide +kernel
theorem dX12_clearsTouched_14 : decode cX12_clearsTouched 14 = .ok (.bastore, 1) := by decide +kernel
theorem dX12_clearsTouched_15 : decode cX12_clearsTouched 15 = .ok (.iinc 1 1, 3) := by decide +kernel
theorem dX12_clearsTouched_18 : decode cX12_clearsTouched 18 = .ok (.goto (-16), 3) := by decide +kernel
theorem dX12_clearsTouched_21 : decode cX12_clearsTouched 21 = .ok (.return_, 1) := by decide +kernel
theorem dX12_copies_0 : decode cX12_copies 0 = .ok (.aload_n 0, 1) := by decide +kernel
theorem dX12_copies_1 : decode cX12_copies 1 = .ok (.getfield 121, 3) := by decide +kernel
theorem dX12_copies_4 : decode cX12_copies 4 = .ok (.iload_n 2, 1) := by decide +kernel
theorem dX12_copies_5 : decode cX12_copies 5 = .ok (.aload_n 0, 1) := by decide +kernel
theorem dX12_copies_6 : decode cX12_copies 6 = .ok (.getfield 121, 3) := by decide +kernel
theorem dX12_copies_9 : decode cX12_copies 9 = .ok (.iload_n 1, 1) := by decide +kernel
theorem dX12_copies_10 : decode cX12_copies 10 = .ok (.iaload, 1) := by decide +kernel
theorem dX12_copies_11 : decode cX12_copies 11 = .ok (.iastore, 1) := by decide +kernel
theorem dX12_copies_12 : decode cX12_copies 12 = .ok (.aload_n 0, 1) := by decide +kernel
theorem dX12_copies_13 : decode cX12_copies 13 = .ok (.getfield 121, 3) := by decide +kernel
theorem dX12_copies_16 : decode cX12_copies 16 = .ok (.iload_n 2, 1) := by decide +kernel
theorem dX12_copies_17 : decode cX12_copies 17 = .ok (.iaload, 1) := by decide +kernel
theorem dX12_copies_18 : decode cX12_copies 18 = .ok (.sipush 254, 3) := by decide +kernel
theorem dX12_copies_21 : decode cX12_copies 21 = .ok (.if_icmp .eq 14, 3) := by decide +kernel
theorem dX12_copies_24 : decode cX12_copies 24 = .ok (.aload_n 0, 1) := by decide +kernel
theorem dX12_copies_25 : decode cX12_copies 25 = .ok (.aload_n 0, 1) := by decide +kernel
theorem dX12_copies_26 : decode cX12_copies 26 = .ok (.getfield 121, 3) := by decide +kernel
theorem dX12_copies_29 : decode cX12_copies 29 = .ok (.iload_n 2, 1) := by decide +kernel
theorem dX12_copies_30 : decode cX12_copies 30 = .ok (.iaload, 1) := by decide +kernel
theorem dX12_copies_31 : decode cX12_copies 31 = .ok (.iconst 1, 1) := by decide +kernel
theorem dX12_copies_32 : decode cX12_copies 32 = .ok (.invokevirtual 502, 3) := by decide +kernel
theorem dX12_copies_35 : decode cX12_copies 35 = .ok (.return_, 1) := by decide +kernel
theorem dX12_costOf_0 : decode cX12_costOf 0 = .ok (.aload_n 0, 1) := by decide +kernel
theorem dX12_costOf_1 : decode cX12_costOf 1 = .ok (.iload_n 1, 1) := by decide +kernel
theorem dX12_costOf_2 : decode cX12_costOf 2 = .ok (.putfield 457, 3) := by decide +kernel
theorem dX12_costOf_5 : decode cX12_costOf 5 = .ok (.aload_n 0, 1) := by decide +kernel
theorem dX12_costOf_6 : decode cX12_costOf 6 = .ok (.aload_n 0, 1) := by decide +kernel
theorem dX12_costOf_7 : decode cX12_costOf 7 = .ok (.iload_n 1, 1) := by decide +kernel
theorem dX12_costOf_8 : decode cX12_costOf 8 = .ok (.invokevirtual 460, 3) := by decide +kernel
theorem dX12_costOf_11 : decode cX12_costOf 11 = .ok (.putfield 463, 3) := by decide +kernel
theorem dX12_costOf_14 : decode cX12_costOf 14 = .ok (.aload_n 0, 1) := by decide +kernel
theorem dX12_costOf_15 : decode cX12_costOf 15 = .ok (.aload_n 0, 1) := by decide +kernel
theorem dX12_costOf_16 : decode cX12_costOf 16 = .ok (.iload_n 1, 1) := by decide +kernel
theorem dX12_costOf_17 : decode cX12_costOf 17 = .ok (.invokevirtual 466, 3) := by decide +kernel
theorem dX12_costOf_20 : decode cX12_costOf 20 = .ok (.putfield 469, 3) := by decide +kernel
theorem dX12_costOf_23 : decode cX12_costOf 23 = .ok (.aload_n 0, 1) := by decide +kernel
theorem dX12_costOf_24 : decode cX12_costOf 24 = .ok (.iconst 2, 1) := by decide +kernel
theorem dX12_costOf_25 : decode cX12_costOf 25 = .ok (.invokevirtual 472, 3) := by decide +kernel
theorem dX12_costOf_28 : decode cX12_costOf 28 = .ok (.ifCond .eq 14, 3) := by decide +kernel
theorem dX12_costOf_31 : decode cX12_costOf 31 = .ok (.aload_n 0, 1) := by decide +kernel
theorem dX12_costOf_32 : decode cX12_costOf 32 = .ok (.iconst 2, 1) := by decide +kernel
theorem dX12_costOf_33 : decode cX12_costOf 33 = .ok (.invokevirtual 475, 3) := by decide +kernel
theorem dX12_costOf_36 : decode cX12_costOf 36 = .ok (.invokestatic 479, 3) := by decide +kernel
theorem dX12_costOf_39 : decode cX12_costOf 39 = .ok (.goto 4, 3) := by decide +kernel
theorem dX12_costOf_42 : decode cX12_costOf 42 = .ok (.iconst 1, 1) := by decide +kernel
theorem dX12_costOf_43 : decode cX12_costOf 43 = .ok (.ireturn, 1) := by decide +kernel
theorem dX12_fault_0 : decode cX12_fault 0 = .ok (.iload_n 1, 1) := by decide +kernel
theorem dX12_fault_1 : decode cX12_fault 1 = .ok (.ifCond .ne 10, 3) := by decide +kernel
theorem dX12_fault_4 : decode cX12_fault 4 = .ok (.aload_n 0, 1) := by decide +kernel
theorem dX12_fault_5 : decode cX12_fault 5 = .ok (.getfield 396, 3) := by decide +kernel
theorem dX12_fault_8 : decode cX12_fault 8 = .ok (.goto 16, 3) := by decide +kernel
theorem dX12_fault_11 : decode cX12_fault 11 = .ok (.iload_n 1, 1) := by decide +kernel
theorem dX12_fault_12 : decode cX12_fault 12 = .ok (.iconst 1, 1) := by decide +kernel
theorem dX12_fault_13 : decode cX12_fault 13 = .ok (.if_icmp .ne 10, 3) := by decide +kernel
theorem dX12_fault_16 : decode cX12_fault 16 = .ok (.aload_n 0, 1) := by decide +kernel
theorem dX12_fault_17 : decode cX12_fault 17 = .ok (.getfield 13, 3) := by decide +kernel
theorem dX12_fault_20 : decode cX12_fault 20 = .ok (.goto 4, 3) := by decide +kernel
theorem dX12_fault_23 : decode cX12_fault 23 = .ok (.iconst (-1), 1) := by decide +kernel
theorem dX12_fault_24 : decode cX12_fault 24 = .ok (.ireturn, 1) := by decide +kernel
theorem dX12_isBlock_0 : decode cX12_isBlock 0 = .ok (.lload_n 1, 1) := by decide +kernel
theorem dX12_isBlock_1 : decode cX12_isBlock 1 = .ok (.lconst 0, 1) := by decide +kernel
theorem dX12_isBlock_2 : decode cX12_isBlock 2 = .ok (.aload_n 0, 1) := by decide +kernel
theorem dX12_isBlock_3 : decode cX12_isBlock 3 = .ok (.invokevirtual 429, 3) := by decide +kernel
theorem dX12_isBlock_6 : decode cX12_isBlock 6 = .ok (.iconst 1, 1) := by decide +kernel
theorem dX12_isBlock_7 : decode cX12_isBlock 7 = .ok (.isub, 1) := by decide +kernel
theorem dX12_isBlock_8 : decode cX12_isBlock 8 = .ok (.i2l, 1) := by decide +kernel
theorem dX12_isBlock_9 : decode cX12_isBlock 9 = .ok (.invokestatic 309, 3) := by decide +kernel
theorem dX12_isBlock_12 : decode cX12_isBlock 12 = .ok (.ireturn, 1) := by decide +kernel
theorem dX12_isHeld_0 : decode cX12_isHeld 0 = .ok (.aload_n 0, 1) := by decide +kernel
theorem dX12_isHeld_1 : decode cX12_isHeld 1 = .ok (.iload_n 1, 1) := by decide +kernel
theorem dX12_isHeld_2 : decode cX12_isHeld 2 = .ok (.invokevirtual 435, 3) := by decide +kernel
theorem dX12_isHeld_5 : decode cX12_isHeld 5 = .ok (.ifCond .ne 15, 3) := by decide +kernel
theorem dX12_isHeld_8 : decode cX12_isHeld 8 = .ok (.aload_n 0, 1) := by decide +kernel
theorem dX12_isHeld_9 : decode cX12_isHeld 9 = .ok (.iload_n 1, 1) := by decide +kernel
theorem dX12_isHeld_10 : decode cX12_isHeld 10 = .ok (.invokevirtual 438, 3) := by decide +kernel
theorem dX12_isHeld_13 : decode cX12_isHeld 13 = .ok (.ifCond .le 7, 3) := by decide +kernel
theorem dX12_isHeld_16 : decode cX12_isHeld 16 = .ok (.iconst 1, 1) := by decide +kernel
theorem dX12_isHeld_17 : decode cX12_isHeld 17 = .ok (.goto 4, 3) := by decide +kernel
theorem dX12_isHeld_20 : decode cX12_isHeld 20 = .ok (.iconst 0, 1) := by decide +kernel
theorem dX12_isHeld_21 : decode cX12_isHeld 21 = .ok (.ireturn, 1) := by decide +kernel
theorem dX12_isKept_0 : decode cX12_isKept 0 = .ok (.aload_n 0, 1) := by decide +kernel
theorem dX12_isKept_1 : decode cX12_isKept 1 = .ok (.invokevirtual 486, 3) := by decide +kernel
theorem dX12_isKept_4 : decode cX12_isKept 4 = .ok (.istore_n 3, 1) := by decide +kernel
theorem dX12_isKept_5 : decode cX12_isKept 5 = .ok (.aload_n 0, 1) := by decide +kernel
theorem dX12_isKept_6 : decode cX12_isKept 6 = .ok (.getfield 121, 3) := by decide +kernel
theorem dX12_isKept_9 : decode cX12_isKept 9 = .ok (.bipush 16, 2) := by decide +kernel
theorem dX12_isKept_11 : decode cX12_isKept 11 = .ok (.dup2, 1) := by decide +kernel
theorem dX12_isKept_12 : decode cX12_isKept 12 = .ok (.iaload, 1) := by decide +kernel
theorem dX12_isKept_13 : decode cX12_isKept 13 = .ok (.aload_n 0, 1) := by decide +kernel
theorem dX12_isKept_14 : decode cX12_isKept 14 = .ok (.invokevirtual 489, 3) := by decide +kernel
theorem dX12_isKept_17 : decode cX12_isKept 17 = .ok (.iadd, 1) := by decide +kernel
theorem dX12_isKept_18 : decode cX12_isKept 18 = .ok (.iastore, 1) := by decide +kernel
theorem dX12_isKept_19 : decode cX12_isKept 19 = .ok (.aload_n 0, 1) := by decide +kernel
theorem dX12_isKept_20 : decode cX12_isKept 20 = .ok (.getfield 121, 3) := by decide +kernel
theorem dX12_isKept_23 : decode cX12_isKept 23 = .ok (.bipush 16, 2) := by decide +kernel
theorem dX12_isKept_25 : decode cX12_isKept 25 = .ok (.iaload, 1) := by decide +kernel
theorem dX12_isKept_26 : decode cX12_isKept 26 = .ok (.ldc_w 492, 3) := by decide +kernel
theorem dX12_isKept_29 : decode cX12_isKept 29 = .ok (.if_icmp .le 13, 3) := by decide +kernel
theorem dX12_isKept_32 : decode cX12_isKept 32 = .ok (.aload_n 0, 1) := by decide +kernel
theorem dX12_isKept_33 : decode cX12_isKept 33 = .ok (.getfield 121, 3) := by decide +kernel
theorem dX12_isKept_36 : decode cX12_isKept 36 = .ok (.bipush 16, 2) := by decide +kernel
theorem dX12_isKept_38 : decode cX12_isKept 38 = .ok (.ldc_w 492, 3) := by decide +kernel
theorem dX12_isKept_41 : decode cX12_isKept 41 = .ok (.iastore, 1) := by decide +kernel
theorem dX12_isKept_42 : decode cX12_isKept 42 = .ok (.aload_n 0, 1) := by decide +kernel
theorem dX12_isKept_43 : decode cX12_isKept 43 = .ok (.getfield 121, 3) := by decide +kernel
theorem dX12_isKept_46 : decode cX12_isKept 46 = .ok (.sipush 785, 3) := by decide +kernel
theorem dX12_isKept_49 : decode cX12_isKept 49 = .ok (.iaload, 1) := by decide +kernel
theorem dX12_isKept_50 : decode cX12_isKept 50 = .ok (.bipush 40, 2) := by decide +kernel
theorem dX12_isKept_52 : decode cX12_isKept 52 = .ok (.if_icmp .ne 41, 3) := by decide +kernel
theorem dX12_isKept_55 : decode cX12_isKept 55 = .ok (.sipush 786, 3) := by decide +kernel
theorem dX12_isKept_58 : decode cX12_isKept 58 = .ok (.istore 4, 2) := by decide +kernel
theorem dX12_isKept_60 : decode cX12_isKept 60 = .ok (.iload 4, 2) := by decide +kernel
theorem dX12_isKept_62 : decode cX12_isKept 62 = .ok (.sipush 903, 3) := by decide +kernel
theorem dX12_isKept_65 : decode cX12_isKept 65 = .ok (.if_icmp .ge 25, 3) := by decide +kernel
theorem dX12_isKept_68 : decode cX12_isKept 68 = .ok (.aload_n 0, 1) := by decide +kernel
theorem dX12_isKept_69 : decode cX12_isKept 69 = .ok (.getfield 121, 3) := by decide +kernel
theorem dX12_isKept_72 : decode cX12_isKept 72 = .ok (.iload 4, 2) := by decide +kernel
theorem dX12_isKept_74 : decode cX12_isKept 74 = .ok (.aload_n 0, 1) := by decide +kernel
theorem dX12_isKept_75 : decode cX12_isKept 75 = .ok (.getfield 121, 3) := by decide +kernel
theorem dX12_isKept_78 : decode cX12_isKept 78 = .ok (.iload 4, 2) := by decide +kernel
theorem dX12_isKept_80 : decode cX12_isKept 80 = .ok (.iconst 3, 1) := by decide +kernel
theorem dX12_isKept_81 : decode cX12_isKept 81 = .ok (.iadd, 1) := by decide +kernel
theorem dX12_isKept_82 : decode cX12_isKept 82 = .ok (.iaload, 1) := by decide +kernel
theorem dX12_isKept_83 : decode cX12_isKept 83 = .ok (.iastore, 1) := by decide +kernel
theorem dX12_isKept_84 : decode cX12_isKept 84 = .ok (.iinc 4 1, 3) := by decide +kernel
theorem dX12_isKept_87 : decode cX12_isKept 87 = .ok (.goto (-27), 3) := by decide +kernel
theorem dX12_isKept_90 : decode cX12_isKept 90 = .ok (.goto 15, 3) := by decide +kernel
theorem dX12_isKept_93 : decode cX12_isKept 93 = .ok (.aload_n 0, 1) := by decide +kernel
theorem dX12_isKept_94 : decode cX12_isKept 94 = .ok (.getfield 121, 3) := by decide +kernel
theorem dX12_isKept_97 : decode cX12_isKept 97 = .ok (.sipush 785, 3) := by decide +kernel
theorem dX12_isKept_100 : decode cX12_isKept 100 = .ok (.dup2, 1) := by decide +kernel
theorem dX12_isKept_101 : decode cX12_isKept 101 = .ok (.iaload, 1) := by decide +kernel
theorem dX12_isKept_102 : decode cX12_isKept 102 = .ok (.iconst 1, 1) := by decide +kernel
theorem dX12_isKept_103 : decode cX12_isKept 103 = .ok (.iadd, 1) := by decide +kernel
theorem dX12_isKept_104 : decode cX12_isKept 104 = .ok (.iastore, 1) := by decide +kernel
theorem dX12_isKept_105 : decode cX12_isKept 105 = .ok (.sipush 786, 3) := by decide +kernel
theorem dX12_isKept_108 : decode cX12_isKept 108 = .ok (.iconst 3, 1) := by decide +kernel
theorem dX12_isKept_109 : decode cX12_isKept 109 = .ok (.aload_n 0, 1) := by decide +kernel
theorem dX12_isKept_110 : decode cX12_isKept 110 = .ok (.getfield 121, 3) := by decide +kernel
theorem dX12_isKept_113 : decode cX12_isKept 113 = .ok (.sipush 785, 3) := by decide +kernel
theorem dX12_isKept_116 : decode cX12_isKept 116 = .ok (.iaload, 1) := by decide +kernel
theorem dX12_isKept_117 : decode cX12_isKept 117 = .ok (.imul, 1) := by decide +kernel
theorem dX12_isKept_118 : decode cX12_isKept 118 = .ok (.iadd, 1) := by decide +kernel
theorem dX12_isKept_119 : decode cX12_isKept 119 = .ok (.iconst 3, 1) := by decide +kernel
theorem dX12_isKept_120 : decode cX12_isKept 120 = .ok (.isub, 1) := by decide +kernel
theorem dX12_isKept_121 : decode cX12_isKept 121 = .ok (.istore 4, 2) := by decide +kernel
theorem dX12_isKept_123 : decode cX12_isKept 123 = .ok (.aload_n 0, 1) := by decide +kernel
theorem dX12_isKept_124 : decode cX12_isKept 124 = .ok (.getfield 121, 3) := by decide +kernel
theorem dX12_isKept_127 : decode cX12_isKept 127 = .ok (.iload 4, 2) := by decide +kernel
theorem dX12_isKept_129 : decode cX12_isKept 129 = .ok (.iload_n 1, 1) := by decide +kernel
theorem dX12_isKept_130 : decode cX12_isKept 130 = .ok (.iastore, 1) := by decide +kernel
theorem dX12_isKept_131 : decode cX12_isKept 131 = .ok (.aload_n 0, 1) := by decide +kernel
theorem dX12_isKept_132 : decode cX12_isKept 132 = .ok (.getfield 121, 3) := by decide +kernel
theorem dX12_isKept_135 : decode cX12_isKept 135 = .ok (.iload 4, 2) := by decide +kernel
theorem dX12_isKept_137 : decode cX12_isKept 137 = .ok (.iconst 1, 1) := by decide +kernel
theorem dX12_isKept_138 : decode cX12_isKept 138 = .ok (.iadd, 1) := by decide +kernel
theorem dX12_isKept_139 : decode cX12_isKept 139 = .ok (.iload_n 2, 1) := by decide +kernel
theorem dX12_isKept_140 : decode cX12_isKept 140 = .ok (.iastore, 1) := by decide +kernel
theorem dX12_isKept_141 : decode cX12_isKept 141 = .ok (.aload_n 0, 1) := by decide +kernel
theorem dX12_isKept_142 : decode cX12_isKept 142 = .ok (.getfield 121, 3) := by decide +kernel
theorem dX12_isKept_145 : decode cX12_isKept 145 = .ok (.iload 4, 2) := by decide +kernel
theorem dX12_isKept_147 : decode cX12_isKept 147 = .ok (.iconst 2, 1) := by decide +kernel
theorem dX12_isKept_148 : decode cX12_isKept 148 = .ok (.iadd, 1) := by decide +kernel
theorem dX12_isKept_149 : decode cX12_isKept 149 = .ok (.iload_n 3, 1) := by decide +kernel
theorem dX12_isKept_150 : decode cX12_isKept 150 = .ok (.iastore, 1) := by decide +kernel
theorem dX12_isKept_151 : decode cX12_isKept 151 = .ok (.return_, 1) := by decide +kernel
theorem dX12_isVolume_0 : decode cX12_isVolume 0 = .ok (.lload_n 1, 1) := by decide +kernel
theorem dX12_isVolume_1 : decode cX12_isVolume 1 = .ok (.lconst 0, 1) := by decide +kernel
theorem dX12_isVolume_2 : decode cX12_isVolume 2 = .ok (.ldc2_w 441, 3) := by decide +kernel
theorem dX12_isVolume_5 : decode cX12_isVolume 5 = .ok (.invokestatic 309, 3) := by decide +kernel
theorem dX12_isVolume_8 : decode cX12_isVolume 8 = .ok (.ifCond .eq 27, 3) := by decide +kernel
theorem dX12_isVolume_11 : decode cX12_isVolume 11 = .ok (.aload_n 0, 1) := by decide +kernel
theorem dX12_isVolume_12 : decode cX12_isVolume 12 = .ok (.getfield 406, 3) := by decide +kernel
theorem dX12_isVolume_15 : decode cX12_isVolume 15 = .ok (.ifCond .eq 20, 3) := by decide +kernel
theorem dX12_isVolume_18 : decode cX12_isVolume 18 = .ok (.aload_n 0, 1) := by decide +kernel
theorem dX12_isVolume_19 : decode cX12_isVolume 19 = .ok (.getfield 121, 3) := by decide +kernel
theorem dX12_isVolume_22 : decode cX12_isVolume 22 = .ok (.lload_n 1, 1) := by decide +kernel
theorem dX12_isVolume_23 : decode cX12_isVolume 23 = .ok (.l2i, 1) := by decide +kernel
theorem dX12_isVolume_24 : decode cX12_isVolume 24 = .ok (.iaload, 1) := by decide +kernel
theorem dX12_isVolume_25 : decode cX12_isVolume 25 = .ok (.sipush 255, 3) := by decide +kernel
theorem dX12_isVolume_28 : decode cX12_isVolume 28 = .ok (.if_icmp .eq 7, 3) := by decide +kernel
theorem dX12_isVolume_31 : decode cX12_isVolume 31 = .ok (.iconst 1, 1) := by decide +kernel
theorem dX12_isVolume_32 : decode cX12_isVolume 32 = .ok (.goto 4, 3) := by decide +kernel
theorem dX12_isVolume_35 : decode cX12_isVolume 35 = .ok (.iconst 0, 1) := by decide +kernel
theorem dX12_isVolume_36 : decode cX12_isVolume 36 = .ok (.ireturn, 1) := by decide +kernel
theorem dX12_refuses_0 : decode cX12_refuses 0 = .ok (.aload_n 0, 1) := by decide +kernel
theorem dX12_refuses_1 : decode cX12_refuses 1 = .ok (.getfield 17, 3) := by decide +kernel
theorem dX12_refuses_4 : decode cX12_refuses 4 = .ok (.iload_n 1, 1) := by decide +kernel
theorem dX12_refuses_5 : decode cX12_refuses 5 = .ok (.dup2, 1) := by decide +kernel
theorem dX12_refuses_6 : decode cX12_refuses 6 = .ok (.iaload, 1) := by decide +kernel
theorem dX12_refuses_7 : decode cX12_refuses 7 = .ok (.iconst 1, 1) := by decide +kernel
theorem dX12_refuses_8 : decode cX12_refuses 8 = .ok (.iadd, 1) := by decide +kernel
theorem dX12_refuses_9 : decode cX12_refuses 9 = .ok (.iastore, 1) := by decide +kernel
theorem dX12_refuses_10 : decode cX12_refuses 10 = .ok (.iconst (-1), 1) := by decide +kernel
theorem dX12_refuses_11 : decode cX12_refuses 11 = .ok (.ireturn, 1) := by decide +kernel
theorem dX12_stands_0 : decode cX12_stands 0 = .ok (.aload_n 0, 1) := by decide +kernel
theorem dX12_stands_1 : decode cX12_stands 1 = .ok (.iconst 1, 1) := by decide +kernel
theorem dX12_stands_2 : decode cX12_stands 2 = .ok (.putfield 406, 3) := by decide +kernel
theorem dX12_stands_5 : decode cX12_stands 5 = .ok (.iconst 0, 1) := by decide +kernel
theorem dX12_stands_6 : decode cX12_stands 6 = .ok (.istore_n 1, 1) := by decide +kernel
theorem dX12_stands_7 : decode cX12_stands 7 = .ok (.iload_n 1, 1) := by decide +kernel
theorem dX12_stands_8 : decode cX12_stands 8 = .ok (.iconst 5, 1) := by decide +kernel
theorem dX12_stands_9 : decode cX12_stands 9 = .ok (.if_icmp .ge 23, 3) := by decide +kernel
theorem dX12_stands_12 : decode cX12_stands 12 = .ok (.aload_n 0, 1) := by decide +kernel
theorem dX12_stands_13 : decode cX12_stands 13 = .ok (.getfield 102, 3) := by decide +kernel
theorem dX12_stands_16 : decode cX12_stands 16 = .ok (.iconst 5, 1) := by decide +kernel
theorem dX12_stands_17 : decode cX12_stands 17 = .ok (.iload_n 1, 1) := by decide +kernel
theorem dX12_stands_18 : decode cX12_stands 18 = .ok (.iadd, 1) := by decide +kernel
theorem dX12_stands_19 : decode cX12_stands 19 = .ok (.aload_n 0, 1) := by decide +kernel
theorem dX12_stands_20 : decode cX12_stands 20 = .ok (.getfield 102, 3) := by decide +kernel
theorem dX12_stands_23 : decode cX12_stands 23 = .ok (.iload_n 1, 1) := by decide +kernel
theorem dX12_stands_24 : decode cX12_stands 24 = .ok (.iaload, 1) := by decide +kernel
theorem dX12_stands_25 : decode cX12_stands 25 = .ok (.iastore, 1) := by decide +kernel
theorem dX12_stands_26 : decode cX12_stands 26 = .ok (.iinc 1 1, 3) := by decide +kernel
theorem dX12_stands_29 : decode cX12_stands 29 = .ok (.goto (-22), 3) := by decide +kernel
theorem dX12_stands_32 : decode cX12_stands 32 = .ok (.iconst 0, 1) := by decide +kernel
theorem dX12_stands_33 : decode cX12_stands 33 = .ok (.istore_n 1, 1) := by decide +kernel
theorem dX12_stands_34 : decode cX12_stands 34 = .ok (.iload_n 1, 1) := by decide +kernel
theorem dX12_stands_35 : decode cX12_stands 35 = .ok (.iconst 3, 1) := by decide +kernel
theorem dX12_stands_36 : decode cX12_stands 36 = .ok (.if_icmp .ge 37, 3) := by decide +kernel
theorem dX12_stands_39 : decode cX12_stands 39 = .ok (.aload_n 0, 1) := by decide +kernel
theorem dX12_stands_40 : decode cX12_stands 40 = .ok (.getfield 112, 3) := by decide +kernel
theorem dX12_stands_43 : decode cX12_stands 43 = .ok (.iconst 3, 1) := by decide +kernel
theorem dX12_stands_44 : decode cX12_stands 44 = .ok (.iload_n 1, 1) := by decide +kernel
theorem dX12_stands_45 : decode cX12_stands 45 = .ok (.iadd, 1) := by decide +kernel
theorem dX12_stands_46 : decode cX12_stands 46 = .ok (.aload_n 0, 1) := by decide +kernel
theorem dX12_stands_47 : decode cX12_stands 47 = .ok (.getfield 112, 3) := by decide +kernel
theorem dX12_stands_50 : decode cX12_stands 50 = .ok (.iload_n 1, 1) := by decide +kernel
theorem dX12_stands_51 : decode cX12_stands 51 = .ok (.iaload, 1) := by decide +kernel
theorem dX12_stands_52 : decode cX12_stands 52 = .ok (.iastore, 1) := by decide +kernel
theorem dX12_stands_53 : decode cX12_stands 53 = .ok (.aload_n 0, 1) := by decide +kernel
theorem dX12_stands_54 : decode cX12_stands 54 = .ok (.getfield 115, 3) := by decide +kernel
theorem dX12_stands_57 : decode cX12_stands 57 = .ok (.iconst 3, 1) := by decide +kernel
theorem dX12_stands_58 : decode cX12_stands 58 = .ok (.iload_n 1, 1) := by decide +kernel
theorem dX12_stands_59 : decode cX12_stands 59 = .ok (.iadd, 1) := by decide +kernel
theorem dX12_stands_60 : decode cX12_stands 60 = .ok (.aload_n 0, 1) := by decide +kernel
theorem dX12_stands_61 : decode cX12_stands 61 = .ok (.getfield 115, 3) := by decide +kernel
theorem dX12_stands_64 : decode cX12_stands 64 = .ok (.iload_n 1, 1) := by decide +kernel
theorem dX12_stands_65 : decode cX12_stands 65 = .ok (.iaload, 1) := by decide +kernel
theorem dX12_stands_66 : decode cX12_stands 66 = .ok (.iastore, 1) := by decide +kernel
theorem dX12_stands_67 : decode cX12_stands 67 = .ok (.iinc 1 1, 3) := by decide +kernel
theorem dX12_stands_70 : decode cX12_stands 70 = .ok (.goto (-36), 3) := by decide +kernel
theorem dX12_stands_73 : decode cX12_stands 73 = .ok (.iconst 0, 1) := by decide +kernel
theorem dX12_stands_74 : decode cX12_stands 74 = .ok (.istore_n 1, 1) := by decide +kernel
theorem dX12_stands_75 : decode cX12_stands 75 = .ok (.iload_n 1, 1) := by decide +kernel
theorem dX12_stands_76 : decode cX12_stands 76 = .ok (.bipush 8, 2) := by decide +kernel
theorem dX12_stands_78 : decode cX12_stands 78 = .ok (.if_icmp .ge 24, 3) := by decide +kernel
theorem dX12_stands_81 : decode cX12_stands 81 = .ok (.aload_n 0, 1) := by decide +kernel
theorem dX12_stands_82 : decode cX12_stands 82 = .ok (.getfield 105, 3) := by decide +kernel
theorem dX12_stands_85 : decode cX12_stands 85 = .ok (.bipush 8, 2) := by decide +kernel
theorem dX12_stands_87 : decode cX12_stands 87 = .ok (.iload_n 1, 1) := by decide +kernel
theorem dX12_stands_88 : decode cX12_stands 88 = .ok (.iadd, 1) := by decide +kernel
theorem dX12_stands_89 : decode cX12_stands 89 = .ok (.aload_n 0, 1) := by decide +kernel
theorem dX12_stands_90 : decode cX12_stands 90 = .ok (.getfield 105, 3) := by decide +kernel
theorem dX12_stands_93 : decode cX12_stands 93 = .ok (.iload_n 1, 1) := by decide +kernel
theorem dX12_stands_94 : decode cX12_stands 94 = .ok (.laload, 1) := by decide +kernel
theorem dX12_stands_95 : decode cX12_stands 95 = .ok (.lastore, 1) := by decide +kernel
theorem dX12_stands_96 : decode cX12_stands 96 = .ok (.iinc 1 1, 3) := by decide +kernel
theorem dX12_stands_99 : decode cX12_stands 99 = .ok (.goto (-24), 3) := by decide +kernel
theorem dX12_stands_102 : decode cX12_stands 102 = .ok (.iconst 0, 1) := by decide +kernel
theorem dX12_stands_103 : decode cX12_stands 103 = .ok (.istore_n 1, 1) := by decide +kernel
theorem dX12_stands_104 : decode cX12_stands 104 = .ok (.iload_n 1, 1) := by decide +kernel
theorem dX12_stands_105 : decode cX12_stands 105 = .ok (.aload_n 0, 1) := by decide +kernel
theorem dX12_stands_106 : decode cX12_stands 106 = .ok (.getfield 371, 3) := by decide +kernel
theorem dX12_stands_109 : decode cX12_stands 109 = .ok (.if_icmp .ge 25, 3) := by decide +kernel
theorem dX12_stands_112 : decode cX12_stands 112 = .ok (.aload_n 0, 1) := by decide +kernel
theorem dX12_stands_113 : decode cX12_stands 113 = .ok (.getfield 118, 3) := by decide +kernel
theorem dX12_stands_116 : decode cX12_stands 116 = .ok (.sipush 1600, 3) := by decide +kernel
theorem dX12_stands_119 : decode cX12_stands 119 = .ok (.iload_n 1, 1) := by decide +kernel
theorem dX12_stands_120 : decode cX12_stands 120 = .ok (.iadd, 1) := by decide +kernel
theorem dX12_stands_121 : decode cX12_stands 121 = .ok (.aload_n 0, 1) := by decide +kernel
theorem dX12_stands_122 : decode cX12_stands 122 = .ok (.getfield 118, 3) := by decide +kernel
theorem dX12_stands_125 : decode cX12_stands 125 = .ok (.iload_n 1, 1) := by decide +kernel
theorem dX12_stands_126 : decode cX12_stands 126 = .ok (.iaload, 1) := by decide +kernel
theorem dX12_stands_127 : decode cX12_stands 127 = .ok (.iastore, 1) := by decide +kernel
theorem dX12_stands_128 : decode cX12_stands 128 = .ok (.iinc 1 1, 3) := by decide +kernel
theorem dX12_stands_131 : decode cX12_stands 131 = .ok (.goto (-27), 3) := by decide +kernel
theorem dX12_stands_134 : decode cX12_stands 134 = .ok (.iconst 0, 1) := by decide +kernel
theorem dX12_stands_135 : decode cX12_stands 135 = .ok (.istore_n 1, 1) := by decide +kernel
theorem dX12_stands_136 : decode cX12_stands 136 = .ok (.iload_n 1, 1) := by decide +kernel
theorem dX12_stands_137 : decode cX12_stands 137 = .ok (.sipush 906, 3) := by decide +kernel
theorem dX12_stands_140 : decode cX12_stands 140 = .ok (.if_icmp .ge 16, 3) := by decide +kernel
theorem dX12_stands_143 : decode cX12_stands 143 = .ok (.aload_n 0, 1) := by decide +kernel
theorem dX12_stands_144 : decode cX12_stands 144 = .ok (.getfield 121, 3) := by decide +kernel
theorem dX12_stands_147 : decode cX12_stands 147 = .ok (.iload_n 1, 1) := by decide +kernel
theorem dX12_stands_148 : decode cX12_stands 148 = .ok (.iconst 0, 1) := by decide +kernel
theorem dX12_stands_149 : decode cX12_stands 149 = .ok (.iastore, 1) := by decide +kernel
theorem dX12_stands_150 : decode cX12_stands 150 = .ok (.iinc 1 1, 3) := by decide +kernel
theorem dX12_stands_153 : decode cX12_stands 153 = .ok (.goto (-17), 3) := by decide +kernel
theorem dX12_stands_156 : decode cX12_stands 156 = .ok (.iconst 0, 1) := by decide +kernel
theorem dX12_stands_157 : decode cX12_stands 157 = .ok (.istore_n 1, 1) := by decide +kernel
theorem dX12_stands_158 : decode cX12_stands 158 = .ok (.iload_n 1, 1) := by decide +kernel
theorem dX12_stands_159 : decode cX12_stands 159 = .ok (.bipush 8, 2) := by decide +kernel
theorem dX12_stands_161 : decode cX12_stands 161 = .ok (.if_icmp .ge 30, 3) := by decide +kernel
theorem dX12_stands_164 : decode cX12_stands 164 = .ok (.aload_n 0, 1) := by decide +kernel
theorem dX12_stands_165 : decode cX12_stands 165 = .ok (.getfield 121, 3) := by decide +kernel
theorem dX12_stands_168 : decode cX12_stands 168 = .ok (.iload_n 1, 1) := by decide +kernel
theorem dX12_stands_169 : decode cX12_stands 169 = .ok (.sipush 255, 3) := by decide +kernel
theorem dX12_stands_172 : decode cX12_stands 172 = .ok (.iastore, 1) := by decide +kernel
theorem dX12_stands_173 : decode cX12_stands 173 = .ok (.aload_n 0, 1) := by decide +kernel
theorem dX12_stands_174 : decode cX12_stands 174 = .ok (.getfield 121, 3) := by decide +kernel
theorem dX12_stands_177 : decode cX12_stands 177 = .ok (.bipush 8, 2) := by decide +kernel
theorem dX12_stands_179 : decode cX12_stands 179 = .ok (.iload_n 1, 1) := by decide +kernel
theorem dX12_stands_180 : decode cX12_stands 180 = .ok (.iadd, 1) := by decide +kernel
theorem dX12_stands_181 : decode cX12_stands 181 = .ok (.sipush 255, 3) := by decide +kernel
theorem dX12_stands_184 : decode cX12_stands 184 = .ok (.iastore, 1) := by decide +kernel
theorem dX12_stands_185 : decode cX12_stands 185 = .ok (.iinc 1 1, 3) := by decide +kernel
theorem dX12_stands_188 : decode cX12_stands 188 = .ok (.goto (-30), 3) := by decide +kernel
theorem dX12_stands_191 : decode cX12_stands 191 = .ok (.iconst 0, 1) := by decide +kernel
theorem dX12_stands_192 : decode cX12_stands 192 = .ok (.istore_n 1, 1) := by decide +kernel
theorem dX12_stands_193 : decode cX12_stands 193 = .ok (.iload_n 1, 1) := by decide +kernel
theorem dX12_stands_194 : decode cX12_stands 194 = .ok (.aload_n 0, 1) := by decide +kernel
theorem dX12_stands_195 : decode cX12_stands 195 = .ok (.getfield 102, 3) := by decide +kernel
theorem dX12_stands_198 : decode cX12_stands 198 = .ok (.iconst 3, 1) := by decide +kernel
theorem dX12_stands_199 : decode cX12_stands 199 = .ok (.iaload, 1) := by decide +kernel
theorem dX12_stands_200 : decode cX12_stands 200 = .ok (.if_icmp .ge 51, 3) := by decide +kernel
theorem dX12_stands_203 : decode cX12_stands 203 = .ok (.aload_n 0, 1) := by decide +kernel
theorem dX12_stands_204 : decode cX12_stands 204 = .ok (.aload_n 0, 1) := by decide +kernel
theorem dX12_stands_205 : decode cX12_stands 205 = .ok (.getfield 109, 3) := by decide +kernel
theorem dX12_stands_208 : decode cX12_stands 208 = .ok (.iconst 4, 1) := by decide +kernel
theorem dX12_stands_209 : decode cX12_stands 209 = .ok (.iload_n 1, 1) := by decide +kernel
theorem dX12_stands_210 : decode cX12_stands 210 = .ok (.imul, 1) := by decide +kernel
theorem dX12_stands_211 : decode cX12_stands 211 = .ok (.iaload, 1) := by decide +kernel
theorem dX12_stands_212 : decode cX12_stands 212 = .ok (.aload_n 0, 1) := by decide +kernel
theorem dX12_stands_213 : decode cX12_stands 213 = .ok (.getfield 109, 3) := by decide +kernel
theorem dX12_stands_216 : decode cX12_stands 216 = .ok (.iconst 4, 1) := by decide +kernel
theorem dX12_stands_217 : decode cX12_stands 217 = .ok (.iload_n 1, 1) := by decide +kernel
theorem dX12_stands_218 : decode cX12_stands 218 = .ok (.imul, 1) := by decide +kernel
theorem dX12_stands_219 : decode cX12_stands 219 = .ok (.iconst 1, 1) := by decide +kernel
theorem dX12_stands_220 : decode cX12_stands 220 = .ok (.iadd, 1) := by decide +kernel
theorem dX12_stands_221 : decode cX12_stands 221 = .ok (.iaload, 1) := by decide +kernel
theorem dX12_stands_222 : decode cX12_stands 222 = .ok (.aload_n 0, 1) := by decide +kernel
theorem dX12_stands_223 : decode cX12_stands 223 = .ok (.getfield 109, 3) := by decide +kernel
theorem dX12_stands_226 : decode cX12_stands 226 = .ok (.iconst 4, 1) := by decide +kernel
theorem dX12_stands_227 : decode cX12_stands 227 = .ok (.iload_n 1, 1) := by decide +kernel
theorem dX12_stands_228 : decode cX12_stands 228 = .ok (.imul, 1) := by decide +kernel
theorem dX12_stands_229 : decode cX12_stands 229 = .ok (.iconst 2, 1) := by decide +kernel
theorem dX12_stands_230 : decode cX12_stands 230 = .ok (.iadd, 1) := by decide +kernel
theorem dX12_stands_231 : decode cX12_stands 231 = .ok (.iaload, 1) := by decide +kernel
theorem dX12_stands_232 : decode cX12_stands 232 = .ok (.aload_n 0, 1) := by decide +kernel
theorem dX12_stands_233 : decode cX12_stands 233 = .ok (.getfield 109, 3) := by decide +kernel
theorem dX12_stands_236 : decode cX12_stands 236 = .ok (.iconst 4, 1) := by decide +kernel
theorem dX12_stands_237 : decode cX12_stands 237 = .ok (.iload_n 1, 1) := by decide +kernel
theorem dX12_stands_238 : decode cX12_stands 238 = .ok (.imul, 1) := by decide +kernel
theorem dX12_stands_239 : decode cX12_stands 239 = .ok (.iconst 3, 1) := by decide +kernel
theorem dX12_stands_240 : decode cX12_stands 240 = .ok (.iadd, 1) := by decide +kernel
theorem dX12_stands_241 : decode cX12_stands 241 = .ok (.iaload, 1) := by decide +kernel
theorem dX12_stands_242 : decode cX12_stands 242 = .ok (.invokevirtual 410, 3) := by decide +kernel
theorem dX12_stands_245 : decode cX12_stands 245 = .ok (.iinc 1 1, 3) := by decide +kernel
theorem dX12_stands_248 : decode cX12_stands 248 = .ok (.goto (-55), 3) := by decide +kernel
theorem dX12_stands_251 : decode cX12_stands 251 = .ok (.aload_n 0, 1) := by decide +kernel
theorem dX12_stands_252 : decode cX12_stands 252 = .ok (.invokevirtual 413, 3) := by decide +kernel
theorem dX12_stands_255 : decode cX12_stands 255 = .ok (.aload_n 0, 1) := by decide +kernel
theorem dX12_stands_256 : decode cX12_stands 256 = .ok (.getfield 121, 3) := by decide +kernel
theorem dX12_stands_259 : decode cX12_stands 259 = .ok (.bipush 16, 2) := by decide +kernel
theorem dX12_stands_261 : decode cX12_stands 261 = .ok (.iconst 0, 1) := by decide +kernel
theorem dX12_stands_262 : decode cX12_stands 262 = .ok (.iastore, 1) := by decide +kernel
theorem dX12_stands_263 : decode cX12_stands 263 = .ok (.aload_n 0, 1) := by decide +kernel
theorem dX12_stands_264 : decode cX12_stands 264 = .ok (.iconst 0, 1) := by decide +kernel
theorem dX12_stands_265 : decode cX12_stands 265 = .ok (.putfield 416, 3) := by decide +kernel
theorem dX12_stands_268 : decode cX12_stands 268 = .ok (.aload_n 0, 1) := by decide +kernel
theorem dX12_stands_269 : decode cX12_stands 269 = .ok (.iconst 0, 1) := by decide +kernel
theorem dX12_stands_270 : decode cX12_stands 270 = .ok (.putfield 419, 3) := by decide +kernel
theorem dX12_stands_273 : decode cX12_stands 273 = .ok (.return_, 1) := by decide +kernel
theorem dX12_store_0 : decode cX12_store 0 = .ok (.aload_n 0, 1) := by decide +kernel
theorem dX12_store_1 : decode cX12_store 1 = .ok (.aload_n 0, 1) := by decide +kernel
theorem dX12_store_2 : decode cX12_store 2 = .ok (.getfield 263, 3) := by decide +kernel
theorem dX12_store_5 : decode cX12_store 5 = .ok (.putfield 275, 3) := by decide +kernel
theorem dX12_store_8 : decode cX12_store 8 = .ok (.aload_n 0, 1) := by decide +kernel
theorem dX12_store_9 : decode cX12_store 9 = .ok (.iconst 0, 1) := by decide +kernel
theorem dX12_store_10 : decode cX12_store 10 = .ok (.putfield 263, 3) := by decide +kernel
theorem dX12_store_13 : decode cX12_store 13 = .ok (.aload_n 0, 1) := by decide +kernel
theorem dX12_store_14 : decode cX12_store 14 = .ok (.iconst 0, 1) := by decide +kernel
theorem dX12_store_15 : decode cX12_store 15 = .ok (.putfield 272, 3) := by decide +kernel
theorem dX12_store_18 : decode cX12_store 18 = .ok (.aload_n 0, 1) := by decide +kernel
theorem dX12_store_19 : decode cX12_store 19 = .ok (.iconst (-1), 1) := by decide +kernel
theorem dX12_store_20 : decode cX12_store 20 = .ok (.putfield 286, 3) := by decide +kernel
theorem dX12_store_23 : decode cX12_store 23 = .ok (.aload_n 0, 1) := by decide +kernel
theorem dX12_store_24 : decode cX12_store 24 = .ok (.iconst 0, 1) := by decide +kernel
theorem dX12_store_25 : decode cX12_store 25 = .ok (.putfield 266, 3) := by decide +kernel
theorem dX12_store_28 : decode cX12_store 28 = .ok (.aload_n 0, 1) := by decide +kernel
theorem dX12_store_29 : decode cX12_store 29 = .ok (.iconst (-1), 1) := by decide +kernel
theorem dX12_store_30 : decode cX12_store 30 = .ok (.putfield 269, 3) := by decide +kernel
theorem dX12_store_33 : decode cX12_store 33 = .ok (.aload_n 0, 1) := by decide +kernel
theorem dX12_store_34 : decode cX12_store 34 = .ok (.iconst 0, 1) := by decide +kernel
theorem dX12_store_35 : decode cX12_store 35 = .ok (.putfield 371, 3) := by decide +kernel
theorem dX12_store_38 : decode cX12_store 38 = .ok (.iconst 0, 1) := by decide +kernel
theorem dX12_store_39 : decode cX12_store 39 = .ok (.istore_n 1, 1) := by decide +kernel
theorem dX12_store_40 : decode cX12_store 40 = .ok (.iload_n 1, 1) := by decide +kernel
theorem dX12_store_41 : decode cX12_store 41 = .ok (.iconst 5, 1) := by decide +kernel
theorem dX12_store_42 : decode cX12_store 42 = .ok (.if_icmp .ge 16, 3) := by decide +kernel
theorem dX12_store_45 : decode cX12_store 45 = .ok (.aload_n 0, 1) := by decide +kernel
theorem dX12_store_46 : decode cX12_store 46 = .ok (.getfield 102, 3) := by decide +kernel
theorem dX12_store_49 : decode cX12_store 49 = .ok (.iload_n 1, 1) := by decide +kernel
theorem dX12_store_50 : decode cX12_store 50 = .ok (.iconst 0, 1) := by decide +kernel
theorem dX12_store_51 : decode cX12_store 51 = .ok (.iastore, 1) := by decide +kernel
theorem dX12_store_52 : decode cX12_store 52 = .ok (.iinc 1 1, 3) := by decide +kernel
theorem dX12_store_55 : decode cX12_store 55 = .ok (.goto (-15), 3) := by decide +kernel
theorem dX12_store_58 : decode cX12_store 58 = .ok (.iconst 0, 1) := by decide +kernel
theorem dX12_store_59 : decode cX12_store 59 = .ok (.istore_n 1, 1) := by decide +kernel
theorem dX12_store_60 : decode cX12_store 60 = .ok (.iload_n 1, 1) := by decide +kernel
theorem dX12_store_61 : decode cX12_store 61 = .ok (.iconst 3, 1) := by decide +kernel
theorem dX12_store_62 : decode cX12_store 62 = .ok (.if_icmp .ge 16, 3) := by decide +kernel
theorem dX12_store_65 : decode cX12_store 65 = .ok (.aload_n 0, 1) := by decide +kernel
theorem dX12_store_66 : decode cX12_store 66 = .ok (.getfield 112, 3) := by decide +kernel
theorem dX12_store_69 : decode cX12_store 69 = .ok (.iload_n 1, 1) := by decide +kernel
theorem dX12_store_70 : decode cX12_store 70 = .ok (.iconst (-1), 1) := by decide +kernel
theorem dX12_store_71 : decode cX12_store 71 = .ok (.iastore, 1) := by decide +kernel
theorem dX12_store_72 : decode cX12_store 72 = .ok (.iinc 1 1, 3) := by decide +kernel
theorem dX12_store_75 : decode cX12_store 75 = .ok (.goto (-15), 3) := by decide +kernel
theorem dX12_store_78 : decode cX12_store 78 = .ok (.aload_n 0, 1) := by decide +kernel
theorem dX12_store_79 : decode cX12_store 79 = .ok (.invokevirtual 390, 3) := by decide +kernel
theorem dX12_store_82 : decode cX12_store 82 = .ok (.aload_n 0, 1) := by decide +kernel
theorem dX12_store_83 : decode cX12_store 83 = .ok (.iconst 1, 1) := by decide +kernel
theorem dX12_store_84 : decode cX12_store 84 = .ok (.putfield 374, 3) := by decide +kernel
theorem dX12_store_87 : decode cX12_store 87 = .ok (.aload_n 0, 1) := by decide +kernel
theorem dX12_store_88 : decode cX12_store 88 = .ok (.getfield 266, 3) := by decide +kernel
theorem dX12_store_91 : decode cX12_store 91 = .ok (.ifCond .ne 18, 3) := by decide +kernel
theorem dX12_store_94 : decode cX12_store 94 = .ok (.aload_n 0, 1) := by decide +kernel
theorem dX12_store_95 : decode cX12_store 95 = .ok (.invokevirtual 278, 3) := by decide +kernel
theorem dX12_store_98 : decode cX12_store 98 = .ok (.iconst (-1), 1) := by decide +kernel
theorem dX12_store_99 : decode cX12_store 99 = .ok (.if_icmp .eq 10, 3) := by decide +kernel
theorem dX12_store_102 : decode cX12_store 102 = .ok (.aload_n 0, 1) := by decide +kernel
theorem dX12_store_103 : decode cX12_store 103 = .ok (.invokevirtual 393, 3) := by decide +kernel
theorem dX12_store_106 : decode cX12_store 106 = .ok (.goto (-19), 3) := by decide +kernel
theorem dX12_store_109 : decode cX12_store 109 = .ok (.aload_n 0, 1) := by decide +kernel
theorem dX12_store_110 : decode cX12_store 110 = .ok (.aload_n 0, 1) := by decide +kernel
theorem dX12_store_111 : decode cX12_store 111 = .ok (.getfield 266, 3) := by decide +kernel
theorem dX12_store_114 : decode cX12_store 114 = .ok (.putfield 396, 3) := by decide +kernel
theorem dX12_store_117 : decode cX12_store 117 = .ok (.aload_n 0, 1) := by decide +kernel
theorem dX12_store_118 : decode cX12_store 118 = .ok (.aload_n 0, 1) := by decide +kernel
theorem dX12_store_119 : decode cX12_store 119 = .ok (.getfield 269, 3) := by decide +kernel
theorem dX12_store_122 : decode cX12_store 122 = .ok (.putfield 13, 3) := by decide +kernel
theorem dX12_store_125 : decode cX12_store 125 = .ok (.aload_n 0, 1) := by decide +kernel
theorem dX12_store_126 : decode cX12_store 126 = .ok (.getfield 266, 3) := by decide +kernel
theorem dX12_store_129 : decode cX12_store 129 = .ok (.ifCond .eq 9, 3) := by decide +kernel
theorem dX12_store_132 : decode cX12_store 132 = .ok (.aload_n 0, 1) := by decide +kernel
theorem dX12_store_133 : decode cX12_store 133 = .ok (.iconst 1, 1) := by decide +kernel
theorem dX12_store_134 : decode cX12_store 134 = .ok (.invokevirtual 399, 3) := by decide +kernel
theorem dX12_store_137 : decode cX12_store 137 = .ok (.ireturn, 1) := by decide +kernel
theorem dX12_store_138 : decode cX12_store 138 = .ok (.aload_n 0, 1) := by decide +kernel
theorem dX12_store_139 : decode cX12_store 139 = .ok (.invokevirtual 403, 3) := by decide +kernel
theorem dX12_store_142 : decode cX12_store 142 = .ok (.aload_n 0, 1) := by decide +kernel
theorem dX12_store_143 : decode cX12_store 143 = .ok (.getfield 374, 3) := by decide +kernel
theorem dX12_store_146 : decode cX12_store 146 = .ok (.ireturn, 1) := by decide +kernel
theorem dX12_writtenCost_0 : decode cX12_writtenCost 0 = .ok (.iconst 0, 1) := by decide +kernel
theorem dX12_writtenCost_1 : decode cX12_writtenCost 1 = .ok (.istore_n 1, 1) := by decide +kernel
theorem dX12_writtenCost_2 : decode cX12_writtenCost 2 = .ok (.iconst 0, 1) := by decide +kernel
theorem dX12_writtenCost_3 : decode cX12_writtenCost 3 = .ok (.istore_n 2, 1) := by decide +kernel
theorem dX12_writtenCost_4 : decode cX12_writtenCost 4 = .ok (.iload_n 2, 1) := by decide +kernel
theorem dX12_writtenCost_5 : decode cX12_writtenCost 5 = .ok (.aload_n 0, 1) := by decide +kernel
theorem dX12_writtenCost_6 : decode cX12_writtenCost 6 = .ok (.invokevirtual 429, 3) := by decide +kernel
theorem dX12_writtenCost_9 : decode cX12_writtenCost 9 = .ok (.if_icmp .ge 34, 3) := by decide +kernel
theorem dX12_writtenCost_12 : decode cX12_writtenCost 12 = .ok (.aload_n 0, 1) := by decide +kernel
theorem dX12_writtenCost_13 : decode cX12_writtenCost 13 = .ok (.getfield 124, 3) := by decide +kernel
theorem dX12_writtenCost_16 : decode cX12_writtenCost 16 = .ok (.iload_n 2, 1) := by decide +kernel
theorem dX12_writtenCost_17 : decode cX12_writtenCost 17 = .ok (.baload, 1) := by decide +kernel
theorem dX12_writtenCost_18 : decode cX12_writtenCost 18 = .ok (.ifCond .eq 19, 3) := by decide +kernel
theorem dX12_writtenCost_21 : decode cX12_writtenCost 21 = .ok (.aload_n 0, 1) := by decide +kernel
theorem dX12_writtenCost_22 : decode cX12_writtenCost 22 = .ok (.iload_n 2, 1) := by decide +kernel
theorem dX12_writtenCost_23 : decode cX12_writtenCost 23 = .ok (.invokevirtual 435, 3) := by decide +kernel
theorem dX12_writtenCost_26 : decode cX12_writtenCost 26 = .ok (.ifCond .eq 11, 3) := by decide +kernel
theorem dX12_writtenCost_29 : decode cX12_writtenCost 29 = .ok (.iload_n 1, 1) := by decide +kernel
theorem dX12_writtenCost_30 : decode cX12_writtenCost 30 = .ok (.aload_n 0, 1) := by decide +kernel
theorem dX12_writtenCost_31 : decode cX12_writtenCost 31 = .ok (.iload_n 2, 1) := by decide +kernel
theorem dX12_writtenCost_32 : decode cX12_writtenCost 32 = .ok (.invokevirtual 483, 3) := by decide +kernel
theorem dX12_writtenCost_35 : decode cX12_writtenCost 35 = .ok (.iadd, 1) := by decide +kernel
theorem dX12_writtenCost_36 : decode cX12_writtenCost 36 = .ok (.istore_n 1, 1) := by decide +kernel
theorem dX12_writtenCost_37 : decode cX12_writtenCost 37 = .ok (.iinc 2 1, 3) := by decide +kernel
theorem dX12_writtenCost_40 : decode cX12_writtenCost 40 = .ok (.goto (-36), 3) := by decide +kernel
theorem dX12_writtenCost_43 : decode cX12_writtenCost 43 = .ok (.iload_n 1, 1) := by decide +kernel
theorem dX12_writtenCost_44 : decode cX12_writtenCost 44 = .ok (.ireturn, 1) := by decide +kernel
theorem dX12_writtenMany_0 : decode cX12_writtenMany 0 = .ok (.iconst 0, 1) := by decide +kernel
theorem dX12_writtenMany_1 : decode cX12_writtenMany 1 = .ok (.istore_n 1, 1) := by decide +kernel
theorem dX12_writtenMany_2 : decode cX12_writtenMany 2 = .ok (.iconst 0, 1) := by decide +kernel
theorem dX12_writtenMany_3 : decode cX12_writtenMany 3 = .ok (.istore_n 2, 1) := by decide +kernel
theorem dX12_writtenMany_4 : decode cX12_writtenMany 4 = .ok (.iload_n 2, 1) := by decide +kernel
theorem dX12_writtenMany_5 : decode cX12_writtenMany 5 = .ok (.aload_n 0, 1) := by decide +kernel
theorem dX12_writtenMany_6 : decode cX12_writtenMany 6 = .ok (.invokevirtual 429, 3) := by decide +kernel
theorem dX12_writtenMany_9 : decode cX12_writtenMany 9 = .ok (.if_icmp .ge 29, 3) := by decide +kernel
theorem dX12_writtenMany_12 : decode cX12_writtenMany 12 = .ok (.aload_n 0, 1) := by decide +kernel
theorem dX12_writtenMany_13 : decode cX12_writtenMany 13 = .ok (.getfield 124, 3) := by decide +kernel
theorem dX12_writtenMany_16 : decode cX12_writtenMany 16 = .ok (.iload_n 2, 1) := by decide +kernel
theorem dX12_writtenMany_17 : decode cX12_writtenMany 17 = .ok (.baload, 1) := by decide +kernel
theorem dX12_writtenMany_18 : decode cX12_writtenMany 18 = .ok (.ifCond .eq 14, 3) := by decide +kernel
theorem dX12_writtenMany_21 : decode cX12_writtenMany 21 = .ok (.aload_n 0, 1) := by decide +kernel
theorem dX12_writtenMany_22 : decode cX12_writtenMany 22 = .ok (.iload_n 2, 1) := by decide +kernel
theorem dX12_writtenMany_23 : decode cX12_writtenMany 23 = .ok (.invokevirtual 435, 3) := by decide +kernel
theorem dX12_writtenMany_26 : decode cX12_writtenMany 26 = .ok (.ifCond .eq 6, 3) := by decide +kernel
theorem dX12_writtenMany_29 : decode cX12_writtenMany 29 = .ok (.iinc 1 1, 3) := by decide +kernel
theorem dX12_writtenMany_32 : decode cX12_writtenMany 32 = .ok (.iinc 2 1, 3) := by decide +kernel
theorem dX12_writtenMany_35 : decode cX12_writtenMany 35 = .ok (.goto (-31), 3) := by decide +kernel
theorem dX12_writtenMany_38 : decode cX12_writtenMany 38 = .ok (.iload_n 1, 1) := by decide +kernel
theorem dX12_writtenMany_39 : decode cX12_writtenMany 39 = .ok (.ireturn, 1) := by decide +kernel
def m_x12_copies_J35 (s1 : MS) : Option MS :=
  some s1
def m_x12_copies (p0 : Int32) (p1 : Int32) (s : MS) : Option MS :=
  rdI (gA s 49) 906 p0 (fun y2 => inb 906 p1 (stn (sA s 49 (upd (gA s 49) (Int32.toNatClampNeg p1) y2)) (fun s4 => rdI (gA s4 49) 906 p1 (fun y5 => if y5 = 254 then m_x12_copies_J35 s4 else rdI (gA s4 49) 906 p1 (fun y7 => bn (m_x12_counts y7 1 s4) (fun s9 => m_x12_copies_J35 s9))))))
set_option maxHeartbeats 4000000 in
set_option maxRecDepth 100000 in
theorem k_x12_copies (l : Launch) (D : va_G) (a : Nat → Nat) (p0 : Int32) (p1 : Int32) (sz : Nat) (s : MS) (o : MS) (h : m_x12_copies p0 p1 s = some o) : yWv l yX12_copies cX12_copies 3 none { frames := 1, cells := 0, slots := 0, locals := 60 } D sz [.ref (a 200), .int p0, .int p1] (RW D a s) (RW D a o) := by
  refine Met.ofW (cc := cX12_copies) (maxL := 3) (ret := none) (by decide) rfl ?_
  intro p e s₀ m args below meth c s₁ B hml hv
  obtain ⟨rfl, ⟨hsz, hP, hK, hD0⟩, hN⟩ := hv
  have hx := B.exec
  have hb := B.bytes
  have hr := B.returns
  have hts := atoms_spec (ws := wz yX12_copies cX12_copies 3 none) B.pre
  have ht : ∀ w ∈ lw_gd, w.before _ s₀ = true := fun w h => hts w (List.mem_cons_of_mem _ h)
  have hown : s₀.vm.findClass RX12 = some m.cls := findClass_of_methodNamed B.named
  have hlocks := B.notSynchronized
  subst hsz
  have hD := hD0.self (sz := s₀.heap.size)
  generalize hAe : va_A (RW D a s) s₀.heap.size = A at hD ⊢
  have hA : ∀ q : Nat, s₀.heap.size ≤ q → A q := fun q h => by rw [← hAe]; exact Or.inr h
  have hS : va_S A s₀.heap s₀.heap [] := va_S.rf
  have hDD : ∀ t : MS, va_D A (RW D a t) := fun t => RW_D t hD
  have hl := lv_entry ([.ref (a 200), .int p0, .int p1]) (n := 3) (Nat.le_of_ble_eq_true rfl)
  rw [lg_entry_eq]
  generalize (lg_sl ([.ref (a 200), .int p0, .int p1]) ++ List.replicate (3 - (lg_sl ([.ref (a 200), .int p0, .int p1])).length) Slot.unset).toArray = ls at hl ⊢
  have hl : lv_has ls 3 [(0, .ref (a 200)), (1, .int p0), (2, .int p1)] := hl
  unfold m_x12_copies at h
  refine y_head (pcJ := 35) (σ := MS) (fun u H locs ls => va_P D vwCl (RW D a u) H ∧ va_S A s₀.heap H locs ∧ lv_has ls 3 [] ∧ m_x12_copies_J35 u = some o) (fun u => []) (fun u H locs ls hI => ?_) (fun J35 => ?_)
  · obtain ⟨hP, hS, hl, h⟩ := hI
    obtain ⟨s1, rfl⟩ : ∃ z, z = u := ⟨u, rfl⟩
    have hP : va_P D vwCl (RW D a s1) H := hP
    have hl : lv_has ls 3 [] := hl
    have h : m_x12_copies_J35 s1 = some o := h
    unfold m_x12_copies_J35 at h
    obtain rfl := Option.some.inj h
    exact W.vret hx hb hr (fun t ht hW => ⟨⟨(), rfl, trivial, by rw [ht]; exact hP, va_K.moved hW.alike hK, hDD _⟩, hS.F ht⟩) hS.2.2 dX12_copies_35
  refine lv_aload_n hx hb dX12_copies_0 rfl (lv_at hl 0 rfl) ?_
  refine va_get (D := D) (ci := 12) (v := .ref (a 49)) (C := RX12) (T := TX12) (N := 116) hx hb ht inX12 hown hK hP 0 RW_0 rfl 49 (by decide) (ht (.fieldLink RX12 121 "CloneVolumesModel" "now" "[I") fl_X12_121) (fun _ h9 => h9) mF_49 dX12_copies_1 ?_
  refine lv_iload_n hx hb dX12_copies_4 rfl (lv_at hl 2 rfl) ?_
  refine lv_aload_n hx hb dX12_copies_5 rfl (lv_at hl 0 rfl) ?_
  refine va_get (D := D) (ci := 12) (v := .ref (a 49)) (C := RX12) (T := TX12) (N := 116) hx hb ht inX12 hown hK hP 0 RW_0 rfl 49 (by decide) (ht (.fieldLink RX12 121 "CloneVolumesModel" "now" "[I") fl_X12_121) (fun _ h9 => h9) mF_49 dX12_copies_6 ?_
  refine lv_iload_n hx hb dX12_copies_9 rfl (lv_at hl 1 rfl) ?_
  obtain ⟨y2, ey2, iy2, h⟩ := rdI_e h
  refine ya_iald hx hb hK hP 36 0 RW_36 rfl ey2 iy2 dX12_copies_10 ?_
  obtain ⟨hi3, h⟩ := inb_e h
  refine ya_iast hx hb hK hP (hDD _) hS 36 0 RW_36 rfl hi3 dX12_copies_11 (RW_w36 _) (fun H locs hP hS => ?_)
  obtain ⟨s4, hs4, h⟩ := st_e h
  rw [hs4] at hP
  refine lv_aload_n hx hb dX12_copies_12 rfl (lv_at hl 0 rfl) ?_
  refine va_get (D := D) (ci := 12) (v := .ref (a 49)) (C := RX12) (T := TX12) (N := 116) hx hb ht inX12 hown hK hP 0 RW_0 rfl 49 (by decide) (ht (.fieldLink RX12 121 "CloneVolumesModel" "now" "[I") fl_X12_121) (fun _ h9 => h9) mF_49 dX12_copies_13 ?_
  refine lv_iload_n hx hb dX12_copies_16 rfl (lv_at hl 2 rfl) ?_
  obtain ⟨y5, ey5, iy5, h⟩ := rdI_e h
  refine ya_iald hx hb hK hP 36 0 RW_36 rfl ey5 iy5 dX12_copies_17 ?_
  refine lv_sipush (v := 254) hx hb dX12_copies_18 (by decide) ?_
  refine lv_icmp_eq (tgt := 35) hx hb dX12_copies_21 (by decide) (fun c6 => ?_) (fun c6 => ?_)
  · have h := if_t c6 h
    exact J35 s4 _ _ _ ⟨hP, hS, lv_sub hl [] rfl, h⟩
  · have h := if_f c6 h
    refine lv_aload_n hx hb dX12_copies_24 rfl (lv_at hl 0 rfl) ?_
    refine lv_aload_n hx hb dX12_copies_25 rfl (lv_at hl 0 rfl) ?_
    refine va_get (D := D) (ci := 12) (v := .ref (a 49)) (C := RX12) (T := TX12) (N := 116) hx hb ht inX12 hown hK hP 0 RW_0 rfl 49 (by decide) (ht (.fieldLink RX12 121 "CloneVolumesModel" "now" "[I") fl_X12_121) (fun _ h9 => h9) mF_49 dX12_copies_26 ?_
    refine lv_iload_n hx hb dX12_copies_29 rfl (lv_at hl 2 rfl) ?_
    obtain ⟨y7, ey7, iy7, h⟩ := rdI_e h
    refine ya_iald hx hb hK hP 36 0 RW_36 rfl ey7 iy7 dX12_copies_30 ?_
    refine lv_iconst (v := 1) hx hb dX12_copies_31 (by decide) ?_
    obtain ⟨s9, hc8, h⟩ := bn_e h
    refine ywVv (As := [.int y7, .int 1]) (rest := []) (C := RX12) (n := 2) (ws' := RW D a s9) ⟨hx, hb, hml, hown, ht⟩ (k_x12_counts l D a y7 1 _ _ _ hc8) (zgV ml_X12_502 im_X12_counts se_X12_counts in_X12 co_X12_counts) rfl rfl (by decide +kernel) ⟨Nat.le_of_ble_eq_true rfl, Nat.le_of_ble_eq_true rfl⟩ hN hK hP (hDD _) hS hA 0 RW_0 rfl rfl rfl hl.1 rfl (Nat.le_of_ble_eq_true rfl) dX12_copies_32 ⟨Nat.le_of_ble_eq_true rfl, Nat.le_of_ble_eq_true rfl⟩ (fun H locs hP hS => ?_)
    exact J35 s9 _ _ _ ⟨hP, hS, lv_sub hl [] rfl, h⟩
def m_x12_actGoes_J40 (s1 : MS) : Option MS :=
  some s1
def m_x12_actGoes (p0 : Int32) (p1 : Int32) (p2 : Int32) (p3 : Int32) (s : MS) : Option MS :=
  if p0 = 0 then inb 906 p1 (stn (sA s 49 (upd (gA s 49) (Int32.toNatClampNeg p1) 254)) (fun s10 => m_x12_actGoes_J40 s10)) else if p0 = 1 then bn (m_x12_copies p1 p2 s) (fun s8 => m_x12_actGoes_J40 s8) else bn (m_x12_tries p0 p1 p2 p3 s) (fun qr6 => m_x12_actGoes_J40 qr6.2)
set_option maxHeartbeats 4000000 in
set_option maxRecDepth 100000 in
theorem k_x12_actGoes (l : Launch) (D : va_G) (a : Nat → Nat) (p0 : Int32) (p1 : Int32) (p2 : Int32) (p3 : Int32) (sz : Nat) (s : MS) (o : MS) (h : m_x12_actGoes p0 p1 p2 p3 s = some o) : yWv l yX12_actGoes cX12_actGoes 5 none { frames := 10, cells := 0, slots := 0, locals := 600 } D sz [.ref (a 200), .int p0, .int p1, .int p2, .int p3] (RW D a s) (RW D a o) := by
  refine Met.ofW (cc := cX12_actGoes) (maxL := 5) (ret := none) (by decide) rfl ?_
  intro p e s₀ m args below meth c s₁ B hml hv
  obtain ⟨rfl, ⟨hsz, hP, hK, hD0⟩, hN⟩ := hv
  have hx := B.exec
  have hb := B.bytes
  have hr := B.returns
  have hts := atoms_spec (ws := wz yX12_actGoes cX12_actGoes 5 none) B.pre
  have ht : ∀ w ∈ lw_gd, w.before _ s₀ = true := fun w h => hts w (List.mem_cons_of_mem _ h)
  have hown : s₀.vm.findClass RX12 = some m.cls := findClass_of_methodNamed B.named
  have hlocks := B.notSynchronized
  subst hsz
  have hD := hD0.self (sz := s₀.heap.size)
  generalize hAe : va_A (RW D a s) s₀.heap.size = A at hD ⊢
  have hA : ∀ q : Nat, s₀.heap.size ≤ q → A q := fun q h => by rw [← hAe]; exact Or.inr h
  have hS : va_S A s₀.heap s₀.heap [] := va_S.rf
  have hDD : ∀ t : MS, va_D A (RW D a t) := fun t => RW_D t hD
  have hl := lv_entry ([.ref (a 200), .int p0, .int p1, .int p2, .int p3]) (n := 5) (Nat.le_of_ble_eq_true rfl)
  rw [lg_entry_eq]
  generalize (lg_sl ([.ref (a 200), .int p0, .int p1, .int p2, .int p3]) ++ List.replicate (5 - (lg_sl ([.ref (a 200), .int p0, .int p1, .int p2, .int p3])).length) Slot.unset).toArray = ls at hl ⊢
  have hl : lv_has ls 5 [(0, .ref (a 200)), (1, .int p0), (2, .int p1), (3, .int p2), (4, .int p3)] := hl
  unfold m_x12_actGoes at h
  refine y_head (pcJ := 40) (σ := MS) (fun u H locs ls => va_P D vwCl (RW D a u) H ∧ va_S A s₀.heap H locs ∧ lv_has ls 5 [] ∧ m_x12_actGoes_J40 u = some o) (fun u => []) (fun u H locs ls hI => ?_) (fun J40 => ?_)
  · obtain ⟨hP, hS, hl, h⟩ := hI
    obtain ⟨s1, rfl⟩ : ∃ z, z = u := ⟨u, rfl⟩
    have hP : va_P D vwCl (RW D a s1) H := hP
    have hl : lv_has ls 5 [] := hl
    have h : m_x12_actGoes_J40 s1 = some o := h
    unfold m_x12_actGoes_J40 at h
    obtain rfl := Option.some.inj h
    exact W.vret hx hb hr (fun t ht hW => ⟨⟨(), rfl, trivial, by rw [ht]; exact hP, va_K.moved hW.alike hK, hDD _⟩, hS.F ht⟩) hS.2.2 dX12_actGoes_40
  refine lv_iload_n hx hb dX12_actGoes_0 rfl (lv_at hl 1 rfl) ?_
  refine lv_if_ne (tgt := 16) hx hb dX12_actGoes_1 (by decide) (fun c2 => ?_) (fun c2 => ?_)
  · have h := if_f c2 h
    refine lv_iload_n hx hb dX12_actGoes_16 rfl (lv_at hl 1 rfl) ?_
    refine lv_iconst (v := 1) hx hb dX12_actGoes_17 (by decide) ?_
    refine lv_icmp_ne (tgt := 30) hx hb dX12_actGoes_18 (by decide) (fun c3 => ?_) (fun c3 => ?_)
    · have h := if_f c3 h
      refine lv_aload_n hx hb dX12_actGoes_30 rfl (lv_at hl 0 rfl) ?_
      refine lv_iload_n hx hb dX12_actGoes_31 rfl (lv_at hl 1 rfl) ?_
      refine lv_iload_n hx hb dX12_actGoes_32 rfl (lv_at hl 2 rfl) ?_
      refine lv_iload_n hx hb dX12_actGoes_33 rfl (lv_at hl 3 rfl) ?_
      refine lv_iload hx hb dX12_actGoes_34 (lv_at hl 4 rfl) ?_
      obtain ⟨⟨r6, s5⟩, hc4, h⟩ := bn_e h
      refine ywV (r0 := r6) (As := [.int p0, .int p1, .int p2, .int p3]) (rest := []) (C := RX12) (n := 4) (ws' := RW D a s5) ⟨hx, hb, hml, hown, ht⟩ (k_x12_tries l D a p0 p1 p2 p3 _ _ _ hc4) (zgV ml_X12_425 im_X12_tries se_X12_tries in_X12 co_X12_tries) rfl rfl (by decide +kernel) ⟨Nat.le_of_ble_eq_true rfl, Nat.le_of_ble_eq_true rfl⟩ hN hK hP (hDD _) hS hA 0 RW_0 rfl rfl rfl hl.1 rfl (Nat.le_of_ble_eq_true rfl) dX12_actGoes_36 ⟨Nat.le_of_ble_eq_true rfl, Nat.le_of_ble_eq_true rfl⟩ (fun H locs hP hS => ?_)
      refine lv_pop hx hb dX12_actGoes_39 rfl ?_
      exact J40 s5 _ _ _ ⟨hP, hS, lv_sub hl [] rfl, h⟩
    · have h := if_t c3 h
      refine lv_aload_n hx hb dX12_actGoes_21 rfl (lv_at hl 0 rfl) ?_
      refine lv_iload_n hx hb dX12_actGoes_22 rfl (lv_at hl 2 rfl) ?_
      refine lv_iload_n hx hb dX12_actGoes_23 rfl (lv_at hl 3 rfl) ?_
      obtain ⟨s8, hc7, h⟩ := bn_e h
      refine ywVv (As := [.int p1, .int p2]) (rest := []) (C := RX12) (n := 2) (ws' := RW D a s8) ⟨hx, hb, hml, hown, ht⟩ (k_x12_copies l D a p1 p2 _ _ _ hc7) (zgV ml_X12_422 im_X12_copies se_X12_copies in_X12 co_X12_copies) rfl rfl (by decide +kernel) ⟨Nat.le_of_ble_eq_true rfl, Nat.le_of_ble_eq_true rfl⟩ hN hK hP (hDD _) hS hA 0 RW_0 rfl rfl rfl hl.1 rfl (Nat.le_of_ble_eq_true rfl) dX12_actGoes_24 ⟨Nat.le_of_ble_eq_true rfl, Nat.le_of_ble_eq_true rfl⟩ (fun H locs hP hS => ?_)
      refine lv_goto (tgt := 40) hx hb dX12_actGoes_27 (by decide) ?_
      exact J40 s8 _ _ _ ⟨hP, hS, lv_sub hl [] rfl, h⟩
  · have h := if_t c2 h
    refine lv_aload_n hx hb dX12_actGoes_4 rfl (lv_at hl 0 rfl) ?_
    refine va_get (D := D) (ci := 12) (v := .ref (a 49)) (C := RX12) (T := TX12) (N := 116) hx hb ht inX12 hown hK hP 0 RW_0 rfl 49 (by decide) (ht (.fieldLink RX12 121 "CloneVolumesModel" "now" "[I") fl_X12_121) (fun _ h9 => h9) mF_49 dX12_actGoes_5 ?_
    refine lv_iload_n hx hb dX12_actGoes_8 rfl (lv_at hl 2 rfl) ?_
    refine lv_sipush (v := 254) hx hb dX12_actGoes_9 (by decide) ?_
    obtain ⟨hi9, h⟩ := inb_e h
    refine ya_iast hx hb hK hP (hDD _) hS 36 0 RW_36 rfl hi9 dX12_actGoes_12 (RW_w36 _) (fun H locs hP hS => ?_)
    obtain ⟨s10, hs10, h⟩ := st_e h
    rw [hs10] at hP
    refine lv_goto (tgt := 40) hx hb dX12_actGoes_13 (by decide) ?_
    exact J40 s10 _ _ _ ⟨hP, hS, lv_sub hl [] rfl, h⟩
def m_x12_stands_b193 (lr193 : Int32 → MS → Option MS) (x1 : Int32) (s2 : MS) : Option MS :=
  rdI (gA s2 39) 10 3 (fun y3 => if y3 ≤ x1 then bn (m_x12_checks s2) (fun s6 => inb 906 16 (stn (sA s6 49 (upd (gA s6 49) (Int32.toNatClampNeg 16) 0)) (fun s8 => stn (sI s8 76 0) (fun s9 => stn (sI s9 73 0) (fun s10 => some s10))))) else rdI (gA s2 41) 240 (4 * x1) (fun y11 => rdI (gA s2 41) 240 ((4 * x1) + 1) (fun y12 => rdI (gA s2 41) 240 ((4 * x1) + 2) (fun y13 => rdI (gA s2 41) 240 ((4 * x1) + 3) (fun y14 => bn (m_x12_actGoes y11 y12 y13 y14 s2) (fun s16 => lr193 (x1 + 1) s16))))))
def m_x12_stands_L193 (n : Nat) : Int32 → MS → Option MS := lp (fun _ _ => none) (m_x12_stands_b193) n
def m_x12_stands_b158 (lr158 : Int32 → MS → Option MS) (x17 : Int32) (s18 : MS) : Option MS :=
  if 8 ≤ x17 then m_x12_stands_L193 FU 0 s18 else inb 906 x17 (stn (sA s18 49 (upd (gA s18 49) (Int32.toNatClampNeg x17) 255)) (fun s21 => inb 906 (8 + x17) (stn (sA s21 49 (upd (gA s21 49) (Int32.toNatClampNeg (8 + x17)) 255)) (fun s23 => lr158 (x17 + 1) s23))))
def m_x12_stands_L158 (n : Nat) : Int32 → MS → Option MS := lp (fun _ _ => none) (m_x12_stands_b158) n
def m_x12_stands_b136 (lr136 : Int32 → MS → Option MS) (x24 : Int32) (s25 : MS) : Option MS :=
  if 906 ≤ x24 then m_x12_stands_L158 FU 0 s25 else inb 906 x24 (stn (sA s25 49 (upd (gA s25 49) (Int32.toNatClampNeg x24) 0)) (fun s28 => lr136 (x24 + 1) s28))
def m_x12_stands_L136 (n : Nat) : Int32 → MS → Option MS := lp (fun _ _ => none) (m_x12_stands_b136) n
def m_x12_stands_b104 (lr104 : Int32 → MS → Option MS) (x29 : Int32) (s30 : MS) : Option MS :=
  if (gI s30 45) ≤ x29 then m_x12_stands_L136 FU 0 s30 else rdI (gA s30 44) 3200 x29 (fun y32 => inb 3200 (1600 + x29) (stn (sA s30 44 (upd (gA s30 44) (Int32.toNatClampNeg (1600 + x29)) y32)) (fun s34 => lr104 (x29 + 1) s34)))
def m_x12_stands_L104 (n : Nat) : Int32 → MS → Option MS := lp (fun _ _ => none) (m_x12_stands_b104) n
def m_x12_stands_b75 (lr75 : Int32 → MS → Option MS) (x35 : Int32) (s36 : MS) : Option MS :=
  if 8 ≤ x35 then m_x12_stands_L104 FU 0 s36 else rdL (gB s36 40) 16 x35 (fun yl38 => inb 16 (8 + x35) (stn (sB s36 40 (vp_updL (gB s36 40) (Int32.toNatClampNeg (8 + x35)) yl38)) (fun s40 => lr75 (x35 + 1) s40)))
def m_x12_stands_L75 (n : Nat) : Int32 → MS → Option MS := lp (fun _ _ => none) (m_x12_stands_b75) n
def m_x12_stands_b34 (lr34 : Int32 → MS → Option MS) (x41 : Int32) (s42 : MS) : Option MS :=
  if 3 ≤ x41 then m_x12_stands_L75 FU 0 s42 else rdI (gA s42 42) 6 x41 (fun y44 => inb 6 (3 + x41) (stn (sA s42 42 (upd (gA s42 42) (Int32.toNatClampNeg (3 + x41)) y44)) (fun s46 => rdI (gA s46 43) 6 x41 (fun y47 => inb 6 (3 + x41) (stn (sA s46 43 (upd (gA s46 43) (Int32.toNatClampNeg (3 + x41)) y47)) (fun s49 => lr34 (x41 + 1) s49))))))
def m_x12_stands_L34 (n : Nat) : Int32 → MS → Option MS := lp (fun _ _ => none) (m_x12_stands_b34) n
def m_x12_stands_b7 (lr7 : Int32 → MS → Option MS) (x50 : Int32) (s51 : MS) : Option MS :=
  if 5 ≤ x50 then m_x12_stands_L34 FU 0 s51 else rdI (gA s51 39) 10 x50 (fun y53 => inb 10 (5 + x50) (stn (sA s51 39 (upd (gA s51 39) (Int32.toNatClampNeg (5 + x50)) y53)) (fun s55 => lr7 (x50 + 1) s55)))
def m_x12_stands_L7 (n : Nat) : Int32 → MS → Option MS := lp (fun _ _ => none) (m_x12_stands_b7) n
def m_x12_stands (s : MS) : Option MS :=
  stn (sI s 47 1) (fun s56 => m_x12_stands_L7 FU 0 s56)
set_option maxHeartbeats 4000000 in
set_option maxRecDepth 100000 in
theorem k_x12_stands (l : Launch) (D : va_G) (a : Nat → Nat) (sz : Nat) (s : MS) (o : MS) (h : m_x12_stands s = some o) : yWv l yX12_stands cX12_stands 2 none { frames := 11, cells := 0, slots := 0, locals := 660 } D sz [.ref (a 200)] (RW D a s) (RW D a o) := by
  refine Met.ofW (cc := cX12_stands) (maxL := 2) (ret := none) (by decide) rfl ?_
  intro p e s₀ m args below meth c s₁ B hml hv
  obtain ⟨rfl, ⟨hsz, hP, hK, hD0⟩, hN⟩ := hv
  have hx := B.exec
  have hb := B.bytes
  have hr := B.returns
  have hts := atoms_spec (ws := wz yX12_stands cX12_stands 2 none) B.pre
  have ht : ∀ w ∈ lw_gd, w.before _ s₀ = true := fun w h => hts w (List.mem_cons_of_mem _ h)
  have hown : s₀.vm.findClass RX12 = some m.cls := findClass_of_methodNamed B.named
  have hlocks := B.notSynchronized
  subst hsz
  have hD := hD0.self (sz := s₀.heap.size)
  generalize hAe : va_A (RW D a s) s₀.heap.size = A at hD ⊢
  have hA : ∀ q : Nat, s₀.heap.size ≤ q → A q := fun q h => by rw [← hAe]; exact Or.inr h
  have hS : va_S A s₀.heap s₀.heap [] := va_S.rf
  have hDD : ∀ t : MS, va_D A (RW D a t) := fun t => RW_D t hD
  have hl := lv_entry ([.ref (a 200)]) (n := 2) (Nat.le_of_ble_eq_true rfl)
  rw [lg_entry_eq]
  generalize (lg_sl ([.ref (a 200)]) ++ List.replicate (2 - (lg_sl ([.ref (a 200)])).length) Slot.unset).toArray = ls at hl ⊢
  have hl : lv_has ls 2 [(0, .ref (a 200))] := hl
  unfold m_x12_stands at h
  refine y_loop (pcJ := 193) (σ := Int32 × MS) (fun n u H locs ls => va_P D vwCl (RW D a u.2) H ∧ va_S A s₀.heap H locs ∧ lv_has ls 2 [(0, .ref (a 200)), (1, .int u.1)] ∧ m_x12_stands_L193 n u.1 u.2 = some o) (fun u => []) (fun u H locs ls hI => by obtain ⟨_, _, _, h⟩ := hI; cases h) (fun n193 ih193 u H locs ls hI => ?_) (fun J193 => ?_)
  · obtain ⟨hP, hS, hl, h⟩ := hI
    obtain ⟨x1, s2⟩ := u
    have hP : va_P D vwCl (RW D a s2) H := hP
    have hl : lv_has ls 2 [(0, .ref (a 200)), (1, .int x1)] := hl
    have h : m_x12_stands_b193 (m_x12_stands_L193 n193) x1 s2 = some o := h
    unfold m_x12_stands_b193 at h
    refine lv_iload_n hx hb dX12_stands_193 rfl (lv_at hl 1 rfl) ?_
    refine lv_aload_n hx hb dX12_stands_194 rfl (lv_at hl 0 rfl) ?_
    refine va_get (D := D) (ci := 12) (v := .ref (a 39)) (C := RX12) (T := TX12) (N := 116) hx hb ht inX12 hown hK hP 0 RW_0 rfl 39 (by decide) (ht (.fieldLink RX12 102 "CloneVolumesModel" "many" "[I") fl_X12_102) (fun _ h9 => h9) mF_39 dX12_stands_195 ?_
    refine lv_iconst (v := 3) hx hb dX12_stands_198 (by decide) ?_
    obtain ⟨y3, ey3, iy3, h⟩ := rdI_e h
    refine ya_iald hx hb hK hP 30 0 RW_30 rfl ey3 iy3 dX12_stands_199 ?_
    refine lv_icmp_ge (tgt := 251) hx hb dX12_stands_200 (by decide) (fun c4 => ?_) (fun c4 => ?_)
    · have h := if_t c4 h
      refine lv_aload_n hx hb dX12_stands_251 rfl (lv_at hl 0 rfl) ?_
      obtain ⟨s6, hc5, h⟩ := bn_e h
      refine ywVv (As := []) (rest := []) (C := RX12) (n := 0) (ws' := RW D a s6) ⟨hx, hb, hml, hown, ht⟩ (k_x12_checks l D a _ _ _ hc5) (zgV ml_X12_413 im_X12_checks se_X12_checks in_X12 co_X12_checks) rfl rfl (by decide +kernel) ⟨Nat.le_of_ble_eq_true rfl, Nat.le_of_ble_eq_true rfl⟩ hN hK hP (hDD _) hS hA 0 RW_0 rfl rfl rfl hl.1 rfl (Nat.le_of_ble_eq_true rfl) dX12_stands_252 ⟨Nat.le_of_ble_eq_true rfl, Nat.le_of_ble_eq_true rfl⟩ (fun H locs hP hS => ?_)
      refine lv_aload_n hx hb dX12_stands_255 rfl (lv_at hl 0 rfl) ?_
      refine va_get (D := D) (ci := 12) (v := .ref (a 49)) (C := RX12) (T := TX12) (N := 116) hx hb ht inX12 hown hK hP 0 RW_0 rfl 49 (by decide) (ht (.fieldLink RX12 121 "CloneVolumesModel" "now" "[I") fl_X12_121) (fun _ h9 => h9) mF_49 dX12_stands_256 ?_
      refine lv_bipush (v := 16) hx hb dX12_stands_259 (by decide) ?_
      refine lv_iconst (v := 0) hx hb dX12_stands_261 (by decide) ?_
      obtain ⟨hi7, h⟩ := inb_e h
      refine ya_iast hx hb hK hP (hDD _) hS 36 0 RW_36 rfl hi7 dX12_stands_262 (RW_w36 _) (fun H locs hP hS => ?_)
      obtain ⟨s8, hs8, h⟩ := st_e h
      rw [hs8] at hP
      refine lv_aload_n hx hb dX12_stands_263 rfl (lv_at hl 0 rfl) ?_
      refine lv_iconst (v := 0) hx hb dX12_stands_264 (by decide) ?_
      refine ya_put (D := D) (ci := 12) (v := .int 0) (ty := .int) (C := RX12) (T := TX12) (N := 116) hx hb ht inX12 tyX12 tyX12_ok nmX12 hown hK hP (hDD _) hS 0 RW_0 rfl 76 (by decide) (ht (.fieldLink RX12 416 "CloneVolumesModel" "undoable" "I") fl_X12_416) (fun _ h9 => h9) rfl (by decide +kernel) rfl rfl (by rw [mF_len]; decide) dX12_stands_265 (RW_f76 _) (fun H locs hP hS => ?_)
      obtain ⟨s9, hs9, h⟩ := st_e h
      rw [hs9] at hP
      refine lv_aload_n hx hb dX12_stands_268 rfl (lv_at hl 0 rfl) ?_
      refine lv_iconst (v := 0) hx hb dX12_stands_269 (by decide) ?_
      refine ya_put (D := D) (ci := 12) (v := .int 0) (ty := .int) (C := RX12) (T := TX12) (N := 116) hx hb ht inX12 tyX12 tyX12_ok nmX12 hown hK hP (hDD _) hS 0 RW_0 rfl 73 (by decide) (ht (.fieldLink RX12 419 "CloneVolumesModel" "rowMany" "I") fl_X12_419) (fun _ h9 => h9) rfl (by decide +kernel) rfl rfl (by rw [mF_len]; decide) dX12_stands_270 (RW_f73 _) (fun H locs hP hS => ?_)
      obtain ⟨s10, hs10, h⟩ := st_e h
      rw [hs10] at hP
      obtain rfl := Option.some.inj h
      exact W.vret hx hb hr (fun t ht hW => ⟨⟨(), rfl, trivial, by rw [ht]; exact hP, va_K.moved hW.alike hK, hDD _⟩, hS.F ht⟩) hS.2.2 dX12_stands_273
    · have h := if_f c4 h
      refine lv_aload_n hx hb dX12_stands_203 rfl (lv_at hl 0 rfl) ?_
      refine lv_aload_n hx hb dX12_stands_204 rfl (lv_at hl 0 rfl) ?_
      refine va_get (D := D) (ci := 12) (v := .ref (a 41)) (C := RX12) (T := TX12) (N := 116) hx hb ht inX12 hown hK hP 0 RW_0 rfl 41 (by decide) (ht (.fieldLink RX12 109 "CloneVolumesModel" "acts" "[I") fl_X12_109) (fun _ h9 => h9) mF_41 dX12_stands_205 ?_
      refine lv_iconst (v := 4) hx hb dX12_stands_208 (by decide) ?_
      refine lv_iload_n hx hb dX12_stands_209 rfl (lv_at hl 1 rfl) ?_
      refine lv_imul hx hb dX12_stands_210 ?_
      obtain ⟨y11, ey11, iy11, h⟩ := rdI_e h
      refine ya_iald hx hb hK hP 32 0 RW_32 rfl ey11 iy11 dX12_stands_211 ?_
      refine lv_aload_n hx hb dX12_stands_212 rfl (lv_at hl 0 rfl) ?_
      refine va_get (D := D) (ci := 12) (v := .ref (a 41)) (C := RX12) (T := TX12) (N := 116) hx hb ht inX12 hown hK hP 0 RW_0 rfl 41 (by decide) (ht (.fieldLink RX12 109 "CloneVolumesModel" "acts" "[I") fl_X12_109) (fun _ h9 => h9) mF_41 dX12_stands_213 ?_
      refine lv_iconst (v := 4) hx hb dX12_stands_216 (by decide) ?_
      refine lv_iload_n hx hb dX12_stands_217 rfl (lv_at hl 1 rfl) ?_
      refine lv_imul hx hb dX12_stands_218 ?_
      refine lv_iconst (v := 1) hx hb dX12_stands_219 (by decide) ?_
      refine lv_iadd hx hb dX12_stands_220 ?_
      obtain ⟨y12, ey12, iy12, h⟩ := rdI_e h
      refine ya_iald hx hb hK hP 32 0 RW_32 rfl ey12 iy12 dX12_stands_221 ?_
      refine lv_aload_n hx hb dX12_stands_222 rfl (lv_at hl 0 rfl) ?_
      refine va_get (D := D) (ci := 12) (v := .ref (a 41)) (C := RX12) (T := TX12) (N := 116) hx hb ht inX12 hown hK hP 0 RW_0 rfl 41 (by decide) (ht (.fieldLink RX12 109 "CloneVolumesModel" "acts" "[I") fl_X12_109) (fun _ h9 => h9) mF_41 dX12_stands_223 ?_
      refine lv_iconst (v := 4) hx hb dX12_stands_226 (by decide) ?_
      refine lv_iload_n hx hb dX12_stands_227 rfl (lv_at hl 1 rfl) ?_
      refine lv_imul hx hb dX12_stands_228 ?_
      refine lv_iconst (v := 2) hx hb dX12_stands_229 (by decide) ?_
      refine lv_iadd hx hb dX12_stands_230 ?_
      obtain ⟨y13, ey13, iy13, h⟩ := rdI_e h
      refine ya_iald hx hb hK hP 32 0 RW_32 rfl ey13 iy13 dX12_stands_231 ?_
      refine lv_aload_n hx hb dX12_stands_232 rfl (lv_at hl 0 rfl) ?_
      refine va_get (D := D) (ci := 12) (v := .ref (a 41)) (C := RX12) (T := TX12) (N := 116) hx hb ht inX12 hown hK hP 0 RW_0 rfl 41 (by decide) (ht (.fieldLink RX12 109 "CloneVolumesModel" "acts" "[I") fl_X12_109) (fun _ h9 => h9) mF_41 dX12_stands_233 ?_
      refine lv_iconst (v := 4) hx hb dX12_stands_236 (by decide) ?_
      refine lv_iload_n hx hb dX12_stands_237 rfl (lv_at hl 1 rfl) ?_
      refine lv_imul hx hb dX12_stands_238 ?_
      refine lv_iconst (v := 3) hx hb dX12_stands_239 (by decide) ?_
      refine lv_iadd hx hb dX12_stands_240 ?_
      obtain ⟨y14, ey14, iy14, h⟩ := rdI_e h
      refine ya_iald hx hb hK hP 32 0 RW_32 rfl ey14 iy14 dX12_stands_241 ?_
      obtain ⟨s16, hc15, h⟩ := bn_e h
      refine ywVv (As := [.int y11, .int y12, .int y13, .int y14]) (rest := []) (C := RX12) (n := 4) (ws' := RW D a s16) ⟨hx, hb, hml, hown, ht⟩ (k_x12_actGoes l D a y11 y12 y13 y14 _ _ _ hc15) (zgV ml_X12_410 im_X12_actGoes se_X12_actGoes in_X12 co_X12_actGoes) rfl rfl (by decide +kernel) ⟨Nat.le_of_ble_eq_true rfl, Nat.le_of_ble_eq_true rfl⟩ hN hK hP (hDD _) hS hA 0 RW_0 rfl rfl rfl hl.1 rfl (Nat.le_of_ble_eq_true rfl) dX12_stands_242 ⟨Nat.le_of_ble_eq_true rfl, Nat.le_of_ble_eq_true rfl⟩ (fun H locs hP hS => ?_)
      refine lv_iinc (v := x1 + 1) (lv' := [(1, .int (x1 + 1)), (0, .ref (a 200))]) hx hb dX12_stands_245 hl (k := 1) rfl rfl (by decide) rfl (fun ls hl => ?_)
      refine lv_goto (tgt := 193) hx hb dX12_stands_248 (by decide) ?_
      exact ih193 (x1 + 1, s16) _ _ _ ⟨hP, hS, lv_sub hl [1, 0] rfl, h⟩
  refine y_loop (pcJ := 158) (σ := Int32 × MS) (fun n u H locs ls => va_P D vwCl (RW D a u.2) H ∧ va_S A s₀.heap H locs ∧ lv_has ls 2 [(0, .ref (a 200)), (1, .int u.1)] ∧ m_x12_stands_L158 n u.1 u.2 = some o) (fun u => []) (fun u H locs ls hI => by obtain ⟨_, _, _, h⟩ := hI; cases h) (fun n158 ih158 u H locs ls hI => ?_) (fun J158 => ?_)
  · obtain ⟨hP, hS, hl, h⟩ := hI
    obtain ⟨x17, s18⟩ := u
    have hP : va_P D vwCl (RW D a s18) H := hP
    have hl : lv_has ls 2 [(0, .ref (a 200)), (1, .int x17)] := hl
    have h : m_x12_stands_b158 (m_x12_stands_L158 n158) x17 s18 = some o := h
    unfold m_x12_stands_b158 at h
    refine lv_iload_n hx hb dX12_stands_158 rfl (lv_at hl 1 rfl) ?_
    refine lv_bipush (v := 8) hx hb dX12_stands_159 (by decide) ?_
    refine lv_icmp_ge (tgt := 191) hx hb dX12_stands_161 (by decide) (fun c19 => ?_) (fun c19 => ?_)
    · have h := if_t c19 h
      refine lv_iconst (v := 0) hx hb dX12_stands_191 (by decide) ?_
      refine lv_istore_n (lv' := [(1, .int 0), (0, .ref (a 200))]) hx hb dX12_stands_192 rfl hl (by decide) rfl (fun ls hl => ?_)
      exact J193 FU (0, s18) _ _ _ ⟨hP, hS, lv_sub hl [1, 0] rfl, h⟩
    · have h := if_f c19 h
      refine lv_aload_n hx hb dX12_stands_164 rfl (lv_at hl 0 rfl) ?_
      refine va_get (D := D) (ci := 12) (v := .ref (a 49)) (C := RX12) (T := TX12) (N := 116) hx hb ht inX12 hown hK hP 0 RW_0 rfl 49 (by decide) (ht (.fieldLink RX12 121 "CloneVolumesModel" "now" "[I") fl_X12_121) (fun _ h9 => h9) mF_49 dX12_stands_165 ?_
      refine lv_iload_n hx hb dX12_stands_168 rfl (lv_at hl 1 rfl) ?_
      refine lv_sipush (v := 255) hx hb dX12_stands_169 (by decide) ?_
      obtain ⟨hi20, h⟩ := inb_e h
      refine ya_iast hx hb hK hP (hDD _) hS 36 0 RW_36 rfl hi20 dX12_stands_172 (RW_w36 _) (fun H locs hP hS => ?_)
      obtain ⟨s21, hs21, h⟩ := st_e h
      rw [hs21] at hP
      refine lv_aload_n hx hb dX12_stands_173 rfl (lv_at hl 0 rfl) ?_
      refine va_get (D := D) (ci := 12) (v := .ref (a 49)) (C := RX12) (T := TX12) (N := 116) hx hb ht inX12 hown hK hP 0 RW_0 rfl 49 (by decide) (ht (.fieldLink RX12 121 "CloneVolumesModel" "now" "[I") fl_X12_121) (fun _ h9 => h9) mF_49 dX12_stands_174 ?_
      refine lv_bipush (v := 8) hx hb dX12_stands_177 (by decide) ?_
      refine lv_iload_n hx hb dX12_stands_179 rfl (lv_at hl 1 rfl) ?_
      refine lv_iadd hx hb dX12_stands_180 ?_
      refine lv_sipush (v := 255) hx hb dX12_stands_181 (by decide) ?_
      obtain ⟨hi22, h⟩ := inb_e h
      refine ya_iast hx hb hK hP (hDD _) hS 36 0 RW_36 rfl hi22 dX12_stands_184 (RW_w36 _) (fun H locs hP hS => ?_)
      obtain ⟨s23, hs23, h⟩ := st_e h
      rw [hs23] at hP
      refine lv_iinc (v := x17 + 1) (lv' := [(1, .int (x17 + 1)), (0, .ref (a 200))]) hx hb dX12_stands_185 hl (k := 1) rfl rfl (by decide) rfl (fun ls hl => ?_)
      refine lv_goto (tgt := 158) hx hb dX12_stands_188 (by decide) ?_
      exact ih158 (x17 + 1, s23) _ _ _ ⟨hP, hS, lv_sub hl [1, 0] rfl, h⟩
  refine y_loop (pcJ := 136) (σ := Int32 × MS) (fun n u H locs ls => va_P D vwCl (RW D a u.2) H ∧ va_S A s₀.heap H locs ∧ lv_has ls 2 [(0, .ref (a 200)), (1, .int u.1)] ∧ m_x12_stands_L136 n u.1 u.2 = some o) (fun u => []) (fun u H locs ls hI => by obtain ⟨_, _, _, h⟩ := hI; cases h) (fun n136 ih136 u H locs ls hI => ?_) (fun J136 => ?_)
  · obtain ⟨hP, hS, hl, h⟩ := hI
    obtain ⟨x24, s25⟩ := u
    have hP : va_P D vwCl (RW D a s25) H := hP
    have hl : lv_has ls 2 [(0, .ref (a 200)), (1, .int x24)] := hl
    have h : m_x12_stands_b136 (m_x12_stands_L136 n136) x24 s25 = some o := h
    unfold m_x12_stands_b136 at h
    refine lv_iload_n hx hb dX12_stands_136 rfl (lv_at hl 1 rfl) ?_
    refine lv_sipush (v := 906) hx hb dX12_stands_137 (by decide) ?_
    refine lv_icmp_ge (tgt := 156) hx hb dX12_stands_140 (by decide) (fun c26 => ?_) (fun c26 => ?_)
    · have h := if_t c26 h
      refine lv_iconst (v := 0) hx hb dX12_stands_156 (by decide) ?_
      refine lv_istore_n (lv' := [(1, .int 0), (0, .ref (a 200))]) hx hb dX12_stands_157 rfl hl (by decide) rfl (fun ls hl => ?_)
      exact J158 FU (0, s25) _ _ _ ⟨hP, hS, lv_sub hl [1, 0] rfl, h⟩
    · have h := if_f c26 h
      refine lv_aload_n hx hb dX12_stands_143 rfl (lv_at hl 0 rfl) ?_
      refine va_get (D := D) (ci := 12) (v := .ref (a 49)) (C := RX12) (T := TX12) (N := 116) hx hb ht inX12 hown hK hP 0 RW_0 rfl 49 (by decide) (ht (.fieldLink RX12 121 "CloneVolumesModel" "now" "[I") fl_X12_121) (fun _ h9 => h9) mF_49 dX12_stands_144 ?_
      refine lv_iload_n hx hb dX12_stands_147 rfl (lv_at hl 1 rfl) ?_
      refine lv_iconst (v := 0) hx hb dX12_stands_148 (by decide) ?_
      obtain ⟨hi27, h⟩ := inb_e h
      refine ya_iast hx hb hK hP (hDD _) hS 36 0 RW_36 rfl hi27 dX12_stands_149 (RW_w36 _) (fun H locs hP hS => ?_)
      obtain ⟨s28, hs28, h⟩ := st_e h
      rw [hs28] at hP
      refine lv_iinc (v := x24 + 1) (lv' := [(1, .int (x24 + 1)), (0, .ref (a 200))]) hx hb dX12_stands_150 hl (k := 1) rfl rfl (by decide) rfl (fun ls hl => ?_)
      refine lv_goto (tgt := 136) hx hb dX12_stands_153 (by decide) ?_
      exact ih136 (x24 + 1, s28) _ _ _ ⟨hP, hS, lv_sub hl [1, 0] rfl, h⟩
  refine y_loop (pcJ := 104) (σ := Int32 × MS) (fun n u H locs ls => va_P D vwCl (RW D a u.2) H ∧ va_S A s₀.heap H locs ∧ lv_has ls 2 [(0, .ref (a 200)), (1, .int u.1)] ∧ m_x12_stands_L104 n u.1 u.2 = some o) (fun u => []) (fun u H locs ls hI => by obtain ⟨_, _, _, h⟩ := hI; cases h) (fun n104 ih104 u H locs ls hI => ?_) (fun J104 => ?_)
  · obtain ⟨hP, hS, hl, h⟩ := hI
    obtain ⟨x29, s30⟩ := u
    have hP : va_P D vwCl (RW D a s30) H := hP
    have hl : lv_has ls 2 [(0, .ref (a 200)), (1, .int x29)] := hl
    have h : m_x12_stands_b104 (m_x12_stands_L104 n104) x29 s30 = some o := h
    unfold m_x12_stands_b104 at h
    refine lv_iload_n hx hb dX12_stands_104 rfl (lv_at hl 1 rfl) ?_
    refine lv_aload_n hx hb dX12_stands_105 rfl (lv_at hl 0 rfl) ?_
    refine va_get (D := D) (ci := 12) (v := .int (gI s30 45)) (C := RX12) (T := TX12) (N := 116) hx hb ht inX12 hown hK hP 0 RW_0 rfl 45 (by decide) (ht (.fieldLink RX12 371 "CloneVolumesModel" "coded" "I") fl_X12_371) (fun _ h9 => h9) mF_45 dX12_stands_106 ?_
    refine lv_icmp_ge (tgt := 134) hx hb dX12_stands_109 (by decide) (fun c31 => ?_) (fun c31 => ?_)
    · have h := if_t c31 h
      refine lv_iconst (v := 0) hx hb dX12_stands_134 (by decide) ?_
      refine lv_istore_n (lv' := [(1, .int 0), (0, .ref (a 200))]) hx hb dX12_stands_135 rfl hl (by decide) rfl (fun ls hl => ?_)
      exact J136 FU (0, s30) _ _ _ ⟨hP, hS, lv_sub hl [1, 0] rfl, h⟩
    · have h := if_f c31 h
      refine lv_aload_n hx hb dX12_stands_112 rfl (lv_at hl 0 rfl) ?_
      refine va_get (D := D) (ci := 12) (v := .ref (a 44)) (C := RX12) (T := TX12) (N := 116) hx hb ht inX12 hown hK hP 0 RW_0 rfl 44 (by decide) (ht (.fieldLink RX12 118 "CloneVolumesModel" "codes" "[I") fl_X12_118) (fun _ h9 => h9) mF_44 dX12_stands_113 ?_
      refine lv_sipush (v := 1600) hx hb dX12_stands_116 (by decide) ?_
      refine lv_iload_n hx hb dX12_stands_119 rfl (lv_at hl 1 rfl) ?_
      refine lv_iadd hx hb dX12_stands_120 ?_
      refine lv_aload_n hx hb dX12_stands_121 rfl (lv_at hl 0 rfl) ?_
      refine va_get (D := D) (ci := 12) (v := .ref (a 44)) (C := RX12) (T := TX12) (N := 116) hx hb ht inX12 hown hK hP 0 RW_0 rfl 44 (by decide) (ht (.fieldLink RX12 118 "CloneVolumesModel" "codes" "[I") fl_X12_118) (fun _ h9 => h9) mF_44 dX12_stands_122 ?_
      refine lv_iload_n hx hb dX12_stands_125 rfl (lv_at hl 1 rfl) ?_
      obtain ⟨y32, ey32, iy32, h⟩ := rdI_e h
      refine ya_iald hx hb hK hP 35 0 RW_35 rfl ey32 iy32 dX12_stands_126 ?_
      obtain ⟨hi33, h⟩ := inb_e h
      refine ya_iast hx hb hK hP (hDD _) hS 35 0 RW_35 rfl hi33 dX12_stands_127 (RW_w35 _) (fun H locs hP hS => ?_)
      obtain ⟨s34, hs34, h⟩ := st_e h
      rw [hs34] at hP
      refine lv_iinc (v := x29 + 1) (lv' := [(1, .int (x29 + 1)), (0, .ref (a 200))]) hx hb dX12_stands_128 hl (k := 1) rfl rfl (by decide) rfl (fun ls hl => ?_)
      refine lv_goto (tgt := 104) hx hb dX12_stands_131 (by decide) ?_
      exact ih104 (x29 + 1, s34) _ _ _ ⟨hP, hS, lv_sub hl [1, 0] rfl, h⟩
  refine y_loop (pcJ := 75) (σ := Int32 × MS) (fun n u H locs ls => va_P D vwCl (RW D a u.2) H ∧ va_S A s₀.heap H locs ∧ lv_has ls 2 [(0, .ref (a 200)), (1, .int u.1)] ∧ m_x12_stands_L75 n u.1 u.2 = some o) (fun u => []) (fun u H locs ls hI => by obtain ⟨_, _, _, h⟩ := hI; cases h) (fun n75 ih75 u H locs ls hI => ?_) (fun J75 => ?_)
  · obtain ⟨hP, hS, hl, h⟩ := hI
    obtain ⟨x35, s36⟩ := u
    have hP : va_P D vwCl (RW D a s36) H := hP
    have hl : lv_has ls 2 [(0, .ref (a 200)), (1, .int x35)] := hl
    have h : m_x12_stands_b75 (m_x12_stands_L75 n75) x35 s36 = some o := h
    unfold m_x12_stands_b75 at h
    refine lv_iload_n hx hb dX12_stands_75 rfl (lv_at hl 1 rfl) ?_
    refine lv_bipush (v := 8) hx hb dX12_stands_76 (by decide) ?_
    refine lv_icmp_ge (tgt := 102) hx hb dX12_stands_78 (by decide) (fun c37 => ?_) (fun c37 => ?_)
    · have h := if_t c37 h
      refine lv_iconst (v := 0) hx hb dX12_stands_102 (by decide) ?_
      refine lv_istore_n (lv' := [(1, .int 0), (0, .ref (a 200))]) hx hb dX12_stands_103 rfl hl (by decide) rfl (fun ls hl => ?_)
      exact J104 FU (0, s36) _ _ _ ⟨hP, hS, lv_sub hl [1, 0] rfl, h⟩
    · have h := if_f c37 h
      refine lv_aload_n hx hb dX12_stands_81 rfl (lv_at hl 0 rfl) ?_
      refine va_get (D := D) (ci := 12) (v := .ref (a 40)) (C := RX12) (T := TX12) (N := 116) hx hb ht inX12 hown hK hP 0 RW_0 rfl 40 (by decide) (ht (.fieldLink RX12 105 "CloneVolumesModel" "names" "[J") fl_X12_105) (fun _ h9 => h9) mF_40 dX12_stands_82 ?_
      refine lv_bipush (v := 8) hx hb dX12_stands_85 (by decide) ?_
      refine lv_iload_n hx hb dX12_stands_87 rfl (lv_at hl 1 rfl) ?_
      refine lv_iadd hx hb dX12_stands_88 ?_
      refine lv_aload_n hx hb dX12_stands_89 rfl (lv_at hl 0 rfl) ?_
      refine va_get (D := D) (ci := 12) (v := .ref (a 40)) (C := RX12) (T := TX12) (N := 116) hx hb ht inX12 hown hK hP 0 RW_0 rfl 40 (by decide) (ht (.fieldLink RX12 105 "CloneVolumesModel" "names" "[J") fl_X12_105) (fun _ h9 => h9) mF_40 dX12_stands_90 ?_
      refine lv_iload_n hx hb dX12_stands_93 rfl (lv_at hl 1 rfl) ?_
      obtain ⟨yl38, eyl38, iyl38, h⟩ := rdL_e h
      refine ya_lald hx hb hK hP 31 2 RW_31 rfl eyl38 iyl38 dX12_stands_94 ?_
      obtain ⟨hi39, h⟩ := inb_e h
      refine ya_last hx hb hK hP (hDD _) hS 31 2 RW_31 rfl hi39 dX12_stands_95 (RW_w31 _) (fun H locs hP hS => ?_)
      obtain ⟨s40, hs40, h⟩ := st_e h
      rw [hs40] at hP
      refine lv_iinc (v := x35 + 1) (lv' := [(1, .int (x35 + 1)), (0, .ref (a 200))]) hx hb dX12_stands_96 hl (k := 1) rfl rfl (by decide) rfl (fun ls hl => ?_)
      refine lv_goto (tgt := 75) hx hb dX12_stands_99 (by decide) ?_
      exact ih75 (x35 + 1, s40) _ _ _ ⟨hP, hS, lv_sub hl [1, 0] rfl, h⟩
  refine y_loop (pcJ := 34) (σ := Int32 × MS) (fun n u H locs ls => va_P D vwCl (RW D a u.2) H ∧ va_S A s₀.heap H locs ∧ lv_has ls 2 [(0, .ref (a 200)), (1, .int u.1)] ∧ m_x12_stands_L34 n u.1 u.2 = some o) (fun u => []) (fun u H locs ls hI => by obtain ⟨_, _, _, h⟩ := hI; cases h) (fun n34 ih34 u H locs ls hI => ?_) (fun J34 => ?_)
  · obtain ⟨hP, hS, hl, h⟩ := hI
    obtain ⟨x41, s42⟩ := u
    have hP : va_P D vwCl (RW D a s42) H := hP
    have hl : lv_has ls 2 [(0, .ref (a 200)), (1, .int x41)] := hl
    have h : m_x12_stands_b34 (m_x12_stands_L34 n34) x41 s42 = some o := h
    unfold m_x12_stands_b34 at h
    refine lv_iload_n hx hb dX12_stands_34 rfl (lv_at hl 1 rfl) ?_
    refine lv_iconst (v := 3) hx hb dX12_stands_35 (by decide) ?_
    refine lv_icmp_ge (tgt := 73) hx hb dX12_stands_36 (by decide) (fun c43 => ?_) (fun c43 => ?_)
    · have h := if_t c43 h
      refine lv_iconst (v := 0) hx hb dX12_stands_73 (by decide) ?_
      refine lv_istore_n (lv' := [(1, .int 0), (0, .ref (a 200))]) hx hb dX12_stands_74 rfl hl (by decide) rfl (fun ls hl => ?_)
      exact J75 FU (0, s42) _ _ _ ⟨hP, hS, lv_sub hl [1, 0] rfl, h⟩
    · have h := if_f c43 h
      refine lv_aload_n hx hb dX12_stands_39 rfl (lv_at hl 0 rfl) ?_
      refine va_get (D := D) (ci := 12) (v := .ref (a 42)) (C := RX12) (T := TX12) (N := 116) hx hb ht inX12 hown hK hP 0 RW_0 rfl 42 (by decide) (ht (.fieldLink RX12 112 "CloneVolumesModel" "codeFrom" "[I") fl_X12_112) (fun _ h9 => h9) mF_42 dX12_stands_40 ?_
      refine lv_iconst (v := 3) hx hb dX12_stands_43 (by decide) ?_
      refine lv_iload_n hx hb dX12_stands_44 rfl (lv_at hl 1 rfl) ?_
      refine lv_iadd hx hb dX12_stands_45 ?_
      refine lv_aload_n hx hb dX12_stands_46 rfl (lv_at hl 0 rfl) ?_
      refine va_get (D := D) (ci := 12) (v := .ref (a 42)) (C := RX12) (T := TX12) (N := 116) hx hb ht inX12 hown hK hP 0 RW_0 rfl 42 (by decide) (ht (.fieldLink RX12 112 "CloneVolumesModel" "codeFrom" "[I") fl_X12_112) (fun _ h9 => h9) mF_42 dX12_stands_47 ?_
      refine lv_iload_n hx hb dX12_stands_50 rfl (lv_at hl 1 rfl) ?_
      obtain ⟨y44, ey44, iy44, h⟩ := rdI_e h
      refine ya_iald hx hb hK hP 33 0 RW_33 rfl ey44 iy44 dX12_stands_51 ?_
      obtain ⟨hi45, h⟩ := inb_e h
      refine ya_iast hx hb hK hP (hDD _) hS 33 0 RW_33 rfl hi45 dX12_stands_52 (RW_w33 _) (fun H locs hP hS => ?_)
      obtain ⟨s46, hs46, h⟩ := st_e h
      rw [hs46] at hP
      refine lv_aload_n hx hb dX12_stands_53 rfl (lv_at hl 0 rfl) ?_
      refine va_get (D := D) (ci := 12) (v := .ref (a 43)) (C := RX12) (T := TX12) (N := 116) hx hb ht inX12 hown hK hP 0 RW_0 rfl 43 (by decide) (ht (.fieldLink RX12 115 "CloneVolumesModel" "codeEnd" "[I") fl_X12_115) (fun _ h9 => h9) mF_43 dX12_stands_54 ?_
      refine lv_iconst (v := 3) hx hb dX12_stands_57 (by decide) ?_
      refine lv_iload_n hx hb dX12_stands_58 rfl (lv_at hl 1 rfl) ?_
      refine lv_iadd hx hb dX12_stands_59 ?_
      refine lv_aload_n hx hb dX12_stands_60 rfl (lv_at hl 0 rfl) ?_
      refine va_get (D := D) (ci := 12) (v := .ref (a 43)) (C := RX12) (T := TX12) (N := 116) hx hb ht inX12 hown hK hP 0 RW_0 rfl 43 (by decide) (ht (.fieldLink RX12 115 "CloneVolumesModel" "codeEnd" "[I") fl_X12_115) (fun _ h9 => h9) mF_43 dX12_stands_61 ?_
      refine lv_iload_n hx hb dX12_stands_64 rfl (lv_at hl 1 rfl) ?_
      obtain ⟨y47, ey47, iy47, h⟩ := rdI_e h
      refine ya_iald hx hb hK hP 34 0 RW_34 rfl ey47 iy47 dX12_stands_65 ?_
      obtain ⟨hi48, h⟩ := inb_e h
      refine ya_iast hx hb hK hP (hDD _) hS 34 0 RW_34 rfl hi48 dX12_stands_66 (RW_w34 _) (fun H locs hP hS => ?_)
      obtain ⟨s49, hs49, h⟩ := st_e h
      rw [hs49] at hP
      refine lv_iinc (v := x41 + 1) (lv' := [(1, .int (x41 + 1)), (0, .ref (a 200))]) hx hb dX12_stands_67 hl (k := 1) rfl rfl (by decide) rfl (fun ls hl => ?_)
      refine lv_goto (tgt := 34) hx hb dX12_stands_70 (by decide) ?_
      exact ih34 (x41 + 1, s49) _ _ _ ⟨hP, hS, lv_sub hl [1, 0] rfl, h⟩
  refine y_loop (pcJ := 7) (σ := Int32 × MS) (fun n u H locs ls => va_P D vwCl (RW D a u.2) H ∧ va_S A s₀.heap H locs ∧ lv_has ls 2 [(0, .ref (a 200)), (1, .int u.1)] ∧ m_x12_stands_L7 n u.1 u.2 = some o) (fun u => []) (fun u H locs ls hI => by obtain ⟨_, _, _, h⟩ := hI; cases h) (fun n7 ih7 u H locs ls hI => ?_) (fun J7 => ?_)
  · obtain ⟨hP, hS, hl, h⟩ := hI
    obtain ⟨x50, s51⟩ := u
    have hP : va_P D vwCl (RW D a s51) H := hP
    have hl : lv_has ls 2 [(0, .ref (a 200)), (1, .int x50)] := hl
    have h : m_x12_stands_b7 (m_x12_stands_L7 n7) x50 s51 = some o := h
    unfold m_x12_stands_b7 at h
    refine lv_iload_n hx hb dX12_stands_7 rfl (lv_at hl 1 rfl) ?_
    refine lv_iconst (v := 5) hx hb dX12_stands_8 (by decide) ?_
    refine lv_icmp_ge (tgt := 32) hx hb dX12_stands_9 (by decide) (fun c52 => ?_) (fun c52 => ?_)
    · have h := if_t c52 h
      refine lv_iconst (v := 0) hx hb dX12_stands_32 (by decide) ?_
      refine lv_istore_n (lv' := [(1, .int 0), (0, .ref (a 200))]) hx hb dX12_stands_33 rfl hl (by decide) rfl (fun ls hl => ?_)
      exact J34 FU (0, s51) _ _ _ ⟨hP, hS, lv_sub hl [1, 0] rfl, h⟩
    · have h := if_f c52 h
      refine lv_aload_n hx hb dX12_stands_12 rfl (lv_at hl 0 rfl) ?_
      refine va_get (D := D) (ci := 12) (v := .ref (a 39)) (C := RX12) (T := TX12) (N := 116) hx hb ht inX12 hown hK hP 0 RW_0 rfl 39 (by decide) (ht (.fieldLink RX12 102 "CloneVolumesModel" "many" "[I") fl_X12_102) (fun _ h9 => h9) mF_39 dX12_stands_13 ?_
      refine lv_iconst (v := 5) hx hb dX12_stands_16 (by decide) ?_
      refine lv_iload_n hx hb dX12_stands_17 rfl (lv_at hl 1 rfl) ?_
      refine lv_iadd hx hb dX12_stands_18 ?_
      refine lv_aload_n hx hb dX12_stands_19 rfl (lv_at hl 0 rfl) ?_
      refine va_get (D := D) (ci := 12) (v := .ref (a 39)) (C := RX12) (T := TX12) (N := 116) hx hb ht inX12 hown hK hP 0 RW_0 rfl 39 (by decide) (ht (.fieldLink RX12 102 "CloneVolumesModel" "many" "[I") fl_X12_102) (fun _ h9 => h9) mF_39 dX12_stands_20 ?_
      refine lv_iload_n hx hb dX12_stands_23 rfl (lv_at hl 1 rfl) ?_
      obtain ⟨y53, ey53, iy53, h⟩ := rdI_e h
      refine ya_iald hx hb hK hP 30 0 RW_30 rfl ey53 iy53 dX12_stands_24 ?_
      obtain ⟨hi54, h⟩ := inb_e h
      refine ya_iast hx hb hK hP (hDD _) hS 30 0 RW_30 rfl hi54 dX12_stands_25 (RW_w30 _) (fun H locs hP hS => ?_)
      obtain ⟨s55, hs55, h⟩ := st_e h
      rw [hs55] at hP
      refine lv_iinc (v := x50 + 1) (lv' := [(1, .int (x50 + 1)), (0, .ref (a 200))]) hx hb dX12_stands_26 hl (k := 1) rfl rfl (by decide) rfl (fun ls hl => ?_)
      refine lv_goto (tgt := 7) hx hb dX12_stands_29 (by decide) ?_
      exact ih7 (x50 + 1, s55) _ _ _ ⟨hP, hS, lv_sub hl [1, 0] rfl, h⟩
  refine lv_aload_n hx hb dX12_stands_0 rfl (lv_at hl 0 rfl) ?_
  refine lv_iconst (v := 1) hx hb dX12_stands_1 (by decide) ?_
  refine ya_put (D := D) (ci := 12) (v := .int 1) (ty := .boolean) (C := RX12) (T := TX12) (N := 116) hx hb ht inX12 tyX12 tyX12_ok nmX12 hown hK hP (hDD _) hS 0 RW_0 rfl 47 (by decide) (ht (.fieldLink RX12 406 "CloneVolumesModel" "isTold" "Z") fl_X12_406) (fun _ h9 => h9) rfl (by decide +kernel) (by decide) (by decide) (by rw [mF_len]; decide) dX12_stands_2 (RW_f47 _) (fun H locs hP hS => ?_)
  obtain ⟨s56, hs56, h⟩ := st_e h
  rw [hs56] at hP
  refine lv_iconst (v := 0) hx hb dX12_stands_5 (by decide) ?_
  refine lv_istore_n (lv' := [(1, .int 0), (0, .ref (a 200))]) hx hb dX12_stands_6 rfl hl (by decide) rfl (fun ls hl => ?_)
  exact J7 FU (0, s56) _ _ _ ⟨hP, hS, lv_sub hl [1, 0] rfl, h⟩
def m_x12_refuses (p0 : Int32) (s : MS) : Option (Int32 × MS) :=
  rdI (gA s 9) 6 p0 (fun y1 => inb 6 p0 (stn (sA s 9 (upd (gA s 9) (Int32.toNatClampNeg p0) (y1 + 1))) (fun s3 => some ((-1), s3))))
set_option maxHeartbeats 4000000 in
set_option maxRecDepth 100000 in
theorem k_x12_refuses (l : Launch) (D : va_G) (a : Nat → Nat) (p0 : Int32) (sz : Nat) (s : MS) (o : (Int32 × MS)) (h : m_x12_refuses p0 s = some o) : yWi l yX12_refuses cX12_refuses 2 (some .int) { frames := 0, cells := 0, slots := 0, locals := 0 } D sz [.ref (a 200), .int p0] (RW D a s) (RW D a o.2) o.1 := by
  refine Met.ofW (cc := cX12_refuses) (maxL := 2) (ret := (some .int)) (by decide) rfl ?_
  intro p e s₀ m args below meth c s₁ B hml hv
  obtain ⟨rfl, ⟨hsz, hP, hK, hD0⟩, hN⟩ := hv
  have hx := B.exec
  have hb := B.bytes
  have hr := B.returns
  have hts := atoms_spec (ws := wz yX12_refuses cX12_refuses 2 (some .int)) B.pre
  have ht : ∀ w ∈ lw_gd, w.before _ s₀ = true := fun w h => hts w (List.mem_cons_of_mem _ h)
  have hown : s₀.vm.findClass RX12 = some m.cls := findClass_of_methodNamed B.named
  have hlocks := B.notSynchronized
  subst hsz
  have hD := hD0.self (sz := s₀.heap.size)
  generalize hAe : va_A (RW D a s) s₀.heap.size = A at hD ⊢
  have hA : ∀ q : Nat, s₀.heap.size ≤ q → A q := fun q h => by rw [← hAe]; exact Or.inr h
  have hS : va_S A s₀.heap s₀.heap [] := va_S.rf
  have hDD : ∀ t : MS, va_D A (RW D a t) := fun t => RW_D t hD
  have hl := lv_entry ([.ref (a 200), .int p0]) (n := 2) (Nat.le_of_ble_eq_true rfl)
  rw [lg_entry_eq]
  generalize (lg_sl ([.ref (a 200), .int p0]) ++ List.replicate (2 - (lg_sl ([.ref (a 200), .int p0])).length) Slot.unset).toArray = ls at hl ⊢
  have hl : lv_has ls 2 [(0, .ref (a 200)), (1, .int p0)] := hl
  unfold m_x12_refuses at h
  refine lv_aload_n hx hb dX12_refuses_0 rfl (lv_at hl 0 rfl) ?_
  refine va_get (D := D) (ci := 12) (v := .ref (a 9)) (C := RX12) (T := TX12) (N := 116) hx hb ht inX12 hown hK hP 0 RW_0 rfl 9 (by decide) (ht (.fieldLink RX12 17 "CloneVolumesModel" "refused" "[I") fl_X12_17) (fun _ h9 => h9) mF_9 dX12_refuses_1 ?_
  refine lv_iload_n hx hb dX12_refuses_4 rfl (lv_at hl 1 rfl) ?_
  refine lv_dup2_11 hx hb dX12_refuses_5 rfl rfl ?_
  obtain ⟨y1, ey1, iy1, h⟩ := rdI_e h
  refine ya_iald hx hb hK hP 2 0 RW_2 rfl ey1 iy1 dX12_refuses_6 ?_
  refine lv_iconst (v := 1) hx hb dX12_refuses_7 (by decide) ?_
  refine lv_iadd hx hb dX12_refuses_8 ?_
  obtain ⟨hi2, h⟩ := inb_e h
  refine ya_iast hx hb hK hP (hDD _) hS 2 0 RW_2 rfl hi2 dX12_refuses_9 (RW_w2 _) (fun H locs hP hS => ?_)
  obtain ⟨s3, hs3, h⟩ := st_e h
  rw [hs3] at hP
  refine lv_iconst (v := (-1)) hx hb dX12_refuses_10 (by decide) ?_
  obtain rfl := Option.some.inj h
  exact W.iret (v := (-1)) hx hb hr (fun t ht hW => ⟨⟨_, (), rfl, rfl, by rw [ht]; exact hP, va_K.moved hW.alike hK, hDD _⟩, hS.F ht⟩) hS.2.2 dX12_refuses_11
def m_x12_store_J109 (s1 : MS) : Option (Int32 × MS) :=
  stn (sI s1 7 (gI s1 5)) (fun s2 => stn (sI s2 8 (gI s2 6)) (fun s3 => if (gI s3 5) = 0 then bn (m_x12_stands s3) (fun s6 => some (gI s6 46, s6)) else bn (m_x12_refuses 1 s3) (fun qr9 => some (qr9.1, qr9.2))))
def m_x12_store_b87 (lr87 : MS → Option (Int32 × MS)) (s10 : MS) : Option (Int32 × MS) :=
  if (gI s10 5) = 0 then bn (m_x12_look s10) (fun qr14 => if qr14.1 = (-1) then m_x12_store_J109 qr14.2 else bn (m_x12_statementTold qr14.2) (fun s17 => lr87 s17)) else m_x12_store_J109 s10
def m_x12_store_L87 (n : Nat) : MS → Option (Int32 × MS) := lp (fun _ => none) (m_x12_store_b87) n
def m_x12_store_b60 (lr60 : Int32 → MS → Option (Int32 × MS)) (x18 : Int32) (s19 : MS) : Option (Int32 × MS) :=
  if 3 ≤ x18 then bn (m_x12_storeTold s19) (fun s22 => stn (sI s22 46 1) (fun s23 => m_x12_store_L87 FU s23)) else inb 6 x18 (stn (sA s19 42 (upd (gA s19 42) (Int32.toNatClampNeg x18) (-1))) (fun s25 => lr60 (x18 + 1) s25))
def m_x12_store_L60 (n : Nat) : Int32 → MS → Option (Int32 × MS) := lp (fun _ _ => none) (m_x12_store_b60) n
def m_x12_store_b40 (lr40 : Int32 → MS → Option (Int32 × MS)) (x26 : Int32) (s27 : MS) : Option (Int32 × MS) :=
  if 5 ≤ x26 then m_x12_store_L60 FU 0 s27 else inb 10 x26 (stn (sA s27 39 (upd (gA s27 39) (Int32.toNatClampNeg x26) 0)) (fun s30 => lr40 (x26 + 1) s30))
def m_x12_store_L40 (n : Nat) : Int32 → MS → Option (Int32 × MS) := lp (fun _ _ => none) (m_x12_store_b40) n
def m_x12_store (s : MS) : Option (Int32 × MS) :=
  stn (sI s 3 (gI s 1)) (fun s31 => stn (sI s31 1 0) (fun s32 => stn (sI s32 2 0) (fun s33 => stn (sI s33 4 (-1)) (fun s34 => stn (sI s34 5 0) (fun s35 => stn (sI s35 6 (-1)) (fun s36 => stn (sI s36 45 0) (fun s37 => m_x12_store_L40 FU 0 s37)))))))
set_option maxHeartbeats 4000000 in
set_option maxRecDepth 100000 in
theorem k_x12_store (l : Launch) (D : va_G) (a : Nat → Nat) (sz : Nat) (s : MS) (o : (Int32 × MS)) (h : m_x12_store s = some o) : yWi l yX12_store cX12_store 2 (some .int) { frames := 12, cells := 0, slots := 0, locals := 720 } D sz [.ref (a 200)] (RW D a s) (RW D a o.2) o.1 := by
  refine Met.ofW (cc := cX12_store) (maxL := 2) (ret := (some .int)) (by decide) rfl ?_
  intro p e s₀ m args below meth c s₁ B hml hv
  obtain ⟨rfl, ⟨hsz, hP, hK, hD0⟩, hN⟩ := hv
  have hx := B.exec
  have hb := B.bytes
  have hr := B.returns
  have hts := atoms_spec (ws := wz yX12_store cX12_store 2 (some .int)) B.pre
  have ht : ∀ w ∈ lw_gd, w.before _ s₀ = true := fun w h => hts w (List.mem_cons_of_mem _ h)
  have hown : s₀.vm.findClass RX12 = some m.cls := findClass_of_methodNamed B.named
  have hlocks := B.notSynchronized
  subst hsz
  have hD := hD0.self (sz := s₀.heap.size)
  generalize hAe : va_A (RW D a s) s₀.heap.size = A at hD ⊢
  have hA : ∀ q : Nat, s₀.heap.size ≤ q → A q := fun q h => by rw [← hAe]; exact Or.inr h
  have hS : va_S A s₀.heap s₀.heap [] := va_S.rf
  have hDD : ∀ t : MS, va_D A (RW D a t) := fun t => RW_D t hD
  have hl := lv_entry ([.ref (a 200)]) (n := 2) (Nat.le_of_ble_eq_true rfl)
  rw [lg_entry_eq]
  generalize (lg_sl ([.ref (a 200)]) ++ List.replicate (2 - (lg_sl ([.ref (a 200)])).length) Slot.unset).toArray = ls at hl ⊢
  have hl : lv_has ls 2 [(0, .ref (a 200))] := hl
  unfold m_x12_store at h
  refine y_head (pcJ := 109) (σ := MS) (fun u H locs ls => va_P D vwCl (RW D a u) H ∧ va_S A s₀.heap H locs ∧ lv_has ls 2 [(0, .ref (a 200))] ∧ m_x12_store_J109 u = some o) (fun u => []) (fun u H locs ls hI => ?_) (fun J109 => ?_)
  · obtain ⟨hP, hS, hl, h⟩ := hI
    obtain ⟨s1, rfl⟩ : ∃ z, z = u := ⟨u, rfl⟩
    have hP : va_P D vwCl (RW D a s1) H := hP
    have hl : lv_has ls 2 [(0, .ref (a 200))] := hl
    have h : m_x12_store_J109 s1 = some o := h
    unfold m_x12_store_J109 at h
    refine lv_aload_n hx hb dX12_store_109 rfl (lv_at hl 0 rfl) ?_
    refine lv_aload_n hx hb dX12_store_110 rfl (lv_at hl 0 rfl) ?_
    refine va_get (D := D) (ci := 12) (v := .int (gI s1 5)) (C := RX12) (T := TX12) (N := 116) hx hb ht inX12 hown hK hP 0 RW_0 rfl 5 (by decide) (ht (.fieldLink RX12 266 "CloneVolumesModel" "bad" "I") fl_X12_266) (fun _ h9 => h9) mF_5 dX12_store_111 ?_
    refine ya_put (D := D) (ci := 12) (v := .int (gI s1 5)) (ty := .int) (C := RX12) (T := TX12) (N := 116) hx hb ht inX12 tyX12 tyX12_ok nmX12 hown hK hP (hDD _) hS 0 RW_0 rfl 7 (by decide) (ht (.fieldLink RX12 396 "CloneVolumesModel" "fault" "I") fl_X12_396) (fun _ h9 => h9) rfl (by decide +kernel) rfl rfl (by rw [mF_len]; decide) dX12_store_114 (RW_f7 _) (fun H locs hP hS => ?_)
    obtain ⟨s2, hs2, h⟩ := st_e h
    rw [hs2] at hP
    refine lv_aload_n hx hb dX12_store_117 rfl (lv_at hl 0 rfl) ?_
    refine lv_aload_n hx hb dX12_store_118 rfl (lv_at hl 0 rfl) ?_
    refine va_get (D := D) (ci := 12) (v := .int (gI s2 6)) (C := RX12) (T := TX12) (N := 116) hx hb ht inX12 hown hK hP 0 RW_0 rfl 6 (by decide) (ht (.fieldLink RX12 269 "CloneVolumesModel" "badPlace" "I") fl_X12_269) (fun _ h9 => h9) mF_6 dX12_store_119 ?_
    refine ya_put (D := D) (ci := 12) (v := .int (gI s2 6)) (ty := .int) (C := RX12) (T := TX12) (N := 116) hx hb ht inX12 tyX12 tyX12_ok nmX12 hown hK hP (hDD _) hS 0 RW_0 rfl 8 (by decide) (ht (.fieldLink RX12 13 "CloneVolumesModel" "faultPlace" "I") fl_X12_13) (fun _ h9 => h9) rfl (by decide +kernel) rfl rfl (by rw [mF_len]; decide) dX12_store_122 (RW_f8 _) (fun H locs hP hS => ?_)
    obtain ⟨s3, hs3, h⟩ := st_e h
    rw [hs3] at hP
    refine lv_aload_n hx hb dX12_store_125 rfl (lv_at hl 0 rfl) ?_
    refine va_get (D := D) (ci := 12) (v := .int (gI s3 5)) (C := RX12) (T := TX12) (N := 116) hx hb ht inX12 hown hK hP 0 RW_0 rfl 5 (by decide) (ht (.fieldLink RX12 266 "CloneVolumesModel" "bad" "I") fl_X12_266) (fun _ h9 => h9) mF_5 dX12_store_126 ?_
    refine lv_if_eq (tgt := 138) hx hb dX12_store_129 (by decide) (fun c4 => ?_) (fun c4 => ?_)
    · have h := if_t c4 h
      refine lv_aload_n hx hb dX12_store_138 rfl (lv_at hl 0 rfl) ?_
      obtain ⟨s6, hc5, h⟩ := bn_e h
      refine ywVv (As := []) (rest := []) (C := RX12) (n := 0) (ws' := RW D a s6) ⟨hx, hb, hml, hown, ht⟩ (k_x12_stands l D a _ _ _ hc5) (zgV ml_X12_403 im_X12_stands se_X12_stands in_X12 co_X12_stands) rfl rfl (by decide +kernel) ⟨Nat.le_of_ble_eq_true rfl, Nat.le_of_ble_eq_true rfl⟩ hN hK hP (hDD _) hS hA 0 RW_0 rfl rfl rfl hl.1 rfl (Nat.le_of_ble_eq_true rfl) dX12_store_139 ⟨Nat.le_of_ble_eq_true rfl, Nat.le_of_ble_eq_true rfl⟩ (fun H locs hP hS => ?_)
      refine lv_aload_n hx hb dX12_store_142 rfl (lv_at hl 0 rfl) ?_
      refine va_get (D := D) (ci := 12) (v := .int (gI s6 46)) (C := RX12) (T := TX12) (N := 116) hx hb ht inX12 hown hK hP 0 RW_0 rfl 46 (by decide) (ht (.fieldLink RX12 374 "CloneVolumesModel" "statements" "I") fl_X12_374) (fun _ h9 => h9) mF_46 dX12_store_143 ?_
      obtain rfl := Option.some.inj h
      exact W.iret (v := gI s6 46) hx hb hr (fun t ht hW => ⟨⟨_, (), rfl, rfl, by rw [ht]; exact hP, va_K.moved hW.alike hK, hDD _⟩, hS.F ht⟩) hS.2.2 dX12_store_146
    · have h := if_f c4 h
      refine lv_aload_n hx hb dX12_store_132 rfl (lv_at hl 0 rfl) ?_
      refine lv_iconst (v := 1) hx hb dX12_store_133 (by decide) ?_
      obtain ⟨⟨r9, s8⟩, hc7, h⟩ := bn_e h
      refine ywV (r0 := r9) (As := [.int 1]) (rest := []) (C := RX12) (n := 1) (ws' := RW D a s8) ⟨hx, hb, hml, hown, ht⟩ (k_x12_refuses l D a 1 _ _ _ hc7) (zgV ml_X12_399 im_X12_refuses se_X12_refuses in_X12 co_X12_refuses) rfl rfl (by decide +kernel) ⟨Nat.le_of_ble_eq_true rfl, Nat.le_of_ble_eq_true rfl⟩ hN hK hP (hDD _) hS hA 0 RW_0 rfl rfl rfl hl.1 rfl (Nat.le_of_ble_eq_true rfl) dX12_store_134 ⟨Nat.le_of_ble_eq_true rfl, Nat.le_of_ble_eq_true rfl⟩ (fun H locs hP hS => ?_)
      obtain rfl := Option.some.inj h
      exact W.iret (v := r9) hx hb hr (fun t ht hW => ⟨⟨_, (), rfl, rfl, by rw [ht]; exact hP, va_K.moved hW.alike hK, hDD _⟩, hS.F ht⟩) hS.2.2 dX12_store_137
  refine y_loop (pcJ := 87) (σ := MS) (fun n u H locs ls => va_P D vwCl (RW D a u) H ∧ va_S A s₀.heap H locs ∧ lv_has ls 2 [(0, .ref (a 200))] ∧ m_x12_store_L87 n u = some o) (fun u => []) (fun u H locs ls hI => by obtain ⟨_, _, _, h⟩ := hI; cases h) (fun n87 ih87 u H locs ls hI => ?_) (fun J87 => ?_)
  · obtain ⟨hP, hS, hl, h⟩ := hI
    obtain ⟨s10, rfl⟩ : ∃ z, z = u := ⟨u, rfl⟩
    have hP : va_P D vwCl (RW D a s10) H := hP
    have hl : lv_has ls 2 [(0, .ref (a 200))] := hl
    have h : m_x12_store_b87 (m_x12_store_L87 n87) s10 = some o := h
    unfold m_x12_store_b87 at h
    refine lv_aload_n hx hb dX12_store_87 rfl (lv_at hl 0 rfl) ?_
    refine va_get (D := D) (ci := 12) (v := .int (gI s10 5)) (C := RX12) (T := TX12) (N := 116) hx hb ht inX12 hown hK hP 0 RW_0 rfl 5 (by decide) (ht (.fieldLink RX12 266 "CloneVolumesModel" "bad" "I") fl_X12_266) (fun _ h9 => h9) mF_5 dX12_store_88 ?_
    refine lv_if_ne (tgt := 109) hx hb dX12_store_91 (by decide) (fun c11 => ?_) (fun c11 => ?_)
    · have h := if_f c11 h
      exact J109 s10 _ _ _ ⟨hP, hS, lv_sub hl [0] rfl, h⟩
    · have h := if_t c11 h
      refine lv_aload_n hx hb dX12_store_94 rfl (lv_at hl 0 rfl) ?_
      obtain ⟨⟨r14, s13⟩, hc12, h⟩ := bn_e h
      refine ywV (r0 := r14) (As := []) (rest := []) (C := RX12) (n := 0) (ws' := RW D a s13) ⟨hx, hb, hml, hown, ht⟩ (k_x12_look l D a _ _ _ hc12) (zgV ml_X12_278 im_X12_look se_X12_look in_X12 co_X12_look) rfl rfl (by decide +kernel) ⟨Nat.le_of_ble_eq_true rfl, Nat.le_of_ble_eq_true rfl⟩ hN hK hP (hDD _) hS hA 0 RW_0 rfl rfl rfl hl.1 rfl (Nat.le_of_ble_eq_true rfl) dX12_store_95 ⟨Nat.le_of_ble_eq_true rfl, Nat.le_of_ble_eq_true rfl⟩ (fun H locs hP hS => ?_)
      refine lv_iconst (v := (-1)) hx hb dX12_store_98 (by decide) ?_
      refine lv_icmp_eq (tgt := 109) hx hb dX12_store_99 (by decide) (fun c15 => ?_) (fun c15 => ?_)
      · have h := if_t c15 h
        exact J109 s13 _ _ _ ⟨hP, hS, lv_sub hl [0] rfl, h⟩
      · have h := if_f c15 h
        refine lv_aload_n hx hb dX12_store_102 rfl (lv_at hl 0 rfl) ?_
        obtain ⟨s17, hc16, h⟩ := bn_e h
        refine ywVv (As := []) (rest := []) (C := RX12) (n := 0) (ws' := RW D a s17) ⟨hx, hb, hml, hown, ht⟩ (k_x12_statementTold l D a _ _ _ hc16) (zgV ml_X12_393 im_X12_statementTold se_X12_statementTold in_X12 co_X12_statementTold) rfl rfl (by decide +kernel) ⟨Nat.le_of_ble_eq_true rfl, Nat.le_of_ble_eq_true rfl⟩ hN hK hP (hDD _) hS hA 0 RW_0 rfl rfl rfl hl.1 rfl (Nat.le_of_ble_eq_true rfl) dX12_store_103 ⟨Nat.le_of_ble_eq_true rfl, Nat.le_of_ble_eq_true rfl⟩ (fun H locs hP hS => ?_)
        refine lv_goto (tgt := 87) hx hb dX12_store_106 (by decide) ?_
        exact ih87 s17 _ _ _ ⟨hP, hS, lv_sub hl [0] rfl, h⟩
  refine y_loop (pcJ := 60) (σ := Int32 × MS) (fun n u H locs ls => va_P D vwCl (RW D a u.2) H ∧ va_S A s₀.heap H locs ∧ lv_has ls 2 [(0, .ref (a 200)), (1, .int u.1)] ∧ m_x12_store_L60 n u.1 u.2 = some o) (fun u => []) (fun u H locs ls hI => by obtain ⟨_, _, _, h⟩ := hI; cases h) (fun n60 ih60 u H locs ls hI => ?_) (fun J60 => ?_)
  · obtain ⟨hP, hS, hl, h⟩ := hI
    obtain ⟨x18, s19⟩ := u
    have hP : va_P D vwCl (RW D a s19) H := hP
    have hl : lv_has ls 2 [(0, .ref (a 200)), (1, .int x18)] := hl
    have h : m_x12_store_b60 (m_x12_store_L60 n60) x18 s19 = some o := h
    unfold m_x12_store_b60 at h
    refine lv_iload_n hx hb dX12_store_60 rfl (lv_at hl 1 rfl) ?_
    refine lv_iconst (v := 3) hx hb dX12_store_61 (by decide) ?_
    refine lv_icmp_ge (tgt := 78) hx hb dX12_store_62 (by decide) (fun c20 => ?_) (fun c20 => ?_)
    · have h := if_t c20 h
      refine lv_aload_n hx hb dX12_store_78 rfl (lv_at hl 0 rfl) ?_
      obtain ⟨s22, hc21, h⟩ := bn_e h
      refine ywVv (As := []) (rest := []) (C := RX12) (n := 0) (ws' := RW D a s22) ⟨hx, hb, hml, hown, ht⟩ (k_x12_storeTold l D a _ _ _ hc21) (zgV ml_X12_390 im_X12_storeTold se_X12_storeTold in_X12 co_X12_storeTold) rfl rfl (by decide +kernel) ⟨Nat.le_of_ble_eq_true rfl, Nat.le_of_ble_eq_true rfl⟩ hN hK hP (hDD _) hS hA 0 RW_0 rfl rfl rfl hl.1 rfl (Nat.le_of_ble_eq_true rfl) dX12_store_79 ⟨Nat.le_of_ble_eq_true rfl, Nat.le_of_ble_eq_true rfl⟩ (fun H locs hP hS => ?_)
      refine lv_aload_n hx hb dX12_store_82 rfl (lv_at hl 0 rfl) ?_
      refine lv_iconst (v := 1) hx hb dX12_store_83 (by decide) ?_
      refine ya_put (D := D) (ci := 12) (v := .int 1) (ty := .int) (C := RX12) (T := TX12) (N := 116) hx hb ht inX12 tyX12 tyX12_ok nmX12 hown hK hP (hDD _) hS 0 RW_0 rfl 46 (by decide) (ht (.fieldLink RX12 374 "CloneVolumesModel" "statements" "I") fl_X12_374) (fun _ h9 => h9) rfl (by decide +kernel) rfl rfl (by rw [mF_len]; decide) dX12_store_84 (RW_f46 _) (fun H locs hP hS => ?_)
      obtain ⟨s23, hs23, h⟩ := st_e h
      rw [hs23] at hP
      exact J87 FU s23 _ _ _ ⟨hP, hS, lv_sub hl [0] rfl, h⟩
    · have h := if_f c20 h
      refine lv_aload_n hx hb dX12_store_65 rfl (lv_at hl 0 rfl) ?_
      refine va_get (D := D) (ci := 12) (v := .ref (a 42)) (C := RX12) (T := TX12) (N := 116) hx hb ht inX12 hown hK hP 0 RW_0 rfl 42 (by decide) (ht (.fieldLink RX12 112 "CloneVolumesModel" "codeFrom" "[I") fl_X12_112) (fun _ h9 => h9) mF_42 dX12_store_66 ?_
      refine lv_iload_n hx hb dX12_store_69 rfl (lv_at hl 1 rfl) ?_
      refine lv_iconst (v := (-1)) hx hb dX12_store_70 (by decide) ?_
      obtain ⟨hi24, h⟩ := inb_e h
      refine ya_iast hx hb hK hP (hDD _) hS 33 0 RW_33 rfl hi24 dX12_store_71 (RW_w33 _) (fun H locs hP hS => ?_)
      obtain ⟨s25, hs25, h⟩ := st_e h
      rw [hs25] at hP
      refine lv_iinc (v := x18 + 1) (lv' := [(1, .int (x18 + 1)), (0, .ref (a 200))]) hx hb dX12_store_72 hl (k := 1) rfl rfl (by decide) rfl (fun ls hl => ?_)
      refine lv_goto (tgt := 60) hx hb dX12_store_75 (by decide) ?_
      exact ih60 (x18 + 1, s25) _ _ _ ⟨hP, hS, lv_sub hl [1, 0] rfl, h⟩
  refine y_loop (pcJ := 40) (σ := Int32 × MS) (fun n u H locs ls => va_P D vwCl (RW D a u.2) H ∧ va_S A s₀.heap H locs ∧ lv_has ls 2 [(0, .ref (a 200)), (1, .int u.1)] ∧ m_x12_store_L40 n u.1 u.2 = some o) (fun u => []) (fun u H locs ls hI => by obtain ⟨_, _, _, h⟩ := hI; cases h) (fun n40 ih40 u H locs ls hI => ?_) (fun J40 => ?_)
  · obtain ⟨hP, hS, hl, h⟩ := hI
    obtain ⟨x26, s27⟩ := u
    have hP : va_P D vwCl (RW D a s27) H := hP
    have hl : lv_has ls 2 [(0, .ref (a 200)), (1, .int x26)] := hl
    have h : m_x12_store_b40 (m_x12_store_L40 n40) x26 s27 = some o := h
    unfold m_x12_store_b40 at h
    refine lv_iload_n hx hb dX12_store_40 rfl (lv_at hl 1 rfl) ?_
    refine lv_iconst (v := 5) hx hb dX12_store_41 (by decide) ?_
    refine lv_icmp_ge (tgt := 58) hx hb dX12_store_42 (by decide) (fun c28 => ?_) (fun c28 => ?_)
    · have h := if_t c28 h
      refine lv_iconst (v := 0) hx hb dX12_store_58 (by decide) ?_
      refine lv_istore_n (lv' := [(1, .int 0), (0, .ref (a 200))]) hx hb dX12_store_59 rfl hl (by decide) rfl (fun ls hl => ?_)
      exact J60 FU (0, s27) _ _ _ ⟨hP, hS, lv_sub hl [1, 0] rfl, h⟩
    · have h := if_f c28 h
      refine lv_aload_n hx hb dX12_store_45 rfl (lv_at hl 0 rfl) ?_
      refine va_get (D := D) (ci := 12) (v := .ref (a 39)) (C := RX12) (T := TX12) (N := 116) hx hb ht inX12 hown hK hP 0 RW_0 rfl 39 (by decide) (ht (.fieldLink RX12 102 "CloneVolumesModel" "many" "[I") fl_X12_102) (fun _ h9 => h9) mF_39 dX12_store_46 ?_
      refine lv_iload_n hx hb dX12_store_49 rfl (lv_at hl 1 rfl) ?_
      refine lv_iconst (v := 0) hx hb dX12_store_50 (by decide) ?_
      obtain ⟨hi29, h⟩ := inb_e h
      refine ya_iast hx hb hK hP (hDD _) hS 30 0 RW_30 rfl hi29 dX12_store_51 (RW_w30 _) (fun H locs hP hS => ?_)
      obtain ⟨s30, hs30, h⟩ := st_e h
      rw [hs30] at hP
      refine lv_iinc (v := x26 + 1) (lv' := [(1, .int (x26 + 1)), (0, .ref (a 200))]) hx hb dX12_store_52 hl (k := 1) rfl rfl (by decide) rfl (fun ls hl => ?_)
      refine lv_goto (tgt := 40) hx hb dX12_store_55 (by decide) ?_
      exact ih40 (x26 + 1, s30) _ _ _ ⟨hP, hS, lv_sub hl [1, 0] rfl, h⟩
  refine lv_aload_n hx hb dX12_store_0 rfl (lv_at hl 0 rfl) ?_
  refine lv_aload_n hx hb dX12_store_1 rfl (lv_at hl 0 rfl) ?_
  refine va_get (D := D) (ci := 12) (v := .int (gI s 1)) (C := RX12) (T := TX12) (N := 116) hx hb ht inX12 hown hK hP 0 RW_0 rfl 1 (by decide) (ht (.fieldLink RX12 263 "CloneVolumesModel" "taped" "I") fl_X12_263) (fun _ h9 => h9) mF_1 dX12_store_2 ?_
  refine ya_put (D := D) (ci := 12) (v := .int (gI s 1)) (ty := .int) (C := RX12) (T := TX12) (N := 116) hx hb ht inX12 tyX12 tyX12_ok nmX12 hown hK hP (hDD _) hS 0 RW_0 rfl 3 (by decide) (ht (.fieldLink RX12 275 "CloneVolumesModel" "end" "I") fl_X12_275) (fun _ h9 => h9) rfl (by decide +kernel) rfl rfl (by rw [mF_len]; decide) dX12_store_5 (RW_f3 _) (fun H locs hP hS => ?_)
  obtain ⟨s31, hs31, h⟩ := st_e h
  rw [hs31] at hP
  refine lv_aload_n hx hb dX12_store_8 rfl (lv_at hl 0 rfl) ?_
  refine lv_iconst (v := 0) hx hb dX12_store_9 (by decide) ?_
  refine ya_put (D := D) (ci := 12) (v := .int 0) (ty := .int) (C := RX12) (T := TX12) (N := 116) hx hb ht inX12 tyX12 tyX12_ok nmX12 hown hK hP (hDD _) hS 0 RW_0 rfl 1 (by decide) (ht (.fieldLink RX12 263 "CloneVolumesModel" "taped" "I") fl_X12_263) (fun _ h9 => h9) rfl (by decide +kernel) rfl rfl (by rw [mF_len]; decide) dX12_store_10 (RW_f1 _) (fun H locs hP hS => ?_)
  obtain ⟨s32, hs32, h⟩ := st_e h
  rw [hs32] at hP
  refine lv_aload_n hx hb dX12_store_13 rfl (lv_at hl 0 rfl) ?_
  refine lv_iconst (v := 0) hx hb dX12_store_14 (by decide) ?_
  refine ya_put (D := D) (ci := 12) (v := .int 0) (ty := .int) (C := RX12) (T := TX12) (N := 116) hx hb ht inX12 tyX12 tyX12_ok nmX12 hown hK hP (hDD _) hS 0 RW_0 rfl 2 (by decide) (ht (.fieldLink RX12 272 "CloneVolumesModel" "at" "I") fl_X12_272) (fun _ h9 => h9) rfl (by decide +kernel) rfl rfl (by rw [mF_len]; decide) dX12_store_15 (RW_f2 _) (fun H locs hP hS => ?_)
  obtain ⟨s33, hs33, h⟩ := st_e h
  rw [hs33] at hP
  refine lv_aload_n hx hb dX12_store_18 rfl (lv_at hl 0 rfl) ?_
  refine lv_iconst (v := (-1)) hx hb dX12_store_19 (by decide) ?_
  refine ya_put (D := D) (ci := 12) (v := .int (-1)) (ty := .int) (C := RX12) (T := TX12) (N := 116) hx hb ht inX12 tyX12 tyX12_ok nmX12 hown hK hP (hDD _) hS 0 RW_0 rfl 4 (by decide) (ht (.fieldLink RX12 286 "CloneVolumesModel" "ended" "I") fl_X12_286) (fun _ h9 => h9) rfl (by decide +kernel) rfl rfl (by rw [mF_len]; decide) dX12_store_20 (RW_f4 _) (fun H locs hP hS => ?_)
  obtain ⟨s34, hs34, h⟩ := st_e h
  rw [hs34] at hP
  refine lv_aload_n hx hb dX12_store_23 rfl (lv_at hl 0 rfl) ?_
  refine lv_iconst (v := 0) hx hb dX12_store_24 (by decide) ?_
  refine ya_put (D := D) (ci := 12) (v := .int 0) (ty := .int) (C := RX12) (T := TX12) (N := 116) hx hb ht inX12 tyX12 tyX12_ok nmX12 hown hK hP (hDD _) hS 0 RW_0 rfl 5 (by decide) (ht (.fieldLink RX12 266 "CloneVolumesModel" "bad" "I") fl_X12_266) (fun _ h9 => h9) rfl (by decide +kernel) rfl rfl (by rw [mF_len]; decide) dX12_store_25 (RW_f5 _) (fun H locs hP hS => ?_)
  obtain ⟨s35, hs35, h⟩ := st_e h
  rw [hs35] at hP
  refine lv_aload_n hx hb dX12_store_28 rfl (lv_at hl 0 rfl) ?_
  refine lv_iconst (v := (-1)) hx hb dX12_store_29 (by decide) ?_
  refine ya_put (D := D) (ci := 12) (v := .int (-1)) (ty := .int) (C := RX12) (T := TX12) (N := 116) hx hb ht inX12 tyX12 tyX12_ok nmX12 hown hK hP (hDD _) hS 0 RW_0 rfl 6 (by decide) (ht (.fieldLink RX12 269 "CloneVolumesModel" "badPlace" "I") fl_X12_269) (fun _ h9 => h9) rfl (by decide +kernel) rfl rfl (by rw [mF_len]; decide) dX12_store_30 (RW_f6 _) (fun H locs hP hS => ?_)
  obtain ⟨s36, hs36, h⟩ := st_e h
  rw [hs36] at hP
  refine lv_aload_n hx hb dX12_store_33 rfl (lv_at hl 0 rfl) ?_
  refine lv_iconst (v := 0) hx hb dX12_store_34 (by decide) ?_
  refine ya_put (D := D) (ci := 12) (v := .int 0) (ty := .int) (C := RX12) (T := TX12) (N := 116) hx hb ht inX12 tyX12 tyX12_ok nmX12 hown hK hP (hDD _) hS 0 RW_0 rfl 45 (by decide) (ht (.fieldLink RX12 371 "CloneVolumesModel" "coded" "I") fl_X12_371) (fun _ h9 => h9) rfl (by decide +kernel) rfl rfl (by rw [mF_len]; decide) dX12_store_35 (RW_f45 _) (fun H locs hP hS => ?_)
  obtain ⟨s37, hs37, h⟩ := st_e h
  rw [hs37] at hP
  refine lv_iconst (v := 0) hx hb dX12_store_38 (by decide) ?_
  refine lv_istore_n (lv' := [(1, .int 0), (0, .ref (a 200))]) hx hb dX12_store_39 rfl hl (by decide) rfl (fun ls hl => ?_)
  exact J40 FU (0, s37) _ _ _ ⟨hP, hS, lv_sub hl [1, 0] rfl, h⟩
def m_x12_fault_J24 (s : MS) (x1 : Int32) : Option Int32 :=
  some x1
def m_x12_fault (p0 : Int32) (s : MS) : Option Int32 :=
  if p0 = 0 then m_x12_fault_J24 s (gI s 7) else if p0 = 1 then m_x12_fault_J24 s (gI s 8) else m_x12_fault_J24 s (-1)
set_option maxHeartbeats 4000000 in
set_option maxRecDepth 100000 in
theorem k_x12_fault (l : Launch) (D : va_G) (a : Nat → Nat) (p0 : Int32) (s : MS) (o : Int32) (h : m_x12_fault p0 s = some o) : yRi l yX12_fault cX12_fault 2 (some .int) { frames := 0, cells := 0, slots := 0, locals := 0 } D [.ref (a 200), .int p0] (RW D a s) o := by
  refine Met.ofW (cc := cX12_fault) (maxL := 2) (ret := (some .int)) (by decide) rfl ?_
  intro p e s₀ m args below meth c s₁ B hml hv
  obtain ⟨rfl, ⟨hP, hK⟩, hN⟩ := hv
  have hx := B.exec
  have hb := B.bytes
  have hr := B.returns
  have hts := atoms_spec (ws := wz yX12_fault cX12_fault 2 (some .int)) B.pre
  have ht : ∀ w ∈ lw_gd, w.before _ s₀ = true := fun w h => hts w (List.mem_cons_of_mem _ h)
  have hown : s₀.vm.findClass RX12 = some m.cls := findClass_of_methodNamed B.named
  have hlocks := B.notSynchronized
  have hS : va_S (fun _ => False) s₀.heap s₀.heap [] := va_S.rf
  have hl := lv_entry ([.ref (a 200), .int p0]) (n := 2) (Nat.le_of_ble_eq_true rfl)
  rw [lg_entry_eq]
  generalize (lg_sl ([.ref (a 200), .int p0]) ++ List.replicate (2 - (lg_sl ([.ref (a 200), .int p0])).length) Slot.unset).toArray = ls at hl ⊢
  have hl : lv_has ls 2 [(0, .ref (a 200)), (1, .int p0)] := hl
  unfold m_x12_fault at h
  refine y_head (pcJ := 24) (σ := Int32) (fun u H locs ls => va_P D vwCl (RW D a s) H ∧ va_S (fun _ => False) s₀.heap H locs ∧ lv_has ls 2 [] ∧ m_x12_fault_J24 s u = some o) (fun u => [.int u]) (fun u H locs ls hI => ?_) (fun J24 => ?_)
  · obtain ⟨hP, hS, hl, h⟩ := hI
    obtain ⟨x1, rfl⟩ : ∃ z, z = u := ⟨u, rfl⟩
    have hP : va_P D vwCl (RW D a s) H := hP
    have hl : lv_has ls 2 [] := hl
    have h : m_x12_fault_J24 s x1 = some o := h
    unfold m_x12_fault_J24 at h
    obtain rfl := Option.some.inj h
    exact W.iret (v := x1) hx hb hr (fun t ht hW => ⟨⟨_, (), rfl, rfl, trivial⟩, hS.F ht⟩) hS.2.2 dX12_fault_24
  refine lv_iload_n hx hb dX12_fault_0 rfl (lv_at hl 1 rfl) ?_
  refine lv_if_ne (tgt := 11) hx hb dX12_fault_1 (by decide) (fun c2 => ?_) (fun c2 => ?_)
  · have h := if_f c2 h
    refine lv_iload_n hx hb dX12_fault_11 rfl (lv_at hl 1 rfl) ?_
    refine lv_iconst (v := 1) hx hb dX12_fault_12 (by decide) ?_
    refine lv_icmp_ne (tgt := 23) hx hb dX12_fault_13 (by decide) (fun c3 => ?_) (fun c3 => ?_)
    · have h := if_f c3 h
      refine lv_iconst (v := (-1)) hx hb dX12_fault_23 (by decide) ?_
      exact J24 (-1) _ _ _ ⟨hP, hS, lv_sub hl [] rfl, h⟩
    · have h := if_t c3 h
      refine lv_aload_n hx hb dX12_fault_16 rfl (lv_at hl 0 rfl) ?_
      refine va_get (D := D) (ci := 12) (v := .int (gI s 8)) (C := RX12) (T := TX12) (N := 116) hx hb ht inX12 hown hK hP 0 RW_0 rfl 8 (by decide) (ht (.fieldLink RX12 13 "CloneVolumesModel" "faultPlace" "I") fl_X12_13) (fun _ h9 => h9) mF_8 dX12_fault_17 ?_
      refine lv_goto (tgt := 24) hx hb dX12_fault_20 (by decide) ?_
      exact J24 (gI s 8) _ _ _ ⟨hP, hS, lv_sub hl [] rfl, h⟩
  · have h := if_t c2 h
    refine lv_aload_n hx hb dX12_fault_4 rfl (lv_at hl 0 rfl) ?_
    refine va_get (D := D) (ci := 12) (v := .int (gI s 7)) (C := RX12) (T := TX12) (N := 116) hx hb ht inX12 hown hK hP 0 RW_0 rfl 7 (by decide) (ht (.fieldLink RX12 396 "CloneVolumesModel" "fault" "I") fl_X12_396) (fun _ h9 => h9) mF_7 dX12_fault_5 ?_
    refine lv_goto (tgt := 24) hx hb dX12_fault_8 (by decide) ?_
    exact J24 (gI s 7) _ _ _ ⟨hP, hS, lv_sub hl [] rfl, h⟩
def m_x12_isBlock (p0 : Int64) (s : MS) : Option Int32 :=
  bn (m_x12_blockMany s) (fun r2 => bn (m_x12_isIn p0 0 (Int32.toInt64 (r2 - 1)) s) (fun r4 => bo r4 (some r4)))
set_option maxHeartbeats 4000000 in
set_option maxRecDepth 100000 in
theorem k_x12_isBlock (l : Launch) (D : va_G) (a : Nat → Nat) (p0 : Int64) (s : MS) (o : Int32) (h : m_x12_isBlock p0 s = some o) : yRi l yX12_isBlock cX12_isBlock 3 (some .boolean) { frames := 1, cells := 0, slots := 0, locals := 60 } D [.ref (a 200), .long p0] (RW D a s) o := by
  refine Met.ofW (cc := cX12_isBlock) (maxL := 3) (ret := (some .boolean)) (by decide) rfl ?_
  intro p e s₀ m args below meth c s₁ B hml hv
  obtain ⟨rfl, ⟨hP, hK⟩, hN⟩ := hv
  have hx := B.exec
  have hb := B.bytes
  have hr := B.returns
  have hts := atoms_spec (ws := wz yX12_isBlock cX12_isBlock 3 (some .boolean)) B.pre
  have ht : ∀ w ∈ lw_gd, w.before _ s₀ = true := fun w h => hts w (List.mem_cons_of_mem _ h)
  have hown : s₀.vm.findClass RX12 = some m.cls := findClass_of_methodNamed B.named
  have hlocks := B.notSynchronized
  have hS : va_S (fun _ => False) s₀.heap s₀.heap [] := va_S.rf
  have hl := lv_entry ([.ref (a 200), .long p0]) (n := 3) (Nat.le_of_ble_eq_true rfl)
  rw [lg_entry_eq]
  generalize (lg_sl ([.ref (a 200), .long p0]) ++ List.replicate (3 - (lg_sl ([.ref (a 200), .long p0])).length) Slot.unset).toArray = ls at hl ⊢
  have hl : lv_has ls 3 [(0, .ref (a 200)), (1, .long p0)] := hl
  unfold m_x12_isBlock at h
  refine lv_lload_n hx hb dX12_isBlock_0 rfl (lv_at hl 1 rfl) ?_
  refine lv_lconst (v := 0) hx hb dX12_isBlock_1 (by decide) ?_
  refine lv_aload_n hx hb dX12_isBlock_2 rfl (lv_at hl 0 rfl) ?_
  obtain ⟨r2, hc1, h⟩ := bn_e h
  refine ycV (As := []) (rest := [.long 0, .long p0]) (C := RX12) (n := 0) ⟨hx, hb, hml, hown, ht⟩ (k_x12_blockMany l D a _ _ hc1) (zgV ml_X12_429 im_X12_blockMany se_X12_blockMany in_X12 co_X12_blockMany) rfl rfl (by decide +kernel) ⟨Nat.le_of_ble_eq_true rfl, Nat.le_of_ble_eq_true rfl⟩ hN hK hP hS 0 RW_0 rfl rfl rfl hl.1 rfl (Nat.le_of_ble_eq_true rfl) dX12_isBlock_3 ⟨Nat.le_of_ble_eq_true rfl, Nat.le_of_ble_eq_true rfl⟩ (fun H locs hP hS => ?_)
  refine lv_iconst (v := 1) hx hb dX12_isBlock_6 (by decide) ?_
  refine lv_isub hx hb dX12_isBlock_7 ?_
  refine lv_i2l (v := Int32.toInt64 (r2 - 1)) hx hb dX12_isBlock_8 rfl ?_
  obtain ⟨r4, hc3, h⟩ := bn_e h
  refine ycS (As := [.long p0, .long 0, .long (Int32.toInt64 (r2 - 1))]) (rest := []) (n := 3) ⟨hx, hb, hml, hown, ht⟩ (k_x12_isIn l D a p0 0 (Int32.toInt64 (r2 - 1)) _ _ hc3) (zgT ml_X12_309 st_X12_isIn in_X12 co_X12_isIn) rfl rfl (by decide +kernel) ⟨Nat.le_of_ble_eq_true rfl, Nat.le_of_ble_eq_true rfl⟩ hN hK hP hS rfl hl.1 rfl (Nat.le_of_ble_eq_true rfl) dX12_isBlock_9 ⟨Nat.le_of_ble_eq_true rfl, Nat.le_of_ble_eq_true rfl⟩ (fun H locs hP hS => ?_)
  obtain ⟨hb5, h⟩ := bo_e h
  obtain rfl := Option.some.inj h
  exact W.zret (v := r4) hx hb hr (bo_n hb5) (fun t ht hW => ⟨⟨_, (), rfl, rfl, trivial⟩, hS.F ht⟩) hS.2.2 dX12_isBlock_12
def m_x12_isHeld_J21 (s : MS) (x1 : Int32) : Option Int32 :=
  bo x1 (some x1)
def m_x12_isHeld_J20 (s : MS) (_u : Unit) : Option Int32 :=
  m_x12_isHeld_J21 s 0
def m_x12_isHeld (p0 : Int32) (s : MS) : Option Int32 :=
  bn (m_x12_isUsed p0 s) (fun r4 => if r4 = 0 then bn (m_x12_savedOf p0 s) (fun r7 => if r7 ≤ 0 then m_x12_isHeld_J20 s () else m_x12_isHeld_J21 s 1) else m_x12_isHeld_J20 s ())
set_option maxHeartbeats 4000000 in
set_option maxRecDepth 100000 in
theorem k_x12_isHeld (l : Launch) (D : va_G) (a : Nat → Nat) (p0 : Int32) (s : MS) (o : Int32) (h : m_x12_isHeld p0 s = some o) : yRi l yX12_isHeld cX12_isHeld 2 (some .boolean) { frames := 2, cells := 0, slots := 0, locals := 120 } D [.ref (a 200), .int p0] (RW D a s) o := by
  refine Met.ofW (cc := cX12_isHeld) (maxL := 2) (ret := (some .boolean)) (by decide) rfl ?_
  intro p e s₀ m args below meth c s₁ B hml hv
  obtain ⟨rfl, ⟨hP, hK⟩, hN⟩ := hv
  have hx := B.exec
  have hb := B.bytes
  have hr := B.returns
  have hts := atoms_spec (ws := wz yX12_isHeld cX12_isHeld 2 (some .boolean)) B.pre
  have ht : ∀ w ∈ lw_gd, w.before _ s₀ = true := fun w h => hts w (List.mem_cons_of_mem _ h)
  have hown : s₀.vm.findClass RX12 = some m.cls := findClass_of_methodNamed B.named
  have hlocks := B.notSynchronized
  have hS : va_S (fun _ => False) s₀.heap s₀.heap [] := va_S.rf
  have hl := lv_entry ([.ref (a 200), .int p0]) (n := 2) (Nat.le_of_ble_eq_true rfl)
  rw [lg_entry_eq]
  generalize (lg_sl ([.ref (a 200), .int p0]) ++ List.replicate (2 - (lg_sl ([.ref (a 200), .int p0])).length) Slot.unset).toArray = ls at hl ⊢
  have hl : lv_has ls 2 [(0, .ref (a 200)), (1, .int p0)] := hl
  unfold m_x12_isHeld at h
  refine y_head (pcJ := 21) (σ := Int32) (fun u H locs ls => va_P D vwCl (RW D a s) H ∧ va_S (fun _ => False) s₀.heap H locs ∧ lv_has ls 2 [] ∧ m_x12_isHeld_J21 s u = some o) (fun u => [.int u]) (fun u H locs ls hI => ?_) (fun J21 => ?_)
  · obtain ⟨hP, hS, hl, h⟩ := hI
    obtain ⟨x1, rfl⟩ : ∃ z, z = u := ⟨u, rfl⟩
    have hP : va_P D vwCl (RW D a s) H := hP
    have hl : lv_has ls 2 [] := hl
    have h : m_x12_isHeld_J21 s x1 = some o := h
    unfold m_x12_isHeld_J21 at h
    obtain ⟨hb2, h⟩ := bo_e h
    obtain rfl := Option.some.inj h
    exact W.zret (v := x1) hx hb hr (bo_n hb2) (fun t ht hW => ⟨⟨_, (), rfl, rfl, trivial⟩, hS.F ht⟩) hS.2.2 dX12_isHeld_21
  refine y_head (pcJ := 20) (σ := Unit) (fun u H locs ls => va_P D vwCl (RW D a s) H ∧ va_S (fun _ => False) s₀.heap H locs ∧ lv_has ls 2 [] ∧ m_x12_isHeld_J20 s u = some o) (fun u => []) (fun u H locs ls hI => ?_) (fun J20 => ?_)
  · obtain ⟨hP, hS, hl, h⟩ := hI
    skip
    have hP : va_P D vwCl (RW D a s) H := hP
    have hl : lv_has ls 2 [] := hl
    have h : m_x12_isHeld_J20 s () = some o := h
    unfold m_x12_isHeld_J20 at h
    refine lv_iconst (v := 0) hx hb dX12_isHeld_20 (by decide) ?_
    exact J21 0 _ _ _ ⟨hP, hS, lv_sub hl [] rfl, h⟩
  refine lv_aload_n hx hb dX12_isHeld_0 rfl (lv_at hl 0 rfl) ?_
  refine lv_iload_n hx hb dX12_isHeld_1 rfl (lv_at hl 1 rfl) ?_
  obtain ⟨r4, hc3, h⟩ := bn_e h
  refine ycV (As := [.int p0]) (rest := []) (C := RX12) (n := 1) ⟨hx, hb, hml, hown, ht⟩ (k_x12_isUsed l D a p0 _ _ hc3) (zgV ml_X12_435 im_X12_isUsed se_X12_isUsed in_X12 co_X12_isUsed) rfl rfl (by decide +kernel) ⟨Nat.le_of_ble_eq_true rfl, Nat.le_of_ble_eq_true rfl⟩ hN hK hP hS 0 RW_0 rfl rfl rfl hl.1 rfl (Nat.le_of_ble_eq_true rfl) dX12_isHeld_2 ⟨Nat.le_of_ble_eq_true rfl, Nat.le_of_ble_eq_true rfl⟩ (fun H locs hP hS => ?_)
  refine lv_if_ne (tgt := 20) hx hb dX12_isHeld_5 (by decide) (fun c5 => ?_) (fun c5 => ?_)
  · have h := if_f c5 h
    exact J20 () _ _ _ ⟨hP, hS, lv_sub hl [] rfl, h⟩
  · have h := if_t c5 h
    refine lv_aload_n hx hb dX12_isHeld_8 rfl (lv_at hl 0 rfl) ?_
    refine lv_iload_n hx hb dX12_isHeld_9 rfl (lv_at hl 1 rfl) ?_
    obtain ⟨r7, hc6, h⟩ := bn_e h
    refine ycV (As := [.int p0]) (rest := []) (C := RX12) (n := 1) ⟨hx, hb, hml, hown, ht⟩ (k_x12_savedOf l D a p0 _ _ hc6) (zgV ml_X12_438 im_X12_savedOf se_X12_savedOf in_X12 co_X12_savedOf) rfl rfl (by decide +kernel) ⟨Nat.le_of_ble_eq_true rfl, Nat.le_of_ble_eq_true rfl⟩ hN hK hP hS 0 RW_0 rfl rfl rfl hl.1 rfl (Nat.le_of_ble_eq_true rfl) dX12_isHeld_10 ⟨Nat.le_of_ble_eq_true rfl, Nat.le_of_ble_eq_true rfl⟩ (fun H locs hP hS => ?_)
    refine lv_if_le (tgt := 20) hx hb dX12_isHeld_13 (by decide) (fun c8 => ?_) (fun c8 => ?_)
    · have h := if_t c8 h
      exact J20 () _ _ _ ⟨hP, hS, lv_sub hl [] rfl, h⟩
    · have h := if_f c8 h
      refine lv_iconst (v := 1) hx hb dX12_isHeld_16 (by decide) ?_
      refine lv_goto (tgt := 21) hx hb dX12_isHeld_17 (by decide) ?_
      exact J21 1 _ _ _ ⟨hP, hS, lv_sub hl [] rfl, h⟩
def m_x12_isVolume_J36 (s : MS) (x1 : Int32) : Option Int32 :=
  bo x1 (some x1)
def m_x12_isVolume_J35 (s : MS) (_u : Unit) : Option Int32 :=
  m_x12_isVolume_J36 s 0
def m_x12_isVolume (p0 : Int64) (s : MS) : Option Int32 :=
  bn (m_x12_isIn p0 0 7 s) (fun r4 => if r4 = 0 then m_x12_isVolume_J35 s () else if (gI s 47) = 0 then m_x12_isVolume_J35 s () else rdI (gA s 49) 906 (Int64.toInt32 p0) (fun y7 => if y7 = 255 then m_x12_isVolume_J35 s () else m_x12_isVolume_J36 s 1))
set_option maxHeartbeats 4000000 in
set_option maxRecDepth 100000 in
theorem k_x12_isVolume (l : Launch) (D : va_G) (a : Nat → Nat) (p0 : Int64) (s : MS) (o : Int32) (h : m_x12_isVolume p0 s = some o) : yRi l yX12_isVolume cX12_isVolume 3 (some .boolean) { frames := 1, cells := 0, slots := 0, locals := 60 } D [.ref (a 200), .long p0] (RW D a s) o := by
  refine Met.ofW (cc := cX12_isVolume) (maxL := 3) (ret := (some .boolean)) (by decide) rfl ?_
  intro p e s₀ m args below meth c s₁ B hml hv
  obtain ⟨rfl, ⟨hP, hK⟩, hN⟩ := hv
  have hx := B.exec
  have hb := B.bytes
  have hr := B.returns
  have hts := atoms_spec (ws := wz yX12_isVolume cX12_isVolume 3 (some .boolean)) B.pre
  have ht : ∀ w ∈ lw_gd, w.before _ s₀ = true := fun w h => hts w (List.mem_cons_of_mem _ h)
  have hown : s₀.vm.findClass RX12 = some m.cls := findClass_of_methodNamed B.named
  have hlocks := B.notSynchronized
  have hS : va_S (fun _ => False) s₀.heap s₀.heap [] := va_S.rf
  have hl := lv_entry ([.ref (a 200), .long p0]) (n := 3) (Nat.le_of_ble_eq_true rfl)
  rw [lg_entry_eq]
  generalize (lg_sl ([.ref (a 200), .long p0]) ++ List.replicate (3 - (lg_sl ([.ref (a 200), .long p0])).length) Slot.unset).toArray = ls at hl ⊢
  have hl : lv_has ls 3 [(0, .ref (a 200)), (1, .long p0)] := hl
  unfold m_x12_isVolume at h
  refine y_head (pcJ := 36) (σ := Int32) (fun u H locs ls => va_P D vwCl (RW D a s) H ∧ va_S (fun _ => False) s₀.heap H locs ∧ lv_has ls 3 [] ∧ m_x12_isVolume_J36 s u = some o) (fun u => [.int u]) (fun u H locs ls hI => ?_) (fun J36 => ?_)
  · obtain ⟨hP, hS, hl, h⟩ := hI
    obtain ⟨x1, rfl⟩ : ∃ z, z = u := ⟨u, rfl⟩
    have hP : va_P D vwCl (RW D a s) H := hP
    have hl : lv_has ls 3 [] := hl
    have h : m_x12_isVolume_J36 s x1 = some o := h
    unfold m_x12_isVolume_J36 at h
    obtain ⟨hb2, h⟩ := bo_e h
    obtain rfl := Option.some.inj h
    exact W.zret (v := x1) hx hb hr (bo_n hb2) (fun t ht hW => ⟨⟨_, (), rfl, rfl, trivial⟩, hS.F ht⟩) hS.2.2 dX12_isVolume_36
  refine y_head (pcJ := 35) (σ := Unit) (fun u H locs ls => va_P D vwCl (RW D a s) H ∧ va_S (fun _ => False) s₀.heap H locs ∧ lv_has ls 3 [] ∧ m_x12_isVolume_J35 s u = some o) (fun u => []) (fun u H locs ls hI => ?_) (fun J35 => ?_)
  · obtain ⟨hP, hS, hl, h⟩ := hI
    skip
    have hP : va_P D vwCl (RW D a s) H := hP
    have hl : lv_has ls 3 [] := hl
    have h : m_x12_isVolume_J35 s () = some o := h
    unfold m_x12_isVolume_J35 at h
    refine lv_iconst (v := 0) hx hb dX12_isVolume_35 (by decide) ?_
    exact J36 0 _ _ _ ⟨hP, hS, lv_sub hl [] rfl, h⟩
  refine lv_lload_n hx hb dX12_isVolume_0 rfl (lv_at hl 1 rfl) ?_
  refine lv_lconst (v := 0) hx hb dX12_isVolume_1 (by decide) ?_
  refine lv_ldc2 (own := RX12) (v := 7) hx hb hown (ht _ cl_X12_441) dX12_isVolume_2 ?_
  obtain ⟨r4, hc3, h⟩ := bn_e h
  refine ycS (As := [.long p0, .long 0, .long 7]) (rest := []) (n := 3) ⟨hx, hb, hml, hown, ht⟩ (k_x12_isIn l D a p0 0 7 _ _ hc3) (zgT ml_X12_309 st_X12_isIn in_X12 co_X12_isIn) rfl rfl (by decide +kernel) ⟨Nat.le_of_ble_eq_true rfl, Nat.le_of_ble_eq_true rfl⟩ hN hK hP hS rfl hl.1 rfl (Nat.le_of_ble_eq_true rfl) dX12_isVolume_5 ⟨Nat.le_of_ble_eq_true rfl, Nat.le_of_ble_eq_true rfl⟩ (fun H locs hP hS => ?_)
  refine lv_if_eq (tgt := 35) hx hb dX12_isVolume_8 (by decide) (fun c5 => ?_) (fun c5 => ?_)
  · have h := if_t c5 h
    exact J35 () _ _ _ ⟨hP, hS, lv_sub hl [] rfl, h⟩
  · have h := if_f c5 h
    refine lv_aload_n hx hb dX12_isVolume_11 rfl (lv_at hl 0 rfl) ?_
    refine va_get (D := D) (ci := 12) (v := .int (gI s 47)) (C := RX12) (T := TX12) (N := 116) hx hb ht inX12 hown hK hP 0 RW_0 rfl 47 (by decide) (ht (.fieldLink RX12 406 "CloneVolumesModel" "isTold" "Z") fl_X12_406) (fun _ h9 => h9) mF_47 dX12_isVolume_12 ?_
    refine lv_if_eq (tgt := 35) hx hb dX12_isVolume_15 (by decide) (fun c6 => ?_) (fun c6 => ?_)
    · have h := if_t c6 h
      exact J35 () _ _ _ ⟨hP, hS, lv_sub hl [] rfl, h⟩
    · have h := if_f c6 h
      refine lv_aload_n hx hb dX12_isVolume_18 rfl (lv_at hl 0 rfl) ?_
      refine va_get (D := D) (ci := 12) (v := .ref (a 49)) (C := RX12) (T := TX12) (N := 116) hx hb ht inX12 hown hK hP 0 RW_0 rfl 49 (by decide) (ht (.fieldLink RX12 121 "CloneVolumesModel" "now" "[I") fl_X12_121) (fun _ h9 => h9) mF_49 dX12_isVolume_19 ?_
      refine lv_lload_n hx hb dX12_isVolume_22 rfl (lv_at hl 1 rfl) ?_
      refine lv_l2i (v := Int64.toInt32 p0) hx hb dX12_isVolume_23 rfl ?_
      obtain ⟨y7, ey7, iy7, h⟩ := rdI_e h
      refine ya_iald hx hb hK hP 36 0 RW_36 rfl ey7 iy7 dX12_isVolume_24 ?_
      refine lv_sipush (v := 255) hx hb dX12_isVolume_25 (by decide) ?_
      refine lv_icmp_eq (tgt := 35) hx hb dX12_isVolume_28 (by decide) (fun c8 => ?_) (fun c8 => ?_)
      · have h := if_t c8 h
        exact J35 () _ _ _ ⟨hP, hS, lv_sub hl [] rfl, h⟩
      · have h := if_f c8 h
        refine lv_iconst (v := 1) hx hb dX12_isVolume_31 (by decide) ?_
        refine lv_goto (tgt := 36) hx hb dX12_isVolume_32 (by decide) ?_
        exact J36 1 _ _ _ ⟨hP, hS, lv_sub hl [] rfl, h⟩
def m_x12_clearsTouched_b2 (lr2 : Int32 → MS → Option MS) (x1 : Int32) (s2 : MS) : Option MS :=
  if 48 ≤ x1 then some s2 else inb 48 x1 (stn (sA s2 54 (upd (gA s2 54) (Int32.toNatClampNeg x1) (vp_nar .boolean 0))) (fun s5 => lr2 (x1 + 1) s5))
def m_x12_clearsTouched_L2 (n : Nat) : Int32 → MS → Option MS := lp (fun _ _ => none) (m_x12_clearsTouched_b2) n
def m_x12_clearsTouched (s : MS) : Option MS :=
  m_x12_clearsTouched_L2 FU 0 s
set_option maxHeartbeats 4000000 in
set_option maxRecDepth 100000 in
theorem k_x12_clearsTouched (l : Launch) (D : va_G) (a : Nat → Nat) (sz : Nat) (s : MS) (o : MS) (h : m_x12_clearsTouched s = some o) : yWv l yX12_clearsTouched cX12_clearsTouched 2 none { frames := 0, cells := 0, slots := 0, locals := 0 } D sz [.ref (a 200)] (RW D a s) (RW D a o) := by
  refine Met.ofW (cc := cX12_clearsTouched) (maxL := 2) (ret := none) (by decide) rfl ?_
  intro p e s₀ m args below meth c s₁ B hml hv
  obtain ⟨rfl, ⟨hsz, hP, hK, hD0⟩, hN⟩ := hv
  have hx := B.exec
  have hb := B.bytes
  have hr := B.returns
  have hts := atoms_spec (ws := wz yX12_clearsTouched cX12_clearsTouched 2 none) B.pre
  have ht : ∀ w ∈ lw_gd, w.before _ s₀ = true := fun w h => hts w (List.mem_cons_of_mem _ h)
  have hown : s₀.vm.findClass RX12 = some m.cls := findClass_of_methodNamed B.named
  have hlocks := B.notSynchronized
  subst hsz
  have hD := hD0.self (sz := s₀.heap.size)
  generalize hAe : va_A (RW D a s) s₀.heap.size = A at hD ⊢
  have hA : ∀ q : Nat, s₀.heap.size ≤ q → A q := fun q h => by rw [← hAe]; exact Or.inr h
  have hS : va_S A s₀.heap s₀.heap [] := va_S.rf
  have hDD : ∀ t : MS, va_D A (RW D a t) := fun t => RW_D t hD
  have hl := lv_entry ([.ref (a 200)]) (n := 2) (Nat.le_of_ble_eq_true rfl)
  rw [lg_entry_eq]
  generalize (lg_sl ([.ref (a 200)]) ++ List.replicate (2 - (lg_sl ([.ref (a 200)])).length) Slot.unset).toArray = ls at hl ⊢
  have hl : lv_has ls 2 [(0, .ref (a 200))] := hl
  unfold m_x12_clearsTouched at h
  refine y_loop (pcJ := 2) (σ := Int32 × MS) (fun n u H locs ls => va_P D vwCl (RW D a u.2) H ∧ va_S A s₀.heap H locs ∧ lv_has ls 2 [(0, .ref (a 200)), (1, .int u.1)] ∧ m_x12_clearsTouched_L2 n u.1 u.2 = some o) (fun u => []) (fun u H locs ls hI => by obtain ⟨_, _, _, h⟩ := hI; cases h) (fun n2 ih2 u H locs ls hI => ?_) (fun J2 => ?_)
  · obtain ⟨hP, hS, hl, h⟩ := hI
    obtain ⟨x1, s2⟩ := u
    have hP : va_P D vwCl (RW D a s2) H := hP
    have hl : lv_has ls 2 [(0, .ref (a 200)), (1, .int x1)] := hl
    have h : m_x12_clearsTouched_b2 (m_x12_clearsTouched_L2 n2) x1 s2 = some o := h
    unfold m_x12_clearsTouched_b2 at h
    refine lv_iload_n hx hb dX12_clearsTouched_2 rfl (lv_at hl 1 rfl) ?_
    refine lv_bipush (v := 48) hx hb dX12_clearsTouched_3 (by decide) ?_
    refine lv_icmp_ge (tgt := 21) hx hb dX12_clearsTouched_5 (by decide) (fun c3 => ?_) (fun c3 => ?_)
    · have h := if_t c3 h
      obtain rfl := Option.some.inj h
      exact W.vret hx hb hr (fun t ht hW => ⟨⟨(), rfl, trivial, by rw [ht]; exact hP, va_K.moved hW.alike hK, hDD _⟩, hS.F ht⟩) hS.2.2 dX12_clearsTouched_21
    · have h := if_f c3 h
      refine lv_aload_n hx hb dX12_clearsTouched_8 rfl (lv_at hl 0 rfl) ?_
      refine va_get (D := D) (ci := 12) (v := .ref (a 54)) (C := RX12) (T := TX12) (N := 116) hx hb ht inX12 hown hK hP 0 RW_0 rfl 54 (by decide) (ht (.fieldLink RX12 124 "CloneVolumesModel" "isTouched" "[Z") fl_X12_124) (fun _ h9 => h9) mF_54 dX12_clearsTouched_9 ?_
      refine lv_iload_n hx hb dX12_clearsTouched_12 rfl (lv_at hl 1 rfl) ?_
      refine lv_iconst (v := 0) hx hb dX12_clearsTouched_13 (by decide) ?_
      obtain ⟨hi4, h⟩ := inb_e h
      refine ya_zast hx hb hK hP (hDD _) hS 37 3 RW_37 rfl hi4 dX12_clearsTouched_14 (RW_w37 _) (fun H locs hP hS => ?_)
      obtain ⟨s5, hs5, h⟩ := st_e h
      rw [hs5] at hP
      refine lv_iinc (v := x1 + 1) (lv' := [(1, .int (x1 + 1)), (0, .ref (a 200))]) hx hb dX12_clearsTouched_15 hl (k := 1) rfl rfl (by decide) rfl (fun ls hl => ?_)
      refine lv_goto (tgt := 2) hx hb dX12_clearsTouched_18 (by decide) ?_
      exact ih2 (x1 + 1, s5) _ _ _ ⟨hP, hS, lv_sub hl [1, 0] rfl, h⟩
  refine lv_iconst (v := 0) hx hb dX12_clearsTouched_0 (by decide) ?_
  refine lv_istore_n (lv' := [(1, .int 0), (0, .ref (a 200))]) hx hb dX12_clearsTouched_1 rfl hl (by decide) rfl (fun ls hl => ?_)
  exact J2 FU (0, s) _ _ _ ⟨hP, hS, lv_sub hl [1, 0] rfl, h⟩
def m_x12_costOf_J43 (x1 : Int32) (s2 : MS) : Option (Int32 × MS) :=
  some (x1, s2)
def m_x12_costOf (p0 : Int32) (s : MS) : Option (Int32 × MS) :=
  stn (sI s 50 p0) (fun s3 => bn (m_x12_levelOf p0 s3) (fun r5 => stn (sI s3 52 r5) (fun s6 => bn (m_x12_entriesOf p0 s6) (fun r8 => stn (sI s6 53 r8) (fun s9 => bn (m_x12_isCoded 2 s9) (fun r11 => if r11 = 0 then m_x12_costOf_J43 1 s9 else bn (m_x12_codesTell 2 s9) (fun qrl15 => bn (m_x12_clamp qrl15.1 qrl15.2) (fun r17 => m_x12_costOf_J43 r17 qrl15.2))))))))
set_option maxHeartbeats 4000000 in
set_option maxRecDepth 100000 in
theorem k_x12_costOf (l : Launch) (D : va_G) (a : Nat → Nat) (p0 : Int32) (sz : Nat) (s : MS) (o : (Int32 × MS)) (h : m_x12_costOf p0 s = some o) : yWi l yX12_costOf cX12_costOf 2 (some .int) { frames := 5, cells := 0, slots := 0, locals := 300 } D sz [.ref (a 200), .int p0] (RW D a s) (RW D a o.2) o.1 := by
  refine Met.ofW (cc := cX12_costOf) (maxL := 2) (ret := (some .int)) (by decide) rfl ?_
  intro p e s₀ m args below meth c s₁ B hml hv
  obtain ⟨rfl, ⟨hsz, hP, hK, hD0⟩, hN⟩ := hv
  have hx := B.exec
  have hb := B.bytes
  have hr := B.returns
  have hts := atoms_spec (ws := wz yX12_costOf cX12_costOf 2 (some .int)) B.pre
  have ht : ∀ w ∈ lw_gd, w.before _ s₀ = true := fun w h => hts w (List.mem_cons_of_mem _ h)
  have hown : s₀.vm.findClass RX12 = some m.cls := findClass_of_methodNamed B.named
  have hlocks := B.notSynchronized
  subst hsz
  have hD := hD0.self (sz := s₀.heap.size)
  generalize hAe : va_A (RW D a s) s₀.heap.size = A at hD ⊢
  have hA : ∀ q : Nat, s₀.heap.size ≤ q → A q := fun q h => by rw [← hAe]; exact Or.inr h
  have hS : va_S A s₀.heap s₀.heap [] := va_S.rf
  have hDD : ∀ t : MS, va_D A (RW D a t) := fun t => RW_D t hD
  have hl := lv_entry ([.ref (a 200), .int p0]) (n := 2) (Nat.le_of_ble_eq_true rfl)
  rw [lg_entry_eq]
  generalize (lg_sl ([.ref (a 200), .int p0]) ++ List.replicate (2 - (lg_sl ([.ref (a 200), .int p0])).length) Slot.unset).toArray = ls at hl ⊢
  have hl : lv_has ls 2 [(0, .ref (a 200)), (1, .int p0)] := hl
  unfold m_x12_costOf at h
  refine y_head (pcJ := 43) (σ := Int32 × MS) (fun u H locs ls => va_P D vwCl (RW D a u.2) H ∧ va_S A s₀.heap H locs ∧ lv_has ls 2 [] ∧ m_x12_costOf_J43 u.1 u.2 = some o) (fun u => [.int u.1]) (fun u H locs ls hI => ?_) (fun J43 => ?_)
  · obtain ⟨hP, hS, hl, h⟩ := hI
    obtain ⟨x1, s2⟩ := u
    have hP : va_P D vwCl (RW D a s2) H := hP
    have hl : lv_has ls 2 [] := hl
    have h : m_x12_costOf_J43 x1 s2 = some o := h
    unfold m_x12_costOf_J43 at h
    obtain rfl := Option.some.inj h
    exact W.iret (v := x1) hx hb hr (fun t ht hW => ⟨⟨_, (), rfl, rfl, by rw [ht]; exact hP, va_K.moved hW.alike hK, hDD _⟩, hS.F ht⟩) hS.2.2 dX12_costOf_43
  refine lv_aload_n hx hb dX12_costOf_0 rfl (lv_at hl 0 rfl) ?_
  refine lv_iload_n hx hb dX12_costOf_1 rfl (lv_at hl 1 rfl) ?_
  refine ya_put (D := D) (ci := 12) (v := .int p0) (ty := .int) (C := RX12) (T := TX12) (N := 116) hx hb ht inX12 tyX12 tyX12_ok nmX12 hown hK hP (hDD _) hS 0 RW_0 rfl 50 (by decide) (ht (.fieldLink RX12 457 "CloneVolumesModel" "askBlock" "I") fl_X12_457) (fun _ h9 => h9) rfl (by decide +kernel) rfl rfl (by rw [mF_len]; decide) dX12_costOf_2 (RW_f50 _) (fun H locs hP hS => ?_)
  obtain ⟨s3, hs3, h⟩ := st_e h
  rw [hs3] at hP
  refine lv_aload_n hx hb dX12_costOf_5 rfl (lv_at hl 0 rfl) ?_
  refine lv_aload_n hx hb dX12_costOf_6 rfl (lv_at hl 0 rfl) ?_
  refine lv_iload_n hx hb dX12_costOf_7 rfl (lv_at hl 1 rfl) ?_
  obtain ⟨r5, hc4, h⟩ := bn_e h
  refine ycV (As := [.int p0]) (rest := [.ref (a 200)]) (C := RX12) (n := 1) ⟨hx, hb, hml, hown, ht⟩ (k_x12_levelOf l D a p0 _ _ hc4) (zgV ml_X12_460 im_X12_levelOf se_X12_levelOf in_X12 co_X12_levelOf) rfl rfl (by decide +kernel) ⟨Nat.le_of_ble_eq_true rfl, Nat.le_of_ble_eq_true rfl⟩ hN hK hP hS 0 RW_0 rfl rfl rfl hl.1 rfl (Nat.le_of_ble_eq_true rfl) dX12_costOf_8 ⟨Nat.le_of_ble_eq_true rfl, Nat.le_of_ble_eq_true rfl⟩ (fun H locs hP hS => ?_)
  refine ya_put (D := D) (ci := 12) (v := .int r5) (ty := .int) (C := RX12) (T := TX12) (N := 116) hx hb ht inX12 tyX12 tyX12_ok nmX12 hown hK hP (hDD _) hS 0 RW_0 rfl 52 (by decide) (ht (.fieldLink RX12 463 "CloneVolumesModel" "askLevel" "I") fl_X12_463) (fun _ h9 => h9) rfl (by decide +kernel) rfl rfl (by rw [mF_len]; decide) dX12_costOf_11 (RW_f52 _) (fun H locs hP hS => ?_)
  obtain ⟨s6, hs6, h⟩ := st_e h
  rw [hs6] at hP
  refine lv_aload_n hx hb dX12_costOf_14 rfl (lv_at hl 0 rfl) ?_
  refine lv_aload_n hx hb dX12_costOf_15 rfl (lv_at hl 0 rfl) ?_
  refine lv_iload_n hx hb dX12_costOf_16 rfl (lv_at hl 1 rfl) ?_
  obtain ⟨r8, hc7, h⟩ := bn_e h
  refine ycV (As := [.int p0]) (rest := [.ref (a 200)]) (C := RX12) (n := 1) ⟨hx, hb, hml, hown, ht⟩ (k_x12_entriesOf l D a p0 _ _ hc7) (zgV ml_X12_466 im_X12_entriesOf se_X12_entriesOf in_X12 co_X12_entriesOf) rfl rfl (by decide +kernel) ⟨Nat.le_of_ble_eq_true rfl, Nat.le_of_ble_eq_true rfl⟩ hN hK hP hS 0 RW_0 rfl rfl rfl hl.1 rfl (Nat.le_of_ble_eq_true rfl) dX12_costOf_17 ⟨Nat.le_of_ble_eq_true rfl, Nat.le_of_ble_eq_true rfl⟩ (fun H locs hP hS => ?_)
  refine ya_put (D := D) (ci := 12) (v := .int r8) (ty := .int) (C := RX12) (T := TX12) (N := 116) hx hb ht inX12 tyX12 tyX12_ok nmX12 hown hK hP (hDD _) hS 0 RW_0 rfl 53 (by decide) (ht (.fieldLink RX12 469 "CloneVolumesModel" "askEntries" "I") fl_X12_469) (fun _ h9 => h9) rfl (by decide +kernel) rfl rfl (by rw [mF_len]; decide) dX12_costOf_20 (RW_f53 _) (fun H locs hP hS => ?_)
  obtain ⟨s9, hs9, h⟩ := st_e h
  rw [hs9] at hP
  refine lv_aload_n hx hb dX12_costOf_23 rfl (lv_at hl 0 rfl) ?_
  refine lv_iconst (v := 2) hx hb dX12_costOf_24 (by decide) ?_
  obtain ⟨r11, hc10, h⟩ := bn_e h
  refine ycV (As := [.int 2]) (rest := []) (C := RX12) (n := 1) ⟨hx, hb, hml, hown, ht⟩ (k_x12_isCoded l D a 2 _ _ hc10) (zgV ml_X12_472 im_X12_isCoded se_X12_isCoded in_X12 co_X12_isCoded) rfl rfl (by decide +kernel) ⟨Nat.le_of_ble_eq_true rfl, Nat.le_of_ble_eq_true rfl⟩ hN hK hP hS 0 RW_0 rfl rfl rfl hl.1 rfl (Nat.le_of_ble_eq_true rfl) dX12_costOf_25 ⟨Nat.le_of_ble_eq_true rfl, Nat.le_of_ble_eq_true rfl⟩ (fun H locs hP hS => ?_)
  refine lv_if_eq (tgt := 42) hx hb dX12_costOf_28 (by decide) (fun c12 => ?_) (fun c12 => ?_)
  · have h := if_t c12 h
    refine lv_iconst (v := 1) hx hb dX12_costOf_42 (by decide) ?_
    exact J43 (1, s9) _ _ _ ⟨hP, hS, lv_sub hl [] rfl, h⟩
  · have h := if_f c12 h
    refine lv_aload_n hx hb dX12_costOf_31 rfl (lv_at hl 0 rfl) ?_
    refine lv_iconst (v := 2) hx hb dX12_costOf_32 (by decide) ?_
    obtain ⟨⟨rl15, s14⟩, hc13, h⟩ := bn_e h
    refine ywVl (r0 := rl15) (As := [.int 2]) (rest := []) (C := RX12) (n := 1) (ws' := RW D a s14) ⟨hx, hb, hml, hown, ht⟩ (k_x12_codesTell l D a 2 _ _ _ hc13) (zgV ml_X12_475 im_X12_codesTell se_X12_codesTell in_X12 co_X12_codesTell) rfl rfl (by decide +kernel) ⟨Nat.le_of_ble_eq_true rfl, Nat.le_of_ble_eq_true rfl⟩ hN hK hP (hDD _) hS hA 0 RW_0 rfl rfl rfl hl.1 rfl (Nat.le_of_ble_eq_true rfl) dX12_costOf_33 ⟨Nat.le_of_ble_eq_true rfl, Nat.le_of_ble_eq_true rfl⟩ (fun H locs hP hS => ?_)
    obtain ⟨r17, hc16, h⟩ := bn_e h
    refine ycS (As := [.long rl15]) (rest := []) (n := 1) ⟨hx, hb, hml, hown, ht⟩ (k_x12_clamp l D a rl15 _ _ hc16) (zgT ml_X12_479 st_X12_clamp in_X12 co_X12_clamp) rfl rfl (by decide +kernel) ⟨Nat.le_of_ble_eq_true rfl, Nat.le_of_ble_eq_true rfl⟩ hN hK hP hS rfl hl.1 rfl (Nat.le_of_ble_eq_true rfl) dX12_costOf_36 ⟨Nat.le_of_ble_eq_true rfl, Nat.le_of_ble_eq_true rfl⟩ (fun H locs hP hS => ?_)
    refine lv_goto (tgt := 43) hx hb dX12_costOf_39 (by decide) ?_
    exact J43 (r17, s14) _ _ _ ⟨hP, hS, lv_sub hl [] rfl, h⟩
def m_x12_writtenMany_J32 (s : MS) (lr4 : Int32 → Int32 → Option Int32) (x3 : Int32) (x4 : Int32) : Option Int32 :=
  lr4 x3 (x4 + 1)
def m_x12_writtenMany_b4 (s : MS) (lr4 : Int32 → Int32 → Option Int32) (x1 : Int32) (x2 : Int32) : Option Int32 :=
  bn (m_x12_blockMany s) (fun r6 => if r6 ≤ x2 then some x1 else rdI (gA s 54) 48 x2 (fun y8 => if y8 = 0 then m_x12_writtenMany_J32 s lr4 x1 x2 else bn (m_x12_isUsed x2 s) (fun r11 => if r11 = 0 then m_x12_writtenMany_J32 s lr4 x1 x2 else m_x12_writtenMany_J32 s lr4 (x1 + 1) x2)))
def m_x12_writtenMany_L4 (s : MS) (n : Nat) : Int32 → Int32 → Option Int32 := lp (fun _ _ => none) (m_x12_writtenMany_b4 s) n
def m_x12_writtenMany (s : MS) : Option Int32 :=
  m_x12_writtenMany_L4 s FU 0 0
set_option maxHeartbeats 4000000 in
set_option maxRecDepth 100000 in
theorem k_x12_writtenMany (l : Launch) (D : va_G) (a : Nat → Nat) (s : MS) (o : Int32) (h : m_x12_writtenMany s = some o) : yRi l yX12_writtenMany cX12_writtenMany 3 (some .int) { frames := 2, cells := 0, slots := 0, locals := 120 } D [.ref (a 200)] (RW D a s) o := by
  refine Met.ofW (cc := cX12_writtenMany) (maxL := 3) (ret := (some .int)) (by decide) rfl ?_
  intro p e s₀ m args below meth c s₁ B hml hv
  obtain ⟨rfl, ⟨hP, hK⟩, hN⟩ := hv
  have hx := B.exec
  have hb := B.bytes
  have hr := B.returns
  have hts := atoms_spec (ws := wz yX12_writtenMany cX12_writtenMany 3 (some .int)) B.pre
  have ht : ∀ w ∈ lw_gd, w.before _ s₀ = true := fun w h => hts w (List.mem_cons_of_mem _ h)
  have hown : s₀.vm.findClass RX12 = some m.cls := findClass_of_methodNamed B.named
  have hlocks := B.notSynchronized
  have hS : va_S (fun _ => False) s₀.heap s₀.heap [] := va_S.rf
  have hl := lv_entry ([.ref (a 200)]) (n := 3) (Nat.le_of_ble_eq_true rfl)
  rw [lg_entry_eq]
  generalize (lg_sl ([.ref (a 200)]) ++ List.replicate (3 - (lg_sl ([.ref (a 200)])).length) Slot.unset).toArray = ls at hl ⊢
  have hl : lv_has ls 3 [(0, .ref (a 200))] := hl
  unfold m_x12_writtenMany at h
  refine y_loop (pcJ := 4) (σ := Int32 × Int32) (fun n u H locs ls => va_P D vwCl (RW D a s) H ∧ va_S (fun _ => False) s₀.heap H locs ∧ lv_has ls 3 [(0, .ref (a 200)), (1, .int u.1), (2, .int u.2)] ∧ m_x12_writtenMany_L4 s n u.1 u.2 = some o) (fun u => []) (fun u H locs ls hI => by obtain ⟨_, _, _, h⟩ := hI; cases h) (fun n4 ih4 u H locs ls hI => ?_) (fun J4 => ?_)
  · obtain ⟨hP, hS, hl, h⟩ := hI
    obtain ⟨x1, x2⟩ := u
    have hP : va_P D vwCl (RW D a s) H := hP
    have hl : lv_has ls 3 [(0, .ref (a 200)), (1, .int x1), (2, .int x2)] := hl
    have h : m_x12_writtenMany_b4 s (m_x12_writtenMany_L4 s n4) x1 x2 = some o := h
    unfold m_x12_writtenMany_b4 at h
    refine y_head (pcJ := 32) (σ := Int32 × Int32) (fun u H locs ls => va_P D vwCl (RW D a s) H ∧ va_S (fun _ => False) s₀.heap H locs ∧ lv_has ls 3 [(0, .ref (a 200)), (1, .int u.1), (2, .int u.2)] ∧ m_x12_writtenMany_J32 s (m_x12_writtenMany_L4 s n4) u.1 u.2 = some o) (fun u => []) (fun u H locs ls hI => ?_) (fun J32 => ?_)
    · obtain ⟨hP, hS, hl, h⟩ := hI
      obtain ⟨x3, x4⟩ := u
      have hP : va_P D vwCl (RW D a s) H := hP
      have hl : lv_has ls 3 [(0, .ref (a 200)), (1, .int x3), (2, .int x4)] := hl
      have h : m_x12_writtenMany_J32 s (m_x12_writtenMany_L4 s n4) x3 x4 = some o := h
      unfold m_x12_writtenMany_J32 at h
      refine lv_iinc (v := x4 + 1) (lv' := [(2, .int (x4 + 1)), (0, .ref (a 200)), (1, .int x3)]) hx hb dX12_writtenMany_32 hl (k := 2) rfl rfl (by decide) rfl (fun ls hl => ?_)
      refine lv_goto (tgt := 4) hx hb dX12_writtenMany_35 (by decide) ?_
      exact ih4 (x3, x4 + 1) _ _ _ ⟨hP, hS, lv_sub hl [1, 2, 0] rfl, h⟩
    refine lv_iload_n hx hb dX12_writtenMany_4 rfl (lv_at hl 2 rfl) ?_
    refine lv_aload_n hx hb dX12_writtenMany_5 rfl (lv_at hl 0 rfl) ?_
    obtain ⟨r6, hc5, h⟩ := bn_e h
    refine ycV (As := []) (rest := [.int x2]) (C := RX12) (n := 0) ⟨hx, hb, hml, hown, ht⟩ (k_x12_blockMany l D a _ _ hc5) (zgV ml_X12_429 im_X12_blockMany se_X12_blockMany in_X12 co_X12_blockMany) rfl rfl (by decide +kernel) ⟨Nat.le_of_ble_eq_true rfl, Nat.le_of_ble_eq_true rfl⟩ hN hK hP hS 0 RW_0 rfl rfl rfl hl.1 rfl (Nat.le_of_ble_eq_true rfl) dX12_writtenMany_6 ⟨Nat.le_of_ble_eq_true rfl, Nat.le_of_ble_eq_true rfl⟩ (fun H locs hP hS => ?_)
    refine lv_icmp_ge (tgt := 38) hx hb dX12_writtenMany_9 (by decide) (fun c7 => ?_) (fun c7 => ?_)
    · have h := if_t c7 h
      refine lv_iload_n hx hb dX12_writtenMany_38 rfl (lv_at hl 1 rfl) ?_
      obtain rfl := Option.some.inj h
      exact W.iret (v := x1) hx hb hr (fun t ht hW => ⟨⟨_, (), rfl, rfl, trivial⟩, hS.F ht⟩) hS.2.2 dX12_writtenMany_39
    · have h := if_f c7 h
      refine lv_aload_n hx hb dX12_writtenMany_12 rfl (lv_at hl 0 rfl) ?_
      refine va_get (D := D) (ci := 12) (v := .ref (a 54)) (C := RX12) (T := TX12) (N := 116) hx hb ht inX12 hown hK hP 0 RW_0 rfl 54 (by decide) (ht (.fieldLink RX12 124 "CloneVolumesModel" "isTouched" "[Z") fl_X12_124) (fun _ h9 => h9) mF_54 dX12_writtenMany_13 ?_
      refine lv_iload_n hx hb dX12_writtenMany_16 rfl (lv_at hl 2 rfl) ?_
      obtain ⟨y8, ey8, iy8, h⟩ := rdI_e h
      refine ya_zald hx hb hK hP 37 3 RW_37 rfl ey8 iy8 dX12_writtenMany_17 ?_
      refine lv_if_eq (tgt := 32) hx hb dX12_writtenMany_18 (by decide) (fun c9 => ?_) (fun c9 => ?_)
      · have h := if_t c9 h
        exact J32 (x1, x2) _ _ _ ⟨hP, hS, lv_sub hl [0, 1, 2] rfl, h⟩
      · have h := if_f c9 h
        refine lv_aload_n hx hb dX12_writtenMany_21 rfl (lv_at hl 0 rfl) ?_
        refine lv_iload_n hx hb dX12_writtenMany_22 rfl (lv_at hl 2 rfl) ?_
        obtain ⟨r11, hc10, h⟩ := bn_e h
        refine ycV (As := [.int x2]) (rest := []) (C := RX12) (n := 1) ⟨hx, hb, hml, hown, ht⟩ (k_x12_isUsed l D a x2 _ _ hc10) (zgV ml_X12_435 im_X12_isUsed se_X12_isUsed in_X12 co_X12_isUsed) rfl rfl (by decide +kernel) ⟨Nat.le_of_ble_eq_true rfl, Nat.le_of_ble_eq_true rfl⟩ hN hK hP hS 0 RW_0 rfl rfl rfl hl.1 rfl (Nat.le_of_ble_eq_true rfl) dX12_writtenMany_23 ⟨Nat.le_of_ble_eq_true rfl, Nat.le_of_ble_eq_true rfl⟩ (fun H locs hP hS => ?_)
        refine lv_if_eq (tgt := 32) hx hb dX12_writtenMany_26 (by decide) (fun c12 => ?_) (fun c12 => ?_)
        · have h := if_t c12 h
          exact J32 (x1, x2) _ _ _ ⟨hP, hS, lv_sub hl [0, 1, 2] rfl, h⟩
        · have h := if_f c12 h
          refine lv_iinc (v := x1 + 1) (lv' := [(1, .int (x1 + 1)), (0, .ref (a 200)), (2, .int x2)]) hx hb dX12_writtenMany_29 hl (k := 1) rfl rfl (by decide) rfl (fun ls hl => ?_)
          exact J32 (x1 + 1, x2) _ _ _ ⟨hP, hS, lv_sub hl [1, 0, 2] rfl, h⟩
  refine lv_iconst (v := 0) hx hb dX12_writtenMany_0 (by decide) ?_
  refine lv_istore_n (lv' := [(1, .int 0), (0, .ref (a 200))]) hx hb dX12_writtenMany_1 rfl hl (by decide) rfl (fun ls hl => ?_)
  refine lv_iconst (v := 0) hx hb dX12_writtenMany_2 (by decide) ?_
  refine lv_istore_n (lv' := [(2, .int 0), (1, .int 0), (0, .ref (a 200))]) hx hb dX12_writtenMany_3 rfl hl (by decide) rfl (fun ls hl => ?_)
  exact J4 FU (0, 0) _ _ _ ⟨hP, hS, lv_sub hl [2, 1, 0] rfl, h⟩
def m_x12_writtenCost_J37 (lr4 : Int32 → Int32 → MS → Option (Int32 × MS)) (x4 : Int32) (x5 : Int32) (s6 : MS) : Option (Int32 × MS) :=
  lr4 x4 (x5 + 1) s6
def m_x12_writtenCost_b4 (lr4 : Int32 → Int32 → MS → Option (Int32 × MS)) (x1 : Int32) (x2 : Int32) (s3 : MS) : Option (Int32 × MS) :=
  bn (m_x12_blockMany s3) (fun r8 => if r8 ≤ x2 then some (x1, s3) else rdI (gA s3 54) 48 x2 (fun y10 => if y10 = 0 then m_x12_writtenCost_J37 lr4 x1 x2 s3 else bn (m_x12_isUsed x2 s3) (fun r13 => if r13 = 0 then m_x12_writtenCost_J37 lr4 x1 x2 s3 else bn (m_x12_costOf x2 s3) (fun qr17 => m_x12_writtenCost_J37 lr4 (x1 + qr17.1) x2 qr17.2))))
def m_x12_writtenCost_L4 (n : Nat) : Int32 → Int32 → MS → Option (Int32 × MS) := lp (fun _ _ _ => none) (m_x12_writtenCost_b4) n
def m_x12_writtenCost (s : MS) : Option (Int32 × MS) :=
  m_x12_writtenCost_L4 FU 0 0 s
set_option maxHeartbeats 4000000 in
set_option maxRecDepth 100000 in
theorem k_x12_writtenCost (l : Launch) (D : va_G) (a : Nat → Nat) (sz : Nat) (s : MS) (o : (Int32 × MS)) (h : m_x12_writtenCost s = some o) : yWi l yX12_writtenCost cX12_writtenCost 3 (some .int) { frames := 6, cells := 0, slots := 0, locals := 360 } D sz [.ref (a 200)] (RW D a s) (RW D a o.2) o.1 := by
  refine Met.ofW (cc := cX12_writtenCost) (maxL := 3) (ret := (some .int)) (by decide) rfl ?_
  intro p e s₀ m args below meth c s₁ B hml hv
  obtain ⟨rfl, ⟨hsz, hP, hK, hD0⟩, hN⟩ := hv
  have hx := B.exec
  have hb := B.bytes
  have hr := B.returns
  have hts := atoms_spec (ws := wz yX12_writtenCost cX12_writtenCost 3 (some .int)) B.pre
  have ht : ∀ w ∈ lw_gd, w.before _ s₀ = true := fun w h => hts w (List.mem_cons_of_mem _ h)
  have hown : s₀.vm.findClass RX12 = some m.cls := findClass_of_methodNamed B.named
  have hlocks := B.notSynchronized
  subst hsz
  have hD := hD0.self (sz := s₀.heap.size)
  generalize hAe : va_A (RW D a s) s₀.heap.size = A at hD ⊢
  have hA : ∀ q : Nat, s₀.heap.size ≤ q → A q := fun q h => by rw [← hAe]; exact Or.inr h
  have hS : va_S A s₀.heap s₀.heap [] := va_S.rf
  have hDD : ∀ t : MS, va_D A (RW D a t) := fun t => RW_D t hD
  have hl := lv_entry ([.ref (a 200)]) (n := 3) (Nat.le_of_ble_eq_true rfl)
  rw [lg_entry_eq]
  generalize (lg_sl ([.ref (a 200)]) ++ List.replicate (3 - (lg_sl ([.ref (a 200)])).length) Slot.unset).toArray = ls at hl ⊢
  have hl : lv_has ls 3 [(0, .ref (a 200))] := hl
  unfold m_x12_writtenCost at h
  refine y_loop (pcJ := 4) (σ := Int32 × Int32 × MS) (fun n u H locs ls => va_P D vwCl (RW D a u.2.2) H ∧ va_S A s₀.heap H locs ∧ lv_has ls 3 [(0, .ref (a 200)), (1, .int u.1), (2, .int u.2.1)] ∧ m_x12_writtenCost_L4 n u.1 u.2.1 u.2.2 = some o) (fun u => []) (fun u H locs ls hI => by obtain ⟨_, _, _, h⟩ := hI; cases h) (fun n4 ih4 u H locs ls hI => ?_) (fun J4 => ?_)
  · obtain ⟨hP, hS, hl, h⟩ := hI
    obtain ⟨x1, x2, s3⟩ := u
    have hP : va_P D vwCl (RW D a s3) H := hP
    have hl : lv_has ls 3 [(0, .ref (a 200)), (1, .int x1), (2, .int x2)] := hl
    have h : m_x12_writtenCost_b4 (m_x12_writtenCost_L4 n4) x1 x2 s3 = some o := h
    unfold m_x12_writtenCost_b4 at h
    refine y_head (pcJ := 37) (σ := Int32 × Int32 × MS) (fun u H locs ls => va_P D vwCl (RW D a u.2.2) H ∧ va_S A s₀.heap H locs ∧ lv_has ls 3 [(0, .ref (a 200)), (1, .int u.1), (2, .int u.2.1)] ∧ m_x12_writtenCost_J37 (m_x12_writtenCost_L4 n4) u.1 u.2.1 u.2.2 = some o) (fun u => []) (fun u H locs ls hI => ?_) (fun J37 => ?_)
    · obtain ⟨hP, hS, hl, h⟩ := hI
      obtain ⟨x4, x5, s6⟩ := u
      have hP : va_P D vwCl (RW D a s6) H := hP
      have hl : lv_has ls 3 [(0, .ref (a 200)), (1, .int x4), (2, .int x5)] := hl
      have h : m_x12_writtenCost_J37 (m_x12_writtenCost_L4 n4) x4 x5 s6 = some o := h
      unfold m_x12_writtenCost_J37 at h
      refine lv_iinc (v := x5 + 1) (lv' := [(2, .int (x5 + 1)), (0, .ref (a 200)), (1, .int x4)]) hx hb dX12_writtenCost_37 hl (k := 2) rfl rfl (by decide) rfl (fun ls hl => ?_)
      refine lv_goto (tgt := 4) hx hb dX12_writtenCost_40 (by decide) ?_
      exact ih4 (x4, x5 + 1, s6) _ _ _ ⟨hP, hS, lv_sub hl [1, 2, 0] rfl, h⟩
    refine lv_iload_n hx hb dX12_writtenCost_4 rfl (lv_at hl 2 rfl) ?_
    refine lv_aload_n hx hb dX12_writtenCost_5 rfl (lv_at hl 0 rfl) ?_
    obtain ⟨r8, hc7, h⟩ := bn_e h
    refine ycV (As := []) (rest := [.int x2]) (C := RX12) (n := 0) ⟨hx, hb, hml, hown, ht⟩ (k_x12_blockMany l D a _ _ hc7) (zgV ml_X12_429 im_X12_blockMany se_X12_blockMany in_X12 co_X12_blockMany) rfl rfl (by decide +kernel) ⟨Nat.le_of_ble_eq_true rfl, Nat.le_of_ble_eq_true rfl⟩ hN hK hP hS 0 RW_0 rfl rfl rfl hl.1 rfl (Nat.le_of_ble_eq_true rfl) dX12_writtenCost_6 ⟨Nat.le_of_ble_eq_true rfl, Nat.le_of_ble_eq_true rfl⟩ (fun H locs hP hS => ?_)
    refine lv_icmp_ge (tgt := 43) hx hb dX12_writtenCost_9 (by decide) (fun c9 => ?_) (fun c9 => ?_)
    · have h := if_t c9 h
      refine lv_iload_n hx hb dX12_writtenCost_43 rfl (lv_at hl 1 rfl) ?_
      obtain rfl := Option.some.inj h
      exact W.iret (v := x1) hx hb hr (fun t ht hW => ⟨⟨_, (), rfl, rfl, by rw [ht]; exact hP, va_K.moved hW.alike hK, hDD _⟩, hS.F ht⟩) hS.2.2 dX12_writtenCost_44
    · have h := if_f c9 h
      refine lv_aload_n hx hb dX12_writtenCost_12 rfl (lv_at hl 0 rfl) ?_
      refine va_get (D := D) (ci := 12) (v := .ref (a 54)) (C := RX12) (T := TX12) (N := 116) hx hb ht inX12 hown hK hP 0 RW_0 rfl 54 (by decide) (ht (.fieldLink RX12 124 "CloneVolumesModel" "isTouched" "[Z") fl_X12_124) (fun _ h9 => h9) mF_54 dX12_writtenCost_13 ?_
      refine lv_iload_n hx hb dX12_writtenCost_16 rfl (lv_at hl 2 rfl) ?_
      obtain ⟨y10, ey10, iy10, h⟩ := rdI_e h
      refine ya_zald hx hb hK hP 37 3 RW_37 rfl ey10 iy10 dX12_writtenCost_17 ?_
      refine lv_if_eq (tgt := 37) hx hb dX12_writtenCost_18 (by decide) (fun c11 => ?_) (fun c11 => ?_)
      · have h := if_t c11 h
        exact J37 (x1, x2, s3) _ _ _ ⟨hP, hS, lv_sub hl [0, 1, 2] rfl, h⟩
      · have h := if_f c11 h
        refine lv_aload_n hx hb dX12_writtenCost_21 rfl (lv_at hl 0 rfl) ?_
        refine lv_iload_n hx hb dX12_writtenCost_22 rfl (lv_at hl 2 rfl) ?_
        obtain ⟨r13, hc12, h⟩ := bn_e h
        refine ycV (As := [.int x2]) (rest := []) (C := RX12) (n := 1) ⟨hx, hb, hml, hown, ht⟩ (k_x12_isUsed l D a x2 _ _ hc12) (zgV ml_X12_435 im_X12_isUsed se_X12_isUsed in_X12 co_X12_isUsed) rfl rfl (by decide +kernel) ⟨Nat.le_of_ble_eq_true rfl, Nat.le_of_ble_eq_true rfl⟩ hN hK hP hS 0 RW_0 rfl rfl rfl hl.1 rfl (Nat.le_of_ble_eq_true rfl) dX12_writtenCost_23 ⟨Nat.le_of_ble_eq_true rfl, Nat.le_of_ble_eq_true rfl⟩ (fun H locs hP hS => ?_)
        refine lv_if_eq (tgt := 37) hx hb dX12_writtenCost_26 (by decide) (fun c14 => ?_) (fun c14 => ?_)
        · have h := if_t c14 h
          exact J37 (x1, x2, s3) _ _ _ ⟨hP, hS, lv_sub hl [0, 1, 2] rfl, h⟩
        · have h := if_f c14 h
          refine lv_iload_n hx hb dX12_writtenCost_29 rfl (lv_at hl 1 rfl) ?_
          refine lv_aload_n hx hb dX12_writtenCost_30 rfl (lv_at hl 0 rfl) ?_
          refine lv_iload_n hx hb dX12_writtenCost_31 rfl (lv_at hl 2 rfl) ?_
          obtain ⟨⟨r17, s16⟩, hc15, h⟩ := bn_e h
          refine ywV (r0 := r17) (As := [.int x2]) (rest := [.int x1]) (C := RX12) (n := 1) (ws' := RW D a s16) ⟨hx, hb, hml, hown, ht⟩ (k_x12_costOf l D a x2 _ _ _ hc15) (zgV ml_X12_483 im_X12_costOf se_X12_costOf in_X12 co_X12_costOf) rfl rfl (by decide +kernel) ⟨Nat.le_of_ble_eq_true rfl, Nat.le_of_ble_eq_true rfl⟩ hN hK hP (hDD _) hS hA 0 RW_0 rfl rfl rfl hl.1 rfl (Nat.le_of_ble_eq_true rfl) dX12_writtenCost_32 ⟨Nat.le_of_ble_eq_true rfl, Nat.le_of_ble_eq_true rfl⟩ (fun H locs hP hS => ?_)
          refine lv_iadd hx hb dX12_writtenCost_35 ?_
          refine lv_istore_n (lv' := [(1, .int (x1 + r17)), (0, .ref (a 200)), (2, .int x2)]) hx hb dX12_writtenCost_36 rfl hl (by decide) rfl (fun ls hl => ?_)
          exact J37 (x1 + r17, x2, s16) _ _ _ ⟨hP, hS, lv_sub hl [1, 0, 2] rfl, h⟩
  refine lv_iconst (v := 0) hx hb dX12_writtenCost_0 (by decide) ?_
  refine lv_istore_n (lv' := [(1, .int 0), (0, .ref (a 200))]) hx hb dX12_writtenCost_1 rfl hl (by decide) rfl (fun ls hl => ?_)
  refine lv_iconst (v := 0) hx hb dX12_writtenCost_2 (by decide) ?_
  refine lv_istore_n (lv' := [(2, .int 0), (1, .int 0), (0, .ref (a 200))]) hx hb dX12_writtenCost_3 rfl hl (by decide) rfl (fun ls hl => ?_)
  exact J4 FU (0, 0, s) _ _ _ ⟨hP, hS, lv_sub hl [2, 1, 0] rfl, h⟩
def m_x12_isKept_J105 (x1 : Int32) (x2 : Int32) (x3 : Int32) (s4 : MS) : Option MS :=
  rdI (gA s4 49) 906 785 (fun y5 => inb 906 ((786 + (3 * y5)) - 3) (stn (sA s4 49 (upd (gA s4 49) (Int32.toNatClampNeg ((786 + (3 * y5)) - 3)) x1)) (fun s7 => inb 906 (((786 + (3 * y5)) - 3) + 1) (stn (sA s7 49 (upd (gA s7 49) (Int32.toNatClampNeg (((786 + (3 * y5)) - 3) + 1)) x2)) (fun s9 => inb 906 (((786 + (3 * y5)) - 3) + 2) (stn (sA s9 49 (upd (gA s9 49) (Int32.toNatClampNeg (((786 + (3 * y5)) - 3) + 2)) x3)) (fun s11 => some s11)))))))
def m_x12_isKept_b60 (lr60 : Int32 → Int32 → Int32 → Int32 → MS → Option MS) (x12 : Int32) (x13 : Int32) (x14 : Int32) (x15 : Int32) (s16 : MS) : Option MS :=
  if 903 ≤ x15 then m_x12_isKept_J105 x12 x13 x14 s16 else rdI (gA s16 49) 906 (x15 + 3) (fun y18 => inb 906 x15 (stn (sA s16 49 (upd (gA s16 49) (Int32.toNatClampNeg x15) y18)) (fun s20 => lr60 x12 x13 x14 (x15 + 1) s20)))
def m_x12_isKept_L60 (n : Nat) : Int32 → Int32 → Int32 → Int32 → MS → Option MS := lp (fun _ _ _ _ _ => none) (m_x12_isKept_b60) n
def m_x12_isKept_J42 (x21 : Int32) (x22 : Int32) (x23 : Int32) (s24 : MS) : Option MS :=
  rdI (gA s24 49) 906 785 (fun y25 => if y25 = 40 then m_x12_isKept_L60 FU x21 x22 x23 786 s24 else rdI (gA s24 49) 906 785 (fun y27 => inb 906 785 (stn (sA s24 49 (upd (gA s24 49) (Int32.toNatClampNeg 785) (y27 + 1))) (fun s29 => m_x12_isKept_J105 x21 x22 x23 s29))))
def m_x12_isKept (p0 : Int32) (p1 : Int32) (s : MS) : Option MS :=
  bn (m_x12_writtenMany s) (fun r31 => rdI (gA s 49) 906 16 (fun y32 => bn (m_x12_writtenCost s) (fun qr35 => inb 906 16 (stn (sA qr35.2 49 (upd (gA qr35.2 49) (Int32.toNatClampNeg 16) (y32 + qr35.1))) (fun s37 => rdI (gA s37 49) 906 16 (fun y38 => if y38 ≤ 999999 then m_x12_isKept_J42 p0 p1 r31 s37 else inb 906 16 (stn (sA s37 49 (upd (gA s37 49) (Int32.toNatClampNeg 16) 999999)) (fun s41 => m_x12_isKept_J42 p0 p1 r31 s41))))))))
set_option maxHeartbeats 4000000 in
set_option maxRecDepth 100000 in
theorem k_x12_isKept (l : Launch) (D : va_G) (a : Nat → Nat) (p0 : Int32) (p1 : Int32) (sz : Nat) (s : MS) (o : MS) (h : m_x12_isKept p0 p1 s = some o) : yWv l yX12_isKept cX12_isKept 5 none { frames := 7, cells := 0, slots := 0, locals := 420 } D sz [.ref (a 200), .int p0, .int p1] (RW D a s) (RW D a o) := by
  refine Met.ofW (cc := cX12_isKept) (maxL := 5) (ret := none) (by decide) rfl ?_
  intro p e s₀ m args below meth c s₁ B hml hv
  obtain ⟨rfl, ⟨hsz, hP, hK, hD0⟩, hN⟩ := hv
  have hx := B.exec
  have hb := B.bytes
  have hr := B.returns
  have hts := atoms_spec (ws := wz yX12_isKept cX12_isKept 5 none) B.pre
  have ht : ∀ w ∈ lw_gd, w.before _ s₀ = true := fun w h => hts w (List.mem_cons_of_mem _ h)
  have hown : s₀.vm.findClass RX12 = some m.cls := findClass_of_methodNamed B.named
  have hlocks := B.notSynchronized
  subst hsz
  have hD := hD0.self (sz := s₀.heap.size)
  generalize hAe : va_A (RW D a s) s₀.heap.size = A at hD ⊢
  have hA : ∀ q : Nat, s₀.heap.size ≤ q → A q := fun q h => by rw [← hAe]; exact Or.inr h
  have hS : va_S A s₀.heap s₀.heap [] := va_S.rf
  have hDD : ∀ t : MS, va_D A (RW D a t) := fun t => RW_D t hD
  have hl := lv_entry ([.ref (a 200), .int p0, .int p1]) (n := 5) (Nat.le_of_ble_eq_true rfl)
  rw [lg_entry_eq]
  generalize (lg_sl ([.ref (a 200), .int p0, .int p1]) ++ List.replicate (5 - (lg_sl ([.ref (a 200), .int p0, .int p1])).length) Slot.unset).toArray = ls at hl ⊢
  have hl : lv_has ls 5 [(0, .ref (a 200)), (1, .int p0), (2, .int p1)] := hl
  unfold m_x12_isKept at h
  refine y_head (pcJ := 105) (σ := Int32 × Int32 × Int32 × MS) (fun u H locs ls => va_P D vwCl (RW D a u.2.2.2) H ∧ va_S A s₀.heap H locs ∧ lv_has ls 5 [(0, .ref (a 200)), (1, .int u.1), (2, .int u.2.1), (3, .int u.2.2.1)] ∧ m_x12_isKept_J105 u.1 u.2.1 u.2.2.1 u.2.2.2 = some o) (fun u => []) (fun u H locs ls hI => ?_) (fun J105 => ?_)
  · obtain ⟨hP, hS, hl, h⟩ := hI
    obtain ⟨x1, x2, x3, s4⟩ := u
    have hP : va_P D vwCl (RW D a s4) H := hP
    have hl : lv_has ls 5 [(0, .ref (a 200)), (1, .int x1), (2, .int x2), (3, .int x3)] := hl
    have h : m_x12_isKept_J105 x1 x2 x3 s4 = some o := h
    unfold m_x12_isKept_J105 at h
    refine lv_sipush (v := 786) hx hb dX12_isKept_105 (by decide) ?_
    refine lv_iconst (v := 3) hx hb dX12_isKept_108 (by decide) ?_
    refine lv_aload_n hx hb dX12_isKept_109 rfl (lv_at hl 0 rfl) ?_
    refine va_get (D := D) (ci := 12) (v := .ref (a 49)) (C := RX12) (T := TX12) (N := 116) hx hb ht inX12 hown hK hP 0 RW_0 rfl 49 (by decide) (ht (.fieldLink RX12 121 "CloneVolumesModel" "now" "[I") fl_X12_121) (fun _ h9 => h9) mF_49 dX12_isKept_110 ?_
    refine lv_sipush (v := 785) hx hb dX12_isKept_113 (by decide) ?_
    obtain ⟨y5, ey5, iy5, h⟩ := rdI_e h
    refine ya_iald hx hb hK hP 36 0 RW_36 rfl ey5 iy5 dX12_isKept_116 ?_
    refine lv_imul hx hb dX12_isKept_117 ?_
    refine lv_iadd hx hb dX12_isKept_118 ?_
    refine lv_iconst (v := 3) hx hb dX12_isKept_119 (by decide) ?_
    refine lv_isub hx hb dX12_isKept_120 ?_
    refine lv_istore (lv' := [(4, .int ((786 + (3 * y5)) - 3)), (0, .ref (a 200)), (1, .int x1), (2, .int x2), (3, .int x3)]) hx hb dX12_isKept_121 hl (by decide) rfl (fun ls hl => ?_)
    refine lv_aload_n hx hb dX12_isKept_123 rfl (lv_at hl 1 rfl) ?_
    refine va_get (D := D) (ci := 12) (v := .ref (a 49)) (C := RX12) (T := TX12) (N := 116) hx hb ht inX12 hown hK hP 0 RW_0 rfl 49 (by decide) (ht (.fieldLink RX12 121 "CloneVolumesModel" "now" "[I") fl_X12_121) (fun _ h9 => h9) mF_49 dX12_isKept_124 ?_
    refine lv_iload hx hb dX12_isKept_127 (lv_at hl 0 rfl) ?_
    refine lv_iload_n hx hb dX12_isKept_129 rfl (lv_at hl 2 rfl) ?_
    obtain ⟨hi6, h⟩ := inb_e h
    refine ya_iast hx hb hK hP (hDD _) hS 36 0 RW_36 rfl hi6 dX12_isKept_130 (RW_w36 _) (fun H locs hP hS => ?_)
    obtain ⟨s7, hs7, h⟩ := st_e h
    rw [hs7] at hP
    refine lv_aload_n hx hb dX12_isKept_131 rfl (lv_at hl 1 rfl) ?_
    refine va_get (D := D) (ci := 12) (v := .ref (a 49)) (C := RX12) (T := TX12) (N := 116) hx hb ht inX12 hown hK hP 0 RW_0 rfl 49 (by decide) (ht (.fieldLink RX12 121 "CloneVolumesModel" "now" "[I") fl_X12_121) (fun _ h9 => h9) mF_49 dX12_isKept_132 ?_
    refine lv_iload hx hb dX12_isKept_135 (lv_at hl 0 rfl) ?_
    refine lv_iconst (v := 1) hx hb dX12_isKept_137 (by decide) ?_
    refine lv_iadd hx hb dX12_isKept_138 ?_
    refine lv_iload_n hx hb dX12_isKept_139 rfl (lv_at hl 3 rfl) ?_
    obtain ⟨hi8, h⟩ := inb_e h
    refine ya_iast hx hb hK hP (hDD _) hS 36 0 RW_36 rfl hi8 dX12_isKept_140 (RW_w36 _) (fun H locs hP hS => ?_)
    obtain ⟨s9, hs9, h⟩ := st_e h
    rw [hs9] at hP
    refine lv_aload_n hx hb dX12_isKept_141 rfl (lv_at hl 1 rfl) ?_
    refine va_get (D := D) (ci := 12) (v := .ref (a 49)) (C := RX12) (T := TX12) (N := 116) hx hb ht inX12 hown hK hP 0 RW_0 rfl 49 (by decide) (ht (.fieldLink RX12 121 "CloneVolumesModel" "now" "[I") fl_X12_121) (fun _ h9 => h9) mF_49 dX12_isKept_142 ?_
    refine lv_iload hx hb dX12_isKept_145 (lv_at hl 0 rfl) ?_
    refine lv_iconst (v := 2) hx hb dX12_isKept_147 (by decide) ?_
    refine lv_iadd hx hb dX12_isKept_148 ?_
    refine lv_iload_n hx hb dX12_isKept_149 rfl (lv_at hl 4 rfl) ?_
    obtain ⟨hi10, h⟩ := inb_e h
    refine ya_iast hx hb hK hP (hDD _) hS 36 0 RW_36 rfl hi10 dX12_isKept_150 (RW_w36 _) (fun H locs hP hS => ?_)
    obtain ⟨s11, hs11, h⟩ := st_e h
    rw [hs11] at hP
    obtain rfl := Option.some.inj h
    exact W.vret hx hb hr (fun t ht hW => ⟨⟨(), rfl, trivial, by rw [ht]; exact hP, va_K.moved hW.alike hK, hDD _⟩, hS.F ht⟩) hS.2.2 dX12_isKept_151
  refine y_loop (pcJ := 60) (σ := Int32 × Int32 × Int32 × Int32 × MS) (fun n u H locs ls => va_P D vwCl (RW D a u.2.2.2.2) H ∧ va_S A s₀.heap H locs ∧ lv_has ls 5 [(0, .ref (a 200)), (1, .int u.1), (2, .int u.2.1), (3, .int u.2.2.1), (4, .int u.2.2.2.1)] ∧ m_x12_isKept_L60 n u.1 u.2.1 u.2.2.1 u.2.2.2.1 u.2.2.2.2 = some o) (fun u => []) (fun u H locs ls hI => by obtain ⟨_, _, _, h⟩ := hI; cases h) (fun n60 ih60 u H locs ls hI => ?_) (fun J60 => ?_)
  · obtain ⟨hP, hS, hl, h⟩ := hI
    obtain ⟨x12, x13, x14, x15, s16⟩ := u
    have hP : va_P D vwCl (RW D a s16) H := hP
    have hl : lv_has ls 5 [(0, .ref (a 200)), (1, .int x12), (2, .int x13), (3, .int x14), (4, .int x15)] := hl
    have h : m_x12_isKept_b60 (m_x12_isKept_L60 n60) x12 x13 x14 x15 s16 = some o := h
    unfold m_x12_isKept_b60 at h
    refine lv_iload hx hb dX12_isKept_60 (lv_at hl 4 rfl) ?_
    refine lv_sipush (v := 903) hx hb dX12_isKept_62 (by decide) ?_
    refine lv_icmp_ge (tgt := 90) hx hb dX12_isKept_65 (by decide) (fun c17 => ?_) (fun c17 => ?_)
    · have h := if_t c17 h
      refine lv_goto (tgt := 105) hx hb dX12_isKept_90 (by decide) ?_
      exact J105 (x12, x13, x14, s16) _ _ _ ⟨hP, hS, lv_sub hl [0, 1, 2, 3] rfl, h⟩
    · have h := if_f c17 h
      refine lv_aload_n hx hb dX12_isKept_68 rfl (lv_at hl 0 rfl) ?_
      refine va_get (D := D) (ci := 12) (v := .ref (a 49)) (C := RX12) (T := TX12) (N := 116) hx hb ht inX12 hown hK hP 0 RW_0 rfl 49 (by decide) (ht (.fieldLink RX12 121 "CloneVolumesModel" "now" "[I") fl_X12_121) (fun _ h9 => h9) mF_49 dX12_isKept_69 ?_
      refine lv_iload hx hb dX12_isKept_72 (lv_at hl 4 rfl) ?_
      refine lv_aload_n hx hb dX12_isKept_74 rfl (lv_at hl 0 rfl) ?_
      refine va_get (D := D) (ci := 12) (v := .ref (a 49)) (C := RX12) (T := TX12) (N := 116) hx hb ht inX12 hown hK hP 0 RW_0 rfl 49 (by decide) (ht (.fieldLink RX12 121 "CloneVolumesModel" "now" "[I") fl_X12_121) (fun _ h9 => h9) mF_49 dX12_isKept_75 ?_
      refine lv_iload hx hb dX12_isKept_78 (lv_at hl 4 rfl) ?_
      refine lv_iconst (v := 3) hx hb dX12_isKept_80 (by decide) ?_
      refine lv_iadd hx hb dX12_isKept_81 ?_
      obtain ⟨y18, ey18, iy18, h⟩ := rdI_e h
      refine ya_iald hx hb hK hP 36 0 RW_36 rfl ey18 iy18 dX12_isKept_82 ?_
      obtain ⟨hi19, h⟩ := inb_e h
      refine ya_iast hx hb hK hP (hDD _) hS 36 0 RW_36 rfl hi19 dX12_isKept_83 (RW_w36 _) (fun H locs hP hS => ?_)
      obtain ⟨s20, hs20, h⟩ := st_e h
      rw [hs20] at hP
      refine lv_iinc (v := x15 + 1) (lv' := [(4, .int (x15 + 1)), (0, .ref (a 200)), (1, .int x12), (2, .int x13), (3, .int x14)]) hx hb dX12_isKept_84 hl (k := 4) rfl rfl (by decide) rfl (fun ls hl => ?_)
      refine lv_goto (tgt := 60) hx hb dX12_isKept_87 (by decide) ?_
      exact ih60 (x12, x13, x14, x15 + 1, s20) _ _ _ ⟨hP, hS, lv_sub hl [1, 2, 3, 4, 0] rfl, h⟩
  refine y_head (pcJ := 42) (σ := Int32 × Int32 × Int32 × MS) (fun u H locs ls => va_P D vwCl (RW D a u.2.2.2) H ∧ va_S A s₀.heap H locs ∧ lv_has ls 5 [(0, .ref (a 200)), (1, .int u.1), (2, .int u.2.1), (3, .int u.2.2.1)] ∧ m_x12_isKept_J42 u.1 u.2.1 u.2.2.1 u.2.2.2 = some o) (fun u => []) (fun u H locs ls hI => ?_) (fun J42 => ?_)
  · obtain ⟨hP, hS, hl, h⟩ := hI
    obtain ⟨x21, x22, x23, s24⟩ := u
    have hP : va_P D vwCl (RW D a s24) H := hP
    have hl : lv_has ls 5 [(0, .ref (a 200)), (1, .int x21), (2, .int x22), (3, .int x23)] := hl
    have h : m_x12_isKept_J42 x21 x22 x23 s24 = some o := h
    unfold m_x12_isKept_J42 at h
    refine lv_aload_n hx hb dX12_isKept_42 rfl (lv_at hl 0 rfl) ?_
    refine va_get (D := D) (ci := 12) (v := .ref (a 49)) (C := RX12) (T := TX12) (N := 116) hx hb ht inX12 hown hK hP 0 RW_0 rfl 49 (by decide) (ht (.fieldLink RX12 121 "CloneVolumesModel" "now" "[I") fl_X12_121) (fun _ h9 => h9) mF_49 dX12_isKept_43 ?_
    refine lv_sipush (v := 785) hx hb dX12_isKept_46 (by decide) ?_
    obtain ⟨y25, ey25, iy25, h⟩ := rdI_e h
    refine ya_iald hx hb hK hP 36 0 RW_36 rfl ey25 iy25 dX12_isKept_49 ?_
    refine lv_bipush (v := 40) hx hb dX12_isKept_50 (by decide) ?_
    refine lv_icmp_ne (tgt := 93) hx hb dX12_isKept_52 (by decide) (fun c26 => ?_) (fun c26 => ?_)
    · have h := if_f c26 h
      refine lv_aload_n hx hb dX12_isKept_93 rfl (lv_at hl 0 rfl) ?_
      refine va_get (D := D) (ci := 12) (v := .ref (a 49)) (C := RX12) (T := TX12) (N := 116) hx hb ht inX12 hown hK hP 0 RW_0 rfl 49 (by decide) (ht (.fieldLink RX12 121 "CloneVolumesModel" "now" "[I") fl_X12_121) (fun _ h9 => h9) mF_49 dX12_isKept_94 ?_
      refine lv_sipush (v := 785) hx hb dX12_isKept_97 (by decide) ?_
      refine lv_dup2_11 hx hb dX12_isKept_100 rfl rfl ?_
      obtain ⟨y27, ey27, iy27, h⟩ := rdI_e h
      refine ya_iald hx hb hK hP 36 0 RW_36 rfl ey27 iy27 dX12_isKept_101 ?_
      refine lv_iconst (v := 1) hx hb dX12_isKept_102 (by decide) ?_
      refine lv_iadd hx hb dX12_isKept_103 ?_
      obtain ⟨hi28, h⟩ := inb_e h
      refine ya_iast hx hb hK hP (hDD _) hS 36 0 RW_36 rfl hi28 dX12_isKept_104 (RW_w36 _) (fun H locs hP hS => ?_)
      obtain ⟨s29, hs29, h⟩ := st_e h
      rw [hs29] at hP
      exact J105 (x21, x22, x23, s29) _ _ _ ⟨hP, hS, lv_sub hl [0, 1, 2, 3] rfl, h⟩
    · have h := if_t c26 h
      refine lv_sipush (v := 786) hx hb dX12_isKept_55 (by decide) ?_
      refine lv_istore (lv' := [(4, .int 786), (0, .ref (a 200)), (1, .int x21), (2, .int x22), (3, .int x23)]) hx hb dX12_isKept_58 hl (by decide) rfl (fun ls hl => ?_)
      exact J60 FU (x21, x22, x23, 786, s24) _ _ _ ⟨hP, hS, lv_sub hl [1, 2, 3, 4, 0] rfl, h⟩
  refine lv_aload_n hx hb dX12_isKept_0 rfl (lv_at hl 0 rfl) ?_
  obtain ⟨r31, hc30, h⟩ := bn_e h
  refine ycV (As := []) (rest := []) (C := RX12) (n := 0) ⟨hx, hb, hml, hown, ht⟩ (k_x12_writtenMany l D a _ _ hc30) (zgV ml_X12_486 im_X12_writtenMany se_X12_writtenMany in_X12 co_X12_writtenMany) rfl rfl (by decide +kernel) ⟨Nat.le_of_ble_eq_true rfl, Nat.le_of_ble_eq_true rfl⟩ hN hK hP hS 0 RW_0 rfl rfl rfl hl.1 rfl (Nat.le_of_ble_eq_true rfl) dX12_isKept_1 ⟨Nat.le_of_ble_eq_true rfl, Nat.le_of_ble_eq_true rfl⟩ (fun H locs hP hS => ?_)
  refine lv_istore_n (lv' := [(3, .int r31), (0, .ref (a 200)), (1, .int p0), (2, .int p1)]) hx hb dX12_isKept_4 rfl hl (by decide) rfl (fun ls hl => ?_)
  refine lv_aload_n hx hb dX12_isKept_5 rfl (lv_at hl 1 rfl) ?_
  refine va_get (D := D) (ci := 12) (v := .ref (a 49)) (C := RX12) (T := TX12) (N := 116) hx hb ht inX12 hown hK hP 0 RW_0 rfl 49 (by decide) (ht (.fieldLink RX12 121 "CloneVolumesModel" "now" "[I") fl_X12_121) (fun _ h9 => h9) mF_49 dX12_isKept_6 ?_
  refine lv_bipush (v := 16) hx hb dX12_isKept_9 (by decide) ?_
  refine lv_dup2_11 hx hb dX12_isKept_11 rfl rfl ?_
  obtain ⟨y32, ey32, iy32, h⟩ := rdI_e h
  refine ya_iald hx hb hK hP 36 0 RW_36 rfl ey32 iy32 dX12_isKept_12 ?_
  refine lv_aload_n hx hb dX12_isKept_13 rfl (lv_at hl 1 rfl) ?_
  obtain ⟨⟨r35, s34⟩, hc33, h⟩ := bn_e h
  refine ywV (r0 := r35) (As := []) (rest := [.int y32, .int 16, .ref (a 49)]) (C := RX12) (n := 0) (ws' := RW D a s34) ⟨hx, hb, hml, hown, ht⟩ (k_x12_writtenCost l D a _ _ _ hc33) (zgV ml_X12_489 im_X12_writtenCost se_X12_writtenCost in_X12 co_X12_writtenCost) rfl rfl (by decide +kernel) ⟨Nat.le_of_ble_eq_true rfl, Nat.le_of_ble_eq_true rfl⟩ hN hK hP (hDD _) hS hA 0 RW_0 rfl rfl rfl hl.1 rfl (Nat.le_of_ble_eq_true rfl) dX12_isKept_14 ⟨Nat.le_of_ble_eq_true rfl, Nat.le_of_ble_eq_true rfl⟩ (fun H locs hP hS => ?_)
  refine lv_iadd hx hb dX12_isKept_17 ?_
  obtain ⟨hi36, h⟩ := inb_e h
  refine ya_iast hx hb hK hP (hDD _) hS 36 0 RW_36 rfl hi36 dX12_isKept_18 (RW_w36 _) (fun H locs hP hS => ?_)
  obtain ⟨s37, hs37, h⟩ := st_e h
  rw [hs37] at hP
  refine lv_aload_n hx hb dX12_isKept_19 rfl (lv_at hl 1 rfl) ?_
  refine va_get (D := D) (ci := 12) (v := .ref (a 49)) (C := RX12) (T := TX12) (N := 116) hx hb ht inX12 hown hK hP 0 RW_0 rfl 49 (by decide) (ht (.fieldLink RX12 121 "CloneVolumesModel" "now" "[I") fl_X12_121) (fun _ h9 => h9) mF_49 dX12_isKept_20 ?_
  refine lv_bipush (v := 16) hx hb dX12_isKept_23 (by decide) ?_
  obtain ⟨y38, ey38, iy38, h⟩ := rdI_e h
  refine ya_iald hx hb hK hP 36 0 RW_36 rfl ey38 iy38 dX12_isKept_25 ?_
  refine lv_ldcw (own := RX12) (v := 999999) hx hb hown (ht _ ck_X12_492) dX12_isKept_26 ?_
  refine lv_icmp_le (tgt := 42) hx hb dX12_isKept_29 (by decide) (fun c39 => ?_) (fun c39 => ?_)
  · have h := if_t c39 h
    exact J42 (p0, p1, r31, s37) _ _ _ ⟨hP, hS, lv_sub hl [1, 2, 3, 0] rfl, h⟩
  · have h := if_f c39 h
    refine lv_aload_n hx hb dX12_isKept_32 rfl (lv_at hl 1 rfl) ?_
    refine va_get (D := D) (ci := 12) (v := .ref (a 49)) (C := RX12) (T := TX12) (N := 116) hx hb ht inX12 hown hK hP 0 RW_0 rfl 49 (by decide) (ht (.fieldLink RX12 121 "CloneVolumesModel" "now" "[I") fl_X12_121) (fun _ h9 => h9) mF_49 dX12_isKept_33 ?_
    refine lv_bipush (v := 16) hx hb dX12_isKept_36 (by decide) ?_
    refine lv_ldcw (own := RX12) (v := 999999) hx hb hown (ht _ ck_X12_492) dX12_isKept_38 ?_
    obtain ⟨hi40, h⟩ := inb_e h
    refine ya_iast hx hb hK hP (hDD _) hS 36 0 RW_36 rfl hi40 dX12_isKept_41 (RW_w36 _) (fun H locs hP hS => ?_)
    obtain ⟨s41, hs41, h⟩ := st_e h
    rw [hs41] at hP
    exact J42 (p0, p1, r31, s41) _ _ _ ⟨hP, hS, lv_sub hl [1, 2, 3, 0] rfl, h⟩
