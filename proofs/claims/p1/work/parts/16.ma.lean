theorem cl_X12_441 : Cond.constantLong RX12 441 7 ∈ lw_gd := zm (List.mem_of_getElem? (i := 2250) (by decide +kernel)) rfl
theorem ml_X12_309 : Cond.methodLink RX12 309 yX12_isIn ∈ lw_gd := zm (List.mem_of_getElem? (i := 1934) (by decide +kernel)) rfl
theorem st_X12_isIn : Cond.static yX12_isIn ∈ lw_gd := zm (List.mem_of_getElem? (i := 1935) (by decide +kernel)) rfl
theorem in_X12 : Cond.initialized RX12 ∈ lw_gd := zm (List.mem_of_getElem? (i := 214) (by decide +kernel)) rfl
theorem co_X12_isIn : Cond.code yX12_isIn cX12_isIn 6 (some .boolean) ∈ lw_gd := zm (List.mem_of_getElem? (i := 1936) (by decide +kernel)) rfl
theorem fl_X12_406 : Cond.fieldLink RX12 406 "CloneVolumesModel" "isTold" "Z" ∈ lw_gd := zm (List.mem_of_getElem? (i := 1585) (by decide +kernel)) rfl
theorem fl_X12_102 : Cond.fieldLink RX12 102 "CloneVolumesModel" "many" "[I" ∈ lw_gd := zm (List.mem_of_getElem? (i := 1577) (by decide +kernel)) rfl
theorem ml_X12_429 : Cond.methodLink RX12 429 yX12_blockMany ∈ lw_gd := zm (List.mem_of_getElem? (i := 2130) (by decide +kernel)) rfl
theorem im_X12_blockMany : Cond.instanceMethod yX12_blockMany ∈ lw_gd := zm (List.mem_of_getElem? (i := 2132) (by decide +kernel)) rfl
theorem se_X12_blockMany : Cond.selects RX12 yX12_blockMany yX12_blockMany ∈ lw_gd := zm (List.mem_of_getElem? (i := 123) (by decide +kernel)) rfl
theorem co_X12_blockMany : Cond.code yX12_blockMany cX12_blockMany 1 (some .int) ∈ lw_gd := zm (List.mem_of_getElem? (i := 2133) (by decide +kernel)) rfl
theorem ml_X12_578 : Cond.methodLink RX12 578 yX12_usedMany ∈ lw_gd := zm (List.mem_of_getElem? (i := 2251) (by decide +kernel)) rfl
theorem im_X12_usedMany : Cond.instanceMethod yX12_usedMany ∈ lw_gd := zm (List.mem_of_getElem? (i := 2253) (by decide +kernel)) rfl
theorem se_X12_usedMany : Cond.selects RX12 yX12_usedMany yX12_usedMany ∈ lw_gd := zm (List.mem_of_getElem? (i := 149) (by decide +kernel)) rfl
theorem co_X12_usedMany : Cond.code yX12_usedMany cX12_usedMany 3 (some .int) ∈ lw_gd := zm (List.mem_of_getElem? (i := 2254) (by decide +kernel)) rfl
theorem ml_X12_581 : Cond.methodLink RX12 581 yX12_heldMany ∈ lw_gd := zm (List.mem_of_getElem? (i := 2255) (by decide +kernel)) rfl
theorem im_X12_heldMany : Cond.instanceMethod yX12_heldMany ∈ lw_gd := zm (List.mem_of_getElem? (i := 2257) (by decide +kernel)) rfl
theorem se_X12_heldMany : Cond.selects RX12 yX12_heldMany yX12_heldMany ∈ lw_gd := zm (List.mem_of_getElem? (i := 150) (by decide +kernel)) rfl
theorem co_X12_heldMany : Cond.code yX12_heldMany cX12_heldMany 3 (some .int) ∈ lw_gd := zm (List.mem_of_getElem? (i := 2258) (by decide +kernel)) rfl
theorem ml_X12_571 : Cond.methodLink RX12 571 yX12_isVolume ∈ lw_gd := zm (List.mem_of_getElem? (i := 2246) (by decide +kernel)) rfl
theorem im_X12_isVolume : Cond.instanceMethod yX12_isVolume ∈ lw_gd := zm (List.mem_of_getElem? (i := 2248) (by decide +kernel)) rfl
theorem se_X12_isVolume : Cond.selects RX12 yX12_isVolume yX12_isVolume ∈ lw_gd := zm (List.mem_of_getElem? (i := 148) (by decide +kernel)) rfl
theorem co_X12_isVolume : Cond.code yX12_isVolume cX12_isVolume 3 (some .boolean) ∈ lw_gd := zm (List.mem_of_getElem? (i := 2249) (by decide +kernel)) rfl
theorem fl_X12_121 : Cond.fieldLink RX12 121 "CloneVolumesModel" "now" "[I" ∈ lw_gd := zm (List.mem_of_getElem? (i := 1587) (by decide +kernel)) rfl
theorem ml_X12_644 : Cond.methodLink RX12 644 yX12_doesFit ∈ lw_gd := zm (List.mem_of_getElem? (i := 2410) (by decide +kernel)) rfl
theorem im_X12_doesFit : Cond.instanceMethod yX12_doesFit ∈ lw_gd := zm (List.mem_of_getElem? (i := 2412) (by decide +kernel)) rfl
theorem se_X12_doesFit : Cond.selects RX12 yX12_doesFit yX12_doesFit ∈ lw_gd := zm (List.mem_of_getElem? (i := 167) (by decide +kernel)) rfl
theorem co_X12_doesFit : Cond.code yX12_doesFit cX12_doesFit 3 (some .boolean) ∈ lw_gd := zm (List.mem_of_getElem? (i := 2413) (by decide +kernel)) rfl
theorem dX12_blockMany_0 : decode cX12_blockMany 0 = .ok (.aload_n 0, 1) := by decide +kernel
theorem dX12_blockMany_1 : decode cX12_blockMany 1 = .ok (.getfield 102, 3) := by decide +kernel
theorem dX12_blockMany_4 : decode cX12_blockMany 4 = .ok (.iconst 5, 1) := by decide +kernel
theorem dX12_blockMany_5 : decode cX12_blockMany 5 = .ok (.iaload, 1) := by decide +kernel
theorem dX12_blockMany_6 : decode cX12_blockMany 6 = .ok (.ireturn, 1) := by decide +kernel
theorem dX12_doesFit_0 : decode cX12_doesFit 0 = .ok (.aload_n 0, 1) := by decide +kernel
theorem dX12_doesFit_1 : decode cX12_doesFit 1 = .ok (.iload_n 1, 1) := by decide +kernel
theorem dX12_doesFit_2 : decode cX12_doesFit 2 = .ok (.i2l, 1) := by decide +kernel
theorem dX12_doesFit_3 : decode cX12_doesFit 3 = .ok (.invokevirtual 571, 3) := by decide +kernel
theorem dX12_doesFit_6 : decode cX12_doesFit 6 = .ok (.ifCond .ne 5, 3) := by decide +kernel
theorem dX12_doesFit_9 : decode cX12_doesFit 9 = .ok (.iconst 0, 1) := by decide +kernel
theorem dX12_doesFit_10 : decode cX12_doesFit 10 = .ok (.ireturn, 1) := by decide +kernel
theorem dX12_fits_0 : decode cX12_fits 0 = .ok (.iload_n 1, 1) := by decide +kernel
theorem dX12_fits_1 : decode cX12_fits 1 = .ok (.iconst (-1), 1) := by decide +kernel
theorem dX12_fits_2 : decode cX12_fits 2 = .ok (.if_icmp .ge 5, 3) := by decide +kernel
theorem dX12_fits_5 : decode cX12_fits 5 = .ok (.iconst (-1), 1) := by decide +kernel
theorem dX12_fits_6 : decode cX12_fits 6 = .ok (.ireturn, 1) := by decide +kernel
theorem dX12_fits_7 : decode cX12_fits 7 = .ok (.iconst 0, 1) := by decide +kernel
theorem dX12_fits_8 : decode cX12_fits 8 = .ok (.istore_n 2, 1) := by decide +kernel
theorem dX12_fits_9 : decode cX12_fits 9 = .ok (.iconst 0, 1) := by decide +kernel
theorem dX12_fits_10 : decode cX12_fits 10 = .ok (.istore_n 3, 1) := by decide +kernel
theorem dX12_fits_11 : decode cX12_fits 11 = .ok (.iload_n 3, 1) := by decide +kernel
theorem dX12_fits_12 : decode cX12_fits 12 = .ok (.bipush 8, 2) := by decide +kernel
theorem dX12_fits_14 : decode cX12_fits 14 = .ok (.if_icmp .ge 30, 3) := by decide +kernel
theorem dX12_fits_17 : decode cX12_fits 17 = .ok (.aload_n 0, 1) := by decide +kernel
theorem dX12_fits_18 : decode cX12_fits 18 = .ok (.iload_n 3, 1) := by decide +kernel
theorem dX12_fits_19 : decode cX12_fits 19 = .ok (.invokevirtual 644, 3) := by decide +kernel
theorem dX12_fits_22 : decode cX12_fits 22 = .ok (.ifCond .ne 6, 3) := by decide +kernel
theorem dX12_fits_25 : decode cX12_fits 25 = .ok (.goto 13, 3) := by decide +kernel
theorem dX12_fits_38 : decode cX12_fits 38 = .ok (.iinc 3 1, 3) := by decide +kernel
theorem dX12_fits_41 : decode cX12_fits 41 = .ok (.goto (-30), 3) := by decide +kernel
theorem dX12_fits_44 : decode cX12_fits 44 = .ok (.iload_n 1, 1) := by decide +kernel
theorem dX12_fits_45 : decode cX12_fits 45 = .ok (.iconst (-1), 1) := by decide +kernel
theorem dX12_fits_46 : decode cX12_fits 46 = .ok (.if_icmp .ne 7, 3) := by decide +kernel
theorem dX12_fits_49 : decode cX12_fits 49 = .ok (.iload_n 2, 1) := by decide +kernel
theorem dX12_fits_50 : decode cX12_fits 50 = .ok (.goto 4, 3) := by decide +kernel
theorem dX12_fits_53 : decode cX12_fits 53 = .ok (.iconst (-1), 1) := by decide +kernel
theorem dX12_fits_54 : decode cX12_fits 54 = .ok (.ireturn, 1) := by decide +kernel
theorem dX12_freeMany_0 : decode cX12_freeMany 0 = .ok (.aload_n 0, 1) := by decide +kernel
theorem dX12_freeMany_1 : decode cX12_freeMany 1 = .ok (.invokevirtual 429, 3) := by decide +kernel
theorem dX12_freeMany_4 : decode cX12_freeMany 4 = .ok (.aload_n 0, 1) := by decide +kernel
theorem dX12_freeMany_5 : decode cX12_freeMany 5 = .ok (.invokevirtual 578, 3) := by decide +kernel
theorem dX12_freeMany_8 : decode cX12_freeMany 8 = .ok (.isub, 1) := by decide +kernel
theorem dX12_freeMany_9 : decode cX12_freeMany 9 = .ok (.aload_n 0, 1) := by decide +kernel
theorem dX12_freeMany_10 : decode cX12_freeMany 10 = .ok (.invokevirtual 581, 3) := by decide +kernel
theorem dX12_freeMany_13 : decode cX12_freeMany 13 = .ok (.isub, 1) := by decide +kernel
theorem dX12_freeMany_14 : decode cX12_freeMany 14 = .ok (.ireturn, 1) := by decide +kernel
theorem dX12_freeNumber_0 : decode cX12_freeNumber 0 = .ok (.iconst 0, 1) := by decide +kernel
theorem dX12_freeNumber_1 : decode cX12_freeNumber 1 = .ok (.istore_n 1, 1) := by decide +kernel
theorem dX12_freeNumber_2 : decode cX12_freeNumber 2 = .ok (.iload_n 1, 1) := by decide +kernel
theorem dX12_freeNumber_3 : decode cX12_freeNumber 3 = .ok (.bipush 8, 2) := by decide +kernel
theorem dX12_freeNumber_5 : decode cX12_freeNumber 5 = .ok (.if_icmp .ge 21, 3) := by decide +kernel
theorem dX12_freeNumber_8 : decode cX12_freeNumber 8 = .ok (.aload_n 0, 1) := by decide +kernel
theorem dX12_freeNumber_9 : decode cX12_freeNumber 9 = .ok (.getfield 121, 3) := by decide +kernel
theorem dX12_freeNumber_12 : decode cX12_freeNumber 12 = .ok (.iload_n 1, 1) := by decide +kernel
theorem dX12_freeNumber_13 : decode cX12_freeNumber 13 = .ok (.iaload, 1) := by decide +kernel
theorem dX12_freeNumber_14 : decode cX12_freeNumber 14 = .ok (.sipush 255, 3) := by decide +kernel
theorem dX12_freeNumber_17 : decode cX12_freeNumber 17 = .ok (.if_icmp .eq 9, 3) := by decide +kernel
theorem dX12_freeNumber_20 : decode cX12_freeNumber 20 = .ok (.iinc 1 1, 3) := by decide +kernel
theorem dX12_freeNumber_23 : decode cX12_freeNumber 23 = .ok (.goto (-21), 3) := by decide +kernel
theorem dX12_freeNumber_26 : decode cX12_freeNumber 26 = .ok (.iload_n 1, 1) := by decide +kernel
theorem dX12_freeNumber_27 : decode cX12_freeNumber 27 = .ok (.ireturn, 1) := by decide +kernel
theorem dX12_heldMany_0 : decode cX12_heldMany 0 = .ok (.iconst 0, 1) := by decide +kernel
theorem dX12_heldMany_1 : decode cX12_heldMany 1 = .ok (.istore_n 1, 1) := by decide +kernel
theorem dX12_heldMany_2 : decode cX12_heldMany 2 = .ok (.iconst 0, 1) := by decide +kernel
theorem dX12_heldMany_3 : decode cX12_heldMany 3 = .ok (.istore_n 2, 1) := by decide +kernel
theorem dX12_heldMany_4 : decode cX12_heldMany 4 = .ok (.iload_n 2, 1) := by decide +kernel
theorem dX12_heldMany_5 : decode cX12_heldMany 5 = .ok (.aload_n 0, 1) := by decide +kernel
theorem dX12_heldMany_6 : decode cX12_heldMany 6 = .ok (.invokevirtual 429, 3) := by decide +kernel
theorem dX12_heldMany_9 : decode cX12_heldMany 9 = .ok (.if_icmp .ge 20, 3) := by decide +kernel
theorem dX12_heldMany_29 : decode cX12_heldMany 29 = .ok (.iload_n 1, 1) := by decide +kernel
theorem dX12_heldMany_30 : decode cX12_heldMany 30 = .ok (.ireturn, 1) := by decide +kernel
theorem dX12_isBlock_0 : decode cX12_isBlock 0 = .ok (.lload_n 1, 1) := by decide +kernel
theorem dX12_isBlock_1 : decode cX12_isBlock 1 = .ok (.lconst 0, 1) := by decide +kernel
theorem dX12_isBlock_2 : decode cX12_isBlock 2 = .ok (.aload_n 0, 1) := by decide +kernel
theorem dX12_isBlock_3 : decode cX12_isBlock 3 = .ok (.invokevirtual 429, 3) := by decide +kernel
theorem dX12_isBlock_6 : decode cX12_isBlock 6 = .ok (.iconst 1, 1) := by decide +kernel
theorem dX12_isBlock_7 : decode cX12_isBlock 7 = .ok (.isub, 1) := by decide +kernel
theorem dX12_isBlock_8 : decode cX12_isBlock 8 = .ok (.i2l, 1) := by decide +kernel
theorem dX12_isBlock_9 : decode cX12_isBlock 9 = .ok (.invokestatic 309, 3) := by decide +kernel
theorem dX12_isBlock_12 : decode cX12_isBlock 12 = .ok (.ireturn, 1) := by decide +kernel
theorem dX12_isImage_0 : decode cX12_isImage 0 = .ok (.aload_n 0, 1) := by decide +kernel
theorem dX12_isImage_1 : decode cX12_isImage 1 = .ok (.getfield 406, 3) := by decide +kernel
theorem dX12_isImage_4 : decode cX12_isImage 4 = .ok (.ifCond .eq 40, 3) := by decide +kernel
theorem dX12_isImage_44 : decode cX12_isImage 44 = .ok (.iconst 0, 1) := by decide +kernel
theorem dX12_isImage_45 : decode cX12_isImage 45 = .ok (.ireturn, 1) := by decide +kernel
theorem dX12_isIn_0 : decode cX12_isIn 0 = .ok (.lload_n 0, 1) := by decide +kernel
theorem dX12_isIn_1 : decode cX12_isIn 1 = .ok (.lload_n 2, 1) := by decide +kernel
theorem dX12_isIn_2 : decode cX12_isIn 2 = .ok (.lcmp, 1) := by decide +kernel
theorem dX12_isIn_3 : decode cX12_isIn 3 = .ok (.ifCond .lt 14, 3) := by decide +kernel
theorem dX12_isIn_6 : decode cX12_isIn 6 = .ok (.lload_n 0, 1) := by decide +kernel
theorem dX12_isIn_7 : decode cX12_isIn 7 = .ok (.lload 4, 2) := by decide +kernel
theorem dX12_isIn_9 : decode cX12_isIn 9 = .ok (.lcmp, 1) := by decide +kernel
theorem dX12_isIn_10 : decode cX12_isIn 10 = .ok (.ifCond .gt 7, 3) := by decide +kernel
theorem dX12_isIn_13 : decode cX12_isIn 13 = .ok (.iconst 1, 1) := by decide +kernel
theorem dX12_isIn_14 : decode cX12_isIn 14 = .ok (.goto 4, 3) := by decide +kernel
theorem dX12_isIn_17 : decode cX12_isIn 17 = .ok (.iconst 0, 1) := by decide +kernel
theorem dX12_isIn_18 : decode cX12_isIn 18 = .ok (.ireturn, 1) := by decide +kernel
theorem dX12_isLetter_0 : decode cX12_isLetter 0 = .ok (.iload_n 0, 1) := by decide +kernel
theorem dX12_isLetter_1 : decode cX12_isLetter 1 = .ok (.bipush 97, 2) := by decide +kernel
theorem dX12_isLetter_3 : decode cX12_isLetter 3 = .ok (.if_icmp .lt 13, 3) := by decide +kernel
theorem dX12_isLetter_6 : decode cX12_isLetter 6 = .ok (.iload_n 0, 1) := by decide +kernel
theorem dX12_isLetter_7 : decode cX12_isLetter 7 = .ok (.bipush 122, 2) := by decide +kernel
theorem dX12_isLetter_9 : decode cX12_isLetter 9 = .ok (.if_icmp .gt 7, 3) := by decide +kernel
theorem dX12_isLetter_12 : decode cX12_isLetter 12 = .ok (.iconst 1, 1) := by decide +kernel
theorem dX12_isLetter_13 : decode cX12_isLetter 13 = .ok (.goto 4, 3) := by decide +kernel
theorem dX12_isLetter_16 : decode cX12_isLetter 16 = .ok (.iconst 0, 1) := by decide +kernel
theorem dX12_isLetter_17 : decode cX12_isLetter 17 = .ok (.ireturn, 1) := by decide +kernel
theorem dX12_isVolume_0 : decode cX12_isVolume 0 = .ok (.lload_n 1, 1) := by decide +kernel
theorem dX12_isVolume_1 : decode cX12_isVolume 1 = .ok (.lconst 0, 1) := by decide +kernel
theorem dX12_isVolume_2 : decode cX12_isVolume 2 = .ok (.ldc2_w 441, 3) := by decide +kernel
theorem dX12_isVolume_5 : decode cX12_isVolume 5 = .ok (.invokestatic 309, 3) := by decide +kernel
theorem dX12_isVolume_8 : decode cX12_isVolume 8 = .ok (.ifCond .eq 27, 3) := by decide +kernel
theorem dX12_isVolume_11 : decode cX12_isVolume 11 = .ok (.aload_n 0, 1) := by decide +kernel
theorem dX12_isVolume_12 : decode cX12_isVolume 12 = .ok (.getfield 406, 3) := by decide +kernel
theorem dX12_isVolume_15 : decode cX12_isVolume 15 = .ok (.ifCond .eq 20, 3) := by decide +kernel
theorem dX12_isVolume_35 : decode cX12_isVolume 35 = .ok (.iconst 0, 1) := by decide +kernel
theorem dX12_isVolume_36 : decode cX12_isVolume 36 = .ok (.ireturn, 1) := by decide +kernel
theorem dX12_roomOf_0 : decode cX12_roomOf 0 = .ok (.aload_n 0, 1) := by decide +kernel
theorem dX12_roomOf_1 : decode cX12_roomOf 1 = .ok (.getfield 102, 3) := by decide +kernel
theorem dX12_roomOf_4 : decode cX12_roomOf 4 = .ok (.bipush 6, 2) := by decide +kernel
theorem dX12_roomOf_6 : decode cX12_roomOf 6 = .ok (.iaload, 1) := by decide +kernel
theorem dX12_roomOf_7 : decode cX12_roomOf 7 = .ok (.ireturn, 1) := by decide +kernel
theorem dX12_usedMany_0 : decode cX12_usedMany 0 = .ok (.iconst 0, 1) := by decide +kernel
theorem dX12_usedMany_1 : decode cX12_usedMany 1 = .ok (.istore_n 1, 1) := by decide +kernel
theorem dX12_usedMany_2 : decode cX12_usedMany 2 = .ok (.iconst 0, 1) := by decide +kernel
theorem dX12_usedMany_3 : decode cX12_usedMany 3 = .ok (.istore_n 2, 1) := by decide +kernel
theorem dX12_usedMany_4 : decode cX12_usedMany 4 = .ok (.iload_n 2, 1) := by decide +kernel
theorem dX12_usedMany_5 : decode cX12_usedMany 5 = .ok (.aload_n 0, 1) := by decide +kernel
theorem dX12_usedMany_6 : decode cX12_usedMany 6 = .ok (.invokevirtual 429, 3) := by decide +kernel
theorem dX12_usedMany_9 : decode cX12_usedMany 9 = .ok (.if_icmp .ge 20, 3) := by decide +kernel
theorem dX12_usedMany_29 : decode cX12_usedMany 29 = .ok (.iload_n 1, 1) := by decide +kernel
theorem dX12_usedMany_30 : decode cX12_usedMany 30 = .ok (.ireturn, 1) := by decide +kernel
theorem dX12_volumeMany_0 : decode cX12_volumeMany 0 = .ok (.iconst 0, 1) := by decide +kernel
theorem dX12_volumeMany_1 : decode cX12_volumeMany 1 = .ok (.istore_n 1, 1) := by decide +kernel
theorem dX12_volumeMany_2 : decode cX12_volumeMany 2 = .ok (.iconst 0, 1) := by decide +kernel
theorem dX12_volumeMany_3 : decode cX12_volumeMany 3 = .ok (.istore_n 2, 1) := by decide +kernel
theorem dX12_volumeMany_4 : decode cX12_volumeMany 4 = .ok (.iload_n 2, 1) := by decide +kernel
theorem dX12_volumeMany_5 : decode cX12_volumeMany 5 = .ok (.bipush 8, 2) := by decide +kernel
theorem dX12_volumeMany_7 : decode cX12_volumeMany 7 = .ok (.if_icmp .ge 21, 3) := by decide +kernel
theorem dX12_volumeMany_10 : decode cX12_volumeMany 10 = .ok (.aload_n 0, 1) := by decide +kernel
theorem dX12_volumeMany_11 : decode cX12_volumeMany 11 = .ok (.iload_n 2, 1) := by decide +kernel
theorem dX12_volumeMany_12 : decode cX12_volumeMany 12 = .ok (.i2l, 1) := by decide +kernel
theorem dX12_volumeMany_13 : decode cX12_volumeMany 13 = .ok (.invokevirtual 571, 3) := by decide +kernel
theorem dX12_volumeMany_16 : decode cX12_volumeMany 16 = .ok (.ifCond .eq 6, 3) := by decide +kernel
theorem dX12_volumeMany_22 : decode cX12_volumeMany 22 = .ok (.iinc 2 1, 3) := by decide +kernel
theorem dX12_volumeMany_25 : decode cX12_volumeMany 25 = .ok (.goto (-21), 3) := by decide +kernel
theorem dX12_volumeMany_28 : decode cX12_volumeMany 28 = .ok (.iload_n 1, 1) := by decide +kernel
theorem dX12_volumeMany_29 : decode cX12_volumeMany 29 = .ok (.ireturn, 1) := by decide +kernel
set_option maxHeartbeats 4000000 in
set_option maxRecDepth 100000 in
theorem k_X12_isIn (l : Launch) (D : va_G) (p0 p1 p2 : Int64) : Met l yX12_isIn (wz yX12_isIn cX12_isIn 6 (some .boolean)) { frames := 0, cells := 0, slots := 0, locals := 0 } (va_Pc [.long p0, .long p1, .long p2] (zP D [])) (va_Qi (fun r (_ : Unit) => (r = 0 ∧ p0.toInt < p1.toInt) ∨ (r = 0 ∧ p1.toInt ≤ p0.toInt ∧ p2.toInt < p0.toInt) ∨ (r = 1 ∧ p1.toInt ≤ p0.toInt ∧ p0.toInt ≤ p2.toInt)) (fun _ _ => True) (fun _ => False)) 0 0 (fun _ => False) := by
  refine Met.ofW (cc := cX12_isIn) (maxL := 6) (ret := (some .boolean)) (by decide) rfl ?_
  intro p e s m args below meth c s₁ B hml hv
  obtain ⟨rfl, hP, hK⟩ := hv
  have hx := B.exec
  have hb := B.bytes
  have hr := B.returns
  have hts := atoms_spec (ws := wz yX12_isIn cX12_isIn 6 (some .boolean)) B.pre
  have ht : ∀ w ∈ lw_gd, w.before _ s = true := fun w h => hts w (List.mem_cons_of_mem _ h)
  have hown : s.vm.findClass RX12 = some m.cls := findClass_of_methodNamed B.named
  have hlocks := B.notSynchronized
  have hS : va_S (fun _ => False) s.heap s.heap [] := va_S.rf
  have hl := lv_entry ([.long p0, .long p1, .long p2]) (n := 6) (Nat.le_of_ble_eq_true rfl)
  rw [lg_entry_eq]
  generalize (lg_sl ([.long p0, .long p1, .long p2]) ++ List.replicate (6 - (lg_sl ([.long p0, .long p1, .long p2])).length) Slot.unset).toArray = ls at hl ⊢
  have hl : lv_has ls 6 [(0, .long p0), (2, .long p1), (4, .long p2)] := hl
  refine lv_lload_n hx hb dX12_isIn_0 rfl (lv_at hl 0 rfl) ?_
  refine lv_lload_n hx hb dX12_isIn_1 rfl (lv_at hl 1 rfl) ?_
  refine W.lcmp hx hb dX12_isIn_2 ?_
  refine lv_if_lt (tgt := 17) hx hb dX12_isIn_3 (by decide) (fun c_1 => ?_) (fun c_1 => ?_)
  · have g_2 : p0.toInt < p1.toInt := zc_lt rfl rfl c_1
    refine lv_iconst (v := 0) hx hb dX12_isIn_17 (by decide) ?_
    exact W.zret (v := 0) hx hb hr (by decide) (fun t ht hW => ⟨⟨0, (), rfl, Or.inl (⟨rfl, zu_lt rfl rfl g_2⟩), trivial⟩, hS.F ht⟩) hS.2.2 dX12_isIn_18
  · have g_2 : p1.toInt ≤ p0.toInt := zc_lt_n rfl rfl c_1
    refine lv_lload_n hx hb dX12_isIn_6 rfl (lv_at hl 0 rfl) ?_
    refine lv_lload hx hb dX12_isIn_7 (lv_at hl 2 rfl) ?_
    refine W.lcmp hx hb dX12_isIn_9 ?_
    refine lv_if_gt (tgt := 17) hx hb dX12_isIn_10 (by decide) (fun c_3 => ?_) (fun c_3 => ?_)
    · have g_4 : p2.toInt < p0.toInt := zc_gt rfl rfl c_3
      refine lv_iconst (v := 0) hx hb dX12_isIn_17 (by decide) ?_
      exact W.zret (v := 0) hx hb hr (by decide) (fun t ht hW => ⟨⟨0, (), rfl, Or.inr (Or.inl (⟨rfl, zu_ge rfl rfl g_2, zu_gt rfl rfl g_4⟩)), trivial⟩, hS.F ht⟩) hS.2.2 dX12_isIn_18
    · have g_4 : p0.toInt ≤ p2.toInt := zc_gt_n rfl rfl c_3
      refine lv_iconst (v := 1) hx hb dX12_isIn_13 (by decide) ?_
      refine lv_goto (tgt := 18) hx hb dX12_isIn_14 (by decide) ?_
      exact W.zret (v := 1) hx hb hr (by decide) (fun t ht hW => ⟨⟨1, (), rfl, Or.inr (Or.inr (⟨rfl, zu_ge rfl rfl g_2, zu_le rfl rfl g_4⟩)), trivial⟩, hS.F ht⟩) hS.2.2 dX12_isIn_18
set_option maxHeartbeats 4000000 in
set_option maxRecDepth 100000 in
theorem k_X12_isLetter (l : Launch) (D : va_G) (p0 : Int32) : Met l yX12_isLetter (wz yX12_isLetter cX12_isLetter 1 (some .boolean)) { frames := 0, cells := 0, slots := 0, locals := 0 } (va_Pc [.int p0] (zP D [])) (va_Qi (fun r (_ : Unit) => (r = 0 ∧ p0.toInt < 97) ∨ (r = 0 ∧ 97 ≤ p0.toInt ∧ 122 < p0.toInt) ∨ (r = 1 ∧ 97 ≤ p0.toInt ∧ p0.toInt ≤ 122)) (fun _ _ => True) (fun _ => False)) 0 0 (fun _ => False) := by
  refine Met.ofW (cc := cX12_isLetter) (maxL := 1) (ret := (some .boolean)) (by decide) rfl ?_
  intro p e s m args below meth c s₁ B hml hv
  obtain ⟨rfl, hP, hK⟩ := hv
  have hx := B.exec
  have hb := B.bytes
  have hr := B.returns
  have hts := atoms_spec (ws := wz yX12_isLetter cX12_isLetter 1 (some .boolean)) B.pre
  have ht : ∀ w ∈ lw_gd, w.before _ s = true := fun w h => hts w (List.mem_cons_of_mem _ h)
  have hown : s.vm.findClass RX12 = some m.cls := findClass_of_methodNamed B.named
  have hlocks := B.notSynchronized
  have hS : va_S (fun _ => False) s.heap s.heap [] := va_S.rf
  have hl := lv_entry ([.int p0]) (n := 1) (Nat.le_of_ble_eq_true rfl)
  rw [lg_entry_eq]
  generalize (lg_sl ([.int p0]) ++ List.replicate (1 - (lg_sl ([.int p0])).length) Slot.unset).toArray = ls at hl ⊢
  have hl : lv_has ls 1 [(0, .int p0)] := hl
  refine lv_iload_n hx hb dX12_isLetter_0 rfl (lv_at hl 0 rfl) ?_
  refine lv_bipush (v := 97) hx hb dX12_isLetter_1 (by decide) ?_
  refine lv_icmp_lt (tgt := 16) hx hb dX12_isLetter_3 (by decide) (fun c_1 => ?_) (fun c_1 => ?_)
  · have g_2 : p0.toInt < 97 := z_lt rfl (by decide) c_1
    refine lv_iconst (v := 0) hx hb dX12_isLetter_16 (by decide) ?_
    exact W.zret (v := 0) hx hb hr (by decide) (fun t ht hW => ⟨⟨0, (), rfl, Or.inl (⟨rfl, zu_lt rfl (by decide) g_2⟩), trivial⟩, hS.F ht⟩) hS.2.2 dX12_isLetter_17
  · have g_2 : 97 ≤ p0.toInt := z_nlt rfl (by decide) c_1
    refine lv_iload_n hx hb dX12_isLetter_6 rfl (lv_at hl 0 rfl) ?_
    refine lv_bipush (v := 122) hx hb dX12_isLetter_7 (by decide) ?_
    refine lv_icmp_gt (tgt := 16) hx hb dX12_isLetter_9 (by decide) (fun c_3 => ?_) (fun c_3 => ?_)
    · have g_4 : 122 < p0.toInt := z_lt (by decide) rfl c_3
      refine lv_iconst (v := 0) hx hb dX12_isLetter_16 (by decide) ?_
      exact W.zret (v := 0) hx hb hr (by decide) (fun t ht hW => ⟨⟨0, (), rfl, Or.inr (Or.inl (⟨rfl, zu_ge rfl (by decide) g_2, zu_gt rfl (by decide) g_4⟩)), trivial⟩, hS.F ht⟩) hS.2.2 dX12_isLetter_17
    · have g_4 : p0.toInt ≤ 122 := z_nlt (by decide) rfl c_3
      refine lv_iconst (v := 1) hx hb dX12_isLetter_12 (by decide) ?_
      refine lv_goto (tgt := 17) hx hb dX12_isLetter_13 (by decide) ?_
      exact W.zret (v := 1) hx hb hr (by decide) (fun t ht hW => ⟨⟨1, (), rfl, Or.inr (Or.inr (⟨rfl, zu_ge rfl (by decide) g_2, zu_le rfl (by decide) g_4⟩)), trivial⟩, hS.F ht⟩) hS.2.2 dX12_isLetter_17
set_option maxHeartbeats 4000000 in
set_option maxRecDepth 100000 in
theorem k_X12_isVolume (l : Launch) (D : va_G) (a : Nat → Nat) (p0 : Int64) : Met l yX12_isVolume (wz yX12_isVolume cX12_isVolume 3 (some .boolean)) { frames := 1, cells := 0, slots := 0, locals := 60 } (va_Pc [.ref (a 200), .long p0] (zP D [((a 200), .inr (12, mO a 0 0 0 0 0 0 0 (-1) 0 0 1 0))])) (va_Qi (fun r (_ : Unit) => r = 0) (fun _ _ => True) (fun _ => False)) 0 0 (fun _ => False) := by
  refine Met.ofW (cc := cX12_isVolume) (maxL := 3) (ret := (some .boolean)) (by decide) rfl ?_
  intro p e s m args below meth c s₁ B hml hv
  obtain ⟨rfl, hP, hK⟩ := hv
  have hx := B.exec
  have hb := B.bytes
  have hr := B.returns
  have hts := atoms_spec (ws := wz yX12_isVolume cX12_isVolume 3 (some .boolean)) B.pre
  have ht : ∀ w ∈ lw_gd, w.before _ s = true := fun w h => hts w (List.mem_cons_of_mem _ h)
  have hown : s.vm.findClass RX12 = some m.cls := findClass_of_methodNamed B.named
  have hlocks := B.notSynchronized
  have hS : va_S (fun _ => False) s.heap s.heap [] := va_S.rf
  have hl := lv_entry ([.ref (a 200), .long p0]) (n := 3) (Nat.le_of_ble_eq_true rfl)
  rw [lg_entry_eq]
  generalize (lg_sl ([.ref (a 200), .long p0]) ++ List.replicate (3 - (lg_sl ([.ref (a 200), .long p0])).length) Slot.unset).toArray = ls at hl ⊢
  have hl : lv_has ls 3 [(0, .ref (a 200)), (1, .long p0)] := hl
  refine lv_lload_n hx hb dX12_isVolume_0 rfl (lv_at hl 1 rfl) ?_
  refine lv_lconst (v := 0) hx hb dX12_isVolume_1 (by decide) ?_
  refine lv_ldc2 (own := RX12) (v := 7) hx hb hown (ht _ cl_X12_441) dX12_isVolume_2 ?_
  refine zcS (As := [.long p0, .long 0, .long 7]) (rest := []) (n := 3) ⟨hx, hb, hml, hown, ht⟩ (k_X12_isIn l D p0 0 7) (zgT ml_X12_309 st_X12_isIn in_X12 co_X12_isIn) rfl rfl (by decide +kernel) ⟨Nat.le_of_ble_eq_true rfl, Nat.le_of_ble_eq_true rfl⟩ hK hP hS [] rfl rfl hl.1 rfl (Nat.le_of_ble_eq_true rfl) dX12_isVolume_5 ⟨Nat.le_of_ble_eq_true rfl, Nat.le_of_ble_eq_true rfl⟩ (fun r_1 H locs hw hP hS => ?_)
  rcases hw with ⟨rfl, g_2⟩ | ⟨rfl, g_3, g_4⟩ | ⟨rfl, g_5, g_6⟩
  · skip
    have g_2 : p0.toInt < 0 := zt_lt rfl (by decide) g_2
    refine lv_if_eq (tgt := 35) hx hb dX12_isVolume_8 (by decide) (fun _ => ?_) (fun c_7 => (z_abs c_7 (by decide)).elim)
    refine lv_iconst (v := 0) hx hb dX12_isVolume_35 (by decide) ?_
    exact W.zret (v := 0) hx hb hr (by decide) (fun t ht hW => ⟨⟨0, (), rfl, rfl, trivial⟩, hS.F ht⟩) hS.2.2 dX12_isVolume_36
  · skip
    have g_3 : 0 ≤ p0.toInt := zt_ge rfl (by decide) g_3
    have g_4 : 7 < p0.toInt := zt_gt rfl (by decide) g_4
    refine lv_if_eq (tgt := 35) hx hb dX12_isVolume_8 (by decide) (fun _ => ?_) (fun c_9 => (z_abs c_9 (by decide)).elim)
    refine lv_iconst (v := 0) hx hb dX12_isVolume_35 (by decide) ?_
    exact W.zret (v := 0) hx hb hr (by decide) (fun t ht hW => ⟨⟨0, (), rfl, rfl, trivial⟩, hS.F ht⟩) hS.2.2 dX12_isVolume_36
  · skip
    have g_5 : 0 ≤ p0.toInt := zt_ge rfl (by decide) g_5
    have g_6 : p0.toInt ≤ 7 := zt_le rfl (by decide) g_6
    refine lv_if_eq (tgt := 35) hx hb dX12_isVolume_8 (by decide) (fun c_11 => (z_abs c_11 (by decide)).elim) (fun _ => ?_)
    refine lv_aload_n hx hb dX12_isVolume_11 rfl (lv_at hl 0 rfl) ?_
    refine va_get (D := D) (ci := 12) (v := .int 0) (C := RX12) (T := TX12) (N := 116) hx hb ht inX12 hown hK hP 0 rfl rfl 47 (by decide) (ht (.fieldLink RX12 406 "CloneVolumesModel" "isTold" "Z") fl_X12_406) (fun _ h9 => h9) rfl dX12_isVolume_12 ?_
    refine lv_if_eq (tgt := 35) hx hb dX12_isVolume_15 (by decide) (fun _ => ?_) (fun c_13 => (z_abs c_13 (by decide)).elim)
    refine lv_iconst (v := 0) hx hb dX12_isVolume_35 (by decide) ?_
    exact W.zret (v := 0) hx hb hr (by decide) (fun t ht hW => ⟨⟨0, (), rfl, rfl, trivial⟩, hS.F ht⟩) hS.2.2 dX12_isVolume_36
set_option maxHeartbeats 4000000 in
set_option maxRecDepth 100000 in
theorem k_X12_blockMany (l : Launch) (D : va_G) (a : Nat → Nat)  : Met l yX12_blockMany (wz yX12_blockMany cX12_blockMany 1 (some .int)) { frames := 0, cells := 0, slots := 0, locals := 0 } (va_Pc [.ref (a 200)] (zP D [((a 200), .inr (12, mO a 0 0 0 0 0 0 0 (-1) 0 0 1 0)), ((a 39), .inl (D.1 13, 10, .inl (fun _ => 0)))])) (va_Qi (fun r (_ : Unit) => r = 0) (fun _ _ => True) (fun _ => False)) 0 0 (fun _ => False) := by
  refine Met.ofW (cc := cX12_blockMany) (maxL := 1) (ret := (some .int)) (by decide) rfl ?_
  intro p e s m args below meth c s₁ B hml hv
  obtain ⟨rfl, hP, hK⟩ := hv
  have hx := B.exec
  have hb := B.bytes
  have hr := B.returns
  have hts := atoms_spec (ws := wz yX12_blockMany cX12_blockMany 1 (some .int)) B.pre
  have ht : ∀ w ∈ lw_gd, w.before _ s = true := fun w h => hts w (List.mem_cons_of_mem _ h)
  have hown : s.vm.findClass RX12 = some m.cls := findClass_of_methodNamed B.named
  have hlocks := B.notSynchronized
  have hS : va_S (fun _ => False) s.heap s.heap [] := va_S.rf
  have hl := lv_entry ([.ref (a 200)]) (n := 1) (Nat.le_of_ble_eq_true rfl)
  rw [lg_entry_eq]
  generalize (lg_sl ([.ref (a 200)]) ++ List.replicate (1 - (lg_sl ([.ref (a 200)])).length) Slot.unset).toArray = ls at hl ⊢
  have hl : lv_has ls 1 [(0, .ref (a 200))] := hl
  refine lv_aload_n hx hb dX12_blockMany_0 rfl (lv_at hl 0 rfl) ?_
  refine va_get (D := D) (ci := 12) (v := .ref (a 39)) (C := RX12) (T := TX12) (N := 116) hx hb ht inX12 hown hK hP 0 rfl rfl 39 (by decide) (ht (.fieldLink RX12 102 "CloneVolumesModel" "many" "[I") fl_X12_102) (fun _ h9 => h9) rfl dX12_blockMany_1 ?_
  refine lv_iconst (v := 5) hx hb dX12_blockMany_4 (by decide) ?_
  refine va_iald hx hb hK hP 1 0 rfl rfl (z_in (by decide) (by decide)) dX12_blockMany_5 ?_
  refine z_topi (y := 0) (by decide) ?_
  exact W.iret (v := 0) hx hb hr (fun t ht hW => ⟨⟨0, (), rfl, rfl, trivial⟩, hS.F ht⟩) hS.2.2 dX12_blockMany_6
set_option maxHeartbeats 4000000 in
set_option maxRecDepth 100000 in
theorem k_X12_roomOf (l : Launch) (D : va_G) (a : Nat → Nat)  : Met l yX12_roomOf (wz yX12_roomOf cX12_roomOf 1 (some .int)) { frames := 0, cells := 0, slots := 0, locals := 0 } (va_Pc [.ref (a 200)] (zP D [((a 200), .inr (12, mO a 0 0 0 0 0 0 0 (-1) 0 0 1 0)), ((a 39), .inl (D.1 13, 10, .inl (fun _ => 0)))])) (va_Qi (fun r (_ : Unit) => r = 0) (fun _ _ => True) (fun _ => False)) 0 0 (fun _ => False) := by
  refine Met.ofW (cc := cX12_roomOf) (maxL := 1) (ret := (some .int)) (by decide) rfl ?_
  intro p e s m args below meth c s₁ B hml hv
  obtain ⟨rfl, hP, hK⟩ := hv
  have hx := B.exec
  have hb := B.bytes
  have hr := B.returns
  have hts := atoms_spec (ws := wz yX12_roomOf cX12_roomOf 1 (some .int)) B.pre
  have ht : ∀ w ∈ lw_gd, w.before _ s = true := fun w h => hts w (List.mem_cons_of_mem _ h)
  have hown : s.vm.findClass RX12 = some m.cls := findClass_of_methodNamed B.named
  have hlocks := B.notSynchronized
  have hS : va_S (fun _ => False) s.heap s.heap [] := va_S.rf
  have hl := lv_entry ([.ref (a 200)]) (n := 1) (Nat.le_of_ble_eq_true rfl)
  rw [lg_entry_eq]
  generalize (lg_sl ([.ref (a 200)]) ++ List.replicate (1 - (lg_sl ([.ref (a 200)])).length) Slot.unset).toArray = ls at hl ⊢
  have hl : lv_has ls 1 [(0, .ref (a 200))] := hl
  refine lv_aload_n hx hb dX12_roomOf_0 rfl (lv_at hl 0 rfl) ?_
  refine va_get (D := D) (ci := 12) (v := .ref (a 39)) (C := RX12) (T := TX12) (N := 116) hx hb ht inX12 hown hK hP 0 rfl rfl 39 (by decide) (ht (.fieldLink RX12 102 "CloneVolumesModel" "many" "[I") fl_X12_102) (fun _ h9 => h9) rfl dX12_roomOf_1 ?_
  refine lv_bipush (v := 6) hx hb dX12_roomOf_4 (by decide) ?_
  refine va_iald hx hb hK hP 1 0 rfl rfl (z_in (by decide) (by decide)) dX12_roomOf_6 ?_
  refine z_topi (y := 0) (by decide) ?_
  exact W.iret (v := 0) hx hb hr (fun t ht hW => ⟨⟨0, (), rfl, rfl, trivial⟩, hS.F ht⟩) hS.2.2 dX12_roomOf_7
set_option maxHeartbeats 4000000 in
set_option maxRecDepth 100000 in
theorem k_X12_isBlock (l : Launch) (D : va_G) (a : Nat → Nat) (p0 : Int64) : Met l yX12_isBlock (wz yX12_isBlock cX12_isBlock 3 (some .boolean)) { frames := 1, cells := 0, slots := 0, locals := 60 } (va_Pc [.ref (a 200), .long p0] (zP D [((a 200), .inr (12, mO a 0 0 0 0 0 0 0 (-1) 0 0 1 0)), ((a 39), .inl (D.1 13, 10, .inl (fun _ => 0)))])) (va_Qi (fun r (_ : Unit) => r = 0) (fun _ _ => True) (fun _ => False)) 0 0 (fun _ => False) := by
  refine Met.ofW (cc := cX12_isBlock) (maxL := 3) (ret := (some .boolean)) (by decide) rfl ?_
  intro p e s m args below meth c s₁ B hml hv
  obtain ⟨rfl, hP, hK⟩ := hv
  have hx := B.exec
  have hb := B.bytes
  have hr := B.returns
  have hts := atoms_spec (ws := wz yX12_isBlock cX12_isBlock 3 (some .boolean)) B.pre
  have ht : ∀ w ∈ lw_gd, w.before _ s = true := fun w h => hts w (List.mem_cons_of_mem _ h)
  have hown : s.vm.findClass RX12 = some m.cls := findClass_of_methodNamed B.named
  have hlocks := B.notSynchronized
  have hS : va_S (fun _ => False) s.heap s.heap [] := va_S.rf
  have hl := lv_entry ([.ref (a 200), .long p0]) (n := 3) (Nat.le_of_ble_eq_true rfl)
  rw [lg_entry_eq]
  generalize (lg_sl ([.ref (a 200), .long p0]) ++ List.replicate (3 - (lg_sl ([.ref (a 200), .long p0])).length) Slot.unset).toArray = ls at hl ⊢
  have hl : lv_has ls 3 [(0, .ref (a 200)), (1, .long p0)] := hl
  refine lv_lload_n hx hb dX12_isBlock_0 rfl (lv_at hl 1 rfl) ?_
  refine lv_lconst (v := 0) hx hb dX12_isBlock_1 (by decide) ?_
  refine lv_aload_n hx hb dX12_isBlock_2 rfl (lv_at hl 0 rfl) ?_
  refine zcV (As := []) (rest := [.long 0, .long p0]) (C := RX12) (n := 0) ⟨hx, hb, hml, hown, ht⟩ (k_X12_blockMany l D a) (zgV ml_X12_429 im_X12_blockMany se_X12_blockMany in_X12 co_X12_blockMany) rfl rfl (by decide +kernel) ⟨Nat.le_of_ble_eq_true rfl, Nat.le_of_ble_eq_true rfl⟩ hK hP hS [0, 1] rfl 0 rfl rfl rfl rfl hl.1 rfl (Nat.le_of_ble_eq_true rfl) dX12_isBlock_3 ⟨Nat.le_of_ble_eq_true rfl, Nat.le_of_ble_eq_true rfl⟩ (fun r_1 H locs hw hP hS => ?_)
  subst hw
  refine lv_iconst (v := 1) hx hb dX12_isBlock_6 (by decide) ?_
  refine lv_isub hx hb dX12_isBlock_7 ?_
  refine z_topi (y := (-1)) (by decide) ?_
  refine lv_i2l (v := (-1)) hx hb dX12_isBlock_8 (by decide) ?_
  refine zcS (As := [.long p0, .long 0, .long (-1)]) (rest := []) (n := 3) ⟨hx, hb, hml, hown, ht⟩ (k_X12_isIn l D p0 0 (-1)) (zgT ml_X12_309 st_X12_isIn in_X12 co_X12_isIn) rfl rfl (by decide +kernel) ⟨Nat.le_of_ble_eq_true rfl, Nat.le_of_ble_eq_true rfl⟩ hK hP hS [] rfl rfl hl.1 rfl (Nat.le_of_ble_eq_true rfl) dX12_isBlock_9 ⟨Nat.le_of_ble_eq_true rfl, Nat.le_of_ble_eq_true rfl⟩ (fun r_2 H locs hw hP hS => ?_)
  rcases hw with ⟨rfl, g_3⟩ | ⟨rfl, g_4, g_5⟩ | ⟨rfl, g_6, g_7⟩
  · skip
    have g_3 : p0.toInt < 0 := zt_lt rfl (by decide) g_3
    exact W.zret (v := 0) hx hb hr (by decide) (fun t ht hW => ⟨⟨0, (), rfl, rfl, trivial⟩, hS.F ht⟩) hS.2.2 dX12_isBlock_12
  · skip
    have g_4 : 0 ≤ p0.toInt := zt_ge rfl (by decide) g_4
    have g_5 : (-1) < p0.toInt := zt_gt rfl (by decide) g_5
    exact W.zret (v := 0) hx hb hr (by decide) (fun t ht hW => ⟨⟨0, (), rfl, rfl, trivial⟩, hS.F ht⟩) hS.2.2 dX12_isBlock_12
  · skip
    have g_6 : 0 ≤ p0.toInt := zt_ge rfl (by decide) g_6
    have g_7 : p0.toInt ≤ (-1) := zt_le rfl (by decide) g_7
    exfalso; omega
set_option maxHeartbeats 4000000 in
set_option maxRecDepth 100000 in
theorem k_X12_usedMany (l : Launch) (D : va_G) (a : Nat → Nat)  : Met l yX12_usedMany (wz yX12_usedMany cX12_usedMany 3 (some .int)) { frames := 1, cells := 0, slots := 0, locals := 60 } (va_Pc [.ref (a 200)] (zP D [((a 200), .inr (12, mO a 0 0 0 0 0 0 0 (-1) 0 0 1 0)), ((a 39), .inl (D.1 13, 10, .inl (fun _ => 0)))])) (va_Qi (fun r (_ : Unit) => r = 0) (fun _ _ => True) (fun _ => False)) 0 0 (fun _ => False) := by
  refine Met.ofW (cc := cX12_usedMany) (maxL := 3) (ret := (some .int)) (by decide) rfl ?_
  intro p e s m args below meth c s₁ B hml hv
  obtain ⟨rfl, hP, hK⟩ := hv
  have hx := B.exec
  have hb := B.bytes
  have hr := B.returns
  have hts := atoms_spec (ws := wz yX12_usedMany cX12_usedMany 3 (some .int)) B.pre
  have ht : ∀ w ∈ lw_gd, w.before _ s = true := fun w h => hts w (List.mem_cons_of_mem _ h)
  have hown : s.vm.findClass RX12 = some m.cls := findClass_of_methodNamed B.named
  have hlocks := B.notSynchronized
  have hS : va_S (fun _ => False) s.heap s.heap [] := va_S.rf
  have hl := lv_entry ([.ref (a 200)]) (n := 3) (Nat.le_of_ble_eq_true rfl)
  rw [lg_entry_eq]
  generalize (lg_sl ([.ref (a 200)]) ++ List.replicate (3 - (lg_sl ([.ref (a 200)])).length) Slot.unset).toArray = ls at hl ⊢
  have hl : lv_has ls 3 [(0, .ref (a 200))] := hl
  refine lv_iconst (v := 0) hx hb dX12_usedMany_0 (by decide) ?_
  refine lv_istore_n (lv' := [(1, .int 0), (0, .ref (a 200))]) hx hb dX12_usedMany_1 rfl hl (by decide) rfl (fun ls hl => ?_)
  refine lv_iconst (v := 0) hx hb dX12_usedMany_2 (by decide) ?_
  refine lv_istore_n (lv' := [(2, .int 0), (1, .int 0), (0, .ref (a 200))]) hx hb dX12_usedMany_3 rfl hl (by decide) rfl (fun ls hl => ?_)
  refine lv_iload_n hx hb dX12_usedMany_4 rfl (lv_at hl 0 rfl) ?_
  refine lv_aload_n hx hb dX12_usedMany_5 rfl (lv_at hl 2 rfl) ?_
  refine zcV (As := []) (rest := [.int 0]) (C := RX12) (n := 0) ⟨hx, hb, hml, hown, ht⟩ (k_X12_blockMany l D a) (zgV ml_X12_429 im_X12_blockMany se_X12_blockMany in_X12 co_X12_blockMany) rfl rfl (by decide +kernel) ⟨Nat.le_of_ble_eq_true rfl, Nat.le_of_ble_eq_true rfl⟩ hK hP hS [0, 1] rfl 0 rfl rfl rfl rfl hl.1 rfl (Nat.le_of_ble_eq_true rfl) dX12_usedMany_6 ⟨Nat.le_of_ble_eq_true rfl, Nat.le_of_ble_eq_true rfl⟩ (fun r_1 H locs hw hP hS => ?_)
  subst hw
  refine lv_icmp_ge (tgt := 29) hx hb dX12_usedMany_9 (by decide) (fun _ => ?_) (fun c_2 => (z_abs c_2 (by decide)).elim)
  refine lv_iload_n hx hb dX12_usedMany_29 rfl (lv_at hl 1 rfl) ?_
  exact W.iret (v := 0) hx hb hr (fun t ht hW => ⟨⟨0, (), rfl, rfl, trivial⟩, hS.F ht⟩) hS.2.2 dX12_usedMany_30
set_option maxHeartbeats 4000000 in
set_option maxRecDepth 100000 in
theorem k_X12_heldMany (l : Launch) (D : va_G) (a : Nat → Nat)  : Met l yX12_heldMany (wz yX12_heldMany cX12_heldMany 3 (some .int)) { frames := 1, cells := 0, slots := 0, locals := 60 } (va_Pc [.ref (a 200)] (zP D [((a 200), .inr (12, mO a 0 0 0 0 0 0 0 (-1) 0 0 1 0)), ((a 39), .inl (D.1 13, 10, .inl (fun _ => 0)))])) (va_Qi (fun r (_ : Unit) => r = 0) (fun _ _ => True) (fun _ => False)) 0 0 (fun _ => False) := by
  refine Met.ofW (cc := cX12_heldMany) (maxL := 3) (ret := (some .int)) (by decide) rfl ?_
  intro p e s m args below meth c s₁ B hml hv
  obtain ⟨rfl, hP, hK⟩ := hv
  have hx := B.exec
  have hb := B.bytes
  have hr := B.returns
  have hts := atoms_spec (ws := wz yX12_heldMany cX12_heldMany 3 (some .int)) B.pre
  have ht : ∀ w ∈ lw_gd, w.before _ s = true := fun w h => hts w (List.mem_cons_of_mem _ h)
  have hown : s.vm.findClass RX12 = some m.cls := findClass_of_methodNamed B.named
  have hlocks := B.notSynchronized
  have hS : va_S (fun _ => False) s.heap s.heap [] := va_S.rf
  have hl := lv_entry ([.ref (a 200)]) (n := 3) (Nat.le_of_ble_eq_true rfl)
  rw [lg_entry_eq]
  generalize (lg_sl ([.ref (a 200)]) ++ List.replicate (3 - (lg_sl ([.ref (a 200)])).length) Slot.unset).toArray = ls at hl ⊢
  have hl : lv_has ls 3 [(0, .ref (a 200))] := hl
  refine lv_iconst (v := 0) hx hb dX12_heldMany_0 (by decide) ?_
  refine lv_istore_n (lv' := [(1, .int 0), (0, .ref (a 200))]) hx hb dX12_heldMany_1 rfl hl (by decide) rfl (fun ls hl => ?_)
  refine lv_iconst (v := 0) hx hb dX12_heldMany_2 (by decide) ?_
  refine lv_istore_n (lv' := [(2, .int 0), (1, .int 0), (0, .ref (a 200))]) hx hb dX12_heldMany_3 rfl hl (by decide) rfl (fun ls hl => ?_)
  refine lv_iload_n hx hb dX12_heldMany_4 rfl (lv_at hl 0 rfl) ?_
  refine lv_aload_n hx hb dX12_heldMany_5 rfl (lv_at hl 2 rfl) ?_
  refine zcV (As := []) (rest := [.int 0]) (C := RX12) (n := 0) ⟨hx, hb, hml, hown, ht⟩ (k_X12_blockMany l D a) (zgV ml_X12_429 im_X12_blockMany se_X12_blockMany in_X12 co_X12_blockMany) rfl rfl (by decide +kernel) ⟨Nat.le_of_ble_eq_true rfl, Nat.le_of_ble_eq_true rfl⟩ hK hP hS [0, 1] rfl 0 rfl rfl rfl rfl hl.1 rfl (Nat.le_of_ble_eq_true rfl) dX12_heldMany_6 ⟨Nat.le_of_ble_eq_true rfl, Nat.le_of_ble_eq_true rfl⟩ (fun r_1 H locs hw hP hS => ?_)
  subst hw
  refine lv_icmp_ge (tgt := 29) hx hb dX12_heldMany_9 (by decide) (fun _ => ?_) (fun c_2 => (z_abs c_2 (by decide)).elim)
  refine lv_iload_n hx hb dX12_heldMany_29 rfl (lv_at hl 1 rfl) ?_
  exact W.iret (v := 0) hx hb hr (fun t ht hW => ⟨⟨0, (), rfl, rfl, trivial⟩, hS.F ht⟩) hS.2.2 dX12_heldMany_30
set_option maxHeartbeats 4000000 in
set_option maxRecDepth 100000 in
theorem k_X12_freeMany (l : Launch) (D : va_G) (a : Nat → Nat)  : Met l yX12_freeMany (wz yX12_freeMany cX12_freeMany 1 (some .int)) { frames := 2, cells := 0, slots := 0, locals := 120 } (va_Pc [.ref (a 200)] (zP D [((a 200), .inr (12, mO a 0 0 0 0 0 0 0 (-1) 0 0 1 0)), ((a 39), .inl (D.1 13, 10, .inl (fun _ => 0)))])) (va_Qi (fun r (_ : Unit) => r = 0) (fun _ _ => True) (fun _ => False)) 0 0 (fun _ => False) := by
  refine Met.ofW (cc := cX12_freeMany) (maxL := 1) (ret := (some .int)) (by decide) rfl ?_
  intro p e s m args below meth c s₁ B hml hv
  obtain ⟨rfl, hP, hK⟩ := hv
  have hx := B.exec
  have hb := B.bytes
  have hr := B.returns
  have hts := atoms_spec (ws := wz yX12_freeMany cX12_freeMany 1 (some .int)) B.pre
  have ht : ∀ w ∈ lw_gd, w.before _ s = true := fun w h => hts w (List.mem_cons_of_mem _ h)
  have hown : s.vm.findClass RX12 = some m.cls := findClass_of_methodNamed B.named
  have hlocks := B.notSynchronized
  have hS : va_S (fun _ => False) s.heap s.heap [] := va_S.rf
  have hl := lv_entry ([.ref (a 200)]) (n := 1) (Nat.le_of_ble_eq_true rfl)
  rw [lg_entry_eq]
  generalize (lg_sl ([.ref (a 200)]) ++ List.replicate (1 - (lg_sl ([.ref (a 200)])).length) Slot.unset).toArray = ls at hl ⊢
  have hl : lv_has ls 1 [(0, .ref (a 200))] := hl
  refine lv_aload_n hx hb dX12_freeMany_0 rfl (lv_at hl 0 rfl) ?_
  refine zcV (As := []) (rest := []) (C := RX12) (n := 0) ⟨hx, hb, hml, hown, ht⟩ (k_X12_blockMany l D a) (zgV ml_X12_429 im_X12_blockMany se_X12_blockMany in_X12 co_X12_blockMany) rfl rfl (by decide +kernel) ⟨Nat.le_of_ble_eq_true rfl, Nat.le_of_ble_eq_true rfl⟩ hK hP hS [0, 1] rfl 0 rfl rfl rfl rfl hl.1 rfl (Nat.le_of_ble_eq_true rfl) dX12_freeMany_1 ⟨Nat.le_of_ble_eq_true rfl, Nat.le_of_ble_eq_true rfl⟩ (fun r_1 H locs hw hP hS => ?_)
  subst hw
  refine lv_aload_n hx hb dX12_freeMany_4 rfl (lv_at hl 0 rfl) ?_
  refine zcV (As := []) (rest := [.int 0]) (C := RX12) (n := 0) ⟨hx, hb, hml, hown, ht⟩ (k_X12_usedMany l D a) (zgV ml_X12_578 im_X12_usedMany se_X12_usedMany in_X12 co_X12_usedMany) rfl rfl (by decide +kernel) ⟨Nat.le_of_ble_eq_true rfl, Nat.le_of_ble_eq_true rfl⟩ hK hP hS [0, 1] rfl 0 rfl rfl rfl rfl hl.1 rfl (Nat.le_of_ble_eq_true rfl) dX12_freeMany_5 ⟨Nat.le_of_ble_eq_true rfl, Nat.le_of_ble_eq_true rfl⟩ (fun r_2 H locs hw hP hS => ?_)
  subst hw
  refine lv_isub hx hb dX12_freeMany_8 ?_
  refine z_topi (y := 0) (by decide) ?_
  refine lv_aload_n hx hb dX12_freeMany_9 rfl (lv_at hl 0 rfl) ?_
  refine zcV (As := []) (rest := [.int 0]) (C := RX12) (n := 0) ⟨hx, hb, hml, hown, ht⟩ (k_X12_heldMany l D a) (zgV ml_X12_581 im_X12_heldMany se_X12_heldMany in_X12 co_X12_heldMany) rfl rfl (by decide +kernel) ⟨Nat.le_of_ble_eq_true rfl, Nat.le_of_ble_eq_true rfl⟩ hK hP hS [0, 1] rfl 0 rfl rfl rfl rfl hl.1 rfl (Nat.le_of_ble_eq_true rfl) dX12_freeMany_10 ⟨Nat.le_of_ble_eq_true rfl, Nat.le_of_ble_eq_true rfl⟩ (fun r_3 H locs hw hP hS => ?_)
  subst hw
  refine lv_isub hx hb dX12_freeMany_13 ?_
  refine z_topi (y := 0) (by decide) ?_
  exact W.iret (v := 0) hx hb hr (fun t ht hW => ⟨⟨0, (), rfl, rfl, trivial⟩, hS.F ht⟩) hS.2.2 dX12_freeMany_14
set_option maxHeartbeats 4000000 in
set_option maxRecDepth 100000 in
theorem k_X12_volumeMany (l : Launch) (D : va_G) (a : Nat → Nat)  : Met l yX12_volumeMany (wz yX12_volumeMany cX12_volumeMany 3 (some .int)) { frames := 2, cells := 0, slots := 0, locals := 120 } (va_Pc [.ref (a 200)] (zP D [((a 200), .inr (12, mO a 0 0 0 0 0 0 0 (-1) 0 0 1 0))])) (va_Qi (fun r (_ : Unit) => r = 0) (fun _ _ => True) (fun _ => False)) 0 0 (fun _ => False) := by
  refine Met.ofW (cc := cX12_volumeMany) (maxL := 3) (ret := (some .int)) (by decide) rfl ?_
  intro p e s m args below meth c s₁ B hml hv
  obtain ⟨rfl, hP, hK⟩ := hv
  have hx := B.exec
  have hb := B.bytes
  have hr := B.returns
  have hts := atoms_spec (ws := wz yX12_volumeMany cX12_volumeMany 3 (some .int)) B.pre
  have ht : ∀ w ∈ lw_gd, w.before _ s = true := fun w h => hts w (List.mem_cons_of_mem _ h)
  have hown : s.vm.findClass RX12 = some m.cls := findClass_of_methodNamed B.named
  have hlocks := B.notSynchronized
  have hS : va_S (fun _ => False) s.heap s.heap [] := va_S.rf
  have hl := lv_entry ([.ref (a 200)]) (n := 3) (Nat.le_of_ble_eq_true rfl)
  rw [lg_entry_eq]
  generalize (lg_sl ([.ref (a 200)]) ++ List.replicate (3 - (lg_sl ([.ref (a 200)])).length) Slot.unset).toArray = ls at hl ⊢
  have hl : lv_has ls 3 [(0, .ref (a 200))] := hl
  refine lv_iconst (v := 0) hx hb dX12_volumeMany_0 (by decide) ?_
  refine lv_istore_n (lv' := [(1, .int 0), (0, .ref (a 200))]) hx hb dX12_volumeMany_1 rfl hl (by decide) rfl (fun ls hl => ?_)
  refine lv_iconst (v := 0) hx hb dX12_volumeMany_2 (by decide) ?_
  refine lv_istore_n (lv' := [(2, .int 0), (1, .int 0), (0, .ref (a 200))]) hx hb dX12_volumeMany_3 rfl hl (by decide) rfl (fun ls hl => ?_)
  refine z_loop (σ := Unit) (N := 8) (fun i u H locs ls => va_P D vwCl [((a 200), .inr (12, mO a 0 0 0 0 0 0 0 (-1) 0 0 1 0))] H ∧ va_S (fun _ => False) s.heap H locs ∧ lv_has ls 3 [(2, .int (nI i)), (1, .int 0), (0, .ref (a 200))]) (fun i_1 _u H locs ls hi_i_1 hI ih_4 => ?_) 0 () (by decide) ⟨hP, hS, lv_sub hl [0, 1, 2] rfl⟩
  obtain ⟨hP, hS, hl⟩ := hI
  have hP : va_P D vwCl [((a 200), .inr (12, mO a 0 0 0 0 0 0 0 (-1) 0 0 1 0))] H := hP
  have hl : lv_has ls 3 [(2, .int (nI i_1)), (1, .int 0), (0, .ref (a 200))] := hl
  refine lv_iload_n hx hb dX12_volumeMany_4 rfl (lv_at hl 0 rfl) ?_
  refine lv_bipush (v := 8) hx hb dX12_volumeMany_5 (by decide) ?_
  refine lv_icmp_ge (tgt := 28) hx hb dX12_volumeMany_7 (by decide) (fun c_2 => ?_) (fun c_2 => ?_)
  · have g_3 : 8 ≤ ((i_1 : Nat) : Int) := z_le (by decide) (nI_toInt (by omega)) c_2
    obtain rfl : i_1 = 8 := by omega
    have hP : va_P D vwCl [((a 200), .inr (12, mO a 0 0 0 0 0 0 0 (-1) 0 0 1 0))] H := hP
    have hl : lv_has ls 3 [(2, .int 8), (1, .int 0), (0, .ref (a 200))] := hl
    refine lv_iload_n hx hb dX12_volumeMany_28 rfl (lv_at hl 1 rfl) ?_
    exact W.iret (v := 0) hx hb hr (fun t ht hW => ⟨⟨0, (), rfl, rfl, trivial⟩, hS.F ht⟩) hS.2.2 dX12_volumeMany_29
  · have g_3 : ((i_1 : Nat) : Int) < 8 := z_nle (by decide) (nI_toInt (by omega)) c_2
    refine lv_aload_n hx hb dX12_volumeMany_10 rfl (lv_at hl 2 rfl) ?_
    refine lv_iload_n hx hb dX12_volumeMany_11 rfl (lv_at hl 0 rfl) ?_
    refine lv_i2l (v := (nI i_1).toInt64) hx hb dX12_volumeMany_12 rfl ?_
    refine zcV (As := [.long ((nI i_1).toInt64)]) (rest := []) (C := RX12) (n := 1) ⟨hx, hb, hml, hown, ht⟩ (k_X12_isVolume l D a ((nI i_1).toInt64)) (zgV ml_X12_571 im_X12_isVolume se_X12_isVolume in_X12 co_X12_isVolume) rfl rfl (by decide +kernel) ⟨Nat.le_of_ble_eq_true rfl, Nat.le_of_ble_eq_true rfl⟩ hK hP hS [0] rfl 0 rfl rfl rfl rfl hl.1 rfl (Nat.le_of_ble_eq_true rfl) dX12_volumeMany_13 ⟨Nat.le_of_ble_eq_true rfl, Nat.le_of_ble_eq_true rfl⟩ (fun r_4 H locs hw hP hS => ?_)
    subst hw
    refine lv_if_eq (tgt := 22) hx hb dX12_volumeMany_16 (by decide) (fun _ => ?_) (fun c_5 => (z_abs c_5 (by decide)).elim)
    refine lv_iinc (v := nI (i_1 + 1)) (lv' := [(2, .int (nI (i_1 + 1))), (1, .int 0), (0, .ref (a 200))]) hx hb dX12_volumeMany_22 hl (k := 0) rfl (z_inc _) (by decide) rfl (fun ls hl => ?_)
    refine lv_goto (tgt := 4) hx hb dX12_volumeMany_25 (by decide) ?_
    exact ih_4 () _ _ _ (by omega) ⟨hP.sub [0] rfl, hS, lv_sub hl [0, 1, 2] rfl⟩
set_option maxHeartbeats 4000000 in
set_option maxRecDepth 100000 in
theorem k_X12_doesFit (l : Launch) (D : va_G) (a : Nat → Nat) (p0 : Int32) : Met l yX12_doesFit (wz yX12_doesFit cX12_doesFit 3 (some .boolean)) { frames := 2, cells := 0, slots := 0, locals := 120 } (va_Pc [.ref (a 200), .int p0] (zP D [((a 200), .inr (12, mO a 0 0 0 0 0 0 0 (-1) 0 0 1 0))])) (va_Qi (fun r (_ : Unit) => r = 0) (fun _ _ => True) (fun _ => False)) 0 0 (fun _ => False) := by
  refine Met.ofW (cc := cX12_doesFit) (maxL := 3) (ret := (some .boolean)) (by decide) rfl ?_
  intro p e s m args below meth c s₁ B hml hv
  obtain ⟨rfl, hP, hK⟩ := hv
  have hx := B.exec
  have hb := B.bytes
  have hr := B.returns
  have hts := atoms_spec (ws := wz yX12_doesFit cX12_doesFit 3 (some .boolean)) B.pre
  have ht : ∀ w ∈ lw_gd, w.before _ s = true := fun w h => hts w (List.mem_cons_of_mem _ h)
  have hown : s.vm.findClass RX12 = some m.cls := findClass_of_methodNamed B.named
  have hlocks := B.notSynchronized
  have hS : va_S (fun _ => False) s.heap s.heap [] := va_S.rf
  have hl := lv_entry ([.ref (a 200), .int p0]) (n := 3) (Nat.le_of_ble_eq_true rfl)
  rw [lg_entry_eq]
  generalize (lg_sl ([.ref (a 200), .int p0]) ++ List.replicate (3 - (lg_sl ([.ref (a 200), .int p0])).length) Slot.unset).toArray = ls at hl ⊢
  have hl : lv_has ls 3 [(0, .ref (a 200)), (1, .int p0)] := hl
  refine lv_aload_n hx hb dX12_doesFit_0 rfl (lv_at hl 0 rfl) ?_
  refine lv_iload_n hx hb dX12_doesFit_1 rfl (lv_at hl 1 rfl) ?_
  refine lv_i2l (v := p0.toInt64) hx hb dX12_doesFit_2 rfl ?_
  refine zcV (As := [.long p0.toInt64]) (rest := []) (C := RX12) (n := 1) ⟨hx, hb, hml, hown, ht⟩ (k_X12_isVolume l D a p0.toInt64) (zgV ml_X12_571 im_X12_isVolume se_X12_isVolume in_X12 co_X12_isVolume) rfl rfl (by decide +kernel) ⟨Nat.le_of_ble_eq_true rfl, Nat.le_of_ble_eq_true rfl⟩ hK hP hS [0] rfl 0 rfl rfl rfl rfl hl.1 rfl (Nat.le_of_ble_eq_true rfl) dX12_doesFit_3 ⟨Nat.le_of_ble_eq_true rfl, Nat.le_of_ble_eq_true rfl⟩ (fun r_1 H locs hw hP hS => ?_)
  subst hw
  refine lv_if_ne (tgt := 11) hx hb dX12_doesFit_6 (by decide) (fun c_2 => (z_abs c_2 (by decide)).elim) (fun _ => ?_)
  refine lv_iconst (v := 0) hx hb dX12_doesFit_9 (by decide) ?_
  exact W.zret (v := 0) hx hb hr (by decide) (fun t ht hW => ⟨⟨0, (), rfl, rfl, trivial⟩, hS.F ht⟩) hS.2.2 dX12_doesFit_10
set_option maxHeartbeats 4000000 in
set_option maxRecDepth 100000 in
theorem k_X12_freeNumber (l : Launch) (D : va_G) (a : Nat → Nat)  : Met l yX12_freeNumber (wz yX12_freeNumber cX12_freeNumber 2 (some .int)) { frames := 0, cells := 0, slots := 0, locals := 0 } (va_Pc [.ref (a 200)] (zP D [((a 200), .inr (12, mO a 0 0 0 0 0 0 0 (-1) 0 0 1 0)), ((a 49), .inl (D.1 13, 906, .inl (fun _ => 0)))])) (va_Qi (fun r (_ : Unit) => r = 8) (fun _ _ => True) (fun _ => False)) 0 0 (fun _ => False) := by
  refine Met.ofW (cc := cX12_freeNumber) (maxL := 2) (ret := (some .int)) (by decide) rfl ?_
  intro p e s m args below meth c s₁ B hml hv
  obtain ⟨rfl, hP, hK⟩ := hv
  have hx := B.exec
  have hb := B.bytes
  have hr := B.returns
  have hts := atoms_spec (ws := wz yX12_freeNumber cX12_freeNumber 2 (some .int)) B.pre
  have ht : ∀ w ∈ lw_gd, w.before _ s = true := fun w h => hts w (List.mem_cons_of_mem _ h)
  have hown : s.vm.findClass RX12 = some m.cls := findClass_of_methodNamed B.named
  have hlocks := B.notSynchronized
  have hS : va_S (fun _ => False) s.heap s.heap [] := va_S.rf
  have hl := lv_entry ([.ref (a 200)]) (n := 2) (Nat.le_of_ble_eq_true rfl)
  rw [lg_entry_eq]
  generalize (lg_sl ([.ref (a 200)]) ++ List.replicate (2 - (lg_sl ([.ref (a 200)])).length) Slot.unset).toArray = ls at hl ⊢
  have hl : lv_has ls 2 [(0, .ref (a 200))] := hl
  refine lv_iconst (v := 0) hx hb dX12_freeNumber_0 (by decide) ?_
  refine lv_istore_n (lv' := [(1, .int 0), (0, .ref (a 200))]) hx hb dX12_freeNumber_1 rfl hl (by decide) rfl (fun ls hl => ?_)
  refine z_loop (σ := Unit) (N := 8) (fun i u H locs ls => va_P D vwCl [((a 200), .inr (12, mO a 0 0 0 0 0 0 0 (-1) 0 0 1 0)), ((a 49), .inl (D.1 13, 906, .inl (fun _ => 0)))] H ∧ va_S (fun _ => False) s.heap H locs ∧ lv_has ls 2 [(1, .int (nI i)), (0, .ref (a 200))]) (fun i_1 _u H locs ls hi_i_1 hI ih_2 => ?_) 0 () (by decide) ⟨hP, hS, lv_sub hl [0, 1] rfl⟩
  obtain ⟨hP, hS, hl⟩ := hI
  have hP : va_P D vwCl [((a 200), .inr (12, mO a 0 0 0 0 0 0 0 (-1) 0 0 1 0)), ((a 49), .inl (D.1 13, 906, .inl (fun _ => 0)))] H := hP
  have hl : lv_has ls 2 [(1, .int (nI i_1)), (0, .ref (a 200))] := hl
  refine lv_iload_n hx hb dX12_freeNumber_2 rfl (lv_at hl 0 rfl) ?_
  refine lv_bipush (v := 8) hx hb dX12_freeNumber_3 (by decide) ?_
  refine lv_icmp_ge (tgt := 26) hx hb dX12_freeNumber_5 (by decide) (fun c_2 => ?_) (fun c_2 => ?_)
  · have g_3 : 8 ≤ ((i_1 : Nat) : Int) := z_le (by decide) (nI_toInt (by omega)) c_2
    obtain rfl : i_1 = 8 := by omega
    have hP : va_P D vwCl [((a 200), .inr (12, mO a 0 0 0 0 0 0 0 (-1) 0 0 1 0)), ((a 49), .inl (D.1 13, 906, .inl (fun _ => 0)))] H := hP
    have hl : lv_has ls 2 [(1, .int 8), (0, .ref (a 200))] := hl
    refine lv_iload_n hx hb dX12_freeNumber_26 rfl (lv_at hl 0 rfl) ?_
    exact W.iret (v := 8) hx hb hr (fun t ht hW => ⟨⟨8, (), rfl, rfl, trivial⟩, hS.F ht⟩) hS.2.2 dX12_freeNumber_27
  · have g_3 : ((i_1 : Nat) : Int) < 8 := z_nle (by decide) (nI_toInt (by omega)) c_2
    refine lv_aload_n hx hb dX12_freeNumber_8 rfl (lv_at hl 1 rfl) ?_
    refine va_get (D := D) (ci := 12) (v := .ref (a 49)) (C := RX12) (T := TX12) (N := 116) hx hb ht inX12 hown hK hP 0 rfl rfl 49 (by decide) (ht (.fieldLink RX12 121 "CloneVolumesModel" "now" "[I") fl_X12_121) (fun _ h9 => h9) rfl dX12_freeNumber_9 ?_
    refine lv_iload_n hx hb dX12_freeNumber_12 rfl (lv_at hl 0 rfl) ?_
    refine va_iald hx hb hK hP 1 0 rfl rfl (vp_in_nI (by omega) (by omega)) dX12_freeNumber_13 ?_
    refine z_topi (y := 0) (by decide) ?_
    refine lv_sipush (v := 255) hx hb dX12_freeNumber_14 (by decide) ?_
    refine lv_icmp_eq (tgt := 26) hx hb dX12_freeNumber_17 (by decide) (fun c_4 => (z_abs c_4 (by decide)).elim) (fun _ => ?_)
    refine lv_iinc (v := nI (i_1 + 1)) (lv' := [(1, .int (nI (i_1 + 1))), (0, .ref (a 200))]) hx hb dX12_freeNumber_20 hl (k := 0) rfl (z_inc _) (by decide) rfl (fun ls hl => ?_)
    refine lv_goto (tgt := 2) hx hb dX12_freeNumber_23 (by decide) ?_
    exact ih_2 () _ _ _ (by omega) ⟨hP.sub [0, 1] rfl, hS, lv_sub hl [0, 1] rfl⟩
set_option maxHeartbeats 4000000 in
set_option maxRecDepth 100000 in
theorem k_X12_isImage (l : Launch) (D : va_G) (a : Nat → Nat)  : Met l yX12_isImage (wz yX12_isImage cX12_isImage 4 (some .boolean)) { frames := 0, cells := 0, slots := 0, locals := 0 } (va_Pc [.ref (a 200), .int 0] (zP D [((a 200), .inr (12, mO a 0 0 0 0 0 0 0 (-1) 0 0 1 0))])) (va_Qi (fun r (_ : Unit) => r = 0) (fun _ _ => True) (fun _ => False)) 0 0 (fun _ => False) := by
  refine Met.ofW (cc := cX12_isImage) (maxL := 4) (ret := (some .boolean)) (by decide) rfl ?_
  intro p e s m args below meth c s₁ B hml hv
  obtain ⟨rfl, hP, hK⟩ := hv
  have hx := B.exec
  have hb := B.bytes
  have hr := B.returns
  have hts := atoms_spec (ws := wz yX12_isImage cX12_isImage 4 (some .boolean)) B.pre
  have ht : ∀ w ∈ lw_gd, w.before _ s = true := fun w h => hts w (List.mem_cons_of_mem _ h)
  have hown : s.vm.findClass RX12 = some m.cls := findClass_of_methodNamed B.named
  have hlocks := B.notSynchronized
  have hS : va_S (fun _ => False) s.heap s.heap [] := va_S.rf
  have hl := lv_entry ([.ref (a 200), .int 0]) (n := 4) (Nat.le_of_ble_eq_true rfl)
  rw [lg_entry_eq]
  generalize (lg_sl ([.ref (a 200), .int 0]) ++ List.replicate (4 - (lg_sl ([.ref (a 200), .int 0])).length) Slot.unset).toArray = ls at hl ⊢
  have hl : lv_has ls 4 [(0, .ref (a 200)), (1, .int 0)] := hl
  refine lv_aload_n hx hb dX12_isImage_0 rfl (lv_at hl 0 rfl) ?_
  refine va_get (D := D) (ci := 12) (v := .int 0) (C := RX12) (T := TX12) (N := 116) hx hb ht inX12 hown hK hP 0 rfl rfl 47 (by decide) (ht (.fieldLink RX12 406 "CloneVolumesModel" "isTold" "Z") fl_X12_406) (fun _ h9 => h9) rfl dX12_isImage_1 ?_
  refine lv_if_eq (tgt := 44) hx hb dX12_isImage_4 (by decide) (fun _ => ?_) (fun c_1 => (z_abs c_1 (by decide)).elim)
  refine lv_iconst (v := 0) hx hb dX12_isImage_44 (by decide) ?_
  exact W.zret (v := 0) hx hb hr (by decide) (fun t ht hW => ⟨⟨0, (), rfl, rfl, trivial⟩, hS.F ht⟩) hS.2.2 dX12_isImage_45
set_option maxHeartbeats 4000000 in
set_option maxRecDepth 100000 in
theorem k_X12_fits (l : Launch) (D : va_G) (a : Nat → Nat) (p0 : Int32) : Met l yX12_fits (wz yX12_fits cX12_fits 4 (some .int)) { frames := 3, cells := 0, slots := 0, locals := 180 } (va_Pc [.ref (a 200), .int p0] (zP D [((a 200), .inr (12, mO a 0 0 0 0 0 0 0 (-1) 0 0 1 0))])) (va_Qi (fun r (_ : Unit) => (r = (-1) ∧ (-1) ≤ p0.toInt ∧ ¬ p0.toInt = (-1)) ∨ (r = 0 ∧ (-1) ≤ p0.toInt ∧ p0.toInt = (-1)) ∨ (r = (-1) ∧ p0.toInt < (-1))) (fun _ _ => True) (fun _ => False)) 0 0 (fun _ => False) := by
  refine Met.ofW (cc := cX12_fits) (maxL := 4) (ret := (some .int)) (by decide) rfl ?_
  intro p e s m args below meth c s₁ B hml hv
  obtain ⟨rfl, hP, hK⟩ := hv
  have hx := B.exec
  have hb := B.bytes
  have hr := B.returns
  have hts := atoms_spec (ws := wz yX12_fits cX12_fits 4 (some .int)) B.pre
  have ht : ∀ w ∈ lw_gd, w.before _ s = true := fun w h => hts w (List.mem_cons_of_mem _ h)
  have hown : s.vm.findClass RX12 = some m.cls := findClass_of_methodNamed B.named
  have hlocks := B.notSynchronized
  have hS : va_S (fun _ => False) s.heap s.heap [] := va_S.rf
  have hl := lv_entry ([.ref (a 200), .int p0]) (n := 4) (Nat.le_of_ble_eq_true rfl)
  rw [lg_entry_eq]
  generalize (lg_sl ([.ref (a 200), .int p0]) ++ List.replicate (4 - (lg_sl ([.ref (a 200), .int p0])).length) Slot.unset).toArray = ls at hl ⊢
  have hl : lv_has ls 4 [(0, .ref (a 200)), (1, .int p0)] := hl
  refine lv_iload_n hx hb dX12_fits_0 rfl (lv_at hl 1 rfl) ?_
  refine lv_iconst (v := (-1)) hx hb dX12_fits_1 (by decide) ?_
  refine lv_icmp_ge (tgt := 7) hx hb dX12_fits_2 (by decide) (fun c_1 => ?_) (fun c_1 => ?_)
  · have g_2 : (-1) ≤ p0.toInt := z_le (by decide) rfl c_1
    refine lv_iconst (v := 0) hx hb dX12_fits_7 (by decide) ?_
    refine lv_istore_n (lv' := [(2, .int 0), (0, .ref (a 200)), (1, .int p0)]) hx hb dX12_fits_8 rfl hl (by decide) rfl (fun ls hl => ?_)
    refine lv_iconst (v := 0) hx hb dX12_fits_9 (by decide) ?_
    refine lv_istore_n (lv' := [(3, .int 0), (2, .int 0), (0, .ref (a 200)), (1, .int p0)]) hx hb dX12_fits_10 rfl hl (by decide) rfl (fun ls hl => ?_)
    refine z_loop (σ := Unit) (N := 8) (fun i u H locs ls => va_P D vwCl [((a 200), .inr (12, mO a 0 0 0 0 0 0 0 (-1) 0 0 1 0))] H ∧ va_S (fun _ => False) s.heap H locs ∧ lv_has ls 4 [(3, .int (nI i)), (2, .int 0), (0, .ref (a 200)), (1, .int p0)]) (fun i_3 _u H locs ls hi_i_3 hI ih_11 => ?_) 0 () (by decide) ⟨hP, hS, lv_sub hl [0, 1, 2, 3] rfl⟩
    obtain ⟨hP, hS, hl⟩ := hI
    have hP : va_P D vwCl [((a 200), .inr (12, mO a 0 0 0 0 0 0 0 (-1) 0 0 1 0))] H := hP
    have hl : lv_has ls 4 [(3, .int (nI i_3)), (2, .int 0), (0, .ref (a 200)), (1, .int p0)] := hl
    refine lv_iload_n hx hb dX12_fits_11 rfl (lv_at hl 0 rfl) ?_
    refine lv_bipush (v := 8) hx hb dX12_fits_12 (by decide) ?_
    refine lv_icmp_ge (tgt := 44) hx hb dX12_fits_14 (by decide) (fun c_4 => ?_) (fun c_4 => ?_)
    · have g_5 : 8 ≤ ((i_3 : Nat) : Int) := z_le (by decide) (nI_toInt (by omega)) c_4
      obtain rfl : i_3 = 8 := by omega
      have hP : va_P D vwCl [((a 200), .inr (12, mO a 0 0 0 0 0 0 0 (-1) 0 0 1 0))] H := hP
      have hl : lv_has ls 4 [(3, .int 8), (2, .int 0), (0, .ref (a 200)), (1, .int p0)] := hl
      refine lv_iload_n hx hb dX12_fits_44 rfl (lv_at hl 3 rfl) ?_
      refine lv_iconst (v := (-1)) hx hb dX12_fits_45 (by decide) ?_
      refine lv_icmp_ne (tgt := 53) hx hb dX12_fits_46 (by decide) (fun c_6 => ?_) (fun c_6 => ?_)
      · have g_7 : ¬ p0.toInt = (-1) := z_ne rfl (by decide) c_6
        refine lv_iconst (v := (-1)) hx hb dX12_fits_53 (by decide) ?_
        exact W.iret (v := (-1)) hx hb hr (fun t ht hW => ⟨⟨(-1), (), rfl, Or.inl (⟨rfl, zu_ge rfl (by decide) g_2, zu_ne rfl (by decide) g_7⟩), trivial⟩, hS.F ht⟩) hS.2.2 dX12_fits_54
      · have g_7 : p0.toInt = (-1) := z_eq rfl (by decide) c_6
        refine lv_iload_n hx hb dX12_fits_49 rfl (lv_at hl 1 rfl) ?_
        refine lv_goto (tgt := 54) hx hb dX12_fits_50 (by decide) ?_
        exact W.iret (v := 0) hx hb hr (fun t ht hW => ⟨⟨0, (), rfl, Or.inr (Or.inl (⟨rfl, zu_ge rfl (by decide) g_2, zu_eq rfl (by decide) g_7⟩)), trivial⟩, hS.F ht⟩) hS.2.2 dX12_fits_54
    · have g_5 : ((i_3 : Nat) : Int) < 8 := z_nle (by decide) (nI_toInt (by omega)) c_4
      refine lv_aload_n hx hb dX12_fits_17 rfl (lv_at hl 2 rfl) ?_
      refine lv_iload_n hx hb dX12_fits_18 rfl (lv_at hl 0 rfl) ?_
      refine zcV (As := [.int (nI i_3)]) (rest := []) (C := RX12) (n := 1) ⟨hx, hb, hml, hown, ht⟩ (k_X12_doesFit l D a (nI i_3)) (zgV ml_X12_644 im_X12_doesFit se_X12_doesFit in_X12 co_X12_doesFit) rfl rfl (by decide +kernel) ⟨Nat.le_of_ble_eq_true rfl, Nat.le_of_ble_eq_true rfl⟩ hK hP hS [0] rfl 0 rfl rfl rfl rfl hl.1 rfl (Nat.le_of_ble_eq_true rfl) dX12_fits_19 ⟨Nat.le_of_ble_eq_true rfl, Nat.le_of_ble_eq_true rfl⟩ (fun r_8 H locs hw hP hS => ?_)
      subst hw
      refine lv_if_ne (tgt := 28) hx hb dX12_fits_22 (by decide) (fun c_9 => (z_abs c_9 (by decide)).elim) (fun _ => ?_)
      refine lv_goto (tgt := 38) hx hb dX12_fits_25 (by decide) ?_
      refine lv_iinc (v := nI (i_3 + 1)) (lv' := [(3, .int (nI (i_3 + 1))), (2, .int 0), (0, .ref (a 200)), (1, .int p0)]) hx hb dX12_fits_38 hl (k := 0) rfl (z_inc _) (by decide) rfl (fun ls hl => ?_)
      refine lv_goto (tgt := 11) hx hb dX12_fits_41 (by decide) ?_
      exact ih_11 () _ _ _ (by omega) ⟨hP.sub [0] rfl, hS, lv_sub hl [0, 1, 2, 3] rfl⟩
  · have g_2 : p0.toInt < (-1) := z_nle (by decide) rfl c_1
    refine lv_iconst (v := (-1)) hx hb dX12_fits_5 (by decide) ?_
    exact W.iret (v := (-1)) hx hb hr (fun t ht hW => ⟨⟨(-1), (), rfl, Or.inr (Or.inr (⟨rfl, zu_lt rfl (by decide) g_2⟩)), trivial⟩, hS.F ht⟩) hS.2.2 dX12_fits_6
