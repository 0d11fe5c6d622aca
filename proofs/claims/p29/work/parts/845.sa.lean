theorem ck_X1_103 : Cond.constant RX1 103 999999 ∈ lw_gd := zm (lw_g_5 (List.mem_of_getElem? (i := 178) (by decide +kernel))) rfl
theorem cl_X1_277 : Cond.constantLong RX1 277 1103515245 ∈ lw_gd := zm (lw_g_6 (List.mem_of_getElem? (i := 1) (by decide +kernel))) rfl
theorem cl_X1_279 : Cond.constantLong RX1 279 12345 ∈ lw_gd := zm (lw_g_6 (List.mem_of_getElem? (i := 2) (by decide +kernel))) rfl
theorem cl_X1_281 : Cond.constantLong RX1 281 2147483647 ∈ lw_gd := zm (lw_g_6 (List.mem_of_getElem? (i := 3) (by decide +kernel))) rfl
theorem co_X11_finish : Cond.code yX11_finish cX11_finish 4 (some .int) ∈ lw_gd := zm (lw_g_5 (List.mem_of_getElem? (i := 173) (by decide +kernel))) rfl
theorem co_X1_draw : Cond.code yX1_draw cX1_draw 2 (some .int) ∈ lw_gd := zm (lw_g_6 (List.mem_of_getElem? (i := 0) (by decide +kernel))) rfl
theorem co_X1_letGo : Cond.code yX1_letGo cX1_letGo 2 none ∈ lw_gd := zm (lw_g_5 (List.mem_of_getElem? (i := 210) (by decide +kernel))) rfl
theorem co_X1_settle : Cond.code yX1_settle cX1_settle 1 (some .int) ∈ lw_gd := zm (lw_g_5 (List.mem_of_getElem? (i := 177) (by decide +kernel))) rfl
theorem co_X1_share : Cond.code yX1_share cX1_share 3 none ∈ lw_gd := zm (lw_g_4 (List.mem_of_getElem? (i := 2) (by decide +kernel))) rfl
theorem co_X1_tryPlant : Cond.code yX1_tryPlant cX1_tryPlant 5 (some .boolean) ∈ lw_gd := zm (lw_g_4 (List.mem_of_getElem? (i := 6) (by decide +kernel))) rfl
theorem co_X1_tryUproot : Cond.code yX1_tryUproot cX1_tryUproot 4 (some .boolean) ∈ lw_gd := zm (lw_g_4 (List.mem_of_getElem? (i := 119) (by decide +kernel))) rfl
theorem co_X1_volumeAt : Cond.code yX1_volumeAt cX1_volumeAt 4 (some .int) ∈ lw_gd := zm (lw_g_6 (List.mem_of_getElem? (i := 8) (by decide +kernel))) rfl
theorem co_X2_keep : Cond.code yX2_keep cX2_keep 4 none ∈ lw_gd := zm (lw_g_5 (List.mem_of_getElem? (i := 182) (by decide +kernel))) rfl
theorem co_X2_remember : Cond.code yX2_remember cX2_remember 4 (some (.object "CloneVolumes$State")) ∈ lw_gd := zm (lw_g_5 (List.mem_of_getElem? (i := 187) (by decide +kernel))) rfl
theorem co_X8_fallBack : Cond.code yX8_fallBack cX8_fallBack 1 none ∈ lw_gd := zm (lw_g_5 (List.mem_of_getElem? (i := 228) (by decide +kernel))) rfl
theorem co_X8_freeNumber : Cond.code yX8_freeNumber cX8_freeNumber 2 (some .int) ∈ lw_gd := zm (lw_g_5 (List.mem_of_getElem? (i := 201) (by decide +kernel))) rfl
theorem co_X8_freshBlocks : Cond.code yX8_freshBlocks cX8_freshBlocks 3 (some .int) ∈ lw_gd := zm (lw_g_5 (List.mem_of_getElem? (i := 223) (by decide +kernel))) rfl
theorem co_X8_save : Cond.code yX8_save cX8_save 1 none ∈ lw_gd := zm (lw_g_4 (List.mem_of_getElem? (i := 149) (by decide +kernel))) rfl
theorem fl_X11_360 : Cond.fieldLink RX11 360 "CloneVolumes$Forest" "before" "LCloneVolumes$State;" ∈ lw_gd := zm (lw_g_2 (List.mem_of_getElem? (i := 234) (by decide +kernel))) rfl
theorem fl_X1_286 : Cond.fieldLink RX1 286 "CloneVolumes$Plan" "churn" "I" ∈ lw_gd := zm (lw_g_2 (List.mem_of_getElem? (i := 42) (by decide +kernel))) rfl
theorem fl_X1_93 : Cond.fieldLink RX1 93 "CloneVolumes$State" "spent" "I" ∈ lw_gd := zm (lw_g_2 (List.mem_of_getElem? (i := 123) (by decide +kernel))) rfl
theorem im_X11_finish : Cond.instanceMethod yX11_finish ∈ lw_gd := zm (lw_g_5 (List.mem_of_getElem? (i := 172) (by decide +kernel))) rfl
theorem im_X1_draw : Cond.instanceMethod yX1_draw ∈ lw_gd := zm (lw_g_5 (List.mem_of_getElem? (i := 239) (by decide +kernel))) rfl
theorem im_X1_letGo : Cond.instanceMethod yX1_letGo ∈ lw_gd := zm (lw_g_5 (List.mem_of_getElem? (i := 208) (by decide +kernel))) rfl
theorem im_X1_settle : Cond.instanceMethod yX1_settle ∈ lw_gd := zm (lw_g_5 (List.mem_of_getElem? (i := 175) (by decide +kernel))) rfl
theorem im_X1_share : Cond.instanceMethod yX1_share ∈ lw_gd := zm (lw_g_4 (List.mem_of_getElem? (i := 0) (by decide +kernel))) rfl
theorem im_X1_tryPlant : Cond.instanceMethod yX1_tryPlant ∈ lw_gd := zm (lw_g_4 (List.mem_of_getElem? (i := 4) (by decide +kernel))) rfl
theorem im_X1_tryUproot : Cond.instanceMethod yX1_tryUproot ∈ lw_gd := zm (lw_g_4 (List.mem_of_getElem? (i := 117) (by decide +kernel))) rfl
theorem im_X1_volumeAt : Cond.instanceMethod yX1_volumeAt ∈ lw_gd := zm (lw_g_6 (List.mem_of_getElem? (i := 7) (by decide +kernel))) rfl
theorem im_X2_keep : Cond.instanceMethod yX2_keep ∈ lw_gd := zm (lw_g_5 (List.mem_of_getElem? (i := 180) (by decide +kernel))) rfl
theorem im_X2_remember : Cond.instanceMethod yX2_remember ∈ lw_gd := zm (lw_g_5 (List.mem_of_getElem? (i := 185) (by decide +kernel))) rfl
theorem im_X8_fallBack : Cond.instanceMethod yX8_fallBack ∈ lw_gd := zm (lw_g_5 (List.mem_of_getElem? (i := 226) (by decide +kernel))) rfl
theorem im_X8_freeNumber : Cond.instanceMethod yX8_freeNumber ∈ lw_gd := zm (lw_g_5 (List.mem_of_getElem? (i := 199) (by decide +kernel))) rfl
theorem im_X8_freshBlocks : Cond.instanceMethod yX8_freshBlocks ∈ lw_gd := zm (lw_g_5 (List.mem_of_getElem? (i := 221) (by decide +kernel))) rfl
theorem im_X8_save : Cond.instanceMethod yX8_save ∈ lw_gd := zm (lw_g_4 (List.mem_of_getElem? (i := 147) (by decide +kernel))) rfl
theorem ml_X11_272 : Cond.methodLink RX11 272 yX1_begin ∈ lw_gd := zm (lw_g_5 (List.mem_of_getElem? (i := 168) (by decide +kernel))) rfl
theorem ml_X11_275 : Cond.methodLink RX11 275 yX1_tryPlant ∈ lw_gd := zm (lw_g_5 (List.mem_of_getElem? (i := 169) (by decide +kernel))) rfl
theorem ml_X11_279 : Cond.methodLink RX11 279 yX11_finish ∈ lw_gd := zm (lw_g_5 (List.mem_of_getElem? (i := 170) (by decide +kernel))) rfl
theorem ml_X11_282 : Cond.methodLink RX11 282 yX1_tryUproot ∈ lw_gd := zm (lw_g_5 (List.mem_of_getElem? (i := 193) (by decide +kernel))) rfl
theorem ml_X11_286 : Cond.methodLink RX11 286 yX8_freeNumber ∈ lw_gd := zm (lw_g_5 (List.mem_of_getElem? (i := 198) (by decide +kernel))) rfl
theorem ml_X11_289 : Cond.methodLink RX11 289 yX1_share ∈ lw_gd := zm (lw_g_5 (List.mem_of_getElem? (i := 202) (by decide +kernel))) rfl
theorem ml_X11_293 : Cond.methodLink RX11 293 yX1_letGo ∈ lw_gd := zm (lw_g_5 (List.mem_of_getElem? (i := 207) (by decide +kernel))) rfl
theorem ml_X11_296 : Cond.methodLink RX11 296 yX8_save ∈ lw_gd := zm (lw_g_5 (List.mem_of_getElem? (i := 215) (by decide +kernel))) rfl
theorem ml_X11_299 : Cond.methodLink RX11 299 yX8_freshBlocks ∈ lw_gd := zm (lw_g_5 (List.mem_of_getElem? (i := 220) (by decide +kernel))) rfl
theorem ml_X11_302 : Cond.methodLink RX11 302 yX8_fallBack ∈ lw_gd := zm (lw_g_5 (List.mem_of_getElem? (i := 225) (by decide +kernel))) rfl
theorem ml_X11_353 : Cond.methodLink RX11 353 yX1_settle ∈ lw_gd := zm (lw_g_5 (List.mem_of_getElem? (i := 174) (by decide +kernel))) rfl
theorem ml_X11_356 : Cond.methodLink RX11 356 yX2_keep ∈ lw_gd := zm (lw_g_5 (List.mem_of_getElem? (i := 179) (by decide +kernel))) rfl
theorem ml_X11_363 : Cond.methodLink RX11 363 yX2_remember ∈ lw_gd := zm (lw_g_5 (List.mem_of_getElem? (i := 184) (by decide +kernel))) rfl
theorem ml_X1_283 : Cond.methodLink RX1 283 yX1_draw ∈ lw_gd := zm (lw_g_5 (List.mem_of_getElem? (i := 237) (by decide +kernel))) rfl
theorem ml_X1_289 : Cond.methodLink RX1 289 yX8_volumes ∈ lw_gd := zm (lw_g_6 (List.mem_of_getElem? (i := 4) (by decide +kernel))) rfl
theorem ml_X1_292 : Cond.methodLink RX1 292 yX1_volumeAt ∈ lw_gd := zm (lw_g_6 (List.mem_of_getElem? (i := 5) (by decide +kernel))) rfl
theorem ml_X1_295 : Cond.methodLink RX1 295 yX8_isVolume ∈ lw_gd := zm (lw_g_6 (List.mem_of_getElem? (i := 9) (by decide +kernel))) rfl
theorem ml_X1_82 : Cond.methodLink RX1 82 yX1_tryPlant ∈ lw_gd := zm (lw_g_4 (List.mem_of_getElem? (i := 3) (by decide +kernel))) rfl
theorem ml_X1_86 : Cond.methodLink RX1 86 yX1_tryUproot ∈ lw_gd := zm (lw_g_4 (List.mem_of_getElem? (i := 116) (by decide +kernel))) rfl
theorem ml_X1_90 : Cond.methodLink RX1 90 yX8_save ∈ lw_gd := zm (lw_g_4 (List.mem_of_getElem? (i := 146) (by decide +kernel))) rfl
theorem ml_X2_44 : Cond.methodLink RX2 44 arraycopyName ∈ lw_gd := zm (lw_g_5 (List.mem_of_getElem? (i := 183) (by decide +kernel))) rfl
theorem se_X11_finish : Cond.selects RX11 yX11_finish yX11_finish ∈ lw_gd := zm (List.mem_of_getElem? (i := 53) (by decide +kernel)) rfl
theorem se_X1_draw : Cond.selects RX1 yX1_draw yX1_draw ∈ lw_gd := zm (List.mem_of_getElem? (i := 54) (by decide +kernel)) rfl
theorem se_X1_letGo : Cond.selects RX1 yX1_letGo yX1_letGo ∈ lw_gd := zm (lw_g_5 (List.mem_of_getElem? (i := 209) (by decide +kernel))) rfl
theorem se_X1_settle : Cond.selects RX1 yX1_settle yX1_settle ∈ lw_gd := zm (lw_g_5 (List.mem_of_getElem? (i := 176) (by decide +kernel))) rfl
theorem se_X1_share : Cond.selects RX1 yX1_share yX1_share ∈ lw_gd := zm (lw_g_4 (List.mem_of_getElem? (i := 1) (by decide +kernel))) rfl
theorem se_X1_tryPlant : Cond.selects RX1 yX1_tryPlant yX1_tryPlant ∈ lw_gd := zm (lw_g_4 (List.mem_of_getElem? (i := 5) (by decide +kernel))) rfl
theorem se_X1_tryUproot : Cond.selects RX1 yX1_tryUproot yX1_tryUproot ∈ lw_gd := zm (lw_g_4 (List.mem_of_getElem? (i := 118) (by decide +kernel))) rfl
theorem se_X1_volumeAt : Cond.selects RX1 yX1_volumeAt yX1_volumeAt ∈ lw_gd := zm (List.mem_of_getElem? (i := 55) (by decide +kernel)) rfl
theorem se_X2_keep : Cond.selects RX2 yX2_keep yX2_keep ∈ lw_gd := zm (lw_g_5 (List.mem_of_getElem? (i := 181) (by decide +kernel))) rfl
theorem se_X2_remember : Cond.selects RX2 yX2_remember yX2_remember ∈ lw_gd := zm (lw_g_5 (List.mem_of_getElem? (i := 186) (by decide +kernel))) rfl
theorem se_X8_fallBack : Cond.selects RX8 yX8_fallBack yX8_fallBack ∈ lw_gd := zm (lw_g_5 (List.mem_of_getElem? (i := 227) (by decide +kernel))) rfl
theorem se_X8_freeNumber : Cond.selects RX8 yX8_freeNumber yX8_freeNumber ∈ lw_gd := zm (lw_g_5 (List.mem_of_getElem? (i := 200) (by decide +kernel))) rfl
theorem se_X8_freshBlocks : Cond.selects RX8 yX8_freshBlocks yX8_freshBlocks ∈ lw_gd := zm (lw_g_5 (List.mem_of_getElem? (i := 222) (by decide +kernel))) rfl
theorem se_X8_save : Cond.selects RX8 yX8_save yX8_save ∈ lw_gd := zm (lw_g_4 (List.mem_of_getElem? (i := 148) (by decide +kernel))) rfl
theorem eX11_checkpoint_0 : decode cX11_checkpoint 0 = .ok (.aload_n 0, 1) ∧ decode cX11_checkpoint 1 = .ok (.getfield 112, 3) ∧ decode cX11_checkpoint 4 = .ok (.ifCond .ne 9, 3) ∧ decode cX11_checkpoint 7 = .ok (.aload_n 0, 1) ∧ decode cX11_checkpoint 8 = .ok (.iconst 3, 1) ∧ decode cX11_checkpoint 9 = .ok (.invokevirtual 87, 3) ∧ decode cX11_checkpoint 12 = .ok (.ireturn, 1) ∧ decode cX11_checkpoint 13 = .ok (.aload_n 0, 1) := by decide +kernel
theorem eX11_checkpoint_14 : decode cX11_checkpoint 14 = .ok (.getfield 79, 3) ∧ decode cX11_checkpoint 17 = .ok (.invokevirtual 272, 3) ∧ decode cX11_checkpoint 20 = .ok (.aload_n 0, 1) ∧ decode cX11_checkpoint 21 = .ok (.getfield 79, 3) ∧ decode cX11_checkpoint 24 = .ok (.getfield 125, 3) ∧ decode cX11_checkpoint 27 = .ok (.invokevirtual 141, 3) ∧ decode cX11_checkpoint 30 = .ok (.istore_n 1, 1) ∧ decode cX11_checkpoint 31 = .ok (.aload_n 0, 1) := by decide +kernel
theorem eX11_checkpoint_32 : decode cX11_checkpoint 32 = .ok (.getfield 79, 3) ∧ decode cX11_checkpoint 35 = .ok (.getfield 125, 3) ∧ decode cX11_checkpoint 38 = .ok (.invokevirtual 296, 3) ∧ decode cX11_checkpoint 41 = .ok (.aload_n 0, 1) ∧ decode cX11_checkpoint 42 = .ok (.iconst 4, 1) ∧ decode cX11_checkpoint 43 = .ok (.sipush 255, 3) ∧ decode cX11_checkpoint 46 = .ok (.invokevirtual 279, 3) ∧ decode cX11_checkpoint 49 = .ok (.pop, 1) := by decide +kernel
theorem eX11_checkpoint_50 : decode cX11_checkpoint 50 = .ok (.iload_n 1, 1) ∧ decode cX11_checkpoint 51 = .ok (.ireturn, 1) ∧ decode cX11_copy 0 = .ok (.aload_n 0, 1) ∧ decode cX11_copy 1 = .ok (.getfield 79, 3) ∧ decode cX11_copy 4 = .ok (.getfield 125, 3) ∧ decode cX11_copy 7 = .ok (.invokevirtual 286, 3) ∧ decode cX11_copy 10 = .ok (.istore_n 2, 1) ∧ decode cX11_copy 11 = .ok (.aload_n 0, 1) := by decide +kernel
theorem eX11_copy_12 : decode cX11_copy 12 = .ok (.getfield 79, 3) ∧ decode cX11_copy 15 = .ok (.getfield 125, 3) ∧ decode cX11_copy 18 = .ok (.iload_n 1, 1) ∧ decode cX11_copy 19 = .ok (.invokevirtual 161, 3) ∧ decode cX11_copy 22 = .ok (.ifCond .eq 8, 3) ∧ decode cX11_copy 25 = .ok (.iload_n 2, 1) ∧ decode cX11_copy 26 = .ok (.iconst (-1), 1) ∧ decode cX11_copy 27 = .ok (.if_icmp .ne 9, 3) := by decide +kernel
theorem eX11_copy_30 : decode cX11_copy 30 = .ok (.aload_n 0, 1) ∧ decode cX11_copy 31 = .ok (.iconst 2, 1) ∧ decode cX11_copy 32 = .ok (.invokevirtual 87, 3) ∧ decode cX11_copy 35 = .ok (.ireturn, 1) ∧ decode cX11_copy 36 = .ok (.aload_n 0, 1) ∧ decode cX11_copy 37 = .ok (.getfield 79, 3) ∧ decode cX11_copy 40 = .ok (.invokevirtual 272, 3) ∧ decode cX11_copy 43 = .ok (.aload_n 0, 1) := by decide +kernel
theorem eX11_copy_44 : decode cX11_copy 44 = .ok (.getfield 79, 3) ∧ decode cX11_copy 47 = .ok (.iload_n 1, 1) ∧ decode cX11_copy 48 = .ok (.iload_n 2, 1) ∧ decode cX11_copy 49 = .ok (.invokevirtual 289, 3) ∧ decode cX11_copy 52 = .ok (.aload_n 0, 1) ∧ decode cX11_copy 53 = .ok (.iconst 2, 1) ∧ decode cX11_copy 54 = .ok (.iload_n 2, 1) ∧ decode cX11_copy 55 = .ok (.invokevirtual 279, 3) := by decide +kernel
theorem eX11_copy_58 : decode cX11_copy 58 = .ok (.pop, 1) ∧ decode cX11_copy 59 = .ok (.iload_n 2, 1) ∧ decode cX11_copy 60 = .ok (.ireturn, 1) ∧ decode cX11_crash 0 = .ok (.aload_n 0, 1) ∧ decode cX11_crash 1 = .ok (.getfield 112, 3) ∧ decode cX11_crash 4 = .ok (.ifCond .ne 9, 3) ∧ decode cX11_crash 7 = .ok (.aload_n 0, 1) ∧ decode cX11_crash 8 = .ok (.iconst 3, 1) := by decide +kernel
theorem eX11_crash_9 : decode cX11_crash 9 = .ok (.invokevirtual 87, 3) ∧ decode cX11_crash 12 = .ok (.ireturn, 1) ∧ decode cX11_crash 13 = .ok (.aload_n 0, 1) ∧ decode cX11_crash 14 = .ok (.getfield 79, 3) ∧ decode cX11_crash 17 = .ok (.invokevirtual 272, 3) ∧ decode cX11_crash 20 = .ok (.aload_n 0, 1) ∧ decode cX11_crash 21 = .ok (.getfield 79, 3) ∧ decode cX11_crash 24 = .ok (.getfield 125, 3) := by decide +kernel
theorem eX11_crash_27 : decode cX11_crash 27 = .ok (.invokevirtual 299, 3) ∧ decode cX11_crash 30 = .ok (.istore_n 1, 1) ∧ decode cX11_crash 31 = .ok (.aload_n 0, 1) ∧ decode cX11_crash 32 = .ok (.getfield 79, 3) ∧ decode cX11_crash 35 = .ok (.getfield 125, 3) ∧ decode cX11_crash 38 = .ok (.invokevirtual 302, 3) ∧ decode cX11_crash 41 = .ok (.aload_n 0, 1) ∧ decode cX11_crash 42 = .ok (.iconst 5, 1) := by decide +kernel
theorem eX11_crash_43 : decode cX11_crash 43 = .ok (.sipush 255, 3) ∧ decode cX11_crash 46 = .ok (.invokevirtual 279, 3) ∧ decode cX11_crash 49 = .ok (.pop, 1) ∧ decode cX11_crash 50 = .ok (.iload_n 1, 1) ∧ decode cX11_crash 51 = .ok (.ireturn, 1) ∧ decode cX11_drop 0 = .ok (.aload_n 0, 1) ∧ decode cX11_drop 1 = .ok (.getfield 79, 3) ∧ decode cX11_drop 4 = .ok (.getfield 125, 3) := by decide +kernel
theorem eX11_drop_7 : decode cX11_drop 7 = .ok (.iload_n 1, 1) ∧ decode cX11_drop 8 = .ok (.invokevirtual 161, 3) ∧ decode cX11_drop 11 = .ok (.ifCond .ne 9, 3) ∧ decode cX11_drop 14 = .ok (.aload_n 0, 1) ∧ decode cX11_drop 15 = .ok (.iconst 2, 1) ∧ decode cX11_drop 16 = .ok (.invokevirtual 87, 3) ∧ decode cX11_drop 19 = .ok (.ireturn, 1) ∧ decode cX11_drop 20 = .ok (.aload_n 0, 1) := by decide +kernel
theorem eX11_drop_21 : decode cX11_drop 21 = .ok (.getfield 79, 3) ∧ decode cX11_drop 24 = .ok (.invokevirtual 272, 3) ∧ decode cX11_drop 27 = .ok (.aload_n 0, 1) ∧ decode cX11_drop 28 = .ok (.getfield 79, 3) ∧ decode cX11_drop 31 = .ok (.getfield 125, 3) ∧ decode cX11_drop 34 = .ok (.invokevirtual 138, 3) ∧ decode cX11_drop 37 = .ok (.istore_n 2, 1) ∧ decode cX11_drop 38 = .ok (.aload_n 0, 1) := by decide +kernel
theorem eX11_drop_39 : decode cX11_drop 39 = .ok (.getfield 79, 3) ∧ decode cX11_drop 42 = .ok (.iload_n 1, 1) ∧ decode cX11_drop 43 = .ok (.invokevirtual 293, 3) ∧ decode cX11_drop 46 = .ok (.aload_n 0, 1) ∧ decode cX11_drop 47 = .ok (.iconst 3, 1) ∧ decode cX11_drop 48 = .ok (.iload_n 1, 1) ∧ decode cX11_drop 49 = .ok (.invokevirtual 279, 3) ∧ decode cX11_drop 52 = .ok (.pop, 1) := by decide +kernel
theorem eX11_drop_53 : decode cX11_drop 53 = .ok (.iload_n 2, 1) ∧ decode cX11_drop 54 = .ok (.aload_n 0, 1) ∧ decode cX11_drop 55 = .ok (.getfield 79, 3) ∧ decode cX11_drop 58 = .ok (.getfield 125, 3) ∧ decode cX11_drop 61 = .ok (.invokevirtual 138, 3) ∧ decode cX11_drop 64 = .ok (.isub, 1) ∧ decode cX11_drop 65 = .ok (.ireturn, 1) ∧ decode cX11_finish 0 = .ok (.aload_n 0, 1) := by decide +kernel
theorem eX11_finish_1 : decode cX11_finish 1 = .ok (.getfield 79, 3) ∧ decode cX11_finish 4 = .ok (.invokevirtual 353, 3) ∧ decode cX11_finish 7 = .ok (.istore_n 3, 1) ∧ decode cX11_finish 8 = .ok (.aload_n 0, 1) ∧ decode cX11_finish 9 = .ok (.getfield 28, 3) ∧ decode cX11_finish 12 = .ok (.iload_n 1, 1) ∧ decode cX11_finish 13 = .ok (.iload_n 2, 1) ∧ decode cX11_finish 14 = .ok (.iload_n 3, 1) := by decide +kernel
theorem eX11_finish_15 : decode cX11_finish 15 = .ok (.invokevirtual 356, 3) ∧ decode cX11_finish 18 = .ok (.aload_n 0, 1) ∧ decode cX11_finish 19 = .ok (.getfield 79, 3) ∧ decode cX11_finish 22 = .ok (.aload_n 0, 1) ∧ decode cX11_finish 23 = .ok (.getfield 28, 3) ∧ decode cX11_finish 26 = .ok (.aload_n 0, 1) ∧ decode cX11_finish 27 = .ok (.getfield 79, 3) ∧ decode cX11_finish 30 = .ok (.getfield 360, 3) := by decide +kernel
theorem eX11_finish_33 : decode cX11_finish 33 = .ok (.invokevirtual 363, 3) ∧ decode cX11_finish 36 = .ok (.putfield 360, 3) ∧ decode cX11_finish 39 = .ok (.iload_n 3, 1) ∧ decode cX11_finish 40 = .ok (.ireturn, 1) ∧ decode cX11_put 0 = .ok (.aload_n 0, 1) ∧ decode cX11_put 1 = .ok (.getfield 79, 3) ∧ decode cX11_put 4 = .ok (.getfield 125, 3) ∧ decode cX11_put 7 = .ok (.iload_n 1, 1) := by decide +kernel
theorem eX11_put_8 : decode cX11_put 8 = .ok (.invokevirtual 161, 3) ∧ decode cX11_put 11 = .ok (.ifCond .eq 17, 3) ∧ decode cX11_put 14 = .ok (.iload_n 2, 1) ∧ decode cX11_put 15 = .ok (.invokestatic 227, 3) ∧ decode cX11_put 18 = .ok (.ifCond .eq 10, 3) ∧ decode cX11_put 21 = .ok (.iload_n 3, 1) ∧ decode cX11_put 22 = .ok (.invokestatic 227, 3) ∧ decode cX11_put 25 = .ok (.ifCond .ne 9, 3) := by decide +kernel
theorem eX11_put_28 : decode cX11_put 28 = .ok (.aload_n 0, 1) ∧ decode cX11_put 29 = .ok (.iconst 2, 1) ∧ decode cX11_put 30 = .ok (.invokevirtual 87, 3) ∧ decode cX11_put 33 = .ok (.ireturn, 1) ∧ decode cX11_put 34 = .ok (.aload_n 0, 1) ∧ decode cX11_put 35 = .ok (.getfield 79, 3) ∧ decode cX11_put 38 = .ok (.invokevirtual 272, 3) ∧ decode cX11_put 41 = .ok (.aload_n 0, 1) := by decide +kernel
theorem eX11_put_42 : decode cX11_put 42 = .ok (.getfield 79, 3) ∧ decode cX11_put 45 = .ok (.iload_n 1, 1) ∧ decode cX11_put 46 = .ok (.iload_n 2, 1) ∧ decode cX11_put 47 = .ok (.iload_n 3, 1) ∧ decode cX11_put 48 = .ok (.invokevirtual 275, 3) ∧ decode cX11_put 51 = .ok (.ifCond .ne 9, 3) ∧ decode cX11_put 54 = .ok (.aload_n 0, 1) ∧ decode cX11_put 55 = .ok (.iconst 2, 1) := by decide +kernel
theorem eX11_put_56 : decode cX11_put 56 = .ok (.invokevirtual 87, 3) ∧ decode cX11_put 59 = .ok (.ireturn, 1) ∧ decode cX11_put 60 = .ok (.aload_n 0, 1) ∧ decode cX11_put 61 = .ok (.iconst 0, 1) ∧ decode cX11_put 62 = .ok (.iload_n 1, 1) ∧ decode cX11_put 63 = .ok (.invokevirtual 279, 3) ∧ decode cX11_put 66 = .ok (.ireturn, 1) ∧ decode cX11_remove 0 = .ok (.aload_n 0, 1) := by decide +kernel
theorem eX11_remove_1 : decode cX11_remove 1 = .ok (.getfield 79, 3) ∧ decode cX11_remove 4 = .ok (.getfield 125, 3) ∧ decode cX11_remove 7 = .ok (.iload_n 1, 1) ∧ decode cX11_remove 8 = .ok (.invokevirtual 161, 3) ∧ decode cX11_remove 11 = .ok (.ifCond .ne 9, 3) ∧ decode cX11_remove 14 = .ok (.aload_n 0, 1) ∧ decode cX11_remove 15 = .ok (.iconst 2, 1) ∧ decode cX11_remove 16 = .ok (.invokevirtual 87, 3) := by decide +kernel
theorem eX11_remove_19 : decode cX11_remove 19 = .ok (.ireturn, 1) ∧ decode cX11_remove 20 = .ok (.aload_n 0, 1) ∧ decode cX11_remove 21 = .ok (.getfield 79, 3) ∧ decode cX11_remove 24 = .ok (.invokevirtual 272, 3) ∧ decode cX11_remove 27 = .ok (.aload_n 0, 1) ∧ decode cX11_remove 28 = .ok (.getfield 79, 3) ∧ decode cX11_remove 31 = .ok (.iload_n 1, 1) ∧ decode cX11_remove 32 = .ok (.iload_n 2, 1) := by decide +kernel
theorem eX11_remove_33 : decode cX11_remove 33 = .ok (.invokevirtual 282, 3) ∧ decode cX11_remove 36 = .ok (.ifCond .ne 9, 3) ∧ decode cX11_remove 39 = .ok (.aload_n 0, 1) ∧ decode cX11_remove 40 = .ok (.iconst 2, 1) ∧ decode cX11_remove 41 = .ok (.invokevirtual 87, 3) ∧ decode cX11_remove 44 = .ok (.ireturn, 1) ∧ decode cX11_remove 45 = .ok (.aload_n 0, 1) ∧ decode cX11_remove 46 = .ok (.iconst 1, 1) := by decide +kernel
theorem eX11_remove_47 : decode cX11_remove 47 = .ok (.iload_n 1, 1) ∧ decode cX11_remove 48 = .ok (.invokevirtual 279, 3) ∧ decode cX11_remove 51 = .ok (.ireturn, 1) ∧ decode cX1_actBySeed 0 = .ok (.aload_n 0, 1) ∧ decode cX1_actBySeed 1 = .ok (.bipush 100, 2) ∧ decode cX1_actBySeed 3 = .ok (.invokevirtual 283, 3) ∧ decode cX1_actBySeed 6 = .ok (.aload_n 0, 1) ∧ decode cX1_actBySeed 7 = .ok (.getfield 47, 3) := by decide +kernel
theorem eX1_actBySeed_10 : decode cX1_actBySeed 10 = .ok (.getfield 286, 3) ∧ decode cX1_actBySeed 13 = .ok (.if_icmp .ge 10, 3) ∧ decode cX1_actBySeed 16 = .ok (.aload_n 0, 1) ∧ decode cX1_actBySeed 17 = .ok (.getfield 12, 3) ∧ decode cX1_actBySeed 20 = .ok (.invokevirtual 90, 3) ∧ decode cX1_actBySeed 23 = .ok (.aload_n 0, 1) ∧ decode cX1_actBySeed 24 = .ok (.getfield 12, 3) ∧ decode cX1_actBySeed 27 = .ok (.invokevirtual 289, 3) := by decide +kernel
theorem eX1_actBySeed_30 : decode cX1_actBySeed 30 = .ok (.istore_n 1, 1) ∧ decode cX1_actBySeed 31 = .ok (.iload_n 1, 1) ∧ decode cX1_actBySeed 32 = .ok (.ifCond .ne 5, 3) ∧ decode cX1_actBySeed 35 = .ok (.iconst 0, 1) ∧ decode cX1_actBySeed 36 = .ok (.ireturn, 1) ∧ decode cX1_actBySeed 37 = .ok (.aload_n 0, 1) ∧ decode cX1_actBySeed 38 = .ok (.aload_n 0, 1) ∧ decode cX1_actBySeed 39 = .ok (.iload_n 1, 1) := by decide +kernel
theorem eX1_actBySeed_40 : decode cX1_actBySeed 40 = .ok (.invokevirtual 283, 3) ∧ decode cX1_actBySeed 43 = .ok (.invokevirtual 292, 3) ∧ decode cX1_actBySeed 46 = .ok (.istore_n 2, 1) ∧ decode cX1_actBySeed 47 = .ok (.aload_n 0, 1) ∧ decode cX1_actBySeed 48 = .ok (.iconst 3, 1) ∧ decode cX1_actBySeed 49 = .ok (.invokevirtual 283, 3) ∧ decode cX1_actBySeed 52 = .ok (.istore_n 3, 1) ∧ decode cX1_actBySeed 53 = .ok (.aload_n 0, 1) := by decide +kernel
theorem eX1_actBySeed_54 : decode cX1_actBySeed 54 = .ok (.bipush 40, 2) ∧ decode cX1_actBySeed 56 = .ok (.invokevirtual 283, 3) ∧ decode cX1_actBySeed 59 = .ok (.istore 4, 2) ∧ decode cX1_actBySeed 61 = .ok (.iload_n 3, 1) ∧ decode cX1_actBySeed 62 = .ok (.iconst 2, 1) ∧ decode cX1_actBySeed 63 = .ok (.if_icmp .ne 11, 3) ∧ decode cX1_actBySeed 66 = .ok (.aload_n 0, 1) ∧ decode cX1_actBySeed 67 = .ok (.iload_n 2, 1) := by decide +kernel
theorem eX1_actBySeed_68 : decode cX1_actBySeed 68 = .ok (.iload 4, 2) ∧ decode cX1_actBySeed 70 = .ok (.invokevirtual 86, 3) ∧ decode cX1_actBySeed 73 = .ok (.ireturn, 1) ∧ decode cX1_actBySeed 74 = .ok (.aload_n 0, 1) ∧ decode cX1_actBySeed 75 = .ok (.iload_n 2, 1) ∧ decode cX1_actBySeed 76 = .ok (.iload 4, 2) ∧ decode cX1_actBySeed 78 = .ok (.aload_n 0, 1) ∧ decode cX1_actBySeed 79 = .ok (.bipush 100, 2) := by decide +kernel
theorem eX1_actBySeed_81 : decode cX1_actBySeed 81 = .ok (.invokevirtual 283, 3) ∧ decode cX1_actBySeed 84 = .ok (.invokevirtual 82, 3) ∧ decode cX1_actBySeed 87 = .ok (.ireturn, 1) ∧ decode cX1_draw 0 = .ok (.aload_n 0, 1) ∧ decode cX1_draw 1 = .ok (.ldc2_w 277, 3) ∧ decode cX1_draw 4 = .ok (.aload_n 0, 1) ∧ decode cX1_draw 5 = .ok (.getfield 24, 3) ∧ decode cX1_draw 8 = .ok (.i2l, 1) := by decide +kernel
theorem eX1_draw_9 : decode cX1_draw 9 = .ok (.lmul, 1) ∧ decode cX1_draw 10 = .ok (.ldc2_w 279, 3) ∧ decode cX1_draw 13 = .ok (.ladd, 1) ∧ decode cX1_draw 14 = .ok (.ldc2_w 281, 3) ∧ decode cX1_draw 17 = .ok (.land, 1) ∧ decode cX1_draw 18 = .ok (.l2i, 1) ∧ decode cX1_draw 19 = .ok (.putfield 24, 3) ∧ decode cX1_draw 22 = .ok (.iload_n 1, 1) := by decide +kernel
theorem eX1_draw_23 : decode cX1_draw 23 = .ok (.ifCond .le 15, 3) ∧ decode cX1_draw 26 = .ok (.aload_n 0, 1) ∧ decode cX1_draw 27 = .ok (.getfield 24, 3) ∧ decode cX1_draw 30 = .ok (.bipush 64, 2) ∧ decode cX1_draw 32 = .ok (.idiv, 1) ∧ decode cX1_draw 33 = .ok (.iload_n 1, 1) ∧ decode cX1_draw 34 = .ok (.irem, 1) ∧ decode cX1_draw 35 = .ok (.goto 4, 3) := by decide +kernel
theorem eX1_draw_38 : decode cX1_draw 38 = .ok (.iconst 0, 1) ∧ decode cX1_draw 39 = .ok (.ireturn, 1) ∧ decode cX1_settle 0 = .ok (.aload_n 0, 1) ∧ decode cX1_settle 1 = .ok (.getfield 12, 3) ∧ decode cX1_settle 4 = .ok (.ldc 103, 2) ∧ decode cX1_settle 6 = .ok (.aload_n 0, 1) ∧ decode cX1_settle 7 = .ok (.getfield 12, 3) ∧ decode cX1_settle 10 = .ok (.getfield 93, 3) := by decide +kernel
theorem eX1_settle_13 : decode cX1_settle 13 = .ok (.aload_n 0, 1) ∧ decode cX1_settle 14 = .ok (.invokevirtual 104, 3) ∧ decode cX1_settle 17 = .ok (.iadd, 1) ∧ decode cX1_settle 18 = .ok (.invokestatic 108, 3) ∧ decode cX1_settle 21 = .ok (.putfield 93, 3) ∧ decode cX1_settle 24 = .ok (.aload_n 0, 1) ∧ decode cX1_settle 25 = .ok (.invokevirtual 114, 3) ∧ decode cX1_settle 28 = .ok (.ireturn, 1) := by decide +kernel
theorem eX1_volumeAt_0 : decode cX1_volumeAt 0 = .ok (.iload_n 1, 1) ∧ decode cX1_volumeAt 1 = .ok (.istore_n 2, 1) ∧ decode cX1_volumeAt 2 = .ok (.iconst 0, 1) ∧ decode cX1_volumeAt 3 = .ok (.istore_n 3, 1) ∧ decode cX1_volumeAt 4 = .ok (.iload_n 3, 1) ∧ decode cX1_volumeAt 5 = .ok (.bipush 8, 2) ∧ decode cX1_volumeAt 7 = .ok (.if_icmp .ge 29, 3) ∧ decode cX1_volumeAt 10 = .ok (.aload_n 0, 1) := by decide +kernel
theorem eX1_volumeAt_11 : decode cX1_volumeAt 11 = .ok (.getfield 12, 3) ∧ decode cX1_volumeAt 14 = .ok (.iload_n 3, 1) ∧ decode cX1_volumeAt 15 = .ok (.invokevirtual 295, 3) ∧ decode cX1_volumeAt 18 = .ok (.ifCond .eq 12, 3) ∧ decode cX1_volumeAt 21 = .ok (.iload_n 2, 1) ∧ decode cX1_volumeAt 22 = .ok (.ifCond .ne 5, 3) ∧ decode cX1_volumeAt 25 = .ok (.iload_n 3, 1) ∧ decode cX1_volumeAt 26 = .ok (.ireturn, 1) := by decide +kernel
theorem eX1_volumeAt_27 : decode cX1_volumeAt 27 = .ok (.iinc 2 (-1), 3) ∧ decode cX1_volumeAt 30 = .ok (.iinc 3 1, 3) ∧ decode cX1_volumeAt 33 = .ok (.goto (-29), 3) ∧ decode cX1_volumeAt 36 = .ok (.iconst 0, 1) ∧ decode cX1_volumeAt 37 = .ok (.ireturn, 1) ∧ decode cX2_keep 0 = .ok (.aload_n 0, 1) ∧ decode cX2_keep 1 = .ok (.getfield 27, 3) ∧ decode cX2_keep 4 = .ok (.bipush 60, 2) := by decide +kernel
theorem eX2_keep_6 : decode cX2_keep 6 = .ok (.if_icmp .ne 64, 3) ∧ decode cX2_keep 9 = .ok (.aload_n 0, 1) ∧ decode cX2_keep 10 = .ok (.dup, 1) ∧ decode cX2_keep 11 = .ok (.getfield 27, 3) ∧ decode cX2_keep 14 = .ok (.iconst 1, 1) ∧ decode cX2_keep 15 = .ok (.isub, 1) ∧ decode cX2_keep 16 = .ok (.putfield 27, 3) ∧ decode cX2_keep 19 = .ok (.aload_n 0, 1) := by decide +kernel
theorem eX2_keep_20 : decode cX2_keep 20 = .ok (.getfield 11, 3) ∧ decode cX2_keep 23 = .ok (.iconst 1, 1) ∧ decode cX2_keep 24 = .ok (.aload_n 0, 1) ∧ decode cX2_keep 25 = .ok (.getfield 11, 3) ∧ decode cX2_keep 28 = .ok (.iconst 0, 1) ∧ decode cX2_keep 29 = .ok (.aload_n 0, 1) ∧ decode cX2_keep 30 = .ok (.getfield 27, 3) ∧ decode cX2_keep 33 = .ok (.invokestatic 44, 3) := by decide +kernel
theorem eX2_keep_36 : decode cX2_keep 36 = .ok (.aload_n 0, 1) ∧ decode cX2_keep 37 = .ok (.getfield 15, 3) ∧ decode cX2_keep 40 = .ok (.iconst 1, 1) ∧ decode cX2_keep 41 = .ok (.aload_n 0, 1) ∧ decode cX2_keep 42 = .ok (.getfield 15, 3) ∧ decode cX2_keep 45 = .ok (.iconst 0, 1) ∧ decode cX2_keep 46 = .ok (.aload_n 0, 1) ∧ decode cX2_keep 47 = .ok (.getfield 27, 3) := by decide +kernel
theorem eX2_keep_50 : decode cX2_keep 50 = .ok (.invokestatic 44, 3) ∧ decode cX2_keep 53 = .ok (.aload_n 0, 1) ∧ decode cX2_keep 54 = .ok (.getfield 18, 3) ∧ decode cX2_keep 57 = .ok (.iconst 1, 1) ∧ decode cX2_keep 58 = .ok (.aload_n 0, 1) ∧ decode cX2_keep 59 = .ok (.getfield 18, 3) ∧ decode cX2_keep 62 = .ok (.iconst 0, 1) ∧ decode cX2_keep 63 = .ok (.aload_n 0, 1) := by decide +kernel
theorem eX2_keep_64 : decode cX2_keep 64 = .ok (.getfield 27, 3) ∧ decode cX2_keep 67 = .ok (.invokestatic 44, 3) ∧ decode cX2_keep 70 = .ok (.aload_n 0, 1) ∧ decode cX2_keep 71 = .ok (.getfield 11, 3) ∧ decode cX2_keep 74 = .ok (.aload_n 0, 1) ∧ decode cX2_keep 75 = .ok (.getfield 27, 3) ∧ decode cX2_keep 78 = .ok (.iload_n 1, 1) ∧ decode cX2_keep 79 = .ok (.iastore, 1) := by decide +kernel
theorem eX2_keep_80 : decode cX2_keep 80 = .ok (.aload_n 0, 1) ∧ decode cX2_keep 81 = .ok (.getfield 15, 3) ∧ decode cX2_keep 84 = .ok (.aload_n 0, 1) ∧ decode cX2_keep 85 = .ok (.getfield 27, 3) ∧ decode cX2_keep 88 = .ok (.iload_n 2, 1) ∧ decode cX2_keep 89 = .ok (.iastore, 1) ∧ decode cX2_keep 90 = .ok (.aload_n 0, 1) ∧ decode cX2_keep 91 = .ok (.getfield 18, 3) := by decide +kernel
theorem eX2_keep_94 : decode cX2_keep 94 = .ok (.aload_n 0, 1) ∧ decode cX2_keep 95 = .ok (.getfield 27, 3) ∧ decode cX2_keep 98 = .ok (.iload_n 3, 1) ∧ decode cX2_keep 99 = .ok (.iastore, 1) ∧ decode cX2_keep 100 = .ok (.aload_n 0, 1) ∧ decode cX2_keep 101 = .ok (.dup, 1) ∧ decode cX2_keep 102 = .ok (.getfield 27, 3) ∧ decode cX2_keep 105 = .ok (.iconst 1, 1) := by decide +kernel
theorem eX2_keep_106 : decode cX2_keep 106 = .ok (.iadd, 1) ∧ decode cX2_keep 107 = .ok (.putfield 27, 3) ∧ decode cX2_keep 110 = .ok (.return_, 1) := by decide +kernel
set_option maxHeartbeats 4000000 in
set_option maxRecDepth 100000 in
theorem k_x1_settle (l : Launch) (D : va_G) (a : Nat → Nat) (sz : Nat) (s : MS) (o : (Int × MS)) (h : m_x1_settle s = some o) : yWi l yX1_settle cX1_settle 1 (some .int) { frames := 4, cells := 0, slots := 0, locals := 240 } D sz [.ref (a 49)] (CS D a s) (CS D a o.2) (i2 o.1) := by
  refine Met.ofW (cc := cX1_settle) (maxL := 1) (ret := (some .int)) (by decide) rfl ?_
  intro p e s₀ m args below meth c s₁ B hml hv
  obtain ⟨rfl, ⟨hsz, hP, hK, hD0⟩, hN⟩ := hv
  have hx := B.exec
  have hb := B.bytes
  have hr := B.returns
  have hts := atoms_spec (ws := wz yX1_settle cX1_settle 1 (some .int)) B.pre
  have ht : ∀ w ∈ lw_gd, w.before _ s₀ = true := fun w h => hts w (List.mem_cons_of_mem _ h)
  have hown : s₀.vm.findClass RX1 = some m.cls := findClass_of_methodNamed B.named
  have hlocks := B.notSynchronized
  subst hsz
  have hD := hD0.self (sz := s₀.heap.size)
  generalize hAe : va_A (CS D a s) s₀.heap.size = A at hD ⊢
  have hA : ∀ q : Nat, s₀.heap.size ≤ q → A q := fun q h => by rw [← hAe]; exact Or.inr h
  have hS : va_S A s₀.heap s₀.heap [] := va_S.rf
  have hDD : ∀ t : MS, va_D A (CS D a t) := fun t => CW_D t hD
  have hl := lv_entry ([.ref (a 49)]) (n := 1) (Nat.le_of_ble_eq_true rfl)
  rw [lg_entry_eq]
  generalize (lg_sl ([.ref (a 49)]) ++ List.replicate (1 - (lg_sl ([.ref (a 49)])).length) Slot.unset).toArray = ls at hl ⊢
  have hl : lv_has ls 1 [(0, .ref (a 49))] := hl
  unfold m_x1_settle at h
  refine lv_aload_n hx hb eX1_draw_38.2.2.1 rfl (lv_at hl 0 rfl) ?_
  refine va_get (D := D) (ci := 1) (v := .ref (a 53)) (C := RX1) (T := TX1) (N := 9) hx hb ht inX1 hown hK hP 49 CW_49 rfl 0 (by decide) (ht (.fieldLink RX1 12 "CloneVolumes$Forest" "now" "LCloneVolumes$State;") fl_X1_12) (fun _ h9 => h9) rfl eX1_draw_38.2.2.2.1 ?_
  refine lv_ldc (own := RX1) (v := 999999) hx hb hown (ht _ ck_X1_103) eX1_draw_38.2.2.2.2.1 ?_
  refine lv_aload_n hx hb eX1_draw_38.2.2.2.2.2.1 rfl (lv_at hl 0 rfl) ?_
  refine va_get (D := D) (ci := 1) (v := .ref (a 53)) (C := RX1) (T := TX1) (N := 9) hx hb ht inX1 hown hK hP 49 CW_49 rfl 0 (by decide) (ht (.fieldLink RX1 12 "CloneVolumes$Forest" "now" "LCloneVolumes$State;") fl_X1_12) (fun _ h9 => h9) rfl eX1_draw_38.2.2.2.2.2.2.1 ?_
  refine va_get (D := D) (ci := 8) (v := .int (i2 (gI s 1061))) (C := RX8) (T := TX8) (N := 11) hx hb ht inX8 hown hK hP 53 CW_53 rfl 1 (by decide) (ht (.fieldLink RX1 93 "CloneVolumes$State" "spent" "I") fl_X1_93) (fun _ h9 => h9) rfl eX1_draw_38.2.2.2.2.2.2.2 ?_
  refine lv_aload_n hx hb eX1_settle_13.1 rfl (lv_at hl 0 rfl) ?_
  obtain ⟨⟨r3, s2⟩, hc1, h⟩ := bn_e h
  refine ywV (r0 := i2 r3) (As := []) (rest := [.int (i2 (gI s 1061)), .int 999999, .ref (a 53)]) (C := RX1) (n := 0) (ws' := CS D a s2) ⟨hx, hb, hml, hown, ht⟩ (k_x1_price l D a _ _ _ hc1) (zgV ml_X1_104 im_X1_price se_X1_price in_X1 co_X1_price) rfl rfl (by decide +kernel) ⟨Nat.le_of_ble_eq_true rfl, Nat.le_of_ble_eq_true rfl⟩ hN hK hP (hDD _) hS hA 49 CW_49 rfl rfl rfl hl.1 rfl (Nat.le_of_ble_eq_true rfl) eX1_settle_13.2.1 ⟨Nat.le_of_ble_eq_true rfl, Nat.le_of_ble_eq_true rfl⟩ (fun H locs hP hS => ?_)
  refine lv_iadd hx hb eX1_settle_13.2.2.1 ?_
  refine z_topi (y := i2 ((gI s 1061) + r3)) (i2_add (gI s 1061) r3) ?_
  obtain ⟨hr4, h⟩ := rg_e h
  refine va_mmin hx hb (by rw [hml]; exact hl.1.symm) hown (ht _ ml_X1_108) (ht _ st_mmin) (ht _ in_math) (ht _ co_mmin) (Nat.le_of_ble_eq_true rfl) (Nat.le_of_ble_eq_true rfl) (Nat.le_of_ble_eq_true rfl) (Nat.le_of_ble_eq_true rfl) eX1_settle_13.2.2.2.1 ?_
  refine z_topi (y := i2 (minZ 999999 ((gI s 1061) + r3))) (i2_min (x := 999999) (y := ((gI s 1061) + r3)) (by decide) hr4) ?_
  refine ya_put (D := D) (ci := 8) (v := .int (i2 (minZ 999999 ((gI s 1061) + r3)))) (ty := .int) (C := RX8) (T := TX8) (N := 11) hx hb ht inX8 tyX8 tyX8_ok nmX8 hown hK hP (hDD _) hS 53 CW_53 rfl 1 (by decide) (ht (.fieldLink RX1 93 "CloneVolumes$State" "spent" "I") fl_X1_93) (fun _ h9 => h9) rfl (by decide +kernel) rfl rfl (Nat.le_of_ble_eq_true rfl) eX1_settle_13.2.2.2.2.1 (CW_w53_1 (minZ 999999 ((gI s 1061) + r3))) (fun H locs hP hS => ?_)
  obtain ⟨s5, hs5, h⟩ := st_e h
  rw [hs5] at hP
  refine lv_aload_n hx hb eX1_settle_13.2.2.2.2.2.1 rfl (lv_at hl 0 rfl) ?_
  obtain ⟨r7, hc6, h⟩ := bn_e h
  refine ycV (r0 := i2 r7) (As := []) (rest := []) (C := RX1) (n := 0) ⟨hx, hb, hml, hown, ht⟩ (k_x1_wrote l D a _ _ hc6) (zgV ml_X1_114 im_X1_wrote se_X1_wrote in_X1 co_X1_wrote) rfl rfl (by decide +kernel) ⟨Nat.le_of_ble_eq_true rfl, Nat.le_of_ble_eq_true rfl⟩ hN hK hP hS 49 CW_49 rfl rfl rfl hl.1 rfl (Nat.le_of_ble_eq_true rfl) eX1_settle_13.2.2.2.2.2.2.1 ⟨Nat.le_of_ble_eq_true rfl, Nat.le_of_ble_eq_true rfl⟩ (fun H locs hP hS => ?_)
  obtain rfl := Option.some.inj h
  exact W.iret (v := (i2 r7)) hx hb hr (fun t ht hW => ⟨⟨_, (), rfl, rfl, by rw [ht]; exact hP, va_K.moved hW.alike hK, hDD _⟩, hS.F ht⟩) hS.2.2 eX1_settle_13.2.2.2.2.2.2.2
set_option maxHeartbeats 4000000 in
set_option maxRecDepth 100000 in
theorem k_x2_keep (l : Launch) (D : va_G) (a : Nat → Nat) (p0 : Int) (p1 : Int) (p2 : Int) (sz : Nat) (s : MS) (o : MS) (h : m_x2_keep p0 p1 p2 s = some o) : yWv l yX2_keep cX2_keep 4 none { frames := 1, cells := 0, slots := 0, locals := 60 } D sz [.ref (a 7), .int (i2 p0), .int (i2 p1), .int (i2 p2)] (CS D a s) (CS D a o) := by
  refine Met.ofW (cc := cX2_keep) (maxL := 4) (ret := none) (by decide) rfl ?_
  intro p e s₀ m args below meth c s₁ B hml hv
  obtain ⟨rfl, ⟨hsz, hP, hK, hD0⟩, hN⟩ := hv
  have hx := B.exec
  have hb := B.bytes
  have hr := B.returns
  have hts := atoms_spec (ws := wz yX2_keep cX2_keep 4 none) B.pre
  have ht : ∀ w ∈ lw_gd, w.before _ s₀ = true := fun w h => hts w (List.mem_cons_of_mem _ h)
  have hown : s₀.vm.findClass RX2 = some m.cls := findClass_of_methodNamed B.named
  have hlocks := B.notSynchronized
  subst hsz
  have hD := hD0.self (sz := s₀.heap.size)
  generalize hAe : va_A (CS D a s) s₀.heap.size = A at hD ⊢
  have hA : ∀ q : Nat, s₀.heap.size ≤ q → A q := fun q h => by rw [← hAe]; exact Or.inr h
  have hS : va_S A s₀.heap s₀.heap [] := va_S.rf
  have hDD : ∀ t : MS, va_D A (CS D a t) := fun t => CW_D t hD
  have hl := lv_entry ([.ref (a 7), .int (i2 p0), .int (i2 p1), .int (i2 p2)]) (n := 4) (Nat.le_of_ble_eq_true rfl)
  rw [lg_entry_eq]
  generalize (lg_sl ([.ref (a 7), .int (i2 p0), .int (i2 p1), .int (i2 p2)]) ++ List.replicate (4 - (lg_sl ([.ref (a 7), .int (i2 p0), .int (i2 p1), .int (i2 p2)])).length) Slot.unset).toArray = ls at hl ⊢
  have hl : lv_has ls 4 [(0, .ref (a 7)), (1, .int (i2 p0)), (2, .int (i2 p1)), (3, .int (i2 p2))] := hl
  unfold m_x2_keep at h
  refine y_head (pcJ := 70) (σ := Int × Int × Int × MS) (fun u H locs ls => va_P D vwCl (CS D a u.2.2.2) H ∧ va_S A s₀.heap H locs ∧ lv_has ls 4 [(0, .ref (a 7)), (1, .int (i2 u.1)), (2, .int (i2 u.2.1)), (3, .int (i2 u.2.2.1))] ∧ m_x2_keep_J70 u.1 u.2.1 u.2.2.1 u.2.2.2 = some o) (fun u => []) (fun u H locs ls hI => ?_) (fun J70 => ?_)
  · obtain ⟨hP, hS, hl, h⟩ := hI
    obtain ⟨x1, x2, x3, s4⟩ := u
    have hP : va_P D vwCl (CS D a s4) H := hP
    have hl : lv_has ls 4 [(0, .ref (a 7)), (1, .int (i2 x1)), (2, .int (i2 x2)), (3, .int (i2 x3))] := hl
    have h : m_x2_keep_J70 x1 x2 x3 s4 = some o := h
    unfold m_x2_keep_J70 at h
    refine lv_aload_n hx hb eX2_keep_64.2.2.1 rfl (lv_at hl 0 rfl) ?_
    refine va_get (D := D) (ci := 2) (v := .ref (a 8)) (C := RX2) (T := TX2) (N := 6) hx hb ht inX2 hown hK hP 7 CW_7 rfl 0 (by decide) (ht (.fieldLink RX2 11 "CloneVolumes$History" "acts" "[I") fl_X2_11) (fun _ h9 => h9) rfl eX2_keep_64.2.2.2.1 ?_
    refine lv_aload_n hx hb eX2_keep_64.2.2.2.2.1 rfl (lv_at hl 0 rfl) ?_
    refine va_get (D := D) (ci := 2) (v := .int (i2 (gI s4 143))) (C := RX2) (T := TX2) (N := 6) hx hb ht inX2 hown hK hP 7 CW_7 rfl 3 (by decide) (ht (.fieldLink RX2 27 "CloneVolumes$History" "rows" "I") fl_X2_27) (fun _ h9 => h9) rfl eX2_keep_64.2.2.2.2.2.1 ?_
    refine lv_iload_n hx hb eX2_keep_64.2.2.2.2.2.2.1 rfl (lv_at hl 1 rfl) ?_
    obtain ⟨hi5, h⟩ := inb_e h
    refine ya_iast (i := (gI s4 143)) (x := x1) hx hb hK hP (hDD _) hS 8 0 CW_8 rfl (by decide) hi5 eX2_keep_64.2.2.2.2.2.2.2 (CW_w8 _) (fun H locs hP hS => ?_)
    obtain ⟨s6, hs6, h⟩ := st_e h
    rw [hs6] at hP
    refine lv_aload_n hx hb eX2_keep_80.1 rfl (lv_at hl 0 rfl) ?_
    refine va_get (D := D) (ci := 2) (v := .ref (a 9)) (C := RX2) (T := TX2) (N := 6) hx hb ht inX2 hown hK hP 7 CW_7 rfl 1 (by decide) (ht (.fieldLink RX2 15 "CloneVolumes$History" "volumes" "[I") fl_X2_15) (fun _ h9 => h9) rfl eX2_keep_80.2.1 ?_
    refine lv_aload_n hx hb eX2_keep_80.2.2.1 rfl (lv_at hl 0 rfl) ?_
    refine va_get (D := D) (ci := 2) (v := .int (i2 (gI s6 143))) (C := RX2) (T := TX2) (N := 6) hx hb ht inX2 hown hK hP 7 CW_7 rfl 3 (by decide) (ht (.fieldLink RX2 27 "CloneVolumes$History" "rows" "I") fl_X2_27) (fun _ h9 => h9) rfl eX2_keep_80.2.2.2.1 ?_
    refine lv_iload_n hx hb eX2_keep_80.2.2.2.2.1 rfl (lv_at hl 2 rfl) ?_
    obtain ⟨hi7, h⟩ := inb_e h
    refine ya_iast (i := (gI s6 143)) (x := x2) hx hb hK hP (hDD _) hS 9 0 CW_9 rfl (by decide) hi7 eX2_keep_80.2.2.2.2.2.1 (CW_w9 _) (fun H locs hP hS => ?_)
    obtain ⟨s8, hs8, h⟩ := st_e h
    rw [hs8] at hP
    refine lv_aload_n hx hb eX2_keep_80.2.2.2.2.2.2.1 rfl (lv_at hl 0 rfl) ?_
    refine va_get (D := D) (ci := 2) (v := .ref (a 10)) (C := RX2) (T := TX2) (N := 6) hx hb ht inX2 hown hK hP 7 CW_7 rfl 2 (by decide) (ht (.fieldLink RX2 18 "CloneVolumes$History" "wrote" "[I") fl_X2_18) (fun _ h9 => h9) rfl eX2_keep_80.2.2.2.2.2.2.2 ?_
    refine lv_aload_n hx hb eX2_keep_94.1 rfl (lv_at hl 0 rfl) ?_
    refine va_get (D := D) (ci := 2) (v := .int (i2 (gI s8 143))) (C := RX2) (T := TX2) (N := 6) hx hb ht inX2 hown hK hP 7 CW_7 rfl 3 (by decide) (ht (.fieldLink RX2 27 "CloneVolumes$History" "rows" "I") fl_X2_27) (fun _ h9 => h9) rfl eX2_keep_94.2.1 ?_
    refine lv_iload_n hx hb eX2_keep_94.2.2.1 rfl (lv_at hl 3 rfl) ?_
    obtain ⟨hi9, h⟩ := inb_e h
    refine ya_iast (i := (gI s8 143)) (x := x3) hx hb hK hP (hDD _) hS 10 0 CW_10 rfl (by decide) hi9 eX2_keep_94.2.2.2.1 (CW_w10 _) (fun H locs hP hS => ?_)
    obtain ⟨s10, hs10, h⟩ := st_e h
    rw [hs10] at hP
    refine lv_aload_n hx hb eX2_keep_94.2.2.2.2.1 rfl (lv_at hl 0 rfl) ?_
    refine lv_dup hx hb eX2_keep_94.2.2.2.2.2.1 rfl ?_
    refine va_get (D := D) (ci := 2) (v := .int (i2 (gI s10 143))) (C := RX2) (T := TX2) (N := 6) hx hb ht inX2 hown hK hP 7 CW_7 rfl 3 (by decide) (ht (.fieldLink RX2 27 "CloneVolumes$History" "rows" "I") fl_X2_27) (fun _ h9 => h9) rfl eX2_keep_94.2.2.2.2.2.2.1 ?_
    refine lv_iconst (v := 1) hx hb eX2_keep_94.2.2.2.2.2.2.2 (by decide) ?_
    refine lv_iadd hx hb eX2_keep_106.1 ?_
    refine z_topi (y := i2 ((gI s10 143) + 1)) (i2_add (gI s10 143) 1) ?_
    refine ya_put (D := D) (ci := 2) (v := .int (i2 ((gI s10 143) + 1))) (ty := .int) (C := RX2) (T := TX2) (N := 6) hx hb ht inX2 tyX2 tyX2_ok nmX2 hown hK hP (hDD _) hS 7 CW_7 rfl 3 (by decide) (ht (.fieldLink RX2 27 "CloneVolumes$History" "rows" "I") fl_X2_27) (fun _ h9 => h9) rfl (by decide +kernel) rfl rfl (Nat.le_of_ble_eq_true rfl) eX2_keep_106.2.1 (CW_w7_3 ((gI s10 143) + 1)) (fun H locs hP hS => ?_)
    obtain ⟨s11, hs11, h⟩ := st_e h
    rw [hs11] at hP
    obtain rfl := Option.some.inj h
    exact W.vret hx hb hr (fun t ht hW => ⟨⟨(), rfl, trivial, by rw [ht]; exact hP, va_K.moved hW.alike hK, hDD _⟩, hS.F ht⟩) hS.2.2 eX2_keep_106.2.2
  refine lv_aload_n hx hb eX1_volumeAt_27.2.2.2.2.2.1 rfl (lv_at hl 0 rfl) ?_
  refine va_get (D := D) (ci := 2) (v := .int (i2 (gI s 143))) (C := RX2) (T := TX2) (N := 6) hx hb ht inX2 hown hK hP 7 CW_7 rfl 3 (by decide) (ht (.fieldLink RX2 27 "CloneVolumes$History" "rows" "I") fl_X2_27) (fun _ h9 => h9) rfl eX1_volumeAt_27.2.2.2.2.2.2.1 ?_
  refine lv_bipush (v := 60) hx hb eX1_volumeAt_27.2.2.2.2.2.2.2 (by decide) ?_
  obtain ⟨hr12, h⟩ := rg_e h
  refine lv_icmp_ne (tgt := 70) hx hb eX2_keep_6.1 (by decide) (fun c13 => ?_) (fun c13 => ?_)
  · have h := if_f (mt (i2_eq (x := (gI s 143)) (y := 60) hr12 (by decide)).mpr c13) h
    exact J70 (p0, p1, p2, s) _ _ _ ⟨hP, hS, lv_sub hl [0, 1, 2, 3] rfl, h⟩
  · have h := if_t ((i2_eq (x := (gI s 143)) (y := 60) hr12 (by decide)).mp c13) h
    refine lv_aload_n hx hb eX2_keep_6.2.1 rfl (lv_at hl 0 rfl) ?_
    refine lv_dup hx hb eX2_keep_6.2.2.1 rfl ?_
    refine va_get (D := D) (ci := 2) (v := .int (i2 (gI s 143))) (C := RX2) (T := TX2) (N := 6) hx hb ht inX2 hown hK hP 7 CW_7 rfl 3 (by decide) (ht (.fieldLink RX2 27 "CloneVolumes$History" "rows" "I") fl_X2_27) (fun _ h9 => h9) rfl eX2_keep_6.2.2.2.1 ?_
    refine lv_iconst (v := 1) hx hb eX2_keep_6.2.2.2.2.1 (by decide) ?_
    refine lv_isub hx hb eX2_keep_6.2.2.2.2.2.1 ?_
    refine z_topi (y := i2 ((gI s 143) - 1)) (i2_sub (gI s 143) 1) ?_
    refine ya_put (D := D) (ci := 2) (v := .int (i2 ((gI s 143) - 1))) (ty := .int) (C := RX2) (T := TX2) (N := 6) hx hb ht inX2 tyX2 tyX2_ok nmX2 hown hK hP (hDD _) hS 7 CW_7 rfl 3 (by decide) (ht (.fieldLink RX2 27 "CloneVolumes$History" "rows" "I") fl_X2_27) (fun _ h9 => h9) rfl (by decide +kernel) rfl rfl (Nat.le_of_ble_eq_true rfl) eX2_keep_6.2.2.2.2.2.2.1 (CW_w7_3 ((gI s 143) - 1)) (fun H locs hP hS => ?_)
    obtain ⟨s14, hs14, h⟩ := st_e h
    rw [hs14] at hP
    refine lv_aload_n hx hb eX2_keep_6.2.2.2.2.2.2.2 rfl (lv_at hl 0 rfl) ?_
    refine va_get (D := D) (ci := 2) (v := .ref (a 8)) (C := RX2) (T := TX2) (N := 6) hx hb ht inX2 hown hK hP 7 CW_7 rfl 0 (by decide) (ht (.fieldLink RX2 11 "CloneVolumes$History" "acts" "[I") fl_X2_11) (fun _ h9 => h9) rfl eX2_keep_20.1 ?_
    refine lv_iconst (v := 1) hx hb eX2_keep_20.2.1 (by decide) ?_
    refine lv_aload_n hx hb eX2_keep_20.2.2.1 rfl (lv_at hl 0 rfl) ?_
    refine va_get (D := D) (ci := 2) (v := .ref (a 8)) (C := RX2) (T := TX2) (N := 6) hx hb ht inX2 hown hK hP 7 CW_7 rfl 0 (by decide) (ht (.fieldLink RX2 11 "CloneVolumes$History" "acts" "[I") fl_X2_11) (fun _ h9 => h9) rfl eX2_keep_20.2.2.2.1 ?_
    refine lv_iconst (v := 0) hx hb eX2_keep_20.2.2.2.2.1 (by decide) ?_
    refine lv_aload_n hx hb eX2_keep_20.2.2.2.2.2.1 rfl (lv_at hl 0 rfl) ?_
    refine va_get (D := D) (ci := 2) (v := .int (i2 (gI s14 143))) (C := RX2) (T := TX2) (N := 6) hx hb ht inX2 hown hK hP 7 CW_7 rfl 3 (by decide) (ht (.fieldLink RX2 27 "CloneVolumes$History" "rows" "I") fl_X2_27) (fun _ h9 => h9) rfl eX2_keep_20.2.2.2.2.2.2.1 ?_
    obtain ⟨hc15, h⟩ := cpg_e h
    refine ya_copyi (sp := 1) (dp := 0) (n := (gI s14 143)) hx hb (by rw [hml]; exact hl.1.symm) hown (ht _ ml_X2_44) (ht _ na_cpy) (ht _ st_cpy) (ht _ in_sys) hK hP (hDD _) hS 8 8 CW_8 CW_8 (by decide) (by decide) hc15 (Nat.le_of_ble_eq_true rfl) (Nat.le_of_ble_eq_true rfl) eX2_keep_20.2.2.2.2.2.2.2 (CW_w8 _) (fun H locs hP hS => ?_)
    obtain ⟨s16, hs16, h⟩ := st_e h
    rw [hs16] at hP
    refine lv_aload_n hx hb eX2_keep_36.1 rfl (lv_at hl 0 rfl) ?_
    refine va_get (D := D) (ci := 2) (v := .ref (a 9)) (C := RX2) (T := TX2) (N := 6) hx hb ht inX2 hown hK hP 7 CW_7 rfl 1 (by decide) (ht (.fieldLink RX2 15 "CloneVolumes$History" "volumes" "[I") fl_X2_15) (fun _ h9 => h9) rfl eX2_keep_36.2.1 ?_
    refine lv_iconst (v := 1) hx hb eX2_keep_36.2.2.1 (by decide) ?_
    refine lv_aload_n hx hb eX2_keep_36.2.2.2.1 rfl (lv_at hl 0 rfl) ?_
    refine va_get (D := D) (ci := 2) (v := .ref (a 9)) (C := RX2) (T := TX2) (N := 6) hx hb ht inX2 hown hK hP 7 CW_7 rfl 1 (by decide) (ht (.fieldLink RX2 15 "CloneVolumes$History" "volumes" "[I") fl_X2_15) (fun _ h9 => h9) rfl eX2_keep_36.2.2.2.2.1 ?_
    refine lv_iconst (v := 0) hx hb eX2_keep_36.2.2.2.2.2.1 (by decide) ?_
    refine lv_aload_n hx hb eX2_keep_36.2.2.2.2.2.2.1 rfl (lv_at hl 0 rfl) ?_
    refine va_get (D := D) (ci := 2) (v := .int (i2 (gI s16 143))) (C := RX2) (T := TX2) (N := 6) hx hb ht inX2 hown hK hP 7 CW_7 rfl 3 (by decide) (ht (.fieldLink RX2 27 "CloneVolumes$History" "rows" "I") fl_X2_27) (fun _ h9 => h9) rfl eX2_keep_36.2.2.2.2.2.2.2 ?_
    obtain ⟨hc17, h⟩ := cpg_e h
    refine ya_copyi (sp := 1) (dp := 0) (n := (gI s16 143)) hx hb (by rw [hml]; exact hl.1.symm) hown (ht _ ml_X2_44) (ht _ na_cpy) (ht _ st_cpy) (ht _ in_sys) hK hP (hDD _) hS 9 9 CW_9 CW_9 (by decide) (by decide) hc17 (Nat.le_of_ble_eq_true rfl) (Nat.le_of_ble_eq_true rfl) eX2_keep_50.1 (CW_w9 _) (fun H locs hP hS => ?_)
    obtain ⟨s18, hs18, h⟩ := st_e h
    rw [hs18] at hP
    refine lv_aload_n hx hb eX2_keep_50.2.1 rfl (lv_at hl 0 rfl) ?_
    refine va_get (D := D) (ci := 2) (v := .ref (a 10)) (C := RX2) (T := TX2) (N := 6) hx hb ht inX2 hown hK hP 7 CW_7 rfl 2 (by decide) (ht (.fieldLink RX2 18 "CloneVolumes$History" "wrote" "[I") fl_X2_18) (fun _ h9 => h9) rfl eX2_keep_50.2.2.1 ?_
    refine lv_iconst (v := 1) hx hb eX2_keep_50.2.2.2.1 (by decide) ?_
    refine lv_aload_n hx hb eX2_keep_50.2.2.2.2.1 rfl (lv_at hl 0 rfl) ?_
    refine va_get (D := D) (ci := 2) (v := .ref (a 10)) (C := RX2) (T := TX2) (N := 6) hx hb ht inX2 hown hK hP 7 CW_7 rfl 2 (by decide) (ht (.fieldLink RX2 18 "CloneVolumes$History" "wrote" "[I") fl_X2_18) (fun _ h9 => h9) rfl eX2_keep_50.2.2.2.2.2.1 ?_
    refine lv_iconst (v := 0) hx hb eX2_keep_50.2.2.2.2.2.2.1 (by decide) ?_
    refine lv_aload_n hx hb eX2_keep_50.2.2.2.2.2.2.2 rfl (lv_at hl 0 rfl) ?_
    refine va_get (D := D) (ci := 2) (v := .int (i2 (gI s18 143))) (C := RX2) (T := TX2) (N := 6) hx hb ht inX2 hown hK hP 7 CW_7 rfl 3 (by decide) (ht (.fieldLink RX2 27 "CloneVolumes$History" "rows" "I") fl_X2_27) (fun _ h9 => h9) rfl eX2_keep_64.1 ?_
    obtain ⟨hc19, h⟩ := cpg_e h
    refine ya_copyi (sp := 1) (dp := 0) (n := (gI s18 143)) hx hb (by rw [hml]; exact hl.1.symm) hown (ht _ ml_X2_44) (ht _ na_cpy) (ht _ st_cpy) (ht _ in_sys) hK hP (hDD _) hS 10 10 CW_10 CW_10 (by decide) (by decide) hc19 (Nat.le_of_ble_eq_true rfl) (Nat.le_of_ble_eq_true rfl) eX2_keep_64.2.1 (CW_w10 _) (fun H locs hP hS => ?_)
    obtain ⟨s20, hs20, h⟩ := st_e h
    rw [hs20] at hP
    exact J70 (p0, p1, p2, s20) _ _ _ ⟨hP, hS, lv_sub hl [0, 1, 2, 3] rfl, h⟩
/-! ===== what acts leave behind: other addresses for the State ahead, another pool ===== -/
abbrev yU (l : Launch) (y : MethodName) (bytes : ByteArray) (maxL : Nat) (ret : Option FieldType) (rm : Room) (D : va_G) (sz : Nat) (av : List Value) (a : Nat → Nat) (s : MS) (ps : List ((Nat → Nat) × MS)) (r : Int32) (s' : MS) (ts' : List MS) : Prop := Met l y (wz y bytes maxL ret) rm (va_Pc av (yW D sz (XW D a s ps))) (va_Qi (fun q (u : (Nat → Nat) × List ((Nat → Nat) × MS)) => q = r ∧ (∀ k, (k < 62 ∨ 70 < k) → u.1 k = a k) ∧ u.2.map Prod.snd = ts') (fun u t => zB D (va_A (XW D a s ps) sz) (XW D u.1 s' u.2) t) (va_A (XW D a s ps) sz)) 9 795 (va_A (XW D a s ps) sz)
section PU
variable {p : Program} {l : Launch} {e : Env} {R : Room} {s : State} {m : MethodId} {args : Array Value} {below : List Frame} {meth : Method} {c : Code} {H : Heap} {locs : List Loc} {cells slots : Nat} {Q : State → Prop}
variable {cc bytes : ByteArray} {pc : Nat} {ls : Array Slot} {rest st1 : List Value} {D : va_G} {A : Nat → Prop} {ws ws' : va_W} {H0 : Heap} {y : MethodName} {maxL nL mc ms n idx : Nat} {ret : Option FieldType} {rm : Room} {own C : String} {b : Addr} {As : List Value}
theorem ywU {a : Nat → Nat} {s0 s' : MS} {ps : List ((Nat → Nat) × MS)} {ts' : List MS} {r0 : Int32} (S : CallFix p m c cc nL s args lw_gd own) (hM : yU l y bytes maxL ret rm D H.size (.ref b :: As) a s0 ps r0 s' ts') (hT : GoodIn lw_gd (wsV own idx C y (wz y bytes maxL ret))) (hrc : rm.cells = 9) (hrs : rm.slots = 795)
    (hd : y.cls = C ∧ y.cls ≠ "java/lang/invoke/MethodHandle" ∧ y.cls ≠ "java/lang/invoke/VarHandle" ∧ (parseMethodDescriptor y.desc).map (fun d => d.parameters.length) = some n) (hR : rm.frames + 1 ≤ R.frames ∧ 8 + (maxL + 11) + rm.locals ≤ R.locals)
    (hN : NN s) (hK : va_K D vwCl (TY D) s) (hP : va_P D vwCl (XW D a s0 ps) H) (hD : va_D A (XW D a s0 ps)) (hS : va_S A H0 H locs) (hA : ∀ q : Nat, H0.size ≤ q → A q) {ci : Nat} {fs : List Value} {q : vw_C} (q0 : Nat) (he : (XW D a s0 ps)[q0]? = some (b, .inr (ci, fs))) (hc : vwCl[ci]? = some q) (hq : q.1 = C)
    (hn : As.length = n) (hsize : ls.size = nL) (hst : st1 = As.reverse ++ .ref b :: rest) (hW : (rest.map fun v => v.category).sum ≤ 8) (hdg : decode cc pc = .ok (.invokevirtual idx, 3)) (hf : cells + 9 ≤ R.cells ∧ slots + 795 ≤ R.slots)
    (kk : ∀ (u : (Nat → Nat) × List ((Nat → Nat) × MS)) (H : Heap) (locs : List Loc), (∀ k, (k < 62 ∨ 70 < k) → u.1 k = a k) → u.2.map Prod.snd = ts' → va_P D vwCl (XW D u.1 s' u.2) H → va_D A (XW D u.1 s' u.2) → va_S A H0 H locs → W p l e R s m args below meth c H locs (cells + 9) (slots + 795) Q (F0 m (pc + 3) ls (.int r0 :: rest))) : W p l e R s m args below meth c H locs cells slots Q (F0 m pc ls st1) := by
  subst hq
  have hFc := y_free hD hS hA
  refine va_calli (va_runV (g := F0 m pc ls st1) (b := b) (As := As) (rest := rest) (Pc := va_Pc (.ref b :: As) (yW D H.size (XW D a s0 ps))) S hM (cwV n S.2.2.2.2 hT rfl hrc hrs hd hR) ⟨yWb _ D _ _, va_recv hK hP hc he, fun U hU hW => ⟨rfl, ⟨by rw [hU], by rw [hU]; exact hP, va_K.moved hW.alike hK, hD.weaken (fun _ _ _ _ => trivial)⟩, NN.warm hW hN⟩⟩ rfl hn hsize hst (lv_room hW) hdg hf) hS (fun q _ h => hFc q h) hFc (fun r u t H1 locs1 ht hvm hw hB hz1 hk1 hS1 => ?_)
  obtain ⟨hP1, hK1, hD1⟩ := hB
  rw [ht] at hP1
  obtain ⟨rfl, hu, hts⟩ := hw
  exact kk u H1 locs1 hu hts hP1 (hD1.weaken (fun _ _ _ h => hFc _ h)) hS1
theorem ywR {Sg : Type} {post : Sg → Prop} {ra : Sg → Nat} {WB : Sg → va_W} (S : CallFix p m c cc nL s args lw_gd own) (hM : Met l y (wz y bytes maxL ret) rm (va_Pc (.ref b :: As) (yW D H.size ws)) (va_Qr post (fun u r t => r = ra u ∧ zB D (va_A ws H.size) (WB u) t) (va_A ws H.size)) mc ms (va_A ws H.size)) (hT : GoodIn lw_gd (wsV own idx C y (wz y bytes maxL ret))) (hrc : rm.cells = mc) (hrs : rm.slots = ms)
    (hd : y.cls = C ∧ y.cls ≠ "java/lang/invoke/MethodHandle" ∧ y.cls ≠ "java/lang/invoke/VarHandle" ∧ (parseMethodDescriptor y.desc).map (fun d => d.parameters.length) = some n) (hR : rm.frames + 1 ≤ R.frames ∧ 8 + (maxL + 11) + rm.locals ≤ R.locals)
    (hN : NN s) (hK : va_K D vwCl (TY D) s) (hP : va_P D vwCl ws H) (hD : va_D A ws) (hS : va_S A H0 H locs) (hA : ∀ q : Nat, H0.size ≤ q → A q) {ci : Nat} {fs : List Value} {q : vw_C} (q0 : Nat) (he : ws[q0]? = some (b, .inr (ci, fs))) (hc : vwCl[ci]? = some q) (hq : q.1 = C)
    (hn : As.length = n) (hsize : ls.size = nL) (hst : st1 = As.reverse ++ .ref b :: rest) (hW : (rest.map fun v => v.category).sum ≤ 8) (hdg : decode cc pc = .ok (.invokevirtual idx, 3)) (hf : cells + mc ≤ R.cells ∧ slots + ms ≤ R.slots)
    (kk : ∀ (u : Sg) (H : Heap) (locs : List Loc), post u → va_P D vwCl (WB u) H → va_D A (WB u) → va_S A H0 H locs → W p l e R s m args below meth c H locs (cells + mc) (slots + ms) Q (F0 m (pc + 3) ls (.ref (ra u) :: rest))) : W p l e R s m args below meth c H locs cells slots Q (F0 m pc ls st1) := by
  subst hq
  have hFc := y_free hD hS hA
  refine va_callr (va_runV (g := F0 m pc ls st1) (b := b) (As := As) (rest := rest) (Pc := va_Pc (.ref b :: As) (yW D H.size ws)) S hM (cwV n S.2.2.2.2 hT rfl hrc hrs hd hR) ⟨yWb _ D _ _, va_recv hK hP hc he, fun U hU hW => ⟨rfl, ⟨by rw [hU], by rw [hU]; exact hP, va_K.moved hW.alike hK, hD.weaken (fun _ _ _ _ => trivial)⟩, NN.warm hW hN⟩⟩ rfl hn hsize hst (lv_room hW) hdg hf) hS (fun q _ h => hFc q h) hFc (fun u r t H1 locs1 ht hvm hw hB hz1 hk1 hS1 => ?_)
  obtain ⟨rfl, hP1, hK1, hD1⟩ := hB
  rw [ht] at hP1
  exact kk u H1 locs1 hw hP1 (hD1.weaken (fun _ _ _ h => hFc _ h)) hS1
end PU
set_option maxHeartbeats 4000000 in
set_option maxRecDepth 100000 in
theorem k_finish (l : Launch) (D : va_G) (a : Nat → Nat) (p0 p1 : Int) (sz : Nat) (s : MS) (ps : List ((Nat → Nat) × MS)) (ts : List MS) (hts : ps.map Prod.snd = ts) (o : Int × MS × List MS) (h : m_finish p0 p1 s ts = some o) : yU l yX11_finish cX11_finish 4 (some .int) { frames := 5, cells := 9, slots := 795, locals := 300 } D sz [.ref (a 0), .int (i2 p0), .int (i2 p1)] a s ps (i2 o.1) o.2.1 o.2.2 := by
  refine Met.ofW (cc := cX11_finish) (maxL := 4) (ret := (some .int)) (by decide) rfl ?_
  intro p e s₀ m args below meth c s₁ B hml hv
  obtain ⟨rfl, ⟨hsz, hP, hK, hD0⟩, hN⟩ := hv
  have hx := B.exec
  have hb := B.bytes
  have hr := B.returns
  have hat := atoms_spec (ws := wz yX11_finish cX11_finish 4 (some .int)) B.pre
  have ht : ∀ w ∈ lw_gd, w.before _ s₀ = true := fun w h => hat w (List.mem_cons_of_mem _ h)
  have hown : s₀.vm.findClass RX11 = some m.cls := findClass_of_methodNamed B.named
  have hlocks := B.notSynchronized
  subst hsz
  have hD := hD0.self (sz := s₀.heap.size)
  generalize hAe : va_A (XW D a s ps) s₀.heap.size = A at hD ⊢
  have hA : ∀ q : Nat, s₀.heap.size ≤ q → A q := fun q h => by rw [← hAe]; exact Or.inr h
  have hS : va_S A s₀.heap s₀.heap [] := va_S.rf
  have hl := lv_entry ([.ref (a 0), .int (i2 p0), .int (i2 p1)]) (n := 4) (Nat.le_of_ble_eq_true rfl)
  rw [lg_entry_eq]
  generalize (lg_sl ([.ref (a 0), .int (i2 p0), .int (i2 p1)]) ++ List.replicate (4 - (lg_sl ([.ref (a 0), .int (i2 p0), .int (i2 p1)])).length) Slot.unset).toArray = ls at hl ⊢
  have hDD : ∀ t : MS, va_D A (CS D a t ++ PT D (a 90) ps) := fun t => va_D_same hD rfl
  have hl : lv_has ls 4 [(0, .ref (a 0)), (1, .int (i2 p0)), (2, .int (i2 p1))] := hl
  unfold m_finish at h
  obtain ⟨⟨r1, s1⟩, hc1, h⟩ := bn_e h
  obtain ⟨s2, hc2, h⟩ := bn_e h
  obtain ⟨⟨s3, t3⟩, hc3, h⟩ := bn_e h
  obtain rfl := Option.some.inj h
  refine lv_aload_n hx hb eX11_drop_53.2.2.2.2.2.2.2 rfl (lv_at hl 0 rfl) ?_
  refine va_get (D := D) (ci := 11) (v := .ref (a 49)) (C := RX11) (T := TX11) (N := 13) hx hb ht inX11 hown hK hP 0 (ap_g CW_0) rfl 11 (by decide) (ht (.fieldLink RX11 79 "CloneVolumes" "forest" "LCloneVolumes$Forest;") fl_X11_79) (fun _ h9 => h9) rfl eX11_finish_1.1 ?_
  refine ywV (r0 := i2 r1) (As := []) (rest := []) (C := RX1) (n := 0) (ws' := CS D a s1 ++ PT D (a 90) ps) ⟨hx, hb, hml, hown, ht⟩ (yWi_f _ (k_x1_settle l D a _ _ _ hc1)) (zgV ml_X11_353 im_X1_settle se_X1_settle in_X1 co_X1_settle) rfl rfl (by decide +kernel) ⟨Nat.le_of_ble_eq_true rfl, Nat.le_of_ble_eq_true rfl⟩ hN hK hP (hDD _) hS hA 49 (ap_g CW_49) rfl rfl rfl hl.1 rfl (Nat.le_of_ble_eq_true rfl) eX11_finish_1.2.1 ⟨Nat.le_of_ble_eq_true rfl, Nat.le_of_ble_eq_true rfl⟩ (fun H locs hP hS => ?_)
  refine lv_istore_n (lv' := [(3, .int (i2 r1)), (0, .ref (a 0)), (1, .int (i2 p0)), (2, .int (i2 p1))]) hx hb eX11_finish_1.2.2.1 rfl hl (by decide) rfl (fun ls hl => ?_)
  refine lv_aload_n hx hb eX11_finish_1.2.2.2.1 rfl (lv_at hl 1 rfl) ?_
  refine va_get (D := D) (ci := 11) (v := .ref (a 7)) (C := RX11) (T := TX11) (N := 13) hx hb ht inX11 hown hK hP 0 (ap_g CW_0) rfl 2 (by decide) (ht (.fieldLink RX11 28 "CloneVolumes" "history" "LCloneVolumes$History;") fl_X11_28) (fun _ h9 => h9) rfl eX11_finish_1.2.2.2.2.1 ?_
  refine lv_iload_n hx hb eX11_finish_1.2.2.2.2.2.1 rfl (lv_at hl 2 rfl) ?_
  refine lv_iload_n hx hb eX11_finish_1.2.2.2.2.2.2.1 rfl (lv_at hl 3 rfl) ?_
  refine lv_iload_n hx hb eX11_finish_1.2.2.2.2.2.2.2 rfl (lv_at hl 0 rfl) ?_
  refine ywVv (As := [.int (i2 p0), .int (i2 p1), .int (i2 r1)]) (rest := []) (C := RX2) (n := 3) (ws' := CS D a s2 ++ PT D (a 90) ps) ⟨hx, hb, hml, hown, ht⟩ (yWv_f _ (k_x2_keep l D a p0 p1 r1 _ _ _ hc2)) (zgV ml_X11_356 im_X2_keep se_X2_keep in_X2 co_X2_keep) rfl rfl (by decide +kernel) ⟨Nat.le_of_ble_eq_true rfl, Nat.le_of_ble_eq_true rfl⟩ hN hK hP (hDD _) hS hA 7 (ap_g CW_7) rfl rfl rfl hl.1 rfl (Nat.le_of_ble_eq_true rfl) eX11_finish_15.1 ⟨Nat.le_of_ble_eq_true rfl, Nat.le_of_ble_eq_true rfl⟩ (fun H locs hP hS => ?_)
  refine lv_aload_n hx hb eX11_finish_15.2.1 rfl (lv_at hl 1 rfl) ?_
  refine va_get (D := D) (ci := 11) (v := .ref (a 49)) (C := RX11) (T := TX11) (N := 13) hx hb ht inX11 hown hK hP 0 (ap_g CW_0) rfl 11 (by decide) (ht (.fieldLink RX11 79 "CloneVolumes" "forest" "LCloneVolumes$Forest;") fl_X11_79) (fun _ h9 => h9) rfl eX11_finish_15.2.2.1 ?_
  refine lv_aload_n hx hb eX11_finish_15.2.2.2.1 rfl (lv_at hl 1 rfl) ?_
  refine va_get (D := D) (ci := 11) (v := .ref (a 7)) (C := RX11) (T := TX11) (N := 13) hx hb ht inX11 hown hK hP 0 (ap_g CW_0) rfl 2 (by decide) (ht (.fieldLink RX11 28 "CloneVolumes" "history" "LCloneVolumes$History;") fl_X11_28) (fun _ h9 => h9) rfl eX11_finish_15.2.2.2.2.1 ?_
  refine lv_aload_n hx hb eX11_finish_15.2.2.2.2.2.1 rfl (lv_at hl 1 rfl) ?_
  refine va_get (D := D) (ci := 11) (v := .ref (a 49)) (C := RX11) (T := TX11) (N := 13) hx hb ht inX11 hown hK hP 0 (ap_g CW_0) rfl 11 (by decide) (ht (.fieldLink RX11 79 "CloneVolumes" "forest" "LCloneVolumes$Forest;") fl_X11_79) (fun _ h9 => h9) rfl eX11_finish_15.2.2.2.2.2.2.1 ?_
  refine va_get (D := D) (ci := 1) (v := .ref (a 62)) (C := RX1) (T := TX1) (N := 9) hx hb ht inX1 hown hK hP 49 (ap_g CW_49) rfl 1 (by decide) (ht (.fieldLink RX11 360 "CloneVolumes$Forest" "before" "LCloneVolumes$State;") fl_X11_360) (fun _ h9 => h9) rfl eX11_finish_15.2.2.2.2.2.2.2 ?_
  subst hts
  refine ywR (As := [.ref (a 62)]) (rest := [.ref (a 49)]) (C := RX2) (n := 1) (mc := 9) (ms := 795) (ra := fun (u : (Nat → Nat) × List ((Nat → Nat) × MS)) => u.1 62) ⟨hx, hb, hml, hown, ht⟩ (k_remember l D a _ s2 ps (s3, t3) hc3) (zgV ml_X11_363 im_X2_remember se_X2_remember in_X2 co_X2_remember) rfl rfl (by decide +kernel) ⟨Nat.le_of_ble_eq_true rfl, Nat.le_of_ble_eq_true rfl⟩ hN hK hP (hDD _) hS hA 7 (ap_g CW_7) rfl rfl rfl hl.1 rfl (Nat.le_of_ble_eq_true rfl) eX11_finish_33.1 ⟨Nat.le_of_ble_eq_true rfl, Nat.le_of_ble_eq_true rfl⟩ (fun u H locs hw hP hD hS => ?_)
  obtain ⟨hu, hts⟩ := hw
  obtain ⟨a2, ps2⟩ := u
  have hu : ∀ k, (k < 62 ∨ 70 < k) → a2 k = a k := hu
  have hts : ps2.map Prod.snd = t3 := hts
  have hP : va_P D vwCl (CW D a2 (.ref (a 29)) (.ref (a 29)) (.ref (a 39)) (.ref (a 62)) s3 ++ PT D (a 90) ps2) H := hP
  have hD : va_D A (CW D a2 (.ref (a 29)) (.ref (a 29)) (.ref (a 39)) (.ref (a 62)) s3 ++ PT D (a 90) ps2) := hD
  rw [← hu 29 (by decide), ← hu 39 (by decide), ← hu 90 (by decide)] at hP hD
  rw [← hu 0 (by decide)] at hl
  rw [show (Value.ref (a 49)) = Value.ref (a2 49) by rw [hu 49 (by decide)]]
  refine ya_put (D := D) (ci := 1) (v := .ref (a2 62)) (ty := .object "CloneVolumes$State") (C := RX1) (T := TX1) (N := 9) hx hb ht inX1 tyX1 tyX1_ok nmX1 hown hK hP hD hS 49 (ap_g CW_49) rfl 1 (by decide) (ht (.fieldLink RX11 360 "CloneVolumes$Forest" "before" "LCloneVolumes$State;") fl_X11_360) (fun _ h9 => h9) rfl (by decide +kernel) rfl rfl (Nat.le_of_ble_eq_true rfl) eX11_finish_33.2.1 (ap_s CW_49 (CW_w49_1 _)) (fun H locs hP hS => ?_)
  refine lv_iload_n hx hb eX11_finish_33.2.2.1 rfl (lv_at hl 0 rfl) ?_
  exact W.iret (v := i2 r1) hx hb hr (fun t ht hW => ⟨⟨_, (a2, ps2), rfl, ⟨rfl, hu, hts⟩, by rw [ht]; exact hP, va_K.moved hW.alike hK, va_D_same hD rfl⟩, hS.F ht⟩) hS.2.2 eX11_finish_33.2.2.2.1
set_option maxHeartbeats 4000000 in
set_option maxRecDepth 100000 in
theorem k_x11_put (l : Launch) (D : va_G) (a0 : Nat → Nat) (p0 : Int) (p1 : Int) (p2 : Int) (sz : Nat) (s : MS) (ps : List ((Nat → Nat) × MS)) (ts : List MS) (hts : ps.map Prod.snd = ts) (o : Int × MS × List MS) (h : m_x11_put ts p0 p1 p2 s = some o) : yU l yX11_put cX11_put 4 (some .int) { frames := 6, cells := 9, slots := 795, locals := 360 } D sz [.ref (a0 0), .int (i2 p0), .int (i2 p1), .int (i2 p2)] a0 s ps (i2 o.1) o.2.1 o.2.2 := by
  refine Met.ofW (cc := cX11_put) (maxL := 4) (ret := (some .int)) (by decide) rfl ?_
  intro p e s₀ m args below meth c s₁ B hml hv
  obtain ⟨rfl, ⟨hsz, hP, hK, hD0⟩, hN⟩ := hv
  have hx := B.exec
  have hb := B.bytes
  have hr := B.returns
  have hat := atoms_spec (ws := wz yX11_put cX11_put 4 (some .int)) B.pre
  have ht : ∀ w ∈ lw_gd, w.before _ s₀ = true := fun w h => hat w (List.mem_cons_of_mem _ h)
  have hown : s₀.vm.findClass RX11 = some m.cls := findClass_of_methodNamed B.named
  have hlocks := B.notSynchronized
  subst hsz
  have hD := hD0.self (sz := s₀.heap.size)
  generalize hAe : va_A (XW D a0 s ps) s₀.heap.size = A at hD ⊢
  have hA : ∀ q : Nat, s₀.heap.size ≤ q → A q := fun q h => by rw [← hAe]; exact Or.inr h
  have hS : va_S A s₀.heap s₀.heap [] := va_S.rf
  have hl := lv_entry ([.ref (a0 0), .int (i2 p0), .int (i2 p1), .int (i2 p2)]) (n := 4) (Nat.le_of_ble_eq_true rfl)
  rw [lg_entry_eq]
  generalize (lg_sl ([.ref (a0 0), .int (i2 p0), .int (i2 p1), .int (i2 p2)]) ++ List.replicate (4 - (lg_sl ([.ref (a0 0), .int (i2 p0), .int (i2 p1), .int (i2 p2)])).length) Slot.unset).toArray = ls at hl ⊢
  obtain ⟨a, ha⟩ : ∃ a : Nat → Nat, a = a0 := ⟨a0, rfl⟩
  rw [← ha] at hP hD hl
  have hu : ∀ k, (k < 62 ∨ 70 < k) → a k = a0 k := fun k _ => by rw [ha]
  have hDD : ∀ t : MS, va_D A (CS D a t ++ PT D (a 90) ps) := fun t => va_D_same hD rfl
  have hl : lv_has ls 4 [(0, .ref (a 0)), (1, .int (i2 p0)), (2, .int (i2 p1)), (3, .int (i2 p2))] := hl
  clear ha
  unfold m_x11_put at h
  refine y_head (pcJ := 28) (σ := MS) (fun u H locs ls => va_P D vwCl (CS D a u ++ PT D (a 90) ps) H ∧ va_S A s₀.heap H locs ∧ lv_has ls 4 [(0, .ref (a 0))] ∧ m_x11_put_J28 ts u = some o) (fun u => []) (fun u H locs ls hI => ?_) (fun J28 => ?_)
  · obtain ⟨hP, hS, hl, h⟩ := hI
    obtain ⟨s1, rfl⟩ : ∃ z, z = u := ⟨u, rfl⟩
    have hP : va_P D vwCl (CS D a s1 ++ PT D (a 90) ps) H := hP
    have hl : lv_has ls 4 [(0, .ref (a 0))] := hl
    have h : m_x11_put_J28 ts s1 = some o := h
    unfold m_x11_put_J28 at h
    refine lv_aload_n hx hb eX11_put_28.1 rfl (lv_at hl 0 rfl) ?_
    refine lv_iconst (v := 2) hx hb eX11_put_28.2.1 (by decide) ?_
    obtain ⟨⟨r4, s3⟩, hc2, h⟩ := bn_e h
    refine ywV (r0 := i2 r4) (As := [.int 2]) (rest := []) (C := RX11) (n := 1) (ws' := CS D a s3 ++ PT D (a 90) ps) ⟨hx, hb, hml, hown, ht⟩ (yWi_f _ (k_x11_refuse l D a 2 _ _ _ hc2)) (zgV ml_X11_87 im_X11_refuse se_X11_refuse in_X11 co_X11_refuse) rfl rfl (by decide +kernel) ⟨Nat.le_of_ble_eq_true rfl, Nat.le_of_ble_eq_true rfl⟩ hN hK hP (hDD _) hS hA 0 (ap_g CW_0) rfl rfl rfl hl.1 rfl (Nat.le_of_ble_eq_true rfl) eX11_put_28.2.2.1 ⟨Nat.le_of_ble_eq_true rfl, Nat.le_of_ble_eq_true rfl⟩ (fun H locs hP hS => ?_)
    obtain rfl := Option.some.inj h
    refine W.widen (k := 9) (n := 795) (Nat.le_of_ble_eq_true rfl) (Nat.le_of_ble_eq_true rfl) ?_
    exact W.iret (v := (i2 r4)) hx hb hr (fun t ht hW => ⟨⟨_, (a, ps), rfl, ⟨rfl, hu, hts⟩, by rw [ht]; exact hP, va_K.moved hW.alike hK, hDD _⟩, hS.F ht⟩) hS.2.2 eX11_put_28.2.2.2.1
  refine lv_aload_n hx hb eX11_finish_33.2.2.2.2.1 rfl (lv_at hl 0 rfl) ?_
  refine va_get (D := D) (ci := 11) (v := .ref (a 49)) (C := RX11) (T := TX11) (N := 13) hx hb ht inX11 hown hK hP 0 (ap_g CW_0) rfl 11 (by decide) (ht (.fieldLink RX11 79 "CloneVolumes" "forest" "LCloneVolumes$Forest;") fl_X11_79) (fun _ h9 => h9) rfl eX11_finish_33.2.2.2.2.2.1 ?_
  refine va_get (D := D) (ci := 1) (v := .ref (a 53)) (C := RX1) (T := TX1) (N := 9) hx hb ht inX1 hown hK hP 49 (ap_g CW_49) rfl 0 (by decide) (ht (.fieldLink RX11 125 "CloneVolumes$Forest" "now" "LCloneVolumes$State;") fl_X11_125) (fun _ h9 => h9) rfl eX11_finish_33.2.2.2.2.2.2.1 ?_
  refine lv_iload_n hx hb eX11_finish_33.2.2.2.2.2.2.2 rfl (lv_at hl 1 rfl) ?_
  obtain ⟨r6, hc5, h⟩ := bn_e h
  refine ycV (r0 := i2 r6) (As := [.int (i2 p0)]) (rest := []) (C := RX8) (n := 1) ⟨hx, hb, hml, hown, ht⟩ (yRi_f _ (k_x8_isVolume l D a p0 _ _ hc5)) (zgV ml_X11_161 im_X8_isVolume se_X8_isVolume in_X8 co_X8_isVolume) rfl rfl (by decide +kernel) ⟨Nat.le_of_ble_eq_true rfl, Nat.le_of_ble_eq_true rfl⟩ hN hK hP hS 53 (ap_g CW_53) rfl rfl rfl hl.1 rfl (Nat.le_of_ble_eq_true rfl) eX11_put_8.1 ⟨Nat.le_of_ble_eq_true rfl, Nat.le_of_ble_eq_true rfl⟩ (fun H locs hP hS => ?_)
  obtain ⟨hr7, h⟩ := rg_e h
  refine lv_if_eq (tgt := 28) hx hb eX11_put_8.2.1 (by decide) (fun c8 => ?_) (fun c8 => ?_)
  · have h := if_t ((i2_eq (x := r6) (y := 0) hr7 (by decide)).mp c8) h
    exact J28 s _ _ _ ⟨hP, hS, lv_sub hl [0] rfl, h⟩
  · have h := if_f (mt (i2_eq (x := r6) (y := 0) hr7 (by decide)).mpr c8) h
    refine lv_iload_n hx hb eX11_put_8.2.2.1 rfl (lv_at hl 2 rfl) ?_
    obtain ⟨r10, hc9, h⟩ := bn_e h
    refine ycS (r0 := i2 r10) (As := [.int (i2 p1)]) (rest := []) (n := 1) ⟨hx, hb, hml, hown, ht⟩ (yRi_f _ (k_x11_isKey l D a p1 _ _ hc9)) (zgT ml_X11_227 st_X11_isKey in_X11 co_X11_isKey) rfl rfl (by decide +kernel) ⟨Nat.le_of_ble_eq_true rfl, Nat.le_of_ble_eq_true rfl⟩ hN hK hP hS rfl hl.1 rfl (Nat.le_of_ble_eq_true rfl) eX11_put_8.2.2.2.1 ⟨Nat.le_of_ble_eq_true rfl, Nat.le_of_ble_eq_true rfl⟩ (fun H locs hP hS => ?_)
    obtain ⟨hr11, h⟩ := rg_e h
    refine lv_if_eq (tgt := 28) hx hb eX11_put_8.2.2.2.2.1 (by decide) (fun c12 => ?_) (fun c12 => ?_)
    · have h := if_t ((i2_eq (x := r10) (y := 0) hr11 (by decide)).mp c12) h
      exact J28 s _ _ _ ⟨hP, hS, lv_sub hl [0] rfl, h⟩
    · have h := if_f (mt (i2_eq (x := r10) (y := 0) hr11 (by decide)).mpr c12) h
      refine lv_iload_n hx hb eX11_put_8.2.2.2.2.2.1 rfl (lv_at hl 3 rfl) ?_
      obtain ⟨r14, hc13, h⟩ := bn_e h
      refine ycS (r0 := i2 r14) (As := [.int (i2 p2)]) (rest := []) (n := 1) ⟨hx, hb, hml, hown, ht⟩ (yRi_f _ (k_x11_isKey l D a p2 _ _ hc13)) (zgT ml_X11_227 st_X11_isKey in_X11 co_X11_isKey) rfl rfl (by decide +kernel) ⟨Nat.le_of_ble_eq_true rfl, Nat.le_of_ble_eq_true rfl⟩ hN hK hP hS rfl hl.1 rfl (Nat.le_of_ble_eq_true rfl) eX11_put_8.2.2.2.2.2.2.1 ⟨Nat.le_of_ble_eq_true rfl, Nat.le_of_ble_eq_true rfl⟩ (fun H locs hP hS => ?_)
      obtain ⟨hr15, h⟩ := rg_e h
      refine lv_if_ne (tgt := 34) hx hb eX11_put_8.2.2.2.2.2.2.2 (by decide) (fun c16 => ?_) (fun c16 => ?_)
      · have h := if_f (mt (i2_eq (x := r14) (y := 0) hr15 (by decide)).mpr c16) h
        refine lv_aload_n hx hb eX11_put_28.2.2.2.2.1 rfl (lv_at hl 0 rfl) ?_
        refine va_get (D := D) (ci := 11) (v := .ref (a 49)) (C := RX11) (T := TX11) (N := 13) hx hb ht inX11 hown hK hP 0 (ap_g CW_0) rfl 11 (by decide) (ht (.fieldLink RX11 79 "CloneVolumes" "forest" "LCloneVolumes$Forest;") fl_X11_79) (fun _ h9 => h9) rfl eX11_put_28.2.2.2.2.2.1 ?_
        obtain ⟨s18, hc17, h⟩ := bn_e h
        refine ywVv (As := []) (rest := []) (C := RX1) (n := 0) (ws' := CS D a s18 ++ PT D (a 90) ps) ⟨hx, hb, hml, hown, ht⟩ (yWv_f _ (k_x1_begin l D a _ _ _ hc17)) (zgV ml_X11_272 im_X1_begin se_X1_begin in_X1 co_X1_begin) rfl rfl (by decide +kernel) ⟨Nat.le_of_ble_eq_true rfl, Nat.le_of_ble_eq_true rfl⟩ hN hK hP (hDD _) hS hA 49 (ap_g CW_49) rfl rfl rfl hl.1 rfl (Nat.le_of_ble_eq_true rfl) eX11_put_28.2.2.2.2.2.2.1 ⟨Nat.le_of_ble_eq_true rfl, Nat.le_of_ble_eq_true rfl⟩ (fun H locs hP hS => ?_)
        refine lv_aload_n hx hb eX11_put_28.2.2.2.2.2.2.2 rfl (lv_at hl 0 rfl) ?_
        refine va_get (D := D) (ci := 11) (v := .ref (a 49)) (C := RX11) (T := TX11) (N := 13) hx hb ht inX11 hown hK hP 0 (ap_g CW_0) rfl 11 (by decide) (ht (.fieldLink RX11 79 "CloneVolumes" "forest" "LCloneVolumes$Forest;") fl_X11_79) (fun _ h9 => h9) rfl eX11_put_42.1 ?_
        refine lv_iload_n hx hb eX11_put_42.2.1 rfl (lv_at hl 1 rfl) ?_
        refine lv_iload_n hx hb eX11_put_42.2.2.1 rfl (lv_at hl 2 rfl) ?_
        refine lv_iload_n hx hb eX11_put_42.2.2.2.1 rfl (lv_at hl 3 rfl) ?_
        obtain ⟨⟨r21, s20⟩, hc19, h⟩ := bn_e h
        refine ywV (r0 := i2 r21) (As := [.int (i2 p0), .int (i2 p1), .int (i2 p2)]) (rest := []) (C := RX1) (n := 3) (ws' := CS D a s20 ++ PT D (a 90) ps) ⟨hx, hb, hml, hown, ht⟩ (yWi_f _ (k_x1_tryPlant l D a p0 p1 p2 _ _ _ hc19)) (zgV ml_X11_275 im_X1_tryPlant se_X1_tryPlant in_X1 co_X1_tryPlant) rfl rfl (by decide +kernel) ⟨Nat.le_of_ble_eq_true rfl, Nat.le_of_ble_eq_true rfl⟩ hN hK hP (hDD _) hS hA 49 (ap_g CW_49) rfl rfl rfl hl.1 rfl (Nat.le_of_ble_eq_true rfl) eX11_put_42.2.2.2.2.1 ⟨Nat.le_of_ble_eq_true rfl, Nat.le_of_ble_eq_true rfl⟩ (fun H locs hP hS => ?_)
        obtain ⟨hr22, h⟩ := rg_e h
        refine lv_if_ne (tgt := 60) hx hb eX11_put_42.2.2.2.2.2.1 (by decide) (fun c23 => ?_) (fun c23 => ?_)
        · have h := if_f (mt (i2_eq (x := r21) (y := 0) hr22 (by decide)).mpr c23) h
          refine lv_aload_n hx hb eX11_put_56.2.2.1 rfl (lv_at hl 0 rfl) ?_
          refine lv_iconst (v := 0) hx hb eX11_put_56.2.2.2.1 (by decide) ?_
          refine lv_iload_n hx hb eX11_put_56.2.2.2.2.1 rfl (lv_at hl 1 rfl) ?_
          obtain ⟨⟨r25, s26, t27⟩, hc24, h⟩ := bn_e h
          refine ywU (r0 := i2 r25) (As := [.int 0, .int (i2 p0)]) (rest := []) (C := RX11) (n := 2) ⟨hx, hb, hml, hown, ht⟩ (k_finish l D a 0 p0 _ _ ps ts hts _ hc24) (zgV ml_X11_279 im_X11_finish se_X11_finish in_X11 co_X11_finish) rfl rfl (by decide +kernel) ⟨Nat.le_of_ble_eq_true rfl, Nat.le_of_ble_eq_true rfl⟩ hN hK hP (hDD _) hS hA 0 (ap_g CW_0) rfl rfl rfl hl.1 rfl (Nat.le_of_ble_eq_true rfl) eX11_put_56.2.2.2.2.2.1 ⟨Nat.le_of_ble_eq_true rfl, Nat.le_of_ble_eq_true rfl⟩ (fun u H locs hu2 hts2 hP hD hS => ?_)
          have hu3 : ∀ k, (k < 62 ∨ 70 < k) → u.1 k = a0 k := fun k hk => (hu2 k hk).trans (hu k hk)
          rw [← hu2 0 (by decide)] at hl
          clear hu2 hu hts hDD
          obtain ⟨a, ps⟩ := u
          have hu : ∀ k, (k < 62 ∨ 70 < k) → a k = a0 k := hu3
          have hts : ps.map Prod.snd = t27 := hts2
          have hl : lv_has ls 4 [(0, .ref (a 0)), (1, .int (i2 p0)), (2, .int (i2 p1)), (3, .int (i2 p2))] := hl
          have hP : va_P D vwCl (CS D a s26 ++ PT D (a 90) ps) H := hP
          have hDD : ∀ t : MS, va_D A (CS D a t ++ PT D (a 90) ps) := fun t => va_D_same hD rfl
          obtain rfl := Option.some.inj h
          refine W.widen (k := 9) (n := 795) (Nat.le_of_ble_eq_true rfl) (Nat.le_of_ble_eq_true rfl) ?_
          exact W.iret (v := (i2 r25)) hx hb hr (fun t ht hW => ⟨⟨_, (a, ps), rfl, ⟨rfl, hu, hts⟩, by rw [ht]; exact hP, va_K.moved hW.alike hK, hDD _⟩, hS.F ht⟩) hS.2.2 eX11_put_56.2.2.2.2.2.2.1
        · have h := if_t ((i2_eq (x := r21) (y := 0) hr22 (by decide)).mp c23) h
          refine lv_aload_n hx hb eX11_put_42.2.2.2.2.2.2.1 rfl (lv_at hl 0 rfl) ?_
          refine lv_iconst (v := 2) hx hb eX11_put_42.2.2.2.2.2.2.2 (by decide) ?_
          obtain ⟨⟨r30, s29⟩, hc28, h⟩ := bn_e h
          refine ywV (r0 := i2 r30) (As := [.int 2]) (rest := []) (C := RX11) (n := 1) (ws' := CS D a s29 ++ PT D (a 90) ps) ⟨hx, hb, hml, hown, ht⟩ (yWi_f _ (k_x11_refuse l D a 2 _ _ _ hc28)) (zgV ml_X11_87 im_X11_refuse se_X11_refuse in_X11 co_X11_refuse) rfl rfl (by decide +kernel) ⟨Nat.le_of_ble_eq_true rfl, Nat.le_of_ble_eq_true rfl⟩ hN hK hP (hDD _) hS hA 0 (ap_g CW_0) rfl rfl rfl hl.1 rfl (Nat.le_of_ble_eq_true rfl) eX11_put_56.1 ⟨Nat.le_of_ble_eq_true rfl, Nat.le_of_ble_eq_true rfl⟩ (fun H locs hP hS => ?_)
          obtain rfl := Option.some.inj h
          refine W.widen (k := 9) (n := 795) (Nat.le_of_ble_eq_true rfl) (Nat.le_of_ble_eq_true rfl) ?_
          exact W.iret (v := (i2 r30)) hx hb hr (fun t ht hW => ⟨⟨_, (a, ps), rfl, ⟨rfl, hu, hts⟩, by rw [ht]; exact hP, va_K.moved hW.alike hK, hDD _⟩, hS.F ht⟩) hS.2.2 eX11_put_56.2.1
      · have h := if_t ((i2_eq (x := r14) (y := 0) hr15 (by decide)).mp c16) h
        exact J28 s _ _ _ ⟨hP, hS, lv_sub hl [0] rfl, h⟩
set_option maxHeartbeats 4000000 in
set_option maxRecDepth 100000 in
theorem k_x11_remove (l : Launch) (D : va_G) (a0 : Nat → Nat) (p0 : Int) (p1 : Int) (sz : Nat) (s : MS) (ps : List ((Nat → Nat) × MS)) (ts : List MS) (hts : ps.map Prod.snd = ts) (o : Int × MS × List MS) (h : m_x11_remove ts p0 p1 s = some o) : yU l yX11_remove cX11_remove 3 (some .int) { frames := 6, cells := 9, slots := 795, locals := 360 } D sz [.ref (a0 0), .int (i2 p0), .int (i2 p1)] a0 s ps (i2 o.1) o.2.1 o.2.2 := by
  refine Met.ofW (cc := cX11_remove) (maxL := 3) (ret := (some .int)) (by decide) rfl ?_
  intro p e s₀ m args below meth c s₁ B hml hv
  obtain ⟨rfl, ⟨hsz, hP, hK, hD0⟩, hN⟩ := hv
  have hx := B.exec
  have hb := B.bytes
  have hr := B.returns
  have hat := atoms_spec (ws := wz yX11_remove cX11_remove 3 (some .int)) B.pre
  have ht : ∀ w ∈ lw_gd, w.before _ s₀ = true := fun w h => hat w (List.mem_cons_of_mem _ h)
  have hown : s₀.vm.findClass RX11 = some m.cls := findClass_of_methodNamed B.named
  have hlocks := B.notSynchronized
  subst hsz
  have hD := hD0.self (sz := s₀.heap.size)
  generalize hAe : va_A (XW D a0 s ps) s₀.heap.size = A at hD ⊢
  have hA : ∀ q : Nat, s₀.heap.size ≤ q → A q := fun q h => by rw [← hAe]; exact Or.inr h
  have hS : va_S A s₀.heap s₀.heap [] := va_S.rf
  have hl := lv_entry ([.ref (a0 0), .int (i2 p0), .int (i2 p1)]) (n := 3) (Nat.le_of_ble_eq_true rfl)
  rw [lg_entry_eq]
  generalize (lg_sl ([.ref (a0 0), .int (i2 p0), .int (i2 p1)]) ++ List.replicate (3 - (lg_sl ([.ref (a0 0), .int (i2 p0), .int (i2 p1)])).length) Slot.unset).toArray = ls at hl ⊢
  obtain ⟨a, ha⟩ : ∃ a : Nat → Nat, a = a0 := ⟨a0, rfl⟩
  rw [← ha] at hP hD hl
  have hu : ∀ k, (k < 62 ∨ 70 < k) → a k = a0 k := fun k _ => by rw [ha]
  have hDD : ∀ t : MS, va_D A (CS D a t ++ PT D (a 90) ps) := fun t => va_D_same hD rfl
  have hl : lv_has ls 3 [(0, .ref (a 0)), (1, .int (i2 p0)), (2, .int (i2 p1))] := hl
  clear ha
  unfold m_x11_remove at h
  refine lv_aload_n hx hb eX11_put_56.2.2.2.2.2.2.2 rfl (lv_at hl 0 rfl) ?_
  refine va_get (D := D) (ci := 11) (v := .ref (a 49)) (C := RX11) (T := TX11) (N := 13) hx hb ht inX11 hown hK hP 0 (ap_g CW_0) rfl 11 (by decide) (ht (.fieldLink RX11 79 "CloneVolumes" "forest" "LCloneVolumes$Forest;") fl_X11_79) (fun _ h9 => h9) rfl eX11_remove_1.1 ?_
  refine va_get (D := D) (ci := 1) (v := .ref (a 53)) (C := RX1) (T := TX1) (N := 9) hx hb ht inX1 hown hK hP 49 (ap_g CW_49) rfl 0 (by decide) (ht (.fieldLink RX11 125 "CloneVolumes$Forest" "now" "LCloneVolumes$State;") fl_X11_125) (fun _ h9 => h9) rfl eX11_remove_1.2.1 ?_
  refine lv_iload_n hx hb eX11_remove_1.2.2.1 rfl (lv_at hl 1 rfl) ?_
  obtain ⟨r2, hc1, h⟩ := bn_e h
  refine ycV (r0 := i2 r2) (As := [.int (i2 p0)]) (rest := []) (C := RX8) (n := 1) ⟨hx, hb, hml, hown, ht⟩ (yRi_f _ (k_x8_isVolume l D a p0 _ _ hc1)) (zgV ml_X11_161 im_X8_isVolume se_X8_isVolume in_X8 co_X8_isVolume) rfl rfl (by decide +kernel) ⟨Nat.le_of_ble_eq_true rfl, Nat.le_of_ble_eq_true rfl⟩ hN hK hP hS 53 (ap_g CW_53) rfl rfl rfl hl.1 rfl (Nat.le_of_ble_eq_true rfl) eX11_remove_1.2.2.2.1 ⟨Nat.le_of_ble_eq_true rfl, Nat.le_of_ble_eq_true rfl⟩ (fun H locs hP hS => ?_)
  obtain ⟨hr3, h⟩ := rg_e h
  refine lv_if_ne (tgt := 20) hx hb eX11_remove_1.2.2.2.2.1 (by decide) (fun c4 => ?_) (fun c4 => ?_)
  · have h := if_f (mt (i2_eq (x := r2) (y := 0) hr3 (by decide)).mpr c4) h
    refine lv_aload_n hx hb eX11_remove_19.2.1 rfl (lv_at hl 0 rfl) ?_
    refine va_get (D := D) (ci := 11) (v := .ref (a 49)) (C := RX11) (T := TX11) (N := 13) hx hb ht inX11 hown hK hP 0 (ap_g CW_0) rfl 11 (by decide) (ht (.fieldLink RX11 79 "CloneVolumes" "forest" "LCloneVolumes$Forest;") fl_X11_79) (fun _ h9 => h9) rfl eX11_remove_19.2.2.1 ?_
    obtain ⟨s6, hc5, h⟩ := bn_e h
    refine ywVv (As := []) (rest := []) (C := RX1) (n := 0) (ws' := CS D a s6 ++ PT D (a 90) ps) ⟨hx, hb, hml, hown, ht⟩ (yWv_f _ (k_x1_begin l D a _ _ _ hc5)) (zgV ml_X11_272 im_X1_begin se_X1_begin in_X1 co_X1_begin) rfl rfl (by decide +kernel) ⟨Nat.le_of_ble_eq_true rfl, Nat.le_of_ble_eq_true rfl⟩ hN hK hP (hDD _) hS hA 49 (ap_g CW_49) rfl rfl rfl hl.1 rfl (Nat.le_of_ble_eq_true rfl) eX11_remove_19.2.2.2.1 ⟨Nat.le_of_ble_eq_true rfl, Nat.le_of_ble_eq_true rfl⟩ (fun H locs hP hS => ?_)
    refine lv_aload_n hx hb eX11_remove_19.2.2.2.2.1 rfl (lv_at hl 0 rfl) ?_
    refine va_get (D := D) (ci := 11) (v := .ref (a 49)) (C := RX11) (T := TX11) (N := 13) hx hb ht inX11 hown hK hP 0 (ap_g CW_0) rfl 11 (by decide) (ht (.fieldLink RX11 79 "CloneVolumes" "forest" "LCloneVolumes$Forest;") fl_X11_79) (fun _ h9 => h9) rfl eX11_remove_19.2.2.2.2.2.1 ?_
    refine lv_iload_n hx hb eX11_remove_19.2.2.2.2.2.2.1 rfl (lv_at hl 1 rfl) ?_
    refine lv_iload_n hx hb eX11_remove_19.2.2.2.2.2.2.2 rfl (lv_at hl 2 rfl) ?_
    obtain ⟨⟨r9, s8⟩, hc7, h⟩ := bn_e h
    refine ywV (r0 := i2 r9) (As := [.int (i2 p0), .int (i2 p1)]) (rest := []) (C := RX1) (n := 2) (ws' := CS D a s8 ++ PT D (a 90) ps) ⟨hx, hb, hml, hown, ht⟩ (yWi_f _ (k_x1_tryUproot l D a p0 p1 _ _ _ hc7)) (zgV ml_X11_282 im_X1_tryUproot se_X1_tryUproot in_X1 co_X1_tryUproot) rfl rfl (by decide +kernel) ⟨Nat.le_of_ble_eq_true rfl, Nat.le_of_ble_eq_true rfl⟩ hN hK hP (hDD _) hS hA 49 (ap_g CW_49) rfl rfl rfl hl.1 rfl (Nat.le_of_ble_eq_true rfl) eX11_remove_33.1 ⟨Nat.le_of_ble_eq_true rfl, Nat.le_of_ble_eq_true rfl⟩ (fun H locs hP hS => ?_)
    obtain ⟨hr10, h⟩ := rg_e h
    refine lv_if_ne (tgt := 45) hx hb eX11_remove_33.2.1 (by decide) (fun c11 => ?_) (fun c11 => ?_)
    · have h := if_f (mt (i2_eq (x := r9) (y := 0) hr10 (by decide)).mpr c11) h
      refine lv_aload_n hx hb eX11_remove_33.2.2.2.2.2.2.1 rfl (lv_at hl 0 rfl) ?_
      refine lv_iconst (v := 1) hx hb eX11_remove_33.2.2.2.2.2.2.2 (by decide) ?_
      refine lv_iload_n hx hb eX11_remove_47.1 rfl (lv_at hl 1 rfl) ?_
      obtain ⟨⟨r13, s14, t15⟩, hc12, h⟩ := bn_e h
      refine ywU (r0 := i2 r13) (As := [.int 1, .int (i2 p0)]) (rest := []) (C := RX11) (n := 2) ⟨hx, hb, hml, hown, ht⟩ (k_finish l D a 1 p0 _ _ ps ts hts _ hc12) (zgV ml_X11_279 im_X11_finish se_X11_finish in_X11 co_X11_finish) rfl rfl (by decide +kernel) ⟨Nat.le_of_ble_eq_true rfl, Nat.le_of_ble_eq_true rfl⟩ hN hK hP (hDD _) hS hA 0 (ap_g CW_0) rfl rfl rfl hl.1 rfl (Nat.le_of_ble_eq_true rfl) eX11_remove_47.2.1 ⟨Nat.le_of_ble_eq_true rfl, Nat.le_of_ble_eq_true rfl⟩ (fun u H locs hu2 hts2 hP hD hS => ?_)
      have hu3 : ∀ k, (k < 62 ∨ 70 < k) → u.1 k = a0 k := fun k hk => (hu2 k hk).trans (hu k hk)
      rw [← hu2 0 (by decide)] at hl
      clear hu2 hu hts hDD
      obtain ⟨a, ps⟩ := u
      have hu : ∀ k, (k < 62 ∨ 70 < k) → a k = a0 k := hu3
      have hts : ps.map Prod.snd = t15 := hts2
      have hl : lv_has ls 3 [(0, .ref (a 0)), (1, .int (i2 p0)), (2, .int (i2 p1))] := hl
      have hP : va_P D vwCl (CS D a s14 ++ PT D (a 90) ps) H := hP
      have hDD : ∀ t : MS, va_D A (CS D a t ++ PT D (a 90) ps) := fun t => va_D_same hD rfl
      obtain rfl := Option.some.inj h
      refine W.widen (k := 9) (n := 795) (Nat.le_of_ble_eq_true rfl) (Nat.le_of_ble_eq_true rfl) ?_
      exact W.iret (v := (i2 r13)) hx hb hr (fun t ht hW => ⟨⟨_, (a, ps), rfl, ⟨rfl, hu, hts⟩, by rw [ht]; exact hP, va_K.moved hW.alike hK, hDD _⟩, hS.F ht⟩) hS.2.2 eX11_remove_47.2.2.1
    · have h := if_t ((i2_eq (x := r9) (y := 0) hr10 (by decide)).mp c11) h
      refine lv_aload_n hx hb eX11_remove_33.2.2.1 rfl (lv_at hl 0 rfl) ?_
      refine lv_iconst (v := 2) hx hb eX11_remove_33.2.2.2.1 (by decide) ?_
      obtain ⟨⟨r18, s17⟩, hc16, h⟩ := bn_e h
      refine ywV (r0 := i2 r18) (As := [.int 2]) (rest := []) (C := RX11) (n := 1) (ws' := CS D a s17 ++ PT D (a 90) ps) ⟨hx, hb, hml, hown, ht⟩ (yWi_f _ (k_x11_refuse l D a 2 _ _ _ hc16)) (zgV ml_X11_87 im_X11_refuse se_X11_refuse in_X11 co_X11_refuse) rfl rfl (by decide +kernel) ⟨Nat.le_of_ble_eq_true rfl, Nat.le_of_ble_eq_true rfl⟩ hN hK hP (hDD _) hS hA 0 (ap_g CW_0) rfl rfl rfl hl.1 rfl (Nat.le_of_ble_eq_true rfl) eX11_remove_33.2.2.2.2.1 ⟨Nat.le_of_ble_eq_true rfl, Nat.le_of_ble_eq_true rfl⟩ (fun H locs hP hS => ?_)
      obtain rfl := Option.some.inj h
      refine W.widen (k := 9) (n := 795) (Nat.le_of_ble_eq_true rfl) (Nat.le_of_ble_eq_true rfl) ?_
      exact W.iret (v := (i2 r18)) hx hb hr (fun t ht hW => ⟨⟨_, (a, ps), rfl, ⟨rfl, hu, hts⟩, by rw [ht]; exact hP, va_K.moved hW.alike hK, hDD _⟩, hS.F ht⟩) hS.2.2 eX11_remove_33.2.2.2.2.2.1
  · have h := if_t ((i2_eq (x := r2) (y := 0) hr3 (by decide)).mp c4) h
    refine lv_aload_n hx hb eX11_remove_1.2.2.2.2.2.1 rfl (lv_at hl 0 rfl) ?_
    refine lv_iconst (v := 2) hx hb eX11_remove_1.2.2.2.2.2.2.1 (by decide) ?_
    obtain ⟨⟨r21, s20⟩, hc19, h⟩ := bn_e h
    refine ywV (r0 := i2 r21) (As := [.int 2]) (rest := []) (C := RX11) (n := 1) (ws' := CS D a s20 ++ PT D (a 90) ps) ⟨hx, hb, hml, hown, ht⟩ (yWi_f _ (k_x11_refuse l D a 2 _ _ _ hc19)) (zgV ml_X11_87 im_X11_refuse se_X11_refuse in_X11 co_X11_refuse) rfl rfl (by decide +kernel) ⟨Nat.le_of_ble_eq_true rfl, Nat.le_of_ble_eq_true rfl⟩ hN hK hP (hDD _) hS hA 0 (ap_g CW_0) rfl rfl rfl hl.1 rfl (Nat.le_of_ble_eq_true rfl) eX11_remove_1.2.2.2.2.2.2.2 ⟨Nat.le_of_ble_eq_true rfl, Nat.le_of_ble_eq_true rfl⟩ (fun H locs hP hS => ?_)
    obtain rfl := Option.some.inj h
    refine W.widen (k := 9) (n := 795) (Nat.le_of_ble_eq_true rfl) (Nat.le_of_ble_eq_true rfl) ?_
    exact W.iret (v := (i2 r21)) hx hb hr (fun t ht hW => ⟨⟨_, (a, ps), rfl, ⟨rfl, hu, hts⟩, by rw [ht]; exact hP, va_K.moved hW.alike hK, hDD _⟩, hS.F ht⟩) hS.2.2 eX11_remove_19.1
set_option maxHeartbeats 4000000 in
set_option maxRecDepth 100000 in
theorem k_x11_copy (l : Launch) (D : va_G) (a0 : Nat → Nat) (p0 : Int) (sz : Nat) (s : MS) (ps : List ((Nat → Nat) × MS)) (ts : List MS) (hts : ps.map Prod.snd = ts) (o : Int × MS × List MS) (h : m_x11_copy ts p0 s = some o) : yU l yX11_copy cX11_copy 3 (some .int) { frames := 6, cells := 9, slots := 795, locals := 360 } D sz [.ref (a0 0), .int (i2 p0)] a0 s ps (i2 o.1) o.2.1 o.2.2 := by
  refine Met.ofW (cc := cX11_copy) (maxL := 3) (ret := (some .int)) (by decide) rfl ?_
  intro p e s₀ m args below meth c s₁ B hml hv
  obtain ⟨rfl, ⟨hsz, hP, hK, hD0⟩, hN⟩ := hv
  have hx := B.exec
  have hb := B.bytes
  have hr := B.returns
  have hat := atoms_spec (ws := wz yX11_copy cX11_copy 3 (some .int)) B.pre
  have ht : ∀ w ∈ lw_gd, w.before _ s₀ = true := fun w h => hat w (List.mem_cons_of_mem _ h)
  have hown : s₀.vm.findClass RX11 = some m.cls := findClass_of_methodNamed B.named
  have hlocks := B.notSynchronized
  subst hsz
  have hD := hD0.self (sz := s₀.heap.size)
  generalize hAe : va_A (XW D a0 s ps) s₀.heap.size = A at hD ⊢
  have hA : ∀ q : Nat, s₀.heap.size ≤ q → A q := fun q h => by rw [← hAe]; exact Or.inr h
  have hS : va_S A s₀.heap s₀.heap [] := va_S.rf
  have hl := lv_entry ([.ref (a0 0), .int (i2 p0)]) (n := 3) (Nat.le_of_ble_eq_true rfl)
  rw [lg_entry_eq]
  generalize (lg_sl ([.ref (a0 0), .int (i2 p0)]) ++ List.replicate (3 - (lg_sl ([.ref (a0 0), .int (i2 p0)])).length) Slot.unset).toArray = ls at hl ⊢
  obtain ⟨a, ha⟩ : ∃ a : Nat → Nat, a = a0 := ⟨a0, rfl⟩
  rw [← ha] at hP hD hl
  have hu : ∀ k, (k < 62 ∨ 70 < k) → a k = a0 k := fun k _ => by rw [ha]
  have hDD : ∀ t : MS, va_D A (CS D a t ++ PT D (a 90) ps) := fun t => va_D_same hD rfl
  have hl : lv_has ls 3 [(0, .ref (a 0)), (1, .int (i2 p0))] := hl
  clear ha
  unfold m_x11_copy at h
  refine y_head (pcJ := 30) (σ := MS) (fun u H locs ls => va_P D vwCl (CS D a u ++ PT D (a 90) ps) H ∧ va_S A s₀.heap H locs ∧ lv_has ls 3 [(0, .ref (a 0))] ∧ m_x11_copy_J30 ts u = some o) (fun u => []) (fun u H locs ls hI => ?_) (fun J30 => ?_)
  · obtain ⟨hP, hS, hl, h⟩ := hI
    obtain ⟨s1, rfl⟩ : ∃ z, z = u := ⟨u, rfl⟩
    have hP : va_P D vwCl (CS D a s1 ++ PT D (a 90) ps) H := hP
    have hl : lv_has ls 3 [(0, .ref (a 0))] := hl
    have h : m_x11_copy_J30 ts s1 = some o := h
    unfold m_x11_copy_J30 at h
    refine lv_aload_n hx hb eX11_copy_30.1 rfl (lv_at hl 0 rfl) ?_
    refine lv_iconst (v := 2) hx hb eX11_copy_30.2.1 (by decide) ?_
    obtain ⟨⟨r4, s3⟩, hc2, h⟩ := bn_e h
    refine ywV (r0 := i2 r4) (As := [.int 2]) (rest := []) (C := RX11) (n := 1) (ws' := CS D a s3 ++ PT D (a 90) ps) ⟨hx, hb, hml, hown, ht⟩ (yWi_f _ (k_x11_refuse l D a 2 _ _ _ hc2)) (zgV ml_X11_87 im_X11_refuse se_X11_refuse in_X11 co_X11_refuse) rfl rfl (by decide +kernel) ⟨Nat.le_of_ble_eq_true rfl, Nat.le_of_ble_eq_true rfl⟩ hN hK hP (hDD _) hS hA 0 (ap_g CW_0) rfl rfl rfl hl.1 rfl (Nat.le_of_ble_eq_true rfl) eX11_copy_30.2.2.1 ⟨Nat.le_of_ble_eq_true rfl, Nat.le_of_ble_eq_true rfl⟩ (fun H locs hP hS => ?_)
    obtain rfl := Option.some.inj h
    refine W.widen (k := 9) (n := 795) (Nat.le_of_ble_eq_true rfl) (Nat.le_of_ble_eq_true rfl) ?_
    exact W.iret (v := (i2 r4)) hx hb hr (fun t ht hW => ⟨⟨_, (a, ps), rfl, ⟨rfl, hu, hts⟩, by rw [ht]; exact hP, va_K.moved hW.alike hK, hDD _⟩, hS.F ht⟩) hS.2.2 eX11_copy_30.2.2.2.1
  refine lv_aload_n hx hb eX11_checkpoint_50.2.2.1 rfl (lv_at hl 0 rfl) ?_
  refine va_get (D := D) (ci := 11) (v := .ref (a 49)) (C := RX11) (T := TX11) (N := 13) hx hb ht inX11 hown hK hP 0 (ap_g CW_0) rfl 11 (by decide) (ht (.fieldLink RX11 79 "CloneVolumes" "forest" "LCloneVolumes$Forest;") fl_X11_79) (fun _ h9 => h9) rfl eX11_checkpoint_50.2.2.2.1 ?_
  refine va_get (D := D) (ci := 1) (v := .ref (a 53)) (C := RX1) (T := TX1) (N := 9) hx hb ht inX1 hown hK hP 49 (ap_g CW_49) rfl 0 (by decide) (ht (.fieldLink RX11 125 "CloneVolumes$Forest" "now" "LCloneVolumes$State;") fl_X11_125) (fun _ h9 => h9) rfl eX11_checkpoint_50.2.2.2.2.1 ?_
  obtain ⟨r6, hc5, h⟩ := bn_e h
  refine ycV (r0 := i2 r6) (As := []) (rest := []) (C := RX8) (n := 0) ⟨hx, hb, hml, hown, ht⟩ (yRi_f _ (k_x8_freeNumber l D a _ _ hc5)) (zgV ml_X11_286 im_X8_freeNumber se_X8_freeNumber in_X8 co_X8_freeNumber) rfl rfl (by decide +kernel) ⟨Nat.le_of_ble_eq_true rfl, Nat.le_of_ble_eq_true rfl⟩ hN hK hP hS 53 (ap_g CW_53) rfl rfl rfl hl.1 rfl (Nat.le_of_ble_eq_true rfl) eX11_checkpoint_50.2.2.2.2.2.1 ⟨Nat.le_of_ble_eq_true rfl, Nat.le_of_ble_eq_true rfl⟩ (fun H locs hP hS => ?_)
  refine lv_istore_n (lv' := [(2, .int (i2 r6)), (0, .ref (a 0)), (1, .int (i2 p0))]) hx hb eX11_checkpoint_50.2.2.2.2.2.2.1 rfl hl (by decide) rfl (fun ls hl => ?_)
  refine lv_aload_n hx hb eX11_checkpoint_50.2.2.2.2.2.2.2 rfl (lv_at hl 1 rfl) ?_
  refine va_get (D := D) (ci := 11) (v := .ref (a 49)) (C := RX11) (T := TX11) (N := 13) hx hb ht inX11 hown hK hP 0 (ap_g CW_0) rfl 11 (by decide) (ht (.fieldLink RX11 79 "CloneVolumes" "forest" "LCloneVolumes$Forest;") fl_X11_79) (fun _ h9 => h9) rfl eX11_copy_12.1 ?_
  refine va_get (D := D) (ci := 1) (v := .ref (a 53)) (C := RX1) (T := TX1) (N := 9) hx hb ht inX1 hown hK hP 49 (ap_g CW_49) rfl 0 (by decide) (ht (.fieldLink RX11 125 "CloneVolumes$Forest" "now" "LCloneVolumes$State;") fl_X11_125) (fun _ h9 => h9) rfl eX11_copy_12.2.1 ?_
  refine lv_iload_n hx hb eX11_copy_12.2.2.1 rfl (lv_at hl 2 rfl) ?_
  obtain ⟨r8, hc7, h⟩ := bn_e h
  refine ycV (r0 := i2 r8) (As := [.int (i2 p0)]) (rest := []) (C := RX8) (n := 1) ⟨hx, hb, hml, hown, ht⟩ (yRi_f _ (k_x8_isVolume l D a p0 _ _ hc7)) (zgV ml_X11_161 im_X8_isVolume se_X8_isVolume in_X8 co_X8_isVolume) rfl rfl (by decide +kernel) ⟨Nat.le_of_ble_eq_true rfl, Nat.le_of_ble_eq_true rfl⟩ hN hK hP hS 53 (ap_g CW_53) rfl rfl rfl hl.1 rfl (Nat.le_of_ble_eq_true rfl) eX11_copy_12.2.2.2.1 ⟨Nat.le_of_ble_eq_true rfl, Nat.le_of_ble_eq_true rfl⟩ (fun H locs hP hS => ?_)
  obtain ⟨hr9, h⟩ := rg_e h
  refine lv_if_eq (tgt := 30) hx hb eX11_copy_12.2.2.2.2.1 (by decide) (fun c10 => ?_) (fun c10 => ?_)
  · have h := if_t ((i2_eq (x := r8) (y := 0) hr9 (by decide)).mp c10) h
    exact J30 s _ _ _ ⟨hP, hS, lv_sub hl [1] rfl, h⟩
  · have h := if_f (mt (i2_eq (x := r8) (y := 0) hr9 (by decide)).mpr c10) h
    refine lv_iload_n hx hb eX11_copy_12.2.2.2.2.2.1 rfl (lv_at hl 0 rfl) ?_
    refine lv_iconst (v := (-1)) hx hb eX11_copy_12.2.2.2.2.2.2.1 (by decide) ?_
    obtain ⟨hr11, h⟩ := rg_e h
    refine lv_icmp_ne (tgt := 36) hx hb eX11_copy_12.2.2.2.2.2.2.2 (by decide) (fun c12 => ?_) (fun c12 => ?_)
    · rw [show ((-1) : Int32) = i2 (-1) from by decide] at c12
      have h := if_f (mt (i2_eq (x := r6) (y := (-1)) hr11 (by decide)).mpr c12) h
      refine lv_aload_n hx hb eX11_copy_30.2.2.2.2.1 rfl (lv_at hl 1 rfl) ?_
      refine va_get (D := D) (ci := 11) (v := .ref (a 49)) (C := RX11) (T := TX11) (N := 13) hx hb ht inX11 hown hK hP 0 (ap_g CW_0) rfl 11 (by decide) (ht (.fieldLink RX11 79 "CloneVolumes" "forest" "LCloneVolumes$Forest;") fl_X11_79) (fun _ h9 => h9) rfl eX11_copy_30.2.2.2.2.2.1 ?_
      obtain ⟨s14, hc13, h⟩ := bn_e h
      refine ywVv (As := []) (rest := []) (C := RX1) (n := 0) (ws' := CS D a s14 ++ PT D (a 90) ps) ⟨hx, hb, hml, hown, ht⟩ (yWv_f _ (k_x1_begin l D a _ _ _ hc13)) (zgV ml_X11_272 im_X1_begin se_X1_begin in_X1 co_X1_begin) rfl rfl (by decide +kernel) ⟨Nat.le_of_ble_eq_true rfl, Nat.le_of_ble_eq_true rfl⟩ hN hK hP (hDD _) hS hA 49 (ap_g CW_49) rfl rfl rfl hl.1 rfl (Nat.le_of_ble_eq_true rfl) eX11_copy_30.2.2.2.2.2.2.1 ⟨Nat.le_of_ble_eq_true rfl, Nat.le_of_ble_eq_true rfl⟩ (fun H locs hP hS => ?_)
      refine lv_aload_n hx hb eX11_copy_30.2.2.2.2.2.2.2 rfl (lv_at hl 1 rfl) ?_
      refine va_get (D := D) (ci := 11) (v := .ref (a 49)) (C := RX11) (T := TX11) (N := 13) hx hb ht inX11 hown hK hP 0 (ap_g CW_0) rfl 11 (by decide) (ht (.fieldLink RX11 79 "CloneVolumes" "forest" "LCloneVolumes$Forest;") fl_X11_79) (fun _ h9 => h9) rfl eX11_copy_44.1 ?_
      refine lv_iload_n hx hb eX11_copy_44.2.1 rfl (lv_at hl 2 rfl) ?_
      refine lv_iload_n hx hb eX11_copy_44.2.2.1 rfl (lv_at hl 0 rfl) ?_
      obtain ⟨s16, hc15, h⟩ := bn_e h
      refine ywVv (As := [.int (i2 p0), .int (i2 r6)]) (rest := []) (C := RX1) (n := 2) (ws' := CS D a s16 ++ PT D (a 90) ps) ⟨hx, hb, hml, hown, ht⟩ (yWv_f _ (k_x1_share l D a p0 r6 _ _ _ hc15)) (zgV ml_X11_289 im_X1_share se_X1_share in_X1 co_X1_share) rfl rfl (by decide +kernel) ⟨Nat.le_of_ble_eq_true rfl, Nat.le_of_ble_eq_true rfl⟩ hN hK hP (hDD _) hS hA 49 (ap_g CW_49) rfl rfl rfl hl.1 rfl (Nat.le_of_ble_eq_true rfl) eX11_copy_44.2.2.2.1 ⟨Nat.le_of_ble_eq_true rfl, Nat.le_of_ble_eq_true rfl⟩ (fun H locs hP hS => ?_)
      refine lv_aload_n hx hb eX11_copy_44.2.2.2.2.1 rfl (lv_at hl 1 rfl) ?_
      refine lv_iconst (v := 2) hx hb eX11_copy_44.2.2.2.2.2.1 (by decide) ?_
      refine lv_iload_n hx hb eX11_copy_44.2.2.2.2.2.2.1 rfl (lv_at hl 0 rfl) ?_
      obtain ⟨⟨r18, s19, t20⟩, hc17, h⟩ := bn_e h
      refine ywU (r0 := i2 r18) (As := [.int 2, .int (i2 r6)]) (rest := []) (C := RX11) (n := 2) ⟨hx, hb, hml, hown, ht⟩ (k_finish l D a 2 r6 _ _ ps ts hts _ hc17) (zgV ml_X11_279 im_X11_finish se_X11_finish in_X11 co_X11_finish) rfl rfl (by decide +kernel) ⟨Nat.le_of_ble_eq_true rfl, Nat.le_of_ble_eq_true rfl⟩ hN hK hP (hDD _) hS hA 0 (ap_g CW_0) rfl rfl rfl hl.1 rfl (Nat.le_of_ble_eq_true rfl) eX11_copy_44.2.2.2.2.2.2.2 ⟨Nat.le_of_ble_eq_true rfl, Nat.le_of_ble_eq_true rfl⟩ (fun u H locs hu2 hts2 hP hD hS => ?_)
      have hu3 : ∀ k, (k < 62 ∨ 70 < k) → u.1 k = a0 k := fun k hk => (hu2 k hk).trans (hu k hk)
      rw [← hu2 0 (by decide)] at hl
      clear hu2 hu hts hDD
      obtain ⟨a, ps⟩ := u
      have hu : ∀ k, (k < 62 ∨ 70 < k) → a k = a0 k := hu3
      have hts : ps.map Prod.snd = t20 := hts2
      have hl : lv_has ls 3 [(2, .int (i2 r6)), (0, .ref (a 0)), (1, .int (i2 p0))] := hl
      have hP : va_P D vwCl (CS D a s19 ++ PT D (a 90) ps) H := hP
      have hDD : ∀ t : MS, va_D A (CS D a t ++ PT D (a 90) ps) := fun t => va_D_same hD rfl
      refine lv_pop hx hb eX11_copy_58.1 rfl ?_
      refine lv_iload_n hx hb eX11_copy_58.2.1 rfl (lv_at hl 0 rfl) ?_
      obtain rfl := Option.some.inj h
      refine W.widen (k := 9) (n := 795) (Nat.le_of_ble_eq_true rfl) (Nat.le_of_ble_eq_true rfl) ?_
      exact W.iret (v := (i2 r6)) hx hb hr (fun t ht hW => ⟨⟨_, (a, ps), rfl, ⟨rfl, hu, hts⟩, by rw [ht]; exact hP, va_K.moved hW.alike hK, hDD _⟩, hS.F ht⟩) hS.2.2 eX11_copy_58.2.2.1
    · rw [show ((-1) : Int32) = i2 (-1) from by decide] at c12
      have h := if_t ((i2_eq (x := r6) (y := (-1)) hr11 (by decide)).mp c12) h
      exact J30 s _ _ _ ⟨hP, hS, lv_sub hl [1] rfl, h⟩
set_option maxHeartbeats 4000000 in
set_option maxRecDepth 100000 in
theorem k_x11_drop (l : Launch) (D : va_G) (a0 : Nat → Nat) (p0 : Int) (sz : Nat) (s : MS) (ps : List ((Nat → Nat) × MS)) (ts : List MS) (hts : ps.map Prod.snd = ts) (o : Int × MS × List MS) (h : m_x11_drop ts p0 s = some o) : yU l yX11_drop cX11_drop 3 (some .int) { frames := 6, cells := 9, slots := 795, locals := 360 } D sz [.ref (a0 0), .int (i2 p0)] a0 s ps (i2 o.1) o.2.1 o.2.2 := by
  refine Met.ofW (cc := cX11_drop) (maxL := 3) (ret := (some .int)) (by decide) rfl ?_
  intro p e s₀ m args below meth c s₁ B hml hv
  obtain ⟨rfl, ⟨hsz, hP, hK, hD0⟩, hN⟩ := hv
  have hx := B.exec
  have hb := B.bytes
  have hr := B.returns
  have hat := atoms_spec (ws := wz yX11_drop cX11_drop 3 (some .int)) B.pre
  have ht : ∀ w ∈ lw_gd, w.before _ s₀ = true := fun w h => hat w (List.mem_cons_of_mem _ h)
  have hown : s₀.vm.findClass RX11 = some m.cls := findClass_of_methodNamed B.named
  have hlocks := B.notSynchronized
  subst hsz
  have hD := hD0.self (sz := s₀.heap.size)
  generalize hAe : va_A (XW D a0 s ps) s₀.heap.size = A at hD ⊢
  have hA : ∀ q : Nat, s₀.heap.size ≤ q → A q := fun q h => by rw [← hAe]; exact Or.inr h
  have hS : va_S A s₀.heap s₀.heap [] := va_S.rf
  have hl := lv_entry ([.ref (a0 0), .int (i2 p0)]) (n := 3) (Nat.le_of_ble_eq_true rfl)
  rw [lg_entry_eq]
  generalize (lg_sl ([.ref (a0 0), .int (i2 p0)]) ++ List.replicate (3 - (lg_sl ([.ref (a0 0), .int (i2 p0)])).length) Slot.unset).toArray = ls at hl ⊢
  obtain ⟨a, ha⟩ : ∃ a : Nat → Nat, a = a0 := ⟨a0, rfl⟩
  rw [← ha] at hP hD hl
  have hu : ∀ k, (k < 62 ∨ 70 < k) → a k = a0 k := fun k _ => by rw [ha]
  have hDD : ∀ t : MS, va_D A (CS D a t ++ PT D (a 90) ps) := fun t => va_D_same hD rfl
  have hl : lv_has ls 3 [(0, .ref (a 0)), (1, .int (i2 p0))] := hl
  clear ha
  unfold m_x11_drop at h
  refine lv_aload_n hx hb eX11_crash_43.2.2.2.2.2.1 rfl (lv_at hl 0 rfl) ?_
  refine va_get (D := D) (ci := 11) (v := .ref (a 49)) (C := RX11) (T := TX11) (N := 13) hx hb ht inX11 hown hK hP 0 (ap_g CW_0) rfl 11 (by decide) (ht (.fieldLink RX11 79 "CloneVolumes" "forest" "LCloneVolumes$Forest;") fl_X11_79) (fun _ h9 => h9) rfl eX11_crash_43.2.2.2.2.2.2.1 ?_
  refine va_get (D := D) (ci := 1) (v := .ref (a 53)) (C := RX1) (T := TX1) (N := 9) hx hb ht inX1 hown hK hP 49 (ap_g CW_49) rfl 0 (by decide) (ht (.fieldLink RX11 125 "CloneVolumes$Forest" "now" "LCloneVolumes$State;") fl_X11_125) (fun _ h9 => h9) rfl eX11_crash_43.2.2.2.2.2.2.2 ?_
  refine lv_iload_n hx hb eX11_drop_7.1 rfl (lv_at hl 1 rfl) ?_
  obtain ⟨r2, hc1, h⟩ := bn_e h
  refine ycV (r0 := i2 r2) (As := [.int (i2 p0)]) (rest := []) (C := RX8) (n := 1) ⟨hx, hb, hml, hown, ht⟩ (yRi_f _ (k_x8_isVolume l D a p0 _ _ hc1)) (zgV ml_X11_161 im_X8_isVolume se_X8_isVolume in_X8 co_X8_isVolume) rfl rfl (by decide +kernel) ⟨Nat.le_of_ble_eq_true rfl, Nat.le_of_ble_eq_true rfl⟩ hN hK hP hS 53 (ap_g CW_53) rfl rfl rfl hl.1 rfl (Nat.le_of_ble_eq_true rfl) eX11_drop_7.2.1 ⟨Nat.le_of_ble_eq_true rfl, Nat.le_of_ble_eq_true rfl⟩ (fun H locs hP hS => ?_)
  obtain ⟨hr3, h⟩ := rg_e h
  refine lv_if_ne (tgt := 20) hx hb eX11_drop_7.2.2.1 (by decide) (fun c4 => ?_) (fun c4 => ?_)
  · have h := if_f (mt (i2_eq (x := r2) (y := 0) hr3 (by decide)).mpr c4) h
    refine lv_aload_n hx hb eX11_drop_7.2.2.2.2.2.2.2 rfl (lv_at hl 0 rfl) ?_
    refine va_get (D := D) (ci := 11) (v := .ref (a 49)) (C := RX11) (T := TX11) (N := 13) hx hb ht inX11 hown hK hP 0 (ap_g CW_0) rfl 11 (by decide) (ht (.fieldLink RX11 79 "CloneVolumes" "forest" "LCloneVolumes$Forest;") fl_X11_79) (fun _ h9 => h9) rfl eX11_drop_21.1 ?_
    obtain ⟨s6, hc5, h⟩ := bn_e h
    refine ywVv (As := []) (rest := []) (C := RX1) (n := 0) (ws' := CS D a s6 ++ PT D (a 90) ps) ⟨hx, hb, hml, hown, ht⟩ (yWv_f _ (k_x1_begin l D a _ _ _ hc5)) (zgV ml_X11_272 im_X1_begin se_X1_begin in_X1 co_X1_begin) rfl rfl (by decide +kernel) ⟨Nat.le_of_ble_eq_true rfl, Nat.le_of_ble_eq_true rfl⟩ hN hK hP (hDD _) hS hA 49 (ap_g CW_49) rfl rfl rfl hl.1 rfl (Nat.le_of_ble_eq_true rfl) eX11_drop_21.2.1 ⟨Nat.le_of_ble_eq_true rfl, Nat.le_of_ble_eq_true rfl⟩ (fun H locs hP hS => ?_)
    refine lv_aload_n hx hb eX11_drop_21.2.2.1 rfl (lv_at hl 0 rfl) ?_
    refine va_get (D := D) (ci := 11) (v := .ref (a 49)) (C := RX11) (T := TX11) (N := 13) hx hb ht inX11 hown hK hP 0 (ap_g CW_0) rfl 11 (by decide) (ht (.fieldLink RX11 79 "CloneVolumes" "forest" "LCloneVolumes$Forest;") fl_X11_79) (fun _ h9 => h9) rfl eX11_drop_21.2.2.2.1 ?_
    refine va_get (D := D) (ci := 1) (v := .ref (a 53)) (C := RX1) (T := TX1) (N := 9) hx hb ht inX1 hown hK hP 49 (ap_g CW_49) rfl 0 (by decide) (ht (.fieldLink RX11 125 "CloneVolumes$Forest" "now" "LCloneVolumes$State;") fl_X11_125) (fun _ h9 => h9) rfl eX11_drop_21.2.2.2.2.1 ?_
    obtain ⟨r8, hc7, h⟩ := bn_e h
    refine ycV (r0 := i2 r8) (As := []) (rest := []) (C := RX8) (n := 0) ⟨hx, hb, hml, hown, ht⟩ (yRi_f _ (k_x8_used l D a _ _ hc7)) (zgV ml_X11_138 im_X8_used se_X8_used in_X8 co_X8_used) rfl rfl (by decide +kernel) ⟨Nat.le_of_ble_eq_true rfl, Nat.le_of_ble_eq_true rfl⟩ hN hK hP hS 53 (ap_g CW_53) rfl rfl rfl hl.1 rfl (Nat.le_of_ble_eq_true rfl) eX11_drop_21.2.2.2.2.2.1 ⟨Nat.le_of_ble_eq_true rfl, Nat.le_of_ble_eq_true rfl⟩ (fun H locs hP hS => ?_)
    refine lv_istore_n (lv' := [(2, .int (i2 r8)), (0, .ref (a 0)), (1, .int (i2 p0))]) hx hb eX11_drop_21.2.2.2.2.2.2.1 rfl hl (by decide) rfl (fun ls hl => ?_)
    refine lv_aload_n hx hb eX11_drop_21.2.2.2.2.2.2.2 rfl (lv_at hl 1 rfl) ?_
    refine va_get (D := D) (ci := 11) (v := .ref (a 49)) (C := RX11) (T := TX11) (N := 13) hx hb ht inX11 hown hK hP 0 (ap_g CW_0) rfl 11 (by decide) (ht (.fieldLink RX11 79 "CloneVolumes" "forest" "LCloneVolumes$Forest;") fl_X11_79) (fun _ h9 => h9) rfl eX11_drop_39.1 ?_
    refine lv_iload_n hx hb eX11_drop_39.2.1 rfl (lv_at hl 2 rfl) ?_
    obtain ⟨s10, hc9, h⟩ := bn_e h
    refine ywVv (As := [.int (i2 p0)]) (rest := []) (C := RX1) (n := 1) (ws' := CS D a s10 ++ PT D (a 90) ps) ⟨hx, hb, hml, hown, ht⟩ (yWv_f _ (k_x1_letGo l D a p0 _ _ _ hc9)) (zgV ml_X11_293 im_X1_letGo se_X1_letGo in_X1 co_X1_letGo) rfl rfl (by decide +kernel) ⟨Nat.le_of_ble_eq_true rfl, Nat.le_of_ble_eq_true rfl⟩ hN hK hP (hDD _) hS hA 49 (ap_g CW_49) rfl rfl rfl hl.1 rfl (Nat.le_of_ble_eq_true rfl) eX11_drop_39.2.2.1 ⟨Nat.le_of_ble_eq_true rfl, Nat.le_of_ble_eq_true rfl⟩ (fun H locs hP hS => ?_)
    refine lv_aload_n hx hb eX11_drop_39.2.2.2.1 rfl (lv_at hl 1 rfl) ?_
    refine lv_iconst (v := 3) hx hb eX11_drop_39.2.2.2.2.1 (by decide) ?_
    refine lv_iload_n hx hb eX11_drop_39.2.2.2.2.2.1 rfl (lv_at hl 2 rfl) ?_
    obtain ⟨⟨r12, s13, t14⟩, hc11, h⟩ := bn_e h
    refine ywU (r0 := i2 r12) (As := [.int 3, .int (i2 p0)]) (rest := []) (C := RX11) (n := 2) ⟨hx, hb, hml, hown, ht⟩ (k_finish l D a 3 p0 _ _ ps ts hts _ hc11) (zgV ml_X11_279 im_X11_finish se_X11_finish in_X11 co_X11_finish) rfl rfl (by decide +kernel) ⟨Nat.le_of_ble_eq_true rfl, Nat.le_of_ble_eq_true rfl⟩ hN hK hP (hDD _) hS hA 0 (ap_g CW_0) rfl rfl rfl hl.1 rfl (Nat.le_of_ble_eq_true rfl) eX11_drop_39.2.2.2.2.2.2.1 ⟨Nat.le_of_ble_eq_true rfl, Nat.le_of_ble_eq_true rfl⟩ (fun u H locs hu2 hts2 hP hD hS => ?_)
    have hu3 : ∀ k, (k < 62 ∨ 70 < k) → u.1 k = a0 k := fun k hk => (hu2 k hk).trans (hu k hk)
    rw [← hu2 0 (by decide)] at hl
    clear hu2 hu hts hDD
    obtain ⟨a, ps⟩ := u
    have hu : ∀ k, (k < 62 ∨ 70 < k) → a k = a0 k := hu3
    have hts : ps.map Prod.snd = t14 := hts2
    have hl : lv_has ls 3 [(2, .int (i2 r8)), (0, .ref (a 0)), (1, .int (i2 p0))] := hl
    have hP : va_P D vwCl (CS D a s13 ++ PT D (a 90) ps) H := hP
    have hDD : ∀ t : MS, va_D A (CS D a t ++ PT D (a 90) ps) := fun t => va_D_same hD rfl
    refine lv_pop hx hb eX11_drop_39.2.2.2.2.2.2.2 rfl ?_
    refine lv_iload_n hx hb eX11_drop_53.1 rfl (lv_at hl 0 rfl) ?_
    refine lv_aload_n hx hb eX11_drop_53.2.1 rfl (lv_at hl 1 rfl) ?_
    refine va_get (D := D) (ci := 11) (v := .ref (a 49)) (C := RX11) (T := TX11) (N := 13) hx hb ht inX11 hown hK hP 0 (ap_g CW_0) rfl 11 (by decide) (ht (.fieldLink RX11 79 "CloneVolumes" "forest" "LCloneVolumes$Forest;") fl_X11_79) (fun _ h9 => h9) rfl eX11_drop_53.2.2.1 ?_
    refine va_get (D := D) (ci := 1) (v := .ref (a 53)) (C := RX1) (T := TX1) (N := 9) hx hb ht inX1 hown hK hP 49 (ap_g CW_49) rfl 0 (by decide) (ht (.fieldLink RX11 125 "CloneVolumes$Forest" "now" "LCloneVolumes$State;") fl_X11_125) (fun _ h9 => h9) rfl eX11_drop_53.2.2.2.1 ?_
    obtain ⟨r16, hc15, h⟩ := bn_e h
    refine ycV (r0 := i2 r16) (As := []) (rest := [.int (i2 r8)]) (C := RX8) (n := 0) ⟨hx, hb, hml, hown, ht⟩ (yRi_f _ (k_x8_used l D a _ _ hc15)) (zgV ml_X11_138 im_X8_used se_X8_used in_X8 co_X8_used) rfl rfl (by decide +kernel) ⟨Nat.le_of_ble_eq_true rfl, Nat.le_of_ble_eq_true rfl⟩ hN hK hP hS 53 (ap_g CW_53) rfl rfl rfl hl.1 rfl (Nat.le_of_ble_eq_true rfl) eX11_drop_53.2.2.2.2.1 ⟨Nat.le_of_ble_eq_true rfl, Nat.le_of_ble_eq_true rfl⟩ (fun H locs hP hS => ?_)
    refine lv_isub hx hb eX11_drop_53.2.2.2.2.2.1 ?_
    refine z_topi (y := i2 (r8 - r16)) (i2_sub r8 r16) ?_
    obtain rfl := Option.some.inj h
    refine W.widen (k := 9) (n := 795) (Nat.le_of_ble_eq_true rfl) (Nat.le_of_ble_eq_true rfl) ?_
    exact W.iret (v := (i2 (r8 - r16))) hx hb hr (fun t ht hW => ⟨⟨_, (a, ps), rfl, ⟨rfl, hu, hts⟩, by rw [ht]; exact hP, va_K.moved hW.alike hK, hDD _⟩, hS.F ht⟩) hS.2.2 eX11_drop_53.2.2.2.2.2.2.1
  · have h := if_t ((i2_eq (x := r2) (y := 0) hr3 (by decide)).mp c4) h
    refine lv_aload_n hx hb eX11_drop_7.2.2.2.1 rfl (lv_at hl 0 rfl) ?_
    refine lv_iconst (v := 2) hx hb eX11_drop_7.2.2.2.2.1 (by decide) ?_
    obtain ⟨⟨r19, s18⟩, hc17, h⟩ := bn_e h
    refine ywV (r0 := i2 r19) (As := [.int 2]) (rest := []) (C := RX11) (n := 1) (ws' := CS D a s18 ++ PT D (a 90) ps) ⟨hx, hb, hml, hown, ht⟩ (yWi_f _ (k_x11_refuse l D a 2 _ _ _ hc17)) (zgV ml_X11_87 im_X11_refuse se_X11_refuse in_X11 co_X11_refuse) rfl rfl (by decide +kernel) ⟨Nat.le_of_ble_eq_true rfl, Nat.le_of_ble_eq_true rfl⟩ hN hK hP (hDD _) hS hA 0 (ap_g CW_0) rfl rfl rfl hl.1 rfl (Nat.le_of_ble_eq_true rfl) eX11_drop_7.2.2.2.2.2.1 ⟨Nat.le_of_ble_eq_true rfl, Nat.le_of_ble_eq_true rfl⟩ (fun H locs hP hS => ?_)
    obtain rfl := Option.some.inj h
    refine W.widen (k := 9) (n := 795) (Nat.le_of_ble_eq_true rfl) (Nat.le_of_ble_eq_true rfl) ?_
    exact W.iret (v := (i2 r19)) hx hb hr (fun t ht hW => ⟨⟨_, (a, ps), rfl, ⟨rfl, hu, hts⟩, by rw [ht]; exact hP, va_K.moved hW.alike hK, hDD _⟩, hS.F ht⟩) hS.2.2 eX11_drop_7.2.2.2.2.2.2.1
set_option maxHeartbeats 4000000 in
set_option maxRecDepth 100000 in
theorem k_x11_checkpoint (l : Launch) (D : va_G) (a0 : Nat → Nat) (sz : Nat) (s : MS) (ps : List ((Nat → Nat) × MS)) (ts : List MS) (hts : ps.map Prod.snd = ts) (o : Int × MS × List MS) (h : m_x11_checkpoint ts s = some o) : yU l yX11_checkpoint cX11_checkpoint 2 (some .int) { frames := 6, cells := 9, slots := 795, locals := 360 } D sz [.ref (a0 0)] a0 s ps (i2 o.1) o.2.1 o.2.2 := by
  refine Met.ofW (cc := cX11_checkpoint) (maxL := 2) (ret := (some .int)) (by decide) rfl ?_
  intro p e s₀ m args below meth c s₁ B hml hv
  obtain ⟨rfl, ⟨hsz, hP, hK, hD0⟩, hN⟩ := hv
  have hx := B.exec
  have hb := B.bytes
  have hr := B.returns
  have hat := atoms_spec (ws := wz yX11_checkpoint cX11_checkpoint 2 (some .int)) B.pre
  have ht : ∀ w ∈ lw_gd, w.before _ s₀ = true := fun w h => hat w (List.mem_cons_of_mem _ h)
  have hown : s₀.vm.findClass RX11 = some m.cls := findClass_of_methodNamed B.named
  have hlocks := B.notSynchronized
  subst hsz
  have hD := hD0.self (sz := s₀.heap.size)
  generalize hAe : va_A (XW D a0 s ps) s₀.heap.size = A at hD ⊢
  have hA : ∀ q : Nat, s₀.heap.size ≤ q → A q := fun q h => by rw [← hAe]; exact Or.inr h
  have hS : va_S A s₀.heap s₀.heap [] := va_S.rf
  have hl := lv_entry ([.ref (a0 0)]) (n := 2) (Nat.le_of_ble_eq_true rfl)
  rw [lg_entry_eq]
  generalize (lg_sl ([.ref (a0 0)]) ++ List.replicate (2 - (lg_sl ([.ref (a0 0)])).length) Slot.unset).toArray = ls at hl ⊢
  obtain ⟨a, ha⟩ : ∃ a : Nat → Nat, a = a0 := ⟨a0, rfl⟩
  rw [← ha] at hP hD hl
  have hu : ∀ k, (k < 62 ∨ 70 < k) → a k = a0 k := fun k _ => by rw [ha]
  have hDD : ∀ t : MS, va_D A (CS D a t ++ PT D (a 90) ps) := fun t => va_D_same hD rfl
  have hl : lv_has ls 2 [(0, .ref (a 0))] := hl
  clear ha
  unfold m_x11_checkpoint at h
  refine lv_aload_n hx hb eX11_checkpoint_0.1 rfl (lv_at hl 0 rfl) ?_
  refine va_get (D := D) (ci := 11) (v := .int (i2 (gI s 12))) (C := RX11) (T := TX11) (N := 13) hx hb ht inX11 hown hK hP 0 (ap_g CW_0) rfl 12 (by decide) (ht (.fieldLink RX11 112 "CloneVolumes" "told" "Z") fl_X11_112) (fun _ h9 => h9) rfl eX11_checkpoint_0.2.1 ?_
  obtain ⟨hr1, h⟩ := rg_e h
  refine lv_if_ne (tgt := 13) hx hb eX11_checkpoint_0.2.2.1 (by decide) (fun c2 => ?_) (fun c2 => ?_)
  · have h := if_f (mt (i2_eq (x := (gI s 12)) (y := 0) hr1 (by decide)).mpr c2) h
    refine lv_aload_n hx hb eX11_checkpoint_0.2.2.2.2.2.2.2 rfl (lv_at hl 0 rfl) ?_
    refine va_get (D := D) (ci := 11) (v := .ref (a 49)) (C := RX11) (T := TX11) (N := 13) hx hb ht inX11 hown hK hP 0 (ap_g CW_0) rfl 11 (by decide) (ht (.fieldLink RX11 79 "CloneVolumes" "forest" "LCloneVolumes$Forest;") fl_X11_79) (fun _ h9 => h9) rfl eX11_checkpoint_14.1 ?_
    obtain ⟨s4, hc3, h⟩ := bn_e h
    refine ywVv (As := []) (rest := []) (C := RX1) (n := 0) (ws' := CS D a s4 ++ PT D (a 90) ps) ⟨hx, hb, hml, hown, ht⟩ (yWv_f _ (k_x1_begin l D a _ _ _ hc3)) (zgV ml_X11_272 im_X1_begin se_X1_begin in_X1 co_X1_begin) rfl rfl (by decide +kernel) ⟨Nat.le_of_ble_eq_true rfl, Nat.le_of_ble_eq_true rfl⟩ hN hK hP (hDD _) hS hA 49 (ap_g CW_49) rfl rfl rfl hl.1 rfl (Nat.le_of_ble_eq_true rfl) eX11_checkpoint_14.2.1 ⟨Nat.le_of_ble_eq_true rfl, Nat.le_of_ble_eq_true rfl⟩ (fun H locs hP hS => ?_)
    refine lv_aload_n hx hb eX11_checkpoint_14.2.2.1 rfl (lv_at hl 0 rfl) ?_
    refine va_get (D := D) (ci := 11) (v := .ref (a 49)) (C := RX11) (T := TX11) (N := 13) hx hb ht inX11 hown hK hP 0 (ap_g CW_0) rfl 11 (by decide) (ht (.fieldLink RX11 79 "CloneVolumes" "forest" "LCloneVolumes$Forest;") fl_X11_79) (fun _ h9 => h9) rfl eX11_checkpoint_14.2.2.2.1 ?_
    refine va_get (D := D) (ci := 1) (v := .ref (a 53)) (C := RX1) (T := TX1) (N := 9) hx hb ht inX1 hown hK hP 49 (ap_g CW_49) rfl 0 (by decide) (ht (.fieldLink RX11 125 "CloneVolumes$Forest" "now" "LCloneVolumes$State;") fl_X11_125) (fun _ h9 => h9) rfl eX11_checkpoint_14.2.2.2.2.1 ?_
    obtain ⟨r6, hc5, h⟩ := bn_e h
    refine ycV (r0 := i2 r6) (As := []) (rest := []) (C := RX8) (n := 0) ⟨hx, hb, hml, hown, ht⟩ (yRi_f _ (k_x8_held l D a _ _ hc5)) (zgV ml_X11_141 im_X8_held se_X8_held in_X8 co_X8_held) rfl rfl (by decide +kernel) ⟨Nat.le_of_ble_eq_true rfl, Nat.le_of_ble_eq_true rfl⟩ hN hK hP hS 53 (ap_g CW_53) rfl rfl rfl hl.1 rfl (Nat.le_of_ble_eq_true rfl) eX11_checkpoint_14.2.2.2.2.2.1 ⟨Nat.le_of_ble_eq_true rfl, Nat.le_of_ble_eq_true rfl⟩ (fun H locs hP hS => ?_)
    refine lv_istore_n (lv' := [(1, .int (i2 r6)), (0, .ref (a 0))]) hx hb eX11_checkpoint_14.2.2.2.2.2.2.1 rfl hl (by decide) rfl (fun ls hl => ?_)
    refine lv_aload_n hx hb eX11_checkpoint_14.2.2.2.2.2.2.2 rfl (lv_at hl 1 rfl) ?_
    refine va_get (D := D) (ci := 11) (v := .ref (a 49)) (C := RX11) (T := TX11) (N := 13) hx hb ht inX11 hown hK hP 0 (ap_g CW_0) rfl 11 (by decide) (ht (.fieldLink RX11 79 "CloneVolumes" "forest" "LCloneVolumes$Forest;") fl_X11_79) (fun _ h9 => h9) rfl eX11_checkpoint_32.1 ?_
    refine va_get (D := D) (ci := 1) (v := .ref (a 53)) (C := RX1) (T := TX1) (N := 9) hx hb ht inX1 hown hK hP 49 (ap_g CW_49) rfl 0 (by decide) (ht (.fieldLink RX11 125 "CloneVolumes$Forest" "now" "LCloneVolumes$State;") fl_X11_125) (fun _ h9 => h9) rfl eX11_checkpoint_32.2.1 ?_
    obtain ⟨s8, hc7, h⟩ := bn_e h
    refine ywVv (As := []) (rest := []) (C := RX8) (n := 0) (ws' := CS D a s8 ++ PT D (a 90) ps) ⟨hx, hb, hml, hown, ht⟩ (yWv_f _ (k_x8_save l D a _ _ _ hc7)) (zgV ml_X11_296 im_X8_save se_X8_save in_X8 co_X8_save) rfl rfl (by decide +kernel) ⟨Nat.le_of_ble_eq_true rfl, Nat.le_of_ble_eq_true rfl⟩ hN hK hP (hDD _) hS hA 53 (ap_g CW_53) rfl rfl rfl hl.1 rfl (Nat.le_of_ble_eq_true rfl) eX11_checkpoint_32.2.2.1 ⟨Nat.le_of_ble_eq_true rfl, Nat.le_of_ble_eq_true rfl⟩ (fun H locs hP hS => ?_)
    refine lv_aload_n hx hb eX11_checkpoint_32.2.2.2.1 rfl (lv_at hl 1 rfl) ?_
    refine lv_iconst (v := 4) hx hb eX11_checkpoint_32.2.2.2.2.1 (by decide) ?_
    refine lv_sipush (v := 255) hx hb eX11_checkpoint_32.2.2.2.2.2.1 (by decide) ?_
    obtain ⟨⟨r10, s11, t12⟩, hc9, h⟩ := bn_e h
    refine ywU (r0 := i2 r10) (As := [.int 4, .int 255]) (rest := []) (C := RX11) (n := 2) ⟨hx, hb, hml, hown, ht⟩ (k_finish l D a 4 255 _ _ ps ts hts _ hc9) (zgV ml_X11_279 im_X11_finish se_X11_finish in_X11 co_X11_finish) rfl rfl (by decide +kernel) ⟨Nat.le_of_ble_eq_true rfl, Nat.le_of_ble_eq_true rfl⟩ hN hK hP (hDD _) hS hA 0 (ap_g CW_0) rfl rfl rfl hl.1 rfl (Nat.le_of_ble_eq_true rfl) eX11_checkpoint_32.2.2.2.2.2.2.1 ⟨Nat.le_of_ble_eq_true rfl, Nat.le_of_ble_eq_true rfl⟩ (fun u H locs hu2 hts2 hP hD hS => ?_)
    have hu3 : ∀ k, (k < 62 ∨ 70 < k) → u.1 k = a0 k := fun k hk => (hu2 k hk).trans (hu k hk)
    rw [← hu2 0 (by decide)] at hl
    clear hu2 hu hts hDD
    obtain ⟨a, ps⟩ := u
    have hu : ∀ k, (k < 62 ∨ 70 < k) → a k = a0 k := hu3
    have hts : ps.map Prod.snd = t12 := hts2
    have hl : lv_has ls 2 [(1, .int (i2 r6)), (0, .ref (a 0))] := hl
    have hP : va_P D vwCl (CS D a s11 ++ PT D (a 90) ps) H := hP
    have hDD : ∀ t : MS, va_D A (CS D a t ++ PT D (a 90) ps) := fun t => va_D_same hD rfl
    refine lv_pop hx hb eX11_checkpoint_32.2.2.2.2.2.2.2 rfl ?_
    refine lv_iload_n hx hb eX11_checkpoint_50.1 rfl (lv_at hl 0 rfl) ?_
    obtain rfl := Option.some.inj h
    refine W.widen (k := 9) (n := 795) (Nat.le_of_ble_eq_true rfl) (Nat.le_of_ble_eq_true rfl) ?_
    exact W.iret (v := (i2 r6)) hx hb hr (fun t ht hW => ⟨⟨_, (a, ps), rfl, ⟨rfl, hu, hts⟩, by rw [ht]; exact hP, va_K.moved hW.alike hK, hDD _⟩, hS.F ht⟩) hS.2.2 eX11_checkpoint_50.2.1
  · have h := if_t ((i2_eq (x := (gI s 12)) (y := 0) hr1 (by decide)).mp c2) h
    refine lv_aload_n hx hb eX11_checkpoint_0.2.2.2.1 rfl (lv_at hl 0 rfl) ?_
    refine lv_iconst (v := 3) hx hb eX11_checkpoint_0.2.2.2.2.1 (by decide) ?_
    obtain ⟨⟨r15, s14⟩, hc13, h⟩ := bn_e h
    refine ywV (r0 := i2 r15) (As := [.int 3]) (rest := []) (C := RX11) (n := 1) (ws' := CS D a s14 ++ PT D (a 90) ps) ⟨hx, hb, hml, hown, ht⟩ (yWi_f _ (k_x11_refuse l D a 3 _ _ _ hc13)) (zgV ml_X11_87 im_X11_refuse se_X11_refuse in_X11 co_X11_refuse) rfl rfl (by decide +kernel) ⟨Nat.le_of_ble_eq_true rfl, Nat.le_of_ble_eq_true rfl⟩ hN hK hP (hDD _) hS hA 0 (ap_g CW_0) rfl rfl rfl hl.1 rfl (Nat.le_of_ble_eq_true rfl) eX11_checkpoint_0.2.2.2.2.2.1 ⟨Nat.le_of_ble_eq_true rfl, Nat.le_of_ble_eq_true rfl⟩ (fun H locs hP hS => ?_)
    obtain rfl := Option.some.inj h
    refine W.widen (k := 9) (n := 795) (Nat.le_of_ble_eq_true rfl) (Nat.le_of_ble_eq_true rfl) ?_
    exact W.iret (v := (i2 r15)) hx hb hr (fun t ht hW => ⟨⟨_, (a, ps), rfl, ⟨rfl, hu, hts⟩, by rw [ht]; exact hP, va_K.moved hW.alike hK, hDD _⟩, hS.F ht⟩) hS.2.2 eX11_checkpoint_0.2.2.2.2.2.2.1
set_option maxHeartbeats 4000000 in
set_option maxRecDepth 100000 in
theorem k_x11_crash (l : Launch) (D : va_G) (a0 : Nat → Nat) (sz : Nat) (s : MS) (ps : List ((Nat → Nat) × MS)) (ts : List MS) (hts : ps.map Prod.snd = ts) (o : Int × MS × List MS) (h : m_x11_crash ts s = some o) : yU l yX11_crash cX11_crash 2 (some .int) { frames := 6, cells := 9, slots := 795, locals := 360 } D sz [.ref (a0 0)] a0 s ps (i2 o.1) o.2.1 o.2.2 := by
  refine Met.ofW (cc := cX11_crash) (maxL := 2) (ret := (some .int)) (by decide) rfl ?_
  intro p e s₀ m args below meth c s₁ B hml hv
  obtain ⟨rfl, ⟨hsz, hP, hK, hD0⟩, hN⟩ := hv
  have hx := B.exec
  have hb := B.bytes
  have hr := B.returns
  have hat := atoms_spec (ws := wz yX11_crash cX11_crash 2 (some .int)) B.pre
  have ht : ∀ w ∈ lw_gd, w.before _ s₀ = true := fun w h => hat w (List.mem_cons_of_mem _ h)
  have hown : s₀.vm.findClass RX11 = some m.cls := findClass_of_methodNamed B.named
  have hlocks := B.notSynchronized
  subst hsz
  have hD := hD0.self (sz := s₀.heap.size)
  generalize hAe : va_A (XW D a0 s ps) s₀.heap.size = A at hD ⊢
  have hA : ∀ q : Nat, s₀.heap.size ≤ q → A q := fun q h => by rw [← hAe]; exact Or.inr h
  have hS : va_S A s₀.heap s₀.heap [] := va_S.rf
  have hl := lv_entry ([.ref (a0 0)]) (n := 2) (Nat.le_of_ble_eq_true rfl)
  rw [lg_entry_eq]
  generalize (lg_sl ([.ref (a0 0)]) ++ List.replicate (2 - (lg_sl ([.ref (a0 0)])).length) Slot.unset).toArray = ls at hl ⊢
  obtain ⟨a, ha⟩ : ∃ a : Nat → Nat, a = a0 := ⟨a0, rfl⟩
  rw [← ha] at hP hD hl
  have hu : ∀ k, (k < 62 ∨ 70 < k) → a k = a0 k := fun k _ => by rw [ha]
  have hDD : ∀ t : MS, va_D A (CS D a t ++ PT D (a 90) ps) := fun t => va_D_same hD rfl
  have hl : lv_has ls 2 [(0, .ref (a 0))] := hl
  clear ha
  unfold m_x11_crash at h
  refine lv_aload_n hx hb eX11_copy_58.2.2.2.1 rfl (lv_at hl 0 rfl) ?_
  refine va_get (D := D) (ci := 11) (v := .int (i2 (gI s 12))) (C := RX11) (T := TX11) (N := 13) hx hb ht inX11 hown hK hP 0 (ap_g CW_0) rfl 12 (by decide) (ht (.fieldLink RX11 112 "CloneVolumes" "told" "Z") fl_X11_112) (fun _ h9 => h9) rfl eX11_copy_58.2.2.2.2.1 ?_
  obtain ⟨hr1, h⟩ := rg_e h
  refine lv_if_ne (tgt := 13) hx hb eX11_copy_58.2.2.2.2.2.1 (by decide) (fun c2 => ?_) (fun c2 => ?_)
  · have h := if_f (mt (i2_eq (x := (gI s 12)) (y := 0) hr1 (by decide)).mpr c2) h
    refine lv_aload_n hx hb eX11_crash_9.2.2.1 rfl (lv_at hl 0 rfl) ?_
    refine va_get (D := D) (ci := 11) (v := .ref (a 49)) (C := RX11) (T := TX11) (N := 13) hx hb ht inX11 hown hK hP 0 (ap_g CW_0) rfl 11 (by decide) (ht (.fieldLink RX11 79 "CloneVolumes" "forest" "LCloneVolumes$Forest;") fl_X11_79) (fun _ h9 => h9) rfl eX11_crash_9.2.2.2.1 ?_
    obtain ⟨s4, hc3, h⟩ := bn_e h
    refine ywVv (As := []) (rest := []) (C := RX1) (n := 0) (ws' := CS D a s4 ++ PT D (a 90) ps) ⟨hx, hb, hml, hown, ht⟩ (yWv_f _ (k_x1_begin l D a _ _ _ hc3)) (zgV ml_X11_272 im_X1_begin se_X1_begin in_X1 co_X1_begin) rfl rfl (by decide +kernel) ⟨Nat.le_of_ble_eq_true rfl, Nat.le_of_ble_eq_true rfl⟩ hN hK hP (hDD _) hS hA 49 (ap_g CW_49) rfl rfl rfl hl.1 rfl (Nat.le_of_ble_eq_true rfl) eX11_crash_9.2.2.2.2.1 ⟨Nat.le_of_ble_eq_true rfl, Nat.le_of_ble_eq_true rfl⟩ (fun H locs hP hS => ?_)
    refine lv_aload_n hx hb eX11_crash_9.2.2.2.2.2.1 rfl (lv_at hl 0 rfl) ?_
    refine va_get (D := D) (ci := 11) (v := .ref (a 49)) (C := RX11) (T := TX11) (N := 13) hx hb ht inX11 hown hK hP 0 (ap_g CW_0) rfl 11 (by decide) (ht (.fieldLink RX11 79 "CloneVolumes" "forest" "LCloneVolumes$Forest;") fl_X11_79) (fun _ h9 => h9) rfl eX11_crash_9.2.2.2.2.2.2.1 ?_
    refine va_get (D := D) (ci := 1) (v := .ref (a 53)) (C := RX1) (T := TX1) (N := 9) hx hb ht inX1 hown hK hP 49 (ap_g CW_49) rfl 0 (by decide) (ht (.fieldLink RX11 125 "CloneVolumes$Forest" "now" "LCloneVolumes$State;") fl_X11_125) (fun _ h9 => h9) rfl eX11_crash_9.2.2.2.2.2.2.2 ?_
    obtain ⟨r6, hc5, h⟩ := bn_e h
    refine ycV (r0 := i2 r6) (As := []) (rest := []) (C := RX8) (n := 0) ⟨hx, hb, hml, hown, ht⟩ (yRi_f _ (k_x8_freshBlocks l D a _ _ hc5)) (zgV ml_X11_299 im_X8_freshBlocks se_X8_freshBlocks in_X8 co_X8_freshBlocks) rfl rfl (by decide +kernel) ⟨Nat.le_of_ble_eq_true rfl, Nat.le_of_ble_eq_true rfl⟩ hN hK hP hS 53 (ap_g CW_53) rfl rfl rfl hl.1 rfl (Nat.le_of_ble_eq_true rfl) eX11_crash_27.1 ⟨Nat.le_of_ble_eq_true rfl, Nat.le_of_ble_eq_true rfl⟩ (fun H locs hP hS => ?_)
    refine lv_istore_n (lv' := [(1, .int (i2 r6)), (0, .ref (a 0))]) hx hb eX11_crash_27.2.1 rfl hl (by decide) rfl (fun ls hl => ?_)
    refine lv_aload_n hx hb eX11_crash_27.2.2.1 rfl (lv_at hl 1 rfl) ?_
    refine va_get (D := D) (ci := 11) (v := .ref (a 49)) (C := RX11) (T := TX11) (N := 13) hx hb ht inX11 hown hK hP 0 (ap_g CW_0) rfl 11 (by decide) (ht (.fieldLink RX11 79 "CloneVolumes" "forest" "LCloneVolumes$Forest;") fl_X11_79) (fun _ h9 => h9) rfl eX11_crash_27.2.2.2.1 ?_
    refine va_get (D := D) (ci := 1) (v := .ref (a 53)) (C := RX1) (T := TX1) (N := 9) hx hb ht inX1 hown hK hP 49 (ap_g CW_49) rfl 0 (by decide) (ht (.fieldLink RX11 125 "CloneVolumes$Forest" "now" "LCloneVolumes$State;") fl_X11_125) (fun _ h9 => h9) rfl eX11_crash_27.2.2.2.2.1 ?_
    obtain ⟨s8, hc7, h⟩ := bn_e h
    refine ywVv (As := []) (rest := []) (C := RX8) (n := 0) (ws' := CS D a s8 ++ PT D (a 90) ps) ⟨hx, hb, hml, hown, ht⟩ (yWv_f _ (k_x8_fallBack l D a _ _ _ hc7)) (zgV ml_X11_302 im_X8_fallBack se_X8_fallBack in_X8 co_X8_fallBack) rfl rfl (by decide +kernel) ⟨Nat.le_of_ble_eq_true rfl, Nat.le_of_ble_eq_true rfl⟩ hN hK hP (hDD _) hS hA 53 (ap_g CW_53) rfl rfl rfl hl.1 rfl (Nat.le_of_ble_eq_true rfl) eX11_crash_27.2.2.2.2.2.1 ⟨Nat.le_of_ble_eq_true rfl, Nat.le_of_ble_eq_true rfl⟩ (fun H locs hP hS => ?_)
    refine lv_aload_n hx hb eX11_crash_27.2.2.2.2.2.2.1 rfl (lv_at hl 1 rfl) ?_
    refine lv_iconst (v := 5) hx hb eX11_crash_27.2.2.2.2.2.2.2 (by decide) ?_
    refine lv_sipush (v := 255) hx hb eX11_crash_43.1 (by decide) ?_
    obtain ⟨⟨r10, s11, t12⟩, hc9, h⟩ := bn_e h
    refine ywU (r0 := i2 r10) (As := [.int 5, .int 255]) (rest := []) (C := RX11) (n := 2) ⟨hx, hb, hml, hown, ht⟩ (k_finish l D a 5 255 _ _ ps ts hts _ hc9) (zgV ml_X11_279 im_X11_finish se_X11_finish in_X11 co_X11_finish) rfl rfl (by decide +kernel) ⟨Nat.le_of_ble_eq_true rfl, Nat.le_of_ble_eq_true rfl⟩ hN hK hP (hDD _) hS hA 0 (ap_g CW_0) rfl rfl rfl hl.1 rfl (Nat.le_of_ble_eq_true rfl) eX11_crash_43.2.1 ⟨Nat.le_of_ble_eq_true rfl, Nat.le_of_ble_eq_true rfl⟩ (fun u H locs hu2 hts2 hP hD hS => ?_)
    have hu3 : ∀ k, (k < 62 ∨ 70 < k) → u.1 k = a0 k := fun k hk => (hu2 k hk).trans (hu k hk)
    rw [← hu2 0 (by decide)] at hl
    clear hu2 hu hts hDD
    obtain ⟨a, ps⟩ := u
    have hu : ∀ k, (k < 62 ∨ 70 < k) → a k = a0 k := hu3
    have hts : ps.map Prod.snd = t12 := hts2
    have hl : lv_has ls 2 [(1, .int (i2 r6)), (0, .ref (a 0))] := hl
    have hP : va_P D vwCl (CS D a s11 ++ PT D (a 90) ps) H := hP
    have hDD : ∀ t : MS, va_D A (CS D a t ++ PT D (a 90) ps) := fun t => va_D_same hD rfl
    refine lv_pop hx hb eX11_crash_43.2.2.1 rfl ?_
    refine lv_iload_n hx hb eX11_crash_43.2.2.2.1 rfl (lv_at hl 0 rfl) ?_
    obtain rfl := Option.some.inj h
    refine W.widen (k := 9) (n := 795) (Nat.le_of_ble_eq_true rfl) (Nat.le_of_ble_eq_true rfl) ?_
    exact W.iret (v := (i2 r6)) hx hb hr (fun t ht hW => ⟨⟨_, (a, ps), rfl, ⟨rfl, hu, hts⟩, by rw [ht]; exact hP, va_K.moved hW.alike hK, hDD _⟩, hS.F ht⟩) hS.2.2 eX11_crash_43.2.2.2.2.1
  · have h := if_t ((i2_eq (x := (gI s 12)) (y := 0) hr1 (by decide)).mp c2) h
    refine lv_aload_n hx hb eX11_copy_58.2.2.2.2.2.2.1 rfl (lv_at hl 0 rfl) ?_
    refine lv_iconst (v := 3) hx hb eX11_copy_58.2.2.2.2.2.2.2 (by decide) ?_
    obtain ⟨⟨r15, s14⟩, hc13, h⟩ := bn_e h
    refine ywV (r0 := i2 r15) (As := [.int 3]) (rest := []) (C := RX11) (n := 1) (ws' := CS D a s14 ++ PT D (a 90) ps) ⟨hx, hb, hml, hown, ht⟩ (yWi_f _ (k_x11_refuse l D a 3 _ _ _ hc13)) (zgV ml_X11_87 im_X11_refuse se_X11_refuse in_X11 co_X11_refuse) rfl rfl (by decide +kernel) ⟨Nat.le_of_ble_eq_true rfl, Nat.le_of_ble_eq_true rfl⟩ hN hK hP (hDD _) hS hA 0 (ap_g CW_0) rfl rfl rfl hl.1 rfl (Nat.le_of_ble_eq_true rfl) eX11_crash_9.1 ⟨Nat.le_of_ble_eq_true rfl, Nat.le_of_ble_eq_true rfl⟩ (fun H locs hP hS => ?_)
    obtain rfl := Option.some.inj h
    refine W.widen (k := 9) (n := 795) (Nat.le_of_ble_eq_true rfl) (Nat.le_of_ble_eq_true rfl) ?_
    exact W.iret (v := (i2 r15)) hx hb hr (fun t ht hW => ⟨⟨_, (a, ps), rfl, ⟨rfl, hu, hts⟩, by rw [ht]; exact hP, va_K.moved hW.alike hK, hDD _⟩, hS.F ht⟩) hS.2.2 eX11_crash_9.2.1
set_option maxHeartbeats 4000000 in
set_option maxRecDepth 100000 in
theorem k_x1_draw (l : Launch) (D : va_G) (a : Nat → Nat) (p0 : Int) (sz : Nat) (s : MS) (o : (Int × MS)) (h : m_x1_draw p0 s = some o) : yWi l yX1_draw cX1_draw 2 (some .int) { frames := 0, cells := 0, slots := 0, locals := 0 } D sz [.ref (a 49), .int (i2 p0)] (CS D a s) (CS D a o.2) (i2 o.1) := by
  refine Met.ofW (cc := cX1_draw) (maxL := 2) (ret := (some .int)) (by decide) rfl ?_
  intro p e s₀ m args below meth c s₁ B hml hv
  obtain ⟨rfl, ⟨hsz, hP, hK, hD0⟩, hN⟩ := hv
  have hx := B.exec
  have hb := B.bytes
  have hr := B.returns
  have hts := atoms_spec (ws := wz yX1_draw cX1_draw 2 (some .int)) B.pre
  have ht : ∀ w ∈ lw_gd, w.before _ s₀ = true := fun w h => hts w (List.mem_cons_of_mem _ h)
  have hown : s₀.vm.findClass RX1 = some m.cls := findClass_of_methodNamed B.named
  have hlocks := B.notSynchronized
  subst hsz
  have hD := hD0.self (sz := s₀.heap.size)
  generalize hAe : va_A (CS D a s) s₀.heap.size = A at hD ⊢
  have hA : ∀ q : Nat, s₀.heap.size ≤ q → A q := fun q h => by rw [← hAe]; exact Or.inr h
  have hS : va_S A s₀.heap s₀.heap [] := va_S.rf
  have hDD : ∀ t : MS, va_D A (CS D a t) := fun t => CW_D t hD
  have hl := lv_entry ([.ref (a 49), .int (i2 p0)]) (n := 2) (Nat.le_of_ble_eq_true rfl)
  rw [lg_entry_eq]
  generalize (lg_sl ([.ref (a 49), .int (i2 p0)]) ++ List.replicate (2 - (lg_sl ([.ref (a 49), .int (i2 p0)])).length) Slot.unset).toArray = ls at hl ⊢
  have hl : lv_has ls 2 [(0, .ref (a 49)), (1, .int (i2 p0))] := hl
  unfold m_x1_draw at h
  refine y_head (pcJ := 39) (σ := Int × MS) (fun u H locs ls => va_P D vwCl (CS D a u.2) H ∧ va_S A s₀.heap H locs ∧ lv_has ls 2 [] ∧ m_x1_draw_J39 u.1 u.2 = some o) (fun u => [.int (i2 u.1)]) (fun u H locs ls hI => ?_) (fun J39 => ?_)
  · obtain ⟨hP, hS, hl, h⟩ := hI
    obtain ⟨x1, s2⟩ := u
    have hP : va_P D vwCl (CS D a s2) H := hP
    have hl : lv_has ls 2 [] := hl
    have h : m_x1_draw_J39 x1 s2 = some o := h
    unfold m_x1_draw_J39 at h
    obtain rfl := Option.some.inj h
    exact W.iret (v := (i2 x1)) hx hb hr (fun t ht hW => ⟨⟨_, (), rfl, rfl, by rw [ht]; exact hP, va_K.moved hW.alike hK, hDD _⟩, hS.F ht⟩) hS.2.2 eX1_draw_38.2.1
  refine lv_aload_n hx hb eX1_actBySeed_81.2.2.2.1 rfl (lv_at hl 0 rfl) ?_
  refine lv_ldc2 (own := RX1) (v := 1103515245) hx hb hown (ht _ cl_X1_277) eX1_actBySeed_81.2.2.2.2.1 ?_
  refine lv_aload_n hx hb eX1_actBySeed_81.2.2.2.2.2.1 rfl (lv_at hl 0 rfl) ?_
  refine va_get (D := D) (ci := 1) (v := .int (i2 (gI s 983))) (C := RX1) (T := TX1) (N := 9) hx hb ht inX1 hown hK hP 49 CW_49 rfl 3 (by decide) (ht (.fieldLink RX1 24 "CloneVolumes$Forest" "seed" "I") fl_X1_24) (fun _ h9 => h9) rfl eX1_actBySeed_81.2.2.2.2.2.2.1 ?_
  obtain ⟨hr3, h⟩ := rg_e h
  refine lv_i2l (v := i8 (gI s 983)) hx hb eX1_actBySeed_81.2.2.2.2.2.2.2 (i2_l hr3) ?_
  refine lv_lmul hx hb eX1_draw_9.1 ?_
  refine z_topl (y := i8 (1103515245 * (gI s 983))) (i8_mul 1103515245 (gI s 983)) ?_
  refine lv_ldc2 (own := RX1) (v := 12345) hx hb hown (ht _ cl_X1_279) eX1_draw_9.2.1 ?_
  refine lv_ladd hx hb eX1_draw_9.2.2.1 ?_
  refine z_topl (y := i8 ((1103515245 * (gI s 983)) + 12345)) (i8_add (1103515245 * (gI s 983)) 12345) ?_
  refine lv_ldc2 (own := RX1) (v := 2147483647) hx hb hown (ht _ cl_X1_281) eX1_draw_9.2.2.2.1 ?_
  refine lv_land hx hb eX1_draw_9.2.2.2.2.1 ?_
  refine z_topl (y := i8 (andL ((1103515245 * (gI s 983)) + 12345) 2147483647)) (i8_of (i8 ((1103515245 * (gI s 983)) + 12345) &&& i8 2147483647)).symm ?_
  refine lv_l2i (v := i2 (andL ((1103515245 * (gI s 983)) + 12345) 2147483647)) hx hb eX1_draw_9.2.2.2.2.2.1 (i8_i (andL ((1103515245 * (gI s 983)) + 12345) 2147483647)) ?_
  refine ya_put (D := D) (ci := 1) (v := .int (i2 (andL ((1103515245 * (gI s 983)) + 12345) 2147483647))) (ty := .int) (C := RX1) (T := TX1) (N := 9) hx hb ht inX1 tyX1 tyX1_ok nmX1 hown hK hP (hDD _) hS 49 CW_49 rfl 3 (by decide) (ht (.fieldLink RX1 24 "CloneVolumes$Forest" "seed" "I") fl_X1_24) (fun _ h9 => h9) rfl (by decide +kernel) rfl rfl (Nat.le_of_ble_eq_true rfl) eX1_draw_9.2.2.2.2.2.2.1 (CW_w49_3 (andL ((1103515245 * (gI s 983)) + 12345) 2147483647)) (fun H locs hP hS => ?_)
  obtain ⟨s4, hs4, h⟩ := st_e h
  rw [hs4] at hP
  refine lv_iload_n hx hb eX1_draw_9.2.2.2.2.2.2.2 rfl (lv_at hl 1 rfl) ?_
  obtain ⟨hr5, h⟩ := rg_e h
  refine lv_if_le (tgt := 38) hx hb eX1_draw_23.1 (by decide) (fun c6 => ?_) (fun c6 => ?_)
  · have h := if_t ((i2_le (x := p0) (y := 0) hr5 (by decide)).mp c6) h
    refine lv_iconst (v := 0) hx hb eX1_draw_38.1 (by decide) ?_
    exact J39 (0, s4) _ _ _ ⟨hP, hS, lv_sub hl [] rfl, h⟩
  · have h := if_f (mt (i2_le (x := p0) (y := 0) hr5 (by decide)).mpr c6) h
    refine lv_aload_n hx hb eX1_draw_23.2.1 rfl (lv_at hl 0 rfl) ?_
    refine va_get (D := D) (ci := 1) (v := .int (i2 (gI s4 983))) (C := RX1) (T := TX1) (N := 9) hx hb ht inX1 hown hK hP 49 CW_49 rfl 3 (by decide) (ht (.fieldLink RX1 24 "CloneVolumes$Forest" "seed" "I") fl_X1_24) (fun _ h9 => h9) rfl eX1_draw_23.2.2.1 ?_
    refine lv_bipush (v := 64) hx hb eX1_draw_23.2.2.2.1 (by decide) ?_
    obtain ⟨hn7, h⟩ := dv_e h
    refine lv_idiv hx hb eX1_draw_23.2.2.2.2.1 (dv_nz hn7) ?_
    refine z_topi (y := i2 (Int.tdiv (gI s4 983) 64)) (by rw [show (64 : Int32) = i2 64 from by decide +kernel]; exact dv_d hn7) ?_
    refine lv_iload_n hx hb eX1_draw_23.2.2.2.2.2.1 rfl (lv_at hl 1 rfl) ?_
    obtain ⟨hn8, h⟩ := dv_e h
    refine lv_irem hx hb eX1_draw_23.2.2.2.2.2.2.1 (dv_nz hn8) ?_
    refine z_topi (y := i2 (Int.tmod (Int.tdiv (gI s4 983) 64) p0)) (dv_r hn8) ?_
    refine lv_goto (tgt := 39) hx hb eX1_draw_23.2.2.2.2.2.2.2 (by decide) ?_
    exact J39 (Int.tmod (Int.tdiv (gI s4 983) 64) p0, s4) _ _ _ ⟨hP, hS, lv_sub hl [] rfl, h⟩
set_option maxHeartbeats 4000000 in
set_option maxRecDepth 100000 in
theorem k_x1_volumeAt (l : Launch) (D : va_G) (a : Nat → Nat) (p0 : Int) (s : MS) (o : Int) (h : m_x1_volumeAt p0 s = some o) : yRi l yX1_volumeAt cX1_volumeAt 4 (some .int) { frames := 1, cells := 0, slots := 0, locals := 60 } D [.ref (a 49), .int (i2 p0)] (CS D a s) (i2 o) := by
  refine Met.ofW (cc := cX1_volumeAt) (maxL := 4) (ret := (some .int)) (by decide) rfl ?_
  intro p e s₀ m args below meth c s₁ B hml hv
  obtain ⟨rfl, ⟨hP, hK⟩, hN⟩ := hv
  have hx := B.exec
  have hb := B.bytes
  have hr := B.returns
  have hts := atoms_spec (ws := wz yX1_volumeAt cX1_volumeAt 4 (some .int)) B.pre
  have ht : ∀ w ∈ lw_gd, w.before _ s₀ = true := fun w h => hts w (List.mem_cons_of_mem _ h)
  have hown : s₀.vm.findClass RX1 = some m.cls := findClass_of_methodNamed B.named
  have hlocks := B.notSynchronized
  have hS : va_S (fun _ => False) s₀.heap s₀.heap [] := va_S.rf
  have hl := lv_entry ([.ref (a 49), .int (i2 p0)]) (n := 4) (Nat.le_of_ble_eq_true rfl)
  rw [lg_entry_eq]
  generalize (lg_sl ([.ref (a 49), .int (i2 p0)]) ++ List.replicate (4 - (lg_sl ([.ref (a 49), .int (i2 p0)])).length) Slot.unset).toArray = ls at hl ⊢
  have hl : lv_has ls 4 [(0, .ref (a 49)), (1, .int (i2 p0))] := hl
  unfold m_x1_volumeAt at h
  refine y_loop (pcJ := 4) (σ := Int × Int) (fun n u H locs ls => va_P D vwCl (CS D a s) H ∧ va_S (fun _ => False) s₀.heap H locs ∧ lv_has ls 4 [(0, .ref (a 49)), (2, .int (i2 u.1)), (3, .int (i2 u.2))] ∧ m_x1_volumeAt_L4 s n u.1 u.2 = some o) (fun u => []) (fun u H locs ls hI => by obtain ⟨_, _, _, h⟩ := hI; cases h) (fun n4 ih4 u H locs ls hI => ?_) (fun J4 => ?_)
  · obtain ⟨hP, hS, hl, h⟩ := hI
    obtain ⟨x1, x2⟩ := u
    have hP : va_P D vwCl (CS D a s) H := hP
    have hl : lv_has ls 4 [(0, .ref (a 49)), (2, .int (i2 x1)), (3, .int (i2 x2))] := hl
    have h : m_x1_volumeAt_b4 s (m_x1_volumeAt_L4 s n4) x1 x2 = some o := h
    unfold m_x1_volumeAt_b4 at h
    refine y_head (pcJ := 30) (σ := Int × Int) (fun u H locs ls => va_P D vwCl (CS D a s) H ∧ va_S (fun _ => False) s₀.heap H locs ∧ lv_has ls 4 [(0, .ref (a 49)), (2, .int (i2 u.1)), (3, .int (i2 u.2))] ∧ m_x1_volumeAt_J30 s (m_x1_volumeAt_L4 s n4) u.1 u.2 = some o) (fun u => []) (fun u H locs ls hI => ?_) (fun J30 => ?_)
    · obtain ⟨hP, hS, hl, h⟩ := hI
      obtain ⟨x3, x4⟩ := u
      have hP : va_P D vwCl (CS D a s) H := hP
      have hl : lv_has ls 4 [(0, .ref (a 49)), (2, .int (i2 x3)), (3, .int (i2 x4))] := hl
      have h : m_x1_volumeAt_J30 s (m_x1_volumeAt_L4 s n4) x3 x4 = some o := h
      unfold m_x1_volumeAt_J30 at h
      refine lv_iinc (v := i2 (x4 + 1)) (lv' := [(3, .int (i2 (x4 + 1))), (0, .ref (a 49)), (2, .int (i2 x3))]) hx hb eX1_volumeAt_27.2.1 hl (k := 2) rfl (i2_add x4 1) (by decide) rfl (fun ls hl => ?_)
      refine lv_goto (tgt := 4) hx hb eX1_volumeAt_27.2.2.1 (by decide) ?_
      exact ih4 (x3, x4 + 1) _ _ _ ⟨hP, hS, lv_sub hl [1, 2, 0] rfl, h⟩
    refine lv_iload_n hx hb eX1_volumeAt_0.2.2.2.2.1 rfl (lv_at hl 2 rfl) ?_
    refine lv_bipush (v := 8) hx hb eX1_volumeAt_0.2.2.2.2.2.1 (by decide) ?_
    obtain ⟨hr5, h⟩ := rg_e h
    refine lv_icmp_ge (tgt := 36) hx hb eX1_volumeAt_0.2.2.2.2.2.2.1 (by decide) (fun c6 => ?_) (fun c6 => ?_)
    · have h := if_t ((i2_le (x := 8) (y := x2) (by decide) hr5).mp c6) h
      refine lv_iconst (v := 0) hx hb eX1_volumeAt_27.2.2.2.1 (by decide) ?_
      obtain rfl := Option.some.inj h
      exact W.iret (v := 0) hx hb hr (fun t ht hW => ⟨⟨_, (), rfl, rfl, trivial⟩, hS.F ht⟩) hS.2.2 eX1_volumeAt_27.2.2.2.2.1
    · have h := if_f (mt (i2_le (x := 8) (y := x2) (by decide) hr5).mpr c6) h
      refine lv_aload_n hx hb eX1_volumeAt_0.2.2.2.2.2.2.2 rfl (lv_at hl 0 rfl) ?_
      refine va_get (D := D) (ci := 1) (v := .ref (a 53)) (C := RX1) (T := TX1) (N := 9) hx hb ht inX1 hown hK hP 49 CW_49 rfl 0 (by decide) (ht (.fieldLink RX1 12 "CloneVolumes$Forest" "now" "LCloneVolumes$State;") fl_X1_12) (fun _ h9 => h9) rfl eX1_volumeAt_11.1 ?_
      refine lv_iload_n hx hb eX1_volumeAt_11.2.1 rfl (lv_at hl 2 rfl) ?_
      obtain ⟨r8, hc7, h⟩ := bn_e h
      refine ycV (r0 := i2 r8) (As := [.int (i2 x2)]) (rest := []) (C := RX8) (n := 1) ⟨hx, hb, hml, hown, ht⟩ (k_x8_isVolume l D a x2 _ _ hc7) (zgV ml_X1_295 im_X8_isVolume se_X8_isVolume in_X8 co_X8_isVolume) rfl rfl (by decide +kernel) ⟨Nat.le_of_ble_eq_true rfl, Nat.le_of_ble_eq_true rfl⟩ hN hK hP hS 53 CW_53 rfl rfl rfl hl.1 rfl (Nat.le_of_ble_eq_true rfl) eX1_volumeAt_11.2.2.1 ⟨Nat.le_of_ble_eq_true rfl, Nat.le_of_ble_eq_true rfl⟩ (fun H locs hP hS => ?_)
      obtain ⟨hr9, h⟩ := rg_e h
      refine lv_if_eq (tgt := 30) hx hb eX1_volumeAt_11.2.2.2.1 (by decide) (fun c10 => ?_) (fun c10 => ?_)
      · have h := if_t ((i2_eq (x := r8) (y := 0) hr9 (by decide)).mp c10) h
        exact J30 (x1, x2) _ _ _ ⟨hP, hS, lv_sub hl [0, 1, 2] rfl, h⟩
      · have h := if_f (mt (i2_eq (x := r8) (y := 0) hr9 (by decide)).mpr c10) h
        refine lv_iload_n hx hb eX1_volumeAt_11.2.2.2.2.1 rfl (lv_at hl 1 rfl) ?_
        obtain ⟨hr11, h⟩ := rg_e h
        refine lv_if_ne (tgt := 27) hx hb eX1_volumeAt_11.2.2.2.2.2.1 (by decide) (fun c12 => ?_) (fun c12 => ?_)
        · have h := if_f (mt (i2_eq (x := x1) (y := 0) hr11 (by decide)).mpr c12) h
          refine lv_iinc (v := i2 (x1 + (-1))) (lv' := [(2, .int (i2 (x1 + (-1)))), (0, .ref (a 49)), (3, .int (i2 x2))]) hx hb eX1_volumeAt_27.1 hl (k := 1) rfl (i2_add x1 (-1)) (by decide) rfl (fun ls hl => ?_)
          exact J30 (x1 + (-1), x2) _ _ _ ⟨hP, hS, lv_sub hl [1, 0, 2] rfl, h⟩
        · have h := if_t ((i2_eq (x := x1) (y := 0) hr11 (by decide)).mp c12) h
          refine lv_iload_n hx hb eX1_volumeAt_11.2.2.2.2.2.2.1 rfl (lv_at hl 2 rfl) ?_
          obtain rfl := Option.some.inj h
          exact W.iret (v := (i2 x2)) hx hb hr (fun t ht hW => ⟨⟨_, (), rfl, rfl, trivial⟩, hS.F ht⟩) hS.2.2 eX1_volumeAt_11.2.2.2.2.2.2.2
  refine lv_iload_n hx hb eX1_volumeAt_0.1 rfl (lv_at hl 1 rfl) ?_
  refine lv_istore_n (lv' := [(2, .int (i2 p0)), (0, .ref (a 49)), (1, .int (i2 p0))]) hx hb eX1_volumeAt_0.2.1 rfl hl (by decide) rfl (fun ls hl => ?_)
  refine lv_iconst (v := 0) hx hb eX1_volumeAt_0.2.2.1 (by decide) ?_
  refine lv_istore_n (lv' := [(3, .int 0), (2, .int (i2 p0)), (0, .ref (a 49)), (1, .int (i2 p0))]) hx hb eX1_volumeAt_0.2.2.2.1 rfl hl (by decide) rfl (fun ls hl => ?_)
  exact J4 FU (p0, 0) _ _ _ ⟨hP, hS, lv_sub hl [2, 1, 0] rfl, h⟩
set_option maxHeartbeats 4000000 in
set_option maxRecDepth 100000 in
theorem k_x1_actBySeed (l : Launch) (D : va_G) (a : Nat → Nat) (sz : Nat) (s : MS) (o : (Int × MS)) (h : m_x1_actBySeed s = some o) : yWi l yX1_actBySeed cX1_actBySeed 5 (some .boolean) { frames := 6, cells := 0, slots := 0, locals := 360 } D sz [.ref (a 49)] (CS D a s) (CS D a o.2) (i2 o.1) := by
  refine Met.ofW (cc := cX1_actBySeed) (maxL := 5) (ret := (some .boolean)) (by decide) rfl ?_
  intro p e s₀ m args below meth c s₁ B hml hv
  obtain ⟨rfl, ⟨hsz, hP, hK, hD0⟩, hN⟩ := hv
  have hx := B.exec
  have hb := B.bytes
  have hr := B.returns
  have hts := atoms_spec (ws := wz yX1_actBySeed cX1_actBySeed 5 (some .boolean)) B.pre
  have ht : ∀ w ∈ lw_gd, w.before _ s₀ = true := fun w h => hts w (List.mem_cons_of_mem _ h)
  have hown : s₀.vm.findClass RX1 = some m.cls := findClass_of_methodNamed B.named
  have hlocks := B.notSynchronized
  subst hsz
  have hD := hD0.self (sz := s₀.heap.size)
  generalize hAe : va_A (CS D a s) s₀.heap.size = A at hD ⊢
  have hA : ∀ q : Nat, s₀.heap.size ≤ q → A q := fun q h => by rw [← hAe]; exact Or.inr h
  have hS : va_S A s₀.heap s₀.heap [] := va_S.rf
  have hDD : ∀ t : MS, va_D A (CS D a t) := fun t => CW_D t hD
  have hl := lv_entry ([.ref (a 49)]) (n := 5) (Nat.le_of_ble_eq_true rfl)
  rw [lg_entry_eq]
  generalize (lg_sl ([.ref (a 49)]) ++ List.replicate (5 - (lg_sl ([.ref (a 49)])).length) Slot.unset).toArray = ls at hl ⊢
  have hl : lv_has ls 5 [(0, .ref (a 49))] := hl
  unfold m_x1_actBySeed at h
  refine y_head (pcJ := 23) (σ := MS) (fun u H locs ls => va_P D vwCl (CS D a u) H ∧ va_S A s₀.heap H locs ∧ lv_has ls 5 [(0, .ref (a 49))] ∧ m_x1_actBySeed_J23 u = some o) (fun u => []) (fun u H locs ls hI => ?_) (fun J23 => ?_)
  · obtain ⟨hP, hS, hl, h⟩ := hI
    obtain ⟨s1, rfl⟩ : ∃ z, z = u := ⟨u, rfl⟩
    have hP : va_P D vwCl (CS D a s1) H := hP
    have hl : lv_has ls 5 [(0, .ref (a 49))] := hl
    have h : m_x1_actBySeed_J23 s1 = some o := h
    unfold m_x1_actBySeed_J23 at h
    refine lv_aload_n hx hb eX1_actBySeed_10.2.2.2.2.2.1 rfl (lv_at hl 0 rfl) ?_
    refine va_get (D := D) (ci := 1) (v := .ref (a 53)) (C := RX1) (T := TX1) (N := 9) hx hb ht inX1 hown hK hP 49 CW_49 rfl 0 (by decide) (ht (.fieldLink RX1 12 "CloneVolumes$Forest" "now" "LCloneVolumes$State;") fl_X1_12) (fun _ h9 => h9) rfl eX1_actBySeed_10.2.2.2.2.2.2.1 ?_
    obtain ⟨r3, hc2, h⟩ := bn_e h
    refine ycV (r0 := i2 r3) (As := []) (rest := []) (C := RX8) (n := 0) ⟨hx, hb, hml, hown, ht⟩ (k_x8_volumes l D a _ _ hc2) (zgV ml_X1_289 im_X8_volumes se_X8_volumes in_X8 co_X8_volumes) rfl rfl (by decide +kernel) ⟨Nat.le_of_ble_eq_true rfl, Nat.le_of_ble_eq_true rfl⟩ hN hK hP hS 53 CW_53 rfl rfl rfl hl.1 rfl (Nat.le_of_ble_eq_true rfl) eX1_actBySeed_10.2.2.2.2.2.2.2 ⟨Nat.le_of_ble_eq_true rfl, Nat.le_of_ble_eq_true rfl⟩ (fun H locs hP hS => ?_)
    refine lv_istore_n (lv' := [(1, .int (i2 r3)), (0, .ref (a 49))]) hx hb eX1_actBySeed_30.1 rfl hl (by decide) rfl (fun ls hl => ?_)
    refine lv_iload_n hx hb eX1_actBySeed_30.2.1 rfl (lv_at hl 0 rfl) ?_
    obtain ⟨hr4, h⟩ := rg_e h
    refine lv_if_ne (tgt := 37) hx hb eX1_actBySeed_30.2.2.1 (by decide) (fun c5 => ?_) (fun c5 => ?_)
    · have h := if_f (mt (i2_eq (x := r3) (y := 0) hr4 (by decide)).mpr c5) h
      refine lv_aload_n hx hb eX1_actBySeed_30.2.2.2.2.2.1 rfl (lv_at hl 1 rfl) ?_
      refine lv_aload_n hx hb eX1_actBySeed_30.2.2.2.2.2.2.1 rfl (lv_at hl 1 rfl) ?_
      refine lv_iload_n hx hb eX1_actBySeed_30.2.2.2.2.2.2.2 rfl (lv_at hl 0 rfl) ?_
      obtain ⟨⟨r8, s7⟩, hc6, h⟩ := bn_e h
      refine ywV (r0 := i2 r8) (As := [.int (i2 r3)]) (rest := [.ref (a 49)]) (C := RX1) (n := 1) (ws' := CS D a s7) ⟨hx, hb, hml, hown, ht⟩ (k_x1_draw l D a r3 _ _ _ hc6) (zgV ml_X1_283 im_X1_draw se_X1_draw in_X1 co_X1_draw) rfl rfl (by decide +kernel) ⟨Nat.le_of_ble_eq_true rfl, Nat.le_of_ble_eq_true rfl⟩ hN hK hP (hDD _) hS hA 49 CW_49 rfl rfl rfl hl.1 rfl (Nat.le_of_ble_eq_true rfl) eX1_actBySeed_40.1 ⟨Nat.le_of_ble_eq_true rfl, Nat.le_of_ble_eq_true rfl⟩ (fun H locs hP hS => ?_)
      obtain ⟨r10, hc9, h⟩ := bn_e h
      refine ycV (r0 := i2 r10) (As := [.int (i2 r8)]) (rest := []) (C := RX1) (n := 1) ⟨hx, hb, hml, hown, ht⟩ (k_x1_volumeAt l D a r8 _ _ hc9) (zgV ml_X1_292 im_X1_volumeAt se_X1_volumeAt in_X1 co_X1_volumeAt) rfl rfl (by decide +kernel) ⟨Nat.le_of_ble_eq_true rfl, Nat.le_of_ble_eq_true rfl⟩ hN hK hP hS 49 CW_49 rfl rfl rfl hl.1 rfl (Nat.le_of_ble_eq_true rfl) eX1_actBySeed_40.2.1 ⟨Nat.le_of_ble_eq_true rfl, Nat.le_of_ble_eq_true rfl⟩ (fun H locs hP hS => ?_)
      refine lv_istore_n (lv' := [(2, .int (i2 r10)), (1, .int (i2 r3)), (0, .ref (a 49))]) hx hb eX1_actBySeed_40.2.2.1 rfl hl (by decide) rfl (fun ls hl => ?_)
      refine lv_aload_n hx hb eX1_actBySeed_40.2.2.2.1 rfl (lv_at hl 2 rfl) ?_
      refine lv_iconst (v := 3) hx hb eX1_actBySeed_40.2.2.2.2.1 (by decide) ?_
      obtain ⟨⟨r13, s12⟩, hc11, h⟩ := bn_e h
      refine ywV (r0 := i2 r13) (As := [.int 3]) (rest := []) (C := RX1) (n := 1) (ws' := CS D a s12) ⟨hx, hb, hml, hown, ht⟩ (k_x1_draw l D a 3 _ _ _ hc11) (zgV ml_X1_283 im_X1_draw se_X1_draw in_X1 co_X1_draw) rfl rfl (by decide +kernel) ⟨Nat.le_of_ble_eq_true rfl, Nat.le_of_ble_eq_true rfl⟩ hN hK hP (hDD _) hS hA 49 CW_49 rfl rfl rfl hl.1 rfl (Nat.le_of_ble_eq_true rfl) eX1_actBySeed_40.2.2.2.2.2.1 ⟨Nat.le_of_ble_eq_true rfl, Nat.le_of_ble_eq_true rfl⟩ (fun H locs hP hS => ?_)
      refine lv_istore_n (lv' := [(3, .int (i2 r13)), (2, .int (i2 r10)), (1, .int (i2 r3)), (0, .ref (a 49))]) hx hb eX1_actBySeed_40.2.2.2.2.2.2.1 rfl hl (by decide) rfl (fun ls hl => ?_)
      refine lv_aload_n hx hb eX1_actBySeed_40.2.2.2.2.2.2.2 rfl (lv_at hl 3 rfl) ?_
      refine lv_bipush (v := 40) hx hb eX1_actBySeed_54.1 (by decide) ?_
      obtain ⟨⟨r16, s15⟩, hc14, h⟩ := bn_e h
      refine ywV (r0 := i2 r16) (As := [.int 40]) (rest := []) (C := RX1) (n := 1) (ws' := CS D a s15) ⟨hx, hb, hml, hown, ht⟩ (k_x1_draw l D a 40 _ _ _ hc14) (zgV ml_X1_283 im_X1_draw se_X1_draw in_X1 co_X1_draw) rfl rfl (by decide +kernel) ⟨Nat.le_of_ble_eq_true rfl, Nat.le_of_ble_eq_true rfl⟩ hN hK hP (hDD _) hS hA 49 CW_49 rfl rfl rfl hl.1 rfl (Nat.le_of_ble_eq_true rfl) eX1_actBySeed_54.2.1 ⟨Nat.le_of_ble_eq_true rfl, Nat.le_of_ble_eq_true rfl⟩ (fun H locs hP hS => ?_)
      refine lv_istore (lv' := [(4, .int (i2 r16)), (3, .int (i2 r13)), (2, .int (i2 r10)), (1, .int (i2 r3)), (0, .ref (a 49))]) hx hb eX1_actBySeed_54.2.2.1 hl (by decide) rfl (fun ls hl => ?_)
      refine lv_iload_n hx hb eX1_actBySeed_54.2.2.2.1 rfl (lv_at hl 1 rfl) ?_
      refine lv_iconst (v := 2) hx hb eX1_actBySeed_54.2.2.2.2.1 (by decide) ?_
      obtain ⟨hr17, h⟩ := rg_e h
      refine lv_icmp_ne (tgt := 74) hx hb eX1_actBySeed_54.2.2.2.2.2.1 (by decide) (fun c18 => ?_) (fun c18 => ?_)
      · have h := if_f (mt (i2_eq (x := r13) (y := 2) hr17 (by decide)).mpr c18) h
        refine lv_aload_n hx hb eX1_actBySeed_68.2.2.2.1 rfl (lv_at hl 4 rfl) ?_
        refine lv_iload_n hx hb eX1_actBySeed_68.2.2.2.2.1 rfl (lv_at hl 2 rfl) ?_
        refine lv_iload hx hb eX1_actBySeed_68.2.2.2.2.2.1 (lv_at hl 0 rfl) ?_
        refine lv_aload_n hx hb eX1_actBySeed_68.2.2.2.2.2.2.1 rfl (lv_at hl 4 rfl) ?_
        refine lv_bipush (v := 100) hx hb eX1_actBySeed_68.2.2.2.2.2.2.2 (by decide) ?_
        obtain ⟨⟨r21, s20⟩, hc19, h⟩ := bn_e h
        refine ywV (r0 := i2 r21) (As := [.int 100]) (rest := [.int (i2 r16), .int (i2 r10), .ref (a 49)]) (C := RX1) (n := 1) (ws' := CS D a s20) ⟨hx, hb, hml, hown, ht⟩ (k_x1_draw l D a 100 _ _ _ hc19) (zgV ml_X1_283 im_X1_draw se_X1_draw in_X1 co_X1_draw) rfl rfl (by decide +kernel) ⟨Nat.le_of_ble_eq_true rfl, Nat.le_of_ble_eq_true rfl⟩ hN hK hP (hDD _) hS hA 49 CW_49 rfl rfl rfl hl.1 rfl (Nat.le_of_ble_eq_true rfl) eX1_actBySeed_81.1 ⟨Nat.le_of_ble_eq_true rfl, Nat.le_of_ble_eq_true rfl⟩ (fun H locs hP hS => ?_)
        obtain ⟨⟨r24, s23⟩, hc22, h⟩ := bn_e h
        refine ywV (r0 := i2 r24) (As := [.int (i2 r10), .int (i2 r16), .int (i2 r21)]) (rest := []) (C := RX1) (n := 3) (ws' := CS D a s23) ⟨hx, hb, hml, hown, ht⟩ (k_x1_tryPlant l D a r10 r16 r21 _ _ _ hc22) (zgV ml_X1_82 im_X1_tryPlant se_X1_tryPlant in_X1 co_X1_tryPlant) rfl rfl (by decide +kernel) ⟨Nat.le_of_ble_eq_true rfl, Nat.le_of_ble_eq_true rfl⟩ hN hK hP (hDD _) hS hA 49 CW_49 rfl rfl rfl hl.1 rfl (Nat.le_of_ble_eq_true rfl) eX1_actBySeed_81.2.1 ⟨Nat.le_of_ble_eq_true rfl, Nat.le_of_ble_eq_true rfl⟩ (fun H locs hP hS => ?_)
        obtain ⟨hb25, h⟩ := bo_e h
        obtain rfl := Option.some.inj h
        exact W.zret (v := (i2 r24)) hx hb hr (bo_n hb25) (fun t ht hW => ⟨⟨_, (), rfl, rfl, by rw [ht]; exact hP, va_K.moved hW.alike hK, hDD _⟩, hS.F ht⟩) hS.2.2 eX1_actBySeed_81.2.2.1
      · have h := if_t ((i2_eq (x := r13) (y := 2) hr17 (by decide)).mp c18) h
        refine lv_aload_n hx hb eX1_actBySeed_54.2.2.2.2.2.2.1 rfl (lv_at hl 4 rfl) ?_
        refine lv_iload_n hx hb eX1_actBySeed_54.2.2.2.2.2.2.2 rfl (lv_at hl 2 rfl) ?_
        refine lv_iload hx hb eX1_actBySeed_68.1 (lv_at hl 0 rfl) ?_
        obtain ⟨⟨r28, s27⟩, hc26, h⟩ := bn_e h
        refine ywV (r0 := i2 r28) (As := [.int (i2 r10), .int (i2 r16)]) (rest := []) (C := RX1) (n := 2) (ws' := CS D a s27) ⟨hx, hb, hml, hown, ht⟩ (k_x1_tryUproot l D a r10 r16 _ _ _ hc26) (zgV ml_X1_86 im_X1_tryUproot se_X1_tryUproot in_X1 co_X1_tryUproot) rfl rfl (by decide +kernel) ⟨Nat.le_of_ble_eq_true rfl, Nat.le_of_ble_eq_true rfl⟩ hN hK hP (hDD _) hS hA 49 CW_49 rfl rfl rfl hl.1 rfl (Nat.le_of_ble_eq_true rfl) eX1_actBySeed_68.2.1 ⟨Nat.le_of_ble_eq_true rfl, Nat.le_of_ble_eq_true rfl⟩ (fun H locs hP hS => ?_)
        obtain ⟨hb29, h⟩ := bo_e h
        obtain rfl := Option.some.inj h
        exact W.zret (v := (i2 r28)) hx hb hr (bo_n hb29) (fun t ht hW => ⟨⟨_, (), rfl, rfl, by rw [ht]; exact hP, va_K.moved hW.alike hK, hDD _⟩, hS.F ht⟩) hS.2.2 eX1_actBySeed_68.2.2.1
    · have h := if_t ((i2_eq (x := r3) (y := 0) hr4 (by decide)).mp c5) h
      refine lv_iconst (v := 0) hx hb eX1_actBySeed_30.2.2.2.1 (by decide) ?_
      obtain rfl := Option.some.inj h
      exact W.zret (v := 0) hx hb hr (by decide) (fun t ht hW => ⟨⟨_, (), rfl, rfl, by rw [ht]; exact hP, va_K.moved hW.alike hK, hDD _⟩, hS.F ht⟩) hS.2.2 eX1_actBySeed_30.2.2.2.2.1
  refine lv_aload_n hx hb eX11_remove_47.2.2.2.1 rfl (lv_at hl 0 rfl) ?_
  refine lv_bipush (v := 100) hx hb eX11_remove_47.2.2.2.2.1 (by decide) ?_
  obtain ⟨⟨r32, s31⟩, hc30, h⟩ := bn_e h
  refine ywV (r0 := i2 r32) (As := [.int 100]) (rest := []) (C := RX1) (n := 1) (ws' := CS D a s31) ⟨hx, hb, hml, hown, ht⟩ (k_x1_draw l D a 100 _ _ _ hc30) (zgV ml_X1_283 im_X1_draw se_X1_draw in_X1 co_X1_draw) rfl rfl (by decide +kernel) ⟨Nat.le_of_ble_eq_true rfl, Nat.le_of_ble_eq_true rfl⟩ hN hK hP (hDD _) hS hA 49 CW_49 rfl rfl rfl hl.1 rfl (Nat.le_of_ble_eq_true rfl) eX11_remove_47.2.2.2.2.2.1 ⟨Nat.le_of_ble_eq_true rfl, Nat.le_of_ble_eq_true rfl⟩ (fun H locs hP hS => ?_)
  refine lv_aload_n hx hb eX11_remove_47.2.2.2.2.2.2.1 rfl (lv_at hl 0 rfl) ?_
  refine va_get (D := D) (ci := 1) (v := .ref (a 29)) (C := RX1) (T := TX1) (N := 9) hx hb ht inX1 hown hK hP 49 CW_49 rfl 4 (by decide) (ht (.fieldLink RX1 47 "CloneVolumes$Forest" "plan" "LCloneVolumes$Plan;") fl_X1_47) (fun _ h9 => h9) rfl eX11_remove_47.2.2.2.2.2.2.2 ?_
  refine va_get (D := D) (ci := 5) (v := .int (i2 (gI s31 582))) (C := RX5) (T := TX5) (N := 14) hx hb ht inX5 hown hK hP 29 CW_29 rfl 2 (by decide) (ht (.fieldLink RX1 286 "CloneVolumes$Plan" "churn" "I") fl_X1_286) (fun _ h9 => h9) rfl eX1_actBySeed_10.1 ?_
  obtain ⟨hr33, h⟩ := rg_e h
  obtain ⟨hr34, h⟩ := rg_e h
  refine lv_icmp_ge (tgt := 23) hx hb eX1_actBySeed_10.2.1 (by decide) (fun c35 => ?_) (fun c35 => ?_)
  · have h := if_t ((i2_le (x := (gI s31 582)) (y := r32) hr34 hr33).mp c35) h
    exact J23 s31 _ _ _ ⟨hP, hS, lv_sub hl [0] rfl, h⟩
  · have h := if_f (mt (i2_le (x := (gI s31 582)) (y := r32) hr34 hr33).mpr c35) h
    refine lv_aload_n hx hb eX1_actBySeed_10.2.2.1 rfl (lv_at hl 0 rfl) ?_
    refine va_get (D := D) (ci := 1) (v := .ref (a 53)) (C := RX1) (T := TX1) (N := 9) hx hb ht inX1 hown hK hP 49 CW_49 rfl 0 (by decide) (ht (.fieldLink RX1 12 "CloneVolumes$Forest" "now" "LCloneVolumes$State;") fl_X1_12) (fun _ h9 => h9) rfl eX1_actBySeed_10.2.2.2.1 ?_
    obtain ⟨s37, hc36, h⟩ := bn_e h
    refine ywVv (As := []) (rest := []) (C := RX8) (n := 0) (ws' := CS D a s37) ⟨hx, hb, hml, hown, ht⟩ (k_x8_save l D a _ _ _ hc36) (zgV ml_X1_90 im_X8_save se_X8_save in_X8 co_X8_save) rfl rfl (by decide +kernel) ⟨Nat.le_of_ble_eq_true rfl, Nat.le_of_ble_eq_true rfl⟩ hN hK hP (hDD _) hS hA 53 CW_53 rfl rfl rfl hl.1 rfl (Nat.le_of_ble_eq_true rfl) eX1_actBySeed_10.2.2.2.2.1 ⟨Nat.le_of_ble_eq_true rfl, Nat.le_of_ble_eq_true rfl⟩ (fun H locs hP hS => ?_)
    exact J23 s37 _ _ _ ⟨hP, hS, lv_sub hl [0] rfl, h⟩
theorem co_X1_actBySeed : Cond.code yX1_actBySeed cX1_actBySeed 5 (some .boolean) ∈ lw_gd := zm (lw_g_5 (List.mem_of_getElem? (i := 236) (by decide +kernel))) rfl
theorem im_X1_actBySeed : Cond.instanceMethod yX1_actBySeed ∈ lw_gd := zm (lw_g_5 (List.mem_of_getElem? (i := 234) (by decide +kernel))) rfl
theorem ml_X11_305 : Cond.methodLink RX11 305 yX1_actBySeed ∈ lw_gd := zm (lw_g_5 (List.mem_of_getElem? (i := 233) (by decide +kernel))) rfl
theorem se_X1_actBySeed : Cond.selects RX1 yX1_actBySeed yX1_actBySeed ∈ lw_gd := zm (lw_g_5 (List.mem_of_getElem? (i := 235) (by decide +kernel))) rfl
theorem eX11_chance_0 : decode cX11_chance 0 = .ok (.aload_n 0, 1) ∧ decode cX11_chance 1 = .ok (.getfield 112, 3) ∧ decode cX11_chance 4 = .ok (.ifCond .eq 14, 3) ∧ decode cX11_chance 7 = .ok (.iload_n 1, 1) ∧ decode cX11_chance 8 = .ok (.iconst 1, 1) ∧ decode cX11_chance 9 = .ok (.if_icmp .lt 9, 3) ∧ decode cX11_chance 12 = .ok (.iload_n 1, 1) ∧ decode cX11_chance 13 = .ok (.bipush 40, 2) := by decide +kernel
theorem eX11_chance_15 : decode cX11_chance 15 = .ok (.if_icmp .le 9, 3) ∧ decode cX11_chance 18 = .ok (.aload_n 0, 1) ∧ decode cX11_chance 19 = .ok (.iconst 3, 1) ∧ decode cX11_chance 20 = .ok (.invokevirtual 87, 3) ∧ decode cX11_chance 23 = .ok (.ireturn, 1) ∧ decode cX11_chance 24 = .ok (.aload_n 0, 1) ∧ decode cX11_chance 25 = .ok (.getfield 79, 3) ∧ decode cX11_chance 28 = .ok (.invokevirtual 272, 3) := by decide +kernel
theorem eX11_chance_31 : decode cX11_chance 31 = .ok (.iconst 0, 1) ∧ decode cX11_chance 32 = .ok (.istore_n 2, 1) ∧ decode cX11_chance 33 = .ok (.iconst 0, 1) ∧ decode cX11_chance 34 = .ok (.istore_n 3, 1) ∧ decode cX11_chance 35 = .ok (.iload_n 3, 1) ∧ decode cX11_chance 36 = .ok (.iload_n 1, 1) ∧ decode cX11_chance 37 = .ok (.if_icmp .ge 22, 3) ∧ decode cX11_chance 40 = .ok (.aload_n 0, 1) := by decide +kernel
theorem eX11_chance_41 : decode cX11_chance 41 = .ok (.getfield 79, 3) ∧ decode cX11_chance 44 = .ok (.invokevirtual 305, 3) ∧ decode cX11_chance 47 = .ok (.ifCond .eq 6, 3) ∧ decode cX11_chance 50 = .ok (.iinc 2 1, 3) ∧ decode cX11_chance 53 = .ok (.iinc 3 1, 3) ∧ decode cX11_chance 56 = .ok (.goto (-21), 3) ∧ decode cX11_chance 59 = .ok (.aload_n 0, 1) ∧ decode cX11_chance 60 = .ok (.bipush 6, 2) := by decide +kernel
theorem eX11_chance_62 : decode cX11_chance 62 = .ok (.sipush 255, 3) ∧ decode cX11_chance 65 = .ok (.invokevirtual 279, 3) ∧ decode cX11_chance 68 = .ok (.pop, 1) ∧ decode cX11_chance 69 = .ok (.iload_n 2, 1) ∧ decode cX11_chance 70 = .ok (.ireturn, 1) := by decide +kernel
set_option maxHeartbeats 4000000 in
set_option maxRecDepth 100000 in
theorem k_x11_chance (l : Launch) (D : va_G) (a0 : Nat → Nat) (p0 : Int) (sz : Nat) (s : MS) (ps : List ((Nat → Nat) × MS)) (ts : List MS) (hts : ps.map Prod.snd = ts) (o : Int × MS × List MS) (h : m_x11_chance ts p0 s = some o) : yU l yX11_chance cX11_chance 4 (some .int) { frames := 7, cells := 9, slots := 795, locals := 420 } D sz [.ref (a0 0), .int (i2 p0)] a0 s ps (i2 o.1) o.2.1 o.2.2 := by
  refine Met.ofW (cc := cX11_chance) (maxL := 4) (ret := (some .int)) (by decide) rfl ?_
  intro p e s₀ m args below meth c s₁ B hml hv
  obtain ⟨rfl, ⟨hsz, hP, hK, hD0⟩, hN⟩ := hv
  have hx := B.exec
  have hb := B.bytes
  have hr := B.returns
  have hat := atoms_spec (ws := wz yX11_chance cX11_chance 4 (some .int)) B.pre
  have ht : ∀ w ∈ lw_gd, w.before _ s₀ = true := fun w h => hat w (List.mem_cons_of_mem _ h)
  have hown : s₀.vm.findClass RX11 = some m.cls := findClass_of_methodNamed B.named
  have hlocks := B.notSynchronized
  subst hsz
  have hD := hD0.self (sz := s₀.heap.size)
  generalize hAe : va_A (XW D a0 s ps) s₀.heap.size = A at hD ⊢
  have hA : ∀ q : Nat, s₀.heap.size ≤ q → A q := fun q h => by rw [← hAe]; exact Or.inr h
  have hS : va_S A s₀.heap s₀.heap [] := va_S.rf
  have hl := lv_entry ([.ref (a0 0), .int (i2 p0)]) (n := 4) (Nat.le_of_ble_eq_true rfl)
  rw [lg_entry_eq]
  generalize (lg_sl ([.ref (a0 0), .int (i2 p0)]) ++ List.replicate (4 - (lg_sl ([.ref (a0 0), .int (i2 p0)])).length) Slot.unset).toArray = ls at hl ⊢
  obtain ⟨a, ha⟩ : ∃ a : Nat → Nat, a = a0 := ⟨a0, rfl⟩
  rw [← ha] at hP hD hl
  have hu : ∀ k, (k < 62 ∨ 70 < k) → a k = a0 k := fun k _ => by rw [ha]
  have hDD : ∀ t : MS, va_D A (CS D a t ++ PT D (a 90) ps) := fun t => va_D_same hD rfl
  have hl : lv_has ls 4 [(0, .ref (a 0)), (1, .int (i2 p0))] := hl
  clear ha
  unfold m_x11_chance at h
  refine y_loop (pcJ := 35) (σ := Int × Int × Int × MS) (fun n u H locs ls => va_P D vwCl (CS D a u.2.2.2 ++ PT D (a 90) ps) H ∧ va_S A s₀.heap H locs ∧ lv_has ls 4 [(0, .ref (a 0)), (1, .int (i2 u.1)), (2, .int (i2 u.2.1)), (3, .int (i2 u.2.2.1))] ∧ m_x11_chance_L35 ts n u.1 u.2.1 u.2.2.1 u.2.2.2 = some o) (fun u => []) (fun u H locs ls hI => by obtain ⟨_, _, _, h⟩ := hI; cases h) (fun n35 ih35 u H locs ls hI => ?_) (fun J35 => ?_)
  · obtain ⟨hP, hS, hl, h⟩ := hI
    obtain ⟨x1, x2, x3, s4⟩ := u
    have hP : va_P D vwCl (CS D a s4 ++ PT D (a 90) ps) H := hP
    have hl : lv_has ls 4 [(0, .ref (a 0)), (1, .int (i2 x1)), (2, .int (i2 x2)), (3, .int (i2 x3))] := hl
    have h : m_x11_chance_b35 ts (m_x11_chance_L35 ts n35) x1 x2 x3 s4 = some o := h
    unfold m_x11_chance_b35 at h
    refine y_head (pcJ := 53) (σ := Int × Int × Int × MS) (fun u H locs ls => va_P D vwCl (CS D a u.2.2.2 ++ PT D (a 90) ps) H ∧ va_S A s₀.heap H locs ∧ lv_has ls 4 [(0, .ref (a 0)), (1, .int (i2 u.1)), (2, .int (i2 u.2.1)), (3, .int (i2 u.2.2.1))] ∧ m_x11_chance_J53 ts (m_x11_chance_L35 ts n35) u.1 u.2.1 u.2.2.1 u.2.2.2 = some o) (fun u => []) (fun u H locs ls hI => ?_) (fun J53 => ?_)
    · obtain ⟨hP, hS, hl, h⟩ := hI
      obtain ⟨x5, x6, x7, s8⟩ := u
      have hP : va_P D vwCl (CS D a s8 ++ PT D (a 90) ps) H := hP
      have hl : lv_has ls 4 [(0, .ref (a 0)), (1, .int (i2 x5)), (2, .int (i2 x6)), (3, .int (i2 x7))] := hl
      have h : m_x11_chance_J53 ts (m_x11_chance_L35 ts n35) x5 x6 x7 s8 = some o := h
      unfold m_x11_chance_J53 at h
      refine lv_iinc (v := i2 (x7 + 1)) (lv' := [(3, .int (i2 (x7 + 1))), (0, .ref (a 0)), (1, .int (i2 x5)), (2, .int (i2 x6))]) hx hb eX11_chance_41.2.2.2.2.1 hl (k := 3) rfl (i2_add x7 1) (by decide) rfl (fun ls hl => ?_)
      refine lv_goto (tgt := 35) hx hb eX11_chance_41.2.2.2.2.2.1 (by decide) ?_
      exact ih35 (x5, x6, x7 + 1, s8) _ _ _ ⟨hP, hS, lv_sub hl [1, 2, 3, 0] rfl, h⟩
    refine lv_iload_n hx hb eX11_chance_31.2.2.2.2.1 rfl (lv_at hl 3 rfl) ?_
    refine lv_iload_n hx hb eX11_chance_31.2.2.2.2.2.1 rfl (lv_at hl 1 rfl) ?_
    obtain ⟨hr9, h⟩ := rg_e h
    obtain ⟨hr10, h⟩ := rg_e h
    refine lv_icmp_ge (tgt := 59) hx hb eX11_chance_31.2.2.2.2.2.2.1 (by decide) (fun c11 => ?_) (fun c11 => ?_)
    · have h := if_t ((i2_le (x := x1) (y := x3) hr10 hr9).mp c11) h
      refine lv_aload_n hx hb eX11_chance_41.2.2.2.2.2.2.1 rfl (lv_at hl 0 rfl) ?_
      refine lv_bipush (v := 6) hx hb eX11_chance_41.2.2.2.2.2.2.2 (by decide) ?_
      refine lv_sipush (v := 255) hx hb eX11_chance_62.1 (by decide) ?_
      obtain ⟨⟨r13, s14, t15⟩, hc12, h⟩ := bn_e h
      refine ywU (r0 := i2 r13) (As := [.int 6, .int 255]) (rest := []) (C := RX11) (n := 2) ⟨hx, hb, hml, hown, ht⟩ (k_finish l D a 6 255 _ _ ps ts hts _ hc12) (zgV ml_X11_279 im_X11_finish se_X11_finish in_X11 co_X11_finish) rfl rfl (by decide +kernel) ⟨Nat.le_of_ble_eq_true rfl, Nat.le_of_ble_eq_true rfl⟩ hN hK hP (hDD _) hS hA 0 (ap_g CW_0) rfl rfl rfl hl.1 rfl (Nat.le_of_ble_eq_true rfl) eX11_chance_62.2.1 ⟨Nat.le_of_ble_eq_true rfl, Nat.le_of_ble_eq_true rfl⟩ (fun u H locs hu2 hts2 hP hD hS => ?_)
      have hu3 : ∀ k, (k < 62 ∨ 70 < k) → u.1 k = a0 k := fun k hk => (hu2 k hk).trans (hu k hk)
      rw [← hu2 0 (by decide)] at hl
      clear hu2 hu hts hDD
      obtain ⟨a, ps⟩ := u
      have hu : ∀ k, (k < 62 ∨ 70 < k) → a k = a0 k := hu3
      have hts : ps.map Prod.snd = t15 := hts2
      have hl : lv_has ls 4 [(0, .ref (a 0)), (1, .int (i2 x1)), (2, .int (i2 x2)), (3, .int (i2 x3))] := hl
      have hP : va_P D vwCl (CS D a s14 ++ PT D (a 90) ps) H := hP
      have hDD : ∀ t : MS, va_D A (CS D a t ++ PT D (a 90) ps) := fun t => va_D_same hD rfl
      refine lv_pop hx hb eX11_chance_62.2.2.1 rfl ?_
      refine lv_iload_n hx hb eX11_chance_62.2.2.2.1 rfl (lv_at hl 2 rfl) ?_
      obtain rfl := Option.some.inj h
      refine W.widen (k := 9) (n := 795) (Nat.le_of_ble_eq_true rfl) (Nat.le_of_ble_eq_true rfl) ?_
      exact W.iret (v := (i2 x2)) hx hb hr (fun t ht hW => ⟨⟨_, (a, ps), rfl, ⟨rfl, hu, hts⟩, by rw [ht]; exact hP, va_K.moved hW.alike hK, hDD _⟩, hS.F ht⟩) hS.2.2 eX11_chance_62.2.2.2.2
    · have h := if_f (mt (i2_le (x := x1) (y := x3) hr10 hr9).mpr c11) h
      refine lv_aload_n hx hb eX11_chance_31.2.2.2.2.2.2.2 rfl (lv_at hl 0 rfl) ?_
      refine va_get (D := D) (ci := 11) (v := .ref (a 49)) (C := RX11) (T := TX11) (N := 13) hx hb ht inX11 hown hK hP 0 (ap_g CW_0) rfl 11 (by decide) (ht (.fieldLink RX11 79 "CloneVolumes" "forest" "LCloneVolumes$Forest;") fl_X11_79) (fun _ h9 => h9) rfl eX11_chance_41.1 ?_
      obtain ⟨⟨r18, s17⟩, hc16, h⟩ := bn_e h
      refine ywV (r0 := i2 r18) (As := []) (rest := []) (C := RX1) (n := 0) (ws' := CS D a s17 ++ PT D (a 90) ps) ⟨hx, hb, hml, hown, ht⟩ (yWi_f _ (k_x1_actBySeed l D a _ _ _ hc16)) (zgV ml_X11_305 im_X1_actBySeed se_X1_actBySeed in_X1 co_X1_actBySeed) rfl rfl (by decide +kernel) ⟨Nat.le_of_ble_eq_true rfl, Nat.le_of_ble_eq_true rfl⟩ hN hK hP (hDD _) hS hA 49 (ap_g CW_49) rfl rfl rfl hl.1 rfl (Nat.le_of_ble_eq_true rfl) eX11_chance_41.2.1 ⟨Nat.le_of_ble_eq_true rfl, Nat.le_of_ble_eq_true rfl⟩ (fun H locs hP hS => ?_)
      obtain ⟨hr19, h⟩ := rg_e h
      refine lv_if_eq (tgt := 53) hx hb eX11_chance_41.2.2.1 (by decide) (fun c20 => ?_) (fun c20 => ?_)
      · have h := if_t ((i2_eq (x := r18) (y := 0) hr19 (by decide)).mp c20) h
        exact J53 (x1, x2, x3, s17) _ _ _ ⟨hP, hS, lv_sub hl [0, 1, 2, 3] rfl, h⟩
      · have h := if_f (mt (i2_eq (x := r18) (y := 0) hr19 (by decide)).mpr c20) h
        refine lv_iinc (v := i2 (x2 + 1)) (lv' := [(2, .int (i2 (x2 + 1))), (0, .ref (a 0)), (1, .int (i2 x1)), (3, .int (i2 x3))]) hx hb eX11_chance_41.2.2.2.1 hl (k := 2) rfl (i2_add x2 1) (by decide) rfl (fun ls hl => ?_)
        exact J53 (x1, x2 + 1, x3, s17) _ _ _ ⟨hP, hS, lv_sub hl [1, 2, 0, 3] rfl, h⟩
  refine y_head (pcJ := 18) (σ := MS) (fun u H locs ls => va_P D vwCl (CS D a u ++ PT D (a 90) ps) H ∧ va_S A s₀.heap H locs ∧ lv_has ls 4 [(0, .ref (a 0))] ∧ m_x11_chance_J18 ts u = some o) (fun u => []) (fun u H locs ls hI => ?_) (fun J18 => ?_)
  · obtain ⟨hP, hS, hl, h⟩ := hI
    obtain ⟨s21, rfl⟩ : ∃ z, z = u := ⟨u, rfl⟩
    have hP : va_P D vwCl (CS D a s21 ++ PT D (a 90) ps) H := hP
    have hl : lv_has ls 4 [(0, .ref (a 0))] := hl
    have h : m_x11_chance_J18 ts s21 = some o := h
    unfold m_x11_chance_J18 at h
    refine lv_aload_n hx hb eX11_chance_15.2.1 rfl (lv_at hl 0 rfl) ?_
    refine lv_iconst (v := 3) hx hb eX11_chance_15.2.2.1 (by decide) ?_
    obtain ⟨⟨r24, s23⟩, hc22, h⟩ := bn_e h
    refine ywV (r0 := i2 r24) (As := [.int 3]) (rest := []) (C := RX11) (n := 1) (ws' := CS D a s23 ++ PT D (a 90) ps) ⟨hx, hb, hml, hown, ht⟩ (yWi_f _ (k_x11_refuse l D a 3 _ _ _ hc22)) (zgV ml_X11_87 im_X11_refuse se_X11_refuse in_X11 co_X11_refuse) rfl rfl (by decide +kernel) ⟨Nat.le_of_ble_eq_true rfl, Nat.le_of_ble_eq_true rfl⟩ hN hK hP (hDD _) hS hA 0 (ap_g CW_0) rfl rfl rfl hl.1 rfl (Nat.le_of_ble_eq_true rfl) eX11_chance_15.2.2.2.1 ⟨Nat.le_of_ble_eq_true rfl, Nat.le_of_ble_eq_true rfl⟩ (fun H locs hP hS => ?_)
    obtain rfl := Option.some.inj h
    refine W.widen (k := 9) (n := 795) (Nat.le_of_ble_eq_true rfl) (Nat.le_of_ble_eq_true rfl) ?_
    exact W.iret (v := (i2 r24)) hx hb hr (fun t ht hW => ⟨⟨_, (a, ps), rfl, ⟨rfl, hu, hts⟩, by rw [ht]; exact hP, va_K.moved hW.alike hK, hDD _⟩, hS.F ht⟩) hS.2.2 eX11_chance_15.2.2.2.2.1
  refine lv_aload_n hx hb eX11_chance_0.1 rfl (lv_at hl 0 rfl) ?_
  refine va_get (D := D) (ci := 11) (v := .int (i2 (gI s 12))) (C := RX11) (T := TX11) (N := 13) hx hb ht inX11 hown hK hP 0 (ap_g CW_0) rfl 12 (by decide) (ht (.fieldLink RX11 112 "CloneVolumes" "told" "Z") fl_X11_112) (fun _ h9 => h9) rfl eX11_chance_0.2.1 ?_
  obtain ⟨hr25, h⟩ := rg_e h
  refine lv_if_eq (tgt := 18) hx hb eX11_chance_0.2.2.1 (by decide) (fun c26 => ?_) (fun c26 => ?_)
  · have h := if_t ((i2_eq (x := (gI s 12)) (y := 0) hr25 (by decide)).mp c26) h
    exact J18 s _ _ _ ⟨hP, hS, lv_sub hl [0] rfl, h⟩
  · have h := if_f (mt (i2_eq (x := (gI s 12)) (y := 0) hr25 (by decide)).mpr c26) h
    refine lv_iload_n hx hb eX11_chance_0.2.2.2.1 rfl (lv_at hl 1 rfl) ?_
    refine lv_iconst (v := 1) hx hb eX11_chance_0.2.2.2.2.1 (by decide) ?_
    obtain ⟨hr27, h⟩ := rg_e h
    refine lv_icmp_lt (tgt := 18) hx hb eX11_chance_0.2.2.2.2.2.1 (by decide) (fun c28 => ?_) (fun c28 => ?_)
    · have h := if_t ((i2_lt (x := p0) (y := 1) hr27 (by decide)).mp c28) h
      exact J18 s _ _ _ ⟨hP, hS, lv_sub hl [0] rfl, h⟩
    · have h := if_f (mt (i2_lt (x := p0) (y := 1) hr27 (by decide)).mpr c28) h
      refine lv_iload_n hx hb eX11_chance_0.2.2.2.2.2.2.1 rfl (lv_at hl 1 rfl) ?_
      refine lv_bipush (v := 40) hx hb eX11_chance_0.2.2.2.2.2.2.2 (by decide) ?_
      obtain ⟨hr29, h⟩ := rg_e h
      refine lv_icmp_le (tgt := 24) hx hb eX11_chance_15.1 (by decide) (fun c30 => ?_) (fun c30 => ?_)
      · have h := if_t ((i2_le (x := p0) (y := 40) hr29 (by decide)).mp c30) h
        refine lv_aload_n hx hb eX11_chance_15.2.2.2.2.2.1 rfl (lv_at hl 0 rfl) ?_
        refine va_get (D := D) (ci := 11) (v := .ref (a 49)) (C := RX11) (T := TX11) (N := 13) hx hb ht inX11 hown hK hP 0 (ap_g CW_0) rfl 11 (by decide) (ht (.fieldLink RX11 79 "CloneVolumes" "forest" "LCloneVolumes$Forest;") fl_X11_79) (fun _ h9 => h9) rfl eX11_chance_15.2.2.2.2.2.2.1 ?_
        obtain ⟨s32, hc31, h⟩ := bn_e h
        refine ywVv (As := []) (rest := []) (C := RX1) (n := 0) (ws' := CS D a s32 ++ PT D (a 90) ps) ⟨hx, hb, hml, hown, ht⟩ (yWv_f _ (k_x1_begin l D a _ _ _ hc31)) (zgV ml_X11_272 im_X1_begin se_X1_begin in_X1 co_X1_begin) rfl rfl (by decide +kernel) ⟨Nat.le_of_ble_eq_true rfl, Nat.le_of_ble_eq_true rfl⟩ hN hK hP (hDD _) hS hA 49 (ap_g CW_49) rfl rfl rfl hl.1 rfl (Nat.le_of_ble_eq_true rfl) eX11_chance_15.2.2.2.2.2.2.2 ⟨Nat.le_of_ble_eq_true rfl, Nat.le_of_ble_eq_true rfl⟩ (fun H locs hP hS => ?_)
        refine lv_iconst (v := 0) hx hb eX11_chance_31.1 (by decide) ?_
        refine lv_istore_n (lv' := [(2, .int 0), (0, .ref (a 0)), (1, .int (i2 p0))]) hx hb eX11_chance_31.2.1 rfl hl (by decide) rfl (fun ls hl => ?_)
        refine lv_iconst (v := 0) hx hb eX11_chance_31.2.2.1 (by decide) ?_
        refine lv_istore_n (lv' := [(3, .int 0), (2, .int 0), (0, .ref (a 0)), (1, .int (i2 p0))]) hx hb eX11_chance_31.2.2.2.1 rfl hl (by decide) rfl (fun ls hl => ?_)
        exact J35 FU (p0, 0, 0, s32) _ _ _ ⟨hP, hS, lv_sub hl [2, 3, 1, 0] rfl, h⟩
      · have h := if_f (mt (i2_le (x := p0) (y := 40) hr29 (by decide)).mpr c30) h
        exact J18 s _ _ _ ⟨hP, hS, lv_sub hl [0] rfl, h⟩
theorem co_X2_forget : Cond.code yX2_forget cX2_forget 1 (some (.object "CloneVolumes$State")) ∈ lw_gd := zm (lw_g_6 (List.mem_of_getElem? (i := 17) (by decide +kernel))) rfl
theorem im_X2_forget : Cond.instanceMethod yX2_forget ∈ lw_gd := zm (lw_g_6 (List.mem_of_getElem? (i := 15) (by decide +kernel))) rfl
theorem ml_X11_308 : Cond.methodLink RX11 308 yX2_forget ∈ lw_gd := zm (lw_g_6 (List.mem_of_getElem? (i := 14) (by decide +kernel))) rfl
theorem se_X2_forget : Cond.selects RX2 yX2_forget yX2_forget ∈ lw_gd := zm (lw_g_6 (List.mem_of_getElem? (i := 16) (by decide +kernel))) rfl
theorem eX11_undo_0 : decode cX11_undo 0 = .ok (.aload_n 0, 1) ∧ decode cX11_undo 1 = .ok (.getfield 28, 3) ∧ decode cX11_undo 4 = .ok (.invokevirtual 308, 3) ∧ decode cX11_undo 7 = .ok (.astore_n 1, 1) ∧ decode cX11_undo 8 = .ok (.aload_n 1, 1) ∧ decode cX11_undo 9 = .ok (.ifnonnull 11, 3) ∧ decode cX11_undo 12 = .ok (.aload_n 0, 1) ∧ decode cX11_undo 13 = .ok (.iconst 4, 1) := by decide +kernel
theorem eX11_undo_14 : decode cX11_undo 14 = .ok (.invokevirtual 87, 3) ∧ decode cX11_undo 17 = .ok (.pop, 1) ∧ decode cX11_undo 18 = .ok (.iconst 0, 1) ∧ decode cX11_undo 19 = .ok (.ireturn, 1) ∧ decode cX11_undo 20 = .ok (.aload_n 0, 1) ∧ decode cX11_undo 21 = .ok (.getfield 79, 3) ∧ decode cX11_undo 24 = .ok (.getfield 125, 3) ∧ decode cX11_undo 27 = .ok (.aload_n 1, 1) := by decide +kernel
theorem eX11_undo_28 : decode cX11_undo 28 = .ok (.invokevirtual 312, 3) ∧ decode cX11_undo 31 = .ok (.iconst 1, 1) ∧ decode cX11_undo 32 = .ok (.ireturn, 1) ∧ decode cX2_forget 0 = .ok (.aload_n 0, 1) ∧ decode cX2_forget 1 = .ok (.getfield 31, 3) ∧ decode cX2_forget 4 = .ok (.ifCond .eq 10, 3) ∧ decode cX2_forget 7 = .ok (.aload_n 0, 1) ∧ decode cX2_forget 8 = .ok (.getfield 27, 3) := by decide +kernel
theorem eX2_forget_11 : decode cX2_forget 11 = .ok (.ifCond .ne 5, 3) ∧ decode cX2_forget 14 = .ok (.aconst_null, 1) ∧ decode cX2_forget 15 = .ok (.areturn, 1) ∧ decode cX2_forget 16 = .ok (.aload_n 0, 1) ∧ decode cX2_forget 17 = .ok (.dup, 1) ∧ decode cX2_forget 18 = .ok (.getfield 31, 3) ∧ decode cX2_forget 21 = .ok (.iconst 1, 1) ∧ decode cX2_forget 22 = .ok (.isub, 1) := by decide +kernel
theorem eX2_forget_23 : decode cX2_forget 23 = .ok (.putfield 31, 3) ∧ decode cX2_forget 26 = .ok (.aload_n 0, 1) ∧ decode cX2_forget 27 = .ok (.dup, 1) ∧ decode cX2_forget 28 = .ok (.getfield 27, 3) ∧ decode cX2_forget 31 = .ok (.iconst 1, 1) ∧ decode cX2_forget 32 = .ok (.isub, 1) ∧ decode cX2_forget 33 = .ok (.putfield 27, 3) ∧ decode cX2_forget 36 = .ok (.aload_n 0, 1) := by decide +kernel
theorem eX2_forget_37 : decode cX2_forget 37 = .ok (.getfield 23, 3) ∧ decode cX2_forget 40 = .ok (.aload_n 0, 1) ∧ decode cX2_forget 41 = .ok (.getfield 31, 3) ∧ decode cX2_forget 44 = .ok (.aaload, 1) ∧ decode cX2_forget 45 = .ok (.areturn, 1) := by decide +kernel
set_option maxHeartbeats 4000000 in
set_option maxRecDepth 100000 in
theorem k_x8_becomeP (l : Launch) (D : va_G) (a : Nat → Nat) (c1 c2 c3 c4 : Value) (sz : Nat) (s : MS) (o : MS) (h : m_x8_becomeP s = some o) : yWv l yX8_become cX8_become 2 none { frames := 1, cells := 0, slots := 0, locals := 60 } D sz [.ref (a 53), .ref (a 62)] (CW D a c1 c2 c3 c4 s) (CW D a c1 c2 c3 c4 o) := by
  refine Met.ofW (cc := cX8_become) (maxL := 2) (ret := none) (by decide) rfl ?_
  intro p e s₀ m args below meth c s₁ B hml hv
  obtain ⟨rfl, ⟨hsz, hP, hK, hD0⟩, hN⟩ := hv
  have hx := B.exec
  have hb := B.bytes
  have hr := B.returns
  have hts := atoms_spec (ws := wz yX8_become cX8_become 2 none) B.pre
  have ht : ∀ w ∈ lw_gd, w.before _ s₀ = true := fun w h => hts w (List.mem_cons_of_mem _ h)
  have hown : s₀.vm.findClass RX8 = some m.cls := findClass_of_methodNamed B.named
  have hlocks := B.notSynchronized
  subst hsz
  have hD := hD0.self (sz := s₀.heap.size)
  generalize hAe : va_A (CW D a c1 c2 c3 c4 s) s₀.heap.size = A at hD ⊢
  have hA : ∀ q : Nat, s₀.heap.size ≤ q → A q := fun q h => by rw [← hAe]; exact Or.inr h
  have hS : va_S A s₀.heap s₀.heap [] := va_S.rf
  have hDD : ∀ t : MS, va_D A (CW D a c1 c2 c3 c4 t) := fun t => CW_D t hD
  have hl := lv_entry ([.ref (a 53), .ref (a 62)]) (n := 2) (Nat.le_of_ble_eq_true rfl)
  rw [lg_entry_eq]
  generalize (lg_sl ([.ref (a 53), .ref (a 62)]) ++ List.replicate (2 - (lg_sl ([.ref (a 53), .ref (a 62)])).length) Slot.unset).toArray = ls at hl ⊢
  have hl : lv_has ls 2 [(0, .ref (a 53)), (1, .ref (a 62))] := hl
  unfold m_x8_becomeP at h
  refine lv_aload_n hx hb eX11_unlike_229.2.2.2.2.2.2.2 rfl (lv_at hl 0 rfl) ?_
  refine lv_aload_n hx hb eX8_become_1.1 rfl (lv_at hl 1 rfl) ?_
  refine va_get (D := D) (ci := 8) (v := .int (i2 (gI s 1240))) (C := RX8) (T := TX8) (N := 11) hx hb ht inX8 hown hK hP 62 CW_62 rfl 0 (by decide) (ht (.fieldLink RX8 40 "CloneVolumes$State" "blocks" "I") fl_X8_40) (fun _ h9 => h9) rfl eX8_become_1.2.1 ?_
  refine ya_put (D := D) (ci := 8) (v := .int (i2 (gI s 1240))) (ty := .int) (C := RX8) (T := TX8) (N := 11) hx hb ht inX8 tyX8 tyX8_ok nmX8 hown hK hP (hDD _) hS 53 CW_53 rfl 0 (by decide) (ht (.fieldLink RX8 40 "CloneVolumes$State" "blocks" "I") fl_X8_40) (fun _ h9 => h9) rfl (by decide +kernel) rfl rfl (Nat.le_of_ble_eq_true rfl) eX8_become_1.2.2.1 (CW_w53_0 (gI s 1240)) (fun H locs hP hS => ?_)
  obtain ⟨s1, hs1, h⟩ := st_e h
  rw [hs1] at hP
  refine lv_aload_n hx hb eX8_become_1.2.2.2.1 rfl (lv_at hl 0 rfl) ?_
  refine lv_aload_n hx hb eX8_become_1.2.2.2.2.1 rfl (lv_at hl 1 rfl) ?_
  refine va_get (D := D) (ci := 8) (v := .int (i2 (gI s1 1241))) (C := RX8) (T := TX8) (N := 11) hx hb ht inX8 hown hK hP 62 CW_62 rfl 1 (by decide) (ht (.fieldLink RX8 44 "CloneVolumes$State" "spent" "I") fl_X8_44) (fun _ h9 => h9) rfl eX8_become_1.2.2.2.2.2.1 ?_
  refine ya_put (D := D) (ci := 8) (v := .int (i2 (gI s1 1241))) (ty := .int) (C := RX8) (T := TX8) (N := 11) hx hb ht inX8 tyX8 tyX8_ok nmX8 hown hK hP (hDD _) hS 53 CW_53 rfl 1 (by decide) (ht (.fieldLink RX8 44 "CloneVolumes$State" "spent" "I") fl_X8_44) (fun _ h9 => h9) rfl (by decide +kernel) rfl rfl (Nat.le_of_ble_eq_true rfl) eX8_become_1.2.2.2.2.2.2.1 (CW_w53_1 (gI s1 1241)) (fun H locs hP hS => ?_)
  obtain ⟨s2, hs2, h⟩ := st_e h
  rw [hs2] at hP
  refine lv_aload_n hx hb eX8_become_1.2.2.2.2.2.2.2 rfl (lv_at hl 0 rfl) ?_
  refine lv_aload_n hx hb eX8_become_17.1 rfl (lv_at hl 1 rfl) ?_
  refine va_get (D := D) (ci := 8) (v := .long (i8 (gL s2 1242))) (C := RX8) (T := TX8) (N := 11) hx hb ht inX8 hown hK hP 62 CW_62 rfl 2 (by decide) (ht (.fieldLink RX8 47 "CloneVolumes$State" "written" "J") fl_X8_47) (fun _ h9 => h9) rfl eX8_become_17.2.1 ?_
  refine ya_put (D := D) (ci := 8) (v := .long (i8 (gL s2 1242))) (ty := .long) (C := RX8) (T := TX8) (N := 11) hx hb ht inX8 tyX8 tyX8_ok nmX8 hown hK hP (hDD _) hS 53 CW_53 rfl 2 (by decide) (ht (.fieldLink RX8 47 "CloneVolumes$State" "written" "J") fl_X8_47) (fun _ h9 => h9) rfl (by decide +kernel) rfl rfl (Nat.le_of_ble_eq_true rfl) eX8_become_17.2.2.1 (CW_w53_2 (gL s2 1242)) (fun H locs hP hS => ?_)
  obtain ⟨s3, hs3, h⟩ := st_e h
  rw [hs3] at hP
  refine lv_aload_n hx hb eX8_become_17.2.2.2.1 rfl (lv_at hl 1 rfl) ?_
  refine va_get (D := D) (ci := 8) (v := .ref (a 63)) (C := RX8) (T := TX8) (N := 11) hx hb ht inX8 hown hK hP 62 CW_62 rfl 3 (by decide) (ht (.fieldLink RX8 9 "CloneVolumes$State" "count" "[I") fl_X8_9) (fun _ h9 => h9) rfl eX8_become_17.2.2.2.2.1 ?_
  refine lv_iconst (v := 0) hx hb eX8_become_17.2.2.2.2.2.1 (by decide) ?_
  refine lv_aload_n hx hb eX8_become_17.2.2.2.2.2.2.1 rfl (lv_at hl 0 rfl) ?_
  refine va_get (D := D) (ci := 8) (v := .ref (a 54)) (C := RX8) (T := TX8) (N := 11) hx hb ht inX8 hown hK hP 53 CW_53 rfl 3 (by decide) (ht (.fieldLink RX8 9 "CloneVolumes$State" "count" "[I") fl_X8_9) (fun _ h9 => h9) rfl eX8_become_17.2.2.2.2.2.2.2 ?_
  refine lv_iconst (v := 0) hx hb eX8_become_33.1 (by decide) ?_
  refine lv_bipush (v := 48) hx hb eX8_become_33.2.1 (by decide) ?_
  obtain ⟨hc4, h⟩ := cpg_e h
  refine ya_copyi (sp := 0) (dp := 0) (n := 48) hx hb (by rw [hml]; exact hl.1.symm) hown (ht _ ml_X8_51) (ht _ na_cpy) (ht _ st_cpy) (ht _ in_sys) hK hP (hDD _) hS 63 54 CW_63 CW_54 (by decide) (by decide) hc4 (Nat.le_of_ble_eq_true rfl) (Nat.le_of_ble_eq_true rfl) eX8_become_33.2.2.1 (CW_w54 _) (fun H locs hP hS => ?_)
  obtain ⟨s5, hs5, h⟩ := st_e h
  rw [hs5] at hP
  refine lv_aload_n hx hb eX8_become_33.2.2.2.1 rfl (lv_at hl 1 rfl) ?_
  refine va_get (D := D) (ci := 8) (v := .ref (a 64)) (C := RX8) (T := TX8) (N := 11) hx hb ht inX8 hown hK hP 62 CW_62 rfl 4 (by decide) (ht (.fieldLink RX8 15 "CloneVolumes$State" "saved" "[I") fl_X8_15) (fun _ h9 => h9) rfl eX8_become_33.2.2.2.2.1 ?_
  refine lv_iconst (v := 0) hx hb eX8_become_33.2.2.2.2.2.1 (by decide) ?_
  refine lv_aload_n hx hb eX8_become_33.2.2.2.2.2.2.1 rfl (lv_at hl 0 rfl) ?_
  refine va_get (D := D) (ci := 8) (v := .ref (a 55)) (C := RX8) (T := TX8) (N := 11) hx hb ht inX8 hown hK hP 53 CW_53 rfl 4 (by decide) (ht (.fieldLink RX8 15 "CloneVolumes$State" "saved" "[I") fl_X8_15) (fun _ h9 => h9) rfl eX8_become_33.2.2.2.2.2.2.2 ?_
  refine lv_iconst (v := 0) hx hb eX8_become_48.1 (by decide) ?_
  refine lv_bipush (v := 48) hx hb eX8_become_48.2.1 (by decide) ?_
  obtain ⟨hc6, h⟩ := cpg_e h
  refine ya_copyi (sp := 0) (dp := 0) (n := 48) hx hb (by rw [hml]; exact hl.1.symm) hown (ht _ ml_X8_51) (ht _ na_cpy) (ht _ st_cpy) (ht _ in_sys) hK hP (hDD _) hS 64 55 CW_64 CW_55 (by decide) (by decide) hc6 (Nat.le_of_ble_eq_true rfl) (Nat.le_of_ble_eq_true rfl) eX8_become_48.2.2.1 (CW_w55 _) (fun H locs hP hS => ?_)
  obtain ⟨s7, hs7, h⟩ := st_e h
  rw [hs7] at hP
  refine lv_aload_n hx hb eX8_become_48.2.2.2.1 rfl (lv_at hl 1 rfl) ?_
  refine va_get (D := D) (ci := 8) (v := .ref (a 65)) (C := RX8) (T := TX8) (N := 11) hx hb ht inX8 hown hK hP 62 CW_62 rfl 5 (by decide) (ht (.fieldLink RX8 18 "CloneVolumes$State" "level" "[I") fl_X8_18) (fun _ h9 => h9) rfl eX8_become_48.2.2.2.2.1 ?_
  refine lv_iconst (v := 0) hx hb eX8_become_48.2.2.2.2.2.1 (by decide) ?_
  refine lv_aload_n hx hb eX8_become_48.2.2.2.2.2.2.1 rfl (lv_at hl 0 rfl) ?_
  refine va_get (D := D) (ci := 8) (v := .ref (a 56)) (C := RX8) (T := TX8) (N := 11) hx hb ht inX8 hown hK hP 53 CW_53 rfl 5 (by decide) (ht (.fieldLink RX8 18 "CloneVolumes$State" "level" "[I") fl_X8_18) (fun _ h9 => h9) rfl eX8_become_48.2.2.2.2.2.2.2 ?_
  refine lv_iconst (v := 0) hx hb eX8_become_63.1 (by decide) ?_
  refine lv_bipush (v := 48) hx hb eX8_become_63.2.1 (by decide) ?_
  obtain ⟨hc8, h⟩ := cpg_e h
  refine ya_copyi (sp := 0) (dp := 0) (n := 48) hx hb (by rw [hml]; exact hl.1.symm) hown (ht _ ml_X8_51) (ht _ na_cpy) (ht _ st_cpy) (ht _ in_sys) hK hP (hDD _) hS 65 56 CW_65 CW_56 (by decide) (by decide) hc8 (Nat.le_of_ble_eq_true rfl) (Nat.le_of_ble_eq_true rfl) eX8_become_63.2.2.1 (CW_w56 _) (fun H locs hP hS => ?_)
  obtain ⟨s9, hs9, h⟩ := st_e h
  rw [hs9] at hP
  refine lv_aload_n hx hb eX8_become_63.2.2.2.1 rfl (lv_at hl 1 rfl) ?_
  refine va_get (D := D) (ci := 8) (v := .ref (a 66)) (C := RX8) (T := TX8) (N := 11) hx hb ht inX8 hown hK hP 62 CW_62 rfl 6 (by decide) (ht (.fieldLink RX8 21 "CloneVolumes$State" "size" "[I") fl_X8_21) (fun _ h9 => h9) rfl eX8_become_63.2.2.2.2.1 ?_
  refine lv_iconst (v := 0) hx hb eX8_become_63.2.2.2.2.2.1 (by decide) ?_
  refine lv_aload_n hx hb eX8_become_63.2.2.2.2.2.2.1 rfl (lv_at hl 0 rfl) ?_
  refine va_get (D := D) (ci := 8) (v := .ref (a 57)) (C := RX8) (T := TX8) (N := 11) hx hb ht inX8 hown hK hP 53 CW_53 rfl 6 (by decide) (ht (.fieldLink RX8 21 "CloneVolumes$State" "size" "[I") fl_X8_21) (fun _ h9 => h9) rfl eX8_become_63.2.2.2.2.2.2.2 ?_
  refine lv_iconst (v := 0) hx hb eX8_become_78.1 (by decide) ?_
  refine lv_bipush (v := 48) hx hb eX8_become_78.2.1 (by decide) ?_
  obtain ⟨hc10, h⟩ := cpg_e h
  refine ya_copyi (sp := 0) (dp := 0) (n := 48) hx hb (by rw [hml]; exact hl.1.symm) hown (ht _ ml_X8_51) (ht _ na_cpy) (ht _ st_cpy) (ht _ in_sys) hK hP (hDD _) hS 66 57 CW_66 CW_57 (by decide) (by decide) hc10 (Nat.le_of_ble_eq_true rfl) (Nat.le_of_ble_eq_true rfl) eX8_become_78.2.2.1 (CW_w57 _) (fun H locs hP hS => ?_)
  obtain ⟨s11, hs11, h⟩ := st_e h
  rw [hs11] at hP
  refine lv_aload_n hx hb eX8_become_78.2.2.2.1 rfl (lv_at hl 1 rfl) ?_
  refine va_get (D := D) (ci := 8) (v := .ref (a 67)) (C := RX8) (T := TX8) (N := 11) hx hb ht inX8 hown hK hP 62 CW_62 rfl 7 (by decide) (ht (.fieldLink RX8 24 "CloneVolumes$State" "keys" "[I") fl_X8_24) (fun _ h9 => h9) rfl eX8_become_78.2.2.2.2.1 ?_
  refine lv_iconst (v := 0) hx hb eX8_become_78.2.2.2.2.2.1 (by decide) ?_
  refine lv_aload_n hx hb eX8_become_78.2.2.2.2.2.2.1 rfl (lv_at hl 0 rfl) ?_
  refine va_get (D := D) (ci := 8) (v := .ref (a 58)) (C := RX8) (T := TX8) (N := 11) hx hb ht inX8 hown hK hP 53 CW_53 rfl 7 (by decide) (ht (.fieldLink RX8 24 "CloneVolumes$State" "keys" "[I") fl_X8_24) (fun _ h9 => h9) rfl eX8_become_78.2.2.2.2.2.2.2 ?_
  refine lv_iconst (v := 0) hx hb eX8_become_93.1 (by decide) ?_
  refine lv_sipush (v := 288) hx hb eX8_become_93.2.1 (by decide) ?_
  obtain ⟨hc12, h⟩ := cpg_e h
  refine ya_copyi (sp := 0) (dp := 0) (n := 288) hx hb (by rw [hml]; exact hl.1.symm) hown (ht _ ml_X8_51) (ht _ na_cpy) (ht _ st_cpy) (ht _ in_sys) hK hP (hDD _) hS 67 58 CW_67 CW_58 (by decide) (by decide) hc12 (Nat.le_of_ble_eq_true rfl) (Nat.le_of_ble_eq_true rfl) eX8_become_93.2.2.1 (CW_w58 _) (fun H locs hP hS => ?_)
  obtain ⟨s13, hs13, h⟩ := st_e h
  rw [hs13] at hP
  refine lv_aload_n hx hb eX8_become_93.2.2.2.1 rfl (lv_at hl 1 rfl) ?_
  refine va_get (D := D) (ci := 8) (v := .ref (a 68)) (C := RX8) (T := TX8) (N := 11) hx hb ht inX8 hown hK hP 62 CW_62 rfl 8 (by decide) (ht (.fieldLink RX8 27 "CloneVolumes$State" "values" "[I") fl_X8_27) (fun _ h9 => h9) rfl eX8_become_93.2.2.2.2.1 ?_
  refine lv_iconst (v := 0) hx hb eX8_become_93.2.2.2.2.2.1 (by decide) ?_
  refine lv_aload_n hx hb eX8_become_93.2.2.2.2.2.2.1 rfl (lv_at hl 0 rfl) ?_
  refine va_get (D := D) (ci := 8) (v := .ref (a 59)) (C := RX8) (T := TX8) (N := 11) hx hb ht inX8 hown hK hP 53 CW_53 rfl 8 (by decide) (ht (.fieldLink RX8 27 "CloneVolumes$State" "values" "[I") fl_X8_27) (fun _ h9 => h9) rfl eX8_become_93.2.2.2.2.2.2.2 ?_
  refine lv_iconst (v := 0) hx hb eX8_become_109.1 (by decide) ?_
  refine lv_sipush (v := 288) hx hb eX8_become_109.2.1 (by decide) ?_
  obtain ⟨hc14, h⟩ := cpg_e h
  refine ya_copyi (sp := 0) (dp := 0) (n := 288) hx hb (by rw [hml]; exact hl.1.symm) hown (ht _ ml_X8_51) (ht _ na_cpy) (ht _ st_cpy) (ht _ in_sys) hK hP (hDD _) hS 68 59 CW_68 CW_59 (by decide) (by decide) hc14 (Nat.le_of_ble_eq_true rfl) (Nat.le_of_ble_eq_true rfl) eX8_become_109.2.2.1 (CW_w59 _) (fun H locs hP hS => ?_)
  obtain ⟨s15, hs15, h⟩ := st_e h
  rw [hs15] at hP
  refine lv_aload_n hx hb eX8_become_109.2.2.2.1 rfl (lv_at hl 1 rfl) ?_
  refine va_get (D := D) (ci := 8) (v := .ref (a 69)) (C := RX8) (T := TX8) (N := 11) hx hb ht inX8 hown hK hP 62 CW_62 rfl 9 (by decide) (ht (.fieldLink RX8 30 "CloneVolumes$State" "roots" "[I") fl_X8_30) (fun _ h9 => h9) rfl eX8_become_109.2.2.2.2.1 ?_
  refine lv_iconst (v := 0) hx hb eX8_become_109.2.2.2.2.2.1 (by decide) ?_
  refine lv_aload_n hx hb eX8_become_109.2.2.2.2.2.2.1 rfl (lv_at hl 0 rfl) ?_
  refine va_get (D := D) (ci := 8) (v := .ref (a 60)) (C := RX8) (T := TX8) (N := 11) hx hb ht inX8 hown hK hP 53 CW_53 rfl 9 (by decide) (ht (.fieldLink RX8 30 "CloneVolumes$State" "roots" "[I") fl_X8_30) (fun _ h9 => h9) rfl eX8_become_109.2.2.2.2.2.2.2 ?_
  refine lv_iconst (v := 0) hx hb eX8_become_125.1 (by decide) ?_
  refine lv_bipush (v := 8) hx hb eX8_become_125.2.1 (by decide) ?_
  obtain ⟨hc16, h⟩ := cpg_e h
  refine ya_copyi (sp := 0) (dp := 0) (n := 8) hx hb (by rw [hml]; exact hl.1.symm) hown (ht _ ml_X8_51) (ht _ na_cpy) (ht _ st_cpy) (ht _ in_sys) hK hP (hDD _) hS 69 60 CW_69 CW_60 (by decide) (by decide) hc16 (Nat.le_of_ble_eq_true rfl) (Nat.le_of_ble_eq_true rfl) eX8_become_125.2.2.1 (CW_w60 _) (fun H locs hP hS => ?_)
  obtain ⟨s17, hs17, h⟩ := st_e h
  rw [hs17] at hP
  refine lv_aload_n hx hb eX8_become_125.2.2.2.1 rfl (lv_at hl 1 rfl) ?_
  refine va_get (D := D) (ci := 8) (v := .ref (a 70)) (C := RX8) (T := TX8) (N := 11) hx hb ht inX8 hown hK hP 62 CW_62 rfl 10 (by decide) (ht (.fieldLink RX8 33 "CloneVolumes$State" "savedRoots" "[I") fl_X8_33) (fun _ h9 => h9) rfl eX8_become_125.2.2.2.2.1 ?_
  refine lv_iconst (v := 0) hx hb eX8_become_125.2.2.2.2.2.1 (by decide) ?_
  refine lv_aload_n hx hb eX8_become_125.2.2.2.2.2.2.1 rfl (lv_at hl 0 rfl) ?_
  refine va_get (D := D) (ci := 8) (v := .ref (a 61)) (C := RX8) (T := TX8) (N := 11) hx hb ht inX8 hown hK hP 53 CW_53 rfl 10 (by decide) (ht (.fieldLink RX8 33 "CloneVolumes$State" "savedRoots" "[I") fl_X8_33) (fun _ h9 => h9) rfl eX8_become_125.2.2.2.2.2.2.2 ?_
  refine lv_iconst (v := 0) hx hb eX8_become_140.1 (by decide) ?_
  refine lv_bipush (v := 8) hx hb eX8_become_140.2.1 (by decide) ?_
  obtain ⟨hc18, h⟩ := cpg_e h
  refine ya_copyi (sp := 0) (dp := 0) (n := 8) hx hb (by rw [hml]; exact hl.1.symm) hown (ht _ ml_X8_51) (ht _ na_cpy) (ht _ st_cpy) (ht _ in_sys) hK hP (hDD _) hS 70 61 CW_70 CW_61 (by decide) (by decide) hc18 (Nat.le_of_ble_eq_true rfl) (Nat.le_of_ble_eq_true rfl) eX8_become_140.2.2.1 (CW_w61 _) (fun H locs hP hS => ?_)
  obtain ⟨s19, hs19, h⟩ := st_e h
  rw [hs19] at hP
  obtain rfl := Option.some.inj h
  exact W.vret hx hb hr (fun t ht hW => ⟨⟨(), rfl, trivial, by rw [ht]; exact hP, va_K.moved hW.alike hK, hDD _⟩, hS.F ht⟩) hS.2.2 eX8_become_140.2.2.2.1
theorem range_map {α : Type} {r : List α} : (List.range r.length).map (fun i => r[i]?) = r.map some := by
  apply List.ext_getElem
  · simp
  · intro i h1 h2
    simp at h1 ⊢
set_option maxHeartbeats 4000000 in
set_option maxRecDepth 100000 in
theorem k_forgetN (l : Launch) (D : va_G) (a : Nat → Nat) (s : MS) (T : va_W) (h : gI s 145 = 0 ∨ gI s 143 = 0) : Met l yX2_forget (wz yX2_forget cX2_forget 1 (some (.object "CloneVolumes$State"))) { frames := 0, cells := 0, slots := 0, locals := 0 } (va_Pc [.ref (a 7)] (zP D (CS D a s ++ T))) zQn 0 0 (fun _ => False) := by
  refine Met.ofW (cc := cX2_forget) (maxL := 1) (ret := (some (.object "CloneVolumes$State"))) (by decide) rfl ?_
  intro p e s₀ m args below meth c s₁ B hml hv
  obtain ⟨rfl, hP, hK⟩ := hv
  have hx := B.exec
  have hb := B.bytes
  have hr := B.returns
  have hat := atoms_spec (ws := wz yX2_forget cX2_forget 1 (some (.object "CloneVolumes$State"))) B.pre
  have ht : ∀ w ∈ lw_gd, w.before _ s₀ = true := fun w h => hat w (List.mem_cons_of_mem _ h)
  have hown : s₀.vm.findClass RX2 = some m.cls := findClass_of_methodNamed B.named
  have hlocks := B.notSynchronized
  have hS : va_S (fun _ => False) s₀.heap s₀.heap [] := va_S.rf
  have hl := lv_entry ([.ref (a 7)]) (n := 1) (Nat.le_of_ble_eq_true rfl)
  rw [lg_entry_eq]
  generalize (lg_sl ([.ref (a 7)]) ++ List.replicate (1 - (lg_sl ([.ref (a 7)])).length) Slot.unset).toArray = ls at hl ⊢
  have hl : lv_has ls 1 [(0, .ref (a 7))] := hl
  refine y_head (pcJ := 14) (σ := Unit) (fun _ H locs ls => va_S (fun _ => False) s₀.heap H locs) (fun _ => []) (fun _ H locs ls hS => ?_) (fun J14 => ?_)
  · refine lv_null hx hb eX2_forget_11.2.1 ?_
    exact W.aret (v := .null) hx hb hr (Or.inl ⟨_, rfl⟩) (Or.inl rfl) (fun t ht hW => ⟨rfl, hS.F ht⟩) hS.2.2 eX2_forget_11.2.2.1
  refine lv_aload_n hx hb eX11_undo_28.2.2.2.1 rfl (lv_at hl 0 rfl) ?_
  refine va_get (D := D) (ci := 2) (v := .int (i2 (gI s 145))) (C := RX2) (T := TX2) (N := 6) hx hb ht inX2 hown hK hP 7 (ap_g CW_7) rfl 5 (by decide) (ht (.fieldLink RX2 31 "CloneVolumes$History" "depth" "I") fl_X2_31) (fun _ h9 => h9) rfl eX11_undo_28.2.2.2.2.1 ?_
  refine lv_if_eq (tgt := 14) hx hb eX11_undo_28.2.2.2.2.2.1 (by decide) (fun c1 => J14 () _ _ _ hS) (fun c1 => ?_)
  refine lv_aload_n hx hb eX11_undo_28.2.2.2.2.2.2.1 rfl (lv_at hl 0 rfl) ?_
  refine va_get (D := D) (ci := 2) (v := .int (i2 (gI s 143))) (C := RX2) (T := TX2) (N := 6) hx hb ht inX2 hown hK hP 7 (ap_g CW_7) rfl 3 (by decide) (ht (.fieldLink RX2 27 "CloneVolumes$History" "rows" "I") fl_X2_27) (fun _ h9 => h9) rfl eX11_undo_28.2.2.2.2.2.2.2 ?_
  refine lv_if_ne (tgt := 16) hx hb eX2_forget_11.1 (by decide) (fun c2 => ?_) (fun c2 => J14 () _ _ _ hS)
  exact (h.elim (fun q => c1 (by rw [q]; rfl)) (fun q => c2 (by rw [q]; rfl))).elim
set_option maxHeartbeats 4000000 in
set_option maxRecDepth 100000 in
theorem k_forgetR (l : Launch) (D : va_G) (a : Nat → Nat) (sz : Nat) (s s2 : MS) (ps : List ((Nat → Nat) × MS)) (x : Nat) (r1 : R2 (gI s 145)) (r2 : R2 (gI s 143)) (h1 : ¬ gI s 145 = 0) (h2 : ¬ gI s 143 = 0) (hs2 : sI (sI s 145 (gI s 145 - 1)) 143 (gI s 143 - 1) = s2) (hi : 0 ≤ gI s2 145 ∧ gI s2 145 < 20) (hv : pf ps (gI s2 145).toNat = some x) : Met l yX2_forget (wz yX2_forget cX2_forget 1 (some (.object "CloneVolumes$State"))) { frames := 0, cells := 0, slots := 0, locals := 0 } (va_Pc [.ref (a 7)] (yW D sz (XW D a s ps))) (va_Qr (fun (_ : Unit) => True) (fun _ r t => r = x ∧ zB D (va_A (XW D a s ps) sz) (XW D a s2 ps) t) (va_A (XW D a s ps) sz)) 0 0 (va_A (XW D a s ps) sz) := by
  refine Met.ofW (cc := cX2_forget) (maxL := 1) (ret := (some (.object "CloneVolumes$State"))) (by decide) rfl ?_
  intro p e s₀ m args below meth c s₁ B hml hv
  obtain ⟨rfl, ⟨hsz, hP, hK, hD0⟩, hN⟩ := hv
  have hx := B.exec
  have hb := B.bytes
  have hr := B.returns
  have hts := atoms_spec (ws := wz yX2_forget cX2_forget 1 (some (.object "CloneVolumes$State"))) B.pre
  have ht : ∀ w ∈ lw_gd, w.before _ s₀ = true := fun w h => hts w (List.mem_cons_of_mem _ h)
  have hown : s₀.vm.findClass RX2 = some m.cls := findClass_of_methodNamed B.named
  have hlocks := B.notSynchronized
  subst hsz
  have hD := hD0.self (sz := s₀.heap.size)
  generalize hAe : va_A (XW D a s ps) s₀.heap.size = A at hD ⊢
  have hA : ∀ q : Nat, s₀.heap.size ≤ q → A q := fun q h => by rw [← hAe]; exact Or.inr h
  have hS : va_S A s₀.heap s₀.heap [] := va_S.rf
  have hl := lv_entry ([.ref (a 7)]) (n := 1) (Nat.le_of_ble_eq_true rfl)
  rw [lg_entry_eq]
  generalize (lg_sl ([.ref (a 7)]) ++ List.replicate (1 - (lg_sl ([.ref (a 7)])).length) Slot.unset).toArray = ls at hl ⊢
  have hDD : ∀ t : MS, va_D A (CS D a t ++ PT D (a 90) ps) := fun t => va_D_same hD rfl
  have hl : lv_has ls 1 [(0, .ref (a 7))] := hl
  refine lv_aload_n hx hb eX11_undo_28.2.2.2.1 rfl (lv_at hl 0 rfl) ?_
  refine va_get (D := D) (ci := 2) (v := .int (i2 (gI s 145))) (C := RX2) (T := TX2) (N := 6) hx hb ht inX2 hown hK hP 7 (ap_g CW_7) rfl 5 (by decide) (ht (.fieldLink RX2 31 "CloneVolumes$History" "depth" "I") fl_X2_31) (fun _ h9 => h9) rfl eX11_undo_28.2.2.2.2.1 ?_
  refine lv_if_eq (tgt := 14) hx hb eX11_undo_28.2.2.2.2.2.1 (by decide) (fun c1 => absurd ((i2_eq (y := 0) r1 (by decide)).mp c1) h1) (fun c1 => ?_)
  refine lv_aload_n hx hb eX11_undo_28.2.2.2.2.2.2.1 rfl (lv_at hl 0 rfl) ?_
  refine va_get (D := D) (ci := 2) (v := .int (i2 (gI s 143))) (C := RX2) (T := TX2) (N := 6) hx hb ht inX2 hown hK hP 7 (ap_g CW_7) rfl 3 (by decide) (ht (.fieldLink RX2 27 "CloneVolumes$History" "rows" "I") fl_X2_27) (fun _ h9 => h9) rfl eX11_undo_28.2.2.2.2.2.2.2 ?_
  refine lv_if_ne (tgt := 16) hx hb eX2_forget_11.1 (by decide) (fun c2 => ?_) (fun c2 => absurd ((i2_eq (y := 0) r2 (by decide)).mp c2) h2)
  refine lv_aload_n hx hb eX2_forget_11.2.2.2.1 rfl (lv_at hl 0 rfl) ?_
  refine lv_dup hx hb eX2_forget_11.2.2.2.2.1 rfl ?_
  refine va_get (D := D) (ci := 2) (v := .int (i2 (gI s 145))) (C := RX2) (T := TX2) (N := 6) hx hb ht inX2 hown hK hP 7 (ap_g CW_7) rfl 5 (by decide) (ht (.fieldLink RX2 31 "CloneVolumes$History" "depth" "I") fl_X2_31) (fun _ h9 => h9) rfl eX2_forget_11.2.2.2.2.2.1 ?_
  refine lv_iconst (v := 1) hx hb eX2_forget_11.2.2.2.2.2.2.1 (by decide) ?_
  refine lv_isub hx hb eX2_forget_11.2.2.2.2.2.2.2 ?_
  refine z_topi (y := i2 (gI s 145 - 1)) (i2_sub (gI s 145) 1) ?_
  refine ya_put (D := D) (ci := 2) (v := .int (i2 (gI s 145 - 1))) (ty := .int) (C := RX2) (T := TX2) (N := 6) hx hb ht inX2 tyX2 tyX2_ok nmX2 hown hK hP (hDD _) hS 7 (ap_g CW_7) rfl 5 (by decide) (ht (.fieldLink RX2 31 "CloneVolumes$History" "depth" "I") fl_X2_31) (fun _ h9 => h9) rfl (by decide +kernel) rfl rfl (Nat.le_of_ble_eq_true rfl) eX2_forget_23.1 (ap_s CW_7 (CW_w7_5 (gI s 145 - 1))) (fun H locs hP hS => ?_)
  refine lv_aload_n hx hb eX2_forget_23.2.1 rfl (lv_at hl 0 rfl) ?_
  refine lv_dup hx hb eX2_forget_23.2.2.1 rfl ?_
  refine va_get (D := D) (ci := 2) (v := .int (i2 (gI s 143))) (C := RX2) (T := TX2) (N := 6) hx hb ht inX2 hown hK hP 7 (ap_g CW_7) rfl 3 (by decide) (ht (.fieldLink RX2 27 "CloneVolumes$History" "rows" "I") fl_X2_27) (fun _ h9 => h9) rfl eX2_forget_23.2.2.2.1 ?_
  refine lv_iconst (v := 1) hx hb eX2_forget_23.2.2.2.2.1 (by decide) ?_
  refine lv_isub hx hb eX2_forget_23.2.2.2.2.2.1 ?_
  refine z_topi (y := i2 (gI s 143 - 1)) (i2_sub (gI s 143) 1) ?_
  refine ya_put (D := D) (ci := 2) (v := .int (i2 (gI s 143 - 1))) (ty := .int) (C := RX2) (T := TX2) (N := 6) hx hb ht inX2 tyX2 tyX2_ok nmX2 hown hK hP (hDD _) hS 7 (ap_g CW_7) rfl 3 (by decide) (ht (.fieldLink RX2 27 "CloneVolumes$History" "rows" "I") fl_X2_27) (fun _ h9 => h9) rfl (by decide +kernel) rfl rfl (Nat.le_of_ble_eq_true rfl) eX2_forget_23.2.2.2.2.2.2.1 (ap_s CW_7 (CW_w7_3 (gI s 143 - 1))) (fun H locs hP hS => ?_)
  rw [hs2] at hP
  refine lv_aload_n hx hb eX2_forget_23.2.2.2.2.2.2.2 rfl (lv_at hl 0 rfl) ?_
  refine va_get (D := D) (ci := 2) (v := .ref (a 90)) (C := RX2) (T := TX2) (N := 6) hx hb ht inX2 hown hK hP 7 (ap_g CW_7) rfl 4 (by decide) (ht (.fieldLink RX2 23 "CloneVolumes$History" "past" "[LCloneVolumes$State;") fl_X2_23) (fun _ h9 => h9) rfl eX2_forget_37.1 ?_
  refine lv_aload_n hx hb eX2_forget_37.2.1 rfl (lv_at hl 0 rfl) ?_
  refine va_get (D := D) (ci := 2) (v := .int (i2 (gI s2 145))) (C := RX2) (T := TX2) (N := 6) hx hb ht inX2 hown hK hP 7 (ap_g CW_7) rfl 5 (by decide) (ht (.fieldLink RX2 31 "CloneVolumes$History" "depth" "I") fl_X2_31) (fun _ h9 => h9) rfl eX2_forget_37.2.2.1 ?_
  refine ya_ald hx hb hK hP 82 XW_82 hv hi (by decide) eX2_forget_37.2.2.2.1 ?_
  exact W.aret (v := .ref x) hx hb hr (Or.inl ⟨_, rfl⟩) (Or.inr ⟨_, rfl⟩) (fun t ht hW => ⟨⟨(), x, rfl, trivial, rfl, by rw [ht]; exact hP, va_K.moved hW.alike hK, hDD _⟩, hS.F ht⟩) hS.2.2 eX2_forget_37.2.2.2.2
theorem setP_back (a b : Nat → Nat) : setP (setP a b) a = a := by
  funext k
  unfold setP
  by_cases h : 62 ≤ k ∧ k ≤ 70
  · rw [if_pos h]
  · rw [if_neg h, if_neg h]
set_option maxHeartbeats 4000000 in
set_option maxRecDepth 100000 in
theorem k_x11_undo (l : Launch) (D : va_G) (a : Nat → Nat) (sz : Nat) (s : MS) (ps : List ((Nat → Nat) × MS)) (ts : List MS) (hts : ps.map Prod.snd = ts) (o : Int × MS × List MS) (h : m_x11_undo ts s = some o) : yU l yX11_undo cX11_undo 2 (some .boolean) { frames := 2, cells := 9, slots := 795, locals := 120 } D sz [.ref (a 0)] a s ps (i2 o.1) o.2.1 o.2.2 := by
  refine Met.ofW (cc := cX11_undo) (maxL := 2) (ret := (some .boolean)) (by decide) rfl ?_
  intro p e s₀ m args below meth c s₁ B hml hv
  obtain ⟨rfl, ⟨hsz, hP, hK, hD0⟩, hN⟩ := hv
  have hx := B.exec
  have hb := B.bytes
  have hr := B.returns
  have hat := atoms_spec (ws := wz yX11_undo cX11_undo 2 (some .boolean)) B.pre
  have ht : ∀ w ∈ lw_gd, w.before _ s₀ = true := fun w h => hat w (List.mem_cons_of_mem _ h)
  have hown : s₀.vm.findClass RX11 = some m.cls := findClass_of_methodNamed B.named
  have hlocks := B.notSynchronized
  subst hsz
  have hD := hD0.self (sz := s₀.heap.size)
  generalize hAe : va_A (XW D a s ps) s₀.heap.size = A at hD ⊢
  have hA : ∀ q : Nat, s₀.heap.size ≤ q → A q := fun q h => by rw [← hAe]; exact Or.inr h
  have hS : va_S A s₀.heap s₀.heap [] := va_S.rf
  have hl := lv_entry ([.ref (a 0)]) (n := 2) (Nat.le_of_ble_eq_true rfl)
  rw [lg_entry_eq]
  generalize (lg_sl ([.ref (a 0)]) ++ List.replicate (2 - (lg_sl ([.ref (a 0)])).length) Slot.unset).toArray = ls at hl ⊢
  have hDD : ∀ t : MS, va_D A (CS D a t ++ PT D (a 90) ps) := fun t => va_D_same hD rfl
  have hl : lv_has ls 2 [(0, .ref (a 0))] := hl
  have hu : ∀ k, (k < 62 ∨ 70 < k) → a k = a k := fun _ _ => rfl
  unfold m_x11_undo at h
  obtain ⟨hr1, h⟩ := rg_e h
  obtain ⟨hr2, h⟩ := rg_e h
  refine lv_aload_n hx hb eX11_undo_0.1 rfl (lv_at hl 0 rfl) ?_
  refine va_get (D := D) (ci := 11) (v := .ref (a 7)) (C := RX11) (T := TX11) (N := 13) hx hb ht inX11 hown hK hP 0 (ap_g CW_0) rfl 2 (by decide) (ht (.fieldLink RX11 28 "CloneVolumes" "history" "LCloneVolumes$History;") fl_X11_28) (fun _ h9 => h9) rfl eX11_undo_0.2.1 ?_
  by_cases hc : gI s 145 = 0 ∨ gI s 143 = 0
  · have h := if_t hc h
    obtain ⟨⟨r1, s1⟩, hc1, h⟩ := bn_e h
    obtain rfl := Option.some.inj h
    refine zcVn (As := []) (rest := []) (C := RX2) (n := 0) ⟨hx, hb, hml, hown, ht⟩ (WS := CS D a s ++ PT D (a 90) ps) (k_forgetN l D a s _ hc) (zgV ml_X11_308 im_X2_forget se_X2_forget in_X2 co_X2_forget) rfl rfl (by decide +kernel) ⟨Nat.le_of_ble_eq_true rfl, Nat.le_of_ble_eq_true rfl⟩ hK hP hS (List.range (CS D a s ++ PT D (a 90) ps).length) (z_fm range_map) 7 (ap_g CW_7) rfl rfl rfl hl.1 rfl (Nat.le_of_ble_eq_true rfl) eX11_undo_0.2.2.1 ⟨Nat.le_of_ble_eq_true rfl, Nat.le_of_ble_eq_true rfl⟩ (fun H locs hP hS => ?_)
    refine lv_astore_nN (lv' := [(1, .null), (0, .ref (a 0))]) hx hb eX11_undo_0.2.2.2.1 rfl hl (by decide) rfl (fun ls hl => ?_)
    refine lv_aload_nN hx hb eX11_undo_0.2.2.2.2.1 rfl (lv_at hl 0 rfl) ?_
    refine lv_ifnonnullN hx hb eX11_undo_0.2.2.2.2.2.1 ?_
    refine lv_aload_n hx hb eX11_undo_0.2.2.2.2.2.2.1 rfl (lv_at hl 1 rfl) ?_
    refine lv_iconst (v := 4) hx hb eX11_undo_0.2.2.2.2.2.2.2 (by decide) ?_
    refine ywV (r0 := i2 r1) (As := [.int 4]) (rest := []) (C := RX11) (n := 1) (ws' := CS D a s1 ++ PT D (a 90) ps) ⟨hx, hb, hml, hown, ht⟩ (yWi_f _ (k_x11_refuse l D a 4 _ _ _ hc1)) (zgV ml_X11_87 im_X11_refuse se_X11_refuse in_X11 co_X11_refuse) rfl rfl (by decide +kernel) ⟨Nat.le_of_ble_eq_true rfl, Nat.le_of_ble_eq_true rfl⟩ hN hK hP (hDD _) hS hA 0 (ap_g CW_0) rfl rfl rfl hl.1 rfl (Nat.le_of_ble_eq_true rfl) eX11_undo_14.1 ⟨Nat.le_of_ble_eq_true rfl, Nat.le_of_ble_eq_true rfl⟩ (fun H locs hP hS => ?_)
    refine lv_pop hx hb eX11_undo_14.2.1 rfl ?_
    refine lv_iconst (v := 0) hx hb eX11_undo_14.2.2.1 (by decide) ?_
    refine W.widen (k := 9) (n := 795) (Nat.le_of_ble_eq_true rfl) (Nat.le_of_ble_eq_true rfl) ?_
    exact W.zret (v := 0) hx hb hr (by decide) (fun t ht hW => ⟨⟨_, (a, ps), rfl, ⟨rfl, hu, hts⟩, by rw [ht]; exact hP, va_K.moved hW.alike hK, hDD _⟩, hS.F ht⟩) hS.2.2 eX11_undo_14.2.2.2.1
  · have h := if_f hc h
    obtain ⟨s2, hs2, h⟩ := st_e h
    obtain ⟨hi, h⟩ := inb_e h
    have hlen : ts.length = ps.length := by rw [← hts]; exact List.length_map _
    by_cases hc2 : (gI s2 145).toNat < ts.length
    case neg => have h := if_f hc2 h; cases h
    have h := if_t hc2 h
    obtain ⟨s3, hc3, h⟩ := bn_e h
    obtain rfl := Option.some.inj h
    generalize hgi : (gI s2 145).toNat = i at hc2 hc3 ⊢
    rw [hlen] at hc2
    obtain ⟨q, hq⟩ : ∃ q, ps[i]? = some q := ⟨ps[i], List.getElem?_eq_getElem hc2⟩
    have hq2 : ts.getD i s2 = q.2 := by rw [← hts, List.getD_eq_getElem?_getD, List.getElem?_map, hq]; rfl
    rw [hq2] at hc3
    refine ywR (As := []) (rest := []) (C := RX2) (n := 0) (ra := fun _ => q.1 62) ⟨hx, hb, hml, hown, ht⟩ (k_forgetR l D a _ s s2 ps (q.1 62) hr1 hr2 (fun e => hc (Or.inl e)) (fun e => hc (Or.inr e)) hs2 hi (by rw [hgi]; exact pf_some hq)) (zgV ml_X11_308 im_X2_forget se_X2_forget in_X2 co_X2_forget) rfl rfl (by decide +kernel) ⟨Nat.le_of_ble_eq_true rfl, Nat.le_of_ble_eq_true rfl⟩ hN hK hP (hDD _) hS hA 7 (ap_g CW_7) rfl rfl rfl hl.1 rfl (Nat.le_of_ble_eq_true rfl) eX11_undo_0.2.2.1 ⟨Nat.le_of_ble_eq_true rfl, Nat.le_of_ble_eq_true rfl⟩ (fun u H locs hw hP hD hS => ?_)
    refine lv_astore_n (lv' := [(1, .ref (q.1 62)), (0, .ref (a 0))]) hx hb eX11_undo_0.2.2.2.1 rfl hl (by decide) rfl (fun ls hl => ?_)
    refine lv_aload_n hx hb eX11_undo_0.2.2.2.2.1 rfl (lv_at hl 0 rfl) ?_
    refine lv_ifnonnull (tgt := 20) hx hb eX11_undo_0.2.2.2.2.2.1 (by decide) ?_
    refine lv_aload_n hx hb eX11_undo_14.2.2.2.2.1 rfl (lv_at hl 1 rfl) ?_
    refine va_get (D := D) (ci := 11) (v := .ref (a 49)) (C := RX11) (T := TX11) (N := 13) hx hb ht inX11 hown hK hP 0 (ap_g CW_0) rfl 11 (by decide) (ht (.fieldLink RX11 79 "CloneVolumes" "forest" "LCloneVolumes$Forest;") fl_X11_79) (fun _ h9 => h9) rfl eX11_undo_14.2.2.2.2.2.1 ?_
    refine va_get (D := D) (ci := 1) (v := .ref (a 53)) (C := RX1) (T := TX1) (N := 9) hx hb ht inX1 hown hK hP 49 (ap_g CW_49) rfl 0 (by decide) (ht (.fieldLink RX11 125 "CloneVolumes$Forest" "now" "LCloneVolumes$State;") fl_X11_125) (fun _ h9 => h9) rfl eX11_undo_14.2.2.2.2.2.2.1 ?_
    refine lv_aload_n hx hb eX11_undo_14.2.2.2.2.2.2.2 rfl (lv_at hl 0 rfl) ?_
    have hsp : ps = ps.take i ++ q :: ps.drop (i + 1) := by
      obtain ⟨hb1, hb2⟩ := List.getElem?_eq_some_iff.mp hq
      rw [← hb2, List.getElem_cons_drop, List.take_append_drop]
    have hpm := pm_B (D := D) (a := a) (c1 := .ref (a 29)) (c2 := .ref (a 29)) (c3 := .ref (a 39)) (c4 := .ref (a 62)) (s := s2) (q := q) (p1 := ps.take i) (p2 := ps.drop (i + 1)) (X := PC D (a 90) (pf ps))
    rw [← hsp] at hpm
    have hP1 := va_P_mem hP (fun y hy => hpm.mem_iff.mp hy)
    have hD1 := va_D_perm (hDD s2) hpm
    refine ywVv (As := [.ref (q.1 62)]) (rest := []) (C := RX8) (n := 1) (ws' := CW D (setP a q.1) (.ref (a 29)) (.ref (a 29)) (.ref (a 39)) (.ref (a 62)) s3 ++ (PC D (a 90) (pf ps) :: PLs D (ps.take i ++ (a, s2) :: ps.drop (i + 1)))) ⟨hx, hb, hml, hown, ht⟩ (yWv_f _ (k_x8_becomeP l D (setP a q.1) _ _ _ _ _ _ _ hc3)) (zgV ml_X11_312 im_X8_become se_X8_become in_X8 co_X8_become) rfl rfl (by decide +kernel) ⟨Nat.le_of_ble_eq_true rfl, Nat.le_of_ble_eq_true rfl⟩ hN hK hP1 hD1 hS hA 53 (ap_g CW_53) rfl rfl rfl hl.1 rfl (Nat.le_of_ble_eq_true rfl) eX11_undo_28.1 ⟨Nat.le_of_ble_eq_true rfl, Nat.le_of_ble_eq_true rfl⟩ (fun H locs hP hS => ?_)
    refine lv_iconst (v := 1) hx hb eX11_undo_28.2.1 (by decide) ?_
    have hpm2 := pm_B (D := D) (a := setP a q.1) (c1 := .ref (a 29)) (c2 := .ref (a 29)) (c3 := .ref (a 39)) (c4 := .ref (a 62)) (s := s3) (q := (a, s2)) (p1 := ps.take i) (p2 := ps.drop (i + 1)) (X := PC D (a 90) (pf ps))
    have hset : ps.set i (setP a q.1, s3) = ps.take i ++ (setP a q.1, s3) :: ps.drop (i + 1) := List.set_eq_take_append_cons_drop.trans (by rw [if_pos hc2])
    rw [← hset, setP_back] at hpm2
    have hpf : pf ps = pf (ps.set i (setP a q.1, s3)) := by
      rw [← pf_up (q := (setP a q.1, s3)) hc2]
      funext k
      by_cases e : k = i
      · subst e; rw [va_up_self]; show pf ps k = some (q.1 62); exact pf_some hq
      · rw [va_up_ne _ _ e]
    rw [hpf] at hpm2 hP
    have hP9 := va_P_mem hP (fun y hy => hpm2.mem_iff.mp hy)
    have hD9 : va_D A (CS D a (setB s3 s2) ++ PT D (a 90) (ps.set i (setP a q.1, s3))) := va_D_perm (va_D_same hD1 (by rw [hpf]; rfl)) hpm2
    refine W.widen (k := 9) (n := 795) (Nat.le_of_ble_eq_true rfl) (Nat.le_of_ble_eq_true rfl) ?_
    exact W.zret (v := 1) hx hb hr (by decide) (fun t ht hW => ⟨⟨_, (a, ps.set i (setP a q.1, s3)), rfl, ⟨rfl, hu, by rw [← hts, List.map_set]⟩, by rw [ht]; exact hP9, va_K.moved hW.alike hK, hD9⟩, hS.F ht⟩) hS.2.2 eX11_undo_28.2.2.1
