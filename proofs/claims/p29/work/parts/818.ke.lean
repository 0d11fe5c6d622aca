theorem co_X11_isKey : Cond.code yX11_isKey cX11_isKey 1 (some .boolean) ∈ lw_gd := zm (lw_g_5 (List.mem_of_getElem? (i := 30) (by decide +kernel))) rfl
theorem co_X2_toldOf : Cond.code yX2_toldOf cX2_toldOf 4 (some .int) ∈ lw_gd := zm (lw_g_5 (List.mem_of_getElem? (i := 9) (by decide +kernel))) rfl
theorem co_X8_below : Cond.code yX8_below cX8_below 3 (some .int) ∈ lw_gd := zm (lw_g_4 (List.mem_of_getElem? (i := 127) (by decide +kernel))) rfl
theorem co_X8_entryFor : Cond.code yX8_entryFor cX8_entryFor 5 (some .int) ∈ lw_gd := zm (lw_g_4 (List.mem_of_getElem? (i := 103) (by decide +kernel))) rfl
theorem co_X8_find : Cond.code yX8_find cX8_find 4 (some .int) ∈ lw_gd := zm (lw_g_4 (List.mem_of_getElem? (i := 115) (by decide +kernel))) rfl
theorem co_X8_isFresh : Cond.code yX8_isFresh cX8_isFresh 2 (some .boolean) ∈ lw_gd := zm (lw_g_4 (List.mem_of_getElem? (i := 68) (by decide +kernel))) rfl
theorem co_X8_levelOf : Cond.code yX8_levelOf cX8_levelOf 2 (some .int) ∈ lw_gd := zm (lw_g_4 (List.mem_of_getElem? (i := 226) (by decide +kernel))) rfl
theorem co_X8_sizeOf : Cond.code yX8_sizeOf cX8_sizeOf 2 (some .int) ∈ lw_gd := zm (lw_g_4 (List.mem_of_getElem? (i := 234) (by decide +kernel))) rfl
theorem co_X8_valueAt : Cond.code yX8_valueAt cX8_valueAt 5 (some .int) ∈ lw_gd := zm (lw_g_4 (List.mem_of_getElem? (i := 123) (by decide +kernel))) rfl
theorem fl_X11_191 : Cond.fieldLink RX11 191 "CloneVolumes$State" "count" "[I" ∈ lw_gd := zm (lw_g_2 (List.mem_of_getElem? (i := 130) (by decide +kernel))) rfl
theorem fl_X11_194 : Cond.fieldLink RX11 194 "CloneVolumes$State" "saved" "[I" ∈ lw_gd := zm (lw_g_2 (List.mem_of_getElem? (i := 134) (by decide +kernel))) rfl
theorem fl_X11_213 : Cond.fieldLink RX11 213 "CloneVolumes$State" "keys" "[I" ∈ lw_gd := zm (lw_g_2 (List.mem_of_getElem? (i := 149) (by decide +kernel))) rfl
theorem fl_X11_216 : Cond.fieldLink RX11 216 "CloneVolumes$State" "values" "[I" ∈ lw_gd := zm (lw_g_2 (List.mem_of_getElem? (i := 154) (by decide +kernel))) rfl
theorem fl_X11_225 : Cond.fieldLink RX11 225 "CloneVolumes$Walk" "keys" "[I" ∈ lw_gd := zm (lw_g_1 (List.mem_of_getElem? (i := 233) (by decide +kernel))) rfl
theorem fl_X11_226 : Cond.fieldLink RX11 226 "CloneVolumes$Walk" "values" "[I" ∈ lw_gd := zm (lw_g_1 (List.mem_of_getElem? (i := 235) (by decide +kernel))) rfl
theorem im_X2_toldOf : Cond.instanceMethod yX2_toldOf ∈ lw_gd := zm (lw_g_5 (List.mem_of_getElem? (i := 7) (by decide +kernel))) rfl
theorem im_X8_below : Cond.instanceMethod yX8_below ∈ lw_gd := zm (lw_g_4 (List.mem_of_getElem? (i := 125) (by decide +kernel))) rfl
theorem im_X8_entryFor : Cond.instanceMethod yX8_entryFor ∈ lw_gd := zm (lw_g_4 (List.mem_of_getElem? (i := 101) (by decide +kernel))) rfl
theorem im_X8_find : Cond.instanceMethod yX8_find ∈ lw_gd := zm (lw_g_4 (List.mem_of_getElem? (i := 113) (by decide +kernel))) rfl
theorem im_X8_isFresh : Cond.instanceMethod yX8_isFresh ∈ lw_gd := zm (lw_g_4 (List.mem_of_getElem? (i := 66) (by decide +kernel))) rfl
theorem im_X8_levelOf : Cond.instanceMethod yX8_levelOf ∈ lw_gd := zm (lw_g_4 (List.mem_of_getElem? (i := 224) (by decide +kernel))) rfl
theorem im_X8_sizeOf : Cond.instanceMethod yX8_sizeOf ∈ lw_gd := zm (lw_g_4 (List.mem_of_getElem? (i := 232) (by decide +kernel))) rfl
theorem im_X8_valueAt : Cond.instanceMethod yX8_valueAt ∈ lw_gd := zm (lw_g_4 (List.mem_of_getElem? (i := 121) (by decide +kernel))) rfl
theorem ml_X11_188 : Cond.methodLink RX11 188 yX8_isBlock ∈ lw_gd := zm (lw_g_4 (List.mem_of_getElem? (i := 222) (by decide +kernel))) rfl
theorem ml_X11_197 : Cond.methodLink RX11 197 yX8_levelOf ∈ lw_gd := zm (lw_g_4 (List.mem_of_getElem? (i := 223) (by decide +kernel))) rfl
theorem ml_X11_200 : Cond.methodLink RX11 200 yX8_sizeOf ∈ lw_gd := zm (lw_g_4 (List.mem_of_getElem? (i := 231) (by decide +kernel))) rfl
theorem ml_X11_203 : Cond.methodLink RX11 203 yX8_isFresh ∈ lw_gd := zm (lw_g_4 (List.mem_of_getElem? (i := 235) (by decide +kernel))) rfl
theorem ml_X11_206 : Cond.methodLink RX11 206 yX8_isHeld ∈ lw_gd := zm (lw_g_4 (List.mem_of_getElem? (i := 236) (by decide +kernel))) rfl
theorem ml_X11_209 : Cond.methodLink RX11 209 yX8_slot ∈ lw_gd := zm (lw_g_5 (List.mem_of_getElem? (i := 1) (by decide +kernel))) rfl
theorem ml_X11_219 : Cond.methodLink RX11 219 yX2_toldOf ∈ lw_gd := zm (lw_g_5 (List.mem_of_getElem? (i := 6) (by decide +kernel))) rfl
theorem ml_X11_222 : Cond.methodLink RX11 222 yX8_valueAt ∈ lw_gd := zm (lw_g_5 (List.mem_of_getElem? (i := 15) (by decide +kernel))) rfl
theorem ml_X11_227 : Cond.methodLink RX11 227 yX11_isKey ∈ lw_gd := zm (lw_g_5 (List.mem_of_getElem? (i := 28) (by decide +kernel))) rfl
theorem ml_X11_230 : Cond.methodLink RX11 230 yX8_below ∈ lw_gd := zm (lw_g_5 (List.mem_of_getElem? (i := 31) (by decide +kernel))) rfl
theorem ml_X2_40 : Cond.methodLink RX2 40 yX2_toldRows ∈ lw_gd := zm (lw_g_5 (List.mem_of_getElem? (i := 10) (by decide +kernel))) rfl
theorem ml_X8_73 : Cond.methodLink RX8 73 yX8_slot ∈ lw_gd := zm (lw_g_4 (List.mem_of_getElem? (i := 94) (by decide +kernel))) rfl
theorem ml_X8_77 : Cond.methodLink RX8 77 yX8_entryFor ∈ lw_gd := zm (lw_g_4 (List.mem_of_getElem? (i := 128) (by decide +kernel))) rfl
theorem ml_X8_80 : Cond.methodLink RX8 80 yX8_below ∈ lw_gd := zm (lw_g_4 (List.mem_of_getElem? (i := 124) (by decide +kernel))) rfl
theorem ml_X8_83 : Cond.methodLink RX8 83 yX8_find ∈ lw_gd := zm (lw_g_4 (List.mem_of_getElem? (i := 129) (by decide +kernel))) rfl
theorem se_X2_toldOf : Cond.selects RX2 yX2_toldOf yX2_toldOf ∈ lw_gd := zm (lw_g_5 (List.mem_of_getElem? (i := 8) (by decide +kernel))) rfl
theorem se_X8_below : Cond.selects RX8 yX8_below yX8_below ∈ lw_gd := zm (lw_g_4 (List.mem_of_getElem? (i := 126) (by decide +kernel))) rfl
theorem se_X8_entryFor : Cond.selects RX8 yX8_entryFor yX8_entryFor ∈ lw_gd := zm (lw_g_4 (List.mem_of_getElem? (i := 102) (by decide +kernel))) rfl
theorem se_X8_find : Cond.selects RX8 yX8_find yX8_find ∈ lw_gd := zm (lw_g_4 (List.mem_of_getElem? (i := 114) (by decide +kernel))) rfl
theorem se_X8_isFresh : Cond.selects RX8 yX8_isFresh yX8_isFresh ∈ lw_gd := zm (lw_g_4 (List.mem_of_getElem? (i := 67) (by decide +kernel))) rfl
theorem se_X8_levelOf : Cond.selects RX8 yX8_levelOf yX8_levelOf ∈ lw_gd := zm (lw_g_4 (List.mem_of_getElem? (i := 225) (by decide +kernel))) rfl
theorem se_X8_sizeOf : Cond.selects RX8 yX8_sizeOf yX8_sizeOf ∈ lw_gd := zm (lw_g_4 (List.mem_of_getElem? (i := 233) (by decide +kernel))) rfl
theorem se_X8_valueAt : Cond.selects RX8 yX8_valueAt yX8_valueAt ∈ lw_gd := zm (lw_g_4 (List.mem_of_getElem? (i := 122) (by decide +kernel))) rfl
theorem st_X11_isKey : Cond.static yX11_isKey ∈ lw_gd := zm (lw_g_5 (List.mem_of_getElem? (i := 29) (by decide +kernel))) rfl
theorem eX11_block_0 : decode cX11_block 0 = .ok (.aload_n 0, 1) ∧ decode cX11_block 1 = .ok (.getfield 79, 3) ∧ decode cX11_block 4 = .ok (.getfield 125, 3) ∧ decode cX11_block 7 = .ok (.astore_n 3, 1) ∧ decode cX11_block 8 = .ok (.aload_n 3, 1) ∧ decode cX11_block 9 = .ok (.iload_n 1, 1) ∧ decode cX11_block 10 = .ok (.invokevirtual 188, 3) ∧ decode cX11_block 13 = .ok (.ifCond .ne 5, 3) := by decide +kernel
theorem eX11_block_16 : decode cX11_block 16 = .ok (.iconst (-1), 1) ∧ decode cX11_block 17 = .ok (.ireturn, 1) ∧ decode cX11_block 18 = .ok (.iload_n 2, 1) ∧ decode cX11_block 19 = .ok (.tableswitch 91 0 5 #[37, 44, 51, 57, 63, 77], 37) ∧ decode cX11_block 56 = .ok (.aload_n 3, 1) ∧ decode cX11_block 57 = .ok (.getfield 191, 3) ∧ decode cX11_block 60 = .ok (.iload_n 1, 1) ∧ decode cX11_block 61 = .ok (.iaload, 1) := by decide +kernel
theorem eX11_block_62 : decode cX11_block 62 = .ok (.ireturn, 1) ∧ decode cX11_block 63 = .ok (.aload_n 3, 1) ∧ decode cX11_block 64 = .ok (.getfield 194, 3) ∧ decode cX11_block 67 = .ok (.iload_n 1, 1) ∧ decode cX11_block 68 = .ok (.iaload, 1) ∧ decode cX11_block 69 = .ok (.ireturn, 1) ∧ decode cX11_block 70 = .ok (.aload_n 3, 1) ∧ decode cX11_block 71 = .ok (.iload_n 1, 1) := by decide +kernel
theorem eX11_block_72 : decode cX11_block 72 = .ok (.invokevirtual 197, 3) ∧ decode cX11_block 75 = .ok (.ireturn, 1) ∧ decode cX11_block 76 = .ok (.aload_n 3, 1) ∧ decode cX11_block 77 = .ok (.iload_n 1, 1) ∧ decode cX11_block 78 = .ok (.invokevirtual 200, 3) ∧ decode cX11_block 81 = .ok (.ireturn, 1) ∧ decode cX11_block 82 = .ok (.aload_n 3, 1) ∧ decode cX11_block 83 = .ok (.iload_n 1, 1) := by decide +kernel
theorem eX11_block_84 : decode cX11_block 84 = .ok (.invokevirtual 203, 3) ∧ decode cX11_block 87 = .ok (.ifCond .eq 7, 3) ∧ decode cX11_block 90 = .ok (.iconst 1, 1) ∧ decode cX11_block 91 = .ok (.goto 4, 3) ∧ decode cX11_block 94 = .ok (.iconst 0, 1) ∧ decode cX11_block 95 = .ok (.ireturn, 1) ∧ decode cX11_block 96 = .ok (.aload_n 3, 1) ∧ decode cX11_block 97 = .ok (.iload_n 1, 1) := by decide +kernel
theorem eX11_block_98 : decode cX11_block 98 = .ok (.invokevirtual 206, 3) ∧ decode cX11_block 101 = .ok (.ifCond .eq 7, 3) ∧ decode cX11_block 104 = .ok (.iconst 1, 1) ∧ decode cX11_block 105 = .ok (.goto 4, 3) ∧ decode cX11_block 108 = .ok (.iconst 0, 1) ∧ decode cX11_block 109 = .ok (.ireturn, 1) ∧ decode cX11_block 110 = .ok (.iconst (-1), 1) ∧ decode cX11_block 111 = .ok (.ireturn, 1) := by decide +kernel
theorem eX11_entry_0 : decode cX11_entry 0 = .ok (.aload_n 0, 1) ∧ decode cX11_entry 1 = .ok (.getfield 79, 3) ∧ decode cX11_entry 4 = .ok (.getfield 125, 3) ∧ decode cX11_entry 7 = .ok (.astore 4, 2) ∧ decode cX11_entry 9 = .ok (.aload 4, 2) ∧ decode cX11_entry 11 = .ok (.iload_n 1, 1) ∧ decode cX11_entry 12 = .ok (.invokevirtual 188, 3) ∧ decode cX11_entry 15 = .ok (.ifCond .eq 17, 3) := by decide +kernel
theorem eX11_entry_18 : decode cX11_entry 18 = .ok (.iload_n 2, 1) ∧ decode cX11_entry 19 = .ok (.ifCond .lt 13, 3) ∧ decode cX11_entry 22 = .ok (.iload_n 2, 1) ∧ decode cX11_entry 23 = .ok (.aload 4, 2) ∧ decode cX11_entry 25 = .ok (.iload_n 1, 1) ∧ decode cX11_entry 26 = .ok (.invokevirtual 200, 3) ∧ decode cX11_entry 29 = .ok (.if_icmp .lt 5, 3) ∧ decode cX11_entry 32 = .ok (.iconst (-1), 1) := by decide +kernel
theorem eX11_entry_33 : decode cX11_entry 33 = .ok (.ireturn, 1) ∧ decode cX11_entry 34 = .ok (.aload 4, 2) ∧ decode cX11_entry 36 = .ok (.iload_n 1, 1) ∧ decode cX11_entry 37 = .ok (.iload_n 2, 1) ∧ decode cX11_entry 38 = .ok (.invokevirtual 209, 3) ∧ decode cX11_entry 41 = .ok (.istore 5, 2) ∧ decode cX11_entry 43 = .ok (.iload_n 3, 1) ∧ decode cX11_entry 44 = .ok (.ifCond .ne 12, 3) := by decide +kernel
theorem eX11_entry_47 : decode cX11_entry 47 = .ok (.aload 4, 2) ∧ decode cX11_entry 49 = .ok (.getfield 213, 3) ∧ decode cX11_entry 52 = .ok (.iload 5, 2) ∧ decode cX11_entry 54 = .ok (.iaload, 1) ∧ decode cX11_entry 55 = .ok (.ireturn, 1) ∧ decode cX11_entry 56 = .ok (.iload_n 3, 1) ∧ decode cX11_entry 57 = .ok (.iconst 1, 1) ∧ decode cX11_entry 58 = .ok (.if_icmp .ne 14, 3) := by decide +kernel
theorem eX11_entry_61 : decode cX11_entry 61 = .ok (.aload 4, 2) ∧ decode cX11_entry 63 = .ok (.getfield 216, 3) ∧ decode cX11_entry 66 = .ok (.iload 5, 2) ∧ decode cX11_entry 68 = .ok (.iaload, 1) ∧ decode cX11_entry 69 = .ok (.goto 4, 3) ∧ decode cX11_entry 72 = .ok (.iconst (-1), 1) ∧ decode cX11_entry 73 = .ok (.ireturn, 1) ∧ decode cX11_isKey 0 = .ok (.iload_n 0, 1) := by decide +kernel
theorem eX11_isKey_1 : decode cX11_isKey 1 = .ok (.ifCond .lt 14, 3) ∧ decode cX11_isKey 4 = .ok (.iload_n 0, 1) ∧ decode cX11_isKey 5 = .ok (.sipush 999, 3) ∧ decode cX11_isKey 8 = .ok (.if_icmp .gt 7, 3) ∧ decode cX11_isKey 11 = .ok (.iconst 1, 1) ∧ decode cX11_isKey 12 = .ok (.goto 4, 3) ∧ decode cX11_isKey 15 = .ok (.iconst 0, 1) ∧ decode cX11_isKey 16 = .ok (.ireturn, 1) := by decide +kernel
theorem eX11_kept_0 : decode cX11_kept 0 = .ok (.aload_n 0, 1) ∧ decode cX11_kept 1 = .ok (.getfield 28, 3) ∧ decode cX11_kept 4 = .ok (.iload_n 1, 1) ∧ decode cX11_kept 5 = .ok (.iload_n 2, 1) ∧ decode cX11_kept 6 = .ok (.invokevirtual 219, 3) ∧ decode cX11_kept 9 = .ok (.ireturn, 1) ∧ decode cX11_key 0 = .ok (.aload_n 0, 1) ∧ decode cX11_key 1 = .ok (.getfield 79, 3) := by decide +kernel
theorem eX11_key_4 : decode cX11_key 4 = .ok (.getfield 125, 3) ∧ decode cX11_key 7 = .ok (.astore_n 3, 1) ∧ decode cX11_key 8 = .ok (.aload_n 3, 1) ∧ decode cX11_key 9 = .ok (.iload_n 1, 1) ∧ decode cX11_key 10 = .ok (.invokevirtual 161, 3) ∧ decode cX11_key 13 = .ok (.ifCond .eq 25, 3) ∧ decode cX11_key 16 = .ok (.iload_n 2, 1) ∧ decode cX11_key 17 = .ok (.ifCond .lt 21, 3) := by decide +kernel
theorem eX11_key_20 : decode cX11_key 20 = .ok (.iload_n 2, 1) ∧ decode cX11_key 21 = .ok (.aload_n 0, 1) ∧ decode cX11_key 22 = .ok (.getfield 49, 3) ∧ decode cX11_key 25 = .ok (.aload_n 3, 1) ∧ decode cX11_key 26 = .ok (.aload_n 3, 1) ∧ decode cX11_key 27 = .ok (.getfield 165, 3) ∧ decode cX11_key 30 = .ok (.iload_n 1, 1) ∧ decode cX11_key 31 = .ok (.iaload, 1) := by decide +kernel
theorem eX11_key_32 : decode cX11_key 32 = .ok (.invokevirtual 168, 3) ∧ decode cX11_key 35 = .ok (.if_icmp .lt 5, 3) ∧ decode cX11_key 38 = .ok (.iconst (-1), 1) ∧ decode cX11_key 39 = .ok (.ireturn, 1) ∧ decode cX11_key 40 = .ok (.aload_n 0, 1) ∧ decode cX11_key 41 = .ok (.getfield 49, 3) ∧ decode cX11_key 44 = .ok (.getfield 225, 3) ∧ decode cX11_key 47 = .ok (.iload_n 2, 1) := by decide +kernel
theorem eX11_key_48 : decode cX11_key 48 = .ok (.iaload, 1) ∧ decode cX11_key 49 = .ok (.ireturn, 1) ∧ decode cX11_path 0 = .ok (.aload_n 0, 1) ∧ decode cX11_path 1 = .ok (.getfield 79, 3) ∧ decode cX11_path 4 = .ok (.getfield 125, 3) ∧ decode cX11_path 7 = .ok (.astore 4, 2) ∧ decode cX11_path 9 = .ok (.aload 4, 2) ∧ decode cX11_path 11 = .ok (.iload_n 1, 1) := by decide +kernel
theorem eX11_path_12 : decode cX11_path 12 = .ok (.invokevirtual 161, 3) ∧ decode cX11_path 15 = .ok (.ifCond .eq 14, 3) ∧ decode cX11_path 18 = .ok (.iload_n 2, 1) ∧ decode cX11_path 19 = .ok (.invokestatic 227, 3) ∧ decode cX11_path 22 = .ok (.ifCond .eq 7, 3) ∧ decode cX11_path 25 = .ok (.iload_n 3, 1) ∧ decode cX11_path 26 = .ok (.ifCond .ge 5, 3) ∧ decode cX11_path 29 = .ok (.iconst (-1), 1) := by decide +kernel
theorem eX11_path_30 : decode cX11_path 30 = .ok (.ireturn, 1) ∧ decode cX11_path 31 = .ok (.aload 4, 2) ∧ decode cX11_path 33 = .ok (.getfield 165, 3) ∧ decode cX11_path 36 = .ok (.iload_n 1, 1) ∧ decode cX11_path 37 = .ok (.iaload, 1) ∧ decode cX11_path 38 = .ok (.istore 5, 2) ∧ decode cX11_path 40 = .ok (.iload 5, 2) ∧ decode cX11_path 42 = .ok (.iconst (-1), 1) := by decide +kernel
theorem eX11_path_43 : decode cX11_path 43 = .ok (.if_icmp .eq 15, 3) ∧ decode cX11_path 46 = .ok (.iload_n 3, 1) ∧ decode cX11_path 47 = .ok (.aload 4, 2) ∧ decode cX11_path 49 = .ok (.getfield 172, 3) ∧ decode cX11_path 52 = .ok (.iload 5, 2) ∧ decode cX11_path 54 = .ok (.iaload, 1) ∧ decode cX11_path 55 = .ok (.if_icmp .le 5, 3) ∧ decode cX11_path 58 = .ok (.iconst (-1), 1) := by decide +kernel
theorem eX11_path_59 : decode cX11_path 59 = .ok (.ireturn, 1) ∧ decode cX11_path 60 = .ok (.iconst 0, 1) ∧ decode cX11_path 61 = .ok (.istore 6, 2) ∧ decode cX11_path 63 = .ok (.iload 6, 2) ∧ decode cX11_path 65 = .ok (.iload_n 3, 1) ∧ decode cX11_path 66 = .ok (.if_icmp .ge 19, 3) ∧ decode cX11_path 69 = .ok (.aload 4, 2) ∧ decode cX11_path 71 = .ok (.iload 5, 2) := by decide +kernel
theorem eX11_path_73 : decode cX11_path 73 = .ok (.iload_n 2, 1) ∧ decode cX11_path 74 = .ok (.invokevirtual 230, 3) ∧ decode cX11_path 77 = .ok (.istore 5, 2) ∧ decode cX11_path 79 = .ok (.iinc 6 1, 3) ∧ decode cX11_path 82 = .ok (.goto (-19), 3) ∧ decode cX11_path 85 = .ok (.iload 5, 2) ∧ decode cX11_path 87 = .ok (.ireturn, 1) ∧ decode cX11_read 0 = .ok (.aload_n 0, 1) := by decide +kernel
theorem eX11_read_1 : decode cX11_read 1 = .ok (.getfield 79, 3) ∧ decode cX11_read 4 = .ok (.getfield 125, 3) ∧ decode cX11_read 7 = .ok (.iload_n 1, 1) ∧ decode cX11_read 8 = .ok (.invokevirtual 161, 3) ∧ decode cX11_read 11 = .ok (.ifCond .eq 29, 3) ∧ decode cX11_read 14 = .ok (.aload_n 0, 1) ∧ decode cX11_read 15 = .ok (.getfield 79, 3) ∧ decode cX11_read 18 = .ok (.getfield 125, 3) := by decide +kernel
theorem eX11_read_21 : decode cX11_read 21 = .ok (.aload_n 0, 1) ∧ decode cX11_read 22 = .ok (.getfield 79, 3) ∧ decode cX11_read 25 = .ok (.getfield 125, 3) ∧ decode cX11_read 28 = .ok (.getfield 165, 3) ∧ decode cX11_read 31 = .ok (.iload_n 1, 1) ∧ decode cX11_read 32 = .ok (.iaload, 1) ∧ decode cX11_read 33 = .ok (.iload_n 2, 1) ∧ decode cX11_read 34 = .ok (.invokevirtual 222, 3) := by decide +kernel
theorem eX11_read_37 : decode cX11_read 37 = .ok (.goto 4, 3) ∧ decode cX11_read 40 = .ok (.iconst (-1), 1) ∧ decode cX11_read 41 = .ok (.ireturn, 1) ∧ decode cX11_shared 0 = .ok (.aload_n 0, 1) ∧ decode cX11_shared 1 = .ok (.getfield 79, 3) ∧ decode cX11_shared 4 = .ok (.getfield 125, 3) ∧ decode cX11_shared 7 = .ok (.astore_n 3, 1) ∧ decode cX11_shared 8 = .ok (.aload_n 3, 1) := by decide +kernel
theorem eX11_shared_9 : decode cX11_shared 9 = .ok (.iload_n 1, 1) ∧ decode cX11_shared 10 = .ok (.invokevirtual 161, 3) ∧ decode cX11_shared 13 = .ok (.ifCond .eq 11, 3) ∧ decode cX11_shared 16 = .ok (.aload_n 3, 1) ∧ decode cX11_shared 17 = .ok (.iload_n 2, 1) ∧ decode cX11_shared 18 = .ok (.invokevirtual 161, 3) ∧ decode cX11_shared 21 = .ok (.ifCond .ne 5, 3) ∧ decode cX11_shared 24 = .ok (.iconst (-1), 1) := by decide +kernel
theorem eX11_shared_25 : decode cX11_shared 25 = .ok (.ireturn, 1) ∧ decode cX11_shared 26 = .ok (.aload_n 0, 1) ∧ decode cX11_shared 27 = .ok (.getfield 49, 3) ∧ decode cX11_shared 30 = .ok (.aload_n 3, 1) ∧ decode cX11_shared 31 = .ok (.aload_n 3, 1) ∧ decode cX11_shared 32 = .ok (.getfield 165, 3) ∧ decode cX11_shared 35 = .ok (.iload_n 1, 1) ∧ decode cX11_shared 36 = .ok (.iaload, 1) := by decide +kernel
theorem eX11_shared_37 : decode cX11_shared 37 = .ok (.invokevirtual 175, 3) ∧ decode cX11_shared 40 = .ok (.aload_n 0, 1) ∧ decode cX11_shared 41 = .ok (.getfield 49, 3) ∧ decode cX11_shared 44 = .ok (.aload_n 3, 1) ∧ decode cX11_shared 45 = .ok (.aload_n 3, 1) ∧ decode cX11_shared 46 = .ok (.getfield 165, 3) ∧ decode cX11_shared 49 = .ok (.iload_n 2, 1) ∧ decode cX11_shared 50 = .ok (.iaload, 1) := by decide +kernel
theorem eX11_shared_51 : decode cX11_shared 51 = .ok (.invokevirtual 175, 3) ∧ decode cX11_shared 54 = .ok (.land, 1) ∧ decode cX11_shared 55 = .ok (.invokestatic 179, 3) ∧ decode cX11_shared 58 = .ok (.ireturn, 1) ∧ decode cX11_total 0 = .ok (.aload_n 0, 1) ∧ decode cX11_total 1 = .ok (.getfield 79, 3) ∧ decode cX11_total 4 = .ok (.getfield 125, 3) ∧ decode cX11_total 7 = .ok (.astore 4, 2) := by decide +kernel
theorem eX11_total_9 : decode cX11_total 9 = .ok (.aload 4, 2) ∧ decode cX11_total 11 = .ok (.iload_n 1, 1) ∧ decode cX11_total 12 = .ok (.invokevirtual 161, 3) ∧ decode cX11_total 15 = .ok (.ifCond .ne 5, 3) ∧ decode cX11_total 18 = .ok (.iconst (-1), 1) ∧ decode cX11_total 19 = .ok (.ireturn, 1) ∧ decode cX11_total 20 = .ok (.aload_n 0, 1) ∧ decode cX11_total 21 = .ok (.getfield 49, 3) := by decide +kernel
theorem eX11_total_24 : decode cX11_total 24 = .ok (.aload 4, 2) ∧ decode cX11_total 26 = .ok (.aload 4, 2) ∧ decode cX11_total 28 = .ok (.getfield 165, 3) ∧ decode cX11_total 31 = .ok (.iload_n 1, 1) ∧ decode cX11_total 32 = .ok (.iaload, 1) ∧ decode cX11_total 33 = .ok (.invokevirtual 168, 3) ∧ decode cX11_total 36 = .ok (.istore 5, 2) ∧ decode cX11_total 38 = .ok (.iconst 0, 1) := by decide +kernel
theorem eX11_total_39 : decode cX11_total 39 = .ok (.istore 6, 2) ∧ decode cX11_total 41 = .ok (.iconst 0, 1) ∧ decode cX11_total 42 = .ok (.istore 7, 2) ∧ decode cX11_total 44 = .ok (.iload 7, 2) ∧ decode cX11_total 46 = .ok (.iload 5, 2) ∧ decode cX11_total 48 = .ok (.if_icmp .ge 52, 3) ∧ decode cX11_total 51 = .ok (.aload_n 0, 1) ∧ decode cX11_total 52 = .ok (.getfield 49, 3) := by decide +kernel
theorem eX11_total_55 : decode cX11_total 55 = .ok (.getfield 225, 3) ∧ decode cX11_total 58 = .ok (.iload 7, 2) ∧ decode cX11_total 60 = .ok (.iaload, 1) ∧ decode cX11_total 61 = .ok (.iload_n 2, 1) ∧ decode cX11_total 62 = .ok (.if_icmp .lt 32, 3) ∧ decode cX11_total 65 = .ok (.aload_n 0, 1) ∧ decode cX11_total 66 = .ok (.getfield 49, 3) ∧ decode cX11_total 69 = .ok (.getfield 225, 3) := by decide +kernel
theorem eX11_total_72 : decode cX11_total 72 = .ok (.iload 7, 2) ∧ decode cX11_total 74 = .ok (.iaload, 1) ∧ decode cX11_total 75 = .ok (.iload_n 3, 1) ∧ decode cX11_total 76 = .ok (.if_icmp .gt 18, 3) ∧ decode cX11_total 79 = .ok (.iload 6, 2) ∧ decode cX11_total 81 = .ok (.aload_n 0, 1) ∧ decode cX11_total 82 = .ok (.getfield 49, 3) ∧ decode cX11_total 85 = .ok (.getfield 226, 3) := by decide +kernel
theorem eX11_total_88 : decode cX11_total 88 = .ok (.iload 7, 2) ∧ decode cX11_total 90 = .ok (.iaload, 1) ∧ decode cX11_total 91 = .ok (.iadd, 1) ∧ decode cX11_total 92 = .ok (.istore 6, 2) ∧ decode cX11_total 94 = .ok (.iinc 7 1, 3) ∧ decode cX11_total 97 = .ok (.goto (-53), 3) ∧ decode cX11_total 100 = .ok (.iload 6, 2) ∧ decode cX11_total 102 = .ok (.ireturn, 1) := by decide +kernel
theorem eX2_toldOf_0 : decode cX2_toldOf 0 = .ok (.iload_n 1, 1) ∧ decode cX2_toldOf 1 = .ok (.ifCond .lt 11, 3) ∧ decode cX2_toldOf 4 = .ok (.iload_n 1, 1) ∧ decode cX2_toldOf 5 = .ok (.aload_n 0, 1) ∧ decode cX2_toldOf 6 = .ok (.invokevirtual 40, 3) ∧ decode cX2_toldOf 9 = .ok (.if_icmp .lt 5, 3) ∧ decode cX2_toldOf 12 = .ok (.iconst (-1), 1) ∧ decode cX2_toldOf 13 = .ok (.ireturn, 1) := by decide +kernel
theorem eX2_toldOf_14 : decode cX2_toldOf 14 = .ok (.aload_n 0, 1) ∧ decode cX2_toldOf 15 = .ok (.getfield 27, 3) ∧ decode cX2_toldOf 18 = .ok (.aload_n 0, 1) ∧ decode cX2_toldOf 19 = .ok (.invokevirtual 40, 3) ∧ decode cX2_toldOf 22 = .ok (.isub, 1) ∧ decode cX2_toldOf 23 = .ok (.iload_n 1, 1) ∧ decode cX2_toldOf 24 = .ok (.iadd, 1) ∧ decode cX2_toldOf 25 = .ok (.istore_n 3, 1) := by decide +kernel
theorem eX2_toldOf_26 : decode cX2_toldOf 26 = .ok (.iload_n 2, 1) ∧ decode cX2_toldOf 27 = .ok (.tableswitch 46 0 2 #[25, 32, 39], 25) ∧ decode cX2_toldOf 52 = .ok (.aload_n 0, 1) ∧ decode cX2_toldOf 53 = .ok (.getfield 11, 3) ∧ decode cX2_toldOf 56 = .ok (.iload_n 3, 1) ∧ decode cX2_toldOf 57 = .ok (.iaload, 1) ∧ decode cX2_toldOf 58 = .ok (.ireturn, 1) ∧ decode cX2_toldOf 59 = .ok (.aload_n 0, 1) := by decide +kernel
theorem eX2_toldOf_60 : decode cX2_toldOf 60 = .ok (.getfield 15, 3) ∧ decode cX2_toldOf 63 = .ok (.iload_n 3, 1) ∧ decode cX2_toldOf 64 = .ok (.iaload, 1) ∧ decode cX2_toldOf 65 = .ok (.ireturn, 1) ∧ decode cX2_toldOf 66 = .ok (.aload_n 0, 1) ∧ decode cX2_toldOf 67 = .ok (.getfield 18, 3) ∧ decode cX2_toldOf 70 = .ok (.iload_n 3, 1) ∧ decode cX2_toldOf 71 = .ok (.iaload, 1) := by decide +kernel
theorem eX2_toldOf_72 : decode cX2_toldOf 72 = .ok (.ireturn, 1) ∧ decode cX2_toldOf 73 = .ok (.iconst (-1), 1) ∧ decode cX2_toldOf 74 = .ok (.ireturn, 1) ∧ decode cX8_below 0 = .ok (.aload_n 0, 1) ∧ decode cX8_below 1 = .ok (.getfield 27, 3) ∧ decode cX8_below 4 = .ok (.aload_n 0, 1) ∧ decode cX8_below 5 = .ok (.iload_n 1, 1) ∧ decode cX8_below 6 = .ok (.aload_n 0, 1) := by decide +kernel
theorem eX8_below_7 : decode cX8_below 7 = .ok (.iload_n 1, 1) ∧ decode cX8_below 8 = .ok (.iload_n 2, 1) ∧ decode cX8_below 9 = .ok (.invokevirtual 77, 3) ∧ decode cX8_below 12 = .ok (.invokevirtual 73, 3) ∧ decode cX8_below 15 = .ok (.iaload, 1) ∧ decode cX8_below 16 = .ok (.ireturn, 1) ∧ decode cX8_entryFor 0 = .ok (.iconst 0, 1) ∧ decode cX8_entryFor 1 = .ok (.istore_n 3, 1) := by decide +kernel
theorem eX8_entryFor_2 : decode cX8_entryFor 2 = .ok (.iconst 1, 1) ∧ decode cX8_entryFor 3 = .ok (.istore 4, 2) ∧ decode cX8_entryFor 5 = .ok (.iload 4, 2) ∧ decode cX8_entryFor 7 = .ok (.aload_n 0, 1) ∧ decode cX8_entryFor 8 = .ok (.getfield 21, 3) ∧ decode cX8_entryFor 11 = .ok (.iload_n 1, 1) ∧ decode cX8_entryFor 12 = .ok (.iaload, 1) ∧ decode cX8_entryFor 13 = .ok (.if_icmp .ge 28, 3) := by decide +kernel
theorem eX8_entryFor_16 : decode cX8_entryFor 16 = .ok (.aload_n 0, 1) ∧ decode cX8_entryFor 17 = .ok (.getfield 24, 3) ∧ decode cX8_entryFor 20 = .ok (.aload_n 0, 1) ∧ decode cX8_entryFor 21 = .ok (.iload_n 1, 1) ∧ decode cX8_entryFor 22 = .ok (.iload 4, 2) ∧ decode cX8_entryFor 24 = .ok (.invokevirtual 73, 3) ∧ decode cX8_entryFor 27 = .ok (.iaload, 1) ∧ decode cX8_entryFor 28 = .ok (.iload_n 2, 1) := by decide +kernel
theorem eX8_entryFor_29 : decode cX8_entryFor 29 = .ok (.if_icmp .gt 6, 3) ∧ decode cX8_entryFor 32 = .ok (.iload 4, 2) ∧ decode cX8_entryFor 34 = .ok (.istore_n 3, 1) ∧ decode cX8_entryFor 35 = .ok (.iinc 4 1, 3) ∧ decode cX8_entryFor 38 = .ok (.goto (-33), 3) ∧ decode cX8_entryFor 41 = .ok (.iload_n 3, 1) ∧ decode cX8_entryFor 42 = .ok (.ireturn, 1) ∧ decode cX8_find 0 = .ok (.iconst 0, 1) := by decide +kernel
theorem eX8_find_1 : decode cX8_find 1 = .ok (.istore_n 3, 1) ∧ decode cX8_find 2 = .ok (.iload_n 3, 1) ∧ decode cX8_find 3 = .ok (.aload_n 0, 1) ∧ decode cX8_find 4 = .ok (.getfield 21, 3) ∧ decode cX8_find 7 = .ok (.iload_n 1, 1) ∧ decode cX8_find 8 = .ok (.iaload, 1) ∧ decode cX8_find 9 = .ok (.if_icmp .ge 26, 3) ∧ decode cX8_find 12 = .ok (.aload_n 0, 1) := by decide +kernel
theorem eX8_find_13 : decode cX8_find 13 = .ok (.getfield 24, 3) ∧ decode cX8_find 16 = .ok (.aload_n 0, 1) ∧ decode cX8_find 17 = .ok (.iload_n 1, 1) ∧ decode cX8_find 18 = .ok (.iload_n 3, 1) ∧ decode cX8_find 19 = .ok (.invokevirtual 73, 3) ∧ decode cX8_find 22 = .ok (.iaload, 1) ∧ decode cX8_find 23 = .ok (.iload_n 2, 1) ∧ decode cX8_find 24 = .ok (.if_icmp .ne 5, 3) := by decide +kernel
theorem eX8_find_27 : decode cX8_find 27 = .ok (.iload_n 3, 1) ∧ decode cX8_find 28 = .ok (.ireturn, 1) ∧ decode cX8_find 29 = .ok (.iinc 3 1, 3) ∧ decode cX8_find 32 = .ok (.goto (-30), 3) ∧ decode cX8_find 35 = .ok (.iconst (-1), 1) ∧ decode cX8_find 36 = .ok (.ireturn, 1) ∧ decode cX8_isFresh 0 = .ok (.aload_n 0, 1) ∧ decode cX8_isFresh 1 = .ok (.iload_n 1, 1) := by decide +kernel
theorem eX8_isFresh_2 : decode cX8_isFresh 2 = .ok (.invokevirtual 57, 3) ∧ decode cX8_isFresh 5 = .ok (.ifCond .eq 25, 3) ∧ decode cX8_isFresh 8 = .ok (.aload_n 0, 1) ∧ decode cX8_isFresh 9 = .ok (.getfield 9, 3) ∧ decode cX8_isFresh 12 = .ok (.iload_n 1, 1) ∧ decode cX8_isFresh 13 = .ok (.iaload, 1) ∧ decode cX8_isFresh 14 = .ok (.ifCond .le 16, 3) ∧ decode cX8_isFresh 17 = .ok (.aload_n 0, 1) := by decide +kernel
theorem eX8_isFresh_18 : decode cX8_isFresh 18 = .ok (.getfield 15, 3) ∧ decode cX8_isFresh 21 = .ok (.iload_n 1, 1) ∧ decode cX8_isFresh 22 = .ok (.iaload, 1) ∧ decode cX8_isFresh 23 = .ok (.ifCond .ne 7, 3) ∧ decode cX8_isFresh 26 = .ok (.iconst 1, 1) ∧ decode cX8_isFresh 27 = .ok (.goto 4, 3) ∧ decode cX8_isFresh 30 = .ok (.iconst 0, 1) ∧ decode cX8_isFresh 31 = .ok (.ireturn, 1) := by decide +kernel
theorem eX8_sizeOf_0 : decode cX8_sizeOf 0 = .ok (.aload_n 0, 1) ∧ decode cX8_sizeOf 1 = .ok (.iload_n 1, 1) ∧ decode cX8_sizeOf 2 = .ok (.invokevirtual 61, 3) ∧ decode cX8_sizeOf 5 = .ok (.ifCond .ne 11, 3) ∧ decode cX8_sizeOf 8 = .ok (.aload_n 0, 1) ∧ decode cX8_sizeOf 9 = .ok (.iload_n 1, 1) ∧ decode cX8_sizeOf 10 = .ok (.invokevirtual 64, 3) ∧ decode cX8_sizeOf 13 = .ok (.ifCond .eq 12, 3) := by decide +kernel
theorem eX8_sizeOf_16 : decode cX8_sizeOf 16 = .ok (.aload_n 0, 1) ∧ decode cX8_sizeOf 17 = .ok (.getfield 21, 3) ∧ decode cX8_sizeOf 20 = .ok (.iload_n 1, 1) ∧ decode cX8_sizeOf 21 = .ok (.iaload, 1) ∧ decode cX8_sizeOf 22 = .ok (.goto 4, 3) ∧ decode cX8_sizeOf 25 = .ok (.iconst 0, 1) ∧ decode cX8_sizeOf 26 = .ok (.ireturn, 1) ∧ decode cX8_valueAt 0 = .ok (.iload_n 1, 1) := by decide +kernel
theorem eX8_valueAt_1 : decode cX8_valueAt 1 = .ok (.ifCond .ge 5, 3) ∧ decode cX8_valueAt 4 = .ok (.iconst (-1), 1) ∧ decode cX8_valueAt 5 = .ok (.ireturn, 1) ∧ decode cX8_valueAt 6 = .ok (.iload_n 1, 1) ∧ decode cX8_valueAt 7 = .ok (.istore_n 3, 1) ∧ decode cX8_valueAt 8 = .ok (.aload_n 0, 1) ∧ decode cX8_valueAt 9 = .ok (.getfield 18, 3) ∧ decode cX8_valueAt 12 = .ok (.iload_n 1, 1) := by decide +kernel
theorem eX8_valueAt_13 : decode cX8_valueAt 13 = .ok (.iaload, 1) ∧ decode cX8_valueAt 14 = .ok (.istore 4, 2) ∧ decode cX8_valueAt 16 = .ok (.iload 4, 2) ∧ decode cX8_valueAt 18 = .ok (.ifCond .le 16, 3) ∧ decode cX8_valueAt 21 = .ok (.aload_n 0, 1) ∧ decode cX8_valueAt 22 = .ok (.iload_n 3, 1) ∧ decode cX8_valueAt 23 = .ok (.iload_n 2, 1) ∧ decode cX8_valueAt 24 = .ok (.invokevirtual 80, 3) := by decide +kernel
theorem eX8_valueAt_27 : decode cX8_valueAt 27 = .ok (.istore_n 3, 1) ∧ decode cX8_valueAt 28 = .ok (.iinc 4 (-1), 3) ∧ decode cX8_valueAt 31 = .ok (.goto (-15), 3) ∧ decode cX8_valueAt 34 = .ok (.aload_n 0, 1) ∧ decode cX8_valueAt 35 = .ok (.iload_n 3, 1) ∧ decode cX8_valueAt 36 = .ok (.iload_n 2, 1) ∧ decode cX8_valueAt 37 = .ok (.invokevirtual 83, 3) ∧ decode cX8_valueAt 40 = .ok (.istore 4, 2) := by decide +kernel
theorem eX8_valueAt_42 : decode cX8_valueAt 42 = .ok (.iload 4, 2) ∧ decode cX8_valueAt 44 = .ok (.iconst (-1), 1) ∧ decode cX8_valueAt 45 = .ok (.if_icmp .ne 7, 3) ∧ decode cX8_valueAt 48 = .ok (.iconst (-1), 1) ∧ decode cX8_valueAt 49 = .ok (.goto 15, 3) ∧ decode cX8_valueAt 52 = .ok (.aload_n 0, 1) ∧ decode cX8_valueAt 53 = .ok (.getfield 27, 3) ∧ decode cX8_valueAt 56 = .ok (.aload_n 0, 1) := by decide +kernel
theorem eX8_valueAt_57 : decode cX8_valueAt 57 = .ok (.iload_n 3, 1) ∧ decode cX8_valueAt 58 = .ok (.iload 4, 2) ∧ decode cX8_valueAt 60 = .ok (.invokevirtual 73, 3) ∧ decode cX8_valueAt 63 = .ok (.iaload, 1) ∧ decode cX8_valueAt 64 = .ok (.ireturn, 1) := by decide +kernel
set_option maxHeartbeats 4000000 in
set_option maxRecDepth 100000 in
theorem k_x8_sizeOf (l : Launch) (D : va_G) (a : Nat → Nat) (p0 : Int) (s : MS) (o : Int) (h : m_x8_sizeOf p0 s = some o) : yRi l yX8_sizeOf cX8_sizeOf 2 (some .int) { frames := 2, cells := 0, slots := 0, locals := 120 } D [.ref (a 53), .int (i2 p0)] (CS D a s) (i2 o) := by
  refine Met.ofW (cc := cX8_sizeOf) (maxL := 2) (ret := (some .int)) (by decide) rfl ?_
  intro p e s₀ m args below meth c s₁ B hml hv
  obtain ⟨rfl, ⟨hP, hK⟩, hN⟩ := hv
  have hx := B.exec
  have hb := B.bytes
  have hr := B.returns
  have hts := atoms_spec (ws := wz yX8_sizeOf cX8_sizeOf 2 (some .int)) B.pre
  have ht : ∀ w ∈ lw_gd, w.before _ s₀ = true := fun w h => hts w (List.mem_cons_of_mem _ h)
  have hown : s₀.vm.findClass RX8 = some m.cls := findClass_of_methodNamed B.named
  have hlocks := B.notSynchronized
  have hS : va_S (fun _ => False) s₀.heap s₀.heap [] := va_S.rf
  have hl := lv_entry ([.ref (a 53), .int (i2 p0)]) (n := 2) (Nat.le_of_ble_eq_true rfl)
  rw [lg_entry_eq]
  generalize (lg_sl ([.ref (a 53), .int (i2 p0)]) ++ List.replicate (2 - (lg_sl ([.ref (a 53), .int (i2 p0)])).length) Slot.unset).toArray = ls at hl ⊢
  have hl : lv_has ls 2 [(0, .ref (a 53)), (1, .int (i2 p0))] := hl
  unfold m_x8_sizeOf at h
  refine y_head (pcJ := 26) (σ := Int) (fun u H locs ls => va_P D vwCl (CS D a s) H ∧ va_S (fun _ => False) s₀.heap H locs ∧ lv_has ls 2 [] ∧ m_x8_sizeOf_J26 s u = some o) (fun u => [.int (i2 u)]) (fun u H locs ls hI => ?_) (fun J26 => ?_)
  · obtain ⟨hP, hS, hl, h⟩ := hI
    obtain ⟨x1, rfl⟩ : ∃ z, z = u := ⟨u, rfl⟩
    have hP : va_P D vwCl (CS D a s) H := hP
    have hl : lv_has ls 2 [] := hl
    have h : m_x8_sizeOf_J26 s x1 = some o := h
    unfold m_x8_sizeOf_J26 at h
    obtain rfl := Option.some.inj h
    exact W.iret (v := (i2 x1)) hx hb hr (fun t ht hW => ⟨⟨_, (), rfl, rfl, trivial⟩, hS.F ht⟩) hS.2.2 eX8_sizeOf_16.2.2.2.2.2.2.1
  refine y_head (pcJ := 16) (σ := Int) (fun u H locs ls => va_P D vwCl (CS D a s) H ∧ va_S (fun _ => False) s₀.heap H locs ∧ lv_has ls 2 [(0, .ref (a 53)), (1, .int (i2 u))] ∧ m_x8_sizeOf_J16 s u = some o) (fun u => []) (fun u H locs ls hI => ?_) (fun J16 => ?_)
  · obtain ⟨hP, hS, hl, h⟩ := hI
    obtain ⟨x2, rfl⟩ : ∃ z, z = u := ⟨u, rfl⟩
    have hP : va_P D vwCl (CS D a s) H := hP
    have hl : lv_has ls 2 [(0, .ref (a 53)), (1, .int (i2 x2))] := hl
    have h : m_x8_sizeOf_J16 s x2 = some o := h
    unfold m_x8_sizeOf_J16 at h
    refine lv_aload_n hx hb eX8_sizeOf_16.1 rfl (lv_at hl 0 rfl) ?_
    refine va_get (D := D) (ci := 8) (v := .ref (a 57)) (C := RX8) (T := TX8) (N := 11) hx hb ht inX8 hown hK hP 53 CW_53 rfl 6 (by decide) (ht (.fieldLink RX8 21 "CloneVolumes$State" "size" "[I") fl_X8_21) (fun _ h9 => h9) rfl eX8_sizeOf_16.2.1 ?_
    refine lv_iload_n hx hb eX8_sizeOf_16.2.2.1 rfl (lv_at hl 1 rfl) ?_
    obtain ⟨y3, ey3, iy3, h⟩ := rdI_e h
    refine ya_iald (i := x2) hx hb hK hP 57 0 CW_57 rfl (by decide) ey3 iy3 eX8_sizeOf_16.2.2.2.1 ?_
    refine lv_goto (tgt := 26) hx hb eX8_sizeOf_16.2.2.2.2.1 (by decide) ?_
    exact J26 y3 _ _ _ ⟨hP, hS, lv_sub hl [] rfl, h⟩
  refine lv_aload_n hx hb eX8_sizeOf_0.1 rfl (lv_at hl 0 rfl) ?_
  refine lv_iload_n hx hb eX8_sizeOf_0.2.1 rfl (lv_at hl 1 rfl) ?_
  obtain ⟨r5, hc4, h⟩ := bn_e h
  refine ycV (r0 := i2 r5) (As := [.int (i2 p0)]) (rest := []) (C := RX8) (n := 1) ⟨hx, hb, hml, hown, ht⟩ (k_x8_inUse l D a p0 _ _ hc4) (zgV ml_X8_61 im_X8_inUse se_X8_inUse in_X8 co_X8_inUse) rfl rfl (by decide +kernel) ⟨Nat.le_of_ble_eq_true rfl, Nat.le_of_ble_eq_true rfl⟩ hN hK hP hS 53 CW_53 rfl rfl rfl hl.1 rfl (Nat.le_of_ble_eq_true rfl) eX8_sizeOf_0.2.2.1 ⟨Nat.le_of_ble_eq_true rfl, Nat.le_of_ble_eq_true rfl⟩ (fun H locs hP hS => ?_)
  obtain ⟨hr6, h⟩ := rg_e h
  refine lv_if_ne (tgt := 16) hx hb eX8_sizeOf_0.2.2.2.1 (by decide) (fun c7 => ?_) (fun c7 => ?_)
  · have h := if_f (mt (i2_eq (x := r5) (y := 0) hr6 (by decide)).mpr c7) h
    exact J16 p0 _ _ _ ⟨hP, hS, lv_sub hl [0, 1] rfl, h⟩
  · have h := if_t ((i2_eq (x := r5) (y := 0) hr6 (by decide)).mp c7) h
    refine lv_aload_n hx hb eX8_sizeOf_0.2.2.2.2.1 rfl (lv_at hl 0 rfl) ?_
    refine lv_iload_n hx hb eX8_sizeOf_0.2.2.2.2.2.1 rfl (lv_at hl 1 rfl) ?_
    obtain ⟨r9, hc8, h⟩ := bn_e h
    refine ycV (r0 := i2 r9) (As := [.int (i2 p0)]) (rest := []) (C := RX8) (n := 1) ⟨hx, hb, hml, hown, ht⟩ (k_x8_isHeld l D a p0 _ _ hc8) (zgV ml_X8_64 im_X8_isHeld se_X8_isHeld in_X8 co_X8_isHeld) rfl rfl (by decide +kernel) ⟨Nat.le_of_ble_eq_true rfl, Nat.le_of_ble_eq_true rfl⟩ hN hK hP hS 53 CW_53 rfl rfl rfl hl.1 rfl (Nat.le_of_ble_eq_true rfl) eX8_sizeOf_0.2.2.2.2.2.2.1 ⟨Nat.le_of_ble_eq_true rfl, Nat.le_of_ble_eq_true rfl⟩ (fun H locs hP hS => ?_)
    obtain ⟨hr10, h⟩ := rg_e h
    refine lv_if_eq (tgt := 25) hx hb eX8_sizeOf_0.2.2.2.2.2.2.2 (by decide) (fun c11 => ?_) (fun c11 => ?_)
    · have h := if_t ((i2_eq (x := r9) (y := 0) hr10 (by decide)).mp c11) h
      refine lv_iconst (v := 0) hx hb eX8_sizeOf_16.2.2.2.2.2.1 (by decide) ?_
      exact J26 0 _ _ _ ⟨hP, hS, lv_sub hl [] rfl, h⟩
    · have h := if_f (mt (i2_eq (x := r9) (y := 0) hr10 (by decide)).mpr c11) h
      exact J16 p0 _ _ _ ⟨hP, hS, lv_sub hl [0, 1] rfl, h⟩
set_option maxHeartbeats 4000000 in
set_option maxRecDepth 100000 in
theorem k_x8_isFresh (l : Launch) (D : va_G) (a : Nat → Nat) (p0 : Int) (s : MS) (o : Int) (h : m_x8_isFresh p0 s = some o) : yRi l yX8_isFresh cX8_isFresh 2 (some .boolean) { frames := 1, cells := 0, slots := 0, locals := 60 } D [.ref (a 53), .int (i2 p0)] (CS D a s) (i2 o) := by
  refine Met.ofW (cc := cX8_isFresh) (maxL := 2) (ret := (some .boolean)) (by decide) rfl ?_
  intro p e s₀ m args below meth c s₁ B hml hv
  obtain ⟨rfl, ⟨hP, hK⟩, hN⟩ := hv
  have hx := B.exec
  have hb := B.bytes
  have hr := B.returns
  have hts := atoms_spec (ws := wz yX8_isFresh cX8_isFresh 2 (some .boolean)) B.pre
  have ht : ∀ w ∈ lw_gd, w.before _ s₀ = true := fun w h => hts w (List.mem_cons_of_mem _ h)
  have hown : s₀.vm.findClass RX8 = some m.cls := findClass_of_methodNamed B.named
  have hlocks := B.notSynchronized
  have hS : va_S (fun _ => False) s₀.heap s₀.heap [] := va_S.rf
  have hl := lv_entry ([.ref (a 53), .int (i2 p0)]) (n := 2) (Nat.le_of_ble_eq_true rfl)
  rw [lg_entry_eq]
  generalize (lg_sl ([.ref (a 53), .int (i2 p0)]) ++ List.replicate (2 - (lg_sl ([.ref (a 53), .int (i2 p0)])).length) Slot.unset).toArray = ls at hl ⊢
  have hl : lv_has ls 2 [(0, .ref (a 53)), (1, .int (i2 p0))] := hl
  unfold m_x8_isFresh at h
  refine y_head (pcJ := 31) (σ := Int) (fun u H locs ls => va_P D vwCl (CS D a s) H ∧ va_S (fun _ => False) s₀.heap H locs ∧ lv_has ls 2 [] ∧ m_x8_isFresh_J31 s u = some o) (fun u => [.int (i2 u)]) (fun u H locs ls hI => ?_) (fun J31 => ?_)
  · obtain ⟨hP, hS, hl, h⟩ := hI
    obtain ⟨x1, rfl⟩ : ∃ z, z = u := ⟨u, rfl⟩
    have hP : va_P D vwCl (CS D a s) H := hP
    have hl : lv_has ls 2 [] := hl
    have h : m_x8_isFresh_J31 s x1 = some o := h
    unfold m_x8_isFresh_J31 at h
    obtain ⟨hb2, h⟩ := bo_e h
    obtain rfl := Option.some.inj h
    exact W.zret (v := (i2 x1)) hx hb hr (bo_n hb2) (fun t ht hW => ⟨⟨_, (), rfl, rfl, trivial⟩, hS.F ht⟩) hS.2.2 eX8_isFresh_18.2.2.2.2.2.2.2
  refine y_head (pcJ := 30) (σ := Unit) (fun u H locs ls => va_P D vwCl (CS D a s) H ∧ va_S (fun _ => False) s₀.heap H locs ∧ lv_has ls 2 [] ∧ m_x8_isFresh_J30 s u = some o) (fun u => []) (fun u H locs ls hI => ?_) (fun J30 => ?_)
  · obtain ⟨hP, hS, hl, h⟩ := hI
    skip
    have hP : va_P D vwCl (CS D a s) H := hP
    have hl : lv_has ls 2 [] := hl
    have h : m_x8_isFresh_J30 s () = some o := h
    unfold m_x8_isFresh_J30 at h
    refine lv_iconst (v := 0) hx hb eX8_isFresh_18.2.2.2.2.2.2.1 (by decide) ?_
    exact J31 0 _ _ _ ⟨hP, hS, lv_sub hl [] rfl, h⟩
  refine lv_aload_n hx hb eX8_find_27.2.2.2.2.2.2.1 rfl (lv_at hl 0 rfl) ?_
  refine lv_iload_n hx hb eX8_find_27.2.2.2.2.2.2.2 rfl (lv_at hl 1 rfl) ?_
  obtain ⟨r4, hc3, h⟩ := bn_e h
  refine ycV (r0 := i2 r4) (As := [.int (i2 p0)]) (rest := []) (C := RX8) (n := 1) ⟨hx, hb, hml, hown, ht⟩ (k_x8_isBlock l D a p0 _ _ hc3) (zgV ml_X8_57 im_X8_isBlock se_X8_isBlock in_X8 co_X8_isBlock) rfl rfl (by decide +kernel) ⟨Nat.le_of_ble_eq_true rfl, Nat.le_of_ble_eq_true rfl⟩ hN hK hP hS 53 CW_53 rfl rfl rfl hl.1 rfl (Nat.le_of_ble_eq_true rfl) eX8_isFresh_2.1 ⟨Nat.le_of_ble_eq_true rfl, Nat.le_of_ble_eq_true rfl⟩ (fun H locs hP hS => ?_)
  obtain ⟨hr5, h⟩ := rg_e h
  refine lv_if_eq (tgt := 30) hx hb eX8_isFresh_2.2.1 (by decide) (fun c6 => ?_) (fun c6 => ?_)
  · have h := if_t ((i2_eq (x := r4) (y := 0) hr5 (by decide)).mp c6) h
    exact J30 () _ _ _ ⟨hP, hS, lv_sub hl [] rfl, h⟩
  · have h := if_f (mt (i2_eq (x := r4) (y := 0) hr5 (by decide)).mpr c6) h
    refine lv_aload_n hx hb eX8_isFresh_2.2.2.1 rfl (lv_at hl 0 rfl) ?_
    refine va_get (D := D) (ci := 8) (v := .ref (a 54)) (C := RX8) (T := TX8) (N := 11) hx hb ht inX8 hown hK hP 53 CW_53 rfl 3 (by decide) (ht (.fieldLink RX8 9 "CloneVolumes$State" "count" "[I") fl_X8_9) (fun _ h9 => h9) rfl eX8_isFresh_2.2.2.2.1 ?_
    refine lv_iload_n hx hb eX8_isFresh_2.2.2.2.2.1 rfl (lv_at hl 1 rfl) ?_
    obtain ⟨y7, ey7, iy7, h⟩ := rdI_e h
    refine ya_iald (i := p0) hx hb hK hP 54 0 CW_54 rfl (by decide) ey7 iy7 eX8_isFresh_2.2.2.2.2.2.1 ?_
    obtain ⟨hr8, h⟩ := rg_e h
    refine lv_if_le (tgt := 30) hx hb eX8_isFresh_2.2.2.2.2.2.2.1 (by decide) (fun c9 => ?_) (fun c9 => ?_)
    · have h := if_t ((i2_le (x := y7) (y := 0) hr8 (by decide)).mp c9) h
      exact J30 () _ _ _ ⟨hP, hS, lv_sub hl [] rfl, h⟩
    · have h := if_f (mt (i2_le (x := y7) (y := 0) hr8 (by decide)).mpr c9) h
      refine lv_aload_n hx hb eX8_isFresh_2.2.2.2.2.2.2.2 rfl (lv_at hl 0 rfl) ?_
      refine va_get (D := D) (ci := 8) (v := .ref (a 55)) (C := RX8) (T := TX8) (N := 11) hx hb ht inX8 hown hK hP 53 CW_53 rfl 4 (by decide) (ht (.fieldLink RX8 15 "CloneVolumes$State" "saved" "[I") fl_X8_15) (fun _ h9 => h9) rfl eX8_isFresh_18.1 ?_
      refine lv_iload_n hx hb eX8_isFresh_18.2.1 rfl (lv_at hl 1 rfl) ?_
      obtain ⟨y10, ey10, iy10, h⟩ := rdI_e h
      refine ya_iald (i := p0) hx hb hK hP 55 0 CW_55 rfl (by decide) ey10 iy10 eX8_isFresh_18.2.2.1 ?_
      obtain ⟨hr11, h⟩ := rg_e h
      refine lv_if_ne (tgt := 30) hx hb eX8_isFresh_18.2.2.2.1 (by decide) (fun c12 => ?_) (fun c12 => ?_)
      · have h := if_f (mt (i2_eq (x := y10) (y := 0) hr11 (by decide)).mpr c12) h
        exact J30 () _ _ _ ⟨hP, hS, lv_sub hl [] rfl, h⟩
      · have h := if_t ((i2_eq (x := y10) (y := 0) hr11 (by decide)).mp c12) h
        refine lv_iconst (v := 1) hx hb eX8_isFresh_18.2.2.2.2.1 (by decide) ?_
        refine lv_goto (tgt := 31) hx hb eX8_isFresh_18.2.2.2.2.2.1 (by decide) ?_
        exact J31 1 _ _ _ ⟨hP, hS, lv_sub hl [] rfl, h⟩
set_option maxHeartbeats 4000000 in
set_option maxRecDepth 100000 in
theorem k_x11_block (l : Launch) (D : va_G) (a : Nat → Nat) (p0 : Int) (p1 : Int) (s : MS) (o : Int) (h : m_x11_block p0 p1 s = some o) : yRi l yX11_block cX11_block 4 (some .int) { frames := 3, cells := 0, slots := 0, locals := 180 } D [.ref (a 0), .int (i2 p0), .int (i2 p1)] (CS D a s) (i2 o) := by
  refine Met.ofW (cc := cX11_block) (maxL := 4) (ret := (some .int)) (by decide) rfl ?_
  intro p e s₀ m args below meth c s₁ B hml hv
  obtain ⟨rfl, ⟨hP, hK⟩, hN⟩ := hv
  have hx := B.exec
  have hb := B.bytes
  have hr := B.returns
  have hts := atoms_spec (ws := wz yX11_block cX11_block 4 (some .int)) B.pre
  have ht : ∀ w ∈ lw_gd, w.before _ s₀ = true := fun w h => hts w (List.mem_cons_of_mem _ h)
  have hown : s₀.vm.findClass RX11 = some m.cls := findClass_of_methodNamed B.named
  have hlocks := B.notSynchronized
  have hS : va_S (fun _ => False) s₀.heap s₀.heap [] := va_S.rf
  have hl := lv_entry ([.ref (a 0), .int (i2 p0), .int (i2 p1)]) (n := 4) (Nat.le_of_ble_eq_true rfl)
  rw [lg_entry_eq]
  generalize (lg_sl ([.ref (a 0), .int (i2 p0), .int (i2 p1)]) ++ List.replicate (4 - (lg_sl ([.ref (a 0), .int (i2 p0), .int (i2 p1)])).length) Slot.unset).toArray = ls at hl ⊢
  have hl : lv_has ls 4 [(0, .ref (a 0)), (1, .int (i2 p0)), (2, .int (i2 p1))] := hl
  unfold m_x11_block at h
  refine y_head (pcJ := 109) (σ := Int) (fun u H locs ls => va_P D vwCl (CS D a s) H ∧ va_S (fun _ => False) s₀.heap H locs ∧ lv_has ls 4 [] ∧ m_x11_block_J109 s u = some o) (fun u => [.int (i2 u)]) (fun u H locs ls hI => ?_) (fun J109 => ?_)
  · obtain ⟨hP, hS, hl, h⟩ := hI
    obtain ⟨x1, rfl⟩ : ∃ z, z = u := ⟨u, rfl⟩
    have hP : va_P D vwCl (CS D a s) H := hP
    have hl : lv_has ls 4 [] := hl
    have h : m_x11_block_J109 s x1 = some o := h
    unfold m_x11_block_J109 at h
    obtain rfl := Option.some.inj h
    exact W.iret (v := (i2 x1)) hx hb hr (fun t ht hW => ⟨⟨_, (), rfl, rfl, trivial⟩, hS.F ht⟩) hS.2.2 eX11_block_98.2.2.2.2.2.1
  refine y_head (pcJ := 95) (σ := Int) (fun u H locs ls => va_P D vwCl (CS D a s) H ∧ va_S (fun _ => False) s₀.heap H locs ∧ lv_has ls 4 [] ∧ m_x11_block_J95 s u = some o) (fun u => [.int (i2 u)]) (fun u H locs ls hI => ?_) (fun J95 => ?_)
  · obtain ⟨hP, hS, hl, h⟩ := hI
    obtain ⟨x2, rfl⟩ : ∃ z, z = u := ⟨u, rfl⟩
    have hP : va_P D vwCl (CS D a s) H := hP
    have hl : lv_has ls 4 [] := hl
    have h : m_x11_block_J95 s x2 = some o := h
    unfold m_x11_block_J95 at h
    obtain rfl := Option.some.inj h
    exact W.iret (v := (i2 x2)) hx hb hr (fun t ht hW => ⟨⟨_, (), rfl, rfl, trivial⟩, hS.F ht⟩) hS.2.2 eX11_block_84.2.2.2.2.2.1
  refine lv_aload_n hx hb eX11_block_0.1 rfl (lv_at hl 0 rfl) ?_
  refine va_get (D := D) (ci := 11) (v := .ref (a 49)) (C := RX11) (T := TX11) (N := 13) hx hb ht inX11 hown hK hP 0 CW_0 rfl 11 (by decide) (ht (.fieldLink RX11 79 "CloneVolumes" "forest" "LCloneVolumes$Forest;") fl_X11_79) (fun _ h9 => h9) rfl eX11_block_0.2.1 ?_
  refine va_get (D := D) (ci := 1) (v := .ref (a 53)) (C := RX1) (T := TX1) (N := 9) hx hb ht inX1 hown hK hP 49 CW_49 rfl 0 (by decide) (ht (.fieldLink RX11 125 "CloneVolumes$Forest" "now" "LCloneVolumes$State;") fl_X11_125) (fun _ h9 => h9) rfl eX11_block_0.2.2.1 ?_
  refine lv_astore_n (lv' := [(3, .ref (a 53)), (0, .ref (a 0)), (1, .int (i2 p0)), (2, .int (i2 p1))]) hx hb eX11_block_0.2.2.2.1 rfl hl (by decide) rfl (fun ls hl => ?_)
  refine lv_aload_n hx hb eX11_block_0.2.2.2.2.1 rfl (lv_at hl 0 rfl) ?_
  refine lv_iload_n hx hb eX11_block_0.2.2.2.2.2.1 rfl (lv_at hl 2 rfl) ?_
  obtain ⟨r4, hc3, h⟩ := bn_e h
  refine ycV (r0 := i2 r4) (As := [.int (i2 p0)]) (rest := []) (C := RX8) (n := 1) ⟨hx, hb, hml, hown, ht⟩ (k_x8_isBlock l D a p0 _ _ hc3) (zgV ml_X11_188 im_X8_isBlock se_X8_isBlock in_X8 co_X8_isBlock) rfl rfl (by decide +kernel) ⟨Nat.le_of_ble_eq_true rfl, Nat.le_of_ble_eq_true rfl⟩ hN hK hP hS 53 CW_53 rfl rfl rfl hl.1 rfl (Nat.le_of_ble_eq_true rfl) eX11_block_0.2.2.2.2.2.2.1 ⟨Nat.le_of_ble_eq_true rfl, Nat.le_of_ble_eq_true rfl⟩ (fun H locs hP hS => ?_)
  obtain ⟨hr5, h⟩ := rg_e h
  refine lv_if_ne (tgt := 18) hx hb eX11_block_0.2.2.2.2.2.2.2 (by decide) (fun c6 => ?_) (fun c6 => ?_)
  · have h := if_f (mt (i2_eq (x := r4) (y := 0) hr5 (by decide)).mpr c6) h
    refine lv_iload_n hx hb eX11_block_16.2.2.1 rfl (lv_at hl 3 rfl) ?_
    obtain ⟨hr7, h⟩ := rg_e h
    by_cases c8 : p1 = 0
    · have h := if_t c8 h
      refine lv_tableIn (off := 37) (tgt := 56) hx hb eX11_block_16.2.2.2.1 (by rw [c8]; decide) (by rw [c8]; decide) (by rw [c8]; decide) (by decide) ?_
      refine lv_aload_n hx hb eX11_block_16.2.2.2.2.1 rfl (lv_at hl 0 rfl) ?_
      refine va_get (D := D) (ci := 8) (v := .ref (a 54)) (C := RX8) (T := TX8) (N := 11) hx hb ht inX8 hown hK hP 53 CW_53 rfl 3 (by decide) (ht (.fieldLink RX11 191 "CloneVolumes$State" "count" "[I") fl_X11_191) (fun _ h9 => h9) rfl eX11_block_16.2.2.2.2.2.1 ?_
      refine lv_iload_n hx hb eX11_block_16.2.2.2.2.2.2.1 rfl (lv_at hl 2 rfl) ?_
      obtain ⟨y9, ey9, iy9, h⟩ := rdI_e h
      refine ya_iald (i := p0) hx hb hK hP 54 0 CW_54 rfl (by decide) ey9 iy9 eX11_block_16.2.2.2.2.2.2.2 ?_
      obtain rfl := Option.some.inj h
      exact W.iret (v := (i2 y9)) hx hb hr (fun t ht hW => ⟨⟨_, (), rfl, rfl, trivial⟩, hS.F ht⟩) hS.2.2 eX11_block_62.1
    · have h := if_f c8 h
      by_cases c10 : p1 = 1
      · have h := if_t c10 h
        refine lv_tableIn (off := 44) (tgt := 63) hx hb eX11_block_16.2.2.2.1 (by rw [c10]; decide) (by rw [c10]; decide) (by rw [c10]; decide) (by decide) ?_
        refine lv_aload_n hx hb eX11_block_62.2.1 rfl (lv_at hl 0 rfl) ?_
        refine va_get (D := D) (ci := 8) (v := .ref (a 55)) (C := RX8) (T := TX8) (N := 11) hx hb ht inX8 hown hK hP 53 CW_53 rfl 4 (by decide) (ht (.fieldLink RX11 194 "CloneVolumes$State" "saved" "[I") fl_X11_194) (fun _ h9 => h9) rfl eX11_block_62.2.2.1 ?_
        refine lv_iload_n hx hb eX11_block_62.2.2.2.1 rfl (lv_at hl 2 rfl) ?_
        obtain ⟨y11, ey11, iy11, h⟩ := rdI_e h
        refine ya_iald (i := p0) hx hb hK hP 55 0 CW_55 rfl (by decide) ey11 iy11 eX11_block_62.2.2.2.2.1 ?_
        obtain rfl := Option.some.inj h
        exact W.iret (v := (i2 y11)) hx hb hr (fun t ht hW => ⟨⟨_, (), rfl, rfl, trivial⟩, hS.F ht⟩) hS.2.2 eX11_block_62.2.2.2.2.2.1
      · have h := if_f c10 h
        by_cases c12 : p1 = 2
        · have h := if_t c12 h
          refine lv_tableIn (off := 51) (tgt := 70) hx hb eX11_block_16.2.2.2.1 (by rw [c12]; decide) (by rw [c12]; decide) (by rw [c12]; decide) (by decide) ?_
          refine lv_aload_n hx hb eX11_block_62.2.2.2.2.2.2.1 rfl (lv_at hl 0 rfl) ?_
          refine lv_iload_n hx hb eX11_block_62.2.2.2.2.2.2.2 rfl (lv_at hl 2 rfl) ?_
          obtain ⟨r14, hc13, h⟩ := bn_e h
          refine ycV (r0 := i2 r14) (As := [.int (i2 p0)]) (rest := []) (C := RX8) (n := 1) ⟨hx, hb, hml, hown, ht⟩ (k_x8_levelOf l D a p0 _ _ hc13) (zgV ml_X11_197 im_X8_levelOf se_X8_levelOf in_X8 co_X8_levelOf) rfl rfl (by decide +kernel) ⟨Nat.le_of_ble_eq_true rfl, Nat.le_of_ble_eq_true rfl⟩ hN hK hP hS 53 CW_53 rfl rfl rfl hl.1 rfl (Nat.le_of_ble_eq_true rfl) eX11_block_72.1 ⟨Nat.le_of_ble_eq_true rfl, Nat.le_of_ble_eq_true rfl⟩ (fun H locs hP hS => ?_)
          obtain rfl := Option.some.inj h
          exact W.iret (v := (i2 r14)) hx hb hr (fun t ht hW => ⟨⟨_, (), rfl, rfl, trivial⟩, hS.F ht⟩) hS.2.2 eX11_block_72.2.1
        · have h := if_f c12 h
          by_cases c15 : p1 = 3
          · have h := if_t c15 h
            refine lv_tableIn (off := 57) (tgt := 76) hx hb eX11_block_16.2.2.2.1 (by rw [c15]; decide) (by rw [c15]; decide) (by rw [c15]; decide) (by decide) ?_
            refine lv_aload_n hx hb eX11_block_72.2.2.1 rfl (lv_at hl 0 rfl) ?_
            refine lv_iload_n hx hb eX11_block_72.2.2.2.1 rfl (lv_at hl 2 rfl) ?_
            obtain ⟨r17, hc16, h⟩ := bn_e h
            refine ycV (r0 := i2 r17) (As := [.int (i2 p0)]) (rest := []) (C := RX8) (n := 1) ⟨hx, hb, hml, hown, ht⟩ (k_x8_sizeOf l D a p0 _ _ hc16) (zgV ml_X11_200 im_X8_sizeOf se_X8_sizeOf in_X8 co_X8_sizeOf) rfl rfl (by decide +kernel) ⟨Nat.le_of_ble_eq_true rfl, Nat.le_of_ble_eq_true rfl⟩ hN hK hP hS 53 CW_53 rfl rfl rfl hl.1 rfl (Nat.le_of_ble_eq_true rfl) eX11_block_72.2.2.2.2.1 ⟨Nat.le_of_ble_eq_true rfl, Nat.le_of_ble_eq_true rfl⟩ (fun H locs hP hS => ?_)
            obtain rfl := Option.some.inj h
            exact W.iret (v := (i2 r17)) hx hb hr (fun t ht hW => ⟨⟨_, (), rfl, rfl, trivial⟩, hS.F ht⟩) hS.2.2 eX11_block_72.2.2.2.2.2.1
          · have h := if_f c15 h
            by_cases c18 : p1 = 4
            · have h := if_t c18 h
              refine lv_tableIn (off := 63) (tgt := 82) hx hb eX11_block_16.2.2.2.1 (by rw [c18]; decide) (by rw [c18]; decide) (by rw [c18]; decide) (by decide) ?_
              refine lv_aload_n hx hb eX11_block_72.2.2.2.2.2.2.1 rfl (lv_at hl 0 rfl) ?_
              refine lv_iload_n hx hb eX11_block_72.2.2.2.2.2.2.2 rfl (lv_at hl 2 rfl) ?_
              obtain ⟨r20, hc19, h⟩ := bn_e h
              refine ycV (r0 := i2 r20) (As := [.int (i2 p0)]) (rest := []) (C := RX8) (n := 1) ⟨hx, hb, hml, hown, ht⟩ (k_x8_isFresh l D a p0 _ _ hc19) (zgV ml_X11_203 im_X8_isFresh se_X8_isFresh in_X8 co_X8_isFresh) rfl rfl (by decide +kernel) ⟨Nat.le_of_ble_eq_true rfl, Nat.le_of_ble_eq_true rfl⟩ hN hK hP hS 53 CW_53 rfl rfl rfl hl.1 rfl (Nat.le_of_ble_eq_true rfl) eX11_block_84.1 ⟨Nat.le_of_ble_eq_true rfl, Nat.le_of_ble_eq_true rfl⟩ (fun H locs hP hS => ?_)
              obtain ⟨hr21, h⟩ := rg_e h
              refine lv_if_eq (tgt := 94) hx hb eX11_block_84.2.1 (by decide) (fun c22 => ?_) (fun c22 => ?_)
              · have h := if_t ((i2_eq (x := r20) (y := 0) hr21 (by decide)).mp c22) h
                refine lv_iconst (v := 0) hx hb eX11_block_84.2.2.2.2.1 (by decide) ?_
                exact J95 0 _ _ _ ⟨hP, hS, lv_sub hl [] rfl, h⟩
              · have h := if_f (mt (i2_eq (x := r20) (y := 0) hr21 (by decide)).mpr c22) h
                refine lv_iconst (v := 1) hx hb eX11_block_84.2.2.1 (by decide) ?_
                refine lv_goto (tgt := 95) hx hb eX11_block_84.2.2.2.1 (by decide) ?_
                exact J95 1 _ _ _ ⟨hP, hS, lv_sub hl [] rfl, h⟩
            · have h := if_f c18 h
              by_cases c23 : p1 = 5
              · have h := if_t c23 h
                refine lv_tableIn (off := 77) (tgt := 96) hx hb eX11_block_16.2.2.2.1 (by rw [c23]; decide) (by rw [c23]; decide) (by rw [c23]; decide) (by decide) ?_
                refine lv_aload_n hx hb eX11_block_84.2.2.2.2.2.2.1 rfl (lv_at hl 0 rfl) ?_
                refine lv_iload_n hx hb eX11_block_84.2.2.2.2.2.2.2 rfl (lv_at hl 2 rfl) ?_
                obtain ⟨r25, hc24, h⟩ := bn_e h
                refine ycV (r0 := i2 r25) (As := [.int (i2 p0)]) (rest := []) (C := RX8) (n := 1) ⟨hx, hb, hml, hown, ht⟩ (k_x8_isHeld l D a p0 _ _ hc24) (zgV ml_X11_206 im_X8_isHeld se_X8_isHeld in_X8 co_X8_isHeld) rfl rfl (by decide +kernel) ⟨Nat.le_of_ble_eq_true rfl, Nat.le_of_ble_eq_true rfl⟩ hN hK hP hS 53 CW_53 rfl rfl rfl hl.1 rfl (Nat.le_of_ble_eq_true rfl) eX11_block_98.1 ⟨Nat.le_of_ble_eq_true rfl, Nat.le_of_ble_eq_true rfl⟩ (fun H locs hP hS => ?_)
                obtain ⟨hr26, h⟩ := rg_e h
                refine lv_if_eq (tgt := 108) hx hb eX11_block_98.2.1 (by decide) (fun c27 => ?_) (fun c27 => ?_)
                · have h := if_t ((i2_eq (x := r25) (y := 0) hr26 (by decide)).mp c27) h
                  refine lv_iconst (v := 0) hx hb eX11_block_98.2.2.2.2.1 (by decide) ?_
                  exact J109 0 _ _ _ ⟨hP, hS, lv_sub hl [] rfl, h⟩
                · have h := if_f (mt (i2_eq (x := r25) (y := 0) hr26 (by decide)).mpr c27) h
                  refine lv_iconst (v := 1) hx hb eX11_block_98.2.2.1 (by decide) ?_
                  refine lv_goto (tgt := 109) hx hb eX11_block_98.2.2.2.1 (by decide) ?_
                  exact J109 1 _ _ _ ⟨hP, hS, lv_sub hl [] rfl, h⟩
              · have h := if_f c23 h
                refine lv_tableOut (tgt := 110) hx hb eX11_block_16.2.2.2.1 (by rw [i2_t hr7]; omega) (by decide) ?_
                refine lv_iconst (v := (-1)) hx hb eX11_block_98.2.2.2.2.2.2.1 (by decide) ?_
                obtain rfl := Option.some.inj h
                exact W.iret (v := (-1)) hx hb hr (fun t ht hW => ⟨⟨_, (), rfl, rfl, trivial⟩, hS.F ht⟩) hS.2.2 eX11_block_98.2.2.2.2.2.2.2
  · have h := if_t ((i2_eq (x := r4) (y := 0) hr5 (by decide)).mp c6) h
    refine lv_iconst (v := (-1)) hx hb eX11_block_16.1 (by decide) ?_
    obtain rfl := Option.some.inj h
    exact W.iret (v := (-1)) hx hb hr (fun t ht hW => ⟨⟨_, (), rfl, rfl, trivial⟩, hS.F ht⟩) hS.2.2 eX11_block_16.2.1
set_option maxHeartbeats 4000000 in
set_option maxRecDepth 100000 in
theorem k_x11_entry (l : Launch) (D : va_G) (a : Nat → Nat) (p0 : Int) (p1 : Int) (p2 : Int) (s : MS) (o : Int) (h : m_x11_entry p0 p1 p2 s = some o) : yRi l yX11_entry cX11_entry 6 (some .int) { frames := 3, cells := 0, slots := 0, locals := 180 } D [.ref (a 0), .int (i2 p0), .int (i2 p1), .int (i2 p2)] (CS D a s) (i2 o) := by
  refine Met.ofW (cc := cX11_entry) (maxL := 6) (ret := (some .int)) (by decide) rfl ?_
  intro p e s₀ m args below meth c s₁ B hml hv
  obtain ⟨rfl, ⟨hP, hK⟩, hN⟩ := hv
  have hx := B.exec
  have hb := B.bytes
  have hr := B.returns
  have hts := atoms_spec (ws := wz yX11_entry cX11_entry 6 (some .int)) B.pre
  have ht : ∀ w ∈ lw_gd, w.before _ s₀ = true := fun w h => hts w (List.mem_cons_of_mem _ h)
  have hown : s₀.vm.findClass RX11 = some m.cls := findClass_of_methodNamed B.named
  have hlocks := B.notSynchronized
  have hS : va_S (fun _ => False) s₀.heap s₀.heap [] := va_S.rf
  have hl := lv_entry ([.ref (a 0), .int (i2 p0), .int (i2 p1), .int (i2 p2)]) (n := 6) (Nat.le_of_ble_eq_true rfl)
  rw [lg_entry_eq]
  generalize (lg_sl ([.ref (a 0), .int (i2 p0), .int (i2 p1), .int (i2 p2)]) ++ List.replicate (6 - (lg_sl ([.ref (a 0), .int (i2 p0), .int (i2 p1), .int (i2 p2)])).length) Slot.unset).toArray = ls at hl ⊢
  have hl : lv_has ls 6 [(0, .ref (a 0)), (1, .int (i2 p0)), (2, .int (i2 p1)), (3, .int (i2 p2))] := hl
  unfold m_x11_entry at h
  refine y_head (pcJ := 73) (σ := Int) (fun u H locs ls => va_P D vwCl (CS D a s) H ∧ va_S (fun _ => False) s₀.heap H locs ∧ lv_has ls 6 [] ∧ m_x11_entry_J73 s u = some o) (fun u => [.int (i2 u)]) (fun u H locs ls hI => ?_) (fun J73 => ?_)
  · obtain ⟨hP, hS, hl, h⟩ := hI
    obtain ⟨x1, rfl⟩ : ∃ z, z = u := ⟨u, rfl⟩
    have hP : va_P D vwCl (CS D a s) H := hP
    have hl : lv_has ls 6 [] := hl
    have h : m_x11_entry_J73 s x1 = some o := h
    unfold m_x11_entry_J73 at h
    obtain rfl := Option.some.inj h
    exact W.iret (v := (i2 x1)) hx hb hr (fun t ht hW => ⟨⟨_, (), rfl, rfl, trivial⟩, hS.F ht⟩) hS.2.2 eX11_entry_61.2.2.2.2.2.2.1
  refine y_head (pcJ := 32) (σ := Unit) (fun u H locs ls => va_P D vwCl (CS D a s) H ∧ va_S (fun _ => False) s₀.heap H locs ∧ lv_has ls 6 [] ∧ m_x11_entry_J32 s u = some o) (fun u => []) (fun u H locs ls hI => ?_) (fun J32 => ?_)
  · obtain ⟨hP, hS, hl, h⟩ := hI
    skip
    have hP : va_P D vwCl (CS D a s) H := hP
    have hl : lv_has ls 6 [] := hl
    have h : m_x11_entry_J32 s () = some o := h
    unfold m_x11_entry_J32 at h
    refine lv_iconst (v := (-1)) hx hb eX11_entry_18.2.2.2.2.2.2.2 (by decide) ?_
    obtain rfl := Option.some.inj h
    exact W.iret (v := (-1)) hx hb hr (fun t ht hW => ⟨⟨_, (), rfl, rfl, trivial⟩, hS.F ht⟩) hS.2.2 eX11_entry_33.1
  refine lv_aload_n hx hb eX11_entry_0.1 rfl (lv_at hl 0 rfl) ?_
  refine va_get (D := D) (ci := 11) (v := .ref (a 49)) (C := RX11) (T := TX11) (N := 13) hx hb ht inX11 hown hK hP 0 CW_0 rfl 11 (by decide) (ht (.fieldLink RX11 79 "CloneVolumes" "forest" "LCloneVolumes$Forest;") fl_X11_79) (fun _ h9 => h9) rfl eX11_entry_0.2.1 ?_
  refine va_get (D := D) (ci := 1) (v := .ref (a 53)) (C := RX1) (T := TX1) (N := 9) hx hb ht inX1 hown hK hP 49 CW_49 rfl 0 (by decide) (ht (.fieldLink RX11 125 "CloneVolumes$Forest" "now" "LCloneVolumes$State;") fl_X11_125) (fun _ h9 => h9) rfl eX11_entry_0.2.2.1 ?_
  refine lv_astore (lv' := [(4, .ref (a 53)), (0, .ref (a 0)), (1, .int (i2 p0)), (2, .int (i2 p1)), (3, .int (i2 p2))]) hx hb eX11_entry_0.2.2.2.1 hl (by decide) rfl (fun ls hl => ?_)
  refine lv_aload hx hb eX11_entry_0.2.2.2.2.1 (lv_at hl 0 rfl) ?_
  refine lv_iload_n hx hb eX11_entry_0.2.2.2.2.2.1 rfl (lv_at hl 2 rfl) ?_
  obtain ⟨r3, hc2, h⟩ := bn_e h
  refine ycV (r0 := i2 r3) (As := [.int (i2 p0)]) (rest := []) (C := RX8) (n := 1) ⟨hx, hb, hml, hown, ht⟩ (k_x8_isBlock l D a p0 _ _ hc2) (zgV ml_X11_188 im_X8_isBlock se_X8_isBlock in_X8 co_X8_isBlock) rfl rfl (by decide +kernel) ⟨Nat.le_of_ble_eq_true rfl, Nat.le_of_ble_eq_true rfl⟩ hN hK hP hS 53 CW_53 rfl rfl rfl hl.1 rfl (Nat.le_of_ble_eq_true rfl) eX11_entry_0.2.2.2.2.2.2.1 ⟨Nat.le_of_ble_eq_true rfl, Nat.le_of_ble_eq_true rfl⟩ (fun H locs hP hS => ?_)
  obtain ⟨hr4, h⟩ := rg_e h
  refine lv_if_eq (tgt := 32) hx hb eX11_entry_0.2.2.2.2.2.2.2 (by decide) (fun c5 => ?_) (fun c5 => ?_)
  · have h := if_t ((i2_eq (x := r3) (y := 0) hr4 (by decide)).mp c5) h
    exact J32 () _ _ _ ⟨hP, hS, lv_sub hl [] rfl, h⟩
  · have h := if_f (mt (i2_eq (x := r3) (y := 0) hr4 (by decide)).mpr c5) h
    refine lv_iload_n hx hb eX11_entry_18.1 rfl (lv_at hl 3 rfl) ?_
    obtain ⟨hr6, h⟩ := rg_e h
    refine lv_if_lt (tgt := 32) hx hb eX11_entry_18.2.1 (by decide) (fun c7 => ?_) (fun c7 => ?_)
    · have h := if_t ((i2_lt (x := p1) (y := 0) hr6 (by decide)).mp c7) h
      exact J32 () _ _ _ ⟨hP, hS, lv_sub hl [] rfl, h⟩
    · have h := if_f (mt (i2_lt (x := p1) (y := 0) hr6 (by decide)).mpr c7) h
      refine lv_iload_n hx hb eX11_entry_18.2.2.1 rfl (lv_at hl 3 rfl) ?_
      refine lv_aload hx hb eX11_entry_18.2.2.2.1 (lv_at hl 0 rfl) ?_
      refine lv_iload_n hx hb eX11_entry_18.2.2.2.2.1 rfl (lv_at hl 2 rfl) ?_
      obtain ⟨r9, hc8, h⟩ := bn_e h
      refine ycV (r0 := i2 r9) (As := [.int (i2 p0)]) (rest := [.int (i2 p1)]) (C := RX8) (n := 1) ⟨hx, hb, hml, hown, ht⟩ (k_x8_sizeOf l D a p0 _ _ hc8) (zgV ml_X11_200 im_X8_sizeOf se_X8_sizeOf in_X8 co_X8_sizeOf) rfl rfl (by decide +kernel) ⟨Nat.le_of_ble_eq_true rfl, Nat.le_of_ble_eq_true rfl⟩ hN hK hP hS 53 CW_53 rfl rfl rfl hl.1 rfl (Nat.le_of_ble_eq_true rfl) eX11_entry_18.2.2.2.2.2.1 ⟨Nat.le_of_ble_eq_true rfl, Nat.le_of_ble_eq_true rfl⟩ (fun H locs hP hS => ?_)
      obtain ⟨hr10, h⟩ := rg_e h
      obtain ⟨hr11, h⟩ := rg_e h
      refine lv_icmp_lt (tgt := 34) hx hb eX11_entry_18.2.2.2.2.2.2.1 (by decide) (fun c12 => ?_) (fun c12 => ?_)
      · have h := if_t ((i2_lt (x := p1) (y := r9) hr10 hr11).mp c12) h
        refine lv_aload hx hb eX11_entry_33.2.1 (lv_at hl 0 rfl) ?_
        refine lv_iload_n hx hb eX11_entry_33.2.2.1 rfl (lv_at hl 2 rfl) ?_
        refine lv_iload_n hx hb eX11_entry_33.2.2.2.1 rfl (lv_at hl 3 rfl) ?_
        obtain ⟨r14, hc13, h⟩ := bn_e h
        refine ycV (r0 := i2 r14) (As := [.int (i2 p0), .int (i2 p1)]) (rest := []) (C := RX8) (n := 2) ⟨hx, hb, hml, hown, ht⟩ (k_x8_slot l D a p0 p1 _ _ hc13) (zgV ml_X11_209 im_X8_slot se_X8_slot in_X8 co_X8_slot) rfl rfl (by decide +kernel) ⟨Nat.le_of_ble_eq_true rfl, Nat.le_of_ble_eq_true rfl⟩ hN hK hP hS 53 CW_53 rfl rfl rfl hl.1 rfl (Nat.le_of_ble_eq_true rfl) eX11_entry_33.2.2.2.2.1 ⟨Nat.le_of_ble_eq_true rfl, Nat.le_of_ble_eq_true rfl⟩ (fun H locs hP hS => ?_)
        refine lv_istore (lv' := [(5, .int (i2 r14)), (4, .ref (a 53)), (0, .ref (a 0)), (1, .int (i2 p0)), (2, .int (i2 p1)), (3, .int (i2 p2))]) hx hb eX11_entry_33.2.2.2.2.2.1 hl (by decide) rfl (fun ls hl => ?_)
        refine lv_iload_n hx hb eX11_entry_33.2.2.2.2.2.2.1 rfl (lv_at hl 5 rfl) ?_
        obtain ⟨hr15, h⟩ := rg_e h
        refine lv_if_ne (tgt := 56) hx hb eX11_entry_33.2.2.2.2.2.2.2 (by decide) (fun c16 => ?_) (fun c16 => ?_)
        · have h := if_f (mt (i2_eq (x := p2) (y := 0) hr15 (by decide)).mpr c16) h
          refine lv_iload_n hx hb eX11_entry_47.2.2.2.2.2.1 rfl (lv_at hl 5 rfl) ?_
          refine lv_iconst (v := 1) hx hb eX11_entry_47.2.2.2.2.2.2.1 (by decide) ?_
          obtain ⟨hr17, h⟩ := rg_e h
          refine lv_icmp_ne (tgt := 72) hx hb eX11_entry_47.2.2.2.2.2.2.2 (by decide) (fun c18 => ?_) (fun c18 => ?_)
          · have h := if_f (mt (i2_eq (x := p2) (y := 1) hr17 (by decide)).mpr c18) h
            refine lv_iconst (v := (-1)) hx hb eX11_entry_61.2.2.2.2.2.1 (by decide) ?_
            exact J73 (-1) _ _ _ ⟨hP, hS, lv_sub hl [] rfl, h⟩
          · have h := if_t ((i2_eq (x := p2) (y := 1) hr17 (by decide)).mp c18) h
            refine lv_aload hx hb eX11_entry_61.1 (lv_at hl 1 rfl) ?_
            refine va_get (D := D) (ci := 8) (v := .ref (a 59)) (C := RX8) (T := TX8) (N := 11) hx hb ht inX8 hown hK hP 53 CW_53 rfl 8 (by decide) (ht (.fieldLink RX11 216 "CloneVolumes$State" "values" "[I") fl_X11_216) (fun _ h9 => h9) rfl eX11_entry_61.2.1 ?_
            refine lv_iload hx hb eX11_entry_61.2.2.1 (lv_at hl 0 rfl) ?_
            obtain ⟨y19, ey19, iy19, h⟩ := rdI_e h
            refine ya_iald (i := r14) hx hb hK hP 59 0 CW_59 rfl (by decide) ey19 iy19 eX11_entry_61.2.2.2.1 ?_
            refine lv_goto (tgt := 73) hx hb eX11_entry_61.2.2.2.2.1 (by decide) ?_
            exact J73 y19 _ _ _ ⟨hP, hS, lv_sub hl [] rfl, h⟩
        · have h := if_t ((i2_eq (x := p2) (y := 0) hr15 (by decide)).mp c16) h
          refine lv_aload hx hb eX11_entry_47.1 (lv_at hl 1 rfl) ?_
          refine va_get (D := D) (ci := 8) (v := .ref (a 58)) (C := RX8) (T := TX8) (N := 11) hx hb ht inX8 hown hK hP 53 CW_53 rfl 7 (by decide) (ht (.fieldLink RX11 213 "CloneVolumes$State" "keys" "[I") fl_X11_213) (fun _ h9 => h9) rfl eX11_entry_47.2.1 ?_
          refine lv_iload hx hb eX11_entry_47.2.2.1 (lv_at hl 0 rfl) ?_
          obtain ⟨y20, ey20, iy20, h⟩ := rdI_e h
          refine ya_iald (i := r14) hx hb hK hP 58 0 CW_58 rfl (by decide) ey20 iy20 eX11_entry_47.2.2.2.1 ?_
          obtain rfl := Option.some.inj h
          exact W.iret (v := (i2 y20)) hx hb hr (fun t ht hW => ⟨⟨_, (), rfl, rfl, trivial⟩, hS.F ht⟩) hS.2.2 eX11_entry_47.2.2.2.2.1
      · have h := if_f (mt (i2_lt (x := p1) (y := r9) hr10 hr11).mpr c12) h
        exact J32 () _ _ _ ⟨hP, hS, lv_sub hl [] rfl, h⟩
set_option maxHeartbeats 4000000 in
set_option maxRecDepth 100000 in
theorem k_x2_toldOf (l : Launch) (D : va_G) (a : Nat → Nat) (p0 : Int) (p1 : Int) (s : MS) (o : Int) (h : m_x2_toldOf p0 p1 s = some o) : yRi l yX2_toldOf cX2_toldOf 4 (some .int) { frames := 2, cells := 0, slots := 0, locals := 120 } D [.ref (a 7), .int (i2 p0), .int (i2 p1)] (CS D a s) (i2 o) := by
  refine Met.ofW (cc := cX2_toldOf) (maxL := 4) (ret := (some .int)) (by decide) rfl ?_
  intro p e s₀ m args below meth c s₁ B hml hv
  obtain ⟨rfl, ⟨hP, hK⟩, hN⟩ := hv
  have hx := B.exec
  have hb := B.bytes
  have hr := B.returns
  have hts := atoms_spec (ws := wz yX2_toldOf cX2_toldOf 4 (some .int)) B.pre
  have ht : ∀ w ∈ lw_gd, w.before _ s₀ = true := fun w h => hts w (List.mem_cons_of_mem _ h)
  have hown : s₀.vm.findClass RX2 = some m.cls := findClass_of_methodNamed B.named
  have hlocks := B.notSynchronized
  have hS : va_S (fun _ => False) s₀.heap s₀.heap [] := va_S.rf
  have hl := lv_entry ([.ref (a 7), .int (i2 p0), .int (i2 p1)]) (n := 4) (Nat.le_of_ble_eq_true rfl)
  rw [lg_entry_eq]
  generalize (lg_sl ([.ref (a 7), .int (i2 p0), .int (i2 p1)]) ++ List.replicate (4 - (lg_sl ([.ref (a 7), .int (i2 p0), .int (i2 p1)])).length) Slot.unset).toArray = ls at hl ⊢
  have hl : lv_has ls 4 [(0, .ref (a 7)), (1, .int (i2 p0)), (2, .int (i2 p1))] := hl
  unfold m_x2_toldOf at h
  refine y_head (pcJ := 12) (σ := Unit) (fun u H locs ls => va_P D vwCl (CS D a s) H ∧ va_S (fun _ => False) s₀.heap H locs ∧ lv_has ls 4 [] ∧ m_x2_toldOf_J12 s u = some o) (fun u => []) (fun u H locs ls hI => ?_) (fun J12 => ?_)
  · obtain ⟨hP, hS, hl, h⟩ := hI
    skip
    have hP : va_P D vwCl (CS D a s) H := hP
    have hl : lv_has ls 4 [] := hl
    have h : m_x2_toldOf_J12 s () = some o := h
    unfold m_x2_toldOf_J12 at h
    refine lv_iconst (v := (-1)) hx hb eX2_toldOf_0.2.2.2.2.2.2.1 (by decide) ?_
    obtain rfl := Option.some.inj h
    exact W.iret (v := (-1)) hx hb hr (fun t ht hW => ⟨⟨_, (), rfl, rfl, trivial⟩, hS.F ht⟩) hS.2.2 eX2_toldOf_0.2.2.2.2.2.2.2
  refine lv_iload_n hx hb eX2_toldOf_0.1 rfl (lv_at hl 1 rfl) ?_
  obtain ⟨hr1, h⟩ := rg_e h
  refine lv_if_lt (tgt := 12) hx hb eX2_toldOf_0.2.1 (by decide) (fun c2 => ?_) (fun c2 => ?_)
  · have h := if_t ((i2_lt (x := p0) (y := 0) hr1 (by decide)).mp c2) h
    exact J12 () _ _ _ ⟨hP, hS, lv_sub hl [] rfl, h⟩
  · have h := if_f (mt (i2_lt (x := p0) (y := 0) hr1 (by decide)).mpr c2) h
    refine lv_iload_n hx hb eX2_toldOf_0.2.2.1 rfl (lv_at hl 1 rfl) ?_
    refine lv_aload_n hx hb eX2_toldOf_0.2.2.2.1 rfl (lv_at hl 0 rfl) ?_
    obtain ⟨r4, hc3, h⟩ := bn_e h
    refine ycV (r0 := i2 r4) (As := []) (rest := [.int (i2 p0)]) (C := RX2) (n := 0) ⟨hx, hb, hml, hown, ht⟩ (k_x2_toldRows l D a _ _ hc3) (zgV ml_X2_40 im_X2_toldRows se_X2_toldRows in_X2 co_X2_toldRows) rfl rfl (by decide +kernel) ⟨Nat.le_of_ble_eq_true rfl, Nat.le_of_ble_eq_true rfl⟩ hN hK hP hS 7 CW_7 rfl rfl rfl hl.1 rfl (Nat.le_of_ble_eq_true rfl) eX2_toldOf_0.2.2.2.2.1 ⟨Nat.le_of_ble_eq_true rfl, Nat.le_of_ble_eq_true rfl⟩ (fun H locs hP hS => ?_)
    obtain ⟨hr5, h⟩ := rg_e h
    obtain ⟨hr6, h⟩ := rg_e h
    refine lv_icmp_lt (tgt := 14) hx hb eX2_toldOf_0.2.2.2.2.2.1 (by decide) (fun c7 => ?_) (fun c7 => ?_)
    · have h := if_t ((i2_lt (x := p0) (y := r4) hr5 hr6).mp c7) h
      refine lv_aload_n hx hb eX2_toldOf_14.1 rfl (lv_at hl 0 rfl) ?_
      refine va_get (D := D) (ci := 2) (v := .int (i2 (gI s 143))) (C := RX2) (T := TX2) (N := 6) hx hb ht inX2 hown hK hP 7 CW_7 rfl 3 (by decide) (ht (.fieldLink RX2 27 "CloneVolumes$History" "rows" "I") fl_X2_27) (fun _ h9 => h9) rfl eX2_toldOf_14.2.1 ?_
      refine lv_aload_n hx hb eX2_toldOf_14.2.2.1 rfl (lv_at hl 0 rfl) ?_
      obtain ⟨r9, hc8, h⟩ := bn_e h
      refine ycV (r0 := i2 r9) (As := []) (rest := [.int (i2 (gI s 143))]) (C := RX2) (n := 0) ⟨hx, hb, hml, hown, ht⟩ (k_x2_toldRows l D a _ _ hc8) (zgV ml_X2_40 im_X2_toldRows se_X2_toldRows in_X2 co_X2_toldRows) rfl rfl (by decide +kernel) ⟨Nat.le_of_ble_eq_true rfl, Nat.le_of_ble_eq_true rfl⟩ hN hK hP hS 7 CW_7 rfl rfl rfl hl.1 rfl (Nat.le_of_ble_eq_true rfl) eX2_toldOf_14.2.2.2.1 ⟨Nat.le_of_ble_eq_true rfl, Nat.le_of_ble_eq_true rfl⟩ (fun H locs hP hS => ?_)
      refine lv_isub hx hb eX2_toldOf_14.2.2.2.2.1 ?_
      refine z_topi (y := i2 ((gI s 143) - r9)) (i2_sub (gI s 143) r9) ?_
      refine lv_iload_n hx hb eX2_toldOf_14.2.2.2.2.2.1 rfl (lv_at hl 1 rfl) ?_
      refine lv_iadd hx hb eX2_toldOf_14.2.2.2.2.2.2.1 ?_
      refine z_topi (y := i2 (((gI s 143) - r9) + p0)) (i2_add ((gI s 143) - r9) p0) ?_
      refine lv_istore_n (lv' := [(3, .int (i2 (((gI s 143) - r9) + p0))), (0, .ref (a 7)), (1, .int (i2 p0)), (2, .int (i2 p1))]) hx hb eX2_toldOf_14.2.2.2.2.2.2.2 rfl hl (by decide) rfl (fun ls hl => ?_)
      refine lv_iload_n hx hb eX2_toldOf_26.1 rfl (lv_at hl 3 rfl) ?_
      obtain ⟨hr10, h⟩ := rg_e h
      by_cases c11 : p1 = 0
      · have h := if_t c11 h
        refine lv_tableIn (off := 25) (tgt := 52) hx hb eX2_toldOf_26.2.1 (by rw [c11]; decide) (by rw [c11]; decide) (by rw [c11]; decide) (by decide) ?_
        refine lv_aload_n hx hb eX2_toldOf_26.2.2.1 rfl (lv_at hl 1 rfl) ?_
        refine va_get (D := D) (ci := 2) (v := .ref (a 8)) (C := RX2) (T := TX2) (N := 6) hx hb ht inX2 hown hK hP 7 CW_7 rfl 0 (by decide) (ht (.fieldLink RX2 11 "CloneVolumes$History" "acts" "[I") fl_X2_11) (fun _ h9 => h9) rfl eX2_toldOf_26.2.2.2.1 ?_
        refine lv_iload_n hx hb eX2_toldOf_26.2.2.2.2.1 rfl (lv_at hl 0 rfl) ?_
        obtain ⟨y12, ey12, iy12, h⟩ := rdI_e h
        refine ya_iald (i := (((gI s 143) - r9) + p0)) hx hb hK hP 8 0 CW_8 rfl (by decide) ey12 iy12 eX2_toldOf_26.2.2.2.2.2.1 ?_
        obtain rfl := Option.some.inj h
        exact W.iret (v := (i2 y12)) hx hb hr (fun t ht hW => ⟨⟨_, (), rfl, rfl, trivial⟩, hS.F ht⟩) hS.2.2 eX2_toldOf_26.2.2.2.2.2.2.1
      · have h := if_f c11 h
        by_cases c13 : p1 = 1
        · have h := if_t c13 h
          refine lv_tableIn (off := 32) (tgt := 59) hx hb eX2_toldOf_26.2.1 (by rw [c13]; decide) (by rw [c13]; decide) (by rw [c13]; decide) (by decide) ?_
          refine lv_aload_n hx hb eX2_toldOf_26.2.2.2.2.2.2.2 rfl (lv_at hl 1 rfl) ?_
          refine va_get (D := D) (ci := 2) (v := .ref (a 9)) (C := RX2) (T := TX2) (N := 6) hx hb ht inX2 hown hK hP 7 CW_7 rfl 1 (by decide) (ht (.fieldLink RX2 15 "CloneVolumes$History" "volumes" "[I") fl_X2_15) (fun _ h9 => h9) rfl eX2_toldOf_60.1 ?_
          refine lv_iload_n hx hb eX2_toldOf_60.2.1 rfl (lv_at hl 0 rfl) ?_
          obtain ⟨y14, ey14, iy14, h⟩ := rdI_e h
          refine ya_iald (i := (((gI s 143) - r9) + p0)) hx hb hK hP 9 0 CW_9 rfl (by decide) ey14 iy14 eX2_toldOf_60.2.2.1 ?_
          obtain rfl := Option.some.inj h
          exact W.iret (v := (i2 y14)) hx hb hr (fun t ht hW => ⟨⟨_, (), rfl, rfl, trivial⟩, hS.F ht⟩) hS.2.2 eX2_toldOf_60.2.2.2.1
        · have h := if_f c13 h
          by_cases c15 : p1 = 2
          · have h := if_t c15 h
            refine lv_tableIn (off := 39) (tgt := 66) hx hb eX2_toldOf_26.2.1 (by rw [c15]; decide) (by rw [c15]; decide) (by rw [c15]; decide) (by decide) ?_
            refine lv_aload_n hx hb eX2_toldOf_60.2.2.2.2.1 rfl (lv_at hl 1 rfl) ?_
            refine va_get (D := D) (ci := 2) (v := .ref (a 10)) (C := RX2) (T := TX2) (N := 6) hx hb ht inX2 hown hK hP 7 CW_7 rfl 2 (by decide) (ht (.fieldLink RX2 18 "CloneVolumes$History" "wrote" "[I") fl_X2_18) (fun _ h9 => h9) rfl eX2_toldOf_60.2.2.2.2.2.1 ?_
            refine lv_iload_n hx hb eX2_toldOf_60.2.2.2.2.2.2.1 rfl (lv_at hl 0 rfl) ?_
            obtain ⟨y16, ey16, iy16, h⟩ := rdI_e h
            refine ya_iald (i := (((gI s 143) - r9) + p0)) hx hb hK hP 10 0 CW_10 rfl (by decide) ey16 iy16 eX2_toldOf_60.2.2.2.2.2.2.2 ?_
            obtain rfl := Option.some.inj h
            exact W.iret (v := (i2 y16)) hx hb hr (fun t ht hW => ⟨⟨_, (), rfl, rfl, trivial⟩, hS.F ht⟩) hS.2.2 eX2_toldOf_72.1
          · have h := if_f c15 h
            refine lv_tableOut (tgt := 73) hx hb eX2_toldOf_26.2.1 (by rw [i2_t hr10]; omega) (by decide) ?_
            refine lv_iconst (v := (-1)) hx hb eX2_toldOf_72.2.1 (by decide) ?_
            obtain rfl := Option.some.inj h
            exact W.iret (v := (-1)) hx hb hr (fun t ht hW => ⟨⟨_, (), rfl, rfl, trivial⟩, hS.F ht⟩) hS.2.2 eX2_toldOf_72.2.2.1
    · have h := if_f (mt (i2_lt (x := p0) (y := r4) hr5 hr6).mpr c7) h
      exact J12 () _ _ _ ⟨hP, hS, lv_sub hl [] rfl, h⟩
set_option maxHeartbeats 4000000 in
set_option maxRecDepth 100000 in
theorem k_x11_kept (l : Launch) (D : va_G) (a : Nat → Nat) (p0 : Int) (p1 : Int) (s : MS) (o : Int) (h : m_x11_kept p0 p1 s = some o) : yRi l yX11_kept cX11_kept 3 (some .int) { frames := 3, cells := 0, slots := 0, locals := 180 } D [.ref (a 0), .int (i2 p0), .int (i2 p1)] (CS D a s) (i2 o) := by
  refine Met.ofW (cc := cX11_kept) (maxL := 3) (ret := (some .int)) (by decide) rfl ?_
  intro p e s₀ m args below meth c s₁ B hml hv
  obtain ⟨rfl, ⟨hP, hK⟩, hN⟩ := hv
  have hx := B.exec
  have hb := B.bytes
  have hr := B.returns
  have hts := atoms_spec (ws := wz yX11_kept cX11_kept 3 (some .int)) B.pre
  have ht : ∀ w ∈ lw_gd, w.before _ s₀ = true := fun w h => hts w (List.mem_cons_of_mem _ h)
  have hown : s₀.vm.findClass RX11 = some m.cls := findClass_of_methodNamed B.named
  have hlocks := B.notSynchronized
  have hS : va_S (fun _ => False) s₀.heap s₀.heap [] := va_S.rf
  have hl := lv_entry ([.ref (a 0), .int (i2 p0), .int (i2 p1)]) (n := 3) (Nat.le_of_ble_eq_true rfl)
  rw [lg_entry_eq]
  generalize (lg_sl ([.ref (a 0), .int (i2 p0), .int (i2 p1)]) ++ List.replicate (3 - (lg_sl ([.ref (a 0), .int (i2 p0), .int (i2 p1)])).length) Slot.unset).toArray = ls at hl ⊢
  have hl : lv_has ls 3 [(0, .ref (a 0)), (1, .int (i2 p0)), (2, .int (i2 p1))] := hl
  unfold m_x11_kept at h
  refine lv_aload_n hx hb eX11_kept_0.1 rfl (lv_at hl 0 rfl) ?_
  refine va_get (D := D) (ci := 11) (v := .ref (a 7)) (C := RX11) (T := TX11) (N := 13) hx hb ht inX11 hown hK hP 0 CW_0 rfl 2 (by decide) (ht (.fieldLink RX11 28 "CloneVolumes" "history" "LCloneVolumes$History;") fl_X11_28) (fun _ h9 => h9) rfl eX11_kept_0.2.1 ?_
  refine lv_iload_n hx hb eX11_kept_0.2.2.1 rfl (lv_at hl 1 rfl) ?_
  refine lv_iload_n hx hb eX11_kept_0.2.2.2.1 rfl (lv_at hl 2 rfl) ?_
  obtain ⟨r2, hc1, h⟩ := bn_e h
  refine ycV (r0 := i2 r2) (As := [.int (i2 p0), .int (i2 p1)]) (rest := []) (C := RX2) (n := 2) ⟨hx, hb, hml, hown, ht⟩ (k_x2_toldOf l D a p0 p1 _ _ hc1) (zgV ml_X11_219 im_X2_toldOf se_X2_toldOf in_X2 co_X2_toldOf) rfl rfl (by decide +kernel) ⟨Nat.le_of_ble_eq_true rfl, Nat.le_of_ble_eq_true rfl⟩ hN hK hP hS 7 CW_7 rfl rfl rfl hl.1 rfl (Nat.le_of_ble_eq_true rfl) eX11_kept_0.2.2.2.2.1 ⟨Nat.le_of_ble_eq_true rfl, Nat.le_of_ble_eq_true rfl⟩ (fun H locs hP hS => ?_)
  obtain rfl := Option.some.inj h
  exact W.iret (v := (i2 r2)) hx hb hr (fun t ht hW => ⟨⟨_, (), rfl, rfl, trivial⟩, hS.F ht⟩) hS.2.2 eX11_kept_0.2.2.2.2.2.1
set_option maxHeartbeats 4000000 in
set_option maxRecDepth 100000 in
theorem k_x8_find (l : Launch) (D : va_G) (a : Nat → Nat) (p0 : Int) (p1 : Int) (s : MS) (o : Int) (h : m_x8_find p0 p1 s = some o) : yRi l yX8_find cX8_find 4 (some .int) { frames := 1, cells := 0, slots := 0, locals := 60 } D [.ref (a 53), .int (i2 p0), .int (i2 p1)] (CS D a s) (i2 o) := by
  refine Met.ofW (cc := cX8_find) (maxL := 4) (ret := (some .int)) (by decide) rfl ?_
  intro p e s₀ m args below meth c s₁ B hml hv
  obtain ⟨rfl, ⟨hP, hK⟩, hN⟩ := hv
  have hx := B.exec
  have hb := B.bytes
  have hr := B.returns
  have hts := atoms_spec (ws := wz yX8_find cX8_find 4 (some .int)) B.pre
  have ht : ∀ w ∈ lw_gd, w.before _ s₀ = true := fun w h => hts w (List.mem_cons_of_mem _ h)
  have hown : s₀.vm.findClass RX8 = some m.cls := findClass_of_methodNamed B.named
  have hlocks := B.notSynchronized
  have hS : va_S (fun _ => False) s₀.heap s₀.heap [] := va_S.rf
  have hl := lv_entry ([.ref (a 53), .int (i2 p0), .int (i2 p1)]) (n := 4) (Nat.le_of_ble_eq_true rfl)
  rw [lg_entry_eq]
  generalize (lg_sl ([.ref (a 53), .int (i2 p0), .int (i2 p1)]) ++ List.replicate (4 - (lg_sl ([.ref (a 53), .int (i2 p0), .int (i2 p1)])).length) Slot.unset).toArray = ls at hl ⊢
  have hl : lv_has ls 4 [(0, .ref (a 53)), (1, .int (i2 p0)), (2, .int (i2 p1))] := hl
  unfold m_x8_find at h
  refine y_loop (pcJ := 2) (σ := Int × Int × Int) (fun n u H locs ls => va_P D vwCl (CS D a s) H ∧ va_S (fun _ => False) s₀.heap H locs ∧ lv_has ls 4 [(0, .ref (a 53)), (1, .int (i2 u.1)), (2, .int (i2 u.2.1)), (3, .int (i2 u.2.2))] ∧ m_x8_find_L2 s n u.1 u.2.1 u.2.2 = some o) (fun u => []) (fun u H locs ls hI => by obtain ⟨_, _, _, h⟩ := hI; cases h) (fun n2 ih2 u H locs ls hI => ?_) (fun J2 => ?_)
  · obtain ⟨hP, hS, hl, h⟩ := hI
    obtain ⟨x1, x2, x3⟩ := u
    have hP : va_P D vwCl (CS D a s) H := hP
    have hl : lv_has ls 4 [(0, .ref (a 53)), (1, .int (i2 x1)), (2, .int (i2 x2)), (3, .int (i2 x3))] := hl
    have h : m_x8_find_b2 s (m_x8_find_L2 s n2) x1 x2 x3 = some o := h
    unfold m_x8_find_b2 at h
    refine lv_iload_n hx hb eX8_find_1.2.1 rfl (lv_at hl 3 rfl) ?_
    refine lv_aload_n hx hb eX8_find_1.2.2.1 rfl (lv_at hl 0 rfl) ?_
    refine va_get (D := D) (ci := 8) (v := .ref (a 57)) (C := RX8) (T := TX8) (N := 11) hx hb ht inX8 hown hK hP 53 CW_53 rfl 6 (by decide) (ht (.fieldLink RX8 21 "CloneVolumes$State" "size" "[I") fl_X8_21) (fun _ h9 => h9) rfl eX8_find_1.2.2.2.1 ?_
    refine lv_iload_n hx hb eX8_find_1.2.2.2.2.1 rfl (lv_at hl 1 rfl) ?_
    obtain ⟨y4, ey4, iy4, h⟩ := rdI_e h
    refine ya_iald (i := x1) hx hb hK hP 57 0 CW_57 rfl (by decide) ey4 iy4 eX8_find_1.2.2.2.2.2.1 ?_
    obtain ⟨hr5, h⟩ := rg_e h
    obtain ⟨hr6, h⟩ := rg_e h
    refine lv_icmp_ge (tgt := 35) hx hb eX8_find_1.2.2.2.2.2.2.1 (by decide) (fun c7 => ?_) (fun c7 => ?_)
    · have h := if_t ((i2_le (x := y4) (y := x3) hr6 hr5).mp c7) h
      refine lv_iconst (v := (-1)) hx hb eX8_find_27.2.2.2.2.1 (by decide) ?_
      obtain rfl := Option.some.inj h
      exact W.iret (v := (-1)) hx hb hr (fun t ht hW => ⟨⟨_, (), rfl, rfl, trivial⟩, hS.F ht⟩) hS.2.2 eX8_find_27.2.2.2.2.2.1
    · have h := if_f (mt (i2_le (x := y4) (y := x3) hr6 hr5).mpr c7) h
      refine lv_aload_n hx hb eX8_find_1.2.2.2.2.2.2.2 rfl (lv_at hl 0 rfl) ?_
      refine va_get (D := D) (ci := 8) (v := .ref (a 58)) (C := RX8) (T := TX8) (N := 11) hx hb ht inX8 hown hK hP 53 CW_53 rfl 7 (by decide) (ht (.fieldLink RX8 24 "CloneVolumes$State" "keys" "[I") fl_X8_24) (fun _ h9 => h9) rfl eX8_find_13.1 ?_
      refine lv_aload_n hx hb eX8_find_13.2.1 rfl (lv_at hl 0 rfl) ?_
      refine lv_iload_n hx hb eX8_find_13.2.2.1 rfl (lv_at hl 1 rfl) ?_
      refine lv_iload_n hx hb eX8_find_13.2.2.2.1 rfl (lv_at hl 3 rfl) ?_
      obtain ⟨r9, hc8, h⟩ := bn_e h
      refine ycV (r0 := i2 r9) (As := [.int (i2 x1), .int (i2 x3)]) (rest := [.ref (a 58)]) (C := RX8) (n := 2) ⟨hx, hb, hml, hown, ht⟩ (k_x8_slot l D a x1 x3 _ _ hc8) (zgV ml_X8_73 im_X8_slot se_X8_slot in_X8 co_X8_slot) rfl rfl (by decide +kernel) ⟨Nat.le_of_ble_eq_true rfl, Nat.le_of_ble_eq_true rfl⟩ hN hK hP hS 53 CW_53 rfl rfl rfl hl.1 rfl (Nat.le_of_ble_eq_true rfl) eX8_find_13.2.2.2.2.1 ⟨Nat.le_of_ble_eq_true rfl, Nat.le_of_ble_eq_true rfl⟩ (fun H locs hP hS => ?_)
      obtain ⟨y10, ey10, iy10, h⟩ := rdI_e h
      refine ya_iald (i := r9) hx hb hK hP 58 0 CW_58 rfl (by decide) ey10 iy10 eX8_find_13.2.2.2.2.2.1 ?_
      refine lv_iload_n hx hb eX8_find_13.2.2.2.2.2.2.1 rfl (lv_at hl 2 rfl) ?_
      obtain ⟨hr11, h⟩ := rg_e h
      obtain ⟨hr12, h⟩ := rg_e h
      refine lv_icmp_ne (tgt := 29) hx hb eX8_find_13.2.2.2.2.2.2.2 (by decide) (fun c13 => ?_) (fun c13 => ?_)
      · have h := if_f (mt (i2_eq (x := y10) (y := x2) hr11 hr12).mpr c13) h
        refine lv_iinc (v := i2 (x3 + 1)) (lv' := [(3, .int (i2 (x3 + 1))), (0, .ref (a 53)), (1, .int (i2 x1)), (2, .int (i2 x2))]) hx hb eX8_find_27.2.2.1 hl (k := 3) rfl (i2_add x3 1) (by decide) rfl (fun ls hl => ?_)
        refine lv_goto (tgt := 2) hx hb eX8_find_27.2.2.2.1 (by decide) ?_
        exact ih2 (x1, x2, x3 + 1) _ _ _ ⟨hP, hS, lv_sub hl [1, 2, 3, 0] rfl, h⟩
      · have h := if_t ((i2_eq (x := y10) (y := x2) hr11 hr12).mp c13) h
        refine lv_iload_n hx hb eX8_find_27.1 rfl (lv_at hl 3 rfl) ?_
        obtain rfl := Option.some.inj h
        exact W.iret (v := (i2 x3)) hx hb hr (fun t ht hW => ⟨⟨_, (), rfl, rfl, trivial⟩, hS.F ht⟩) hS.2.2 eX8_find_27.2.1
  refine lv_iconst (v := 0) hx hb eX8_entryFor_29.2.2.2.2.2.2.2 (by decide) ?_
  refine lv_istore_n (lv' := [(3, .int 0), (0, .ref (a 53)), (1, .int (i2 p0)), (2, .int (i2 p1))]) hx hb eX8_find_1.1 rfl hl (by decide) rfl (fun ls hl => ?_)
  exact J2 FU (p0, p1, 0) _ _ _ ⟨hP, hS, lv_sub hl [1, 2, 3, 0] rfl, h⟩
set_option maxHeartbeats 4000000 in
set_option maxRecDepth 100000 in
theorem k_x8_entryFor (l : Launch) (D : va_G) (a : Nat → Nat) (p0 : Int) (p1 : Int) (s : MS) (o : Int) (h : m_x8_entryFor p0 p1 s = some o) : yRi l yX8_entryFor cX8_entryFor 5 (some .int) { frames := 1, cells := 0, slots := 0, locals := 60 } D [.ref (a 53), .int (i2 p0), .int (i2 p1)] (CS D a s) (i2 o) := by
  refine Met.ofW (cc := cX8_entryFor) (maxL := 5) (ret := (some .int)) (by decide) rfl ?_
  intro p e s₀ m args below meth c s₁ B hml hv
  obtain ⟨rfl, ⟨hP, hK⟩, hN⟩ := hv
  have hx := B.exec
  have hb := B.bytes
  have hr := B.returns
  have hts := atoms_spec (ws := wz yX8_entryFor cX8_entryFor 5 (some .int)) B.pre
  have ht : ∀ w ∈ lw_gd, w.before _ s₀ = true := fun w h => hts w (List.mem_cons_of_mem _ h)
  have hown : s₀.vm.findClass RX8 = some m.cls := findClass_of_methodNamed B.named
  have hlocks := B.notSynchronized
  have hS : va_S (fun _ => False) s₀.heap s₀.heap [] := va_S.rf
  have hl := lv_entry ([.ref (a 53), .int (i2 p0), .int (i2 p1)]) (n := 5) (Nat.le_of_ble_eq_true rfl)
  rw [lg_entry_eq]
  generalize (lg_sl ([.ref (a 53), .int (i2 p0), .int (i2 p1)]) ++ List.replicate (5 - (lg_sl ([.ref (a 53), .int (i2 p0), .int (i2 p1)])).length) Slot.unset).toArray = ls at hl ⊢
  have hl : lv_has ls 5 [(0, .ref (a 53)), (1, .int (i2 p0)), (2, .int (i2 p1))] := hl
  unfold m_x8_entryFor at h
  refine y_loop (pcJ := 5) (σ := Int × Int × Int × Int) (fun n u H locs ls => va_P D vwCl (CS D a s) H ∧ va_S (fun _ => False) s₀.heap H locs ∧ lv_has ls 5 [(0, .ref (a 53)), (1, .int (i2 u.1)), (2, .int (i2 u.2.1)), (3, .int (i2 u.2.2.1)), (4, .int (i2 u.2.2.2))] ∧ m_x8_entryFor_L5 s n u.1 u.2.1 u.2.2.1 u.2.2.2 = some o) (fun u => []) (fun u H locs ls hI => by obtain ⟨_, _, _, h⟩ := hI; cases h) (fun n5 ih5 u H locs ls hI => ?_) (fun J5 => ?_)
  · obtain ⟨hP, hS, hl, h⟩ := hI
    obtain ⟨x1, x2, x3, x4⟩ := u
    have hP : va_P D vwCl (CS D a s) H := hP
    have hl : lv_has ls 5 [(0, .ref (a 53)), (1, .int (i2 x1)), (2, .int (i2 x2)), (3, .int (i2 x3)), (4, .int (i2 x4))] := hl
    have h : m_x8_entryFor_b5 s (m_x8_entryFor_L5 s n5) x1 x2 x3 x4 = some o := h
    unfold m_x8_entryFor_b5 at h
    refine y_head (pcJ := 35) (σ := Int × Int × Int × Int) (fun u H locs ls => va_P D vwCl (CS D a s) H ∧ va_S (fun _ => False) s₀.heap H locs ∧ lv_has ls 5 [(0, .ref (a 53)), (1, .int (i2 u.1)), (2, .int (i2 u.2.1)), (3, .int (i2 u.2.2.1)), (4, .int (i2 u.2.2.2))] ∧ m_x8_entryFor_J35 s (m_x8_entryFor_L5 s n5) u.1 u.2.1 u.2.2.1 u.2.2.2 = some o) (fun u => []) (fun u H locs ls hI => ?_) (fun J35 => ?_)
    · obtain ⟨hP, hS, hl, h⟩ := hI
      obtain ⟨x5, x6, x7, x8⟩ := u
      have hP : va_P D vwCl (CS D a s) H := hP
      have hl : lv_has ls 5 [(0, .ref (a 53)), (1, .int (i2 x5)), (2, .int (i2 x6)), (3, .int (i2 x7)), (4, .int (i2 x8))] := hl
      have h : m_x8_entryFor_J35 s (m_x8_entryFor_L5 s n5) x5 x6 x7 x8 = some o := h
      unfold m_x8_entryFor_J35 at h
      refine lv_iinc (v := i2 (x8 + 1)) (lv' := [(4, .int (i2 (x8 + 1))), (0, .ref (a 53)), (1, .int (i2 x5)), (2, .int (i2 x6)), (3, .int (i2 x7))]) hx hb eX8_entryFor_29.2.2.2.1 hl (k := 4) rfl (i2_add x8 1) (by decide) rfl (fun ls hl => ?_)
      refine lv_goto (tgt := 5) hx hb eX8_entryFor_29.2.2.2.2.1 (by decide) ?_
      exact ih5 (x5, x6, x7, x8 + 1) _ _ _ ⟨hP, hS, lv_sub hl [1, 2, 3, 4, 0] rfl, h⟩
    refine lv_iload hx hb eX8_entryFor_2.2.2.1 (lv_at hl 4 rfl) ?_
    refine lv_aload_n hx hb eX8_entryFor_2.2.2.2.1 rfl (lv_at hl 0 rfl) ?_
    refine va_get (D := D) (ci := 8) (v := .ref (a 57)) (C := RX8) (T := TX8) (N := 11) hx hb ht inX8 hown hK hP 53 CW_53 rfl 6 (by decide) (ht (.fieldLink RX8 21 "CloneVolumes$State" "size" "[I") fl_X8_21) (fun _ h9 => h9) rfl eX8_entryFor_2.2.2.2.2.1 ?_
    refine lv_iload_n hx hb eX8_entryFor_2.2.2.2.2.2.1 rfl (lv_at hl 1 rfl) ?_
    obtain ⟨y9, ey9, iy9, h⟩ := rdI_e h
    refine ya_iald (i := x1) hx hb hK hP 57 0 CW_57 rfl (by decide) ey9 iy9 eX8_entryFor_2.2.2.2.2.2.2.1 ?_
    obtain ⟨hr10, h⟩ := rg_e h
    obtain ⟨hr11, h⟩ := rg_e h
    refine lv_icmp_ge (tgt := 41) hx hb eX8_entryFor_2.2.2.2.2.2.2.2 (by decide) (fun c12 => ?_) (fun c12 => ?_)
    · have h := if_t ((i2_le (x := y9) (y := x4) hr11 hr10).mp c12) h
      refine lv_iload_n hx hb eX8_entryFor_29.2.2.2.2.2.1 rfl (lv_at hl 3 rfl) ?_
      obtain rfl := Option.some.inj h
      exact W.iret (v := (i2 x3)) hx hb hr (fun t ht hW => ⟨⟨_, (), rfl, rfl, trivial⟩, hS.F ht⟩) hS.2.2 eX8_entryFor_29.2.2.2.2.2.2.1
    · have h := if_f (mt (i2_le (x := y9) (y := x4) hr11 hr10).mpr c12) h
      refine lv_aload_n hx hb eX8_entryFor_16.1 rfl (lv_at hl 0 rfl) ?_
      refine va_get (D := D) (ci := 8) (v := .ref (a 58)) (C := RX8) (T := TX8) (N := 11) hx hb ht inX8 hown hK hP 53 CW_53 rfl 7 (by decide) (ht (.fieldLink RX8 24 "CloneVolumes$State" "keys" "[I") fl_X8_24) (fun _ h9 => h9) rfl eX8_entryFor_16.2.1 ?_
      refine lv_aload_n hx hb eX8_entryFor_16.2.2.1 rfl (lv_at hl 0 rfl) ?_
      refine lv_iload_n hx hb eX8_entryFor_16.2.2.2.1 rfl (lv_at hl 1 rfl) ?_
      refine lv_iload hx hb eX8_entryFor_16.2.2.2.2.1 (lv_at hl 4 rfl) ?_
      obtain ⟨r14, hc13, h⟩ := bn_e h
      refine ycV (r0 := i2 r14) (As := [.int (i2 x1), .int (i2 x4)]) (rest := [.ref (a 58)]) (C := RX8) (n := 2) ⟨hx, hb, hml, hown, ht⟩ (k_x8_slot l D a x1 x4 _ _ hc13) (zgV ml_X8_73 im_X8_slot se_X8_slot in_X8 co_X8_slot) rfl rfl (by decide +kernel) ⟨Nat.le_of_ble_eq_true rfl, Nat.le_of_ble_eq_true rfl⟩ hN hK hP hS 53 CW_53 rfl rfl rfl hl.1 rfl (Nat.le_of_ble_eq_true rfl) eX8_entryFor_16.2.2.2.2.2.1 ⟨Nat.le_of_ble_eq_true rfl, Nat.le_of_ble_eq_true rfl⟩ (fun H locs hP hS => ?_)
      obtain ⟨y15, ey15, iy15, h⟩ := rdI_e h
      refine ya_iald (i := r14) hx hb hK hP 58 0 CW_58 rfl (by decide) ey15 iy15 eX8_entryFor_16.2.2.2.2.2.2.1 ?_
      refine lv_iload_n hx hb eX8_entryFor_16.2.2.2.2.2.2.2 rfl (lv_at hl 2 rfl) ?_
      obtain ⟨hr16, h⟩ := rg_e h
      obtain ⟨hr17, h⟩ := rg_e h
      refine lv_icmp_gt (tgt := 35) hx hb eX8_entryFor_29.1 (by decide) (fun c18 => ?_) (fun c18 => ?_)
      · have h := if_t ((i2_lt (x := x2) (y := y15) hr17 hr16).mp c18) h
        exact J35 (x1, x2, x3, x4) _ _ _ ⟨hP, hS, lv_sub hl [0, 1, 2, 3, 4] rfl, h⟩
      · have h := if_f (mt (i2_lt (x := x2) (y := y15) hr17 hr16).mpr c18) h
        refine lv_iload hx hb eX8_entryFor_29.2.1 (lv_at hl 4 rfl) ?_
        refine lv_istore_n (lv' := [(3, .int (i2 x4)), (0, .ref (a 53)), (1, .int (i2 x1)), (2, .int (i2 x2)), (4, .int (i2 x4))]) hx hb eX8_entryFor_29.2.2.1 rfl hl (by decide) rfl (fun ls hl => ?_)
        exact J35 (x1, x2, x4, x4) _ _ _ ⟨hP, hS, lv_sub hl [1, 2, 3, 0, 4] rfl, h⟩
  refine lv_iconst (v := 0) hx hb eX8_below_7.2.2.2.2.2.2.1 (by decide) ?_
  refine lv_istore_n (lv' := [(3, .int 0), (0, .ref (a 53)), (1, .int (i2 p0)), (2, .int (i2 p1))]) hx hb eX8_below_7.2.2.2.2.2.2.2 rfl hl (by decide) rfl (fun ls hl => ?_)
  refine lv_iconst (v := 1) hx hb eX8_entryFor_2.1 (by decide) ?_
  refine lv_istore (lv' := [(4, .int 1), (3, .int 0), (0, .ref (a 53)), (1, .int (i2 p0)), (2, .int (i2 p1))]) hx hb eX8_entryFor_2.2.1 hl (by decide) rfl (fun ls hl => ?_)
  exact J5 FU (p0, p1, 0, 1) _ _ _ ⟨hP, hS, lv_sub hl [2, 3, 4, 1, 0] rfl, h⟩
set_option maxHeartbeats 4000000 in
set_option maxRecDepth 100000 in
theorem k_x8_below (l : Launch) (D : va_G) (a : Nat → Nat) (p0 : Int) (p1 : Int) (s : MS) (o : Int) (h : m_x8_below p0 p1 s = some o) : yRi l yX8_below cX8_below 3 (some .int) { frames := 2, cells := 0, slots := 0, locals := 120 } D [.ref (a 53), .int (i2 p0), .int (i2 p1)] (CS D a s) (i2 o) := by
  refine Met.ofW (cc := cX8_below) (maxL := 3) (ret := (some .int)) (by decide) rfl ?_
  intro p e s₀ m args below meth c s₁ B hml hv
  obtain ⟨rfl, ⟨hP, hK⟩, hN⟩ := hv
  have hx := B.exec
  have hb := B.bytes
  have hr := B.returns
  have hts := atoms_spec (ws := wz yX8_below cX8_below 3 (some .int)) B.pre
  have ht : ∀ w ∈ lw_gd, w.before _ s₀ = true := fun w h => hts w (List.mem_cons_of_mem _ h)
  have hown : s₀.vm.findClass RX8 = some m.cls := findClass_of_methodNamed B.named
  have hlocks := B.notSynchronized
  have hS : va_S (fun _ => False) s₀.heap s₀.heap [] := va_S.rf
  have hl := lv_entry ([.ref (a 53), .int (i2 p0), .int (i2 p1)]) (n := 3) (Nat.le_of_ble_eq_true rfl)
  rw [lg_entry_eq]
  generalize (lg_sl ([.ref (a 53), .int (i2 p0), .int (i2 p1)]) ++ List.replicate (3 - (lg_sl ([.ref (a 53), .int (i2 p0), .int (i2 p1)])).length) Slot.unset).toArray = ls at hl ⊢
  have hl : lv_has ls 3 [(0, .ref (a 53)), (1, .int (i2 p0)), (2, .int (i2 p1))] := hl
  unfold m_x8_below at h
  refine lv_aload_n hx hb eX2_toldOf_72.2.2.2.1 rfl (lv_at hl 0 rfl) ?_
  refine va_get (D := D) (ci := 8) (v := .ref (a 59)) (C := RX8) (T := TX8) (N := 11) hx hb ht inX8 hown hK hP 53 CW_53 rfl 8 (by decide) (ht (.fieldLink RX8 27 "CloneVolumes$State" "values" "[I") fl_X8_27) (fun _ h9 => h9) rfl eX2_toldOf_72.2.2.2.2.1 ?_
  refine lv_aload_n hx hb eX2_toldOf_72.2.2.2.2.2.1 rfl (lv_at hl 0 rfl) ?_
  refine lv_iload_n hx hb eX2_toldOf_72.2.2.2.2.2.2.1 rfl (lv_at hl 1 rfl) ?_
  refine lv_aload_n hx hb eX2_toldOf_72.2.2.2.2.2.2.2 rfl (lv_at hl 0 rfl) ?_
  refine lv_iload_n hx hb eX8_below_7.1 rfl (lv_at hl 1 rfl) ?_
  refine lv_iload_n hx hb eX8_below_7.2.1 rfl (lv_at hl 2 rfl) ?_
  obtain ⟨r2, hc1, h⟩ := bn_e h
  refine ycV (r0 := i2 r2) (As := [.int (i2 p0), .int (i2 p1)]) (rest := [.int (i2 p0), .ref (a 53), .ref (a 59)]) (C := RX8) (n := 2) ⟨hx, hb, hml, hown, ht⟩ (k_x8_entryFor l D a p0 p1 _ _ hc1) (zgV ml_X8_77 im_X8_entryFor se_X8_entryFor in_X8 co_X8_entryFor) rfl rfl (by decide +kernel) ⟨Nat.le_of_ble_eq_true rfl, Nat.le_of_ble_eq_true rfl⟩ hN hK hP hS 53 CW_53 rfl rfl rfl hl.1 rfl (Nat.le_of_ble_eq_true rfl) eX8_below_7.2.2.1 ⟨Nat.le_of_ble_eq_true rfl, Nat.le_of_ble_eq_true rfl⟩ (fun H locs hP hS => ?_)
  obtain ⟨r4, hc3, h⟩ := bn_e h
  refine ycV (r0 := i2 r4) (As := [.int (i2 p0), .int (i2 r2)]) (rest := [.ref (a 59)]) (C := RX8) (n := 2) ⟨hx, hb, hml, hown, ht⟩ (k_x8_slot l D a p0 r2 _ _ hc3) (zgV ml_X8_73 im_X8_slot se_X8_slot in_X8 co_X8_slot) rfl rfl (by decide +kernel) ⟨Nat.le_of_ble_eq_true rfl, Nat.le_of_ble_eq_true rfl⟩ hN hK hP hS 53 CW_53 rfl rfl rfl hl.1 rfl (Nat.le_of_ble_eq_true rfl) eX8_below_7.2.2.2.1 ⟨Nat.le_of_ble_eq_true rfl, Nat.le_of_ble_eq_true rfl⟩ (fun H locs hP hS => ?_)
  obtain ⟨y5, ey5, iy5, h⟩ := rdI_e h
  refine ya_iald (i := r4) hx hb hK hP 59 0 CW_59 rfl (by decide) ey5 iy5 eX8_below_7.2.2.2.2.1 ?_
  obtain rfl := Option.some.inj h
  exact W.iret (v := (i2 y5)) hx hb hr (fun t ht hW => ⟨⟨_, (), rfl, rfl, trivial⟩, hS.F ht⟩) hS.2.2 eX8_below_7.2.2.2.2.2.1
set_option maxHeartbeats 4000000 in
set_option maxRecDepth 100000 in
theorem k_x8_valueAt (l : Launch) (D : va_G) (a : Nat → Nat) (p0 : Int) (p1 : Int) (s : MS) (o : Int) (h : m_x8_valueAt p0 p1 s = some o) : yRi l yX8_valueAt cX8_valueAt 5 (some .int) { frames := 3, cells := 0, slots := 0, locals := 180 } D [.ref (a 53), .int (i2 p0), .int (i2 p1)] (CS D a s) (i2 o) := by
  refine Met.ofW (cc := cX8_valueAt) (maxL := 5) (ret := (some .int)) (by decide) rfl ?_
  intro p e s₀ m args below meth c s₁ B hml hv
  obtain ⟨rfl, ⟨hP, hK⟩, hN⟩ := hv
  have hx := B.exec
  have hb := B.bytes
  have hr := B.returns
  have hts := atoms_spec (ws := wz yX8_valueAt cX8_valueAt 5 (some .int)) B.pre
  have ht : ∀ w ∈ lw_gd, w.before _ s₀ = true := fun w h => hts w (List.mem_cons_of_mem _ h)
  have hown : s₀.vm.findClass RX8 = some m.cls := findClass_of_methodNamed B.named
  have hlocks := B.notSynchronized
  have hS : va_S (fun _ => False) s₀.heap s₀.heap [] := va_S.rf
  have hl := lv_entry ([.ref (a 53), .int (i2 p0), .int (i2 p1)]) (n := 5) (Nat.le_of_ble_eq_true rfl)
  rw [lg_entry_eq]
  generalize (lg_sl ([.ref (a 53), .int (i2 p0), .int (i2 p1)]) ++ List.replicate (5 - (lg_sl ([.ref (a 53), .int (i2 p0), .int (i2 p1)])).length) Slot.unset).toArray = ls at hl ⊢
  have hl : lv_has ls 5 [(0, .ref (a 53)), (1, .int (i2 p0)), (2, .int (i2 p1))] := hl
  unfold m_x8_valueAt at h
  refine y_head (pcJ := 64) (σ := Int) (fun u H locs ls => va_P D vwCl (CS D a s) H ∧ va_S (fun _ => False) s₀.heap H locs ∧ lv_has ls 5 [] ∧ m_x8_valueAt_J64 s u = some o) (fun u => [.int (i2 u)]) (fun u H locs ls hI => ?_) (fun J64 => ?_)
  · obtain ⟨hP, hS, hl, h⟩ := hI
    obtain ⟨x1, rfl⟩ : ∃ z, z = u := ⟨u, rfl⟩
    have hP : va_P D vwCl (CS D a s) H := hP
    have hl : lv_has ls 5 [] := hl
    have h : m_x8_valueAt_J64 s x1 = some o := h
    unfold m_x8_valueAt_J64 at h
    obtain rfl := Option.some.inj h
    exact W.iret (v := (i2 x1)) hx hb hr (fun t ht hW => ⟨⟨_, (), rfl, rfl, trivial⟩, hS.F ht⟩) hS.2.2 eX8_valueAt_57.2.2.2.2
  refine y_loop (pcJ := 16) (σ := Int × Int × Int) (fun n u H locs ls => va_P D vwCl (CS D a s) H ∧ va_S (fun _ => False) s₀.heap H locs ∧ lv_has ls 5 [(0, .ref (a 53)), (2, .int (i2 u.1)), (3, .int (i2 u.2.1)), (4, .int (i2 u.2.2))] ∧ m_x8_valueAt_L16 s n u.1 u.2.1 u.2.2 = some o) (fun u => []) (fun u H locs ls hI => by obtain ⟨_, _, _, h⟩ := hI; cases h) (fun n16 ih16 u H locs ls hI => ?_) (fun J16 => ?_)
  · obtain ⟨hP, hS, hl, h⟩ := hI
    obtain ⟨x2, x3, x4⟩ := u
    have hP : va_P D vwCl (CS D a s) H := hP
    have hl : lv_has ls 5 [(0, .ref (a 53)), (2, .int (i2 x2)), (3, .int (i2 x3)), (4, .int (i2 x4))] := hl
    have h : m_x8_valueAt_b16 s (m_x8_valueAt_L16 s n16) x2 x3 x4 = some o := h
    unfold m_x8_valueAt_b16 at h
    refine lv_iload hx hb eX8_valueAt_13.2.2.1 (lv_at hl 3 rfl) ?_
    obtain ⟨hr5, h⟩ := rg_e h
    refine lv_if_le (tgt := 34) hx hb eX8_valueAt_13.2.2.2.1 (by decide) (fun c6 => ?_) (fun c6 => ?_)
    · have h := if_t ((i2_le (x := x4) (y := 0) hr5 (by decide)).mp c6) h
      refine lv_aload_n hx hb eX8_valueAt_27.2.2.2.1 rfl (lv_at hl 0 rfl) ?_
      refine lv_iload_n hx hb eX8_valueAt_27.2.2.2.2.1 rfl (lv_at hl 2 rfl) ?_
      refine lv_iload_n hx hb eX8_valueAt_27.2.2.2.2.2.1 rfl (lv_at hl 1 rfl) ?_
      obtain ⟨r8, hc7, h⟩ := bn_e h
      refine ycV (r0 := i2 r8) (As := [.int (i2 x3), .int (i2 x2)]) (rest := []) (C := RX8) (n := 2) ⟨hx, hb, hml, hown, ht⟩ (k_x8_find l D a x3 x2 _ _ hc7) (zgV ml_X8_83 im_X8_find se_X8_find in_X8 co_X8_find) rfl rfl (by decide +kernel) ⟨Nat.le_of_ble_eq_true rfl, Nat.le_of_ble_eq_true rfl⟩ hN hK hP hS 53 CW_53 rfl rfl rfl hl.1 rfl (Nat.le_of_ble_eq_true rfl) eX8_valueAt_27.2.2.2.2.2.2.1 ⟨Nat.le_of_ble_eq_true rfl, Nat.le_of_ble_eq_true rfl⟩ (fun H locs hP hS => ?_)
      refine lv_istore (lv' := [(4, .int (i2 r8)), (0, .ref (a 53)), (2, .int (i2 x2)), (3, .int (i2 x3))]) hx hb eX8_valueAt_27.2.2.2.2.2.2.2 hl (by decide) rfl (fun ls hl => ?_)
      refine lv_iload hx hb eX8_valueAt_42.1 (lv_at hl 0 rfl) ?_
      refine lv_iconst (v := (-1)) hx hb eX8_valueAt_42.2.1 (by decide) ?_
      obtain ⟨hr9, h⟩ := rg_e h
      refine lv_icmp_ne (tgt := 52) hx hb eX8_valueAt_42.2.2.1 (by decide) (fun c10 => ?_) (fun c10 => ?_)
      · rw [show ((-1) : Int32) = i2 (-1) from by decide] at c10
        have h := if_f (mt (i2_eq (x := r8) (y := (-1)) hr9 (by decide)).mpr c10) h
        refine lv_aload_n hx hb eX8_valueAt_42.2.2.2.2.2.1 rfl (lv_at hl 1 rfl) ?_
        refine va_get (D := D) (ci := 8) (v := .ref (a 59)) (C := RX8) (T := TX8) (N := 11) hx hb ht inX8 hown hK hP 53 CW_53 rfl 8 (by decide) (ht (.fieldLink RX8 27 "CloneVolumes$State" "values" "[I") fl_X8_27) (fun _ h9 => h9) rfl eX8_valueAt_42.2.2.2.2.2.2.1 ?_
        refine lv_aload_n hx hb eX8_valueAt_42.2.2.2.2.2.2.2 rfl (lv_at hl 1 rfl) ?_
        refine lv_iload_n hx hb eX8_valueAt_57.1 rfl (lv_at hl 3 rfl) ?_
        refine lv_iload hx hb eX8_valueAt_57.2.1 (lv_at hl 0 rfl) ?_
        obtain ⟨r12, hc11, h⟩ := bn_e h
        refine ycV (r0 := i2 r12) (As := [.int (i2 x3), .int (i2 r8)]) (rest := [.ref (a 59)]) (C := RX8) (n := 2) ⟨hx, hb, hml, hown, ht⟩ (k_x8_slot l D a x3 r8 _ _ hc11) (zgV ml_X8_73 im_X8_slot se_X8_slot in_X8 co_X8_slot) rfl rfl (by decide +kernel) ⟨Nat.le_of_ble_eq_true rfl, Nat.le_of_ble_eq_true rfl⟩ hN hK hP hS 53 CW_53 rfl rfl rfl hl.1 rfl (Nat.le_of_ble_eq_true rfl) eX8_valueAt_57.2.2.1 ⟨Nat.le_of_ble_eq_true rfl, Nat.le_of_ble_eq_true rfl⟩ (fun H locs hP hS => ?_)
        obtain ⟨y13, ey13, iy13, h⟩ := rdI_e h
        refine ya_iald (i := r12) hx hb hK hP 59 0 CW_59 rfl (by decide) ey13 iy13 eX8_valueAt_57.2.2.2.1 ?_
        exact J64 y13 _ _ _ ⟨hP, hS, lv_sub hl [] rfl, h⟩
      · rw [show ((-1) : Int32) = i2 (-1) from by decide] at c10
        have h := if_t ((i2_eq (x := r8) (y := (-1)) hr9 (by decide)).mp c10) h
        refine lv_iconst (v := (-1)) hx hb eX8_valueAt_42.2.2.2.1 (by decide) ?_
        refine lv_goto (tgt := 64) hx hb eX8_valueAt_42.2.2.2.2.1 (by decide) ?_
        exact J64 (-1) _ _ _ ⟨hP, hS, lv_sub hl [] rfl, h⟩
    · have h := if_f (mt (i2_le (x := x4) (y := 0) hr5 (by decide)).mpr c6) h
      refine lv_aload_n hx hb eX8_valueAt_13.2.2.2.2.1 rfl (lv_at hl 0 rfl) ?_
      refine lv_iload_n hx hb eX8_valueAt_13.2.2.2.2.2.1 rfl (lv_at hl 2 rfl) ?_
      refine lv_iload_n hx hb eX8_valueAt_13.2.2.2.2.2.2.1 rfl (lv_at hl 1 rfl) ?_
      obtain ⟨r15, hc14, h⟩ := bn_e h
      refine ycV (r0 := i2 r15) (As := [.int (i2 x3), .int (i2 x2)]) (rest := []) (C := RX8) (n := 2) ⟨hx, hb, hml, hown, ht⟩ (k_x8_below l D a x3 x2 _ _ hc14) (zgV ml_X8_80 im_X8_below se_X8_below in_X8 co_X8_below) rfl rfl (by decide +kernel) ⟨Nat.le_of_ble_eq_true rfl, Nat.le_of_ble_eq_true rfl⟩ hN hK hP hS 53 CW_53 rfl rfl rfl hl.1 rfl (Nat.le_of_ble_eq_true rfl) eX8_valueAt_13.2.2.2.2.2.2.2 ⟨Nat.le_of_ble_eq_true rfl, Nat.le_of_ble_eq_true rfl⟩ (fun H locs hP hS => ?_)
      refine lv_istore_n (lv' := [(3, .int (i2 r15)), (0, .ref (a 53)), (2, .int (i2 x2)), (4, .int (i2 x4))]) hx hb eX8_valueAt_27.1 rfl hl (by decide) rfl (fun ls hl => ?_)
      refine lv_iinc (v := i2 (x4 + (-1))) (lv' := [(4, .int (i2 (x4 + (-1)))), (3, .int (i2 r15)), (0, .ref (a 53)), (2, .int (i2 x2))]) hx hb eX8_valueAt_27.2.1 hl (k := 3) rfl (i2_add x4 (-1)) (by decide) rfl (fun ls hl => ?_)
      refine lv_goto (tgt := 16) hx hb eX8_valueAt_27.2.2.1 (by decide) ?_
      exact ih16 (x2, r15, x4 + (-1)) _ _ _ ⟨hP, hS, lv_sub hl [2, 3, 1, 0] rfl, h⟩
  refine lv_iload_n hx hb eX8_sizeOf_16.2.2.2.2.2.2.2 rfl (lv_at hl 1 rfl) ?_
  obtain ⟨hr16, h⟩ := rg_e h
  refine lv_if_ge (tgt := 6) hx hb eX8_valueAt_1.1 (by decide) (fun c17 => ?_) (fun c17 => ?_)
  · have h := if_t ((i2_le (x := 0) (y := p0) (by decide) hr16).mp c17) h
    refine lv_iload_n hx hb eX8_valueAt_1.2.2.2.1 rfl (lv_at hl 1 rfl) ?_
    refine lv_istore_n (lv' := [(3, .int (i2 p0)), (0, .ref (a 53)), (1, .int (i2 p0)), (2, .int (i2 p1))]) hx hb eX8_valueAt_1.2.2.2.2.1 rfl hl (by decide) rfl (fun ls hl => ?_)
    refine lv_aload_n hx hb eX8_valueAt_1.2.2.2.2.2.1 rfl (lv_at hl 1 rfl) ?_
    refine va_get (D := D) (ci := 8) (v := .ref (a 56)) (C := RX8) (T := TX8) (N := 11) hx hb ht inX8 hown hK hP 53 CW_53 rfl 5 (by decide) (ht (.fieldLink RX8 18 "CloneVolumes$State" "level" "[I") fl_X8_18) (fun _ h9 => h9) rfl eX8_valueAt_1.2.2.2.2.2.2.1 ?_
    refine lv_iload_n hx hb eX8_valueAt_1.2.2.2.2.2.2.2 rfl (lv_at hl 2 rfl) ?_
    obtain ⟨y18, ey18, iy18, h⟩ := rdI_e h
    refine ya_iald (i := p0) hx hb hK hP 56 0 CW_56 rfl (by decide) ey18 iy18 eX8_valueAt_13.1 ?_
    refine lv_istore (lv' := [(4, .int (i2 y18)), (3, .int (i2 p0)), (0, .ref (a 53)), (1, .int (i2 p0)), (2, .int (i2 p1))]) hx hb eX8_valueAt_13.2.1 hl (by decide) rfl (fun ls hl => ?_)
    exact J16 FU (p1, p0, y18) _ _ _ ⟨hP, hS, lv_sub hl [2, 4, 1, 0] rfl, h⟩
  · have h := if_f (mt (i2_le (x := 0) (y := p0) (by decide) hr16).mpr c17) h
    refine lv_iconst (v := (-1)) hx hb eX8_valueAt_1.2.1 (by decide) ?_
    obtain rfl := Option.some.inj h
    exact W.iret (v := (-1)) hx hb hr (fun t ht hW => ⟨⟨_, (), rfl, rfl, trivial⟩, hS.F ht⟩) hS.2.2 eX8_valueAt_1.2.2.1
set_option maxHeartbeats 4000000 in
set_option maxRecDepth 100000 in
theorem k_x11_read (l : Launch) (D : va_G) (a : Nat → Nat) (p0 : Int) (p1 : Int) (s : MS) (o : Int) (h : m_x11_read p0 p1 s = some o) : yRi l yX11_read cX11_read 3 (some .int) { frames := 4, cells := 0, slots := 0, locals := 240 } D [.ref (a 0), .int (i2 p0), .int (i2 p1)] (CS D a s) (i2 o) := by
  refine Met.ofW (cc := cX11_read) (maxL := 3) (ret := (some .int)) (by decide) rfl ?_
  intro p e s₀ m args below meth c s₁ B hml hv
  obtain ⟨rfl, ⟨hP, hK⟩, hN⟩ := hv
  have hx := B.exec
  have hb := B.bytes
  have hr := B.returns
  have hts := atoms_spec (ws := wz yX11_read cX11_read 3 (some .int)) B.pre
  have ht : ∀ w ∈ lw_gd, w.before _ s₀ = true := fun w h => hts w (List.mem_cons_of_mem _ h)
  have hown : s₀.vm.findClass RX11 = some m.cls := findClass_of_methodNamed B.named
  have hlocks := B.notSynchronized
  have hS : va_S (fun _ => False) s₀.heap s₀.heap [] := va_S.rf
  have hl := lv_entry ([.ref (a 0), .int (i2 p0), .int (i2 p1)]) (n := 3) (Nat.le_of_ble_eq_true rfl)
  rw [lg_entry_eq]
  generalize (lg_sl ([.ref (a 0), .int (i2 p0), .int (i2 p1)]) ++ List.replicate (3 - (lg_sl ([.ref (a 0), .int (i2 p0), .int (i2 p1)])).length) Slot.unset).toArray = ls at hl ⊢
  have hl : lv_has ls 3 [(0, .ref (a 0)), (1, .int (i2 p0)), (2, .int (i2 p1))] := hl
  unfold m_x11_read at h
  refine y_head (pcJ := 41) (σ := Int) (fun u H locs ls => va_P D vwCl (CS D a s) H ∧ va_S (fun _ => False) s₀.heap H locs ∧ lv_has ls 3 [] ∧ m_x11_read_J41 s u = some o) (fun u => [.int (i2 u)]) (fun u H locs ls hI => ?_) (fun J41 => ?_)
  · obtain ⟨hP, hS, hl, h⟩ := hI
    obtain ⟨x1, rfl⟩ : ∃ z, z = u := ⟨u, rfl⟩
    have hP : va_P D vwCl (CS D a s) H := hP
    have hl : lv_has ls 3 [] := hl
    have h : m_x11_read_J41 s x1 = some o := h
    unfold m_x11_read_J41 at h
    obtain rfl := Option.some.inj h
    exact W.iret (v := (i2 x1)) hx hb hr (fun t ht hW => ⟨⟨_, (), rfl, rfl, trivial⟩, hS.F ht⟩) hS.2.2 eX11_read_37.2.2.1
  refine lv_aload_n hx hb eX11_path_73.2.2.2.2.2.2.2 rfl (lv_at hl 0 rfl) ?_
  refine va_get (D := D) (ci := 11) (v := .ref (a 49)) (C := RX11) (T := TX11) (N := 13) hx hb ht inX11 hown hK hP 0 CW_0 rfl 11 (by decide) (ht (.fieldLink RX11 79 "CloneVolumes" "forest" "LCloneVolumes$Forest;") fl_X11_79) (fun _ h9 => h9) rfl eX11_read_1.1 ?_
  refine va_get (D := D) (ci := 1) (v := .ref (a 53)) (C := RX1) (T := TX1) (N := 9) hx hb ht inX1 hown hK hP 49 CW_49 rfl 0 (by decide) (ht (.fieldLink RX11 125 "CloneVolumes$Forest" "now" "LCloneVolumes$State;") fl_X11_125) (fun _ h9 => h9) rfl eX11_read_1.2.1 ?_
  refine lv_iload_n hx hb eX11_read_1.2.2.1 rfl (lv_at hl 1 rfl) ?_
  obtain ⟨r3, hc2, h⟩ := bn_e h
  refine ycV (r0 := i2 r3) (As := [.int (i2 p0)]) (rest := []) (C := RX8) (n := 1) ⟨hx, hb, hml, hown, ht⟩ (k_x8_isVolume l D a p0 _ _ hc2) (zgV ml_X11_161 im_X8_isVolume se_X8_isVolume in_X8 co_X8_isVolume) rfl rfl (by decide +kernel) ⟨Nat.le_of_ble_eq_true rfl, Nat.le_of_ble_eq_true rfl⟩ hN hK hP hS 53 CW_53 rfl rfl rfl hl.1 rfl (Nat.le_of_ble_eq_true rfl) eX11_read_1.2.2.2.1 ⟨Nat.le_of_ble_eq_true rfl, Nat.le_of_ble_eq_true rfl⟩ (fun H locs hP hS => ?_)
  obtain ⟨hr4, h⟩ := rg_e h
  refine lv_if_eq (tgt := 40) hx hb eX11_read_1.2.2.2.2.1 (by decide) (fun c5 => ?_) (fun c5 => ?_)
  · have h := if_t ((i2_eq (x := r3) (y := 0) hr4 (by decide)).mp c5) h
    refine lv_iconst (v := (-1)) hx hb eX11_read_37.2.1 (by decide) ?_
    exact J41 (-1) _ _ _ ⟨hP, hS, lv_sub hl [] rfl, h⟩
  · have h := if_f (mt (i2_eq (x := r3) (y := 0) hr4 (by decide)).mpr c5) h
    refine lv_aload_n hx hb eX11_read_1.2.2.2.2.2.1 rfl (lv_at hl 0 rfl) ?_
    refine va_get (D := D) (ci := 11) (v := .ref (a 49)) (C := RX11) (T := TX11) (N := 13) hx hb ht inX11 hown hK hP 0 CW_0 rfl 11 (by decide) (ht (.fieldLink RX11 79 "CloneVolumes" "forest" "LCloneVolumes$Forest;") fl_X11_79) (fun _ h9 => h9) rfl eX11_read_1.2.2.2.2.2.2.1 ?_
    refine va_get (D := D) (ci := 1) (v := .ref (a 53)) (C := RX1) (T := TX1) (N := 9) hx hb ht inX1 hown hK hP 49 CW_49 rfl 0 (by decide) (ht (.fieldLink RX11 125 "CloneVolumes$Forest" "now" "LCloneVolumes$State;") fl_X11_125) (fun _ h9 => h9) rfl eX11_read_1.2.2.2.2.2.2.2 ?_
    refine lv_aload_n hx hb eX11_read_21.1 rfl (lv_at hl 0 rfl) ?_
    refine va_get (D := D) (ci := 11) (v := .ref (a 49)) (C := RX11) (T := TX11) (N := 13) hx hb ht inX11 hown hK hP 0 CW_0 rfl 11 (by decide) (ht (.fieldLink RX11 79 "CloneVolumes" "forest" "LCloneVolumes$Forest;") fl_X11_79) (fun _ h9 => h9) rfl eX11_read_21.2.1 ?_
    refine va_get (D := D) (ci := 1) (v := .ref (a 53)) (C := RX1) (T := TX1) (N := 9) hx hb ht inX1 hown hK hP 49 CW_49 rfl 0 (by decide) (ht (.fieldLink RX11 125 "CloneVolumes$Forest" "now" "LCloneVolumes$State;") fl_X11_125) (fun _ h9 => h9) rfl eX11_read_21.2.2.1 ?_
    refine va_get (D := D) (ci := 8) (v := .ref (a 60)) (C := RX8) (T := TX8) (N := 11) hx hb ht inX8 hown hK hP 53 CW_53 rfl 9 (by decide) (ht (.fieldLink RX11 165 "CloneVolumes$State" "roots" "[I") fl_X11_165) (fun _ h9 => h9) rfl eX11_read_21.2.2.2.1 ?_
    refine lv_iload_n hx hb eX11_read_21.2.2.2.2.1 rfl (lv_at hl 1 rfl) ?_
    obtain ⟨y6, ey6, iy6, h⟩ := rdI_e h
    refine ya_iald (i := p0) hx hb hK hP 60 0 CW_60 rfl (by decide) ey6 iy6 eX11_read_21.2.2.2.2.2.1 ?_
    refine lv_iload_n hx hb eX11_read_21.2.2.2.2.2.2.1 rfl (lv_at hl 2 rfl) ?_
    obtain ⟨r8, hc7, h⟩ := bn_e h
    refine ycV (r0 := i2 r8) (As := [.int (i2 y6), .int (i2 p1)]) (rest := []) (C := RX8) (n := 2) ⟨hx, hb, hml, hown, ht⟩ (k_x8_valueAt l D a y6 p1 _ _ hc7) (zgV ml_X11_222 im_X8_valueAt se_X8_valueAt in_X8 co_X8_valueAt) rfl rfl (by decide +kernel) ⟨Nat.le_of_ble_eq_true rfl, Nat.le_of_ble_eq_true rfl⟩ hN hK hP hS 53 CW_53 rfl rfl rfl hl.1 rfl (Nat.le_of_ble_eq_true rfl) eX11_read_21.2.2.2.2.2.2.2 ⟨Nat.le_of_ble_eq_true rfl, Nat.le_of_ble_eq_true rfl⟩ (fun H locs hP hS => ?_)
    refine lv_goto (tgt := 41) hx hb eX11_read_37.1 (by decide) ?_
    exact J41 r8 _ _ _ ⟨hP, hS, lv_sub hl [] rfl, h⟩
set_option maxHeartbeats 4000000 in
set_option maxRecDepth 100000 in
theorem k_x11_key (l : Launch) (D : va_G) (a : Nat → Nat) (p0 : Int) (p1 : Int) (sz : Nat) (s : MS) (o : (Int × MS)) (h : m_x11_key p0 p1 s = some o) : yWi l yX11_key cX11_key 4 (some .int) { frames := 3, cells := 0, slots := 0, locals := 180 } D sz [.ref (a 0), .int (i2 p0), .int (i2 p1)] (CS D a s) (CS D a o.2) (i2 o.1) := by
  refine Met.ofW (cc := cX11_key) (maxL := 4) (ret := (some .int)) (by decide) rfl ?_
  intro p e s₀ m args below meth c s₁ B hml hv
  obtain ⟨rfl, ⟨hsz, hP, hK, hD0⟩, hN⟩ := hv
  have hx := B.exec
  have hb := B.bytes
  have hr := B.returns
  have hts := atoms_spec (ws := wz yX11_key cX11_key 4 (some .int)) B.pre
  have ht : ∀ w ∈ lw_gd, w.before _ s₀ = true := fun w h => hts w (List.mem_cons_of_mem _ h)
  have hown : s₀.vm.findClass RX11 = some m.cls := findClass_of_methodNamed B.named
  have hlocks := B.notSynchronized
  subst hsz
  have hD := hD0.self (sz := s₀.heap.size)
  generalize hAe : va_A (CS D a s) s₀.heap.size = A at hD ⊢
  have hA : ∀ q : Nat, s₀.heap.size ≤ q → A q := fun q h => by rw [← hAe]; exact Or.inr h
  have hS : va_S A s₀.heap s₀.heap [] := va_S.rf
  have hDD : ∀ t : MS, va_D A (CS D a t) := fun t => CW_D t hD
  have hl := lv_entry ([.ref (a 0), .int (i2 p0), .int (i2 p1)]) (n := 4) (Nat.le_of_ble_eq_true rfl)
  rw [lg_entry_eq]
  generalize (lg_sl ([.ref (a 0), .int (i2 p0), .int (i2 p1)]) ++ List.replicate (4 - (lg_sl ([.ref (a 0), .int (i2 p0), .int (i2 p1)])).length) Slot.unset).toArray = ls at hl ⊢
  have hl : lv_has ls 4 [(0, .ref (a 0)), (1, .int (i2 p0)), (2, .int (i2 p1))] := hl
  unfold m_x11_key at h
  refine y_head (pcJ := 38) (σ := MS) (fun u H locs ls => va_P D vwCl (CS D a u) H ∧ va_S A s₀.heap H locs ∧ lv_has ls 4 [] ∧ m_x11_key_J38 u = some o) (fun u => []) (fun u H locs ls hI => ?_) (fun J38 => ?_)
  · obtain ⟨hP, hS, hl, h⟩ := hI
    obtain ⟨s1, rfl⟩ : ∃ z, z = u := ⟨u, rfl⟩
    have hP : va_P D vwCl (CS D a s1) H := hP
    have hl : lv_has ls 4 [] := hl
    have h : m_x11_key_J38 s1 = some o := h
    unfold m_x11_key_J38 at h
    refine lv_iconst (v := (-1)) hx hb eX11_key_32.2.2.1 (by decide) ?_
    obtain rfl := Option.some.inj h
    exact W.iret (v := (-1)) hx hb hr (fun t ht hW => ⟨⟨_, (), rfl, rfl, by rw [ht]; exact hP, va_K.moved hW.alike hK, hDD _⟩, hS.F ht⟩) hS.2.2 eX11_key_32.2.2.2.1
  refine lv_aload_n hx hb eX11_kept_0.2.2.2.2.2.2.1 rfl (lv_at hl 0 rfl) ?_
  refine va_get (D := D) (ci := 11) (v := .ref (a 49)) (C := RX11) (T := TX11) (N := 13) hx hb ht inX11 hown hK hP 0 CW_0 rfl 11 (by decide) (ht (.fieldLink RX11 79 "CloneVolumes" "forest" "LCloneVolumes$Forest;") fl_X11_79) (fun _ h9 => h9) rfl eX11_kept_0.2.2.2.2.2.2.2 ?_
  refine va_get (D := D) (ci := 1) (v := .ref (a 53)) (C := RX1) (T := TX1) (N := 9) hx hb ht inX1 hown hK hP 49 CW_49 rfl 0 (by decide) (ht (.fieldLink RX11 125 "CloneVolumes$Forest" "now" "LCloneVolumes$State;") fl_X11_125) (fun _ h9 => h9) rfl eX11_key_4.1 ?_
  refine lv_astore_n (lv' := [(3, .ref (a 53)), (0, .ref (a 0)), (1, .int (i2 p0)), (2, .int (i2 p1))]) hx hb eX11_key_4.2.1 rfl hl (by decide) rfl (fun ls hl => ?_)
  refine lv_aload_n hx hb eX11_key_4.2.2.1 rfl (lv_at hl 0 rfl) ?_
  refine lv_iload_n hx hb eX11_key_4.2.2.2.1 rfl (lv_at hl 2 rfl) ?_
  obtain ⟨r3, hc2, h⟩ := bn_e h
  refine ycV (r0 := i2 r3) (As := [.int (i2 p0)]) (rest := []) (C := RX8) (n := 1) ⟨hx, hb, hml, hown, ht⟩ (k_x8_isVolume l D a p0 _ _ hc2) (zgV ml_X11_161 im_X8_isVolume se_X8_isVolume in_X8 co_X8_isVolume) rfl rfl (by decide +kernel) ⟨Nat.le_of_ble_eq_true rfl, Nat.le_of_ble_eq_true rfl⟩ hN hK hP hS 53 CW_53 rfl rfl rfl hl.1 rfl (Nat.le_of_ble_eq_true rfl) eX11_key_4.2.2.2.2.1 ⟨Nat.le_of_ble_eq_true rfl, Nat.le_of_ble_eq_true rfl⟩ (fun H locs hP hS => ?_)
  obtain ⟨hr4, h⟩ := rg_e h
  refine lv_if_eq (tgt := 38) hx hb eX11_key_4.2.2.2.2.2.1 (by decide) (fun c5 => ?_) (fun c5 => ?_)
  · have h := if_t ((i2_eq (x := r3) (y := 0) hr4 (by decide)).mp c5) h
    exact J38 s _ _ _ ⟨hP, hS, lv_sub hl [] rfl, h⟩
  · have h := if_f (mt (i2_eq (x := r3) (y := 0) hr4 (by decide)).mpr c5) h
    refine lv_iload_n hx hb eX11_key_4.2.2.2.2.2.2.1 rfl (lv_at hl 3 rfl) ?_
    obtain ⟨hr6, h⟩ := rg_e h
    refine lv_if_lt (tgt := 38) hx hb eX11_key_4.2.2.2.2.2.2.2 (by decide) (fun c7 => ?_) (fun c7 => ?_)
    · have h := if_t ((i2_lt (x := p1) (y := 0) hr6 (by decide)).mp c7) h
      exact J38 s _ _ _ ⟨hP, hS, lv_sub hl [] rfl, h⟩
    · have h := if_f (mt (i2_lt (x := p1) (y := 0) hr6 (by decide)).mpr c7) h
      refine lv_iload_n hx hb eX11_key_20.1 rfl (lv_at hl 3 rfl) ?_
      refine lv_aload_n hx hb eX11_key_20.2.1 rfl (lv_at hl 1 rfl) ?_
      refine va_get (D := D) (ci := 11) (v := .ref (a 21)) (C := RX11) (T := TX11) (N := 13) hx hb ht inX11 hown hK hP 0 CW_0 rfl 5 (by decide) (ht (.fieldLink RX11 49 "CloneVolumes" "walk" "LCloneVolumes$Walk;") fl_X11_49) (fun _ h9 => h9) rfl eX11_key_20.2.2.1 ?_
      refine lv_aload_n hx hb eX11_key_20.2.2.2.1 rfl (lv_at hl 0 rfl) ?_
      refine lv_aload_n hx hb eX11_key_20.2.2.2.2.1 rfl (lv_at hl 0 rfl) ?_
      refine va_get (D := D) (ci := 8) (v := .ref (a 60)) (C := RX8) (T := TX8) (N := 11) hx hb ht inX8 hown hK hP 53 CW_53 rfl 9 (by decide) (ht (.fieldLink RX11 165 "CloneVolumes$State" "roots" "[I") fl_X11_165) (fun _ h9 => h9) rfl eX11_key_20.2.2.2.2.2.1 ?_
      refine lv_iload_n hx hb eX11_key_20.2.2.2.2.2.2.1 rfl (lv_at hl 2 rfl) ?_
      obtain ⟨y8, ey8, iy8, h⟩ := rdI_e h
      refine ya_iald (i := p0) hx hb hK hP 60 0 CW_60 rfl (by decide) ey8 iy8 eX11_key_20.2.2.2.2.2.2.2 ?_
      obtain ⟨⟨r11, s10⟩, hc9, h⟩ := bn_e h
      refine ywV (r0 := i2 r11) (As := [.ref (a 53), .int (i2 y8)]) (rest := [.int (i2 p1)]) (C := RX10) (n := 2) (ws' := CS D a s10) ⟨hx, hb, hml, hown, ht⟩ (k_x10_gather l D a y8 _ _ _ hc9) (zgV ml_X11_168 im_X10_gather se_X10_gather in_X10 co_X10_gather) rfl rfl (by decide +kernel) ⟨Nat.le_of_ble_eq_true rfl, Nat.le_of_ble_eq_true rfl⟩ hN hK hP (hDD _) hS hA 21 CW_21 rfl rfl rfl hl.1 rfl (Nat.le_of_ble_eq_true rfl) eX11_key_32.1 ⟨Nat.le_of_ble_eq_true rfl, Nat.le_of_ble_eq_true rfl⟩ (fun H locs hP hS => ?_)
      obtain ⟨hr12, h⟩ := rg_e h
      obtain ⟨hr13, h⟩ := rg_e h
      refine lv_icmp_lt (tgt := 40) hx hb eX11_key_32.2.1 (by decide) (fun c14 => ?_) (fun c14 => ?_)
      · have h := if_t ((i2_lt (x := p1) (y := r11) hr12 hr13).mp c14) h
        refine lv_aload_n hx hb eX11_key_32.2.2.2.2.1 rfl (lv_at hl 1 rfl) ?_
        refine va_get (D := D) (ci := 11) (v := .ref (a 21)) (C := RX11) (T := TX11) (N := 13) hx hb ht inX11 hown hK hP 0 CW_0 rfl 5 (by decide) (ht (.fieldLink RX11 49 "CloneVolumes" "walk" "LCloneVolumes$Walk;") fl_X11_49) (fun _ h9 => h9) rfl eX11_key_32.2.2.2.2.2.1 ?_
        refine va_get (D := D) (ci := 10) (v := .ref (a 23)) (C := RX10) (T := TX10) (N := 4) hx hb ht inX10 hown hK hP 21 CW_21 rfl 2 (by decide) (ht (.fieldLink RX11 225 "CloneVolumes$Walk" "keys" "[I") fl_X11_225) (fun _ h9 => h9) rfl eX11_key_32.2.2.2.2.2.2.1 ?_
        refine lv_iload_n hx hb eX11_key_32.2.2.2.2.2.2.2 rfl (lv_at hl 3 rfl) ?_
        obtain ⟨y15, ey15, iy15, h⟩ := rdI_e h
        refine ya_iald (i := p1) hx hb hK hP 23 0 CW_23 rfl (by decide) ey15 iy15 eX11_key_48.1 ?_
        obtain rfl := Option.some.inj h
        exact W.iret (v := (i2 y15)) hx hb hr (fun t ht hW => ⟨⟨_, (), rfl, rfl, by rw [ht]; exact hP, va_K.moved hW.alike hK, hDD _⟩, hS.F ht⟩) hS.2.2 eX11_key_48.2.1
      · have h := if_f (mt (i2_lt (x := p1) (y := r11) hr12 hr13).mpr c14) h
        exact J38 s10 _ _ _ ⟨hP, hS, lv_sub hl [] rfl, h⟩
set_option maxHeartbeats 4000000 in
set_option maxRecDepth 100000 in
theorem k_x11_total (l : Launch) (D : va_G) (a : Nat → Nat) (p0 : Int) (p1 : Int) (p2 : Int) (sz : Nat) (s : MS) (o : (Int × MS)) (h : m_x11_total p0 p1 p2 s = some o) : yWi l yX11_total cX11_total 8 (some .int) { frames := 3, cells := 0, slots := 0, locals := 180 } D sz [.ref (a 0), .int (i2 p0), .int (i2 p1), .int (i2 p2)] (CS D a s) (CS D a o.2) (i2 o.1) := by
  refine Met.ofW (cc := cX11_total) (maxL := 8) (ret := (some .int)) (by decide) rfl ?_
  intro p e s₀ m args below meth c s₁ B hml hv
  obtain ⟨rfl, ⟨hsz, hP, hK, hD0⟩, hN⟩ := hv
  have hx := B.exec
  have hb := B.bytes
  have hr := B.returns
  have hts := atoms_spec (ws := wz yX11_total cX11_total 8 (some .int)) B.pre
  have ht : ∀ w ∈ lw_gd, w.before _ s₀ = true := fun w h => hts w (List.mem_cons_of_mem _ h)
  have hown : s₀.vm.findClass RX11 = some m.cls := findClass_of_methodNamed B.named
  have hlocks := B.notSynchronized
  subst hsz
  have hD := hD0.self (sz := s₀.heap.size)
  generalize hAe : va_A (CS D a s) s₀.heap.size = A at hD ⊢
  have hA : ∀ q : Nat, s₀.heap.size ≤ q → A q := fun q h => by rw [← hAe]; exact Or.inr h
  have hS : va_S A s₀.heap s₀.heap [] := va_S.rf
  have hDD : ∀ t : MS, va_D A (CS D a t) := fun t => CW_D t hD
  have hl := lv_entry ([.ref (a 0), .int (i2 p0), .int (i2 p1), .int (i2 p2)]) (n := 8) (Nat.le_of_ble_eq_true rfl)
  rw [lg_entry_eq]
  generalize (lg_sl ([.ref (a 0), .int (i2 p0), .int (i2 p1), .int (i2 p2)]) ++ List.replicate (8 - (lg_sl ([.ref (a 0), .int (i2 p0), .int (i2 p1), .int (i2 p2)])).length) Slot.unset).toArray = ls at hl ⊢
  have hl : lv_has ls 8 [(0, .ref (a 0)), (1, .int (i2 p0)), (2, .int (i2 p1)), (3, .int (i2 p2))] := hl
  unfold m_x11_total at h
  refine y_loop (pcJ := 44) (σ := Int × Int × Int × Int × Int × MS) (fun n u H locs ls => va_P D vwCl (CS D a u.2.2.2.2.2) H ∧ va_S A s₀.heap H locs ∧ lv_has ls 8 [(0, .ref (a 0)), (2, .int (i2 u.1)), (3, .int (i2 u.2.1)), (5, .int (i2 u.2.2.1)), (6, .int (i2 u.2.2.2.1)), (7, .int (i2 u.2.2.2.2.1))] ∧ m_x11_total_L44 n u.1 u.2.1 u.2.2.1 u.2.2.2.1 u.2.2.2.2.1 u.2.2.2.2.2 = some o) (fun u => []) (fun u H locs ls hI => by obtain ⟨_, _, _, h⟩ := hI; cases h) (fun n44 ih44 u H locs ls hI => ?_) (fun J44 => ?_)
  · obtain ⟨hP, hS, hl, h⟩ := hI
    obtain ⟨x1, x2, x3, x4, x5, s6⟩ := u
    have hP : va_P D vwCl (CS D a s6) H := hP
    have hl : lv_has ls 8 [(0, .ref (a 0)), (2, .int (i2 x1)), (3, .int (i2 x2)), (5, .int (i2 x3)), (6, .int (i2 x4)), (7, .int (i2 x5))] := hl
    have h : m_x11_total_b44 (m_x11_total_L44 n44) x1 x2 x3 x4 x5 s6 = some o := h
    unfold m_x11_total_b44 at h
    refine y_head (pcJ := 94) (σ := Int × Int × Int × Int × Int × MS) (fun u H locs ls => va_P D vwCl (CS D a u.2.2.2.2.2) H ∧ va_S A s₀.heap H locs ∧ lv_has ls 8 [(0, .ref (a 0)), (2, .int (i2 u.1)), (3, .int (i2 u.2.1)), (5, .int (i2 u.2.2.1)), (6, .int (i2 u.2.2.2.1)), (7, .int (i2 u.2.2.2.2.1))] ∧ m_x11_total_J94 (m_x11_total_L44 n44) u.1 u.2.1 u.2.2.1 u.2.2.2.1 u.2.2.2.2.1 u.2.2.2.2.2 = some o) (fun u => []) (fun u H locs ls hI => ?_) (fun J94 => ?_)
    · obtain ⟨hP, hS, hl, h⟩ := hI
      obtain ⟨x7, x8, x9, x10, x11, s12⟩ := u
      have hP : va_P D vwCl (CS D a s12) H := hP
      have hl : lv_has ls 8 [(0, .ref (a 0)), (2, .int (i2 x7)), (3, .int (i2 x8)), (5, .int (i2 x9)), (6, .int (i2 x10)), (7, .int (i2 x11))] := hl
      have h : m_x11_total_J94 (m_x11_total_L44 n44) x7 x8 x9 x10 x11 s12 = some o := h
      unfold m_x11_total_J94 at h
      refine lv_iinc (v := i2 (x11 + 1)) (lv' := [(7, .int (i2 (x11 + 1))), (0, .ref (a 0)), (2, .int (i2 x7)), (3, .int (i2 x8)), (5, .int (i2 x9)), (6, .int (i2 x10))]) hx hb eX11_total_88.2.2.2.2.1 hl (k := 5) rfl (i2_add x11 1) (by decide) rfl (fun ls hl => ?_)
      refine lv_goto (tgt := 44) hx hb eX11_total_88.2.2.2.2.2.1 (by decide) ?_
      exact ih44 (x7, x8, x9, x10, x11 + 1, s12) _ _ _ ⟨hP, hS, lv_sub hl [1, 2, 3, 4, 5, 0] rfl, h⟩
    refine lv_iload hx hb eX11_total_39.2.2.2.1 (lv_at hl 5 rfl) ?_
    refine lv_iload hx hb eX11_total_39.2.2.2.2.1 (lv_at hl 3 rfl) ?_
    obtain ⟨hr13, h⟩ := rg_e h
    obtain ⟨hr14, h⟩ := rg_e h
    refine lv_icmp_ge (tgt := 100) hx hb eX11_total_39.2.2.2.2.2.1 (by decide) (fun c15 => ?_) (fun c15 => ?_)
    · have h := if_t ((i2_le (x := x3) (y := x5) hr14 hr13).mp c15) h
      refine lv_iload hx hb eX11_total_88.2.2.2.2.2.2.1 (lv_at hl 4 rfl) ?_
      obtain rfl := Option.some.inj h
      exact W.iret (v := (i2 x4)) hx hb hr (fun t ht hW => ⟨⟨_, (), rfl, rfl, by rw [ht]; exact hP, va_K.moved hW.alike hK, hDD _⟩, hS.F ht⟩) hS.2.2 eX11_total_88.2.2.2.2.2.2.2
    · have h := if_f (mt (i2_le (x := x3) (y := x5) hr14 hr13).mpr c15) h
      refine lv_aload_n hx hb eX11_total_39.2.2.2.2.2.2.1 rfl (lv_at hl 0 rfl) ?_
      refine va_get (D := D) (ci := 11) (v := .ref (a 21)) (C := RX11) (T := TX11) (N := 13) hx hb ht inX11 hown hK hP 0 CW_0 rfl 5 (by decide) (ht (.fieldLink RX11 49 "CloneVolumes" "walk" "LCloneVolumes$Walk;") fl_X11_49) (fun _ h9 => h9) rfl eX11_total_39.2.2.2.2.2.2.2 ?_
      refine va_get (D := D) (ci := 10) (v := .ref (a 23)) (C := RX10) (T := TX10) (N := 4) hx hb ht inX10 hown hK hP 21 CW_21 rfl 2 (by decide) (ht (.fieldLink RX11 225 "CloneVolumes$Walk" "keys" "[I") fl_X11_225) (fun _ h9 => h9) rfl eX11_total_55.1 ?_
      refine lv_iload hx hb eX11_total_55.2.1 (lv_at hl 5 rfl) ?_
      obtain ⟨y16, ey16, iy16, h⟩ := rdI_e h
      refine ya_iald (i := x5) hx hb hK hP 23 0 CW_23 rfl (by decide) ey16 iy16 eX11_total_55.2.2.1 ?_
      refine lv_iload_n hx hb eX11_total_55.2.2.2.1 rfl (lv_at hl 1 rfl) ?_
      obtain ⟨hr17, h⟩ := rg_e h
      obtain ⟨hr18, h⟩ := rg_e h
      refine lv_icmp_lt (tgt := 94) hx hb eX11_total_55.2.2.2.2.1 (by decide) (fun c19 => ?_) (fun c19 => ?_)
      · have h := if_t ((i2_lt (x := y16) (y := x1) hr17 hr18).mp c19) h
        exact J94 (x1, x2, x3, x4, x5, s6) _ _ _ ⟨hP, hS, lv_sub hl [0, 1, 2, 3, 4, 5] rfl, h⟩
      · have h := if_f (mt (i2_lt (x := y16) (y := x1) hr17 hr18).mpr c19) h
        refine lv_aload_n hx hb eX11_total_55.2.2.2.2.2.1 rfl (lv_at hl 0 rfl) ?_
        refine va_get (D := D) (ci := 11) (v := .ref (a 21)) (C := RX11) (T := TX11) (N := 13) hx hb ht inX11 hown hK hP 0 CW_0 rfl 5 (by decide) (ht (.fieldLink RX11 49 "CloneVolumes" "walk" "LCloneVolumes$Walk;") fl_X11_49) (fun _ h9 => h9) rfl eX11_total_55.2.2.2.2.2.2.1 ?_
        refine va_get (D := D) (ci := 10) (v := .ref (a 23)) (C := RX10) (T := TX10) (N := 4) hx hb ht inX10 hown hK hP 21 CW_21 rfl 2 (by decide) (ht (.fieldLink RX11 225 "CloneVolumes$Walk" "keys" "[I") fl_X11_225) (fun _ h9 => h9) rfl eX11_total_55.2.2.2.2.2.2.2 ?_
        refine lv_iload hx hb eX11_total_72.1 (lv_at hl 5 rfl) ?_
        obtain ⟨y20, ey20, iy20, h⟩ := rdI_e h
        refine ya_iald (i := x5) hx hb hK hP 23 0 CW_23 rfl (by decide) ey20 iy20 eX11_total_72.2.1 ?_
        refine lv_iload_n hx hb eX11_total_72.2.2.1 rfl (lv_at hl 2 rfl) ?_
        obtain ⟨hr21, h⟩ := rg_e h
        obtain ⟨hr22, h⟩ := rg_e h
        refine lv_icmp_gt (tgt := 94) hx hb eX11_total_72.2.2.2.1 (by decide) (fun c23 => ?_) (fun c23 => ?_)
        · have h := if_t ((i2_lt (x := x2) (y := y20) hr22 hr21).mp c23) h
          exact J94 (x1, x2, x3, x4, x5, s6) _ _ _ ⟨hP, hS, lv_sub hl [0, 1, 2, 3, 4, 5] rfl, h⟩
        · have h := if_f (mt (i2_lt (x := x2) (y := y20) hr22 hr21).mpr c23) h
          refine lv_iload hx hb eX11_total_72.2.2.2.2.1 (lv_at hl 4 rfl) ?_
          refine lv_aload_n hx hb eX11_total_72.2.2.2.2.2.1 rfl (lv_at hl 0 rfl) ?_
          refine va_get (D := D) (ci := 11) (v := .ref (a 21)) (C := RX11) (T := TX11) (N := 13) hx hb ht inX11 hown hK hP 0 CW_0 rfl 5 (by decide) (ht (.fieldLink RX11 49 "CloneVolumes" "walk" "LCloneVolumes$Walk;") fl_X11_49) (fun _ h9 => h9) rfl eX11_total_72.2.2.2.2.2.2.1 ?_
          refine va_get (D := D) (ci := 10) (v := .ref (a 24)) (C := RX10) (T := TX10) (N := 4) hx hb ht inX10 hown hK hP 21 CW_21 rfl 3 (by decide) (ht (.fieldLink RX11 226 "CloneVolumes$Walk" "values" "[I") fl_X11_226) (fun _ h9 => h9) rfl eX11_total_72.2.2.2.2.2.2.2 ?_
          refine lv_iload hx hb eX11_total_88.1 (lv_at hl 5 rfl) ?_
          obtain ⟨y24, ey24, iy24, h⟩ := rdI_e h
          refine ya_iald (i := x5) hx hb hK hP 24 0 CW_24 rfl (by decide) ey24 iy24 eX11_total_88.2.1 ?_
          refine lv_iadd hx hb eX11_total_88.2.2.1 ?_
          refine z_topi (y := i2 (x4 + y24)) (i2_add x4 y24) ?_
          refine lv_istore (lv' := [(6, .int (i2 (x4 + y24))), (0, .ref (a 0)), (2, .int (i2 x1)), (3, .int (i2 x2)), (5, .int (i2 x3)), (7, .int (i2 x5))]) hx hb eX11_total_88.2.2.2.1 hl (by decide) rfl (fun ls hl => ?_)
          exact J94 (x1, x2, x3, x4 + y24, x5, s6) _ _ _ ⟨hP, hS, lv_sub hl [1, 2, 3, 4, 0, 5] rfl, h⟩
  refine lv_aload_n hx hb eX11_shared_51.2.2.2.2.1 rfl (lv_at hl 0 rfl) ?_
  refine va_get (D := D) (ci := 11) (v := .ref (a 49)) (C := RX11) (T := TX11) (N := 13) hx hb ht inX11 hown hK hP 0 CW_0 rfl 11 (by decide) (ht (.fieldLink RX11 79 "CloneVolumes" "forest" "LCloneVolumes$Forest;") fl_X11_79) (fun _ h9 => h9) rfl eX11_shared_51.2.2.2.2.2.1 ?_
  refine va_get (D := D) (ci := 1) (v := .ref (a 53)) (C := RX1) (T := TX1) (N := 9) hx hb ht inX1 hown hK hP 49 CW_49 rfl 0 (by decide) (ht (.fieldLink RX11 125 "CloneVolumes$Forest" "now" "LCloneVolumes$State;") fl_X11_125) (fun _ h9 => h9) rfl eX11_shared_51.2.2.2.2.2.2.1 ?_
  refine lv_astore (lv' := [(4, .ref (a 53)), (0, .ref (a 0)), (1, .int (i2 p0)), (2, .int (i2 p1)), (3, .int (i2 p2))]) hx hb eX11_shared_51.2.2.2.2.2.2.2 hl (by decide) rfl (fun ls hl => ?_)
  refine lv_aload hx hb eX11_total_9.1 (lv_at hl 0 rfl) ?_
  refine lv_iload_n hx hb eX11_total_9.2.1 rfl (lv_at hl 2 rfl) ?_
  obtain ⟨r26, hc25, h⟩ := bn_e h
  refine ycV (r0 := i2 r26) (As := [.int (i2 p0)]) (rest := []) (C := RX8) (n := 1) ⟨hx, hb, hml, hown, ht⟩ (k_x8_isVolume l D a p0 _ _ hc25) (zgV ml_X11_161 im_X8_isVolume se_X8_isVolume in_X8 co_X8_isVolume) rfl rfl (by decide +kernel) ⟨Nat.le_of_ble_eq_true rfl, Nat.le_of_ble_eq_true rfl⟩ hN hK hP hS 53 CW_53 rfl rfl rfl hl.1 rfl (Nat.le_of_ble_eq_true rfl) eX11_total_9.2.2.1 ⟨Nat.le_of_ble_eq_true rfl, Nat.le_of_ble_eq_true rfl⟩ (fun H locs hP hS => ?_)
  obtain ⟨hr27, h⟩ := rg_e h
  refine lv_if_ne (tgt := 20) hx hb eX11_total_9.2.2.2.1 (by decide) (fun c28 => ?_) (fun c28 => ?_)
  · have h := if_f (mt (i2_eq (x := r26) (y := 0) hr27 (by decide)).mpr c28) h
    refine lv_aload_n hx hb eX11_total_9.2.2.2.2.2.2.1 rfl (lv_at hl 1 rfl) ?_
    refine va_get (D := D) (ci := 11) (v := .ref (a 21)) (C := RX11) (T := TX11) (N := 13) hx hb ht inX11 hown hK hP 0 CW_0 rfl 5 (by decide) (ht (.fieldLink RX11 49 "CloneVolumes" "walk" "LCloneVolumes$Walk;") fl_X11_49) (fun _ h9 => h9) rfl eX11_total_9.2.2.2.2.2.2.2 ?_
    refine lv_aload hx hb eX11_total_24.1 (lv_at hl 0 rfl) ?_
    refine lv_aload hx hb eX11_total_24.2.1 (lv_at hl 0 rfl) ?_
    refine va_get (D := D) (ci := 8) (v := .ref (a 60)) (C := RX8) (T := TX8) (N := 11) hx hb ht inX8 hown hK hP 53 CW_53 rfl 9 (by decide) (ht (.fieldLink RX11 165 "CloneVolumes$State" "roots" "[I") fl_X11_165) (fun _ h9 => h9) rfl eX11_total_24.2.2.1 ?_
    refine lv_iload_n hx hb eX11_total_24.2.2.2.1 rfl (lv_at hl 2 rfl) ?_
    obtain ⟨y29, ey29, iy29, h⟩ := rdI_e h
    refine ya_iald (i := p0) hx hb hK hP 60 0 CW_60 rfl (by decide) ey29 iy29 eX11_total_24.2.2.2.2.1 ?_
    obtain ⟨⟨r32, s31⟩, hc30, h⟩ := bn_e h
    refine ywV (r0 := i2 r32) (As := [.ref (a 53), .int (i2 y29)]) (rest := []) (C := RX10) (n := 2) (ws' := CS D a s31) ⟨hx, hb, hml, hown, ht⟩ (k_x10_gather l D a y29 _ _ _ hc30) (zgV ml_X11_168 im_X10_gather se_X10_gather in_X10 co_X10_gather) rfl rfl (by decide +kernel) ⟨Nat.le_of_ble_eq_true rfl, Nat.le_of_ble_eq_true rfl⟩ hN hK hP (hDD _) hS hA 21 CW_21 rfl rfl rfl hl.1 rfl (Nat.le_of_ble_eq_true rfl) eX11_total_24.2.2.2.2.2.1 ⟨Nat.le_of_ble_eq_true rfl, Nat.le_of_ble_eq_true rfl⟩ (fun H locs hP hS => ?_)
    refine lv_istore (lv' := [(5, .int (i2 r32)), (4, .ref (a 53)), (0, .ref (a 0)), (1, .int (i2 p0)), (2, .int (i2 p1)), (3, .int (i2 p2))]) hx hb eX11_total_24.2.2.2.2.2.2.1 hl (by decide) rfl (fun ls hl => ?_)
    refine lv_iconst (v := 0) hx hb eX11_total_24.2.2.2.2.2.2.2 (by decide) ?_
    refine lv_istore (lv' := [(6, .int 0), (5, .int (i2 r32)), (4, .ref (a 53)), (0, .ref (a 0)), (1, .int (i2 p0)), (2, .int (i2 p1)), (3, .int (i2 p2))]) hx hb eX11_total_39.1 hl (by decide) rfl (fun ls hl => ?_)
    refine lv_iconst (v := 0) hx hb eX11_total_39.2.1 (by decide) ?_
    refine lv_istore (lv' := [(7, .int 0), (6, .int 0), (5, .int (i2 r32)), (4, .ref (a 53)), (0, .ref (a 0)), (1, .int (i2 p0)), (2, .int (i2 p1)), (3, .int (i2 p2))]) hx hb eX11_total_39.2.2.1 hl (by decide) rfl (fun ls hl => ?_)
    exact J44 FU (p1, p2, r32, 0, 0, s31) _ _ _ ⟨hP, hS, lv_sub hl [4, 6, 7, 2, 1, 0] rfl, h⟩
  · have h := if_t ((i2_eq (x := r26) (y := 0) hr27 (by decide)).mp c28) h
    refine lv_iconst (v := (-1)) hx hb eX11_total_9.2.2.2.2.1 (by decide) ?_
    obtain rfl := Option.some.inj h
    exact W.iret (v := (-1)) hx hb hr (fun t ht hW => ⟨⟨_, (), rfl, rfl, by rw [ht]; exact hP, va_K.moved hW.alike hK, hDD _⟩, hS.F ht⟩) hS.2.2 eX11_total_9.2.2.2.2.2.1
set_option maxHeartbeats 4000000 in
set_option maxRecDepth 100000 in
theorem k_x11_isKey (l : Launch) (D : va_G) (a : Nat → Nat) (p0 : Int) (s : MS) (o : Int) (h : m_x11_isKey p0 s = some o) : yRi l yX11_isKey cX11_isKey 1 (some .boolean) { frames := 0, cells := 0, slots := 0, locals := 0 } D [.int (i2 p0)] (CS D a s) (i2 o) := by
  refine Met.ofW (cc := cX11_isKey) (maxL := 1) (ret := (some .boolean)) (by decide) rfl ?_
  intro p e s₀ m args below meth c s₁ B hml hv
  obtain ⟨rfl, ⟨hP, hK⟩, hN⟩ := hv
  have hx := B.exec
  have hb := B.bytes
  have hr := B.returns
  have hts := atoms_spec (ws := wz yX11_isKey cX11_isKey 1 (some .boolean)) B.pre
  have ht : ∀ w ∈ lw_gd, w.before _ s₀ = true := fun w h => hts w (List.mem_cons_of_mem _ h)
  have hown : s₀.vm.findClass RX11 = some m.cls := findClass_of_methodNamed B.named
  have hlocks := B.notSynchronized
  have hS : va_S (fun _ => False) s₀.heap s₀.heap [] := va_S.rf
  have hl := lv_entry ([.int (i2 p0)]) (n := 1) (Nat.le_of_ble_eq_true rfl)
  rw [lg_entry_eq]
  generalize (lg_sl ([.int (i2 p0)]) ++ List.replicate (1 - (lg_sl ([.int (i2 p0)])).length) Slot.unset).toArray = ls at hl ⊢
  have hl : lv_has ls 1 [(0, .int (i2 p0))] := hl
  unfold m_x11_isKey at h
  refine y_head (pcJ := 16) (σ := Int) (fun u H locs ls => va_P D vwCl (CS D a s) H ∧ va_S (fun _ => False) s₀.heap H locs ∧ lv_has ls 1 [] ∧ m_x11_isKey_J16 s u = some o) (fun u => [.int (i2 u)]) (fun u H locs ls hI => ?_) (fun J16 => ?_)
  · obtain ⟨hP, hS, hl, h⟩ := hI
    obtain ⟨x1, rfl⟩ : ∃ z, z = u := ⟨u, rfl⟩
    have hP : va_P D vwCl (CS D a s) H := hP
    have hl : lv_has ls 1 [] := hl
    have h : m_x11_isKey_J16 s x1 = some o := h
    unfold m_x11_isKey_J16 at h
    obtain ⟨hb2, h⟩ := bo_e h
    obtain rfl := Option.some.inj h
    exact W.zret (v := (i2 x1)) hx hb hr (bo_n hb2) (fun t ht hW => ⟨⟨_, (), rfl, rfl, trivial⟩, hS.F ht⟩) hS.2.2 eX11_isKey_1.2.2.2.2.2.2.2
  refine y_head (pcJ := 15) (σ := Unit) (fun u H locs ls => va_P D vwCl (CS D a s) H ∧ va_S (fun _ => False) s₀.heap H locs ∧ lv_has ls 1 [] ∧ m_x11_isKey_J15 s u = some o) (fun u => []) (fun u H locs ls hI => ?_) (fun J15 => ?_)
  · obtain ⟨hP, hS, hl, h⟩ := hI
    skip
    have hP : va_P D vwCl (CS D a s) H := hP
    have hl : lv_has ls 1 [] := hl
    have h : m_x11_isKey_J15 s () = some o := h
    unfold m_x11_isKey_J15 at h
    refine lv_iconst (v := 0) hx hb eX11_isKey_1.2.2.2.2.2.2.1 (by decide) ?_
    exact J16 0 _ _ _ ⟨hP, hS, lv_sub hl [] rfl, h⟩
  refine lv_iload_n hx hb eX11_entry_61.2.2.2.2.2.2.2 rfl (lv_at hl 0 rfl) ?_
  obtain ⟨hr3, h⟩ := rg_e h
  refine lv_if_lt (tgt := 15) hx hb eX11_isKey_1.1 (by decide) (fun c4 => ?_) (fun c4 => ?_)
  · have h := if_t ((i2_lt (x := p0) (y := 0) hr3 (by decide)).mp c4) h
    exact J15 () _ _ _ ⟨hP, hS, lv_sub hl [] rfl, h⟩
  · have h := if_f (mt (i2_lt (x := p0) (y := 0) hr3 (by decide)).mpr c4) h
    refine lv_iload_n hx hb eX11_isKey_1.2.1 rfl (lv_at hl 0 rfl) ?_
    refine lv_sipush (v := 999) hx hb eX11_isKey_1.2.2.1 (by decide) ?_
    obtain ⟨hr5, h⟩ := rg_e h
    refine lv_icmp_gt (tgt := 15) hx hb eX11_isKey_1.2.2.2.1 (by decide) (fun c6 => ?_) (fun c6 => ?_)
    · have h := if_t ((i2_lt (x := 999) (y := p0) (by decide) hr5).mp c6) h
      exact J15 () _ _ _ ⟨hP, hS, lv_sub hl [] rfl, h⟩
    · have h := if_f (mt (i2_lt (x := 999) (y := p0) (by decide) hr5).mpr c6) h
      refine lv_iconst (v := 1) hx hb eX11_isKey_1.2.2.2.2.1 (by decide) ?_
      refine lv_goto (tgt := 16) hx hb eX11_isKey_1.2.2.2.2.2.1 (by decide) ?_
      exact J16 1 _ _ _ ⟨hP, hS, lv_sub hl [] rfl, h⟩
set_option maxHeartbeats 4000000 in
set_option maxRecDepth 100000 in
theorem k_x11_path (l : Launch) (D : va_G) (a : Nat → Nat) (p0 : Int) (p1 : Int) (p2 : Int) (s : MS) (o : Int) (h : m_x11_path p0 p1 p2 s = some o) : yRi l yX11_path cX11_path 7 (some .int) { frames := 3, cells := 0, slots := 0, locals := 180 } D [.ref (a 0), .int (i2 p0), .int (i2 p1), .int (i2 p2)] (CS D a s) (i2 o) := by
  refine Met.ofW (cc := cX11_path) (maxL := 7) (ret := (some .int)) (by decide) rfl ?_
  intro p e s₀ m args below meth c s₁ B hml hv
  obtain ⟨rfl, ⟨hP, hK⟩, hN⟩ := hv
  have hx := B.exec
  have hb := B.bytes
  have hr := B.returns
  have hts := atoms_spec (ws := wz yX11_path cX11_path 7 (some .int)) B.pre
  have ht : ∀ w ∈ lw_gd, w.before _ s₀ = true := fun w h => hts w (List.mem_cons_of_mem _ h)
  have hown : s₀.vm.findClass RX11 = some m.cls := findClass_of_methodNamed B.named
  have hlocks := B.notSynchronized
  have hS : va_S (fun _ => False) s₀.heap s₀.heap [] := va_S.rf
  have hl := lv_entry ([.ref (a 0), .int (i2 p0), .int (i2 p1), .int (i2 p2)]) (n := 7) (Nat.le_of_ble_eq_true rfl)
  rw [lg_entry_eq]
  generalize (lg_sl ([.ref (a 0), .int (i2 p0), .int (i2 p1), .int (i2 p2)]) ++ List.replicate (7 - (lg_sl ([.ref (a 0), .int (i2 p0), .int (i2 p1), .int (i2 p2)])).length) Slot.unset).toArray = ls at hl ⊢
  have hl : lv_has ls 7 [(0, .ref (a 0)), (1, .int (i2 p0)), (2, .int (i2 p1)), (3, .int (i2 p2))] := hl
  unfold m_x11_path at h
  refine y_loop (pcJ := 63) (σ := Int × Int × Int × Int) (fun n u H locs ls => va_P D vwCl (CS D a s) H ∧ va_S (fun _ => False) s₀.heap H locs ∧ lv_has ls 7 [(2, .int (i2 u.1)), (3, .int (i2 u.2.1)), (4, .ref (a 53)), (5, .int (i2 u.2.2.1)), (6, .int (i2 u.2.2.2))] ∧ m_x11_path_L63 s n u.1 u.2.1 u.2.2.1 u.2.2.2 = some o) (fun u => []) (fun u H locs ls hI => by obtain ⟨_, _, _, h⟩ := hI; cases h) (fun n63 ih63 u H locs ls hI => ?_) (fun J63 => ?_)
  · obtain ⟨hP, hS, hl, h⟩ := hI
    obtain ⟨x1, x2, x3, x4⟩ := u
    have hP : va_P D vwCl (CS D a s) H := hP
    have hl : lv_has ls 7 [(2, .int (i2 x1)), (3, .int (i2 x2)), (4, .ref (a 53)), (5, .int (i2 x3)), (6, .int (i2 x4))] := hl
    have h : m_x11_path_b63 s (m_x11_path_L63 s n63) x1 x2 x3 x4 = some o := h
    unfold m_x11_path_b63 at h
    refine lv_iload hx hb eX11_path_59.2.2.2.1 (lv_at hl 4 rfl) ?_
    refine lv_iload_n hx hb eX11_path_59.2.2.2.2.1 rfl (lv_at hl 1 rfl) ?_
    obtain ⟨hr5, h⟩ := rg_e h
    obtain ⟨hr6, h⟩ := rg_e h
    refine lv_icmp_ge (tgt := 85) hx hb eX11_path_59.2.2.2.2.2.1 (by decide) (fun c7 => ?_) (fun c7 => ?_)
    · have h := if_t ((i2_le (x := x2) (y := x4) hr6 hr5).mp c7) h
      refine lv_iload hx hb eX11_path_73.2.2.2.2.2.1 (lv_at hl 3 rfl) ?_
      obtain rfl := Option.some.inj h
      exact W.iret (v := (i2 x3)) hx hb hr (fun t ht hW => ⟨⟨_, (), rfl, rfl, trivial⟩, hS.F ht⟩) hS.2.2 eX11_path_73.2.2.2.2.2.2.1
    · have h := if_f (mt (i2_le (x := x2) (y := x4) hr6 hr5).mpr c7) h
      refine lv_aload hx hb eX11_path_59.2.2.2.2.2.2.1 (lv_at hl 2 rfl) ?_
      refine lv_iload hx hb eX11_path_59.2.2.2.2.2.2.2 (lv_at hl 3 rfl) ?_
      refine lv_iload_n hx hb eX11_path_73.1 rfl (lv_at hl 0 rfl) ?_
      obtain ⟨r9, hc8, h⟩ := bn_e h
      refine ycV (r0 := i2 r9) (As := [.int (i2 x3), .int (i2 x1)]) (rest := []) (C := RX8) (n := 2) ⟨hx, hb, hml, hown, ht⟩ (k_x8_below l D a x3 x1 _ _ hc8) (zgV ml_X11_230 im_X8_below se_X8_below in_X8 co_X8_below) rfl rfl (by decide +kernel) ⟨Nat.le_of_ble_eq_true rfl, Nat.le_of_ble_eq_true rfl⟩ hN hK hP hS 53 CW_53 rfl rfl rfl hl.1 rfl (Nat.le_of_ble_eq_true rfl) eX11_path_73.2.1 ⟨Nat.le_of_ble_eq_true rfl, Nat.le_of_ble_eq_true rfl⟩ (fun H locs hP hS => ?_)
      refine lv_istore (lv' := [(5, .int (i2 r9)), (2, .int (i2 x1)), (3, .int (i2 x2)), (4, .ref (a 53)), (6, .int (i2 x4))]) hx hb eX11_path_73.2.2.1 hl (by decide) rfl (fun ls hl => ?_)
      refine lv_iinc (v := i2 (x4 + 1)) (lv' := [(6, .int (i2 (x4 + 1))), (5, .int (i2 r9)), (2, .int (i2 x1)), (3, .int (i2 x2)), (4, .ref (a 53))]) hx hb eX11_path_73.2.2.2.1 hl (k := 4) rfl (i2_add x4 1) (by decide) rfl (fun ls hl => ?_)
      refine lv_goto (tgt := 63) hx hb eX11_path_73.2.2.2.2.1 (by decide) ?_
      exact ih63 (x1, x2, r9, x4 + 1) _ _ _ ⟨hP, hS, lv_sub hl [2, 3, 4, 1, 0] rfl, h⟩
  refine y_head (pcJ := 58) (σ := Unit) (fun u H locs ls => va_P D vwCl (CS D a s) H ∧ va_S (fun _ => False) s₀.heap H locs ∧ lv_has ls 7 [] ∧ m_x11_path_J58 s u = some o) (fun u => []) (fun u H locs ls hI => ?_) (fun J58 => ?_)
  · obtain ⟨hP, hS, hl, h⟩ := hI
    skip
    have hP : va_P D vwCl (CS D a s) H := hP
    have hl : lv_has ls 7 [] := hl
    have h : m_x11_path_J58 s () = some o := h
    unfold m_x11_path_J58 at h
    refine lv_iconst (v := (-1)) hx hb eX11_path_43.2.2.2.2.2.2.2 (by decide) ?_
    obtain rfl := Option.some.inj h
    exact W.iret (v := (-1)) hx hb hr (fun t ht hW => ⟨⟨_, (), rfl, rfl, trivial⟩, hS.F ht⟩) hS.2.2 eX11_path_59.1
  refine y_head (pcJ := 29) (σ := Unit) (fun u H locs ls => va_P D vwCl (CS D a s) H ∧ va_S (fun _ => False) s₀.heap H locs ∧ lv_has ls 7 [] ∧ m_x11_path_J29 s u = some o) (fun u => []) (fun u H locs ls hI => ?_) (fun J29 => ?_)
  · obtain ⟨hP, hS, hl, h⟩ := hI
    skip
    have hP : va_P D vwCl (CS D a s) H := hP
    have hl : lv_has ls 7 [] := hl
    have h : m_x11_path_J29 s () = some o := h
    unfold m_x11_path_J29 at h
    refine lv_iconst (v := (-1)) hx hb eX11_path_12.2.2.2.2.2.2.2 (by decide) ?_
    obtain rfl := Option.some.inj h
    exact W.iret (v := (-1)) hx hb hr (fun t ht hW => ⟨⟨_, (), rfl, rfl, trivial⟩, hS.F ht⟩) hS.2.2 eX11_path_30.1
  refine lv_aload_n hx hb eX11_key_48.2.2.1 rfl (lv_at hl 0 rfl) ?_
  refine va_get (D := D) (ci := 11) (v := .ref (a 49)) (C := RX11) (T := TX11) (N := 13) hx hb ht inX11 hown hK hP 0 CW_0 rfl 11 (by decide) (ht (.fieldLink RX11 79 "CloneVolumes" "forest" "LCloneVolumes$Forest;") fl_X11_79) (fun _ h9 => h9) rfl eX11_key_48.2.2.2.1 ?_
  refine va_get (D := D) (ci := 1) (v := .ref (a 53)) (C := RX1) (T := TX1) (N := 9) hx hb ht inX1 hown hK hP 49 CW_49 rfl 0 (by decide) (ht (.fieldLink RX11 125 "CloneVolumes$Forest" "now" "LCloneVolumes$State;") fl_X11_125) (fun _ h9 => h9) rfl eX11_key_48.2.2.2.2.1 ?_
  refine lv_astore (lv' := [(4, .ref (a 53)), (0, .ref (a 0)), (1, .int (i2 p0)), (2, .int (i2 p1)), (3, .int (i2 p2))]) hx hb eX11_key_48.2.2.2.2.2.1 hl (by decide) rfl (fun ls hl => ?_)
  refine lv_aload hx hb eX11_key_48.2.2.2.2.2.2.1 (lv_at hl 0 rfl) ?_
  refine lv_iload_n hx hb eX11_key_48.2.2.2.2.2.2.2 rfl (lv_at hl 2 rfl) ?_
  obtain ⟨r11, hc10, h⟩ := bn_e h
  refine ycV (r0 := i2 r11) (As := [.int (i2 p0)]) (rest := []) (C := RX8) (n := 1) ⟨hx, hb, hml, hown, ht⟩ (k_x8_isVolume l D a p0 _ _ hc10) (zgV ml_X11_161 im_X8_isVolume se_X8_isVolume in_X8 co_X8_isVolume) rfl rfl (by decide +kernel) ⟨Nat.le_of_ble_eq_true rfl, Nat.le_of_ble_eq_true rfl⟩ hN hK hP hS 53 CW_53 rfl rfl rfl hl.1 rfl (Nat.le_of_ble_eq_true rfl) eX11_path_12.1 ⟨Nat.le_of_ble_eq_true rfl, Nat.le_of_ble_eq_true rfl⟩ (fun H locs hP hS => ?_)
  obtain ⟨hr12, h⟩ := rg_e h
  refine lv_if_eq (tgt := 29) hx hb eX11_path_12.2.1 (by decide) (fun c13 => ?_) (fun c13 => ?_)
  · have h := if_t ((i2_eq (x := r11) (y := 0) hr12 (by decide)).mp c13) h
    exact J29 () _ _ _ ⟨hP, hS, lv_sub hl [] rfl, h⟩
  · have h := if_f (mt (i2_eq (x := r11) (y := 0) hr12 (by decide)).mpr c13) h
    refine lv_iload_n hx hb eX11_path_12.2.2.1 rfl (lv_at hl 3 rfl) ?_
    obtain ⟨r15, hc14, h⟩ := bn_e h
    refine ycS (r0 := i2 r15) (As := [.int (i2 p1)]) (rest := []) (n := 1) ⟨hx, hb, hml, hown, ht⟩ (k_x11_isKey l D a p1 _ _ hc14) (zgT ml_X11_227 st_X11_isKey in_X11 co_X11_isKey) rfl rfl (by decide +kernel) ⟨Nat.le_of_ble_eq_true rfl, Nat.le_of_ble_eq_true rfl⟩ hN hK hP hS rfl hl.1 rfl (Nat.le_of_ble_eq_true rfl) eX11_path_12.2.2.2.1 ⟨Nat.le_of_ble_eq_true rfl, Nat.le_of_ble_eq_true rfl⟩ (fun H locs hP hS => ?_)
    obtain ⟨hr16, h⟩ := rg_e h
    refine lv_if_eq (tgt := 29) hx hb eX11_path_12.2.2.2.2.1 (by decide) (fun c17 => ?_) (fun c17 => ?_)
    · have h := if_t ((i2_eq (x := r15) (y := 0) hr16 (by decide)).mp c17) h
      exact J29 () _ _ _ ⟨hP, hS, lv_sub hl [] rfl, h⟩
    · have h := if_f (mt (i2_eq (x := r15) (y := 0) hr16 (by decide)).mpr c17) h
      refine lv_iload_n hx hb eX11_path_12.2.2.2.2.2.1 rfl (lv_at hl 4 rfl) ?_
      obtain ⟨hr18, h⟩ := rg_e h
      refine lv_if_ge (tgt := 31) hx hb eX11_path_12.2.2.2.2.2.2.1 (by decide) (fun c19 => ?_) (fun c19 => ?_)
      · have h := if_t ((i2_le (x := 0) (y := p2) (by decide) hr18).mp c19) h
        refine lv_aload hx hb eX11_path_30.2.1 (lv_at hl 0 rfl) ?_
        refine va_get (D := D) (ci := 8) (v := .ref (a 60)) (C := RX8) (T := TX8) (N := 11) hx hb ht inX8 hown hK hP 53 CW_53 rfl 9 (by decide) (ht (.fieldLink RX11 165 "CloneVolumes$State" "roots" "[I") fl_X11_165) (fun _ h9 => h9) rfl eX11_path_30.2.2.1 ?_
        refine lv_iload_n hx hb eX11_path_30.2.2.2.1 rfl (lv_at hl 2 rfl) ?_
        obtain ⟨y20, ey20, iy20, h⟩ := rdI_e h
        refine ya_iald (i := p0) hx hb hK hP 60 0 CW_60 rfl (by decide) ey20 iy20 eX11_path_30.2.2.2.2.1 ?_
        refine lv_istore (lv' := [(5, .int (i2 y20)), (4, .ref (a 53)), (0, .ref (a 0)), (1, .int (i2 p0)), (2, .int (i2 p1)), (3, .int (i2 p2))]) hx hb eX11_path_30.2.2.2.2.2.1 hl (by decide) rfl (fun ls hl => ?_)
        refine lv_iload hx hb eX11_path_30.2.2.2.2.2.2.1 (lv_at hl 0 rfl) ?_
        refine lv_iconst (v := (-1)) hx hb eX11_path_30.2.2.2.2.2.2.2 (by decide) ?_
        obtain ⟨hr21, h⟩ := rg_e h
        refine lv_icmp_eq (tgt := 58) hx hb eX11_path_43.1 (by decide) (fun c22 => ?_) (fun c22 => ?_)
        · rw [show ((-1) : Int32) = i2 (-1) from by decide] at c22
          have h := if_t ((i2_eq (x := y20) (y := (-1)) hr21 (by decide)).mp c22) h
          exact J58 () _ _ _ ⟨hP, hS, lv_sub hl [] rfl, h⟩
        · rw [show ((-1) : Int32) = i2 (-1) from by decide] at c22
          have h := if_f (mt (i2_eq (x := y20) (y := (-1)) hr21 (by decide)).mpr c22) h
          refine lv_iload_n hx hb eX11_path_43.2.1 rfl (lv_at hl 5 rfl) ?_
          refine lv_aload hx hb eX11_path_43.2.2.1 (lv_at hl 1 rfl) ?_
          refine va_get (D := D) (ci := 8) (v := .ref (a 56)) (C := RX8) (T := TX8) (N := 11) hx hb ht inX8 hown hK hP 53 CW_53 rfl 5 (by decide) (ht (.fieldLink RX11 172 "CloneVolumes$State" "level" "[I") fl_X11_172) (fun _ h9 => h9) rfl eX11_path_43.2.2.2.1 ?_
          refine lv_iload hx hb eX11_path_43.2.2.2.2.1 (lv_at hl 0 rfl) ?_
          obtain ⟨y23, ey23, iy23, h⟩ := rdI_e h
          refine ya_iald (i := y20) hx hb hK hP 56 0 CW_56 rfl (by decide) ey23 iy23 eX11_path_43.2.2.2.2.2.1 ?_
          obtain ⟨hr24, h⟩ := rg_e h
          obtain ⟨hr25, h⟩ := rg_e h
          refine lv_icmp_le (tgt := 60) hx hb eX11_path_43.2.2.2.2.2.2.1 (by decide) (fun c26 => ?_) (fun c26 => ?_)
          · have h := if_t ((i2_le (x := p2) (y := y23) hr24 hr25).mp c26) h
            refine lv_iconst (v := 0) hx hb eX11_path_59.2.1 (by decide) ?_
            refine lv_istore (lv' := [(6, .int 0), (5, .int (i2 y20)), (4, .ref (a 53)), (0, .ref (a 0)), (1, .int (i2 p0)), (2, .int (i2 p1)), (3, .int (i2 p2))]) hx hb eX11_path_59.2.2.1 hl (by decide) rfl (fun ls hl => ?_)
            exact J63 FU (p1, p2, y20, 0) _ _ _ ⟨hP, hS, lv_sub hl [5, 6, 2, 1, 0] rfl, h⟩
          · have h := if_f (mt (i2_le (x := p2) (y := y23) hr24 hr25).mpr c26) h
            exact J58 () _ _ _ ⟨hP, hS, lv_sub hl [] rfl, h⟩
      · have h := if_f (mt (i2_le (x := 0) (y := p2) (by decide) hr18).mpr c19) h
        exact J29 () _ _ _ ⟨hP, hS, lv_sub hl [] rfl, h⟩
set_option maxHeartbeats 4000000 in
set_option maxRecDepth 100000 in
theorem k_x11_shared (l : Launch) (D : va_G) (a : Nat → Nat) (p0 : Int) (p1 : Int) (sz : Nat) (s : MS) (o : (Int × MS)) (h : m_x11_shared p0 p1 s = some o) : yWi l yX11_shared cX11_shared 4 (some .int) { frames := 2, cells := 0, slots := 0, locals := 120 } D sz [.ref (a 0), .int (i2 p0), .int (i2 p1)] (CS D a s) (CS D a o.2) (i2 o.1) := by
  refine Met.ofW (cc := cX11_shared) (maxL := 4) (ret := (some .int)) (by decide) rfl ?_
  intro p e s₀ m args below meth c s₁ B hml hv
  obtain ⟨rfl, ⟨hsz, hP, hK, hD0⟩, hN⟩ := hv
  have hx := B.exec
  have hb := B.bytes
  have hr := B.returns
  have hts := atoms_spec (ws := wz yX11_shared cX11_shared 4 (some .int)) B.pre
  have ht : ∀ w ∈ lw_gd, w.before _ s₀ = true := fun w h => hts w (List.mem_cons_of_mem _ h)
  have hown : s₀.vm.findClass RX11 = some m.cls := findClass_of_methodNamed B.named
  have hlocks := B.notSynchronized
  subst hsz
  have hD := hD0.self (sz := s₀.heap.size)
  generalize hAe : va_A (CS D a s) s₀.heap.size = A at hD ⊢
  have hA : ∀ q : Nat, s₀.heap.size ≤ q → A q := fun q h => by rw [← hAe]; exact Or.inr h
  have hS : va_S A s₀.heap s₀.heap [] := va_S.rf
  have hDD : ∀ t : MS, va_D A (CS D a t) := fun t => CW_D t hD
  have hl := lv_entry ([.ref (a 0), .int (i2 p0), .int (i2 p1)]) (n := 4) (Nat.le_of_ble_eq_true rfl)
  rw [lg_entry_eq]
  generalize (lg_sl ([.ref (a 0), .int (i2 p0), .int (i2 p1)]) ++ List.replicate (4 - (lg_sl ([.ref (a 0), .int (i2 p0), .int (i2 p1)])).length) Slot.unset).toArray = ls at hl ⊢
  have hl : lv_has ls 4 [(0, .ref (a 0)), (1, .int (i2 p0)), (2, .int (i2 p1))] := hl
  unfold m_x11_shared at h
  refine y_head (pcJ := 24) (σ := MS) (fun u H locs ls => va_P D vwCl (CS D a u) H ∧ va_S A s₀.heap H locs ∧ lv_has ls 4 [] ∧ m_x11_shared_J24 u = some o) (fun u => []) (fun u H locs ls hI => ?_) (fun J24 => ?_)
  · obtain ⟨hP, hS, hl, h⟩ := hI
    obtain ⟨s1, rfl⟩ : ∃ z, z = u := ⟨u, rfl⟩
    have hP : va_P D vwCl (CS D a s1) H := hP
    have hl : lv_has ls 4 [] := hl
    have h : m_x11_shared_J24 s1 = some o := h
    unfold m_x11_shared_J24 at h
    refine lv_iconst (v := (-1)) hx hb eX11_shared_9.2.2.2.2.2.2.2 (by decide) ?_
    obtain rfl := Option.some.inj h
    exact W.iret (v := (-1)) hx hb hr (fun t ht hW => ⟨⟨_, (), rfl, rfl, by rw [ht]; exact hP, va_K.moved hW.alike hK, hDD _⟩, hS.F ht⟩) hS.2.2 eX11_shared_25.1
  refine lv_aload_n hx hb eX11_read_37.2.2.2.1 rfl (lv_at hl 0 rfl) ?_
  refine va_get (D := D) (ci := 11) (v := .ref (a 49)) (C := RX11) (T := TX11) (N := 13) hx hb ht inX11 hown hK hP 0 CW_0 rfl 11 (by decide) (ht (.fieldLink RX11 79 "CloneVolumes" "forest" "LCloneVolumes$Forest;") fl_X11_79) (fun _ h9 => h9) rfl eX11_read_37.2.2.2.2.1 ?_
  refine va_get (D := D) (ci := 1) (v := .ref (a 53)) (C := RX1) (T := TX1) (N := 9) hx hb ht inX1 hown hK hP 49 CW_49 rfl 0 (by decide) (ht (.fieldLink RX11 125 "CloneVolumes$Forest" "now" "LCloneVolumes$State;") fl_X11_125) (fun _ h9 => h9) rfl eX11_read_37.2.2.2.2.2.1 ?_
  refine lv_astore_n (lv' := [(3, .ref (a 53)), (0, .ref (a 0)), (1, .int (i2 p0)), (2, .int (i2 p1))]) hx hb eX11_read_37.2.2.2.2.2.2.1 rfl hl (by decide) rfl (fun ls hl => ?_)
  refine lv_aload_n hx hb eX11_read_37.2.2.2.2.2.2.2 rfl (lv_at hl 0 rfl) ?_
  refine lv_iload_n hx hb eX11_shared_9.1 rfl (lv_at hl 2 rfl) ?_
  obtain ⟨r3, hc2, h⟩ := bn_e h
  refine ycV (r0 := i2 r3) (As := [.int (i2 p0)]) (rest := []) (C := RX8) (n := 1) ⟨hx, hb, hml, hown, ht⟩ (k_x8_isVolume l D a p0 _ _ hc2) (zgV ml_X11_161 im_X8_isVolume se_X8_isVolume in_X8 co_X8_isVolume) rfl rfl (by decide +kernel) ⟨Nat.le_of_ble_eq_true rfl, Nat.le_of_ble_eq_true rfl⟩ hN hK hP hS 53 CW_53 rfl rfl rfl hl.1 rfl (Nat.le_of_ble_eq_true rfl) eX11_shared_9.2.1 ⟨Nat.le_of_ble_eq_true rfl, Nat.le_of_ble_eq_true rfl⟩ (fun H locs hP hS => ?_)
  obtain ⟨hr4, h⟩ := rg_e h
  refine lv_if_eq (tgt := 24) hx hb eX11_shared_9.2.2.1 (by decide) (fun c5 => ?_) (fun c5 => ?_)
  · have h := if_t ((i2_eq (x := r3) (y := 0) hr4 (by decide)).mp c5) h
    exact J24 s _ _ _ ⟨hP, hS, lv_sub hl [] rfl, h⟩
  · have h := if_f (mt (i2_eq (x := r3) (y := 0) hr4 (by decide)).mpr c5) h
    refine lv_aload_n hx hb eX11_shared_9.2.2.2.1 rfl (lv_at hl 0 rfl) ?_
    refine lv_iload_n hx hb eX11_shared_9.2.2.2.2.1 rfl (lv_at hl 3 rfl) ?_
    obtain ⟨r7, hc6, h⟩ := bn_e h
    refine ycV (r0 := i2 r7) (As := [.int (i2 p1)]) (rest := []) (C := RX8) (n := 1) ⟨hx, hb, hml, hown, ht⟩ (k_x8_isVolume l D a p1 _ _ hc6) (zgV ml_X11_161 im_X8_isVolume se_X8_isVolume in_X8 co_X8_isVolume) rfl rfl (by decide +kernel) ⟨Nat.le_of_ble_eq_true rfl, Nat.le_of_ble_eq_true rfl⟩ hN hK hP hS 53 CW_53 rfl rfl rfl hl.1 rfl (Nat.le_of_ble_eq_true rfl) eX11_shared_9.2.2.2.2.2.1 ⟨Nat.le_of_ble_eq_true rfl, Nat.le_of_ble_eq_true rfl⟩ (fun H locs hP hS => ?_)
    obtain ⟨hr8, h⟩ := rg_e h
    refine lv_if_ne (tgt := 26) hx hb eX11_shared_9.2.2.2.2.2.2.1 (by decide) (fun c9 => ?_) (fun c9 => ?_)
    · have h := if_f (mt (i2_eq (x := r7) (y := 0) hr8 (by decide)).mpr c9) h
      refine lv_aload_n hx hb eX11_shared_25.2.1 rfl (lv_at hl 1 rfl) ?_
      refine va_get (D := D) (ci := 11) (v := .ref (a 21)) (C := RX11) (T := TX11) (N := 13) hx hb ht inX11 hown hK hP 0 CW_0 rfl 5 (by decide) (ht (.fieldLink RX11 49 "CloneVolumes" "walk" "LCloneVolumes$Walk;") fl_X11_49) (fun _ h9 => h9) rfl eX11_shared_25.2.2.1 ?_
      refine lv_aload_n hx hb eX11_shared_25.2.2.2.1 rfl (lv_at hl 0 rfl) ?_
      refine lv_aload_n hx hb eX11_shared_25.2.2.2.2.1 rfl (lv_at hl 0 rfl) ?_
      refine va_get (D := D) (ci := 8) (v := .ref (a 60)) (C := RX8) (T := TX8) (N := 11) hx hb ht inX8 hown hK hP 53 CW_53 rfl 9 (by decide) (ht (.fieldLink RX11 165 "CloneVolumes$State" "roots" "[I") fl_X11_165) (fun _ h9 => h9) rfl eX11_shared_25.2.2.2.2.2.1 ?_
      refine lv_iload_n hx hb eX11_shared_25.2.2.2.2.2.2.1 rfl (lv_at hl 2 rfl) ?_
      obtain ⟨y10, ey10, iy10, h⟩ := rdI_e h
      refine ya_iald (i := p0) hx hb hK hP 60 0 CW_60 rfl (by decide) ey10 iy10 eX11_shared_25.2.2.2.2.2.2.2 ?_
      obtain ⟨⟨rl13, s12⟩, hc11, h⟩ := bn_e h
      refine ywVl (r0 := i8 rl13) (As := [.ref (a 53), .int (i2 y10)]) (rest := []) (C := RX10) (n := 2) (ws' := CS D a s12) ⟨hx, hb, hml, hown, ht⟩ (k_x10_tree l D a y10 _ _ _ hc11) (zgV ml_X11_175 im_X10_tree se_X10_tree in_X10 co_X10_tree) rfl rfl (by decide +kernel) ⟨Nat.le_of_ble_eq_true rfl, Nat.le_of_ble_eq_true rfl⟩ hN hK hP (hDD _) hS hA 21 CW_21 rfl rfl rfl hl.1 rfl (Nat.le_of_ble_eq_true rfl) eX11_shared_37.1 ⟨Nat.le_of_ble_eq_true rfl, Nat.le_of_ble_eq_true rfl⟩ (fun H locs hP hS => ?_)
      refine lv_aload_n hx hb eX11_shared_37.2.1 rfl (lv_at hl 1 rfl) ?_
      refine va_get (D := D) (ci := 11) (v := .ref (a 21)) (C := RX11) (T := TX11) (N := 13) hx hb ht inX11 hown hK hP 0 CW_0 rfl 5 (by decide) (ht (.fieldLink RX11 49 "CloneVolumes" "walk" "LCloneVolumes$Walk;") fl_X11_49) (fun _ h9 => h9) rfl eX11_shared_37.2.2.1 ?_
      refine lv_aload_n hx hb eX11_shared_37.2.2.2.1 rfl (lv_at hl 0 rfl) ?_
      refine lv_aload_n hx hb eX11_shared_37.2.2.2.2.1 rfl (lv_at hl 0 rfl) ?_
      refine va_get (D := D) (ci := 8) (v := .ref (a 60)) (C := RX8) (T := TX8) (N := 11) hx hb ht inX8 hown hK hP 53 CW_53 rfl 9 (by decide) (ht (.fieldLink RX11 165 "CloneVolumes$State" "roots" "[I") fl_X11_165) (fun _ h9 => h9) rfl eX11_shared_37.2.2.2.2.2.1 ?_
      refine lv_iload_n hx hb eX11_shared_37.2.2.2.2.2.2.1 rfl (lv_at hl 3 rfl) ?_
      obtain ⟨y14, ey14, iy14, h⟩ := rdI_e h
      refine ya_iald (i := p1) hx hb hK hP 60 0 CW_60 rfl (by decide) ey14 iy14 eX11_shared_37.2.2.2.2.2.2.2 ?_
      obtain ⟨⟨rl17, s16⟩, hc15, h⟩ := bn_e h
      refine ywVl (r0 := i8 rl17) (As := [.ref (a 53), .int (i2 y14)]) (rest := [.long (i8 rl13)]) (C := RX10) (n := 2) (ws' := CS D a s16) ⟨hx, hb, hml, hown, ht⟩ (k_x10_tree l D a y14 _ _ _ hc15) (zgV ml_X11_175 im_X10_tree se_X10_tree in_X10 co_X10_tree) rfl rfl (by decide +kernel) ⟨Nat.le_of_ble_eq_true rfl, Nat.le_of_ble_eq_true rfl⟩ hN hK hP (hDD _) hS hA 21 CW_21 rfl rfl rfl hl.1 rfl (Nat.le_of_ble_eq_true rfl) eX11_shared_51.1 ⟨Nat.le_of_ble_eq_true rfl, Nat.le_of_ble_eq_true rfl⟩ (fun H locs hP hS => ?_)
      refine lv_land hx hb eX11_shared_51.2.1 ?_
      refine z_topl (y := i8 (andL rl13 rl17)) (i8_of (i8 rl13 &&& i8 rl17)).symm ?_
      obtain ⟨r19, hc18, h⟩ := bn_e h
      refine ycS (r0 := i2 r19) (As := [.long (i8 (andL rl13 rl17))]) (rest := []) (n := 1) ⟨hx, hb, hml, hown, ht⟩ (k_j13_bitCount_95d88 l D a (andL rl13 rl17) _ _ hc18) (zgT ml_X11_179 st_J13_bitCount_95d88 in_J13 co_J13_bitCount_95d88) rfl rfl (by decide +kernel) ⟨Nat.le_of_ble_eq_true rfl, Nat.le_of_ble_eq_true rfl⟩ hN hK hP hS rfl hl.1 rfl (Nat.le_of_ble_eq_true rfl) eX11_shared_51.2.2.1 ⟨Nat.le_of_ble_eq_true rfl, Nat.le_of_ble_eq_true rfl⟩ (fun H locs hP hS => ?_)
      obtain rfl := Option.some.inj h
      exact W.iret (v := (i2 r19)) hx hb hr (fun t ht hW => ⟨⟨_, (), rfl, rfl, by rw [ht]; exact hP, va_K.moved hW.alike hK, hDD _⟩, hS.F ht⟩) hS.2.2 eX11_shared_51.2.2.2.1
    · have h := if_t ((i2_eq (x := r7) (y := 0) hr8 (by decide)).mp c9) h
      exact J24 s _ _ _ ⟨hP, hS, lv_sub hl [] rfl, h⟩
