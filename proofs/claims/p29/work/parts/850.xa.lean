abbrev cL_law : ByteArray := code
theorem co_X11_block : Cond.code yX11_block cX11_block 4 (some .int) ∈ lw_gd := zm (lw_g_4 (List.mem_of_getElem? (i := 221) (by decide +kernel))) rfl
theorem co_X11_differs : Cond.code yX11_differs cX11_differs 5 (some .int) ∈ lw_gd := zm (lw_g_5 (List.mem_of_getElem? (i := 39) (by decide +kernel))) rfl
theorem co_X11_end : Cond.code yX11_end cX11_end 2 (some .boolean) ∈ lw_gd := zm (lw_g_3 (List.mem_of_getElem? (i := 82) (by decide +kernel))) rfl
theorem co_X11_entry : Cond.code yX11_entry cX11_entry 6 (some .int) ∈ lw_gd := zm (lw_g_5 (List.mem_of_getElem? (i := 0) (by decide +kernel))) rfl
theorem co_X11_fault : Cond.code yX11_fault cX11_fault 2 (some .int) ∈ lw_gd := zm (lw_g_4 (List.mem_of_getElem? (i := 157) (by decide +kernel))) rfl
theorem co_X11_feed : Cond.code yX11_feed cX11_feed 6 (some .int) ∈ lw_gd := zm (lw_g_3 (List.mem_of_getElem? (i := 66) (by decide +kernel))) rfl
theorem co_X11_has : Cond.code yX11_has cX11_has 3 (some .int) ∈ lw_gd := zm (lw_g_4 (List.mem_of_getElem? (i := 161) (by decide +kernel))) rfl
theorem co_X11_kept : Cond.code yX11_kept cX11_kept 3 (some .int) ∈ lw_gd := zm (lw_g_5 (List.mem_of_getElem? (i := 5) (by decide +kernel))) rfl
theorem co_X11_key : Cond.code yX11_key cX11_key 4 (some .int) ∈ lw_gd := zm (lw_g_5 (List.mem_of_getElem? (i := 19) (by decide +kernel))) rfl
theorem co_X11_letter : Cond.code yX11_letter cX11_letter 3 (some .int) ∈ lw_gd := zm (lw_g_4 (List.mem_of_getElem? (i := 192) (by decide +kernel))) rfl
theorem co_X11_lost : Cond.code yX11_lost cX11_lost 2 (some .int) ∈ lw_gd := zm (lw_g_5 (List.mem_of_getElem? (i := 93) (by decide +kernel))) rfl
theorem co_X11_path : Cond.code yX11_path cX11_path 7 (some .int) ∈ lw_gd := zm (lw_g_5 (List.mem_of_getElem? (i := 27) (by decide +kernel))) rfl
theorem co_X11_read : Cond.code yX11_read cX11_read 3 (some .int) ∈ lw_gd := zm (lw_g_5 (List.mem_of_getElem? (i := 14) (by decide +kernel))) rfl
theorem co_X11_shared : Cond.code yX11_shared cX11_shared 4 (some .int) ∈ lw_gd := zm (lw_g_5 (List.mem_of_getElem? (i := 35) (by decide +kernel))) rfl
theorem co_X11_spread : Cond.code yX11_spread cX11_spread 5 (some .int) ∈ lw_gd := zm (lw_g_5 (List.mem_of_getElem? (i := 89) (by decide +kernel))) rfl
theorem co_X11_store : Cond.code yX11_store cX11_store 3 (some .int) ∈ lw_gd := zm (lw_g_3 (List.mem_of_getElem? (i := 86) (by decide +kernel))) rfl
theorem co_X11_total : Cond.code yX11_total cX11_total 8 (some .int) ∈ lw_gd := zm (lw_g_5 (List.mem_of_getElem? (i := 23) (by decide +kernel))) rfl
theorem co_X11_volume : Cond.code yX11_volume cX11_volume 5 (some .int) ∈ lw_gd := zm (lw_g_4 (List.mem_of_getElem? (i := 196) (by decide +kernel))) rfl
theorem co_X11_worst : Cond.code yX11_worst cX11_worst 6 (some .int) ∈ lw_gd := zm (lw_g_5 (List.mem_of_getElem? (i := 105) (by decide +kernel))) rfl
theorem co_X11_writes : Cond.code yX11_writes cX11_writes 4 (some .int) ∈ lw_gd := zm (lw_g_5 (List.mem_of_getElem? (i := 48) (by decide +kernel))) rfl
theorem co_X12_block : Cond.code yX12_block cX12_block 3 (some .int) ∈ lw_gd := zm (lw_g_9 (List.mem_of_getElem? (i := 190) (by decide +kernel))) rfl
theorem co_X12_differs : Cond.code yX12_differs cX12_differs 4 (some .int) ∈ lw_gd := zm (lw_g_9 (List.mem_of_getElem? (i := 228) (by decide +kernel))) rfl
theorem co_X12_end : Cond.code yX12_end cX12_end 2 (some .boolean) ∈ lw_gd := zm (lw_g_8 (List.mem_of_getElem? (i := 18) (by decide +kernel))) rfl
theorem co_X12_entry : Cond.code yX12_entry cX12_entry 4 (some .int) ∈ lw_gd := zm (lw_g_9 (List.mem_of_getElem? (i := 198) (by decide +kernel))) rfl
theorem co_X12_fault : Cond.code yX12_fault cX12_fault 2 (some .int) ∈ lw_gd := zm (lw_g_9 (List.mem_of_getElem? (i := 120) (by decide +kernel))) rfl
theorem co_X12_feed : Cond.code yX12_feed cX12_feed 8 (some .int) ∈ lw_gd := zm (lw_g_8 (List.mem_of_getElem? (i := 14) (by decide +kernel))) rfl
theorem co_X12_has : Cond.code yX12_has cX12_has 2 (some .int) ∈ lw_gd := zm (lw_g_9 (List.mem_of_getElem? (i := 124) (by decide +kernel))) rfl
theorem co_X12_kept : Cond.code yX12_kept cX12_kept 3 (some .int) ∈ lw_gd := zm (lw_g_9 (List.mem_of_getElem? (i := 202) (by decide +kernel))) rfl
theorem co_X12_key : Cond.code yX12_key cX12_key 3 (some .int) ∈ lw_gd := zm (lw_g_9 (List.mem_of_getElem? (i := 211) (by decide +kernel))) rfl
theorem co_X12_letter : Cond.code yX12_letter cX12_letter 8 (some .int) ∈ lw_gd := zm (lw_g_9 (List.mem_of_getElem? (i := 153) (by decide +kernel))) rfl
theorem co_X12_lost : Cond.code yX12_lost cX12_lost 2 (some .int) ∈ lw_gd := zm (lw_g_10 (List.mem_of_getElem? (i := 24) (by decide +kernel))) rfl
theorem co_X12_path : Cond.code yX12_path cX12_path 6 (some .int) ∈ lw_gd := zm (lw_g_9 (List.mem_of_getElem? (i := 219) (by decide +kernel))) rfl
theorem co_X12_read : Cond.code yX12_read cX12_read 3 (some .int) ∈ lw_gd := zm (lw_g_9 (List.mem_of_getElem? (i := 207) (by decide +kernel))) rfl
theorem co_X12_shared : Cond.code yX12_shared cX12_shared 5 (some .int) ∈ lw_gd := zm (lw_g_9 (List.mem_of_getElem? (i := 224) (by decide +kernel))) rfl
theorem co_X12_spread : Cond.code yX12_spread cX12_spread 5 (some .int) ∈ lw_gd := zm (lw_g_10 (List.mem_of_getElem? (i := 20) (by decide +kernel))) rfl
theorem co_X12_store : Cond.code yX12_store cX12_store 2 (some .int) ∈ lw_gd := zm (lw_g_8 (List.mem_of_getElem? (i := 22) (by decide +kernel))) rfl
theorem co_X12_total : Cond.code yX12_total cX12_total 6 (some .int) ∈ lw_gd := zm (lw_g_9 (List.mem_of_getElem? (i := 215) (by decide +kernel))) rfl
theorem co_X12_volume : Cond.code yX12_volume cX12_volume 4 (some .int) ∈ lw_gd := zm (lw_g_9 (List.mem_of_getElem? (i := 158) (by decide +kernel))) rfl
theorem co_X12_worst : Cond.code yX12_worst cX12_worst 4 (some .int) ∈ lw_gd := zm (lw_g_10 (List.mem_of_getElem? (i := 32) (by decide +kernel))) rfl
theorem co_X12_writes : Cond.code yX12_writes cX12_writes 4 (some .int) ∈ lw_gd := zm (lw_g_9 (List.mem_of_getElem? (i := 236) (by decide +kernel))) rfl
theorem im_X11_block : Cond.instanceMethod yX11_block ∈ lw_gd := zm (lw_g_4 (List.mem_of_getElem? (i := 219) (by decide +kernel))) rfl
theorem im_X11_differs : Cond.instanceMethod yX11_differs ∈ lw_gd := zm (lw_g_5 (List.mem_of_getElem? (i := 37) (by decide +kernel))) rfl
theorem im_X11_end : Cond.instanceMethod yX11_end ∈ lw_gd := zm (lw_g_3 (List.mem_of_getElem? (i := 80) (by decide +kernel))) rfl
theorem im_X11_entry : Cond.instanceMethod yX11_entry ∈ lw_gd := zm (lw_g_4 (List.mem_of_getElem? (i := 238) (by decide +kernel))) rfl
theorem im_X11_fault : Cond.instanceMethod yX11_fault ∈ lw_gd := zm (lw_g_4 (List.mem_of_getElem? (i := 155) (by decide +kernel))) rfl
theorem im_X11_feed : Cond.instanceMethod yX11_feed ∈ lw_gd := zm (lw_g_3 (List.mem_of_getElem? (i := 64) (by decide +kernel))) rfl
theorem im_X11_has : Cond.instanceMethod yX11_has ∈ lw_gd := zm (lw_g_4 (List.mem_of_getElem? (i := 159) (by decide +kernel))) rfl
theorem im_X11_kept : Cond.instanceMethod yX11_kept ∈ lw_gd := zm (lw_g_5 (List.mem_of_getElem? (i := 3) (by decide +kernel))) rfl
theorem im_X11_key : Cond.instanceMethod yX11_key ∈ lw_gd := zm (lw_g_5 (List.mem_of_getElem? (i := 17) (by decide +kernel))) rfl
theorem im_X11_letter : Cond.instanceMethod yX11_letter ∈ lw_gd := zm (lw_g_4 (List.mem_of_getElem? (i := 190) (by decide +kernel))) rfl
theorem im_X11_lost : Cond.instanceMethod yX11_lost ∈ lw_gd := zm (lw_g_5 (List.mem_of_getElem? (i := 91) (by decide +kernel))) rfl
theorem im_X11_path : Cond.instanceMethod yX11_path ∈ lw_gd := zm (lw_g_5 (List.mem_of_getElem? (i := 25) (by decide +kernel))) rfl
theorem im_X11_read : Cond.instanceMethod yX11_read ∈ lw_gd := zm (lw_g_5 (List.mem_of_getElem? (i := 12) (by decide +kernel))) rfl
theorem im_X11_shared : Cond.instanceMethod yX11_shared ∈ lw_gd := zm (lw_g_5 (List.mem_of_getElem? (i := 33) (by decide +kernel))) rfl
theorem im_X11_spread : Cond.instanceMethod yX11_spread ∈ lw_gd := zm (lw_g_5 (List.mem_of_getElem? (i := 87) (by decide +kernel))) rfl
theorem im_X11_store : Cond.instanceMethod yX11_store ∈ lw_gd := zm (lw_g_3 (List.mem_of_getElem? (i := 84) (by decide +kernel))) rfl
theorem im_X11_total : Cond.instanceMethod yX11_total ∈ lw_gd := zm (lw_g_5 (List.mem_of_getElem? (i := 21) (by decide +kernel))) rfl
theorem im_X11_volume : Cond.instanceMethod yX11_volume ∈ lw_gd := zm (lw_g_4 (List.mem_of_getElem? (i := 194) (by decide +kernel))) rfl
theorem im_X11_worst : Cond.instanceMethod yX11_worst ∈ lw_gd := zm (lw_g_5 (List.mem_of_getElem? (i := 103) (by decide +kernel))) rfl
theorem im_X11_writes : Cond.instanceMethod yX11_writes ∈ lw_gd := zm (lw_g_5 (List.mem_of_getElem? (i := 46) (by decide +kernel))) rfl
theorem im_X12_block : Cond.instanceMethod yX12_block ∈ lw_gd := zm (lw_g_9 (List.mem_of_getElem? (i := 188) (by decide +kernel))) rfl
theorem im_X12_differs : Cond.instanceMethod yX12_differs ∈ lw_gd := zm (lw_g_9 (List.mem_of_getElem? (i := 226) (by decide +kernel))) rfl
theorem im_X12_end : Cond.instanceMethod yX12_end ∈ lw_gd := zm (lw_g_8 (List.mem_of_getElem? (i := 16) (by decide +kernel))) rfl
theorem im_X12_entry : Cond.instanceMethod yX12_entry ∈ lw_gd := zm (lw_g_9 (List.mem_of_getElem? (i := 196) (by decide +kernel))) rfl
theorem im_X12_fault : Cond.instanceMethod yX12_fault ∈ lw_gd := zm (lw_g_9 (List.mem_of_getElem? (i := 118) (by decide +kernel))) rfl
theorem im_X12_feed : Cond.instanceMethod yX12_feed ∈ lw_gd := zm (lw_g_8 (List.mem_of_getElem? (i := 12) (by decide +kernel))) rfl
theorem im_X12_has : Cond.instanceMethod yX12_has ∈ lw_gd := zm (lw_g_9 (List.mem_of_getElem? (i := 122) (by decide +kernel))) rfl
theorem im_X12_kept : Cond.instanceMethod yX12_kept ∈ lw_gd := zm (lw_g_9 (List.mem_of_getElem? (i := 200) (by decide +kernel))) rfl
theorem im_X12_key : Cond.instanceMethod yX12_key ∈ lw_gd := zm (lw_g_9 (List.mem_of_getElem? (i := 209) (by decide +kernel))) rfl
theorem im_X12_letter : Cond.instanceMethod yX12_letter ∈ lw_gd := zm (lw_g_9 (List.mem_of_getElem? (i := 151) (by decide +kernel))) rfl
theorem im_X12_lost : Cond.instanceMethod yX12_lost ∈ lw_gd := zm (lw_g_10 (List.mem_of_getElem? (i := 22) (by decide +kernel))) rfl
theorem im_X12_path : Cond.instanceMethod yX12_path ∈ lw_gd := zm (lw_g_9 (List.mem_of_getElem? (i := 217) (by decide +kernel))) rfl
theorem im_X12_read : Cond.instanceMethod yX12_read ∈ lw_gd := zm (lw_g_9 (List.mem_of_getElem? (i := 205) (by decide +kernel))) rfl
theorem im_X12_shared : Cond.instanceMethod yX12_shared ∈ lw_gd := zm (lw_g_9 (List.mem_of_getElem? (i := 222) (by decide +kernel))) rfl
theorem im_X12_spread : Cond.instanceMethod yX12_spread ∈ lw_gd := zm (lw_g_10 (List.mem_of_getElem? (i := 18) (by decide +kernel))) rfl
theorem im_X12_store : Cond.instanceMethod yX12_store ∈ lw_gd := zm (lw_g_8 (List.mem_of_getElem? (i := 20) (by decide +kernel))) rfl
theorem im_X12_total : Cond.instanceMethod yX12_total ∈ lw_gd := zm (lw_g_9 (List.mem_of_getElem? (i := 213) (by decide +kernel))) rfl
theorem im_X12_volume : Cond.instanceMethod yX12_volume ∈ lw_gd := zm (lw_g_9 (List.mem_of_getElem? (i := 156) (by decide +kernel))) rfl
theorem im_X12_worst : Cond.instanceMethod yX12_worst ∈ lw_gd := zm (lw_g_10 (List.mem_of_getElem? (i := 30) (by decide +kernel))) rfl
theorem im_X12_writes : Cond.instanceMethod yX12_writes ∈ lw_gd := zm (lw_g_9 (List.mem_of_getElem? (i := 234) (by decide +kernel))) rfl
theorem ml_L_13 : Cond.methodLink RL 13 yX11_feed ∈ lw_gd := zm (lw_g_3 (List.mem_of_getElem? (i := 63) (by decide +kernel))) rfl
theorem ml_L_17 : Cond.methodLink RL 17 yX12_feed ∈ lw_gd := zm (lw_g_8 (List.mem_of_getElem? (i := 11) (by decide +kernel))) rfl
theorem ml_L_18 : Cond.methodLink RL 18 yX11_end ∈ lw_gd := zm (lw_g_3 (List.mem_of_getElem? (i := 79) (by decide +kernel))) rfl
theorem ml_L_22 : Cond.methodLink RL 22 yX12_end ∈ lw_gd := zm (lw_g_8 (List.mem_of_getElem? (i := 15) (by decide +kernel))) rfl
theorem ml_L_23 : Cond.methodLink RL 23 yX11_store ∈ lw_gd := zm (lw_g_3 (List.mem_of_getElem? (i := 83) (by decide +kernel))) rfl
theorem ml_L_27 : Cond.methodLink RL 27 yX12_store ∈ lw_gd := zm (lw_g_8 (List.mem_of_getElem? (i := 19) (by decide +kernel))) rfl
theorem ml_L_28 : Cond.methodLink RL 28 yX11_fault ∈ lw_gd := zm (lw_g_4 (List.mem_of_getElem? (i := 154) (by decide +kernel))) rfl
theorem ml_L_32 : Cond.methodLink RL 32 yX12_fault ∈ lw_gd := zm (lw_g_9 (List.mem_of_getElem? (i := 117) (by decide +kernel))) rfl
theorem ml_L_33 : Cond.methodLink RL 33 yX11_has ∈ lw_gd := zm (lw_g_4 (List.mem_of_getElem? (i := 158) (by decide +kernel))) rfl
theorem ml_L_36 : Cond.methodLink RL 36 yX12_has ∈ lw_gd := zm (lw_g_9 (List.mem_of_getElem? (i := 121) (by decide +kernel))) rfl
theorem ml_L_37 : Cond.methodLink RL 37 yX11_letter ∈ lw_gd := zm (lw_g_4 (List.mem_of_getElem? (i := 189) (by decide +kernel))) rfl
theorem ml_L_41 : Cond.methodLink RL 41 yX12_letter ∈ lw_gd := zm (lw_g_9 (List.mem_of_getElem? (i := 150) (by decide +kernel))) rfl
theorem ml_L_42 : Cond.methodLink RL 42 yX11_volume ∈ lw_gd := zm (lw_g_4 (List.mem_of_getElem? (i := 193) (by decide +kernel))) rfl
theorem ml_L_45 : Cond.methodLink RL 45 yX12_volume ∈ lw_gd := zm (lw_g_9 (List.mem_of_getElem? (i := 155) (by decide +kernel))) rfl
theorem ml_L_46 : Cond.methodLink RL 46 yX11_block ∈ lw_gd := zm (lw_g_4 (List.mem_of_getElem? (i := 218) (by decide +kernel))) rfl
theorem ml_L_49 : Cond.methodLink RL 49 yX12_block ∈ lw_gd := zm (lw_g_9 (List.mem_of_getElem? (i := 187) (by decide +kernel))) rfl
theorem ml_L_50 : Cond.methodLink RL 50 yX11_entry ∈ lw_gd := zm (lw_g_4 (List.mem_of_getElem? (i := 237) (by decide +kernel))) rfl
theorem ml_L_54 : Cond.methodLink RL 54 yX12_entry ∈ lw_gd := zm (lw_g_9 (List.mem_of_getElem? (i := 195) (by decide +kernel))) rfl
theorem ml_L_55 : Cond.methodLink RL 55 yX11_kept ∈ lw_gd := zm (lw_g_5 (List.mem_of_getElem? (i := 2) (by decide +kernel))) rfl
theorem ml_L_58 : Cond.methodLink RL 58 yX12_kept ∈ lw_gd := zm (lw_g_9 (List.mem_of_getElem? (i := 199) (by decide +kernel))) rfl
theorem ml_L_59 : Cond.methodLink RL 59 yX11_read ∈ lw_gd := zm (lw_g_5 (List.mem_of_getElem? (i := 11) (by decide +kernel))) rfl
theorem ml_L_62 : Cond.methodLink RL 62 yX12_read ∈ lw_gd := zm (lw_g_9 (List.mem_of_getElem? (i := 204) (by decide +kernel))) rfl
theorem ml_L_63 : Cond.methodLink RL 63 yX11_key ∈ lw_gd := zm (lw_g_5 (List.mem_of_getElem? (i := 16) (by decide +kernel))) rfl
theorem ml_L_66 : Cond.methodLink RL 66 yX12_key ∈ lw_gd := zm (lw_g_9 (List.mem_of_getElem? (i := 208) (by decide +kernel))) rfl
theorem ml_L_67 : Cond.methodLink RL 67 yX11_total ∈ lw_gd := zm (lw_g_5 (List.mem_of_getElem? (i := 20) (by decide +kernel))) rfl
theorem ml_L_70 : Cond.methodLink RL 70 yX12_total ∈ lw_gd := zm (lw_g_9 (List.mem_of_getElem? (i := 212) (by decide +kernel))) rfl
theorem ml_L_71 : Cond.methodLink RL 71 yX11_path ∈ lw_gd := zm (lw_g_5 (List.mem_of_getElem? (i := 24) (by decide +kernel))) rfl
theorem ml_L_74 : Cond.methodLink RL 74 yX12_path ∈ lw_gd := zm (lw_g_9 (List.mem_of_getElem? (i := 216) (by decide +kernel))) rfl
theorem ml_L_75 : Cond.methodLink RL 75 yX11_shared ∈ lw_gd := zm (lw_g_5 (List.mem_of_getElem? (i := 32) (by decide +kernel))) rfl
theorem ml_L_78 : Cond.methodLink RL 78 yX12_shared ∈ lw_gd := zm (lw_g_9 (List.mem_of_getElem? (i := 221) (by decide +kernel))) rfl
theorem ml_L_79 : Cond.methodLink RL 79 yX11_differs ∈ lw_gd := zm (lw_g_5 (List.mem_of_getElem? (i := 36) (by decide +kernel))) rfl
theorem ml_L_82 : Cond.methodLink RL 82 yX12_differs ∈ lw_gd := zm (lw_g_9 (List.mem_of_getElem? (i := 225) (by decide +kernel))) rfl
theorem ml_L_83 : Cond.methodLink RL 83 yX11_writes ∈ lw_gd := zm (lw_g_5 (List.mem_of_getElem? (i := 45) (by decide +kernel))) rfl
theorem ml_L_86 : Cond.methodLink RL 86 yX12_writes ∈ lw_gd := zm (lw_g_9 (List.mem_of_getElem? (i := 233) (by decide +kernel))) rfl
theorem ml_L_87 : Cond.methodLink RL 87 yX11_spread ∈ lw_gd := zm (lw_g_5 (List.mem_of_getElem? (i := 86) (by decide +kernel))) rfl
theorem ml_L_90 : Cond.methodLink RL 90 yX12_spread ∈ lw_gd := zm (lw_g_10 (List.mem_of_getElem? (i := 17) (by decide +kernel))) rfl
theorem ml_L_91 : Cond.methodLink RL 91 yX11_lost ∈ lw_gd := zm (lw_g_5 (List.mem_of_getElem? (i := 90) (by decide +kernel))) rfl
theorem ml_L_94 : Cond.methodLink RL 94 yX12_lost ∈ lw_gd := zm (lw_g_10 (List.mem_of_getElem? (i := 21) (by decide +kernel))) rfl
theorem ml_L_95 : Cond.methodLink RL 95 yX11_worst ∈ lw_gd := zm (lw_g_5 (List.mem_of_getElem? (i := 102) (by decide +kernel))) rfl
theorem ml_L_98 : Cond.methodLink RL 98 yX12_worst ∈ lw_gd := zm (lw_g_10 (List.mem_of_getElem? (i := 29) (by decide +kernel))) rfl
theorem se_X11_block : Cond.selects RX11 yX11_block yX11_block ∈ lw_gd := zm (lw_g_4 (List.mem_of_getElem? (i := 220) (by decide +kernel))) rfl
theorem se_X11_differs : Cond.selects RX11 yX11_differs yX11_differs ∈ lw_gd := zm (lw_g_5 (List.mem_of_getElem? (i := 38) (by decide +kernel))) rfl
theorem se_X11_end : Cond.selects RX11 yX11_end yX11_end ∈ lw_gd := zm (lw_g_3 (List.mem_of_getElem? (i := 81) (by decide +kernel))) rfl
theorem se_X11_entry : Cond.selects RX11 yX11_entry yX11_entry ∈ lw_gd := zm (lw_g_4 (List.mem_of_getElem? (i := 239) (by decide +kernel))) rfl
theorem se_X11_fault : Cond.selects RX11 yX11_fault yX11_fault ∈ lw_gd := zm (lw_g_4 (List.mem_of_getElem? (i := 156) (by decide +kernel))) rfl
theorem se_X11_feed : Cond.selects RX11 yX11_feed yX11_feed ∈ lw_gd := zm (lw_g_3 (List.mem_of_getElem? (i := 65) (by decide +kernel))) rfl
theorem se_X11_has : Cond.selects RX11 yX11_has yX11_has ∈ lw_gd := zm (lw_g_4 (List.mem_of_getElem? (i := 160) (by decide +kernel))) rfl
theorem se_X11_kept : Cond.selects RX11 yX11_kept yX11_kept ∈ lw_gd := zm (lw_g_5 (List.mem_of_getElem? (i := 4) (by decide +kernel))) rfl
theorem se_X11_key : Cond.selects RX11 yX11_key yX11_key ∈ lw_gd := zm (lw_g_5 (List.mem_of_getElem? (i := 18) (by decide +kernel))) rfl
theorem se_X11_letter : Cond.selects RX11 yX11_letter yX11_letter ∈ lw_gd := zm (lw_g_4 (List.mem_of_getElem? (i := 191) (by decide +kernel))) rfl
theorem se_X11_lost : Cond.selects RX11 yX11_lost yX11_lost ∈ lw_gd := zm (lw_g_5 (List.mem_of_getElem? (i := 92) (by decide +kernel))) rfl
theorem se_X11_path : Cond.selects RX11 yX11_path yX11_path ∈ lw_gd := zm (lw_g_5 (List.mem_of_getElem? (i := 26) (by decide +kernel))) rfl
theorem se_X11_read : Cond.selects RX11 yX11_read yX11_read ∈ lw_gd := zm (lw_g_5 (List.mem_of_getElem? (i := 13) (by decide +kernel))) rfl
theorem se_X11_shared : Cond.selects RX11 yX11_shared yX11_shared ∈ lw_gd := zm (lw_g_5 (List.mem_of_getElem? (i := 34) (by decide +kernel))) rfl
theorem se_X11_spread : Cond.selects RX11 yX11_spread yX11_spread ∈ lw_gd := zm (lw_g_5 (List.mem_of_getElem? (i := 88) (by decide +kernel))) rfl
theorem se_X11_store : Cond.selects RX11 yX11_store yX11_store ∈ lw_gd := zm (lw_g_3 (List.mem_of_getElem? (i := 85) (by decide +kernel))) rfl
theorem se_X11_total : Cond.selects RX11 yX11_total yX11_total ∈ lw_gd := zm (lw_g_5 (List.mem_of_getElem? (i := 22) (by decide +kernel))) rfl
theorem se_X11_volume : Cond.selects RX11 yX11_volume yX11_volume ∈ lw_gd := zm (lw_g_4 (List.mem_of_getElem? (i := 195) (by decide +kernel))) rfl
theorem se_X11_worst : Cond.selects RX11 yX11_worst yX11_worst ∈ lw_gd := zm (lw_g_5 (List.mem_of_getElem? (i := 104) (by decide +kernel))) rfl
theorem se_X11_writes : Cond.selects RX11 yX11_writes yX11_writes ∈ lw_gd := zm (lw_g_5 (List.mem_of_getElem? (i := 47) (by decide +kernel))) rfl
theorem se_X12_block : Cond.selects RX12 yX12_block yX12_block ∈ lw_gd := zm (lw_g_9 (List.mem_of_getElem? (i := 189) (by decide +kernel))) rfl
theorem se_X12_differs : Cond.selects RX12 yX12_differs yX12_differs ∈ lw_gd := zm (lw_g_9 (List.mem_of_getElem? (i := 227) (by decide +kernel))) rfl
theorem se_X12_end : Cond.selects RX12 yX12_end yX12_end ∈ lw_gd := zm (lw_g_8 (List.mem_of_getElem? (i := 17) (by decide +kernel))) rfl
theorem se_X12_entry : Cond.selects RX12 yX12_entry yX12_entry ∈ lw_gd := zm (lw_g_9 (List.mem_of_getElem? (i := 197) (by decide +kernel))) rfl
theorem se_X12_fault : Cond.selects RX12 yX12_fault yX12_fault ∈ lw_gd := zm (lw_g_9 (List.mem_of_getElem? (i := 119) (by decide +kernel))) rfl
theorem se_X12_feed : Cond.selects RX12 yX12_feed yX12_feed ∈ lw_gd := zm (lw_g_8 (List.mem_of_getElem? (i := 13) (by decide +kernel))) rfl
theorem se_X12_has : Cond.selects RX12 yX12_has yX12_has ∈ lw_gd := zm (lw_g_9 (List.mem_of_getElem? (i := 123) (by decide +kernel))) rfl
theorem se_X12_kept : Cond.selects RX12 yX12_kept yX12_kept ∈ lw_gd := zm (lw_g_9 (List.mem_of_getElem? (i := 201) (by decide +kernel))) rfl
theorem se_X12_key : Cond.selects RX12 yX12_key yX12_key ∈ lw_gd := zm (lw_g_9 (List.mem_of_getElem? (i := 210) (by decide +kernel))) rfl
theorem se_X12_letter : Cond.selects RX12 yX12_letter yX12_letter ∈ lw_gd := zm (lw_g_9 (List.mem_of_getElem? (i := 152) (by decide +kernel))) rfl
theorem se_X12_lost : Cond.selects RX12 yX12_lost yX12_lost ∈ lw_gd := zm (lw_g_10 (List.mem_of_getElem? (i := 23) (by decide +kernel))) rfl
theorem se_X12_path : Cond.selects RX12 yX12_path yX12_path ∈ lw_gd := zm (lw_g_9 (List.mem_of_getElem? (i := 218) (by decide +kernel))) rfl
theorem se_X12_read : Cond.selects RX12 yX12_read yX12_read ∈ lw_gd := zm (lw_g_9 (List.mem_of_getElem? (i := 206) (by decide +kernel))) rfl
theorem se_X12_shared : Cond.selects RX12 yX12_shared yX12_shared ∈ lw_gd := zm (lw_g_9 (List.mem_of_getElem? (i := 223) (by decide +kernel))) rfl
theorem se_X12_spread : Cond.selects RX12 yX12_spread yX12_spread ∈ lw_gd := zm (lw_g_10 (List.mem_of_getElem? (i := 19) (by decide +kernel))) rfl
theorem se_X12_store : Cond.selects RX12 yX12_store yX12_store ∈ lw_gd := zm (lw_g_8 (List.mem_of_getElem? (i := 21) (by decide +kernel))) rfl
theorem se_X12_total : Cond.selects RX12 yX12_total yX12_total ∈ lw_gd := zm (lw_g_9 (List.mem_of_getElem? (i := 214) (by decide +kernel))) rfl
theorem se_X12_volume : Cond.selects RX12 yX12_volume yX12_volume ∈ lw_gd := zm (lw_g_9 (List.mem_of_getElem? (i := 157) (by decide +kernel))) rfl
theorem se_X12_worst : Cond.selects RX12 yX12_worst yX12_worst ∈ lw_gd := zm (lw_g_10 (List.mem_of_getElem? (i := 31) (by decide +kernel))) rfl
theorem se_X12_writes : Cond.selects RX12 yX12_writes yX12_writes ∈ lw_gd := zm (lw_g_9 (List.mem_of_getElem? (i := 235) (by decide +kernel))) rfl
theorem dL_law_208 : decode cL_law 208 = .ok (.aload_n 1, 1) := by decide +kernel
theorem dL_law_209 : decode cL_law 209 = .ok (.aload_n 0, 1) := by decide +kernel
theorem dL_law_210 : decode cL_law 210 = .ok (.iload_n 3, 1) := by decide +kernel
theorem dL_law_211 : decode cL_law 211 = .ok (.iconst 1, 1) := by decide +kernel
theorem dL_law_212 : decode cL_law 212 = .ok (.iadd, 1) := by decide +kernel
theorem dL_law_213 : decode cL_law 213 = .ok (.iaload, 1) := by decide +kernel
theorem dL_law_214 : decode cL_law 214 = .ok (.aload_n 0, 1) := by decide +kernel
theorem dL_law_215 : decode cL_law 215 = .ok (.iload_n 3, 1) := by decide +kernel
theorem dL_law_216 : decode cL_law 216 = .ok (.iconst 2, 1) := by decide +kernel
theorem dL_law_217 : decode cL_law 217 = .ok (.iadd, 1) := by decide +kernel
theorem dL_law_218 : decode cL_law 218 = .ok (.iaload, 1) := by decide +kernel
theorem dL_law_219 : decode cL_law 219 = .ok (.aload_n 0, 1) := by decide +kernel
theorem dL_law_220 : decode cL_law 220 = .ok (.iload_n 3, 1) := by decide +kernel
theorem dL_law_221 : decode cL_law 221 = .ok (.iconst 3, 1) := by decide +kernel
theorem dL_law_222 : decode cL_law 222 = .ok (.iadd, 1) := by decide +kernel
theorem dL_law_223 : decode cL_law 223 = .ok (.iaload, 1) := by decide +kernel
theorem dL_law_224 : decode cL_law 224 = .ok (.aload_n 0, 1) := by decide +kernel
theorem dL_law_225 : decode cL_law 225 = .ok (.iload_n 3, 1) := by decide +kernel
theorem dL_law_226 : decode cL_law 226 = .ok (.iconst 4, 1) := by decide +kernel
theorem dL_law_227 : decode cL_law 227 = .ok (.iadd, 1) := by decide +kernel
theorem dL_law_228 : decode cL_law 228 = .ok (.iaload, 1) := by decide +kernel
theorem dL_law_229 : decode cL_law 229 = .ok (.aload_n 0, 1) := by decide +kernel
theorem dL_law_230 : decode cL_law 230 = .ok (.iload_n 3, 1) := by decide +kernel
theorem dL_law_231 : decode cL_law 231 = .ok (.iconst 5, 1) := by decide +kernel
theorem dL_law_232 : decode cL_law 232 = .ok (.iadd, 1) := by decide +kernel
theorem dL_law_233 : decode cL_law 233 = .ok (.iaload, 1) := by decide +kernel
theorem dL_law_234 : decode cL_law 234 = .ok (.invokevirtual 13, 3) := by decide +kernel
theorem dL_law_237 : decode cL_law 237 = .ok (.pop, 1) := by decide +kernel
theorem dL_law_238 : decode cL_law 238 = .ok (.aload_n 2, 1) := by decide +kernel
theorem dL_law_239 : decode cL_law 239 = .ok (.aload_n 0, 1) := by decide +kernel
theorem dL_law_240 : decode cL_law 240 = .ok (.iload_n 3, 1) := by decide +kernel
theorem dL_law_241 : decode cL_law 241 = .ok (.iconst 1, 1) := by decide +kernel
theorem dL_law_242 : decode cL_law 242 = .ok (.iadd, 1) := by decide +kernel
theorem dL_law_243 : decode cL_law 243 = .ok (.iaload, 1) := by decide +kernel
theorem dL_law_244 : decode cL_law 244 = .ok (.aload_n 0, 1) := by decide +kernel
theorem dL_law_245 : decode cL_law 245 = .ok (.iload_n 3, 1) := by decide +kernel
theorem dL_law_246 : decode cL_law 246 = .ok (.iconst 2, 1) := by decide +kernel
theorem dL_law_247 : decode cL_law 247 = .ok (.iadd, 1) := by decide +kernel
theorem dL_law_248 : decode cL_law 248 = .ok (.iaload, 1) := by decide +kernel
theorem dL_law_249 : decode cL_law 249 = .ok (.aload_n 0, 1) := by decide +kernel
theorem dL_law_250 : decode cL_law 250 = .ok (.iload_n 3, 1) := by decide +kernel
theorem dL_law_251 : decode cL_law 251 = .ok (.iconst 3, 1) := by decide +kernel
theorem dL_law_252 : decode cL_law 252 = .ok (.iadd, 1) := by decide +kernel
theorem dL_law_253 : decode cL_law 253 = .ok (.iaload, 1) := by decide +kernel
theorem dL_law_254 : decode cL_law 254 = .ok (.aload_n 0, 1) := by decide +kernel
theorem dL_law_255 : decode cL_law 255 = .ok (.iload_n 3, 1) := by decide +kernel
theorem dL_law_256 : decode cL_law 256 = .ok (.iconst 4, 1) := by decide +kernel
theorem dL_law_257 : decode cL_law 257 = .ok (.iadd, 1) := by decide +kernel
theorem dL_law_258 : decode cL_law 258 = .ok (.iaload, 1) := by decide +kernel
theorem dL_law_259 : decode cL_law 259 = .ok (.aload_n 0, 1) := by decide +kernel
theorem dL_law_260 : decode cL_law 260 = .ok (.iload_n 3, 1) := by decide +kernel
theorem dL_law_261 : decode cL_law 261 = .ok (.iconst 5, 1) := by decide +kernel
theorem dL_law_262 : decode cL_law 262 = .ok (.iadd, 1) := by decide +kernel
theorem dL_law_263 : decode cL_law 263 = .ok (.iaload, 1) := by decide +kernel
theorem dL_law_264 : decode cL_law 264 = .ok (.invokevirtual 17, 3) := by decide +kernel
theorem dL_law_267 : decode cL_law 267 = .ok (.pop, 1) := by decide +kernel
theorem dL_law_268 : decode cL_law 268 = .ok (.goto 1030, 3) := by decide +kernel
theorem dL_law_271 : decode cL_law 271 = .ok (.aload_n 1, 1) := by decide +kernel
theorem dL_law_272 : decode cL_law 272 = .ok (.aload_n 0, 1) := by decide +kernel
theorem dL_law_273 : decode cL_law 273 = .ok (.iload_n 3, 1) := by decide +kernel
theorem dL_law_274 : decode cL_law 274 = .ok (.iconst 1, 1) := by decide +kernel
theorem dL_law_275 : decode cL_law 275 = .ok (.iadd, 1) := by decide +kernel
theorem dL_law_276 : decode cL_law 276 = .ok (.iaload, 1) := by decide +kernel
theorem dL_law_277 : decode cL_law 277 = .ok (.invokevirtual 18, 3) := by decide +kernel
theorem dL_law_280 : decode cL_law 280 = .ok (.pop, 1) := by decide +kernel
theorem dL_law_281 : decode cL_law 281 = .ok (.aload_n 2, 1) := by decide +kernel
theorem dL_law_282 : decode cL_law 282 = .ok (.aload_n 0, 1) := by decide +kernel
theorem dL_law_283 : decode cL_law 283 = .ok (.iload_n 3, 1) := by decide +kernel
theorem dL_law_284 : decode cL_law 284 = .ok (.iconst 1, 1) := by decide +kernel
theorem dL_law_285 : decode cL_law 285 = .ok (.iadd, 1) := by decide +kernel
theorem dL_law_286 : decode cL_law 286 = .ok (.iaload, 1) := by decide +kernel
theorem dL_law_287 : decode cL_law 287 = .ok (.invokevirtual 22, 3) := by decide +kernel
theorem dL_law_290 : decode cL_law 290 = .ok (.pop, 1) := by decide +kernel
theorem dL_law_291 : decode cL_law 291 = .ok (.goto 1007, 3) := by decide +kernel
theorem dL_law_294 : decode cL_law 294 = .ok (.aload_n 1, 1) := by decide +kernel
theorem dL_law_295 : decode cL_law 295 = .ok (.invokevirtual 23, 3) := by decide +kernel
theorem dL_law_298 : decode cL_law 298 = .ok (.pop, 1) := by decide +kernel
theorem dL_law_299 : decode cL_law 299 = .ok (.aload_n 2, 1) := by decide +kernel
theorem dL_law_300 : decode cL_law 300 = .ok (.invokevirtual 27, 3) := by decide +kernel
theorem dL_law_303 : decode cL_law 303 = .ok (.pop, 1) := by decide +kernel
theorem dL_law_304 : decode cL_law 304 = .ok (.goto 994, 3) := by decide +kernel
theorem dL_law_307 : decode cL_law 307 = .ok (.aload_n 1, 1) := by decide +kernel
theorem dL_law_308 : decode cL_law 308 = .ok (.aload_n 0, 1) := by decide +kernel
theorem dL_law_309 : decode cL_law 309 = .ok (.iload_n 3, 1) := by decide +kernel
theorem dL_law_310 : decode cL_law 310 = .ok (.iconst 1, 1) := by decide +kernel
theorem dL_law_311 : decode cL_law 311 = .ok (.iadd, 1) := by decide +kernel
theorem dL_law_312 : decode cL_law 312 = .ok (.iaload, 1) := by decide +kernel
theorem dL_law_313 : decode cL_law 313 = .ok (.invokevirtual 28, 3) := by decide +kernel
theorem dL_law_316 : decode cL_law 316 = .ok (.pop, 1) := by decide +kernel
theorem dL_law_317 : decode cL_law 317 = .ok (.aload_n 2, 1) := by decide +kernel
theorem dL_law_318 : decode cL_law 318 = .ok (.aload_n 0, 1) := by decide +kernel
theorem dL_law_319 : decode cL_law 319 = .ok (.iload_n 3, 1) := by decide +kernel
theorem dL_law_320 : decode cL_law 320 = .ok (.iconst 1, 1) := by decide +kernel
theorem dL_law_321 : decode cL_law 321 = .ok (.iadd, 1) := by decide +kernel
theorem dL_law_322 : decode cL_law 322 = .ok (.iaload, 1) := by decide +kernel
theorem dL_law_323 : decode cL_law 323 = .ok (.invokevirtual 32, 3) := by decide +kernel
theorem dL_law_326 : decode cL_law 326 = .ok (.pop, 1) := by decide +kernel
theorem dL_law_327 : decode cL_law 327 = .ok (.goto 971, 3) := by decide +kernel
theorem dL_law_330 : decode cL_law 330 = .ok (.aload_n 1, 1) := by decide +kernel
theorem dL_law_331 : decode cL_law 331 = .ok (.aload_n 0, 1) := by decide +kernel
theorem dL_law_332 : decode cL_law 332 = .ok (.iload_n 3, 1) := by decide +kernel
theorem dL_law_333 : decode cL_law 333 = .ok (.iconst 1, 1) := by decide +kernel
theorem dL_law_334 : decode cL_law 334 = .ok (.iadd, 1) := by decide +kernel
theorem dL_law_335 : decode cL_law 335 = .ok (.iaload, 1) := by decide +kernel
theorem dL_law_336 : decode cL_law 336 = .ok (.invokevirtual 33, 3) := by decide +kernel
theorem dL_law_339 : decode cL_law 339 = .ok (.pop, 1) := by decide +kernel
theorem dL_law_340 : decode cL_law 340 = .ok (.aload_n 2, 1) := by decide +kernel
theorem dL_law_341 : decode cL_law 341 = .ok (.aload_n 0, 1) := by decide +kernel
theorem dL_law_342 : decode cL_law 342 = .ok (.iload_n 3, 1) := by decide +kernel
theorem dL_law_343 : decode cL_law 343 = .ok (.iconst 1, 1) := by decide +kernel
theorem dL_law_344 : decode cL_law 344 = .ok (.iadd, 1) := by decide +kernel
theorem dL_law_345 : decode cL_law 345 = .ok (.iaload, 1) := by decide +kernel
theorem dL_law_346 : decode cL_law 346 = .ok (.invokevirtual 36, 3) := by decide +kernel
theorem dL_law_349 : decode cL_law 349 = .ok (.pop, 1) := by decide +kernel
theorem dL_law_350 : decode cL_law 350 = .ok (.goto 948, 3) := by decide +kernel
theorem dL_law_353 : decode cL_law 353 = .ok (.aload_n 1, 1) := by decide +kernel
theorem dL_law_354 : decode cL_law 354 = .ok (.aload_n 0, 1) := by decide +kernel
theorem dL_law_355 : decode cL_law 355 = .ok (.iload_n 3, 1) := by decide +kernel
theorem dL_law_356 : decode cL_law 356 = .ok (.iconst 1, 1) := by decide +kernel
theorem dL_law_357 : decode cL_law 357 = .ok (.iadd, 1) := by decide +kernel
theorem dL_law_358 : decode cL_law 358 = .ok (.iaload, 1) := by decide +kernel
theorem dL_law_359 : decode cL_law 359 = .ok (.aload_n 0, 1) := by decide +kernel
theorem dL_law_360 : decode cL_law 360 = .ok (.iload_n 3, 1) := by decide +kernel
theorem dL_law_361 : decode cL_law 361 = .ok (.iconst 2, 1) := by decide +kernel
theorem dL_law_362 : decode cL_law 362 = .ok (.iadd, 1) := by decide +kernel
theorem dL_law_363 : decode cL_law 363 = .ok (.iaload, 1) := by decide +kernel
theorem dL_law_364 : decode cL_law 364 = .ok (.invokevirtual 37, 3) := by decide +kernel
theorem dL_law_367 : decode cL_law 367 = .ok (.pop, 1) := by decide +kernel
theorem dL_law_368 : decode cL_law 368 = .ok (.aload_n 2, 1) := by decide +kernel
theorem dL_law_369 : decode cL_law 369 = .ok (.aload_n 0, 1) := by decide +kernel
theorem dL_law_370 : decode cL_law 370 = .ok (.iload_n 3, 1) := by decide +kernel
theorem dL_law_371 : decode cL_law 371 = .ok (.iconst 1, 1) := by decide +kernel
theorem dL_law_372 : decode cL_law 372 = .ok (.iadd, 1) := by decide +kernel
theorem dL_law_373 : decode cL_law 373 = .ok (.iaload, 1) := by decide +kernel
theorem dL_law_374 : decode cL_law 374 = .ok (.aload_n 0, 1) := by decide +kernel
theorem dL_law_375 : decode cL_law 375 = .ok (.iload_n 3, 1) := by decide +kernel
theorem dL_law_376 : decode cL_law 376 = .ok (.iconst 2, 1) := by decide +kernel
theorem dL_law_377 : decode cL_law 377 = .ok (.iadd, 1) := by decide +kernel
theorem dL_law_378 : decode cL_law 378 = .ok (.iaload, 1) := by decide +kernel
theorem dL_law_379 : decode cL_law 379 = .ok (.invokevirtual 41, 3) := by decide +kernel
theorem dL_law_382 : decode cL_law 382 = .ok (.pop, 1) := by decide +kernel
theorem dL_law_383 : decode cL_law 383 = .ok (.goto 915, 3) := by decide +kernel
theorem dL_law_386 : decode cL_law 386 = .ok (.aload_n 1, 1) := by decide +kernel
theorem dL_law_387 : decode cL_law 387 = .ok (.aload_n 0, 1) := by decide +kernel
theorem dL_law_388 : decode cL_law 388 = .ok (.iload_n 3, 1) := by decide +kernel
theorem dL_law_389 : decode cL_law 389 = .ok (.iconst 1, 1) := by decide +kernel
theorem dL_law_390 : decode cL_law 390 = .ok (.iadd, 1) := by decide +kernel
theorem dL_law_391 : decode cL_law 391 = .ok (.iaload, 1) := by decide +kernel
theorem dL_law_392 : decode cL_law 392 = .ok (.aload_n 0, 1) := by decide +kernel
theorem dL_law_393 : decode cL_law 393 = .ok (.iload_n 3, 1) := by decide +kernel
theorem dL_law_394 : decode cL_law 394 = .ok (.iconst 2, 1) := by decide +kernel
theorem dL_law_395 : decode cL_law 395 = .ok (.iadd, 1) := by decide +kernel
theorem dL_law_396 : decode cL_law 396 = .ok (.iaload, 1) := by decide +kernel
theorem dL_law_397 : decode cL_law 397 = .ok (.invokevirtual 42, 3) := by decide +kernel
theorem dL_law_400 : decode cL_law 400 = .ok (.pop, 1) := by decide +kernel
theorem dL_law_401 : decode cL_law 401 = .ok (.aload_n 2, 1) := by decide +kernel
theorem dL_law_402 : decode cL_law 402 = .ok (.aload_n 0, 1) := by decide +kernel
theorem dL_law_403 : decode cL_law 403 = .ok (.iload_n 3, 1) := by decide +kernel
theorem dL_law_404 : decode cL_law 404 = .ok (.iconst 1, 1) := by decide +kernel
theorem dL_law_405 : decode cL_law 405 = .ok (.iadd, 1) := by decide +kernel
theorem dL_law_406 : decode cL_law 406 = .ok (.iaload, 1) := by decide +kernel
theorem dL_law_407 : decode cL_law 407 = .ok (.aload_n 0, 1) := by decide +kernel
theorem dL_law_408 : decode cL_law 408 = .ok (.iload_n 3, 1) := by decide +kernel
theorem dL_law_409 : decode cL_law 409 = .ok (.iconst 2, 1) := by decide +kernel
theorem dL_law_410 : decode cL_law 410 = .ok (.iadd, 1) := by decide +kernel
theorem dL_law_411 : decode cL_law 411 = .ok (.iaload, 1) := by decide +kernel
theorem dL_law_412 : decode cL_law 412 = .ok (.invokevirtual 45, 3) := by decide +kernel
theorem dL_law_415 : decode cL_law 415 = .ok (.pop, 1) := by decide +kernel
theorem dL_law_416 : decode cL_law 416 = .ok (.goto 882, 3) := by decide +kernel
theorem dL_law_419 : decode cL_law 419 = .ok (.aload_n 1, 1) := by decide +kernel
theorem dL_law_420 : decode cL_law 420 = .ok (.aload_n 0, 1) := by decide +kernel
theorem dL_law_421 : decode cL_law 421 = .ok (.iload_n 3, 1) := by decide +kernel
theorem dL_law_422 : decode cL_law 422 = .ok (.iconst 1, 1) := by decide +kernel
theorem dL_law_423 : decode cL_law 423 = .ok (.iadd, 1) := by decide +kernel
theorem dL_law_424 : decode cL_law 424 = .ok (.iaload, 1) := by decide +kernel
theorem dL_law_425 : decode cL_law 425 = .ok (.aload_n 0, 1) := by decide +kernel
theorem dL_law_426 : decode cL_law 426 = .ok (.iload_n 3, 1) := by decide +kernel
theorem dL_law_427 : decode cL_law 427 = .ok (.iconst 2, 1) := by decide +kernel
theorem dL_law_428 : decode cL_law 428 = .ok (.iadd, 1) := by decide +kernel
theorem dL_law_429 : decode cL_law 429 = .ok (.iaload, 1) := by decide +kernel
theorem dL_law_430 : decode cL_law 430 = .ok (.invokevirtual 46, 3) := by decide +kernel
theorem dL_law_433 : decode cL_law 433 = .ok (.pop, 1) := by decide +kernel
theorem dL_law_434 : decode cL_law 434 = .ok (.aload_n 2, 1) := by decide +kernel
theorem dL_law_435 : decode cL_law 435 = .ok (.aload_n 0, 1) := by decide +kernel
theorem dL_law_436 : decode cL_law 436 = .ok (.iload_n 3, 1) := by decide +kernel
theorem dL_law_437 : decode cL_law 437 = .ok (.iconst 1, 1) := by decide +kernel
theorem dL_law_438 : decode cL_law 438 = .ok (.iadd, 1) := by decide +kernel
theorem dL_law_439 : decode cL_law 439 = .ok (.iaload, 1) := by decide +kernel
theorem dL_law_440 : decode cL_law 440 = .ok (.aload_n 0, 1) := by decide +kernel
theorem dL_law_441 : decode cL_law 441 = .ok (.iload_n 3, 1) := by decide +kernel
theorem dL_law_442 : decode cL_law 442 = .ok (.iconst 2, 1) := by decide +kernel
theorem dL_law_443 : decode cL_law 443 = .ok (.iadd, 1) := by decide +kernel
theorem dL_law_444 : decode cL_law 444 = .ok (.iaload, 1) := by decide +kernel
theorem dL_law_445 : decode cL_law 445 = .ok (.invokevirtual 49, 3) := by decide +kernel
theorem dL_law_448 : decode cL_law 448 = .ok (.pop, 1) := by decide +kernel
theorem dL_law_449 : decode cL_law 449 = .ok (.goto 849, 3) := by decide +kernel
theorem dL_law_452 : decode cL_law 452 = .ok (.aload_n 1, 1) := by decide +kernel
theorem dL_law_453 : decode cL_law 453 = .ok (.aload_n 0, 1) := by decide +kernel
theorem dL_law_454 : decode cL_law 454 = .ok (.iload_n 3, 1) := by decide +kernel
theorem dL_law_455 : decode cL_law 455 = .ok (.iconst 1, 1) := by decide +kernel
theorem dL_law_456 : decode cL_law 456 = .ok (.iadd, 1) := by decide +kernel
theorem dL_law_457 : decode cL_law 457 = .ok (.iaload, 1) := by decide +kernel
theorem dL_law_458 : decode cL_law 458 = .ok (.aload_n 0, 1) := by decide +kernel
theorem dL_law_459 : decode cL_law 459 = .ok (.iload_n 3, 1) := by decide +kernel
theorem dL_law_460 : decode cL_law 460 = .ok (.iconst 2, 1) := by decide +kernel
theorem dL_law_461 : decode cL_law 461 = .ok (.iadd, 1) := by decide +kernel
theorem dL_law_462 : decode cL_law 462 = .ok (.iaload, 1) := by decide +kernel
theorem dL_law_463 : decode cL_law 463 = .ok (.aload_n 0, 1) := by decide +kernel
theorem dL_law_464 : decode cL_law 464 = .ok (.iload_n 3, 1) := by decide +kernel
theorem dL_law_465 : decode cL_law 465 = .ok (.iconst 3, 1) := by decide +kernel
theorem dL_law_466 : decode cL_law 466 = .ok (.iadd, 1) := by decide +kernel
theorem dL_law_467 : decode cL_law 467 = .ok (.iaload, 1) := by decide +kernel
theorem dL_law_468 : decode cL_law 468 = .ok (.invokevirtual 50, 3) := by decide +kernel
theorem dL_law_471 : decode cL_law 471 = .ok (.pop, 1) := by decide +kernel
theorem dL_law_472 : decode cL_law 472 = .ok (.aload_n 2, 1) := by decide +kernel
theorem dL_law_473 : decode cL_law 473 = .ok (.aload_n 0, 1) := by decide +kernel
theorem dL_law_474 : decode cL_law 474 = .ok (.iload_n 3, 1) := by decide +kernel
theorem dL_law_475 : decode cL_law 475 = .ok (.iconst 1, 1) := by decide +kernel
theorem dL_law_476 : decode cL_law 476 = .ok (.iadd, 1) := by decide +kernel
theorem dL_law_477 : decode cL_law 477 = .ok (.iaload, 1) := by decide +kernel
theorem dL_law_478 : decode cL_law 478 = .ok (.aload_n 0, 1) := by decide +kernel
theorem dL_law_479 : decode cL_law 479 = .ok (.iload_n 3, 1) := by decide +kernel
theorem dL_law_480 : decode cL_law 480 = .ok (.iconst 2, 1) := by decide +kernel
theorem dL_law_481 : decode cL_law 481 = .ok (.iadd, 1) := by decide +kernel
theorem dL_law_482 : decode cL_law 482 = .ok (.iaload, 1) := by decide +kernel
theorem dL_law_483 : decode cL_law 483 = .ok (.aload_n 0, 1) := by decide +kernel
theorem dL_law_484 : decode cL_law 484 = .ok (.iload_n 3, 1) := by decide +kernel
theorem dL_law_485 : decode cL_law 485 = .ok (.iconst 3, 1) := by decide +kernel
theorem dL_law_486 : decode cL_law 486 = .ok (.iadd, 1) := by decide +kernel
theorem dL_law_487 : decode cL_law 487 = .ok (.iaload, 1) := by decide +kernel
theorem dL_law_488 : decode cL_law 488 = .ok (.invokevirtual 54, 3) := by decide +kernel
theorem dL_law_491 : decode cL_law 491 = .ok (.pop, 1) := by decide +kernel
theorem dL_law_492 : decode cL_law 492 = .ok (.goto 806, 3) := by decide +kernel
theorem dL_law_495 : decode cL_law 495 = .ok (.aload_n 1, 1) := by decide +kernel
theorem dL_law_496 : decode cL_law 496 = .ok (.aload_n 0, 1) := by decide +kernel
theorem dL_law_497 : decode cL_law 497 = .ok (.iload_n 3, 1) := by decide +kernel
theorem dL_law_498 : decode cL_law 498 = .ok (.iconst 1, 1) := by decide +kernel
theorem dL_law_499 : decode cL_law 499 = .ok (.iadd, 1) := by decide +kernel
theorem dL_law_500 : decode cL_law 500 = .ok (.iaload, 1) := by decide +kernel
theorem dL_law_501 : decode cL_law 501 = .ok (.aload_n 0, 1) := by decide +kernel
theorem dL_law_502 : decode cL_law 502 = .ok (.iload_n 3, 1) := by decide +kernel
theorem dL_law_503 : decode cL_law 503 = .ok (.iconst 2, 1) := by decide +kernel
theorem dL_law_504 : decode cL_law 504 = .ok (.iadd, 1) := by decide +kernel
theorem dL_law_505 : decode cL_law 505 = .ok (.iaload, 1) := by decide +kernel
theorem dL_law_506 : decode cL_law 506 = .ok (.invokevirtual 55, 3) := by decide +kernel
theorem dL_law_509 : decode cL_law 509 = .ok (.pop, 1) := by decide +kernel
theorem dL_law_510 : decode cL_law 510 = .ok (.aload_n 2, 1) := by decide +kernel
theorem dL_law_511 : decode cL_law 511 = .ok (.aload_n 0, 1) := by decide +kernel
theorem dL_law_512 : decode cL_law 512 = .ok (.iload_n 3, 1) := by decide +kernel
theorem dL_law_513 : decode cL_law 513 = .ok (.iconst 1, 1) := by decide +kernel
theorem dL_law_514 : decode cL_law 514 = .ok (.iadd, 1) := by decide +kernel
theorem dL_law_515 : decode cL_law 515 = .ok (.iaload, 1) := by decide +kernel
theorem dL_law_516 : decode cL_law 516 = .ok (.aload_n 0, 1) := by decide +kernel
theorem dL_law_517 : decode cL_law 517 = .ok (.iload_n 3, 1) := by decide +kernel
theorem dL_law_518 : decode cL_law 518 = .ok (.iconst 2, 1) := by decide +kernel
theorem dL_law_519 : decode cL_law 519 = .ok (.iadd, 1) := by decide +kernel
theorem dL_law_520 : decode cL_law 520 = .ok (.iaload, 1) := by decide +kernel
theorem dL_law_521 : decode cL_law 521 = .ok (.invokevirtual 58, 3) := by decide +kernel
theorem dL_law_524 : decode cL_law 524 = .ok (.pop, 1) := by decide +kernel
theorem dL_law_525 : decode cL_law 525 = .ok (.goto 773, 3) := by decide +kernel
theorem dL_law_528 : decode cL_law 528 = .ok (.aload_n 1, 1) := by decide +kernel
theorem dL_law_529 : decode cL_law 529 = .ok (.aload_n 0, 1) := by decide +kernel
theorem dL_law_530 : decode cL_law 530 = .ok (.iload_n 3, 1) := by decide +kernel
theorem dL_law_531 : decode cL_law 531 = .ok (.iconst 1, 1) := by decide +kernel
theorem dL_law_532 : decode cL_law 532 = .ok (.iadd, 1) := by decide +kernel
theorem dL_law_533 : decode cL_law 533 = .ok (.iaload, 1) := by decide +kernel
theorem dL_law_534 : decode cL_law 534 = .ok (.aload_n 0, 1) := by decide +kernel
theorem dL_law_535 : decode cL_law 535 = .ok (.iload_n 3, 1) := by decide +kernel
theorem dL_law_536 : decode cL_law 536 = .ok (.iconst 2, 1) := by decide +kernel
theorem dL_law_537 : decode cL_law 537 = .ok (.iadd, 1) := by decide +kernel
theorem dL_law_538 : decode cL_law 538 = .ok (.iaload, 1) := by decide +kernel
theorem dL_law_539 : decode cL_law 539 = .ok (.invokevirtual 59, 3) := by decide +kernel
theorem dL_law_542 : decode cL_law 542 = .ok (.pop, 1) := by decide +kernel
theorem dL_law_543 : decode cL_law 543 = .ok (.aload_n 2, 1) := by decide +kernel
theorem dL_law_544 : decode cL_law 544 = .ok (.aload_n 0, 1) := by decide +kernel
theorem dL_law_545 : decode cL_law 545 = .ok (.iload_n 3, 1) := by decide +kernel
theorem dL_law_546 : decode cL_law 546 = .ok (.iconst 1, 1) := by decide +kernel
theorem dL_law_547 : decode cL_law 547 = .ok (.iadd, 1) := by decide +kernel
theorem dL_law_548 : decode cL_law 548 = .ok (.iaload, 1) := by decide +kernel
theorem dL_law_549 : decode cL_law 549 = .ok (.aload_n 0, 1) := by decide +kernel
theorem dL_law_550 : decode cL_law 550 = .ok (.iload_n 3, 1) := by decide +kernel
theorem dL_law_551 : decode cL_law 551 = .ok (.iconst 2, 1) := by decide +kernel
theorem dL_law_552 : decode cL_law 552 = .ok (.iadd, 1) := by decide +kernel
theorem dL_law_553 : decode cL_law 553 = .ok (.iaload, 1) := by decide +kernel
theorem dL_law_554 : decode cL_law 554 = .ok (.invokevirtual 62, 3) := by decide +kernel
theorem dL_law_557 : decode cL_law 557 = .ok (.pop, 1) := by decide +kernel
theorem dL_law_558 : decode cL_law 558 = .ok (.goto 740, 3) := by decide +kernel
theorem dL_law_561 : decode cL_law 561 = .ok (.aload_n 1, 1) := by decide +kernel
theorem dL_law_562 : decode cL_law 562 = .ok (.aload_n 0, 1) := by decide +kernel
theorem dL_law_563 : decode cL_law 563 = .ok (.iload_n 3, 1) := by decide +kernel
theorem dL_law_564 : decode cL_law 564 = .ok (.iconst 1, 1) := by decide +kernel
theorem dL_law_565 : decode cL_law 565 = .ok (.iadd, 1) := by decide +kernel
theorem dL_law_566 : decode cL_law 566 = .ok (.iaload, 1) := by decide +kernel
theorem dL_law_567 : decode cL_law 567 = .ok (.aload_n 0, 1) := by decide +kernel
theorem dL_law_568 : decode cL_law 568 = .ok (.iload_n 3, 1) := by decide +kernel
theorem dL_law_569 : decode cL_law 569 = .ok (.iconst 2, 1) := by decide +kernel
theorem dL_law_570 : decode cL_law 570 = .ok (.iadd, 1) := by decide +kernel
theorem dL_law_571 : decode cL_law 571 = .ok (.iaload, 1) := by decide +kernel
theorem dL_law_572 : decode cL_law 572 = .ok (.invokevirtual 63, 3) := by decide +kernel
theorem dL_law_575 : decode cL_law 575 = .ok (.pop, 1) := by decide +kernel
theorem dL_law_576 : decode cL_law 576 = .ok (.aload_n 2, 1) := by decide +kernel
theorem dL_law_577 : decode cL_law 577 = .ok (.aload_n 0, 1) := by decide +kernel
theorem dL_law_578 : decode cL_law 578 = .ok (.iload_n 3, 1) := by decide +kernel
theorem dL_law_579 : decode cL_law 579 = .ok (.iconst 1, 1) := by decide +kernel
theorem dL_law_580 : decode cL_law 580 = .ok (.iadd, 1) := by decide +kernel
theorem dL_law_581 : decode cL_law 581 = .ok (.iaload, 1) := by decide +kernel
theorem dL_law_582 : decode cL_law 582 = .ok (.aload_n 0, 1) := by decide +kernel
theorem dL_law_583 : decode cL_law 583 = .ok (.iload_n 3, 1) := by decide +kernel
theorem dL_law_584 : decode cL_law 584 = .ok (.iconst 2, 1) := by decide +kernel
theorem dL_law_585 : decode cL_law 585 = .ok (.iadd, 1) := by decide +kernel
theorem dL_law_586 : decode cL_law 586 = .ok (.iaload, 1) := by decide +kernel
theorem dL_law_587 : decode cL_law 587 = .ok (.invokevirtual 66, 3) := by decide +kernel
theorem dL_law_590 : decode cL_law 590 = .ok (.pop, 1) := by decide +kernel
theorem dL_law_591 : decode cL_law 591 = .ok (.goto 707, 3) := by decide +kernel
theorem dL_law_594 : decode cL_law 594 = .ok (.aload_n 1, 1) := by decide +kernel
theorem dL_law_595 : decode cL_law 595 = .ok (.aload_n 0, 1) := by decide +kernel
theorem dL_law_596 : decode cL_law 596 = .ok (.iload_n 3, 1) := by decide +kernel
theorem dL_law_597 : decode cL_law 597 = .ok (.iconst 1, 1) := by decide +kernel
theorem dL_law_598 : decode cL_law 598 = .ok (.iadd, 1) := by decide +kernel
theorem dL_law_599 : decode cL_law 599 = .ok (.iaload, 1) := by decide +kernel
theorem dL_law_600 : decode cL_law 600 = .ok (.aload_n 0, 1) := by decide +kernel
theorem dL_law_601 : decode cL_law 601 = .ok (.iload_n 3, 1) := by decide +kernel
theorem dL_law_602 : decode cL_law 602 = .ok (.iconst 2, 1) := by decide +kernel
theorem dL_law_603 : decode cL_law 603 = .ok (.iadd, 1) := by decide +kernel
theorem dL_law_604 : decode cL_law 604 = .ok (.iaload, 1) := by decide +kernel
theorem dL_law_605 : decode cL_law 605 = .ok (.aload_n 0, 1) := by decide +kernel
theorem dL_law_606 : decode cL_law 606 = .ok (.iload_n 3, 1) := by decide +kernel
theorem dL_law_607 : decode cL_law 607 = .ok (.iconst 3, 1) := by decide +kernel
theorem dL_law_608 : decode cL_law 608 = .ok (.iadd, 1) := by decide +kernel
theorem dL_law_609 : decode cL_law 609 = .ok (.iaload, 1) := by decide +kernel
theorem dL_law_610 : decode cL_law 610 = .ok (.invokevirtual 67, 3) := by decide +kernel
theorem dL_law_613 : decode cL_law 613 = .ok (.pop, 1) := by decide +kernel
theorem dL_law_614 : decode cL_law 614 = .ok (.aload_n 2, 1) := by decide +kernel
theorem dL_law_615 : decode cL_law 615 = .ok (.aload_n 0, 1) := by decide +kernel
theorem dL_law_616 : decode cL_law 616 = .ok (.iload_n 3, 1) := by decide +kernel
theorem dL_law_617 : decode cL_law 617 = .ok (.iconst 1, 1) := by decide +kernel
theorem dL_law_618 : decode cL_law 618 = .ok (.iadd, 1) := by decide +kernel
theorem dL_law_619 : decode cL_law 619 = .ok (.iaload, 1) := by decide +kernel
theorem dL_law_620 : decode cL_law 620 = .ok (.aload_n 0, 1) := by decide +kernel
theorem dL_law_621 : decode cL_law 621 = .ok (.iload_n 3, 1) := by decide +kernel
theorem dL_law_622 : decode cL_law 622 = .ok (.iconst 2, 1) := by decide +kernel
theorem dL_law_623 : decode cL_law 623 = .ok (.iadd, 1) := by decide +kernel
theorem dL_law_624 : decode cL_law 624 = .ok (.iaload, 1) := by decide +kernel
theorem dL_law_625 : decode cL_law 625 = .ok (.aload_n 0, 1) := by decide +kernel
theorem dL_law_626 : decode cL_law 626 = .ok (.iload_n 3, 1) := by decide +kernel
theorem dL_law_627 : decode cL_law 627 = .ok (.iconst 3, 1) := by decide +kernel
theorem dL_law_628 : decode cL_law 628 = .ok (.iadd, 1) := by decide +kernel
theorem dL_law_629 : decode cL_law 629 = .ok (.iaload, 1) := by decide +kernel
theorem dL_law_630 : decode cL_law 630 = .ok (.invokevirtual 70, 3) := by decide +kernel
theorem dL_law_633 : decode cL_law 633 = .ok (.pop, 1) := by decide +kernel
theorem dL_law_634 : decode cL_law 634 = .ok (.goto 664, 3) := by decide +kernel
theorem dL_law_637 : decode cL_law 637 = .ok (.aload_n 1, 1) := by decide +kernel
theorem dL_law_638 : decode cL_law 638 = .ok (.aload_n 0, 1) := by decide +kernel
theorem dL_law_639 : decode cL_law 639 = .ok (.iload_n 3, 1) := by decide +kernel
theorem dL_law_640 : decode cL_law 640 = .ok (.iconst 1, 1) := by decide +kernel
theorem dL_law_641 : decode cL_law 641 = .ok (.iadd, 1) := by decide +kernel
theorem dL_law_642 : decode cL_law 642 = .ok (.iaload, 1) := by decide +kernel
theorem dL_law_643 : decode cL_law 643 = .ok (.aload_n 0, 1) := by decide +kernel
theorem dL_law_644 : decode cL_law 644 = .ok (.iload_n 3, 1) := by decide +kernel
theorem dL_law_645 : decode cL_law 645 = .ok (.iconst 2, 1) := by decide +kernel
theorem dL_law_646 : decode cL_law 646 = .ok (.iadd, 1) := by decide +kernel
theorem dL_law_647 : decode cL_law 647 = .ok (.iaload, 1) := by decide +kernel
theorem dL_law_648 : decode cL_law 648 = .ok (.aload_n 0, 1) := by decide +kernel
theorem dL_law_649 : decode cL_law 649 = .ok (.iload_n 3, 1) := by decide +kernel
theorem dL_law_650 : decode cL_law 650 = .ok (.iconst 3, 1) := by decide +kernel
theorem dL_law_651 : decode cL_law 651 = .ok (.iadd, 1) := by decide +kernel
theorem dL_law_652 : decode cL_law 652 = .ok (.iaload, 1) := by decide +kernel
theorem dL_law_653 : decode cL_law 653 = .ok (.invokevirtual 71, 3) := by decide +kernel
theorem dL_law_656 : decode cL_law 656 = .ok (.pop, 1) := by decide +kernel
theorem dL_law_657 : decode cL_law 657 = .ok (.aload_n 2, 1) := by decide +kernel
theorem dL_law_658 : decode cL_law 658 = .ok (.aload_n 0, 1) := by decide +kernel
theorem dL_law_659 : decode cL_law 659 = .ok (.iload_n 3, 1) := by decide +kernel
theorem dL_law_660 : decode cL_law 660 = .ok (.iconst 1, 1) := by decide +kernel
theorem dL_law_661 : decode cL_law 661 = .ok (.iadd, 1) := by decide +kernel
theorem dL_law_662 : decode cL_law 662 = .ok (.iaload, 1) := by decide +kernel
theorem dL_law_663 : decode cL_law 663 = .ok (.aload_n 0, 1) := by decide +kernel
theorem dL_law_664 : decode cL_law 664 = .ok (.iload_n 3, 1) := by decide +kernel
theorem dL_law_665 : decode cL_law 665 = .ok (.iconst 2, 1) := by decide +kernel
theorem dL_law_666 : decode cL_law 666 = .ok (.iadd, 1) := by decide +kernel
theorem dL_law_667 : decode cL_law 667 = .ok (.iaload, 1) := by decide +kernel
theorem dL_law_668 : decode cL_law 668 = .ok (.aload_n 0, 1) := by decide +kernel
theorem dL_law_669 : decode cL_law 669 = .ok (.iload_n 3, 1) := by decide +kernel
theorem dL_law_670 : decode cL_law 670 = .ok (.iconst 3, 1) := by decide +kernel
theorem dL_law_671 : decode cL_law 671 = .ok (.iadd, 1) := by decide +kernel
theorem dL_law_672 : decode cL_law 672 = .ok (.iaload, 1) := by decide +kernel
theorem dL_law_673 : decode cL_law 673 = .ok (.invokevirtual 74, 3) := by decide +kernel
theorem dL_law_676 : decode cL_law 676 = .ok (.pop, 1) := by decide +kernel
theorem dL_law_677 : decode cL_law 677 = .ok (.goto 621, 3) := by decide +kernel
theorem dL_law_680 : decode cL_law 680 = .ok (.aload_n 1, 1) := by decide +kernel
theorem dL_law_681 : decode cL_law 681 = .ok (.aload_n 0, 1) := by decide +kernel
theorem dL_law_682 : decode cL_law 682 = .ok (.iload_n 3, 1) := by decide +kernel
theorem dL_law_683 : decode cL_law 683 = .ok (.iconst 1, 1) := by decide +kernel
theorem dL_law_684 : decode cL_law 684 = .ok (.iadd, 1) := by decide +kernel
theorem dL_law_685 : decode cL_law 685 = .ok (.iaload, 1) := by decide +kernel
theorem dL_law_686 : decode cL_law 686 = .ok (.aload_n 0, 1) := by decide +kernel
theorem dL_law_687 : decode cL_law 687 = .ok (.iload_n 3, 1) := by decide +kernel
theorem dL_law_688 : decode cL_law 688 = .ok (.iconst 2, 1) := by decide +kernel
theorem dL_law_689 : decode cL_law 689 = .ok (.iadd, 1) := by decide +kernel
theorem dL_law_690 : decode cL_law 690 = .ok (.iaload, 1) := by decide +kernel
theorem dL_law_691 : decode cL_law 691 = .ok (.invokevirtual 75, 3) := by decide +kernel
theorem dL_law_694 : decode cL_law 694 = .ok (.pop, 1) := by decide +kernel
theorem dL_law_695 : decode cL_law 695 = .ok (.aload_n 2, 1) := by decide +kernel
theorem dL_law_696 : decode cL_law 696 = .ok (.aload_n 0, 1) := by decide +kernel
theorem dL_law_697 : decode cL_law 697 = .ok (.iload_n 3, 1) := by decide +kernel
theorem dL_law_698 : decode cL_law 698 = .ok (.iconst 1, 1) := by decide +kernel
theorem dL_law_699 : decode cL_law 699 = .ok (.iadd, 1) := by decide +kernel
theorem dL_law_700 : decode cL_law 700 = .ok (.iaload, 1) := by decide +kernel
theorem dL_law_701 : decode cL_law 701 = .ok (.aload_n 0, 1) := by decide +kernel
theorem dL_law_702 : decode cL_law 702 = .ok (.iload_n 3, 1) := by decide +kernel
theorem dL_law_703 : decode cL_law 703 = .ok (.iconst 2, 1) := by decide +kernel
theorem dL_law_704 : decode cL_law 704 = .ok (.iadd, 1) := by decide +kernel
theorem dL_law_705 : decode cL_law 705 = .ok (.iaload, 1) := by decide +kernel
theorem dL_law_706 : decode cL_law 706 = .ok (.invokevirtual 78, 3) := by decide +kernel
theorem dL_law_709 : decode cL_law 709 = .ok (.pop, 1) := by decide +kernel
theorem dL_law_710 : decode cL_law 710 = .ok (.goto 588, 3) := by decide +kernel
theorem dL_law_713 : decode cL_law 713 = .ok (.aload_n 1, 1) := by decide +kernel
theorem dL_law_714 : decode cL_law 714 = .ok (.aload_n 0, 1) := by decide +kernel
theorem dL_law_715 : decode cL_law 715 = .ok (.iload_n 3, 1) := by decide +kernel
theorem dL_law_716 : decode cL_law 716 = .ok (.iconst 1, 1) := by decide +kernel
theorem dL_law_717 : decode cL_law 717 = .ok (.iadd, 1) := by decide +kernel
theorem dL_law_718 : decode cL_law 718 = .ok (.iaload, 1) := by decide +kernel
theorem dL_law_719 : decode cL_law 719 = .ok (.aload_n 0, 1) := by decide +kernel
theorem dL_law_720 : decode cL_law 720 = .ok (.iload_n 3, 1) := by decide +kernel
theorem dL_law_721 : decode cL_law 721 = .ok (.iconst 2, 1) := by decide +kernel
theorem dL_law_722 : decode cL_law 722 = .ok (.iadd, 1) := by decide +kernel
theorem dL_law_723 : decode cL_law 723 = .ok (.iaload, 1) := by decide +kernel
theorem dL_law_724 : decode cL_law 724 = .ok (.aload_n 0, 1) := by decide +kernel
theorem dL_law_725 : decode cL_law 725 = .ok (.iload_n 3, 1) := by decide +kernel
theorem dL_law_726 : decode cL_law 726 = .ok (.iconst 3, 1) := by decide +kernel
theorem dL_law_727 : decode cL_law 727 = .ok (.iadd, 1) := by decide +kernel
theorem dL_law_728 : decode cL_law 728 = .ok (.iaload, 1) := by decide +kernel
theorem dL_law_729 : decode cL_law 729 = .ok (.invokevirtual 79, 3) := by decide +kernel
theorem dL_law_732 : decode cL_law 732 = .ok (.pop, 1) := by decide +kernel
theorem dL_law_733 : decode cL_law 733 = .ok (.aload_n 2, 1) := by decide +kernel
theorem dL_law_734 : decode cL_law 734 = .ok (.aload_n 0, 1) := by decide +kernel
theorem dL_law_735 : decode cL_law 735 = .ok (.iload_n 3, 1) := by decide +kernel
theorem dL_law_736 : decode cL_law 736 = .ok (.iconst 1, 1) := by decide +kernel
theorem dL_law_737 : decode cL_law 737 = .ok (.iadd, 1) := by decide +kernel
theorem dL_law_738 : decode cL_law 738 = .ok (.iaload, 1) := by decide +kernel
theorem dL_law_739 : decode cL_law 739 = .ok (.aload_n 0, 1) := by decide +kernel
theorem dL_law_740 : decode cL_law 740 = .ok (.iload_n 3, 1) := by decide +kernel
theorem dL_law_741 : decode cL_law 741 = .ok (.iconst 2, 1) := by decide +kernel
theorem dL_law_742 : decode cL_law 742 = .ok (.iadd, 1) := by decide +kernel
theorem dL_law_743 : decode cL_law 743 = .ok (.iaload, 1) := by decide +kernel
theorem dL_law_744 : decode cL_law 744 = .ok (.aload_n 0, 1) := by decide +kernel
theorem dL_law_745 : decode cL_law 745 = .ok (.iload_n 3, 1) := by decide +kernel
theorem dL_law_746 : decode cL_law 746 = .ok (.iconst 3, 1) := by decide +kernel
theorem dL_law_747 : decode cL_law 747 = .ok (.iadd, 1) := by decide +kernel
theorem dL_law_748 : decode cL_law 748 = .ok (.iaload, 1) := by decide +kernel
theorem dL_law_749 : decode cL_law 749 = .ok (.invokevirtual 82, 3) := by decide +kernel
theorem dL_law_752 : decode cL_law 752 = .ok (.pop, 1) := by decide +kernel
theorem dL_law_753 : decode cL_law 753 = .ok (.goto 545, 3) := by decide +kernel
theorem dL_law_756 : decode cL_law 756 = .ok (.aload_n 1, 1) := by decide +kernel
theorem dL_law_757 : decode cL_law 757 = .ok (.aload_n 0, 1) := by decide +kernel
theorem dL_law_758 : decode cL_law 758 = .ok (.iload_n 3, 1) := by decide +kernel
theorem dL_law_759 : decode cL_law 759 = .ok (.iconst 1, 1) := by decide +kernel
theorem dL_law_760 : decode cL_law 760 = .ok (.iadd, 1) := by decide +kernel
theorem dL_law_761 : decode cL_law 761 = .ok (.iaload, 1) := by decide +kernel
theorem dL_law_762 : decode cL_law 762 = .ok (.aload_n 0, 1) := by decide +kernel
theorem dL_law_763 : decode cL_law 763 = .ok (.iload_n 3, 1) := by decide +kernel
theorem dL_law_764 : decode cL_law 764 = .ok (.iconst 2, 1) := by decide +kernel
theorem dL_law_765 : decode cL_law 765 = .ok (.iadd, 1) := by decide +kernel
theorem dL_law_766 : decode cL_law 766 = .ok (.iaload, 1) := by decide +kernel
theorem dL_law_767 : decode cL_law 767 = .ok (.aload_n 0, 1) := by decide +kernel
theorem dL_law_768 : decode cL_law 768 = .ok (.iload_n 3, 1) := by decide +kernel
theorem dL_law_769 : decode cL_law 769 = .ok (.iconst 3, 1) := by decide +kernel
theorem dL_law_770 : decode cL_law 770 = .ok (.iadd, 1) := by decide +kernel
theorem dL_law_771 : decode cL_law 771 = .ok (.iaload, 1) := by decide +kernel
theorem dL_law_772 : decode cL_law 772 = .ok (.invokevirtual 83, 3) := by decide +kernel
theorem dL_law_775 : decode cL_law 775 = .ok (.pop, 1) := by decide +kernel
theorem dL_law_776 : decode cL_law 776 = .ok (.aload_n 2, 1) := by decide +kernel
theorem dL_law_777 : decode cL_law 777 = .ok (.aload_n 0, 1) := by decide +kernel
theorem dL_law_778 : decode cL_law 778 = .ok (.iload_n 3, 1) := by decide +kernel
theorem dL_law_779 : decode cL_law 779 = .ok (.iconst 1, 1) := by decide +kernel
theorem dL_law_780 : decode cL_law 780 = .ok (.iadd, 1) := by decide +kernel
theorem dL_law_781 : decode cL_law 781 = .ok (.iaload, 1) := by decide +kernel
theorem dL_law_782 : decode cL_law 782 = .ok (.aload_n 0, 1) := by decide +kernel
theorem dL_law_783 : decode cL_law 783 = .ok (.iload_n 3, 1) := by decide +kernel
theorem dL_law_784 : decode cL_law 784 = .ok (.iconst 2, 1) := by decide +kernel
theorem dL_law_785 : decode cL_law 785 = .ok (.iadd, 1) := by decide +kernel
theorem dL_law_786 : decode cL_law 786 = .ok (.iaload, 1) := by decide +kernel
theorem dL_law_787 : decode cL_law 787 = .ok (.aload_n 0, 1) := by decide +kernel
theorem dL_law_788 : decode cL_law 788 = .ok (.iload_n 3, 1) := by decide +kernel
theorem dL_law_789 : decode cL_law 789 = .ok (.iconst 3, 1) := by decide +kernel
theorem dL_law_790 : decode cL_law 790 = .ok (.iadd, 1) := by decide +kernel
theorem dL_law_791 : decode cL_law 791 = .ok (.iaload, 1) := by decide +kernel
theorem dL_law_792 : decode cL_law 792 = .ok (.invokevirtual 86, 3) := by decide +kernel
theorem dL_law_795 : decode cL_law 795 = .ok (.pop, 1) := by decide +kernel
theorem dL_law_796 : decode cL_law 796 = .ok (.goto 502, 3) := by decide +kernel
theorem dL_law_799 : decode cL_law 799 = .ok (.aload_n 1, 1) := by decide +kernel
theorem dL_law_800 : decode cL_law 800 = .ok (.aload_n 0, 1) := by decide +kernel
theorem dL_law_801 : decode cL_law 801 = .ok (.iload_n 3, 1) := by decide +kernel
theorem dL_law_802 : decode cL_law 802 = .ok (.iconst 1, 1) := by decide +kernel
theorem dL_law_803 : decode cL_law 803 = .ok (.iadd, 1) := by decide +kernel
theorem dL_law_804 : decode cL_law 804 = .ok (.iaload, 1) := by decide +kernel
theorem dL_law_805 : decode cL_law 805 = .ok (.aload_n 0, 1) := by decide +kernel
theorem dL_law_806 : decode cL_law 806 = .ok (.iload_n 3, 1) := by decide +kernel
theorem dL_law_807 : decode cL_law 807 = .ok (.iconst 2, 1) := by decide +kernel
theorem dL_law_808 : decode cL_law 808 = .ok (.iadd, 1) := by decide +kernel
theorem dL_law_809 : decode cL_law 809 = .ok (.iaload, 1) := by decide +kernel
theorem dL_law_810 : decode cL_law 810 = .ok (.invokevirtual 87, 3) := by decide +kernel
theorem dL_law_813 : decode cL_law 813 = .ok (.pop, 1) := by decide +kernel
theorem dL_law_814 : decode cL_law 814 = .ok (.aload_n 2, 1) := by decide +kernel
theorem dL_law_815 : decode cL_law 815 = .ok (.aload_n 0, 1) := by decide +kernel
theorem dL_law_816 : decode cL_law 816 = .ok (.iload_n 3, 1) := by decide +kernel
theorem dL_law_817 : decode cL_law 817 = .ok (.iconst 1, 1) := by decide +kernel
theorem dL_law_818 : decode cL_law 818 = .ok (.iadd, 1) := by decide +kernel
theorem dL_law_819 : decode cL_law 819 = .ok (.iaload, 1) := by decide +kernel
theorem dL_law_820 : decode cL_law 820 = .ok (.aload_n 0, 1) := by decide +kernel
theorem dL_law_821 : decode cL_law 821 = .ok (.iload_n 3, 1) := by decide +kernel
theorem dL_law_822 : decode cL_law 822 = .ok (.iconst 2, 1) := by decide +kernel
theorem dL_law_823 : decode cL_law 823 = .ok (.iadd, 1) := by decide +kernel
theorem dL_law_824 : decode cL_law 824 = .ok (.iaload, 1) := by decide +kernel
theorem dL_law_825 : decode cL_law 825 = .ok (.invokevirtual 90, 3) := by decide +kernel
theorem dL_law_828 : decode cL_law 828 = .ok (.pop, 1) := by decide +kernel
theorem dL_law_829 : decode cL_law 829 = .ok (.goto 469, 3) := by decide +kernel
theorem dL_law_832 : decode cL_law 832 = .ok (.aload_n 1, 1) := by decide +kernel
theorem dL_law_833 : decode cL_law 833 = .ok (.aload_n 0, 1) := by decide +kernel
theorem dL_law_834 : decode cL_law 834 = .ok (.iload_n 3, 1) := by decide +kernel
theorem dL_law_835 : decode cL_law 835 = .ok (.iconst 1, 1) := by decide +kernel
theorem dL_law_836 : decode cL_law 836 = .ok (.iadd, 1) := by decide +kernel
theorem dL_law_837 : decode cL_law 837 = .ok (.iaload, 1) := by decide +kernel
theorem dL_law_838 : decode cL_law 838 = .ok (.invokevirtual 91, 3) := by decide +kernel
theorem dL_law_841 : decode cL_law 841 = .ok (.pop, 1) := by decide +kernel
theorem dL_law_842 : decode cL_law 842 = .ok (.aload_n 2, 1) := by decide +kernel
theorem dL_law_843 : decode cL_law 843 = .ok (.aload_n 0, 1) := by decide +kernel
theorem dL_law_844 : decode cL_law 844 = .ok (.iload_n 3, 1) := by decide +kernel
theorem dL_law_845 : decode cL_law 845 = .ok (.iconst 1, 1) := by decide +kernel
theorem dL_law_846 : decode cL_law 846 = .ok (.iadd, 1) := by decide +kernel
theorem dL_law_847 : decode cL_law 847 = .ok (.iaload, 1) := by decide +kernel
theorem dL_law_848 : decode cL_law 848 = .ok (.invokevirtual 94, 3) := by decide +kernel
theorem dL_law_851 : decode cL_law 851 = .ok (.pop, 1) := by decide +kernel
theorem dL_law_852 : decode cL_law 852 = .ok (.goto 446, 3) := by decide +kernel
theorem dL_law_855 : decode cL_law 855 = .ok (.aload_n 1, 1) := by decide +kernel
theorem dL_law_856 : decode cL_law 856 = .ok (.aload_n 0, 1) := by decide +kernel
theorem dL_law_857 : decode cL_law 857 = .ok (.iload_n 3, 1) := by decide +kernel
theorem dL_law_858 : decode cL_law 858 = .ok (.iconst 1, 1) := by decide +kernel
theorem dL_law_859 : decode cL_law 859 = .ok (.iadd, 1) := by decide +kernel
theorem dL_law_860 : decode cL_law 860 = .ok (.iaload, 1) := by decide +kernel
theorem dL_law_861 : decode cL_law 861 = .ok (.invokevirtual 95, 3) := by decide +kernel
theorem dL_law_864 : decode cL_law 864 = .ok (.pop, 1) := by decide +kernel
theorem dL_law_865 : decode cL_law 865 = .ok (.aload_n 2, 1) := by decide +kernel
theorem dL_law_866 : decode cL_law 866 = .ok (.aload_n 0, 1) := by decide +kernel
theorem dL_law_867 : decode cL_law 867 = .ok (.iload_n 3, 1) := by decide +kernel
theorem dL_law_868 : decode cL_law 868 = .ok (.iconst 1, 1) := by decide +kernel
theorem dL_law_869 : decode cL_law 869 = .ok (.iadd, 1) := by decide +kernel
theorem dL_law_870 : decode cL_law 870 = .ok (.iaload, 1) := by decide +kernel
theorem dL_law_871 : decode cL_law 871 = .ok (.invokevirtual 98, 3) := by decide +kernel
theorem dL_law_874 : decode cL_law 874 = .ok (.pop, 1) := by decide +kernel
theorem dL_law_875 : decode cL_law 875 = .ok (.goto 423, 3) := by decide +kernel
/-! ===== the law's rows ===== -/
theorem ap_h {α : Type} {P T : List α} {q : α} (h : T[0]? = some q) : (P ++ T)[P.length]? = some q := by
  rw [List.getElem?_append_right (Nat.le_refl _), Nat.sub_self]
  exact h
section LX
variable {l : Launch} {y : MethodName} {bytes : ByteArray} {maxL : Nat} {ret : Option FieldType} {rm : Room} {D : va_G} {sz : Nat} {av : List Value} {P P' T : va_W}
theorem va_A_comm : va_A (P ++ T) sz = va_A (T ++ P) sz := by
  funext q
  refine propext ⟨va_A_up (fun x hx => ?_) q, va_A_up (fun x hx => ?_) q⟩
  · exact (List.mem_append.mp hx).elim (fun h => List.mem_append_right _ h) (fun h => List.mem_append_left _ h)
  · exact (List.mem_append.mp hx).elim (fun h => List.mem_append_right _ h) (fun h => List.mem_append_left _ h)
theorem va_P_comm {cl : List vw_C} {H : Heap} (h : va_P D cl (P ++ T) H) : va_P D cl (T ++ P) H := va_P_mem h (fun _ hx => (List.mem_append.mp hx).elim (fun h => List.mem_append_right _ h) (fun h => List.mem_append_left _ h))
theorem zW_comm {U : State} (h : zW D sz (T ++ P) U) : zW D sz (P ++ T) U := ⟨h.1, va_P_comm h.2.1, h.2.2.1, va_D_perm h.2.2.2 List.perm_append_comm⟩
theorem zB_comm {U : State} (h : zB D (va_A (P ++ T) sz) (P' ++ T) U) : zB D (va_A (T ++ P) sz) (T ++ P') U := ⟨va_P_comm h.1, h.2.1, by rw [va_A_comm]; exact va_D_perm h.2.2 List.perm_append_comm⟩
theorem yRi_c {r : Int32} (h : yRi l y bytes maxL ret rm D av P r) : yRi l y bytes maxL ret rm D av (T ++ P) r := Met_imp h (fun a s hp => ⟨hp.1, ⟨va_P_r hp.2.1.1, hp.2.1.2⟩, hp.2.2⟩) (fun _ _ _ _ _ hq => hq) (fun _ h => h)
theorem yWi_c {r : Int32} (h : yWi l y bytes maxL ret rm D sz av (P ++ T) (P' ++ T) r) : yWi l y bytes maxL ret rm D sz av (T ++ P) (T ++ P') r := by
  refine Met_imp h (fun a s hp => ⟨hp.1, zW_comm hp.2.1, hp.2.2⟩) (fun a st o t hp hq => ?_) (fun q h => by rw [va_A_comm]; exact h)
  obtain ⟨⟨q, u, h1, h2, h3⟩, hF⟩ := hq
  exact ⟨⟨q, u, h1, h2, zB_comm h3⟩, by rw [va_A_comm]; exact hF⟩
theorem yWl_c {r : Int64} (h : yWl l y bytes maxL ret rm D sz av (P ++ T) (P' ++ T) r) : yWl l y bytes maxL ret rm D sz av (T ++ P) (T ++ P') r := by
  refine Met_imp h (fun a s hp => ⟨hp.1, zW_comm hp.2.1, hp.2.2⟩) (fun a st o t hp hq => ?_) (fun q h => by rw [va_A_comm]; exact h)
  obtain ⟨⟨q, u, h1, h2, h3⟩, hF⟩ := hq
  exact ⟨⟨q, u, h1, h2, zB_comm h3⟩, by rw [va_A_comm]; exact hF⟩
end LX
section LG
variable {p : Program} {l : Launch} {e : Env} {R : Room} {s : State} {m : MethodId} {args : Array Value} {below : List Frame} {meth : Method} {c : Code} {H : Heap} {locs : List Loc} {cells slots : Nat} {Q : State → Prop}
variable {cc bytes : ByteArray} {pc : Nat} {ls : Array Slot} {rest st1 : List Value} {D : va_G} {A : Nat → Prop} {ws ws' : va_W} {H0 : Heap} {y : MethodName} {maxL nL mc ms n idx : Nat} {ret : Option FieldType} {rm : Room} {own C : String} {b : Addr} {As : List Value}
theorem ywG {Sg : Type} {post : Int32 → Sg → Prop} {W' : Sg → va_W} (S : CallFix p m c cc nL s args lw_gd own) (hM : Met l y (wz y bytes maxL ret) rm (va_Pc (.ref b :: As) (yW D H.size ws)) (va_Qi post (fun u t => zB D (va_A ws H.size) (W' u) t) (va_A ws H.size)) mc ms (va_A ws H.size)) (hT : GoodIn lw_gd (wsV own idx C y (wz y bytes maxL ret))) (hrc : rm.cells = mc) (hrs : rm.slots = ms)
    (hd : y.cls = C ∧ y.cls ≠ "java/lang/invoke/MethodHandle" ∧ y.cls ≠ "java/lang/invoke/VarHandle" ∧ (parseMethodDescriptor y.desc).map (fun d => d.parameters.length) = some n) (hR : rm.frames + 1 ≤ R.frames ∧ 8 + (maxL + 11) + rm.locals ≤ R.locals)
    (hN : NN s) (hK : va_K D vwCl (TY D) s) (hP : va_P D vwCl ws H) (hD : va_D A ws) (hS : va_S A H0 H locs) (hA : ∀ q : Nat, H0.size ≤ q → A q) {ci : Nat} {fs : List Value} {q : vw_C} (q0 : Nat) (he : ws[q0]? = some (b, .inr (ci, fs))) (hc : vwCl[ci]? = some q) (hq : q.1 = C)
    (hn : As.length = n) (hsize : ls.size = nL) (hst : st1 = As.reverse ++ .ref b :: rest) (hW : (rest.map fun v => v.category).sum ≤ 8) (hdg : decode cc pc = .ok (.invokevirtual idx, 3)) (hf : cells + mc ≤ R.cells ∧ slots + ms ≤ R.slots)
    (kk : ∀ (r : Int32) (u : Sg) (H : Heap) (locs : List Loc), post r u → va_P D vwCl (W' u) H → va_D A (W' u) → va_S A H0 H locs → W p l e R s m args below meth c H locs (cells + mc) (slots + ms) Q (F0 m (pc + 3) ls (.int r :: rest))) : W p l e R s m args below meth c H locs cells slots Q (F0 m pc ls st1) := by
  subst hq
  have hFc := y_free hD hS hA
  refine va_calli (va_runV (g := F0 m pc ls st1) (b := b) (As := As) (rest := rest) (Pc := va_Pc (.ref b :: As) (yW D H.size ws)) S hM (cwV n S.2.2.2.2 hT rfl hrc hrs hd hR) ⟨yWb _ D _ _, va_recv hK hP hc he, fun U hU hW => ⟨rfl, ⟨by rw [hU], by rw [hU]; exact hP, va_K.moved hW.alike hK, hD.weaken (fun _ _ _ _ => trivial)⟩, NN.warm hW hN⟩⟩ rfl hn hsize hst (lv_room hW) hdg hf) hS (fun q _ h => hFc q h) hFc (fun r u t H1 locs1 ht hvm hw hB hz1 hk1 hS1 => ?_)
  obtain ⟨hP1, hK1, hD1⟩ := hB
  rw [ht] at hP1
  exact kk r u H1 locs1 hw hP1 (hD1.weaken (fun _ _ _ h => hFc _ h)) hS1
end LG
theorem R2_of (x : Int32) : R2 x.toInt := ⟨Int32.le_toInt x, Int.le_of_lt_add_one (Int32.toInt_lt x)⟩
theorem li_1 (i : Nat) : nI i + 1 = nI (i + 1) := nI_add i 1
theorem li_2 (i : Nat) : nI i + 2 = nI (i + 2) := nI_add i 2
theorem li_3 (i : Nat) : nI i + 3 = nI (i + 3) := nI_add i 3
theorem li_4 (i : Nat) : nI i + 4 = nI (i + 4) := nI_add i 4
theorem li_5 (i : Nat) : nI i + 5 = nI (i + 5) := nI_add i 5
theorem li_6 (i : Nat) : nI i + Int32.ofInt 6 = nI (i + 6) := nI_add i 6
theorem XR_D {D : va_G} {A : Nat → Prop} {ax am : Nat → Nat} {x x' t t' : MS} {ps : List ((Nat → Nat) × MS)} (h : va_D A (XW D ax x ps ++ RW D am t)) : va_D A (XW D ax x' ps ++ RW D am t') := va_D_same h (by rw [List.map_append, List.map_append, List.map_append, List.map_append]; rfl)
set_option maxHeartbeats 4000000 in
set_option maxRecDepth 100000 in
/-- feed -/
theorem lc_0 {p : Program} (l : Launch) {e : Env} {s₀ : State} {m : MethodId} {below : List Frame} {meth : Method} {c : Code} {b L : Nat} {xs : Nat → Int32} {A : Nat → Prop} {D : va_G} (hx : p.tables.exec = Jvm.exec) (hb : c.code = cL_law) (hml : c.maxLocals = 4) (hown : s₀.vm.findClass RL = some m.cls) (ht : ∀ w ∈ lw_gd, w.before #[Value.ref b] s₀ = true) (hX : va_X b L xs s₀ s₀.heap) (hbl : b < s₀.heap.size) (hbA : ¬ A b) (hA : ∀ q, s₀.heap.size ≤ q → A q) (hK : va_K D vwCl (TY D) s₀) (hN : NN s₀) (hL : L ≤ 3072) {i : Nat} {H : Heap} {locs : List Loc} {ls : Array Slot} {ax am : Nat → Nat} {ps : List ((Nat → Nat) × MS)} (x x1 : MS) (ts : List MS) (r : Int) (t t1 : MS) (r2 : Int) {cells slots : Nat} (hcs : cells + 9 ≤ 600000 ∧ slots + 795 ≤ 7302249) (hi : i + 5 < L) (hts : ps.map Prod.snd = ts) (hP : va_P D vwCl (XW D ax x ps ++ RW D am t) H) (hD : va_D A (XW D ax x ps ++ RW D am t)) (hS : va_S A s₀.heap H locs) (hl : lv_has ls 4 [(3, .int (nI i)), (2, .ref (am 200)), (1, .ref (ax 0)), (0, .ref b)]) (h1 : m_x11_feed (xs (i + 1)).toInt (xs (i + 2)).toInt (xs (i + 3)).toInt (xs (i + 4)).toInt (xs (i + 5)).toInt x = some (r, x1)) (h2 : m_x12_feed (xs (i + 1)).toInt (xs (i + 2)).toInt (xs (i + 3)).toInt (xs (i + 4)).toInt (xs (i + 5)).toInt t = some (r2, t1))
    (kk : ∀ (ax1 : Nat → Nat) (ps1 : List ((Nat → Nat) × MS)) (H : Heap) (locs : List Loc), ax1 0 = ax 0 → ps1.map Prod.snd = ts → va_P D vwCl (XW D ax1 x1 ps1 ++ RW D am t1) H → va_D A (XW D ax1 x1 ps1 ++ RW D am t1) → va_S A s₀.heap H locs → W p l e room_1 s₀ m #[Value.ref b] below meth c H locs (cells + 9) (slots + 795) (lw_Z below #[Value.ref b] s₀) (F0 m 1298 ls [])) : W p l e room_1 s₀ m #[Value.ref b] below meth c H locs cells slots (lw_Z below #[Value.ref b] s₀) (F0 m 208 ls []) := by
  refine lv_aload_n hx hb dL_law_208 rfl (lv_at hl 2 rfl) ?_
  refine lv_aload_n hx hb dL_law_209 rfl (lv_at hl 3 rfl) ?_
  refine lv_iload_n hx hb dL_law_210 rfl (lv_at hl 0 rfl) ?_
  refine lv_iconst (v := 1) hx hb dL_law_211 (by decide) ?_
  refine lv_iadd hx hb dL_law_212 ?_
  refine z_topi (y := nI (i + 1)) (li_1 i) ?_
  refine va_sld hx hb hX hbl hbA hS (vp_in_nI (by omega) (by omega)) dL_law_213 ?_
  refine z_topi (y := i2 (xs (i + 1)).toInt) (by rw [nI_clamp (by omega), i2_of]) ?_
  refine lv_aload_n hx hb dL_law_214 rfl (lv_at hl 3 rfl) ?_
  refine lv_iload_n hx hb dL_law_215 rfl (lv_at hl 0 rfl) ?_
  refine lv_iconst (v := 2) hx hb dL_law_216 (by decide) ?_
  refine lv_iadd hx hb dL_law_217 ?_
  refine z_topi (y := nI (i + 2)) (li_2 i) ?_
  refine va_sld hx hb hX hbl hbA hS (vp_in_nI (by omega) (by omega)) dL_law_218 ?_
  refine z_topi (y := i2 (xs (i + 2)).toInt) (by rw [nI_clamp (by omega), i2_of]) ?_
  refine lv_aload_n hx hb dL_law_219 rfl (lv_at hl 3 rfl) ?_
  refine lv_iload_n hx hb dL_law_220 rfl (lv_at hl 0 rfl) ?_
  refine lv_iconst (v := 3) hx hb dL_law_221 (by decide) ?_
  refine lv_iadd hx hb dL_law_222 ?_
  refine z_topi (y := nI (i + 3)) (li_3 i) ?_
  refine va_sld hx hb hX hbl hbA hS (vp_in_nI (by omega) (by omega)) dL_law_223 ?_
  refine z_topi (y := i2 (xs (i + 3)).toInt) (by rw [nI_clamp (by omega), i2_of]) ?_
  refine lv_aload_n hx hb dL_law_224 rfl (lv_at hl 3 rfl) ?_
  refine lv_iload_n hx hb dL_law_225 rfl (lv_at hl 0 rfl) ?_
  refine lv_iconst (v := 4) hx hb dL_law_226 (by decide) ?_
  refine lv_iadd hx hb dL_law_227 ?_
  refine z_topi (y := nI (i + 4)) (li_4 i) ?_
  refine va_sld hx hb hX hbl hbA hS (vp_in_nI (by omega) (by omega)) dL_law_228 ?_
  refine z_topi (y := i2 (xs (i + 4)).toInt) (by rw [nI_clamp (by omega), i2_of]) ?_
  refine lv_aload_n hx hb dL_law_229 rfl (lv_at hl 3 rfl) ?_
  refine lv_iload_n hx hb dL_law_230 rfl (lv_at hl 0 rfl) ?_
  refine lv_iconst (v := 5) hx hb dL_law_231 (by decide) ?_
  refine lv_iadd hx hb dL_law_232 ?_
  refine z_topi (y := nI (i + 5)) (li_5 i) ?_
  refine va_sld hx hb hX hbl hbA hS (vp_in_nI (by omega) (by omega)) dL_law_233 ?_
  refine z_topi (y := i2 (xs (i + 5)).toInt) (by rw [nI_clamp (by omega), i2_of]) ?_
  obtain ⟨ps1, hps⟩ : ∃ z, z = ps := ⟨ps, rfl⟩
  obtain ⟨ax1, hax1⟩ : ∃ z, z = ax := ⟨ax, rfl⟩
  refine ywV (r0 := i2 r) (As := [.int (i2 (xs (i + 1)).toInt), .int (i2 (xs (i + 2)).toInt), .int (i2 (xs (i + 3)).toInt), .int (i2 (xs (i + 4)).toInt), .int (i2 (xs (i + 5)).toInt)]) (rest := []) (C := RX11) (n := 5) (ws' := XW D ax x1 ps ++ RW D am t) ⟨hx, hb, hml, hown, ht⟩ (yWi_f _ (yWi_f _ (k_x11_feed l D ax (xs (i + 1)).toInt (xs (i + 2)).toInt (xs (i + 3)).toInt (xs (i + 4)).toInt (xs (i + 5)).toInt _ _ _ h1))) (zgV ml_L_13 im_X11_feed se_X11_feed in_X11 co_X11_feed) rfl rfl (by decide +kernel) ⟨Nat.le_of_ble_eq_true rfl, Nat.le_of_ble_eq_true rfl⟩ hN hK hP hD hS hA 0 (ap_g (ap_g CW_0)) rfl rfl rfl hl.1 rfl (Nat.le_of_ble_eq_true rfl) dL_law_234 ⟨Nat.le_trans (Nat.le_add_right _ _) hcs.1, Nat.le_trans (Nat.le_add_right _ _) hcs.2⟩ (fun H locs hP hS => ?_)
  have hD : va_D A (XW D ax x1 ps ++ RW D am t) := XR_D hD
  have hax : ax1 0 = ax 0 := by rw [hax1]
  have hts1 : ps1.map Prod.snd = ts := by rw [hps]; exact hts
  rw [← hps, ← hax1] at hP hD
  refine W.widen (k := cells + 9) (n := slots + 795) (Nat.le_add_right _ _) (Nat.le_add_right _ _) ?_
  refine lv_pop hx hb dL_law_237 rfl ?_
  refine lv_aload_n hx hb dL_law_238 rfl (lv_at hl 1 rfl) ?_
  refine lv_aload_n hx hb dL_law_239 rfl (lv_at hl 3 rfl) ?_
  refine lv_iload_n hx hb dL_law_240 rfl (lv_at hl 0 rfl) ?_
  refine lv_iconst (v := 1) hx hb dL_law_241 (by decide) ?_
  refine lv_iadd hx hb dL_law_242 ?_
  refine z_topi (y := nI (i + 1)) (li_1 i) ?_
  refine va_sld hx hb hX hbl hbA hS (vp_in_nI (by omega) (by omega)) dL_law_243 ?_
  refine z_topi (y := i2 (xs (i + 1)).toInt) (by rw [nI_clamp (by omega), i2_of]) ?_
  refine lv_aload_n hx hb dL_law_244 rfl (lv_at hl 3 rfl) ?_
  refine lv_iload_n hx hb dL_law_245 rfl (lv_at hl 0 rfl) ?_
  refine lv_iconst (v := 2) hx hb dL_law_246 (by decide) ?_
  refine lv_iadd hx hb dL_law_247 ?_
  refine z_topi (y := nI (i + 2)) (li_2 i) ?_
  refine va_sld hx hb hX hbl hbA hS (vp_in_nI (by omega) (by omega)) dL_law_248 ?_
  refine z_topi (y := i2 (xs (i + 2)).toInt) (by rw [nI_clamp (by omega), i2_of]) ?_
  refine lv_aload_n hx hb dL_law_249 rfl (lv_at hl 3 rfl) ?_
  refine lv_iload_n hx hb dL_law_250 rfl (lv_at hl 0 rfl) ?_
  refine lv_iconst (v := 3) hx hb dL_law_251 (by decide) ?_
  refine lv_iadd hx hb dL_law_252 ?_
  refine z_topi (y := nI (i + 3)) (li_3 i) ?_
  refine va_sld hx hb hX hbl hbA hS (vp_in_nI (by omega) (by omega)) dL_law_253 ?_
  refine z_topi (y := i2 (xs (i + 3)).toInt) (by rw [nI_clamp (by omega), i2_of]) ?_
  refine lv_aload_n hx hb dL_law_254 rfl (lv_at hl 3 rfl) ?_
  refine lv_iload_n hx hb dL_law_255 rfl (lv_at hl 0 rfl) ?_
  refine lv_iconst (v := 4) hx hb dL_law_256 (by decide) ?_
  refine lv_iadd hx hb dL_law_257 ?_
  refine z_topi (y := nI (i + 4)) (li_4 i) ?_
  refine va_sld hx hb hX hbl hbA hS (vp_in_nI (by omega) (by omega)) dL_law_258 ?_
  refine z_topi (y := i2 (xs (i + 4)).toInt) (by rw [nI_clamp (by omega), i2_of]) ?_
  refine lv_aload_n hx hb dL_law_259 rfl (lv_at hl 3 rfl) ?_
  refine lv_iload_n hx hb dL_law_260 rfl (lv_at hl 0 rfl) ?_
  refine lv_iconst (v := 5) hx hb dL_law_261 (by decide) ?_
  refine lv_iadd hx hb dL_law_262 ?_
  refine z_topi (y := nI (i + 5)) (li_5 i) ?_
  refine va_sld hx hb hX hbl hbA hS (vp_in_nI (by omega) (by omega)) dL_law_263 ?_
  refine z_topi (y := i2 (xs (i + 5)).toInt) (by rw [nI_clamp (by omega), i2_of]) ?_
  refine ywV (r0 := i2 r2) (As := [.int (i2 (xs (i + 1)).toInt), .int (i2 (xs (i + 2)).toInt), .int (i2 (xs (i + 3)).toInt), .int (i2 (xs (i + 4)).toInt), .int (i2 (xs (i + 5)).toInt)]) (rest := []) (C := RX12) (n := 5) (ws' := XW D ax1 x1 ps1 ++ RW D am t1) ⟨hx, hb, hml, hown, ht⟩ (yWi_c (yWi_f (XW D ax1 x1 ps1) (k_x12_feed l D am (xs (i + 1)).toInt (xs (i + 2)).toInt (xs (i + 3)).toInt (xs (i + 4)).toInt (xs (i + 5)).toInt _ _ _ h2))) (zgV ml_L_17 im_X12_feed se_X12_feed in_X12 co_X12_feed) rfl rfl (by decide +kernel) ⟨Nat.le_of_ble_eq_true rfl, Nat.le_of_ble_eq_true rfl⟩ hN hK hP hD hS hA (XW D ax1 x1 ps1).length (ap_h RW_0) rfl rfl rfl hl.1 rfl (Nat.le_of_ble_eq_true rfl) dL_law_264 hcs (fun H locs hP hS => ?_)
  have hD : va_D A (XW D ax1 x1 ps1 ++ RW D am t1) := XR_D hD
  refine lv_pop hx hb dL_law_267 rfl ?_
  refine lv_goto (tgt := 1298) hx hb dL_law_268 (by decide) ?_
  exact kk ax1 ps1 _ _ hax hts1 hP hD hS
set_option maxHeartbeats 4000000 in
set_option maxRecDepth 100000 in
/-- end -/
theorem lc_1 {p : Program} (l : Launch) {e : Env} {s₀ : State} {m : MethodId} {below : List Frame} {meth : Method} {c : Code} {b L : Nat} {xs : Nat → Int32} {A : Nat → Prop} {D : va_G} (hx : p.tables.exec = Jvm.exec) (hb : c.code = cL_law) (hml : c.maxLocals = 4) (hown : s₀.vm.findClass RL = some m.cls) (ht : ∀ w ∈ lw_gd, w.before #[Value.ref b] s₀ = true) (hX : va_X b L xs s₀ s₀.heap) (hbl : b < s₀.heap.size) (hbA : ¬ A b) (hA : ∀ q, s₀.heap.size ≤ q → A q) (hK : va_K D vwCl (TY D) s₀) (hN : NN s₀) (hL : L ≤ 3072) {i : Nat} {H : Heap} {locs : List Loc} {ls : Array Slot} {ax am : Nat → Nat} {ps : List ((Nat → Nat) × MS)} (x x1 : MS) (ts : List MS) (r : Int) (t t1 : MS) (r2 : Int) {cells slots : Nat} (hcs : cells + 9 ≤ 600000 ∧ slots + 795 ≤ 7302249) (hi : i + 5 < L) (hts : ps.map Prod.snd = ts) (hP : va_P D vwCl (XW D ax x ps ++ RW D am t) H) (hD : va_D A (XW D ax x ps ++ RW D am t)) (hS : va_S A s₀.heap H locs) (hl : lv_has ls 4 [(3, .int (nI i)), (2, .ref (am 200)), (1, .ref (ax 0)), (0, .ref b)]) (h1 : m_x11_end (xs (i + 1)).toInt x = some (r, x1)) (h2 : m_x12_end (xs (i + 1)).toInt t = some (r2, t1))
    (kk : ∀ (ax1 : Nat → Nat) (ps1 : List ((Nat → Nat) × MS)) (H : Heap) (locs : List Loc), ax1 0 = ax 0 → ps1.map Prod.snd = ts → va_P D vwCl (XW D ax1 x1 ps1 ++ RW D am t1) H → va_D A (XW D ax1 x1 ps1 ++ RW D am t1) → va_S A s₀.heap H locs → W p l e room_1 s₀ m #[Value.ref b] below meth c H locs (cells + 9) (slots + 795) (lw_Z below #[Value.ref b] s₀) (F0 m 1298 ls [])) : W p l e room_1 s₀ m #[Value.ref b] below meth c H locs cells slots (lw_Z below #[Value.ref b] s₀) (F0 m 271 ls []) := by
  refine lv_aload_n hx hb dL_law_271 rfl (lv_at hl 2 rfl) ?_
  refine lv_aload_n hx hb dL_law_272 rfl (lv_at hl 3 rfl) ?_
  refine lv_iload_n hx hb dL_law_273 rfl (lv_at hl 0 rfl) ?_
  refine lv_iconst (v := 1) hx hb dL_law_274 (by decide) ?_
  refine lv_iadd hx hb dL_law_275 ?_
  refine z_topi (y := nI (i + 1)) (li_1 i) ?_
  refine va_sld hx hb hX hbl hbA hS (vp_in_nI (by omega) (by omega)) dL_law_276 ?_
  refine z_topi (y := i2 (xs (i + 1)).toInt) (by rw [nI_clamp (by omega), i2_of]) ?_
  obtain ⟨ps1, hps⟩ : ∃ z, z = ps := ⟨ps, rfl⟩
  obtain ⟨ax1, hax1⟩ : ∃ z, z = ax := ⟨ax, rfl⟩
  refine ywV (r0 := i2 r) (As := [.int (i2 (xs (i + 1)).toInt)]) (rest := []) (C := RX11) (n := 1) (ws' := XW D ax x1 ps ++ RW D am t) ⟨hx, hb, hml, hown, ht⟩ (yWi_f _ (yWi_f _ (k_x11_end l D ax (xs (i + 1)).toInt _ _ _ h1))) (zgV ml_L_18 im_X11_end se_X11_end in_X11 co_X11_end) rfl rfl (by decide +kernel) ⟨Nat.le_of_ble_eq_true rfl, Nat.le_of_ble_eq_true rfl⟩ hN hK hP hD hS hA 0 (ap_g (ap_g CW_0)) rfl rfl rfl hl.1 rfl (Nat.le_of_ble_eq_true rfl) dL_law_277 ⟨Nat.le_trans (Nat.le_add_right _ _) hcs.1, Nat.le_trans (Nat.le_add_right _ _) hcs.2⟩ (fun H locs hP hS => ?_)
  have hD : va_D A (XW D ax x1 ps ++ RW D am t) := XR_D hD
  have hax : ax1 0 = ax 0 := by rw [hax1]
  have hts1 : ps1.map Prod.snd = ts := by rw [hps]; exact hts
  rw [← hps, ← hax1] at hP hD
  refine W.widen (k := cells + 9) (n := slots + 795) (Nat.le_add_right _ _) (Nat.le_add_right _ _) ?_
  refine lv_pop hx hb dL_law_280 rfl ?_
  refine lv_aload_n hx hb dL_law_281 rfl (lv_at hl 1 rfl) ?_
  refine lv_aload_n hx hb dL_law_282 rfl (lv_at hl 3 rfl) ?_
  refine lv_iload_n hx hb dL_law_283 rfl (lv_at hl 0 rfl) ?_
  refine lv_iconst (v := 1) hx hb dL_law_284 (by decide) ?_
  refine lv_iadd hx hb dL_law_285 ?_
  refine z_topi (y := nI (i + 1)) (li_1 i) ?_
  refine va_sld hx hb hX hbl hbA hS (vp_in_nI (by omega) (by omega)) dL_law_286 ?_
  refine z_topi (y := i2 (xs (i + 1)).toInt) (by rw [nI_clamp (by omega), i2_of]) ?_
  refine ywV (r0 := i2 r2) (As := [.int (i2 (xs (i + 1)).toInt)]) (rest := []) (C := RX12) (n := 1) (ws' := XW D ax1 x1 ps1 ++ RW D am t1) ⟨hx, hb, hml, hown, ht⟩ (yWi_c (yWi_f (XW D ax1 x1 ps1) (k_x12_end l D am (xs (i + 1)).toInt _ _ _ h2))) (zgV ml_L_22 im_X12_end se_X12_end in_X12 co_X12_end) rfl rfl (by decide +kernel) ⟨Nat.le_of_ble_eq_true rfl, Nat.le_of_ble_eq_true rfl⟩ hN hK hP hD hS hA (XW D ax1 x1 ps1).length (ap_h RW_0) rfl rfl rfl hl.1 rfl (Nat.le_of_ble_eq_true rfl) dL_law_287 hcs (fun H locs hP hS => ?_)
  have hD : va_D A (XW D ax1 x1 ps1 ++ RW D am t1) := XR_D hD
  refine lv_pop hx hb dL_law_290 rfl ?_
  refine lv_goto (tgt := 1298) hx hb dL_law_291 (by decide) ?_
  exact kk ax1 ps1 _ _ hax hts1 hP hD hS
set_option maxHeartbeats 4000000 in
set_option maxRecDepth 100000 in
/-- store -/
theorem lc_2 {p : Program} (l : Launch) {e : Env} {s₀ : State} {m : MethodId} {below : List Frame} {meth : Method} {c : Code} {b L : Nat} {xs : Nat → Int32} {A : Nat → Prop} {D : va_G} (hx : p.tables.exec = Jvm.exec) (hb : c.code = cL_law) (hml : c.maxLocals = 4) (hown : s₀.vm.findClass RL = some m.cls) (ht : ∀ w ∈ lw_gd, w.before #[Value.ref b] s₀ = true) (hX : va_X b L xs s₀ s₀.heap) (hbl : b < s₀.heap.size) (hbA : ¬ A b) (hA : ∀ q, s₀.heap.size ≤ q → A q) (hK : va_K D vwCl (TY D) s₀) (hN : NN s₀) (hL : L ≤ 3072) {i : Nat} {H : Heap} {locs : List Loc} {ls : Array Slot} {ax am : Nat → Nat} {ps : List ((Nat → Nat) × MS)} (x x1 : MS) (ts : List MS) (r : Int) (t t1 : MS) (r2 : Int) {cells slots : Nat} (hcs : cells + 9 ≤ 600000 ∧ slots + 795 ≤ 7302249) (hi : i + 5 < L) (hts : ps.map Prod.snd = ts) (hP : va_P D vwCl (XW D ax x ps ++ RW D am t) H) (hD : va_D A (XW D ax x ps ++ RW D am t)) (hS : va_S A s₀.heap H locs) (hl : lv_has ls 4 [(3, .int (nI i)), (2, .ref (am 200)), (1, .ref (ax 0)), (0, .ref b)]) (h1 : m_x11_store x = some (r, x1)) (h2 : m_x12_store t = some (r2, t1))
    (kk : ∀ (ax1 : Nat → Nat) (ps1 : List ((Nat → Nat) × MS)) (H : Heap) (locs : List Loc), ax1 0 = ax 0 → ps1.map Prod.snd = ts → va_P D vwCl (XW D ax1 x1 ps1 ++ RW D am t1) H → va_D A (XW D ax1 x1 ps1 ++ RW D am t1) → va_S A s₀.heap H locs → W p l e room_1 s₀ m #[Value.ref b] below meth c H locs (cells + 9) (slots + 795) (lw_Z below #[Value.ref b] s₀) (F0 m 1298 ls [])) : W p l e room_1 s₀ m #[Value.ref b] below meth c H locs cells slots (lw_Z below #[Value.ref b] s₀) (F0 m 294 ls []) := by
  refine lv_aload_n hx hb dL_law_294 rfl (lv_at hl 2 rfl) ?_
  refine ywG (As := []) (rest := []) (C := RX11) (n := 0) ⟨hx, hb, hml, hown, ht⟩ (yGi_f (RW D am t) (yGi_f (PT D (ax 90) ps) (k_x11_store l D ax _ x (r, x1) h1))) (zgV ml_L_23 im_X11_store se_X11_store in_X11 co_X11_store) rfl rfl (by decide +kernel) ⟨Nat.le_of_ble_eq_true rfl, Nat.le_of_ble_eq_true rfl⟩ hN hK hP hD hS hA 0 (ap_g (ap_g CW_0)) rfl rfl rfl hl.1 rfl (Nat.le_of_ble_eq_true rfl) dL_law_295 ⟨Nat.le_trans (Nat.le_add_right _ _) hcs.1, Nat.le_trans (Nat.le_add_right _ _) hcs.2⟩ (fun rr ax1 H locs hw hP hD hS => ?_)
  obtain ⟨hrr, hu⟩ := hw
  have hrr : rr = i2 r := hrr
  subst hrr
  have hax : ax1 0 = ax 0 := hu 0 (by decide)
  have hts1 := hts
  obtain ⟨ps1, hps⟩ : ∃ z, z = ps := ⟨ps, rfl⟩
  rw [← hps] at hP hD hts1
  rw [← hu 90 (by decide)] at hP hD
  have hP : va_P D vwCl (XW D ax1 x1 ps1 ++ RW D am t) H := hP
  have hD : va_D A (XW D ax1 x1 ps1 ++ RW D am t) := hD
  refine W.widen (k := cells + 9) (n := slots + 795) (Nat.le_add_right _ _) (Nat.le_add_right _ _) ?_
  refine lv_pop hx hb dL_law_298 rfl ?_
  refine lv_aload_n hx hb dL_law_299 rfl (lv_at hl 1 rfl) ?_
  refine ywV (r0 := i2 r2) (As := []) (rest := []) (C := RX12) (n := 0) (ws' := XW D ax1 x1 ps1 ++ RW D am t1) ⟨hx, hb, hml, hown, ht⟩ (yWi_c (yWi_f (XW D ax1 x1 ps1) (k_x12_store l D am _ _ _ h2))) (zgV ml_L_27 im_X12_store se_X12_store in_X12 co_X12_store) rfl rfl (by decide +kernel) ⟨Nat.le_of_ble_eq_true rfl, Nat.le_of_ble_eq_true rfl⟩ hN hK hP hD hS hA (XW D ax1 x1 ps1).length (ap_h RW_0) rfl rfl rfl hl.1 rfl (Nat.le_of_ble_eq_true rfl) dL_law_300 hcs (fun H locs hP hS => ?_)
  have hD : va_D A (XW D ax1 x1 ps1 ++ RW D am t1) := XR_D hD
  refine lv_pop hx hb dL_law_303 rfl ?_
  refine lv_goto (tgt := 1298) hx hb dL_law_304 (by decide) ?_
  exact kk ax1 ps1 _ _ hax hts1 hP hD hS
set_option maxHeartbeats 4000000 in
set_option maxRecDepth 100000 in
/-- fault -/
theorem lc_3 {p : Program} (l : Launch) {e : Env} {s₀ : State} {m : MethodId} {below : List Frame} {meth : Method} {c : Code} {b L : Nat} {xs : Nat → Int32} {A : Nat → Prop} {D : va_G} (hx : p.tables.exec = Jvm.exec) (hb : c.code = cL_law) (hml : c.maxLocals = 4) (hown : s₀.vm.findClass RL = some m.cls) (ht : ∀ w ∈ lw_gd, w.before #[Value.ref b] s₀ = true) (hX : va_X b L xs s₀ s₀.heap) (hbl : b < s₀.heap.size) (hbA : ¬ A b) (hA : ∀ q, s₀.heap.size ≤ q → A q) (hK : va_K D vwCl (TY D) s₀) (hN : NN s₀) (hL : L ≤ 3072) {i : Nat} {H : Heap} {locs : List Loc} {ls : Array Slot} {ax am : Nat → Nat} {ps : List ((Nat → Nat) × MS)} (x : MS) (ts : List MS) (r : Int) (t : MS) (r2 : Int) {cells slots : Nat} (hcs : cells + 9 ≤ 600000 ∧ slots + 795 ≤ 7302249) (hi : i + 5 < L) (hts : ps.map Prod.snd = ts) (hP : va_P D vwCl (XW D ax x ps ++ RW D am t) H) (hD : va_D A (XW D ax x ps ++ RW D am t)) (hS : va_S A s₀.heap H locs) (hl : lv_has ls 4 [(3, .int (nI i)), (2, .ref (am 200)), (1, .ref (ax 0)), (0, .ref b)]) (h1 : m_x11_fault (xs (i + 1)).toInt x = some r) (h2 : m_x12_fault (xs (i + 1)).toInt t = some r2)
    (kk : ∀ (ax1 : Nat → Nat) (ps1 : List ((Nat → Nat) × MS)) (H : Heap) (locs : List Loc), ax1 0 = ax 0 → ps1.map Prod.snd = ts → va_P D vwCl (XW D ax1 x ps1 ++ RW D am t) H → va_D A (XW D ax1 x ps1 ++ RW D am t) → va_S A s₀.heap H locs → W p l e room_1 s₀ m #[Value.ref b] below meth c H locs (cells + 9) (slots + 795) (lw_Z below #[Value.ref b] s₀) (F0 m 1298 ls [])) : W p l e room_1 s₀ m #[Value.ref b] below meth c H locs cells slots (lw_Z below #[Value.ref b] s₀) (F0 m 307 ls []) := by
  refine lv_aload_n hx hb dL_law_307 rfl (lv_at hl 2 rfl) ?_
  refine lv_aload_n hx hb dL_law_308 rfl (lv_at hl 3 rfl) ?_
  refine lv_iload_n hx hb dL_law_309 rfl (lv_at hl 0 rfl) ?_
  refine lv_iconst (v := 1) hx hb dL_law_310 (by decide) ?_
  refine lv_iadd hx hb dL_law_311 ?_
  refine z_topi (y := nI (i + 1)) (li_1 i) ?_
  refine va_sld hx hb hX hbl hbA hS (vp_in_nI (by omega) (by omega)) dL_law_312 ?_
  refine z_topi (y := i2 (xs (i + 1)).toInt) (by rw [nI_clamp (by omega), i2_of]) ?_
  obtain ⟨ps1, hps⟩ : ∃ z, z = ps := ⟨ps, rfl⟩
  obtain ⟨ax1, hax1⟩ : ∃ z, z = ax := ⟨ax, rfl⟩
  refine ycV (r0 := i2 r) (As := [.int (i2 (xs (i + 1)).toInt)]) (rest := []) (C := RX11) (n := 1) ⟨hx, hb, hml, hown, ht⟩ (yRi_f _ (yRi_f _ (k_x11_fault l D ax (xs (i + 1)).toInt _ _ h1))) (zgV ml_L_28 im_X11_fault se_X11_fault in_X11 co_X11_fault) rfl rfl (by decide +kernel) ⟨Nat.le_of_ble_eq_true rfl, Nat.le_of_ble_eq_true rfl⟩ hN hK hP hS 0 (ap_g (ap_g CW_0)) rfl rfl rfl hl.1 rfl (Nat.le_of_ble_eq_true rfl) dL_law_313 ⟨Nat.le_trans (Nat.le_add_right _ _) hcs.1, Nat.le_trans (Nat.le_add_right _ _) hcs.2⟩ (fun H locs hP hS => ?_)
  have hax : ax1 0 = ax 0 := by rw [hax1]
  have hts1 : ps1.map Prod.snd = ts := by rw [hps]; exact hts
  rw [← hps, ← hax1] at hP hD
  refine W.widen (k := cells + 9) (n := slots + 795) (Nat.le_add_right _ _) (Nat.le_add_right _ _) ?_
  refine lv_pop hx hb dL_law_316 rfl ?_
  refine lv_aload_n hx hb dL_law_317 rfl (lv_at hl 1 rfl) ?_
  refine lv_aload_n hx hb dL_law_318 rfl (lv_at hl 3 rfl) ?_
  refine lv_iload_n hx hb dL_law_319 rfl (lv_at hl 0 rfl) ?_
  refine lv_iconst (v := 1) hx hb dL_law_320 (by decide) ?_
  refine lv_iadd hx hb dL_law_321 ?_
  refine z_topi (y := nI (i + 1)) (li_1 i) ?_
  refine va_sld hx hb hX hbl hbA hS (vp_in_nI (by omega) (by omega)) dL_law_322 ?_
  refine z_topi (y := i2 (xs (i + 1)).toInt) (by rw [nI_clamp (by omega), i2_of]) ?_
  refine ycV (r0 := i2 r2) (As := [.int (i2 (xs (i + 1)).toInt)]) (rest := []) (C := RX12) (n := 1) ⟨hx, hb, hml, hown, ht⟩ (yRi_c (T := XW D ax1 x ps1) (k_x12_fault l D am (xs (i + 1)).toInt _ _ h2)) (zgV ml_L_32 im_X12_fault se_X12_fault in_X12 co_X12_fault) rfl rfl (by decide +kernel) ⟨Nat.le_of_ble_eq_true rfl, Nat.le_of_ble_eq_true rfl⟩ hN hK hP hS (XW D ax1 x ps1).length (ap_h RW_0) rfl rfl rfl hl.1 rfl (Nat.le_of_ble_eq_true rfl) dL_law_323 hcs (fun H locs hP hS => ?_)
  refine lv_pop hx hb dL_law_326 rfl ?_
  refine lv_goto (tgt := 1298) hx hb dL_law_327 (by decide) ?_
  exact kk ax1 ps1 _ _ hax hts1 hP hD hS
set_option maxHeartbeats 4000000 in
set_option maxRecDepth 100000 in
/-- has -/
theorem lc_4 {p : Program} (l : Launch) {e : Env} {s₀ : State} {m : MethodId} {below : List Frame} {meth : Method} {c : Code} {b L : Nat} {xs : Nat → Int32} {A : Nat → Prop} {D : va_G} (hx : p.tables.exec = Jvm.exec) (hb : c.code = cL_law) (hml : c.maxLocals = 4) (hown : s₀.vm.findClass RL = some m.cls) (ht : ∀ w ∈ lw_gd, w.before #[Value.ref b] s₀ = true) (hX : va_X b L xs s₀ s₀.heap) (hbl : b < s₀.heap.size) (hbA : ¬ A b) (hA : ∀ q, s₀.heap.size ≤ q → A q) (hK : va_K D vwCl (TY D) s₀) (hN : NN s₀) (hL : L ≤ 3072) {i : Nat} {H : Heap} {locs : List Loc} {ls : Array Slot} {ax am : Nat → Nat} {ps : List ((Nat → Nat) × MS)} (x : MS) (ts : List MS) (r : Int) (t : MS) (r2 : Int) {cells slots : Nat} (hcs : cells + 9 ≤ 600000 ∧ slots + 795 ≤ 7302249) (hi : i + 5 < L) (hts : ps.map Prod.snd = ts) (hP : va_P D vwCl (XW D ax x ps ++ RW D am t) H) (hD : va_D A (XW D ax x ps ++ RW D am t)) (hS : va_S A s₀.heap H locs) (hl : lv_has ls 4 [(3, .int (nI i)), (2, .ref (am 200)), (1, .ref (ax 0)), (0, .ref b)]) (h1 : m_x11_has (xs (i + 1)).toInt x = some r) (h2 : m_x12_has (xs (i + 1)).toInt t = some r2)
    (kk : ∀ (ax1 : Nat → Nat) (ps1 : List ((Nat → Nat) × MS)) (H : Heap) (locs : List Loc), ax1 0 = ax 0 → ps1.map Prod.snd = ts → va_P D vwCl (XW D ax1 x ps1 ++ RW D am t) H → va_D A (XW D ax1 x ps1 ++ RW D am t) → va_S A s₀.heap H locs → W p l e room_1 s₀ m #[Value.ref b] below meth c H locs (cells + 9) (slots + 795) (lw_Z below #[Value.ref b] s₀) (F0 m 1298 ls [])) : W p l e room_1 s₀ m #[Value.ref b] below meth c H locs cells slots (lw_Z below #[Value.ref b] s₀) (F0 m 330 ls []) := by
  refine lv_aload_n hx hb dL_law_330 rfl (lv_at hl 2 rfl) ?_
  refine lv_aload_n hx hb dL_law_331 rfl (lv_at hl 3 rfl) ?_
  refine lv_iload_n hx hb dL_law_332 rfl (lv_at hl 0 rfl) ?_
  refine lv_iconst (v := 1) hx hb dL_law_333 (by decide) ?_
  refine lv_iadd hx hb dL_law_334 ?_
  refine z_topi (y := nI (i + 1)) (li_1 i) ?_
  refine va_sld hx hb hX hbl hbA hS (vp_in_nI (by omega) (by omega)) dL_law_335 ?_
  refine z_topi (y := i2 (xs (i + 1)).toInt) (by rw [nI_clamp (by omega), i2_of]) ?_
  obtain ⟨ps1, hps⟩ : ∃ z, z = ps := ⟨ps, rfl⟩
  obtain ⟨ax1, hax1⟩ : ∃ z, z = ax := ⟨ax, rfl⟩
  refine ycV (r0 := i2 r) (As := [.int (i2 (xs (i + 1)).toInt)]) (rest := []) (C := RX11) (n := 1) ⟨hx, hb, hml, hown, ht⟩ (yRi_f _ (yRi_f _ (k_x11_has l D ax (xs (i + 1)).toInt _ _ h1))) (zgV ml_L_33 im_X11_has se_X11_has in_X11 co_X11_has) rfl rfl (by decide +kernel) ⟨Nat.le_of_ble_eq_true rfl, Nat.le_of_ble_eq_true rfl⟩ hN hK hP hS 0 (ap_g (ap_g CW_0)) rfl rfl rfl hl.1 rfl (Nat.le_of_ble_eq_true rfl) dL_law_336 ⟨Nat.le_trans (Nat.le_add_right _ _) hcs.1, Nat.le_trans (Nat.le_add_right _ _) hcs.2⟩ (fun H locs hP hS => ?_)
  have hax : ax1 0 = ax 0 := by rw [hax1]
  have hts1 : ps1.map Prod.snd = ts := by rw [hps]; exact hts
  rw [← hps, ← hax1] at hP hD
  refine W.widen (k := cells + 9) (n := slots + 795) (Nat.le_add_right _ _) (Nat.le_add_right _ _) ?_
  refine lv_pop hx hb dL_law_339 rfl ?_
  refine lv_aload_n hx hb dL_law_340 rfl (lv_at hl 1 rfl) ?_
  refine lv_aload_n hx hb dL_law_341 rfl (lv_at hl 3 rfl) ?_
  refine lv_iload_n hx hb dL_law_342 rfl (lv_at hl 0 rfl) ?_
  refine lv_iconst (v := 1) hx hb dL_law_343 (by decide) ?_
  refine lv_iadd hx hb dL_law_344 ?_
  refine z_topi (y := nI (i + 1)) (li_1 i) ?_
  refine va_sld hx hb hX hbl hbA hS (vp_in_nI (by omega) (by omega)) dL_law_345 ?_
  refine z_topi (y := i2 (xs (i + 1)).toInt) (by rw [nI_clamp (by omega), i2_of]) ?_
  refine ycV (r0 := i2 r2) (As := [.int (i2 (xs (i + 1)).toInt)]) (rest := []) (C := RX12) (n := 1) ⟨hx, hb, hml, hown, ht⟩ (yRi_c (T := XW D ax1 x ps1) (k_x12_has l D am (xs (i + 1)).toInt _ _ h2)) (zgV ml_L_36 im_X12_has se_X12_has in_X12 co_X12_has) rfl rfl (by decide +kernel) ⟨Nat.le_of_ble_eq_true rfl, Nat.le_of_ble_eq_true rfl⟩ hN hK hP hS (XW D ax1 x ps1).length (ap_h RW_0) rfl rfl rfl hl.1 rfl (Nat.le_of_ble_eq_true rfl) dL_law_346 hcs (fun H locs hP hS => ?_)
  refine lv_pop hx hb dL_law_349 rfl ?_
  refine lv_goto (tgt := 1298) hx hb dL_law_350 (by decide) ?_
  exact kk ax1 ps1 _ _ hax hts1 hP hD hS
set_option maxHeartbeats 4000000 in
set_option maxRecDepth 100000 in
/-- letter -/
theorem lc_5 {p : Program} (l : Launch) {e : Env} {s₀ : State} {m : MethodId} {below : List Frame} {meth : Method} {c : Code} {b L : Nat} {xs : Nat → Int32} {A : Nat → Prop} {D : va_G} (hx : p.tables.exec = Jvm.exec) (hb : c.code = cL_law) (hml : c.maxLocals = 4) (hown : s₀.vm.findClass RL = some m.cls) (ht : ∀ w ∈ lw_gd, w.before #[Value.ref b] s₀ = true) (hX : va_X b L xs s₀ s₀.heap) (hbl : b < s₀.heap.size) (hbA : ¬ A b) (hA : ∀ q, s₀.heap.size ≤ q → A q) (hK : va_K D vwCl (TY D) s₀) (hN : NN s₀) (hL : L ≤ 3072) {i : Nat} {H : Heap} {locs : List Loc} {ls : Array Slot} {ax am : Nat → Nat} {ps : List ((Nat → Nat) × MS)} (x : MS) (ts : List MS) (r : Int) (t : MS) (r2 : Int) {cells slots : Nat} (hcs : cells + 9 ≤ 600000 ∧ slots + 795 ≤ 7302249) (hi : i + 5 < L) (hts : ps.map Prod.snd = ts) (hP : va_P D vwCl (XW D ax x ps ++ RW D am t) H) (hD : va_D A (XW D ax x ps ++ RW D am t)) (hS : va_S A s₀.heap H locs) (hl : lv_has ls 4 [(3, .int (nI i)), (2, .ref (am 200)), (1, .ref (ax 0)), (0, .ref b)]) (h1 : m_x11_letter (xs (i + 1)).toInt (xs (i + 2)).toInt x = some r) (h2 : m_x12_letter (xs (i + 1)).toInt (xs (i + 2)).toInt t = some r2)
    (kk : ∀ (ax1 : Nat → Nat) (ps1 : List ((Nat → Nat) × MS)) (H : Heap) (locs : List Loc), ax1 0 = ax 0 → ps1.map Prod.snd = ts → va_P D vwCl (XW D ax1 x ps1 ++ RW D am t) H → va_D A (XW D ax1 x ps1 ++ RW D am t) → va_S A s₀.heap H locs → W p l e room_1 s₀ m #[Value.ref b] below meth c H locs (cells + 9) (slots + 795) (lw_Z below #[Value.ref b] s₀) (F0 m 1298 ls [])) : W p l e room_1 s₀ m #[Value.ref b] below meth c H locs cells slots (lw_Z below #[Value.ref b] s₀) (F0 m 353 ls []) := by
  refine lv_aload_n hx hb dL_law_353 rfl (lv_at hl 2 rfl) ?_
  refine lv_aload_n hx hb dL_law_354 rfl (lv_at hl 3 rfl) ?_
  refine lv_iload_n hx hb dL_law_355 rfl (lv_at hl 0 rfl) ?_
  refine lv_iconst (v := 1) hx hb dL_law_356 (by decide) ?_
  refine lv_iadd hx hb dL_law_357 ?_
  refine z_topi (y := nI (i + 1)) (li_1 i) ?_
  refine va_sld hx hb hX hbl hbA hS (vp_in_nI (by omega) (by omega)) dL_law_358 ?_
  refine z_topi (y := i2 (xs (i + 1)).toInt) (by rw [nI_clamp (by omega), i2_of]) ?_
  refine lv_aload_n hx hb dL_law_359 rfl (lv_at hl 3 rfl) ?_
  refine lv_iload_n hx hb dL_law_360 rfl (lv_at hl 0 rfl) ?_
  refine lv_iconst (v := 2) hx hb dL_law_361 (by decide) ?_
  refine lv_iadd hx hb dL_law_362 ?_
  refine z_topi (y := nI (i + 2)) (li_2 i) ?_
  refine va_sld hx hb hX hbl hbA hS (vp_in_nI (by omega) (by omega)) dL_law_363 ?_
  refine z_topi (y := i2 (xs (i + 2)).toInt) (by rw [nI_clamp (by omega), i2_of]) ?_
  obtain ⟨ps1, hps⟩ : ∃ z, z = ps := ⟨ps, rfl⟩
  obtain ⟨ax1, hax1⟩ : ∃ z, z = ax := ⟨ax, rfl⟩
  refine ycV (r0 := i2 r) (As := [.int (i2 (xs (i + 1)).toInt), .int (i2 (xs (i + 2)).toInt)]) (rest := []) (C := RX11) (n := 2) ⟨hx, hb, hml, hown, ht⟩ (yRi_f _ (yRi_f _ (k_x11_letter l D ax (xs (i + 1)).toInt (xs (i + 2)).toInt _ _ h1))) (zgV ml_L_37 im_X11_letter se_X11_letter in_X11 co_X11_letter) rfl rfl (by decide +kernel) ⟨Nat.le_of_ble_eq_true rfl, Nat.le_of_ble_eq_true rfl⟩ hN hK hP hS 0 (ap_g (ap_g CW_0)) rfl rfl rfl hl.1 rfl (Nat.le_of_ble_eq_true rfl) dL_law_364 ⟨Nat.le_trans (Nat.le_add_right _ _) hcs.1, Nat.le_trans (Nat.le_add_right _ _) hcs.2⟩ (fun H locs hP hS => ?_)
  have hax : ax1 0 = ax 0 := by rw [hax1]
  have hts1 : ps1.map Prod.snd = ts := by rw [hps]; exact hts
  rw [← hps, ← hax1] at hP hD
  refine W.widen (k := cells + 9) (n := slots + 795) (Nat.le_add_right _ _) (Nat.le_add_right _ _) ?_
  refine lv_pop hx hb dL_law_367 rfl ?_
  refine lv_aload_n hx hb dL_law_368 rfl (lv_at hl 1 rfl) ?_
  refine lv_aload_n hx hb dL_law_369 rfl (lv_at hl 3 rfl) ?_
  refine lv_iload_n hx hb dL_law_370 rfl (lv_at hl 0 rfl) ?_
  refine lv_iconst (v := 1) hx hb dL_law_371 (by decide) ?_
  refine lv_iadd hx hb dL_law_372 ?_
  refine z_topi (y := nI (i + 1)) (li_1 i) ?_
  refine va_sld hx hb hX hbl hbA hS (vp_in_nI (by omega) (by omega)) dL_law_373 ?_
  refine z_topi (y := i2 (xs (i + 1)).toInt) (by rw [nI_clamp (by omega), i2_of]) ?_
  refine lv_aload_n hx hb dL_law_374 rfl (lv_at hl 3 rfl) ?_
  refine lv_iload_n hx hb dL_law_375 rfl (lv_at hl 0 rfl) ?_
  refine lv_iconst (v := 2) hx hb dL_law_376 (by decide) ?_
  refine lv_iadd hx hb dL_law_377 ?_
  refine z_topi (y := nI (i + 2)) (li_2 i) ?_
  refine va_sld hx hb hX hbl hbA hS (vp_in_nI (by omega) (by omega)) dL_law_378 ?_
  refine z_topi (y := i2 (xs (i + 2)).toInt) (by rw [nI_clamp (by omega), i2_of]) ?_
  refine ycV (r0 := i2 r2) (As := [.int (i2 (xs (i + 1)).toInt), .int (i2 (xs (i + 2)).toInt)]) (rest := []) (C := RX12) (n := 2) ⟨hx, hb, hml, hown, ht⟩ (yRi_c (T := XW D ax1 x ps1) (k_x12_letter l D am (xs (i + 1)).toInt (xs (i + 2)).toInt _ _ h2)) (zgV ml_L_41 im_X12_letter se_X12_letter in_X12 co_X12_letter) rfl rfl (by decide +kernel) ⟨Nat.le_of_ble_eq_true rfl, Nat.le_of_ble_eq_true rfl⟩ hN hK hP hS (XW D ax1 x ps1).length (ap_h RW_0) rfl rfl rfl hl.1 rfl (Nat.le_of_ble_eq_true rfl) dL_law_379 hcs (fun H locs hP hS => ?_)
  refine lv_pop hx hb dL_law_382 rfl ?_
  refine lv_goto (tgt := 1298) hx hb dL_law_383 (by decide) ?_
  exact kk ax1 ps1 _ _ hax hts1 hP hD hS
set_option maxHeartbeats 4000000 in
set_option maxRecDepth 100000 in
/-- volume -/
theorem lc_6 {p : Program} (l : Launch) {e : Env} {s₀ : State} {m : MethodId} {below : List Frame} {meth : Method} {c : Code} {b L : Nat} {xs : Nat → Int32} {A : Nat → Prop} {D : va_G} (hx : p.tables.exec = Jvm.exec) (hb : c.code = cL_law) (hml : c.maxLocals = 4) (hown : s₀.vm.findClass RL = some m.cls) (ht : ∀ w ∈ lw_gd, w.before #[Value.ref b] s₀ = true) (hX : va_X b L xs s₀ s₀.heap) (hbl : b < s₀.heap.size) (hbA : ¬ A b) (hA : ∀ q, s₀.heap.size ≤ q → A q) (hK : va_K D vwCl (TY D) s₀) (hN : NN s₀) (hL : L ≤ 3072) {i : Nat} {H : Heap} {locs : List Loc} {ls : Array Slot} {ax am : Nat → Nat} {ps : List ((Nat → Nat) × MS)} (x x1 : MS) (ts : List MS) (r : Int) (t t1 : MS) (r2 : Int) {cells slots : Nat} (hcs : cells + 9 ≤ 600000 ∧ slots + 795 ≤ 7302249) (hi : i + 5 < L) (hts : ps.map Prod.snd = ts) (hP : va_P D vwCl (XW D ax x ps ++ RW D am t) H) (hD : va_D A (XW D ax x ps ++ RW D am t)) (hS : va_S A s₀.heap H locs) (hl : lv_has ls 4 [(3, .int (nI i)), (2, .ref (am 200)), (1, .ref (ax 0)), (0, .ref b)]) (h1 : m_x11_volume (xs (i + 1)).toInt (xs (i + 2)).toInt x = some (r, x1)) (h2 : m_x12_volume (xs (i + 1)).toInt (xs (i + 2)).toInt t = some (r2, t1))
    (kk : ∀ (ax1 : Nat → Nat) (ps1 : List ((Nat → Nat) × MS)) (H : Heap) (locs : List Loc), ax1 0 = ax 0 → ps1.map Prod.snd = ts → va_P D vwCl (XW D ax1 x1 ps1 ++ RW D am t1) H → va_D A (XW D ax1 x1 ps1 ++ RW D am t1) → va_S A s₀.heap H locs → W p l e room_1 s₀ m #[Value.ref b] below meth c H locs (cells + 9) (slots + 795) (lw_Z below #[Value.ref b] s₀) (F0 m 1298 ls [])) : W p l e room_1 s₀ m #[Value.ref b] below meth c H locs cells slots (lw_Z below #[Value.ref b] s₀) (F0 m 386 ls []) := by
  refine lv_aload_n hx hb dL_law_386 rfl (lv_at hl 2 rfl) ?_
  refine lv_aload_n hx hb dL_law_387 rfl (lv_at hl 3 rfl) ?_
  refine lv_iload_n hx hb dL_law_388 rfl (lv_at hl 0 rfl) ?_
  refine lv_iconst (v := 1) hx hb dL_law_389 (by decide) ?_
  refine lv_iadd hx hb dL_law_390 ?_
  refine z_topi (y := nI (i + 1)) (li_1 i) ?_
  refine va_sld hx hb hX hbl hbA hS (vp_in_nI (by omega) (by omega)) dL_law_391 ?_
  refine z_topi (y := i2 (xs (i + 1)).toInt) (by rw [nI_clamp (by omega), i2_of]) ?_
  refine lv_aload_n hx hb dL_law_392 rfl (lv_at hl 3 rfl) ?_
  refine lv_iload_n hx hb dL_law_393 rfl (lv_at hl 0 rfl) ?_
  refine lv_iconst (v := 2) hx hb dL_law_394 (by decide) ?_
  refine lv_iadd hx hb dL_law_395 ?_
  refine z_topi (y := nI (i + 2)) (li_2 i) ?_
  refine va_sld hx hb hX hbl hbA hS (vp_in_nI (by omega) (by omega)) dL_law_396 ?_
  refine z_topi (y := i2 (xs (i + 2)).toInt) (by rw [nI_clamp (by omega), i2_of]) ?_
  obtain ⟨ps1, hps⟩ : ∃ z, z = ps := ⟨ps, rfl⟩
  obtain ⟨ax1, hax1⟩ : ∃ z, z = ax := ⟨ax, rfl⟩
  refine ywV (r0 := i2 r) (As := [.int (i2 (xs (i + 1)).toInt), .int (i2 (xs (i + 2)).toInt)]) (rest := []) (C := RX11) (n := 2) (ws' := XW D ax x1 ps ++ RW D am t) ⟨hx, hb, hml, hown, ht⟩ (yWi_f _ (yWi_f _ (k_x11_volume l D ax (xs (i + 1)).toInt (xs (i + 2)).toInt _ _ _ h1))) (zgV ml_L_42 im_X11_volume se_X11_volume in_X11 co_X11_volume) rfl rfl (by decide +kernel) ⟨Nat.le_of_ble_eq_true rfl, Nat.le_of_ble_eq_true rfl⟩ hN hK hP hD hS hA 0 (ap_g (ap_g CW_0)) rfl rfl rfl hl.1 rfl (Nat.le_of_ble_eq_true rfl) dL_law_397 ⟨Nat.le_trans (Nat.le_add_right _ _) hcs.1, Nat.le_trans (Nat.le_add_right _ _) hcs.2⟩ (fun H locs hP hS => ?_)
  have hD : va_D A (XW D ax x1 ps ++ RW D am t) := XR_D hD
  have hax : ax1 0 = ax 0 := by rw [hax1]
  have hts1 : ps1.map Prod.snd = ts := by rw [hps]; exact hts
  rw [← hps, ← hax1] at hP hD
  refine W.widen (k := cells + 9) (n := slots + 795) (Nat.le_add_right _ _) (Nat.le_add_right _ _) ?_
  refine lv_pop hx hb dL_law_400 rfl ?_
  refine lv_aload_n hx hb dL_law_401 rfl (lv_at hl 1 rfl) ?_
  refine lv_aload_n hx hb dL_law_402 rfl (lv_at hl 3 rfl) ?_
  refine lv_iload_n hx hb dL_law_403 rfl (lv_at hl 0 rfl) ?_
  refine lv_iconst (v := 1) hx hb dL_law_404 (by decide) ?_
  refine lv_iadd hx hb dL_law_405 ?_
  refine z_topi (y := nI (i + 1)) (li_1 i) ?_
  refine va_sld hx hb hX hbl hbA hS (vp_in_nI (by omega) (by omega)) dL_law_406 ?_
  refine z_topi (y := i2 (xs (i + 1)).toInt) (by rw [nI_clamp (by omega), i2_of]) ?_
  refine lv_aload_n hx hb dL_law_407 rfl (lv_at hl 3 rfl) ?_
  refine lv_iload_n hx hb dL_law_408 rfl (lv_at hl 0 rfl) ?_
  refine lv_iconst (v := 2) hx hb dL_law_409 (by decide) ?_
  refine lv_iadd hx hb dL_law_410 ?_
  refine z_topi (y := nI (i + 2)) (li_2 i) ?_
  refine va_sld hx hb hX hbl hbA hS (vp_in_nI (by omega) (by omega)) dL_law_411 ?_
  refine z_topi (y := i2 (xs (i + 2)).toInt) (by rw [nI_clamp (by omega), i2_of]) ?_
  refine ywV (r0 := i2 r2) (As := [.int (i2 (xs (i + 1)).toInt), .int (i2 (xs (i + 2)).toInt)]) (rest := []) (C := RX12) (n := 2) (ws' := XW D ax1 x1 ps1 ++ RW D am t1) ⟨hx, hb, hml, hown, ht⟩ (yWi_c (yWi_f (XW D ax1 x1 ps1) (k_x12_volume l D am (xs (i + 1)).toInt (xs (i + 2)).toInt _ _ _ h2))) (zgV ml_L_45 im_X12_volume se_X12_volume in_X12 co_X12_volume) rfl rfl (by decide +kernel) ⟨Nat.le_of_ble_eq_true rfl, Nat.le_of_ble_eq_true rfl⟩ hN hK hP hD hS hA (XW D ax1 x1 ps1).length (ap_h RW_0) rfl rfl rfl hl.1 rfl (Nat.le_of_ble_eq_true rfl) dL_law_412 hcs (fun H locs hP hS => ?_)
  have hD : va_D A (XW D ax1 x1 ps1 ++ RW D am t1) := XR_D hD
  refine lv_pop hx hb dL_law_415 rfl ?_
  refine lv_goto (tgt := 1298) hx hb dL_law_416 (by decide) ?_
  exact kk ax1 ps1 _ _ hax hts1 hP hD hS
set_option maxHeartbeats 4000000 in
set_option maxRecDepth 100000 in
/-- block -/
theorem lc_7 {p : Program} (l : Launch) {e : Env} {s₀ : State} {m : MethodId} {below : List Frame} {meth : Method} {c : Code} {b L : Nat} {xs : Nat → Int32} {A : Nat → Prop} {D : va_G} (hx : p.tables.exec = Jvm.exec) (hb : c.code = cL_law) (hml : c.maxLocals = 4) (hown : s₀.vm.findClass RL = some m.cls) (ht : ∀ w ∈ lw_gd, w.before #[Value.ref b] s₀ = true) (hX : va_X b L xs s₀ s₀.heap) (hbl : b < s₀.heap.size) (hbA : ¬ A b) (hA : ∀ q, s₀.heap.size ≤ q → A q) (hK : va_K D vwCl (TY D) s₀) (hN : NN s₀) (hL : L ≤ 3072) {i : Nat} {H : Heap} {locs : List Loc} {ls : Array Slot} {ax am : Nat → Nat} {ps : List ((Nat → Nat) × MS)} (x : MS) (ts : List MS) (r : Int) (t : MS) (r2 : Int) {cells slots : Nat} (hcs : cells + 9 ≤ 600000 ∧ slots + 795 ≤ 7302249) (hi : i + 5 < L) (hts : ps.map Prod.snd = ts) (hP : va_P D vwCl (XW D ax x ps ++ RW D am t) H) (hD : va_D A (XW D ax x ps ++ RW D am t)) (hS : va_S A s₀.heap H locs) (hl : lv_has ls 4 [(3, .int (nI i)), (2, .ref (am 200)), (1, .ref (ax 0)), (0, .ref b)]) (h1 : m_x11_block (xs (i + 1)).toInt (xs (i + 2)).toInt x = some r) (h2 : m_x12_block (xs (i + 1)).toInt (xs (i + 2)).toInt t = some r2)
    (kk : ∀ (ax1 : Nat → Nat) (ps1 : List ((Nat → Nat) × MS)) (H : Heap) (locs : List Loc), ax1 0 = ax 0 → ps1.map Prod.snd = ts → va_P D vwCl (XW D ax1 x ps1 ++ RW D am t) H → va_D A (XW D ax1 x ps1 ++ RW D am t) → va_S A s₀.heap H locs → W p l e room_1 s₀ m #[Value.ref b] below meth c H locs (cells + 9) (slots + 795) (lw_Z below #[Value.ref b] s₀) (F0 m 1298 ls [])) : W p l e room_1 s₀ m #[Value.ref b] below meth c H locs cells slots (lw_Z below #[Value.ref b] s₀) (F0 m 419 ls []) := by
  refine lv_aload_n hx hb dL_law_419 rfl (lv_at hl 2 rfl) ?_
  refine lv_aload_n hx hb dL_law_420 rfl (lv_at hl 3 rfl) ?_
  refine lv_iload_n hx hb dL_law_421 rfl (lv_at hl 0 rfl) ?_
  refine lv_iconst (v := 1) hx hb dL_law_422 (by decide) ?_
  refine lv_iadd hx hb dL_law_423 ?_
  refine z_topi (y := nI (i + 1)) (li_1 i) ?_
  refine va_sld hx hb hX hbl hbA hS (vp_in_nI (by omega) (by omega)) dL_law_424 ?_
  refine z_topi (y := i2 (xs (i + 1)).toInt) (by rw [nI_clamp (by omega), i2_of]) ?_
  refine lv_aload_n hx hb dL_law_425 rfl (lv_at hl 3 rfl) ?_
  refine lv_iload_n hx hb dL_law_426 rfl (lv_at hl 0 rfl) ?_
  refine lv_iconst (v := 2) hx hb dL_law_427 (by decide) ?_
  refine lv_iadd hx hb dL_law_428 ?_
  refine z_topi (y := nI (i + 2)) (li_2 i) ?_
  refine va_sld hx hb hX hbl hbA hS (vp_in_nI (by omega) (by omega)) dL_law_429 ?_
  refine z_topi (y := i2 (xs (i + 2)).toInt) (by rw [nI_clamp (by omega), i2_of]) ?_
  obtain ⟨ps1, hps⟩ : ∃ z, z = ps := ⟨ps, rfl⟩
  obtain ⟨ax1, hax1⟩ : ∃ z, z = ax := ⟨ax, rfl⟩
  refine ycV (r0 := i2 r) (As := [.int (i2 (xs (i + 1)).toInt), .int (i2 (xs (i + 2)).toInt)]) (rest := []) (C := RX11) (n := 2) ⟨hx, hb, hml, hown, ht⟩ (yRi_f _ (yRi_f _ (k_x11_block l D ax (xs (i + 1)).toInt (xs (i + 2)).toInt _ _ h1))) (zgV ml_L_46 im_X11_block se_X11_block in_X11 co_X11_block) rfl rfl (by decide +kernel) ⟨Nat.le_of_ble_eq_true rfl, Nat.le_of_ble_eq_true rfl⟩ hN hK hP hS 0 (ap_g (ap_g CW_0)) rfl rfl rfl hl.1 rfl (Nat.le_of_ble_eq_true rfl) dL_law_430 ⟨Nat.le_trans (Nat.le_add_right _ _) hcs.1, Nat.le_trans (Nat.le_add_right _ _) hcs.2⟩ (fun H locs hP hS => ?_)
  have hax : ax1 0 = ax 0 := by rw [hax1]
  have hts1 : ps1.map Prod.snd = ts := by rw [hps]; exact hts
  rw [← hps, ← hax1] at hP hD
  refine W.widen (k := cells + 9) (n := slots + 795) (Nat.le_add_right _ _) (Nat.le_add_right _ _) ?_
  refine lv_pop hx hb dL_law_433 rfl ?_
  refine lv_aload_n hx hb dL_law_434 rfl (lv_at hl 1 rfl) ?_
  refine lv_aload_n hx hb dL_law_435 rfl (lv_at hl 3 rfl) ?_
  refine lv_iload_n hx hb dL_law_436 rfl (lv_at hl 0 rfl) ?_
  refine lv_iconst (v := 1) hx hb dL_law_437 (by decide) ?_
  refine lv_iadd hx hb dL_law_438 ?_
  refine z_topi (y := nI (i + 1)) (li_1 i) ?_
  refine va_sld hx hb hX hbl hbA hS (vp_in_nI (by omega) (by omega)) dL_law_439 ?_
  refine z_topi (y := i2 (xs (i + 1)).toInt) (by rw [nI_clamp (by omega), i2_of]) ?_
  refine lv_aload_n hx hb dL_law_440 rfl (lv_at hl 3 rfl) ?_
  refine lv_iload_n hx hb dL_law_441 rfl (lv_at hl 0 rfl) ?_
  refine lv_iconst (v := 2) hx hb dL_law_442 (by decide) ?_
  refine lv_iadd hx hb dL_law_443 ?_
  refine z_topi (y := nI (i + 2)) (li_2 i) ?_
  refine va_sld hx hb hX hbl hbA hS (vp_in_nI (by omega) (by omega)) dL_law_444 ?_
  refine z_topi (y := i2 (xs (i + 2)).toInt) (by rw [nI_clamp (by omega), i2_of]) ?_
  refine ycV (r0 := i2 r2) (As := [.int (i2 (xs (i + 1)).toInt), .int (i2 (xs (i + 2)).toInt)]) (rest := []) (C := RX12) (n := 2) ⟨hx, hb, hml, hown, ht⟩ (yRi_c (T := XW D ax1 x ps1) (k_x12_block l D am (xs (i + 1)).toInt (xs (i + 2)).toInt _ _ h2)) (zgV ml_L_49 im_X12_block se_X12_block in_X12 co_X12_block) rfl rfl (by decide +kernel) ⟨Nat.le_of_ble_eq_true rfl, Nat.le_of_ble_eq_true rfl⟩ hN hK hP hS (XW D ax1 x ps1).length (ap_h RW_0) rfl rfl rfl hl.1 rfl (Nat.le_of_ble_eq_true rfl) dL_law_445 hcs (fun H locs hP hS => ?_)
  refine lv_pop hx hb dL_law_448 rfl ?_
  refine lv_goto (tgt := 1298) hx hb dL_law_449 (by decide) ?_
  exact kk ax1 ps1 _ _ hax hts1 hP hD hS
set_option maxHeartbeats 4000000 in
set_option maxRecDepth 100000 in
/-- entry -/
theorem lc_8 {p : Program} (l : Launch) {e : Env} {s₀ : State} {m : MethodId} {below : List Frame} {meth : Method} {c : Code} {b L : Nat} {xs : Nat → Int32} {A : Nat → Prop} {D : va_G} (hx : p.tables.exec = Jvm.exec) (hb : c.code = cL_law) (hml : c.maxLocals = 4) (hown : s₀.vm.findClass RL = some m.cls) (ht : ∀ w ∈ lw_gd, w.before #[Value.ref b] s₀ = true) (hX : va_X b L xs s₀ s₀.heap) (hbl : b < s₀.heap.size) (hbA : ¬ A b) (hA : ∀ q, s₀.heap.size ≤ q → A q) (hK : va_K D vwCl (TY D) s₀) (hN : NN s₀) (hL : L ≤ 3072) {i : Nat} {H : Heap} {locs : List Loc} {ls : Array Slot} {ax am : Nat → Nat} {ps : List ((Nat → Nat) × MS)} (x : MS) (ts : List MS) (r : Int) (t : MS) (r2 : Int) {cells slots : Nat} (hcs : cells + 9 ≤ 600000 ∧ slots + 795 ≤ 7302249) (hi : i + 5 < L) (hts : ps.map Prod.snd = ts) (hP : va_P D vwCl (XW D ax x ps ++ RW D am t) H) (hD : va_D A (XW D ax x ps ++ RW D am t)) (hS : va_S A s₀.heap H locs) (hl : lv_has ls 4 [(3, .int (nI i)), (2, .ref (am 200)), (1, .ref (ax 0)), (0, .ref b)]) (h1 : m_x11_entry (xs (i + 1)).toInt (xs (i + 2)).toInt (xs (i + 3)).toInt x = some r) (h2 : m_x12_entry (xs (i + 1)).toInt (xs (i + 2)).toInt (xs (i + 3)).toInt t = some r2)
    (kk : ∀ (ax1 : Nat → Nat) (ps1 : List ((Nat → Nat) × MS)) (H : Heap) (locs : List Loc), ax1 0 = ax 0 → ps1.map Prod.snd = ts → va_P D vwCl (XW D ax1 x ps1 ++ RW D am t) H → va_D A (XW D ax1 x ps1 ++ RW D am t) → va_S A s₀.heap H locs → W p l e room_1 s₀ m #[Value.ref b] below meth c H locs (cells + 9) (slots + 795) (lw_Z below #[Value.ref b] s₀) (F0 m 1298 ls [])) : W p l e room_1 s₀ m #[Value.ref b] below meth c H locs cells slots (lw_Z below #[Value.ref b] s₀) (F0 m 452 ls []) := by
  refine lv_aload_n hx hb dL_law_452 rfl (lv_at hl 2 rfl) ?_
  refine lv_aload_n hx hb dL_law_453 rfl (lv_at hl 3 rfl) ?_
  refine lv_iload_n hx hb dL_law_454 rfl (lv_at hl 0 rfl) ?_
  refine lv_iconst (v := 1) hx hb dL_law_455 (by decide) ?_
  refine lv_iadd hx hb dL_law_456 ?_
  refine z_topi (y := nI (i + 1)) (li_1 i) ?_
  refine va_sld hx hb hX hbl hbA hS (vp_in_nI (by omega) (by omega)) dL_law_457 ?_
  refine z_topi (y := i2 (xs (i + 1)).toInt) (by rw [nI_clamp (by omega), i2_of]) ?_
  refine lv_aload_n hx hb dL_law_458 rfl (lv_at hl 3 rfl) ?_
  refine lv_iload_n hx hb dL_law_459 rfl (lv_at hl 0 rfl) ?_
  refine lv_iconst (v := 2) hx hb dL_law_460 (by decide) ?_
  refine lv_iadd hx hb dL_law_461 ?_
  refine z_topi (y := nI (i + 2)) (li_2 i) ?_
  refine va_sld hx hb hX hbl hbA hS (vp_in_nI (by omega) (by omega)) dL_law_462 ?_
  refine z_topi (y := i2 (xs (i + 2)).toInt) (by rw [nI_clamp (by omega), i2_of]) ?_
  refine lv_aload_n hx hb dL_law_463 rfl (lv_at hl 3 rfl) ?_
  refine lv_iload_n hx hb dL_law_464 rfl (lv_at hl 0 rfl) ?_
  refine lv_iconst (v := 3) hx hb dL_law_465 (by decide) ?_
  refine lv_iadd hx hb dL_law_466 ?_
  refine z_topi (y := nI (i + 3)) (li_3 i) ?_
  refine va_sld hx hb hX hbl hbA hS (vp_in_nI (by omega) (by omega)) dL_law_467 ?_
  refine z_topi (y := i2 (xs (i + 3)).toInt) (by rw [nI_clamp (by omega), i2_of]) ?_
  obtain ⟨ps1, hps⟩ : ∃ z, z = ps := ⟨ps, rfl⟩
  obtain ⟨ax1, hax1⟩ : ∃ z, z = ax := ⟨ax, rfl⟩
  refine ycV (r0 := i2 r) (As := [.int (i2 (xs (i + 1)).toInt), .int (i2 (xs (i + 2)).toInt), .int (i2 (xs (i + 3)).toInt)]) (rest := []) (C := RX11) (n := 3) ⟨hx, hb, hml, hown, ht⟩ (yRi_f _ (yRi_f _ (k_x11_entry l D ax (xs (i + 1)).toInt (xs (i + 2)).toInt (xs (i + 3)).toInt _ _ h1))) (zgV ml_L_50 im_X11_entry se_X11_entry in_X11 co_X11_entry) rfl rfl (by decide +kernel) ⟨Nat.le_of_ble_eq_true rfl, Nat.le_of_ble_eq_true rfl⟩ hN hK hP hS 0 (ap_g (ap_g CW_0)) rfl rfl rfl hl.1 rfl (Nat.le_of_ble_eq_true rfl) dL_law_468 ⟨Nat.le_trans (Nat.le_add_right _ _) hcs.1, Nat.le_trans (Nat.le_add_right _ _) hcs.2⟩ (fun H locs hP hS => ?_)
  have hax : ax1 0 = ax 0 := by rw [hax1]
  have hts1 : ps1.map Prod.snd = ts := by rw [hps]; exact hts
  rw [← hps, ← hax1] at hP hD
  refine W.widen (k := cells + 9) (n := slots + 795) (Nat.le_add_right _ _) (Nat.le_add_right _ _) ?_
  refine lv_pop hx hb dL_law_471 rfl ?_
  refine lv_aload_n hx hb dL_law_472 rfl (lv_at hl 1 rfl) ?_
  refine lv_aload_n hx hb dL_law_473 rfl (lv_at hl 3 rfl) ?_
  refine lv_iload_n hx hb dL_law_474 rfl (lv_at hl 0 rfl) ?_
  refine lv_iconst (v := 1) hx hb dL_law_475 (by decide) ?_
  refine lv_iadd hx hb dL_law_476 ?_
  refine z_topi (y := nI (i + 1)) (li_1 i) ?_
  refine va_sld hx hb hX hbl hbA hS (vp_in_nI (by omega) (by omega)) dL_law_477 ?_
  refine z_topi (y := i2 (xs (i + 1)).toInt) (by rw [nI_clamp (by omega), i2_of]) ?_
  refine lv_aload_n hx hb dL_law_478 rfl (lv_at hl 3 rfl) ?_
  refine lv_iload_n hx hb dL_law_479 rfl (lv_at hl 0 rfl) ?_
  refine lv_iconst (v := 2) hx hb dL_law_480 (by decide) ?_
  refine lv_iadd hx hb dL_law_481 ?_
  refine z_topi (y := nI (i + 2)) (li_2 i) ?_
  refine va_sld hx hb hX hbl hbA hS (vp_in_nI (by omega) (by omega)) dL_law_482 ?_
  refine z_topi (y := i2 (xs (i + 2)).toInt) (by rw [nI_clamp (by omega), i2_of]) ?_
  refine lv_aload_n hx hb dL_law_483 rfl (lv_at hl 3 rfl) ?_
  refine lv_iload_n hx hb dL_law_484 rfl (lv_at hl 0 rfl) ?_
  refine lv_iconst (v := 3) hx hb dL_law_485 (by decide) ?_
  refine lv_iadd hx hb dL_law_486 ?_
  refine z_topi (y := nI (i + 3)) (li_3 i) ?_
  refine va_sld hx hb hX hbl hbA hS (vp_in_nI (by omega) (by omega)) dL_law_487 ?_
  refine z_topi (y := i2 (xs (i + 3)).toInt) (by rw [nI_clamp (by omega), i2_of]) ?_
  refine ycV (r0 := i2 r2) (As := [.int (i2 (xs (i + 1)).toInt), .int (i2 (xs (i + 2)).toInt), .int (i2 (xs (i + 3)).toInt)]) (rest := []) (C := RX12) (n := 3) ⟨hx, hb, hml, hown, ht⟩ (yRi_c (T := XW D ax1 x ps1) (k_x12_entry l D am (xs (i + 1)).toInt (xs (i + 2)).toInt (xs (i + 3)).toInt _ _ h2)) (zgV ml_L_54 im_X12_entry se_X12_entry in_X12 co_X12_entry) rfl rfl (by decide +kernel) ⟨Nat.le_of_ble_eq_true rfl, Nat.le_of_ble_eq_true rfl⟩ hN hK hP hS (XW D ax1 x ps1).length (ap_h RW_0) rfl rfl rfl hl.1 rfl (Nat.le_of_ble_eq_true rfl) dL_law_488 hcs (fun H locs hP hS => ?_)
  refine lv_pop hx hb dL_law_491 rfl ?_
  refine lv_goto (tgt := 1298) hx hb dL_law_492 (by decide) ?_
  exact kk ax1 ps1 _ _ hax hts1 hP hD hS
set_option maxHeartbeats 4000000 in
set_option maxRecDepth 100000 in
/-- kept -/
theorem lc_9 {p : Program} (l : Launch) {e : Env} {s₀ : State} {m : MethodId} {below : List Frame} {meth : Method} {c : Code} {b L : Nat} {xs : Nat → Int32} {A : Nat → Prop} {D : va_G} (hx : p.tables.exec = Jvm.exec) (hb : c.code = cL_law) (hml : c.maxLocals = 4) (hown : s₀.vm.findClass RL = some m.cls) (ht : ∀ w ∈ lw_gd, w.before #[Value.ref b] s₀ = true) (hX : va_X b L xs s₀ s₀.heap) (hbl : b < s₀.heap.size) (hbA : ¬ A b) (hA : ∀ q, s₀.heap.size ≤ q → A q) (hK : va_K D vwCl (TY D) s₀) (hN : NN s₀) (hL : L ≤ 3072) {i : Nat} {H : Heap} {locs : List Loc} {ls : Array Slot} {ax am : Nat → Nat} {ps : List ((Nat → Nat) × MS)} (x : MS) (ts : List MS) (r : Int) (t : MS) (r2 : Int) {cells slots : Nat} (hcs : cells + 9 ≤ 600000 ∧ slots + 795 ≤ 7302249) (hi : i + 5 < L) (hts : ps.map Prod.snd = ts) (hP : va_P D vwCl (XW D ax x ps ++ RW D am t) H) (hD : va_D A (XW D ax x ps ++ RW D am t)) (hS : va_S A s₀.heap H locs) (hl : lv_has ls 4 [(3, .int (nI i)), (2, .ref (am 200)), (1, .ref (ax 0)), (0, .ref b)]) (h1 : m_x11_kept (xs (i + 1)).toInt (xs (i + 2)).toInt x = some r) (h2 : m_x12_kept (xs (i + 1)).toInt (xs (i + 2)).toInt t = some r2)
    (kk : ∀ (ax1 : Nat → Nat) (ps1 : List ((Nat → Nat) × MS)) (H : Heap) (locs : List Loc), ax1 0 = ax 0 → ps1.map Prod.snd = ts → va_P D vwCl (XW D ax1 x ps1 ++ RW D am t) H → va_D A (XW D ax1 x ps1 ++ RW D am t) → va_S A s₀.heap H locs → W p l e room_1 s₀ m #[Value.ref b] below meth c H locs (cells + 9) (slots + 795) (lw_Z below #[Value.ref b] s₀) (F0 m 1298 ls [])) : W p l e room_1 s₀ m #[Value.ref b] below meth c H locs cells slots (lw_Z below #[Value.ref b] s₀) (F0 m 495 ls []) := by
  refine lv_aload_n hx hb dL_law_495 rfl (lv_at hl 2 rfl) ?_
  refine lv_aload_n hx hb dL_law_496 rfl (lv_at hl 3 rfl) ?_
  refine lv_iload_n hx hb dL_law_497 rfl (lv_at hl 0 rfl) ?_
  refine lv_iconst (v := 1) hx hb dL_law_498 (by decide) ?_
  refine lv_iadd hx hb dL_law_499 ?_
  refine z_topi (y := nI (i + 1)) (li_1 i) ?_
  refine va_sld hx hb hX hbl hbA hS (vp_in_nI (by omega) (by omega)) dL_law_500 ?_
  refine z_topi (y := i2 (xs (i + 1)).toInt) (by rw [nI_clamp (by omega), i2_of]) ?_
  refine lv_aload_n hx hb dL_law_501 rfl (lv_at hl 3 rfl) ?_
  refine lv_iload_n hx hb dL_law_502 rfl (lv_at hl 0 rfl) ?_
  refine lv_iconst (v := 2) hx hb dL_law_503 (by decide) ?_
  refine lv_iadd hx hb dL_law_504 ?_
  refine z_topi (y := nI (i + 2)) (li_2 i) ?_
  refine va_sld hx hb hX hbl hbA hS (vp_in_nI (by omega) (by omega)) dL_law_505 ?_
  refine z_topi (y := i2 (xs (i + 2)).toInt) (by rw [nI_clamp (by omega), i2_of]) ?_
  obtain ⟨ps1, hps⟩ : ∃ z, z = ps := ⟨ps, rfl⟩
  obtain ⟨ax1, hax1⟩ : ∃ z, z = ax := ⟨ax, rfl⟩
  refine ycV (r0 := i2 r) (As := [.int (i2 (xs (i + 1)).toInt), .int (i2 (xs (i + 2)).toInt)]) (rest := []) (C := RX11) (n := 2) ⟨hx, hb, hml, hown, ht⟩ (yRi_f _ (yRi_f _ (k_x11_kept l D ax (xs (i + 1)).toInt (xs (i + 2)).toInt _ _ h1))) (zgV ml_L_55 im_X11_kept se_X11_kept in_X11 co_X11_kept) rfl rfl (by decide +kernel) ⟨Nat.le_of_ble_eq_true rfl, Nat.le_of_ble_eq_true rfl⟩ hN hK hP hS 0 (ap_g (ap_g CW_0)) rfl rfl rfl hl.1 rfl (Nat.le_of_ble_eq_true rfl) dL_law_506 ⟨Nat.le_trans (Nat.le_add_right _ _) hcs.1, Nat.le_trans (Nat.le_add_right _ _) hcs.2⟩ (fun H locs hP hS => ?_)
  have hax : ax1 0 = ax 0 := by rw [hax1]
  have hts1 : ps1.map Prod.snd = ts := by rw [hps]; exact hts
  rw [← hps, ← hax1] at hP hD
  refine W.widen (k := cells + 9) (n := slots + 795) (Nat.le_add_right _ _) (Nat.le_add_right _ _) ?_
  refine lv_pop hx hb dL_law_509 rfl ?_
  refine lv_aload_n hx hb dL_law_510 rfl (lv_at hl 1 rfl) ?_
  refine lv_aload_n hx hb dL_law_511 rfl (lv_at hl 3 rfl) ?_
  refine lv_iload_n hx hb dL_law_512 rfl (lv_at hl 0 rfl) ?_
  refine lv_iconst (v := 1) hx hb dL_law_513 (by decide) ?_
  refine lv_iadd hx hb dL_law_514 ?_
  refine z_topi (y := nI (i + 1)) (li_1 i) ?_
  refine va_sld hx hb hX hbl hbA hS (vp_in_nI (by omega) (by omega)) dL_law_515 ?_
  refine z_topi (y := i2 (xs (i + 1)).toInt) (by rw [nI_clamp (by omega), i2_of]) ?_
  refine lv_aload_n hx hb dL_law_516 rfl (lv_at hl 3 rfl) ?_
  refine lv_iload_n hx hb dL_law_517 rfl (lv_at hl 0 rfl) ?_
  refine lv_iconst (v := 2) hx hb dL_law_518 (by decide) ?_
  refine lv_iadd hx hb dL_law_519 ?_
  refine z_topi (y := nI (i + 2)) (li_2 i) ?_
  refine va_sld hx hb hX hbl hbA hS (vp_in_nI (by omega) (by omega)) dL_law_520 ?_
  refine z_topi (y := i2 (xs (i + 2)).toInt) (by rw [nI_clamp (by omega), i2_of]) ?_
  refine ycV (r0 := i2 r2) (As := [.int (i2 (xs (i + 1)).toInt), .int (i2 (xs (i + 2)).toInt)]) (rest := []) (C := RX12) (n := 2) ⟨hx, hb, hml, hown, ht⟩ (yRi_c (T := XW D ax1 x ps1) (k_x12_kept l D am (xs (i + 1)).toInt (xs (i + 2)).toInt _ _ h2)) (zgV ml_L_58 im_X12_kept se_X12_kept in_X12 co_X12_kept) rfl rfl (by decide +kernel) ⟨Nat.le_of_ble_eq_true rfl, Nat.le_of_ble_eq_true rfl⟩ hN hK hP hS (XW D ax1 x ps1).length (ap_h RW_0) rfl rfl rfl hl.1 rfl (Nat.le_of_ble_eq_true rfl) dL_law_521 hcs (fun H locs hP hS => ?_)
  refine lv_pop hx hb dL_law_524 rfl ?_
  refine lv_goto (tgt := 1298) hx hb dL_law_525 (by decide) ?_
  exact kk ax1 ps1 _ _ hax hts1 hP hD hS
set_option maxHeartbeats 4000000 in
set_option maxRecDepth 100000 in
/-- read -/
theorem lc_10 {p : Program} (l : Launch) {e : Env} {s₀ : State} {m : MethodId} {below : List Frame} {meth : Method} {c : Code} {b L : Nat} {xs : Nat → Int32} {A : Nat → Prop} {D : va_G} (hx : p.tables.exec = Jvm.exec) (hb : c.code = cL_law) (hml : c.maxLocals = 4) (hown : s₀.vm.findClass RL = some m.cls) (ht : ∀ w ∈ lw_gd, w.before #[Value.ref b] s₀ = true) (hX : va_X b L xs s₀ s₀.heap) (hbl : b < s₀.heap.size) (hbA : ¬ A b) (hA : ∀ q, s₀.heap.size ≤ q → A q) (hK : va_K D vwCl (TY D) s₀) (hN : NN s₀) (hL : L ≤ 3072) {i : Nat} {H : Heap} {locs : List Loc} {ls : Array Slot} {ax am : Nat → Nat} {ps : List ((Nat → Nat) × MS)} (x : MS) (ts : List MS) (r : Int) (t : MS) (r2 : Int) {cells slots : Nat} (hcs : cells + 9 ≤ 600000 ∧ slots + 795 ≤ 7302249) (hi : i + 5 < L) (hts : ps.map Prod.snd = ts) (hP : va_P D vwCl (XW D ax x ps ++ RW D am t) H) (hD : va_D A (XW D ax x ps ++ RW D am t)) (hS : va_S A s₀.heap H locs) (hl : lv_has ls 4 [(3, .int (nI i)), (2, .ref (am 200)), (1, .ref (ax 0)), (0, .ref b)]) (h1 : m_x11_read (xs (i + 1)).toInt (xs (i + 2)).toInt x = some r) (h2 : m_x12_read (xs (i + 1)).toInt (xs (i + 2)).toInt t = some r2)
    (kk : ∀ (ax1 : Nat → Nat) (ps1 : List ((Nat → Nat) × MS)) (H : Heap) (locs : List Loc), ax1 0 = ax 0 → ps1.map Prod.snd = ts → va_P D vwCl (XW D ax1 x ps1 ++ RW D am t) H → va_D A (XW D ax1 x ps1 ++ RW D am t) → va_S A s₀.heap H locs → W p l e room_1 s₀ m #[Value.ref b] below meth c H locs (cells + 9) (slots + 795) (lw_Z below #[Value.ref b] s₀) (F0 m 1298 ls [])) : W p l e room_1 s₀ m #[Value.ref b] below meth c H locs cells slots (lw_Z below #[Value.ref b] s₀) (F0 m 528 ls []) := by
  refine lv_aload_n hx hb dL_law_528 rfl (lv_at hl 2 rfl) ?_
  refine lv_aload_n hx hb dL_law_529 rfl (lv_at hl 3 rfl) ?_
  refine lv_iload_n hx hb dL_law_530 rfl (lv_at hl 0 rfl) ?_
  refine lv_iconst (v := 1) hx hb dL_law_531 (by decide) ?_
  refine lv_iadd hx hb dL_law_532 ?_
  refine z_topi (y := nI (i + 1)) (li_1 i) ?_
  refine va_sld hx hb hX hbl hbA hS (vp_in_nI (by omega) (by omega)) dL_law_533 ?_
  refine z_topi (y := i2 (xs (i + 1)).toInt) (by rw [nI_clamp (by omega), i2_of]) ?_
  refine lv_aload_n hx hb dL_law_534 rfl (lv_at hl 3 rfl) ?_
  refine lv_iload_n hx hb dL_law_535 rfl (lv_at hl 0 rfl) ?_
  refine lv_iconst (v := 2) hx hb dL_law_536 (by decide) ?_
  refine lv_iadd hx hb dL_law_537 ?_
  refine z_topi (y := nI (i + 2)) (li_2 i) ?_
  refine va_sld hx hb hX hbl hbA hS (vp_in_nI (by omega) (by omega)) dL_law_538 ?_
  refine z_topi (y := i2 (xs (i + 2)).toInt) (by rw [nI_clamp (by omega), i2_of]) ?_
  obtain ⟨ps1, hps⟩ : ∃ z, z = ps := ⟨ps, rfl⟩
  obtain ⟨ax1, hax1⟩ : ∃ z, z = ax := ⟨ax, rfl⟩
  refine ycV (r0 := i2 r) (As := [.int (i2 (xs (i + 1)).toInt), .int (i2 (xs (i + 2)).toInt)]) (rest := []) (C := RX11) (n := 2) ⟨hx, hb, hml, hown, ht⟩ (yRi_f _ (yRi_f _ (k_x11_read l D ax (xs (i + 1)).toInt (xs (i + 2)).toInt _ _ h1))) (zgV ml_L_59 im_X11_read se_X11_read in_X11 co_X11_read) rfl rfl (by decide +kernel) ⟨Nat.le_of_ble_eq_true rfl, Nat.le_of_ble_eq_true rfl⟩ hN hK hP hS 0 (ap_g (ap_g CW_0)) rfl rfl rfl hl.1 rfl (Nat.le_of_ble_eq_true rfl) dL_law_539 ⟨Nat.le_trans (Nat.le_add_right _ _) hcs.1, Nat.le_trans (Nat.le_add_right _ _) hcs.2⟩ (fun H locs hP hS => ?_)
  have hax : ax1 0 = ax 0 := by rw [hax1]
  have hts1 : ps1.map Prod.snd = ts := by rw [hps]; exact hts
  rw [← hps, ← hax1] at hP hD
  refine W.widen (k := cells + 9) (n := slots + 795) (Nat.le_add_right _ _) (Nat.le_add_right _ _) ?_
  refine lv_pop hx hb dL_law_542 rfl ?_
  refine lv_aload_n hx hb dL_law_543 rfl (lv_at hl 1 rfl) ?_
  refine lv_aload_n hx hb dL_law_544 rfl (lv_at hl 3 rfl) ?_
  refine lv_iload_n hx hb dL_law_545 rfl (lv_at hl 0 rfl) ?_
  refine lv_iconst (v := 1) hx hb dL_law_546 (by decide) ?_
  refine lv_iadd hx hb dL_law_547 ?_
  refine z_topi (y := nI (i + 1)) (li_1 i) ?_
  refine va_sld hx hb hX hbl hbA hS (vp_in_nI (by omega) (by omega)) dL_law_548 ?_
  refine z_topi (y := i2 (xs (i + 1)).toInt) (by rw [nI_clamp (by omega), i2_of]) ?_
  refine lv_aload_n hx hb dL_law_549 rfl (lv_at hl 3 rfl) ?_
  refine lv_iload_n hx hb dL_law_550 rfl (lv_at hl 0 rfl) ?_
  refine lv_iconst (v := 2) hx hb dL_law_551 (by decide) ?_
  refine lv_iadd hx hb dL_law_552 ?_
  refine z_topi (y := nI (i + 2)) (li_2 i) ?_
  refine va_sld hx hb hX hbl hbA hS (vp_in_nI (by omega) (by omega)) dL_law_553 ?_
  refine z_topi (y := i2 (xs (i + 2)).toInt) (by rw [nI_clamp (by omega), i2_of]) ?_
  refine ycV (r0 := i2 r2) (As := [.int (i2 (xs (i + 1)).toInt), .int (i2 (xs (i + 2)).toInt)]) (rest := []) (C := RX12) (n := 2) ⟨hx, hb, hml, hown, ht⟩ (yRi_c (T := XW D ax1 x ps1) (k_x12_read l D am (xs (i + 1)).toInt (xs (i + 2)).toInt _ _ h2)) (zgV ml_L_62 im_X12_read se_X12_read in_X12 co_X12_read) rfl rfl (by decide +kernel) ⟨Nat.le_of_ble_eq_true rfl, Nat.le_of_ble_eq_true rfl⟩ hN hK hP hS (XW D ax1 x ps1).length (ap_h RW_0) rfl rfl rfl hl.1 rfl (Nat.le_of_ble_eq_true rfl) dL_law_554 hcs (fun H locs hP hS => ?_)
  refine lv_pop hx hb dL_law_557 rfl ?_
  refine lv_goto (tgt := 1298) hx hb dL_law_558 (by decide) ?_
  exact kk ax1 ps1 _ _ hax hts1 hP hD hS
set_option maxHeartbeats 4000000 in
set_option maxRecDepth 100000 in
/-- key -/
theorem lc_11 {p : Program} (l : Launch) {e : Env} {s₀ : State} {m : MethodId} {below : List Frame} {meth : Method} {c : Code} {b L : Nat} {xs : Nat → Int32} {A : Nat → Prop} {D : va_G} (hx : p.tables.exec = Jvm.exec) (hb : c.code = cL_law) (hml : c.maxLocals = 4) (hown : s₀.vm.findClass RL = some m.cls) (ht : ∀ w ∈ lw_gd, w.before #[Value.ref b] s₀ = true) (hX : va_X b L xs s₀ s₀.heap) (hbl : b < s₀.heap.size) (hbA : ¬ A b) (hA : ∀ q, s₀.heap.size ≤ q → A q) (hK : va_K D vwCl (TY D) s₀) (hN : NN s₀) (hL : L ≤ 3072) {i : Nat} {H : Heap} {locs : List Loc} {ls : Array Slot} {ax am : Nat → Nat} {ps : List ((Nat → Nat) × MS)} (x x1 : MS) (ts : List MS) (r : Int) (t t1 : MS) (r2 : Int) {cells slots : Nat} (hcs : cells + 9 ≤ 600000 ∧ slots + 795 ≤ 7302249) (hi : i + 5 < L) (hts : ps.map Prod.snd = ts) (hP : va_P D vwCl (XW D ax x ps ++ RW D am t) H) (hD : va_D A (XW D ax x ps ++ RW D am t)) (hS : va_S A s₀.heap H locs) (hl : lv_has ls 4 [(3, .int (nI i)), (2, .ref (am 200)), (1, .ref (ax 0)), (0, .ref b)]) (h1 : m_x11_key (xs (i + 1)).toInt (xs (i + 2)).toInt x = some (r, x1)) (h2 : m_x12_key (xs (i + 1)).toInt (xs (i + 2)).toInt t = some (r2, t1))
    (kk : ∀ (ax1 : Nat → Nat) (ps1 : List ((Nat → Nat) × MS)) (H : Heap) (locs : List Loc), ax1 0 = ax 0 → ps1.map Prod.snd = ts → va_P D vwCl (XW D ax1 x1 ps1 ++ RW D am t1) H → va_D A (XW D ax1 x1 ps1 ++ RW D am t1) → va_S A s₀.heap H locs → W p l e room_1 s₀ m #[Value.ref b] below meth c H locs (cells + 9) (slots + 795) (lw_Z below #[Value.ref b] s₀) (F0 m 1298 ls [])) : W p l e room_1 s₀ m #[Value.ref b] below meth c H locs cells slots (lw_Z below #[Value.ref b] s₀) (F0 m 561 ls []) := by
  refine lv_aload_n hx hb dL_law_561 rfl (lv_at hl 2 rfl) ?_
  refine lv_aload_n hx hb dL_law_562 rfl (lv_at hl 3 rfl) ?_
  refine lv_iload_n hx hb dL_law_563 rfl (lv_at hl 0 rfl) ?_
  refine lv_iconst (v := 1) hx hb dL_law_564 (by decide) ?_
  refine lv_iadd hx hb dL_law_565 ?_
  refine z_topi (y := nI (i + 1)) (li_1 i) ?_
  refine va_sld hx hb hX hbl hbA hS (vp_in_nI (by omega) (by omega)) dL_law_566 ?_
  refine z_topi (y := i2 (xs (i + 1)).toInt) (by rw [nI_clamp (by omega), i2_of]) ?_
  refine lv_aload_n hx hb dL_law_567 rfl (lv_at hl 3 rfl) ?_
  refine lv_iload_n hx hb dL_law_568 rfl (lv_at hl 0 rfl) ?_
  refine lv_iconst (v := 2) hx hb dL_law_569 (by decide) ?_
  refine lv_iadd hx hb dL_law_570 ?_
  refine z_topi (y := nI (i + 2)) (li_2 i) ?_
  refine va_sld hx hb hX hbl hbA hS (vp_in_nI (by omega) (by omega)) dL_law_571 ?_
  refine z_topi (y := i2 (xs (i + 2)).toInt) (by rw [nI_clamp (by omega), i2_of]) ?_
  obtain ⟨ps1, hps⟩ : ∃ z, z = ps := ⟨ps, rfl⟩
  obtain ⟨ax1, hax1⟩ : ∃ z, z = ax := ⟨ax, rfl⟩
  refine ywV (r0 := i2 r) (As := [.int (i2 (xs (i + 1)).toInt), .int (i2 (xs (i + 2)).toInt)]) (rest := []) (C := RX11) (n := 2) (ws' := XW D ax x1 ps ++ RW D am t) ⟨hx, hb, hml, hown, ht⟩ (yWi_f _ (yWi_f _ (k_x11_key l D ax (xs (i + 1)).toInt (xs (i + 2)).toInt _ _ _ h1))) (zgV ml_L_63 im_X11_key se_X11_key in_X11 co_X11_key) rfl rfl (by decide +kernel) ⟨Nat.le_of_ble_eq_true rfl, Nat.le_of_ble_eq_true rfl⟩ hN hK hP hD hS hA 0 (ap_g (ap_g CW_0)) rfl rfl rfl hl.1 rfl (Nat.le_of_ble_eq_true rfl) dL_law_572 ⟨Nat.le_trans (Nat.le_add_right _ _) hcs.1, Nat.le_trans (Nat.le_add_right _ _) hcs.2⟩ (fun H locs hP hS => ?_)
  have hD : va_D A (XW D ax x1 ps ++ RW D am t) := XR_D hD
  have hax : ax1 0 = ax 0 := by rw [hax1]
  have hts1 : ps1.map Prod.snd = ts := by rw [hps]; exact hts
  rw [← hps, ← hax1] at hP hD
  refine W.widen (k := cells + 9) (n := slots + 795) (Nat.le_add_right _ _) (Nat.le_add_right _ _) ?_
  refine lv_pop hx hb dL_law_575 rfl ?_
  refine lv_aload_n hx hb dL_law_576 rfl (lv_at hl 1 rfl) ?_
  refine lv_aload_n hx hb dL_law_577 rfl (lv_at hl 3 rfl) ?_
  refine lv_iload_n hx hb dL_law_578 rfl (lv_at hl 0 rfl) ?_
  refine lv_iconst (v := 1) hx hb dL_law_579 (by decide) ?_
  refine lv_iadd hx hb dL_law_580 ?_
  refine z_topi (y := nI (i + 1)) (li_1 i) ?_
  refine va_sld hx hb hX hbl hbA hS (vp_in_nI (by omega) (by omega)) dL_law_581 ?_
  refine z_topi (y := i2 (xs (i + 1)).toInt) (by rw [nI_clamp (by omega), i2_of]) ?_
  refine lv_aload_n hx hb dL_law_582 rfl (lv_at hl 3 rfl) ?_
  refine lv_iload_n hx hb dL_law_583 rfl (lv_at hl 0 rfl) ?_
  refine lv_iconst (v := 2) hx hb dL_law_584 (by decide) ?_
  refine lv_iadd hx hb dL_law_585 ?_
  refine z_topi (y := nI (i + 2)) (li_2 i) ?_
  refine va_sld hx hb hX hbl hbA hS (vp_in_nI (by omega) (by omega)) dL_law_586 ?_
  refine z_topi (y := i2 (xs (i + 2)).toInt) (by rw [nI_clamp (by omega), i2_of]) ?_
  refine ywV (r0 := i2 r2) (As := [.int (i2 (xs (i + 1)).toInt), .int (i2 (xs (i + 2)).toInt)]) (rest := []) (C := RX12) (n := 2) (ws' := XW D ax1 x1 ps1 ++ RW D am t1) ⟨hx, hb, hml, hown, ht⟩ (yWi_c (yWi_f (XW D ax1 x1 ps1) (k_x12_key l D am (xs (i + 1)).toInt (xs (i + 2)).toInt _ _ _ h2))) (zgV ml_L_66 im_X12_key se_X12_key in_X12 co_X12_key) rfl rfl (by decide +kernel) ⟨Nat.le_of_ble_eq_true rfl, Nat.le_of_ble_eq_true rfl⟩ hN hK hP hD hS hA (XW D ax1 x1 ps1).length (ap_h RW_0) rfl rfl rfl hl.1 rfl (Nat.le_of_ble_eq_true rfl) dL_law_587 hcs (fun H locs hP hS => ?_)
  have hD : va_D A (XW D ax1 x1 ps1 ++ RW D am t1) := XR_D hD
  refine lv_pop hx hb dL_law_590 rfl ?_
  refine lv_goto (tgt := 1298) hx hb dL_law_591 (by decide) ?_
  exact kk ax1 ps1 _ _ hax hts1 hP hD hS
set_option maxHeartbeats 4000000 in
set_option maxRecDepth 100000 in
/-- total -/
theorem lc_12 {p : Program} (l : Launch) {e : Env} {s₀ : State} {m : MethodId} {below : List Frame} {meth : Method} {c : Code} {b L : Nat} {xs : Nat → Int32} {A : Nat → Prop} {D : va_G} (hx : p.tables.exec = Jvm.exec) (hb : c.code = cL_law) (hml : c.maxLocals = 4) (hown : s₀.vm.findClass RL = some m.cls) (ht : ∀ w ∈ lw_gd, w.before #[Value.ref b] s₀ = true) (hX : va_X b L xs s₀ s₀.heap) (hbl : b < s₀.heap.size) (hbA : ¬ A b) (hA : ∀ q, s₀.heap.size ≤ q → A q) (hK : va_K D vwCl (TY D) s₀) (hN : NN s₀) (hL : L ≤ 3072) {i : Nat} {H : Heap} {locs : List Loc} {ls : Array Slot} {ax am : Nat → Nat} {ps : List ((Nat → Nat) × MS)} (x x1 : MS) (ts : List MS) (r : Int) (t t1 : MS) (r2 : Int) {cells slots : Nat} (hcs : cells + 9 ≤ 600000 ∧ slots + 795 ≤ 7302249) (hi : i + 5 < L) (hts : ps.map Prod.snd = ts) (hP : va_P D vwCl (XW D ax x ps ++ RW D am t) H) (hD : va_D A (XW D ax x ps ++ RW D am t)) (hS : va_S A s₀.heap H locs) (hl : lv_has ls 4 [(3, .int (nI i)), (2, .ref (am 200)), (1, .ref (ax 0)), (0, .ref b)]) (h1 : m_x11_total (xs (i + 1)).toInt (xs (i + 2)).toInt (xs (i + 3)).toInt x = some (r, x1)) (h2 : m_x12_total (xs (i + 1)).toInt (xs (i + 2)).toInt (xs (i + 3)).toInt t = some (r2, t1))
    (kk : ∀ (ax1 : Nat → Nat) (ps1 : List ((Nat → Nat) × MS)) (H : Heap) (locs : List Loc), ax1 0 = ax 0 → ps1.map Prod.snd = ts → va_P D vwCl (XW D ax1 x1 ps1 ++ RW D am t1) H → va_D A (XW D ax1 x1 ps1 ++ RW D am t1) → va_S A s₀.heap H locs → W p l e room_1 s₀ m #[Value.ref b] below meth c H locs (cells + 9) (slots + 795) (lw_Z below #[Value.ref b] s₀) (F0 m 1298 ls [])) : W p l e room_1 s₀ m #[Value.ref b] below meth c H locs cells slots (lw_Z below #[Value.ref b] s₀) (F0 m 594 ls []) := by
  refine lv_aload_n hx hb dL_law_594 rfl (lv_at hl 2 rfl) ?_
  refine lv_aload_n hx hb dL_law_595 rfl (lv_at hl 3 rfl) ?_
  refine lv_iload_n hx hb dL_law_596 rfl (lv_at hl 0 rfl) ?_
  refine lv_iconst (v := 1) hx hb dL_law_597 (by decide) ?_
  refine lv_iadd hx hb dL_law_598 ?_
  refine z_topi (y := nI (i + 1)) (li_1 i) ?_
  refine va_sld hx hb hX hbl hbA hS (vp_in_nI (by omega) (by omega)) dL_law_599 ?_
  refine z_topi (y := i2 (xs (i + 1)).toInt) (by rw [nI_clamp (by omega), i2_of]) ?_
  refine lv_aload_n hx hb dL_law_600 rfl (lv_at hl 3 rfl) ?_
  refine lv_iload_n hx hb dL_law_601 rfl (lv_at hl 0 rfl) ?_
  refine lv_iconst (v := 2) hx hb dL_law_602 (by decide) ?_
  refine lv_iadd hx hb dL_law_603 ?_
  refine z_topi (y := nI (i + 2)) (li_2 i) ?_
  refine va_sld hx hb hX hbl hbA hS (vp_in_nI (by omega) (by omega)) dL_law_604 ?_
  refine z_topi (y := i2 (xs (i + 2)).toInt) (by rw [nI_clamp (by omega), i2_of]) ?_
  refine lv_aload_n hx hb dL_law_605 rfl (lv_at hl 3 rfl) ?_
  refine lv_iload_n hx hb dL_law_606 rfl (lv_at hl 0 rfl) ?_
  refine lv_iconst (v := 3) hx hb dL_law_607 (by decide) ?_
  refine lv_iadd hx hb dL_law_608 ?_
  refine z_topi (y := nI (i + 3)) (li_3 i) ?_
  refine va_sld hx hb hX hbl hbA hS (vp_in_nI (by omega) (by omega)) dL_law_609 ?_
  refine z_topi (y := i2 (xs (i + 3)).toInt) (by rw [nI_clamp (by omega), i2_of]) ?_
  obtain ⟨ps1, hps⟩ : ∃ z, z = ps := ⟨ps, rfl⟩
  obtain ⟨ax1, hax1⟩ : ∃ z, z = ax := ⟨ax, rfl⟩
  refine ywV (r0 := i2 r) (As := [.int (i2 (xs (i + 1)).toInt), .int (i2 (xs (i + 2)).toInt), .int (i2 (xs (i + 3)).toInt)]) (rest := []) (C := RX11) (n := 3) (ws' := XW D ax x1 ps ++ RW D am t) ⟨hx, hb, hml, hown, ht⟩ (yWi_f _ (yWi_f _ (k_x11_total l D ax (xs (i + 1)).toInt (xs (i + 2)).toInt (xs (i + 3)).toInt _ _ _ h1))) (zgV ml_L_67 im_X11_total se_X11_total in_X11 co_X11_total) rfl rfl (by decide +kernel) ⟨Nat.le_of_ble_eq_true rfl, Nat.le_of_ble_eq_true rfl⟩ hN hK hP hD hS hA 0 (ap_g (ap_g CW_0)) rfl rfl rfl hl.1 rfl (Nat.le_of_ble_eq_true rfl) dL_law_610 ⟨Nat.le_trans (Nat.le_add_right _ _) hcs.1, Nat.le_trans (Nat.le_add_right _ _) hcs.2⟩ (fun H locs hP hS => ?_)
  have hD : va_D A (XW D ax x1 ps ++ RW D am t) := XR_D hD
  have hax : ax1 0 = ax 0 := by rw [hax1]
  have hts1 : ps1.map Prod.snd = ts := by rw [hps]; exact hts
  rw [← hps, ← hax1] at hP hD
  refine W.widen (k := cells + 9) (n := slots + 795) (Nat.le_add_right _ _) (Nat.le_add_right _ _) ?_
  refine lv_pop hx hb dL_law_613 rfl ?_
  refine lv_aload_n hx hb dL_law_614 rfl (lv_at hl 1 rfl) ?_
  refine lv_aload_n hx hb dL_law_615 rfl (lv_at hl 3 rfl) ?_
  refine lv_iload_n hx hb dL_law_616 rfl (lv_at hl 0 rfl) ?_
  refine lv_iconst (v := 1) hx hb dL_law_617 (by decide) ?_
  refine lv_iadd hx hb dL_law_618 ?_
  refine z_topi (y := nI (i + 1)) (li_1 i) ?_
  refine va_sld hx hb hX hbl hbA hS (vp_in_nI (by omega) (by omega)) dL_law_619 ?_
  refine z_topi (y := i2 (xs (i + 1)).toInt) (by rw [nI_clamp (by omega), i2_of]) ?_
  refine lv_aload_n hx hb dL_law_620 rfl (lv_at hl 3 rfl) ?_
  refine lv_iload_n hx hb dL_law_621 rfl (lv_at hl 0 rfl) ?_
  refine lv_iconst (v := 2) hx hb dL_law_622 (by decide) ?_
  refine lv_iadd hx hb dL_law_623 ?_
  refine z_topi (y := nI (i + 2)) (li_2 i) ?_
  refine va_sld hx hb hX hbl hbA hS (vp_in_nI (by omega) (by omega)) dL_law_624 ?_
  refine z_topi (y := i2 (xs (i + 2)).toInt) (by rw [nI_clamp (by omega), i2_of]) ?_
  refine lv_aload_n hx hb dL_law_625 rfl (lv_at hl 3 rfl) ?_
  refine lv_iload_n hx hb dL_law_626 rfl (lv_at hl 0 rfl) ?_
  refine lv_iconst (v := 3) hx hb dL_law_627 (by decide) ?_
  refine lv_iadd hx hb dL_law_628 ?_
  refine z_topi (y := nI (i + 3)) (li_3 i) ?_
  refine va_sld hx hb hX hbl hbA hS (vp_in_nI (by omega) (by omega)) dL_law_629 ?_
  refine z_topi (y := i2 (xs (i + 3)).toInt) (by rw [nI_clamp (by omega), i2_of]) ?_
  refine ywV (r0 := i2 r2) (As := [.int (i2 (xs (i + 1)).toInt), .int (i2 (xs (i + 2)).toInt), .int (i2 (xs (i + 3)).toInt)]) (rest := []) (C := RX12) (n := 3) (ws' := XW D ax1 x1 ps1 ++ RW D am t1) ⟨hx, hb, hml, hown, ht⟩ (yWi_c (yWi_f (XW D ax1 x1 ps1) (k_x12_total l D am (xs (i + 1)).toInt (xs (i + 2)).toInt (xs (i + 3)).toInt _ _ _ h2))) (zgV ml_L_70 im_X12_total se_X12_total in_X12 co_X12_total) rfl rfl (by decide +kernel) ⟨Nat.le_of_ble_eq_true rfl, Nat.le_of_ble_eq_true rfl⟩ hN hK hP hD hS hA (XW D ax1 x1 ps1).length (ap_h RW_0) rfl rfl rfl hl.1 rfl (Nat.le_of_ble_eq_true rfl) dL_law_630 hcs (fun H locs hP hS => ?_)
  have hD : va_D A (XW D ax1 x1 ps1 ++ RW D am t1) := XR_D hD
  refine lv_pop hx hb dL_law_633 rfl ?_
  refine lv_goto (tgt := 1298) hx hb dL_law_634 (by decide) ?_
  exact kk ax1 ps1 _ _ hax hts1 hP hD hS
set_option maxHeartbeats 4000000 in
set_option maxRecDepth 100000 in
/-- path -/
theorem lc_13 {p : Program} (l : Launch) {e : Env} {s₀ : State} {m : MethodId} {below : List Frame} {meth : Method} {c : Code} {b L : Nat} {xs : Nat → Int32} {A : Nat → Prop} {D : va_G} (hx : p.tables.exec = Jvm.exec) (hb : c.code = cL_law) (hml : c.maxLocals = 4) (hown : s₀.vm.findClass RL = some m.cls) (ht : ∀ w ∈ lw_gd, w.before #[Value.ref b] s₀ = true) (hX : va_X b L xs s₀ s₀.heap) (hbl : b < s₀.heap.size) (hbA : ¬ A b) (hA : ∀ q, s₀.heap.size ≤ q → A q) (hK : va_K D vwCl (TY D) s₀) (hN : NN s₀) (hL : L ≤ 3072) {i : Nat} {H : Heap} {locs : List Loc} {ls : Array Slot} {ax am : Nat → Nat} {ps : List ((Nat → Nat) × MS)} (x : MS) (ts : List MS) (r : Int) (t : MS) (r2 : Int) {cells slots : Nat} (hcs : cells + 9 ≤ 600000 ∧ slots + 795 ≤ 7302249) (hi : i + 5 < L) (hts : ps.map Prod.snd = ts) (hP : va_P D vwCl (XW D ax x ps ++ RW D am t) H) (hD : va_D A (XW D ax x ps ++ RW D am t)) (hS : va_S A s₀.heap H locs) (hl : lv_has ls 4 [(3, .int (nI i)), (2, .ref (am 200)), (1, .ref (ax 0)), (0, .ref b)]) (h1 : m_x11_path (xs (i + 1)).toInt (xs (i + 2)).toInt (xs (i + 3)).toInt x = some r) (h2 : m_x12_path (xs (i + 1)).toInt (xs (i + 2)).toInt (xs (i + 3)).toInt t = some r2)
    (kk : ∀ (ax1 : Nat → Nat) (ps1 : List ((Nat → Nat) × MS)) (H : Heap) (locs : List Loc), ax1 0 = ax 0 → ps1.map Prod.snd = ts → va_P D vwCl (XW D ax1 x ps1 ++ RW D am t) H → va_D A (XW D ax1 x ps1 ++ RW D am t) → va_S A s₀.heap H locs → W p l e room_1 s₀ m #[Value.ref b] below meth c H locs (cells + 9) (slots + 795) (lw_Z below #[Value.ref b] s₀) (F0 m 1298 ls [])) : W p l e room_1 s₀ m #[Value.ref b] below meth c H locs cells slots (lw_Z below #[Value.ref b] s₀) (F0 m 637 ls []) := by
  refine lv_aload_n hx hb dL_law_637 rfl (lv_at hl 2 rfl) ?_
  refine lv_aload_n hx hb dL_law_638 rfl (lv_at hl 3 rfl) ?_
  refine lv_iload_n hx hb dL_law_639 rfl (lv_at hl 0 rfl) ?_
  refine lv_iconst (v := 1) hx hb dL_law_640 (by decide) ?_
  refine lv_iadd hx hb dL_law_641 ?_
  refine z_topi (y := nI (i + 1)) (li_1 i) ?_
  refine va_sld hx hb hX hbl hbA hS (vp_in_nI (by omega) (by omega)) dL_law_642 ?_
  refine z_topi (y := i2 (xs (i + 1)).toInt) (by rw [nI_clamp (by omega), i2_of]) ?_
  refine lv_aload_n hx hb dL_law_643 rfl (lv_at hl 3 rfl) ?_
  refine lv_iload_n hx hb dL_law_644 rfl (lv_at hl 0 rfl) ?_
  refine lv_iconst (v := 2) hx hb dL_law_645 (by decide) ?_
  refine lv_iadd hx hb dL_law_646 ?_
  refine z_topi (y := nI (i + 2)) (li_2 i) ?_
  refine va_sld hx hb hX hbl hbA hS (vp_in_nI (by omega) (by omega)) dL_law_647 ?_
  refine z_topi (y := i2 (xs (i + 2)).toInt) (by rw [nI_clamp (by omega), i2_of]) ?_
  refine lv_aload_n hx hb dL_law_648 rfl (lv_at hl 3 rfl) ?_
  refine lv_iload_n hx hb dL_law_649 rfl (lv_at hl 0 rfl) ?_
  refine lv_iconst (v := 3) hx hb dL_law_650 (by decide) ?_
  refine lv_iadd hx hb dL_law_651 ?_
  refine z_topi (y := nI (i + 3)) (li_3 i) ?_
  refine va_sld hx hb hX hbl hbA hS (vp_in_nI (by omega) (by omega)) dL_law_652 ?_
  refine z_topi (y := i2 (xs (i + 3)).toInt) (by rw [nI_clamp (by omega), i2_of]) ?_
  obtain ⟨ps1, hps⟩ : ∃ z, z = ps := ⟨ps, rfl⟩
  obtain ⟨ax1, hax1⟩ : ∃ z, z = ax := ⟨ax, rfl⟩
  refine ycV (r0 := i2 r) (As := [.int (i2 (xs (i + 1)).toInt), .int (i2 (xs (i + 2)).toInt), .int (i2 (xs (i + 3)).toInt)]) (rest := []) (C := RX11) (n := 3) ⟨hx, hb, hml, hown, ht⟩ (yRi_f _ (yRi_f _ (k_x11_path l D ax (xs (i + 1)).toInt (xs (i + 2)).toInt (xs (i + 3)).toInt _ _ h1))) (zgV ml_L_71 im_X11_path se_X11_path in_X11 co_X11_path) rfl rfl (by decide +kernel) ⟨Nat.le_of_ble_eq_true rfl, Nat.le_of_ble_eq_true rfl⟩ hN hK hP hS 0 (ap_g (ap_g CW_0)) rfl rfl rfl hl.1 rfl (Nat.le_of_ble_eq_true rfl) dL_law_653 ⟨Nat.le_trans (Nat.le_add_right _ _) hcs.1, Nat.le_trans (Nat.le_add_right _ _) hcs.2⟩ (fun H locs hP hS => ?_)
  have hax : ax1 0 = ax 0 := by rw [hax1]
  have hts1 : ps1.map Prod.snd = ts := by rw [hps]; exact hts
  rw [← hps, ← hax1] at hP hD
  refine W.widen (k := cells + 9) (n := slots + 795) (Nat.le_add_right _ _) (Nat.le_add_right _ _) ?_
  refine lv_pop hx hb dL_law_656 rfl ?_
  refine lv_aload_n hx hb dL_law_657 rfl (lv_at hl 1 rfl) ?_
  refine lv_aload_n hx hb dL_law_658 rfl (lv_at hl 3 rfl) ?_
  refine lv_iload_n hx hb dL_law_659 rfl (lv_at hl 0 rfl) ?_
  refine lv_iconst (v := 1) hx hb dL_law_660 (by decide) ?_
  refine lv_iadd hx hb dL_law_661 ?_
  refine z_topi (y := nI (i + 1)) (li_1 i) ?_
  refine va_sld hx hb hX hbl hbA hS (vp_in_nI (by omega) (by omega)) dL_law_662 ?_
  refine z_topi (y := i2 (xs (i + 1)).toInt) (by rw [nI_clamp (by omega), i2_of]) ?_
  refine lv_aload_n hx hb dL_law_663 rfl (lv_at hl 3 rfl) ?_
  refine lv_iload_n hx hb dL_law_664 rfl (lv_at hl 0 rfl) ?_
  refine lv_iconst (v := 2) hx hb dL_law_665 (by decide) ?_
  refine lv_iadd hx hb dL_law_666 ?_
  refine z_topi (y := nI (i + 2)) (li_2 i) ?_
  refine va_sld hx hb hX hbl hbA hS (vp_in_nI (by omega) (by omega)) dL_law_667 ?_
  refine z_topi (y := i2 (xs (i + 2)).toInt) (by rw [nI_clamp (by omega), i2_of]) ?_
  refine lv_aload_n hx hb dL_law_668 rfl (lv_at hl 3 rfl) ?_
  refine lv_iload_n hx hb dL_law_669 rfl (lv_at hl 0 rfl) ?_
  refine lv_iconst (v := 3) hx hb dL_law_670 (by decide) ?_
  refine lv_iadd hx hb dL_law_671 ?_
  refine z_topi (y := nI (i + 3)) (li_3 i) ?_
  refine va_sld hx hb hX hbl hbA hS (vp_in_nI (by omega) (by omega)) dL_law_672 ?_
  refine z_topi (y := i2 (xs (i + 3)).toInt) (by rw [nI_clamp (by omega), i2_of]) ?_
  refine ycV (r0 := i2 r2) (As := [.int (i2 (xs (i + 1)).toInt), .int (i2 (xs (i + 2)).toInt), .int (i2 (xs (i + 3)).toInt)]) (rest := []) (C := RX12) (n := 3) ⟨hx, hb, hml, hown, ht⟩ (yRi_c (T := XW D ax1 x ps1) (k_x12_path l D am (xs (i + 1)).toInt (xs (i + 2)).toInt (xs (i + 3)).toInt _ _ h2)) (zgV ml_L_74 im_X12_path se_X12_path in_X12 co_X12_path) rfl rfl (by decide +kernel) ⟨Nat.le_of_ble_eq_true rfl, Nat.le_of_ble_eq_true rfl⟩ hN hK hP hS (XW D ax1 x ps1).length (ap_h RW_0) rfl rfl rfl hl.1 rfl (Nat.le_of_ble_eq_true rfl) dL_law_673 hcs (fun H locs hP hS => ?_)
  refine lv_pop hx hb dL_law_676 rfl ?_
  refine lv_goto (tgt := 1298) hx hb dL_law_677 (by decide) ?_
  exact kk ax1 ps1 _ _ hax hts1 hP hD hS
set_option maxHeartbeats 4000000 in
set_option maxRecDepth 100000 in
/-- shared -/
theorem lc_14 {p : Program} (l : Launch) {e : Env} {s₀ : State} {m : MethodId} {below : List Frame} {meth : Method} {c : Code} {b L : Nat} {xs : Nat → Int32} {A : Nat → Prop} {D : va_G} (hx : p.tables.exec = Jvm.exec) (hb : c.code = cL_law) (hml : c.maxLocals = 4) (hown : s₀.vm.findClass RL = some m.cls) (ht : ∀ w ∈ lw_gd, w.before #[Value.ref b] s₀ = true) (hX : va_X b L xs s₀ s₀.heap) (hbl : b < s₀.heap.size) (hbA : ¬ A b) (hA : ∀ q, s₀.heap.size ≤ q → A q) (hK : va_K D vwCl (TY D) s₀) (hN : NN s₀) (hL : L ≤ 3072) {i : Nat} {H : Heap} {locs : List Loc} {ls : Array Slot} {ax am : Nat → Nat} {ps : List ((Nat → Nat) × MS)} (x x1 : MS) (ts : List MS) (r : Int) (t t1 : MS) (r2 : Int) {cells slots : Nat} (hcs : cells + 9 ≤ 600000 ∧ slots + 795 ≤ 7302249) (hi : i + 5 < L) (hts : ps.map Prod.snd = ts) (hP : va_P D vwCl (XW D ax x ps ++ RW D am t) H) (hD : va_D A (XW D ax x ps ++ RW D am t)) (hS : va_S A s₀.heap H locs) (hl : lv_has ls 4 [(3, .int (nI i)), (2, .ref (am 200)), (1, .ref (ax 0)), (0, .ref b)]) (h1 : m_x11_shared (xs (i + 1)).toInt (xs (i + 2)).toInt x = some (r, x1)) (h2 : m_x12_shared (xs (i + 1)).toInt (xs (i + 2)).toInt t = some (r2, t1))
    (kk : ∀ (ax1 : Nat → Nat) (ps1 : List ((Nat → Nat) × MS)) (H : Heap) (locs : List Loc), ax1 0 = ax 0 → ps1.map Prod.snd = ts → va_P D vwCl (XW D ax1 x1 ps1 ++ RW D am t1) H → va_D A (XW D ax1 x1 ps1 ++ RW D am t1) → va_S A s₀.heap H locs → W p l e room_1 s₀ m #[Value.ref b] below meth c H locs (cells + 9) (slots + 795) (lw_Z below #[Value.ref b] s₀) (F0 m 1298 ls [])) : W p l e room_1 s₀ m #[Value.ref b] below meth c H locs cells slots (lw_Z below #[Value.ref b] s₀) (F0 m 680 ls []) := by
  refine lv_aload_n hx hb dL_law_680 rfl (lv_at hl 2 rfl) ?_
  refine lv_aload_n hx hb dL_law_681 rfl (lv_at hl 3 rfl) ?_
  refine lv_iload_n hx hb dL_law_682 rfl (lv_at hl 0 rfl) ?_
  refine lv_iconst (v := 1) hx hb dL_law_683 (by decide) ?_
  refine lv_iadd hx hb dL_law_684 ?_
  refine z_topi (y := nI (i + 1)) (li_1 i) ?_
  refine va_sld hx hb hX hbl hbA hS (vp_in_nI (by omega) (by omega)) dL_law_685 ?_
  refine z_topi (y := i2 (xs (i + 1)).toInt) (by rw [nI_clamp (by omega), i2_of]) ?_
  refine lv_aload_n hx hb dL_law_686 rfl (lv_at hl 3 rfl) ?_
  refine lv_iload_n hx hb dL_law_687 rfl (lv_at hl 0 rfl) ?_
  refine lv_iconst (v := 2) hx hb dL_law_688 (by decide) ?_
  refine lv_iadd hx hb dL_law_689 ?_
  refine z_topi (y := nI (i + 2)) (li_2 i) ?_
  refine va_sld hx hb hX hbl hbA hS (vp_in_nI (by omega) (by omega)) dL_law_690 ?_
  refine z_topi (y := i2 (xs (i + 2)).toInt) (by rw [nI_clamp (by omega), i2_of]) ?_
  obtain ⟨ps1, hps⟩ : ∃ z, z = ps := ⟨ps, rfl⟩
  obtain ⟨ax1, hax1⟩ : ∃ z, z = ax := ⟨ax, rfl⟩
  refine ywV (r0 := i2 r) (As := [.int (i2 (xs (i + 1)).toInt), .int (i2 (xs (i + 2)).toInt)]) (rest := []) (C := RX11) (n := 2) (ws' := XW D ax x1 ps ++ RW D am t) ⟨hx, hb, hml, hown, ht⟩ (yWi_f _ (yWi_f _ (k_x11_shared l D ax (xs (i + 1)).toInt (xs (i + 2)).toInt _ _ _ h1))) (zgV ml_L_75 im_X11_shared se_X11_shared in_X11 co_X11_shared) rfl rfl (by decide +kernel) ⟨Nat.le_of_ble_eq_true rfl, Nat.le_of_ble_eq_true rfl⟩ hN hK hP hD hS hA 0 (ap_g (ap_g CW_0)) rfl rfl rfl hl.1 rfl (Nat.le_of_ble_eq_true rfl) dL_law_691 ⟨Nat.le_trans (Nat.le_add_right _ _) hcs.1, Nat.le_trans (Nat.le_add_right _ _) hcs.2⟩ (fun H locs hP hS => ?_)
  have hD : va_D A (XW D ax x1 ps ++ RW D am t) := XR_D hD
  have hax : ax1 0 = ax 0 := by rw [hax1]
  have hts1 : ps1.map Prod.snd = ts := by rw [hps]; exact hts
  rw [← hps, ← hax1] at hP hD
  refine W.widen (k := cells + 9) (n := slots + 795) (Nat.le_add_right _ _) (Nat.le_add_right _ _) ?_
  refine lv_pop hx hb dL_law_694 rfl ?_
  refine lv_aload_n hx hb dL_law_695 rfl (lv_at hl 1 rfl) ?_
  refine lv_aload_n hx hb dL_law_696 rfl (lv_at hl 3 rfl) ?_
  refine lv_iload_n hx hb dL_law_697 rfl (lv_at hl 0 rfl) ?_
  refine lv_iconst (v := 1) hx hb dL_law_698 (by decide) ?_
  refine lv_iadd hx hb dL_law_699 ?_
  refine z_topi (y := nI (i + 1)) (li_1 i) ?_
  refine va_sld hx hb hX hbl hbA hS (vp_in_nI (by omega) (by omega)) dL_law_700 ?_
  refine z_topi (y := i2 (xs (i + 1)).toInt) (by rw [nI_clamp (by omega), i2_of]) ?_
  refine lv_aload_n hx hb dL_law_701 rfl (lv_at hl 3 rfl) ?_
  refine lv_iload_n hx hb dL_law_702 rfl (lv_at hl 0 rfl) ?_
  refine lv_iconst (v := 2) hx hb dL_law_703 (by decide) ?_
  refine lv_iadd hx hb dL_law_704 ?_
  refine z_topi (y := nI (i + 2)) (li_2 i) ?_
  refine va_sld hx hb hX hbl hbA hS (vp_in_nI (by omega) (by omega)) dL_law_705 ?_
  refine z_topi (y := i2 (xs (i + 2)).toInt) (by rw [nI_clamp (by omega), i2_of]) ?_
  refine ywV (r0 := i2 r2) (As := [.int (i2 (xs (i + 1)).toInt), .int (i2 (xs (i + 2)).toInt)]) (rest := []) (C := RX12) (n := 2) (ws' := XW D ax1 x1 ps1 ++ RW D am t1) ⟨hx, hb, hml, hown, ht⟩ (yWi_c (yWi_f (XW D ax1 x1 ps1) (k_x12_shared l D am (xs (i + 1)).toInt (xs (i + 2)).toInt _ _ _ h2))) (zgV ml_L_78 im_X12_shared se_X12_shared in_X12 co_X12_shared) rfl rfl (by decide +kernel) ⟨Nat.le_of_ble_eq_true rfl, Nat.le_of_ble_eq_true rfl⟩ hN hK hP hD hS hA (XW D ax1 x1 ps1).length (ap_h RW_0) rfl rfl rfl hl.1 rfl (Nat.le_of_ble_eq_true rfl) dL_law_706 hcs (fun H locs hP hS => ?_)
  have hD : va_D A (XW D ax1 x1 ps1 ++ RW D am t1) := XR_D hD
  refine lv_pop hx hb dL_law_709 rfl ?_
  refine lv_goto (tgt := 1298) hx hb dL_law_710 (by decide) ?_
  exact kk ax1 ps1 _ _ hax hts1 hP hD hS
set_option maxHeartbeats 4000000 in
set_option maxRecDepth 100000 in
/-- differs -/
theorem lc_15 {p : Program} (l : Launch) {e : Env} {s₀ : State} {m : MethodId} {below : List Frame} {meth : Method} {c : Code} {b L : Nat} {xs : Nat → Int32} {A : Nat → Prop} {D : va_G} (hx : p.tables.exec = Jvm.exec) (hb : c.code = cL_law) (hml : c.maxLocals = 4) (hown : s₀.vm.findClass RL = some m.cls) (ht : ∀ w ∈ lw_gd, w.before #[Value.ref b] s₀ = true) (hX : va_X b L xs s₀ s₀.heap) (hbl : b < s₀.heap.size) (hbA : ¬ A b) (hA : ∀ q, s₀.heap.size ≤ q → A q) (hK : va_K D vwCl (TY D) s₀) (hN : NN s₀) (hL : L ≤ 3072) {i : Nat} {H : Heap} {locs : List Loc} {ls : Array Slot} {ax am : Nat → Nat} {ps : List ((Nat → Nat) × MS)} (x x1 : MS) (ts : List MS) (r : Int) (t : MS) (r2 : Int) {cells slots : Nat} (hcs : cells + 9 ≤ 600000 ∧ slots + 795 ≤ 7302249) (hi : i + 5 < L) (hts : ps.map Prod.snd = ts) (hP : va_P D vwCl (XW D ax x ps ++ RW D am t) H) (hD : va_D A (XW D ax x ps ++ RW D am t)) (hS : va_S A s₀.heap H locs) (hl : lv_has ls 4 [(3, .int (nI i)), (2, .ref (am 200)), (1, .ref (ax 0)), (0, .ref b)]) (h1 : m_x11_differs (xs (i + 1)).toInt (xs (i + 2)).toInt (xs (i + 3)).toInt x = some (r, x1)) (h2 : m_x12_differs (xs (i + 1)).toInt (xs (i + 2)).toInt (xs (i + 3)).toInt t = some r2)
    (kk : ∀ (ax1 : Nat → Nat) (ps1 : List ((Nat → Nat) × MS)) (H : Heap) (locs : List Loc), ax1 0 = ax 0 → ps1.map Prod.snd = ts → va_P D vwCl (XW D ax1 x1 ps1 ++ RW D am t) H → va_D A (XW D ax1 x1 ps1 ++ RW D am t) → va_S A s₀.heap H locs → W p l e room_1 s₀ m #[Value.ref b] below meth c H locs (cells + 9) (slots + 795) (lw_Z below #[Value.ref b] s₀) (F0 m 1298 ls [])) : W p l e room_1 s₀ m #[Value.ref b] below meth c H locs cells slots (lw_Z below #[Value.ref b] s₀) (F0 m 713 ls []) := by
  refine lv_aload_n hx hb dL_law_713 rfl (lv_at hl 2 rfl) ?_
  refine lv_aload_n hx hb dL_law_714 rfl (lv_at hl 3 rfl) ?_
  refine lv_iload_n hx hb dL_law_715 rfl (lv_at hl 0 rfl) ?_
  refine lv_iconst (v := 1) hx hb dL_law_716 (by decide) ?_
  refine lv_iadd hx hb dL_law_717 ?_
  refine z_topi (y := nI (i + 1)) (li_1 i) ?_
  refine va_sld hx hb hX hbl hbA hS (vp_in_nI (by omega) (by omega)) dL_law_718 ?_
  refine z_topi (y := i2 (xs (i + 1)).toInt) (by rw [nI_clamp (by omega), i2_of]) ?_
  refine lv_aload_n hx hb dL_law_719 rfl (lv_at hl 3 rfl) ?_
  refine lv_iload_n hx hb dL_law_720 rfl (lv_at hl 0 rfl) ?_
  refine lv_iconst (v := 2) hx hb dL_law_721 (by decide) ?_
  refine lv_iadd hx hb dL_law_722 ?_
  refine z_topi (y := nI (i + 2)) (li_2 i) ?_
  refine va_sld hx hb hX hbl hbA hS (vp_in_nI (by omega) (by omega)) dL_law_723 ?_
  refine z_topi (y := i2 (xs (i + 2)).toInt) (by rw [nI_clamp (by omega), i2_of]) ?_
  refine lv_aload_n hx hb dL_law_724 rfl (lv_at hl 3 rfl) ?_
  refine lv_iload_n hx hb dL_law_725 rfl (lv_at hl 0 rfl) ?_
  refine lv_iconst (v := 3) hx hb dL_law_726 (by decide) ?_
  refine lv_iadd hx hb dL_law_727 ?_
  refine z_topi (y := nI (i + 3)) (li_3 i) ?_
  refine va_sld hx hb hX hbl hbA hS (vp_in_nI (by omega) (by omega)) dL_law_728 ?_
  refine z_topi (y := i2 (xs (i + 3)).toInt) (by rw [nI_clamp (by omega), i2_of]) ?_
  obtain ⟨ps1, hps⟩ : ∃ z, z = ps := ⟨ps, rfl⟩
  obtain ⟨ax1, hax1⟩ : ∃ z, z = ax := ⟨ax, rfl⟩
  refine ywV (r0 := i2 r) (As := [.int (i2 (xs (i + 1)).toInt), .int (i2 (xs (i + 2)).toInt), .int (i2 (xs (i + 3)).toInt)]) (rest := []) (C := RX11) (n := 3) (ws' := XW D ax x1 ps ++ RW D am t) ⟨hx, hb, hml, hown, ht⟩ (yWi_f _ (yWi_f _ (k_x11_differs l D ax (xs (i + 1)).toInt (xs (i + 2)).toInt (xs (i + 3)).toInt _ _ _ h1))) (zgV ml_L_79 im_X11_differs se_X11_differs in_X11 co_X11_differs) rfl rfl (by decide +kernel) ⟨Nat.le_of_ble_eq_true rfl, Nat.le_of_ble_eq_true rfl⟩ hN hK hP hD hS hA 0 (ap_g (ap_g CW_0)) rfl rfl rfl hl.1 rfl (Nat.le_of_ble_eq_true rfl) dL_law_729 ⟨Nat.le_trans (Nat.le_add_right _ _) hcs.1, Nat.le_trans (Nat.le_add_right _ _) hcs.2⟩ (fun H locs hP hS => ?_)
  have hD : va_D A (XW D ax x1 ps ++ RW D am t) := XR_D hD
  have hax : ax1 0 = ax 0 := by rw [hax1]
  have hts1 : ps1.map Prod.snd = ts := by rw [hps]; exact hts
  rw [← hps, ← hax1] at hP hD
  refine W.widen (k := cells + 9) (n := slots + 795) (Nat.le_add_right _ _) (Nat.le_add_right _ _) ?_
  refine lv_pop hx hb dL_law_732 rfl ?_
  refine lv_aload_n hx hb dL_law_733 rfl (lv_at hl 1 rfl) ?_
  refine lv_aload_n hx hb dL_law_734 rfl (lv_at hl 3 rfl) ?_
  refine lv_iload_n hx hb dL_law_735 rfl (lv_at hl 0 rfl) ?_
  refine lv_iconst (v := 1) hx hb dL_law_736 (by decide) ?_
  refine lv_iadd hx hb dL_law_737 ?_
  refine z_topi (y := nI (i + 1)) (li_1 i) ?_
  refine va_sld hx hb hX hbl hbA hS (vp_in_nI (by omega) (by omega)) dL_law_738 ?_
  refine z_topi (y := i2 (xs (i + 1)).toInt) (by rw [nI_clamp (by omega), i2_of]) ?_
  refine lv_aload_n hx hb dL_law_739 rfl (lv_at hl 3 rfl) ?_
  refine lv_iload_n hx hb dL_law_740 rfl (lv_at hl 0 rfl) ?_
  refine lv_iconst (v := 2) hx hb dL_law_741 (by decide) ?_
  refine lv_iadd hx hb dL_law_742 ?_
  refine z_topi (y := nI (i + 2)) (li_2 i) ?_
  refine va_sld hx hb hX hbl hbA hS (vp_in_nI (by omega) (by omega)) dL_law_743 ?_
  refine z_topi (y := i2 (xs (i + 2)).toInt) (by rw [nI_clamp (by omega), i2_of]) ?_
  refine lv_aload_n hx hb dL_law_744 rfl (lv_at hl 3 rfl) ?_
  refine lv_iload_n hx hb dL_law_745 rfl (lv_at hl 0 rfl) ?_
  refine lv_iconst (v := 3) hx hb dL_law_746 (by decide) ?_
  refine lv_iadd hx hb dL_law_747 ?_
  refine z_topi (y := nI (i + 3)) (li_3 i) ?_
  refine va_sld hx hb hX hbl hbA hS (vp_in_nI (by omega) (by omega)) dL_law_748 ?_
  refine z_topi (y := i2 (xs (i + 3)).toInt) (by rw [nI_clamp (by omega), i2_of]) ?_
  refine ycV (r0 := i2 r2) (As := [.int (i2 (xs (i + 1)).toInt), .int (i2 (xs (i + 2)).toInt), .int (i2 (xs (i + 3)).toInt)]) (rest := []) (C := RX12) (n := 3) ⟨hx, hb, hml, hown, ht⟩ (yRi_c (T := XW D ax1 x1 ps1) (k_x12_differs l D am (xs (i + 1)).toInt (xs (i + 2)).toInt (xs (i + 3)).toInt _ _ h2)) (zgV ml_L_82 im_X12_differs se_X12_differs in_X12 co_X12_differs) rfl rfl (by decide +kernel) ⟨Nat.le_of_ble_eq_true rfl, Nat.le_of_ble_eq_true rfl⟩ hN hK hP hS (XW D ax1 x1 ps1).length (ap_h RW_0) rfl rfl rfl hl.1 rfl (Nat.le_of_ble_eq_true rfl) dL_law_749 hcs (fun H locs hP hS => ?_)
  refine lv_pop hx hb dL_law_752 rfl ?_
  refine lv_goto (tgt := 1298) hx hb dL_law_753 (by decide) ?_
  exact kk ax1 ps1 _ _ hax hts1 hP hD hS
set_option maxHeartbeats 4000000 in
set_option maxRecDepth 100000 in
/-- writes -/
theorem lc_16 {p : Program} (l : Launch) {e : Env} {s₀ : State} {m : MethodId} {below : List Frame} {meth : Method} {c : Code} {b L : Nat} {xs : Nat → Int32} {A : Nat → Prop} {D : va_G} (hx : p.tables.exec = Jvm.exec) (hb : c.code = cL_law) (hml : c.maxLocals = 4) (hown : s₀.vm.findClass RL = some m.cls) (ht : ∀ w ∈ lw_gd, w.before #[Value.ref b] s₀ = true) (hX : va_X b L xs s₀ s₀.heap) (hbl : b < s₀.heap.size) (hbA : ¬ A b) (hA : ∀ q, s₀.heap.size ≤ q → A q) (hK : va_K D vwCl (TY D) s₀) (hN : NN s₀) (hL : L ≤ 3072) {i : Nat} {H : Heap} {locs : List Loc} {ls : Array Slot} {ax am : Nat → Nat} {ps : List ((Nat → Nat) × MS)} (x x1 : MS) (ts : List MS) (r : Int) (t t1 : MS) (r2 : Int) {cells slots : Nat} (hcs : cells + 9 ≤ 600000 ∧ slots + 795 ≤ 7302249) (hi : i + 5 < L) (hts : ps.map Prod.snd = ts) (hP : va_P D vwCl (XW D ax x ps ++ RW D am t) H) (hD : va_D A (XW D ax x ps ++ RW D am t)) (hS : va_S A s₀.heap H locs) (hl : lv_has ls 4 [(3, .int (nI i)), (2, .ref (am 200)), (1, .ref (ax 0)), (0, .ref b)]) (h1 : m_x11_writes (xs (i + 1)).toInt (xs (i + 2)).toInt (xs (i + 3)).toInt x = some (r, x1)) (h2 : m_x12_writes (xs (i + 1)).toInt (xs (i + 2)).toInt (xs (i + 3)).toInt t = some (r2, t1))
    (kk : ∀ (ax1 : Nat → Nat) (ps1 : List ((Nat → Nat) × MS)) (H : Heap) (locs : List Loc), ax1 0 = ax 0 → ps1.map Prod.snd = ts → va_P D vwCl (XW D ax1 x1 ps1 ++ RW D am t1) H → va_D A (XW D ax1 x1 ps1 ++ RW D am t1) → va_S A s₀.heap H locs → W p l e room_1 s₀ m #[Value.ref b] below meth c H locs (cells + 9) (slots + 795) (lw_Z below #[Value.ref b] s₀) (F0 m 1298 ls [])) : W p l e room_1 s₀ m #[Value.ref b] below meth c H locs cells slots (lw_Z below #[Value.ref b] s₀) (F0 m 756 ls []) := by
  refine lv_aload_n hx hb dL_law_756 rfl (lv_at hl 2 rfl) ?_
  refine lv_aload_n hx hb dL_law_757 rfl (lv_at hl 3 rfl) ?_
  refine lv_iload_n hx hb dL_law_758 rfl (lv_at hl 0 rfl) ?_
  refine lv_iconst (v := 1) hx hb dL_law_759 (by decide) ?_
  refine lv_iadd hx hb dL_law_760 ?_
  refine z_topi (y := nI (i + 1)) (li_1 i) ?_
  refine va_sld hx hb hX hbl hbA hS (vp_in_nI (by omega) (by omega)) dL_law_761 ?_
  refine z_topi (y := i2 (xs (i + 1)).toInt) (by rw [nI_clamp (by omega), i2_of]) ?_
  refine lv_aload_n hx hb dL_law_762 rfl (lv_at hl 3 rfl) ?_
  refine lv_iload_n hx hb dL_law_763 rfl (lv_at hl 0 rfl) ?_
  refine lv_iconst (v := 2) hx hb dL_law_764 (by decide) ?_
  refine lv_iadd hx hb dL_law_765 ?_
  refine z_topi (y := nI (i + 2)) (li_2 i) ?_
  refine va_sld hx hb hX hbl hbA hS (vp_in_nI (by omega) (by omega)) dL_law_766 ?_
  refine z_topi (y := i2 (xs (i + 2)).toInt) (by rw [nI_clamp (by omega), i2_of]) ?_
  refine lv_aload_n hx hb dL_law_767 rfl (lv_at hl 3 rfl) ?_
  refine lv_iload_n hx hb dL_law_768 rfl (lv_at hl 0 rfl) ?_
  refine lv_iconst (v := 3) hx hb dL_law_769 (by decide) ?_
  refine lv_iadd hx hb dL_law_770 ?_
  refine z_topi (y := nI (i + 3)) (li_3 i) ?_
  refine va_sld hx hb hX hbl hbA hS (vp_in_nI (by omega) (by omega)) dL_law_771 ?_
  refine z_topi (y := i2 (xs (i + 3)).toInt) (by rw [nI_clamp (by omega), i2_of]) ?_
  obtain ⟨ps1, hps⟩ : ∃ z, z = ps := ⟨ps, rfl⟩
  obtain ⟨ax1, hax1⟩ : ∃ z, z = ax := ⟨ax, rfl⟩
  refine ywV (r0 := i2 r) (As := [.int (i2 (xs (i + 1)).toInt), .int (i2 (xs (i + 2)).toInt), .int (i2 (xs (i + 3)).toInt)]) (rest := []) (C := RX11) (n := 3) (ws' := XW D ax x1 ps ++ RW D am t) ⟨hx, hb, hml, hown, ht⟩ (yWi_f _ (yWi_f _ (k_x11_writes l D ax (xs (i + 1)).toInt (xs (i + 2)).toInt (xs (i + 3)).toInt _ _ _ h1))) (zgV ml_L_83 im_X11_writes se_X11_writes in_X11 co_X11_writes) rfl rfl (by decide +kernel) ⟨Nat.le_of_ble_eq_true rfl, Nat.le_of_ble_eq_true rfl⟩ hN hK hP hD hS hA 0 (ap_g (ap_g CW_0)) rfl rfl rfl hl.1 rfl (Nat.le_of_ble_eq_true rfl) dL_law_772 ⟨Nat.le_trans (Nat.le_add_right _ _) hcs.1, Nat.le_trans (Nat.le_add_right _ _) hcs.2⟩ (fun H locs hP hS => ?_)
  have hD : va_D A (XW D ax x1 ps ++ RW D am t) := XR_D hD
  have hax : ax1 0 = ax 0 := by rw [hax1]
  have hts1 : ps1.map Prod.snd = ts := by rw [hps]; exact hts
  rw [← hps, ← hax1] at hP hD
  refine W.widen (k := cells + 9) (n := slots + 795) (Nat.le_add_right _ _) (Nat.le_add_right _ _) ?_
  refine lv_pop hx hb dL_law_775 rfl ?_
  refine lv_aload_n hx hb dL_law_776 rfl (lv_at hl 1 rfl) ?_
  refine lv_aload_n hx hb dL_law_777 rfl (lv_at hl 3 rfl) ?_
  refine lv_iload_n hx hb dL_law_778 rfl (lv_at hl 0 rfl) ?_
  refine lv_iconst (v := 1) hx hb dL_law_779 (by decide) ?_
  refine lv_iadd hx hb dL_law_780 ?_
  refine z_topi (y := nI (i + 1)) (li_1 i) ?_
  refine va_sld hx hb hX hbl hbA hS (vp_in_nI (by omega) (by omega)) dL_law_781 ?_
  refine z_topi (y := i2 (xs (i + 1)).toInt) (by rw [nI_clamp (by omega), i2_of]) ?_
  refine lv_aload_n hx hb dL_law_782 rfl (lv_at hl 3 rfl) ?_
  refine lv_iload_n hx hb dL_law_783 rfl (lv_at hl 0 rfl) ?_
  refine lv_iconst (v := 2) hx hb dL_law_784 (by decide) ?_
  refine lv_iadd hx hb dL_law_785 ?_
  refine z_topi (y := nI (i + 2)) (li_2 i) ?_
  refine va_sld hx hb hX hbl hbA hS (vp_in_nI (by omega) (by omega)) dL_law_786 ?_
  refine z_topi (y := i2 (xs (i + 2)).toInt) (by rw [nI_clamp (by omega), i2_of]) ?_
  refine lv_aload_n hx hb dL_law_787 rfl (lv_at hl 3 rfl) ?_
  refine lv_iload_n hx hb dL_law_788 rfl (lv_at hl 0 rfl) ?_
  refine lv_iconst (v := 3) hx hb dL_law_789 (by decide) ?_
  refine lv_iadd hx hb dL_law_790 ?_
  refine z_topi (y := nI (i + 3)) (li_3 i) ?_
  refine va_sld hx hb hX hbl hbA hS (vp_in_nI (by omega) (by omega)) dL_law_791 ?_
  refine z_topi (y := i2 (xs (i + 3)).toInt) (by rw [nI_clamp (by omega), i2_of]) ?_
  refine ywV (r0 := i2 r2) (As := [.int (i2 (xs (i + 1)).toInt), .int (i2 (xs (i + 2)).toInt), .int (i2 (xs (i + 3)).toInt)]) (rest := []) (C := RX12) (n := 3) (ws' := XW D ax1 x1 ps1 ++ RW D am t1) ⟨hx, hb, hml, hown, ht⟩ (yWi_c (yWi_f (XW D ax1 x1 ps1) (k_x12_writes l D am (xs (i + 1)).toInt (xs (i + 2)).toInt (xs (i + 3)).toInt _ _ _ h2))) (zgV ml_L_86 im_X12_writes se_X12_writes in_X12 co_X12_writes) rfl rfl (by decide +kernel) ⟨Nat.le_of_ble_eq_true rfl, Nat.le_of_ble_eq_true rfl⟩ hN hK hP hD hS hA (XW D ax1 x1 ps1).length (ap_h RW_0) rfl rfl rfl hl.1 rfl (Nat.le_of_ble_eq_true rfl) dL_law_792 hcs (fun H locs hP hS => ?_)
  have hD : va_D A (XW D ax1 x1 ps1 ++ RW D am t1) := XR_D hD
  refine lv_pop hx hb dL_law_795 rfl ?_
  refine lv_goto (tgt := 1298) hx hb dL_law_796 (by decide) ?_
  exact kk ax1 ps1 _ _ hax hts1 hP hD hS
set_option maxHeartbeats 4000000 in
set_option maxRecDepth 100000 in
/-- spread -/
theorem lc_17 {p : Program} (l : Launch) {e : Env} {s₀ : State} {m : MethodId} {below : List Frame} {meth : Method} {c : Code} {b L : Nat} {xs : Nat → Int32} {A : Nat → Prop} {D : va_G} (hx : p.tables.exec = Jvm.exec) (hb : c.code = cL_law) (hml : c.maxLocals = 4) (hown : s₀.vm.findClass RL = some m.cls) (ht : ∀ w ∈ lw_gd, w.before #[Value.ref b] s₀ = true) (hX : va_X b L xs s₀ s₀.heap) (hbl : b < s₀.heap.size) (hbA : ¬ A b) (hA : ∀ q, s₀.heap.size ≤ q → A q) (hK : va_K D vwCl (TY D) s₀) (hN : NN s₀) (hL : L ≤ 3072) {i : Nat} {H : Heap} {locs : List Loc} {ls : Array Slot} {ax am : Nat → Nat} {ps : List ((Nat → Nat) × MS)} (x x1 : MS) (ts : List MS) (r : Int) (t t1 : MS) (r2 : Int) {cells slots : Nat} (hcs : cells + 9 ≤ 600000 ∧ slots + 795 ≤ 7302249) (hi : i + 5 < L) (hts : ps.map Prod.snd = ts) (hP : va_P D vwCl (XW D ax x ps ++ RW D am t) H) (hD : va_D A (XW D ax x ps ++ RW D am t)) (hS : va_S A s₀.heap H locs) (hl : lv_has ls 4 [(3, .int (nI i)), (2, .ref (am 200)), (1, .ref (ax 0)), (0, .ref b)]) (h1 : m_x11_spread (xs (i + 1)).toInt (xs (i + 2)).toInt x = some (r, x1)) (h2 : m_x12_spread (xs (i + 1)).toInt (xs (i + 2)).toInt t = some (r2, t1))
    (kk : ∀ (ax1 : Nat → Nat) (ps1 : List ((Nat → Nat) × MS)) (H : Heap) (locs : List Loc), ax1 0 = ax 0 → ps1.map Prod.snd = ts → va_P D vwCl (XW D ax1 x1 ps1 ++ RW D am t1) H → va_D A (XW D ax1 x1 ps1 ++ RW D am t1) → va_S A s₀.heap H locs → W p l e room_1 s₀ m #[Value.ref b] below meth c H locs (cells + 9) (slots + 795) (lw_Z below #[Value.ref b] s₀) (F0 m 1298 ls [])) : W p l e room_1 s₀ m #[Value.ref b] below meth c H locs cells slots (lw_Z below #[Value.ref b] s₀) (F0 m 799 ls []) := by
  refine lv_aload_n hx hb dL_law_799 rfl (lv_at hl 2 rfl) ?_
  refine lv_aload_n hx hb dL_law_800 rfl (lv_at hl 3 rfl) ?_
  refine lv_iload_n hx hb dL_law_801 rfl (lv_at hl 0 rfl) ?_
  refine lv_iconst (v := 1) hx hb dL_law_802 (by decide) ?_
  refine lv_iadd hx hb dL_law_803 ?_
  refine z_topi (y := nI (i + 1)) (li_1 i) ?_
  refine va_sld hx hb hX hbl hbA hS (vp_in_nI (by omega) (by omega)) dL_law_804 ?_
  refine z_topi (y := i2 (xs (i + 1)).toInt) (by rw [nI_clamp (by omega), i2_of]) ?_
  refine lv_aload_n hx hb dL_law_805 rfl (lv_at hl 3 rfl) ?_
  refine lv_iload_n hx hb dL_law_806 rfl (lv_at hl 0 rfl) ?_
  refine lv_iconst (v := 2) hx hb dL_law_807 (by decide) ?_
  refine lv_iadd hx hb dL_law_808 ?_
  refine z_topi (y := nI (i + 2)) (li_2 i) ?_
  refine va_sld hx hb hX hbl hbA hS (vp_in_nI (by omega) (by omega)) dL_law_809 ?_
  refine z_topi (y := i2 (xs (i + 2)).toInt) (by rw [nI_clamp (by omega), i2_of]) ?_
  obtain ⟨ps1, hps⟩ : ∃ z, z = ps := ⟨ps, rfl⟩
  obtain ⟨ax1, hax1⟩ : ∃ z, z = ax := ⟨ax, rfl⟩
  refine ywV (r0 := i2 r) (As := [.int (i2 (xs (i + 1)).toInt), .int (i2 (xs (i + 2)).toInt)]) (rest := []) (C := RX11) (n := 2) (ws' := XW D ax x1 ps ++ RW D am t) ⟨hx, hb, hml, hown, ht⟩ (yWi_f _ (yWi_f _ (k_x11_spread l D ax (xs (i + 1)).toInt (xs (i + 2)).toInt _ _ _ h1))) (zgV ml_L_87 im_X11_spread se_X11_spread in_X11 co_X11_spread) rfl rfl (by decide +kernel) ⟨Nat.le_of_ble_eq_true rfl, Nat.le_of_ble_eq_true rfl⟩ hN hK hP hD hS hA 0 (ap_g (ap_g CW_0)) rfl rfl rfl hl.1 rfl (Nat.le_of_ble_eq_true rfl) dL_law_810 ⟨Nat.le_trans (Nat.le_add_right _ _) hcs.1, Nat.le_trans (Nat.le_add_right _ _) hcs.2⟩ (fun H locs hP hS => ?_)
  have hD : va_D A (XW D ax x1 ps ++ RW D am t) := XR_D hD
  have hax : ax1 0 = ax 0 := by rw [hax1]
  have hts1 : ps1.map Prod.snd = ts := by rw [hps]; exact hts
  rw [← hps, ← hax1] at hP hD
  refine W.widen (k := cells + 9) (n := slots + 795) (Nat.le_add_right _ _) (Nat.le_add_right _ _) ?_
  refine lv_pop hx hb dL_law_813 rfl ?_
  refine lv_aload_n hx hb dL_law_814 rfl (lv_at hl 1 rfl) ?_
  refine lv_aload_n hx hb dL_law_815 rfl (lv_at hl 3 rfl) ?_
  refine lv_iload_n hx hb dL_law_816 rfl (lv_at hl 0 rfl) ?_
  refine lv_iconst (v := 1) hx hb dL_law_817 (by decide) ?_
  refine lv_iadd hx hb dL_law_818 ?_
  refine z_topi (y := nI (i + 1)) (li_1 i) ?_
  refine va_sld hx hb hX hbl hbA hS (vp_in_nI (by omega) (by omega)) dL_law_819 ?_
  refine z_topi (y := i2 (xs (i + 1)).toInt) (by rw [nI_clamp (by omega), i2_of]) ?_
  refine lv_aload_n hx hb dL_law_820 rfl (lv_at hl 3 rfl) ?_
  refine lv_iload_n hx hb dL_law_821 rfl (lv_at hl 0 rfl) ?_
  refine lv_iconst (v := 2) hx hb dL_law_822 (by decide) ?_
  refine lv_iadd hx hb dL_law_823 ?_
  refine z_topi (y := nI (i + 2)) (li_2 i) ?_
  refine va_sld hx hb hX hbl hbA hS (vp_in_nI (by omega) (by omega)) dL_law_824 ?_
  refine z_topi (y := i2 (xs (i + 2)).toInt) (by rw [nI_clamp (by omega), i2_of]) ?_
  refine ywV (r0 := i2 r2) (As := [.int (i2 (xs (i + 1)).toInt), .int (i2 (xs (i + 2)).toInt)]) (rest := []) (C := RX12) (n := 2) (ws' := XW D ax1 x1 ps1 ++ RW D am t1) ⟨hx, hb, hml, hown, ht⟩ (yWi_c (yWi_f (XW D ax1 x1 ps1) (k_x12_spread l D am (xs (i + 1)).toInt (xs (i + 2)).toInt _ _ _ h2))) (zgV ml_L_90 im_X12_spread se_X12_spread in_X12 co_X12_spread) rfl rfl (by decide +kernel) ⟨Nat.le_of_ble_eq_true rfl, Nat.le_of_ble_eq_true rfl⟩ hN hK hP hD hS hA (XW D ax1 x1 ps1).length (ap_h RW_0) rfl rfl rfl hl.1 rfl (Nat.le_of_ble_eq_true rfl) dL_law_825 hcs (fun H locs hP hS => ?_)
  have hD : va_D A (XW D ax1 x1 ps1 ++ RW D am t1) := XR_D hD
  refine lv_pop hx hb dL_law_828 rfl ?_
  refine lv_goto (tgt := 1298) hx hb dL_law_829 (by decide) ?_
  exact kk ax1 ps1 _ _ hax hts1 hP hD hS
set_option maxHeartbeats 4000000 in
set_option maxRecDepth 100000 in
/-- lost -/
theorem lc_18 {p : Program} (l : Launch) {e : Env} {s₀ : State} {m : MethodId} {below : List Frame} {meth : Method} {c : Code} {b L : Nat} {xs : Nat → Int32} {A : Nat → Prop} {D : va_G} (hx : p.tables.exec = Jvm.exec) (hb : c.code = cL_law) (hml : c.maxLocals = 4) (hown : s₀.vm.findClass RL = some m.cls) (ht : ∀ w ∈ lw_gd, w.before #[Value.ref b] s₀ = true) (hX : va_X b L xs s₀ s₀.heap) (hbl : b < s₀.heap.size) (hbA : ¬ A b) (hA : ∀ q, s₀.heap.size ≤ q → A q) (hK : va_K D vwCl (TY D) s₀) (hN : NN s₀) (hL : L ≤ 3072) {i : Nat} {H : Heap} {locs : List Loc} {ls : Array Slot} {ax am : Nat → Nat} {ps : List ((Nat → Nat) × MS)} (x x1 : MS) (ts : List MS) (r : Int) (t t1 : MS) (r2 : Int) {cells slots : Nat} (hcs : cells + 9 ≤ 600000 ∧ slots + 795 ≤ 7302249) (hi : i + 5 < L) (hts : ps.map Prod.snd = ts) (hP : va_P D vwCl (XW D ax x ps ++ RW D am t) H) (hD : va_D A (XW D ax x ps ++ RW D am t)) (hS : va_S A s₀.heap H locs) (hl : lv_has ls 4 [(3, .int (nI i)), (2, .ref (am 200)), (1, .ref (ax 0)), (0, .ref b)]) (h1 : m_x11_lost (xs (i + 1)).toInt x = some (r, x1)) (h2 : m_x12_lost (xs (i + 1)).toInt t = some (r2, t1))
    (kk : ∀ (ax1 : Nat → Nat) (ps1 : List ((Nat → Nat) × MS)) (H : Heap) (locs : List Loc), ax1 0 = ax 0 → ps1.map Prod.snd = ts → va_P D vwCl (XW D ax1 x1 ps1 ++ RW D am t1) H → va_D A (XW D ax1 x1 ps1 ++ RW D am t1) → va_S A s₀.heap H locs → W p l e room_1 s₀ m #[Value.ref b] below meth c H locs (cells + 9) (slots + 795) (lw_Z below #[Value.ref b] s₀) (F0 m 1298 ls [])) : W p l e room_1 s₀ m #[Value.ref b] below meth c H locs cells slots (lw_Z below #[Value.ref b] s₀) (F0 m 832 ls []) := by
  refine lv_aload_n hx hb dL_law_832 rfl (lv_at hl 2 rfl) ?_
  refine lv_aload_n hx hb dL_law_833 rfl (lv_at hl 3 rfl) ?_
  refine lv_iload_n hx hb dL_law_834 rfl (lv_at hl 0 rfl) ?_
  refine lv_iconst (v := 1) hx hb dL_law_835 (by decide) ?_
  refine lv_iadd hx hb dL_law_836 ?_
  refine z_topi (y := nI (i + 1)) (li_1 i) ?_
  refine va_sld hx hb hX hbl hbA hS (vp_in_nI (by omega) (by omega)) dL_law_837 ?_
  refine z_topi (y := i2 (xs (i + 1)).toInt) (by rw [nI_clamp (by omega), i2_of]) ?_
  obtain ⟨ps1, hps⟩ : ∃ z, z = ps := ⟨ps, rfl⟩
  obtain ⟨ax1, hax1⟩ : ∃ z, z = ax := ⟨ax, rfl⟩
  refine ywV (r0 := i2 r) (As := [.int (i2 (xs (i + 1)).toInt)]) (rest := []) (C := RX11) (n := 1) (ws' := XW D ax x1 ps ++ RW D am t) ⟨hx, hb, hml, hown, ht⟩ (yWi_f _ (yWi_f _ (k_x11_lost l D ax (xs (i + 1)).toInt _ _ _ h1))) (zgV ml_L_91 im_X11_lost se_X11_lost in_X11 co_X11_lost) rfl rfl (by decide +kernel) ⟨Nat.le_of_ble_eq_true rfl, Nat.le_of_ble_eq_true rfl⟩ hN hK hP hD hS hA 0 (ap_g (ap_g CW_0)) rfl rfl rfl hl.1 rfl (Nat.le_of_ble_eq_true rfl) dL_law_838 ⟨Nat.le_trans (Nat.le_add_right _ _) hcs.1, Nat.le_trans (Nat.le_add_right _ _) hcs.2⟩ (fun H locs hP hS => ?_)
  have hD : va_D A (XW D ax x1 ps ++ RW D am t) := XR_D hD
  have hax : ax1 0 = ax 0 := by rw [hax1]
  have hts1 : ps1.map Prod.snd = ts := by rw [hps]; exact hts
  rw [← hps, ← hax1] at hP hD
  refine W.widen (k := cells + 9) (n := slots + 795) (Nat.le_add_right _ _) (Nat.le_add_right _ _) ?_
  refine lv_pop hx hb dL_law_841 rfl ?_
  refine lv_aload_n hx hb dL_law_842 rfl (lv_at hl 1 rfl) ?_
  refine lv_aload_n hx hb dL_law_843 rfl (lv_at hl 3 rfl) ?_
  refine lv_iload_n hx hb dL_law_844 rfl (lv_at hl 0 rfl) ?_
  refine lv_iconst (v := 1) hx hb dL_law_845 (by decide) ?_
  refine lv_iadd hx hb dL_law_846 ?_
  refine z_topi (y := nI (i + 1)) (li_1 i) ?_
  refine va_sld hx hb hX hbl hbA hS (vp_in_nI (by omega) (by omega)) dL_law_847 ?_
  refine z_topi (y := i2 (xs (i + 1)).toInt) (by rw [nI_clamp (by omega), i2_of]) ?_
  refine ywV (r0 := i2 r2) (As := [.int (i2 (xs (i + 1)).toInt)]) (rest := []) (C := RX12) (n := 1) (ws' := XW D ax1 x1 ps1 ++ RW D am t1) ⟨hx, hb, hml, hown, ht⟩ (yWi_c (yWi_f (XW D ax1 x1 ps1) (k_x12_lost l D am (xs (i + 1)).toInt _ _ _ h2))) (zgV ml_L_94 im_X12_lost se_X12_lost in_X12 co_X12_lost) rfl rfl (by decide +kernel) ⟨Nat.le_of_ble_eq_true rfl, Nat.le_of_ble_eq_true rfl⟩ hN hK hP hD hS hA (XW D ax1 x1 ps1).length (ap_h RW_0) rfl rfl rfl hl.1 rfl (Nat.le_of_ble_eq_true rfl) dL_law_848 hcs (fun H locs hP hS => ?_)
  have hD : va_D A (XW D ax1 x1 ps1 ++ RW D am t1) := XR_D hD
  refine lv_pop hx hb dL_law_851 rfl ?_
  refine lv_goto (tgt := 1298) hx hb dL_law_852 (by decide) ?_
  exact kk ax1 ps1 _ _ hax hts1 hP hD hS
set_option maxHeartbeats 4000000 in
set_option maxRecDepth 100000 in
/-- worst -/
theorem lc_19 {p : Program} (l : Launch) {e : Env} {s₀ : State} {m : MethodId} {below : List Frame} {meth : Method} {c : Code} {b L : Nat} {xs : Nat → Int32} {A : Nat → Prop} {D : va_G} (hx : p.tables.exec = Jvm.exec) (hb : c.code = cL_law) (hml : c.maxLocals = 4) (hown : s₀.vm.findClass RL = some m.cls) (ht : ∀ w ∈ lw_gd, w.before #[Value.ref b] s₀ = true) (hX : va_X b L xs s₀ s₀.heap) (hbl : b < s₀.heap.size) (hbA : ¬ A b) (hA : ∀ q, s₀.heap.size ≤ q → A q) (hK : va_K D vwCl (TY D) s₀) (hN : NN s₀) (hL : L ≤ 3072) {i : Nat} {H : Heap} {locs : List Loc} {ls : Array Slot} {ax am : Nat → Nat} {ps : List ((Nat → Nat) × MS)} (x x1 : MS) (ts : List MS) (r : Int) (t t1 : MS) (r2 : Int) {cells slots : Nat} (hcs : cells + 9 ≤ 600000 ∧ slots + 795 ≤ 7302249) (hi : i + 5 < L) (hts : ps.map Prod.snd = ts) (hP : va_P D vwCl (XW D ax x ps ++ RW D am t) H) (hD : va_D A (XW D ax x ps ++ RW D am t)) (hS : va_S A s₀.heap H locs) (hl : lv_has ls 4 [(3, .int (nI i)), (2, .ref (am 200)), (1, .ref (ax 0)), (0, .ref b)]) (h1 : m_x11_worst (xs (i + 1)).toInt x = some (r, x1)) (h2 : m_x12_worst (xs (i + 1)).toInt t = some (r2, t1))
    (kk : ∀ (ax1 : Nat → Nat) (ps1 : List ((Nat → Nat) × MS)) (H : Heap) (locs : List Loc), ax1 0 = ax 0 → ps1.map Prod.snd = ts → va_P D vwCl (XW D ax1 x1 ps1 ++ RW D am t1) H → va_D A (XW D ax1 x1 ps1 ++ RW D am t1) → va_S A s₀.heap H locs → W p l e room_1 s₀ m #[Value.ref b] below meth c H locs (cells + 9) (slots + 795) (lw_Z below #[Value.ref b] s₀) (F0 m 1298 ls [])) : W p l e room_1 s₀ m #[Value.ref b] below meth c H locs cells slots (lw_Z below #[Value.ref b] s₀) (F0 m 855 ls []) := by
  refine lv_aload_n hx hb dL_law_855 rfl (lv_at hl 2 rfl) ?_
  refine lv_aload_n hx hb dL_law_856 rfl (lv_at hl 3 rfl) ?_
  refine lv_iload_n hx hb dL_law_857 rfl (lv_at hl 0 rfl) ?_
  refine lv_iconst (v := 1) hx hb dL_law_858 (by decide) ?_
  refine lv_iadd hx hb dL_law_859 ?_
  refine z_topi (y := nI (i + 1)) (li_1 i) ?_
  refine va_sld hx hb hX hbl hbA hS (vp_in_nI (by omega) (by omega)) dL_law_860 ?_
  refine z_topi (y := i2 (xs (i + 1)).toInt) (by rw [nI_clamp (by omega), i2_of]) ?_
  obtain ⟨ps1, hps⟩ : ∃ z, z = ps := ⟨ps, rfl⟩
  obtain ⟨ax1, hax1⟩ : ∃ z, z = ax := ⟨ax, rfl⟩
  refine ywV (r0 := i2 r) (As := [.int (i2 (xs (i + 1)).toInt)]) (rest := []) (C := RX11) (n := 1) (ws' := XW D ax x1 ps ++ RW D am t) ⟨hx, hb, hml, hown, ht⟩ (yWi_f _ (yWi_f _ (k_x11_worst l D ax (xs (i + 1)).toInt _ _ _ h1))) (zgV ml_L_95 im_X11_worst se_X11_worst in_X11 co_X11_worst) rfl rfl (by decide +kernel) ⟨Nat.le_of_ble_eq_true rfl, Nat.le_of_ble_eq_true rfl⟩ hN hK hP hD hS hA 0 (ap_g (ap_g CW_0)) rfl rfl rfl hl.1 rfl (Nat.le_of_ble_eq_true rfl) dL_law_861 ⟨Nat.le_trans (Nat.le_add_right _ _) hcs.1, Nat.le_trans (Nat.le_add_right _ _) hcs.2⟩ (fun H locs hP hS => ?_)
  have hD : va_D A (XW D ax x1 ps ++ RW D am t) := XR_D hD
  have hax : ax1 0 = ax 0 := by rw [hax1]
  have hts1 : ps1.map Prod.snd = ts := by rw [hps]; exact hts
  rw [← hps, ← hax1] at hP hD
  refine W.widen (k := cells + 9) (n := slots + 795) (Nat.le_add_right _ _) (Nat.le_add_right _ _) ?_
  refine lv_pop hx hb dL_law_864 rfl ?_
  refine lv_aload_n hx hb dL_law_865 rfl (lv_at hl 1 rfl) ?_
  refine lv_aload_n hx hb dL_law_866 rfl (lv_at hl 3 rfl) ?_
  refine lv_iload_n hx hb dL_law_867 rfl (lv_at hl 0 rfl) ?_
  refine lv_iconst (v := 1) hx hb dL_law_868 (by decide) ?_
  refine lv_iadd hx hb dL_law_869 ?_
  refine z_topi (y := nI (i + 1)) (li_1 i) ?_
  refine va_sld hx hb hX hbl hbA hS (vp_in_nI (by omega) (by omega)) dL_law_870 ?_
  refine z_topi (y := i2 (xs (i + 1)).toInt) (by rw [nI_clamp (by omega), i2_of]) ?_
  refine ywV (r0 := i2 r2) (As := [.int (i2 (xs (i + 1)).toInt)]) (rest := []) (C := RX12) (n := 1) (ws' := XW D ax1 x1 ps1 ++ RW D am t1) ⟨hx, hb, hml, hown, ht⟩ (yWi_c (yWi_f (XW D ax1 x1 ps1) (k_x12_worst l D am (xs (i + 1)).toInt _ _ _ h2))) (zgV ml_L_98 im_X12_worst se_X12_worst in_X12 co_X12_worst) rfl rfl (by decide +kernel) ⟨Nat.le_of_ble_eq_true rfl, Nat.le_of_ble_eq_true rfl⟩ hN hK hP hD hS hA (XW D ax1 x1 ps1).length (ap_h RW_0) rfl rfl rfl hl.1 rfl (Nat.le_of_ble_eq_true rfl) dL_law_871 hcs (fun H locs hP hS => ?_)
  have hD : va_D A (XW D ax1 x1 ps1 ++ RW D am t1) := XR_D hD
  refine lv_pop hx hb dL_law_874 rfl ?_
  refine lv_goto (tgt := 1298) hx hb dL_law_875 (by decide) ?_
  exact kk ax1 ps1 _ _ hax hts1 hP hD hS
