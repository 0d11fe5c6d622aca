theorem co_X11_ask : Cond.code yX11_ask cX11_ask 2 (some .long) ∈ lw_gd := zm (lw_g_6 (List.mem_of_getElem? (i := 26) (by decide +kernel))) rfl
theorem co_X11_back : Cond.code yX11_back cX11_back 3 (some .int) ∈ lw_gd := zm (lw_g_5 (List.mem_of_getElem? (i := 124) (by decide +kernel))) rfl
theorem co_X11_chance : Cond.code yX11_chance cX11_chance 4 (some .int) ∈ lw_gd := zm (lw_g_5 (List.mem_of_getElem? (i := 232) (by decide +kernel))) rfl
theorem co_X11_checkpoint : Cond.code yX11_checkpoint cX11_checkpoint 2 (some .int) ∈ lw_gd := zm (lw_g_5 (List.mem_of_getElem? (i := 214) (by decide +kernel))) rfl
theorem co_X11_copy : Cond.code yX11_copy cX11_copy 3 (some .int) ∈ lw_gd := zm (lw_g_5 (List.mem_of_getElem? (i := 197) (by decide +kernel))) rfl
theorem co_X11_crash : Cond.code yX11_crash cX11_crash 2 (some .int) ∈ lw_gd := zm (lw_g_5 (List.mem_of_getElem? (i := 219) (by decide +kernel))) rfl
theorem co_X11_drop : Cond.code yX11_drop cX11_drop 3 (some .int) ∈ lw_gd := zm (lw_g_5 (List.mem_of_getElem? (i := 206) (by decide +kernel))) rfl
theorem co_X11_fits : Cond.code yX11_fits cX11_fits 3 (some .int) ∈ lw_gd := zm (lw_g_5 (List.mem_of_getElem? (i := 141) (by decide +kernel))) rfl
theorem co_X11_image : Cond.code yX11_image cX11_image 1 (some .int) ∈ lw_gd := zm (lw_g_6 (List.mem_of_getElem? (i := 52) (by decide +kernel))) rfl
theorem co_X11_octet : Cond.code yX11_octet cX11_octet 2 (some .int) ∈ lw_gd := zm (lw_g_6 (List.mem_of_getElem? (i := 81) (by decide +kernel))) rfl
theorem co_X11_on : Cond.code yX11_on cX11_on 2 (some .boolean) ∈ lw_gd := zm (lw_g_6 (List.mem_of_getElem? (i := 85) (by decide +kernel))) rfl
theorem co_X11_put : Cond.code yX11_put cX11_put 4 (some .int) ∈ lw_gd := zm (lw_g_5 (List.mem_of_getElem? (i := 167) (by decide +kernel))) rfl
theorem co_X11_remove : Cond.code yX11_remove cX11_remove 3 (some .int) ∈ lw_gd := zm (lw_g_5 (List.mem_of_getElem? (i := 192) (by decide +kernel))) rfl
theorem co_X11_room : Cond.code yX11_room cX11_room 3 (some .int) ∈ lw_gd := zm (lw_g_5 (List.mem_of_getElem? (i := 116) (by decide +kernel))) rfl
theorem co_X11_see : Cond.code yX11_see cX11_see 2 (some .int) ∈ lw_gd := zm (lw_g_5 (List.mem_of_getElem? (i := 128) (by decide +kernel))) rfl
theorem co_X11_seed : Cond.code yX11_seed cX11_seed 2 (some .boolean) ∈ lw_gd := zm (lw_g_6 (List.mem_of_getElem? (i := 22) (by decide +kernel))) rfl
theorem co_X11_status : Cond.code yX11_status cX11_status 2 (some .int) ∈ lw_gd := zm (lw_g_6 (List.mem_of_getElem? (i := 134) (by decide +kernel))) rfl
theorem co_X11_tells : Cond.code yX11_tells cX11_tells 6 (some .int) ∈ lw_gd := zm (lw_g_5 (List.mem_of_getElem? (i := 158) (by decide +kernel))) rfl
theorem co_X11_undo : Cond.code yX11_undo cX11_undo 2 (some .boolean) ∈ lw_gd := zm (lw_g_6 (List.mem_of_getElem? (i := 13) (by decide +kernel))) rfl
theorem co_X11_victim : Cond.code yX11_victim cX11_victim 7 (some .int) ∈ lw_gd := zm (lw_g_5 (List.mem_of_getElem? (i := 112) (by decide +kernel))) rfl
theorem co_X12_ask : Cond.code yX12_ask cX12_ask 3 (some .long) ∈ lw_gd := zm (lw_g_10 (List.mem_of_getElem? (i := 151) (by decide +kernel))) rfl
theorem co_X12_back : Cond.code yX12_back cX12_back 2 (some .int) ∈ lw_gd := zm (lw_g_10 (List.mem_of_getElem? (i := 44) (by decide +kernel))) rfl
theorem co_X12_chance : Cond.code yX12_chance cX12_chance 4 (some .int) ∈ lw_gd := zm (lw_g_10 (List.mem_of_getElem? (i := 130) (by decide +kernel))) rfl
theorem co_X12_checkpoint : Cond.code yX12_checkpoint cX12_checkpoint 2 (some .int) ∈ lw_gd := zm (lw_g_10 (List.mem_of_getElem? (i := 110) (by decide +kernel))) rfl
theorem co_X12_copy : Cond.code yX12_copy cX12_copy 3 (some .int) ∈ lw_gd := zm (lw_g_10 (List.mem_of_getElem? (i := 98) (by decide +kernel))) rfl
theorem co_X12_crash : Cond.code yX12_crash cX12_crash 3 (some .int) ∈ lw_gd := zm (lw_g_10 (List.mem_of_getElem? (i := 114) (by decide +kernel))) rfl
theorem co_X12_drop : Cond.code yX12_drop cX12_drop 3 (some .int) ∈ lw_gd := zm (lw_g_10 (List.mem_of_getElem? (i := 106) (by decide +kernel))) rfl
theorem co_X12_image : Cond.code yX12_image cX12_image 2 (some .int) ∈ lw_gd := zm (lw_g_10 (List.mem_of_getElem? (i := 181) (by decide +kernel))) rfl
theorem co_X12_octet : Cond.code yX12_octet cX12_octet 2 (some .int) ∈ lw_gd := zm (lw_g_10 (List.mem_of_getElem? (i := 173) (by decide +kernel))) rfl
theorem co_X12_on : Cond.code yX12_on cX12_on 3 (some .boolean) ∈ lw_gd := zm (lw_g_10 (List.mem_of_getElem? (i := 205) (by decide +kernel))) rfl
theorem co_X12_put : Cond.code yX12_put cX12_put 4 (some .int) ∈ lw_gd := zm (lw_g_10 (List.mem_of_getElem? (i := 77) (by decide +kernel))) rfl
theorem co_X12_remove : Cond.code yX12_remove cX12_remove 3 (some .int) ∈ lw_gd := zm (lw_g_10 (List.mem_of_getElem? (i := 94) (by decide +kernel))) rfl
theorem co_X12_room : Cond.code yX12_room cX12_room 4 (some .int) ∈ lw_gd := zm (lw_g_10 (List.mem_of_getElem? (i := 40) (by decide +kernel))) rfl
theorem co_X12_see : Cond.code yX12_see cX12_see 4 (some .int) ∈ lw_gd := zm (lw_g_10 (List.mem_of_getElem? (i := 48) (by decide +kernel))) rfl
theorem co_X12_seed : Cond.code yX12_seed cX12_seed 2 (some .boolean) ∈ lw_gd := zm (lw_g_10 (List.mem_of_getElem? (i := 122) (by decide +kernel))) rfl
theorem co_X12_status : Cond.code yX12_status cX12_status 2 (some .int) ∈ lw_gd := zm (lw_g_10 (List.mem_of_getElem? (i := 177) (by decide +kernel))) rfl
theorem co_X12_tells : Cond.code yX12_tells cX12_tells 6 (some .int) ∈ lw_gd := zm (lw_g_10 (List.mem_of_getElem? (i := 64) (by decide +kernel))) rfl
theorem co_X12_undo : Cond.code yX12_undo cX12_undo 2 (some .boolean) ∈ lw_gd := zm (lw_g_10 (List.mem_of_getElem? (i := 73) (by decide +kernel))) rfl
theorem co_X12_victim : Cond.code yX12_victim cX12_victim 6 (some .int) ∈ lw_gd := zm (lw_g_10 (List.mem_of_getElem? (i := 36) (by decide +kernel))) rfl
theorem im_X11_ask : Cond.instanceMethod yX11_ask ∈ lw_gd := zm (lw_g_6 (List.mem_of_getElem? (i := 24) (by decide +kernel))) rfl
theorem im_X11_back : Cond.instanceMethod yX11_back ∈ lw_gd := zm (lw_g_5 (List.mem_of_getElem? (i := 122) (by decide +kernel))) rfl
theorem im_X11_chance : Cond.instanceMethod yX11_chance ∈ lw_gd := zm (lw_g_5 (List.mem_of_getElem? (i := 230) (by decide +kernel))) rfl
theorem im_X11_checkpoint : Cond.instanceMethod yX11_checkpoint ∈ lw_gd := zm (lw_g_5 (List.mem_of_getElem? (i := 212) (by decide +kernel))) rfl
theorem im_X11_copy : Cond.instanceMethod yX11_copy ∈ lw_gd := zm (lw_g_5 (List.mem_of_getElem? (i := 195) (by decide +kernel))) rfl
theorem im_X11_crash : Cond.instanceMethod yX11_crash ∈ lw_gd := zm (lw_g_5 (List.mem_of_getElem? (i := 217) (by decide +kernel))) rfl
theorem im_X11_drop : Cond.instanceMethod yX11_drop ∈ lw_gd := zm (lw_g_5 (List.mem_of_getElem? (i := 204) (by decide +kernel))) rfl
theorem im_X11_fits : Cond.instanceMethod yX11_fits ∈ lw_gd := zm (lw_g_5 (List.mem_of_getElem? (i := 139) (by decide +kernel))) rfl
theorem im_X11_image : Cond.instanceMethod yX11_image ∈ lw_gd := zm (lw_g_6 (List.mem_of_getElem? (i := 50) (by decide +kernel))) rfl
theorem im_X11_octet : Cond.instanceMethod yX11_octet ∈ lw_gd := zm (lw_g_6 (List.mem_of_getElem? (i := 79) (by decide +kernel))) rfl
theorem im_X11_on : Cond.instanceMethod yX11_on ∈ lw_gd := zm (lw_g_6 (List.mem_of_getElem? (i := 83) (by decide +kernel))) rfl
theorem im_X11_put : Cond.instanceMethod yX11_put ∈ lw_gd := zm (lw_g_5 (List.mem_of_getElem? (i := 165) (by decide +kernel))) rfl
theorem im_X11_remove : Cond.instanceMethod yX11_remove ∈ lw_gd := zm (lw_g_5 (List.mem_of_getElem? (i := 190) (by decide +kernel))) rfl
theorem im_X11_room : Cond.instanceMethod yX11_room ∈ lw_gd := zm (lw_g_5 (List.mem_of_getElem? (i := 114) (by decide +kernel))) rfl
theorem im_X11_see : Cond.instanceMethod yX11_see ∈ lw_gd := zm (lw_g_5 (List.mem_of_getElem? (i := 126) (by decide +kernel))) rfl
theorem im_X11_seed : Cond.instanceMethod yX11_seed ∈ lw_gd := zm (lw_g_6 (List.mem_of_getElem? (i := 20) (by decide +kernel))) rfl
theorem im_X11_status : Cond.instanceMethod yX11_status ∈ lw_gd := zm (lw_g_6 (List.mem_of_getElem? (i := 132) (by decide +kernel))) rfl
theorem im_X11_tells : Cond.instanceMethod yX11_tells ∈ lw_gd := zm (lw_g_5 (List.mem_of_getElem? (i := 156) (by decide +kernel))) rfl
theorem im_X11_undo : Cond.instanceMethod yX11_undo ∈ lw_gd := zm (lw_g_6 (List.mem_of_getElem? (i := 11) (by decide +kernel))) rfl
theorem im_X11_victim : Cond.instanceMethod yX11_victim ∈ lw_gd := zm (lw_g_5 (List.mem_of_getElem? (i := 110) (by decide +kernel))) rfl
theorem im_X12_ask : Cond.instanceMethod yX12_ask ∈ lw_gd := zm (lw_g_10 (List.mem_of_getElem? (i := 149) (by decide +kernel))) rfl
theorem im_X12_back : Cond.instanceMethod yX12_back ∈ lw_gd := zm (lw_g_10 (List.mem_of_getElem? (i := 42) (by decide +kernel))) rfl
theorem im_X12_chance : Cond.instanceMethod yX12_chance ∈ lw_gd := zm (lw_g_10 (List.mem_of_getElem? (i := 128) (by decide +kernel))) rfl
theorem im_X12_checkpoint : Cond.instanceMethod yX12_checkpoint ∈ lw_gd := zm (lw_g_10 (List.mem_of_getElem? (i := 108) (by decide +kernel))) rfl
theorem im_X12_copy : Cond.instanceMethod yX12_copy ∈ lw_gd := zm (lw_g_10 (List.mem_of_getElem? (i := 96) (by decide +kernel))) rfl
theorem im_X12_crash : Cond.instanceMethod yX12_crash ∈ lw_gd := zm (lw_g_10 (List.mem_of_getElem? (i := 112) (by decide +kernel))) rfl
theorem im_X12_drop : Cond.instanceMethod yX12_drop ∈ lw_gd := zm (lw_g_10 (List.mem_of_getElem? (i := 104) (by decide +kernel))) rfl
theorem im_X12_image : Cond.instanceMethod yX12_image ∈ lw_gd := zm (lw_g_10 (List.mem_of_getElem? (i := 179) (by decide +kernel))) rfl
theorem im_X12_octet : Cond.instanceMethod yX12_octet ∈ lw_gd := zm (lw_g_10 (List.mem_of_getElem? (i := 171) (by decide +kernel))) rfl
theorem im_X12_on : Cond.instanceMethod yX12_on ∈ lw_gd := zm (lw_g_10 (List.mem_of_getElem? (i := 203) (by decide +kernel))) rfl
theorem im_X12_put : Cond.instanceMethod yX12_put ∈ lw_gd := zm (lw_g_10 (List.mem_of_getElem? (i := 75) (by decide +kernel))) rfl
theorem im_X12_remove : Cond.instanceMethod yX12_remove ∈ lw_gd := zm (lw_g_10 (List.mem_of_getElem? (i := 92) (by decide +kernel))) rfl
theorem im_X12_room : Cond.instanceMethod yX12_room ∈ lw_gd := zm (lw_g_10 (List.mem_of_getElem? (i := 38) (by decide +kernel))) rfl
theorem im_X12_see : Cond.instanceMethod yX12_see ∈ lw_gd := zm (lw_g_10 (List.mem_of_getElem? (i := 46) (by decide +kernel))) rfl
theorem im_X12_seed : Cond.instanceMethod yX12_seed ∈ lw_gd := zm (lw_g_10 (List.mem_of_getElem? (i := 120) (by decide +kernel))) rfl
theorem im_X12_status : Cond.instanceMethod yX12_status ∈ lw_gd := zm (lw_g_10 (List.mem_of_getElem? (i := 175) (by decide +kernel))) rfl
theorem im_X12_tells : Cond.instanceMethod yX12_tells ∈ lw_gd := zm (lw_g_10 (List.mem_of_getElem? (i := 62) (by decide +kernel))) rfl
theorem im_X12_undo : Cond.instanceMethod yX12_undo ∈ lw_gd := zm (lw_g_10 (List.mem_of_getElem? (i := 71) (by decide +kernel))) rfl
theorem im_X12_victim : Cond.instanceMethod yX12_victim ∈ lw_gd := zm (lw_g_10 (List.mem_of_getElem? (i := 34) (by decide +kernel))) rfl
theorem ml_L_102 : Cond.methodLink RL 102 yX12_victim ∈ lw_gd := zm (lw_g_10 (List.mem_of_getElem? (i := 33) (by decide +kernel))) rfl
theorem ml_L_103 : Cond.methodLink RL 103 yX11_room ∈ lw_gd := zm (lw_g_5 (List.mem_of_getElem? (i := 113) (by decide +kernel))) rfl
theorem ml_L_106 : Cond.methodLink RL 106 yX12_room ∈ lw_gd := zm (lw_g_10 (List.mem_of_getElem? (i := 37) (by decide +kernel))) rfl
theorem ml_L_107 : Cond.methodLink RL 107 yX11_back ∈ lw_gd := zm (lw_g_5 (List.mem_of_getElem? (i := 121) (by decide +kernel))) rfl
theorem ml_L_110 : Cond.methodLink RL 110 yX12_back ∈ lw_gd := zm (lw_g_10 (List.mem_of_getElem? (i := 41) (by decide +kernel))) rfl
theorem ml_L_111 : Cond.methodLink RL 111 yX11_see ∈ lw_gd := zm (lw_g_5 (List.mem_of_getElem? (i := 125) (by decide +kernel))) rfl
theorem ml_L_114 : Cond.methodLink RL 114 yX12_see ∈ lw_gd := zm (lw_g_10 (List.mem_of_getElem? (i := 45) (by decide +kernel))) rfl
theorem ml_L_115 : Cond.methodLink RL 115 yX11_fits ∈ lw_gd := zm (lw_g_5 (List.mem_of_getElem? (i := 138) (by decide +kernel))) rfl
theorem ml_L_118 : Cond.methodLink RL 118 yX12_fits ∈ lw_gd := zm (lw_g_10 (List.mem_of_getElem? (i := 49) (by decide +kernel))) rfl
theorem ml_L_119 : Cond.methodLink RL 119 yX11_tells ∈ lw_gd := zm (lw_g_5 (List.mem_of_getElem? (i := 155) (by decide +kernel))) rfl
theorem ml_L_122 : Cond.methodLink RL 122 yX12_tells ∈ lw_gd := zm (lw_g_10 (List.mem_of_getElem? (i := 61) (by decide +kernel))) rfl
theorem ml_L_123 : Cond.methodLink RL 123 yX11_put ∈ lw_gd := zm (lw_g_5 (List.mem_of_getElem? (i := 164) (by decide +kernel))) rfl
theorem ml_L_126 : Cond.methodLink RL 126 yX12_put ∈ lw_gd := zm (lw_g_10 (List.mem_of_getElem? (i := 74) (by decide +kernel))) rfl
theorem ml_L_127 : Cond.methodLink RL 127 yX11_remove ∈ lw_gd := zm (lw_g_5 (List.mem_of_getElem? (i := 189) (by decide +kernel))) rfl
theorem ml_L_130 : Cond.methodLink RL 130 yX12_remove ∈ lw_gd := zm (lw_g_10 (List.mem_of_getElem? (i := 91) (by decide +kernel))) rfl
theorem ml_L_131 : Cond.methodLink RL 131 yX11_copy ∈ lw_gd := zm (lw_g_5 (List.mem_of_getElem? (i := 194) (by decide +kernel))) rfl
theorem ml_L_134 : Cond.methodLink RL 134 yX12_copy ∈ lw_gd := zm (lw_g_10 (List.mem_of_getElem? (i := 95) (by decide +kernel))) rfl
theorem ml_L_135 : Cond.methodLink RL 135 yX11_drop ∈ lw_gd := zm (lw_g_5 (List.mem_of_getElem? (i := 203) (by decide +kernel))) rfl
theorem ml_L_138 : Cond.methodLink RL 138 yX12_drop ∈ lw_gd := zm (lw_g_10 (List.mem_of_getElem? (i := 103) (by decide +kernel))) rfl
theorem ml_L_139 : Cond.methodLink RL 139 yX11_checkpoint ∈ lw_gd := zm (lw_g_5 (List.mem_of_getElem? (i := 211) (by decide +kernel))) rfl
theorem ml_L_142 : Cond.methodLink RL 142 yX12_checkpoint ∈ lw_gd := zm (lw_g_10 (List.mem_of_getElem? (i := 107) (by decide +kernel))) rfl
theorem ml_L_143 : Cond.methodLink RL 143 yX11_crash ∈ lw_gd := zm (lw_g_5 (List.mem_of_getElem? (i := 216) (by decide +kernel))) rfl
theorem ml_L_146 : Cond.methodLink RL 146 yX12_crash ∈ lw_gd := zm (lw_g_10 (List.mem_of_getElem? (i := 111) (by decide +kernel))) rfl
theorem ml_L_147 : Cond.methodLink RL 147 yX11_chance ∈ lw_gd := zm (lw_g_5 (List.mem_of_getElem? (i := 229) (by decide +kernel))) rfl
theorem ml_L_150 : Cond.methodLink RL 150 yX12_chance ∈ lw_gd := zm (lw_g_10 (List.mem_of_getElem? (i := 127) (by decide +kernel))) rfl
theorem ml_L_151 : Cond.methodLink RL 151 yX11_undo ∈ lw_gd := zm (lw_g_6 (List.mem_of_getElem? (i := 10) (by decide +kernel))) rfl
theorem ml_L_155 : Cond.methodLink RL 155 yX12_undo ∈ lw_gd := zm (lw_g_10 (List.mem_of_getElem? (i := 70) (by decide +kernel))) rfl
theorem ml_L_156 : Cond.methodLink RL 156 yX11_seed ∈ lw_gd := zm (lw_g_6 (List.mem_of_getElem? (i := 19) (by decide +kernel))) rfl
theorem ml_L_159 : Cond.methodLink RL 159 yX12_seed ∈ lw_gd := zm (lw_g_10 (List.mem_of_getElem? (i := 119) (by decide +kernel))) rfl
theorem ml_L_160 : Cond.methodLink RL 160 yX11_ask ∈ lw_gd := zm (lw_g_6 (List.mem_of_getElem? (i := 23) (by decide +kernel))) rfl
theorem ml_L_164 : Cond.methodLink RL 164 yX12_ask ∈ lw_gd := zm (lw_g_10 (List.mem_of_getElem? (i := 148) (by decide +kernel))) rfl
theorem ml_L_165 : Cond.methodLink RL 165 yX11_image ∈ lw_gd := zm (lw_g_6 (List.mem_of_getElem? (i := 49) (by decide +kernel))) rfl
theorem ml_L_168 : Cond.methodLink RL 168 yX12_image ∈ lw_gd := zm (lw_g_10 (List.mem_of_getElem? (i := 178) (by decide +kernel))) rfl
theorem ml_L_169 : Cond.methodLink RL 169 yX11_octet ∈ lw_gd := zm (lw_g_6 (List.mem_of_getElem? (i := 78) (by decide +kernel))) rfl
theorem ml_L_172 : Cond.methodLink RL 172 yX12_octet ∈ lw_gd := zm (lw_g_10 (List.mem_of_getElem? (i := 170) (by decide +kernel))) rfl
theorem ml_L_173 : Cond.methodLink RL 173 yX11_on ∈ lw_gd := zm (lw_g_6 (List.mem_of_getElem? (i := 82) (by decide +kernel))) rfl
theorem ml_L_176 : Cond.methodLink RL 176 yX12_on ∈ lw_gd := zm (lw_g_10 (List.mem_of_getElem? (i := 202) (by decide +kernel))) rfl
theorem ml_L_177 : Cond.methodLink RL 177 yX11_status ∈ lw_gd := zm (lw_g_6 (List.mem_of_getElem? (i := 131) (by decide +kernel))) rfl
theorem ml_L_180 : Cond.methodLink RL 180 yX12_status ∈ lw_gd := zm (lw_g_10 (List.mem_of_getElem? (i := 174) (by decide +kernel))) rfl
theorem ml_L_99 : Cond.methodLink RL 99 yX11_victim ∈ lw_gd := zm (lw_g_5 (List.mem_of_getElem? (i := 109) (by decide +kernel))) rfl
theorem se_X11_ask : Cond.selects RX11 yX11_ask yX11_ask ∈ lw_gd := zm (lw_g_6 (List.mem_of_getElem? (i := 25) (by decide +kernel))) rfl
theorem se_X11_back : Cond.selects RX11 yX11_back yX11_back ∈ lw_gd := zm (lw_g_5 (List.mem_of_getElem? (i := 123) (by decide +kernel))) rfl
theorem se_X11_chance : Cond.selects RX11 yX11_chance yX11_chance ∈ lw_gd := zm (lw_g_5 (List.mem_of_getElem? (i := 231) (by decide +kernel))) rfl
theorem se_X11_checkpoint : Cond.selects RX11 yX11_checkpoint yX11_checkpoint ∈ lw_gd := zm (lw_g_5 (List.mem_of_getElem? (i := 213) (by decide +kernel))) rfl
theorem se_X11_copy : Cond.selects RX11 yX11_copy yX11_copy ∈ lw_gd := zm (lw_g_5 (List.mem_of_getElem? (i := 196) (by decide +kernel))) rfl
theorem se_X11_crash : Cond.selects RX11 yX11_crash yX11_crash ∈ lw_gd := zm (lw_g_5 (List.mem_of_getElem? (i := 218) (by decide +kernel))) rfl
theorem se_X11_drop : Cond.selects RX11 yX11_drop yX11_drop ∈ lw_gd := zm (lw_g_5 (List.mem_of_getElem? (i := 205) (by decide +kernel))) rfl
theorem se_X11_fits : Cond.selects RX11 yX11_fits yX11_fits ∈ lw_gd := zm (lw_g_5 (List.mem_of_getElem? (i := 140) (by decide +kernel))) rfl
theorem se_X11_image : Cond.selects RX11 yX11_image yX11_image ∈ lw_gd := zm (lw_g_6 (List.mem_of_getElem? (i := 51) (by decide +kernel))) rfl
theorem se_X11_octet : Cond.selects RX11 yX11_octet yX11_octet ∈ lw_gd := zm (lw_g_6 (List.mem_of_getElem? (i := 80) (by decide +kernel))) rfl
theorem se_X11_on : Cond.selects RX11 yX11_on yX11_on ∈ lw_gd := zm (lw_g_6 (List.mem_of_getElem? (i := 84) (by decide +kernel))) rfl
theorem se_X11_put : Cond.selects RX11 yX11_put yX11_put ∈ lw_gd := zm (lw_g_5 (List.mem_of_getElem? (i := 166) (by decide +kernel))) rfl
theorem se_X11_remove : Cond.selects RX11 yX11_remove yX11_remove ∈ lw_gd := zm (lw_g_5 (List.mem_of_getElem? (i := 191) (by decide +kernel))) rfl
theorem se_X11_room : Cond.selects RX11 yX11_room yX11_room ∈ lw_gd := zm (lw_g_5 (List.mem_of_getElem? (i := 115) (by decide +kernel))) rfl
theorem se_X11_see : Cond.selects RX11 yX11_see yX11_see ∈ lw_gd := zm (lw_g_5 (List.mem_of_getElem? (i := 127) (by decide +kernel))) rfl
theorem se_X11_seed : Cond.selects RX11 yX11_seed yX11_seed ∈ lw_gd := zm (lw_g_6 (List.mem_of_getElem? (i := 21) (by decide +kernel))) rfl
theorem se_X11_status : Cond.selects RX11 yX11_status yX11_status ∈ lw_gd := zm (lw_g_6 (List.mem_of_getElem? (i := 133) (by decide +kernel))) rfl
theorem se_X11_tells : Cond.selects RX11 yX11_tells yX11_tells ∈ lw_gd := zm (lw_g_5 (List.mem_of_getElem? (i := 157) (by decide +kernel))) rfl
theorem se_X11_undo : Cond.selects RX11 yX11_undo yX11_undo ∈ lw_gd := zm (lw_g_6 (List.mem_of_getElem? (i := 12) (by decide +kernel))) rfl
theorem se_X11_victim : Cond.selects RX11 yX11_victim yX11_victim ∈ lw_gd := zm (lw_g_5 (List.mem_of_getElem? (i := 111) (by decide +kernel))) rfl
theorem se_X12_ask : Cond.selects RX12 yX12_ask yX12_ask ∈ lw_gd := zm (lw_g_10 (List.mem_of_getElem? (i := 150) (by decide +kernel))) rfl
theorem se_X12_back : Cond.selects RX12 yX12_back yX12_back ∈ lw_gd := zm (lw_g_10 (List.mem_of_getElem? (i := 43) (by decide +kernel))) rfl
theorem se_X12_chance : Cond.selects RX12 yX12_chance yX12_chance ∈ lw_gd := zm (lw_g_10 (List.mem_of_getElem? (i := 129) (by decide +kernel))) rfl
theorem se_X12_checkpoint : Cond.selects RX12 yX12_checkpoint yX12_checkpoint ∈ lw_gd := zm (lw_g_10 (List.mem_of_getElem? (i := 109) (by decide +kernel))) rfl
theorem se_X12_copy : Cond.selects RX12 yX12_copy yX12_copy ∈ lw_gd := zm (lw_g_10 (List.mem_of_getElem? (i := 97) (by decide +kernel))) rfl
theorem se_X12_crash : Cond.selects RX12 yX12_crash yX12_crash ∈ lw_gd := zm (lw_g_10 (List.mem_of_getElem? (i := 113) (by decide +kernel))) rfl
theorem se_X12_drop : Cond.selects RX12 yX12_drop yX12_drop ∈ lw_gd := zm (lw_g_10 (List.mem_of_getElem? (i := 105) (by decide +kernel))) rfl
theorem se_X12_image : Cond.selects RX12 yX12_image yX12_image ∈ lw_gd := zm (lw_g_10 (List.mem_of_getElem? (i := 180) (by decide +kernel))) rfl
theorem se_X12_octet : Cond.selects RX12 yX12_octet yX12_octet ∈ lw_gd := zm (lw_g_10 (List.mem_of_getElem? (i := 172) (by decide +kernel))) rfl
theorem se_X12_on : Cond.selects RX12 yX12_on yX12_on ∈ lw_gd := zm (lw_g_10 (List.mem_of_getElem? (i := 204) (by decide +kernel))) rfl
theorem se_X12_put : Cond.selects RX12 yX12_put yX12_put ∈ lw_gd := zm (lw_g_10 (List.mem_of_getElem? (i := 76) (by decide +kernel))) rfl
theorem se_X12_remove : Cond.selects RX12 yX12_remove yX12_remove ∈ lw_gd := zm (lw_g_10 (List.mem_of_getElem? (i := 93) (by decide +kernel))) rfl
theorem se_X12_room : Cond.selects RX12 yX12_room yX12_room ∈ lw_gd := zm (lw_g_10 (List.mem_of_getElem? (i := 39) (by decide +kernel))) rfl
theorem se_X12_see : Cond.selects RX12 yX12_see yX12_see ∈ lw_gd := zm (lw_g_10 (List.mem_of_getElem? (i := 47) (by decide +kernel))) rfl
theorem se_X12_seed : Cond.selects RX12 yX12_seed yX12_seed ∈ lw_gd := zm (lw_g_10 (List.mem_of_getElem? (i := 121) (by decide +kernel))) rfl
theorem se_X12_status : Cond.selects RX12 yX12_status yX12_status ∈ lw_gd := zm (lw_g_10 (List.mem_of_getElem? (i := 176) (by decide +kernel))) rfl
theorem se_X12_tells : Cond.selects RX12 yX12_tells yX12_tells ∈ lw_gd := zm (lw_g_10 (List.mem_of_getElem? (i := 63) (by decide +kernel))) rfl
theorem se_X12_undo : Cond.selects RX12 yX12_undo yX12_undo ∈ lw_gd := zm (lw_g_10 (List.mem_of_getElem? (i := 72) (by decide +kernel))) rfl
theorem se_X12_victim : Cond.selects RX12 yX12_victim yX12_victim ∈ lw_gd := zm (lw_g_10 (List.mem_of_getElem? (i := 35) (by decide +kernel))) rfl
theorem dL_law_878 : decode cL_law 878 = .ok (.aload_n 1, 1) := by decide +kernel
theorem dL_law_879 : decode cL_law 879 = .ok (.aload_n 0, 1) := by decide +kernel
theorem dL_law_880 : decode cL_law 880 = .ok (.iload_n 3, 1) := by decide +kernel
theorem dL_law_881 : decode cL_law 881 = .ok (.iconst 1, 1) := by decide +kernel
theorem dL_law_882 : decode cL_law 882 = .ok (.iadd, 1) := by decide +kernel
theorem dL_law_883 : decode cL_law 883 = .ok (.iaload, 1) := by decide +kernel
theorem dL_law_884 : decode cL_law 884 = .ok (.invokevirtual 99, 3) := by decide +kernel
theorem dL_law_887 : decode cL_law 887 = .ok (.pop, 1) := by decide +kernel
theorem dL_law_888 : decode cL_law 888 = .ok (.aload_n 2, 1) := by decide +kernel
theorem dL_law_889 : decode cL_law 889 = .ok (.aload_n 0, 1) := by decide +kernel
theorem dL_law_890 : decode cL_law 890 = .ok (.iload_n 3, 1) := by decide +kernel
theorem dL_law_891 : decode cL_law 891 = .ok (.iconst 1, 1) := by decide +kernel
theorem dL_law_892 : decode cL_law 892 = .ok (.iadd, 1) := by decide +kernel
theorem dL_law_893 : decode cL_law 893 = .ok (.iaload, 1) := by decide +kernel
theorem dL_law_894 : decode cL_law 894 = .ok (.invokevirtual 102, 3) := by decide +kernel
theorem dL_law_897 : decode cL_law 897 = .ok (.pop, 1) := by decide +kernel
theorem dL_law_898 : decode cL_law 898 = .ok (.goto 400, 3) := by decide +kernel
theorem dL_law_901 : decode cL_law 901 = .ok (.aload_n 1, 1) := by decide +kernel
theorem dL_law_902 : decode cL_law 902 = .ok (.aload_n 0, 1) := by decide +kernel
theorem dL_law_903 : decode cL_law 903 = .ok (.iload_n 3, 1) := by decide +kernel
theorem dL_law_904 : decode cL_law 904 = .ok (.iconst 1, 1) := by decide +kernel
theorem dL_law_905 : decode cL_law 905 = .ok (.iadd, 1) := by decide +kernel
theorem dL_law_906 : decode cL_law 906 = .ok (.iaload, 1) := by decide +kernel
theorem dL_law_907 : decode cL_law 907 = .ok (.invokevirtual 103, 3) := by decide +kernel
theorem dL_law_910 : decode cL_law 910 = .ok (.pop, 1) := by decide +kernel
theorem dL_law_911 : decode cL_law 911 = .ok (.aload_n 2, 1) := by decide +kernel
theorem dL_law_912 : decode cL_law 912 = .ok (.aload_n 0, 1) := by decide +kernel
theorem dL_law_913 : decode cL_law 913 = .ok (.iload_n 3, 1) := by decide +kernel
theorem dL_law_914 : decode cL_law 914 = .ok (.iconst 1, 1) := by decide +kernel
theorem dL_law_915 : decode cL_law 915 = .ok (.iadd, 1) := by decide +kernel
theorem dL_law_916 : decode cL_law 916 = .ok (.iaload, 1) := by decide +kernel
theorem dL_law_917 : decode cL_law 917 = .ok (.invokevirtual 106, 3) := by decide +kernel
theorem dL_law_920 : decode cL_law 920 = .ok (.pop, 1) := by decide +kernel
theorem dL_law_921 : decode cL_law 921 = .ok (.goto 377, 3) := by decide +kernel
theorem dL_law_924 : decode cL_law 924 = .ok (.aload_n 1, 1) := by decide +kernel
theorem dL_law_925 : decode cL_law 925 = .ok (.aload_n 0, 1) := by decide +kernel
theorem dL_law_926 : decode cL_law 926 = .ok (.iload_n 3, 1) := by decide +kernel
theorem dL_law_927 : decode cL_law 927 = .ok (.iconst 1, 1) := by decide +kernel
theorem dL_law_928 : decode cL_law 928 = .ok (.iadd, 1) := by decide +kernel
theorem dL_law_929 : decode cL_law 929 = .ok (.iaload, 1) := by decide +kernel
theorem dL_law_930 : decode cL_law 930 = .ok (.invokevirtual 107, 3) := by decide +kernel
theorem dL_law_933 : decode cL_law 933 = .ok (.pop, 1) := by decide +kernel
theorem dL_law_934 : decode cL_law 934 = .ok (.aload_n 2, 1) := by decide +kernel
theorem dL_law_935 : decode cL_law 935 = .ok (.aload_n 0, 1) := by decide +kernel
theorem dL_law_936 : decode cL_law 936 = .ok (.iload_n 3, 1) := by decide +kernel
theorem dL_law_937 : decode cL_law 937 = .ok (.iconst 1, 1) := by decide +kernel
theorem dL_law_938 : decode cL_law 938 = .ok (.iadd, 1) := by decide +kernel
theorem dL_law_939 : decode cL_law 939 = .ok (.iaload, 1) := by decide +kernel
theorem dL_law_940 : decode cL_law 940 = .ok (.invokevirtual 110, 3) := by decide +kernel
theorem dL_law_943 : decode cL_law 943 = .ok (.pop, 1) := by decide +kernel
theorem dL_law_944 : decode cL_law 944 = .ok (.goto 354, 3) := by decide +kernel
theorem dL_law_947 : decode cL_law 947 = .ok (.aload_n 1, 1) := by decide +kernel
theorem dL_law_948 : decode cL_law 948 = .ok (.invokevirtual 111, 3) := by decide +kernel
theorem dL_law_951 : decode cL_law 951 = .ok (.pop, 1) := by decide +kernel
theorem dL_law_952 : decode cL_law 952 = .ok (.aload_n 2, 1) := by decide +kernel
theorem dL_law_953 : decode cL_law 953 = .ok (.invokevirtual 114, 3) := by decide +kernel
theorem dL_law_956 : decode cL_law 956 = .ok (.pop, 1) := by decide +kernel
theorem dL_law_957 : decode cL_law 957 = .ok (.goto 341, 3) := by decide +kernel
theorem dL_law_960 : decode cL_law 960 = .ok (.aload_n 1, 1) := by decide +kernel
theorem dL_law_961 : decode cL_law 961 = .ok (.aload_n 0, 1) := by decide +kernel
theorem dL_law_962 : decode cL_law 962 = .ok (.iload_n 3, 1) := by decide +kernel
theorem dL_law_963 : decode cL_law 963 = .ok (.iconst 1, 1) := by decide +kernel
theorem dL_law_964 : decode cL_law 964 = .ok (.iadd, 1) := by decide +kernel
theorem dL_law_965 : decode cL_law 965 = .ok (.iaload, 1) := by decide +kernel
theorem dL_law_966 : decode cL_law 966 = .ok (.invokevirtual 115, 3) := by decide +kernel
theorem dL_law_969 : decode cL_law 969 = .ok (.pop, 1) := by decide +kernel
theorem dL_law_970 : decode cL_law 970 = .ok (.aload_n 2, 1) := by decide +kernel
theorem dL_law_971 : decode cL_law 971 = .ok (.aload_n 0, 1) := by decide +kernel
theorem dL_law_972 : decode cL_law 972 = .ok (.iload_n 3, 1) := by decide +kernel
theorem dL_law_973 : decode cL_law 973 = .ok (.iconst 1, 1) := by decide +kernel
theorem dL_law_974 : decode cL_law 974 = .ok (.iadd, 1) := by decide +kernel
theorem dL_law_975 : decode cL_law 975 = .ok (.iaload, 1) := by decide +kernel
theorem dL_law_976 : decode cL_law 976 = .ok (.invokevirtual 118, 3) := by decide +kernel
theorem dL_law_979 : decode cL_law 979 = .ok (.pop, 1) := by decide +kernel
theorem dL_law_980 : decode cL_law 980 = .ok (.goto 318, 3) := by decide +kernel
theorem dL_law_983 : decode cL_law 983 = .ok (.aload_n 1, 1) := by decide +kernel
theorem dL_law_984 : decode cL_law 984 = .ok (.aload_n 0, 1) := by decide +kernel
theorem dL_law_985 : decode cL_law 985 = .ok (.iload_n 3, 1) := by decide +kernel
theorem dL_law_986 : decode cL_law 986 = .ok (.iconst 1, 1) := by decide +kernel
theorem dL_law_987 : decode cL_law 987 = .ok (.iadd, 1) := by decide +kernel
theorem dL_law_988 : decode cL_law 988 = .ok (.iaload, 1) := by decide +kernel
theorem dL_law_989 : decode cL_law 989 = .ok (.invokevirtual 119, 3) := by decide +kernel
theorem dL_law_992 : decode cL_law 992 = .ok (.pop, 1) := by decide +kernel
theorem dL_law_993 : decode cL_law 993 = .ok (.aload_n 2, 1) := by decide +kernel
theorem dL_law_994 : decode cL_law 994 = .ok (.aload_n 0, 1) := by decide +kernel
theorem dL_law_995 : decode cL_law 995 = .ok (.iload_n 3, 1) := by decide +kernel
theorem dL_law_996 : decode cL_law 996 = .ok (.iconst 1, 1) := by decide +kernel
theorem dL_law_997 : decode cL_law 997 = .ok (.iadd, 1) := by decide +kernel
theorem dL_law_998 : decode cL_law 998 = .ok (.iaload, 1) := by decide +kernel
theorem dL_law_999 : decode cL_law 999 = .ok (.invokevirtual 122, 3) := by decide +kernel
theorem dL_law_1002 : decode cL_law 1002 = .ok (.pop, 1) := by decide +kernel
theorem dL_law_1003 : decode cL_law 1003 = .ok (.goto 295, 3) := by decide +kernel
theorem dL_law_1006 : decode cL_law 1006 = .ok (.aload_n 1, 1) := by decide +kernel
theorem dL_law_1007 : decode cL_law 1007 = .ok (.aload_n 0, 1) := by decide +kernel
theorem dL_law_1008 : decode cL_law 1008 = .ok (.iload_n 3, 1) := by decide +kernel
theorem dL_law_1009 : decode cL_law 1009 = .ok (.iconst 1, 1) := by decide +kernel
theorem dL_law_1010 : decode cL_law 1010 = .ok (.iadd, 1) := by decide +kernel
theorem dL_law_1011 : decode cL_law 1011 = .ok (.iaload, 1) := by decide +kernel
theorem dL_law_1012 : decode cL_law 1012 = .ok (.aload_n 0, 1) := by decide +kernel
theorem dL_law_1013 : decode cL_law 1013 = .ok (.iload_n 3, 1) := by decide +kernel
theorem dL_law_1014 : decode cL_law 1014 = .ok (.iconst 2, 1) := by decide +kernel
theorem dL_law_1015 : decode cL_law 1015 = .ok (.iadd, 1) := by decide +kernel
theorem dL_law_1016 : decode cL_law 1016 = .ok (.iaload, 1) := by decide +kernel
theorem dL_law_1017 : decode cL_law 1017 = .ok (.aload_n 0, 1) := by decide +kernel
theorem dL_law_1018 : decode cL_law 1018 = .ok (.iload_n 3, 1) := by decide +kernel
theorem dL_law_1019 : decode cL_law 1019 = .ok (.iconst 3, 1) := by decide +kernel
theorem dL_law_1020 : decode cL_law 1020 = .ok (.iadd, 1) := by decide +kernel
theorem dL_law_1021 : decode cL_law 1021 = .ok (.iaload, 1) := by decide +kernel
theorem dL_law_1022 : decode cL_law 1022 = .ok (.invokevirtual 123, 3) := by decide +kernel
theorem dL_law_1025 : decode cL_law 1025 = .ok (.pop, 1) := by decide +kernel
theorem dL_law_1026 : decode cL_law 1026 = .ok (.aload_n 2, 1) := by decide +kernel
theorem dL_law_1027 : decode cL_law 1027 = .ok (.aload_n 0, 1) := by decide +kernel
theorem dL_law_1028 : decode cL_law 1028 = .ok (.iload_n 3, 1) := by decide +kernel
theorem dL_law_1029 : decode cL_law 1029 = .ok (.iconst 1, 1) := by decide +kernel
theorem dL_law_1030 : decode cL_law 1030 = .ok (.iadd, 1) := by decide +kernel
theorem dL_law_1031 : decode cL_law 1031 = .ok (.iaload, 1) := by decide +kernel
theorem dL_law_1032 : decode cL_law 1032 = .ok (.aload_n 0, 1) := by decide +kernel
theorem dL_law_1033 : decode cL_law 1033 = .ok (.iload_n 3, 1) := by decide +kernel
theorem dL_law_1034 : decode cL_law 1034 = .ok (.iconst 2, 1) := by decide +kernel
theorem dL_law_1035 : decode cL_law 1035 = .ok (.iadd, 1) := by decide +kernel
theorem dL_law_1036 : decode cL_law 1036 = .ok (.iaload, 1) := by decide +kernel
theorem dL_law_1037 : decode cL_law 1037 = .ok (.aload_n 0, 1) := by decide +kernel
theorem dL_law_1038 : decode cL_law 1038 = .ok (.iload_n 3, 1) := by decide +kernel
theorem dL_law_1039 : decode cL_law 1039 = .ok (.iconst 3, 1) := by decide +kernel
theorem dL_law_1040 : decode cL_law 1040 = .ok (.iadd, 1) := by decide +kernel
theorem dL_law_1041 : decode cL_law 1041 = .ok (.iaload, 1) := by decide +kernel
theorem dL_law_1042 : decode cL_law 1042 = .ok (.invokevirtual 126, 3) := by decide +kernel
theorem dL_law_1045 : decode cL_law 1045 = .ok (.pop, 1) := by decide +kernel
theorem dL_law_1046 : decode cL_law 1046 = .ok (.goto 252, 3) := by decide +kernel
theorem dL_law_1049 : decode cL_law 1049 = .ok (.aload_n 1, 1) := by decide +kernel
theorem dL_law_1050 : decode cL_law 1050 = .ok (.aload_n 0, 1) := by decide +kernel
theorem dL_law_1051 : decode cL_law 1051 = .ok (.iload_n 3, 1) := by decide +kernel
theorem dL_law_1052 : decode cL_law 1052 = .ok (.iconst 1, 1) := by decide +kernel
theorem dL_law_1053 : decode cL_law 1053 = .ok (.iadd, 1) := by decide +kernel
theorem dL_law_1054 : decode cL_law 1054 = .ok (.iaload, 1) := by decide +kernel
theorem dL_law_1055 : decode cL_law 1055 = .ok (.aload_n 0, 1) := by decide +kernel
theorem dL_law_1056 : decode cL_law 1056 = .ok (.iload_n 3, 1) := by decide +kernel
theorem dL_law_1057 : decode cL_law 1057 = .ok (.iconst 2, 1) := by decide +kernel
theorem dL_law_1058 : decode cL_law 1058 = .ok (.iadd, 1) := by decide +kernel
theorem dL_law_1059 : decode cL_law 1059 = .ok (.iaload, 1) := by decide +kernel
theorem dL_law_1060 : decode cL_law 1060 = .ok (.invokevirtual 127, 3) := by decide +kernel
theorem dL_law_1063 : decode cL_law 1063 = .ok (.aload_n 2, 1) := by decide +kernel
theorem dL_law_1064 : decode cL_law 1064 = .ok (.aload_n 0, 1) := by decide +kernel
theorem dL_law_1065 : decode cL_law 1065 = .ok (.iload_n 3, 1) := by decide +kernel
theorem dL_law_1066 : decode cL_law 1066 = .ok (.iconst 1, 1) := by decide +kernel
theorem dL_law_1067 : decode cL_law 1067 = .ok (.iadd, 1) := by decide +kernel
theorem dL_law_1068 : decode cL_law 1068 = .ok (.iaload, 1) := by decide +kernel
theorem dL_law_1069 : decode cL_law 1069 = .ok (.aload_n 0, 1) := by decide +kernel
theorem dL_law_1070 : decode cL_law 1070 = .ok (.iload_n 3, 1) := by decide +kernel
theorem dL_law_1071 : decode cL_law 1071 = .ok (.iconst 2, 1) := by decide +kernel
theorem dL_law_1072 : decode cL_law 1072 = .ok (.iadd, 1) := by decide +kernel
theorem dL_law_1073 : decode cL_law 1073 = .ok (.iaload, 1) := by decide +kernel
theorem dL_law_1074 : decode cL_law 1074 = .ok (.invokevirtual 130, 3) := by decide +kernel
theorem dL_law_1077 : decode cL_law 1077 = .ok (.if_icmp .eq 221, 3) := by decide +kernel
theorem dL_law_1082 : decode cL_law 1082 = .ok (.aload_n 1, 1) := by decide +kernel
theorem dL_law_1083 : decode cL_law 1083 = .ok (.aload_n 0, 1) := by decide +kernel
theorem dL_law_1084 : decode cL_law 1084 = .ok (.iload_n 3, 1) := by decide +kernel
theorem dL_law_1085 : decode cL_law 1085 = .ok (.iconst 1, 1) := by decide +kernel
theorem dL_law_1086 : decode cL_law 1086 = .ok (.iadd, 1) := by decide +kernel
theorem dL_law_1087 : decode cL_law 1087 = .ok (.iaload, 1) := by decide +kernel
theorem dL_law_1088 : decode cL_law 1088 = .ok (.invokevirtual 131, 3) := by decide +kernel
theorem dL_law_1091 : decode cL_law 1091 = .ok (.pop, 1) := by decide +kernel
theorem dL_law_1092 : decode cL_law 1092 = .ok (.aload_n 2, 1) := by decide +kernel
theorem dL_law_1093 : decode cL_law 1093 = .ok (.aload_n 0, 1) := by decide +kernel
theorem dL_law_1094 : decode cL_law 1094 = .ok (.iload_n 3, 1) := by decide +kernel
theorem dL_law_1095 : decode cL_law 1095 = .ok (.iconst 1, 1) := by decide +kernel
theorem dL_law_1096 : decode cL_law 1096 = .ok (.iadd, 1) := by decide +kernel
theorem dL_law_1097 : decode cL_law 1097 = .ok (.iaload, 1) := by decide +kernel
theorem dL_law_1098 : decode cL_law 1098 = .ok (.invokevirtual 134, 3) := by decide +kernel
theorem dL_law_1101 : decode cL_law 1101 = .ok (.pop, 1) := by decide +kernel
theorem dL_law_1102 : decode cL_law 1102 = .ok (.goto 196, 3) := by decide +kernel
theorem dL_law_1105 : decode cL_law 1105 = .ok (.aload_n 1, 1) := by decide +kernel
theorem dL_law_1106 : decode cL_law 1106 = .ok (.aload_n 0, 1) := by decide +kernel
theorem dL_law_1107 : decode cL_law 1107 = .ok (.iload_n 3, 1) := by decide +kernel
theorem dL_law_1108 : decode cL_law 1108 = .ok (.iconst 1, 1) := by decide +kernel
theorem dL_law_1109 : decode cL_law 1109 = .ok (.iadd, 1) := by decide +kernel
theorem dL_law_1110 : decode cL_law 1110 = .ok (.iaload, 1) := by decide +kernel
theorem dL_law_1111 : decode cL_law 1111 = .ok (.invokevirtual 135, 3) := by decide +kernel
theorem dL_law_1114 : decode cL_law 1114 = .ok (.pop, 1) := by decide +kernel
theorem dL_law_1115 : decode cL_law 1115 = .ok (.aload_n 2, 1) := by decide +kernel
theorem dL_law_1116 : decode cL_law 1116 = .ok (.aload_n 0, 1) := by decide +kernel
theorem dL_law_1117 : decode cL_law 1117 = .ok (.iload_n 3, 1) := by decide +kernel
theorem dL_law_1118 : decode cL_law 1118 = .ok (.iconst 1, 1) := by decide +kernel
theorem dL_law_1119 : decode cL_law 1119 = .ok (.iadd, 1) := by decide +kernel
theorem dL_law_1120 : decode cL_law 1120 = .ok (.iaload, 1) := by decide +kernel
theorem dL_law_1121 : decode cL_law 1121 = .ok (.invokevirtual 138, 3) := by decide +kernel
theorem dL_law_1124 : decode cL_law 1124 = .ok (.pop, 1) := by decide +kernel
theorem dL_law_1125 : decode cL_law 1125 = .ok (.goto 173, 3) := by decide +kernel
theorem dL_law_1128 : decode cL_law 1128 = .ok (.aload_n 1, 1) := by decide +kernel
theorem dL_law_1129 : decode cL_law 1129 = .ok (.invokevirtual 139, 3) := by decide +kernel
theorem dL_law_1132 : decode cL_law 1132 = .ok (.pop, 1) := by decide +kernel
theorem dL_law_1133 : decode cL_law 1133 = .ok (.aload_n 2, 1) := by decide +kernel
theorem dL_law_1134 : decode cL_law 1134 = .ok (.invokevirtual 142, 3) := by decide +kernel
theorem dL_law_1137 : decode cL_law 1137 = .ok (.pop, 1) := by decide +kernel
theorem dL_law_1138 : decode cL_law 1138 = .ok (.goto 160, 3) := by decide +kernel
theorem dL_law_1141 : decode cL_law 1141 = .ok (.aload_n 1, 1) := by decide +kernel
theorem dL_law_1142 : decode cL_law 1142 = .ok (.invokevirtual 143, 3) := by decide +kernel
theorem dL_law_1145 : decode cL_law 1145 = .ok (.pop, 1) := by decide +kernel
theorem dL_law_1146 : decode cL_law 1146 = .ok (.aload_n 2, 1) := by decide +kernel
theorem dL_law_1147 : decode cL_law 1147 = .ok (.invokevirtual 146, 3) := by decide +kernel
theorem dL_law_1150 : decode cL_law 1150 = .ok (.pop, 1) := by decide +kernel
theorem dL_law_1151 : decode cL_law 1151 = .ok (.goto 147, 3) := by decide +kernel
theorem dL_law_1154 : decode cL_law 1154 = .ok (.aload_n 1, 1) := by decide +kernel
theorem dL_law_1155 : decode cL_law 1155 = .ok (.aload_n 0, 1) := by decide +kernel
theorem dL_law_1156 : decode cL_law 1156 = .ok (.iload_n 3, 1) := by decide +kernel
theorem dL_law_1157 : decode cL_law 1157 = .ok (.iconst 1, 1) := by decide +kernel
theorem dL_law_1158 : decode cL_law 1158 = .ok (.iadd, 1) := by decide +kernel
theorem dL_law_1159 : decode cL_law 1159 = .ok (.iaload, 1) := by decide +kernel
theorem dL_law_1160 : decode cL_law 1160 = .ok (.invokevirtual 147, 3) := by decide +kernel
theorem dL_law_1163 : decode cL_law 1163 = .ok (.pop, 1) := by decide +kernel
theorem dL_law_1164 : decode cL_law 1164 = .ok (.aload_n 2, 1) := by decide +kernel
theorem dL_law_1165 : decode cL_law 1165 = .ok (.aload_n 0, 1) := by decide +kernel
theorem dL_law_1166 : decode cL_law 1166 = .ok (.iload_n 3, 1) := by decide +kernel
theorem dL_law_1167 : decode cL_law 1167 = .ok (.iconst 1, 1) := by decide +kernel
theorem dL_law_1168 : decode cL_law 1168 = .ok (.iadd, 1) := by decide +kernel
theorem dL_law_1169 : decode cL_law 1169 = .ok (.iaload, 1) := by decide +kernel
theorem dL_law_1170 : decode cL_law 1170 = .ok (.invokevirtual 150, 3) := by decide +kernel
theorem dL_law_1173 : decode cL_law 1173 = .ok (.pop, 1) := by decide +kernel
theorem dL_law_1174 : decode cL_law 1174 = .ok (.goto 124, 3) := by decide +kernel
theorem dL_law_1177 : decode cL_law 1177 = .ok (.aload_n 1, 1) := by decide +kernel
theorem dL_law_1178 : decode cL_law 1178 = .ok (.invokevirtual 151, 3) := by decide +kernel
theorem dL_law_1181 : decode cL_law 1181 = .ok (.pop, 1) := by decide +kernel
theorem dL_law_1182 : decode cL_law 1182 = .ok (.aload_n 2, 1) := by decide +kernel
theorem dL_law_1183 : decode cL_law 1183 = .ok (.invokevirtual 155, 3) := by decide +kernel
theorem dL_law_1186 : decode cL_law 1186 = .ok (.pop, 1) := by decide +kernel
theorem dL_law_1187 : decode cL_law 1187 = .ok (.goto 111, 3) := by decide +kernel
theorem dL_law_1190 : decode cL_law 1190 = .ok (.aload_n 1, 1) := by decide +kernel
theorem dL_law_1191 : decode cL_law 1191 = .ok (.aload_n 0, 1) := by decide +kernel
theorem dL_law_1192 : decode cL_law 1192 = .ok (.iload_n 3, 1) := by decide +kernel
theorem dL_law_1193 : decode cL_law 1193 = .ok (.iconst 1, 1) := by decide +kernel
theorem dL_law_1194 : decode cL_law 1194 = .ok (.iadd, 1) := by decide +kernel
theorem dL_law_1195 : decode cL_law 1195 = .ok (.iaload, 1) := by decide +kernel
theorem dL_law_1196 : decode cL_law 1196 = .ok (.invokevirtual 156, 3) := by decide +kernel
theorem dL_law_1199 : decode cL_law 1199 = .ok (.pop, 1) := by decide +kernel
theorem dL_law_1200 : decode cL_law 1200 = .ok (.aload_n 2, 1) := by decide +kernel
theorem dL_law_1201 : decode cL_law 1201 = .ok (.aload_n 0, 1) := by decide +kernel
theorem dL_law_1202 : decode cL_law 1202 = .ok (.iload_n 3, 1) := by decide +kernel
theorem dL_law_1203 : decode cL_law 1203 = .ok (.iconst 1, 1) := by decide +kernel
theorem dL_law_1204 : decode cL_law 1204 = .ok (.iadd, 1) := by decide +kernel
theorem dL_law_1205 : decode cL_law 1205 = .ok (.iaload, 1) := by decide +kernel
theorem dL_law_1206 : decode cL_law 1206 = .ok (.invokevirtual 159, 3) := by decide +kernel
theorem dL_law_1209 : decode cL_law 1209 = .ok (.pop, 1) := by decide +kernel
theorem dL_law_1210 : decode cL_law 1210 = .ok (.goto 88, 3) := by decide +kernel
theorem dL_law_1213 : decode cL_law 1213 = .ok (.aload_n 1, 1) := by decide +kernel
theorem dL_law_1214 : decode cL_law 1214 = .ok (.invokevirtual 160, 3) := by decide +kernel
theorem dL_law_1217 : decode cL_law 1217 = .ok (.pop2, 1) := by decide +kernel
theorem dL_law_1218 : decode cL_law 1218 = .ok (.aload_n 2, 1) := by decide +kernel
theorem dL_law_1219 : decode cL_law 1219 = .ok (.invokevirtual 164, 3) := by decide +kernel
theorem dL_law_1222 : decode cL_law 1222 = .ok (.pop2, 1) := by decide +kernel
theorem dL_law_1223 : decode cL_law 1223 = .ok (.goto 75, 3) := by decide +kernel
theorem dL_law_1226 : decode cL_law 1226 = .ok (.aload_n 1, 1) := by decide +kernel
theorem dL_law_1227 : decode cL_law 1227 = .ok (.invokevirtual 165, 3) := by decide +kernel
theorem dL_law_1230 : decode cL_law 1230 = .ok (.pop, 1) := by decide +kernel
theorem dL_law_1231 : decode cL_law 1231 = .ok (.aload_n 2, 1) := by decide +kernel
theorem dL_law_1232 : decode cL_law 1232 = .ok (.invokevirtual 168, 3) := by decide +kernel
theorem dL_law_1235 : decode cL_law 1235 = .ok (.pop, 1) := by decide +kernel
theorem dL_law_1236 : decode cL_law 1236 = .ok (.goto 62, 3) := by decide +kernel
theorem dL_law_1239 : decode cL_law 1239 = .ok (.aload_n 1, 1) := by decide +kernel
theorem dL_law_1240 : decode cL_law 1240 = .ok (.aload_n 0, 1) := by decide +kernel
theorem dL_law_1241 : decode cL_law 1241 = .ok (.iload_n 3, 1) := by decide +kernel
theorem dL_law_1242 : decode cL_law 1242 = .ok (.iconst 1, 1) := by decide +kernel
theorem dL_law_1243 : decode cL_law 1243 = .ok (.iadd, 1) := by decide +kernel
theorem dL_law_1244 : decode cL_law 1244 = .ok (.iaload, 1) := by decide +kernel
theorem dL_law_1245 : decode cL_law 1245 = .ok (.invokevirtual 169, 3) := by decide +kernel
theorem dL_law_1248 : decode cL_law 1248 = .ok (.pop, 1) := by decide +kernel
theorem dL_law_1249 : decode cL_law 1249 = .ok (.aload_n 2, 1) := by decide +kernel
theorem dL_law_1250 : decode cL_law 1250 = .ok (.aload_n 0, 1) := by decide +kernel
theorem dL_law_1251 : decode cL_law 1251 = .ok (.iload_n 3, 1) := by decide +kernel
theorem dL_law_1252 : decode cL_law 1252 = .ok (.iconst 1, 1) := by decide +kernel
theorem dL_law_1253 : decode cL_law 1253 = .ok (.iadd, 1) := by decide +kernel
theorem dL_law_1254 : decode cL_law 1254 = .ok (.iaload, 1) := by decide +kernel
theorem dL_law_1255 : decode cL_law 1255 = .ok (.invokevirtual 172, 3) := by decide +kernel
theorem dL_law_1258 : decode cL_law 1258 = .ok (.pop, 1) := by decide +kernel
theorem dL_law_1259 : decode cL_law 1259 = .ok (.goto 39, 3) := by decide +kernel
theorem dL_law_1262 : decode cL_law 1262 = .ok (.aload_n 1, 1) := by decide +kernel
theorem dL_law_1263 : decode cL_law 1263 = .ok (.invokevirtual 173, 3) := by decide +kernel
theorem dL_law_1266 : decode cL_law 1266 = .ok (.pop, 1) := by decide +kernel
theorem dL_law_1267 : decode cL_law 1267 = .ok (.aload_n 2, 1) := by decide +kernel
theorem dL_law_1268 : decode cL_law 1268 = .ok (.invokevirtual 176, 3) := by decide +kernel
theorem dL_law_1271 : decode cL_law 1271 = .ok (.pop, 1) := by decide +kernel
theorem dL_law_1272 : decode cL_law 1272 = .ok (.goto 26, 3) := by decide +kernel
theorem dL_law_1275 : decode cL_law 1275 = .ok (.aload_n 1, 1) := by decide +kernel
theorem dL_law_1276 : decode cL_law 1276 = .ok (.aload_n 0, 1) := by decide +kernel
theorem dL_law_1277 : decode cL_law 1277 = .ok (.iload_n 3, 1) := by decide +kernel
theorem dL_law_1278 : decode cL_law 1278 = .ok (.iconst 1, 1) := by decide +kernel
theorem dL_law_1279 : decode cL_law 1279 = .ok (.iadd, 1) := by decide +kernel
theorem dL_law_1280 : decode cL_law 1280 = .ok (.iaload, 1) := by decide +kernel
theorem dL_law_1281 : decode cL_law 1281 = .ok (.invokevirtual 177, 3) := by decide +kernel
theorem dL_law_1284 : decode cL_law 1284 = .ok (.pop, 1) := by decide +kernel
theorem dL_law_1285 : decode cL_law 1285 = .ok (.aload_n 2, 1) := by decide +kernel
theorem dL_law_1286 : decode cL_law 1286 = .ok (.aload_n 0, 1) := by decide +kernel
theorem dL_law_1287 : decode cL_law 1287 = .ok (.iload_n 3, 1) := by decide +kernel
theorem dL_law_1288 : decode cL_law 1288 = .ok (.iconst 1, 1) := by decide +kernel
theorem dL_law_1289 : decode cL_law 1289 = .ok (.iadd, 1) := by decide +kernel
theorem dL_law_1290 : decode cL_law 1290 = .ok (.iaload, 1) := by decide +kernel
theorem dL_law_1291 : decode cL_law 1291 = .ok (.invokevirtual 180, 3) := by decide +kernel
theorem dL_law_1294 : decode cL_law 1294 = .ok (.pop, 1) := by decide +kernel
theorem dL_law_1295 : decode cL_law 1295 = .ok (.goto 3, 3) := by decide +kernel
set_option maxHeartbeats 4000000 in
set_option maxRecDepth 100000 in
/-- victim -/
theorem lc_20 {p : Program} (l : Launch) {e : Env} {s₀ : State} {m : MethodId} {below : List Frame} {meth : Method} {c : Code} {b L : Nat} {xs : Nat → Int32} {A : Nat → Prop} {D : va_G} (hx : p.tables.exec = Jvm.exec) (hb : c.code = cL_law) (hml : c.maxLocals = 4) (hown : s₀.vm.findClass RL = some m.cls) (ht : ∀ w ∈ lw_gd, w.before #[Value.ref b] s₀ = true) (hX : va_X b L xs s₀ s₀.heap) (hbl : b < s₀.heap.size) (hbA : ¬ A b) (hA : ∀ q, s₀.heap.size ≤ q → A q) (hK : va_K D vwCl (TY D) s₀) (hN : NN s₀) (hL : L ≤ 3072) {i : Nat} {H : Heap} {locs : List Loc} {ls : Array Slot} {ax am : Nat → Nat} {ps : List ((Nat → Nat) × MS)} (x x1 : MS) (ts : List MS) (r : Int) (t t1 : MS) (r2 : Int) {cells slots : Nat} (hcs : cells + 9 ≤ 600000 ∧ slots + 795 ≤ 7302249) (hi : i + 5 < L) (hts : ps.map Prod.snd = ts) (hP : va_P D vwCl (XW D ax x ps ++ RW D am t) H) (hD : va_D A (XW D ax x ps ++ RW D am t)) (hS : va_S A s₀.heap H locs) (hl : lv_has ls 4 [(3, .int (nI i)), (2, .ref (am 200)), (1, .ref (ax 0)), (0, .ref b)]) (h1 : m_x11_victim (xs (i + 1)).toInt x = some (r, x1)) (h2 : m_x12_victim (xs (i + 1)).toInt t = some (r2, t1))
    (kk : ∀ (ax1 : Nat → Nat) (ps1 : List ((Nat → Nat) × MS)) (H : Heap) (locs : List Loc), ax1 0 = ax 0 → ps1.map Prod.snd = ts → va_P D vwCl (XW D ax1 x1 ps1 ++ RW D am t1) H → va_D A (XW D ax1 x1 ps1 ++ RW D am t1) → va_S A s₀.heap H locs → W p l e room_1 s₀ m #[Value.ref b] below meth c H locs (cells + 9) (slots + 795) (lw_Z below #[Value.ref b] s₀) (F0 m 1298 ls [])) : W p l e room_1 s₀ m #[Value.ref b] below meth c H locs cells slots (lw_Z below #[Value.ref b] s₀) (F0 m 878 ls []) := by
  refine lv_aload_n hx hb dL_law_878 rfl (lv_at hl 2 rfl) ?_
  refine lv_aload_n hx hb dL_law_879 rfl (lv_at hl 3 rfl) ?_
  refine lv_iload_n hx hb dL_law_880 rfl (lv_at hl 0 rfl) ?_
  refine lv_iconst (v := 1) hx hb dL_law_881 (by decide) ?_
  refine lv_iadd hx hb dL_law_882 ?_
  refine z_topi (y := nI (i + 1)) (li_1 i) ?_
  refine va_sld hx hb hX hbl hbA hS (vp_in_nI (by omega) (by omega)) dL_law_883 ?_
  refine z_topi (y := i2 (xs (i + 1)).toInt) (by rw [nI_clamp (by omega), i2_of]) ?_
  obtain ⟨ps1, hps⟩ : ∃ z, z = ps := ⟨ps, rfl⟩
  obtain ⟨ax1, hax1⟩ : ∃ z, z = ax := ⟨ax, rfl⟩
  refine ywV (r0 := i2 r) (As := [.int (i2 (xs (i + 1)).toInt)]) (rest := []) (C := RX11) (n := 1) (ws' := XW D ax x1 ps ++ RW D am t) ⟨hx, hb, hml, hown, ht⟩ (yWi_f _ (yWi_f _ (k_x11_victim l D ax (xs (i + 1)).toInt _ _ _ h1))) (zgV ml_L_99 im_X11_victim se_X11_victim in_X11 co_X11_victim) rfl rfl (by decide +kernel) ⟨Nat.le_of_ble_eq_true rfl, Nat.le_of_ble_eq_true rfl⟩ hN hK hP hD hS hA 0 (ap_g (ap_g CW_0)) rfl rfl rfl hl.1 rfl (Nat.le_of_ble_eq_true rfl) dL_law_884 ⟨Nat.le_trans (Nat.le_add_right _ _) hcs.1, Nat.le_trans (Nat.le_add_right _ _) hcs.2⟩ (fun H locs hP hS => ?_)
  have hD : va_D A (XW D ax x1 ps ++ RW D am t) := XR_D hD
  have hax : ax1 0 = ax 0 := by rw [hax1]
  have hts1 : ps1.map Prod.snd = ts := by rw [hps]; exact hts
  rw [← hps, ← hax1] at hP hD
  refine W.widen (k := cells + 9) (n := slots + 795) (Nat.le_add_right _ _) (Nat.le_add_right _ _) ?_
  refine lv_pop hx hb dL_law_887 rfl ?_
  refine lv_aload_n hx hb dL_law_888 rfl (lv_at hl 1 rfl) ?_
  refine lv_aload_n hx hb dL_law_889 rfl (lv_at hl 3 rfl) ?_
  refine lv_iload_n hx hb dL_law_890 rfl (lv_at hl 0 rfl) ?_
  refine lv_iconst (v := 1) hx hb dL_law_891 (by decide) ?_
  refine lv_iadd hx hb dL_law_892 ?_
  refine z_topi (y := nI (i + 1)) (li_1 i) ?_
  refine va_sld hx hb hX hbl hbA hS (vp_in_nI (by omega) (by omega)) dL_law_893 ?_
  refine z_topi (y := i2 (xs (i + 1)).toInt) (by rw [nI_clamp (by omega), i2_of]) ?_
  refine ywV (r0 := i2 r2) (As := [.int (i2 (xs (i + 1)).toInt)]) (rest := []) (C := RX12) (n := 1) (ws' := XW D ax1 x1 ps1 ++ RW D am t1) ⟨hx, hb, hml, hown, ht⟩ (yWi_c (yWi_f (XW D ax1 x1 ps1) (k_x12_victim l D am (xs (i + 1)).toInt _ _ _ h2))) (zgV ml_L_102 im_X12_victim se_X12_victim in_X12 co_X12_victim) rfl rfl (by decide +kernel) ⟨Nat.le_of_ble_eq_true rfl, Nat.le_of_ble_eq_true rfl⟩ hN hK hP hD hS hA (XW D ax1 x1 ps1).length (ap_h RW_0) rfl rfl rfl hl.1 rfl (Nat.le_of_ble_eq_true rfl) dL_law_894 hcs (fun H locs hP hS => ?_)
  have hD : va_D A (XW D ax1 x1 ps1 ++ RW D am t1) := XR_D hD
  refine lv_pop hx hb dL_law_897 rfl ?_
  refine lv_goto (tgt := 1298) hx hb dL_law_898 (by decide) ?_
  exact kk ax1 ps1 _ _ hax hts1 hP hD hS
set_option maxHeartbeats 4000000 in
set_option maxRecDepth 100000 in
/-- room -/
theorem lc_21 {p : Program} (l : Launch) {e : Env} {s₀ : State} {m : MethodId} {below : List Frame} {meth : Method} {c : Code} {b L : Nat} {xs : Nat → Int32} {A : Nat → Prop} {D : va_G} (hx : p.tables.exec = Jvm.exec) (hb : c.code = cL_law) (hml : c.maxLocals = 4) (hown : s₀.vm.findClass RL = some m.cls) (ht : ∀ w ∈ lw_gd, w.before #[Value.ref b] s₀ = true) (hX : va_X b L xs s₀ s₀.heap) (hbl : b < s₀.heap.size) (hbA : ¬ A b) (hA : ∀ q, s₀.heap.size ≤ q → A q) (hK : va_K D vwCl (TY D) s₀) (hN : NN s₀) (hL : L ≤ 3072) {i : Nat} {H : Heap} {locs : List Loc} {ls : Array Slot} {ax am : Nat → Nat} {ps : List ((Nat → Nat) × MS)} (x : MS) (ts : List MS) (r : Int) (t : MS) (r2 : Int) {cells slots : Nat} (hcs : cells + 9 ≤ 600000 ∧ slots + 795 ≤ 7302249) (hi : i + 5 < L) (hts : ps.map Prod.snd = ts) (hP : va_P D vwCl (XW D ax x ps ++ RW D am t) H) (hD : va_D A (XW D ax x ps ++ RW D am t)) (hS : va_S A s₀.heap H locs) (hl : lv_has ls 4 [(3, .int (nI i)), (2, .ref (am 200)), (1, .ref (ax 0)), (0, .ref b)]) (h1 : m_x11_room (xs (i + 1)).toInt x = some r) (h2 : m_x12_room (xs (i + 1)).toInt t = some r2)
    (kk : ∀ (ax1 : Nat → Nat) (ps1 : List ((Nat → Nat) × MS)) (H : Heap) (locs : List Loc), ax1 0 = ax 0 → ps1.map Prod.snd = ts → va_P D vwCl (XW D ax1 x ps1 ++ RW D am t) H → va_D A (XW D ax1 x ps1 ++ RW D am t) → va_S A s₀.heap H locs → W p l e room_1 s₀ m #[Value.ref b] below meth c H locs (cells + 9) (slots + 795) (lw_Z below #[Value.ref b] s₀) (F0 m 1298 ls [])) : W p l e room_1 s₀ m #[Value.ref b] below meth c H locs cells slots (lw_Z below #[Value.ref b] s₀) (F0 m 901 ls []) := by
  refine lv_aload_n hx hb dL_law_901 rfl (lv_at hl 2 rfl) ?_
  refine lv_aload_n hx hb dL_law_902 rfl (lv_at hl 3 rfl) ?_
  refine lv_iload_n hx hb dL_law_903 rfl (lv_at hl 0 rfl) ?_
  refine lv_iconst (v := 1) hx hb dL_law_904 (by decide) ?_
  refine lv_iadd hx hb dL_law_905 ?_
  refine z_topi (y := nI (i + 1)) (li_1 i) ?_
  refine va_sld hx hb hX hbl hbA hS (vp_in_nI (by omega) (by omega)) dL_law_906 ?_
  refine z_topi (y := i2 (xs (i + 1)).toInt) (by rw [nI_clamp (by omega), i2_of]) ?_
  obtain ⟨ps1, hps⟩ : ∃ z, z = ps := ⟨ps, rfl⟩
  obtain ⟨ax1, hax1⟩ : ∃ z, z = ax := ⟨ax, rfl⟩
  refine ycV (r0 := i2 r) (As := [.int (i2 (xs (i + 1)).toInt)]) (rest := []) (C := RX11) (n := 1) ⟨hx, hb, hml, hown, ht⟩ (yRi_f _ (yRi_f _ (k_x11_room l D ax (xs (i + 1)).toInt _ _ h1))) (zgV ml_L_103 im_X11_room se_X11_room in_X11 co_X11_room) rfl rfl (by decide +kernel) ⟨Nat.le_of_ble_eq_true rfl, Nat.le_of_ble_eq_true rfl⟩ hN hK hP hS 0 (ap_g (ap_g CW_0)) rfl rfl rfl hl.1 rfl (Nat.le_of_ble_eq_true rfl) dL_law_907 ⟨Nat.le_trans (Nat.le_add_right _ _) hcs.1, Nat.le_trans (Nat.le_add_right _ _) hcs.2⟩ (fun H locs hP hS => ?_)
  have hax : ax1 0 = ax 0 := by rw [hax1]
  have hts1 : ps1.map Prod.snd = ts := by rw [hps]; exact hts
  rw [← hps, ← hax1] at hP hD
  refine W.widen (k := cells + 9) (n := slots + 795) (Nat.le_add_right _ _) (Nat.le_add_right _ _) ?_
  refine lv_pop hx hb dL_law_910 rfl ?_
  refine lv_aload_n hx hb dL_law_911 rfl (lv_at hl 1 rfl) ?_
  refine lv_aload_n hx hb dL_law_912 rfl (lv_at hl 3 rfl) ?_
  refine lv_iload_n hx hb dL_law_913 rfl (lv_at hl 0 rfl) ?_
  refine lv_iconst (v := 1) hx hb dL_law_914 (by decide) ?_
  refine lv_iadd hx hb dL_law_915 ?_
  refine z_topi (y := nI (i + 1)) (li_1 i) ?_
  refine va_sld hx hb hX hbl hbA hS (vp_in_nI (by omega) (by omega)) dL_law_916 ?_
  refine z_topi (y := i2 (xs (i + 1)).toInt) (by rw [nI_clamp (by omega), i2_of]) ?_
  refine ycV (r0 := i2 r2) (As := [.int (i2 (xs (i + 1)).toInt)]) (rest := []) (C := RX12) (n := 1) ⟨hx, hb, hml, hown, ht⟩ (yRi_c (T := XW D ax1 x ps1) (k_x12_room l D am (xs (i + 1)).toInt _ _ h2)) (zgV ml_L_106 im_X12_room se_X12_room in_X12 co_X12_room) rfl rfl (by decide +kernel) ⟨Nat.le_of_ble_eq_true rfl, Nat.le_of_ble_eq_true rfl⟩ hN hK hP hS (XW D ax1 x ps1).length (ap_h RW_0) rfl rfl rfl hl.1 rfl (Nat.le_of_ble_eq_true rfl) dL_law_917 hcs (fun H locs hP hS => ?_)
  refine lv_pop hx hb dL_law_920 rfl ?_
  refine lv_goto (tgt := 1298) hx hb dL_law_921 (by decide) ?_
  exact kk ax1 ps1 _ _ hax hts1 hP hD hS
set_option maxHeartbeats 4000000 in
set_option maxRecDepth 100000 in
/-- back -/
theorem lc_22 {p : Program} (l : Launch) {e : Env} {s₀ : State} {m : MethodId} {below : List Frame} {meth : Method} {c : Code} {b L : Nat} {xs : Nat → Int32} {A : Nat → Prop} {D : va_G} (hx : p.tables.exec = Jvm.exec) (hb : c.code = cL_law) (hml : c.maxLocals = 4) (hown : s₀.vm.findClass RL = some m.cls) (ht : ∀ w ∈ lw_gd, w.before #[Value.ref b] s₀ = true) (hX : va_X b L xs s₀ s₀.heap) (hbl : b < s₀.heap.size) (hbA : ¬ A b) (hA : ∀ q, s₀.heap.size ≤ q → A q) (hK : va_K D vwCl (TY D) s₀) (hN : NN s₀) (hL : L ≤ 3072) {i : Nat} {H : Heap} {locs : List Loc} {ls : Array Slot} {ax am : Nat → Nat} {ps : List ((Nat → Nat) × MS)} (x x1 : MS) (ts : List MS) (r : Int) (t : MS) (r2 : Int) {cells slots : Nat} (hcs : cells + 9 ≤ 600000 ∧ slots + 795 ≤ 7302249) (hi : i + 5 < L) (hts : ps.map Prod.snd = ts) (hP : va_P D vwCl (XW D ax x ps ++ RW D am t) H) (hD : va_D A (XW D ax x ps ++ RW D am t)) (hS : va_S A s₀.heap H locs) (hl : lv_has ls 4 [(3, .int (nI i)), (2, .ref (am 200)), (1, .ref (ax 0)), (0, .ref b)]) (h1 : m_x11_back (xs (i + 1)).toInt x = some (r, x1)) (h2 : m_x12_back (xs (i + 1)).toInt t = some r2)
    (kk : ∀ (ax1 : Nat → Nat) (ps1 : List ((Nat → Nat) × MS)) (H : Heap) (locs : List Loc), ax1 0 = ax 0 → ps1.map Prod.snd = ts → va_P D vwCl (XW D ax1 x1 ps1 ++ RW D am t) H → va_D A (XW D ax1 x1 ps1 ++ RW D am t) → va_S A s₀.heap H locs → W p l e room_1 s₀ m #[Value.ref b] below meth c H locs (cells + 9) (slots + 795) (lw_Z below #[Value.ref b] s₀) (F0 m 1298 ls [])) : W p l e room_1 s₀ m #[Value.ref b] below meth c H locs cells slots (lw_Z below #[Value.ref b] s₀) (F0 m 924 ls []) := by
  refine lv_aload_n hx hb dL_law_924 rfl (lv_at hl 2 rfl) ?_
  refine lv_aload_n hx hb dL_law_925 rfl (lv_at hl 3 rfl) ?_
  refine lv_iload_n hx hb dL_law_926 rfl (lv_at hl 0 rfl) ?_
  refine lv_iconst (v := 1) hx hb dL_law_927 (by decide) ?_
  refine lv_iadd hx hb dL_law_928 ?_
  refine z_topi (y := nI (i + 1)) (li_1 i) ?_
  refine va_sld hx hb hX hbl hbA hS (vp_in_nI (by omega) (by omega)) dL_law_929 ?_
  refine z_topi (y := i2 (xs (i + 1)).toInt) (by rw [nI_clamp (by omega), i2_of]) ?_
  obtain ⟨ps1, hps⟩ : ∃ z, z = ps := ⟨ps, rfl⟩
  obtain ⟨ax1, hax1⟩ : ∃ z, z = ax := ⟨ax, rfl⟩
  refine ywV (r0 := i2 r) (As := [.int (i2 (xs (i + 1)).toInt)]) (rest := []) (C := RX11) (n := 1) (ws' := XW D ax x1 ps ++ RW D am t) ⟨hx, hb, hml, hown, ht⟩ (yWi_f _ (yWi_f _ (k_x11_back l D ax (xs (i + 1)).toInt _ _ _ h1))) (zgV ml_L_107 im_X11_back se_X11_back in_X11 co_X11_back) rfl rfl (by decide +kernel) ⟨Nat.le_of_ble_eq_true rfl, Nat.le_of_ble_eq_true rfl⟩ hN hK hP hD hS hA 0 (ap_g (ap_g CW_0)) rfl rfl rfl hl.1 rfl (Nat.le_of_ble_eq_true rfl) dL_law_930 ⟨Nat.le_trans (Nat.le_add_right _ _) hcs.1, Nat.le_trans (Nat.le_add_right _ _) hcs.2⟩ (fun H locs hP hS => ?_)
  have hD : va_D A (XW D ax x1 ps ++ RW D am t) := XR_D hD
  have hax : ax1 0 = ax 0 := by rw [hax1]
  have hts1 : ps1.map Prod.snd = ts := by rw [hps]; exact hts
  rw [← hps, ← hax1] at hP hD
  refine W.widen (k := cells + 9) (n := slots + 795) (Nat.le_add_right _ _) (Nat.le_add_right _ _) ?_
  refine lv_pop hx hb dL_law_933 rfl ?_
  refine lv_aload_n hx hb dL_law_934 rfl (lv_at hl 1 rfl) ?_
  refine lv_aload_n hx hb dL_law_935 rfl (lv_at hl 3 rfl) ?_
  refine lv_iload_n hx hb dL_law_936 rfl (lv_at hl 0 rfl) ?_
  refine lv_iconst (v := 1) hx hb dL_law_937 (by decide) ?_
  refine lv_iadd hx hb dL_law_938 ?_
  refine z_topi (y := nI (i + 1)) (li_1 i) ?_
  refine va_sld hx hb hX hbl hbA hS (vp_in_nI (by omega) (by omega)) dL_law_939 ?_
  refine z_topi (y := i2 (xs (i + 1)).toInt) (by rw [nI_clamp (by omega), i2_of]) ?_
  refine ycV (r0 := i2 r2) (As := [.int (i2 (xs (i + 1)).toInt)]) (rest := []) (C := RX12) (n := 1) ⟨hx, hb, hml, hown, ht⟩ (yRi_c (T := XW D ax1 x1 ps1) (k_x12_back l D am (xs (i + 1)).toInt _ _ h2)) (zgV ml_L_110 im_X12_back se_X12_back in_X12 co_X12_back) rfl rfl (by decide +kernel) ⟨Nat.le_of_ble_eq_true rfl, Nat.le_of_ble_eq_true rfl⟩ hN hK hP hS (XW D ax1 x1 ps1).length (ap_h RW_0) rfl rfl rfl hl.1 rfl (Nat.le_of_ble_eq_true rfl) dL_law_940 hcs (fun H locs hP hS => ?_)
  refine lv_pop hx hb dL_law_943 rfl ?_
  refine lv_goto (tgt := 1298) hx hb dL_law_944 (by decide) ?_
  exact kk ax1 ps1 _ _ hax hts1 hP hD hS
set_option maxHeartbeats 4000000 in
set_option maxRecDepth 100000 in
/-- see -/
theorem lc_23 {p : Program} (l : Launch) {e : Env} {s₀ : State} {m : MethodId} {below : List Frame} {meth : Method} {c : Code} {b L : Nat} {xs : Nat → Int32} {A : Nat → Prop} {D : va_G} (hx : p.tables.exec = Jvm.exec) (hb : c.code = cL_law) (hml : c.maxLocals = 4) (hown : s₀.vm.findClass RL = some m.cls) (ht : ∀ w ∈ lw_gd, w.before #[Value.ref b] s₀ = true) (hX : va_X b L xs s₀ s₀.heap) (hbl : b < s₀.heap.size) (hbA : ¬ A b) (hA : ∀ q, s₀.heap.size ≤ q → A q) (hK : va_K D vwCl (TY D) s₀) (hN : NN s₀) (hL : L ≤ 3072) {i : Nat} {H : Heap} {locs : List Loc} {ls : Array Slot} {ax am : Nat → Nat} {ps : List ((Nat → Nat) × MS)} (x x1 : MS) (ts : List MS) (r : Int) (t t1 : MS) (r2 : Int) {cells slots : Nat} (hcs : cells + 9 ≤ 600000 ∧ slots + 795 ≤ 7302249) (hi : i + 5 < L) (hts : ps.map Prod.snd = ts) (hP : va_P D vwCl (XW D ax x ps ++ RW D am t) H) (hD : va_D A (XW D ax x ps ++ RW D am t)) (hS : va_S A s₀.heap H locs) (hl : lv_has ls 4 [(3, .int (nI i)), (2, .ref (am 200)), (1, .ref (ax 0)), (0, .ref b)]) (h1 : m_x11_see x = some (r, x1)) (h2 : m_x12_see t = some (r2, t1))
    (kk : ∀ (ax1 : Nat → Nat) (ps1 : List ((Nat → Nat) × MS)) (H : Heap) (locs : List Loc), ax1 0 = ax 0 → ps1.map Prod.snd = ts → va_P D vwCl (XW D ax1 x1 ps1 ++ RW D am t1) H → va_D A (XW D ax1 x1 ps1 ++ RW D am t1) → va_S A s₀.heap H locs → W p l e room_1 s₀ m #[Value.ref b] below meth c H locs (cells + 9) (slots + 795) (lw_Z below #[Value.ref b] s₀) (F0 m 1298 ls [])) : W p l e room_1 s₀ m #[Value.ref b] below meth c H locs cells slots (lw_Z below #[Value.ref b] s₀) (F0 m 947 ls []) := by
  refine lv_aload_n hx hb dL_law_947 rfl (lv_at hl 2 rfl) ?_
  obtain ⟨ps1, hps⟩ : ∃ z, z = ps := ⟨ps, rfl⟩
  obtain ⟨ax1, hax1⟩ : ∃ z, z = ax := ⟨ax, rfl⟩
  refine ywV (r0 := i2 r) (As := []) (rest := []) (C := RX11) (n := 0) (ws' := XW D ax x1 ps ++ RW D am t) ⟨hx, hb, hml, hown, ht⟩ (yWi_f _ (yWi_f _ (k_x11_see l D ax _ _ _ h1))) (zgV ml_L_111 im_X11_see se_X11_see in_X11 co_X11_see) rfl rfl (by decide +kernel) ⟨Nat.le_of_ble_eq_true rfl, Nat.le_of_ble_eq_true rfl⟩ hN hK hP hD hS hA 0 (ap_g (ap_g CW_0)) rfl rfl rfl hl.1 rfl (Nat.le_of_ble_eq_true rfl) dL_law_948 ⟨Nat.le_trans (Nat.le_add_right _ _) hcs.1, Nat.le_trans (Nat.le_add_right _ _) hcs.2⟩ (fun H locs hP hS => ?_)
  have hD : va_D A (XW D ax x1 ps ++ RW D am t) := XR_D hD
  have hax : ax1 0 = ax 0 := by rw [hax1]
  have hts1 : ps1.map Prod.snd = ts := by rw [hps]; exact hts
  rw [← hps, ← hax1] at hP hD
  refine W.widen (k := cells + 9) (n := slots + 795) (Nat.le_add_right _ _) (Nat.le_add_right _ _) ?_
  refine lv_pop hx hb dL_law_951 rfl ?_
  refine lv_aload_n hx hb dL_law_952 rfl (lv_at hl 1 rfl) ?_
  refine ywV (r0 := i2 r2) (As := []) (rest := []) (C := RX12) (n := 0) (ws' := XW D ax1 x1 ps1 ++ RW D am t1) ⟨hx, hb, hml, hown, ht⟩ (yWi_c (yWi_f (XW D ax1 x1 ps1) (k_x12_see l D am _ _ _ h2))) (zgV ml_L_114 im_X12_see se_X12_see in_X12 co_X12_see) rfl rfl (by decide +kernel) ⟨Nat.le_of_ble_eq_true rfl, Nat.le_of_ble_eq_true rfl⟩ hN hK hP hD hS hA (XW D ax1 x1 ps1).length (ap_h RW_0) rfl rfl rfl hl.1 rfl (Nat.le_of_ble_eq_true rfl) dL_law_953 hcs (fun H locs hP hS => ?_)
  have hD : va_D A (XW D ax1 x1 ps1 ++ RW D am t1) := XR_D hD
  refine lv_pop hx hb dL_law_956 rfl ?_
  refine lv_goto (tgt := 1298) hx hb dL_law_957 (by decide) ?_
  exact kk ax1 ps1 _ _ hax hts1 hP hD hS
set_option maxHeartbeats 4000000 in
set_option maxRecDepth 100000 in
/-- fits -/
theorem lc_24 {p : Program} (l : Launch) {e : Env} {s₀ : State} {m : MethodId} {below : List Frame} {meth : Method} {c : Code} {b L : Nat} {xs : Nat → Int32} {A : Nat → Prop} {D : va_G} (hx : p.tables.exec = Jvm.exec) (hb : c.code = cL_law) (hml : c.maxLocals = 4) (hown : s₀.vm.findClass RL = some m.cls) (ht : ∀ w ∈ lw_gd, w.before #[Value.ref b] s₀ = true) (hX : va_X b L xs s₀ s₀.heap) (hbl : b < s₀.heap.size) (hbA : ¬ A b) (hA : ∀ q, s₀.heap.size ≤ q → A q) (hK : va_K D vwCl (TY D) s₀) (hN : NN s₀) (hL : L ≤ 3072) {i : Nat} {H : Heap} {locs : List Loc} {ls : Array Slot} {ax am : Nat → Nat} {ps : List ((Nat → Nat) × MS)} (x x1 : MS) (ts : List MS) (r : Int) (t : MS) (r2 : Int) {cells slots : Nat} (hcs : cells + 9 ≤ 600000 ∧ slots + 795 ≤ 7302249) (hi : i + 5 < L) (hts : ps.map Prod.snd = ts) (hP : va_P D vwCl (XW D ax x ps ++ RW D am t) H) (hD : va_D A (XW D ax x ps ++ RW D am t)) (hS : va_S A s₀.heap H locs) (hl : lv_has ls 4 [(3, .int (nI i)), (2, .ref (am 200)), (1, .ref (ax 0)), (0, .ref b)]) (h1 : m_x11_fits (xs (i + 1)).toInt x = some (r, x1)) (h2 : m_x12_fits (xs (i + 1)).toInt t = some r2)
    (kk : ∀ (ax1 : Nat → Nat) (ps1 : List ((Nat → Nat) × MS)) (H : Heap) (locs : List Loc), ax1 0 = ax 0 → ps1.map Prod.snd = ts → va_P D vwCl (XW D ax1 x1 ps1 ++ RW D am t) H → va_D A (XW D ax1 x1 ps1 ++ RW D am t) → va_S A s₀.heap H locs → W p l e room_1 s₀ m #[Value.ref b] below meth c H locs (cells + 9) (slots + 795) (lw_Z below #[Value.ref b] s₀) (F0 m 1298 ls [])) : W p l e room_1 s₀ m #[Value.ref b] below meth c H locs cells slots (lw_Z below #[Value.ref b] s₀) (F0 m 960 ls []) := by
  refine lv_aload_n hx hb dL_law_960 rfl (lv_at hl 2 rfl) ?_
  refine lv_aload_n hx hb dL_law_961 rfl (lv_at hl 3 rfl) ?_
  refine lv_iload_n hx hb dL_law_962 rfl (lv_at hl 0 rfl) ?_
  refine lv_iconst (v := 1) hx hb dL_law_963 (by decide) ?_
  refine lv_iadd hx hb dL_law_964 ?_
  refine z_topi (y := nI (i + 1)) (li_1 i) ?_
  refine va_sld hx hb hX hbl hbA hS (vp_in_nI (by omega) (by omega)) dL_law_965 ?_
  refine z_topi (y := i2 (xs (i + 1)).toInt) (by rw [nI_clamp (by omega), i2_of]) ?_
  obtain ⟨ps1, hps⟩ : ∃ z, z = ps := ⟨ps, rfl⟩
  obtain ⟨ax1, hax1⟩ : ∃ z, z = ax := ⟨ax, rfl⟩
  refine ywV (r0 := i2 r) (As := [.int (i2 (xs (i + 1)).toInt)]) (rest := []) (C := RX11) (n := 1) (ws' := XW D ax x1 ps ++ RW D am t) ⟨hx, hb, hml, hown, ht⟩ (yWi_f _ (yWi_f _ (k_x11_fits l D ax (xs (i + 1)).toInt _ _ _ h1))) (zgV ml_L_115 im_X11_fits se_X11_fits in_X11 co_X11_fits) rfl rfl (by decide +kernel) ⟨Nat.le_of_ble_eq_true rfl, Nat.le_of_ble_eq_true rfl⟩ hN hK hP hD hS hA 0 (ap_g (ap_g CW_0)) rfl rfl rfl hl.1 rfl (Nat.le_of_ble_eq_true rfl) dL_law_966 ⟨Nat.le_trans (Nat.le_add_right _ _) hcs.1, Nat.le_trans (Nat.le_add_right _ _) hcs.2⟩ (fun H locs hP hS => ?_)
  have hD : va_D A (XW D ax x1 ps ++ RW D am t) := XR_D hD
  have hax : ax1 0 = ax 0 := by rw [hax1]
  have hts1 : ps1.map Prod.snd = ts := by rw [hps]; exact hts
  rw [← hps, ← hax1] at hP hD
  refine W.widen (k := cells + 9) (n := slots + 795) (Nat.le_add_right _ _) (Nat.le_add_right _ _) ?_
  refine lv_pop hx hb dL_law_969 rfl ?_
  refine lv_aload_n hx hb dL_law_970 rfl (lv_at hl 1 rfl) ?_
  refine lv_aload_n hx hb dL_law_971 rfl (lv_at hl 3 rfl) ?_
  refine lv_iload_n hx hb dL_law_972 rfl (lv_at hl 0 rfl) ?_
  refine lv_iconst (v := 1) hx hb dL_law_973 (by decide) ?_
  refine lv_iadd hx hb dL_law_974 ?_
  refine z_topi (y := nI (i + 1)) (li_1 i) ?_
  refine va_sld hx hb hX hbl hbA hS (vp_in_nI (by omega) (by omega)) dL_law_975 ?_
  refine z_topi (y := i2 (xs (i + 1)).toInt) (by rw [nI_clamp (by omega), i2_of]) ?_
  refine ycV (r0 := i2 r2) (As := [.int (i2 (xs (i + 1)).toInt)]) (rest := []) (C := RX12) (n := 1) ⟨hx, hb, hml, hown, ht⟩ (yRi_c (T := XW D ax1 x1 ps1) (k_x12_fits l D am (xs (i + 1)).toInt _ _ h2)) (zgV ml_L_118 im_X12_fits se_X12_fits in_X12 co_X12_fits) rfl rfl (by decide +kernel) ⟨Nat.le_of_ble_eq_true rfl, Nat.le_of_ble_eq_true rfl⟩ hN hK hP hS (XW D ax1 x1 ps1).length (ap_h RW_0) rfl rfl rfl hl.1 rfl (Nat.le_of_ble_eq_true rfl) dL_law_976 hcs (fun H locs hP hS => ?_)
  refine lv_pop hx hb dL_law_979 rfl ?_
  refine lv_goto (tgt := 1298) hx hb dL_law_980 (by decide) ?_
  exact kk ax1 ps1 _ _ hax hts1 hP hD hS
set_option maxHeartbeats 4000000 in
set_option maxRecDepth 100000 in
/-- tells -/
theorem lc_25 {p : Program} (l : Launch) {e : Env} {s₀ : State} {m : MethodId} {below : List Frame} {meth : Method} {c : Code} {b L : Nat} {xs : Nat → Int32} {A : Nat → Prop} {D : va_G} (hx : p.tables.exec = Jvm.exec) (hb : c.code = cL_law) (hml : c.maxLocals = 4) (hown : s₀.vm.findClass RL = some m.cls) (ht : ∀ w ∈ lw_gd, w.before #[Value.ref b] s₀ = true) (hX : va_X b L xs s₀ s₀.heap) (hbl : b < s₀.heap.size) (hbA : ¬ A b) (hA : ∀ q, s₀.heap.size ≤ q → A q) (hK : va_K D vwCl (TY D) s₀) (hN : NN s₀) (hL : L ≤ 3072) {i : Nat} {H : Heap} {locs : List Loc} {ls : Array Slot} {ax am : Nat → Nat} {ps : List ((Nat → Nat) × MS)} (x x1 : MS) (ts : List MS) (r : Int) (t : MS) (r2 : Int) {cells slots : Nat} (hcs : cells + 9 ≤ 600000 ∧ slots + 795 ≤ 7302249) (hi : i + 5 < L) (hts : ps.map Prod.snd = ts) (hP : va_P D vwCl (XW D ax x ps ++ RW D am t) H) (hD : va_D A (XW D ax x ps ++ RW D am t)) (hS : va_S A s₀.heap H locs) (hl : lv_has ls 4 [(3, .int (nI i)), (2, .ref (am 200)), (1, .ref (ax 0)), (0, .ref b)]) (h1 : m_x11_tells (xs (i + 1)).toInt x = some (r, x1)) (h2 : m_x12_tells (xs (i + 1)).toInt t = some r2)
    (kk : ∀ (ax1 : Nat → Nat) (ps1 : List ((Nat → Nat) × MS)) (H : Heap) (locs : List Loc), ax1 0 = ax 0 → ps1.map Prod.snd = ts → va_P D vwCl (XW D ax1 x1 ps1 ++ RW D am t) H → va_D A (XW D ax1 x1 ps1 ++ RW D am t) → va_S A s₀.heap H locs → W p l e room_1 s₀ m #[Value.ref b] below meth c H locs (cells + 9) (slots + 795) (lw_Z below #[Value.ref b] s₀) (F0 m 1298 ls [])) : W p l e room_1 s₀ m #[Value.ref b] below meth c H locs cells slots (lw_Z below #[Value.ref b] s₀) (F0 m 983 ls []) := by
  refine lv_aload_n hx hb dL_law_983 rfl (lv_at hl 2 rfl) ?_
  refine lv_aload_n hx hb dL_law_984 rfl (lv_at hl 3 rfl) ?_
  refine lv_iload_n hx hb dL_law_985 rfl (lv_at hl 0 rfl) ?_
  refine lv_iconst (v := 1) hx hb dL_law_986 (by decide) ?_
  refine lv_iadd hx hb dL_law_987 ?_
  refine z_topi (y := nI (i + 1)) (li_1 i) ?_
  refine va_sld hx hb hX hbl hbA hS (vp_in_nI (by omega) (by omega)) dL_law_988 ?_
  refine z_topi (y := i2 (xs (i + 1)).toInt) (by rw [nI_clamp (by omega), i2_of]) ?_
  obtain ⟨ps1, hps⟩ : ∃ z, z = ps := ⟨ps, rfl⟩
  obtain ⟨ax1, hax1⟩ : ∃ z, z = ax := ⟨ax, rfl⟩
  refine ywV (r0 := i2 r) (As := [.int (i2 (xs (i + 1)).toInt)]) (rest := []) (C := RX11) (n := 1) (ws' := XW D ax x1 ps ++ RW D am t) ⟨hx, hb, hml, hown, ht⟩ (yWi_f _ (yWi_f _ (k_x11_tells l D ax (xs (i + 1)).toInt _ _ _ h1))) (zgV ml_L_119 im_X11_tells se_X11_tells in_X11 co_X11_tells) rfl rfl (by decide +kernel) ⟨Nat.le_of_ble_eq_true rfl, Nat.le_of_ble_eq_true rfl⟩ hN hK hP hD hS hA 0 (ap_g (ap_g CW_0)) rfl rfl rfl hl.1 rfl (Nat.le_of_ble_eq_true rfl) dL_law_989 ⟨Nat.le_trans (Nat.le_add_right _ _) hcs.1, Nat.le_trans (Nat.le_add_right _ _) hcs.2⟩ (fun H locs hP hS => ?_)
  have hD : va_D A (XW D ax x1 ps ++ RW D am t) := XR_D hD
  have hax : ax1 0 = ax 0 := by rw [hax1]
  have hts1 : ps1.map Prod.snd = ts := by rw [hps]; exact hts
  rw [← hps, ← hax1] at hP hD
  refine W.widen (k := cells + 9) (n := slots + 795) (Nat.le_add_right _ _) (Nat.le_add_right _ _) ?_
  refine lv_pop hx hb dL_law_992 rfl ?_
  refine lv_aload_n hx hb dL_law_993 rfl (lv_at hl 1 rfl) ?_
  refine lv_aload_n hx hb dL_law_994 rfl (lv_at hl 3 rfl) ?_
  refine lv_iload_n hx hb dL_law_995 rfl (lv_at hl 0 rfl) ?_
  refine lv_iconst (v := 1) hx hb dL_law_996 (by decide) ?_
  refine lv_iadd hx hb dL_law_997 ?_
  refine z_topi (y := nI (i + 1)) (li_1 i) ?_
  refine va_sld hx hb hX hbl hbA hS (vp_in_nI (by omega) (by omega)) dL_law_998 ?_
  refine z_topi (y := i2 (xs (i + 1)).toInt) (by rw [nI_clamp (by omega), i2_of]) ?_
  refine ycV (r0 := i2 r2) (As := [.int (i2 (xs (i + 1)).toInt)]) (rest := []) (C := RX12) (n := 1) ⟨hx, hb, hml, hown, ht⟩ (yRi_c (T := XW D ax1 x1 ps1) (k_x12_tells l D am (xs (i + 1)).toInt _ _ h2)) (zgV ml_L_122 im_X12_tells se_X12_tells in_X12 co_X12_tells) rfl rfl (by decide +kernel) ⟨Nat.le_of_ble_eq_true rfl, Nat.le_of_ble_eq_true rfl⟩ hN hK hP hS (XW D ax1 x1 ps1).length (ap_h RW_0) rfl rfl rfl hl.1 rfl (Nat.le_of_ble_eq_true rfl) dL_law_999 hcs (fun H locs hP hS => ?_)
  refine lv_pop hx hb dL_law_1002 rfl ?_
  refine lv_goto (tgt := 1298) hx hb dL_law_1003 (by decide) ?_
  exact kk ax1 ps1 _ _ hax hts1 hP hD hS
set_option maxHeartbeats 4000000 in
set_option maxRecDepth 100000 in
/-- put -/
theorem lc_26 {p : Program} (l : Launch) {e : Env} {s₀ : State} {m : MethodId} {below : List Frame} {meth : Method} {c : Code} {b L : Nat} {xs : Nat → Int32} {A : Nat → Prop} {D : va_G} (hx : p.tables.exec = Jvm.exec) (hb : c.code = cL_law) (hml : c.maxLocals = 4) (hown : s₀.vm.findClass RL = some m.cls) (ht : ∀ w ∈ lw_gd, w.before #[Value.ref b] s₀ = true) (hX : va_X b L xs s₀ s₀.heap) (hbl : b < s₀.heap.size) (hbA : ¬ A b) (hA : ∀ q, s₀.heap.size ≤ q → A q) (hK : va_K D vwCl (TY D) s₀) (hN : NN s₀) (hL : L ≤ 3072) {i : Nat} {H : Heap} {locs : List Loc} {ls : Array Slot} {ax am : Nat → Nat} {ps : List ((Nat → Nat) × MS)} (x x1 : MS) (ts ts1 : List MS) (r : Int) (t t1 : MS) (r2 : Int) {cells slots : Nat} (hcs : cells + 9 ≤ 600000 ∧ slots + 795 ≤ 7302249) (hi : i + 5 < L) (hts : ps.map Prod.snd = ts) (hP : va_P D vwCl (XW D ax x ps ++ RW D am t) H) (hD : va_D A (XW D ax x ps ++ RW D am t)) (hS : va_S A s₀.heap H locs) (hl : lv_has ls 4 [(3, .int (nI i)), (2, .ref (am 200)), (1, .ref (ax 0)), (0, .ref b)]) (h1 : m_x11_put ts (xs (i + 1)).toInt (xs (i + 2)).toInt (xs (i + 3)).toInt x = some (r, x1, ts1)) (h2 : m_x12_put (xs (i + 1)).toInt (xs (i + 2)).toInt (xs (i + 3)).toInt t = some (r2, t1))
    (kk : ∀ (ax1 : Nat → Nat) (ps1 : List ((Nat → Nat) × MS)) (H : Heap) (locs : List Loc), ax1 0 = ax 0 → ps1.map Prod.snd = ts1 → va_P D vwCl (XW D ax1 x1 ps1 ++ RW D am t1) H → va_D A (XW D ax1 x1 ps1 ++ RW D am t1) → va_S A s₀.heap H locs → W p l e room_1 s₀ m #[Value.ref b] below meth c H locs (cells + 9) (slots + 795) (lw_Z below #[Value.ref b] s₀) (F0 m 1298 ls [])) : W p l e room_1 s₀ m #[Value.ref b] below meth c H locs cells slots (lw_Z below #[Value.ref b] s₀) (F0 m 1006 ls []) := by
  refine lv_aload_n hx hb dL_law_1006 rfl (lv_at hl 2 rfl) ?_
  refine lv_aload_n hx hb dL_law_1007 rfl (lv_at hl 3 rfl) ?_
  refine lv_iload_n hx hb dL_law_1008 rfl (lv_at hl 0 rfl) ?_
  refine lv_iconst (v := 1) hx hb dL_law_1009 (by decide) ?_
  refine lv_iadd hx hb dL_law_1010 ?_
  refine z_topi (y := nI (i + 1)) (li_1 i) ?_
  refine va_sld hx hb hX hbl hbA hS (vp_in_nI (by omega) (by omega)) dL_law_1011 ?_
  refine z_topi (y := i2 (xs (i + 1)).toInt) (by rw [nI_clamp (by omega), i2_of]) ?_
  refine lv_aload_n hx hb dL_law_1012 rfl (lv_at hl 3 rfl) ?_
  refine lv_iload_n hx hb dL_law_1013 rfl (lv_at hl 0 rfl) ?_
  refine lv_iconst (v := 2) hx hb dL_law_1014 (by decide) ?_
  refine lv_iadd hx hb dL_law_1015 ?_
  refine z_topi (y := nI (i + 2)) (li_2 i) ?_
  refine va_sld hx hb hX hbl hbA hS (vp_in_nI (by omega) (by omega)) dL_law_1016 ?_
  refine z_topi (y := i2 (xs (i + 2)).toInt) (by rw [nI_clamp (by omega), i2_of]) ?_
  refine lv_aload_n hx hb dL_law_1017 rfl (lv_at hl 3 rfl) ?_
  refine lv_iload_n hx hb dL_law_1018 rfl (lv_at hl 0 rfl) ?_
  refine lv_iconst (v := 3) hx hb dL_law_1019 (by decide) ?_
  refine lv_iadd hx hb dL_law_1020 ?_
  refine z_topi (y := nI (i + 3)) (li_3 i) ?_
  refine va_sld hx hb hX hbl hbA hS (vp_in_nI (by omega) (by omega)) dL_law_1021 ?_
  refine z_topi (y := i2 (xs (i + 3)).toInt) (by rw [nI_clamp (by omega), i2_of]) ?_
  refine ywG (As := [.int (i2 (xs (i + 1)).toInt), .int (i2 (xs (i + 2)).toInt), .int (i2 (xs (i + 3)).toInt)]) (rest := []) (C := RX11) (n := 3) ⟨hx, hb, hml, hown, ht⟩ (yGi_f (RW D am t) (k_x11_put l D ax (xs (i + 1)).toInt (xs (i + 2)).toInt (xs (i + 3)).toInt _ x ps ts hts (r, x1, ts1) h1)) (zgV ml_L_123 im_X11_put se_X11_put in_X11 co_X11_put) rfl rfl (by decide +kernel) ⟨Nat.le_of_ble_eq_true rfl, Nat.le_of_ble_eq_true rfl⟩ hN hK hP hD hS hA 0 (ap_g (ap_g CW_0)) rfl rfl rfl hl.1 rfl (Nat.le_of_ble_eq_true rfl) dL_law_1022 hcs (fun rr u H locs hw hP hD hS => ?_)
  obtain ⟨hrr, hu, hts1⟩ := hw
  have hrr : rr = i2 r := hrr
  subst hrr
  obtain ⟨ax1, ps1⟩ := u
  have hax : ax1 0 = ax 0 := hu 0 (by decide)
  have hts1 : ps1.map Prod.snd = ts1 := hts1
  have hP : va_P D vwCl (XW D ax1 x1 ps1 ++ RW D am t) H := hP
  have hD : va_D A (XW D ax1 x1 ps1 ++ RW D am t) := hD
  refine lv_pop hx hb dL_law_1025 rfl ?_
  refine lv_aload_n hx hb dL_law_1026 rfl (lv_at hl 1 rfl) ?_
  refine lv_aload_n hx hb dL_law_1027 rfl (lv_at hl 3 rfl) ?_
  refine lv_iload_n hx hb dL_law_1028 rfl (lv_at hl 0 rfl) ?_
  refine lv_iconst (v := 1) hx hb dL_law_1029 (by decide) ?_
  refine lv_iadd hx hb dL_law_1030 ?_
  refine z_topi (y := nI (i + 1)) (li_1 i) ?_
  refine va_sld hx hb hX hbl hbA hS (vp_in_nI (by omega) (by omega)) dL_law_1031 ?_
  refine z_topi (y := i2 (xs (i + 1)).toInt) (by rw [nI_clamp (by omega), i2_of]) ?_
  refine lv_aload_n hx hb dL_law_1032 rfl (lv_at hl 3 rfl) ?_
  refine lv_iload_n hx hb dL_law_1033 rfl (lv_at hl 0 rfl) ?_
  refine lv_iconst (v := 2) hx hb dL_law_1034 (by decide) ?_
  refine lv_iadd hx hb dL_law_1035 ?_
  refine z_topi (y := nI (i + 2)) (li_2 i) ?_
  refine va_sld hx hb hX hbl hbA hS (vp_in_nI (by omega) (by omega)) dL_law_1036 ?_
  refine z_topi (y := i2 (xs (i + 2)).toInt) (by rw [nI_clamp (by omega), i2_of]) ?_
  refine lv_aload_n hx hb dL_law_1037 rfl (lv_at hl 3 rfl) ?_
  refine lv_iload_n hx hb dL_law_1038 rfl (lv_at hl 0 rfl) ?_
  refine lv_iconst (v := 3) hx hb dL_law_1039 (by decide) ?_
  refine lv_iadd hx hb dL_law_1040 ?_
  refine z_topi (y := nI (i + 3)) (li_3 i) ?_
  refine va_sld hx hb hX hbl hbA hS (vp_in_nI (by omega) (by omega)) dL_law_1041 ?_
  refine z_topi (y := i2 (xs (i + 3)).toInt) (by rw [nI_clamp (by omega), i2_of]) ?_
  refine ywV (r0 := i2 r2) (As := [.int (i2 (xs (i + 1)).toInt), .int (i2 (xs (i + 2)).toInt), .int (i2 (xs (i + 3)).toInt)]) (rest := []) (C := RX12) (n := 3) (ws' := XW D ax1 x1 ps1 ++ RW D am t1) ⟨hx, hb, hml, hown, ht⟩ (yWi_c (yWi_f (XW D ax1 x1 ps1) (k_x12_put l D am (xs (i + 1)).toInt (xs (i + 2)).toInt (xs (i + 3)).toInt _ _ _ h2))) (zgV ml_L_126 im_X12_put se_X12_put in_X12 co_X12_put) rfl rfl (by decide +kernel) ⟨Nat.le_of_ble_eq_true rfl, Nat.le_of_ble_eq_true rfl⟩ hN hK hP hD hS hA (XW D ax1 x1 ps1).length (ap_h RW_0) rfl rfl rfl hl.1 rfl (Nat.le_of_ble_eq_true rfl) dL_law_1042 hcs (fun H locs hP hS => ?_)
  have hD : va_D A (XW D ax1 x1 ps1 ++ RW D am t1) := XR_D hD
  refine lv_pop hx hb dL_law_1045 rfl ?_
  refine lv_goto (tgt := 1298) hx hb dL_law_1046 (by decide) ?_
  exact kk ax1 ps1 _ _ hax hts1 hP hD hS
set_option maxHeartbeats 4000000 in
set_option maxRecDepth 100000 in
/-- remove -/
theorem lc_27 {p : Program} (l : Launch) {e : Env} {s₀ : State} {m : MethodId} {below : List Frame} {meth : Method} {c : Code} {b L : Nat} {xs : Nat → Int32} {A : Nat → Prop} {D : va_G} (hx : p.tables.exec = Jvm.exec) (hb : c.code = cL_law) (hml : c.maxLocals = 4) (hown : s₀.vm.findClass RL = some m.cls) (ht : ∀ w ∈ lw_gd, w.before #[Value.ref b] s₀ = true) (hX : va_X b L xs s₀ s₀.heap) (hbl : b < s₀.heap.size) (hbA : ¬ A b) (hA : ∀ q, s₀.heap.size ≤ q → A q) (hK : va_K D vwCl (TY D) s₀) (hN : NN s₀) (hL : L ≤ 3072) {i : Nat} {H : Heap} {locs : List Loc} {ls : Array Slot} {ax am : Nat → Nat} {ps : List ((Nat → Nat) × MS)} (x x1 : MS) (ts ts1 : List MS) (r : Int) (t t1 : MS) (r2 : Int) {cells slots : Nat} (hcs : cells + 9 ≤ 600000 ∧ slots + 795 ≤ 7302249) (hi : i + 5 < L) (hts : ps.map Prod.snd = ts) (hP : va_P D vwCl (XW D ax x ps ++ RW D am t) H) (hD : va_D A (XW D ax x ps ++ RW D am t)) (hS : va_S A s₀.heap H locs) (hl : lv_has ls 4 [(3, .int (nI i)), (2, .ref (am 200)), (1, .ref (ax 0)), (0, .ref b)]) (h1 : m_x11_remove ts (xs (i + 1)).toInt (xs (i + 2)).toInt x = some (r, x1, ts1)) (h2 : m_x12_remove (xs (i + 1)).toInt (xs (i + 2)).toInt t = some (r2, t1)) (hq : r = r2)
    (kk : ∀ (ax1 : Nat → Nat) (ps1 : List ((Nat → Nat) × MS)) (H : Heap) (locs : List Loc), ax1 0 = ax 0 → ps1.map Prod.snd = ts1 → va_P D vwCl (XW D ax1 x1 ps1 ++ RW D am t1) H → va_D A (XW D ax1 x1 ps1 ++ RW D am t1) → va_S A s₀.heap H locs → W p l e room_1 s₀ m #[Value.ref b] below meth c H locs (cells + 9) (slots + 795) (lw_Z below #[Value.ref b] s₀) (F0 m 1298 ls [])) : W p l e room_1 s₀ m #[Value.ref b] below meth c H locs cells slots (lw_Z below #[Value.ref b] s₀) (F0 m 1049 ls []) := by
  refine lv_aload_n hx hb dL_law_1049 rfl (lv_at hl 2 rfl) ?_
  refine lv_aload_n hx hb dL_law_1050 rfl (lv_at hl 3 rfl) ?_
  refine lv_iload_n hx hb dL_law_1051 rfl (lv_at hl 0 rfl) ?_
  refine lv_iconst (v := 1) hx hb dL_law_1052 (by decide) ?_
  refine lv_iadd hx hb dL_law_1053 ?_
  refine z_topi (y := nI (i + 1)) (li_1 i) ?_
  refine va_sld hx hb hX hbl hbA hS (vp_in_nI (by omega) (by omega)) dL_law_1054 ?_
  refine z_topi (y := i2 (xs (i + 1)).toInt) (by rw [nI_clamp (by omega), i2_of]) ?_
  refine lv_aload_n hx hb dL_law_1055 rfl (lv_at hl 3 rfl) ?_
  refine lv_iload_n hx hb dL_law_1056 rfl (lv_at hl 0 rfl) ?_
  refine lv_iconst (v := 2) hx hb dL_law_1057 (by decide) ?_
  refine lv_iadd hx hb dL_law_1058 ?_
  refine z_topi (y := nI (i + 2)) (li_2 i) ?_
  refine va_sld hx hb hX hbl hbA hS (vp_in_nI (by omega) (by omega)) dL_law_1059 ?_
  refine z_topi (y := i2 (xs (i + 2)).toInt) (by rw [nI_clamp (by omega), i2_of]) ?_
  refine ywG (As := [.int (i2 (xs (i + 1)).toInt), .int (i2 (xs (i + 2)).toInt)]) (rest := []) (C := RX11) (n := 2) ⟨hx, hb, hml, hown, ht⟩ (yGi_f (RW D am t) (k_x11_remove l D ax (xs (i + 1)).toInt (xs (i + 2)).toInt _ x ps ts hts (r, x1, ts1) h1)) (zgV ml_L_127 im_X11_remove se_X11_remove in_X11 co_X11_remove) rfl rfl (by decide +kernel) ⟨Nat.le_of_ble_eq_true rfl, Nat.le_of_ble_eq_true rfl⟩ hN hK hP hD hS hA 0 (ap_g (ap_g CW_0)) rfl rfl rfl hl.1 rfl (Nat.le_of_ble_eq_true rfl) dL_law_1060 hcs (fun rr u H locs hw hP hD hS => ?_)
  obtain ⟨hrr, hu, hts1⟩ := hw
  have hrr : rr = i2 r := hrr
  subst hrr
  obtain ⟨ax1, ps1⟩ := u
  have hax : ax1 0 = ax 0 := hu 0 (by decide)
  have hts1 : ps1.map Prod.snd = ts1 := hts1
  have hP : va_P D vwCl (XW D ax1 x1 ps1 ++ RW D am t) H := hP
  have hD : va_D A (XW D ax1 x1 ps1 ++ RW D am t) := hD
  refine lv_aload_n hx hb dL_law_1063 rfl (lv_at hl 1 rfl) ?_
  refine lv_aload_n hx hb dL_law_1064 rfl (lv_at hl 3 rfl) ?_
  refine lv_iload_n hx hb dL_law_1065 rfl (lv_at hl 0 rfl) ?_
  refine lv_iconst (v := 1) hx hb dL_law_1066 (by decide) ?_
  refine lv_iadd hx hb dL_law_1067 ?_
  refine z_topi (y := nI (i + 1)) (li_1 i) ?_
  refine va_sld hx hb hX hbl hbA hS (vp_in_nI (by omega) (by omega)) dL_law_1068 ?_
  refine z_topi (y := i2 (xs (i + 1)).toInt) (by rw [nI_clamp (by omega), i2_of]) ?_
  refine lv_aload_n hx hb dL_law_1069 rfl (lv_at hl 3 rfl) ?_
  refine lv_iload_n hx hb dL_law_1070 rfl (lv_at hl 0 rfl) ?_
  refine lv_iconst (v := 2) hx hb dL_law_1071 (by decide) ?_
  refine lv_iadd hx hb dL_law_1072 ?_
  refine z_topi (y := nI (i + 2)) (li_2 i) ?_
  refine va_sld hx hb hX hbl hbA hS (vp_in_nI (by omega) (by omega)) dL_law_1073 ?_
  refine z_topi (y := i2 (xs (i + 2)).toInt) (by rw [nI_clamp (by omega), i2_of]) ?_
  refine ywV (r0 := i2 r2) (As := [.int (i2 (xs (i + 1)).toInt), .int (i2 (xs (i + 2)).toInt)]) (rest := [.int (i2 r)]) (C := RX12) (n := 2) (ws' := XW D ax1 x1 ps1 ++ RW D am t1) ⟨hx, hb, hml, hown, ht⟩ (yWi_c (yWi_f (XW D ax1 x1 ps1) (k_x12_remove l D am (xs (i + 1)).toInt (xs (i + 2)).toInt _ _ _ h2))) (zgV ml_L_130 im_X12_remove se_X12_remove in_X12 co_X12_remove) rfl rfl (by decide +kernel) ⟨Nat.le_of_ble_eq_true rfl, Nat.le_of_ble_eq_true rfl⟩ hN hK hP hD hS hA (XW D ax1 x1 ps1).length (ap_h RW_0) rfl rfl rfl hl.1 rfl (Nat.le_of_ble_eq_true rfl) dL_law_1074 hcs (fun H locs hP hS => ?_)
  have hD : va_D A (XW D ax1 x1 ps1 ++ RW D am t1) := XR_D hD
  refine lv_icmp_eq (tgt := 1298) hx hb dL_law_1077 (by decide) (fun _ => ?_) (fun c9 => absurd (by rw [hq]) c9)
  exact kk ax1 ps1 _ _ hax hts1 hP hD hS
set_option maxHeartbeats 4000000 in
set_option maxRecDepth 100000 in
/-- copy -/
theorem lc_28 {p : Program} (l : Launch) {e : Env} {s₀ : State} {m : MethodId} {below : List Frame} {meth : Method} {c : Code} {b L : Nat} {xs : Nat → Int32} {A : Nat → Prop} {D : va_G} (hx : p.tables.exec = Jvm.exec) (hb : c.code = cL_law) (hml : c.maxLocals = 4) (hown : s₀.vm.findClass RL = some m.cls) (ht : ∀ w ∈ lw_gd, w.before #[Value.ref b] s₀ = true) (hX : va_X b L xs s₀ s₀.heap) (hbl : b < s₀.heap.size) (hbA : ¬ A b) (hA : ∀ q, s₀.heap.size ≤ q → A q) (hK : va_K D vwCl (TY D) s₀) (hN : NN s₀) (hL : L ≤ 3072) {i : Nat} {H : Heap} {locs : List Loc} {ls : Array Slot} {ax am : Nat → Nat} {ps : List ((Nat → Nat) × MS)} (x x1 : MS) (ts ts1 : List MS) (r : Int) (t t1 : MS) (r2 : Int) {cells slots : Nat} (hcs : cells + 9 ≤ 600000 ∧ slots + 795 ≤ 7302249) (hi : i + 5 < L) (hts : ps.map Prod.snd = ts) (hP : va_P D vwCl (XW D ax x ps ++ RW D am t) H) (hD : va_D A (XW D ax x ps ++ RW D am t)) (hS : va_S A s₀.heap H locs) (hl : lv_has ls 4 [(3, .int (nI i)), (2, .ref (am 200)), (1, .ref (ax 0)), (0, .ref b)]) (h1 : m_x11_copy ts (xs (i + 1)).toInt x = some (r, x1, ts1)) (h2 : m_x12_copy (xs (i + 1)).toInt t = some (r2, t1))
    (kk : ∀ (ax1 : Nat → Nat) (ps1 : List ((Nat → Nat) × MS)) (H : Heap) (locs : List Loc), ax1 0 = ax 0 → ps1.map Prod.snd = ts1 → va_P D vwCl (XW D ax1 x1 ps1 ++ RW D am t1) H → va_D A (XW D ax1 x1 ps1 ++ RW D am t1) → va_S A s₀.heap H locs → W p l e room_1 s₀ m #[Value.ref b] below meth c H locs (cells + 9) (slots + 795) (lw_Z below #[Value.ref b] s₀) (F0 m 1298 ls [])) : W p l e room_1 s₀ m #[Value.ref b] below meth c H locs cells slots (lw_Z below #[Value.ref b] s₀) (F0 m 1082 ls []) := by
  refine lv_aload_n hx hb dL_law_1082 rfl (lv_at hl 2 rfl) ?_
  refine lv_aload_n hx hb dL_law_1083 rfl (lv_at hl 3 rfl) ?_
  refine lv_iload_n hx hb dL_law_1084 rfl (lv_at hl 0 rfl) ?_
  refine lv_iconst (v := 1) hx hb dL_law_1085 (by decide) ?_
  refine lv_iadd hx hb dL_law_1086 ?_
  refine z_topi (y := nI (i + 1)) (li_1 i) ?_
  refine va_sld hx hb hX hbl hbA hS (vp_in_nI (by omega) (by omega)) dL_law_1087 ?_
  refine z_topi (y := i2 (xs (i + 1)).toInt) (by rw [nI_clamp (by omega), i2_of]) ?_
  refine ywG (As := [.int (i2 (xs (i + 1)).toInt)]) (rest := []) (C := RX11) (n := 1) ⟨hx, hb, hml, hown, ht⟩ (yGi_f (RW D am t) (k_x11_copy l D ax (xs (i + 1)).toInt _ x ps ts hts (r, x1, ts1) h1)) (zgV ml_L_131 im_X11_copy se_X11_copy in_X11 co_X11_copy) rfl rfl (by decide +kernel) ⟨Nat.le_of_ble_eq_true rfl, Nat.le_of_ble_eq_true rfl⟩ hN hK hP hD hS hA 0 (ap_g (ap_g CW_0)) rfl rfl rfl hl.1 rfl (Nat.le_of_ble_eq_true rfl) dL_law_1088 hcs (fun rr u H locs hw hP hD hS => ?_)
  obtain ⟨hrr, hu, hts1⟩ := hw
  have hrr : rr = i2 r := hrr
  subst hrr
  obtain ⟨ax1, ps1⟩ := u
  have hax : ax1 0 = ax 0 := hu 0 (by decide)
  have hts1 : ps1.map Prod.snd = ts1 := hts1
  have hP : va_P D vwCl (XW D ax1 x1 ps1 ++ RW D am t) H := hP
  have hD : va_D A (XW D ax1 x1 ps1 ++ RW D am t) := hD
  refine lv_pop hx hb dL_law_1091 rfl ?_
  refine lv_aload_n hx hb dL_law_1092 rfl (lv_at hl 1 rfl) ?_
  refine lv_aload_n hx hb dL_law_1093 rfl (lv_at hl 3 rfl) ?_
  refine lv_iload_n hx hb dL_law_1094 rfl (lv_at hl 0 rfl) ?_
  refine lv_iconst (v := 1) hx hb dL_law_1095 (by decide) ?_
  refine lv_iadd hx hb dL_law_1096 ?_
  refine z_topi (y := nI (i + 1)) (li_1 i) ?_
  refine va_sld hx hb hX hbl hbA hS (vp_in_nI (by omega) (by omega)) dL_law_1097 ?_
  refine z_topi (y := i2 (xs (i + 1)).toInt) (by rw [nI_clamp (by omega), i2_of]) ?_
  refine ywV (r0 := i2 r2) (As := [.int (i2 (xs (i + 1)).toInt)]) (rest := []) (C := RX12) (n := 1) (ws' := XW D ax1 x1 ps1 ++ RW D am t1) ⟨hx, hb, hml, hown, ht⟩ (yWi_c (yWi_f (XW D ax1 x1 ps1) (k_x12_copy l D am (xs (i + 1)).toInt _ _ _ h2))) (zgV ml_L_134 im_X12_copy se_X12_copy in_X12 co_X12_copy) rfl rfl (by decide +kernel) ⟨Nat.le_of_ble_eq_true rfl, Nat.le_of_ble_eq_true rfl⟩ hN hK hP hD hS hA (XW D ax1 x1 ps1).length (ap_h RW_0) rfl rfl rfl hl.1 rfl (Nat.le_of_ble_eq_true rfl) dL_law_1098 hcs (fun H locs hP hS => ?_)
  have hD : va_D A (XW D ax1 x1 ps1 ++ RW D am t1) := XR_D hD
  refine lv_pop hx hb dL_law_1101 rfl ?_
  refine lv_goto (tgt := 1298) hx hb dL_law_1102 (by decide) ?_
  exact kk ax1 ps1 _ _ hax hts1 hP hD hS
set_option maxHeartbeats 4000000 in
set_option maxRecDepth 100000 in
/-- drop -/
theorem lc_29 {p : Program} (l : Launch) {e : Env} {s₀ : State} {m : MethodId} {below : List Frame} {meth : Method} {c : Code} {b L : Nat} {xs : Nat → Int32} {A : Nat → Prop} {D : va_G} (hx : p.tables.exec = Jvm.exec) (hb : c.code = cL_law) (hml : c.maxLocals = 4) (hown : s₀.vm.findClass RL = some m.cls) (ht : ∀ w ∈ lw_gd, w.before #[Value.ref b] s₀ = true) (hX : va_X b L xs s₀ s₀.heap) (hbl : b < s₀.heap.size) (hbA : ¬ A b) (hA : ∀ q, s₀.heap.size ≤ q → A q) (hK : va_K D vwCl (TY D) s₀) (hN : NN s₀) (hL : L ≤ 3072) {i : Nat} {H : Heap} {locs : List Loc} {ls : Array Slot} {ax am : Nat → Nat} {ps : List ((Nat → Nat) × MS)} (x x1 : MS) (ts ts1 : List MS) (r : Int) (t t1 : MS) (r2 : Int) {cells slots : Nat} (hcs : cells + 9 ≤ 600000 ∧ slots + 795 ≤ 7302249) (hi : i + 5 < L) (hts : ps.map Prod.snd = ts) (hP : va_P D vwCl (XW D ax x ps ++ RW D am t) H) (hD : va_D A (XW D ax x ps ++ RW D am t)) (hS : va_S A s₀.heap H locs) (hl : lv_has ls 4 [(3, .int (nI i)), (2, .ref (am 200)), (1, .ref (ax 0)), (0, .ref b)]) (h1 : m_x11_drop ts (xs (i + 1)).toInt x = some (r, x1, ts1)) (h2 : m_x12_drop (xs (i + 1)).toInt t = some (r2, t1))
    (kk : ∀ (ax1 : Nat → Nat) (ps1 : List ((Nat → Nat) × MS)) (H : Heap) (locs : List Loc), ax1 0 = ax 0 → ps1.map Prod.snd = ts1 → va_P D vwCl (XW D ax1 x1 ps1 ++ RW D am t1) H → va_D A (XW D ax1 x1 ps1 ++ RW D am t1) → va_S A s₀.heap H locs → W p l e room_1 s₀ m #[Value.ref b] below meth c H locs (cells + 9) (slots + 795) (lw_Z below #[Value.ref b] s₀) (F0 m 1298 ls [])) : W p l e room_1 s₀ m #[Value.ref b] below meth c H locs cells slots (lw_Z below #[Value.ref b] s₀) (F0 m 1105 ls []) := by
  refine lv_aload_n hx hb dL_law_1105 rfl (lv_at hl 2 rfl) ?_
  refine lv_aload_n hx hb dL_law_1106 rfl (lv_at hl 3 rfl) ?_
  refine lv_iload_n hx hb dL_law_1107 rfl (lv_at hl 0 rfl) ?_
  refine lv_iconst (v := 1) hx hb dL_law_1108 (by decide) ?_
  refine lv_iadd hx hb dL_law_1109 ?_
  refine z_topi (y := nI (i + 1)) (li_1 i) ?_
  refine va_sld hx hb hX hbl hbA hS (vp_in_nI (by omega) (by omega)) dL_law_1110 ?_
  refine z_topi (y := i2 (xs (i + 1)).toInt) (by rw [nI_clamp (by omega), i2_of]) ?_
  refine ywG (As := [.int (i2 (xs (i + 1)).toInt)]) (rest := []) (C := RX11) (n := 1) ⟨hx, hb, hml, hown, ht⟩ (yGi_f (RW D am t) (k_x11_drop l D ax (xs (i + 1)).toInt _ x ps ts hts (r, x1, ts1) h1)) (zgV ml_L_135 im_X11_drop se_X11_drop in_X11 co_X11_drop) rfl rfl (by decide +kernel) ⟨Nat.le_of_ble_eq_true rfl, Nat.le_of_ble_eq_true rfl⟩ hN hK hP hD hS hA 0 (ap_g (ap_g CW_0)) rfl rfl rfl hl.1 rfl (Nat.le_of_ble_eq_true rfl) dL_law_1111 hcs (fun rr u H locs hw hP hD hS => ?_)
  obtain ⟨hrr, hu, hts1⟩ := hw
  have hrr : rr = i2 r := hrr
  subst hrr
  obtain ⟨ax1, ps1⟩ := u
  have hax : ax1 0 = ax 0 := hu 0 (by decide)
  have hts1 : ps1.map Prod.snd = ts1 := hts1
  have hP : va_P D vwCl (XW D ax1 x1 ps1 ++ RW D am t) H := hP
  have hD : va_D A (XW D ax1 x1 ps1 ++ RW D am t) := hD
  refine lv_pop hx hb dL_law_1114 rfl ?_
  refine lv_aload_n hx hb dL_law_1115 rfl (lv_at hl 1 rfl) ?_
  refine lv_aload_n hx hb dL_law_1116 rfl (lv_at hl 3 rfl) ?_
  refine lv_iload_n hx hb dL_law_1117 rfl (lv_at hl 0 rfl) ?_
  refine lv_iconst (v := 1) hx hb dL_law_1118 (by decide) ?_
  refine lv_iadd hx hb dL_law_1119 ?_
  refine z_topi (y := nI (i + 1)) (li_1 i) ?_
  refine va_sld hx hb hX hbl hbA hS (vp_in_nI (by omega) (by omega)) dL_law_1120 ?_
  refine z_topi (y := i2 (xs (i + 1)).toInt) (by rw [nI_clamp (by omega), i2_of]) ?_
  refine ywV (r0 := i2 r2) (As := [.int (i2 (xs (i + 1)).toInt)]) (rest := []) (C := RX12) (n := 1) (ws' := XW D ax1 x1 ps1 ++ RW D am t1) ⟨hx, hb, hml, hown, ht⟩ (yWi_c (yWi_f (XW D ax1 x1 ps1) (k_x12_drop l D am (xs (i + 1)).toInt _ _ _ h2))) (zgV ml_L_138 im_X12_drop se_X12_drop in_X12 co_X12_drop) rfl rfl (by decide +kernel) ⟨Nat.le_of_ble_eq_true rfl, Nat.le_of_ble_eq_true rfl⟩ hN hK hP hD hS hA (XW D ax1 x1 ps1).length (ap_h RW_0) rfl rfl rfl hl.1 rfl (Nat.le_of_ble_eq_true rfl) dL_law_1121 hcs (fun H locs hP hS => ?_)
  have hD : va_D A (XW D ax1 x1 ps1 ++ RW D am t1) := XR_D hD
  refine lv_pop hx hb dL_law_1124 rfl ?_
  refine lv_goto (tgt := 1298) hx hb dL_law_1125 (by decide) ?_
  exact kk ax1 ps1 _ _ hax hts1 hP hD hS
set_option maxHeartbeats 4000000 in
set_option maxRecDepth 100000 in
/-- checkpoint -/
theorem lc_30 {p : Program} (l : Launch) {e : Env} {s₀ : State} {m : MethodId} {below : List Frame} {meth : Method} {c : Code} {b L : Nat} {xs : Nat → Int32} {A : Nat → Prop} {D : va_G} (hx : p.tables.exec = Jvm.exec) (hb : c.code = cL_law) (hml : c.maxLocals = 4) (hown : s₀.vm.findClass RL = some m.cls) (ht : ∀ w ∈ lw_gd, w.before #[Value.ref b] s₀ = true) (hX : va_X b L xs s₀ s₀.heap) (hbl : b < s₀.heap.size) (hbA : ¬ A b) (hA : ∀ q, s₀.heap.size ≤ q → A q) (hK : va_K D vwCl (TY D) s₀) (hN : NN s₀) (hL : L ≤ 3072) {i : Nat} {H : Heap} {locs : List Loc} {ls : Array Slot} {ax am : Nat → Nat} {ps : List ((Nat → Nat) × MS)} (x x1 : MS) (ts ts1 : List MS) (r : Int) (t t1 : MS) (r2 : Int) {cells slots : Nat} (hcs : cells + 9 ≤ 600000 ∧ slots + 795 ≤ 7302249) (hi : i + 5 < L) (hts : ps.map Prod.snd = ts) (hP : va_P D vwCl (XW D ax x ps ++ RW D am t) H) (hD : va_D A (XW D ax x ps ++ RW D am t)) (hS : va_S A s₀.heap H locs) (hl : lv_has ls 4 [(3, .int (nI i)), (2, .ref (am 200)), (1, .ref (ax 0)), (0, .ref b)]) (h1 : m_x11_checkpoint ts x = some (r, x1, ts1)) (h2 : m_x12_checkpoint t = some (r2, t1))
    (kk : ∀ (ax1 : Nat → Nat) (ps1 : List ((Nat → Nat) × MS)) (H : Heap) (locs : List Loc), ax1 0 = ax 0 → ps1.map Prod.snd = ts1 → va_P D vwCl (XW D ax1 x1 ps1 ++ RW D am t1) H → va_D A (XW D ax1 x1 ps1 ++ RW D am t1) → va_S A s₀.heap H locs → W p l e room_1 s₀ m #[Value.ref b] below meth c H locs (cells + 9) (slots + 795) (lw_Z below #[Value.ref b] s₀) (F0 m 1298 ls [])) : W p l e room_1 s₀ m #[Value.ref b] below meth c H locs cells slots (lw_Z below #[Value.ref b] s₀) (F0 m 1128 ls []) := by
  refine lv_aload_n hx hb dL_law_1128 rfl (lv_at hl 2 rfl) ?_
  refine ywG (As := []) (rest := []) (C := RX11) (n := 0) ⟨hx, hb, hml, hown, ht⟩ (yGi_f (RW D am t) (k_x11_checkpoint l D ax _ x ps ts hts (r, x1, ts1) h1)) (zgV ml_L_139 im_X11_checkpoint se_X11_checkpoint in_X11 co_X11_checkpoint) rfl rfl (by decide +kernel) ⟨Nat.le_of_ble_eq_true rfl, Nat.le_of_ble_eq_true rfl⟩ hN hK hP hD hS hA 0 (ap_g (ap_g CW_0)) rfl rfl rfl hl.1 rfl (Nat.le_of_ble_eq_true rfl) dL_law_1129 hcs (fun rr u H locs hw hP hD hS => ?_)
  obtain ⟨hrr, hu, hts1⟩ := hw
  have hrr : rr = i2 r := hrr
  subst hrr
  obtain ⟨ax1, ps1⟩ := u
  have hax : ax1 0 = ax 0 := hu 0 (by decide)
  have hts1 : ps1.map Prod.snd = ts1 := hts1
  have hP : va_P D vwCl (XW D ax1 x1 ps1 ++ RW D am t) H := hP
  have hD : va_D A (XW D ax1 x1 ps1 ++ RW D am t) := hD
  refine lv_pop hx hb dL_law_1132 rfl ?_
  refine lv_aload_n hx hb dL_law_1133 rfl (lv_at hl 1 rfl) ?_
  refine ywV (r0 := i2 r2) (As := []) (rest := []) (C := RX12) (n := 0) (ws' := XW D ax1 x1 ps1 ++ RW D am t1) ⟨hx, hb, hml, hown, ht⟩ (yWi_c (yWi_f (XW D ax1 x1 ps1) (k_x12_checkpoint l D am _ _ _ h2))) (zgV ml_L_142 im_X12_checkpoint se_X12_checkpoint in_X12 co_X12_checkpoint) rfl rfl (by decide +kernel) ⟨Nat.le_of_ble_eq_true rfl, Nat.le_of_ble_eq_true rfl⟩ hN hK hP hD hS hA (XW D ax1 x1 ps1).length (ap_h RW_0) rfl rfl rfl hl.1 rfl (Nat.le_of_ble_eq_true rfl) dL_law_1134 hcs (fun H locs hP hS => ?_)
  have hD : va_D A (XW D ax1 x1 ps1 ++ RW D am t1) := XR_D hD
  refine lv_pop hx hb dL_law_1137 rfl ?_
  refine lv_goto (tgt := 1298) hx hb dL_law_1138 (by decide) ?_
  exact kk ax1 ps1 _ _ hax hts1 hP hD hS
set_option maxHeartbeats 4000000 in
set_option maxRecDepth 100000 in
/-- crash -/
theorem lc_31 {p : Program} (l : Launch) {e : Env} {s₀ : State} {m : MethodId} {below : List Frame} {meth : Method} {c : Code} {b L : Nat} {xs : Nat → Int32} {A : Nat → Prop} {D : va_G} (hx : p.tables.exec = Jvm.exec) (hb : c.code = cL_law) (hml : c.maxLocals = 4) (hown : s₀.vm.findClass RL = some m.cls) (ht : ∀ w ∈ lw_gd, w.before #[Value.ref b] s₀ = true) (hX : va_X b L xs s₀ s₀.heap) (hbl : b < s₀.heap.size) (hbA : ¬ A b) (hA : ∀ q, s₀.heap.size ≤ q → A q) (hK : va_K D vwCl (TY D) s₀) (hN : NN s₀) (hL : L ≤ 3072) {i : Nat} {H : Heap} {locs : List Loc} {ls : Array Slot} {ax am : Nat → Nat} {ps : List ((Nat → Nat) × MS)} (x x1 : MS) (ts ts1 : List MS) (r : Int) (t t1 : MS) (r2 : Int) {cells slots : Nat} (hcs : cells + 9 ≤ 600000 ∧ slots + 795 ≤ 7302249) (hi : i + 5 < L) (hts : ps.map Prod.snd = ts) (hP : va_P D vwCl (XW D ax x ps ++ RW D am t) H) (hD : va_D A (XW D ax x ps ++ RW D am t)) (hS : va_S A s₀.heap H locs) (hl : lv_has ls 4 [(3, .int (nI i)), (2, .ref (am 200)), (1, .ref (ax 0)), (0, .ref b)]) (h1 : m_x11_crash ts x = some (r, x1, ts1)) (h2 : m_x12_crash t = some (r2, t1))
    (kk : ∀ (ax1 : Nat → Nat) (ps1 : List ((Nat → Nat) × MS)) (H : Heap) (locs : List Loc), ax1 0 = ax 0 → ps1.map Prod.snd = ts1 → va_P D vwCl (XW D ax1 x1 ps1 ++ RW D am t1) H → va_D A (XW D ax1 x1 ps1 ++ RW D am t1) → va_S A s₀.heap H locs → W p l e room_1 s₀ m #[Value.ref b] below meth c H locs (cells + 9) (slots + 795) (lw_Z below #[Value.ref b] s₀) (F0 m 1298 ls [])) : W p l e room_1 s₀ m #[Value.ref b] below meth c H locs cells slots (lw_Z below #[Value.ref b] s₀) (F0 m 1141 ls []) := by
  refine lv_aload_n hx hb dL_law_1141 rfl (lv_at hl 2 rfl) ?_
  refine ywG (As := []) (rest := []) (C := RX11) (n := 0) ⟨hx, hb, hml, hown, ht⟩ (yGi_f (RW D am t) (k_x11_crash l D ax _ x ps ts hts (r, x1, ts1) h1)) (zgV ml_L_143 im_X11_crash se_X11_crash in_X11 co_X11_crash) rfl rfl (by decide +kernel) ⟨Nat.le_of_ble_eq_true rfl, Nat.le_of_ble_eq_true rfl⟩ hN hK hP hD hS hA 0 (ap_g (ap_g CW_0)) rfl rfl rfl hl.1 rfl (Nat.le_of_ble_eq_true rfl) dL_law_1142 hcs (fun rr u H locs hw hP hD hS => ?_)
  obtain ⟨hrr, hu, hts1⟩ := hw
  have hrr : rr = i2 r := hrr
  subst hrr
  obtain ⟨ax1, ps1⟩ := u
  have hax : ax1 0 = ax 0 := hu 0 (by decide)
  have hts1 : ps1.map Prod.snd = ts1 := hts1
  have hP : va_P D vwCl (XW D ax1 x1 ps1 ++ RW D am t) H := hP
  have hD : va_D A (XW D ax1 x1 ps1 ++ RW D am t) := hD
  refine lv_pop hx hb dL_law_1145 rfl ?_
  refine lv_aload_n hx hb dL_law_1146 rfl (lv_at hl 1 rfl) ?_
  refine ywV (r0 := i2 r2) (As := []) (rest := []) (C := RX12) (n := 0) (ws' := XW D ax1 x1 ps1 ++ RW D am t1) ⟨hx, hb, hml, hown, ht⟩ (yWi_c (yWi_f (XW D ax1 x1 ps1) (k_x12_crash l D am _ _ _ h2))) (zgV ml_L_146 im_X12_crash se_X12_crash in_X12 co_X12_crash) rfl rfl (by decide +kernel) ⟨Nat.le_of_ble_eq_true rfl, Nat.le_of_ble_eq_true rfl⟩ hN hK hP hD hS hA (XW D ax1 x1 ps1).length (ap_h RW_0) rfl rfl rfl hl.1 rfl (Nat.le_of_ble_eq_true rfl) dL_law_1147 hcs (fun H locs hP hS => ?_)
  have hD : va_D A (XW D ax1 x1 ps1 ++ RW D am t1) := XR_D hD
  refine lv_pop hx hb dL_law_1150 rfl ?_
  refine lv_goto (tgt := 1298) hx hb dL_law_1151 (by decide) ?_
  exact kk ax1 ps1 _ _ hax hts1 hP hD hS
set_option maxHeartbeats 4000000 in
set_option maxRecDepth 100000 in
/-- chance -/
theorem lc_32 {p : Program} (l : Launch) {e : Env} {s₀ : State} {m : MethodId} {below : List Frame} {meth : Method} {c : Code} {b L : Nat} {xs : Nat → Int32} {A : Nat → Prop} {D : va_G} (hx : p.tables.exec = Jvm.exec) (hb : c.code = cL_law) (hml : c.maxLocals = 4) (hown : s₀.vm.findClass RL = some m.cls) (ht : ∀ w ∈ lw_gd, w.before #[Value.ref b] s₀ = true) (hX : va_X b L xs s₀ s₀.heap) (hbl : b < s₀.heap.size) (hbA : ¬ A b) (hA : ∀ q, s₀.heap.size ≤ q → A q) (hK : va_K D vwCl (TY D) s₀) (hN : NN s₀) (hL : L ≤ 3072) {i : Nat} {H : Heap} {locs : List Loc} {ls : Array Slot} {ax am : Nat → Nat} {ps : List ((Nat → Nat) × MS)} (x x1 : MS) (ts ts1 : List MS) (r : Int) (t t1 : MS) (r2 : Int) {cells slots : Nat} (hcs : cells + 9 ≤ 600000 ∧ slots + 795 ≤ 7302249) (hi : i + 5 < L) (hts : ps.map Prod.snd = ts) (hP : va_P D vwCl (XW D ax x ps ++ RW D am t) H) (hD : va_D A (XW D ax x ps ++ RW D am t)) (hS : va_S A s₀.heap H locs) (hl : lv_has ls 4 [(3, .int (nI i)), (2, .ref (am 200)), (1, .ref (ax 0)), (0, .ref b)]) (h1 : m_x11_chance ts (xs (i + 1)).toInt x = some (r, x1, ts1)) (h2 : m_x12_chance (xs (i + 1)).toInt t = some (r2, t1))
    (kk : ∀ (ax1 : Nat → Nat) (ps1 : List ((Nat → Nat) × MS)) (H : Heap) (locs : List Loc), ax1 0 = ax 0 → ps1.map Prod.snd = ts1 → va_P D vwCl (XW D ax1 x1 ps1 ++ RW D am t1) H → va_D A (XW D ax1 x1 ps1 ++ RW D am t1) → va_S A s₀.heap H locs → W p l e room_1 s₀ m #[Value.ref b] below meth c H locs (cells + 9) (slots + 795) (lw_Z below #[Value.ref b] s₀) (F0 m 1298 ls [])) : W p l e room_1 s₀ m #[Value.ref b] below meth c H locs cells slots (lw_Z below #[Value.ref b] s₀) (F0 m 1154 ls []) := by
  refine lv_aload_n hx hb dL_law_1154 rfl (lv_at hl 2 rfl) ?_
  refine lv_aload_n hx hb dL_law_1155 rfl (lv_at hl 3 rfl) ?_
  refine lv_iload_n hx hb dL_law_1156 rfl (lv_at hl 0 rfl) ?_
  refine lv_iconst (v := 1) hx hb dL_law_1157 (by decide) ?_
  refine lv_iadd hx hb dL_law_1158 ?_
  refine z_topi (y := nI (i + 1)) (li_1 i) ?_
  refine va_sld hx hb hX hbl hbA hS (vp_in_nI (by omega) (by omega)) dL_law_1159 ?_
  refine z_topi (y := i2 (xs (i + 1)).toInt) (by rw [nI_clamp (by omega), i2_of]) ?_
  refine ywG (As := [.int (i2 (xs (i + 1)).toInt)]) (rest := []) (C := RX11) (n := 1) ⟨hx, hb, hml, hown, ht⟩ (yGi_f (RW D am t) (k_x11_chance l D ax (xs (i + 1)).toInt _ x ps ts hts (r, x1, ts1) h1)) (zgV ml_L_147 im_X11_chance se_X11_chance in_X11 co_X11_chance) rfl rfl (by decide +kernel) ⟨Nat.le_of_ble_eq_true rfl, Nat.le_of_ble_eq_true rfl⟩ hN hK hP hD hS hA 0 (ap_g (ap_g CW_0)) rfl rfl rfl hl.1 rfl (Nat.le_of_ble_eq_true rfl) dL_law_1160 hcs (fun rr u H locs hw hP hD hS => ?_)
  obtain ⟨hrr, hu, hts1⟩ := hw
  have hrr : rr = i2 r := hrr
  subst hrr
  obtain ⟨ax1, ps1⟩ := u
  have hax : ax1 0 = ax 0 := hu 0 (by decide)
  have hts1 : ps1.map Prod.snd = ts1 := hts1
  have hP : va_P D vwCl (XW D ax1 x1 ps1 ++ RW D am t) H := hP
  have hD : va_D A (XW D ax1 x1 ps1 ++ RW D am t) := hD
  refine lv_pop hx hb dL_law_1163 rfl ?_
  refine lv_aload_n hx hb dL_law_1164 rfl (lv_at hl 1 rfl) ?_
  refine lv_aload_n hx hb dL_law_1165 rfl (lv_at hl 3 rfl) ?_
  refine lv_iload_n hx hb dL_law_1166 rfl (lv_at hl 0 rfl) ?_
  refine lv_iconst (v := 1) hx hb dL_law_1167 (by decide) ?_
  refine lv_iadd hx hb dL_law_1168 ?_
  refine z_topi (y := nI (i + 1)) (li_1 i) ?_
  refine va_sld hx hb hX hbl hbA hS (vp_in_nI (by omega) (by omega)) dL_law_1169 ?_
  refine z_topi (y := i2 (xs (i + 1)).toInt) (by rw [nI_clamp (by omega), i2_of]) ?_
  refine ywV (r0 := i2 r2) (As := [.int (i2 (xs (i + 1)).toInt)]) (rest := []) (C := RX12) (n := 1) (ws' := XW D ax1 x1 ps1 ++ RW D am t1) ⟨hx, hb, hml, hown, ht⟩ (yWi_c (yWi_f (XW D ax1 x1 ps1) (k_x12_chance l D am (xs (i + 1)).toInt _ _ _ h2))) (zgV ml_L_150 im_X12_chance se_X12_chance in_X12 co_X12_chance) rfl rfl (by decide +kernel) ⟨Nat.le_of_ble_eq_true rfl, Nat.le_of_ble_eq_true rfl⟩ hN hK hP hD hS hA (XW D ax1 x1 ps1).length (ap_h RW_0) rfl rfl rfl hl.1 rfl (Nat.le_of_ble_eq_true rfl) dL_law_1170 hcs (fun H locs hP hS => ?_)
  have hD : va_D A (XW D ax1 x1 ps1 ++ RW D am t1) := XR_D hD
  refine lv_pop hx hb dL_law_1173 rfl ?_
  refine lv_goto (tgt := 1298) hx hb dL_law_1174 (by decide) ?_
  exact kk ax1 ps1 _ _ hax hts1 hP hD hS
set_option maxHeartbeats 4000000 in
set_option maxRecDepth 100000 in
/-- undo -/
theorem lc_33 {p : Program} (l : Launch) {e : Env} {s₀ : State} {m : MethodId} {below : List Frame} {meth : Method} {c : Code} {b L : Nat} {xs : Nat → Int32} {A : Nat → Prop} {D : va_G} (hx : p.tables.exec = Jvm.exec) (hb : c.code = cL_law) (hml : c.maxLocals = 4) (hown : s₀.vm.findClass RL = some m.cls) (ht : ∀ w ∈ lw_gd, w.before #[Value.ref b] s₀ = true) (hX : va_X b L xs s₀ s₀.heap) (hbl : b < s₀.heap.size) (hbA : ¬ A b) (hA : ∀ q, s₀.heap.size ≤ q → A q) (hK : va_K D vwCl (TY D) s₀) (hN : NN s₀) (hL : L ≤ 3072) {i : Nat} {H : Heap} {locs : List Loc} {ls : Array Slot} {ax am : Nat → Nat} {ps : List ((Nat → Nat) × MS)} (x x1 : MS) (ts ts1 : List MS) (r : Int) (t t1 : MS) (r2 : Int) {cells slots : Nat} (hcs : cells + 9 ≤ 600000 ∧ slots + 795 ≤ 7302249) (hi : i + 5 < L) (hts : ps.map Prod.snd = ts) (hP : va_P D vwCl (XW D ax x ps ++ RW D am t) H) (hD : va_D A (XW D ax x ps ++ RW D am t)) (hS : va_S A s₀.heap H locs) (hl : lv_has ls 4 [(3, .int (nI i)), (2, .ref (am 200)), (1, .ref (ax 0)), (0, .ref b)]) (h1 : m_x11_undo ts x = some (r, x1, ts1)) (h2 : m_x12_undo t = some (r2, t1))
    (kk : ∀ (ax1 : Nat → Nat) (ps1 : List ((Nat → Nat) × MS)) (H : Heap) (locs : List Loc), ax1 0 = ax 0 → ps1.map Prod.snd = ts1 → va_P D vwCl (XW D ax1 x1 ps1 ++ RW D am t1) H → va_D A (XW D ax1 x1 ps1 ++ RW D am t1) → va_S A s₀.heap H locs → W p l e room_1 s₀ m #[Value.ref b] below meth c H locs (cells + 9) (slots + 795) (lw_Z below #[Value.ref b] s₀) (F0 m 1298 ls [])) : W p l e room_1 s₀ m #[Value.ref b] below meth c H locs cells slots (lw_Z below #[Value.ref b] s₀) (F0 m 1177 ls []) := by
  refine lv_aload_n hx hb dL_law_1177 rfl (lv_at hl 2 rfl) ?_
  refine ywG (As := []) (rest := []) (C := RX11) (n := 0) ⟨hx, hb, hml, hown, ht⟩ (yGi_f (RW D am t) (k_x11_undo l D ax _ x ps ts hts (r, x1, ts1) h1)) (zgV ml_L_151 im_X11_undo se_X11_undo in_X11 co_X11_undo) rfl rfl (by decide +kernel) ⟨Nat.le_of_ble_eq_true rfl, Nat.le_of_ble_eq_true rfl⟩ hN hK hP hD hS hA 0 (ap_g (ap_g CW_0)) rfl rfl rfl hl.1 rfl (Nat.le_of_ble_eq_true rfl) dL_law_1178 hcs (fun rr u H locs hw hP hD hS => ?_)
  obtain ⟨hrr, hu, hts1⟩ := hw
  have hrr : rr = i2 r := hrr
  subst hrr
  obtain ⟨ax1, ps1⟩ := u
  have hax : ax1 0 = ax 0 := hu 0 (by decide)
  have hts1 : ps1.map Prod.snd = ts1 := hts1
  have hP : va_P D vwCl (XW D ax1 x1 ps1 ++ RW D am t) H := hP
  have hD : va_D A (XW D ax1 x1 ps1 ++ RW D am t) := hD
  refine lv_pop hx hb dL_law_1181 rfl ?_
  refine lv_aload_n hx hb dL_law_1182 rfl (lv_at hl 1 rfl) ?_
  refine ywV (r0 := i2 r2) (As := []) (rest := []) (C := RX12) (n := 0) (ws' := XW D ax1 x1 ps1 ++ RW D am t1) ⟨hx, hb, hml, hown, ht⟩ (yWi_c (yWi_f (XW D ax1 x1 ps1) (k_x12_undo l D am _ _ _ h2))) (zgV ml_L_155 im_X12_undo se_X12_undo in_X12 co_X12_undo) rfl rfl (by decide +kernel) ⟨Nat.le_of_ble_eq_true rfl, Nat.le_of_ble_eq_true rfl⟩ hN hK hP hD hS hA (XW D ax1 x1 ps1).length (ap_h RW_0) rfl rfl rfl hl.1 rfl (Nat.le_of_ble_eq_true rfl) dL_law_1183 hcs (fun H locs hP hS => ?_)
  have hD : va_D A (XW D ax1 x1 ps1 ++ RW D am t1) := XR_D hD
  refine lv_pop hx hb dL_law_1186 rfl ?_
  refine lv_goto (tgt := 1298) hx hb dL_law_1187 (by decide) ?_
  exact kk ax1 ps1 _ _ hax hts1 hP hD hS
set_option maxHeartbeats 4000000 in
set_option maxRecDepth 100000 in
/-- seed -/
theorem lc_34 {p : Program} (l : Launch) {e : Env} {s₀ : State} {m : MethodId} {below : List Frame} {meth : Method} {c : Code} {b L : Nat} {xs : Nat → Int32} {A : Nat → Prop} {D : va_G} (hx : p.tables.exec = Jvm.exec) (hb : c.code = cL_law) (hml : c.maxLocals = 4) (hown : s₀.vm.findClass RL = some m.cls) (ht : ∀ w ∈ lw_gd, w.before #[Value.ref b] s₀ = true) (hX : va_X b L xs s₀ s₀.heap) (hbl : b < s₀.heap.size) (hbA : ¬ A b) (hA : ∀ q, s₀.heap.size ≤ q → A q) (hK : va_K D vwCl (TY D) s₀) (hN : NN s₀) (hL : L ≤ 3072) {i : Nat} {H : Heap} {locs : List Loc} {ls : Array Slot} {ax am : Nat → Nat} {ps : List ((Nat → Nat) × MS)} (x x1 : MS) (ts : List MS) (r : Int) (t t1 : MS) (r2 : Int) {cells slots : Nat} (hcs : cells + 9 ≤ 600000 ∧ slots + 795 ≤ 7302249) (hi : i + 5 < L) (hts : ps.map Prod.snd = ts) (hP : va_P D vwCl (XW D ax x ps ++ RW D am t) H) (hD : va_D A (XW D ax x ps ++ RW D am t)) (hS : va_S A s₀.heap H locs) (hl : lv_has ls 4 [(3, .int (nI i)), (2, .ref (am 200)), (1, .ref (ax 0)), (0, .ref b)]) (h1 : m_x11_seed (xs (i + 1)).toInt x = some (r, x1)) (h2 : m_x12_seed (xs (i + 1)).toInt t = some (r2, t1))
    (kk : ∀ (ax1 : Nat → Nat) (ps1 : List ((Nat → Nat) × MS)) (H : Heap) (locs : List Loc), ax1 0 = ax 0 → ps1.map Prod.snd = ts → va_P D vwCl (XW D ax1 x1 ps1 ++ RW D am t1) H → va_D A (XW D ax1 x1 ps1 ++ RW D am t1) → va_S A s₀.heap H locs → W p l e room_1 s₀ m #[Value.ref b] below meth c H locs (cells + 9) (slots + 795) (lw_Z below #[Value.ref b] s₀) (F0 m 1298 ls [])) : W p l e room_1 s₀ m #[Value.ref b] below meth c H locs cells slots (lw_Z below #[Value.ref b] s₀) (F0 m 1190 ls []) := by
  refine lv_aload_n hx hb dL_law_1190 rfl (lv_at hl 2 rfl) ?_
  refine lv_aload_n hx hb dL_law_1191 rfl (lv_at hl 3 rfl) ?_
  refine lv_iload_n hx hb dL_law_1192 rfl (lv_at hl 0 rfl) ?_
  refine lv_iconst (v := 1) hx hb dL_law_1193 (by decide) ?_
  refine lv_iadd hx hb dL_law_1194 ?_
  refine z_topi (y := nI (i + 1)) (li_1 i) ?_
  refine va_sld hx hb hX hbl hbA hS (vp_in_nI (by omega) (by omega)) dL_law_1195 ?_
  refine z_topi (y := i2 (xs (i + 1)).toInt) (by rw [nI_clamp (by omega), i2_of]) ?_
  obtain ⟨ps1, hps⟩ : ∃ z, z = ps := ⟨ps, rfl⟩
  obtain ⟨ax1, hax1⟩ : ∃ z, z = ax := ⟨ax, rfl⟩
  refine ywV (r0 := i2 r) (As := [.int (i2 (xs (i + 1)).toInt)]) (rest := []) (C := RX11) (n := 1) (ws' := XW D ax x1 ps ++ RW D am t) ⟨hx, hb, hml, hown, ht⟩ (yWi_f _ (yWi_f _ (k_x11_seed l D ax (xs (i + 1)).toInt _ _ _ h1))) (zgV ml_L_156 im_X11_seed se_X11_seed in_X11 co_X11_seed) rfl rfl (by decide +kernel) ⟨Nat.le_of_ble_eq_true rfl, Nat.le_of_ble_eq_true rfl⟩ hN hK hP hD hS hA 0 (ap_g (ap_g CW_0)) rfl rfl rfl hl.1 rfl (Nat.le_of_ble_eq_true rfl) dL_law_1196 ⟨Nat.le_trans (Nat.le_add_right _ _) hcs.1, Nat.le_trans (Nat.le_add_right _ _) hcs.2⟩ (fun H locs hP hS => ?_)
  have hD : va_D A (XW D ax x1 ps ++ RW D am t) := XR_D hD
  have hax : ax1 0 = ax 0 := by rw [hax1]
  have hts1 : ps1.map Prod.snd = ts := by rw [hps]; exact hts
  rw [← hps, ← hax1] at hP hD
  refine W.widen (k := cells + 9) (n := slots + 795) (Nat.le_add_right _ _) (Nat.le_add_right _ _) ?_
  refine lv_pop hx hb dL_law_1199 rfl ?_
  refine lv_aload_n hx hb dL_law_1200 rfl (lv_at hl 1 rfl) ?_
  refine lv_aload_n hx hb dL_law_1201 rfl (lv_at hl 3 rfl) ?_
  refine lv_iload_n hx hb dL_law_1202 rfl (lv_at hl 0 rfl) ?_
  refine lv_iconst (v := 1) hx hb dL_law_1203 (by decide) ?_
  refine lv_iadd hx hb dL_law_1204 ?_
  refine z_topi (y := nI (i + 1)) (li_1 i) ?_
  refine va_sld hx hb hX hbl hbA hS (vp_in_nI (by omega) (by omega)) dL_law_1205 ?_
  refine z_topi (y := i2 (xs (i + 1)).toInt) (by rw [nI_clamp (by omega), i2_of]) ?_
  refine ywV (r0 := i2 r2) (As := [.int (i2 (xs (i + 1)).toInt)]) (rest := []) (C := RX12) (n := 1) (ws' := XW D ax1 x1 ps1 ++ RW D am t1) ⟨hx, hb, hml, hown, ht⟩ (yWi_c (yWi_f (XW D ax1 x1 ps1) (k_x12_seed l D am (xs (i + 1)).toInt _ _ _ h2))) (zgV ml_L_159 im_X12_seed se_X12_seed in_X12 co_X12_seed) rfl rfl (by decide +kernel) ⟨Nat.le_of_ble_eq_true rfl, Nat.le_of_ble_eq_true rfl⟩ hN hK hP hD hS hA (XW D ax1 x1 ps1).length (ap_h RW_0) rfl rfl rfl hl.1 rfl (Nat.le_of_ble_eq_true rfl) dL_law_1206 hcs (fun H locs hP hS => ?_)
  have hD : va_D A (XW D ax1 x1 ps1 ++ RW D am t1) := XR_D hD
  refine lv_pop hx hb dL_law_1209 rfl ?_
  refine lv_goto (tgt := 1298) hx hb dL_law_1210 (by decide) ?_
  exact kk ax1 ps1 _ _ hax hts1 hP hD hS
set_option maxHeartbeats 4000000 in
set_option maxRecDepth 100000 in
/-- ask -/
theorem lc_35 {p : Program} (l : Launch) {e : Env} {s₀ : State} {m : MethodId} {below : List Frame} {meth : Method} {c : Code} {b L : Nat} {xs : Nat → Int32} {A : Nat → Prop} {D : va_G} (hx : p.tables.exec = Jvm.exec) (hb : c.code = cL_law) (hml : c.maxLocals = 4) (hown : s₀.vm.findClass RL = some m.cls) (ht : ∀ w ∈ lw_gd, w.before #[Value.ref b] s₀ = true) (hX : va_X b L xs s₀ s₀.heap) (hbl : b < s₀.heap.size) (hbA : ¬ A b) (hA : ∀ q, s₀.heap.size ≤ q → A q) (hK : va_K D vwCl (TY D) s₀) (hN : NN s₀) (hL : L ≤ 3072) {i : Nat} {H : Heap} {locs : List Loc} {ls : Array Slot} {ax am : Nat → Nat} {ps : List ((Nat → Nat) × MS)} (x x1 : MS) (ts : List MS) (r : Int) (t t1 : MS) (r2 : Int) {cells slots : Nat} (hcs : cells + 9 ≤ 600000 ∧ slots + 795 ≤ 7302249) (hi : i + 5 < L) (hts : ps.map Prod.snd = ts) (hP : va_P D vwCl (XW D ax x ps ++ RW D am t) H) (hD : va_D A (XW D ax x ps ++ RW D am t)) (hS : va_S A s₀.heap H locs) (hl : lv_has ls 4 [(3, .int (nI i)), (2, .ref (am 200)), (1, .ref (ax 0)), (0, .ref b)]) (h1 : m_x11_ask x = some (r, x1)) (h2 : m_x12_ask t = some (r2, t1))
    (kk : ∀ (ax1 : Nat → Nat) (ps1 : List ((Nat → Nat) × MS)) (H : Heap) (locs : List Loc), ax1 0 = ax 0 → ps1.map Prod.snd = ts → va_P D vwCl (XW D ax1 x1 ps1 ++ RW D am t1) H → va_D A (XW D ax1 x1 ps1 ++ RW D am t1) → va_S A s₀.heap H locs → W p l e room_1 s₀ m #[Value.ref b] below meth c H locs (cells + 9) (slots + 795) (lw_Z below #[Value.ref b] s₀) (F0 m 1298 ls [])) : W p l e room_1 s₀ m #[Value.ref b] below meth c H locs cells slots (lw_Z below #[Value.ref b] s₀) (F0 m 1213 ls []) := by
  refine lv_aload_n hx hb dL_law_1213 rfl (lv_at hl 2 rfl) ?_
  obtain ⟨ps1, hps⟩ : ∃ z, z = ps := ⟨ps, rfl⟩
  obtain ⟨ax1, hax1⟩ : ∃ z, z = ax := ⟨ax, rfl⟩
  refine ywVl (r0 := i8 r) (As := []) (rest := []) (C := RX11) (n := 0) (ws' := XW D ax x1 ps ++ RW D am t) ⟨hx, hb, hml, hown, ht⟩ (yWl_f _ (yWl_f _ (k_x11_ask l D ax _ _ _ h1))) (zgV ml_L_160 im_X11_ask se_X11_ask in_X11 co_X11_ask) rfl rfl (by decide +kernel) ⟨Nat.le_of_ble_eq_true rfl, Nat.le_of_ble_eq_true rfl⟩ hN hK hP hD hS hA 0 (ap_g (ap_g CW_0)) rfl rfl rfl hl.1 rfl (Nat.le_of_ble_eq_true rfl) dL_law_1214 ⟨Nat.le_trans (Nat.le_add_right _ _) hcs.1, Nat.le_trans (Nat.le_add_right _ _) hcs.2⟩ (fun H locs hP hS => ?_)
  have hD : va_D A (XW D ax x1 ps ++ RW D am t) := XR_D hD
  have hax : ax1 0 = ax 0 := by rw [hax1]
  have hts1 : ps1.map Prod.snd = ts := by rw [hps]; exact hts
  rw [← hps, ← hax1] at hP hD
  refine W.widen (k := cells + 9) (n := slots + 795) (Nat.le_add_right _ _) (Nat.le_add_right _ _) ?_
  refine lv_pop2_2 hx hb dL_law_1217 rfl ?_
  refine lv_aload_n hx hb dL_law_1218 rfl (lv_at hl 1 rfl) ?_
  refine ywVl (r0 := i8 r2) (As := []) (rest := []) (C := RX12) (n := 0) (ws' := XW D ax1 x1 ps1 ++ RW D am t1) ⟨hx, hb, hml, hown, ht⟩ (yWl_c (yWl_f (XW D ax1 x1 ps1) (k_x12_ask l D am _ _ _ h2))) (zgV ml_L_164 im_X12_ask se_X12_ask in_X12 co_X12_ask) rfl rfl (by decide +kernel) ⟨Nat.le_of_ble_eq_true rfl, Nat.le_of_ble_eq_true rfl⟩ hN hK hP hD hS hA (XW D ax1 x1 ps1).length (ap_h RW_0) rfl rfl rfl hl.1 rfl (Nat.le_of_ble_eq_true rfl) dL_law_1219 hcs (fun H locs hP hS => ?_)
  have hD : va_D A (XW D ax1 x1 ps1 ++ RW D am t1) := XR_D hD
  refine lv_pop2_2 hx hb dL_law_1222 rfl ?_
  refine lv_goto (tgt := 1298) hx hb dL_law_1223 (by decide) ?_
  exact kk ax1 ps1 _ _ hax hts1 hP hD hS
set_option maxHeartbeats 4000000 in
set_option maxRecDepth 100000 in
/-- image -/
theorem lc_36 {p : Program} (l : Launch) {e : Env} {s₀ : State} {m : MethodId} {below : List Frame} {meth : Method} {c : Code} {b L : Nat} {xs : Nat → Int32} {A : Nat → Prop} {D : va_G} (hx : p.tables.exec = Jvm.exec) (hb : c.code = cL_law) (hml : c.maxLocals = 4) (hown : s₀.vm.findClass RL = some m.cls) (ht : ∀ w ∈ lw_gd, w.before #[Value.ref b] s₀ = true) (hX : va_X b L xs s₀ s₀.heap) (hbl : b < s₀.heap.size) (hbA : ¬ A b) (hA : ∀ q, s₀.heap.size ≤ q → A q) (hK : va_K D vwCl (TY D) s₀) (hN : NN s₀) (hL : L ≤ 3072) {i : Nat} {H : Heap} {locs : List Loc} {ls : Array Slot} {ax am : Nat → Nat} {ps : List ((Nat → Nat) × MS)} (x x1 : MS) (ts : List MS) (r : Int) (t t1 : MS) (r2 : Int) {cells slots : Nat} (hcs : cells + 9 ≤ 600000 ∧ slots + 795 ≤ 7302249) (hi : i + 5 < L) (hts : ps.map Prod.snd = ts) (hP : va_P D vwCl (XW D ax x ps ++ RW D am t) H) (hD : va_D A (XW D ax x ps ++ RW D am t)) (hS : va_S A s₀.heap H locs) (hl : lv_has ls 4 [(3, .int (nI i)), (2, .ref (am 200)), (1, .ref (ax 0)), (0, .ref b)]) (h1 : m_x11_image x = some (r, x1)) (h2 : m_x12_image t = some (r2, t1))
    (kk : ∀ (ax1 : Nat → Nat) (ps1 : List ((Nat → Nat) × MS)) (H : Heap) (locs : List Loc), ax1 0 = ax 0 → ps1.map Prod.snd = ts → va_P D vwCl (XW D ax1 x1 ps1 ++ RW D am t1) H → va_D A (XW D ax1 x1 ps1 ++ RW D am t1) → va_S A s₀.heap H locs → W p l e room_1 s₀ m #[Value.ref b] below meth c H locs (cells + 9) (slots + 795) (lw_Z below #[Value.ref b] s₀) (F0 m 1298 ls [])) : W p l e room_1 s₀ m #[Value.ref b] below meth c H locs cells slots (lw_Z below #[Value.ref b] s₀) (F0 m 1226 ls []) := by
  refine lv_aload_n hx hb dL_law_1226 rfl (lv_at hl 2 rfl) ?_
  obtain ⟨ps1, hps⟩ : ∃ z, z = ps := ⟨ps, rfl⟩
  obtain ⟨ax1, hax1⟩ : ∃ z, z = ax := ⟨ax, rfl⟩
  refine ywV (r0 := i2 r) (As := []) (rest := []) (C := RX11) (n := 0) (ws' := XW D ax x1 ps ++ RW D am t) ⟨hx, hb, hml, hown, ht⟩ (yWi_f _ (yWi_f _ (k_x11_image l D ax _ _ _ h1))) (zgV ml_L_165 im_X11_image se_X11_image in_X11 co_X11_image) rfl rfl (by decide +kernel) ⟨Nat.le_of_ble_eq_true rfl, Nat.le_of_ble_eq_true rfl⟩ hN hK hP hD hS hA 0 (ap_g (ap_g CW_0)) rfl rfl rfl hl.1 rfl (Nat.le_of_ble_eq_true rfl) dL_law_1227 ⟨Nat.le_trans (Nat.le_add_right _ _) hcs.1, Nat.le_trans (Nat.le_add_right _ _) hcs.2⟩ (fun H locs hP hS => ?_)
  have hD : va_D A (XW D ax x1 ps ++ RW D am t) := XR_D hD
  have hax : ax1 0 = ax 0 := by rw [hax1]
  have hts1 : ps1.map Prod.snd = ts := by rw [hps]; exact hts
  rw [← hps, ← hax1] at hP hD
  refine W.widen (k := cells + 9) (n := slots + 795) (Nat.le_add_right _ _) (Nat.le_add_right _ _) ?_
  refine lv_pop hx hb dL_law_1230 rfl ?_
  refine lv_aload_n hx hb dL_law_1231 rfl (lv_at hl 1 rfl) ?_
  refine ywV (r0 := i2 r2) (As := []) (rest := []) (C := RX12) (n := 0) (ws' := XW D ax1 x1 ps1 ++ RW D am t1) ⟨hx, hb, hml, hown, ht⟩ (yWi_c (yWi_f (XW D ax1 x1 ps1) (k_x12_image l D am _ _ _ h2))) (zgV ml_L_168 im_X12_image se_X12_image in_X12 co_X12_image) rfl rfl (by decide +kernel) ⟨Nat.le_of_ble_eq_true rfl, Nat.le_of_ble_eq_true rfl⟩ hN hK hP hD hS hA (XW D ax1 x1 ps1).length (ap_h RW_0) rfl rfl rfl hl.1 rfl (Nat.le_of_ble_eq_true rfl) dL_law_1232 hcs (fun H locs hP hS => ?_)
  have hD : va_D A (XW D ax1 x1 ps1 ++ RW D am t1) := XR_D hD
  refine lv_pop hx hb dL_law_1235 rfl ?_
  refine lv_goto (tgt := 1298) hx hb dL_law_1236 (by decide) ?_
  exact kk ax1 ps1 _ _ hax hts1 hP hD hS
set_option maxHeartbeats 4000000 in
set_option maxRecDepth 100000 in
/-- octet -/
theorem lc_37 {p : Program} (l : Launch) {e : Env} {s₀ : State} {m : MethodId} {below : List Frame} {meth : Method} {c : Code} {b L : Nat} {xs : Nat → Int32} {A : Nat → Prop} {D : va_G} (hx : p.tables.exec = Jvm.exec) (hb : c.code = cL_law) (hml : c.maxLocals = 4) (hown : s₀.vm.findClass RL = some m.cls) (ht : ∀ w ∈ lw_gd, w.before #[Value.ref b] s₀ = true) (hX : va_X b L xs s₀ s₀.heap) (hbl : b < s₀.heap.size) (hbA : ¬ A b) (hA : ∀ q, s₀.heap.size ≤ q → A q) (hK : va_K D vwCl (TY D) s₀) (hN : NN s₀) (hL : L ≤ 3072) {i : Nat} {H : Heap} {locs : List Loc} {ls : Array Slot} {ax am : Nat → Nat} {ps : List ((Nat → Nat) × MS)} (x : MS) (ts : List MS) (r : Int) (t : MS) (r2 : Int) {cells slots : Nat} (hcs : cells + 9 ≤ 600000 ∧ slots + 795 ≤ 7302249) (hi : i + 5 < L) (hts : ps.map Prod.snd = ts) (hP : va_P D vwCl (XW D ax x ps ++ RW D am t) H) (hD : va_D A (XW D ax x ps ++ RW D am t)) (hS : va_S A s₀.heap H locs) (hl : lv_has ls 4 [(3, .int (nI i)), (2, .ref (am 200)), (1, .ref (ax 0)), (0, .ref b)]) (h1 : m_x11_octet (xs (i + 1)).toInt x = some r) (h2 : m_x12_octet (xs (i + 1)).toInt t = some r2)
    (kk : ∀ (ax1 : Nat → Nat) (ps1 : List ((Nat → Nat) × MS)) (H : Heap) (locs : List Loc), ax1 0 = ax 0 → ps1.map Prod.snd = ts → va_P D vwCl (XW D ax1 x ps1 ++ RW D am t) H → va_D A (XW D ax1 x ps1 ++ RW D am t) → va_S A s₀.heap H locs → W p l e room_1 s₀ m #[Value.ref b] below meth c H locs (cells + 9) (slots + 795) (lw_Z below #[Value.ref b] s₀) (F0 m 1298 ls [])) : W p l e room_1 s₀ m #[Value.ref b] below meth c H locs cells slots (lw_Z below #[Value.ref b] s₀) (F0 m 1239 ls []) := by
  refine lv_aload_n hx hb dL_law_1239 rfl (lv_at hl 2 rfl) ?_
  refine lv_aload_n hx hb dL_law_1240 rfl (lv_at hl 3 rfl) ?_
  refine lv_iload_n hx hb dL_law_1241 rfl (lv_at hl 0 rfl) ?_
  refine lv_iconst (v := 1) hx hb dL_law_1242 (by decide) ?_
  refine lv_iadd hx hb dL_law_1243 ?_
  refine z_topi (y := nI (i + 1)) (li_1 i) ?_
  refine va_sld hx hb hX hbl hbA hS (vp_in_nI (by omega) (by omega)) dL_law_1244 ?_
  refine z_topi (y := i2 (xs (i + 1)).toInt) (by rw [nI_clamp (by omega), i2_of]) ?_
  obtain ⟨ps1, hps⟩ : ∃ z, z = ps := ⟨ps, rfl⟩
  obtain ⟨ax1, hax1⟩ : ∃ z, z = ax := ⟨ax, rfl⟩
  refine ycV (r0 := i2 r) (As := [.int (i2 (xs (i + 1)).toInt)]) (rest := []) (C := RX11) (n := 1) ⟨hx, hb, hml, hown, ht⟩ (yRi_f _ (yRi_f _ (k_x11_octet l D ax (xs (i + 1)).toInt _ _ h1))) (zgV ml_L_169 im_X11_octet se_X11_octet in_X11 co_X11_octet) rfl rfl (by decide +kernel) ⟨Nat.le_of_ble_eq_true rfl, Nat.le_of_ble_eq_true rfl⟩ hN hK hP hS 0 (ap_g (ap_g CW_0)) rfl rfl rfl hl.1 rfl (Nat.le_of_ble_eq_true rfl) dL_law_1245 ⟨Nat.le_trans (Nat.le_add_right _ _) hcs.1, Nat.le_trans (Nat.le_add_right _ _) hcs.2⟩ (fun H locs hP hS => ?_)
  have hax : ax1 0 = ax 0 := by rw [hax1]
  have hts1 : ps1.map Prod.snd = ts := by rw [hps]; exact hts
  rw [← hps, ← hax1] at hP hD
  refine W.widen (k := cells + 9) (n := slots + 795) (Nat.le_add_right _ _) (Nat.le_add_right _ _) ?_
  refine lv_pop hx hb dL_law_1248 rfl ?_
  refine lv_aload_n hx hb dL_law_1249 rfl (lv_at hl 1 rfl) ?_
  refine lv_aload_n hx hb dL_law_1250 rfl (lv_at hl 3 rfl) ?_
  refine lv_iload_n hx hb dL_law_1251 rfl (lv_at hl 0 rfl) ?_
  refine lv_iconst (v := 1) hx hb dL_law_1252 (by decide) ?_
  refine lv_iadd hx hb dL_law_1253 ?_
  refine z_topi (y := nI (i + 1)) (li_1 i) ?_
  refine va_sld hx hb hX hbl hbA hS (vp_in_nI (by omega) (by omega)) dL_law_1254 ?_
  refine z_topi (y := i2 (xs (i + 1)).toInt) (by rw [nI_clamp (by omega), i2_of]) ?_
  refine ycV (r0 := i2 r2) (As := [.int (i2 (xs (i + 1)).toInt)]) (rest := []) (C := RX12) (n := 1) ⟨hx, hb, hml, hown, ht⟩ (yRi_c (T := XW D ax1 x ps1) (k_x12_octet l D am (xs (i + 1)).toInt _ _ h2)) (zgV ml_L_172 im_X12_octet se_X12_octet in_X12 co_X12_octet) rfl rfl (by decide +kernel) ⟨Nat.le_of_ble_eq_true rfl, Nat.le_of_ble_eq_true rfl⟩ hN hK hP hS (XW D ax1 x ps1).length (ap_h RW_0) rfl rfl rfl hl.1 rfl (Nat.le_of_ble_eq_true rfl) dL_law_1255 hcs (fun H locs hP hS => ?_)
  refine lv_pop hx hb dL_law_1258 rfl ?_
  refine lv_goto (tgt := 1298) hx hb dL_law_1259 (by decide) ?_
  exact kk ax1 ps1 _ _ hax hts1 hP hD hS
set_option maxHeartbeats 4000000 in
set_option maxRecDepth 100000 in
/-- on -/
theorem lc_38 {p : Program} (l : Launch) {e : Env} {s₀ : State} {m : MethodId} {below : List Frame} {meth : Method} {c : Code} {b L : Nat} {xs : Nat → Int32} {A : Nat → Prop} {D : va_G} (hx : p.tables.exec = Jvm.exec) (hb : c.code = cL_law) (hml : c.maxLocals = 4) (hown : s₀.vm.findClass RL = some m.cls) (ht : ∀ w ∈ lw_gd, w.before #[Value.ref b] s₀ = true) (hX : va_X b L xs s₀ s₀.heap) (hbl : b < s₀.heap.size) (hbA : ¬ A b) (hA : ∀ q, s₀.heap.size ≤ q → A q) (hK : va_K D vwCl (TY D) s₀) (hN : NN s₀) (hL : L ≤ 3072) {i : Nat} {H : Heap} {locs : List Loc} {ls : Array Slot} {ax am : Nat → Nat} {ps : List ((Nat → Nat) × MS)} (x x1 : MS) (ts : List MS) (r : Int) (t t1 : MS) (r2 : Int) {cells slots : Nat} (hcs : cells + 9 ≤ 600000 ∧ slots + 795 ≤ 7302249) (hi : i + 5 < L) (hts : ps.map Prod.snd = ts) (hP : va_P D vwCl (XW D ax x ps ++ RW D am t) H) (hD : va_D A (XW D ax x ps ++ RW D am t)) (hS : va_S A s₀.heap H locs) (hl : lv_has ls 4 [(3, .int (nI i)), (2, .ref (am 200)), (1, .ref (ax 0)), (0, .ref b)]) (h1 : m_x11_on x = some (r, x1)) (h2 : m_x12_on t = some (r2, t1))
    (kk : ∀ (ax1 : Nat → Nat) (ps1 : List ((Nat → Nat) × MS)) (H : Heap) (locs : List Loc), ax1 0 = ax 0 → ps1.map Prod.snd = ts → va_P D vwCl (XW D ax1 x1 ps1 ++ RW D am t1) H → va_D A (XW D ax1 x1 ps1 ++ RW D am t1) → va_S A s₀.heap H locs → W p l e room_1 s₀ m #[Value.ref b] below meth c H locs (cells + 9) (slots + 795) (lw_Z below #[Value.ref b] s₀) (F0 m 1298 ls [])) : W p l e room_1 s₀ m #[Value.ref b] below meth c H locs cells slots (lw_Z below #[Value.ref b] s₀) (F0 m 1262 ls []) := by
  refine lv_aload_n hx hb dL_law_1262 rfl (lv_at hl 2 rfl) ?_
  obtain ⟨ps1, hps⟩ : ∃ z, z = ps := ⟨ps, rfl⟩
  obtain ⟨ax1, hax1⟩ : ∃ z, z = ax := ⟨ax, rfl⟩
  refine ywV (r0 := i2 r) (As := []) (rest := []) (C := RX11) (n := 0) (ws' := XW D ax x1 ps ++ RW D am t) ⟨hx, hb, hml, hown, ht⟩ (yWi_f _ (yWi_f _ (k_x11_on l D ax _ _ _ h1))) (zgV ml_L_173 im_X11_on se_X11_on in_X11 co_X11_on) rfl rfl (by decide +kernel) ⟨Nat.le_of_ble_eq_true rfl, Nat.le_of_ble_eq_true rfl⟩ hN hK hP hD hS hA 0 (ap_g (ap_g CW_0)) rfl rfl rfl hl.1 rfl (Nat.le_of_ble_eq_true rfl) dL_law_1263 ⟨Nat.le_trans (Nat.le_add_right _ _) hcs.1, Nat.le_trans (Nat.le_add_right _ _) hcs.2⟩ (fun H locs hP hS => ?_)
  have hD : va_D A (XW D ax x1 ps ++ RW D am t) := XR_D hD
  have hax : ax1 0 = ax 0 := by rw [hax1]
  have hts1 : ps1.map Prod.snd = ts := by rw [hps]; exact hts
  rw [← hps, ← hax1] at hP hD
  refine W.widen (k := cells + 9) (n := slots + 795) (Nat.le_add_right _ _) (Nat.le_add_right _ _) ?_
  refine lv_pop hx hb dL_law_1266 rfl ?_
  refine lv_aload_n hx hb dL_law_1267 rfl (lv_at hl 1 rfl) ?_
  refine ywV (r0 := i2 r2) (As := []) (rest := []) (C := RX12) (n := 0) (ws' := XW D ax1 x1 ps1 ++ RW D am t1) ⟨hx, hb, hml, hown, ht⟩ (yWi_c (yWi_f (XW D ax1 x1 ps1) (k_x12_on l D am _ _ _ h2))) (zgV ml_L_176 im_X12_on se_X12_on in_X12 co_X12_on) rfl rfl (by decide +kernel) ⟨Nat.le_of_ble_eq_true rfl, Nat.le_of_ble_eq_true rfl⟩ hN hK hP hD hS hA (XW D ax1 x1 ps1).length (ap_h RW_0) rfl rfl rfl hl.1 rfl (Nat.le_of_ble_eq_true rfl) dL_law_1268 hcs (fun H locs hP hS => ?_)
  have hD : va_D A (XW D ax1 x1 ps1 ++ RW D am t1) := XR_D hD
  refine lv_pop hx hb dL_law_1271 rfl ?_
  refine lv_goto (tgt := 1298) hx hb dL_law_1272 (by decide) ?_
  exact kk ax1 ps1 _ _ hax hts1 hP hD hS
set_option maxHeartbeats 4000000 in
set_option maxRecDepth 100000 in
/-- status -/
theorem lc_39 {p : Program} (l : Launch) {e : Env} {s₀ : State} {m : MethodId} {below : List Frame} {meth : Method} {c : Code} {b L : Nat} {xs : Nat → Int32} {A : Nat → Prop} {D : va_G} (hx : p.tables.exec = Jvm.exec) (hb : c.code = cL_law) (hml : c.maxLocals = 4) (hown : s₀.vm.findClass RL = some m.cls) (ht : ∀ w ∈ lw_gd, w.before #[Value.ref b] s₀ = true) (hX : va_X b L xs s₀ s₀.heap) (hbl : b < s₀.heap.size) (hbA : ¬ A b) (hA : ∀ q, s₀.heap.size ≤ q → A q) (hK : va_K D vwCl (TY D) s₀) (hN : NN s₀) (hL : L ≤ 3072) {i : Nat} {H : Heap} {locs : List Loc} {ls : Array Slot} {ax am : Nat → Nat} {ps : List ((Nat → Nat) × MS)} (x : MS) (ts : List MS) (r : Int) (t : MS) (r2 : Int) {cells slots : Nat} (hcs : cells + 9 ≤ 600000 ∧ slots + 795 ≤ 7302249) (hi : i + 5 < L) (hts : ps.map Prod.snd = ts) (hP : va_P D vwCl (XW D ax x ps ++ RW D am t) H) (hD : va_D A (XW D ax x ps ++ RW D am t)) (hS : va_S A s₀.heap H locs) (hl : lv_has ls 4 [(3, .int (nI i)), (2, .ref (am 200)), (1, .ref (ax 0)), (0, .ref b)]) (h1 : m_x11_status (xs (i + 1)).toInt x = some r) (h2 : m_x12_status (xs (i + 1)).toInt t = some r2)
    (kk : ∀ (ax1 : Nat → Nat) (ps1 : List ((Nat → Nat) × MS)) (H : Heap) (locs : List Loc), ax1 0 = ax 0 → ps1.map Prod.snd = ts → va_P D vwCl (XW D ax1 x ps1 ++ RW D am t) H → va_D A (XW D ax1 x ps1 ++ RW D am t) → va_S A s₀.heap H locs → W p l e room_1 s₀ m #[Value.ref b] below meth c H locs (cells + 9) (slots + 795) (lw_Z below #[Value.ref b] s₀) (F0 m 1298 ls [])) : W p l e room_1 s₀ m #[Value.ref b] below meth c H locs cells slots (lw_Z below #[Value.ref b] s₀) (F0 m 1275 ls []) := by
  refine lv_aload_n hx hb dL_law_1275 rfl (lv_at hl 2 rfl) ?_
  refine lv_aload_n hx hb dL_law_1276 rfl (lv_at hl 3 rfl) ?_
  refine lv_iload_n hx hb dL_law_1277 rfl (lv_at hl 0 rfl) ?_
  refine lv_iconst (v := 1) hx hb dL_law_1278 (by decide) ?_
  refine lv_iadd hx hb dL_law_1279 ?_
  refine z_topi (y := nI (i + 1)) (li_1 i) ?_
  refine va_sld hx hb hX hbl hbA hS (vp_in_nI (by omega) (by omega)) dL_law_1280 ?_
  refine z_topi (y := i2 (xs (i + 1)).toInt) (by rw [nI_clamp (by omega), i2_of]) ?_
  obtain ⟨ps1, hps⟩ : ∃ z, z = ps := ⟨ps, rfl⟩
  obtain ⟨ax1, hax1⟩ : ∃ z, z = ax := ⟨ax, rfl⟩
  refine ycV (r0 := i2 r) (As := [.int (i2 (xs (i + 1)).toInt)]) (rest := []) (C := RX11) (n := 1) ⟨hx, hb, hml, hown, ht⟩ (yRi_f _ (yRi_f _ (k_x11_status l D ax (xs (i + 1)).toInt _ _ h1))) (zgV ml_L_177 im_X11_status se_X11_status in_X11 co_X11_status) rfl rfl (by decide +kernel) ⟨Nat.le_of_ble_eq_true rfl, Nat.le_of_ble_eq_true rfl⟩ hN hK hP hS 0 (ap_g (ap_g CW_0)) rfl rfl rfl hl.1 rfl (Nat.le_of_ble_eq_true rfl) dL_law_1281 ⟨Nat.le_trans (Nat.le_add_right _ _) hcs.1, Nat.le_trans (Nat.le_add_right _ _) hcs.2⟩ (fun H locs hP hS => ?_)
  have hax : ax1 0 = ax 0 := by rw [hax1]
  have hts1 : ps1.map Prod.snd = ts := by rw [hps]; exact hts
  rw [← hps, ← hax1] at hP hD
  refine W.widen (k := cells + 9) (n := slots + 795) (Nat.le_add_right _ _) (Nat.le_add_right _ _) ?_
  refine lv_pop hx hb dL_law_1284 rfl ?_
  refine lv_aload_n hx hb dL_law_1285 rfl (lv_at hl 1 rfl) ?_
  refine lv_aload_n hx hb dL_law_1286 rfl (lv_at hl 3 rfl) ?_
  refine lv_iload_n hx hb dL_law_1287 rfl (lv_at hl 0 rfl) ?_
  refine lv_iconst (v := 1) hx hb dL_law_1288 (by decide) ?_
  refine lv_iadd hx hb dL_law_1289 ?_
  refine z_topi (y := nI (i + 1)) (li_1 i) ?_
  refine va_sld hx hb hX hbl hbA hS (vp_in_nI (by omega) (by omega)) dL_law_1290 ?_
  refine z_topi (y := i2 (xs (i + 1)).toInt) (by rw [nI_clamp (by omega), i2_of]) ?_
  refine ycV (r0 := i2 r2) (As := [.int (i2 (xs (i + 1)).toInt)]) (rest := []) (C := RX12) (n := 1) ⟨hx, hb, hml, hown, ht⟩ (yRi_c (T := XW D ax1 x ps1) (k_x12_status l D am (xs (i + 1)).toInt _ _ h2)) (zgV ml_L_180 im_X12_status se_X12_status in_X12 co_X12_status) rfl rfl (by decide +kernel) ⟨Nat.le_of_ble_eq_true rfl, Nat.le_of_ble_eq_true rfl⟩ hN hK hP hS (XW D ax1 x ps1).length (ap_h RW_0) rfl rfl rfl hl.1 rfl (Nat.le_of_ble_eq_true rfl) dL_law_1291 hcs (fun H locs hP hS => ?_)
  refine lv_pop hx hb dL_law_1294 rfl ?_
  refine lv_goto (tgt := 1298) hx hb dL_law_1295 (by decide) ?_
  exact kk ax1 ps1 _ _ hax hts1 hP hD hS
theorem co_X11_init : Cond.code yX11_init cX11_init 1 none ∈ lw_gd := zm (lw_g_1 (List.mem_of_getElem? (i := 25) (by decide +kernel))) rfl
set_option maxRecDepth 100000 in
theorem co_X12_init : Cond.code yX12_init cX12_init 1 none ∈ lw_gd := zm (List.mem_append_right _ (List.mem_append_right _ (List.mem_append_right _ (List.mem_append_right _ (List.mem_append_right _ (List.mem_append_right _ (List.mem_append_left _ (List.mem_of_getElem? (l := tables_1_6) (i := 139) rfl)))))))) rfl
theorem cx_L_10 : Cond.classLink RL 10 RX12 ∈ lw_gd := zm (lw_g_6 (List.mem_of_getElem? (i := 135) (by decide +kernel))) rfl
theorem cx_L_7 : Cond.classLink RL 7 RX11 ∈ lw_gd := zm (lw_g_1 (List.mem_of_getElem? (i := 21) (by decide +kernel))) rfl
theorem ia_X11 : Cond.instantiable RX11 13 ∈ lw_gd := zm (lw_g_1 (List.mem_of_getElem? (i := 22) (by decide +kernel))) rfl
theorem ia_X12 : Cond.instantiable RX12 116 ∈ lw_gd := zm (lw_g_6 (List.mem_of_getElem? (i := 136) (by decide +kernel))) rfl
theorem im_X11_init : Cond.instanceMethod yX11_init ∈ lw_gd := zm (lw_g_1 (List.mem_of_getElem? (i := 24) (by decide +kernel))) rfl
theorem im_X12_init : Cond.instanceMethod yX12_init ∈ lw_gd := zm (lw_g_6 (List.mem_of_getElem? (i := 138) (by decide +kernel))) rfl
theorem ml_L_12 : Cond.methodLink RL 12 yX12_init ∈ lw_gd := zm (lw_g_6 (List.mem_of_getElem? (i := 137) (by decide +kernel))) rfl
theorem ml_L_9 : Cond.methodLink RL 9 yX11_init ∈ lw_gd := zm (lw_g_1 (List.mem_of_getElem? (i := 23) (by decide +kernel))) rfl
theorem dL_law_0 : decode cL_law 0 = .ok (.new 7, 3) := by decide +kernel
theorem dL_law_3 : decode cL_law 3 = .ok (.dup, 1) := by decide +kernel
theorem dL_law_4 : decode cL_law 4 = .ok (.invokespecial 9, 3) := by decide +kernel
theorem dL_law_7 : decode cL_law 7 = .ok (.astore_n 1, 1) := by decide +kernel
theorem dL_law_8 : decode cL_law 8 = .ok (.new 10, 3) := by decide +kernel
theorem dL_law_11 : decode cL_law 11 = .ok (.dup, 1) := by decide +kernel
theorem dL_law_12 : decode cL_law 12 = .ok (.invokespecial 12, 3) := by decide +kernel
theorem dL_law_15 : decode cL_law 15 = .ok (.astore_n 2, 1) := by decide +kernel
theorem dL_law_16 : decode cL_law 16 = .ok (.iconst 0, 1) := by decide +kernel
theorem dL_law_17 : decode cL_law 17 = .ok (.istore_n 3, 1) := by decide +kernel
theorem dL_law_18 : decode cL_law 18 = .ok (.iload_n 3, 1) := by decide +kernel
theorem dL_law_19 : decode cL_law 19 = .ok (.aload_n 0, 1) := by decide +kernel
theorem dL_law_20 : decode cL_law 20 = .ok (.arraylength, 1) := by decide +kernel
theorem dL_law_21 : decode cL_law 21 = .ok (.bipush 6, 2) := by decide +kernel
theorem dL_law_23 : decode cL_law 23 = .ok (.isub, 1) := by decide +kernel
theorem dL_law_24 : decode cL_law 24 = .ok (.if_icmp .gt 1280, 3) := by decide +kernel
theorem dL_law_27 : decode cL_law 27 = .ok (.aload_n 0, 1) := by decide +kernel
theorem dL_law_28 : decode cL_law 28 = .ok (.iload_n 3, 1) := by decide +kernel
theorem dL_law_29 : decode cL_law 29 = .ok (.iaload, 1) := by decide +kernel
theorem dL_law_30 : decode cL_law 30 = .ok (.bipush 63, 2) := by decide +kernel
theorem dL_law_32 : decode cL_law 32 = .ok (.iand, 1) := by decide +kernel
theorem dL_law_33 : decode cL_law 33 = .ok (.tableswitch 1265 0 39 #[175, 238, 261, 274, 297, 320, 353, 386, 419, 462, 495, 528, 561, 604, 647, 680, 723, 766, 799, 822, 845, 868, 891, 914, 927, 950, 973, 1016, 1049, 1072, 1095, 1108, 1121, 1144, 1157, 1180, 1193, 1206, 1229, 1242], 175) := by decide +kernel
theorem dL_law_1298 : decode cL_law 1298 = .ok (.iinc 3 6, 3) := by decide +kernel
theorem dL_law_1301 : decode cL_law 1301 = .ok (.goto (-1283), 3) := by decide +kernel
theorem dL_law_1304 : decode cL_law 1304 = .ok (.iconst 1, 1) := by decide +kernel
theorem dL_law_1305 : decode cL_law 1305 = .ok (.ireturn, 1) := by decide +kernel
set_option maxHeartbeats 8000000 in
set_option maxRecDepth 100000 in
theorem law_go {p : Program} (l : Launch) {e : Env} {s₀ : State} {m : MethodId} {below : List Frame} {meth : Method} {c : Code} {b L : Nat} {xs : Nat → Int32} {A : Nat → Prop} {D : va_G} (hx : p.tables.exec = Jvm.exec) (hb : c.code = cL_law) (hml : c.maxLocals = 4) (hown : s₀.vm.findClass RL = some m.cls) (ht : ∀ w ∈ lw_gd, w.before #[Value.ref b] s₀ = true) (hX : va_X b L xs s₀ s₀.heap) (hbl : b < s₀.heap.size) (hbA : ¬ A b) (hA : ∀ q, s₀.heap.size ≤ q → A q) (hK : va_K D vwCl (TY D) s₀) (hN : NN s₀) (hL : L ≤ 3072) (hr : meth.sig.returnType = ret) (hlocks : meth.locks = false) (hAs : ∀ q, A q → s₀.heap.size ≤ q) (Iv : MS → List MS → MS → Prop) (hst : LSt Iv) : ∀ (n j : Nat), L < 6 * j + n → 6 * j ≤ L → ∀ (ax am : Nat → Nat) (ps : List ((Nat → Nat) × MS)) (ts : List MS) (x t : MS) (H : Heap) (locs : List Loc) (ls : Array Slot), Iv x ts t → ps.map Prod.snd = ts → va_P D vwCl (XW D ax x ps ++ RW D am t) H → va_D A (XW D ax x ps ++ RW D am t) → va_S A s₀.heap H locs → lv_has ls 4 [(3, .int (nI (6 * j))), (2, .ref (am 200)), (1, .ref (ax 0)), (0, .ref b)] → W p l e room_1 s₀ m #[Value.ref b] below meth c H locs (164 + 9 * j) (46440 + 795 * j) (lw_Z below #[Value.ref b] s₀) (F0 m 18 ls []) := by
  intro n
  induction n with
  | zero => intro j h1 h2; omega
  | succ n ih =>
    intro j hj1 hj2 ax am ps ts x t H locs ls hIv hts hP hD hS hl
    have J : ∀ (ax1 : Nat → Nat) (ps1 : List ((Nat → Nat) × MS)) (ts1 : List MS) (x1 t1 : MS) (H : Heap) (locs : List Loc), 6 * j + 5 < L → Iv x1 ts1 t1 → ax1 0 = ax 0 → ps1.map Prod.snd = ts1 → va_P D vwCl (XW D ax1 x1 ps1 ++ RW D am t1) H → va_D A (XW D ax1 x1 ps1 ++ RW D am t1) → va_S A s₀.heap H locs → W p l e room_1 s₀ m #[Value.ref b] below meth c H locs (164 + 9 * j + 9) (46440 + 795 * j + 795) (lw_Z below #[Value.ref b] s₀) (F0 m 1298 ls []) := by
      intro ax1 ps1 ts1 x1 t1 H locs hlt hIv hax hts hP hD hS
      refine lv_iinc (v := nI (6 * (j + 1))) (lv' := [(3, .int (nI (6 * (j + 1)))), (2, .ref (am 200)), (1, .ref (ax 0)), (0, .ref b)]) hx hb dL_law_1298 hl (k := 0) rfl (li_6 _) (by decide) rfl (fun ls hl => ?_)
      refine lv_goto (tgt := 18) hx hb dL_law_1301 (by decide) ?_
      rw [← hax] at hl
      exact ih (j + 1) (by omega) (by omega) ax1 am ps1 ts1 x1 t1 H locs ls hIv hts hP hD hS hl
    refine lv_iload_n hx hb dL_law_18 rfl (lv_at hl 0 rfl) ?_
    refine lv_aload_n hx hb dL_law_19 rfl (lv_at hl 3 rfl) ?_
    refine va_slen hx hb hX hbl (fun h => hbA h) hS dL_law_20 ?_
    refine lv_bipush (v := 6) hx hb dL_law_21 (by decide) ?_
    refine lv_isub hx hb dL_law_23 ?_
    have hsub : (Int32.ofNat L - 6 : Int32).toInt = (L : Int) - 6 := pk_sub_toInt (a := L) (b := 6) (by omega) (by decide)
    refine lv_icmp_gt (tgt := 1304) hx hb dL_law_24 (by decide) (fun c9 => ?_) (fun c9 => ?_)
    · refine lv_iconst (v := 1) hx hb dL_law_1304 (by decide) ?_
      refine va_forget (fun q hq => hAs _ (hS.2.2 q hq)) ?_
      refine W.widen (k := 600000) (n := 7302249) (by omega) (by omega) ?_
      exact lw_ret hx hb hr hlocks dL_law_1305
    · have g9 : (6 * j : Nat) ≤ (L : Int) - 6 := z_nlt hsub (nI_toInt (by omega)) c9
      have hlt : 6 * j + 5 < L := by omega
      have hcs : (164 + 9 * j) + 9 ≤ 600000 ∧ (46440 + 795 * j) + 795 ≤ 7302249 := ⟨by omega, by omega⟩
      refine lv_aload_n hx hb dL_law_27 rfl (lv_at hl 3 rfl) ?_
      refine lv_iload_n hx hb dL_law_28 rfl (lv_at hl 0 rfl) ?_
      refine va_sld hx hb hX hbl hbA hS (vp_in_nI (by omega) (by omega)) dL_law_29 ?_
      refine lv_bipush (v := 63) hx hb dL_law_30 (by decide) ?_
      refine lv_iand hx hb dL_law_32 ?_
      refine lv_topi (fun k ek => ?_)
      clear ek
      by_cases e0 : k = 0
      · subst e0
        refine lv_tableIn (off := 175) (tgt := 208) hx hb dL_law_33 (by decide) (by decide) (by decide) (by decide) ?_
        obtain ⟨x1, r, t1, r2, h1, h2, hI⟩ := hst.1 x ts t (xs (6 * j + 1)).toInt (xs (6 * j + 2)).toInt (xs (6 * j + 3)).toInt (xs (6 * j + 4)).toInt (xs (6 * j + 5)).toInt (R2_of _) (R2_of _) (R2_of _) (R2_of _) (R2_of _) hIv
        exact lc_0 l hx hb hml hown ht hX hbl hbA hA hK hN hL x x1 ts r t t1 r2 hcs hlt hts hP hD hS hl h1 h2 (fun ax1 ps1 H locs a1 a2 a3 a4 a5 => J ax1 ps1 _ _ _ H locs hlt hI a1 a2 a3 a4 a5)
      by_cases e1 : k = 1
      · subst e1
        refine lv_tableIn (off := 238) (tgt := 271) hx hb dL_law_33 (by decide) (by decide) (by decide) (by decide) ?_
        obtain ⟨x1, r, t1, r2, h1, h2, hI⟩ := hst.2.1 x ts t (xs (6 * j + 1)).toInt (R2_of _) hIv
        exact lc_1 l hx hb hml hown ht hX hbl hbA hA hK hN hL x x1 ts r t t1 r2 hcs hlt hts hP hD hS hl h1 h2 (fun ax1 ps1 H locs a1 a2 a3 a4 a5 => J ax1 ps1 _ _ _ H locs hlt hI a1 a2 a3 a4 a5)
      by_cases e2 : k = 2
      · subst e2
        refine lv_tableIn (off := 261) (tgt := 294) hx hb dL_law_33 (by decide) (by decide) (by decide) (by decide) ?_
        obtain ⟨x1, r, t1, r2, h1, h2, hI⟩ := hst.2.2.1 x ts t hIv
        exact lc_2 l hx hb hml hown ht hX hbl hbA hA hK hN hL x x1 ts r t t1 r2 hcs hlt hts hP hD hS hl h1 h2 (fun ax1 ps1 H locs a1 a2 a3 a4 a5 => J ax1 ps1 _ _ _ H locs hlt hI a1 a2 a3 a4 a5)
      by_cases e3 : k = 3
      · subst e3
        refine lv_tableIn (off := 274) (tgt := 307) hx hb dL_law_33 (by decide) (by decide) (by decide) (by decide) ?_
        obtain ⟨r, r2, h1, h2, hI⟩ := hst.2.2.2.1 x ts t (xs (6 * j + 1)).toInt (R2_of _) hIv
        exact lc_3 l hx hb hml hown ht hX hbl hbA hA hK hN hL x ts r t r2 hcs hlt hts hP hD hS hl h1 h2 (fun ax1 ps1 H locs a1 a2 a3 a4 a5 => J ax1 ps1 _ _ _ H locs hlt hI a1 a2 a3 a4 a5)
      by_cases e4 : k = 4
      · subst e4
        refine lv_tableIn (off := 297) (tgt := 330) hx hb dL_law_33 (by decide) (by decide) (by decide) (by decide) ?_
        obtain ⟨r, r2, h1, h2, hI⟩ := hst.2.2.2.2.1 x ts t (xs (6 * j + 1)).toInt (R2_of _) hIv
        exact lc_4 l hx hb hml hown ht hX hbl hbA hA hK hN hL x ts r t r2 hcs hlt hts hP hD hS hl h1 h2 (fun ax1 ps1 H locs a1 a2 a3 a4 a5 => J ax1 ps1 _ _ _ H locs hlt hI a1 a2 a3 a4 a5)
      by_cases e5 : k = 5
      · subst e5
        refine lv_tableIn (off := 320) (tgt := 353) hx hb dL_law_33 (by decide) (by decide) (by decide) (by decide) ?_
        obtain ⟨r, r2, h1, h2, hI⟩ := hst.2.2.2.2.2.1 x ts t (xs (6 * j + 1)).toInt (xs (6 * j + 2)).toInt (R2_of _) (R2_of _) hIv
        exact lc_5 l hx hb hml hown ht hX hbl hbA hA hK hN hL x ts r t r2 hcs hlt hts hP hD hS hl h1 h2 (fun ax1 ps1 H locs a1 a2 a3 a4 a5 => J ax1 ps1 _ _ _ H locs hlt hI a1 a2 a3 a4 a5)
      by_cases e6 : k = 6
      · subst e6
        refine lv_tableIn (off := 353) (tgt := 386) hx hb dL_law_33 (by decide) (by decide) (by decide) (by decide) ?_
        obtain ⟨x1, r, t1, r2, h1, h2, hI⟩ := hst.2.2.2.2.2.2.1 x ts t (xs (6 * j + 1)).toInt (xs (6 * j + 2)).toInt (R2_of _) (R2_of _) hIv
        exact lc_6 l hx hb hml hown ht hX hbl hbA hA hK hN hL x x1 ts r t t1 r2 hcs hlt hts hP hD hS hl h1 h2 (fun ax1 ps1 H locs a1 a2 a3 a4 a5 => J ax1 ps1 _ _ _ H locs hlt hI a1 a2 a3 a4 a5)
      by_cases e7 : k = 7
      · subst e7
        refine lv_tableIn (off := 386) (tgt := 419) hx hb dL_law_33 (by decide) (by decide) (by decide) (by decide) ?_
        obtain ⟨r, r2, h1, h2, hI⟩ := hst.2.2.2.2.2.2.2.1 x ts t (xs (6 * j + 1)).toInt (xs (6 * j + 2)).toInt (R2_of _) (R2_of _) hIv
        exact lc_7 l hx hb hml hown ht hX hbl hbA hA hK hN hL x ts r t r2 hcs hlt hts hP hD hS hl h1 h2 (fun ax1 ps1 H locs a1 a2 a3 a4 a5 => J ax1 ps1 _ _ _ H locs hlt hI a1 a2 a3 a4 a5)
      by_cases e8 : k = 8
      · subst e8
        refine lv_tableIn (off := 419) (tgt := 452) hx hb dL_law_33 (by decide) (by decide) (by decide) (by decide) ?_
        obtain ⟨r, r2, h1, h2, hI⟩ := hst.2.2.2.2.2.2.2.2.1 x ts t (xs (6 * j + 1)).toInt (xs (6 * j + 2)).toInt (xs (6 * j + 3)).toInt (R2_of _) (R2_of _) (R2_of _) hIv
        exact lc_8 l hx hb hml hown ht hX hbl hbA hA hK hN hL x ts r t r2 hcs hlt hts hP hD hS hl h1 h2 (fun ax1 ps1 H locs a1 a2 a3 a4 a5 => J ax1 ps1 _ _ _ H locs hlt hI a1 a2 a3 a4 a5)
      by_cases e9 : k = 9
      · subst e9
        refine lv_tableIn (off := 462) (tgt := 495) hx hb dL_law_33 (by decide) (by decide) (by decide) (by decide) ?_
        obtain ⟨r, r2, h1, h2, hI⟩ := hst.2.2.2.2.2.2.2.2.2.1 x ts t (xs (6 * j + 1)).toInt (xs (6 * j + 2)).toInt (R2_of _) (R2_of _) hIv
        exact lc_9 l hx hb hml hown ht hX hbl hbA hA hK hN hL x ts r t r2 hcs hlt hts hP hD hS hl h1 h2 (fun ax1 ps1 H locs a1 a2 a3 a4 a5 => J ax1 ps1 _ _ _ H locs hlt hI a1 a2 a3 a4 a5)
      by_cases e10 : k = 10
      · subst e10
        refine lv_tableIn (off := 495) (tgt := 528) hx hb dL_law_33 (by decide) (by decide) (by decide) (by decide) ?_
        obtain ⟨r, r2, h1, h2, hI⟩ := hst.2.2.2.2.2.2.2.2.2.2.1 x ts t (xs (6 * j + 1)).toInt (xs (6 * j + 2)).toInt (R2_of _) (R2_of _) hIv
        exact lc_10 l hx hb hml hown ht hX hbl hbA hA hK hN hL x ts r t r2 hcs hlt hts hP hD hS hl h1 h2 (fun ax1 ps1 H locs a1 a2 a3 a4 a5 => J ax1 ps1 _ _ _ H locs hlt hI a1 a2 a3 a4 a5)
      by_cases e11 : k = 11
      · subst e11
        refine lv_tableIn (off := 528) (tgt := 561) hx hb dL_law_33 (by decide) (by decide) (by decide) (by decide) ?_
        obtain ⟨x1, r, t1, r2, h1, h2, hI⟩ := hst.2.2.2.2.2.2.2.2.2.2.2.1 x ts t (xs (6 * j + 1)).toInt (xs (6 * j + 2)).toInt (R2_of _) (R2_of _) hIv
        exact lc_11 l hx hb hml hown ht hX hbl hbA hA hK hN hL x x1 ts r t t1 r2 hcs hlt hts hP hD hS hl h1 h2 (fun ax1 ps1 H locs a1 a2 a3 a4 a5 => J ax1 ps1 _ _ _ H locs hlt hI a1 a2 a3 a4 a5)
      by_cases e12 : k = 12
      · subst e12
        refine lv_tableIn (off := 561) (tgt := 594) hx hb dL_law_33 (by decide) (by decide) (by decide) (by decide) ?_
        obtain ⟨x1, r, t1, r2, h1, h2, hI⟩ := hst.2.2.2.2.2.2.2.2.2.2.2.2.1 x ts t (xs (6 * j + 1)).toInt (xs (6 * j + 2)).toInt (xs (6 * j + 3)).toInt (R2_of _) (R2_of _) (R2_of _) hIv
        exact lc_12 l hx hb hml hown ht hX hbl hbA hA hK hN hL x x1 ts r t t1 r2 hcs hlt hts hP hD hS hl h1 h2 (fun ax1 ps1 H locs a1 a2 a3 a4 a5 => J ax1 ps1 _ _ _ H locs hlt hI a1 a2 a3 a4 a5)
      by_cases e13 : k = 13
      · subst e13
        refine lv_tableIn (off := 604) (tgt := 637) hx hb dL_law_33 (by decide) (by decide) (by decide) (by decide) ?_
        obtain ⟨r, r2, h1, h2, hI⟩ := hst.2.2.2.2.2.2.2.2.2.2.2.2.2.1 x ts t (xs (6 * j + 1)).toInt (xs (6 * j + 2)).toInt (xs (6 * j + 3)).toInt (R2_of _) (R2_of _) (R2_of _) hIv
        exact lc_13 l hx hb hml hown ht hX hbl hbA hA hK hN hL x ts r t r2 hcs hlt hts hP hD hS hl h1 h2 (fun ax1 ps1 H locs a1 a2 a3 a4 a5 => J ax1 ps1 _ _ _ H locs hlt hI a1 a2 a3 a4 a5)
      by_cases e14 : k = 14
      · subst e14
        refine lv_tableIn (off := 647) (tgt := 680) hx hb dL_law_33 (by decide) (by decide) (by decide) (by decide) ?_
        obtain ⟨x1, r, t1, r2, h1, h2, hI⟩ := hst.2.2.2.2.2.2.2.2.2.2.2.2.2.2.1 x ts t (xs (6 * j + 1)).toInt (xs (6 * j + 2)).toInt (R2_of _) (R2_of _) hIv
        exact lc_14 l hx hb hml hown ht hX hbl hbA hA hK hN hL x x1 ts r t t1 r2 hcs hlt hts hP hD hS hl h1 h2 (fun ax1 ps1 H locs a1 a2 a3 a4 a5 => J ax1 ps1 _ _ _ H locs hlt hI a1 a2 a3 a4 a5)
      by_cases e15 : k = 15
      · subst e15
        refine lv_tableIn (off := 680) (tgt := 713) hx hb dL_law_33 (by decide) (by decide) (by decide) (by decide) ?_
        obtain ⟨x1, r, r2, h1, h2, hI⟩ := hst.2.2.2.2.2.2.2.2.2.2.2.2.2.2.2.1 x ts t (xs (6 * j + 1)).toInt (xs (6 * j + 2)).toInt (xs (6 * j + 3)).toInt (R2_of _) (R2_of _) (R2_of _) hIv
        exact lc_15 l hx hb hml hown ht hX hbl hbA hA hK hN hL x x1 ts r t r2 hcs hlt hts hP hD hS hl h1 h2 (fun ax1 ps1 H locs a1 a2 a3 a4 a5 => J ax1 ps1 _ _ _ H locs hlt hI a1 a2 a3 a4 a5)
      by_cases e16 : k = 16
      · subst e16
        refine lv_tableIn (off := 723) (tgt := 756) hx hb dL_law_33 (by decide) (by decide) (by decide) (by decide) ?_
        obtain ⟨x1, r, t1, r2, h1, h2, hI⟩ := hst.2.2.2.2.2.2.2.2.2.2.2.2.2.2.2.2.1 x ts t (xs (6 * j + 1)).toInt (xs (6 * j + 2)).toInt (xs (6 * j + 3)).toInt (R2_of _) (R2_of _) (R2_of _) hIv
        exact lc_16 l hx hb hml hown ht hX hbl hbA hA hK hN hL x x1 ts r t t1 r2 hcs hlt hts hP hD hS hl h1 h2 (fun ax1 ps1 H locs a1 a2 a3 a4 a5 => J ax1 ps1 _ _ _ H locs hlt hI a1 a2 a3 a4 a5)
      by_cases e17 : k = 17
      · subst e17
        refine lv_tableIn (off := 766) (tgt := 799) hx hb dL_law_33 (by decide) (by decide) (by decide) (by decide) ?_
        obtain ⟨x1, r, t1, r2, h1, h2, hI⟩ := hst.2.2.2.2.2.2.2.2.2.2.2.2.2.2.2.2.2.1 x ts t (xs (6 * j + 1)).toInt (xs (6 * j + 2)).toInt (R2_of _) (R2_of _) hIv
        exact lc_17 l hx hb hml hown ht hX hbl hbA hA hK hN hL x x1 ts r t t1 r2 hcs hlt hts hP hD hS hl h1 h2 (fun ax1 ps1 H locs a1 a2 a3 a4 a5 => J ax1 ps1 _ _ _ H locs hlt hI a1 a2 a3 a4 a5)
      by_cases e18 : k = 18
      · subst e18
        refine lv_tableIn (off := 799) (tgt := 832) hx hb dL_law_33 (by decide) (by decide) (by decide) (by decide) ?_
        obtain ⟨x1, r, t1, r2, h1, h2, hI⟩ := hst.2.2.2.2.2.2.2.2.2.2.2.2.2.2.2.2.2.2.1 x ts t (xs (6 * j + 1)).toInt (R2_of _) hIv
        exact lc_18 l hx hb hml hown ht hX hbl hbA hA hK hN hL x x1 ts r t t1 r2 hcs hlt hts hP hD hS hl h1 h2 (fun ax1 ps1 H locs a1 a2 a3 a4 a5 => J ax1 ps1 _ _ _ H locs hlt hI a1 a2 a3 a4 a5)
      by_cases e19 : k = 19
      · subst e19
        refine lv_tableIn (off := 822) (tgt := 855) hx hb dL_law_33 (by decide) (by decide) (by decide) (by decide) ?_
        obtain ⟨x1, r, t1, r2, h1, h2, hI⟩ := hst.2.2.2.2.2.2.2.2.2.2.2.2.2.2.2.2.2.2.2.1 x ts t (xs (6 * j + 1)).toInt (R2_of _) hIv
        exact lc_19 l hx hb hml hown ht hX hbl hbA hA hK hN hL x x1 ts r t t1 r2 hcs hlt hts hP hD hS hl h1 h2 (fun ax1 ps1 H locs a1 a2 a3 a4 a5 => J ax1 ps1 _ _ _ H locs hlt hI a1 a2 a3 a4 a5)
      by_cases e20 : k = 20
      · subst e20
        refine lv_tableIn (off := 845) (tgt := 878) hx hb dL_law_33 (by decide) (by decide) (by decide) (by decide) ?_
        obtain ⟨x1, r, t1, r2, h1, h2, hI⟩ := hst.2.2.2.2.2.2.2.2.2.2.2.2.2.2.2.2.2.2.2.2.1 x ts t (xs (6 * j + 1)).toInt (R2_of _) hIv
        exact lc_20 l hx hb hml hown ht hX hbl hbA hA hK hN hL x x1 ts r t t1 r2 hcs hlt hts hP hD hS hl h1 h2 (fun ax1 ps1 H locs a1 a2 a3 a4 a5 => J ax1 ps1 _ _ _ H locs hlt hI a1 a2 a3 a4 a5)
      by_cases e21 : k = 21
      · subst e21
        refine lv_tableIn (off := 868) (tgt := 901) hx hb dL_law_33 (by decide) (by decide) (by decide) (by decide) ?_
        obtain ⟨r, r2, h1, h2, hI⟩ := hst.2.2.2.2.2.2.2.2.2.2.2.2.2.2.2.2.2.2.2.2.2.1 x ts t (xs (6 * j + 1)).toInt (R2_of _) hIv
        exact lc_21 l hx hb hml hown ht hX hbl hbA hA hK hN hL x ts r t r2 hcs hlt hts hP hD hS hl h1 h2 (fun ax1 ps1 H locs a1 a2 a3 a4 a5 => J ax1 ps1 _ _ _ H locs hlt hI a1 a2 a3 a4 a5)
      by_cases e22 : k = 22
      · subst e22
        refine lv_tableIn (off := 891) (tgt := 924) hx hb dL_law_33 (by decide) (by decide) (by decide) (by decide) ?_
        obtain ⟨x1, r, r2, h1, h2, hI⟩ := hst.2.2.2.2.2.2.2.2.2.2.2.2.2.2.2.2.2.2.2.2.2.2.1 x ts t (xs (6 * j + 1)).toInt (R2_of _) hIv
        exact lc_22 l hx hb hml hown ht hX hbl hbA hA hK hN hL x x1 ts r t r2 hcs hlt hts hP hD hS hl h1 h2 (fun ax1 ps1 H locs a1 a2 a3 a4 a5 => J ax1 ps1 _ _ _ H locs hlt hI a1 a2 a3 a4 a5)
      by_cases e23 : k = 23
      · subst e23
        refine lv_tableIn (off := 914) (tgt := 947) hx hb dL_law_33 (by decide) (by decide) (by decide) (by decide) ?_
        obtain ⟨x1, r, t1, r2, h1, h2, hI⟩ := hst.2.2.2.2.2.2.2.2.2.2.2.2.2.2.2.2.2.2.2.2.2.2.2.1 x ts t hIv
        exact lc_23 l hx hb hml hown ht hX hbl hbA hA hK hN hL x x1 ts r t t1 r2 hcs hlt hts hP hD hS hl h1 h2 (fun ax1 ps1 H locs a1 a2 a3 a4 a5 => J ax1 ps1 _ _ _ H locs hlt hI a1 a2 a3 a4 a5)
      by_cases e24 : k = 24
      · subst e24
        refine lv_tableIn (off := 927) (tgt := 960) hx hb dL_law_33 (by decide) (by decide) (by decide) (by decide) ?_
        obtain ⟨x1, r, r2, h1, h2, hI⟩ := hst.2.2.2.2.2.2.2.2.2.2.2.2.2.2.2.2.2.2.2.2.2.2.2.2.1 x ts t (xs (6 * j + 1)).toInt (R2_of _) hIv
        exact lc_24 l hx hb hml hown ht hX hbl hbA hA hK hN hL x x1 ts r t r2 hcs hlt hts hP hD hS hl h1 h2 (fun ax1 ps1 H locs a1 a2 a3 a4 a5 => J ax1 ps1 _ _ _ H locs hlt hI a1 a2 a3 a4 a5)
      by_cases e25 : k = 25
      · subst e25
        refine lv_tableIn (off := 950) (tgt := 983) hx hb dL_law_33 (by decide) (by decide) (by decide) (by decide) ?_
        obtain ⟨x1, r, r2, h1, h2, hI⟩ := hst.2.2.2.2.2.2.2.2.2.2.2.2.2.2.2.2.2.2.2.2.2.2.2.2.2.1 x ts t (xs (6 * j + 1)).toInt (R2_of _) hIv
        exact lc_25 l hx hb hml hown ht hX hbl hbA hA hK hN hL x x1 ts r t r2 hcs hlt hts hP hD hS hl h1 h2 (fun ax1 ps1 H locs a1 a2 a3 a4 a5 => J ax1 ps1 _ _ _ H locs hlt hI a1 a2 a3 a4 a5)
      by_cases e26 : k = 26
      · subst e26
        refine lv_tableIn (off := 973) (tgt := 1006) hx hb dL_law_33 (by decide) (by decide) (by decide) (by decide) ?_
        obtain ⟨x1, ts1, r, t1, r2, h1, h2, hI⟩ := hst.2.2.2.2.2.2.2.2.2.2.2.2.2.2.2.2.2.2.2.2.2.2.2.2.2.2.1 x ts t (xs (6 * j + 1)).toInt (xs (6 * j + 2)).toInt (xs (6 * j + 3)).toInt (R2_of _) (R2_of _) (R2_of _) hIv
        exact lc_26 l hx hb hml hown ht hX hbl hbA hA hK hN hL x x1 ts ts1 r t t1 r2 hcs hlt hts hP hD hS hl h1 h2 (fun ax1 ps1 H locs a1 a2 a3 a4 a5 => J ax1 ps1 _ _ _ H locs hlt hI a1 a2 a3 a4 a5)
      by_cases e27 : k = 27
      · subst e27
        refine lv_tableIn (off := 1016) (tgt := 1049) hx hb dL_law_33 (by decide) (by decide) (by decide) (by decide) ?_
        obtain ⟨x1, ts1, r, t1, r2, h1, h2, hq, hI⟩ := hst.2.2.2.2.2.2.2.2.2.2.2.2.2.2.2.2.2.2.2.2.2.2.2.2.2.2.2.1 x ts t (xs (6 * j + 1)).toInt (xs (6 * j + 2)).toInt (R2_of _) (R2_of _) hIv
        exact lc_27 l hx hb hml hown ht hX hbl hbA hA hK hN hL x x1 ts ts1 r t t1 r2 hcs hlt hts hP hD hS hl h1 h2 hq (fun ax1 ps1 H locs a1 a2 a3 a4 a5 => J ax1 ps1 _ _ _ H locs hlt hI a1 a2 a3 a4 a5)
      by_cases e28 : k = 28
      · subst e28
        refine lv_tableIn (off := 1049) (tgt := 1082) hx hb dL_law_33 (by decide) (by decide) (by decide) (by decide) ?_
        obtain ⟨x1, ts1, r, t1, r2, h1, h2, hI⟩ := hst.2.2.2.2.2.2.2.2.2.2.2.2.2.2.2.2.2.2.2.2.2.2.2.2.2.2.2.2.1 x ts t (xs (6 * j + 1)).toInt (R2_of _) hIv
        exact lc_28 l hx hb hml hown ht hX hbl hbA hA hK hN hL x x1 ts ts1 r t t1 r2 hcs hlt hts hP hD hS hl h1 h2 (fun ax1 ps1 H locs a1 a2 a3 a4 a5 => J ax1 ps1 _ _ _ H locs hlt hI a1 a2 a3 a4 a5)
      by_cases e29 : k = 29
      · subst e29
        refine lv_tableIn (off := 1072) (tgt := 1105) hx hb dL_law_33 (by decide) (by decide) (by decide) (by decide) ?_
        obtain ⟨x1, ts1, r, t1, r2, h1, h2, hI⟩ := hst.2.2.2.2.2.2.2.2.2.2.2.2.2.2.2.2.2.2.2.2.2.2.2.2.2.2.2.2.2.1 x ts t (xs (6 * j + 1)).toInt (R2_of _) hIv
        exact lc_29 l hx hb hml hown ht hX hbl hbA hA hK hN hL x x1 ts ts1 r t t1 r2 hcs hlt hts hP hD hS hl h1 h2 (fun ax1 ps1 H locs a1 a2 a3 a4 a5 => J ax1 ps1 _ _ _ H locs hlt hI a1 a2 a3 a4 a5)
      by_cases e30 : k = 30
      · subst e30
        refine lv_tableIn (off := 1095) (tgt := 1128) hx hb dL_law_33 (by decide) (by decide) (by decide) (by decide) ?_
        obtain ⟨x1, ts1, r, t1, r2, h1, h2, hI⟩ := hst.2.2.2.2.2.2.2.2.2.2.2.2.2.2.2.2.2.2.2.2.2.2.2.2.2.2.2.2.2.2.1 x ts t hIv
        exact lc_30 l hx hb hml hown ht hX hbl hbA hA hK hN hL x x1 ts ts1 r t t1 r2 hcs hlt hts hP hD hS hl h1 h2 (fun ax1 ps1 H locs a1 a2 a3 a4 a5 => J ax1 ps1 _ _ _ H locs hlt hI a1 a2 a3 a4 a5)
      by_cases e31 : k = 31
      · subst e31
        refine lv_tableIn (off := 1108) (tgt := 1141) hx hb dL_law_33 (by decide) (by decide) (by decide) (by decide) ?_
        obtain ⟨x1, ts1, r, t1, r2, h1, h2, hI⟩ := hst.2.2.2.2.2.2.2.2.2.2.2.2.2.2.2.2.2.2.2.2.2.2.2.2.2.2.2.2.2.2.2.1 x ts t hIv
        exact lc_31 l hx hb hml hown ht hX hbl hbA hA hK hN hL x x1 ts ts1 r t t1 r2 hcs hlt hts hP hD hS hl h1 h2 (fun ax1 ps1 H locs a1 a2 a3 a4 a5 => J ax1 ps1 _ _ _ H locs hlt hI a1 a2 a3 a4 a5)
      by_cases e32 : k = 32
      · subst e32
        refine lv_tableIn (off := 1121) (tgt := 1154) hx hb dL_law_33 (by decide) (by decide) (by decide) (by decide) ?_
        obtain ⟨x1, ts1, r, t1, r2, h1, h2, hI⟩ := hst.2.2.2.2.2.2.2.2.2.2.2.2.2.2.2.2.2.2.2.2.2.2.2.2.2.2.2.2.2.2.2.2.1 x ts t (xs (6 * j + 1)).toInt (R2_of _) hIv
        exact lc_32 l hx hb hml hown ht hX hbl hbA hA hK hN hL x x1 ts ts1 r t t1 r2 hcs hlt hts hP hD hS hl h1 h2 (fun ax1 ps1 H locs a1 a2 a3 a4 a5 => J ax1 ps1 _ _ _ H locs hlt hI a1 a2 a3 a4 a5)
      by_cases e33 : k = 33
      · subst e33
        refine lv_tableIn (off := 1144) (tgt := 1177) hx hb dL_law_33 (by decide) (by decide) (by decide) (by decide) ?_
        obtain ⟨x1, ts1, r, t1, r2, h1, h2, hI⟩ := hst.2.2.2.2.2.2.2.2.2.2.2.2.2.2.2.2.2.2.2.2.2.2.2.2.2.2.2.2.2.2.2.2.2.1 x ts t hIv
        exact lc_33 l hx hb hml hown ht hX hbl hbA hA hK hN hL x x1 ts ts1 r t t1 r2 hcs hlt hts hP hD hS hl h1 h2 (fun ax1 ps1 H locs a1 a2 a3 a4 a5 => J ax1 ps1 _ _ _ H locs hlt hI a1 a2 a3 a4 a5)
      by_cases e34 : k = 34
      · subst e34
        refine lv_tableIn (off := 1157) (tgt := 1190) hx hb dL_law_33 (by decide) (by decide) (by decide) (by decide) ?_
        obtain ⟨x1, r, t1, r2, h1, h2, hI⟩ := hst.2.2.2.2.2.2.2.2.2.2.2.2.2.2.2.2.2.2.2.2.2.2.2.2.2.2.2.2.2.2.2.2.2.2.1 x ts t (xs (6 * j + 1)).toInt (R2_of _) hIv
        exact lc_34 l hx hb hml hown ht hX hbl hbA hA hK hN hL x x1 ts r t t1 r2 hcs hlt hts hP hD hS hl h1 h2 (fun ax1 ps1 H locs a1 a2 a3 a4 a5 => J ax1 ps1 _ _ _ H locs hlt hI a1 a2 a3 a4 a5)
      by_cases e35 : k = 35
      · subst e35
        refine lv_tableIn (off := 1180) (tgt := 1213) hx hb dL_law_33 (by decide) (by decide) (by decide) (by decide) ?_
        obtain ⟨x1, r, t1, r2, h1, h2, hI⟩ := hst.2.2.2.2.2.2.2.2.2.2.2.2.2.2.2.2.2.2.2.2.2.2.2.2.2.2.2.2.2.2.2.2.2.2.2.1 x ts t hIv
        exact lc_35 l hx hb hml hown ht hX hbl hbA hA hK hN hL x x1 ts r t t1 r2 hcs hlt hts hP hD hS hl h1 h2 (fun ax1 ps1 H locs a1 a2 a3 a4 a5 => J ax1 ps1 _ _ _ H locs hlt hI a1 a2 a3 a4 a5)
      by_cases e36 : k = 36
      · subst e36
        refine lv_tableIn (off := 1193) (tgt := 1226) hx hb dL_law_33 (by decide) (by decide) (by decide) (by decide) ?_
        obtain ⟨x1, r, t1, r2, h1, h2, hI⟩ := hst.2.2.2.2.2.2.2.2.2.2.2.2.2.2.2.2.2.2.2.2.2.2.2.2.2.2.2.2.2.2.2.2.2.2.2.2.1 x ts t hIv
        exact lc_36 l hx hb hml hown ht hX hbl hbA hA hK hN hL x x1 ts r t t1 r2 hcs hlt hts hP hD hS hl h1 h2 (fun ax1 ps1 H locs a1 a2 a3 a4 a5 => J ax1 ps1 _ _ _ H locs hlt hI a1 a2 a3 a4 a5)
      by_cases e37 : k = 37
      · subst e37
        refine lv_tableIn (off := 1206) (tgt := 1239) hx hb dL_law_33 (by decide) (by decide) (by decide) (by decide) ?_
        obtain ⟨r, r2, h1, h2, hI⟩ := hst.2.2.2.2.2.2.2.2.2.2.2.2.2.2.2.2.2.2.2.2.2.2.2.2.2.2.2.2.2.2.2.2.2.2.2.2.2.1 x ts t (xs (6 * j + 1)).toInt (R2_of _) hIv
        exact lc_37 l hx hb hml hown ht hX hbl hbA hA hK hN hL x ts r t r2 hcs hlt hts hP hD hS hl h1 h2 (fun ax1 ps1 H locs a1 a2 a3 a4 a5 => J ax1 ps1 _ _ _ H locs hlt hI a1 a2 a3 a4 a5)
      by_cases e38 : k = 38
      · subst e38
        refine lv_tableIn (off := 1229) (tgt := 1262) hx hb dL_law_33 (by decide) (by decide) (by decide) (by decide) ?_
        obtain ⟨x1, r, t1, r2, h1, h2, hI⟩ := hst.2.2.2.2.2.2.2.2.2.2.2.2.2.2.2.2.2.2.2.2.2.2.2.2.2.2.2.2.2.2.2.2.2.2.2.2.2.2.1 x ts t hIv
        exact lc_38 l hx hb hml hown ht hX hbl hbA hA hK hN hL x x1 ts r t t1 r2 hcs hlt hts hP hD hS hl h1 h2 (fun ax1 ps1 H locs a1 a2 a3 a4 a5 => J ax1 ps1 _ _ _ H locs hlt hI a1 a2 a3 a4 a5)
      by_cases e39 : k = 39
      · subst e39
        refine lv_tableIn (off := 1242) (tgt := 1275) hx hb dL_law_33 (by decide) (by decide) (by decide) (by decide) ?_
        obtain ⟨r, r2, h1, h2, hI⟩ := hst.2.2.2.2.2.2.2.2.2.2.2.2.2.2.2.2.2.2.2.2.2.2.2.2.2.2.2.2.2.2.2.2.2.2.2.2.2.2.2 x ts t (xs (6 * j + 1)).toInt (R2_of _) hIv
        exact lc_39 l hx hb hml hown ht hX hbl hbA hA hK hN hL x ts r t r2 hcs hlt hts hP hD hS hl h1 h2 (fun ax1 ps1 H locs a1 a2 a3 a4 a5 => J ax1 ps1 _ _ _ H locs hlt hI a1 a2 a3 a4 a5)
      have g0 := lv_neT (a := 0) e0 (by decide)
      have g1 := lv_neT (a := 1) e1 (by decide)
      have g2 := lv_neT (a := 2) e2 (by decide)
      have g3 := lv_neT (a := 3) e3 (by decide)
      have g4 := lv_neT (a := 4) e4 (by decide)
      have g5 := lv_neT (a := 5) e5 (by decide)
      have g6 := lv_neT (a := 6) e6 (by decide)
      have g7 := lv_neT (a := 7) e7 (by decide)
      have g8 := lv_neT (a := 8) e8 (by decide)
      have g9 := lv_neT (a := 9) e9 (by decide)
      have g10 := lv_neT (a := 10) e10 (by decide)
      have g11 := lv_neT (a := 11) e11 (by decide)
      have g12 := lv_neT (a := 12) e12 (by decide)
      have g13 := lv_neT (a := 13) e13 (by decide)
      have g14 := lv_neT (a := 14) e14 (by decide)
      have g15 := lv_neT (a := 15) e15 (by decide)
      have g16 := lv_neT (a := 16) e16 (by decide)
      have g17 := lv_neT (a := 17) e17 (by decide)
      have g18 := lv_neT (a := 18) e18 (by decide)
      have g19 := lv_neT (a := 19) e19 (by decide)
      have g20 := lv_neT (a := 20) e20 (by decide)
      have g21 := lv_neT (a := 21) e21 (by decide)
      have g22 := lv_neT (a := 22) e22 (by decide)
      have g23 := lv_neT (a := 23) e23 (by decide)
      have g24 := lv_neT (a := 24) e24 (by decide)
      have g25 := lv_neT (a := 25) e25 (by decide)
      have g26 := lv_neT (a := 26) e26 (by decide)
      have g27 := lv_neT (a := 27) e27 (by decide)
      have g28 := lv_neT (a := 28) e28 (by decide)
      have g29 := lv_neT (a := 29) e29 (by decide)
      have g30 := lv_neT (a := 30) e30 (by decide)
      have g31 := lv_neT (a := 31) e31 (by decide)
      have g32 := lv_neT (a := 32) e32 (by decide)
      have g33 := lv_neT (a := 33) e33 (by decide)
      have g34 := lv_neT (a := 34) e34 (by decide)
      have g35 := lv_neT (a := 35) e35 (by decide)
      have g36 := lv_neT (a := 36) e36 (by decide)
      have g37 := lv_neT (a := 37) e37 (by decide)
      have g38 := lv_neT (a := 38) e38 (by decide)
      have g39 := lv_neT (a := 39) e39 (by decide)
      refine lv_tableOut (tgt := 1298) hx hb dL_law_33 (by omega) (by decide) ?_
      refine W.widen (k := 164 + 9 * j + 9) (n := 46440 + 795 * j + 795) (by omega) (by omega) ?_
      exact J ax ps ts x t H locs hlt hIv rfl hts hP hD hS
theorem gA_nf (s : MS) (k j : Nat) : i2 (gA (nfS s) k j) = i2 (gA s k j) := i2_of _
theorem gI_nf (s : MS) (k : Nat) : gI (nfS s) k = gI s k := rfl
theorem gB_nf (s : MS) (k j : Nat) : gB (nfS s) k j = gB s k j := rfl
theorem gL_nf (s : MS) (k : Nat) : gL (nfS s) k = gL s k := rfl
set_option maxHeartbeats 4000000 in
set_option maxRecDepth 100000 in
theorem XW_nf {D : va_G} {a : Nat → Nat} {s : MS} {ps : List ((Nat → Nat) × MS)} : XW D a (nfS s) ps = XW D a s ps := by
  unfold XW CS CW
  simp only [gA_nf, gI_nf, gB_nf, gL_nf]
theorem z_ao {s : State} (h : va_AO "CloneVolumes$State" s) : ∃ cA : ClassId, ArrOfT s cA (.object "CloneVolumes$State") ∧ va_RA s cA (.object "CloneVolumes$State") := by
  obtain ⟨comp, cA, kA, h1, h2, h3, h4, h5⟩ := Cond.arrayOver_spec h
  exact ⟨cA, fun n z => ⟨fun k h => (by cases h), kA, h3, comp, h4⟩, kA, comp, h3, h4, h1, h5⟩
set_option maxHeartbeats 4000000 in
set_option maxRecDepth 100000 in
theorem whole_open {p : Program} {e : Env} {s : State} {m : MethodId} {below : List Frame} {meth : Method} {c : Code} (l : Launch) {b L : Nat} {xs : Nat → Int32} (hL : L ≤ 3072) (Iv : MS → List MS → MS → Prop) (hst : LSt Iv) (hi0 : ∀ fw fb1 fe1 fb2 fe2 : Nat → Int, fw = (fun j => (zw (zByt.getD j 0)).toInt) → Iv (nfS (cw0 fw fb1 fe1 fb2 fe2)) [] rw0) (C0 : lw_At p s m meth c b L xs) : W p l e room_1 s m #[Value.ref b] below meth c s.heap [] 0 0 (lw_Z below #[Value.ref b] s) (entryFrame m ([Value.ref b] : List Value).toArray 4) := by
  obtain ⟨hx, hb, hr, hml, hown, hts, hX, hbl, hlocks, hgv⟩ := id C0
  have hb : c.code = cL_law := hb
  have hown : s.vm.findClass RL = some m.cls := hown
  have ht : ∀ w ∈ lw_gd, w.before #[Value.ref b] s = true := fun w h => hts w (lw_gd_in h)
  obtain ⟨A, hAe⟩ : ∃ A : Nat → Prop, A = fun q : Nat => s.heap.size ≤ q := ⟨_, rfl⟩
  have hA : ∀ q : Nat, s.heap.size ≤ q → A q := fun q h => by rw [hAe]; exact h
  have hAs : ∀ q : Nat, A q → s.heap.size ≤ q := fun q h => by rw [hAe] at h; exact h
  have hbA : ¬ A b := fun h => absurd (hAs b h) (Nat.not_le.mpr hbl)
  obtain ⟨qS, vS, hE⟩ := z_start hts hgv
  have hN : NN s := va_Nw.of rfl (hts _ (List.mem_of_getElem? (i := 1510) (by decide +kernel)))
  obtain ⟨c0, iS0, hKn0⟩ := u_known (C := RX0) (T := TX0) (N := 2) (n := 2) ht inX0 (ht _ ia_X0)
  obtain ⟨c1, iS1, hKn1⟩ := u_known (C := RX1) (T := TX1) (N := 9) (n := 9) ht inX1 (ht _ ia_X1)
  obtain ⟨c2, iS2, hKn2⟩ := u_known (C := RX2) (T := TX2) (N := 6) (n := 6) ht inX2 (ht _ ia_X2)
  obtain ⟨c3, iS3, hKn3⟩ := u_known (C := RX3) (T := TX3) (N := 10) (n := 10) ht inX3 (ht _ ia_X3)
  obtain ⟨c4, iS4, hKn4⟩ := u_known (C := RX4) (T := TX4) (N := 6) (n := 6) ht inX4 (ht _ ia_X4)
  obtain ⟨c5, iS5, hKn5⟩ := u_known (C := RX5) (T := TX5) (N := 14) (n := 14) ht inX5 (ht _ ia_X5)
  obtain ⟨c6, iS6, hKn6⟩ := u_known (C := RX6) (T := TX6) (N := 12) (n := 12) ht inX6 (ht _ ia_X6)
  obtain ⟨c7, iS7, hKn7⟩ := u_known (C := RX7) (T := TX7) (N := 6) (n := 6) ht inX7 (ht _ ia_X7)
  obtain ⟨c8, iS8, hKn8⟩ := u_known (C := RX8) (T := TX8) (N := 11) (n := 11) ht inX8 (ht _ ia_X8)
  obtain ⟨c9, iS9, hKn9⟩ := u_known (C := RX9) (T := TX9) (N := 2) (n := 2) ht inX9 (ht _ ia_X9)
  obtain ⟨c10, iS10, hKn10⟩ := u_known (C := RX10) (T := TX10) (N := 4) (n := 4) ht inX10 (ht _ ia_X10)
  obtain ⟨c11, iS11, hKn11⟩ := u_known (C := RX11) (T := TX11) (N := 13) (n := 13) ht inX11 (ht _ ia_X11)
  obtain ⟨c12, iS12, hKn12⟩ := u_known (C := RX12) (T := TX12) (N := 116) (n := 116) ht inX12 (ht _ ia_X12)
  obtain ⟨cA0, hAr0, hAn0⟩ := z_arr (ht _ ac_int)
  obtain ⟨cA1, hAr1, hAn1⟩ := z_arr (ht _ ac_char)
  obtain ⟨cA2, hAr2, hAn2⟩ := z_arr (ht _ ac_long)
  obtain ⟨cA3, hAr3, hAn3⟩ := z_arr (ht _ ac_boolean)
  obtain ⟨cA4, hAr4, hAn4⟩ := z_ao hE.1.2.2.2.2.2.2.1
  obtain ⟨D, d0, d1, d2, d3, d4, d5, d6, d7, d8, d9, d10, d11, d12, d13, d14, d15, d16, d17, j0, j1, j2, j3, j4, j5, j6, j7, j8, j9, j10, j11, j12⟩ : ∃ D : va_G, D.1 0 = c0 ∧ D.1 1 = c1 ∧ D.1 2 = c2 ∧ D.1 3 = c3 ∧ D.1 4 = c4 ∧ D.1 5 = c5 ∧ D.1 6 = c6 ∧ D.1 7 = c7 ∧ D.1 8 = c8 ∧ D.1 9 = c9 ∧ D.1 10 = c10 ∧ D.1 11 = c11 ∧ D.1 12 = c12 ∧ D.1 13 = cA0 ∧ D.1 14 = cA1 ∧ D.1 15 = cA2 ∧ D.1 16 = cA3 ∧ D.1 17 = cA4 ∧ D.2 0 = iS0 ∧ D.2 1 = iS1 ∧ D.2 2 = iS2 ∧ D.2 3 = iS3 ∧ D.2 4 = iS4 ∧ D.2 5 = iS5 ∧ D.2 6 = iS6 ∧ D.2 7 = iS7 ∧ D.2 8 = iS8 ∧ D.2 9 = iS9 ∧ D.2 10 = iS10 ∧ D.2 11 = iS11 ∧ D.2 12 = iS12 := ⟨(fun k => (c0 :: c1 :: c2 :: c3 :: c4 :: c5 :: c6 :: c7 :: c8 :: c9 :: c10 :: c11 :: c12 :: cA0 :: cA1 :: cA2 :: cA3 :: cA4 :: [] : List ClassId).getD k c0, fun k => (iS0 :: iS1 :: iS2 :: iS3 :: iS4 :: iS5 :: iS6 :: iS7 :: iS8 :: iS9 :: iS10 :: iS11 :: iS12 :: [] : List (Nat → Nat)).getD k iS0), rfl, rfl, rfl, rfl, rfl, rfl, rfl, rfl, rfl, rfl, rfl, rfl, rfl, rfl, rfl, rfl, rfl, rfl, rfl, rfl, rfl, rfl, rfl, rfl, rfl, rfl, rfl, rfl, rfl, rfl, rfl⟩
  subst d0
  subst d1
  subst d2
  subst d3
  subst d4
  subst d5
  subst d6
  subst d7
  subst d8
  subst d9
  subst d10
  subst d11
  subst d12
  subst d13
  subst d14
  subst d15
  subst d16
  subst d17
  subst j0
  subst j1
  subst j2
  subst j3
  subst j4
  subst j5
  subst j6
  subst j7
  subst j8
  subst j9
  subst j10
  subst j11
  subst j12
  have hK : va_K D vwCl (TY D) s := by
    refine ⟨fun k q hq => ?_, fun k q hq => ?_⟩
    · match k, hq with
      | 0, hq => cases hq; exact hKn0
      | 1, hq => cases hq; exact hKn1
      | 2, hq => cases hq; exact hKn2
      | 3, hq => cases hq; exact hKn3
      | 4, hq => cases hq; exact hKn4
      | 5, hq => cases hq; exact hKn5
      | 6, hq => cases hq; exact hKn6
      | 7, hq => cases hq; exact hKn7
      | 8, hq => cases hq; exact hKn8
      | 9, hq => cases hq; exact hKn9
      | 10, hq => cases hq; exact hKn10
      | 11, hq => cases hq; exact hKn11
      | 12, hq => cases hq; exact hKn12
      | k + 13, hq => simp at hq
    · match k, hq with
      | 0, hq => cases hq; exact ⟨hAr0, hAn0⟩
      | 1, hq => cases hq; exact ⟨hAr1, hAn1⟩
      | 2, hq => cases hq; exact ⟨hAr2, hAn2⟩
      | 3, hq => cases hq; exact ⟨hAr3, hAn3⟩
      | 4, hq => cases hq; exact ⟨hAr4, hAn4⟩
      | k + 5, hq => simp at hq
  have hS : va_S A s.heap s.heap [] := va_S.rf
  have hP : va_P D vwCl [] s.heap := fun k q h => by simp at h
  have hD : va_D A [] := ⟨fun i j p q h => by simp at h, fun k q h => by simp at h⟩
  have hl := lv_entry ([.ref b]) (n := 4) (Nat.le_of_ble_eq_true rfl)
  rw [lg_entry_eq]
  generalize (lg_sl ([.ref b]) ++ List.replicate (4 - (lg_sl ([.ref b])).length) Slot.unset).toArray = ls at hl ⊢
  have hl : lv_has ls 4 [(0, .ref b)] := hl
  refine va_new (ci := 11) (fs := [.null, .null, .null, .null, .null, .null, .null, .null, .null, .null, .null, .null, .int 0]) (C := RX11) (T := TX11) (N := 13) hx hb ht inX11 tyX11 tyX11_ok hown (ht _ cx_L_7) (ht _ ia_X11) (ht _ in_X11) hK hP hD hS hA rfl (by decide +kernel) (Nat.le_of_ble_eq_true rfl) (Nat.le_of_ble_eq_true rfl) dL_law_0 (fun q0 H hP hD hS => ?_)
  refine W.widen (k := 1) (n := 13) (Nat.le_of_ble_eq_true rfl) (Nat.le_of_ble_eq_true rfl) ?_
  refine lv_dup hx hb dL_law_3 rfl ?_
  have hP : va_P D vwCl [(q0, .inr (11, [.null, .null, .null, .null, .null, .null, .null, .null, .null, .null, .null, .null, .int 0]))] H := hP
  have hD : va_D A [(q0, .inr (11, [.null, .null, .null, .null, .null, .null, .null, .null, .null, .null, .null, .null, .int 0]))] := hD
  refine zwIE (As := []) (rest := [.ref q0]) (n := 0) (wr := []) ⟨hx, hb, hml, hown, ht⟩ (k_X11_init l D _ s.heap.size qS vS (fun j => zByt.getD j 0) q0) co_X11_init rfl rfl in_X11 ml_L_9 im_X11_init rfl (by decide +kernel) ⟨Nat.le_of_ble_eq_true rfl, Nat.le_of_ble_eq_true rfl⟩ hK hP hD hS hA hE hAs [0] [] rfl rfl rfl rfl (by decide) rfl hl.1 rfl (Nat.le_of_ble_eq_true rfl) dL_law_4 ⟨Nat.le_of_ble_eq_true rfl, Nat.le_of_ble_eq_true rfl⟩ (fun u H locs hw hP2 hD2 hS => ?_)
  refine W.widen (k := 83) (n := 11274) (Nat.le_of_ble_eq_true rfl) (Nat.le_of_ble_eq_true rfl) ?_
  obtain ⟨ax, fw, fb1, fe1, fb2, fe2⟩ := u
  obtain ⟨hw, hfw⟩ : ax 0 = q0 ∧ fw = fun j => (zw (zByt.getD j 0)).toInt := hw
  subst hw
  clear hP hD
  have hP : va_P D vwCl (XW D ax (cw0 fw fb1 fe1 fb2 fe2) []) H := hP2
  have hD : va_D A (XW D ax (cw0 fw fb1 fe1 fb2 fe2) []) := hD2
  clear hP2 hD2
  rw [← XW_nf] at hP hD
  generalize hx0 : nfS (cw0 fw fb1 fe1 fb2 fe2) = x0 at hP hD
  refine lv_astore_n (lv' := [(1, .ref (ax 0)), (0, .ref b)]) hx hb dL_law_7 rfl hl (by decide) rfl (fun ls hl => ?_)
  refine va_new (ci := 12) (fs := mD) (C := RX12) (T := TX12) (N := 116) hx hb ht inX12 tyX12 tyX12_ok hown (ht _ cx_L_10) (ht _ ia_X12) (ht _ in_X12) hK hP hD hS hA rfl (by decide +kernel) (Nat.le_of_ble_eq_true rfl) (Nat.le_of_ble_eq_true rfl) dL_law_8 (fun q1 H hP hD hS => ?_)
  refine W.widen (k := 84) (n := 11390) (Nat.le_of_ble_eq_true rfl) (Nat.le_of_ble_eq_true rfl) ?_
  refine lv_dup hx hb dL_law_11 rfl ?_
  obtain ⟨hP, hD⟩ := z_rot2 hP hD
  refine zwI (As := []) (rest := [.ref q1]) (n := 0) (wr := XW D ax x0 []) ⟨hx, hb, hml, hown, ht⟩ (k_X12_init l D _ q1) co_X12_init rfl rfl in_X12 ml_L_12 im_X12_init rfl (by decide +kernel) ⟨Nat.le_of_ble_eq_true rfl, Nat.le_of_ble_eq_true rfl⟩ hK hP hD hS hA [0] (irl _) rfl irl_map rfl irl_nd irl_dis rfl hl.1 rfl (Nat.le_of_ble_eq_true rfl) dL_law_12 ⟨Nat.le_of_ble_eq_true rfl, Nat.le_of_ble_eq_true rfl⟩ (fun am H locs hw hP2 hD2 hS => ?_)
  refine W.widen (k := 164) (n := 46440) (Nat.le_of_ble_eq_true rfl) (Nat.le_of_ble_eq_true rfl) ?_
  have hw : am 200 = q1 := hw
  subst hw
  clear hP hD
  have hP : va_P D vwCl (XW D ax x0 [] ++ RW D am rw0) H := hP2
  have hD : va_D A (XW D ax x0 [] ++ RW D am rw0) := hD2
  clear hP2 hD2
  refine lv_astore_n (lv' := [(2, .ref (am 200)), (1, .ref (ax 0)), (0, .ref b)]) hx hb dL_law_15 rfl hl (by decide) rfl (fun ls hl => ?_)
  refine lv_iconst (v := 0) hx hb dL_law_16 (by decide) ?_
  refine lv_istore_n (lv' := [(3, .int 0), (2, .ref (am 200)), (1, .ref (ax 0)), (0, .ref b)]) hx hb dL_law_17 rfl hl (by decide) rfl (fun ls hl => ?_)
  exact law_go l hx hb hml hown ht hX hbl hbA hA hK hN hL hr hlocks hAs Iv hst (L + 1) 0 (by omega) (by omega) ax am [] [] x0 rw0 H locs ls (by rw [← hx0]; exact hi0 _ _ _ _ _ hfw) rfl hP hD hS hl
