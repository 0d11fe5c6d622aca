theorem ml_L_13 : Cond.methodLink RL 13 yX11_feed ∈ lw_gd := zm (List.mem_of_getElem? (i := 740) (by decide +kernel)) rfl
theorem im_X11_feed : Cond.instanceMethod yX11_feed ∈ lw_gd := zm (List.mem_of_getElem? (i := 741) (by decide +kernel)) rfl
theorem se_X11_feed : Cond.selects RX11 yX11_feed yX11_feed ∈ lw_gd := zm (List.mem_of_getElem? (i := 742) (by decide +kernel)) rfl
theorem co_X11_feed : Cond.code yX11_feed cX11_feed 6 (some .int) ∈ lw_gd := zm (List.mem_of_getElem? (i := 743) (by decide +kernel)) rfl
theorem ml_L_17 : Cond.methodLink RL 17 yX12_feed ∈ lw_gd := zm (List.mem_of_getElem? (i := 1888) (by decide +kernel)) rfl
theorem im_X12_feed : Cond.instanceMethod yX12_feed ∈ lw_gd := zm (List.mem_of_getElem? (i := 1889) (by decide +kernel)) rfl
theorem se_X12_feed : Cond.selects RX12 yX12_feed yX12_feed ∈ lw_gd := zm (List.mem_of_getElem? (i := 1890) (by decide +kernel)) rfl
theorem co_X12_feed : Cond.code yX12_feed cX12_feed 8 (some .int) ∈ lw_gd := zm (List.mem_of_getElem? (i := 1891) (by decide +kernel)) rfl
theorem ml_L_18 : Cond.methodLink RL 18 yX11_end ∈ lw_gd := zm (List.mem_of_getElem? (i := 756) (by decide +kernel)) rfl
theorem im_X11_end : Cond.instanceMethod yX11_end ∈ lw_gd := zm (List.mem_of_getElem? (i := 757) (by decide +kernel)) rfl
theorem se_X11_end : Cond.selects RX11 yX11_end yX11_end ∈ lw_gd := zm (List.mem_of_getElem? (i := 758) (by decide +kernel)) rfl
theorem co_X11_end : Cond.code yX11_end cX11_end 2 (some .boolean) ∈ lw_gd := zm (List.mem_of_getElem? (i := 759) (by decide +kernel)) rfl
theorem ml_L_22 : Cond.methodLink RL 22 yX12_end ∈ lw_gd := zm (List.mem_of_getElem? (i := 1892) (by decide +kernel)) rfl
theorem im_X12_end : Cond.instanceMethod yX12_end ∈ lw_gd := zm (List.mem_of_getElem? (i := 1893) (by decide +kernel)) rfl
theorem se_X12_end : Cond.selects RX12 yX12_end yX12_end ∈ lw_gd := zm (List.mem_of_getElem? (i := 1894) (by decide +kernel)) rfl
theorem co_X12_end : Cond.code yX12_end cX12_end 2 (some .boolean) ∈ lw_gd := zm (List.mem_of_getElem? (i := 1895) (by decide +kernel)) rfl
theorem ml_L_23 : Cond.methodLink RL 23 yX11_store ∈ lw_gd := zm (List.mem_of_getElem? (i := 760) (by decide +kernel)) rfl
theorem im_X11_store : Cond.instanceMethod yX11_store ∈ lw_gd := zm (List.mem_of_getElem? (i := 761) (by decide +kernel)) rfl
theorem se_X11_store : Cond.selects RX11 yX11_store yX11_store ∈ lw_gd := zm (List.mem_of_getElem? (i := 762) (by decide +kernel)) rfl
theorem co_X11_store : Cond.code yX11_store cX11_store 3 (some .int) ∈ lw_gd := zm (List.mem_of_getElem? (i := 763) (by decide +kernel)) rfl
theorem ml_L_27 : Cond.methodLink RL 27 yX12_store ∈ lw_gd := zm (List.mem_of_getElem? (i := 1896) (by decide +kernel)) rfl
theorem im_X12_store : Cond.instanceMethod yX12_store ∈ lw_gd := zm (List.mem_of_getElem? (i := 1897) (by decide +kernel)) rfl
theorem se_X12_store : Cond.selects RX12 yX12_store yX12_store ∈ lw_gd := zm (List.mem_of_getElem? (i := 1898) (by decide +kernel)) rfl
theorem co_X12_store : Cond.code yX12_store cX12_store 2 (some .int) ∈ lw_gd := zm (List.mem_of_getElem? (i := 1899) (by decide +kernel)) rfl
theorem ml_L_28 : Cond.methodLink RL 28 yX11_fault ∈ lw_gd := zm (List.mem_of_getElem? (i := 1071) (by decide +kernel)) rfl
theorem im_X11_fault : Cond.instanceMethod yX11_fault ∈ lw_gd := zm (List.mem_of_getElem? (i := 1072) (by decide +kernel)) rfl
theorem se_X11_fault : Cond.selects RX11 yX11_fault yX11_fault ∈ lw_gd := zm (List.mem_of_getElem? (i := 1073) (by decide +kernel)) rfl
theorem co_X11_fault : Cond.code yX11_fault cX11_fault 2 (some .int) ∈ lw_gd := zm (List.mem_of_getElem? (i := 1074) (by decide +kernel)) rfl
theorem ml_L_32 : Cond.methodLink RL 32 yX12_fault ∈ lw_gd := zm (List.mem_of_getElem? (i := 2234) (by decide +kernel)) rfl
theorem im_X12_fault : Cond.instanceMethod yX12_fault ∈ lw_gd := zm (List.mem_of_getElem? (i := 2235) (by decide +kernel)) rfl
theorem se_X12_fault : Cond.selects RX12 yX12_fault yX12_fault ∈ lw_gd := zm (List.mem_of_getElem? (i := 2236) (by decide +kernel)) rfl
theorem co_X12_fault : Cond.code yX12_fault cX12_fault 2 (some .int) ∈ lw_gd := zm (List.mem_of_getElem? (i := 2237) (by decide +kernel)) rfl
theorem ml_L_33 : Cond.methodLink RL 33 yX11_has ∈ lw_gd := zm (List.mem_of_getElem? (i := 1075) (by decide +kernel)) rfl
theorem im_X11_has : Cond.instanceMethod yX11_has ∈ lw_gd := zm (List.mem_of_getElem? (i := 1076) (by decide +kernel)) rfl
theorem se_X11_has : Cond.selects RX11 yX11_has yX11_has ∈ lw_gd := zm (List.mem_of_getElem? (i := 1077) (by decide +kernel)) rfl
theorem co_X11_has : Cond.code yX11_has cX11_has 3 (some .int) ∈ lw_gd := zm (List.mem_of_getElem? (i := 1078) (by decide +kernel)) rfl
theorem ml_L_36 : Cond.methodLink RL 36 yX12_has ∈ lw_gd := zm (List.mem_of_getElem? (i := 2238) (by decide +kernel)) rfl
theorem im_X12_has : Cond.instanceMethod yX12_has ∈ lw_gd := zm (List.mem_of_getElem? (i := 2239) (by decide +kernel)) rfl
theorem se_X12_has : Cond.selects RX12 yX12_has yX12_has ∈ lw_gd := zm (List.mem_of_getElem? (i := 2240) (by decide +kernel)) rfl
theorem co_X12_has : Cond.code yX12_has cX12_has 2 (some .int) ∈ lw_gd := zm (List.mem_of_getElem? (i := 2241) (by decide +kernel)) rfl
theorem ml_L_37 : Cond.methodLink RL 37 yX11_letter ∈ lw_gd := zm (List.mem_of_getElem? (i := 1106) (by decide +kernel)) rfl
theorem im_X11_letter : Cond.instanceMethod yX11_letter ∈ lw_gd := zm (List.mem_of_getElem? (i := 1107) (by decide +kernel)) rfl
theorem se_X11_letter : Cond.selects RX11 yX11_letter yX11_letter ∈ lw_gd := zm (List.mem_of_getElem? (i := 1108) (by decide +kernel)) rfl
theorem co_X11_letter : Cond.code yX11_letter cX11_letter 3 (some .int) ∈ lw_gd := zm (List.mem_of_getElem? (i := 1109) (by decide +kernel)) rfl
theorem ml_L_41 : Cond.methodLink RL 41 yX12_letter ∈ lw_gd := zm (List.mem_of_getElem? (i := 2267) (by decide +kernel)) rfl
theorem im_X12_letter : Cond.instanceMethod yX12_letter ∈ lw_gd := zm (List.mem_of_getElem? (i := 2268) (by decide +kernel)) rfl
theorem se_X12_letter : Cond.selects RX12 yX12_letter yX12_letter ∈ lw_gd := zm (List.mem_of_getElem? (i := 2269) (by decide +kernel)) rfl
theorem co_X12_letter : Cond.code yX12_letter cX12_letter 8 (some .int) ∈ lw_gd := zm (List.mem_of_getElem? (i := 2270) (by decide +kernel)) rfl
theorem ml_L_42 : Cond.methodLink RL 42 yX11_volume ∈ lw_gd := zm (List.mem_of_getElem? (i := 1110) (by decide +kernel)) rfl
theorem im_X11_volume : Cond.instanceMethod yX11_volume ∈ lw_gd := zm (List.mem_of_getElem? (i := 1111) (by decide +kernel)) rfl
theorem se_X11_volume : Cond.selects RX11 yX11_volume yX11_volume ∈ lw_gd := zm (List.mem_of_getElem? (i := 1112) (by decide +kernel)) rfl
theorem co_X11_volume : Cond.code yX11_volume cX11_volume 5 (some .int) ∈ lw_gd := zm (List.mem_of_getElem? (i := 1113) (by decide +kernel)) rfl
theorem ml_L_45 : Cond.methodLink RL 45 yX12_volume ∈ lw_gd := zm (List.mem_of_getElem? (i := 2272) (by decide +kernel)) rfl
theorem im_X12_volume : Cond.instanceMethod yX12_volume ∈ lw_gd := zm (List.mem_of_getElem? (i := 2273) (by decide +kernel)) rfl
theorem se_X12_volume : Cond.selects RX12 yX12_volume yX12_volume ∈ lw_gd := zm (List.mem_of_getElem? (i := 2274) (by decide +kernel)) rfl
theorem co_X12_volume : Cond.code yX12_volume cX12_volume 4 (some .int) ∈ lw_gd := zm (List.mem_of_getElem? (i := 2275) (by decide +kernel)) rfl
theorem ml_L_46 : Cond.methodLink RL 46 yX11_block ∈ lw_gd := zm (List.mem_of_getElem? (i := 1135) (by decide +kernel)) rfl
theorem im_X11_block : Cond.instanceMethod yX11_block ∈ lw_gd := zm (List.mem_of_getElem? (i := 1136) (by decide +kernel)) rfl
theorem se_X11_block : Cond.selects RX11 yX11_block yX11_block ∈ lw_gd := zm (List.mem_of_getElem? (i := 1137) (by decide +kernel)) rfl
theorem co_X11_block : Cond.code yX11_block cX11_block 4 (some .int) ∈ lw_gd := zm (List.mem_of_getElem? (i := 1138) (by decide +kernel)) rfl
theorem ml_L_49 : Cond.methodLink RL 49 yX12_block ∈ lw_gd := zm (List.mem_of_getElem? (i := 2304) (by decide +kernel)) rfl
theorem im_X12_block : Cond.instanceMethod yX12_block ∈ lw_gd := zm (List.mem_of_getElem? (i := 2305) (by decide +kernel)) rfl
theorem se_X12_block : Cond.selects RX12 yX12_block yX12_block ∈ lw_gd := zm (List.mem_of_getElem? (i := 2306) (by decide +kernel)) rfl
theorem co_X12_block : Cond.code yX12_block cX12_block 3 (some .int) ∈ lw_gd := zm (List.mem_of_getElem? (i := 2307) (by decide +kernel)) rfl
theorem ml_L_50 : Cond.methodLink RL 50 yX11_entry ∈ lw_gd := zm (List.mem_of_getElem? (i := 1154) (by decide +kernel)) rfl
theorem im_X11_entry : Cond.instanceMethod yX11_entry ∈ lw_gd := zm (List.mem_of_getElem? (i := 1155) (by decide +kernel)) rfl
theorem se_X11_entry : Cond.selects RX11 yX11_entry yX11_entry ∈ lw_gd := zm (List.mem_of_getElem? (i := 1156) (by decide +kernel)) rfl
theorem co_X11_entry : Cond.code yX11_entry cX11_entry 6 (some .int) ∈ lw_gd := zm (List.mem_of_getElem? (i := 1157) (by decide +kernel)) rfl
theorem ml_L_54 : Cond.methodLink RL 54 yX12_entry ∈ lw_gd := zm (List.mem_of_getElem? (i := 2312) (by decide +kernel)) rfl
theorem im_X12_entry : Cond.instanceMethod yX12_entry ∈ lw_gd := zm (List.mem_of_getElem? (i := 2313) (by decide +kernel)) rfl
theorem se_X12_entry : Cond.selects RX12 yX12_entry yX12_entry ∈ lw_gd := zm (List.mem_of_getElem? (i := 2314) (by decide +kernel)) rfl
theorem co_X12_entry : Cond.code yX12_entry cX12_entry 4 (some .int) ∈ lw_gd := zm (List.mem_of_getElem? (i := 2315) (by decide +kernel)) rfl
theorem ml_L_55 : Cond.methodLink RL 55 yX11_kept ∈ lw_gd := zm (List.mem_of_getElem? (i := 1159) (by decide +kernel)) rfl
theorem im_X11_kept : Cond.instanceMethod yX11_kept ∈ lw_gd := zm (List.mem_of_getElem? (i := 1160) (by decide +kernel)) rfl
theorem se_X11_kept : Cond.selects RX11 yX11_kept yX11_kept ∈ lw_gd := zm (List.mem_of_getElem? (i := 1161) (by decide +kernel)) rfl
theorem co_X11_kept : Cond.code yX11_kept cX11_kept 3 (some .int) ∈ lw_gd := zm (List.mem_of_getElem? (i := 1162) (by decide +kernel)) rfl
theorem ml_L_58 : Cond.methodLink RL 58 yX12_kept ∈ lw_gd := zm (List.mem_of_getElem? (i := 2316) (by decide +kernel)) rfl
theorem im_X12_kept : Cond.instanceMethod yX12_kept ∈ lw_gd := zm (List.mem_of_getElem? (i := 2317) (by decide +kernel)) rfl
theorem se_X12_kept : Cond.selects RX12 yX12_kept yX12_kept ∈ lw_gd := zm (List.mem_of_getElem? (i := 2318) (by decide +kernel)) rfl
theorem co_X12_kept : Cond.code yX12_kept cX12_kept 3 (some .int) ∈ lw_gd := zm (List.mem_of_getElem? (i := 2319) (by decide +kernel)) rfl
theorem dL_law_208 : decode cL_law 208 = .ok (.aload_n 1, 1) := by decide +kernel
theorem dL_law_209 : decode cL_law 209 = .ok (.aload_n 0, 1) := by decide +kernel
theorem dL_law_210 : decode cL_law 210 = .ok (.iload_n 3, 1) := by decide +kernel
theorem dL_law_211 : decode cL_law 211 = .ok (.iconst 1, 1) := by decide +kernel
theorem dL_law_212 : decode cL_law 212 = .ok (.iadd, 1) := by decide +kernel
theorem dL_law_213 : decode cL_law 213 = .ok (.iaload, 1) := by decide +kernel
theorem dL_law_214 : decode cL_law 214 = .ok (.aload_n 0, 1) := by decide +kernel
theorem dL_law_215 : decode cL_law 215 = .ok (.iload_n 3, 1) := by decide +kernel
theorem dL_law_216 : decode cL_law 216 = .ok (.iconst 2, 1) := by decide +kernel
theorem dL_law_217 : decode cL_law 217 = .ok (.iadd, 1) := by decide +kernel
theorem dL_law_218 : decode cL_law 218 = .ok (.iaload, 1) := by decide +kernel
theorem dL_law_219 : decode cL_law 219 = .ok (.aload_n 0, 1) := by decide +kernel
theorem dL_law_220 : decode cL_law 220 = .ok (.iload_n 3, 1) := by decide +kernel
theorem dL_law_221 : decode cL_law 221 = .ok (.iconst 3, 1) := by decide +kernel
theorem dL_law_222 : decode cL_law 222 = .ok (.iadd, 1) := by decide +kernel
theorem dL_law_223 : decode cL_law 223 = .ok (.iaload, 1) := by decide +kernel
theorem dL_law_224 : decode cL_law 224 = .ok (.aload_n 0, 1) := by decide +kernel
theorem dL_law_225 : decode cL_law 225 = .ok (.iload_n 3, 1) := by decide +kernel
theorem dL_law_226 : decode cL_law 226 = .ok (.iconst 4, 1) := by decide +kernel
theorem dL_law_227 : decode cL_law 227 = .ok (.iadd, 1) := by decide +kernel
theorem dL_law_228 : decode cL_law 228 = .ok (.iaload, 1) := by decide +kernel
theorem dL_law_229 : decode cL_law 229 = .ok (.aload_n 0, 1) := by decide +kernel
theorem dL_law_230 : decode cL_law 230 = .ok (.iload_n 3, 1) := by decide +kernel
theorem dL_law_231 : decode cL_law 231 = .ok (.iconst 5, 1) := by decide +kernel
theorem dL_law_232 : decode cL_law 232 = .ok (.iadd, 1) := by decide +kernel
theorem dL_law_233 : decode cL_law 233 = .ok (.iaload, 1) := by decide +kernel
theorem dL_law_234 : decode cL_law 234 = .ok (.invokevirtual 13, 3) := by decide +kernel
theorem dL_law_237 : decode cL_law 237 = .ok (.aload_n 2, 1) := by decide +kernel
theorem dL_law_238 : decode cL_law 238 = .ok (.aload_n 0, 1) := by decide +kernel
theorem dL_law_239 : decode cL_law 239 = .ok (.iload_n 3, 1) := by decide +kernel
theorem dL_law_240 : decode cL_law 240 = .ok (.iconst 1, 1) := by decide +kernel
theorem dL_law_241 : decode cL_law 241 = .ok (.iadd, 1) := by decide +kernel
theorem dL_law_242 : decode cL_law 242 = .ok (.iaload, 1) := by decide +kernel
theorem dL_law_243 : decode cL_law 243 = .ok (.aload_n 0, 1) := by decide +kernel
theorem dL_law_244 : decode cL_law 244 = .ok (.iload_n 3, 1) := by decide +kernel
theorem dL_law_245 : decode cL_law 245 = .ok (.iconst 2, 1) := by decide +kernel
theorem dL_law_246 : decode cL_law 246 = .ok (.iadd, 1) := by decide +kernel
theorem dL_law_247 : decode cL_law 247 = .ok (.iaload, 1) := by decide +kernel
theorem dL_law_248 : decode cL_law 248 = .ok (.aload_n 0, 1) := by decide +kernel
theorem dL_law_249 : decode cL_law 249 = .ok (.iload_n 3, 1) := by decide +kernel
theorem dL_law_250 : decode cL_law 250 = .ok (.iconst 3, 1) := by decide +kernel
theorem dL_law_251 : decode cL_law 251 = .ok (.iadd, 1) := by decide +kernel
theorem dL_law_252 : decode cL_law 252 = .ok (.iaload, 1) := by decide +kernel
theorem dL_law_253 : decode cL_law 253 = .ok (.aload_n 0, 1) := by decide +kernel
theorem dL_law_254 : decode cL_law 254 = .ok (.iload_n 3, 1) := by decide +kernel
theorem dL_law_255 : decode cL_law 255 = .ok (.iconst 4, 1) := by decide +kernel
theorem dL_law_256 : decode cL_law 256 = .ok (.iadd, 1) := by decide +kernel
theorem dL_law_257 : decode cL_law 257 = .ok (.iaload, 1) := by decide +kernel
theorem dL_law_258 : decode cL_law 258 = .ok (.aload_n 0, 1) := by decide +kernel
theorem dL_law_259 : decode cL_law 259 = .ok (.iload_n 3, 1) := by decide +kernel
theorem dL_law_260 : decode cL_law 260 = .ok (.iconst 5, 1) := by decide +kernel
theorem dL_law_261 : decode cL_law 261 = .ok (.iadd, 1) := by decide +kernel
theorem dL_law_262 : decode cL_law 262 = .ok (.iaload, 1) := by decide +kernel
theorem dL_law_263 : decode cL_law 263 = .ok (.invokevirtual 17, 3) := by decide +kernel
theorem dL_law_266 : decode cL_law 266 = .ok (.if_icmp .eq 1033, 3) := by decide +kernel
theorem dL_law_271 : decode cL_law 271 = .ok (.aload_n 1, 1) := by decide +kernel
theorem dL_law_272 : decode cL_law 272 = .ok (.aload_n 0, 1) := by decide +kernel
theorem dL_law_273 : decode cL_law 273 = .ok (.iload_n 3, 1) := by decide +kernel
theorem dL_law_274 : decode cL_law 274 = .ok (.iconst 1, 1) := by decide +kernel
theorem dL_law_275 : decode cL_law 275 = .ok (.iadd, 1) := by decide +kernel
theorem dL_law_276 : decode cL_law 276 = .ok (.iaload, 1) := by decide +kernel
theorem dL_law_277 : decode cL_law 277 = .ok (.invokevirtual 18, 3) := by decide +kernel
theorem dL_law_280 : decode cL_law 280 = .ok (.aload_n 2, 1) := by decide +kernel
theorem dL_law_281 : decode cL_law 281 = .ok (.aload_n 0, 1) := by decide +kernel
theorem dL_law_282 : decode cL_law 282 = .ok (.iload_n 3, 1) := by decide +kernel
theorem dL_law_283 : decode cL_law 283 = .ok (.iconst 1, 1) := by decide +kernel
theorem dL_law_284 : decode cL_law 284 = .ok (.iadd, 1) := by decide +kernel
theorem dL_law_285 : decode cL_law 285 = .ok (.iaload, 1) := by decide +kernel
theorem dL_law_286 : decode cL_law 286 = .ok (.invokevirtual 22, 3) := by decide +kernel
theorem dL_law_289 : decode cL_law 289 = .ok (.if_icmp .eq 1010, 3) := by decide +kernel
theorem dL_law_294 : decode cL_law 294 = .ok (.aload_n 1, 1) := by decide +kernel
theorem dL_law_295 : decode cL_law 295 = .ok (.invokevirtual 23, 3) := by decide +kernel
theorem dL_law_298 : decode cL_law 298 = .ok (.aload_n 2, 1) := by decide +kernel
theorem dL_law_299 : decode cL_law 299 = .ok (.invokevirtual 27, 3) := by decide +kernel
theorem dL_law_302 : decode cL_law 302 = .ok (.if_icmp .eq 997, 3) := by decide +kernel
theorem dL_law_307 : decode cL_law 307 = .ok (.aload_n 1, 1) := by decide +kernel
theorem dL_law_308 : decode cL_law 308 = .ok (.aload_n 0, 1) := by decide +kernel
theorem dL_law_309 : decode cL_law 309 = .ok (.iload_n 3, 1) := by decide +kernel
theorem dL_law_310 : decode cL_law 310 = .ok (.iconst 1, 1) := by decide +kernel
theorem dL_law_311 : decode cL_law 311 = .ok (.iadd, 1) := by decide +kernel
theorem dL_law_312 : decode cL_law 312 = .ok (.iaload, 1) := by decide +kernel
theorem dL_law_313 : decode cL_law 313 = .ok (.invokevirtual 28, 3) := by decide +kernel
theorem dL_law_316 : decode cL_law 316 = .ok (.aload_n 2, 1) := by decide +kernel
theorem dL_law_317 : decode cL_law 317 = .ok (.aload_n 0, 1) := by decide +kernel
theorem dL_law_318 : decode cL_law 318 = .ok (.iload_n 3, 1) := by decide +kernel
theorem dL_law_319 : decode cL_law 319 = .ok (.iconst 1, 1) := by decide +kernel
theorem dL_law_320 : decode cL_law 320 = .ok (.iadd, 1) := by decide +kernel
theorem dL_law_321 : decode cL_law 321 = .ok (.iaload, 1) := by decide +kernel
theorem dL_law_322 : decode cL_law 322 = .ok (.invokevirtual 32, 3) := by decide +kernel
theorem dL_law_325 : decode cL_law 325 = .ok (.if_icmp .eq 974, 3) := by decide +kernel
theorem dL_law_330 : decode cL_law 330 = .ok (.aload_n 1, 1) := by decide +kernel
theorem dL_law_331 : decode cL_law 331 = .ok (.aload_n 0, 1) := by decide +kernel
theorem dL_law_332 : decode cL_law 332 = .ok (.iload_n 3, 1) := by decide +kernel
theorem dL_law_333 : decode cL_law 333 = .ok (.iconst 1, 1) := by decide +kernel
theorem dL_law_334 : decode cL_law 334 = .ok (.iadd, 1) := by decide +kernel
theorem dL_law_335 : decode cL_law 335 = .ok (.iaload, 1) := by decide +kernel
theorem dL_law_336 : decode cL_law 336 = .ok (.invokevirtual 33, 3) := by decide +kernel
theorem dL_law_339 : decode cL_law 339 = .ok (.aload_n 2, 1) := by decide +kernel
theorem dL_law_340 : decode cL_law 340 = .ok (.aload_n 0, 1) := by decide +kernel
theorem dL_law_341 : decode cL_law 341 = .ok (.iload_n 3, 1) := by decide +kernel
theorem dL_law_342 : decode cL_law 342 = .ok (.iconst 1, 1) := by decide +kernel
theorem dL_law_343 : decode cL_law 343 = .ok (.iadd, 1) := by decide +kernel
theorem dL_law_344 : decode cL_law 344 = .ok (.iaload, 1) := by decide +kernel
theorem dL_law_345 : decode cL_law 345 = .ok (.invokevirtual 36, 3) := by decide +kernel
theorem dL_law_348 : decode cL_law 348 = .ok (.if_icmp .eq 951, 3) := by decide +kernel
theorem dL_law_353 : decode cL_law 353 = .ok (.aload_n 1, 1) := by decide +kernel
theorem dL_law_354 : decode cL_law 354 = .ok (.aload_n 0, 1) := by decide +kernel
theorem dL_law_355 : decode cL_law 355 = .ok (.iload_n 3, 1) := by decide +kernel
theorem dL_law_356 : decode cL_law 356 = .ok (.iconst 1, 1) := by decide +kernel
theorem dL_law_357 : decode cL_law 357 = .ok (.iadd, 1) := by decide +kernel
theorem dL_law_358 : decode cL_law 358 = .ok (.iaload, 1) := by decide +kernel
theorem dL_law_359 : decode cL_law 359 = .ok (.aload_n 0, 1) := by decide +kernel
theorem dL_law_360 : decode cL_law 360 = .ok (.iload_n 3, 1) := by decide +kernel
theorem dL_law_361 : decode cL_law 361 = .ok (.iconst 2, 1) := by decide +kernel
theorem dL_law_362 : decode cL_law 362 = .ok (.iadd, 1) := by decide +kernel
theorem dL_law_363 : decode cL_law 363 = .ok (.iaload, 1) := by decide +kernel
theorem dL_law_364 : decode cL_law 364 = .ok (.invokevirtual 37, 3) := by decide +kernel
theorem dL_law_367 : decode cL_law 367 = .ok (.aload_n 2, 1) := by decide +kernel
theorem dL_law_368 : decode cL_law 368 = .ok (.aload_n 0, 1) := by decide +kernel
theorem dL_law_369 : decode cL_law 369 = .ok (.iload_n 3, 1) := by decide +kernel
theorem dL_law_370 : decode cL_law 370 = .ok (.iconst 1, 1) := by decide +kernel
theorem dL_law_371 : decode cL_law 371 = .ok (.iadd, 1) := by decide +kernel
theorem dL_law_372 : decode cL_law 372 = .ok (.iaload, 1) := by decide +kernel
theorem dL_law_373 : decode cL_law 373 = .ok (.aload_n 0, 1) := by decide +kernel
theorem dL_law_374 : decode cL_law 374 = .ok (.iload_n 3, 1) := by decide +kernel
theorem dL_law_375 : decode cL_law 375 = .ok (.iconst 2, 1) := by decide +kernel
theorem dL_law_376 : decode cL_law 376 = .ok (.iadd, 1) := by decide +kernel
theorem dL_law_377 : decode cL_law 377 = .ok (.iaload, 1) := by decide +kernel
theorem dL_law_378 : decode cL_law 378 = .ok (.invokevirtual 41, 3) := by decide +kernel
theorem dL_law_381 : decode cL_law 381 = .ok (.if_icmp .eq 918, 3) := by decide +kernel
theorem dL_law_386 : decode cL_law 386 = .ok (.aload_n 1, 1) := by decide +kernel
theorem dL_law_387 : decode cL_law 387 = .ok (.aload_n 0, 1) := by decide +kernel
theorem dL_law_388 : decode cL_law 388 = .ok (.iload_n 3, 1) := by decide +kernel
theorem dL_law_389 : decode cL_law 389 = .ok (.iconst 1, 1) := by decide +kernel
theorem dL_law_390 : decode cL_law 390 = .ok (.iadd, 1) := by decide +kernel
theorem dL_law_391 : decode cL_law 391 = .ok (.iaload, 1) := by decide +kernel
theorem dL_law_392 : decode cL_law 392 = .ok (.aload_n 0, 1) := by decide +kernel
theorem dL_law_393 : decode cL_law 393 = .ok (.iload_n 3, 1) := by decide +kernel
theorem dL_law_394 : decode cL_law 394 = .ok (.iconst 2, 1) := by decide +kernel
theorem dL_law_395 : decode cL_law 395 = .ok (.iadd, 1) := by decide +kernel
theorem dL_law_396 : decode cL_law 396 = .ok (.iaload, 1) := by decide +kernel
theorem dL_law_397 : decode cL_law 397 = .ok (.invokevirtual 42, 3) := by decide +kernel
theorem dL_law_400 : decode cL_law 400 = .ok (.aload_n 2, 1) := by decide +kernel
theorem dL_law_401 : decode cL_law 401 = .ok (.aload_n 0, 1) := by decide +kernel
theorem dL_law_402 : decode cL_law 402 = .ok (.iload_n 3, 1) := by decide +kernel
theorem dL_law_403 : decode cL_law 403 = .ok (.iconst 1, 1) := by decide +kernel
theorem dL_law_404 : decode cL_law 404 = .ok (.iadd, 1) := by decide +kernel
theorem dL_law_405 : decode cL_law 405 = .ok (.iaload, 1) := by decide +kernel
theorem dL_law_406 : decode cL_law 406 = .ok (.aload_n 0, 1) := by decide +kernel
theorem dL_law_407 : decode cL_law 407 = .ok (.iload_n 3, 1) := by decide +kernel
theorem dL_law_408 : decode cL_law 408 = .ok (.iconst 2, 1) := by decide +kernel
theorem dL_law_409 : decode cL_law 409 = .ok (.iadd, 1) := by decide +kernel
theorem dL_law_410 : decode cL_law 410 = .ok (.iaload, 1) := by decide +kernel
theorem dL_law_411 : decode cL_law 411 = .ok (.invokevirtual 45, 3) := by decide +kernel
theorem dL_law_414 : decode cL_law 414 = .ok (.if_icmp .eq 885, 3) := by decide +kernel
theorem dL_law_419 : decode cL_law 419 = .ok (.aload_n 1, 1) := by decide +kernel
theorem dL_law_420 : decode cL_law 420 = .ok (.aload_n 0, 1) := by decide +kernel
theorem dL_law_421 : decode cL_law 421 = .ok (.iload_n 3, 1) := by decide +kernel
theorem dL_law_422 : decode cL_law 422 = .ok (.iconst 1, 1) := by decide +kernel
theorem dL_law_423 : decode cL_law 423 = .ok (.iadd, 1) := by decide +kernel
theorem dL_law_424 : decode cL_law 424 = .ok (.iaload, 1) := by decide +kernel
theorem dL_law_425 : decode cL_law 425 = .ok (.aload_n 0, 1) := by decide +kernel
theorem dL_law_426 : decode cL_law 426 = .ok (.iload_n 3, 1) := by decide +kernel
theorem dL_law_427 : decode cL_law 427 = .ok (.iconst 2, 1) := by decide +kernel
theorem dL_law_428 : decode cL_law 428 = .ok (.iadd, 1) := by decide +kernel
theorem dL_law_429 : decode cL_law 429 = .ok (.iaload, 1) := by decide +kernel
theorem dL_law_430 : decode cL_law 430 = .ok (.invokevirtual 46, 3) := by decide +kernel
theorem dL_law_433 : decode cL_law 433 = .ok (.aload_n 2, 1) := by decide +kernel
theorem dL_law_434 : decode cL_law 434 = .ok (.aload_n 0, 1) := by decide +kernel
theorem dL_law_435 : decode cL_law 435 = .ok (.iload_n 3, 1) := by decide +kernel
theorem dL_law_436 : decode cL_law 436 = .ok (.iconst 1, 1) := by decide +kernel
theorem dL_law_437 : decode cL_law 437 = .ok (.iadd, 1) := by decide +kernel
theorem dL_law_438 : decode cL_law 438 = .ok (.iaload, 1) := by decide +kernel
theorem dL_law_439 : decode cL_law 439 = .ok (.aload_n 0, 1) := by decide +kernel
theorem dL_law_440 : decode cL_law 440 = .ok (.iload_n 3, 1) := by decide +kernel
theorem dL_law_441 : decode cL_law 441 = .ok (.iconst 2, 1) := by decide +kernel
theorem dL_law_442 : decode cL_law 442 = .ok (.iadd, 1) := by decide +kernel
theorem dL_law_443 : decode cL_law 443 = .ok (.iaload, 1) := by decide +kernel
theorem dL_law_444 : decode cL_law 444 = .ok (.invokevirtual 49, 3) := by decide +kernel
theorem dL_law_447 : decode cL_law 447 = .ok (.if_icmp .eq 852, 3) := by decide +kernel
theorem dL_law_452 : decode cL_law 452 = .ok (.aload_n 1, 1) := by decide +kernel
theorem dL_law_453 : decode cL_law 453 = .ok (.aload_n 0, 1) := by decide +kernel
theorem dL_law_454 : decode cL_law 454 = .ok (.iload_n 3, 1) := by decide +kernel
theorem dL_law_455 : decode cL_law 455 = .ok (.iconst 1, 1) := by decide +kernel
theorem dL_law_456 : decode cL_law 456 = .ok (.iadd, 1) := by decide +kernel
theorem dL_law_457 : decode cL_law 457 = .ok (.iaload, 1) := by decide +kernel
theorem dL_law_458 : decode cL_law 458 = .ok (.aload_n 0, 1) := by decide +kernel
theorem dL_law_459 : decode cL_law 459 = .ok (.iload_n 3, 1) := by decide +kernel
theorem dL_law_460 : decode cL_law 460 = .ok (.iconst 2, 1) := by decide +kernel
theorem dL_law_461 : decode cL_law 461 = .ok (.iadd, 1) := by decide +kernel
theorem dL_law_462 : decode cL_law 462 = .ok (.iaload, 1) := by decide +kernel
theorem dL_law_463 : decode cL_law 463 = .ok (.aload_n 0, 1) := by decide +kernel
theorem dL_law_464 : decode cL_law 464 = .ok (.iload_n 3, 1) := by decide +kernel
theorem dL_law_465 : decode cL_law 465 = .ok (.iconst 3, 1) := by decide +kernel
theorem dL_law_466 : decode cL_law 466 = .ok (.iadd, 1) := by decide +kernel
theorem dL_law_467 : decode cL_law 467 = .ok (.iaload, 1) := by decide +kernel
theorem dL_law_468 : decode cL_law 468 = .ok (.invokevirtual 50, 3) := by decide +kernel
theorem dL_law_471 : decode cL_law 471 = .ok (.aload_n 2, 1) := by decide +kernel
theorem dL_law_472 : decode cL_law 472 = .ok (.aload_n 0, 1) := by decide +kernel
theorem dL_law_473 : decode cL_law 473 = .ok (.iload_n 3, 1) := by decide +kernel
theorem dL_law_474 : decode cL_law 474 = .ok (.iconst 1, 1) := by decide +kernel
theorem dL_law_475 : decode cL_law 475 = .ok (.iadd, 1) := by decide +kernel
theorem dL_law_476 : decode cL_law 476 = .ok (.iaload, 1) := by decide +kernel
theorem dL_law_477 : decode cL_law 477 = .ok (.aload_n 0, 1) := by decide +kernel
theorem dL_law_478 : decode cL_law 478 = .ok (.iload_n 3, 1) := by decide +kernel
theorem dL_law_479 : decode cL_law 479 = .ok (.iconst 2, 1) := by decide +kernel
theorem dL_law_480 : decode cL_law 480 = .ok (.iadd, 1) := by decide +kernel
theorem dL_law_481 : decode cL_law 481 = .ok (.iaload, 1) := by decide +kernel
theorem dL_law_482 : decode cL_law 482 = .ok (.aload_n 0, 1) := by decide +kernel
theorem dL_law_483 : decode cL_law 483 = .ok (.iload_n 3, 1) := by decide +kernel
theorem dL_law_484 : decode cL_law 484 = .ok (.iconst 3, 1) := by decide +kernel
theorem dL_law_485 : decode cL_law 485 = .ok (.iadd, 1) := by decide +kernel
theorem dL_law_486 : decode cL_law 486 = .ok (.iaload, 1) := by decide +kernel
theorem dL_law_487 : decode cL_law 487 = .ok (.invokevirtual 54, 3) := by decide +kernel
theorem dL_law_490 : decode cL_law 490 = .ok (.if_icmp .eq 809, 3) := by decide +kernel
theorem dL_law_495 : decode cL_law 495 = .ok (.aload_n 1, 1) := by decide +kernel
theorem dL_law_496 : decode cL_law 496 = .ok (.aload_n 0, 1) := by decide +kernel
theorem dL_law_497 : decode cL_law 497 = .ok (.iload_n 3, 1) := by decide +kernel
theorem dL_law_498 : decode cL_law 498 = .ok (.iconst 1, 1) := by decide +kernel
theorem dL_law_499 : decode cL_law 499 = .ok (.iadd, 1) := by decide +kernel
theorem dL_law_500 : decode cL_law 500 = .ok (.iaload, 1) := by decide +kernel
theorem dL_law_501 : decode cL_law 501 = .ok (.aload_n 0, 1) := by decide +kernel
theorem dL_law_502 : decode cL_law 502 = .ok (.iload_n 3, 1) := by decide +kernel
theorem dL_law_503 : decode cL_law 503 = .ok (.iconst 2, 1) := by decide +kernel
theorem dL_law_504 : decode cL_law 504 = .ok (.iadd, 1) := by decide +kernel
theorem dL_law_505 : decode cL_law 505 = .ok (.iaload, 1) := by decide +kernel
theorem dL_law_506 : decode cL_law 506 = .ok (.invokevirtual 55, 3) := by decide +kernel
theorem dL_law_509 : decode cL_law 509 = .ok (.aload_n 2, 1) := by decide +kernel
theorem dL_law_510 : decode cL_law 510 = .ok (.aload_n 0, 1) := by decide +kernel
theorem dL_law_511 : decode cL_law 511 = .ok (.iload_n 3, 1) := by decide +kernel
theorem dL_law_512 : decode cL_law 512 = .ok (.iconst 1, 1) := by decide +kernel
theorem dL_law_513 : decode cL_law 513 = .ok (.iadd, 1) := by decide +kernel
theorem dL_law_514 : decode cL_law 514 = .ok (.iaload, 1) := by decide +kernel
theorem dL_law_515 : decode cL_law 515 = .ok (.aload_n 0, 1) := by decide +kernel
theorem dL_law_516 : decode cL_law 516 = .ok (.iload_n 3, 1) := by decide +kernel
theorem dL_law_517 : decode cL_law 517 = .ok (.iconst 2, 1) := by decide +kernel
theorem dL_law_518 : decode cL_law 518 = .ok (.iadd, 1) := by decide +kernel
theorem dL_law_519 : decode cL_law 519 = .ok (.iaload, 1) := by decide +kernel
theorem dL_law_520 : decode cL_law 520 = .ok (.invokevirtual 58, 3) := by decide +kernel
theorem dL_law_523 : decode cL_law 523 = .ok (.if_icmp .eq 776, 3) := by decide +kernel
set_option maxHeartbeats 4000000 in
set_option maxRecDepth 100000 in
/-- feed -/
theorem lc_0 {p : Program} (l : Launch) {e : Env} {s : State} {m : MethodId} {below : List Frame} {meth : Method} {c : Code} {b : Nat} {xs : Nat → Int32} {H : Heap} {locs : List Loc} {ls : Array Slot} {A : Nat → Prop} {D : va_G} {ax am : Nat → Nat} (hx : p.tables.exec = Jvm.exec) (hb : c.code = cL_law) (hr : meth.sig.returnType = ret) (hlocks : meth.locks = false) (hml : c.maxLocals = 4) (hown : s.vm.findClass RL = some m.cls) (ht : ∀ w ∈ lw_gd, w.before #[Value.ref b] s = true) (hX : va_X b 6 xs s s.heap) (hbl : b < s.heap.size) (hA : ∀ q, s.heap.size ≤ q → A q) (hAs : ∀ q, A q → s.heap.size ≤ q) (hK : va_K D vwCl (TY D) s) (hP : va_P D vwCl [((ax 0), .inr (11, [.ref (ax 1), .ref (ax 2), .ref (ax 3), .ref (ax 4), .ref (ax 5), .ref (ax 6), .ref (ax 7), .ref (ax 8), .ref (ax 9), .ref (ax 10), .ref (ax 11), .ref (ax 12), .int 0])), ((ax 1), .inr (9, [.ref (ax 20), .int 0])), ((ax 20), .inl (D.1 13, 1600, .inl (fun _ => 0))), ((am 200), .inr (12, mO am 0 0 0 0 0 0 0 (-1) 0 0 1 0)), ((am 0), .inl (D.1 13, 1600, .inl (fun _ => 0))), ((am 9), .inl (D.1 13, 6, .inl (fun _ => 0)))] H) (hD : va_D A [((ax 0), .inr (11, [.ref (ax 1), .ref (ax 2), .ref (ax 3), .ref (ax 4), .ref (ax 5), .ref (ax 6), .ref (ax 7), .ref (ax 8), .ref (ax 9), .ref (ax 10), .ref (ax 11), .ref (ax 12), .int 0])), ((ax 1), .inr (9, [.ref (ax 20), .int 0])), ((ax 20), .inl (D.1 13, 1600, .inl (fun _ => 0))), ((am 200), .inr (12, mO am 0 0 0 0 0 0 0 (-1) 0 0 1 0)), ((am 0), .inl (D.1 13, 1600, .inl (fun _ => 0))), ((am 9), .inl (D.1 13, 6, .inl (fun _ => 0)))]) (hS : va_S A s.heap H locs) (hl : lv_has ls 4 [(3, .int 0), (2, .ref (am 200)), (1, .ref (ax 0)), (0, .ref b)]) : W p l e room_1 s m #[Value.ref b] below meth c H locs 164 46440 (lw_Z below #[Value.ref b] s) (F0 m 208 ls []) := by
  have hbA : ¬ A b := fun h => absurd (hAs b h) (Nat.not_le.mpr hbl)
  refine lv_aload_n hx hb dL_law_208 rfl (lv_at hl 2 rfl) ?_
  refine lv_aload_n hx hb dL_law_209 rfl (lv_at hl 3 rfl) ?_
  refine lv_iload_n hx hb dL_law_210 rfl (lv_at hl 0 rfl) ?_
  refine lv_iconst (v := 1) hx hb dL_law_211 (by decide) ?_
  refine lv_iadd hx hb dL_law_212 ?_
  refine z_topi (y := 1) (by decide) ?_
  refine va_sld hx hb hX hbl hbA hS (z_in (by decide) (by decide)) dL_law_213 ?_
  refine lv_topi (fun p1 e1 => ?_)
  refine lv_aload_n hx hb dL_law_214 rfl (lv_at hl 3 rfl) ?_
  refine lv_iload_n hx hb dL_law_215 rfl (lv_at hl 0 rfl) ?_
  refine lv_iconst (v := 2) hx hb dL_law_216 (by decide) ?_
  refine lv_iadd hx hb dL_law_217 ?_
  refine z_topi (y := 2) (by decide) ?_
  refine va_sld hx hb hX hbl hbA hS (z_in (by decide) (by decide)) dL_law_218 ?_
  refine lv_topi (fun p2 e2 => ?_)
  refine lv_aload_n hx hb dL_law_219 rfl (lv_at hl 3 rfl) ?_
  refine lv_iload_n hx hb dL_law_220 rfl (lv_at hl 0 rfl) ?_
  refine lv_iconst (v := 3) hx hb dL_law_221 (by decide) ?_
  refine lv_iadd hx hb dL_law_222 ?_
  refine z_topi (y := 3) (by decide) ?_
  refine va_sld hx hb hX hbl hbA hS (z_in (by decide) (by decide)) dL_law_223 ?_
  refine lv_topi (fun p3 e3 => ?_)
  refine lv_aload_n hx hb dL_law_224 rfl (lv_at hl 3 rfl) ?_
  refine lv_iload_n hx hb dL_law_225 rfl (lv_at hl 0 rfl) ?_
  refine lv_iconst (v := 4) hx hb dL_law_226 (by decide) ?_
  refine lv_iadd hx hb dL_law_227 ?_
  refine z_topi (y := 4) (by decide) ?_
  refine va_sld hx hb hX hbl hbA hS (z_in (by decide) (by decide)) dL_law_228 ?_
  refine lv_topi (fun p4 e4 => ?_)
  refine lv_aload_n hx hb dL_law_229 rfl (lv_at hl 3 rfl) ?_
  refine lv_iload_n hx hb dL_law_230 rfl (lv_at hl 0 rfl) ?_
  refine lv_iconst (v := 5) hx hb dL_law_231 (by decide) ?_
  refine lv_iadd hx hb dL_law_232 ?_
  refine z_topi (y := 5) (by decide) ?_
  refine va_sld hx hb hX hbl hbA hS (z_in (by decide) (by decide)) dL_law_233 ?_
  refine lv_topi (fun p5 e5 => ?_)
  refine zwV (As := [.int p1, .int p2, .int p3, .int p4, .int p5]) (rest := []) (C := RX11) (n := 5) (wr := [((am 200), .inr (12, mO am 0 0 0 0 0 0 0 (-1) 0 0 1 0)), ((am 0), .inl (D.1 13, 1600, .inl (fun _ => 0))), ((am 9), .inl (D.1 13, 6, .inl (fun _ => 0)))]) ⟨hx, hb, hml, hown, ht⟩ (k_X11_feed l D _ ax p1 p2 p3 p4 p5) (zgV ml_L_13 im_X11_feed se_X11_feed in_X11 co_X11_feed) rfl rfl (by decide +kernel) ⟨Nat.le_of_ble_eq_true rfl, Nat.le_of_ble_eq_true rfl⟩ hK hP hD hS hA [0, 1, 2] [3, 4, 5] rfl rfl rfl rfl (by decide) 0 rfl rfl rfl rfl hl.1 rfl (Nat.le_of_ble_eq_true rfl) dL_law_234 ⟨Nat.le_of_ble_eq_true rfl, Nat.le_of_ble_eq_true rfl⟩ (fun r_2 u_1 H locs hw hP hD hS => ?_)
  have hP : va_P D vwCl [((am 200), .inr (12, mO am 0 0 0 0 0 0 0 (-1) 0 0 1 0)), ((am 0), .inl (D.1 13, 1600, .inl (fun _ => 0))), ((am 9), .inl (D.1 13, 6, .inl (fun _ => 0)))] H := hP
  have hD : va_D A [((am 200), .inr (12, mO am 0 0 0 0 0 0 0 (-1) 0 0 1 0)), ((am 0), .inl (D.1 13, 1600, .inl (fun _ => 0))), ((am 9), .inl (D.1 13, 6, .inl (fun _ => 0)))] := hD
  subst hw
  refine lv_aload_n hx hb dL_law_237 rfl (lv_at hl 1 rfl) ?_
  refine lv_aload_n hx hb dL_law_238 rfl (lv_at hl 3 rfl) ?_
  refine lv_iload_n hx hb dL_law_239 rfl (lv_at hl 0 rfl) ?_
  refine lv_iconst (v := 1) hx hb dL_law_240 (by decide) ?_
  refine lv_iadd hx hb dL_law_241 ?_
  refine z_topi (y := 1) (by decide) ?_
  refine va_sld hx hb hX hbl hbA hS (z_in (by decide) (by decide)) dL_law_242 ?_
  refine z_topi (y := p1) e1.symm ?_
  refine lv_aload_n hx hb dL_law_243 rfl (lv_at hl 3 rfl) ?_
  refine lv_iload_n hx hb dL_law_244 rfl (lv_at hl 0 rfl) ?_
  refine lv_iconst (v := 2) hx hb dL_law_245 (by decide) ?_
  refine lv_iadd hx hb dL_law_246 ?_
  refine z_topi (y := 2) (by decide) ?_
  refine va_sld hx hb hX hbl hbA hS (z_in (by decide) (by decide)) dL_law_247 ?_
  refine z_topi (y := p2) e2.symm ?_
  refine lv_aload_n hx hb dL_law_248 rfl (lv_at hl 3 rfl) ?_
  refine lv_iload_n hx hb dL_law_249 rfl (lv_at hl 0 rfl) ?_
  refine lv_iconst (v := 3) hx hb dL_law_250 (by decide) ?_
  refine lv_iadd hx hb dL_law_251 ?_
  refine z_topi (y := 3) (by decide) ?_
  refine va_sld hx hb hX hbl hbA hS (z_in (by decide) (by decide)) dL_law_252 ?_
  refine z_topi (y := p3) e3.symm ?_
  refine lv_aload_n hx hb dL_law_253 rfl (lv_at hl 3 rfl) ?_
  refine lv_iload_n hx hb dL_law_254 rfl (lv_at hl 0 rfl) ?_
  refine lv_iconst (v := 4) hx hb dL_law_255 (by decide) ?_
  refine lv_iadd hx hb dL_law_256 ?_
  refine z_topi (y := 4) (by decide) ?_
  refine va_sld hx hb hX hbl hbA hS (z_in (by decide) (by decide)) dL_law_257 ?_
  refine z_topi (y := p4) e4.symm ?_
  refine lv_aload_n hx hb dL_law_258 rfl (lv_at hl 3 rfl) ?_
  refine lv_iload_n hx hb dL_law_259 rfl (lv_at hl 0 rfl) ?_
  refine lv_iconst (v := 5) hx hb dL_law_260 (by decide) ?_
  refine lv_iadd hx hb dL_law_261 ?_
  refine z_topi (y := 5) (by decide) ?_
  refine va_sld hx hb hX hbl hbA hS (z_in (by decide) (by decide)) dL_law_262 ?_
  refine z_topi (y := p5) e5.symm ?_
  refine zwV (As := [.int p1, .int p2, .int p3, .int p4, .int p5]) (rest := [.int 20]) (C := RX12) (n := 5) (wr := []) ⟨hx, hb, hml, hown, ht⟩ (k_X12_feed l D _ am p1 p2 p3 p4 p5) (zgV ml_L_17 im_X12_feed se_X12_feed in_X12 co_X12_feed) rfl rfl (by decide +kernel) ⟨Nat.le_of_ble_eq_true rfl, Nat.le_of_ble_eq_true rfl⟩ hK hP hD hS hA [0, 1, 2] [] rfl rfl rfl rfl (by decide) 0 rfl rfl rfl rfl hl.1 rfl (Nat.le_of_ble_eq_true rfl) dL_law_263 ⟨Nat.le_of_ble_eq_true rfl, Nat.le_of_ble_eq_true rfl⟩ (fun r_4 u_3 H locs hw hP hD hS => ?_)
  have hP : va_P D vwCl [] H := hP
  have hD : va_D A [] := hD
  subst hw
  refine lv_icmp_eq (tgt := 1299) hx hb dL_law_266 (by decide) (fun _ => ?_) (fun c_5 => (z_abs c_5 (by decide)).elim)
  exact lc_end hx hb hr hlocks hX hbl hAs hS (lv_sub hl [0, 3] rfl) (Nat.le_of_ble_eq_true rfl) (Nat.le_of_ble_eq_true rfl)
set_option maxHeartbeats 4000000 in
set_option maxRecDepth 100000 in
/-- end -/
theorem lc_1 {p : Program} (l : Launch) {e : Env} {s : State} {m : MethodId} {below : List Frame} {meth : Method} {c : Code} {b : Nat} {xs : Nat → Int32} {H : Heap} {locs : List Loc} {ls : Array Slot} {A : Nat → Prop} {D : va_G} {ax am : Nat → Nat} (hx : p.tables.exec = Jvm.exec) (hb : c.code = cL_law) (hr : meth.sig.returnType = ret) (hlocks : meth.locks = false) (hml : c.maxLocals = 4) (hown : s.vm.findClass RL = some m.cls) (ht : ∀ w ∈ lw_gd, w.before #[Value.ref b] s = true) (hX : va_X b 6 xs s s.heap) (hbl : b < s.heap.size) (hA : ∀ q, s.heap.size ≤ q → A q) (hAs : ∀ q, A q → s.heap.size ≤ q) (hK : va_K D vwCl (TY D) s) (hP : va_P D vwCl [((ax 0), .inr (11, [.ref (ax 1), .ref (ax 2), .ref (ax 3), .ref (ax 4), .ref (ax 5), .ref (ax 6), .ref (ax 7), .ref (ax 8), .ref (ax 9), .ref (ax 10), .ref (ax 11), .ref (ax 12), .int 0])), ((ax 1), .inr (9, [.ref (ax 20), .int 0])), ((ax 9), .inl (D.1 13, 6, .inl (fun _ => 0))), ((am 200), .inr (12, mO am 0 0 0 0 0 0 0 (-1) 0 0 1 0)), ((am 9), .inl (D.1 13, 6, .inl (fun _ => 0)))] H) (hD : va_D A [((ax 0), .inr (11, [.ref (ax 1), .ref (ax 2), .ref (ax 3), .ref (ax 4), .ref (ax 5), .ref (ax 6), .ref (ax 7), .ref (ax 8), .ref (ax 9), .ref (ax 10), .ref (ax 11), .ref (ax 12), .int 0])), ((ax 1), .inr (9, [.ref (ax 20), .int 0])), ((ax 9), .inl (D.1 13, 6, .inl (fun _ => 0))), ((am 200), .inr (12, mO am 0 0 0 0 0 0 0 (-1) 0 0 1 0)), ((am 9), .inl (D.1 13, 6, .inl (fun _ => 0)))]) (hS : va_S A s.heap H locs) (hl : lv_has ls 4 [(3, .int 0), (2, .ref (am 200)), (1, .ref (ax 0)), (0, .ref b)]) : W p l e room_1 s m #[Value.ref b] below meth c H locs 164 46440 (lw_Z below #[Value.ref b] s) (F0 m 271 ls []) := by
  have hbA : ¬ A b := fun h => absurd (hAs b h) (Nat.not_le.mpr hbl)
  refine lv_aload_n hx hb dL_law_271 rfl (lv_at hl 2 rfl) ?_
  refine lv_aload_n hx hb dL_law_272 rfl (lv_at hl 3 rfl) ?_
  refine lv_iload_n hx hb dL_law_273 rfl (lv_at hl 0 rfl) ?_
  refine lv_iconst (v := 1) hx hb dL_law_274 (by decide) ?_
  refine lv_iadd hx hb dL_law_275 ?_
  refine z_topi (y := 1) (by decide) ?_
  refine va_sld hx hb hX hbl hbA hS (z_in (by decide) (by decide)) dL_law_276 ?_
  refine lv_topi (fun p1 e1 => ?_)
  refine zwV (As := [.int p1]) (rest := []) (C := RX11) (n := 1) (wr := [((am 200), .inr (12, mO am 0 0 0 0 0 0 0 (-1) 0 0 1 0)), ((am 9), .inl (D.1 13, 6, .inl (fun _ => 0)))]) ⟨hx, hb, hml, hown, ht⟩ (k_X11_end l D _ ax p1) (zgV ml_L_18 im_X11_end se_X11_end in_X11 co_X11_end) rfl rfl (by decide +kernel) ⟨Nat.le_of_ble_eq_true rfl, Nat.le_of_ble_eq_true rfl⟩ hK hP hD hS hA [0, 1, 2] [3, 4] rfl rfl rfl rfl (by decide) 0 rfl rfl rfl rfl hl.1 rfl (Nat.le_of_ble_eq_true rfl) dL_law_277 ⟨Nat.le_of_ble_eq_true rfl, Nat.le_of_ble_eq_true rfl⟩ (fun r_2 u_1 H locs hw hP hD hS => ?_)
  have hP : va_P D vwCl [((am 200), .inr (12, mO am 0 0 0 0 0 0 0 (-1) 0 0 1 0)), ((am 9), .inl (D.1 13, 6, .inl (fun _ => 0)))] H := hP
  have hD : va_D A [((am 200), .inr (12, mO am 0 0 0 0 0 0 0 (-1) 0 0 1 0)), ((am 9), .inl (D.1 13, 6, .inl (fun _ => 0)))] := hD
  rcases hw with ⟨rfl, g_3⟩ | ⟨rfl, g_4, g_5⟩ | ⟨rfl, g_6, g_7⟩
  · skip
    have g_3 : p1.toInt < 0 := zt_lt rfl (by decide) g_3
    refine lv_aload_n hx hb dL_law_280 rfl (lv_at hl 1 rfl) ?_
    refine lv_aload_n hx hb dL_law_281 rfl (lv_at hl 3 rfl) ?_
    refine lv_iload_n hx hb dL_law_282 rfl (lv_at hl 0 rfl) ?_
    refine lv_iconst (v := 1) hx hb dL_law_283 (by decide) ?_
    refine lv_iadd hx hb dL_law_284 ?_
    refine z_topi (y := 1) (by decide) ?_
    refine va_sld hx hb hX hbl hbA hS (z_in (by decide) (by decide)) dL_law_285 ?_
    refine z_topi (y := p1) e1.symm ?_
    refine zwV (As := [.int p1]) (rest := [.int 0]) (C := RX12) (n := 1) (wr := []) ⟨hx, hb, hml, hown, ht⟩ (k_X12_end l D _ am p1) (zgV ml_L_22 im_X12_end se_X12_end in_X12 co_X12_end) rfl rfl (by decide +kernel) ⟨Nat.le_of_ble_eq_true rfl, Nat.le_of_ble_eq_true rfl⟩ hK hP hD hS hA [0, 1] [] rfl rfl rfl rfl (by decide) 0 rfl rfl rfl rfl hl.1 rfl (Nat.le_of_ble_eq_true rfl) dL_law_286 ⟨Nat.le_of_ble_eq_true rfl, Nat.le_of_ble_eq_true rfl⟩ (fun r_9 u_8 H locs hw hP hD hS => ?_)
    have hP : va_P D vwCl [] H := hP
    have hD : va_D A [] := hD
    rcases hw with ⟨rfl, g_10⟩ | ⟨rfl, g_11, g_12⟩ | ⟨rfl, g_13, g_14⟩
    · skip
      have g_10 : p1.toInt < 0 := zt_lt rfl (by decide) g_10
      refine lv_icmp_eq (tgt := 1299) hx hb dL_law_289 (by decide) (fun _ => ?_) (fun c_15 => (z_abs c_15 (by decide)).elim)
      exact lc_end hx hb hr hlocks hX hbl hAs hS (lv_sub hl [0, 3] rfl) (Nat.le_of_ble_eq_true rfl) (Nat.le_of_ble_eq_true rfl)
    · skip
      have g_11 : 0 ≤ p1.toInt := zt_ge rfl (by decide) g_11
      have g_12 : p1.toInt ≤ 0 := zt_le rfl (by decide) g_12
      exfalso; omega
    · skip
      have g_13 : 0 ≤ p1.toInt := zt_ge rfl (by decide) g_13
      have g_14 : 0 < p1.toInt := zt_gt rfl (by decide) g_14
      exfalso; omega
  · skip
    have g_4 : 0 ≤ p1.toInt := zt_ge rfl (by decide) g_4
    have g_5 : p1.toInt ≤ 0 := zt_le rfl (by decide) g_5
    refine lv_aload_n hx hb dL_law_280 rfl (lv_at hl 1 rfl) ?_
    refine lv_aload_n hx hb dL_law_281 rfl (lv_at hl 3 rfl) ?_
    refine lv_iload_n hx hb dL_law_282 rfl (lv_at hl 0 rfl) ?_
    refine lv_iconst (v := 1) hx hb dL_law_283 (by decide) ?_
    refine lv_iadd hx hb dL_law_284 ?_
    refine z_topi (y := 1) (by decide) ?_
    refine va_sld hx hb hX hbl hbA hS (z_in (by decide) (by decide)) dL_law_285 ?_
    refine z_topi (y := p1) e1.symm ?_
    refine zwV (As := [.int p1]) (rest := [.int 1]) (C := RX12) (n := 1) (wr := []) ⟨hx, hb, hml, hown, ht⟩ (k_X12_end l D _ am p1) (zgV ml_L_22 im_X12_end se_X12_end in_X12 co_X12_end) rfl rfl (by decide +kernel) ⟨Nat.le_of_ble_eq_true rfl, Nat.le_of_ble_eq_true rfl⟩ hK hP hD hS hA [0, 1] [] rfl rfl rfl rfl (by decide) 0 rfl rfl rfl rfl hl.1 rfl (Nat.le_of_ble_eq_true rfl) dL_law_286 ⟨Nat.le_of_ble_eq_true rfl, Nat.le_of_ble_eq_true rfl⟩ (fun r_18 u_17 H locs hw hP hD hS => ?_)
    have hP : va_P D vwCl [] H := hP
    have hD : va_D A [] := hD
    rcases hw with ⟨rfl, g_19⟩ | ⟨rfl, g_20, g_21⟩ | ⟨rfl, g_22, g_23⟩
    · skip
      have g_19 : p1.toInt < 0 := zt_lt rfl (by decide) g_19
      exfalso; omega
    · skip
      have g_20 : 0 ≤ p1.toInt := zt_ge rfl (by decide) g_20
      have g_21 : p1.toInt ≤ 0 := zt_le rfl (by decide) g_21
      refine lv_icmp_eq (tgt := 1299) hx hb dL_law_289 (by decide) (fun _ => ?_) (fun c_24 => (z_abs c_24 (by decide)).elim)
      exact lc_end hx hb hr hlocks hX hbl hAs hS (lv_sub hl [0, 3] rfl) (Nat.le_of_ble_eq_true rfl) (Nat.le_of_ble_eq_true rfl)
    · skip
      have g_22 : 0 ≤ p1.toInt := zt_ge rfl (by decide) g_22
      have g_23 : 0 < p1.toInt := zt_gt rfl (by decide) g_23
      exfalso; omega
  · skip
    have g_6 : 0 ≤ p1.toInt := zt_ge rfl (by decide) g_6
    have g_7 : 0 < p1.toInt := zt_gt rfl (by decide) g_7
    refine lv_aload_n hx hb dL_law_280 rfl (lv_at hl 1 rfl) ?_
    refine lv_aload_n hx hb dL_law_281 rfl (lv_at hl 3 rfl) ?_
    refine lv_iload_n hx hb dL_law_282 rfl (lv_at hl 0 rfl) ?_
    refine lv_iconst (v := 1) hx hb dL_law_283 (by decide) ?_
    refine lv_iadd hx hb dL_law_284 ?_
    refine z_topi (y := 1) (by decide) ?_
    refine va_sld hx hb hX hbl hbA hS (z_in (by decide) (by decide)) dL_law_285 ?_
    refine z_topi (y := p1) e1.symm ?_
    refine zwV (As := [.int p1]) (rest := [.int 0]) (C := RX12) (n := 1) (wr := []) ⟨hx, hb, hml, hown, ht⟩ (k_X12_end l D _ am p1) (zgV ml_L_22 im_X12_end se_X12_end in_X12 co_X12_end) rfl rfl (by decide +kernel) ⟨Nat.le_of_ble_eq_true rfl, Nat.le_of_ble_eq_true rfl⟩ hK hP hD hS hA [0, 1] [] rfl rfl rfl rfl (by decide) 0 rfl rfl rfl rfl hl.1 rfl (Nat.le_of_ble_eq_true rfl) dL_law_286 ⟨Nat.le_of_ble_eq_true rfl, Nat.le_of_ble_eq_true rfl⟩ (fun r_27 u_26 H locs hw hP hD hS => ?_)
    have hP : va_P D vwCl [] H := hP
    have hD : va_D A [] := hD
    rcases hw with ⟨rfl, g_28⟩ | ⟨rfl, g_29, g_30⟩ | ⟨rfl, g_31, g_32⟩
    · skip
      have g_28 : p1.toInt < 0 := zt_lt rfl (by decide) g_28
      exfalso; omega
    · skip
      have g_29 : 0 ≤ p1.toInt := zt_ge rfl (by decide) g_29
      have g_30 : p1.toInt ≤ 0 := zt_le rfl (by decide) g_30
      exfalso; omega
    · skip
      have g_31 : 0 ≤ p1.toInt := zt_ge rfl (by decide) g_31
      have g_32 : 0 < p1.toInt := zt_gt rfl (by decide) g_32
      refine lv_icmp_eq (tgt := 1299) hx hb dL_law_289 (by decide) (fun _ => ?_) (fun c_33 => (z_abs c_33 (by decide)).elim)
      exact lc_end hx hb hr hlocks hX hbl hAs hS (lv_sub hl [0, 3] rfl) (Nat.le_of_ble_eq_true rfl) (Nat.le_of_ble_eq_true rfl)
set_option maxHeartbeats 4000000 in
set_option maxRecDepth 100000 in
/-- store -/
theorem lc_2 {p : Program} (l : Launch) {e : Env} {s : State} {m : MethodId} {below : List Frame} {meth : Method} {c : Code} {b : Nat} {xs : Nat → Int32} {H : Heap} {locs : List Loc} {ls : Array Slot} {A : Nat → Prop} {D : va_G} {ax am : Nat → Nat} {fb : Nat → Int32} {fe : Nat → Int32} {fc : Nat → Int32} (hx : p.tables.exec = Jvm.exec) (hb : c.code = cL_law) (hr : meth.sig.returnType = ret) (hlocks : meth.locks = false) (hml : c.maxLocals = 4) (hown : s.vm.findClass RL = some m.cls) (ht : ∀ w ∈ lw_gd, w.before #[Value.ref b] s = true) (hX : va_X b 6 xs s s.heap) (hbl : b < s.heap.size) (hA : ∀ q, s.heap.size ≤ q → A q) (hAs : ∀ q, A q → s.heap.size ≤ q) (hK : va_K D vwCl (TY D) s) (hP : va_P D vwCl [((ax 0), .inr (11, [.ref (ax 1), .ref (ax 2), .ref (ax 3), .ref (ax 4), .ref (ax 5), .ref (ax 6), .ref (ax 7), .ref (ax 8), .ref (ax 9), .ref (ax 10), .ref (ax 11), .ref (ax 12), .int 0])), ((ax 2), .inr (6, [.int 0, .int (-1), .ref (ax 1), .ref (ax 21), .null, .int 0, .int 0, .int 0, .int 0, .int 0, .int 0, .int 0])), ((ax 1), .inr (9, [.ref (ax 20), .int 0])), ((ax 11), .inr (5, [.int 0, .int 0, .int 0, .int 0, .int 0, .int 0, .ref (ax 50), .ref (ax 51), .ref (ax 52), .ref (ax 53), .ref (ax 54), .ref (ax 55), .ref (ax 56), .ref (ax 57)])), ((ax 55), .inr (0, [.ref (ax 58), .int 0])), ((ax 56), .inl (D.1 13, 3, .inl fb)), ((ax 57), .inl (D.1 13, 3, .inl fe)), ((ax 9), .inl (D.1 13, 6, .inl (fun _ => 0))), ((am 200), .inr (12, mO am 0 0 0 0 0 0 0 (-1) 0 0 1 0)), ((am 39), .inl (D.1 13, 10, .inl (fun _ => 0))), ((am 42), .inl (D.1 13, 6, .inl fc)), ((am 9), .inl (D.1 13, 6, .inl (fun _ => 0)))] H) (hD : va_D A [((ax 0), .inr (11, [.ref (ax 1), .ref (ax 2), .ref (ax 3), .ref (ax 4), .ref (ax 5), .ref (ax 6), .ref (ax 7), .ref (ax 8), .ref (ax 9), .ref (ax 10), .ref (ax 11), .ref (ax 12), .int 0])), ((ax 2), .inr (6, [.int 0, .int (-1), .ref (ax 1), .ref (ax 21), .null, .int 0, .int 0, .int 0, .int 0, .int 0, .int 0, .int 0])), ((ax 1), .inr (9, [.ref (ax 20), .int 0])), ((ax 11), .inr (5, [.int 0, .int 0, .int 0, .int 0, .int 0, .int 0, .ref (ax 50), .ref (ax 51), .ref (ax 52), .ref (ax 53), .ref (ax 54), .ref (ax 55), .ref (ax 56), .ref (ax 57)])), ((ax 55), .inr (0, [.ref (ax 58), .int 0])), ((ax 56), .inl (D.1 13, 3, .inl fb)), ((ax 57), .inl (D.1 13, 3, .inl fe)), ((ax 9), .inl (D.1 13, 6, .inl (fun _ => 0))), ((am 200), .inr (12, mO am 0 0 0 0 0 0 0 (-1) 0 0 1 0)), ((am 39), .inl (D.1 13, 10, .inl (fun _ => 0))), ((am 42), .inl (D.1 13, 6, .inl fc)), ((am 9), .inl (D.1 13, 6, .inl (fun _ => 0)))]) (hS : va_S A s.heap H locs) (hl : lv_has ls 4 [(3, .int 0), (2, .ref (am 200)), (1, .ref (ax 0)), (0, .ref b)]) : W p l e room_1 s m #[Value.ref b] below meth c H locs 164 46440 (lw_Z below #[Value.ref b] s) (F0 m 294 ls []) := by
  have hbA : ¬ A b := fun h => absurd (hAs b h) (Nat.not_le.mpr hbl)
  refine lv_aload_n hx hb dL_law_294 rfl (lv_at hl 2 rfl) ?_
  refine zwV (As := []) (rest := []) (C := RX11) (n := 0) (wr := [((am 200), .inr (12, mO am 0 0 0 0 0 0 0 (-1) 0 0 1 0)), ((am 39), .inl (D.1 13, 10, .inl (fun _ => 0))), ((am 42), .inl (D.1 13, 6, .inl fc)), ((am 9), .inl (D.1 13, 6, .inl (fun _ => 0)))]) ⟨hx, hb, hml, hown, ht⟩ (k_X11_store l D _ ax fb fe) (zgV ml_L_23 im_X11_store se_X11_store in_X11 co_X11_store) rfl rfl (by decide +kernel) ⟨Nat.le_of_ble_eq_true rfl, Nat.le_of_ble_eq_true rfl⟩ hK hP hD hS hA [0, 1, 2, 3, 4, 5, 6, 7] [8, 9, 10, 11] rfl rfl rfl rfl (by decide) 0 rfl rfl rfl rfl hl.1 rfl (Nat.le_of_ble_eq_true rfl) dL_law_295 ⟨Nat.le_of_ble_eq_true rfl, Nat.le_of_ble_eq_true rfl⟩ (fun r_2 u_1 H locs hw hP hD hS => ?_)
  have hP : va_P D vwCl [((am 200), .inr (12, mO am 0 0 0 0 0 0 0 (-1) 0 0 1 0)), ((am 39), .inl (D.1 13, 10, .inl (fun _ => 0))), ((am 42), .inl (D.1 13, 6, .inl fc)), ((am 9), .inl (D.1 13, 6, .inl (fun _ => 0)))] H := hP
  have hD : va_D A [((am 200), .inr (12, mO am 0 0 0 0 0 0 0 (-1) 0 0 1 0)), ((am 39), .inl (D.1 13, 10, .inl (fun _ => 0))), ((am 42), .inl (D.1 13, 6, .inl fc)), ((am 9), .inl (D.1 13, 6, .inl (fun _ => 0)))] := hD
  subst hw
  refine lv_aload_n hx hb dL_law_298 rfl (lv_at hl 1 rfl) ?_
  refine zwV (As := []) (rest := [.int (-1)]) (C := RX12) (n := 0) (wr := []) ⟨hx, hb, hml, hown, ht⟩ (k_X12_store l D _ am fc) (zgV ml_L_27 im_X12_store se_X12_store in_X12 co_X12_store) rfl rfl (by decide +kernel) ⟨Nat.le_of_ble_eq_true rfl, Nat.le_of_ble_eq_true rfl⟩ hK hP hD hS hA [0, 1, 2, 3] [] rfl rfl rfl rfl (by decide) 0 rfl rfl rfl rfl hl.1 rfl (Nat.le_of_ble_eq_true rfl) dL_law_299 ⟨Nat.le_of_ble_eq_true rfl, Nat.le_of_ble_eq_true rfl⟩ (fun r_4 u_3 H locs hw hP hD hS => ?_)
  have hP : va_P D vwCl [] H := hP
  have hD : va_D A [] := hD
  subst hw
  refine lv_icmp_eq (tgt := 1299) hx hb dL_law_302 (by decide) (fun _ => ?_) (fun c_5 => (z_abs c_5 (by decide)).elim)
  exact lc_end hx hb hr hlocks hX hbl hAs hS (lv_sub hl [0, 3] rfl) (Nat.le_of_ble_eq_true rfl) (Nat.le_of_ble_eq_true rfl)
set_option maxHeartbeats 4000000 in
set_option maxRecDepth 100000 in
/-- fault -/
theorem lc_3 {p : Program} (l : Launch) {e : Env} {s : State} {m : MethodId} {below : List Frame} {meth : Method} {c : Code} {b : Nat} {xs : Nat → Int32} {H : Heap} {locs : List Loc} {ls : Array Slot} {A : Nat → Prop} {D : va_G} {ax am : Nat → Nat} (hx : p.tables.exec = Jvm.exec) (hb : c.code = cL_law) (hr : meth.sig.returnType = ret) (hlocks : meth.locks = false) (hml : c.maxLocals = 4) (hown : s.vm.findClass RL = some m.cls) (ht : ∀ w ∈ lw_gd, w.before #[Value.ref b] s = true) (hX : va_X b 6 xs s s.heap) (hbl : b < s.heap.size) (hA : ∀ q, s.heap.size ≤ q → A q) (hAs : ∀ q, A q → s.heap.size ≤ q) (hK : va_K D vwCl (TY D) s) (hP : va_P D vwCl [((ax 0), .inr (11, [.ref (ax 1), .ref (ax 2), .ref (ax 3), .ref (ax 4), .ref (ax 5), .ref (ax 6), .ref (ax 7), .ref (ax 8), .ref (ax 9), .ref (ax 10), .ref (ax 11), .ref (ax 12), .int 0])), ((ax 2), .inr (6, [.int 0, .int (-1), .ref (ax 1), .ref (ax 21), .null, .int 0, .int 0, .int 0, .int 0, .int 0, .int 0, .int 0])), ((am 200), .inr (12, mO am 0 0 0 0 0 0 0 (-1) 0 0 1 0))] H) (hD : va_D A [((ax 0), .inr (11, [.ref (ax 1), .ref (ax 2), .ref (ax 3), .ref (ax 4), .ref (ax 5), .ref (ax 6), .ref (ax 7), .ref (ax 8), .ref (ax 9), .ref (ax 10), .ref (ax 11), .ref (ax 12), .int 0])), ((ax 2), .inr (6, [.int 0, .int (-1), .ref (ax 1), .ref (ax 21), .null, .int 0, .int 0, .int 0, .int 0, .int 0, .int 0, .int 0])), ((am 200), .inr (12, mO am 0 0 0 0 0 0 0 (-1) 0 0 1 0))]) (hS : va_S A s.heap H locs) (hl : lv_has ls 4 [(3, .int 0), (2, .ref (am 200)), (1, .ref (ax 0)), (0, .ref b)]) : W p l e room_1 s m #[Value.ref b] below meth c H locs 164 46440 (lw_Z below #[Value.ref b] s) (F0 m 307 ls []) := by
  have hbA : ¬ A b := fun h => absurd (hAs b h) (Nat.not_le.mpr hbl)
  refine lv_aload_n hx hb dL_law_307 rfl (lv_at hl 2 rfl) ?_
  refine lv_aload_n hx hb dL_law_308 rfl (lv_at hl 3 rfl) ?_
  refine lv_iload_n hx hb dL_law_309 rfl (lv_at hl 0 rfl) ?_
  refine lv_iconst (v := 1) hx hb dL_law_310 (by decide) ?_
  refine lv_iadd hx hb dL_law_311 ?_
  refine z_topi (y := 1) (by decide) ?_
  refine va_sld hx hb hX hbl hbA hS (z_in (by decide) (by decide)) dL_law_312 ?_
  refine lv_topi (fun p1 e1 => ?_)
  refine zcV (As := [.int p1]) (rest := []) (C := RX11) (n := 1) ⟨hx, hb, hml, hown, ht⟩ (k_X11_fault l D ax p1) (zgV ml_L_28 im_X11_fault se_X11_fault in_X11 co_X11_fault) rfl rfl (by decide +kernel) ⟨Nat.le_of_ble_eq_true rfl, Nat.le_of_ble_eq_true rfl⟩ hK hP hS [0, 1] rfl 0 rfl rfl rfl rfl hl.1 rfl (Nat.le_of_ble_eq_true rfl) dL_law_313 ⟨Nat.le_of_ble_eq_true rfl, Nat.le_of_ble_eq_true rfl⟩ (fun r_1 H locs hw hP hS => ?_)
  rcases hw with ⟨rfl, g_2, g_3⟩ | ⟨rfl, g_4, g_5⟩ | ⟨rfl, g_6⟩
  · skip
    have g_2 : ¬ p1.toInt = 0 := zt_ne rfl (by decide) g_2
    have g_3 : ¬ p1.toInt = 1 := zt_ne rfl (by decide) g_3
    refine lv_aload_n hx hb dL_law_316 rfl (lv_at hl 1 rfl) ?_
    refine lv_aload_n hx hb dL_law_317 rfl (lv_at hl 3 rfl) ?_
    refine lv_iload_n hx hb dL_law_318 rfl (lv_at hl 0 rfl) ?_
    refine lv_iconst (v := 1) hx hb dL_law_319 (by decide) ?_
    refine lv_iadd hx hb dL_law_320 ?_
    refine z_topi (y := 1) (by decide) ?_
    refine va_sld hx hb hX hbl hbA hS (z_in (by decide) (by decide)) dL_law_321 ?_
    refine z_topi (y := p1) e1.symm ?_
    refine zcV (As := [.int p1]) (rest := [.int (-1)]) (C := RX12) (n := 1) ⟨hx, hb, hml, hown, ht⟩ (k_X12_fault l D am p1) (zgV ml_L_32 im_X12_fault se_X12_fault in_X12 co_X12_fault) rfl rfl (by decide +kernel) ⟨Nat.le_of_ble_eq_true rfl, Nat.le_of_ble_eq_true rfl⟩ hK hP hS [2] rfl 0 rfl rfl rfl rfl hl.1 rfl (Nat.le_of_ble_eq_true rfl) dL_law_322 ⟨Nat.le_of_ble_eq_true rfl, Nat.le_of_ble_eq_true rfl⟩ (fun r_7 H locs hw hP hS => ?_)
    rcases hw with ⟨rfl, g_8, g_9⟩ | ⟨rfl, g_10, g_11⟩ | ⟨rfl, g_12⟩
    · skip
      have g_8 : ¬ p1.toInt = 0 := zt_ne rfl (by decide) g_8
      have g_9 : ¬ p1.toInt = 1 := zt_ne rfl (by decide) g_9
      refine lv_icmp_eq (tgt := 1299) hx hb dL_law_325 (by decide) (fun _ => ?_) (fun c_13 => (z_abs c_13 (by decide)).elim)
      exact lc_end hx hb hr hlocks hX hbl hAs hS (lv_sub hl [0, 3] rfl) (Nat.le_of_ble_eq_true rfl) (Nat.le_of_ble_eq_true rfl)
    · skip
      have g_10 : ¬ p1.toInt = 0 := zt_ne rfl (by decide) g_10
      have g_11 : p1.toInt = 1 := zt_eq rfl (by decide) g_11
      exfalso; omega
    · skip
      have g_12 : p1.toInt = 0 := zt_eq rfl (by decide) g_12
      exfalso; omega
  · skip
    have g_4 : ¬ p1.toInt = 0 := zt_ne rfl (by decide) g_4
    have g_5 : p1.toInt = 1 := zt_eq rfl (by decide) g_5
    refine lv_aload_n hx hb dL_law_316 rfl (lv_at hl 1 rfl) ?_
    refine lv_aload_n hx hb dL_law_317 rfl (lv_at hl 3 rfl) ?_
    refine lv_iload_n hx hb dL_law_318 rfl (lv_at hl 0 rfl) ?_
    refine lv_iconst (v := 1) hx hb dL_law_319 (by decide) ?_
    refine lv_iadd hx hb dL_law_320 ?_
    refine z_topi (y := 1) (by decide) ?_
    refine va_sld hx hb hX hbl hbA hS (z_in (by decide) (by decide)) dL_law_321 ?_
    refine z_topi (y := p1) e1.symm ?_
    refine zcV (As := [.int p1]) (rest := [.int (-1)]) (C := RX12) (n := 1) ⟨hx, hb, hml, hown, ht⟩ (k_X12_fault l D am p1) (zgV ml_L_32 im_X12_fault se_X12_fault in_X12 co_X12_fault) rfl rfl (by decide +kernel) ⟨Nat.le_of_ble_eq_true rfl, Nat.le_of_ble_eq_true rfl⟩ hK hP hS [2] rfl 0 rfl rfl rfl rfl hl.1 rfl (Nat.le_of_ble_eq_true rfl) dL_law_322 ⟨Nat.le_of_ble_eq_true rfl, Nat.le_of_ble_eq_true rfl⟩ (fun r_15 H locs hw hP hS => ?_)
    rcases hw with ⟨rfl, g_16, g_17⟩ | ⟨rfl, g_18, g_19⟩ | ⟨rfl, g_20⟩
    · skip
      have g_16 : ¬ p1.toInt = 0 := zt_ne rfl (by decide) g_16
      have g_17 : ¬ p1.toInt = 1 := zt_ne rfl (by decide) g_17
      exfalso; omega
    · skip
      have g_18 : ¬ p1.toInt = 0 := zt_ne rfl (by decide) g_18
      have g_19 : p1.toInt = 1 := zt_eq rfl (by decide) g_19
      refine lv_icmp_eq (tgt := 1299) hx hb dL_law_325 (by decide) (fun _ => ?_) (fun c_21 => (z_abs c_21 (by decide)).elim)
      exact lc_end hx hb hr hlocks hX hbl hAs hS (lv_sub hl [0, 3] rfl) (Nat.le_of_ble_eq_true rfl) (Nat.le_of_ble_eq_true rfl)
    · skip
      have g_20 : p1.toInt = 0 := zt_eq rfl (by decide) g_20
      exfalso; omega
  · skip
    have g_6 : p1.toInt = 0 := zt_eq rfl (by decide) g_6
    refine lv_aload_n hx hb dL_law_316 rfl (lv_at hl 1 rfl) ?_
    refine lv_aload_n hx hb dL_law_317 rfl (lv_at hl 3 rfl) ?_
    refine lv_iload_n hx hb dL_law_318 rfl (lv_at hl 0 rfl) ?_
    refine lv_iconst (v := 1) hx hb dL_law_319 (by decide) ?_
    refine lv_iadd hx hb dL_law_320 ?_
    refine z_topi (y := 1) (by decide) ?_
    refine va_sld hx hb hX hbl hbA hS (z_in (by decide) (by decide)) dL_law_321 ?_
    refine z_topi (y := p1) e1.symm ?_
    refine zcV (As := [.int p1]) (rest := [.int 0]) (C := RX12) (n := 1) ⟨hx, hb, hml, hown, ht⟩ (k_X12_fault l D am p1) (zgV ml_L_32 im_X12_fault se_X12_fault in_X12 co_X12_fault) rfl rfl (by decide +kernel) ⟨Nat.le_of_ble_eq_true rfl, Nat.le_of_ble_eq_true rfl⟩ hK hP hS [2] rfl 0 rfl rfl rfl rfl hl.1 rfl (Nat.le_of_ble_eq_true rfl) dL_law_322 ⟨Nat.le_of_ble_eq_true rfl, Nat.le_of_ble_eq_true rfl⟩ (fun r_23 H locs hw hP hS => ?_)
    rcases hw with ⟨rfl, g_24, g_25⟩ | ⟨rfl, g_26, g_27⟩ | ⟨rfl, g_28⟩
    · skip
      have g_24 : ¬ p1.toInt = 0 := zt_ne rfl (by decide) g_24
      have g_25 : ¬ p1.toInt = 1 := zt_ne rfl (by decide) g_25
      exfalso; omega
    · skip
      have g_26 : ¬ p1.toInt = 0 := zt_ne rfl (by decide) g_26
      have g_27 : p1.toInt = 1 := zt_eq rfl (by decide) g_27
      exfalso; omega
    · skip
      have g_28 : p1.toInt = 0 := zt_eq rfl (by decide) g_28
      refine lv_icmp_eq (tgt := 1299) hx hb dL_law_325 (by decide) (fun _ => ?_) (fun c_29 => (z_abs c_29 (by decide)).elim)
      exact lc_end hx hb hr hlocks hX hbl hAs hS (lv_sub hl [0, 3] rfl) (Nat.le_of_ble_eq_true rfl) (Nat.le_of_ble_eq_true rfl)
set_option maxHeartbeats 4000000 in
set_option maxRecDepth 100000 in
/-- has -/
theorem lc_4 {p : Program} (l : Launch) {e : Env} {s : State} {m : MethodId} {below : List Frame} {meth : Method} {c : Code} {b : Nat} {xs : Nat → Int32} {H : Heap} {locs : List Loc} {ls : Array Slot} {A : Nat → Prop} {D : va_G} {ax am : Nat → Nat} (hx : p.tables.exec = Jvm.exec) (hb : c.code = cL_law) (hr : meth.sig.returnType = ret) (hlocks : meth.locks = false) (hml : c.maxLocals = 4) (hown : s.vm.findClass RL = some m.cls) (ht : ∀ w ∈ lw_gd, w.before #[Value.ref b] s = true) (hX : va_X b 6 xs s s.heap) (hbl : b < s.heap.size) (hA : ∀ q, s.heap.size ≤ q → A q) (hAs : ∀ q, A q → s.heap.size ≤ q) (hK : va_K D vwCl (TY D) s) (hP : va_P D vwCl [((ax 0), .inr (11, [.ref (ax 1), .ref (ax 2), .ref (ax 3), .ref (ax 4), .ref (ax 5), .ref (ax 6), .ref (ax 7), .ref (ax 8), .ref (ax 9), .ref (ax 10), .ref (ax 11), .ref (ax 12), .int 0])), ((ax 12), .inr (1, [.ref (ax 13), .ref (ax 14), .ref (ax 15), .int 1, .ref (ax 10), .ref (ax 16), .ref (ax 17), .ref (ax 18), .ref (ax 19)])), ((ax 13), .inr (8, [.int 0, .int 0, .long 0, .ref (ax 60), .ref (ax 61), .ref (ax 62), .ref (ax 63), .ref (ax 64), .ref (ax 65), .ref (ax 66), .ref (ax 67)])), ((ax 66), .inl (D.1 13, 8, .inl (fun _ => (-2)))), ((ax 3), .inr (2, [.ref (ax 22), .ref (ax 23), .ref (ax 24), .int 0, .ref (ax 25), .int 0])), ((ax 4), .inr (7, [.int 0, .ref (ax 26), .ref (ax 27), .ref (ax 28), .int 0, .ref (ax 29)])), ((am 200), .inr (12, mO am 0 0 0 0 0 0 0 (-1) 0 0 1 0)), ((am 39), .inl (D.1 13, 10, .inl (fun _ => 0))), ((am 49), .inl (D.1 13, 906, .inl (fun _ => 0)))] H) (hD : va_D A [((ax 0), .inr (11, [.ref (ax 1), .ref (ax 2), .ref (ax 3), .ref (ax 4), .ref (ax 5), .ref (ax 6), .ref (ax 7), .ref (ax 8), .ref (ax 9), .ref (ax 10), .ref (ax 11), .ref (ax 12), .int 0])), ((ax 12), .inr (1, [.ref (ax 13), .ref (ax 14), .ref (ax 15), .int 1, .ref (ax 10), .ref (ax 16), .ref (ax 17), .ref (ax 18), .ref (ax 19)])), ((ax 13), .inr (8, [.int 0, .int 0, .long 0, .ref (ax 60), .ref (ax 61), .ref (ax 62), .ref (ax 63), .ref (ax 64), .ref (ax 65), .ref (ax 66), .ref (ax 67)])), ((ax 66), .inl (D.1 13, 8, .inl (fun _ => (-2)))), ((ax 3), .inr (2, [.ref (ax 22), .ref (ax 23), .ref (ax 24), .int 0, .ref (ax 25), .int 0])), ((ax 4), .inr (7, [.int 0, .ref (ax 26), .ref (ax 27), .ref (ax 28), .int 0, .ref (ax 29)])), ((am 200), .inr (12, mO am 0 0 0 0 0 0 0 (-1) 0 0 1 0)), ((am 39), .inl (D.1 13, 10, .inl (fun _ => 0))), ((am 49), .inl (D.1 13, 906, .inl (fun _ => 0)))]) (hS : va_S A s.heap H locs) (hl : lv_has ls 4 [(3, .int 0), (2, .ref (am 200)), (1, .ref (ax 0)), (0, .ref b)]) : W p l e room_1 s m #[Value.ref b] below meth c H locs 164 46440 (lw_Z below #[Value.ref b] s) (F0 m 330 ls []) := by
  have hbA : ¬ A b := fun h => absurd (hAs b h) (Nat.not_le.mpr hbl)
  refine lv_aload_n hx hb dL_law_330 rfl (lv_at hl 2 rfl) ?_
  refine lv_aload_n hx hb dL_law_331 rfl (lv_at hl 3 rfl) ?_
  refine lv_iload_n hx hb dL_law_332 rfl (lv_at hl 0 rfl) ?_
  refine lv_iconst (v := 1) hx hb dL_law_333 (by decide) ?_
  refine lv_iadd hx hb dL_law_334 ?_
  refine z_topi (y := 1) (by decide) ?_
  refine va_sld hx hb hX hbl hbA hS (z_in (by decide) (by decide)) dL_law_335 ?_
  refine lv_topi (fun p1 e1 => ?_)
  refine zcV (As := [.int p1]) (rest := []) (C := RX11) (n := 1) ⟨hx, hb, hml, hown, ht⟩ (k_X11_has l D ax p1) (zgV ml_L_33 im_X11_has se_X11_has in_X11 co_X11_has) rfl rfl (by decide +kernel) ⟨Nat.le_of_ble_eq_true rfl, Nat.le_of_ble_eq_true rfl⟩ hK hP hS [0, 1, 2, 3, 4, 5] rfl 0 rfl rfl rfl rfl hl.1 rfl (Nat.le_of_ble_eq_true rfl) dL_law_336 ⟨Nat.le_of_ble_eq_true rfl, Nat.le_of_ble_eq_true rfl⟩ (fun r_1 H locs hw hP hS => ?_)
  rcases hw with ⟨rfl, g_2⟩ | ⟨rfl, g_3, g_4⟩ | ⟨rfl, g_5, g_6, g_7⟩ | ⟨rfl, g_8, g_9, g_10, g_11⟩ | ⟨rfl, g_12, g_13, g_14, g_15, g_16⟩ | ⟨rfl, g_17, g_18, g_19, g_20, g_21, g_22⟩ | ⟨rfl, g_23, g_24, g_25, g_26, g_27, g_28, g_29⟩ | ⟨rfl, g_30, g_31, g_32, g_33, g_34, g_35, g_36, g_37⟩ | ⟨rfl, g_38, g_39, g_40, g_41, g_42, g_43, g_44, g_45, g_46⟩ | ⟨rfl, g_47, g_48, g_49, g_50, g_51, g_52, g_53, g_54, g_55, g_56⟩ | ⟨rfl, g_57, g_58, g_59, g_60, g_61, g_62, g_63, g_64, g_65, g_66⟩
  · skip
    have g_2 : p1.toInt = 0 := zt_eq rfl (by decide) g_2
    refine lv_aload_n hx hb dL_law_339 rfl (lv_at hl 1 rfl) ?_
    refine lv_aload_n hx hb dL_law_340 rfl (lv_at hl 3 rfl) ?_
    refine lv_iload_n hx hb dL_law_341 rfl (lv_at hl 0 rfl) ?_
    refine lv_iconst (v := 1) hx hb dL_law_342 (by decide) ?_
    refine lv_iadd hx hb dL_law_343 ?_
    refine z_topi (y := 1) (by decide) ?_
    refine va_sld hx hb hX hbl hbA hS (z_in (by decide) (by decide)) dL_law_344 ?_
    refine z_topi (y := p1) e1.symm ?_
    refine zcV (As := [.int p1]) (rest := [.int 0]) (C := RX12) (n := 1) ⟨hx, hb, hml, hown, ht⟩ (k_X12_has l D am p1) (zgV ml_L_36 im_X12_has se_X12_has in_X12 co_X12_has) rfl rfl (by decide +kernel) ⟨Nat.le_of_ble_eq_true rfl, Nat.le_of_ble_eq_true rfl⟩ hK hP hS [6, 7, 8] rfl 0 rfl rfl rfl rfl hl.1 rfl (Nat.le_of_ble_eq_true rfl) dL_law_345 ⟨Nat.le_of_ble_eq_true rfl, Nat.le_of_ble_eq_true rfl⟩ (fun r_67 H locs hw hP hS => ?_)
    rcases hw with ⟨rfl, g_68⟩ | ⟨rfl, g_69, g_70⟩ | ⟨rfl, g_71, g_72, g_73⟩ | ⟨rfl, g_74, g_75, g_76, g_77⟩ | ⟨rfl, g_78, g_79, g_80, g_81, g_82⟩ | ⟨rfl, g_83, g_84, g_85, g_86, g_87, g_88⟩ | ⟨rfl, g_89, g_90, g_91, g_92, g_93, g_94, g_95⟩ | ⟨rfl, g_96, g_97, g_98, g_99, g_100, g_101, g_102, g_103⟩ | ⟨rfl, g_104, g_105, g_106, g_107, g_108, g_109, g_110, g_111, g_112⟩ | ⟨rfl, g_113, g_114, g_115, g_116, g_117, g_118, g_119, g_120, g_121, g_122⟩ | ⟨rfl, g_123, g_124, g_125, g_126, g_127, g_128, g_129, g_130, g_131, g_132⟩
    · skip
      have g_68 : p1.toInt = 0 := zt_eq rfl (by decide) g_68
      refine lv_icmp_eq (tgt := 1299) hx hb dL_law_348 (by decide) (fun _ => ?_) (fun c_133 => (z_abs c_133 (by decide)).elim)
      exact lc_end hx hb hr hlocks hX hbl hAs hS (lv_sub hl [0, 3] rfl) (Nat.le_of_ble_eq_true rfl) (Nat.le_of_ble_eq_true rfl)
    · skip
      have g_69 : ¬ p1.toInt = 0 := zt_ne rfl (by decide) g_69
      have g_70 : p1.toInt = 1 := zt_eq rfl (by decide) g_70
      exfalso; omega
    · skip
      have g_71 : ¬ p1.toInt = 0 := zt_ne rfl (by decide) g_71
      have g_72 : ¬ p1.toInt = 1 := zt_ne rfl (by decide) g_72
      have g_73 : p1.toInt = 2 := zt_eq rfl (by decide) g_73
      exfalso; omega
    · skip
      have g_74 : ¬ p1.toInt = 0 := zt_ne rfl (by decide) g_74
      have g_75 : ¬ p1.toInt = 1 := zt_ne rfl (by decide) g_75
      have g_76 : ¬ p1.toInt = 2 := zt_ne rfl (by decide) g_76
      have g_77 : p1.toInt = 3 := zt_eq rfl (by decide) g_77
      exfalso; omega
    · skip
      have g_78 : ¬ p1.toInt = 0 := zt_ne rfl (by decide) g_78
      have g_79 : ¬ p1.toInt = 1 := zt_ne rfl (by decide) g_79
      have g_80 : ¬ p1.toInt = 2 := zt_ne rfl (by decide) g_80
      have g_81 : ¬ p1.toInt = 3 := zt_ne rfl (by decide) g_81
      have g_82 : p1.toInt = 4 := zt_eq rfl (by decide) g_82
      exfalso; omega
    · skip
      have g_83 : ¬ p1.toInt = 0 := zt_ne rfl (by decide) g_83
      have g_84 : ¬ p1.toInt = 1 := zt_ne rfl (by decide) g_84
      have g_85 : ¬ p1.toInt = 2 := zt_ne rfl (by decide) g_85
      have g_86 : ¬ p1.toInt = 3 := zt_ne rfl (by decide) g_86
      have g_87 : ¬ p1.toInt = 4 := zt_ne rfl (by decide) g_87
      have g_88 : p1.toInt = 5 := zt_eq rfl (by decide) g_88
      exfalso; omega
    · skip
      have g_89 : ¬ p1.toInt = 0 := zt_ne rfl (by decide) g_89
      have g_90 : ¬ p1.toInt = 1 := zt_ne rfl (by decide) g_90
      have g_91 : ¬ p1.toInt = 2 := zt_ne rfl (by decide) g_91
      have g_92 : ¬ p1.toInt = 3 := zt_ne rfl (by decide) g_92
      have g_93 : ¬ p1.toInt = 4 := zt_ne rfl (by decide) g_93
      have g_94 : ¬ p1.toInt = 5 := zt_ne rfl (by decide) g_94
      have g_95 : p1.toInt = 6 := zt_eq rfl (by decide) g_95
      exfalso; omega
    · skip
      have g_96 : ¬ p1.toInt = 0 := zt_ne rfl (by decide) g_96
      have g_97 : ¬ p1.toInt = 1 := zt_ne rfl (by decide) g_97
      have g_98 : ¬ p1.toInt = 2 := zt_ne rfl (by decide) g_98
      have g_99 : ¬ p1.toInt = 3 := zt_ne rfl (by decide) g_99
      have g_100 : ¬ p1.toInt = 4 := zt_ne rfl (by decide) g_100
      have g_101 : ¬ p1.toInt = 5 := zt_ne rfl (by decide) g_101
      have g_102 : ¬ p1.toInt = 6 := zt_ne rfl (by decide) g_102
      have g_103 : p1.toInt = 7 := zt_eq rfl (by decide) g_103
      exfalso; omega
    · skip
      have g_104 : ¬ p1.toInt = 0 := zt_ne rfl (by decide) g_104
      have g_105 : ¬ p1.toInt = 1 := zt_ne rfl (by decide) g_105
      have g_106 : ¬ p1.toInt = 2 := zt_ne rfl (by decide) g_106
      have g_107 : ¬ p1.toInt = 3 := zt_ne rfl (by decide) g_107
      have g_108 : ¬ p1.toInt = 4 := zt_ne rfl (by decide) g_108
      have g_109 : ¬ p1.toInt = 5 := zt_ne rfl (by decide) g_109
      have g_110 : ¬ p1.toInt = 6 := zt_ne rfl (by decide) g_110
      have g_111 : ¬ p1.toInt = 7 := zt_ne rfl (by decide) g_111
      have g_112 : p1.toInt = 8 := zt_eq rfl (by decide) g_112
      exfalso; omega
    · skip
      have g_113 : ¬ p1.toInt = 0 := zt_ne rfl (by decide) g_113
      have g_114 : ¬ p1.toInt = 1 := zt_ne rfl (by decide) g_114
      have g_115 : ¬ p1.toInt = 2 := zt_ne rfl (by decide) g_115
      have g_116 : ¬ p1.toInt = 3 := zt_ne rfl (by decide) g_116
      have g_117 : ¬ p1.toInt = 4 := zt_ne rfl (by decide) g_117
      have g_118 : ¬ p1.toInt = 5 := zt_ne rfl (by decide) g_118
      have g_119 : ¬ p1.toInt = 6 := zt_ne rfl (by decide) g_119
      have g_120 : ¬ p1.toInt = 7 := zt_ne rfl (by decide) g_120
      have g_121 : ¬ p1.toInt = 8 := zt_ne rfl (by decide) g_121
      have g_122 : p1.toInt = 9 := zt_eq rfl (by decide) g_122
      exfalso; omega
    · skip
      have g_123 : ¬ p1.toInt = 0 := zt_ne rfl (by decide) g_123
      have g_124 : ¬ p1.toInt = 1 := zt_ne rfl (by decide) g_124
      have g_125 : ¬ p1.toInt = 2 := zt_ne rfl (by decide) g_125
      have g_126 : ¬ p1.toInt = 3 := zt_ne rfl (by decide) g_126
      have g_127 : ¬ p1.toInt = 4 := zt_ne rfl (by decide) g_127
      have g_128 : ¬ p1.toInt = 5 := zt_ne rfl (by decide) g_128
      have g_129 : ¬ p1.toInt = 6 := zt_ne rfl (by decide) g_129
      have g_130 : ¬ p1.toInt = 7 := zt_ne rfl (by decide) g_130
      have g_131 : ¬ p1.toInt = 8 := zt_ne rfl (by decide) g_131
      have g_132 : ¬ p1.toInt = 9 := zt_ne rfl (by decide) g_132
      exfalso; omega
  · skip
    have g_3 : ¬ p1.toInt = 0 := zt_ne rfl (by decide) g_3
    have g_4 : p1.toInt = 1 := zt_eq rfl (by decide) g_4
    refine lv_aload_n hx hb dL_law_339 rfl (lv_at hl 1 rfl) ?_
    refine lv_aload_n hx hb dL_law_340 rfl (lv_at hl 3 rfl) ?_
    refine lv_iload_n hx hb dL_law_341 rfl (lv_at hl 0 rfl) ?_
    refine lv_iconst (v := 1) hx hb dL_law_342 (by decide) ?_
    refine lv_iadd hx hb dL_law_343 ?_
    refine z_topi (y := 1) (by decide) ?_
    refine va_sld hx hb hX hbl hbA hS (z_in (by decide) (by decide)) dL_law_344 ?_
    refine z_topi (y := p1) e1.symm ?_
    refine zcV (As := [.int p1]) (rest := [.int 0]) (C := RX12) (n := 1) ⟨hx, hb, hml, hown, ht⟩ (k_X12_has l D am p1) (zgV ml_L_36 im_X12_has se_X12_has in_X12 co_X12_has) rfl rfl (by decide +kernel) ⟨Nat.le_of_ble_eq_true rfl, Nat.le_of_ble_eq_true rfl⟩ hK hP hS [6, 7, 8] rfl 0 rfl rfl rfl rfl hl.1 rfl (Nat.le_of_ble_eq_true rfl) dL_law_345 ⟨Nat.le_of_ble_eq_true rfl, Nat.le_of_ble_eq_true rfl⟩ (fun r_135 H locs hw hP hS => ?_)
    rcases hw with ⟨rfl, g_136⟩ | ⟨rfl, g_137, g_138⟩ | ⟨rfl, g_139, g_140, g_141⟩ | ⟨rfl, g_142, g_143, g_144, g_145⟩ | ⟨rfl, g_146, g_147, g_148, g_149, g_150⟩ | ⟨rfl, g_151, g_152, g_153, g_154, g_155, g_156⟩ | ⟨rfl, g_157, g_158, g_159, g_160, g_161, g_162, g_163⟩ | ⟨rfl, g_164, g_165, g_166, g_167, g_168, g_169, g_170, g_171⟩ | ⟨rfl, g_172, g_173, g_174, g_175, g_176, g_177, g_178, g_179, g_180⟩ | ⟨rfl, g_181, g_182, g_183, g_184, g_185, g_186, g_187, g_188, g_189, g_190⟩ | ⟨rfl, g_191, g_192, g_193, g_194, g_195, g_196, g_197, g_198, g_199, g_200⟩
    · skip
      have g_136 : p1.toInt = 0 := zt_eq rfl (by decide) g_136
      exfalso; omega
    · skip
      have g_137 : ¬ p1.toInt = 0 := zt_ne rfl (by decide) g_137
      have g_138 : p1.toInt = 1 := zt_eq rfl (by decide) g_138
      refine lv_icmp_eq (tgt := 1299) hx hb dL_law_348 (by decide) (fun _ => ?_) (fun c_201 => (z_abs c_201 (by decide)).elim)
      exact lc_end hx hb hr hlocks hX hbl hAs hS (lv_sub hl [0, 3] rfl) (Nat.le_of_ble_eq_true rfl) (Nat.le_of_ble_eq_true rfl)
    · skip
      have g_139 : ¬ p1.toInt = 0 := zt_ne rfl (by decide) g_139
      have g_140 : ¬ p1.toInt = 1 := zt_ne rfl (by decide) g_140
      have g_141 : p1.toInt = 2 := zt_eq rfl (by decide) g_141
      exfalso; omega
    · skip
      have g_142 : ¬ p1.toInt = 0 := zt_ne rfl (by decide) g_142
      have g_143 : ¬ p1.toInt = 1 := zt_ne rfl (by decide) g_143
      have g_144 : ¬ p1.toInt = 2 := zt_ne rfl (by decide) g_144
      have g_145 : p1.toInt = 3 := zt_eq rfl (by decide) g_145
      exfalso; omega
    · skip
      have g_146 : ¬ p1.toInt = 0 := zt_ne rfl (by decide) g_146
      have g_147 : ¬ p1.toInt = 1 := zt_ne rfl (by decide) g_147
      have g_148 : ¬ p1.toInt = 2 := zt_ne rfl (by decide) g_148
      have g_149 : ¬ p1.toInt = 3 := zt_ne rfl (by decide) g_149
      have g_150 : p1.toInt = 4 := zt_eq rfl (by decide) g_150
      exfalso; omega
    · skip
      have g_151 : ¬ p1.toInt = 0 := zt_ne rfl (by decide) g_151
      have g_152 : ¬ p1.toInt = 1 := zt_ne rfl (by decide) g_152
      have g_153 : ¬ p1.toInt = 2 := zt_ne rfl (by decide) g_153
      have g_154 : ¬ p1.toInt = 3 := zt_ne rfl (by decide) g_154
      have g_155 : ¬ p1.toInt = 4 := zt_ne rfl (by decide) g_155
      have g_156 : p1.toInt = 5 := zt_eq rfl (by decide) g_156
      exfalso; omega
    · skip
      have g_157 : ¬ p1.toInt = 0 := zt_ne rfl (by decide) g_157
      have g_158 : ¬ p1.toInt = 1 := zt_ne rfl (by decide) g_158
      have g_159 : ¬ p1.toInt = 2 := zt_ne rfl (by decide) g_159
      have g_160 : ¬ p1.toInt = 3 := zt_ne rfl (by decide) g_160
      have g_161 : ¬ p1.toInt = 4 := zt_ne rfl (by decide) g_161
      have g_162 : ¬ p1.toInt = 5 := zt_ne rfl (by decide) g_162
      have g_163 : p1.toInt = 6 := zt_eq rfl (by decide) g_163
      exfalso; omega
    · skip
      have g_164 : ¬ p1.toInt = 0 := zt_ne rfl (by decide) g_164
      have g_165 : ¬ p1.toInt = 1 := zt_ne rfl (by decide) g_165
      have g_166 : ¬ p1.toInt = 2 := zt_ne rfl (by decide) g_166
      have g_167 : ¬ p1.toInt = 3 := zt_ne rfl (by decide) g_167
      have g_168 : ¬ p1.toInt = 4 := zt_ne rfl (by decide) g_168
      have g_169 : ¬ p1.toInt = 5 := zt_ne rfl (by decide) g_169
      have g_170 : ¬ p1.toInt = 6 := zt_ne rfl (by decide) g_170
      have g_171 : p1.toInt = 7 := zt_eq rfl (by decide) g_171
      exfalso; omega
    · skip
      have g_172 : ¬ p1.toInt = 0 := zt_ne rfl (by decide) g_172
      have g_173 : ¬ p1.toInt = 1 := zt_ne rfl (by decide) g_173
      have g_174 : ¬ p1.toInt = 2 := zt_ne rfl (by decide) g_174
      have g_175 : ¬ p1.toInt = 3 := zt_ne rfl (by decide) g_175
      have g_176 : ¬ p1.toInt = 4 := zt_ne rfl (by decide) g_176
      have g_177 : ¬ p1.toInt = 5 := zt_ne rfl (by decide) g_177
      have g_178 : ¬ p1.toInt = 6 := zt_ne rfl (by decide) g_178
      have g_179 : ¬ p1.toInt = 7 := zt_ne rfl (by decide) g_179
      have g_180 : p1.toInt = 8 := zt_eq rfl (by decide) g_180
      exfalso; omega
    · skip
      have g_181 : ¬ p1.toInt = 0 := zt_ne rfl (by decide) g_181
      have g_182 : ¬ p1.toInt = 1 := zt_ne rfl (by decide) g_182
      have g_183 : ¬ p1.toInt = 2 := zt_ne rfl (by decide) g_183
      have g_184 : ¬ p1.toInt = 3 := zt_ne rfl (by decide) g_184
      have g_185 : ¬ p1.toInt = 4 := zt_ne rfl (by decide) g_185
      have g_186 : ¬ p1.toInt = 5 := zt_ne rfl (by decide) g_186
      have g_187 : ¬ p1.toInt = 6 := zt_ne rfl (by decide) g_187
      have g_188 : ¬ p1.toInt = 7 := zt_ne rfl (by decide) g_188
      have g_189 : ¬ p1.toInt = 8 := zt_ne rfl (by decide) g_189
      have g_190 : p1.toInt = 9 := zt_eq rfl (by decide) g_190
      exfalso; omega
    · skip
      have g_191 : ¬ p1.toInt = 0 := zt_ne rfl (by decide) g_191
      have g_192 : ¬ p1.toInt = 1 := zt_ne rfl (by decide) g_192
      have g_193 : ¬ p1.toInt = 2 := zt_ne rfl (by decide) g_193
      have g_194 : ¬ p1.toInt = 3 := zt_ne rfl (by decide) g_194
      have g_195 : ¬ p1.toInt = 4 := zt_ne rfl (by decide) g_195
      have g_196 : ¬ p1.toInt = 5 := zt_ne rfl (by decide) g_196
      have g_197 : ¬ p1.toInt = 6 := zt_ne rfl (by decide) g_197
      have g_198 : ¬ p1.toInt = 7 := zt_ne rfl (by decide) g_198
      have g_199 : ¬ p1.toInt = 8 := zt_ne rfl (by decide) g_199
      have g_200 : ¬ p1.toInt = 9 := zt_ne rfl (by decide) g_200
      exfalso; omega
  · skip
    have g_5 : ¬ p1.toInt = 0 := zt_ne rfl (by decide) g_5
    have g_6 : ¬ p1.toInt = 1 := zt_ne rfl (by decide) g_6
    have g_7 : p1.toInt = 2 := zt_eq rfl (by decide) g_7
    refine lv_aload_n hx hb dL_law_339 rfl (lv_at hl 1 rfl) ?_
    refine lv_aload_n hx hb dL_law_340 rfl (lv_at hl 3 rfl) ?_
    refine lv_iload_n hx hb dL_law_341 rfl (lv_at hl 0 rfl) ?_
    refine lv_iconst (v := 1) hx hb dL_law_342 (by decide) ?_
    refine lv_iadd hx hb dL_law_343 ?_
    refine z_topi (y := 1) (by decide) ?_
    refine va_sld hx hb hX hbl hbA hS (z_in (by decide) (by decide)) dL_law_344 ?_
    refine z_topi (y := p1) e1.symm ?_
    refine zcV (As := [.int p1]) (rest := [.int 0]) (C := RX12) (n := 1) ⟨hx, hb, hml, hown, ht⟩ (k_X12_has l D am p1) (zgV ml_L_36 im_X12_has se_X12_has in_X12 co_X12_has) rfl rfl (by decide +kernel) ⟨Nat.le_of_ble_eq_true rfl, Nat.le_of_ble_eq_true rfl⟩ hK hP hS [6, 7, 8] rfl 0 rfl rfl rfl rfl hl.1 rfl (Nat.le_of_ble_eq_true rfl) dL_law_345 ⟨Nat.le_of_ble_eq_true rfl, Nat.le_of_ble_eq_true rfl⟩ (fun r_203 H locs hw hP hS => ?_)
    rcases hw with ⟨rfl, g_204⟩ | ⟨rfl, g_205, g_206⟩ | ⟨rfl, g_207, g_208, g_209⟩ | ⟨rfl, g_210, g_211, g_212, g_213⟩ | ⟨rfl, g_214, g_215, g_216, g_217, g_218⟩ | ⟨rfl, g_219, g_220, g_221, g_222, g_223, g_224⟩ | ⟨rfl, g_225, g_226, g_227, g_228, g_229, g_230, g_231⟩ | ⟨rfl, g_232, g_233, g_234, g_235, g_236, g_237, g_238, g_239⟩ | ⟨rfl, g_240, g_241, g_242, g_243, g_244, g_245, g_246, g_247, g_248⟩ | ⟨rfl, g_249, g_250, g_251, g_252, g_253, g_254, g_255, g_256, g_257, g_258⟩ | ⟨rfl, g_259, g_260, g_261, g_262, g_263, g_264, g_265, g_266, g_267, g_268⟩
    · skip
      have g_204 : p1.toInt = 0 := zt_eq rfl (by decide) g_204
      exfalso; omega
    · skip
      have g_205 : ¬ p1.toInt = 0 := zt_ne rfl (by decide) g_205
      have g_206 : p1.toInt = 1 := zt_eq rfl (by decide) g_206
      exfalso; omega
    · skip
      have g_207 : ¬ p1.toInt = 0 := zt_ne rfl (by decide) g_207
      have g_208 : ¬ p1.toInt = 1 := zt_ne rfl (by decide) g_208
      have g_209 : p1.toInt = 2 := zt_eq rfl (by decide) g_209
      refine lv_icmp_eq (tgt := 1299) hx hb dL_law_348 (by decide) (fun _ => ?_) (fun c_269 => (z_abs c_269 (by decide)).elim)
      exact lc_end hx hb hr hlocks hX hbl hAs hS (lv_sub hl [0, 3] rfl) (Nat.le_of_ble_eq_true rfl) (Nat.le_of_ble_eq_true rfl)
    · skip
      have g_210 : ¬ p1.toInt = 0 := zt_ne rfl (by decide) g_210
      have g_211 : ¬ p1.toInt = 1 := zt_ne rfl (by decide) g_211
      have g_212 : ¬ p1.toInt = 2 := zt_ne rfl (by decide) g_212
      have g_213 : p1.toInt = 3 := zt_eq rfl (by decide) g_213
      exfalso; omega
    · skip
      have g_214 : ¬ p1.toInt = 0 := zt_ne rfl (by decide) g_214
      have g_215 : ¬ p1.toInt = 1 := zt_ne rfl (by decide) g_215
      have g_216 : ¬ p1.toInt = 2 := zt_ne rfl (by decide) g_216
      have g_217 : ¬ p1.toInt = 3 := zt_ne rfl (by decide) g_217
      have g_218 : p1.toInt = 4 := zt_eq rfl (by decide) g_218
      exfalso; omega
    · skip
      have g_219 : ¬ p1.toInt = 0 := zt_ne rfl (by decide) g_219
      have g_220 : ¬ p1.toInt = 1 := zt_ne rfl (by decide) g_220
      have g_221 : ¬ p1.toInt = 2 := zt_ne rfl (by decide) g_221
      have g_222 : ¬ p1.toInt = 3 := zt_ne rfl (by decide) g_222
      have g_223 : ¬ p1.toInt = 4 := zt_ne rfl (by decide) g_223
      have g_224 : p1.toInt = 5 := zt_eq rfl (by decide) g_224
      exfalso; omega
    · skip
      have g_225 : ¬ p1.toInt = 0 := zt_ne rfl (by decide) g_225
      have g_226 : ¬ p1.toInt = 1 := zt_ne rfl (by decide) g_226
      have g_227 : ¬ p1.toInt = 2 := zt_ne rfl (by decide) g_227
      have g_228 : ¬ p1.toInt = 3 := zt_ne rfl (by decide) g_228
      have g_229 : ¬ p1.toInt = 4 := zt_ne rfl (by decide) g_229
      have g_230 : ¬ p1.toInt = 5 := zt_ne rfl (by decide) g_230
      have g_231 : p1.toInt = 6 := zt_eq rfl (by decide) g_231
      exfalso; omega
    · skip
      have g_232 : ¬ p1.toInt = 0 := zt_ne rfl (by decide) g_232
      have g_233 : ¬ p1.toInt = 1 := zt_ne rfl (by decide) g_233
      have g_234 : ¬ p1.toInt = 2 := zt_ne rfl (by decide) g_234
      have g_235 : ¬ p1.toInt = 3 := zt_ne rfl (by decide) g_235
      have g_236 : ¬ p1.toInt = 4 := zt_ne rfl (by decide) g_236
      have g_237 : ¬ p1.toInt = 5 := zt_ne rfl (by decide) g_237
      have g_238 : ¬ p1.toInt = 6 := zt_ne rfl (by decide) g_238
      have g_239 : p1.toInt = 7 := zt_eq rfl (by decide) g_239
      exfalso; omega
    · skip
      have g_240 : ¬ p1.toInt = 0 := zt_ne rfl (by decide) g_240
      have g_241 : ¬ p1.toInt = 1 := zt_ne rfl (by decide) g_241
      have g_242 : ¬ p1.toInt = 2 := zt_ne rfl (by decide) g_242
      have g_243 : ¬ p1.toInt = 3 := zt_ne rfl (by decide) g_243
      have g_244 : ¬ p1.toInt = 4 := zt_ne rfl (by decide) g_244
      have g_245 : ¬ p1.toInt = 5 := zt_ne rfl (by decide) g_245
      have g_246 : ¬ p1.toInt = 6 := zt_ne rfl (by decide) g_246
      have g_247 : ¬ p1.toInt = 7 := zt_ne rfl (by decide) g_247
      have g_248 : p1.toInt = 8 := zt_eq rfl (by decide) g_248
      exfalso; omega
    · skip
      have g_249 : ¬ p1.toInt = 0 := zt_ne rfl (by decide) g_249
      have g_250 : ¬ p1.toInt = 1 := zt_ne rfl (by decide) g_250
      have g_251 : ¬ p1.toInt = 2 := zt_ne rfl (by decide) g_251
      have g_252 : ¬ p1.toInt = 3 := zt_ne rfl (by decide) g_252
      have g_253 : ¬ p1.toInt = 4 := zt_ne rfl (by decide) g_253
      have g_254 : ¬ p1.toInt = 5 := zt_ne rfl (by decide) g_254
      have g_255 : ¬ p1.toInt = 6 := zt_ne rfl (by decide) g_255
      have g_256 : ¬ p1.toInt = 7 := zt_ne rfl (by decide) g_256
      have g_257 : ¬ p1.toInt = 8 := zt_ne rfl (by decide) g_257
      have g_258 : p1.toInt = 9 := zt_eq rfl (by decide) g_258
      exfalso; omega
    · skip
      have g_259 : ¬ p1.toInt = 0 := zt_ne rfl (by decide) g_259
      have g_260 : ¬ p1.toInt = 1 := zt_ne rfl (by decide) g_260
      have g_261 : ¬ p1.toInt = 2 := zt_ne rfl (by decide) g_261
      have g_262 : ¬ p1.toInt = 3 := zt_ne rfl (by decide) g_262
      have g_263 : ¬ p1.toInt = 4 := zt_ne rfl (by decide) g_263
      have g_264 : ¬ p1.toInt = 5 := zt_ne rfl (by decide) g_264
      have g_265 : ¬ p1.toInt = 6 := zt_ne rfl (by decide) g_265
      have g_266 : ¬ p1.toInt = 7 := zt_ne rfl (by decide) g_266
      have g_267 : ¬ p1.toInt = 8 := zt_ne rfl (by decide) g_267
      have g_268 : ¬ p1.toInt = 9 := zt_ne rfl (by decide) g_268
      exfalso; omega
  · skip
    have g_8 : ¬ p1.toInt = 0 := zt_ne rfl (by decide) g_8
    have g_9 : ¬ p1.toInt = 1 := zt_ne rfl (by decide) g_9
    have g_10 : ¬ p1.toInt = 2 := zt_ne rfl (by decide) g_10
    have g_11 : p1.toInt = 3 := zt_eq rfl (by decide) g_11
    refine lv_aload_n hx hb dL_law_339 rfl (lv_at hl 1 rfl) ?_
    refine lv_aload_n hx hb dL_law_340 rfl (lv_at hl 3 rfl) ?_
    refine lv_iload_n hx hb dL_law_341 rfl (lv_at hl 0 rfl) ?_
    refine lv_iconst (v := 1) hx hb dL_law_342 (by decide) ?_
    refine lv_iadd hx hb dL_law_343 ?_
    refine z_topi (y := 1) (by decide) ?_
    refine va_sld hx hb hX hbl hbA hS (z_in (by decide) (by decide)) dL_law_344 ?_
    refine z_topi (y := p1) e1.symm ?_
    refine zcV (As := [.int p1]) (rest := [.int 0]) (C := RX12) (n := 1) ⟨hx, hb, hml, hown, ht⟩ (k_X12_has l D am p1) (zgV ml_L_36 im_X12_has se_X12_has in_X12 co_X12_has) rfl rfl (by decide +kernel) ⟨Nat.le_of_ble_eq_true rfl, Nat.le_of_ble_eq_true rfl⟩ hK hP hS [6, 7, 8] rfl 0 rfl rfl rfl rfl hl.1 rfl (Nat.le_of_ble_eq_true rfl) dL_law_345 ⟨Nat.le_of_ble_eq_true rfl, Nat.le_of_ble_eq_true rfl⟩ (fun r_271 H locs hw hP hS => ?_)
    rcases hw with ⟨rfl, g_272⟩ | ⟨rfl, g_273, g_274⟩ | ⟨rfl, g_275, g_276, g_277⟩ | ⟨rfl, g_278, g_279, g_280, g_281⟩ | ⟨rfl, g_282, g_283, g_284, g_285, g_286⟩ | ⟨rfl, g_287, g_288, g_289, g_290, g_291, g_292⟩ | ⟨rfl, g_293, g_294, g_295, g_296, g_297, g_298, g_299⟩ | ⟨rfl, g_300, g_301, g_302, g_303, g_304, g_305, g_306, g_307⟩ | ⟨rfl, g_308, g_309, g_310, g_311, g_312, g_313, g_314, g_315, g_316⟩ | ⟨rfl, g_317, g_318, g_319, g_320, g_321, g_322, g_323, g_324, g_325, g_326⟩ | ⟨rfl, g_327, g_328, g_329, g_330, g_331, g_332, g_333, g_334, g_335, g_336⟩
    · skip
      have g_272 : p1.toInt = 0 := zt_eq rfl (by decide) g_272
      exfalso; omega
    · skip
      have g_273 : ¬ p1.toInt = 0 := zt_ne rfl (by decide) g_273
      have g_274 : p1.toInt = 1 := zt_eq rfl (by decide) g_274
      exfalso; omega
    · skip
      have g_275 : ¬ p1.toInt = 0 := zt_ne rfl (by decide) g_275
      have g_276 : ¬ p1.toInt = 1 := zt_ne rfl (by decide) g_276
      have g_277 : p1.toInt = 2 := zt_eq rfl (by decide) g_277
      exfalso; omega
    · skip
      have g_278 : ¬ p1.toInt = 0 := zt_ne rfl (by decide) g_278
      have g_279 : ¬ p1.toInt = 1 := zt_ne rfl (by decide) g_279
      have g_280 : ¬ p1.toInt = 2 := zt_ne rfl (by decide) g_280
      have g_281 : p1.toInt = 3 := zt_eq rfl (by decide) g_281
      refine lv_icmp_eq (tgt := 1299) hx hb dL_law_348 (by decide) (fun _ => ?_) (fun c_337 => (z_abs c_337 (by decide)).elim)
      exact lc_end hx hb hr hlocks hX hbl hAs hS (lv_sub hl [0, 3] rfl) (Nat.le_of_ble_eq_true rfl) (Nat.le_of_ble_eq_true rfl)
    · skip
      have g_282 : ¬ p1.toInt = 0 := zt_ne rfl (by decide) g_282
      have g_283 : ¬ p1.toInt = 1 := zt_ne rfl (by decide) g_283
      have g_284 : ¬ p1.toInt = 2 := zt_ne rfl (by decide) g_284
      have g_285 : ¬ p1.toInt = 3 := zt_ne rfl (by decide) g_285
      have g_286 : p1.toInt = 4 := zt_eq rfl (by decide) g_286
      exfalso; omega
    · skip
      have g_287 : ¬ p1.toInt = 0 := zt_ne rfl (by decide) g_287
      have g_288 : ¬ p1.toInt = 1 := zt_ne rfl (by decide) g_288
      have g_289 : ¬ p1.toInt = 2 := zt_ne rfl (by decide) g_289
      have g_290 : ¬ p1.toInt = 3 := zt_ne rfl (by decide) g_290
      have g_291 : ¬ p1.toInt = 4 := zt_ne rfl (by decide) g_291
      have g_292 : p1.toInt = 5 := zt_eq rfl (by decide) g_292
      exfalso; omega
    · skip
      have g_293 : ¬ p1.toInt = 0 := zt_ne rfl (by decide) g_293
      have g_294 : ¬ p1.toInt = 1 := zt_ne rfl (by decide) g_294
      have g_295 : ¬ p1.toInt = 2 := zt_ne rfl (by decide) g_295
      have g_296 : ¬ p1.toInt = 3 := zt_ne rfl (by decide) g_296
      have g_297 : ¬ p1.toInt = 4 := zt_ne rfl (by decide) g_297
      have g_298 : ¬ p1.toInt = 5 := zt_ne rfl (by decide) g_298
      have g_299 : p1.toInt = 6 := zt_eq rfl (by decide) g_299
      exfalso; omega
    · skip
      have g_300 : ¬ p1.toInt = 0 := zt_ne rfl (by decide) g_300
      have g_301 : ¬ p1.toInt = 1 := zt_ne rfl (by decide) g_301
      have g_302 : ¬ p1.toInt = 2 := zt_ne rfl (by decide) g_302
      have g_303 : ¬ p1.toInt = 3 := zt_ne rfl (by decide) g_303
      have g_304 : ¬ p1.toInt = 4 := zt_ne rfl (by decide) g_304
      have g_305 : ¬ p1.toInt = 5 := zt_ne rfl (by decide) g_305
      have g_306 : ¬ p1.toInt = 6 := zt_ne rfl (by decide) g_306
      have g_307 : p1.toInt = 7 := zt_eq rfl (by decide) g_307
      exfalso; omega
    · skip
      have g_308 : ¬ p1.toInt = 0 := zt_ne rfl (by decide) g_308
      have g_309 : ¬ p1.toInt = 1 := zt_ne rfl (by decide) g_309
      have g_310 : ¬ p1.toInt = 2 := zt_ne rfl (by decide) g_310
      have g_311 : ¬ p1.toInt = 3 := zt_ne rfl (by decide) g_311
      have g_312 : ¬ p1.toInt = 4 := zt_ne rfl (by decide) g_312
      have g_313 : ¬ p1.toInt = 5 := zt_ne rfl (by decide) g_313
      have g_314 : ¬ p1.toInt = 6 := zt_ne rfl (by decide) g_314
      have g_315 : ¬ p1.toInt = 7 := zt_ne rfl (by decide) g_315
      have g_316 : p1.toInt = 8 := zt_eq rfl (by decide) g_316
      exfalso; omega
    · skip
      have g_317 : ¬ p1.toInt = 0 := zt_ne rfl (by decide) g_317
      have g_318 : ¬ p1.toInt = 1 := zt_ne rfl (by decide) g_318
      have g_319 : ¬ p1.toInt = 2 := zt_ne rfl (by decide) g_319
      have g_320 : ¬ p1.toInt = 3 := zt_ne rfl (by decide) g_320
      have g_321 : ¬ p1.toInt = 4 := zt_ne rfl (by decide) g_321
      have g_322 : ¬ p1.toInt = 5 := zt_ne rfl (by decide) g_322
      have g_323 : ¬ p1.toInt = 6 := zt_ne rfl (by decide) g_323
      have g_324 : ¬ p1.toInt = 7 := zt_ne rfl (by decide) g_324
      have g_325 : ¬ p1.toInt = 8 := zt_ne rfl (by decide) g_325
      have g_326 : p1.toInt = 9 := zt_eq rfl (by decide) g_326
      exfalso; omega
    · skip
      have g_327 : ¬ p1.toInt = 0 := zt_ne rfl (by decide) g_327
      have g_328 : ¬ p1.toInt = 1 := zt_ne rfl (by decide) g_328
      have g_329 : ¬ p1.toInt = 2 := zt_ne rfl (by decide) g_329
      have g_330 : ¬ p1.toInt = 3 := zt_ne rfl (by decide) g_330
      have g_331 : ¬ p1.toInt = 4 := zt_ne rfl (by decide) g_331
      have g_332 : ¬ p1.toInt = 5 := zt_ne rfl (by decide) g_332
      have g_333 : ¬ p1.toInt = 6 := zt_ne rfl (by decide) g_333
      have g_334 : ¬ p1.toInt = 7 := zt_ne rfl (by decide) g_334
      have g_335 : ¬ p1.toInt = 8 := zt_ne rfl (by decide) g_335
      have g_336 : ¬ p1.toInt = 9 := zt_ne rfl (by decide) g_336
      exfalso; omega
  · skip
    have g_12 : ¬ p1.toInt = 0 := zt_ne rfl (by decide) g_12
    have g_13 : ¬ p1.toInt = 1 := zt_ne rfl (by decide) g_13
    have g_14 : ¬ p1.toInt = 2 := zt_ne rfl (by decide) g_14
    have g_15 : ¬ p1.toInt = 3 := zt_ne rfl (by decide) g_15
    have g_16 : p1.toInt = 4 := zt_eq rfl (by decide) g_16
    refine lv_aload_n hx hb dL_law_339 rfl (lv_at hl 1 rfl) ?_
    refine lv_aload_n hx hb dL_law_340 rfl (lv_at hl 3 rfl) ?_
    refine lv_iload_n hx hb dL_law_341 rfl (lv_at hl 0 rfl) ?_
    refine lv_iconst (v := 1) hx hb dL_law_342 (by decide) ?_
    refine lv_iadd hx hb dL_law_343 ?_
    refine z_topi (y := 1) (by decide) ?_
    refine va_sld hx hb hX hbl hbA hS (z_in (by decide) (by decide)) dL_law_344 ?_
    refine z_topi (y := p1) e1.symm ?_
    refine zcV (As := [.int p1]) (rest := [.int 0]) (C := RX12) (n := 1) ⟨hx, hb, hml, hown, ht⟩ (k_X12_has l D am p1) (zgV ml_L_36 im_X12_has se_X12_has in_X12 co_X12_has) rfl rfl (by decide +kernel) ⟨Nat.le_of_ble_eq_true rfl, Nat.le_of_ble_eq_true rfl⟩ hK hP hS [6, 7, 8] rfl 0 rfl rfl rfl rfl hl.1 rfl (Nat.le_of_ble_eq_true rfl) dL_law_345 ⟨Nat.le_of_ble_eq_true rfl, Nat.le_of_ble_eq_true rfl⟩ (fun r_339 H locs hw hP hS => ?_)
    rcases hw with ⟨rfl, g_340⟩ | ⟨rfl, g_341, g_342⟩ | ⟨rfl, g_343, g_344, g_345⟩ | ⟨rfl, g_346, g_347, g_348, g_349⟩ | ⟨rfl, g_350, g_351, g_352, g_353, g_354⟩ | ⟨rfl, g_355, g_356, g_357, g_358, g_359, g_360⟩ | ⟨rfl, g_361, g_362, g_363, g_364, g_365, g_366, g_367⟩ | ⟨rfl, g_368, g_369, g_370, g_371, g_372, g_373, g_374, g_375⟩ | ⟨rfl, g_376, g_377, g_378, g_379, g_380, g_381, g_382, g_383, g_384⟩ | ⟨rfl, g_385, g_386, g_387, g_388, g_389, g_390, g_391, g_392, g_393, g_394⟩ | ⟨rfl, g_395, g_396, g_397, g_398, g_399, g_400, g_401, g_402, g_403, g_404⟩
    · skip
      have g_340 : p1.toInt = 0 := zt_eq rfl (by decide) g_340
      exfalso; omega
    · skip
      have g_341 : ¬ p1.toInt = 0 := zt_ne rfl (by decide) g_341
      have g_342 : p1.toInt = 1 := zt_eq rfl (by decide) g_342
      exfalso; omega
    · skip
      have g_343 : ¬ p1.toInt = 0 := zt_ne rfl (by decide) g_343
      have g_344 : ¬ p1.toInt = 1 := zt_ne rfl (by decide) g_344
      have g_345 : p1.toInt = 2 := zt_eq rfl (by decide) g_345
      exfalso; omega
    · skip
      have g_346 : ¬ p1.toInt = 0 := zt_ne rfl (by decide) g_346
      have g_347 : ¬ p1.toInt = 1 := zt_ne rfl (by decide) g_347
      have g_348 : ¬ p1.toInt = 2 := zt_ne rfl (by decide) g_348
      have g_349 : p1.toInt = 3 := zt_eq rfl (by decide) g_349
      exfalso; omega
    · skip
      have g_350 : ¬ p1.toInt = 0 := zt_ne rfl (by decide) g_350
      have g_351 : ¬ p1.toInt = 1 := zt_ne rfl (by decide) g_351
      have g_352 : ¬ p1.toInt = 2 := zt_ne rfl (by decide) g_352
      have g_353 : ¬ p1.toInt = 3 := zt_ne rfl (by decide) g_353
      have g_354 : p1.toInt = 4 := zt_eq rfl (by decide) g_354
      refine lv_icmp_eq (tgt := 1299) hx hb dL_law_348 (by decide) (fun _ => ?_) (fun c_405 => (z_abs c_405 (by decide)).elim)
      exact lc_end hx hb hr hlocks hX hbl hAs hS (lv_sub hl [0, 3] rfl) (Nat.le_of_ble_eq_true rfl) (Nat.le_of_ble_eq_true rfl)
    · skip
      have g_355 : ¬ p1.toInt = 0 := zt_ne rfl (by decide) g_355
      have g_356 : ¬ p1.toInt = 1 := zt_ne rfl (by decide) g_356
      have g_357 : ¬ p1.toInt = 2 := zt_ne rfl (by decide) g_357
      have g_358 : ¬ p1.toInt = 3 := zt_ne rfl (by decide) g_358
      have g_359 : ¬ p1.toInt = 4 := zt_ne rfl (by decide) g_359
      have g_360 : p1.toInt = 5 := zt_eq rfl (by decide) g_360
      exfalso; omega
    · skip
      have g_361 : ¬ p1.toInt = 0 := zt_ne rfl (by decide) g_361
      have g_362 : ¬ p1.toInt = 1 := zt_ne rfl (by decide) g_362
      have g_363 : ¬ p1.toInt = 2 := zt_ne rfl (by decide) g_363
      have g_364 : ¬ p1.toInt = 3 := zt_ne rfl (by decide) g_364
      have g_365 : ¬ p1.toInt = 4 := zt_ne rfl (by decide) g_365
      have g_366 : ¬ p1.toInt = 5 := zt_ne rfl (by decide) g_366
      have g_367 : p1.toInt = 6 := zt_eq rfl (by decide) g_367
      exfalso; omega
    · skip
      have g_368 : ¬ p1.toInt = 0 := zt_ne rfl (by decide) g_368
      have g_369 : ¬ p1.toInt = 1 := zt_ne rfl (by decide) g_369
      have g_370 : ¬ p1.toInt = 2 := zt_ne rfl (by decide) g_370
      have g_371 : ¬ p1.toInt = 3 := zt_ne rfl (by decide) g_371
      have g_372 : ¬ p1.toInt = 4 := zt_ne rfl (by decide) g_372
      have g_373 : ¬ p1.toInt = 5 := zt_ne rfl (by decide) g_373
      have g_374 : ¬ p1.toInt = 6 := zt_ne rfl (by decide) g_374
      have g_375 : p1.toInt = 7 := zt_eq rfl (by decide) g_375
      exfalso; omega
    · skip
      have g_376 : ¬ p1.toInt = 0 := zt_ne rfl (by decide) g_376
      have g_377 : ¬ p1.toInt = 1 := zt_ne rfl (by decide) g_377
      have g_378 : ¬ p1.toInt = 2 := zt_ne rfl (by decide) g_378
      have g_379 : ¬ p1.toInt = 3 := zt_ne rfl (by decide) g_379
      have g_380 : ¬ p1.toInt = 4 := zt_ne rfl (by decide) g_380
      have g_381 : ¬ p1.toInt = 5 := zt_ne rfl (by decide) g_381
      have g_382 : ¬ p1.toInt = 6 := zt_ne rfl (by decide) g_382
      have g_383 : ¬ p1.toInt = 7 := zt_ne rfl (by decide) g_383
      have g_384 : p1.toInt = 8 := zt_eq rfl (by decide) g_384
      exfalso; omega
    · skip
      have g_385 : ¬ p1.toInt = 0 := zt_ne rfl (by decide) g_385
      have g_386 : ¬ p1.toInt = 1 := zt_ne rfl (by decide) g_386
      have g_387 : ¬ p1.toInt = 2 := zt_ne rfl (by decide) g_387
      have g_388 : ¬ p1.toInt = 3 := zt_ne rfl (by decide) g_388
      have g_389 : ¬ p1.toInt = 4 := zt_ne rfl (by decide) g_389
      have g_390 : ¬ p1.toInt = 5 := zt_ne rfl (by decide) g_390
      have g_391 : ¬ p1.toInt = 6 := zt_ne rfl (by decide) g_391
      have g_392 : ¬ p1.toInt = 7 := zt_ne rfl (by decide) g_392
      have g_393 : ¬ p1.toInt = 8 := zt_ne rfl (by decide) g_393
      have g_394 : p1.toInt = 9 := zt_eq rfl (by decide) g_394
      exfalso; omega
    · skip
      have g_395 : ¬ p1.toInt = 0 := zt_ne rfl (by decide) g_395
      have g_396 : ¬ p1.toInt = 1 := zt_ne rfl (by decide) g_396
      have g_397 : ¬ p1.toInt = 2 := zt_ne rfl (by decide) g_397
      have g_398 : ¬ p1.toInt = 3 := zt_ne rfl (by decide) g_398
      have g_399 : ¬ p1.toInt = 4 := zt_ne rfl (by decide) g_399
      have g_400 : ¬ p1.toInt = 5 := zt_ne rfl (by decide) g_400
      have g_401 : ¬ p1.toInt = 6 := zt_ne rfl (by decide) g_401
      have g_402 : ¬ p1.toInt = 7 := zt_ne rfl (by decide) g_402
      have g_403 : ¬ p1.toInt = 8 := zt_ne rfl (by decide) g_403
      have g_404 : ¬ p1.toInt = 9 := zt_ne rfl (by decide) g_404
      exfalso; omega
  · skip
    have g_17 : ¬ p1.toInt = 0 := zt_ne rfl (by decide) g_17
    have g_18 : ¬ p1.toInt = 1 := zt_ne rfl (by decide) g_18
    have g_19 : ¬ p1.toInt = 2 := zt_ne rfl (by decide) g_19
    have g_20 : ¬ p1.toInt = 3 := zt_ne rfl (by decide) g_20
    have g_21 : ¬ p1.toInt = 4 := zt_ne rfl (by decide) g_21
    have g_22 : p1.toInt = 5 := zt_eq rfl (by decide) g_22
    refine lv_aload_n hx hb dL_law_339 rfl (lv_at hl 1 rfl) ?_
    refine lv_aload_n hx hb dL_law_340 rfl (lv_at hl 3 rfl) ?_
    refine lv_iload_n hx hb dL_law_341 rfl (lv_at hl 0 rfl) ?_
    refine lv_iconst (v := 1) hx hb dL_law_342 (by decide) ?_
    refine lv_iadd hx hb dL_law_343 ?_
    refine z_topi (y := 1) (by decide) ?_
    refine va_sld hx hb hX hbl hbA hS (z_in (by decide) (by decide)) dL_law_344 ?_
    refine z_topi (y := p1) e1.symm ?_
    refine zcV (As := [.int p1]) (rest := [.int 0]) (C := RX12) (n := 1) ⟨hx, hb, hml, hown, ht⟩ (k_X12_has l D am p1) (zgV ml_L_36 im_X12_has se_X12_has in_X12 co_X12_has) rfl rfl (by decide +kernel) ⟨Nat.le_of_ble_eq_true rfl, Nat.le_of_ble_eq_true rfl⟩ hK hP hS [6, 7, 8] rfl 0 rfl rfl rfl rfl hl.1 rfl (Nat.le_of_ble_eq_true rfl) dL_law_345 ⟨Nat.le_of_ble_eq_true rfl, Nat.le_of_ble_eq_true rfl⟩ (fun r_407 H locs hw hP hS => ?_)
    rcases hw with ⟨rfl, g_408⟩ | ⟨rfl, g_409, g_410⟩ | ⟨rfl, g_411, g_412, g_413⟩ | ⟨rfl, g_414, g_415, g_416, g_417⟩ | ⟨rfl, g_418, g_419, g_420, g_421, g_422⟩ | ⟨rfl, g_423, g_424, g_425, g_426, g_427, g_428⟩ | ⟨rfl, g_429, g_430, g_431, g_432, g_433, g_434, g_435⟩ | ⟨rfl, g_436, g_437, g_438, g_439, g_440, g_441, g_442, g_443⟩ | ⟨rfl, g_444, g_445, g_446, g_447, g_448, g_449, g_450, g_451, g_452⟩ | ⟨rfl, g_453, g_454, g_455, g_456, g_457, g_458, g_459, g_460, g_461, g_462⟩ | ⟨rfl, g_463, g_464, g_465, g_466, g_467, g_468, g_469, g_470, g_471, g_472⟩
    · skip
      have g_408 : p1.toInt = 0 := zt_eq rfl (by decide) g_408
      exfalso; omega
    · skip
      have g_409 : ¬ p1.toInt = 0 := zt_ne rfl (by decide) g_409
      have g_410 : p1.toInt = 1 := zt_eq rfl (by decide) g_410
      exfalso; omega
    · skip
      have g_411 : ¬ p1.toInt = 0 := zt_ne rfl (by decide) g_411
      have g_412 : ¬ p1.toInt = 1 := zt_ne rfl (by decide) g_412
      have g_413 : p1.toInt = 2 := zt_eq rfl (by decide) g_413
      exfalso; omega
    · skip
      have g_414 : ¬ p1.toInt = 0 := zt_ne rfl (by decide) g_414
      have g_415 : ¬ p1.toInt = 1 := zt_ne rfl (by decide) g_415
      have g_416 : ¬ p1.toInt = 2 := zt_ne rfl (by decide) g_416
      have g_417 : p1.toInt = 3 := zt_eq rfl (by decide) g_417
      exfalso; omega
    · skip
      have g_418 : ¬ p1.toInt = 0 := zt_ne rfl (by decide) g_418
      have g_419 : ¬ p1.toInt = 1 := zt_ne rfl (by decide) g_419
      have g_420 : ¬ p1.toInt = 2 := zt_ne rfl (by decide) g_420
      have g_421 : ¬ p1.toInt = 3 := zt_ne rfl (by decide) g_421
      have g_422 : p1.toInt = 4 := zt_eq rfl (by decide) g_422
      exfalso; omega
    · skip
      have g_423 : ¬ p1.toInt = 0 := zt_ne rfl (by decide) g_423
      have g_424 : ¬ p1.toInt = 1 := zt_ne rfl (by decide) g_424
      have g_425 : ¬ p1.toInt = 2 := zt_ne rfl (by decide) g_425
      have g_426 : ¬ p1.toInt = 3 := zt_ne rfl (by decide) g_426
      have g_427 : ¬ p1.toInt = 4 := zt_ne rfl (by decide) g_427
      have g_428 : p1.toInt = 5 := zt_eq rfl (by decide) g_428
      refine lv_icmp_eq (tgt := 1299) hx hb dL_law_348 (by decide) (fun _ => ?_) (fun c_473 => (z_abs c_473 (by decide)).elim)
      exact lc_end hx hb hr hlocks hX hbl hAs hS (lv_sub hl [0, 3] rfl) (Nat.le_of_ble_eq_true rfl) (Nat.le_of_ble_eq_true rfl)
    · skip
      have g_429 : ¬ p1.toInt = 0 := zt_ne rfl (by decide) g_429
      have g_430 : ¬ p1.toInt = 1 := zt_ne rfl (by decide) g_430
      have g_431 : ¬ p1.toInt = 2 := zt_ne rfl (by decide) g_431
      have g_432 : ¬ p1.toInt = 3 := zt_ne rfl (by decide) g_432
      have g_433 : ¬ p1.toInt = 4 := zt_ne rfl (by decide) g_433
      have g_434 : ¬ p1.toInt = 5 := zt_ne rfl (by decide) g_434
      have g_435 : p1.toInt = 6 := zt_eq rfl (by decide) g_435
      exfalso; omega
    · skip
      have g_436 : ¬ p1.toInt = 0 := zt_ne rfl (by decide) g_436
      have g_437 : ¬ p1.toInt = 1 := zt_ne rfl (by decide) g_437
      have g_438 : ¬ p1.toInt = 2 := zt_ne rfl (by decide) g_438
      have g_439 : ¬ p1.toInt = 3 := zt_ne rfl (by decide) g_439
      have g_440 : ¬ p1.toInt = 4 := zt_ne rfl (by decide) g_440
      have g_441 : ¬ p1.toInt = 5 := zt_ne rfl (by decide) g_441
      have g_442 : ¬ p1.toInt = 6 := zt_ne rfl (by decide) g_442
      have g_443 : p1.toInt = 7 := zt_eq rfl (by decide) g_443
      exfalso; omega
    · skip
      have g_444 : ¬ p1.toInt = 0 := zt_ne rfl (by decide) g_444
      have g_445 : ¬ p1.toInt = 1 := zt_ne rfl (by decide) g_445
      have g_446 : ¬ p1.toInt = 2 := zt_ne rfl (by decide) g_446
      have g_447 : ¬ p1.toInt = 3 := zt_ne rfl (by decide) g_447
      have g_448 : ¬ p1.toInt = 4 := zt_ne rfl (by decide) g_448
      have g_449 : ¬ p1.toInt = 5 := zt_ne rfl (by decide) g_449
      have g_450 : ¬ p1.toInt = 6 := zt_ne rfl (by decide) g_450
      have g_451 : ¬ p1.toInt = 7 := zt_ne rfl (by decide) g_451
      have g_452 : p1.toInt = 8 := zt_eq rfl (by decide) g_452
      exfalso; omega
    · skip
      have g_453 : ¬ p1.toInt = 0 := zt_ne rfl (by decide) g_453
      have g_454 : ¬ p1.toInt = 1 := zt_ne rfl (by decide) g_454
      have g_455 : ¬ p1.toInt = 2 := zt_ne rfl (by decide) g_455
      have g_456 : ¬ p1.toInt = 3 := zt_ne rfl (by decide) g_456
      have g_457 : ¬ p1.toInt = 4 := zt_ne rfl (by decide) g_457
      have g_458 : ¬ p1.toInt = 5 := zt_ne rfl (by decide) g_458
      have g_459 : ¬ p1.toInt = 6 := zt_ne rfl (by decide) g_459
      have g_460 : ¬ p1.toInt = 7 := zt_ne rfl (by decide) g_460
      have g_461 : ¬ p1.toInt = 8 := zt_ne rfl (by decide) g_461
      have g_462 : p1.toInt = 9 := zt_eq rfl (by decide) g_462
      exfalso; omega
    · skip
      have g_463 : ¬ p1.toInt = 0 := zt_ne rfl (by decide) g_463
      have g_464 : ¬ p1.toInt = 1 := zt_ne rfl (by decide) g_464
      have g_465 : ¬ p1.toInt = 2 := zt_ne rfl (by decide) g_465
      have g_466 : ¬ p1.toInt = 3 := zt_ne rfl (by decide) g_466
      have g_467 : ¬ p1.toInt = 4 := zt_ne rfl (by decide) g_467
      have g_468 : ¬ p1.toInt = 5 := zt_ne rfl (by decide) g_468
      have g_469 : ¬ p1.toInt = 6 := zt_ne rfl (by decide) g_469
      have g_470 : ¬ p1.toInt = 7 := zt_ne rfl (by decide) g_470
      have g_471 : ¬ p1.toInt = 8 := zt_ne rfl (by decide) g_471
      have g_472 : ¬ p1.toInt = 9 := zt_ne rfl (by decide) g_472
      exfalso; omega
  · skip
    have g_23 : ¬ p1.toInt = 0 := zt_ne rfl (by decide) g_23
    have g_24 : ¬ p1.toInt = 1 := zt_ne rfl (by decide) g_24
    have g_25 : ¬ p1.toInt = 2 := zt_ne rfl (by decide) g_25
    have g_26 : ¬ p1.toInt = 3 := zt_ne rfl (by decide) g_26
    have g_27 : ¬ p1.toInt = 4 := zt_ne rfl (by decide) g_27
    have g_28 : ¬ p1.toInt = 5 := zt_ne rfl (by decide) g_28
    have g_29 : p1.toInt = 6 := zt_eq rfl (by decide) g_29
    refine lv_aload_n hx hb dL_law_339 rfl (lv_at hl 1 rfl) ?_
    refine lv_aload_n hx hb dL_law_340 rfl (lv_at hl 3 rfl) ?_
    refine lv_iload_n hx hb dL_law_341 rfl (lv_at hl 0 rfl) ?_
    refine lv_iconst (v := 1) hx hb dL_law_342 (by decide) ?_
    refine lv_iadd hx hb dL_law_343 ?_
    refine z_topi (y := 1) (by decide) ?_
    refine va_sld hx hb hX hbl hbA hS (z_in (by decide) (by decide)) dL_law_344 ?_
    refine z_topi (y := p1) e1.symm ?_
    refine zcV (As := [.int p1]) (rest := [.int 0]) (C := RX12) (n := 1) ⟨hx, hb, hml, hown, ht⟩ (k_X12_has l D am p1) (zgV ml_L_36 im_X12_has se_X12_has in_X12 co_X12_has) rfl rfl (by decide +kernel) ⟨Nat.le_of_ble_eq_true rfl, Nat.le_of_ble_eq_true rfl⟩ hK hP hS [6, 7, 8] rfl 0 rfl rfl rfl rfl hl.1 rfl (Nat.le_of_ble_eq_true rfl) dL_law_345 ⟨Nat.le_of_ble_eq_true rfl, Nat.le_of_ble_eq_true rfl⟩ (fun r_475 H locs hw hP hS => ?_)
    rcases hw with ⟨rfl, g_476⟩ | ⟨rfl, g_477, g_478⟩ | ⟨rfl, g_479, g_480, g_481⟩ | ⟨rfl, g_482, g_483, g_484, g_485⟩ | ⟨rfl, g_486, g_487, g_488, g_489, g_490⟩ | ⟨rfl, g_491, g_492, g_493, g_494, g_495, g_496⟩ | ⟨rfl, g_497, g_498, g_499, g_500, g_501, g_502, g_503⟩ | ⟨rfl, g_504, g_505, g_506, g_507, g_508, g_509, g_510, g_511⟩ | ⟨rfl, g_512, g_513, g_514, g_515, g_516, g_517, g_518, g_519, g_520⟩ | ⟨rfl, g_521, g_522, g_523, g_524, g_525, g_526, g_527, g_528, g_529, g_530⟩ | ⟨rfl, g_531, g_532, g_533, g_534, g_535, g_536, g_537, g_538, g_539, g_540⟩
    · skip
      have g_476 : p1.toInt = 0 := zt_eq rfl (by decide) g_476
      exfalso; omega
    · skip
      have g_477 : ¬ p1.toInt = 0 := zt_ne rfl (by decide) g_477
      have g_478 : p1.toInt = 1 := zt_eq rfl (by decide) g_478
      exfalso; omega
    · skip
      have g_479 : ¬ p1.toInt = 0 := zt_ne rfl (by decide) g_479
      have g_480 : ¬ p1.toInt = 1 := zt_ne rfl (by decide) g_480
      have g_481 : p1.toInt = 2 := zt_eq rfl (by decide) g_481
      exfalso; omega
    · skip
      have g_482 : ¬ p1.toInt = 0 := zt_ne rfl (by decide) g_482
      have g_483 : ¬ p1.toInt = 1 := zt_ne rfl (by decide) g_483
      have g_484 : ¬ p1.toInt = 2 := zt_ne rfl (by decide) g_484
      have g_485 : p1.toInt = 3 := zt_eq rfl (by decide) g_485
      exfalso; omega
    · skip
      have g_486 : ¬ p1.toInt = 0 := zt_ne rfl (by decide) g_486
      have g_487 : ¬ p1.toInt = 1 := zt_ne rfl (by decide) g_487
      have g_488 : ¬ p1.toInt = 2 := zt_ne rfl (by decide) g_488
      have g_489 : ¬ p1.toInt = 3 := zt_ne rfl (by decide) g_489
      have g_490 : p1.toInt = 4 := zt_eq rfl (by decide) g_490
      exfalso; omega
    · skip
      have g_491 : ¬ p1.toInt = 0 := zt_ne rfl (by decide) g_491
      have g_492 : ¬ p1.toInt = 1 := zt_ne rfl (by decide) g_492
      have g_493 : ¬ p1.toInt = 2 := zt_ne rfl (by decide) g_493
      have g_494 : ¬ p1.toInt = 3 := zt_ne rfl (by decide) g_494
      have g_495 : ¬ p1.toInt = 4 := zt_ne rfl (by decide) g_495
      have g_496 : p1.toInt = 5 := zt_eq rfl (by decide) g_496
      exfalso; omega
    · skip
      have g_497 : ¬ p1.toInt = 0 := zt_ne rfl (by decide) g_497
      have g_498 : ¬ p1.toInt = 1 := zt_ne rfl (by decide) g_498
      have g_499 : ¬ p1.toInt = 2 := zt_ne rfl (by decide) g_499
      have g_500 : ¬ p1.toInt = 3 := zt_ne rfl (by decide) g_500
      have g_501 : ¬ p1.toInt = 4 := zt_ne rfl (by decide) g_501
      have g_502 : ¬ p1.toInt = 5 := zt_ne rfl (by decide) g_502
      have g_503 : p1.toInt = 6 := zt_eq rfl (by decide) g_503
      refine lv_icmp_eq (tgt := 1299) hx hb dL_law_348 (by decide) (fun _ => ?_) (fun c_541 => (z_abs c_541 (by decide)).elim)
      exact lc_end hx hb hr hlocks hX hbl hAs hS (lv_sub hl [0, 3] rfl) (Nat.le_of_ble_eq_true rfl) (Nat.le_of_ble_eq_true rfl)
    · skip
      have g_504 : ¬ p1.toInt = 0 := zt_ne rfl (by decide) g_504
      have g_505 : ¬ p1.toInt = 1 := zt_ne rfl (by decide) g_505
      have g_506 : ¬ p1.toInt = 2 := zt_ne rfl (by decide) g_506
      have g_507 : ¬ p1.toInt = 3 := zt_ne rfl (by decide) g_507
      have g_508 : ¬ p1.toInt = 4 := zt_ne rfl (by decide) g_508
      have g_509 : ¬ p1.toInt = 5 := zt_ne rfl (by decide) g_509
      have g_510 : ¬ p1.toInt = 6 := zt_ne rfl (by decide) g_510
      have g_511 : p1.toInt = 7 := zt_eq rfl (by decide) g_511
      exfalso; omega
    · skip
      have g_512 : ¬ p1.toInt = 0 := zt_ne rfl (by decide) g_512
      have g_513 : ¬ p1.toInt = 1 := zt_ne rfl (by decide) g_513
      have g_514 : ¬ p1.toInt = 2 := zt_ne rfl (by decide) g_514
      have g_515 : ¬ p1.toInt = 3 := zt_ne rfl (by decide) g_515
      have g_516 : ¬ p1.toInt = 4 := zt_ne rfl (by decide) g_516
      have g_517 : ¬ p1.toInt = 5 := zt_ne rfl (by decide) g_517
      have g_518 : ¬ p1.toInt = 6 := zt_ne rfl (by decide) g_518
      have g_519 : ¬ p1.toInt = 7 := zt_ne rfl (by decide) g_519
      have g_520 : p1.toInt = 8 := zt_eq rfl (by decide) g_520
      exfalso; omega
    · skip
      have g_521 : ¬ p1.toInt = 0 := zt_ne rfl (by decide) g_521
      have g_522 : ¬ p1.toInt = 1 := zt_ne rfl (by decide) g_522
      have g_523 : ¬ p1.toInt = 2 := zt_ne rfl (by decide) g_523
      have g_524 : ¬ p1.toInt = 3 := zt_ne rfl (by decide) g_524
      have g_525 : ¬ p1.toInt = 4 := zt_ne rfl (by decide) g_525
      have g_526 : ¬ p1.toInt = 5 := zt_ne rfl (by decide) g_526
      have g_527 : ¬ p1.toInt = 6 := zt_ne rfl (by decide) g_527
      have g_528 : ¬ p1.toInt = 7 := zt_ne rfl (by decide) g_528
      have g_529 : ¬ p1.toInt = 8 := zt_ne rfl (by decide) g_529
      have g_530 : p1.toInt = 9 := zt_eq rfl (by decide) g_530
      exfalso; omega
    · skip
      have g_531 : ¬ p1.toInt = 0 := zt_ne rfl (by decide) g_531
      have g_532 : ¬ p1.toInt = 1 := zt_ne rfl (by decide) g_532
      have g_533 : ¬ p1.toInt = 2 := zt_ne rfl (by decide) g_533
      have g_534 : ¬ p1.toInt = 3 := zt_ne rfl (by decide) g_534
      have g_535 : ¬ p1.toInt = 4 := zt_ne rfl (by decide) g_535
      have g_536 : ¬ p1.toInt = 5 := zt_ne rfl (by decide) g_536
      have g_537 : ¬ p1.toInt = 6 := zt_ne rfl (by decide) g_537
      have g_538 : ¬ p1.toInt = 7 := zt_ne rfl (by decide) g_538
      have g_539 : ¬ p1.toInt = 8 := zt_ne rfl (by decide) g_539
      have g_540 : ¬ p1.toInt = 9 := zt_ne rfl (by decide) g_540
      exfalso; omega
  · skip
    have g_30 : ¬ p1.toInt = 0 := zt_ne rfl (by decide) g_30
    have g_31 : ¬ p1.toInt = 1 := zt_ne rfl (by decide) g_31
    have g_32 : ¬ p1.toInt = 2 := zt_ne rfl (by decide) g_32
    have g_33 : ¬ p1.toInt = 3 := zt_ne rfl (by decide) g_33
    have g_34 : ¬ p1.toInt = 4 := zt_ne rfl (by decide) g_34
    have g_35 : ¬ p1.toInt = 5 := zt_ne rfl (by decide) g_35
    have g_36 : ¬ p1.toInt = 6 := zt_ne rfl (by decide) g_36
    have g_37 : p1.toInt = 7 := zt_eq rfl (by decide) g_37
    refine lv_aload_n hx hb dL_law_339 rfl (lv_at hl 1 rfl) ?_
    refine lv_aload_n hx hb dL_law_340 rfl (lv_at hl 3 rfl) ?_
    refine lv_iload_n hx hb dL_law_341 rfl (lv_at hl 0 rfl) ?_
    refine lv_iconst (v := 1) hx hb dL_law_342 (by decide) ?_
    refine lv_iadd hx hb dL_law_343 ?_
    refine z_topi (y := 1) (by decide) ?_
    refine va_sld hx hb hX hbl hbA hS (z_in (by decide) (by decide)) dL_law_344 ?_
    refine z_topi (y := p1) e1.symm ?_
    refine zcV (As := [.int p1]) (rest := [.int 0]) (C := RX12) (n := 1) ⟨hx, hb, hml, hown, ht⟩ (k_X12_has l D am p1) (zgV ml_L_36 im_X12_has se_X12_has in_X12 co_X12_has) rfl rfl (by decide +kernel) ⟨Nat.le_of_ble_eq_true rfl, Nat.le_of_ble_eq_true rfl⟩ hK hP hS [6, 7, 8] rfl 0 rfl rfl rfl rfl hl.1 rfl (Nat.le_of_ble_eq_true rfl) dL_law_345 ⟨Nat.le_of_ble_eq_true rfl, Nat.le_of_ble_eq_true rfl⟩ (fun r_543 H locs hw hP hS => ?_)
    rcases hw with ⟨rfl, g_544⟩ | ⟨rfl, g_545, g_546⟩ | ⟨rfl, g_547, g_548, g_549⟩ | ⟨rfl, g_550, g_551, g_552, g_553⟩ | ⟨rfl, g_554, g_555, g_556, g_557, g_558⟩ | ⟨rfl, g_559, g_560, g_561, g_562, g_563, g_564⟩ | ⟨rfl, g_565, g_566, g_567, g_568, g_569, g_570, g_571⟩ | ⟨rfl, g_572, g_573, g_574, g_575, g_576, g_577, g_578, g_579⟩ | ⟨rfl, g_580, g_581, g_582, g_583, g_584, g_585, g_586, g_587, g_588⟩ | ⟨rfl, g_589, g_590, g_591, g_592, g_593, g_594, g_595, g_596, g_597, g_598⟩ | ⟨rfl, g_599, g_600, g_601, g_602, g_603, g_604, g_605, g_606, g_607, g_608⟩
    · skip
      have g_544 : p1.toInt = 0 := zt_eq rfl (by decide) g_544
      exfalso; omega
    · skip
      have g_545 : ¬ p1.toInt = 0 := zt_ne rfl (by decide) g_545
      have g_546 : p1.toInt = 1 := zt_eq rfl (by decide) g_546
      exfalso; omega
    · skip
      have g_547 : ¬ p1.toInt = 0 := zt_ne rfl (by decide) g_547
      have g_548 : ¬ p1.toInt = 1 := zt_ne rfl (by decide) g_548
      have g_549 : p1.toInt = 2 := zt_eq rfl (by decide) g_549
      exfalso; omega
    · skip
      have g_550 : ¬ p1.toInt = 0 := zt_ne rfl (by decide) g_550
      have g_551 : ¬ p1.toInt = 1 := zt_ne rfl (by decide) g_551
      have g_552 : ¬ p1.toInt = 2 := zt_ne rfl (by decide) g_552
      have g_553 : p1.toInt = 3 := zt_eq rfl (by decide) g_553
      exfalso; omega
    · skip
      have g_554 : ¬ p1.toInt = 0 := zt_ne rfl (by decide) g_554
      have g_555 : ¬ p1.toInt = 1 := zt_ne rfl (by decide) g_555
      have g_556 : ¬ p1.toInt = 2 := zt_ne rfl (by decide) g_556
      have g_557 : ¬ p1.toInt = 3 := zt_ne rfl (by decide) g_557
      have g_558 : p1.toInt = 4 := zt_eq rfl (by decide) g_558
      exfalso; omega
    · skip
      have g_559 : ¬ p1.toInt = 0 := zt_ne rfl (by decide) g_559
      have g_560 : ¬ p1.toInt = 1 := zt_ne rfl (by decide) g_560
      have g_561 : ¬ p1.toInt = 2 := zt_ne rfl (by decide) g_561
      have g_562 : ¬ p1.toInt = 3 := zt_ne rfl (by decide) g_562
      have g_563 : ¬ p1.toInt = 4 := zt_ne rfl (by decide) g_563
      have g_564 : p1.toInt = 5 := zt_eq rfl (by decide) g_564
      exfalso; omega
    · skip
      have g_565 : ¬ p1.toInt = 0 := zt_ne rfl (by decide) g_565
      have g_566 : ¬ p1.toInt = 1 := zt_ne rfl (by decide) g_566
      have g_567 : ¬ p1.toInt = 2 := zt_ne rfl (by decide) g_567
      have g_568 : ¬ p1.toInt = 3 := zt_ne rfl (by decide) g_568
      have g_569 : ¬ p1.toInt = 4 := zt_ne rfl (by decide) g_569
      have g_570 : ¬ p1.toInt = 5 := zt_ne rfl (by decide) g_570
      have g_571 : p1.toInt = 6 := zt_eq rfl (by decide) g_571
      exfalso; omega
    · skip
      have g_572 : ¬ p1.toInt = 0 := zt_ne rfl (by decide) g_572
      have g_573 : ¬ p1.toInt = 1 := zt_ne rfl (by decide) g_573
      have g_574 : ¬ p1.toInt = 2 := zt_ne rfl (by decide) g_574
      have g_575 : ¬ p1.toInt = 3 := zt_ne rfl (by decide) g_575
      have g_576 : ¬ p1.toInt = 4 := zt_ne rfl (by decide) g_576
      have g_577 : ¬ p1.toInt = 5 := zt_ne rfl (by decide) g_577
      have g_578 : ¬ p1.toInt = 6 := zt_ne rfl (by decide) g_578
      have g_579 : p1.toInt = 7 := zt_eq rfl (by decide) g_579
      refine lv_icmp_eq (tgt := 1299) hx hb dL_law_348 (by decide) (fun _ => ?_) (fun c_609 => (z_abs c_609 (by decide)).elim)
      exact lc_end hx hb hr hlocks hX hbl hAs hS (lv_sub hl [0, 3] rfl) (Nat.le_of_ble_eq_true rfl) (Nat.le_of_ble_eq_true rfl)
    · skip
      have g_580 : ¬ p1.toInt = 0 := zt_ne rfl (by decide) g_580
      have g_581 : ¬ p1.toInt = 1 := zt_ne rfl (by decide) g_581
      have g_582 : ¬ p1.toInt = 2 := zt_ne rfl (by decide) g_582
      have g_583 : ¬ p1.toInt = 3 := zt_ne rfl (by decide) g_583
      have g_584 : ¬ p1.toInt = 4 := zt_ne rfl (by decide) g_584
      have g_585 : ¬ p1.toInt = 5 := zt_ne rfl (by decide) g_585
      have g_586 : ¬ p1.toInt = 6 := zt_ne rfl (by decide) g_586
      have g_587 : ¬ p1.toInt = 7 := zt_ne rfl (by decide) g_587
      have g_588 : p1.toInt = 8 := zt_eq rfl (by decide) g_588
      exfalso; omega
    · skip
      have g_589 : ¬ p1.toInt = 0 := zt_ne rfl (by decide) g_589
      have g_590 : ¬ p1.toInt = 1 := zt_ne rfl (by decide) g_590
      have g_591 : ¬ p1.toInt = 2 := zt_ne rfl (by decide) g_591
      have g_592 : ¬ p1.toInt = 3 := zt_ne rfl (by decide) g_592
      have g_593 : ¬ p1.toInt = 4 := zt_ne rfl (by decide) g_593
      have g_594 : ¬ p1.toInt = 5 := zt_ne rfl (by decide) g_594
      have g_595 : ¬ p1.toInt = 6 := zt_ne rfl (by decide) g_595
      have g_596 : ¬ p1.toInt = 7 := zt_ne rfl (by decide) g_596
      have g_597 : ¬ p1.toInt = 8 := zt_ne rfl (by decide) g_597
      have g_598 : p1.toInt = 9 := zt_eq rfl (by decide) g_598
      exfalso; omega
    · skip
      have g_599 : ¬ p1.toInt = 0 := zt_ne rfl (by decide) g_599
      have g_600 : ¬ p1.toInt = 1 := zt_ne rfl (by decide) g_600
      have g_601 : ¬ p1.toInt = 2 := zt_ne rfl (by decide) g_601
      have g_602 : ¬ p1.toInt = 3 := zt_ne rfl (by decide) g_602
      have g_603 : ¬ p1.toInt = 4 := zt_ne rfl (by decide) g_603
      have g_604 : ¬ p1.toInt = 5 := zt_ne rfl (by decide) g_604
      have g_605 : ¬ p1.toInt = 6 := zt_ne rfl (by decide) g_605
      have g_606 : ¬ p1.toInt = 7 := zt_ne rfl (by decide) g_606
      have g_607 : ¬ p1.toInt = 8 := zt_ne rfl (by decide) g_607
      have g_608 : ¬ p1.toInt = 9 := zt_ne rfl (by decide) g_608
      exfalso; omega
  · skip
    have g_38 : ¬ p1.toInt = 0 := zt_ne rfl (by decide) g_38
    have g_39 : ¬ p1.toInt = 1 := zt_ne rfl (by decide) g_39
    have g_40 : ¬ p1.toInt = 2 := zt_ne rfl (by decide) g_40
    have g_41 : ¬ p1.toInt = 3 := zt_ne rfl (by decide) g_41
    have g_42 : ¬ p1.toInt = 4 := zt_ne rfl (by decide) g_42
    have g_43 : ¬ p1.toInt = 5 := zt_ne rfl (by decide) g_43
    have g_44 : ¬ p1.toInt = 6 := zt_ne rfl (by decide) g_44
    have g_45 : ¬ p1.toInt = 7 := zt_ne rfl (by decide) g_45
    have g_46 : p1.toInt = 8 := zt_eq rfl (by decide) g_46
    refine lv_aload_n hx hb dL_law_339 rfl (lv_at hl 1 rfl) ?_
    refine lv_aload_n hx hb dL_law_340 rfl (lv_at hl 3 rfl) ?_
    refine lv_iload_n hx hb dL_law_341 rfl (lv_at hl 0 rfl) ?_
    refine lv_iconst (v := 1) hx hb dL_law_342 (by decide) ?_
    refine lv_iadd hx hb dL_law_343 ?_
    refine z_topi (y := 1) (by decide) ?_
    refine va_sld hx hb hX hbl hbA hS (z_in (by decide) (by decide)) dL_law_344 ?_
    refine z_topi (y := p1) e1.symm ?_
    refine zcV (As := [.int p1]) (rest := [.int 0]) (C := RX12) (n := 1) ⟨hx, hb, hml, hown, ht⟩ (k_X12_has l D am p1) (zgV ml_L_36 im_X12_has se_X12_has in_X12 co_X12_has) rfl rfl (by decide +kernel) ⟨Nat.le_of_ble_eq_true rfl, Nat.le_of_ble_eq_true rfl⟩ hK hP hS [6, 7, 8] rfl 0 rfl rfl rfl rfl hl.1 rfl (Nat.le_of_ble_eq_true rfl) dL_law_345 ⟨Nat.le_of_ble_eq_true rfl, Nat.le_of_ble_eq_true rfl⟩ (fun r_611 H locs hw hP hS => ?_)
    rcases hw with ⟨rfl, g_612⟩ | ⟨rfl, g_613, g_614⟩ | ⟨rfl, g_615, g_616, g_617⟩ | ⟨rfl, g_618, g_619, g_620, g_621⟩ | ⟨rfl, g_622, g_623, g_624, g_625, g_626⟩ | ⟨rfl, g_627, g_628, g_629, g_630, g_631, g_632⟩ | ⟨rfl, g_633, g_634, g_635, g_636, g_637, g_638, g_639⟩ | ⟨rfl, g_640, g_641, g_642, g_643, g_644, g_645, g_646, g_647⟩ | ⟨rfl, g_648, g_649, g_650, g_651, g_652, g_653, g_654, g_655, g_656⟩ | ⟨rfl, g_657, g_658, g_659, g_660, g_661, g_662, g_663, g_664, g_665, g_666⟩ | ⟨rfl, g_667, g_668, g_669, g_670, g_671, g_672, g_673, g_674, g_675, g_676⟩
    · skip
      have g_612 : p1.toInt = 0 := zt_eq rfl (by decide) g_612
      exfalso; omega
    · skip
      have g_613 : ¬ p1.toInt = 0 := zt_ne rfl (by decide) g_613
      have g_614 : p1.toInt = 1 := zt_eq rfl (by decide) g_614
      exfalso; omega
    · skip
      have g_615 : ¬ p1.toInt = 0 := zt_ne rfl (by decide) g_615
      have g_616 : ¬ p1.toInt = 1 := zt_ne rfl (by decide) g_616
      have g_617 : p1.toInt = 2 := zt_eq rfl (by decide) g_617
      exfalso; omega
    · skip
      have g_618 : ¬ p1.toInt = 0 := zt_ne rfl (by decide) g_618
      have g_619 : ¬ p1.toInt = 1 := zt_ne rfl (by decide) g_619
      have g_620 : ¬ p1.toInt = 2 := zt_ne rfl (by decide) g_620
      have g_621 : p1.toInt = 3 := zt_eq rfl (by decide) g_621
      exfalso; omega
    · skip
      have g_622 : ¬ p1.toInt = 0 := zt_ne rfl (by decide) g_622
      have g_623 : ¬ p1.toInt = 1 := zt_ne rfl (by decide) g_623
      have g_624 : ¬ p1.toInt = 2 := zt_ne rfl (by decide) g_624
      have g_625 : ¬ p1.toInt = 3 := zt_ne rfl (by decide) g_625
      have g_626 : p1.toInt = 4 := zt_eq rfl (by decide) g_626
      exfalso; omega
    · skip
      have g_627 : ¬ p1.toInt = 0 := zt_ne rfl (by decide) g_627
      have g_628 : ¬ p1.toInt = 1 := zt_ne rfl (by decide) g_628
      have g_629 : ¬ p1.toInt = 2 := zt_ne rfl (by decide) g_629
      have g_630 : ¬ p1.toInt = 3 := zt_ne rfl (by decide) g_630
      have g_631 : ¬ p1.toInt = 4 := zt_ne rfl (by decide) g_631
      have g_632 : p1.toInt = 5 := zt_eq rfl (by decide) g_632
      exfalso; omega
    · skip
      have g_633 : ¬ p1.toInt = 0 := zt_ne rfl (by decide) g_633
      have g_634 : ¬ p1.toInt = 1 := zt_ne rfl (by decide) g_634
      have g_635 : ¬ p1.toInt = 2 := zt_ne rfl (by decide) g_635
      have g_636 : ¬ p1.toInt = 3 := zt_ne rfl (by decide) g_636
      have g_637 : ¬ p1.toInt = 4 := zt_ne rfl (by decide) g_637
      have g_638 : ¬ p1.toInt = 5 := zt_ne rfl (by decide) g_638
      have g_639 : p1.toInt = 6 := zt_eq rfl (by decide) g_639
      exfalso; omega
    · skip
      have g_640 : ¬ p1.toInt = 0 := zt_ne rfl (by decide) g_640
      have g_641 : ¬ p1.toInt = 1 := zt_ne rfl (by decide) g_641
      have g_642 : ¬ p1.toInt = 2 := zt_ne rfl (by decide) g_642
      have g_643 : ¬ p1.toInt = 3 := zt_ne rfl (by decide) g_643
      have g_644 : ¬ p1.toInt = 4 := zt_ne rfl (by decide) g_644
      have g_645 : ¬ p1.toInt = 5 := zt_ne rfl (by decide) g_645
      have g_646 : ¬ p1.toInt = 6 := zt_ne rfl (by decide) g_646
      have g_647 : p1.toInt = 7 := zt_eq rfl (by decide) g_647
      exfalso; omega
    · skip
      have g_648 : ¬ p1.toInt = 0 := zt_ne rfl (by decide) g_648
      have g_649 : ¬ p1.toInt = 1 := zt_ne rfl (by decide) g_649
      have g_650 : ¬ p1.toInt = 2 := zt_ne rfl (by decide) g_650
      have g_651 : ¬ p1.toInt = 3 := zt_ne rfl (by decide) g_651
      have g_652 : ¬ p1.toInt = 4 := zt_ne rfl (by decide) g_652
      have g_653 : ¬ p1.toInt = 5 := zt_ne rfl (by decide) g_653
      have g_654 : ¬ p1.toInt = 6 := zt_ne rfl (by decide) g_654
      have g_655 : ¬ p1.toInt = 7 := zt_ne rfl (by decide) g_655
      have g_656 : p1.toInt = 8 := zt_eq rfl (by decide) g_656
      refine lv_icmp_eq (tgt := 1299) hx hb dL_law_348 (by decide) (fun _ => ?_) (fun c_677 => (z_abs c_677 (by decide)).elim)
      exact lc_end hx hb hr hlocks hX hbl hAs hS (lv_sub hl [0, 3] rfl) (Nat.le_of_ble_eq_true rfl) (Nat.le_of_ble_eq_true rfl)
    · skip
      have g_657 : ¬ p1.toInt = 0 := zt_ne rfl (by decide) g_657
      have g_658 : ¬ p1.toInt = 1 := zt_ne rfl (by decide) g_658
      have g_659 : ¬ p1.toInt = 2 := zt_ne rfl (by decide) g_659
      have g_660 : ¬ p1.toInt = 3 := zt_ne rfl (by decide) g_660
      have g_661 : ¬ p1.toInt = 4 := zt_ne rfl (by decide) g_661
      have g_662 : ¬ p1.toInt = 5 := zt_ne rfl (by decide) g_662
      have g_663 : ¬ p1.toInt = 6 := zt_ne rfl (by decide) g_663
      have g_664 : ¬ p1.toInt = 7 := zt_ne rfl (by decide) g_664
      have g_665 : ¬ p1.toInt = 8 := zt_ne rfl (by decide) g_665
      have g_666 : p1.toInt = 9 := zt_eq rfl (by decide) g_666
      exfalso; omega
    · skip
      have g_667 : ¬ p1.toInt = 0 := zt_ne rfl (by decide) g_667
      have g_668 : ¬ p1.toInt = 1 := zt_ne rfl (by decide) g_668
      have g_669 : ¬ p1.toInt = 2 := zt_ne rfl (by decide) g_669
      have g_670 : ¬ p1.toInt = 3 := zt_ne rfl (by decide) g_670
      have g_671 : ¬ p1.toInt = 4 := zt_ne rfl (by decide) g_671
      have g_672 : ¬ p1.toInt = 5 := zt_ne rfl (by decide) g_672
      have g_673 : ¬ p1.toInt = 6 := zt_ne rfl (by decide) g_673
      have g_674 : ¬ p1.toInt = 7 := zt_ne rfl (by decide) g_674
      have g_675 : ¬ p1.toInt = 8 := zt_ne rfl (by decide) g_675
      have g_676 : ¬ p1.toInt = 9 := zt_ne rfl (by decide) g_676
      exfalso; omega
  · skip
    have g_47 : ¬ p1.toInt = 0 := zt_ne rfl (by decide) g_47
    have g_48 : ¬ p1.toInt = 1 := zt_ne rfl (by decide) g_48
    have g_49 : ¬ p1.toInt = 2 := zt_ne rfl (by decide) g_49
    have g_50 : ¬ p1.toInt = 3 := zt_ne rfl (by decide) g_50
    have g_51 : ¬ p1.toInt = 4 := zt_ne rfl (by decide) g_51
    have g_52 : ¬ p1.toInt = 5 := zt_ne rfl (by decide) g_52
    have g_53 : ¬ p1.toInt = 6 := zt_ne rfl (by decide) g_53
    have g_54 : ¬ p1.toInt = 7 := zt_ne rfl (by decide) g_54
    have g_55 : ¬ p1.toInt = 8 := zt_ne rfl (by decide) g_55
    have g_56 : p1.toInt = 9 := zt_eq rfl (by decide) g_56
    refine lv_aload_n hx hb dL_law_339 rfl (lv_at hl 1 rfl) ?_
    refine lv_aload_n hx hb dL_law_340 rfl (lv_at hl 3 rfl) ?_
    refine lv_iload_n hx hb dL_law_341 rfl (lv_at hl 0 rfl) ?_
    refine lv_iconst (v := 1) hx hb dL_law_342 (by decide) ?_
    refine lv_iadd hx hb dL_law_343 ?_
    refine z_topi (y := 1) (by decide) ?_
    refine va_sld hx hb hX hbl hbA hS (z_in (by decide) (by decide)) dL_law_344 ?_
    refine z_topi (y := p1) e1.symm ?_
    refine zcV (As := [.int p1]) (rest := [.int 0]) (C := RX12) (n := 1) ⟨hx, hb, hml, hown, ht⟩ (k_X12_has l D am p1) (zgV ml_L_36 im_X12_has se_X12_has in_X12 co_X12_has) rfl rfl (by decide +kernel) ⟨Nat.le_of_ble_eq_true rfl, Nat.le_of_ble_eq_true rfl⟩ hK hP hS [6, 7, 8] rfl 0 rfl rfl rfl rfl hl.1 rfl (Nat.le_of_ble_eq_true rfl) dL_law_345 ⟨Nat.le_of_ble_eq_true rfl, Nat.le_of_ble_eq_true rfl⟩ (fun r_679 H locs hw hP hS => ?_)
    rcases hw with ⟨rfl, g_680⟩ | ⟨rfl, g_681, g_682⟩ | ⟨rfl, g_683, g_684, g_685⟩ | ⟨rfl, g_686, g_687, g_688, g_689⟩ | ⟨rfl, g_690, g_691, g_692, g_693, g_694⟩ | ⟨rfl, g_695, g_696, g_697, g_698, g_699, g_700⟩ | ⟨rfl, g_701, g_702, g_703, g_704, g_705, g_706, g_707⟩ | ⟨rfl, g_708, g_709, g_710, g_711, g_712, g_713, g_714, g_715⟩ | ⟨rfl, g_716, g_717, g_718, g_719, g_720, g_721, g_722, g_723, g_724⟩ | ⟨rfl, g_725, g_726, g_727, g_728, g_729, g_730, g_731, g_732, g_733, g_734⟩ | ⟨rfl, g_735, g_736, g_737, g_738, g_739, g_740, g_741, g_742, g_743, g_744⟩
    · skip
      have g_680 : p1.toInt = 0 := zt_eq rfl (by decide) g_680
      exfalso; omega
    · skip
      have g_681 : ¬ p1.toInt = 0 := zt_ne rfl (by decide) g_681
      have g_682 : p1.toInt = 1 := zt_eq rfl (by decide) g_682
      exfalso; omega
    · skip
      have g_683 : ¬ p1.toInt = 0 := zt_ne rfl (by decide) g_683
      have g_684 : ¬ p1.toInt = 1 := zt_ne rfl (by decide) g_684
      have g_685 : p1.toInt = 2 := zt_eq rfl (by decide) g_685
      exfalso; omega
    · skip
      have g_686 : ¬ p1.toInt = 0 := zt_ne rfl (by decide) g_686
      have g_687 : ¬ p1.toInt = 1 := zt_ne rfl (by decide) g_687
      have g_688 : ¬ p1.toInt = 2 := zt_ne rfl (by decide) g_688
      have g_689 : p1.toInt = 3 := zt_eq rfl (by decide) g_689
      exfalso; omega
    · skip
      have g_690 : ¬ p1.toInt = 0 := zt_ne rfl (by decide) g_690
      have g_691 : ¬ p1.toInt = 1 := zt_ne rfl (by decide) g_691
      have g_692 : ¬ p1.toInt = 2 := zt_ne rfl (by decide) g_692
      have g_693 : ¬ p1.toInt = 3 := zt_ne rfl (by decide) g_693
      have g_694 : p1.toInt = 4 := zt_eq rfl (by decide) g_694
      exfalso; omega
    · skip
      have g_695 : ¬ p1.toInt = 0 := zt_ne rfl (by decide) g_695
      have g_696 : ¬ p1.toInt = 1 := zt_ne rfl (by decide) g_696
      have g_697 : ¬ p1.toInt = 2 := zt_ne rfl (by decide) g_697
      have g_698 : ¬ p1.toInt = 3 := zt_ne rfl (by decide) g_698
      have g_699 : ¬ p1.toInt = 4 := zt_ne rfl (by decide) g_699
      have g_700 : p1.toInt = 5 := zt_eq rfl (by decide) g_700
      exfalso; omega
    · skip
      have g_701 : ¬ p1.toInt = 0 := zt_ne rfl (by decide) g_701
      have g_702 : ¬ p1.toInt = 1 := zt_ne rfl (by decide) g_702
      have g_703 : ¬ p1.toInt = 2 := zt_ne rfl (by decide) g_703
      have g_704 : ¬ p1.toInt = 3 := zt_ne rfl (by decide) g_704
      have g_705 : ¬ p1.toInt = 4 := zt_ne rfl (by decide) g_705
      have g_706 : ¬ p1.toInt = 5 := zt_ne rfl (by decide) g_706
      have g_707 : p1.toInt = 6 := zt_eq rfl (by decide) g_707
      exfalso; omega
    · skip
      have g_708 : ¬ p1.toInt = 0 := zt_ne rfl (by decide) g_708
      have g_709 : ¬ p1.toInt = 1 := zt_ne rfl (by decide) g_709
      have g_710 : ¬ p1.toInt = 2 := zt_ne rfl (by decide) g_710
      have g_711 : ¬ p1.toInt = 3 := zt_ne rfl (by decide) g_711
      have g_712 : ¬ p1.toInt = 4 := zt_ne rfl (by decide) g_712
      have g_713 : ¬ p1.toInt = 5 := zt_ne rfl (by decide) g_713
      have g_714 : ¬ p1.toInt = 6 := zt_ne rfl (by decide) g_714
      have g_715 : p1.toInt = 7 := zt_eq rfl (by decide) g_715
      exfalso; omega
    · skip
      have g_716 : ¬ p1.toInt = 0 := zt_ne rfl (by decide) g_716
      have g_717 : ¬ p1.toInt = 1 := zt_ne rfl (by decide) g_717
      have g_718 : ¬ p1.toInt = 2 := zt_ne rfl (by decide) g_718
      have g_719 : ¬ p1.toInt = 3 := zt_ne rfl (by decide) g_719
      have g_720 : ¬ p1.toInt = 4 := zt_ne rfl (by decide) g_720
      have g_721 : ¬ p1.toInt = 5 := zt_ne rfl (by decide) g_721
      have g_722 : ¬ p1.toInt = 6 := zt_ne rfl (by decide) g_722
      have g_723 : ¬ p1.toInt = 7 := zt_ne rfl (by decide) g_723
      have g_724 : p1.toInt = 8 := zt_eq rfl (by decide) g_724
      exfalso; omega
    · skip
      have g_725 : ¬ p1.toInt = 0 := zt_ne rfl (by decide) g_725
      have g_726 : ¬ p1.toInt = 1 := zt_ne rfl (by decide) g_726
      have g_727 : ¬ p1.toInt = 2 := zt_ne rfl (by decide) g_727
      have g_728 : ¬ p1.toInt = 3 := zt_ne rfl (by decide) g_728
      have g_729 : ¬ p1.toInt = 4 := zt_ne rfl (by decide) g_729
      have g_730 : ¬ p1.toInt = 5 := zt_ne rfl (by decide) g_730
      have g_731 : ¬ p1.toInt = 6 := zt_ne rfl (by decide) g_731
      have g_732 : ¬ p1.toInt = 7 := zt_ne rfl (by decide) g_732
      have g_733 : ¬ p1.toInt = 8 := zt_ne rfl (by decide) g_733
      have g_734 : p1.toInt = 9 := zt_eq rfl (by decide) g_734
      refine lv_icmp_eq (tgt := 1299) hx hb dL_law_348 (by decide) (fun _ => ?_) (fun c_745 => (z_abs c_745 (by decide)).elim)
      exact lc_end hx hb hr hlocks hX hbl hAs hS (lv_sub hl [0, 3] rfl) (Nat.le_of_ble_eq_true rfl) (Nat.le_of_ble_eq_true rfl)
    · skip
      have g_735 : ¬ p1.toInt = 0 := zt_ne rfl (by decide) g_735
      have g_736 : ¬ p1.toInt = 1 := zt_ne rfl (by decide) g_736
      have g_737 : ¬ p1.toInt = 2 := zt_ne rfl (by decide) g_737
      have g_738 : ¬ p1.toInt = 3 := zt_ne rfl (by decide) g_738
      have g_739 : ¬ p1.toInt = 4 := zt_ne rfl (by decide) g_739
      have g_740 : ¬ p1.toInt = 5 := zt_ne rfl (by decide) g_740
      have g_741 : ¬ p1.toInt = 6 := zt_ne rfl (by decide) g_741
      have g_742 : ¬ p1.toInt = 7 := zt_ne rfl (by decide) g_742
      have g_743 : ¬ p1.toInt = 8 := zt_ne rfl (by decide) g_743
      have g_744 : ¬ p1.toInt = 9 := zt_ne rfl (by decide) g_744
      exfalso; omega
  · skip
    have g_57 : ¬ p1.toInt = 0 := zt_ne rfl (by decide) g_57
    have g_58 : ¬ p1.toInt = 1 := zt_ne rfl (by decide) g_58
    have g_59 : ¬ p1.toInt = 2 := zt_ne rfl (by decide) g_59
    have g_60 : ¬ p1.toInt = 3 := zt_ne rfl (by decide) g_60
    have g_61 : ¬ p1.toInt = 4 := zt_ne rfl (by decide) g_61
    have g_62 : ¬ p1.toInt = 5 := zt_ne rfl (by decide) g_62
    have g_63 : ¬ p1.toInt = 6 := zt_ne rfl (by decide) g_63
    have g_64 : ¬ p1.toInt = 7 := zt_ne rfl (by decide) g_64
    have g_65 : ¬ p1.toInt = 8 := zt_ne rfl (by decide) g_65
    have g_66 : ¬ p1.toInt = 9 := zt_ne rfl (by decide) g_66
    refine lv_aload_n hx hb dL_law_339 rfl (lv_at hl 1 rfl) ?_
    refine lv_aload_n hx hb dL_law_340 rfl (lv_at hl 3 rfl) ?_
    refine lv_iload_n hx hb dL_law_341 rfl (lv_at hl 0 rfl) ?_
    refine lv_iconst (v := 1) hx hb dL_law_342 (by decide) ?_
    refine lv_iadd hx hb dL_law_343 ?_
    refine z_topi (y := 1) (by decide) ?_
    refine va_sld hx hb hX hbl hbA hS (z_in (by decide) (by decide)) dL_law_344 ?_
    refine z_topi (y := p1) e1.symm ?_
    refine zcV (As := [.int p1]) (rest := [.int (-1)]) (C := RX12) (n := 1) ⟨hx, hb, hml, hown, ht⟩ (k_X12_has l D am p1) (zgV ml_L_36 im_X12_has se_X12_has in_X12 co_X12_has) rfl rfl (by decide +kernel) ⟨Nat.le_of_ble_eq_true rfl, Nat.le_of_ble_eq_true rfl⟩ hK hP hS [6, 7, 8] rfl 0 rfl rfl rfl rfl hl.1 rfl (Nat.le_of_ble_eq_true rfl) dL_law_345 ⟨Nat.le_of_ble_eq_true rfl, Nat.le_of_ble_eq_true rfl⟩ (fun r_747 H locs hw hP hS => ?_)
    rcases hw with ⟨rfl, g_748⟩ | ⟨rfl, g_749, g_750⟩ | ⟨rfl, g_751, g_752, g_753⟩ | ⟨rfl, g_754, g_755, g_756, g_757⟩ | ⟨rfl, g_758, g_759, g_760, g_761, g_762⟩ | ⟨rfl, g_763, g_764, g_765, g_766, g_767, g_768⟩ | ⟨rfl, g_769, g_770, g_771, g_772, g_773, g_774, g_775⟩ | ⟨rfl, g_776, g_777, g_778, g_779, g_780, g_781, g_782, g_783⟩ | ⟨rfl, g_784, g_785, g_786, g_787, g_788, g_789, g_790, g_791, g_792⟩ | ⟨rfl, g_793, g_794, g_795, g_796, g_797, g_798, g_799, g_800, g_801, g_802⟩ | ⟨rfl, g_803, g_804, g_805, g_806, g_807, g_808, g_809, g_810, g_811, g_812⟩
    · skip
      have g_748 : p1.toInt = 0 := zt_eq rfl (by decide) g_748
      exfalso; omega
    · skip
      have g_749 : ¬ p1.toInt = 0 := zt_ne rfl (by decide) g_749
      have g_750 : p1.toInt = 1 := zt_eq rfl (by decide) g_750
      exfalso; omega
    · skip
      have g_751 : ¬ p1.toInt = 0 := zt_ne rfl (by decide) g_751
      have g_752 : ¬ p1.toInt = 1 := zt_ne rfl (by decide) g_752
      have g_753 : p1.toInt = 2 := zt_eq rfl (by decide) g_753
      exfalso; omega
    · skip
      have g_754 : ¬ p1.toInt = 0 := zt_ne rfl (by decide) g_754
      have g_755 : ¬ p1.toInt = 1 := zt_ne rfl (by decide) g_755
      have g_756 : ¬ p1.toInt = 2 := zt_ne rfl (by decide) g_756
      have g_757 : p1.toInt = 3 := zt_eq rfl (by decide) g_757
      exfalso; omega
    · skip
      have g_758 : ¬ p1.toInt = 0 := zt_ne rfl (by decide) g_758
      have g_759 : ¬ p1.toInt = 1 := zt_ne rfl (by decide) g_759
      have g_760 : ¬ p1.toInt = 2 := zt_ne rfl (by decide) g_760
      have g_761 : ¬ p1.toInt = 3 := zt_ne rfl (by decide) g_761
      have g_762 : p1.toInt = 4 := zt_eq rfl (by decide) g_762
      exfalso; omega
    · skip
      have g_763 : ¬ p1.toInt = 0 := zt_ne rfl (by decide) g_763
      have g_764 : ¬ p1.toInt = 1 := zt_ne rfl (by decide) g_764
      have g_765 : ¬ p1.toInt = 2 := zt_ne rfl (by decide) g_765
      have g_766 : ¬ p1.toInt = 3 := zt_ne rfl (by decide) g_766
      have g_767 : ¬ p1.toInt = 4 := zt_ne rfl (by decide) g_767
      have g_768 : p1.toInt = 5 := zt_eq rfl (by decide) g_768
      exfalso; omega
    · skip
      have g_769 : ¬ p1.toInt = 0 := zt_ne rfl (by decide) g_769
      have g_770 : ¬ p1.toInt = 1 := zt_ne rfl (by decide) g_770
      have g_771 : ¬ p1.toInt = 2 := zt_ne rfl (by decide) g_771
      have g_772 : ¬ p1.toInt = 3 := zt_ne rfl (by decide) g_772
      have g_773 : ¬ p1.toInt = 4 := zt_ne rfl (by decide) g_773
      have g_774 : ¬ p1.toInt = 5 := zt_ne rfl (by decide) g_774
      have g_775 : p1.toInt = 6 := zt_eq rfl (by decide) g_775
      exfalso; omega
    · skip
      have g_776 : ¬ p1.toInt = 0 := zt_ne rfl (by decide) g_776
      have g_777 : ¬ p1.toInt = 1 := zt_ne rfl (by decide) g_777
      have g_778 : ¬ p1.toInt = 2 := zt_ne rfl (by decide) g_778
      have g_779 : ¬ p1.toInt = 3 := zt_ne rfl (by decide) g_779
      have g_780 : ¬ p1.toInt = 4 := zt_ne rfl (by decide) g_780
      have g_781 : ¬ p1.toInt = 5 := zt_ne rfl (by decide) g_781
      have g_782 : ¬ p1.toInt = 6 := zt_ne rfl (by decide) g_782
      have g_783 : p1.toInt = 7 := zt_eq rfl (by decide) g_783
      exfalso; omega
    · skip
      have g_784 : ¬ p1.toInt = 0 := zt_ne rfl (by decide) g_784
      have g_785 : ¬ p1.toInt = 1 := zt_ne rfl (by decide) g_785
      have g_786 : ¬ p1.toInt = 2 := zt_ne rfl (by decide) g_786
      have g_787 : ¬ p1.toInt = 3 := zt_ne rfl (by decide) g_787
      have g_788 : ¬ p1.toInt = 4 := zt_ne rfl (by decide) g_788
      have g_789 : ¬ p1.toInt = 5 := zt_ne rfl (by decide) g_789
      have g_790 : ¬ p1.toInt = 6 := zt_ne rfl (by decide) g_790
      have g_791 : ¬ p1.toInt = 7 := zt_ne rfl (by decide) g_791
      have g_792 : p1.toInt = 8 := zt_eq rfl (by decide) g_792
      exfalso; omega
    · skip
      have g_793 : ¬ p1.toInt = 0 := zt_ne rfl (by decide) g_793
      have g_794 : ¬ p1.toInt = 1 := zt_ne rfl (by decide) g_794
      have g_795 : ¬ p1.toInt = 2 := zt_ne rfl (by decide) g_795
      have g_796 : ¬ p1.toInt = 3 := zt_ne rfl (by decide) g_796
      have g_797 : ¬ p1.toInt = 4 := zt_ne rfl (by decide) g_797
      have g_798 : ¬ p1.toInt = 5 := zt_ne rfl (by decide) g_798
      have g_799 : ¬ p1.toInt = 6 := zt_ne rfl (by decide) g_799
      have g_800 : ¬ p1.toInt = 7 := zt_ne rfl (by decide) g_800
      have g_801 : ¬ p1.toInt = 8 := zt_ne rfl (by decide) g_801
      have g_802 : p1.toInt = 9 := zt_eq rfl (by decide) g_802
      exfalso; omega
    · skip
      have g_803 : ¬ p1.toInt = 0 := zt_ne rfl (by decide) g_803
      have g_804 : ¬ p1.toInt = 1 := zt_ne rfl (by decide) g_804
      have g_805 : ¬ p1.toInt = 2 := zt_ne rfl (by decide) g_805
      have g_806 : ¬ p1.toInt = 3 := zt_ne rfl (by decide) g_806
      have g_807 : ¬ p1.toInt = 4 := zt_ne rfl (by decide) g_807
      have g_808 : ¬ p1.toInt = 5 := zt_ne rfl (by decide) g_808
      have g_809 : ¬ p1.toInt = 6 := zt_ne rfl (by decide) g_809
      have g_810 : ¬ p1.toInt = 7 := zt_ne rfl (by decide) g_810
      have g_811 : ¬ p1.toInt = 8 := zt_ne rfl (by decide) g_811
      have g_812 : ¬ p1.toInt = 9 := zt_ne rfl (by decide) g_812
      refine lv_icmp_eq (tgt := 1299) hx hb dL_law_348 (by decide) (fun _ => ?_) (fun c_813 => (z_abs c_813 (by decide)).elim)
      exact lc_end hx hb hr hlocks hX hbl hAs hS (lv_sub hl [0, 3] rfl) (Nat.le_of_ble_eq_true rfl) (Nat.le_of_ble_eq_true rfl)
set_option maxHeartbeats 4000000 in
set_option maxRecDepth 100000 in
/-- letter -/
theorem lc_5 {p : Program} (l : Launch) {e : Env} {s : State} {m : MethodId} {below : List Frame} {meth : Method} {c : Code} {b : Nat} {xs : Nat → Int32} {H : Heap} {locs : List Loc} {ls : Array Slot} {A : Nat → Prop} {D : va_G} {ax am : Nat → Nat} (hx : p.tables.exec = Jvm.exec) (hb : c.code = cL_law) (hr : meth.sig.returnType = ret) (hlocks : meth.locks = false) (hml : c.maxLocals = 4) (hown : s.vm.findClass RL = some m.cls) (ht : ∀ w ∈ lw_gd, w.before #[Value.ref b] s = true) (hX : va_X b 6 xs s s.heap) (hbl : b < s.heap.size) (hA : ∀ q, s.heap.size ≤ q → A q) (hAs : ∀ q, A q → s.heap.size ≤ q) (hK : va_K D vwCl (TY D) s) (hP : va_P D vwCl [((ax 0), .inr (11, [.ref (ax 1), .ref (ax 2), .ref (ax 3), .ref (ax 4), .ref (ax 5), .ref (ax 6), .ref (ax 7), .ref (ax 8), .ref (ax 9), .ref (ax 10), .ref (ax 11), .ref (ax 12), .int 0])), ((am 200), .inr (12, mO am 0 0 0 0 0 0 0 (-1) 0 0 1 0)), ((am 39), .inl (D.1 13, 10, .inl (fun _ => 0)))] H) (hD : va_D A [((ax 0), .inr (11, [.ref (ax 1), .ref (ax 2), .ref (ax 3), .ref (ax 4), .ref (ax 5), .ref (ax 6), .ref (ax 7), .ref (ax 8), .ref (ax 9), .ref (ax 10), .ref (ax 11), .ref (ax 12), .int 0])), ((am 200), .inr (12, mO am 0 0 0 0 0 0 0 (-1) 0 0 1 0)), ((am 39), .inl (D.1 13, 10, .inl (fun _ => 0)))]) (hS : va_S A s.heap H locs) (hl : lv_has ls 4 [(3, .int 0), (2, .ref (am 200)), (1, .ref (ax 0)), (0, .ref b)]) : W p l e room_1 s m #[Value.ref b] below meth c H locs 164 46440 (lw_Z below #[Value.ref b] s) (F0 m 353 ls []) := by
  have hbA : ¬ A b := fun h => absurd (hAs b h) (Nat.not_le.mpr hbl)
  refine lv_aload_n hx hb dL_law_353 rfl (lv_at hl 2 rfl) ?_
  refine lv_aload_n hx hb dL_law_354 rfl (lv_at hl 3 rfl) ?_
  refine lv_iload_n hx hb dL_law_355 rfl (lv_at hl 0 rfl) ?_
  refine lv_iconst (v := 1) hx hb dL_law_356 (by decide) ?_
  refine lv_iadd hx hb dL_law_357 ?_
  refine z_topi (y := 1) (by decide) ?_
  refine va_sld hx hb hX hbl hbA hS (z_in (by decide) (by decide)) dL_law_358 ?_
  refine lv_topi (fun p1 e1 => ?_)
  refine lv_aload_n hx hb dL_law_359 rfl (lv_at hl 3 rfl) ?_
  refine lv_iload_n hx hb dL_law_360 rfl (lv_at hl 0 rfl) ?_
  refine lv_iconst (v := 2) hx hb dL_law_361 (by decide) ?_
  refine lv_iadd hx hb dL_law_362 ?_
  refine z_topi (y := 2) (by decide) ?_
  refine va_sld hx hb hX hbl hbA hS (z_in (by decide) (by decide)) dL_law_363 ?_
  refine lv_topi (fun p2 e2 => ?_)
  refine zcV (As := [.int p1, .int p2]) (rest := []) (C := RX11) (n := 2) ⟨hx, hb, hml, hown, ht⟩ (k_X11_letter l D ax p1 p2) (zgV ml_L_37 im_X11_letter se_X11_letter in_X11 co_X11_letter) rfl rfl (by decide +kernel) ⟨Nat.le_of_ble_eq_true rfl, Nat.le_of_ble_eq_true rfl⟩ hK hP hS [0] rfl 0 rfl rfl rfl rfl hl.1 rfl (Nat.le_of_ble_eq_true rfl) dL_law_364 ⟨Nat.le_of_ble_eq_true rfl, Nat.le_of_ble_eq_true rfl⟩ (fun r_1 H locs hw hP hS => ?_)
  subst hw
  refine lv_aload_n hx hb dL_law_367 rfl (lv_at hl 1 rfl) ?_
  refine lv_aload_n hx hb dL_law_368 rfl (lv_at hl 3 rfl) ?_
  refine lv_iload_n hx hb dL_law_369 rfl (lv_at hl 0 rfl) ?_
  refine lv_iconst (v := 1) hx hb dL_law_370 (by decide) ?_
  refine lv_iadd hx hb dL_law_371 ?_
  refine z_topi (y := 1) (by decide) ?_
  refine va_sld hx hb hX hbl hbA hS (z_in (by decide) (by decide)) dL_law_372 ?_
  refine z_topi (y := p1) e1.symm ?_
  refine lv_aload_n hx hb dL_law_373 rfl (lv_at hl 3 rfl) ?_
  refine lv_iload_n hx hb dL_law_374 rfl (lv_at hl 0 rfl) ?_
  refine lv_iconst (v := 2) hx hb dL_law_375 (by decide) ?_
  refine lv_iadd hx hb dL_law_376 ?_
  refine z_topi (y := 2) (by decide) ?_
  refine va_sld hx hb hX hbl hbA hS (z_in (by decide) (by decide)) dL_law_377 ?_
  refine z_topi (y := p2) e2.symm ?_
  refine zcV (As := [.int p1, .int p2]) (rest := [.int (-1)]) (C := RX12) (n := 2) ⟨hx, hb, hml, hown, ht⟩ (k_X12_letter l D am p1 p2) (zgV ml_L_41 im_X12_letter se_X12_letter in_X12 co_X12_letter) rfl rfl (by decide +kernel) ⟨Nat.le_of_ble_eq_true rfl, Nat.le_of_ble_eq_true rfl⟩ hK hP hS [1, 2] rfl 0 rfl rfl rfl rfl hl.1 rfl (Nat.le_of_ble_eq_true rfl) dL_law_378 ⟨Nat.le_of_ble_eq_true rfl, Nat.le_of_ble_eq_true rfl⟩ (fun r_2 H locs hw hP hS => ?_)
  subst hw
  refine lv_icmp_eq (tgt := 1299) hx hb dL_law_381 (by decide) (fun _ => ?_) (fun c_3 => (z_abs c_3 (by decide)).elim)
  exact lc_end hx hb hr hlocks hX hbl hAs hS (lv_sub hl [0, 3] rfl) (Nat.le_of_ble_eq_true rfl) (Nat.le_of_ble_eq_true rfl)
set_option maxHeartbeats 4000000 in
set_option maxRecDepth 100000 in
/-- volume -/
theorem lc_6 {p : Program} (l : Launch) {e : Env} {s : State} {m : MethodId} {below : List Frame} {meth : Method} {c : Code} {b : Nat} {xs : Nat → Int32} {H : Heap} {locs : List Loc} {ls : Array Slot} {A : Nat → Prop} {D : va_G} {ax am : Nat → Nat} (hx : p.tables.exec = Jvm.exec) (hb : c.code = cL_law) (hr : meth.sig.returnType = ret) (hlocks : meth.locks = false) (hml : c.maxLocals = 4) (hown : s.vm.findClass RL = some m.cls) (ht : ∀ w ∈ lw_gd, w.before #[Value.ref b] s = true) (hX : va_X b 6 xs s s.heap) (hbl : b < s.heap.size) (hA : ∀ q, s.heap.size ≤ q → A q) (hAs : ∀ q, A q → s.heap.size ≤ q) (hK : va_K D vwCl (TY D) s) (hP : va_P D vwCl [((ax 0), .inr (11, [.ref (ax 1), .ref (ax 2), .ref (ax 3), .ref (ax 4), .ref (ax 5), .ref (ax 6), .ref (ax 7), .ref (ax 8), .ref (ax 9), .ref (ax 10), .ref (ax 11), .ref (ax 12), .int 0])), ((ax 12), .inr (1, [.ref (ax 13), .ref (ax 14), .ref (ax 15), .int 1, .ref (ax 10), .ref (ax 16), .ref (ax 17), .ref (ax 18), .ref (ax 19)])), ((ax 13), .inr (8, [.int 0, .int 0, .long 0, .ref (ax 60), .ref (ax 61), .ref (ax 62), .ref (ax 63), .ref (ax 64), .ref (ax 65), .ref (ax 66), .ref (ax 67)])), ((ax 66), .inl (D.1 13, 8, .inl (fun _ => (-2)))), ((am 200), .inr (12, mO am 0 0 0 0 0 0 0 (-1) 0 0 1 0))] H) (hD : va_D A [((ax 0), .inr (11, [.ref (ax 1), .ref (ax 2), .ref (ax 3), .ref (ax 4), .ref (ax 5), .ref (ax 6), .ref (ax 7), .ref (ax 8), .ref (ax 9), .ref (ax 10), .ref (ax 11), .ref (ax 12), .int 0])), ((ax 12), .inr (1, [.ref (ax 13), .ref (ax 14), .ref (ax 15), .int 1, .ref (ax 10), .ref (ax 16), .ref (ax 17), .ref (ax 18), .ref (ax 19)])), ((ax 13), .inr (8, [.int 0, .int 0, .long 0, .ref (ax 60), .ref (ax 61), .ref (ax 62), .ref (ax 63), .ref (ax 64), .ref (ax 65), .ref (ax 66), .ref (ax 67)])), ((ax 66), .inl (D.1 13, 8, .inl (fun _ => (-2)))), ((am 200), .inr (12, mO am 0 0 0 0 0 0 0 (-1) 0 0 1 0))]) (hS : va_S A s.heap H locs) (hl : lv_has ls 4 [(3, .int 0), (2, .ref (am 200)), (1, .ref (ax 0)), (0, .ref b)]) : W p l e room_1 s m #[Value.ref b] below meth c H locs 164 46440 (lw_Z below #[Value.ref b] s) (F0 m 386 ls []) := by
  have hbA : ¬ A b := fun h => absurd (hAs b h) (Nat.not_le.mpr hbl)
  refine lv_aload_n hx hb dL_law_386 rfl (lv_at hl 2 rfl) ?_
  refine lv_aload_n hx hb dL_law_387 rfl (lv_at hl 3 rfl) ?_
  refine lv_iload_n hx hb dL_law_388 rfl (lv_at hl 0 rfl) ?_
  refine lv_iconst (v := 1) hx hb dL_law_389 (by decide) ?_
  refine lv_iadd hx hb dL_law_390 ?_
  refine z_topi (y := 1) (by decide) ?_
  refine va_sld hx hb hX hbl hbA hS (z_in (by decide) (by decide)) dL_law_391 ?_
  refine lv_topi (fun p1 e1 => ?_)
  refine lv_aload_n hx hb dL_law_392 rfl (lv_at hl 3 rfl) ?_
  refine lv_iload_n hx hb dL_law_393 rfl (lv_at hl 0 rfl) ?_
  refine lv_iconst (v := 2) hx hb dL_law_394 (by decide) ?_
  refine lv_iadd hx hb dL_law_395 ?_
  refine z_topi (y := 2) (by decide) ?_
  refine va_sld hx hb hX hbl hbA hS (z_in (by decide) (by decide)) dL_law_396 ?_
  refine lv_topi (fun p2 e2 => ?_)
  refine zcV (As := [.int p1, .int p2]) (rest := []) (C := RX11) (n := 2) ⟨hx, hb, hml, hown, ht⟩ (k_X11_volume l D ax p1 p2) (zgV ml_L_42 im_X11_volume se_X11_volume in_X11 co_X11_volume) rfl rfl (by decide +kernel) ⟨Nat.le_of_ble_eq_true rfl, Nat.le_of_ble_eq_true rfl⟩ hK hP hS [0, 1, 2, 3] rfl 0 rfl rfl rfl rfl hl.1 rfl (Nat.le_of_ble_eq_true rfl) dL_law_397 ⟨Nat.le_of_ble_eq_true rfl, Nat.le_of_ble_eq_true rfl⟩ (fun r_1 H locs hw hP hS => ?_)
  subst hw
  refine lv_aload_n hx hb dL_law_400 rfl (lv_at hl 1 rfl) ?_
  refine lv_aload_n hx hb dL_law_401 rfl (lv_at hl 3 rfl) ?_
  refine lv_iload_n hx hb dL_law_402 rfl (lv_at hl 0 rfl) ?_
  refine lv_iconst (v := 1) hx hb dL_law_403 (by decide) ?_
  refine lv_iadd hx hb dL_law_404 ?_
  refine z_topi (y := 1) (by decide) ?_
  refine va_sld hx hb hX hbl hbA hS (z_in (by decide) (by decide)) dL_law_405 ?_
  refine z_topi (y := p1) e1.symm ?_
  refine lv_aload_n hx hb dL_law_406 rfl (lv_at hl 3 rfl) ?_
  refine lv_iload_n hx hb dL_law_407 rfl (lv_at hl 0 rfl) ?_
  refine lv_iconst (v := 2) hx hb dL_law_408 (by decide) ?_
  refine lv_iadd hx hb dL_law_409 ?_
  refine z_topi (y := 2) (by decide) ?_
  refine va_sld hx hb hX hbl hbA hS (z_in (by decide) (by decide)) dL_law_410 ?_
  refine z_topi (y := p2) e2.symm ?_
  refine zcV (As := [.int p1, .int p2]) (rest := [.int (-1)]) (C := RX12) (n := 2) ⟨hx, hb, hml, hown, ht⟩ (k_X12_volume l D am p1 p2) (zgV ml_L_45 im_X12_volume se_X12_volume in_X12 co_X12_volume) rfl rfl (by decide +kernel) ⟨Nat.le_of_ble_eq_true rfl, Nat.le_of_ble_eq_true rfl⟩ hK hP hS [4] rfl 0 rfl rfl rfl rfl hl.1 rfl (Nat.le_of_ble_eq_true rfl) dL_law_411 ⟨Nat.le_of_ble_eq_true rfl, Nat.le_of_ble_eq_true rfl⟩ (fun r_2 H locs hw hP hS => ?_)
  subst hw
  refine lv_icmp_eq (tgt := 1299) hx hb dL_law_414 (by decide) (fun _ => ?_) (fun c_3 => (z_abs c_3 (by decide)).elim)
  exact lc_end hx hb hr hlocks hX hbl hAs hS (lv_sub hl [0, 3] rfl) (Nat.le_of_ble_eq_true rfl) (Nat.le_of_ble_eq_true rfl)
set_option maxHeartbeats 4000000 in
set_option maxRecDepth 100000 in
/-- block -/
theorem lc_7 {p : Program} (l : Launch) {e : Env} {s : State} {m : MethodId} {below : List Frame} {meth : Method} {c : Code} {b : Nat} {xs : Nat → Int32} {H : Heap} {locs : List Loc} {ls : Array Slot} {A : Nat → Prop} {D : va_G} {ax am : Nat → Nat} (hx : p.tables.exec = Jvm.exec) (hb : c.code = cL_law) (hr : meth.sig.returnType = ret) (hlocks : meth.locks = false) (hml : c.maxLocals = 4) (hown : s.vm.findClass RL = some m.cls) (ht : ∀ w ∈ lw_gd, w.before #[Value.ref b] s = true) (hX : va_X b 6 xs s s.heap) (hbl : b < s.heap.size) (hA : ∀ q, s.heap.size ≤ q → A q) (hAs : ∀ q, A q → s.heap.size ≤ q) (hK : va_K D vwCl (TY D) s) (hP : va_P D vwCl [((ax 0), .inr (11, [.ref (ax 1), .ref (ax 2), .ref (ax 3), .ref (ax 4), .ref (ax 5), .ref (ax 6), .ref (ax 7), .ref (ax 8), .ref (ax 9), .ref (ax 10), .ref (ax 11), .ref (ax 12), .int 0])), ((ax 12), .inr (1, [.ref (ax 13), .ref (ax 14), .ref (ax 15), .int 1, .ref (ax 10), .ref (ax 16), .ref (ax 17), .ref (ax 18), .ref (ax 19)])), ((ax 13), .inr (8, [.int 0, .int 0, .long 0, .ref (ax 60), .ref (ax 61), .ref (ax 62), .ref (ax 63), .ref (ax 64), .ref (ax 65), .ref (ax 66), .ref (ax 67)])), ((am 200), .inr (12, mO am 0 0 0 0 0 0 0 (-1) 0 0 1 0)), ((am 39), .inl (D.1 13, 10, .inl (fun _ => 0)))] H) (hD : va_D A [((ax 0), .inr (11, [.ref (ax 1), .ref (ax 2), .ref (ax 3), .ref (ax 4), .ref (ax 5), .ref (ax 6), .ref (ax 7), .ref (ax 8), .ref (ax 9), .ref (ax 10), .ref (ax 11), .ref (ax 12), .int 0])), ((ax 12), .inr (1, [.ref (ax 13), .ref (ax 14), .ref (ax 15), .int 1, .ref (ax 10), .ref (ax 16), .ref (ax 17), .ref (ax 18), .ref (ax 19)])), ((ax 13), .inr (8, [.int 0, .int 0, .long 0, .ref (ax 60), .ref (ax 61), .ref (ax 62), .ref (ax 63), .ref (ax 64), .ref (ax 65), .ref (ax 66), .ref (ax 67)])), ((am 200), .inr (12, mO am 0 0 0 0 0 0 0 (-1) 0 0 1 0)), ((am 39), .inl (D.1 13, 10, .inl (fun _ => 0)))]) (hS : va_S A s.heap H locs) (hl : lv_has ls 4 [(3, .int 0), (2, .ref (am 200)), (1, .ref (ax 0)), (0, .ref b)]) : W p l e room_1 s m #[Value.ref b] below meth c H locs 164 46440 (lw_Z below #[Value.ref b] s) (F0 m 419 ls []) := by
  have hbA : ¬ A b := fun h => absurd (hAs b h) (Nat.not_le.mpr hbl)
  refine lv_aload_n hx hb dL_law_419 rfl (lv_at hl 2 rfl) ?_
  refine lv_aload_n hx hb dL_law_420 rfl (lv_at hl 3 rfl) ?_
  refine lv_iload_n hx hb dL_law_421 rfl (lv_at hl 0 rfl) ?_
  refine lv_iconst (v := 1) hx hb dL_law_422 (by decide) ?_
  refine lv_iadd hx hb dL_law_423 ?_
  refine z_topi (y := 1) (by decide) ?_
  refine va_sld hx hb hX hbl hbA hS (z_in (by decide) (by decide)) dL_law_424 ?_
  refine lv_topi (fun p1 e1 => ?_)
  refine lv_aload_n hx hb dL_law_425 rfl (lv_at hl 3 rfl) ?_
  refine lv_iload_n hx hb dL_law_426 rfl (lv_at hl 0 rfl) ?_
  refine lv_iconst (v := 2) hx hb dL_law_427 (by decide) ?_
  refine lv_iadd hx hb dL_law_428 ?_
  refine z_topi (y := 2) (by decide) ?_
  refine va_sld hx hb hX hbl hbA hS (z_in (by decide) (by decide)) dL_law_429 ?_
  refine lv_topi (fun p2 e2 => ?_)
  refine zcV (As := [.int p1, .int p2]) (rest := []) (C := RX11) (n := 2) ⟨hx, hb, hml, hown, ht⟩ (k_X11_block l D ax p1 p2) (zgV ml_L_46 im_X11_block se_X11_block in_X11 co_X11_block) rfl rfl (by decide +kernel) ⟨Nat.le_of_ble_eq_true rfl, Nat.le_of_ble_eq_true rfl⟩ hK hP hS [0, 1, 2] rfl 0 rfl rfl rfl rfl hl.1 rfl (Nat.le_of_ble_eq_true rfl) dL_law_430 ⟨Nat.le_of_ble_eq_true rfl, Nat.le_of_ble_eq_true rfl⟩ (fun r_1 H locs hw hP hS => ?_)
  subst hw
  refine lv_aload_n hx hb dL_law_433 rfl (lv_at hl 1 rfl) ?_
  refine lv_aload_n hx hb dL_law_434 rfl (lv_at hl 3 rfl) ?_
  refine lv_iload_n hx hb dL_law_435 rfl (lv_at hl 0 rfl) ?_
  refine lv_iconst (v := 1) hx hb dL_law_436 (by decide) ?_
  refine lv_iadd hx hb dL_law_437 ?_
  refine z_topi (y := 1) (by decide) ?_
  refine va_sld hx hb hX hbl hbA hS (z_in (by decide) (by decide)) dL_law_438 ?_
  refine z_topi (y := p1) e1.symm ?_
  refine lv_aload_n hx hb dL_law_439 rfl (lv_at hl 3 rfl) ?_
  refine lv_iload_n hx hb dL_law_440 rfl (lv_at hl 0 rfl) ?_
  refine lv_iconst (v := 2) hx hb dL_law_441 (by decide) ?_
  refine lv_iadd hx hb dL_law_442 ?_
  refine z_topi (y := 2) (by decide) ?_
  refine va_sld hx hb hX hbl hbA hS (z_in (by decide) (by decide)) dL_law_443 ?_
  refine z_topi (y := p2) e2.symm ?_
  refine zcV (As := [.int p1, .int p2]) (rest := [.int (-1)]) (C := RX12) (n := 2) ⟨hx, hb, hml, hown, ht⟩ (k_X12_block l D am p1 p2) (zgV ml_L_49 im_X12_block se_X12_block in_X12 co_X12_block) rfl rfl (by decide +kernel) ⟨Nat.le_of_ble_eq_true rfl, Nat.le_of_ble_eq_true rfl⟩ hK hP hS [3, 4] rfl 0 rfl rfl rfl rfl hl.1 rfl (Nat.le_of_ble_eq_true rfl) dL_law_444 ⟨Nat.le_of_ble_eq_true rfl, Nat.le_of_ble_eq_true rfl⟩ (fun r_2 H locs hw hP hS => ?_)
  subst hw
  refine lv_icmp_eq (tgt := 1299) hx hb dL_law_447 (by decide) (fun _ => ?_) (fun c_3 => (z_abs c_3 (by decide)).elim)
  exact lc_end hx hb hr hlocks hX hbl hAs hS (lv_sub hl [0, 3] rfl) (Nat.le_of_ble_eq_true rfl) (Nat.le_of_ble_eq_true rfl)
set_option maxHeartbeats 4000000 in
set_option maxRecDepth 100000 in
/-- entry -/
theorem lc_8 {p : Program} (l : Launch) {e : Env} {s : State} {m : MethodId} {below : List Frame} {meth : Method} {c : Code} {b : Nat} {xs : Nat → Int32} {H : Heap} {locs : List Loc} {ls : Array Slot} {A : Nat → Prop} {D : va_G} {ax am : Nat → Nat} (hx : p.tables.exec = Jvm.exec) (hb : c.code = cL_law) (hr : meth.sig.returnType = ret) (hlocks : meth.locks = false) (hml : c.maxLocals = 4) (hown : s.vm.findClass RL = some m.cls) (ht : ∀ w ∈ lw_gd, w.before #[Value.ref b] s = true) (hX : va_X b 6 xs s s.heap) (hbl : b < s.heap.size) (hA : ∀ q, s.heap.size ≤ q → A q) (hAs : ∀ q, A q → s.heap.size ≤ q) (hK : va_K D vwCl (TY D) s) (hP : va_P D vwCl [((ax 0), .inr (11, [.ref (ax 1), .ref (ax 2), .ref (ax 3), .ref (ax 4), .ref (ax 5), .ref (ax 6), .ref (ax 7), .ref (ax 8), .ref (ax 9), .ref (ax 10), .ref (ax 11), .ref (ax 12), .int 0])), ((ax 12), .inr (1, [.ref (ax 13), .ref (ax 14), .ref (ax 15), .int 1, .ref (ax 10), .ref (ax 16), .ref (ax 17), .ref (ax 18), .ref (ax 19)])), ((ax 13), .inr (8, [.int 0, .int 0, .long 0, .ref (ax 60), .ref (ax 61), .ref (ax 62), .ref (ax 63), .ref (ax 64), .ref (ax 65), .ref (ax 66), .ref (ax 67)])), ((am 200), .inr (12, mO am 0 0 0 0 0 0 0 (-1) 0 0 1 0)), ((am 39), .inl (D.1 13, 10, .inl (fun _ => 0)))] H) (hD : va_D A [((ax 0), .inr (11, [.ref (ax 1), .ref (ax 2), .ref (ax 3), .ref (ax 4), .ref (ax 5), .ref (ax 6), .ref (ax 7), .ref (ax 8), .ref (ax 9), .ref (ax 10), .ref (ax 11), .ref (ax 12), .int 0])), ((ax 12), .inr (1, [.ref (ax 13), .ref (ax 14), .ref (ax 15), .int 1, .ref (ax 10), .ref (ax 16), .ref (ax 17), .ref (ax 18), .ref (ax 19)])), ((ax 13), .inr (8, [.int 0, .int 0, .long 0, .ref (ax 60), .ref (ax 61), .ref (ax 62), .ref (ax 63), .ref (ax 64), .ref (ax 65), .ref (ax 66), .ref (ax 67)])), ((am 200), .inr (12, mO am 0 0 0 0 0 0 0 (-1) 0 0 1 0)), ((am 39), .inl (D.1 13, 10, .inl (fun _ => 0)))]) (hS : va_S A s.heap H locs) (hl : lv_has ls 4 [(3, .int 0), (2, .ref (am 200)), (1, .ref (ax 0)), (0, .ref b)]) : W p l e room_1 s m #[Value.ref b] below meth c H locs 164 46440 (lw_Z below #[Value.ref b] s) (F0 m 452 ls []) := by
  have hbA : ¬ A b := fun h => absurd (hAs b h) (Nat.not_le.mpr hbl)
  refine lv_aload_n hx hb dL_law_452 rfl (lv_at hl 2 rfl) ?_
  refine lv_aload_n hx hb dL_law_453 rfl (lv_at hl 3 rfl) ?_
  refine lv_iload_n hx hb dL_law_454 rfl (lv_at hl 0 rfl) ?_
  refine lv_iconst (v := 1) hx hb dL_law_455 (by decide) ?_
  refine lv_iadd hx hb dL_law_456 ?_
  refine z_topi (y := 1) (by decide) ?_
  refine va_sld hx hb hX hbl hbA hS (z_in (by decide) (by decide)) dL_law_457 ?_
  refine lv_topi (fun p1 e1 => ?_)
  refine lv_aload_n hx hb dL_law_458 rfl (lv_at hl 3 rfl) ?_
  refine lv_iload_n hx hb dL_law_459 rfl (lv_at hl 0 rfl) ?_
  refine lv_iconst (v := 2) hx hb dL_law_460 (by decide) ?_
  refine lv_iadd hx hb dL_law_461 ?_
  refine z_topi (y := 2) (by decide) ?_
  refine va_sld hx hb hX hbl hbA hS (z_in (by decide) (by decide)) dL_law_462 ?_
  refine lv_topi (fun p2 e2 => ?_)
  refine lv_aload_n hx hb dL_law_463 rfl (lv_at hl 3 rfl) ?_
  refine lv_iload_n hx hb dL_law_464 rfl (lv_at hl 0 rfl) ?_
  refine lv_iconst (v := 3) hx hb dL_law_465 (by decide) ?_
  refine lv_iadd hx hb dL_law_466 ?_
  refine z_topi (y := 3) (by decide) ?_
  refine va_sld hx hb hX hbl hbA hS (z_in (by decide) (by decide)) dL_law_467 ?_
  refine lv_topi (fun p3 e3 => ?_)
  refine zcV (As := [.int p1, .int p2, .int p3]) (rest := []) (C := RX11) (n := 3) ⟨hx, hb, hml, hown, ht⟩ (k_X11_entry l D ax p1 p2 p3) (zgV ml_L_50 im_X11_entry se_X11_entry in_X11 co_X11_entry) rfl rfl (by decide +kernel) ⟨Nat.le_of_ble_eq_true rfl, Nat.le_of_ble_eq_true rfl⟩ hK hP hS [0, 1, 2] rfl 0 rfl rfl rfl rfl hl.1 rfl (Nat.le_of_ble_eq_true rfl) dL_law_468 ⟨Nat.le_of_ble_eq_true rfl, Nat.le_of_ble_eq_true rfl⟩ (fun r_1 H locs hw hP hS => ?_)
  subst hw
  refine lv_aload_n hx hb dL_law_471 rfl (lv_at hl 1 rfl) ?_
  refine lv_aload_n hx hb dL_law_472 rfl (lv_at hl 3 rfl) ?_
  refine lv_iload_n hx hb dL_law_473 rfl (lv_at hl 0 rfl) ?_
  refine lv_iconst (v := 1) hx hb dL_law_474 (by decide) ?_
  refine lv_iadd hx hb dL_law_475 ?_
  refine z_topi (y := 1) (by decide) ?_
  refine va_sld hx hb hX hbl hbA hS (z_in (by decide) (by decide)) dL_law_476 ?_
  refine z_topi (y := p1) e1.symm ?_
  refine lv_aload_n hx hb dL_law_477 rfl (lv_at hl 3 rfl) ?_
  refine lv_iload_n hx hb dL_law_478 rfl (lv_at hl 0 rfl) ?_
  refine lv_iconst (v := 2) hx hb dL_law_479 (by decide) ?_
  refine lv_iadd hx hb dL_law_480 ?_
  refine z_topi (y := 2) (by decide) ?_
  refine va_sld hx hb hX hbl hbA hS (z_in (by decide) (by decide)) dL_law_481 ?_
  refine z_topi (y := p2) e2.symm ?_
  refine lv_aload_n hx hb dL_law_482 rfl (lv_at hl 3 rfl) ?_
  refine lv_iload_n hx hb dL_law_483 rfl (lv_at hl 0 rfl) ?_
  refine lv_iconst (v := 3) hx hb dL_law_484 (by decide) ?_
  refine lv_iadd hx hb dL_law_485 ?_
  refine z_topi (y := 3) (by decide) ?_
  refine va_sld hx hb hX hbl hbA hS (z_in (by decide) (by decide)) dL_law_486 ?_
  refine z_topi (y := p3) e3.symm ?_
  refine zcV (As := [.int p1, .int p2, .int p3]) (rest := [.int (-1)]) (C := RX12) (n := 3) ⟨hx, hb, hml, hown, ht⟩ (k_X12_entry l D am p1 p2 p3) (zgV ml_L_54 im_X12_entry se_X12_entry in_X12 co_X12_entry) rfl rfl (by decide +kernel) ⟨Nat.le_of_ble_eq_true rfl, Nat.le_of_ble_eq_true rfl⟩ hK hP hS [3, 4] rfl 0 rfl rfl rfl rfl hl.1 rfl (Nat.le_of_ble_eq_true rfl) dL_law_487 ⟨Nat.le_of_ble_eq_true rfl, Nat.le_of_ble_eq_true rfl⟩ (fun r_2 H locs hw hP hS => ?_)
  subst hw
  refine lv_icmp_eq (tgt := 1299) hx hb dL_law_490 (by decide) (fun _ => ?_) (fun c_3 => (z_abs c_3 (by decide)).elim)
  exact lc_end hx hb hr hlocks hX hbl hAs hS (lv_sub hl [0, 3] rfl) (Nat.le_of_ble_eq_true rfl) (Nat.le_of_ble_eq_true rfl)
set_option maxHeartbeats 4000000 in
set_option maxRecDepth 100000 in
/-- kept -/
theorem lc_9 {p : Program} (l : Launch) {e : Env} {s : State} {m : MethodId} {below : List Frame} {meth : Method} {c : Code} {b : Nat} {xs : Nat → Int32} {H : Heap} {locs : List Loc} {ls : Array Slot} {A : Nat → Prop} {D : va_G} {ax am : Nat → Nat} (hx : p.tables.exec = Jvm.exec) (hb : c.code = cL_law) (hr : meth.sig.returnType = ret) (hlocks : meth.locks = false) (hml : c.maxLocals = 4) (hown : s.vm.findClass RL = some m.cls) (ht : ∀ w ∈ lw_gd, w.before #[Value.ref b] s = true) (hX : va_X b 6 xs s s.heap) (hbl : b < s.heap.size) (hA : ∀ q, s.heap.size ≤ q → A q) (hAs : ∀ q, A q → s.heap.size ≤ q) (hK : va_K D vwCl (TY D) s) (hP : va_P D vwCl [((ax 0), .inr (11, [.ref (ax 1), .ref (ax 2), .ref (ax 3), .ref (ax 4), .ref (ax 5), .ref (ax 6), .ref (ax 7), .ref (ax 8), .ref (ax 9), .ref (ax 10), .ref (ax 11), .ref (ax 12), .int 0])), ((ax 3), .inr (2, [.ref (ax 22), .ref (ax 23), .ref (ax 24), .int 0, .ref (ax 25), .int 0])), ((am 200), .inr (12, mO am 0 0 0 0 0 0 0 (-1) 0 0 1 0)), ((am 49), .inl (D.1 13, 906, .inl (fun _ => 0)))] H) (hD : va_D A [((ax 0), .inr (11, [.ref (ax 1), .ref (ax 2), .ref (ax 3), .ref (ax 4), .ref (ax 5), .ref (ax 6), .ref (ax 7), .ref (ax 8), .ref (ax 9), .ref (ax 10), .ref (ax 11), .ref (ax 12), .int 0])), ((ax 3), .inr (2, [.ref (ax 22), .ref (ax 23), .ref (ax 24), .int 0, .ref (ax 25), .int 0])), ((am 200), .inr (12, mO am 0 0 0 0 0 0 0 (-1) 0 0 1 0)), ((am 49), .inl (D.1 13, 906, .inl (fun _ => 0)))]) (hS : va_S A s.heap H locs) (hl : lv_has ls 4 [(3, .int 0), (2, .ref (am 200)), (1, .ref (ax 0)), (0, .ref b)]) : W p l e room_1 s m #[Value.ref b] below meth c H locs 164 46440 (lw_Z below #[Value.ref b] s) (F0 m 495 ls []) := by
  have hbA : ¬ A b := fun h => absurd (hAs b h) (Nat.not_le.mpr hbl)
  refine lv_aload_n hx hb dL_law_495 rfl (lv_at hl 2 rfl) ?_
  refine lv_aload_n hx hb dL_law_496 rfl (lv_at hl 3 rfl) ?_
  refine lv_iload_n hx hb dL_law_497 rfl (lv_at hl 0 rfl) ?_
  refine lv_iconst (v := 1) hx hb dL_law_498 (by decide) ?_
  refine lv_iadd hx hb dL_law_499 ?_
  refine z_topi (y := 1) (by decide) ?_
  refine va_sld hx hb hX hbl hbA hS (z_in (by decide) (by decide)) dL_law_500 ?_
  refine lv_topi (fun p1 e1 => ?_)
  refine lv_aload_n hx hb dL_law_501 rfl (lv_at hl 3 rfl) ?_
  refine lv_iload_n hx hb dL_law_502 rfl (lv_at hl 0 rfl) ?_
  refine lv_iconst (v := 2) hx hb dL_law_503 (by decide) ?_
  refine lv_iadd hx hb dL_law_504 ?_
  refine z_topi (y := 2) (by decide) ?_
  refine va_sld hx hb hX hbl hbA hS (z_in (by decide) (by decide)) dL_law_505 ?_
  refine lv_topi (fun p2 e2 => ?_)
  refine zcV (As := [.int p1, .int p2]) (rest := []) (C := RX11) (n := 2) ⟨hx, hb, hml, hown, ht⟩ (k_X11_kept l D ax p1 p2) (zgV ml_L_55 im_X11_kept se_X11_kept in_X11 co_X11_kept) rfl rfl (by decide +kernel) ⟨Nat.le_of_ble_eq_true rfl, Nat.le_of_ble_eq_true rfl⟩ hK hP hS [0, 1] rfl 0 rfl rfl rfl rfl hl.1 rfl (Nat.le_of_ble_eq_true rfl) dL_law_506 ⟨Nat.le_of_ble_eq_true rfl, Nat.le_of_ble_eq_true rfl⟩ (fun r_1 H locs hw hP hS => ?_)
  subst hw
  refine lv_aload_n hx hb dL_law_509 rfl (lv_at hl 1 rfl) ?_
  refine lv_aload_n hx hb dL_law_510 rfl (lv_at hl 3 rfl) ?_
  refine lv_iload_n hx hb dL_law_511 rfl (lv_at hl 0 rfl) ?_
  refine lv_iconst (v := 1) hx hb dL_law_512 (by decide) ?_
  refine lv_iadd hx hb dL_law_513 ?_
  refine z_topi (y := 1) (by decide) ?_
  refine va_sld hx hb hX hbl hbA hS (z_in (by decide) (by decide)) dL_law_514 ?_
  refine z_topi (y := p1) e1.symm ?_
  refine lv_aload_n hx hb dL_law_515 rfl (lv_at hl 3 rfl) ?_
  refine lv_iload_n hx hb dL_law_516 rfl (lv_at hl 0 rfl) ?_
  refine lv_iconst (v := 2) hx hb dL_law_517 (by decide) ?_
  refine lv_iadd hx hb dL_law_518 ?_
  refine z_topi (y := 2) (by decide) ?_
  refine va_sld hx hb hX hbl hbA hS (z_in (by decide) (by decide)) dL_law_519 ?_
  refine z_topi (y := p2) e2.symm ?_
  refine zcV (As := [.int p1, .int p2]) (rest := [.int (-1)]) (C := RX12) (n := 2) ⟨hx, hb, hml, hown, ht⟩ (k_X12_kept l D am p1 p2) (zgV ml_L_58 im_X12_kept se_X12_kept in_X12 co_X12_kept) rfl rfl (by decide +kernel) ⟨Nat.le_of_ble_eq_true rfl, Nat.le_of_ble_eq_true rfl⟩ hK hP hS [2, 3] rfl 0 rfl rfl rfl rfl hl.1 rfl (Nat.le_of_ble_eq_true rfl) dL_law_520 ⟨Nat.le_of_ble_eq_true rfl, Nat.le_of_ble_eq_true rfl⟩ (fun r_2 H locs hw hP hS => ?_)
  subst hw
  refine lv_icmp_eq (tgt := 1299) hx hb dL_law_523 (by decide) (fun _ => ?_) (fun c_3 => (z_abs c_3 (by decide)).elim)
  exact lc_end hx hb hr hlocks hX hbl hAs hS (lv_sub hl [0, 3] rfl) (Nat.le_of_ble_eq_true rfl) (Nat.le_of_ble_eq_true rfl)
