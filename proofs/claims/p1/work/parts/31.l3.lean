theorem ml_L_139 : Cond.methodLink RL 139 yX11_checkpoint ∈ lw_gd := zm (List.mem_of_getElem? (i := 1368) (by decide +kernel)) rfl
theorem im_X11_checkpoint : Cond.instanceMethod yX11_checkpoint ∈ lw_gd := zm (List.mem_of_getElem? (i := 1369) (by decide +kernel)) rfl
theorem se_X11_checkpoint : Cond.selects RX11 yX11_checkpoint yX11_checkpoint ∈ lw_gd := zm (List.mem_of_getElem? (i := 1370) (by decide +kernel)) rfl
theorem co_X11_checkpoint : Cond.code yX11_checkpoint cX11_checkpoint 2 (some .int) ∈ lw_gd := zm (List.mem_of_getElem? (i := 1371) (by decide +kernel)) rfl
theorem ml_L_142 : Cond.methodLink RL 142 yX12_checkpoint ∈ lw_gd := zm (List.mem_of_getElem? (i := 2464) (by decide +kernel)) rfl
theorem im_X12_checkpoint : Cond.instanceMethod yX12_checkpoint ∈ lw_gd := zm (List.mem_of_getElem? (i := 2465) (by decide +kernel)) rfl
theorem se_X12_checkpoint : Cond.selects RX12 yX12_checkpoint yX12_checkpoint ∈ lw_gd := zm (List.mem_of_getElem? (i := 2466) (by decide +kernel)) rfl
theorem co_X12_checkpoint : Cond.code yX12_checkpoint cX12_checkpoint 2 (some .int) ∈ lw_gd := zm (List.mem_of_getElem? (i := 2467) (by decide +kernel)) rfl
theorem ml_L_143 : Cond.methodLink RL 143 yX11_crash ∈ lw_gd := zm (List.mem_of_getElem? (i := 1373) (by decide +kernel)) rfl
theorem im_X11_crash : Cond.instanceMethod yX11_crash ∈ lw_gd := zm (List.mem_of_getElem? (i := 1374) (by decide +kernel)) rfl
theorem se_X11_crash : Cond.selects RX11 yX11_crash yX11_crash ∈ lw_gd := zm (List.mem_of_getElem? (i := 1375) (by decide +kernel)) rfl
theorem co_X11_crash : Cond.code yX11_crash cX11_crash 2 (some .int) ∈ lw_gd := zm (List.mem_of_getElem? (i := 1376) (by decide +kernel)) rfl
theorem ml_L_146 : Cond.methodLink RL 146 yX12_crash ∈ lw_gd := zm (List.mem_of_getElem? (i := 2468) (by decide +kernel)) rfl
theorem im_X12_crash : Cond.instanceMethod yX12_crash ∈ lw_gd := zm (List.mem_of_getElem? (i := 2469) (by decide +kernel)) rfl
theorem se_X12_crash : Cond.selects RX12 yX12_crash yX12_crash ∈ lw_gd := zm (List.mem_of_getElem? (i := 2470) (by decide +kernel)) rfl
theorem co_X12_crash : Cond.code yX12_crash cX12_crash 3 (some .int) ∈ lw_gd := zm (List.mem_of_getElem? (i := 2471) (by decide +kernel)) rfl
theorem ml_L_147 : Cond.methodLink RL 147 yX11_chance ∈ lw_gd := zm (List.mem_of_getElem? (i := 1386) (by decide +kernel)) rfl
theorem im_X11_chance : Cond.instanceMethod yX11_chance ∈ lw_gd := zm (List.mem_of_getElem? (i := 1387) (by decide +kernel)) rfl
theorem se_X11_chance : Cond.selects RX11 yX11_chance yX11_chance ∈ lw_gd := zm (List.mem_of_getElem? (i := 1388) (by decide +kernel)) rfl
theorem co_X11_chance : Cond.code yX11_chance cX11_chance 4 (some .int) ∈ lw_gd := zm (List.mem_of_getElem? (i := 1389) (by decide +kernel)) rfl
theorem ml_L_150 : Cond.methodLink RL 150 yX12_chance ∈ lw_gd := zm (List.mem_of_getElem? (i := 2484) (by decide +kernel)) rfl
theorem im_X12_chance : Cond.instanceMethod yX12_chance ∈ lw_gd := zm (List.mem_of_getElem? (i := 2485) (by decide +kernel)) rfl
theorem se_X12_chance : Cond.selects RX12 yX12_chance yX12_chance ∈ lw_gd := zm (List.mem_of_getElem? (i := 2486) (by decide +kernel)) rfl
theorem co_X12_chance : Cond.code yX12_chance cX12_chance 4 (some .int) ∈ lw_gd := zm (List.mem_of_getElem? (i := 2487) (by decide +kernel)) rfl
theorem ml_L_151 : Cond.methodLink RL 151 yX11_undo ∈ lw_gd := zm (List.mem_of_getElem? (i := 1407) (by decide +kernel)) rfl
theorem im_X11_undo : Cond.instanceMethod yX11_undo ∈ lw_gd := zm (List.mem_of_getElem? (i := 1408) (by decide +kernel)) rfl
theorem se_X11_undo : Cond.selects RX11 yX11_undo yX11_undo ∈ lw_gd := zm (List.mem_of_getElem? (i := 1409) (by decide +kernel)) rfl
theorem co_X11_undo : Cond.code yX11_undo cX11_undo 2 (some .boolean) ∈ lw_gd := zm (List.mem_of_getElem? (i := 1410) (by decide +kernel)) rfl
theorem ml_L_155 : Cond.methodLink RL 155 yX12_undo ∈ lw_gd := zm (List.mem_of_getElem? (i := 2427) (by decide +kernel)) rfl
theorem im_X12_undo : Cond.instanceMethod yX12_undo ∈ lw_gd := zm (List.mem_of_getElem? (i := 2428) (by decide +kernel)) rfl
theorem se_X12_undo : Cond.selects RX12 yX12_undo yX12_undo ∈ lw_gd := zm (List.mem_of_getElem? (i := 2429) (by decide +kernel)) rfl
theorem co_X12_undo : Cond.code yX12_undo cX12_undo 2 (some .boolean) ∈ lw_gd := zm (List.mem_of_getElem? (i := 2430) (by decide +kernel)) rfl
theorem ml_L_156 : Cond.methodLink RL 156 yX11_seed ∈ lw_gd := zm (List.mem_of_getElem? (i := 1416) (by decide +kernel)) rfl
theorem im_X11_seed : Cond.instanceMethod yX11_seed ∈ lw_gd := zm (List.mem_of_getElem? (i := 1417) (by decide +kernel)) rfl
theorem se_X11_seed : Cond.selects RX11 yX11_seed yX11_seed ∈ lw_gd := zm (List.mem_of_getElem? (i := 1418) (by decide +kernel)) rfl
theorem co_X11_seed : Cond.code yX11_seed cX11_seed 2 (some .boolean) ∈ lw_gd := zm (List.mem_of_getElem? (i := 1419) (by decide +kernel)) rfl
theorem ml_L_159 : Cond.methodLink RL 159 yX12_seed ∈ lw_gd := zm (List.mem_of_getElem? (i := 2476) (by decide +kernel)) rfl
theorem im_X12_seed : Cond.instanceMethod yX12_seed ∈ lw_gd := zm (List.mem_of_getElem? (i := 2477) (by decide +kernel)) rfl
theorem se_X12_seed : Cond.selects RX12 yX12_seed yX12_seed ∈ lw_gd := zm (List.mem_of_getElem? (i := 2478) (by decide +kernel)) rfl
theorem co_X12_seed : Cond.code yX12_seed cX12_seed 2 (some .boolean) ∈ lw_gd := zm (List.mem_of_getElem? (i := 2479) (by decide +kernel)) rfl
theorem ml_L_160 : Cond.methodLink RL 160 yX11_ask ∈ lw_gd := zm (List.mem_of_getElem? (i := 1420) (by decide +kernel)) rfl
theorem im_X11_ask : Cond.instanceMethod yX11_ask ∈ lw_gd := zm (List.mem_of_getElem? (i := 1421) (by decide +kernel)) rfl
theorem se_X11_ask : Cond.selects RX11 yX11_ask yX11_ask ∈ lw_gd := zm (List.mem_of_getElem? (i := 1422) (by decide +kernel)) rfl
theorem co_X11_ask : Cond.code yX11_ask cX11_ask 2 (some .long) ∈ lw_gd := zm (List.mem_of_getElem? (i := 1423) (by decide +kernel)) rfl
theorem ml_L_164 : Cond.methodLink RL 164 yX12_ask ∈ lw_gd := zm (List.mem_of_getElem? (i := 2505) (by decide +kernel)) rfl
theorem im_X12_ask : Cond.instanceMethod yX12_ask ∈ lw_gd := zm (List.mem_of_getElem? (i := 2506) (by decide +kernel)) rfl
theorem se_X12_ask : Cond.selects RX12 yX12_ask yX12_ask ∈ lw_gd := zm (List.mem_of_getElem? (i := 2507) (by decide +kernel)) rfl
theorem co_X12_ask : Cond.code yX12_ask cX12_ask 3 (some .long) ∈ lw_gd := zm (List.mem_of_getElem? (i := 2508) (by decide +kernel)) rfl
theorem ml_L_165 : Cond.methodLink RL 165 yX11_image ∈ lw_gd := zm (List.mem_of_getElem? (i := 1446) (by decide +kernel)) rfl
theorem im_X11_image : Cond.instanceMethod yX11_image ∈ lw_gd := zm (List.mem_of_getElem? (i := 1447) (by decide +kernel)) rfl
theorem se_X11_image : Cond.selects RX11 yX11_image yX11_image ∈ lw_gd := zm (List.mem_of_getElem? (i := 1448) (by decide +kernel)) rfl
theorem co_X11_image : Cond.code yX11_image cX11_image 1 (some .int) ∈ lw_gd := zm (List.mem_of_getElem? (i := 1449) (by decide +kernel)) rfl
theorem ml_L_168 : Cond.methodLink RL 168 yX12_image ∈ lw_gd := zm (List.mem_of_getElem? (i := 2535) (by decide +kernel)) rfl
theorem im_X12_image : Cond.instanceMethod yX12_image ∈ lw_gd := zm (List.mem_of_getElem? (i := 2536) (by decide +kernel)) rfl
theorem se_X12_image : Cond.selects RX12 yX12_image yX12_image ∈ lw_gd := zm (List.mem_of_getElem? (i := 2537) (by decide +kernel)) rfl
theorem co_X12_image : Cond.code yX12_image cX12_image 2 (some .int) ∈ lw_gd := zm (List.mem_of_getElem? (i := 2538) (by decide +kernel)) rfl
theorem ml_L_169 : Cond.methodLink RL 169 yX11_octet ∈ lw_gd := zm (List.mem_of_getElem? (i := 1475) (by decide +kernel)) rfl
theorem im_X11_octet : Cond.instanceMethod yX11_octet ∈ lw_gd := zm (List.mem_of_getElem? (i := 1476) (by decide +kernel)) rfl
theorem se_X11_octet : Cond.selects RX11 yX11_octet yX11_octet ∈ lw_gd := zm (List.mem_of_getElem? (i := 1477) (by decide +kernel)) rfl
theorem co_X11_octet : Cond.code yX11_octet cX11_octet 2 (some .int) ∈ lw_gd := zm (List.mem_of_getElem? (i := 1478) (by decide +kernel)) rfl
theorem ml_L_172 : Cond.methodLink RL 172 yX12_octet ∈ lw_gd := zm (List.mem_of_getElem? (i := 2527) (by decide +kernel)) rfl
theorem im_X12_octet : Cond.instanceMethod yX12_octet ∈ lw_gd := zm (List.mem_of_getElem? (i := 2528) (by decide +kernel)) rfl
theorem se_X12_octet : Cond.selects RX12 yX12_octet yX12_octet ∈ lw_gd := zm (List.mem_of_getElem? (i := 2529) (by decide +kernel)) rfl
theorem co_X12_octet : Cond.code yX12_octet cX12_octet 2 (some .int) ∈ lw_gd := zm (List.mem_of_getElem? (i := 2530) (by decide +kernel)) rfl
theorem ml_L_173 : Cond.methodLink RL 173 yX11_on ∈ lw_gd := zm (List.mem_of_getElem? (i := 1479) (by decide +kernel)) rfl
theorem im_X11_on : Cond.instanceMethod yX11_on ∈ lw_gd := zm (List.mem_of_getElem? (i := 1480) (by decide +kernel)) rfl
theorem se_X11_on : Cond.selects RX11 yX11_on yX11_on ∈ lw_gd := zm (List.mem_of_getElem? (i := 1481) (by decide +kernel)) rfl
theorem co_X11_on : Cond.code yX11_on cX11_on 2 (some .boolean) ∈ lw_gd := zm (List.mem_of_getElem? (i := 1482) (by decide +kernel)) rfl
theorem ml_L_176 : Cond.methodLink RL 176 yX12_on ∈ lw_gd := zm (List.mem_of_getElem? (i := 2559) (by decide +kernel)) rfl
theorem im_X12_on : Cond.instanceMethod yX12_on ∈ lw_gd := zm (List.mem_of_getElem? (i := 2560) (by decide +kernel)) rfl
theorem se_X12_on : Cond.selects RX12 yX12_on yX12_on ∈ lw_gd := zm (List.mem_of_getElem? (i := 2561) (by decide +kernel)) rfl
theorem co_X12_on : Cond.code yX12_on cX12_on 3 (some .boolean) ∈ lw_gd := zm (List.mem_of_getElem? (i := 2562) (by decide +kernel)) rfl
theorem ml_L_177 : Cond.methodLink RL 177 yX11_status ∈ lw_gd := zm (List.mem_of_getElem? (i := 1528) (by decide +kernel)) rfl
theorem im_X11_status : Cond.instanceMethod yX11_status ∈ lw_gd := zm (List.mem_of_getElem? (i := 1529) (by decide +kernel)) rfl
theorem se_X11_status : Cond.selects RX11 yX11_status yX11_status ∈ lw_gd := zm (List.mem_of_getElem? (i := 1530) (by decide +kernel)) rfl
theorem co_X11_status : Cond.code yX11_status cX11_status 2 (some .int) ∈ lw_gd := zm (List.mem_of_getElem? (i := 1531) (by decide +kernel)) rfl
theorem ml_L_180 : Cond.methodLink RL 180 yX12_status ∈ lw_gd := zm (List.mem_of_getElem? (i := 2531) (by decide +kernel)) rfl
theorem im_X12_status : Cond.instanceMethod yX12_status ∈ lw_gd := zm (List.mem_of_getElem? (i := 2532) (by decide +kernel)) rfl
theorem se_X12_status : Cond.selects RX12 yX12_status yX12_status ∈ lw_gd := zm (List.mem_of_getElem? (i := 2533) (by decide +kernel)) rfl
theorem co_X12_status : Cond.code yX12_status cX12_status 2 (some .int) ∈ lw_gd := zm (List.mem_of_getElem? (i := 2534) (by decide +kernel)) rfl
theorem dL_law_1128 : decode cL_law 1128 = .ok (.aload_n 1, 1) := by decide +kernel
theorem dL_law_1129 : decode cL_law 1129 = .ok (.invokevirtual 139, 3) := by decide +kernel
theorem dL_law_1132 : decode cL_law 1132 = .ok (.aload_n 2, 1) := by decide +kernel
theorem dL_law_1133 : decode cL_law 1133 = .ok (.invokevirtual 142, 3) := by decide +kernel
theorem dL_law_1136 : decode cL_law 1136 = .ok (.if_icmp .eq 163, 3) := by decide +kernel
theorem dL_law_1141 : decode cL_law 1141 = .ok (.aload_n 1, 1) := by decide +kernel
theorem dL_law_1142 : decode cL_law 1142 = .ok (.invokevirtual 143, 3) := by decide +kernel
theorem dL_law_1145 : decode cL_law 1145 = .ok (.aload_n 2, 1) := by decide +kernel
theorem dL_law_1146 : decode cL_law 1146 = .ok (.invokevirtual 146, 3) := by decide +kernel
theorem dL_law_1149 : decode cL_law 1149 = .ok (.if_icmp .eq 150, 3) := by decide +kernel
theorem dL_law_1154 : decode cL_law 1154 = .ok (.aload_n 1, 1) := by decide +kernel
theorem dL_law_1155 : decode cL_law 1155 = .ok (.aload_n 0, 1) := by decide +kernel
theorem dL_law_1156 : decode cL_law 1156 = .ok (.iload_n 3, 1) := by decide +kernel
theorem dL_law_1157 : decode cL_law 1157 = .ok (.iconst 1, 1) := by decide +kernel
theorem dL_law_1158 : decode cL_law 1158 = .ok (.iadd, 1) := by decide +kernel
theorem dL_law_1159 : decode cL_law 1159 = .ok (.iaload, 1) := by decide +kernel
theorem dL_law_1160 : decode cL_law 1160 = .ok (.invokevirtual 147, 3) := by decide +kernel
theorem dL_law_1163 : decode cL_law 1163 = .ok (.aload_n 2, 1) := by decide +kernel
theorem dL_law_1164 : decode cL_law 1164 = .ok (.aload_n 0, 1) := by decide +kernel
theorem dL_law_1165 : decode cL_law 1165 = .ok (.iload_n 3, 1) := by decide +kernel
theorem dL_law_1166 : decode cL_law 1166 = .ok (.iconst 1, 1) := by decide +kernel
theorem dL_law_1167 : decode cL_law 1167 = .ok (.iadd, 1) := by decide +kernel
theorem dL_law_1168 : decode cL_law 1168 = .ok (.iaload, 1) := by decide +kernel
theorem dL_law_1169 : decode cL_law 1169 = .ok (.invokevirtual 150, 3) := by decide +kernel
theorem dL_law_1172 : decode cL_law 1172 = .ok (.if_icmp .eq 127, 3) := by decide +kernel
theorem dL_law_1177 : decode cL_law 1177 = .ok (.aload_n 1, 1) := by decide +kernel
theorem dL_law_1178 : decode cL_law 1178 = .ok (.invokevirtual 151, 3) := by decide +kernel
theorem dL_law_1181 : decode cL_law 1181 = .ok (.aload_n 2, 1) := by decide +kernel
theorem dL_law_1182 : decode cL_law 1182 = .ok (.invokevirtual 155, 3) := by decide +kernel
theorem dL_law_1185 : decode cL_law 1185 = .ok (.if_icmp .eq 114, 3) := by decide +kernel
theorem dL_law_1190 : decode cL_law 1190 = .ok (.aload_n 1, 1) := by decide +kernel
theorem dL_law_1191 : decode cL_law 1191 = .ok (.aload_n 0, 1) := by decide +kernel
theorem dL_law_1192 : decode cL_law 1192 = .ok (.iload_n 3, 1) := by decide +kernel
theorem dL_law_1193 : decode cL_law 1193 = .ok (.iconst 1, 1) := by decide +kernel
theorem dL_law_1194 : decode cL_law 1194 = .ok (.iadd, 1) := by decide +kernel
theorem dL_law_1195 : decode cL_law 1195 = .ok (.iaload, 1) := by decide +kernel
theorem dL_law_1196 : decode cL_law 1196 = .ok (.invokevirtual 156, 3) := by decide +kernel
theorem dL_law_1199 : decode cL_law 1199 = .ok (.aload_n 2, 1) := by decide +kernel
theorem dL_law_1200 : decode cL_law 1200 = .ok (.aload_n 0, 1) := by decide +kernel
theorem dL_law_1201 : decode cL_law 1201 = .ok (.iload_n 3, 1) := by decide +kernel
theorem dL_law_1202 : decode cL_law 1202 = .ok (.iconst 1, 1) := by decide +kernel
theorem dL_law_1203 : decode cL_law 1203 = .ok (.iadd, 1) := by decide +kernel
theorem dL_law_1204 : decode cL_law 1204 = .ok (.iaload, 1) := by decide +kernel
theorem dL_law_1205 : decode cL_law 1205 = .ok (.invokevirtual 159, 3) := by decide +kernel
theorem dL_law_1208 : decode cL_law 1208 = .ok (.if_icmp .eq 91, 3) := by decide +kernel
theorem dL_law_1213 : decode cL_law 1213 = .ok (.aload_n 1, 1) := by decide +kernel
theorem dL_law_1214 : decode cL_law 1214 = .ok (.invokevirtual 160, 3) := by decide +kernel
theorem dL_law_1217 : decode cL_law 1217 = .ok (.aload_n 2, 1) := by decide +kernel
theorem dL_law_1218 : decode cL_law 1218 = .ok (.invokevirtual 164, 3) := by decide +kernel
theorem dL_law_1221 : decode cL_law 1221 = .ok (.lcmp, 1) := by decide +kernel
theorem dL_law_1222 : decode cL_law 1222 = .ok (.ifCond .eq 77, 3) := by decide +kernel
theorem dL_law_1227 : decode cL_law 1227 = .ok (.aload_n 1, 1) := by decide +kernel
theorem dL_law_1228 : decode cL_law 1228 = .ok (.invokevirtual 165, 3) := by decide +kernel
theorem dL_law_1231 : decode cL_law 1231 = .ok (.aload_n 2, 1) := by decide +kernel
theorem dL_law_1232 : decode cL_law 1232 = .ok (.invokevirtual 168, 3) := by decide +kernel
theorem dL_law_1235 : decode cL_law 1235 = .ok (.if_icmp .eq 64, 3) := by decide +kernel
theorem dL_law_1240 : decode cL_law 1240 = .ok (.aload_n 1, 1) := by decide +kernel
theorem dL_law_1241 : decode cL_law 1241 = .ok (.aload_n 0, 1) := by decide +kernel
theorem dL_law_1242 : decode cL_law 1242 = .ok (.iload_n 3, 1) := by decide +kernel
theorem dL_law_1243 : decode cL_law 1243 = .ok (.iconst 1, 1) := by decide +kernel
theorem dL_law_1244 : decode cL_law 1244 = .ok (.iadd, 1) := by decide +kernel
theorem dL_law_1245 : decode cL_law 1245 = .ok (.iaload, 1) := by decide +kernel
theorem dL_law_1246 : decode cL_law 1246 = .ok (.invokevirtual 169, 3) := by decide +kernel
theorem dL_law_1249 : decode cL_law 1249 = .ok (.aload_n 2, 1) := by decide +kernel
theorem dL_law_1250 : decode cL_law 1250 = .ok (.aload_n 0, 1) := by decide +kernel
theorem dL_law_1251 : decode cL_law 1251 = .ok (.iload_n 3, 1) := by decide +kernel
theorem dL_law_1252 : decode cL_law 1252 = .ok (.iconst 1, 1) := by decide +kernel
theorem dL_law_1253 : decode cL_law 1253 = .ok (.iadd, 1) := by decide +kernel
theorem dL_law_1254 : decode cL_law 1254 = .ok (.iaload, 1) := by decide +kernel
theorem dL_law_1255 : decode cL_law 1255 = .ok (.invokevirtual 172, 3) := by decide +kernel
theorem dL_law_1258 : decode cL_law 1258 = .ok (.if_icmp .eq 41, 3) := by decide +kernel
theorem dL_law_1263 : decode cL_law 1263 = .ok (.aload_n 1, 1) := by decide +kernel
theorem dL_law_1264 : decode cL_law 1264 = .ok (.invokevirtual 173, 3) := by decide +kernel
theorem dL_law_1267 : decode cL_law 1267 = .ok (.aload_n 2, 1) := by decide +kernel
theorem dL_law_1268 : decode cL_law 1268 = .ok (.invokevirtual 176, 3) := by decide +kernel
theorem dL_law_1271 : decode cL_law 1271 = .ok (.if_icmp .eq 28, 3) := by decide +kernel
theorem dL_law_1276 : decode cL_law 1276 = .ok (.aload_n 1, 1) := by decide +kernel
theorem dL_law_1277 : decode cL_law 1277 = .ok (.aload_n 0, 1) := by decide +kernel
theorem dL_law_1278 : decode cL_law 1278 = .ok (.iload_n 3, 1) := by decide +kernel
theorem dL_law_1279 : decode cL_law 1279 = .ok (.iconst 1, 1) := by decide +kernel
theorem dL_law_1280 : decode cL_law 1280 = .ok (.iadd, 1) := by decide +kernel
theorem dL_law_1281 : decode cL_law 1281 = .ok (.iaload, 1) := by decide +kernel
theorem dL_law_1282 : decode cL_law 1282 = .ok (.invokevirtual 177, 3) := by decide +kernel
theorem dL_law_1285 : decode cL_law 1285 = .ok (.aload_n 2, 1) := by decide +kernel
theorem dL_law_1286 : decode cL_law 1286 = .ok (.aload_n 0, 1) := by decide +kernel
theorem dL_law_1287 : decode cL_law 1287 = .ok (.iload_n 3, 1) := by decide +kernel
theorem dL_law_1288 : decode cL_law 1288 = .ok (.iconst 1, 1) := by decide +kernel
theorem dL_law_1289 : decode cL_law 1289 = .ok (.iadd, 1) := by decide +kernel
theorem dL_law_1290 : decode cL_law 1290 = .ok (.iaload, 1) := by decide +kernel
theorem dL_law_1291 : decode cL_law 1291 = .ok (.invokevirtual 180, 3) := by decide +kernel
theorem dL_law_1294 : decode cL_law 1294 = .ok (.if_icmp .eq 5, 3) := by decide +kernel

set_option maxHeartbeats 4000000 in
set_option maxRecDepth 100000 in
/-- checkpoint -/
theorem lc_30 {p : Program} (l : Launch) {e : Env} {s : State} {m : MethodId} {below : List Frame} {meth : Method} {c : Code} {b : Nat} {xs : Nat → Int32} {H : Heap} {locs : List Loc} {ls : Array Slot} {A : Nat → Prop} {D : va_G} {ax am : Nat → Nat} (hx : p.tables.exec = Jvm.exec) (hb : c.code = cL_law) (hr : meth.sig.returnType = ret) (hlocks : meth.locks = false) (hml : c.maxLocals = 4) (hown : s.vm.findClass RL = some m.cls) (ht : ∀ w ∈ lw_gd, w.before #[Value.ref b] s = true) (hX : va_X b 6 xs s s.heap) (hbl : b < s.heap.size) (hA : ∀ q, s.heap.size ≤ q → A q) (hAs : ∀ q, A q → s.heap.size ≤ q) (hK : va_K D vwCl (TY D) s) (hP : va_P D vwCl [((ax 0), .inr (11, [.ref (ax 1), .ref (ax 2), .ref (ax 3), .ref (ax 4), .ref (ax 5), .ref (ax 6), .ref (ax 7), .ref (ax 8), .ref (ax 9), .ref (ax 10), .ref (ax 11), .ref (ax 12), .int 0])), ((ax 9), .inl (D.1 13, 6, .inl (fun _ => 0))), ((am 200), .inr (12, mO am 0 0 0 0 0 0 0 (-1) 0 0 1 0)), ((am 9), .inl (D.1 13, 6, .inl (fun _ => 0)))] H) (hD : va_D A [((ax 0), .inr (11, [.ref (ax 1), .ref (ax 2), .ref (ax 3), .ref (ax 4), .ref (ax 5), .ref (ax 6), .ref (ax 7), .ref (ax 8), .ref (ax 9), .ref (ax 10), .ref (ax 11), .ref (ax 12), .int 0])), ((ax 9), .inl (D.1 13, 6, .inl (fun _ => 0))), ((am 200), .inr (12, mO am 0 0 0 0 0 0 0 (-1) 0 0 1 0)), ((am 9), .inl (D.1 13, 6, .inl (fun _ => 0)))]) (hS : va_S A s.heap H locs) (hl : lv_has ls 4 [(3, .int 0), (2, .ref (am 200)), (1, .ref (ax 0)), (0, .ref b)]) : W p l e room_1 s m #[Value.ref b] below meth c H locs 164 46440 (lw_Z below #[Value.ref b] s) (F0 m 1128 ls []) := by
  have hbA : ¬ A b := fun h => absurd (hAs b h) (Nat.not_le.mpr hbl)
  refine lv_aload_n hx hb dL_law_1128 rfl (lv_at hl 2 rfl) ?_
  refine zwV (As := []) (rest := []) (C := RX11) (n := 0) (wr := [((am 200), .inr (12, mO am 0 0 0 0 0 0 0 (-1) 0 0 1 0)), ((am 9), .inl (D.1 13, 6, .inl (fun _ => 0)))]) ⟨hx, hb, hml, hown, ht⟩ (k_X11_checkpoint l D _ ax) (zgV ml_L_139 im_X11_checkpoint se_X11_checkpoint in_X11 co_X11_checkpoint) rfl rfl (by decide +kernel) ⟨Nat.le_of_ble_eq_true rfl, Nat.le_of_ble_eq_true rfl⟩ hK hP hD hS hA [0, 1] [2, 3] rfl rfl rfl rfl (by decide) 0 rfl rfl rfl rfl hl.1 rfl (Nat.le_of_ble_eq_true rfl) dL_law_1129 ⟨Nat.le_of_ble_eq_true rfl, Nat.le_of_ble_eq_true rfl⟩ (fun r_2 u_1 H locs hw hP hD hS => ?_)
  have hP : va_P D vwCl [((am 200), .inr (12, mO am 0 0 0 0 0 0 0 (-1) 0 0 1 0)), ((am 9), .inl (D.1 13, 6, .inl (fun _ => 0)))] H := hP
  have hD : va_D A [((am 200), .inr (12, mO am 0 0 0 0 0 0 0 (-1) 0 0 1 0)), ((am 9), .inl (D.1 13, 6, .inl (fun _ => 0)))] := hD
  subst hw
  refine lv_aload_n hx hb dL_law_1132 rfl (lv_at hl 1 rfl) ?_
  refine zwV (As := []) (rest := [.int (-1)]) (C := RX12) (n := 0) (wr := []) ⟨hx, hb, hml, hown, ht⟩ (k_X12_checkpoint l D _ am) (zgV ml_L_142 im_X12_checkpoint se_X12_checkpoint in_X12 co_X12_checkpoint) rfl rfl (by decide +kernel) ⟨Nat.le_of_ble_eq_true rfl, Nat.le_of_ble_eq_true rfl⟩ hK hP hD hS hA [0, 1] [] rfl rfl rfl rfl (by decide) 0 rfl rfl rfl rfl hl.1 rfl (Nat.le_of_ble_eq_true rfl) dL_law_1133 ⟨Nat.le_of_ble_eq_true rfl, Nat.le_of_ble_eq_true rfl⟩ (fun r_4 u_3 H locs hw hP hD hS => ?_)
  have hP : va_P D vwCl [] H := hP
  have hD : va_D A [] := hD
  subst hw
  refine lv_icmp_eq (tgt := 1299) hx hb dL_law_1136 (by decide) (fun _ => ?_) (fun c_5 => (z_abs c_5 (by decide)).elim)
  exact lc_end hx hb hr hlocks hX hbl hAs hS (lv_sub hl [0, 3] rfl) (Nat.le_of_ble_eq_true rfl) (Nat.le_of_ble_eq_true rfl)
set_option maxHeartbeats 4000000 in
set_option maxRecDepth 100000 in
/-- crash -/
theorem lc_31 {p : Program} (l : Launch) {e : Env} {s : State} {m : MethodId} {below : List Frame} {meth : Method} {c : Code} {b : Nat} {xs : Nat → Int32} {H : Heap} {locs : List Loc} {ls : Array Slot} {A : Nat → Prop} {D : va_G} {ax am : Nat → Nat} (hx : p.tables.exec = Jvm.exec) (hb : c.code = cL_law) (hr : meth.sig.returnType = ret) (hlocks : meth.locks = false) (hml : c.maxLocals = 4) (hown : s.vm.findClass RL = some m.cls) (ht : ∀ w ∈ lw_gd, w.before #[Value.ref b] s = true) (hX : va_X b 6 xs s s.heap) (hbl : b < s.heap.size) (hA : ∀ q, s.heap.size ≤ q → A q) (hAs : ∀ q, A q → s.heap.size ≤ q) (hK : va_K D vwCl (TY D) s) (hP : va_P D vwCl [((ax 0), .inr (11, [.ref (ax 1), .ref (ax 2), .ref (ax 3), .ref (ax 4), .ref (ax 5), .ref (ax 6), .ref (ax 7), .ref (ax 8), .ref (ax 9), .ref (ax 10), .ref (ax 11), .ref (ax 12), .int 0])), ((ax 9), .inl (D.1 13, 6, .inl (fun _ => 0))), ((am 200), .inr (12, mO am 0 0 0 0 0 0 0 (-1) 0 0 1 0)), ((am 9), .inl (D.1 13, 6, .inl (fun _ => 0)))] H) (hD : va_D A [((ax 0), .inr (11, [.ref (ax 1), .ref (ax 2), .ref (ax 3), .ref (ax 4), .ref (ax 5), .ref (ax 6), .ref (ax 7), .ref (ax 8), .ref (ax 9), .ref (ax 10), .ref (ax 11), .ref (ax 12), .int 0])), ((ax 9), .inl (D.1 13, 6, .inl (fun _ => 0))), ((am 200), .inr (12, mO am 0 0 0 0 0 0 0 (-1) 0 0 1 0)), ((am 9), .inl (D.1 13, 6, .inl (fun _ => 0)))]) (hS : va_S A s.heap H locs) (hl : lv_has ls 4 [(3, .int 0), (2, .ref (am 200)), (1, .ref (ax 0)), (0, .ref b)]) : W p l e room_1 s m #[Value.ref b] below meth c H locs 164 46440 (lw_Z below #[Value.ref b] s) (F0 m 1141 ls []) := by
  have hbA : ¬ A b := fun h => absurd (hAs b h) (Nat.not_le.mpr hbl)
  refine lv_aload_n hx hb dL_law_1141 rfl (lv_at hl 2 rfl) ?_
  refine zwV (As := []) (rest := []) (C := RX11) (n := 0) (wr := [((am 200), .inr (12, mO am 0 0 0 0 0 0 0 (-1) 0 0 1 0)), ((am 9), .inl (D.1 13, 6, .inl (fun _ => 0)))]) ⟨hx, hb, hml, hown, ht⟩ (k_X11_crash l D _ ax) (zgV ml_L_143 im_X11_crash se_X11_crash in_X11 co_X11_crash) rfl rfl (by decide +kernel) ⟨Nat.le_of_ble_eq_true rfl, Nat.le_of_ble_eq_true rfl⟩ hK hP hD hS hA [0, 1] [2, 3] rfl rfl rfl rfl (by decide) 0 rfl rfl rfl rfl hl.1 rfl (Nat.le_of_ble_eq_true rfl) dL_law_1142 ⟨Nat.le_of_ble_eq_true rfl, Nat.le_of_ble_eq_true rfl⟩ (fun r_2 u_1 H locs hw hP hD hS => ?_)
  have hP : va_P D vwCl [((am 200), .inr (12, mO am 0 0 0 0 0 0 0 (-1) 0 0 1 0)), ((am 9), .inl (D.1 13, 6, .inl (fun _ => 0)))] H := hP
  have hD : va_D A [((am 200), .inr (12, mO am 0 0 0 0 0 0 0 (-1) 0 0 1 0)), ((am 9), .inl (D.1 13, 6, .inl (fun _ => 0)))] := hD
  subst hw
  refine lv_aload_n hx hb dL_law_1145 rfl (lv_at hl 1 rfl) ?_
  refine zwV (As := []) (rest := [.int (-1)]) (C := RX12) (n := 0) (wr := []) ⟨hx, hb, hml, hown, ht⟩ (k_X12_crash l D _ am) (zgV ml_L_146 im_X12_crash se_X12_crash in_X12 co_X12_crash) rfl rfl (by decide +kernel) ⟨Nat.le_of_ble_eq_true rfl, Nat.le_of_ble_eq_true rfl⟩ hK hP hD hS hA [0, 1] [] rfl rfl rfl rfl (by decide) 0 rfl rfl rfl rfl hl.1 rfl (Nat.le_of_ble_eq_true rfl) dL_law_1146 ⟨Nat.le_of_ble_eq_true rfl, Nat.le_of_ble_eq_true rfl⟩ (fun r_4 u_3 H locs hw hP hD hS => ?_)
  have hP : va_P D vwCl [] H := hP
  have hD : va_D A [] := hD
  subst hw
  refine lv_icmp_eq (tgt := 1299) hx hb dL_law_1149 (by decide) (fun _ => ?_) (fun c_5 => (z_abs c_5 (by decide)).elim)
  exact lc_end hx hb hr hlocks hX hbl hAs hS (lv_sub hl [0, 3] rfl) (Nat.le_of_ble_eq_true rfl) (Nat.le_of_ble_eq_true rfl)
set_option maxHeartbeats 4000000 in
set_option maxRecDepth 100000 in
/-- chance -/
theorem lc_32 {p : Program} (l : Launch) {e : Env} {s : State} {m : MethodId} {below : List Frame} {meth : Method} {c : Code} {b : Nat} {xs : Nat → Int32} {H : Heap} {locs : List Loc} {ls : Array Slot} {A : Nat → Prop} {D : va_G} {ax am : Nat → Nat} (hx : p.tables.exec = Jvm.exec) (hb : c.code = cL_law) (hr : meth.sig.returnType = ret) (hlocks : meth.locks = false) (hml : c.maxLocals = 4) (hown : s.vm.findClass RL = some m.cls) (ht : ∀ w ∈ lw_gd, w.before #[Value.ref b] s = true) (hX : va_X b 6 xs s s.heap) (hbl : b < s.heap.size) (hA : ∀ q, s.heap.size ≤ q → A q) (hAs : ∀ q, A q → s.heap.size ≤ q) (hK : va_K D vwCl (TY D) s) (hP : va_P D vwCl [((ax 0), .inr (11, [.ref (ax 1), .ref (ax 2), .ref (ax 3), .ref (ax 4), .ref (ax 5), .ref (ax 6), .ref (ax 7), .ref (ax 8), .ref (ax 9), .ref (ax 10), .ref (ax 11), .ref (ax 12), .int 0])), ((ax 9), .inl (D.1 13, 6, .inl (fun _ => 0))), ((am 200), .inr (12, mO am 0 0 0 0 0 0 0 (-1) 0 0 1 0)), ((am 9), .inl (D.1 13, 6, .inl (fun _ => 0)))] H) (hD : va_D A [((ax 0), .inr (11, [.ref (ax 1), .ref (ax 2), .ref (ax 3), .ref (ax 4), .ref (ax 5), .ref (ax 6), .ref (ax 7), .ref (ax 8), .ref (ax 9), .ref (ax 10), .ref (ax 11), .ref (ax 12), .int 0])), ((ax 9), .inl (D.1 13, 6, .inl (fun _ => 0))), ((am 200), .inr (12, mO am 0 0 0 0 0 0 0 (-1) 0 0 1 0)), ((am 9), .inl (D.1 13, 6, .inl (fun _ => 0)))]) (hS : va_S A s.heap H locs) (hl : lv_has ls 4 [(3, .int 0), (2, .ref (am 200)), (1, .ref (ax 0)), (0, .ref b)]) : W p l e room_1 s m #[Value.ref b] below meth c H locs 164 46440 (lw_Z below #[Value.ref b] s) (F0 m 1154 ls []) := by
  have hbA : ¬ A b := fun h => absurd (hAs b h) (Nat.not_le.mpr hbl)
  refine lv_aload_n hx hb dL_law_1154 rfl (lv_at hl 2 rfl) ?_
  refine lv_aload_n hx hb dL_law_1155 rfl (lv_at hl 3 rfl) ?_
  refine lv_iload_n hx hb dL_law_1156 rfl (lv_at hl 0 rfl) ?_
  refine lv_iconst (v := 1) hx hb dL_law_1157 (by decide) ?_
  refine lv_iadd hx hb dL_law_1158 ?_
  refine z_topi (y := 1) (by decide) ?_
  refine va_sld hx hb hX hbl hbA hS (z_in (by decide) (by decide)) dL_law_1159 ?_
  refine lv_topi (fun p1 e1 => ?_)
  refine zwV (As := [.int p1]) (rest := []) (C := RX11) (n := 1) (wr := [((am 200), .inr (12, mO am 0 0 0 0 0 0 0 (-1) 0 0 1 0)), ((am 9), .inl (D.1 13, 6, .inl (fun _ => 0)))]) ⟨hx, hb, hml, hown, ht⟩ (k_X11_chance l D _ ax p1) (zgV ml_L_147 im_X11_chance se_X11_chance in_X11 co_X11_chance) rfl rfl (by decide +kernel) ⟨Nat.le_of_ble_eq_true rfl, Nat.le_of_ble_eq_true rfl⟩ hK hP hD hS hA [0, 1] [2, 3] rfl rfl rfl rfl (by decide) 0 rfl rfl rfl rfl hl.1 rfl (Nat.le_of_ble_eq_true rfl) dL_law_1160 ⟨Nat.le_of_ble_eq_true rfl, Nat.le_of_ble_eq_true rfl⟩ (fun r_2 u_1 H locs hw hP hD hS => ?_)
  have hP : va_P D vwCl [((am 200), .inr (12, mO am 0 0 0 0 0 0 0 (-1) 0 0 1 0)), ((am 9), .inl (D.1 13, 6, .inl (fun _ => 0)))] H := hP
  have hD : va_D A [((am 200), .inr (12, mO am 0 0 0 0 0 0 0 (-1) 0 0 1 0)), ((am 9), .inl (D.1 13, 6, .inl (fun _ => 0)))] := hD
  subst hw
  refine lv_aload_n hx hb dL_law_1163 rfl (lv_at hl 1 rfl) ?_
  refine lv_aload_n hx hb dL_law_1164 rfl (lv_at hl 3 rfl) ?_
  refine lv_iload_n hx hb dL_law_1165 rfl (lv_at hl 0 rfl) ?_
  refine lv_iconst (v := 1) hx hb dL_law_1166 (by decide) ?_
  refine lv_iadd hx hb dL_law_1167 ?_
  refine z_topi (y := 1) (by decide) ?_
  refine va_sld hx hb hX hbl hbA hS (z_in (by decide) (by decide)) dL_law_1168 ?_
  refine z_topi (y := p1) e1.symm ?_
  refine zwV (As := [.int p1]) (rest := [.int (-1)]) (C := RX12) (n := 1) (wr := []) ⟨hx, hb, hml, hown, ht⟩ (k_X12_chance l D _ am p1) (zgV ml_L_150 im_X12_chance se_X12_chance in_X12 co_X12_chance) rfl rfl (by decide +kernel) ⟨Nat.le_of_ble_eq_true rfl, Nat.le_of_ble_eq_true rfl⟩ hK hP hD hS hA [0, 1] [] rfl rfl rfl rfl (by decide) 0 rfl rfl rfl rfl hl.1 rfl (Nat.le_of_ble_eq_true rfl) dL_law_1169 ⟨Nat.le_of_ble_eq_true rfl, Nat.le_of_ble_eq_true rfl⟩ (fun r_4 u_3 H locs hw hP hD hS => ?_)
  have hP : va_P D vwCl [] H := hP
  have hD : va_D A [] := hD
  subst hw
  refine lv_icmp_eq (tgt := 1299) hx hb dL_law_1172 (by decide) (fun _ => ?_) (fun c_5 => (z_abs c_5 (by decide)).elim)
  exact lc_end hx hb hr hlocks hX hbl hAs hS (lv_sub hl [0, 3] rfl) (Nat.le_of_ble_eq_true rfl) (Nat.le_of_ble_eq_true rfl)
set_option maxHeartbeats 4000000 in
set_option maxRecDepth 100000 in
/-- undo -/
theorem lc_33 {p : Program} (l : Launch) {e : Env} {s : State} {m : MethodId} {below : List Frame} {meth : Method} {c : Code} {b : Nat} {xs : Nat → Int32} {H : Heap} {locs : List Loc} {ls : Array Slot} {A : Nat → Prop} {D : va_G} {ax am : Nat → Nat} (hx : p.tables.exec = Jvm.exec) (hb : c.code = cL_law) (hr : meth.sig.returnType = ret) (hlocks : meth.locks = false) (hml : c.maxLocals = 4) (hown : s.vm.findClass RL = some m.cls) (ht : ∀ w ∈ lw_gd, w.before #[Value.ref b] s = true) (hX : va_X b 6 xs s s.heap) (hbl : b < s.heap.size) (hA : ∀ q, s.heap.size ≤ q → A q) (hAs : ∀ q, A q → s.heap.size ≤ q) (hK : va_K D vwCl (TY D) s) (hP : va_P D vwCl [((ax 0), .inr (11, [.ref (ax 1), .ref (ax 2), .ref (ax 3), .ref (ax 4), .ref (ax 5), .ref (ax 6), .ref (ax 7), .ref (ax 8), .ref (ax 9), .ref (ax 10), .ref (ax 11), .ref (ax 12), .int 0])), ((ax 3), .inr (2, [.ref (ax 22), .ref (ax 23), .ref (ax 24), .int 0, .ref (ax 25), .int 0])), ((ax 9), .inl (D.1 13, 6, .inl (fun _ => 0))), ((am 200), .inr (12, mO am 0 0 0 0 0 0 0 (-1) 0 0 1 0)), ((am 9), .inl (D.1 13, 6, .inl (fun _ => 0)))] H) (hD : va_D A [((ax 0), .inr (11, [.ref (ax 1), .ref (ax 2), .ref (ax 3), .ref (ax 4), .ref (ax 5), .ref (ax 6), .ref (ax 7), .ref (ax 8), .ref (ax 9), .ref (ax 10), .ref (ax 11), .ref (ax 12), .int 0])), ((ax 3), .inr (2, [.ref (ax 22), .ref (ax 23), .ref (ax 24), .int 0, .ref (ax 25), .int 0])), ((ax 9), .inl (D.1 13, 6, .inl (fun _ => 0))), ((am 200), .inr (12, mO am 0 0 0 0 0 0 0 (-1) 0 0 1 0)), ((am 9), .inl (D.1 13, 6, .inl (fun _ => 0)))]) (hS : va_S A s.heap H locs) (hl : lv_has ls 4 [(3, .int 0), (2, .ref (am 200)), (1, .ref (ax 0)), (0, .ref b)]) : W p l e room_1 s m #[Value.ref b] below meth c H locs 164 46440 (lw_Z below #[Value.ref b] s) (F0 m 1177 ls []) := by
  have hbA : ¬ A b := fun h => absurd (hAs b h) (Nat.not_le.mpr hbl)
  refine lv_aload_n hx hb dL_law_1177 rfl (lv_at hl 2 rfl) ?_
  refine zwV (As := []) (rest := []) (C := RX11) (n := 0) (wr := [((am 200), .inr (12, mO am 0 0 0 0 0 0 0 (-1) 0 0 1 0)), ((am 9), .inl (D.1 13, 6, .inl (fun _ => 0)))]) ⟨hx, hb, hml, hown, ht⟩ (k_X11_undo l D _ ax) (zgV ml_L_151 im_X11_undo se_X11_undo in_X11 co_X11_undo) rfl rfl (by decide +kernel) ⟨Nat.le_of_ble_eq_true rfl, Nat.le_of_ble_eq_true rfl⟩ hK hP hD hS hA [0, 1, 2] [3, 4] rfl rfl rfl rfl (by decide) 0 rfl rfl rfl rfl hl.1 rfl (Nat.le_of_ble_eq_true rfl) dL_law_1178 ⟨Nat.le_of_ble_eq_true rfl, Nat.le_of_ble_eq_true rfl⟩ (fun r_2 u_1 H locs hw hP hD hS => ?_)
  have hP : va_P D vwCl [((am 200), .inr (12, mO am 0 0 0 0 0 0 0 (-1) 0 0 1 0)), ((am 9), .inl (D.1 13, 6, .inl (fun _ => 0)))] H := hP
  have hD : va_D A [((am 200), .inr (12, mO am 0 0 0 0 0 0 0 (-1) 0 0 1 0)), ((am 9), .inl (D.1 13, 6, .inl (fun _ => 0)))] := hD
  subst hw
  refine lv_aload_n hx hb dL_law_1181 rfl (lv_at hl 1 rfl) ?_
  refine zwV (As := []) (rest := [.int 0]) (C := RX12) (n := 0) (wr := []) ⟨hx, hb, hml, hown, ht⟩ (k_X12_undo l D _ am) (zgV ml_L_155 im_X12_undo se_X12_undo in_X12 co_X12_undo) rfl rfl (by decide +kernel) ⟨Nat.le_of_ble_eq_true rfl, Nat.le_of_ble_eq_true rfl⟩ hK hP hD hS hA [0, 1] [] rfl rfl rfl rfl (by decide) 0 rfl rfl rfl rfl hl.1 rfl (Nat.le_of_ble_eq_true rfl) dL_law_1182 ⟨Nat.le_of_ble_eq_true rfl, Nat.le_of_ble_eq_true rfl⟩ (fun r_4 u_3 H locs hw hP hD hS => ?_)
  have hP : va_P D vwCl [] H := hP
  have hD : va_D A [] := hD
  subst hw
  refine lv_icmp_eq (tgt := 1299) hx hb dL_law_1185 (by decide) (fun _ => ?_) (fun c_5 => (z_abs c_5 (by decide)).elim)
  exact lc_end hx hb hr hlocks hX hbl hAs hS (lv_sub hl [0, 3] rfl) (Nat.le_of_ble_eq_true rfl) (Nat.le_of_ble_eq_true rfl)
set_option maxHeartbeats 4000000 in
set_option maxRecDepth 100000 in
/-- seed -/
theorem lc_34 {p : Program} (l : Launch) {e : Env} {s : State} {m : MethodId} {below : List Frame} {meth : Method} {c : Code} {b : Nat} {xs : Nat → Int32} {H : Heap} {locs : List Loc} {ls : Array Slot} {A : Nat → Prop} {D : va_G} {ax am : Nat → Nat} (hx : p.tables.exec = Jvm.exec) (hb : c.code = cL_law) (hr : meth.sig.returnType = ret) (hlocks : meth.locks = false) (hml : c.maxLocals = 4) (hown : s.vm.findClass RL = some m.cls) (ht : ∀ w ∈ lw_gd, w.before #[Value.ref b] s = true) (hX : va_X b 6 xs s s.heap) (hbl : b < s.heap.size) (hA : ∀ q, s.heap.size ≤ q → A q) (hAs : ∀ q, A q → s.heap.size ≤ q) (hK : va_K D vwCl (TY D) s) (hP : va_P D vwCl [((ax 0), .inr (11, [.ref (ax 1), .ref (ax 2), .ref (ax 3), .ref (ax 4), .ref (ax 5), .ref (ax 6), .ref (ax 7), .ref (ax 8), .ref (ax 9), .ref (ax 10), .ref (ax 11), .ref (ax 12), .int 0])), ((ax 12), .inr (1, [.ref (ax 13), .ref (ax 14), .ref (ax 15), .int 1, .ref (ax 10), .ref (ax 16), .ref (ax 17), .ref (ax 18), .ref (ax 19)])), ((ax 9), .inl (D.1 13, 6, .inl (fun _ => 0))), ((am 200), .inr (12, mO am 0 0 0 0 0 0 0 (-1) 0 0 1 0)), ((am 9), .inl (D.1 13, 6, .inl (fun _ => 0)))] H) (hD : va_D A [((ax 0), .inr (11, [.ref (ax 1), .ref (ax 2), .ref (ax 3), .ref (ax 4), .ref (ax 5), .ref (ax 6), .ref (ax 7), .ref (ax 8), .ref (ax 9), .ref (ax 10), .ref (ax 11), .ref (ax 12), .int 0])), ((ax 12), .inr (1, [.ref (ax 13), .ref (ax 14), .ref (ax 15), .int 1, .ref (ax 10), .ref (ax 16), .ref (ax 17), .ref (ax 18), .ref (ax 19)])), ((ax 9), .inl (D.1 13, 6, .inl (fun _ => 0))), ((am 200), .inr (12, mO am 0 0 0 0 0 0 0 (-1) 0 0 1 0)), ((am 9), .inl (D.1 13, 6, .inl (fun _ => 0)))]) (hS : va_S A s.heap H locs) (hl : lv_has ls 4 [(3, .int 0), (2, .ref (am 200)), (1, .ref (ax 0)), (0, .ref b)]) : W p l e room_1 s m #[Value.ref b] below meth c H locs 164 46440 (lw_Z below #[Value.ref b] s) (F0 m 1190 ls []) := by
  have hbA : ¬ A b := fun h => absurd (hAs b h) (Nat.not_le.mpr hbl)
  refine lv_aload_n hx hb dL_law_1190 rfl (lv_at hl 2 rfl) ?_
  refine lv_aload_n hx hb dL_law_1191 rfl (lv_at hl 3 rfl) ?_
  refine lv_iload_n hx hb dL_law_1192 rfl (lv_at hl 0 rfl) ?_
  refine lv_iconst (v := 1) hx hb dL_law_1193 (by decide) ?_
  refine lv_iadd hx hb dL_law_1194 ?_
  refine z_topi (y := 1) (by decide) ?_
  refine va_sld hx hb hX hbl hbA hS (z_in (by decide) (by decide)) dL_law_1195 ?_
  refine lv_topi (fun p1 e1 => ?_)
  refine zwV (As := [.int p1]) (rest := []) (C := RX11) (n := 1) (wr := [((am 200), .inr (12, mO am 0 0 0 0 0 0 0 (-1) 0 0 1 0)), ((am 9), .inl (D.1 13, 6, .inl (fun _ => 0)))]) ⟨hx, hb, hml, hown, ht⟩ (k_X11_seed l D _ ax p1) (zgV ml_L_156 im_X11_seed se_X11_seed in_X11 co_X11_seed) rfl rfl (by decide +kernel) ⟨Nat.le_of_ble_eq_true rfl, Nat.le_of_ble_eq_true rfl⟩ hK hP hD hS hA [0, 1, 2] [3, 4] rfl rfl rfl rfl (by decide) 0 rfl rfl rfl rfl hl.1 rfl (Nat.le_of_ble_eq_true rfl) dL_law_1196 ⟨Nat.le_of_ble_eq_true rfl, Nat.le_of_ble_eq_true rfl⟩ (fun r_2 u_1 H locs hw hP hD hS => ?_)
  have hP : va_P D vwCl [((am 200), .inr (12, mO am 0 0 0 0 0 0 0 (-1) 0 0 1 0)), ((am 9), .inl (D.1 13, 6, .inl (fun _ => 0)))] H := hP
  have hD : va_D A [((am 200), .inr (12, mO am 0 0 0 0 0 0 0 (-1) 0 0 1 0)), ((am 9), .inl (D.1 13, 6, .inl (fun _ => 0)))] := hD
  rcases hw with ⟨rfl, g_3⟩ | ⟨rfl, g_4⟩
  · skip
    have g_3 : 0 ≤ p1.toInt := zt_ge rfl (by decide) g_3
    refine lv_aload_n hx hb dL_law_1199 rfl (lv_at hl 1 rfl) ?_
    refine lv_aload_n hx hb dL_law_1200 rfl (lv_at hl 3 rfl) ?_
    refine lv_iload_n hx hb dL_law_1201 rfl (lv_at hl 0 rfl) ?_
    refine lv_iconst (v := 1) hx hb dL_law_1202 (by decide) ?_
    refine lv_iadd hx hb dL_law_1203 ?_
    refine z_topi (y := 1) (by decide) ?_
    refine va_sld hx hb hX hbl hbA hS (z_in (by decide) (by decide)) dL_law_1204 ?_
    refine z_topi (y := p1) e1.symm ?_
    refine zwV (As := [.int p1]) (rest := [.int 1]) (C := RX12) (n := 1) (wr := []) ⟨hx, hb, hml, hown, ht⟩ (k_X12_seed l D _ am p1) (zgV ml_L_159 im_X12_seed se_X12_seed in_X12 co_X12_seed) rfl rfl (by decide +kernel) ⟨Nat.le_of_ble_eq_true rfl, Nat.le_of_ble_eq_true rfl⟩ hK hP hD hS hA [0, 1] [] rfl rfl rfl rfl (by decide) 0 rfl rfl rfl rfl hl.1 rfl (Nat.le_of_ble_eq_true rfl) dL_law_1205 ⟨Nat.le_of_ble_eq_true rfl, Nat.le_of_ble_eq_true rfl⟩ (fun r_6 u_5 H locs hw hP hD hS => ?_)
    have hP : va_P D vwCl [] H := hP
    have hD : va_D A [] := hD
    rcases hw with ⟨rfl, g_7⟩ | ⟨rfl, g_8⟩
    · skip
      have g_7 : 0 ≤ p1.toInt := zt_ge rfl (by decide) g_7
      refine lv_icmp_eq (tgt := 1299) hx hb dL_law_1208 (by decide) (fun _ => ?_) (fun c_9 => (z_abs c_9 (by decide)).elim)
      exact lc_end hx hb hr hlocks hX hbl hAs hS (lv_sub hl [0, 3] rfl) (Nat.le_of_ble_eq_true rfl) (Nat.le_of_ble_eq_true rfl)
    · skip
      have g_8 : p1.toInt < 0 := zt_lt rfl (by decide) g_8
      exfalso; omega
  · skip
    have g_4 : p1.toInt < 0 := zt_lt rfl (by decide) g_4
    refine lv_aload_n hx hb dL_law_1199 rfl (lv_at hl 1 rfl) ?_
    refine lv_aload_n hx hb dL_law_1200 rfl (lv_at hl 3 rfl) ?_
    refine lv_iload_n hx hb dL_law_1201 rfl (lv_at hl 0 rfl) ?_
    refine lv_iconst (v := 1) hx hb dL_law_1202 (by decide) ?_
    refine lv_iadd hx hb dL_law_1203 ?_
    refine z_topi (y := 1) (by decide) ?_
    refine va_sld hx hb hX hbl hbA hS (z_in (by decide) (by decide)) dL_law_1204 ?_
    refine z_topi (y := p1) e1.symm ?_
    refine zwV (As := [.int p1]) (rest := [.int 0]) (C := RX12) (n := 1) (wr := []) ⟨hx, hb, hml, hown, ht⟩ (k_X12_seed l D _ am p1) (zgV ml_L_159 im_X12_seed se_X12_seed in_X12 co_X12_seed) rfl rfl (by decide +kernel) ⟨Nat.le_of_ble_eq_true rfl, Nat.le_of_ble_eq_true rfl⟩ hK hP hD hS hA [0, 1] [] rfl rfl rfl rfl (by decide) 0 rfl rfl rfl rfl hl.1 rfl (Nat.le_of_ble_eq_true rfl) dL_law_1205 ⟨Nat.le_of_ble_eq_true rfl, Nat.le_of_ble_eq_true rfl⟩ (fun r_12 u_11 H locs hw hP hD hS => ?_)
    have hP : va_P D vwCl [] H := hP
    have hD : va_D A [] := hD
    rcases hw with ⟨rfl, g_13⟩ | ⟨rfl, g_14⟩
    · skip
      have g_13 : 0 ≤ p1.toInt := zt_ge rfl (by decide) g_13
      exfalso; omega
    · skip
      have g_14 : p1.toInt < 0 := zt_lt rfl (by decide) g_14
      refine lv_icmp_eq (tgt := 1299) hx hb dL_law_1208 (by decide) (fun _ => ?_) (fun c_15 => (z_abs c_15 (by decide)).elim)
      exact lc_end hx hb hr hlocks hX hbl hAs hS (lv_sub hl [0, 3] rfl) (Nat.le_of_ble_eq_true rfl) (Nat.le_of_ble_eq_true rfl)
set_option maxHeartbeats 4000000 in
set_option maxRecDepth 100000 in
/-- ask -/
theorem lc_35 {p : Program} (l : Launch) {e : Env} {s : State} {m : MethodId} {below : List Frame} {meth : Method} {c : Code} {b : Nat} {xs : Nat → Int32} {H : Heap} {locs : List Loc} {ls : Array Slot} {A : Nat → Prop} {D : va_G} {ax am : Nat → Nat} (hx : p.tables.exec = Jvm.exec) (hb : c.code = cL_law) (hr : meth.sig.returnType = ret) (hlocks : meth.locks = false) (hml : c.maxLocals = 4) (hown : s.vm.findClass RL = some m.cls) (ht : ∀ w ∈ lw_gd, w.before #[Value.ref b] s = true) (hX : va_X b 6 xs s s.heap) (hbl : b < s.heap.size) (hA : ∀ q, s.heap.size ≤ q → A q) (hAs : ∀ q, A q → s.heap.size ≤ q) (hK : va_K D vwCl (TY D) s) (hP : va_P D vwCl [((ax 0), .inr (11, [.ref (ax 1), .ref (ax 2), .ref (ax 3), .ref (ax 4), .ref (ax 5), .ref (ax 6), .ref (ax 7), .ref (ax 8), .ref (ax 9), .ref (ax 10), .ref (ax 11), .ref (ax 12), .int 0])), ((ax 1), .inr (9, [.ref (ax 20), .int 0])), ((am 200), .inr (12, mO am 0 0 0 0 0 0 0 (-1) 0 0 1 0))] H) (hD : va_D A [((ax 0), .inr (11, [.ref (ax 1), .ref (ax 2), .ref (ax 3), .ref (ax 4), .ref (ax 5), .ref (ax 6), .ref (ax 7), .ref (ax 8), .ref (ax 9), .ref (ax 10), .ref (ax 11), .ref (ax 12), .int 0])), ((ax 1), .inr (9, [.ref (ax 20), .int 0])), ((am 200), .inr (12, mO am 0 0 0 0 0 0 0 (-1) 0 0 1 0))]) (hS : va_S A s.heap H locs) (hl : lv_has ls 4 [(3, .int 0), (2, .ref (am 200)), (1, .ref (ax 0)), (0, .ref b)]) : W p l e room_1 s m #[Value.ref b] below meth c H locs 164 46440 (lw_Z below #[Value.ref b] s) (F0 m 1213 ls []) := by
  have hbA : ¬ A b := fun h => absurd (hAs b h) (Nat.not_le.mpr hbl)
  refine lv_aload_n hx hb dL_law_1213 rfl (lv_at hl 2 rfl) ?_
  refine zwVl (As := []) (rest := []) (C := RX11) (n := 0) (wr := [((am 200), .inr (12, mO am 0 0 0 0 0 0 0 (-1) 0 0 1 0))]) ⟨hx, hb, hml, hown, ht⟩ (k_X11_ask l D _ ax) (zgV ml_L_160 im_X11_ask se_X11_ask in_X11 co_X11_ask) rfl rfl (by decide +kernel) ⟨Nat.le_of_ble_eq_true rfl, Nat.le_of_ble_eq_true rfl⟩ hK hP hD hS hA [0, 1] [2] rfl rfl rfl rfl (by decide) 0 rfl rfl rfl rfl hl.1 rfl (Nat.le_of_ble_eq_true rfl) dL_law_1214 ⟨Nat.le_of_ble_eq_true rfl, Nat.le_of_ble_eq_true rfl⟩ (fun r_2 u_1 H locs hw hP hD hS => ?_)
  have hP : va_P D vwCl [((am 200), .inr (12, mO am 0 0 0 0 0 0 0 (-1) 0 0 1 0))] H := hP
  have hD : va_D A [((am 200), .inr (12, mO am 0 0 0 0 0 0 0 (-1) 0 0 1 0))] := hD
  subst hw
  refine lv_aload_n hx hb dL_law_1217 rfl (lv_at hl 1 rfl) ?_
  refine zwVl (As := []) (rest := [.long (-1000000000000000)]) (C := RX12) (n := 0) (wr := []) ⟨hx, hb, hml, hown, ht⟩ (k_X12_ask l D _ am) (zgV ml_L_164 im_X12_ask se_X12_ask in_X12 co_X12_ask) rfl rfl (by decide +kernel) ⟨Nat.le_of_ble_eq_true rfl, Nat.le_of_ble_eq_true rfl⟩ hK hP hD hS hA [0] [] rfl rfl rfl rfl (by decide) 0 rfl rfl rfl rfl hl.1 rfl (Nat.le_of_ble_eq_true rfl) dL_law_1218 ⟨Nat.le_of_ble_eq_true rfl, Nat.le_of_ble_eq_true rfl⟩ (fun r_4 u_3 H locs hw hP hD hS => ?_)
  have hP : va_P D vwCl [] H := hP
  have hD : va_D A [] := hD
  subst hw
  refine W.lcmp hx hb dL_law_1221 ?_
  refine z_topi (y := 0) (by decide) ?_
  refine lv_if_eq (tgt := 1299) hx hb dL_law_1222 (by decide) (fun _ => ?_) (fun c_5 => (z_abs c_5 (by decide)).elim)
  exact lc_end hx hb hr hlocks hX hbl hAs hS (lv_sub hl [0, 3] rfl) (Nat.le_of_ble_eq_true rfl) (Nat.le_of_ble_eq_true rfl)
set_option maxHeartbeats 4000000 in
set_option maxRecDepth 100000 in
/-- image -/
theorem lc_36 {p : Program} (l : Launch) {e : Env} {s : State} {m : MethodId} {below : List Frame} {meth : Method} {c : Code} {b : Nat} {xs : Nat → Int32} {H : Heap} {locs : List Loc} {ls : Array Slot} {A : Nat → Prop} {D : va_G} {ax am : Nat → Nat} (hx : p.tables.exec = Jvm.exec) (hb : c.code = cL_law) (hr : meth.sig.returnType = ret) (hlocks : meth.locks = false) (hml : c.maxLocals = 4) (hown : s.vm.findClass RL = some m.cls) (ht : ∀ w ∈ lw_gd, w.before #[Value.ref b] s = true) (hX : va_X b 6 xs s s.heap) (hbl : b < s.heap.size) (hA : ∀ q, s.heap.size ≤ q → A q) (hAs : ∀ q, A q → s.heap.size ≤ q) (hK : va_K D vwCl (TY D) s) (hP : va_P D vwCl [((ax 0), .inr (11, [.ref (ax 1), .ref (ax 2), .ref (ax 3), .ref (ax 4), .ref (ax 5), .ref (ax 6), .ref (ax 7), .ref (ax 8), .ref (ax 9), .ref (ax 10), .ref (ax 11), .ref (ax 12), .int 0])), ((ax 5), .inr (4, [.ref (ax 30), .int 0, .int 0, .ref (ax 31), .ref (ax 32), .ref (ax 33)])), ((ax 30), .inl (D.1 13, 1364, .inl (fun _ => 0))), ((ax 12), .inr (1, [.ref (ax 13), .ref (ax 14), .ref (ax 15), .int 1, .ref (ax 10), .ref (ax 16), .ref (ax 17), .ref (ax 18), .ref (ax 19)])), ((ax 13), .inr (8, [.int 0, .int 0, .long 0, .ref (ax 60), .ref (ax 61), .ref (ax 62), .ref (ax 63), .ref (ax 64), .ref (ax 65), .ref (ax 66), .ref (ax 67)])), ((ax 66), .inl (D.1 13, 8, .inl (fun _ => (-2)))), ((ax 67), .inl (D.1 13, 8, .inl (fun _ => (-2)))), ((am 200), .inr (12, mO am 0 0 0 0 0 0 0 (-1) 0 0 1 0)), ((am 49), .inl (D.1 13, 906, .inl (fun _ => 0))), ((am 111), .inl (D.1 13, 1364, .inl (fun _ => 0))), ((am 39), .inl (D.1 13, 10, .inl (fun _ => 0)))] H) (hD : va_D A [((ax 0), .inr (11, [.ref (ax 1), .ref (ax 2), .ref (ax 3), .ref (ax 4), .ref (ax 5), .ref (ax 6), .ref (ax 7), .ref (ax 8), .ref (ax 9), .ref (ax 10), .ref (ax 11), .ref (ax 12), .int 0])), ((ax 5), .inr (4, [.ref (ax 30), .int 0, .int 0, .ref (ax 31), .ref (ax 32), .ref (ax 33)])), ((ax 30), .inl (D.1 13, 1364, .inl (fun _ => 0))), ((ax 12), .inr (1, [.ref (ax 13), .ref (ax 14), .ref (ax 15), .int 1, .ref (ax 10), .ref (ax 16), .ref (ax 17), .ref (ax 18), .ref (ax 19)])), ((ax 13), .inr (8, [.int 0, .int 0, .long 0, .ref (ax 60), .ref (ax 61), .ref (ax 62), .ref (ax 63), .ref (ax 64), .ref (ax 65), .ref (ax 66), .ref (ax 67)])), ((ax 66), .inl (D.1 13, 8, .inl (fun _ => (-2)))), ((ax 67), .inl (D.1 13, 8, .inl (fun _ => (-2)))), ((am 200), .inr (12, mO am 0 0 0 0 0 0 0 (-1) 0 0 1 0)), ((am 49), .inl (D.1 13, 906, .inl (fun _ => 0))), ((am 111), .inl (D.1 13, 1364, .inl (fun _ => 0))), ((am 39), .inl (D.1 13, 10, .inl (fun _ => 0)))]) (hS : va_S A s.heap H locs) (hl : lv_has ls 4 [(3, .int 0), (2, .ref (am 200)), (1, .ref (ax 0)), (0, .ref b)]) : W p l e room_1 s m #[Value.ref b] below meth c H locs 164 46440 (lw_Z below #[Value.ref b] s) (F0 m 1227 ls []) := by
  have hbA : ¬ A b := fun h => absurd (hAs b h) (Nat.not_le.mpr hbl)
  refine lv_aload_n hx hb dL_law_1227 rfl (lv_at hl 2 rfl) ?_
  refine zwV (As := []) (rest := []) (C := RX11) (n := 0) (wr := [((am 200), .inr (12, mO am 0 0 0 0 0 0 0 (-1) 0 0 1 0)), ((am 49), .inl (D.1 13, 906, .inl (fun _ => 0))), ((am 111), .inl (D.1 13, 1364, .inl (fun _ => 0))), ((am 39), .inl (D.1 13, 10, .inl (fun _ => 0)))]) ⟨hx, hb, hml, hown, ht⟩ (k_X11_image l D _ ax) (zgV ml_L_165 im_X11_image se_X11_image in_X11 co_X11_image) rfl rfl (by decide +kernel) ⟨Nat.le_of_ble_eq_true rfl, Nat.le_of_ble_eq_true rfl⟩ hK hP hD hS hA [0, 1, 2, 3, 4, 5, 6] [7, 8, 9, 10] rfl rfl rfl rfl (by decide) 0 rfl rfl rfl rfl hl.1 rfl (Nat.le_of_ble_eq_true rfl) dL_law_1228 ⟨Nat.le_of_ble_eq_true rfl, Nat.le_of_ble_eq_true rfl⟩ (fun r_2 u_1 H locs hw hP hD hS => ?_)
  have hP : va_P D vwCl [((am 200), .inr (12, mO am 0 0 0 0 0 0 0 (-1) 0 0 1 0)), ((am 49), .inl (D.1 13, 906, .inl (fun _ => 0))), ((am 111), .inl (D.1 13, 1364, .inl (fun _ => 0))), ((am 39), .inl (D.1 13, 10, .inl (fun _ => 0)))] H := hP
  have hD : va_D A [((am 200), .inr (12, mO am 0 0 0 0 0 0 0 (-1) 0 0 1 0)), ((am 49), .inl (D.1 13, 906, .inl (fun _ => 0))), ((am 111), .inl (D.1 13, 1364, .inl (fun _ => 0))), ((am 39), .inl (D.1 13, 10, .inl (fun _ => 0)))] := hD
  subst hw
  refine lv_aload_n hx hb dL_law_1231 rfl (lv_at hl 1 rfl) ?_
  refine zwV (As := []) (rest := [.int 20]) (C := RX12) (n := 0) (wr := []) ⟨hx, hb, hml, hown, ht⟩ (k_X12_image l D _ am) (zgV ml_L_168 im_X12_image se_X12_image in_X12 co_X12_image) rfl rfl (by decide +kernel) ⟨Nat.le_of_ble_eq_true rfl, Nat.le_of_ble_eq_true rfl⟩ hK hP hD hS hA [0, 1, 2, 3] [] rfl rfl rfl rfl (by decide) 0 rfl rfl rfl rfl hl.1 rfl (Nat.le_of_ble_eq_true rfl) dL_law_1232 ⟨Nat.le_of_ble_eq_true rfl, Nat.le_of_ble_eq_true rfl⟩ (fun r_4 u_3 H locs hw hP hD hS => ?_)
  have hP : va_P D vwCl [] H := hP
  have hD : va_D A [] := hD
  subst hw
  refine lv_icmp_eq (tgt := 1299) hx hb dL_law_1235 (by decide) (fun _ => ?_) (fun c_5 => (z_abs c_5 (by decide)).elim)
  exact lc_end hx hb hr hlocks hX hbl hAs hS (lv_sub hl [0, 3] rfl) (Nat.le_of_ble_eq_true rfl) (Nat.le_of_ble_eq_true rfl)
set_option maxHeartbeats 4000000 in
set_option maxRecDepth 100000 in
/-- octet -/
theorem lc_37 {p : Program} (l : Launch) {e : Env} {s : State} {m : MethodId} {below : List Frame} {meth : Method} {c : Code} {b : Nat} {xs : Nat → Int32} {H : Heap} {locs : List Loc} {ls : Array Slot} {A : Nat → Prop} {D : va_G} {ax am : Nat → Nat} (hx : p.tables.exec = Jvm.exec) (hb : c.code = cL_law) (hr : meth.sig.returnType = ret) (hlocks : meth.locks = false) (hml : c.maxLocals = 4) (hown : s.vm.findClass RL = some m.cls) (ht : ∀ w ∈ lw_gd, w.before #[Value.ref b] s = true) (hX : va_X b 6 xs s s.heap) (hbl : b < s.heap.size) (hA : ∀ q, s.heap.size ≤ q → A q) (hAs : ∀ q, A q → s.heap.size ≤ q) (hK : va_K D vwCl (TY D) s) (hP : va_P D vwCl [((ax 0), .inr (11, [.ref (ax 1), .ref (ax 2), .ref (ax 3), .ref (ax 4), .ref (ax 5), .ref (ax 6), .ref (ax 7), .ref (ax 8), .ref (ax 9), .ref (ax 10), .ref (ax 11), .ref (ax 12), .int 0])), ((ax 5), .inr (4, [.ref (ax 30), .int 0, .int 0, .ref (ax 31), .ref (ax 32), .ref (ax 33)])), ((am 200), .inr (12, mO am 0 0 0 0 0 0 0 (-1) 0 0 1 0))] H) (hD : va_D A [((ax 0), .inr (11, [.ref (ax 1), .ref (ax 2), .ref (ax 3), .ref (ax 4), .ref (ax 5), .ref (ax 6), .ref (ax 7), .ref (ax 8), .ref (ax 9), .ref (ax 10), .ref (ax 11), .ref (ax 12), .int 0])), ((ax 5), .inr (4, [.ref (ax 30), .int 0, .int 0, .ref (ax 31), .ref (ax 32), .ref (ax 33)])), ((am 200), .inr (12, mO am 0 0 0 0 0 0 0 (-1) 0 0 1 0))]) (hS : va_S A s.heap H locs) (hl : lv_has ls 4 [(3, .int 0), (2, .ref (am 200)), (1, .ref (ax 0)), (0, .ref b)]) : W p l e room_1 s m #[Value.ref b] below meth c H locs 164 46440 (lw_Z below #[Value.ref b] s) (F0 m 1240 ls []) := by
  have hbA : ¬ A b := fun h => absurd (hAs b h) (Nat.not_le.mpr hbl)
  refine lv_aload_n hx hb dL_law_1240 rfl (lv_at hl 2 rfl) ?_
  refine lv_aload_n hx hb dL_law_1241 rfl (lv_at hl 3 rfl) ?_
  refine lv_iload_n hx hb dL_law_1242 rfl (lv_at hl 0 rfl) ?_
  refine lv_iconst (v := 1) hx hb dL_law_1243 (by decide) ?_
  refine lv_iadd hx hb dL_law_1244 ?_
  refine z_topi (y := 1) (by decide) ?_
  refine va_sld hx hb hX hbl hbA hS (z_in (by decide) (by decide)) dL_law_1245 ?_
  refine lv_topi (fun p1 e1 => ?_)
  refine zcV (As := [.int p1]) (rest := []) (C := RX11) (n := 1) ⟨hx, hb, hml, hown, ht⟩ (k_X11_octet l D ax p1) (zgV ml_L_169 im_X11_octet se_X11_octet in_X11 co_X11_octet) rfl rfl (by decide +kernel) ⟨Nat.le_of_ble_eq_true rfl, Nat.le_of_ble_eq_true rfl⟩ hK hP hS [0, 1] rfl 0 rfl rfl rfl rfl hl.1 rfl (Nat.le_of_ble_eq_true rfl) dL_law_1246 ⟨Nat.le_of_ble_eq_true rfl, Nat.le_of_ble_eq_true rfl⟩ (fun r_1 H locs hw hP hS => ?_)
  subst hw
  refine lv_aload_n hx hb dL_law_1249 rfl (lv_at hl 1 rfl) ?_
  refine lv_aload_n hx hb dL_law_1250 rfl (lv_at hl 3 rfl) ?_
  refine lv_iload_n hx hb dL_law_1251 rfl (lv_at hl 0 rfl) ?_
  refine lv_iconst (v := 1) hx hb dL_law_1252 (by decide) ?_
  refine lv_iadd hx hb dL_law_1253 ?_
  refine z_topi (y := 1) (by decide) ?_
  refine va_sld hx hb hX hbl hbA hS (z_in (by decide) (by decide)) dL_law_1254 ?_
  refine z_topi (y := p1) e1.symm ?_
  refine zcV (As := [.int p1]) (rest := [.int (-1)]) (C := RX12) (n := 1) ⟨hx, hb, hml, hown, ht⟩ (k_X12_octet l D am p1) (zgV ml_L_172 im_X12_octet se_X12_octet in_X12 co_X12_octet) rfl rfl (by decide +kernel) ⟨Nat.le_of_ble_eq_true rfl, Nat.le_of_ble_eq_true rfl⟩ hK hP hS [2] rfl 0 rfl rfl rfl rfl hl.1 rfl (Nat.le_of_ble_eq_true rfl) dL_law_1255 ⟨Nat.le_of_ble_eq_true rfl, Nat.le_of_ble_eq_true rfl⟩ (fun r_2 H locs hw hP hS => ?_)
  subst hw
  refine lv_icmp_eq (tgt := 1299) hx hb dL_law_1258 (by decide) (fun _ => ?_) (fun c_3 => (z_abs c_3 (by decide)).elim)
  exact lc_end hx hb hr hlocks hX hbl hAs hS (lv_sub hl [0, 3] rfl) (Nat.le_of_ble_eq_true rfl) (Nat.le_of_ble_eq_true rfl)
set_option maxHeartbeats 4000000 in
set_option maxRecDepth 100000 in
/-- on -/
theorem lc_38 {p : Program} (l : Launch) {e : Env} {s : State} {m : MethodId} {below : List Frame} {meth : Method} {c : Code} {b : Nat} {xs : Nat → Int32} {H : Heap} {locs : List Loc} {ls : Array Slot} {A : Nat → Prop} {D : va_G} {ax am : Nat → Nat} (hx : p.tables.exec = Jvm.exec) (hb : c.code = cL_law) (hr : meth.sig.returnType = ret) (hlocks : meth.locks = false) (hml : c.maxLocals = 4) (hown : s.vm.findClass RL = some m.cls) (ht : ∀ w ∈ lw_gd, w.before #[Value.ref b] s = true) (hX : va_X b 6 xs s s.heap) (hbl : b < s.heap.size) (hA : ∀ q, s.heap.size ≤ q → A q) (hAs : ∀ q, A q → s.heap.size ≤ q) (hK : va_K D vwCl (TY D) s) (hP : va_P D vwCl [((ax 0), .inr (11, [.ref (ax 1), .ref (ax 2), .ref (ax 3), .ref (ax 4), .ref (ax 5), .ref (ax 6), .ref (ax 7), .ref (ax 8), .ref (ax 9), .ref (ax 10), .ref (ax 11), .ref (ax 12), .int 0])), ((ax 1), .inr (9, [.ref (ax 20), .int 0])), ((ax 9), .inl (D.1 13, 6, .inl (fun _ => 0))), ((am 200), .inr (12, mO am 0 0 0 0 0 0 0 (-1) 0 0 1 0)), ((am 9), .inl (D.1 13, 6, .inl (fun _ => 0)))] H) (hD : va_D A [((ax 0), .inr (11, [.ref (ax 1), .ref (ax 2), .ref (ax 3), .ref (ax 4), .ref (ax 5), .ref (ax 6), .ref (ax 7), .ref (ax 8), .ref (ax 9), .ref (ax 10), .ref (ax 11), .ref (ax 12), .int 0])), ((ax 1), .inr (9, [.ref (ax 20), .int 0])), ((ax 9), .inl (D.1 13, 6, .inl (fun _ => 0))), ((am 200), .inr (12, mO am 0 0 0 0 0 0 0 (-1) 0 0 1 0)), ((am 9), .inl (D.1 13, 6, .inl (fun _ => 0)))]) (hS : va_S A s.heap H locs) (hl : lv_has ls 4 [(3, .int 0), (2, .ref (am 200)), (1, .ref (ax 0)), (0, .ref b)]) : W p l e room_1 s m #[Value.ref b] below meth c H locs 164 46440 (lw_Z below #[Value.ref b] s) (F0 m 1263 ls []) := by
  have hbA : ¬ A b := fun h => absurd (hAs b h) (Nat.not_le.mpr hbl)
  refine lv_aload_n hx hb dL_law_1263 rfl (lv_at hl 2 rfl) ?_
  refine zwV (As := []) (rest := []) (C := RX11) (n := 0) (wr := [((am 200), .inr (12, mO am 0 0 0 0 0 0 0 (-1) 0 0 1 0)), ((am 9), .inl (D.1 13, 6, .inl (fun _ => 0)))]) ⟨hx, hb, hml, hown, ht⟩ (k_X11_on l D _ ax) (zgV ml_L_173 im_X11_on se_X11_on in_X11 co_X11_on) rfl rfl (by decide +kernel) ⟨Nat.le_of_ble_eq_true rfl, Nat.le_of_ble_eq_true rfl⟩ hK hP hD hS hA [0, 1, 2] [3, 4] rfl rfl rfl rfl (by decide) 0 rfl rfl rfl rfl hl.1 rfl (Nat.le_of_ble_eq_true rfl) dL_law_1264 ⟨Nat.le_of_ble_eq_true rfl, Nat.le_of_ble_eq_true rfl⟩ (fun r_2 u_1 H locs hw hP hD hS => ?_)
  have hP : va_P D vwCl [((am 200), .inr (12, mO am 0 0 0 0 0 0 0 (-1) 0 0 1 0)), ((am 9), .inl (D.1 13, 6, .inl (fun _ => 0)))] H := hP
  have hD : va_D A [((am 200), .inr (12, mO am 0 0 0 0 0 0 0 (-1) 0 0 1 0)), ((am 9), .inl (D.1 13, 6, .inl (fun _ => 0)))] := hD
  subst hw
  refine lv_aload_n hx hb dL_law_1267 rfl (lv_at hl 1 rfl) ?_
  refine zwV (As := []) (rest := [.int 0]) (C := RX12) (n := 0) (wr := []) ⟨hx, hb, hml, hown, ht⟩ (k_X12_on l D _ am) (zgV ml_L_176 im_X12_on se_X12_on in_X12 co_X12_on) rfl rfl (by decide +kernel) ⟨Nat.le_of_ble_eq_true rfl, Nat.le_of_ble_eq_true rfl⟩ hK hP hD hS hA [0, 1] [] rfl rfl rfl rfl (by decide) 0 rfl rfl rfl rfl hl.1 rfl (Nat.le_of_ble_eq_true rfl) dL_law_1268 ⟨Nat.le_of_ble_eq_true rfl, Nat.le_of_ble_eq_true rfl⟩ (fun r_4 u_3 H locs hw hP hD hS => ?_)
  have hP : va_P D vwCl [] H := hP
  have hD : va_D A [] := hD
  subst hw
  refine lv_icmp_eq (tgt := 1299) hx hb dL_law_1271 (by decide) (fun _ => ?_) (fun c_5 => (z_abs c_5 (by decide)).elim)
  exact lc_end hx hb hr hlocks hX hbl hAs hS (lv_sub hl [0, 3] rfl) (Nat.le_of_ble_eq_true rfl) (Nat.le_of_ble_eq_true rfl)
set_option maxHeartbeats 4000000 in
set_option maxRecDepth 100000 in
/-- status -/
theorem lc_39 {p : Program} (l : Launch) {e : Env} {s : State} {m : MethodId} {below : List Frame} {meth : Method} {c : Code} {b : Nat} {xs : Nat → Int32} {H : Heap} {locs : List Loc} {ls : Array Slot} {A : Nat → Prop} {D : va_G} {ax am : Nat → Nat} (hx : p.tables.exec = Jvm.exec) (hb : c.code = cL_law) (hr : meth.sig.returnType = ret) (hlocks : meth.locks = false) (hml : c.maxLocals = 4) (hown : s.vm.findClass RL = some m.cls) (ht : ∀ w ∈ lw_gd, w.before #[Value.ref b] s = true) (hX : va_X b 6 xs s s.heap) (hbl : b < s.heap.size) (hA : ∀ q, s.heap.size ≤ q → A q) (hAs : ∀ q, A q → s.heap.size ≤ q) (hK : va_K D vwCl (TY D) s) (hP : va_P D vwCl [((ax 0), .inr (11, [.ref (ax 1), .ref (ax 2), .ref (ax 3), .ref (ax 4), .ref (ax 5), .ref (ax 6), .ref (ax 7), .ref (ax 8), .ref (ax 9), .ref (ax 10), .ref (ax 11), .ref (ax 12), .int 0])), ((ax 9), .inl (D.1 13, 6, .inl (fun _ => 0))), ((am 200), .inr (12, mO am 0 0 0 0 0 0 0 (-1) 0 0 1 0)), ((am 9), .inl (D.1 13, 6, .inl (fun _ => 0)))] H) (hD : va_D A [((ax 0), .inr (11, [.ref (ax 1), .ref (ax 2), .ref (ax 3), .ref (ax 4), .ref (ax 5), .ref (ax 6), .ref (ax 7), .ref (ax 8), .ref (ax 9), .ref (ax 10), .ref (ax 11), .ref (ax 12), .int 0])), ((ax 9), .inl (D.1 13, 6, .inl (fun _ => 0))), ((am 200), .inr (12, mO am 0 0 0 0 0 0 0 (-1) 0 0 1 0)), ((am 9), .inl (D.1 13, 6, .inl (fun _ => 0)))]) (hS : va_S A s.heap H locs) (hl : lv_has ls 4 [(3, .int 0), (2, .ref (am 200)), (1, .ref (ax 0)), (0, .ref b)]) : W p l e room_1 s m #[Value.ref b] below meth c H locs 164 46440 (lw_Z below #[Value.ref b] s) (F0 m 1276 ls []) := by
  have hbA : ¬ A b := fun h => absurd (hAs b h) (Nat.not_le.mpr hbl)
  refine lv_aload_n hx hb dL_law_1276 rfl (lv_at hl 2 rfl) ?_
  refine lv_aload_n hx hb dL_law_1277 rfl (lv_at hl 3 rfl) ?_
  refine lv_iload_n hx hb dL_law_1278 rfl (lv_at hl 0 rfl) ?_
  refine lv_iconst (v := 1) hx hb dL_law_1279 (by decide) ?_
  refine lv_iadd hx hb dL_law_1280 ?_
  refine z_topi (y := 1) (by decide) ?_
  refine va_sld hx hb hX hbl hbA hS (z_in (by decide) (by decide)) dL_law_1281 ?_
  refine lv_topi (fun p1 e1 => ?_)
  refine zcV (As := [.int p1]) (rest := []) (C := RX11) (n := 1) ⟨hx, hb, hml, hown, ht⟩ (k_X11_status l D ax p1) (zgV ml_L_177 im_X11_status se_X11_status in_X11 co_X11_status) rfl rfl (by decide +kernel) ⟨Nat.le_of_ble_eq_true rfl, Nat.le_of_ble_eq_true rfl⟩ hK hP hS [0, 1] rfl 0 rfl rfl rfl rfl hl.1 rfl (Nat.le_of_ble_eq_true rfl) dL_law_1282 ⟨Nat.le_of_ble_eq_true rfl, Nat.le_of_ble_eq_true rfl⟩ (fun r_1 H locs hw hP hS => ?_)
  rcases hw with ⟨rfl, g_2⟩ | ⟨rfl, g_3, g_4⟩ | ⟨rfl, g_5, g_6⟩
  · skip
    have g_2 : p1.toInt < 0 := zt_lt rfl (by decide) g_2
    refine lv_aload_n hx hb dL_law_1285 rfl (lv_at hl 1 rfl) ?_
    refine lv_aload_n hx hb dL_law_1286 rfl (lv_at hl 3 rfl) ?_
    refine lv_iload_n hx hb dL_law_1287 rfl (lv_at hl 0 rfl) ?_
    refine lv_iconst (v := 1) hx hb dL_law_1288 (by decide) ?_
    refine lv_iadd hx hb dL_law_1289 ?_
    refine z_topi (y := 1) (by decide) ?_
    refine va_sld hx hb hX hbl hbA hS (z_in (by decide) (by decide)) dL_law_1290 ?_
    refine z_topi (y := p1) e1.symm ?_
    refine zcV (As := [.int p1]) (rest := [.int (-1)]) (C := RX12) (n := 1) ⟨hx, hb, hml, hown, ht⟩ (k_X12_status l D am p1) (zgV ml_L_180 im_X12_status se_X12_status in_X12 co_X12_status) rfl rfl (by decide +kernel) ⟨Nat.le_of_ble_eq_true rfl, Nat.le_of_ble_eq_true rfl⟩ hK hP hS [2, 3] rfl 0 rfl rfl rfl rfl hl.1 rfl (Nat.le_of_ble_eq_true rfl) dL_law_1291 ⟨Nat.le_of_ble_eq_true rfl, Nat.le_of_ble_eq_true rfl⟩ (fun r_7 H locs hw hP hS => ?_)
    rcases hw with ⟨rfl, g_8⟩ | ⟨rfl, g_9, g_10⟩ | ⟨rfl, g_11, g_12⟩
    · skip
      have g_8 : p1.toInt < 0 := zt_lt rfl (by decide) g_8
      refine lv_icmp_eq (tgt := 1299) hx hb dL_law_1294 (by decide) (fun _ => ?_) (fun c_13 => (z_abs c_13 (by decide)).elim)
      exact lc_end hx hb hr hlocks hX hbl hAs hS (lv_sub hl [0, 3] rfl) (Nat.le_of_ble_eq_true rfl) (Nat.le_of_ble_eq_true rfl)
    · skip
      have g_9 : 0 ≤ p1.toInt := zt_ge rfl (by decide) g_9
      have g_10 : 5 < p1.toInt := zt_gt rfl (by decide) g_10
      exfalso; omega
    · skip
      have g_11 : 0 ≤ p1.toInt := zt_ge rfl (by decide) g_11
      have g_12 : p1.toInt ≤ 5 := zt_le rfl (by decide) g_12
      exfalso; omega
  · skip
    have g_3 : 0 ≤ p1.toInt := zt_ge rfl (by decide) g_3
    have g_4 : 6 ≤ p1.toInt := zt_ge rfl (by decide) g_4
    refine lv_aload_n hx hb dL_law_1285 rfl (lv_at hl 1 rfl) ?_
    refine lv_aload_n hx hb dL_law_1286 rfl (lv_at hl 3 rfl) ?_
    refine lv_iload_n hx hb dL_law_1287 rfl (lv_at hl 0 rfl) ?_
    refine lv_iconst (v := 1) hx hb dL_law_1288 (by decide) ?_
    refine lv_iadd hx hb dL_law_1289 ?_
    refine z_topi (y := 1) (by decide) ?_
    refine va_sld hx hb hX hbl hbA hS (z_in (by decide) (by decide)) dL_law_1290 ?_
    refine z_topi (y := p1) e1.symm ?_
    refine zcV (As := [.int p1]) (rest := [.int (-1)]) (C := RX12) (n := 1) ⟨hx, hb, hml, hown, ht⟩ (k_X12_status l D am p1) (zgV ml_L_180 im_X12_status se_X12_status in_X12 co_X12_status) rfl rfl (by decide +kernel) ⟨Nat.le_of_ble_eq_true rfl, Nat.le_of_ble_eq_true rfl⟩ hK hP hS [2, 3] rfl 0 rfl rfl rfl rfl hl.1 rfl (Nat.le_of_ble_eq_true rfl) dL_law_1291 ⟨Nat.le_of_ble_eq_true rfl, Nat.le_of_ble_eq_true rfl⟩ (fun r_15 H locs hw hP hS => ?_)
    rcases hw with ⟨rfl, g_16⟩ | ⟨rfl, g_17, g_18⟩ | ⟨rfl, g_19, g_20⟩
    · skip
      have g_16 : p1.toInt < 0 := zt_lt rfl (by decide) g_16
      exfalso; omega
    · skip
      have g_17 : 0 ≤ p1.toInt := zt_ge rfl (by decide) g_17
      have g_18 : 5 < p1.toInt := zt_gt rfl (by decide) g_18
      refine lv_icmp_eq (tgt := 1299) hx hb dL_law_1294 (by decide) (fun _ => ?_) (fun c_21 => (z_abs c_21 (by decide)).elim)
      exact lc_end hx hb hr hlocks hX hbl hAs hS (lv_sub hl [0, 3] rfl) (Nat.le_of_ble_eq_true rfl) (Nat.le_of_ble_eq_true rfl)
    · skip
      have g_19 : 0 ≤ p1.toInt := zt_ge rfl (by decide) g_19
      have g_20 : p1.toInt ≤ 5 := zt_le rfl (by decide) g_20
      exfalso; omega
  · skip
    have g_5 : 0 ≤ p1.toInt := zt_ge rfl (by decide) g_5
    have g_6 : p1.toInt < 6 := zt_lt rfl (by decide) g_6
    refine lv_aload_n hx hb dL_law_1285 rfl (lv_at hl 1 rfl) ?_
    refine lv_aload_n hx hb dL_law_1286 rfl (lv_at hl 3 rfl) ?_
    refine lv_iload_n hx hb dL_law_1287 rfl (lv_at hl 0 rfl) ?_
    refine lv_iconst (v := 1) hx hb dL_law_1288 (by decide) ?_
    refine lv_iadd hx hb dL_law_1289 ?_
    refine z_topi (y := 1) (by decide) ?_
    refine va_sld hx hb hX hbl hbA hS (z_in (by decide) (by decide)) dL_law_1290 ?_
    refine z_topi (y := p1) e1.symm ?_
    refine zcV (As := [.int p1]) (rest := [.int 0]) (C := RX12) (n := 1) ⟨hx, hb, hml, hown, ht⟩ (k_X12_status l D am p1) (zgV ml_L_180 im_X12_status se_X12_status in_X12 co_X12_status) rfl rfl (by decide +kernel) ⟨Nat.le_of_ble_eq_true rfl, Nat.le_of_ble_eq_true rfl⟩ hK hP hS [2, 3] rfl 0 rfl rfl rfl rfl hl.1 rfl (Nat.le_of_ble_eq_true rfl) dL_law_1291 ⟨Nat.le_of_ble_eq_true rfl, Nat.le_of_ble_eq_true rfl⟩ (fun r_23 H locs hw hP hS => ?_)
    rcases hw with ⟨rfl, g_24⟩ | ⟨rfl, g_25, g_26⟩ | ⟨rfl, g_27, g_28⟩
    · skip
      have g_24 : p1.toInt < 0 := zt_lt rfl (by decide) g_24
      exfalso; omega
    · skip
      have g_25 : 0 ≤ p1.toInt := zt_ge rfl (by decide) g_25
      have g_26 : 5 < p1.toInt := zt_gt rfl (by decide) g_26
      exfalso; omega
    · skip
      have g_27 : 0 ≤ p1.toInt := zt_ge rfl (by decide) g_27
      have g_28 : p1.toInt ≤ 5 := zt_le rfl (by decide) g_28
      refine lv_icmp_eq (tgt := 1299) hx hb dL_law_1294 (by decide) (fun _ => ?_) (fun c_29 => (z_abs c_29 (by decide)).elim)
      exact lc_end hx hb hr hlocks hX hbl hAs hS (lv_sub hl [0, 3] rfl) (Nat.le_of_ble_eq_true rfl) (Nat.le_of_ble_eq_true rfl)
