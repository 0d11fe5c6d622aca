theorem fl_X12_198 : Cond.fieldLink RX12 198 "CloneVolumesModel" "andAsked" "[C" ∈ lw_gd := zm (lw_g_6 (List.mem_of_getElem? (i := 227) (by decide +kernel))) rfl
theorem fl_X12_201 : Cond.fieldLink RX12 201 "CloneVolumesModel" "orAsked" "[C" ∈ lw_gd := zm (lw_g_6 (List.mem_of_getElem? (i := 228) (by decide +kernel))) rfl
theorem fl_X12_204 : Cond.fieldLink RX12 204 "CloneVolumesModel" "allAsked" "[C" ∈ lw_gd := zm (lw_g_6 (List.mem_of_getElem? (i := 229) (by decide +kernel))) rfl
theorem fl_X12_207 : Cond.fieldLink RX12 207 "CloneVolumesModel" "minAsked" "[C" ∈ lw_gd := zm (lw_g_6 (List.mem_of_getElem? (i := 230) (by decide +kernel))) rfl
theorem fl_X12_210 : Cond.fieldLink RX12 210 "CloneVolumesModel" "maxAsked" "[C" ∈ lw_gd := zm (lw_g_6 (List.mem_of_getElem? (i := 231) (by decide +kernel))) rfl
theorem fl_X12_213 : Cond.fieldLink RX12 213 "CloneVolumesModel" "levelAsked" "[C" ∈ lw_gd := zm (lw_g_6 (List.mem_of_getElem? (i := 232) (by decide +kernel))) rfl
theorem fl_X12_216 : Cond.fieldLink RX12 216 "CloneVolumesModel" "blockAsked" "[C" ∈ lw_gd := zm (lw_g_6 (List.mem_of_getElem? (i := 233) (by decide +kernel))) rfl
theorem fl_X12_219 : Cond.fieldLink RX12 219 "CloneVolumesModel" "fromAsked" "[C" ∈ lw_gd := zm (lw_g_6 (List.mem_of_getElem? (i := 234) (by decide +kernel))) rfl
theorem fl_X12_222 : Cond.fieldLink RX12 222 "CloneVolumesModel" "entriesAsked" "[C" ∈ lw_gd := zm (lw_g_6 (List.mem_of_getElem? (i := 235) (by decide +kernel))) rfl
theorem eX12_init_1245 : decode cX12_init 1245 = .ok (.aload_n 0, 1) ∧ decode cX12_init 1246 = .ok (.iconst 3, 1) ∧ decode cX12_init 1247 = .ok (.newarray .char, 2) ∧ decode cX12_init 1249 = .ok (.dup, 1) ∧ decode cX12_init 1250 = .ok (.iconst 0, 1) ∧ decode cX12_init 1251 = .ok (.bipush 97, 2) ∧ decode cX12_init 1253 = .ok (.castore, 1) ∧ decode cX12_init 1254 = .ok (.dup, 1) := by decide +kernel
theorem eX12_init_1255 : decode cX12_init 1255 = .ok (.iconst 1, 1) ∧ decode cX12_init 1256 = .ok (.bipush 110, 2) ∧ decode cX12_init 1258 = .ok (.castore, 1) ∧ decode cX12_init 1259 = .ok (.dup, 1) ∧ decode cX12_init 1260 = .ok (.iconst 2, 1) ∧ decode cX12_init 1261 = .ok (.bipush 100, 2) ∧ decode cX12_init 1263 = .ok (.castore, 1) ∧ decode cX12_init 1264 = .ok (.putfield 198, 3) := by decide +kernel
theorem eX12_init_1267 : decode cX12_init 1267 = .ok (.aload_n 0, 1) ∧ decode cX12_init 1268 = .ok (.iconst 2, 1) ∧ decode cX12_init 1269 = .ok (.newarray .char, 2) ∧ decode cX12_init 1271 = .ok (.dup, 1) ∧ decode cX12_init 1272 = .ok (.iconst 0, 1) ∧ decode cX12_init 1273 = .ok (.bipush 111, 2) ∧ decode cX12_init 1275 = .ok (.castore, 1) ∧ decode cX12_init 1276 = .ok (.dup, 1) := by decide +kernel
theorem eX12_init_1277 : decode cX12_init 1277 = .ok (.iconst 1, 1) ∧ decode cX12_init 1278 = .ok (.bipush 114, 2) ∧ decode cX12_init 1280 = .ok (.castore, 1) ∧ decode cX12_init 1281 = .ok (.putfield 201, 3) ∧ decode cX12_init 1284 = .ok (.aload_n 0, 1) ∧ decode cX12_init 1285 = .ok (.iconst 3, 1) ∧ decode cX12_init 1286 = .ok (.newarray .char, 2) ∧ decode cX12_init 1288 = .ok (.dup, 1) := by decide +kernel
theorem eX12_init_1289 : decode cX12_init 1289 = .ok (.iconst 0, 1) ∧ decode cX12_init 1290 = .ok (.bipush 97, 2) ∧ decode cX12_init 1292 = .ok (.castore, 1) ∧ decode cX12_init 1293 = .ok (.dup, 1) ∧ decode cX12_init 1294 = .ok (.iconst 1, 1) ∧ decode cX12_init 1295 = .ok (.bipush 108, 2) ∧ decode cX12_init 1297 = .ok (.castore, 1) ∧ decode cX12_init 1298 = .ok (.dup, 1) := by decide +kernel
theorem eX12_init_1299 : decode cX12_init 1299 = .ok (.iconst 2, 1) ∧ decode cX12_init 1300 = .ok (.bipush 108, 2) ∧ decode cX12_init 1302 = .ok (.castore, 1) ∧ decode cX12_init 1303 = .ok (.putfield 204, 3) ∧ decode cX12_init 1306 = .ok (.aload_n 0, 1) ∧ decode cX12_init 1307 = .ok (.iconst 3, 1) ∧ decode cX12_init 1308 = .ok (.newarray .char, 2) ∧ decode cX12_init 1310 = .ok (.dup, 1) := by decide +kernel
theorem eX12_init_1311 : decode cX12_init 1311 = .ok (.iconst 0, 1) ∧ decode cX12_init 1312 = .ok (.bipush 109, 2) ∧ decode cX12_init 1314 = .ok (.castore, 1) ∧ decode cX12_init 1315 = .ok (.dup, 1) ∧ decode cX12_init 1316 = .ok (.iconst 1, 1) ∧ decode cX12_init 1317 = .ok (.bipush 105, 2) ∧ decode cX12_init 1319 = .ok (.castore, 1) ∧ decode cX12_init 1320 = .ok (.dup, 1) := by decide +kernel
theorem eX12_init_1321 : decode cX12_init 1321 = .ok (.iconst 2, 1) ∧ decode cX12_init 1322 = .ok (.bipush 110, 2) ∧ decode cX12_init 1324 = .ok (.castore, 1) ∧ decode cX12_init 1325 = .ok (.putfield 207, 3) ∧ decode cX12_init 1328 = .ok (.aload_n 0, 1) ∧ decode cX12_init 1329 = .ok (.iconst 3, 1) ∧ decode cX12_init 1330 = .ok (.newarray .char, 2) ∧ decode cX12_init 1332 = .ok (.dup, 1) := by decide +kernel
theorem eX12_init_1333 : decode cX12_init 1333 = .ok (.iconst 0, 1) ∧ decode cX12_init 1334 = .ok (.bipush 109, 2) ∧ decode cX12_init 1336 = .ok (.castore, 1) ∧ decode cX12_init 1337 = .ok (.dup, 1) ∧ decode cX12_init 1338 = .ok (.iconst 1, 1) ∧ decode cX12_init 1339 = .ok (.bipush 97, 2) ∧ decode cX12_init 1341 = .ok (.castore, 1) ∧ decode cX12_init 1342 = .ok (.dup, 1) := by decide +kernel
theorem eX12_init_1343 : decode cX12_init 1343 = .ok (.iconst 2, 1) ∧ decode cX12_init 1344 = .ok (.bipush 120, 2) ∧ decode cX12_init 1346 = .ok (.castore, 1) ∧ decode cX12_init 1347 = .ok (.putfield 210, 3) ∧ decode cX12_init 1350 = .ok (.aload_n 0, 1) ∧ decode cX12_init 1351 = .ok (.iconst 5, 1) ∧ decode cX12_init 1352 = .ok (.newarray .char, 2) ∧ decode cX12_init 1354 = .ok (.dup, 1) := by decide +kernel
theorem eX12_init_1355 : decode cX12_init 1355 = .ok (.iconst 0, 1) ∧ decode cX12_init 1356 = .ok (.bipush 108, 2) ∧ decode cX12_init 1358 = .ok (.castore, 1) ∧ decode cX12_init 1359 = .ok (.dup, 1) ∧ decode cX12_init 1360 = .ok (.iconst 1, 1) ∧ decode cX12_init 1361 = .ok (.bipush 101, 2) ∧ decode cX12_init 1363 = .ok (.castore, 1) ∧ decode cX12_init 1364 = .ok (.dup, 1) := by decide +kernel
theorem eX12_init_1365 : decode cX12_init 1365 = .ok (.iconst 2, 1) ∧ decode cX12_init 1366 = .ok (.bipush 118, 2) ∧ decode cX12_init 1368 = .ok (.castore, 1) ∧ decode cX12_init 1369 = .ok (.dup, 1) ∧ decode cX12_init 1370 = .ok (.iconst 3, 1) ∧ decode cX12_init 1371 = .ok (.bipush 101, 2) ∧ decode cX12_init 1373 = .ok (.castore, 1) ∧ decode cX12_init 1374 = .ok (.dup, 1) := by decide +kernel
theorem eX12_init_1375 : decode cX12_init 1375 = .ok (.iconst 4, 1) ∧ decode cX12_init 1376 = .ok (.bipush 108, 2) ∧ decode cX12_init 1378 = .ok (.castore, 1) ∧ decode cX12_init 1379 = .ok (.putfield 213, 3) ∧ decode cX12_init 1382 = .ok (.aload_n 0, 1) ∧ decode cX12_init 1383 = .ok (.iconst 5, 1) ∧ decode cX12_init 1384 = .ok (.newarray .char, 2) ∧ decode cX12_init 1386 = .ok (.dup, 1) := by decide +kernel
theorem eX12_init_1387 : decode cX12_init 1387 = .ok (.iconst 0, 1) ∧ decode cX12_init 1388 = .ok (.bipush 98, 2) ∧ decode cX12_init 1390 = .ok (.castore, 1) ∧ decode cX12_init 1391 = .ok (.dup, 1) ∧ decode cX12_init 1392 = .ok (.iconst 1, 1) ∧ decode cX12_init 1393 = .ok (.bipush 108, 2) ∧ decode cX12_init 1395 = .ok (.castore, 1) ∧ decode cX12_init 1396 = .ok (.dup, 1) := by decide +kernel
theorem eX12_init_1397 : decode cX12_init 1397 = .ok (.iconst 2, 1) ∧ decode cX12_init 1398 = .ok (.bipush 111, 2) ∧ decode cX12_init 1400 = .ok (.castore, 1) ∧ decode cX12_init 1401 = .ok (.dup, 1) ∧ decode cX12_init 1402 = .ok (.iconst 3, 1) ∧ decode cX12_init 1403 = .ok (.bipush 99, 2) ∧ decode cX12_init 1405 = .ok (.castore, 1) ∧ decode cX12_init 1406 = .ok (.dup, 1) := by decide +kernel
theorem eX12_init_1407 : decode cX12_init 1407 = .ok (.iconst 4, 1) ∧ decode cX12_init 1408 = .ok (.bipush 107, 2) ∧ decode cX12_init 1410 = .ok (.castore, 1) ∧ decode cX12_init 1411 = .ok (.putfield 216, 3) ∧ decode cX12_init 1414 = .ok (.aload_n 0, 1) ∧ decode cX12_init 1415 = .ok (.iconst 4, 1) ∧ decode cX12_init 1416 = .ok (.newarray .char, 2) ∧ decode cX12_init 1418 = .ok (.dup, 1) := by decide +kernel
theorem eX12_init_1419 : decode cX12_init 1419 = .ok (.iconst 0, 1) ∧ decode cX12_init 1420 = .ok (.bipush 102, 2) ∧ decode cX12_init 1422 = .ok (.castore, 1) ∧ decode cX12_init 1423 = .ok (.dup, 1) ∧ decode cX12_init 1424 = .ok (.iconst 1, 1) ∧ decode cX12_init 1425 = .ok (.bipush 114, 2) ∧ decode cX12_init 1427 = .ok (.castore, 1) ∧ decode cX12_init 1428 = .ok (.dup, 1) := by decide +kernel
theorem eX12_init_1429 : decode cX12_init 1429 = .ok (.iconst 2, 1) ∧ decode cX12_init 1430 = .ok (.bipush 111, 2) ∧ decode cX12_init 1432 = .ok (.castore, 1) ∧ decode cX12_init 1433 = .ok (.dup, 1) ∧ decode cX12_init 1434 = .ok (.iconst 3, 1) ∧ decode cX12_init 1435 = .ok (.bipush 109, 2) ∧ decode cX12_init 1437 = .ok (.castore, 1) ∧ decode cX12_init 1438 = .ok (.putfield 219, 3) := by decide +kernel
theorem eX12_init_1441 : decode cX12_init 1441 = .ok (.aload_n 0, 1) ∧ decode cX12_init 1442 = .ok (.bipush 7, 2) ∧ decode cX12_init 1444 = .ok (.newarray .char, 2) ∧ decode cX12_init 1446 = .ok (.dup, 1) ∧ decode cX12_init 1447 = .ok (.iconst 0, 1) ∧ decode cX12_init 1448 = .ok (.bipush 101, 2) ∧ decode cX12_init 1450 = .ok (.castore, 1) ∧ decode cX12_init 1451 = .ok (.dup, 1) := by decide +kernel
theorem eX12_init_1452 : decode cX12_init 1452 = .ok (.iconst 1, 1) ∧ decode cX12_init 1453 = .ok (.bipush 110, 2) ∧ decode cX12_init 1455 = .ok (.castore, 1) ∧ decode cX12_init 1456 = .ok (.dup, 1) ∧ decode cX12_init 1457 = .ok (.iconst 2, 1) ∧ decode cX12_init 1458 = .ok (.bipush 116, 2) ∧ decode cX12_init 1460 = .ok (.castore, 1) ∧ decode cX12_init 1461 = .ok (.dup, 1) := by decide +kernel
theorem eX12_init_1462 : decode cX12_init 1462 = .ok (.iconst 3, 1) ∧ decode cX12_init 1463 = .ok (.bipush 114, 2) ∧ decode cX12_init 1465 = .ok (.castore, 1) ∧ decode cX12_init 1466 = .ok (.dup, 1) ∧ decode cX12_init 1467 = .ok (.iconst 4, 1) ∧ decode cX12_init 1468 = .ok (.bipush 105, 2) ∧ decode cX12_init 1470 = .ok (.castore, 1) ∧ decode cX12_init 1471 = .ok (.dup, 1) := by decide +kernel
theorem eX12_init_1472 : decode cX12_init 1472 = .ok (.iconst 5, 1) ∧ decode cX12_init 1473 = .ok (.bipush 101, 2) ∧ decode cX12_init 1475 = .ok (.castore, 1) ∧ decode cX12_init 1476 = .ok (.dup, 1) ∧ decode cX12_init 1477 = .ok (.bipush 6, 2) ∧ decode cX12_init 1479 = .ok (.bipush 115, 2) ∧ decode cX12_init 1481 = .ok (.castore, 1) ∧ decode cX12_init 1482 = .ok (.putfield 222, 3) := by decide +kernel
set_option maxHeartbeats 4000000 in
set_option maxRecDepth 100000 in
theorem cM_16 {p : Program} {l : Launch} {e : Env} {R : Room} {s : State} {m : MethodId} {args : Array Value} {below : List Frame} {meth : Method} {c : Code} {Q : State → Prop} {D : va_G} {A : Nat → Prop} {ls : Array Slot} {h0 : Nat} {T : va_W} (hx : p.tables.exec = Jvm.exec) (hb : c.code = cX12_init) (ht : ∀ w ∈ lw_gd, w.before args s = true) (hown : s.vm.findClass RX12 = some m.cls) (hin : meth.name = "<init>") (hK : va_K D vwCl (TY D) s) (hA : ∀ q : Nat, s.heap.size ≤ q → A q) (hRc : 80 ≤ R.cells) (hRs : 35050 ≤ R.slots) (hl : lv_has ls 1 [(0, .ref h0)]) {fs : List Value} (hlen : fs.length = 116) {H : Heap} {locs : List Loc} (hP : va_P D vwCl ((h0, .inr (12, fs)) :: T) H) (hD : va_D A ((h0, .inr (12, fs)) :: T)) (hS : va_S A s.heap H locs)
    (kk : ∀ (q_127 : Nat) (q_125 : Nat) (q_123 : Nat) (q_121 : Nat) (fs' : List Value) (H : Heap) (locs : List Loc), fs' = ((((fs.set 86 (.ref q_121)).set 87 (.ref q_123)).set 88 (.ref q_125)).set 89 (.ref q_127)) → va_P D vwCl ((h0, .inr (12, fs')) :: (q_127, .inl (D.1 14, 3, .inl (fun j => i2 (upZ (upZ (upZ (fun _ => 0) 0 109) 1 105) 2 110 j)))) :: (q_125, .inl (D.1 14, 3, .inl (fun j => i2 (upZ (upZ (upZ (fun _ => 0) 0 97) 1 108) 2 108 j)))) :: (q_123, .inl (D.1 14, 2, .inl (fun j => i2 (upZ (upZ (fun _ => 0) 0 111) 1 114 j)))) :: (q_121, .inl (D.1 14, 3, .inl (fun j => i2 (upZ (upZ (upZ (fun _ => 0) 0 97) 1 110) 2 100 j)))) :: T) H → va_D A ((h0, .inr (12, fs')) :: (q_127, .inl (D.1 14, 3, .inl (fun j => i2 (upZ (upZ (upZ (fun _ => 0) 0 109) 1 105) 2 110 j)))) :: (q_125, .inl (D.1 14, 3, .inl (fun j => i2 (upZ (upZ (upZ (fun _ => 0) 0 97) 1 108) 2 108 j)))) :: (q_123, .inl (D.1 14, 2, .inl (fun j => i2 (upZ (upZ (fun _ => 0) 0 111) 1 114 j)))) :: (q_121, .inl (D.1 14, 3, .inl (fun j => i2 (upZ (upZ (upZ (fun _ => 0) 0 97) 1 110) 2 100 j)))) :: T) → va_S A s.heap H locs → W p l e R s m args below meth c H locs 63 27701 Q (F0 m 1328 ls [])) : W p l e R s m args below meth c H locs 59 27690 Q (F0 m 1245 ls []) := by
  refine lv_aload_n hx hb eX12_init_1245.1 rfl (lv_at hl 0 rfl) ?_
  refine lv_iconst (v := 3) hx hb eX12_init_1245.2.1 (by decide) ?_
  refine va_newa (atype := .char) (a0 := (3, .inl (fun _ => 0))) (ty := .char) (N' := 3) hx hb (ht _ ac_char) rfl hK hP hD hS hA (fun _ => rfl) (by decide) (by decide) (by decide) (Nat.le_trans (Nat.le_of_ble_eq_true rfl) hRc) (Nat.le_trans (Nat.le_of_ble_eq_true rfl) hRs) eX12_init_1245.2.2.1 (fun q_121 cA H hK2 hP hD hS => ?_)
  obtain rfl := z_cls_char hK hK2
  refine W.widen (k := 60) (n := 27693) (Nat.le_of_ble_eq_true rfl) (Nat.le_of_ble_eq_true rfl) ?_
  obtain ⟨hP, hD⟩ := z_rot hP hD
  have hP : va_P D vwCl ((h0, .inr (12, fs)) :: (q_121, .inl (D.1 14, 3, .inl (fun _ => i2 0))) :: T) H := hP
  have hD : va_D A ((h0, .inr (12, fs)) :: (q_121, .inl (D.1 14, 3, .inl (fun _ => i2 0))) :: T) := hD
  refine lv_dup hx hb eX12_init_1245.2.2.2.1 rfl ?_
  refine lv_iconst (v := 0) hx hb eX12_init_1245.2.2.2.2.1 (by decide) ?_
  refine lv_bipush (v := 97) hx hb eX12_init_1245.2.2.2.2.2.1 (by decide) ?_
  refine va_cast hx hb hK hP hD hS 1 1 rfl rfl (z_in (by decide) (by decide)) eX12_init_1245.2.2.2.2.2.2.1 (fun H locs hP hD hS => ?_)
  rw [c_i2 (k := Int32.toNatClampNeg 0) (c := vp_nar .char 97) (v := 97) (by decide)] at hP hD
  have hP : va_P D vwCl (_ :: (q_121, .inl (_, _, .inl (fun j => i2 (upZ _ 0 97 j)))) :: _) H := hP
  have hD : va_D A (_ :: (q_121, .inl (_, _, .inl (fun j => i2 (upZ _ 0 97 j)))) :: _) := hD
  refine lv_dup hx hb eX12_init_1245.2.2.2.2.2.2.2 rfl ?_
  refine lv_iconst (v := 1) hx hb eX12_init_1255.1 (by decide) ?_
  refine lv_bipush (v := 110) hx hb eX12_init_1255.2.1 (by decide) ?_
  refine va_cast hx hb hK hP hD hS 1 1 rfl rfl (z_in (by decide) (by decide)) eX12_init_1255.2.2.1 (fun H locs hP hD hS => ?_)
  rw [c_i2 (k := Int32.toNatClampNeg 1) (c := vp_nar .char 110) (v := 110) (by decide)] at hP hD
  have hP : va_P D vwCl (_ :: (q_121, .inl (_, _, .inl (fun j => i2 (upZ _ 1 110 j)))) :: _) H := hP
  have hD : va_D A (_ :: (q_121, .inl (_, _, .inl (fun j => i2 (upZ _ 1 110 j)))) :: _) := hD
  refine lv_dup hx hb eX12_init_1255.2.2.2.1 rfl ?_
  refine lv_iconst (v := 2) hx hb eX12_init_1255.2.2.2.2.1 (by decide) ?_
  refine lv_bipush (v := 100) hx hb eX12_init_1255.2.2.2.2.2.1 (by decide) ?_
  refine va_cast hx hb hK hP hD hS 1 1 rfl rfl (z_in (by decide) (by decide)) eX12_init_1255.2.2.2.2.2.2.1 (fun H locs hP hD hS => ?_)
  rw [c_i2 (k := Int32.toNatClampNeg 2) (c := vp_nar .char 100) (v := 100) (by decide)] at hP hD
  have hP : va_P D vwCl (_ :: (q_121, .inl (_, _, .inl (fun j => i2 (upZ _ 2 100 j)))) :: _) H := hP
  have hD : va_D A (_ :: (q_121, .inl (_, _, .inl (fun j => i2 (upZ _ 2 100 j)))) :: _) := hD
  refine va_putF (D := D) (ci := 12) (v := .ref q_121) (ty := .array .char) (C := RX12) (T := TX12) (N := 116) hx hb ht inX12 tyX12 tyX12_ok nmX12 hown hK hP hD hS 0 rfl rfl 86 (by decide) (ht (.fieldLink RX12 198 "CloneVolumesModel" "andAsked" "[C") fl_X12_198) (fun _ h9 => h9) rfl hin rfl (by decide +kernel) rfl rfl (by rw [hlen]; decide) eX12_init_1255.2.2.2.2.2.2.2 (fun H locs hP hD hS => ?_)
  have hP : va_P D vwCl ((h0, .inr (12, (fs.set 86 (.ref q_121)))) :: _) H := hP
  have hD : va_D A ((h0, .inr (12, (fs.set 86 (.ref q_121)))) :: _) := hD
  generalize hfs_122 : fs.set 86 (.ref q_121) = fs_122 at hP hD
  have hlen : fs_122.length = 116 := by rw [← hfs_122, List.length_set]; exact hlen
  have hP : va_P D vwCl ((h0, .inr (12, fs_122)) :: _) H := hP
  have hD : va_D A ((h0, .inr (12, fs_122)) :: _) := hD
  refine lv_aload_n hx hb eX12_init_1267.1 rfl (lv_at hl 0 rfl) ?_
  refine lv_iconst (v := 2) hx hb eX12_init_1267.2.1 (by decide) ?_
  refine va_newa (atype := .char) (a0 := (2, .inl (fun _ => 0))) (ty := .char) (N' := 2) hx hb (ht _ ac_char) rfl hK hP hD hS hA (fun _ => rfl) (by decide) (by decide) (by decide) (Nat.le_trans (Nat.le_of_ble_eq_true rfl) hRc) (Nat.le_trans (Nat.le_of_ble_eq_true rfl) hRs) eX12_init_1267.2.2.1 (fun q_123 cA H hK2 hP hD hS => ?_)
  obtain rfl := z_cls_char hK hK2
  refine W.widen (k := 61) (n := 27695) (Nat.le_of_ble_eq_true rfl) (Nat.le_of_ble_eq_true rfl) ?_
  obtain ⟨hP, hD⟩ := z_rot hP hD
  have hP : va_P D vwCl ((h0, .inr (12, fs_122)) :: (q_123, .inl (D.1 14, 2, .inl (fun _ => i2 0))) :: _) H := hP
  have hD : va_D A ((h0, .inr (12, fs_122)) :: (q_123, .inl (D.1 14, 2, .inl (fun _ => i2 0))) :: _) := hD
  refine lv_dup hx hb eX12_init_1267.2.2.2.1 rfl ?_
  refine lv_iconst (v := 0) hx hb eX12_init_1267.2.2.2.2.1 (by decide) ?_
  refine lv_bipush (v := 111) hx hb eX12_init_1267.2.2.2.2.2.1 (by decide) ?_
  refine va_cast hx hb hK hP hD hS 1 1 rfl rfl (z_in (by decide) (by decide)) eX12_init_1267.2.2.2.2.2.2.1 (fun H locs hP hD hS => ?_)
  rw [c_i2 (k := Int32.toNatClampNeg 0) (c := vp_nar .char 111) (v := 111) (by decide)] at hP hD
  have hP : va_P D vwCl (_ :: (q_123, .inl (_, _, .inl (fun j => i2 (upZ _ 0 111 j)))) :: _) H := hP
  have hD : va_D A (_ :: (q_123, .inl (_, _, .inl (fun j => i2 (upZ _ 0 111 j)))) :: _) := hD
  refine lv_dup hx hb eX12_init_1267.2.2.2.2.2.2.2 rfl ?_
  refine lv_iconst (v := 1) hx hb eX12_init_1277.1 (by decide) ?_
  refine lv_bipush (v := 114) hx hb eX12_init_1277.2.1 (by decide) ?_
  refine va_cast hx hb hK hP hD hS 1 1 rfl rfl (z_in (by decide) (by decide)) eX12_init_1277.2.2.1 (fun H locs hP hD hS => ?_)
  rw [c_i2 (k := Int32.toNatClampNeg 1) (c := vp_nar .char 114) (v := 114) (by decide)] at hP hD
  have hP : va_P D vwCl (_ :: (q_123, .inl (_, _, .inl (fun j => i2 (upZ _ 1 114 j)))) :: _) H := hP
  have hD : va_D A (_ :: (q_123, .inl (_, _, .inl (fun j => i2 (upZ _ 1 114 j)))) :: _) := hD
  refine va_putF (D := D) (ci := 12) (v := .ref q_123) (ty := .array .char) (C := RX12) (T := TX12) (N := 116) hx hb ht inX12 tyX12 tyX12_ok nmX12 hown hK hP hD hS 0 rfl rfl 87 (by decide) (ht (.fieldLink RX12 201 "CloneVolumesModel" "orAsked" "[C") fl_X12_201) (fun _ h9 => h9) rfl hin rfl (by decide +kernel) rfl rfl (by rw [hlen]; decide) eX12_init_1277.2.2.2.1 (fun H locs hP hD hS => ?_)
  have hP : va_P D vwCl ((h0, .inr (12, (fs_122.set 87 (.ref q_123)))) :: _) H := hP
  have hD : va_D A ((h0, .inr (12, (fs_122.set 87 (.ref q_123)))) :: _) := hD
  generalize hfs_124 : fs_122.set 87 (.ref q_123) = fs_124 at hP hD
  have hlen : fs_124.length = 116 := by rw [← hfs_124, List.length_set]; exact hlen
  have hP : va_P D vwCl ((h0, .inr (12, fs_124)) :: _) H := hP
  have hD : va_D A ((h0, .inr (12, fs_124)) :: _) := hD
  refine lv_aload_n hx hb eX12_init_1277.2.2.2.2.1 rfl (lv_at hl 0 rfl) ?_
  refine lv_iconst (v := 3) hx hb eX12_init_1277.2.2.2.2.2.1 (by decide) ?_
  refine va_newa (atype := .char) (a0 := (3, .inl (fun _ => 0))) (ty := .char) (N' := 3) hx hb (ht _ ac_char) rfl hK hP hD hS hA (fun _ => rfl) (by decide) (by decide) (by decide) (Nat.le_trans (Nat.le_of_ble_eq_true rfl) hRc) (Nat.le_trans (Nat.le_of_ble_eq_true rfl) hRs) eX12_init_1277.2.2.2.2.2.2.1 (fun q_125 cA H hK2 hP hD hS => ?_)
  obtain rfl := z_cls_char hK hK2
  refine W.widen (k := 62) (n := 27698) (Nat.le_of_ble_eq_true rfl) (Nat.le_of_ble_eq_true rfl) ?_
  obtain ⟨hP, hD⟩ := z_rot hP hD
  have hP : va_P D vwCl ((h0, .inr (12, fs_124)) :: (q_125, .inl (D.1 14, 3, .inl (fun _ => i2 0))) :: _) H := hP
  have hD : va_D A ((h0, .inr (12, fs_124)) :: (q_125, .inl (D.1 14, 3, .inl (fun _ => i2 0))) :: _) := hD
  refine lv_dup hx hb eX12_init_1277.2.2.2.2.2.2.2 rfl ?_
  refine lv_iconst (v := 0) hx hb eX12_init_1289.1 (by decide) ?_
  refine lv_bipush (v := 97) hx hb eX12_init_1289.2.1 (by decide) ?_
  refine va_cast hx hb hK hP hD hS 1 1 rfl rfl (z_in (by decide) (by decide)) eX12_init_1289.2.2.1 (fun H locs hP hD hS => ?_)
  rw [c_i2 (k := Int32.toNatClampNeg 0) (c := vp_nar .char 97) (v := 97) (by decide)] at hP hD
  have hP : va_P D vwCl (_ :: (q_125, .inl (_, _, .inl (fun j => i2 (upZ _ 0 97 j)))) :: _) H := hP
  have hD : va_D A (_ :: (q_125, .inl (_, _, .inl (fun j => i2 (upZ _ 0 97 j)))) :: _) := hD
  refine lv_dup hx hb eX12_init_1289.2.2.2.1 rfl ?_
  refine lv_iconst (v := 1) hx hb eX12_init_1289.2.2.2.2.1 (by decide) ?_
  refine lv_bipush (v := 108) hx hb eX12_init_1289.2.2.2.2.2.1 (by decide) ?_
  refine va_cast hx hb hK hP hD hS 1 1 rfl rfl (z_in (by decide) (by decide)) eX12_init_1289.2.2.2.2.2.2.1 (fun H locs hP hD hS => ?_)
  rw [c_i2 (k := Int32.toNatClampNeg 1) (c := vp_nar .char 108) (v := 108) (by decide)] at hP hD
  have hP : va_P D vwCl (_ :: (q_125, .inl (_, _, .inl (fun j => i2 (upZ _ 1 108 j)))) :: _) H := hP
  have hD : va_D A (_ :: (q_125, .inl (_, _, .inl (fun j => i2 (upZ _ 1 108 j)))) :: _) := hD
  refine lv_dup hx hb eX12_init_1289.2.2.2.2.2.2.2 rfl ?_
  refine lv_iconst (v := 2) hx hb eX12_init_1299.1 (by decide) ?_
  refine lv_bipush (v := 108) hx hb eX12_init_1299.2.1 (by decide) ?_
  refine va_cast hx hb hK hP hD hS 1 1 rfl rfl (z_in (by decide) (by decide)) eX12_init_1299.2.2.1 (fun H locs hP hD hS => ?_)
  rw [c_i2 (k := Int32.toNatClampNeg 2) (c := vp_nar .char 108) (v := 108) (by decide)] at hP hD
  have hP : va_P D vwCl (_ :: (q_125, .inl (_, _, .inl (fun j => i2 (upZ _ 2 108 j)))) :: _) H := hP
  have hD : va_D A (_ :: (q_125, .inl (_, _, .inl (fun j => i2 (upZ _ 2 108 j)))) :: _) := hD
  refine va_putF (D := D) (ci := 12) (v := .ref q_125) (ty := .array .char) (C := RX12) (T := TX12) (N := 116) hx hb ht inX12 tyX12 tyX12_ok nmX12 hown hK hP hD hS 0 rfl rfl 88 (by decide) (ht (.fieldLink RX12 204 "CloneVolumesModel" "allAsked" "[C") fl_X12_204) (fun _ h9 => h9) rfl hin rfl (by decide +kernel) rfl rfl (by rw [hlen]; decide) eX12_init_1299.2.2.2.1 (fun H locs hP hD hS => ?_)
  have hP : va_P D vwCl ((h0, .inr (12, (fs_124.set 88 (.ref q_125)))) :: _) H := hP
  have hD : va_D A ((h0, .inr (12, (fs_124.set 88 (.ref q_125)))) :: _) := hD
  generalize hfs_126 : fs_124.set 88 (.ref q_125) = fs_126 at hP hD
  have hlen : fs_126.length = 116 := by rw [← hfs_126, List.length_set]; exact hlen
  have hP : va_P D vwCl ((h0, .inr (12, fs_126)) :: _) H := hP
  have hD : va_D A ((h0, .inr (12, fs_126)) :: _) := hD
  refine lv_aload_n hx hb eX12_init_1299.2.2.2.2.1 rfl (lv_at hl 0 rfl) ?_
  refine lv_iconst (v := 3) hx hb eX12_init_1299.2.2.2.2.2.1 (by decide) ?_
  refine va_newa (atype := .char) (a0 := (3, .inl (fun _ => 0))) (ty := .char) (N' := 3) hx hb (ht _ ac_char) rfl hK hP hD hS hA (fun _ => rfl) (by decide) (by decide) (by decide) (Nat.le_trans (Nat.le_of_ble_eq_true rfl) hRc) (Nat.le_trans (Nat.le_of_ble_eq_true rfl) hRs) eX12_init_1299.2.2.2.2.2.2.1 (fun q_127 cA H hK2 hP hD hS => ?_)
  obtain rfl := z_cls_char hK hK2
  refine W.widen (k := 63) (n := 27701) (Nat.le_of_ble_eq_true rfl) (Nat.le_of_ble_eq_true rfl) ?_
  obtain ⟨hP, hD⟩ := z_rot hP hD
  have hP : va_P D vwCl ((h0, .inr (12, fs_126)) :: (q_127, .inl (D.1 14, 3, .inl (fun _ => i2 0))) :: _) H := hP
  have hD : va_D A ((h0, .inr (12, fs_126)) :: (q_127, .inl (D.1 14, 3, .inl (fun _ => i2 0))) :: _) := hD
  refine lv_dup hx hb eX12_init_1299.2.2.2.2.2.2.2 rfl ?_
  refine lv_iconst (v := 0) hx hb eX12_init_1311.1 (by decide) ?_
  refine lv_bipush (v := 109) hx hb eX12_init_1311.2.1 (by decide) ?_
  refine va_cast hx hb hK hP hD hS 1 1 rfl rfl (z_in (by decide) (by decide)) eX12_init_1311.2.2.1 (fun H locs hP hD hS => ?_)
  rw [c_i2 (k := Int32.toNatClampNeg 0) (c := vp_nar .char 109) (v := 109) (by decide)] at hP hD
  have hP : va_P D vwCl (_ :: (q_127, .inl (_, _, .inl (fun j => i2 (upZ _ 0 109 j)))) :: _) H := hP
  have hD : va_D A (_ :: (q_127, .inl (_, _, .inl (fun j => i2 (upZ _ 0 109 j)))) :: _) := hD
  refine lv_dup hx hb eX12_init_1311.2.2.2.1 rfl ?_
  refine lv_iconst (v := 1) hx hb eX12_init_1311.2.2.2.2.1 (by decide) ?_
  refine lv_bipush (v := 105) hx hb eX12_init_1311.2.2.2.2.2.1 (by decide) ?_
  refine va_cast hx hb hK hP hD hS 1 1 rfl rfl (z_in (by decide) (by decide)) eX12_init_1311.2.2.2.2.2.2.1 (fun H locs hP hD hS => ?_)
  rw [c_i2 (k := Int32.toNatClampNeg 1) (c := vp_nar .char 105) (v := 105) (by decide)] at hP hD
  have hP : va_P D vwCl (_ :: (q_127, .inl (_, _, .inl (fun j => i2 (upZ _ 1 105 j)))) :: _) H := hP
  have hD : va_D A (_ :: (q_127, .inl (_, _, .inl (fun j => i2 (upZ _ 1 105 j)))) :: _) := hD
  refine lv_dup hx hb eX12_init_1311.2.2.2.2.2.2.2 rfl ?_
  refine lv_iconst (v := 2) hx hb eX12_init_1321.1 (by decide) ?_
  refine lv_bipush (v := 110) hx hb eX12_init_1321.2.1 (by decide) ?_
  refine va_cast hx hb hK hP hD hS 1 1 rfl rfl (z_in (by decide) (by decide)) eX12_init_1321.2.2.1 (fun H locs hP hD hS => ?_)
  rw [c_i2 (k := Int32.toNatClampNeg 2) (c := vp_nar .char 110) (v := 110) (by decide)] at hP hD
  have hP : va_P D vwCl (_ :: (q_127, .inl (_, _, .inl (fun j => i2 (upZ _ 2 110 j)))) :: _) H := hP
  have hD : va_D A (_ :: (q_127, .inl (_, _, .inl (fun j => i2 (upZ _ 2 110 j)))) :: _) := hD
  refine va_putF (D := D) (ci := 12) (v := .ref q_127) (ty := .array .char) (C := RX12) (T := TX12) (N := 116) hx hb ht inX12 tyX12 tyX12_ok nmX12 hown hK hP hD hS 0 rfl rfl 89 (by decide) (ht (.fieldLink RX12 207 "CloneVolumesModel" "minAsked" "[C") fl_X12_207) (fun _ h9 => h9) rfl hin rfl (by decide +kernel) rfl rfl (by rw [hlen]; decide) eX12_init_1321.2.2.2.1 (fun H locs hP hD hS => ?_)
  have hP : va_P D vwCl ((h0, .inr (12, (fs_126.set 89 (.ref q_127)))) :: _) H := hP
  have hD : va_D A ((h0, .inr (12, (fs_126.set 89 (.ref q_127)))) :: _) := hD
  generalize hfs_128 : fs_126.set 89 (.ref q_127) = fs_128 at hP hD
  have hlen : fs_128.length = 116 := by rw [← hfs_128, List.length_set]; exact hlen
  have hP : va_P D vwCl ((h0, .inr (12, fs_128)) :: _) H := hP
  have hD : va_D A ((h0, .inr (12, fs_128)) :: _) := hD
  exact kk q_127 q_125 q_123 q_121 fs_128 _ _ (by rw [← hfs_128, ← hfs_126, ← hfs_124, ← hfs_122]) hP hD hS
set_option maxHeartbeats 4000000 in
set_option maxRecDepth 100000 in
theorem cM_17 {p : Program} {l : Launch} {e : Env} {R : Room} {s : State} {m : MethodId} {args : Array Value} {below : List Frame} {meth : Method} {c : Code} {Q : State → Prop} {D : va_G} {A : Nat → Prop} {ls : Array Slot} {h0 : Nat} {T : va_W} (hx : p.tables.exec = Jvm.exec) (hb : c.code = cX12_init) (ht : ∀ w ∈ lw_gd, w.before args s = true) (hown : s.vm.findClass RX12 = some m.cls) (hin : meth.name = "<init>") (hK : va_K D vwCl (TY D) s) (hA : ∀ q : Nat, s.heap.size ≤ q → A q) (hRc : 80 ≤ R.cells) (hRs : 35050 ≤ R.slots) (hl : lv_has ls 1 [(0, .ref h0)]) {fs : List Value} (hlen : fs.length = 116) {H : Heap} {locs : List Loc} (hP : va_P D vwCl ((h0, .inr (12, fs)) :: T) H) (hD : va_D A ((h0, .inr (12, fs)) :: T)) (hS : va_S A s.heap H locs)
    (kk : ∀ (q_133 : Nat) (q_131 : Nat) (q_129 : Nat) (fs' : List Value) (H : Heap) (locs : List Loc), fs' = (((fs.set 90 (.ref q_129)).set 91 (.ref q_131)).set 92 (.ref q_133)) → va_P D vwCl ((h0, .inr (12, fs')) :: (q_133, .inl (D.1 14, 5, .inl (fun j => i2 (upZ (upZ (upZ (upZ (upZ (fun _ => 0) 0 98) 1 108) 2 111) 3 99) 4 107 j)))) :: (q_131, .inl (D.1 14, 5, .inl (fun j => i2 (upZ (upZ (upZ (upZ (upZ (fun _ => 0) 0 108) 1 101) 2 118) 3 101) 4 108 j)))) :: (q_129, .inl (D.1 14, 3, .inl (fun j => i2 (upZ (upZ (upZ (fun _ => 0) 0 109) 1 97) 2 120 j)))) :: T) H → va_D A ((h0, .inr (12, fs')) :: (q_133, .inl (D.1 14, 5, .inl (fun j => i2 (upZ (upZ (upZ (upZ (upZ (fun _ => 0) 0 98) 1 108) 2 111) 3 99) 4 107 j)))) :: (q_131, .inl (D.1 14, 5, .inl (fun j => i2 (upZ (upZ (upZ (upZ (upZ (fun _ => 0) 0 108) 1 101) 2 118) 3 101) 4 108 j)))) :: (q_129, .inl (D.1 14, 3, .inl (fun j => i2 (upZ (upZ (upZ (fun _ => 0) 0 109) 1 97) 2 120 j)))) :: T) → va_S A s.heap H locs → W p l e R s m args below meth c H locs 66 27714 Q (F0 m 1414 ls [])) : W p l e R s m args below meth c H locs 63 27701 Q (F0 m 1328 ls []) := by
  refine lv_aload_n hx hb eX12_init_1321.2.2.2.2.1 rfl (lv_at hl 0 rfl) ?_
  refine lv_iconst (v := 3) hx hb eX12_init_1321.2.2.2.2.2.1 (by decide) ?_
  refine va_newa (atype := .char) (a0 := (3, .inl (fun _ => 0))) (ty := .char) (N' := 3) hx hb (ht _ ac_char) rfl hK hP hD hS hA (fun _ => rfl) (by decide) (by decide) (by decide) (Nat.le_trans (Nat.le_of_ble_eq_true rfl) hRc) (Nat.le_trans (Nat.le_of_ble_eq_true rfl) hRs) eX12_init_1321.2.2.2.2.2.2.1 (fun q_129 cA H hK2 hP hD hS => ?_)
  obtain rfl := z_cls_char hK hK2
  refine W.widen (k := 64) (n := 27704) (Nat.le_of_ble_eq_true rfl) (Nat.le_of_ble_eq_true rfl) ?_
  obtain ⟨hP, hD⟩ := z_rot hP hD
  have hP : va_P D vwCl ((h0, .inr (12, fs)) :: (q_129, .inl (D.1 14, 3, .inl (fun _ => i2 0))) :: T) H := hP
  have hD : va_D A ((h0, .inr (12, fs)) :: (q_129, .inl (D.1 14, 3, .inl (fun _ => i2 0))) :: T) := hD
  refine lv_dup hx hb eX12_init_1321.2.2.2.2.2.2.2 rfl ?_
  refine lv_iconst (v := 0) hx hb eX12_init_1333.1 (by decide) ?_
  refine lv_bipush (v := 109) hx hb eX12_init_1333.2.1 (by decide) ?_
  refine va_cast hx hb hK hP hD hS 1 1 rfl rfl (z_in (by decide) (by decide)) eX12_init_1333.2.2.1 (fun H locs hP hD hS => ?_)
  rw [c_i2 (k := Int32.toNatClampNeg 0) (c := vp_nar .char 109) (v := 109) (by decide)] at hP hD
  have hP : va_P D vwCl (_ :: (q_129, .inl (_, _, .inl (fun j => i2 (upZ _ 0 109 j)))) :: _) H := hP
  have hD : va_D A (_ :: (q_129, .inl (_, _, .inl (fun j => i2 (upZ _ 0 109 j)))) :: _) := hD
  refine lv_dup hx hb eX12_init_1333.2.2.2.1 rfl ?_
  refine lv_iconst (v := 1) hx hb eX12_init_1333.2.2.2.2.1 (by decide) ?_
  refine lv_bipush (v := 97) hx hb eX12_init_1333.2.2.2.2.2.1 (by decide) ?_
  refine va_cast hx hb hK hP hD hS 1 1 rfl rfl (z_in (by decide) (by decide)) eX12_init_1333.2.2.2.2.2.2.1 (fun H locs hP hD hS => ?_)
  rw [c_i2 (k := Int32.toNatClampNeg 1) (c := vp_nar .char 97) (v := 97) (by decide)] at hP hD
  have hP : va_P D vwCl (_ :: (q_129, .inl (_, _, .inl (fun j => i2 (upZ _ 1 97 j)))) :: _) H := hP
  have hD : va_D A (_ :: (q_129, .inl (_, _, .inl (fun j => i2 (upZ _ 1 97 j)))) :: _) := hD
  refine lv_dup hx hb eX12_init_1333.2.2.2.2.2.2.2 rfl ?_
  refine lv_iconst (v := 2) hx hb eX12_init_1343.1 (by decide) ?_
  refine lv_bipush (v := 120) hx hb eX12_init_1343.2.1 (by decide) ?_
  refine va_cast hx hb hK hP hD hS 1 1 rfl rfl (z_in (by decide) (by decide)) eX12_init_1343.2.2.1 (fun H locs hP hD hS => ?_)
  rw [c_i2 (k := Int32.toNatClampNeg 2) (c := vp_nar .char 120) (v := 120) (by decide)] at hP hD
  have hP : va_P D vwCl (_ :: (q_129, .inl (_, _, .inl (fun j => i2 (upZ _ 2 120 j)))) :: _) H := hP
  have hD : va_D A (_ :: (q_129, .inl (_, _, .inl (fun j => i2 (upZ _ 2 120 j)))) :: _) := hD
  refine va_putF (D := D) (ci := 12) (v := .ref q_129) (ty := .array .char) (C := RX12) (T := TX12) (N := 116) hx hb ht inX12 tyX12 tyX12_ok nmX12 hown hK hP hD hS 0 rfl rfl 90 (by decide) (ht (.fieldLink RX12 210 "CloneVolumesModel" "maxAsked" "[C") fl_X12_210) (fun _ h9 => h9) rfl hin rfl (by decide +kernel) rfl rfl (by rw [hlen]; decide) eX12_init_1343.2.2.2.1 (fun H locs hP hD hS => ?_)
  have hP : va_P D vwCl ((h0, .inr (12, (fs.set 90 (.ref q_129)))) :: _) H := hP
  have hD : va_D A ((h0, .inr (12, (fs.set 90 (.ref q_129)))) :: _) := hD
  generalize hfs_130 : fs.set 90 (.ref q_129) = fs_130 at hP hD
  have hlen : fs_130.length = 116 := by rw [← hfs_130, List.length_set]; exact hlen
  have hP : va_P D vwCl ((h0, .inr (12, fs_130)) :: _) H := hP
  have hD : va_D A ((h0, .inr (12, fs_130)) :: _) := hD
  refine lv_aload_n hx hb eX12_init_1343.2.2.2.2.1 rfl (lv_at hl 0 rfl) ?_
  refine lv_iconst (v := 5) hx hb eX12_init_1343.2.2.2.2.2.1 (by decide) ?_
  refine va_newa (atype := .char) (a0 := (5, .inl (fun _ => 0))) (ty := .char) (N' := 5) hx hb (ht _ ac_char) rfl hK hP hD hS hA (fun _ => rfl) (by decide) (by decide) (by decide) (Nat.le_trans (Nat.le_of_ble_eq_true rfl) hRc) (Nat.le_trans (Nat.le_of_ble_eq_true rfl) hRs) eX12_init_1343.2.2.2.2.2.2.1 (fun q_131 cA H hK2 hP hD hS => ?_)
  obtain rfl := z_cls_char hK hK2
  refine W.widen (k := 65) (n := 27709) (Nat.le_of_ble_eq_true rfl) (Nat.le_of_ble_eq_true rfl) ?_
  obtain ⟨hP, hD⟩ := z_rot hP hD
  have hP : va_P D vwCl ((h0, .inr (12, fs_130)) :: (q_131, .inl (D.1 14, 5, .inl (fun _ => i2 0))) :: _) H := hP
  have hD : va_D A ((h0, .inr (12, fs_130)) :: (q_131, .inl (D.1 14, 5, .inl (fun _ => i2 0))) :: _) := hD
  refine lv_dup hx hb eX12_init_1343.2.2.2.2.2.2.2 rfl ?_
  refine lv_iconst (v := 0) hx hb eX12_init_1355.1 (by decide) ?_
  refine lv_bipush (v := 108) hx hb eX12_init_1355.2.1 (by decide) ?_
  refine va_cast hx hb hK hP hD hS 1 1 rfl rfl (z_in (by decide) (by decide)) eX12_init_1355.2.2.1 (fun H locs hP hD hS => ?_)
  rw [c_i2 (k := Int32.toNatClampNeg 0) (c := vp_nar .char 108) (v := 108) (by decide)] at hP hD
  have hP : va_P D vwCl (_ :: (q_131, .inl (_, _, .inl (fun j => i2 (upZ _ 0 108 j)))) :: _) H := hP
  have hD : va_D A (_ :: (q_131, .inl (_, _, .inl (fun j => i2 (upZ _ 0 108 j)))) :: _) := hD
  refine lv_dup hx hb eX12_init_1355.2.2.2.1 rfl ?_
  refine lv_iconst (v := 1) hx hb eX12_init_1355.2.2.2.2.1 (by decide) ?_
  refine lv_bipush (v := 101) hx hb eX12_init_1355.2.2.2.2.2.1 (by decide) ?_
  refine va_cast hx hb hK hP hD hS 1 1 rfl rfl (z_in (by decide) (by decide)) eX12_init_1355.2.2.2.2.2.2.1 (fun H locs hP hD hS => ?_)
  rw [c_i2 (k := Int32.toNatClampNeg 1) (c := vp_nar .char 101) (v := 101) (by decide)] at hP hD
  have hP : va_P D vwCl (_ :: (q_131, .inl (_, _, .inl (fun j => i2 (upZ _ 1 101 j)))) :: _) H := hP
  have hD : va_D A (_ :: (q_131, .inl (_, _, .inl (fun j => i2 (upZ _ 1 101 j)))) :: _) := hD
  refine lv_dup hx hb eX12_init_1355.2.2.2.2.2.2.2 rfl ?_
  refine lv_iconst (v := 2) hx hb eX12_init_1365.1 (by decide) ?_
  refine lv_bipush (v := 118) hx hb eX12_init_1365.2.1 (by decide) ?_
  refine va_cast hx hb hK hP hD hS 1 1 rfl rfl (z_in (by decide) (by decide)) eX12_init_1365.2.2.1 (fun H locs hP hD hS => ?_)
  rw [c_i2 (k := Int32.toNatClampNeg 2) (c := vp_nar .char 118) (v := 118) (by decide)] at hP hD
  have hP : va_P D vwCl (_ :: (q_131, .inl (_, _, .inl (fun j => i2 (upZ _ 2 118 j)))) :: _) H := hP
  have hD : va_D A (_ :: (q_131, .inl (_, _, .inl (fun j => i2 (upZ _ 2 118 j)))) :: _) := hD
  refine lv_dup hx hb eX12_init_1365.2.2.2.1 rfl ?_
  refine lv_iconst (v := 3) hx hb eX12_init_1365.2.2.2.2.1 (by decide) ?_
  refine lv_bipush (v := 101) hx hb eX12_init_1365.2.2.2.2.2.1 (by decide) ?_
  refine va_cast hx hb hK hP hD hS 1 1 rfl rfl (z_in (by decide) (by decide)) eX12_init_1365.2.2.2.2.2.2.1 (fun H locs hP hD hS => ?_)
  rw [c_i2 (k := Int32.toNatClampNeg 3) (c := vp_nar .char 101) (v := 101) (by decide)] at hP hD
  have hP : va_P D vwCl (_ :: (q_131, .inl (_, _, .inl (fun j => i2 (upZ _ 3 101 j)))) :: _) H := hP
  have hD : va_D A (_ :: (q_131, .inl (_, _, .inl (fun j => i2 (upZ _ 3 101 j)))) :: _) := hD
  refine lv_dup hx hb eX12_init_1365.2.2.2.2.2.2.2 rfl ?_
  refine lv_iconst (v := 4) hx hb eX12_init_1375.1 (by decide) ?_
  refine lv_bipush (v := 108) hx hb eX12_init_1375.2.1 (by decide) ?_
  refine va_cast hx hb hK hP hD hS 1 1 rfl rfl (z_in (by decide) (by decide)) eX12_init_1375.2.2.1 (fun H locs hP hD hS => ?_)
  rw [c_i2 (k := Int32.toNatClampNeg 4) (c := vp_nar .char 108) (v := 108) (by decide)] at hP hD
  have hP : va_P D vwCl (_ :: (q_131, .inl (_, _, .inl (fun j => i2 (upZ _ 4 108 j)))) :: _) H := hP
  have hD : va_D A (_ :: (q_131, .inl (_, _, .inl (fun j => i2 (upZ _ 4 108 j)))) :: _) := hD
  refine va_putF (D := D) (ci := 12) (v := .ref q_131) (ty := .array .char) (C := RX12) (T := TX12) (N := 116) hx hb ht inX12 tyX12 tyX12_ok nmX12 hown hK hP hD hS 0 rfl rfl 91 (by decide) (ht (.fieldLink RX12 213 "CloneVolumesModel" "levelAsked" "[C") fl_X12_213) (fun _ h9 => h9) rfl hin rfl (by decide +kernel) rfl rfl (by rw [hlen]; decide) eX12_init_1375.2.2.2.1 (fun H locs hP hD hS => ?_)
  have hP : va_P D vwCl ((h0, .inr (12, (fs_130.set 91 (.ref q_131)))) :: _) H := hP
  have hD : va_D A ((h0, .inr (12, (fs_130.set 91 (.ref q_131)))) :: _) := hD
  generalize hfs_132 : fs_130.set 91 (.ref q_131) = fs_132 at hP hD
  have hlen : fs_132.length = 116 := by rw [← hfs_132, List.length_set]; exact hlen
  have hP : va_P D vwCl ((h0, .inr (12, fs_132)) :: _) H := hP
  have hD : va_D A ((h0, .inr (12, fs_132)) :: _) := hD
  refine lv_aload_n hx hb eX12_init_1375.2.2.2.2.1 rfl (lv_at hl 0 rfl) ?_
  refine lv_iconst (v := 5) hx hb eX12_init_1375.2.2.2.2.2.1 (by decide) ?_
  refine va_newa (atype := .char) (a0 := (5, .inl (fun _ => 0))) (ty := .char) (N' := 5) hx hb (ht _ ac_char) rfl hK hP hD hS hA (fun _ => rfl) (by decide) (by decide) (by decide) (Nat.le_trans (Nat.le_of_ble_eq_true rfl) hRc) (Nat.le_trans (Nat.le_of_ble_eq_true rfl) hRs) eX12_init_1375.2.2.2.2.2.2.1 (fun q_133 cA H hK2 hP hD hS => ?_)
  obtain rfl := z_cls_char hK hK2
  refine W.widen (k := 66) (n := 27714) (Nat.le_of_ble_eq_true rfl) (Nat.le_of_ble_eq_true rfl) ?_
  obtain ⟨hP, hD⟩ := z_rot hP hD
  have hP : va_P D vwCl ((h0, .inr (12, fs_132)) :: (q_133, .inl (D.1 14, 5, .inl (fun _ => i2 0))) :: _) H := hP
  have hD : va_D A ((h0, .inr (12, fs_132)) :: (q_133, .inl (D.1 14, 5, .inl (fun _ => i2 0))) :: _) := hD
  refine lv_dup hx hb eX12_init_1375.2.2.2.2.2.2.2 rfl ?_
  refine lv_iconst (v := 0) hx hb eX12_init_1387.1 (by decide) ?_
  refine lv_bipush (v := 98) hx hb eX12_init_1387.2.1 (by decide) ?_
  refine va_cast hx hb hK hP hD hS 1 1 rfl rfl (z_in (by decide) (by decide)) eX12_init_1387.2.2.1 (fun H locs hP hD hS => ?_)
  rw [c_i2 (k := Int32.toNatClampNeg 0) (c := vp_nar .char 98) (v := 98) (by decide)] at hP hD
  have hP : va_P D vwCl (_ :: (q_133, .inl (_, _, .inl (fun j => i2 (upZ _ 0 98 j)))) :: _) H := hP
  have hD : va_D A (_ :: (q_133, .inl (_, _, .inl (fun j => i2 (upZ _ 0 98 j)))) :: _) := hD
  refine lv_dup hx hb eX12_init_1387.2.2.2.1 rfl ?_
  refine lv_iconst (v := 1) hx hb eX12_init_1387.2.2.2.2.1 (by decide) ?_
  refine lv_bipush (v := 108) hx hb eX12_init_1387.2.2.2.2.2.1 (by decide) ?_
  refine va_cast hx hb hK hP hD hS 1 1 rfl rfl (z_in (by decide) (by decide)) eX12_init_1387.2.2.2.2.2.2.1 (fun H locs hP hD hS => ?_)
  rw [c_i2 (k := Int32.toNatClampNeg 1) (c := vp_nar .char 108) (v := 108) (by decide)] at hP hD
  have hP : va_P D vwCl (_ :: (q_133, .inl (_, _, .inl (fun j => i2 (upZ _ 1 108 j)))) :: _) H := hP
  have hD : va_D A (_ :: (q_133, .inl (_, _, .inl (fun j => i2 (upZ _ 1 108 j)))) :: _) := hD
  refine lv_dup hx hb eX12_init_1387.2.2.2.2.2.2.2 rfl ?_
  refine lv_iconst (v := 2) hx hb eX12_init_1397.1 (by decide) ?_
  refine lv_bipush (v := 111) hx hb eX12_init_1397.2.1 (by decide) ?_
  refine va_cast hx hb hK hP hD hS 1 1 rfl rfl (z_in (by decide) (by decide)) eX12_init_1397.2.2.1 (fun H locs hP hD hS => ?_)
  rw [c_i2 (k := Int32.toNatClampNeg 2) (c := vp_nar .char 111) (v := 111) (by decide)] at hP hD
  have hP : va_P D vwCl (_ :: (q_133, .inl (_, _, .inl (fun j => i2 (upZ _ 2 111 j)))) :: _) H := hP
  have hD : va_D A (_ :: (q_133, .inl (_, _, .inl (fun j => i2 (upZ _ 2 111 j)))) :: _) := hD
  refine lv_dup hx hb eX12_init_1397.2.2.2.1 rfl ?_
  refine lv_iconst (v := 3) hx hb eX12_init_1397.2.2.2.2.1 (by decide) ?_
  refine lv_bipush (v := 99) hx hb eX12_init_1397.2.2.2.2.2.1 (by decide) ?_
  refine va_cast hx hb hK hP hD hS 1 1 rfl rfl (z_in (by decide) (by decide)) eX12_init_1397.2.2.2.2.2.2.1 (fun H locs hP hD hS => ?_)
  rw [c_i2 (k := Int32.toNatClampNeg 3) (c := vp_nar .char 99) (v := 99) (by decide)] at hP hD
  have hP : va_P D vwCl (_ :: (q_133, .inl (_, _, .inl (fun j => i2 (upZ _ 3 99 j)))) :: _) H := hP
  have hD : va_D A (_ :: (q_133, .inl (_, _, .inl (fun j => i2 (upZ _ 3 99 j)))) :: _) := hD
  refine lv_dup hx hb eX12_init_1397.2.2.2.2.2.2.2 rfl ?_
  refine lv_iconst (v := 4) hx hb eX12_init_1407.1 (by decide) ?_
  refine lv_bipush (v := 107) hx hb eX12_init_1407.2.1 (by decide) ?_
  refine va_cast hx hb hK hP hD hS 1 1 rfl rfl (z_in (by decide) (by decide)) eX12_init_1407.2.2.1 (fun H locs hP hD hS => ?_)
  rw [c_i2 (k := Int32.toNatClampNeg 4) (c := vp_nar .char 107) (v := 107) (by decide)] at hP hD
  have hP : va_P D vwCl (_ :: (q_133, .inl (_, _, .inl (fun j => i2 (upZ _ 4 107 j)))) :: _) H := hP
  have hD : va_D A (_ :: (q_133, .inl (_, _, .inl (fun j => i2 (upZ _ 4 107 j)))) :: _) := hD
  refine va_putF (D := D) (ci := 12) (v := .ref q_133) (ty := .array .char) (C := RX12) (T := TX12) (N := 116) hx hb ht inX12 tyX12 tyX12_ok nmX12 hown hK hP hD hS 0 rfl rfl 92 (by decide) (ht (.fieldLink RX12 216 "CloneVolumesModel" "blockAsked" "[C") fl_X12_216) (fun _ h9 => h9) rfl hin rfl (by decide +kernel) rfl rfl (by rw [hlen]; decide) eX12_init_1407.2.2.2.1 (fun H locs hP hD hS => ?_)
  have hP : va_P D vwCl ((h0, .inr (12, (fs_132.set 92 (.ref q_133)))) :: _) H := hP
  have hD : va_D A ((h0, .inr (12, (fs_132.set 92 (.ref q_133)))) :: _) := hD
  generalize hfs_134 : fs_132.set 92 (.ref q_133) = fs_134 at hP hD
  have hlen : fs_134.length = 116 := by rw [← hfs_134, List.length_set]; exact hlen
  have hP : va_P D vwCl ((h0, .inr (12, fs_134)) :: _) H := hP
  have hD : va_D A ((h0, .inr (12, fs_134)) :: _) := hD
  exact kk q_133 q_131 q_129 fs_134 _ _ (by rw [← hfs_134, ← hfs_132, ← hfs_130]) hP hD hS
set_option maxHeartbeats 4000000 in
set_option maxRecDepth 100000 in
theorem cM_18 {p : Program} {l : Launch} {e : Env} {R : Room} {s : State} {m : MethodId} {args : Array Value} {below : List Frame} {meth : Method} {c : Code} {Q : State → Prop} {D : va_G} {A : Nat → Prop} {ls : Array Slot} {h0 : Nat} {T : va_W} (hx : p.tables.exec = Jvm.exec) (hb : c.code = cX12_init) (ht : ∀ w ∈ lw_gd, w.before args s = true) (hown : s.vm.findClass RX12 = some m.cls) (hin : meth.name = "<init>") (hK : va_K D vwCl (TY D) s) (hA : ∀ q : Nat, s.heap.size ≤ q → A q) (hRc : 80 ≤ R.cells) (hRs : 35050 ≤ R.slots) (hl : lv_has ls 1 [(0, .ref h0)]) {fs : List Value} (hlen : fs.length = 116) {H : Heap} {locs : List Loc} (hP : va_P D vwCl ((h0, .inr (12, fs)) :: T) H) (hD : va_D A ((h0, .inr (12, fs)) :: T)) (hS : va_S A s.heap H locs)
    (kk : ∀ (q_137 : Nat) (q_135 : Nat) (fs' : List Value) (H : Heap) (locs : List Loc), fs' = ((fs.set 93 (.ref q_135)).set 94 (.ref q_137)) → va_P D vwCl ((h0, .inr (12, fs')) :: (q_137, .inl (D.1 14, 7, .inl (fun j => i2 (upZ (upZ (upZ (upZ (upZ (upZ (upZ (fun _ => 0) 0 101) 1 110) 2 116) 3 114) 4 105) 5 101) 6 115 j)))) :: (q_135, .inl (D.1 14, 4, .inl (fun j => i2 (upZ (upZ (upZ (upZ (fun _ => 0) 0 102) 1 114) 2 111) 3 109 j)))) :: T) H → va_D A ((h0, .inr (12, fs')) :: (q_137, .inl (D.1 14, 7, .inl (fun j => i2 (upZ (upZ (upZ (upZ (upZ (upZ (upZ (fun _ => 0) 0 101) 1 110) 2 116) 3 114) 4 105) 5 101) 6 115 j)))) :: (q_135, .inl (D.1 14, 4, .inl (fun j => i2 (upZ (upZ (upZ (upZ (fun _ => 0) 0 102) 1 114) 2 111) 3 109 j)))) :: T) → va_S A s.heap H locs → W p l e R s m args below meth c H locs 68 27725 Q (F0 m 1485 ls [])) : W p l e R s m args below meth c H locs 66 27714 Q (F0 m 1414 ls []) := by
  refine lv_aload_n hx hb eX12_init_1407.2.2.2.2.1 rfl (lv_at hl 0 rfl) ?_
  refine lv_iconst (v := 4) hx hb eX12_init_1407.2.2.2.2.2.1 (by decide) ?_
  refine va_newa (atype := .char) (a0 := (4, .inl (fun _ => 0))) (ty := .char) (N' := 4) hx hb (ht _ ac_char) rfl hK hP hD hS hA (fun _ => rfl) (by decide) (by decide) (by decide) (Nat.le_trans (Nat.le_of_ble_eq_true rfl) hRc) (Nat.le_trans (Nat.le_of_ble_eq_true rfl) hRs) eX12_init_1407.2.2.2.2.2.2.1 (fun q_135 cA H hK2 hP hD hS => ?_)
  obtain rfl := z_cls_char hK hK2
  refine W.widen (k := 67) (n := 27718) (Nat.le_of_ble_eq_true rfl) (Nat.le_of_ble_eq_true rfl) ?_
  obtain ⟨hP, hD⟩ := z_rot hP hD
  have hP : va_P D vwCl ((h0, .inr (12, fs)) :: (q_135, .inl (D.1 14, 4, .inl (fun _ => i2 0))) :: T) H := hP
  have hD : va_D A ((h0, .inr (12, fs)) :: (q_135, .inl (D.1 14, 4, .inl (fun _ => i2 0))) :: T) := hD
  refine lv_dup hx hb eX12_init_1407.2.2.2.2.2.2.2 rfl ?_
  refine lv_iconst (v := 0) hx hb eX12_init_1419.1 (by decide) ?_
  refine lv_bipush (v := 102) hx hb eX12_init_1419.2.1 (by decide) ?_
  refine va_cast hx hb hK hP hD hS 1 1 rfl rfl (z_in (by decide) (by decide)) eX12_init_1419.2.2.1 (fun H locs hP hD hS => ?_)
  rw [c_i2 (k := Int32.toNatClampNeg 0) (c := vp_nar .char 102) (v := 102) (by decide)] at hP hD
  have hP : va_P D vwCl (_ :: (q_135, .inl (_, _, .inl (fun j => i2 (upZ _ 0 102 j)))) :: _) H := hP
  have hD : va_D A (_ :: (q_135, .inl (_, _, .inl (fun j => i2 (upZ _ 0 102 j)))) :: _) := hD
  refine lv_dup hx hb eX12_init_1419.2.2.2.1 rfl ?_
  refine lv_iconst (v := 1) hx hb eX12_init_1419.2.2.2.2.1 (by decide) ?_
  refine lv_bipush (v := 114) hx hb eX12_init_1419.2.2.2.2.2.1 (by decide) ?_
  refine va_cast hx hb hK hP hD hS 1 1 rfl rfl (z_in (by decide) (by decide)) eX12_init_1419.2.2.2.2.2.2.1 (fun H locs hP hD hS => ?_)
  rw [c_i2 (k := Int32.toNatClampNeg 1) (c := vp_nar .char 114) (v := 114) (by decide)] at hP hD
  have hP : va_P D vwCl (_ :: (q_135, .inl (_, _, .inl (fun j => i2 (upZ _ 1 114 j)))) :: _) H := hP
  have hD : va_D A (_ :: (q_135, .inl (_, _, .inl (fun j => i2 (upZ _ 1 114 j)))) :: _) := hD
  refine lv_dup hx hb eX12_init_1419.2.2.2.2.2.2.2 rfl ?_
  refine lv_iconst (v := 2) hx hb eX12_init_1429.1 (by decide) ?_
  refine lv_bipush (v := 111) hx hb eX12_init_1429.2.1 (by decide) ?_
  refine va_cast hx hb hK hP hD hS 1 1 rfl rfl (z_in (by decide) (by decide)) eX12_init_1429.2.2.1 (fun H locs hP hD hS => ?_)
  rw [c_i2 (k := Int32.toNatClampNeg 2) (c := vp_nar .char 111) (v := 111) (by decide)] at hP hD
  have hP : va_P D vwCl (_ :: (q_135, .inl (_, _, .inl (fun j => i2 (upZ _ 2 111 j)))) :: _) H := hP
  have hD : va_D A (_ :: (q_135, .inl (_, _, .inl (fun j => i2 (upZ _ 2 111 j)))) :: _) := hD
  refine lv_dup hx hb eX12_init_1429.2.2.2.1 rfl ?_
  refine lv_iconst (v := 3) hx hb eX12_init_1429.2.2.2.2.1 (by decide) ?_
  refine lv_bipush (v := 109) hx hb eX12_init_1429.2.2.2.2.2.1 (by decide) ?_
  refine va_cast hx hb hK hP hD hS 1 1 rfl rfl (z_in (by decide) (by decide)) eX12_init_1429.2.2.2.2.2.2.1 (fun H locs hP hD hS => ?_)
  rw [c_i2 (k := Int32.toNatClampNeg 3) (c := vp_nar .char 109) (v := 109) (by decide)] at hP hD
  have hP : va_P D vwCl (_ :: (q_135, .inl (_, _, .inl (fun j => i2 (upZ _ 3 109 j)))) :: _) H := hP
  have hD : va_D A (_ :: (q_135, .inl (_, _, .inl (fun j => i2 (upZ _ 3 109 j)))) :: _) := hD
  refine va_putF (D := D) (ci := 12) (v := .ref q_135) (ty := .array .char) (C := RX12) (T := TX12) (N := 116) hx hb ht inX12 tyX12 tyX12_ok nmX12 hown hK hP hD hS 0 rfl rfl 93 (by decide) (ht (.fieldLink RX12 219 "CloneVolumesModel" "fromAsked" "[C") fl_X12_219) (fun _ h9 => h9) rfl hin rfl (by decide +kernel) rfl rfl (by rw [hlen]; decide) eX12_init_1429.2.2.2.2.2.2.2 (fun H locs hP hD hS => ?_)
  have hP : va_P D vwCl ((h0, .inr (12, (fs.set 93 (.ref q_135)))) :: _) H := hP
  have hD : va_D A ((h0, .inr (12, (fs.set 93 (.ref q_135)))) :: _) := hD
  generalize hfs_136 : fs.set 93 (.ref q_135) = fs_136 at hP hD
  have hlen : fs_136.length = 116 := by rw [← hfs_136, List.length_set]; exact hlen
  have hP : va_P D vwCl ((h0, .inr (12, fs_136)) :: _) H := hP
  have hD : va_D A ((h0, .inr (12, fs_136)) :: _) := hD
  refine lv_aload_n hx hb eX12_init_1441.1 rfl (lv_at hl 0 rfl) ?_
  refine lv_bipush (v := 7) hx hb eX12_init_1441.2.1 (by decide) ?_
  refine va_newa (atype := .char) (a0 := (7, .inl (fun _ => 0))) (ty := .char) (N' := 7) hx hb (ht _ ac_char) rfl hK hP hD hS hA (fun _ => rfl) (by decide) (by decide) (by decide) (Nat.le_trans (Nat.le_of_ble_eq_true rfl) hRc) (Nat.le_trans (Nat.le_of_ble_eq_true rfl) hRs) eX12_init_1441.2.2.1 (fun q_137 cA H hK2 hP hD hS => ?_)
  obtain rfl := z_cls_char hK hK2
  refine W.widen (k := 68) (n := 27725) (Nat.le_of_ble_eq_true rfl) (Nat.le_of_ble_eq_true rfl) ?_
  obtain ⟨hP, hD⟩ := z_rot hP hD
  have hP : va_P D vwCl ((h0, .inr (12, fs_136)) :: (q_137, .inl (D.1 14, 7, .inl (fun _ => i2 0))) :: _) H := hP
  have hD : va_D A ((h0, .inr (12, fs_136)) :: (q_137, .inl (D.1 14, 7, .inl (fun _ => i2 0))) :: _) := hD
  refine lv_dup hx hb eX12_init_1441.2.2.2.1 rfl ?_
  refine lv_iconst (v := 0) hx hb eX12_init_1441.2.2.2.2.1 (by decide) ?_
  refine lv_bipush (v := 101) hx hb eX12_init_1441.2.2.2.2.2.1 (by decide) ?_
  refine va_cast hx hb hK hP hD hS 1 1 rfl rfl (z_in (by decide) (by decide)) eX12_init_1441.2.2.2.2.2.2.1 (fun H locs hP hD hS => ?_)
  rw [c_i2 (k := Int32.toNatClampNeg 0) (c := vp_nar .char 101) (v := 101) (by decide)] at hP hD
  have hP : va_P D vwCl (_ :: (q_137, .inl (_, _, .inl (fun j => i2 (upZ _ 0 101 j)))) :: _) H := hP
  have hD : va_D A (_ :: (q_137, .inl (_, _, .inl (fun j => i2 (upZ _ 0 101 j)))) :: _) := hD
  refine lv_dup hx hb eX12_init_1441.2.2.2.2.2.2.2 rfl ?_
  refine lv_iconst (v := 1) hx hb eX12_init_1452.1 (by decide) ?_
  refine lv_bipush (v := 110) hx hb eX12_init_1452.2.1 (by decide) ?_
  refine va_cast hx hb hK hP hD hS 1 1 rfl rfl (z_in (by decide) (by decide)) eX12_init_1452.2.2.1 (fun H locs hP hD hS => ?_)
  rw [c_i2 (k := Int32.toNatClampNeg 1) (c := vp_nar .char 110) (v := 110) (by decide)] at hP hD
  have hP : va_P D vwCl (_ :: (q_137, .inl (_, _, .inl (fun j => i2 (upZ _ 1 110 j)))) :: _) H := hP
  have hD : va_D A (_ :: (q_137, .inl (_, _, .inl (fun j => i2 (upZ _ 1 110 j)))) :: _) := hD
  refine lv_dup hx hb eX12_init_1452.2.2.2.1 rfl ?_
  refine lv_iconst (v := 2) hx hb eX12_init_1452.2.2.2.2.1 (by decide) ?_
  refine lv_bipush (v := 116) hx hb eX12_init_1452.2.2.2.2.2.1 (by decide) ?_
  refine va_cast hx hb hK hP hD hS 1 1 rfl rfl (z_in (by decide) (by decide)) eX12_init_1452.2.2.2.2.2.2.1 (fun H locs hP hD hS => ?_)
  rw [c_i2 (k := Int32.toNatClampNeg 2) (c := vp_nar .char 116) (v := 116) (by decide)] at hP hD
  have hP : va_P D vwCl (_ :: (q_137, .inl (_, _, .inl (fun j => i2 (upZ _ 2 116 j)))) :: _) H := hP
  have hD : va_D A (_ :: (q_137, .inl (_, _, .inl (fun j => i2 (upZ _ 2 116 j)))) :: _) := hD
  refine lv_dup hx hb eX12_init_1452.2.2.2.2.2.2.2 rfl ?_
  refine lv_iconst (v := 3) hx hb eX12_init_1462.1 (by decide) ?_
  refine lv_bipush (v := 114) hx hb eX12_init_1462.2.1 (by decide) ?_
  refine va_cast hx hb hK hP hD hS 1 1 rfl rfl (z_in (by decide) (by decide)) eX12_init_1462.2.2.1 (fun H locs hP hD hS => ?_)
  rw [c_i2 (k := Int32.toNatClampNeg 3) (c := vp_nar .char 114) (v := 114) (by decide)] at hP hD
  have hP : va_P D vwCl (_ :: (q_137, .inl (_, _, .inl (fun j => i2 (upZ _ 3 114 j)))) :: _) H := hP
  have hD : va_D A (_ :: (q_137, .inl (_, _, .inl (fun j => i2 (upZ _ 3 114 j)))) :: _) := hD
  refine lv_dup hx hb eX12_init_1462.2.2.2.1 rfl ?_
  refine lv_iconst (v := 4) hx hb eX12_init_1462.2.2.2.2.1 (by decide) ?_
  refine lv_bipush (v := 105) hx hb eX12_init_1462.2.2.2.2.2.1 (by decide) ?_
  refine va_cast hx hb hK hP hD hS 1 1 rfl rfl (z_in (by decide) (by decide)) eX12_init_1462.2.2.2.2.2.2.1 (fun H locs hP hD hS => ?_)
  rw [c_i2 (k := Int32.toNatClampNeg 4) (c := vp_nar .char 105) (v := 105) (by decide)] at hP hD
  have hP : va_P D vwCl (_ :: (q_137, .inl (_, _, .inl (fun j => i2 (upZ _ 4 105 j)))) :: _) H := hP
  have hD : va_D A (_ :: (q_137, .inl (_, _, .inl (fun j => i2 (upZ _ 4 105 j)))) :: _) := hD
  refine lv_dup hx hb eX12_init_1462.2.2.2.2.2.2.2 rfl ?_
  refine lv_iconst (v := 5) hx hb eX12_init_1472.1 (by decide) ?_
  refine lv_bipush (v := 101) hx hb eX12_init_1472.2.1 (by decide) ?_
  refine va_cast hx hb hK hP hD hS 1 1 rfl rfl (z_in (by decide) (by decide)) eX12_init_1472.2.2.1 (fun H locs hP hD hS => ?_)
  rw [c_i2 (k := Int32.toNatClampNeg 5) (c := vp_nar .char 101) (v := 101) (by decide)] at hP hD
  have hP : va_P D vwCl (_ :: (q_137, .inl (_, _, .inl (fun j => i2 (upZ _ 5 101 j)))) :: _) H := hP
  have hD : va_D A (_ :: (q_137, .inl (_, _, .inl (fun j => i2 (upZ _ 5 101 j)))) :: _) := hD
  refine lv_dup hx hb eX12_init_1472.2.2.2.1 rfl ?_
  refine lv_bipush (v := 6) hx hb eX12_init_1472.2.2.2.2.1 (by decide) ?_
  refine lv_bipush (v := 115) hx hb eX12_init_1472.2.2.2.2.2.1 (by decide) ?_
  refine va_cast hx hb hK hP hD hS 1 1 rfl rfl (z_in (by decide) (by decide)) eX12_init_1472.2.2.2.2.2.2.1 (fun H locs hP hD hS => ?_)
  rw [c_i2 (k := Int32.toNatClampNeg 6) (c := vp_nar .char 115) (v := 115) (by decide)] at hP hD
  have hP : va_P D vwCl (_ :: (q_137, .inl (_, _, .inl (fun j => i2 (upZ _ 6 115 j)))) :: _) H := hP
  have hD : va_D A (_ :: (q_137, .inl (_, _, .inl (fun j => i2 (upZ _ 6 115 j)))) :: _) := hD
  refine va_putF (D := D) (ci := 12) (v := .ref q_137) (ty := .array .char) (C := RX12) (T := TX12) (N := 116) hx hb ht inX12 tyX12 tyX12_ok nmX12 hown hK hP hD hS 0 rfl rfl 94 (by decide) (ht (.fieldLink RX12 222 "CloneVolumesModel" "entriesAsked" "[C") fl_X12_222) (fun _ h9 => h9) rfl hin rfl (by decide +kernel) rfl rfl (by rw [hlen]; decide) eX12_init_1472.2.2.2.2.2.2.2 (fun H locs hP hD hS => ?_)
  have hP : va_P D vwCl ((h0, .inr (12, (fs_136.set 94 (.ref q_137)))) :: _) H := hP
  have hD : va_D A ((h0, .inr (12, (fs_136.set 94 (.ref q_137)))) :: _) := hD
  generalize hfs_138 : fs_136.set 94 (.ref q_137) = fs_138 at hP hD
  have hlen : fs_138.length = 116 := by rw [← hfs_138, List.length_set]; exact hlen
  have hP : va_P D vwCl ((h0, .inr (12, fs_138)) :: _) H := hP
  have hD : va_D A ((h0, .inr (12, fs_138)) :: _) := hD
  exact kk q_137 q_135 fs_138 _ _ (by rw [← hfs_138, ← hfs_136]) hP hD hS
theorem fl_X12_225 : Cond.fieldLink RX12 225 "CloneVolumesModel" "numberAsked" "[C" ∈ lw_gd := zm (lw_g_6 (List.mem_of_getElem? (i := 236) (by decide +kernel))) rfl
theorem fl_X12_228 : Cond.fieldLink RX12 228 "CloneVolumesModel" "countAsked" "[C" ∈ lw_gd := zm (lw_g_6 (List.mem_of_getElem? (i := 237) (by decide +kernel))) rfl
theorem fl_X12_231 : Cond.fieldLink RX12 231 "CloneVolumesModel" "freshAsked" "[C" ∈ lw_gd := zm (lw_g_6 (List.mem_of_getElem? (i := 238) (by decide +kernel))) rfl
theorem fl_X12_234 : Cond.fieldLink RX12 234 "CloneVolumesModel" "savedAsked" "[C" ∈ lw_gd := zm (lw_g_6 (List.mem_of_getElem? (i := 239) (by decide +kernel))) rfl
theorem fl_X12_237 : Cond.fieldLink RX12 237 "CloneVolumesModel" "refsAsked" "[C" ∈ lw_gd := zm (lw_g_7 (List.mem_of_getElem? (i := 0) (by decide +kernel))) rfl
theorem fl_X12_240 : Cond.fieldLink RX12 240 "CloneVolumesModel" "keyAsked" "[C" ∈ lw_gd := zm (lw_g_7 (List.mem_of_getElem? (i := 1) (by decide +kernel))) rfl
theorem fl_X12_243 : Cond.fieldLink RX12 243 "CloneVolumesModel" "qCodes" "[I" ∈ lw_gd := zm (lw_g_7 (List.mem_of_getElem? (i := 2) (by decide +kernel))) rfl
theorem fl_X12_246 : Cond.fieldLink RX12 246 "CloneVolumesModel" "qWait" "[I" ∈ lw_gd := zm (lw_g_7 (List.mem_of_getElem? (i := 4) (by decide +kernel))) rfl
theorem fl_X12_249 : Cond.fieldLink RX12 249 "CloneVolumesModel" "qPile" "[J" ∈ lw_gd := zm (lw_g_7 (List.mem_of_getElem? (i := 8) (by decide +kernel))) rfl
theorem fl_X12_252 : Cond.fieldLink RX12 252 "CloneVolumesModel" "octet" "[I" ∈ lw_gd := zm (lw_g_7 (List.mem_of_getElem? (i := 12) (by decide +kernel))) rfl
theorem fl_X12_255 : Cond.fieldLink RX12 255 "CloneVolumesModel" "laid" "[I" ∈ lw_gd := zm (lw_g_7 (List.mem_of_getElem? (i := 14) (by decide +kernel))) rfl
theorem fl_X12_258 : Cond.fieldLink RX12 258 "CloneVolumesModel" "recount" "[I" ∈ lw_gd := zm (lw_g_7 (List.mem_of_getElem? (i := 16) (by decide +kernel))) rfl
theorem eX12_init_1485 : decode cX12_init 1485 = .ok (.aload_n 0, 1) ∧ decode cX12_init 1486 = .ok (.bipush 6, 2) ∧ decode cX12_init 1488 = .ok (.newarray .char, 2) ∧ decode cX12_init 1490 = .ok (.dup, 1) ∧ decode cX12_init 1491 = .ok (.iconst 0, 1) ∧ decode cX12_init 1492 = .ok (.bipush 110, 2) ∧ decode cX12_init 1494 = .ok (.castore, 1) ∧ decode cX12_init 1495 = .ok (.dup, 1) := by decide +kernel
theorem eX12_init_1496 : decode cX12_init 1496 = .ok (.iconst 1, 1) ∧ decode cX12_init 1497 = .ok (.bipush 117, 2) ∧ decode cX12_init 1499 = .ok (.castore, 1) ∧ decode cX12_init 1500 = .ok (.dup, 1) ∧ decode cX12_init 1501 = .ok (.iconst 2, 1) ∧ decode cX12_init 1502 = .ok (.bipush 109, 2) ∧ decode cX12_init 1504 = .ok (.castore, 1) ∧ decode cX12_init 1505 = .ok (.dup, 1) := by decide +kernel
theorem eX12_init_1506 : decode cX12_init 1506 = .ok (.iconst 3, 1) ∧ decode cX12_init 1507 = .ok (.bipush 98, 2) ∧ decode cX12_init 1509 = .ok (.castore, 1) ∧ decode cX12_init 1510 = .ok (.dup, 1) ∧ decode cX12_init 1511 = .ok (.iconst 4, 1) ∧ decode cX12_init 1512 = .ok (.bipush 101, 2) ∧ decode cX12_init 1514 = .ok (.castore, 1) ∧ decode cX12_init 1515 = .ok (.dup, 1) := by decide +kernel
theorem eX12_init_1516 : decode cX12_init 1516 = .ok (.iconst 5, 1) ∧ decode cX12_init 1517 = .ok (.bipush 114, 2) ∧ decode cX12_init 1519 = .ok (.castore, 1) ∧ decode cX12_init 1520 = .ok (.putfield 225, 3) ∧ decode cX12_init 1523 = .ok (.aload_n 0, 1) ∧ decode cX12_init 1524 = .ok (.iconst 5, 1) ∧ decode cX12_init 1525 = .ok (.newarray .char, 2) ∧ decode cX12_init 1527 = .ok (.dup, 1) := by decide +kernel
theorem eX12_init_1528 : decode cX12_init 1528 = .ok (.iconst 0, 1) ∧ decode cX12_init 1529 = .ok (.bipush 99, 2) ∧ decode cX12_init 1531 = .ok (.castore, 1) ∧ decode cX12_init 1532 = .ok (.dup, 1) ∧ decode cX12_init 1533 = .ok (.iconst 1, 1) ∧ decode cX12_init 1534 = .ok (.bipush 111, 2) ∧ decode cX12_init 1536 = .ok (.castore, 1) ∧ decode cX12_init 1537 = .ok (.dup, 1) := by decide +kernel
theorem eX12_init_1538 : decode cX12_init 1538 = .ok (.iconst 2, 1) ∧ decode cX12_init 1539 = .ok (.bipush 117, 2) ∧ decode cX12_init 1541 = .ok (.castore, 1) ∧ decode cX12_init 1542 = .ok (.dup, 1) ∧ decode cX12_init 1543 = .ok (.iconst 3, 1) ∧ decode cX12_init 1544 = .ok (.bipush 110, 2) ∧ decode cX12_init 1546 = .ok (.castore, 1) ∧ decode cX12_init 1547 = .ok (.dup, 1) := by decide +kernel
theorem eX12_init_1548 : decode cX12_init 1548 = .ok (.iconst 4, 1) ∧ decode cX12_init 1549 = .ok (.bipush 116, 2) ∧ decode cX12_init 1551 = .ok (.castore, 1) ∧ decode cX12_init 1552 = .ok (.putfield 228, 3) ∧ decode cX12_init 1555 = .ok (.aload_n 0, 1) ∧ decode cX12_init 1556 = .ok (.iconst 5, 1) ∧ decode cX12_init 1557 = .ok (.newarray .char, 2) ∧ decode cX12_init 1559 = .ok (.dup, 1) := by decide +kernel
theorem eX12_init_1560 : decode cX12_init 1560 = .ok (.iconst 0, 1) ∧ decode cX12_init 1561 = .ok (.bipush 102, 2) ∧ decode cX12_init 1563 = .ok (.castore, 1) ∧ decode cX12_init 1564 = .ok (.dup, 1) ∧ decode cX12_init 1565 = .ok (.iconst 1, 1) ∧ decode cX12_init 1566 = .ok (.bipush 114, 2) ∧ decode cX12_init 1568 = .ok (.castore, 1) ∧ decode cX12_init 1569 = .ok (.dup, 1) := by decide +kernel
theorem eX12_init_1570 : decode cX12_init 1570 = .ok (.iconst 2, 1) ∧ decode cX12_init 1571 = .ok (.bipush 101, 2) ∧ decode cX12_init 1573 = .ok (.castore, 1) ∧ decode cX12_init 1574 = .ok (.dup, 1) ∧ decode cX12_init 1575 = .ok (.iconst 3, 1) ∧ decode cX12_init 1576 = .ok (.bipush 115, 2) ∧ decode cX12_init 1578 = .ok (.castore, 1) ∧ decode cX12_init 1579 = .ok (.dup, 1) := by decide +kernel
theorem eX12_init_1580 : decode cX12_init 1580 = .ok (.iconst 4, 1) ∧ decode cX12_init 1581 = .ok (.bipush 104, 2) ∧ decode cX12_init 1583 = .ok (.castore, 1) ∧ decode cX12_init 1584 = .ok (.putfield 231, 3) ∧ decode cX12_init 1587 = .ok (.aload_n 0, 1) ∧ decode cX12_init 1588 = .ok (.iconst 5, 1) ∧ decode cX12_init 1589 = .ok (.newarray .char, 2) ∧ decode cX12_init 1591 = .ok (.dup, 1) := by decide +kernel
theorem eX12_init_1592 : decode cX12_init 1592 = .ok (.iconst 0, 1) ∧ decode cX12_init 1593 = .ok (.bipush 115, 2) ∧ decode cX12_init 1595 = .ok (.castore, 1) ∧ decode cX12_init 1596 = .ok (.dup, 1) ∧ decode cX12_init 1597 = .ok (.iconst 1, 1) ∧ decode cX12_init 1598 = .ok (.bipush 97, 2) ∧ decode cX12_init 1600 = .ok (.castore, 1) ∧ decode cX12_init 1601 = .ok (.dup, 1) := by decide +kernel
theorem eX12_init_1602 : decode cX12_init 1602 = .ok (.iconst 2, 1) ∧ decode cX12_init 1603 = .ok (.bipush 118, 2) ∧ decode cX12_init 1605 = .ok (.castore, 1) ∧ decode cX12_init 1606 = .ok (.dup, 1) ∧ decode cX12_init 1607 = .ok (.iconst 3, 1) ∧ decode cX12_init 1608 = .ok (.bipush 101, 2) ∧ decode cX12_init 1610 = .ok (.castore, 1) ∧ decode cX12_init 1611 = .ok (.dup, 1) := by decide +kernel
theorem eX12_init_1612 : decode cX12_init 1612 = .ok (.iconst 4, 1) ∧ decode cX12_init 1613 = .ok (.bipush 100, 2) ∧ decode cX12_init 1615 = .ok (.castore, 1) ∧ decode cX12_init 1616 = .ok (.putfield 234, 3) ∧ decode cX12_init 1619 = .ok (.aload_n 0, 1) ∧ decode cX12_init 1620 = .ok (.iconst 4, 1) ∧ decode cX12_init 1621 = .ok (.newarray .char, 2) ∧ decode cX12_init 1623 = .ok (.dup, 1) := by decide +kernel
theorem eX12_init_1624 : decode cX12_init 1624 = .ok (.iconst 0, 1) ∧ decode cX12_init 1625 = .ok (.bipush 114, 2) ∧ decode cX12_init 1627 = .ok (.castore, 1) ∧ decode cX12_init 1628 = .ok (.dup, 1) ∧ decode cX12_init 1629 = .ok (.iconst 1, 1) ∧ decode cX12_init 1630 = .ok (.bipush 101, 2) ∧ decode cX12_init 1632 = .ok (.castore, 1) ∧ decode cX12_init 1633 = .ok (.dup, 1) := by decide +kernel
theorem eX12_init_1634 : decode cX12_init 1634 = .ok (.iconst 2, 1) ∧ decode cX12_init 1635 = .ok (.bipush 102, 2) ∧ decode cX12_init 1637 = .ok (.castore, 1) ∧ decode cX12_init 1638 = .ok (.dup, 1) ∧ decode cX12_init 1639 = .ok (.iconst 3, 1) ∧ decode cX12_init 1640 = .ok (.bipush 115, 2) ∧ decode cX12_init 1642 = .ok (.castore, 1) ∧ decode cX12_init 1643 = .ok (.putfield 237, 3) := by decide +kernel
theorem eX12_init_1646 : decode cX12_init 1646 = .ok (.aload_n 0, 1) ∧ decode cX12_init 1647 = .ok (.iconst 3, 1) ∧ decode cX12_init 1648 = .ok (.newarray .char, 2) ∧ decode cX12_init 1650 = .ok (.dup, 1) ∧ decode cX12_init 1651 = .ok (.iconst 0, 1) ∧ decode cX12_init 1652 = .ok (.bipush 107, 2) ∧ decode cX12_init 1654 = .ok (.castore, 1) ∧ decode cX12_init 1655 = .ok (.dup, 1) := by decide +kernel
theorem eX12_init_1656 : decode cX12_init 1656 = .ok (.iconst 1, 1) ∧ decode cX12_init 1657 = .ok (.bipush 101, 2) ∧ decode cX12_init 1659 = .ok (.castore, 1) ∧ decode cX12_init 1660 = .ok (.dup, 1) ∧ decode cX12_init 1661 = .ok (.iconst 2, 1) ∧ decode cX12_init 1662 = .ok (.bipush 121, 2) ∧ decode cX12_init 1664 = .ok (.castore, 1) ∧ decode cX12_init 1665 = .ok (.putfield 240, 3) := by decide +kernel
theorem eX12_init_1668 : decode cX12_init 1668 = .ok (.aload_n 0, 1) ∧ decode cX12_init 1669 = .ok (.sipush 1700, 3) ∧ decode cX12_init 1672 = .ok (.newarray .int, 2) ∧ decode cX12_init 1674 = .ok (.putfield 243, 3) ∧ decode cX12_init 1677 = .ok (.aload_n 0, 1) ∧ decode cX12_init 1678 = .ok (.sipush 1700, 3) ∧ decode cX12_init 1681 = .ok (.newarray .int, 2) ∧ decode cX12_init 1683 = .ok (.putfield 246, 3) := by decide +kernel
theorem eX12_init_1686 : decode cX12_init 1686 = .ok (.aload_n 0, 1) ∧ decode cX12_init 1687 = .ok (.sipush 1700, 3) ∧ decode cX12_init 1690 = .ok (.newarray .long, 2) ∧ decode cX12_init 1692 = .ok (.putfield 249, 3) ∧ decode cX12_init 1695 = .ok (.aload_n 0, 1) ∧ decode cX12_init 1696 = .ok (.sipush 1364, 3) ∧ decode cX12_init 1699 = .ok (.newarray .int, 2) ∧ decode cX12_init 1701 = .ok (.putfield 252, 3) := by decide +kernel
theorem eX12_init_1704 : decode cX12_init 1704 = .ok (.aload_n 0, 1) ∧ decode cX12_init 1705 = .ok (.sipush 785, 3) ∧ decode cX12_init 1708 = .ok (.newarray .int, 2) ∧ decode cX12_init 1710 = .ok (.putfield 255, 3) ∧ decode cX12_init 1713 = .ok (.aload_n 0, 1) ∧ decode cX12_init 1714 = .ok (.bipush 48, 2) ∧ decode cX12_init 1716 = .ok (.newarray .int, 2) ∧ decode cX12_init 1718 = .ok (.putfield 258, 3) := by decide +kernel
set_option maxHeartbeats 4000000 in
set_option maxRecDepth 100000 in
theorem cM_19 {p : Program} {l : Launch} {e : Env} {R : Room} {s : State} {m : MethodId} {args : Array Value} {below : List Frame} {meth : Method} {c : Code} {Q : State → Prop} {D : va_G} {A : Nat → Prop} {ls : Array Slot} {h0 : Nat} {T : va_W} (hx : p.tables.exec = Jvm.exec) (hb : c.code = cX12_init) (ht : ∀ w ∈ lw_gd, w.before args s = true) (hown : s.vm.findClass RX12 = some m.cls) (hin : meth.name = "<init>") (hK : va_K D vwCl (TY D) s) (hA : ∀ q : Nat, s.heap.size ≤ q → A q) (hRc : 80 ≤ R.cells) (hRs : 35050 ≤ R.slots) (hl : lv_has ls 1 [(0, .ref h0)]) {fs : List Value} (hlen : fs.length = 116) {H : Heap} {locs : List Loc} (hP : va_P D vwCl ((h0, .inr (12, fs)) :: T) H) (hD : va_D A ((h0, .inr (12, fs)) :: T)) (hS : va_S A s.heap H locs)
    (kk : ∀ (q_141 : Nat) (q_139 : Nat) (fs' : List Value) (H : Heap) (locs : List Loc), fs' = ((fs.set 95 (.ref q_139)).set 96 (.ref q_141)) → va_P D vwCl ((h0, .inr (12, fs')) :: (q_141, .inl (D.1 14, 5, .inl (fun j => i2 (upZ (upZ (upZ (upZ (upZ (fun _ => 0) 0 99) 1 111) 2 117) 3 110) 4 116 j)))) :: (q_139, .inl (D.1 14, 6, .inl (fun j => i2 (upZ (upZ (upZ (upZ (upZ (upZ (fun _ => 0) 0 110) 1 117) 2 109) 3 98) 4 101) 5 114 j)))) :: T) H → va_D A ((h0, .inr (12, fs')) :: (q_141, .inl (D.1 14, 5, .inl (fun j => i2 (upZ (upZ (upZ (upZ (upZ (fun _ => 0) 0 99) 1 111) 2 117) 3 110) 4 116 j)))) :: (q_139, .inl (D.1 14, 6, .inl (fun j => i2 (upZ (upZ (upZ (upZ (upZ (upZ (fun _ => 0) 0 110) 1 117) 2 109) 3 98) 4 101) 5 114 j)))) :: T) → va_S A s.heap H locs → W p l e R s m args below meth c H locs 70 27736 Q (F0 m 1555 ls [])) : W p l e R s m args below meth c H locs 68 27725 Q (F0 m 1485 ls []) := by
  refine lv_aload_n hx hb eX12_init_1485.1 rfl (lv_at hl 0 rfl) ?_
  refine lv_bipush (v := 6) hx hb eX12_init_1485.2.1 (by decide) ?_
  refine va_newa (atype := .char) (a0 := (6, .inl (fun _ => 0))) (ty := .char) (N' := 6) hx hb (ht _ ac_char) rfl hK hP hD hS hA (fun _ => rfl) (by decide) (by decide) (by decide) (Nat.le_trans (Nat.le_of_ble_eq_true rfl) hRc) (Nat.le_trans (Nat.le_of_ble_eq_true rfl) hRs) eX12_init_1485.2.2.1 (fun q_139 cA H hK2 hP hD hS => ?_)
  obtain rfl := z_cls_char hK hK2
  refine W.widen (k := 69) (n := 27731) (Nat.le_of_ble_eq_true rfl) (Nat.le_of_ble_eq_true rfl) ?_
  obtain ⟨hP, hD⟩ := z_rot hP hD
  have hP : va_P D vwCl ((h0, .inr (12, fs)) :: (q_139, .inl (D.1 14, 6, .inl (fun _ => i2 0))) :: T) H := hP
  have hD : va_D A ((h0, .inr (12, fs)) :: (q_139, .inl (D.1 14, 6, .inl (fun _ => i2 0))) :: T) := hD
  refine lv_dup hx hb eX12_init_1485.2.2.2.1 rfl ?_
  refine lv_iconst (v := 0) hx hb eX12_init_1485.2.2.2.2.1 (by decide) ?_
  refine lv_bipush (v := 110) hx hb eX12_init_1485.2.2.2.2.2.1 (by decide) ?_
  refine va_cast hx hb hK hP hD hS 1 1 rfl rfl (z_in (by decide) (by decide)) eX12_init_1485.2.2.2.2.2.2.1 (fun H locs hP hD hS => ?_)
  rw [c_i2 (k := Int32.toNatClampNeg 0) (c := vp_nar .char 110) (v := 110) (by decide)] at hP hD
  have hP : va_P D vwCl (_ :: (q_139, .inl (_, _, .inl (fun j => i2 (upZ _ 0 110 j)))) :: _) H := hP
  have hD : va_D A (_ :: (q_139, .inl (_, _, .inl (fun j => i2 (upZ _ 0 110 j)))) :: _) := hD
  refine lv_dup hx hb eX12_init_1485.2.2.2.2.2.2.2 rfl ?_
  refine lv_iconst (v := 1) hx hb eX12_init_1496.1 (by decide) ?_
  refine lv_bipush (v := 117) hx hb eX12_init_1496.2.1 (by decide) ?_
  refine va_cast hx hb hK hP hD hS 1 1 rfl rfl (z_in (by decide) (by decide)) eX12_init_1496.2.2.1 (fun H locs hP hD hS => ?_)
  rw [c_i2 (k := Int32.toNatClampNeg 1) (c := vp_nar .char 117) (v := 117) (by decide)] at hP hD
  have hP : va_P D vwCl (_ :: (q_139, .inl (_, _, .inl (fun j => i2 (upZ _ 1 117 j)))) :: _) H := hP
  have hD : va_D A (_ :: (q_139, .inl (_, _, .inl (fun j => i2 (upZ _ 1 117 j)))) :: _) := hD
  refine lv_dup hx hb eX12_init_1496.2.2.2.1 rfl ?_
  refine lv_iconst (v := 2) hx hb eX12_init_1496.2.2.2.2.1 (by decide) ?_
  refine lv_bipush (v := 109) hx hb eX12_init_1496.2.2.2.2.2.1 (by decide) ?_
  refine va_cast hx hb hK hP hD hS 1 1 rfl rfl (z_in (by decide) (by decide)) eX12_init_1496.2.2.2.2.2.2.1 (fun H locs hP hD hS => ?_)
  rw [c_i2 (k := Int32.toNatClampNeg 2) (c := vp_nar .char 109) (v := 109) (by decide)] at hP hD
  have hP : va_P D vwCl (_ :: (q_139, .inl (_, _, .inl (fun j => i2 (upZ _ 2 109 j)))) :: _) H := hP
  have hD : va_D A (_ :: (q_139, .inl (_, _, .inl (fun j => i2 (upZ _ 2 109 j)))) :: _) := hD
  refine lv_dup hx hb eX12_init_1496.2.2.2.2.2.2.2 rfl ?_
  refine lv_iconst (v := 3) hx hb eX12_init_1506.1 (by decide) ?_
  refine lv_bipush (v := 98) hx hb eX12_init_1506.2.1 (by decide) ?_
  refine va_cast hx hb hK hP hD hS 1 1 rfl rfl (z_in (by decide) (by decide)) eX12_init_1506.2.2.1 (fun H locs hP hD hS => ?_)
  rw [c_i2 (k := Int32.toNatClampNeg 3) (c := vp_nar .char 98) (v := 98) (by decide)] at hP hD
  have hP : va_P D vwCl (_ :: (q_139, .inl (_, _, .inl (fun j => i2 (upZ _ 3 98 j)))) :: _) H := hP
  have hD : va_D A (_ :: (q_139, .inl (_, _, .inl (fun j => i2 (upZ _ 3 98 j)))) :: _) := hD
  refine lv_dup hx hb eX12_init_1506.2.2.2.1 rfl ?_
  refine lv_iconst (v := 4) hx hb eX12_init_1506.2.2.2.2.1 (by decide) ?_
  refine lv_bipush (v := 101) hx hb eX12_init_1506.2.2.2.2.2.1 (by decide) ?_
  refine va_cast hx hb hK hP hD hS 1 1 rfl rfl (z_in (by decide) (by decide)) eX12_init_1506.2.2.2.2.2.2.1 (fun H locs hP hD hS => ?_)
  rw [c_i2 (k := Int32.toNatClampNeg 4) (c := vp_nar .char 101) (v := 101) (by decide)] at hP hD
  have hP : va_P D vwCl (_ :: (q_139, .inl (_, _, .inl (fun j => i2 (upZ _ 4 101 j)))) :: _) H := hP
  have hD : va_D A (_ :: (q_139, .inl (_, _, .inl (fun j => i2 (upZ _ 4 101 j)))) :: _) := hD
  refine lv_dup hx hb eX12_init_1506.2.2.2.2.2.2.2 rfl ?_
  refine lv_iconst (v := 5) hx hb eX12_init_1516.1 (by decide) ?_
  refine lv_bipush (v := 114) hx hb eX12_init_1516.2.1 (by decide) ?_
  refine va_cast hx hb hK hP hD hS 1 1 rfl rfl (z_in (by decide) (by decide)) eX12_init_1516.2.2.1 (fun H locs hP hD hS => ?_)
  rw [c_i2 (k := Int32.toNatClampNeg 5) (c := vp_nar .char 114) (v := 114) (by decide)] at hP hD
  have hP : va_P D vwCl (_ :: (q_139, .inl (_, _, .inl (fun j => i2 (upZ _ 5 114 j)))) :: _) H := hP
  have hD : va_D A (_ :: (q_139, .inl (_, _, .inl (fun j => i2 (upZ _ 5 114 j)))) :: _) := hD
  refine va_putF (D := D) (ci := 12) (v := .ref q_139) (ty := .array .char) (C := RX12) (T := TX12) (N := 116) hx hb ht inX12 tyX12 tyX12_ok nmX12 hown hK hP hD hS 0 rfl rfl 95 (by decide) (ht (.fieldLink RX12 225 "CloneVolumesModel" "numberAsked" "[C") fl_X12_225) (fun _ h9 => h9) rfl hin rfl (by decide +kernel) rfl rfl (by rw [hlen]; decide) eX12_init_1516.2.2.2.1 (fun H locs hP hD hS => ?_)
  have hP : va_P D vwCl ((h0, .inr (12, (fs.set 95 (.ref q_139)))) :: _) H := hP
  have hD : va_D A ((h0, .inr (12, (fs.set 95 (.ref q_139)))) :: _) := hD
  generalize hfs_140 : fs.set 95 (.ref q_139) = fs_140 at hP hD
  have hlen : fs_140.length = 116 := by rw [← hfs_140, List.length_set]; exact hlen
  have hP : va_P D vwCl ((h0, .inr (12, fs_140)) :: _) H := hP
  have hD : va_D A ((h0, .inr (12, fs_140)) :: _) := hD
  refine lv_aload_n hx hb eX12_init_1516.2.2.2.2.1 rfl (lv_at hl 0 rfl) ?_
  refine lv_iconst (v := 5) hx hb eX12_init_1516.2.2.2.2.2.1 (by decide) ?_
  refine va_newa (atype := .char) (a0 := (5, .inl (fun _ => 0))) (ty := .char) (N' := 5) hx hb (ht _ ac_char) rfl hK hP hD hS hA (fun _ => rfl) (by decide) (by decide) (by decide) (Nat.le_trans (Nat.le_of_ble_eq_true rfl) hRc) (Nat.le_trans (Nat.le_of_ble_eq_true rfl) hRs) eX12_init_1516.2.2.2.2.2.2.1 (fun q_141 cA H hK2 hP hD hS => ?_)
  obtain rfl := z_cls_char hK hK2
  refine W.widen (k := 70) (n := 27736) (Nat.le_of_ble_eq_true rfl) (Nat.le_of_ble_eq_true rfl) ?_
  obtain ⟨hP, hD⟩ := z_rot hP hD
  have hP : va_P D vwCl ((h0, .inr (12, fs_140)) :: (q_141, .inl (D.1 14, 5, .inl (fun _ => i2 0))) :: _) H := hP
  have hD : va_D A ((h0, .inr (12, fs_140)) :: (q_141, .inl (D.1 14, 5, .inl (fun _ => i2 0))) :: _) := hD
  refine lv_dup hx hb eX12_init_1516.2.2.2.2.2.2.2 rfl ?_
  refine lv_iconst (v := 0) hx hb eX12_init_1528.1 (by decide) ?_
  refine lv_bipush (v := 99) hx hb eX12_init_1528.2.1 (by decide) ?_
  refine va_cast hx hb hK hP hD hS 1 1 rfl rfl (z_in (by decide) (by decide)) eX12_init_1528.2.2.1 (fun H locs hP hD hS => ?_)
  rw [c_i2 (k := Int32.toNatClampNeg 0) (c := vp_nar .char 99) (v := 99) (by decide)] at hP hD
  have hP : va_P D vwCl (_ :: (q_141, .inl (_, _, .inl (fun j => i2 (upZ _ 0 99 j)))) :: _) H := hP
  have hD : va_D A (_ :: (q_141, .inl (_, _, .inl (fun j => i2 (upZ _ 0 99 j)))) :: _) := hD
  refine lv_dup hx hb eX12_init_1528.2.2.2.1 rfl ?_
  refine lv_iconst (v := 1) hx hb eX12_init_1528.2.2.2.2.1 (by decide) ?_
  refine lv_bipush (v := 111) hx hb eX12_init_1528.2.2.2.2.2.1 (by decide) ?_
  refine va_cast hx hb hK hP hD hS 1 1 rfl rfl (z_in (by decide) (by decide)) eX12_init_1528.2.2.2.2.2.2.1 (fun H locs hP hD hS => ?_)
  rw [c_i2 (k := Int32.toNatClampNeg 1) (c := vp_nar .char 111) (v := 111) (by decide)] at hP hD
  have hP : va_P D vwCl (_ :: (q_141, .inl (_, _, .inl (fun j => i2 (upZ _ 1 111 j)))) :: _) H := hP
  have hD : va_D A (_ :: (q_141, .inl (_, _, .inl (fun j => i2 (upZ _ 1 111 j)))) :: _) := hD
  refine lv_dup hx hb eX12_init_1528.2.2.2.2.2.2.2 rfl ?_
  refine lv_iconst (v := 2) hx hb eX12_init_1538.1 (by decide) ?_
  refine lv_bipush (v := 117) hx hb eX12_init_1538.2.1 (by decide) ?_
  refine va_cast hx hb hK hP hD hS 1 1 rfl rfl (z_in (by decide) (by decide)) eX12_init_1538.2.2.1 (fun H locs hP hD hS => ?_)
  rw [c_i2 (k := Int32.toNatClampNeg 2) (c := vp_nar .char 117) (v := 117) (by decide)] at hP hD
  have hP : va_P D vwCl (_ :: (q_141, .inl (_, _, .inl (fun j => i2 (upZ _ 2 117 j)))) :: _) H := hP
  have hD : va_D A (_ :: (q_141, .inl (_, _, .inl (fun j => i2 (upZ _ 2 117 j)))) :: _) := hD
  refine lv_dup hx hb eX12_init_1538.2.2.2.1 rfl ?_
  refine lv_iconst (v := 3) hx hb eX12_init_1538.2.2.2.2.1 (by decide) ?_
  refine lv_bipush (v := 110) hx hb eX12_init_1538.2.2.2.2.2.1 (by decide) ?_
  refine va_cast hx hb hK hP hD hS 1 1 rfl rfl (z_in (by decide) (by decide)) eX12_init_1538.2.2.2.2.2.2.1 (fun H locs hP hD hS => ?_)
  rw [c_i2 (k := Int32.toNatClampNeg 3) (c := vp_nar .char 110) (v := 110) (by decide)] at hP hD
  have hP : va_P D vwCl (_ :: (q_141, .inl (_, _, .inl (fun j => i2 (upZ _ 3 110 j)))) :: _) H := hP
  have hD : va_D A (_ :: (q_141, .inl (_, _, .inl (fun j => i2 (upZ _ 3 110 j)))) :: _) := hD
  refine lv_dup hx hb eX12_init_1538.2.2.2.2.2.2.2 rfl ?_
  refine lv_iconst (v := 4) hx hb eX12_init_1548.1 (by decide) ?_
  refine lv_bipush (v := 116) hx hb eX12_init_1548.2.1 (by decide) ?_
  refine va_cast hx hb hK hP hD hS 1 1 rfl rfl (z_in (by decide) (by decide)) eX12_init_1548.2.2.1 (fun H locs hP hD hS => ?_)
  rw [c_i2 (k := Int32.toNatClampNeg 4) (c := vp_nar .char 116) (v := 116) (by decide)] at hP hD
  have hP : va_P D vwCl (_ :: (q_141, .inl (_, _, .inl (fun j => i2 (upZ _ 4 116 j)))) :: _) H := hP
  have hD : va_D A (_ :: (q_141, .inl (_, _, .inl (fun j => i2 (upZ _ 4 116 j)))) :: _) := hD
  refine va_putF (D := D) (ci := 12) (v := .ref q_141) (ty := .array .char) (C := RX12) (T := TX12) (N := 116) hx hb ht inX12 tyX12 tyX12_ok nmX12 hown hK hP hD hS 0 rfl rfl 96 (by decide) (ht (.fieldLink RX12 228 "CloneVolumesModel" "countAsked" "[C") fl_X12_228) (fun _ h9 => h9) rfl hin rfl (by decide +kernel) rfl rfl (by rw [hlen]; decide) eX12_init_1548.2.2.2.1 (fun H locs hP hD hS => ?_)
  have hP : va_P D vwCl ((h0, .inr (12, (fs_140.set 96 (.ref q_141)))) :: _) H := hP
  have hD : va_D A ((h0, .inr (12, (fs_140.set 96 (.ref q_141)))) :: _) := hD
  generalize hfs_142 : fs_140.set 96 (.ref q_141) = fs_142 at hP hD
  have hlen : fs_142.length = 116 := by rw [← hfs_142, List.length_set]; exact hlen
  have hP : va_P D vwCl ((h0, .inr (12, fs_142)) :: _) H := hP
  have hD : va_D A ((h0, .inr (12, fs_142)) :: _) := hD
  exact kk q_141 q_139 fs_142 _ _ (by rw [← hfs_142, ← hfs_140]) hP hD hS
set_option maxHeartbeats 4000000 in
set_option maxRecDepth 100000 in
theorem cM_20 {p : Program} {l : Launch} {e : Env} {R : Room} {s : State} {m : MethodId} {args : Array Value} {below : List Frame} {meth : Method} {c : Code} {Q : State → Prop} {D : va_G} {A : Nat → Prop} {ls : Array Slot} {h0 : Nat} {T : va_W} (hx : p.tables.exec = Jvm.exec) (hb : c.code = cX12_init) (ht : ∀ w ∈ lw_gd, w.before args s = true) (hown : s.vm.findClass RX12 = some m.cls) (hin : meth.name = "<init>") (hK : va_K D vwCl (TY D) s) (hA : ∀ q : Nat, s.heap.size ≤ q → A q) (hRc : 80 ≤ R.cells) (hRs : 35050 ≤ R.slots) (hl : lv_has ls 1 [(0, .ref h0)]) {fs : List Value} (hlen : fs.length = 116) {H : Heap} {locs : List Loc} (hP : va_P D vwCl ((h0, .inr (12, fs)) :: T) H) (hD : va_D A ((h0, .inr (12, fs)) :: T)) (hS : va_S A s.heap H locs)
    (kk : ∀ (q_145 : Nat) (q_143 : Nat) (fs' : List Value) (H : Heap) (locs : List Loc), fs' = ((fs.set 97 (.ref q_143)).set 98 (.ref q_145)) → va_P D vwCl ((h0, .inr (12, fs')) :: (q_145, .inl (D.1 14, 5, .inl (fun j => i2 (upZ (upZ (upZ (upZ (upZ (fun _ => 0) 0 115) 1 97) 2 118) 3 101) 4 100 j)))) :: (q_143, .inl (D.1 14, 5, .inl (fun j => i2 (upZ (upZ (upZ (upZ (upZ (fun _ => 0) 0 102) 1 114) 2 101) 3 115) 4 104 j)))) :: T) H → va_D A ((h0, .inr (12, fs')) :: (q_145, .inl (D.1 14, 5, .inl (fun j => i2 (upZ (upZ (upZ (upZ (upZ (fun _ => 0) 0 115) 1 97) 2 118) 3 101) 4 100 j)))) :: (q_143, .inl (D.1 14, 5, .inl (fun j => i2 (upZ (upZ (upZ (upZ (upZ (fun _ => 0) 0 102) 1 114) 2 101) 3 115) 4 104 j)))) :: T) → va_S A s.heap H locs → W p l e R s m args below meth c H locs 72 27746 Q (F0 m 1619 ls [])) : W p l e R s m args below meth c H locs 70 27736 Q (F0 m 1555 ls []) := by
  refine lv_aload_n hx hb eX12_init_1548.2.2.2.2.1 rfl (lv_at hl 0 rfl) ?_
  refine lv_iconst (v := 5) hx hb eX12_init_1548.2.2.2.2.2.1 (by decide) ?_
  refine va_newa (atype := .char) (a0 := (5, .inl (fun _ => 0))) (ty := .char) (N' := 5) hx hb (ht _ ac_char) rfl hK hP hD hS hA (fun _ => rfl) (by decide) (by decide) (by decide) (Nat.le_trans (Nat.le_of_ble_eq_true rfl) hRc) (Nat.le_trans (Nat.le_of_ble_eq_true rfl) hRs) eX12_init_1548.2.2.2.2.2.2.1 (fun q_143 cA H hK2 hP hD hS => ?_)
  obtain rfl := z_cls_char hK hK2
  refine W.widen (k := 71) (n := 27741) (Nat.le_of_ble_eq_true rfl) (Nat.le_of_ble_eq_true rfl) ?_
  obtain ⟨hP, hD⟩ := z_rot hP hD
  have hP : va_P D vwCl ((h0, .inr (12, fs)) :: (q_143, .inl (D.1 14, 5, .inl (fun _ => i2 0))) :: T) H := hP
  have hD : va_D A ((h0, .inr (12, fs)) :: (q_143, .inl (D.1 14, 5, .inl (fun _ => i2 0))) :: T) := hD
  refine lv_dup hx hb eX12_init_1548.2.2.2.2.2.2.2 rfl ?_
  refine lv_iconst (v := 0) hx hb eX12_init_1560.1 (by decide) ?_
  refine lv_bipush (v := 102) hx hb eX12_init_1560.2.1 (by decide) ?_
  refine va_cast hx hb hK hP hD hS 1 1 rfl rfl (z_in (by decide) (by decide)) eX12_init_1560.2.2.1 (fun H locs hP hD hS => ?_)
  rw [c_i2 (k := Int32.toNatClampNeg 0) (c := vp_nar .char 102) (v := 102) (by decide)] at hP hD
  have hP : va_P D vwCl (_ :: (q_143, .inl (_, _, .inl (fun j => i2 (upZ _ 0 102 j)))) :: _) H := hP
  have hD : va_D A (_ :: (q_143, .inl (_, _, .inl (fun j => i2 (upZ _ 0 102 j)))) :: _) := hD
  refine lv_dup hx hb eX12_init_1560.2.2.2.1 rfl ?_
  refine lv_iconst (v := 1) hx hb eX12_init_1560.2.2.2.2.1 (by decide) ?_
  refine lv_bipush (v := 114) hx hb eX12_init_1560.2.2.2.2.2.1 (by decide) ?_
  refine va_cast hx hb hK hP hD hS 1 1 rfl rfl (z_in (by decide) (by decide)) eX12_init_1560.2.2.2.2.2.2.1 (fun H locs hP hD hS => ?_)
  rw [c_i2 (k := Int32.toNatClampNeg 1) (c := vp_nar .char 114) (v := 114) (by decide)] at hP hD
  have hP : va_P D vwCl (_ :: (q_143, .inl (_, _, .inl (fun j => i2 (upZ _ 1 114 j)))) :: _) H := hP
  have hD : va_D A (_ :: (q_143, .inl (_, _, .inl (fun j => i2 (upZ _ 1 114 j)))) :: _) := hD
  refine lv_dup hx hb eX12_init_1560.2.2.2.2.2.2.2 rfl ?_
  refine lv_iconst (v := 2) hx hb eX12_init_1570.1 (by decide) ?_
  refine lv_bipush (v := 101) hx hb eX12_init_1570.2.1 (by decide) ?_
  refine va_cast hx hb hK hP hD hS 1 1 rfl rfl (z_in (by decide) (by decide)) eX12_init_1570.2.2.1 (fun H locs hP hD hS => ?_)
  rw [c_i2 (k := Int32.toNatClampNeg 2) (c := vp_nar .char 101) (v := 101) (by decide)] at hP hD
  have hP : va_P D vwCl (_ :: (q_143, .inl (_, _, .inl (fun j => i2 (upZ _ 2 101 j)))) :: _) H := hP
  have hD : va_D A (_ :: (q_143, .inl (_, _, .inl (fun j => i2 (upZ _ 2 101 j)))) :: _) := hD
  refine lv_dup hx hb eX12_init_1570.2.2.2.1 rfl ?_
  refine lv_iconst (v := 3) hx hb eX12_init_1570.2.2.2.2.1 (by decide) ?_
  refine lv_bipush (v := 115) hx hb eX12_init_1570.2.2.2.2.2.1 (by decide) ?_
  refine va_cast hx hb hK hP hD hS 1 1 rfl rfl (z_in (by decide) (by decide)) eX12_init_1570.2.2.2.2.2.2.1 (fun H locs hP hD hS => ?_)
  rw [c_i2 (k := Int32.toNatClampNeg 3) (c := vp_nar .char 115) (v := 115) (by decide)] at hP hD
  have hP : va_P D vwCl (_ :: (q_143, .inl (_, _, .inl (fun j => i2 (upZ _ 3 115 j)))) :: _) H := hP
  have hD : va_D A (_ :: (q_143, .inl (_, _, .inl (fun j => i2 (upZ _ 3 115 j)))) :: _) := hD
  refine lv_dup hx hb eX12_init_1570.2.2.2.2.2.2.2 rfl ?_
  refine lv_iconst (v := 4) hx hb eX12_init_1580.1 (by decide) ?_
  refine lv_bipush (v := 104) hx hb eX12_init_1580.2.1 (by decide) ?_
  refine va_cast hx hb hK hP hD hS 1 1 rfl rfl (z_in (by decide) (by decide)) eX12_init_1580.2.2.1 (fun H locs hP hD hS => ?_)
  rw [c_i2 (k := Int32.toNatClampNeg 4) (c := vp_nar .char 104) (v := 104) (by decide)] at hP hD
  have hP : va_P D vwCl (_ :: (q_143, .inl (_, _, .inl (fun j => i2 (upZ _ 4 104 j)))) :: _) H := hP
  have hD : va_D A (_ :: (q_143, .inl (_, _, .inl (fun j => i2 (upZ _ 4 104 j)))) :: _) := hD
  refine va_putF (D := D) (ci := 12) (v := .ref q_143) (ty := .array .char) (C := RX12) (T := TX12) (N := 116) hx hb ht inX12 tyX12 tyX12_ok nmX12 hown hK hP hD hS 0 rfl rfl 97 (by decide) (ht (.fieldLink RX12 231 "CloneVolumesModel" "freshAsked" "[C") fl_X12_231) (fun _ h9 => h9) rfl hin rfl (by decide +kernel) rfl rfl (by rw [hlen]; decide) eX12_init_1580.2.2.2.1 (fun H locs hP hD hS => ?_)
  have hP : va_P D vwCl ((h0, .inr (12, (fs.set 97 (.ref q_143)))) :: _) H := hP
  have hD : va_D A ((h0, .inr (12, (fs.set 97 (.ref q_143)))) :: _) := hD
  generalize hfs_144 : fs.set 97 (.ref q_143) = fs_144 at hP hD
  have hlen : fs_144.length = 116 := by rw [← hfs_144, List.length_set]; exact hlen
  have hP : va_P D vwCl ((h0, .inr (12, fs_144)) :: _) H := hP
  have hD : va_D A ((h0, .inr (12, fs_144)) :: _) := hD
  refine lv_aload_n hx hb eX12_init_1580.2.2.2.2.1 rfl (lv_at hl 0 rfl) ?_
  refine lv_iconst (v := 5) hx hb eX12_init_1580.2.2.2.2.2.1 (by decide) ?_
  refine va_newa (atype := .char) (a0 := (5, .inl (fun _ => 0))) (ty := .char) (N' := 5) hx hb (ht _ ac_char) rfl hK hP hD hS hA (fun _ => rfl) (by decide) (by decide) (by decide) (Nat.le_trans (Nat.le_of_ble_eq_true rfl) hRc) (Nat.le_trans (Nat.le_of_ble_eq_true rfl) hRs) eX12_init_1580.2.2.2.2.2.2.1 (fun q_145 cA H hK2 hP hD hS => ?_)
  obtain rfl := z_cls_char hK hK2
  refine W.widen (k := 72) (n := 27746) (Nat.le_of_ble_eq_true rfl) (Nat.le_of_ble_eq_true rfl) ?_
  obtain ⟨hP, hD⟩ := z_rot hP hD
  have hP : va_P D vwCl ((h0, .inr (12, fs_144)) :: (q_145, .inl (D.1 14, 5, .inl (fun _ => i2 0))) :: _) H := hP
  have hD : va_D A ((h0, .inr (12, fs_144)) :: (q_145, .inl (D.1 14, 5, .inl (fun _ => i2 0))) :: _) := hD
  refine lv_dup hx hb eX12_init_1580.2.2.2.2.2.2.2 rfl ?_
  refine lv_iconst (v := 0) hx hb eX12_init_1592.1 (by decide) ?_
  refine lv_bipush (v := 115) hx hb eX12_init_1592.2.1 (by decide) ?_
  refine va_cast hx hb hK hP hD hS 1 1 rfl rfl (z_in (by decide) (by decide)) eX12_init_1592.2.2.1 (fun H locs hP hD hS => ?_)
  rw [c_i2 (k := Int32.toNatClampNeg 0) (c := vp_nar .char 115) (v := 115) (by decide)] at hP hD
  have hP : va_P D vwCl (_ :: (q_145, .inl (_, _, .inl (fun j => i2 (upZ _ 0 115 j)))) :: _) H := hP
  have hD : va_D A (_ :: (q_145, .inl (_, _, .inl (fun j => i2 (upZ _ 0 115 j)))) :: _) := hD
  refine lv_dup hx hb eX12_init_1592.2.2.2.1 rfl ?_
  refine lv_iconst (v := 1) hx hb eX12_init_1592.2.2.2.2.1 (by decide) ?_
  refine lv_bipush (v := 97) hx hb eX12_init_1592.2.2.2.2.2.1 (by decide) ?_
  refine va_cast hx hb hK hP hD hS 1 1 rfl rfl (z_in (by decide) (by decide)) eX12_init_1592.2.2.2.2.2.2.1 (fun H locs hP hD hS => ?_)
  rw [c_i2 (k := Int32.toNatClampNeg 1) (c := vp_nar .char 97) (v := 97) (by decide)] at hP hD
  have hP : va_P D vwCl (_ :: (q_145, .inl (_, _, .inl (fun j => i2 (upZ _ 1 97 j)))) :: _) H := hP
  have hD : va_D A (_ :: (q_145, .inl (_, _, .inl (fun j => i2 (upZ _ 1 97 j)))) :: _) := hD
  refine lv_dup hx hb eX12_init_1592.2.2.2.2.2.2.2 rfl ?_
  refine lv_iconst (v := 2) hx hb eX12_init_1602.1 (by decide) ?_
  refine lv_bipush (v := 118) hx hb eX12_init_1602.2.1 (by decide) ?_
  refine va_cast hx hb hK hP hD hS 1 1 rfl rfl (z_in (by decide) (by decide)) eX12_init_1602.2.2.1 (fun H locs hP hD hS => ?_)
  rw [c_i2 (k := Int32.toNatClampNeg 2) (c := vp_nar .char 118) (v := 118) (by decide)] at hP hD
  have hP : va_P D vwCl (_ :: (q_145, .inl (_, _, .inl (fun j => i2 (upZ _ 2 118 j)))) :: _) H := hP
  have hD : va_D A (_ :: (q_145, .inl (_, _, .inl (fun j => i2 (upZ _ 2 118 j)))) :: _) := hD
  refine lv_dup hx hb eX12_init_1602.2.2.2.1 rfl ?_
  refine lv_iconst (v := 3) hx hb eX12_init_1602.2.2.2.2.1 (by decide) ?_
  refine lv_bipush (v := 101) hx hb eX12_init_1602.2.2.2.2.2.1 (by decide) ?_
  refine va_cast hx hb hK hP hD hS 1 1 rfl rfl (z_in (by decide) (by decide)) eX12_init_1602.2.2.2.2.2.2.1 (fun H locs hP hD hS => ?_)
  rw [c_i2 (k := Int32.toNatClampNeg 3) (c := vp_nar .char 101) (v := 101) (by decide)] at hP hD
  have hP : va_P D vwCl (_ :: (q_145, .inl (_, _, .inl (fun j => i2 (upZ _ 3 101 j)))) :: _) H := hP
  have hD : va_D A (_ :: (q_145, .inl (_, _, .inl (fun j => i2 (upZ _ 3 101 j)))) :: _) := hD
  refine lv_dup hx hb eX12_init_1602.2.2.2.2.2.2.2 rfl ?_
  refine lv_iconst (v := 4) hx hb eX12_init_1612.1 (by decide) ?_
  refine lv_bipush (v := 100) hx hb eX12_init_1612.2.1 (by decide) ?_
  refine va_cast hx hb hK hP hD hS 1 1 rfl rfl (z_in (by decide) (by decide)) eX12_init_1612.2.2.1 (fun H locs hP hD hS => ?_)
  rw [c_i2 (k := Int32.toNatClampNeg 4) (c := vp_nar .char 100) (v := 100) (by decide)] at hP hD
  have hP : va_P D vwCl (_ :: (q_145, .inl (_, _, .inl (fun j => i2 (upZ _ 4 100 j)))) :: _) H := hP
  have hD : va_D A (_ :: (q_145, .inl (_, _, .inl (fun j => i2 (upZ _ 4 100 j)))) :: _) := hD
  refine va_putF (D := D) (ci := 12) (v := .ref q_145) (ty := .array .char) (C := RX12) (T := TX12) (N := 116) hx hb ht inX12 tyX12 tyX12_ok nmX12 hown hK hP hD hS 0 rfl rfl 98 (by decide) (ht (.fieldLink RX12 234 "CloneVolumesModel" "savedAsked" "[C") fl_X12_234) (fun _ h9 => h9) rfl hin rfl (by decide +kernel) rfl rfl (by rw [hlen]; decide) eX12_init_1612.2.2.2.1 (fun H locs hP hD hS => ?_)
  have hP : va_P D vwCl ((h0, .inr (12, (fs_144.set 98 (.ref q_145)))) :: _) H := hP
  have hD : va_D A ((h0, .inr (12, (fs_144.set 98 (.ref q_145)))) :: _) := hD
  generalize hfs_146 : fs_144.set 98 (.ref q_145) = fs_146 at hP hD
  have hlen : fs_146.length = 116 := by rw [← hfs_146, List.length_set]; exact hlen
  have hP : va_P D vwCl ((h0, .inr (12, fs_146)) :: _) H := hP
  have hD : va_D A ((h0, .inr (12, fs_146)) :: _) := hD
  exact kk q_145 q_143 fs_146 _ _ (by rw [← hfs_146, ← hfs_144]) hP hD hS
set_option maxHeartbeats 4000000 in
set_option maxRecDepth 100000 in
theorem cM_21 {p : Program} {l : Launch} {e : Env} {R : Room} {s : State} {m : MethodId} {args : Array Value} {below : List Frame} {meth : Method} {c : Code} {Q : State → Prop} {D : va_G} {A : Nat → Prop} {ls : Array Slot} {h0 : Nat} {T : va_W} (hx : p.tables.exec = Jvm.exec) (hb : c.code = cX12_init) (ht : ∀ w ∈ lw_gd, w.before args s = true) (hown : s.vm.findClass RX12 = some m.cls) (hin : meth.name = "<init>") (hK : va_K D vwCl (TY D) s) (hA : ∀ q : Nat, s.heap.size ≤ q → A q) (hRc : 80 ≤ R.cells) (hRs : 35050 ≤ R.slots) (hl : lv_has ls 1 [(0, .ref h0)]) {fs : List Value} (hlen : fs.length = 116) {H : Heap} {locs : List Loc} (hP : va_P D vwCl ((h0, .inr (12, fs)) :: T) H) (hD : va_D A ((h0, .inr (12, fs)) :: T)) (hS : va_S A s.heap H locs)
    (kk : ∀ (q_155 : Nat) (q_153 : Nat) (q_151 : Nat) (q_149 : Nat) (q_147 : Nat) (fs' : List Value) (H : Heap) (locs : List Loc), fs' = (((((fs.set 99 (.ref q_147)).set 100 (.ref q_149)).set 101 (.ref q_151)).set 103 (.ref q_153)).set 107 (.ref q_155)) → va_P D vwCl ((h0, .inr (12, fs')) :: (q_155, .inl (D.1 15, 1700, .inr (.inl (fun _ => 0)))) :: (q_153, .inl (D.1 13, 1700, .inl (fun _ => 0))) :: (q_151, .inl (D.1 13, 1700, .inl (fun _ => 0))) :: (q_149, .inl (D.1 14, 3, .inl (fun j => i2 (upZ (upZ (upZ (fun _ => 0) 0 107) 1 101) 2 121 j)))) :: (q_147, .inl (D.1 14, 4, .inl (fun j => i2 (upZ (upZ (upZ (upZ (fun _ => 0) 0 114) 1 101) 2 102) 3 115 j)))) :: T) H → va_D A ((h0, .inr (12, fs')) :: (q_155, .inl (D.1 15, 1700, .inr (.inl (fun _ => 0)))) :: (q_153, .inl (D.1 13, 1700, .inl (fun _ => 0))) :: (q_151, .inl (D.1 13, 1700, .inl (fun _ => 0))) :: (q_149, .inl (D.1 14, 3, .inl (fun j => i2 (upZ (upZ (upZ (fun _ => 0) 0 107) 1 101) 2 121 j)))) :: (q_147, .inl (D.1 14, 4, .inl (fun j => i2 (upZ (upZ (upZ (upZ (fun _ => 0) 0 114) 1 101) 2 102) 3 115 j)))) :: T) → va_S A s.heap H locs → W p l e R s m args below meth c H locs 77 32853 Q (F0 m 1695 ls [])) : W p l e R s m args below meth c H locs 72 27746 Q (F0 m 1619 ls []) := by
  refine lv_aload_n hx hb eX12_init_1612.2.2.2.2.1 rfl (lv_at hl 0 rfl) ?_
  refine lv_iconst (v := 4) hx hb eX12_init_1612.2.2.2.2.2.1 (by decide) ?_
  refine va_newa (atype := .char) (a0 := (4, .inl (fun _ => 0))) (ty := .char) (N' := 4) hx hb (ht _ ac_char) rfl hK hP hD hS hA (fun _ => rfl) (by decide) (by decide) (by decide) (Nat.le_trans (Nat.le_of_ble_eq_true rfl) hRc) (Nat.le_trans (Nat.le_of_ble_eq_true rfl) hRs) eX12_init_1612.2.2.2.2.2.2.1 (fun q_147 cA H hK2 hP hD hS => ?_)
  obtain rfl := z_cls_char hK hK2
  refine W.widen (k := 73) (n := 27750) (Nat.le_of_ble_eq_true rfl) (Nat.le_of_ble_eq_true rfl) ?_
  obtain ⟨hP, hD⟩ := z_rot hP hD
  have hP : va_P D vwCl ((h0, .inr (12, fs)) :: (q_147, .inl (D.1 14, 4, .inl (fun _ => i2 0))) :: T) H := hP
  have hD : va_D A ((h0, .inr (12, fs)) :: (q_147, .inl (D.1 14, 4, .inl (fun _ => i2 0))) :: T) := hD
  refine lv_dup hx hb eX12_init_1612.2.2.2.2.2.2.2 rfl ?_
  refine lv_iconst (v := 0) hx hb eX12_init_1624.1 (by decide) ?_
  refine lv_bipush (v := 114) hx hb eX12_init_1624.2.1 (by decide) ?_
  refine va_cast hx hb hK hP hD hS 1 1 rfl rfl (z_in (by decide) (by decide)) eX12_init_1624.2.2.1 (fun H locs hP hD hS => ?_)
  rw [c_i2 (k := Int32.toNatClampNeg 0) (c := vp_nar .char 114) (v := 114) (by decide)] at hP hD
  have hP : va_P D vwCl (_ :: (q_147, .inl (_, _, .inl (fun j => i2 (upZ _ 0 114 j)))) :: _) H := hP
  have hD : va_D A (_ :: (q_147, .inl (_, _, .inl (fun j => i2 (upZ _ 0 114 j)))) :: _) := hD
  refine lv_dup hx hb eX12_init_1624.2.2.2.1 rfl ?_
  refine lv_iconst (v := 1) hx hb eX12_init_1624.2.2.2.2.1 (by decide) ?_
  refine lv_bipush (v := 101) hx hb eX12_init_1624.2.2.2.2.2.1 (by decide) ?_
  refine va_cast hx hb hK hP hD hS 1 1 rfl rfl (z_in (by decide) (by decide)) eX12_init_1624.2.2.2.2.2.2.1 (fun H locs hP hD hS => ?_)
  rw [c_i2 (k := Int32.toNatClampNeg 1) (c := vp_nar .char 101) (v := 101) (by decide)] at hP hD
  have hP : va_P D vwCl (_ :: (q_147, .inl (_, _, .inl (fun j => i2 (upZ _ 1 101 j)))) :: _) H := hP
  have hD : va_D A (_ :: (q_147, .inl (_, _, .inl (fun j => i2 (upZ _ 1 101 j)))) :: _) := hD
  refine lv_dup hx hb eX12_init_1624.2.2.2.2.2.2.2 rfl ?_
  refine lv_iconst (v := 2) hx hb eX12_init_1634.1 (by decide) ?_
  refine lv_bipush (v := 102) hx hb eX12_init_1634.2.1 (by decide) ?_
  refine va_cast hx hb hK hP hD hS 1 1 rfl rfl (z_in (by decide) (by decide)) eX12_init_1634.2.2.1 (fun H locs hP hD hS => ?_)
  rw [c_i2 (k := Int32.toNatClampNeg 2) (c := vp_nar .char 102) (v := 102) (by decide)] at hP hD
  have hP : va_P D vwCl (_ :: (q_147, .inl (_, _, .inl (fun j => i2 (upZ _ 2 102 j)))) :: _) H := hP
  have hD : va_D A (_ :: (q_147, .inl (_, _, .inl (fun j => i2 (upZ _ 2 102 j)))) :: _) := hD
  refine lv_dup hx hb eX12_init_1634.2.2.2.1 rfl ?_
  refine lv_iconst (v := 3) hx hb eX12_init_1634.2.2.2.2.1 (by decide) ?_
  refine lv_bipush (v := 115) hx hb eX12_init_1634.2.2.2.2.2.1 (by decide) ?_
  refine va_cast hx hb hK hP hD hS 1 1 rfl rfl (z_in (by decide) (by decide)) eX12_init_1634.2.2.2.2.2.2.1 (fun H locs hP hD hS => ?_)
  rw [c_i2 (k := Int32.toNatClampNeg 3) (c := vp_nar .char 115) (v := 115) (by decide)] at hP hD
  have hP : va_P D vwCl (_ :: (q_147, .inl (_, _, .inl (fun j => i2 (upZ _ 3 115 j)))) :: _) H := hP
  have hD : va_D A (_ :: (q_147, .inl (_, _, .inl (fun j => i2 (upZ _ 3 115 j)))) :: _) := hD
  refine va_putF (D := D) (ci := 12) (v := .ref q_147) (ty := .array .char) (C := RX12) (T := TX12) (N := 116) hx hb ht inX12 tyX12 tyX12_ok nmX12 hown hK hP hD hS 0 rfl rfl 99 (by decide) (ht (.fieldLink RX12 237 "CloneVolumesModel" "refsAsked" "[C") fl_X12_237) (fun _ h9 => h9) rfl hin rfl (by decide +kernel) rfl rfl (by rw [hlen]; decide) eX12_init_1634.2.2.2.2.2.2.2 (fun H locs hP hD hS => ?_)
  have hP : va_P D vwCl ((h0, .inr (12, (fs.set 99 (.ref q_147)))) :: _) H := hP
  have hD : va_D A ((h0, .inr (12, (fs.set 99 (.ref q_147)))) :: _) := hD
  generalize hfs_148 : fs.set 99 (.ref q_147) = fs_148 at hP hD
  have hlen : fs_148.length = 116 := by rw [← hfs_148, List.length_set]; exact hlen
  have hP : va_P D vwCl ((h0, .inr (12, fs_148)) :: _) H := hP
  have hD : va_D A ((h0, .inr (12, fs_148)) :: _) := hD
  refine lv_aload_n hx hb eX12_init_1646.1 rfl (lv_at hl 0 rfl) ?_
  refine lv_iconst (v := 3) hx hb eX12_init_1646.2.1 (by decide) ?_
  refine va_newa (atype := .char) (a0 := (3, .inl (fun _ => 0))) (ty := .char) (N' := 3) hx hb (ht _ ac_char) rfl hK hP hD hS hA (fun _ => rfl) (by decide) (by decide) (by decide) (Nat.le_trans (Nat.le_of_ble_eq_true rfl) hRc) (Nat.le_trans (Nat.le_of_ble_eq_true rfl) hRs) eX12_init_1646.2.2.1 (fun q_149 cA H hK2 hP hD hS => ?_)
  obtain rfl := z_cls_char hK hK2
  refine W.widen (k := 74) (n := 27753) (Nat.le_of_ble_eq_true rfl) (Nat.le_of_ble_eq_true rfl) ?_
  obtain ⟨hP, hD⟩ := z_rot hP hD
  have hP : va_P D vwCl ((h0, .inr (12, fs_148)) :: (q_149, .inl (D.1 14, 3, .inl (fun _ => i2 0))) :: _) H := hP
  have hD : va_D A ((h0, .inr (12, fs_148)) :: (q_149, .inl (D.1 14, 3, .inl (fun _ => i2 0))) :: _) := hD
  refine lv_dup hx hb eX12_init_1646.2.2.2.1 rfl ?_
  refine lv_iconst (v := 0) hx hb eX12_init_1646.2.2.2.2.1 (by decide) ?_
  refine lv_bipush (v := 107) hx hb eX12_init_1646.2.2.2.2.2.1 (by decide) ?_
  refine va_cast hx hb hK hP hD hS 1 1 rfl rfl (z_in (by decide) (by decide)) eX12_init_1646.2.2.2.2.2.2.1 (fun H locs hP hD hS => ?_)
  rw [c_i2 (k := Int32.toNatClampNeg 0) (c := vp_nar .char 107) (v := 107) (by decide)] at hP hD
  have hP : va_P D vwCl (_ :: (q_149, .inl (_, _, .inl (fun j => i2 (upZ _ 0 107 j)))) :: _) H := hP
  have hD : va_D A (_ :: (q_149, .inl (_, _, .inl (fun j => i2 (upZ _ 0 107 j)))) :: _) := hD
  refine lv_dup hx hb eX12_init_1646.2.2.2.2.2.2.2 rfl ?_
  refine lv_iconst (v := 1) hx hb eX12_init_1656.1 (by decide) ?_
  refine lv_bipush (v := 101) hx hb eX12_init_1656.2.1 (by decide) ?_
  refine va_cast hx hb hK hP hD hS 1 1 rfl rfl (z_in (by decide) (by decide)) eX12_init_1656.2.2.1 (fun H locs hP hD hS => ?_)
  rw [c_i2 (k := Int32.toNatClampNeg 1) (c := vp_nar .char 101) (v := 101) (by decide)] at hP hD
  have hP : va_P D vwCl (_ :: (q_149, .inl (_, _, .inl (fun j => i2 (upZ _ 1 101 j)))) :: _) H := hP
  have hD : va_D A (_ :: (q_149, .inl (_, _, .inl (fun j => i2 (upZ _ 1 101 j)))) :: _) := hD
  refine lv_dup hx hb eX12_init_1656.2.2.2.1 rfl ?_
  refine lv_iconst (v := 2) hx hb eX12_init_1656.2.2.2.2.1 (by decide) ?_
  refine lv_bipush (v := 121) hx hb eX12_init_1656.2.2.2.2.2.1 (by decide) ?_
  refine va_cast hx hb hK hP hD hS 1 1 rfl rfl (z_in (by decide) (by decide)) eX12_init_1656.2.2.2.2.2.2.1 (fun H locs hP hD hS => ?_)
  rw [c_i2 (k := Int32.toNatClampNeg 2) (c := vp_nar .char 121) (v := 121) (by decide)] at hP hD
  have hP : va_P D vwCl (_ :: (q_149, .inl (_, _, .inl (fun j => i2 (upZ _ 2 121 j)))) :: _) H := hP
  have hD : va_D A (_ :: (q_149, .inl (_, _, .inl (fun j => i2 (upZ _ 2 121 j)))) :: _) := hD
  refine va_putF (D := D) (ci := 12) (v := .ref q_149) (ty := .array .char) (C := RX12) (T := TX12) (N := 116) hx hb ht inX12 tyX12 tyX12_ok nmX12 hown hK hP hD hS 0 rfl rfl 100 (by decide) (ht (.fieldLink RX12 240 "CloneVolumesModel" "keyAsked" "[C") fl_X12_240) (fun _ h9 => h9) rfl hin rfl (by decide +kernel) rfl rfl (by rw [hlen]; decide) eX12_init_1656.2.2.2.2.2.2.2 (fun H locs hP hD hS => ?_)
  have hP : va_P D vwCl ((h0, .inr (12, (fs_148.set 100 (.ref q_149)))) :: _) H := hP
  have hD : va_D A ((h0, .inr (12, (fs_148.set 100 (.ref q_149)))) :: _) := hD
  generalize hfs_150 : fs_148.set 100 (.ref q_149) = fs_150 at hP hD
  have hlen : fs_150.length = 116 := by rw [← hfs_150, List.length_set]; exact hlen
  have hP : va_P D vwCl ((h0, .inr (12, fs_150)) :: _) H := hP
  have hD : va_D A ((h0, .inr (12, fs_150)) :: _) := hD
  refine lv_aload_n hx hb eX12_init_1668.1 rfl (lv_at hl 0 rfl) ?_
  refine lv_sipush (v := 1700) hx hb eX12_init_1668.2.1 (by decide) ?_
  refine va_newa (atype := .int) (a0 := (1700, .inl (fun _ => 0))) (ty := .int) (N' := 1700) hx hb (ht _ ac_int) rfl hK hP hD hS hA (fun _ => rfl) (by decide) (by decide) (by decide) (Nat.le_trans (Nat.le_of_ble_eq_true rfl) hRc) (Nat.le_trans (Nat.le_of_ble_eq_true rfl) hRs) eX12_init_1668.2.2.1 (fun q_151 cA H hK2 hP hD hS => ?_)
  obtain rfl := z_cls_int hK hK2
  refine W.widen (k := 75) (n := 29453) (Nat.le_of_ble_eq_true rfl) (Nat.le_of_ble_eq_true rfl) ?_
  obtain ⟨hP, hD⟩ := z_rot hP hD
  have hP : va_P D vwCl ((h0, .inr (12, fs_150)) :: (q_151, .inl (D.1 13, 1700, .inl (fun _ => 0))) :: _) H := hP
  have hD : va_D A ((h0, .inr (12, fs_150)) :: (q_151, .inl (D.1 13, 1700, .inl (fun _ => 0))) :: _) := hD
  refine va_putF (D := D) (ci := 12) (v := .ref q_151) (ty := .array .int) (C := RX12) (T := TX12) (N := 116) hx hb ht inX12 tyX12 tyX12_ok nmX12 hown hK hP hD hS 0 rfl rfl 101 (by decide) (ht (.fieldLink RX12 243 "CloneVolumesModel" "qCodes" "[I") fl_X12_243) (fun _ h9 => h9) rfl hin rfl (by decide +kernel) rfl rfl (by rw [hlen]; decide) eX12_init_1668.2.2.2.1 (fun H locs hP hD hS => ?_)
  have hP : va_P D vwCl ((h0, .inr (12, (fs_150.set 101 (.ref q_151)))) :: (q_151, .inl (D.1 13, 1700, .inl (fun _ => 0))) :: _) H := hP
  have hD : va_D A ((h0, .inr (12, (fs_150.set 101 (.ref q_151)))) :: (q_151, .inl (D.1 13, 1700, .inl (fun _ => 0))) :: _) := hD
  generalize hfs_152 : fs_150.set 101 (.ref q_151) = fs_152 at hP hD
  have hlen : fs_152.length = 116 := by rw [← hfs_152, List.length_set]; exact hlen
  have hP : va_P D vwCl ((h0, .inr (12, fs_152)) :: (q_151, .inl (D.1 13, 1700, .inl (fun _ => 0))) :: _) H := hP
  have hD : va_D A ((h0, .inr (12, fs_152)) :: (q_151, .inl (D.1 13, 1700, .inl (fun _ => 0))) :: _) := hD
  refine lv_aload_n hx hb eX12_init_1668.2.2.2.2.1 rfl (lv_at hl 0 rfl) ?_
  refine lv_sipush (v := 1700) hx hb eX12_init_1668.2.2.2.2.2.1 (by decide) ?_
  refine va_newa (atype := .int) (a0 := (1700, .inl (fun _ => 0))) (ty := .int) (N' := 1700) hx hb (ht _ ac_int) rfl hK hP hD hS hA (fun _ => rfl) (by decide) (by decide) (by decide) (Nat.le_trans (Nat.le_of_ble_eq_true rfl) hRc) (Nat.le_trans (Nat.le_of_ble_eq_true rfl) hRs) eX12_init_1668.2.2.2.2.2.2.1 (fun q_153 cA H hK2 hP hD hS => ?_)
  obtain rfl := z_cls_int hK hK2
  refine W.widen (k := 76) (n := 31153) (Nat.le_of_ble_eq_true rfl) (Nat.le_of_ble_eq_true rfl) ?_
  obtain ⟨hP, hD⟩ := z_rot hP hD
  have hP : va_P D vwCl ((h0, .inr (12, fs_152)) :: (q_153, .inl (D.1 13, 1700, .inl (fun _ => 0))) :: _) H := hP
  have hD : va_D A ((h0, .inr (12, fs_152)) :: (q_153, .inl (D.1 13, 1700, .inl (fun _ => 0))) :: _) := hD
  refine va_putF (D := D) (ci := 12) (v := .ref q_153) (ty := .array .int) (C := RX12) (T := TX12) (N := 116) hx hb ht inX12 tyX12 tyX12_ok nmX12 hown hK hP hD hS 0 rfl rfl 103 (by decide) (ht (.fieldLink RX12 246 "CloneVolumesModel" "qWait" "[I") fl_X12_246) (fun _ h9 => h9) rfl hin rfl (by decide +kernel) rfl rfl (by rw [hlen]; decide) eX12_init_1668.2.2.2.2.2.2.2 (fun H locs hP hD hS => ?_)
  have hP : va_P D vwCl ((h0, .inr (12, (fs_152.set 103 (.ref q_153)))) :: (q_153, .inl (D.1 13, 1700, .inl (fun _ => 0))) :: _) H := hP
  have hD : va_D A ((h0, .inr (12, (fs_152.set 103 (.ref q_153)))) :: (q_153, .inl (D.1 13, 1700, .inl (fun _ => 0))) :: _) := hD
  generalize hfs_154 : fs_152.set 103 (.ref q_153) = fs_154 at hP hD
  have hlen : fs_154.length = 116 := by rw [← hfs_154, List.length_set]; exact hlen
  have hP : va_P D vwCl ((h0, .inr (12, fs_154)) :: (q_153, .inl (D.1 13, 1700, .inl (fun _ => 0))) :: _) H := hP
  have hD : va_D A ((h0, .inr (12, fs_154)) :: (q_153, .inl (D.1 13, 1700, .inl (fun _ => 0))) :: _) := hD
  refine lv_aload_n hx hb eX12_init_1686.1 rfl (lv_at hl 0 rfl) ?_
  refine lv_sipush (v := 1700) hx hb eX12_init_1686.2.1 (by decide) ?_
  refine va_newa (atype := .long) (a0 := (1700, .inr (.inl (fun _ => 0)))) (ty := .long) (N' := 1700) hx hb (ht _ ac_long) rfl hK hP hD hS hA (fun _ => rfl) (by decide) (by decide) (by decide) (Nat.le_trans (Nat.le_of_ble_eq_true rfl) hRc) (Nat.le_trans (Nat.le_of_ble_eq_true rfl) hRs) eX12_init_1686.2.2.1 (fun q_155 cA H hK2 hP hD hS => ?_)
  obtain rfl := z_cls_long hK hK2
  refine W.widen (k := 77) (n := 32853) (Nat.le_of_ble_eq_true rfl) (Nat.le_of_ble_eq_true rfl) ?_
  obtain ⟨hP, hD⟩ := z_rot hP hD
  have hP : va_P D vwCl ((h0, .inr (12, fs_154)) :: (q_155, .inl (D.1 15, 1700, .inr (.inl (fun _ => 0)))) :: _) H := hP
  have hD : va_D A ((h0, .inr (12, fs_154)) :: (q_155, .inl (D.1 15, 1700, .inr (.inl (fun _ => 0)))) :: _) := hD
  refine va_putF (D := D) (ci := 12) (v := .ref q_155) (ty := .array .long) (C := RX12) (T := TX12) (N := 116) hx hb ht inX12 tyX12 tyX12_ok nmX12 hown hK hP hD hS 0 rfl rfl 107 (by decide) (ht (.fieldLink RX12 249 "CloneVolumesModel" "qPile" "[J") fl_X12_249) (fun _ h9 => h9) rfl hin rfl (by decide +kernel) rfl rfl (by rw [hlen]; decide) eX12_init_1686.2.2.2.1 (fun H locs hP hD hS => ?_)
  have hP : va_P D vwCl ((h0, .inr (12, (fs_154.set 107 (.ref q_155)))) :: (q_155, .inl (D.1 15, 1700, .inr (.inl (fun _ => 0)))) :: _) H := hP
  have hD : va_D A ((h0, .inr (12, (fs_154.set 107 (.ref q_155)))) :: (q_155, .inl (D.1 15, 1700, .inr (.inl (fun _ => 0)))) :: _) := hD
  generalize hfs_156 : fs_154.set 107 (.ref q_155) = fs_156 at hP hD
  have hlen : fs_156.length = 116 := by rw [← hfs_156, List.length_set]; exact hlen
  have hP : va_P D vwCl ((h0, .inr (12, fs_156)) :: (q_155, .inl (D.1 15, 1700, .inr (.inl (fun _ => 0)))) :: _) H := hP
  have hD : va_D A ((h0, .inr (12, fs_156)) :: (q_155, .inl (D.1 15, 1700, .inr (.inl (fun _ => 0)))) :: _) := hD
  exact kk q_155 q_153 q_151 q_149 q_147 fs_156 _ _ (by rw [← hfs_156, ← hfs_154, ← hfs_152, ← hfs_150, ← hfs_148]) hP hD hS
set_option maxHeartbeats 4000000 in
set_option maxRecDepth 100000 in
theorem cM_22 {p : Program} {l : Launch} {e : Env} {R : Room} {s : State} {m : MethodId} {args : Array Value} {below : List Frame} {meth : Method} {c : Code} {Q : State → Prop} {D : va_G} {A : Nat → Prop} {ls : Array Slot} {h0 : Nat} {T : va_W} (hx : p.tables.exec = Jvm.exec) (hb : c.code = cX12_init) (ht : ∀ w ∈ lw_gd, w.before args s = true) (hown : s.vm.findClass RX12 = some m.cls) (hin : meth.name = "<init>") (hK : va_K D vwCl (TY D) s) (hA : ∀ q : Nat, s.heap.size ≤ q → A q) (hRc : 80 ≤ R.cells) (hRs : 35050 ≤ R.slots) (hl : lv_has ls 1 [(0, .ref h0)]) {fs : List Value} (hlen : fs.length = 116) {H : Heap} {locs : List Loc} (hP : va_P D vwCl ((h0, .inr (12, fs)) :: T) H) (hD : va_D A ((h0, .inr (12, fs)) :: T)) (hS : va_S A s.heap H locs)
    (kk : ∀ (q_161 : Nat) (q_159 : Nat) (q_157 : Nat) (fs' : List Value) (H : Heap) (locs : List Loc), fs' = (((fs.set 111 (.ref q_157)).set 113 (.ref q_159)).set 115 (.ref q_161)) → va_P D vwCl ((h0, .inr (12, fs')) :: (q_161, .inl (D.1 13, 48, .inl (fun _ => 0))) :: (q_159, .inl (D.1 13, 785, .inl (fun _ => 0))) :: (q_157, .inl (D.1 13, 1364, .inl (fun _ => 0))) :: T) H → va_D A ((h0, .inr (12, fs')) :: (q_161, .inl (D.1 13, 48, .inl (fun _ => 0))) :: (q_159, .inl (D.1 13, 785, .inl (fun _ => 0))) :: (q_157, .inl (D.1 13, 1364, .inl (fun _ => 0))) :: T) → va_S A s.heap H locs → W p l e R s m args below meth c H locs 80 35050 Q (F0 m 1721 ls [])) : W p l e R s m args below meth c H locs 77 32853 Q (F0 m 1695 ls []) := by
  refine lv_aload_n hx hb eX12_init_1686.2.2.2.2.1 rfl (lv_at hl 0 rfl) ?_
  refine lv_sipush (v := 1364) hx hb eX12_init_1686.2.2.2.2.2.1 (by decide) ?_
  refine va_newa (atype := .int) (a0 := (1364, .inl (fun _ => 0))) (ty := .int) (N' := 1364) hx hb (ht _ ac_int) rfl hK hP hD hS hA (fun _ => rfl) (by decide) (by decide) (by decide) (Nat.le_trans (Nat.le_of_ble_eq_true rfl) hRc) (Nat.le_trans (Nat.le_of_ble_eq_true rfl) hRs) eX12_init_1686.2.2.2.2.2.2.1 (fun q_157 cA H hK2 hP hD hS => ?_)
  obtain rfl := z_cls_int hK hK2
  refine W.widen (k := 78) (n := 34217) (Nat.le_of_ble_eq_true rfl) (Nat.le_of_ble_eq_true rfl) ?_
  obtain ⟨hP, hD⟩ := z_rot hP hD
  have hP : va_P D vwCl ((h0, .inr (12, fs)) :: (q_157, .inl (D.1 13, 1364, .inl (fun _ => 0))) :: T) H := hP
  have hD : va_D A ((h0, .inr (12, fs)) :: (q_157, .inl (D.1 13, 1364, .inl (fun _ => 0))) :: T) := hD
  refine va_putF (D := D) (ci := 12) (v := .ref q_157) (ty := .array .int) (C := RX12) (T := TX12) (N := 116) hx hb ht inX12 tyX12 tyX12_ok nmX12 hown hK hP hD hS 0 rfl rfl 111 (by decide) (ht (.fieldLink RX12 252 "CloneVolumesModel" "octet" "[I") fl_X12_252) (fun _ h9 => h9) rfl hin rfl (by decide +kernel) rfl rfl (by rw [hlen]; decide) eX12_init_1686.2.2.2.2.2.2.2 (fun H locs hP hD hS => ?_)
  have hP : va_P D vwCl ((h0, .inr (12, (fs.set 111 (.ref q_157)))) :: (q_157, .inl (D.1 13, 1364, .inl (fun _ => 0))) :: T) H := hP
  have hD : va_D A ((h0, .inr (12, (fs.set 111 (.ref q_157)))) :: (q_157, .inl (D.1 13, 1364, .inl (fun _ => 0))) :: T) := hD
  generalize hfs_158 : fs.set 111 (.ref q_157) = fs_158 at hP hD
  have hlen : fs_158.length = 116 := by rw [← hfs_158, List.length_set]; exact hlen
  have hP : va_P D vwCl ((h0, .inr (12, fs_158)) :: (q_157, .inl (D.1 13, 1364, .inl (fun _ => 0))) :: T) H := hP
  have hD : va_D A ((h0, .inr (12, fs_158)) :: (q_157, .inl (D.1 13, 1364, .inl (fun _ => 0))) :: T) := hD
  refine lv_aload_n hx hb eX12_init_1704.1 rfl (lv_at hl 0 rfl) ?_
  refine lv_sipush (v := 785) hx hb eX12_init_1704.2.1 (by decide) ?_
  refine va_newa (atype := .int) (a0 := (785, .inl (fun _ => 0))) (ty := .int) (N' := 785) hx hb (ht _ ac_int) rfl hK hP hD hS hA (fun _ => rfl) (by decide) (by decide) (by decide) (Nat.le_trans (Nat.le_of_ble_eq_true rfl) hRc) (Nat.le_trans (Nat.le_of_ble_eq_true rfl) hRs) eX12_init_1704.2.2.1 (fun q_159 cA H hK2 hP hD hS => ?_)
  obtain rfl := z_cls_int hK hK2
  refine W.widen (k := 79) (n := 35002) (Nat.le_of_ble_eq_true rfl) (Nat.le_of_ble_eq_true rfl) ?_
  obtain ⟨hP, hD⟩ := z_rot hP hD
  have hP : va_P D vwCl ((h0, .inr (12, fs_158)) :: (q_159, .inl (D.1 13, 785, .inl (fun _ => 0))) :: _) H := hP
  have hD : va_D A ((h0, .inr (12, fs_158)) :: (q_159, .inl (D.1 13, 785, .inl (fun _ => 0))) :: _) := hD
  refine va_putF (D := D) (ci := 12) (v := .ref q_159) (ty := .array .int) (C := RX12) (T := TX12) (N := 116) hx hb ht inX12 tyX12 tyX12_ok nmX12 hown hK hP hD hS 0 rfl rfl 113 (by decide) (ht (.fieldLink RX12 255 "CloneVolumesModel" "laid" "[I") fl_X12_255) (fun _ h9 => h9) rfl hin rfl (by decide +kernel) rfl rfl (by rw [hlen]; decide) eX12_init_1704.2.2.2.1 (fun H locs hP hD hS => ?_)
  have hP : va_P D vwCl ((h0, .inr (12, (fs_158.set 113 (.ref q_159)))) :: (q_159, .inl (D.1 13, 785, .inl (fun _ => 0))) :: _) H := hP
  have hD : va_D A ((h0, .inr (12, (fs_158.set 113 (.ref q_159)))) :: (q_159, .inl (D.1 13, 785, .inl (fun _ => 0))) :: _) := hD
  generalize hfs_160 : fs_158.set 113 (.ref q_159) = fs_160 at hP hD
  have hlen : fs_160.length = 116 := by rw [← hfs_160, List.length_set]; exact hlen
  have hP : va_P D vwCl ((h0, .inr (12, fs_160)) :: (q_159, .inl (D.1 13, 785, .inl (fun _ => 0))) :: _) H := hP
  have hD : va_D A ((h0, .inr (12, fs_160)) :: (q_159, .inl (D.1 13, 785, .inl (fun _ => 0))) :: _) := hD
  refine lv_aload_n hx hb eX12_init_1704.2.2.2.2.1 rfl (lv_at hl 0 rfl) ?_
  refine lv_bipush (v := 48) hx hb eX12_init_1704.2.2.2.2.2.1 (by decide) ?_
  refine va_newa (atype := .int) (a0 := (48, .inl (fun _ => 0))) (ty := .int) (N' := 48) hx hb (ht _ ac_int) rfl hK hP hD hS hA (fun _ => rfl) (by decide) (by decide) (by decide) (Nat.le_trans (Nat.le_of_ble_eq_true rfl) hRc) (Nat.le_trans (Nat.le_of_ble_eq_true rfl) hRs) eX12_init_1704.2.2.2.2.2.2.1 (fun q_161 cA H hK2 hP hD hS => ?_)
  obtain rfl := z_cls_int hK hK2
  refine W.widen (k := 80) (n := 35050) (Nat.le_of_ble_eq_true rfl) (Nat.le_of_ble_eq_true rfl) ?_
  obtain ⟨hP, hD⟩ := z_rot hP hD
  have hP : va_P D vwCl ((h0, .inr (12, fs_160)) :: (q_161, .inl (D.1 13, 48, .inl (fun _ => 0))) :: _) H := hP
  have hD : va_D A ((h0, .inr (12, fs_160)) :: (q_161, .inl (D.1 13, 48, .inl (fun _ => 0))) :: _) := hD
  refine va_putF (D := D) (ci := 12) (v := .ref q_161) (ty := .array .int) (C := RX12) (T := TX12) (N := 116) hx hb ht inX12 tyX12 tyX12_ok nmX12 hown hK hP hD hS 0 rfl rfl 115 (by decide) (ht (.fieldLink RX12 258 "CloneVolumesModel" "recount" "[I") fl_X12_258) (fun _ h9 => h9) rfl hin rfl (by decide +kernel) rfl rfl (by rw [hlen]; decide) eX12_init_1704.2.2.2.2.2.2.2 (fun H locs hP hD hS => ?_)
  have hP : va_P D vwCl ((h0, .inr (12, (fs_160.set 115 (.ref q_161)))) :: (q_161, .inl (D.1 13, 48, .inl (fun _ => 0))) :: _) H := hP
  have hD : va_D A ((h0, .inr (12, (fs_160.set 115 (.ref q_161)))) :: (q_161, .inl (D.1 13, 48, .inl (fun _ => 0))) :: _) := hD
  generalize hfs_162 : fs_160.set 115 (.ref q_161) = fs_162 at hP hD
  have hlen : fs_162.length = 116 := by rw [← hfs_162, List.length_set]; exact hlen
  have hP : va_P D vwCl ((h0, .inr (12, fs_162)) :: (q_161, .inl (D.1 13, 48, .inl (fun _ => 0))) :: _) H := hP
  have hD : va_D A ((h0, .inr (12, fs_162)) :: (q_161, .inl (D.1 13, 48, .inl (fun _ => 0))) :: _) := hD
  exact kk q_161 q_159 q_157 fs_162 _ _ (by rw [← hfs_162, ← hfs_160, ← hfs_158]) hP hD hS
