theorem fl_X12_198 : Cond.fieldLink RX12 198 "CloneVolumesModel" "andAsked" "[C" ∈ lw_gd := zm (List.mem_of_getElem? (i := 1624) (by decide +kernel)) rfl
theorem fl_X12_201 : Cond.fieldLink RX12 201 "CloneVolumesModel" "orAsked" "[C" ∈ lw_gd := zm (List.mem_of_getElem? (i := 1625) (by decide +kernel)) rfl
theorem fl_X12_204 : Cond.fieldLink RX12 204 "CloneVolumesModel" "allAsked" "[C" ∈ lw_gd := zm (List.mem_of_getElem? (i := 1626) (by decide +kernel)) rfl
theorem fl_X12_207 : Cond.fieldLink RX12 207 "CloneVolumesModel" "minAsked" "[C" ∈ lw_gd := zm (List.mem_of_getElem? (i := 1627) (by decide +kernel)) rfl
theorem fl_X12_210 : Cond.fieldLink RX12 210 "CloneVolumesModel" "maxAsked" "[C" ∈ lw_gd := zm (List.mem_of_getElem? (i := 1628) (by decide +kernel)) rfl
theorem fl_X12_213 : Cond.fieldLink RX12 213 "CloneVolumesModel" "levelAsked" "[C" ∈ lw_gd := zm (List.mem_of_getElem? (i := 1629) (by decide +kernel)) rfl
theorem fl_X12_216 : Cond.fieldLink RX12 216 "CloneVolumesModel" "blockAsked" "[C" ∈ lw_gd := zm (List.mem_of_getElem? (i := 1630) (by decide +kernel)) rfl
theorem fl_X12_219 : Cond.fieldLink RX12 219 "CloneVolumesModel" "fromAsked" "[C" ∈ lw_gd := zm (List.mem_of_getElem? (i := 1631) (by decide +kernel)) rfl
theorem fl_X12_222 : Cond.fieldLink RX12 222 "CloneVolumesModel" "entriesAsked" "[C" ∈ lw_gd := zm (List.mem_of_getElem? (i := 1632) (by decide +kernel)) rfl
theorem dX12_init_1245 : decode cX12_init 1245 = .ok (.aload_n 0, 1) := by decide +kernel
theorem dX12_init_1246 : decode cX12_init 1246 = .ok (.iconst 3, 1) := by decide +kernel
theorem dX12_init_1247 : decode cX12_init 1247 = .ok (.newarray .char, 2) := by decide +kernel
theorem dX12_init_1249 : decode cX12_init 1249 = .ok (.dup, 1) := by decide +kernel
theorem dX12_init_1250 : decode cX12_init 1250 = .ok (.iconst 0, 1) := by decide +kernel
theorem dX12_init_1251 : decode cX12_init 1251 = .ok (.bipush 97, 2) := by decide +kernel
theorem dX12_init_1253 : decode cX12_init 1253 = .ok (.castore, 1) := by decide +kernel
theorem dX12_init_1254 : decode cX12_init 1254 = .ok (.dup, 1) := by decide +kernel
theorem dX12_init_1255 : decode cX12_init 1255 = .ok (.iconst 1, 1) := by decide +kernel
theorem dX12_init_1256 : decode cX12_init 1256 = .ok (.bipush 110, 2) := by decide +kernel
theorem dX12_init_1258 : decode cX12_init 1258 = .ok (.castore, 1) := by decide +kernel
theorem dX12_init_1259 : decode cX12_init 1259 = .ok (.dup, 1) := by decide +kernel
theorem dX12_init_1260 : decode cX12_init 1260 = .ok (.iconst 2, 1) := by decide +kernel
theorem dX12_init_1261 : decode cX12_init 1261 = .ok (.bipush 100, 2) := by decide +kernel
theorem dX12_init_1263 : decode cX12_init 1263 = .ok (.castore, 1) := by decide +kernel
theorem dX12_init_1264 : decode cX12_init 1264 = .ok (.putfield 198, 3) := by decide +kernel
theorem dX12_init_1267 : decode cX12_init 1267 = .ok (.aload_n 0, 1) := by decide +kernel
theorem dX12_init_1268 : decode cX12_init 1268 = .ok (.iconst 2, 1) := by decide +kernel
theorem dX12_init_1269 : decode cX12_init 1269 = .ok (.newarray .char, 2) := by decide +kernel
theorem dX12_init_1271 : decode cX12_init 1271 = .ok (.dup, 1) := by decide +kernel
theorem dX12_init_1272 : decode cX12_init 1272 = .ok (.iconst 0, 1) := by decide +kernel
theorem dX12_init_1273 : decode cX12_init 1273 = .ok (.bipush 111, 2) := by decide +kernel
theorem dX12_init_1275 : decode cX12_init 1275 = .ok (.castore, 1) := by decide +kernel
theorem dX12_init_1276 : decode cX12_init 1276 = .ok (.dup, 1) := by decide +kernel
theorem dX12_init_1277 : decode cX12_init 1277 = .ok (.iconst 1, 1) := by decide +kernel
theorem dX12_init_1278 : decode cX12_init 1278 = .ok (.bipush 114, 2) := by decide +kernel
theorem dX12_init_1280 : decode cX12_init 1280 = .ok (.castore, 1) := by decide +kernel
theorem dX12_init_1281 : decode cX12_init 1281 = .ok (.putfield 201, 3) := by decide +kernel
theorem dX12_init_1284 : decode cX12_init 1284 = .ok (.aload_n 0, 1) := by decide +kernel
theorem dX12_init_1285 : decode cX12_init 1285 = .ok (.iconst 3, 1) := by decide +kernel
theorem dX12_init_1286 : decode cX12_init 1286 = .ok (.newarray .char, 2) := by decide +kernel
theorem dX12_init_1288 : decode cX12_init 1288 = .ok (.dup, 1) := by decide +kernel
theorem dX12_init_1289 : decode cX12_init 1289 = .ok (.iconst 0, 1) := by decide +kernel
theorem dX12_init_1290 : decode cX12_init 1290 = .ok (.bipush 97, 2) := by decide +kernel
theorem dX12_init_1292 : decode cX12_init 1292 = .ok (.castore, 1) := by decide +kernel
theorem dX12_init_1293 : decode cX12_init 1293 = .ok (.dup, 1) := by decide +kernel
theorem dX12_init_1294 : decode cX12_init 1294 = .ok (.iconst 1, 1) := by decide +kernel
theorem dX12_init_1295 : decode cX12_init 1295 = .ok (.bipush 108, 2) := by decide +kernel
theorem dX12_init_1297 : decode cX12_init 1297 = .ok (.castore, 1) := by decide +kernel
theorem dX12_init_1298 : decode cX12_init 1298 = .ok (.dup, 1) := by decide +kernel
theorem dX12_init_1299 : decode cX12_init 1299 = .ok (.iconst 2, 1) := by decide +kernel
theorem dX12_init_1300 : decode cX12_init 1300 = .ok (.bipush 108, 2) := by decide +kernel
theorem dX12_init_1302 : decode cX12_init 1302 = .ok (.castore, 1) := by decide +kernel
theorem dX12_init_1303 : decode cX12_init 1303 = .ok (.putfield 204, 3) := by decide +kernel
theorem dX12_init_1306 : decode cX12_init 1306 = .ok (.aload_n 0, 1) := by decide +kernel
theorem dX12_init_1307 : decode cX12_init 1307 = .ok (.iconst 3, 1) := by decide +kernel
theorem dX12_init_1308 : decode cX12_init 1308 = .ok (.newarray .char, 2) := by decide +kernel
theorem dX12_init_1310 : decode cX12_init 1310 = .ok (.dup, 1) := by decide +kernel
theorem dX12_init_1311 : decode cX12_init 1311 = .ok (.iconst 0, 1) := by decide +kernel
theorem dX12_init_1312 : decode cX12_init 1312 = .ok (.bipush 109, 2) := by decide +kernel
theorem dX12_init_1314 : decode cX12_init 1314 = .ok (.castore, 1) := by decide +kernel
theorem dX12_init_1315 : decode cX12_init 1315 = .ok (.dup, 1) := by decide +kernel
theorem dX12_init_1316 : decode cX12_init 1316 = .ok (.iconst 1, 1) := by decide +kernel
theorem dX12_init_1317 : decode cX12_init 1317 = .ok (.bipush 105, 2) := by decide +kernel
theorem dX12_init_1319 : decode cX12_init 1319 = .ok (.castore, 1) := by decide +kernel
theorem dX12_init_1320 : decode cX12_init 1320 = .ok (.dup, 1) := by decide +kernel
theorem dX12_init_1321 : decode cX12_init 1321 = .ok (.iconst 2, 1) := by decide +kernel
theorem dX12_init_1322 : decode cX12_init 1322 = .ok (.bipush 110, 2) := by decide +kernel
theorem dX12_init_1324 : decode cX12_init 1324 = .ok (.castore, 1) := by decide +kernel
theorem dX12_init_1325 : decode cX12_init 1325 = .ok (.putfield 207, 3) := by decide +kernel
theorem dX12_init_1328 : decode cX12_init 1328 = .ok (.aload_n 0, 1) := by decide +kernel
theorem dX12_init_1329 : decode cX12_init 1329 = .ok (.iconst 3, 1) := by decide +kernel
theorem dX12_init_1330 : decode cX12_init 1330 = .ok (.newarray .char, 2) := by decide +kernel
theorem dX12_init_1332 : decode cX12_init 1332 = .ok (.dup, 1) := by decide +kernel
theorem dX12_init_1333 : decode cX12_init 1333 = .ok (.iconst 0, 1) := by decide +kernel
theorem dX12_init_1334 : decode cX12_init 1334 = .ok (.bipush 109, 2) := by decide +kernel
theorem dX12_init_1336 : decode cX12_init 1336 = .ok (.castore, 1) := by decide +kernel
theorem dX12_init_1337 : decode cX12_init 1337 = .ok (.dup, 1) := by decide +kernel
theorem dX12_init_1338 : decode cX12_init 1338 = .ok (.iconst 1, 1) := by decide +kernel
theorem dX12_init_1339 : decode cX12_init 1339 = .ok (.bipush 97, 2) := by decide +kernel
theorem dX12_init_1341 : decode cX12_init 1341 = .ok (.castore, 1) := by decide +kernel
theorem dX12_init_1342 : decode cX12_init 1342 = .ok (.dup, 1) := by decide +kernel
theorem dX12_init_1343 : decode cX12_init 1343 = .ok (.iconst 2, 1) := by decide +kernel
theorem dX12_init_1344 : decode cX12_init 1344 = .ok (.bipush 120, 2) := by decide +kernel
theorem dX12_init_1346 : decode cX12_init 1346 = .ok (.castore, 1) := by decide +kernel
theorem dX12_init_1347 : decode cX12_init 1347 = .ok (.putfield 210, 3) := by decide +kernel
theorem dX12_init_1350 : decode cX12_init 1350 = .ok (.aload_n 0, 1) := by decide +kernel
theorem dX12_init_1351 : decode cX12_init 1351 = .ok (.iconst 5, 1) := by decide +kernel
theorem dX12_init_1352 : decode cX12_init 1352 = .ok (.newarray .char, 2) := by decide +kernel
theorem dX12_init_1354 : decode cX12_init 1354 = .ok (.dup, 1) := by decide +kernel
theorem dX12_init_1355 : decode cX12_init 1355 = .ok (.iconst 0, 1) := by decide +kernel
theorem dX12_init_1356 : decode cX12_init 1356 = .ok (.bipush 108, 2) := by decide +kernel
theorem dX12_init_1358 : decode cX12_init 1358 = .ok (.castore, 1) := by decide +kernel
theorem dX12_init_1359 : decode cX12_init 1359 = .ok (.dup, 1) := by decide +kernel
theorem dX12_init_1360 : decode cX12_init 1360 = .ok (.iconst 1, 1) := by decide +kernel
theorem dX12_init_1361 : decode cX12_init 1361 = .ok (.bipush 101, 2) := by decide +kernel
theorem dX12_init_1363 : decode cX12_init 1363 = .ok (.castore, 1) := by decide +kernel
theorem dX12_init_1364 : decode cX12_init 1364 = .ok (.dup, 1) := by decide +kernel
theorem dX12_init_1365 : decode cX12_init 1365 = .ok (.iconst 2, 1) := by decide +kernel
theorem dX12_init_1366 : decode cX12_init 1366 = .ok (.bipush 118, 2) := by decide +kernel
theorem dX12_init_1368 : decode cX12_init 1368 = .ok (.castore, 1) := by decide +kernel
theorem dX12_init_1369 : decode cX12_init 1369 = .ok (.dup, 1) := by decide +kernel
theorem dX12_init_1370 : decode cX12_init 1370 = .ok (.iconst 3, 1) := by decide +kernel
theorem dX12_init_1371 : decode cX12_init 1371 = .ok (.bipush 101, 2) := by decide +kernel
theorem dX12_init_1373 : decode cX12_init 1373 = .ok (.castore, 1) := by decide +kernel
theorem dX12_init_1374 : decode cX12_init 1374 = .ok (.dup, 1) := by decide +kernel
theorem dX12_init_1375 : decode cX12_init 1375 = .ok (.iconst 4, 1) := by decide +kernel
theorem dX12_init_1376 : decode cX12_init 1376 = .ok (.bipush 108, 2) := by decide +kernel
theorem dX12_init_1378 : decode cX12_init 1378 = .ok (.castore, 1) := by decide +kernel
theorem dX12_init_1379 : decode cX12_init 1379 = .ok (.putfield 213, 3) := by decide +kernel
theorem dX12_init_1382 : decode cX12_init 1382 = .ok (.aload_n 0, 1) := by decide +kernel
theorem dX12_init_1383 : decode cX12_init 1383 = .ok (.iconst 5, 1) := by decide +kernel
theorem dX12_init_1384 : decode cX12_init 1384 = .ok (.newarray .char, 2) := by decide +kernel
theorem dX12_init_1386 : decode cX12_init 1386 = .ok (.dup, 1) := by decide +kernel
theorem dX12_init_1387 : decode cX12_init 1387 = .ok (.iconst 0, 1) := by decide +kernel
theorem dX12_init_1388 : decode cX12_init 1388 = .ok (.bipush 98, 2) := by decide +kernel
theorem dX12_init_1390 : decode cX12_init 1390 = .ok (.castore, 1) := by decide +kernel
theorem dX12_init_1391 : decode cX12_init 1391 = .ok (.dup, 1) := by decide +kernel
theorem dX12_init_1392 : decode cX12_init 1392 = .ok (.iconst 1, 1) := by decide +kernel
theorem dX12_init_1393 : decode cX12_init 1393 = .ok (.bipush 108, 2) := by decide +kernel
theorem dX12_init_1395 : decode cX12_init 1395 = .ok (.castore, 1) := by decide +kernel
theorem dX12_init_1396 : decode cX12_init 1396 = .ok (.dup, 1) := by decide +kernel
theorem dX12_init_1397 : decode cX12_init 1397 = .ok (.iconst 2, 1) := by decide +kernel
theorem dX12_init_1398 : decode cX12_init 1398 = .ok (.bipush 111, 2) := by decide +kernel
theorem dX12_init_1400 : decode cX12_init 1400 = .ok (.castore, 1) := by decide +kernel
theorem dX12_init_1401 : decode cX12_init 1401 = .ok (.dup, 1) := by decide +kernel
theorem dX12_init_1402 : decode cX12_init 1402 = .ok (.iconst 3, 1) := by decide +kernel
theorem dX12_init_1403 : decode cX12_init 1403 = .ok (.bipush 99, 2) := by decide +kernel
theorem dX12_init_1405 : decode cX12_init 1405 = .ok (.castore, 1) := by decide +kernel
theorem dX12_init_1406 : decode cX12_init 1406 = .ok (.dup, 1) := by decide +kernel
theorem dX12_init_1407 : decode cX12_init 1407 = .ok (.iconst 4, 1) := by decide +kernel
theorem dX12_init_1408 : decode cX12_init 1408 = .ok (.bipush 107, 2) := by decide +kernel
theorem dX12_init_1410 : decode cX12_init 1410 = .ok (.castore, 1) := by decide +kernel
theorem dX12_init_1411 : decode cX12_init 1411 = .ok (.putfield 216, 3) := by decide +kernel
theorem dX12_init_1414 : decode cX12_init 1414 = .ok (.aload_n 0, 1) := by decide +kernel
theorem dX12_init_1415 : decode cX12_init 1415 = .ok (.iconst 4, 1) := by decide +kernel
theorem dX12_init_1416 : decode cX12_init 1416 = .ok (.newarray .char, 2) := by decide +kernel
theorem dX12_init_1418 : decode cX12_init 1418 = .ok (.dup, 1) := by decide +kernel
theorem dX12_init_1419 : decode cX12_init 1419 = .ok (.iconst 0, 1) := by decide +kernel
theorem dX12_init_1420 : decode cX12_init 1420 = .ok (.bipush 102, 2) := by decide +kernel
theorem dX12_init_1422 : decode cX12_init 1422 = .ok (.castore, 1) := by decide +kernel
theorem dX12_init_1423 : decode cX12_init 1423 = .ok (.dup, 1) := by decide +kernel
theorem dX12_init_1424 : decode cX12_init 1424 = .ok (.iconst 1, 1) := by decide +kernel
theorem dX12_init_1425 : decode cX12_init 1425 = .ok (.bipush 114, 2) := by decide +kernel
theorem dX12_init_1427 : decode cX12_init 1427 = .ok (.castore, 1) := by decide +kernel
theorem dX12_init_1428 : decode cX12_init 1428 = .ok (.dup, 1) := by decide +kernel
theorem dX12_init_1429 : decode cX12_init 1429 = .ok (.iconst 2, 1) := by decide +kernel
theorem dX12_init_1430 : decode cX12_init 1430 = .ok (.bipush 111, 2) := by decide +kernel
theorem dX12_init_1432 : decode cX12_init 1432 = .ok (.castore, 1) := by decide +kernel
theorem dX12_init_1433 : decode cX12_init 1433 = .ok (.dup, 1) := by decide +kernel
theorem dX12_init_1434 : decode cX12_init 1434 = .ok (.iconst 3, 1) := by decide +kernel
theorem dX12_init_1435 : decode cX12_init 1435 = .ok (.bipush 109, 2) := by decide +kernel
theorem dX12_init_1437 : decode cX12_init 1437 = .ok (.castore, 1) := by decide +kernel
theorem dX12_init_1438 : decode cX12_init 1438 = .ok (.putfield 219, 3) := by decide +kernel
theorem dX12_init_1441 : decode cX12_init 1441 = .ok (.aload_n 0, 1) := by decide +kernel
theorem dX12_init_1442 : decode cX12_init 1442 = .ok (.bipush 7, 2) := by decide +kernel
theorem dX12_init_1444 : decode cX12_init 1444 = .ok (.newarray .char, 2) := by decide +kernel
theorem dX12_init_1446 : decode cX12_init 1446 = .ok (.dup, 1) := by decide +kernel
theorem dX12_init_1447 : decode cX12_init 1447 = .ok (.iconst 0, 1) := by decide +kernel
theorem dX12_init_1448 : decode cX12_init 1448 = .ok (.bipush 101, 2) := by decide +kernel
theorem dX12_init_1450 : decode cX12_init 1450 = .ok (.castore, 1) := by decide +kernel
theorem dX12_init_1451 : decode cX12_init 1451 = .ok (.dup, 1) := by decide +kernel
theorem dX12_init_1452 : decode cX12_init 1452 = .ok (.iconst 1, 1) := by decide +kernel
theorem dX12_init_1453 : decode cX12_init 1453 = .ok (.bipush 110, 2) := by decide +kernel
theorem dX12_init_1455 : decode cX12_init 1455 = .ok (.castore, 1) := by decide +kernel
theorem dX12_init_1456 : decode cX12_init 1456 = .ok (.dup, 1) := by decide +kernel
theorem dX12_init_1457 : decode cX12_init 1457 = .ok (.iconst 2, 1) := by decide +kernel
theorem dX12_init_1458 : decode cX12_init 1458 = .ok (.bipush 116, 2) := by decide +kernel
theorem dX12_init_1460 : decode cX12_init 1460 = .ok (.castore, 1) := by decide +kernel
theorem dX12_init_1461 : decode cX12_init 1461 = .ok (.dup, 1) := by decide +kernel
theorem dX12_init_1462 : decode cX12_init 1462 = .ok (.iconst 3, 1) := by decide +kernel
theorem dX12_init_1463 : decode cX12_init 1463 = .ok (.bipush 114, 2) := by decide +kernel
theorem dX12_init_1465 : decode cX12_init 1465 = .ok (.castore, 1) := by decide +kernel
theorem dX12_init_1466 : decode cX12_init 1466 = .ok (.dup, 1) := by decide +kernel
theorem dX12_init_1467 : decode cX12_init 1467 = .ok (.iconst 4, 1) := by decide +kernel
theorem dX12_init_1468 : decode cX12_init 1468 = .ok (.bipush 105, 2) := by decide +kernel
theorem dX12_init_1470 : decode cX12_init 1470 = .ok (.castore, 1) := by decide +kernel
theorem dX12_init_1471 : decode cX12_init 1471 = .ok (.dup, 1) := by decide +kernel
theorem dX12_init_1472 : decode cX12_init 1472 = .ok (.iconst 5, 1) := by decide +kernel
theorem dX12_init_1473 : decode cX12_init 1473 = .ok (.bipush 101, 2) := by decide +kernel
theorem dX12_init_1475 : decode cX12_init 1475 = .ok (.castore, 1) := by decide +kernel
theorem dX12_init_1476 : decode cX12_init 1476 = .ok (.dup, 1) := by decide +kernel
theorem dX12_init_1477 : decode cX12_init 1477 = .ok (.bipush 6, 2) := by decide +kernel
theorem dX12_init_1479 : decode cX12_init 1479 = .ok (.bipush 115, 2) := by decide +kernel
theorem dX12_init_1481 : decode cX12_init 1481 = .ok (.castore, 1) := by decide +kernel
theorem dX12_init_1482 : decode cX12_init 1482 = .ok (.putfield 222, 3) := by decide +kernel
set_option maxHeartbeats 4000000 in
set_option maxRecDepth 100000 in
theorem cM_16 {p : Program} {l : Launch} {e : Env} {R : Room} {s : State} {m : MethodId} {args : Array Value} {below : List Frame} {meth : Method} {c : Code} {Q : State → Prop} {D : va_G} {A : Nat → Prop} {ls : Array Slot} {h0 : Nat} {T : va_W} (hx : p.tables.exec = Jvm.exec) (hb : c.code = cX12_init) (ht : ∀ w ∈ lw_gd, w.before args s = true) (hown : s.vm.findClass RX12 = some m.cls) (hin : meth.name = "<init>") (hK : va_K D vwCl (TY D) s) (hA : ∀ q : Nat, s.heap.size ≤ q → A q) (hRc : 80 ≤ R.cells) (hRs : 35050 ≤ R.slots) (hl : lv_has ls 1 [(0, .ref h0)]) {fs : List Value} (hlen : fs.length = 116) {H : Heap} {locs : List Loc} (hP : va_P D vwCl ((h0, .inr (12, fs)) :: T) H) (hD : va_D A ((h0, .inr (12, fs)) :: T)) (hS : va_S A s.heap H locs)
    (kk : ∀ (q_127 : Nat) (q_125 : Nat) (q_123 : Nat) (q_121 : Nat) (fs' : List Value) (H : Heap) (locs : List Loc), fs' = ((((fs.set 86 (.ref q_121)).set 87 (.ref q_123)).set 88 (.ref q_125)).set 89 (.ref q_127)) → va_P D vwCl ((h0, .inr (12, fs')) :: (q_127, .inl (D.1 14, 3, .inl (fun j => i2 (upZ (upZ (upZ (fun _ => 0) 0 109) 1 105) 2 110 j)))) :: (q_125, .inl (D.1 14, 3, .inl (fun j => i2 (upZ (upZ (upZ (fun _ => 0) 0 97) 1 108) 2 108 j)))) :: (q_123, .inl (D.1 14, 2, .inl (fun j => i2 (upZ (upZ (fun _ => 0) 0 111) 1 114 j)))) :: (q_121, .inl (D.1 14, 3, .inl (fun j => i2 (upZ (upZ (upZ (fun _ => 0) 0 97) 1 110) 2 100 j)))) :: T) H → va_D A ((h0, .inr (12, fs')) :: (q_127, .inl (D.1 14, 3, .inl (fun j => i2 (upZ (upZ (upZ (fun _ => 0) 0 109) 1 105) 2 110 j)))) :: (q_125, .inl (D.1 14, 3, .inl (fun j => i2 (upZ (upZ (upZ (fun _ => 0) 0 97) 1 108) 2 108 j)))) :: (q_123, .inl (D.1 14, 2, .inl (fun j => i2 (upZ (upZ (fun _ => 0) 0 111) 1 114 j)))) :: (q_121, .inl (D.1 14, 3, .inl (fun j => i2 (upZ (upZ (upZ (fun _ => 0) 0 97) 1 110) 2 100 j)))) :: T) → va_S A s.heap H locs → W p l e R s m args below meth c H locs 63 27701 Q (F0 m 1328 ls [])) : W p l e R s m args below meth c H locs 59 27690 Q (F0 m 1245 ls []) := by
  refine lv_aload_n hx hb dX12_init_1245 rfl (lv_at hl 0 rfl) ?_
  refine lv_iconst (v := 3) hx hb dX12_init_1246 (by decide) ?_
  refine va_newa (atype := .char) (a0 := (3, .inl (fun _ => 0))) (ty := .char) (N' := 3) hx hb (ht _ ac_char) rfl hK hP hD hS hA (fun _ => rfl) (by decide) (by decide) (by decide) (Nat.le_trans (Nat.le_of_ble_eq_true rfl) hRc) (Nat.le_trans (Nat.le_of_ble_eq_true rfl) hRs) dX12_init_1247 (fun q_121 cA H hK2 hP hD hS => ?_)
  obtain rfl := z_cls_char hK hK2
  refine W.widen (k := 60) (n := 27693) (Nat.le_of_ble_eq_true rfl) (Nat.le_of_ble_eq_true rfl) ?_
  obtain ⟨hP, hD⟩ := z_rot hP hD
  have hP : va_P D vwCl ((h0, .inr (12, fs)) :: (q_121, .inl (D.1 14, 3, .inl (fun _ => i2 0))) :: T) H := hP
  have hD : va_D A ((h0, .inr (12, fs)) :: (q_121, .inl (D.1 14, 3, .inl (fun _ => i2 0))) :: T) := hD
  refine lv_dup hx hb dX12_init_1249 rfl ?_
  refine lv_iconst (v := 0) hx hb dX12_init_1250 (by decide) ?_
  refine lv_bipush (v := 97) hx hb dX12_init_1251 (by decide) ?_
  refine va_cast hx hb hK hP hD hS 1 1 rfl rfl (z_in (by decide) (by decide)) dX12_init_1253 (fun H locs hP hD hS => ?_)
  rw [c_i2 (F := fun _ => 0) (k := Int32.toNatClampNeg 0) (c := vp_nar .char 97) (v := 97) (by decide)] at hP hD
  have hP : va_P D vwCl ((h0, .inr (12, fs)) :: (q_121, .inl (D.1 14, 3, .inl (fun j => i2 (upZ (fun _ => 0) 0 97 j)))) :: T) H := hP
  have hD : va_D A ((h0, .inr (12, fs)) :: (q_121, .inl (D.1 14, 3, .inl (fun j => i2 (upZ (fun _ => 0) 0 97 j)))) :: T) := hD
  refine lv_dup hx hb dX12_init_1254 rfl ?_
  refine lv_iconst (v := 1) hx hb dX12_init_1255 (by decide) ?_
  refine lv_bipush (v := 110) hx hb dX12_init_1256 (by decide) ?_
  refine va_cast hx hb hK hP hD hS 1 1 rfl rfl (z_in (by decide) (by decide)) dX12_init_1258 (fun H locs hP hD hS => ?_)
  rw [c_i2 (F := upZ (fun _ => 0) 0 97) (k := Int32.toNatClampNeg 1) (c := vp_nar .char 110) (v := 110) (by decide)] at hP hD
  have hP : va_P D vwCl ((h0, .inr (12, fs)) :: (q_121, .inl (D.1 14, 3, .inl (fun j => i2 (upZ (upZ (fun _ => 0) 0 97) 1 110 j)))) :: T) H := hP
  have hD : va_D A ((h0, .inr (12, fs)) :: (q_121, .inl (D.1 14, 3, .inl (fun j => i2 (upZ (upZ (fun _ => 0) 0 97) 1 110 j)))) :: T) := hD
  refine lv_dup hx hb dX12_init_1259 rfl ?_
  refine lv_iconst (v := 2) hx hb dX12_init_1260 (by decide) ?_
  refine lv_bipush (v := 100) hx hb dX12_init_1261 (by decide) ?_
  refine va_cast hx hb hK hP hD hS 1 1 rfl rfl (z_in (by decide) (by decide)) dX12_init_1263 (fun H locs hP hD hS => ?_)
  rw [c_i2 (F := upZ (upZ (fun _ => 0) 0 97) 1 110) (k := Int32.toNatClampNeg 2) (c := vp_nar .char 100) (v := 100) (by decide)] at hP hD
  have hP : va_P D vwCl ((h0, .inr (12, fs)) :: (q_121, .inl (D.1 14, 3, .inl (fun j => i2 (upZ (upZ (upZ (fun _ => 0) 0 97) 1 110) 2 100 j)))) :: T) H := hP
  have hD : va_D A ((h0, .inr (12, fs)) :: (q_121, .inl (D.1 14, 3, .inl (fun j => i2 (upZ (upZ (upZ (fun _ => 0) 0 97) 1 110) 2 100 j)))) :: T) := hD
  refine va_putF (D := D) (ci := 12) (v := .ref q_121) (ty := .array .char) (C := RX12) (T := TX12) (N := 116) hx hb ht inX12 tyX12 tyX12_ok nmX12 hown hK hP hD hS 0 rfl rfl 86 (by decide) (ht (.fieldLink RX12 198 "CloneVolumesModel" "andAsked" "[C") fl_X12_198) (fun _ h9 => h9) rfl hin rfl (by decide +kernel) rfl rfl (by rw [hlen]; decide) dX12_init_1264 (fun H locs hP hD hS => ?_)
  have hP : va_P D vwCl ((h0, .inr (12, (fs.set 86 (.ref q_121)))) :: (q_121, .inl (D.1 14, 3, .inl (fun j => i2 (upZ (upZ (upZ (fun _ => 0) 0 97) 1 110) 2 100 j)))) :: T) H := hP
  have hD : va_D A ((h0, .inr (12, (fs.set 86 (.ref q_121)))) :: (q_121, .inl (D.1 14, 3, .inl (fun j => i2 (upZ (upZ (upZ (fun _ => 0) 0 97) 1 110) 2 100 j)))) :: T) := hD
  generalize hfs_122 : fs.set 86 (.ref q_121) = fs_122 at hP hD
  have hlen : fs_122.length = 116 := by rw [← hfs_122, List.length_set]; exact hlen
  have hP : va_P D vwCl ((h0, .inr (12, fs_122)) :: (q_121, .inl (D.1 14, 3, .inl (fun j => i2 (upZ (upZ (upZ (fun _ => 0) 0 97) 1 110) 2 100 j)))) :: T) H := hP
  have hD : va_D A ((h0, .inr (12, fs_122)) :: (q_121, .inl (D.1 14, 3, .inl (fun j => i2 (upZ (upZ (upZ (fun _ => 0) 0 97) 1 110) 2 100 j)))) :: T) := hD
  refine lv_aload_n hx hb dX12_init_1267 rfl (lv_at hl 0 rfl) ?_
  refine lv_iconst (v := 2) hx hb dX12_init_1268 (by decide) ?_
  refine va_newa (atype := .char) (a0 := (2, .inl (fun _ => 0))) (ty := .char) (N' := 2) hx hb (ht _ ac_char) rfl hK hP hD hS hA (fun _ => rfl) (by decide) (by decide) (by decide) (Nat.le_trans (Nat.le_of_ble_eq_true rfl) hRc) (Nat.le_trans (Nat.le_of_ble_eq_true rfl) hRs) dX12_init_1269 (fun q_123 cA H hK2 hP hD hS => ?_)
  obtain rfl := z_cls_char hK hK2
  refine W.widen (k := 61) (n := 27695) (Nat.le_of_ble_eq_true rfl) (Nat.le_of_ble_eq_true rfl) ?_
  obtain ⟨hP, hD⟩ := z_rot hP hD
  have hP : va_P D vwCl ((h0, .inr (12, fs_122)) :: (q_123, .inl (D.1 14, 2, .inl (fun _ => i2 0))) :: (q_121, .inl (D.1 14, 3, .inl (fun j => i2 (upZ (upZ (upZ (fun _ => 0) 0 97) 1 110) 2 100 j)))) :: T) H := hP
  have hD : va_D A ((h0, .inr (12, fs_122)) :: (q_123, .inl (D.1 14, 2, .inl (fun _ => i2 0))) :: (q_121, .inl (D.1 14, 3, .inl (fun j => i2 (upZ (upZ (upZ (fun _ => 0) 0 97) 1 110) 2 100 j)))) :: T) := hD
  refine lv_dup hx hb dX12_init_1271 rfl ?_
  refine lv_iconst (v := 0) hx hb dX12_init_1272 (by decide) ?_
  refine lv_bipush (v := 111) hx hb dX12_init_1273 (by decide) ?_
  refine va_cast hx hb hK hP hD hS 1 1 rfl rfl (z_in (by decide) (by decide)) dX12_init_1275 (fun H locs hP hD hS => ?_)
  rw [c_i2 (F := fun _ => 0) (k := Int32.toNatClampNeg 0) (c := vp_nar .char 111) (v := 111) (by decide)] at hP hD
  have hP : va_P D vwCl ((h0, .inr (12, fs_122)) :: (q_123, .inl (D.1 14, 2, .inl (fun j => i2 (upZ (fun _ => 0) 0 111 j)))) :: (q_121, .inl (D.1 14, 3, .inl (fun j => i2 (upZ (upZ (upZ (fun _ => 0) 0 97) 1 110) 2 100 j)))) :: T) H := hP
  have hD : va_D A ((h0, .inr (12, fs_122)) :: (q_123, .inl (D.1 14, 2, .inl (fun j => i2 (upZ (fun _ => 0) 0 111 j)))) :: (q_121, .inl (D.1 14, 3, .inl (fun j => i2 (upZ (upZ (upZ (fun _ => 0) 0 97) 1 110) 2 100 j)))) :: T) := hD
  refine lv_dup hx hb dX12_init_1276 rfl ?_
  refine lv_iconst (v := 1) hx hb dX12_init_1277 (by decide) ?_
  refine lv_bipush (v := 114) hx hb dX12_init_1278 (by decide) ?_
  refine va_cast hx hb hK hP hD hS 1 1 rfl rfl (z_in (by decide) (by decide)) dX12_init_1280 (fun H locs hP hD hS => ?_)
  rw [c_i2 (F := upZ (fun _ => 0) 0 111) (k := Int32.toNatClampNeg 1) (c := vp_nar .char 114) (v := 114) (by decide)] at hP hD
  have hP : va_P D vwCl ((h0, .inr (12, fs_122)) :: (q_123, .inl (D.1 14, 2, .inl (fun j => i2 (upZ (upZ (fun _ => 0) 0 111) 1 114 j)))) :: (q_121, .inl (D.1 14, 3, .inl (fun j => i2 (upZ (upZ (upZ (fun _ => 0) 0 97) 1 110) 2 100 j)))) :: T) H := hP
  have hD : va_D A ((h0, .inr (12, fs_122)) :: (q_123, .inl (D.1 14, 2, .inl (fun j => i2 (upZ (upZ (fun _ => 0) 0 111) 1 114 j)))) :: (q_121, .inl (D.1 14, 3, .inl (fun j => i2 (upZ (upZ (upZ (fun _ => 0) 0 97) 1 110) 2 100 j)))) :: T) := hD
  refine va_putF (D := D) (ci := 12) (v := .ref q_123) (ty := .array .char) (C := RX12) (T := TX12) (N := 116) hx hb ht inX12 tyX12 tyX12_ok nmX12 hown hK hP hD hS 0 rfl rfl 87 (by decide) (ht (.fieldLink RX12 201 "CloneVolumesModel" "orAsked" "[C") fl_X12_201) (fun _ h9 => h9) rfl hin rfl (by decide +kernel) rfl rfl (by rw [hlen]; decide) dX12_init_1281 (fun H locs hP hD hS => ?_)
  have hP : va_P D vwCl ((h0, .inr (12, (fs_122.set 87 (.ref q_123)))) :: (q_123, .inl (D.1 14, 2, .inl (fun j => i2 (upZ (upZ (fun _ => 0) 0 111) 1 114 j)))) :: (q_121, .inl (D.1 14, 3, .inl (fun j => i2 (upZ (upZ (upZ (fun _ => 0) 0 97) 1 110) 2 100 j)))) :: T) H := hP
  have hD : va_D A ((h0, .inr (12, (fs_122.set 87 (.ref q_123)))) :: (q_123, .inl (D.1 14, 2, .inl (fun j => i2 (upZ (upZ (fun _ => 0) 0 111) 1 114 j)))) :: (q_121, .inl (D.1 14, 3, .inl (fun j => i2 (upZ (upZ (upZ (fun _ => 0) 0 97) 1 110) 2 100 j)))) :: T) := hD
  generalize hfs_124 : fs_122.set 87 (.ref q_123) = fs_124 at hP hD
  have hlen : fs_124.length = 116 := by rw [← hfs_124, List.length_set]; exact hlen
  have hP : va_P D vwCl ((h0, .inr (12, fs_124)) :: (q_123, .inl (D.1 14, 2, .inl (fun j => i2 (upZ (upZ (fun _ => 0) 0 111) 1 114 j)))) :: (q_121, .inl (D.1 14, 3, .inl (fun j => i2 (upZ (upZ (upZ (fun _ => 0) 0 97) 1 110) 2 100 j)))) :: T) H := hP
  have hD : va_D A ((h0, .inr (12, fs_124)) :: (q_123, .inl (D.1 14, 2, .inl (fun j => i2 (upZ (upZ (fun _ => 0) 0 111) 1 114 j)))) :: (q_121, .inl (D.1 14, 3, .inl (fun j => i2 (upZ (upZ (upZ (fun _ => 0) 0 97) 1 110) 2 100 j)))) :: T) := hD
  refine lv_aload_n hx hb dX12_init_1284 rfl (lv_at hl 0 rfl) ?_
  refine lv_iconst (v := 3) hx hb dX12_init_1285 (by decide) ?_
  refine va_newa (atype := .char) (a0 := (3, .inl (fun _ => 0))) (ty := .char) (N' := 3) hx hb (ht _ ac_char) rfl hK hP hD hS hA (fun _ => rfl) (by decide) (by decide) (by decide) (Nat.le_trans (Nat.le_of_ble_eq_true rfl) hRc) (Nat.le_trans (Nat.le_of_ble_eq_true rfl) hRs) dX12_init_1286 (fun q_125 cA H hK2 hP hD hS => ?_)
  obtain rfl := z_cls_char hK hK2
  refine W.widen (k := 62) (n := 27698) (Nat.le_of_ble_eq_true rfl) (Nat.le_of_ble_eq_true rfl) ?_
  obtain ⟨hP, hD⟩ := z_rot hP hD
  have hP : va_P D vwCl ((h0, .inr (12, fs_124)) :: (q_125, .inl (D.1 14, 3, .inl (fun _ => i2 0))) :: (q_123, .inl (D.1 14, 2, .inl (fun j => i2 (upZ (upZ (fun _ => 0) 0 111) 1 114 j)))) :: (q_121, .inl (D.1 14, 3, .inl (fun j => i2 (upZ (upZ (upZ (fun _ => 0) 0 97) 1 110) 2 100 j)))) :: T) H := hP
  have hD : va_D A ((h0, .inr (12, fs_124)) :: (q_125, .inl (D.1 14, 3, .inl (fun _ => i2 0))) :: (q_123, .inl (D.1 14, 2, .inl (fun j => i2 (upZ (upZ (fun _ => 0) 0 111) 1 114 j)))) :: (q_121, .inl (D.1 14, 3, .inl (fun j => i2 (upZ (upZ (upZ (fun _ => 0) 0 97) 1 110) 2 100 j)))) :: T) := hD
  refine lv_dup hx hb dX12_init_1288 rfl ?_
  refine lv_iconst (v := 0) hx hb dX12_init_1289 (by decide) ?_
  refine lv_bipush (v := 97) hx hb dX12_init_1290 (by decide) ?_
  refine va_cast hx hb hK hP hD hS 1 1 rfl rfl (z_in (by decide) (by decide)) dX12_init_1292 (fun H locs hP hD hS => ?_)
  rw [c_i2 (F := fun _ => 0) (k := Int32.toNatClampNeg 0) (c := vp_nar .char 97) (v := 97) (by decide)] at hP hD
  have hP : va_P D vwCl ((h0, .inr (12, fs_124)) :: (q_125, .inl (D.1 14, 3, .inl (fun j => i2 (upZ (fun _ => 0) 0 97 j)))) :: (q_123, .inl (D.1 14, 2, .inl (fun j => i2 (upZ (upZ (fun _ => 0) 0 111) 1 114 j)))) :: (q_121, .inl (D.1 14, 3, .inl (fun j => i2 (upZ (upZ (upZ (fun _ => 0) 0 97) 1 110) 2 100 j)))) :: T) H := hP
  have hD : va_D A ((h0, .inr (12, fs_124)) :: (q_125, .inl (D.1 14, 3, .inl (fun j => i2 (upZ (fun _ => 0) 0 97 j)))) :: (q_123, .inl (D.1 14, 2, .inl (fun j => i2 (upZ (upZ (fun _ => 0) 0 111) 1 114 j)))) :: (q_121, .inl (D.1 14, 3, .inl (fun j => i2 (upZ (upZ (upZ (fun _ => 0) 0 97) 1 110) 2 100 j)))) :: T) := hD
  refine lv_dup hx hb dX12_init_1293 rfl ?_
  refine lv_iconst (v := 1) hx hb dX12_init_1294 (by decide) ?_
  refine lv_bipush (v := 108) hx hb dX12_init_1295 (by decide) ?_
  refine va_cast hx hb hK hP hD hS 1 1 rfl rfl (z_in (by decide) (by decide)) dX12_init_1297 (fun H locs hP hD hS => ?_)
  rw [c_i2 (F := upZ (fun _ => 0) 0 97) (k := Int32.toNatClampNeg 1) (c := vp_nar .char 108) (v := 108) (by decide)] at hP hD
  have hP : va_P D vwCl ((h0, .inr (12, fs_124)) :: (q_125, .inl (D.1 14, 3, .inl (fun j => i2 (upZ (upZ (fun _ => 0) 0 97) 1 108 j)))) :: (q_123, .inl (D.1 14, 2, .inl (fun j => i2 (upZ (upZ (fun _ => 0) 0 111) 1 114 j)))) :: (q_121, .inl (D.1 14, 3, .inl (fun j => i2 (upZ (upZ (upZ (fun _ => 0) 0 97) 1 110) 2 100 j)))) :: T) H := hP
  have hD : va_D A ((h0, .inr (12, fs_124)) :: (q_125, .inl (D.1 14, 3, .inl (fun j => i2 (upZ (upZ (fun _ => 0) 0 97) 1 108 j)))) :: (q_123, .inl (D.1 14, 2, .inl (fun j => i2 (upZ (upZ (fun _ => 0) 0 111) 1 114 j)))) :: (q_121, .inl (D.1 14, 3, .inl (fun j => i2 (upZ (upZ (upZ (fun _ => 0) 0 97) 1 110) 2 100 j)))) :: T) := hD
  refine lv_dup hx hb dX12_init_1298 rfl ?_
  refine lv_iconst (v := 2) hx hb dX12_init_1299 (by decide) ?_
  refine lv_bipush (v := 108) hx hb dX12_init_1300 (by decide) ?_
  refine va_cast hx hb hK hP hD hS 1 1 rfl rfl (z_in (by decide) (by decide)) dX12_init_1302 (fun H locs hP hD hS => ?_)
  rw [c_i2 (F := upZ (upZ (fun _ => 0) 0 97) 1 108) (k := Int32.toNatClampNeg 2) (c := vp_nar .char 108) (v := 108) (by decide)] at hP hD
  have hP : va_P D vwCl ((h0, .inr (12, fs_124)) :: (q_125, .inl (D.1 14, 3, .inl (fun j => i2 (upZ (upZ (upZ (fun _ => 0) 0 97) 1 108) 2 108 j)))) :: (q_123, .inl (D.1 14, 2, .inl (fun j => i2 (upZ (upZ (fun _ => 0) 0 111) 1 114 j)))) :: (q_121, .inl (D.1 14, 3, .inl (fun j => i2 (upZ (upZ (upZ (fun _ => 0) 0 97) 1 110) 2 100 j)))) :: T) H := hP
  have hD : va_D A ((h0, .inr (12, fs_124)) :: (q_125, .inl (D.1 14, 3, .inl (fun j => i2 (upZ (upZ (upZ (fun _ => 0) 0 97) 1 108) 2 108 j)))) :: (q_123, .inl (D.1 14, 2, .inl (fun j => i2 (upZ (upZ (fun _ => 0) 0 111) 1 114 j)))) :: (q_121, .inl (D.1 14, 3, .inl (fun j => i2 (upZ (upZ (upZ (fun _ => 0) 0 97) 1 110) 2 100 j)))) :: T) := hD
  refine va_putF (D := D) (ci := 12) (v := .ref q_125) (ty := .array .char) (C := RX12) (T := TX12) (N := 116) hx hb ht inX12 tyX12 tyX12_ok nmX12 hown hK hP hD hS 0 rfl rfl 88 (by decide) (ht (.fieldLink RX12 204 "CloneVolumesModel" "allAsked" "[C") fl_X12_204) (fun _ h9 => h9) rfl hin rfl (by decide +kernel) rfl rfl (by rw [hlen]; decide) dX12_init_1303 (fun H locs hP hD hS => ?_)
  have hP : va_P D vwCl ((h0, .inr (12, (fs_124.set 88 (.ref q_125)))) :: (q_125, .inl (D.1 14, 3, .inl (fun j => i2 (upZ (upZ (upZ (fun _ => 0) 0 97) 1 108) 2 108 j)))) :: (q_123, .inl (D.1 14, 2, .inl (fun j => i2 (upZ (upZ (fun _ => 0) 0 111) 1 114 j)))) :: (q_121, .inl (D.1 14, 3, .inl (fun j => i2 (upZ (upZ (upZ (fun _ => 0) 0 97) 1 110) 2 100 j)))) :: T) H := hP
  have hD : va_D A ((h0, .inr (12, (fs_124.set 88 (.ref q_125)))) :: (q_125, .inl (D.1 14, 3, .inl (fun j => i2 (upZ (upZ (upZ (fun _ => 0) 0 97) 1 108) 2 108 j)))) :: (q_123, .inl (D.1 14, 2, .inl (fun j => i2 (upZ (upZ (fun _ => 0) 0 111) 1 114 j)))) :: (q_121, .inl (D.1 14, 3, .inl (fun j => i2 (upZ (upZ (upZ (fun _ => 0) 0 97) 1 110) 2 100 j)))) :: T) := hD
  generalize hfs_126 : fs_124.set 88 (.ref q_125) = fs_126 at hP hD
  have hlen : fs_126.length = 116 := by rw [← hfs_126, List.length_set]; exact hlen
  have hP : va_P D vwCl ((h0, .inr (12, fs_126)) :: (q_125, .inl (D.1 14, 3, .inl (fun j => i2 (upZ (upZ (upZ (fun _ => 0) 0 97) 1 108) 2 108 j)))) :: (q_123, .inl (D.1 14, 2, .inl (fun j => i2 (upZ (upZ (fun _ => 0) 0 111) 1 114 j)))) :: (q_121, .inl (D.1 14, 3, .inl (fun j => i2 (upZ (upZ (upZ (fun _ => 0) 0 97) 1 110) 2 100 j)))) :: T) H := hP
  have hD : va_D A ((h0, .inr (12, fs_126)) :: (q_125, .inl (D.1 14, 3, .inl (fun j => i2 (upZ (upZ (upZ (fun _ => 0) 0 97) 1 108) 2 108 j)))) :: (q_123, .inl (D.1 14, 2, .inl (fun j => i2 (upZ (upZ (fun _ => 0) 0 111) 1 114 j)))) :: (q_121, .inl (D.1 14, 3, .inl (fun j => i2 (upZ (upZ (upZ (fun _ => 0) 0 97) 1 110) 2 100 j)))) :: T) := hD
  refine lv_aload_n hx hb dX12_init_1306 rfl (lv_at hl 0 rfl) ?_
  refine lv_iconst (v := 3) hx hb dX12_init_1307 (by decide) ?_
  refine va_newa (atype := .char) (a0 := (3, .inl (fun _ => 0))) (ty := .char) (N' := 3) hx hb (ht _ ac_char) rfl hK hP hD hS hA (fun _ => rfl) (by decide) (by decide) (by decide) (Nat.le_trans (Nat.le_of_ble_eq_true rfl) hRc) (Nat.le_trans (Nat.le_of_ble_eq_true rfl) hRs) dX12_init_1308 (fun q_127 cA H hK2 hP hD hS => ?_)
  obtain rfl := z_cls_char hK hK2
  refine W.widen (k := 63) (n := 27701) (Nat.le_of_ble_eq_true rfl) (Nat.le_of_ble_eq_true rfl) ?_
  obtain ⟨hP, hD⟩ := z_rot hP hD
  have hP : va_P D vwCl ((h0, .inr (12, fs_126)) :: (q_127, .inl (D.1 14, 3, .inl (fun _ => i2 0))) :: (q_125, .inl (D.1 14, 3, .inl (fun j => i2 (upZ (upZ (upZ (fun _ => 0) 0 97) 1 108) 2 108 j)))) :: (q_123, .inl (D.1 14, 2, .inl (fun j => i2 (upZ (upZ (fun _ => 0) 0 111) 1 114 j)))) :: (q_121, .inl (D.1 14, 3, .inl (fun j => i2 (upZ (upZ (upZ (fun _ => 0) 0 97) 1 110) 2 100 j)))) :: T) H := hP
  have hD : va_D A ((h0, .inr (12, fs_126)) :: (q_127, .inl (D.1 14, 3, .inl (fun _ => i2 0))) :: (q_125, .inl (D.1 14, 3, .inl (fun j => i2 (upZ (upZ (upZ (fun _ => 0) 0 97) 1 108) 2 108 j)))) :: (q_123, .inl (D.1 14, 2, .inl (fun j => i2 (upZ (upZ (fun _ => 0) 0 111) 1 114 j)))) :: (q_121, .inl (D.1 14, 3, .inl (fun j => i2 (upZ (upZ (upZ (fun _ => 0) 0 97) 1 110) 2 100 j)))) :: T) := hD
  refine lv_dup hx hb dX12_init_1310 rfl ?_
  refine lv_iconst (v := 0) hx hb dX12_init_1311 (by decide) ?_
  refine lv_bipush (v := 109) hx hb dX12_init_1312 (by decide) ?_
  refine va_cast hx hb hK hP hD hS 1 1 rfl rfl (z_in (by decide) (by decide)) dX12_init_1314 (fun H locs hP hD hS => ?_)
  rw [c_i2 (F := fun _ => 0) (k := Int32.toNatClampNeg 0) (c := vp_nar .char 109) (v := 109) (by decide)] at hP hD
  have hP : va_P D vwCl ((h0, .inr (12, fs_126)) :: (q_127, .inl (D.1 14, 3, .inl (fun j => i2 (upZ (fun _ => 0) 0 109 j)))) :: (q_125, .inl (D.1 14, 3, .inl (fun j => i2 (upZ (upZ (upZ (fun _ => 0) 0 97) 1 108) 2 108 j)))) :: (q_123, .inl (D.1 14, 2, .inl (fun j => i2 (upZ (upZ (fun _ => 0) 0 111) 1 114 j)))) :: (q_121, .inl (D.1 14, 3, .inl (fun j => i2 (upZ (upZ (upZ (fun _ => 0) 0 97) 1 110) 2 100 j)))) :: T) H := hP
  have hD : va_D A ((h0, .inr (12, fs_126)) :: (q_127, .inl (D.1 14, 3, .inl (fun j => i2 (upZ (fun _ => 0) 0 109 j)))) :: (q_125, .inl (D.1 14, 3, .inl (fun j => i2 (upZ (upZ (upZ (fun _ => 0) 0 97) 1 108) 2 108 j)))) :: (q_123, .inl (D.1 14, 2, .inl (fun j => i2 (upZ (upZ (fun _ => 0) 0 111) 1 114 j)))) :: (q_121, .inl (D.1 14, 3, .inl (fun j => i2 (upZ (upZ (upZ (fun _ => 0) 0 97) 1 110) 2 100 j)))) :: T) := hD
  refine lv_dup hx hb dX12_init_1315 rfl ?_
  refine lv_iconst (v := 1) hx hb dX12_init_1316 (by decide) ?_
  refine lv_bipush (v := 105) hx hb dX12_init_1317 (by decide) ?_
  refine va_cast hx hb hK hP hD hS 1 1 rfl rfl (z_in (by decide) (by decide)) dX12_init_1319 (fun H locs hP hD hS => ?_)
  rw [c_i2 (F := upZ (fun _ => 0) 0 109) (k := Int32.toNatClampNeg 1) (c := vp_nar .char 105) (v := 105) (by decide)] at hP hD
  have hP : va_P D vwCl ((h0, .inr (12, fs_126)) :: (q_127, .inl (D.1 14, 3, .inl (fun j => i2 (upZ (upZ (fun _ => 0) 0 109) 1 105 j)))) :: (q_125, .inl (D.1 14, 3, .inl (fun j => i2 (upZ (upZ (upZ (fun _ => 0) 0 97) 1 108) 2 108 j)))) :: (q_123, .inl (D.1 14, 2, .inl (fun j => i2 (upZ (upZ (fun _ => 0) 0 111) 1 114 j)))) :: (q_121, .inl (D.1 14, 3, .inl (fun j => i2 (upZ (upZ (upZ (fun _ => 0) 0 97) 1 110) 2 100 j)))) :: T) H := hP
  have hD : va_D A ((h0, .inr (12, fs_126)) :: (q_127, .inl (D.1 14, 3, .inl (fun j => i2 (upZ (upZ (fun _ => 0) 0 109) 1 105 j)))) :: (q_125, .inl (D.1 14, 3, .inl (fun j => i2 (upZ (upZ (upZ (fun _ => 0) 0 97) 1 108) 2 108 j)))) :: (q_123, .inl (D.1 14, 2, .inl (fun j => i2 (upZ (upZ (fun _ => 0) 0 111) 1 114 j)))) :: (q_121, .inl (D.1 14, 3, .inl (fun j => i2 (upZ (upZ (upZ (fun _ => 0) 0 97) 1 110) 2 100 j)))) :: T) := hD
  refine lv_dup hx hb dX12_init_1320 rfl ?_
  refine lv_iconst (v := 2) hx hb dX12_init_1321 (by decide) ?_
  refine lv_bipush (v := 110) hx hb dX12_init_1322 (by decide) ?_
  refine va_cast hx hb hK hP hD hS 1 1 rfl rfl (z_in (by decide) (by decide)) dX12_init_1324 (fun H locs hP hD hS => ?_)
  rw [c_i2 (F := upZ (upZ (fun _ => 0) 0 109) 1 105) (k := Int32.toNatClampNeg 2) (c := vp_nar .char 110) (v := 110) (by decide)] at hP hD
  have hP : va_P D vwCl ((h0, .inr (12, fs_126)) :: (q_127, .inl (D.1 14, 3, .inl (fun j => i2 (upZ (upZ (upZ (fun _ => 0) 0 109) 1 105) 2 110 j)))) :: (q_125, .inl (D.1 14, 3, .inl (fun j => i2 (upZ (upZ (upZ (fun _ => 0) 0 97) 1 108) 2 108 j)))) :: (q_123, .inl (D.1 14, 2, .inl (fun j => i2 (upZ (upZ (fun _ => 0) 0 111) 1 114 j)))) :: (q_121, .inl (D.1 14, 3, .inl (fun j => i2 (upZ (upZ (upZ (fun _ => 0) 0 97) 1 110) 2 100 j)))) :: T) H := hP
  have hD : va_D A ((h0, .inr (12, fs_126)) :: (q_127, .inl (D.1 14, 3, .inl (fun j => i2 (upZ (upZ (upZ (fun _ => 0) 0 109) 1 105) 2 110 j)))) :: (q_125, .inl (D.1 14, 3, .inl (fun j => i2 (upZ (upZ (upZ (fun _ => 0) 0 97) 1 108) 2 108 j)))) :: (q_123, .inl (D.1 14, 2, .inl (fun j => i2 (upZ (upZ (fun _ => 0) 0 111) 1 114 j)))) :: (q_121, .inl (D.1 14, 3, .inl (fun j => i2 (upZ (upZ (upZ (fun _ => 0) 0 97) 1 110) 2 100 j)))) :: T) := hD
  refine va_putF (D := D) (ci := 12) (v := .ref q_127) (ty := .array .char) (C := RX12) (T := TX12) (N := 116) hx hb ht inX12 tyX12 tyX12_ok nmX12 hown hK hP hD hS 0 rfl rfl 89 (by decide) (ht (.fieldLink RX12 207 "CloneVolumesModel" "minAsked" "[C") fl_X12_207) (fun _ h9 => h9) rfl hin rfl (by decide +kernel) rfl rfl (by rw [hlen]; decide) dX12_init_1325 (fun H locs hP hD hS => ?_)
  have hP : va_P D vwCl ((h0, .inr (12, (fs_126.set 89 (.ref q_127)))) :: (q_127, .inl (D.1 14, 3, .inl (fun j => i2 (upZ (upZ (upZ (fun _ => 0) 0 109) 1 105) 2 110 j)))) :: (q_125, .inl (D.1 14, 3, .inl (fun j => i2 (upZ (upZ (upZ (fun _ => 0) 0 97) 1 108) 2 108 j)))) :: (q_123, .inl (D.1 14, 2, .inl (fun j => i2 (upZ (upZ (fun _ => 0) 0 111) 1 114 j)))) :: (q_121, .inl (D.1 14, 3, .inl (fun j => i2 (upZ (upZ (upZ (fun _ => 0) 0 97) 1 110) 2 100 j)))) :: T) H := hP
  have hD : va_D A ((h0, .inr (12, (fs_126.set 89 (.ref q_127)))) :: (q_127, .inl (D.1 14, 3, .inl (fun j => i2 (upZ (upZ (upZ (fun _ => 0) 0 109) 1 105) 2 110 j)))) :: (q_125, .inl (D.1 14, 3, .inl (fun j => i2 (upZ (upZ (upZ (fun _ => 0) 0 97) 1 108) 2 108 j)))) :: (q_123, .inl (D.1 14, 2, .inl (fun j => i2 (upZ (upZ (fun _ => 0) 0 111) 1 114 j)))) :: (q_121, .inl (D.1 14, 3, .inl (fun j => i2 (upZ (upZ (upZ (fun _ => 0) 0 97) 1 110) 2 100 j)))) :: T) := hD
  generalize hfs_128 : fs_126.set 89 (.ref q_127) = fs_128 at hP hD
  have hlen : fs_128.length = 116 := by rw [← hfs_128, List.length_set]; exact hlen
  have hP : va_P D vwCl ((h0, .inr (12, fs_128)) :: (q_127, .inl (D.1 14, 3, .inl (fun j => i2 (upZ (upZ (upZ (fun _ => 0) 0 109) 1 105) 2 110 j)))) :: (q_125, .inl (D.1 14, 3, .inl (fun j => i2 (upZ (upZ (upZ (fun _ => 0) 0 97) 1 108) 2 108 j)))) :: (q_123, .inl (D.1 14, 2, .inl (fun j => i2 (upZ (upZ (fun _ => 0) 0 111) 1 114 j)))) :: (q_121, .inl (D.1 14, 3, .inl (fun j => i2 (upZ (upZ (upZ (fun _ => 0) 0 97) 1 110) 2 100 j)))) :: T) H := hP
  have hD : va_D A ((h0, .inr (12, fs_128)) :: (q_127, .inl (D.1 14, 3, .inl (fun j => i2 (upZ (upZ (upZ (fun _ => 0) 0 109) 1 105) 2 110 j)))) :: (q_125, .inl (D.1 14, 3, .inl (fun j => i2 (upZ (upZ (upZ (fun _ => 0) 0 97) 1 108) 2 108 j)))) :: (q_123, .inl (D.1 14, 2, .inl (fun j => i2 (upZ (upZ (fun _ => 0) 0 111) 1 114 j)))) :: (q_121, .inl (D.1 14, 3, .inl (fun j => i2 (upZ (upZ (upZ (fun _ => 0) 0 97) 1 110) 2 100 j)))) :: T) := hD
  exact kk q_127 q_125 q_123 q_121 fs_128 _ _ (by rw [← hfs_128, ← hfs_126, ← hfs_124, ← hfs_122]) hP hD hS
set_option maxHeartbeats 4000000 in
set_option maxRecDepth 100000 in
theorem cM_17 {p : Program} {l : Launch} {e : Env} {R : Room} {s : State} {m : MethodId} {args : Array Value} {below : List Frame} {meth : Method} {c : Code} {Q : State → Prop} {D : va_G} {A : Nat → Prop} {ls : Array Slot} {h0 : Nat} {T : va_W} (hx : p.tables.exec = Jvm.exec) (hb : c.code = cX12_init) (ht : ∀ w ∈ lw_gd, w.before args s = true) (hown : s.vm.findClass RX12 = some m.cls) (hin : meth.name = "<init>") (hK : va_K D vwCl (TY D) s) (hA : ∀ q : Nat, s.heap.size ≤ q → A q) (hRc : 80 ≤ R.cells) (hRs : 35050 ≤ R.slots) (hl : lv_has ls 1 [(0, .ref h0)]) {fs : List Value} (hlen : fs.length = 116) {H : Heap} {locs : List Loc} (hP : va_P D vwCl ((h0, .inr (12, fs)) :: T) H) (hD : va_D A ((h0, .inr (12, fs)) :: T)) (hS : va_S A s.heap H locs)
    (kk : ∀ (q_133 : Nat) (q_131 : Nat) (q_129 : Nat) (fs' : List Value) (H : Heap) (locs : List Loc), fs' = (((fs.set 90 (.ref q_129)).set 91 (.ref q_131)).set 92 (.ref q_133)) → va_P D vwCl ((h0, .inr (12, fs')) :: (q_133, .inl (D.1 14, 5, .inl (fun j => i2 (upZ (upZ (upZ (upZ (upZ (fun _ => 0) 0 98) 1 108) 2 111) 3 99) 4 107 j)))) :: (q_131, .inl (D.1 14, 5, .inl (fun j => i2 (upZ (upZ (upZ (upZ (upZ (fun _ => 0) 0 108) 1 101) 2 118) 3 101) 4 108 j)))) :: (q_129, .inl (D.1 14, 3, .inl (fun j => i2 (upZ (upZ (upZ (fun _ => 0) 0 109) 1 97) 2 120 j)))) :: T) H → va_D A ((h0, .inr (12, fs')) :: (q_133, .inl (D.1 14, 5, .inl (fun j => i2 (upZ (upZ (upZ (upZ (upZ (fun _ => 0) 0 98) 1 108) 2 111) 3 99) 4 107 j)))) :: (q_131, .inl (D.1 14, 5, .inl (fun j => i2 (upZ (upZ (upZ (upZ (upZ (fun _ => 0) 0 108) 1 101) 2 118) 3 101) 4 108 j)))) :: (q_129, .inl (D.1 14, 3, .inl (fun j => i2 (upZ (upZ (upZ (fun _ => 0) 0 109) 1 97) 2 120 j)))) :: T) → va_S A s.heap H locs → W p l e R s m args below meth c H locs 66 27714 Q (F0 m 1414 ls [])) : W p l e R s m args below meth c H locs 63 27701 Q (F0 m 1328 ls []) := by
  refine lv_aload_n hx hb dX12_init_1328 rfl (lv_at hl 0 rfl) ?_
  refine lv_iconst (v := 3) hx hb dX12_init_1329 (by decide) ?_
  refine va_newa (atype := .char) (a0 := (3, .inl (fun _ => 0))) (ty := .char) (N' := 3) hx hb (ht _ ac_char) rfl hK hP hD hS hA (fun _ => rfl) (by decide) (by decide) (by decide) (Nat.le_trans (Nat.le_of_ble_eq_true rfl) hRc) (Nat.le_trans (Nat.le_of_ble_eq_true rfl) hRs) dX12_init_1330 (fun q_129 cA H hK2 hP hD hS => ?_)
  obtain rfl := z_cls_char hK hK2
  refine W.widen (k := 64) (n := 27704) (Nat.le_of_ble_eq_true rfl) (Nat.le_of_ble_eq_true rfl) ?_
  obtain ⟨hP, hD⟩ := z_rot hP hD
  have hP : va_P D vwCl ((h0, .inr (12, fs)) :: (q_129, .inl (D.1 14, 3, .inl (fun _ => i2 0))) :: T) H := hP
  have hD : va_D A ((h0, .inr (12, fs)) :: (q_129, .inl (D.1 14, 3, .inl (fun _ => i2 0))) :: T) := hD
  refine lv_dup hx hb dX12_init_1332 rfl ?_
  refine lv_iconst (v := 0) hx hb dX12_init_1333 (by decide) ?_
  refine lv_bipush (v := 109) hx hb dX12_init_1334 (by decide) ?_
  refine va_cast hx hb hK hP hD hS 1 1 rfl rfl (z_in (by decide) (by decide)) dX12_init_1336 (fun H locs hP hD hS => ?_)
  rw [c_i2 (F := fun _ => 0) (k := Int32.toNatClampNeg 0) (c := vp_nar .char 109) (v := 109) (by decide)] at hP hD
  have hP : va_P D vwCl ((h0, .inr (12, fs)) :: (q_129, .inl (D.1 14, 3, .inl (fun j => i2 (upZ (fun _ => 0) 0 109 j)))) :: T) H := hP
  have hD : va_D A ((h0, .inr (12, fs)) :: (q_129, .inl (D.1 14, 3, .inl (fun j => i2 (upZ (fun _ => 0) 0 109 j)))) :: T) := hD
  refine lv_dup hx hb dX12_init_1337 rfl ?_
  refine lv_iconst (v := 1) hx hb dX12_init_1338 (by decide) ?_
  refine lv_bipush (v := 97) hx hb dX12_init_1339 (by decide) ?_
  refine va_cast hx hb hK hP hD hS 1 1 rfl rfl (z_in (by decide) (by decide)) dX12_init_1341 (fun H locs hP hD hS => ?_)
  rw [c_i2 (F := upZ (fun _ => 0) 0 109) (k := Int32.toNatClampNeg 1) (c := vp_nar .char 97) (v := 97) (by decide)] at hP hD
  have hP : va_P D vwCl ((h0, .inr (12, fs)) :: (q_129, .inl (D.1 14, 3, .inl (fun j => i2 (upZ (upZ (fun _ => 0) 0 109) 1 97 j)))) :: T) H := hP
  have hD : va_D A ((h0, .inr (12, fs)) :: (q_129, .inl (D.1 14, 3, .inl (fun j => i2 (upZ (upZ (fun _ => 0) 0 109) 1 97 j)))) :: T) := hD
  refine lv_dup hx hb dX12_init_1342 rfl ?_
  refine lv_iconst (v := 2) hx hb dX12_init_1343 (by decide) ?_
  refine lv_bipush (v := 120) hx hb dX12_init_1344 (by decide) ?_
  refine va_cast hx hb hK hP hD hS 1 1 rfl rfl (z_in (by decide) (by decide)) dX12_init_1346 (fun H locs hP hD hS => ?_)
  rw [c_i2 (F := upZ (upZ (fun _ => 0) 0 109) 1 97) (k := Int32.toNatClampNeg 2) (c := vp_nar .char 120) (v := 120) (by decide)] at hP hD
  have hP : va_P D vwCl ((h0, .inr (12, fs)) :: (q_129, .inl (D.1 14, 3, .inl (fun j => i2 (upZ (upZ (upZ (fun _ => 0) 0 109) 1 97) 2 120 j)))) :: T) H := hP
  have hD : va_D A ((h0, .inr (12, fs)) :: (q_129, .inl (D.1 14, 3, .inl (fun j => i2 (upZ (upZ (upZ (fun _ => 0) 0 109) 1 97) 2 120 j)))) :: T) := hD
  refine va_putF (D := D) (ci := 12) (v := .ref q_129) (ty := .array .char) (C := RX12) (T := TX12) (N := 116) hx hb ht inX12 tyX12 tyX12_ok nmX12 hown hK hP hD hS 0 rfl rfl 90 (by decide) (ht (.fieldLink RX12 210 "CloneVolumesModel" "maxAsked" "[C") fl_X12_210) (fun _ h9 => h9) rfl hin rfl (by decide +kernel) rfl rfl (by rw [hlen]; decide) dX12_init_1347 (fun H locs hP hD hS => ?_)
  have hP : va_P D vwCl ((h0, .inr (12, (fs.set 90 (.ref q_129)))) :: (q_129, .inl (D.1 14, 3, .inl (fun j => i2 (upZ (upZ (upZ (fun _ => 0) 0 109) 1 97) 2 120 j)))) :: T) H := hP
  have hD : va_D A ((h0, .inr (12, (fs.set 90 (.ref q_129)))) :: (q_129, .inl (D.1 14, 3, .inl (fun j => i2 (upZ (upZ (upZ (fun _ => 0) 0 109) 1 97) 2 120 j)))) :: T) := hD
  generalize hfs_130 : fs.set 90 (.ref q_129) = fs_130 at hP hD
  have hlen : fs_130.length = 116 := by rw [← hfs_130, List.length_set]; exact hlen
  have hP : va_P D vwCl ((h0, .inr (12, fs_130)) :: (q_129, .inl (D.1 14, 3, .inl (fun j => i2 (upZ (upZ (upZ (fun _ => 0) 0 109) 1 97) 2 120 j)))) :: T) H := hP
  have hD : va_D A ((h0, .inr (12, fs_130)) :: (q_129, .inl (D.1 14, 3, .inl (fun j => i2 (upZ (upZ (upZ (fun _ => 0) 0 109) 1 97) 2 120 j)))) :: T) := hD
  refine lv_aload_n hx hb dX12_init_1350 rfl (lv_at hl 0 rfl) ?_
  refine lv_iconst (v := 5) hx hb dX12_init_1351 (by decide) ?_
  refine va_newa (atype := .char) (a0 := (5, .inl (fun _ => 0))) (ty := .char) (N' := 5) hx hb (ht _ ac_char) rfl hK hP hD hS hA (fun _ => rfl) (by decide) (by decide) (by decide) (Nat.le_trans (Nat.le_of_ble_eq_true rfl) hRc) (Nat.le_trans (Nat.le_of_ble_eq_true rfl) hRs) dX12_init_1352 (fun q_131 cA H hK2 hP hD hS => ?_)
  obtain rfl := z_cls_char hK hK2
  refine W.widen (k := 65) (n := 27709) (Nat.le_of_ble_eq_true rfl) (Nat.le_of_ble_eq_true rfl) ?_
  obtain ⟨hP, hD⟩ := z_rot hP hD
  have hP : va_P D vwCl ((h0, .inr (12, fs_130)) :: (q_131, .inl (D.1 14, 5, .inl (fun _ => i2 0))) :: (q_129, .inl (D.1 14, 3, .inl (fun j => i2 (upZ (upZ (upZ (fun _ => 0) 0 109) 1 97) 2 120 j)))) :: T) H := hP
  have hD : va_D A ((h0, .inr (12, fs_130)) :: (q_131, .inl (D.1 14, 5, .inl (fun _ => i2 0))) :: (q_129, .inl (D.1 14, 3, .inl (fun j => i2 (upZ (upZ (upZ (fun _ => 0) 0 109) 1 97) 2 120 j)))) :: T) := hD
  refine lv_dup hx hb dX12_init_1354 rfl ?_
  refine lv_iconst (v := 0) hx hb dX12_init_1355 (by decide) ?_
  refine lv_bipush (v := 108) hx hb dX12_init_1356 (by decide) ?_
  refine va_cast hx hb hK hP hD hS 1 1 rfl rfl (z_in (by decide) (by decide)) dX12_init_1358 (fun H locs hP hD hS => ?_)
  rw [c_i2 (F := fun _ => 0) (k := Int32.toNatClampNeg 0) (c := vp_nar .char 108) (v := 108) (by decide)] at hP hD
  have hP : va_P D vwCl ((h0, .inr (12, fs_130)) :: (q_131, .inl (D.1 14, 5, .inl (fun j => i2 (upZ (fun _ => 0) 0 108 j)))) :: (q_129, .inl (D.1 14, 3, .inl (fun j => i2 (upZ (upZ (upZ (fun _ => 0) 0 109) 1 97) 2 120 j)))) :: T) H := hP
  have hD : va_D A ((h0, .inr (12, fs_130)) :: (q_131, .inl (D.1 14, 5, .inl (fun j => i2 (upZ (fun _ => 0) 0 108 j)))) :: (q_129, .inl (D.1 14, 3, .inl (fun j => i2 (upZ (upZ (upZ (fun _ => 0) 0 109) 1 97) 2 120 j)))) :: T) := hD
  refine lv_dup hx hb dX12_init_1359 rfl ?_
  refine lv_iconst (v := 1) hx hb dX12_init_1360 (by decide) ?_
  refine lv_bipush (v := 101) hx hb dX12_init_1361 (by decide) ?_
  refine va_cast hx hb hK hP hD hS 1 1 rfl rfl (z_in (by decide) (by decide)) dX12_init_1363 (fun H locs hP hD hS => ?_)
  rw [c_i2 (F := upZ (fun _ => 0) 0 108) (k := Int32.toNatClampNeg 1) (c := vp_nar .char 101) (v := 101) (by decide)] at hP hD
  have hP : va_P D vwCl ((h0, .inr (12, fs_130)) :: (q_131, .inl (D.1 14, 5, .inl (fun j => i2 (upZ (upZ (fun _ => 0) 0 108) 1 101 j)))) :: (q_129, .inl (D.1 14, 3, .inl (fun j => i2 (upZ (upZ (upZ (fun _ => 0) 0 109) 1 97) 2 120 j)))) :: T) H := hP
  have hD : va_D A ((h0, .inr (12, fs_130)) :: (q_131, .inl (D.1 14, 5, .inl (fun j => i2 (upZ (upZ (fun _ => 0) 0 108) 1 101 j)))) :: (q_129, .inl (D.1 14, 3, .inl (fun j => i2 (upZ (upZ (upZ (fun _ => 0) 0 109) 1 97) 2 120 j)))) :: T) := hD
  refine lv_dup hx hb dX12_init_1364 rfl ?_
  refine lv_iconst (v := 2) hx hb dX12_init_1365 (by decide) ?_
  refine lv_bipush (v := 118) hx hb dX12_init_1366 (by decide) ?_
  refine va_cast hx hb hK hP hD hS 1 1 rfl rfl (z_in (by decide) (by decide)) dX12_init_1368 (fun H locs hP hD hS => ?_)
  rw [c_i2 (F := upZ (upZ (fun _ => 0) 0 108) 1 101) (k := Int32.toNatClampNeg 2) (c := vp_nar .char 118) (v := 118) (by decide)] at hP hD
  have hP : va_P D vwCl ((h0, .inr (12, fs_130)) :: (q_131, .inl (D.1 14, 5, .inl (fun j => i2 (upZ (upZ (upZ (fun _ => 0) 0 108) 1 101) 2 118 j)))) :: (q_129, .inl (D.1 14, 3, .inl (fun j => i2 (upZ (upZ (upZ (fun _ => 0) 0 109) 1 97) 2 120 j)))) :: T) H := hP
  have hD : va_D A ((h0, .inr (12, fs_130)) :: (q_131, .inl (D.1 14, 5, .inl (fun j => i2 (upZ (upZ (upZ (fun _ => 0) 0 108) 1 101) 2 118 j)))) :: (q_129, .inl (D.1 14, 3, .inl (fun j => i2 (upZ (upZ (upZ (fun _ => 0) 0 109) 1 97) 2 120 j)))) :: T) := hD
  refine lv_dup hx hb dX12_init_1369 rfl ?_
  refine lv_iconst (v := 3) hx hb dX12_init_1370 (by decide) ?_
  refine lv_bipush (v := 101) hx hb dX12_init_1371 (by decide) ?_
  refine va_cast hx hb hK hP hD hS 1 1 rfl rfl (z_in (by decide) (by decide)) dX12_init_1373 (fun H locs hP hD hS => ?_)
  rw [c_i2 (F := upZ (upZ (upZ (fun _ => 0) 0 108) 1 101) 2 118) (k := Int32.toNatClampNeg 3) (c := vp_nar .char 101) (v := 101) (by decide)] at hP hD
  have hP : va_P D vwCl ((h0, .inr (12, fs_130)) :: (q_131, .inl (D.1 14, 5, .inl (fun j => i2 (upZ (upZ (upZ (upZ (fun _ => 0) 0 108) 1 101) 2 118) 3 101 j)))) :: (q_129, .inl (D.1 14, 3, .inl (fun j => i2 (upZ (upZ (upZ (fun _ => 0) 0 109) 1 97) 2 120 j)))) :: T) H := hP
  have hD : va_D A ((h0, .inr (12, fs_130)) :: (q_131, .inl (D.1 14, 5, .inl (fun j => i2 (upZ (upZ (upZ (upZ (fun _ => 0) 0 108) 1 101) 2 118) 3 101 j)))) :: (q_129, .inl (D.1 14, 3, .inl (fun j => i2 (upZ (upZ (upZ (fun _ => 0) 0 109) 1 97) 2 120 j)))) :: T) := hD
  refine lv_dup hx hb dX12_init_1374 rfl ?_
  refine lv_iconst (v := 4) hx hb dX12_init_1375 (by decide) ?_
  refine lv_bipush (v := 108) hx hb dX12_init_1376 (by decide) ?_
  refine va_cast hx hb hK hP hD hS 1 1 rfl rfl (z_in (by decide) (by decide)) dX12_init_1378 (fun H locs hP hD hS => ?_)
  rw [c_i2 (F := upZ (upZ (upZ (upZ (fun _ => 0) 0 108) 1 101) 2 118) 3 101) (k := Int32.toNatClampNeg 4) (c := vp_nar .char 108) (v := 108) (by decide)] at hP hD
  have hP : va_P D vwCl ((h0, .inr (12, fs_130)) :: (q_131, .inl (D.1 14, 5, .inl (fun j => i2 (upZ (upZ (upZ (upZ (upZ (fun _ => 0) 0 108) 1 101) 2 118) 3 101) 4 108 j)))) :: (q_129, .inl (D.1 14, 3, .inl (fun j => i2 (upZ (upZ (upZ (fun _ => 0) 0 109) 1 97) 2 120 j)))) :: T) H := hP
  have hD : va_D A ((h0, .inr (12, fs_130)) :: (q_131, .inl (D.1 14, 5, .inl (fun j => i2 (upZ (upZ (upZ (upZ (upZ (fun _ => 0) 0 108) 1 101) 2 118) 3 101) 4 108 j)))) :: (q_129, .inl (D.1 14, 3, .inl (fun j => i2 (upZ (upZ (upZ (fun _ => 0) 0 109) 1 97) 2 120 j)))) :: T) := hD
  refine va_putF (D := D) (ci := 12) (v := .ref q_131) (ty := .array .char) (C := RX12) (T := TX12) (N := 116) hx hb ht inX12 tyX12 tyX12_ok nmX12 hown hK hP hD hS 0 rfl rfl 91 (by decide) (ht (.fieldLink RX12 213 "CloneVolumesModel" "levelAsked" "[C") fl_X12_213) (fun _ h9 => h9) rfl hin rfl (by decide +kernel) rfl rfl (by rw [hlen]; decide) dX12_init_1379 (fun H locs hP hD hS => ?_)
  have hP : va_P D vwCl ((h0, .inr (12, (fs_130.set 91 (.ref q_131)))) :: (q_131, .inl (D.1 14, 5, .inl (fun j => i2 (upZ (upZ (upZ (upZ (upZ (fun _ => 0) 0 108) 1 101) 2 118) 3 101) 4 108 j)))) :: (q_129, .inl (D.1 14, 3, .inl (fun j => i2 (upZ (upZ (upZ (fun _ => 0) 0 109) 1 97) 2 120 j)))) :: T) H := hP
  have hD : va_D A ((h0, .inr (12, (fs_130.set 91 (.ref q_131)))) :: (q_131, .inl (D.1 14, 5, .inl (fun j => i2 (upZ (upZ (upZ (upZ (upZ (fun _ => 0) 0 108) 1 101) 2 118) 3 101) 4 108 j)))) :: (q_129, .inl (D.1 14, 3, .inl (fun j => i2 (upZ (upZ (upZ (fun _ => 0) 0 109) 1 97) 2 120 j)))) :: T) := hD
  generalize hfs_132 : fs_130.set 91 (.ref q_131) = fs_132 at hP hD
  have hlen : fs_132.length = 116 := by rw [← hfs_132, List.length_set]; exact hlen
  have hP : va_P D vwCl ((h0, .inr (12, fs_132)) :: (q_131, .inl (D.1 14, 5, .inl (fun j => i2 (upZ (upZ (upZ (upZ (upZ (fun _ => 0) 0 108) 1 101) 2 118) 3 101) 4 108 j)))) :: (q_129, .inl (D.1 14, 3, .inl (fun j => i2 (upZ (upZ (upZ (fun _ => 0) 0 109) 1 97) 2 120 j)))) :: T) H := hP
  have hD : va_D A ((h0, .inr (12, fs_132)) :: (q_131, .inl (D.1 14, 5, .inl (fun j => i2 (upZ (upZ (upZ (upZ (upZ (fun _ => 0) 0 108) 1 101) 2 118) 3 101) 4 108 j)))) :: (q_129, .inl (D.1 14, 3, .inl (fun j => i2 (upZ (upZ (upZ (fun _ => 0) 0 109) 1 97) 2 120 j)))) :: T) := hD
  refine lv_aload_n hx hb dX12_init_1382 rfl (lv_at hl 0 rfl) ?_
  refine lv_iconst (v := 5) hx hb dX12_init_1383 (by decide) ?_
  refine va_newa (atype := .char) (a0 := (5, .inl (fun _ => 0))) (ty := .char) (N' := 5) hx hb (ht _ ac_char) rfl hK hP hD hS hA (fun _ => rfl) (by decide) (by decide) (by decide) (Nat.le_trans (Nat.le_of_ble_eq_true rfl) hRc) (Nat.le_trans (Nat.le_of_ble_eq_true rfl) hRs) dX12_init_1384 (fun q_133 cA H hK2 hP hD hS => ?_)
  obtain rfl := z_cls_char hK hK2
  refine W.widen (k := 66) (n := 27714) (Nat.le_of_ble_eq_true rfl) (Nat.le_of_ble_eq_true rfl) ?_
  obtain ⟨hP, hD⟩ := z_rot hP hD
  have hP : va_P D vwCl ((h0, .inr (12, fs_132)) :: (q_133, .inl (D.1 14, 5, .inl (fun _ => i2 0))) :: (q_131, .inl (D.1 14, 5, .inl (fun j => i2 (upZ (upZ (upZ (upZ (upZ (fun _ => 0) 0 108) 1 101) 2 118) 3 101) 4 108 j)))) :: (q_129, .inl (D.1 14, 3, .inl (fun j => i2 (upZ (upZ (upZ (fun _ => 0) 0 109) 1 97) 2 120 j)))) :: T) H := hP
  have hD : va_D A ((h0, .inr (12, fs_132)) :: (q_133, .inl (D.1 14, 5, .inl (fun _ => i2 0))) :: (q_131, .inl (D.1 14, 5, .inl (fun j => i2 (upZ (upZ (upZ (upZ (upZ (fun _ => 0) 0 108) 1 101) 2 118) 3 101) 4 108 j)))) :: (q_129, .inl (D.1 14, 3, .inl (fun j => i2 (upZ (upZ (upZ (fun _ => 0) 0 109) 1 97) 2 120 j)))) :: T) := hD
  refine lv_dup hx hb dX12_init_1386 rfl ?_
  refine lv_iconst (v := 0) hx hb dX12_init_1387 (by decide) ?_
  refine lv_bipush (v := 98) hx hb dX12_init_1388 (by decide) ?_
  refine va_cast hx hb hK hP hD hS 1 1 rfl rfl (z_in (by decide) (by decide)) dX12_init_1390 (fun H locs hP hD hS => ?_)
  rw [c_i2 (F := fun _ => 0) (k := Int32.toNatClampNeg 0) (c := vp_nar .char 98) (v := 98) (by decide)] at hP hD
  have hP : va_P D vwCl ((h0, .inr (12, fs_132)) :: (q_133, .inl (D.1 14, 5, .inl (fun j => i2 (upZ (fun _ => 0) 0 98 j)))) :: (q_131, .inl (D.1 14, 5, .inl (fun j => i2 (upZ (upZ (upZ (upZ (upZ (fun _ => 0) 0 108) 1 101) 2 118) 3 101) 4 108 j)))) :: (q_129, .inl (D.1 14, 3, .inl (fun j => i2 (upZ (upZ (upZ (fun _ => 0) 0 109) 1 97) 2 120 j)))) :: T) H := hP
  have hD : va_D A ((h0, .inr (12, fs_132)) :: (q_133, .inl (D.1 14, 5, .inl (fun j => i2 (upZ (fun _ => 0) 0 98 j)))) :: (q_131, .inl (D.1 14, 5, .inl (fun j => i2 (upZ (upZ (upZ (upZ (upZ (fun _ => 0) 0 108) 1 101) 2 118) 3 101) 4 108 j)))) :: (q_129, .inl (D.1 14, 3, .inl (fun j => i2 (upZ (upZ (upZ (fun _ => 0) 0 109) 1 97) 2 120 j)))) :: T) := hD
  refine lv_dup hx hb dX12_init_1391 rfl ?_
  refine lv_iconst (v := 1) hx hb dX12_init_1392 (by decide) ?_
  refine lv_bipush (v := 108) hx hb dX12_init_1393 (by decide) ?_
  refine va_cast hx hb hK hP hD hS 1 1 rfl rfl (z_in (by decide) (by decide)) dX12_init_1395 (fun H locs hP hD hS => ?_)
  rw [c_i2 (F := upZ (fun _ => 0) 0 98) (k := Int32.toNatClampNeg 1) (c := vp_nar .char 108) (v := 108) (by decide)] at hP hD
  have hP : va_P D vwCl ((h0, .inr (12, fs_132)) :: (q_133, .inl (D.1 14, 5, .inl (fun j => i2 (upZ (upZ (fun _ => 0) 0 98) 1 108 j)))) :: (q_131, .inl (D.1 14, 5, .inl (fun j => i2 (upZ (upZ (upZ (upZ (upZ (fun _ => 0) 0 108) 1 101) 2 118) 3 101) 4 108 j)))) :: (q_129, .inl (D.1 14, 3, .inl (fun j => i2 (upZ (upZ (upZ (fun _ => 0) 0 109) 1 97) 2 120 j)))) :: T) H := hP
  have hD : va_D A ((h0, .inr (12, fs_132)) :: (q_133, .inl (D.1 14, 5, .inl (fun j => i2 (upZ (upZ (fun _ => 0) 0 98) 1 108 j)))) :: (q_131, .inl (D.1 14, 5, .inl (fun j => i2 (upZ (upZ (upZ (upZ (upZ (fun _ => 0) 0 108) 1 101) 2 118) 3 101) 4 108 j)))) :: (q_129, .inl (D.1 14, 3, .inl (fun j => i2 (upZ (upZ (upZ (fun _ => 0) 0 109) 1 97) 2 120 j)))) :: T) := hD
  refine lv_dup hx hb dX12_init_1396 rfl ?_
  refine lv_iconst (v := 2) hx hb dX12_init_1397 (by decide) ?_
  refine lv_bipush (v := 111) hx hb dX12_init_1398 (by decide) ?_
  refine va_cast hx hb hK hP hD hS 1 1 rfl rfl (z_in (by decide) (by decide)) dX12_init_1400 (fun H locs hP hD hS => ?_)
  rw [c_i2 (F := upZ (upZ (fun _ => 0) 0 98) 1 108) (k := Int32.toNatClampNeg 2) (c := vp_nar .char 111) (v := 111) (by decide)] at hP hD
  have hP : va_P D vwCl ((h0, .inr (12, fs_132)) :: (q_133, .inl (D.1 14, 5, .inl (fun j => i2 (upZ (upZ (upZ (fun _ => 0) 0 98) 1 108) 2 111 j)))) :: (q_131, .inl (D.1 14, 5, .inl (fun j => i2 (upZ (upZ (upZ (upZ (upZ (fun _ => 0) 0 108) 1 101) 2 118) 3 101) 4 108 j)))) :: (q_129, .inl (D.1 14, 3, .inl (fun j => i2 (upZ (upZ (upZ (fun _ => 0) 0 109) 1 97) 2 120 j)))) :: T) H := hP
  have hD : va_D A ((h0, .inr (12, fs_132)) :: (q_133, .inl (D.1 14, 5, .inl (fun j => i2 (upZ (upZ (upZ (fun _ => 0) 0 98) 1 108) 2 111 j)))) :: (q_131, .inl (D.1 14, 5, .inl (fun j => i2 (upZ (upZ (upZ (upZ (upZ (fun _ => 0) 0 108) 1 101) 2 118) 3 101) 4 108 j)))) :: (q_129, .inl (D.1 14, 3, .inl (fun j => i2 (upZ (upZ (upZ (fun _ => 0) 0 109) 1 97) 2 120 j)))) :: T) := hD
  refine lv_dup hx hb dX12_init_1401 rfl ?_
  refine lv_iconst (v := 3) hx hb dX12_init_1402 (by decide) ?_
  refine lv_bipush (v := 99) hx hb dX12_init_1403 (by decide) ?_
  refine va_cast hx hb hK hP hD hS 1 1 rfl rfl (z_in (by decide) (by decide)) dX12_init_1405 (fun H locs hP hD hS => ?_)
  rw [c_i2 (F := upZ (upZ (upZ (fun _ => 0) 0 98) 1 108) 2 111) (k := Int32.toNatClampNeg 3) (c := vp_nar .char 99) (v := 99) (by decide)] at hP hD
  have hP : va_P D vwCl ((h0, .inr (12, fs_132)) :: (q_133, .inl (D.1 14, 5, .inl (fun j => i2 (upZ (upZ (upZ (upZ (fun _ => 0) 0 98) 1 108) 2 111) 3 99 j)))) :: (q_131, .inl (D.1 14, 5, .inl (fun j => i2 (upZ (upZ (upZ (upZ (upZ (fun _ => 0) 0 108) 1 101) 2 118) 3 101) 4 108 j)))) :: (q_129, .inl (D.1 14, 3, .inl (fun j => i2 (upZ (upZ (upZ (fun _ => 0) 0 109) 1 97) 2 120 j)))) :: T) H := hP
  have hD : va_D A ((h0, .inr (12, fs_132)) :: (q_133, .inl (D.1 14, 5, .inl (fun j => i2 (upZ (upZ (upZ (upZ (fun _ => 0) 0 98) 1 108) 2 111) 3 99 j)))) :: (q_131, .inl (D.1 14, 5, .inl (fun j => i2 (upZ (upZ (upZ (upZ (upZ (fun _ => 0) 0 108) 1 101) 2 118) 3 101) 4 108 j)))) :: (q_129, .inl (D.1 14, 3, .inl (fun j => i2 (upZ (upZ (upZ (fun _ => 0) 0 109) 1 97) 2 120 j)))) :: T) := hD
  refine lv_dup hx hb dX12_init_1406 rfl ?_
  refine lv_iconst (v := 4) hx hb dX12_init_1407 (by decide) ?_
  refine lv_bipush (v := 107) hx hb dX12_init_1408 (by decide) ?_
  refine va_cast hx hb hK hP hD hS 1 1 rfl rfl (z_in (by decide) (by decide)) dX12_init_1410 (fun H locs hP hD hS => ?_)
  rw [c_i2 (F := upZ (upZ (upZ (upZ (fun _ => 0) 0 98) 1 108) 2 111) 3 99) (k := Int32.toNatClampNeg 4) (c := vp_nar .char 107) (v := 107) (by decide)] at hP hD
  have hP : va_P D vwCl ((h0, .inr (12, fs_132)) :: (q_133, .inl (D.1 14, 5, .inl (fun j => i2 (upZ (upZ (upZ (upZ (upZ (fun _ => 0) 0 98) 1 108) 2 111) 3 99) 4 107 j)))) :: (q_131, .inl (D.1 14, 5, .inl (fun j => i2 (upZ (upZ (upZ (upZ (upZ (fun _ => 0) 0 108) 1 101) 2 118) 3 101) 4 108 j)))) :: (q_129, .inl (D.1 14, 3, .inl (fun j => i2 (upZ (upZ (upZ (fun _ => 0) 0 109) 1 97) 2 120 j)))) :: T) H := hP
  have hD : va_D A ((h0, .inr (12, fs_132)) :: (q_133, .inl (D.1 14, 5, .inl (fun j => i2 (upZ (upZ (upZ (upZ (upZ (fun _ => 0) 0 98) 1 108) 2 111) 3 99) 4 107 j)))) :: (q_131, .inl (D.1 14, 5, .inl (fun j => i2 (upZ (upZ (upZ (upZ (upZ (fun _ => 0) 0 108) 1 101) 2 118) 3 101) 4 108 j)))) :: (q_129, .inl (D.1 14, 3, .inl (fun j => i2 (upZ (upZ (upZ (fun _ => 0) 0 109) 1 97) 2 120 j)))) :: T) := hD
  refine va_putF (D := D) (ci := 12) (v := .ref q_133) (ty := .array .char) (C := RX12) (T := TX12) (N := 116) hx hb ht inX12 tyX12 tyX12_ok nmX12 hown hK hP hD hS 0 rfl rfl 92 (by decide) (ht (.fieldLink RX12 216 "CloneVolumesModel" "blockAsked" "[C") fl_X12_216) (fun _ h9 => h9) rfl hin rfl (by decide +kernel) rfl rfl (by rw [hlen]; decide) dX12_init_1411 (fun H locs hP hD hS => ?_)
  have hP : va_P D vwCl ((h0, .inr (12, (fs_132.set 92 (.ref q_133)))) :: (q_133, .inl (D.1 14, 5, .inl (fun j => i2 (upZ (upZ (upZ (upZ (upZ (fun _ => 0) 0 98) 1 108) 2 111) 3 99) 4 107 j)))) :: (q_131, .inl (D.1 14, 5, .inl (fun j => i2 (upZ (upZ (upZ (upZ (upZ (fun _ => 0) 0 108) 1 101) 2 118) 3 101) 4 108 j)))) :: (q_129, .inl (D.1 14, 3, .inl (fun j => i2 (upZ (upZ (upZ (fun _ => 0) 0 109) 1 97) 2 120 j)))) :: T) H := hP
  have hD : va_D A ((h0, .inr (12, (fs_132.set 92 (.ref q_133)))) :: (q_133, .inl (D.1 14, 5, .inl (fun j => i2 (upZ (upZ (upZ (upZ (upZ (fun _ => 0) 0 98) 1 108) 2 111) 3 99) 4 107 j)))) :: (q_131, .inl (D.1 14, 5, .inl (fun j => i2 (upZ (upZ (upZ (upZ (upZ (fun _ => 0) 0 108) 1 101) 2 118) 3 101) 4 108 j)))) :: (q_129, .inl (D.1 14, 3, .inl (fun j => i2 (upZ (upZ (upZ (fun _ => 0) 0 109) 1 97) 2 120 j)))) :: T) := hD
  generalize hfs_134 : fs_132.set 92 (.ref q_133) = fs_134 at hP hD
  have hlen : fs_134.length = 116 := by rw [← hfs_134, List.length_set]; exact hlen
  have hP : va_P D vwCl ((h0, .inr (12, fs_134)) :: (q_133, .inl (D.1 14, 5, .inl (fun j => i2 (upZ (upZ (upZ (upZ (upZ (fun _ => 0) 0 98) 1 108) 2 111) 3 99) 4 107 j)))) :: (q_131, .inl (D.1 14, 5, .inl (fun j => i2 (upZ (upZ (upZ (upZ (upZ (fun _ => 0) 0 108) 1 101) 2 118) 3 101) 4 108 j)))) :: (q_129, .inl (D.1 14, 3, .inl (fun j => i2 (upZ (upZ (upZ (fun _ => 0) 0 109) 1 97) 2 120 j)))) :: T) H := hP
  have hD : va_D A ((h0, .inr (12, fs_134)) :: (q_133, .inl (D.1 14, 5, .inl (fun j => i2 (upZ (upZ (upZ (upZ (upZ (fun _ => 0) 0 98) 1 108) 2 111) 3 99) 4 107 j)))) :: (q_131, .inl (D.1 14, 5, .inl (fun j => i2 (upZ (upZ (upZ (upZ (upZ (fun _ => 0) 0 108) 1 101) 2 118) 3 101) 4 108 j)))) :: (q_129, .inl (D.1 14, 3, .inl (fun j => i2 (upZ (upZ (upZ (fun _ => 0) 0 109) 1 97) 2 120 j)))) :: T) := hD
  exact kk q_133 q_131 q_129 fs_134 _ _ (by rw [← hfs_134, ← hfs_132, ← hfs_130]) hP hD hS
set_option maxHeartbeats 4000000 in
set_option maxRecDepth 100000 in
theorem cM_18 {p : Program} {l : Launch} {e : Env} {R : Room} {s : State} {m : MethodId} {args : Array Value} {below : List Frame} {meth : Method} {c : Code} {Q : State → Prop} {D : va_G} {A : Nat → Prop} {ls : Array Slot} {h0 : Nat} {T : va_W} (hx : p.tables.exec = Jvm.exec) (hb : c.code = cX12_init) (ht : ∀ w ∈ lw_gd, w.before args s = true) (hown : s.vm.findClass RX12 = some m.cls) (hin : meth.name = "<init>") (hK : va_K D vwCl (TY D) s) (hA : ∀ q : Nat, s.heap.size ≤ q → A q) (hRc : 80 ≤ R.cells) (hRs : 35050 ≤ R.slots) (hl : lv_has ls 1 [(0, .ref h0)]) {fs : List Value} (hlen : fs.length = 116) {H : Heap} {locs : List Loc} (hP : va_P D vwCl ((h0, .inr (12, fs)) :: T) H) (hD : va_D A ((h0, .inr (12, fs)) :: T)) (hS : va_S A s.heap H locs)
    (kk : ∀ (q_137 : Nat) (q_135 : Nat) (fs' : List Value) (H : Heap) (locs : List Loc), fs' = ((fs.set 93 (.ref q_135)).set 94 (.ref q_137)) → va_P D vwCl ((h0, .inr (12, fs')) :: (q_137, .inl (D.1 14, 7, .inl (fun j => i2 (upZ (upZ (upZ (upZ (upZ (upZ (upZ (fun _ => 0) 0 101) 1 110) 2 116) 3 114) 4 105) 5 101) 6 115 j)))) :: (q_135, .inl (D.1 14, 4, .inl (fun j => i2 (upZ (upZ (upZ (upZ (fun _ => 0) 0 102) 1 114) 2 111) 3 109 j)))) :: T) H → va_D A ((h0, .inr (12, fs')) :: (q_137, .inl (D.1 14, 7, .inl (fun j => i2 (upZ (upZ (upZ (upZ (upZ (upZ (upZ (fun _ => 0) 0 101) 1 110) 2 116) 3 114) 4 105) 5 101) 6 115 j)))) :: (q_135, .inl (D.1 14, 4, .inl (fun j => i2 (upZ (upZ (upZ (upZ (fun _ => 0) 0 102) 1 114) 2 111) 3 109 j)))) :: T) → va_S A s.heap H locs → W p l e R s m args below meth c H locs 68 27725 Q (F0 m 1485 ls [])) : W p l e R s m args below meth c H locs 66 27714 Q (F0 m 1414 ls []) := by
  refine lv_aload_n hx hb dX12_init_1414 rfl (lv_at hl 0 rfl) ?_
  refine lv_iconst (v := 4) hx hb dX12_init_1415 (by decide) ?_
  refine va_newa (atype := .char) (a0 := (4, .inl (fun _ => 0))) (ty := .char) (N' := 4) hx hb (ht _ ac_char) rfl hK hP hD hS hA (fun _ => rfl) (by decide) (by decide) (by decide) (Nat.le_trans (Nat.le_of_ble_eq_true rfl) hRc) (Nat.le_trans (Nat.le_of_ble_eq_true rfl) hRs) dX12_init_1416 (fun q_135 cA H hK2 hP hD hS => ?_)
  obtain rfl := z_cls_char hK hK2
  refine W.widen (k := 67) (n := 27718) (Nat.le_of_ble_eq_true rfl) (Nat.le_of_ble_eq_true rfl) ?_
  obtain ⟨hP, hD⟩ := z_rot hP hD
  have hP : va_P D vwCl ((h0, .inr (12, fs)) :: (q_135, .inl (D.1 14, 4, .inl (fun _ => i2 0))) :: T) H := hP
  have hD : va_D A ((h0, .inr (12, fs)) :: (q_135, .inl (D.1 14, 4, .inl (fun _ => i2 0))) :: T) := hD
  refine lv_dup hx hb dX12_init_1418 rfl ?_
  refine lv_iconst (v := 0) hx hb dX12_init_1419 (by decide) ?_
  refine lv_bipush (v := 102) hx hb dX12_init_1420 (by decide) ?_
  refine va_cast hx hb hK hP hD hS 1 1 rfl rfl (z_in (by decide) (by decide)) dX12_init_1422 (fun H locs hP hD hS => ?_)
  rw [c_i2 (F := fun _ => 0) (k := Int32.toNatClampNeg 0) (c := vp_nar .char 102) (v := 102) (by decide)] at hP hD
  have hP : va_P D vwCl ((h0, .inr (12, fs)) :: (q_135, .inl (D.1 14, 4, .inl (fun j => i2 (upZ (fun _ => 0) 0 102 j)))) :: T) H := hP
  have hD : va_D A ((h0, .inr (12, fs)) :: (q_135, .inl (D.1 14, 4, .inl (fun j => i2 (upZ (fun _ => 0) 0 102 j)))) :: T) := hD
  refine lv_dup hx hb dX12_init_1423 rfl ?_
  refine lv_iconst (v := 1) hx hb dX12_init_1424 (by decide) ?_
  refine lv_bipush (v := 114) hx hb dX12_init_1425 (by decide) ?_
  refine va_cast hx hb hK hP hD hS 1 1 rfl rfl (z_in (by decide) (by decide)) dX12_init_1427 (fun H locs hP hD hS => ?_)
  rw [c_i2 (F := upZ (fun _ => 0) 0 102) (k := Int32.toNatClampNeg 1) (c := vp_nar .char 114) (v := 114) (by decide)] at hP hD
  have hP : va_P D vwCl ((h0, .inr (12, fs)) :: (q_135, .inl (D.1 14, 4, .inl (fun j => i2 (upZ (upZ (fun _ => 0) 0 102) 1 114 j)))) :: T) H := hP
  have hD : va_D A ((h0, .inr (12, fs)) :: (q_135, .inl (D.1 14, 4, .inl (fun j => i2 (upZ (upZ (fun _ => 0) 0 102) 1 114 j)))) :: T) := hD
  refine lv_dup hx hb dX12_init_1428 rfl ?_
  refine lv_iconst (v := 2) hx hb dX12_init_1429 (by decide) ?_
  refine lv_bipush (v := 111) hx hb dX12_init_1430 (by decide) ?_
  refine va_cast hx hb hK hP hD hS 1 1 rfl rfl (z_in (by decide) (by decide)) dX12_init_1432 (fun H locs hP hD hS => ?_)
  rw [c_i2 (F := upZ (upZ (fun _ => 0) 0 102) 1 114) (k := Int32.toNatClampNeg 2) (c := vp_nar .char 111) (v := 111) (by decide)] at hP hD
  have hP : va_P D vwCl ((h0, .inr (12, fs)) :: (q_135, .inl (D.1 14, 4, .inl (fun j => i2 (upZ (upZ (upZ (fun _ => 0) 0 102) 1 114) 2 111 j)))) :: T) H := hP
  have hD : va_D A ((h0, .inr (12, fs)) :: (q_135, .inl (D.1 14, 4, .inl (fun j => i2 (upZ (upZ (upZ (fun _ => 0) 0 102) 1 114) 2 111 j)))) :: T) := hD
  refine lv_dup hx hb dX12_init_1433 rfl ?_
  refine lv_iconst (v := 3) hx hb dX12_init_1434 (by decide) ?_
  refine lv_bipush (v := 109) hx hb dX12_init_1435 (by decide) ?_
  refine va_cast hx hb hK hP hD hS 1 1 rfl rfl (z_in (by decide) (by decide)) dX12_init_1437 (fun H locs hP hD hS => ?_)
  rw [c_i2 (F := upZ (upZ (upZ (fun _ => 0) 0 102) 1 114) 2 111) (k := Int32.toNatClampNeg 3) (c := vp_nar .char 109) (v := 109) (by decide)] at hP hD
  have hP : va_P D vwCl ((h0, .inr (12, fs)) :: (q_135, .inl (D.1 14, 4, .inl (fun j => i2 (upZ (upZ (upZ (upZ (fun _ => 0) 0 102) 1 114) 2 111) 3 109 j)))) :: T) H := hP
  have hD : va_D A ((h0, .inr (12, fs)) :: (q_135, .inl (D.1 14, 4, .inl (fun j => i2 (upZ (upZ (upZ (upZ (fun _ => 0) 0 102) 1 114) 2 111) 3 109 j)))) :: T) := hD
  refine va_putF (D := D) (ci := 12) (v := .ref q_135) (ty := .array .char) (C := RX12) (T := TX12) (N := 116) hx hb ht inX12 tyX12 tyX12_ok nmX12 hown hK hP hD hS 0 rfl rfl 93 (by decide) (ht (.fieldLink RX12 219 "CloneVolumesModel" "fromAsked" "[C") fl_X12_219) (fun _ h9 => h9) rfl hin rfl (by decide +kernel) rfl rfl (by rw [hlen]; decide) dX12_init_1438 (fun H locs hP hD hS => ?_)
  have hP : va_P D vwCl ((h0, .inr (12, (fs.set 93 (.ref q_135)))) :: (q_135, .inl (D.1 14, 4, .inl (fun j => i2 (upZ (upZ (upZ (upZ (fun _ => 0) 0 102) 1 114) 2 111) 3 109 j)))) :: T) H := hP
  have hD : va_D A ((h0, .inr (12, (fs.set 93 (.ref q_135)))) :: (q_135, .inl (D.1 14, 4, .inl (fun j => i2 (upZ (upZ (upZ (upZ (fun _ => 0) 0 102) 1 114) 2 111) 3 109 j)))) :: T) := hD
  generalize hfs_136 : fs.set 93 (.ref q_135) = fs_136 at hP hD
  have hlen : fs_136.length = 116 := by rw [← hfs_136, List.length_set]; exact hlen
  have hP : va_P D vwCl ((h0, .inr (12, fs_136)) :: (q_135, .inl (D.1 14, 4, .inl (fun j => i2 (upZ (upZ (upZ (upZ (fun _ => 0) 0 102) 1 114) 2 111) 3 109 j)))) :: T) H := hP
  have hD : va_D A ((h0, .inr (12, fs_136)) :: (q_135, .inl (D.1 14, 4, .inl (fun j => i2 (upZ (upZ (upZ (upZ (fun _ => 0) 0 102) 1 114) 2 111) 3 109 j)))) :: T) := hD
  refine lv_aload_n hx hb dX12_init_1441 rfl (lv_at hl 0 rfl) ?_
  refine lv_bipush (v := 7) hx hb dX12_init_1442 (by decide) ?_
  refine va_newa (atype := .char) (a0 := (7, .inl (fun _ => 0))) (ty := .char) (N' := 7) hx hb (ht _ ac_char) rfl hK hP hD hS hA (fun _ => rfl) (by decide) (by decide) (by decide) (Nat.le_trans (Nat.le_of_ble_eq_true rfl) hRc) (Nat.le_trans (Nat.le_of_ble_eq_true rfl) hRs) dX12_init_1444 (fun q_137 cA H hK2 hP hD hS => ?_)
  obtain rfl := z_cls_char hK hK2
  refine W.widen (k := 68) (n := 27725) (Nat.le_of_ble_eq_true rfl) (Nat.le_of_ble_eq_true rfl) ?_
  obtain ⟨hP, hD⟩ := z_rot hP hD
  have hP : va_P D vwCl ((h0, .inr (12, fs_136)) :: (q_137, .inl (D.1 14, 7, .inl (fun _ => i2 0))) :: (q_135, .inl (D.1 14, 4, .inl (fun j => i2 (upZ (upZ (upZ (upZ (fun _ => 0) 0 102) 1 114) 2 111) 3 109 j)))) :: T) H := hP
  have hD : va_D A ((h0, .inr (12, fs_136)) :: (q_137, .inl (D.1 14, 7, .inl (fun _ => i2 0))) :: (q_135, .inl (D.1 14, 4, .inl (fun j => i2 (upZ (upZ (upZ (upZ (fun _ => 0) 0 102) 1 114) 2 111) 3 109 j)))) :: T) := hD
  refine lv_dup hx hb dX12_init_1446 rfl ?_
  refine lv_iconst (v := 0) hx hb dX12_init_1447 (by decide) ?_
  refine lv_bipush (v := 101) hx hb dX12_init_1448 (by decide) ?_
  refine va_cast hx hb hK hP hD hS 1 1 rfl rfl (z_in (by decide) (by decide)) dX12_init_1450 (fun H locs hP hD hS => ?_)
  rw [c_i2 (F := fun _ => 0) (k := Int32.toNatClampNeg 0) (c := vp_nar .char 101) (v := 101) (by decide)] at hP hD
  have hP : va_P D vwCl ((h0, .inr (12, fs_136)) :: (q_137, .inl (D.1 14, 7, .inl (fun j => i2 (upZ (fun _ => 0) 0 101 j)))) :: (q_135, .inl (D.1 14, 4, .inl (fun j => i2 (upZ (upZ (upZ (upZ (fun _ => 0) 0 102) 1 114) 2 111) 3 109 j)))) :: T) H := hP
  have hD : va_D A ((h0, .inr (12, fs_136)) :: (q_137, .inl (D.1 14, 7, .inl (fun j => i2 (upZ (fun _ => 0) 0 101 j)))) :: (q_135, .inl (D.1 14, 4, .inl (fun j => i2 (upZ (upZ (upZ (upZ (fun _ => 0) 0 102) 1 114) 2 111) 3 109 j)))) :: T) := hD
  refine lv_dup hx hb dX12_init_1451 rfl ?_
  refine lv_iconst (v := 1) hx hb dX12_init_1452 (by decide) ?_
  refine lv_bipush (v := 110) hx hb dX12_init_1453 (by decide) ?_
  refine va_cast hx hb hK hP hD hS 1 1 rfl rfl (z_in (by decide) (by decide)) dX12_init_1455 (fun H locs hP hD hS => ?_)
  rw [c_i2 (F := upZ (fun _ => 0) 0 101) (k := Int32.toNatClampNeg 1) (c := vp_nar .char 110) (v := 110) (by decide)] at hP hD
  have hP : va_P D vwCl ((h0, .inr (12, fs_136)) :: (q_137, .inl (D.1 14, 7, .inl (fun j => i2 (upZ (upZ (fun _ => 0) 0 101) 1 110 j)))) :: (q_135, .inl (D.1 14, 4, .inl (fun j => i2 (upZ (upZ (upZ (upZ (fun _ => 0) 0 102) 1 114) 2 111) 3 109 j)))) :: T) H := hP
  have hD : va_D A ((h0, .inr (12, fs_136)) :: (q_137, .inl (D.1 14, 7, .inl (fun j => i2 (upZ (upZ (fun _ => 0) 0 101) 1 110 j)))) :: (q_135, .inl (D.1 14, 4, .inl (fun j => i2 (upZ (upZ (upZ (upZ (fun _ => 0) 0 102) 1 114) 2 111) 3 109 j)))) :: T) := hD
  refine lv_dup hx hb dX12_init_1456 rfl ?_
  refine lv_iconst (v := 2) hx hb dX12_init_1457 (by decide) ?_
  refine lv_bipush (v := 116) hx hb dX12_init_1458 (by decide) ?_
  refine va_cast hx hb hK hP hD hS 1 1 rfl rfl (z_in (by decide) (by decide)) dX12_init_1460 (fun H locs hP hD hS => ?_)
  rw [c_i2 (F := upZ (upZ (fun _ => 0) 0 101) 1 110) (k := Int32.toNatClampNeg 2) (c := vp_nar .char 116) (v := 116) (by decide)] at hP hD
  have hP : va_P D vwCl ((h0, .inr (12, fs_136)) :: (q_137, .inl (D.1 14, 7, .inl (fun j => i2 (upZ (upZ (upZ (fun _ => 0) 0 101) 1 110) 2 116 j)))) :: (q_135, .inl (D.1 14, 4, .inl (fun j => i2 (upZ (upZ (upZ (upZ (fun _ => 0) 0 102) 1 114) 2 111) 3 109 j)))) :: T) H := hP
  have hD : va_D A ((h0, .inr (12, fs_136)) :: (q_137, .inl (D.1 14, 7, .inl (fun j => i2 (upZ (upZ (upZ (fun _ => 0) 0 101) 1 110) 2 116 j)))) :: (q_135, .inl (D.1 14, 4, .inl (fun j => i2 (upZ (upZ (upZ (upZ (fun _ => 0) 0 102) 1 114) 2 111) 3 109 j)))) :: T) := hD
  refine lv_dup hx hb dX12_init_1461 rfl ?_
  refine lv_iconst (v := 3) hx hb dX12_init_1462 (by decide) ?_
  refine lv_bipush (v := 114) hx hb dX12_init_1463 (by decide) ?_
  refine va_cast hx hb hK hP hD hS 1 1 rfl rfl (z_in (by decide) (by decide)) dX12_init_1465 (fun H locs hP hD hS => ?_)
  rw [c_i2 (F := upZ (upZ (upZ (fun _ => 0) 0 101) 1 110) 2 116) (k := Int32.toNatClampNeg 3) (c := vp_nar .char 114) (v := 114) (by decide)] at hP hD
  have hP : va_P D vwCl ((h0, .inr (12, fs_136)) :: (q_137, .inl (D.1 14, 7, .inl (fun j => i2 (upZ (upZ (upZ (upZ (fun _ => 0) 0 101) 1 110) 2 116) 3 114 j)))) :: (q_135, .inl (D.1 14, 4, .inl (fun j => i2 (upZ (upZ (upZ (upZ (fun _ => 0) 0 102) 1 114) 2 111) 3 109 j)))) :: T) H := hP
  have hD : va_D A ((h0, .inr (12, fs_136)) :: (q_137, .inl (D.1 14, 7, .inl (fun j => i2 (upZ (upZ (upZ (upZ (fun _ => 0) 0 101) 1 110) 2 116) 3 114 j)))) :: (q_135, .inl (D.1 14, 4, .inl (fun j => i2 (upZ (upZ (upZ (upZ (fun _ => 0) 0 102) 1 114) 2 111) 3 109 j)))) :: T) := hD
  refine lv_dup hx hb dX12_init_1466 rfl ?_
  refine lv_iconst (v := 4) hx hb dX12_init_1467 (by decide) ?_
  refine lv_bipush (v := 105) hx hb dX12_init_1468 (by decide) ?_
  refine va_cast hx hb hK hP hD hS 1 1 rfl rfl (z_in (by decide) (by decide)) dX12_init_1470 (fun H locs hP hD hS => ?_)
  rw [c_i2 (F := upZ (upZ (upZ (upZ (fun _ => 0) 0 101) 1 110) 2 116) 3 114) (k := Int32.toNatClampNeg 4) (c := vp_nar .char 105) (v := 105) (by decide)] at hP hD
  have hP : va_P D vwCl ((h0, .inr (12, fs_136)) :: (q_137, .inl (D.1 14, 7, .inl (fun j => i2 (upZ (upZ (upZ (upZ (upZ (fun _ => 0) 0 101) 1 110) 2 116) 3 114) 4 105 j)))) :: (q_135, .inl (D.1 14, 4, .inl (fun j => i2 (upZ (upZ (upZ (upZ (fun _ => 0) 0 102) 1 114) 2 111) 3 109 j)))) :: T) H := hP
  have hD : va_D A ((h0, .inr (12, fs_136)) :: (q_137, .inl (D.1 14, 7, .inl (fun j => i2 (upZ (upZ (upZ (upZ (upZ (fun _ => 0) 0 101) 1 110) 2 116) 3 114) 4 105 j)))) :: (q_135, .inl (D.1 14, 4, .inl (fun j => i2 (upZ (upZ (upZ (upZ (fun _ => 0) 0 102) 1 114) 2 111) 3 109 j)))) :: T) := hD
  refine lv_dup hx hb dX12_init_1471 rfl ?_
  refine lv_iconst (v := 5) hx hb dX12_init_1472 (by decide) ?_
  refine lv_bipush (v := 101) hx hb dX12_init_1473 (by decide) ?_
  refine va_cast hx hb hK hP hD hS 1 1 rfl rfl (z_in (by decide) (by decide)) dX12_init_1475 (fun H locs hP hD hS => ?_)
  rw [c_i2 (F := upZ (upZ (upZ (upZ (upZ (fun _ => 0) 0 101) 1 110) 2 116) 3 114) 4 105) (k := Int32.toNatClampNeg 5) (c := vp_nar .char 101) (v := 101) (by decide)] at hP hD
  have hP : va_P D vwCl ((h0, .inr (12, fs_136)) :: (q_137, .inl (D.1 14, 7, .inl (fun j => i2 (upZ (upZ (upZ (upZ (upZ (upZ (fun _ => 0) 0 101) 1 110) 2 116) 3 114) 4 105) 5 101 j)))) :: (q_135, .inl (D.1 14, 4, .inl (fun j => i2 (upZ (upZ (upZ (upZ (fun _ => 0) 0 102) 1 114) 2 111) 3 109 j)))) :: T) H := hP
  have hD : va_D A ((h0, .inr (12, fs_136)) :: (q_137, .inl (D.1 14, 7, .inl (fun j => i2 (upZ (upZ (upZ (upZ (upZ (upZ (fun _ => 0) 0 101) 1 110) 2 116) 3 114) 4 105) 5 101 j)))) :: (q_135, .inl (D.1 14, 4, .inl (fun j => i2 (upZ (upZ (upZ (upZ (fun _ => 0) 0 102) 1 114) 2 111) 3 109 j)))) :: T) := hD
  refine lv_dup hx hb dX12_init_1476 rfl ?_
  refine lv_bipush (v := 6) hx hb dX12_init_1477 (by decide) ?_
  refine lv_bipush (v := 115) hx hb dX12_init_1479 (by decide) ?_
  refine va_cast hx hb hK hP hD hS 1 1 rfl rfl (z_in (by decide) (by decide)) dX12_init_1481 (fun H locs hP hD hS => ?_)
  rw [c_i2 (F := upZ (upZ (upZ (upZ (upZ (upZ (fun _ => 0) 0 101) 1 110) 2 116) 3 114) 4 105) 5 101) (k := Int32.toNatClampNeg 6) (c := vp_nar .char 115) (v := 115) (by decide)] at hP hD
  have hP : va_P D vwCl ((h0, .inr (12, fs_136)) :: (q_137, .inl (D.1 14, 7, .inl (fun j => i2 (upZ (upZ (upZ (upZ (upZ (upZ (upZ (fun _ => 0) 0 101) 1 110) 2 116) 3 114) 4 105) 5 101) 6 115 j)))) :: (q_135, .inl (D.1 14, 4, .inl (fun j => i2 (upZ (upZ (upZ (upZ (fun _ => 0) 0 102) 1 114) 2 111) 3 109 j)))) :: T) H := hP
  have hD : va_D A ((h0, .inr (12, fs_136)) :: (q_137, .inl (D.1 14, 7, .inl (fun j => i2 (upZ (upZ (upZ (upZ (upZ (upZ (upZ (fun _ => 0) 0 101) 1 110) 2 116) 3 114) 4 105) 5 101) 6 115 j)))) :: (q_135, .inl (D.1 14, 4, .inl (fun j => i2 (upZ (upZ (upZ (upZ (fun _ => 0) 0 102) 1 114) 2 111) 3 109 j)))) :: T) := hD
  refine va_putF (D := D) (ci := 12) (v := .ref q_137) (ty := .array .char) (C := RX12) (T := TX12) (N := 116) hx hb ht inX12 tyX12 tyX12_ok nmX12 hown hK hP hD hS 0 rfl rfl 94 (by decide) (ht (.fieldLink RX12 222 "CloneVolumesModel" "entriesAsked" "[C") fl_X12_222) (fun _ h9 => h9) rfl hin rfl (by decide +kernel) rfl rfl (by rw [hlen]; decide) dX12_init_1482 (fun H locs hP hD hS => ?_)
  have hP : va_P D vwCl ((h0, .inr (12, (fs_136.set 94 (.ref q_137)))) :: (q_137, .inl (D.1 14, 7, .inl (fun j => i2 (upZ (upZ (upZ (upZ (upZ (upZ (upZ (fun _ => 0) 0 101) 1 110) 2 116) 3 114) 4 105) 5 101) 6 115 j)))) :: (q_135, .inl (D.1 14, 4, .inl (fun j => i2 (upZ (upZ (upZ (upZ (fun _ => 0) 0 102) 1 114) 2 111) 3 109 j)))) :: T) H := hP
  have hD : va_D A ((h0, .inr (12, (fs_136.set 94 (.ref q_137)))) :: (q_137, .inl (D.1 14, 7, .inl (fun j => i2 (upZ (upZ (upZ (upZ (upZ (upZ (upZ (fun _ => 0) 0 101) 1 110) 2 116) 3 114) 4 105) 5 101) 6 115 j)))) :: (q_135, .inl (D.1 14, 4, .inl (fun j => i2 (upZ (upZ (upZ (upZ (fun _ => 0) 0 102) 1 114) 2 111) 3 109 j)))) :: T) := hD
  generalize hfs_138 : fs_136.set 94 (.ref q_137) = fs_138 at hP hD
  have hlen : fs_138.length = 116 := by rw [← hfs_138, List.length_set]; exact hlen
  have hP : va_P D vwCl ((h0, .inr (12, fs_138)) :: (q_137, .inl (D.1 14, 7, .inl (fun j => i2 (upZ (upZ (upZ (upZ (upZ (upZ (upZ (fun _ => 0) 0 101) 1 110) 2 116) 3 114) 4 105) 5 101) 6 115 j)))) :: (q_135, .inl (D.1 14, 4, .inl (fun j => i2 (upZ (upZ (upZ (upZ (fun _ => 0) 0 102) 1 114) 2 111) 3 109 j)))) :: T) H := hP
  have hD : va_D A ((h0, .inr (12, fs_138)) :: (q_137, .inl (D.1 14, 7, .inl (fun j => i2 (upZ (upZ (upZ (upZ (upZ (upZ (upZ (fun _ => 0) 0 101) 1 110) 2 116) 3 114) 4 105) 5 101) 6 115 j)))) :: (q_135, .inl (D.1 14, 4, .inl (fun j => i2 (upZ (upZ (upZ (upZ (fun _ => 0) 0 102) 1 114) 2 111) 3 109 j)))) :: T) := hD
  exact kk q_137 q_135 fs_138 _ _ (by rw [← hfs_138, ← hfs_136]) hP hD hS
theorem fl_X12_225 : Cond.fieldLink RX12 225 "CloneVolumesModel" "numberAsked" "[C" ∈ lw_gd := zm (List.mem_of_getElem? (i := 1633) (by decide +kernel)) rfl
theorem fl_X12_228 : Cond.fieldLink RX12 228 "CloneVolumesModel" "countAsked" "[C" ∈ lw_gd := zm (List.mem_of_getElem? (i := 1634) (by decide +kernel)) rfl
theorem fl_X12_231 : Cond.fieldLink RX12 231 "CloneVolumesModel" "freshAsked" "[C" ∈ lw_gd := zm (List.mem_of_getElem? (i := 1635) (by decide +kernel)) rfl
theorem fl_X12_234 : Cond.fieldLink RX12 234 "CloneVolumesModel" "savedAsked" "[C" ∈ lw_gd := zm (List.mem_of_getElem? (i := 1636) (by decide +kernel)) rfl
theorem fl_X12_237 : Cond.fieldLink RX12 237 "CloneVolumesModel" "refsAsked" "[C" ∈ lw_gd := zm (List.mem_of_getElem? (i := 1637) (by decide +kernel)) rfl
theorem fl_X12_240 : Cond.fieldLink RX12 240 "CloneVolumesModel" "keyAsked" "[C" ∈ lw_gd := zm (List.mem_of_getElem? (i := 1638) (by decide +kernel)) rfl
theorem fl_X12_243 : Cond.fieldLink RX12 243 "CloneVolumesModel" "qCodes" "[I" ∈ lw_gd := zm (List.mem_of_getElem? (i := 1639) (by decide +kernel)) rfl
theorem fl_X12_246 : Cond.fieldLink RX12 246 "CloneVolumesModel" "qWait" "[I" ∈ lw_gd := zm (List.mem_of_getElem? (i := 1641) (by decide +kernel)) rfl
theorem fl_X12_249 : Cond.fieldLink RX12 249 "CloneVolumesModel" "qPile" "[J" ∈ lw_gd := zm (List.mem_of_getElem? (i := 1645) (by decide +kernel)) rfl
theorem fl_X12_252 : Cond.fieldLink RX12 252 "CloneVolumesModel" "octet" "[I" ∈ lw_gd := zm (List.mem_of_getElem? (i := 1649) (by decide +kernel)) rfl
theorem fl_X12_255 : Cond.fieldLink RX12 255 "CloneVolumesModel" "laid" "[I" ∈ lw_gd := zm (List.mem_of_getElem? (i := 1651) (by decide +kernel)) rfl
theorem fl_X12_258 : Cond.fieldLink RX12 258 "CloneVolumesModel" "recount" "[I" ∈ lw_gd := zm (List.mem_of_getElem? (i := 1653) (by decide +kernel)) rfl
theorem dX12_init_1485 : decode cX12_init 1485 = .ok (.aload_n 0, 1) := by decide +kernel
theorem dX12_init_1486 : decode cX12_init 1486 = .ok (.bipush 6, 2) := by decide +kernel
theorem dX12_init_1488 : decode cX12_init 1488 = .ok (.newarray .char, 2) := by decide +kernel
theorem dX12_init_1490 : decode cX12_init 1490 = .ok (.dup, 1) := by decide +kernel
theorem dX12_init_1491 : decode cX12_init 1491 = .ok (.iconst 0, 1) := by decide +kernel
theorem dX12_init_1492 : decode cX12_init 1492 = .ok (.bipush 110, 2) := by decide +kernel
theorem dX12_init_1494 : decode cX12_init 1494 = .ok (.castore, 1) := by decide +kernel
theorem dX12_init_1495 : decode cX12_init 1495 = .ok (.dup, 1) := by decide +kernel
theorem dX12_init_1496 : decode cX12_init 1496 = .ok (.iconst 1, 1) := by decide +kernel
theorem dX12_init_1497 : decode cX12_init 1497 = .ok (.bipush 117, 2) := by decide +kernel
theorem dX12_init_1499 : decode cX12_init 1499 = .ok (.castore, 1) := by decide +kernel
theorem dX12_init_1500 : decode cX12_init 1500 = .ok (.dup, 1) := by decide +kernel
theorem dX12_init_1501 : decode cX12_init 1501 = .ok (.iconst 2, 1) := by decide +kernel
theorem dX12_init_1502 : decode cX12_init 1502 = .ok (.bipush 109, 2) := by decide +kernel
theorem dX12_init_1504 : decode cX12_init 1504 = .ok (.castore, 1) := by decide +kernel
theorem dX12_init_1505 : decode cX12_init 1505 = .ok (.dup, 1) := by decide +kernel
theorem dX12_init_1506 : decode cX12_init 1506 = .ok (.iconst 3, 1) := by decide +kernel
theorem dX12_init_1507 : decode cX12_init 1507 = .ok (.bipush 98, 2) := by decide +kernel
theorem dX12_init_1509 : decode cX12_init 1509 = .ok (.castore, 1) := by decide +kernel
theorem dX12_init_1510 : decode cX12_init 1510 = .ok (.dup, 1) := by decide +kernel
theorem dX12_init_1511 : decode cX12_init 1511 = .ok (.iconst 4, 1) := by decide +kernel
theorem dX12_init_1512 : decode cX12_init 1512 = .ok (.bipush 101, 2) := by decide +kernel
theorem dX12_init_1514 : decode cX12_init 1514 = .ok (.castore, 1) := by decide +kernel
theorem dX12_init_1515 : decode cX12_init 1515 = .ok (.dup, 1) := by decide +kernel
theorem dX12_init_1516 : decode cX12_init 1516 = .ok (.iconst 5, 1) := by decide +kernel
theorem dX12_init_1517 : decode cX12_init 1517 = .ok (.bipush 114, 2) := by decide +kernel
theorem dX12_init_1519 : decode cX12_init 1519 = .ok (.castore, 1) := by decide +kernel
theorem dX12_init_1520 : decode cX12_init 1520 = .ok (.putfield 225, 3) := by decide +kernel
theorem dX12_init_1523 : decode cX12_init 1523 = .ok (.aload_n 0, 1) := by decide +kernel
theorem dX12_init_1524 : decode cX12_init 1524 = .ok (.iconst 5, 1) := by decide +kernel
theorem dX12_init_1525 : decode cX12_init 1525 = .ok (.newarray .char, 2) := by decide +kernel
theorem dX12_init_1527 : decode cX12_init 1527 = .ok (.dup, 1) := by decide +kernel
theorem dX12_init_1528 : decode cX12_init 1528 = .ok (.iconst 0, 1) := by decide +kernel
theorem dX12_init_1529 : decode cX12_init 1529 = .ok (.bipush 99, 2) := by decide +kernel
theorem dX12_init_1531 : decode cX12_init 1531 = .ok (.castore, 1) := by decide +kernel
theorem dX12_init_1532 : decode cX12_init 1532 = .ok (.dup, 1) := by decide +kernel
theorem dX12_init_1533 : decode cX12_init 1533 = .ok (.iconst 1, 1) := by decide +kernel
theorem dX12_init_1534 : decode cX12_init 1534 = .ok (.bipush 111, 2) := by decide +kernel
theorem dX12_init_1536 : decode cX12_init 1536 = .ok (.castore, 1) := by decide +kernel
theorem dX12_init_1537 : decode cX12_init 1537 = .ok (.dup, 1) := by decide +kernel
theorem dX12_init_1538 : decode cX12_init 1538 = .ok (.iconst 2, 1) := by decide +kernel
theorem dX12_init_1539 : decode cX12_init 1539 = .ok (.bipush 117, 2) := by decide +kernel
theorem dX12_init_1541 : decode cX12_init 1541 = .ok (.castore, 1) := by decide +kernel
theorem dX12_init_1542 : decode cX12_init 1542 = .ok (.dup, 1) := by decide +kernel
theorem dX12_init_1543 : decode cX12_init 1543 = .ok (.iconst 3, 1) := by decide +kernel
theorem dX12_init_1544 : decode cX12_init 1544 = .ok (.bipush 110, 2) := by decide +kernel
theorem dX12_init_1546 : decode cX12_init 1546 = .ok (.castore, 1) := by decide +kernel
theorem dX12_init_1547 : decode cX12_init 1547 = .ok (.dup, 1) := by decide +kernel
theorem dX12_init_1548 : decode cX12_init 1548 = .ok (.iconst 4, 1) := by decide +kernel
theorem dX12_init_1549 : decode cX12_init 1549 = .ok (.bipush 116, 2) := by decide +kernel
theorem dX12_init_1551 : decode cX12_init 1551 = .ok (.castore, 1) := by decide +kernel
theorem dX12_init_1552 : decode cX12_init 1552 = .ok (.putfield 228, 3) := by decide +kernel
theorem dX12_init_1555 : decode cX12_init 1555 = .ok (.aload_n 0, 1) := by decide +kernel
theorem dX12_init_1556 : decode cX12_init 1556 = .ok (.iconst 5, 1) := by decide +kernel
theorem dX12_init_1557 : decode cX12_init 1557 = .ok (.newarray .char, 2) := by decide +kernel
theorem dX12_init_1559 : decode cX12_init 1559 = .ok (.dup, 1) := by decide +kernel
theorem dX12_init_1560 : decode cX12_init 1560 = .ok (.iconst 0, 1) := by decide +kernel
theorem dX12_init_1561 : decode cX12_init 1561 = .ok (.bipush 102, 2) := by decide +kernel
theorem dX12_init_1563 : decode cX12_init 1563 = .ok (.castore, 1) := by decide +kernel
theorem dX12_init_1564 : decode cX12_init 1564 = .ok (.dup, 1) := by decide +kernel
theorem dX12_init_1565 : decode cX12_init 1565 = .ok (.iconst 1, 1) := by decide +kernel
theorem dX12_init_1566 : decode cX12_init 1566 = .ok (.bipush 114, 2) := by decide +kernel
theorem dX12_init_1568 : decode cX12_init 1568 = .ok (.castore, 1) := by decide +kernel
theorem dX12_init_1569 : decode cX12_init 1569 = .ok (.dup, 1) := by decide +kernel
theorem dX12_init_1570 : decode cX12_init 1570 = .ok (.iconst 2, 1) := by decide +kernel
theorem dX12_init_1571 : decode cX12_init 1571 = .ok (.bipush 101, 2) := by decide +kernel
theorem dX12_init_1573 : decode cX12_init 1573 = .ok (.castore, 1) := by decide +kernel
theorem dX12_init_1574 : decode cX12_init 1574 = .ok (.dup, 1) := by decide +kernel
theorem dX12_init_1575 : decode cX12_init 1575 = .ok (.iconst 3, 1) := by decide +kernel
theorem dX12_init_1576 : decode cX12_init 1576 = .ok (.bipush 115, 2) := by decide +kernel
theorem dX12_init_1578 : decode cX12_init 1578 = .ok (.castore, 1) := by decide +kernel
theorem dX12_init_1579 : decode cX12_init 1579 = .ok (.dup, 1) := by decide +kernel
theorem dX12_init_1580 : decode cX12_init 1580 = .ok (.iconst 4, 1) := by decide +kernel
theorem dX12_init_1581 : decode cX12_init 1581 = .ok (.bipush 104, 2) := by decide +kernel
theorem dX12_init_1583 : decode cX12_init 1583 = .ok (.castore, 1) := by decide +kernel
theorem dX12_init_1584 : decode cX12_init 1584 = .ok (.putfield 231, 3) := by decide +kernel
theorem dX12_init_1587 : decode cX12_init 1587 = .ok (.aload_n 0, 1) := by decide +kernel
theorem dX12_init_1588 : decode cX12_init 1588 = .ok (.iconst 5, 1) := by decide +kernel
theorem dX12_init_1589 : decode cX12_init 1589 = .ok (.newarray .char, 2) := by decide +kernel
theorem dX12_init_1591 : decode cX12_init 1591 = .ok (.dup, 1) := by decide +kernel
theorem dX12_init_1592 : decode cX12_init 1592 = .ok (.iconst 0, 1) := by decide +kernel
theorem dX12_init_1593 : decode cX12_init 1593 = .ok (.bipush 115, 2) := by decide +kernel
theorem dX12_init_1595 : decode cX12_init 1595 = .ok (.castore, 1) := by decide +kernel
theorem dX12_init_1596 : decode cX12_init 1596 = .ok (.dup, 1) := by decide +kernel
theorem dX12_init_1597 : decode cX12_init 1597 = .ok (.iconst 1, 1) := by decide +kernel
theorem dX12_init_1598 : decode cX12_init 1598 = .ok (.bipush 97, 2) := by decide +kernel
theorem dX12_init_1600 : decode cX12_init 1600 = .ok (.castore, 1) := by decide +kernel
theorem dX12_init_1601 : decode cX12_init 1601 = .ok (.dup, 1) := by decide +kernel
theorem dX12_init_1602 : decode cX12_init 1602 = .ok (.iconst 2, 1) := by decide +kernel
theorem dX12_init_1603 : decode cX12_init 1603 = .ok (.bipush 118, 2) := by decide +kernel
theorem dX12_init_1605 : decode cX12_init 1605 = .ok (.castore, 1) := by decide +kernel
theorem dX12_init_1606 : decode cX12_init 1606 = .ok (.dup, 1) := by decide +kernel
theorem dX12_init_1607 : decode cX12_init 1607 = .ok (.iconst 3, 1) := by decide +kernel
theorem dX12_init_1608 : decode cX12_init 1608 = .ok (.bipush 101, 2) := by decide +kernel
theorem dX12_init_1610 : decode cX12_init 1610 = .ok (.castore, 1) := by decide +kernel
theorem dX12_init_1611 : decode cX12_init 1611 = .ok (.dup, 1) := by decide +kernel
theorem dX12_init_1612 : decode cX12_init 1612 = .ok (.iconst 4, 1) := by decide +kernel
theorem dX12_init_1613 : decode cX12_init 1613 = .ok (.bipush 100, 2) := by decide +kernel
theorem dX12_init_1615 : decode cX12_init 1615 = .ok (.castore, 1) := by decide +kernel
theorem dX12_init_1616 : decode cX12_init 1616 = .ok (.putfield 234, 3) := by decide +kernel
theorem dX12_init_1619 : decode cX12_init 1619 = .ok (.aload_n 0, 1) := by decide +kernel
theorem dX12_init_1620 : decode cX12_init 1620 = .ok (.iconst 4, 1) := by decide +kernel
theorem dX12_init_1621 : decode cX12_init 1621 = .ok (.newarray .char, 2) := by decide +kernel
theorem dX12_init_1623 : decode cX12_init 1623 = .ok (.dup, 1) := by decide +kernel
theorem dX12_init_1624 : decode cX12_init 1624 = .ok (.iconst 0, 1) := by decide +kernel
theorem dX12_init_1625 : decode cX12_init 1625 = .ok (.bipush 114, 2) := by decide +kernel
theorem dX12_init_1627 : decode cX12_init 1627 = .ok (.castore, 1) := by decide +kernel
theorem dX12_init_1628 : decode cX12_init 1628 = .ok (.dup, 1) := by decide +kernel
theorem dX12_init_1629 : decode cX12_init 1629 = .ok (.iconst 1, 1) := by decide +kernel
theorem dX12_init_1630 : decode cX12_init 1630 = .ok (.bipush 101, 2) := by decide +kernel
theorem dX12_init_1632 : decode cX12_init 1632 = .ok (.castore, 1) := by decide +kernel
theorem dX12_init_1633 : decode cX12_init 1633 = .ok (.dup, 1) := by decide +kernel
theorem dX12_init_1634 : decode cX12_init 1634 = .ok (.iconst 2, 1) := by decide +kernel
theorem dX12_init_1635 : decode cX12_init 1635 = .ok (.bipush 102, 2) := by decide +kernel
theorem dX12_init_1637 : decode cX12_init 1637 = .ok (.castore, 1) := by decide +kernel
theorem dX12_init_1638 : decode cX12_init 1638 = .ok (.dup, 1) := by decide +kernel
theorem dX12_init_1639 : decode cX12_init 1639 = .ok (.iconst 3, 1) := by decide +kernel
theorem dX12_init_1640 : decode cX12_init 1640 = .ok (.bipush 115, 2) := by decide +kernel
theorem dX12_init_1642 : decode cX12_init 1642 = .ok (.castore, 1) := by decide +kernel
theorem dX12_init_1643 : decode cX12_init 1643 = .ok (.putfield 237, 3) := by decide +kernel
theorem dX12_init_1646 : decode cX12_init 1646 = .ok (.aload_n 0, 1) := by decide +kernel
theorem dX12_init_1647 : decode cX12_init 1647 = .ok (.iconst 3, 1) := by decide +kernel
theorem dX12_init_1648 : decode cX12_init 1648 = .ok (.newarray .char, 2) := by decide +kernel
theorem dX12_init_1650 : decode cX12_init 1650 = .ok (.dup, 1) := by decide +kernel
theorem dX12_init_1651 : decode cX12_init 1651 = .ok (.iconst 0, 1) := by decide +kernel
theorem dX12_init_1652 : decode cX12_init 1652 = .ok (.bipush 107, 2) := by decide +kernel
theorem dX12_init_1654 : decode cX12_init 1654 = .ok (.castore, 1) := by decide +kernel
theorem dX12_init_1655 : decode cX12_init 1655 = .ok (.dup, 1) := by decide +kernel
theorem dX12_init_1656 : decode cX12_init 1656 = .ok (.iconst 1, 1) := by decide +kernel
theorem dX12_init_1657 : decode cX12_init 1657 = .ok (.bipush 101, 2) := by decide +kernel
theorem dX12_init_1659 : decode cX12_init 1659 = .ok (.castore, 1) := by decide +kernel
theorem dX12_init_1660 : decode cX12_init 1660 = .ok (.dup, 1) := by decide +kernel
theorem dX12_init_1661 : decode cX12_init 1661 = .ok (.iconst 2, 1) := by decide +kernel
theorem dX12_init_1662 : decode cX12_init 1662 = .ok (.bipush 121, 2) := by decide +kernel
theorem dX12_init_1664 : decode cX12_init 1664 = .ok (.castore, 1) := by decide +kernel
theorem dX12_init_1665 : decode cX12_init 1665 = .ok (.putfield 240, 3) := by decide +kernel
theorem dX12_init_1668 : decode cX12_init 1668 = .ok (.aload_n 0, 1) := by decide +kernel
theorem dX12_init_1669 : decode cX12_init 1669 = .ok (.sipush 1700, 3) := by decide +kernel
theorem dX12_init_1672 : decode cX12_init 1672 = .ok (.newarray .int, 2) := by decide +kernel
theorem dX12_init_1674 : decode cX12_init 1674 = .ok (.putfield 243, 3) := by decide +kernel
theorem dX12_init_1677 : decode cX12_init 1677 = .ok (.aload_n 0, 1) := by decide +kernel
theorem dX12_init_1678 : decode cX12_init 1678 = .ok (.sipush 1700, 3) := by decide +kernel
theorem dX12_init_1681 : decode cX12_init 1681 = .ok (.newarray .int, 2) := by decide +kernel
theorem dX12_init_1683 : decode cX12_init 1683 = .ok (.putfield 246, 3) := by decide +kernel
theorem dX12_init_1686 : decode cX12_init 1686 = .ok (.aload_n 0, 1) := by decide +kernel
theorem dX12_init_1687 : decode cX12_init 1687 = .ok (.sipush 1700, 3) := by decide +kernel
theorem dX12_init_1690 : decode cX12_init 1690 = .ok (.newarray .long, 2) := by decide +kernel
theorem dX12_init_1692 : decode cX12_init 1692 = .ok (.putfield 249, 3) := by decide +kernel
theorem dX12_init_1695 : decode cX12_init 1695 = .ok (.aload_n 0, 1) := by decide +kernel
theorem dX12_init_1696 : decode cX12_init 1696 = .ok (.sipush 1364, 3) := by decide +kernel
theorem dX12_init_1699 : decode cX12_init 1699 = .ok (.newarray .int, 2) := by decide +kernel
theorem dX12_init_1701 : decode cX12_init 1701 = .ok (.putfield 252, 3) := by decide +kernel
theorem dX12_init_1704 : decode cX12_init 1704 = .ok (.aload_n 0, 1) := by decide +kernel
theorem dX12_init_1705 : decode cX12_init 1705 = .ok (.sipush 785, 3) := by decide +kernel
theorem dX12_init_1708 : decode cX12_init 1708 = .ok (.newarray .int, 2) := by decide +kernel
theorem dX12_init_1710 : decode cX12_init 1710 = .ok (.putfield 255, 3) := by decide +kernel
theorem dX12_init_1713 : decode cX12_init 1713 = .ok (.aload_n 0, 1) := by decide +kernel
theorem dX12_init_1714 : decode cX12_init 1714 = .ok (.bipush 48, 2) := by decide +kernel
theorem dX12_init_1716 : decode cX12_init 1716 = .ok (.newarray .int, 2) := by decide +kernel
theorem dX12_init_1718 : decode cX12_init 1718 = .ok (.putfield 258, 3) := by decide +kernel
set_option maxHeartbeats 4000000 in
set_option maxRecDepth 100000 in
theorem cM_19 {p : Program} {l : Launch} {e : Env} {R : Room} {s : State} {m : MethodId} {args : Array Value} {below : List Frame} {meth : Method} {c : Code} {Q : State → Prop} {D : va_G} {A : Nat → Prop} {ls : Array Slot} {h0 : Nat} {T : va_W} (hx : p.tables.exec = Jvm.exec) (hb : c.code = cX12_init) (ht : ∀ w ∈ lw_gd, w.before args s = true) (hown : s.vm.findClass RX12 = some m.cls) (hin : meth.name = "<init>") (hK : va_K D vwCl (TY D) s) (hA : ∀ q : Nat, s.heap.size ≤ q → A q) (hRc : 80 ≤ R.cells) (hRs : 35050 ≤ R.slots) (hl : lv_has ls 1 [(0, .ref h0)]) {fs : List Value} (hlen : fs.length = 116) {H : Heap} {locs : List Loc} (hP : va_P D vwCl ((h0, .inr (12, fs)) :: T) H) (hD : va_D A ((h0, .inr (12, fs)) :: T)) (hS : va_S A s.heap H locs)
    (kk : ∀ (q_141 : Nat) (q_139 : Nat) (fs' : List Value) (H : Heap) (locs : List Loc), fs' = ((fs.set 95 (.ref q_139)).set 96 (.ref q_141)) → va_P D vwCl ((h0, .inr (12, fs')) :: (q_141, .inl (D.1 14, 5, .inl (fun j => i2 (upZ (upZ (upZ (upZ (upZ (fun _ => 0) 0 99) 1 111) 2 117) 3 110) 4 116 j)))) :: (q_139, .inl (D.1 14, 6, .inl (fun j => i2 (upZ (upZ (upZ (upZ (upZ (upZ (fun _ => 0) 0 110) 1 117) 2 109) 3 98) 4 101) 5 114 j)))) :: T) H → va_D A ((h0, .inr (12, fs')) :: (q_141, .inl (D.1 14, 5, .inl (fun j => i2 (upZ (upZ (upZ (upZ (upZ (fun _ => 0) 0 99) 1 111) 2 117) 3 110) 4 116 j)))) :: (q_139, .inl (D.1 14, 6, .inl (fun j => i2 (upZ (upZ (upZ (upZ (upZ (upZ (fun _ => 0) 0 110) 1 117) 2 109) 3 98) 4 101) 5 114 j)))) :: T) → va_S A s.heap H locs → W p l e R s m args below meth c H locs 70 27736 Q (F0 m 1555 ls [])) : W p l e R s m args below meth c H locs 68 27725 Q (F0 m 1485 ls []) := by
  refine lv_aload_n hx hb dX12_init_1485 rfl (lv_at hl 0 rfl) ?_
  refine lv_bipush (v := 6) hx hb dX12_init_1486 (by decide) ?_
  refine va_newa (atype := .char) (a0 := (6, .inl (fun _ => 0))) (ty := .char) (N' := 6) hx hb (ht _ ac_char) rfl hK hP hD hS hA (fun _ => rfl) (by decide) (by decide) (by decide) (Nat.le_trans (Nat.le_of_ble_eq_true rfl) hRc) (Nat.le_trans (Nat.le_of_ble_eq_true rfl) hRs) dX12_init_1488 (fun q_139 cA H hK2 hP hD hS => ?_)
  obtain rfl := z_cls_char hK hK2
  refine W.widen (k := 69) (n := 27731) (Nat.le_of_ble_eq_true rfl) (Nat.le_of_ble_eq_true rfl) ?_
  obtain ⟨hP, hD⟩ := z_rot hP hD
  have hP : va_P D vwCl ((h0, .inr (12, fs)) :: (q_139, .inl (D.1 14, 6, .inl (fun _ => i2 0))) :: T) H := hP
  have hD : va_D A ((h0, .inr (12, fs)) :: (q_139, .inl (D.1 14, 6, .inl (fun _ => i2 0))) :: T) := hD
  refine lv_dup hx hb dX12_init_1490 rfl ?_
  refine lv_iconst (v := 0) hx hb dX12_init_1491 (by decide) ?_
  refine lv_bipush (v := 110) hx hb dX12_init_1492 (by decide) ?_
  refine va_cast hx hb hK hP hD hS 1 1 rfl rfl (z_in (by decide) (by decide)) dX12_init_1494 (fun H locs hP hD hS => ?_)
  rw [c_i2 (F := fun _ => 0) (k := Int32.toNatClampNeg 0) (c := vp_nar .char 110) (v := 110) (by decide)] at hP hD
  have hP : va_P D vwCl ((h0, .inr (12, fs)) :: (q_139, .inl (D.1 14, 6, .inl (fun j => i2 (upZ (fun _ => 0) 0 110 j)))) :: T) H := hP
  have hD : va_D A ((h0, .inr (12, fs)) :: (q_139, .inl (D.1 14, 6, .inl (fun j => i2 (upZ (fun _ => 0) 0 110 j)))) :: T) := hD
  refine lv_dup hx hb dX12_init_1495 rfl ?_
  refine lv_iconst (v := 1) hx hb dX12_init_1496 (by decide) ?_
  refine lv_bipush (v := 117) hx hb dX12_init_1497 (by decide) ?_
  refine va_cast hx hb hK hP hD hS 1 1 rfl rfl (z_in (by decide) (by decide)) dX12_init_1499 (fun H locs hP hD hS => ?_)
  rw [c_i2 (F := upZ (fun _ => 0) 0 110) (k := Int32.toNatClampNeg 1) (c := vp_nar .char 117) (v := 117) (by decide)] at hP hD
  have hP : va_P D vwCl ((h0, .inr (12, fs)) :: (q_139, .inl (D.1 14, 6, .inl (fun j => i2 (upZ (upZ (fun _ => 0) 0 110) 1 117 j)))) :: T) H := hP
  have hD : va_D A ((h0, .inr (12, fs)) :: (q_139, .inl (D.1 14, 6, .inl (fun j => i2 (upZ (upZ (fun _ => 0) 0 110) 1 117 j)))) :: T) := hD
  refine lv_dup hx hb dX12_init_1500 rfl ?_
  refine lv_iconst (v := 2) hx hb dX12_init_1501 (by decide) ?_
  refine lv_bipush (v := 109) hx hb dX12_init_1502 (by decide) ?_
  refine va_cast hx hb hK hP hD hS 1 1 rfl rfl (z_in (by decide) (by decide)) dX12_init_1504 (fun H locs hP hD hS => ?_)
  rw [c_i2 (F := upZ (upZ (fun _ => 0) 0 110) 1 117) (k := Int32.toNatClampNeg 2) (c := vp_nar .char 109) (v := 109) (by decide)] at hP hD
  have hP : va_P D vwCl ((h0, .inr (12, fs)) :: (q_139, .inl (D.1 14, 6, .inl (fun j => i2 (upZ (upZ (upZ (fun _ => 0) 0 110) 1 117) 2 109 j)))) :: T) H := hP
  have hD : va_D A ((h0, .inr (12, fs)) :: (q_139, .inl (D.1 14, 6, .inl (fun j => i2 (upZ (upZ (upZ (fun _ => 0) 0 110) 1 117) 2 109 j)))) :: T) := hD
  refine lv_dup hx hb dX12_init_1505 rfl ?_
  refine lv_iconst (v := 3) hx hb dX12_init_1506 (by decide) ?_
  refine lv_bipush (v := 98) hx hb dX12_init_1507 (by decide) ?_
  refine va_cast hx hb hK hP hD hS 1 1 rfl rfl (z_in (by decide) (by decide)) dX12_init_1509 (fun H locs hP hD hS => ?_)
  rw [c_i2 (F := upZ (upZ (upZ (fun _ => 0) 0 110) 1 117) 2 109) (k := Int32.toNatClampNeg 3) (c := vp_nar .char 98) (v := 98) (by decide)] at hP hD
  have hP : va_P D vwCl ((h0, .inr (12, fs)) :: (q_139, .inl (D.1 14, 6, .inl (fun j => i2 (upZ (upZ (upZ (upZ (fun _ => 0) 0 110) 1 117) 2 109) 3 98 j)))) :: T) H := hP
  have hD : va_D A ((h0, .inr (12, fs)) :: (q_139, .inl (D.1 14, 6, .inl (fun j => i2 (upZ (upZ (upZ (upZ (fun _ => 0) 0 110) 1 117) 2 109) 3 98 j)))) :: T) := hD
  refine lv_dup hx hb dX12_init_1510 rfl ?_
  refine lv_iconst (v := 4) hx hb dX12_init_1511 (by decide) ?_
  refine lv_bipush (v := 101) hx hb dX12_init_1512 (by decide) ?_
  refine va_cast hx hb hK hP hD hS 1 1 rfl rfl (z_in (by decide) (by decide)) dX12_init_1514 (fun H locs hP hD hS => ?_)
  rw [c_i2 (F := upZ (upZ (upZ (upZ (fun _ => 0) 0 110) 1 117) 2 109) 3 98) (k := Int32.toNatClampNeg 4) (c := vp_nar .char 101) (v := 101) (by decide)] at hP hD
  have hP : va_P D vwCl ((h0, .inr (12, fs)) :: (q_139, .inl (D.1 14, 6, .inl (fun j => i2 (upZ (upZ (upZ (upZ (upZ (fun _ => 0) 0 110) 1 117) 2 109) 3 98) 4 101 j)))) :: T) H := hP
  have hD : va_D A ((h0, .inr (12, fs)) :: (q_139, .inl (D.1 14, 6, .inl (fun j => i2 (upZ (upZ (upZ (upZ (upZ (fun _ => 0) 0 110) 1 117) 2 109) 3 98) 4 101 j)))) :: T) := hD
  refine lv_dup hx hb dX12_init_1515 rfl ?_
  refine lv_iconst (v := 5) hx hb dX12_init_1516 (by decide) ?_
  refine lv_bipush (v := 114) hx hb dX12_init_1517 (by decide) ?_
  refine va_cast hx hb hK hP hD hS 1 1 rfl rfl (z_in (by decide) (by decide)) dX12_init_1519 (fun H locs hP hD hS => ?_)
  rw [c_i2 (F := upZ (upZ (upZ (upZ (upZ (fun _ => 0) 0 110) 1 117) 2 109) 3 98) 4 101) (k := Int32.toNatClampNeg 5) (c := vp_nar .char 114) (v := 114) (by decide)] at hP hD
  have hP : va_P D vwCl ((h0, .inr (12, fs)) :: (q_139, .inl (D.1 14, 6, .inl (fun j => i2 (upZ (upZ (upZ (upZ (upZ (upZ (fun _ => 0) 0 110) 1 117) 2 109) 3 98) 4 101) 5 114 j)))) :: T) H := hP
  have hD : va_D A ((h0, .inr (12, fs)) :: (q_139, .inl (D.1 14, 6, .inl (fun j => i2 (upZ (upZ (upZ (upZ (upZ (upZ (fun _ => 0) 0 110) 1 117) 2 109) 3 98) 4 101) 5 114 j)))) :: T) := hD
  refine va_putF (D := D) (ci := 12) (v := .ref q_139) (ty := .array .char) (C := RX12) (T := TX12) (N := 116) hx hb ht inX12 tyX12 tyX12_ok nmX12 hown hK hP hD hS 0 rfl rfl 95 (by decide) (ht (.fieldLink RX12 225 "CloneVolumesModel" "numberAsked" "[C") fl_X12_225) (fun _ h9 => h9) rfl hin rfl (by decide +kernel) rfl rfl (by rw [hlen]; decide) dX12_init_1520 (fun H locs hP hD hS => ?_)
  have hP : va_P D vwCl ((h0, .inr (12, (fs.set 95 (.ref q_139)))) :: (q_139, .inl (D.1 14, 6, .inl (fun j => i2 (upZ (upZ (upZ (upZ (upZ (upZ (fun _ => 0) 0 110) 1 117) 2 109) 3 98) 4 101) 5 114 j)))) :: T) H := hP
  have hD : va_D A ((h0, .inr (12, (fs.set 95 (.ref q_139)))) :: (q_139, .inl (D.1 14, 6, .inl (fun j => i2 (upZ (upZ (upZ (upZ (upZ (upZ (fun _ => 0) 0 110) 1 117) 2 109) 3 98) 4 101) 5 114 j)))) :: T) := hD
  generalize hfs_140 : fs.set 95 (.ref q_139) = fs_140 at hP hD
  have hlen : fs_140.length = 116 := by rw [← hfs_140, List.length_set]; exact hlen
  have hP : va_P D vwCl ((h0, .inr (12, fs_140)) :: (q_139, .inl (D.1 14, 6, .inl (fun j => i2 (upZ (upZ (upZ (upZ (upZ (upZ (fun _ => 0) 0 110) 1 117) 2 109) 3 98) 4 101) 5 114 j)))) :: T) H := hP
  have hD : va_D A ((h0, .inr (12, fs_140)) :: (q_139, .inl (D.1 14, 6, .inl (fun j => i2 (upZ (upZ (upZ (upZ (upZ (upZ (fun _ => 0) 0 110) 1 117) 2 109) 3 98) 4 101) 5 114 j)))) :: T) := hD
  refine lv_aload_n hx hb dX12_init_1523 rfl (lv_at hl 0 rfl) ?_
  refine lv_iconst (v := 5) hx hb dX12_init_1524 (by decide) ?_
  refine va_newa (atype := .char) (a0 := (5, .inl (fun _ => 0))) (ty := .char) (N' := 5) hx hb (ht _ ac_char) rfl hK hP hD hS hA (fun _ => rfl) (by decide) (by decide) (by decide) (Nat.le_trans (Nat.le_of_ble_eq_true rfl) hRc) (Nat.le_trans (Nat.le_of_ble_eq_true rfl) hRs) dX12_init_1525 (fun q_141 cA H hK2 hP hD hS => ?_)
  obtain rfl := z_cls_char hK hK2
  refine W.widen (k := 70) (n := 27736) (Nat.le_of_ble_eq_true rfl) (Nat.le_of_ble_eq_true rfl) ?_
  obtain ⟨hP, hD⟩ := z_rot hP hD
  have hP : va_P D vwCl ((h0, .inr (12, fs_140)) :: (q_141, .inl (D.1 14, 5, .inl (fun _ => i2 0))) :: (q_139, .inl (D.1 14, 6, .inl (fun j => i2 (upZ (upZ (upZ (upZ (upZ (upZ (fun _ => 0) 0 110) 1 117) 2 109) 3 98) 4 101) 5 114 j)))) :: T) H := hP
  have hD : va_D A ((h0, .inr (12, fs_140)) :: (q_141, .inl (D.1 14, 5, .inl (fun _ => i2 0))) :: (q_139, .inl (D.1 14, 6, .inl (fun j => i2 (upZ (upZ (upZ (upZ (upZ (upZ (fun _ => 0) 0 110) 1 117) 2 109) 3 98) 4 101) 5 114 j)))) :: T) := hD
  refine lv_dup hx hb dX12_init_1527 rfl ?_
  refine lv_iconst (v := 0) hx hb dX12_init_1528 (by decide) ?_
  refine lv_bipush (v := 99) hx hb dX12_init_1529 (by decide) ?_
  refine va_cast hx hb hK hP hD hS 1 1 rfl rfl (z_in (by decide) (by decide)) dX12_init_1531 (fun H locs hP hD hS => ?_)
  rw [c_i2 (F := fun _ => 0) (k := Int32.toNatClampNeg 0) (c := vp_nar .char 99) (v := 99) (by decide)] at hP hD
  have hP : va_P D vwCl ((h0, .inr (12, fs_140)) :: (q_141, .inl (D.1 14, 5, .inl (fun j => i2 (upZ (fun _ => 0) 0 99 j)))) :: (q_139, .inl (D.1 14, 6, .inl (fun j => i2 (upZ (upZ (upZ (upZ (upZ (upZ (fun _ => 0) 0 110) 1 117) 2 109) 3 98) 4 101) 5 114 j)))) :: T) H := hP
  have hD : va_D A ((h0, .inr (12, fs_140)) :: (q_141, .inl (D.1 14, 5, .inl (fun j => i2 (upZ (fun _ => 0) 0 99 j)))) :: (q_139, .inl (D.1 14, 6, .inl (fun j => i2 (upZ (upZ (upZ (upZ (upZ (upZ (fun _ => 0) 0 110) 1 117) 2 109) 3 98) 4 101) 5 114 j)))) :: T) := hD
  refine lv_dup hx hb dX12_init_1532 rfl ?_
  refine lv_iconst (v := 1) hx hb dX12_init_1533 (by decide) ?_
  refine lv_bipush (v := 111) hx hb dX12_init_1534 (by decide) ?_
  refine va_cast hx hb hK hP hD hS 1 1 rfl rfl (z_in (by decide) (by decide)) dX12_init_1536 (fun H locs hP hD hS => ?_)
  rw [c_i2 (F := upZ (fun _ => 0) 0 99) (k := Int32.toNatClampNeg 1) (c := vp_nar .char 111) (v := 111) (by decide)] at hP hD
  have hP : va_P D vwCl ((h0, .inr (12, fs_140)) :: (q_141, .inl (D.1 14, 5, .inl (fun j => i2 (upZ (upZ (fun _ => 0) 0 99) 1 111 j)))) :: (q_139, .inl (D.1 14, 6, .inl (fun j => i2 (upZ (upZ (upZ (upZ (upZ (upZ (fun _ => 0) 0 110) 1 117) 2 109) 3 98) 4 101) 5 114 j)))) :: T) H := hP
  have hD : va_D A ((h0, .inr (12, fs_140)) :: (q_141, .inl (D.1 14, 5, .inl (fun j => i2 (upZ (upZ (fun _ => 0) 0 99) 1 111 j)))) :: (q_139, .inl (D.1 14, 6, .inl (fun j => i2 (upZ (upZ (upZ (upZ (upZ (upZ (fun _ => 0) 0 110) 1 117) 2 109) 3 98) 4 101) 5 114 j)))) :: T) := hD
  refine lv_dup hx hb dX12_init_1537 rfl ?_
  refine lv_iconst (v := 2) hx hb dX12_init_1538 (by decide) ?_
  refine lv_bipush (v := 117) hx hb dX12_init_1539 (by decide) ?_
  refine va_cast hx hb hK hP hD hS 1 1 rfl rfl (z_in (by decide) (by decide)) dX12_init_1541 (fun H locs hP hD hS => ?_)
  rw [c_i2 (F := upZ (upZ (fun _ => 0) 0 99) 1 111) (k := Int32.toNatClampNeg 2) (c := vp_nar .char 117) (v := 117) (by decide)] at hP hD
  have hP : va_P D vwCl ((h0, .inr (12, fs_140)) :: (q_141, .inl (D.1 14, 5, .inl (fun j => i2 (upZ (upZ (upZ (fun _ => 0) 0 99) 1 111) 2 117 j)))) :: (q_139, .inl (D.1 14, 6, .inl (fun j => i2 (upZ (upZ (upZ (upZ (upZ (upZ (fun _ => 0) 0 110) 1 117) 2 109) 3 98) 4 101) 5 114 j)))) :: T) H := hP
  have hD : va_D A ((h0, .inr (12, fs_140)) :: (q_141, .inl (D.1 14, 5, .inl (fun j => i2 (upZ (upZ (upZ (fun _ => 0) 0 99) 1 111) 2 117 j)))) :: (q_139, .inl (D.1 14, 6, .inl (fun j => i2 (upZ (upZ (upZ (upZ (upZ (upZ (fun _ => 0) 0 110) 1 117) 2 109) 3 98) 4 101) 5 114 j)))) :: T) := hD
  refine lv_dup hx hb dX12_init_1542 rfl ?_
  refine lv_iconst (v := 3) hx hb dX12_init_1543 (by decide) ?_
  refine lv_bipush (v := 110) hx hb dX12_init_1544 (by decide) ?_
  refine va_cast hx hb hK hP hD hS 1 1 rfl rfl (z_in (by decide) (by decide)) dX12_init_1546 (fun H locs hP hD hS => ?_)
  rw [c_i2 (F := upZ (upZ (upZ (fun _ => 0) 0 99) 1 111) 2 117) (k := Int32.toNatClampNeg 3) (c := vp_nar .char 110) (v := 110) (by decide)] at hP hD
  have hP : va_P D vwCl ((h0, .inr (12, fs_140)) :: (q_141, .inl (D.1 14, 5, .inl (fun j => i2 (upZ (upZ (upZ (upZ (fun _ => 0) 0 99) 1 111) 2 117) 3 110 j)))) :: (q_139, .inl (D.1 14, 6, .inl (fun j => i2 (upZ (upZ (upZ (upZ (upZ (upZ (fun _ => 0) 0 110) 1 117) 2 109) 3 98) 4 101) 5 114 j)))) :: T) H := hP
  have hD : va_D A ((h0, .inr (12, fs_140)) :: (q_141, .inl (D.1 14, 5, .inl (fun j => i2 (upZ (upZ (upZ (upZ (fun _ => 0) 0 99) 1 111) 2 117) 3 110 j)))) :: (q_139, .inl (D.1 14, 6, .inl (fun j => i2 (upZ (upZ (upZ (upZ (upZ (upZ (fun _ => 0) 0 110) 1 117) 2 109) 3 98) 4 101) 5 114 j)))) :: T) := hD
  refine lv_dup hx hb dX12_init_1547 rfl ?_
  refine lv_iconst (v := 4) hx hb dX12_init_1548 (by decide) ?_
  refine lv_bipush (v := 116) hx hb dX12_init_1549 (by decide) ?_
  refine va_cast hx hb hK hP hD hS 1 1 rfl rfl (z_in (by decide) (by decide)) dX12_init_1551 (fun H locs hP hD hS => ?_)
  rw [c_i2 (F := upZ (upZ (upZ (upZ (fun _ => 0) 0 99) 1 111) 2 117) 3 110) (k := Int32.toNatClampNeg 4) (c := vp_nar .char 116) (v := 116) (by decide)] at hP hD
  have hP : va_P D vwCl ((h0, .inr (12, fs_140)) :: (q_141, .inl (D.1 14, 5, .inl (fun j => i2 (upZ (upZ (upZ (upZ (upZ (fun _ => 0) 0 99) 1 111) 2 117) 3 110) 4 116 j)))) :: (q_139, .inl (D.1 14, 6, .inl (fun j => i2 (upZ (upZ (upZ (upZ (upZ (upZ (fun _ => 0) 0 110) 1 117) 2 109) 3 98) 4 101) 5 114 j)))) :: T) H := hP
  have hD : va_D A ((h0, .inr (12, fs_140)) :: (q_141, .inl (D.1 14, 5, .inl (fun j => i2 (upZ (upZ (upZ (upZ (upZ (fun _ => 0) 0 99) 1 111) 2 117) 3 110) 4 116 j)))) :: (q_139, .inl (D.1 14, 6, .inl (fun j => i2 (upZ (upZ (upZ (upZ (upZ (upZ (fun _ => 0) 0 110) 1 117) 2 109) 3 98) 4 101) 5 114 j)))) :: T) := hD
  refine va_putF (D := D) (ci := 12) (v := .ref q_141) (ty := .array .char) (C := RX12) (T := TX12) (N := 116) hx hb ht inX12 tyX12 tyX12_ok nmX12 hown hK hP hD hS 0 rfl rfl 96 (by decide) (ht (.fieldLink RX12 228 "CloneVolumesModel" "countAsked" "[C") fl_X12_228) (fun _ h9 => h9) rfl hin rfl (by decide +kernel) rfl rfl (by rw [hlen]; decide) dX12_init_1552 (fun H locs hP hD hS => ?_)
  have hP : va_P D vwCl ((h0, .inr (12, (fs_140.set 96 (.ref q_141)))) :: (q_141, .inl (D.1 14, 5, .inl (fun j => i2 (upZ (upZ (upZ (upZ (upZ (fun _ => 0) 0 99) 1 111) 2 117) 3 110) 4 116 j)))) :: (q_139, .inl (D.1 14, 6, .inl (fun j => i2 (upZ (upZ (upZ (upZ (upZ (upZ (fun _ => 0) 0 110) 1 117) 2 109) 3 98) 4 101) 5 114 j)))) :: T) H := hP
  have hD : va_D A ((h0, .inr (12, (fs_140.set 96 (.ref q_141)))) :: (q_141, .inl (D.1 14, 5, .inl (fun j => i2 (upZ (upZ (upZ (upZ (upZ (fun _ => 0) 0 99) 1 111) 2 117) 3 110) 4 116 j)))) :: (q_139, .inl (D.1 14, 6, .inl (fun j => i2 (upZ (upZ (upZ (upZ (upZ (upZ (fun _ => 0) 0 110) 1 117) 2 109) 3 98) 4 101) 5 114 j)))) :: T) := hD
  generalize hfs_142 : fs_140.set 96 (.ref q_141) = fs_142 at hP hD
  have hlen : fs_142.length = 116 := by rw [← hfs_142, List.length_set]; exact hlen
  have hP : va_P D vwCl ((h0, .inr (12, fs_142)) :: (q_141, .inl (D.1 14, 5, .inl (fun j => i2 (upZ (upZ (upZ (upZ (upZ (fun _ => 0) 0 99) 1 111) 2 117) 3 110) 4 116 j)))) :: (q_139, .inl (D.1 14, 6, .inl (fun j => i2 (upZ (upZ (upZ (upZ (upZ (upZ (fun _ => 0) 0 110) 1 117) 2 109) 3 98) 4 101) 5 114 j)))) :: T) H := hP
  have hD : va_D A ((h0, .inr (12, fs_142)) :: (q_141, .inl (D.1 14, 5, .inl (fun j => i2 (upZ (upZ (upZ (upZ (upZ (fun _ => 0) 0 99) 1 111) 2 117) 3 110) 4 116 j)))) :: (q_139, .inl (D.1 14, 6, .inl (fun j => i2 (upZ (upZ (upZ (upZ (upZ (upZ (fun _ => 0) 0 110) 1 117) 2 109) 3 98) 4 101) 5 114 j)))) :: T) := hD
  exact kk q_141 q_139 fs_142 _ _ (by rw [← hfs_142, ← hfs_140]) hP hD hS
set_option maxHeartbeats 4000000 in
set_option maxRecDepth 100000 in
theorem cM_20 {p : Program} {l : Launch} {e : Env} {R : Room} {s : State} {m : MethodId} {args : Array Value} {below : List Frame} {meth : Method} {c : Code} {Q : State → Prop} {D : va_G} {A : Nat → Prop} {ls : Array Slot} {h0 : Nat} {T : va_W} (hx : p.tables.exec = Jvm.exec) (hb : c.code = cX12_init) (ht : ∀ w ∈ lw_gd, w.before args s = true) (hown : s.vm.findClass RX12 = some m.cls) (hin : meth.name = "<init>") (hK : va_K D vwCl (TY D) s) (hA : ∀ q : Nat, s.heap.size ≤ q → A q) (hRc : 80 ≤ R.cells) (hRs : 35050 ≤ R.slots) (hl : lv_has ls 1 [(0, .ref h0)]) {fs : List Value} (hlen : fs.length = 116) {H : Heap} {locs : List Loc} (hP : va_P D vwCl ((h0, .inr (12, fs)) :: T) H) (hD : va_D A ((h0, .inr (12, fs)) :: T)) (hS : va_S A s.heap H locs)
    (kk : ∀ (q_145 : Nat) (q_143 : Nat) (fs' : List Value) (H : Heap) (locs : List Loc), fs' = ((fs.set 97 (.ref q_143)).set 98 (.ref q_145)) → va_P D vwCl ((h0, .inr (12, fs')) :: (q_145, .inl (D.1 14, 5, .inl (fun j => i2 (upZ (upZ (upZ (upZ (upZ (fun _ => 0) 0 115) 1 97) 2 118) 3 101) 4 100 j)))) :: (q_143, .inl (D.1 14, 5, .inl (fun j => i2 (upZ (upZ (upZ (upZ (upZ (fun _ => 0) 0 102) 1 114) 2 101) 3 115) 4 104 j)))) :: T) H → va_D A ((h0, .inr (12, fs')) :: (q_145, .inl (D.1 14, 5, .inl (fun j => i2 (upZ (upZ (upZ (upZ (upZ (fun _ => 0) 0 115) 1 97) 2 118) 3 101) 4 100 j)))) :: (q_143, .inl (D.1 14, 5, .inl (fun j => i2 (upZ (upZ (upZ (upZ (upZ (fun _ => 0) 0 102) 1 114) 2 101) 3 115) 4 104 j)))) :: T) → va_S A s.heap H locs → W p l e R s m args below meth c H locs 72 27746 Q (F0 m 1619 ls [])) : W p l e R s m args below meth c H locs 70 27736 Q (F0 m 1555 ls []) := by
  refine lv_aload_n hx hb dX12_init_1555 rfl (lv_at hl 0 rfl) ?_
  refine lv_iconst (v := 5) hx hb dX12_init_1556 (by decide) ?_
  refine va_newa (atype := .char) (a0 := (5, .inl (fun _ => 0))) (ty := .char) (N' := 5) hx hb (ht _ ac_char) rfl hK hP hD hS hA (fun _ => rfl) (by decide) (by decide) (by decide) (Nat.le_trans (Nat.le_of_ble_eq_true rfl) hRc) (Nat.le_trans (Nat.le_of_ble_eq_true rfl) hRs) dX12_init_1557 (fun q_143 cA H hK2 hP hD hS => ?_)
  obtain rfl := z_cls_char hK hK2
  refine W.widen (k := 71) (n := 27741) (Nat.le_of_ble_eq_true rfl) (Nat.le_of_ble_eq_true rfl) ?_
  obtain ⟨hP, hD⟩ := z_rot hP hD
  have hP : va_P D vwCl ((h0, .inr (12, fs)) :: (q_143, .inl (D.1 14, 5, .inl (fun _ => i2 0))) :: T) H := hP
  have hD : va_D A ((h0, .inr (12, fs)) :: (q_143, .inl (D.1 14, 5, .inl (fun _ => i2 0))) :: T) := hD
  refine lv_dup hx hb dX12_init_1559 rfl ?_
  refine lv_iconst (v := 0) hx hb dX12_init_1560 (by decide) ?_
  refine lv_bipush (v := 102) hx hb dX12_init_1561 (by decide) ?_
  refine va_cast hx hb hK hP hD hS 1 1 rfl rfl (z_in (by decide) (by decide)) dX12_init_1563 (fun H locs hP hD hS => ?_)
  rw [c_i2 (F := fun _ => 0) (k := Int32.toNatClampNeg 0) (c := vp_nar .char 102) (v := 102) (by decide)] at hP hD
  have hP : va_P D vwCl ((h0, .inr (12, fs)) :: (q_143, .inl (D.1 14, 5, .inl (fun j => i2 (upZ (fun _ => 0) 0 102 j)))) :: T) H := hP
  have hD : va_D A ((h0, .inr (12, fs)) :: (q_143, .inl (D.1 14, 5, .inl (fun j => i2 (upZ (fun _ => 0) 0 102 j)))) :: T) := hD
  refine lv_dup hx hb dX12_init_1564 rfl ?_
  refine lv_iconst (v := 1) hx hb dX12_init_1565 (by decide) ?_
  refine lv_bipush (v := 114) hx hb dX12_init_1566 (by decide) ?_
  refine va_cast hx hb hK hP hD hS 1 1 rfl rfl (z_in (by decide) (by decide)) dX12_init_1568 (fun H locs hP hD hS => ?_)
  rw [c_i2 (F := upZ (fun _ => 0) 0 102) (k := Int32.toNatClampNeg 1) (c := vp_nar .char 114) (v := 114) (by decide)] at hP hD
  have hP : va_P D vwCl ((h0, .inr (12, fs)) :: (q_143, .inl (D.1 14, 5, .inl (fun j => i2 (upZ (upZ (fun _ => 0) 0 102) 1 114 j)))) :: T) H := hP
  have hD : va_D A ((h0, .inr (12, fs)) :: (q_143, .inl (D.1 14, 5, .inl (fun j => i2 (upZ (upZ (fun _ => 0) 0 102) 1 114 j)))) :: T) := hD
  refine lv_dup hx hb dX12_init_1569 rfl ?_
  refine lv_iconst (v := 2) hx hb dX12_init_1570 (by decide) ?_
  refine lv_bipush (v := 101) hx hb dX12_init_1571 (by decide) ?_
  refine va_cast hx hb hK hP hD hS 1 1 rfl rfl (z_in (by decide) (by decide)) dX12_init_1573 (fun H locs hP hD hS => ?_)
  rw [c_i2 (F := upZ (upZ (fun _ => 0) 0 102) 1 114) (k := Int32.toNatClampNeg 2) (c := vp_nar .char 101) (v := 101) (by decide)] at hP hD
  have hP : va_P D vwCl ((h0, .inr (12, fs)) :: (q_143, .inl (D.1 14, 5, .inl (fun j => i2 (upZ (upZ (upZ (fun _ => 0) 0 102) 1 114) 2 101 j)))) :: T) H := hP
  have hD : va_D A ((h0, .inr (12, fs)) :: (q_143, .inl (D.1 14, 5, .inl (fun j => i2 (upZ (upZ (upZ (fun _ => 0) 0 102) 1 114) 2 101 j)))) :: T) := hD
  refine lv_dup hx hb dX12_init_1574 rfl ?_
  refine lv_iconst (v := 3) hx hb dX12_init_1575 (by decide) ?_
  refine lv_bipush (v := 115) hx hb dX12_init_1576 (by decide) ?_
  refine va_cast hx hb hK hP hD hS 1 1 rfl rfl (z_in (by decide) (by decide)) dX12_init_1578 (fun H locs hP hD hS => ?_)
  rw [c_i2 (F := upZ (upZ (upZ (fun _ => 0) 0 102) 1 114) 2 101) (k := Int32.toNatClampNeg 3) (c := vp_nar .char 115) (v := 115) (by decide)] at hP hD
  have hP : va_P D vwCl ((h0, .inr (12, fs)) :: (q_143, .inl (D.1 14, 5, .inl (fun j => i2 (upZ (upZ (upZ (upZ (fun _ => 0) 0 102) 1 114) 2 101) 3 115 j)))) :: T) H := hP
  have hD : va_D A ((h0, .inr (12, fs)) :: (q_143, .inl (D.1 14, 5, .inl (fun j => i2 (upZ (upZ (upZ (upZ (fun _ => 0) 0 102) 1 114) 2 101) 3 115 j)))) :: T) := hD
  refine lv_dup hx hb dX12_init_1579 rfl ?_
  refine lv_iconst (v := 4) hx hb dX12_init_1580 (by decide) ?_
  refine lv_bipush (v := 104) hx hb dX12_init_1581 (by decide) ?_
  refine va_cast hx hb hK hP hD hS 1 1 rfl rfl (z_in (by decide) (by decide)) dX12_init_1583 (fun H locs hP hD hS => ?_)
  rw [c_i2 (F := upZ (upZ (upZ (upZ (fun _ => 0) 0 102) 1 114) 2 101) 3 115) (k := Int32.toNatClampNeg 4) (c := vp_nar .char 104) (v := 104) (by decide)] at hP hD
  have hP : va_P D vwCl ((h0, .inr (12, fs)) :: (q_143, .inl (D.1 14, 5, .inl (fun j => i2 (upZ (upZ (upZ (upZ (upZ (fun _ => 0) 0 102) 1 114) 2 101) 3 115) 4 104 j)))) :: T) H := hP
  have hD : va_D A ((h0, .inr (12, fs)) :: (q_143, .inl (D.1 14, 5, .inl (fun j => i2 (upZ (upZ (upZ (upZ (upZ (fun _ => 0) 0 102) 1 114) 2 101) 3 115) 4 104 j)))) :: T) := hD
  refine va_putF (D := D) (ci := 12) (v := .ref q_143) (ty := .array .char) (C := RX12) (T := TX12) (N := 116) hx hb ht inX12 tyX12 tyX12_ok nmX12 hown hK hP hD hS 0 rfl rfl 97 (by decide) (ht (.fieldLink RX12 231 "CloneVolumesModel" "freshAsked" "[C") fl_X12_231) (fun _ h9 => h9) rfl hin rfl (by decide +kernel) rfl rfl (by rw [hlen]; decide) dX12_init_1584 (fun H locs hP hD hS => ?_)
  have hP : va_P D vwCl ((h0, .inr (12, (fs.set 97 (.ref q_143)))) :: (q_143, .inl (D.1 14, 5, .inl (fun j => i2 (upZ (upZ (upZ (upZ (upZ (fun _ => 0) 0 102) 1 114) 2 101) 3 115) 4 104 j)))) :: T) H := hP
  have hD : va_D A ((h0, .inr (12, (fs.set 97 (.ref q_143)))) :: (q_143, .inl (D.1 14, 5, .inl (fun j => i2 (upZ (upZ (upZ (upZ (upZ (fun _ => 0) 0 102) 1 114) 2 101) 3 115) 4 104 j)))) :: T) := hD
  generalize hfs_144 : fs.set 97 (.ref q_143) = fs_144 at hP hD
  have hlen : fs_144.length = 116 := by rw [← hfs_144, List.length_set]; exact hlen
  have hP : va_P D vwCl ((h0, .inr (12, fs_144)) :: (q_143, .inl (D.1 14, 5, .inl (fun j => i2 (upZ (upZ (upZ (upZ (upZ (fun _ => 0) 0 102) 1 114) 2 101) 3 115) 4 104 j)))) :: T) H := hP
  have hD : va_D A ((h0, .inr (12, fs_144)) :: (q_143, .inl (D.1 14, 5, .inl (fun j => i2 (upZ (upZ (upZ (upZ (upZ (fun _ => 0) 0 102) 1 114) 2 101) 3 115) 4 104 j)))) :: T) := hD
  refine lv_aload_n hx hb dX12_init_1587 rfl (lv_at hl 0 rfl) ?_
  refine lv_iconst (v := 5) hx hb dX12_init_1588 (by decide) ?_
  refine va_newa (atype := .char) (a0 := (5, .inl (fun _ => 0))) (ty := .char) (N' := 5) hx hb (ht _ ac_char) rfl hK hP hD hS hA (fun _ => rfl) (by decide) (by decide) (by decide) (Nat.le_trans (Nat.le_of_ble_eq_true rfl) hRc) (Nat.le_trans (Nat.le_of_ble_eq_true rfl) hRs) dX12_init_1589 (fun q_145 cA H hK2 hP hD hS => ?_)
  obtain rfl := z_cls_char hK hK2
  refine W.widen (k := 72) (n := 27746) (Nat.le_of_ble_eq_true rfl) (Nat.le_of_ble_eq_true rfl) ?_
  obtain ⟨hP, hD⟩ := z_rot hP hD
  have hP : va_P D vwCl ((h0, .inr (12, fs_144)) :: (q_145, .inl (D.1 14, 5, .inl (fun _ => i2 0))) :: (q_143, .inl (D.1 14, 5, .inl (fun j => i2 (upZ (upZ (upZ (upZ (upZ (fun _ => 0) 0 102) 1 114) 2 101) 3 115) 4 104 j)))) :: T) H := hP
  have hD : va_D A ((h0, .inr (12, fs_144)) :: (q_145, .inl (D.1 14, 5, .inl (fun _ => i2 0))) :: (q_143, .inl (D.1 14, 5, .inl (fun j => i2 (upZ (upZ (upZ (upZ (upZ (fun _ => 0) 0 102) 1 114) 2 101) 3 115) 4 104 j)))) :: T) := hD
  refine lv_dup hx hb dX12_init_1591 rfl ?_
  refine lv_iconst (v := 0) hx hb dX12_init_1592 (by decide) ?_
  refine lv_bipush (v := 115) hx hb dX12_init_1593 (by decide) ?_
  refine va_cast hx hb hK hP hD hS 1 1 rfl rfl (z_in (by decide) (by decide)) dX12_init_1595 (fun H locs hP hD hS => ?_)
  rw [c_i2 (F := fun _ => 0) (k := Int32.toNatClampNeg 0) (c := vp_nar .char 115) (v := 115) (by decide)] at hP hD
  have hP : va_P D vwCl ((h0, .inr (12, fs_144)) :: (q_145, .inl (D.1 14, 5, .inl (fun j => i2 (upZ (fun _ => 0) 0 115 j)))) :: (q_143, .inl (D.1 14, 5, .inl (fun j => i2 (upZ (upZ (upZ (upZ (upZ (fun _ => 0) 0 102) 1 114) 2 101) 3 115) 4 104 j)))) :: T) H := hP
  have hD : va_D A ((h0, .inr (12, fs_144)) :: (q_145, .inl (D.1 14, 5, .inl (fun j => i2 (upZ (fun _ => 0) 0 115 j)))) :: (q_143, .inl (D.1 14, 5, .inl (fun j => i2 (upZ (upZ (upZ (upZ (upZ (fun _ => 0) 0 102) 1 114) 2 101) 3 115) 4 104 j)))) :: T) := hD
  refine lv_dup hx hb dX12_init_1596 rfl ?_
  refine lv_iconst (v := 1) hx hb dX12_init_1597 (by decide) ?_
  refine lv_bipush (v := 97) hx hb dX12_init_1598 (by decide) ?_
  refine va_cast hx hb hK hP hD hS 1 1 rfl rfl (z_in (by decide) (by decide)) dX12_init_1600 (fun H locs hP hD hS => ?_)
  rw [c_i2 (F := upZ (fun _ => 0) 0 115) (k := Int32.toNatClampNeg 1) (c := vp_nar .char 97) (v := 97) (by decide)] at hP hD
  have hP : va_P D vwCl ((h0, .inr (12, fs_144)) :: (q_145, .inl (D.1 14, 5, .inl (fun j => i2 (upZ (upZ (fun _ => 0) 0 115) 1 97 j)))) :: (q_143, .inl (D.1 14, 5, .inl (fun j => i2 (upZ (upZ (upZ (upZ (upZ (fun _ => 0) 0 102) 1 114) 2 101) 3 115) 4 104 j)))) :: T) H := hP
  have hD : va_D A ((h0, .inr (12, fs_144)) :: (q_145, .inl (D.1 14, 5, .inl (fun j => i2 (upZ (upZ (fun _ => 0) 0 115) 1 97 j)))) :: (q_143, .inl (D.1 14, 5, .inl (fun j => i2 (upZ (upZ (upZ (upZ (upZ (fun _ => 0) 0 102) 1 114) 2 101) 3 115) 4 104 j)))) :: T) := hD
  refine lv_dup hx hb dX12_init_1601 rfl ?_
  refine lv_iconst (v := 2) hx hb dX12_init_1602 (by decide) ?_
  refine lv_bipush (v := 118) hx hb dX12_init_1603 (by decide) ?_
  refine va_cast hx hb hK hP hD hS 1 1 rfl rfl (z_in (by decide) (by decide)) dX12_init_1605 (fun H locs hP hD hS => ?_)
  rw [c_i2 (F := upZ (upZ (fun _ => 0) 0 115) 1 97) (k := Int32.toNatClampNeg 2) (c := vp_nar .char 118) (v := 118) (by decide)] at hP hD
  have hP : va_P D vwCl ((h0, .inr (12, fs_144)) :: (q_145, .inl (D.1 14, 5, .inl (fun j => i2 (upZ (upZ (upZ (fun _ => 0) 0 115) 1 97) 2 118 j)))) :: (q_143, .inl (D.1 14, 5, .inl (fun j => i2 (upZ (upZ (upZ (upZ (upZ (fun _ => 0) 0 102) 1 114) 2 101) 3 115) 4 104 j)))) :: T) H := hP
  have hD : va_D A ((h0, .inr (12, fs_144)) :: (q_145, .inl (D.1 14, 5, .inl (fun j => i2 (upZ (upZ (upZ (fun _ => 0) 0 115) 1 97) 2 118 j)))) :: (q_143, .inl (D.1 14, 5, .inl (fun j => i2 (upZ (upZ (upZ (upZ (upZ (fun _ => 0) 0 102) 1 114) 2 101) 3 115) 4 104 j)))) :: T) := hD
  refine lv_dup hx hb dX12_init_1606 rfl ?_
  refine lv_iconst (v := 3) hx hb dX12_init_1607 (by decide) ?_
  refine lv_bipush (v := 101) hx hb dX12_init_1608 (by decide) ?_
  refine va_cast hx hb hK hP hD hS 1 1 rfl rfl (z_in (by decide) (by decide)) dX12_init_1610 (fun H locs hP hD hS => ?_)
  rw [c_i2 (F := upZ (upZ (upZ (fun _ => 0) 0 115) 1 97) 2 118) (k := Int32.toNatClampNeg 3) (c := vp_nar .char 101) (v := 101) (by decide)] at hP hD
  have hP : va_P D vwCl ((h0, .inr (12, fs_144)) :: (q_145, .inl (D.1 14, 5, .inl (fun j => i2 (upZ (upZ (upZ (upZ (fun _ => 0) 0 115) 1 97) 2 118) 3 101 j)))) :: (q_143, .inl (D.1 14, 5, .inl (fun j => i2 (upZ (upZ (upZ (upZ (upZ (fun _ => 0) 0 102) 1 114) 2 101) 3 115) 4 104 j)))) :: T) H := hP
  have hD : va_D A ((h0, .inr (12, fs_144)) :: (q_145, .inl (D.1 14, 5, .inl (fun j => i2 (upZ (upZ (upZ (upZ (fun _ => 0) 0 115) 1 97) 2 118) 3 101 j)))) :: (q_143, .inl (D.1 14, 5, .inl (fun j => i2 (upZ (upZ (upZ (upZ (upZ (fun _ => 0) 0 102) 1 114) 2 101) 3 115) 4 104 j)))) :: T) := hD
  refine lv_dup hx hb dX12_init_1611 rfl ?_
  refine lv_iconst (v := 4) hx hb dX12_init_1612 (by decide) ?_
  refine lv_bipush (v := 100) hx hb dX12_init_1613 (by decide) ?_
  refine va_cast hx hb hK hP hD hS 1 1 rfl rfl (z_in (by decide) (by decide)) dX12_init_1615 (fun H locs hP hD hS => ?_)
  rw [c_i2 (F := upZ (upZ (upZ (upZ (fun _ => 0) 0 115) 1 97) 2 118) 3 101) (k := Int32.toNatClampNeg 4) (c := vp_nar .char 100) (v := 100) (by decide)] at hP hD
  have hP : va_P D vwCl ((h0, .inr (12, fs_144)) :: (q_145, .inl (D.1 14, 5, .inl (fun j => i2 (upZ (upZ (upZ (upZ (upZ (fun _ => 0) 0 115) 1 97) 2 118) 3 101) 4 100 j)))) :: (q_143, .inl (D.1 14, 5, .inl (fun j => i2 (upZ (upZ (upZ (upZ (upZ (fun _ => 0) 0 102) 1 114) 2 101) 3 115) 4 104 j)))) :: T) H := hP
  have hD : va_D A ((h0, .inr (12, fs_144)) :: (q_145, .inl (D.1 14, 5, .inl (fun j => i2 (upZ (upZ (upZ (upZ (upZ (fun _ => 0) 0 115) 1 97) 2 118) 3 101) 4 100 j)))) :: (q_143, .inl (D.1 14, 5, .inl (fun j => i2 (upZ (upZ (upZ (upZ (upZ (fun _ => 0) 0 102) 1 114) 2 101) 3 115) 4 104 j)))) :: T) := hD
  refine va_putF (D := D) (ci := 12) (v := .ref q_145) (ty := .array .char) (C := RX12) (T := TX12) (N := 116) hx hb ht inX12 tyX12 tyX12_ok nmX12 hown hK hP hD hS 0 rfl rfl 98 (by decide) (ht (.fieldLink RX12 234 "CloneVolumesModel" "savedAsked" "[C") fl_X12_234) (fun _ h9 => h9) rfl hin rfl (by decide +kernel) rfl rfl (by rw [hlen]; decide) dX12_init_1616 (fun H locs hP hD hS => ?_)
  have hP : va_P D vwCl ((h0, .inr (12, (fs_144.set 98 (.ref q_145)))) :: (q_145, .inl (D.1 14, 5, .inl (fun j => i2 (upZ (upZ (upZ (upZ (upZ (fun _ => 0) 0 115) 1 97) 2 118) 3 101) 4 100 j)))) :: (q_143, .inl (D.1 14, 5, .inl (fun j => i2 (upZ (upZ (upZ (upZ (upZ (fun _ => 0) 0 102) 1 114) 2 101) 3 115) 4 104 j)))) :: T) H := hP
  have hD : va_D A ((h0, .inr (12, (fs_144.set 98 (.ref q_145)))) :: (q_145, .inl (D.1 14, 5, .inl (fun j => i2 (upZ (upZ (upZ (upZ (upZ (fun _ => 0) 0 115) 1 97) 2 118) 3 101) 4 100 j)))) :: (q_143, .inl (D.1 14, 5, .inl (fun j => i2 (upZ (upZ (upZ (upZ (upZ (fun _ => 0) 0 102) 1 114) 2 101) 3 115) 4 104 j)))) :: T) := hD
  generalize hfs_146 : fs_144.set 98 (.ref q_145) = fs_146 at hP hD
  have hlen : fs_146.length = 116 := by rw [← hfs_146, List.length_set]; exact hlen
  have hP : va_P D vwCl ((h0, .inr (12, fs_146)) :: (q_145, .inl (D.1 14, 5, .inl (fun j => i2 (upZ (upZ (upZ (upZ (upZ (fun _ => 0) 0 115) 1 97) 2 118) 3 101) 4 100 j)))) :: (q_143, .inl (D.1 14, 5, .inl (fun j => i2 (upZ (upZ (upZ (upZ (upZ (fun _ => 0) 0 102) 1 114) 2 101) 3 115) 4 104 j)))) :: T) H := hP
  have hD : va_D A ((h0, .inr (12, fs_146)) :: (q_145, .inl (D.1 14, 5, .inl (fun j => i2 (upZ (upZ (upZ (upZ (upZ (fun _ => 0) 0 115) 1 97) 2 118) 3 101) 4 100 j)))) :: (q_143, .inl (D.1 14, 5, .inl (fun j => i2 (upZ (upZ (upZ (upZ (upZ (fun _ => 0) 0 102) 1 114) 2 101) 3 115) 4 104 j)))) :: T) := hD
  exact kk q_145 q_143 fs_146 _ _ (by rw [← hfs_146, ← hfs_144]) hP hD hS
set_option maxHeartbeats 4000000 in
set_option maxRecDepth 100000 in
theorem cM_21 {p : Program} {l : Launch} {e : Env} {R : Room} {s : State} {m : MethodId} {args : Array Value} {below : List Frame} {meth : Method} {c : Code} {Q : State → Prop} {D : va_G} {A : Nat → Prop} {ls : Array Slot} {h0 : Nat} {T : va_W} (hx : p.tables.exec = Jvm.exec) (hb : c.code = cX12_init) (ht : ∀ w ∈ lw_gd, w.before args s = true) (hown : s.vm.findClass RX12 = some m.cls) (hin : meth.name = "<init>") (hK : va_K D vwCl (TY D) s) (hA : ∀ q : Nat, s.heap.size ≤ q → A q) (hRc : 80 ≤ R.cells) (hRs : 35050 ≤ R.slots) (hl : lv_has ls 1 [(0, .ref h0)]) {fs : List Value} (hlen : fs.length = 116) {H : Heap} {locs : List Loc} (hP : va_P D vwCl ((h0, .inr (12, fs)) :: T) H) (hD : va_D A ((h0, .inr (12, fs)) :: T)) (hS : va_S A s.heap H locs)
    (kk : ∀ (q_155 : Nat) (q_153 : Nat) (q_151 : Nat) (q_149 : Nat) (q_147 : Nat) (fs' : List Value) (H : Heap) (locs : List Loc), fs' = (((((fs.set 99 (.ref q_147)).set 100 (.ref q_149)).set 101 (.ref q_151)).set 103 (.ref q_153)).set 107 (.ref q_155)) → va_P D vwCl ((h0, .inr (12, fs')) :: (q_155, .inl (D.1 15, 1700, .inr (.inl (fun _ => 0)))) :: (q_153, .inl (D.1 13, 1700, .inl (fun _ => 0))) :: (q_151, .inl (D.1 13, 1700, .inl (fun _ => 0))) :: (q_149, .inl (D.1 14, 3, .inl (fun j => i2 (upZ (upZ (upZ (fun _ => 0) 0 107) 1 101) 2 121 j)))) :: (q_147, .inl (D.1 14, 4, .inl (fun j => i2 (upZ (upZ (upZ (upZ (fun _ => 0) 0 114) 1 101) 2 102) 3 115 j)))) :: T) H → va_D A ((h0, .inr (12, fs')) :: (q_155, .inl (D.1 15, 1700, .inr (.inl (fun _ => 0)))) :: (q_153, .inl (D.1 13, 1700, .inl (fun _ => 0))) :: (q_151, .inl (D.1 13, 1700, .inl (fun _ => 0))) :: (q_149, .inl (D.1 14, 3, .inl (fun j => i2 (upZ (upZ (upZ (fun _ => 0) 0 107) 1 101) 2 121 j)))) :: (q_147, .inl (D.1 14, 4, .inl (fun j => i2 (upZ (upZ (upZ (upZ (fun _ => 0) 0 114) 1 101) 2 102) 3 115 j)))) :: T) → va_S A s.heap H locs → W p l e R s m args below meth c H locs 77 32853 Q (F0 m 1695 ls [])) : W p l e R s m args below meth c H locs 72 27746 Q (F0 m 1619 ls []) := by
  refine lv_aload_n hx hb dX12_init_1619 rfl (lv_at hl 0 rfl) ?_
  refine lv_iconst (v := 4) hx hb dX12_init_1620 (by decide) ?_
  refine va_newa (atype := .char) (a0 := (4, .inl (fun _ => 0))) (ty := .char) (N' := 4) hx hb (ht _ ac_char) rfl hK hP hD hS hA (fun _ => rfl) (by decide) (by decide) (by decide) (Nat.le_trans (Nat.le_of_ble_eq_true rfl) hRc) (Nat.le_trans (Nat.le_of_ble_eq_true rfl) hRs) dX12_init_1621 (fun q_147 cA H hK2 hP hD hS => ?_)
  obtain rfl := z_cls_char hK hK2
  refine W.widen (k := 73) (n := 27750) (Nat.le_of_ble_eq_true rfl) (Nat.le_of_ble_eq_true rfl) ?_
  obtain ⟨hP, hD⟩ := z_rot hP hD
  have hP : va_P D vwCl ((h0, .inr (12, fs)) :: (q_147, .inl (D.1 14, 4, .inl (fun _ => i2 0))) :: T) H := hP
  have hD : va_D A ((h0, .inr (12, fs)) :: (q_147, .inl (D.1 14, 4, .inl (fun _ => i2 0))) :: T) := hD
  refine lv_dup hx hb dX12_init_1623 rfl ?_
  refine lv_iconst (v := 0) hx hb dX12_init_1624 (by decide) ?_
  refine lv_bipush (v := 114) hx hb dX12_init_1625 (by decide) ?_
  refine va_cast hx hb hK hP hD hS 1 1 rfl rfl (z_in (by decide) (by decide)) dX12_init_1627 (fun H locs hP hD hS => ?_)
  rw [c_i2 (F := fun _ => 0) (k := Int32.toNatClampNeg 0) (c := vp_nar .char 114) (v := 114) (by decide)] at hP hD
  have hP : va_P D vwCl ((h0, .inr (12, fs)) :: (q_147, .inl (D.1 14, 4, .inl (fun j => i2 (upZ (fun _ => 0) 0 114 j)))) :: T) H := hP
  have hD : va_D A ((h0, .inr (12, fs)) :: (q_147, .inl (D.1 14, 4, .inl (fun j => i2 (upZ (fun _ => 0) 0 114 j)))) :: T) := hD
  refine lv_dup hx hb dX12_init_1628 rfl ?_
  refine lv_iconst (v := 1) hx hb dX12_init_1629 (by decide) ?_
  refine lv_bipush (v := 101) hx hb dX12_init_1630 (by decide) ?_
  refine va_cast hx hb hK hP hD hS 1 1 rfl rfl (z_in (by decide) (by decide)) dX12_init_1632 (fun H locs hP hD hS => ?_)
  rw [c_i2 (F := upZ (fun _ => 0) 0 114) (k := Int32.toNatClampNeg 1) (c := vp_nar .char 101) (v := 101) (by decide)] at hP hD
  have hP : va_P D vwCl ((h0, .inr (12, fs)) :: (q_147, .inl (D.1 14, 4, .inl (fun j => i2 (upZ (upZ (fun _ => 0) 0 114) 1 101 j)))) :: T) H := hP
  have hD : va_D A ((h0, .inr (12, fs)) :: (q_147, .inl (D.1 14, 4, .inl (fun j => i2 (upZ (upZ (fun _ => 0) 0 114) 1 101 j)))) :: T) := hD
  refine lv_dup hx hb dX12_init_1633 rfl ?_
  refine lv_iconst (v := 2) hx hb dX12_init_1634 (by decide) ?_
  refine lv_bipush (v := 102) hx hb dX12_init_1635 (by decide) ?_
  refine va_cast hx hb hK hP hD hS 1 1 rfl rfl (z_in (by decide) (by decide)) dX12_init_1637 (fun H locs hP hD hS => ?_)
  rw [c_i2 (F := upZ (upZ (fun _ => 0) 0 114) 1 101) (k := Int32.toNatClampNeg 2) (c := vp_nar .char 102) (v := 102) (by decide)] at hP hD
  have hP : va_P D vwCl ((h0, .inr (12, fs)) :: (q_147, .inl (D.1 14, 4, .inl (fun j => i2 (upZ (upZ (upZ (fun _ => 0) 0 114) 1 101) 2 102 j)))) :: T) H := hP
  have hD : va_D A ((h0, .inr (12, fs)) :: (q_147, .inl (D.1 14, 4, .inl (fun j => i2 (upZ (upZ (upZ (fun _ => 0) 0 114) 1 101) 2 102 j)))) :: T) := hD
  refine lv_dup hx hb dX12_init_1638 rfl ?_
  refine lv_iconst (v := 3) hx hb dX12_init_1639 (by decide) ?_
  refine lv_bipush (v := 115) hx hb dX12_init_1640 (by decide) ?_
  refine va_cast hx hb hK hP hD hS 1 1 rfl rfl (z_in (by decide) (by decide)) dX12_init_1642 (fun H locs hP hD hS => ?_)
  rw [c_i2 (F := upZ (upZ (upZ (fun _ => 0) 0 114) 1 101) 2 102) (k := Int32.toNatClampNeg 3) (c := vp_nar .char 115) (v := 115) (by decide)] at hP hD
  have hP : va_P D vwCl ((h0, .inr (12, fs)) :: (q_147, .inl (D.1 14, 4, .inl (fun j => i2 (upZ (upZ (upZ (upZ (fun _ => 0) 0 114) 1 101) 2 102) 3 115 j)))) :: T) H := hP
  have hD : va_D A ((h0, .inr (12, fs)) :: (q_147, .inl (D.1 14, 4, .inl (fun j => i2 (upZ (upZ (upZ (upZ (fun _ => 0) 0 114) 1 101) 2 102) 3 115 j)))) :: T) := hD
  refine va_putF (D := D) (ci := 12) (v := .ref q_147) (ty := .array .char) (C := RX12) (T := TX12) (N := 116) hx hb ht inX12 tyX12 tyX12_ok nmX12 hown hK hP hD hS 0 rfl rfl 99 (by decide) (ht (.fieldLink RX12 237 "CloneVolumesModel" "refsAsked" "[C") fl_X12_237) (fun _ h9 => h9) rfl hin rfl (by decide +kernel) rfl rfl (by rw [hlen]; decide) dX12_init_1643 (fun H locs hP hD hS => ?_)
  have hP : va_P D vwCl ((h0, .inr (12, (fs.set 99 (.ref q_147)))) :: (q_147, .inl (D.1 14, 4, .inl (fun j => i2 (upZ (upZ (upZ (upZ (fun _ => 0) 0 114) 1 101) 2 102) 3 115 j)))) :: T) H := hP
  have hD : va_D A ((h0, .inr (12, (fs.set 99 (.ref q_147)))) :: (q_147, .inl (D.1 14, 4, .inl (fun j => i2 (upZ (upZ (upZ (upZ (fun _ => 0) 0 114) 1 101) 2 102) 3 115 j)))) :: T) := hD
  generalize hfs_148 : fs.set 99 (.ref q_147) = fs_148 at hP hD
  have hlen : fs_148.length = 116 := by rw [← hfs_148, List.length_set]; exact hlen
  have hP : va_P D vwCl ((h0, .inr (12, fs_148)) :: (q_147, .inl (D.1 14, 4, .inl (fun j => i2 (upZ (upZ (upZ (upZ (fun _ => 0) 0 114) 1 101) 2 102) 3 115 j)))) :: T) H := hP
  have hD : va_D A ((h0, .inr (12, fs_148)) :: (q_147, .inl (D.1 14, 4, .inl (fun j => i2 (upZ (upZ (upZ (upZ (fun _ => 0) 0 114) 1 101) 2 102) 3 115 j)))) :: T) := hD
  refine lv_aload_n hx hb dX12_init_1646 rfl (lv_at hl 0 rfl) ?_
  refine lv_iconst (v := 3) hx hb dX12_init_1647 (by decide) ?_
  refine va_newa (atype := .char) (a0 := (3, .inl (fun _ => 0))) (ty := .char) (N' := 3) hx hb (ht _ ac_char) rfl hK hP hD hS hA (fun _ => rfl) (by decide) (by decide) (by decide) (Nat.le_trans (Nat.le_of_ble_eq_true rfl) hRc) (Nat.le_trans (Nat.le_of_ble_eq_true rfl) hRs) dX12_init_1648 (fun q_149 cA H hK2 hP hD hS => ?_)
  obtain rfl := z_cls_char hK hK2
  refine W.widen (k := 74) (n := 27753) (Nat.le_of_ble_eq_true rfl) (Nat.le_of_ble_eq_true rfl) ?_
  obtain ⟨hP, hD⟩ := z_rot hP hD
  have hP : va_P D vwCl ((h0, .inr (12, fs_148)) :: (q_149, .inl (D.1 14, 3, .inl (fun _ => i2 0))) :: (q_147, .inl (D.1 14, 4, .inl (fun j => i2 (upZ (upZ (upZ (upZ (fun _ => 0) 0 114) 1 101) 2 102) 3 115 j)))) :: T) H := hP
  have hD : va_D A ((h0, .inr (12, fs_148)) :: (q_149, .inl (D.1 14, 3, .inl (fun _ => i2 0))) :: (q_147, .inl (D.1 14, 4, .inl (fun j => i2 (upZ (upZ (upZ (upZ (fun _ => 0) 0 114) 1 101) 2 102) 3 115 j)))) :: T) := hD
  refine lv_dup hx hb dX12_init_1650 rfl ?_
  refine lv_iconst (v := 0) hx hb dX12_init_1651 (by decide) ?_
  refine lv_bipush (v := 107) hx hb dX12_init_1652 (by decide) ?_
  refine va_cast hx hb hK hP hD hS 1 1 rfl rfl (z_in (by decide) (by decide)) dX12_init_1654 (fun H locs hP hD hS => ?_)
  rw [c_i2 (F := fun _ => 0) (k := Int32.toNatClampNeg 0) (c := vp_nar .char 107) (v := 107) (by decide)] at hP hD
  have hP : va_P D vwCl ((h0, .inr (12, fs_148)) :: (q_149, .inl (D.1 14, 3, .inl (fun j => i2 (upZ (fun _ => 0) 0 107 j)))) :: (q_147, .inl (D.1 14, 4, .inl (fun j => i2 (upZ (upZ (upZ (upZ (fun _ => 0) 0 114) 1 101) 2 102) 3 115 j)))) :: T) H := hP
  have hD : va_D A ((h0, .inr (12, fs_148)) :: (q_149, .inl (D.1 14, 3, .inl (fun j => i2 (upZ (fun _ => 0) 0 107 j)))) :: (q_147, .inl (D.1 14, 4, .inl (fun j => i2 (upZ (upZ (upZ (upZ (fun _ => 0) 0 114) 1 101) 2 102) 3 115 j)))) :: T) := hD
  refine lv_dup hx hb dX12_init_1655 rfl ?_
  refine lv_iconst (v := 1) hx hb dX12_init_1656 (by decide) ?_
  refine lv_bipush (v := 101) hx hb dX12_init_1657 (by decide) ?_
  refine va_cast hx hb hK hP hD hS 1 1 rfl rfl (z_in (by decide) (by decide)) dX12_init_1659 (fun H locs hP hD hS => ?_)
  rw [c_i2 (F := upZ (fun _ => 0) 0 107) (k := Int32.toNatClampNeg 1) (c := vp_nar .char 101) (v := 101) (by decide)] at hP hD
  have hP : va_P D vwCl ((h0, .inr (12, fs_148)) :: (q_149, .inl (D.1 14, 3, .inl (fun j => i2 (upZ (upZ (fun _ => 0) 0 107) 1 101 j)))) :: (q_147, .inl (D.1 14, 4, .inl (fun j => i2 (upZ (upZ (upZ (upZ (fun _ => 0) 0 114) 1 101) 2 102) 3 115 j)))) :: T) H := hP
  have hD : va_D A ((h0, .inr (12, fs_148)) :: (q_149, .inl (D.1 14, 3, .inl (fun j => i2 (upZ (upZ (fun _ => 0) 0 107) 1 101 j)))) :: (q_147, .inl (D.1 14, 4, .inl (fun j => i2 (upZ (upZ (upZ (upZ (fun _ => 0) 0 114) 1 101) 2 102) 3 115 j)))) :: T) := hD
  refine lv_dup hx hb dX12_init_1660 rfl ?_
  refine lv_iconst (v := 2) hx hb dX12_init_1661 (by decide) ?_
  refine lv_bipush (v := 121) hx hb dX12_init_1662 (by decide) ?_
  refine va_cast hx hb hK hP hD hS 1 1 rfl rfl (z_in (by decide) (by decide)) dX12_init_1664 (fun H locs hP hD hS => ?_)
  rw [c_i2 (F := upZ (upZ (fun _ => 0) 0 107) 1 101) (k := Int32.toNatClampNeg 2) (c := vp_nar .char 121) (v := 121) (by decide)] at hP hD
  have hP : va_P D vwCl ((h0, .inr (12, fs_148)) :: (q_149, .inl (D.1 14, 3, .inl (fun j => i2 (upZ (upZ (upZ (fun _ => 0) 0 107) 1 101) 2 121 j)))) :: (q_147, .inl (D.1 14, 4, .inl (fun j => i2 (upZ (upZ (upZ (upZ (fun _ => 0) 0 114) 1 101) 2 102) 3 115 j)))) :: T) H := hP
  have hD : va_D A ((h0, .inr (12, fs_148)) :: (q_149, .inl (D.1 14, 3, .inl (fun j => i2 (upZ (upZ (upZ (fun _ => 0) 0 107) 1 101) 2 121 j)))) :: (q_147, .inl (D.1 14, 4, .inl (fun j => i2 (upZ (upZ (upZ (upZ (fun _ => 0) 0 114) 1 101) 2 102) 3 115 j)))) :: T) := hD
  refine va_putF (D := D) (ci := 12) (v := .ref q_149) (ty := .array .char) (C := RX12) (T := TX12) (N := 116) hx hb ht inX12 tyX12 tyX12_ok nmX12 hown hK hP hD hS 0 rfl rfl 100 (by decide) (ht (.fieldLink RX12 240 "CloneVolumesModel" "keyAsked" "[C") fl_X12_240) (fun _ h9 => h9) rfl hin rfl (by decide +kernel) rfl rfl (by rw [hlen]; decide) dX12_init_1665 (fun H locs hP hD hS => ?_)
  have hP : va_P D vwCl ((h0, .inr (12, (fs_148.set 100 (.ref q_149)))) :: (q_149, .inl (D.1 14, 3, .inl (fun j => i2 (upZ (upZ (upZ (fun _ => 0) 0 107) 1 101) 2 121 j)))) :: (q_147, .inl (D.1 14, 4, .inl (fun j => i2 (upZ (upZ (upZ (upZ (fun _ => 0) 0 114) 1 101) 2 102) 3 115 j)))) :: T) H := hP
  have hD : va_D A ((h0, .inr (12, (fs_148.set 100 (.ref q_149)))) :: (q_149, .inl (D.1 14, 3, .inl (fun j => i2 (upZ (upZ (upZ (fun _ => 0) 0 107) 1 101) 2 121 j)))) :: (q_147, .inl (D.1 14, 4, .inl (fun j => i2 (upZ (upZ (upZ (upZ (fun _ => 0) 0 114) 1 101) 2 102) 3 115 j)))) :: T) := hD
  generalize hfs_150 : fs_148.set 100 (.ref q_149) = fs_150 at hP hD
  have hlen : fs_150.length = 116 := by rw [← hfs_150, List.length_set]; exact hlen
  have hP : va_P D vwCl ((h0, .inr (12, fs_150)) :: (q_149, .inl (D.1 14, 3, .inl (fun j => i2 (upZ (upZ (upZ (fun _ => 0) 0 107) 1 101) 2 121 j)))) :: (q_147, .inl (D.1 14, 4, .inl (fun j => i2 (upZ (upZ (upZ (upZ (fun _ => 0) 0 114) 1 101) 2 102) 3 115 j)))) :: T) H := hP
  have hD : va_D A ((h0, .inr (12, fs_150)) :: (q_149, .inl (D.1 14, 3, .inl (fun j => i2 (upZ (upZ (upZ (fun _ => 0) 0 107) 1 101) 2 121 j)))) :: (q_147, .inl (D.1 14, 4, .inl (fun j => i2 (upZ (upZ (upZ (upZ (fun _ => 0) 0 114) 1 101) 2 102) 3 115 j)))) :: T) := hD
  refine lv_aload_n hx hb dX12_init_1668 rfl (lv_at hl 0 rfl) ?_
  refine lv_sipush (v := 1700) hx hb dX12_init_1669 (by decide) ?_
  refine va_newa (atype := .int) (a0 := (1700, .inl (fun _ => 0))) (ty := .int) (N' := 1700) hx hb (ht _ ac_int) rfl hK hP hD hS hA (fun _ => rfl) (by decide) (by decide) (by decide) (Nat.le_trans (Nat.le_of_ble_eq_true rfl) hRc) (Nat.le_trans (Nat.le_of_ble_eq_true rfl) hRs) dX12_init_1672 (fun q_151 cA H hK2 hP hD hS => ?_)
  obtain rfl := z_cls_int hK hK2
  refine W.widen (k := 75) (n := 29453) (Nat.le_of_ble_eq_true rfl) (Nat.le_of_ble_eq_true rfl) ?_
  obtain ⟨hP, hD⟩ := z_rot hP hD
  have hP : va_P D vwCl ((h0, .inr (12, fs_150)) :: (q_151, .inl (D.1 13, 1700, .inl (fun _ => 0))) :: (q_149, .inl (D.1 14, 3, .inl (fun j => i2 (upZ (upZ (upZ (fun _ => 0) 0 107) 1 101) 2 121 j)))) :: (q_147, .inl (D.1 14, 4, .inl (fun j => i2 (upZ (upZ (upZ (upZ (fun _ => 0) 0 114) 1 101) 2 102) 3 115 j)))) :: T) H := hP
  have hD : va_D A ((h0, .inr (12, fs_150)) :: (q_151, .inl (D.1 13, 1700, .inl (fun _ => 0))) :: (q_149, .inl (D.1 14, 3, .inl (fun j => i2 (upZ (upZ (upZ (fun _ => 0) 0 107) 1 101) 2 121 j)))) :: (q_147, .inl (D.1 14, 4, .inl (fun j => i2 (upZ (upZ (upZ (upZ (fun _ => 0) 0 114) 1 101) 2 102) 3 115 j)))) :: T) := hD
  refine va_putF (D := D) (ci := 12) (v := .ref q_151) (ty := .array .int) (C := RX12) (T := TX12) (N := 116) hx hb ht inX12 tyX12 tyX12_ok nmX12 hown hK hP hD hS 0 rfl rfl 101 (by decide) (ht (.fieldLink RX12 243 "CloneVolumesModel" "qCodes" "[I") fl_X12_243) (fun _ h9 => h9) rfl hin rfl (by decide +kernel) rfl rfl (by rw [hlen]; decide) dX12_init_1674 (fun H locs hP hD hS => ?_)
  have hP : va_P D vwCl ((h0, .inr (12, (fs_150.set 101 (.ref q_151)))) :: (q_151, .inl (D.1 13, 1700, .inl (fun _ => 0))) :: (q_149, .inl (D.1 14, 3, .inl (fun j => i2 (upZ (upZ (upZ (fun _ => 0) 0 107) 1 101) 2 121 j)))) :: (q_147, .inl (D.1 14, 4, .inl (fun j => i2 (upZ (upZ (upZ (upZ (fun _ => 0) 0 114) 1 101) 2 102) 3 115 j)))) :: T) H := hP
  have hD : va_D A ((h0, .inr (12, (fs_150.set 101 (.ref q_151)))) :: (q_151, .inl (D.1 13, 1700, .inl (fun _ => 0))) :: (q_149, .inl (D.1 14, 3, .inl (fun j => i2 (upZ (upZ (upZ (fun _ => 0) 0 107) 1 101) 2 121 j)))) :: (q_147, .inl (D.1 14, 4, .inl (fun j => i2 (upZ (upZ (upZ (upZ (fun _ => 0) 0 114) 1 101) 2 102) 3 115 j)))) :: T) := hD
  generalize hfs_152 : fs_150.set 101 (.ref q_151) = fs_152 at hP hD
  have hlen : fs_152.length = 116 := by rw [← hfs_152, List.length_set]; exact hlen
  have hP : va_P D vwCl ((h0, .inr (12, fs_152)) :: (q_151, .inl (D.1 13, 1700, .inl (fun _ => 0))) :: (q_149, .inl (D.1 14, 3, .inl (fun j => i2 (upZ (upZ (upZ (fun _ => 0) 0 107) 1 101) 2 121 j)))) :: (q_147, .inl (D.1 14, 4, .inl (fun j => i2 (upZ (upZ (upZ (upZ (fun _ => 0) 0 114) 1 101) 2 102) 3 115 j)))) :: T) H := hP
  have hD : va_D A ((h0, .inr (12, fs_152)) :: (q_151, .inl (D.1 13, 1700, .inl (fun _ => 0))) :: (q_149, .inl (D.1 14, 3, .inl (fun j => i2 (upZ (upZ (upZ (fun _ => 0) 0 107) 1 101) 2 121 j)))) :: (q_147, .inl (D.1 14, 4, .inl (fun j => i2 (upZ (upZ (upZ (upZ (fun _ => 0) 0 114) 1 101) 2 102) 3 115 j)))) :: T) := hD
  refine lv_aload_n hx hb dX12_init_1677 rfl (lv_at hl 0 rfl) ?_
  refine lv_sipush (v := 1700) hx hb dX12_init_1678 (by decide) ?_
  refine va_newa (atype := .int) (a0 := (1700, .inl (fun _ => 0))) (ty := .int) (N' := 1700) hx hb (ht _ ac_int) rfl hK hP hD hS hA (fun _ => rfl) (by decide) (by decide) (by decide) (Nat.le_trans (Nat.le_of_ble_eq_true rfl) hRc) (Nat.le_trans (Nat.le_of_ble_eq_true rfl) hRs) dX12_init_1681 (fun q_153 cA H hK2 hP hD hS => ?_)
  obtain rfl := z_cls_int hK hK2
  refine W.widen (k := 76) (n := 31153) (Nat.le_of_ble_eq_true rfl) (Nat.le_of_ble_eq_true rfl) ?_
  obtain ⟨hP, hD⟩ := z_rot hP hD
  have hP : va_P D vwCl ((h0, .inr (12, fs_152)) :: (q_153, .inl (D.1 13, 1700, .inl (fun _ => 0))) :: (q_151, .inl (D.1 13, 1700, .inl (fun _ => 0))) :: (q_149, .inl (D.1 14, 3, .inl (fun j => i2 (upZ (upZ (upZ (fun _ => 0) 0 107) 1 101) 2 121 j)))) :: (q_147, .inl (D.1 14, 4, .inl (fun j => i2 (upZ (upZ (upZ (upZ (fun _ => 0) 0 114) 1 101) 2 102) 3 115 j)))) :: T) H := hP
  have hD : va_D A ((h0, .inr (12, fs_152)) :: (q_153, .inl (D.1 13, 1700, .inl (fun _ => 0))) :: (q_151, .inl (D.1 13, 1700, .inl (fun _ => 0))) :: (q_149, .inl (D.1 14, 3, .inl (fun j => i2 (upZ (upZ (upZ (fun _ => 0) 0 107) 1 101) 2 121 j)))) :: (q_147, .inl (D.1 14, 4, .inl (fun j => i2 (upZ (upZ (upZ (upZ (fun _ => 0) 0 114) 1 101) 2 102) 3 115 j)))) :: T) := hD
  refine va_putF (D := D) (ci := 12) (v := .ref q_153) (ty := .array .int) (C := RX12) (T := TX12) (N := 116) hx hb ht inX12 tyX12 tyX12_ok nmX12 hown hK hP hD hS 0 rfl rfl 103 (by decide) (ht (.fieldLink RX12 246 "CloneVolumesModel" "qWait" "[I") fl_X12_246) (fun _ h9 => h9) rfl hin rfl (by decide +kernel) rfl rfl (by rw [hlen]; decide) dX12_init_1683 (fun H locs hP hD hS => ?_)
  have hP : va_P D vwCl ((h0, .inr (12, (fs_152.set 103 (.ref q_153)))) :: (q_153, .inl (D.1 13, 1700, .inl (fun _ => 0))) :: (q_151, .inl (D.1 13, 1700, .inl (fun _ => 0))) :: (q_149, .inl (D.1 14, 3, .inl (fun j => i2 (upZ (upZ (upZ (fun _ => 0) 0 107) 1 101) 2 121 j)))) :: (q_147, .inl (D.1 14, 4, .inl (fun j => i2 (upZ (upZ (upZ (upZ (fun _ => 0) 0 114) 1 101) 2 102) 3 115 j)))) :: T) H := hP
  have hD : va_D A ((h0, .inr (12, (fs_152.set 103 (.ref q_153)))) :: (q_153, .inl (D.1 13, 1700, .inl (fun _ => 0))) :: (q_151, .inl (D.1 13, 1700, .inl (fun _ => 0))) :: (q_149, .inl (D.1 14, 3, .inl (fun j => i2 (upZ (upZ (upZ (fun _ => 0) 0 107) 1 101) 2 121 j)))) :: (q_147, .inl (D.1 14, 4, .inl (fun j => i2 (upZ (upZ (upZ (upZ (fun _ => 0) 0 114) 1 101) 2 102) 3 115 j)))) :: T) := hD
  generalize hfs_154 : fs_152.set 103 (.ref q_153) = fs_154 at hP hD
  have hlen : fs_154.length = 116 := by rw [← hfs_154, List.length_set]; exact hlen
  have hP : va_P D vwCl ((h0, .inr (12, fs_154)) :: (q_153, .inl (D.1 13, 1700, .inl (fun _ => 0))) :: (q_151, .inl (D.1 13, 1700, .inl (fun _ => 0))) :: (q_149, .inl (D.1 14, 3, .inl (fun j => i2 (upZ (upZ (upZ (fun _ => 0) 0 107) 1 101) 2 121 j)))) :: (q_147, .inl (D.1 14, 4, .inl (fun j => i2 (upZ (upZ (upZ (upZ (fun _ => 0) 0 114) 1 101) 2 102) 3 115 j)))) :: T) H := hP
  have hD : va_D A ((h0, .inr (12, fs_154)) :: (q_153, .inl (D.1 13, 1700, .inl (fun _ => 0))) :: (q_151, .inl (D.1 13, 1700, .inl (fun _ => 0))) :: (q_149, .inl (D.1 14, 3, .inl (fun j => i2 (upZ (upZ (upZ (fun _ => 0) 0 107) 1 101) 2 121 j)))) :: (q_147, .inl (D.1 14, 4, .inl (fun j => i2 (upZ (upZ (upZ (upZ (fun _ => 0) 0 114) 1 101) 2 102) 3 115 j)))) :: T) := hD
  refine lv_aload_n hx hb dX12_init_1686 rfl (lv_at hl 0 rfl) ?_
  refine lv_sipush (v := 1700) hx hb dX12_init_1687 (by decide) ?_
  refine va_newa (atype := .long) (a0 := (1700, .inr (.inl (fun _ => 0)))) (ty := .long) (N' := 1700) hx hb (ht _ ac_long) rfl hK hP hD hS hA (fun _ => rfl) (by decide) (by decide) (by decide) (Nat.le_trans (Nat.le_of_ble_eq_true rfl) hRc) (Nat.le_trans (Nat.le_of_ble_eq_true rfl) hRs) dX12_init_1690 (fun q_155 cA H hK2 hP hD hS => ?_)
  obtain rfl := z_cls_long hK hK2
  refine W.widen (k := 77) (n := 32853) (Nat.le_of_ble_eq_true rfl) (Nat.le_of_ble_eq_true rfl) ?_
  obtain ⟨hP, hD⟩ := z_rot hP hD
  have hP : va_P D vwCl ((h0, .inr (12, fs_154)) :: (q_155, .inl (D.1 15, 1700, .inr (.inl (fun _ => 0)))) :: (q_153, .inl (D.1 13, 1700, .inl (fun _ => 0))) :: (q_151, .inl (D.1 13, 1700, .inl (fun _ => 0))) :: (q_149, .inl (D.1 14, 3, .inl (fun j => i2 (upZ (upZ (upZ (fun _ => 0) 0 107) 1 101) 2 121 j)))) :: (q_147, .inl (D.1 14, 4, .inl (fun j => i2 (upZ (upZ (upZ (upZ (fun _ => 0) 0 114) 1 101) 2 102) 3 115 j)))) :: T) H := hP
  have hD : va_D A ((h0, .inr (12, fs_154)) :: (q_155, .inl (D.1 15, 1700, .inr (.inl (fun _ => 0)))) :: (q_153, .inl (D.1 13, 1700, .inl (fun _ => 0))) :: (q_151, .inl (D.1 13, 1700, .inl (fun _ => 0))) :: (q_149, .inl (D.1 14, 3, .inl (fun j => i2 (upZ (upZ (upZ (fun _ => 0) 0 107) 1 101) 2 121 j)))) :: (q_147, .inl (D.1 14, 4, .inl (fun j => i2 (upZ (upZ (upZ (upZ (fun _ => 0) 0 114) 1 101) 2 102) 3 115 j)))) :: T) := hD
  refine va_putF (D := D) (ci := 12) (v := .ref q_155) (ty := .array .long) (C := RX12) (T := TX12) (N := 116) hx hb ht inX12 tyX12 tyX12_ok nmX12 hown hK hP hD hS 0 rfl rfl 107 (by decide) (ht (.fieldLink RX12 249 "CloneVolumesModel" "qPile" "[J") fl_X12_249) (fun _ h9 => h9) rfl hin rfl (by decide +kernel) rfl rfl (by rw [hlen]; decide) dX12_init_1692 (fun H locs hP hD hS => ?_)
  have hP : va_P D vwCl ((h0, .inr (12, (fs_154.set 107 (.ref q_155)))) :: (q_155, .inl (D.1 15, 1700, .inr (.inl (fun _ => 0)))) :: (q_153, .inl (D.1 13, 1700, .inl (fun _ => 0))) :: (q_151, .inl (D.1 13, 1700, .inl (fun _ => 0))) :: (q_149, .inl (D.1 14, 3, .inl (fun j => i2 (upZ (upZ (upZ (fun _ => 0) 0 107) 1 101) 2 121 j)))) :: (q_147, .inl (D.1 14, 4, .inl (fun j => i2 (upZ (upZ (upZ (upZ (fun _ => 0) 0 114) 1 101) 2 102) 3 115 j)))) :: T) H := hP
  have hD : va_D A ((h0, .inr (12, (fs_154.set 107 (.ref q_155)))) :: (q_155, .inl (D.1 15, 1700, .inr (.inl (fun _ => 0)))) :: (q_153, .inl (D.1 13, 1700, .inl (fun _ => 0))) :: (q_151, .inl (D.1 13, 1700, .inl (fun _ => 0))) :: (q_149, .inl (D.1 14, 3, .inl (fun j => i2 (upZ (upZ (upZ (fun _ => 0) 0 107) 1 101) 2 121 j)))) :: (q_147, .inl (D.1 14, 4, .inl (fun j => i2 (upZ (upZ (upZ (upZ (fun _ => 0) 0 114) 1 101) 2 102) 3 115 j)))) :: T) := hD
  generalize hfs_156 : fs_154.set 107 (.ref q_155) = fs_156 at hP hD
  have hlen : fs_156.length = 116 := by rw [← hfs_156, List.length_set]; exact hlen
  have hP : va_P D vwCl ((h0, .inr (12, fs_156)) :: (q_155, .inl (D.1 15, 1700, .inr (.inl (fun _ => 0)))) :: (q_153, .inl (D.1 13, 1700, .inl (fun _ => 0))) :: (q_151, .inl (D.1 13, 1700, .inl (fun _ => 0))) :: (q_149, .inl (D.1 14, 3, .inl (fun j => i2 (upZ (upZ (upZ (fun _ => 0) 0 107) 1 101) 2 121 j)))) :: (q_147, .inl (D.1 14, 4, .inl (fun j => i2 (upZ (upZ (upZ (upZ (fun _ => 0) 0 114) 1 101) 2 102) 3 115 j)))) :: T) H := hP
  have hD : va_D A ((h0, .inr (12, fs_156)) :: (q_155, .inl (D.1 15, 1700, .inr (.inl (fun _ => 0)))) :: (q_153, .inl (D.1 13, 1700, .inl (fun _ => 0))) :: (q_151, .inl (D.1 13, 1700, .inl (fun _ => 0))) :: (q_149, .inl (D.1 14, 3, .inl (fun j => i2 (upZ (upZ (upZ (fun _ => 0) 0 107) 1 101) 2 121 j)))) :: (q_147, .inl (D.1 14, 4, .inl (fun j => i2 (upZ (upZ (upZ (upZ (fun _ => 0) 0 114) 1 101) 2 102) 3 115 j)))) :: T) := hD
  exact kk q_155 q_153 q_151 q_149 q_147 fs_156 _ _ (by rw [← hfs_156, ← hfs_154, ← hfs_152, ← hfs_150, ← hfs_148]) hP hD hS
set_option maxHeartbeats 4000000 in
set_option maxRecDepth 100000 in
theorem cM_22 {p : Program} {l : Launch} {e : Env} {R : Room} {s : State} {m : MethodId} {args : Array Value} {below : List Frame} {meth : Method} {c : Code} {Q : State → Prop} {D : va_G} {A : Nat → Prop} {ls : Array Slot} {h0 : Nat} {T : va_W} (hx : p.tables.exec = Jvm.exec) (hb : c.code = cX12_init) (ht : ∀ w ∈ lw_gd, w.before args s = true) (hown : s.vm.findClass RX12 = some m.cls) (hin : meth.name = "<init>") (hK : va_K D vwCl (TY D) s) (hA : ∀ q : Nat, s.heap.size ≤ q → A q) (hRc : 80 ≤ R.cells) (hRs : 35050 ≤ R.slots) (hl : lv_has ls 1 [(0, .ref h0)]) {fs : List Value} (hlen : fs.length = 116) {H : Heap} {locs : List Loc} (hP : va_P D vwCl ((h0, .inr (12, fs)) :: T) H) (hD : va_D A ((h0, .inr (12, fs)) :: T)) (hS : va_S A s.heap H locs)
    (kk : ∀ (q_161 : Nat) (q_159 : Nat) (q_157 : Nat) (fs' : List Value) (H : Heap) (locs : List Loc), fs' = (((fs.set 111 (.ref q_157)).set 113 (.ref q_159)).set 115 (.ref q_161)) → va_P D vwCl ((h0, .inr (12, fs')) :: (q_161, .inl (D.1 13, 48, .inl (fun _ => 0))) :: (q_159, .inl (D.1 13, 785, .inl (fun _ => 0))) :: (q_157, .inl (D.1 13, 1364, .inl (fun _ => 0))) :: T) H → va_D A ((h0, .inr (12, fs')) :: (q_161, .inl (D.1 13, 48, .inl (fun _ => 0))) :: (q_159, .inl (D.1 13, 785, .inl (fun _ => 0))) :: (q_157, .inl (D.1 13, 1364, .inl (fun _ => 0))) :: T) → va_S A s.heap H locs → W p l e R s m args below meth c H locs 80 35050 Q (F0 m 1721 ls [])) : W p l e R s m args below meth c H locs 77 32853 Q (F0 m 1695 ls []) := by
  refine lv_aload_n hx hb dX12_init_1695 rfl (lv_at hl 0 rfl) ?_
  refine lv_sipush (v := 1364) hx hb dX12_init_1696 (by decide) ?_
  refine va_newa (atype := .int) (a0 := (1364, .inl (fun _ => 0))) (ty := .int) (N' := 1364) hx hb (ht _ ac_int) rfl hK hP hD hS hA (fun _ => rfl) (by decide) (by decide) (by decide) (Nat.le_trans (Nat.le_of_ble_eq_true rfl) hRc) (Nat.le_trans (Nat.le_of_ble_eq_true rfl) hRs) dX12_init_1699 (fun q_157 cA H hK2 hP hD hS => ?_)
  obtain rfl := z_cls_int hK hK2
  refine W.widen (k := 78) (n := 34217) (Nat.le_of_ble_eq_true rfl) (Nat.le_of_ble_eq_true rfl) ?_
  obtain ⟨hP, hD⟩ := z_rot hP hD
  have hP : va_P D vwCl ((h0, .inr (12, fs)) :: (q_157, .inl (D.1 13, 1364, .inl (fun _ => 0))) :: T) H := hP
  have hD : va_D A ((h0, .inr (12, fs)) :: (q_157, .inl (D.1 13, 1364, .inl (fun _ => 0))) :: T) := hD
  refine va_putF (D := D) (ci := 12) (v := .ref q_157) (ty := .array .int) (C := RX12) (T := TX12) (N := 116) hx hb ht inX12 tyX12 tyX12_ok nmX12 hown hK hP hD hS 0 rfl rfl 111 (by decide) (ht (.fieldLink RX12 252 "CloneVolumesModel" "octet" "[I") fl_X12_252) (fun _ h9 => h9) rfl hin rfl (by decide +kernel) rfl rfl (by rw [hlen]; decide) dX12_init_1701 (fun H locs hP hD hS => ?_)
  have hP : va_P D vwCl ((h0, .inr (12, (fs.set 111 (.ref q_157)))) :: (q_157, .inl (D.1 13, 1364, .inl (fun _ => 0))) :: T) H := hP
  have hD : va_D A ((h0, .inr (12, (fs.set 111 (.ref q_157)))) :: (q_157, .inl (D.1 13, 1364, .inl (fun _ => 0))) :: T) := hD
  generalize hfs_158 : fs.set 111 (.ref q_157) = fs_158 at hP hD
  have hlen : fs_158.length = 116 := by rw [← hfs_158, List.length_set]; exact hlen
  have hP : va_P D vwCl ((h0, .inr (12, fs_158)) :: (q_157, .inl (D.1 13, 1364, .inl (fun _ => 0))) :: T) H := hP
  have hD : va_D A ((h0, .inr (12, fs_158)) :: (q_157, .inl (D.1 13, 1364, .inl (fun _ => 0))) :: T) := hD
  refine lv_aload_n hx hb dX12_init_1704 rfl (lv_at hl 0 rfl) ?_
  refine lv_sipush (v := 785) hx hb dX12_init_1705 (by decide) ?_
  refine va_newa (atype := .int) (a0 := (785, .inl (fun _ => 0))) (ty := .int) (N' := 785) hx hb (ht _ ac_int) rfl hK hP hD hS hA (fun _ => rfl) (by decide) (by decide) (by decide) (Nat.le_trans (Nat.le_of_ble_eq_true rfl) hRc) (Nat.le_trans (Nat.le_of_ble_eq_true rfl) hRs) dX12_init_1708 (fun q_159 cA H hK2 hP hD hS => ?_)
  obtain rfl := z_cls_int hK hK2
  refine W.widen (k := 79) (n := 35002) (Nat.le_of_ble_eq_true rfl) (Nat.le_of_ble_eq_true rfl) ?_
  obtain ⟨hP, hD⟩ := z_rot hP hD
  have hP : va_P D vwCl ((h0, .inr (12, fs_158)) :: (q_159, .inl (D.1 13, 785, .inl (fun _ => 0))) :: (q_157, .inl (D.1 13, 1364, .inl (fun _ => 0))) :: T) H := hP
  have hD : va_D A ((h0, .inr (12, fs_158)) :: (q_159, .inl (D.1 13, 785, .inl (fun _ => 0))) :: (q_157, .inl (D.1 13, 1364, .inl (fun _ => 0))) :: T) := hD
  refine va_putF (D := D) (ci := 12) (v := .ref q_159) (ty := .array .int) (C := RX12) (T := TX12) (N := 116) hx hb ht inX12 tyX12 tyX12_ok nmX12 hown hK hP hD hS 0 rfl rfl 113 (by decide) (ht (.fieldLink RX12 255 "CloneVolumesModel" "laid" "[I") fl_X12_255) (fun _ h9 => h9) rfl hin rfl (by decide +kernel) rfl rfl (by rw [hlen]; decide) dX12_init_1710 (fun H locs hP hD hS => ?_)
  have hP : va_P D vwCl ((h0, .inr (12, (fs_158.set 113 (.ref q_159)))) :: (q_159, .inl (D.1 13, 785, .inl (fun _ => 0))) :: (q_157, .inl (D.1 13, 1364, .inl (fun _ => 0))) :: T) H := hP
  have hD : va_D A ((h0, .inr (12, (fs_158.set 113 (.ref q_159)))) :: (q_159, .inl (D.1 13, 785, .inl (fun _ => 0))) :: (q_157, .inl (D.1 13, 1364, .inl (fun _ => 0))) :: T) := hD
  generalize hfs_160 : fs_158.set 113 (.ref q_159) = fs_160 at hP hD
  have hlen : fs_160.length = 116 := by rw [← hfs_160, List.length_set]; exact hlen
  have hP : va_P D vwCl ((h0, .inr (12, fs_160)) :: (q_159, .inl (D.1 13, 785, .inl (fun _ => 0))) :: (q_157, .inl (D.1 13, 1364, .inl (fun _ => 0))) :: T) H := hP
  have hD : va_D A ((h0, .inr (12, fs_160)) :: (q_159, .inl (D.1 13, 785, .inl (fun _ => 0))) :: (q_157, .inl (D.1 13, 1364, .inl (fun _ => 0))) :: T) := hD
  refine lv_aload_n hx hb dX12_init_1713 rfl (lv_at hl 0 rfl) ?_
  refine lv_bipush (v := 48) hx hb dX12_init_1714 (by decide) ?_
  refine va_newa (atype := .int) (a0 := (48, .inl (fun _ => 0))) (ty := .int) (N' := 48) hx hb (ht _ ac_int) rfl hK hP hD hS hA (fun _ => rfl) (by decide) (by decide) (by decide) (Nat.le_trans (Nat.le_of_ble_eq_true rfl) hRc) (Nat.le_trans (Nat.le_of_ble_eq_true rfl) hRs) dX12_init_1716 (fun q_161 cA H hK2 hP hD hS => ?_)
  obtain rfl := z_cls_int hK hK2
  refine W.widen (k := 80) (n := 35050) (Nat.le_of_ble_eq_true rfl) (Nat.le_of_ble_eq_true rfl) ?_
  obtain ⟨hP, hD⟩ := z_rot hP hD
  have hP : va_P D vwCl ((h0, .inr (12, fs_160)) :: (q_161, .inl (D.1 13, 48, .inl (fun _ => 0))) :: (q_159, .inl (D.1 13, 785, .inl (fun _ => 0))) :: (q_157, .inl (D.1 13, 1364, .inl (fun _ => 0))) :: T) H := hP
  have hD : va_D A ((h0, .inr (12, fs_160)) :: (q_161, .inl (D.1 13, 48, .inl (fun _ => 0))) :: (q_159, .inl (D.1 13, 785, .inl (fun _ => 0))) :: (q_157, .inl (D.1 13, 1364, .inl (fun _ => 0))) :: T) := hD
  refine va_putF (D := D) (ci := 12) (v := .ref q_161) (ty := .array .int) (C := RX12) (T := TX12) (N := 116) hx hb ht inX12 tyX12 tyX12_ok nmX12 hown hK hP hD hS 0 rfl rfl 115 (by decide) (ht (.fieldLink RX12 258 "CloneVolumesModel" "recount" "[I") fl_X12_258) (fun _ h9 => h9) rfl hin rfl (by decide +kernel) rfl rfl (by rw [hlen]; decide) dX12_init_1718 (fun H locs hP hD hS => ?_)
  have hP : va_P D vwCl ((h0, .inr (12, (fs_160.set 115 (.ref q_161)))) :: (q_161, .inl (D.1 13, 48, .inl (fun _ => 0))) :: (q_159, .inl (D.1 13, 785, .inl (fun _ => 0))) :: (q_157, .inl (D.1 13, 1364, .inl (fun _ => 0))) :: T) H := hP
  have hD : va_D A ((h0, .inr (12, (fs_160.set 115 (.ref q_161)))) :: (q_161, .inl (D.1 13, 48, .inl (fun _ => 0))) :: (q_159, .inl (D.1 13, 785, .inl (fun _ => 0))) :: (q_157, .inl (D.1 13, 1364, .inl (fun _ => 0))) :: T) := hD
  generalize hfs_162 : fs_160.set 115 (.ref q_161) = fs_162 at hP hD
  have hlen : fs_162.length = 116 := by rw [← hfs_162, List.length_set]; exact hlen
  have hP : va_P D vwCl ((h0, .inr (12, fs_162)) :: (q_161, .inl (D.1 13, 48, .inl (fun _ => 0))) :: (q_159, .inl (D.1 13, 785, .inl (fun _ => 0))) :: (q_157, .inl (D.1 13, 1364, .inl (fun _ => 0))) :: T) H := hP
  have hD : va_D A ((h0, .inr (12, fs_162)) :: (q_161, .inl (D.1 13, 48, .inl (fun _ => 0))) :: (q_159, .inl (D.1 13, 785, .inl (fun _ => 0))) :: (q_157, .inl (D.1 13, 1364, .inl (fun _ => 0))) :: T) := hD
  exact kk q_161 q_159 q_157 fs_162 _ _ (by rw [← hfs_162, ← hfs_160, ← hfs_158]) hP hD hS
