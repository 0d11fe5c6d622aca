theorem fl_X12_198 : Cond.fieldLink RX12 198 "CloneVolumesModel" "andAsked" "[C" ∈ lw_gd := zm (List.mem_of_getElem? (i := 1624) (by decide +kernel)) rfl
theorem fl_X12_201 : Cond.fieldLink RX12 201 "CloneVolumesModel" "orAsked" "[C" ∈ lw_gd := zm (List.mem_of_getElem? (i := 1625) (by decide +kernel)) rfl
theorem fl_X12_204 : Cond.fieldLink RX12 204 "CloneVolumesModel" "allAsked" "[C" ∈ lw_gd := zm (List.mem_of_getElem? (i := 1626) (by decide +kernel)) rfl
theorem fl_X12_207 : Cond.fieldLink RX12 207 "CloneVolumesModel" "minAsked" "[C" ∈ lw_gd := zm (List.mem_of_getElem? (i := 1627) (by decide +kernel)) rfl
theorem fl_X12_210 : Cond.fieldLink RX12 210 "CloneVolumesModel" "maxAsked" "[C" ∈ lw_gd := zm (List.mem_of_getElem? (i := 1628) (by decide +kernel)) rfl
theorem fl_X12_213 : Cond.fieldLink RX12 213 "CloneVolumesModel" "levelAsked" "[C" ∈ lw_gd := zm (List.mem_of_getElem? (i := 1629) (by decide +kernel)) rfl
theorem fl_X12_216 : Cond.fieldLink RX12 216 "CloneVolumesModel" "blockAsked" "[C" ∈ lw_gd := zm (List.mem_of_getElem? (i := 1630) (by decide +kernel)) rfl
theorem fl_X12_219 : Cond.fieldLink RX12 219 "CloneVolumesModel" "fromAsked" "[C" ∈ lw_gd := zm (List.mem_of_getElem? (i := 1631) (by decide +kernel)) rfl
theorem fl_X12_222 : Cond.fieldLink RX12 222 "CloneVolumesModel" "entriesAsked" "[C" ∈ lw_gd := zm (List.mem_of_getElem? (i := 1632) (by decide +kernel)) rfl
theorem dX12_init_1245 : decode cX12_init 1245 = .ok (.aload_n 0, 1) := by decide +kernel
theorem dX12_init_1246 : decode cX12_init 1246 = .ok (.iconst 3, 1) := by decide +kernel
theorem dX12_init_1247 : decode cX12_init 1247 = .ok (.newarray .char, 2) := by decide +kernel
theorem dX12_init_1249 : decode cX12_init 1249 = .ok (.dup, 1) := by decide +kernel
theorem dX12_init_1250 : decode cX12_init 1250 = .ok (.iconst 0, 1) := by decide +kernel
theorem dX12_init_1251 : decode cX12_init 1251 = .ok (.bipush 97, 2) := by decide +kernel
theorem dX12_init_1253 : decode cX12_init 1253 = .ok (.castore, 1) := by decide +kernel
theorem dX12_init_1254 : decode cX12_init 1254 = .ok (.dup, 1) := by decide +kernel
theorem dX12_init_1255 : decode cX12_init 1255 = .ok (.iconst 1, 1) := by decide +kernel
theorem dX12_init_1256 : decode cX12_init 1256 = .ok (.bipush 110, 2) := by decide +kernel
theorem dX12_init_1258 : decode cX12_init 1258 = .ok (.castore, 1) := by decide +kernel
theorem dX12_init_1259 : decode cX12_init 1259 = .ok (.dup, 1) := by decide +kernel
theorem dX12_init_1260 : decode cX12_init 1260 = .ok (.iconst 2, 1) := by decide +kernel
theorem dX12_init_1261 : decode cX12_init 1261 = .ok (.bipush 100, 2) := by decide +kernel
theorem dX12_init_1263 : decode cX12_init 1263 = .ok (.castore, 1) := by decide +kernel
theorem dX12_init_1264 : decode cX12_init 1264 = .ok (.putfield 198, 3) := by decide +kernel
theorem dX12_init_1267 : decode cX12_init 1267 = .ok (.aload_n 0, 1) := by decide +kernel
theorem dX12_init_1268 : decode cX12_init 1268 = .ok (.iconst 2, 1) := by decide +kernel
theorem dX12_init_1269 : decode cX12_init 1269 = .ok (.newarray .char, 2) := by decide +kernel
theorem dX12_init_1271 : decode cX12_init 1271 = .ok (.dup, 1) := by decide +kernel
theorem dX12_init_1272 : decode cX12_init 1272 = .ok (.iconst 0, 1) := by decide +kernel
theorem dX12_init_1273 : decode cX12_init 1273 = .ok (.bipush 111, 2) := by decide +kernel
theorem dX12_init_1275 : decode cX12_init 1275 = .ok (.castore, 1) := by decide +kernel
theorem dX12_init_1276 : decode cX12_init 1276 = .ok (.dup, 1) := by decide +kernel
theorem dX12_init_1277 : decode cX12_init 1277 = .ok (.iconst 1, 1) := by decide +kernel
theorem dX12_init_1278 : decode cX12_init 1278 = .ok (.bipush 114, 2) := by decide +kernel
theorem dX12_init_1280 : decode cX12_init 1280 = .ok (.castore, 1) := by decide +kernel
theorem dX12_init_1281 : decode cX12_init 1281 = .ok (.putfield 201, 3) := by decide +kernel
theorem dX12_init_1284 : decode cX12_init 1284 = .ok (.aload_n 0, 1) := by decide +kernel
theorem dX12_init_1285 : decode cX12_init 1285 = .ok (.iconst 3, 1) := by decide +kernel
theorem dX12_init_1286 : decode cX12_init 1286 = .ok (.newarray .char, 2) := by decide +kernel
theorem dX12_init_1288 : decode cX12_init 1288 = .ok (.dup, 1) := by decide +kernel
theorem dX12_init_1289 : decode cX12_init 1289 = .ok (.iconst 0, 1) := by decide +kernel
theorem dX12_init_1290 : decode cX12_init 1290 = .ok (.bipush 97, 2) := by decide +kernel
theorem dX12_init_1292 : decode cX12_init 1292 = .ok (.castore, 1) := by decide +kernel
theorem dX12_init_1293 : decode cX12_init 1293 = .ok (.dup, 1) := by decide +kernel
theorem dX12_init_1294 : decode cX12_init 1294 = .ok (.iconst 1, 1) := by decide +kernel
theorem dX12_init_1295 : decode cX12_init 1295 = .ok (.bipush 108, 2) := by decide +kernel
theorem dX12_init_1297 : decode cX12_init 1297 = .ok (.castore, 1) := by decide +kernel
theorem dX12_init_1298 : decode cX12_init 1298 = .ok (.dup, 1) := by decide +kernel
theorem dX12_init_1299 : decode cX12_init 1299 = .ok (.iconst 2, 1) := by decide +kernel
theorem dX12_init_1300 : decode cX12_init 1300 = .ok (.bipush 108, 2) := by decide +kernel
theorem dX12_init_1302 : decode cX12_init 1302 = .ok (.castore, 1) := by decide +kernel
theorem dX12_init_1303 : decode cX12_init 1303 = .ok (.putfield 204, 3) := by decide +kernel
theorem dX12_init_1306 : decode cX12_init 1306 = .ok (.aload_n 0, 1) := by decide +kernel
theorem dX12_init_1307 : decode cX12_init 1307 = .ok (.iconst 3, 1) := by decide +kernel
theorem dX12_init_1308 : decode cX12_init 1308 = .ok (.newarray .char, 2) := by decide +kernel
theorem dX12_init_1310 : decode cX12_init 1310 = .ok (.dup, 1) := by decide +kernel
theorem dX12_init_1311 : decode cX12_init 1311 = .ok (.iconst 0, 1) := by decide +kernel
theorem dX12_init_1312 : decode cX12_init 1312 = .ok (.bipush 109, 2) := by decide +kernel
theorem dX12_init_1314 : decode cX12_init 1314 = .ok (.castore, 1) := by decide +kernel
theorem dX12_init_1315 : decode cX12_init 1315 = .ok (.dup, 1) := by decide +kernel
theorem dX12_init_1316 : decode cX12_init 1316 = .ok (.iconst 1, 1) := by decide +kernel
theorem dX12_init_1317 : decode cX12_init 1317 = .ok (.bipush 105, 2) := by decide +kernel
theorem dX12_init_1319 : decode cX12_init 1319 = .ok (.castore, 1) := by decide +kernel
theorem dX12_init_1320 : decode cX12_init 1320 = .ok (.dup, 1) := by decide +kernel
theorem dX12_init_1321 : decode cX12_init 1321 = .ok (.iconst 2, 1) := by decide +kernel
theorem dX12_init_1322 : decode cX12_init 1322 = .ok (.bipush 110, 2) := by decide +kernel
theorem dX12_init_1324 : decode cX12_init 1324 = .ok (.castore, 1) := by decide +kernel
theorem dX12_init_1325 : decode cX12_init 1325 = .ok (.putfield 207, 3) := by decide +kernel
theorem dX12_init_1328 : decode cX12_init 1328 = .ok (.aload_n 0, 1) := by decide +kernel
theorem dX12_init_1329 : decode cX12_init 1329 = .ok (.iconst 3, 1) := by decide +kernel
theorem dX12_init_1330 : decode cX12_init 1330 = .ok (.newarray .char, 2) := by decide +kernel
theorem dX12_init_1332 : decode cX12_init 1332 = .ok (.dup, 1) := by decide +kernel
theorem dX12_init_1333 : decode cX12_init 1333 = .ok (.iconst 0, 1) := by decide +kernel
theorem dX12_init_1334 : decode cX12_init 1334 = .ok (.bipush 109, 2) := by decide +kernel
theorem dX12_init_1336 : decode cX12_init 1336 = .ok (.castore, 1) := by decide +kernel
theorem dX12_init_1337 : decode cX12_init 1337 = .ok (.dup, 1) := by decide +kernel
theorem dX12_init_1338 : decode cX12_init 1338 = .ok (.iconst 1, 1) := by decide +kernel
theorem dX12_init_1339 : decode cX12_init 1339 = .ok (.bipush 97, 2) := by decide +kernel
theorem dX12_init_1341 : decode cX12_init 1341 = .ok (.castore, 1) := by decide +kernel
theorem dX12_init_1342 : decode cX12_init 1342 = .ok (.dup, 1) := by decide +kernel
theorem dX12_init_1343 : decode cX12_init 1343 = .ok (.iconst 2, 1) := by decide +kernel
theorem dX12_init_1344 : decode cX12_init 1344 = .ok (.bipush 120, 2) := by decide +kernel
theorem dX12_init_1346 : decode cX12_init 1346 = .ok (.castore, 1) := by decide +kernel
theorem dX12_init_1347 : decode cX12_init 1347 = .ok (.putfield 210, 3) := by decide +kernel
theorem dX12_init_1350 : decode cX12_init 1350 = .ok (.aload_n 0, 1) := by decide +kernel
theorem dX12_init_1351 : decode cX12_init 1351 = .ok (.iconst 5, 1) := by decide +kernel
theorem dX12_init_1352 : decode cX12_init 1352 = .ok (.newarray .char, 2) := by decide +kernel
theorem dX12_init_1354 : decode cX12_init 1354 = .ok (.dup, 1) := by decide +kernel
theorem dX12_init_1355 : decode cX12_init 1355 = .ok (.iconst 0, 1) := by decide +kernel
theorem dX12_init_1356 : decode cX12_init 1356 = .ok (.bipush 108, 2) := by decide +kernel
theorem dX12_init_1358 : decode cX12_init 1358 = .ok (.castore, 1) := by decide +kernel
theorem dX12_init_1359 : decode cX12_init 1359 = .ok (.dup, 1) := by decide +kernel
theorem dX12_init_1360 : decode cX12_init 1360 = .ok (.iconst 1, 1) := by decide +kernel
theorem dX12_init_1361 : decode cX12_init 1361 = .ok (.bipush 101, 2) := by decide +kernel
theorem dX12_init_1363 : decode cX12_init 1363 = .ok (.castore, 1) := by decide +kernel
theorem dX12_init_1364 : decode cX12_init 1364 = .ok (.dup, 1) := by decide +kernel
theorem dX12_init_1365 : decode cX12_init 1365 = .ok (.iconst 2, 1) := by decide +kernel
theorem dX12_init_1366 : decode cX12_init 1366 = .ok (.bipush 118, 2) := by decide +kernel
theorem dX12_init_1368 : decode cX12_init 1368 = .ok (.castore, 1) := by decide +kernel
theorem dX12_init_1369 : decode cX12_init 1369 = .ok (.dup, 1) := by decide +kernel
theorem dX12_init_1370 : decode cX12_init 1370 = .ok (.iconst 3, 1) := by decide +kernel
theorem dX12_init_1371 : decode cX12_init 1371 = .ok (.bipush 101, 2) := by decide +kernel
theorem dX12_init_1373 : decode cX12_init 1373 = .ok (.castore, 1) := by decide +kernel
theorem dX12_init_1374 : decode cX12_init 1374 = .ok (.dup, 1) := by decide +kernel
theorem dX12_init_1375 : decode cX12_init 1375 = .ok (.iconst 4, 1) := by decide +kernel
theorem dX12_init_1376 : decode cX12_init 1376 = .ok (.bipush 108, 2) := by decide +kernel
theorem dX12_init_1378 : decode cX12_init 1378 = .ok (.castore, 1) := by decide +kernel
theorem dX12_init_1379 : decode cX12_init 1379 = .ok (.putfield 213, 3) := by decide +kernel
theorem dX12_init_1382 : decode cX12_init 1382 = .ok (.aload_n 0, 1) := by decide +kernel
theorem dX12_init_1383 : decode cX12_init 1383 = .ok (.iconst 5, 1) := by decide +kernel
theorem dX12_init_1384 : decode cX12_init 1384 = .ok (.newarray .char, 2) := by decide +kernel
theorem dX12_init_1386 : decode cX12_init 1386 = .ok (.dup, 1) := by decide +kernel
theorem dX12_init_1387 : decode cX12_init 1387 = .ok (.iconst 0, 1) := by decide +kernel
theorem dX12_init_1388 : decode cX12_init 1388 = .ok (.bipush 98, 2) := by decide +kernel
theorem dX12_init_1390 : decode cX12_init 1390 = .ok (.castore, 1) := by decide +kernel
theorem dX12_init_1391 : decode cX12_init 1391 = .ok (.dup, 1) := by decide +kernel
theorem dX12_init_1392 : decode cX12_init 1392 = .ok (.iconst 1, 1) := by decide +kernel
theorem dX12_init_1393 : decode cX12_init 1393 = .ok (.bipush 108, 2) := by decide +kernel
theorem dX12_init_1395 : decode cX12_init 1395 = .ok (.castore, 1) := by decide +kernel
theorem dX12_init_1396 : decode cX12_init 1396 = .ok (.dup, 1) := by decide +kernel
theorem dX12_init_1397 : decode cX12_init 1397 = .ok (.iconst 2, 1) := by decide +kernel
theorem dX12_init_1398 : decode cX12_init 1398 = .ok (.bipush 111, 2) := by decide +kernel
theorem dX12_init_1400 : decode cX12_init 1400 = .ok (.castore, 1) := by decide +kernel
theorem dX12_init_1401 : decode cX12_init 1401 = .ok (.dup, 1) := by decide +kernel
theorem dX12_init_1402 : decode cX12_init 1402 = .ok (.iconst 3, 1) := by decide +kernel
theorem dX12_init_1403 : decode cX12_init 1403 = .ok (.bipush 99, 2) := by decide +kernel
theorem dX12_init_1405 : decode cX12_init 1405 = .ok (.castore, 1) := by decide +kernel
theorem dX12_init_1406 : decode cX12_init 1406 = .ok (.dup, 1) := by decide +kernel
theorem dX12_init_1407 : decode cX12_init 1407 = .ok (.iconst 4, 1) := by decide +kernel
theorem dX12_init_1408 : decode cX12_init 1408 = .ok (.bipush 107, 2) := by decide +kernel
theorem dX12_init_1410 : decode cX12_init 1410 = .ok (.castore, 1) := by decide +kernel
theorem dX12_init_1411 : decode cX12_init 1411 = .ok (.putfield 216, 3) := by decide +kernel
theorem dX12_init_1414 : decode cX12_init 1414 = .ok (.aload_n 0, 1) := by decide +kernel
theorem dX12_init_1415 : decode cX12_init 1415 = .ok (.iconst 4, 1) := by decide +kernel
theorem dX12_init_1416 : decode cX12_init 1416 = .ok (.newarray .char, 2) := by decide +kernel
theorem dX12_init_1418 : decode cX12_init 1418 = .ok (.dup, 1) := by decide +kernel
theorem dX12_init_1419 : decode cX12_init 1419 = .ok (.iconst 0, 1) := by decide +kernel
theorem dX12_init_1420 : decode cX12_init 1420 = .ok (.bipush 102, 2) := by decide +kernel
theorem dX12_init_1422 : decode cX12_init 1422 = .ok (.castore, 1) := by decide +kernel
theorem dX12_init_1423 : decode cX12_init 1423 = .ok (.dup, 1) := by decide +kernel
theorem dX12_init_1424 : decode cX12_init 1424 = .ok (.iconst 1, 1) := by decide +kernel
theorem dX12_init_1425 : decode cX12_init 1425 = .ok (.bipush 114, 2) := by decide +kernel
theorem dX12_init_1427 : decode cX12_init 1427 = .ok (.castore, 1) := by decide +kernel
theorem dX12_init_1428 : decode cX12_init 1428 = .ok (.dup, 1) := by decide +kernel
theorem dX12_init_1429 : decode cX12_init 1429 = .ok (.iconst 2, 1) := by decide +kernel
theorem dX12_init_1430 : decode cX12_init 1430 = .ok (.bipush 111, 2) := by decide +kernel
theorem dX12_init_1432 : decode cX12_init 1432 = .ok (.castore, 1) := by decide +kernel
theorem dX12_init_1433 : decode cX12_init 1433 = .ok (.dup, 1) := by decide +kernel
theorem dX12_init_1434 : decode cX12_init 1434 = .ok (.iconst 3, 1) := by decide +kernel
theorem dX12_init_1435 : decode cX12_init 1435 = .ok (.bipush 109, 2) := by decide +kernel
theorem dX12_init_1437 : decode cX12_init 1437 = .ok (.castore, 1) := by decide +kernel
theorem dX12_init_1438 : decode cX12_init 1438 = .ok (.putfield 219, 3) := by decide +kernel
theorem dX12_init_1441 : decode cX12_init 1441 = .ok (.aload_n 0, 1) := by decide +kernel
theorem dX12_init_1442 : decode cX12_init 1442 = .ok (.bipush 7, 2) := by decide +kernel
theorem dX12_init_1444 : decode cX12_init 1444 = .ok (.newarray .char, 2) := by decide +kernel
theorem dX12_init_1446 : decode cX12_init 1446 = .ok (.dup, 1) := by decide +kernel
theorem dX12_init_1447 : decode cX12_init 1447 = .ok (.iconst 0, 1) := by decide +kernel
theorem dX12_init_1448 : decode cX12_init 1448 = .ok (.bipush 101, 2) := by decide +kernel
theorem dX12_init_1450 : decode cX12_init 1450 = .ok (.castore, 1) := by decide +kernel
theorem dX12_init_1451 : decode cX12_init 1451 = .ok (.dup, 1) := by decide +kernel
theorem dX12_init_1452 : decode cX12_init 1452 = .ok (.iconst 1, 1) := by decide +kernel
theorem dX12_init_1453 : decode cX12_init 1453 = .ok (.bipush 110, 2) := by decide +kernel
theorem dX12_init_1455 : decode cX12_init 1455 = .ok (.castore, 1) := by decide +kernel
theorem dX12_init_1456 : decode cX12_init 1456 = .ok (.dup, 1) := by decide +kernel
theorem dX12_init_1457 : decode cX12_init 1457 = .ok (.iconst 2, 1) := by decide +kernel
theorem dX12_init_1458 : decode cX12_init 1458 = .ok (.bipush 116, 2) := by decide +kernel
theorem dX12_init_1460 : decode cX12_init 1460 = .ok (.castore, 1) := by decide +kernel
theorem dX12_init_1461 : decode cX12_init 1461 = .ok (.dup, 1) := by decide +kernel
theorem dX12_init_1462 : decode cX12_init 1462 = .ok (.iconst 3, 1) := by decide +kernel
theorem dX12_init_1463 : decode cX12_init 1463 = .ok (.bipush 114, 2) := by decide +kernel
theorem dX12_init_1465 : decode cX12_init 1465 = .ok (.castore, 1) := by decide +kernel
theorem dX12_init_1466 : decode cX12_init 1466 = .ok (.dup, 1) := by decide +kernel
theorem dX12_init_1467 : decode cX12_init 1467 = .ok (.iconst 4, 1) := by decide +kernel
theorem dX12_init_1468 : decode cX12_init 1468 = .ok (.bipush 105, 2) := by decide +kernel
theorem dX12_init_1470 : decode cX12_init 1470 = .ok (.castore, 1) := by decide +kernel
theorem dX12_init_1471 : decode cX12_init 1471 = .ok (.dup, 1) := by decide +kernel
theorem dX12_init_1472 : decode cX12_init 1472 = .ok (.iconst 5, 1) := by decide +kernel
theorem dX12_init_1473 : decode cX12_init 1473 = .ok (.bipush 101, 2) := by decide +kernel
theorem dX12_init_1475 : decode cX12_init 1475 = .ok (.castore, 1) := by decide +kernel
theorem dX12_init_1476 : decode cX12_init 1476 = .ok (.dup, 1) := by decide +kernel
theorem dX12_init_1477 : decode cX12_init 1477 = .ok (.bipush 6, 2) := by decide +kernel
theorem dX12_init_1479 : decode cX12_init 1479 = .ok (.bipush 115, 2) := by decide +kernel
theorem dX12_init_1481 : decode cX12_init 1481 = .ok (.castore, 1) := by decide +kernel
theorem dX12_init_1482 : decode cX12_init 1482 = .ok (.putfield 222, 3) := by decide +kernel
set_option maxHeartbeats 4000000 in
set_option maxRecDepth 100000 in
theorem cM_16 {p : Program} {l : Launch} {e : Env} {R : Room} {s : State} {m : MethodId} {args : Array Value} {below : List Frame} {meth : Method} {c : Code} {Q : State → Prop} {D : va_G} {A : Nat → Prop} {ls : Array Slot} {h0 : Nat} {T : va_W} (hx : p.tables.exec = Jvm.exec) (hb : c.code = cX12_init) (ht : ∀ w ∈ lw_gd, w.before args s = true) (hown : s.vm.findClass RX12 = some m.cls) (hin : meth.name = "<init>") (hK : va_K D vwCl (TY D) s) (hA : ∀ q : Nat, s.heap.size ≤ q → A q) (hRc : 80 ≤ R.cells) (hRs : 35050 ≤ R.slots) (hl : lv_has ls 1 [(0, .ref h0)]) {fs : List Value} (hlen : fs.length = 116) {H : Heap} {locs : List Loc} (hP : va_P D vwCl ((h0, .inr (12, fs)) :: T) H) (hD : va_D A ((h0, .inr (12, fs)) :: T)) (hS : va_S A s.heap H locs)
    (kk : ∀ (q_127 : Nat) (q_125 : Nat) (q_123 : Nat) (q_121 : Nat) (fs' : List Value) (H : Heap) (locs : List Loc), fs' = ((((fs.set 86 (.ref q_121)).set 87 (.ref q_123)).set 88 (.ref q_125)).set 89 (.ref q_127)) → va_P D vwCl ((h0, .inr (12, fs')) :: (q_127, .inl (D.1 14, 3, .inl (fun j => i2 (upZ (upZ (upZ (fun _ => 0) 0 109) 1 105) 2 110 j)))) :: (q_125, .inl (D.1 14, 3, .inl (fun j => i2 (upZ (upZ (upZ (fun _ => 0) 0 97) 1 108) 2 108 j)))) :: (q_123, .inl (D.1 14, 2, .inl (fun j => i2 (upZ (upZ (fun _ => 0) 0 111) 1 114 j)))) :: (q_121, .inl (D.1 14, 3, .inl (fun j => i2 (upZ (upZ (upZ (fun _ => 0) 0 97) 1 110) 2 100 j)))) :: T) H → va_D A ((h0, .inr (12, fs')) :: (q_127, .inl (D.1 14, 3, .inl (fun j => i2 (upZ (upZ (upZ (fun _ => 0) 0 109) 1 105) 2 110 j)))) :: (q_125, .inl (D.1 14, 3, .inl (fun j => i2 (upZ (upZ (upZ (fun _ => 0) 0 97) 1 108) 2 108 j)))) :: (q_123, .inl (D.1 14, 2, .inl (fun j => i2 (upZ (upZ (fun _ => 0) 0 111) 1 114 j)))) :: (q_121, .inl (D.1 14, 3, .inl (fun j => i2 (upZ (upZ (upZ (fun _ => 0) 0 97) 1 110) 2 100 j)))) :: T) → va_S A s.heap H locs → W p l e R s m args below meth c H locs 63 27701 Q (F0 m 1328 ls [])) : W p l e R s m args below meth c H locs 59 27690 Q (F0 m 1245 ls []) := by
  refine lv_aload_n hx hb dX12_init_1245 rfl (lv_at hl 0 rfl) ?_
  refine lv_iconst (v := 3) hx hb dX12_init_1246 (by decide) ?_
  refine va_newa (atype := .char) (a0 := (3, .inl (fun _ => 0))) (ty := .char) (N' := 3) hx hb (ht _ ac_char) rfl hK hP hD hS hA (fun _ => rfl) (by decide) (by decide) (by decide) (Nat.le_trans (Nat.le_of_ble_eq_true rfl) hRc) (Nat.le_trans (Nat.le_of_ble_eq_true rfl) hRs) dX12_init_1247 (fun q_121 cA H hK2 hP hD hS => ?_)
  obtain rfl := z_cls_char hK hK2
  refine W.widen (k := 60) (n := 27693) (Nat.le_of_ble_eq_true rfl) (Nat.le_of_ble_eq_true rfl) ?_
  obtain ⟨hP, hD⟩ := z_rot hP hD
  have hP : va_P D vwCl ((h0, .inr (12, fs)) :: (q_121, .inl (D.1 14, 3, .inl (fun _ => i2 0))) :: T) H := hP
  have hD : va_D A ((h0, .inr (12, fs)) :: (q_121, .inl (D.1 14, 3, .inl (fun _ => i2 0))) :: T) := hD
  refine lv_dup hx hb dX12_init_1249 rfl ?_
  refine lv_iconst (v := 0) hx hb dX12_init_1250 (by decide) ?_
  refine lv_bipush (v := 97) hx hb dX12_init_1251 (by decide) ?_
  refine va_cast hx hb hK hP hD hS 1 1 rfl rfl (z_in (by decide) (by decide)) dX12_init_1253 (fun H locs hP hD hS => ?_)
  rw [c_i2 (F := fun _ => 0) (k := Int32.toNatClampNeg 0) (c := vp_nar .char 97) (v := 97) (by decide)] at hP hD
  have hP : va_P D vwCl ((h0, .inr (12, fs)) :: (q_121, .inl (D.1 14, 3, .inl (fun j => i2 (upZ (fun _ => 0) 0 97 j)))) :: T) H := hP
  have hD : va_D A ((h0, .inr (12, fs)) :: (q_121, .inl (D.1 14, 3, .inl (fun j => i2 (upZ (fun _ => 0) 0 97 j)))) :: T) := hD
  refine lv_dup hx hb dX12_init_1254 rfl ?_
  refine lv_iconst (v := 1) hx hb dX12_init_1255 (by decide) ?_
  refine lv_bipush (v := 110) hx hb dX12_init_1256 (by decide) ?_
  refine va_cast hx hb hK hP hD hS 1 1 rfl rfl (z_in (by decide) (by decide)) dX12_init_1258 (fun H locs hP hD hS => ?_)
  rw [c_i2 (F := upZ (fun _ => 0) 0 97) (k := Int32.toNatClampNeg 1) (c := vp_nar .char 110) (v := 110) (by decide)] at hP hD
  have hP : va_P D vwCl ((h0, .inr (12, fs)) :: (q_121, .inl (D.1 14, 3, .inl (fun j => i2 (upZ (upZ (fun _ => 0) 0 97) 1 110 j)))) :: T) H := hP
  have hD : va_D A ((h0, .inr (12, fs)) :: (q_121, .inl (D.1 14, 3, .inl (fun j => i2 (upZ (upZ (fun _ => 0) 0 97) 1 110 j)))) :: T) := hD
  refine lv_dup hx hb dX12_init_1259 rfl ?_
  refine lv_iconst (v := 2) hx hb dX12_init_1260 (by decide) ?_
  refine lv_bipush (v := 100) hx hb dX12_init_1261 (by decide) ?_
  refine va_cast hx hb hK hP hD hS 1 1 rfl rfl (z_in (by decide) (by decide)) dX12_init_1263 (fun H locs hP hD hS => ?_)
  rw [c_i2 (F := upZ (upZ (fun _ => 0) 0 97) 1 110) (k := Int32.toNatClampNeg 2) (c := vp_nar .char 100) (v := 100) (by decide)] at hP hD
  have hP : va_P D vwCl ((h0, .inr (12, fs)) :: (q_121, .inl (D.1 14, 3, .inl (fun j => i2 (upZ (upZ (upZ (fun _ => 0) 0 97) 1 110) 2 100 j)))) :: T) H := hP
  have hD : va_D A ((h0, .inr (12, fs)) :: (q_121, .inl (D.1 14, 3, .inl (fun j => i2 (upZ (upZ (upZ (fun _ => 0) 0 97) 1 110) 2 100 j)))) :: T) := hD
  refine va_putF (D := D) (ci := 12) (v := .ref q_121) (ty := .array .char) (C := RX12) (T := TX12) (N := 116) hx hb ht inX12 tyX12 tyX12_ok nmX12 hown hK hP hD hS 0 rfl rfl 86 (by decide) (ht (.fieldLink RX12 198 "CloneVolumesModel" "andAsked" "[C") fl_X12_198) (fun _ h9 => h9) rfl hin rfl (by decide +kernel) rfl rfl (by rw [hlen]; decide) dX12_init_1264 (fun H locs hP hD hS => ?_)
  have hP : va_P D vwCl ((h0, .inr (12, (fs.set 86 (.ref q_121)))) :: (q_121, .inl (D.1 14, 3, .inl (fun j => i2 (upZ (upZ (upZ (fun _ => 0) 0 97) 1 110) 2 100 j)))) :: T) H := hP
  have hD : va_D A ((h0, .inr (12, (fs.set 86 (.ref q_121)))) :: (q_121, .inl (D.1 14, 3, .inl (fun j => i2 (upZ (upZ (upZ (fun _ => 0) 0 97) 1 110) 2 100 j)))) :: T) := hD
  generalize hfs_122 : fs.set 86 (.ref q_121) = fs_122 at hP hD
  have hlen : fs_122.length = 116 := by rw [← hfs_122, List.length_set]; exact hlen
  have hP : va_P D vwCl ((h0, .inr (12, fs_122)) :: (q_121, .inl (D.1 14, 3, .inl (fun j => i2 (upZ (upZ (upZ (fun _ => 0) 0 97) 1 110) 2 100 j)))) :: T) H := hP
  have hD : va_D A ((h0, .inr (12, fs_122)) :: (q_121, .inl (D.1 14, 3, .inl (fun j => i2 (upZ (upZ (upZ (fun _ => 0) 0 97) 1 110) 2 100 j)))) :: T) := hD
  refine lv_aload_n hx hb dX12_init_1267 rfl (lv_at hl 0 rfl) ?_
  refine lv_iconst (v := 2) hx hb dX12_init_1268 (by decide) ?_
  refine va_newa (atype := .char) (a0 := (2, .inl (fun _ => 0))) (ty := .char) (N' := 2) hx hb (ht _ ac_char) rfl hK hP hD hS hA (fun _ => rfl) (by decide) (by decide) (by decide) (Nat.le_trans (Nat.le_of_ble_eq_true rfl) hRc) (Nat.le_trans (Nat.le_of_ble_eq_true rfl) hRs) dX12_init_1269 (fun q_123 cA H hK2 hP hD hS => ?_)
  obtain rfl := z_cls_char hK hK2
  refine W.widen (k := 61) (n := 27695) (Nat.le_of_ble_eq_true rfl) (Nat.le_of_ble_eq_true rfl) ?_
  obtain ⟨hP, hD⟩ := z_rot hP hD
  have hP : va_P D vwCl ((h0, .inr (12, fs_122)) :: (q_123, .inl (D.1 14, 2, .inl (fun _ => i2 0))) :: (q_121, .inl (D.1 14, 3, .inl (fun j => i2 (upZ (upZ (upZ (fun _ => 0) 0 97) 1 110) 2 100 j)))) :: T) H := hP
  have hD : va_D A ((h0, .inr (12, fs_122)) :: (q_123, .inl (D.1 14, 2, .inl (fun _ => i2 0))) :: (q_121, .inl (D.1 14, 3, .inl (fun j => i2 (upZ (upZ (upZ (fun _ => 0) 0 97) 1 110) 2 100 j)))) :: T) := hD
  refine lv_dup hx hb dX12_init_1271 rfl ?_
  refine lv_iconst (v := 0) hx hb dX12_init_1272 (by decide) ?_
  refine lv_bipush (v := 111) hx hb dX12_init_1273 (by decide) ?_
  refine va_cast hx hb hK hP hD hS 1 1 rfl rfl (z_in (by decide) (by decide)) dX12_init_1275 (fun H locs hP hD hS => ?_)
  rw [c_i2 (F := fun _ => 0) (k := Int32.toNatClampNeg 0) (c := vp_nar .char 111) (v := 111) (by decide)] at hP hD
  have hP : va_P D vwCl ((h0, .inr (12, fs_122)) :: (q_123, .inl (D.1 14, 2, .inl (fun j => i2 (upZ (fun _ => 0) 0 111 j)))) :: (q_121, .inl (D.1 14, 3, .inl (fun j => i2 (upZ (upZ (upZ (fun _ => 0) 0 97) 1 110) 2 100 j)))) :: T) H := hP
  have hD : va_D A ((h0, .inr (12, fs_122)) :: (q_123, .inl (D.1 14, 2, .inl (fun j => i2 (upZ (fun _ => 0) 0 111 j)))) :: (q_121, .inl (D.1 14, 3, .inl (fun j => i2 (upZ (upZ (upZ (fun _ => 0) 0 97) 1 110) 2 100 j)))) :: T) := hD
  refine lv_dup hx hb dX12_init_1276 rfl ?_
  refine lv_iconst (v := 1) hx hb dX12_init_1277 (by decide) ?_
  refine lv_bipush (v := 114) hx hb dX12_init_1278 (by decide) ?_
  refine va_cast hx hb hK hP hD hS 1 1 rfl rfl (z_in (by decide) (by decide)) dX12_init_1280 (fun H locs hP hD hS => ?_)
  rw [c_i2 (F := upZ (fun _ => 0) 0 111) (k := Int32.toNatClampNeg 1) (c := vp_nar .char 114) (v := 114) (by decide)] at hP hD
  have hP : va_P D vwCl ((h0, .inr (12, fs_122)) :: (q_123, .inl (D.1 14, 2, .inl (fun j => i2 (upZ (upZ (fun _ => 0) 0 111) 1 114 j)))) :: (q_121, .inl (D.1 14, 3, .inl (fun j => i2 (upZ (upZ (upZ (fun _ => 0) 0 97) 1 110) 2 100 j)))) :: T) H := hP
  have hD : va_D A ((h0, .inr (12, fs_122)) :: (q_123, .inl (D.1 14, 2, .inl (fun j => i2 (upZ (upZ (fun _ => 0) 0 111) 1 114 j)))) :: (q_121, .inl (D.1 14, 3, .inl (fun j => i2 (upZ (upZ (upZ (fun _ => 0) 0 97) 1 110) 2 100 j)))) :: T) := hD
  refine va_putF (D := D) (ci := 12) (v := .ref q_123) (ty := .array .char) (C := RX12) (T := TX12) (N := 116) hx hb ht inX12 tyX12 tyX12_ok nmX12 hown hK hP hD hS 0 rfl rfl 87 (by decide) (ht (.fieldLink RX12 201 "CloneVolumesModel" "orAsked" "[C") fl_X12_201) (fun _ h9 => h9) rfl hin rfl (by decide +kernel) rfl rfl (by rw [hlen]; decide) dX12_init_1281 (fun H locs hP hD hS => ?_)
  have hP : va_P D vwCl ((h0, .inr (12, (fs_122.set 87 (.ref q_123)))) :: (q_123, .inl (D.1 14, 2, .inl (fun j => i2 (upZ (upZ (fun _ => 0) 0 111) 1 114 j)))) :: (q_121, .inl (D.1 14, 3, .inl (fun j => i2 (upZ (upZ (upZ (fun _ => 0) 0 97) 1 110) 2 100 j)))) :: T) H := hP
  have hD : va_D A ((h0, .inr (12, (fs_122.set 87 (.ref q_123)))) :: (q_123, .inl (D.1 14, 2, .inl (fun j => i2 (upZ (upZ (fun _ => 0) 0 111) 1 114 j)))) :: (q_121, .inl (D.1 14, 3, .inl (fun j => i2 (upZ (upZ (upZ (fun _ => 0) 0 97) 1 110) 2 100 j)))) :: T) := hD
  generalize hfs_124 : fs_122.set 87 (.ref q_123) = fs_124 at hP hD
  have hlen : fs_124.length = 116 := by rw [← hfs_124, List.length_set]; exact hlen
  have hP : va_P D vwCl ((h0, .inr (12, fs_124)) :: (q_123, .inl (D.1 14, 2, .inl (fun j => i2 (upZ (upZ (fun _ => 0) 0 111) 1 114 j)))) :: (q_121, .inl (D.1 14, 3, .inl (fun j => i2 (upZ (upZ (upZ (fun _ => 0) 0 97) 1 110) 2 100 j)))) :: T) H := hP
  have hD : va_D A ((h0, .inr (12, fs_124)) :: (q_123, .inl (D.1 14, 2, .inl (fun j => i2 (upZ (upZ (fun _ => 0) 0 111) 1 114 j)))) :: (q_121, .inl (D.1 14, 3, .inl (fun j => i2 (upZ (upZ (upZ (fun _ => 0) 0 97) 1 110) 2 100 j)))) :: T) := hD
  refine lv_aload_n hx hb dX12_init_1284 rfl (lv_at hl 0 rfl) ?_
  refine lv_iconst (v := 3) hx hb dX12_init_1285 (by decide) ?_
  refine va_newa (atype := .char) (a0 := (3, .inl (fun _ => 0))) (ty := .char) (N' := 3) hx hb (ht _ ac_char) rfl hK hP hD hS hA (fun _ => rfl) (by decide) (by decide) (by decide) (Nat.le_trans (Nat.le_of_ble_eq_true rfl) hRc) (Nat.le_trans (Nat.le_of_ble_eq_true rfl) hRs) dX12_init_1286 (fun q_125 cA H hK2 hP hD hS => ?_)
  obtain rfl := z_cls_char hK hK2
  refine W.widen (k := 62) (n := 27698) (Nat.le_of_ble_eq_true rfl) (Nat.le_of_ble_eq_true rfl) ?_
  obtain ⟨hP, hD⟩ := z_rot hP hD
  have hP : va_P D vwCl ((h0, .inr (12, fs_124)) :: (q_125, .inl (D.1 14, 3, .inl (fun _ => i2 0))) :: (q_123, .inl (D.1 14, 2, .inl (fun j => i2 (upZ (upZ (fun _ => 0) 0 111) 1 114 j)))) :: (q_121, .inl (D.1 14, 3, .inl (fun j => i2 (upZ (upZ (upZ (fun _ => 0) 0 97) 1 110) 2 100 j)))) :: T) H := hP
  have hD : va_D A ((h0, .inr (12, fs_124)) :: (q_125, .inl (D.1 14, 3, .inl (fun _ => i2 0))) :: (q_123, .inl (D.1 14, 2, .inl (fun j => i2 (upZ (upZ (fun _ => 0) 0 111) 1 114 j)))) :: (q_121, .inl (D.1 14, 3, .inl (fun j => i2 (upZ (upZ (upZ (fun _ => 0) 0 97) 1 110) 2 100 j)))) :: T) := hD
  refine lv_dup hx hb dX12_init_1288 rfl ?_
  refine lv_iconst (v := 0) hx hb dX12_init_1289 (by decide) ?_
  refine lv_bipush (v := 97) hx hb dX12_init_1290 (by decide) ?_
  refine va_cast hx hb hK hP hD hS 1 1 rfl rfl (z_in (by decide) (by decide)) dX12_init_1292 (fun H locs hP hD hS => ?_)
  rw [c_i2 (F := fun _ => 0) (k := Int32.toNatClampNeg 0) (c := vp_nar .char 97) (v := 97) (by decide)] at hP hD
  have hP : va_P D vwCl ((h0, .inr (12, fs_124)) :: (q_125, .inl (D.1 14, 3, .inl (fun j => i2 (upZ (fun _ => 0) 0 97 j)))) :: (q_123, .inl (D.1 14, 2, .inl (fun j => i2 (upZ (upZ (fun _ => 0) 0 111) 1 114 j)))) :: (q_121, .inl (D.1 14, 3, .inl (fun j => i2 (upZ (upZ (upZ (fun _ => 0) 0 97) 1 110) 2 100 j)))) :: T) H := hP
  have hD : va_D A ((h0, .inr (12, fs_124)) :: (q_125, .inl (D.1 14, 3, .inl (fun j => i2 (upZ (fun _ => 0) 0 97 j)))) :: (q_123, .inl (D.1 14, 2, .inl (fun j => i2 (upZ (upZ (fun _ => 0) 0 111) 1 114 j)))) :: (q_121, .inl (D.1 14, 3, .inl (fun j => i2 (upZ (upZ (upZ (fun _ => 0) 0 97) 1 110) 2 100 j)))) :: T) := hD
  refine lv_dup hx hb dX12_init_1293 rfl ?_
  refine lv_iconst (v := 1) hx hb dX12_init_1294 (by decide) ?_
  refine lv_bipush (v := 108) hx hb dX12_init_1295 (by decide) ?_
  refine va_cast hx hb hK hP hD hS 1 1 rfl rfl (z_in (by decide) (by decide)) dX12_init_1297 (fun H locs hP hD hS => ?_)
  rw [c_i2 (F := upZ (fun _ => 0) 0 97) (k := Int32.toNatClampNeg 1) (c := vp_nar .char 108) (v := 108) (by decide)] at hP hD
  have hP : va_P D vwCl ((h0, .inr (12, fs_124)) :: (q_125, .inl (D.1 14, 3, .inl (fun j => i2 (upZ (upZ (fun _ => 0) 0 97) 1 108 j)))) :: (q_123, .inl (D.1 14, 2, .inl (fun j => i2 (upZ (upZ (fun _ => 0) 0 111) 1 114 j)))) :: (q_121, .inl (D.1 14, 3, .inl (fun j => i2 (upZ (upZ (upZ (fun _ => 0) 0 97) 1 110) 2 100 j)))) :: T) H := hP
  have hD : va_D A ((h0, .inr (12, fs_124)) :: (q_125, .inl (D.1 14, 3, .inl (fun j => i2 (upZ (upZ (fun _ => 0) 0 97) 1 108 j)))) :: (q_123, .inl (D.1 14, 2, .inl (fun j => i2 (upZ (upZ (fun _ => 0) 0 111) 1 114 j)))) :: (q_121, .inl (D.1 14, 3, .inl (fun j => i2 (upZ (upZ (upZ (fun _ => 0) 0 97) 1 110) 2 100 j)))) :: T) := hD
  refine lv_dup hx hb dX12_init_1298 rfl ?_
  refine lv_iconst (v := 2) hx hb dX12_init_1299 (by decide) ?_
  refine lv_bipush (v := 108) hx hb dX12_init_1300 (by decide) ?_
  refine va_cast hx hb hK hP hD hS 1 1 rfl rfl (z_in (by decide) (by decide)) dX12_init_1302 (fun H locs hP hD hS => ?_)
  rw [c_i2 (F := upZ (upZ (fun _ => 0) 0 97) 1 108) (k := Int32.toNatClampNeg 2) (c := vp_nar .char 108) (v := 108) (by decide)] at hP hD
  have hP : va_P D vwCl ((h0, .inr (12, fs_124)) :: (q_125, .inl (D.1 14, 3, .inl (fun j => i2 (upZ (upZ (upZ (fun _ => 0) 0 97) 1 108) 2 108 j)))) :: (q_123, .inl (D.1 14, 2, .inl (fun j => i2 (upZ (upZ (fun _ => 0) 0 111) 1 114 j)))) :: (q_121, .inl (D.1 14, 3, .inl (fun j => i2 (upZ (upZ (upZ (fun _ => 0) 0 97) 1 110) 2 100 j)))) :: T) H := hP
  have hD : va_D A ((h0, .inr (12, fs_124)) :: (q_125, .inl (D.1 14, 3, .inl (fun j => i2 (upZ (upZ (upZ (fun _ => 0) 0 97) 1 108) 2 108 j)))) :: (q_123, .inl (D.1 14, 2, .inl (fun j => i2 (upZ (upZ (fun _ => 0) 0 111) 1 114 j)))) :: (q_121, .inl (D.1 14, 3, .inl (fun j => i2 (upZ (upZ (upZ (fun _ => 0) 0 97) 1 110) 2 100 j)))) :: T) := hD
  refine va_putF (D := D) (ci := 12) (v := .ref q_125) (ty := .array .char) (C := RX12) (T := TX12) (N := 116) hx hb ht inX12 tyX12 tyX12_ok nmX12 hown hK hP hD hS 0 rfl rfl 88 (by decide) (ht (.fieldLink RX12 204 "CloneVolumesModel" "allAsked" "[C") fl_X12_204) (fun _ h9 => h9) rfl hin rfl (by decide +kernel) rfl rfl (by rw [hlen]; decide) dX12_init_1303 (fun H locs hP hD hS => ?_)
  have hP : va_P D vwCl ((h0, .inr (12, (fs_124.set 88 (.ref q_125)))) :: (q_125, .inl (D.1 14, 3, .inl (fun j => i2 (upZ (upZ (upZ (fun _ => 0) 0 97) 1 108) 2 108 j)))) :: (q_123, .inl (D.1 14, 2, .inl (fun j => i2 (upZ (upZ (fun _ => 0) 0 111) 1 114 j)))) :: (q_121, .inl (D.1 14, 3, .inl (fun j => i2 (upZ (upZ (upZ (fun _ => 0) 0 97) 1 110) 2 100 j)))) :: T) H := hP
  have hD : va_D A ((h0, .inr (12, (fs_124.set 88 (.ref q_125)))) :: (q_125, .inl (D.1 14, 3, .inl (fun j => i2 (upZ (upZ (upZ (fun _ => 0) 0 97) 1 108) 2 108 j)))) :: (q_123, .inl (D.1 14, 2, .inl (fun j => i2 (upZ (upZ (fun _ => 0) 0 111) 1 114 j)))) :: (q_121, .inl (D.1 14, 3, .inl (fun j => i2 (upZ (upZ (upZ (fun _ => 0) 0 97) 1 110) 2 100 j)))) :: T) := hD
  generalize hfs_126 : fs_124.set 88 (.ref q_125) = fs_126 at hP hD
  have hlen : fs_126.length = 116 := by rw [← hfs_126, List.length_set]; exact hlen
  have hP : va_P D vwCl ((h0, .inr (12, fs_126)) :: (q_125, .inl (D.1 14, 3, .inl (fun j => i2 (upZ (upZ (upZ (fun _ => 0) 0 97) 1 108) 2 108 j)))) :: (q_123, .inl (D.1 14, 2, .inl (fun j => i2 (upZ (upZ (fun _ => 0) 0 111) 1 114 j)))) :: (q_121, .inl (D.1 14, 3, .inl (fun j => i2 (upZ (upZ (upZ (fun _ => 0) 0 97) 1 110) 2 100 j)))) :: T) H := hP
  have hD : va_D A ((h0, .inr (12, fs_126)) :: (q_125, .inl (D.1 14, 3, .inl (fun j => i2 (upZ (upZ (upZ (fun _ => 0) 0 97) 1 108) 2 108 j)))) :: (q_123, .inl (D.1 14, 2, .inl (fun j => i2 (upZ (upZ (fun _ => 0) 0 111) 1 114 j)))) :: (q_121, .inl (D.1 14, 3, .inl (fun j => i2 (upZ (upZ (upZ (fun _ => 0) 0 97) 1 110) 2 100 j)))) :: T) := hD
  refine lv_aload_n hx hb dX12_init_1306 rfl (lv_at hl 0 rfl) ?_
  refine lv_iconst (v := 3) hx hb dX12_init_1307 (by decide) ?_
  refine va_newa (atype := .char) (a0 := (3, .inl (fun _ => 0))) (ty := .char) (N' := 3) hx hb (ht _ ac_char) rfl hK hP hD hS hA (fun _ => rfl) (by decide) (by decide) (by decide) (Nat.le_trans (Nat.le_of_ble_eq_true rfl) hRc) (Nat.le_trans (Nat.le_of_ble_eq_true rfl) hRs) dX12_init_1308 (fun q_127 cA H hK2 hP hD hS => ?_)
  obtain rfl := z_cls_char hK hK2
  refine W.widen (k := 63) (n := 27701) (Nat.le_of_ble_eq_true rfl) (Nat.le_of_ble_eq_true rfl) ?_
  obtain ⟨hP, hD⟩ := z_rot hP hD
  have hP : va_P D vwCl ((h0, .inr (12, fs_126)) :: (q_127, .inl (D.1 14, 3, .inl (fun _ => i2 0))) :: (q_125, .inl (D.1 14, 3, .inl (fun j => i2 (upZ (upZ (upZ (fun _ => 0) 0 97) 1 108) 2 108 j)))) :: (q_123, .inl (D.1 14, 2, .inl (fun j => i2 (upZ (upZ (fun _ => 0) 0 111) 1 114 j)))) :: (q_121, .inl (D.1 14, 3, .inl (fun j => i2 (upZ (upZ (upZ (fun _ => 0) 0 97) 1 110) 2 100 j)))) :: T) H := hP
  have hD : va_D A ((h0, .inr (12, fs_126)) :: (q_127, .inl (D.1 14, 3, .inl (fun _ => i2 0))) :: (q_125, .inl (D.1 14, 3, .inl (fun j => i2 (upZ (upZ (upZ (fun _ => 0) 0 97) 1 108) 2 108 j)))) :: (q_123, .inl (D.1 14, 2, .inl (fun j => i2 (upZ (upZ (fun _ => 0) 0 111) 1 114 j)))) :: (q_121, .inl (D.1 14, 3, .inl (fun j => i2 (upZ (upZ (upZ (fun _ => 0) 0 97) 1 110) 2 100 j)))) :: T) := hD
  refine lv_dup hx hb dX12_init_1310 rfl ?_
  refine lv_iconst (v := 0) hx hb dX12_init_1311 (by decide) ?_
  refine lv_bipush (v := 109) hx hb dX12_init_1312 (by decide) ?_
  refine va_cast hx hb hK hP hD hS 1 1 rfl rfl (z_in (by decide) (by decide)) dX12_init_1314 (fun H locs hP hD hS => ?_)
  rw [c_i2 (F := fun _ => 0) (k := Int32.toNatClampNeg 0) (c := vp_nar .char 109) (v := 109) (by decide)] at hP hD
  have hP : va_P D vwCl ((h0, .inr (12, fs_126)) :: (q_127, .inl (D.1 14, 3, .inl (fun j => i2 (upZ (fun _ => 0) 0 109 j)))) :: (q_125, .inl (D.1 14, 3, .inl (fun j => i2 (upZ (upZ (upZ (fun _ => 0) 0 97) 1 108) 2 108 j)))) :: (q_123, .inl (D.1 14, 2, .inl (fun j => i2 (upZ (upZ (fun _ => 0) 0 111) 1 114 j)))) :: (q_121, .inl (D.1 14, 3, .inl (fun j => i2 (upZ (upZ (upZ (fun _ => 0) 0 97) 1 110) 2 100 j)))) :: T) H := hP
  have hD : va_D A ((h0, .inr (12, fs_126)) :: (q_127, .inl (D.1 14, 3, .inl (fun j => i2 (upZ (fun _ => 0) 0 109 j)))) :: (q_125, .inl (D.1 14, 3, .inl (fun j => i2 (upZ (upZ (upZ (fun _ => 0) 0 97) 1 108) 2 108 j)))) :: (q_123, .inl (D.1 14, 2, .inl (fun j => i2 (upZ (upZ (fun _ => 0) 0 111) 1 114 j)))) :: (q_121, .inl (D.1 14, 3, .inl (fun j => i2 (upZ (upZ (upZ (fun _ => 0) 0 97) 1 110) 2 100 j)))) :: T) := hD
  refine lv_dup hx hb dX12_init_1315 rfl ?_
  refine lv_iconst (v := 1) hx hb dX12_init_1316 (by decide) ?_
  refine lv_bipush (v := 105) hx hb dX12_init_1317 (by decide) ?_
  refine va_cast hx hb hK hP hD hS 1 1 rfl rfl (z_in (by decide) (by decide)) dX12_init_1319 (fun H locs hP hD hS => ?_)
  rw [c_i2 (F := upZ (fun _ => 0) 0 109) (k := Int32.toNatClampNeg 1) (c := vp_nar .char 105) (v := 105) (by decide)] at hP hD
  have hP : va_P D vwCl ((h0, .inr (12, fs_126)) :: (q_127, .inl (D.1 14, 3, .inl (fun j => i2 (upZ (upZ (fun _ => 0) 0 109) 1 105 j)))) :: (q_125, .inl (D.1 14, 3, .inl (fun j => i2 (upZ (upZ (upZ (fun _ => 0) 0 97) 1 108) 2 108 j)))) :: (q_123, .inl (D.1 14, 2, .inl (fun j => i2 (upZ (upZ (fun _ => 0) 0 111) 1 114 j)))) :: (q_121, .inl (D.1 14, 3, .inl (fun j => i2 (upZ (upZ (upZ (fun _ => 0) 0 97) 1 110) 2 100 j)))) :: T) H := hP
  have hD : va_D A ((h0, .inr (12, fs_126)) :: (q_127, .inl (D.1 14, 3, .inl (fun j => i2 (upZ (upZ (fun _ => 0) 0 109) 1 105 j)))) :: (q_125, .inl (D.1 14, 3, .inl (fun j => i2 (upZ (upZ (upZ (fun _ => 0) 0 97) 1 108) 2 108 j)))) :: (q_123, .inl (D.1 14, 2, .inl (fun j => i2 (upZ (upZ (fun _ => 0) 0 111) 1 114 j)))) :: (q_121, .inl (D.1 14, 3, .inl (fun j => i2 (upZ (upZ (upZ (fun _ => 0) 0 97) 1 110) 2 100 j)))) :: T) := hD
  refine lv_dup hx hb dX12_init_1320 rfl ?_
  refine lv_iconst (v := 2) hx hb dX12_init_1321 (by decide) ?_
  refine lv_bipush (v := 110) hx hb dX12_init_1322 (by decide) ?_
  refine va_cast hx hb hK hP hD hS 1 1 rfl rfl (z_in (by decide) (by decide)) dX12_init_1324 (fun H locs hP hD hS => ?_)
  rw [c_i2 (F := upZ (upZ (fun _ => 0) 0 109) 1 105) (k := Int32.toNatClampNeg 2) (c := vp_nar .char 110) (v := 110) (by decide)] at hP hD
  have hP : va_P D vwCl ((h0, .inr (12, fs_126)) :: (q_127, .inl (D.1 14, 3, .inl (fun j => i2 (upZ (upZ (upZ (fun _ => 0) 0 109) 1 105) 2 110 j)))) :: (q_125, .inl (D.1 14, 3, .inl (fun j => i2 (upZ (upZ (upZ (fun _ => 0) 0 97) 1 108) 2 108 j)))) :: (q_123, .inl (D.1 14, 2, .inl (fun j => i2 (upZ (upZ (fun _ => 0) 0 111) 1 114 j)))) :: (q_121, .inl (D.1 14, 3, .inl (fun j => i2 (upZ (upZ (upZ (fun _ => 0) 0 97) 1 110) 2 100 j)))) :: T) H := hP
  have hD : va_D A ((h0, .inr (12, fs_126)) :: (q_127, .inl (D.1 14, 3, .inl (fun j => i2 (upZ (upZ (upZ (fun _ => 0) 0 109) 1 105) 2 110 j)))) :: (q_125, .inl (D.1 14, 3, .inl (fun j => i2 (upZ (upZ (upZ (fun _ => 0) 0 97) 1 108) 2 108 j)))) :: (q_123, .inl (D.1 14, 2, .inl (fun j => i2 (upZ (upZ (fun _ => 0) 0 111) 1 114 j)))) :: (q_121, .inl (D.1 14, 3, .inl (fun j => i2 (upZ (upZ (upZ (fun _ => 0) 0 97) 1 110) 2 100 j)))) :: T) := hD
  refine va_putF (D := D) (ci := 12) (v := .ref q_127) (ty := .array .char) (C := RX12) (T := TX12) (N := 116) hx hb ht inX12 tyX12 tyX12_ok nmX12 hown hK hP hD hS 0 rfl rfl 89 (by decide) (ht (.fieldLink RX12 207 "CloneVolumesModel" "minAsked" "[C") fl_X12_207) (fun _ h9 => h9) rfl hin rfl (by decide +kernel) rfl rfl (by rw [hlen]; decide) dX12_init_1325 (fun H locs hP hD hS => ?_)
  have hP : va_P D vwCl ((h0, .inr (12, (fs_126.set 89 (.ref q_127)))) :: (q_127, .inl (D.1 14, 3, .inl (fun j => i2 (upZ (upZ (upZ (fun _ => 0) 0 109) 1 105) 2 110 j)))) :: (q_125, .inl (D.1 14, 3, .inl (fun j => i2 (upZ (upZ (upZ (fun _ => 0) 0 97) 1 108) 2 108 j)))) :: (q_123, .inl (D.1 14, 2, .inl (fun j => i2 (upZ (upZ (fun _ => 0) 0 111) 1 114 j)))) :: (q_121, .inl (D.1 14, 3, .inl (fun j => i2 (upZ (upZ (upZ (fun _ => 0) 0 97) 1 110) 2 100 j)))) :: T) H := hP
  have hD : va_D A ((h0, .inr (12, (fs_126.set 89 (.ref q_127)))) :: (q_127, .inl (D.1 14, 3, .inl (fun j => i2 (upZ (upZ (upZ (fun _ => 0) 0 109) 1 105) 2 110 j)))) :: (q_125, .inl (D.1 14, 3, .inl (fun j => i2 (upZ (upZ (upZ (fun _ => 0) 0 97) 1 108) 2 108 j)))) :: (q_123, .inl (D.1 14, 2, .inl (fun j => i2 (upZ (upZ (fun _ => 0) 0 111) 1 114 j)))) :: (q_121, .inl (D.1 14, 3, .inl (fun j => i2 (upZ (upZ (upZ (fun _ => 0) 0 97) 1 110) 2 100 j)))) :: T) := hD
  generalize hfs_128 : fs_126.set 89 (.ref q_127) = fs_128 at hP hD
  have hlen : fs_128.length = 116 := by rw [← hfs_128, List.length_set]; exact hlen
  have hP : va_P D vwCl ((h0, .inr (12, fs_128)) :: (q_127, .inl (D.1 14, 3, .inl (fun j => i2 (upZ (upZ (upZ (fun _ => 0) 0 109) 1 105) 2 110 j)))) :: (q_125, .inl (D.1 14, 3, .inl (fun j => i2 (upZ (upZ (upZ (fun _ => 0) 0 97) 1 108) 2 108 j)))) :: (q_123, .inl (D.1 14, 2, .inl (fun j => i2 (upZ (upZ (fun _ => 0) 0 111) 1 114 j)))) :: (q_121, .inl (D.1 14, 3, .inl (fun j => i2 (upZ (upZ (upZ (fun _ => 0) 0 97) 1 110) 2 100 j)))) :: T) H := hP
  have hD : va_D A ((h0, .inr (12, fs_128)) :: (q_127, .inl (D.1 14, 3, .inl (fun j => i2 (upZ (upZ (upZ (fun _ => 0) 0 109) 1 105) 2 110 j)))) :: (q_125, .inl (D.1 14, 3, .inl (fun j => i2 (upZ (upZ (upZ (fun _ => 0) 0 97) 1 108) 2 108 j)))) :: (q_123, .inl (D.1 14, 2, .inl (fun j => i2 (upZ (upZ (fun _ => 0) 0 111) 1 114 j)))) :: (q_121, .inl (D.1 14, 3, .inl (fun j => i2 (upZ (upZ (upZ (fun _ => 0) 0 97) 1 110) 2 100 j)))) :: T) := hD
  exact kk q_127 q_125 q_123 q_121 fs_128 _ _ (by rw [← hfs_128, ← hfs_126, ← hfs_124, ← hfs_122]) hP hD hS
set_option maxHeartbeats 4000000 in
set_option maxRecDepth 100000 in
theorem cM_17 {p : Program} {l : Launch} {e : Env} {R : Room} {s : State} {m : MethodId} {args : Array Value} {below : List Frame} {meth : Method} {c : Code} {Q : State → Prop} {D : va_G} {A : Nat → Prop} {ls : Array Slot} {h0 : Nat} {T : va_W} (hx : p.tables.exec = Jvm.exec) (hb : c.code = cX12_init) (ht : ∀ w ∈ lw_gd, w.before args s = true) (hown : s.vm.findClass RX12 = some m.cls) (hin : meth.name = "<init>") (hK : va_K D vwCl (TY D) s) (hA : ∀ q : Nat, s.heap.size ≤ q → A q) (hRc : 80 ≤ R.cells) (hRs : 35050 ≤ R.slots) (hl : lv_has ls 1 [(0, .ref h0)]) {fs : List Value} (hlen : fs.length = 116) {H : Heap} {locs : List Loc} (hP : va_P D vwCl ((h0, .inr (12, fs)) :: T) H) (hD : va_D A ((h0, .inr (12, fs)) :: T)) (hS : va_S A s.heap H locs)
    (kk : ∀ (q_133 : Nat) (q_131 : Nat) (q_129 : Nat) (fs' : List Value) (H : Heap) (locs : List Loc), fs' = (((fs.set 90 (.ref q_129)).set 91 (.ref q_131)).set 92 (.ref q_133)) → va_P D vwCl ((h0, .inr (12, fs')) :: (q_133, .inl (D.1 14, 5, .inl (fun j => i2 (upZ (upZ (upZ (upZ (upZ (fun _ => 0) 0 98) 1 108) 2 111) 3 99) 4 107 j)))) :: (q_131, .inl (D.1 14, 5, .inl (fun j => i2 (upZ (upZ (upZ (upZ (upZ (fun _ => 0) 0 108) 1 101) 2 118) 3 101) 4 108 j)))) :: (q_129, .inl (D.1 14, 3, .inl (fun j => i2 (upZ (upZ (upZ (fun _ => 0) 0 109) 1 97) 2 120 j)))) :: T) H → va_D A ((h0, .inr (12, fs')) :: (q_133, .inl (D.1 14, 5, .inl (fun j => i2 (upZ (upZ (upZ (upZ (upZ (fun _ => 0) 0 98) 1 108) 2 111) 3 99) 4 107 j)))) :: (q_131, .inl (D.1 14, 5, .inl (fun j => i2 (upZ (upZ (upZ (upZ (upZ (fun _ => 0) 0 108) 1 101) 2 118) 3 101) 4 108 j)))) :: (q_129, .inl (D.1 14, 3, .inl (fun j => i2 (upZ (upZ (upZ (fun _ => 0) 0 109) 1 97) 2 120 j)))) :: T) → va_S A s.heap H locs → W p l e R s m args below meth c H locs 66 27714 Q (F0 m 1414 ls [])) : W p l e R s m args below meth c H locs 63 27701 Q (F0 m 1328 ls []) := by
  refine lv_aload_n hx hb dX12_init_1328 rfl (lv_at hl 0 rfl) ?_
  refine lv_iconst (v := 3) hx hb dX12_init_1329 (by decide) ?_
  refine va_newa (atype := .char) (a0 := (3, .inl (fun _ => 0))) (ty := .char) (N' := 3) hx hb (ht _ ac_char) rfl hK hP hD hS hA (fun _ => rfl) (by decide) (by decide) (by decide) (Nat.le_trans (Nat.le_of_ble_eq_true rfl) hRc) (Nat.le_trans (Nat.le_of_ble_eq_true rfl) hRs) dX12_init_1330 (fun q_129 cA H hK2 hP hD hS => ?_)
  obtain rfl := z_cls_char hK hK2
  refine W.widen (k := 64) (n := 27704) (Nat.le_of_ble_eq_true rfl) (Nat.le_of_ble_eq_true rfl) ?_
  obtain ⟨hP, hD⟩ := z_rot hP hD
  have hP : va_P D vwCl ((h0, .inr (12, fs)) :: (q_129, .inl (D.1 14, 3, .inl (fun _ => i2 0))) :: T) H := hP
  have hD : va_D A ((h0, .inr (12, fs)) :: (q_129, .inl (D.1 14, 3, .inl (fun _ => i2 0))) :: T) := hD
  refine lv_dup hx hb dX12_init_1332 rfl ?_
  refine lv_iconst (v := 0) hx hb dX12_init_1333 (by decide) ?_
  refine lv_bipush (v := 109) hx hb dX12_init_1334 (by decide) ?_
  refine va_cast hx hb hK hP hD hS 1 1 rfl rfl (z_in (by decide) (by decide)) dX12_init_1336 (fun H locs hP hD hS => ?_)
  rw [c_i2 (F := fun _ => 0) (k := Int32.toNatClampNeg 0) (c := vp_nar .char 109) (v := 109) (by decide)] at hP hD
  have hP : va_P D vwCl ((h0, .inr (12, fs)) :: (q_129, .inl (D.1 14, 3, .inl (fun j => i2 (upZ (fun _ => 0) 0 109 j)))) :: T) H := hP
  have hD : va_D A ((h0, .inr (12, fs)) :: (q_129, .inl (D.1 14, 3, .inl (fun j => i2 (upZ (fun _ => 0) 0 109 j)))) :: T) := hD
  refine lv_dup hx hb dX12_init_1337 rfl ?_
  refine lv_iconst (v := 1) hx hb dX12_init_1338 (by decide) ?_
  refine lv_bipush (v := 97) hx hb dX12_init_1339 (by decide) ?_
  refine va_cast hx hb hK hP hD hS 1 1 rfl rfl (z_in (by decide) (by decide)) dX12_init_1341 (fun H locs hP hD hS => ?_)
  rw [c_i2 (F := upZ (fun _ => 0) 0 109) (k := Int32.toNatClampNeg 1) (c := vp_nar .char 97) (v := 97) (by decide)] at hP hD
  have hP : va_P D vwCl ((h0, .inr (12, fs)) :: (q_129, .inl (D.1 14, 3, .inl (fun j => i2 (upZ (upZ (fun _ => 0) 0 109) 1 97 j)))) :: T) H := hP
  have hD : va_D A ((h0, .inr (12, fs)) :: (q_129, .inl (D.1 14, 3, .inl (fun j => i2 (upZ (upZ (fun _ => 0) 0 109) 1 97 j)))) :: T) := hD
  refine lv_dup hx hb dX12_init_1342 rfl ?_
  refine lv_iconst (v := 2) hx hb dX12_init_1343 (by decide) ?_
  refine lv_bipush (v := 120) hx hb dX12_init_1344 (by decide) ?_
  refine va_cast hx hb hK hP hD hS 1 1 rfl rfl (z_in (by decide) (by decide)) dX12_init_1346 (fun H locs hP hD hS => ?_)
  rw [c_i2 (F := upZ (upZ (fun _ => 0) 0 109) 1 97) (k := Int32.toNatClampNeg 2) (c := vp_nar .char 120) (v := 120) (by decide)] at hP hD
  have hP : va_P D vwCl ((h0, .inr (12, fs)) :: (q_129, .inl (D.1 14, 3, .inl (fun j => i2 (upZ (upZ (upZ (fun _ => 0) 0 109) 1 97) 2 120 j)))) :: T) H := hP
  have hD : va_D A ((h0, .inr (12, fs)) :: (q_129, .inl (D.1 14, 3, .inl (fun j => i2 (upZ (upZ (upZ (fun _ => 0) 0 109) 1 97) 2 120 j)))) :: T) := hD
  refine va_putF (D := D) (ci := 12) (v := .ref q_129) (ty := .array .char) (C := RX12) (T := TX12) (N := 116) hx hb ht inX12 tyX12 tyX12_ok nmX12 hown hK hP hD hS 0 rfl rfl 90 (by decide) (ht (.fieldLink RX12 210 "CloneVolumesModel" "maxAsked" "[C") fl_X12_210) (fun _ h9 => h9) rfl hin rfl (by decide +kernel) rfl rfl (by rw [hlen]; decide) dX12_init_1347 (fun H locs hP hD hS => ?_)
  have hP : va_P D vwCl ((h0, .inr (12, (fs.set 90 (.ref q_129)))) :: (q_129, .inl (D.1 14, 3, .inl (fun j => i2 (upZ (upZ (upZ (fun _ => 0) 0 109) 1 97) 2 120 j)))) :: T) H := hP
  have hD : va_D A ((h0, .inr (12, (fs.set 90 (.ref q_129)))) :: (q_129, .inl (D.1 14, 3, .inl (fun j => i2 (upZ (upZ (upZ (fun _ => 0) 0 109) 1 97) 2 120 j)))) :: T) := hD
  generalize hfs_130 : fs.set 90 (.ref q_129) = fs_130 at hP hD
  have hlen : fs_130.length = 116 := by rw [← hfs_130, List.length_set]; exact hlen
  have hP : va_P D vwCl ((h0, .inr (12, fs_130)) :: (q_129, .inl (D.1 14, 3, .inl (fun j => i2 (upZ (upZ (upZ (fun _ => 0) 0 109) 1 97) 2 120 j)))) :: T) H := hP
  have hD : va_D A ((h0, .inr (12, fs_130)) :: (q_129, .inl (D.1 14, 3, .inl (fun j => i2 (upZ (upZ (upZ (fun _ => 0) 0 109) 1 97) 2 120 j)))) :: T) := hD
  refine lv_aload_n hx hb dX12_init_1350 rfl (lv_at hl 0 rfl) ?_
  refine lv_iconst (v := 5) hx hb dX12_init_1351 (by decide) ?_
  refine va_newa (atype := .char) (a0 := (5, .inl (fun _ => 0))) (ty := .char) (N' := 5) hx hb (ht _ ac_char) rfl hK hP hD hS hA (fun _ => rfl) (by decide) (by decide) (by decide) (Nat.le_trans (Nat.le_of_ble_eq_true rfl) hRc) (Nat.le_trans (Nat.le_of_ble_eq_true rfl) hRs) dX12_init_1352 (fun q_131 cA H hK2 hP hD hS => ?_)
  obtain rfl := z_cls_char hK hK2
  refine W.widen (k := 65) (n := 27709) (Nat.le_of_ble_eq_true rfl) (Nat.le_of_ble_eq_true rfl) ?_
  obtain ⟨hP, hD⟩ := z_rot hP hD
  have hP : va_P D vwCl ((h0, .inr (12, fs_130)) :: (q_131, .inl (D.1 14, 5, .inl (fun _ => i2 0))) :: (q_129, .inl (D.1 14, 3, .inl (fun j => i2 (upZ (upZ (upZ (fun _ => 0) 0 109) 1 97) 2 120 j)))) :: T) H := hP
  have hD : va_D A ((h0, .inr (12, fs_130)) :: (q_131, .inl (D.1 14, 5, .inl (fun _ => i2 0))) :: (q_129, .inl (D.1 14, 3, .inl (fun j => i2 (upZ (upZ (upZ (fun _ => 0) 0 109) 1 97) 2 120 j)))) :: T) := hD
  refine lv_dup hx hb dX12_init_1354 rfl ?_
  refine lv_iconst (v := 0) hx hb dX12_init_1355 (by decide) ?_
  refine lv_bipush (v := 108) hx hb dX12_init_1356 (by decide) ?_
  refine va_cast hx hb hK hP hD hS 1 1 rfl rfl (z_in (by decide) (by decide)) dX12_init_1358 (fun H locs hP hD hS => ?_)
  rw [c_i2 (F := fun _ => 0) (k := Int32.toNatClampNeg 0) (c := vp_nar .char 108) (v := 108) (by decide)] at hP hD
  have hP : va_P D vwCl ((h0, .inr (12, fs_130)) :: (q_131, .inl (D.1 14, 5, .inl (fun j => i2 (upZ (fun _ => 0) 0 108 j)))) :: (q_129, .inl (D.1 14, 3, .inl (fun j => i2 (upZ (upZ (upZ (fun _ => 0) 0 109) 1 97) 2 120 j)))) :: T) H := hP
  have hD : va_D A ((h0, .inr (12, fs_130)) :: (q_131, .inl (D.1 14, 5, .inl (fun j => i2 (upZ (fun _ => 0) 0 108 j)))) :: (q_129, .inl (D.1 14, 3, .inl (fun j => i2 (upZ (upZ (upZ (fun _ => 0) 0 109) 1 97) 2 120 j)))) :: T) := hD
  refine lv_dup hx hb dX12_init_1359 rfl ?_
  refine lv_iconst (v := 1) hx hb dX12_init_1360 (by decide) ?_
  refine lv_bipush (v := 101) hx hb dX12_init_1361 (by decide) ?_
  refine va_cast hx hb hK hP hD hS 1 1 rfl rfl (z_in (by decide) (by decide)) dX12_init_1363 (fun H locs hP hD hS => ?_)
  rw [c_i2 (F := upZ (fun _ => 0) 0 108) (k := Int32.toNatClampNeg 1) (c := vp_nar .char 101) (v := 101) (by decide)] at hP hD
  have hP : va_P D vwCl ((h0, .inr (12, fs_130)) :: (q_131, .inl (D.1 14, 5, .inl (fun j => i2 (upZ (upZ (fun _ => 0) 0 108) 1 101 j)))) :: (q_129, .inl (D.1 14, 3, .inl (fun j => i2 (upZ (upZ (upZ (fun _ => 0) 0 109) 1 97) 2 120 j)))) :: T) H := hP
  have hD : va_D A ((h0, .inr (12, fs_130)) :: (q_131, .inl (D.1 14, 5, .inl (fun j => i2 (upZ (upZ (fun _ => 0) 0 108) 1 101 j)))) :: (q_129, .inl (D.1 14, 3, .inl (fun j => i2 (upZ (upZ (upZ (fun _ => 0) 0 109) 1 97) 2 120 j)))) :: T) := hD
  refine lv_dup hx hb dX12_init_1364 rfl ?_
  refine lv_iconst (v := 2) hx hb dX12_init_1365 (by decide) ?_
  refine lv_bipush (v := 118) hx hb dX12_init_1366 (by decide) ?_
  refine va_cast hx hb hK hP hD hS 1 1 rfl rfl (z_in (by decide) (by decide)) dX12_init_1368 (fun H locs hP hD hS => ?_)
  rw [c_i2 (F := upZ (upZ (fun _ => 0) 0 108) 1 101) (k := Int32.toNatClampNeg 2) (c := vp_nar .char 118) (v := 118) (by decide)] at hP hD
  have hP : va_P D vwCl ((h0, .inr (12, fs_130)) :: (q_131, .inl (D.1 14, 5, .inl (fun j => i2 (upZ (upZ (upZ (fun _ => 0) 0 108) 1 101) 2 118 j)))) :: (q_129, .inl (D.1 14, 3, .inl (fun j => i2 (upZ (upZ (upZ (fun _ => 0) 0 109) 1 97) 2 120 j)))) :: T) H := hP
  have hD : va_D A ((h0, .inr (12, fs_130)) :: (q_131, .inl (D.1 14, 5, .inl (fun j => i2 (upZ (upZ (upZ (fun _ => 0) 0 108) 1 101) 2 118 j)))) :: (q_129, .inl (D.1 14, 3, .inl (fun j => i2 (upZ (upZ (upZ (fun _ => 0) 0 109) 1 97) 2 120 j)))) :: T) := hD
  refine lv_dup hx hb dX12_init_1369 rfl ?_
  refine lv_iconst (v := 3) hx hb dX12_init_1370 (by decide) ?_
  refine lv_bipush (v := 101) hx hb dX12_init_1371 (by decide) ?_
  refine va_cast hx hb hK hP hD hS 1 1 rfl rfl (z_in (by decide) (by decide)) dX12_init_1373 (fun H locs hP hD hS => ?_)
  rw [c_i2 (F := upZ (upZ (upZ (fun _ => 0) 0 108) 1 101) 2 118) (k := Int32.toNatClampNeg 3) (c := vp_nar .char 101) (v := 101) (by decide)] at hP hD
  have hP : va_P D vwCl ((h0, .inr (12, fs_130)) :: (q_131, .inl (D.1 14, 5, .inl (fun j => i2 (upZ (upZ (upZ (upZ (fun _ => 0) 0 108) 1 101) 2 118) 3 101 j)))) :: (q_129, .inl (D.1 14, 3, .inl (fun j => i2 (upZ (upZ (upZ (fun _ => 0) 0 109) 1 97) 2 120 j)))) :: T) H := hP
  have hD : va_D A ((h0, .inr (12, fs_130)) :: (q_131, .inl (D.1 14, 5, .inl (fun j => i2 (upZ (upZ (upZ (upZ (fun _ => 0) 0 108) 1 101) 2 118) 3 101 j)))) :: (q_129, .inl (D.1 14, 3, .inl (fun j => i2 (upZ (upZ (upZ (fun _ => 0) 0 109) 1 97) 2 120 j)))) :: T) := hD
  refine lv_dup hx hb dX12_init_1374 rfl ?_
  refine lv_iconst (v := 4) hx hb dX12_init_1375 (by decide) ?_
  refine lv_bipush (v := 108) hx hb dX12_init_1376 (by decide) ?_
  refine va_cast hx hb hK hP hD hS 1 1 rfl rfl (z_in (by decide) (by decide)) dX12_init_1378 (fun H locs hP hD hS => ?_)
  rw [c_i2 (F := upZ (upZ (upZ (upZ (fun _ => 0) 0 108) 1 101) 2 118) 3 101) (k := Int32.toNatClampNeg 4) (c := vp_nar .char 108) (v := 108) (by decide)] at hP hD
  have hP : va_P D vwCl ((h0, .inr (12, fs_130)) :: (q_131, .inl (D.1 14, 5, .inl (fun j => i2 (upZ (upZ (upZ (upZ (upZ (fun _ => 0) 0 108) 1 101) 2 118) 3 101) 4 108 j)))) :: (q_129, .inl (D.1 14, 3, .inl (fun j => i2 (upZ (upZ (upZ (fun _ => 0) 0 109) 1 97) 2 120 j)))) :: T) H := hP
  have hD : va_D A ((h0, .inr (12, fs_130)) :: (q_131, .inl (D.1 14, 5, .inl (fun j => i2 (upZ (upZ (upZ (upZ (upZ (fun _ => 0) 0 108) 1 101) 2 118) 3 101) 4 108 j)))) :: (q_129, .inl (D.1 14, 3, .inl (fun j => i2 (upZ (upZ (upZ (fun _ => 0) 0 109) 1 97) 2 120 j)))) :: T) := hD
  refine va_putF (D := D) (ci := 12) (v := .ref q_131) (ty := .array .char) (C := RX12) (T := TX12) (N := 116) hx hb ht inX12 tyX12 tyX12_ok nmX12 hown hK hP hD hS 0 rfl rfl 91 (by decide) (ht (.fieldLink RX12 213 "CloneVolumesModel" "levelAsked" "[C") fl_X12_213) (fun _ h9 => h9) rfl hin rfl (by decide +kernel) rfl rfl (by rw [hlen]; decide) dX12_init_1379 (fun H locs hP hD hS => ?_)
  have hP : va_P D vwCl ((h0, .inr (12, (fs_130.set 91 (.ref q_131)))) :: (q_131, .inl (D.1 14, 5, .inl (fun j => i2 (upZ (upZ (upZ (upZ (upZ (fun _ => 0) 0 108) 1 101) 2 118) 3 101) 4 108 j)))) :: (q_129, .inl (D.1 14, 3, .inl (fun j => i2 (upZ (upZ (upZ (fun _ => 0) 0 109) 1 97) 2 120 j)))) :: T) H := hP
  have hD : va_D A ((h0, .inr (12, (fs_130.set 91 (.ref q_131)))) :: (q_131, .inl (D.1 14, 5, .inl (fun j => i2 (upZ (upZ (upZ (upZ (upZ (fun _ => 0) 0 108) 1 101) 2 118) 3 101) 4 108 j)))) :: (q_129, .inl (D.1 14, 3, .inl (fun j => i2 (upZ (upZ (upZ (fun _ => 0) 0 109) 1 97) 2 120 j)))) :: T) := hD
  generalize hfs_132 : fs_130.set 91 (.ref q_131) = fs_132 at hP hD
  have hlen : fs_132.length = 116 := by rw [← hfs_132, List.length_set]; exact hlen
  have hP : va_P D vwCl ((h0, .inr (12, fs_132)) :: (q_131, .inl (D.1 14, 5, .inl (fun j => i2 (upZ (upZ (upZ (upZ (upZ (fun _ => 0) 0 108) 1 101) 2 118) 3 101) 4 108 j)))) :: (q_129, .inl (D.1 14, 3, .inl (fun j => i2 (upZ (upZ (upZ (fun _ => 0) 0 109) 1 97) 2 120 j)))) :: T) H := hP
  have hD : va_D A ((h0, .inr (12, fs_132)) :: (q_131, .inl (D.1 14, 5, .inl (fun j => i2 (upZ (upZ (upZ (upZ (upZ (fun _ => 0) 0 108) 1 101) 2 118) 3 101) 4 108 j)))) :: (q_129, .inl (D.1 14, 3, .inl (fun j => i2 (upZ (upZ (upZ (fun _ => 0) 0 109) 1 97) 2 120 j)))) :: T) := hD
  refine lv_aload_n hx hb dX12_init_1382 rfl (lv_at hl 0 rfl) ?_
  refine lv_iconst (v := 5) hx hb dX12_init_1383 (by decide) ?_
  refine va_newa (atype := .char) (a0 := (5, .inl (fun _ => 0))) (ty := .char) (N' := 5) hx hb (ht _ ac_char) rfl hK hP hD hS hA (fun _ => rfl) (by decide) (by decide) (by decide) (Nat.le_trans (Nat.le_of_ble_eq_true rfl) hRc) (Nat.le_trans (Nat.le_of_ble_eq_true rfl) hRs) dX12_init_1384 (fun q_133 cA H hK2 hP hD hS => ?_)
  obtain rfl := z_cls_char hK hK2
  refine W.widen (k := 66) (n := 27714) (Nat.le_of_ble_eq_true rfl) (Nat.le_of_ble_eq_true rfl) ?_
  obtain ⟨hP, hD⟩ := z_rot hP hD
  have hP : va_P D vwCl ((h0, .inr (12, fs_132)) :: (q_133, .inl (D.1 14, 5, .inl (fun _ => i2 0))) :: (q_131, .inl (D.1 14, 5, .inl (fun j => i2 (upZ (upZ (upZ (upZ (upZ (fun _ => 0) 0 108) 1 101) 2 118) 3 101) 4 108 j)))) :: (q_129, .inl (D.1 14, 3, .inl (fun j => i2 (upZ (upZ (upZ (fun _ => 0) 0 109) 1 97) 2 120 j)))) :: T) H := hP
  have hD : va_D A ((h0, .inr (12, fs_132)) :: (q_133, .inl (D.1 14, 5, .inl (fun _ => i2 0))) :: (q_131, .inl (D.1 14, 5, .inl (fun j => i2 (upZ (upZ (upZ (upZ (upZ (fun _ => 0) 0 108) 1 101) 2 118) 3 101) 4 108 j)))) :: (q_129, .inl (D.1 14, 3, .inl (fun j => i2 (upZ (upZ (upZ (fun _ => 0) 0 109) 1 97) 2 120 j)))) :: T) := hD
  refine lv_dup hx hb dX12_init_1386 rfl ?_
  refine lv_iconst (v := 0) hx hb dX12_init_1387 (by decide) ?_
  refine lv_bipush (v := 98) hx hb dX12_init_1388 (by decide) ?_
  refine va_cast hx hb hK hP hD hS 1 1 rfl rfl (z_in (by decide) (by decide)) dX12_init_1390 (fun H locs hP hD hS => ?_)
  rw [c_i2 (F := fun _ => 0) (k := Int32.toNatClampNeg 0) (c := vp_nar .char 98) (v := 98) (by decide)] at hP hD
  have hP : va_P D vwCl ((h0, .inr (12, fs_132)) :: (q_133, .inl (D.1 14, 5, .inl (fun j => i2 (upZ (fun _ => 0) 0 98 j)))) :: (q_131, .inl (D.1 14, 5, .inl (fun j => i2 (upZ (upZ (upZ (upZ (upZ (fun _ => 0) 0 108) 1 101) 2 118) 3 101) 4 108 j)))) :: (q_129, .inl (D.1 14, 3, .inl (fun j => i2 (upZ (upZ (upZ (fun _ => 0) 0 109) 1 97) 2 120 j)))) :: T) H := hP
  have hD : va_D A ((h0, .inr (12, fs_132)) :: (q_133, .inl (D.1 14, 5, .inl (fun j => i2 (upZ (fun _ => 0) 0 98 j)))) :: (q_131, .inl (D.1 14, 5, .inl (fun j => i2 (upZ (upZ (upZ (upZ (upZ (fun _ => 0) 0 108) 1 101) 2 118) 3 101) 4 108 j)))) :: (q_129, .inl (D.1 14, 3, .inl (fun j => i2 (upZ (upZ (upZ (fun _ => 0) 0 109) 1 97) 2 120 j)))) :: T) := hD
  refine lv_dup hx hb dX12_init_1391 rfl ?_
  refine lv_iconst (v := 1) hx hb dX12_init_1392 (by decide) ?_
  refine lv_bipush (v := 108) hx hb dX12_init_1393 (by decide) ?_
  refine va_cast hx hb hK hP hD hS 1 1 rfl rfl (z_in (by decide) (by decide)) dX12_init_1395 (fun H locs hP hD hS => ?_)
  rw [c_i2 (F := upZ (fun _ => 0) 0 98) (k := Int32.toNatClampNeg 1) (c := vp_nar .char 108) (v := 108) (by decide)] at hP hD
  have hP : va_P D vwCl ((h0, .inr (12, fs_132)) :: (q_133, .inl (D.1 14, 5, .inl (fun j => i2 (upZ (upZ (fun _ => 0) 0 98) 1 108 j)))) :: (q_131, .inl (D.1 14, 5, .inl (fun j => i2 (upZ (upZ (upZ (upZ (upZ (fun _ => 0) 0 108) 1 101) 2 118) 3 101) 4 108 j)))) :: (q_129, .inl (D.1 14, 3, .inl (fun j => i2 (upZ (upZ (upZ (fun _ => 0) 0 109) 1 97) 2 120 j)))) :: T) H := hP
  have hD : va_D A ((h0, .inr (12, fs_132)) :: (q_133, .inl (D.1 14, 5, .inl (fun j => i2 (upZ (upZ (fun _ => 0) 0 98) 1 108 j)))) :: (q_131, .inl (D.1 14, 5, .inl (fun j => i2 (upZ (upZ (upZ (upZ (upZ (fun _ => 0) 0 108) 1 101) 2 118) 3 101) 4 108 j)))) :: (q_129, .inl (D.1 14, 3, .inl (fun j => i2 (upZ (upZ (upZ (fun _ => 0) 0 109) 1 97) 2 120 j)))) :: T) := hD
  refine lv_dup hx hb dX12_init_1396 rfl ?_
  refine lv_iconst (v := 2) hx hb dX12_init_1397 (by decide) ?_
  refine lv_bipush (v := 111) hx hb dX12_init_1398 (by decide) ?_
  refine va_cast hx hb hK hP hD hS 1 1 rfl rfl (z_in (by decide) (by decide)) dX12_init_1400 (fun H locs hP hD hS => ?_)
  rw [c_i2 (F := upZ (upZ (fun _ => 0) 0 98) 1 108) (k := Int32.toNatClampNeg 2) (c := vp_nar .char 111) (v := 111) (by decide)] at hP hD
  have hP : va_P D vwCl ((h0, .inr (12, fs_132)) :: (q_133, .inl (D.1 14, 5, .inl (fun j => i2 (upZ (upZ (upZ (fun _ => 0) 0 98) 1 108) 2 111 j)))) :: (q_131, .inl (D.1 14, 5, .inl (fun j => i2 (upZ (upZ (upZ (upZ (upZ (fun _ => 0) 0 108) 1 101) 2 118) 3 101) 4 108 j)))) :: (q_129, .inl (D.1 14, 3, .inl (fun j => i2 (upZ (upZ (upZ (fun _ => 0) 0 109) 1 97) 2 120 j)))) :: T) H := hP
  have hD : va_D A ((h0, .inr (12, fs_132)) :: (q_133, .inl (D.1 14, 5, .inl (fun j => i2 (upZ (upZ (upZ (fun _ => 0) 0 98) 1 108) 2 111 j)))) :: (q_131, .inl (D.1 14, 5, .inl (fun j => i2 (upZ (upZ (upZ (upZ (upZ (fun _ => 0) 0 108) 1 101) 2 118) 3 101) 4 108 j)))) :: (q_129, .inl (D.1 14, 3, .inl (fun j => i2 (upZ (upZ (upZ (fun _ => 0) 0 109) 1 97) 2 120 j)))) :: T) := hD
  refine lv_dup hx hb dX12_init_1401 rfl ?_
  refine lv_iconst (v := 3) hx hb dX12_init_1402 (by decide) ?_
  refine lv_bipush (v := 99) hx hb dX12_init_1403 (by decide) ?_
  refine va_cast hx hb hK hP hD hS 1 1 rfl rfl (z_in (by decide) (by decide)) dX12_init_1405 (fun H locs hP hD hS => ?_)
  rw [c_i2 (F := upZ (upZ (upZ (fun _ => 0) 0 98) 1 108) 2 111) (k := Int32.toNatClampNeg 3) (c := vp_nar .char 99) (v := 99) (by decide)] at hP hD
  have hP : va_P D vwCl ((h0, .inr (12, fs_132)) :: (q_133, .inl (D.1 14, 5, .inl (fun j => i2 (upZ (upZ (upZ (upZ (fun _ => 0) 0 98) 1 108) 2 111) 3 99 j)))) :: (q_131, .inl (D.1 14, 5, .inl (fun j => i2 (upZ (upZ (upZ (upZ (upZ (fun _ => 0) 0 108) 1 101) 2 118) 3 101) 4 108 j)))) :: (q_129, .inl (D.1 14, 3, .inl (fun j => i2 (upZ (upZ (upZ (fun _ => 0) 0 109) 1 97) 2 120 j)))) :: T) H := hP
  have hD : va_D A ((h0, .inr (12, fs_132)) :: (q_133, .inl (D.1 14, 5, .inl (fun j => i2 (upZ (upZ (upZ (upZ (fun _ => 0) 0 98) 1 108) 2 111) 3 99 j)))) :: (q_131, .inl (D.1 14, 5, .inl (fun j => i2 (upZ (upZ (upZ (upZ (upZ (fun _ => 0) 0 108) 1 101) 2 118) 3 101) 4 108 j)))) :: (q_129, .inl (D.1 14, 3, .inl (fun j => i2 (upZ (upZ (upZ (fun _ => 0) 0 109) 1 97) 2 120 j)))) :: T) := hD
  refine lv_dup hx hb dX12_init_1406 rfl ?_
  refine lv_iconst (v := 4) hx hb dX12_init_1407 (by decide) ?_
  refine lv_bipush (v := 107) hx hb dX12_init_1408 (by decide) ?_
  refine va_cast hx hb hK hP hD hS 1 1 rfl rfl (z_in (by decide) (by decide)) dX12_init_1410 (fun H locs hP hD hS => ?_)
  rw [c_i2 (F := upZ (upZ (upZ (upZ (fun _ => 0) 0 98) 1 108) 2 111) 3 99) (k := Int32.toNatClampNeg 4) (c := vp_nar .char 107) (v := 107) (by decide)] at hP hD
  have hP : va_P D vwCl ((h0, .inr (12, fs_132)) :: (q_133, .inl (D.1 14, 5, .inl (fun j => i2 (upZ (upZ (upZ (upZ (upZ (fun _ => 0) 0 98) 1 108) 2 111) 3 99) 4 107 j)))) :: (q_131, .inl (D.1 14, 5, .inl (fun j => i2 (upZ (upZ (upZ (upZ (upZ (fun _ => 0) 0 108) 1 101) 2 118) 3 101) 4 108 j)))) :: (q_129, .inl (D.1 14, 3, .inl (fun j => i2 (upZ (upZ (upZ (fun _ => 0) 0 109) 1 97) 2 120 j)))) :: T) H := hP
  have hD : va_D A ((h0, .inr (12, fs_132)) :: (q_133, .inl (D.1 14, 5, .inl (fun j => i2 (upZ (upZ (upZ (upZ (upZ (fun _ => 0) 0 98) 1 108) 2 111) 3 99) 4 107 j)))) :: (q_131, .inl (D.1 14, 5, .inl (fun j => i2 (upZ (upZ (upZ (upZ (upZ (fun _ => 0) 0 108) 1 101) 2 118) 3 101) 4 108 j)))) :: (q_129, .inl (D.1 14, 3, .inl (fun j => i2 (upZ (upZ (upZ (fun _ => 0) 0 109) 1 97) 2 120 j)))) :: T) := hD
  refine va_putF (D := D) (ci := 12) (v := .ref q_133) (ty := .array .char) (C := RX12) (T := TX12) (N := 116) hx hb ht inX12 tyX12 tyX12_ok nmX12 hown hK hP hD hS 0 rfl rfl 92 (by decide) (ht (.fieldLink RX12 216 "CloneVolumesModel" "blockAsked" "[C") fl_X12_216) (fun _ h9 => h9) rfl hin rfl (by decide +kernel) rfl rfl (by rw [hlen]; decide) dX12_init_1411 (fun H locs hP hD hS => ?_)
  have hP : va_P D vwCl ((h0, .inr (12, (fs_132.set 92 (.ref q_133)))) :: (q_133, .inl (D.1 14, 5, .inl (fun j => i2 (upZ (upZ (upZ (upZ (upZ (fun _ => 0) 0 98) 1 108) 2 111) 3 99) 4 107 j)))) :: (q_131, .inl (D.1 14, 5, .inl (fun j => i2 (upZ (upZ (upZ (upZ (upZ (fun _ => 0) 0 108) 1 101) 2 118) 3 101) 4 108 j)))) :: (q_129, .inl (D.1 14, 3, .inl (fun j => i2 (upZ (upZ (upZ (fun _ => 0) 0 109) 1 97) 2 120 j)))) :: T) H := hP
  have hD : va_D A ((h0, .inr (12, (fs_132.set 92 (.ref q_133)))) :: (q_133, .inl (D.1 14, 5, .inl (fun j => i2 (upZ (upZ (upZ (upZ (upZ (fun _ => 0) 0 98) 1 108) 2 111) 3 99) 4 107 j)))) :: (q_131, .inl (D.1 14, 5, .inl (fun j => i2 (upZ (upZ (upZ (upZ (upZ (fun _ => 0) 0 108) 1 101) 2 118) 3 101) 4 108 j)))) :: (q_129, .inl (D.1 14, 3, .inl (fun j => i2 (upZ (upZ (upZ (fun _ => 0) 0 109) 1 97) 2 120 j)))) :: T) := hD
  generalize hfs_134 : fs_132.set 92 (.ref q_133) = fs_134 at hP hD
  have hlen : fs_134.length = 116 := by rw [← hfs_134, List.length_set]; exact hlen
  have hP : va_P D vwCl ((h0, .inr (12, fs_134)) :: (q_133, .inl (D.1 14, 5, .inl (fun j => i2 (upZ (upZ (upZ (upZ (upZ (fun _ => 0) 0 98) 1 108) 2 111) 3 99) 4 107 j)))) :: (q_131, .inl (D.1 14, 5, .inl (fun j => i2 (upZ (upZ (upZ (upZ (upZ (fun _ => 0) 0 108) 1 101) 2 118) 3 101) 4 108 j)))) :: (q_129, .inl (D.1 14, 3, .inl (fun j => i2 (upZ (upZ (upZ (fun _ => 0) 0 109) 1 97) 2 120 j)))) :: T) H := hP
  have hD : va_D A ((h0, .inr (12, fs_134)) :: (q_133, .inl (D.1 14, 5, .inl (fun j => i2 (upZ (upZ (upZ (upZ (upZ (fun _ => 0) 0 98) 1 108) 2 111) 3 99) 4 107 j)))) :: (q_131, .inl (D.1 14, 5, .inl (fun j => i2 (upZ (upZ (upZ (upZ (upZ (fun _ => 0) 0 108) 1 101) 2 118) 3 101) 4 108 j)))) :: (q_129, .inl (D.1 14, 3, .inl (fun j => i2 (upZ (upZ (upZ (fun _ => 0) 0 109) 1 97) 2 120 j)))) :: T) := hD
  exact kk q_133 q_131 q_129 fs_134 _ _ (by rw [← hfs_134, ← hfs_132, ← hfs_130]) hP hD hS
set_option maxHeartbeats 4000000 in
set_option maxRecDepth 100000 in
theorem cM_18 {p : Program} {l : Launch} {e : Env} {R : Room} {s : State} {m : MethodId} {args : Array Value} {below : List Frame} {meth : Method} {c : Code} {Q : State → Prop} {D : va_G} {A : Nat → Prop} {ls : Array Slot} {h0 : Nat} {T : va_W} (hx : p.tables.exec = Jvm.exec) (hb : c.code = cX12_init) (ht : ∀ w ∈ lw_gd, w.before args s = true) (hown : s.vm.findClass RX12 = some m.cls) (hin : meth.name = "<init>") (hK : va_K D vwCl (TY D) s) (hA : ∀ q : Nat, s.heap.size ≤ q → A q) (hRc : 80 ≤ R.cells) (hRs : 35050 ≤ R.slots) (hl : lv_has ls 1 [(0, .ref h0)]) {fs : List Value} (hlen : fs.length = 116) {H : Heap} {locs : List Loc} (hP : va_P D vwCl ((h0, .inr (12, fs)) :: T) H) (hD : va_D A ((h0, .inr (12, fs)) :: T)) (hS : va_S A s.heap H locs)
    (kk : ∀ (q_137 : Nat) (q_135 : Nat) (fs' : List Value) (H : Heap) (locs : List Loc), fs' = ((fs.set 93 (.ref q_135)).set 94 (.ref q_137)) → va_P D vwCl ((h0, .inr (12, fs')) :: (q_137, .inl (D.1 14, 7, .inl (fun j => i2 (upZ (upZ (upZ (upZ (upZ (upZ (upZ (fun _ => 0) 0 101) 1 110) 2 116) 3 114) 4 105) 5 101) 6 115 j)))) :: (q_135, .inl (D.1 14, 4, .inl (fun j => i2 (upZ (upZ (upZ (upZ (fun _ => 0) 0 102) 1 114) 2 111) 3 109 j)))) :: T) H → va_D A ((h0, .inr (12, fs')) :: (q_137, .inl (D.1 14, 7, .inl (fun j => i2 (upZ (upZ (upZ (upZ (upZ (upZ (upZ (fun _ => 0) 0 101) 1 110) 2 116) 3 114) 4 105) 5 101) 6 115 j)))) :: (q_135, .inl (D.1 14, 4, .inl (fun j => i2 (upZ (upZ (upZ (upZ (fun _ => 0) 0 102) 1 114) 2 111) 3 109 j)))) :: T) → va_S A s.heap H locs → W p l e R s m args below meth c H locs 68 27725 Q (F0 m 1485 ls [])) : W p l e R s m args below meth c H locs 66 27714 Q (F0 m 1414 ls []) := by
  refine lv_aload_n hx hb dX12_init_1414 rfl (lv_at hl 0 rfl) ?_
  refine lv_iconst (v := 4) hx hb dX12_init_1415 (by decide) ?_
  refine va_newa (atype := .char) (a0 := (4, .inl (fun _ => 0))) (ty := .char) (N' := 4) hx hb (ht _ ac_char) rfl hK hP hD hS hA (fun _ => rfl) (by decide) (by decide) (by decide) (Nat.le_trans (Nat.le_of_ble_eq_true rfl) hRc) (Nat.le_trans (Nat.le_of_ble_eq_true rfl) hRs) dX12_init_1416 (fun q_135 cA H hK2 hP hD hS => ?_)
  obtain rfl := z_cls_char hK hK2
  refine W.widen (k := 67) (n := 27718) (Nat.le_of_ble_eq_true rfl) (Nat.le_of_ble_eq_true rfl) ?_
  obtain ⟨hP, hD⟩ := z_rot hP hD
  have hP : va_P D vwCl ((h0, .inr (12, fs)) :: (q_135, .inl (D.1 14, 4, .inl (fun _ => i2 0))) :: T) H := hP
  have hD : va_D A ((h0, .inr (12, fs)) :: (q_135, .inl (D.1 14, 4, .inl (fun _ => i2 0))) :: T) := hD
  refine lv_dup hx hb dX12_init_1418 rfl ?_
  refine lv_iconst (v := 0) hx hb dX12_init_1419 (by decide) ?_
  refine lv_bipush (v := 102) hx hb dX12_init_1420 (by decide) ?_
  refine va_cast hx hb hK hP hD hS 1 1 rfl rfl (z_in (by decide) (by decide)) dX12_init_1422 (fun H locs hP hD hS => ?_)
  rw [c_i2 (F := fun _ => 0) (k := Int32.toNatClampNeg 0) (c := vp_nar .char 102) (v := 102) (by decide)] at hP hD
  have hP : va_P D vwCl ((h0, .inr (12, fs)) :: (q_135, .inl (D.1 14, 4, .inl (fun j => i2 (upZ (fun _ => 0) 0 102 j)))) :: T) H := hP
  have hD : va_D A ((h0, .inr (12, fs)) :: (q_135, .inl (D.1 14, 4, .inl (fun j => i2 (upZ (fun _ => 0) 0 102 j)))) :: T) := hD
  refine lv_dup hx hb dX12_init_1423 rfl ?_
  refine lv_iconst (v := 1) hx hb dX12_init_1424 (by decide) ?_
  refine lv_bipush (v := 114) hx hb dX12_init_1425 (by decide) ?_
  refine va_cast hx hb hK hP hD hS 1 1 rfl rfl (z_in (by decide) (by decide)) dX12_init_1427 (fun H locs hP hD hS => ?_)
  rw [c_i2 (F := upZ (fun _ => 0) 0 102) (k := Int32.toNatClampNeg 1) (c := vp_nar .char 114) (v := 114) (by decide)] at hP hD
  have hP : va_P D vwCl ((h0, .inr (12, fs)) :: (q_135, .inl (D.1 14, 4, .inl (fun j => i2 (upZ (upZ (fun _ => 0) 0 102) 1 114 j)))) :: T) H := hP
  have hD : va_D A ((h0, .inr (12, fs)) :: (q_135, .inl (D.1 14, 4, .inl (fun j => i2 (upZ (upZ (fun _ => 0) 0 102) 1 114 j)))) :: T) := hD
  refine lv_dup hx hb dX12_init_1428 rfl ?_
  refine lv_iconst (v := 2) hx hb dX12_init_1429 (by decide) ?_
  refine lv_bipush (v := 111) hx hb dX12_init_1430 (by decide) ?_
  refine va_cast hx hb hK hP hD hS 1 1 rfl rfl (z_in (by decide) (by decide)) dX12_init_1432 (fun H locs hP hD hS => ?_)
  rw [c_i2 (F := upZ (upZ (fun _ => 0) 0 102) 1 114) (k := Int32.toNatClampNeg 2) (c := vp_nar .char 111) (v := 111) (by decide)] at hP hD
  have hP : va_P D vwCl ((h0, .inr (12, fs)) :: (q_135, .inl (D.1 14, 4, .inl (fun j => i2 (upZ (upZ (upZ (fun _ => 0) 0 102) 1 114) 2 111 j)))) :: T) H := hP
  have hD : va_D A ((h0, .inr (12, fs)) :: (q_135, .inl (D.1 14, 4, .inl (fun j => i2 (upZ (upZ (upZ (fun _ => 0) 0 102) 1 114) 2 111 j)))) :: T) := hD
  refine lv_dup hx hb dX12_init_1433 rfl ?_
  refine lv_iconst (v := 3) hx hb dX12_init_1434 (by decide) ?_
  refine lv_bipush (v := 109) hx hb dX12_init_1435 (by decide) ?_
  refine va_cast hx hb hK hP hD hS 1 1 rfl rfl (z_in (by decide) (by decide)) dX12_init_1437 (fun H locs hP hD hS => ?_)
  rw [c_i2 (F := upZ (upZ (upZ (fun _ => 0) 0 102) 1 114) 2 111) (k := Int32.toNatClampNeg 3) (c := vp_nar .char 109) (v := 109) (by decide)] at hP hD
  have hP : va_P D vwCl ((h0, .inr (12, fs)) :: (q_135, .inl (D.1 14, 4, .inl (fun j => i2 (upZ (upZ (upZ (upZ (fun _ => 0) 0 102) 1 114) 2 111) 3 109 j)))) :: T) H := hP
  have hD : va_D A ((h0, .inr (12, fs)) :: (q_135, .inl (D.1 14, 4, .inl (fun j => i2 (upZ (upZ (upZ (upZ (fun _ => 0) 0 102) 1 114) 2 111) 3 109 j)))) :: T) := hD
  refine va_putF (D := D) (ci := 12) (v := .ref q_135) (ty := .array .char) (C := RX12) (T := TX12) (N := 116) hx hb ht inX12 tyX12 tyX12_ok nmX12 hown hK hP hD hS 0 rfl rfl 93 (by decide) (ht (.fieldLink RX12 219 "CloneVolumesModel" "fromAsked" "[C") fl_X12_219) (fun _ h9 => h9) rfl hin rfl (by decide +kernel) rfl rfl (by rw [hlen]; decide) dX12_init_1438 (fun H locs hP hD hS => ?_)
  have hP : va_P D vwCl ((h0, .inr (12, (fs.set 93 (.ref q_135)))) :: (q_135, .inl (D.1 14, 4, .inl (fun j => i2 (upZ (upZ (upZ (upZ (fun _ => 0) 0 102) 1 114) 2 111) 3 109 j)))) :: T) H := hP
  have hD : va_D A ((h0, .inr (12, (fs.set 93 (.ref q_135)))) :: (q_135, .inl (D.1 14, 4, .inl (fun j => i2 (upZ (upZ (upZ (upZ (fun _ => 0) 0 102) 1 114) 2 111) 3 109 j)))) :: T) := hD
  generalize hfs_136 : fs.set 93 (.ref q_135) = fs_136 at hP hD
  have hlen : fs_136.length = 116 := by rw [← hfs_136, List.length_set]; exact hlen
  have hP : va_P D vwCl ((h0, .inr (12, fs_136)) :: (q_135, .inl (D.1 14, 4, .inl (fun j => i2 (upZ (upZ (upZ (upZ (fun _ => 0) 0 102) 1 114) 2 111) 3 109 j)))) :: T) H := hP
  have hD : va_D A ((h0, .inr (12, fs_136)) :: (q_135, .inl (D.1 14, 4, .inl (fun j => i2 (upZ (upZ (upZ (upZ (fun _ => 0) 0 102) 1 114) 2 111) 3 109 j)))) :: T) := hD
  refine lv_aload_n hx hb dX12_init_1441 rfl (lv_at hl 0 rfl) ?_
  refine lv_bipush (v := 7) hx hb dX12_init_1442 (by decide) ?_
  refine va_newa (atype := .char) (a0 := (7, .inl (fun _ => 0))) (ty := .char) (N' := 7) hx hb (ht _ ac_char) rfl hK hP hD hS hA (fun _ => rfl) (by decide) (by decide) (by decide) (Nat.le_trans (Nat.le_of_ble_eq_true rfl) hRc) (Nat.le_trans (Nat.le_of_ble_eq_true rfl) hRs) dX12_init_1444 (fun q_137 cA H hK2 hP hD hS => ?_)
  obtain rfl := z_cls_char hK hK2
  refine W.widen (k := 68) (n := 27725) (Nat.le_of_ble_eq_true rfl) (Nat.le_of_ble_eq_true rfl) ?_
  obtain ⟨hP, hD⟩ := z_rot hP hD
  have hP : va_P D vwCl ((h0, .inr (12, fs_136)) :: (q_137, .inl (D.1 14, 7, .inl (fun _ => i2 0))) :: (q_135, .inl (D.1 14, 4, .inl (fun j => i2 (upZ (upZ (upZ (upZ (fun _ => 0) 0 102) 1 114) 2 111) 3 109 j)))) :: T) H := hP
  have hD : va_D A ((h0, .inr (12, fs_136)) :: (q_137, .inl (D.1 14, 7, .inl (fun _ => i2 0))) :: (q_135, .inl (D.1 14, 4, .inl (fun j => i2 (upZ (upZ (upZ (upZ (fun _ => 0) 0 102) 1 114) 2 111) 3 109 j)))) :: T) := hD
  refine lv_dup hx hb dX12_init_1446 rfl ?_
  refine lv_iconst (v := 0) hx hb dX12_init_1447 (by decide) ?_
  refine lv_bipush (v := 101) hx hb dX12_init_1448 (by decide) ?_
  refine va_cast hx hb hK hP hD hS 1 1 rfl rfl (z_in (by decide) (by decide)) dX12_init_1450 (fun H locs hP hD hS => ?_)
  rw [c_i2 (F := fun _ => 0) (k := Int32.toNatClampNeg 0) (c := vp_nar .char 101) (v := 101) (by decide)] at hP hD
  have hP : va_P D vwCl ((h0, .inr (12, fs_136)) :: (q_137, .inl (D.1 14, 7, .inl (fun j => i2 (upZ (fun _ => 0) 0 101 j)))) :: (q_135, .inl (D.1 14, 4, .inl (fun j => i2 (upZ (upZ (upZ (upZ (fun _ => 0) 0 102) 1 114) 2 111) 3 109 j)))) :: T) H := hP
  have hD : va_D A ((h0, .inr (12, fs_136)) :: (q_137, .inl (D.1 14, 7, .inl (fun j => i2 (upZ (fun _ => 0) 0 101 j)))) :: (q_135, .inl (D.1 14, 4, .inl (fun j => i2 (upZ (upZ (upZ (upZ (fun _ => 0) 0 102) 1 114) 2 111) 3 109 j)))) :: T) := hD
  refine lv_dup hx hb dX12_init_1451 rfl ?_
  refine lv_iconst (v := 1) hx hb dX12_init_1452 (by decide) ?_
  refine lv_bipush (v := 110) hx hb dX12_init_1453 (by decide) ?_
  refine va_cast hx hb hK hP hD hS 1 1 rfl rfl (z_in (by decide) (by decide)) dX12_init_1455 (fun H locs hP hD hS => ?_)
  rw [c_i2 (F := upZ (fun _ => 0) 0 101) (k := Int32.toNatClampNeg 1) (c := vp_nar .char 110) (v := 110) (by decide)] at hP hD
  have hP : va_P D vwCl ((h0, .inr (12, fs_136)) :: (q_137, .inl (D.1 14, 7, .inl (fun j => i2 (upZ (upZ (fun _ => 0) 0 101) 1 110 j)))) :: (q_135, .inl (D.1 14, 4, .inl (fun j => i2 (upZ (upZ (upZ (upZ (fun _ => 0) 0 102) 1 114) 2 111) 3 109 j)))) :: T) H := hP
  have hD : va_D A ((h0, .inr (12, fs_136)) :: (q_137, .inl (D.1 14, 7, .inl (fun j => i2 (upZ (upZ (fun _ => 0) 0 101) 1 110 j)))) :: (q_135, .inl (D.1 14, 4, .inl (fun j => i2 (upZ (upZ (upZ (upZ (fun _ => 0) 0 102) 1 114) 2 111) 3 109 j)))) :: T) := hD
  refine lv_dup hx hb dX12_init_1456 rfl ?_
  refine lv_iconst (v := 2) hx hb dX12_init_1457 (by decide) ?_
  refine lv_bipush (v := 116) hx hb dX12_init_1458 (by decide) ?_
  refine va_cast hx hb hK hP hD hS 1 1 rfl rfl (z_in (by decide) (by decide)) dX12_init_1460 (fun H locs hP hD hS => ?_)
  rw [c_i2 (F := upZ (upZ (fun _ => 0) 0 101) 1 110) (k := Int32.toNatClampNeg 2) (c := vp_nar .char 116) (v := 116) (by decide)] at hP hD
  have hP : va_P D vwCl ((h0, .inr (12, fs_136)) :: (q_137, .inl (D.1 14, 7, .inl (fun j => i2 (upZ (upZ (upZ (fun _ => 0) 0 101) 1 110) 2 116 j)))) :: (q_135, .inl (D.1 14, 4, .inl (fun j => i2 (upZ (upZ (upZ (upZ (fun _ => 0) 0 102) 1 114) 2 111) 3 109 j)))) :: T) H := hP
  have hD : va_D A ((h0, .inr (12, fs_136)) :: (q_137, .inl (D.1 14, 7, .inl (fun j => i2 (upZ (upZ (upZ (fun _ => 0) 0 101) 1 110) 2 116 j)))) :: (q_135, .inl (D.1 14, 4, .inl (fun j => i2 (upZ (upZ (upZ (upZ (fun _ => 0) 0 102) 1 114) 2 111) 3 109 j)))) :: T) := hD
  refine lv_dup hx hb dX12_init_1461 rfl ?_
  refine lv_iconst (v := 3) hx hb dX12_init_1462 (by decide) ?_
  refine lv_bipush (v := 114) hx hb dX12_init_1463 (by decide) ?_
  refine va_cast hx hb hK hP hD hS 1 1 rfl rfl (z_in (by decide) (by decide)) dX12_init_1465 (fun H locs hP hD hS => ?_)
  rw [c_i2 (F := upZ (upZ (upZ (fun _ => 0) 0 101) 1 110) 2 116) (k := Int32.toNatClampNeg 3) (c := vp_nar .char 114) (v := 114) (by decide)] at hP hD
  have hP : va_P D vwCl ((h0, .inr (12, fs_136)) :: (q_137, .inl (D.1 14, 7, .inl (fun j => i2 (upZ (upZ (upZ (upZ (fun _ => 0) 0 101) 1 110) 2 116) 3 114 j)))) :: (q_135, .inl (D.1 14, 4, .inl (fun j => i2 (upZ (upZ (upZ (upZ (fun _ => 0) 0 102) 1 114) 2 111) 3 109 j)))) :: T) H := hP
  have hD : va_D A ((h0, .inr (12, fs_136)) :: (q_137, .inl (D.1 14, 7, .inl (fun j => i2 (upZ (upZ (upZ (upZ (fun _ => 0) 0 101) 1 110) 2 116) 3 114 j)))) :: (q_135, .inl (D.1 14, 4, .inl (fun j => i2 (upZ (upZ (upZ (upZ (fun _ => 0) 0 102) 1 114) 2 111) 3 109 j)))) :: T) := hD
  refine lv_dup hx hb dX12_init_1466 rfl ?_
  refine lv_iconst (v := 4) hx hb dX12_init_1467 (by decide) ?_
  refine lv_bipush (v := 105) hx hb dX12_init_1468 (by decide) ?_
  refine va_cast hx hb hK hP hD hS 1 1 rfl rfl (z_in (by decide) (by decide)) dX12_init_1470 (fun H locs hP hD hS => ?_)
  rw [c_i2 (F := upZ (upZ (upZ (upZ (fun _ => 0) 0 101) 1 110) 2 116) 3 114) (k := Int32.toNatClampNeg 4) (c := vp_nar .char 105) (v := 105) (by decide)] at hP hD
  have hP : va_P D vwCl ((h0, .inr (12, fs_136)) :: (q_137, .inl (D.1 14, 7, .inl (fun j => i2 (upZ (upZ (upZ (upZ (upZ (fun _ => 0) 0 101) 1 110) 2 116) 3 114) 4 105 j)))) :: (q_135, .inl (D.1 14, 4, .inl (fun j => i2 (upZ (upZ (upZ (upZ (fun _ => 0) 0 102) 1 114) 2 111) 3 109 j)))) :: T) H := hP
  have hD : va_D A ((h0, .inr (12, fs_136)) :: (q_137, .inl (D.1 14, 7, .inl (fun j => i2 (upZ (upZ (upZ (upZ (upZ (fun _ => 0) 0 101) 1 110) 2 116) 3 114) 4 105 j)))) :: (q_135, .inl (D.1 14, 4, .inl (fun j => i2 (upZ (upZ (upZ (upZ (fun _ => 0) 0 102) 1 114) 2 111) 3 109 j)))) :: T) := hD
  refine lv_dup hx hb dX12_init_1471 rfl ?_
  refine lv_iconst (v := 5) hx hb dX12_init_1472 (by decide) ?_
  refine lv_bipush (v := 101) hx hb dX12_init_1473 (by decide) ?_
  refine va_cast hx hb hK hP hD hS 1 1 rfl rfl (z_in (by decide) (by decide)) dX12_init_1475 (fun H locs hP hD hS => ?_)
  rw [c_i2 (F := upZ (upZ (upZ (upZ (upZ (fun _ => 0) 0 101) 1 110) 2 116) 3 114) 4 105) (k := Int32.toNatClampNeg 5) (c := vp_nar .char 101) (v := 101) (by decide)] at hP hD
  have hP : va_P D vwCl ((h0, .inr (12, fs_136)) :: (q_137, .inl (D.1 14, 7, .inl (fun j => i2 (upZ (upZ (upZ (upZ (upZ (upZ (fun _ => 0) 0 101) 1 110) 2 116) 3 114) 4 105) 5 101 j)))) :: (q_135, .inl (D.1 14, 4, .inl (fun j => i2 (upZ (upZ (upZ (upZ (fun _ => 0) 0 102) 1 114) 2 111) 3 109 j)))) :: T) H := hP
  have hD : va_D A ((h0, .inr (12, fs_136)) :: (q_137, .inl (D.1 14, 7, .inl (fun j => i2 (upZ (upZ (upZ (upZ (upZ (upZ (fun _ => 0) 0 101) 1 110) 2 116) 3 114) 4 105) 5 101 j)))) :: (q_135, .inl (D.1 14, 4, .inl (fun j => i2 (upZ (upZ (upZ (upZ (fun _ => 0) 0 102) 1 114) 2 111) 3 109 j)))) :: T) := hD
  refine lv_dup hx hb dX12_init_1476 rfl ?_
  refine lv_bipush (v := 6) hx hb dX12_init_1477 (by decide) ?_
  refine lv_bipush (v := 115) hx hb dX12_init_1479 (by decide) ?_
  refine va_cast hx hb hK hP hD hS 1 1 rfl rfl (z_in (by decide) (by decide)) dX12_init_1481 (fun H locs hP hD hS => ?_)
  rw [c_i2 (F := upZ (upZ (upZ (upZ (upZ (upZ (fun _ => 0) 0 101) 1 110) 2 116) 3 114) 4 105) 5 101) (k := Int32.toNatClampNeg 6) (c := vp_nar .char 115) (v := 115) (by decide)] at hP hD
  have hP : va_P D vwCl ((h0, .inr (12, fs_136)) :: (q_137, .inl (D.1 14, 7, .inl (fun j => i2 (upZ (upZ (upZ (upZ (upZ (upZ (upZ (fun _ => 0) 0 101) 1 110) 2 116) 3 114) 4 105) 5 101) 6 115 j)))) :: (q_135, .inl (D.1 14, 4, .inl (fun j => i2 (upZ (upZ (upZ (upZ (fun _ => 0) 0 102) 1 114) 2 111) 3 109 j)))) :: T) H := hP
  have hD : va_D A ((h0, .inr (12, fs_136)) :: (q_137, .inl (D.1 14, 7, .inl (fun j => i2 (upZ (upZ (upZ (upZ (upZ (upZ (upZ (fun _ => 0) 0 101) 1 110) 2 116) 3 114) 4 105) 5 101) 6 115 j)))) :: (q_135, .inl (D.1 14, 4, .inl (fun j => i2 (upZ (upZ (upZ (upZ (fun _ => 0) 0 102) 1 114) 2 111) 3 109 j)))) :: T) := hD
  refine va_putF (D := D) (ci := 12) (v := .ref q_137) (ty := .array .char) (C := RX12) (T := TX12) (N := 116) hx hb ht inX12 tyX12 tyX12_ok nmX12 hown hK hP hD hS 0 rfl rfl 94 (by decide) (ht (.fieldLink RX12 222 "CloneVolumesModel" "entriesAsked" "[C") fl_X12_222) (fun _ h9 => h9) rfl hin rfl (by decide +kernel) rfl rfl (by rw [hlen]; decide) dX12_init_1482 (fun H locs hP hD hS => ?_)
  have hP : va_P D vwCl ((h0, .inr (12, (fs_136.set 94 (.ref q_137)))) :: (q_137, .inl (D.1 14, 7, .inl (fun j => i2 (upZ (upZ (upZ (upZ (upZ (upZ (upZ (fun _ => 0) 0 101) 1 110) 2 116) 3 114) 4 105) 5 101) 6 115 j)))) :: (q_135, .inl (D.1 14, 4, .inl (fun j => i2 (upZ (upZ (upZ (upZ (fun _ => 0) 0 102) 1 114) 2 111) 3 109 j)))) :: T) H := hP
  have hD : va_D A ((h0, .inr (12, (fs_136.set 94 (.ref q_137)))) :: (q_137, .inl (D.1 14, 7, .inl (fun j => i2 (upZ (upZ (upZ (upZ (upZ (upZ (upZ (fun _ => 0) 0 101) 1 110) 2 116) 3 114) 4 105) 5 101) 6 115 j)))) :: (q_135, .inl (D.1 14, 4, .inl (fun j => i2 (upZ (upZ (upZ (upZ (fun _ => 0) 0 102) 1 114) 2 111) 3 109 j)))) :: T) := hD
  generalize hfs_138 : fs_136.set 94 (.ref q_137) = fs_138 at hP hD
  have hlen : fs_138.length = 116 := by rw [← hfs_138, List.length_set]; exact hlen
  have hP : va_P D vwCl ((h0, .inr (12, fs_138)) :: (q_137, .inl (D.1 14, 7, .inl (fun j => i2 (upZ (upZ (upZ (upZ (upZ (upZ (upZ (fun _ => 0) 0 101) 1 110) 2 116) 3 114) 4 105) 5 101) 6 115 j)))) :: (q_135, .inl (D.1 14, 4, .inl (fun j => i2 (upZ (upZ (upZ (upZ (fun _ => 0) 0 102) 1 114) 2 111) 3 109 j)))) :: T) H := hP
  have hD : va_D A ((h0, .inr (12, fs_138)) :: (q_137, .inl (D.1 14, 7, .inl (fun j => i2 (upZ (upZ (upZ (upZ (upZ (upZ (upZ (fun _ => 0) 0 101) 1 110) 2 116) 3 114) 4 105) 5 101) 6 115 j)))) :: (q_135, .inl (D.1 14, 4, .inl (fun j => i2 (upZ (upZ (upZ (upZ (fun _ => 0) 0 102) 1 114) 2 111) 3 109 j)))) :: T) := hD
  exact kk q_137 q_135 fs_138 _ _ (by rw [← hfs_138, ← hfs_136]) hP hD hS
