theorem dX12_init_1164 : decode cX12_init 1164 = .ok (.aload_n 0, 1) := by decide +kernel
theorem dX12_init_1165 : decode cX12_init 1165 = .ok (.iconst 4, 1) := by decide +kernel
theorem dX12_init_1166 : decode cX12_init 1166 = .ok (.newarray .char, 2) := by decide +kernel
theorem dX12_init_1168 : decode cX12_init 1168 = .ok (.dup, 1) := by decide +kernel
theorem dX12_init_1169 : decode cX12_init 1169 = .ok (.iconst 0, 1) := by decide +kernel
theorem dX12_init_1170 : decode cX12_init 1170 = .ok (.bipush 109, 2) := by decide +kernel
theorem dX12_init_1172 : decode cX12_init 1172 = .ok (.castore, 1) := by decide +kernel
theorem dX12_init_1173 : decode cX12_init 1173 = .ok (.dup, 1) := by decide +kernel
theorem dX12_init_1174 : decode cX12_init 1174 = .ok (.iconst 1, 1) := by decide +kernel
theorem dX12_init_1175 : decode cX12_init 1175 = .ok (.bipush 111, 2) := by decide +kernel
theorem dX12_init_1177 : decode cX12_init 1177 = .ok (.castore, 1) := by decide +kernel
theorem dX12_init_1178 : decode cX12_init 1178 = .ok (.dup, 1) := by decide +kernel
theorem dX12_init_1179 : decode cX12_init 1179 = .ok (.iconst 2, 1) := by decide +kernel
theorem dX12_init_1180 : decode cX12_init 1180 = .ok (.bipush 115, 2) := by decide +kernel
theorem dX12_init_1182 : decode cX12_init 1182 = .ok (.castore, 1) := by decide +kernel
theorem dX12_init_1183 : decode cX12_init 1183 = .ok (.dup, 1) := by decide +kernel
theorem dX12_init_1184 : decode cX12_init 1184 = .ok (.iconst 3, 1) := by decide +kernel
theorem dX12_init_1185 : decode cX12_init 1185 = .ok (.bipush 116, 2) := by decide +kernel
theorem dX12_init_1187 : decode cX12_init 1187 = .ok (.castore, 1) := by decide +kernel
theorem dX12_init_1188 : decode cX12_init 1188 = .ok (.putfield 189, 3) := by decide +kernel
theorem dX12_init_1191 : decode cX12_init 1191 = .ok (.aload_n 0, 1) := by decide +kernel
theorem dX12_init_1192 : decode cX12_init 1192 = .ok (.iconst 5, 1) := by decide +kernel
theorem dX12_init_1193 : decode cX12_init 1193 = .ok (.newarray .char, 2) := by decide +kernel
theorem dX12_init_1195 : decode cX12_init 1195 = .ok (.dup, 1) := by decide +kernel
theorem dX12_init_1196 : decode cX12_init 1196 = .ok (.iconst 0, 1) := by decide +kernel
theorem dX12_init_1197 : decode cX12_init 1197 = .ok (.bipush 108, 2) := by decide +kernel
theorem dX12_init_1199 : decode cX12_init 1199 = .ok (.castore, 1) := by decide +kernel
theorem dX12_init_1200 : decode cX12_init 1200 = .ok (.dup, 1) := by decide +kernel
theorem dX12_init_1201 : decode cX12_init 1201 = .ok (.iconst 1, 1) := by decide +kernel
theorem dX12_init_1202 : decode cX12_init 1202 = .ok (.bipush 101, 2) := by decide +kernel
theorem dX12_init_1204 : decode cX12_init 1204 = .ok (.castore, 1) := by decide +kernel
theorem dX12_init_1205 : decode cX12_init 1205 = .ok (.dup, 1) := by decide +kernel
theorem dX12_init_1206 : decode cX12_init 1206 = .ok (.iconst 2, 1) := by decide +kernel
theorem dX12_init_1207 : decode cX12_init 1207 = .ok (.bipush 97, 2) := by decide +kernel
theorem dX12_init_1209 : decode cX12_init 1209 = .ok (.castore, 1) := by decide +kernel
theorem dX12_init_1210 : decode cX12_init 1210 = .ok (.dup, 1) := by decide +kernel
theorem dX12_init_1211 : decode cX12_init 1211 = .ok (.iconst 3, 1) := by decide +kernel
theorem dX12_init_1212 : decode cX12_init 1212 = .ok (.bipush 115, 2) := by decide +kernel
theorem dX12_init_1214 : decode cX12_init 1214 = .ok (.castore, 1) := by decide +kernel
theorem dX12_init_1215 : decode cX12_init 1215 = .ok (.dup, 1) := by decide +kernel
theorem dX12_init_1216 : decode cX12_init 1216 = .ok (.iconst 4, 1) := by decide +kernel
theorem dX12_init_1217 : decode cX12_init 1217 = .ok (.bipush 116, 2) := by decide +kernel
theorem dX12_init_1219 : decode cX12_init 1219 = .ok (.castore, 1) := by decide +kernel
theorem dX12_init_1220 : decode cX12_init 1220 = .ok (.putfield 192, 3) := by decide +kernel
theorem dX12_init_1223 : decode cX12_init 1223 = .ok (.aload_n 0, 1) := by decide +kernel
theorem dX12_init_1224 : decode cX12_init 1224 = .ok (.iconst 3, 1) := by decide +kernel
theorem dX12_init_1225 : decode cX12_init 1225 = .ok (.newarray .char, 2) := by decide +kernel
theorem dX12_init_1227 : decode cX12_init 1227 = .ok (.dup, 1) := by decide +kernel
theorem dX12_init_1228 : decode cX12_init 1228 = .ok (.iconst 0, 1) := by decide +kernel
theorem dX12_init_1229 : decode cX12_init 1229 = .ok (.bipush 110, 2) := by decide +kernel
theorem dX12_init_1231 : decode cX12_init 1231 = .ok (.castore, 1) := by decide +kernel
theorem dX12_init_1232 : decode cX12_init 1232 = .ok (.dup, 1) := by decide +kernel
theorem dX12_init_1233 : decode cX12_init 1233 = .ok (.iconst 1, 1) := by decide +kernel
theorem dX12_init_1234 : decode cX12_init 1234 = .ok (.bipush 111, 2) := by decide +kernel
theorem dX12_init_1236 : decode cX12_init 1236 = .ok (.castore, 1) := by decide +kernel
theorem dX12_init_1237 : decode cX12_init 1237 = .ok (.dup, 1) := by decide +kernel
theorem dX12_init_1238 : decode cX12_init 1238 = .ok (.iconst 2, 1) := by decide +kernel
theorem dX12_init_1239 : decode cX12_init 1239 = .ok (.bipush 116, 2) := by decide +kernel
theorem dX12_init_1241 : decode cX12_init 1241 = .ok (.castore, 1) := by decide +kernel
theorem dX12_init_1242 : decode cX12_init 1242 = .ok (.putfield 195, 3) := by decide +kernel
theorem dX12_init_1245 : decode cX12_init 1245 = .ok (.aload_n 0, 1) := by decide +kernel
theorem dX12_init_1246 : decode cX12_init 1246 = .ok (.iconst 3, 1) := by decide +kernel
theorem dX12_init_1247 : decode cX12_init 1247 = .ok (.newarray .char, 2) := by decide +kernel
theorem dX12_init_1249 : decode cX12_init 1249 = .ok (.dup, 1) := by decide +kernel
theorem dX12_init_1250 : decode cX12_init 1250 = .ok (.iconst 0, 1) := by decide +kernel
theorem dX12_init_1251 : decode cX12_init 1251 = .ok (.bipush 97, 2) := by decide +kernel
theorem dX12_init_1253 : decode cX12_init 1253 = .ok (.castore, 1) := by decide +kernel
theorem dX12_init_1254 : decode cX12_init 1254 = .ok (.dup, 1) := by decide +kernel
theorem dX12_init_1255 : decode cX12_init 1255 = .ok (.iconst 1, 1) := by decide +kernel
theorem dX12_init_1256 : decode cX12_init 1256 = .ok (.bipush 110, 2) := by decide +kernel
theorem dX12_init_1258 : decode cX12_init 1258 = .ok (.castore, 1) := by decide +kernel
theorem dX12_init_1259 : decode cX12_init 1259 = .ok (.dup, 1) := by decide +kernel
theorem dX12_init_1260 : decode cX12_init 1260 = .ok (.iconst 2, 1) := by decide +kernel
theorem dX12_init_1261 : decode cX12_init 1261 = .ok (.bipush 100, 2) := by decide +kernel
theorem dX12_init_1263 : decode cX12_init 1263 = .ok (.castore, 1) := by decide +kernel
theorem dX12_init_1264 : decode cX12_init 1264 = .ok (.putfield 198, 3) := by decide +kernel
theorem dX12_init_1267 : decode cX12_init 1267 = .ok (.aload_n 0, 1) := by decide +kernel
theorem dX12_init_1268 : decode cX12_init 1268 = .ok (.iconst 2, 1) := by decide +kernel
theorem dX12_init_1269 : decode cX12_init 1269 = .ok (.newarray .char, 2) := by decide +kernel
theorem dX12_init_1271 : decode cX12_init 1271 = .ok (.dup, 1) := by decide +kernel
theorem dX12_init_1272 : decode cX12_init 1272 = .ok (.iconst 0, 1) := by decide +kernel
theorem dX12_init_1273 : decode cX12_init 1273 = .ok (.bipush 111, 2) := by decide +kernel
theorem dX12_init_1275 : decode cX12_init 1275 = .ok (.castore, 1) := by decide +kernel
theorem dX12_init_1276 : decode cX12_init 1276 = .ok (.dup, 1) := by decide +kernel
theorem dX12_init_1277 : decode cX12_init 1277 = .ok (.iconst 1, 1) := by decide +kernel
theorem dX12_init_1278 : decode cX12_init 1278 = .ok (.bipush 114, 2) := by decide +kernel
theorem dX12_init_1280 : decode cX12_init 1280 = .ok (.castore, 1) := by decide +kernel
theorem dX12_init_1281 : decode cX12_init 1281 = .ok (.putfield 201, 3) := by decide +kernel
theorem dX12_init_1284 : decode cX12_init 1284 = .ok (.aload_n 0, 1) := by decide +kernel
theorem dX12_init_1285 : decode cX12_init 1285 = .ok (.iconst 3, 1) := by decide +kernel
theorem dX12_init_1286 : decode cX12_init 1286 = .ok (.newarray .char, 2) := by decide +kernel
theorem dX12_init_1288 : decode cX12_init 1288 = .ok (.dup, 1) := by decide +kernel
theorem dX12_init_1289 : decode cX12_init 1289 = .ok (.iconst 0, 1) := by decide +kernel
theorem dX12_init_1290 : decode cX12_init 1290 = .ok (.bipush 97, 2) := by decide +kernel
theorem dX12_init_1292 : decode cX12_init 1292 = .ok (.castore, 1) := by decide +kernel
theorem dX12_init_1293 : decode cX12_init 1293 = .ok (.dup, 1) := by decide +kernel
theorem dX12_init_1294 : decode cX12_init 1294 = .ok (.iconst 1, 1) := by decide +kernel
theorem dX12_init_1295 : decode cX12_init 1295 = .ok (.bipush 108, 2) := by decide +kernel
theorem dX12_init_1297 : decode cX12_init 1297 = .ok (.castore, 1) := by decide +kernel
theorem dX12_init_1298 : decode cX12_init 1298 = .ok (.dup, 1) := by decide +kernel
theorem dX12_init_1299 : decode cX12_init 1299 = .ok (.iconst 2, 1) := by decide +kernel
theorem dX12_init_1300 : decode cX12_init 1300 = .ok (.bipush 108, 2) := by decide +kernel
theorem dX12_init_1302 : decode cX12_init 1302 = .ok (.castore, 1) := by decide +kernel
theorem dX12_init_1303 : decode cX12_init 1303 = .ok (.putfield 204, 3) := by decide +kernel
theorem dX12_init_1306 : decode cX12_init 1306 = .ok (.aload_n 0, 1) := by decide +kernel
theorem dX12_init_1307 : decode cX12_init 1307 = .ok (.iconst 3, 1) := by decide +kernel
theorem dX12_init_1308 : decode cX12_init 1308 = .ok (.newarray .char, 2) := by decide +kernel
theorem dX12_init_1310 : decode cX12_init 1310 = .ok (.dup, 1) := by decide +kernel
theorem dX12_init_1311 : decode cX12_init 1311 = .ok (.iconst 0, 1) := by decide +kernel
theorem dX12_init_1312 : decode cX12_init 1312 = .ok (.bipush 109, 2) := by decide +kernel
theorem dX12_init_1314 : decode cX12_init 1314 = .ok (.castore, 1) := by decide +kernel
theorem dX12_init_1315 : decode cX12_init 1315 = .ok (.dup, 1) := by decide +kernel
theorem dX12_init_1316 : decode cX12_init 1316 = .ok (.iconst 1, 1) := by decide +kernel
theorem dX12_init_1317 : decode cX12_init 1317 = .ok (.bipush 105, 2) := by decide +kernel
theorem dX12_init_1319 : decode cX12_init 1319 = .ok (.castore, 1) := by decide +kernel
theorem dX12_init_1320 : decode cX12_init 1320 = .ok (.dup, 1) := by decide +kernel
theorem dX12_init_1321 : decode cX12_init 1321 = .ok (.iconst 2, 1) := by decide +kernel
theorem dX12_init_1322 : decode cX12_init 1322 = .ok (.bipush 110, 2) := by decide +kernel
theorem dX12_init_1324 : decode cX12_init 1324 = .ok (.castore, 1) := by decide +kernel
theorem dX12_init_1325 : decode cX12_init 1325 = .ok (.putfield 207, 3) := by decide +kernel
theorem dX12_init_1328 : decode cX12_init 1328 = .ok (.aload_n 0, 1) := by decide +kernel
theorem dX12_init_1329 : decode cX12_init 1329 = .ok (.iconst 3, 1) := by decide +kernel
theorem dX12_init_1330 : decode cX12_init 1330 = .ok (.newarray .char, 2) := by decide +kernel
theorem dX12_init_1332 : decode cX12_init 1332 = .ok (.dup, 1) := by decide +kernel
theorem dX12_init_1333 : decode cX12_init 1333 = .ok (.iconst 0, 1) := by decide +kernel
theorem dX12_init_1334 : decode cX12_init 1334 = .ok (.bipush 109, 2) := by decide +kernel
theorem dX12_init_1336 : decode cX12_init 1336 = .ok (.castore, 1) := by decide +kernel
theorem dX12_init_1337 : decode cX12_init 1337 = .ok (.dup, 1) := by decide +kernel
theorem dX12_init_1338 : decode cX12_init 1338 = .ok (.iconst 1, 1) := by decide +kernel
theorem dX12_init_1339 : decode cX12_init 1339 = .ok (.bipush 97, 2) := by decide +kernel
theorem dX12_init_1341 : decode cX12_init 1341 = .ok (.castore, 1) := by decide +kernel
theorem dX12_init_1342 : decode cX12_init 1342 = .ok (.dup, 1) := by decide +kernel
theorem dX12_init_1343 : decode cX12_init 1343 = .ok (.iconst 2, 1) := by decide +kernel
theorem dX12_init_1344 : decode cX12_init 1344 = .ok (.bipush 120, 2) := by decide +kernel
theorem dX12_init_1346 : decode cX12_init 1346 = .ok (.castore, 1) := by decide +kernel
theorem dX12_init_1347 : decode cX12_init 1347 = .ok (.putfield 210, 3) := by decide +kernel
theorem dX12_init_1350 : decode cX12_init 1350 = .ok (.aload_n 0, 1) := by decide +kernel
theorem dX12_init_1351 : decode cX12_init 1351 = .ok (.iconst 5, 1) := by decide +kernel
theorem dX12_init_1352 : decode cX12_init 1352 = .ok (.newarray .char, 2) := by decide +kernel
theorem dX12_init_1354 : decode cX12_init 1354 = .ok (.dup, 1) := by decide +kernel
theorem dX12_init_1355 : decode cX12_init 1355 = .ok (.iconst 0, 1) := by decide +kernel
theorem dX12_init_1356 : decode cX12_init 1356 = .ok (.bipush 108, 2) := by decide +kernel
theorem dX12_init_1358 : decode cX12_init 1358 = .ok (.castore, 1) := by decide +kernel
theorem dX12_init_1359 : decode cX12_init 1359 = .ok (.dup, 1) := by decide +kernel
theorem dX12_init_1360 : decode cX12_init 1360 = .ok (.iconst 1, 1) := by decide +kernel
theorem dX12_init_1361 : decode cX12_init 1361 = .ok (.bipush 101, 2) := by decide +kernel
theorem dX12_init_1363 : decode cX12_init 1363 = .ok (.castore, 1) := by decide +kernel
theorem dX12_init_1364 : decode cX12_init 1364 = .ok (.dup, 1) := by decide +kernel
theorem dX12_init_1365 : decode cX12_init 1365 = .ok (.iconst 2, 1) := by decide +kernel
theorem dX12_init_1366 : decode cX12_init 1366 = .ok (.bipush 118, 2) := by decide +kernel
theorem dX12_init_1368 : decode cX12_init 1368 = .ok (.castore, 1) := by decide +kernel
theorem dX12_init_1369 : decode cX12_init 1369 = .ok (.dup, 1) := by decide +kernel
theorem dX12_init_1370 : decode cX12_init 1370 = .ok (.iconst 3, 1) := by decide +kernel
theorem dX12_init_1371 : decode cX12_init 1371 = .ok (.bipush 101, 2) := by decide +kernel
theorem dX12_init_1373 : decode cX12_init 1373 = .ok (.castore, 1) := by decide +kernel
theorem dX12_init_1374 : decode cX12_init 1374 = .ok (.dup, 1) := by decide +kernel
theorem dX12_init_1375 : decode cX12_init 1375 = .ok (.iconst 4, 1) := by decide +kernel
theorem dX12_init_1376 : decode cX12_init 1376 = .ok (.bipush 108, 2) := by decide +kernel
theorem dX12_init_1378 : decode cX12_init 1378 = .ok (.castore, 1) := by decide +kernel
theorem dX12_init_1379 : decode cX12_init 1379 = .ok (.putfield 213, 3) := by decide +kernel
theorem dX12_init_1382 : decode cX12_init 1382 = .ok (.aload_n 0, 1) := by decide +kernel
theorem dX12_init_1383 : decode cX12_init 1383 = .ok (.iconst 5, 1) := by decide +kernel
theorem dX12_init_1384 : decode cX12_init 1384 = .ok (.newarray .char, 2) := by decide +kernel
theorem dX12_init_1386 : decode cX12_init 1386 = .ok (.dup, 1) := by decide +kernel
theorem dX12_init_1387 : decode cX12_init 1387 = .ok (.iconst 0, 1) := by decide +kernel
theorem dX12_init_1388 : decode cX12_init 1388 = .ok (.bipush 98, 2) := by decide +kernel
theorem dX12_init_1390 : decode cX12_init 1390 = .ok (.castore, 1) := by decide +kernel
theorem dX12_init_1391 : decode cX12_init 1391 = .ok (.dup, 1) := by decide +kernel
theorem dX12_init_1392 : decode cX12_init 1392 = .ok (.iconst 1, 1) := by decide +kernel
theorem dX12_init_1393 : decode cX12_init 1393 = .ok (.bipush 108, 2) := by decide +kernel
theorem dX12_init_1395 : decode cX12_init 1395 = .ok (.castore, 1) := by decide +kernel
theorem dX12_init_1396 : decode cX12_init 1396 = .ok (.dup, 1) := by decide +kernel
theorem dX12_init_1397 : decode cX12_init 1397 = .ok (.iconst 2, 1) := by decide +kernel
theorem dX12_init_1398 : decode cX12_init 1398 = .ok (.bipush 111, 2) := by decide +kernel
theorem dX12_init_1400 : decode cX12_init 1400 = .ok (.castore, 1) := by decide +kernel
theorem dX12_init_1401 : decode cX12_init 1401 = .ok (.dup, 1) := by decide +kernel
theorem dX12_init_1402 : decode cX12_init 1402 = .ok (.iconst 3, 1) := by decide +kernel
theorem dX12_init_1403 : decode cX12_init 1403 = .ok (.bipush 99, 2) := by decide +kernel
theorem dX12_init_1405 : decode cX12_init 1405 = .ok (.castore, 1) := by decide +kernel
theorem dX12_init_1406 : decode cX12_init 1406 = .ok (.dup, 1) := by decide +kernel
theorem dX12_init_1407 : decode cX12_init 1407 = .ok (.iconst 4, 1) := by decide +kernel
theorem dX12_init_1408 : decode cX12_init 1408 = .ok (.bipush 107, 2) := by decide +kernel
theorem dX12_init_1410 : decode cX12_init 1410 = .ok (.castore, 1) := by decide +kernel
theorem dX12_init_1411 : decode cX12_init 1411 = .ok (.putfield 216, 3) := by decide +kernel
theorem dX12_init_1414 : decode cX12_init 1414 = .ok (.aload_n 0, 1) := by decide +kernel
theorem dX12_init_1415 : decode cX12_init 1415 = .ok (.iconst 4, 1) := by decide +kernel
theorem dX12_init_1416 : decode cX12_init 1416 = .ok (.newarray .char, 2) := by decide +kernel
theorem dX12_init_1418 : decode cX12_init 1418 = .ok (.dup, 1) := by decide +kernel
theorem dX12_init_1419 : decode cX12_init 1419 = .ok (.iconst 0, 1) := by decide +kernel
theorem dX12_init_1420 : decode cX12_init 1420 = .ok (.bipush 102, 2) := by decide +kernel
theorem dX12_init_1422 : decode cX12_init 1422 = .ok (.castore, 1) := by decide +kernel
theorem dX12_init_1423 : decode cX12_init 1423 = .ok (.dup, 1) := by decide +kernel
theorem dX12_init_1424 : decode cX12_init 1424 = .ok (.iconst 1, 1) := by decide +kernel
theorem dX12_init_1425 : decode cX12_init 1425 = .ok (.bipush 114, 2) := by decide +kernel
theorem dX12_init_1427 : decode cX12_init 1427 = .ok (.castore, 1) := by decide +kernel
theorem dX12_init_1428 : decode cX12_init 1428 = .ok (.dup, 1) := by decide +kernel
theorem dX12_init_1429 : decode cX12_init 1429 = .ok (.iconst 2, 1) := by decide +kernel
theorem dX12_init_1430 : decode cX12_init 1430 = .ok (.bipush 111, 2) := by decide +kernel
theorem dX12_init_1432 : decode cX12_init 1432 = .ok (.castore, 1) := by decide +kernel
theorem dX12_init_1433 : decode cX12_init 1433 = .ok (.dup, 1) := by decide +kernel
theorem dX12_init_1434 : decode cX12_init 1434 = .ok (.iconst 3, 1) := by decide +kernel
theorem dX12_init_1435 : decode cX12_init 1435 = .ok (.bipush 109, 2) := by decide +kernel
theorem dX12_init_1437 : decode cX12_init 1437 = .ok (.castore, 1) := by decide +kernel
theorem dX12_init_1438 : decode cX12_init 1438 = .ok (.putfield 219, 3) := by decide +kernel
theorem dX12_init_1441 : decode cX12_init 1441 = .ok (.aload_n 0, 1) := by decide +kernel
theorem dX12_init_1442 : decode cX12_init 1442 = .ok (.bipush 7, 2) := by decide +kernel
theorem dX12_init_1444 : decode cX12_init 1444 = .ok (.newarray .char, 2) := by decide +kernel
theorem dX12_init_1446 : decode cX12_init 1446 = .ok (.dup, 1) := by decide +kernel
theorem dX12_init_1447 : decode cX12_init 1447 = .ok (.iconst 0, 1) := by decide +kernel
theorem dX12_init_1448 : decode cX12_init 1448 = .ok (.bipush 101, 2) := by decide +kernel
theorem dX12_init_1450 : decode cX12_init 1450 = .ok (.castore, 1) := by decide +kernel
theorem dX12_init_1451 : decode cX12_init 1451 = .ok (.dup, 1) := by decide +kernel
theorem dX12_init_1452 : decode cX12_init 1452 = .ok (.iconst 1, 1) := by decide +kernel
theorem dX12_init_1453 : decode cX12_init 1453 = .ok (.bipush 110, 2) := by decide +kernel
theorem dX12_init_1455 : decode cX12_init 1455 = .ok (.castore, 1) := by decide +kernel
theorem dX12_init_1456 : decode cX12_init 1456 = .ok (.dup, 1) := by decide +kernel
theorem dX12_init_1457 : decode cX12_init 1457 = .ok (.iconst 2, 1) := by decide +kernel
theorem dX12_init_1458 : decode cX12_init 1458 = .ok (.bipush 116, 2) := by decide +kernel
theorem dX12_init_1460 : decode cX12_init 1460 = .ok (.castore, 1) := by decide +kernel
theorem dX12_init_1461 : decode cX12_init 1461 = .ok (.dup, 1) := by decide +kernel
theorem dX12_init_1462 : decode cX12_init 1462 = .ok (.iconst 3, 1) := by decide +kernel
theorem dX12_init_1463 : decode cX12_init 1463 = .ok (.bipush 114, 2) := by decide +kernel
theorem dX12_init_1465 : decode cX12_init 1465 = .ok (.castore, 1) := by decide +kernel
theorem dX12_init_1466 : decode cX12_init 1466 = .ok (.dup, 1) := by decide +kernel
theorem dX12_init_1467 : decode cX12_init 1467 = .ok (.iconst 4, 1) := by decide +kernel
theorem dX12_init_1468 : decode cX12_init 1468 = .ok (.bipush 105, 2) := by decide +kernel
theorem dX12_init_1470 : decode cX12_init 1470 = .ok (.castore, 1) := by decide +kernel
theorem dX12_init_1471 : decode cX12_init 1471 = .ok (.dup, 1) := by decide +kernel
theorem dX12_init_1472 : decode cX12_init 1472 = .ok (.iconst 5, 1) := by decide +kernel
theorem dX12_init_1473 : decode cX12_init 1473 = .ok (.bipush 101, 2) := by decide +kernel
theorem dX12_init_1475 : decode cX12_init 1475 = .ok (.castore, 1) := by decide +kernel
theorem dX12_init_1476 : decode cX12_init 1476 = .ok (.dup, 1) := by decide +kernel
theorem dX12_init_1477 : decode cX12_init 1477 = .ok (.bipush 6, 2) := by decide +kernel
theorem dX12_init_1479 : decode cX12_init 1479 = .ok (.bipush 115, 2) := by decide +kernel
theorem dX12_init_1481 : decode cX12_init 1481 = .ok (.castore, 1) := by decide +kernel
theorem dX12_init_1482 : decode cX12_init 1482 = .ok (.putfield 222, 3) := by decide +kernel
theorem dX12_init_1485 : decode cX12_init 1485 = .ok (.aload_n 0, 1) := by decide +kernel
theorem dX12_init_1486 : decode cX12_init 1486 = .ok (.bipush 6, 2) := by decide +kernel
theorem dX12_init_1488 : decode cX12_init 1488 = .ok (.newarray .char, 2) := by decide +kernel
theorem dX12_init_1490 : decode cX12_init 1490 = .ok (.dup, 1) := by decide +kernel
theorem dX12_init_1491 : decode cX12_init 1491 = .ok (.iconst 0, 1) := by decide +kernel
theorem dX12_init_1492 : decode cX12_init 1492 = .ok (.bipush 110, 2) := by decide +kernel
theorem dX12_init_1494 : decode cX12_init 1494 = .ok (.castore, 1) := by decide +kernel
theorem dX12_init_1495 : decode cX12_init 1495 = .ok (.dup, 1) := by decide +kernel
theorem dX12_init_1496 : decode cX12_init 1496 = .ok (.iconst 1, 1) := by decide +kernel
theorem dX12_init_1497 : decode cX12_init 1497 = .ok (.bipush 117, 2) := by decide +kernel
theorem dX12_init_1499 : decode cX12_init 1499 = .ok (.castore, 1) := by decide +kernel
theorem dX12_init_1500 : decode cX12_init 1500 = .ok (.dup, 1) := by decide +kernel
theorem dX12_init_1501 : decode cX12_init 1501 = .ok (.iconst 2, 1) := by decide +kernel
theorem dX12_init_1502 : decode cX12_init 1502 = .ok (.bipush 109, 2) := by decide +kernel
theorem dX12_init_1504 : decode cX12_init 1504 = .ok (.castore, 1) := by decide +kernel
theorem dX12_init_1505 : decode cX12_init 1505 = .ok (.dup, 1) := by decide +kernel
theorem dX12_init_1506 : decode cX12_init 1506 = .ok (.iconst 3, 1) := by decide +kernel
theorem dX12_init_1507 : decode cX12_init 1507 = .ok (.bipush 98, 2) := by decide +kernel
theorem dX12_init_1509 : decode cX12_init 1509 = .ok (.castore, 1) := by decide +kernel
theorem dX12_init_1510 : decode cX12_init 1510 = .ok (.dup, 1) := by decide +kernel
theorem dX12_init_1511 : decode cX12_init 1511 = .ok (.iconst 4, 1) := by decide +kernel
theorem dX12_init_1512 : decode cX12_init 1512 = .ok (.bipush 101, 2) := by decide +kernel
theorem dX12_init_1514 : decode cX12_init 1514 = .ok (.castore, 1) := by decide +kernel
theorem dX12_init_1515 : decode cX12_init 1515 = .ok (.dup, 1) := by decide +kernel
theorem dX12_init_1516 : decode cX12_init 1516 = .ok (.iconst 5, 1) := by decide +kernel
theorem dX12_init_1517 : decode cX12_init 1517 = .ok (.bipush 114, 2) := by decide +kernel
theorem dX12_init_1519 : decode cX12_init 1519 = .ok (.castore, 1) := by decide +kernel
theorem dX12_init_1520 : decode cX12_init 1520 = .ok (.putfield 225, 3) := by decide +kernel
theorem dX12_init_1523 : decode cX12_init 1523 = .ok (.aload_n 0, 1) := by decide +kernel
theorem dX12_init_1524 : decode cX12_init 1524 = .ok (.iconst 5, 1) := by decide +kernel
theorem dX12_init_1525 : decode cX12_init 1525 = .ok (.newarray .char, 2) := by decide +kernel
theorem dX12_init_1527 : decode cX12_init 1527 = .ok (.dup, 1) := by decide +kernel
theorem dX12_init_1528 : decode cX12_init 1528 = .ok (.iconst 0, 1) := by decide +kernel
theorem dX12_init_1529 : decode cX12_init 1529 = .ok (.bipush 99, 2) := by decide +kernel
theorem dX12_init_1531 : decode cX12_init 1531 = .ok (.castore, 1) := by decide +kernel
theorem dX12_init_1532 : decode cX12_init 1532 = .ok (.dup, 1) := by decide +kernel
theorem dX12_init_1533 : decode cX12_init 1533 = .ok (.iconst 1, 1) := by decide +kernel
theorem dX12_init_1534 : decode cX12_init 1534 = .ok (.bipush 111, 2) := by decide +kernel
theorem dX12_init_1536 : decode cX12_init 1536 = .ok (.castore, 1) := by decide +kernel
theorem dX12_init_1537 : decode cX12_init 1537 = .ok (.dup, 1) := by decide +kernel
theorem dX12_init_1538 : decode cX12_init 1538 = .ok (.iconst 2, 1) := by decide +kernel
theorem dX12_init_1539 : decode cX12_init 1539 = .ok (.bipush 117, 2) := by decide +kernel
theorem dX12_init_1541 : decode cX12_init 1541 = .ok (.castore, 1) := by decide +kernel
theorem dX12_init_1542 : decode cX12_init 1542 = .ok (.dup, 1) := by decide +kernel
theorem dX12_init_1543 : decode cX12_init 1543 = .ok (.iconst 3, 1) := by decide +kernel
theorem dX12_init_1544 : decode cX12_init 1544 = .ok (.bipush 110, 2) := by decide +kernel
theorem dX12_init_1546 : decode cX12_init 1546 = .ok (.castore, 1) := by decide +kernel
theorem dX12_init_1547 : decode cX12_init 1547 = .ok (.dup, 1) := by decide +kernel
theorem dX12_init_1548 : decode cX12_init 1548 = .ok (.iconst 4, 1) := by decide +kernel
theorem dX12_init_1549 : decode cX12_init 1549 = .ok (.bipush 116, 2) := by decide +kernel
theorem dX12_init_1551 : decode cX12_init 1551 = .ok (.castore, 1) := by decide +kernel
theorem dX12_init_1552 : decode cX12_init 1552 = .ok (.putfield 228, 3) := by decide +kernel
theorem dX12_init_1555 : decode cX12_init 1555 = .ok (.aload_n 0, 1) := by decide +kernel
theorem dX12_init_1556 : decode cX12_init 1556 = .ok (.iconst 5, 1) := by decide +kernel
theorem dX12_init_1557 : decode cX12_init 1557 = .ok (.newarray .char, 2) := by decide +kernel
theorem dX12_init_1559 : decode cX12_init 1559 = .ok (.dup, 1) := by decide +kernel
theorem dX12_init_1560 : decode cX12_init 1560 = .ok (.iconst 0, 1) := by decide +kernel
theorem dX12_init_1561 : decode cX12_init 1561 = .ok (.bipush 102, 2) := by decide +kernel
theorem dX12_init_1563 : decode cX12_init 1563 = .ok (.castore, 1) := by decide +kernel
theorem dX12_init_1564 : decode cX12_init 1564 = .ok (.dup, 1) := by decide +kernel
theorem dX12_init_1565 : decode cX12_init 1565 = .ok (.iconst 1, 1) := by decide +kernel
theorem dX12_init_1566 : decode cX12_init 1566 = .ok (.bipush 114, 2) := by decide +kernel
theorem dX12_init_1568 : decode cX12_init 1568 = .ok (.castore, 1) := by decide +kernel
theorem dX12_init_1569 : decode cX12_init 1569 = .ok (.dup, 1) := by decide +kernel
theorem dX12_init_1570 : decode cX12_init 1570 = .ok (.iconst 2, 1) := by decide +kernel
theorem dX12_init_1571 : decode cX12_init 1571 = .ok (.bipush 101, 2) := by decide +kernel
theorem dX12_init_1573 : decode cX12_init 1573 = .ok (.castore, 1) := by decide +kernel
theorem dX12_init_1574 : decode cX12_init 1574 = .ok (.dup, 1) := by decide +kernel
theorem dX12_init_1575 : decode cX12_init 1575 = .ok (.iconst 3, 1) := by decide +kernel
theorem dX12_init_1576 : decode cX12_init 1576 = .ok (.bipush 115, 2) := by decide +kernel
theorem dX12_init_1578 : decode cX12_init 1578 = .ok (.castore, 1) := by decide +kernel
theorem dX12_init_1579 : decode cX12_init 1579 = .ok (.dup, 1) := by decide +kernel
theorem dX12_init_1580 : decode cX12_init 1580 = .ok (.iconst 4, 1) := by decide +kernel
theorem dX12_init_1581 : decode cX12_init 1581 = .ok (.bipush 104, 2) := by decide +kernel
theorem dX12_init_1583 : decode cX12_init 1583 = .ok (.castore, 1) := by decide +kernel
theorem dX12_init_1584 : decode cX12_init 1584 = .ok (.putfield 231, 3) := by decide +kernel
theorem dX12_init_1587 : decode cX12_init 1587 = .ok (.aload_n 0, 1) := by decide +kernel
theorem dX12_init_1588 : decode cX12_init 1588 = .ok (.iconst 5, 1) := by decide +kernel
theorem dX12_init_1589 : decode cX12_init 1589 = .ok (.newarray .char, 2) := by decide +kernel
theorem dX12_init_1591 : decode cX12_init 1591 = .ok (.dup, 1) := by decide +kernel
theorem dX12_init_1592 : decode cX12_init 1592 = .ok (.iconst 0, 1) := by decide +kernel
theorem dX12_init_1593 : decode cX12_init 1593 = .ok (.bipush 115, 2) := by decide +kernel
theorem dX12_init_1595 : decode cX12_init 1595 = .ok (.castore, 1) := by decide +kernel
theorem dX12_init_1596 : decode cX12_init 1596 = .ok (.dup, 1) := by decide +kernel
theorem dX12_init_1597 : decode cX12_init 1597 = .ok (.iconst 1, 1) := by decide +kernel
theorem dX12_init_1598 : decode cX12_init 1598 = .ok (.bipush 97, 2) := by decide +kernel
theorem dX12_init_1600 : decode cX12_init 1600 = .ok (.castore, 1) := by decide +kernel
theorem dX12_init_1601 : decode cX12_init 1601 = .ok (.dup, 1) := by decide +kernel
theorem dX12_init_1602 : decode cX12_init 1602 = .ok (.iconst 2, 1) := by decide +kernel
theorem dX12_init_1603 : decode cX12_init 1603 = .ok (.bipush 118, 2) := by decide +kernel
theorem dX12_init_1605 : decode cX12_init 1605 = .ok (.castore, 1) := by decide +kernel
theorem dX12_init_1606 : decode cX12_init 1606 = .ok (.dup, 1) := by decide +kernel
theorem dX12_init_1607 : decode cX12_init 1607 = .ok (.iconst 3, 1) := by decide +kernel
theorem dX12_init_1608 : decode cX12_init 1608 = .ok (.bipush 101, 2) := by decide +kernel
theorem dX12_init_1610 : decode cX12_init 1610 = .ok (.castore, 1) := by decide +kernel
theorem dX12_init_1611 : decode cX12_init 1611 = .ok (.dup, 1) := by decide +kernel
theorem dX12_init_1612 : decode cX12_init 1612 = .ok (.iconst 4, 1) := by decide +kernel
theorem dX12_init_1613 : decode cX12_init 1613 = .ok (.bipush 100, 2) := by decide +kernel
theorem dX12_init_1615 : decode cX12_init 1615 = .ok (.castore, 1) := by decide +kernel
theorem dX12_init_1616 : decode cX12_init 1616 = .ok (.putfield 234, 3) := by decide +kernel
set_option maxHeartbeats 4000000 in
set_option maxRecDepth 100000 in
theorem cM_15 {p : Program} {l : Launch} {e : Env} {R : Room} {s : State} {m : MethodId} {args : Array Value} {below : List Frame} {meth : Method} {c : Code} {Q : State → Prop} {D : va_G} {A : Nat → Prop} {ls : Array Slot} {h0 : Nat} {T : va_W} (hx : p.tables.exec = Jvm.exec) (hb : c.code = cX12_init) (ht : ∀ w ∈ lw_gd, w.before args s = true) (hown : s.vm.findClass RX12 = some m.cls) (hin : meth.name = "<init>") (hK : va_K D vwCl (TY D) s) (hA : ∀ q : Nat, s.heap.size ≤ q → A q) (hRc : 80 ≤ R.cells) (hRs : 35050 ≤ R.slots) (hl : lv_has ls 1 [(0, .ref h0)]) {fs : List Value} (hlen : fs.length = 116) {H : Heap} {locs : List Loc} (hP : va_P D vwCl ((h0, .inr (12, fs)) :: T) H) (hD : va_D A ((h0, .inr (12, fs)) :: T)) (hS : va_S A s.heap H locs)
    (kk : ∀ (q_119 : Nat) (q_117 : Nat) (q_115 : Nat) (fs' : List Value) (H : Heap) (locs : List Loc), fs' = (((fs.set 83 (.ref q_115)).set 84 (.ref q_117)).set 85 (.ref q_119)) → va_P D vwCl ((h0, .inr (12, fs')) :: (q_119, .inl (D.1 14, 3, .inl (upd (upd (upd (fun _ => 0) 0 110) 1 111) 2 116))) :: (q_117, .inl (D.1 14, 5, .inl (upd (upd (upd (upd (upd (fun _ => 0) 0 108) 1 101) 2 97) 3 115) 4 116))) :: (q_115, .inl (D.1 14, 4, .inl (upd (upd (upd (upd (fun _ => 0) 0 109) 1 111) 2 115) 3 116))) :: T) H → va_D A ((h0, .inr (12, fs')) :: (q_119, .inl (D.1 14, 3, .inl (upd (upd (upd (fun _ => 0) 0 110) 1 111) 2 116))) :: (q_117, .inl (D.1 14, 5, .inl (upd (upd (upd (upd (upd (fun _ => 0) 0 108) 1 101) 2 97) 3 115) 4 116))) :: (q_115, .inl (D.1 14, 4, .inl (upd (upd (upd (upd (fun _ => 0) 0 109) 1 111) 2 115) 3 116))) :: T) → va_S A s.heap H locs → W p l e R s m args below meth c H locs 59 27690 Q (F0 m 1245 ls [])) : W p l e R s m args below meth c H locs 56 27678 Q (F0 m 1164 ls []) := by
  refine lv_aload_n hx hb dX12_init_1164 rfl (lv_at hl 0 rfl) ?_
  refine lv_iconst (v := 4) hx hb dX12_init_1165 (by decide) ?_
  refine va_newa (atype := .char) (a0 := (4, .inl (fun _ => 0))) (ty := .char) (N' := 4) hx hb (ht _ ac_char) rfl hK hP hD hS hA (fun _ => rfl) (by decide) (by decide) (by decide) (Nat.le_trans (Nat.le_of_ble_eq_true rfl) hRc) (Nat.le_trans (Nat.le_of_ble_eq_true rfl) hRs) dX12_init_1166 (fun q_115 cA H hK2 hP hD hS => ?_)
  obtain rfl := z_cls_char hK hK2
  refine W.widen (k := 57) (n := 27682) (Nat.le_of_ble_eq_true rfl) (Nat.le_of_ble_eq_true rfl) ?_
  obtain ⟨hP, hD⟩ := z_rot hP hD
  have hP : va_P D vwCl ((h0, .inr (12, fs)) :: (q_115, .inl (D.1 14, 4, .inl (fun _ => 0))) :: T) H := hP
  have hD : va_D A ((h0, .inr (12, fs)) :: (q_115, .inl (D.1 14, 4, .inl (fun _ => 0))) :: T) := hD
  refine lv_dup hx hb dX12_init_1168 rfl ?_
  refine lv_iconst (v := 0) hx hb dX12_init_1169 (by decide) ?_
  refine lv_bipush (v := 109) hx hb dX12_init_1170 (by decide) ?_
  refine va_cast hx hb hK hP hD hS 1 1 rfl rfl (z_in (by decide) (by decide)) dX12_init_1172 (fun H locs hP hD hS => ?_)
  have hP : va_P D vwCl ((h0, .inr (12, fs)) :: (q_115, .inl (D.1 14, 4, .inl (upd (fun _ => 0) 0 109))) :: T) H := hP
  have hD : va_D A ((h0, .inr (12, fs)) :: (q_115, .inl (D.1 14, 4, .inl (upd (fun _ => 0) 0 109))) :: T) := hD
  refine lv_dup hx hb dX12_init_1173 rfl ?_
  refine lv_iconst (v := 1) hx hb dX12_init_1174 (by decide) ?_
  refine lv_bipush (v := 111) hx hb dX12_init_1175 (by decide) ?_
  refine va_cast hx hb hK hP hD hS 1 1 rfl rfl (z_in (by decide) (by decide)) dX12_init_1177 (fun H locs hP hD hS => ?_)
  have hP : va_P D vwCl ((h0, .inr (12, fs)) :: (q_115, .inl (D.1 14, 4, .inl (upd (upd (fun _ => 0) 0 109) 1 111))) :: T) H := hP
  have hD : va_D A ((h0, .inr (12, fs)) :: (q_115, .inl (D.1 14, 4, .inl (upd (upd (fun _ => 0) 0 109) 1 111))) :: T) := hD
  refine lv_dup hx hb dX12_init_1178 rfl ?_
  refine lv_iconst (v := 2) hx hb dX12_init_1179 (by decide) ?_
  refine lv_bipush (v := 115) hx hb dX12_init_1180 (by decide) ?_
  refine va_cast hx hb hK hP hD hS 1 1 rfl rfl (z_in (by decide) (by decide)) dX12_init_1182 (fun H locs hP hD hS => ?_)
  have hP : va_P D vwCl ((h0, .inr (12, fs)) :: (q_115, .inl (D.1 14, 4, .inl (upd (upd (upd (fun _ => 0) 0 109) 1 111) 2 115))) :: T) H := hP
  have hD : va_D A ((h0, .inr (12, fs)) :: (q_115, .inl (D.1 14, 4, .inl (upd (upd (upd (fun _ => 0) 0 109) 1 111) 2 115))) :: T) := hD
  refine lv_dup hx hb dX12_init_1183 rfl ?_
  refine lv_iconst (v := 3) hx hb dX12_init_1184 (by decide) ?_
  refine lv_bipush (v := 116) hx hb dX12_init_1185 (by decide) ?_
  refine va_cast hx hb hK hP hD hS 1 1 rfl rfl (z_in (by decide) (by decide)) dX12_init_1187 (fun H locs hP hD hS => ?_)
  have hP : va_P D vwCl ((h0, .inr (12, fs)) :: (q_115, .inl (D.1 14, 4, .inl (upd (upd (upd (upd (fun _ => 0) 0 109) 1 111) 2 115) 3 116))) :: T) H := hP
  have hD : va_D A ((h0, .inr (12, fs)) :: (q_115, .inl (D.1 14, 4, .inl (upd (upd (upd (upd (fun _ => 0) 0 109) 1 111) 2 115) 3 116))) :: T) := hD
  refine va_putF (D := D) (ci := 12) (v := .ref q_115) (ty := .array .char) (C := RX12) (T := TX12) (N := 116) hx hb ht inX12 tyX12 tyX12_ok nmX12 hown hK hP hD hS 0 rfl rfl 83 (by decide) (ht (.fieldLink RX12 189 "CloneVolumesModel" "mostAsked" "[C") fl_X12_189) (fun _ h9 => h9) rfl hin rfl (by decide +kernel) rfl rfl (by rw [hlen]; decide) dX12_init_1188 (fun H locs hP hD hS => ?_)
  have hP : va_P D vwCl ((h0, .inr (12, (fs.set 83 (.ref q_115)))) :: (q_115, .inl (D.1 14, 4, .inl (upd (upd (upd (upd (fun _ => 0) 0 109) 1 111) 2 115) 3 116))) :: T) H := hP
  have hD : va_D A ((h0, .inr (12, (fs.set 83 (.ref q_115)))) :: (q_115, .inl (D.1 14, 4, .inl (upd (upd (upd (upd (fun _ => 0) 0 109) 1 111) 2 115) 3 116))) :: T) := hD
  generalize hfs_116 : fs.set 83 (.ref q_115) = fs_116 at hP hD
  have hlen : fs_116.length = 116 := by rw [← hfs_116, List.length_set]; exact hlen
  have hP : va_P D vwCl ((h0, .inr (12, fs_116)) :: (q_115, .inl (D.1 14, 4, .inl (upd (upd (upd (upd (fun _ => 0) 0 109) 1 111) 2 115) 3 116))) :: T) H := hP
  have hD : va_D A ((h0, .inr (12, fs_116)) :: (q_115, .inl (D.1 14, 4, .inl (upd (upd (upd (upd (fun _ => 0) 0 109) 1 111) 2 115) 3 116))) :: T) := hD
  refine lv_aload_n hx hb dX12_init_1191 rfl (lv_at hl 0 rfl) ?_
  refine lv_iconst (v := 5) hx hb dX12_init_1192 (by decide) ?_
  refine va_newa (atype := .char) (a0 := (5, .inl (fun _ => 0))) (ty := .char) (N' := 5) hx hb (ht _ ac_char) rfl hK hP hD hS hA (fun _ => rfl) (by decide) (by decide) (by decide) (Nat.le_trans (Nat.le_of_ble_eq_true rfl) hRc) (Nat.le_trans (Nat.le_of_ble_eq_true rfl) hRs) dX12_init_1193 (fun q_117 cA H hK2 hP hD hS => ?_)
  obtain rfl := z_cls_char hK hK2
  refine W.widen (k := 58) (n := 27687) (Nat.le_of_ble_eq_true rfl) (Nat.le_of_ble_eq_true rfl) ?_
  obtain ⟨hP, hD⟩ := z_rot hP hD
  have hP : va_P D vwCl ((h0, .inr (12, fs_116)) :: (q_117, .inl (D.1 14, 5, .inl (fun _ => 0))) :: (q_115, .inl (D.1 14, 4, .inl (upd (upd (upd (upd (fun _ => 0) 0 109) 1 111) 2 115) 3 116))) :: T) H := hP
  have hD : va_D A ((h0, .inr (12, fs_116)) :: (q_117, .inl (D.1 14, 5, .inl (fun _ => 0))) :: (q_115, .inl (D.1 14, 4, .inl (upd (upd (upd (upd (fun _ => 0) 0 109) 1 111) 2 115) 3 116))) :: T) := hD
  refine lv_dup hx hb dX12_init_1195 rfl ?_
  refine lv_iconst (v := 0) hx hb dX12_init_1196 (by decide) ?_
  refine lv_bipush (v := 108) hx hb dX12_init_1197 (by decide) ?_
  refine va_cast hx hb hK hP hD hS 1 1 rfl rfl (z_in (by decide) (by decide)) dX12_init_1199 (fun H locs hP hD hS => ?_)
  have hP : va_P D vwCl ((h0, .inr (12, fs_116)) :: (q_117, .inl (D.1 14, 5, .inl (upd (fun _ => 0) 0 108))) :: (q_115, .inl (D.1 14, 4, .inl (upd (upd (upd (upd (fun _ => 0) 0 109) 1 111) 2 115) 3 116))) :: T) H := hP
  have hD : va_D A ((h0, .inr (12, fs_116)) :: (q_117, .inl (D.1 14, 5, .inl (upd (fun _ => 0) 0 108))) :: (q_115, .inl (D.1 14, 4, .inl (upd (upd (upd (upd (fun _ => 0) 0 109) 1 111) 2 115) 3 116))) :: T) := hD
  refine lv_dup hx hb dX12_init_1200 rfl ?_
  refine lv_iconst (v := 1) hx hb dX12_init_1201 (by decide) ?_
  refine lv_bipush (v := 101) hx hb dX12_init_1202 (by decide) ?_
  refine va_cast hx hb hK hP hD hS 1 1 rfl rfl (z_in (by decide) (by decide)) dX12_init_1204 (fun H locs hP hD hS => ?_)
  have hP : va_P D vwCl ((h0, .inr (12, fs_116)) :: (q_117, .inl (D.1 14, 5, .inl (upd (upd (fun _ => 0) 0 108) 1 101))) :: (q_115, .inl (D.1 14, 4, .inl (upd (upd (upd (upd (fun _ => 0) 0 109) 1 111) 2 115) 3 116))) :: T) H := hP
  have hD : va_D A ((h0, .inr (12, fs_116)) :: (q_117, .inl (D.1 14, 5, .inl (upd (upd (fun _ => 0) 0 108) 1 101))) :: (q_115, .inl (D.1 14, 4, .inl (upd (upd (upd (upd (fun _ => 0) 0 109) 1 111) 2 115) 3 116))) :: T) := hD
  refine lv_dup hx hb dX12_init_1205 rfl ?_
  refine lv_iconst (v := 2) hx hb dX12_init_1206 (by decide) ?_
  refine lv_bipush (v := 97) hx hb dX12_init_1207 (by decide) ?_
  refine va_cast hx hb hK hP hD hS 1 1 rfl rfl (z_in (by decide) (by decide)) dX12_init_1209 (fun H locs hP hD hS => ?_)
  have hP : va_P D vwCl ((h0, .inr (12, fs_116)) :: (q_117, .inl (D.1 14, 5, .inl (upd (upd (upd (fun _ => 0) 0 108) 1 101) 2 97))) :: (q_115, .inl (D.1 14, 4, .inl (upd (upd (upd (upd (fun _ => 0) 0 109) 1 111) 2 115) 3 116))) :: T) H := hP
  have hD : va_D A ((h0, .inr (12, fs_116)) :: (q_117, .inl (D.1 14, 5, .inl (upd (upd (upd (fun _ => 0) 0 108) 1 101) 2 97))) :: (q_115, .inl (D.1 14, 4, .inl (upd (upd (upd (upd (fun _ => 0) 0 109) 1 111) 2 115) 3 116))) :: T) := hD
  refine lv_dup hx hb dX12_init_1210 rfl ?_
  refine lv_iconst (v := 3) hx hb dX12_init_1211 (by decide) ?_
  refine lv_bipush (v := 115) hx hb dX12_init_1212 (by decide) ?_
  refine va_cast hx hb hK hP hD hS 1 1 rfl rfl (z_in (by decide) (by decide)) dX12_init_1214 (fun H locs hP hD hS => ?_)
  have hP : va_P D vwCl ((h0, .inr (12, fs_116)) :: (q_117, .inl (D.1 14, 5, .inl (upd (upd (upd (upd (fun _ => 0) 0 108) 1 101) 2 97) 3 115))) :: (q_115, .inl (D.1 14, 4, .inl (upd (upd (upd (upd (fun _ => 0) 0 109) 1 111) 2 115) 3 116))) :: T) H := hP
  have hD : va_D A ((h0, .inr (12, fs_116)) :: (q_117, .inl (D.1 14, 5, .inl (upd (upd (upd (upd (fun _ => 0) 0 108) 1 101) 2 97) 3 115))) :: (q_115, .inl (D.1 14, 4, .inl (upd (upd (upd (upd (fun _ => 0) 0 109) 1 111) 2 115) 3 116))) :: T) := hD
  refine lv_dup hx hb dX12_init_1215 rfl ?_
  refine lv_iconst (v := 4) hx hb dX12_init_1216 (by decide) ?_
  refine lv_bipush (v := 116) hx hb dX12_init_1217 (by decide) ?_
  refine va_cast hx hb hK hP hD hS 1 1 rfl rfl (z_in (by decide) (by decide)) dX12_init_1219 (fun H locs hP hD hS => ?_)
  have hP : va_P D vwCl ((h0, .inr (12, fs_116)) :: (q_117, .inl (D.1 14, 5, .inl (upd (upd (upd (upd (upd (fun _ => 0) 0 108) 1 101) 2 97) 3 115) 4 116))) :: (q_115, .inl (D.1 14, 4, .inl (upd (upd (upd (upd (fun _ => 0) 0 109) 1 111) 2 115) 3 116))) :: T) H := hP
  have hD : va_D A ((h0, .inr (12, fs_116)) :: (q_117, .inl (D.1 14, 5, .inl (upd (upd (upd (upd (upd (fun _ => 0) 0 108) 1 101) 2 97) 3 115) 4 116))) :: (q_115, .inl (D.1 14, 4, .inl (upd (upd (upd (upd (fun _ => 0) 0 109) 1 111) 2 115) 3 116))) :: T) := hD
  refine va_putF (D := D) (ci := 12) (v := .ref q_117) (ty := .array .char) (C := RX12) (T := TX12) (N := 116) hx hb ht inX12 tyX12 tyX12_ok nmX12 hown hK hP hD hS 0 rfl rfl 84 (by decide) (ht (.fieldLink RX12 192 "CloneVolumesModel" "leastAsked" "[C") fl_X12_192) (fun _ h9 => h9) rfl hin rfl (by decide +kernel) rfl rfl (by rw [hlen]; decide) dX12_init_1220 (fun H locs hP hD hS => ?_)
  have hP : va_P D vwCl ((h0, .inr (12, (fs_116.set 84 (.ref q_117)))) :: (q_117, .inl (D.1 14, 5, .inl (upd (upd (upd (upd (upd (fun _ => 0) 0 108) 1 101) 2 97) 3 115) 4 116))) :: (q_115, .inl (D.1 14, 4, .inl (upd (upd (upd (upd (fun _ => 0) 0 109) 1 111) 2 115) 3 116))) :: T) H := hP
  have hD : va_D A ((h0, .inr (12, (fs_116.set 84 (.ref q_117)))) :: (q_117, .inl (D.1 14, 5, .inl (upd (upd (upd (upd (upd (fun _ => 0) 0 108) 1 101) 2 97) 3 115) 4 116))) :: (q_115, .inl (D.1 14, 4, .inl (upd (upd (upd (upd (fun _ => 0) 0 109) 1 111) 2 115) 3 116))) :: T) := hD
  generalize hfs_118 : fs_116.set 84 (.ref q_117) = fs_118 at hP hD
  have hlen : fs_118.length = 116 := by rw [← hfs_118, List.length_set]; exact hlen
  have hP : va_P D vwCl ((h0, .inr (12, fs_118)) :: (q_117, .inl (D.1 14, 5, .inl (upd (upd (upd (upd (upd (fun _ => 0) 0 108) 1 101) 2 97) 3 115) 4 116))) :: (q_115, .inl (D.1 14, 4, .inl (upd (upd (upd (upd (fun _ => 0) 0 109) 1 111) 2 115) 3 116))) :: T) H := hP
  have hD : va_D A ((h0, .inr (12, fs_118)) :: (q_117, .inl (D.1 14, 5, .inl (upd (upd (upd (upd (upd (fun _ => 0) 0 108) 1 101) 2 97) 3 115) 4 116))) :: (q_115, .inl (D.1 14, 4, .inl (upd (upd (upd (upd (fun _ => 0) 0 109) 1 111) 2 115) 3 116))) :: T) := hD
  refine lv_aload_n hx hb dX12_init_1223 rfl (lv_at hl 0 rfl) ?_
  refine lv_iconst (v := 3) hx hb dX12_init_1224 (by decide) ?_
  refine va_newa (atype := .char) (a0 := (3, .inl (fun _ => 0))) (ty := .char) (N' := 3) hx hb (ht _ ac_char) rfl hK hP hD hS hA (fun _ => rfl) (by decide) (by decide) (by decide) (Nat.le_trans (Nat.le_of_ble_eq_true rfl) hRc) (Nat.le_trans (Nat.le_of_ble_eq_true rfl) hRs) dX12_init_1225 (fun q_119 cA H hK2 hP hD hS => ?_)
  obtain rfl := z_cls_char hK hK2
  refine W.widen (k := 59) (n := 27690) (Nat.le_of_ble_eq_true rfl) (Nat.le_of_ble_eq_true rfl) ?_
  obtain ⟨hP, hD⟩ := z_rot hP hD
  have hP : va_P D vwCl ((h0, .inr (12, fs_118)) :: (q_119, .inl (D.1 14, 3, .inl (fun _ => 0))) :: (q_117, .inl (D.1 14, 5, .inl (upd (upd (upd (upd (upd (fun _ => 0) 0 108) 1 101) 2 97) 3 115) 4 116))) :: (q_115, .inl (D.1 14, 4, .inl (upd (upd (upd (upd (fun _ => 0) 0 109) 1 111) 2 115) 3 116))) :: T) H := hP
  have hD : va_D A ((h0, .inr (12, fs_118)) :: (q_119, .inl (D.1 14, 3, .inl (fun _ => 0))) :: (q_117, .inl (D.1 14, 5, .inl (upd (upd (upd (upd (upd (fun _ => 0) 0 108) 1 101) 2 97) 3 115) 4 116))) :: (q_115, .inl (D.1 14, 4, .inl (upd (upd (upd (upd (fun _ => 0) 0 109) 1 111) 2 115) 3 116))) :: T) := hD
  refine lv_dup hx hb dX12_init_1227 rfl ?_
  refine lv_iconst (v := 0) hx hb dX12_init_1228 (by decide) ?_
  refine lv_bipush (v := 110) hx hb dX12_init_1229 (by decide) ?_
  refine va_cast hx hb hK hP hD hS 1 1 rfl rfl (z_in (by decide) (by decide)) dX12_init_1231 (fun H locs hP hD hS => ?_)
  have hP : va_P D vwCl ((h0, .inr (12, fs_118)) :: (q_119, .inl (D.1 14, 3, .inl (upd (fun _ => 0) 0 110))) :: (q_117, .inl (D.1 14, 5, .inl (upd (upd (upd (upd (upd (fun _ => 0) 0 108) 1 101) 2 97) 3 115) 4 116))) :: (q_115, .inl (D.1 14, 4, .inl (upd (upd (upd (upd (fun _ => 0) 0 109) 1 111) 2 115) 3 116))) :: T) H := hP
  have hD : va_D A ((h0, .inr (12, fs_118)) :: (q_119, .inl (D.1 14, 3, .inl (upd (fun _ => 0) 0 110))) :: (q_117, .inl (D.1 14, 5, .inl (upd (upd (upd (upd (upd (fun _ => 0) 0 108) 1 101) 2 97) 3 115) 4 116))) :: (q_115, .inl (D.1 14, 4, .inl (upd (upd (upd (upd (fun _ => 0) 0 109) 1 111) 2 115) 3 116))) :: T) := hD
  refine lv_dup hx hb dX12_init_1232 rfl ?_
  refine lv_iconst (v := 1) hx hb dX12_init_1233 (by decide) ?_
  refine lv_bipush (v := 111) hx hb dX12_init_1234 (by decide) ?_
  refine va_cast hx hb hK hP hD hS 1 1 rfl rfl (z_in (by decide) (by decide)) dX12_init_1236 (fun H locs hP hD hS => ?_)
  have hP : va_P D vwCl ((h0, .inr (12, fs_118)) :: (q_119, .inl (D.1 14, 3, .inl (upd (upd (fun _ => 0) 0 110) 1 111))) :: (q_117, .inl (D.1 14, 5, .inl (upd (upd (upd (upd (upd (fun _ => 0) 0 108) 1 101) 2 97) 3 115) 4 116))) :: (q_115, .inl (D.1 14, 4, .inl (upd (upd (upd (upd (fun _ => 0) 0 109) 1 111) 2 115) 3 116))) :: T) H := hP
  have hD : va_D A ((h0, .inr (12, fs_118)) :: (q_119, .inl (D.1 14, 3, .inl (upd (upd (fun _ => 0) 0 110) 1 111))) :: (q_117, .inl (D.1 14, 5, .inl (upd (upd (upd (upd (upd (fun _ => 0) 0 108) 1 101) 2 97) 3 115) 4 116))) :: (q_115, .inl (D.1 14, 4, .inl (upd (upd (upd (upd (fun _ => 0) 0 109) 1 111) 2 115) 3 116))) :: T) := hD
  refine lv_dup hx hb dX12_init_1237 rfl ?_
  refine lv_iconst (v := 2) hx hb dX12_init_1238 (by decide) ?_
  refine lv_bipush (v := 116) hx hb dX12_init_1239 (by decide) ?_
  refine va_cast hx hb hK hP hD hS 1 1 rfl rfl (z_in (by decide) (by decide)) dX12_init_1241 (fun H locs hP hD hS => ?_)
  have hP : va_P D vwCl ((h0, .inr (12, fs_118)) :: (q_119, .inl (D.1 14, 3, .inl (upd (upd (upd (fun _ => 0) 0 110) 1 111) 2 116))) :: (q_117, .inl (D.1 14, 5, .inl (upd (upd (upd (upd (upd (fun _ => 0) 0 108) 1 101) 2 97) 3 115) 4 116))) :: (q_115, .inl (D.1 14, 4, .inl (upd (upd (upd (upd (fun _ => 0) 0 109) 1 111) 2 115) 3 116))) :: T) H := hP
  have hD : va_D A ((h0, .inr (12, fs_118)) :: (q_119, .inl (D.1 14, 3, .inl (upd (upd (upd (fun _ => 0) 0 110) 1 111) 2 116))) :: (q_117, .inl (D.1 14, 5, .inl (upd (upd (upd (upd (upd (fun _ => 0) 0 108) 1 101) 2 97) 3 115) 4 116))) :: (q_115, .inl (D.1 14, 4, .inl (upd (upd (upd (upd (fun _ => 0) 0 109) 1 111) 2 115) 3 116))) :: T) := hD
  refine va_putF (D := D) (ci := 12) (v := .ref q_119) (ty := .array .char) (C := RX12) (T := TX12) (N := 116) hx hb ht inX12 tyX12 tyX12_ok nmX12 hown hK hP hD hS 0 rfl rfl 85 (by decide) (ht (.fieldLink RX12 195 "CloneVolumesModel" "notAsked" "[C") fl_X12_195) (fun _ h9 => h9) rfl hin rfl (by decide +kernel) rfl rfl (by rw [hlen]; decide) dX12_init_1242 (fun H locs hP hD hS => ?_)
  have hP : va_P D vwCl ((h0, .inr (12, (fs_118.set 85 (.ref q_119)))) :: (q_119, .inl (D.1 14, 3, .inl (upd (upd (upd (fun _ => 0) 0 110) 1 111) 2 116))) :: (q_117, .inl (D.1 14, 5, .inl (upd (upd (upd (upd (upd (fun _ => 0) 0 108) 1 101) 2 97) 3 115) 4 116))) :: (q_115, .inl (D.1 14, 4, .inl (upd (upd (upd (upd (fun _ => 0) 0 109) 1 111) 2 115) 3 116))) :: T) H := hP
  have hD : va_D A ((h0, .inr (12, (fs_118.set 85 (.ref q_119)))) :: (q_119, .inl (D.1 14, 3, .inl (upd (upd (upd (fun _ => 0) 0 110) 1 111) 2 116))) :: (q_117, .inl (D.1 14, 5, .inl (upd (upd (upd (upd (upd (fun _ => 0) 0 108) 1 101) 2 97) 3 115) 4 116))) :: (q_115, .inl (D.1 14, 4, .inl (upd (upd (upd (upd (fun _ => 0) 0 109) 1 111) 2 115) 3 116))) :: T) := hD
  generalize hfs_120 : fs_118.set 85 (.ref q_119) = fs_120 at hP hD
  have hlen : fs_120.length = 116 := by rw [← hfs_120, List.length_set]; exact hlen
  have hP : va_P D vwCl ((h0, .inr (12, fs_120)) :: (q_119, .inl (D.1 14, 3, .inl (upd (upd (upd (fun _ => 0) 0 110) 1 111) 2 116))) :: (q_117, .inl (D.1 14, 5, .inl (upd (upd (upd (upd (upd (fun _ => 0) 0 108) 1 101) 2 97) 3 115) 4 116))) :: (q_115, .inl (D.1 14, 4, .inl (upd (upd (upd (upd (fun _ => 0) 0 109) 1 111) 2 115) 3 116))) :: T) H := hP
  have hD : va_D A ((h0, .inr (12, fs_120)) :: (q_119, .inl (D.1 14, 3, .inl (upd (upd (upd (fun _ => 0) 0 110) 1 111) 2 116))) :: (q_117, .inl (D.1 14, 5, .inl (upd (upd (upd (upd (upd (fun _ => 0) 0 108) 1 101) 2 97) 3 115) 4 116))) :: (q_115, .inl (D.1 14, 4, .inl (upd (upd (upd (upd (fun _ => 0) 0 109) 1 111) 2 115) 3 116))) :: T) := hD
  exact kk q_119 q_117 q_115 fs_120 _ _ (by rw [← hfs_120, ← hfs_118, ← hfs_116]) hP hD hS
set_option maxHeartbeats 4000000 in
set_option maxRecDepth 100000 in
theorem cM_16 {p : Program} {l : Launch} {e : Env} {R : Room} {s : State} {m : MethodId} {args : Array Value} {below : List Frame} {meth : Method} {c : Code} {Q : State → Prop} {D : va_G} {A : Nat → Prop} {ls : Array Slot} {h0 : Nat} {T : va_W} (hx : p.tables.exec = Jvm.exec) (hb : c.code = cX12_init) (ht : ∀ w ∈ lw_gd, w.before args s = true) (hown : s.vm.findClass RX12 = some m.cls) (hin : meth.name = "<init>") (hK : va_K D vwCl (TY D) s) (hA : ∀ q : Nat, s.heap.size ≤ q → A q) (hRc : 80 ≤ R.cells) (hRs : 35050 ≤ R.slots) (hl : lv_has ls 1 [(0, .ref h0)]) {fs : List Value} (hlen : fs.length = 116) {H : Heap} {locs : List Loc} (hP : va_P D vwCl ((h0, .inr (12, fs)) :: T) H) (hD : va_D A ((h0, .inr (12, fs)) :: T)) (hS : va_S A s.heap H locs)
    (kk : ∀ (q_127 : Nat) (q_125 : Nat) (q_123 : Nat) (q_121 : Nat) (fs' : List Value) (H : Heap) (locs : List Loc), fs' = ((((fs.set 86 (.ref q_121)).set 87 (.ref q_123)).set 88 (.ref q_125)).set 89 (.ref q_127)) → va_P D vwCl ((h0, .inr (12, fs')) :: (q_127, .inl (D.1 14, 3, .inl (upd (upd (upd (fun _ => 0) 0 109) 1 105) 2 110))) :: (q_125, .inl (D.1 14, 3, .inl (upd (upd (upd (fun _ => 0) 0 97) 1 108) 2 108))) :: (q_123, .inl (D.1 14, 2, .inl (upd (upd (fun _ => 0) 0 111) 1 114))) :: (q_121, .inl (D.1 14, 3, .inl (upd (upd (upd (fun _ => 0) 0 97) 1 110) 2 100))) :: T) H → va_D A ((h0, .inr (12, fs')) :: (q_127, .inl (D.1 14, 3, .inl (upd (upd (upd (fun _ => 0) 0 109) 1 105) 2 110))) :: (q_125, .inl (D.1 14, 3, .inl (upd (upd (upd (fun _ => 0) 0 97) 1 108) 2 108))) :: (q_123, .inl (D.1 14, 2, .inl (upd (upd (fun _ => 0) 0 111) 1 114))) :: (q_121, .inl (D.1 14, 3, .inl (upd (upd (upd (fun _ => 0) 0 97) 1 110) 2 100))) :: T) → va_S A s.heap H locs → W p l e R s m args below meth c H locs 63 27701 Q (F0 m 1328 ls [])) : W p l e R s m args below meth c H locs 59 27690 Q (F0 m 1245 ls []) := by
  refine lv_aload_n hx hb dX12_init_1245 rfl (lv_at hl 0 rfl) ?_
  refine lv_iconst (v := 3) hx hb dX12_init_1246 (by decide) ?_
  refine va_newa (atype := .char) (a0 := (3, .inl (fun _ => 0))) (ty := .char) (N' := 3) hx hb (ht _ ac_char) rfl hK hP hD hS hA (fun _ => rfl) (by decide) (by decide) (by decide) (Nat.le_trans (Nat.le_of_ble_eq_true rfl) hRc) (Nat.le_trans (Nat.le_of_ble_eq_true rfl) hRs) dX12_init_1247 (fun q_121 cA H hK2 hP hD hS => ?_)
  obtain rfl := z_cls_char hK hK2
  refine W.widen (k := 60) (n := 27693) (Nat.le_of_ble_eq_true rfl) (Nat.le_of_ble_eq_true rfl) ?_
  obtain ⟨hP, hD⟩ := z_rot hP hD
  have hP : va_P D vwCl ((h0, .inr (12, fs)) :: (q_121, .inl (D.1 14, 3, .inl (fun _ => 0))) :: T) H := hP
  have hD : va_D A ((h0, .inr (12, fs)) :: (q_121, .inl (D.1 14, 3, .inl (fun _ => 0))) :: T) := hD
  refine lv_dup hx hb dX12_init_1249 rfl ?_
  refine lv_iconst (v := 0) hx hb dX12_init_1250 (by decide) ?_
  refine lv_bipush (v := 97) hx hb dX12_init_1251 (by decide) ?_
  refine va_cast hx hb hK hP hD hS 1 1 rfl rfl (z_in (by decide) (by decide)) dX12_init_1253 (fun H locs hP hD hS => ?_)
  have hP : va_P D vwCl ((h0, .inr (12, fs)) :: (q_121, .inl (D.1 14, 3, .inl (upd (fun _ => 0) 0 97))) :: T) H := hP
  have hD : va_D A ((h0, .inr (12, fs)) :: (q_121, .inl (D.1 14, 3, .inl (upd (fun _ => 0) 0 97))) :: T) := hD
  refine lv_dup hx hb dX12_init_1254 rfl ?_
  refine lv_iconst (v := 1) hx hb dX12_init_1255 (by decide) ?_
  refine lv_bipush (v := 110) hx hb dX12_init_1256 (by decide) ?_
  refine va_cast hx hb hK hP hD hS 1 1 rfl rfl (z_in (by decide) (by decide)) dX12_init_1258 (fun H locs hP hD hS => ?_)
  have hP : va_P D vwCl ((h0, .inr (12, fs)) :: (q_121, .inl (D.1 14, 3, .inl (upd (upd (fun _ => 0) 0 97) 1 110))) :: T) H := hP
  have hD : va_D A ((h0, .inr (12, fs)) :: (q_121, .inl (D.1 14, 3, .inl (upd (upd (fun _ => 0) 0 97) 1 110))) :: T) := hD
  refine lv_dup hx hb dX12_init_1259 rfl ?_
  refine lv_iconst (v := 2) hx hb dX12_init_1260 (by decide) ?_
  refine lv_bipush (v := 100) hx hb dX12_init_1261 (by decide) ?_
  refine va_cast hx hb hK hP hD hS 1 1 rfl rfl (z_in (by decide) (by decide)) dX12_init_1263 (fun H locs hP hD hS => ?_)
  have hP : va_P D vwCl ((h0, .inr (12, fs)) :: (q_121, .inl (D.1 14, 3, .inl (upd (upd (upd (fun _ => 0) 0 97) 1 110) 2 100))) :: T) H := hP
  have hD : va_D A ((h0, .inr (12, fs)) :: (q_121, .inl (D.1 14, 3, .inl (upd (upd (upd (fun _ => 0) 0 97) 1 110) 2 100))) :: T) := hD
  refine va_putF (D := D) (ci := 12) (v := .ref q_121) (ty := .array .char) (C := RX12) (T := TX12) (N := 116) hx hb ht inX12 tyX12 tyX12_ok nmX12 hown hK hP hD hS 0 rfl rfl 86 (by decide) (ht (.fieldLink RX12 198 "CloneVolumesModel" "andAsked" "[C") fl_X12_198) (fun _ h9 => h9) rfl hin rfl (by decide +kernel) rfl rfl (by rw [hlen]; decide) dX12_init_1264 (fun H locs hP hD hS => ?_)
  have hP : va_P D vwCl ((h0, .inr (12, (fs.set 86 (.ref q_121)))) :: (q_121, .inl (D.1 14, 3, .inl (upd (upd (upd (fun _ => 0) 0 97) 1 110) 2 100))) :: T) H := hP
  have hD : va_D A ((h0, .inr (12, (fs.set 86 (.ref q_121)))) :: (q_121, .inl (D.1 14, 3, .inl (upd (upd (upd (fun _ => 0) 0 97) 1 110) 2 100))) :: T) := hD
  generalize hfs_122 : fs.set 86 (.ref q_121) = fs_122 at hP hD
  have hlen : fs_122.length = 116 := by rw [← hfs_122, List.length_set]; exact hlen
  have hP : va_P D vwCl ((h0, .inr (12, fs_122)) :: (q_121, .inl (D.1 14, 3, .inl (upd (upd (upd (fun _ => 0) 0 97) 1 110) 2 100))) :: T) H := hP
  have hD : va_D A ((h0, .inr (12, fs_122)) :: (q_121, .inl (D.1 14, 3, .inl (upd (upd (upd (fun _ => 0) 0 97) 1 110) 2 100))) :: T) := hD
  refine lv_aload_n hx hb dX12_init_1267 rfl (lv_at hl 0 rfl) ?_
  refine lv_iconst (v := 2) hx hb dX12_init_1268 (by decide) ?_
  refine va_newa (atype := .char) (a0 := (2, .inl (fun _ => 0))) (ty := .char) (N' := 2) hx hb (ht _ ac_char) rfl hK hP hD hS hA (fun _ => rfl) (by decide) (by decide) (by decide) (Nat.le_trans (Nat.le_of_ble_eq_true rfl) hRc) (Nat.le_trans (Nat.le_of_ble_eq_true rfl) hRs) dX12_init_1269 (fun q_123 cA H hK2 hP hD hS => ?_)
  obtain rfl := z_cls_char hK hK2
  refine W.widen (k := 61) (n := 27695) (Nat.le_of_ble_eq_true rfl) (Nat.le_of_ble_eq_true rfl) ?_
  obtain ⟨hP, hD⟩ := z_rot hP hD
  have hP : va_P D vwCl ((h0, .inr (12, fs_122)) :: (q_123, .inl (D.1 14, 2, .inl (fun _ => 0))) :: (q_121, .inl (D.1 14, 3, .inl (upd (upd (upd (fun _ => 0) 0 97) 1 110) 2 100))) :: T) H := hP
  have hD : va_D A ((h0, .inr (12, fs_122)) :: (q_123, .inl (D.1 14, 2, .inl (fun _ => 0))) :: (q_121, .inl (D.1 14, 3, .inl (upd (upd (upd (fun _ => 0) 0 97) 1 110) 2 100))) :: T) := hD
  refine lv_dup hx hb dX12_init_1271 rfl ?_
  refine lv_iconst (v := 0) hx hb dX12_init_1272 (by decide) ?_
  refine lv_bipush (v := 111) hx hb dX12_init_1273 (by decide) ?_
  refine va_cast hx hb hK hP hD hS 1 1 rfl rfl (z_in (by decide) (by decide)) dX12_init_1275 (fun H locs hP hD hS => ?_)
  have hP : va_P D vwCl ((h0, .inr (12, fs_122)) :: (q_123, .inl (D.1 14, 2, .inl (upd (fun _ => 0) 0 111))) :: (q_121, .inl (D.1 14, 3, .inl (upd (upd (upd (fun _ => 0) 0 97) 1 110) 2 100))) :: T) H := hP
  have hD : va_D A ((h0, .inr (12, fs_122)) :: (q_123, .inl (D.1 14, 2, .inl (upd (fun _ => 0) 0 111))) :: (q_121, .inl (D.1 14, 3, .inl (upd (upd (upd (fun _ => 0) 0 97) 1 110) 2 100))) :: T) := hD
  refine lv_dup hx hb dX12_init_1276 rfl ?_
  refine lv_iconst (v := 1) hx hb dX12_init_1277 (by decide) ?_
  refine lv_bipush (v := 114) hx hb dX12_init_1278 (by decide) ?_
  refine va_cast hx hb hK hP hD hS 1 1 rfl rfl (z_in (by decide) (by decide)) dX12_init_1280 (fun H locs hP hD hS => ?_)
  have hP : va_P D vwCl ((h0, .inr (12, fs_122)) :: (q_123, .inl (D.1 14, 2, .inl (upd (upd (fun _ => 0) 0 111) 1 114))) :: (q_121, .inl (D.1 14, 3, .inl (upd (upd (upd (fun _ => 0) 0 97) 1 110) 2 100))) :: T) H := hP
  have hD : va_D A ((h0, .inr (12, fs_122)) :: (q_123, .inl (D.1 14, 2, .inl (upd (upd (fun _ => 0) 0 111) 1 114))) :: (q_121, .inl (D.1 14, 3, .inl (upd (upd (upd (fun _ => 0) 0 97) 1 110) 2 100))) :: T) := hD
  refine va_putF (D := D) (ci := 12) (v := .ref q_123) (ty := .array .char) (C := RX12) (T := TX12) (N := 116) hx hb ht inX12 tyX12 tyX12_ok nmX12 hown hK hP hD hS 0 rfl rfl 87 (by decide) (ht (.fieldLink RX12 201 "CloneVolumesModel" "orAsked" "[C") fl_X12_201) (fun _ h9 => h9) rfl hin rfl (by decide +kernel) rfl rfl (by rw [hlen]; decide) dX12_init_1281 (fun H locs hP hD hS => ?_)
  have hP : va_P D vwCl ((h0, .inr (12, (fs_122.set 87 (.ref q_123)))) :: (q_123, .inl (D.1 14, 2, .inl (upd (upd (fun _ => 0) 0 111) 1 114))) :: (q_121, .inl (D.1 14, 3, .inl (upd (upd (upd (fun _ => 0) 0 97) 1 110) 2 100))) :: T) H := hP
  have hD : va_D A ((h0, .inr (12, (fs_122.set 87 (.ref q_123)))) :: (q_123, .inl (D.1 14, 2, .inl (upd (upd (fun _ => 0) 0 111) 1 114))) :: (q_121, .inl (D.1 14, 3, .inl (upd (upd (upd (fun _ => 0) 0 97) 1 110) 2 100))) :: T) := hD
  generalize hfs_124 : fs_122.set 87 (.ref q_123) = fs_124 at hP hD
  have hlen : fs_124.length = 116 := by rw [← hfs_124, List.length_set]; exact hlen
  have hP : va_P D vwCl ((h0, .inr (12, fs_124)) :: (q_123, .inl (D.1 14, 2, .inl (upd (upd (fun _ => 0) 0 111) 1 114))) :: (q_121, .inl (D.1 14, 3, .inl (upd (upd (upd (fun _ => 0) 0 97) 1 110) 2 100))) :: T) H := hP
  have hD : va_D A ((h0, .inr (12, fs_124)) :: (q_123, .inl (D.1 14, 2, .inl (upd (upd (fun _ => 0) 0 111) 1 114))) :: (q_121, .inl (D.1 14, 3, .inl (upd (upd (upd (fun _ => 0) 0 97) 1 110) 2 100))) :: T) := hD
  refine lv_aload_n hx hb dX12_init_1284 rfl (lv_at hl 0 rfl) ?_
  refine lv_iconst (v := 3) hx hb dX12_init_1285 (by decide) ?_
  refine va_newa (atype := .char) (a0 := (3, .inl (fun _ => 0))) (ty := .char) (N' := 3) hx hb (ht _ ac_char) rfl hK hP hD hS hA (fun _ => rfl) (by decide) (by decide) (by decide) (Nat.le_trans (Nat.le_of_ble_eq_true rfl) hRc) (Nat.le_trans (Nat.le_of_ble_eq_true rfl) hRs) dX12_init_1286 (fun q_125 cA H hK2 hP hD hS => ?_)
  obtain rfl := z_cls_char hK hK2
  refine W.widen (k := 62) (n := 27698) (Nat.le_of_ble_eq_true rfl) (Nat.le_of_ble_eq_true rfl) ?_
  obtain ⟨hP, hD⟩ := z_rot hP hD
  have hP : va_P D vwCl ((h0, .inr (12, fs_124)) :: (q_125, .inl (D.1 14, 3, .inl (fun _ => 0))) :: (q_123, .inl (D.1 14, 2, .inl (upd (upd (fun _ => 0) 0 111) 1 114))) :: (q_121, .inl (D.1 14, 3, .inl (upd (upd (upd (fun _ => 0) 0 97) 1 110) 2 100))) :: T) H := hP
  have hD : va_D A ((h0, .inr (12, fs_124)) :: (q_125, .inl (D.1 14, 3, .inl (fun _ => 0))) :: (q_123, .inl (D.1 14, 2, .inl (upd (upd (fun _ => 0) 0 111) 1 114))) :: (q_121, .inl (D.1 14, 3, .inl (upd (upd (upd (fun _ => 0) 0 97) 1 110) 2 100))) :: T) := hD
  refine lv_dup hx hb dX12_init_1288 rfl ?_
  refine lv_iconst (v := 0) hx hb dX12_init_1289 (by decide) ?_
  refine lv_bipush (v := 97) hx hb dX12_init_1290 (by decide) ?_
  refine va_cast hx hb hK hP hD hS 1 1 rfl rfl (z_in (by decide) (by decide)) dX12_init_1292 (fun H locs hP hD hS => ?_)
  have hP : va_P D vwCl ((h0, .inr (12, fs_124)) :: (q_125, .inl (D.1 14, 3, .inl (upd (fun _ => 0) 0 97))) :: (q_123, .inl (D.1 14, 2, .inl (upd (upd (fun _ => 0) 0 111) 1 114))) :: (q_121, .inl (D.1 14, 3, .inl (upd (upd (upd (fun _ => 0) 0 97) 1 110) 2 100))) :: T) H := hP
  have hD : va_D A ((h0, .inr (12, fs_124)) :: (q_125, .inl (D.1 14, 3, .inl (upd (fun _ => 0) 0 97))) :: (q_123, .inl (D.1 14, 2, .inl (upd (upd (fun _ => 0) 0 111) 1 114))) :: (q_121, .inl (D.1 14, 3, .inl (upd (upd (upd (fun _ => 0) 0 97) 1 110) 2 100))) :: T) := hD
  refine lv_dup hx hb dX12_init_1293 rfl ?_
  refine lv_iconst (v := 1) hx hb dX12_init_1294 (by decide) ?_
  refine lv_bipush (v := 108) hx hb dX12_init_1295 (by decide) ?_
  refine va_cast hx hb hK hP hD hS 1 1 rfl rfl (z_in (by decide) (by decide)) dX12_init_1297 (fun H locs hP hD hS => ?_)
  have hP : va_P D vwCl ((h0, .inr (12, fs_124)) :: (q_125, .inl (D.1 14, 3, .inl (upd (upd (fun _ => 0) 0 97) 1 108))) :: (q_123, .inl (D.1 14, 2, .inl (upd (upd (fun _ => 0) 0 111) 1 114))) :: (q_121, .inl (D.1 14, 3, .inl (upd (upd (upd (fun _ => 0) 0 97) 1 110) 2 100))) :: T) H := hP
  have hD : va_D A ((h0, .inr (12, fs_124)) :: (q_125, .inl (D.1 14, 3, .inl (upd (upd (fun _ => 0) 0 97) 1 108))) :: (q_123, .inl (D.1 14, 2, .inl (upd (upd (fun _ => 0) 0 111) 1 114))) :: (q_121, .inl (D.1 14, 3, .inl (upd (upd (upd (fun _ => 0) 0 97) 1 110) 2 100))) :: T) := hD
  refine lv_dup hx hb dX12_init_1298 rfl ?_
  refine lv_iconst (v := 2) hx hb dX12_init_1299 (by decide) ?_
  refine lv_bipush (v := 108) hx hb dX12_init_1300 (by decide) ?_
  refine va_cast hx hb hK hP hD hS 1 1 rfl rfl (z_in (by decide) (by decide)) dX12_init_1302 (fun H locs hP hD hS => ?_)
  have hP : va_P D vwCl ((h0, .inr (12, fs_124)) :: (q_125, .inl (D.1 14, 3, .inl (upd (upd (upd (fun _ => 0) 0 97) 1 108) 2 108))) :: (q_123, .inl (D.1 14, 2, .inl (upd (upd (fun _ => 0) 0 111) 1 114))) :: (q_121, .inl (D.1 14, 3, .inl (upd (upd (upd (fun _ => 0) 0 97) 1 110) 2 100))) :: T) H := hP
  have hD : va_D A ((h0, .inr (12, fs_124)) :: (q_125, .inl (D.1 14, 3, .inl (upd (upd (upd (fun _ => 0) 0 97) 1 108) 2 108))) :: (q_123, .inl (D.1 14, 2, .inl (upd (upd (fun _ => 0) 0 111) 1 114))) :: (q_121, .inl (D.1 14, 3, .inl (upd (upd (upd (fun _ => 0) 0 97) 1 110) 2 100))) :: T) := hD
  refine va_putF (D := D) (ci := 12) (v := .ref q_125) (ty := .array .char) (C := RX12) (T := TX12) (N := 116) hx hb ht inX12 tyX12 tyX12_ok nmX12 hown hK hP hD hS 0 rfl rfl 88 (by decide) (ht (.fieldLink RX12 204 "CloneVolumesModel" "allAsked" "[C") fl_X12_204) (fun _ h9 => h9) rfl hin rfl (by decide +kernel) rfl rfl (by rw [hlen]; decide) dX12_init_1303 (fun H locs hP hD hS => ?_)
  have hP : va_P D vwCl ((h0, .inr (12, (fs_124.set 88 (.ref q_125)))) :: (q_125, .inl (D.1 14, 3, .inl (upd (upd (upd (fun _ => 0) 0 97) 1 108) 2 108))) :: (q_123, .inl (D.1 14, 2, .inl (upd (upd (fun _ => 0) 0 111) 1 114))) :: (q_121, .inl (D.1 14, 3, .inl (upd (upd (upd (fun _ => 0) 0 97) 1 110) 2 100))) :: T) H := hP
  have hD : va_D A ((h0, .inr (12, (fs_124.set 88 (.ref q_125)))) :: (q_125, .inl (D.1 14, 3, .inl (upd (upd (upd (fun _ => 0) 0 97) 1 108) 2 108))) :: (q_123, .inl (D.1 14, 2, .inl (upd (upd (fun _ => 0) 0 111) 1 114))) :: (q_121, .inl (D.1 14, 3, .inl (upd (upd (upd (fun _ => 0) 0 97) 1 110) 2 100))) :: T) := hD
  generalize hfs_126 : fs_124.set 88 (.ref q_125) = fs_126 at hP hD
  have hlen : fs_126.length = 116 := by rw [← hfs_126, List.length_set]; exact hlen
  have hP : va_P D vwCl ((h0, .inr (12, fs_126)) :: (q_125, .inl (D.1 14, 3, .inl (upd (upd (upd (fun _ => 0) 0 97) 1 108) 2 108))) :: (q_123, .inl (D.1 14, 2, .inl (upd (upd (fun _ => 0) 0 111) 1 114))) :: (q_121, .inl (D.1 14, 3, .inl (upd (upd (upd (fun _ => 0) 0 97) 1 110) 2 100))) :: T) H := hP
  have hD : va_D A ((h0, .inr (12, fs_126)) :: (q_125, .inl (D.1 14, 3, .inl (upd (upd (upd (fun _ => 0) 0 97) 1 108) 2 108))) :: (q_123, .inl (D.1 14, 2, .inl (upd (upd (fun _ => 0) 0 111) 1 114))) :: (q_121, .inl (D.1 14, 3, .inl (upd (upd (upd (fun _ => 0) 0 97) 1 110) 2 100))) :: T) := hD
  refine lv_aload_n hx hb dX12_init_1306 rfl (lv_at hl 0 rfl) ?_
  refine lv_iconst (v := 3) hx hb dX12_init_1307 (by decide) ?_
  refine va_newa (atype := .char) (a0 := (3, .inl (fun _ => 0))) (ty := .char) (N' := 3) hx hb (ht _ ac_char) rfl hK hP hD hS hA (fun _ => rfl) (by decide) (by decide) (by decide) (Nat.le_trans (Nat.le_of_ble_eq_true rfl) hRc) (Nat.le_trans (Nat.le_of_ble_eq_true rfl) hRs) dX12_init_1308 (fun q_127 cA H hK2 hP hD hS => ?_)
  obtain rfl := z_cls_char hK hK2
  refine W.widen (k := 63) (n := 27701) (Nat.le_of_ble_eq_true rfl) (Nat.le_of_ble_eq_true rfl) ?_
  obtain ⟨hP, hD⟩ := z_rot hP hD
  have hP : va_P D vwCl ((h0, .inr (12, fs_126)) :: (q_127, .inl (D.1 14, 3, .inl (fun _ => 0))) :: (q_125, .inl (D.1 14, 3, .inl (upd (upd (upd (fun _ => 0) 0 97) 1 108) 2 108))) :: (q_123, .inl (D.1 14, 2, .inl (upd (upd (fun _ => 0) 0 111) 1 114))) :: (q_121, .inl (D.1 14, 3, .inl (upd (upd (upd (fun _ => 0) 0 97) 1 110) 2 100))) :: T) H := hP
  have hD : va_D A ((h0, .inr (12, fs_126)) :: (q_127, .inl (D.1 14, 3, .inl (fun _ => 0))) :: (q_125, .inl (D.1 14, 3, .inl (upd (upd (upd (fun _ => 0) 0 97) 1 108) 2 108))) :: (q_123, .inl (D.1 14, 2, .inl (upd (upd (fun _ => 0) 0 111) 1 114))) :: (q_121, .inl (D.1 14, 3, .inl (upd (upd (upd (fun _ => 0) 0 97) 1 110) 2 100))) :: T) := hD
  refine lv_dup hx hb dX12_init_1310 rfl ?_
  refine lv_iconst (v := 0) hx hb dX12_init_1311 (by decide) ?_
  refine lv_bipush (v := 109) hx hb dX12_init_1312 (by decide) ?_
  refine va_cast hx hb hK hP hD hS 1 1 rfl rfl (z_in (by decide) (by decide)) dX12_init_1314 (fun H locs hP hD hS => ?_)
  have hP : va_P D vwCl ((h0, .inr (12, fs_126)) :: (q_127, .inl (D.1 14, 3, .inl (upd (fun _ => 0) 0 109))) :: (q_125, .inl (D.1 14, 3, .inl (upd (upd (upd (fun _ => 0) 0 97) 1 108) 2 108))) :: (q_123, .inl (D.1 14, 2, .inl (upd (upd (fun _ => 0) 0 111) 1 114))) :: (q_121, .inl (D.1 14, 3, .inl (upd (upd (upd (fun _ => 0) 0 97) 1 110) 2 100))) :: T) H := hP
  have hD : va_D A ((h0, .inr (12, fs_126)) :: (q_127, .inl (D.1 14, 3, .inl (upd (fun _ => 0) 0 109))) :: (q_125, .inl (D.1 14, 3, .inl (upd (upd (upd (fun _ => 0) 0 97) 1 108) 2 108))) :: (q_123, .inl (D.1 14, 2, .inl (upd (upd (fun _ => 0) 0 111) 1 114))) :: (q_121, .inl (D.1 14, 3, .inl (upd (upd (upd (fun _ => 0) 0 97) 1 110) 2 100))) :: T) := hD
  refine lv_dup hx hb dX12_init_1315 rfl ?_
  refine lv_iconst (v := 1) hx hb dX12_init_1316 (by decide) ?_
  refine lv_bipush (v := 105) hx hb dX12_init_1317 (by decide) ?_
  refine va_cast hx hb hK hP hD hS 1 1 rfl rfl (z_in (by decide) (by decide)) dX12_init_1319 (fun H locs hP hD hS => ?_)
  have hP : va_P D vwCl ((h0, .inr (12, fs_126)) :: (q_127, .inl (D.1 14, 3, .inl (upd (upd (fun _ => 0) 0 109) 1 105))) :: (q_125, .inl (D.1 14, 3, .inl (upd (upd (upd (fun _ => 0) 0 97) 1 108) 2 108))) :: (q_123, .inl (D.1 14, 2, .inl (upd (upd (fun _ => 0) 0 111) 1 114))) :: (q_121, .inl (D.1 14, 3, .inl (upd (upd (upd (fun _ => 0) 0 97) 1 110) 2 100))) :: T) H := hP
  have hD : va_D A ((h0, .inr (12, fs_126)) :: (q_127, .inl (D.1 14, 3, .inl (upd (upd (fun _ => 0) 0 109) 1 105))) :: (q_125, .inl (D.1 14, 3, .inl (upd (upd (upd (fun _ => 0) 0 97) 1 108) 2 108))) :: (q_123, .inl (D.1 14, 2, .inl (upd (upd (fun _ => 0) 0 111) 1 114))) :: (q_121, .inl (D.1 14, 3, .inl (upd (upd (upd (fun _ => 0) 0 97) 1 110) 2 100))) :: T) := hD
  refine lv_dup hx hb dX12_init_1320 rfl ?_
  refine lv_iconst (v := 2) hx hb dX12_init_1321 (by decide) ?_
  refine lv_bipush (v := 110) hx hb dX12_init_1322 (by decide) ?_
  refine va_cast hx hb hK hP hD hS 1 1 rfl rfl (z_in (by decide) (by decide)) dX12_init_1324 (fun H locs hP hD hS => ?_)
  have hP : va_P D vwCl ((h0, .inr (12, fs_126)) :: (q_127, .inl (D.1 14, 3, .inl (upd (upd (upd (fun _ => 0) 0 109) 1 105) 2 110))) :: (q_125, .inl (D.1 14, 3, .inl (upd (upd (upd (fun _ => 0) 0 97) 1 108) 2 108))) :: (q_123, .inl (D.1 14, 2, .inl (upd (upd (fun _ => 0) 0 111) 1 114))) :: (q_121, .inl (D.1 14, 3, .inl (upd (upd (upd (fun _ => 0) 0 97) 1 110) 2 100))) :: T) H := hP
  have hD : va_D A ((h0, .inr (12, fs_126)) :: (q_127, .inl (D.1 14, 3, .inl (upd (upd (upd (fun _ => 0) 0 109) 1 105) 2 110))) :: (q_125, .inl (D.1 14, 3, .inl (upd (upd (upd (fun _ => 0) 0 97) 1 108) 2 108))) :: (q_123, .inl (D.1 14, 2, .inl (upd (upd (fun _ => 0) 0 111) 1 114))) :: (q_121, .inl (D.1 14, 3, .inl (upd (upd (upd (fun _ => 0) 0 97) 1 110) 2 100))) :: T) := hD
  refine va_putF (D := D) (ci := 12) (v := .ref q_127) (ty := .array .char) (C := RX12) (T := TX12) (N := 116) hx hb ht inX12 tyX12 tyX12_ok nmX12 hown hK hP hD hS 0 rfl rfl 89 (by decide) (ht (.fieldLink RX12 207 "CloneVolumesModel" "minAsked" "[C") fl_X12_207) (fun _ h9 => h9) rfl hin rfl (by decide +kernel) rfl rfl (by rw [hlen]; decide) dX12_init_1325 (fun H locs hP hD hS => ?_)
  have hP : va_P D vwCl ((h0, .inr (12, (fs_126.set 89 (.ref q_127)))) :: (q_127, .inl (D.1 14, 3, .inl (upd (upd (upd (fun _ => 0) 0 109) 1 105) 2 110))) :: (q_125, .inl (D.1 14, 3, .inl (upd (upd (upd (fun _ => 0) 0 97) 1 108) 2 108))) :: (q_123, .inl (D.1 14, 2, .inl (upd (upd (fun _ => 0) 0 111) 1 114))) :: (q_121, .inl (D.1 14, 3, .inl (upd (upd (upd (fun _ => 0) 0 97) 1 110) 2 100))) :: T) H := hP
  have hD : va_D A ((h0, .inr (12, (fs_126.set 89 (.ref q_127)))) :: (q_127, .inl (D.1 14, 3, .inl (upd (upd (upd (fun _ => 0) 0 109) 1 105) 2 110))) :: (q_125, .inl (D.1 14, 3, .inl (upd (upd (upd (fun _ => 0) 0 97) 1 108) 2 108))) :: (q_123, .inl (D.1 14, 2, .inl (upd (upd (fun _ => 0) 0 111) 1 114))) :: (q_121, .inl (D.1 14, 3, .inl (upd (upd (upd (fun _ => 0) 0 97) 1 110) 2 100))) :: T) := hD
  generalize hfs_128 : fs_126.set 89 (.ref q_127) = fs_128 at hP hD
  have hlen : fs_128.length = 116 := by rw [← hfs_128, List.length_set]; exact hlen
  have hP : va_P D vwCl ((h0, .inr (12, fs_128)) :: (q_127, .inl (D.1 14, 3, .inl (upd (upd (upd (fun _ => 0) 0 109) 1 105) 2 110))) :: (q_125, .inl (D.1 14, 3, .inl (upd (upd (upd (fun _ => 0) 0 97) 1 108) 2 108))) :: (q_123, .inl (D.1 14, 2, .inl (upd (upd (fun _ => 0) 0 111) 1 114))) :: (q_121, .inl (D.1 14, 3, .inl (upd (upd (upd (fun _ => 0) 0 97) 1 110) 2 100))) :: T) H := hP
  have hD : va_D A ((h0, .inr (12, fs_128)) :: (q_127, .inl (D.1 14, 3, .inl (upd (upd (upd (fun _ => 0) 0 109) 1 105) 2 110))) :: (q_125, .inl (D.1 14, 3, .inl (upd (upd (upd (fun _ => 0) 0 97) 1 108) 2 108))) :: (q_123, .inl (D.1 14, 2, .inl (upd (upd (fun _ => 0) 0 111) 1 114))) :: (q_121, .inl (D.1 14, 3, .inl (upd (upd (upd (fun _ => 0) 0 97) 1 110) 2 100))) :: T) := hD
  exact kk q_127 q_125 q_123 q_121 fs_128 _ _ (by rw [← hfs_128, ← hfs_126, ← hfs_124, ← hfs_122]) hP hD hS
set_option maxHeartbeats 4000000 in
set_option maxRecDepth 100000 in
theorem cM_17 {p : Program} {l : Launch} {e : Env} {R : Room} {s : State} {m : MethodId} {args : Array Value} {below : List Frame} {meth : Method} {c : Code} {Q : State → Prop} {D : va_G} {A : Nat → Prop} {ls : Array Slot} {h0 : Nat} {T : va_W} (hx : p.tables.exec = Jvm.exec) (hb : c.code = cX12_init) (ht : ∀ w ∈ lw_gd, w.before args s = true) (hown : s.vm.findClass RX12 = some m.cls) (hin : meth.name = "<init>") (hK : va_K D vwCl (TY D) s) (hA : ∀ q : Nat, s.heap.size ≤ q → A q) (hRc : 80 ≤ R.cells) (hRs : 35050 ≤ R.slots) (hl : lv_has ls 1 [(0, .ref h0)]) {fs : List Value} (hlen : fs.length = 116) {H : Heap} {locs : List Loc} (hP : va_P D vwCl ((h0, .inr (12, fs)) :: T) H) (hD : va_D A ((h0, .inr (12, fs)) :: T)) (hS : va_S A s.heap H locs)
    (kk : ∀ (q_133 : Nat) (q_131 : Nat) (q_129 : Nat) (fs' : List Value) (H : Heap) (locs : List Loc), fs' = (((fs.set 90 (.ref q_129)).set 91 (.ref q_131)).set 92 (.ref q_133)) → va_P D vwCl ((h0, .inr (12, fs')) :: (q_133, .inl (D.1 14, 5, .inl (upd (upd (upd (upd (upd (fun _ => 0) 0 98) 1 108) 2 111) 3 99) 4 107))) :: (q_131, .inl (D.1 14, 5, .inl (upd (upd (upd (upd (upd (fun _ => 0) 0 108) 1 101) 2 118) 3 101) 4 108))) :: (q_129, .inl (D.1 14, 3, .inl (upd (upd (upd (fun _ => 0) 0 109) 1 97) 2 120))) :: T) H → va_D A ((h0, .inr (12, fs')) :: (q_133, .inl (D.1 14, 5, .inl (upd (upd (upd (upd (upd (fun _ => 0) 0 98) 1 108) 2 111) 3 99) 4 107))) :: (q_131, .inl (D.1 14, 5, .inl (upd (upd (upd (upd (upd (fun _ => 0) 0 108) 1 101) 2 118) 3 101) 4 108))) :: (q_129, .inl (D.1 14, 3, .inl (upd (upd (upd (fun _ => 0) 0 109) 1 97) 2 120))) :: T) → va_S A s.heap H locs → W p l e R s m args below meth c H locs 66 27714 Q (F0 m 1414 ls [])) : W p l e R s m args below meth c H locs 63 27701 Q (F0 m 1328 ls []) := by
  refine lv_aload_n hx hb dX12_init_1328 rfl (lv_at hl 0 rfl) ?_
  refine lv_iconst (v := 3) hx hb dX12_init_1329 (by decide) ?_
  refine va_newa (atype := .char) (a0 := (3, .inl (fun _ => 0))) (ty := .char) (N' := 3) hx hb (ht _ ac_char) rfl hK hP hD hS hA (fun _ => rfl) (by decide) (by decide) (by decide) (Nat.le_trans (Nat.le_of_ble_eq_true rfl) hRc) (Nat.le_trans (Nat.le_of_ble_eq_true rfl) hRs) dX12_init_1330 (fun q_129 cA H hK2 hP hD hS => ?_)
  obtain rfl := z_cls_char hK hK2
  refine W.widen (k := 64) (n := 27704) (Nat.le_of_ble_eq_true rfl) (Nat.le_of_ble_eq_true rfl) ?_
  obtain ⟨hP, hD⟩ := z_rot hP hD
  have hP : va_P D vwCl ((h0, .inr (12, fs)) :: (q_129, .inl (D.1 14, 3, .inl (fun _ => 0))) :: T) H := hP
  have hD : va_D A ((h0, .inr (12, fs)) :: (q_129, .inl (D.1 14, 3, .inl (fun _ => 0))) :: T) := hD
  refine lv_dup hx hb dX12_init_1332 rfl ?_
  refine lv_iconst (v := 0) hx hb dX12_init_1333 (by decide) ?_
  refine lv_bipush (v := 109) hx hb dX12_init_1334 (by decide) ?_
  refine va_cast hx hb hK hP hD hS 1 1 rfl rfl (z_in (by decide) (by decide)) dX12_init_1336 (fun H locs hP hD hS => ?_)
  have hP : va_P D vwCl ((h0, .inr (12, fs)) :: (q_129, .inl (D.1 14, 3, .inl (upd (fun _ => 0) 0 109))) :: T) H := hP
  have hD : va_D A ((h0, .inr (12, fs)) :: (q_129, .inl (D.1 14, 3, .inl (upd (fun _ => 0) 0 109))) :: T) := hD
  refine lv_dup hx hb dX12_init_1337 rfl ?_
  refine lv_iconst (v := 1) hx hb dX12_init_1338 (by decide) ?_
  refine lv_bipush (v := 97) hx hb dX12_init_1339 (by decide) ?_
  refine va_cast hx hb hK hP hD hS 1 1 rfl rfl (z_in (by decide) (by decide)) dX12_init_1341 (fun H locs hP hD hS => ?_)
  have hP : va_P D vwCl ((h0, .inr (12, fs)) :: (q_129, .inl (D.1 14, 3, .inl (upd (upd (fun _ => 0) 0 109) 1 97))) :: T) H := hP
  have hD : va_D A ((h0, .inr (12, fs)) :: (q_129, .inl (D.1 14, 3, .inl (upd (upd (fun _ => 0) 0 109) 1 97))) :: T) := hD
  refine lv_dup hx hb dX12_init_1342 rfl ?_
  refine lv_iconst (v := 2) hx hb dX12_init_1343 (by decide) ?_
  refine lv_bipush (v := 120) hx hb dX12_init_1344 (by decide) ?_
  refine va_cast hx hb hK hP hD hS 1 1 rfl rfl (z_in (by decide) (by decide)) dX12_init_1346 (fun H locs hP hD hS => ?_)
  have hP : va_P D vwCl ((h0, .inr (12, fs)) :: (q_129, .inl (D.1 14, 3, .inl (upd (upd (upd (fun _ => 0) 0 109) 1 97) 2 120))) :: T) H := hP
  have hD : va_D A ((h0, .inr (12, fs)) :: (q_129, .inl (D.1 14, 3, .inl (upd (upd (upd (fun _ => 0) 0 109) 1 97) 2 120))) :: T) := hD
  refine va_putF (D := D) (ci := 12) (v := .ref q_129) (ty := .array .char) (C := RX12) (T := TX12) (N := 116) hx hb ht inX12 tyX12 tyX12_ok nmX12 hown hK hP hD hS 0 rfl rfl 90 (by decide) (ht (.fieldLink RX12 210 "CloneVolumesModel" "maxAsked" "[C") fl_X12_210) (fun _ h9 => h9) rfl hin rfl (by decide +kernel) rfl rfl (by rw [hlen]; decide) dX12_init_1347 (fun H locs hP hD hS => ?_)
  have hP : va_P D vwCl ((h0, .inr (12, (fs.set 90 (.ref q_129)))) :: (q_129, .inl (D.1 14, 3, .inl (upd (upd (upd (fun _ => 0) 0 109) 1 97) 2 120))) :: T) H := hP
  have hD : va_D A ((h0, .inr (12, (fs.set 90 (.ref q_129)))) :: (q_129, .inl (D.1 14, 3, .inl (upd (upd (upd (fun _ => 0) 0 109) 1 97) 2 120))) :: T) := hD
  generalize hfs_130 : fs.set 90 (.ref q_129) = fs_130 at hP hD
  have hlen : fs_130.length = 116 := by rw [← hfs_130, List.length_set]; exact hlen
  have hP : va_P D vwCl ((h0, .inr (12, fs_130)) :: (q_129, .inl (D.1 14, 3, .inl (upd (upd (upd (fun _ => 0) 0 109) 1 97) 2 120))) :: T) H := hP
  have hD : va_D A ((h0, .inr (12, fs_130)) :: (q_129, .inl (D.1 14, 3, .inl (upd (upd (upd (fun _ => 0) 0 109) 1 97) 2 120))) :: T) := hD
  refine lv_aload_n hx hb dX12_init_1350 rfl (lv_at hl 0 rfl) ?_
  refine lv_iconst (v := 5) hx hb dX12_init_1351 (by decide) ?_
  refine va_newa (atype := .char) (a0 := (5, .inl (fun _ => 0))) (ty := .char) (N' := 5) hx hb (ht _ ac_char) rfl hK hP hD hS hA (fun _ => rfl) (by decide) (by decide) (by decide) (Nat.le_trans (Nat.le_of_ble_eq_true rfl) hRc) (Nat.le_trans (Nat.le_of_ble_eq_true rfl) hRs) dX12_init_1352 (fun q_131 cA H hK2 hP hD hS => ?_)
  obtain rfl := z_cls_char hK hK2
  refine W.widen (k := 65) (n := 27709) (Nat.le_of_ble_eq_true rfl) (Nat.le_of_ble_eq_true rfl) ?_
  obtain ⟨hP, hD⟩ := z_rot hP hD
  have hP : va_P D vwCl ((h0, .inr (12, fs_130)) :: (q_131, .inl (D.1 14, 5, .inl (fun _ => 0))) :: (q_129, .inl (D.1 14, 3, .inl (upd (upd (upd (fun _ => 0) 0 109) 1 97) 2 120))) :: T) H := hP
  have hD : va_D A ((h0, .inr (12, fs_130)) :: (q_131, .inl (D.1 14, 5, .inl (fun _ => 0))) :: (q_129, .inl (D.1 14, 3, .inl (upd (upd (upd (fun _ => 0) 0 109) 1 97) 2 120))) :: T) := hD
  refine lv_dup hx hb dX12_init_1354 rfl ?_
  refine lv_iconst (v := 0) hx hb dX12_init_1355 (by decide) ?_
  refine lv_bipush (v := 108) hx hb dX12_init_1356 (by decide) ?_
  refine va_cast hx hb hK hP hD hS 1 1 rfl rfl (z_in (by decide) (by decide)) dX12_init_1358 (fun H locs hP hD hS => ?_)
  have hP : va_P D vwCl ((h0, .inr (12, fs_130)) :: (q_131, .inl (D.1 14, 5, .inl (upd (fun _ => 0) 0 108))) :: (q_129, .inl (D.1 14, 3, .inl (upd (upd (upd (fun _ => 0) 0 109) 1 97) 2 120))) :: T) H := hP
  have hD : va_D A ((h0, .inr (12, fs_130)) :: (q_131, .inl (D.1 14, 5, .inl (upd (fun _ => 0) 0 108))) :: (q_129, .inl (D.1 14, 3, .inl (upd (upd (upd (fun _ => 0) 0 109) 1 97) 2 120))) :: T) := hD
  refine lv_dup hx hb dX12_init_1359 rfl ?_
  refine lv_iconst (v := 1) hx hb dX12_init_1360 (by decide) ?_
  refine lv_bipush (v := 101) hx hb dX12_init_1361 (by decide) ?_
  refine va_cast hx hb hK hP hD hS 1 1 rfl rfl (z_in (by decide) (by decide)) dX12_init_1363 (fun H locs hP hD hS => ?_)
  have hP : va_P D vwCl ((h0, .inr (12, fs_130)) :: (q_131, .inl (D.1 14, 5, .inl (upd (upd (fun _ => 0) 0 108) 1 101))) :: (q_129, .inl (D.1 14, 3, .inl (upd (upd (upd (fun _ => 0) 0 109) 1 97) 2 120))) :: T) H := hP
  have hD : va_D A ((h0, .inr (12, fs_130)) :: (q_131, .inl (D.1 14, 5, .inl (upd (upd (fun _ => 0) 0 108) 1 101))) :: (q_129, .inl (D.1 14, 3, .inl (upd (upd (upd (fun _ => 0) 0 109) 1 97) 2 120))) :: T) := hD
  refine lv_dup hx hb dX12_init_1364 rfl ?_
  refine lv_iconst (v := 2) hx hb dX12_init_1365 (by decide) ?_
  refine lv_bipush (v := 118) hx hb dX12_init_1366 (by decide) ?_
  refine va_cast hx hb hK hP hD hS 1 1 rfl rfl (z_in (by decide) (by decide)) dX12_init_1368 (fun H locs hP hD hS => ?_)
  have hP : va_P D vwCl ((h0, .inr (12, fs_130)) :: (q_131, .inl (D.1 14, 5, .inl (upd (upd (upd (fun _ => 0) 0 108) 1 101) 2 118))) :: (q_129, .inl (D.1 14, 3, .inl (upd (upd (upd (fun _ => 0) 0 109) 1 97) 2 120))) :: T) H := hP
  have hD : va_D A ((h0, .inr (12, fs_130)) :: (q_131, .inl (D.1 14, 5, .inl (upd (upd (upd (fun _ => 0) 0 108) 1 101) 2 118))) :: (q_129, .inl (D.1 14, 3, .inl (upd (upd (upd (fun _ => 0) 0 109) 1 97) 2 120))) :: T) := hD
  refine lv_dup hx hb dX12_init_1369 rfl ?_
  refine lv_iconst (v := 3) hx hb dX12_init_1370 (by decide) ?_
  refine lv_bipush (v := 101) hx hb dX12_init_1371 (by decide) ?_
  refine va_cast hx hb hK hP hD hS 1 1 rfl rfl (z_in (by decide) (by decide)) dX12_init_1373 (fun H locs hP hD hS => ?_)
  have hP : va_P D vwCl ((h0, .inr (12, fs_130)) :: (q_131, .inl (D.1 14, 5, .inl (upd (upd (upd (upd (fun _ => 0) 0 108) 1 101) 2 118) 3 101))) :: (q_129, .inl (D.1 14, 3, .inl (upd (upd (upd (fun _ => 0) 0 109) 1 97) 2 120))) :: T) H := hP
  have hD : va_D A ((h0, .inr (12, fs_130)) :: (q_131, .inl (D.1 14, 5, .inl (upd (upd (upd (upd (fun _ => 0) 0 108) 1 101) 2 118) 3 101))) :: (q_129, .inl (D.1 14, 3, .inl (upd (upd (upd (fun _ => 0) 0 109) 1 97) 2 120))) :: T) := hD
  refine lv_dup hx hb dX12_init_1374 rfl ?_
  refine lv_iconst (v := 4) hx hb dX12_init_1375 (by decide) ?_
  refine lv_bipush (v := 108) hx hb dX12_init_1376 (by decide) ?_
  refine va_cast hx hb hK hP hD hS 1 1 rfl rfl (z_in (by decide) (by decide)) dX12_init_1378 (fun H locs hP hD hS => ?_)
  have hP : va_P D vwCl ((h0, .inr (12, fs_130)) :: (q_131, .inl (D.1 14, 5, .inl (upd (upd (upd (upd (upd (fun _ => 0) 0 108) 1 101) 2 118) 3 101) 4 108))) :: (q_129, .inl (D.1 14, 3, .inl (upd (upd (upd (fun _ => 0) 0 109) 1 97) 2 120))) :: T) H := hP
  have hD : va_D A ((h0, .inr (12, fs_130)) :: (q_131, .inl (D.1 14, 5, .inl (upd (upd (upd (upd (upd (fun _ => 0) 0 108) 1 101) 2 118) 3 101) 4 108))) :: (q_129, .inl (D.1 14, 3, .inl (upd (upd (upd (fun _ => 0) 0 109) 1 97) 2 120))) :: T) := hD
  refine va_putF (D := D) (ci := 12) (v := .ref q_131) (ty := .array .char) (C := RX12) (T := TX12) (N := 116) hx hb ht inX12 tyX12 tyX12_ok nmX12 hown hK hP hD hS 0 rfl rfl 91 (by decide) (ht (.fieldLink RX12 213 "CloneVolumesModel" "levelAsked" "[C") fl_X12_213) (fun _ h9 => h9) rfl hin rfl (by decide +kernel) rfl rfl (by rw [hlen]; decide) dX12_init_1379 (fun H locs hP hD hS => ?_)
  have hP : va_P D vwCl ((h0, .inr (12, (fs_130.set 91 (.ref q_131)))) :: (q_131, .inl (D.1 14, 5, .inl (upd (upd (upd (upd (upd (fun _ => 0) 0 108) 1 101) 2 118) 3 101) 4 108))) :: (q_129, .inl (D.1 14, 3, .inl (upd (upd (upd (fun _ => 0) 0 109) 1 97) 2 120))) :: T) H := hP
  have hD : va_D A ((h0, .inr (12, (fs_130.set 91 (.ref q_131)))) :: (q_131, .inl (D.1 14, 5, .inl (upd (upd (upd (upd (upd (fun _ => 0) 0 108) 1 101) 2 118) 3 101) 4 108))) :: (q_129, .inl (D.1 14, 3, .inl (upd (upd (upd (fun _ => 0) 0 109) 1 97) 2 120))) :: T) := hD
  generalize hfs_132 : fs_130.set 91 (.ref q_131) = fs_132 at hP hD
  have hlen : fs_132.length = 116 := by rw [← hfs_132, List.length_set]; exact hlen
  have hP : va_P D vwCl ((h0, .inr (12, fs_132)) :: (q_131, .inl (D.1 14, 5, .inl (upd (upd (upd (upd (upd (fun _ => 0) 0 108) 1 101) 2 118) 3 101) 4 108))) :: (q_129, .inl (D.1 14, 3, .inl (upd (upd (upd (fun _ => 0) 0 109) 1 97) 2 120))) :: T) H := hP
  have hD : va_D A ((h0, .inr (12, fs_132)) :: (q_131, .inl (D.1 14, 5, .inl (upd (upd (upd (upd (upd (fun _ => 0) 0 108) 1 101) 2 118) 3 101) 4 108))) :: (q_129, .inl (D.1 14, 3, .inl (upd (upd (upd (fun _ => 0) 0 109) 1 97) 2 120))) :: T) := hD
  refine lv_aload_n hx hb dX12_init_1382 rfl (lv_at hl 0 rfl) ?_
  refine lv_iconst (v := 5) hx hb dX12_init_1383 (by decide) ?_
  refine va_newa (atype := .char) (a0 := (5, .inl (fun _ => 0))) (ty := .char) (N' := 5) hx hb (ht _ ac_char) rfl hK hP hD hS hA (fun _ => rfl) (by decide) (by decide) (by decide) (Nat.le_trans (Nat.le_of_ble_eq_true rfl) hRc) (Nat.le_trans (Nat.le_of_ble_eq_true rfl) hRs) dX12_init_1384 (fun q_133 cA H hK2 hP hD hS => ?_)
  obtain rfl := z_cls_char hK hK2
  refine W.widen (k := 66) (n := 27714) (Nat.le_of_ble_eq_true rfl) (Nat.le_of_ble_eq_true rfl) ?_
  obtain ⟨hP, hD⟩ := z_rot hP hD
  have hP : va_P D vwCl ((h0, .inr (12, fs_132)) :: (q_133, .inl (D.1 14, 5, .inl (fun _ => 0))) :: (q_131, .inl (D.1 14, 5, .inl (upd (upd (upd (upd (upd (fun _ => 0) 0 108) 1 101) 2 118) 3 101) 4 108))) :: (q_129, .inl (D.1 14, 3, .inl (upd (upd (upd (fun _ => 0) 0 109) 1 97) 2 120))) :: T) H := hP
  have hD : va_D A ((h0, .inr (12, fs_132)) :: (q_133, .inl (D.1 14, 5, .inl (fun _ => 0))) :: (q_131, .inl (D.1 14, 5, .inl (upd (upd (upd (upd (upd (fun _ => 0) 0 108) 1 101) 2 118) 3 101) 4 108))) :: (q_129, .inl (D.1 14, 3, .inl (upd (upd (upd (fun _ => 0) 0 109) 1 97) 2 120))) :: T) := hD
  refine lv_dup hx hb dX12_init_1386 rfl ?_
  refine lv_iconst (v := 0) hx hb dX12_init_1387 (by decide) ?_
  refine lv_bipush (v := 98) hx hb dX12_init_1388 (by decide) ?_
  refine va_cast hx hb hK hP hD hS 1 1 rfl rfl (z_in (by decide) (by decide)) dX12_init_1390 (fun H locs hP hD hS => ?_)
  have hP : va_P D vwCl ((h0, .inr (12, fs_132)) :: (q_133, .inl (D.1 14, 5, .inl (upd (fun _ => 0) 0 98))) :: (q_131, .inl (D.1 14, 5, .inl (upd (upd (upd (upd (upd (fun _ => 0) 0 108) 1 101) 2 118) 3 101) 4 108))) :: (q_129, .inl (D.1 14, 3, .inl (upd (upd (upd (fun _ => 0) 0 109) 1 97) 2 120))) :: T) H := hP
  have hD : va_D A ((h0, .inr (12, fs_132)) :: (q_133, .inl (D.1 14, 5, .inl (upd (fun _ => 0) 0 98))) :: (q_131, .inl (D.1 14, 5, .inl (upd (upd (upd (upd (upd (fun _ => 0) 0 108) 1 101) 2 118) 3 101) 4 108))) :: (q_129, .inl (D.1 14, 3, .inl (upd (upd (upd (fun _ => 0) 0 109) 1 97) 2 120))) :: T) := hD
  refine lv_dup hx hb dX12_init_1391 rfl ?_
  refine lv_iconst (v := 1) hx hb dX12_init_1392 (by decide) ?_
  refine lv_bipush (v := 108) hx hb dX12_init_1393 (by decide) ?_
  refine va_cast hx hb hK hP hD hS 1 1 rfl rfl (z_in (by decide) (by decide)) dX12_init_1395 (fun H locs hP hD hS => ?_)
  have hP : va_P D vwCl ((h0, .inr (12, fs_132)) :: (q_133, .inl (D.1 14, 5, .inl (upd (upd (fun _ => 0) 0 98) 1 108))) :: (q_131, .inl (D.1 14, 5, .inl (upd (upd (upd (upd (upd (fun _ => 0) 0 108) 1 101) 2 118) 3 101) 4 108))) :: (q_129, .inl (D.1 14, 3, .inl (upd (upd (upd (fun _ => 0) 0 109) 1 97) 2 120))) :: T) H := hP
  have hD : va_D A ((h0, .inr (12, fs_132)) :: (q_133, .inl (D.1 14, 5, .inl (upd (upd (fun _ => 0) 0 98) 1 108))) :: (q_131, .inl (D.1 14, 5, .inl (upd (upd (upd (upd (upd (fun _ => 0) 0 108) 1 101) 2 118) 3 101) 4 108))) :: (q_129, .inl (D.1 14, 3, .inl (upd (upd (upd (fun _ => 0) 0 109) 1 97) 2 120))) :: T) := hD
  refine lv_dup hx hb dX12_init_1396 rfl ?_
  refine lv_iconst (v := 2) hx hb dX12_init_1397 (by decide) ?_
  refine lv_bipush (v := 111) hx hb dX12_init_1398 (by decide) ?_
  refine va_cast hx hb hK hP hD hS 1 1 rfl rfl (z_in (by decide) (by decide)) dX12_init_1400 (fun H locs hP hD hS => ?_)
  have hP : va_P D vwCl ((h0, .inr (12, fs_132)) :: (q_133, .inl (D.1 14, 5, .inl (upd (upd (upd (fun _ => 0) 0 98) 1 108) 2 111))) :: (q_131, .inl (D.1 14, 5, .inl (upd (upd (upd (upd (upd (fun _ => 0) 0 108) 1 101) 2 118) 3 101) 4 108))) :: (q_129, .inl (D.1 14, 3, .inl (upd (upd (upd (fun _ => 0) 0 109) 1 97) 2 120))) :: T) H := hP
  have hD : va_D A ((h0, .inr (12, fs_132)) :: (q_133, .inl (D.1 14, 5, .inl (upd (upd (upd (fun _ => 0) 0 98) 1 108) 2 111))) :: (q_131, .inl (D.1 14, 5, .inl (upd (upd (upd (upd (upd (fun _ => 0) 0 108) 1 101) 2 118) 3 101) 4 108))) :: (q_129, .inl (D.1 14, 3, .inl (upd (upd (upd (fun _ => 0) 0 109) 1 97) 2 120))) :: T) := hD
  refine lv_dup hx hb dX12_init_1401 rfl ?_
  refine lv_iconst (v := 3) hx hb dX12_init_1402 (by decide) ?_
  refine lv_bipush (v := 99) hx hb dX12_init_1403 (by decide) ?_
  refine va_cast hx hb hK hP hD hS 1 1 rfl rfl (z_in (by decide) (by decide)) dX12_init_1405 (fun H locs hP hD hS => ?_)
  have hP : va_P D vwCl ((h0, .inr (12, fs_132)) :: (q_133, .inl (D.1 14, 5, .inl (upd (upd (upd (upd (fun _ => 0) 0 98) 1 108) 2 111) 3 99))) :: (q_131, .inl (D.1 14, 5, .inl (upd (upd (upd (upd (upd (fun _ => 0) 0 108) 1 101) 2 118) 3 101) 4 108))) :: (q_129, .inl (D.1 14, 3, .inl (upd (upd (upd (fun _ => 0) 0 109) 1 97) 2 120))) :: T) H := hP
  have hD : va_D A ((h0, .inr (12, fs_132)) :: (q_133, .inl (D.1 14, 5, .inl (upd (upd (upd (upd (fun _ => 0) 0 98) 1 108) 2 111) 3 99))) :: (q_131, .inl (D.1 14, 5, .inl (upd (upd (upd (upd (upd (fun _ => 0) 0 108) 1 101) 2 118) 3 101) 4 108))) :: (q_129, .inl (D.1 14, 3, .inl (upd (upd (upd (fun _ => 0) 0 109) 1 97) 2 120))) :: T) := hD
  refine lv_dup hx hb dX12_init_1406 rfl ?_
  refine lv_iconst (v := 4) hx hb dX12_init_1407 (by decide) ?_
  refine lv_bipush (v := 107) hx hb dX12_init_1408 (by decide) ?_
  refine va_cast hx hb hK hP hD hS 1 1 rfl rfl (z_in (by decide) (by decide)) dX12_init_1410 (fun H locs hP hD hS => ?_)
  have hP : va_P D vwCl ((h0, .inr (12, fs_132)) :: (q_133, .inl (D.1 14, 5, .inl (upd (upd (upd (upd (upd (fun _ => 0) 0 98) 1 108) 2 111) 3 99) 4 107))) :: (q_131, .inl (D.1 14, 5, .inl (upd (upd (upd (upd (upd (fun _ => 0) 0 108) 1 101) 2 118) 3 101) 4 108))) :: (q_129, .inl (D.1 14, 3, .inl (upd (upd (upd (fun _ => 0) 0 109) 1 97) 2 120))) :: T) H := hP
  have hD : va_D A ((h0, .inr (12, fs_132)) :: (q_133, .inl (D.1 14, 5, .inl (upd (upd (upd (upd (upd (fun _ => 0) 0 98) 1 108) 2 111) 3 99) 4 107))) :: (q_131, .inl (D.1 14, 5, .inl (upd (upd (upd (upd (upd (fun _ => 0) 0 108) 1 101) 2 118) 3 101) 4 108))) :: (q_129, .inl (D.1 14, 3, .inl (upd (upd (upd (fun _ => 0) 0 109) 1 97) 2 120))) :: T) := hD
  refine va_putF (D := D) (ci := 12) (v := .ref q_133) (ty := .array .char) (C := RX12) (T := TX12) (N := 116) hx hb ht inX12 tyX12 tyX12_ok nmX12 hown hK hP hD hS 0 rfl rfl 92 (by decide) (ht (.fieldLink RX12 216 "CloneVolumesModel" "blockAsked" "[C") fl_X12_216) (fun _ h9 => h9) rfl hin rfl (by decide +kernel) rfl rfl (by rw [hlen]; decide) dX12_init_1411 (fun H locs hP hD hS => ?_)
  have hP : va_P D vwCl ((h0, .inr (12, (fs_132.set 92 (.ref q_133)))) :: (q_133, .inl (D.1 14, 5, .inl (upd (upd (upd (upd (upd (fun _ => 0) 0 98) 1 108) 2 111) 3 99) 4 107))) :: (q_131, .inl (D.1 14, 5, .inl (upd (upd (upd (upd (upd (fun _ => 0) 0 108) 1 101) 2 118) 3 101) 4 108))) :: (q_129, .inl (D.1 14, 3, .inl (upd (upd (upd (fun _ => 0) 0 109) 1 97) 2 120))) :: T) H := hP
  have hD : va_D A ((h0, .inr (12, (fs_132.set 92 (.ref q_133)))) :: (q_133, .inl (D.1 14, 5, .inl (upd (upd (upd (upd (upd (fun _ => 0) 0 98) 1 108) 2 111) 3 99) 4 107))) :: (q_131, .inl (D.1 14, 5, .inl (upd (upd (upd (upd (upd (fun _ => 0) 0 108) 1 101) 2 118) 3 101) 4 108))) :: (q_129, .inl (D.1 14, 3, .inl (upd (upd (upd (fun _ => 0) 0 109) 1 97) 2 120))) :: T) := hD
  generalize hfs_134 : fs_132.set 92 (.ref q_133) = fs_134 at hP hD
  have hlen : fs_134.length = 116 := by rw [← hfs_134, List.length_set]; exact hlen
  have hP : va_P D vwCl ((h0, .inr (12, fs_134)) :: (q_133, .inl (D.1 14, 5, .inl (upd (upd (upd (upd (upd (fun _ => 0) 0 98) 1 108) 2 111) 3 99) 4 107))) :: (q_131, .inl (D.1 14, 5, .inl (upd (upd (upd (upd (upd (fun _ => 0) 0 108) 1 101) 2 118) 3 101) 4 108))) :: (q_129, .inl (D.1 14, 3, .inl (upd (upd (upd (fun _ => 0) 0 109) 1 97) 2 120))) :: T) H := hP
  have hD : va_D A ((h0, .inr (12, fs_134)) :: (q_133, .inl (D.1 14, 5, .inl (upd (upd (upd (upd (upd (fun _ => 0) 0 98) 1 108) 2 111) 3 99) 4 107))) :: (q_131, .inl (D.1 14, 5, .inl (upd (upd (upd (upd (upd (fun _ => 0) 0 108) 1 101) 2 118) 3 101) 4 108))) :: (q_129, .inl (D.1 14, 3, .inl (upd (upd (upd (fun _ => 0) 0 109) 1 97) 2 120))) :: T) := hD
  exact kk q_133 q_131 q_129 fs_134 _ _ (by rw [← hfs_134, ← hfs_132, ← hfs_130]) hP hD hS
set_option maxHeartbeats 4000000 in
set_option maxRecDepth 100000 in
theorem cM_18 {p : Program} {l : Launch} {e : Env} {R : Room} {s : State} {m : MethodId} {args : Array Value} {below : List Frame} {meth : Method} {c : Code} {Q : State → Prop} {D : va_G} {A : Nat → Prop} {ls : Array Slot} {h0 : Nat} {T : va_W} (hx : p.tables.exec = Jvm.exec) (hb : c.code = cX12_init) (ht : ∀ w ∈ lw_gd, w.before args s = true) (hown : s.vm.findClass RX12 = some m.cls) (hin : meth.name = "<init>") (hK : va_K D vwCl (TY D) s) (hA : ∀ q : Nat, s.heap.size ≤ q → A q) (hRc : 80 ≤ R.cells) (hRs : 35050 ≤ R.slots) (hl : lv_has ls 1 [(0, .ref h0)]) {fs : List Value} (hlen : fs.length = 116) {H : Heap} {locs : List Loc} (hP : va_P D vwCl ((h0, .inr (12, fs)) :: T) H) (hD : va_D A ((h0, .inr (12, fs)) :: T)) (hS : va_S A s.heap H locs)
    (kk : ∀ (q_137 : Nat) (q_135 : Nat) (fs' : List Value) (H : Heap) (locs : List Loc), fs' = ((fs.set 93 (.ref q_135)).set 94 (.ref q_137)) → va_P D vwCl ((h0, .inr (12, fs')) :: (q_137, .inl (D.1 14, 7, .inl (upd (upd (upd (upd (upd (upd (upd (fun _ => 0) 0 101) 1 110) 2 116) 3 114) 4 105) 5 101) 6 115))) :: (q_135, .inl (D.1 14, 4, .inl (upd (upd (upd (upd (fun _ => 0) 0 102) 1 114) 2 111) 3 109))) :: T) H → va_D A ((h0, .inr (12, fs')) :: (q_137, .inl (D.1 14, 7, .inl (upd (upd (upd (upd (upd (upd (upd (fun _ => 0) 0 101) 1 110) 2 116) 3 114) 4 105) 5 101) 6 115))) :: (q_135, .inl (D.1 14, 4, .inl (upd (upd (upd (upd (fun _ => 0) 0 102) 1 114) 2 111) 3 109))) :: T) → va_S A s.heap H locs → W p l e R s m args below meth c H locs 68 27725 Q (F0 m 1485 ls [])) : W p l e R s m args below meth c H locs 66 27714 Q (F0 m 1414 ls []) := by
  refine lv_aload_n hx hb dX12_init_1414 rfl (lv_at hl 0 rfl) ?_
  refine lv_iconst (v := 4) hx hb dX12_init_1415 (by decide) ?_
  refine va_newa (atype := .char) (a0 := (4, .inl (fun _ => 0))) (ty := .char) (N' := 4) hx hb (ht _ ac_char) rfl hK hP hD hS hA (fun _ => rfl) (by decide) (by decide) (by decide) (Nat.le_trans (Nat.le_of_ble_eq_true rfl) hRc) (Nat.le_trans (Nat.le_of_ble_eq_true rfl) hRs) dX12_init_1416 (fun q_135 cA H hK2 hP hD hS => ?_)
  obtain rfl := z_cls_char hK hK2
  refine W.widen (k := 67) (n := 27718) (Nat.le_of_ble_eq_true rfl) (Nat.le_of_ble_eq_true rfl) ?_
  obtain ⟨hP, hD⟩ := z_rot hP hD
  have hP : va_P D vwCl ((h0, .inr (12, fs)) :: (q_135, .inl (D.1 14, 4, .inl (fun _ => 0))) :: T) H := hP
  have hD : va_D A ((h0, .inr (12, fs)) :: (q_135, .inl (D.1 14, 4, .inl (fun _ => 0))) :: T) := hD
  refine lv_dup hx hb dX12_init_1418 rfl ?_
  refine lv_iconst (v := 0) hx hb dX12_init_1419 (by decide) ?_
  refine lv_bipush (v := 102) hx hb dX12_init_1420 (by decide) ?_
  refine va_cast hx hb hK hP hD hS 1 1 rfl rfl (z_in (by decide) (by decide)) dX12_init_1422 (fun H locs hP hD hS => ?_)
  have hP : va_P D vwCl ((h0, .inr (12, fs)) :: (q_135, .inl (D.1 14, 4, .inl (upd (fun _ => 0) 0 102))) :: T) H := hP
  have hD : va_D A ((h0, .inr (12, fs)) :: (q_135, .inl (D.1 14, 4, .inl (upd (fun _ => 0) 0 102))) :: T) := hD
  refine lv_dup hx hb dX12_init_1423 rfl ?_
  refine lv_iconst (v := 1) hx hb dX12_init_1424 (by decide) ?_
  refine lv_bipush (v := 114) hx hb dX12_init_1425 (by decide) ?_
  refine va_cast hx hb hK hP hD hS 1 1 rfl rfl (z_in (by decide) (by decide)) dX12_init_1427 (fun H locs hP hD hS => ?_)
  have hP : va_P D vwCl ((h0, .inr (12, fs)) :: (q_135, .inl (D.1 14, 4, .inl (upd (upd (fun _ => 0) 0 102) 1 114))) :: T) H := hP
  have hD : va_D A ((h0, .inr (12, fs)) :: (q_135, .inl (D.1 14, 4, .inl (upd (upd (fun _ => 0) 0 102) 1 114))) :: T) := hD
  refine lv_dup hx hb dX12_init_1428 rfl ?_
  refine lv_iconst (v := 2) hx hb dX12_init_1429 (by decide) ?_
  refine lv_bipush (v := 111) hx hb dX12_init_1430 (by decide) ?_
  refine va_cast hx hb hK hP hD hS 1 1 rfl rfl (z_in (by decide) (by decide)) dX12_init_1432 (fun H locs hP hD hS => ?_)
  have hP : va_P D vwCl ((h0, .inr (12, fs)) :: (q_135, .inl (D.1 14, 4, .inl (upd (upd (upd (fun _ => 0) 0 102) 1 114) 2 111))) :: T) H := hP
  have hD : va_D A ((h0, .inr (12, fs)) :: (q_135, .inl (D.1 14, 4, .inl (upd (upd (upd (fun _ => 0) 0 102) 1 114) 2 111))) :: T) := hD
  refine lv_dup hx hb dX12_init_1433 rfl ?_
  refine lv_iconst (v := 3) hx hb dX12_init_1434 (by decide) ?_
  refine lv_bipush (v := 109) hx hb dX12_init_1435 (by decide) ?_
  refine va_cast hx hb hK hP hD hS 1 1 rfl rfl (z_in (by decide) (by decide)) dX12_init_1437 (fun H locs hP hD hS => ?_)
  have hP : va_P D vwCl ((h0, .inr (12, fs)) :: (q_135, .inl (D.1 14, 4, .inl (upd (upd (upd (upd (fun _ => 0) 0 102) 1 114) 2 111) 3 109))) :: T) H := hP
  have hD : va_D A ((h0, .inr (12, fs)) :: (q_135, .inl (D.1 14, 4, .inl (upd (upd (upd (upd (fun _ => 0) 0 102) 1 114) 2 111) 3 109))) :: T) := hD
  refine va_putF (D := D) (ci := 12) (v := .ref q_135) (ty := .array .char) (C := RX12) (T := TX12) (N := 116) hx hb ht inX12 tyX12 tyX12_ok nmX12 hown hK hP hD hS 0 rfl rfl 93 (by decide) (ht (.fieldLink RX12 219 "CloneVolumesModel" "fromAsked" "[C") fl_X12_219) (fun _ h9 => h9) rfl hin rfl (by decide +kernel) rfl rfl (by rw [hlen]; decide) dX12_init_1438 (fun H locs hP hD hS => ?_)
  have hP : va_P D vwCl ((h0, .inr (12, (fs.set 93 (.ref q_135)))) :: (q_135, .inl (D.1 14, 4, .inl (upd (upd (upd (upd (fun _ => 0) 0 102) 1 114) 2 111) 3 109))) :: T) H := hP
  have hD : va_D A ((h0, .inr (12, (fs.set 93 (.ref q_135)))) :: (q_135, .inl (D.1 14, 4, .inl (upd (upd (upd (upd (fun _ => 0) 0 102) 1 114) 2 111) 3 109))) :: T) := hD
  generalize hfs_136 : fs.set 93 (.ref q_135) = fs_136 at hP hD
  have hlen : fs_136.length = 116 := by rw [← hfs_136, List.length_set]; exact hlen
  have hP : va_P D vwCl ((h0, .inr (12, fs_136)) :: (q_135, .inl (D.1 14, 4, .inl (upd (upd (upd (upd (fun _ => 0) 0 102) 1 114) 2 111) 3 109))) :: T) H := hP
  have hD : va_D A ((h0, .inr (12, fs_136)) :: (q_135, .inl (D.1 14, 4, .inl (upd (upd (upd (upd (fun _ => 0) 0 102) 1 114) 2 111) 3 109))) :: T) := hD
  refine lv_aload_n hx hb dX12_init_1441 rfl (lv_at hl 0 rfl) ?_
  refine lv_bipush (v := 7) hx hb dX12_init_1442 (by decide) ?_
  refine va_newa (atype := .char) (a0 := (7, .inl (fun _ => 0))) (ty := .char) (N' := 7) hx hb (ht _ ac_char) rfl hK hP hD hS hA (fun _ => rfl) (by decide) (by decide) (by decide) (Nat.le_trans (Nat.le_of_ble_eq_true rfl) hRc) (Nat.le_trans (Nat.le_of_ble_eq_true rfl) hRs) dX12_init_1444 (fun q_137 cA H hK2 hP hD hS => ?_)
  obtain rfl := z_cls_char hK hK2
  refine W.widen (k := 68) (n := 27725) (Nat.le_of_ble_eq_true rfl) (Nat.le_of_ble_eq_true rfl) ?_
  obtain ⟨hP, hD⟩ := z_rot hP hD
  have hP : va_P D vwCl ((h0, .inr (12, fs_136)) :: (q_137, .inl (D.1 14, 7, .inl (fun _ => 0))) :: (q_135, .inl (D.1 14, 4, .inl (upd (upd (upd (upd (fun _ => 0) 0 102) 1 114) 2 111) 3 109))) :: T) H := hP
  have hD : va_D A ((h0, .inr (12, fs_136)) :: (q_137, .inl (D.1 14, 7, .inl (fun _ => 0))) :: (q_135, .inl (D.1 14, 4, .inl (upd (upd (upd (upd (fun _ => 0) 0 102) 1 114) 2 111) 3 109))) :: T) := hD
  refine lv_dup hx hb dX12_init_1446 rfl ?_
  refine lv_iconst (v := 0) hx hb dX12_init_1447 (by decide) ?_
  refine lv_bipush (v := 101) hx hb dX12_init_1448 (by decide) ?_
  refine va_cast hx hb hK hP hD hS 1 1 rfl rfl (z_in (by decide) (by decide)) dX12_init_1450 (fun H locs hP hD hS => ?_)
  have hP : va_P D vwCl ((h0, .inr (12, fs_136)) :: (q_137, .inl (D.1 14, 7, .inl (upd (fun _ => 0) 0 101))) :: (q_135, .inl (D.1 14, 4, .inl (upd (upd (upd (upd (fun _ => 0) 0 102) 1 114) 2 111) 3 109))) :: T) H := hP
  have hD : va_D A ((h0, .inr (12, fs_136)) :: (q_137, .inl (D.1 14, 7, .inl (upd (fun _ => 0) 0 101))) :: (q_135, .inl (D.1 14, 4, .inl (upd (upd (upd (upd (fun _ => 0) 0 102) 1 114) 2 111) 3 109))) :: T) := hD
  refine lv_dup hx hb dX12_init_1451 rfl ?_
  refine lv_iconst (v := 1) hx hb dX12_init_1452 (by decide) ?_
  refine lv_bipush (v := 110) hx hb dX12_init_1453 (by decide) ?_
  refine va_cast hx hb hK hP hD hS 1 1 rfl rfl (z_in (by decide) (by decide)) dX12_init_1455 (fun H locs hP hD hS => ?_)
  have hP : va_P D vwCl ((h0, .inr (12, fs_136)) :: (q_137, .inl (D.1 14, 7, .inl (upd (upd (fun _ => 0) 0 101) 1 110))) :: (q_135, .inl (D.1 14, 4, .inl (upd (upd (upd (upd (fun _ => 0) 0 102) 1 114) 2 111) 3 109))) :: T) H := hP
  have hD : va_D A ((h0, .inr (12, fs_136)) :: (q_137, .inl (D.1 14, 7, .inl (upd (upd (fun _ => 0) 0 101) 1 110))) :: (q_135, .inl (D.1 14, 4, .inl (upd (upd (upd (upd (fun _ => 0) 0 102) 1 114) 2 111) 3 109))) :: T) := hD
  refine lv_dup hx hb dX12_init_1456 rfl ?_
  refine lv_iconst (v := 2) hx hb dX12_init_1457 (by decide) ?_
  refine lv_bipush (v := 116) hx hb dX12_init_1458 (by decide) ?_
  refine va_cast hx hb hK hP hD hS 1 1 rfl rfl (z_in (by decide) (by decide)) dX12_init_1460 (fun H locs hP hD hS => ?_)
  have hP : va_P D vwCl ((h0, .inr (12, fs_136)) :: (q_137, .inl (D.1 14, 7, .inl (upd (upd (upd (fun _ => 0) 0 101) 1 110) 2 116))) :: (q_135, .inl (D.1 14, 4, .inl (upd (upd (upd (upd (fun _ => 0) 0 102) 1 114) 2 111) 3 109))) :: T) H := hP
  have hD : va_D A ((h0, .inr (12, fs_136)) :: (q_137, .inl (D.1 14, 7, .inl (upd (upd (upd (fun _ => 0) 0 101) 1 110) 2 116))) :: (q_135, .inl (D.1 14, 4, .inl (upd (upd (upd (upd (fun _ => 0) 0 102) 1 114) 2 111) 3 109))) :: T) := hD
  refine lv_dup hx hb dX12_init_1461 rfl ?_
  refine lv_iconst (v := 3) hx hb dX12_init_1462 (by decide) ?_
  refine lv_bipush (v := 114) hx hb dX12_init_1463 (by decide) ?_
  refine va_cast hx hb hK hP hD hS 1 1 rfl rfl (z_in (by decide) (by decide)) dX12_init_1465 (fun H locs hP hD hS => ?_)
  have hP : va_P D vwCl ((h0, .inr (12, fs_136)) :: (q_137, .inl (D.1 14, 7, .inl (upd (upd (upd (upd (fun _ => 0) 0 101) 1 110) 2 116) 3 114))) :: (q_135, .inl (D.1 14, 4, .inl (upd (upd (upd (upd (fun _ => 0) 0 102) 1 114) 2 111) 3 109))) :: T) H := hP
  have hD : va_D A ((h0, .inr (12, fs_136)) :: (q_137, .inl (D.1 14, 7, .inl (upd (upd (upd (upd (fun _ => 0) 0 101) 1 110) 2 116) 3 114))) :: (q_135, .inl (D.1 14, 4, .inl (upd (upd (upd (upd (fun _ => 0) 0 102) 1 114) 2 111) 3 109))) :: T) := hD
  refine lv_dup hx hb dX12_init_1466 rfl ?_
  refine lv_iconst (v := 4) hx hb dX12_init_1467 (by decide) ?_
  refine lv_bipush (v := 105) hx hb dX12_init_1468 (by decide) ?_
  refine va_cast hx hb hK hP hD hS 1 1 rfl rfl (z_in (by decide) (by decide)) dX12_init_1470 (fun H locs hP hD hS => ?_)
  have hP : va_P D vwCl ((h0, .inr (12, fs_136)) :: (q_137, .inl (D.1 14, 7, .inl (upd (upd (upd (upd (upd (fun _ => 0) 0 101) 1 110) 2 116) 3 114) 4 105))) :: (q_135, .inl (D.1 14, 4, .inl (upd (upd (upd (upd (fun _ => 0) 0 102) 1 114) 2 111) 3 109))) :: T) H := hP
  have hD : va_D A ((h0, .inr (12, fs_136)) :: (q_137, .inl (D.1 14, 7, .inl (upd (upd (upd (upd (upd (fun _ => 0) 0 101) 1 110) 2 116) 3 114) 4 105))) :: (q_135, .inl (D.1 14, 4, .inl (upd (upd (upd (upd (fun _ => 0) 0 102) 1 114) 2 111) 3 109))) :: T) := hD
  refine lv_dup hx hb dX12_init_1471 rfl ?_
  refine lv_iconst (v := 5) hx hb dX12_init_1472 (by decide) ?_
  refine lv_bipush (v := 101) hx hb dX12_init_1473 (by decide) ?_
  refine va_cast hx hb hK hP hD hS 1 1 rfl rfl (z_in (by decide) (by decide)) dX12_init_1475 (fun H locs hP hD hS => ?_)
  have hP : va_P D vwCl ((h0, .inr (12, fs_136)) :: (q_137, .inl (D.1 14, 7, .inl (upd (upd (upd (upd (upd (upd (fun _ => 0) 0 101) 1 110) 2 116) 3 114) 4 105) 5 101))) :: (q_135, .inl (D.1 14, 4, .inl (upd (upd (upd (upd (fun _ => 0) 0 102) 1 114) 2 111) 3 109))) :: T) H := hP
  have hD : va_D A ((h0, .inr (12, fs_136)) :: (q_137, .inl (D.1 14, 7, .inl (upd (upd (upd (upd (upd (upd (fun _ => 0) 0 101) 1 110) 2 116) 3 114) 4 105) 5 101))) :: (q_135, .inl (D.1 14, 4, .inl (upd (upd (upd (upd (fun _ => 0) 0 102) 1 114) 2 111) 3 109))) :: T) := hD
  refine lv_dup hx hb dX12_init_1476 rfl ?_
  refine lv_bipush (v := 6) hx hb dX12_init_1477 (by decide) ?_
  refine lv_bipush (v := 115) hx hb dX12_init_1479 (by decide) ?_
  refine va_cast hx hb hK hP hD hS 1 1 rfl rfl (z_in (by decide) (by decide)) dX12_init_1481 (fun H locs hP hD hS => ?_)
  have hP : va_P D vwCl ((h0, .inr (12, fs_136)) :: (q_137, .inl (D.1 14, 7, .inl (upd (upd (upd (upd (upd (upd (upd (fun _ => 0) 0 101) 1 110) 2 116) 3 114) 4 105) 5 101) 6 115))) :: (q_135, .inl (D.1 14, 4, .inl (upd (upd (upd (upd (fun _ => 0) 0 102) 1 114) 2 111) 3 109))) :: T) H := hP
  have hD : va_D A ((h0, .inr (12, fs_136)) :: (q_137, .inl (D.1 14, 7, .inl (upd (upd (upd (upd (upd (upd (upd (fun _ => 0) 0 101) 1 110) 2 116) 3 114) 4 105) 5 101) 6 115))) :: (q_135, .inl (D.1 14, 4, .inl (upd (upd (upd (upd (fun _ => 0) 0 102) 1 114) 2 111) 3 109))) :: T) := hD
  refine va_putF (D := D) (ci := 12) (v := .ref q_137) (ty := .array .char) (C := RX12) (T := TX12) (N := 116) hx hb ht inX12 tyX12 tyX12_ok nmX12 hown hK hP hD hS 0 rfl rfl 94 (by decide) (ht (.fieldLink RX12 222 "CloneVolumesModel" "entriesAsked" "[C") fl_X12_222) (fun _ h9 => h9) rfl hin rfl (by decide +kernel) rfl rfl (by rw [hlen]; decide) dX12_init_1482 (fun H locs hP hD hS => ?_)
  have hP : va_P D vwCl ((h0, .inr (12, (fs_136.set 94 (.ref q_137)))) :: (q_137, .inl (D.1 14, 7, .inl (upd (upd (upd (upd (upd (upd (upd (fun _ => 0) 0 101) 1 110) 2 116) 3 114) 4 105) 5 101) 6 115))) :: (q_135, .inl (D.1 14, 4, .inl (upd (upd (upd (upd (fun _ => 0) 0 102) 1 114) 2 111) 3 109))) :: T) H := hP
  have hD : va_D A ((h0, .inr (12, (fs_136.set 94 (.ref q_137)))) :: (q_137, .inl (D.1 14, 7, .inl (upd (upd (upd (upd (upd (upd (upd (fun _ => 0) 0 101) 1 110) 2 116) 3 114) 4 105) 5 101) 6 115))) :: (q_135, .inl (D.1 14, 4, .inl (upd (upd (upd (upd (fun _ => 0) 0 102) 1 114) 2 111) 3 109))) :: T) := hD
  generalize hfs_138 : fs_136.set 94 (.ref q_137) = fs_138 at hP hD
  have hlen : fs_138.length = 116 := by rw [← hfs_138, List.length_set]; exact hlen
  have hP : va_P D vwCl ((h0, .inr (12, fs_138)) :: (q_137, .inl (D.1 14, 7, .inl (upd (upd (upd (upd (upd (upd (upd (fun _ => 0) 0 101) 1 110) 2 116) 3 114) 4 105) 5 101) 6 115))) :: (q_135, .inl (D.1 14, 4, .inl (upd (upd (upd (upd (fun _ => 0) 0 102) 1 114) 2 111) 3 109))) :: T) H := hP
  have hD : va_D A ((h0, .inr (12, fs_138)) :: (q_137, .inl (D.1 14, 7, .inl (upd (upd (upd (upd (upd (upd (upd (fun _ => 0) 0 101) 1 110) 2 116) 3 114) 4 105) 5 101) 6 115))) :: (q_135, .inl (D.1 14, 4, .inl (upd (upd (upd (upd (fun _ => 0) 0 102) 1 114) 2 111) 3 109))) :: T) := hD
  exact kk q_137 q_135 fs_138 _ _ (by rw [← hfs_138, ← hfs_136]) hP hD hS
set_option maxHeartbeats 4000000 in
set_option maxRecDepth 100000 in
theorem cM_19 {p : Program} {l : Launch} {e : Env} {R : Room} {s : State} {m : MethodId} {args : Array Value} {below : List Frame} {meth : Method} {c : Code} {Q : State → Prop} {D : va_G} {A : Nat → Prop} {ls : Array Slot} {h0 : Nat} {T : va_W} (hx : p.tables.exec = Jvm.exec) (hb : c.code = cX12_init) (ht : ∀ w ∈ lw_gd, w.before args s = true) (hown : s.vm.findClass RX12 = some m.cls) (hin : meth.name = "<init>") (hK : va_K D vwCl (TY D) s) (hA : ∀ q : Nat, s.heap.size ≤ q → A q) (hRc : 80 ≤ R.cells) (hRs : 35050 ≤ R.slots) (hl : lv_has ls 1 [(0, .ref h0)]) {fs : List Value} (hlen : fs.length = 116) {H : Heap} {locs : List Loc} (hP : va_P D vwCl ((h0, .inr (12, fs)) :: T) H) (hD : va_D A ((h0, .inr (12, fs)) :: T)) (hS : va_S A s.heap H locs)
    (kk : ∀ (q_141 : Nat) (q_139 : Nat) (fs' : List Value) (H : Heap) (locs : List Loc), fs' = ((fs.set 95 (.ref q_139)).set 96 (.ref q_141)) → va_P D vwCl ((h0, .inr (12, fs')) :: (q_141, .inl (D.1 14, 5, .inl (upd (upd (upd (upd (upd (fun _ => 0) 0 99) 1 111) 2 117) 3 110) 4 116))) :: (q_139, .inl (D.1 14, 6, .inl (upd (upd (upd (upd (upd (upd (fun _ => 0) 0 110) 1 117) 2 109) 3 98) 4 101) 5 114))) :: T) H → va_D A ((h0, .inr (12, fs')) :: (q_141, .inl (D.1 14, 5, .inl (upd (upd (upd (upd (upd (fun _ => 0) 0 99) 1 111) 2 117) 3 110) 4 116))) :: (q_139, .inl (D.1 14, 6, .inl (upd (upd (upd (upd (upd (upd (fun _ => 0) 0 110) 1 117) 2 109) 3 98) 4 101) 5 114))) :: T) → va_S A s.heap H locs → W p l e R s m args below meth c H locs 70 27736 Q (F0 m 1555 ls [])) : W p l e R s m args below meth c H locs 68 27725 Q (F0 m 1485 ls []) := by
  refine lv_aload_n hx hb dX12_init_1485 rfl (lv_at hl 0 rfl) ?_
  refine lv_bipush (v := 6) hx hb dX12_init_1486 (by decide) ?_
  refine va_newa (atype := .char) (a0 := (6, .inl (fun _ => 0))) (ty := .char) (N' := 6) hx hb (ht _ ac_char) rfl hK hP hD hS hA (fun _ => rfl) (by decide) (by decide) (by decide) (Nat.le_trans (Nat.le_of_ble_eq_true rfl) hRc) (Nat.le_trans (Nat.le_of_ble_eq_true rfl) hRs) dX12_init_1488 (fun q_139 cA H hK2 hP hD hS => ?_)
  obtain rfl := z_cls_char hK hK2
  refine W.widen (k := 69) (n := 27731) (Nat.le_of_ble_eq_true rfl) (Nat.le_of_ble_eq_true rfl) ?_
  obtain ⟨hP, hD⟩ := z_rot hP hD
  have hP : va_P D vwCl ((h0, .inr (12, fs)) :: (q_139, .inl (D.1 14, 6, .inl (fun _ => 0))) :: T) H := hP
  have hD : va_D A ((h0, .inr (12, fs)) :: (q_139, .inl (D.1 14, 6, .inl (fun _ => 0))) :: T) := hD
  refine lv_dup hx hb dX12_init_1490 rfl ?_
  refine lv_iconst (v := 0) hx hb dX12_init_1491 (by decide) ?_
  refine lv_bipush (v := 110) hx hb dX12_init_1492 (by decide) ?_
  refine va_cast hx hb hK hP hD hS 1 1 rfl rfl (z_in (by decide) (by decide)) dX12_init_1494 (fun H locs hP hD hS => ?_)
  have hP : va_P D vwCl ((h0, .inr (12, fs)) :: (q_139, .inl (D.1 14, 6, .inl (upd (fun _ => 0) 0 110))) :: T) H := hP
  have hD : va_D A ((h0, .inr (12, fs)) :: (q_139, .inl (D.1 14, 6, .inl (upd (fun _ => 0) 0 110))) :: T) := hD
  refine lv_dup hx hb dX12_init_1495 rfl ?_
  refine lv_iconst (v := 1) hx hb dX12_init_1496 (by decide) ?_
  refine lv_bipush (v := 117) hx hb dX12_init_1497 (by decide) ?_
  refine va_cast hx hb hK hP hD hS 1 1 rfl rfl (z_in (by decide) (by decide)) dX12_init_1499 (fun H locs hP hD hS => ?_)
  have hP : va_P D vwCl ((h0, .inr (12, fs)) :: (q_139, .inl (D.1 14, 6, .inl (upd (upd (fun _ => 0) 0 110) 1 117))) :: T) H := hP
  have hD : va_D A ((h0, .inr (12, fs)) :: (q_139, .inl (D.1 14, 6, .inl (upd (upd (fun _ => 0) 0 110) 1 117))) :: T) := hD
  refine lv_dup hx hb dX12_init_1500 rfl ?_
  refine lv_iconst (v := 2) hx hb dX12_init_1501 (by decide) ?_
  refine lv_bipush (v := 109) hx hb dX12_init_1502 (by decide) ?_
  refine va_cast hx hb hK hP hD hS 1 1 rfl rfl (z_in (by decide) (by decide)) dX12_init_1504 (fun H locs hP hD hS => ?_)
  have hP : va_P D vwCl ((h0, .inr (12, fs)) :: (q_139, .inl (D.1 14, 6, .inl (upd (upd (upd (fun _ => 0) 0 110) 1 117) 2 109))) :: T) H := hP
  have hD : va_D A ((h0, .inr (12, fs)) :: (q_139, .inl (D.1 14, 6, .inl (upd (upd (upd (fun _ => 0) 0 110) 1 117) 2 109))) :: T) := hD
  refine lv_dup hx hb dX12_init_1505 rfl ?_
  refine lv_iconst (v := 3) hx hb dX12_init_1506 (by decide) ?_
  refine lv_bipush (v := 98) hx hb dX12_init_1507 (by decide) ?_
  refine va_cast hx hb hK hP hD hS 1 1 rfl rfl (z_in (by decide) (by decide)) dX12_init_1509 (fun H locs hP hD hS => ?_)
  have hP : va_P D vwCl ((h0, .inr (12, fs)) :: (q_139, .inl (D.1 14, 6, .inl (upd (upd (upd (upd (fun _ => 0) 0 110) 1 117) 2 109) 3 98))) :: T) H := hP
  have hD : va_D A ((h0, .inr (12, fs)) :: (q_139, .inl (D.1 14, 6, .inl (upd (upd (upd (upd (fun _ => 0) 0 110) 1 117) 2 109) 3 98))) :: T) := hD
  refine lv_dup hx hb dX12_init_1510 rfl ?_
  refine lv_iconst (v := 4) hx hb dX12_init_1511 (by decide) ?_
  refine lv_bipush (v := 101) hx hb dX12_init_1512 (by decide) ?_
  refine va_cast hx hb hK hP hD hS 1 1 rfl rfl (z_in (by decide) (by decide)) dX12_init_1514 (fun H locs hP hD hS => ?_)
  have hP : va_P D vwCl ((h0, .inr (12, fs)) :: (q_139, .inl (D.1 14, 6, .inl (upd (upd (upd (upd (upd (fun _ => 0) 0 110) 1 117) 2 109) 3 98) 4 101))) :: T) H := hP
  have hD : va_D A ((h0, .inr (12, fs)) :: (q_139, .inl (D.1 14, 6, .inl (upd (upd (upd (upd (upd (fun _ => 0) 0 110) 1 117) 2 109) 3 98) 4 101))) :: T) := hD
  refine lv_dup hx hb dX12_init_1515 rfl ?_
  refine lv_iconst (v := 5) hx hb dX12_init_1516 (by decide) ?_
  refine lv_bipush (v := 114) hx hb dX12_init_1517 (by decide) ?_
  refine va_cast hx hb hK hP hD hS 1 1 rfl rfl (z_in (by decide) (by decide)) dX12_init_1519 (fun H locs hP hD hS => ?_)
  have hP : va_P D vwCl ((h0, .inr (12, fs)) :: (q_139, .inl (D.1 14, 6, .inl (upd (upd (upd (upd (upd (upd (fun _ => 0) 0 110) 1 117) 2 109) 3 98) 4 101) 5 114))) :: T) H := hP
  have hD : va_D A ((h0, .inr (12, fs)) :: (q_139, .inl (D.1 14, 6, .inl (upd (upd (upd (upd (upd (upd (fun _ => 0) 0 110) 1 117) 2 109) 3 98) 4 101) 5 114))) :: T) := hD
  refine va_putF (D := D) (ci := 12) (v := .ref q_139) (ty := .array .char) (C := RX12) (T := TX12) (N := 116) hx hb ht inX12 tyX12 tyX12_ok nmX12 hown hK hP hD hS 0 rfl rfl 95 (by decide) (ht (.fieldLink RX12 225 "CloneVolumesModel" "numberAsked" "[C") fl_X12_225) (fun _ h9 => h9) rfl hin rfl (by decide +kernel) rfl rfl (by rw [hlen]; decide) dX12_init_1520 (fun H locs hP hD hS => ?_)
  have hP : va_P D vwCl ((h0, .inr (12, (fs.set 95 (.ref q_139)))) :: (q_139, .inl (D.1 14, 6, .inl (upd (upd (upd (upd (upd (upd (fun _ => 0) 0 110) 1 117) 2 109) 3 98) 4 101) 5 114))) :: T) H := hP
  have hD : va_D A ((h0, .inr (12, (fs.set 95 (.ref q_139)))) :: (q_139, .inl (D.1 14, 6, .inl (upd (upd (upd (upd (upd (upd (fun _ => 0) 0 110) 1 117) 2 109) 3 98) 4 101) 5 114))) :: T) := hD
  generalize hfs_140 : fs.set 95 (.ref q_139) = fs_140 at hP hD
  have hlen : fs_140.length = 116 := by rw [← hfs_140, List.length_set]; exact hlen
  have hP : va_P D vwCl ((h0, .inr (12, fs_140)) :: (q_139, .inl (D.1 14, 6, .inl (upd (upd (upd (upd (upd (upd (fun _ => 0) 0 110) 1 117) 2 109) 3 98) 4 101) 5 114))) :: T) H := hP
  have hD : va_D A ((h0, .inr (12, fs_140)) :: (q_139, .inl (D.1 14, 6, .inl (upd (upd (upd (upd (upd (upd (fun _ => 0) 0 110) 1 117) 2 109) 3 98) 4 101) 5 114))) :: T) := hD
  refine lv_aload_n hx hb dX12_init_1523 rfl (lv_at hl 0 rfl) ?_
  refine lv_iconst (v := 5) hx hb dX12_init_1524 (by decide) ?_
  refine va_newa (atype := .char) (a0 := (5, .inl (fun _ => 0))) (ty := .char) (N' := 5) hx hb (ht _ ac_char) rfl hK hP hD hS hA (fun _ => rfl) (by decide) (by decide) (by decide) (Nat.le_trans (Nat.le_of_ble_eq_true rfl) hRc) (Nat.le_trans (Nat.le_of_ble_eq_true rfl) hRs) dX12_init_1525 (fun q_141 cA H hK2 hP hD hS => ?_)
  obtain rfl := z_cls_char hK hK2
  refine W.widen (k := 70) (n := 27736) (Nat.le_of_ble_eq_true rfl) (Nat.le_of_ble_eq_true rfl) ?_
  obtain ⟨hP, hD⟩ := z_rot hP hD
  have hP : va_P D vwCl ((h0, .inr (12, fs_140)) :: (q_141, .inl (D.1 14, 5, .inl (fun _ => 0))) :: (q_139, .inl (D.1 14, 6, .inl (upd (upd (upd (upd (upd (upd (fun _ => 0) 0 110) 1 117) 2 109) 3 98) 4 101) 5 114))) :: T) H := hP
  have hD : va_D A ((h0, .inr (12, fs_140)) :: (q_141, .inl (D.1 14, 5, .inl (fun _ => 0))) :: (q_139, .inl (D.1 14, 6, .inl (upd (upd (upd (upd (upd (upd (fun _ => 0) 0 110) 1 117) 2 109) 3 98) 4 101) 5 114))) :: T) := hD
  refine lv_dup hx hb dX12_init_1527 rfl ?_
  refine lv_iconst (v := 0) hx hb dX12_init_1528 (by decide) ?_
  refine lv_bipush (v := 99) hx hb dX12_init_1529 (by decide) ?_
  refine va_cast hx hb hK hP hD hS 1 1 rfl rfl (z_in (by decide) (by decide)) dX12_init_1531 (fun H locs hP hD hS => ?_)
  have hP : va_P D vwCl ((h0, .inr (12, fs_140)) :: (q_141, .inl (D.1 14, 5, .inl (upd (fun _ => 0) 0 99))) :: (q_139, .inl (D.1 14, 6, .inl (upd (upd (upd (upd (upd (upd (fun _ => 0) 0 110) 1 117) 2 109) 3 98) 4 101) 5 114))) :: T) H := hP
  have hD : va_D A ((h0, .inr (12, fs_140)) :: (q_141, .inl (D.1 14, 5, .inl (upd (fun _ => 0) 0 99))) :: (q_139, .inl (D.1 14, 6, .inl (upd (upd (upd (upd (upd (upd (fun _ => 0) 0 110) 1 117) 2 109) 3 98) 4 101) 5 114))) :: T) := hD
  refine lv_dup hx hb dX12_init_1532 rfl ?_
  refine lv_iconst (v := 1) hx hb dX12_init_1533 (by decide) ?_
  refine lv_bipush (v := 111) hx hb dX12_init_1534 (by decide) ?_
  refine va_cast hx hb hK hP hD hS 1 1 rfl rfl (z_in (by decide) (by decide)) dX12_init_1536 (fun H locs hP hD hS => ?_)
  have hP : va_P D vwCl ((h0, .inr (12, fs_140)) :: (q_141, .inl (D.1 14, 5, .inl (upd (upd (fun _ => 0) 0 99) 1 111))) :: (q_139, .inl (D.1 14, 6, .inl (upd (upd (upd (upd (upd (upd (fun _ => 0) 0 110) 1 117) 2 109) 3 98) 4 101) 5 114))) :: T) H := hP
  have hD : va_D A ((h0, .inr (12, fs_140)) :: (q_141, .inl (D.1 14, 5, .inl (upd (upd (fun _ => 0) 0 99) 1 111))) :: (q_139, .inl (D.1 14, 6, .inl (upd (upd (upd (upd (upd (upd (fun _ => 0) 0 110) 1 117) 2 109) 3 98) 4 101) 5 114))) :: T) := hD
  refine lv_dup hx hb dX12_init_1537 rfl ?_
  refine lv_iconst (v := 2) hx hb dX12_init_1538 (by decide) ?_
  refine lv_bipush (v := 117) hx hb dX12_init_1539 (by decide) ?_
  refine va_cast hx hb hK hP hD hS 1 1 rfl rfl (z_in (by decide) (by decide)) dX12_init_1541 (fun H locs hP hD hS => ?_)
  have hP : va_P D vwCl ((h0, .inr (12, fs_140)) :: (q_141, .inl (D.1 14, 5, .inl (upd (upd (upd (fun _ => 0) 0 99) 1 111) 2 117))) :: (q_139, .inl (D.1 14, 6, .inl (upd (upd (upd (upd (upd (upd (fun _ => 0) 0 110) 1 117) 2 109) 3 98) 4 101) 5 114))) :: T) H := hP
  have hD : va_D A ((h0, .inr (12, fs_140)) :: (q_141, .inl (D.1 14, 5, .inl (upd (upd (upd (fun _ => 0) 0 99) 1 111) 2 117))) :: (q_139, .inl (D.1 14, 6, .inl (upd (upd (upd (upd (upd (upd (fun _ => 0) 0 110) 1 117) 2 109) 3 98) 4 101) 5 114))) :: T) := hD
  refine lv_dup hx hb dX12_init_1542 rfl ?_
  refine lv_iconst (v := 3) hx hb dX12_init_1543 (by decide) ?_
  refine lv_bipush (v := 110) hx hb dX12_init_1544 (by decide) ?_
  refine va_cast hx hb hK hP hD hS 1 1 rfl rfl (z_in (by decide) (by decide)) dX12_init_1546 (fun H locs hP hD hS => ?_)
  have hP : va_P D vwCl ((h0, .inr (12, fs_140)) :: (q_141, .inl (D.1 14, 5, .inl (upd (upd (upd (upd (fun _ => 0) 0 99) 1 111) 2 117) 3 110))) :: (q_139, .inl (D.1 14, 6, .inl (upd (upd (upd (upd (upd (upd (fun _ => 0) 0 110) 1 117) 2 109) 3 98) 4 101) 5 114))) :: T) H := hP
  have hD : va_D A ((h0, .inr (12, fs_140)) :: (q_141, .inl (D.1 14, 5, .inl (upd (upd (upd (upd (fun _ => 0) 0 99) 1 111) 2 117) 3 110))) :: (q_139, .inl (D.1 14, 6, .inl (upd (upd (upd (upd (upd (upd (fun _ => 0) 0 110) 1 117) 2 109) 3 98) 4 101) 5 114))) :: T) := hD
  refine lv_dup hx hb dX12_init_1547 rfl ?_
  refine lv_iconst (v := 4) hx hb dX12_init_1548 (by decide) ?_
  refine lv_bipush (v := 116) hx hb dX12_init_1549 (by decide) ?_
  refine va_cast hx hb hK hP hD hS 1 1 rfl rfl (z_in (by decide) (by decide)) dX12_init_1551 (fun H locs hP hD hS => ?_)
  have hP : va_P D vwCl ((h0, .inr (12, fs_140)) :: (q_141, .inl (D.1 14, 5, .inl (upd (upd (upd (upd (upd (fun _ => 0) 0 99) 1 111) 2 117) 3 110) 4 116))) :: (q_139, .inl (D.1 14, 6, .inl (upd (upd (upd (upd (upd (upd (fun _ => 0) 0 110) 1 117) 2 109) 3 98) 4 101) 5 114))) :: T) H := hP
  have hD : va_D A ((h0, .inr (12, fs_140)) :: (q_141, .inl (D.1 14, 5, .inl (upd (upd (upd (upd (upd (fun _ => 0) 0 99) 1 111) 2 117) 3 110) 4 116))) :: (q_139, .inl (D.1 14, 6, .inl (upd (upd (upd (upd (upd (upd (fun _ => 0) 0 110) 1 117) 2 109) 3 98) 4 101) 5 114))) :: T) := hD
  refine va_putF (D := D) (ci := 12) (v := .ref q_141) (ty := .array .char) (C := RX12) (T := TX12) (N := 116) hx hb ht inX12 tyX12 tyX12_ok nmX12 hown hK hP hD hS 0 rfl rfl 96 (by decide) (ht (.fieldLink RX12 228 "CloneVolumesModel" "countAsked" "[C") fl_X12_228) (fun _ h9 => h9) rfl hin rfl (by decide +kernel) rfl rfl (by rw [hlen]; decide) dX12_init_1552 (fun H locs hP hD hS => ?_)
  have hP : va_P D vwCl ((h0, .inr (12, (fs_140.set 96 (.ref q_141)))) :: (q_141, .inl (D.1 14, 5, .inl (upd (upd (upd (upd (upd (fun _ => 0) 0 99) 1 111) 2 117) 3 110) 4 116))) :: (q_139, .inl (D.1 14, 6, .inl (upd (upd (upd (upd (upd (upd (fun _ => 0) 0 110) 1 117) 2 109) 3 98) 4 101) 5 114))) :: T) H := hP
  have hD : va_D A ((h0, .inr (12, (fs_140.set 96 (.ref q_141)))) :: (q_141, .inl (D.1 14, 5, .inl (upd (upd (upd (upd (upd (fun _ => 0) 0 99) 1 111) 2 117) 3 110) 4 116))) :: (q_139, .inl (D.1 14, 6, .inl (upd (upd (upd (upd (upd (upd (fun _ => 0) 0 110) 1 117) 2 109) 3 98) 4 101) 5 114))) :: T) := hD
  generalize hfs_142 : fs_140.set 96 (.ref q_141) = fs_142 at hP hD
  have hlen : fs_142.length = 116 := by rw [← hfs_142, List.length_set]; exact hlen
  have hP : va_P D vwCl ((h0, .inr (12, fs_142)) :: (q_141, .inl (D.1 14, 5, .inl (upd (upd (upd (upd (upd (fun _ => 0) 0 99) 1 111) 2 117) 3 110) 4 116))) :: (q_139, .inl (D.1 14, 6, .inl (upd (upd (upd (upd (upd (upd (fun _ => 0) 0 110) 1 117) 2 109) 3 98) 4 101) 5 114))) :: T) H := hP
  have hD : va_D A ((h0, .inr (12, fs_142)) :: (q_141, .inl (D.1 14, 5, .inl (upd (upd (upd (upd (upd (fun _ => 0) 0 99) 1 111) 2 117) 3 110) 4 116))) :: (q_139, .inl (D.1 14, 6, .inl (upd (upd (upd (upd (upd (upd (fun _ => 0) 0 110) 1 117) 2 109) 3 98) 4 101) 5 114))) :: T) := hD
  exact kk q_141 q_139 fs_142 _ _ (by rw [← hfs_142, ← hfs_140]) hP hD hS
set_option maxHeartbeats 4000000 in
set_option maxRecDepth 100000 in
theorem cM_20 {p : Program} {l : Launch} {e : Env} {R : Room} {s : State} {m : MethodId} {args : Array Value} {below : List Frame} {meth : Method} {c : Code} {Q : State → Prop} {D : va_G} {A : Nat → Prop} {ls : Array Slot} {h0 : Nat} {T : va_W} (hx : p.tables.exec = Jvm.exec) (hb : c.code = cX12_init) (ht : ∀ w ∈ lw_gd, w.before args s = true) (hown : s.vm.findClass RX12 = some m.cls) (hin : meth.name = "<init>") (hK : va_K D vwCl (TY D) s) (hA : ∀ q : Nat, s.heap.size ≤ q → A q) (hRc : 80 ≤ R.cells) (hRs : 35050 ≤ R.slots) (hl : lv_has ls 1 [(0, .ref h0)]) {fs : List Value} (hlen : fs.length = 116) {H : Heap} {locs : List Loc} (hP : va_P D vwCl ((h0, .inr (12, fs)) :: T) H) (hD : va_D A ((h0, .inr (12, fs)) :: T)) (hS : va_S A s.heap H locs)
    (kk : ∀ (q_145 : Nat) (q_143 : Nat) (fs' : List Value) (H : Heap) (locs : List Loc), fs' = ((fs.set 97 (.ref q_143)).set 98 (.ref q_145)) → va_P D vwCl ((h0, .inr (12, fs')) :: (q_145, .inl (D.1 14, 5, .inl (upd (upd (upd (upd (upd (fun _ => 0) 0 115) 1 97) 2 118) 3 101) 4 100))) :: (q_143, .inl (D.1 14, 5, .inl (upd (upd (upd (upd (upd (fun _ => 0) 0 102) 1 114) 2 101) 3 115) 4 104))) :: T) H → va_D A ((h0, .inr (12, fs')) :: (q_145, .inl (D.1 14, 5, .inl (upd (upd (upd (upd (upd (fun _ => 0) 0 115) 1 97) 2 118) 3 101) 4 100))) :: (q_143, .inl (D.1 14, 5, .inl (upd (upd (upd (upd (upd (fun _ => 0) 0 102) 1 114) 2 101) 3 115) 4 104))) :: T) → va_S A s.heap H locs → W p l e R s m args below meth c H locs 72 27746 Q (F0 m 1619 ls [])) : W p l e R s m args below meth c H locs 70 27736 Q (F0 m 1555 ls []) := by
  refine lv_aload_n hx hb dX12_init_1555 rfl (lv_at hl 0 rfl) ?_
  refine lv_iconst (v := 5) hx hb dX12_init_1556 (by decide) ?_
  refine va_newa (atype := .char) (a0 := (5, .inl (fun _ => 0))) (ty := .char) (N' := 5) hx hb (ht _ ac_char) rfl hK hP hD hS hA (fun _ => rfl) (by decide) (by decide) (by decide) (Nat.le_trans (Nat.le_of_ble_eq_true rfl) hRc) (Nat.le_trans (Nat.le_of_ble_eq_true rfl) hRs) dX12_init_1557 (fun q_143 cA H hK2 hP hD hS => ?_)
  obtain rfl := z_cls_char hK hK2
  refine W.widen (k := 71) (n := 27741) (Nat.le_of_ble_eq_true rfl) (Nat.le_of_ble_eq_true rfl) ?_
  obtain ⟨hP, hD⟩ := z_rot hP hD
  have hP : va_P D vwCl ((h0, .inr (12, fs)) :: (q_143, .inl (D.1 14, 5, .inl (fun _ => 0))) :: T) H := hP
  have hD : va_D A ((h0, .inr (12, fs)) :: (q_143, .inl (D.1 14, 5, .inl (fun _ => 0))) :: T) := hD
  refine lv_dup hx hb dX12_init_1559 rfl ?_
  refine lv_iconst (v := 0) hx hb dX12_init_1560 (by decide) ?_
  refine lv_bipush (v := 102) hx hb dX12_init_1561 (by decide) ?_
  refine va_cast hx hb hK hP hD hS 1 1 rfl rfl (z_in (by decide) (by decide)) dX12_init_1563 (fun H locs hP hD hS => ?_)
  have hP : va_P D vwCl ((h0, .inr (12, fs)) :: (q_143, .inl (D.1 14, 5, .inl (upd (fun _ => 0) 0 102))) :: T) H := hP
  have hD : va_D A ((h0, .inr (12, fs)) :: (q_143, .inl (D.1 14, 5, .inl (upd (fun _ => 0) 0 102))) :: T) := hD
  refine lv_dup hx hb dX12_init_1564 rfl ?_
  refine lv_iconst (v := 1) hx hb dX12_init_1565 (by decide) ?_
  refine lv_bipush (v := 114) hx hb dX12_init_1566 (by decide) ?_
  refine va_cast hx hb hK hP hD hS 1 1 rfl rfl (z_in (by decide) (by decide)) dX12_init_1568 (fun H locs hP hD hS => ?_)
  have hP : va_P D vwCl ((h0, .inr (12, fs)) :: (q_143, .inl (D.1 14, 5, .inl (upd (upd (fun _ => 0) 0 102) 1 114))) :: T) H := hP
  have hD : va_D A ((h0, .inr (12, fs)) :: (q_143, .inl (D.1 14, 5, .inl (upd (upd (fun _ => 0) 0 102) 1 114))) :: T) := hD
  refine lv_dup hx hb dX12_init_1569 rfl ?_
  refine lv_iconst (v := 2) hx hb dX12_init_1570 (by decide) ?_
  refine lv_bipush (v := 101) hx hb dX12_init_1571 (by decide) ?_
  refine va_cast hx hb hK hP hD hS 1 1 rfl rfl (z_in (by decide) (by decide)) dX12_init_1573 (fun H locs hP hD hS => ?_)
  have hP : va_P D vwCl ((h0, .inr (12, fs)) :: (q_143, .inl (D.1 14, 5, .inl (upd (upd (upd (fun _ => 0) 0 102) 1 114) 2 101))) :: T) H := hP
  have hD : va_D A ((h0, .inr (12, fs)) :: (q_143, .inl (D.1 14, 5, .inl (upd (upd (upd (fun _ => 0) 0 102) 1 114) 2 101))) :: T) := hD
  refine lv_dup hx hb dX12_init_1574 rfl ?_
  refine lv_iconst (v := 3) hx hb dX12_init_1575 (by decide) ?_
  refine lv_bipush (v := 115) hx hb dX12_init_1576 (by decide) ?_
  refine va_cast hx hb hK hP hD hS 1 1 rfl rfl (z_in (by decide) (by decide)) dX12_init_1578 (fun H locs hP hD hS => ?_)
  have hP : va_P D vwCl ((h0, .inr (12, fs)) :: (q_143, .inl (D.1 14, 5, .inl (upd (upd (upd (upd (fun _ => 0) 0 102) 1 114) 2 101) 3 115))) :: T) H := hP
  have hD : va_D A ((h0, .inr (12, fs)) :: (q_143, .inl (D.1 14, 5, .inl (upd (upd (upd (upd (fun _ => 0) 0 102) 1 114) 2 101) 3 115))) :: T) := hD
  refine lv_dup hx hb dX12_init_1579 rfl ?_
  refine lv_iconst (v := 4) hx hb dX12_init_1580 (by decide) ?_
  refine lv_bipush (v := 104) hx hb dX12_init_1581 (by decide) ?_
  refine va_cast hx hb hK hP hD hS 1 1 rfl rfl (z_in (by decide) (by decide)) dX12_init_1583 (fun H locs hP hD hS => ?_)
  have hP : va_P D vwCl ((h0, .inr (12, fs)) :: (q_143, .inl (D.1 14, 5, .inl (upd (upd (upd (upd (upd (fun _ => 0) 0 102) 1 114) 2 101) 3 115) 4 104))) :: T) H := hP
  have hD : va_D A ((h0, .inr (12, fs)) :: (q_143, .inl (D.1 14, 5, .inl (upd (upd (upd (upd (upd (fun _ => 0) 0 102) 1 114) 2 101) 3 115) 4 104))) :: T) := hD
  refine va_putF (D := D) (ci := 12) (v := .ref q_143) (ty := .array .char) (C := RX12) (T := TX12) (N := 116) hx hb ht inX12 tyX12 tyX12_ok nmX12 hown hK hP hD hS 0 rfl rfl 97 (by decide) (ht (.fieldLink RX12 231 "CloneVolumesModel" "freshAsked" "[C") fl_X12_231) (fun _ h9 => h9) rfl hin rfl (by decide +kernel) rfl rfl (by rw [hlen]; decide) dX12_init_1584 (fun H locs hP hD hS => ?_)
  have hP : va_P D vwCl ((h0, .inr (12, (fs.set 97 (.ref q_143)))) :: (q_143, .inl (D.1 14, 5, .inl (upd (upd (upd (upd (upd (fun _ => 0) 0 102) 1 114) 2 101) 3 115) 4 104))) :: T) H := hP
  have hD : va_D A ((h0, .inr (12, (fs.set 97 (.ref q_143)))) :: (q_143, .inl (D.1 14, 5, .inl (upd (upd (upd (upd (upd (fun _ => 0) 0 102) 1 114) 2 101) 3 115) 4 104))) :: T) := hD
  generalize hfs_144 : fs.set 97 (.ref q_143) = fs_144 at hP hD
  have hlen : fs_144.length = 116 := by rw [← hfs_144, List.length_set]; exact hlen
  have hP : va_P D vwCl ((h0, .inr (12, fs_144)) :: (q_143, .inl (D.1 14, 5, .inl (upd (upd (upd (upd (upd (fun _ => 0) 0 102) 1 114) 2 101) 3 115) 4 104))) :: T) H := hP
  have hD : va_D A ((h0, .inr (12, fs_144)) :: (q_143, .inl (D.1 14, 5, .inl (upd (upd (upd (upd (upd (fun _ => 0) 0 102) 1 114) 2 101) 3 115) 4 104))) :: T) := hD
  refine lv_aload_n hx hb dX12_init_1587 rfl (lv_at hl 0 rfl) ?_
  refine lv_iconst (v := 5) hx hb dX12_init_1588 (by decide) ?_
  refine va_newa (atype := .char) (a0 := (5, .inl (fun _ => 0))) (ty := .char) (N' := 5) hx hb (ht _ ac_char) rfl hK hP hD hS hA (fun _ => rfl) (by decide) (by decide) (by decide) (Nat.le_trans (Nat.le_of_ble_eq_true rfl) hRc) (Nat.le_trans (Nat.le_of_ble_eq_true rfl) hRs) dX12_init_1589 (fun q_145 cA H hK2 hP hD hS => ?_)
  obtain rfl := z_cls_char hK hK2
  refine W.widen (k := 72) (n := 27746) (Nat.le_of_ble_eq_true rfl) (Nat.le_of_ble_eq_true rfl) ?_
  obtain ⟨hP, hD⟩ := z_rot hP hD
  have hP : va_P D vwCl ((h0, .inr (12, fs_144)) :: (q_145, .inl (D.1 14, 5, .inl (fun _ => 0))) :: (q_143, .inl (D.1 14, 5, .inl (upd (upd (upd (upd (upd (fun _ => 0) 0 102) 1 114) 2 101) 3 115) 4 104))) :: T) H := hP
  have hD : va_D A ((h0, .inr (12, fs_144)) :: (q_145, .inl (D.1 14, 5, .inl (fun _ => 0))) :: (q_143, .inl (D.1 14, 5, .inl (upd (upd (upd (upd (upd (fun _ => 0) 0 102) 1 114) 2 101) 3 115) 4 104))) :: T) := hD
  refine lv_dup hx hb dX12_init_1591 rfl ?_
  refine lv_iconst (v := 0) hx hb dX12_init_1592 (by decide) ?_
  refine lv_bipush (v := 115) hx hb dX12_init_1593 (by decide) ?_
  refine va_cast hx hb hK hP hD hS 1 1 rfl rfl (z_in (by decide) (by decide)) dX12_init_1595 (fun H locs hP hD hS => ?_)
  have hP : va_P D vwCl ((h0, .inr (12, fs_144)) :: (q_145, .inl (D.1 14, 5, .inl (upd (fun _ => 0) 0 115))) :: (q_143, .inl (D.1 14, 5, .inl (upd (upd (upd (upd (upd (fun _ => 0) 0 102) 1 114) 2 101) 3 115) 4 104))) :: T) H := hP
  have hD : va_D A ((h0, .inr (12, fs_144)) :: (q_145, .inl (D.1 14, 5, .inl (upd (fun _ => 0) 0 115))) :: (q_143, .inl (D.1 14, 5, .inl (upd (upd (upd (upd (upd (fun _ => 0) 0 102) 1 114) 2 101) 3 115) 4 104))) :: T) := hD
  refine lv_dup hx hb dX12_init_1596 rfl ?_
  refine lv_iconst (v := 1) hx hb dX12_init_1597 (by decide) ?_
  refine lv_bipush (v := 97) hx hb dX12_init_1598 (by decide) ?_
  refine va_cast hx hb hK hP hD hS 1 1 rfl rfl (z_in (by decide) (by decide)) dX12_init_1600 (fun H locs hP hD hS => ?_)
  have hP : va_P D vwCl ((h0, .inr (12, fs_144)) :: (q_145, .inl (D.1 14, 5, .inl (upd (upd (fun _ => 0) 0 115) 1 97))) :: (q_143, .inl (D.1 14, 5, .inl (upd (upd (upd (upd (upd (fun _ => 0) 0 102) 1 114) 2 101) 3 115) 4 104))) :: T) H := hP
  have hD : va_D A ((h0, .inr (12, fs_144)) :: (q_145, .inl (D.1 14, 5, .inl (upd (upd (fun _ => 0) 0 115) 1 97))) :: (q_143, .inl (D.1 14, 5, .inl (upd (upd (upd (upd (upd (fun _ => 0) 0 102) 1 114) 2 101) 3 115) 4 104))) :: T) := hD
  refine lv_dup hx hb dX12_init_1601 rfl ?_
  refine lv_iconst (v := 2) hx hb dX12_init_1602 (by decide) ?_
  refine lv_bipush (v := 118) hx hb dX12_init_1603 (by decide) ?_
  refine va_cast hx hb hK hP hD hS 1 1 rfl rfl (z_in (by decide) (by decide)) dX12_init_1605 (fun H locs hP hD hS => ?_)
  have hP : va_P D vwCl ((h0, .inr (12, fs_144)) :: (q_145, .inl (D.1 14, 5, .inl (upd (upd (upd (fun _ => 0) 0 115) 1 97) 2 118))) :: (q_143, .inl (D.1 14, 5, .inl (upd (upd (upd (upd (upd (fun _ => 0) 0 102) 1 114) 2 101) 3 115) 4 104))) :: T) H := hP
  have hD : va_D A ((h0, .inr (12, fs_144)) :: (q_145, .inl (D.1 14, 5, .inl (upd (upd (upd (fun _ => 0) 0 115) 1 97) 2 118))) :: (q_143, .inl (D.1 14, 5, .inl (upd (upd (upd (upd (upd (fun _ => 0) 0 102) 1 114) 2 101) 3 115) 4 104))) :: T) := hD
  refine lv_dup hx hb dX12_init_1606 rfl ?_
  refine lv_iconst (v := 3) hx hb dX12_init_1607 (by decide) ?_
  refine lv_bipush (v := 101) hx hb dX12_init_1608 (by decide) ?_
  refine va_cast hx hb hK hP hD hS 1 1 rfl rfl (z_in (by decide) (by decide)) dX12_init_1610 (fun H locs hP hD hS => ?_)
  have hP : va_P D vwCl ((h0, .inr (12, fs_144)) :: (q_145, .inl (D.1 14, 5, .inl (upd (upd (upd (upd (fun _ => 0) 0 115) 1 97) 2 118) 3 101))) :: (q_143, .inl (D.1 14, 5, .inl (upd (upd (upd (upd (upd (fun _ => 0) 0 102) 1 114) 2 101) 3 115) 4 104))) :: T) H := hP
  have hD : va_D A ((h0, .inr (12, fs_144)) :: (q_145, .inl (D.1 14, 5, .inl (upd (upd (upd (upd (fun _ => 0) 0 115) 1 97) 2 118) 3 101))) :: (q_143, .inl (D.1 14, 5, .inl (upd (upd (upd (upd (upd (fun _ => 0) 0 102) 1 114) 2 101) 3 115) 4 104))) :: T) := hD
  refine lv_dup hx hb dX12_init_1611 rfl ?_
  refine lv_iconst (v := 4) hx hb dX12_init_1612 (by decide) ?_
  refine lv_bipush (v := 100) hx hb dX12_init_1613 (by decide) ?_
  refine va_cast hx hb hK hP hD hS 1 1 rfl rfl (z_in (by decide) (by decide)) dX12_init_1615 (fun H locs hP hD hS => ?_)
  have hP : va_P D vwCl ((h0, .inr (12, fs_144)) :: (q_145, .inl (D.1 14, 5, .inl (upd (upd (upd (upd (upd (fun _ => 0) 0 115) 1 97) 2 118) 3 101) 4 100))) :: (q_143, .inl (D.1 14, 5, .inl (upd (upd (upd (upd (upd (fun _ => 0) 0 102) 1 114) 2 101) 3 115) 4 104))) :: T) H := hP
  have hD : va_D A ((h0, .inr (12, fs_144)) :: (q_145, .inl (D.1 14, 5, .inl (upd (upd (upd (upd (upd (fun _ => 0) 0 115) 1 97) 2 118) 3 101) 4 100))) :: (q_143, .inl (D.1 14, 5, .inl (upd (upd (upd (upd (upd (fun _ => 0) 0 102) 1 114) 2 101) 3 115) 4 104))) :: T) := hD
  refine va_putF (D := D) (ci := 12) (v := .ref q_145) (ty := .array .char) (C := RX12) (T := TX12) (N := 116) hx hb ht inX12 tyX12 tyX12_ok nmX12 hown hK hP hD hS 0 rfl rfl 98 (by decide) (ht (.fieldLink RX12 234 "CloneVolumesModel" "savedAsked" "[C") fl_X12_234) (fun _ h9 => h9) rfl hin rfl (by decide +kernel) rfl rfl (by rw [hlen]; decide) dX12_init_1616 (fun H locs hP hD hS => ?_)
  have hP : va_P D vwCl ((h0, .inr (12, (fs_144.set 98 (.ref q_145)))) :: (q_145, .inl (D.1 14, 5, .inl (upd (upd (upd (upd (upd (fun _ => 0) 0 115) 1 97) 2 118) 3 101) 4 100))) :: (q_143, .inl (D.1 14, 5, .inl (upd (upd (upd (upd (upd (fun _ => 0) 0 102) 1 114) 2 101) 3 115) 4 104))) :: T) H := hP
  have hD : va_D A ((h0, .inr (12, (fs_144.set 98 (.ref q_145)))) :: (q_145, .inl (D.1 14, 5, .inl (upd (upd (upd (upd (upd (fun _ => 0) 0 115) 1 97) 2 118) 3 101) 4 100))) :: (q_143, .inl (D.1 14, 5, .inl (upd (upd (upd (upd (upd (fun _ => 0) 0 102) 1 114) 2 101) 3 115) 4 104))) :: T) := hD
  generalize hfs_146 : fs_144.set 98 (.ref q_145) = fs_146 at hP hD
  have hlen : fs_146.length = 116 := by rw [← hfs_146, List.length_set]; exact hlen
  have hP : va_P D vwCl ((h0, .inr (12, fs_146)) :: (q_145, .inl (D.1 14, 5, .inl (upd (upd (upd (upd (upd (fun _ => 0) 0 115) 1 97) 2 118) 3 101) 4 100))) :: (q_143, .inl (D.1 14, 5, .inl (upd (upd (upd (upd (upd (fun _ => 0) 0 102) 1 114) 2 101) 3 115) 4 104))) :: T) H := hP
  have hD : va_D A ((h0, .inr (12, fs_146)) :: (q_145, .inl (D.1 14, 5, .inl (upd (upd (upd (upd (upd (fun _ => 0) 0 115) 1 97) 2 118) 3 101) 4 100))) :: (q_143, .inl (D.1 14, 5, .inl (upd (upd (upd (upd (upd (fun _ => 0) 0 102) 1 114) 2 101) 3 115) 4 104))) :: T) := hD
  exact kk q_145 q_143 fs_146 _ _ (by rw [← hfs_146, ← hfs_144]) hP hD hS
