/-! The law: what stands at its places, 6. -/
theorem dC_1184 : decode code 1184 = .ok (.laload, 1) := by decide +kernel
theorem dC_1185 : decode code 1185 = .ok (.iload 7, 2) := by decide +kernel
theorem dC_1187 : decode code 1187 = .ok (.i2l, 1) := by decide +kernel
theorem dC_1188 : decode code 1188 = .ok (.lcmp, 1) := by decide +kernel
theorem dC_1189 : decode code 1189 = .ok (.ifCond .eq 5, 3) := by decide +kernel
theorem dC_1194 : decode code 1194 = .ok (.goto 557, 3) := by decide +kernel
theorem dC_1197 : decode code 1197 = .ok (.aload_n 1, 1) := by decide +kernel
theorem dC_1198 : decode code 1198 = .ok (.aload_n 0, 1) := by decide +kernel
theorem dC_1199 : decode code 1199 = .ok (.iload 5, 2) := by decide +kernel
theorem dC_1201 : decode code 1201 = .ok (.iconst 1, 1) := by decide +kernel
theorem dC_1202 : decode code 1202 = .ok (.iadd, 1) := by decide +kernel
theorem dC_1203 : decode code 1203 = .ok (.iaload, 1) := by decide +kernel
theorem dC_1204 : decode code 1204 = .ok (.aload 4, 2) := by decide +kernel
theorem dC_1206 : decode code 1206 = .ok (.invokestatic 166, 3) := by decide +kernel
theorem dC_1209 : decode code 1209 = .ok (.istore 6, 2) := by decide +kernel
theorem dC_1211 : decode code 1211 = .ok (.aload_n 2, 1) := by decide +kernel
theorem dC_1212 : decode code 1212 = .ok (.aload_n 0, 1) := by decide +kernel
theorem dC_1213 : decode code 1213 = .ok (.iload 5, 2) := by decide +kernel
theorem dC_1215 : decode code 1215 = .ok (.iconst 1, 1) := by decide +kernel
theorem dC_1216 : decode code 1216 = .ok (.iadd, 1) := by decide +kernel
theorem dC_1217 : decode code 1217 = .ok (.iaload, 1) := by decide +kernel
theorem dC_1218 : decode code 1218 = .ok (.invokevirtual 169, 3) := by decide +kernel
theorem dC_1221 : decode code 1221 = .ok (.dstore 7, 2) := by decide +kernel
theorem dC_1223 : decode code 1223 = .ok (.aload_n 2, 1) := by decide +kernel
theorem dC_1224 : decode code 1224 = .ok (.invokevirtual 110, 3) := by decide +kernel
theorem dC_1227 : decode code 1227 = .ok (.iload 6, 2) := by decide +kernel
theorem dC_1229 : decode code 1229 = .ok (.if_icmp .eq 5, 3) := by decide +kernel
theorem dC_1234 : decode code 1234 = .ok (.iload 6, 2) := by decide +kernel
theorem dC_1236 : decode code 1236 = .ok (.ifCond .ne 35, 3) := by decide +kernel
theorem dC_1239 : decode code 1239 = .ok (.aload 4, 2) := by decide +kernel
theorem dC_1241 : decode code 1241 = .ok (.iconst 0, 1) := by decide +kernel
theorem dC_1242 : decode code 1242 = .ok (.daload, 1) := by decide +kernel
theorem dC_1243 : decode code 1243 = .ok (.dload 7, 2) := by decide +kernel
theorem dC_1245 : decode code 1245 = .ok (.dcmp .l, 1) := by decide +kernel
theorem dC_1246 : decode code 1246 = .ok (.ifCond .eq 25, 3) := by decide +kernel
theorem dC_1249 : decode code 1249 = .ok (.aload 4, 2) := by decide +kernel
theorem dC_1251 : decode code 1251 = .ok (.iconst 0, 1) := by decide +kernel
theorem dC_1252 : decode code 1252 = .ok (.daload, 1) := by decide +kernel
theorem dC_1253 : decode code 1253 = .ok (.aload 4, 2) := by decide +kernel
theorem dC_1255 : decode code 1255 = .ok (.iconst 0, 1) := by decide +kernel
theorem dC_1256 : decode code 1256 = .ok (.daload, 1) := by decide +kernel
theorem dC_1257 : decode code 1257 = .ok (.dcmp .l, 1) := by decide +kernel
theorem dC_1258 : decode code 1258 = .ok (.ifCond .eq 11, 3) := by decide +kernel
theorem dC_1261 : decode code 1261 = .ok (.dload 7, 2) := by decide +kernel
theorem dC_1263 : decode code 1263 = .ok (.dload 7, 2) := by decide +kernel
theorem dC_1265 : decode code 1265 = .ok (.dcmp .l, 1) := by decide +kernel
theorem dC_1266 : decode code 1266 = .ok (.ifCond .ne 5, 3) := by decide +kernel
theorem dC_1271 : decode code 1271 = .ok (.goto 480, 3) := by decide +kernel
theorem dC_1274 : decode code 1274 = .ok (.aload_n 1, 1) := by decide +kernel
theorem dC_1275 : decode code 1275 = .ok (.aload_n 0, 1) := by decide +kernel
theorem dC_1276 : decode code 1276 = .ok (.iload 5, 2) := by decide +kernel
theorem dC_1278 : decode code 1278 = .ok (.iconst 1, 1) := by decide +kernel
theorem dC_1279 : decode code 1279 = .ok (.iadd, 1) := by decide +kernel
theorem dC_1280 : decode code 1280 = .ok (.iaload, 1) := by decide +kernel
theorem dC_1281 : decode code 1281 = .ok (.aload_n 3, 1) := by decide +kernel
theorem dC_1282 : decode code 1282 = .ok (.invokestatic 170, 3) := by decide +kernel
theorem dC_1285 : decode code 1285 = .ok (.istore 6, 2) := by decide +kernel
theorem dC_1287 : decode code 1287 = .ok (.aload_n 2, 1) := by decide +kernel
theorem dC_1288 : decode code 1288 = .ok (.aload_n 0, 1) := by decide +kernel
theorem dC_1289 : decode code 1289 = .ok (.iload 5, 2) := by decide +kernel
theorem dC_1291 : decode code 1291 = .ok (.iconst 1, 1) := by decide +kernel
theorem dC_1292 : decode code 1292 = .ok (.iadd, 1) := by decide +kernel
theorem dC_1293 : decode code 1293 = .ok (.iaload, 1) := by decide +kernel
theorem dC_1294 : decode code 1294 = .ok (.invokevirtual 172, 3) := by decide +kernel
theorem dC_1297 : decode code 1297 = .ok (.istore 7, 2) := by decide +kernel
theorem dC_1299 : decode code 1299 = .ok (.aload_n 2, 1) := by decide +kernel
theorem dC_1300 : decode code 1300 = .ok (.invokevirtual 110, 3) := by decide +kernel
theorem dC_1303 : decode code 1303 = .ok (.iload 6, 2) := by decide +kernel
theorem dC_1305 : decode code 1305 = .ok (.if_icmp .eq 5, 3) := by decide +kernel
theorem dC_1310 : decode code 1310 = .ok (.iload 6, 2) := by decide +kernel
theorem dC_1312 : decode code 1312 = .ok (.ifCond .ne 15, 3) := by decide +kernel
theorem dC_1315 : decode code 1315 = .ok (.aload_n 3, 1) := by decide +kernel
theorem dC_1316 : decode code 1316 = .ok (.iconst 0, 1) := by decide +kernel
theorem dC_1317 : decode code 1317 = .ok (.laload, 1) := by decide +kernel
theorem dC_1318 : decode code 1318 = .ok (.iload 7, 2) := by decide +kernel
theorem dC_1320 : decode code 1320 = .ok (.i2l, 1) := by decide +kernel
theorem dC_1321 : decode code 1321 = .ok (.lcmp, 1) := by decide +kernel
theorem dC_1322 : decode code 1322 = .ok (.ifCond .eq 5, 3) := by decide +kernel
theorem dC_1327 : decode code 1327 = .ok (.goto 424, 3) := by decide +kernel
theorem dC_1330 : decode code 1330 = .ok (.aload_n 1, 1) := by decide +kernel
theorem dC_1331 : decode code 1331 = .ok (.aload_n 0, 1) := by decide +kernel
theorem dC_1332 : decode code 1332 = .ok (.iload 5, 2) := by decide +kernel
theorem dC_1334 : decode code 1334 = .ok (.iconst 1, 1) := by decide +kernel
theorem dC_1335 : decode code 1335 = .ok (.iadd, 1) := by decide +kernel
theorem dC_1336 : decode code 1336 = .ok (.iaload, 1) := by decide +kernel
theorem dC_1337 : decode code 1337 = .ok (.aload_n 3, 1) := by decide +kernel
theorem dC_1338 : decode code 1338 = .ok (.invokestatic 173, 3) := by decide +kernel
theorem dC_1341 : decode code 1341 = .ok (.istore 6, 2) := by decide +kernel
theorem dC_1343 : decode code 1343 = .ok (.aload_n 2, 1) := by decide +kernel
theorem dC_1344 : decode code 1344 = .ok (.aload_n 0, 1) := by decide +kernel
theorem dC_1345 : decode code 1345 = .ok (.iload 5, 2) := by decide +kernel
theorem dC_1347 : decode code 1347 = .ok (.iconst 1, 1) := by decide +kernel
theorem dC_1348 : decode code 1348 = .ok (.iadd, 1) := by decide +kernel
theorem dC_1349 : decode code 1349 = .ok (.iaload, 1) := by decide +kernel
theorem dC_1350 : decode code 1350 = .ok (.invokevirtual 175, 3) := by decide +kernel
theorem dC_1353 : decode code 1353 = .ok (.istore 7, 2) := by decide +kernel
theorem dC_1355 : decode code 1355 = .ok (.aload_n 2, 1) := by decide +kernel
theorem dC_1356 : decode code 1356 = .ok (.invokevirtual 110, 3) := by decide +kernel
theorem dC_1359 : decode code 1359 = .ok (.iload 6, 2) := by decide +kernel
theorem dC_1361 : decode code 1361 = .ok (.if_icmp .eq 5, 3) := by decide +kernel
theorem dC_1366 : decode code 1366 = .ok (.iload 6, 2) := by decide +kernel
theorem dC_1368 : decode code 1368 = .ok (.ifCond .ne 15, 3) := by decide +kernel
theorem dC_1371 : decode code 1371 = .ok (.aload_n 3, 1) := by decide +kernel
theorem dC_1372 : decode code 1372 = .ok (.iconst 0, 1) := by decide +kernel
theorem dC_1373 : decode code 1373 = .ok (.laload, 1) := by decide +kernel
theorem dC_1374 : decode code 1374 = .ok (.iload 7, 2) := by decide +kernel
theorem dC_1376 : decode code 1376 = .ok (.i2l, 1) := by decide +kernel
theorem dC_1377 : decode code 1377 = .ok (.lcmp, 1) := by decide +kernel
theorem dC_1378 : decode code 1378 = .ok (.ifCond .eq 5, 3) := by decide +kernel
theorem dC_1383 : decode code 1383 = .ok (.goto 368, 3) := by decide +kernel
theorem dC_1386 : decode code 1386 = .ok (.aload_n 1, 1) := by decide +kernel
theorem dC_1387 : decode code 1387 = .ok (.aload_n 0, 1) := by decide +kernel
theorem dC_1388 : decode code 1388 = .ok (.iload 5, 2) := by decide +kernel
theorem dC_1390 : decode code 1390 = .ok (.iconst 1, 1) := by decide +kernel
theorem dC_1391 : decode code 1391 = .ok (.iadd, 1) := by decide +kernel
theorem dC_1392 : decode code 1392 = .ok (.iaload, 1) := by decide +kernel
theorem dC_1393 : decode code 1393 = .ok (.aload_n 0, 1) := by decide +kernel
theorem dC_1394 : decode code 1394 = .ok (.iload 5, 2) := by decide +kernel
theorem dC_1396 : decode code 1396 = .ok (.iconst 2, 1) := by decide +kernel
theorem dC_1397 : decode code 1397 = .ok (.iadd, 1) := by decide +kernel
theorem dC_1398 : decode code 1398 = .ok (.iaload, 1) := by decide +kernel
theorem dC_1399 : decode code 1399 = .ok (.aload_n 3, 1) := by decide +kernel
theorem dC_1400 : decode code 1400 = .ok (.invokestatic 176, 3) := by decide +kernel
theorem dC_1403 : decode code 1403 = .ok (.istore 6, 2) := by decide +kernel
theorem dC_1405 : decode code 1405 = .ok (.aload_n 2, 1) := by decide +kernel
theorem dC_1406 : decode code 1406 = .ok (.aload_n 0, 1) := by decide +kernel
theorem dC_1407 : decode code 1407 = .ok (.iload 5, 2) := by decide +kernel
theorem dC_1409 : decode code 1409 = .ok (.iconst 1, 1) := by decide +kernel
theorem dC_1410 : decode code 1410 = .ok (.iadd, 1) := by decide +kernel
theorem dC_1411 : decode code 1411 = .ok (.iaload, 1) := by decide +kernel
