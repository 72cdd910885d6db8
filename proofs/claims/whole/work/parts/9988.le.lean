-- ===== the law: facts (3) =====
theorem dL_law_1167 : Ins mL_law 1167 (.iconst 4) 1 1168 := ⟨by decide +kernel, rfl⟩
theorem dL_law_1168 : Ins mL_law 1168 (.iadd) 1 1169 := ⟨by decide +kernel, rfl⟩
theorem dL_law_1169 : Ins mL_law 1169 (.iaload) 1 1170 := ⟨by decide +kernel, rfl⟩
theorem dL_law_1170 : Ins mL_law 1170 (.ifCond .eq 7) 3 1173 := ⟨by decide +kernel, rfl⟩
theorem dL_law_1173 : Ins mL_law 1173 (.iconst 1) 1 1174 := ⟨by decide +kernel, rfl⟩
theorem dL_law_1174 : Ins mL_law 1174 (.goto 4) 3 1177 := ⟨by decide +kernel, rfl⟩
theorem dL_law_1177 : Ins mL_law 1177 (.iconst 0) 1 1178 := ⟨by decide +kernel, rfl⟩
theorem dL_law_1178 : CalV mL_law 1178 1181 mX10_gale := ⟨149, by decide +kernel, rfl, tb_5 (List.mem_of_getElem? (i := 90) (by decide +kernel)) rfl, meX10_gale⟩
theorem dL_law_1181 : Ins mL_law 1181 (.aload_n 2) 1 1182 := ⟨by decide +kernel, rfl⟩
theorem dL_law_1182 : Ins mL_law 1182 (.aload_n 0) 1 1183 := ⟨by decide +kernel, rfl⟩
theorem dL_law_1183 : Ins mL_law 1183 (.iload_n 3) 1 1184 := ⟨by decide +kernel, rfl⟩
theorem dL_law_1184 : Ins mL_law 1184 (.iconst 1) 1 1185 := ⟨by decide +kernel, rfl⟩
theorem dL_law_1185 : Ins mL_law 1185 (.iadd) 1 1186 := ⟨by decide +kernel, rfl⟩
theorem dL_law_1186 : Ins mL_law 1186 (.iaload) 1 1187 := ⟨by decide +kernel, rfl⟩
theorem dL_law_1187 : Ins mL_law 1187 (.aload_n 0) 1 1188 := ⟨by decide +kernel, rfl⟩
theorem dL_law_1188 : Ins mL_law 1188 (.iload_n 3) 1 1189 := ⟨by decide +kernel, rfl⟩
theorem dL_law_1189 : Ins mL_law 1189 (.iconst 2) 1 1190 := ⟨by decide +kernel, rfl⟩
theorem dL_law_1190 : Ins mL_law 1190 (.iadd) 1 1191 := ⟨by decide +kernel, rfl⟩
theorem dL_law_1191 : Ins mL_law 1191 (.iaload) 1 1192 := ⟨by decide +kernel, rfl⟩
theorem dL_law_1192 : Ins mL_law 1192 (.aload_n 0) 1 1193 := ⟨by decide +kernel, rfl⟩
theorem dL_law_1193 : Ins mL_law 1193 (.iload_n 3) 1 1194 := ⟨by decide +kernel, rfl⟩
theorem dL_law_1194 : Ins mL_law 1194 (.iconst 3) 1 1195 := ⟨by decide +kernel, rfl⟩
theorem dL_law_1195 : Ins mL_law 1195 (.iadd) 1 1196 := ⟨by decide +kernel, rfl⟩
theorem dL_law_1196 : Ins mL_law 1196 (.iaload) 1 1197 := ⟨by decide +kernel, rfl⟩
theorem dL_law_1197 : Ins mL_law 1197 (.aload_n 0) 1 1198 := ⟨by decide +kernel, rfl⟩
theorem dL_law_1198 : Ins mL_law 1198 (.iload_n 3) 1 1199 := ⟨by decide +kernel, rfl⟩
theorem dL_law_1199 : Ins mL_law 1199 (.iconst 4) 1 1200 := ⟨by decide +kernel, rfl⟩
theorem dL_law_1200 : Ins mL_law 1200 (.iadd) 1 1201 := ⟨by decide +kernel, rfl⟩
theorem dL_law_1201 : Ins mL_law 1201 (.iaload) 1 1202 := ⟨by decide +kernel, rfl⟩
theorem dL_law_1202 : Ins mL_law 1202 (.ifCond .eq 7) 3 1205 := ⟨by decide +kernel, rfl⟩
theorem dL_law_1205 : Ins mL_law 1205 (.iconst 1) 1 1206 := ⟨by decide +kernel, rfl⟩
theorem dL_law_1206 : Ins mL_law 1206 (.goto 4) 3 1209 := ⟨by decide +kernel, rfl⟩
theorem dL_law_1209 : Ins mL_law 1209 (.iconst 0) 1 1210 := ⟨by decide +kernel, rfl⟩
theorem dL_law_1210 : CalV mL_law 1210 1213 mX11_gale := ⟨152, by decide +kernel, rfl, tb_8 (List.mem_of_getElem? (i := 72) (by decide +kernel)) rfl, meX11_gale⟩
theorem dL_law_1213 : Ins mL_law 1213 (.lcmp) 1 1214 := ⟨by decide +kernel, rfl⟩
theorem dL_law_1214 : Ins mL_law 1214 (.ifCond .eq 303) 3 1217 := ⟨by decide +kernel, rfl⟩
theorem dL_law_1217 : Ins mL_law 1217 (.iconst 0) 1 1218 := ⟨by decide +kernel, rfl⟩
theorem dL_law_1218 : Ins mL_law 1218 (.ireturn) 1 1219 := ⟨by decide +kernel, rfl⟩
theorem dL_law_1219 : Ins mL_law 1219 (.aload_n 1) 1 1220 := ⟨by decide +kernel, rfl⟩
theorem dL_law_1220 : Ins mL_law 1220 (.aload_n 0) 1 1221 := ⟨by decide +kernel, rfl⟩
theorem dL_law_1221 : Ins mL_law 1221 (.iload_n 3) 1 1222 := ⟨by decide +kernel, rfl⟩
theorem dL_law_1222 : Ins mL_law 1222 (.iconst 1) 1 1223 := ⟨by decide +kernel, rfl⟩
theorem dL_law_1223 : Ins mL_law 1223 (.iadd) 1 1224 := ⟨by decide +kernel, rfl⟩
theorem dL_law_1224 : Ins mL_law 1224 (.iaload) 1 1225 := ⟨by decide +kernel, rfl⟩
theorem dL_law_1225 : CalV mL_law 1225 1228 mX10_ropes := ⟨153, by decide +kernel, rfl, tb_5 (List.mem_of_getElem? (i := 96) (by decide +kernel)) rfl, meX10_ropes⟩
theorem dL_law_1228 : Ins mL_law 1228 (.aload_n 2) 1 1229 := ⟨by decide +kernel, rfl⟩
theorem dL_law_1229 : Ins mL_law 1229 (.aload_n 0) 1 1230 := ⟨by decide +kernel, rfl⟩
theorem dL_law_1230 : Ins mL_law 1230 (.iload_n 3) 1 1231 := ⟨by decide +kernel, rfl⟩
theorem dL_law_1231 : Ins mL_law 1231 (.iconst 1) 1 1232 := ⟨by decide +kernel, rfl⟩
theorem dL_law_1232 : Ins mL_law 1232 (.iadd) 1 1233 := ⟨by decide +kernel, rfl⟩
theorem dL_law_1233 : Ins mL_law 1233 (.iaload) 1 1234 := ⟨by decide +kernel, rfl⟩
theorem dL_law_1234 : CalV mL_law 1234 1237 mX11_ropes := ⟨156, by decide +kernel, rfl, tb_8 (List.mem_of_getElem? (i := 76) (by decide +kernel)) rfl, meX11_ropes⟩
theorem dL_law_1237 : Ins mL_law 1237 (.if_icmp .eq 280) 3 1240 := ⟨by decide +kernel, rfl⟩
theorem dL_law_1240 : Ins mL_law 1240 (.iconst 0) 1 1241 := ⟨by decide +kernel, rfl⟩
theorem dL_law_1241 : Ins mL_law 1241 (.ireturn) 1 1242 := ⟨by decide +kernel, rfl⟩
theorem dL_law_1242 : Ins mL_law 1242 (.aload_n 1) 1 1243 := ⟨by decide +kernel, rfl⟩
theorem dL_law_1243 : Ins mL_law 1243 (.aload_n 0) 1 1244 := ⟨by decide +kernel, rfl⟩
theorem dL_law_1244 : Ins mL_law 1244 (.iload_n 3) 1 1245 := ⟨by decide +kernel, rfl⟩
theorem dL_law_1245 : Ins mL_law 1245 (.iconst 1) 1 1246 := ⟨by decide +kernel, rfl⟩
theorem dL_law_1246 : Ins mL_law 1246 (.iadd) 1 1247 := ⟨by decide +kernel, rfl⟩
theorem dL_law_1247 : Ins mL_law 1247 (.iaload) 1 1248 := ⟨by decide +kernel, rfl⟩
theorem dL_law_1248 : CalV mL_law 1248 1251 mX10_haul := ⟨157, by decide +kernel, rfl, tb_5 (List.mem_of_getElem? (i := 104) (by decide +kernel)) rfl, meX10_haul⟩
theorem dL_law_1251 : Ins mL_law 1251 (.aload_n 2) 1 1252 := ⟨by decide +kernel, rfl⟩
theorem dL_law_1252 : Ins mL_law 1252 (.aload_n 0) 1 1253 := ⟨by decide +kernel, rfl⟩
theorem dL_law_1253 : Ins mL_law 1253 (.iload_n 3) 1 1254 := ⟨by decide +kernel, rfl⟩
theorem dL_law_1254 : Ins mL_law 1254 (.iconst 1) 1 1255 := ⟨by decide +kernel, rfl⟩
theorem dL_law_1255 : Ins mL_law 1255 (.iadd) 1 1256 := ⟨by decide +kernel, rfl⟩
theorem dL_law_1256 : Ins mL_law 1256 (.iaload) 1 1257 := ⟨by decide +kernel, rfl⟩
theorem dL_law_1257 : CalV mL_law 1257 1260 mX11_haul := ⟨160, by decide +kernel, rfl, tb_8 (List.mem_of_getElem? (i := 80) (by decide +kernel)) rfl, meX11_haul⟩
theorem dL_law_1260 : Ins mL_law 1260 (.if_icmp .eq 257) 3 1263 := ⟨by decide +kernel, rfl⟩
theorem dL_law_1263 : Ins mL_law 1263 (.iconst 0) 1 1264 := ⟨by decide +kernel, rfl⟩
theorem dL_law_1264 : Ins mL_law 1264 (.ireturn) 1 1265 := ⟨by decide +kernel, rfl⟩
theorem dL_law_1265 : Ins mL_law 1265 (.aload_n 1) 1 1266 := ⟨by decide +kernel, rfl⟩
theorem dL_law_1266 : Ins mL_law 1266 (.aload_n 0) 1 1267 := ⟨by decide +kernel, rfl⟩
theorem dL_law_1267 : Ins mL_law 1267 (.iload_n 3) 1 1268 := ⟨by decide +kernel, rfl⟩
theorem dL_law_1268 : Ins mL_law 1268 (.iconst 1) 1 1269 := ⟨by decide +kernel, rfl⟩
theorem dL_law_1269 : Ins mL_law 1269 (.iadd) 1 1270 := ⟨by decide +kernel, rfl⟩
theorem dL_law_1270 : Ins mL_law 1270 (.iaload) 1 1271 := ⟨by decide +kernel, rfl⟩
theorem dL_law_1271 : Ins mL_law 1271 (.aload_n 0) 1 1272 := ⟨by decide +kernel, rfl⟩
theorem dL_law_1272 : Ins mL_law 1272 (.iload_n 3) 1 1273 := ⟨by decide +kernel, rfl⟩
theorem dL_law_1273 : Ins mL_law 1273 (.iconst 2) 1 1274 := ⟨by decide +kernel, rfl⟩
theorem dL_law_1274 : Ins mL_law 1274 (.iadd) 1 1275 := ⟨by decide +kernel, rfl⟩
theorem dL_law_1275 : Ins mL_law 1275 (.iaload) 1 1276 := ⟨by decide +kernel, rfl⟩
theorem dL_law_1276 : Ins mL_law 1276 (.ifCond .eq 7) 3 1279 := ⟨by decide +kernel, rfl⟩
theorem dL_law_1279 : Ins mL_law 1279 (.iconst 1) 1 1280 := ⟨by decide +kernel, rfl⟩
theorem dL_law_1280 : Ins mL_law 1280 (.goto 4) 3 1283 := ⟨by decide +kernel, rfl⟩
theorem dL_law_1283 : Ins mL_law 1283 (.iconst 0) 1 1284 := ⟨by decide +kernel, rfl⟩
theorem dL_law_1284 : CalV mL_law 1284 1287 mX10_oilings := ⟨161, by decide +kernel, rfl, tb_5 (List.mem_of_getElem? (i := 108) (by decide +kernel)) rfl, meX10_oilings⟩
theorem dL_law_1287 : Ins mL_law 1287 (.aload_n 2) 1 1288 := ⟨by decide +kernel, rfl⟩
theorem dL_law_1288 : Ins mL_law 1288 (.aload_n 0) 1 1289 := ⟨by decide +kernel, rfl⟩
theorem dL_law_1289 : Ins mL_law 1289 (.iload_n 3) 1 1290 := ⟨by decide +kernel, rfl⟩
theorem dL_law_1290 : Ins mL_law 1290 (.iconst 1) 1 1291 := ⟨by decide +kernel, rfl⟩
theorem dL_law_1291 : Ins mL_law 1291 (.iadd) 1 1292 := ⟨by decide +kernel, rfl⟩
theorem dL_law_1292 : Ins mL_law 1292 (.iaload) 1 1293 := ⟨by decide +kernel, rfl⟩
theorem dL_law_1293 : Ins mL_law 1293 (.aload_n 0) 1 1294 := ⟨by decide +kernel, rfl⟩
theorem dL_law_1294 : Ins mL_law 1294 (.iload_n 3) 1 1295 := ⟨by decide +kernel, rfl⟩
theorem dL_law_1295 : Ins mL_law 1295 (.iconst 2) 1 1296 := ⟨by decide +kernel, rfl⟩
theorem dL_law_1296 : Ins mL_law 1296 (.iadd) 1 1297 := ⟨by decide +kernel, rfl⟩
theorem dL_law_1297 : Ins mL_law 1297 (.iaload) 1 1298 := ⟨by decide +kernel, rfl⟩
theorem dL_law_1298 : Ins mL_law 1298 (.ifCond .eq 7) 3 1301 := ⟨by decide +kernel, rfl⟩
theorem dL_law_1301 : Ins mL_law 1301 (.iconst 1) 1 1302 := ⟨by decide +kernel, rfl⟩
theorem dL_law_1302 : Ins mL_law 1302 (.goto 4) 3 1305 := ⟨by decide +kernel, rfl⟩
theorem dL_law_1305 : Ins mL_law 1305 (.iconst 0) 1 1306 := ⟨by decide +kernel, rfl⟩
theorem dL_law_1306 : CalV mL_law 1306 1309 mX11_oilings := ⟨165, by decide +kernel, rfl, tb_8 (List.mem_of_getElem? (i := 84) (by decide +kernel)) rfl, meX11_oilings⟩
theorem dL_law_1309 : Ins mL_law 1309 (.if_icmp .eq 208) 3 1312 := ⟨by decide +kernel, rfl⟩
theorem dL_law_1312 : Ins mL_law 1312 (.iconst 0) 1 1313 := ⟨by decide +kernel, rfl⟩
theorem dL_law_1313 : Ins mL_law 1313 (.ireturn) 1 1314 := ⟨by decide +kernel, rfl⟩
theorem dL_law_1314 : Ins mL_law 1314 (.aload_n 1) 1 1315 := ⟨by decide +kernel, rfl⟩
theorem dL_law_1315 : Ins mL_law 1315 (.aload_n 0) 1 1316 := ⟨by decide +kernel, rfl⟩
theorem dL_law_1316 : Ins mL_law 1316 (.iload_n 3) 1 1317 := ⟨by decide +kernel, rfl⟩
theorem dL_law_1317 : Ins mL_law 1317 (.iconst 1) 1 1318 := ⟨by decide +kernel, rfl⟩
theorem dL_law_1318 : Ins mL_law 1318 (.iadd) 1 1319 := ⟨by decide +kernel, rfl⟩
theorem dL_law_1319 : Ins mL_law 1319 (.iaload) 1 1320 := ⟨by decide +kernel, rfl⟩
theorem dL_law_1320 : CalV mL_law 1320 1323 mX10_show := ⟨166, by decide +kernel, rfl, tb_5 (List.mem_of_getElem? (i := 120) (by decide +kernel)) rfl, meX10_show⟩
theorem dL_law_1323 : Ins mL_law 1323 (.aload_n 2) 1 1324 := ⟨by decide +kernel, rfl⟩
theorem dL_law_1324 : Ins mL_law 1324 (.aload_n 0) 1 1325 := ⟨by decide +kernel, rfl⟩
theorem dL_law_1325 : Ins mL_law 1325 (.iload_n 3) 1 1326 := ⟨by decide +kernel, rfl⟩
theorem dL_law_1326 : Ins mL_law 1326 (.iconst 1) 1 1327 := ⟨by decide +kernel, rfl⟩
theorem dL_law_1327 : Ins mL_law 1327 (.iadd) 1 1328 := ⟨by decide +kernel, rfl⟩
theorem dL_law_1328 : Ins mL_law 1328 (.iaload) 1 1329 := ⟨by decide +kernel, rfl⟩
theorem dL_law_1329 : CalV mL_law 1329 1332 mX11_show := ⟨169, by decide +kernel, rfl, tb_8 (List.mem_of_getElem? (i := 88) (by decide +kernel)) rfl, meX11_show⟩
theorem dL_law_1332 : Ins mL_law 1332 (.if_icmp .eq 185) 3 1335 := ⟨by decide +kernel, rfl⟩
theorem dL_law_1335 : Ins mL_law 1335 (.iconst 0) 1 1336 := ⟨by decide +kernel, rfl⟩
theorem dL_law_1336 : Ins mL_law 1336 (.ireturn) 1 1337 := ⟨by decide +kernel, rfl⟩
theorem dL_law_1337 : Ins mL_law 1337 (.aload_n 1) 1 1338 := ⟨by decide +kernel, rfl⟩
theorem dL_law_1338 : Ins mL_law 1338 (.aload_n 0) 1 1339 := ⟨by decide +kernel, rfl⟩
theorem dL_law_1339 : Ins mL_law 1339 (.iload_n 3) 1 1340 := ⟨by decide +kernel, rfl⟩
theorem dL_law_1340 : Ins mL_law 1340 (.iconst 1) 1 1341 := ⟨by decide +kernel, rfl⟩
theorem dL_law_1341 : Ins mL_law 1341 (.iadd) 1 1342 := ⟨by decide +kernel, rfl⟩
theorem dL_law_1342 : Ins mL_law 1342 (.iaload) 1 1343 := ⟨by decide +kernel, rfl⟩
theorem dL_law_1343 : Ins mL_law 1343 (.aload_n 0) 1 1344 := ⟨by decide +kernel, rfl⟩
theorem dL_law_1344 : Ins mL_law 1344 (.iload_n 3) 1 1345 := ⟨by decide +kernel, rfl⟩
theorem dL_law_1345 : Ins mL_law 1345 (.iconst 2) 1 1346 := ⟨by decide +kernel, rfl⟩
theorem dL_law_1346 : Ins mL_law 1346 (.iadd) 1 1347 := ⟨by decide +kernel, rfl⟩
theorem dL_law_1347 : Ins mL_law 1347 (.iaload) 1 1348 := ⟨by decide +kernel, rfl⟩
theorem dL_law_1348 : CalV mL_law 1348 1351 mX10_counted := ⟨170, by decide +kernel, rfl, tb_5 (List.mem_of_getElem? (i := 128) (by decide +kernel)) rfl, meX10_counted⟩
theorem dL_law_1351 : Ins mL_law 1351 (.aload_n 2) 1 1352 := ⟨by decide +kernel, rfl⟩
theorem dL_law_1352 : Ins mL_law 1352 (.aload_n 0) 1 1353 := ⟨by decide +kernel, rfl⟩
theorem dL_law_1353 : Ins mL_law 1353 (.iload_n 3) 1 1354 := ⟨by decide +kernel, rfl⟩
theorem dL_law_1354 : Ins mL_law 1354 (.iconst 1) 1 1355 := ⟨by decide +kernel, rfl⟩
theorem dL_law_1355 : Ins mL_law 1355 (.iadd) 1 1356 := ⟨by decide +kernel, rfl⟩
theorem dL_law_1356 : Ins mL_law 1356 (.iaload) 1 1357 := ⟨by decide +kernel, rfl⟩
theorem dL_law_1357 : Ins mL_law 1357 (.aload_n 0) 1 1358 := ⟨by decide +kernel, rfl⟩
theorem dL_law_1358 : Ins mL_law 1358 (.iload_n 3) 1 1359 := ⟨by decide +kernel, rfl⟩
theorem dL_law_1359 : Ins mL_law 1359 (.iconst 2) 1 1360 := ⟨by decide +kernel, rfl⟩
theorem dL_law_1360 : Ins mL_law 1360 (.iadd) 1 1361 := ⟨by decide +kernel, rfl⟩
theorem dL_law_1361 : Ins mL_law 1361 (.iaload) 1 1362 := ⟨by decide +kernel, rfl⟩
theorem dL_law_1362 : CalV mL_law 1362 1365 mX11_counted := ⟨173, by decide +kernel, rfl, tb_8 (List.mem_of_getElem? (i := 92) (by decide +kernel)) rfl, meX11_counted⟩
theorem dL_law_1365 : Ins mL_law 1365 (.if_icmp .eq 152) 3 1368 := ⟨by decide +kernel, rfl⟩
theorem dL_law_1368 : Ins mL_law 1368 (.iconst 0) 1 1369 := ⟨by decide +kernel, rfl⟩
theorem dL_law_1369 : Ins mL_law 1369 (.ireturn) 1 1370 := ⟨by decide +kernel, rfl⟩
theorem dL_law_1370 : Ins mL_law 1370 (.aload_n 1) 1 1371 := ⟨by decide +kernel, rfl⟩
theorem dL_law_1371 : CalV mL_law 1371 1374 mX10_whose := ⟨174, by decide +kernel, rfl, tb_5 (List.mem_of_getElem? (i := 132) (by decide +kernel)) rfl, meX10_whose⟩
theorem dL_law_1374 : Ins mL_law 1374 (.aload_n 2) 1 1375 := ⟨by decide +kernel, rfl⟩
theorem dL_law_1375 : CalV mL_law 1375 1378 mX11_whose := ⟨177, by decide +kernel, rfl, tb_8 (List.mem_of_getElem? (i := 96) (by decide +kernel)) rfl, meX11_whose⟩
theorem dL_law_1378 : Ins mL_law 1378 (.if_icmp .eq 139) 3 1381 := ⟨by decide +kernel, rfl⟩
theorem dL_law_1381 : Ins mL_law 1381 (.iconst 0) 1 1382 := ⟨by decide +kernel, rfl⟩
theorem dL_law_1382 : Ins mL_law 1382 (.ireturn) 1 1383 := ⟨by decide +kernel, rfl⟩
theorem dL_law_1383 : Ins mL_law 1383 (.aload_n 1) 1 1384 := ⟨by decide +kernel, rfl⟩
theorem dL_law_1384 : Ins mL_law 1384 (.aload_n 0) 1 1385 := ⟨by decide +kernel, rfl⟩
theorem dL_law_1385 : Ins mL_law 1385 (.iload_n 3) 1 1386 := ⟨by decide +kernel, rfl⟩
theorem dL_law_1386 : Ins mL_law 1386 (.iconst 1) 1 1387 := ⟨by decide +kernel, rfl⟩
theorem dL_law_1387 : Ins mL_law 1387 (.iadd) 1 1388 := ⟨by decide +kernel, rfl⟩
theorem dL_law_1388 : Ins mL_law 1388 (.iaload) 1 1389 := ⟨by decide +kernel, rfl⟩
theorem dL_law_1389 : CalV mL_law 1389 1392 mX10_slid := ⟨178, by decide +kernel, rfl, tb_5 (List.mem_of_getElem? (i := 141) (by decide +kernel)) rfl, meX10_slid⟩
theorem dL_law_1392 : Ins mL_law 1392 (.aload_n 2) 1 1393 := ⟨by decide +kernel, rfl⟩
theorem dL_law_1393 : Ins mL_law 1393 (.aload_n 0) 1 1394 := ⟨by decide +kernel, rfl⟩
theorem dL_law_1394 : Ins mL_law 1394 (.iload_n 3) 1 1395 := ⟨by decide +kernel, rfl⟩
theorem dL_law_1395 : Ins mL_law 1395 (.iconst 1) 1 1396 := ⟨by decide +kernel, rfl⟩
theorem dL_law_1396 : Ins mL_law 1396 (.iadd) 1 1397 := ⟨by decide +kernel, rfl⟩
theorem dL_law_1397 : Ins mL_law 1397 (.iaload) 1 1398 := ⟨by decide +kernel, rfl⟩
theorem dL_law_1398 : CalV mL_law 1398 1401 mX11_slid := ⟨181, by decide +kernel, rfl, tb_7 (List.mem_of_getElem? (i := 195) (by decide +kernel)) rfl, meX11_slid⟩
theorem dL_law_1401 : Ins mL_law 1401 (.if_icmp .eq 116) 3 1404 := ⟨by decide +kernel, rfl⟩
theorem dL_law_1404 : Ins mL_law 1404 (.iconst 0) 1 1405 := ⟨by decide +kernel, rfl⟩
theorem dL_law_1405 : Ins mL_law 1405 (.ireturn) 1 1406 := ⟨by decide +kernel, rfl⟩
theorem dL_law_1406 : Ins mL_law 1406 (.aload_n 1) 1 1407 := ⟨by decide +kernel, rfl⟩
theorem dL_law_1407 : CalV mL_law 1407 1410 mX10_inStep := ⟨182, by decide +kernel, rfl, tb_5 (List.mem_of_getElem? (i := 145) (by decide +kernel)) rfl, meX10_inStep⟩
theorem dL_law_1410 : Ins mL_law 1410 (.aload_n 2) 1 1411 := ⟨by decide +kernel, rfl⟩
theorem dL_law_1411 : CalV mL_law 1411 1414 mX11_inStep := ⟨185, by decide +kernel, rfl, tb_7 (List.mem_of_getElem? (i := 199) (by decide +kernel)) rfl, meX11_inStep⟩
theorem dL_law_1414 : Ins mL_law 1414 (.if_icmp .eq 103) 3 1417 := ⟨by decide +kernel, rfl⟩
theorem dL_law_1417 : Ins mL_law 1417 (.iconst 0) 1 1418 := ⟨by decide +kernel, rfl⟩
theorem dL_law_1418 : Ins mL_law 1418 (.ireturn) 1 1419 := ⟨by decide +kernel, rfl⟩
theorem dL_law_1419 : Ins mL_law 1419 (.aload_n 1) 1 1420 := ⟨by decide +kernel, rfl⟩
theorem dL_law_1420 : CalV mL_law 1420 1423 mX10_tiredest := ⟨186, by decide +kernel, rfl, tb_5 (List.mem_of_getElem? (i := 149) (by decide +kernel)) rfl, meX10_tiredest⟩
theorem dL_law_1423 : Ins mL_law 1423 (.aload_n 2) 1 1424 := ⟨by decide +kernel, rfl⟩
theorem dL_law_1424 : CalV mL_law 1424 1427 mX11_tiredest := ⟨189, by decide +kernel, rfl, tb_7 (List.mem_of_getElem? (i := 203) (by decide +kernel)) rfl, meX11_tiredest⟩
theorem dL_law_1427 : Ins mL_law 1427 (.if_icmp .eq 90) 3 1430 := ⟨by decide +kernel, rfl⟩
theorem dL_law_1430 : Ins mL_law 1430 (.iconst 0) 1 1431 := ⟨by decide +kernel, rfl⟩
theorem dL_law_1431 : Ins mL_law 1431 (.ireturn) 1 1432 := ⟨by decide +kernel, rfl⟩
theorem dL_law_1432 : Ins mL_law 1432 (.aload_n 1) 1 1433 := ⟨by decide +kernel, rfl⟩
theorem dL_law_1433 : Ins mL_law 1433 (.aload_n 0) 1 1434 := ⟨by decide +kernel, rfl⟩
theorem dL_law_1434 : Ins mL_law 1434 (.iload_n 3) 1 1435 := ⟨by decide +kernel, rfl⟩
theorem dL_law_1435 : Ins mL_law 1435 (.iconst 1) 1 1436 := ⟨by decide +kernel, rfl⟩
theorem dL_law_1436 : Ins mL_law 1436 (.iadd) 1 1437 := ⟨by decide +kernel, rfl⟩
theorem dL_law_1437 : Ins mL_law 1437 (.iaload) 1 1438 := ⟨by decide +kernel, rfl⟩
theorem dL_law_1438 : CalV mL_law 1438 1441 mX10_veterans := ⟨190, by decide +kernel, rfl, tb_5 (List.mem_of_getElem? (i := 153) (by decide +kernel)) rfl, meX10_veterans⟩
theorem dL_law_1441 : Ins mL_law 1441 (.aload_n 2) 1 1442 := ⟨by decide +kernel, rfl⟩
theorem dL_law_1442 : Ins mL_law 1442 (.aload_n 0) 1 1443 := ⟨by decide +kernel, rfl⟩
theorem dL_law_1443 : Ins mL_law 1443 (.iload_n 3) 1 1444 := ⟨by decide +kernel, rfl⟩
theorem dL_law_1444 : Ins mL_law 1444 (.iconst 1) 1 1445 := ⟨by decide +kernel, rfl⟩
theorem dL_law_1445 : Ins mL_law 1445 (.iadd) 1 1446 := ⟨by decide +kernel, rfl⟩
theorem dL_law_1446 : Ins mL_law 1446 (.iaload) 1 1447 := ⟨by decide +kernel, rfl⟩
theorem dL_law_1447 : CalV mL_law 1447 1450 mX11_veterans := ⟨193, by decide +kernel, rfl, tb_7 (List.mem_of_getElem? (i := 207) (by decide +kernel)) rfl, meX11_veterans⟩
theorem dL_law_1450 : Ins mL_law 1450 (.if_icmp .eq 67) 3 1453 := ⟨by decide +kernel, rfl⟩
theorem dL_law_1453 : Ins mL_law 1453 (.iconst 0) 1 1454 := ⟨by decide +kernel, rfl⟩
theorem dL_law_1454 : Ins mL_law 1454 (.ireturn) 1 1455 := ⟨by decide +kernel, rfl⟩
theorem dL_law_1455 : Ins mL_law 1455 (.aload_n 1) 1 1456 := ⟨by decide +kernel, rfl⟩
theorem dL_law_1456 : CalV mL_law 1456 1459 mX10_lonely := ⟨194, by decide +kernel, rfl, tb_5 (List.mem_of_getElem? (i := 157) (by decide +kernel)) rfl, meX10_lonely⟩
theorem dL_law_1459 : Ins mL_law 1459 (.aload_n 2) 1 1460 := ⟨by decide +kernel, rfl⟩
theorem dL_law_1460 : CalV mL_law 1460 1463 mX11_lonely := ⟨197, by decide +kernel, rfl, tb_7 (List.mem_of_getElem? (i := 211) (by decide +kernel)) rfl, meX11_lonely⟩
theorem dL_law_1463 : Ins mL_law 1463 (.if_icmp .eq 54) 3 1466 := ⟨by decide +kernel, rfl⟩
theorem dL_law_1466 : Ins mL_law 1466 (.iconst 0) 1 1467 := ⟨by decide +kernel, rfl⟩
theorem dL_law_1467 : Ins mL_law 1467 (.ireturn) 1 1468 := ⟨by decide +kernel, rfl⟩
theorem dL_law_1468 : Ins mL_law 1468 (.aload_n 1) 1 1469 := ⟨by decide +kernel, rfl⟩
theorem dL_law_1469 : CalV mL_law 1469 1472 mX10_image := ⟨198, by decide +kernel, rfl, tb_5 (List.mem_of_getElem? (i := 161) (by decide +kernel)) rfl, meX10_image⟩
theorem dL_law_1472 : Ins mL_law 1472 (.aload_n 2) 1 1473 := ⟨by decide +kernel, rfl⟩
theorem dL_law_1473 : CalV mL_law 1473 1476 mX11_image := ⟨201, by decide +kernel, rfl, tb_8 (List.mem_of_getElem? (i := 100) (by decide +kernel)) rfl, meX11_image⟩
theorem dL_law_1476 : Ins mL_law 1476 (.if_icmp .eq 41) 3 1479 := ⟨by decide +kernel, rfl⟩
theorem dL_law_1479 : Ins mL_law 1479 (.iconst 0) 1 1480 := ⟨by decide +kernel, rfl⟩
theorem dL_law_1480 : Ins mL_law 1480 (.ireturn) 1 1481 := ⟨by decide +kernel, rfl⟩
theorem dL_law_1481 : Ins mL_law 1481 (.aload_n 1) 1 1482 := ⟨by decide +kernel, rfl⟩
theorem dL_law_1482 : CalV mL_law 1482 1485 mX10_back := ⟨202, by decide +kernel, rfl, tb_5 (List.mem_of_getElem? (i := 179) (by decide +kernel)) rfl, meX10_back⟩
theorem dL_law_1485 : Ins mL_law 1485 (.aload_n 2) 1 1486 := ⟨by decide +kernel, rfl⟩
theorem dL_law_1486 : CalV mL_law 1486 1489 mX11_back := ⟨205, by decide +kernel, rfl, tb_8 (List.mem_of_getElem? (i := 104) (by decide +kernel)) rfl, meX11_back⟩
theorem dL_law_1489 : Ins mL_law 1489 (.if_icmp .eq 28) 3 1492 := ⟨by decide +kernel, rfl⟩
theorem dL_law_1492 : Ins mL_law 1492 (.iconst 0) 1 1493 := ⟨by decide +kernel, rfl⟩
theorem dL_law_1493 : Ins mL_law 1493 (.ireturn) 1 1494 := ⟨by decide +kernel, rfl⟩
theorem dL_law_1494 : Ins mL_law 1494 (.aload_n 1) 1 1495 := ⟨by decide +kernel, rfl⟩
theorem dL_law_1495 : Ins mL_law 1495 (.aload_n 0) 1 1496 := ⟨by decide +kernel, rfl⟩
theorem dL_law_1496 : Ins mL_law 1496 (.iload_n 3) 1 1497 := ⟨by decide +kernel, rfl⟩
theorem dL_law_1497 : Ins mL_law 1497 (.iconst 1) 1 1498 := ⟨by decide +kernel, rfl⟩
theorem dL_law_1498 : Ins mL_law 1498 (.iadd) 1 1499 := ⟨by decide +kernel, rfl⟩
theorem dL_law_1499 : Ins mL_law 1499 (.iaload) 1 1500 := ⟨by decide +kernel, rfl⟩
theorem dL_law_1500 : CalV mL_law 1500 1503 mX10_about := ⟨206, by decide +kernel, rfl, tb_5 (List.mem_of_getElem? (i := 183) (by decide +kernel)) rfl, meX10_about⟩
theorem dL_law_1503 : Ins mL_law 1503 (.aload_n 2) 1 1504 := ⟨by decide +kernel, rfl⟩
theorem dL_law_1504 : Ins mL_law 1504 (.aload_n 0) 1 1505 := ⟨by decide +kernel, rfl⟩
theorem dL_law_1505 : Ins mL_law 1505 (.iload_n 3) 1 1506 := ⟨by decide +kernel, rfl⟩
theorem dL_law_1506 : Ins mL_law 1506 (.iconst 1) 1 1507 := ⟨by decide +kernel, rfl⟩
theorem dL_law_1507 : Ins mL_law 1507 (.iadd) 1 1508 := ⟨by decide +kernel, rfl⟩
theorem dL_law_1508 : Ins mL_law 1508 (.iaload) 1 1509 := ⟨by decide +kernel, rfl⟩
theorem dL_law_1509 : CalV mL_law 1509 1512 mX11_about := ⟨209, by decide +kernel, rfl, tb_8 (List.mem_of_getElem? (i := 108) (by decide +kernel)) rfl, meX11_about⟩
theorem dL_law_1512 : Ins mL_law 1512 (.if_icmp .eq 5) 3 1515 := ⟨by decide +kernel, rfl⟩
theorem dL_law_1515 : Ins mL_law 1515 (.iconst 0) 1 1516 := ⟨by decide +kernel, rfl⟩
theorem dL_law_1516 : Ins mL_law 1516 (.ireturn) 1 1517 := ⟨by decide +kernel, rfl⟩
theorem dL_law_1517 : Ins mL_law 1517 (.iinc 3 6) 3 1520 := ⟨by decide +kernel, rfl⟩
theorem dL_law_1520 : Ins mL_law 1520 (.goto (-1502)) 3 1523 := ⟨by decide +kernel, rfl⟩
theorem dL_law_1523 : Ins mL_law 1523 (.iconst 1) 1 1524 := ⟨by decide +kernel, rfl⟩
theorem dL_law_1524 : Ins mL_law 1524 (.ireturn) 1 1525 := ⟨by decide +kernel, rfl⟩
