/-! the law, decoded: 1208 and on -/
theorem dl_1208 : decode code 1208 = .ok (.iload 4, 2) := by decide +kernel
theorem dl_1210 : decode code 1210 = .ok (.iconst 1, 1) := by decide +kernel
theorem dl_1211 : decode code 1211 = .ok (.iadd, 1) := by decide +kernel
theorem dl_1212 : decode code 1212 = .ok (.iaload, 1) := by decide +kernel
theorem dl_1213 : decode code 1213 = .ok (.aload_n 0, 1) := by decide +kernel
theorem dl_1214 : decode code 1214 = .ok (.iload 4, 2) := by decide +kernel
theorem dl_1216 : decode code 1216 = .ok (.iconst 2, 1) := by decide +kernel
theorem dl_1217 : decode code 1217 = .ok (.iadd, 1) := by decide +kernel
theorem dl_1218 : decode code 1218 = .ok (.iaload, 1) := by decide +kernel
theorem dl_1219 : decode code 1219 = .ok (.invokevirtual 152, 3) := by decide +kernel
theorem dl_1222 : decode code 1222 = .ok (.if_icmp .eq 583, 3) := by decide +kernel
theorem dl_1225 : decode code 1225 = .ok (.iconst 0, 1) := by decide +kernel
theorem dl_1226 : decode code 1226 = .ok (.ireturn, 1) := by decide +kernel
theorem dl_1227 : decode code 1227 = .ok (.aload_n 1, 1) := by decide +kernel
theorem dl_1228 : decode code 1228 = .ok (.aload_n 0, 1) := by decide +kernel
theorem dl_1229 : decode code 1229 = .ok (.iload 4, 2) := by decide +kernel
theorem dl_1231 : decode code 1231 = .ok (.iconst 1, 1) := by decide +kernel
theorem dl_1232 : decode code 1232 = .ok (.iadd, 1) := by decide +kernel
theorem dl_1233 : decode code 1233 = .ok (.iaload, 1) := by decide +kernel
theorem dl_1234 : decode code 1234 = .ok (.aload_n 0, 1) := by decide +kernel
theorem dl_1235 : decode code 1235 = .ok (.iload 4, 2) := by decide +kernel
theorem dl_1237 : decode code 1237 = .ok (.iconst 2, 1) := by decide +kernel
theorem dl_1238 : decode code 1238 = .ok (.iadd, 1) := by decide +kernel
theorem dl_1239 : decode code 1239 = .ok (.iaload, 1) := by decide +kernel
theorem dl_1240 : decode code 1240 = .ok (.aload_n 0, 1) := by decide +kernel
theorem dl_1241 : decode code 1241 = .ok (.iload 4, 2) := by decide +kernel
theorem dl_1243 : decode code 1243 = .ok (.iconst 3, 1) := by decide +kernel
theorem dl_1244 : decode code 1244 = .ok (.iadd, 1) := by decide +kernel
theorem dl_1245 : decode code 1245 = .ok (.iaload, 1) := by decide +kernel
theorem dl_1246 : decode code 1246 = .ok (.aload_n 0, 1) := by decide +kernel
theorem dl_1247 : decode code 1247 = .ok (.iload 4, 2) := by decide +kernel
theorem dl_1249 : decode code 1249 = .ok (.iconst 4, 1) := by decide +kernel
theorem dl_1250 : decode code 1250 = .ok (.iadd, 1) := by decide +kernel
theorem dl_1251 : decode code 1251 = .ok (.iaload, 1) := by decide +kernel
theorem dl_1252 : decode code 1252 = .ok (.invokevirtual 153, 3) := by decide +kernel
theorem dl_1255 : decode code 1255 = .ok (.aload_n 2, 1) := by decide +kernel
theorem dl_1256 : decode code 1256 = .ok (.aload_n 0, 1) := by decide +kernel
theorem dl_1257 : decode code 1257 = .ok (.iload 4, 2) := by decide +kernel
theorem dl_1259 : decode code 1259 = .ok (.iconst 1, 1) := by decide +kernel
theorem dl_1260 : decode code 1260 = .ok (.iadd, 1) := by decide +kernel
theorem dl_1261 : decode code 1261 = .ok (.iaload, 1) := by decide +kernel
theorem dl_1262 : decode code 1262 = .ok (.aload_n 0, 1) := by decide +kernel
theorem dl_1263 : decode code 1263 = .ok (.iload 4, 2) := by decide +kernel
theorem dl_1265 : decode code 1265 = .ok (.iconst 2, 1) := by decide +kernel
theorem dl_1266 : decode code 1266 = .ok (.iadd, 1) := by decide +kernel
theorem dl_1267 : decode code 1267 = .ok (.iaload, 1) := by decide +kernel
theorem dl_1268 : decode code 1268 = .ok (.aload_n 0, 1) := by decide +kernel
theorem dl_1269 : decode code 1269 = .ok (.iload 4, 2) := by decide +kernel
theorem dl_1271 : decode code 1271 = .ok (.iconst 3, 1) := by decide +kernel
theorem dl_1272 : decode code 1272 = .ok (.iadd, 1) := by decide +kernel
theorem dl_1273 : decode code 1273 = .ok (.iaload, 1) := by decide +kernel
theorem dl_1274 : decode code 1274 = .ok (.aload_n 0, 1) := by decide +kernel
theorem dl_1275 : decode code 1275 = .ok (.iload 4, 2) := by decide +kernel
theorem dl_1277 : decode code 1277 = .ok (.iconst 4, 1) := by decide +kernel
theorem dl_1278 : decode code 1278 = .ok (.iadd, 1) := by decide +kernel
theorem dl_1279 : decode code 1279 = .ok (.iaload, 1) := by decide +kernel
theorem dl_1280 : decode code 1280 = .ok (.invokevirtual 157, 3) := by decide +kernel
theorem dl_1283 : decode code 1283 = .ok (.if_icmp .eq 522, 3) := by decide +kernel
theorem dl_1286 : decode code 1286 = .ok (.iconst 0, 1) := by decide +kernel
theorem dl_1287 : decode code 1287 = .ok (.ireturn, 1) := by decide +kernel
theorem dl_1288 : decode code 1288 = .ok (.aload_n 1, 1) := by decide +kernel
theorem dl_1289 : decode code 1289 = .ok (.aload_n 0, 1) := by decide +kernel
theorem dl_1290 : decode code 1290 = .ok (.iload 4, 2) := by decide +kernel
theorem dl_1292 : decode code 1292 = .ok (.iconst 1, 1) := by decide +kernel
theorem dl_1293 : decode code 1293 = .ok (.iadd, 1) := by decide +kernel
theorem dl_1294 : decode code 1294 = .ok (.iaload, 1) := by decide +kernel
theorem dl_1295 : decode code 1295 = .ok (.aload_n 0, 1) := by decide +kernel
theorem dl_1296 : decode code 1296 = .ok (.iload 4, 2) := by decide +kernel
theorem dl_1298 : decode code 1298 = .ok (.iconst 2, 1) := by decide +kernel
theorem dl_1299 : decode code 1299 = .ok (.iadd, 1) := by decide +kernel
theorem dl_1300 : decode code 1300 = .ok (.iaload, 1) := by decide +kernel
theorem dl_1301 : decode code 1301 = .ok (.invokevirtual 158, 3) := by decide +kernel
theorem dl_1304 : decode code 1304 = .ok (.aload_n 2, 1) := by decide +kernel
theorem dl_1305 : decode code 1305 = .ok (.aload_n 0, 1) := by decide +kernel
theorem dl_1306 : decode code 1306 = .ok (.iload 4, 2) := by decide +kernel
theorem dl_1308 : decode code 1308 = .ok (.iconst 1, 1) := by decide +kernel
theorem dl_1309 : decode code 1309 = .ok (.iadd, 1) := by decide +kernel
theorem dl_1310 : decode code 1310 = .ok (.iaload, 1) := by decide +kernel
theorem dl_1311 : decode code 1311 = .ok (.aload_n 0, 1) := by decide +kernel
theorem dl_1312 : decode code 1312 = .ok (.iload 4, 2) := by decide +kernel
theorem dl_1314 : decode code 1314 = .ok (.iconst 2, 1) := by decide +kernel
theorem dl_1315 : decode code 1315 = .ok (.iadd, 1) := by decide +kernel
theorem dl_1316 : decode code 1316 = .ok (.iaload, 1) := by decide +kernel
theorem dl_1317 : decode code 1317 = .ok (.invokevirtual 161, 3) := by decide +kernel
theorem dl_1320 : decode code 1320 = .ok (.if_icmp .eq 485, 3) := by decide +kernel
theorem dl_1323 : decode code 1323 = .ok (.iconst 0, 1) := by decide +kernel
theorem dl_1324 : decode code 1324 = .ok (.ireturn, 1) := by decide +kernel
theorem dl_1325 : decode code 1325 = .ok (.aload_n 1, 1) := by decide +kernel
theorem dl_1326 : decode code 1326 = .ok (.aload_n 0, 1) := by decide +kernel
theorem dl_1327 : decode code 1327 = .ok (.iload 4, 2) := by decide +kernel
theorem dl_1329 : decode code 1329 = .ok (.iconst 1, 1) := by decide +kernel
theorem dl_1330 : decode code 1330 = .ok (.iadd, 1) := by decide +kernel
theorem dl_1331 : decode code 1331 = .ok (.iaload, 1) := by decide +kernel
theorem dl_1332 : decode code 1332 = .ok (.invokevirtual 162, 3) := by decide +kernel
theorem dl_1335 : decode code 1335 = .ok (.aload_n 2, 1) := by decide +kernel
theorem dl_1336 : decode code 1336 = .ok (.aload_n 0, 1) := by decide +kernel
theorem dl_1337 : decode code 1337 = .ok (.iload 4, 2) := by decide +kernel
theorem dl_1339 : decode code 1339 = .ok (.iconst 1, 1) := by decide +kernel
theorem dl_1340 : decode code 1340 = .ok (.iadd, 1) := by decide +kernel
theorem dl_1341 : decode code 1341 = .ok (.iaload, 1) := by decide +kernel
