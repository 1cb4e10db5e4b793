/-! the law's code, row by row (5) -/
theorem tdl_1152 : decode code 1152 = .ok (.pop, 1) := by decide +kernel
theorem tdl_1153 : decode code 1153 = .ok (.goto 207, 3) := by decide +kernel
theorem tdl_1156 : decode code 1156 = .ok (.aload_n 1, 1) := by decide +kernel
theorem tdl_1157 : decode code 1157 = .ok (.aload_n 0, 1) := by decide +kernel
theorem tdl_1158 : decode code 1158 = .ok (.iload_n 3, 1) := by decide +kernel
theorem tdl_1159 : decode code 1159 = .ok (.iconst 1, 1) := by decide +kernel
theorem tdl_1160 : decode code 1160 = .ok (.iadd, 1) := by decide +kernel
theorem tdl_1161 : decode code 1161 = .ok (.iaload, 1) := by decide +kernel
theorem tdl_1162 : decode code 1162 = .ok (.aload_n 0, 1) := by decide +kernel
theorem tdl_1163 : decode code 1163 = .ok (.iload_n 3, 1) := by decide +kernel
theorem tdl_1164 : decode code 1164 = .ok (.iconst 2, 1) := by decide +kernel
theorem tdl_1165 : decode code 1165 = .ok (.iadd, 1) := by decide +kernel
theorem tdl_1166 : decode code 1166 = .ok (.iaload, 1) := by decide +kernel
theorem tdl_1167 : decode code 1167 = .ok (.invokevirtual 136, 3) := by decide +kernel
theorem tdl_1170 : decode code 1170 = .ok (.pop, 1) := by decide +kernel
theorem tdl_1171 : decode code 1171 = .ok (.aload_n 2, 1) := by decide +kernel
theorem tdl_1172 : decode code 1172 = .ok (.aload_n 0, 1) := by decide +kernel
theorem tdl_1173 : decode code 1173 = .ok (.iload_n 3, 1) := by decide +kernel
theorem tdl_1174 : decode code 1174 = .ok (.iconst 1, 1) := by decide +kernel
theorem tdl_1175 : decode code 1175 = .ok (.iadd, 1) := by decide +kernel
theorem tdl_1176 : decode code 1176 = .ok (.iaload, 1) := by decide +kernel
theorem tdl_1177 : decode code 1177 = .ok (.aload_n 0, 1) := by decide +kernel
theorem tdl_1178 : decode code 1178 = .ok (.iload_n 3, 1) := by decide +kernel
theorem tdl_1179 : decode code 1179 = .ok (.iconst 2, 1) := by decide +kernel
theorem tdl_1180 : decode code 1180 = .ok (.iadd, 1) := by decide +kernel
theorem tdl_1181 : decode code 1181 = .ok (.iaload, 1) := by decide +kernel
theorem tdl_1182 : decode code 1182 = .ok (.invokevirtual 139, 3) := by decide +kernel
theorem tdl_1185 : decode code 1185 = .ok (.pop, 1) := by decide +kernel
theorem tdl_1186 : decode code 1186 = .ok (.goto 174, 3) := by decide +kernel
theorem tdl_1189 : decode code 1189 = .ok (.aload_n 1, 1) := by decide +kernel
theorem tdl_1190 : decode code 1190 = .ok (.aload_n 0, 1) := by decide +kernel
theorem tdl_1191 : decode code 1191 = .ok (.iload_n 3, 1) := by decide +kernel
theorem tdl_1192 : decode code 1192 = .ok (.iconst 1, 1) := by decide +kernel
theorem tdl_1193 : decode code 1193 = .ok (.iadd, 1) := by decide +kernel
theorem tdl_1194 : decode code 1194 = .ok (.iaload, 1) := by decide +kernel
theorem tdl_1195 : decode code 1195 = .ok (.aload_n 0, 1) := by decide +kernel
theorem tdl_1196 : decode code 1196 = .ok (.iload_n 3, 1) := by decide +kernel
theorem tdl_1197 : decode code 1197 = .ok (.iconst 2, 1) := by decide +kernel
theorem tdl_1198 : decode code 1198 = .ok (.iadd, 1) := by decide +kernel
theorem tdl_1199 : decode code 1199 = .ok (.iaload, 1) := by decide +kernel
theorem tdl_1200 : decode code 1200 = .ok (.invokevirtual 140, 3) := by decide +kernel
theorem tdl_1203 : decode code 1203 = .ok (.pop, 1) := by decide +kernel
theorem tdl_1204 : decode code 1204 = .ok (.aload_n 2, 1) := by decide +kernel
theorem tdl_1205 : decode code 1205 = .ok (.aload_n 0, 1) := by decide +kernel
theorem tdl_1206 : decode code 1206 = .ok (.iload_n 3, 1) := by decide +kernel
theorem tdl_1207 : decode code 1207 = .ok (.iconst 1, 1) := by decide +kernel
theorem tdl_1208 : decode code 1208 = .ok (.iadd, 1) := by decide +kernel
theorem tdl_1209 : decode code 1209 = .ok (.iaload, 1) := by decide +kernel
theorem tdl_1210 : decode code 1210 = .ok (.aload_n 0, 1) := by decide +kernel
theorem tdl_1211 : decode code 1211 = .ok (.iload_n 3, 1) := by decide +kernel
theorem tdl_1212 : decode code 1212 = .ok (.iconst 2, 1) := by decide +kernel
theorem tdl_1213 : decode code 1213 = .ok (.iadd, 1) := by decide +kernel
theorem tdl_1214 : decode code 1214 = .ok (.iaload, 1) := by decide +kernel
theorem tdl_1215 : decode code 1215 = .ok (.invokevirtual 143, 3) := by decide +kernel
theorem tdl_1218 : decode code 1218 = .ok (.pop, 1) := by decide +kernel
theorem tdl_1219 : decode code 1219 = .ok (.goto 141, 3) := by decide +kernel
theorem tdl_1222 : decode code 1222 = .ok (.aload_n 1, 1) := by decide +kernel
theorem tdl_1223 : decode code 1223 = .ok (.aload_n 0, 1) := by decide +kernel
theorem tdl_1224 : decode code 1224 = .ok (.iload_n 3, 1) := by decide +kernel
theorem tdl_1225 : decode code 1225 = .ok (.iconst 1, 1) := by decide +kernel
theorem tdl_1226 : decode code 1226 = .ok (.iadd, 1) := by decide +kernel
theorem tdl_1227 : decode code 1227 = .ok (.iaload, 1) := by decide +kernel
theorem tdl_1228 : decode code 1228 = .ok (.invokevirtual 144, 3) := by decide +kernel
theorem tdl_1231 : decode code 1231 = .ok (.pop, 1) := by decide +kernel
theorem tdl_1232 : decode code 1232 = .ok (.aload_n 2, 1) := by decide +kernel
theorem tdl_1233 : decode code 1233 = .ok (.aload_n 0, 1) := by decide +kernel
theorem tdl_1234 : decode code 1234 = .ok (.iload_n 3, 1) := by decide +kernel
theorem tdl_1235 : decode code 1235 = .ok (.iconst 1, 1) := by decide +kernel
theorem tdl_1236 : decode code 1236 = .ok (.iadd, 1) := by decide +kernel
theorem tdl_1237 : decode code 1237 = .ok (.iaload, 1) := by decide +kernel
theorem tdl_1238 : decode code 1238 = .ok (.invokevirtual 147, 3) := by decide +kernel
theorem tdl_1241 : decode code 1241 = .ok (.pop, 1) := by decide +kernel
theorem tdl_1242 : decode code 1242 = .ok (.goto 118, 3) := by decide +kernel
theorem tdl_1245 : decode code 1245 = .ok (.aload_n 1, 1) := by decide +kernel
theorem tdl_1246 : decode code 1246 = .ok (.aload_n 0, 1) := by decide +kernel
theorem tdl_1247 : decode code 1247 = .ok (.iload_n 3, 1) := by decide +kernel
theorem tdl_1248 : decode code 1248 = .ok (.iconst 1, 1) := by decide +kernel
theorem tdl_1249 : decode code 1249 = .ok (.iadd, 1) := by decide +kernel
theorem tdl_1250 : decode code 1250 = .ok (.iaload, 1) := by decide +kernel
theorem tdl_1251 : decode code 1251 = .ok (.aload_n 0, 1) := by decide +kernel
theorem tdl_1252 : decode code 1252 = .ok (.iload_n 3, 1) := by decide +kernel
theorem tdl_1253 : decode code 1253 = .ok (.iconst 2, 1) := by decide +kernel
theorem tdl_1254 : decode code 1254 = .ok (.iadd, 1) := by decide +kernel
theorem tdl_1255 : decode code 1255 = .ok (.iaload, 1) := by decide +kernel
theorem tdl_1256 : decode code 1256 = .ok (.invokevirtual 148, 3) := by decide +kernel
theorem tdl_1259 : decode code 1259 = .ok (.pop, 1) := by decide +kernel
theorem tdl_1260 : decode code 1260 = .ok (.aload_n 2, 1) := by decide +kernel
theorem tdl_1261 : decode code 1261 = .ok (.aload_n 0, 1) := by decide +kernel
theorem tdl_1262 : decode code 1262 = .ok (.iload_n 3, 1) := by decide +kernel
theorem tdl_1263 : decode code 1263 = .ok (.iconst 1, 1) := by decide +kernel
theorem tdl_1264 : decode code 1264 = .ok (.iadd, 1) := by decide +kernel
theorem tdl_1265 : decode code 1265 = .ok (.iaload, 1) := by decide +kernel
theorem tdl_1266 : decode code 1266 = .ok (.aload_n 0, 1) := by decide +kernel
theorem tdl_1267 : decode code 1267 = .ok (.iload_n 3, 1) := by decide +kernel
theorem tdl_1268 : decode code 1268 = .ok (.iconst 2, 1) := by decide +kernel
theorem tdl_1269 : decode code 1269 = .ok (.iadd, 1) := by decide +kernel
theorem tdl_1270 : decode code 1270 = .ok (.iaload, 1) := by decide +kernel
theorem tdl_1271 : decode code 1271 = .ok (.invokevirtual 151, 3) := by decide +kernel
theorem tdl_1274 : decode code 1274 = .ok (.pop, 1) := by decide +kernel
theorem tdl_1275 : decode code 1275 = .ok (.goto 85, 3) := by decide +kernel
theorem tdl_1278 : decode code 1278 = .ok (.aload_n 1, 1) := by decide +kernel
theorem tdl_1279 : decode code 1279 = .ok (.aload_n 0, 1) := by decide +kernel
theorem tdl_1280 : decode code 1280 = .ok (.iload_n 3, 1) := by decide +kernel
theorem tdl_1281 : decode code 1281 = .ok (.iconst 1, 1) := by decide +kernel
theorem tdl_1282 : decode code 1282 = .ok (.iadd, 1) := by decide +kernel
theorem tdl_1283 : decode code 1283 = .ok (.iaload, 1) := by decide +kernel
theorem tdl_1284 : decode code 1284 = .ok (.aload_n 0, 1) := by decide +kernel
theorem tdl_1285 : decode code 1285 = .ok (.iload_n 3, 1) := by decide +kernel
theorem tdl_1286 : decode code 1286 = .ok (.iconst 2, 1) := by decide +kernel
theorem tdl_1287 : decode code 1287 = .ok (.iadd, 1) := by decide +kernel
theorem tdl_1288 : decode code 1288 = .ok (.iaload, 1) := by decide +kernel
theorem tdl_1289 : decode code 1289 = .ok (.invokevirtual 152, 3) := by decide +kernel
theorem tdl_1292 : decode code 1292 = .ok (.pop, 1) := by decide +kernel
theorem tdl_1293 : decode code 1293 = .ok (.aload_n 2, 1) := by decide +kernel
theorem tdl_1294 : decode code 1294 = .ok (.aload_n 0, 1) := by decide +kernel
theorem tdl_1295 : decode code 1295 = .ok (.iload_n 3, 1) := by decide +kernel
theorem tdl_1296 : decode code 1296 = .ok (.iconst 1, 1) := by decide +kernel
theorem tdl_1297 : decode code 1297 = .ok (.iadd, 1) := by decide +kernel
theorem tdl_1298 : decode code 1298 = .ok (.iaload, 1) := by decide +kernel
theorem tdl_1299 : decode code 1299 = .ok (.aload_n 0, 1) := by decide +kernel
theorem tdl_1300 : decode code 1300 = .ok (.iload_n 3, 1) := by decide +kernel
theorem tdl_1301 : decode code 1301 = .ok (.iconst 2, 1) := by decide +kernel
theorem tdl_1302 : decode code 1302 = .ok (.iadd, 1) := by decide +kernel
theorem tdl_1303 : decode code 1303 = .ok (.iaload, 1) := by decide +kernel
theorem tdl_1304 : decode code 1304 = .ok (.invokevirtual 155, 3) := by decide +kernel
theorem tdl_1307 : decode code 1307 = .ok (.pop, 1) := by decide +kernel
theorem tdl_1308 : decode code 1308 = .ok (.goto 52, 3) := by decide +kernel
theorem tdl_1311 : decode code 1311 = .ok (.aload_n 1, 1) := by decide +kernel
theorem tdl_1312 : decode code 1312 = .ok (.invokevirtual 156, 3) := by decide +kernel
theorem tdl_1315 : decode code 1315 = .ok (.pop, 1) := by decide +kernel
theorem tdl_1316 : decode code 1316 = .ok (.aload_n 2, 1) := by decide +kernel
theorem tdl_1317 : decode code 1317 = .ok (.invokevirtual 159, 3) := by decide +kernel
theorem tdl_1320 : decode code 1320 = .ok (.pop, 1) := by decide +kernel
theorem tdl_1321 : decode code 1321 = .ok (.goto 39, 3) := by decide +kernel
theorem tdl_1324 : decode code 1324 = .ok (.aload_n 1, 1) := by decide +kernel
theorem tdl_1325 : decode code 1325 = .ok (.aload_n 0, 1) := by decide +kernel
theorem tdl_1326 : decode code 1326 = .ok (.iload_n 3, 1) := by decide +kernel
theorem tdl_1327 : decode code 1327 = .ok (.iconst 1, 1) := by decide +kernel
theorem tdl_1328 : decode code 1328 = .ok (.iadd, 1) := by decide +kernel
theorem tdl_1329 : decode code 1329 = .ok (.iaload, 1) := by decide +kernel
theorem tdl_1330 : decode code 1330 = .ok (.invokevirtual 160, 3) := by decide +kernel
theorem tdl_1333 : decode code 1333 = .ok (.pop, 1) := by decide +kernel
theorem tdl_1334 : decode code 1334 = .ok (.aload_n 2, 1) := by decide +kernel
theorem tdl_1335 : decode code 1335 = .ok (.aload_n 0, 1) := by decide +kernel
theorem tdl_1336 : decode code 1336 = .ok (.iload_n 3, 1) := by decide +kernel
theorem tdl_1337 : decode code 1337 = .ok (.iconst 1, 1) := by decide +kernel
theorem tdl_1338 : decode code 1338 = .ok (.iadd, 1) := by decide +kernel
theorem tdl_1339 : decode code 1339 = .ok (.iaload, 1) := by decide +kernel
theorem tdl_1340 : decode code 1340 = .ok (.invokevirtual 163, 3) := by decide +kernel
theorem tdl_1343 : decode code 1343 = .ok (.pop, 1) := by decide +kernel
theorem tdl_1344 : decode code 1344 = .ok (.goto 16, 3) := by decide +kernel
theorem tdl_1347 : decode code 1347 = .ok (.aload_n 1, 1) := by decide +kernel
theorem tdl_1348 : decode code 1348 = .ok (.invokevirtual 164, 3) := by decide +kernel
theorem tdl_1351 : decode code 1351 = .ok (.pop, 1) := by decide +kernel
theorem tdl_1352 : decode code 1352 = .ok (.aload_n 2, 1) := by decide +kernel
theorem tdl_1353 : decode code 1353 = .ok (.invokevirtual 167, 3) := by decide +kernel
theorem tdl_1356 : decode code 1356 = .ok (.pop, 1) := by decide +kernel
theorem tdl_1357 : decode code 1357 = .ok (.goto 3, 3) := by decide +kernel
theorem tdl_1360 : decode code 1360 = .ok (.iinc 3 6, 3) := by decide +kernel
theorem tdl_1363 : decode code 1363 = .ok (.goto (-1345), 3) := by decide +kernel
theorem tdl_1366 : decode code 1366 = .ok (.iconst 1, 1) := by decide +kernel
theorem tdl_1367 : decode code 1367 = .ok (.ireturn, 1) := by decide +kernel
