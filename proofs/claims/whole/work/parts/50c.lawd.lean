theorem dL_law__1079 : decode cL_law_ 1079 = .ok (.ifCond .ne 15, 3) := by decide +kernel
theorem dL_law__1082 : decode cL_law_ 1082 = .ok (.aload_n 3, 1) := by decide +kernel
theorem dL_law__1083 : decode cL_law_ 1083 = .ok (.iconst 0, 1) := by decide +kernel
theorem dL_law__1084 : decode cL_law_ 1084 = .ok (.laload, 1) := by decide +kernel
theorem dL_law__1085 : decode cL_law_ 1085 = .ok (.iload 6, 2) := by decide +kernel
theorem dL_law__1087 : decode cL_law_ 1087 = .ok (.i2l, 1) := by decide +kernel
theorem dL_law__1088 : decode cL_law_ 1088 = .ok (.lcmp, 1) := by decide +kernel
theorem dL_law__1089 : decode cL_law_ 1089 = .ok (.ifCond .eq 5, 3) := by decide +kernel
theorem dL_law__1092 : decode cL_law_ 1092 = .ok (.iconst 0, 1) := by decide +kernel
theorem dL_law__1093 : decode cL_law_ 1093 = .ok (.ireturn, 1) := by decide +kernel
theorem dL_law__1094 : decode cL_law_ 1094 = .ok (.goto 1649, 3) := by decide +kernel
theorem dL_law__1097 : decode cL_law_ 1097 = .ok (.aload_n 1, 1) := by decide +kernel
theorem dL_law__1098 : decode cL_law_ 1098 = .ok (.aload_n 0, 1) := by decide +kernel
theorem dL_law__1099 : decode cL_law_ 1099 = .ok (.iload 4, 2) := by decide +kernel
theorem dL_law__1101 : decode cL_law_ 1101 = .ok (.iconst 1, 1) := by decide +kernel
theorem dL_law__1102 : decode cL_law_ 1102 = .ok (.iadd, 1) := by decide +kernel
theorem dL_law__1103 : decode cL_law_ 1103 = .ok (.iaload, 1) := by decide +kernel
theorem dL_law__1104 : decode cL_law_ 1104 = .ok (.aload_n 0, 1) := by decide +kernel
theorem dL_law__1105 : decode cL_law_ 1105 = .ok (.iload 4, 2) := by decide +kernel
theorem dL_law__1107 : decode cL_law_ 1107 = .ok (.iconst 2, 1) := by decide +kernel
theorem dL_law__1108 : decode cL_law_ 1108 = .ok (.iadd, 1) := by decide +kernel
theorem dL_law__1109 : decode cL_law_ 1109 = .ok (.iaload, 1) := by decide +kernel
theorem dL_law__1110 : decode cL_law_ 1110 = .ok (.aload_n 3, 1) := by decide +kernel
theorem dL_law__1111 : decode cL_law_ 1111 = .ok (.invokestatic 179, 3) := by decide +kernel
theorem dL_law__1114 : decode cL_law_ 1114 = .ok (.istore 5, 2) := by decide +kernel
theorem dL_law__1116 : decode cL_law_ 1116 = .ok (.aload_n 2, 1) := by decide +kernel
theorem dL_law__1117 : decode cL_law_ 1117 = .ok (.aload_n 0, 1) := by decide +kernel
theorem dL_law__1118 : decode cL_law_ 1118 = .ok (.iload 4, 2) := by decide +kernel
theorem dL_law__1120 : decode cL_law_ 1120 = .ok (.iconst 1, 1) := by decide +kernel
theorem dL_law__1121 : decode cL_law_ 1121 = .ok (.iadd, 1) := by decide +kernel
theorem dL_law__1122 : decode cL_law_ 1122 = .ok (.iaload, 1) := by decide +kernel
theorem dL_law__1123 : decode cL_law_ 1123 = .ok (.aload_n 0, 1) := by decide +kernel
theorem dL_law__1124 : decode cL_law_ 1124 = .ok (.iload 4, 2) := by decide +kernel
theorem dL_law__1126 : decode cL_law_ 1126 = .ok (.iconst 2, 1) := by decide +kernel
theorem dL_law__1127 : decode cL_law_ 1127 = .ok (.iadd, 1) := by decide +kernel
theorem dL_law__1128 : decode cL_law_ 1128 = .ok (.iaload, 1) := by decide +kernel
theorem dL_law__1129 : decode cL_law_ 1129 = .ok (.invokevirtual 181, 3) := by decide +kernel
theorem dL_law__1132 : decode cL_law_ 1132 = .ok (.istore 6, 2) := by decide +kernel
theorem dL_law__1134 : decode cL_law_ 1134 = .ok (.aload_n 2, 1) := by decide +kernel
theorem dL_law__1135 : decode cL_law_ 1135 = .ok (.invokevirtual 134, 3) := by decide +kernel
theorem dL_law__1138 : decode cL_law_ 1138 = .ok (.iload 5, 2) := by decide +kernel
theorem dL_law__1140 : decode cL_law_ 1140 = .ok (.if_icmp .eq 5, 3) := by decide +kernel
theorem dL_law__1143 : decode cL_law_ 1143 = .ok (.iconst 0, 1) := by decide +kernel
theorem dL_law__1144 : decode cL_law_ 1144 = .ok (.ireturn, 1) := by decide +kernel
theorem dL_law__1145 : decode cL_law_ 1145 = .ok (.iload 5, 2) := by decide +kernel
theorem dL_law__1147 : decode cL_law_ 1147 = .ok (.ifCond .ne 15, 3) := by decide +kernel
theorem dL_law__1150 : decode cL_law_ 1150 = .ok (.aload_n 3, 1) := by decide +kernel
theorem dL_law__1151 : decode cL_law_ 1151 = .ok (.iconst 0, 1) := by decide +kernel
theorem dL_law__1152 : decode cL_law_ 1152 = .ok (.laload, 1) := by decide +kernel
theorem dL_law__1153 : decode cL_law_ 1153 = .ok (.iload 6, 2) := by decide +kernel
theorem dL_law__1155 : decode cL_law_ 1155 = .ok (.i2l, 1) := by decide +kernel
theorem dL_law__1156 : decode cL_law_ 1156 = .ok (.lcmp, 1) := by decide +kernel
theorem dL_law__1157 : decode cL_law_ 1157 = .ok (.ifCond .eq 5, 3) := by decide +kernel
theorem dL_law__1160 : decode cL_law_ 1160 = .ok (.iconst 0, 1) := by decide +kernel
theorem dL_law__1161 : decode cL_law_ 1161 = .ok (.ireturn, 1) := by decide +kernel
theorem dL_law__1162 : decode cL_law_ 1162 = .ok (.goto 1581, 3) := by decide +kernel
theorem dL_law__1165 : decode cL_law_ 1165 = .ok (.aload_n 1, 1) := by decide +kernel
theorem dL_law__1166 : decode cL_law_ 1166 = .ok (.aload_n 0, 1) := by decide +kernel
theorem dL_law__1167 : decode cL_law_ 1167 = .ok (.iload 4, 2) := by decide +kernel
theorem dL_law__1169 : decode cL_law_ 1169 = .ok (.iconst 1, 1) := by decide +kernel
theorem dL_law__1170 : decode cL_law_ 1170 = .ok (.iadd, 1) := by decide +kernel
theorem dL_law__1171 : decode cL_law_ 1171 = .ok (.iaload, 1) := by decide +kernel
theorem dL_law__1172 : decode cL_law_ 1172 = .ok (.aload_n 3, 1) := by decide +kernel
theorem dL_law__1173 : decode cL_law_ 1173 = .ok (.invokestatic 182, 3) := by decide +kernel
theorem dL_law__1176 : decode cL_law_ 1176 = .ok (.istore 5, 2) := by decide +kernel
theorem dL_law__1178 : decode cL_law_ 1178 = .ok (.aload_n 2, 1) := by decide +kernel
theorem dL_law__1179 : decode cL_law_ 1179 = .ok (.aload_n 0, 1) := by decide +kernel
theorem dL_law__1180 : decode cL_law_ 1180 = .ok (.iload 4, 2) := by decide +kernel
theorem dL_law__1182 : decode cL_law_ 1182 = .ok (.iconst 1, 1) := by decide +kernel
theorem dL_law__1183 : decode cL_law_ 1183 = .ok (.iadd, 1) := by decide +kernel
theorem dL_law__1184 : decode cL_law_ 1184 = .ok (.iaload, 1) := by decide +kernel
theorem dL_law__1185 : decode cL_law_ 1185 = .ok (.invokevirtual 184, 3) := by decide +kernel
theorem dL_law__1188 : decode cL_law_ 1188 = .ok (.istore 6, 2) := by decide +kernel
theorem dL_law__1190 : decode cL_law_ 1190 = .ok (.aload_n 2, 1) := by decide +kernel
theorem dL_law__1191 : decode cL_law_ 1191 = .ok (.invokevirtual 134, 3) := by decide +kernel
theorem dL_law__1194 : decode cL_law_ 1194 = .ok (.iload 5, 2) := by decide +kernel
theorem dL_law__1196 : decode cL_law_ 1196 = .ok (.if_icmp .eq 5, 3) := by decide +kernel
theorem dL_law__1199 : decode cL_law_ 1199 = .ok (.iconst 0, 1) := by decide +kernel
theorem dL_law__1200 : decode cL_law_ 1200 = .ok (.ireturn, 1) := by decide +kernel
theorem dL_law__1201 : decode cL_law_ 1201 = .ok (.iload 5, 2) := by decide +kernel
theorem dL_law__1203 : decode cL_law_ 1203 = .ok (.ifCond .ne 15, 3) := by decide +kernel
theorem dL_law__1206 : decode cL_law_ 1206 = .ok (.aload_n 3, 1) := by decide +kernel
theorem dL_law__1207 : decode cL_law_ 1207 = .ok (.iconst 0, 1) := by decide +kernel
theorem dL_law__1208 : decode cL_law_ 1208 = .ok (.laload, 1) := by decide +kernel
theorem dL_law__1209 : decode cL_law_ 1209 = .ok (.iload 6, 2) := by decide +kernel
theorem dL_law__1211 : decode cL_law_ 1211 = .ok (.i2l, 1) := by decide +kernel
theorem dL_law__1212 : decode cL_law_ 1212 = .ok (.lcmp, 1) := by decide +kernel
theorem dL_law__1213 : decode cL_law_ 1213 = .ok (.ifCond .eq 5, 3) := by decide +kernel
theorem dL_law__1216 : decode cL_law_ 1216 = .ok (.iconst 0, 1) := by decide +kernel
theorem dL_law__1217 : decode cL_law_ 1217 = .ok (.ireturn, 1) := by decide +kernel
theorem dL_law__1218 : decode cL_law_ 1218 = .ok (.goto 1525, 3) := by decide +kernel
theorem dL_law__1221 : decode cL_law_ 1221 = .ok (.aload_n 1, 1) := by decide +kernel
theorem dL_law__1222 : decode cL_law_ 1222 = .ok (.aload_n 0, 1) := by decide +kernel
theorem dL_law__1223 : decode cL_law_ 1223 = .ok (.iload 4, 2) := by decide +kernel
theorem dL_law__1225 : decode cL_law_ 1225 = .ok (.iconst 1, 1) := by decide +kernel
theorem dL_law__1226 : decode cL_law_ 1226 = .ok (.iadd, 1) := by decide +kernel
theorem dL_law__1227 : decode cL_law_ 1227 = .ok (.iaload, 1) := by decide +kernel
theorem dL_law__1228 : decode cL_law_ 1228 = .ok (.aload_n 3, 1) := by decide +kernel
theorem dL_law__1229 : decode cL_law_ 1229 = .ok (.invokestatic 185, 3) := by decide +kernel
theorem dL_law__1232 : decode cL_law_ 1232 = .ok (.istore 5, 2) := by decide +kernel
theorem dL_law__1234 : decode cL_law_ 1234 = .ok (.aload_n 2, 1) := by decide +kernel
theorem dL_law__1235 : decode cL_law_ 1235 = .ok (.aload_n 0, 1) := by decide +kernel
theorem dL_law__1236 : decode cL_law_ 1236 = .ok (.iload 4, 2) := by decide +kernel
theorem dL_law__1238 : decode cL_law_ 1238 = .ok (.iconst 1, 1) := by decide +kernel
theorem dL_law__1239 : decode cL_law_ 1239 = .ok (.iadd, 1) := by decide +kernel
theorem dL_law__1240 : decode cL_law_ 1240 = .ok (.iaload, 1) := by decide +kernel
theorem dL_law__1241 : decode cL_law_ 1241 = .ok (.invokevirtual 187, 3) := by decide +kernel
theorem dL_law__1244 : decode cL_law_ 1244 = .ok (.istore 6, 2) := by decide +kernel
theorem dL_law__1246 : decode cL_law_ 1246 = .ok (.aload_n 2, 1) := by decide +kernel
theorem dL_law__1247 : decode cL_law_ 1247 = .ok (.invokevirtual 134, 3) := by decide +kernel
theorem dL_law__1250 : decode cL_law_ 1250 = .ok (.iload 5, 2) := by decide +kernel
theorem dL_law__1252 : decode cL_law_ 1252 = .ok (.if_icmp .eq 5, 3) := by decide +kernel
theorem dL_law__1255 : decode cL_law_ 1255 = .ok (.iconst 0, 1) := by decide +kernel
theorem dL_law__1256 : decode cL_law_ 1256 = .ok (.ireturn, 1) := by decide +kernel
theorem dL_law__1257 : decode cL_law_ 1257 = .ok (.iload 5, 2) := by decide +kernel
theorem dL_law__1259 : decode cL_law_ 1259 = .ok (.ifCond .ne 15, 3) := by decide +kernel
theorem dL_law__1262 : decode cL_law_ 1262 = .ok (.aload_n 3, 1) := by decide +kernel
theorem dL_law__1263 : decode cL_law_ 1263 = .ok (.iconst 0, 1) := by decide +kernel
theorem dL_law__1264 : decode cL_law_ 1264 = .ok (.laload, 1) := by decide +kernel
theorem dL_law__1265 : decode cL_law_ 1265 = .ok (.iload 6, 2) := by decide +kernel
theorem dL_law__1267 : decode cL_law_ 1267 = .ok (.i2l, 1) := by decide +kernel
theorem dL_law__1268 : decode cL_law_ 1268 = .ok (.lcmp, 1) := by decide +kernel
theorem dL_law__1269 : decode cL_law_ 1269 = .ok (.ifCond .eq 5, 3) := by decide +kernel
theorem dL_law__1272 : decode cL_law_ 1272 = .ok (.iconst 0, 1) := by decide +kernel
theorem dL_law__1273 : decode cL_law_ 1273 = .ok (.ireturn, 1) := by decide +kernel
theorem dL_law__1274 : decode cL_law_ 1274 = .ok (.goto 1469, 3) := by decide +kernel
theorem dL_law__1277 : decode cL_law_ 1277 = .ok (.aload_n 1, 1) := by decide +kernel
theorem dL_law__1278 : decode cL_law_ 1278 = .ok (.aload_n 0, 1) := by decide +kernel
theorem dL_law__1279 : decode cL_law_ 1279 = .ok (.iload 4, 2) := by decide +kernel
theorem dL_law__1281 : decode cL_law_ 1281 = .ok (.iconst 1, 1) := by decide +kernel
theorem dL_law__1282 : decode cL_law_ 1282 = .ok (.iadd, 1) := by decide +kernel
theorem dL_law__1283 : decode cL_law_ 1283 = .ok (.iaload, 1) := by decide +kernel
theorem dL_law__1284 : decode cL_law_ 1284 = .ok (.aload_n 0, 1) := by decide +kernel
theorem dL_law__1285 : decode cL_law_ 1285 = .ok (.iload 4, 2) := by decide +kernel
theorem dL_law__1287 : decode cL_law_ 1287 = .ok (.iconst 2, 1) := by decide +kernel
theorem dL_law__1288 : decode cL_law_ 1288 = .ok (.iadd, 1) := by decide +kernel
theorem dL_law__1289 : decode cL_law_ 1289 = .ok (.iaload, 1) := by decide +kernel
theorem dL_law__1290 : decode cL_law_ 1290 = .ok (.aload_n 0, 1) := by decide +kernel
theorem dL_law__1291 : decode cL_law_ 1291 = .ok (.iload 4, 2) := by decide +kernel
theorem dL_law__1293 : decode cL_law_ 1293 = .ok (.iconst 3, 1) := by decide +kernel
theorem dL_law__1294 : decode cL_law_ 1294 = .ok (.iadd, 1) := by decide +kernel
theorem dL_law__1295 : decode cL_law_ 1295 = .ok (.iaload, 1) := by decide +kernel
theorem dL_law__1296 : decode cL_law_ 1296 = .ok (.aload_n 3, 1) := by decide +kernel
theorem dL_law__1297 : decode cL_law_ 1297 = .ok (.invokestatic 188, 3) := by decide +kernel
theorem dL_law__1300 : decode cL_law_ 1300 = .ok (.istore 5, 2) := by decide +kernel
theorem dL_law__1302 : decode cL_law_ 1302 = .ok (.aload_n 2, 1) := by decide +kernel
theorem dL_law__1303 : decode cL_law_ 1303 = .ok (.aload_n 0, 1) := by decide +kernel
theorem dL_law__1304 : decode cL_law_ 1304 = .ok (.iload 4, 2) := by decide +kernel
theorem dL_law__1306 : decode cL_law_ 1306 = .ok (.iconst 1, 1) := by decide +kernel
theorem dL_law__1307 : decode cL_law_ 1307 = .ok (.iadd, 1) := by decide +kernel
theorem dL_law__1308 : decode cL_law_ 1308 = .ok (.iaload, 1) := by decide +kernel
theorem dL_law__1309 : decode cL_law_ 1309 = .ok (.aload_n 0, 1) := by decide +kernel
theorem dL_law__1310 : decode cL_law_ 1310 = .ok (.iload 4, 2) := by decide +kernel
theorem dL_law__1312 : decode cL_law_ 1312 = .ok (.iconst 2, 1) := by decide +kernel
theorem dL_law__1313 : decode cL_law_ 1313 = .ok (.iadd, 1) := by decide +kernel
theorem dL_law__1314 : decode cL_law_ 1314 = .ok (.iaload, 1) := by decide +kernel
theorem dL_law__1315 : decode cL_law_ 1315 = .ok (.aload_n 0, 1) := by decide +kernel
theorem dL_law__1316 : decode cL_law_ 1316 = .ok (.iload 4, 2) := by decide +kernel
theorem dL_law__1318 : decode cL_law_ 1318 = .ok (.iconst 3, 1) := by decide +kernel
theorem dL_law__1319 : decode cL_law_ 1319 = .ok (.iadd, 1) := by decide +kernel
theorem dL_law__1320 : decode cL_law_ 1320 = .ok (.iaload, 1) := by decide +kernel
theorem dL_law__1321 : decode cL_law_ 1321 = .ok (.invokevirtual 190, 3) := by decide +kernel
theorem dL_law__1324 : decode cL_law_ 1324 = .ok (.istore 6, 2) := by decide +kernel
theorem dL_law__1326 : decode cL_law_ 1326 = .ok (.aload_n 2, 1) := by decide +kernel
theorem dL_law__1327 : decode cL_law_ 1327 = .ok (.invokevirtual 134, 3) := by decide +kernel
theorem dL_law__1330 : decode cL_law_ 1330 = .ok (.iload 5, 2) := by decide +kernel
theorem dL_law__1332 : decode cL_law_ 1332 = .ok (.if_icmp .eq 5, 3) := by decide +kernel
theorem dL_law__1335 : decode cL_law_ 1335 = .ok (.iconst 0, 1) := by decide +kernel
theorem dL_law__1336 : decode cL_law_ 1336 = .ok (.ireturn, 1) := by decide +kernel
theorem dL_law__1337 : decode cL_law_ 1337 = .ok (.iload 5, 2) := by decide +kernel
theorem dL_law__1339 : decode cL_law_ 1339 = .ok (.ifCond .ne 15, 3) := by decide +kernel
theorem dL_law__1342 : decode cL_law_ 1342 = .ok (.aload_n 3, 1) := by decide +kernel
theorem dL_law__1343 : decode cL_law_ 1343 = .ok (.iconst 0, 1) := by decide +kernel
theorem dL_law__1344 : decode cL_law_ 1344 = .ok (.laload, 1) := by decide +kernel
theorem dL_law__1345 : decode cL_law_ 1345 = .ok (.iload 6, 2) := by decide +kernel
theorem dL_law__1347 : decode cL_law_ 1347 = .ok (.i2l, 1) := by decide +kernel
theorem dL_law__1348 : decode cL_law_ 1348 = .ok (.lcmp, 1) := by decide +kernel
theorem dL_law__1349 : decode cL_law_ 1349 = .ok (.ifCond .eq 5, 3) := by decide +kernel
theorem dL_law__1352 : decode cL_law_ 1352 = .ok (.iconst 0, 1) := by decide +kernel
theorem dL_law__1353 : decode cL_law_ 1353 = .ok (.ireturn, 1) := by decide +kernel
theorem dL_law__1354 : decode cL_law_ 1354 = .ok (.goto 1389, 3) := by decide +kernel
theorem dL_law__1357 : decode cL_law_ 1357 = .ok (.aload_n 1, 1) := by decide +kernel
theorem dL_law__1358 : decode cL_law_ 1358 = .ok (.aload_n 0, 1) := by decide +kernel
theorem dL_law__1359 : decode cL_law_ 1359 = .ok (.iload 4, 2) := by decide +kernel
theorem dL_law__1361 : decode cL_law_ 1361 = .ok (.iconst 1, 1) := by decide +kernel
theorem dL_law__1362 : decode cL_law_ 1362 = .ok (.iadd, 1) := by decide +kernel
theorem dL_law__1363 : decode cL_law_ 1363 = .ok (.iaload, 1) := by decide +kernel
theorem dL_law__1364 : decode cL_law_ 1364 = .ok (.aload_n 0, 1) := by decide +kernel
theorem dL_law__1365 : decode cL_law_ 1365 = .ok (.iload 4, 2) := by decide +kernel
theorem dL_law__1367 : decode cL_law_ 1367 = .ok (.iconst 2, 1) := by decide +kernel
theorem dL_law__1368 : decode cL_law_ 1368 = .ok (.iadd, 1) := by decide +kernel
theorem dL_law__1369 : decode cL_law_ 1369 = .ok (.iaload, 1) := by decide +kernel
theorem dL_law__1370 : decode cL_law_ 1370 = .ok (.aload_n 3, 1) := by decide +kernel
theorem dL_law__1371 : decode cL_law_ 1371 = .ok (.invokestatic 191, 3) := by decide +kernel
theorem dL_law__1374 : decode cL_law_ 1374 = .ok (.istore 5, 2) := by decide +kernel
theorem dL_law__1376 : decode cL_law_ 1376 = .ok (.aload_n 2, 1) := by decide +kernel
theorem dL_law__1377 : decode cL_law_ 1377 = .ok (.aload_n 0, 1) := by decide +kernel
theorem dL_law__1378 : decode cL_law_ 1378 = .ok (.iload 4, 2) := by decide +kernel
theorem dL_law__1380 : decode cL_law_ 1380 = .ok (.iconst 1, 1) := by decide +kernel
theorem dL_law__1381 : decode cL_law_ 1381 = .ok (.iadd, 1) := by decide +kernel
theorem dL_law__1382 : decode cL_law_ 1382 = .ok (.iaload, 1) := by decide +kernel
theorem dL_law__1383 : decode cL_law_ 1383 = .ok (.aload_n 0, 1) := by decide +kernel
theorem dL_law__1384 : decode cL_law_ 1384 = .ok (.iload 4, 2) := by decide +kernel
theorem dL_law__1386 : decode cL_law_ 1386 = .ok (.iconst 2, 1) := by decide +kernel
theorem dL_law__1387 : decode cL_law_ 1387 = .ok (.iadd, 1) := by decide +kernel
theorem dL_law__1388 : decode cL_law_ 1388 = .ok (.iaload, 1) := by decide +kernel
theorem dL_law__1389 : decode cL_law_ 1389 = .ok (.invokevirtual 193, 3) := by decide +kernel
theorem dL_law__1392 : decode cL_law_ 1392 = .ok (.istore 6, 2) := by decide +kernel
theorem dL_law__1394 : decode cL_law_ 1394 = .ok (.aload_n 2, 1) := by decide +kernel
theorem dL_law__1395 : decode cL_law_ 1395 = .ok (.invokevirtual 134, 3) := by decide +kernel
theorem dL_law__1398 : decode cL_law_ 1398 = .ok (.iload 5, 2) := by decide +kernel
theorem dL_law__1400 : decode cL_law_ 1400 = .ok (.if_icmp .eq 5, 3) := by decide +kernel
theorem dL_law__1403 : decode cL_law_ 1403 = .ok (.iconst 0, 1) := by decide +kernel
theorem dL_law__1404 : decode cL_law_ 1404 = .ok (.ireturn, 1) := by decide +kernel
theorem dL_law__1405 : decode cL_law_ 1405 = .ok (.iload 5, 2) := by decide +kernel
theorem dL_law__1407 : decode cL_law_ 1407 = .ok (.ifCond .ne 15, 3) := by decide +kernel
theorem dL_law__1410 : decode cL_law_ 1410 = .ok (.aload_n 3, 1) := by decide +kernel
theorem dL_law__1411 : decode cL_law_ 1411 = .ok (.iconst 0, 1) := by decide +kernel
theorem dL_law__1412 : decode cL_law_ 1412 = .ok (.laload, 1) := by decide +kernel
theorem dL_law__1413 : decode cL_law_ 1413 = .ok (.iload 6, 2) := by decide +kernel
theorem dL_law__1415 : decode cL_law_ 1415 = .ok (.i2l, 1) := by decide +kernel
theorem dL_law__1416 : decode cL_law_ 1416 = .ok (.lcmp, 1) := by decide +kernel
theorem dL_law__1417 : decode cL_law_ 1417 = .ok (.ifCond .eq 5, 3) := by decide +kernel
theorem dL_law__1420 : decode cL_law_ 1420 = .ok (.iconst 0, 1) := by decide +kernel
theorem dL_law__1421 : decode cL_law_ 1421 = .ok (.ireturn, 1) := by decide +kernel
theorem dL_law__1422 : decode cL_law_ 1422 = .ok (.goto 1321, 3) := by decide +kernel
theorem dL_law__1425 : decode cL_law_ 1425 = .ok (.aload_n 1, 1) := by decide +kernel
theorem dL_law__1426 : decode cL_law_ 1426 = .ok (.aload_n 0, 1) := by decide +kernel
theorem dL_law__1427 : decode cL_law_ 1427 = .ok (.iload 4, 2) := by decide +kernel
theorem dL_law__1429 : decode cL_law_ 1429 = .ok (.iconst 1, 1) := by decide +kernel
theorem dL_law__1430 : decode cL_law_ 1430 = .ok (.iadd, 1) := by decide +kernel
theorem dL_law__1431 : decode cL_law_ 1431 = .ok (.iaload, 1) := by decide +kernel
theorem dL_law__1432 : decode cL_law_ 1432 = .ok (.aload_n 3, 1) := by decide +kernel
theorem dL_law__1433 : decode cL_law_ 1433 = .ok (.invokestatic 194, 3) := by decide +kernel
theorem dL_law__1436 : decode cL_law_ 1436 = .ok (.istore 5, 2) := by decide +kernel
theorem dL_law__1438 : decode cL_law_ 1438 = .ok (.aload_n 2, 1) := by decide +kernel
theorem dL_law__1439 : decode cL_law_ 1439 = .ok (.aload_n 0, 1) := by decide +kernel
theorem dL_law__1440 : decode cL_law_ 1440 = .ok (.iload 4, 2) := by decide +kernel
theorem dL_law__1442 : decode cL_law_ 1442 = .ok (.iconst 1, 1) := by decide +kernel
theorem dL_law__1443 : decode cL_law_ 1443 = .ok (.iadd, 1) := by decide +kernel
theorem dL_law__1444 : decode cL_law_ 1444 = .ok (.iaload, 1) := by decide +kernel
theorem dL_law__1445 : decode cL_law_ 1445 = .ok (.invokevirtual 196, 3) := by decide +kernel
theorem dL_law__1448 : decode cL_law_ 1448 = .ok (.istore 6, 2) := by decide +kernel
theorem dL_law__1450 : decode cL_law_ 1450 = .ok (.aload_n 2, 1) := by decide +kernel
theorem dL_law__1451 : decode cL_law_ 1451 = .ok (.invokevirtual 134, 3) := by decide +kernel
theorem dL_law__1454 : decode cL_law_ 1454 = .ok (.iload 5, 2) := by decide +kernel
theorem dL_law__1456 : decode cL_law_ 1456 = .ok (.if_icmp .eq 5, 3) := by decide +kernel
theorem dL_law__1459 : decode cL_law_ 1459 = .ok (.iconst 0, 1) := by decide +kernel
theorem dL_law__1460 : decode cL_law_ 1460 = .ok (.ireturn, 1) := by decide +kernel
theorem dL_law__1461 : decode cL_law_ 1461 = .ok (.iload 5, 2) := by decide +kernel
theorem dL_law__1463 : decode cL_law_ 1463 = .ok (.ifCond .ne 15, 3) := by decide +kernel
theorem dL_law__1466 : decode cL_law_ 1466 = .ok (.aload_n 3, 1) := by decide +kernel
theorem dL_law__1467 : decode cL_law_ 1467 = .ok (.iconst 0, 1) := by decide +kernel
theorem dL_law__1468 : decode cL_law_ 1468 = .ok (.laload, 1) := by decide +kernel
theorem dL_law__1469 : decode cL_law_ 1469 = .ok (.iload 6, 2) := by decide +kernel
theorem dL_law__1471 : decode cL_law_ 1471 = .ok (.i2l, 1) := by decide +kernel
theorem dL_law__1472 : decode cL_law_ 1472 = .ok (.lcmp, 1) := by decide +kernel
theorem dL_law__1473 : decode cL_law_ 1473 = .ok (.ifCond .eq 5, 3) := by decide +kernel
theorem dL_law__1476 : decode cL_law_ 1476 = .ok (.iconst 0, 1) := by decide +kernel
theorem dL_law__1477 : decode cL_law_ 1477 = .ok (.ireturn, 1) := by decide +kernel
theorem dL_law__1478 : decode cL_law_ 1478 = .ok (.goto 1265, 3) := by decide +kernel
theorem dL_law__1481 : decode cL_law_ 1481 = .ok (.aload_n 1, 1) := by decide +kernel
theorem dL_law__1482 : decode cL_law_ 1482 = .ok (.aload_n 0, 1) := by decide +kernel
theorem dL_law__1483 : decode cL_law_ 1483 = .ok (.iload 4, 2) := by decide +kernel
theorem dL_law__1485 : decode cL_law_ 1485 = .ok (.iconst 1, 1) := by decide +kernel
theorem dL_law__1486 : decode cL_law_ 1486 = .ok (.iadd, 1) := by decide +kernel
theorem dL_law__1487 : decode cL_law_ 1487 = .ok (.iaload, 1) := by decide +kernel
theorem dL_law__1488 : decode cL_law_ 1488 = .ok (.aload_n 3, 1) := by decide +kernel
theorem dL_law__1489 : decode cL_law_ 1489 = .ok (.invokestatic 197, 3) := by decide +kernel
theorem dL_law__1492 : decode cL_law_ 1492 = .ok (.istore 5, 2) := by decide +kernel
theorem dL_law__1494 : decode cL_law_ 1494 = .ok (.aload_n 2, 1) := by decide +kernel
theorem dL_law__1495 : decode cL_law_ 1495 = .ok (.aload_n 0, 1) := by decide +kernel
theorem dL_law__1496 : decode cL_law_ 1496 = .ok (.iload 4, 2) := by decide +kernel
theorem dL_law__1498 : decode cL_law_ 1498 = .ok (.iconst 1, 1) := by decide +kernel
theorem dL_law__1499 : decode cL_law_ 1499 = .ok (.iadd, 1) := by decide +kernel
theorem dL_law__1500 : decode cL_law_ 1500 = .ok (.iaload, 1) := by decide +kernel
theorem dL_law__1501 : decode cL_law_ 1501 = .ok (.invokevirtual 199, 3) := by decide +kernel
theorem dL_law__1504 : decode cL_law_ 1504 = .ok (.istore 6, 2) := by decide +kernel
theorem dL_law__1506 : decode cL_law_ 1506 = .ok (.aload_n 2, 1) := by decide +kernel
theorem dL_law__1507 : decode cL_law_ 1507 = .ok (.invokevirtual 134, 3) := by decide +kernel
theorem dL_law__1510 : decode cL_law_ 1510 = .ok (.iload 5, 2) := by decide +kernel
theorem dL_law__1512 : decode cL_law_ 1512 = .ok (.if_icmp .eq 5, 3) := by decide +kernel
theorem dL_law__1515 : decode cL_law_ 1515 = .ok (.iconst 0, 1) := by decide +kernel
theorem dL_law__1516 : decode cL_law_ 1516 = .ok (.ireturn, 1) := by decide +kernel
theorem dL_law__1517 : decode cL_law_ 1517 = .ok (.iload 5, 2) := by decide +kernel
theorem dL_law__1519 : decode cL_law_ 1519 = .ok (.ifCond .ne 15, 3) := by decide +kernel
theorem dL_law__1522 : decode cL_law_ 1522 = .ok (.aload_n 3, 1) := by decide +kernel
theorem dL_law__1523 : decode cL_law_ 1523 = .ok (.iconst 0, 1) := by decide +kernel
theorem dL_law__1524 : decode cL_law_ 1524 = .ok (.laload, 1) := by decide +kernel
theorem dL_law__1525 : decode cL_law_ 1525 = .ok (.iload 6, 2) := by decide +kernel
theorem dL_law__1527 : decode cL_law_ 1527 = .ok (.i2l, 1) := by decide +kernel
theorem dL_law__1528 : decode cL_law_ 1528 = .ok (.lcmp, 1) := by decide +kernel
theorem dL_law__1529 : decode cL_law_ 1529 = .ok (.ifCond .eq 5, 3) := by decide +kernel
theorem dL_law__1532 : decode cL_law_ 1532 = .ok (.iconst 0, 1) := by decide +kernel
theorem dL_law__1533 : decode cL_law_ 1533 = .ok (.ireturn, 1) := by decide +kernel
theorem dL_law__1534 : decode cL_law_ 1534 = .ok (.goto 1209, 3) := by decide +kernel
theorem dL_law__1537 : decode cL_law_ 1537 = .ok (.aload_n 1, 1) := by decide +kernel
theorem dL_law__1538 : decode cL_law_ 1538 = .ok (.aload_n 0, 1) := by decide +kernel
theorem dL_law__1539 : decode cL_law_ 1539 = .ok (.iload 4, 2) := by decide +kernel
theorem dL_law__1541 : decode cL_law_ 1541 = .ok (.iconst 1, 1) := by decide +kernel
