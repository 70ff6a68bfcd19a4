theorem dL_law_1141 : decode cL_law 1141 = .ok (.iload 5, 2) := by decide +kernel
theorem dL_law_1143 : decode cL_law 1143 = .ok (.if_icmp .eq 5, 3) := by decide +kernel
theorem dL_law_1146 : decode cL_law 1146 = .ok (.iconst 0, 1) := by decide +kernel
theorem dL_law_1147 : decode cL_law 1147 = .ok (.ireturn, 1) := by decide +kernel
theorem dL_law_1148 : decode cL_law 1148 = .ok (.iload 5, 2) := by decide +kernel
theorem dL_law_1150 : decode cL_law 1150 = .ok (.ifCond .ne 15, 3) := by decide +kernel
theorem dL_law_1153 : decode cL_law 1153 = .ok (.aload_n 3, 1) := by decide +kernel
theorem dL_law_1154 : decode cL_law 1154 = .ok (.iconst 0, 1) := by decide +kernel
theorem dL_law_1155 : decode cL_law 1155 = .ok (.laload, 1) := by decide +kernel
theorem dL_law_1156 : decode cL_law 1156 = .ok (.iload 6, 2) := by decide +kernel
theorem dL_law_1158 : decode cL_law 1158 = .ok (.i2l, 1) := by decide +kernel
theorem dL_law_1159 : decode cL_law 1159 = .ok (.lcmp, 1) := by decide +kernel
theorem dL_law_1160 : decode cL_law 1160 = .ok (.ifCond .eq 5, 3) := by decide +kernel
theorem dL_law_1163 : decode cL_law 1163 = .ok (.iconst 0, 1) := by decide +kernel
theorem dL_law_1164 : decode cL_law 1164 = .ok (.ireturn, 1) := by decide +kernel
theorem dL_law_1165 : decode cL_law 1165 = .ok (.goto 600, 3) := by decide +kernel
theorem dL_law_1168 : decode cL_law 1168 = .ok (.aload_n 1, 1) := by decide +kernel
theorem dL_law_1169 : decode cL_law 1169 = .ok (.aload_n 0, 1) := by decide +kernel
theorem dL_law_1170 : decode cL_law 1170 = .ok (.iload 4, 2) := by decide +kernel
theorem dL_law_1172 : decode cL_law 1172 = .ok (.iconst 1, 1) := by decide +kernel
theorem dL_law_1173 : decode cL_law 1173 = .ok (.iadd, 1) := by decide +kernel
theorem dL_law_1174 : decode cL_law 1174 = .ok (.iaload, 1) := by decide +kernel
theorem dL_law_1175 : decode cL_law 1175 = .ok (.aload_n 0, 1) := by decide +kernel
theorem dL_law_1176 : decode cL_law 1176 = .ok (.iload 4, 2) := by decide +kernel
theorem dL_law_1178 : decode cL_law 1178 = .ok (.iconst 2, 1) := by decide +kernel
theorem dL_law_1179 : decode cL_law 1179 = .ok (.iadd, 1) := by decide +kernel
theorem dL_law_1180 : decode cL_law 1180 = .ok (.iaload, 1) := by decide +kernel
theorem dL_law_1181 : decode cL_law 1181 = .ok (.aload_n 3, 1) := by decide +kernel
theorem dL_law_1182 : decode cL_law 1182 = .ok (.invokestatic 148, 3) := by decide +kernel
theorem dL_law_1185 : decode cL_law 1185 = .ok (.istore 5, 2) := by decide +kernel
theorem dL_law_1187 : decode cL_law 1187 = .ok (.aload_n 2, 1) := by decide +kernel
theorem dL_law_1188 : decode cL_law 1188 = .ok (.aload_n 0, 1) := by decide +kernel
theorem dL_law_1189 : decode cL_law 1189 = .ok (.iload 4, 2) := by decide +kernel
theorem dL_law_1191 : decode cL_law 1191 = .ok (.iconst 1, 1) := by decide +kernel
theorem dL_law_1192 : decode cL_law 1192 = .ok (.iadd, 1) := by decide +kernel
theorem dL_law_1193 : decode cL_law 1193 = .ok (.iaload, 1) := by decide +kernel
theorem dL_law_1194 : decode cL_law 1194 = .ok (.aload_n 0, 1) := by decide +kernel
theorem dL_law_1195 : decode cL_law 1195 = .ok (.iload 4, 2) := by decide +kernel
theorem dL_law_1197 : decode cL_law 1197 = .ok (.iconst 2, 1) := by decide +kernel
theorem dL_law_1198 : decode cL_law 1198 = .ok (.iadd, 1) := by decide +kernel
theorem dL_law_1199 : decode cL_law 1199 = .ok (.iaload, 1) := by decide +kernel
theorem dL_law_1200 : decode cL_law 1200 = .ok (.invokevirtual 150, 3) := by decide +kernel
theorem dL_law_1203 : decode cL_law 1203 = .ok (.istore 6, 2) := by decide +kernel
theorem dL_law_1205 : decode cL_law 1205 = .ok (.aload_n 2, 1) := by decide +kernel
theorem dL_law_1206 : decode cL_law 1206 = .ok (.invokevirtual 96, 3) := by decide +kernel
theorem dL_law_1209 : decode cL_law 1209 = .ok (.iload 5, 2) := by decide +kernel
theorem dL_law_1211 : decode cL_law 1211 = .ok (.if_icmp .eq 5, 3) := by decide +kernel
theorem dL_law_1214 : decode cL_law 1214 = .ok (.iconst 0, 1) := by decide +kernel
theorem dL_law_1215 : decode cL_law 1215 = .ok (.ireturn, 1) := by decide +kernel
theorem dL_law_1216 : decode cL_law 1216 = .ok (.iload 5, 2) := by decide +kernel
theorem dL_law_1218 : decode cL_law 1218 = .ok (.ifCond .ne 15, 3) := by decide +kernel
theorem dL_law_1221 : decode cL_law 1221 = .ok (.aload_n 3, 1) := by decide +kernel
theorem dL_law_1222 : decode cL_law 1222 = .ok (.iconst 0, 1) := by decide +kernel
theorem dL_law_1223 : decode cL_law 1223 = .ok (.laload, 1) := by decide +kernel
theorem dL_law_1224 : decode cL_law 1224 = .ok (.iload 6, 2) := by decide +kernel
theorem dL_law_1226 : decode cL_law 1226 = .ok (.i2l, 1) := by decide +kernel
theorem dL_law_1227 : decode cL_law 1227 = .ok (.lcmp, 1) := by decide +kernel
theorem dL_law_1228 : decode cL_law 1228 = .ok (.ifCond .eq 5, 3) := by decide +kernel
theorem dL_law_1231 : decode cL_law 1231 = .ok (.iconst 0, 1) := by decide +kernel
theorem dL_law_1232 : decode cL_law 1232 = .ok (.ireturn, 1) := by decide +kernel
theorem dL_law_1233 : decode cL_law 1233 = .ok (.goto 532, 3) := by decide +kernel
theorem dL_law_1236 : decode cL_law 1236 = .ok (.aload_n 1, 1) := by decide +kernel
theorem dL_law_1237 : decode cL_law 1237 = .ok (.aload_n 0, 1) := by decide +kernel
theorem dL_law_1238 : decode cL_law 1238 = .ok (.iload 4, 2) := by decide +kernel
theorem dL_law_1240 : decode cL_law 1240 = .ok (.iconst 1, 1) := by decide +kernel
theorem dL_law_1241 : decode cL_law 1241 = .ok (.iadd, 1) := by decide +kernel
theorem dL_law_1242 : decode cL_law 1242 = .ok (.iaload, 1) := by decide +kernel
theorem dL_law_1243 : decode cL_law 1243 = .ok (.aload_n 0, 1) := by decide +kernel
theorem dL_law_1244 : decode cL_law 1244 = .ok (.iload 4, 2) := by decide +kernel
theorem dL_law_1246 : decode cL_law 1246 = .ok (.iconst 2, 1) := by decide +kernel
theorem dL_law_1247 : decode cL_law 1247 = .ok (.iadd, 1) := by decide +kernel
theorem dL_law_1248 : decode cL_law 1248 = .ok (.iaload, 1) := by decide +kernel
theorem dL_law_1249 : decode cL_law 1249 = .ok (.aload_n 3, 1) := by decide +kernel
theorem dL_law_1250 : decode cL_law 1250 = .ok (.invokestatic 151, 3) := by decide +kernel
theorem dL_law_1253 : decode cL_law 1253 = .ok (.istore 5, 2) := by decide +kernel
theorem dL_law_1255 : decode cL_law 1255 = .ok (.aload_n 2, 1) := by decide +kernel
theorem dL_law_1256 : decode cL_law 1256 = .ok (.aload_n 0, 1) := by decide +kernel
theorem dL_law_1257 : decode cL_law 1257 = .ok (.iload 4, 2) := by decide +kernel
theorem dL_law_1259 : decode cL_law 1259 = .ok (.iconst 1, 1) := by decide +kernel
theorem dL_law_1260 : decode cL_law 1260 = .ok (.iadd, 1) := by decide +kernel
theorem dL_law_1261 : decode cL_law 1261 = .ok (.iaload, 1) := by decide +kernel
theorem dL_law_1262 : decode cL_law 1262 = .ok (.aload_n 0, 1) := by decide +kernel
theorem dL_law_1263 : decode cL_law 1263 = .ok (.iload 4, 2) := by decide +kernel
theorem dL_law_1265 : decode cL_law 1265 = .ok (.iconst 2, 1) := by decide +kernel
theorem dL_law_1266 : decode cL_law 1266 = .ok (.iadd, 1) := by decide +kernel
theorem dL_law_1267 : decode cL_law 1267 = .ok (.iaload, 1) := by decide +kernel
theorem dL_law_1268 : decode cL_law 1268 = .ok (.invokevirtual 153, 3) := by decide +kernel
theorem dL_law_1271 : decode cL_law 1271 = .ok (.istore 6, 2) := by decide +kernel
theorem dL_law_1273 : decode cL_law 1273 = .ok (.aload_n 2, 1) := by decide +kernel
theorem dL_law_1274 : decode cL_law 1274 = .ok (.invokevirtual 96, 3) := by decide +kernel
theorem dL_law_1277 : decode cL_law 1277 = .ok (.iload 5, 2) := by decide +kernel
theorem dL_law_1279 : decode cL_law 1279 = .ok (.if_icmp .eq 5, 3) := by decide +kernel
theorem dL_law_1282 : decode cL_law 1282 = .ok (.iconst 0, 1) := by decide +kernel
theorem dL_law_1283 : decode cL_law 1283 = .ok (.ireturn, 1) := by decide +kernel
theorem dL_law_1284 : decode cL_law 1284 = .ok (.iload 5, 2) := by decide +kernel
theorem dL_law_1286 : decode cL_law 1286 = .ok (.ifCond .ne 15, 3) := by decide +kernel
theorem dL_law_1289 : decode cL_law 1289 = .ok (.aload_n 3, 1) := by decide +kernel
theorem dL_law_1290 : decode cL_law 1290 = .ok (.iconst 0, 1) := by decide +kernel
theorem dL_law_1291 : decode cL_law 1291 = .ok (.laload, 1) := by decide +kernel
theorem dL_law_1292 : decode cL_law 1292 = .ok (.iload 6, 2) := by decide +kernel
theorem dL_law_1294 : decode cL_law 1294 = .ok (.i2l, 1) := by decide +kernel
theorem dL_law_1295 : decode cL_law 1295 = .ok (.lcmp, 1) := by decide +kernel
theorem dL_law_1296 : decode cL_law 1296 = .ok (.ifCond .eq 5, 3) := by decide +kernel
theorem dL_law_1299 : decode cL_law 1299 = .ok (.iconst 0, 1) := by decide +kernel
theorem dL_law_1300 : decode cL_law 1300 = .ok (.ireturn, 1) := by decide +kernel
theorem dL_law_1301 : decode cL_law 1301 = .ok (.goto 464, 3) := by decide +kernel
theorem dL_law_1304 : decode cL_law 1304 = .ok (.aload_n 1, 1) := by decide +kernel
theorem dL_law_1305 : decode cL_law 1305 = .ok (.aload_n 0, 1) := by decide +kernel
theorem dL_law_1306 : decode cL_law 1306 = .ok (.iload 4, 2) := by decide +kernel
theorem dL_law_1308 : decode cL_law 1308 = .ok (.iconst 1, 1) := by decide +kernel
theorem dL_law_1309 : decode cL_law 1309 = .ok (.iadd, 1) := by decide +kernel
theorem dL_law_1310 : decode cL_law 1310 = .ok (.iaload, 1) := by decide +kernel
theorem dL_law_1311 : decode cL_law 1311 = .ok (.aload_n 0, 1) := by decide +kernel
theorem dL_law_1312 : decode cL_law 1312 = .ok (.iload 4, 2) := by decide +kernel
theorem dL_law_1314 : decode cL_law 1314 = .ok (.iconst 2, 1) := by decide +kernel
theorem dL_law_1315 : decode cL_law 1315 = .ok (.iadd, 1) := by decide +kernel
theorem dL_law_1316 : decode cL_law 1316 = .ok (.iaload, 1) := by decide +kernel
theorem dL_law_1317 : decode cL_law 1317 = .ok (.aload_n 3, 1) := by decide +kernel
theorem dL_law_1318 : decode cL_law 1318 = .ok (.invokestatic 154, 3) := by decide +kernel
theorem dL_law_1321 : decode cL_law 1321 = .ok (.istore 5, 2) := by decide +kernel
