theorem dL_law_946 : decode cL_law 946 = .ok (.aload_n 1, 1) := by decide +kernel
theorem dL_law_947 : decode cL_law 947 = .ok (.invokevirtual 255, 3) := by decide +kernel
theorem dL_law_950 : decode cL_law 950 = .ok (.aload_n 2, 1) := by decide +kernel
theorem dL_law_951 : decode cL_law 951 = .ok (.invokevirtual 258, 3) := by decide +kernel
theorem dL_law_954 : decode cL_law 954 = .ok (.if_icmp .eq 3021, 3) := by decide +kernel
theorem dL_law_959 : decode cL_law 959 = .ok (.aload_n 1, 1) := by decide +kernel
theorem dL_law_960 : decode cL_law 960 = .ok (.aload_n 0, 1) := by decide +kernel
theorem dL_law_961 : decode cL_law 961 = .ok (.iload 5, 2) := by decide +kernel
theorem dL_law_963 : decode cL_law 963 = .ok (.iconst 1, 1) := by decide +kernel
theorem dL_law_964 : decode cL_law 964 = .ok (.iadd, 1) := by decide +kernel
theorem dL_law_965 : decode cL_law 965 = .ok (.iaload, 1) := by decide +kernel
theorem dL_law_966 : decode cL_law 966 = .ok (.aload_n 0, 1) := by decide +kernel
theorem dL_law_967 : decode cL_law 967 = .ok (.iload 5, 2) := by decide +kernel
theorem dL_law_969 : decode cL_law 969 = .ok (.iconst 2, 1) := by decide +kernel
theorem dL_law_970 : decode cL_law 970 = .ok (.iadd, 1) := by decide +kernel
theorem dL_law_971 : decode cL_law 971 = .ok (.iaload, 1) := by decide +kernel
theorem dL_law_972 : decode cL_law 972 = .ok (.aload_n 3, 1) := by decide +kernel
theorem dL_law_973 : decode cL_law 973 = .ok (.invokestatic 259, 3) := by decide +kernel
theorem dL_law_976 : decode cL_law 976 = .ok (.istore 6, 2) := by decide +kernel
theorem dL_law_978 : decode cL_law 978 = .ok (.aload_n 2, 1) := by decide +kernel
theorem dL_law_979 : decode cL_law 979 = .ok (.aload_n 0, 1) := by decide +kernel
theorem dL_law_980 : decode cL_law 980 = .ok (.iload 5, 2) := by decide +kernel
theorem dL_law_982 : decode cL_law 982 = .ok (.iconst 1, 1) := by decide +kernel
theorem dL_law_983 : decode cL_law 983 = .ok (.iadd, 1) := by decide +kernel
theorem dL_law_984 : decode cL_law 984 = .ok (.iaload, 1) := by decide +kernel
theorem dL_law_985 : decode cL_law 985 = .ok (.aload_n 0, 1) := by decide +kernel
theorem dL_law_986 : decode cL_law 986 = .ok (.iload 5, 2) := by decide +kernel
theorem dL_law_988 : decode cL_law 988 = .ok (.iconst 2, 1) := by decide +kernel
theorem dL_law_989 : decode cL_law 989 = .ok (.iadd, 1) := by decide +kernel
theorem dL_law_990 : decode cL_law 990 = .ok (.iaload, 1) := by decide +kernel
theorem dL_law_991 : decode cL_law 991 = .ok (.invokevirtual 261, 3) := by decide +kernel
theorem dL_law_994 : decode cL_law 994 = .ok (.istore 7, 2) := by decide +kernel
theorem dL_law_996 : decode cL_law 996 = .ok (.aload_n 2, 1) := by decide +kernel
theorem dL_law_997 : decode cL_law 997 = .ok (.invokevirtual 204, 3) := by decide +kernel
theorem dL_law_1000 : decode cL_law 1000 = .ok (.iload 6, 2) := by decide +kernel
theorem dL_law_1002 : decode cL_law 1002 = .ok (.if_icmp .eq 5, 3) := by decide +kernel
theorem dL_law_1007 : decode cL_law 1007 = .ok (.iload 6, 2) := by decide +kernel
theorem dL_law_1009 : decode cL_law 1009 = .ok (.ifCond .ne 15, 3) := by decide +kernel
theorem dL_law_1024 : decode cL_law 1024 = .ok (.goto 2951, 3) := by decide +kernel
theorem dL_law_1027 : decode cL_law 1027 = .ok (.aload_n 1, 1) := by decide +kernel
theorem dL_law_1028 : decode cL_law 1028 = .ok (.aload_n 0, 1) := by decide +kernel
theorem dL_law_1029 : decode cL_law 1029 = .ok (.iload 5, 2) := by decide +kernel
theorem dL_law_1031 : decode cL_law 1031 = .ok (.iconst 1, 1) := by decide +kernel
theorem dL_law_1032 : decode cL_law 1032 = .ok (.iadd, 1) := by decide +kernel
theorem dL_law_1033 : decode cL_law 1033 = .ok (.iaload, 1) := by decide +kernel
theorem dL_law_1034 : decode cL_law 1034 = .ok (.aload_n 0, 1) := by decide +kernel
theorem dL_law_1035 : decode cL_law 1035 = .ok (.iload 5, 2) := by decide +kernel
theorem dL_law_1037 : decode cL_law 1037 = .ok (.iconst 2, 1) := by decide +kernel
theorem dL_law_1038 : decode cL_law 1038 = .ok (.iadd, 1) := by decide +kernel
theorem dL_law_1039 : decode cL_law 1039 = .ok (.iaload, 1) := by decide +kernel
theorem dL_law_1040 : decode cL_law 1040 = .ok (.aload_n 0, 1) := by decide +kernel
theorem dL_law_1041 : decode cL_law 1041 = .ok (.iload 5, 2) := by decide +kernel
theorem dL_law_1043 : decode cL_law 1043 = .ok (.iconst 3, 1) := by decide +kernel
theorem dL_law_1044 : decode cL_law 1044 = .ok (.iadd, 1) := by decide +kernel
theorem dL_law_1045 : decode cL_law 1045 = .ok (.iaload, 1) := by decide +kernel
theorem dL_law_1046 : decode cL_law 1046 = .ok (.aload_n 3, 1) := by decide +kernel
theorem dL_law_1047 : decode cL_law 1047 = .ok (.invokestatic 262, 3) := by decide +kernel
theorem dL_law_1050 : decode cL_law 1050 = .ok (.istore 6, 2) := by decide +kernel
theorem dL_law_1052 : decode cL_law 1052 = .ok (.aload_n 2, 1) := by decide +kernel
theorem dL_law_1053 : decode cL_law 1053 = .ok (.aload_n 0, 1) := by decide +kernel
theorem dL_law_1054 : decode cL_law 1054 = .ok (.iload 5, 2) := by decide +kernel
theorem dL_law_1056 : decode cL_law 1056 = .ok (.iconst 1, 1) := by decide +kernel
theorem dL_law_1057 : decode cL_law 1057 = .ok (.iadd, 1) := by decide +kernel
theorem dL_law_1058 : decode cL_law 1058 = .ok (.iaload, 1) := by decide +kernel
theorem dL_law_1059 : decode cL_law 1059 = .ok (.aload_n 0, 1) := by decide +kernel
theorem dL_law_1060 : decode cL_law 1060 = .ok (.iload 5, 2) := by decide +kernel
theorem dL_law_1062 : decode cL_law 1062 = .ok (.iconst 2, 1) := by decide +kernel
theorem dL_law_1063 : decode cL_law 1063 = .ok (.iadd, 1) := by decide +kernel
theorem dL_law_1064 : decode cL_law 1064 = .ok (.iaload, 1) := by decide +kernel
theorem dL_law_1065 : decode cL_law 1065 = .ok (.aload_n 0, 1) := by decide +kernel
theorem dL_law_1066 : decode cL_law 1066 = .ok (.iload 5, 2) := by decide +kernel
theorem dL_law_1068 : decode cL_law 1068 = .ok (.iconst 3, 1) := by decide +kernel
theorem dL_law_1069 : decode cL_law 1069 = .ok (.iadd, 1) := by decide +kernel
theorem dL_law_1070 : decode cL_law 1070 = .ok (.iaload, 1) := by decide +kernel
theorem dL_law_1071 : decode cL_law 1071 = .ok (.invokevirtual 264, 3) := by decide +kernel
theorem dL_law_1074 : decode cL_law 1074 = .ok (.istore 7, 2) := by decide +kernel
theorem dL_law_1076 : decode cL_law 1076 = .ok (.aload_n 2, 1) := by decide +kernel
theorem dL_law_1077 : decode cL_law 1077 = .ok (.invokevirtual 204, 3) := by decide +kernel
theorem dL_law_1080 : decode cL_law 1080 = .ok (.iload 6, 2) := by decide +kernel
theorem dL_law_1082 : decode cL_law 1082 = .ok (.if_icmp .eq 5, 3) := by decide +kernel
theorem dL_law_1087 : decode cL_law 1087 = .ok (.iload 6, 2) := by decide +kernel
theorem dL_law_1089 : decode cL_law 1089 = .ok (.ifCond .ne 15, 3) := by decide +kernel
theorem dL_law_1104 : decode cL_law 1104 = .ok (.goto 2871, 3) := by decide +kernel
theorem dL_law_1107 : decode cL_law 1107 = .ok (.aload_n 1, 1) := by decide +kernel
theorem dL_law_1108 : decode cL_law 1108 = .ok (.aload_n 0, 1) := by decide +kernel
theorem dL_law_1109 : decode cL_law 1109 = .ok (.iload 5, 2) := by decide +kernel
theorem dL_law_1111 : decode cL_law 1111 = .ok (.iconst 1, 1) := by decide +kernel
theorem dL_law_1112 : decode cL_law 1112 = .ok (.iadd, 1) := by decide +kernel
theorem dL_law_1113 : decode cL_law 1113 = .ok (.iaload, 1) := by decide +kernel
theorem dL_law_1114 : decode cL_law 1114 = .ok (.aload_n 3, 1) := by decide +kernel
theorem dL_law_1115 : decode cL_law 1115 = .ok (.invokestatic 265, 3) := by decide +kernel
theorem dL_law_1118 : decode cL_law 1118 = .ok (.istore 6, 2) := by decide +kernel
theorem dL_law_1120 : decode cL_law 1120 = .ok (.aload_n 2, 1) := by decide +kernel
theorem dL_law_1121 : decode cL_law 1121 = .ok (.aload_n 0, 1) := by decide +kernel
theorem dL_law_1122 : decode cL_law 1122 = .ok (.iload 5, 2) := by decide +kernel
theorem dL_law_1124 : decode cL_law 1124 = .ok (.iconst 1, 1) := by decide +kernel
theorem dL_law_1125 : decode cL_law 1125 = .ok (.iadd, 1) := by decide +kernel
theorem dL_law_1126 : decode cL_law 1126 = .ok (.iaload, 1) := by decide +kernel
theorem dL_law_1127 : decode cL_law 1127 = .ok (.invokevirtual 267, 3) := by decide +kernel
theorem dL_law_1130 : decode cL_law 1130 = .ok (.istore 7, 2) := by decide +kernel
theorem dL_law_1132 : decode cL_law 1132 = .ok (.aload_n 2, 1) := by decide +kernel
theorem dL_law_1133 : decode cL_law 1133 = .ok (.invokevirtual 204, 3) := by decide +kernel
theorem dL_law_1136 : decode cL_law 1136 = .ok (.iload 6, 2) := by decide +kernel
theorem dL_law_1138 : decode cL_law 1138 = .ok (.if_icmp .eq 5, 3) := by decide +kernel
theorem dL_law_1143 : decode cL_law 1143 = .ok (.iload 6, 2) := by decide +kernel
theorem dL_law_1145 : decode cL_law 1145 = .ok (.ifCond .ne 15, 3) := by decide +kernel
theorem dL_law_1160 : decode cL_law 1160 = .ok (.goto 2815, 3) := by decide +kernel
theorem dL_law_1163 : decode cL_law 1163 = .ok (.aload_n 1, 1) := by decide +kernel
theorem dL_law_1164 : decode cL_law 1164 = .ok (.aload_n 0, 1) := by decide +kernel
theorem dL_law_1165 : decode cL_law 1165 = .ok (.iload 5, 2) := by decide +kernel
theorem dL_law_1167 : decode cL_law 1167 = .ok (.iconst 1, 1) := by decide +kernel
theorem dL_law_1168 : decode cL_law 1168 = .ok (.iadd, 1) := by decide +kernel
theorem dL_law_1169 : decode cL_law 1169 = .ok (.iaload, 1) := by decide +kernel
theorem dL_law_1170 : decode cL_law 1170 = .ok (.aload_n 3, 1) := by decide +kernel
theorem dL_law_1171 : decode cL_law 1171 = .ok (.invokestatic 268, 3) := by decide +kernel
theorem dL_law_1174 : decode cL_law 1174 = .ok (.istore 6, 2) := by decide +kernel
theorem dL_law_1176 : decode cL_law 1176 = .ok (.aload_n 2, 1) := by decide +kernel
theorem dL_law_1177 : decode cL_law 1177 = .ok (.aload_n 0, 1) := by decide +kernel
theorem dL_law_1178 : decode cL_law 1178 = .ok (.iload 5, 2) := by decide +kernel
theorem dL_law_1180 : decode cL_law 1180 = .ok (.iconst 1, 1) := by decide +kernel
theorem dL_law_1181 : decode cL_law 1181 = .ok (.iadd, 1) := by decide +kernel
theorem dL_law_1182 : decode cL_law 1182 = .ok (.iaload, 1) := by decide +kernel
theorem dL_law_1183 : decode cL_law 1183 = .ok (.invokevirtual 270, 3) := by decide +kernel
theorem dL_law_1186 : decode cL_law 1186 = .ok (.istore 7, 2) := by decide +kernel
theorem dL_law_1188 : decode cL_law 1188 = .ok (.aload_n 2, 1) := by decide +kernel
theorem dL_law_1189 : decode cL_law 1189 = .ok (.invokevirtual 204, 3) := by decide +kernel
theorem dL_law_1192 : decode cL_law 1192 = .ok (.iload 6, 2) := by decide +kernel
theorem dL_law_1194 : decode cL_law 1194 = .ok (.if_icmp .eq 5, 3) := by decide +kernel
theorem dL_law_1199 : decode cL_law 1199 = .ok (.iload 6, 2) := by decide +kernel
theorem dL_law_1201 : decode cL_law 1201 = .ok (.ifCond .ne 15, 3) := by decide +kernel
theorem dL_law_1216 : decode cL_law 1216 = .ok (.goto 2759, 3) := by decide +kernel
theorem dL_law_1219 : decode cL_law 1219 = .ok (.aload_n 1, 1) := by decide +kernel
theorem dL_law_1220 : decode cL_law 1220 = .ok (.aload_n 0, 1) := by decide +kernel
theorem dL_law_1221 : decode cL_law 1221 = .ok (.iload 5, 2) := by decide +kernel
theorem dL_law_1223 : decode cL_law 1223 = .ok (.iconst 1, 1) := by decide +kernel
theorem dL_law_1224 : decode cL_law 1224 = .ok (.iadd, 1) := by decide +kernel
theorem dL_law_1225 : decode cL_law 1225 = .ok (.iaload, 1) := by decide +kernel
theorem dL_law_1226 : decode cL_law 1226 = .ok (.aload_n 0, 1) := by decide +kernel
theorem dL_law_1227 : decode cL_law 1227 = .ok (.iload 5, 2) := by decide +kernel
theorem dL_law_1229 : decode cL_law 1229 = .ok (.iconst 2, 1) := by decide +kernel
theorem dL_law_1230 : decode cL_law 1230 = .ok (.iadd, 1) := by decide +kernel
theorem dL_law_1231 : decode cL_law 1231 = .ok (.iaload, 1) := by decide +kernel
theorem dL_law_1232 : decode cL_law 1232 = .ok (.aload_n 3, 1) := by decide +kernel
theorem dL_law_1233 : decode cL_law 1233 = .ok (.invokestatic 271, 3) := by decide +kernel
theorem dL_law_1236 : decode cL_law 1236 = .ok (.istore 6, 2) := by decide +kernel
theorem dL_law_1238 : decode cL_law 1238 = .ok (.aload_n 2, 1) := by decide +kernel
theorem dL_law_1239 : decode cL_law 1239 = .ok (.aload_n 0, 1) := by decide +kernel
theorem dL_law_1240 : decode cL_law 1240 = .ok (.iload 5, 2) := by decide +kernel
theorem dL_law_1242 : decode cL_law 1242 = .ok (.iconst 1, 1) := by decide +kernel
theorem dL_law_1243 : decode cL_law 1243 = .ok (.iadd, 1) := by decide +kernel
theorem dL_law_1244 : decode cL_law 1244 = .ok (.iaload, 1) := by decide +kernel
theorem dL_law_1245 : decode cL_law 1245 = .ok (.aload_n 0, 1) := by decide +kernel
theorem dL_law_1246 : decode cL_law 1246 = .ok (.iload 5, 2) := by decide +kernel
theorem dL_law_1248 : decode cL_law 1248 = .ok (.iconst 2, 1) := by decide +kernel
theorem dL_law_1249 : decode cL_law 1249 = .ok (.iadd, 1) := by decide +kernel
theorem dL_law_1250 : decode cL_law 1250 = .ok (.iaload, 1) := by decide +kernel
theorem dL_law_1251 : decode cL_law 1251 = .ok (.invokevirtual 273, 3) := by decide +kernel
theorem dL_law_1254 : decode cL_law 1254 = .ok (.istore 7, 2) := by decide +kernel
theorem dL_law_1256 : decode cL_law 1256 = .ok (.aload_n 2, 1) := by decide +kernel
theorem dL_law_1257 : decode cL_law 1257 = .ok (.invokevirtual 204, 3) := by decide +kernel
theorem dL_law_1260 : decode cL_law 1260 = .ok (.iload 6, 2) := by decide +kernel
theorem dL_law_1262 : decode cL_law 1262 = .ok (.if_icmp .eq 5, 3) := by decide +kernel
theorem dL_law_1267 : decode cL_law 1267 = .ok (.iload 6, 2) := by decide +kernel
theorem dL_law_1269 : decode cL_law 1269 = .ok (.ifCond .ne 15, 3) := by decide +kernel
theorem dL_law_1284 : decode cL_law 1284 = .ok (.goto 2691, 3) := by decide +kernel
theorem dL_law_1287 : decode cL_law 1287 = .ok (.aload_n 1, 1) := by decide +kernel
theorem dL_law_1288 : decode cL_law 1288 = .ok (.aload_n 0, 1) := by decide +kernel
theorem dL_law_1289 : decode cL_law 1289 = .ok (.iload 5, 2) := by decide +kernel
theorem dL_law_1291 : decode cL_law 1291 = .ok (.iconst 1, 1) := by decide +kernel
theorem dL_law_1292 : decode cL_law 1292 = .ok (.iadd, 1) := by decide +kernel
theorem dL_law_1293 : decode cL_law 1293 = .ok (.iaload, 1) := by decide +kernel
theorem dL_law_1294 : decode cL_law 1294 = .ok (.aload_n 0, 1) := by decide +kernel
theorem dL_law_1295 : decode cL_law 1295 = .ok (.iload 5, 2) := by decide +kernel
theorem dL_law_1297 : decode cL_law 1297 = .ok (.iconst 2, 1) := by decide +kernel
theorem dL_law_1298 : decode cL_law 1298 = .ok (.iadd, 1) := by decide +kernel
theorem dL_law_1299 : decode cL_law 1299 = .ok (.iaload, 1) := by decide +kernel
theorem dL_law_1300 : decode cL_law 1300 = .ok (.aload_n 3, 1) := by decide +kernel
theorem dL_law_1301 : decode cL_law 1301 = .ok (.invokestatic 274, 3) := by decide +kernel
theorem dL_law_1304 : decode cL_law 1304 = .ok (.istore 6, 2) := by decide +kernel
theorem dL_law_1306 : decode cL_law 1306 = .ok (.aload_n 2, 1) := by decide +kernel
theorem dL_law_1307 : decode cL_law 1307 = .ok (.aload_n 0, 1) := by decide +kernel
theorem dL_law_1308 : decode cL_law 1308 = .ok (.iload 5, 2) := by decide +kernel
theorem dL_law_1310 : decode cL_law 1310 = .ok (.iconst 1, 1) := by decide +kernel
theorem dL_law_1311 : decode cL_law 1311 = .ok (.iadd, 1) := by decide +kernel
theorem dL_law_1312 : decode cL_law 1312 = .ok (.iaload, 1) := by decide +kernel
theorem dL_law_1313 : decode cL_law 1313 = .ok (.aload_n 0, 1) := by decide +kernel
theorem dL_law_1314 : decode cL_law 1314 = .ok (.iload 5, 2) := by decide +kernel
theorem dL_law_1316 : decode cL_law 1316 = .ok (.iconst 2, 1) := by decide +kernel
theorem dL_law_1317 : decode cL_law 1317 = .ok (.iadd, 1) := by decide +kernel
theorem dL_law_1318 : decode cL_law 1318 = .ok (.iaload, 1) := by decide +kernel
theorem dL_law_1319 : decode cL_law 1319 = .ok (.invokevirtual 276, 3) := by decide +kernel
theorem dL_law_1322 : decode cL_law 1322 = .ok (.istore 7, 2) := by decide +kernel
theorem dL_law_1324 : decode cL_law 1324 = .ok (.aload_n 2, 1) := by decide +kernel
theorem dL_law_1325 : decode cL_law 1325 = .ok (.invokevirtual 204, 3) := by decide +kernel
theorem dL_law_1328 : decode cL_law 1328 = .ok (.iload 6, 2) := by decide +kernel
theorem dL_law_1330 : decode cL_law 1330 = .ok (.if_icmp .eq 5, 3) := by decide +kernel
theorem dL_law_1335 : decode cL_law 1335 = .ok (.iload 6, 2) := by decide +kernel
theorem dL_law_1337 : decode cL_law 1337 = .ok (.ifCond .ne 15, 3) := by decide +kernel
theorem dL_law_1352 : decode cL_law 1352 = .ok (.goto 2623, 3) := by decide +kernel
theorem dL_law_1355 : decode cL_law 1355 = .ok (.aload_n 1, 1) := by decide +kernel
theorem dL_law_1356 : decode cL_law 1356 = .ok (.aload_n 0, 1) := by decide +kernel
theorem dL_law_1357 : decode cL_law 1357 = .ok (.iload 5, 2) := by decide +kernel
theorem dL_law_1359 : decode cL_law 1359 = .ok (.iconst 1, 1) := by decide +kernel
theorem dL_law_1360 : decode cL_law 1360 = .ok (.iadd, 1) := by decide +kernel
theorem dL_law_1361 : decode cL_law 1361 = .ok (.iaload, 1) := by decide +kernel
theorem dL_law_1362 : decode cL_law 1362 = .ok (.aload_n 3, 1) := by decide +kernel
theorem dL_law_1363 : decode cL_law 1363 = .ok (.invokestatic 277, 3) := by decide +kernel
theorem dL_law_1366 : decode cL_law 1366 = .ok (.istore 6, 2) := by decide +kernel
theorem dL_law_1368 : decode cL_law 1368 = .ok (.aload_n 2, 1) := by decide +kernel
theorem dL_law_1369 : decode cL_law 1369 = .ok (.aload_n 0, 1) := by decide +kernel
theorem dL_law_1370 : decode cL_law 1370 = .ok (.iload 5, 2) := by decide +kernel
theorem dL_law_1372 : decode cL_law 1372 = .ok (.iconst 1, 1) := by decide +kernel
theorem dL_law_1373 : decode cL_law 1373 = .ok (.iadd, 1) := by decide +kernel
theorem dL_law_1374 : decode cL_law 1374 = .ok (.iaload, 1) := by decide +kernel
theorem dL_law_1375 : decode cL_law 1375 = .ok (.invokevirtual 279, 3) := by decide +kernel
theorem dL_law_1378 : decode cL_law 1378 = .ok (.lstore 7, 2) := by decide +kernel
theorem dL_law_1380 : decode cL_law 1380 = .ok (.aload_n 2, 1) := by decide +kernel
theorem dL_law_1381 : decode cL_law 1381 = .ok (.invokevirtual 204, 3) := by decide +kernel
theorem dL_law_1384 : decode cL_law 1384 = .ok (.iload 6, 2) := by decide +kernel
theorem dL_law_1386 : decode cL_law 1386 = .ok (.if_icmp .eq 5, 3) := by decide +kernel
theorem dL_law_1391 : decode cL_law 1391 = .ok (.iload 6, 2) := by decide +kernel
theorem dL_law_1393 : decode cL_law 1393 = .ok (.ifCond .ne 14, 3) := by decide +kernel
theorem dL_law_1407 : decode cL_law 1407 = .ok (.goto 2568, 3) := by decide +kernel
set_option maxHeartbeats 4000000 in
set_option maxRecDepth 100000 in
theorem p_a15 {p : Program} {e : Env} {s : State} {m : MethodId} {below : List Frame} {meth : Method} {c : Code} (l : Launch) (hst : l.stackTraces = false) {b : Nat} {xs : Nat → Int32} (hx : p.tables.exec = Jvm.exec) (hb : c.code = code) (hr : meth.sig.returnType = ret) (hml : c.maxLocals = 9) (hown : s.vm.findClass RL = some m.cls) (hts : ∀ w ∈ lw_tbl, w.before #[Value.ref b] s = true) (hlocks : meth.locks = false) (hX0 : va_X b 6 xs s s.heap) (hbl : b < s.heap.size) (hX : xT (fun q => s.heap.size ≤ q) s) (hN1 : va_Nc xIAE xIOB s) (hN2 : va_Nc xISE xIOB s) {D : va_G} {cI cJ cZ cMic cSrc cSt cAI cAJ cD : ClassId} {ad am : Nat → Nat} {N : Nat} {S : Nat → va_E} {ls : Array Slot} {H : Heap} {locs : List Loc} (hK : va_K D vwCl (CT cI cJ cZ cMic cSrc cSt cAI cAJ ++ [(cD, .double)]) s) (hN : 1586 ≤ N) (F : FR cI cJ cZ cMic cSrc cSt cAI cAJ ad S) (G : lG D ad N cI cJ cZ am (fun q => s.heap.size ≤ q) s.heap H locs S mS0) (hl : lv_has ls 9 [(5, .int 0), (4, .ref (am 99)), (3, .ref (am 98)), (2, .ref (am 0)), (1, .ref (ad 0)), (0, .ref b)]) : W p l e room_1 s m #[Value.ref b] below meth c H locs 1605 82603 (lw_Z below #[Value.ref b] s) (F0 m 946 ls []) := by
  obtain ⟨hS0, hS1, hS2, hS3, hS4, hS5, hS6, hS432, hS478, hS480, hS656, hS658⟩ := F
  have E : cE p c cL_law s m #[Value.ref b] lw_tbl D RL (CT cI cJ cZ cMic cSrc cSt cAI cAJ ++ [(cD, .double)]) := ⟨hx, hb, hts, hown, hK⟩
  have hKm : va_K D vwCl (MT cI cJ cZ) s := hK.sub [0, 1, 2] rfl
  have hKb : ∀ t : State, s.vm.Alike t.vm → va_K D vwCl (CT cI cJ cZ cMic cSrc cSt cAI cAJ ++ [(cD, .double)]) t := fun t h => va_K.moved h hK
  have hA : ∀ q : Nat, s.heap.size ≤ q → s.heap.size ≤ q := fun _ h => h
  refine lv_aload_n hx hb dL_law_946 rfl (lv_at hl 4 rfl) ?_
  refine l_ci (As := []) (rest := []) E G hA hX rfl hml (f_samples l hst D _ ad N S cI cJ cZ cMic cSrc cSt cAI cAJ hN rfl rfl hS0 hS478) (cwV 0 hts (glA (L := [Cond.methodLink RL 255 yX11_samples, Cond.instanceMethod yX11_samples, Cond.selects RX11 yX11_samples yX11_samples, Cond.initialized RX11]) (gl_in [(3, 84), (3, 85), (3, 86), (1, 1)] (by decide +kernel) (by decide +kernel)) ⟨(t_of [Cond.code yX11_samples cX11_samples 1 (some .int)] [(3, 87)] (by decide +kernel) _ List.mem_cons_self), List.all_eq_true.mp (by decide +kernel : [Cond.code yX11_samples cX11_samples 1 (some .int)].all goodWord = true) _ List.mem_cons_self⟩) rfl rfl rfl (by decide +kernel) ⟨Nat.le_of_ble_eq_true rfl, Nat.le_of_ble_eq_true rfl⟩) (Nat.lt_of_lt_of_le (by decide) hN) hS0 rfl hl.1 rfl (lv_room (Nat.le_of_ble_eq_true rfl)) dL_law_947 ⟨Nat.le_of_ble_eq_true rfl, Nat.le_of_ble_eq_true rfl⟩ (fun r1 S1 H locs hq G => ?_)
  obtain ⟨hq1, hq2⟩ := hq
  rw [hq2] at G
  refine lv_to (y := 0) hq1 ?_
  refine lv_aload_n hx hb dL_law_950 rfl (lv_at hl 3 rfl) ?_
  refine l_mi (As := []) (rest := [.int 0]) E G hA hKm hKb hX.2.2.2.2 hml (n_samples l D cI cJ cZ am mS0 rfl (fun _ => rfl)) (cwV 0 hts (glM (L := [Cond.methodLink RL 258 yX12_samples, Cond.instanceMethod yX12_samples, Cond.selects RX12 yX12_samples yX12_samples, Cond.initialized RX12]) (gl_in [(9, 108), (9, 109), (9, 110), (1, 14)] (by decide +kernel) (by decide +kernel)) ⟨(t_of [Cond.code yX12_samples cX12_samples 1 (some .int)] [(9, 111)] (by decide +kernel) _ List.mem_cons_self), List.all_eq_true.mp (by decide +kernel : [Cond.code yX12_samples cX12_samples 1 (some .int)].all goodWord = true) _ List.mem_cons_self⟩) rfl rfl rfl (by decide +kernel) ⟨Nat.le_of_ble_eq_true rfl, Nat.le_of_ble_eq_true rfl⟩) rfl hl.1 rfl (lv_room (Nat.le_of_ble_eq_true rfl)) dL_law_951 ⟨Nat.le_of_ble_eq_true rfl, Nat.le_of_ble_eq_true rfl⟩ (fun r2 S1 H locs hq G => ?_)
  obtain ⟨hq1, hq2⟩ := hq
  rw [hq2] at G
  refine lv_to (y := 0) hq1 ?_
  refine lv_icmp_eq (tgt := 3975) hx hb dL_law_954 (by decide) (fun c3 => ?_) (fun c3 => absurd (by decide +kernel) c3)
  refine lv_iinc (v := 6) (lv' := [(5, .int 6), (4, .ref (am 99)), (3, .ref (am 98)), (2, .ref (am 0)), (1, .ref (ad 0)), (0, .ref b)]) hx hb dL_law_3975 hl (k := 0) rfl (by decide +kernel) (by decide) rfl (fun ls hl => ?_)
  refine lv_goto (tgt := 28) hx hb dL_law_3978 (by decide) ?_
  refine lv_iload hx hb dL_law_28 (lv_at hl 0 rfl) ?_
  refine lv_aload_n hx hb dL_law_30 rfl (lv_at hl 5 rfl) ?_
  refine va_slen hx hb hX0 hbl (Nat.not_le.mpr hbl) G.2.2 dL_law_31 ?_
  refine lv_to (y := 6) (by decide) ?_
  refine lv_bipush (v := 6) hx hb dL_law_32 (by decide) ?_
  refine lv_isub hx hb dL_law_34 ?_
  refine lv_to (y := 0) (by decide +kernel) ?_
  refine lv_icmp_gt (tgt := 3981) hx hb dL_law_35 (by decide) (fun c4 => ?_) (fun c4 => absurd (by decide +kernel) c4)
  refine lv_iconst (v := 1) hx hb dL_law_3981 (by decide) ?_
  refine va_forget G.2.2.2.2 ?_
  refine W.widen (k := 600002) (n := 7302232) (Nat.le_of_ble_eq_true rfl) (Nat.le_of_ble_eq_true rfl) ?_
  exact lw_ret (d0 := s.drawn) (Drawn.sameBut.refl s.drawn lw_cs) hx hb hr hlocks dL_law_3982
set_option maxHeartbeats 4000000 in
set_option maxRecDepth 100000 in
theorem p_a16 {p : Program} {e : Env} {s : State} {m : MethodId} {below : List Frame} {meth : Method} {c : Code} (l : Launch) (hst : l.stackTraces = false) {b : Nat} {xs : Nat → Int32} (hx : p.tables.exec = Jvm.exec) (hb : c.code = code) (hr : meth.sig.returnType = ret) (hml : c.maxLocals = 9) (hown : s.vm.findClass RL = some m.cls) (hts : ∀ w ∈ lw_tbl, w.before #[Value.ref b] s = true) (hlocks : meth.locks = false) (hX0 : va_X b 6 xs s s.heap) (hbl : b < s.heap.size) (hX : xT (fun q => s.heap.size ≤ q) s) (hN1 : va_Nc xIAE xIOB s) (hN2 : va_Nc xISE xIOB s) {D : va_G} {cI cJ cZ cMic cSrc cSt cAI cAJ cD : ClassId} {ad am : Nat → Nat} {N : Nat} {S : Nat → va_E} {ls : Array Slot} {H : Heap} {locs : List Loc} (hK : va_K D vwCl (CT cI cJ cZ cMic cSrc cSt cAI cAJ ++ [(cD, .double)]) s) (hN : 1586 ≤ N) (F : FR cI cJ cZ cMic cSrc cSt cAI cAJ ad S) (G : lG D ad N cI cJ cZ am (fun q => s.heap.size ≤ q) s.heap H locs S mS0) (hl : lv_has ls 9 [(5, .int 0), (4, .ref (am 99)), (3, .ref (am 98)), (2, .ref (am 0)), (1, .ref (ad 0)), (0, .ref b)]) : W p l e room_1 s m #[Value.ref b] below meth c H locs 1605 82603 (lw_Z below #[Value.ref b] s) (F0 m 959 ls []) := by
  obtain ⟨hS0, hS1, hS2, hS3, hS4, hS5, hS6, hS432, hS478, hS480, hS656, hS658⟩ := F
  have E : cE p c cL_law s m #[Value.ref b] lw_tbl D RL (CT cI cJ cZ cMic cSrc cSt cAI cAJ ++ [(cD, .double)]) := ⟨hx, hb, hts, hown, hK⟩
  have hKm : va_K D vwCl (MT cI cJ cZ) s := hK.sub [0, 1, 2] rfl
  have hKb : ∀ t : State, s.vm.Alike t.vm → va_K D vwCl (CT cI cJ cZ cMic cSrc cSt cAI cAJ ++ [(cD, .double)]) t := fun t h => va_K.moved h hK
  have hA : ∀ q : Nat, s.heap.size ≤ q → s.heap.size ≤ q := fun _ h => h
  refine lv_aload_n hx hb dL_law_959 rfl (lv_at hl 4 rfl) ?_
  refine lv_aload_n hx hb dL_law_960 rfl (lv_at hl 5 rfl) ?_
  refine lv_iload hx hb dL_law_961 (lv_at hl 0 rfl) ?_
  refine lv_iconst (v := 1) hx hb dL_law_963 (by decide) ?_
  refine lv_iadd hx hb dL_law_964 ?_
  refine lv_to (y := 1) (by decide +kernel) ?_
  refine va_sld hx hb hX0 hbl (Nat.not_le.mpr hbl) G.2.2 (i := 1) (vp_in_nI (n := 1) (N := 6) (by decide) (by decide)) dL_law_965 ?_
  refine lv_to (y := xs 1) (congrArg xs (by decide)) ?_
  refine lv_aload_n hx hb dL_law_966 rfl (lv_at hl 5 rfl) ?_
  refine lv_iload hx hb dL_law_967 (lv_at hl 0 rfl) ?_
  refine lv_iconst (v := 2) hx hb dL_law_969 (by decide) ?_
  refine lv_iadd hx hb dL_law_970 ?_
  refine lv_to (y := 2) (by decide +kernel) ?_
  refine va_sld hx hb hX0 hbl (Nat.not_le.mpr hbl) G.2.2 (i := 2) (vp_in_nI (n := 2) (N := 6) (by decide) (by decide)) dL_law_971 ?_
  refine lv_to (y := xs 2) (congrArg xs (by decide)) ?_
  refine lv_aload_n hx hb dL_law_972 rfl (lv_at hl 2 rfl) ?_
  refine l_w (As := [.ref (ad 0), .int (xs 1), .int (xs 2), .ref (am 98)]) (rest := []) E G hA hX hN1 hN2 (fun _ _ h _ _ k => va_Nc.moved h k) rfl hml (w_delay l hst D _ ad N S (sc := 478) (Nat.lt_of_lt_of_le (by decide) hN) hS0 rfl (Nat.lt_of_lt_of_le (by decide) hN) hS478 rfl (xs 1) (xs 2) (am 98)) (vx_cwSW 4 hts (glA (L := [Cond.methodLink RL 259 yL_delay, Cond.static yL_delay, Cond.initialized RL]) (gl_in [(5, 106), (5, 107), (1, 0)] (by decide +kernel) (by decide +kernel)) ⟨(t_of [Cond.codeWith yL_delay cL_delay 5 (some .int) [(0, 10, 13, 21), (0, 10, 17, 13)]] [(5, 108)] (by decide +kernel) _ List.mem_cons_self), List.all_eq_true.mp (by decide +kernel : [Cond.codeWith yL_delay cL_delay 5 (some .int) [(0, 10, 13, 21), (0, 10, 17, 13)]].all goodWord = true) _ List.mem_cons_self⟩) rfl rfl rfl (by decide +kernel) ⟨Nat.le_of_ble_eq_true rfl, Nat.le_of_ble_eq_true rfl⟩) rfl hl.1 rfl (lv_room (Nat.le_of_ble_eq_true rfl)) dL_law_973 ⟨Nat.le_of_ble_eq_true rfl, Nat.le_of_ble_eq_true rfl⟩ (fun r S1 H locs hq G => ?_)
  obtain ⟨hq1, hq2⟩ := hq
  rw [hq2] at G
  refine lv_to (y := 1) hq1 ?_
  refine lv_istore (lv' := [(6, .int 1), (5, .int 0), (4, .ref (am 99)), (3, .ref (am 98)), (2, .ref (am 0)), (1, .ref (ad 0)), (0, .ref b)]) hx hb dL_law_976 hl (by decide) rfl (fun ls hl => ?_)
  refine lv_aload_n hx hb dL_law_978 rfl (lv_at hl 4 rfl) ?_
  refine lv_aload_n hx hb dL_law_979 rfl (lv_at hl 6 rfl) ?_
  refine lv_iload hx hb dL_law_980 (lv_at hl 1 rfl) ?_
  refine lv_iconst (v := 1) hx hb dL_law_982 (by decide) ?_
  refine lv_iadd hx hb dL_law_983 ?_
  refine lv_to (y := 1) (by decide +kernel) ?_
  refine va_sld hx hb hX0 hbl (Nat.not_le.mpr hbl) G.2.2 (i := 1) (vp_in_nI (n := 1) (N := 6) (by decide) (by decide)) dL_law_984 ?_
  refine lv_to (y := xs 1) (congrArg xs (by decide)) ?_
  refine lv_aload_n hx hb dL_law_985 rfl (lv_at hl 6 rfl) ?_
  refine lv_iload hx hb dL_law_986 (lv_at hl 1 rfl) ?_
  refine lv_iconst (v := 2) hx hb dL_law_988 (by decide) ?_
  refine lv_iadd hx hb dL_law_989 ?_
  refine lv_to (y := 2) (by decide +kernel) ?_
  refine va_sld hx hb hX0 hbl (Nat.not_le.mpr hbl) G.2.2 (i := 2) (vp_in_nI (n := 2) (N := 6) (by decide) (by decide)) dL_law_990 ?_
  refine lv_to (y := xs 2) (congrArg xs (by decide)) ?_
  refine l_mi (As := [.int (xs 1), .int (xs 2)]) (rest := []) E G hA hKm hKb hX.2.2.2.2 hml (n_delay l D cI cJ cZ am mS0 (xs 1) (xs 2) rfl (fun _ => rfl)) (cwV 2 hts (glM (L := [Cond.methodLink RL 261 yX12_delay, Cond.instanceMethod yX12_delay, Cond.selects RX12 yX12_delay yX12_delay, Cond.initialized RX12]) (gl_in [(9, 112), (9, 113), (9, 114), (1, 14)] (by decide +kernel) (by decide +kernel)) ⟨(t_of [Cond.code yX12_delay cX12_delay 3 (some .int)] [(9, 115)] (by decide +kernel) _ List.mem_cons_self), List.all_eq_true.mp (by decide +kernel : [Cond.code yX12_delay cX12_delay 3 (some .int)].all goodWord = true) _ List.mem_cons_self⟩) rfl rfl rfl (by decide +kernel) ⟨Nat.le_of_ble_eq_true rfl, Nat.le_of_ble_eq_true rfl⟩) rfl hl.1 rfl (lv_room (Nat.le_of_ble_eq_true rfl)) dL_law_991 ⟨Nat.le_of_ble_eq_true rfl, Nat.le_of_ble_eq_true rfl⟩ (fun r1 S1 H locs hq G => ?_)
  obtain ⟨hq1, hq2⟩ := hq
  rw [hq2] at G
  refine lv_to (y := 0) hq1 ?_
  refine lv_istore (lv' := [(7, .int 0), (6, .int 1), (5, .int 0), (4, .ref (am 99)), (3, .ref (am 98)), (2, .ref (am 0)), (1, .ref (ad 0)), (0, .ref b)]) hx hb dL_law_994 hl (by decide) rfl (fun ls hl => ?_)
  refine lv_aload_n hx hb dL_law_996 rfl (lv_at hl 5 rfl) ?_
  refine l_mi (As := []) (rest := []) E G hA hKm hKb hX.2.2.2.2 hml (m_thrown l D cI cJ cZ am (mi mS0 0 1)) (cwV 0 hts (glM (L := [Cond.methodLink RL 204 yX12_thrown, Cond.instanceMethod yX12_thrown, Cond.selects RX12 yX12_thrown yX12_thrown, Cond.initialized RX12]) (gl_in [(8, 65), (8, 66), (8, 67), (1, 14)] (by decide +kernel) (by decide +kernel)) ⟨(t_of [Cond.code yX12_thrown cX12_thrown 1 (some .int)] [(8, 68)] (by decide +kernel) _ List.mem_cons_self), List.all_eq_true.mp (by decide +kernel : [Cond.code yX12_thrown cX12_thrown 1 (some .int)].all goodWord = true) _ List.mem_cons_self⟩) rfl rfl rfl (by decide +kernel) ⟨Nat.le_of_ble_eq_true rfl, Nat.le_of_ble_eq_true rfl⟩) rfl hl.1 rfl (lv_room (Nat.le_of_ble_eq_true rfl)) dL_law_997 ⟨Nat.le_of_ble_eq_true rfl, Nat.le_of_ble_eq_true rfl⟩ (fun r2 S1 H locs hq G => ?_)
  obtain ⟨hq1, hq2⟩ := hq
  rw [hq2] at G
  refine lv_to (y := 1) hq1 ?_
  refine lv_iload hx hb dL_law_1000 (lv_at hl 1 rfl) ?_
  refine lv_icmp_eq (tgt := 1007) hx hb dL_law_1002 (by decide) (fun c3 => ?_) (fun c3 => absurd (by decide +kernel) c3)
  refine lv_iload hx hb dL_law_1007 (lv_at hl 1 rfl) ?_
  refine lv_if_ne (tgt := 1024) hx hb dL_law_1009 (by decide) (fun c4 => ?_) (fun c4 => absurd c4 (by decide +kernel))
  refine lv_goto (tgt := 3975) hx hb dL_law_1024 (by decide) ?_
  refine lv_iinc (v := 6) (lv' := [(5, .int 6), (7, .int 0), (6, .int 1), (4, .ref (am 99)), (3, .ref (am 98)), (2, .ref (am 0)), (1, .ref (ad 0)), (0, .ref b)]) hx hb dL_law_3975 hl (k := 2) rfl (by decide +kernel) (by decide) rfl (fun ls hl => ?_)
  refine lv_goto (tgt := 28) hx hb dL_law_3978 (by decide) ?_
  refine lv_iload hx hb dL_law_28 (lv_at hl 0 rfl) ?_
  refine lv_aload_n hx hb dL_law_30 rfl (lv_at hl 7 rfl) ?_
  refine va_slen hx hb hX0 hbl (Nat.not_le.mpr hbl) G.2.2 dL_law_31 ?_
  refine lv_to (y := 6) (by decide) ?_
  refine lv_bipush (v := 6) hx hb dL_law_32 (by decide) ?_
  refine lv_isub hx hb dL_law_34 ?_
  refine lv_to (y := 0) (by decide +kernel) ?_
  refine lv_icmp_gt (tgt := 3981) hx hb dL_law_35 (by decide) (fun c5 => ?_) (fun c5 => absurd (by decide +kernel) c5)
  refine lv_iconst (v := 1) hx hb dL_law_3981 (by decide) ?_
  refine va_forget G.2.2.2.2 ?_
  refine W.widen (k := 600002) (n := 7302232) (Nat.le_of_ble_eq_true rfl) (Nat.le_of_ble_eq_true rfl) ?_
  exact lw_ret (d0 := s.drawn) (Drawn.sameBut.refl s.drawn lw_cs) hx hb hr hlocks dL_law_3982
set_option maxHeartbeats 4000000 in
set_option maxRecDepth 100000 in
theorem p_a17 {p : Program} {e : Env} {s : State} {m : MethodId} {below : List Frame} {meth : Method} {c : Code} (l : Launch) (hst : l.stackTraces = false) {b : Nat} {xs : Nat → Int32} (hx : p.tables.exec = Jvm.exec) (hb : c.code = code) (hr : meth.sig.returnType = ret) (hml : c.maxLocals = 9) (hown : s.vm.findClass RL = some m.cls) (hts : ∀ w ∈ lw_tbl, w.before #[Value.ref b] s = true) (hlocks : meth.locks = false) (hX0 : va_X b 6 xs s s.heap) (hbl : b < s.heap.size) (hX : xT (fun q => s.heap.size ≤ q) s) (hN1 : va_Nc xIAE xIOB s) (hN2 : va_Nc xISE xIOB s) {D : va_G} {cI cJ cZ cMic cSrc cSt cAI cAJ cD : ClassId} {ad am : Nat → Nat} {N : Nat} {S : Nat → va_E} {ls : Array Slot} {H : Heap} {locs : List Loc} (hK : va_K D vwCl (CT cI cJ cZ cMic cSrc cSt cAI cAJ ++ [(cD, .double)]) s) (hN : 1586 ≤ N) (F : FR cI cJ cZ cMic cSrc cSt cAI cAJ ad S) (G : lG D ad N cI cJ cZ am (fun q => s.heap.size ≤ q) s.heap H locs S mS0) (hl : lv_has ls 9 [(5, .int 0), (4, .ref (am 99)), (3, .ref (am 98)), (2, .ref (am 0)), (1, .ref (ad 0)), (0, .ref b)]) : W p l e room_1 s m #[Value.ref b] below meth c H locs 1605 82603 (lw_Z below #[Value.ref b] s) (F0 m 1027 ls []) := by
  obtain ⟨hS0, hS1, hS2, hS3, hS4, hS5, hS6, hS432, hS478, hS480, hS656, hS658⟩ := F
  have E : cE p c cL_law s m #[Value.ref b] lw_tbl D RL (CT cI cJ cZ cMic cSrc cSt cAI cAJ ++ [(cD, .double)]) := ⟨hx, hb, hts, hown, hK⟩
  have hKm : va_K D vwCl (MT cI cJ cZ) s := hK.sub [0, 1, 2] rfl
  have hKb : ∀ t : State, s.vm.Alike t.vm → va_K D vwCl (CT cI cJ cZ cMic cSrc cSt cAI cAJ ++ [(cD, .double)]) t := fun t h => va_K.moved h hK
  have hA : ∀ q : Nat, s.heap.size ≤ q → s.heap.size ≤ q := fun _ h => h
  refine lv_aload_n hx hb dL_law_1027 rfl (lv_at hl 4 rfl) ?_
  refine lv_aload_n hx hb dL_law_1028 rfl (lv_at hl 5 rfl) ?_
  refine lv_iload hx hb dL_law_1029 (lv_at hl 0 rfl) ?_
  refine lv_iconst (v := 1) hx hb dL_law_1031 (by decide) ?_
  refine lv_iadd hx hb dL_law_1032 ?_
  refine lv_to (y := 1) (by decide +kernel) ?_
  refine va_sld hx hb hX0 hbl (Nat.not_le.mpr hbl) G.2.2 (i := 1) (vp_in_nI (n := 1) (N := 6) (by decide) (by decide)) dL_law_1033 ?_
  refine lv_to (y := xs 1) (congrArg xs (by decide)) ?_
  refine lv_aload_n hx hb dL_law_1034 rfl (lv_at hl 5 rfl) ?_
  refine lv_iload hx hb dL_law_1035 (lv_at hl 0 rfl) ?_
  refine lv_iconst (v := 2) hx hb dL_law_1037 (by decide) ?_
  refine lv_iadd hx hb dL_law_1038 ?_
  refine lv_to (y := 2) (by decide +kernel) ?_
  refine va_sld hx hb hX0 hbl (Nat.not_le.mpr hbl) G.2.2 (i := 2) (vp_in_nI (n := 2) (N := 6) (by decide) (by decide)) dL_law_1039 ?_
  refine lv_to (y := xs 2) (congrArg xs (by decide)) ?_
  refine lv_aload_n hx hb dL_law_1040 rfl (lv_at hl 5 rfl) ?_
  refine lv_iload hx hb dL_law_1041 (lv_at hl 0 rfl) ?_
  refine lv_iconst (v := 3) hx hb dL_law_1043 (by decide) ?_
  refine lv_iadd hx hb dL_law_1044 ?_
  refine lv_to (y := 3) (by decide +kernel) ?_
  refine va_sld hx hb hX0 hbl (Nat.not_le.mpr hbl) G.2.2 (i := 3) (vp_in_nI (n := 3) (N := 6) (by decide) (by decide)) dL_law_1045 ?_
  refine lv_to (y := xs 3) (congrArg xs (by decide)) ?_
  refine lv_aload_n hx hb dL_law_1046 rfl (lv_at hl 2 rfl) ?_
  refine l_w (As := [.ref (ad 0), .int (xs 1), .int (xs 2), .int (xs 3), .ref (am 98)]) (rest := []) E G hA hX hN1 hN2 (fun _ _ h _ _ k => va_Nc.moved h k) rfl hml (w_delayTo l hst D _ ad N S (sc := 478) (Nat.lt_of_lt_of_le (by decide) hN) hS0 rfl (Nat.lt_of_lt_of_le (by decide) hN) hS478 rfl (xs 1) (xs 2) (xs 3) (am 98)) (vx_cwSW 5 hts (glA (L := [Cond.methodLink RL 262 yL_delayTo, Cond.static yL_delayTo, Cond.initialized RL]) (gl_in [(5, 113), (5, 114), (1, 0)] (by decide +kernel) (by decide +kernel)) ⟨(t_of [Cond.codeWith yL_delayTo cL_delayTo 6 (some .int) [(0, 12, 15, 21), (0, 12, 19, 13), (0, 12, 23, 15)]] [(5, 115)] (by decide +kernel) _ List.mem_cons_self), List.all_eq_true.mp (by decide +kernel : [Cond.codeWith yL_delayTo cL_delayTo 6 (some .int) [(0, 12, 15, 21), (0, 12, 19, 13), (0, 12, 23, 15)]].all goodWord = true) _ List.mem_cons_self⟩) rfl rfl rfl (by decide +kernel) ⟨Nat.le_of_ble_eq_true rfl, Nat.le_of_ble_eq_true rfl⟩) rfl hl.1 rfl (lv_room (Nat.le_of_ble_eq_true rfl)) dL_law_1047 ⟨Nat.le_of_ble_eq_true rfl, Nat.le_of_ble_eq_true rfl⟩ (fun r S1 H locs hq G => ?_)
  obtain ⟨hq1, hq2⟩ := hq
  rw [hq2] at G
  refine lv_to (y := 1) hq1 ?_
  refine lv_istore (lv' := [(6, .int 1), (5, .int 0), (4, .ref (am 99)), (3, .ref (am 98)), (2, .ref (am 0)), (1, .ref (ad 0)), (0, .ref b)]) hx hb dL_law_1050 hl (by decide) rfl (fun ls hl => ?_)
  refine lv_aload_n hx hb dL_law_1052 rfl (lv_at hl 4 rfl) ?_
  refine lv_aload_n hx hb dL_law_1053 rfl (lv_at hl 6 rfl) ?_
  refine lv_iload hx hb dL_law_1054 (lv_at hl 1 rfl) ?_
  refine lv_iconst (v := 1) hx hb dL_law_1056 (by decide) ?_
  refine lv_iadd hx hb dL_law_1057 ?_
  refine lv_to (y := 1) (by decide +kernel) ?_
  refine va_sld hx hb hX0 hbl (Nat.not_le.mpr hbl) G.2.2 (i := 1) (vp_in_nI (n := 1) (N := 6) (by decide) (by decide)) dL_law_1058 ?_
  refine lv_to (y := xs 1) (congrArg xs (by decide)) ?_
  refine lv_aload_n hx hb dL_law_1059 rfl (lv_at hl 6 rfl) ?_
  refine lv_iload hx hb dL_law_1060 (lv_at hl 1 rfl) ?_
  refine lv_iconst (v := 2) hx hb dL_law_1062 (by decide) ?_
  refine lv_iadd hx hb dL_law_1063 ?_
  refine lv_to (y := 2) (by decide +kernel) ?_
  refine va_sld hx hb hX0 hbl (Nat.not_le.mpr hbl) G.2.2 (i := 2) (vp_in_nI (n := 2) (N := 6) (by decide) (by decide)) dL_law_1064 ?_
  refine lv_to (y := xs 2) (congrArg xs (by decide)) ?_
  refine lv_aload_n hx hb dL_law_1065 rfl (lv_at hl 6 rfl) ?_
  refine lv_iload hx hb dL_law_1066 (lv_at hl 1 rfl) ?_
  refine lv_iconst (v := 3) hx hb dL_law_1068 (by decide) ?_
  refine lv_iadd hx hb dL_law_1069 ?_
  refine lv_to (y := 3) (by decide +kernel) ?_
  refine va_sld hx hb hX0 hbl (Nat.not_le.mpr hbl) G.2.2 (i := 3) (vp_in_nI (n := 3) (N := 6) (by decide) (by decide)) dL_law_1070 ?_
  refine lv_to (y := xs 3) (congrArg xs (by decide)) ?_
  refine l_mi (As := [.int (xs 1), .int (xs 2), .int (xs 3)]) (rest := []) E G hA hKm hKb hX.2.2.2.2 hml (n_delayTo l D cI cJ cZ am mS0 (xs 1) (xs 2) (xs 3) rfl (fun _ => rfl)) (cwV 3 hts (glM (L := [Cond.methodLink RL 264 yX12_delayTo, Cond.instanceMethod yX12_delayTo, Cond.selects RX12 yX12_delayTo yX12_delayTo, Cond.initialized RX12]) (gl_in [(9, 116), (9, 117), (9, 118), (1, 14)] (by decide +kernel) (by decide +kernel)) ⟨(t_of [Cond.code yX12_delayTo cX12_delayTo 4 (some .int)] [(9, 119)] (by decide +kernel) _ List.mem_cons_self), List.all_eq_true.mp (by decide +kernel : [Cond.code yX12_delayTo cX12_delayTo 4 (some .int)].all goodWord = true) _ List.mem_cons_self⟩) rfl rfl rfl (by decide +kernel) ⟨Nat.le_of_ble_eq_true rfl, Nat.le_of_ble_eq_true rfl⟩) rfl hl.1 rfl (lv_room (Nat.le_of_ble_eq_true rfl)) dL_law_1071 ⟨Nat.le_of_ble_eq_true rfl, Nat.le_of_ble_eq_true rfl⟩ (fun r1 S1 H locs hq G => ?_)
  obtain ⟨hq1, hq2⟩ := hq
  rw [hq2] at G
  refine lv_to (y := 0) hq1 ?_
  refine lv_istore (lv' := [(7, .int 0), (6, .int 1), (5, .int 0), (4, .ref (am 99)), (3, .ref (am 98)), (2, .ref (am 0)), (1, .ref (ad 0)), (0, .ref b)]) hx hb dL_law_1074 hl (by decide) rfl (fun ls hl => ?_)
  refine lv_aload_n hx hb dL_law_1076 rfl (lv_at hl 5 rfl) ?_
  refine l_mi (As := []) (rest := []) E G hA hKm hKb hX.2.2.2.2 hml (m_thrown l D cI cJ cZ am (mi mS0 0 1)) (cwV 0 hts (glM (L := [Cond.methodLink RL 204 yX12_thrown, Cond.instanceMethod yX12_thrown, Cond.selects RX12 yX12_thrown yX12_thrown, Cond.initialized RX12]) (gl_in [(8, 65), (8, 66), (8, 67), (1, 14)] (by decide +kernel) (by decide +kernel)) ⟨(t_of [Cond.code yX12_thrown cX12_thrown 1 (some .int)] [(8, 68)] (by decide +kernel) _ List.mem_cons_self), List.all_eq_true.mp (by decide +kernel : [Cond.code yX12_thrown cX12_thrown 1 (some .int)].all goodWord = true) _ List.mem_cons_self⟩) rfl rfl rfl (by decide +kernel) ⟨Nat.le_of_ble_eq_true rfl, Nat.le_of_ble_eq_true rfl⟩) rfl hl.1 rfl (lv_room (Nat.le_of_ble_eq_true rfl)) dL_law_1077 ⟨Nat.le_of_ble_eq_true rfl, Nat.le_of_ble_eq_true rfl⟩ (fun r2 S1 H locs hq G => ?_)
  obtain ⟨hq1, hq2⟩ := hq
  rw [hq2] at G
  refine lv_to (y := 1) hq1 ?_
  refine lv_iload hx hb dL_law_1080 (lv_at hl 1 rfl) ?_
  refine lv_icmp_eq (tgt := 1087) hx hb dL_law_1082 (by decide) (fun c3 => ?_) (fun c3 => absurd (by decide +kernel) c3)
  refine lv_iload hx hb dL_law_1087 (lv_at hl 1 rfl) ?_
  refine lv_if_ne (tgt := 1104) hx hb dL_law_1089 (by decide) (fun c4 => ?_) (fun c4 => absurd c4 (by decide +kernel))
  refine lv_goto (tgt := 3975) hx hb dL_law_1104 (by decide) ?_
  refine lv_iinc (v := 6) (lv' := [(5, .int 6), (7, .int 0), (6, .int 1), (4, .ref (am 99)), (3, .ref (am 98)), (2, .ref (am 0)), (1, .ref (ad 0)), (0, .ref b)]) hx hb dL_law_3975 hl (k := 2) rfl (by decide +kernel) (by decide) rfl (fun ls hl => ?_)
  refine lv_goto (tgt := 28) hx hb dL_law_3978 (by decide) ?_
  refine lv_iload hx hb dL_law_28 (lv_at hl 0 rfl) ?_
  refine lv_aload_n hx hb dL_law_30 rfl (lv_at hl 7 rfl) ?_
  refine va_slen hx hb hX0 hbl (Nat.not_le.mpr hbl) G.2.2 dL_law_31 ?_
  refine lv_to (y := 6) (by decide) ?_
  refine lv_bipush (v := 6) hx hb dL_law_32 (by decide) ?_
  refine lv_isub hx hb dL_law_34 ?_
  refine lv_to (y := 0) (by decide +kernel) ?_
  refine lv_icmp_gt (tgt := 3981) hx hb dL_law_35 (by decide) (fun c5 => ?_) (fun c5 => absurd (by decide +kernel) c5)
  refine lv_iconst (v := 1) hx hb dL_law_3981 (by decide) ?_
  refine va_forget G.2.2.2.2 ?_
  refine W.widen (k := 600002) (n := 7302232) (Nat.le_of_ble_eq_true rfl) (Nat.le_of_ble_eq_true rfl) ?_
  exact lw_ret (d0 := s.drawn) (Drawn.sameBut.refl s.drawn lw_cs) hx hb hr hlocks dL_law_3982
set_option maxHeartbeats 4000000 in
set_option maxRecDepth 100000 in
theorem p_a18 {p : Program} {e : Env} {s : State} {m : MethodId} {below : List Frame} {meth : Method} {c : Code} (l : Launch) (hst : l.stackTraces = false) {b : Nat} {xs : Nat → Int32} (hx : p.tables.exec = Jvm.exec) (hb : c.code = code) (hr : meth.sig.returnType = ret) (hml : c.maxLocals = 9) (hown : s.vm.findClass RL = some m.cls) (hts : ∀ w ∈ lw_tbl, w.before #[Value.ref b] s = true) (hlocks : meth.locks = false) (hX0 : va_X b 6 xs s s.heap) (hbl : b < s.heap.size) (hX : xT (fun q => s.heap.size ≤ q) s) (hN1 : va_Nc xIAE xIOB s) (hN2 : va_Nc xISE xIOB s) {D : va_G} {cI cJ cZ cMic cSrc cSt cAI cAJ cD : ClassId} {ad am : Nat → Nat} {N : Nat} {S : Nat → va_E} {ls : Array Slot} {H : Heap} {locs : List Loc} (hK : va_K D vwCl (CT cI cJ cZ cMic cSrc cSt cAI cAJ ++ [(cD, .double)]) s) (hN : 1586 ≤ N) (F : FR cI cJ cZ cMic cSrc cSt cAI cAJ ad S) (G : lG D ad N cI cJ cZ am (fun q => s.heap.size ≤ q) s.heap H locs S mS0) (hl : lv_has ls 9 [(5, .int 0), (4, .ref (am 99)), (3, .ref (am 98)), (2, .ref (am 0)), (1, .ref (ad 0)), (0, .ref b)]) : W p l e room_1 s m #[Value.ref b] below meth c H locs 1605 82603 (lw_Z below #[Value.ref b] s) (F0 m 1107 ls []) := by
  obtain ⟨hS0, hS1, hS2, hS3, hS4, hS5, hS6, hS432, hS478, hS480, hS656, hS658⟩ := F
  have E : cE p c cL_law s m #[Value.ref b] lw_tbl D RL (CT cI cJ cZ cMic cSrc cSt cAI cAJ ++ [(cD, .double)]) := ⟨hx, hb, hts, hown, hK⟩
  have hKm : va_K D vwCl (MT cI cJ cZ) s := hK.sub [0, 1, 2] rfl
  have hKb : ∀ t : State, s.vm.Alike t.vm → va_K D vwCl (CT cI cJ cZ cMic cSrc cSt cAI cAJ ++ [(cD, .double)]) t := fun t h => va_K.moved h hK
  have hA : ∀ q : Nat, s.heap.size ≤ q → s.heap.size ≤ q := fun _ h => h
  refine lv_aload_n hx hb dL_law_1107 rfl (lv_at hl 4 rfl) ?_
  refine lv_aload_n hx hb dL_law_1108 rfl (lv_at hl 5 rfl) ?_
  refine lv_iload hx hb dL_law_1109 (lv_at hl 0 rfl) ?_
  refine lv_iconst (v := 1) hx hb dL_law_1111 (by decide) ?_
  refine lv_iadd hx hb dL_law_1112 ?_
  refine lv_to (y := 1) (by decide +kernel) ?_
  refine va_sld hx hb hX0 hbl (Nat.not_le.mpr hbl) G.2.2 (i := 1) (vp_in_nI (n := 1) (N := 6) (by decide) (by decide)) dL_law_1113 ?_
  refine lv_to (y := xs 1) (congrArg xs (by decide)) ?_
  refine lv_aload_n hx hb dL_law_1114 rfl (lv_at hl 2 rfl) ?_
  refine l_w (As := [.ref (ad 0), .int (xs 1), .ref (am 98)]) (rest := []) E G hA hX hN1 hN2 (fun _ _ h _ _ k => va_Nc.moved h k) rfl hml (w_spread l hst D _ ad N S (sc := 478) (Nat.lt_of_lt_of_le (by decide) hN) hS0 rfl (Nat.lt_of_lt_of_le (by decide) hN) hS478 rfl (xs 1) (am 98)) (vx_cwSW 3 hts (glA (L := [Cond.methodLink RL 265 yL_spread, Cond.static yL_spread, Cond.initialized RL]) (gl_in [(5, 121), (5, 122), (1, 0)] (by decide +kernel) (by decide +kernel)) ⟨(t_of [Cond.codeWith yL_spread cL_spread 4 (some .int) [(0, 9, 12, 21), (0, 9, 15, 13)]] [(5, 123)] (by decide +kernel) _ List.mem_cons_self), List.all_eq_true.mp (by decide +kernel : [Cond.codeWith yL_spread cL_spread 4 (some .int) [(0, 9, 12, 21), (0, 9, 15, 13)]].all goodWord = true) _ List.mem_cons_self⟩) rfl rfl rfl (by decide +kernel) ⟨Nat.le_of_ble_eq_true rfl, Nat.le_of_ble_eq_true rfl⟩) rfl hl.1 rfl (lv_room (Nat.le_of_ble_eq_true rfl)) dL_law_1115 ⟨Nat.le_of_ble_eq_true rfl, Nat.le_of_ble_eq_true rfl⟩ (fun r S1 H locs hq G => ?_)
  obtain ⟨hq1, hq2⟩ := hq
  rw [hq2] at G
  refine lv_to (y := 1) hq1 ?_
  refine lv_istore (lv' := [(6, .int 1), (5, .int 0), (4, .ref (am 99)), (3, .ref (am 98)), (2, .ref (am 0)), (1, .ref (ad 0)), (0, .ref b)]) hx hb dL_law_1118 hl (by decide) rfl (fun ls hl => ?_)
  refine lv_aload_n hx hb dL_law_1120 rfl (lv_at hl 4 rfl) ?_
  refine lv_aload_n hx hb dL_law_1121 rfl (lv_at hl 6 rfl) ?_
  refine lv_iload hx hb dL_law_1122 (lv_at hl 1 rfl) ?_
  refine lv_iconst (v := 1) hx hb dL_law_1124 (by decide) ?_
  refine lv_iadd hx hb dL_law_1125 ?_
  refine lv_to (y := 1) (by decide +kernel) ?_
  refine va_sld hx hb hX0 hbl (Nat.not_le.mpr hbl) G.2.2 (i := 1) (vp_in_nI (n := 1) (N := 6) (by decide) (by decide)) dL_law_1126 ?_
  refine lv_to (y := xs 1) (congrArg xs (by decide)) ?_
  refine l_mi (As := [.int (xs 1)]) (rest := []) E G hA hKm hKb hX.2.2.2.2 hml (n_spread l D cI cJ cZ am mS0 (xs 1) rfl (fun _ => rfl)) (cwV 1 hts (glM (L := [Cond.methodLink RL 267 yX12_spread, Cond.instanceMethod yX12_spread, Cond.selects RX12 yX12_spread yX12_spread, Cond.initialized RX12]) (gl_in [(9, 123), (9, 124), (9, 125), (1, 14)] (by decide +kernel) (by decide +kernel)) ⟨(t_of [Cond.code yX12_spread cX12_spread 5 (some .int)] [(9, 126)] (by decide +kernel) _ List.mem_cons_self), List.all_eq_true.mp (by decide +kernel : [Cond.code yX12_spread cX12_spread 5 (some .int)].all goodWord = true) _ List.mem_cons_self⟩) rfl rfl rfl (by decide +kernel) ⟨Nat.le_of_ble_eq_true rfl, Nat.le_of_ble_eq_true rfl⟩) rfl hl.1 rfl (lv_room (Nat.le_of_ble_eq_true rfl)) dL_law_1127 ⟨Nat.le_of_ble_eq_true rfl, Nat.le_of_ble_eq_true rfl⟩ (fun r1 S1 H locs hq G => ?_)
  obtain ⟨hq1, hq2⟩ := hq
  rw [hq2] at G
  refine lv_to (y := 0) hq1 ?_
  refine lv_istore (lv' := [(7, .int 0), (6, .int 1), (5, .int 0), (4, .ref (am 99)), (3, .ref (am 98)), (2, .ref (am 0)), (1, .ref (ad 0)), (0, .ref b)]) hx hb dL_law_1130 hl (by decide) rfl (fun ls hl => ?_)
  refine lv_aload_n hx hb dL_law_1132 rfl (lv_at hl 5 rfl) ?_
  refine l_mi (As := []) (rest := []) E G hA hKm hKb hX.2.2.2.2 hml (m_thrown l D cI cJ cZ am (mi mS0 0 1)) (cwV 0 hts (glM (L := [Cond.methodLink RL 204 yX12_thrown, Cond.instanceMethod yX12_thrown, Cond.selects RX12 yX12_thrown yX12_thrown, Cond.initialized RX12]) (gl_in [(8, 65), (8, 66), (8, 67), (1, 14)] (by decide +kernel) (by decide +kernel)) ⟨(t_of [Cond.code yX12_thrown cX12_thrown 1 (some .int)] [(8, 68)] (by decide +kernel) _ List.mem_cons_self), List.all_eq_true.mp (by decide +kernel : [Cond.code yX12_thrown cX12_thrown 1 (some .int)].all goodWord = true) _ List.mem_cons_self⟩) rfl rfl rfl (by decide +kernel) ⟨Nat.le_of_ble_eq_true rfl, Nat.le_of_ble_eq_true rfl⟩) rfl hl.1 rfl (lv_room (Nat.le_of_ble_eq_true rfl)) dL_law_1133 ⟨Nat.le_of_ble_eq_true rfl, Nat.le_of_ble_eq_true rfl⟩ (fun r2 S1 H locs hq G => ?_)
  obtain ⟨hq1, hq2⟩ := hq
  rw [hq2] at G
  refine lv_to (y := 1) hq1 ?_
  refine lv_iload hx hb dL_law_1136 (lv_at hl 1 rfl) ?_
  refine lv_icmp_eq (tgt := 1143) hx hb dL_law_1138 (by decide) (fun c3 => ?_) (fun c3 => absurd (by decide +kernel) c3)
  refine lv_iload hx hb dL_law_1143 (lv_at hl 1 rfl) ?_
  refine lv_if_ne (tgt := 1160) hx hb dL_law_1145 (by decide) (fun c4 => ?_) (fun c4 => absurd c4 (by decide +kernel))
  refine lv_goto (tgt := 3975) hx hb dL_law_1160 (by decide) ?_
  refine lv_iinc (v := 6) (lv' := [(5, .int 6), (7, .int 0), (6, .int 1), (4, .ref (am 99)), (3, .ref (am 98)), (2, .ref (am 0)), (1, .ref (ad 0)), (0, .ref b)]) hx hb dL_law_3975 hl (k := 2) rfl (by decide +kernel) (by decide) rfl (fun ls hl => ?_)
  refine lv_goto (tgt := 28) hx hb dL_law_3978 (by decide) ?_
  refine lv_iload hx hb dL_law_28 (lv_at hl 0 rfl) ?_
  refine lv_aload_n hx hb dL_law_30 rfl (lv_at hl 7 rfl) ?_
  refine va_slen hx hb hX0 hbl (Nat.not_le.mpr hbl) G.2.2 dL_law_31 ?_
  refine lv_to (y := 6) (by decide) ?_
  refine lv_bipush (v := 6) hx hb dL_law_32 (by decide) ?_
  refine lv_isub hx hb dL_law_34 ?_
  refine lv_to (y := 0) (by decide +kernel) ?_
  refine lv_icmp_gt (tgt := 3981) hx hb dL_law_35 (by decide) (fun c5 => ?_) (fun c5 => absurd (by decide +kernel) c5)
  refine lv_iconst (v := 1) hx hb dL_law_3981 (by decide) ?_
  refine va_forget G.2.2.2.2 ?_
  refine W.widen (k := 600002) (n := 7302232) (Nat.le_of_ble_eq_true rfl) (Nat.le_of_ble_eq_true rfl) ?_
  exact lw_ret (d0 := s.drawn) (Drawn.sameBut.refl s.drawn lw_cs) hx hb hr hlocks dL_law_3982
set_option maxHeartbeats 4000000 in
set_option maxRecDepth 100000 in
theorem p_a19 {p : Program} {e : Env} {s : State} {m : MethodId} {below : List Frame} {meth : Method} {c : Code} (l : Launch) (hst : l.stackTraces = false) {b : Nat} {xs : Nat → Int32} (hx : p.tables.exec = Jvm.exec) (hb : c.code = code) (hr : meth.sig.returnType = ret) (hml : c.maxLocals = 9) (hown : s.vm.findClass RL = some m.cls) (hts : ∀ w ∈ lw_tbl, w.before #[Value.ref b] s = true) (hlocks : meth.locks = false) (hX0 : va_X b 6 xs s s.heap) (hbl : b < s.heap.size) (hX : xT (fun q => s.heap.size ≤ q) s) (hN1 : va_Nc xIAE xIOB s) (hN2 : va_Nc xISE xIOB s) {D : va_G} {cI cJ cZ cMic cSrc cSt cAI cAJ cD : ClassId} {ad am : Nat → Nat} {N : Nat} {S : Nat → va_E} {ls : Array Slot} {H : Heap} {locs : List Loc} (hK : va_K D vwCl (CT cI cJ cZ cMic cSrc cSt cAI cAJ ++ [(cD, .double)]) s) (hN : 1586 ≤ N) (F : FR cI cJ cZ cMic cSrc cSt cAI cAJ ad S) (G : lG D ad N cI cJ cZ am (fun q => s.heap.size ≤ q) s.heap H locs S mS0) (hl : lv_has ls 9 [(5, .int 0), (4, .ref (am 99)), (3, .ref (am 98)), (2, .ref (am 0)), (1, .ref (ad 0)), (0, .ref b)]) : W p l e room_1 s m #[Value.ref b] below meth c H locs 1605 82603 (lw_Z below #[Value.ref b] s) (F0 m 1163 ls []) := by
  obtain ⟨hS0, hS1, hS2, hS3, hS4, hS5, hS6, hS432, hS478, hS480, hS656, hS658⟩ := F
  have E : cE p c cL_law s m #[Value.ref b] lw_tbl D RL (CT cI cJ cZ cMic cSrc cSt cAI cAJ ++ [(cD, .double)]) := ⟨hx, hb, hts, hown, hK⟩
  have hKm : va_K D vwCl (MT cI cJ cZ) s := hK.sub [0, 1, 2] rfl
  have hKb : ∀ t : State, s.vm.Alike t.vm → va_K D vwCl (CT cI cJ cZ cMic cSrc cSt cAI cAJ ++ [(cD, .double)]) t := fun t h => va_K.moved h hK
  have hA : ∀ q : Nat, s.heap.size ≤ q → s.heap.size ≤ q := fun _ h => h
  refine lv_aload_n hx hb dL_law_1163 rfl (lv_at hl 4 rfl) ?_
  refine lv_aload_n hx hb dL_law_1164 rfl (lv_at hl 5 rfl) ?_
  refine lv_iload hx hb dL_law_1165 (lv_at hl 0 rfl) ?_
  refine lv_iconst (v := 1) hx hb dL_law_1167 (by decide) ?_
  refine lv_iadd hx hb dL_law_1168 ?_
  refine lv_to (y := 1) (by decide +kernel) ?_
  refine va_sld hx hb hX0 hbl (Nat.not_le.mpr hbl) G.2.2 (i := 1) (vp_in_nI (n := 1) (N := 6) (by decide) (by decide)) dL_law_1169 ?_
  refine lv_to (y := xs 1) (congrArg xs (by decide)) ?_
  refine lv_aload_n hx hb dL_law_1170 rfl (lv_at hl 2 rfl) ?_
  refine l_w (As := [.ref (ad 0), .int (xs 1), .ref (am 98)]) (rest := []) E G hA hX hN1 hN2 (fun _ _ h _ _ k => va_Nc.moved h k) rfl hml (w_window l hst D _ ad N S (sc := 478) (Nat.lt_of_lt_of_le (by decide) hN) hS0 rfl (Nat.lt_of_lt_of_le (by decide) hN) hS478 rfl (xs 1) (am 98)) (vx_cwSW 3 hts (glA (L := [Cond.methodLink RL 268 yL_window, Cond.static yL_window, Cond.initialized RL]) (gl_in [(5, 139), (5, 140), (1, 0)] (by decide +kernel) (by decide +kernel)) ⟨(t_of [Cond.codeWith yL_window cL_window 4 (some .int) [(0, 9, 12, 21), (0, 9, 15, 13)]] [(5, 141)] (by decide +kernel) _ List.mem_cons_self), List.all_eq_true.mp (by decide +kernel : [Cond.codeWith yL_window cL_window 4 (some .int) [(0, 9, 12, 21), (0, 9, 15, 13)]].all goodWord = true) _ List.mem_cons_self⟩) rfl rfl rfl (by decide +kernel) ⟨Nat.le_of_ble_eq_true rfl, Nat.le_of_ble_eq_true rfl⟩) rfl hl.1 rfl (lv_room (Nat.le_of_ble_eq_true rfl)) dL_law_1171 ⟨Nat.le_of_ble_eq_true rfl, Nat.le_of_ble_eq_true rfl⟩ (fun r S1 H locs hq G => ?_)
  obtain ⟨hq1, hq2⟩ := hq
  rw [hq2] at G
  refine lv_to (y := 1) hq1 ?_
  refine lv_istore (lv' := [(6, .int 1), (5, .int 0), (4, .ref (am 99)), (3, .ref (am 98)), (2, .ref (am 0)), (1, .ref (ad 0)), (0, .ref b)]) hx hb dL_law_1174 hl (by decide) rfl (fun ls hl => ?_)
  refine lv_aload_n hx hb dL_law_1176 rfl (lv_at hl 4 rfl) ?_
  refine lv_aload_n hx hb dL_law_1177 rfl (lv_at hl 6 rfl) ?_
  refine lv_iload hx hb dL_law_1178 (lv_at hl 1 rfl) ?_
  refine lv_iconst (v := 1) hx hb dL_law_1180 (by decide) ?_
  refine lv_iadd hx hb dL_law_1181 ?_
  refine lv_to (y := 1) (by decide +kernel) ?_
  refine va_sld hx hb hX0 hbl (Nat.not_le.mpr hbl) G.2.2 (i := 1) (vp_in_nI (n := 1) (N := 6) (by decide) (by decide)) dL_law_1182 ?_
  refine lv_to (y := xs 1) (congrArg xs (by decide)) ?_
  refine l_mi (As := [.int (xs 1)]) (rest := []) E G hA hKm hKb hX.2.2.2.2 hml (n_window l D cI cJ cZ am mS0 (xs 1) rfl (fun _ => rfl)) (cwV 1 hts (glM (L := [Cond.methodLink RL 270 yX12_window, Cond.instanceMethod yX12_window, Cond.selects RX12 yX12_window yX12_window, Cond.initialized RX12]) (gl_in [(9, 132), (9, 133), (9, 134), (1, 14)] (by decide +kernel) (by decide +kernel)) ⟨(t_of [Cond.code yX12_window cX12_window 2 (some .int)] [(9, 135)] (by decide +kernel) _ List.mem_cons_self), List.all_eq_true.mp (by decide +kernel : [Cond.code yX12_window cX12_window 2 (some .int)].all goodWord = true) _ List.mem_cons_self⟩) rfl rfl rfl (by decide +kernel) ⟨Nat.le_of_ble_eq_true rfl, Nat.le_of_ble_eq_true rfl⟩) rfl hl.1 rfl (lv_room (Nat.le_of_ble_eq_true rfl)) dL_law_1183 ⟨Nat.le_of_ble_eq_true rfl, Nat.le_of_ble_eq_true rfl⟩ (fun r1 S1 H locs hq G => ?_)
  obtain ⟨hq1, hq2⟩ := hq
  rw [hq2] at G
  refine lv_to (y := 0) hq1 ?_
  refine lv_istore (lv' := [(7, .int 0), (6, .int 1), (5, .int 0), (4, .ref (am 99)), (3, .ref (am 98)), (2, .ref (am 0)), (1, .ref (ad 0)), (0, .ref b)]) hx hb dL_law_1186 hl (by decide) rfl (fun ls hl => ?_)
  refine lv_aload_n hx hb dL_law_1188 rfl (lv_at hl 5 rfl) ?_
  refine l_mi (As := []) (rest := []) E G hA hKm hKb hX.2.2.2.2 hml (m_thrown l D cI cJ cZ am (mi mS0 0 1)) (cwV 0 hts (glM (L := [Cond.methodLink RL 204 yX12_thrown, Cond.instanceMethod yX12_thrown, Cond.selects RX12 yX12_thrown yX12_thrown, Cond.initialized RX12]) (gl_in [(8, 65), (8, 66), (8, 67), (1, 14)] (by decide +kernel) (by decide +kernel)) ⟨(t_of [Cond.code yX12_thrown cX12_thrown 1 (some .int)] [(8, 68)] (by decide +kernel) _ List.mem_cons_self), List.all_eq_true.mp (by decide +kernel : [Cond.code yX12_thrown cX12_thrown 1 (some .int)].all goodWord = true) _ List.mem_cons_self⟩) rfl rfl rfl (by decide +kernel) ⟨Nat.le_of_ble_eq_true rfl, Nat.le_of_ble_eq_true rfl⟩) rfl hl.1 rfl (lv_room (Nat.le_of_ble_eq_true rfl)) dL_law_1189 ⟨Nat.le_of_ble_eq_true rfl, Nat.le_of_ble_eq_true rfl⟩ (fun r2 S1 H locs hq G => ?_)
  obtain ⟨hq1, hq2⟩ := hq
  rw [hq2] at G
  refine lv_to (y := 1) hq1 ?_
  refine lv_iload hx hb dL_law_1192 (lv_at hl 1 rfl) ?_
  refine lv_icmp_eq (tgt := 1199) hx hb dL_law_1194 (by decide) (fun c3 => ?_) (fun c3 => absurd (by decide +kernel) c3)
  refine lv_iload hx hb dL_law_1199 (lv_at hl 1 rfl) ?_
  refine lv_if_ne (tgt := 1216) hx hb dL_law_1201 (by decide) (fun c4 => ?_) (fun c4 => absurd c4 (by decide +kernel))
  refine lv_goto (tgt := 3975) hx hb dL_law_1216 (by decide) ?_
  refine lv_iinc (v := 6) (lv' := [(5, .int 6), (7, .int 0), (6, .int 1), (4, .ref (am 99)), (3, .ref (am 98)), (2, .ref (am 0)), (1, .ref (ad 0)), (0, .ref b)]) hx hb dL_law_3975 hl (k := 2) rfl (by decide +kernel) (by decide) rfl (fun ls hl => ?_)
  refine lv_goto (tgt := 28) hx hb dL_law_3978 (by decide) ?_
  refine lv_iload hx hb dL_law_28 (lv_at hl 0 rfl) ?_
  refine lv_aload_n hx hb dL_law_30 rfl (lv_at hl 7 rfl) ?_
  refine va_slen hx hb hX0 hbl (Nat.not_le.mpr hbl) G.2.2 dL_law_31 ?_
  refine lv_to (y := 6) (by decide) ?_
  refine lv_bipush (v := 6) hx hb dL_law_32 (by decide) ?_
  refine lv_isub hx hb dL_law_34 ?_
  refine lv_to (y := 0) (by decide +kernel) ?_
  refine lv_icmp_gt (tgt := 3981) hx hb dL_law_35 (by decide) (fun c5 => ?_) (fun c5 => absurd (by decide +kernel) c5)
  refine lv_iconst (v := 1) hx hb dL_law_3981 (by decide) ?_
  refine va_forget G.2.2.2.2 ?_
  refine W.widen (k := 600002) (n := 7302232) (Nat.le_of_ble_eq_true rfl) (Nat.le_of_ble_eq_true rfl) ?_
  exact lw_ret (d0 := s.drawn) (Drawn.sameBut.refl s.drawn lw_cs) hx hb hr hlocks dL_law_3982
set_option maxHeartbeats 4000000 in
set_option maxRecDepth 100000 in
theorem p_a20 {p : Program} {e : Env} {s : State} {m : MethodId} {below : List Frame} {meth : Method} {c : Code} (l : Launch) (hst : l.stackTraces = false) {b : Nat} {xs : Nat → Int32} (hx : p.tables.exec = Jvm.exec) (hb : c.code = code) (hr : meth.sig.returnType = ret) (hml : c.maxLocals = 9) (hown : s.vm.findClass RL = some m.cls) (hts : ∀ w ∈ lw_tbl, w.before #[Value.ref b] s = true) (hlocks : meth.locks = false) (hX0 : va_X b 6 xs s s.heap) (hbl : b < s.heap.size) (hX : xT (fun q => s.heap.size ≤ q) s) (hN1 : va_Nc xIAE xIOB s) (hN2 : va_Nc xISE xIOB s) {D : va_G} {cI cJ cZ cMic cSrc cSt cAI cAJ cD : ClassId} {ad am : Nat → Nat} {N : Nat} {S : Nat → va_E} {ls : Array Slot} {H : Heap} {locs : List Loc} (hK : va_K D vwCl (CT cI cJ cZ cMic cSrc cSt cAI cAJ ++ [(cD, .double)]) s) (hN : 1586 ≤ N) (F : FR cI cJ cZ cMic cSrc cSt cAI cAJ ad S) (G : lG D ad N cI cJ cZ am (fun q => s.heap.size ≤ q) s.heap H locs S mS0) (hl : lv_has ls 9 [(5, .int 0), (4, .ref (am 99)), (3, .ref (am 98)), (2, .ref (am 0)), (1, .ref (ad 0)), (0, .ref b)]) : W p l e room_1 s m #[Value.ref b] below meth c H locs 1605 82603 (lw_Z below #[Value.ref b] s) (F0 m 1219 ls []) := by
  obtain ⟨hS0, hS1, hS2, hS3, hS4, hS5, hS6, hS432, hS478, hS480, hS656, hS658⟩ := F
  have E : cE p c cL_law s m #[Value.ref b] lw_tbl D RL (CT cI cJ cZ cMic cSrc cSt cAI cAJ ++ [(cD, .double)]) := ⟨hx, hb, hts, hown, hK⟩
  have hKm : va_K D vwCl (MT cI cJ cZ) s := hK.sub [0, 1, 2] rfl
  have hKb : ∀ t : State, s.vm.Alike t.vm → va_K D vwCl (CT cI cJ cZ cMic cSrc cSt cAI cAJ ++ [(cD, .double)]) t := fun t h => va_K.moved h hK
  have hA : ∀ q : Nat, s.heap.size ≤ q → s.heap.size ≤ q := fun _ h => h
  refine lv_aload_n hx hb dL_law_1219 rfl (lv_at hl 4 rfl) ?_
  refine lv_aload_n hx hb dL_law_1220 rfl (lv_at hl 5 rfl) ?_
  refine lv_iload hx hb dL_law_1221 (lv_at hl 0 rfl) ?_
  refine lv_iconst (v := 1) hx hb dL_law_1223 (by decide) ?_
  refine lv_iadd hx hb dL_law_1224 ?_
  refine lv_to (y := 1) (by decide +kernel) ?_
  refine va_sld hx hb hX0 hbl (Nat.not_le.mpr hbl) G.2.2 (i := 1) (vp_in_nI (n := 1) (N := 6) (by decide) (by decide)) dL_law_1225 ?_
  refine lv_to (y := xs 1) (congrArg xs (by decide)) ?_
  refine lv_aload_n hx hb dL_law_1226 rfl (lv_at hl 5 rfl) ?_
  refine lv_iload hx hb dL_law_1227 (lv_at hl 0 rfl) ?_
  refine lv_iconst (v := 2) hx hb dL_law_1229 (by decide) ?_
  refine lv_iadd hx hb dL_law_1230 ?_
  refine lv_to (y := 2) (by decide +kernel) ?_
  refine va_sld hx hb hX0 hbl (Nat.not_le.mpr hbl) G.2.2 (i := 2) (vp_in_nI (n := 2) (N := 6) (by decide) (by decide)) dL_law_1231 ?_
  refine lv_to (y := xs 2) (congrArg xs (by decide)) ?_
  refine lv_aload_n hx hb dL_law_1232 rfl (lv_at hl 2 rfl) ?_
  refine l_w (As := [.ref (ad 0), .int (xs 1), .int (xs 2), .ref (am 98)]) (rest := []) E G hA hX hN1 hN2 (fun _ _ h _ _ k => va_Nc.moved h k) rfl hml (w_sample l hst D _ ad N S (sc := 478) (Nat.lt_of_lt_of_le (by decide) hN) hS0 rfl (Nat.lt_of_lt_of_le (by decide) hN) hS478 rfl (xs 1) (xs 2) (am 98)) (vx_cwSW 4 hts (glA (L := [Cond.methodLink RL 271 yL_sample, Cond.static yL_sample, Cond.initialized RL]) (gl_in [(5, 150), (5, 151), (1, 0)] (by decide +kernel) (by decide +kernel)) ⟨(t_of [Cond.codeWith yL_sample cL_sample 5 (some .int) [(0, 10, 13, 21), (0, 10, 17, 13), (0, 10, 21, 15)]] [(5, 152)] (by decide +kernel) _ List.mem_cons_self), List.all_eq_true.mp (by decide +kernel : [Cond.codeWith yL_sample cL_sample 5 (some .int) [(0, 10, 13, 21), (0, 10, 17, 13), (0, 10, 21, 15)]].all goodWord = true) _ List.mem_cons_self⟩) rfl rfl rfl (by decide +kernel) ⟨Nat.le_of_ble_eq_true rfl, Nat.le_of_ble_eq_true rfl⟩) rfl hl.1 rfl (lv_room (Nat.le_of_ble_eq_true rfl)) dL_law_1233 ⟨Nat.le_of_ble_eq_true rfl, Nat.le_of_ble_eq_true rfl⟩ (fun r S1 H locs hq G => ?_)
  obtain ⟨hq1, hq2⟩ := hq
  rw [hq2] at G
  refine lv_to (y := 1) hq1 ?_
  refine lv_istore (lv' := [(6, .int 1), (5, .int 0), (4, .ref (am 99)), (3, .ref (am 98)), (2, .ref (am 0)), (1, .ref (ad 0)), (0, .ref b)]) hx hb dL_law_1236 hl (by decide) rfl (fun ls hl => ?_)
  refine lv_aload_n hx hb dL_law_1238 rfl (lv_at hl 4 rfl) ?_
  refine lv_aload_n hx hb dL_law_1239 rfl (lv_at hl 6 rfl) ?_
  refine lv_iload hx hb dL_law_1240 (lv_at hl 1 rfl) ?_
  refine lv_iconst (v := 1) hx hb dL_law_1242 (by decide) ?_
  refine lv_iadd hx hb dL_law_1243 ?_
  refine lv_to (y := 1) (by decide +kernel) ?_
  refine va_sld hx hb hX0 hbl (Nat.not_le.mpr hbl) G.2.2 (i := 1) (vp_in_nI (n := 1) (N := 6) (by decide) (by decide)) dL_law_1244 ?_
  refine lv_to (y := xs 1) (congrArg xs (by decide)) ?_
  refine lv_aload_n hx hb dL_law_1245 rfl (lv_at hl 6 rfl) ?_
  refine lv_iload hx hb dL_law_1246 (lv_at hl 1 rfl) ?_
  refine lv_iconst (v := 2) hx hb dL_law_1248 (by decide) ?_
  refine lv_iadd hx hb dL_law_1249 ?_
  refine lv_to (y := 2) (by decide +kernel) ?_
  refine va_sld hx hb hX0 hbl (Nat.not_le.mpr hbl) G.2.2 (i := 2) (vp_in_nI (n := 2) (N := 6) (by decide) (by decide)) dL_law_1250 ?_
  refine lv_to (y := xs 2) (congrArg xs (by decide)) ?_
  refine l_mi (As := [.int (xs 1), .int (xs 2)]) (rest := []) E G hA hKm hKb hX.2.2.2.2 hml (n_sample l D cI cJ cZ am mS0 (xs 1) (xs 2) rfl (fun _ => rfl)) (cwV 2 hts (glM (L := [Cond.methodLink RL 273 yX12_sample, Cond.instanceMethod yX12_sample, Cond.selects RX12 yX12_sample yX12_sample, Cond.initialized RX12]) (gl_in [(9, 144), (9, 145), (9, 146), (1, 14)] (by decide +kernel) (by decide +kernel)) ⟨(t_of [Cond.code yX12_sample cX12_sample 3 (some .int)] [(9, 147)] (by decide +kernel) _ List.mem_cons_self), List.all_eq_true.mp (by decide +kernel : [Cond.code yX12_sample cX12_sample 3 (some .int)].all goodWord = true) _ List.mem_cons_self⟩) rfl rfl rfl (by decide +kernel) ⟨Nat.le_of_ble_eq_true rfl, Nat.le_of_ble_eq_true rfl⟩) rfl hl.1 rfl (lv_room (Nat.le_of_ble_eq_true rfl)) dL_law_1251 ⟨Nat.le_of_ble_eq_true rfl, Nat.le_of_ble_eq_true rfl⟩ (fun r1 S1 H locs hq G => ?_)
  obtain ⟨hq1, hq2⟩ := hq
  rw [hq2] at G
  refine lv_to (y := 0) hq1 ?_
  refine lv_istore (lv' := [(7, .int 0), (6, .int 1), (5, .int 0), (4, .ref (am 99)), (3, .ref (am 98)), (2, .ref (am 0)), (1, .ref (ad 0)), (0, .ref b)]) hx hb dL_law_1254 hl (by decide) rfl (fun ls hl => ?_)
  refine lv_aload_n hx hb dL_law_1256 rfl (lv_at hl 5 rfl) ?_
  refine l_mi (As := []) (rest := []) E G hA hKm hKb hX.2.2.2.2 hml (m_thrown l D cI cJ cZ am (mi mS0 0 1)) (cwV 0 hts (glM (L := [Cond.methodLink RL 204 yX12_thrown, Cond.instanceMethod yX12_thrown, Cond.selects RX12 yX12_thrown yX12_thrown, Cond.initialized RX12]) (gl_in [(8, 65), (8, 66), (8, 67), (1, 14)] (by decide +kernel) (by decide +kernel)) ⟨(t_of [Cond.code yX12_thrown cX12_thrown 1 (some .int)] [(8, 68)] (by decide +kernel) _ List.mem_cons_self), List.all_eq_true.mp (by decide +kernel : [Cond.code yX12_thrown cX12_thrown 1 (some .int)].all goodWord = true) _ List.mem_cons_self⟩) rfl rfl rfl (by decide +kernel) ⟨Nat.le_of_ble_eq_true rfl, Nat.le_of_ble_eq_true rfl⟩) rfl hl.1 rfl (lv_room (Nat.le_of_ble_eq_true rfl)) dL_law_1257 ⟨Nat.le_of_ble_eq_true rfl, Nat.le_of_ble_eq_true rfl⟩ (fun r2 S1 H locs hq G => ?_)
  obtain ⟨hq1, hq2⟩ := hq
  rw [hq2] at G
  refine lv_to (y := 1) hq1 ?_
  refine lv_iload hx hb dL_law_1260 (lv_at hl 1 rfl) ?_
  refine lv_icmp_eq (tgt := 1267) hx hb dL_law_1262 (by decide) (fun c3 => ?_) (fun c3 => absurd (by decide +kernel) c3)
  refine lv_iload hx hb dL_law_1267 (lv_at hl 1 rfl) ?_
  refine lv_if_ne (tgt := 1284) hx hb dL_law_1269 (by decide) (fun c4 => ?_) (fun c4 => absurd c4 (by decide +kernel))
  refine lv_goto (tgt := 3975) hx hb dL_law_1284 (by decide) ?_
  refine lv_iinc (v := 6) (lv' := [(5, .int 6), (7, .int 0), (6, .int 1), (4, .ref (am 99)), (3, .ref (am 98)), (2, .ref (am 0)), (1, .ref (ad 0)), (0, .ref b)]) hx hb dL_law_3975 hl (k := 2) rfl (by decide +kernel) (by decide) rfl (fun ls hl => ?_)
  refine lv_goto (tgt := 28) hx hb dL_law_3978 (by decide) ?_
  refine lv_iload hx hb dL_law_28 (lv_at hl 0 rfl) ?_
  refine lv_aload_n hx hb dL_law_30 rfl (lv_at hl 7 rfl) ?_
  refine va_slen hx hb hX0 hbl (Nat.not_le.mpr hbl) G.2.2 dL_law_31 ?_
  refine lv_to (y := 6) (by decide) ?_
  refine lv_bipush (v := 6) hx hb dL_law_32 (by decide) ?_
  refine lv_isub hx hb dL_law_34 ?_
  refine lv_to (y := 0) (by decide +kernel) ?_
  refine lv_icmp_gt (tgt := 3981) hx hb dL_law_35 (by decide) (fun c5 => ?_) (fun c5 => absurd (by decide +kernel) c5)
  refine lv_iconst (v := 1) hx hb dL_law_3981 (by decide) ?_
  refine va_forget G.2.2.2.2 ?_
  refine W.widen (k := 600002) (n := 7302232) (Nat.le_of_ble_eq_true rfl) (Nat.le_of_ble_eq_true rfl) ?_
  exact lw_ret (d0 := s.drawn) (Drawn.sameBut.refl s.drawn lw_cs) hx hb hr hlocks dL_law_3982
set_option maxHeartbeats 4000000 in
set_option maxRecDepth 100000 in
theorem p_a21 {p : Program} {e : Env} {s : State} {m : MethodId} {below : List Frame} {meth : Method} {c : Code} (l : Launch) (hst : l.stackTraces = false) {b : Nat} {xs : Nat → Int32} (hx : p.tables.exec = Jvm.exec) (hb : c.code = code) (hr : meth.sig.returnType = ret) (hml : c.maxLocals = 9) (hown : s.vm.findClass RL = some m.cls) (hts : ∀ w ∈ lw_tbl, w.before #[Value.ref b] s = true) (hlocks : meth.locks = false) (hX0 : va_X b 6 xs s s.heap) (hbl : b < s.heap.size) (hX : xT (fun q => s.heap.size ≤ q) s) (hN1 : va_Nc xIAE xIOB s) (hN2 : va_Nc xISE xIOB s) {D : va_G} {cI cJ cZ cMic cSrc cSt cAI cAJ cD : ClassId} {ad am : Nat → Nat} {N : Nat} {S : Nat → va_E} {ls : Array Slot} {H : Heap} {locs : List Loc} (hK : va_K D vwCl (CT cI cJ cZ cMic cSrc cSt cAI cAJ ++ [(cD, .double)]) s) (hN : 1586 ≤ N) (F : FR cI cJ cZ cMic cSrc cSt cAI cAJ ad S) (G : lG D ad N cI cJ cZ am (fun q => s.heap.size ≤ q) s.heap H locs S mS0) (hl : lv_has ls 9 [(5, .int 0), (4, .ref (am 99)), (3, .ref (am 98)), (2, .ref (am 0)), (1, .ref (ad 0)), (0, .ref b)]) : W p l e room_1 s m #[Value.ref b] below meth c H locs 1605 82603 (lw_Z below #[Value.ref b] s) (F0 m 1287 ls []) := by
  obtain ⟨hS0, hS1, hS2, hS3, hS4, hS5, hS6, hS432, hS478, hS480, hS656, hS658⟩ := F
  have E : cE p c cL_law s m #[Value.ref b] lw_tbl D RL (CT cI cJ cZ cMic cSrc cSt cAI cAJ ++ [(cD, .double)]) := ⟨hx, hb, hts, hown, hK⟩
  have hKm : va_K D vwCl (MT cI cJ cZ) s := hK.sub [0, 1, 2] rfl
  have hKb : ∀ t : State, s.vm.Alike t.vm → va_K D vwCl (CT cI cJ cZ cMic cSrc cSt cAI cAJ ++ [(cD, .double)]) t := fun t h => va_K.moved h hK
  have hA : ∀ q : Nat, s.heap.size ≤ q → s.heap.size ≤ q := fun _ h => h
  refine lv_aload_n hx hb dL_law_1287 rfl (lv_at hl 4 rfl) ?_
  refine lv_aload_n hx hb dL_law_1288 rfl (lv_at hl 5 rfl) ?_
  refine lv_iload hx hb dL_law_1289 (lv_at hl 0 rfl) ?_
  refine lv_iconst (v := 1) hx hb dL_law_1291 (by decide) ?_
  refine lv_iadd hx hb dL_law_1292 ?_
  refine lv_to (y := 1) (by decide +kernel) ?_
  refine va_sld hx hb hX0 hbl (Nat.not_le.mpr hbl) G.2.2 (i := 1) (vp_in_nI (n := 1) (N := 6) (by decide) (by decide)) dL_law_1293 ?_
  refine lv_to (y := xs 1) (congrArg xs (by decide)) ?_
  refine lv_aload_n hx hb dL_law_1294 rfl (lv_at hl 5 rfl) ?_
  refine lv_iload hx hb dL_law_1295 (lv_at hl 0 rfl) ?_
  refine lv_iconst (v := 2) hx hb dL_law_1297 (by decide) ?_
  refine lv_iadd hx hb dL_law_1298 ?_
  refine lv_to (y := 2) (by decide +kernel) ?_
  refine va_sld hx hb hX0 hbl (Nat.not_le.mpr hbl) G.2.2 (i := 2) (vp_in_nI (n := 2) (N := 6) (by decide) (by decide)) dL_law_1299 ?_
  refine lv_to (y := xs 2) (congrArg xs (by decide)) ?_
  refine lv_aload_n hx hb dL_law_1300 rfl (lv_at hl 2 rfl) ?_
  refine l_w (As := [.ref (ad 0), .int (xs 1), .int (xs 2), .ref (am 98)]) (rest := []) E G hA hX hN1 hN2 (fun _ _ h _ _ k => va_Nc.moved h k) rfl hml (w_beam l hst D _ ad N S (sc := 478) (Nat.lt_of_lt_of_le (by decide) hN) hS0 rfl (Nat.lt_of_lt_of_le (by decide) hN) hS478 rfl (xs 1) (xs 2) (am 98)) (vx_cwSW 4 hts (glA (L := [Cond.methodLink RL 274 yL_beam, Cond.static yL_beam, Cond.initialized RL]) (gl_in [(5, 162), (5, 163), (1, 0)] (by decide +kernel) (by decide +kernel)) ⟨(t_of [Cond.codeWith yL_beam cL_beam 5 (some .int) [(0, 10, 13, 21), (0, 10, 17, 13), (0, 10, 21, 15)]] [(5, 164)] (by decide +kernel) _ List.mem_cons_self), List.all_eq_true.mp (by decide +kernel : [Cond.codeWith yL_beam cL_beam 5 (some .int) [(0, 10, 13, 21), (0, 10, 17, 13), (0, 10, 21, 15)]].all goodWord = true) _ List.mem_cons_self⟩) rfl rfl rfl (by decide +kernel) ⟨Nat.le_of_ble_eq_true rfl, Nat.le_of_ble_eq_true rfl⟩) rfl hl.1 rfl (lv_room (Nat.le_of_ble_eq_true rfl)) dL_law_1301 ⟨Nat.le_of_ble_eq_true rfl, Nat.le_of_ble_eq_true rfl⟩ (fun r S1 H locs hq G => ?_)
  obtain ⟨hq1, hq2⟩ := hq
  rw [hq2] at G
  refine lv_to (y := 1) hq1 ?_
  refine lv_istore (lv' := [(6, .int 1), (5, .int 0), (4, .ref (am 99)), (3, .ref (am 98)), (2, .ref (am 0)), (1, .ref (ad 0)), (0, .ref b)]) hx hb dL_law_1304 hl (by decide) rfl (fun ls hl => ?_)
  refine lv_aload_n hx hb dL_law_1306 rfl (lv_at hl 4 rfl) ?_
  refine lv_aload_n hx hb dL_law_1307 rfl (lv_at hl 6 rfl) ?_
  refine lv_iload hx hb dL_law_1308 (lv_at hl 1 rfl) ?_
  refine lv_iconst (v := 1) hx hb dL_law_1310 (by decide) ?_
  refine lv_iadd hx hb dL_law_1311 ?_
  refine lv_to (y := 1) (by decide +kernel) ?_
  refine va_sld hx hb hX0 hbl (Nat.not_le.mpr hbl) G.2.2 (i := 1) (vp_in_nI (n := 1) (N := 6) (by decide) (by decide)) dL_law_1312 ?_
  refine lv_to (y := xs 1) (congrArg xs (by decide)) ?_
  refine lv_aload_n hx hb dL_law_1313 rfl (lv_at hl 6 rfl) ?_
  refine lv_iload hx hb dL_law_1314 (lv_at hl 1 rfl) ?_
  refine lv_iconst (v := 2) hx hb dL_law_1316 (by decide) ?_
  refine lv_iadd hx hb dL_law_1317 ?_
  refine lv_to (y := 2) (by decide +kernel) ?_
  refine va_sld hx hb hX0 hbl (Nat.not_le.mpr hbl) G.2.2 (i := 2) (vp_in_nI (n := 2) (N := 6) (by decide) (by decide)) dL_law_1318 ?_
  refine lv_to (y := xs 2) (congrArg xs (by decide)) ?_
  refine l_mi (As := [.int (xs 1), .int (xs 2)]) (rest := []) E G hA hKm hKb hX.2.2.2.2 hml (n_beam l D cI cJ cZ am mS0 (xs 1) (xs 2) rfl (fun _ => rfl)) (cwV 2 hts (glM (L := [Cond.methodLink RL 276 yX12_beam, Cond.instanceMethod yX12_beam, Cond.selects RX12 yX12_beam yX12_beam, Cond.initialized RX12]) (gl_in [(9, 148), (9, 149), (9, 150), (1, 14)] (by decide +kernel) (by decide +kernel)) ⟨(t_of [Cond.code yX12_beam cX12_beam 3 (some .int)] [(9, 151)] (by decide +kernel) _ List.mem_cons_self), List.all_eq_true.mp (by decide +kernel : [Cond.code yX12_beam cX12_beam 3 (some .int)].all goodWord = true) _ List.mem_cons_self⟩) rfl rfl rfl (by decide +kernel) ⟨Nat.le_of_ble_eq_true rfl, Nat.le_of_ble_eq_true rfl⟩) rfl hl.1 rfl (lv_room (Nat.le_of_ble_eq_true rfl)) dL_law_1319 ⟨Nat.le_of_ble_eq_true rfl, Nat.le_of_ble_eq_true rfl⟩ (fun r1 S1 H locs hq G => ?_)
  obtain ⟨hq1, hq2⟩ := hq
  rw [hq2] at G
  refine lv_to (y := 0) hq1 ?_
  refine lv_istore (lv' := [(7, .int 0), (6, .int 1), (5, .int 0), (4, .ref (am 99)), (3, .ref (am 98)), (2, .ref (am 0)), (1, .ref (ad 0)), (0, .ref b)]) hx hb dL_law_1322 hl (by decide) rfl (fun ls hl => ?_)
  refine lv_aload_n hx hb dL_law_1324 rfl (lv_at hl 5 rfl) ?_
  refine l_mi (As := []) (rest := []) E G hA hKm hKb hX.2.2.2.2 hml (m_thrown l D cI cJ cZ am (mi mS0 0 1)) (cwV 0 hts (glM (L := [Cond.methodLink RL 204 yX12_thrown, Cond.instanceMethod yX12_thrown, Cond.selects RX12 yX12_thrown yX12_thrown, Cond.initialized RX12]) (gl_in [(8, 65), (8, 66), (8, 67), (1, 14)] (by decide +kernel) (by decide +kernel)) ⟨(t_of [Cond.code yX12_thrown cX12_thrown 1 (some .int)] [(8, 68)] (by decide +kernel) _ List.mem_cons_self), List.all_eq_true.mp (by decide +kernel : [Cond.code yX12_thrown cX12_thrown 1 (some .int)].all goodWord = true) _ List.mem_cons_self⟩) rfl rfl rfl (by decide +kernel) ⟨Nat.le_of_ble_eq_true rfl, Nat.le_of_ble_eq_true rfl⟩) rfl hl.1 rfl (lv_room (Nat.le_of_ble_eq_true rfl)) dL_law_1325 ⟨Nat.le_of_ble_eq_true rfl, Nat.le_of_ble_eq_true rfl⟩ (fun r2 S1 H locs hq G => ?_)
  obtain ⟨hq1, hq2⟩ := hq
  rw [hq2] at G
  refine lv_to (y := 1) hq1 ?_
  refine lv_iload hx hb dL_law_1328 (lv_at hl 1 rfl) ?_
  refine lv_icmp_eq (tgt := 1335) hx hb dL_law_1330 (by decide) (fun c3 => ?_) (fun c3 => absurd (by decide +kernel) c3)
  refine lv_iload hx hb dL_law_1335 (lv_at hl 1 rfl) ?_
  refine lv_if_ne (tgt := 1352) hx hb dL_law_1337 (by decide) (fun c4 => ?_) (fun c4 => absurd c4 (by decide +kernel))
  refine lv_goto (tgt := 3975) hx hb dL_law_1352 (by decide) ?_
  refine lv_iinc (v := 6) (lv' := [(5, .int 6), (7, .int 0), (6, .int 1), (4, .ref (am 99)), (3, .ref (am 98)), (2, .ref (am 0)), (1, .ref (ad 0)), (0, .ref b)]) hx hb dL_law_3975 hl (k := 2) rfl (by decide +kernel) (by decide) rfl (fun ls hl => ?_)
  refine lv_goto (tgt := 28) hx hb dL_law_3978 (by decide) ?_
  refine lv_iload hx hb dL_law_28 (lv_at hl 0 rfl) ?_
  refine lv_aload_n hx hb dL_law_30 rfl (lv_at hl 7 rfl) ?_
  refine va_slen hx hb hX0 hbl (Nat.not_le.mpr hbl) G.2.2 dL_law_31 ?_
  refine lv_to (y := 6) (by decide) ?_
  refine lv_bipush (v := 6) hx hb dL_law_32 (by decide) ?_
  refine lv_isub hx hb dL_law_34 ?_
  refine lv_to (y := 0) (by decide +kernel) ?_
  refine lv_icmp_gt (tgt := 3981) hx hb dL_law_35 (by decide) (fun c5 => ?_) (fun c5 => absurd (by decide +kernel) c5)
  refine lv_iconst (v := 1) hx hb dL_law_3981 (by decide) ?_
  refine va_forget G.2.2.2.2 ?_
  refine W.widen (k := 600002) (n := 7302232) (Nat.le_of_ble_eq_true rfl) (Nat.le_of_ble_eq_true rfl) ?_
  exact lw_ret (d0 := s.drawn) (Drawn.sameBut.refl s.drawn lw_cs) hx hb hr hlocks dL_law_3982
set_option maxHeartbeats 4000000 in
set_option maxRecDepth 100000 in
theorem p_a22 {p : Program} {e : Env} {s : State} {m : MethodId} {below : List Frame} {meth : Method} {c : Code} (l : Launch) (hst : l.stackTraces = false) {b : Nat} {xs : Nat → Int32} (hx : p.tables.exec = Jvm.exec) (hb : c.code = code) (hr : meth.sig.returnType = ret) (hml : c.maxLocals = 9) (hown : s.vm.findClass RL = some m.cls) (hts : ∀ w ∈ lw_tbl, w.before #[Value.ref b] s = true) (hlocks : meth.locks = false) (hX0 : va_X b 6 xs s s.heap) (hbl : b < s.heap.size) (hX : xT (fun q => s.heap.size ≤ q) s) (hN1 : va_Nc xIAE xIOB s) (hN2 : va_Nc xISE xIOB s) {D : va_G} {cI cJ cZ cMic cSrc cSt cAI cAJ cD : ClassId} {ad am : Nat → Nat} {N : Nat} {S : Nat → va_E} {ls : Array Slot} {H : Heap} {locs : List Loc} (hK : va_K D vwCl (CT cI cJ cZ cMic cSrc cSt cAI cAJ ++ [(cD, .double)]) s) (hN : 1586 ≤ N) (F : FR cI cJ cZ cMic cSrc cSt cAI cAJ ad S) (G : lG D ad N cI cJ cZ am (fun q => s.heap.size ≤ q) s.heap H locs S mS0) (hl : lv_has ls 9 [(5, .int 0), (4, .ref (am 99)), (3, .ref (am 98)), (2, .ref (am 0)), (1, .ref (ad 0)), (0, .ref b)]) : W p l e room_1 s m #[Value.ref b] below meth c H locs 1605 82603 (lw_Z below #[Value.ref b] s) (F0 m 1355 ls []) := by
  obtain ⟨hS0, hS1, hS2, hS3, hS4, hS5, hS6, hS432, hS478, hS480, hS656, hS658⟩ := F
  have E : cE p c cL_law s m #[Value.ref b] lw_tbl D RL (CT cI cJ cZ cMic cSrc cSt cAI cAJ ++ [(cD, .double)]) := ⟨hx, hb, hts, hown, hK⟩
  have hKm : va_K D vwCl (MT cI cJ cZ) s := hK.sub [0, 1, 2] rfl
  have hKb : ∀ t : State, s.vm.Alike t.vm → va_K D vwCl (CT cI cJ cZ cMic cSrc cSt cAI cAJ ++ [(cD, .double)]) t := fun t h => va_K.moved h hK
  have hA : ∀ q : Nat, s.heap.size ≤ q → s.heap.size ≤ q := fun _ h => h
  refine lv_aload_n hx hb dL_law_1355 rfl (lv_at hl 4 rfl) ?_
  refine lv_aload_n hx hb dL_law_1356 rfl (lv_at hl 5 rfl) ?_
  refine lv_iload hx hb dL_law_1357 (lv_at hl 0 rfl) ?_
  refine lv_iconst (v := 1) hx hb dL_law_1359 (by decide) ?_
  refine lv_iadd hx hb dL_law_1360 ?_
  refine lv_to (y := 1) (by decide +kernel) ?_
  refine va_sld hx hb hX0 hbl (Nat.not_le.mpr hbl) G.2.2 (i := 1) (vp_in_nI (n := 1) (N := 6) (by decide) (by decide)) dL_law_1361 ?_
  refine lv_to (y := xs 1) (congrArg xs (by decide)) ?_
  refine lv_aload_n hx hb dL_law_1362 rfl (lv_at hl 2 rfl) ?_
  refine l_w (As := [.ref (ad 0), .int (xs 1), .ref (am 98)]) (rest := []) E G hA hX hN1 hN2 (fun _ _ h _ _ k => va_Nc.moved h k) rfl hml (w_power l hst D _ ad N S (sc := 478) (Nat.lt_of_lt_of_le (by decide) hN) hS0 rfl (Nat.lt_of_lt_of_le (by decide) hN) hS478 rfl (xs 1) (am 98)) (vx_cwSW 3 hts (glA (L := [Cond.methodLink RL 277 yL_power, Cond.static yL_power, Cond.initialized RL]) (gl_in [(5, 181), (5, 182), (1, 0)] (by decide +kernel) (by decide +kernel)) ⟨(t_of [Cond.codeWith yL_power cL_power 4 (some .int) [(0, 8, 11, 21), (0, 8, 14, 13)]] [(5, 183)] (by decide +kernel) _ List.mem_cons_self), List.all_eq_true.mp (by decide +kernel : [Cond.codeWith yL_power cL_power 4 (some .int) [(0, 8, 11, 21), (0, 8, 14, 13)]].all goodWord = true) _ List.mem_cons_self⟩) rfl rfl rfl (by decide +kernel) ⟨Nat.le_of_ble_eq_true rfl, Nat.le_of_ble_eq_true rfl⟩) rfl hl.1 rfl (lv_room (Nat.le_of_ble_eq_true rfl)) dL_law_1363 ⟨Nat.le_of_ble_eq_true rfl, Nat.le_of_ble_eq_true rfl⟩ (fun r S1 H locs hq G => ?_)
  obtain ⟨hq1, hq2⟩ := hq
  rw [hq2] at G
  refine lv_to (y := 1) hq1 ?_
  refine lv_istore (lv' := [(6, .int 1), (5, .int 0), (4, .ref (am 99)), (3, .ref (am 98)), (2, .ref (am 0)), (1, .ref (ad 0)), (0, .ref b)]) hx hb dL_law_1366 hl (by decide) rfl (fun ls hl => ?_)
  refine lv_aload_n hx hb dL_law_1368 rfl (lv_at hl 4 rfl) ?_
  refine lv_aload_n hx hb dL_law_1369 rfl (lv_at hl 6 rfl) ?_
  refine lv_iload hx hb dL_law_1370 (lv_at hl 1 rfl) ?_
  refine lv_iconst (v := 1) hx hb dL_law_1372 (by decide) ?_
  refine lv_iadd hx hb dL_law_1373 ?_
  refine lv_to (y := 1) (by decide +kernel) ?_
  refine va_sld hx hb hX0 hbl (Nat.not_le.mpr hbl) G.2.2 (i := 1) (vp_in_nI (n := 1) (N := 6) (by decide) (by decide)) dL_law_1374 ?_
  refine lv_to (y := xs 1) (congrArg xs (by decide)) ?_
  refine l_ml (As := [.int (xs 1)]) (rest := []) E G hA hKm hKb hX.2.2.2.2 hml (n_power l D cI cJ cZ am mS0 (xs 1) rfl (fun _ => rfl)) (cwV 1 hts (glM (L := [Cond.methodLink RL 279 yX12_power, Cond.instanceMethod yX12_power, Cond.selects RX12 yX12_power yX12_power, Cond.initialized RX12]) (gl_in [(9, 156), (9, 157), (9, 158), (1, 14)] (by decide +kernel) (by decide +kernel)) ⟨(t_of [Cond.code yX12_power cX12_power 2 (some .long)] [(9, 159)] (by decide +kernel) _ List.mem_cons_self), List.all_eq_true.mp (by decide +kernel : [Cond.code yX12_power cX12_power 2 (some .long)].all goodWord = true) _ List.mem_cons_self⟩) rfl rfl rfl (by decide +kernel) ⟨Nat.le_of_ble_eq_true rfl, Nat.le_of_ble_eq_true rfl⟩) rfl hl.1 rfl (lv_room (Nat.le_of_ble_eq_true rfl)) dL_law_1375 ⟨Nat.le_of_ble_eq_true rfl, Nat.le_of_ble_eq_true rfl⟩ (fun r1 S1 H locs hq G => ?_)
  obtain ⟨hq1, hq2⟩ := hq
  rw [hq2] at G
  refine lv_lstore (lv' := [(7, .long r1), (6, .int 1), (5, .int 0), (4, .ref (am 99)), (3, .ref (am 98)), (2, .ref (am 0)), (1, .ref (ad 0)), (0, .ref b)]) hx hb dL_law_1378 hl (by decide) rfl (fun ls hl => ?_)
  refine lv_aload_n hx hb dL_law_1380 rfl (lv_at hl 5 rfl) ?_
  refine l_mi (As := []) (rest := []) E G hA hKm hKb hX.2.2.2.2 hml (m_thrown l D cI cJ cZ am (mi mS0 0 1)) (cwV 0 hts (glM (L := [Cond.methodLink RL 204 yX12_thrown, Cond.instanceMethod yX12_thrown, Cond.selects RX12 yX12_thrown yX12_thrown, Cond.initialized RX12]) (gl_in [(8, 65), (8, 66), (8, 67), (1, 14)] (by decide +kernel) (by decide +kernel)) ⟨(t_of [Cond.code yX12_thrown cX12_thrown 1 (some .int)] [(8, 68)] (by decide +kernel) _ List.mem_cons_self), List.all_eq_true.mp (by decide +kernel : [Cond.code yX12_thrown cX12_thrown 1 (some .int)].all goodWord = true) _ List.mem_cons_self⟩) rfl rfl rfl (by decide +kernel) ⟨Nat.le_of_ble_eq_true rfl, Nat.le_of_ble_eq_true rfl⟩) rfl hl.1 rfl (lv_room (Nat.le_of_ble_eq_true rfl)) dL_law_1381 ⟨Nat.le_of_ble_eq_true rfl, Nat.le_of_ble_eq_true rfl⟩ (fun r2 S1 H locs hq G => ?_)
  obtain ⟨hq1, hq2⟩ := hq
  rw [hq2] at G
  refine lv_to (y := 1) hq1 ?_
  refine lv_iload hx hb dL_law_1384 (lv_at hl 1 rfl) ?_
  refine lv_icmp_eq (tgt := 1391) hx hb dL_law_1386 (by decide) (fun c3 => ?_) (fun c3 => absurd (by decide +kernel) c3)
  refine lv_iload hx hb dL_law_1391 (lv_at hl 1 rfl) ?_
  refine lv_if_ne (tgt := 1407) hx hb dL_law_1393 (by decide) (fun c4 => ?_) (fun c4 => absurd c4 (by decide +kernel))
  refine lv_goto (tgt := 3975) hx hb dL_law_1407 (by decide) ?_
  refine lv_iinc (v := 6) (lv' := [(5, .int 6), (7, .long r1), (6, .int 1), (4, .ref (am 99)), (3, .ref (am 98)), (2, .ref (am 0)), (1, .ref (ad 0)), (0, .ref b)]) hx hb dL_law_3975 hl (k := 2) rfl (by decide +kernel) (by decide) rfl (fun ls hl => ?_)
  refine lv_goto (tgt := 28) hx hb dL_law_3978 (by decide) ?_
  refine lv_iload hx hb dL_law_28 (lv_at hl 0 rfl) ?_
  refine lv_aload_n hx hb dL_law_30 rfl (lv_at hl 7 rfl) ?_
  refine va_slen hx hb hX0 hbl (Nat.not_le.mpr hbl) G.2.2 dL_law_31 ?_
  refine lv_to (y := 6) (by decide) ?_
  refine lv_bipush (v := 6) hx hb dL_law_32 (by decide) ?_
  refine lv_isub hx hb dL_law_34 ?_
  refine lv_to (y := 0) (by decide +kernel) ?_
  refine lv_icmp_gt (tgt := 3981) hx hb dL_law_35 (by decide) (fun c5 => ?_) (fun c5 => absurd (by decide +kernel) c5)
  refine lv_iconst (v := 1) hx hb dL_law_3981 (by decide) ?_
  refine va_forget G.2.2.2.2 ?_
  refine W.widen (k := 600002) (n := 7302232) (Nat.le_of_ble_eq_true rfl) (Nat.le_of_ble_eq_true rfl) ?_
  exact lw_ret (d0 := s.drawn) (Drawn.sameBut.refl s.drawn lw_cs) hx hb hr hlocks dL_law_3982
