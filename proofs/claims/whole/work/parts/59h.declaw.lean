theorem d_law_1128 : decode code 1128 = .ok (.iconst 0, 1) := by decide +kernel
theorem d_law_1129 : decode code 1129 = .ok (.ireturn, 1) := by decide +kernel
theorem d_law_1130 : decode code 1130 = .ok (.goto 139, 3) := by decide +kernel
theorem d_law_1133 : decode code 1133 = .ok (.aload_n 1, 1) := by decide +kernel
theorem d_law_1134 : decode code 1134 = .ok (.aload_n 0, 1) := by decide +kernel
theorem d_law_1135 : decode code 1135 = .ok (.iload 4, 2) := by decide +kernel
theorem d_law_1137 : decode code 1137 = .ok (.iconst 1, 1) := by decide +kernel
theorem d_law_1138 : decode code 1138 = .ok (.iadd, 1) := by decide +kernel
theorem d_law_1139 : decode code 1139 = .ok (.iaload, 1) := by decide +kernel
theorem d_law_1140 : decode code 1140 = .ok (.aload_n 0, 1) := by decide +kernel
theorem d_law_1141 : decode code 1141 = .ok (.iload 4, 2) := by decide +kernel
theorem d_law_1143 : decode code 1143 = .ok (.iconst 2, 1) := by decide +kernel
theorem d_law_1144 : decode code 1144 = .ok (.iadd, 1) := by decide +kernel
theorem d_law_1145 : decode code 1145 = .ok (.iaload, 1) := by decide +kernel
theorem d_law_1146 : decode code 1146 = .ok (.aload_n 3, 1) := by decide +kernel
theorem d_law_1147 : decode code 1147 = .ok (.invokestatic 126, 3) := by decide +kernel
theorem d_law_1150 : decode code 1150 = .ok (.istore 5, 2) := by decide +kernel
theorem d_law_1152 : decode code 1152 = .ok (.aload_n 2, 1) := by decide +kernel
theorem d_law_1153 : decode code 1153 = .ok (.aload_n 0, 1) := by decide +kernel
theorem d_law_1154 : decode code 1154 = .ok (.iload 4, 2) := by decide +kernel
theorem d_law_1156 : decode code 1156 = .ok (.iconst 1, 1) := by decide +kernel
theorem d_law_1157 : decode code 1157 = .ok (.iadd, 1) := by decide +kernel
theorem d_law_1158 : decode code 1158 = .ok (.iaload, 1) := by decide +kernel
theorem d_law_1159 : decode code 1159 = .ok (.aload_n 0, 1) := by decide +kernel
theorem d_law_1160 : decode code 1160 = .ok (.iload 4, 2) := by decide +kernel
theorem d_law_1162 : decode code 1162 = .ok (.iconst 2, 1) := by decide +kernel
theorem d_law_1163 : decode code 1163 = .ok (.iadd, 1) := by decide +kernel
theorem d_law_1164 : decode code 1164 = .ok (.iaload, 1) := by decide +kernel
theorem d_law_1165 : decode code 1165 = .ok (.invokevirtual 128, 3) := by decide +kernel
theorem d_law_1168 : decode code 1168 = .ok (.istore 6, 2) := by decide +kernel
theorem d_law_1170 : decode code 1170 = .ok (.aload_n 2, 1) := by decide +kernel
theorem d_law_1171 : decode code 1171 = .ok (.invokevirtual 83, 3) := by decide +kernel
theorem d_law_1174 : decode code 1174 = .ok (.iload 5, 2) := by decide +kernel
theorem d_law_1176 : decode code 1176 = .ok (.if_icmp .eq 5, 3) := by decide +kernel
theorem d_law_1179 : decode code 1179 = .ok (.iconst 0, 1) := by decide +kernel
theorem d_law_1180 : decode code 1180 = .ok (.ireturn, 1) := by decide +kernel
theorem d_law_1181 : decode code 1181 = .ok (.iload 5, 2) := by decide +kernel
theorem d_law_1183 : decode code 1183 = .ok (.ifCond .ne 15, 3) := by decide +kernel
theorem d_law_1186 : decode code 1186 = .ok (.aload_n 3, 1) := by decide +kernel
theorem d_law_1187 : decode code 1187 = .ok (.iconst 0, 1) := by decide +kernel
theorem d_law_1188 : decode code 1188 = .ok (.laload, 1) := by decide +kernel
theorem d_law_1189 : decode code 1189 = .ok (.iload 6, 2) := by decide +kernel
theorem d_law_1191 : decode code 1191 = .ok (.i2l, 1) := by decide +kernel
theorem d_law_1192 : decode code 1192 = .ok (.lcmp, 1) := by decide +kernel
theorem d_law_1193 : decode code 1193 = .ok (.ifCond .eq 5, 3) := by decide +kernel
theorem d_law_1196 : decode code 1196 = .ok (.iconst 0, 1) := by decide +kernel
theorem d_law_1197 : decode code 1197 = .ok (.ireturn, 1) := by decide +kernel
theorem d_law_1198 : decode code 1198 = .ok (.goto 71, 3) := by decide +kernel
theorem d_law_1201 : decode code 1201 = .ok (.aload_n 1, 1) := by decide +kernel
theorem d_law_1202 : decode code 1202 = .ok (.aload_n 0, 1) := by decide +kernel
theorem d_law_1203 : decode code 1203 = .ok (.iload 4, 2) := by decide +kernel
theorem d_law_1205 : decode code 1205 = .ok (.iconst 1, 1) := by decide +kernel
theorem d_law_1206 : decode code 1206 = .ok (.iadd, 1) := by decide +kernel
theorem d_law_1207 : decode code 1207 = .ok (.iaload, 1) := by decide +kernel
theorem d_law_1208 : decode code 1208 = .ok (.aload_n 0, 1) := by decide +kernel
theorem d_law_1209 : decode code 1209 = .ok (.iload 4, 2) := by decide +kernel
theorem d_law_1211 : decode code 1211 = .ok (.iconst 2, 1) := by decide +kernel
theorem d_law_1212 : decode code 1212 = .ok (.iadd, 1) := by decide +kernel
theorem d_law_1213 : decode code 1213 = .ok (.iaload, 1) := by decide +kernel
theorem d_law_1214 : decode code 1214 = .ok (.aload_n 3, 1) := by decide +kernel
theorem d_law_1215 : decode code 1215 = .ok (.invokestatic 129, 3) := by decide +kernel
theorem d_law_1218 : decode code 1218 = .ok (.istore 5, 2) := by decide +kernel
theorem d_law_1220 : decode code 1220 = .ok (.aload_n 2, 1) := by decide +kernel
theorem d_law_1221 : decode code 1221 = .ok (.aload_n 0, 1) := by decide +kernel
theorem d_law_1222 : decode code 1222 = .ok (.iload 4, 2) := by decide +kernel
theorem d_law_1224 : decode code 1224 = .ok (.iconst 1, 1) := by decide +kernel
theorem d_law_1225 : decode code 1225 = .ok (.iadd, 1) := by decide +kernel
theorem d_law_1226 : decode code 1226 = .ok (.iaload, 1) := by decide +kernel
theorem d_law_1227 : decode code 1227 = .ok (.aload_n 0, 1) := by decide +kernel
theorem d_law_1228 : decode code 1228 = .ok (.iload 4, 2) := by decide +kernel
theorem d_law_1230 : decode code 1230 = .ok (.iconst 2, 1) := by decide +kernel
theorem d_law_1231 : decode code 1231 = .ok (.iadd, 1) := by decide +kernel
theorem d_law_1232 : decode code 1232 = .ok (.iaload, 1) := by decide +kernel
theorem d_law_1233 : decode code 1233 = .ok (.invokevirtual 131, 3) := by decide +kernel
theorem d_law_1236 : decode code 1236 = .ok (.istore 6, 2) := by decide +kernel
theorem d_law_1238 : decode code 1238 = .ok (.aload_n 2, 1) := by decide +kernel
theorem d_law_1239 : decode code 1239 = .ok (.invokevirtual 83, 3) := by decide +kernel
theorem d_law_1242 : decode code 1242 = .ok (.iload 5, 2) := by decide +kernel
theorem d_law_1244 : decode code 1244 = .ok (.if_icmp .eq 5, 3) := by decide +kernel
theorem d_law_1247 : decode code 1247 = .ok (.iconst 0, 1) := by decide +kernel
theorem d_law_1248 : decode code 1248 = .ok (.ireturn, 1) := by decide +kernel
theorem d_law_1249 : decode code 1249 = .ok (.iload 5, 2) := by decide +kernel
theorem d_law_1251 : decode code 1251 = .ok (.ifCond .ne 15, 3) := by decide +kernel
theorem d_law_1254 : decode code 1254 = .ok (.aload_n 3, 1) := by decide +kernel
theorem d_law_1255 : decode code 1255 = .ok (.iconst 0, 1) := by decide +kernel
theorem d_law_1256 : decode code 1256 = .ok (.laload, 1) := by decide +kernel
theorem d_law_1257 : decode code 1257 = .ok (.iload 6, 2) := by decide +kernel
theorem d_law_1259 : decode code 1259 = .ok (.i2l, 1) := by decide +kernel
theorem d_law_1260 : decode code 1260 = .ok (.lcmp, 1) := by decide +kernel
theorem d_law_1261 : decode code 1261 = .ok (.ifCond .eq 5, 3) := by decide +kernel
theorem d_law_1264 : decode code 1264 = .ok (.iconst 0, 1) := by decide +kernel
theorem d_law_1265 : decode code 1265 = .ok (.ireturn, 1) := by decide +kernel
theorem d_law_1266 : decode code 1266 = .ok (.goto 3, 3) := by decide +kernel
theorem d_law_1269 : decode code 1269 = .ok (.iinc 4 5, 3) := by decide +kernel
theorem d_law_1272 : decode code 1272 = .ok (.goto (-1249), 3) := by decide +kernel
theorem d_law_1275 : decode code 1275 = .ok (.iconst 1, 1) := by decide +kernel
theorem d_law_1276 : decode code 1276 = .ok (.ireturn, 1) := by decide +kernel
