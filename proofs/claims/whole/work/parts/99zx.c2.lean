/-! cases of the law -/
theorem lw_9101 : Cond.methodLink RL 181 yL_crash ∈ gw := gw_t5 139 rfl rfl
theorem lw_9102 : Cond.static yL_crash ∈ gw := gw_t5 140 rfl rfl
theorem lw_9103 : Cond.codeWith yL_crash cL_crash 3 (some .int) [(0, 5, 8, 21), (0, 5, 11, 49)] ∈ gw := gw_t5 141 rfl rfl
theorem hdL_crash : yL_crash.cls ≠ "java/lang/invoke/MethodHandle" ∧ yL_crash.cls ≠ "java/lang/invoke/VarHandle" ∧ (parseMethodDescriptor yL_crash.desc).map (fun d => d.parameters.length) = some 2 := by decide +kernel
theorem lw_9104 : Cond.methodLink RL 184 yX12_crash ∈ gw := gw_t7 204 rfl rfl
theorem lw_9105 : Cond.instanceMethod yX12_crash ∈ gw := gw_t7 205 rfl rfl
theorem lw_9106 : Cond.selects RX12 yX12_crash yX12_crash ∈ gw := gw_t7 206 rfl rfl
theorem lw_9107 : Cond.code yX12_crash cX12_crash 2 none ∈ gw := gw_t7 207 rfl rfl
theorem hdX12_crash : yX12_crash.cls = RX12 ∧ yX12_crash.cls ≠ "java/lang/invoke/MethodHandle" ∧ yX12_crash.cls ≠ "java/lang/invoke/VarHandle" ∧ (parseMethodDescriptor yX12_crash.desc).map (fun d => d.parameters.length) = some 1 := by decide +kernel
theorem lw_9108 : Cond.methodLink RL 185 yL_hold ∈ gw := gw_t5 148 rfl rfl
theorem lw_9109 : Cond.static yL_hold ∈ gw := gw_t5 149 rfl rfl
theorem lw_9110 : Cond.codeWith yL_hold cL_hold 6 (some .int) [(0, 19, 22, 21)] ∈ gw := gw_t5 150 rfl rfl
theorem hdL_hold : yL_hold.cls ≠ "java/lang/invoke/MethodHandle" ∧ yL_hold.cls ≠ "java/lang/invoke/VarHandle" ∧ (parseMethodDescriptor yL_hold.desc).map (fun d => d.parameters.length) = some 5 := by decide +kernel
theorem lw_9111 : Cond.methodLink RL 188 yX12_hold ∈ gw := gw_t7 208 rfl rfl
theorem lw_9112 : Cond.instanceMethod yX12_hold ∈ gw := gw_t7 209 rfl rfl
theorem lw_9113 : Cond.selects RX12 yX12_hold yX12_hold ∈ gw := gw_t7 210 rfl rfl
theorem lw_9114 : Cond.code yX12_hold cX12_hold 5 (some .boolean) ∈ gw := gw_t7 211 rfl rfl
theorem hdX12_hold : yX12_hold.cls = RX12 ∧ yX12_hold.cls ≠ "java/lang/invoke/MethodHandle" ∧ yX12_hold.cls ≠ "java/lang/invoke/VarHandle" ∧ (parseMethodDescriptor yX12_hold.desc).map (fun d => d.parameters.length) = some 3 := by decide +kernel
theorem lw_9115 : Cond.methodLink RL 189 yL_due ∈ gw := gw_t5 155 rfl rfl
theorem lw_9116 : Cond.static yL_due ∈ gw := gw_t5 156 rfl rfl
theorem lw_9117 : Cond.codeWith yL_due cL_due 5 (some .int) [(0, 10, 13, 21)] ∈ gw := gw_t5 157 rfl rfl
theorem hdL_due : yL_due.cls ≠ "java/lang/invoke/MethodHandle" ∧ yL_due.cls ≠ "java/lang/invoke/VarHandle" ∧ (parseMethodDescriptor yL_due.desc).map (fun d => d.parameters.length) = some 4 := by decide +kernel
theorem lw_9118 : Cond.methodLink RL 191 yX12_due ∈ gw := gw_t8 109 rfl rfl
theorem lw_9119 : Cond.instanceMethod yX12_due ∈ gw := gw_t8 110 rfl rfl
theorem lw_9120 : Cond.selects RX12 yX12_due yX12_due ∈ gw := gw_t8 111 rfl rfl
theorem lw_9121 : Cond.code yX12_due cX12_due 4 (some .int) ∈ gw := gw_t8 112 rfl rfl
theorem hdX12_due : yX12_due.cls = RX12 ∧ yX12_due.cls ≠ "java/lang/invoke/MethodHandle" ∧ yX12_due.cls ≠ "java/lang/invoke/VarHandle" ∧ (parseMethodDescriptor yX12_due.desc).map (fun d => d.parameters.length) = some 2 := by decide +kernel
theorem lw_9122 : Cond.methodLink RL 192 yL_block ∈ gw := gw_t5 177 rfl rfl
theorem lw_9123 : Cond.static yL_block ∈ gw := gw_t5 178 rfl rfl
theorem lw_9124 : Cond.codeWith yL_block cL_block 5 (some .int) [(0, 10, 13, 21)] ∈ gw := gw_t5 179 rfl rfl
theorem hdL_block : yL_block.cls ≠ "java/lang/invoke/MethodHandle" ∧ yL_block.cls ≠ "java/lang/invoke/VarHandle" ∧ (parseMethodDescriptor yL_block.desc).map (fun d => d.parameters.length) = some 4 := by decide +kernel
theorem lw_9125 : Cond.methodLink RL 194 yX12_block ∈ gw := gw_t8 53 rfl rfl
theorem lw_9126 : Cond.instanceMethod yX12_block ∈ gw := gw_t8 54 rfl rfl
theorem lw_9127 : Cond.selects RX12 yX12_block yX12_block ∈ gw := gw_t8 55 rfl rfl
theorem lw_9128 : Cond.code yX12_block cX12_block 3 (some .int) ∈ gw := gw_t8 56 rfl rfl
theorem hdX12_block : yX12_block.cls = RX12 ∧ yX12_block.cls ≠ "java/lang/invoke/MethodHandle" ∧ yX12_block.cls ≠ "java/lang/invoke/VarHandle" ∧ (parseMethodDescriptor yX12_block.desc).map (fun d => d.parameters.length) = some 2 := by decide +kernel
theorem lw_9129 : Cond.methodLink RL 195 yL_waits ∈ gw := gw_t5 188 rfl rfl
theorem lw_9130 : Cond.static yL_waits ∈ gw := gw_t5 189 rfl rfl
theorem lw_9131 : Cond.codeWith yL_waits cL_waits 4 (some .int) [(0, 9, 12, 21)] ∈ gw := gw_t5 190 rfl rfl
theorem hdL_waits : yL_waits.cls ≠ "java/lang/invoke/MethodHandle" ∧ yL_waits.cls ≠ "java/lang/invoke/VarHandle" ∧ (parseMethodDescriptor yL_waits.desc).map (fun d => d.parameters.length) = some 3 := by decide +kernel
theorem lw_9132 : Cond.methodLink RL 197 yX12_waits ∈ gw := gw_t8 61 rfl rfl
theorem lw_9133 : Cond.instanceMethod yX12_waits ∈ gw := gw_t8 62 rfl rfl
theorem lw_9134 : Cond.selects RX12 yX12_waits yX12_waits ∈ gw := gw_t8 63 rfl rfl
theorem lw_9135 : Cond.code yX12_waits cX12_waits 2 (some .int) ∈ gw := gw_t8 64 rfl rfl
theorem hdX12_waits : yX12_waits.cls = RX12 ∧ yX12_waits.cls ≠ "java/lang/invoke/MethodHandle" ∧ yX12_waits.cls ≠ "java/lang/invoke/VarHandle" ∧ (parseMethodDescriptor yX12_waits.desc).map (fun d => d.parameters.length) = some 1 := by decide +kernel
theorem lw_9136 : Cond.methodLink RL 198 yL_ahead ∈ gw := gw_t5 200 rfl rfl
theorem lw_9137 : Cond.static yL_ahead ∈ gw := gw_t5 201 rfl rfl
theorem lw_9138 : Cond.codeWith yL_ahead cL_ahead 5 (some .int) [(0, 17, 20, 21), (0, 17, 24, 13)] ∈ gw := gw_t5 202 rfl rfl
theorem hdL_ahead : yL_ahead.cls ≠ "java/lang/invoke/MethodHandle" ∧ yL_ahead.cls ≠ "java/lang/invoke/VarHandle" ∧ (parseMethodDescriptor yL_ahead.desc).map (fun d => d.parameters.length) = some 4 := by decide +kernel
theorem lw_9139 : Cond.methodLink RL 200 yX12_ahead ∈ gw := gw_t8 81 rfl rfl
theorem lw_9140 : Cond.instanceMethod yX12_ahead ∈ gw := gw_t8 82 rfl rfl
theorem lw_9141 : Cond.selects RX12 yX12_ahead yX12_ahead ∈ gw := gw_t8 83 rfl rfl
theorem lw_9142 : Cond.code yX12_ahead cX12_ahead 3 (some .boolean) ∈ gw := gw_t8 84 rfl rfl
theorem hdX12_ahead : yX12_ahead.cls = RX12 ∧ yX12_ahead.cls ≠ "java/lang/invoke/MethodHandle" ∧ yX12_ahead.cls ≠ "java/lang/invoke/VarHandle" ∧ (parseMethodDescriptor yX12_ahead.desc).map (fun d => d.parameters.length) = some 2 := by decide +kernel
theorem lw_9143 : Cond.methodLink RL 201 yX11_line ∈ gw := gw_t2 179 rfl rfl
theorem lw_9144 : Cond.instanceMethod yX11_line ∈ gw := gw_t2 180 rfl rfl
theorem lw_9145 : Cond.selects RX11 yX11_line yX11_line ∈ gw := gw_t2 181 rfl rfl
theorem lw_9146 : Cond.code yX11_line cX11_line 2 (some .int) ∈ gw := gw_t2 182 rfl rfl
theorem hdX11_line : yX11_line.cls = RX11 ∧ yX11_line.cls ≠ "java/lang/invoke/MethodHandle" ∧ yX11_line.cls ≠ "java/lang/invoke/VarHandle" ∧ (parseMethodDescriptor yX11_line.desc).map (fun d => d.parameters.length) = some 1 := by decide +kernel
theorem lw_9147 : Cond.methodLink RL 204 yX12_line ∈ gw := gw_t8 93 rfl rfl
theorem lw_9148 : Cond.instanceMethod yX12_line ∈ gw := gw_t8 94 rfl rfl
theorem lw_9149 : Cond.selects RX12 yX12_line yX12_line ∈ gw := gw_t8 95 rfl rfl
theorem lw_9150 : Cond.code yX12_line cX12_line 6 (some .int) ∈ gw := gw_t8 96 rfl rfl
theorem hdX12_line : yX12_line.cls = RX12 ∧ yX12_line.cls ≠ "java/lang/invoke/MethodHandle" ∧ yX12_line.cls ≠ "java/lang/invoke/VarHandle" ∧ (parseMethodDescriptor yX12_line.desc).map (fun d => d.parameters.length) = some 1 := by decide +kernel
theorem dl_1091 : decode code 1091 = .ok (.aload_n 1, 1) := by decide +kernel
theorem dl_1092 : decode code 1092 = .ok (.aload_n 0, 1) := by decide +kernel
theorem dl_1093 : decode code 1093 = .ok (.iload 4, 2) := by decide +kernel
theorem dl_1095 : decode code 1095 = .ok (.iconst 1, 1) := by decide +kernel
theorem dl_1096 : decode code 1096 = .ok (.iadd, 1) := by decide +kernel
theorem dl_1097 : decode code 1097 = .ok (.iaload, 1) := by decide +kernel
theorem dl_1098 : decode code 1098 = .ok (.invokestatic 181, 3) := by decide +kernel
theorem dl_1101 : decode code 1101 = .ok (.istore 5, 2) := by decide +kernel
theorem dl_1103 : decode code 1103 = .ok (.aload_n 2, 1) := by decide +kernel
theorem dl_1104 : decode code 1104 = .ok (.aload_n 0, 1) := by decide +kernel
theorem dl_1105 : decode code 1105 = .ok (.iload 4, 2) := by decide +kernel
theorem dl_1107 : decode code 1107 = .ok (.iconst 1, 1) := by decide +kernel
theorem dl_1108 : decode code 1108 = .ok (.iadd, 1) := by decide +kernel
theorem dl_1109 : decode code 1109 = .ok (.iaload, 1) := by decide +kernel
theorem dl_1110 : decode code 1110 = .ok (.invokevirtual 184, 3) := by decide +kernel
theorem dl_1113 : decode code 1113 = .ok (.aload_n 2, 1) := by decide +kernel
theorem dl_1114 : decode code 1114 = .ok (.invokevirtual 140, 3) := by decide +kernel
theorem dl_1117 : decode code 1117 = .ok (.iload 5, 2) := by decide +kernel
theorem dl_1119 : decode code 1119 = .ok (.if_icmp .eq 5, 3) := by decide +kernel
theorem dl_1124 : decode code 1124 = .ok (.goto 1402, 3) := by decide +kernel
theorem dl_1127 : decode code 1127 = .ok (.aload_n 1, 1) := by decide +kernel
theorem dl_1128 : decode code 1128 = .ok (.aload_n 0, 1) := by decide +kernel
theorem dl_1129 : decode code 1129 = .ok (.iload 4, 2) := by decide +kernel
theorem dl_1131 : decode code 1131 = .ok (.iconst 1, 1) := by decide +kernel
theorem dl_1132 : decode code 1132 = .ok (.iadd, 1) := by decide +kernel
theorem dl_1133 : decode code 1133 = .ok (.iaload, 1) := by decide +kernel
theorem dl_1134 : decode code 1134 = .ok (.aload_n 0, 1) := by decide +kernel
theorem dl_1135 : decode code 1135 = .ok (.iload 4, 2) := by decide +kernel
theorem dl_1137 : decode code 1137 = .ok (.iconst 2, 1) := by decide +kernel
theorem dl_1138 : decode code 1138 = .ok (.iadd, 1) := by decide +kernel
theorem dl_1139 : decode code 1139 = .ok (.iaload, 1) := by decide +kernel
theorem dl_1140 : decode code 1140 = .ok (.aload_n 0, 1) := by decide +kernel
theorem dl_1141 : decode code 1141 = .ok (.iload 4, 2) := by decide +kernel
theorem dl_1143 : decode code 1143 = .ok (.iconst 3, 1) := by decide +kernel
theorem dl_1144 : decode code 1144 = .ok (.iadd, 1) := by decide +kernel
theorem dl_1145 : decode code 1145 = .ok (.iaload, 1) := by decide +kernel
theorem dl_1146 : decode code 1146 = .ok (.ifCond .eq 7, 3) := by decide +kernel
theorem dl_1149 : decode code 1149 = .ok (.iconst 1, 1) := by decide +kernel
theorem dl_1150 : decode code 1150 = .ok (.goto 4, 3) := by decide +kernel
theorem dl_1153 : decode code 1153 = .ok (.iconst 0, 1) := by decide +kernel
theorem dl_1154 : decode code 1154 = .ok (.aload_n 3, 1) := by decide +kernel
theorem dl_1155 : decode code 1155 = .ok (.invokestatic 185, 3) := by decide +kernel
theorem dl_1158 : decode code 1158 = .ok (.istore 5, 2) := by decide +kernel
theorem dl_1160 : decode code 1160 = .ok (.aload_n 2, 1) := by decide +kernel
theorem dl_1161 : decode code 1161 = .ok (.aload_n 0, 1) := by decide +kernel
theorem dl_1162 : decode code 1162 = .ok (.iload 4, 2) := by decide +kernel
theorem dl_1164 : decode code 1164 = .ok (.iconst 1, 1) := by decide +kernel
theorem dl_1165 : decode code 1165 = .ok (.iadd, 1) := by decide +kernel
theorem dl_1166 : decode code 1166 = .ok (.iaload, 1) := by decide +kernel
theorem dl_1167 : decode code 1167 = .ok (.aload_n 0, 1) := by decide +kernel
theorem dl_1168 : decode code 1168 = .ok (.iload 4, 2) := by decide +kernel
theorem dl_1170 : decode code 1170 = .ok (.iconst 2, 1) := by decide +kernel
theorem dl_1171 : decode code 1171 = .ok (.iadd, 1) := by decide +kernel
theorem dl_1172 : decode code 1172 = .ok (.iaload, 1) := by decide +kernel
theorem dl_1173 : decode code 1173 = .ok (.aload_n 0, 1) := by decide +kernel
theorem dl_1174 : decode code 1174 = .ok (.iload 4, 2) := by decide +kernel
theorem dl_1176 : decode code 1176 = .ok (.iconst 3, 1) := by decide +kernel
theorem dl_1177 : decode code 1177 = .ok (.iadd, 1) := by decide +kernel
theorem dl_1178 : decode code 1178 = .ok (.iaload, 1) := by decide +kernel
theorem dl_1179 : decode code 1179 = .ok (.ifCond .eq 7, 3) := by decide +kernel
theorem dl_1182 : decode code 1182 = .ok (.iconst 1, 1) := by decide +kernel
theorem dl_1183 : decode code 1183 = .ok (.goto 4, 3) := by decide +kernel
theorem dl_1186 : decode code 1186 = .ok (.iconst 0, 1) := by decide +kernel
theorem dl_1187 : decode code 1187 = .ok (.invokevirtual 188, 3) := by decide +kernel
theorem dl_1190 : decode code 1190 = .ok (.istore 6, 2) := by decide +kernel
theorem dl_1192 : decode code 1192 = .ok (.aload_n 2, 1) := by decide +kernel
theorem dl_1193 : decode code 1193 = .ok (.invokevirtual 140, 3) := by decide +kernel
theorem dl_1196 : decode code 1196 = .ok (.iload 5, 2) := by decide +kernel
theorem dl_1198 : decode code 1198 = .ok (.if_icmp .eq 5, 3) := by decide +kernel
theorem dl_1203 : decode code 1203 = .ok (.iload 5, 2) := by decide +kernel
theorem dl_1205 : decode code 1205 = .ok (.ifCond .ne 22, 3) := by decide +kernel
theorem dl_1208 : decode code 1208 = .ok (.aload_n 3, 1) := by decide +kernel
theorem dl_1209 : decode code 1209 = .ok (.iconst 0, 1) := by decide +kernel
theorem dl_1210 : decode code 1210 = .ok (.laload, 1) := by decide +kernel
theorem dl_1211 : decode code 1211 = .ok (.iload 6, 2) := by decide +kernel
theorem dl_1213 : decode code 1213 = .ok (.ifCond .eq 7, 3) := by decide +kernel
theorem dl_1216 : decode code 1216 = .ok (.lconst 1, 1) := by decide +kernel
theorem dl_1217 : decode code 1217 = .ok (.goto 4, 3) := by decide +kernel
theorem dl_1220 : decode code 1220 = .ok (.lconst 0, 1) := by decide +kernel
theorem dl_1221 : decode code 1221 = .ok (.lcmp, 1) := by decide +kernel
theorem dl_1222 : decode code 1222 = .ok (.ifCond .eq 5, 3) := by decide +kernel
theorem dl_1227 : decode code 1227 = .ok (.goto 1299, 3) := by decide +kernel
theorem dl_1230 : decode code 1230 = .ok (.aload_n 1, 1) := by decide +kernel
theorem dl_1231 : decode code 1231 = .ok (.aload_n 0, 1) := by decide +kernel
theorem dl_1232 : decode code 1232 = .ok (.iload 4, 2) := by decide +kernel
theorem dl_1234 : decode code 1234 = .ok (.iconst 1, 1) := by decide +kernel
theorem dl_1235 : decode code 1235 = .ok (.iadd, 1) := by decide +kernel
theorem dl_1236 : decode code 1236 = .ok (.iaload, 1) := by decide +kernel
theorem dl_1237 : decode code 1237 = .ok (.aload_n 0, 1) := by decide +kernel
theorem dl_1238 : decode code 1238 = .ok (.iload 4, 2) := by decide +kernel
theorem dl_1240 : decode code 1240 = .ok (.iconst 2, 1) := by decide +kernel
theorem dl_1241 : decode code 1241 = .ok (.iadd, 1) := by decide +kernel
theorem dl_1242 : decode code 1242 = .ok (.iaload, 1) := by decide +kernel
theorem dl_1243 : decode code 1243 = .ok (.aload_n 3, 1) := by decide +kernel
theorem dl_1244 : decode code 1244 = .ok (.invokestatic 189, 3) := by decide +kernel
theorem dl_1247 : decode code 1247 = .ok (.istore 5, 2) := by decide +kernel
theorem dl_1249 : decode code 1249 = .ok (.aload_n 2, 1) := by decide +kernel
theorem dl_1250 : decode code 1250 = .ok (.aload_n 0, 1) := by decide +kernel
theorem dl_1251 : decode code 1251 = .ok (.iload 4, 2) := by decide +kernel
theorem dl_1253 : decode code 1253 = .ok (.iconst 1, 1) := by decide +kernel
theorem dl_1254 : decode code 1254 = .ok (.iadd, 1) := by decide +kernel
theorem dl_1255 : decode code 1255 = .ok (.iaload, 1) := by decide +kernel
theorem dl_1256 : decode code 1256 = .ok (.aload_n 0, 1) := by decide +kernel
theorem dl_1257 : decode code 1257 = .ok (.iload 4, 2) := by decide +kernel
theorem dl_1259 : decode code 1259 = .ok (.iconst 2, 1) := by decide +kernel
theorem dl_1260 : decode code 1260 = .ok (.iadd, 1) := by decide +kernel
theorem dl_1261 : decode code 1261 = .ok (.iaload, 1) := by decide +kernel
theorem dl_1262 : decode code 1262 = .ok (.invokevirtual 191, 3) := by decide +kernel
theorem dl_1265 : decode code 1265 = .ok (.istore 6, 2) := by decide +kernel
theorem dl_1267 : decode code 1267 = .ok (.aload_n 2, 1) := by decide +kernel
theorem dl_1268 : decode code 1268 = .ok (.invokevirtual 140, 3) := by decide +kernel
theorem dl_1271 : decode code 1271 = .ok (.iload 5, 2) := by decide +kernel
theorem dl_1273 : decode code 1273 = .ok (.if_icmp .eq 5, 3) := by decide +kernel
theorem dl_1278 : decode code 1278 = .ok (.iload 5, 2) := by decide +kernel
theorem dl_1280 : decode code 1280 = .ok (.ifCond .ne 15, 3) := by decide +kernel
theorem dl_1283 : decode code 1283 = .ok (.aload_n 3, 1) := by decide +kernel
theorem dl_1284 : decode code 1284 = .ok (.iconst 0, 1) := by decide +kernel
theorem dl_1285 : decode code 1285 = .ok (.laload, 1) := by decide +kernel
theorem dl_1286 : decode code 1286 = .ok (.iload 6, 2) := by decide +kernel
theorem dl_1288 : decode code 1288 = .ok (.i2l, 1) := by decide +kernel
theorem dl_1289 : decode code 1289 = .ok (.lcmp, 1) := by decide +kernel
theorem dl_1290 : decode code 1290 = .ok (.ifCond .eq 5, 3) := by decide +kernel
theorem dl_1295 : decode code 1295 = .ok (.goto 1231, 3) := by decide +kernel
theorem dl_1298 : decode code 1298 = .ok (.aload_n 1, 1) := by decide +kernel
theorem dl_1299 : decode code 1299 = .ok (.aload_n 0, 1) := by decide +kernel
theorem dl_1300 : decode code 1300 = .ok (.iload 4, 2) := by decide +kernel
theorem dl_1302 : decode code 1302 = .ok (.iconst 1, 1) := by decide +kernel
theorem dl_1303 : decode code 1303 = .ok (.iadd, 1) := by decide +kernel
theorem dl_1304 : decode code 1304 = .ok (.iaload, 1) := by decide +kernel
theorem dl_1305 : decode code 1305 = .ok (.aload_n 0, 1) := by decide +kernel
theorem dl_1306 : decode code 1306 = .ok (.iload 4, 2) := by decide +kernel
theorem dl_1308 : decode code 1308 = .ok (.iconst 2, 1) := by decide +kernel
theorem dl_1309 : decode code 1309 = .ok (.iadd, 1) := by decide +kernel
theorem dl_1310 : decode code 1310 = .ok (.iaload, 1) := by decide +kernel
theorem dl_1311 : decode code 1311 = .ok (.aload_n 3, 1) := by decide +kernel
theorem dl_1312 : decode code 1312 = .ok (.invokestatic 192, 3) := by decide +kernel
theorem dl_1315 : decode code 1315 = .ok (.istore 5, 2) := by decide +kernel
theorem dl_1317 : decode code 1317 = .ok (.aload_n 2, 1) := by decide +kernel
theorem dl_1318 : decode code 1318 = .ok (.aload_n 0, 1) := by decide +kernel
theorem dl_1319 : decode code 1319 = .ok (.iload 4, 2) := by decide +kernel
theorem dl_1321 : decode code 1321 = .ok (.iconst 1, 1) := by decide +kernel
theorem dl_1322 : decode code 1322 = .ok (.iadd, 1) := by decide +kernel
theorem dl_1323 : decode code 1323 = .ok (.iaload, 1) := by decide +kernel
theorem dl_1324 : decode code 1324 = .ok (.aload_n 0, 1) := by decide +kernel
theorem dl_1325 : decode code 1325 = .ok (.iload 4, 2) := by decide +kernel
theorem dl_1327 : decode code 1327 = .ok (.iconst 2, 1) := by decide +kernel
theorem dl_1328 : decode code 1328 = .ok (.iadd, 1) := by decide +kernel
theorem dl_1329 : decode code 1329 = .ok (.iaload, 1) := by decide +kernel
theorem dl_1330 : decode code 1330 = .ok (.invokevirtual 194, 3) := by decide +kernel
theorem dl_1333 : decode code 1333 = .ok (.istore 6, 2) := by decide +kernel
theorem dl_1335 : decode code 1335 = .ok (.aload_n 2, 1) := by decide +kernel
theorem dl_1336 : decode code 1336 = .ok (.invokevirtual 140, 3) := by decide +kernel
theorem dl_1339 : decode code 1339 = .ok (.iload 5, 2) := by decide +kernel
theorem dl_1341 : decode code 1341 = .ok (.if_icmp .eq 5, 3) := by decide +kernel
theorem dl_1346 : decode code 1346 = .ok (.iload 5, 2) := by decide +kernel
theorem dl_1348 : decode code 1348 = .ok (.ifCond .ne 15, 3) := by decide +kernel
theorem dl_1351 : decode code 1351 = .ok (.aload_n 3, 1) := by decide +kernel
theorem dl_1352 : decode code 1352 = .ok (.iconst 0, 1) := by decide +kernel
theorem dl_1353 : decode code 1353 = .ok (.laload, 1) := by decide +kernel
theorem dl_1354 : decode code 1354 = .ok (.iload 6, 2) := by decide +kernel
theorem dl_1356 : decode code 1356 = .ok (.i2l, 1) := by decide +kernel
theorem dl_1357 : decode code 1357 = .ok (.lcmp, 1) := by decide +kernel
theorem dl_1358 : decode code 1358 = .ok (.ifCond .eq 5, 3) := by decide +kernel
theorem dl_1363 : decode code 1363 = .ok (.goto 1163, 3) := by decide +kernel
theorem dl_1366 : decode code 1366 = .ok (.aload_n 1, 1) := by decide +kernel
theorem dl_1367 : decode code 1367 = .ok (.aload_n 0, 1) := by decide +kernel
theorem dl_1368 : decode code 1368 = .ok (.iload 4, 2) := by decide +kernel
theorem dl_1370 : decode code 1370 = .ok (.iconst 1, 1) := by decide +kernel
theorem dl_1371 : decode code 1371 = .ok (.iadd, 1) := by decide +kernel
theorem dl_1372 : decode code 1372 = .ok (.iaload, 1) := by decide +kernel
theorem dl_1373 : decode code 1373 = .ok (.aload_n 3, 1) := by decide +kernel
theorem dl_1374 : decode code 1374 = .ok (.invokestatic 195, 3) := by decide +kernel
theorem dl_1377 : decode code 1377 = .ok (.istore 5, 2) := by decide +kernel
theorem dl_1379 : decode code 1379 = .ok (.aload_n 2, 1) := by decide +kernel
theorem dl_1380 : decode code 1380 = .ok (.aload_n 0, 1) := by decide +kernel
theorem dl_1381 : decode code 1381 = .ok (.iload 4, 2) := by decide +kernel
theorem dl_1383 : decode code 1383 = .ok (.iconst 1, 1) := by decide +kernel
theorem dl_1384 : decode code 1384 = .ok (.iadd, 1) := by decide +kernel
theorem dl_1385 : decode code 1385 = .ok (.iaload, 1) := by decide +kernel
theorem dl_1386 : decode code 1386 = .ok (.invokevirtual 197, 3) := by decide +kernel
theorem dl_1389 : decode code 1389 = .ok (.istore 6, 2) := by decide +kernel
theorem dl_1391 : decode code 1391 = .ok (.aload_n 2, 1) := by decide +kernel
theorem dl_1392 : decode code 1392 = .ok (.invokevirtual 140, 3) := by decide +kernel
theorem dl_1395 : decode code 1395 = .ok (.iload 5, 2) := by decide +kernel
theorem dl_1397 : decode code 1397 = .ok (.if_icmp .eq 5, 3) := by decide +kernel
theorem dl_1402 : decode code 1402 = .ok (.iload 5, 2) := by decide +kernel
theorem dl_1404 : decode code 1404 = .ok (.ifCond .ne 15, 3) := by decide +kernel
theorem dl_1407 : decode code 1407 = .ok (.aload_n 3, 1) := by decide +kernel
theorem dl_1408 : decode code 1408 = .ok (.iconst 0, 1) := by decide +kernel
theorem dl_1409 : decode code 1409 = .ok (.laload, 1) := by decide +kernel
theorem dl_1410 : decode code 1410 = .ok (.iload 6, 2) := by decide +kernel
theorem dl_1412 : decode code 1412 = .ok (.i2l, 1) := by decide +kernel
theorem dl_1413 : decode code 1413 = .ok (.lcmp, 1) := by decide +kernel
theorem dl_1414 : decode code 1414 = .ok (.ifCond .eq 5, 3) := by decide +kernel
theorem dl_1419 : decode code 1419 = .ok (.goto 1107, 3) := by decide +kernel
theorem dl_1422 : decode code 1422 = .ok (.aload_n 1, 1) := by decide +kernel
theorem dl_1423 : decode code 1423 = .ok (.aload_n 0, 1) := by decide +kernel
theorem dl_1424 : decode code 1424 = .ok (.iload 4, 2) := by decide +kernel
theorem dl_1426 : decode code 1426 = .ok (.iconst 1, 1) := by decide +kernel
theorem dl_1427 : decode code 1427 = .ok (.iadd, 1) := by decide +kernel
theorem dl_1428 : decode code 1428 = .ok (.iaload, 1) := by decide +kernel
theorem dl_1429 : decode code 1429 = .ok (.aload_n 0, 1) := by decide +kernel
theorem dl_1430 : decode code 1430 = .ok (.iload 4, 2) := by decide +kernel
theorem dl_1432 : decode code 1432 = .ok (.iconst 2, 1) := by decide +kernel
theorem dl_1433 : decode code 1433 = .ok (.iadd, 1) := by decide +kernel
theorem dl_1434 : decode code 1434 = .ok (.iaload, 1) := by decide +kernel
theorem dl_1435 : decode code 1435 = .ok (.aload_n 3, 1) := by decide +kernel
theorem dl_1436 : decode code 1436 = .ok (.invokestatic 198, 3) := by decide +kernel
theorem dl_1439 : decode code 1439 = .ok (.istore 5, 2) := by decide +kernel
theorem dl_1441 : decode code 1441 = .ok (.aload_n 2, 1) := by decide +kernel
theorem dl_1442 : decode code 1442 = .ok (.aload_n 0, 1) := by decide +kernel
theorem dl_1443 : decode code 1443 = .ok (.iload 4, 2) := by decide +kernel
theorem dl_1445 : decode code 1445 = .ok (.iconst 1, 1) := by decide +kernel
theorem dl_1446 : decode code 1446 = .ok (.iadd, 1) := by decide +kernel
theorem dl_1447 : decode code 1447 = .ok (.iaload, 1) := by decide +kernel
theorem dl_1448 : decode code 1448 = .ok (.aload_n 0, 1) := by decide +kernel
theorem dl_1449 : decode code 1449 = .ok (.iload 4, 2) := by decide +kernel
theorem dl_1451 : decode code 1451 = .ok (.iconst 2, 1) := by decide +kernel
theorem dl_1452 : decode code 1452 = .ok (.iadd, 1) := by decide +kernel
theorem dl_1453 : decode code 1453 = .ok (.iaload, 1) := by decide +kernel
theorem dl_1454 : decode code 1454 = .ok (.invokevirtual 200, 3) := by decide +kernel
theorem dl_1457 : decode code 1457 = .ok (.istore 6, 2) := by decide +kernel
theorem dl_1459 : decode code 1459 = .ok (.aload_n 2, 1) := by decide +kernel
theorem dl_1460 : decode code 1460 = .ok (.invokevirtual 140, 3) := by decide +kernel
theorem dl_1463 : decode code 1463 = .ok (.iload 5, 2) := by decide +kernel
theorem dl_1465 : decode code 1465 = .ok (.if_icmp .eq 5, 3) := by decide +kernel
theorem dl_1470 : decode code 1470 = .ok (.iload 5, 2) := by decide +kernel
theorem dl_1472 : decode code 1472 = .ok (.ifCond .ne 22, 3) := by decide +kernel
theorem dl_1475 : decode code 1475 = .ok (.aload_n 3, 1) := by decide +kernel
theorem dl_1476 : decode code 1476 = .ok (.iconst 0, 1) := by decide +kernel
theorem dl_1477 : decode code 1477 = .ok (.laload, 1) := by decide +kernel
theorem dl_1478 : decode code 1478 = .ok (.iload 6, 2) := by decide +kernel
theorem dl_1480 : decode code 1480 = .ok (.ifCond .eq 7, 3) := by decide +kernel
theorem dl_1483 : decode code 1483 = .ok (.lconst 1, 1) := by decide +kernel
theorem dl_1484 : decode code 1484 = .ok (.goto 4, 3) := by decide +kernel
theorem dl_1487 : decode code 1487 = .ok (.lconst 0, 1) := by decide +kernel
theorem dl_1488 : decode code 1488 = .ok (.lcmp, 1) := by decide +kernel
theorem dl_1489 : decode code 1489 = .ok (.ifCond .eq 5, 3) := by decide +kernel
theorem dl_1494 : decode code 1494 = .ok (.goto 1032, 3) := by decide +kernel
theorem dl_1497 : decode code 1497 = .ok (.aload_n 1, 1) := by decide +kernel
theorem dl_1498 : decode code 1498 = .ok (.aload_n 0, 1) := by decide +kernel
theorem dl_1499 : decode code 1499 = .ok (.iload 4, 2) := by decide +kernel
theorem dl_1501 : decode code 1501 = .ok (.iconst 1, 1) := by decide +kernel
theorem dl_1502 : decode code 1502 = .ok (.iadd, 1) := by decide +kernel
theorem dl_1503 : decode code 1503 = .ok (.iaload, 1) := by decide +kernel
theorem dl_1504 : decode code 1504 = .ok (.invokevirtual 201, 3) := by decide +kernel
theorem dl_1507 : decode code 1507 = .ok (.aload_n 2, 1) := by decide +kernel
theorem dl_1508 : decode code 1508 = .ok (.aload_n 0, 1) := by decide +kernel
theorem dl_1509 : decode code 1509 = .ok (.iload 4, 2) := by decide +kernel
theorem dl_1511 : decode code 1511 = .ok (.iconst 1, 1) := by decide +kernel
theorem dl_1512 : decode code 1512 = .ok (.iadd, 1) := by decide +kernel
theorem dl_1513 : decode code 1513 = .ok (.iaload, 1) := by decide +kernel
theorem dl_1514 : decode code 1514 = .ok (.invokevirtual 204, 3) := by decide +kernel
theorem dl_1517 : decode code 1517 = .ok (.if_icmp .eq 1009, 3) := by decide +kernel
section LX
variable {p : Program} {l : Launch} {e : Env} {s : State} {m : MethodId} {below : List Frame} {meth : Method} {c0 : Code} {D : va_G} {cI cB cL : ClassId} {ka kv : Nat → Nat} {fv : Value} {b L x o i c : Nat} {xs : Nat → Int32} {am : Nat → Nat}
theorem lc_crash (LC : lawC l D cI cB cL ka kv fv p s m c0 meth b L xs) (hi : i + 5 < L) (hc : c < 512) (KE : lawAt l D cI cB cL p e s m below meth c0 b x o am i 2526 (c + 1)) : lawAt l D cI cB cL p e s m below meth c0 b x o am i 1091 c := by
  intro lay t μ f H locs ls hxx hI S hl
  subst hxx
  have LC' := LC
  obtain ⟨C, Kx, Np, hX, hbl, hst, hL⟩ := LC
  have hx := C.1
  have hb := C.2.1
  have hbA : ¬ (fun q => s.heap.size ≤ q) b := Nat.not_le.mpr hbl
  obtain ⟨μ', hm, mc, ms, g, g1, g2, g3, hop⟩ := op_crash (l := l) (D := D) (cI := cI) (cB := cB) (cL := cL) (ka := ka) (kv := kv) (fv := fv) hst hI (xs (i + 1))
  have hM := hop lay
  refine lv_aload_n hx hb dl_1091 rfl (lv_at hl 1 rfl) ?_
  refine g_arg (j := 1) hx hb hX hbl hbA S.2.2 hL (by omega) (lv_at hl 0 rfl) (lv_at hl 4 rfl) rfl dl_1092 dl_1093 dl_1095 dl_1096 dl_1097 ?_
  refine h_callSW (As := [.ref (lay.1 36), .int (xs (i + 1))]) (na := 2) C Kx Np (show st D (cw ((lpX cI cB lay t ++ []) ++ (oc cL o f ++ wM cI cB am μ))) (fun q => s.heap.size ≤ q) s z0 H locs by rw [List.append_nil]; exact g_assoc S) (wl_crash l D cI cB cL ka kv fv (lay.1 36) (xs (i + 1)) (lpX_obj cI cB lay t) hM (fun E X' h => by have h := h.1; simpa using h)) lw_9101 lw_9102 lth_6 lw_9103 hdL_crash ⟨Nat.le_of_ble_eq_true rfl, Nat.le_of_ble_eq_true rfl⟩ rfl hl.1 ⟨(by show _ ≤ 601024; omega), (by show _ ≤ 7293034; omega)⟩ (Nat.le_of_ble_eq_true rfl) dl_1098 rfl (fun k X' H locs hRW S => ?_)
  obtain ⟨lay', t', rfl, h36, ht, hI', hth⟩ : ∃ lay' t', X' = lpX cI cB lay' t' ∧ lay'.1 36 = lay.1 36 ∧ tot t' = tot t + g ∧ InvL (c + 1) t' μ' ∧ μ' 0 0 = k := by
    rcases hRW with ⟨rfl, X1, ⟨h0, lay', t', rfl, h1, h2, h3⟩, rfl⟩ | ⟨E, X1, ⟨hE, h0, lay', t', rfl, h1, h2, h3⟩, rfl, rfl⟩
    · exact ⟨lay', t', List.append_nil _, h1, h2, h3, h0⟩
    · exact ⟨lay', t', List.append_nil _, h1, h2, h3, by rw [(kcC E hE).1]; exact h0⟩
  refine W.widen (k := 1000 + 4 * (c + 1) + tot t') (n := 150000 + 24 * (c + 1) + 2 * tot t') (by omega) (by omega) ?_
  have S := g_comm (g_assoc' S)
  refine lv_istore (lv' := [(5, .int k), (0, .ref b), (1, .ref (lay.1 36)), (2, .ref (am 0)), (3, .ref o), (4, .int (nI i))]) hx hb dl_1101 hl (by decide) rfl (fun ls hl => ?_)
  refine lv_aload_n hx hb dl_1103 rfl (lv_at hl 3 rfl) ?_
  refine g_arg (j := 1) hx hb hX hbl hbA S.2.2 hL (by omega) (lv_at hl 1 rfl) (lv_at hl 5 rfl) rfl dl_1104 dl_1105 dl_1107 dl_1108 dl_1109 ?_
  refine h_callVv (As := [.int (xs (i + 1))]) (na := 1) C Kx S (wM_obj cI cB am μ) rfl ((ct_X12_crash l D cI cB cL am (xs (i + 1)) μ hm).toH) lw_9104 lw_9105 lw_9106 mw_5 lw_9107 hdX12_crash ⟨Nat.le_of_ble_eq_true rfl, Nat.le_of_ble_eq_true rfl⟩ rfl hl.1 ⟨(by show _ ≤ 601024; omega), (by show _ ≤ 7293034; omega)⟩ (Nat.le_of_ble_eq_true rfl) dl_1110 rfl (fun X' H locs hRI S => ?_)
  subst hRI
  have ht2 := hbd _ _ _ hI'
  refine law_thr LC' hth hl (n2 := 3) rfl (n5 := 0) rfl S (by omega) (by omega) dl_1113 dl_1114 dl_1117 dl_1119 (fun H locs S => ?_)
  refine lv_goto (tgt := 2526) hx hb dl_1124 (by decide) ?_
  exact KE lay' t' μ' f H locs ls h36 hI' S (lv_sub hl [1, 2, 3, 4, 5] rfl)
theorem lc_hold (LC : lawC l D cI cB cL ka kv fv p s m c0 meth b L xs) (hi : i + 5 < L) (hc : c < 512) (KE : lawAt l D cI cB cL p e s m below meth c0 b x o am i 2526 (c + 1)) : lawAt l D cI cB cL p e s m below meth c0 b x o am i 1127 c := by
  intro lay t μ f H locs ls hxx hI S hl
  subst hxx
  have LC' := LC
  obtain ⟨C, Kx, Np, hX, hbl, hst, hL⟩ := LC
  have hx := C.1
  have hb := C.2.1
  have hbA : ¬ (fun q => s.heap.size ≤ q) b := Nat.not_le.mpr hbl
  obtain ⟨r, μ', hm, mc, ms, g, g1, g2, g3, hop⟩ := op_hold (l := l) (D := D) (cI := cI) (cB := cB) (cL := cL) (ka := ka) (kv := kv) (fv := fv) hst hI (xs (i + 1)) (xs (i + 2)) (if xs (i + 3) = 0 then nI 0 else nI 1) (by split; exact Or.inl rfl; exact Or.inr rfl)
  have hM := hop lay
  refine lv_aload_n hx hb dl_1127 rfl (lv_at hl 1 rfl) ?_
  refine g_arg (j := 1) hx hb hX hbl hbA S.2.2 hL (by omega) (lv_at hl 0 rfl) (lv_at hl 4 rfl) rfl dl_1128 dl_1129 dl_1131 dl_1132 dl_1133 ?_
  refine g_arg (j := 2) hx hb hX hbl hbA S.2.2 hL (by omega) (lv_at hl 0 rfl) (lv_at hl 4 rfl) rfl dl_1134 dl_1135 dl_1137 dl_1138 dl_1139 ?_
  refine g_arg (j := 3) hx hb hX hbl hbA S.2.2 hL (by omega) (lv_at hl 0 rfl) (lv_at hl 4 rfl) rfl dl_1140 dl_1141 dl_1143 dl_1144 dl_1145 ?_
  refine g_bool hx hb dl_1146 dl_1149 dl_1150 dl_1153 ?_
  refine lv_aload_n hx hb dl_1154 rfl (lv_at hl 3 rfl) ?_
  refine h_callSW (As := [.ref (lay.1 36), .int (xs (i + 1)), .int (xs (i + 2)), .int (if xs (i + 3) = 0 then nI 0 else nI 1), .ref o]) (na := 5) C Kx Np S (wl_hold l D cI cB cL ka kv fv (lay.1 36) o f (xs (i + 1)) (xs (i + 2)) (if xs (i + 3) = 0 then nI 0 else nI 1) (lpX_obj cI cB lay t) hM (fun E X' h => by have h := h.1; simpa using h)) lw_9108 lw_9109 lth_6 lw_9110 hdL_hold ⟨Nat.le_of_ble_eq_true rfl, Nat.le_of_ble_eq_true rfl⟩ rfl hl.1 ⟨(by show _ ≤ 601024; omega), (by show _ ≤ 7293034; omega)⟩ (Nat.le_of_ble_eq_true rfl) dl_1155 rfl (fun k X' H locs hRW S => ?_)
  obtain ⟨lay', t', g', rfl, h36, ht, hI', hth, hg⟩ := rW_key hRW kcA
  refine W.widen (k := 1000 + 4 * (c + 1) + tot t') (n := 150000 + 24 * (c + 1) + 2 * tot t') (by omega) (by omega) ?_
  have S := g_comm S
  refine lv_istore (lv' := [(5, .int k), (0, .ref b), (1, .ref (lay.1 36)), (2, .ref (am 0)), (3, .ref o), (4, .int (nI i))]) hx hb dl_1158 hl (by decide) rfl (fun ls hl => ?_)
  refine lv_aload_n hx hb dl_1160 rfl (lv_at hl 3 rfl) ?_
  refine g_arg (j := 1) hx hb hX hbl hbA S.2.2 hL (by omega) (lv_at hl 1 rfl) (lv_at hl 5 rfl) rfl dl_1161 dl_1162 dl_1164 dl_1165 dl_1166 ?_
  refine g_arg (j := 2) hx hb hX hbl hbA S.2.2 hL (by omega) (lv_at hl 1 rfl) (lv_at hl 5 rfl) rfl dl_1167 dl_1168 dl_1170 dl_1171 dl_1172 ?_
  refine g_arg (j := 3) hx hb hX hbl hbA S.2.2 hL (by omega) (lv_at hl 1 rfl) (lv_at hl 5 rfl) rfl dl_1173 dl_1174 dl_1176 dl_1177 dl_1178 ?_
  refine g_bool hx hb dl_1179 dl_1182 dl_1183 dl_1186 ?_
  refine h_callVi (As := [.int (xs (i + 1)), .int (xs (i + 2)), .int (if xs (i + 3) = 0 then nI 0 else nI 1)]) (na := 3) C Kx S (wM_obj cI cB am μ) rfl ((ct_X12_hold l D cI cB cL am (xs (i + 1)) (xs (i + 2)) (if xs (i + 3) = 0 then nI 0 else nI 1) μ hm).toH) lw_9111 lw_9112 lw_9113 mw_5 lw_9114 hdX12_hold ⟨Nat.le_of_ble_eq_true rfl, Nat.le_of_ble_eq_true rfl⟩ rfl hl.1 ⟨(by show _ ≤ 601024; omega), (by show _ ≤ 7293034; omega)⟩ (Nat.le_of_ble_eq_true rfl) dl_1187 rfl (fun r2 X' H locs hRI S => ?_)
  obtain ⟨rfl, rfl⟩ := hRI
  exact law_tailZ LC' hc KE h36 hI' hth hg hl S dl_1190 dl_1192 dl_1193 dl_1196 dl_1198 dl_1203 dl_1205 dl_1208 dl_1209 dl_1210 dl_1211 dl_1213 dl_1216 dl_1217 dl_1220 dl_1221 dl_1222 dl_1227 (by decide)
theorem lc_due (LC : lawC l D cI cB cL ka kv fv p s m c0 meth b L xs) (hi : i + 5 < L) (hc : c < 512) (KE : lawAt l D cI cB cL p e s m below meth c0 b x o am i 2526 (c + 1)) : lawAt l D cI cB cL p e s m below meth c0 b x o am i 1230 c := by
  intro lay t μ f H locs ls hxx hI S hl
  subst hxx
  have LC' := LC
  obtain ⟨C, Kx, Np, hX, hbl, hst, hL⟩ := LC
  have hx := C.1
  have hb := C.2.1
  have hbA : ¬ (fun q => s.heap.size ≤ q) b := Nat.not_le.mpr hbl
  obtain ⟨r, μ', hm, mc, ms, g, g1, g2, g3, hop⟩ := op_due (l := l) (D := D) (cI := cI) (cB := cB) (cL := cL) (ka := ka) (kv := kv) (fv := fv) hst hI (by omega) (xs (i + 1)) (xs (i + 2))
  have hM := hop lay
  refine lv_aload_n hx hb dl_1230 rfl (lv_at hl 1 rfl) ?_
  refine g_arg (j := 1) hx hb hX hbl hbA S.2.2 hL (by omega) (lv_at hl 0 rfl) (lv_at hl 4 rfl) rfl dl_1231 dl_1232 dl_1234 dl_1235 dl_1236 ?_
  refine g_arg (j := 2) hx hb hX hbl hbA S.2.2 hL (by omega) (lv_at hl 0 rfl) (lv_at hl 4 rfl) rfl dl_1237 dl_1238 dl_1240 dl_1241 dl_1242 ?_
  refine lv_aload_n hx hb dl_1243 rfl (lv_at hl 3 rfl) ?_
  refine h_callSW (As := [.ref (lay.1 36), .int (xs (i + 1)), .int (xs (i + 2)), .ref o]) (na := 4) C Kx Np S (wl_due l D cI cB cL ka kv fv (lay.1 36) o f (xs (i + 1)) (xs (i + 2)) (lpX_obj cI cB lay t) hM (fun E X' h => by have h := h.1; simpa using h)) lw_9115 lw_9116 lth_6 lw_9117 hdL_due ⟨Nat.le_of_ble_eq_true rfl, Nat.le_of_ble_eq_true rfl⟩ rfl hl.1 ⟨(by show _ ≤ 601024; omega), (by show _ ≤ 7293034; omega)⟩ (Nat.le_of_ble_eq_true rfl) dl_1244 rfl (fun k X' H locs hRW S => ?_)
  obtain ⟨lay', t', g', rfl, h36, ht, hI', hth, hg⟩ := rW_key hRW kcA
  refine W.widen (k := 1000 + 4 * (c + 1) + tot t') (n := 150000 + 24 * (c + 1) + 2 * tot t') (by omega) (by omega) ?_
  have S := g_comm S
  refine lv_istore (lv' := [(5, .int k), (0, .ref b), (1, .ref (lay.1 36)), (2, .ref (am 0)), (3, .ref o), (4, .int (nI i))]) hx hb dl_1247 hl (by decide) rfl (fun ls hl => ?_)
  refine lv_aload_n hx hb dl_1249 rfl (lv_at hl 3 rfl) ?_
  refine g_arg (j := 1) hx hb hX hbl hbA S.2.2 hL (by omega) (lv_at hl 1 rfl) (lv_at hl 5 rfl) rfl dl_1250 dl_1251 dl_1253 dl_1254 dl_1255 ?_
  refine g_arg (j := 2) hx hb hX hbl hbA S.2.2 hL (by omega) (lv_at hl 1 rfl) (lv_at hl 5 rfl) rfl dl_1256 dl_1257 dl_1259 dl_1260 dl_1261 ?_
  refine h_callVi (As := [.int (xs (i + 1)), .int (xs (i + 2))]) (na := 2) C Kx S (wM_obj cI cB am μ) rfl ((ct_X12_due l D cI cB cL am (xs (i + 1)) (xs (i + 2)) μ hm).toH) lw_9118 lw_9119 lw_9120 mw_5 lw_9121 hdX12_due ⟨Nat.le_of_ble_eq_true rfl, Nat.le_of_ble_eq_true rfl⟩ rfl hl.1 ⟨(by show _ ≤ 601024; omega), (by show _ ≤ 7293034; omega)⟩ (Nat.le_of_ble_eq_true rfl) dl_1262 rfl (fun r2 X' H locs hRI S => ?_)
  obtain ⟨rfl, rfl⟩ := hRI
  exact law_tail LC' hc KE h36 hI' hth hg hl S dl_1265 dl_1267 dl_1268 dl_1271 dl_1273 dl_1278 dl_1280 dl_1283 dl_1284 dl_1285 dl_1286 dl_1288 dl_1289 dl_1290 dl_1295 (by decide)
theorem lc_block (LC : lawC l D cI cB cL ka kv fv p s m c0 meth b L xs) (hi : i + 5 < L) (hc : c < 512) (KE : lawAt l D cI cB cL p e s m below meth c0 b x o am i 2526 (c + 1)) : lawAt l D cI cB cL p e s m below meth c0 b x o am i 1298 c := by
  intro lay t μ f H locs ls hxx hI S hl
  subst hxx
  have LC' := LC
  obtain ⟨C, Kx, Np, hX, hbl, hst, hL⟩ := LC
  have hx := C.1
  have hb := C.2.1
  have hbA : ¬ (fun q => s.heap.size ≤ q) b := Nat.not_le.mpr hbl
  obtain ⟨r, μ', hm, mc, ms, g, g1, g2, g3, hop⟩ := op_block (l := l) (D := D) (cI := cI) (cB := cB) (cL := cL) (ka := ka) (kv := kv) (fv := fv) hst hI (xs (i + 1)) (xs (i + 2))
  have hM := hop lay
  refine lv_aload_n hx hb dl_1298 rfl (lv_at hl 1 rfl) ?_
  refine g_arg (j := 1) hx hb hX hbl hbA S.2.2 hL (by omega) (lv_at hl 0 rfl) (lv_at hl 4 rfl) rfl dl_1299 dl_1300 dl_1302 dl_1303 dl_1304 ?_
  refine g_arg (j := 2) hx hb hX hbl hbA S.2.2 hL (by omega) (lv_at hl 0 rfl) (lv_at hl 4 rfl) rfl dl_1305 dl_1306 dl_1308 dl_1309 dl_1310 ?_
  refine lv_aload_n hx hb dl_1311 rfl (lv_at hl 3 rfl) ?_
  refine h_callSW (As := [.ref (lay.1 36), .int (xs (i + 1)), .int (xs (i + 2)), .ref o]) (na := 4) C Kx Np S (wl_block l D cI cB cL ka kv fv (lay.1 36) o f (xs (i + 1)) (xs (i + 2)) (lpX_obj cI cB lay t) hM (fun E X' h => by have h := h.1; simpa using h)) lw_9122 lw_9123 lth_6 lw_9124 hdL_block ⟨Nat.le_of_ble_eq_true rfl, Nat.le_of_ble_eq_true rfl⟩ rfl hl.1 ⟨(by show _ ≤ 601024; omega), (by show _ ≤ 7293034; omega)⟩ (Nat.le_of_ble_eq_true rfl) dl_1312 rfl (fun k X' H locs hRW S => ?_)
  obtain ⟨lay', t', g', rfl, h36, ht, hI', hth, hg⟩ := rW_key hRW kcA
  refine W.widen (k := 1000 + 4 * (c + 1) + tot t') (n := 150000 + 24 * (c + 1) + 2 * tot t') (by omega) (by omega) ?_
  have S := g_comm S
  refine lv_istore (lv' := [(5, .int k), (0, .ref b), (1, .ref (lay.1 36)), (2, .ref (am 0)), (3, .ref o), (4, .int (nI i))]) hx hb dl_1315 hl (by decide) rfl (fun ls hl => ?_)
  refine lv_aload_n hx hb dl_1317 rfl (lv_at hl 3 rfl) ?_
  refine g_arg (j := 1) hx hb hX hbl hbA S.2.2 hL (by omega) (lv_at hl 1 rfl) (lv_at hl 5 rfl) rfl dl_1318 dl_1319 dl_1321 dl_1322 dl_1323 ?_
  refine g_arg (j := 2) hx hb hX hbl hbA S.2.2 hL (by omega) (lv_at hl 1 rfl) (lv_at hl 5 rfl) rfl dl_1324 dl_1325 dl_1327 dl_1328 dl_1329 ?_
  refine h_callVi (As := [.int (xs (i + 1)), .int (xs (i + 2))]) (na := 2) C Kx S (wM_obj cI cB am μ) rfl ((ct_X12_block l D cI cB cL am (xs (i + 1)) (xs (i + 2)) μ hm).toH) lw_9125 lw_9126 lw_9127 mw_5 lw_9128 hdX12_block ⟨Nat.le_of_ble_eq_true rfl, Nat.le_of_ble_eq_true rfl⟩ rfl hl.1 ⟨(by show _ ≤ 601024; omega), (by show _ ≤ 7293034; omega)⟩ (Nat.le_of_ble_eq_true rfl) dl_1330 rfl (fun r2 X' H locs hRI S => ?_)
  obtain ⟨rfl, rfl⟩ := hRI
  exact law_tail LC' hc KE h36 hI' hth hg hl S dl_1333 dl_1335 dl_1336 dl_1339 dl_1341 dl_1346 dl_1348 dl_1351 dl_1352 dl_1353 dl_1354 dl_1356 dl_1357 dl_1358 dl_1363 (by decide)
theorem lc_waits (LC : lawC l D cI cB cL ka kv fv p s m c0 meth b L xs) (hi : i + 5 < L) (hc : c < 512) (KE : lawAt l D cI cB cL p e s m below meth c0 b x o am i 2526 (c + 1)) : lawAt l D cI cB cL p e s m below meth c0 b x o am i 1366 c := by
  intro lay t μ f H locs ls hxx hI S hl
  subst hxx
  have LC' := LC
  obtain ⟨C, Kx, Np, hX, hbl, hst, hL⟩ := LC
  have hx := C.1
  have hb := C.2.1
  have hbA : ¬ (fun q => s.heap.size ≤ q) b := Nat.not_le.mpr hbl
  obtain ⟨r, μ', hm, mc, ms, g, g1, g2, g3, hop⟩ := op_waits (l := l) (D := D) (cI := cI) (cB := cB) (cL := cL) (ka := ka) (kv := kv) (fv := fv) hst hI (xs (i + 1))
  have hM := hop lay
  refine lv_aload_n hx hb dl_1366 rfl (lv_at hl 1 rfl) ?_
  refine g_arg (j := 1) hx hb hX hbl hbA S.2.2 hL (by omega) (lv_at hl 0 rfl) (lv_at hl 4 rfl) rfl dl_1367 dl_1368 dl_1370 dl_1371 dl_1372 ?_
  refine lv_aload_n hx hb dl_1373 rfl (lv_at hl 3 rfl) ?_
  refine h_callSW (As := [.ref (lay.1 36), .int (xs (i + 1)), .ref o]) (na := 3) C Kx Np S (wl_waits l D cI cB cL ka kv fv (lay.1 36) o f (xs (i + 1)) (lpX_obj cI cB lay t) hM (fun E X' h => by have h := h.1; simpa using h)) lw_9129 lw_9130 lth_6 lw_9131 hdL_waits ⟨Nat.le_of_ble_eq_true rfl, Nat.le_of_ble_eq_true rfl⟩ rfl hl.1 ⟨(by show _ ≤ 601024; omega), (by show _ ≤ 7293034; omega)⟩ (Nat.le_of_ble_eq_true rfl) dl_1374 rfl (fun k X' H locs hRW S => ?_)
  obtain ⟨lay', t', g', rfl, h36, ht, hI', hth, hg⟩ := rW_key hRW kcA
  refine W.widen (k := 1000 + 4 * (c + 1) + tot t') (n := 150000 + 24 * (c + 1) + 2 * tot t') (by omega) (by omega) ?_
  have S := g_comm S
  refine lv_istore (lv' := [(5, .int k), (0, .ref b), (1, .ref (lay.1 36)), (2, .ref (am 0)), (3, .ref o), (4, .int (nI i))]) hx hb dl_1377 hl (by decide) rfl (fun ls hl => ?_)
  refine lv_aload_n hx hb dl_1379 rfl (lv_at hl 3 rfl) ?_
  refine g_arg (j := 1) hx hb hX hbl hbA S.2.2 hL (by omega) (lv_at hl 1 rfl) (lv_at hl 5 rfl) rfl dl_1380 dl_1381 dl_1383 dl_1384 dl_1385 ?_
  refine h_callVi (As := [.int (xs (i + 1))]) (na := 1) C Kx S (wM_obj cI cB am μ) rfl ((ct_X12_waits l D cI cB cL am (xs (i + 1)) μ hm).toH) lw_9132 lw_9133 lw_9134 mw_5 lw_9135 hdX12_waits ⟨Nat.le_of_ble_eq_true rfl, Nat.le_of_ble_eq_true rfl⟩ rfl hl.1 ⟨(by show _ ≤ 601024; omega), (by show _ ≤ 7293034; omega)⟩ (Nat.le_of_ble_eq_true rfl) dl_1386 rfl (fun r2 X' H locs hRI S => ?_)
  obtain ⟨rfl, rfl⟩ := hRI
  exact law_tail LC' hc KE h36 hI' hth hg hl S dl_1389 dl_1391 dl_1392 dl_1395 dl_1397 dl_1402 dl_1404 dl_1407 dl_1408 dl_1409 dl_1410 dl_1412 dl_1413 dl_1414 dl_1419 (by decide)
theorem lc_ahead (LC : lawC l D cI cB cL ka kv fv p s m c0 meth b L xs) (hi : i + 5 < L) (hc : c < 512) (KE : lawAt l D cI cB cL p e s m below meth c0 b x o am i 2526 (c + 1)) : lawAt l D cI cB cL p e s m below meth c0 b x o am i 1422 c := by
  intro lay t μ f H locs ls hxx hI S hl
  subst hxx
  have LC' := LC
  obtain ⟨C, Kx, Np, hX, hbl, hst, hL⟩ := LC
  have hx := C.1
  have hb := C.2.1
  have hbA : ¬ (fun q => s.heap.size ≤ q) b := Nat.not_le.mpr hbl
  obtain ⟨r, μ', hm, mc, ms, g, g1, g2, g3, hop⟩ := op_ahead (l := l) (D := D) (cI := cI) (cB := cB) (cL := cL) (ka := ka) (kv := kv) (fv := fv) hst hI (xs (i + 1)) (xs (i + 2))
  have hM := hop lay
  refine lv_aload_n hx hb dl_1422 rfl (lv_at hl 1 rfl) ?_
  refine g_arg (j := 1) hx hb hX hbl hbA S.2.2 hL (by omega) (lv_at hl 0 rfl) (lv_at hl 4 rfl) rfl dl_1423 dl_1424 dl_1426 dl_1427 dl_1428 ?_
  refine g_arg (j := 2) hx hb hX hbl hbA S.2.2 hL (by omega) (lv_at hl 0 rfl) (lv_at hl 4 rfl) rfl dl_1429 dl_1430 dl_1432 dl_1433 dl_1434 ?_
  refine lv_aload_n hx hb dl_1435 rfl (lv_at hl 3 rfl) ?_
  refine h_callSW (As := [.ref (lay.1 36), .int (xs (i + 1)), .int (xs (i + 2)), .ref o]) (na := 4) C Kx Np S (wl_ahead l D cI cB cL ka kv fv (lay.1 36) o f (xs (i + 1)) (xs (i + 2)) (lpX_obj cI cB lay t) hM (fun E X' h => by have h := h.1; simpa using h)) lw_9136 lw_9137 lth_6 lw_9138 hdL_ahead ⟨Nat.le_of_ble_eq_true rfl, Nat.le_of_ble_eq_true rfl⟩ rfl hl.1 ⟨(by show _ ≤ 601024; omega), (by show _ ≤ 7293034; omega)⟩ (Nat.le_of_ble_eq_true rfl) dl_1436 rfl (fun k X' H locs hRW S => ?_)
  obtain ⟨lay', t', g', rfl, h36, ht, hI', hth, hg⟩ := rW_key hRW kcD
  refine W.widen (k := 1000 + 4 * (c + 1) + tot t') (n := 150000 + 24 * (c + 1) + 2 * tot t') (by omega) (by omega) ?_
  have S := g_comm S
  refine lv_istore (lv' := [(5, .int k), (0, .ref b), (1, .ref (lay.1 36)), (2, .ref (am 0)), (3, .ref o), (4, .int (nI i))]) hx hb dl_1439 hl (by decide) rfl (fun ls hl => ?_)
  refine lv_aload_n hx hb dl_1441 rfl (lv_at hl 3 rfl) ?_
  refine g_arg (j := 1) hx hb hX hbl hbA S.2.2 hL (by omega) (lv_at hl 1 rfl) (lv_at hl 5 rfl) rfl dl_1442 dl_1443 dl_1445 dl_1446 dl_1447 ?_
  refine g_arg (j := 2) hx hb hX hbl hbA S.2.2 hL (by omega) (lv_at hl 1 rfl) (lv_at hl 5 rfl) rfl dl_1448 dl_1449 dl_1451 dl_1452 dl_1453 ?_
  refine h_callVi (As := [.int (xs (i + 1)), .int (xs (i + 2))]) (na := 2) C Kx S (wM_obj cI cB am μ) rfl ((ct_X12_ahead l D cI cB cL am (xs (i + 1)) (xs (i + 2)) μ hm).toH) lw_9139 lw_9140 lw_9141 mw_5 lw_9142 hdX12_ahead ⟨Nat.le_of_ble_eq_true rfl, Nat.le_of_ble_eq_true rfl⟩ rfl hl.1 ⟨(by show _ ≤ 601024; omega), (by show _ ≤ 7293034; omega)⟩ (Nat.le_of_ble_eq_true rfl) dl_1454 rfl (fun r2 X' H locs hRI S => ?_)
  obtain ⟨rfl, rfl⟩ := hRI
  exact law_tailZ LC' hc KE h36 hI' hth hg hl S dl_1457 dl_1459 dl_1460 dl_1463 dl_1465 dl_1470 dl_1472 dl_1475 dl_1476 dl_1477 dl_1478 dl_1480 dl_1483 dl_1484 dl_1487 dl_1488 dl_1489 dl_1494 (by decide)
theorem lc_line (LC : lawC l D cI cB cL ka kv fv p s m c0 meth b L xs) (hi : i + 5 < L) (hc : c < 512) (KE : lawAt l D cI cB cL p e s m below meth c0 b x o am i 2526 (c + 1)) : lawAt l D cI cB cL p e s m below meth c0 b x o am i 1497 c := by
  intro lay t μ f H locs ls hxx hI S hl
  subst hxx
  have LC' := LC
  obtain ⟨C, Kx, Np, hX, hbl, hst, hL⟩ := LC
  have hx := C.1
  have hb := C.2.1
  have hbA : ¬ (fun q => s.heap.size ≤ q) b := Nat.not_le.mpr hbl
  obtain ⟨r, μ', hm, mc, ms, g, g1, g2, g3, hop⟩ := op_line (l := l) (D := D) (cI := cI) (cB := cB) (cL := cL) (ka := ka) (kv := kv) (fv := fv) hst hI (xs (i + 1))
  have hM := hop lay
  refine lv_aload_n hx hb dl_1497 rfl (lv_at hl 1 rfl) ?_
  refine g_arg (j := 1) hx hb hX hbl hbA S.2.2 hL (by omega) (lv_at hl 0 rfl) (lv_at hl 4 rfl) rfl dl_1498 dl_1499 dl_1501 dl_1502 dl_1503 ?_
  refine g_callVi (As := [.int (xs (i + 1))]) (na := 1) C Kx (g_assoc S) (lpX_obj cI cB lay t) rfl hM lw_9143 lw_9144 lw_9145 mw_321 lw_9146 hdX11_line ⟨Nat.le_of_ble_eq_true rfl, Nat.le_of_ble_eq_true rfl⟩ rfl hl.1 ⟨(by show _ ≤ 601024; omega), (by show _ ≤ 7293034; omega)⟩ (Nat.le_of_ble_eq_true rfl) dl_1504 rfl (fun E X' ce q9 H locs hRX _ _ _ _ => absurd hRX.1 List.not_mem_nil) (fun r1 X' H locs hRI S => ?_)
  obtain ⟨rfl, hth, lay', t', rfl, h36, ht, hI'⟩ := hRI
  refine W.widen (k := 1000 + 4 * (c + 1) + tot t') (n := 150000 + 24 * (c + 1) + 2 * tot t') (by omega) (by omega) ?_
  have S := g_comm (g_assoc' S)
  refine lv_aload_n hx hb dl_1507 rfl (lv_at hl 2 rfl) ?_
  refine g_arg (j := 1) hx hb hX hbl hbA S.2.2 hL (by omega) (lv_at hl 0 rfl) (lv_at hl 4 rfl) rfl dl_1508 dl_1509 dl_1511 dl_1512 dl_1513 ?_
  refine h_callVi (As := [.int (xs (i + 1))]) (na := 1) C Kx S (wM_obj cI cB am μ) rfl ((ct_X12_line l D cI cB cL am (xs (i + 1)) μ hm).toH) lw_9147 lw_9148 lw_9149 mw_5 lw_9150 hdX12_line ⟨Nat.le_of_ble_eq_true rfl, Nat.le_of_ble_eq_true rfl⟩ rfl hl.1 ⟨(by show _ ≤ 601024; omega), (by show _ ≤ 7293034; omega)⟩ (Nat.le_of_ble_eq_true rfl) dl_1514 rfl (fun r2 X' H locs hRI S => ?_)
  obtain ⟨rfl, rfl⟩ := hRI
  have S := g_comm S
  refine lv_icmp_eq (tgt := 2526) hx hb dl_1517 (by decide) (fun _ => ?_) (fun h => absurd rfl h)
  exact KE lay' t' μ' f H locs ls h36 hI' S hl
end LX
