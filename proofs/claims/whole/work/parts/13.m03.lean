theorem mw_160 : Cond.code yX12_isHeir cX12_isHeir 5 (some .boolean) ∈ gw := gw_t7 171 rfl rfl
theorem mw_161 : Cond.instanceMethod yX12_isHeir ∈ gw := gw_t7 170 rfl rfl
theorem mw_162 : Cond.methodLink RX12 248 yX12_isHeir ∈ gw := gw_t7 168 rfl rfl
theorem mw_163 : Cond.selects RX12 yX12_isHeir yX12_isHeir ∈ gw := gw_pv (n := 18) (List.mem_of_getElem? (i := 71) rfl)
theorem mw_164 : Cond.code yX12_isFull cX12_isFull 5 (some .boolean) ∈ gw := gw_t7 175 rfl rfl
theorem mw_165 : Cond.instanceMethod yX12_isFull ∈ gw := gw_t7 174 rfl rfl
theorem mw_166 : Cond.methodLink RX12 251 yX12_isFull ∈ gw := gw_t7 172 rfl rfl
theorem mw_167 : Cond.selects RX12 yX12_isFull yX12_isFull ∈ gw := gw_pv (n := 18) (List.mem_of_getElem? (i := 72) rfl)
theorem mw_168 : Cond.code yX12_isFinal cX12_isFinal 6 none ∈ gw := gw_t7 179 rfl rfl
theorem mw_169 : Cond.instanceMethod yX12_isFinal ∈ gw := gw_t7 178 rfl rfl
theorem mw_170 : Cond.methodLink RX12 254 yX12_isFinal ∈ gw := gw_t7 176 rfl rfl
theorem mw_171 : Cond.selects RX12 yX12_isFinal yX12_isFinal ∈ gw := gw_pv (n := 18) (List.mem_of_getElem? (i := 73) rfl)
theorem mw_172 : Cond.code yX12_isAhead cX12_isAhead 5 (some .boolean) ∈ gw := gw_t7 191 rfl rfl
theorem mw_173 : Cond.instanceMethod yX12_isAhead ∈ gw := gw_t7 190 rfl rfl
theorem mw_174 : Cond.methodLink RX12 257 yX12_isAhead ∈ gw := gw_t7 188 rfl rfl
theorem mw_175 : Cond.selects RX12 yX12_isAhead yX12_isAhead ∈ gw := gw_pv (n := 18) (List.mem_of_getElem? (i := 76) rfl)
theorem mw_176 : Cond.code yX12_leastOf cX12_leastOf 4 (some .int) ∈ gw := gw_t7 187 rfl rfl
theorem mw_177 : Cond.instanceMethod yX12_leastOf ∈ gw := gw_t7 186 rfl rfl
theorem mw_178 : Cond.methodLink RX12 260 yX12_leastOf ∈ gw := gw_t7 184 rfl rfl
theorem mw_179 : Cond.selects RX12 yX12_leastOf yX12_leastOf ∈ gw := gw_pv (n := 18) (List.mem_of_getElem? (i := 75) rfl)
theorem mw_180 : Cond.code yX12_isSent cX12_isSent 5 (some .int) ∈ gw := gw_t7 77 rfl rfl
theorem mw_181 : Cond.instanceMethod yX12_isSent ∈ gw := gw_t7 76 rfl rfl
theorem mw_182 : Cond.methodLink RX12 268 yX12_isSent ∈ gw := gw_t7 74 rfl rfl
theorem mw_183 : Cond.selects RX12 yX12_isSent yX12_isSent ∈ gw := gw_pv (n := 18) (List.mem_of_getElem? (i := 51) rfl)
theorem mw_184 : Cond.code yX12_isDown cX12_isDown 2 none ∈ gw := gw_t7 65 rfl rfl
theorem mw_185 : Cond.instanceMethod yX12_isDown ∈ gw := gw_t7 64 rfl rfl
theorem mw_186 : Cond.methodLink RX12 264 yX12_isDown ∈ gw := gw_t7 62 rfl rfl
theorem mw_187 : Cond.selects RX12 yX12_isDown yX12_isDown ∈ gw := gw_pv (n := 18) (List.mem_of_getElem? (i := 48) rfl)
theorem mw_188 : Cond.code yX12_happens cX12_happens 3 none ∈ gw := gw_t7 53 rfl rfl
theorem mw_189 : Cond.instanceMethod yX12_happens ∈ gw := gw_t7 52 rfl rfl
theorem mw_190 : Cond.methodLink RX12 271 yX12_happens ∈ gw := gw_t7 50 rfl rfl
theorem mw_191 : Cond.selects RX12 yX12_happens yX12_happens ∈ gw := gw_pv (n := 18) (List.mem_of_getElem? (i := 45) rfl)
theorem mw_192 : Cond.code yX12_delivers cX12_delivers 4 (some .int) ∈ gw := gw_t7 183 rfl rfl
theorem mw_193 : Cond.instanceMethod yX12_delivers ∈ gw := gw_t7 182 rfl rfl
theorem mw_194 : Cond.methodLink RX12 283 yX12_delivers ∈ gw := gw_t7 180 rfl rfl
theorem mw_195 : Cond.selects RX12 yX12_delivers yX12_delivers ∈ gw := gw_pv (n := 18) (List.mem_of_getElem? (i := 74) rfl)
theorem mw_196 : Cond.code yX12_leads cX12_leads 3 none ∈ gw := gw_t7 167 rfl rfl
theorem mw_197 : Cond.instanceMethod yX12_leads ∈ gw := gw_t7 166 rfl rfl
theorem mw_198 : Cond.methodLink RX12 280 yX12_leads ∈ gw := gw_t7 164 rfl rfl
theorem mw_199 : Cond.selects RX12 yX12_leads yX12_leads ∈ gw := gw_pv (n := 18) (List.mem_of_getElem? (i := 70) rfl)
theorem mw_200 : Cond.code yX12_hearsAll cX12_hearsAll 6 none ∈ gw := gw_t7 128 rfl rfl
theorem mw_201 : Cond.instanceMethod yX12_hearsAll ∈ gw := gw_t7 127 rfl rfl
theorem mw_202 : Cond.methodLink RX12 277 yX12_hearsAll ∈ gw := gw_t7 125 rfl rfl
theorem mw_203 : Cond.selects RX12 yX12_hearsAll yX12_hearsAll ∈ gw := gw_pv (n := 18) (List.mem_of_getElem? (i := 61) rfl)
theorem mw_204 : Cond.code yX12_allHappen cX12_allHappen 6 none ∈ gw := gw_t7 49 rfl rfl
theorem mw_205 : Cond.instanceMethod yX12_allHappen ∈ gw := gw_t7 48 rfl rfl
theorem mw_206 : Cond.methodLink RX12 274 yX12_allHappen ∈ gw := gw_t7 46 rfl rfl
theorem mw_207 : Cond.selects RX12 yX12_allHappen yX12_allHappen ∈ gw := gw_pv (n := 18) (List.mem_of_getElem? (i := 44) rfl)
theorem mw_208 : Cond.code yX12_throwsIf cX12_throwsIf 3 (some .boolean) ∈ gw := gw_t7 34 rfl rfl
theorem mw_209 : Cond.instanceMethod yX12_throwsIf ∈ gw := gw_t7 33 rfl rfl
theorem mw_210 : Cond.methodLink RX12 176 yX12_throwsIf ∈ gw := gw_t7 31 rfl rfl
theorem mw_211 : Cond.selects RX12 yX12_throwsIf yX12_throwsIf ∈ gw := gw_pv (n := 18) (List.mem_of_getElem? (i := 42) rfl)
theorem mw_212 : Cond.code yX12_oneTick cX12_oneTick 5 (some .int) ∈ gw := gw_t7 45 rfl rfl
theorem mw_213 : Cond.instanceMethod yX12_oneTick ∈ gw := gw_t7 44 rfl rfl
theorem mw_214 : Cond.methodLink RX12 286 yX12_oneTick ∈ gw := gw_t7 42 rfl rfl
theorem mw_215 : Cond.selects RX12 yX12_oneTick yX12_oneTick ∈ gw := gw_pv (n := 18) (List.mem_of_getElem? (i := 43) rfl)
theorem mw_216 : Cond.code yX12_keepsAll cX12_keepsAll 2 none ∈ gw := gw_t8 120 rfl rfl
theorem mw_217 : Cond.instanceMethod yX12_keepsAll ∈ gw := gw_t8 119 rfl rfl
theorem mw_218 : Cond.methodLink RX12 290 yX12_keepsAll ∈ gw := gw_t8 117 rfl rfl
theorem mw_219 : Cond.selects RX12 yX12_keepsAll yX12_keepsAll ∈ gw := gw_pv (n := 18) (List.mem_of_getElem? (i := 93) rfl)
theorem mw_220 : Cond.code yX12_bringsBack cX12_bringsBack 2 none ∈ gw := gw_t8 128 rfl rfl
theorem mw_221 : Cond.instanceMethod yX12_bringsBack ∈ gw := gw_t8 127 rfl rfl
theorem mw_222 : Cond.methodLink RX12 293 yX12_bringsBack ∈ gw := gw_t8 125 rfl rfl
theorem mw_223 : Cond.selects RX12 yX12_bringsBack yX12_bringsBack ∈ gw := gw_pv (n := 18) (List.mem_of_getElem? (i := 95) rfl)
theorem mw_224 : Cond.code yX12_noNode cX12_noNode 2 (some .boolean) ∈ gw := gw_t7 199 rfl rfl
theorem mw_225 : Cond.instanceMethod yX12_noNode ∈ gw := gw_t7 198 rfl rfl
theorem mw_226 : Cond.methodLink RX12 296 yX12_noNode ∈ gw := gw_t7 196 rfl rfl
theorem mw_227 : Cond.selects RX12 yX12_noNode yX12_noNode ∈ gw := gw_pv (n := 18) (List.mem_of_getElem? (i := 77) rfl)
theorem mw_228 : Cond.code yX12_noGroup cX12_noGroup 2 (some .boolean) ∈ gw := gw_t7 203 rfl rfl
theorem mw_229 : Cond.instanceMethod yX12_noGroup ∈ gw := gw_t7 202 rfl rfl
theorem mw_230 : Cond.methodLink RX12 299 yX12_noGroup ∈ gw := gw_t7 200 rfl rfl
theorem mw_231 : Cond.selects RX12 yX12_noGroup yX12_noGroup ∈ gw := gw_pv (n := 18) (List.mem_of_getElem? (i := 78) rfl)
theorem hdX12_allHappen : yX12_allHappen.cls = RX12 ∧ yX12_allHappen.cls ≠ "java/lang/invoke/MethodHandle" ∧ yX12_allHappen.cls ≠ "java/lang/invoke/VarHandle" ∧ (parseMethodDescriptor yX12_allHappen.desc).map (fun d => d.parameters.length) = some 0 := by decide +kernel
theorem hdX12_bringsBack : yX12_bringsBack.cls = RX12 ∧ yX12_bringsBack.cls ≠ "java/lang/invoke/MethodHandle" ∧ yX12_bringsBack.cls ≠ "java/lang/invoke/VarHandle" ∧ (parseMethodDescriptor yX12_bringsBack.desc).map (fun d => d.parameters.length) = some 0 := by decide +kernel
theorem hdX12_delivers : yX12_delivers.cls = RX12 ∧ yX12_delivers.cls ≠ "java/lang/invoke/MethodHandle" ∧ yX12_delivers.cls ≠ "java/lang/invoke/VarHandle" ∧ (parseMethodDescriptor yX12_delivers.desc).map (fun d => d.parameters.length) = some 1 := by decide +kernel
theorem hdX12_happens : yX12_happens.cls = RX12 ∧ yX12_happens.cls ≠ "java/lang/invoke/MethodHandle" ∧ yX12_happens.cls ≠ "java/lang/invoke/VarHandle" ∧ (parseMethodDescriptor yX12_happens.desc).map (fun d => d.parameters.length) = some 1 := by decide +kernel
theorem hdX12_hearsAll : yX12_hearsAll.cls = RX12 ∧ yX12_hearsAll.cls ≠ "java/lang/invoke/MethodHandle" ∧ yX12_hearsAll.cls ≠ "java/lang/invoke/VarHandle" ∧ (parseMethodDescriptor yX12_hearsAll.desc).map (fun d => d.parameters.length) = some 2 := by decide +kernel
theorem hdX12_isAhead : yX12_isAhead.cls = RX12 ∧ yX12_isAhead.cls ≠ "java/lang/invoke/MethodHandle" ∧ yX12_isAhead.cls ≠ "java/lang/invoke/VarHandle" ∧ (parseMethodDescriptor yX12_isAhead.desc).map (fun d => d.parameters.length) = some 3 := by decide +kernel
theorem hdX12_isDown : yX12_isDown.cls = RX12 ∧ yX12_isDown.cls ≠ "java/lang/invoke/MethodHandle" ∧ yX12_isDown.cls ≠ "java/lang/invoke/VarHandle" ∧ (parseMethodDescriptor yX12_isDown.desc).map (fun d => d.parameters.length) = some 1 := by decide +kernel
theorem hdX12_isFinal : yX12_isFinal.cls = RX12 ∧ yX12_isFinal.cls ≠ "java/lang/invoke/MethodHandle" ∧ yX12_isFinal.cls ≠ "java/lang/invoke/VarHandle" ∧ (parseMethodDescriptor yX12_isFinal.desc).map (fun d => d.parameters.length) = some 2 := by decide +kernel
theorem hdX12_isFull : yX12_isFull.cls = RX12 ∧ yX12_isFull.cls ≠ "java/lang/invoke/MethodHandle" ∧ yX12_isFull.cls ≠ "java/lang/invoke/VarHandle" ∧ (parseMethodDescriptor yX12_isFull.desc).map (fun d => d.parameters.length) = some 2 := by decide +kernel
theorem hdX12_isHeir : yX12_isHeir.cls = RX12 ∧ yX12_isHeir.cls ≠ "java/lang/invoke/MethodHandle" ∧ yX12_isHeir.cls ≠ "java/lang/invoke/VarHandle" ∧ (parseMethodDescriptor yX12_isHeir.desc).map (fun d => d.parameters.length) = some 2 := by decide +kernel
theorem hdX12_isSent : yX12_isSent.cls = RX12 ∧ yX12_isSent.cls ≠ "java/lang/invoke/MethodHandle" ∧ yX12_isSent.cls ≠ "java/lang/invoke/VarHandle" ∧ (parseMethodDescriptor yX12_isSent.desc).map (fun d => d.parameters.length) = some 2 := by decide +kernel
theorem hdX12_keepsAll : yX12_keepsAll.cls = RX12 ∧ yX12_keepsAll.cls ≠ "java/lang/invoke/MethodHandle" ∧ yX12_keepsAll.cls ≠ "java/lang/invoke/VarHandle" ∧ (parseMethodDescriptor yX12_keepsAll.desc).map (fun d => d.parameters.length) = some 0 := by decide +kernel
theorem hdX12_leads : yX12_leads.cls = RX12 ∧ yX12_leads.cls ≠ "java/lang/invoke/MethodHandle" ∧ yX12_leads.cls ≠ "java/lang/invoke/VarHandle" ∧ (parseMethodDescriptor yX12_leads.desc).map (fun d => d.parameters.length) = some 1 := by decide +kernel
theorem hdX12_leastOf : yX12_leastOf.cls = RX12 ∧ yX12_leastOf.cls ≠ "java/lang/invoke/MethodHandle" ∧ yX12_leastOf.cls ≠ "java/lang/invoke/VarHandle" ∧ (parseMethodDescriptor yX12_leastOf.desc).map (fun d => d.parameters.length) = some 1 := by decide +kernel
theorem hdX12_noGroup : yX12_noGroup.cls = RX12 ∧ yX12_noGroup.cls ≠ "java/lang/invoke/MethodHandle" ∧ yX12_noGroup.cls ≠ "java/lang/invoke/VarHandle" ∧ (parseMethodDescriptor yX12_noGroup.desc).map (fun d => d.parameters.length) = some 1 := by decide +kernel
theorem hdX12_noNode : yX12_noNode.cls = RX12 ∧ yX12_noNode.cls ≠ "java/lang/invoke/MethodHandle" ∧ yX12_noNode.cls ≠ "java/lang/invoke/VarHandle" ∧ (parseMethodDescriptor yX12_noNode.desc).map (fun d => d.parameters.length) = some 1 := by decide +kernel
theorem hdX12_oneTick : yX12_oneTick.cls = RX12 ∧ yX12_oneTick.cls ≠ "java/lang/invoke/MethodHandle" ∧ yX12_oneTick.cls ≠ "java/lang/invoke/VarHandle" ∧ (parseMethodDescriptor yX12_oneTick.desc).map (fun d => d.parameters.length) = some 1 := by decide +kernel
theorem hdX12_throwsIf : yX12_throwsIf.cls = RX12 ∧ yX12_throwsIf.cls ≠ "java/lang/invoke/MethodHandle" ∧ yX12_throwsIf.cls ≠ "java/lang/invoke/VarHandle" ∧ (parseMethodDescriptor yX12_throwsIf.desc).map (fun d => d.parameters.length) = some 2 := by decide +kernel
theorem dX12_isHeir_0 : decode cX12_isHeir 0 = .ok (.aload_n 0, 1) := by decide +kernel
theorem dX12_isHeir_1 : decode cX12_isHeir 1 = .ok (.iload_n 1, 1) := by decide +kernel
theorem dX12_isHeir_2 : decode cX12_isHeir 2 = .ok (.iload_n 2, 1) := by decide +kernel
theorem dX12_isHeir_3 : decode cX12_isHeir 3 = .ok (.iconst 0, 1) := by decide +kernel
theorem dX12_isHeir_4 : decode cX12_isHeir 4 = .ok (.invokevirtual 219, 3) := by decide +kernel
theorem dX12_isHeir_7 : decode cX12_isHeir 7 = .ok (.ifCond .eq 40, 3) := by decide +kernel
theorem dX12_isHeir_10 : decode cX12_isHeir 10 = .ok (.aload_n 0, 1) := by decide +kernel
theorem dX12_isHeir_11 : decode cX12_isHeir 11 = .ok (.aload_n 0, 1) := by decide +kernel
theorem dX12_isHeir_12 : decode cX12_isHeir 12 = .ok (.iload_n 1, 1) := by decide +kernel
theorem dX12_isHeir_13 : decode cX12_isHeir 13 = .ok (.iload_n 2, 1) := by decide +kernel
theorem dX12_isHeir_14 : decode cX12_isHeir 14 = .ok (.iconst 3, 1) := by decide +kernel
theorem dX12_isHeir_15 : decode cX12_isHeir 15 = .ok (.invokevirtual 219, 3) := by decide +kernel
theorem dX12_isHeir_18 : decode cX12_isHeir 18 = .ok (.invokevirtual 181, 3) := by decide +kernel
theorem dX12_isHeir_21 : decode cX12_isHeir 21 = .ok (.ifCond .eq 26, 3) := by decide +kernel
theorem dX12_isHeir_24 : decode cX12_isHeir 24 = .ok (.aload_n 0, 1) := by decide +kernel
theorem dX12_isHeir_25 : decode cX12_isHeir 25 = .ok (.iload_n 2, 1) := by decide +kernel
theorem dX12_isHeir_26 : decode cX12_isHeir 26 = .ok (.iload_n 1, 1) := by decide +kernel
theorem dX12_isHeir_27 : decode cX12_isHeir 27 = .ok (.invokevirtual 196, 3) := by decide +kernel
theorem dX12_isHeir_30 : decode cX12_isHeir 30 = .ok (.ifCond .eq 17, 3) := by decide +kernel
theorem dX12_isHeir_33 : decode cX12_isHeir 33 = .ok (.aload_n 0, 1) := by decide +kernel
theorem dX12_isHeir_34 : decode cX12_isHeir 34 = .ok (.iload_n 1, 1) := by decide +kernel
theorem dX12_isHeir_35 : decode cX12_isHeir 35 = .ok (.iload_n 2, 1) := by decide +kernel
theorem dX12_isHeir_36 : decode cX12_isHeir 36 = .ok (.iconst 5, 1) := by decide +kernel
theorem dX12_isHeir_37 : decode cX12_isHeir 37 = .ok (.invokevirtual 219, 3) := by decide +kernel
theorem dX12_isHeir_40 : decode cX12_isHeir 40 = .ok (.ifCond .ne 7, 3) := by decide +kernel
theorem dX12_isHeir_43 : decode cX12_isHeir 43 = .ok (.iconst 1, 1) := by decide +kernel
theorem dX12_isHeir_44 : decode cX12_isHeir 44 = .ok (.goto 4, 3) := by decide +kernel
theorem dX12_isHeir_47 : decode cX12_isHeir 47 = .ok (.iconst 0, 1) := by decide +kernel
theorem dX12_isHeir_48 : decode cX12_isHeir 48 = .ok (.istore_n 3, 1) := by decide +kernel
theorem dX12_isHeir_49 : decode cX12_isHeir 49 = .ok (.iconst 0, 1) := by decide +kernel
theorem dX12_isHeir_50 : decode cX12_isHeir 50 = .ok (.istore 4, 2) := by decide +kernel
theorem dX12_isHeir_52 : decode cX12_isHeir 52 = .ok (.iload 4, 2) := by decide +kernel
theorem dX12_isHeir_54 : decode cX12_isHeir 54 = .ok (.iload_n 1, 1) := by decide +kernel
theorem dX12_isHeir_55 : decode cX12_isHeir 55 = .ok (.if_icmp .ge 38, 3) := by decide +kernel
theorem dX12_isHeir_58 : decode cX12_isHeir 58 = .ok (.iload_n 3, 1) := by decide +kernel
theorem dX12_isHeir_59 : decode cX12_isHeir 59 = .ok (.ifCond .eq 26, 3) := by decide +kernel
theorem dX12_isHeir_62 : decode cX12_isHeir 62 = .ok (.aload_n 0, 1) := by decide +kernel
theorem dX12_isHeir_63 : decode cX12_isHeir 63 = .ok (.iload_n 2, 1) := by decide +kernel
theorem dX12_isHeir_64 : decode cX12_isHeir 64 = .ok (.iload 4, 2) := by decide +kernel
theorem dX12_isHeir_66 : decode cX12_isHeir 66 = .ok (.invokevirtual 196, 3) := by decide +kernel
theorem dX12_isHeir_69 : decode cX12_isHeir 69 = .ok (.ifCond .eq 12, 3) := by decide +kernel
theorem dX12_isHeir_72 : decode cX12_isHeir 72 = .ok (.aload_n 0, 1) := by decide +kernel
theorem dX12_isHeir_73 : decode cX12_isHeir 73 = .ok (.iload 4, 2) := by decide +kernel
theorem dX12_isHeir_75 : decode cX12_isHeir 75 = .ok (.invokevirtual 181, 3) := by decide +kernel
theorem dX12_isHeir_78 : decode cX12_isHeir 78 = .ok (.ifCond .eq 7, 3) := by decide +kernel
theorem dX12_isHeir_81 : decode cX12_isHeir 81 = .ok (.iconst 1, 1) := by decide +kernel
theorem dX12_isHeir_82 : decode cX12_isHeir 82 = .ok (.goto 4, 3) := by decide +kernel
theorem dX12_isHeir_85 : decode cX12_isHeir 85 = .ok (.iconst 0, 1) := by decide +kernel
theorem dX12_isHeir_86 : decode cX12_isHeir 86 = .ok (.istore_n 3, 1) := by decide +kernel
theorem dX12_isHeir_87 : decode cX12_isHeir 87 = .ok (.iinc 4 1, 3) := by decide +kernel
theorem dX12_isHeir_90 : decode cX12_isHeir 90 = .ok (.goto (-38), 3) := by decide +kernel
theorem dX12_isHeir_93 : decode cX12_isHeir 93 = .ok (.iload_n 3, 1) := by decide +kernel
theorem dX12_isHeir_94 : decode cX12_isHeir 94 = .ok (.ireturn, 1) := by decide +kernel
theorem dX12_leads_0 : decode cX12_leads 0 = .ok (.iconst 0, 1) := by decide +kernel
theorem dX12_leads_1 : decode cX12_leads 1 = .ok (.istore_n 2, 1) := by decide +kernel
theorem dX12_leads_2 : decode cX12_leads 2 = .ok (.iload_n 2, 1) := by decide +kernel
theorem dX12_leads_3 : decode cX12_leads 3 = .ok (.aload_n 0, 1) := by decide +kernel
theorem dX12_leads_4 : decode cX12_leads 4 = .ok (.invokevirtual 74, 3) := by decide +kernel
theorem dX12_leads_7 : decode cX12_leads 7 = .ok (.if_icmp .ge 77, 3) := by decide +kernel
theorem dX12_leads_10 : decode cX12_leads 10 = .ok (.aload_n 0, 1) := by decide +kernel
theorem dX12_leads_11 : decode cX12_leads 11 = .ok (.iload_n 1, 1) := by decide +kernel
theorem dX12_leads_12 : decode cX12_leads 12 = .ok (.iload_n 2, 1) := by decide +kernel
theorem dX12_leads_13 : decode cX12_leads 13 = .ok (.invokevirtual 248, 3) := by decide +kernel
theorem dX12_leads_16 : decode cX12_leads 16 = .ok (.ifCond .eq 36, 3) := by decide +kernel
theorem dX12_leads_19 : decode cX12_leads 19 = .ok (.aload_n 0, 1) := by decide +kernel
theorem dX12_leads_20 : decode cX12_leads 20 = .ok (.iload_n 1, 1) := by decide +kernel
theorem dX12_leads_21 : decode cX12_leads 21 = .ok (.iload_n 2, 1) := by decide +kernel
theorem dX12_leads_22 : decode cX12_leads 22 = .ok (.invokevirtual 211, 3) := by decide +kernel
theorem dX12_leads_25 : decode cX12_leads 25 = .ok (.aload_n 0, 1) := by decide +kernel
theorem dX12_leads_26 : decode cX12_leads 26 = .ok (.iload_n 1, 1) := by decide +kernel
theorem dX12_leads_27 : decode cX12_leads 27 = .ok (.iconst 3, 1) := by decide +kernel
theorem dX12_leads_28 : decode cX12_leads 28 = .ok (.iload_n 2, 1) := by decide +kernel
theorem dX12_leads_29 : decode cX12_leads 29 = .ok (.invokevirtual 207, 3) := by decide +kernel
theorem dX12_leads_32 : decode cX12_leads 32 = .ok (.aload_n 0, 1) := by decide +kernel
theorem dX12_leads_33 : decode cX12_leads 33 = .ok (.getfield 13, 3) := by decide +kernel
theorem dX12_leads_36 : decode cX12_leads 36 = .ok (.bipush 10, 2) := by decide +kernel
theorem dX12_leads_38 : decode cX12_leads 38 = .ok (.dup2, 1) := by decide +kernel
theorem dX12_leads_39 : decode cX12_leads 39 = .ok (.iaload, 1) := by decide +kernel
theorem dX12_leads_40 : decode cX12_leads 40 = .ok (.iconst 1, 1) := by decide +kernel
theorem dX12_leads_41 : decode cX12_leads 41 = .ok (.iadd, 1) := by decide +kernel
theorem dX12_leads_42 : decode cX12_leads 42 = .ok (.iastore, 1) := by decide +kernel
theorem dX12_leads_43 : decode cX12_leads 43 = .ok (.aload_n 0, 1) := by decide +kernel
theorem dX12_leads_44 : decode cX12_leads 44 = .ok (.iload_n 1, 1) := by decide +kernel
theorem dX12_leads_45 : decode cX12_leads 45 = .ok (.iconst 3, 1) := by decide +kernel
theorem dX12_leads_46 : decode cX12_leads 46 = .ok (.iload_n 2, 1) := by decide +kernel
theorem dX12_leads_47 : decode cX12_leads 47 = .ok (.iconst (-1), 1) := by decide +kernel
theorem dX12_leads_48 : decode cX12_leads 48 = .ok (.iconst (-1), 1) := by decide +kernel
theorem dX12_leads_49 : decode cX12_leads 49 = .ok (.invokevirtual 215, 3) := by decide +kernel
theorem dX12_leads_52 : decode cX12_leads 52 = .ok (.aload_n 0, 1) := by decide +kernel
theorem dX12_leads_53 : decode cX12_leads 53 = .ok (.iload_n 1, 1) := by decide +kernel
theorem dX12_leads_54 : decode cX12_leads 54 = .ok (.iload_n 2, 1) := by decide +kernel
theorem dX12_leads_55 : decode cX12_leads 55 = .ok (.iconst 5, 1) := by decide +kernel
theorem dX12_leads_56 : decode cX12_leads 56 = .ok (.invokevirtual 219, 3) := by decide +kernel
theorem dX12_leads_59 : decode cX12_leads 59 = .ok (.iconst 1, 1) := by decide +kernel
theorem dX12_leads_60 : decode cX12_leads 60 = .ok (.if_icmp .ne 18, 3) := by decide +kernel
theorem dX12_leads_63 : decode cX12_leads 63 = .ok (.aload_n 0, 1) := by decide +kernel
theorem dX12_leads_64 : decode cX12_leads 64 = .ok (.iload_n 1, 1) := by decide +kernel
theorem dX12_leads_65 : decode cX12_leads 65 = .ok (.iload_n 2, 1) := by decide +kernel
theorem dX12_leads_66 : decode cX12_leads 66 = .ok (.invokevirtual 251, 3) := by decide +kernel
theorem dX12_leads_69 : decode cX12_leads 69 = .ok (.ifCond .eq 9, 3) := by decide +kernel
theorem dX12_leads_72 : decode cX12_leads 72 = .ok (.aload_n 0, 1) := by decide +kernel
theorem dX12_leads_73 : decode cX12_leads 73 = .ok (.iload_n 1, 1) := by decide +kernel
theorem dX12_leads_74 : decode cX12_leads 74 = .ok (.iload_n 2, 1) := by decide +kernel
theorem dX12_leads_75 : decode cX12_leads 75 = .ok (.invokevirtual 254, 3) := by decide +kernel
theorem dX12_leads_78 : decode cX12_leads 78 = .ok (.iinc 2 1, 3) := by decide +kernel
theorem dX12_leads_81 : decode cX12_leads 81 = .ok (.goto (-79), 3) := by decide +kernel
theorem dX12_leads_84 : decode cX12_leads 84 = .ok (.return_, 1) := by decide +kernel
theorem dX12_isAhead_0 : decode cX12_isAhead 0 = .ok (.aload_n 0, 1) := by decide +kernel
theorem dX12_isAhead_1 : decode cX12_isAhead 1 = .ok (.iload_n 1, 1) := by decide +kernel
theorem dX12_isAhead_2 : decode cX12_isAhead 2 = .ok (.iload_n 2, 1) := by decide +kernel
theorem dX12_isAhead_3 : decode cX12_isAhead 3 = .ok (.iconst 1, 1) := by decide +kernel
theorem dX12_isAhead_4 : decode cX12_isAhead 4 = .ok (.invokevirtual 219, 3) := by decide +kernel
theorem dX12_isAhead_7 : decode cX12_isAhead 7 = .ok (.aload_n 0, 1) := by decide +kernel
theorem dX12_isAhead_8 : decode cX12_isAhead 8 = .ok (.iload_n 1, 1) := by decide +kernel
theorem dX12_isAhead_9 : decode cX12_isAhead 9 = .ok (.iload_n 3, 1) := by decide +kernel
theorem dX12_isAhead_10 : decode cX12_isAhead 10 = .ok (.iconst 1, 1) := by decide +kernel
theorem dX12_isAhead_11 : decode cX12_isAhead 11 = .ok (.invokevirtual 219, 3) := by decide +kernel
theorem dX12_isAhead_14 : decode cX12_isAhead 14 = .ok (.if_icmp .ne 24, 3) := by decide +kernel
theorem dX12_isAhead_17 : decode cX12_isAhead 17 = .ok (.aload_n 0, 1) := by decide +kernel
theorem dX12_isAhead_18 : decode cX12_isAhead 18 = .ok (.iload_n 1, 1) := by decide +kernel
theorem dX12_isAhead_19 : decode cX12_isAhead 19 = .ok (.iload_n 2, 1) := by decide +kernel
theorem dX12_isAhead_20 : decode cX12_isAhead 20 = .ok (.iconst 2, 1) := by decide +kernel
theorem dX12_isAhead_21 : decode cX12_isAhead 21 = .ok (.invokevirtual 219, 3) := by decide +kernel
theorem dX12_isAhead_24 : decode cX12_isAhead 24 = .ok (.aload_n 0, 1) := by decide +kernel
theorem dX12_isAhead_25 : decode cX12_isAhead 25 = .ok (.iload_n 1, 1) := by decide +kernel
theorem dX12_isAhead_26 : decode cX12_isAhead 26 = .ok (.iload_n 3, 1) := by decide +kernel
theorem dX12_isAhead_27 : decode cX12_isAhead 27 = .ok (.iconst 2, 1) := by decide +kernel
theorem dX12_isAhead_28 : decode cX12_isAhead 28 = .ok (.invokevirtual 219, 3) := by decide +kernel
theorem dX12_isAhead_31 : decode cX12_isAhead 31 = .ok (.if_icmp .ne 7, 3) := by decide +kernel
theorem dX12_isAhead_34 : decode cX12_isAhead 34 = .ok (.iconst 1, 1) := by decide +kernel
theorem dX12_isAhead_35 : decode cX12_isAhead 35 = .ok (.goto 4, 3) := by decide +kernel
theorem dX12_isAhead_38 : decode cX12_isAhead 38 = .ok (.iconst 0, 1) := by decide +kernel
theorem dX12_isAhead_39 : decode cX12_isAhead 39 = .ok (.istore 4, 2) := by decide +kernel
theorem dX12_isAhead_41 : decode cX12_isAhead 41 = .ok (.iload 4, 2) := by decide +kernel
theorem dX12_isAhead_43 : decode cX12_isAhead 43 = .ok (.ifCond .eq 16, 3) := by decide +kernel
theorem dX12_isAhead_46 : decode cX12_isAhead 46 = .ok (.iload_n 2, 1) := by decide +kernel
theorem dX12_isAhead_47 : decode cX12_isAhead 47 = .ok (.iload_n 3, 1) := by decide +kernel
theorem dX12_isAhead_48 : decode cX12_isAhead 48 = .ok (.if_icmp .ge 7, 3) := by decide +kernel
theorem dX12_isAhead_51 : decode cX12_isAhead 51 = .ok (.iconst 1, 1) := by decide +kernel
theorem dX12_isAhead_52 : decode cX12_isAhead 52 = .ok (.goto 38, 3) := by decide +kernel
theorem dX12_isAhead_55 : decode cX12_isAhead 55 = .ok (.iconst 0, 1) := by decide +kernel
theorem dX12_isAhead_56 : decode cX12_isAhead 56 = .ok (.goto 34, 3) := by decide +kernel
theorem dX12_isAhead_59 : decode cX12_isAhead 59 = .ok (.aload_n 0, 1) := by decide +kernel
theorem dX12_isAhead_60 : decode cX12_isAhead 60 = .ok (.iload_n 1, 1) := by decide +kernel
theorem dX12_isAhead_61 : decode cX12_isAhead 61 = .ok (.iload_n 2, 1) := by decide +kernel
theorem dX12_isAhead_62 : decode cX12_isAhead 62 = .ok (.iconst 1, 1) := by decide +kernel
theorem dX12_isAhead_63 : decode cX12_isAhead 63 = .ok (.invokevirtual 219, 3) := by decide +kernel
theorem dX12_isAhead_66 : decode cX12_isAhead 66 = .ok (.aload_n 0, 1) := by decide +kernel
theorem dX12_isAhead_67 : decode cX12_isAhead 67 = .ok (.iload_n 1, 1) := by decide +kernel
theorem dX12_isAhead_68 : decode cX12_isAhead 68 = .ok (.iload_n 2, 1) := by decide +kernel
theorem dX12_isAhead_69 : decode cX12_isAhead 69 = .ok (.iconst 2, 1) := by decide +kernel
theorem dX12_isAhead_70 : decode cX12_isAhead 70 = .ok (.invokevirtual 219, 3) := by decide +kernel
theorem dX12_isAhead_73 : decode cX12_isAhead 73 = .ok (.aload_n 0, 1) := by decide +kernel
theorem dX12_isAhead_74 : decode cX12_isAhead 74 = .ok (.iload_n 1, 1) := by decide +kernel
theorem dX12_isAhead_75 : decode cX12_isAhead 75 = .ok (.iload_n 3, 1) := by decide +kernel
theorem dX12_isAhead_76 : decode cX12_isAhead 76 = .ok (.iconst 1, 1) := by decide +kernel
theorem dX12_isAhead_77 : decode cX12_isAhead 77 = .ok (.invokevirtual 219, 3) := by decide +kernel
theorem dX12_isAhead_80 : decode cX12_isAhead 80 = .ok (.aload_n 0, 1) := by decide +kernel
theorem dX12_isAhead_81 : decode cX12_isAhead 81 = .ok (.iload_n 1, 1) := by decide +kernel
theorem dX12_isAhead_82 : decode cX12_isAhead 82 = .ok (.iload_n 3, 1) := by decide +kernel
theorem dX12_isAhead_83 : decode cX12_isAhead 83 = .ok (.iconst 2, 1) := by decide +kernel
theorem dX12_isAhead_84 : decode cX12_isAhead 84 = .ok (.invokevirtual 219, 3) := by decide +kernel
theorem dX12_isAhead_87 : decode cX12_isAhead 87 = .ok (.invokestatic 225, 3) := by decide +kernel
theorem dX12_isAhead_90 : decode cX12_isAhead 90 = .ok (.ireturn, 1) := by decide +kernel
theorem dX12_leastOf_0 : decode cX12_leastOf 0 = .ok (.iconst (-1), 1) := by decide +kernel
theorem dX12_leastOf_1 : decode cX12_leastOf 1 = .ok (.istore_n 2, 1) := by decide +kernel
theorem dX12_leastOf_2 : decode cX12_leastOf 2 = .ok (.iconst 0, 1) := by decide +kernel
theorem dX12_leastOf_3 : decode cX12_leastOf 3 = .ok (.istore_n 3, 1) := by decide +kernel
theorem dX12_leastOf_4 : decode cX12_leastOf 4 = .ok (.iload_n 3, 1) := by decide +kernel
theorem dX12_leastOf_5 : decode cX12_leastOf 5 = .ok (.aload_n 0, 1) := by decide +kernel
theorem dX12_leastOf_6 : decode cX12_leastOf 6 = .ok (.invokevirtual 74, 3) := by decide +kernel
theorem dX12_leastOf_9 : decode cX12_leastOf 9 = .ok (.if_icmp .ge 41, 3) := by decide +kernel
theorem dX12_leastOf_12 : decode cX12_leastOf 12 = .ok (.aload_n 0, 1) := by decide +kernel
theorem dX12_leastOf_13 : decode cX12_leastOf 13 = .ok (.iload_n 1, 1) := by decide +kernel
theorem dX12_leastOf_14 : decode cX12_leastOf 14 = .ok (.iload_n 3, 1) := by decide +kernel
theorem dX12_leastOf_15 : decode cX12_leastOf 15 = .ok (.iconst 0, 1) := by decide +kernel
theorem dX12_leastOf_16 : decode cX12_leastOf 16 = .ok (.invokevirtual 219, 3) := by decide +kernel
theorem dX12_leastOf_19 : decode cX12_leastOf 19 = .ok (.iconst 1, 1) := by decide +kernel
theorem dX12_leastOf_20 : decode cX12_leastOf 20 = .ok (.iconst 2, 1) := by decide +kernel
theorem dX12_leastOf_21 : decode cX12_leastOf 21 = .ok (.invokestatic 70, 3) := by decide +kernel
theorem dX12_leastOf_24 : decode cX12_leastOf 24 = .ok (.ifCond .eq 20, 3) := by decide +kernel
theorem dX12_leastOf_27 : decode cX12_leastOf 27 = .ok (.iload_n 2, 1) := by decide +kernel
theorem dX12_leastOf_28 : decode cX12_leastOf 28 = .ok (.iconst (-1), 1) := by decide +kernel
theorem dX12_leastOf_29 : decode cX12_leastOf 29 = .ok (.if_icmp .eq 13, 3) := by decide +kernel
theorem dX12_leastOf_32 : decode cX12_leastOf 32 = .ok (.aload_n 0, 1) := by decide +kernel
theorem dX12_leastOf_33 : decode cX12_leastOf 33 = .ok (.iload_n 1, 1) := by decide +kernel
theorem dX12_leastOf_34 : decode cX12_leastOf 34 = .ok (.iload_n 3, 1) := by decide +kernel
theorem dX12_leastOf_35 : decode cX12_leastOf 35 = .ok (.iload_n 2, 1) := by decide +kernel
theorem dX12_leastOf_36 : decode cX12_leastOf 36 = .ok (.invokevirtual 257, 3) := by decide +kernel
theorem dX12_leastOf_39 : decode cX12_leastOf 39 = .ok (.ifCond .eq 5, 3) := by decide +kernel
theorem dX12_leastOf_42 : decode cX12_leastOf 42 = .ok (.iload_n 3, 1) := by decide +kernel
theorem dX12_leastOf_43 : decode cX12_leastOf 43 = .ok (.istore_n 2, 1) := by decide +kernel
theorem dX12_leastOf_44 : decode cX12_leastOf 44 = .ok (.iinc 3 1, 3) := by decide +kernel
theorem dX12_leastOf_47 : decode cX12_leastOf 47 = .ok (.goto (-43), 3) := by decide +kernel
theorem dX12_leastOf_50 : decode cX12_leastOf 50 = .ok (.iload_n 2, 1) := by decide +kernel
theorem dX12_leastOf_51 : decode cX12_leastOf 51 = .ok (.ireturn, 1) := by decide +kernel
theorem dX12_delivers_0 : decode cX12_delivers 0 = .ok (.iconst 0, 1) := by decide +kernel
theorem dX12_delivers_1 : decode cX12_delivers 1 = .ok (.istore_n 2, 1) := by decide +kernel
theorem dX12_delivers_2 : decode cX12_delivers 2 = .ok (.aload_n 0, 1) := by decide +kernel
theorem dX12_delivers_3 : decode cX12_delivers 3 = .ok (.iload_n 1, 1) := by decide +kernel
theorem dX12_delivers_4 : decode cX12_delivers 4 = .ok (.invokevirtual 260, 3) := by decide +kernel
theorem dX12_delivers_7 : decode cX12_delivers 7 = .ok (.istore_n 3, 1) := by decide +kernel
theorem dX12_delivers_8 : decode cX12_delivers 8 = .ok (.iload_n 3, 1) := by decide +kernel
theorem dX12_delivers_9 : decode cX12_delivers 9 = .ok (.iconst (-1), 1) := by decide +kernel
theorem dX12_delivers_10 : decode cX12_delivers 10 = .ok (.if_icmp .eq 86, 3) := by decide +kernel
theorem dX12_delivers_13 : decode cX12_delivers 13 = .ok (.aload_n 0, 1) := by decide +kernel
theorem dX12_delivers_14 : decode cX12_delivers 14 = .ok (.iload_n 1, 1) := by decide +kernel
theorem dX12_delivers_15 : decode cX12_delivers 15 = .ok (.iload_n 3, 1) := by decide +kernel
theorem dX12_delivers_16 : decode cX12_delivers 16 = .ok (.iconst 0, 1) := by decide +kernel
theorem dX12_delivers_17 : decode cX12_delivers 17 = .ok (.invokevirtual 219, 3) := by decide +kernel
theorem dX12_delivers_20 : decode cX12_delivers 20 = .ok (.iconst 2, 1) := by decide +kernel
theorem dX12_delivers_21 : decode cX12_delivers 21 = .ok (.if_icmp .ne 75, 3) := by decide +kernel
theorem dX12_delivers_24 : decode cX12_delivers 24 = .ok (.aload_n 0, 1) := by decide +kernel
theorem dX12_delivers_25 : decode cX12_delivers 25 = .ok (.iload_n 1, 1) := by decide +kernel
theorem dX12_delivers_26 : decode cX12_delivers 26 = .ok (.iload_n 3, 1) := by decide +kernel
theorem dX12_delivers_27 : decode cX12_delivers 27 = .ok (.iconst 0, 1) := by decide +kernel
theorem dX12_delivers_28 : decode cX12_delivers 28 = .ok (.iconst 3, 1) := by decide +kernel
theorem dX12_delivers_29 : decode cX12_delivers 29 = .ok (.invokevirtual 203, 3) := by decide +kernel
theorem dX12_delivers_32 : decode cX12_delivers 32 = .ok (.aload_n 0, 1) := by decide +kernel
theorem dX12_delivers_33 : decode cX12_delivers 33 = .ok (.iload_n 1, 1) := by decide +kernel
theorem dX12_delivers_34 : decode cX12_delivers 34 = .ok (.iload_n 3, 1) := by decide +kernel
theorem dX12_delivers_35 : decode cX12_delivers 35 = .ok (.iconst 4, 1) := by decide +kernel
theorem dX12_delivers_36 : decode cX12_delivers 36 = .ok (.aload_n 0, 1) := by decide +kernel
theorem dX12_delivers_37 : decode cX12_delivers 37 = .ok (.getfield 13, 3) := by decide +kernel
theorem dX12_delivers_40 : decode cX12_delivers 40 = .ok (.iconst 4, 1) := by decide +kernel
theorem dX12_delivers_41 : decode cX12_delivers 41 = .ok (.iaload, 1) := by decide +kernel
theorem dX12_delivers_42 : decode cX12_delivers 42 = .ok (.invokevirtual 203, 3) := by decide +kernel
theorem dX12_delivers_45 : decode cX12_delivers 45 = .ok (.aload_n 0, 1) := by decide +kernel
theorem dX12_delivers_46 : decode cX12_delivers 46 = .ok (.getfield 13, 3) := by decide +kernel
theorem dX12_delivers_49 : decode cX12_delivers 49 = .ok (.iload_n 1, 1) := by decide +kernel
theorem dX12_delivers_50 : decode cX12_delivers 50 = .ok (.iconst 5, 1) := by decide +kernel
theorem dX12_delivers_51 : decode cX12_delivers 51 = .ok (.aload_n 0, 1) := by decide +kernel
theorem dX12_delivers_52 : decode cX12_delivers 52 = .ok (.iload_n 1, 1) := by decide +kernel
theorem dX12_delivers_53 : decode cX12_delivers 53 = .ok (.iconst 4, 1) := by decide +kernel
theorem dX12_delivers_54 : decode cX12_delivers 54 = .ok (.invokevirtual 77, 3) := by decide +kernel
theorem dX12_delivers_57 : decode cX12_delivers 57 = .ok (.iadd, 1) := by decide +kernel
theorem dX12_delivers_58 : decode cX12_delivers 58 = .ok (.invokestatic 56, 3) := by decide +kernel
theorem dX12_delivers_61 : decode cX12_delivers 61 = .ok (.iload_n 3, 1) := by decide +kernel
theorem dX12_delivers_62 : decode cX12_delivers 62 = .ok (.iastore, 1) := by decide +kernel
theorem dX12_delivers_63 : decode cX12_delivers 63 = .ok (.aload_n 0, 1) := by decide +kernel
theorem dX12_delivers_64 : decode cX12_delivers 64 = .ok (.getfield 13, 3) := by decide +kernel
theorem dX12_delivers_67 : decode cX12_delivers 67 = .ok (.iload_n 1, 1) := by decide +kernel
theorem dX12_delivers_68 : decode cX12_delivers 68 = .ok (.iconst 4, 1) := by decide +kernel
theorem dX12_delivers_69 : decode cX12_delivers 69 = .ok (.invokestatic 56, 3) := by decide +kernel
theorem dX12_delivers_72 : decode cX12_delivers 72 = .ok (.dup2, 1) := by decide +kernel
theorem dX12_delivers_73 : decode cX12_delivers 73 = .ok (.iaload, 1) := by decide +kernel
theorem dX12_delivers_74 : decode cX12_delivers 74 = .ok (.iconst 1, 1) := by decide +kernel
theorem dX12_delivers_75 : decode cX12_delivers 75 = .ok (.iadd, 1) := by decide +kernel
theorem dX12_delivers_76 : decode cX12_delivers 76 = .ok (.iastore, 1) := by decide +kernel
theorem dX12_delivers_77 : decode cX12_delivers 77 = .ok (.aload_n 0, 1) := by decide +kernel
theorem dX12_delivers_78 : decode cX12_delivers 78 = .ok (.iload_n 1, 1) := by decide +kernel
theorem dX12_delivers_79 : decode cX12_delivers 79 = .ok (.iconst 1, 1) := by decide +kernel
theorem dX12_delivers_80 : decode cX12_delivers 80 = .ok (.iload_n 3, 1) := by decide +kernel
theorem dX12_delivers_81 : decode cX12_delivers 81 = .ok (.invokevirtual 207, 3) := by decide +kernel
theorem dX12_delivers_84 : decode cX12_delivers 84 = .ok (.iinc 2 1, 3) := by decide +kernel
theorem dX12_delivers_87 : decode cX12_delivers 87 = .ok (.aload_n 0, 1) := by decide +kernel
theorem dX12_delivers_88 : decode cX12_delivers 88 = .ok (.iload_n 1, 1) := by decide +kernel
theorem dX12_delivers_89 : decode cX12_delivers 89 = .ok (.invokevirtual 260, 3) := by decide +kernel
theorem dX12_delivers_92 : decode cX12_delivers 92 = .ok (.istore_n 3, 1) := by decide +kernel
theorem dX12_delivers_93 : decode cX12_delivers 93 = .ok (.goto (-85), 3) := by decide +kernel
theorem dX12_delivers_96 : decode cX12_delivers 96 = .ok (.iload_n 2, 1) := by decide +kernel
theorem dX12_delivers_97 : decode cX12_delivers 97 = .ok (.ireturn, 1) := by decide +kernel
theorem dX12_happens_0 : decode cX12_happens 0 = .ok (.aload_n 0, 1) := by decide +kernel
theorem dX12_happens_1 : decode cX12_happens 1 = .ok (.getfield 13, 3) := by decide +kernel
theorem dX12_happens_4 : decode cX12_happens 4 = .ok (.iload_n 1, 1) := by decide +kernel
theorem dX12_happens_5 : decode cX12_happens 5 = .ok (.iconst 2, 1) := by decide +kernel
theorem dX12_happens_6 : decode cX12_happens 6 = .ok (.iadd, 1) := by decide +kernel
theorem dX12_happens_7 : decode cX12_happens 7 = .ok (.iaload, 1) := by decide +kernel
theorem dX12_happens_8 : decode cX12_happens 8 = .ok (.istore_n 2, 1) := by decide +kernel
theorem dX12_happens_9 : decode cX12_happens 9 = .ok (.aload_n 0, 1) := by decide +kernel
theorem dX12_happens_10 : decode cX12_happens 10 = .ok (.iload_n 2, 1) := by decide +kernel
theorem dX12_happens_11 : decode cX12_happens 11 = .ok (.invokevirtual 80, 3) := by decide +kernel
theorem dX12_happens_14 : decode cX12_happens 14 = .ok (.ifCond .ne 4, 3) := by decide +kernel
theorem dX12_happens_17 : decode cX12_happens 17 = .ok (.return_, 1) := by decide +kernel
theorem dX12_happens_18 : decode cX12_happens 18 = .ok (.aload_n 0, 1) := by decide +kernel
theorem dX12_happens_19 : decode cX12_happens 19 = .ok (.getfield 13, 3) := by decide +kernel
theorem dX12_happens_22 : decode cX12_happens 22 = .ok (.iload_n 1, 1) := by decide +kernel
theorem dX12_happens_23 : decode cX12_happens 23 = .ok (.iconst 1, 1) := by decide +kernel
theorem dX12_happens_24 : decode cX12_happens 24 = .ok (.iadd, 1) := by decide +kernel
theorem dX12_happens_25 : decode cX12_happens 25 = .ok (.iaload, 1) := by decide +kernel
theorem dX12_happens_26 : decode cX12_happens 26 = .ok (.iconst 1, 1) := by decide +kernel
theorem dX12_happens_27 : decode cX12_happens 27 = .ok (.if_icmp .ne 18, 3) := by decide +kernel
theorem dX12_happens_30 : decode cX12_happens 30 = .ok (.aload_n 0, 1) := by decide +kernel
theorem dX12_happens_31 : decode cX12_happens 31 = .ok (.iload_n 2, 1) := by decide +kernel
theorem dX12_happens_32 : decode cX12_happens 32 = .ok (.invokevirtual 264, 3) := by decide +kernel
theorem dX12_happens_35 : decode cX12_happens 35 = .ok (.aload_n 0, 1) := by decide +kernel
theorem dX12_happens_36 : decode cX12_happens 36 = .ok (.iload_n 2, 1) := by decide +kernel
theorem dX12_happens_37 : decode cX12_happens 37 = .ok (.iconst 2, 1) := by decide +kernel
theorem dX12_happens_38 : decode cX12_happens 38 = .ok (.iconst (-1), 1) := by decide +kernel
theorem dX12_happens_39 : decode cX12_happens 39 = .ok (.invokevirtual 207, 3) := by decide +kernel
theorem dX12_happens_42 : decode cX12_happens 42 = .ok (.goto 26, 3) := by decide +kernel
theorem dX12_happens_45 : decode cX12_happens 45 = .ok (.aload_n 0, 1) := by decide +kernel
theorem dX12_happens_46 : decode cX12_happens 46 = .ok (.invokevirtual 74, 3) := by decide +kernel
theorem dX12_happens_49 : decode cX12_happens 49 = .ok (.bipush 20, 2) := by decide +kernel
theorem dX12_happens_51 : decode cX12_happens 51 = .ok (.if_icmp .ge 17, 3) := by decide +kernel
theorem dX12_happens_54 : decode cX12_happens 54 = .ok (.aload_n 0, 1) := by decide +kernel
theorem dX12_happens_55 : decode cX12_happens 55 = .ok (.iload_n 2, 1) := by decide +kernel
theorem dX12_happens_56 : decode cX12_happens 56 = .ok (.aload_n 0, 1) := by decide +kernel
theorem dX12_happens_57 : decode cX12_happens 57 = .ok (.getfield 13, 3) := by decide +kernel
theorem dX12_happens_60 : decode cX12_happens 60 = .ok (.iload_n 1, 1) := by decide +kernel
theorem dX12_happens_61 : decode cX12_happens 61 = .ok (.iconst 3, 1) := by decide +kernel
theorem dX12_happens_62 : decode cX12_happens 62 = .ok (.iadd, 1) := by decide +kernel
theorem dX12_happens_63 : decode cX12_happens 63 = .ok (.iaload, 1) := by decide +kernel
theorem dX12_happens_64 : decode cX12_happens 64 = .ok (.invokevirtual 268, 3) := by decide +kernel
theorem dX12_happens_67 : decode cX12_happens 67 = .ok (.pop, 1) := by decide +kernel
theorem dX12_happens_68 : decode cX12_happens 68 = .ok (.return_, 1) := by decide +kernel
theorem dX12_allHappen_0 : decode cX12_allHappen 0 = .ok (.aload_n 0, 1) := by decide +kernel
theorem dX12_allHappen_1 : decode cX12_allHappen 1 = .ok (.getfield 13, 3) := by decide +kernel
theorem dX12_allHappen_4 : decode cX12_allHappen 4 = .ok (.bipush 7, 2) := by decide +kernel
theorem dX12_allHappen_6 : decode cX12_allHappen 6 = .ok (.iaload, 1) := by decide +kernel
theorem dX12_allHappen_7 : decode cX12_allHappen 7 = .ok (.istore_n 1, 1) := by decide +kernel
theorem dX12_allHappen_8 : decode cX12_allHappen 8 = .ok (.iconst 0, 1) := by decide +kernel
theorem dX12_allHappen_9 : decode cX12_allHappen 9 = .ok (.istore_n 2, 1) := by decide +kernel
theorem dX12_allHappen_10 : decode cX12_allHappen 10 = .ok (.iconst 0, 1) := by decide +kernel
theorem dX12_allHappen_11 : decode cX12_allHappen 11 = .ok (.istore_n 3, 1) := by decide +kernel
theorem dX12_allHappen_12 : decode cX12_allHappen 12 = .ok (.iload_n 3, 1) := by decide +kernel
theorem dX12_allHappen_13 : decode cX12_allHappen 13 = .ok (.iload_n 1, 1) := by decide +kernel
theorem dX12_allHappen_14 : decode cX12_allHappen 14 = .ok (.if_icmp .ge 88, 3) := by decide +kernel
theorem dX12_allHappen_17 : decode cX12_allHappen 17 = .ok (.sipush 1587, 3) := by decide +kernel
theorem dX12_allHappen_20 : decode cX12_allHappen 20 = .ok (.iconst 4, 1) := by decide +kernel
theorem dX12_allHappen_21 : decode cX12_allHappen 21 = .ok (.iload_n 3, 1) := by decide +kernel
theorem dX12_allHappen_22 : decode cX12_allHappen 22 = .ok (.imul, 1) := by decide +kernel
theorem dX12_allHappen_23 : decode cX12_allHappen 23 = .ok (.iadd, 1) := by decide +kernel
theorem dX12_allHappen_24 : decode cX12_allHappen 24 = .ok (.istore 4, 2) := by decide +kernel
theorem dX12_allHappen_26 : decode cX12_allHappen 26 = .ok (.aload_n 0, 1) := by decide +kernel
theorem dX12_allHappen_27 : decode cX12_allHappen 27 = .ok (.getfield 13, 3) := by decide +kernel
theorem dX12_allHappen_30 : decode cX12_allHappen 30 = .ok (.iload 4, 2) := by decide +kernel
theorem dX12_allHappen_32 : decode cX12_allHappen 32 = .ok (.iconst 0, 1) := by decide +kernel
theorem dX12_allHappen_33 : decode cX12_allHappen 33 = .ok (.iadd, 1) := by decide +kernel
theorem dX12_allHappen_34 : decode cX12_allHappen 34 = .ok (.iaload, 1) := by decide +kernel
theorem dX12_allHappen_35 : decode cX12_allHappen 35 = .ok (.aload_n 0, 1) := by decide +kernel
theorem dX12_allHappen_36 : decode cX12_allHappen 36 = .ok (.getfield 13, 3) := by decide +kernel
theorem dX12_allHappen_39 : decode cX12_allHappen 39 = .ok (.iconst 4, 1) := by decide +kernel
theorem dX12_allHappen_40 : decode cX12_allHappen 40 = .ok (.iaload, 1) := by decide +kernel
theorem dX12_allHappen_41 : decode cX12_allHappen 41 = .ok (.if_icmp .gt 12, 3) := by decide +kernel
theorem dX12_allHappen_44 : decode cX12_allHappen 44 = .ok (.aload_n 0, 1) := by decide +kernel
theorem dX12_allHappen_45 : decode cX12_allHappen 45 = .ok (.iload 4, 2) := by decide +kernel
theorem dX12_allHappen_47 : decode cX12_allHappen 47 = .ok (.invokevirtual 271, 3) := by decide +kernel
theorem dX12_allHappen_50 : decode cX12_allHappen 50 = .ok (.goto 46, 3) := by decide +kernel
theorem dX12_allHappen_53 : decode cX12_allHappen 53 = .ok (.iconst 0, 1) := by decide +kernel
theorem dX12_allHappen_54 : decode cX12_allHappen 54 = .ok (.istore 5, 2) := by decide +kernel
theorem dX12_allHappen_56 : decode cX12_allHappen 56 = .ok (.iload 5, 2) := by decide +kernel
theorem dX12_allHappen_58 : decode cX12_allHappen 58 = .ok (.iconst 4, 1) := by decide +kernel
theorem dX12_allHappen_59 : decode cX12_allHappen 59 = .ok (.if_icmp .ge 34, 3) := by decide +kernel
theorem dX12_allHappen_62 : decode cX12_allHappen 62 = .ok (.aload_n 0, 1) := by decide +kernel
theorem dX12_allHappen_63 : decode cX12_allHappen 63 = .ok (.getfield 13, 3) := by decide +kernel
theorem dX12_allHappen_66 : decode cX12_allHappen 66 = .ok (.sipush 1587, 3) := by decide +kernel
theorem dX12_allHappen_69 : decode cX12_allHappen 69 = .ok (.iconst 4, 1) := by decide +kernel
theorem dX12_allHappen_70 : decode cX12_allHappen 70 = .ok (.iload_n 2, 1) := by decide +kernel
theorem dX12_allHappen_71 : decode cX12_allHappen 71 = .ok (.imul, 1) := by decide +kernel
theorem dX12_allHappen_72 : decode cX12_allHappen 72 = .ok (.iadd, 1) := by decide +kernel
theorem dX12_allHappen_73 : decode cX12_allHappen 73 = .ok (.iload 5, 2) := by decide +kernel
theorem dX12_allHappen_75 : decode cX12_allHappen 75 = .ok (.iadd, 1) := by decide +kernel
theorem dX12_allHappen_76 : decode cX12_allHappen 76 = .ok (.aload_n 0, 1) := by decide +kernel
theorem dX12_allHappen_77 : decode cX12_allHappen 77 = .ok (.getfield 13, 3) := by decide +kernel
theorem dX12_allHappen_80 : decode cX12_allHappen 80 = .ok (.iload 4, 2) := by decide +kernel
theorem dX12_allHappen_82 : decode cX12_allHappen 82 = .ok (.iload 5, 2) := by decide +kernel
theorem dX12_allHappen_84 : decode cX12_allHappen 84 = .ok (.iadd, 1) := by decide +kernel
theorem dX12_allHappen_85 : decode cX12_allHappen 85 = .ok (.iaload, 1) := by decide +kernel
theorem dX12_allHappen_86 : decode cX12_allHappen 86 = .ok (.iastore, 1) := by decide +kernel
theorem dX12_allHappen_87 : decode cX12_allHappen 87 = .ok (.iinc 5 1, 3) := by decide +kernel
theorem dX12_allHappen_90 : decode cX12_allHappen 90 = .ok (.goto (-34), 3) := by decide +kernel
theorem dX12_allHappen_93 : decode cX12_allHappen 93 = .ok (.iinc 2 1, 3) := by decide +kernel
theorem dX12_allHappen_96 : decode cX12_allHappen 96 = .ok (.iinc 3 1, 3) := by decide +kernel
theorem dX12_allHappen_99 : decode cX12_allHappen 99 = .ok (.goto (-87), 3) := by decide +kernel
theorem dX12_allHappen_102 : decode cX12_allHappen 102 = .ok (.aload_n 0, 1) := by decide +kernel
theorem dX12_allHappen_103 : decode cX12_allHappen 103 = .ok (.getfield 13, 3) := by decide +kernel
theorem dX12_allHappen_106 : decode cX12_allHappen 106 = .ok (.bipush 7, 2) := by decide +kernel
theorem dX12_allHappen_108 : decode cX12_allHappen 108 = .ok (.iload_n 2, 1) := by decide +kernel
theorem dX12_allHappen_109 : decode cX12_allHappen 109 = .ok (.iastore, 1) := by decide +kernel
theorem dX12_allHappen_110 : decode cX12_allHappen 110 = .ok (.return_, 1) := by decide +kernel
theorem dX12_oneTick_0 : decode cX12_oneTick 0 = .ok (.iload_n 1, 1) := by decide +kernel
theorem dX12_oneTick_1 : decode cX12_oneTick 1 = .ok (.ifCond .eq 7, 3) := by decide +kernel
theorem dX12_oneTick_4 : decode cX12_oneTick 4 = .ok (.aload_n 0, 1) := by decide +kernel
theorem dX12_oneTick_5 : decode cX12_oneTick 5 = .ok (.invokevirtual 274, 3) := by decide +kernel
theorem dX12_oneTick_8 : decode cX12_oneTick 8 = .ok (.iconst 0, 1) := by decide +kernel
theorem dX12_oneTick_9 : decode cX12_oneTick 9 = .ok (.istore_n 2, 1) := by decide +kernel
theorem dX12_oneTick_10 : decode cX12_oneTick 10 = .ok (.iconst 0, 1) := by decide +kernel
theorem dX12_oneTick_11 : decode cX12_oneTick 11 = .ok (.istore_n 3, 1) := by decide +kernel
theorem dX12_oneTick_12 : decode cX12_oneTick 12 = .ok (.iload_n 3, 1) := by decide +kernel
theorem dX12_oneTick_13 : decode cX12_oneTick 13 = .ok (.aload_n 0, 1) := by decide +kernel
theorem dX12_oneTick_14 : decode cX12_oneTick 14 = .ok (.invokevirtual 66, 3) := by decide +kernel
theorem dX12_oneTick_17 : decode cX12_oneTick 17 = .ok (.if_icmp .ge 53, 3) := by decide +kernel
theorem dX12_oneTick_20 : decode cX12_oneTick 20 = .ok (.iconst 0, 1) := by decide +kernel
theorem dX12_oneTick_21 : decode cX12_oneTick 21 = .ok (.istore 4, 2) := by decide +kernel
theorem dX12_oneTick_23 : decode cX12_oneTick 23 = .ok (.iload 4, 2) := by decide +kernel
theorem dX12_oneTick_25 : decode cX12_oneTick 25 = .ok (.aload_n 0, 1) := by decide +kernel
theorem dX12_oneTick_26 : decode cX12_oneTick 26 = .ok (.invokevirtual 66, 3) := by decide +kernel
theorem dX12_oneTick_29 : decode cX12_oneTick 29 = .ok (.if_icmp .ge 35, 3) := by decide +kernel
theorem dX12_oneTick_32 : decode cX12_oneTick 32 = .ok (.aload_n 0, 1) := by decide +kernel
theorem dX12_oneTick_33 : decode cX12_oneTick 33 = .ok (.iload_n 3, 1) := by decide +kernel
theorem dX12_oneTick_34 : decode cX12_oneTick 34 = .ok (.invokevirtual 80, 3) := by decide +kernel
theorem dX12_oneTick_37 : decode cX12_oneTick 37 = .ok (.ifCond .eq 21, 3) := by decide +kernel
theorem dX12_oneTick_40 : decode cX12_oneTick 40 = .ok (.aload_n 0, 1) := by decide +kernel
theorem dX12_oneTick_41 : decode cX12_oneTick 41 = .ok (.iload 4, 2) := by decide +kernel
theorem dX12_oneTick_43 : decode cX12_oneTick 43 = .ok (.iload_n 3, 1) := by decide +kernel
theorem dX12_oneTick_44 : decode cX12_oneTick 44 = .ok (.iconst 1, 1) := by decide +kernel
theorem dX12_oneTick_45 : decode cX12_oneTick 45 = .ok (.invokevirtual 184, 3) := by decide +kernel
theorem dX12_oneTick_48 : decode cX12_oneTick 48 = .ok (.ifCond .ne 10, 3) := by decide +kernel
theorem dX12_oneTick_51 : decode cX12_oneTick 51 = .ok (.aload_n 0, 1) := by decide +kernel
theorem dX12_oneTick_52 : decode cX12_oneTick 52 = .ok (.iload 4, 2) := by decide +kernel
theorem dX12_oneTick_54 : decode cX12_oneTick 54 = .ok (.iload_n 3, 1) := by decide +kernel
theorem dX12_oneTick_55 : decode cX12_oneTick 55 = .ok (.invokevirtual 277, 3) := by decide +kernel
theorem dX12_oneTick_58 : decode cX12_oneTick 58 = .ok (.iinc 4 1, 3) := by decide +kernel
theorem dX12_oneTick_61 : decode cX12_oneTick 61 = .ok (.goto (-38), 3) := by decide +kernel
theorem dX12_oneTick_64 : decode cX12_oneTick 64 = .ok (.iinc 3 1, 3) := by decide +kernel
theorem dX12_oneTick_67 : decode cX12_oneTick 67 = .ok (.goto (-55), 3) := by decide +kernel
theorem dX12_oneTick_70 : decode cX12_oneTick 70 = .ok (.iconst 0, 1) := by decide +kernel
theorem dX12_oneTick_71 : decode cX12_oneTick 71 = .ok (.istore_n 3, 1) := by decide +kernel
theorem dX12_oneTick_72 : decode cX12_oneTick 72 = .ok (.iload_n 3, 1) := by decide +kernel
theorem dX12_oneTick_73 : decode cX12_oneTick 73 = .ok (.aload_n 0, 1) := by decide +kernel
theorem dX12_oneTick_74 : decode cX12_oneTick 74 = .ok (.invokevirtual 66, 3) := by decide +kernel
theorem dX12_oneTick_77 : decode cX12_oneTick 77 = .ok (.if_icmp .ge 22, 3) := by decide +kernel
theorem dX12_oneTick_80 : decode cX12_oneTick 80 = .ok (.aload_n 0, 1) := by decide +kernel
theorem dX12_oneTick_81 : decode cX12_oneTick 81 = .ok (.iload_n 3, 1) := by decide +kernel
theorem dX12_oneTick_82 : decode cX12_oneTick 82 = .ok (.invokevirtual 80, 3) := by decide +kernel
theorem dX12_oneTick_85 : decode cX12_oneTick 85 = .ok (.ifCond .eq 8, 3) := by decide +kernel
theorem dX12_oneTick_88 : decode cX12_oneTick 88 = .ok (.aload_n 0, 1) := by decide +kernel
theorem dX12_oneTick_89 : decode cX12_oneTick 89 = .ok (.iload_n 3, 1) := by decide +kernel
theorem dX12_oneTick_90 : decode cX12_oneTick 90 = .ok (.invokevirtual 280, 3) := by decide +kernel
theorem dX12_oneTick_93 : decode cX12_oneTick 93 = .ok (.iinc 3 1, 3) := by decide +kernel
theorem dX12_oneTick_96 : decode cX12_oneTick 96 = .ok (.goto (-24), 3) := by decide +kernel
theorem dX12_oneTick_99 : decode cX12_oneTick 99 = .ok (.iconst 0, 1) := by decide +kernel
theorem dX12_oneTick_100 : decode cX12_oneTick 100 = .ok (.istore_n 3, 1) := by decide +kernel
theorem dX12_oneTick_101 : decode cX12_oneTick 101 = .ok (.iload_n 3, 1) := by decide +kernel
theorem dX12_oneTick_102 : decode cX12_oneTick 102 = .ok (.aload_n 0, 1) := by decide +kernel
theorem dX12_oneTick_103 : decode cX12_oneTick 103 = .ok (.invokevirtual 66, 3) := by decide +kernel
theorem dX12_oneTick_106 : decode cX12_oneTick 106 = .ok (.if_icmp .ge 25, 3) := by decide +kernel
theorem dX12_oneTick_109 : decode cX12_oneTick 109 = .ok (.aload_n 0, 1) := by decide +kernel
theorem dX12_oneTick_110 : decode cX12_oneTick 110 = .ok (.iload_n 3, 1) := by decide +kernel
theorem dX12_oneTick_111 : decode cX12_oneTick 111 = .ok (.invokevirtual 80, 3) := by decide +kernel
theorem dX12_oneTick_114 : decode cX12_oneTick 114 = .ok (.ifCond .eq 11, 3) := by decide +kernel
theorem dX12_oneTick_117 : decode cX12_oneTick 117 = .ok (.iload_n 2, 1) := by decide +kernel
theorem dX12_oneTick_118 : decode cX12_oneTick 118 = .ok (.aload_n 0, 1) := by decide +kernel
theorem dX12_oneTick_119 : decode cX12_oneTick 119 = .ok (.iload_n 3, 1) := by decide +kernel
theorem dX12_oneTick_120 : decode cX12_oneTick 120 = .ok (.invokevirtual 283, 3) := by decide +kernel
theorem dX12_oneTick_123 : decode cX12_oneTick 123 = .ok (.iadd, 1) := by decide +kernel
theorem dX12_oneTick_124 : decode cX12_oneTick 124 = .ok (.istore_n 2, 1) := by decide +kernel
theorem dX12_oneTick_125 : decode cX12_oneTick 125 = .ok (.iinc 3 1, 3) := by decide +kernel
theorem dX12_oneTick_128 : decode cX12_oneTick 128 = .ok (.goto (-27), 3) := by decide +kernel
theorem dX12_oneTick_131 : decode cX12_oneTick 131 = .ok (.iconst 0, 1) := by decide +kernel
theorem dX12_oneTick_132 : decode cX12_oneTick 132 = .ok (.istore_n 3, 1) := by decide +kernel
theorem dX12_oneTick_133 : decode cX12_oneTick 133 = .ok (.iload_n 3, 1) := by decide +kernel
theorem dX12_oneTick_134 : decode cX12_oneTick 134 = .ok (.aload_n 0, 1) := by decide +kernel
theorem dX12_oneTick_135 : decode cX12_oneTick 135 = .ok (.invokevirtual 66, 3) := by decide +kernel
theorem dX12_oneTick_138 : decode cX12_oneTick 138 = .ok (.if_icmp .ge 48, 3) := by decide +kernel
theorem dX12_oneTick_141 : decode cX12_oneTick 141 = .ok (.iconst 0, 1) := by decide +kernel
theorem dX12_oneTick_142 : decode cX12_oneTick 142 = .ok (.istore 4, 2) := by decide +kernel
theorem dX12_oneTick_144 : decode cX12_oneTick 144 = .ok (.iload 4, 2) := by decide +kernel
theorem dX12_oneTick_146 : decode cX12_oneTick 146 = .ok (.aload_n 0, 1) := by decide +kernel
theorem dX12_oneTick_147 : decode cX12_oneTick 147 = .ok (.invokevirtual 66, 3) := by decide +kernel
theorem dX12_oneTick_150 : decode cX12_oneTick 150 = .ok (.if_icmp .ge 30, 3) := by decide +kernel
theorem dX12_oneTick_153 : decode cX12_oneTick 153 = .ok (.aload_n 0, 1) := by decide +kernel
theorem dX12_oneTick_154 : decode cX12_oneTick 154 = .ok (.iload_n 3, 1) := by decide +kernel
theorem dX12_oneTick_155 : decode cX12_oneTick 155 = .ok (.invokevirtual 80, 3) := by decide +kernel
theorem dX12_oneTick_158 : decode cX12_oneTick 158 = .ok (.ifCond .ne 16, 3) := by decide +kernel
theorem dX12_oneTick_161 : decode cX12_oneTick 161 = .ok (.aload_n 0, 1) := by decide +kernel
theorem dX12_oneTick_162 : decode cX12_oneTick 162 = .ok (.getfield 13, 3) := by decide +kernel
theorem dX12_oneTick_165 : decode cX12_oneTick 165 = .ok (.iload 4, 2) := by decide +kernel
theorem dX12_oneTick_167 : decode cX12_oneTick 167 = .ok (.iload_n 3, 1) := by decide +kernel
theorem dX12_oneTick_168 : decode cX12_oneTick 168 = .ok (.iconst 2, 1) := by decide +kernel
theorem dX12_oneTick_169 : decode cX12_oneTick 169 = .ok (.invokestatic 49, 3) := by decide +kernel
theorem dX12_oneTick_172 : decode cX12_oneTick 172 = .ok (.iconst 0, 1) := by decide +kernel
theorem dX12_oneTick_173 : decode cX12_oneTick 173 = .ok (.iastore, 1) := by decide +kernel
theorem dX12_oneTick_174 : decode cX12_oneTick 174 = .ok (.iinc 4 1, 3) := by decide +kernel
theorem dX12_oneTick_177 : decode cX12_oneTick 177 = .ok (.goto (-33), 3) := by decide +kernel
theorem dX12_oneTick_180 : decode cX12_oneTick 180 = .ok (.iinc 3 1, 3) := by decide +kernel
theorem dX12_oneTick_183 : decode cX12_oneTick 183 = .ok (.goto (-50), 3) := by decide +kernel
theorem dX12_oneTick_186 : decode cX12_oneTick 186 = .ok (.aload_n 0, 1) := by decide +kernel
theorem dX12_oneTick_187 : decode cX12_oneTick 187 = .ok (.getfield 13, 3) := by decide +kernel
theorem dX12_oneTick_190 : decode cX12_oneTick 190 = .ok (.iconst 4, 1) := by decide +kernel
theorem dX12_oneTick_191 : decode cX12_oneTick 191 = .ok (.dup2, 1) := by decide +kernel
theorem dX12_oneTick_192 : decode cX12_oneTick 192 = .ok (.iaload, 1) := by decide +kernel
theorem dX12_oneTick_193 : decode cX12_oneTick 193 = .ok (.iconst 1, 1) := by decide +kernel
theorem dX12_oneTick_194 : decode cX12_oneTick 194 = .ok (.iadd, 1) := by decide +kernel
theorem dX12_oneTick_195 : decode cX12_oneTick 195 = .ok (.iastore, 1) := by decide +kernel
theorem dX12_oneTick_196 : decode cX12_oneTick 196 = .ok (.iload_n 2, 1) := by decide +kernel
theorem dX12_oneTick_197 : decode cX12_oneTick 197 = .ok (.ireturn, 1) := by decide +kernel
theorem dX12_ticks_0 : decode cX12_ticks 0 = .ok (.aload_n 0, 1) := by decide +kernel
theorem dX12_ticks_1 : decode cX12_ticks 1 = .ok (.iconst 0, 1) := by decide +kernel
theorem dX12_ticks_2 : decode cX12_ticks 2 = .ok (.putfield 3, 3) := by decide +kernel
theorem dX12_ticks_5 : decode cX12_ticks 5 = .ok (.aload_n 0, 1) := by decide +kernel
theorem dX12_ticks_6 : decode cX12_ticks 6 = .ok (.iload_n 1, 1) := by decide +kernel
theorem dX12_ticks_7 : decode cX12_ticks 7 = .ok (.iconst 1, 1) := by decide +kernel
theorem dX12_ticks_8 : decode cX12_ticks 8 = .ok (.bipush 60, 2) := by decide +kernel
theorem dX12_ticks_10 : decode cX12_ticks 10 = .ok (.invokestatic 70, 3) := by decide +kernel
theorem dX12_ticks_13 : decode cX12_ticks 13 = .ok (.ifCond .ne 7, 3) := by decide +kernel
theorem dX12_ticks_16 : decode cX12_ticks 16 = .ok (.iconst 1, 1) := by decide +kernel
theorem dX12_ticks_17 : decode cX12_ticks 17 = .ok (.goto 4, 3) := by decide +kernel
theorem dX12_ticks_20 : decode cX12_ticks 20 = .ok (.iconst 0, 1) := by decide +kernel
theorem dX12_ticks_21 : decode cX12_ticks 21 = .ok (.iconst 1, 1) := by decide +kernel
theorem dX12_ticks_22 : decode cX12_ticks 22 = .ok (.invokevirtual 176, 3) := by decide +kernel
theorem dX12_ticks_25 : decode cX12_ticks 25 = .ok (.ifCond .eq 5, 3) := by decide +kernel
theorem dX12_ticks_28 : decode cX12_ticks 28 = .ok (.iconst 0, 1) := by decide +kernel
theorem dX12_ticks_29 : decode cX12_ticks 29 = .ok (.ireturn, 1) := by decide +kernel
theorem dX12_ticks_30 : decode cX12_ticks 30 = .ok (.iconst 0, 1) := by decide +kernel
theorem dX12_ticks_31 : decode cX12_ticks 31 = .ok (.istore_n 2, 1) := by decide +kernel
theorem dX12_ticks_32 : decode cX12_ticks 32 = .ok (.iconst 0, 1) := by decide +kernel
theorem dX12_ticks_33 : decode cX12_ticks 33 = .ok (.istore_n 3, 1) := by decide +kernel
theorem dX12_ticks_34 : decode cX12_ticks 34 = .ok (.iload_n 3, 1) := by decide +kernel
theorem dX12_ticks_35 : decode cX12_ticks 35 = .ok (.iload_n 1, 1) := by decide +kernel
theorem dX12_ticks_36 : decode cX12_ticks 36 = .ok (.if_icmp .ge 17, 3) := by decide +kernel
theorem dX12_ticks_39 : decode cX12_ticks 39 = .ok (.iload_n 2, 1) := by decide +kernel
theorem dX12_ticks_40 : decode cX12_ticks 40 = .ok (.aload_n 0, 1) := by decide +kernel
theorem dX12_ticks_41 : decode cX12_ticks 41 = .ok (.iconst 1, 1) := by decide +kernel
theorem dX12_ticks_42 : decode cX12_ticks 42 = .ok (.invokevirtual 286, 3) := by decide +kernel
theorem dX12_ticks_45 : decode cX12_ticks 45 = .ok (.iadd, 1) := by decide +kernel
theorem dX12_ticks_46 : decode cX12_ticks 46 = .ok (.istore_n 2, 1) := by decide +kernel
theorem dX12_ticks_47 : decode cX12_ticks 47 = .ok (.iinc 3 1, 3) := by decide +kernel
theorem dX12_ticks_50 : decode cX12_ticks 50 = .ok (.goto (-16), 3) := by decide +kernel
theorem dX12_ticks_53 : decode cX12_ticks 53 = .ok (.iload_n 2, 1) := by decide +kernel
theorem dX12_ticks_54 : decode cX12_ticks 54 = .ok (.ireturn, 1) := by decide +kernel
theorem dX12_goesOn_0 : decode cX12_goesOn 0 = .ok (.iconst 0, 1) := by decide +kernel
theorem dX12_goesOn_1 : decode cX12_goesOn 1 = .ok (.istore_n 2, 1) := by decide +kernel
theorem dX12_goesOn_2 : decode cX12_goesOn 2 = .ok (.iload_n 2, 1) := by decide +kernel
theorem dX12_goesOn_3 : decode cX12_goesOn 3 = .ok (.iload_n 1, 1) := by decide +kernel
theorem dX12_goesOn_4 : decode cX12_goesOn 4 = .ok (.if_icmp .ge 15, 3) := by decide +kernel
theorem dX12_goesOn_7 : decode cX12_goesOn 7 = .ok (.aload_n 0, 1) := by decide +kernel
theorem dX12_goesOn_8 : decode cX12_goesOn 8 = .ok (.iconst 0, 1) := by decide +kernel
theorem dX12_goesOn_9 : decode cX12_goesOn 9 = .ok (.invokevirtual 286, 3) := by decide +kernel
theorem dX12_goesOn_12 : decode cX12_goesOn 12 = .ok (.pop, 1) := by decide +kernel
theorem dX12_goesOn_13 : decode cX12_goesOn 13 = .ok (.iinc 2 1, 3) := by decide +kernel
theorem dX12_goesOn_16 : decode cX12_goesOn 16 = .ok (.goto (-14), 3) := by decide +kernel
theorem dX12_goesOn_19 : decode cX12_goesOn 19 = .ok (.return_, 1) := by decide +kernel
theorem dX12_beginsAhead_0 : decode cX12_beginsAhead 0 = .ok (.aload_n 0, 1) := by decide +kernel
theorem dX12_beginsAhead_1 : decode cX12_beginsAhead 1 = .ok (.invokevirtual 290, 3) := by decide +kernel
theorem dX12_beginsAhead_4 : decode cX12_beginsAhead 4 = .ok (.aload_n 0, 1) := by decide +kernel
theorem dX12_beginsAhead_5 : decode cX12_beginsAhead 5 = .ok (.iconst 0, 1) := by decide +kernel
theorem dX12_beginsAhead_6 : decode cX12_beginsAhead 6 = .ok (.putfield 36, 3) := by decide +kernel
theorem dX12_beginsAhead_9 : decode cX12_beginsAhead 9 = .ok (.return_, 1) := by decide +kernel
theorem dX12_endsAhead_0 : decode cX12_endsAhead 0 = .ok (.aload_n 0, 1) := by decide +kernel
theorem dX12_endsAhead_1 : decode cX12_endsAhead 1 = .ok (.iconst 1, 1) := by decide +kernel
theorem dX12_endsAhead_2 : decode cX12_endsAhead 2 = .ok (.putfield 36, 3) := by decide +kernel
theorem dX12_endsAhead_5 : decode cX12_endsAhead 5 = .ok (.aload_n 0, 1) := by decide +kernel
theorem dX12_endsAhead_6 : decode cX12_endsAhead 6 = .ok (.invokevirtual 293, 3) := by decide +kernel
theorem dX12_endsAhead_9 : decode cX12_endsAhead 9 = .ok (.return_, 1) := by decide +kernel
theorem dX12_send_0 : decode cX12_send 0 = .ok (.aload_n 0, 1) := by decide +kernel
theorem dX12_send_1 : decode cX12_send 1 = .ok (.iconst 0, 1) := by decide +kernel
theorem dX12_send_2 : decode cX12_send 2 = .ok (.putfield 3, 3) := by decide +kernel
theorem dX12_send_5 : decode cX12_send 5 = .ok (.aload_n 0, 1) := by decide +kernel
theorem dX12_send_6 : decode cX12_send 6 = .ok (.aload_n 0, 1) := by decide +kernel
theorem dX12_send_7 : decode cX12_send 7 = .ok (.iload_n 1, 1) := by decide +kernel
theorem dX12_send_8 : decode cX12_send 8 = .ok (.invokevirtual 296, 3) := by decide +kernel
theorem dX12_send_11 : decode cX12_send 11 = .ok (.ifCond .ne 11, 3) := by decide +kernel
theorem dX12_send_14 : decode cX12_send 14 = .ok (.aload_n 0, 1) := by decide +kernel
theorem dX12_send_15 : decode cX12_send 15 = .ok (.iload_n 2, 1) := by decide +kernel
theorem dX12_send_16 : decode cX12_send 16 = .ok (.invokevirtual 299, 3) := by decide +kernel
theorem dX12_send_19 : decode cX12_send 19 = .ok (.ifCond .eq 7, 3) := by decide +kernel
theorem dX12_send_22 : decode cX12_send 22 = .ok (.iconst 1, 1) := by decide +kernel
theorem dX12_send_23 : decode cX12_send 23 = .ok (.goto 4, 3) := by decide +kernel
theorem dX12_send_26 : decode cX12_send 26 = .ok (.iconst 0, 1) := by decide +kernel
theorem dX12_send_27 : decode cX12_send 27 = .ok (.iconst 1, 1) := by decide +kernel
theorem dX12_send_28 : decode cX12_send 28 = .ok (.invokevirtual 176, 3) := by decide +kernel
theorem dX12_send_31 : decode cX12_send 31 = .ok (.ifCond .ne 33, 3) := by decide +kernel
theorem dX12_send_34 : decode cX12_send 34 = .ok (.aload_n 0, 1) := by decide +kernel
theorem dX12_send_35 : decode cX12_send 35 = .ok (.aload_n 0, 1) := by decide +kernel
theorem dX12_send_36 : decode cX12_send 36 = .ok (.iload_n 1, 1) := by decide +kernel
theorem dX12_send_37 : decode cX12_send 37 = .ok (.invokevirtual 80, 3) := by decide +kernel
theorem dX12_send_40 : decode cX12_send 40 = .ok (.ifCond .eq 12, 3) := by decide +kernel
theorem dX12_send_43 : decode cX12_send 43 = .ok (.aload_n 0, 1) := by decide +kernel
theorem dX12_send_44 : decode cX12_send 44 = .ok (.invokevirtual 74, 3) := by decide +kernel
theorem dX12_send_47 : decode cX12_send 47 = .ok (.bipush 20, 2) := by decide +kernel
theorem dX12_send_49 : decode cX12_send 49 = .ok (.if_icmp .ne 7, 3) := by decide +kernel
theorem dX12_send_52 : decode cX12_send 52 = .ok (.iconst 1, 1) := by decide +kernel
theorem dX12_send_53 : decode cX12_send 53 = .ok (.goto 4, 3) := by decide +kernel
theorem dX12_send_56 : decode cX12_send 56 = .ok (.iconst 0, 1) := by decide +kernel
theorem dX12_send_57 : decode cX12_send 57 = .ok (.iconst 2, 1) := by decide +kernel
theorem dX12_send_58 : decode cX12_send 58 = .ok (.invokevirtual 176, 3) := by decide +kernel
theorem dX12_send_61 : decode cX12_send 61 = .ok (.ifCond .eq 5, 3) := by decide +kernel
theorem dX12_send_64 : decode cX12_send 64 = .ok (.iconst 0, 1) := by decide +kernel
theorem dX12_send_65 : decode cX12_send 65 = .ok (.ireturn, 1) := by decide +kernel
theorem dX12_send_66 : decode cX12_send 66 = .ok (.aload_n 0, 1) := by decide +kernel
theorem dX12_send_67 : decode cX12_send 67 = .ok (.iload_n 1, 1) := by decide +kernel
theorem dX12_send_68 : decode cX12_send 68 = .ok (.iload_n 2, 1) := by decide +kernel
theorem dX12_send_69 : decode cX12_send 69 = .ok (.invokevirtual 268, 3) := by decide +kernel
theorem dX12_send_72 : decode cX12_send 72 = .ok (.ireturn, 1) := by decide +kernel
theorem dX12_crash_0 : decode cX12_crash 0 = .ok (.aload_n 0, 1) := by decide +kernel
theorem dX12_crash_1 : decode cX12_crash 1 = .ok (.iconst 0, 1) := by decide +kernel
theorem dX12_crash_2 : decode cX12_crash 2 = .ok (.putfield 3, 3) := by decide +kernel
theorem dX12_crash_5 : decode cX12_crash 5 = .ok (.aload_n 0, 1) := by decide +kernel
theorem dX12_crash_6 : decode cX12_crash 6 = .ok (.aload_n 0, 1) := by decide +kernel
theorem dX12_crash_7 : decode cX12_crash 7 = .ok (.iload_n 1, 1) := by decide +kernel
theorem dX12_crash_8 : decode cX12_crash 8 = .ok (.invokevirtual 296, 3) := by decide +kernel
theorem dX12_crash_11 : decode cX12_crash 11 = .ok (.iconst 1, 1) := by decide +kernel
theorem dX12_crash_12 : decode cX12_crash 12 = .ok (.invokevirtual 176, 3) := by decide +kernel
theorem dX12_crash_15 : decode cX12_crash 15 = .ok (.ifCond .ne 24, 3) := by decide +kernel
theorem dX12_crash_18 : decode cX12_crash 18 = .ok (.aload_n 0, 1) := by decide +kernel
theorem dX12_crash_19 : decode cX12_crash 19 = .ok (.aload_n 0, 1) := by decide +kernel
theorem dX12_crash_20 : decode cX12_crash 20 = .ok (.iload_n 1, 1) := by decide +kernel
theorem dX12_crash_21 : decode cX12_crash 21 = .ok (.invokevirtual 80, 3) := by decide +kernel
theorem dX12_crash_24 : decode cX12_crash 24 = .ok (.ifCond .ne 7, 3) := by decide +kernel
theorem dX12_crash_27 : decode cX12_crash 27 = .ok (.iconst 1, 1) := by decide +kernel
theorem dX12_crash_28 : decode cX12_crash 28 = .ok (.goto 4, 3) := by decide +kernel
theorem dX12_crash_31 : decode cX12_crash 31 = .ok (.iconst 0, 1) := by decide +kernel
theorem dX12_crash_32 : decode cX12_crash 32 = .ok (.iconst 2, 1) := by decide +kernel
theorem dX12_crash_33 : decode cX12_crash 33 = .ok (.invokevirtual 176, 3) := by decide +kernel
theorem dX12_crash_36 : decode cX12_crash 36 = .ok (.ifCond .eq 4, 3) := by decide +kernel
theorem dX12_crash_39 : decode cX12_crash 39 = .ok (.return_, 1) := by decide +kernel
theorem dX12_crash_40 : decode cX12_crash 40 = .ok (.aload_n 0, 1) := by decide +kernel
theorem dX12_crash_41 : decode cX12_crash 41 = .ok (.iload_n 1, 1) := by decide +kernel
theorem dX12_crash_42 : decode cX12_crash 42 = .ok (.invokevirtual 264, 3) := by decide +kernel
theorem dX12_crash_45 : decode cX12_crash 45 = .ok (.aload_n 0, 1) := by decide +kernel
theorem dX12_crash_46 : decode cX12_crash 46 = .ok (.iload_n 1, 1) := by decide +kernel
theorem dX12_crash_47 : decode cX12_crash 47 = .ok (.iconst 2, 1) := by decide +kernel
theorem dX12_crash_48 : decode cX12_crash 48 = .ok (.iconst (-1), 1) := by decide +kernel
theorem dX12_crash_49 : decode cX12_crash 49 = .ok (.invokevirtual 207, 3) := by decide +kernel
theorem dX12_crash_52 : decode cX12_crash 52 = .ok (.return_, 1) := by decide +kernel
theorem dX12_hold_0 : decode cX12_hold 0 = .ok (.aload_n 0, 1) := by decide +kernel
theorem dX12_hold_1 : decode cX12_hold 1 = .ok (.iconst 0, 1) := by decide +kernel
theorem dX12_hold_2 : decode cX12_hold 2 = .ok (.putfield 3, 3) := by decide +kernel
theorem dX12_hold_5 : decode cX12_hold 5 = .ok (.aload_n 0, 1) := by decide +kernel
theorem dX12_hold_6 : decode cX12_hold 6 = .ok (.aload_n 0, 1) := by decide +kernel
theorem dX12_hold_7 : decode cX12_hold 7 = .ok (.iload_n 1, 1) := by decide +kernel
theorem dX12_hold_8 : decode cX12_hold 8 = .ok (.invokevirtual 296, 3) := by decide +kernel
theorem dX12_hold_11 : decode cX12_hold 11 = .ok (.ifCond .ne 11, 3) := by decide +kernel
theorem dX12_hold_14 : decode cX12_hold 14 = .ok (.aload_n 0, 1) := by decide +kernel
theorem dX12_hold_15 : decode cX12_hold 15 = .ok (.iload_n 2, 1) := by decide +kernel
theorem dX12_hold_16 : decode cX12_hold 16 = .ok (.invokevirtual 296, 3) := by decide +kernel
theorem dX12_hold_19 : decode cX12_hold 19 = .ok (.ifCond .eq 7, 3) := by decide +kernel
theorem dX12_hold_22 : decode cX12_hold 22 = .ok (.iconst 1, 1) := by decide +kernel
theorem dX12_hold_23 : decode cX12_hold 23 = .ok (.goto 4, 3) := by decide +kernel
theorem dX12_hold_26 : decode cX12_hold 26 = .ok (.iconst 0, 1) := by decide +kernel
theorem dX12_hold_27 : decode cX12_hold 27 = .ok (.iconst 1, 1) := by decide +kernel
theorem dX12_hold_28 : decode cX12_hold 28 = .ok (.invokevirtual 176, 3) := by decide +kernel
theorem dX12_hold_31 : decode cX12_hold 31 = .ok (.ifCond .eq 5, 3) := by decide +kernel
theorem dX12_hold_34 : decode cX12_hold 34 = .ok (.iconst 0, 1) := by decide +kernel
theorem dX12_hold_35 : decode cX12_hold 35 = .ok (.ireturn, 1) := by decide +kernel
theorem dX12_hold_36 : decode cX12_hold 36 = .ok (.aload_n 0, 1) := by decide +kernel
theorem dX12_hold_37 : decode cX12_hold 37 = .ok (.iload_n 1, 1) := by decide +kernel
theorem dX12_hold_38 : decode cX12_hold 38 = .ok (.iload_n 2, 1) := by decide +kernel
theorem dX12_hold_39 : decode cX12_hold 39 = .ok (.iconst 1, 1) := by decide +kernel
theorem dX12_hold_40 : decode cX12_hold 40 = .ok (.invokevirtual 184, 3) := by decide +kernel
theorem dX12_hold_43 : decode cX12_hold 43 = .ok (.iconst 1, 1) := by decide +kernel
theorem dX12_hold_44 : decode cX12_hold 44 = .ok (.if_icmp .ne 7, 3) := by decide +kernel
theorem dX12_hold_47 : decode cX12_hold 47 = .ok (.iconst 1, 1) := by decide +kernel
theorem dX12_hold_48 : decode cX12_hold 48 = .ok (.goto 4, 3) := by decide +kernel
theorem dX12_hold_51 : decode cX12_hold 51 = .ok (.iconst 0, 1) := by decide +kernel
theorem dX12_hold_52 : decode cX12_hold 52 = .ok (.istore 4, 2) := by decide +kernel
theorem dX12_hold_54 : decode cX12_hold 54 = .ok (.aload_n 0, 1) := by decide +kernel
theorem dX12_hold_55 : decode cX12_hold 55 = .ok (.getfield 13, 3) := by decide +kernel
theorem dX12_hold_58 : decode cX12_hold 58 = .ok (.iload_n 1, 1) := by decide +kernel
theorem dX12_hold_59 : decode cX12_hold 59 = .ok (.iload_n 2, 1) := by decide +kernel
theorem dX12_hold_60 : decode cX12_hold 60 = .ok (.iconst 1, 1) := by decide +kernel
theorem dX12_hold_61 : decode cX12_hold 61 = .ok (.invokestatic 49, 3) := by decide +kernel
theorem dX12_hold_64 : decode cX12_hold 64 = .ok (.iload_n 3, 1) := by decide +kernel
theorem dX12_hold_65 : decode cX12_hold 65 = .ok (.ifCond .eq 7, 3) := by decide +kernel
theorem dX12_hold_68 : decode cX12_hold 68 = .ok (.iconst 1, 1) := by decide +kernel
theorem dX12_hold_69 : decode cX12_hold 69 = .ok (.goto 4, 3) := by decide +kernel
theorem dX12_hold_72 : decode cX12_hold 72 = .ok (.iconst 0, 1) := by decide +kernel
theorem dX12_hold_73 : decode cX12_hold 73 = .ok (.iastore, 1) := by decide +kernel
theorem dX12_hold_74 : decode cX12_hold 74 = .ok (.iload 4, 2) := by decide +kernel
theorem dX12_hold_76 : decode cX12_hold 76 = .ok (.iload_n 3, 1) := by decide +kernel
theorem dX12_hold_77 : decode cX12_hold 77 = .ok (.if_icmp .eq 7, 3) := by decide +kernel
theorem dX12_hold_80 : decode cX12_hold 80 = .ok (.iconst 1, 1) := by decide +kernel
theorem dX12_hold_81 : decode cX12_hold 81 = .ok (.goto 4, 3) := by decide +kernel
theorem dX12_hold_84 : decode cX12_hold 84 = .ok (.iconst 0, 1) := by decide +kernel
theorem dX12_hold_85 : decode cX12_hold 85 = .ok (.ireturn, 1) := by decide +kernel
theorem dX12_bitsWith_0 : decode cX12_bitsWith 0 = .ok (.iconst 0, 1) := by decide +kernel
theorem dX12_bitsWith_1 : decode cX12_bitsWith 1 = .ok (.istore_n 3, 1) := by decide +kernel
theorem dX12_bitsWith_2 : decode cX12_bitsWith 2 = .ok (.iconst 0, 1) := by decide +kernel
theorem dX12_bitsWith_3 : decode cX12_bitsWith 3 = .ok (.istore 4, 2) := by decide +kernel
theorem dX12_bitsWith_5 : decode cX12_bitsWith 5 = .ok (.iload 4, 2) := by decide +kernel
theorem dX12_bitsWith_7 : decode cX12_bitsWith 7 = .ok (.aload_n 0, 1) := by decide +kernel
theorem dX12_bitsWith_8 : decode cX12_bitsWith 8 = .ok (.invokevirtual 74, 3) := by decide +kernel
theorem dX12_bitsWith_11 : decode cX12_bitsWith 11 = .ok (.if_icmp .ge 32, 3) := by decide +kernel
theorem dX12_bitsWith_14 : decode cX12_bitsWith 14 = .ok (.iload_n 3, 1) := by decide +kernel
theorem dX12_bitsWith_15 : decode cX12_bitsWith 15 = .ok (.aload_n 0, 1) := by decide +kernel
theorem dX12_bitsWith_16 : decode cX12_bitsWith 16 = .ok (.iload_n 1, 1) := by decide +kernel
theorem dX12_bitsWith_17 : decode cX12_bitsWith 17 = .ok (.iload 4, 2) := by decide +kernel
theorem dX12_bitsWith_19 : decode cX12_bitsWith 19 = .ok (.iconst 0, 1) := by decide +kernel
theorem dX12_bitsWith_20 : decode cX12_bitsWith 20 = .ok (.invokevirtual 219, 3) := by decide +kernel
theorem dX12_bitsWith_23 : decode cX12_bitsWith 23 = .ok (.iload_n 2, 1) := by decide +kernel
theorem dX12_bitsWith_24 : decode cX12_bitsWith 24 = .ok (.if_icmp .ne 10, 3) := by decide +kernel
theorem dX12_bitsWith_27 : decode cX12_bitsWith 27 = .ok (.iconst 1, 1) := by decide +kernel
theorem dX12_bitsWith_28 : decode cX12_bitsWith 28 = .ok (.iload 4, 2) := by decide +kernel
theorem dX12_bitsWith_30 : decode cX12_bitsWith 30 = .ok (.ishl, 1) := by decide +kernel
theorem dX12_bitsWith_31 : decode cX12_bitsWith 31 = .ok (.goto 4, 3) := by decide +kernel
theorem dX12_bitsWith_34 : decode cX12_bitsWith 34 = .ok (.iconst 0, 1) := by decide +kernel
theorem dX12_bitsWith_35 : decode cX12_bitsWith 35 = .ok (.ior, 1) := by decide +kernel
theorem dX12_bitsWith_36 : decode cX12_bitsWith 36 = .ok (.istore_n 3, 1) := by decide +kernel
theorem dX12_bitsWith_37 : decode cX12_bitsWith 37 = .ok (.iinc 4 1, 3) := by decide +kernel
theorem dX12_bitsWith_40 : decode cX12_bitsWith 40 = .ok (.goto (-35), 3) := by decide +kernel
theorem dX12_bitsWith_43 : decode cX12_bitsWith 43 = .ok (.iload_n 3, 1) := by decide +kernel
theorem dX12_bitsWith_44 : decode cX12_bitsWith 44 = .ok (.ireturn, 1) := by decide +kernel
section S_13_m03
variable {p : Program} {l : Launch} {e : Env} {R : Room} {s : State} {m : MethodId} {args : Array Value} {below : List Frame} {meth : Method} {c : Code} {A : Nat → Prop} {D : va_G} {cI cB cL : ClassId} {ad : Nat → Nat} {pa pl : Nat}
noncomputable def fX12_isHeir_86 (K52 : Int32 → Int32 → Int32 → Int32 → Option Int32) (x1 : Int32) (x2 : Int32) (x4 : Int32) (t0 : Int32) (u : Sg) : Option Int32 := bnd (x4 + 1) (fun v7 => K52 x1 x2 t0 v7)
noncomputable def fX12_isHeir_85 (K52 : Int32 → Int32 → Int32 → Int32 → Option Int32) (x1 : Int32) (x2 : Int32) (x4 : Int32) (u : Sg) : Option Int32 := fX12_isHeir_86 K52 x1 x2 x4 0 u
noncomputable def fX12_isHeir_81 (K52 : Int32 → Int32 → Int32 → Int32 → Option Int32) (x1 : Int32) (x2 : Int32) (x4 : Int32) (u : Sg) : Option Int32 := fX12_isHeir_86 K52 x1 x2 x4 1 u
noncomputable def fX12_isHeir_52 (u : Sg) : Nat → Int32 → Int32 → Int32 → Int32 → Option Int32
  | 0, _, _, _, _ => none
  | n + 1, x1, x2, x3, x4 => cnd (x1 ≤ x4) (grd (isB x3) (some x3)) (cnd (x3 = 0) (fX12_isHeir_85 (fun a0 a1 a2 a3 => fX12_isHeir_52 u n a0 a1 a2 a3) x1 x2 x4 u) (obr (fX12_isTo x2 x4 u) (fun r9 => cnd (r9 = 0) (fX12_isHeir_81 (fun a0 a1 a2 a3 => fX12_isHeir_52 u n a0 a1 a2 a3) x1 x2 x4 u) (obr (fX12_isNoticed x4 u) (fun r12 => cnd (r12 = 0) (fX12_isHeir_85 (fun a0 a1 a2 a3 => fX12_isHeir_52 u n a0 a1 a2 a3) x1 x2 x4 u) (fX12_isHeir_81 (fun a0 a1 a2 a3 => fX12_isHeir_52 u n a0 a1 a2 a3) x1 x2 x4 u))))))
noncomputable def fX12_isHeir_48 (x1 : Int32) (x2 : Int32) (t0 : Int32) (u : Sg) : Option Int32 := fX12_isHeir_52 u FU x1 x2 t0 0
noncomputable def fX12_isHeir_47 (x1 : Int32) (x2 : Int32) (u : Sg) : Option Int32 := fX12_isHeir_48 x1 x2 0 u
noncomputable def fX12_isHeir_0 (x1 : Int32) (x2 : Int32) (u : Sg) : Option Int32 := obr (fX12_ofPair x1 x2 0 u) (fun r2 => cnd (r2 = 0) (fX12_isHeir_47 x1 x2 u) (obr (fX12_ofPair x1 x2 3 u) (fun r15 => obr (fX12_isNoticed r15 u) (fun r17 => cnd (r17 = 0) (fX12_isHeir_47 x1 x2 u) (obr (fX12_isTo x2 x1 u) (fun r20 => cnd (r20 = 0) (fX12_isHeir_47 x1 x2 u) (obr (fX12_ofPair x1 x2 5 u) (fun r23 => cnd (r23 = 0) (fX12_isHeir_48 x1 x2 1 u) (fX12_isHeir_47 x1 x2 u)))))))))
noncomputable def fX12_isHeir (x1 : Int32) (x2 : Int32) (u : Sg) : Option Int32 := fX12_isHeir_0 x1 x2 u
set_option maxRecDepth 10000 in
set_option maxHeartbeats 4000000 in
theorem wX12_isHeir_86 (C : cx D (tyl cI cB cL) A RX12 cX12_isHeir 5 (some .boolean) p s m args c meth) (hR : 4 ≤ R.frames ∧ 85 ≤ R.locals) {r : Int32} (u : Sg) {K52 : Int32 → Int32 → Int32 → Int32 → Option Int32} (hK52 : ∀ (y1 : Int32) (y2 : Int32) (y3 : Int32) (y4 : Int32) (H : Heap) (locs : List Loc) (ls : Array Slot), lv_has ls 5 [(0, .ref (ad 0)), (1, .int y1), (2, .int y2), (3, .int y3), (4, .int y4)] → st D (wM cI cB ad) A s u H locs → K52 y1 y2 y3 y4 = some r → W p l e R s m args below meth c H locs 0 0 (MQ below (qI D (tyl cI cB cL) (wM cI cB ad) A r u) args s 0 0 A) (F0 m 52 ls [])) (x1 : Int32) (x2 : Int32) (x4 : Int32) (t0 : Int32) {H : Heap} {locs : List Loc} {ls : Array Slot} (hl : lv_has ls 5 [(0, .ref (ad 0)), (1, .int x1), (2, .int x2), (4, .int x4)]) (S : st D (wM cI cB ad) A s u H locs) (h : fX12_isHeir_86 K52 x1 x2 x4 t0 u = some r) : W p l e R s m args below meth c H locs 0 0 (MQ below (qI D (tyl cI cB cL) (wM cI cB ad) A r u) args s 0 0 A) (F0 m 86 ls [.int t0]) := by
  have hx := C.1
  have hb := C.2.1
  have hsz := hl.1
  unfold fX12_isHeir_86 at h
  refine lv_istore_n (lv' := [(3, .int t0), (0, .ref (ad 0)), (1, .int x1), (2, .int x2), (4, .int x4)]) hx hb dX12_isHeir_86 rfl hl (by decide) rfl (fun ls hl => ?_)
  have hsz := hl.1
  obtain ⟨v7, ev7⟩ : ∃ y : Int32, y = x4 + 1 := ⟨_, rfl⟩
  have h := bnd_of ev7 h
  refine lv_iinc (v := v7) (lv' := [(4, .int v7), (3, .int t0), (0, .ref (ad 0)), (1, .int x1), (2, .int x2)]) hx hb dX12_isHeir_87 hl (k := 4) rfl (by rw [ev7]; rfl) (by decide) rfl (fun ls hl => ?_)
  have hsz := hl.1
  refine lv_goto (tgt := 52) hx hb dX12_isHeir_90 (by decide) ?_
  exact hK52 x1 x2 t0 v7 H locs ls (lv_sub hl [2, 3, 4, 1, 0] rfl) S h
set_option maxRecDepth 10000 in
set_option maxHeartbeats 4000000 in
theorem wX12_isHeir_85 (C : cx D (tyl cI cB cL) A RX12 cX12_isHeir 5 (some .boolean) p s m args c meth) (hR : 4 ≤ R.frames ∧ 85 ≤ R.locals) {r : Int32} (u : Sg) {K52 : Int32 → Int32 → Int32 → Int32 → Option Int32} (hK52 : ∀ (y1 : Int32) (y2 : Int32) (y3 : Int32) (y4 : Int32) (H : Heap) (locs : List Loc) (ls : Array Slot), lv_has ls 5 [(0, .ref (ad 0)), (1, .int y1), (2, .int y2), (3, .int y3), (4, .int y4)] → st D (wM cI cB ad) A s u H locs → K52 y1 y2 y3 y4 = some r → W p l e R s m args below meth c H locs 0 0 (MQ below (qI D (tyl cI cB cL) (wM cI cB ad) A r u) args s 0 0 A) (F0 m 52 ls [])) (x1 : Int32) (x2 : Int32) (x4 : Int32) {H : Heap} {locs : List Loc} {ls : Array Slot} (hl : lv_has ls 5 [(0, .ref (ad 0)), (1, .int x1), (2, .int x2), (4, .int x4)]) (S : st D (wM cI cB ad) A s u H locs) (h : fX12_isHeir_85 K52 x1 x2 x4 u = some r) : W p l e R s m args below meth c H locs 0 0 (MQ below (qI D (tyl cI cB cL) (wM cI cB ad) A r u) args s 0 0 A) (F0 m 85 ls []) := by
  have hx := C.1
  have hb := C.2.1
  have hsz := hl.1
  unfold fX12_isHeir_85 at h
  refine lv_iconst (v := 0) hx hb dX12_isHeir_85 (by decide) ?_
  exact wX12_isHeir_86 C hR u hK52 x1 x2 x4 0 (lv_sub hl [0, 1, 2, 3] rfl) S h
set_option maxRecDepth 10000 in
set_option maxHeartbeats 4000000 in
theorem wX12_isHeir_81 (C : cx D (tyl cI cB cL) A RX12 cX12_isHeir 5 (some .boolean) p s m args c meth) (hR : 4 ≤ R.frames ∧ 85 ≤ R.locals) {r : Int32} (u : Sg) {K52 : Int32 → Int32 → Int32 → Int32 → Option Int32} (hK52 : ∀ (y1 : Int32) (y2 : Int32) (y3 : Int32) (y4 : Int32) (H : Heap) (locs : List Loc) (ls : Array Slot), lv_has ls 5 [(0, .ref (ad 0)), (1, .int y1), (2, .int y2), (3, .int y3), (4, .int y4)] → st D (wM cI cB ad) A s u H locs → K52 y1 y2 y3 y4 = some r → W p l e R s m args below meth c H locs 0 0 (MQ below (qI D (tyl cI cB cL) (wM cI cB ad) A r u) args s 0 0 A) (F0 m 52 ls [])) (x1 : Int32) (x2 : Int32) (x4 : Int32) {H : Heap} {locs : List Loc} {ls : Array Slot} (hl : lv_has ls 5 [(0, .ref (ad 0)), (1, .int x1), (2, .int x2), (4, .int x4)]) (S : st D (wM cI cB ad) A s u H locs) (h : fX12_isHeir_81 K52 x1 x2 x4 u = some r) : W p l e R s m args below meth c H locs 0 0 (MQ below (qI D (tyl cI cB cL) (wM cI cB ad) A r u) args s 0 0 A) (F0 m 81 ls []) := by
  have hx := C.1
  have hb := C.2.1
  have hsz := hl.1
  unfold fX12_isHeir_81 at h
  refine lv_iconst (v := 1) hx hb dX12_isHeir_81 (by decide) ?_
  refine lv_goto (tgt := 86) hx hb dX12_isHeir_82 (by decide) ?_
  exact wX12_isHeir_86 C hR u hK52 x1 x2 x4 1 (lv_sub hl [0, 1, 2, 3] rfl) S h
set_option maxRecDepth 10000 in
set_option maxHeartbeats 4000000 in
theorem wX12_isHeir_52 (C : cx D (tyl cI cB cL) A RX12 cX12_isHeir 5 (some .boolean) p s m args c meth) (hR : 4 ≤ R.frames ∧ 85 ≤ R.locals) {r : Int32} (u : Sg) : ∀ (n : Nat) (x1 : Int32) (x2 : Int32) (x3 : Int32) (x4 : Int32) (H : Heap) (locs : List Loc) (ls : Array Slot), lv_has ls 5 [(0, .ref (ad 0)), (1, .int x1), (2, .int x2), (3, .int x3), (4, .int x4)] → st D (wM cI cB ad) A s u H locs → fX12_isHeir_52 u n x1 x2 x3 x4 = some r → W p l e R s m args below meth c H locs 0 0 (MQ below (qI D (tyl cI cB cL) (wM cI cB ad) A r u) args s 0 0 A) (F0 m 52 ls []) := by
  have hx := C.1
  have hb := C.2.1
  intro n
  induction n with
  | zero =>
    intro x1 x2 x3 x4 H locs ls hl S h
    cases h
  | succ n ih =>
    intro x1 x2 x3 x4 H locs ls hl S h
    rw [fX12_isHeir_52] at h
    have hsz := hl.1
    refine lv_iload hx hb dX12_isHeir_52 (lv_at hl 4 rfl) ?_
    refine lv_iload_n hx hb dX12_isHeir_54 rfl (lv_at hl 1 rfl) ?_
    refine lv_icmp_ge (tgt := 93) hx hb dX12_isHeir_55 (by decide) (fun c4 => ?_) (fun c4 => ?_)
    · have h := cnd_t c4 h
      refine lv_iload_n hx hb dX12_isHeir_93 rfl (lv_at hl 3 rfl) ?_
      obtain ⟨g5, h⟩ := grd_some h
      exact q_zret C S (isB_n g5) (rt_R h) dX12_isHeir_94
    · have h := cnd_f c4 h
      refine lv_iload_n hx hb dX12_isHeir_58 rfl (lv_at hl 3 rfl) ?_
      refine lv_if_eq (tgt := 85) hx hb dX12_isHeir_59 (by decide) (fun c6 => ?_) (fun c6 => ?_)
      · have h := cnd_t c6 h
        exact wX12_isHeir_85 C hR u ih x1 x2 x4 (lv_sub hl [0, 1, 2, 4] rfl) S h
      · have h := cnd_f c6 h
        refine lv_aload_n hx hb dX12_isHeir_62 rfl (lv_at hl 0 rfl) ?_
        refine lv_iload_n hx hb dX12_isHeir_63 rfl (lv_at hl 2 rfl) ?_
        refine lv_iload hx hb dX12_isHeir_64 (lv_at hl 4 rfl) ?_
        obtain ⟨r9, h8, h⟩ := obr_some h
        refine q_callVi (As := [.int x2, .int x4]) (na := 2) C S (oM0 cI cB ad) rfl (ct_X12_isTo l D cI cB cL ad x2 x4 u h8) mw_99 mw_98 mw_100 mw_5 mw_97 hdX12_isTo ⟨Nat.le_trans (Nat.le_of_ble_eq_true rfl) hR.1, Nat.le_trans (Nat.le_of_ble_eq_true rfl) hR.2⟩ rfl hsz ⟨Nat.zero_le _, Nat.zero_le _⟩ (Nat.le_of_ble_eq_true rfl) dX12_isHeir_66 rfl (fun H locs S => ?_)
        refine lv_if_eq (tgt := 81) hx hb dX12_isHeir_69 (by decide) (fun c10 => ?_) (fun c10 => ?_)
        · have h := cnd_t c10 h
          exact wX12_isHeir_81 C hR u ih x1 x2 x4 (lv_sub hl [0, 1, 2, 4] rfl) S h
        · have h := cnd_f c10 h
          refine lv_aload_n hx hb dX12_isHeir_72 rfl (lv_at hl 0 rfl) ?_
          refine lv_iload hx hb dX12_isHeir_73 (lv_at hl 4 rfl) ?_
          obtain ⟨r12, h11, h⟩ := obr_some h
          refine q_callVi (As := [.int x4]) (na := 1) C S (oM0 cI cB ad) rfl (ct_X12_isNoticed l D cI cB cL ad x4 u h11) mw_80 mw_79 mw_81 mw_5 mw_78 hdX12_isNoticed ⟨Nat.le_trans (Nat.le_of_ble_eq_true rfl) hR.1, Nat.le_trans (Nat.le_of_ble_eq_true rfl) hR.2⟩ rfl hsz ⟨Nat.zero_le _, Nat.zero_le _⟩ (Nat.le_of_ble_eq_true rfl) dX12_isHeir_75 rfl (fun H locs S => ?_)
          refine lv_if_eq (tgt := 85) hx hb dX12_isHeir_78 (by decide) (fun c13 => ?_) (fun c13 => ?_)
          · have h := cnd_t c13 h
            exact wX12_isHeir_85 C hR u ih x1 x2 x4 (lv_sub hl [0, 1, 2, 4] rfl) S h
          · have h := cnd_f c13 h
            exact wX12_isHeir_81 C hR u ih x1 x2 x4 (lv_sub hl [0, 1, 2, 4] rfl) S h
set_option maxRecDepth 10000 in
set_option maxHeartbeats 4000000 in
theorem wX12_isHeir_48 (C : cx D (tyl cI cB cL) A RX12 cX12_isHeir 5 (some .boolean) p s m args c meth) (hR : 4 ≤ R.frames ∧ 85 ≤ R.locals) {r : Int32} (u : Sg) (x1 : Int32) (x2 : Int32) (t0 : Int32) {H : Heap} {locs : List Loc} {ls : Array Slot} (hl : lv_has ls 5 [(0, .ref (ad 0)), (1, .int x1), (2, .int x2)]) (S : st D (wM cI cB ad) A s u H locs) (h : fX12_isHeir_48 x1 x2 t0 u = some r) : W p l e R s m args below meth c H locs 0 0 (MQ below (qI D (tyl cI cB cL) (wM cI cB ad) A r u) args s 0 0 A) (F0 m 48 ls [.int t0]) := by
  have hx := C.1
  have hb := C.2.1
  have hsz := hl.1
  unfold fX12_isHeir_48 at h
  refine lv_istore_n (lv' := [(3, .int t0), (0, .ref (ad 0)), (1, .int x1), (2, .int x2)]) hx hb dX12_isHeir_48 rfl hl (by decide) rfl (fun ls hl => ?_)
  have hsz := hl.1
  refine lv_iconst (v := 0) hx hb dX12_isHeir_49 (by decide) ?_
  refine lv_istore (lv' := [(4, .int 0), (3, .int t0), (0, .ref (ad 0)), (1, .int x1), (2, .int x2)]) hx hb dX12_isHeir_50 hl (by decide) rfl (fun ls hl => ?_)
  have hsz := hl.1
  exact wX12_isHeir_52 C hR u FU x1 x2 t0 0 H locs ls (lv_sub hl [2, 3, 4, 1, 0] rfl) S h
set_option maxRecDepth 10000 in
set_option maxHeartbeats 4000000 in
theorem wX12_isHeir_47 (C : cx D (tyl cI cB cL) A RX12 cX12_isHeir 5 (some .boolean) p s m args c meth) (hR : 4 ≤ R.frames ∧ 85 ≤ R.locals) {r : Int32} (u : Sg) (x1 : Int32) (x2 : Int32) {H : Heap} {locs : List Loc} {ls : Array Slot} (hl : lv_has ls 5 [(0, .ref (ad 0)), (1, .int x1), (2, .int x2)]) (S : st D (wM cI cB ad) A s u H locs) (h : fX12_isHeir_47 x1 x2 u = some r) : W p l e R s m args below meth c H locs 0 0 (MQ below (qI D (tyl cI cB cL) (wM cI cB ad) A r u) args s 0 0 A) (F0 m 47 ls []) := by
  have hx := C.1
  have hb := C.2.1
  have hsz := hl.1
  unfold fX12_isHeir_47 at h
  refine lv_iconst (v := 0) hx hb dX12_isHeir_47 (by decide) ?_
  exact wX12_isHeir_48 C hR u x1 x2 0 (lv_sub hl [0, 1, 2] rfl) S h
set_option maxRecDepth 10000 in
set_option maxHeartbeats 4000000 in
theorem wX12_isHeir_0 (C : cx D (tyl cI cB cL) A RX12 cX12_isHeir 5 (some .boolean) p s m args c meth) (hR : 4 ≤ R.frames ∧ 85 ≤ R.locals) {r : Int32} (u : Sg) (x1 : Int32) (x2 : Int32) {H : Heap} {locs : List Loc} {ls : Array Slot} (hl : lv_has ls 5 [(0, .ref (ad 0)), (1, .int x1), (2, .int x2)]) (S : st D (wM cI cB ad) A s u H locs) (h : fX12_isHeir_0 x1 x2 u = some r) : W p l e R s m args below meth c H locs 0 0 (MQ below (qI D (tyl cI cB cL) (wM cI cB ad) A r u) args s 0 0 A) (F0 m 0 ls []) := by
  have hx := C.1
  have hb := C.2.1
  have hsz := hl.1
  unfold fX12_isHeir_0 at h
  refine lv_aload_n hx hb dX12_isHeir_0 rfl (lv_at hl 0 rfl) ?_
  refine lv_iload_n hx hb dX12_isHeir_1 rfl (lv_at hl 1 rfl) ?_
  refine lv_iload_n hx hb dX12_isHeir_2 rfl (lv_at hl 2 rfl) ?_
  refine lv_iconst (v := 0) hx hb dX12_isHeir_3 (by decide) ?_
  obtain ⟨r2, h1, h⟩ := obr_some h
  refine q_callVi (As := [.int x1, .int x2, .int 0]) (na := 3) C S (oM0 cI cB ad) rfl (ct_X12_ofPair l D cI cB cL ad x1 x2 0 u h1) mw_126 mw_125 mw_127 mw_5 mw_124 hdX12_ofPair ⟨Nat.le_trans (Nat.le_of_ble_eq_true rfl) hR.1, Nat.le_trans (Nat.le_of_ble_eq_true rfl) hR.2⟩ rfl hsz ⟨Nat.zero_le _, Nat.zero_le _⟩ (Nat.le_of_ble_eq_true rfl) dX12_isHeir_4 rfl (fun H locs S => ?_)
  refine lv_if_eq (tgt := 47) hx hb dX12_isHeir_7 (by decide) (fun c3 => ?_) (fun c3 => ?_)
  · have h := cnd_t c3 h
    exact wX12_isHeir_47 C hR u x1 x2 (lv_sub hl [0, 1, 2] rfl) S h
  · have h := cnd_f c3 h
    refine lv_aload_n hx hb dX12_isHeir_10 rfl (lv_at hl 0 rfl) ?_
    refine lv_aload_n hx hb dX12_isHeir_11 rfl (lv_at hl 0 rfl) ?_
    refine lv_iload_n hx hb dX12_isHeir_12 rfl (lv_at hl 1 rfl) ?_
    refine lv_iload_n hx hb dX12_isHeir_13 rfl (lv_at hl 2 rfl) ?_
    refine lv_iconst (v := 3) hx hb dX12_isHeir_14 (by decide) ?_
    obtain ⟨r15, h14, h⟩ := obr_some h
    refine q_callVi (As := [.int x1, .int x2, .int 3]) (na := 3) C S (oM0 cI cB ad) rfl (ct_X12_ofPair l D cI cB cL ad x1 x2 3 u h14) mw_126 mw_125 mw_127 mw_5 mw_124 hdX12_ofPair ⟨Nat.le_trans (Nat.le_of_ble_eq_true rfl) hR.1, Nat.le_trans (Nat.le_of_ble_eq_true rfl) hR.2⟩ rfl hsz ⟨Nat.zero_le _, Nat.zero_le _⟩ (Nat.le_of_ble_eq_true rfl) dX12_isHeir_15 rfl (fun H locs S => ?_)
    obtain ⟨r17, h16, h⟩ := obr_some h
    refine q_callVi (As := [.int r15]) (na := 1) C S (oM0 cI cB ad) rfl (ct_X12_isNoticed l D cI cB cL ad r15 u h16) mw_80 mw_79 mw_81 mw_5 mw_78 hdX12_isNoticed ⟨Nat.le_trans (Nat.le_of_ble_eq_true rfl) hR.1, Nat.le_trans (Nat.le_of_ble_eq_true rfl) hR.2⟩ rfl hsz ⟨Nat.zero_le _, Nat.zero_le _⟩ (Nat.le_of_ble_eq_true rfl) dX12_isHeir_18 rfl (fun H locs S => ?_)
    refine lv_if_eq (tgt := 47) hx hb dX12_isHeir_21 (by decide) (fun c18 => ?_) (fun c18 => ?_)
    · have h := cnd_t c18 h
      exact wX12_isHeir_47 C hR u x1 x2 (lv_sub hl [0, 1, 2] rfl) S h
    · have h := cnd_f c18 h
      refine lv_aload_n hx hb dX12_isHeir_24 rfl (lv_at hl 0 rfl) ?_
      refine lv_iload_n hx hb dX12_isHeir_25 rfl (lv_at hl 2 rfl) ?_
      refine lv_iload_n hx hb dX12_isHeir_26 rfl (lv_at hl 1 rfl) ?_
      obtain ⟨r20, h19, h⟩ := obr_some h
      refine q_callVi (As := [.int x2, .int x1]) (na := 2) C S (oM0 cI cB ad) rfl (ct_X12_isTo l D cI cB cL ad x2 x1 u h19) mw_99 mw_98 mw_100 mw_5 mw_97 hdX12_isTo ⟨Nat.le_trans (Nat.le_of_ble_eq_true rfl) hR.1, Nat.le_trans (Nat.le_of_ble_eq_true rfl) hR.2⟩ rfl hsz ⟨Nat.zero_le _, Nat.zero_le _⟩ (Nat.le_of_ble_eq_true rfl) dX12_isHeir_27 rfl (fun H locs S => ?_)
      refine lv_if_eq (tgt := 47) hx hb dX12_isHeir_30 (by decide) (fun c21 => ?_) (fun c21 => ?_)
      · have h := cnd_t c21 h
        exact wX12_isHeir_47 C hR u x1 x2 (lv_sub hl [0, 1, 2] rfl) S h
      · have h := cnd_f c21 h
        refine lv_aload_n hx hb dX12_isHeir_33 rfl (lv_at hl 0 rfl) ?_
        refine lv_iload_n hx hb dX12_isHeir_34 rfl (lv_at hl 1 rfl) ?_
        refine lv_iload_n hx hb dX12_isHeir_35 rfl (lv_at hl 2 rfl) ?_
        refine lv_iconst (v := 5) hx hb dX12_isHeir_36 (by decide) ?_
        obtain ⟨r23, h22, h⟩ := obr_some h
        refine q_callVi (As := [.int x1, .int x2, .int 5]) (na := 3) C S (oM0 cI cB ad) rfl (ct_X12_ofPair l D cI cB cL ad x1 x2 5 u h22) mw_126 mw_125 mw_127 mw_5 mw_124 hdX12_ofPair ⟨Nat.le_trans (Nat.le_of_ble_eq_true rfl) hR.1, Nat.le_trans (Nat.le_of_ble_eq_true rfl) hR.2⟩ rfl hsz ⟨Nat.zero_le _, Nat.zero_le _⟩ (Nat.le_of_ble_eq_true rfl) dX12_isHeir_37 rfl (fun H locs S => ?_)
        refine lv_if_ne (tgt := 47) hx hb dX12_isHeir_40 (by decide) (fun c24 => ?_) (fun c24 => ?_)
        · have h := cnd_f c24 h
          exact wX12_isHeir_47 C hR u x1 x2 (lv_sub hl [0, 1, 2] rfl) S h
        · have h := cnd_t c24 h
          refine lv_iconst (v := 1) hx hb dX12_isHeir_43 (by decide) ?_
          refine lv_goto (tgt := 48) hx hb dX12_isHeir_44 (by decide) ?_
          exact wX12_isHeir_48 C hR u x1 x2 1 (lv_sub hl [0, 1, 2] rfl) S h
set_option maxRecDepth 10000 in
set_option maxHeartbeats 4000000 in
theorem ct_X12_isHeir (l : Launch) (D : va_G) (cI cB cL : ClassId) (ad : Nat → Nat) (x1 : Int32) (x2 : Int32) (u : Sg) {r : Int32} (h : fX12_isHeir x1 x2 u = some r) : metI l D (tyl cI cB cL) yX12_isHeir cX12_isHeir 5 (some .boolean) 4 85 (wM cI cB ad) [.ref (ad 0), .int x1, .int x2] u r u := by
  intro sz
  refine Met.ofW (cc := cX12_isHeir) (maxL := 5) (ret := (some .boolean)) (by decide) rfl ?_
  intro p e s m args below meth c s₁ B hml hv
  obtain ⟨rfl, C, S⟩ := q_entry B hml hv
  have hl := lv_entry ([.ref (ad 0), .int x1, .int x2]) (n := 5) (Nat.le_of_ble_eq_true rfl)
  rw [lg_entry_eq]
  generalize (lg_sl ([.ref (ad 0), .int x1, .int x2]) ++ List.replicate (5 - (lg_sl ([.ref (ad 0), .int x1, .int x2])).length) Slot.unset).toArray = ls at hl ⊢
  exact wX12_isHeir_0 C ⟨Nat.le_refl _, Nat.le_refl _⟩ u x1 x2 (lv_sub hl [0, 1, 2] rfl) S h
noncomputable def fX12_leads_78 (K2 : Int32 → Int32 → Sg → Option Sg) (x1 : Int32) (x2 : Int32) (u : Sg) : Option Sg := bnd (x2 + 1) (fun v10 => K2 x1 v10 u)
noncomputable def fX12_leads_52 (K2 : Int32 → Int32 → Sg → Option Sg) (x1 : Int32) (x2 : Int32) (u : Sg) : Option Sg := obr (fX12_ofPair x1 x2 5 u) (fun r8 => cnd (r8 = 1) (obr (fX12_isFull x1 x2 u) (fun r12 => cnd (r12 = 0) (fX12_leads_78 K2 x1 x2 u) (obr (fX12_isFinal x1 x2 u) (fun u15 => fX12_leads_78 K2 x1 x2 u15)))) (fX12_leads_78 K2 x1 x2 u))
noncomputable def fX12_leads_2 : Nat → Int32 → Int32 → Sg → Option Sg
  | 0, _, _, _ => none
  | n + 1, x1, x2, u => obr (fX12_messages u) (fun r2 => cnd (r2 ≤ x2) (some u) (obr (fX12_isHeir x1 x2 u) (fun r5 => cnd (r5 = 0) (fX12_leads_52 (fun a0 a1 w => fX12_leads_2 n a0 a1 w) x1 x2 u) (obr (fX12_gathers x1 x2 u) (fun u17 => obr (fX12_isTold x1 3 x2 u17) (fun u19 => bnd (s2 u19 1 10 ((u19 1 10) + 1)) (fun u20 => obr (fX12_putsAll x1 3 x2 (-1) (-1) u20) (fun u22 => fX12_leads_52 (fun a0 a1 w => fX12_leads_2 n a0 a1 w) x1 x2 u22))))))))
noncomputable def fX12_leads_0 (x1 : Int32) (u : Sg) : Option Sg := fX12_leads_2 FU x1 0 u
noncomputable def fX12_leads (x1 : Int32) (u : Sg) : Option Sg := fX12_leads_0 x1 u
set_option maxRecDepth 10000 in
set_option maxHeartbeats 4000000 in
theorem wX12_leads_78 (C : cx D (tyl cI cB cL) A RX12 cX12_leads 3 none p s m args c meth) (hR : 7 ≤ R.frames ∧ 165 ≤ R.locals) {σ' : Sg} (u : Sg) {K2 : Int32 → Int32 → Sg → Option Sg} (hK2 : ∀ (y1 : Int32) (y2 : Int32) (v : Sg) (H : Heap) (locs : List Loc) (ls : Array Slot), lv_has ls 3 [(0, .ref (ad 0)), (1, .int y1), (2, .int y2)] → st D (wM cI cB ad) A s v H locs → K2 y1 y2 v = some σ' → W p l e R s m args below meth c H locs 0 0 (MQ below (qV D (tyl cI cB cL) (wM cI cB ad) A σ') args s 0 0 A) (F0 m 2 ls [])) (x1 : Int32) (x2 : Int32) {H : Heap} {locs : List Loc} {ls : Array Slot} (hl : lv_has ls 3 [(0, .ref (ad 0)), (1, .int x1), (2, .int x2)]) (S : st D (wM cI cB ad) A s u H locs) (h : fX12_leads_78 K2 x1 x2 u = some σ') : W p l e R s m args below meth c H locs 0 0 (MQ below (qV D (tyl cI cB cL) (wM cI cB ad) A σ') args s 0 0 A) (F0 m 78 ls []) := by
  have hx := C.1
  have hb := C.2.1
  have hsz := hl.1
  unfold fX12_leads_78 at h
  obtain ⟨v10, ev10⟩ : ∃ y : Int32, y = x2 + 1 := ⟨_, rfl⟩
  have h := bnd_of ev10 h
  refine lv_iinc (v := v10) (lv' := [(2, .int v10), (0, .ref (ad 0)), (1, .int x1)]) hx hb dX12_leads_78 hl (k := 2) rfl (by rw [ev10]; rfl) (by decide) rfl (fun ls hl => ?_)
  have hsz := hl.1
  refine lv_goto (tgt := 2) hx hb dX12_leads_81 (by decide) ?_
  exact hK2 x1 v10 u H locs ls (lv_sub hl [1, 2, 0] rfl) S h
set_option maxRecDepth 10000 in
set_option maxHeartbeats 4000000 in
theorem wX12_leads_52 (C : cx D (tyl cI cB cL) A RX12 cX12_leads 3 none p s m args c meth) (hR : 7 ≤ R.frames ∧ 165 ≤ R.locals) {σ' : Sg} (u : Sg) {K2 : Int32 → Int32 → Sg → Option Sg} (hK2 : ∀ (y1 : Int32) (y2 : Int32) (v : Sg) (H : Heap) (locs : List Loc) (ls : Array Slot), lv_has ls 3 [(0, .ref (ad 0)), (1, .int y1), (2, .int y2)] → st D (wM cI cB ad) A s v H locs → K2 y1 y2 v = some σ' → W p l e R s m args below meth c H locs 0 0 (MQ below (qV D (tyl cI cB cL) (wM cI cB ad) A σ') args s 0 0 A) (F0 m 2 ls [])) (x1 : Int32) (x2 : Int32) {H : Heap} {locs : List Loc} {ls : Array Slot} (hl : lv_has ls 3 [(0, .ref (ad 0)), (1, .int x1), (2, .int x2)]) (S : st D (wM cI cB ad) A s u H locs) (h : fX12_leads_52 K2 x1 x2 u = some σ') : W p l e R s m args below meth c H locs 0 0 (MQ below (qV D (tyl cI cB cL) (wM cI cB ad) A σ') args s 0 0 A) (F0 m 52 ls []) := by
  have hx := C.1
  have hb := C.2.1
  have hsz := hl.1
  unfold fX12_leads_52 at h
  refine lv_aload_n hx hb dX12_leads_52 rfl (lv_at hl 0 rfl) ?_
  refine lv_iload_n hx hb dX12_leads_53 rfl (lv_at hl 1 rfl) ?_
  refine lv_iload_n hx hb dX12_leads_54 rfl (lv_at hl 2 rfl) ?_
  refine lv_iconst (v := 5) hx hb dX12_leads_55 (by decide) ?_
  obtain ⟨r8, h7, h⟩ := obr_some h
  refine q_callVi (As := [.int x1, .int x2, .int 5]) (na := 3) C S (oM0 cI cB ad) rfl (ct_X12_ofPair l D cI cB cL ad x1 x2 5 u h7) mw_126 mw_125 mw_127 mw_5 mw_124 hdX12_ofPair ⟨Nat.le_trans (Nat.le_of_ble_eq_true rfl) hR.1, Nat.le_trans (Nat.le_of_ble_eq_true rfl) hR.2⟩ rfl hsz ⟨Nat.zero_le _, Nat.zero_le _⟩ (Nat.le_of_ble_eq_true rfl) dX12_leads_56 rfl (fun H locs S => ?_)
  refine lv_iconst (v := 1) hx hb dX12_leads_59 (by decide) ?_
  refine lv_icmp_ne (tgt := 78) hx hb dX12_leads_60 (by decide) (fun c9 => ?_) (fun c9 => ?_)
  · have h := cnd_f c9 h
    exact wX12_leads_78 C hR u hK2 x1 x2 (lv_sub hl [0, 1, 2] rfl) S h
  · have h := cnd_t c9 h
    refine lv_aload_n hx hb dX12_leads_63 rfl (lv_at hl 0 rfl) ?_
    refine lv_iload_n hx hb dX12_leads_64 rfl (lv_at hl 1 rfl) ?_
    refine lv_iload_n hx hb dX12_leads_65 rfl (lv_at hl 2 rfl) ?_
    obtain ⟨r12, h11, h⟩ := obr_some h
    refine q_callVi (As := [.int x1, .int x2]) (na := 2) C S (oM0 cI cB ad) rfl (ct_X12_isFull l D cI cB cL ad x1 x2 u h11) mw_166 mw_165 mw_167 mw_5 mw_164 hdX12_isFull ⟨Nat.le_trans (Nat.le_of_ble_eq_true rfl) hR.1, Nat.le_trans (Nat.le_of_ble_eq_true rfl) hR.2⟩ rfl hsz ⟨Nat.zero_le _, Nat.zero_le _⟩ (Nat.le_of_ble_eq_true rfl) dX12_leads_66 rfl (fun H locs S => ?_)
    refine lv_if_eq (tgt := 78) hx hb dX12_leads_69 (by decide) (fun c13 => ?_) (fun c13 => ?_)
    · have h := cnd_t c13 h
      exact wX12_leads_78 C hR u hK2 x1 x2 (lv_sub hl [0, 1, 2] rfl) S h
    · have h := cnd_f c13 h
      refine lv_aload_n hx hb dX12_leads_72 rfl (lv_at hl 0 rfl) ?_
      refine lv_iload_n hx hb dX12_leads_73 rfl (lv_at hl 1 rfl) ?_
      refine lv_iload_n hx hb dX12_leads_74 rfl (lv_at hl 2 rfl) ?_
      obtain ⟨u15, h14, h⟩ := obr_some h
      refine q_callVv (As := [.int x1, .int x2]) (na := 2) C S (oM0 cI cB ad) rfl (ct_X12_isFinal l D cI cB cL ad x1 x2 u h14) mw_170 mw_169 mw_171 mw_5 mw_168 hdX12_isFinal ⟨Nat.le_trans (Nat.le_of_ble_eq_true rfl) hR.1, Nat.le_trans (Nat.le_of_ble_eq_true rfl) hR.2⟩ rfl hsz ⟨Nat.zero_le _, Nat.zero_le _⟩ (Nat.le_of_ble_eq_true rfl) dX12_leads_75 rfl (fun H locs S => ?_)
      exact wX12_leads_78 C hR u15 hK2 x1 x2 (lv_sub hl [0, 1, 2] rfl) S h
set_option maxRecDepth 10000 in
set_option maxHeartbeats 4000000 in
theorem wX12_leads_2 (C : cx D (tyl cI cB cL) A RX12 cX12_leads 3 none p s m args c meth) (hR : 7 ≤ R.frames ∧ 165 ≤ R.locals) {σ' : Sg} : ∀ (n : Nat) (x1 : Int32) (x2 : Int32) (u : Sg) (H : Heap) (locs : List Loc) (ls : Array Slot), lv_has ls 3 [(0, .ref (ad 0)), (1, .int x1), (2, .int x2)] → st D (wM cI cB ad) A s u H locs → fX12_leads_2 n x1 x2 u = some σ' → W p l e R s m args below meth c H locs 0 0 (MQ below (qV D (tyl cI cB cL) (wM cI cB ad) A σ') args s 0 0 A) (F0 m 2 ls []) := by
  have hx := C.1
  have hb := C.2.1
  intro n
  induction n with
  | zero =>
    intro x1 x2 u H locs ls hl S h
    cases h
  | succ n ih =>
    intro x1 x2 u H locs ls hl S h
    rw [fX12_leads_2] at h
    have hsz := hl.1
    refine lv_iload_n hx hb dX12_leads_2 rfl (lv_at hl 2 rfl) ?_
    refine lv_aload_n hx hb dX12_leads_3 rfl (lv_at hl 0 rfl) ?_
    obtain ⟨r2, h1, h⟩ := obr_some h
    refine q_callVi (As := []) (na := 0) C S (oM0 cI cB ad) rfl (ct_X12_messages l D cI cB cL ad u h1) mw_31 mw_30 mw_32 mw_5 mw_29 hdX12_messages ⟨Nat.le_trans (Nat.le_of_ble_eq_true rfl) hR.1, Nat.le_trans (Nat.le_of_ble_eq_true rfl) hR.2⟩ rfl hsz ⟨Nat.zero_le _, Nat.zero_le _⟩ (Nat.le_of_ble_eq_true rfl) dX12_leads_4 rfl (fun H locs S => ?_)
    refine lv_icmp_ge (tgt := 84) hx hb dX12_leads_7 (by decide) (fun c3 => ?_) (fun c3 => ?_)
    · have h := cnd_t c3 h
      exact q_vret C S (Option.some.inj h) dX12_leads_84
    · have h := cnd_f c3 h
      refine lv_aload_n hx hb dX12_leads_10 rfl (lv_at hl 0 rfl) ?_
      refine lv_iload_n hx hb dX12_leads_11 rfl (lv_at hl 1 rfl) ?_
      refine lv_iload_n hx hb dX12_leads_12 rfl (lv_at hl 2 rfl) ?_
      obtain ⟨r5, h4, h⟩ := obr_some h
      refine q_callVi (As := [.int x1, .int x2]) (na := 2) C S (oM0 cI cB ad) rfl (ct_X12_isHeir l D cI cB cL ad x1 x2 u h4) mw_162 mw_161 mw_163 mw_5 mw_160 hdX12_isHeir ⟨Nat.le_trans (Nat.le_of_ble_eq_true rfl) hR.1, Nat.le_trans (Nat.le_of_ble_eq_true rfl) hR.2⟩ rfl hsz ⟨Nat.zero_le _, Nat.zero_le _⟩ (Nat.le_of_ble_eq_true rfl) dX12_leads_13 rfl (fun H locs S => ?_)
      refine lv_if_eq (tgt := 52) hx hb dX12_leads_16 (by decide) (fun c6 => ?_) (fun c6 => ?_)
      · have h := cnd_t c6 h
        exact wX12_leads_52 C hR u ih x1 x2 (lv_sub hl [0, 1, 2] rfl) S h
      · have h := cnd_f c6 h
        refine lv_aload_n hx hb dX12_leads_19 rfl (lv_at hl 0 rfl) ?_
        refine lv_iload_n hx hb dX12_leads_20 rfl (lv_at hl 1 rfl) ?_
        refine lv_iload_n hx hb dX12_leads_21 rfl (lv_at hl 2 rfl) ?_
        obtain ⟨u17, h16, h⟩ := obr_some h
        refine q_callVv (As := [.int x1, .int x2]) (na := 2) C S (oM0 cI cB ad) rfl (ct_X12_gathers l D cI cB cL ad x1 x2 u h16) mw_118 mw_117 mw_119 mw_5 mw_116 hdX12_gathers ⟨Nat.le_trans (Nat.le_of_ble_eq_true rfl) hR.1, Nat.le_trans (Nat.le_of_ble_eq_true rfl) hR.2⟩ rfl hsz ⟨Nat.zero_le _, Nat.zero_le _⟩ (Nat.le_of_ble_eq_true rfl) dX12_leads_22 rfl (fun H locs S => ?_)
        refine lv_aload_n hx hb dX12_leads_25 rfl (lv_at hl 0 rfl) ?_
        refine lv_iload_n hx hb dX12_leads_26 rfl (lv_at hl 1 rfl) ?_
        refine lv_iconst (v := 3) hx hb dX12_leads_27 (by decide) ?_
        refine lv_iload_n hx hb dX12_leads_28 rfl (lv_at hl 2 rfl) ?_
        obtain ⟨u19, h18, h⟩ := obr_some h
        refine q_callVv (As := [.int x1, .int 3, .int x2]) (na := 3) C S (oM0 cI cB ad) rfl (ct_X12_isTold l D cI cB cL ad x1 3 x2 u17 h18) mw_114 mw_113 mw_115 mw_5 mw_112 hdX12_isTold ⟨Nat.le_trans (Nat.le_of_ble_eq_true rfl) hR.1, Nat.le_trans (Nat.le_of_ble_eq_true rfl) hR.2⟩ rfl hsz ⟨Nat.zero_le _, Nat.zero_le _⟩ (Nat.le_of_ble_eq_true rfl) dX12_leads_29 rfl (fun H locs S => ?_)
        refine lv_aload_n hx hb dX12_leads_32 rfl (lv_at hl 0 rfl) ?_
        refine q_get (v := .ref (ad 1)) C S (oM0 cI cB ad) rfl iwX12 1 (by decide) mw_14 rfl dX12_leads_33 ?_
        refine lv_bipush (v := 10) hx hb dX12_leads_36 (by decide) ?_
        refine lv_dup2_11 hx hb dX12_leads_38 rfl rfl ?_
        refine q_iald C S (aM1 cI cB ad) 0 rfl (show vp_in 10 32243 by unfold vp_in; decide) dX12_leads_39 (j := 10) (by decide) ?_
        refine lv_iconst (v := 1) hx hb dX12_leads_40 (by decide) ?_
        refine lv_iadd hx hb dX12_leads_41 ?_
        obtain ⟨u20, eu20⟩ : ∃ z : Sg, z = s2 u19 1 10 ((u19 1 10) + 1) := ⟨_, rfl⟩
        have h := bnd_of eu20 h
        refine q_iast C S (aM1 cI cB ad) 0 rfl (show vp_in 10 32243 by unfold vp_in; decide) dX12_leads_42 (j := 10) (by decide) eu20 (fun H locs S => ?_)
        refine lv_aload_n hx hb dX12_leads_43 rfl (lv_at hl 0 rfl) ?_
        refine lv_iload_n hx hb dX12_leads_44 rfl (lv_at hl 1 rfl) ?_
        refine lv_iconst (v := 3) hx hb dX12_leads_45 (by decide) ?_
        refine lv_iload_n hx hb dX12_leads_46 rfl (lv_at hl 2 rfl) ?_
        refine lv_iconst (v := (-1)) hx hb dX12_leads_47 (by decide) ?_
        refine lv_iconst (v := (-1)) hx hb dX12_leads_48 (by decide) ?_
        obtain ⟨u22, h21, h⟩ := obr_some h
        refine q_callVv (As := [.int x1, .int 3, .int x2, .int (-1), .int (-1)]) (na := 5) C S (oM0 cI cB ad) rfl (ct_X12_putsAll l D cI cB cL ad x1 3 x2 (-1) (-1) u20 h21) mw_122 mw_121 mw_123 mw_5 mw_120 hdX12_putsAll ⟨Nat.le_trans (Nat.le_of_ble_eq_true rfl) hR.1, Nat.le_trans (Nat.le_of_ble_eq_true rfl) hR.2⟩ rfl hsz ⟨Nat.zero_le _, Nat.zero_le _⟩ (Nat.le_of_ble_eq_true rfl) dX12_leads_49 rfl (fun H locs S => ?_)
        exact wX12_leads_52 C hR u22 ih x1 x2 (lv_sub hl [0, 1, 2] rfl) S h
set_option maxRecDepth 10000 in
set_option maxHeartbeats 4000000 in
theorem wX12_leads_0 (C : cx D (tyl cI cB cL) A RX12 cX12_leads 3 none p s m args c meth) (hR : 7 ≤ R.frames ∧ 165 ≤ R.locals) {σ' : Sg} (u : Sg) (x1 : Int32) {H : Heap} {locs : List Loc} {ls : Array Slot} (hl : lv_has ls 3 [(0, .ref (ad 0)), (1, .int x1)]) (S : st D (wM cI cB ad) A s u H locs) (h : fX12_leads_0 x1 u = some σ') : W p l e R s m args below meth c H locs 0 0 (MQ below (qV D (tyl cI cB cL) (wM cI cB ad) A σ') args s 0 0 A) (F0 m 0 ls []) := by
  have hx := C.1
  have hb := C.2.1
  have hsz := hl.1
  unfold fX12_leads_0 at h
  refine lv_iconst (v := 0) hx hb dX12_leads_0 (by decide) ?_
  refine lv_istore_n (lv' := [(2, .int 0), (0, .ref (ad 0)), (1, .int x1)]) hx hb dX12_leads_1 rfl hl (by decide) rfl (fun ls hl => ?_)
  have hsz := hl.1
  exact wX12_leads_2 C hR FU x1 0 u H locs ls (lv_sub hl [1, 2, 0] rfl) S h
set_option maxRecDepth 10000 in
set_option maxHeartbeats 4000000 in
theorem ct_X12_leads (l : Launch) (D : va_G) (cI cB cL : ClassId) (ad : Nat → Nat) (x1 : Int32) (u : Sg) {σ' : Sg} (h : fX12_leads x1 u = some σ') : metV l D (tyl cI cB cL) yX12_leads cX12_leads 3 7 165 (wM cI cB ad) [.ref (ad 0), .int x1] u σ' := by
  intro sz
  refine Met.ofW (cc := cX12_leads) (maxL := 3) (ret := none) (by decide) rfl ?_
  intro p e s m args below meth c s₁ B hml hv
  obtain ⟨rfl, C, S⟩ := q_entry B hml hv
  have hl := lv_entry ([.ref (ad 0), .int x1]) (n := 3) (Nat.le_of_ble_eq_true rfl)
  rw [lg_entry_eq]
  generalize (lg_sl ([.ref (ad 0), .int x1]) ++ List.replicate (3 - (lg_sl ([.ref (ad 0), .int x1])).length) Slot.unset).toArray = ls at hl ⊢
  exact wX12_leads_0 C ⟨Nat.le_refl _, Nat.le_refl _⟩ u x1 (lv_sub hl [0, 1] rfl) S h
noncomputable def fX12_isAhead_39 (x1 : Int32) (x2 : Int32) (x3 : Int32) (t0 : Int32) (u : Sg) : Option Int32 := cnd (t0 = 0) (obr (fX12_ofPair x1 x2 1 u) (fun r8 => obr (fX12_ofPair x1 x2 2 u) (fun r10 => obr (fX12_ofPair x1 x3 1 u) (fun r12 => obr (fX12_ofPair x1 x3 2 u) (fun r14 => grd (isB (fX12_isLess r8 r10 r12 r14)) (some (fX12_isLess r8 r10 r12 r14))))))) (cnd (x3 ≤ x2) (some 0) (some 1))
noncomputable def fX12_isAhead_38 (x1 : Int32) (x2 : Int32) (x3 : Int32) (u : Sg) : Option Int32 := fX12_isAhead_39 x1 x2 x3 0 u
noncomputable def fX12_isAhead_0 (x1 : Int32) (x2 : Int32) (x3 : Int32) (u : Sg) : Option Int32 := obr (fX12_ofPair x1 x2 1 u) (fun r2 => obr (fX12_ofPair x1 x3 1 u) (fun r4 => cnd (r2 = r4) (obr (fX12_ofPair x1 x2 2 u) (fun r18 => obr (fX12_ofPair x1 x3 2 u) (fun r20 => cnd (r18 = r20) (fX12_isAhead_39 x1 x2 x3 1 u) (fX12_isAhead_38 x1 x2 x3 u)))) (fX12_isAhead_38 x1 x2 x3 u)))
noncomputable def fX12_isAhead (x1 : Int32) (x2 : Int32) (x3 : Int32) (u : Sg) : Option Int32 := fX12_isAhead_0 x1 x2 x3 u
set_option maxRecDepth 10000 in
set_option maxHeartbeats 4000000 in
theorem wX12_isAhead_39 (C : cx D (tyl cI cB cL) A RX12 cX12_isAhead 5 (some .boolean) p s m args c meth) (hR : 3 ≤ R.frames ∧ 66 ≤ R.locals) {r : Int32} (u : Sg) (x1 : Int32) (x2 : Int32) (x3 : Int32) (t0 : Int32) {H : Heap} {locs : List Loc} {ls : Array Slot} (hl : lv_has ls 5 [(0, .ref (ad 0)), (1, .int x1), (2, .int x2), (3, .int x3)]) (S : st D (wM cI cB ad) A s u H locs) (h : fX12_isAhead_39 x1 x2 x3 t0 u = some r) : W p l e R s m args below meth c H locs 0 0 (MQ below (qI D (tyl cI cB cL) (wM cI cB ad) A r u) args s 0 0 A) (F0 m 39 ls [.int t0]) := by
  have hx := C.1
  have hb := C.2.1
  have hsz := hl.1
  unfold fX12_isAhead_39 at h
  refine lv_istore (lv' := [(4, .int t0), (0, .ref (ad 0)), (1, .int x1), (2, .int x2), (3, .int x3)]) hx hb dX12_isAhead_39 hl (by decide) rfl (fun ls hl => ?_)
  have hsz := hl.1
  refine lv_iload hx hb dX12_isAhead_41 (lv_at hl 0 rfl) ?_
  refine lv_if_eq (tgt := 59) hx hb dX12_isAhead_43 (by decide) (fun c6 => ?_) (fun c6 => ?_)
  · have h := cnd_t c6 h
    refine lv_aload_n hx hb dX12_isAhead_59 rfl (lv_at hl 1 rfl) ?_
    refine lv_iload_n hx hb dX12_isAhead_60 rfl (lv_at hl 2 rfl) ?_
    refine lv_iload_n hx hb dX12_isAhead_61 rfl (lv_at hl 3 rfl) ?_
    refine lv_iconst (v := 1) hx hb dX12_isAhead_62 (by decide) ?_
    obtain ⟨r8, h7, h⟩ := obr_some h
    refine q_callVi (As := [.int x1, .int x2, .int 1]) (na := 3) C S (oM0 cI cB ad) rfl (ct_X12_ofPair l D cI cB cL ad x1 x2 1 u h7) mw_126 mw_125 mw_127 mw_5 mw_124 hdX12_ofPair ⟨Nat.le_trans (Nat.le_of_ble_eq_true rfl) hR.1, Nat.le_trans (Nat.le_of_ble_eq_true rfl) hR.2⟩ rfl hsz ⟨Nat.zero_le _, Nat.zero_le _⟩ (Nat.le_of_ble_eq_true rfl) dX12_isAhead_63 rfl (fun H locs S => ?_)
    refine lv_aload_n hx hb dX12_isAhead_66 rfl (lv_at hl 1 rfl) ?_
    refine lv_iload_n hx hb dX12_isAhead_67 rfl (lv_at hl 2 rfl) ?_
    refine lv_iload_n hx hb dX12_isAhead_68 rfl (lv_at hl 3 rfl) ?_
    refine lv_iconst (v := 2) hx hb dX12_isAhead_69 (by decide) ?_
    obtain ⟨r10, h9, h⟩ := obr_some h
    refine q_callVi (As := [.int x1, .int x2, .int 2]) (na := 3) C S (oM0 cI cB ad) rfl (ct_X12_ofPair l D cI cB cL ad x1 x2 2 u h9) mw_126 mw_125 mw_127 mw_5 mw_124 hdX12_ofPair ⟨Nat.le_trans (Nat.le_of_ble_eq_true rfl) hR.1, Nat.le_trans (Nat.le_of_ble_eq_true rfl) hR.2⟩ rfl hsz ⟨Nat.zero_le _, Nat.zero_le _⟩ (Nat.le_of_ble_eq_true rfl) dX12_isAhead_70 rfl (fun H locs S => ?_)
    refine lv_aload_n hx hb dX12_isAhead_73 rfl (lv_at hl 1 rfl) ?_
    refine lv_iload_n hx hb dX12_isAhead_74 rfl (lv_at hl 2 rfl) ?_
    refine lv_iload_n hx hb dX12_isAhead_75 rfl (lv_at hl 4 rfl) ?_
    refine lv_iconst (v := 1) hx hb dX12_isAhead_76 (by decide) ?_
    obtain ⟨r12, h11, h⟩ := obr_some h
    refine q_callVi (As := [.int x1, .int x3, .int 1]) (na := 3) C S (oM0 cI cB ad) rfl (ct_X12_ofPair l D cI cB cL ad x1 x3 1 u h11) mw_126 mw_125 mw_127 mw_5 mw_124 hdX12_ofPair ⟨Nat.le_trans (Nat.le_of_ble_eq_true rfl) hR.1, Nat.le_trans (Nat.le_of_ble_eq_true rfl) hR.2⟩ rfl hsz ⟨Nat.zero_le _, Nat.zero_le _⟩ (Nat.le_of_ble_eq_true rfl) dX12_isAhead_77 rfl (fun H locs S => ?_)
    refine lv_aload_n hx hb dX12_isAhead_80 rfl (lv_at hl 1 rfl) ?_
    refine lv_iload_n hx hb dX12_isAhead_81 rfl (lv_at hl 2 rfl) ?_
    refine lv_iload_n hx hb dX12_isAhead_82 rfl (lv_at hl 4 rfl) ?_
    refine lv_iconst (v := 2) hx hb dX12_isAhead_83 (by decide) ?_
    obtain ⟨r14, h13, h⟩ := obr_some h
    refine q_callVi (As := [.int x1, .int x3, .int 2]) (na := 3) C S (oM0 cI cB ad) rfl (ct_X12_ofPair l D cI cB cL ad x1 x3 2 u h13) mw_126 mw_125 mw_127 mw_5 mw_124 hdX12_ofPair ⟨Nat.le_trans (Nat.le_of_ble_eq_true rfl) hR.1, Nat.le_trans (Nat.le_of_ble_eq_true rfl) hR.2⟩ rfl hsz ⟨Nat.zero_le _, Nat.zero_le _⟩ (Nat.le_of_ble_eq_true rfl) dX12_isAhead_84 rfl (fun H locs S => ?_)
    refine q_callP (As := [.int r8, .int r10, .int r12, .int r14]) (na := 4) C S (ct_X12_isLess l D cI cB cL r8 r10 r12 r14) mw_134 mw_133 mw_5 mw_132 hdX12_isLess ⟨Nat.le_trans (Nat.le_of_ble_eq_true rfl) hR.1, Nat.le_trans (Nat.le_of_ble_eq_true rfl) hR.2⟩ rfl hsz ⟨Nat.zero_le _, Nat.zero_le _⟩ (Nat.le_of_ble_eq_true rfl) dX12_isAhead_87 rfl (fun H locs S => ?_)
    obtain ⟨g15, h⟩ := grd_some h
    exact q_zret C S (isB_n g15) (rt_R h) dX12_isAhead_90
  · have h := cnd_f c6 h
    refine lv_iload_n hx hb dX12_isAhead_46 rfl (lv_at hl 3 rfl) ?_
    refine lv_iload_n hx hb dX12_isAhead_47 rfl (lv_at hl 4 rfl) ?_
    refine lv_icmp_ge (tgt := 55) hx hb dX12_isAhead_48 (by decide) (fun c16 => ?_) (fun c16 => ?_)
    · have h := cnd_t c16 h
      refine lv_iconst (v := 0) hx hb dX12_isAhead_55 (by decide) ?_
      refine lv_goto (tgt := 90) hx hb dX12_isAhead_56 (by decide) ?_
      exact q_zret C S rfl (rt_R h) dX12_isAhead_90
    · have h := cnd_f c16 h
      refine lv_iconst (v := 1) hx hb dX12_isAhead_51 (by decide) ?_
      refine lv_goto (tgt := 90) hx hb dX12_isAhead_52 (by decide) ?_
      exact q_zret C S rfl (rt_R h) dX12_isAhead_90
set_option maxRecDepth 10000 in
set_option maxHeartbeats 4000000 in
theorem wX12_isAhead_38 (C : cx D (tyl cI cB cL) A RX12 cX12_isAhead 5 (some .boolean) p s m args c meth) (hR : 3 ≤ R.frames ∧ 66 ≤ R.locals) {r : Int32} (u : Sg) (x1 : Int32) (x2 : Int32) (x3 : Int32) {H : Heap} {locs : List Loc} {ls : Array Slot} (hl : lv_has ls 5 [(0, .ref (ad 0)), (1, .int x1), (2, .int x2), (3, .int x3)]) (S : st D (wM cI cB ad) A s u H locs) (h : fX12_isAhead_38 x1 x2 x3 u = some r) : W p l e R s m args below meth c H locs 0 0 (MQ below (qI D (tyl cI cB cL) (wM cI cB ad) A r u) args s 0 0 A) (F0 m 38 ls []) := by
  have hx := C.1
  have hb := C.2.1
  have hsz := hl.1
  unfold fX12_isAhead_38 at h
  refine lv_iconst (v := 0) hx hb dX12_isAhead_38 (by decide) ?_
  exact wX12_isAhead_39 C hR u x1 x2 x3 0 (lv_sub hl [0, 1, 2, 3] rfl) S h
set_option maxRecDepth 10000 in
set_option maxHeartbeats 4000000 in
theorem wX12_isAhead_0 (C : cx D (tyl cI cB cL) A RX12 cX12_isAhead 5 (some .boolean) p s m args c meth) (hR : 3 ≤ R.frames ∧ 66 ≤ R.locals) {r : Int32} (u : Sg) (x1 : Int32) (x2 : Int32) (x3 : Int32) {H : Heap} {locs : List Loc} {ls : Array Slot} (hl : lv_has ls 5 [(0, .ref (ad 0)), (1, .int x1), (2, .int x2), (3, .int x3)]) (S : st D (wM cI cB ad) A s u H locs) (h : fX12_isAhead_0 x1 x2 x3 u = some r) : W p l e R s m args below meth c H locs 0 0 (MQ below (qI D (tyl cI cB cL) (wM cI cB ad) A r u) args s 0 0 A) (F0 m 0 ls []) := by
  have hx := C.1
  have hb := C.2.1
  have hsz := hl.1
  unfold fX12_isAhead_0 at h
  refine lv_aload_n hx hb dX12_isAhead_0 rfl (lv_at hl 0 rfl) ?_
  refine lv_iload_n hx hb dX12_isAhead_1 rfl (lv_at hl 1 rfl) ?_
  refine lv_iload_n hx hb dX12_isAhead_2 rfl (lv_at hl 2 rfl) ?_
  refine lv_iconst (v := 1) hx hb dX12_isAhead_3 (by decide) ?_
  obtain ⟨r2, h1, h⟩ := obr_some h
  refine q_callVi (As := [.int x1, .int x2, .int 1]) (na := 3) C S (oM0 cI cB ad) rfl (ct_X12_ofPair l D cI cB cL ad x1 x2 1 u h1) mw_126 mw_125 mw_127 mw_5 mw_124 hdX12_ofPair ⟨Nat.le_trans (Nat.le_of_ble_eq_true rfl) hR.1, Nat.le_trans (Nat.le_of_ble_eq_true rfl) hR.2⟩ rfl hsz ⟨Nat.zero_le _, Nat.zero_le _⟩ (Nat.le_of_ble_eq_true rfl) dX12_isAhead_4 rfl (fun H locs S => ?_)
  refine lv_aload_n hx hb dX12_isAhead_7 rfl (lv_at hl 0 rfl) ?_
  refine lv_iload_n hx hb dX12_isAhead_8 rfl (lv_at hl 1 rfl) ?_
  refine lv_iload_n hx hb dX12_isAhead_9 rfl (lv_at hl 3 rfl) ?_
  refine lv_iconst (v := 1) hx hb dX12_isAhead_10 (by decide) ?_
  obtain ⟨r4, h3, h⟩ := obr_some h
  refine q_callVi (As := [.int x1, .int x3, .int 1]) (na := 3) C S (oM0 cI cB ad) rfl (ct_X12_ofPair l D cI cB cL ad x1 x3 1 u h3) mw_126 mw_125 mw_127 mw_5 mw_124 hdX12_ofPair ⟨Nat.le_trans (Nat.le_of_ble_eq_true rfl) hR.1, Nat.le_trans (Nat.le_of_ble_eq_true rfl) hR.2⟩ rfl hsz ⟨Nat.zero_le _, Nat.zero_le _⟩ (Nat.le_of_ble_eq_true rfl) dX12_isAhead_11 rfl (fun H locs S => ?_)
  refine lv_icmp_ne (tgt := 38) hx hb dX12_isAhead_14 (by decide) (fun c5 => ?_) (fun c5 => ?_)
  · have h := cnd_f c5 h
    exact wX12_isAhead_38 C hR u x1 x2 x3 (lv_sub hl [0, 1, 2, 3] rfl) S h
  · have h := cnd_t c5 h
    refine lv_aload_n hx hb dX12_isAhead_17 rfl (lv_at hl 0 rfl) ?_
    refine lv_iload_n hx hb dX12_isAhead_18 rfl (lv_at hl 1 rfl) ?_
    refine lv_iload_n hx hb dX12_isAhead_19 rfl (lv_at hl 2 rfl) ?_
    refine lv_iconst (v := 2) hx hb dX12_isAhead_20 (by decide) ?_
    obtain ⟨r18, h17, h⟩ := obr_some h
    refine q_callVi (As := [.int x1, .int x2, .int 2]) (na := 3) C S (oM0 cI cB ad) rfl (ct_X12_ofPair l D cI cB cL ad x1 x2 2 u h17) mw_126 mw_125 mw_127 mw_5 mw_124 hdX12_ofPair ⟨Nat.le_trans (Nat.le_of_ble_eq_true rfl) hR.1, Nat.le_trans (Nat.le_of_ble_eq_true rfl) hR.2⟩ rfl hsz ⟨Nat.zero_le _, Nat.zero_le _⟩ (Nat.le_of_ble_eq_true rfl) dX12_isAhead_21 rfl (fun H locs S => ?_)
    refine lv_aload_n hx hb dX12_isAhead_24 rfl (lv_at hl 0 rfl) ?_
    refine lv_iload_n hx hb dX12_isAhead_25 rfl (lv_at hl 1 rfl) ?_
    refine lv_iload_n hx hb dX12_isAhead_26 rfl (lv_at hl 3 rfl) ?_
    refine lv_iconst (v := 2) hx hb dX12_isAhead_27 (by decide) ?_
    obtain ⟨r20, h19, h⟩ := obr_some h
    refine q_callVi (As := [.int x1, .int x3, .int 2]) (na := 3) C S (oM0 cI cB ad) rfl (ct_X12_ofPair l D cI cB cL ad x1 x3 2 u h19) mw_126 mw_125 mw_127 mw_5 mw_124 hdX12_ofPair ⟨Nat.le_trans (Nat.le_of_ble_eq_true rfl) hR.1, Nat.le_trans (Nat.le_of_ble_eq_true rfl) hR.2⟩ rfl hsz ⟨Nat.zero_le _, Nat.zero_le _⟩ (Nat.le_of_ble_eq_true rfl) dX12_isAhead_28 rfl (fun H locs S => ?_)
    refine lv_icmp_ne (tgt := 38) hx hb dX12_isAhead_31 (by decide) (fun c21 => ?_) (fun c21 => ?_)
    · have h := cnd_f c21 h
      exact wX12_isAhead_38 C hR u x1 x2 x3 (lv_sub hl [0, 1, 2, 3] rfl) S h
    · have h := cnd_t c21 h
      refine lv_iconst (v := 1) hx hb dX12_isAhead_34 (by decide) ?_
      refine lv_goto (tgt := 39) hx hb dX12_isAhead_35 (by decide) ?_
      exact wX12_isAhead_39 C hR u x1 x2 x3 1 (lv_sub hl [0, 1, 2, 3] rfl) S h
set_option maxRecDepth 10000 in
set_option maxHeartbeats 4000000 in
theorem ct_X12_isAhead (l : Launch) (D : va_G) (cI cB cL : ClassId) (ad : Nat → Nat) (x1 : Int32) (x2 : Int32) (x3 : Int32) (u : Sg) {r : Int32} (h : fX12_isAhead x1 x2 x3 u = some r) : metI l D (tyl cI cB cL) yX12_isAhead cX12_isAhead 5 (some .boolean) 3 66 (wM cI cB ad) [.ref (ad 0), .int x1, .int x2, .int x3] u r u := by
  intro sz
  refine Met.ofW (cc := cX12_isAhead) (maxL := 5) (ret := (some .boolean)) (by decide) rfl ?_
  intro p e s m args below meth c s₁ B hml hv
  obtain ⟨rfl, C, S⟩ := q_entry B hml hv
  have hl := lv_entry ([.ref (ad 0), .int x1, .int x2, .int x3]) (n := 5) (Nat.le_of_ble_eq_true rfl)
  rw [lg_entry_eq]
  generalize (lg_sl ([.ref (ad 0), .int x1, .int x2, .int x3]) ++ List.replicate (5 - (lg_sl ([.ref (ad 0), .int x1, .int x2, .int x3])).length) Slot.unset).toArray = ls at hl ⊢
  exact wX12_isAhead_0 C ⟨Nat.le_refl _, Nat.le_refl _⟩ u x1 x2 x3 (lv_sub hl [0, 1, 2, 3] rfl) S h
noncomputable def fX12_leastOf_44 (K4 : Int32 → Int32 → Int32 → Option Int32) (x1 : Int32) (x2 : Int32) (x3 : Int32) (u : Sg) : Option Int32 := bnd (x3 + 1) (fun v7 => K4 x1 x2 v7)
noncomputable def fX12_leastOf_42 (K4 : Int32 → Int32 → Int32 → Option Int32) (x1 : Int32) (x3 : Int32) (u : Sg) : Option Int32 := fX12_leastOf_44 K4 x1 x3 x3 u
noncomputable def fX12_leastOf_4 (u : Sg) : Nat → Int32 → Int32 → Int32 → Option Int32
  | 0, _, _, _ => none
  | n + 1, x1, x2, x3 => obr (fX12_messages u) (fun r2 => cnd (r2 ≤ x3) (some x2) (obr (fX12_ofPair x1 x3 0 u) (fun r5 => cnd ((fX12_in r5 1 2) = 0) (fX12_leastOf_44 (fun a0 a1 a2 => fX12_leastOf_4 u n a0 a1 a2) x1 x2 x3 u) (cnd (x2 = (-1)) (fX12_leastOf_42 (fun a0 a1 a2 => fX12_leastOf_4 u n a0 a1 a2) x1 x3 u) (obr (fX12_isAhead x1 x3 x2 u) (fun r10 => cnd (r10 = 0) (fX12_leastOf_44 (fun a0 a1 a2 => fX12_leastOf_4 u n a0 a1 a2) x1 x2 x3 u) (fX12_leastOf_42 (fun a0 a1 a2 => fX12_leastOf_4 u n a0 a1 a2) x1 x3 u)))))))
noncomputable def fX12_leastOf_0 (x1 : Int32) (u : Sg) : Option Int32 := fX12_leastOf_4 u FU x1 (-1) 0
noncomputable def fX12_leastOf (x1 : Int32) (u : Sg) : Option Int32 := fX12_leastOf_0 x1 u
set_option maxRecDepth 10000 in
set_option maxHeartbeats 4000000 in
theorem wX12_leastOf_44 (C : cx D (tyl cI cB cL) A RX12 cX12_leastOf 4 (some .int) p s m args c meth) (hR : 4 ≤ R.frames ∧ 90 ≤ R.locals) {r : Int32} (u : Sg) {K4 : Int32 → Int32 → Int32 → Option Int32} (hK4 : ∀ (y1 : Int32) (y2 : Int32) (y3 : Int32) (H : Heap) (locs : List Loc) (ls : Array Slot), lv_has ls 4 [(0, .ref (ad 0)), (1, .int y1), (2, .int y2), (3, .int y3)] → st D (wM cI cB ad) A s u H locs → K4 y1 y2 y3 = some r → W p l e R s m args below meth c H locs 0 0 (MQ below (qI D (tyl cI cB cL) (wM cI cB ad) A r u) args s 0 0 A) (F0 m 4 ls [])) (x1 : Int32) (x2 : Int32) (x3 : Int32) {H : Heap} {locs : List Loc} {ls : Array Slot} (hl : lv_has ls 4 [(0, .ref (ad 0)), (1, .int x1), (2, .int x2), (3, .int x3)]) (S : st D (wM cI cB ad) A s u H locs) (h : fX12_leastOf_44 K4 x1 x2 x3 u = some r) : W p l e R s m args below meth c H locs 0 0 (MQ below (qI D (tyl cI cB cL) (wM cI cB ad) A r u) args s 0 0 A) (F0 m 44 ls []) := by
  have hx := C.1
  have hb := C.2.1
  have hsz := hl.1
  unfold fX12_leastOf_44 at h
  obtain ⟨v7, ev7⟩ : ∃ y : Int32, y = x3 + 1 := ⟨_, rfl⟩
  have h := bnd_of ev7 h
  refine lv_iinc (v := v7) (lv' := [(3, .int v7), (0, .ref (ad 0)), (1, .int x1), (2, .int x2)]) hx hb dX12_leastOf_44 hl (k := 3) rfl (by rw [ev7]; rfl) (by decide) rfl (fun ls hl => ?_)
  have hsz := hl.1
  refine lv_goto (tgt := 4) hx hb dX12_leastOf_47 (by decide) ?_
  exact hK4 x1 x2 v7 H locs ls (lv_sub hl [1, 2, 3, 0] rfl) S h
set_option maxRecDepth 10000 in
set_option maxHeartbeats 4000000 in
theorem wX12_leastOf_42 (C : cx D (tyl cI cB cL) A RX12 cX12_leastOf 4 (some .int) p s m args c meth) (hR : 4 ≤ R.frames ∧ 90 ≤ R.locals) {r : Int32} (u : Sg) {K4 : Int32 → Int32 → Int32 → Option Int32} (hK4 : ∀ (y1 : Int32) (y2 : Int32) (y3 : Int32) (H : Heap) (locs : List Loc) (ls : Array Slot), lv_has ls 4 [(0, .ref (ad 0)), (1, .int y1), (2, .int y2), (3, .int y3)] → st D (wM cI cB ad) A s u H locs → K4 y1 y2 y3 = some r → W p l e R s m args below meth c H locs 0 0 (MQ below (qI D (tyl cI cB cL) (wM cI cB ad) A r u) args s 0 0 A) (F0 m 4 ls [])) (x1 : Int32) (x3 : Int32) {H : Heap} {locs : List Loc} {ls : Array Slot} (hl : lv_has ls 4 [(0, .ref (ad 0)), (1, .int x1), (3, .int x3)]) (S : st D (wM cI cB ad) A s u H locs) (h : fX12_leastOf_42 K4 x1 x3 u = some r) : W p l e R s m args below meth c H locs 0 0 (MQ below (qI D (tyl cI cB cL) (wM cI cB ad) A r u) args s 0 0 A) (F0 m 42 ls []) := by
  have hx := C.1
  have hb := C.2.1
  have hsz := hl.1
  unfold fX12_leastOf_42 at h
  refine lv_iload_n hx hb dX12_leastOf_42 rfl (lv_at hl 2 rfl) ?_
  refine lv_istore_n (lv' := [(2, .int x3), (0, .ref (ad 0)), (1, .int x1), (3, .int x3)]) hx hb dX12_leastOf_43 rfl hl (by decide) rfl (fun ls hl => ?_)
  have hsz := hl.1
  exact wX12_leastOf_44 C hR u hK4 x1 x3 x3 (lv_sub hl [1, 2, 0, 3] rfl) S h
set_option maxRecDepth 10000 in
set_option maxHeartbeats 4000000 in
theorem wX12_leastOf_4 (C : cx D (tyl cI cB cL) A RX12 cX12_leastOf 4 (some .int) p s m args c meth) (hR : 4 ≤ R.frames ∧ 90 ≤ R.locals) {r : Int32} (u : Sg) : ∀ (n : Nat) (x1 : Int32) (x2 : Int32) (x3 : Int32) (H : Heap) (locs : List Loc) (ls : Array Slot), lv_has ls 4 [(0, .ref (ad 0)), (1, .int x1), (2, .int x2), (3, .int x3)] → st D (wM cI cB ad) A s u H locs → fX12_leastOf_4 u n x1 x2 x3 = some r → W p l e R s m args below meth c H locs 0 0 (MQ below (qI D (tyl cI cB cL) (wM cI cB ad) A r u) args s 0 0 A) (F0 m 4 ls []) := by
  have hx := C.1
  have hb := C.2.1
  intro n
  induction n with
  | zero =>
    intro x1 x2 x3 H locs ls hl S h
    cases h
  | succ n ih =>
    intro x1 x2 x3 H locs ls hl S h
    rw [fX12_leastOf_4] at h
    have hsz := hl.1
    refine lv_iload_n hx hb dX12_leastOf_4 rfl (lv_at hl 3 rfl) ?_
    refine lv_aload_n hx hb dX12_leastOf_5 rfl (lv_at hl 0 rfl) ?_
    obtain ⟨r2, h1, h⟩ := obr_some h
    refine q_callVi (As := []) (na := 0) C S (oM0 cI cB ad) rfl (ct_X12_messages l D cI cB cL ad u h1) mw_31 mw_30 mw_32 mw_5 mw_29 hdX12_messages ⟨Nat.le_trans (Nat.le_of_ble_eq_true rfl) hR.1, Nat.le_trans (Nat.le_of_ble_eq_true rfl) hR.2⟩ rfl hsz ⟨Nat.zero_le _, Nat.zero_le _⟩ (Nat.le_of_ble_eq_true rfl) dX12_leastOf_6 rfl (fun H locs S => ?_)
    refine lv_icmp_ge (tgt := 50) hx hb dX12_leastOf_9 (by decide) (fun c3 => ?_) (fun c3 => ?_)
    · have h := cnd_t c3 h
      refine lv_iload_n hx hb dX12_leastOf_50 rfl (lv_at hl 2 rfl) ?_
      exact q_iret C S (rt_R h) dX12_leastOf_51
    · have h := cnd_f c3 h
      refine lv_aload_n hx hb dX12_leastOf_12 rfl (lv_at hl 0 rfl) ?_
      refine lv_iload_n hx hb dX12_leastOf_13 rfl (lv_at hl 1 rfl) ?_
      refine lv_iload_n hx hb dX12_leastOf_14 rfl (lv_at hl 3 rfl) ?_
      refine lv_iconst (v := 0) hx hb dX12_leastOf_15 (by decide) ?_
      obtain ⟨r5, h4, h⟩ := obr_some h
      refine q_callVi (As := [.int x1, .int x3, .int 0]) (na := 3) C S (oM0 cI cB ad) rfl (ct_X12_ofPair l D cI cB cL ad x1 x3 0 u h4) mw_126 mw_125 mw_127 mw_5 mw_124 hdX12_ofPair ⟨Nat.le_trans (Nat.le_of_ble_eq_true rfl) hR.1, Nat.le_trans (Nat.le_of_ble_eq_true rfl) hR.2⟩ rfl hsz ⟨Nat.zero_le _, Nat.zero_le _⟩ (Nat.le_of_ble_eq_true rfl) dX12_leastOf_16 rfl (fun H locs S => ?_)
      refine lv_iconst (v := 1) hx hb dX12_leastOf_19 (by decide) ?_
      refine lv_iconst (v := 2) hx hb dX12_leastOf_20 (by decide) ?_
      refine q_callP (As := [.int r5, .int 1, .int 2]) (na := 3) C S (ct_X12_in l D cI cB cL r5 1 2) mw_28 mw_27 mw_5 mw_26 hdX12_in ⟨Nat.le_trans (Nat.le_of_ble_eq_true rfl) hR.1, Nat.le_trans (Nat.le_of_ble_eq_true rfl) hR.2⟩ rfl hsz ⟨Nat.zero_le _, Nat.zero_le _⟩ (Nat.le_of_ble_eq_true rfl) dX12_leastOf_21 rfl (fun H locs S => ?_)
      refine lv_if_eq (tgt := 44) hx hb dX12_leastOf_24 (by decide) (fun c6 => ?_) (fun c6 => ?_)
      · have h := cnd_t c6 h
        exact wX12_leastOf_44 C hR u ih x1 x2 x3 (lv_sub hl [0, 1, 2, 3] rfl) S h
      · have h := cnd_f c6 h
        refine lv_iload_n hx hb dX12_leastOf_27 rfl (lv_at hl 2 rfl) ?_
        refine lv_iconst (v := (-1)) hx hb dX12_leastOf_28 (by decide) ?_
        refine lv_icmp_eq (tgt := 42) hx hb dX12_leastOf_29 (by decide) (fun c8 => ?_) (fun c8 => ?_)
        · have h := cnd_t c8 h
          exact wX12_leastOf_42 C hR u ih x1 x3 (lv_sub hl [0, 1, 3] rfl) S h
        · have h := cnd_f c8 h
          refine lv_aload_n hx hb dX12_leastOf_32 rfl (lv_at hl 0 rfl) ?_
          refine lv_iload_n hx hb dX12_leastOf_33 rfl (lv_at hl 1 rfl) ?_
          refine lv_iload_n hx hb dX12_leastOf_34 rfl (lv_at hl 3 rfl) ?_
          refine lv_iload_n hx hb dX12_leastOf_35 rfl (lv_at hl 2 rfl) ?_
          obtain ⟨r10, h9, h⟩ := obr_some h
          refine q_callVi (As := [.int x1, .int x3, .int x2]) (na := 3) C S (oM0 cI cB ad) rfl (ct_X12_isAhead l D cI cB cL ad x1 x3 x2 u h9) mw_174 mw_173 mw_175 mw_5 mw_172 hdX12_isAhead ⟨Nat.le_trans (Nat.le_of_ble_eq_true rfl) hR.1, Nat.le_trans (Nat.le_of_ble_eq_true rfl) hR.2⟩ rfl hsz ⟨Nat.zero_le _, Nat.zero_le _⟩ (Nat.le_of_ble_eq_true rfl) dX12_leastOf_36 rfl (fun H locs S => ?_)
          refine lv_if_eq (tgt := 44) hx hb dX12_leastOf_39 (by decide) (fun c11 => ?_) (fun c11 => ?_)
          · have h := cnd_t c11 h
            exact wX12_leastOf_44 C hR u ih x1 x2 x3 (lv_sub hl [0, 1, 2, 3] rfl) S h
          · have h := cnd_f c11 h
            exact wX12_leastOf_42 C hR u ih x1 x3 (lv_sub hl [0, 1, 3] rfl) S h
set_option maxRecDepth 10000 in
set_option maxHeartbeats 4000000 in
theorem wX12_leastOf_0 (C : cx D (tyl cI cB cL) A RX12 cX12_leastOf 4 (some .int) p s m args c meth) (hR : 4 ≤ R.frames ∧ 90 ≤ R.locals) {r : Int32} (u : Sg) (x1 : Int32) {H : Heap} {locs : List Loc} {ls : Array Slot} (hl : lv_has ls 4 [(0, .ref (ad 0)), (1, .int x1)]) (S : st D (wM cI cB ad) A s u H locs) (h : fX12_leastOf_0 x1 u = some r) : W p l e R s m args below meth c H locs 0 0 (MQ below (qI D (tyl cI cB cL) (wM cI cB ad) A r u) args s 0 0 A) (F0 m 0 ls []) := by
  have hx := C.1
  have hb := C.2.1
  have hsz := hl.1
  unfold fX12_leastOf_0 at h
  refine lv_iconst (v := (-1)) hx hb dX12_leastOf_0 (by decide) ?_
  refine lv_istore_n (lv' := [(2, .int (-1)), (0, .ref (ad 0)), (1, .int x1)]) hx hb dX12_leastOf_1 rfl hl (by decide) rfl (fun ls hl => ?_)
  have hsz := hl.1
  refine lv_iconst (v := 0) hx hb dX12_leastOf_2 (by decide) ?_
  refine lv_istore_n (lv' := [(3, .int 0), (2, .int (-1)), (0, .ref (ad 0)), (1, .int x1)]) hx hb dX12_leastOf_3 rfl hl (by decide) rfl (fun ls hl => ?_)
  have hsz := hl.1
  exact wX12_leastOf_4 C hR u FU x1 (-1) 0 H locs ls (lv_sub hl [2, 3, 1, 0] rfl) S h
set_option maxRecDepth 10000 in
set_option maxHeartbeats 4000000 in
theorem ct_X12_leastOf (l : Launch) (D : va_G) (cI cB cL : ClassId) (ad : Nat → Nat) (x1 : Int32) (u : Sg) {r : Int32} (h : fX12_leastOf x1 u = some r) : metI l D (tyl cI cB cL) yX12_leastOf cX12_leastOf 4 (some .int) 4 90 (wM cI cB ad) [.ref (ad 0), .int x1] u r u := by
  intro sz
  refine Met.ofW (cc := cX12_leastOf) (maxL := 4) (ret := (some .int)) (by decide) rfl ?_
  intro p e s m args below meth c s₁ B hml hv
  obtain ⟨rfl, C, S⟩ := q_entry B hml hv
  have hl := lv_entry ([.ref (ad 0), .int x1]) (n := 4) (Nat.le_of_ble_eq_true rfl)
  rw [lg_entry_eq]
  generalize (lg_sl ([.ref (ad 0), .int x1]) ++ List.replicate (4 - (lg_sl ([.ref (ad 0), .int x1])).length) Slot.unset).toArray = ls at hl ⊢
  exact wX12_leastOf_0 C ⟨Nat.le_refl _, Nat.le_refl _⟩ u x1 (lv_sub hl [0, 1] rfl) S h
noncomputable def fX12_delivers_8 : Nat → Int32 → Int32 → Int32 → Sg → Option (Int32 × Sg)
  | 0, _, _, _, _ => none
  | n + 1, x1, x2, x3, u => cnd (x3 = (-1)) (some (x2, u)) (obr (fX12_ofPair x1 x3 0 u) (fun r5 => cnd (r5 = 2) (obr (fX12_lays x1 x3 0 3 u) (fun u8 => obr (fX12_lays x1 x3 4 (u8 1 4) u8) (fun u10 => obr (fX12_of x1 4 u10) (fun r12 => grd (vp_in (fX12_nodeAt x1 (5 + r12)) 32243) (bnd (s2 u10 1 (((fX12_nodeAt x1 (5 + r12)) : Int32).toNatClampNeg) x3) (fun u14 => grd (vp_in (fX12_nodeAt x1 4) 32243) (grd (vp_in (fX12_nodeAt x1 4) 32243) (bnd (s2 u14 1 (((fX12_nodeAt x1 4) : Int32).toNatClampNeg) ((u14 1 (((fX12_nodeAt x1 4) : Int32).toNatClampNeg)) + 1)) (fun u17 => obr (fX12_isTold x1 1 x3 u17) (fun u19 => bnd (x2 + 1) (fun v20 => obr (fX12_leastOf x1 u19) (fun r22 => fX12_delivers_8 n x1 v20 r22 u19)))))))))))) (some (x2, u))))
noncomputable def fX12_delivers_0 (x1 : Int32) (u : Sg) : Option (Int32 × Sg) := obr (fX12_leastOf x1 u) (fun r2 => fX12_delivers_8 FU x1 0 r2 u)
noncomputable def fX12_delivers (x1 : Int32) (u : Sg) : Option (Int32 × Sg) := fX12_delivers_0 x1 u
set_option maxRecDepth 10000 in
set_option maxHeartbeats 4000000 in
theorem wX12_delivers_8 (C : cx D (tyl cI cB cL) A RX12 cX12_delivers 4 (some .int) p s m args c meth) (hR : 5 ≤ R.frames ∧ 113 ≤ R.locals) {r : Int32} {σ' : Sg} : ∀ (n : Nat) (x1 : Int32) (x2 : Int32) (x3 : Int32) (u : Sg) (H : Heap) (locs : List Loc) (ls : Array Slot), lv_has ls 4 [(0, .ref (ad 0)), (1, .int x1), (2, .int x2), (3, .int x3)] → st D (wM cI cB ad) A s u H locs → fX12_delivers_8 n x1 x2 x3 u = some (r, σ') → W p l e R s m args below meth c H locs 0 0 (MQ below (qI D (tyl cI cB cL) (wM cI cB ad) A r σ') args s 0 0 A) (F0 m 8 ls []) := by
  have hx := C.1
  have hb := C.2.1
  intro n
  induction n with
  | zero =>
    intro x1 x2 x3 u H locs ls hl S h
    cases h
  | succ n ih =>
    intro x1 x2 x3 u H locs ls hl S h
    rw [fX12_delivers_8] at h
    have hsz := hl.1
    refine lv_iload_n hx hb dX12_delivers_8 rfl (lv_at hl 3 rfl) ?_
    refine lv_iconst (v := (-1)) hx hb dX12_delivers_9 (by decide) ?_
    refine lv_icmp_eq (tgt := 96) hx hb dX12_delivers_10 (by decide) (fun c3 => ?_) (fun c3 => ?_)
    · have h := cnd_t c3 h
      refine lv_iload_n hx hb dX12_delivers_96 rfl (lv_at hl 2 rfl) ?_
      exact q_iret C S (rt_S h) dX12_delivers_97
    · have h := cnd_f c3 h
      refine lv_aload_n hx hb dX12_delivers_13 rfl (lv_at hl 0 rfl) ?_
      refine lv_iload_n hx hb dX12_delivers_14 rfl (lv_at hl 1 rfl) ?_
      refine lv_iload_n hx hb dX12_delivers_15 rfl (lv_at hl 3 rfl) ?_
      refine lv_iconst (v := 0) hx hb dX12_delivers_16 (by decide) ?_
      obtain ⟨r5, h4, h⟩ := obr_some h
      refine q_callVi (As := [.int x1, .int x3, .int 0]) (na := 3) C S (oM0 cI cB ad) rfl (ct_X12_ofPair l D cI cB cL ad x1 x3 0 u h4) mw_126 mw_125 mw_127 mw_5 mw_124 hdX12_ofPair ⟨Nat.le_trans (Nat.le_of_ble_eq_true rfl) hR.1, Nat.le_trans (Nat.le_of_ble_eq_true rfl) hR.2⟩ rfl hsz ⟨Nat.zero_le _, Nat.zero_le _⟩ (Nat.le_of_ble_eq_true rfl) dX12_delivers_17 rfl (fun H locs S => ?_)
      refine lv_iconst (v := 2) hx hb dX12_delivers_20 (by decide) ?_
      refine lv_icmp_ne (tgt := 96) hx hb dX12_delivers_21 (by decide) (fun c6 => ?_) (fun c6 => ?_)
      · have h := cnd_f c6 h
        refine lv_iload_n hx hb dX12_delivers_96 rfl (lv_at hl 2 rfl) ?_
        exact q_iret C S (rt_S h) dX12_delivers_97
      · have h := cnd_t c6 h
        refine lv_aload_n hx hb dX12_delivers_24 rfl (lv_at hl 0 rfl) ?_
        refine lv_iload_n hx hb dX12_delivers_25 rfl (lv_at hl 1 rfl) ?_
        refine lv_iload_n hx hb dX12_delivers_26 rfl (lv_at hl 3 rfl) ?_
        refine lv_iconst (v := 0) hx hb dX12_delivers_27 (by decide) ?_
        refine lv_iconst (v := 3) hx hb dX12_delivers_28 (by decide) ?_
        obtain ⟨u8, h7, h⟩ := obr_some h
        refine q_callVv (As := [.int x1, .int x3, .int 0, .int 3]) (na := 4) C S (oM0 cI cB ad) rfl (ct_X12_lays l D cI cB cL ad x1 x3 0 3 u h7) mw_110 mw_109 mw_111 mw_5 mw_108 hdX12_lays ⟨Nat.le_trans (Nat.le_of_ble_eq_true rfl) hR.1, Nat.le_trans (Nat.le_of_ble_eq_true rfl) hR.2⟩ rfl hsz ⟨Nat.zero_le _, Nat.zero_le _⟩ (Nat.le_of_ble_eq_true rfl) dX12_delivers_29 rfl (fun H locs S => ?_)
        refine lv_aload_n hx hb dX12_delivers_32 rfl (lv_at hl 0 rfl) ?_
        refine lv_iload_n hx hb dX12_delivers_33 rfl (lv_at hl 1 rfl) ?_
        refine lv_iload_n hx hb dX12_delivers_34 rfl (lv_at hl 3 rfl) ?_
        refine lv_iconst (v := 4) hx hb dX12_delivers_35 (by decide) ?_
        refine lv_aload_n hx hb dX12_delivers_36 rfl (lv_at hl 0 rfl) ?_
        refine q_get (v := .ref (ad 1)) C S (oM0 cI cB ad) rfl iwX12 1 (by decide) mw_14 rfl dX12_delivers_37 ?_
        refine lv_iconst (v := 4) hx hb dX12_delivers_40 (by decide) ?_
        refine q_iald C S (aM1 cI cB ad) 0 rfl (show vp_in 4 32243 by unfold vp_in; decide) dX12_delivers_41 (j := 4) (by decide) ?_
        obtain ⟨u10, h9, h⟩ := obr_some h
        refine q_callVv (As := [.int x1, .int x3, .int 4, .int (u8 1 4)]) (na := 4) C S (oM0 cI cB ad) rfl (ct_X12_lays l D cI cB cL ad x1 x3 4 (u8 1 4) u8 h9) mw_110 mw_109 mw_111 mw_5 mw_108 hdX12_lays ⟨Nat.le_trans (Nat.le_of_ble_eq_true rfl) hR.1, Nat.le_trans (Nat.le_of_ble_eq_true rfl) hR.2⟩ rfl hsz ⟨Nat.zero_le _, Nat.zero_le _⟩ (Nat.le_of_ble_eq_true rfl) dX12_delivers_42 rfl (fun H locs S => ?_)
        refine lv_aload_n hx hb dX12_delivers_45 rfl (lv_at hl 0 rfl) ?_
        refine q_get (v := .ref (ad 1)) C S (oM0 cI cB ad) rfl iwX12 1 (by decide) mw_14 rfl dX12_delivers_46 ?_
        refine lv_iload_n hx hb dX12_delivers_49 rfl (lv_at hl 1 rfl) ?_
        refine lv_iconst (v := 5) hx hb dX12_delivers_50 (by decide) ?_
        refine lv_aload_n hx hb dX12_delivers_51 rfl (lv_at hl 0 rfl) ?_
        refine lv_iload_n hx hb dX12_delivers_52 rfl (lv_at hl 1 rfl) ?_
        refine lv_iconst (v := 4) hx hb dX12_delivers_53 (by decide) ?_
        obtain ⟨r12, h11, h⟩ := obr_some h
        refine q_callVi (As := [.int x1, .int 4]) (na := 2) C S (oM0 cI cB ad) rfl (ct_X12_of l D cI cB cL ad x1 4 u10 h11) mw_35 mw_34 mw_36 mw_5 mw_33 hdX12_of ⟨Nat.le_trans (Nat.le_of_ble_eq_true rfl) hR.1, Nat.le_trans (Nat.le_of_ble_eq_true rfl) hR.2⟩ rfl hsz ⟨Nat.zero_le _, Nat.zero_le _⟩ (Nat.le_of_ble_eq_true rfl) dX12_delivers_54 rfl (fun H locs S => ?_)
        refine lv_iadd hx hb dX12_delivers_57 ?_
        refine q_callP (As := [.int x1, .int (5 + r12)]) (na := 2) C S (ct_X12_nodeAt l D cI cB cL x1 (5 + r12)) mw_7 mw_6 mw_5 mw_4 hdX12_nodeAt ⟨Nat.le_trans (Nat.le_of_ble_eq_true rfl) hR.1, Nat.le_trans (Nat.le_of_ble_eq_true rfl) hR.2⟩ rfl hsz ⟨Nat.zero_le _, Nat.zero_le _⟩ (Nat.le_of_ble_eq_true rfl) dX12_delivers_58 rfl (fun H locs S => ?_)
        refine lv_iload_n hx hb dX12_delivers_61 rfl (lv_at hl 3 rfl) ?_
        obtain ⟨g13, h⟩ := grd_some h
        obtain ⟨u14, eu14⟩ : ∃ z : Sg, z = s2 u10 1 (((fX12_nodeAt x1 (5 + r12)) : Int32).toNatClampNeg) x3 := ⟨_, rfl⟩
        have h := bnd_of eu14 h
        refine q_iast C S (aM1 cI cB ad) 0 rfl g13 dX12_delivers_62 (j := ((fX12_nodeAt x1 (5 + r12)) : Int32).toNatClampNeg) rfl eu14 (fun H locs S => ?_)
        refine lv_aload_n hx hb dX12_delivers_63 rfl (lv_at hl 0 rfl) ?_
        refine q_get (v := .ref (ad 1)) C S (oM0 cI cB ad) rfl iwX12 1 (by decide) mw_14 rfl dX12_delivers_64 ?_
        refine lv_iload_n hx hb dX12_delivers_67 rfl (lv_at hl 1 rfl) ?_
        refine lv_iconst (v := 4) hx hb dX12_delivers_68 (by decide) ?_
        refine q_callP (As := [.int x1, .int 4]) (na := 2) C S (ct_X12_nodeAt l D cI cB cL x1 4) mw_7 mw_6 mw_5 mw_4 hdX12_nodeAt ⟨Nat.le_trans (Nat.le_of_ble_eq_true rfl) hR.1, Nat.le_trans (Nat.le_of_ble_eq_true rfl) hR.2⟩ rfl hsz ⟨Nat.zero_le _, Nat.zero_le _⟩ (Nat.le_of_ble_eq_true rfl) dX12_delivers_69 rfl (fun H locs S => ?_)
        refine lv_dup2_11 hx hb dX12_delivers_72 rfl rfl ?_
        obtain ⟨g15, h⟩ := grd_some h
        refine q_iald C S (aM1 cI cB ad) 0 rfl g15 dX12_delivers_73 (j := ((fX12_nodeAt x1 4) : Int32).toNatClampNeg) rfl ?_
        refine lv_iconst (v := 1) hx hb dX12_delivers_74 (by decide) ?_
        refine lv_iadd hx hb dX12_delivers_75 ?_
        obtain ⟨g16, h⟩ := grd_some h
        obtain ⟨u17, eu17⟩ : ∃ z : Sg, z = s2 u14 1 (((fX12_nodeAt x1 4) : Int32).toNatClampNeg) ((u14 1 (((fX12_nodeAt x1 4) : Int32).toNatClampNeg)) + 1) := ⟨_, rfl⟩
        have h := bnd_of eu17 h
        refine q_iast C S (aM1 cI cB ad) 0 rfl g16 dX12_delivers_76 (j := ((fX12_nodeAt x1 4) : Int32).toNatClampNeg) rfl eu17 (fun H locs S => ?_)
        refine lv_aload_n hx hb dX12_delivers_77 rfl (lv_at hl 0 rfl) ?_
        refine lv_iload_n hx hb dX12_delivers_78 rfl (lv_at hl 1 rfl) ?_
        refine lv_iconst (v := 1) hx hb dX12_delivers_79 (by decide) ?_
        refine lv_iload_n hx hb dX12_delivers_80 rfl (lv_at hl 3 rfl) ?_
        obtain ⟨u19, h18, h⟩ := obr_some h
        refine q_callVv (As := [.int x1, .int 1, .int x3]) (na := 3) C S (oM0 cI cB ad) rfl (ct_X12_isTold l D cI cB cL ad x1 1 x3 u17 h18) mw_114 mw_113 mw_115 mw_5 mw_112 hdX12_isTold ⟨Nat.le_trans (Nat.le_of_ble_eq_true rfl) hR.1, Nat.le_trans (Nat.le_of_ble_eq_true rfl) hR.2⟩ rfl hsz ⟨Nat.zero_le _, Nat.zero_le _⟩ (Nat.le_of_ble_eq_true rfl) dX12_delivers_81 rfl (fun H locs S => ?_)
        obtain ⟨v20, ev20⟩ : ∃ y : Int32, y = x2 + 1 := ⟨_, rfl⟩
        have h := bnd_of ev20 h
        refine lv_iinc (v := v20) (lv' := [(2, .int v20), (0, .ref (ad 0)), (1, .int x1), (3, .int x3)]) hx hb dX12_delivers_84 hl (k := 2) rfl (by rw [ev20]; rfl) (by decide) rfl (fun ls hl => ?_)
        have hsz := hl.1
        refine lv_aload_n hx hb dX12_delivers_87 rfl (lv_at hl 1 rfl) ?_
        refine lv_iload_n hx hb dX12_delivers_88 rfl (lv_at hl 2 rfl) ?_
        obtain ⟨r22, h21, h⟩ := obr_some h
        refine q_callVi (As := [.int x1]) (na := 1) C S (oM0 cI cB ad) rfl (ct_X12_leastOf l D cI cB cL ad x1 u19 h21) mw_178 mw_177 mw_179 mw_5 mw_176 hdX12_leastOf ⟨Nat.le_trans (Nat.le_of_ble_eq_true rfl) hR.1, Nat.le_trans (Nat.le_of_ble_eq_true rfl) hR.2⟩ rfl hsz ⟨Nat.zero_le _, Nat.zero_le _⟩ (Nat.le_of_ble_eq_true rfl) dX12_delivers_89 rfl (fun H locs S => ?_)
        refine lv_istore_n (lv' := [(3, .int r22), (2, .int v20), (0, .ref (ad 0)), (1, .int x1)]) hx hb dX12_delivers_92 rfl hl (by decide) rfl (fun ls hl => ?_)
        have hsz := hl.1
        refine lv_goto (tgt := 8) hx hb dX12_delivers_93 (by decide) ?_
        exact ih x1 v20 r22 u19 H locs ls (lv_sub hl [2, 3, 1, 0] rfl) S h
set_option maxRecDepth 10000 in
set_option maxHeartbeats 4000000 in
theorem wX12_delivers_0 (C : cx D (tyl cI cB cL) A RX12 cX12_delivers 4 (some .int) p s m args c meth) (hR : 5 ≤ R.frames ∧ 113 ≤ R.locals) {r : Int32} {σ' : Sg} (u : Sg) (x1 : Int32) {H : Heap} {locs : List Loc} {ls : Array Slot} (hl : lv_has ls 4 [(0, .ref (ad 0)), (1, .int x1)]) (S : st D (wM cI cB ad) A s u H locs) (h : fX12_delivers_0 x1 u = some (r, σ')) : W p l e R s m args below meth c H locs 0 0 (MQ below (qI D (tyl cI cB cL) (wM cI cB ad) A r σ') args s 0 0 A) (F0 m 0 ls []) := by
  have hx := C.1
  have hb := C.2.1
  have hsz := hl.1
  unfold fX12_delivers_0 at h
  refine lv_iconst (v := 0) hx hb dX12_delivers_0 (by decide) ?_
  refine lv_istore_n (lv' := [(2, .int 0), (0, .ref (ad 0)), (1, .int x1)]) hx hb dX12_delivers_1 rfl hl (by decide) rfl (fun ls hl => ?_)
  have hsz := hl.1
  refine lv_aload_n hx hb dX12_delivers_2 rfl (lv_at hl 1 rfl) ?_
  refine lv_iload_n hx hb dX12_delivers_3 rfl (lv_at hl 2 rfl) ?_
  obtain ⟨r2, h1, h⟩ := obr_some h
  refine q_callVi (As := [.int x1]) (na := 1) C S (oM0 cI cB ad) rfl (ct_X12_leastOf l D cI cB cL ad x1 u h1) mw_178 mw_177 mw_179 mw_5 mw_176 hdX12_leastOf ⟨Nat.le_trans (Nat.le_of_ble_eq_true rfl) hR.1, Nat.le_trans (Nat.le_of_ble_eq_true rfl) hR.2⟩ rfl hsz ⟨Nat.zero_le _, Nat.zero_le _⟩ (Nat.le_of_ble_eq_true rfl) dX12_delivers_4 rfl (fun H locs S => ?_)
  refine lv_istore_n (lv' := [(3, .int r2), (2, .int 0), (0, .ref (ad 0)), (1, .int x1)]) hx hb dX12_delivers_7 rfl hl (by decide) rfl (fun ls hl => ?_)
  have hsz := hl.1
  exact wX12_delivers_8 C hR FU x1 0 r2 u H locs ls (lv_sub hl [2, 3, 1, 0] rfl) S h
set_option maxRecDepth 10000 in
set_option maxHeartbeats 4000000 in
theorem ct_X12_delivers (l : Launch) (D : va_G) (cI cB cL : ClassId) (ad : Nat → Nat) (x1 : Int32) (u : Sg) {r : Int32} {σ' : Sg} (h : fX12_delivers x1 u = some (r, σ')) : metI l D (tyl cI cB cL) yX12_delivers cX12_delivers 4 (some .int) 5 113 (wM cI cB ad) [.ref (ad 0), .int x1] u r σ' := by
  intro sz
  refine Met.ofW (cc := cX12_delivers) (maxL := 4) (ret := (some .int)) (by decide) rfl ?_
  intro p e s m args below meth c s₁ B hml hv
  obtain ⟨rfl, C, S⟩ := q_entry B hml hv
  have hl := lv_entry ([.ref (ad 0), .int x1]) (n := 4) (Nat.le_of_ble_eq_true rfl)
  rw [lg_entry_eq]
  generalize (lg_sl ([.ref (ad 0), .int x1]) ++ List.replicate (4 - (lg_sl ([.ref (ad 0), .int x1])).length) Slot.unset).toArray = ls at hl ⊢
  exact wX12_delivers_0 C ⟨Nat.le_refl _, Nat.le_refl _⟩ u x1 (lv_sub hl [0, 1] rfl) S h
noncomputable def fX12_happens_0 (x1 : Int32) (u : Sg) : Option Sg := grd (vp_in (x1 + 2) 32243) (bnd (u 1 (((x1 + 2) : Int32).toNatClampNeg)) (fun v2 => obr (fX12_isUp v2 u) (fun r4 => cnd (r4 = 0) (some u) (grd (vp_in (x1 + 1) 32243) (cnd ((u 1 (((x1 + 1) : Int32).toNatClampNeg)) = 1) (obr (fX12_isDown v2 u) (fun u16 => obr (fX12_isTold v2 2 (-1) u16) (fun u18 => some u18))) (obr (fX12_messages u) (fun r9 => cnd (20 ≤ r9) (some u) (grd (vp_in (x1 + 3) 32243) (obd (fX12_isSent v2 (u 1 (((x1 + 3) : Int32).toNatClampNeg)) u) (fun r13 u14 => some u14))))))))))
noncomputable def fX12_happens (x1 : Int32) (u : Sg) : Option Sg := fX12_happens_0 x1 u
set_option maxRecDepth 10000 in
set_option maxHeartbeats 4000000 in
theorem wX12_happens_0 (C : cx D (tyl cI cB cL) A RX12 cX12_happens 3 none p s m args c meth) (hR : 7 ≤ R.frames ∧ 164 ≤ R.locals) {σ' : Sg} (u : Sg) (x1 : Int32) {H : Heap} {locs : List Loc} {ls : Array Slot} (hl : lv_has ls 3 [(0, .ref (ad 0)), (1, .int x1)]) (S : st D (wM cI cB ad) A s u H locs) (h : fX12_happens_0 x1 u = some σ') : W p l e R s m args below meth c H locs 0 0 (MQ below (qV D (tyl cI cB cL) (wM cI cB ad) A σ') args s 0 0 A) (F0 m 0 ls []) := by
  have hx := C.1
  have hb := C.2.1
  have hsz := hl.1
  unfold fX12_happens_0 at h
  refine lv_aload_n hx hb dX12_happens_0 rfl (lv_at hl 0 rfl) ?_
  refine q_get (v := .ref (ad 1)) C S (oM0 cI cB ad) rfl iwX12 1 (by decide) mw_14 rfl dX12_happens_1 ?_
  refine lv_iload_n hx hb dX12_happens_4 rfl (lv_at hl 1 rfl) ?_
  refine lv_iconst (v := 2) hx hb dX12_happens_5 (by decide) ?_
  refine lv_iadd hx hb dX12_happens_6 ?_
  obtain ⟨g1, h⟩ := grd_some h
  refine q_iald C S (aM1 cI cB ad) 0 rfl g1 dX12_happens_7 (j := ((x1 + 2) : Int32).toNatClampNeg) rfl ?_
  refine lv_topi (fun v2 ev2 => ?_)
  have h := bnd_of ev2 h
  refine lv_istore_n (lv' := [(2, .int v2), (0, .ref (ad 0)), (1, .int x1)]) hx hb dX12_happens_8 rfl hl (by decide) rfl (fun ls hl => ?_)
  have hsz := hl.1
  refine lv_aload_n hx hb dX12_happens_9 rfl (lv_at hl 1 rfl) ?_
  refine lv_iload_n hx hb dX12_happens_10 rfl (lv_at hl 0 rfl) ?_
  obtain ⟨r4, h3, h⟩ := obr_some h
  refine q_callVi (As := [.int v2]) (na := 1) C S (oM0 cI cB ad) rfl (ct_X12_isUp l D cI cB cL ad v2 u h3) mw_39 mw_38 mw_40 mw_5 mw_37 hdX12_isUp ⟨Nat.le_trans (Nat.le_of_ble_eq_true rfl) hR.1, Nat.le_trans (Nat.le_of_ble_eq_true rfl) hR.2⟩ rfl hsz ⟨Nat.zero_le _, Nat.zero_le _⟩ (Nat.le_of_ble_eq_true rfl) dX12_happens_11 rfl (fun H locs S => ?_)
  refine lv_if_ne (tgt := 18) hx hb dX12_happens_14 (by decide) (fun c5 => ?_) (fun c5 => ?_)
  · have h := cnd_f c5 h
    refine lv_aload_n hx hb dX12_happens_18 rfl (lv_at hl 1 rfl) ?_
    refine q_get (v := .ref (ad 1)) C S (oM0 cI cB ad) rfl iwX12 1 (by decide) mw_14 rfl dX12_happens_19 ?_
    refine lv_iload_n hx hb dX12_happens_22 rfl (lv_at hl 2 rfl) ?_
    refine lv_iconst (v := 1) hx hb dX12_happens_23 (by decide) ?_
    refine lv_iadd hx hb dX12_happens_24 ?_
    obtain ⟨g6, h⟩ := grd_some h
    refine q_iald C S (aM1 cI cB ad) 0 rfl g6 dX12_happens_25 (j := ((x1 + 1) : Int32).toNatClampNeg) rfl ?_
    refine lv_iconst (v := 1) hx hb dX12_happens_26 (by decide) ?_
    refine lv_icmp_ne (tgt := 45) hx hb dX12_happens_27 (by decide) (fun c7 => ?_) (fun c7 => ?_)
    · have h := cnd_f c7 h
      refine lv_aload_n hx hb dX12_happens_45 rfl (lv_at hl 1 rfl) ?_
      obtain ⟨r9, h8, h⟩ := obr_some h
      refine q_callVi (As := []) (na := 0) C S (oM0 cI cB ad) rfl (ct_X12_messages l D cI cB cL ad u h8) mw_31 mw_30 mw_32 mw_5 mw_29 hdX12_messages ⟨Nat.le_trans (Nat.le_of_ble_eq_true rfl) hR.1, Nat.le_trans (Nat.le_of_ble_eq_true rfl) hR.2⟩ rfl hsz ⟨Nat.zero_le _, Nat.zero_le _⟩ (Nat.le_of_ble_eq_true rfl) dX12_happens_46 rfl (fun H locs S => ?_)
      refine lv_bipush (v := 20) hx hb dX12_happens_49 (by decide) ?_
      refine lv_icmp_ge (tgt := 68) hx hb dX12_happens_51 (by decide) (fun c10 => ?_) (fun c10 => ?_)
      · have h := cnd_t c10 h
        exact q_vret C S (Option.some.inj h) dX12_happens_68
      · have h := cnd_f c10 h
        refine lv_aload_n hx hb dX12_happens_54 rfl (lv_at hl 1 rfl) ?_
        refine lv_iload_n hx hb dX12_happens_55 rfl (lv_at hl 0 rfl) ?_
        refine lv_aload_n hx hb dX12_happens_56 rfl (lv_at hl 1 rfl) ?_
        refine q_get (v := .ref (ad 1)) C S (oM0 cI cB ad) rfl iwX12 1 (by decide) mw_14 rfl dX12_happens_57 ?_
        refine lv_iload_n hx hb dX12_happens_60 rfl (lv_at hl 2 rfl) ?_
        refine lv_iconst (v := 3) hx hb dX12_happens_61 (by decide) ?_
        refine lv_iadd hx hb dX12_happens_62 ?_
        obtain ⟨g11, h⟩ := grd_some h
        refine q_iald C S (aM1 cI cB ad) 0 rfl g11 dX12_happens_63 (j := ((x1 + 3) : Int32).toNatClampNeg) rfl ?_
        obtain ⟨r13, u14, h12, h⟩ := obd_some h
        refine q_callVi (As := [.int v2, .int (u 1 (((x1 + 3) : Int32).toNatClampNeg))]) (na := 2) C S (oM0 cI cB ad) rfl (ct_X12_isSent l D cI cB cL ad v2 (u 1 (((x1 + 3) : Int32).toNatClampNeg)) u h12) mw_182 mw_181 mw_183 mw_5 mw_180 hdX12_isSent ⟨Nat.le_trans (Nat.le_of_ble_eq_true rfl) hR.1, Nat.le_trans (Nat.le_of_ble_eq_true rfl) hR.2⟩ rfl hsz ⟨Nat.zero_le _, Nat.zero_le _⟩ (Nat.le_of_ble_eq_true rfl) dX12_happens_64 rfl (fun H locs S => ?_)
        refine lv_pop hx hb dX12_happens_67 rfl ?_
        exact q_vret C S (Option.some.inj h) dX12_happens_68
    · have h := cnd_t c7 h
      refine lv_aload_n hx hb dX12_happens_30 rfl (lv_at hl 1 rfl) ?_
      refine lv_iload_n hx hb dX12_happens_31 rfl (lv_at hl 0 rfl) ?_
      obtain ⟨u16, h15, h⟩ := obr_some h
      refine q_callVv (As := [.int v2]) (na := 1) C S (oM0 cI cB ad) rfl (ct_X12_isDown l D cI cB cL ad v2 u h15) mw_186 mw_185 mw_187 mw_5 mw_184 hdX12_isDown ⟨Nat.le_trans (Nat.le_of_ble_eq_true rfl) hR.1, Nat.le_trans (Nat.le_of_ble_eq_true rfl) hR.2⟩ rfl hsz ⟨Nat.zero_le _, Nat.zero_le _⟩ (Nat.le_of_ble_eq_true rfl) dX12_happens_32 rfl (fun H locs S => ?_)
      refine lv_aload_n hx hb dX12_happens_35 rfl (lv_at hl 1 rfl) ?_
      refine lv_iload_n hx hb dX12_happens_36 rfl (lv_at hl 0 rfl) ?_
      refine lv_iconst (v := 2) hx hb dX12_happens_37 (by decide) ?_
      refine lv_iconst (v := (-1)) hx hb dX12_happens_38 (by decide) ?_
      obtain ⟨u18, h17, h⟩ := obr_some h
      refine q_callVv (As := [.int v2, .int 2, .int (-1)]) (na := 3) C S (oM0 cI cB ad) rfl (ct_X12_isTold l D cI cB cL ad v2 2 (-1) u16 h17) mw_114 mw_113 mw_115 mw_5 mw_112 hdX12_isTold ⟨Nat.le_trans (Nat.le_of_ble_eq_true rfl) hR.1, Nat.le_trans (Nat.le_of_ble_eq_true rfl) hR.2⟩ rfl hsz ⟨Nat.zero_le _, Nat.zero_le _⟩ (Nat.le_of_ble_eq_true rfl) dX12_happens_39 rfl (fun H locs S => ?_)
      refine lv_goto (tgt := 68) hx hb dX12_happens_42 (by decide) ?_
      exact q_vret C S (Option.some.inj h) dX12_happens_68
  · have h := cnd_t c5 h
    exact q_vret C S (Option.some.inj h) dX12_happens_17
set_option maxRecDepth 10000 in
set_option maxHeartbeats 4000000 in
theorem ct_X12_happens (l : Launch) (D : va_G) (cI cB cL : ClassId) (ad : Nat → Nat) (x1 : Int32) (u : Sg) {σ' : Sg} (h : fX12_happens x1 u = some σ') : metV l D (tyl cI cB cL) yX12_happens cX12_happens 3 7 164 (wM cI cB ad) [.ref (ad 0), .int x1] u σ' := by
  intro sz
  refine Met.ofW (cc := cX12_happens) (maxL := 3) (ret := none) (by decide) rfl ?_
  intro p e s m args below meth c s₁ B hml hv
  obtain ⟨rfl, C, S⟩ := q_entry B hml hv
  have hl := lv_entry ([.ref (ad 0), .int x1]) (n := 3) (Nat.le_of_ble_eq_true rfl)
  rw [lg_entry_eq]
  generalize (lg_sl ([.ref (ad 0), .int x1]) ++ List.replicate (3 - (lg_sl ([.ref (ad 0), .int x1])).length) Slot.unset).toArray = ls at hl ⊢
  exact wX12_happens_0 C ⟨Nat.le_refl _, Nat.le_refl _⟩ u x1 (lv_sub hl [0, 1] rfl) S h
noncomputable def fX12_allHappen_96 (K12 : Int32 → Int32 → Int32 → Sg → Option Sg) (x1 : Int32) (x2 : Int32) (x3 : Int32) (u : Sg) : Option Sg := bnd (x3 + 1) (fun v9 => K12 x1 x2 v9 u)
noncomputable def fX12_allHappen_56 (K12 : Int32 → Int32 → Int32 → Sg → Option Sg) : Nat → Int32 → Int32 → Int32 → Int32 → Int32 → Sg → Option Sg
  | 0, _, _, _, _, _, _ => none
  | n + 1, x1, x2, x3, x4, x5, u => cnd (4 ≤ x5) (bnd (x2 + 1) (fun v8 => fX12_allHappen_96 K12 x1 v8 x3 u)) (grd (vp_in (x4 + x5) 32243) (grd (vp_in ((1587 + (4 * x2)) + x5) 32243) (bnd (s2 u 1 ((((1587 + (4 * x2)) + x5) : Int32).toNatClampNeg) (u 1 (((x4 + x5) : Int32).toNatClampNeg))) (fun u12 => bnd (x5 + 1) (fun v13 => fX12_allHappen_56 K12 n x1 x2 x3 x4 v13 u12)))))
noncomputable def fX12_allHappen_12 : Nat → Int32 → Int32 → Int32 → Sg → Option Sg
  | 0, _, _, _, _ => none
  | n + 1, x1, x2, x3, u => cnd (x1 ≤ x3) (bnd (s2 u 1 7 x2) (fun u3 => some u3)) (bnd (1587 + (4 * x3)) (fun v4 => grd (vp_in (v4 + 0) 32243) (cnd ((u 1 4) < (u 1 (((v4 + 0) : Int32).toNatClampNeg))) (fX12_allHappen_56 (fun a0 a1 a2 w => fX12_allHappen_12 n a0 a1 a2 w) FU x1 x2 x3 v4 0 u) (obr (fX12_happens v4 u) (fun u15 => fX12_allHappen_96 (fun a0 a1 a2 w => fX12_allHappen_12 n a0 a1 a2 w) x1 x2 x3 u15)))))
noncomputable def fX12_allHappen_0 (u : Sg) : Option Sg := bnd (u 1 7) (fun v1 => fX12_allHappen_12 FU v1 0 0 u)
noncomputable def fX12_allHappen (u : Sg) : Option Sg := fX12_allHappen_0 u
set_option maxRecDepth 10000 in
set_option maxHeartbeats 4000000 in
theorem wX12_allHappen_96 (C : cx D (tyl cI cB cL) A RX12 cX12_allHappen 6 none p s m args c meth) (hR : 8 ≤ R.frames ∧ 186 ≤ R.locals) {σ' : Sg} (u : Sg) {K12 : Int32 → Int32 → Int32 → Sg → Option Sg} (hK12 : ∀ (y1 : Int32) (y2 : Int32) (y3 : Int32) (v : Sg) (H : Heap) (locs : List Loc) (ls : Array Slot), lv_has ls 6 [(0, .ref (ad 0)), (1, .int y1), (2, .int y2), (3, .int y3)] → st D (wM cI cB ad) A s v H locs → K12 y1 y2 y3 v = some σ' → W p l e R s m args below meth c H locs 0 0 (MQ below (qV D (tyl cI cB cL) (wM cI cB ad) A σ') args s 0 0 A) (F0 m 12 ls [])) (x1 : Int32) (x2 : Int32) (x3 : Int32) {H : Heap} {locs : List Loc} {ls : Array Slot} (hl : lv_has ls 6 [(0, .ref (ad 0)), (1, .int x1), (2, .int x2), (3, .int x3)]) (S : st D (wM cI cB ad) A s u H locs) (h : fX12_allHappen_96 K12 x1 x2 x3 u = some σ') : W p l e R s m args below meth c H locs 0 0 (MQ below (qV D (tyl cI cB cL) (wM cI cB ad) A σ') args s 0 0 A) (F0 m 96 ls []) := by
  have hx := C.1
  have hb := C.2.1
  have hsz := hl.1
  unfold fX12_allHappen_96 at h
  obtain ⟨v9, ev9⟩ : ∃ y : Int32, y = x3 + 1 := ⟨_, rfl⟩
  have h := bnd_of ev9 h
  refine lv_iinc (v := v9) (lv' := [(3, .int v9), (0, .ref (ad 0)), (1, .int x1), (2, .int x2)]) hx hb dX12_allHappen_96 hl (k := 3) rfl (by rw [ev9]; rfl) (by decide) rfl (fun ls hl => ?_)
  have hsz := hl.1
  refine lv_goto (tgt := 12) hx hb dX12_allHappen_99 (by decide) ?_
  exact hK12 x1 x2 v9 u H locs ls (lv_sub hl [1, 2, 3, 0] rfl) S h
set_option maxRecDepth 10000 in
set_option maxHeartbeats 4000000 in
theorem wX12_allHappen_56 (C : cx D (tyl cI cB cL) A RX12 cX12_allHappen 6 none p s m args c meth) (hR : 8 ≤ R.frames ∧ 186 ≤ R.locals) {σ' : Sg} {K12 : Int32 → Int32 → Int32 → Sg → Option Sg} (hK12 : ∀ (y1 : Int32) (y2 : Int32) (y3 : Int32) (v : Sg) (H : Heap) (locs : List Loc) (ls : Array Slot), lv_has ls 6 [(0, .ref (ad 0)), (1, .int y1), (2, .int y2), (3, .int y3)] → st D (wM cI cB ad) A s v H locs → K12 y1 y2 y3 v = some σ' → W p l e R s m args below meth c H locs 0 0 (MQ below (qV D (tyl cI cB cL) (wM cI cB ad) A σ') args s 0 0 A) (F0 m 12 ls [])) : ∀ (n : Nat) (x1 : Int32) (x2 : Int32) (x3 : Int32) (x4 : Int32) (x5 : Int32) (u : Sg) (H : Heap) (locs : List Loc) (ls : Array Slot), lv_has ls 6 [(0, .ref (ad 0)), (1, .int x1), (2, .int x2), (3, .int x3), (4, .int x4), (5, .int x5)] → st D (wM cI cB ad) A s u H locs → fX12_allHappen_56 K12 n x1 x2 x3 x4 x5 u = some σ' → W p l e R s m args below meth c H locs 0 0 (MQ below (qV D (tyl cI cB cL) (wM cI cB ad) A σ') args s 0 0 A) (F0 m 56 ls []) := by
  have hx := C.1
  have hb := C.2.1
  intro n
  induction n with
  | zero =>
    intro x1 x2 x3 x4 x5 u H locs ls hl S h
    cases h
  | succ n ih =>
    intro x1 x2 x3 x4 x5 u H locs ls hl S h
    rw [fX12_allHappen_56] at h
    have hsz := hl.1
    refine lv_iload hx hb dX12_allHappen_56 (lv_at hl 5 rfl) ?_
    refine lv_iconst (v := 4) hx hb dX12_allHappen_58 (by decide) ?_
    refine lv_icmp_ge (tgt := 93) hx hb dX12_allHappen_59 (by decide) (fun c7 => ?_) (fun c7 => ?_)
    · have h := cnd_t c7 h
      obtain ⟨v8, ev8⟩ : ∃ y : Int32, y = x2 + 1 := ⟨_, rfl⟩
      have h := bnd_of ev8 h
      refine lv_iinc (v := v8) (lv' := [(2, .int v8), (0, .ref (ad 0)), (1, .int x1), (3, .int x3), (4, .int x4), (5, .int x5)]) hx hb dX12_allHappen_93 hl (k := 2) rfl (by rw [ev8]; rfl) (by decide) rfl (fun ls hl => ?_)
      have hsz := hl.1
      exact wX12_allHappen_96 C hR u hK12 x1 v8 x3 (lv_sub hl [1, 2, 0, 3] rfl) S h
    · have h := cnd_f c7 h
      refine lv_aload_n hx hb dX12_allHappen_62 rfl (lv_at hl 0 rfl) ?_
      refine q_get (v := .ref (ad 1)) C S (oM0 cI cB ad) rfl iwX12 1 (by decide) mw_14 rfl dX12_allHappen_63 ?_
      refine lv_sipush (v := 1587) hx hb dX12_allHappen_66 (by decide) ?_
      refine lv_iconst (v := 4) hx hb dX12_allHappen_69 (by decide) ?_
      refine lv_iload_n hx hb dX12_allHappen_70 rfl (lv_at hl 2 rfl) ?_
      refine lv_imul hx hb dX12_allHappen_71 ?_
      refine lv_iadd hx hb dX12_allHappen_72 ?_
      refine lv_iload hx hb dX12_allHappen_73 (lv_at hl 5 rfl) ?_
      refine lv_iadd hx hb dX12_allHappen_75 ?_
      refine lv_aload_n hx hb dX12_allHappen_76 rfl (lv_at hl 0 rfl) ?_
      refine q_get (v := .ref (ad 1)) C S (oM0 cI cB ad) rfl iwX12 1 (by decide) mw_14 rfl dX12_allHappen_77 ?_
      refine lv_iload hx hb dX12_allHappen_80 (lv_at hl 4 rfl) ?_
      refine lv_iload hx hb dX12_allHappen_82 (lv_at hl 5 rfl) ?_
      refine lv_iadd hx hb dX12_allHappen_84 ?_
      obtain ⟨g10, h⟩ := grd_some h
      refine q_iald C S (aM1 cI cB ad) 0 rfl g10 dX12_allHappen_85 (j := ((x4 + x5) : Int32).toNatClampNeg) rfl ?_
      obtain ⟨g11, h⟩ := grd_some h
      obtain ⟨u12, eu12⟩ : ∃ z : Sg, z = s2 u 1 ((((1587 + (4 * x2)) + x5) : Int32).toNatClampNeg) (u 1 (((x4 + x5) : Int32).toNatClampNeg)) := ⟨_, rfl⟩
      have h := bnd_of eu12 h
      refine q_iast C S (aM1 cI cB ad) 0 rfl g11 dX12_allHappen_86 (j := (((1587 + (4 * x2)) + x5) : Int32).toNatClampNeg) rfl eu12 (fun H locs S => ?_)
      obtain ⟨v13, ev13⟩ : ∃ y : Int32, y = x5 + 1 := ⟨_, rfl⟩
      have h := bnd_of ev13 h
      refine lv_iinc (v := v13) (lv' := [(5, .int v13), (0, .ref (ad 0)), (1, .int x1), (2, .int x2), (3, .int x3), (4, .int x4)]) hx hb dX12_allHappen_87 hl (k := 5) rfl (by rw [ev13]; rfl) (by decide) rfl (fun ls hl => ?_)
      have hsz := hl.1
      refine lv_goto (tgt := 56) hx hb dX12_allHappen_90 (by decide) ?_
      exact ih x1 x2 x3 x4 v13 u12 H locs ls (lv_sub hl [1, 2, 3, 4, 5, 0] rfl) S h
set_option maxRecDepth 10000 in
set_option maxHeartbeats 4000000 in
theorem wX12_allHappen_12 (C : cx D (tyl cI cB cL) A RX12 cX12_allHappen 6 none p s m args c meth) (hR : 8 ≤ R.frames ∧ 186 ≤ R.locals) {σ' : Sg} : ∀ (n : Nat) (x1 : Int32) (x2 : Int32) (x3 : Int32) (u : Sg) (H : Heap) (locs : List Loc) (ls : Array Slot), lv_has ls 6 [(0, .ref (ad 0)), (1, .int x1), (2, .int x2), (3, .int x3)] → st D (wM cI cB ad) A s u H locs → fX12_allHappen_12 n x1 x2 x3 u = some σ' → W p l e R s m args below meth c H locs 0 0 (MQ below (qV D (tyl cI cB cL) (wM cI cB ad) A σ') args s 0 0 A) (F0 m 12 ls []) := by
  have hx := C.1
  have hb := C.2.1
  intro n
  induction n with
  | zero =>
    intro x1 x2 x3 u H locs ls hl S h
    cases h
  | succ n ih =>
    intro x1 x2 x3 u H locs ls hl S h
    rw [fX12_allHappen_12] at h
    have hsz := hl.1
    refine lv_iload_n hx hb dX12_allHappen_12 rfl (lv_at hl 3 rfl) ?_
    refine lv_iload_n hx hb dX12_allHappen_13 rfl (lv_at hl 1 rfl) ?_
    refine lv_icmp_ge (tgt := 102) hx hb dX12_allHappen_14 (by decide) (fun c2 => ?_) (fun c2 => ?_)
    · have h := cnd_t c2 h
      refine lv_aload_n hx hb dX12_allHappen_102 rfl (lv_at hl 0 rfl) ?_
      refine q_get (v := .ref (ad 1)) C S (oM0 cI cB ad) rfl iwX12 1 (by decide) mw_14 rfl dX12_allHappen_103 ?_
      refine lv_bipush (v := 7) hx hb dX12_allHappen_106 (by decide) ?_
      refine lv_iload_n hx hb dX12_allHappen_108 rfl (lv_at hl 2 rfl) ?_
      obtain ⟨u3, eu3⟩ : ∃ z : Sg, z = s2 u 1 7 x2 := ⟨_, rfl⟩
      have h := bnd_of eu3 h
      refine q_iast C S (aM1 cI cB ad) 0 rfl (show vp_in 7 32243 by unfold vp_in; decide) dX12_allHappen_109 (j := 7) (by decide) eu3 (fun H locs S => ?_)
      exact q_vret C S (Option.some.inj h) dX12_allHappen_110
    · have h := cnd_f c2 h
      refine lv_sipush (v := 1587) hx hb dX12_allHappen_17 (by decide) ?_
      refine lv_iconst (v := 4) hx hb dX12_allHappen_20 (by decide) ?_
      refine lv_iload_n hx hb dX12_allHappen_21 rfl (lv_at hl 3 rfl) ?_
      refine lv_imul hx hb dX12_allHappen_22 ?_
      refine lv_iadd hx hb dX12_allHappen_23 ?_
      refine lv_topi (fun v4 ev4 => ?_)
      have h := bnd_of ev4 h
      refine lv_istore (lv' := [(4, .int v4), (0, .ref (ad 0)), (1, .int x1), (2, .int x2), (3, .int x3)]) hx hb dX12_allHappen_24 hl (by decide) rfl (fun ls hl => ?_)
      have hsz := hl.1
      refine lv_aload_n hx hb dX12_allHappen_26 rfl (lv_at hl 1 rfl) ?_
      refine q_get (v := .ref (ad 1)) C S (oM0 cI cB ad) rfl iwX12 1 (by decide) mw_14 rfl dX12_allHappen_27 ?_
      refine lv_iload hx hb dX12_allHappen_30 (lv_at hl 0 rfl) ?_
      refine lv_iconst (v := 0) hx hb dX12_allHappen_32 (by decide) ?_
      refine lv_iadd hx hb dX12_allHappen_33 ?_
      obtain ⟨g5, h⟩ := grd_some h
      refine q_iald C S (aM1 cI cB ad) 0 rfl g5 dX12_allHappen_34 (j := ((v4 + 0) : Int32).toNatClampNeg) rfl ?_
      refine lv_aload_n hx hb dX12_allHappen_35 rfl (lv_at hl 1 rfl) ?_
      refine q_get (v := .ref (ad 1)) C S (oM0 cI cB ad) rfl iwX12 1 (by decide) mw_14 rfl dX12_allHappen_36 ?_
      refine lv_iconst (v := 4) hx hb dX12_allHappen_39 (by decide) ?_
      refine q_iald C S (aM1 cI cB ad) 0 rfl (show vp_in 4 32243 by unfold vp_in; decide) dX12_allHappen_40 (j := 4) (by decide) ?_
      refine lv_icmp_gt (tgt := 53) hx hb dX12_allHappen_41 (by decide) (fun c6 => ?_) (fun c6 => ?_)
      · have h := cnd_t c6 h
        refine lv_iconst (v := 0) hx hb dX12_allHappen_53 (by decide) ?_
        refine lv_istore (lv' := [(5, .int 0), (4, .int v4), (0, .ref (ad 0)), (1, .int x1), (2, .int x2), (3, .int x3)]) hx hb dX12_allHappen_54 hl (by decide) rfl (fun ls hl => ?_)
        have hsz := hl.1
        exact wX12_allHappen_56 C hR ih FU x1 x2 x3 v4 0 u H locs ls (lv_sub hl [2, 3, 4, 5, 1, 0] rfl) S h
      · have h := cnd_f c6 h
        refine lv_aload_n hx hb dX12_allHappen_44 rfl (lv_at hl 1 rfl) ?_
        refine lv_iload hx hb dX12_allHappen_45 (lv_at hl 0 rfl) ?_
        obtain ⟨u15, h14, h⟩ := obr_some h
        refine q_callVv (As := [.int v4]) (na := 1) C S (oM0 cI cB ad) rfl (ct_X12_happens l D cI cB cL ad v4 u h14) mw_190 mw_189 mw_191 mw_5 mw_188 hdX12_happens ⟨Nat.le_trans (Nat.le_of_ble_eq_true rfl) hR.1, Nat.le_trans (Nat.le_of_ble_eq_true rfl) hR.2⟩ rfl hsz ⟨Nat.zero_le _, Nat.zero_le _⟩ (Nat.le_of_ble_eq_true rfl) dX12_allHappen_47 rfl (fun H locs S => ?_)
        refine lv_goto (tgt := 96) hx hb dX12_allHappen_50 (by decide) ?_
        exact wX12_allHappen_96 C hR u15 ih x1 x2 x3 (lv_sub hl [1, 2, 3, 4] rfl) S h
set_option maxRecDepth 10000 in
set_option maxHeartbeats 4000000 in
theorem wX12_allHappen_0 (C : cx D (tyl cI cB cL) A RX12 cX12_allHappen 6 none p s m args c meth) (hR : 8 ≤ R.frames ∧ 186 ≤ R.locals) {σ' : Sg} (u : Sg) {H : Heap} {locs : List Loc} {ls : Array Slot} (hl : lv_has ls 6 [(0, .ref (ad 0))]) (S : st D (wM cI cB ad) A s u H locs) (h : fX12_allHappen_0 u = some σ') : W p l e R s m args below meth c H locs 0 0 (MQ below (qV D (tyl cI cB cL) (wM cI cB ad) A σ') args s 0 0 A) (F0 m 0 ls []) := by
  have hx := C.1
  have hb := C.2.1
  have hsz := hl.1
  unfold fX12_allHappen_0 at h
  refine lv_aload_n hx hb dX12_allHappen_0 rfl (lv_at hl 0 rfl) ?_
  refine q_get (v := .ref (ad 1)) C S (oM0 cI cB ad) rfl iwX12 1 (by decide) mw_14 rfl dX12_allHappen_1 ?_
  refine lv_bipush (v := 7) hx hb dX12_allHappen_4 (by decide) ?_
  refine q_iald C S (aM1 cI cB ad) 0 rfl (show vp_in 7 32243 by unfold vp_in; decide) dX12_allHappen_6 (j := 7) (by decide) ?_
  refine lv_topi (fun v1 ev1 => ?_)
  have h := bnd_of ev1 h
  refine lv_istore_n (lv' := [(1, .int v1), (0, .ref (ad 0))]) hx hb dX12_allHappen_7 rfl hl (by decide) rfl (fun ls hl => ?_)
  have hsz := hl.1
  refine lv_iconst (v := 0) hx hb dX12_allHappen_8 (by decide) ?_
  refine lv_istore_n (lv' := [(2, .int 0), (1, .int v1), (0, .ref (ad 0))]) hx hb dX12_allHappen_9 rfl hl (by decide) rfl (fun ls hl => ?_)
  have hsz := hl.1
  refine lv_iconst (v := 0) hx hb dX12_allHappen_10 (by decide) ?_
  refine lv_istore_n (lv' := [(3, .int 0), (2, .int 0), (1, .int v1), (0, .ref (ad 0))]) hx hb dX12_allHappen_11 rfl hl (by decide) rfl (fun ls hl => ?_)
  have hsz := hl.1
  exact wX12_allHappen_12 C hR FU v1 0 0 u H locs ls (lv_sub hl [3, 2, 1, 0] rfl) S h
set_option maxRecDepth 10000 in
set_option maxHeartbeats 4000000 in
theorem ct_X12_allHappen (l : Launch) (D : va_G) (cI cB cL : ClassId) (ad : Nat → Nat) (u : Sg) {σ' : Sg} (h : fX12_allHappen u = some σ') : metV l D (tyl cI cB cL) yX12_allHappen cX12_allHappen 6 8 186 (wM cI cB ad) [.ref (ad 0)] u σ' := by
  intro sz
  refine Met.ofW (cc := cX12_allHappen) (maxL := 6) (ret := none) (by decide) rfl ?_
  intro p e s m args below meth c s₁ B hml hv
  obtain ⟨rfl, C, S⟩ := q_entry B hml hv
  have hl := lv_entry ([.ref (ad 0)]) (n := 6) (Nat.le_of_ble_eq_true rfl)
  rw [lg_entry_eq]
  generalize (lg_sl ([.ref (ad 0)]) ++ List.replicate (6 - (lg_sl ([.ref (ad 0)])).length) Slot.unset).toArray = ls at hl ⊢
  exact wX12_allHappen_0 C ⟨Nat.le_refl _, Nat.le_refl _⟩ u (lv_sub hl [0] rfl) S h
noncomputable def fX12_oneTick_174 (K133 : Int32 → Int32 → Sg → Option (Int32 × Sg)) (K144 : Int32 → Int32 → Int32 → Sg → Option (Int32 × Sg)) (x2 : Int32) (x3 : Int32) (x4 : Int32) (u : Sg) : Option (Int32 × Sg) := bnd (x4 + 1) (fun v22 => K144 x2 x3 v22 u)
noncomputable def fX12_oneTick_144 (K133 : Int32 → Int32 → Sg → Option (Int32 × Sg)) : Nat → Int32 → Int32 → Int32 → Sg → Option (Int32 × Sg)
  | 0, _, _, _, _ => none
  | n + 1, x2, x3, x4, u => obr (fX12_nodes u) (fun r16 => cnd (r16 ≤ x4) (bnd (x3 + 1) (fun v18 => K133 x2 v18 u)) (obr (fX12_isUp x3 u) (fun r20 => cnd (r20 = 0) (grd (vp_in (fX12_channelAt x4 x3 2) 32243) (bnd (s2 u 1 (((fX12_channelAt x4 x3 2) : Int32).toNatClampNeg) 0) (fun u24 => fX12_oneTick_174 K133 (fun a0 a1 a2 w => fX12_oneTick_144 K133 n a0 a1 a2 w) x2 x3 x4 u24))) (fX12_oneTick_174 K133 (fun a0 a1 a2 w => fX12_oneTick_144 K133 n a0 a1 a2 w) x2 x3 x4 u))))
noncomputable def fX12_oneTick_133 : Nat → Int32 → Int32 → Sg → Option (Int32 × Sg)
  | 0, _, _, _ => none
  | n + 1, x2, x3, u => obr (fX12_nodes u) (fun r12 => cnd (r12 ≤ x3) (bnd (s2 u 1 4 ((u 1 4) + 1)) (fun u14 => some (x2, u14))) (fX12_oneTick_144 (fun a0 a1 w => fX12_oneTick_133 n a0 a1 w) FU x2 x3 0 u))
noncomputable def fX12_oneTick_125 (K101 : Int32 → Int32 → Sg → Option (Int32 × Sg)) (x2 : Int32) (x3 : Int32) (u : Sg) : Option (Int32 × Sg) := bnd (x3 + 1) (fun v28 => K101 x2 v28 u)
noncomputable def fX12_oneTick_101 : Nat → Int32 → Int32 → Sg → Option (Int32 × Sg)
  | 0, _, _, _ => none
  | n + 1, x2, x3, u => obr (fX12_nodes u) (fun r9 => cnd (r9 ≤ x3) (fX12_oneTick_133 FU x2 0 u) (obr (fX12_isUp x3 u) (fun r26 => cnd (r26 = 0) (fX12_oneTick_125 (fun a0 a1 w => fX12_oneTick_101 n a0 a1 w) x2 x3 u) (obd (fX12_delivers x3 u) (fun r30 u31 => bnd (x2 + r30) (fun v32 => fX12_oneTick_125 (fun a0 a1 w => fX12_oneTick_101 n a0 a1 w) v32 x3 u31))))))
noncomputable def fX12_oneTick_93 (K72 : Int32 → Int32 → Sg → Option (Int32 × Sg)) (x2 : Int32) (x3 : Int32) (u : Sg) : Option (Int32 × Sg) := bnd (x3 + 1) (fun v36 => K72 x2 v36 u)
noncomputable def fX12_oneTick_72 : Nat → Int32 → Int32 → Sg → Option (Int32 × Sg)
  | 0, _, _, _ => none
  | n + 1, x2, x3, u => obr (fX12_nodes u) (fun r6 => cnd (r6 ≤ x3) (fX12_oneTick_101 FU x2 0 u) (obr (fX12_isUp x3 u) (fun r34 => cnd (r34 = 0) (fX12_oneTick_93 (fun a0 a1 w => fX12_oneTick_72 n a0 a1 w) x2 x3 u) (obr (fX12_leads x3 u) (fun u38 => fX12_oneTick_93 (fun a0 a1 w => fX12_oneTick_72 n a0 a1 w) x2 x3 u38)))))
noncomputable def fX12_oneTick_58 (K12 : Int32 → Int32 → Sg → Option (Int32 × Sg)) (K23 : Int32 → Int32 → Int32 → Sg → Option (Int32 × Sg)) (x2 : Int32) (x3 : Int32) (x4 : Int32) (u : Sg) : Option (Int32 × Sg) := bnd (x4 + 1) (fun v46 => K23 x2 x3 v46 u)
noncomputable def fX12_oneTick_23 (K12 : Int32 → Int32 → Sg → Option (Int32 × Sg)) : Nat → Int32 → Int32 → Int32 → Sg → Option (Int32 × Sg)
  | 0, _, _, _, _ => none
  | n + 1, x2, x3, x4, u => obr (fX12_nodes u) (fun r40 => cnd (r40 ≤ x4) (bnd (x3 + 1) (fun v42 => K12 x2 v42 u)) (obr (fX12_isUp x3 u) (fun r44 => cnd (r44 = 0) (fX12_oneTick_58 K12 (fun a0 a1 a2 w => fX12_oneTick_23 K12 n a0 a1 a2 w) x2 x3 x4 u) (obr (fX12_ofChannel x4 x3 1 u) (fun r48 => cnd (r48 = 0) (obr (fX12_hearsAll x4 x3 u) (fun u51 => fX12_oneTick_58 K12 (fun a0 a1 a2 w => fX12_oneTick_23 K12 n a0 a1 a2 w) x2 x3 x4 u51)) (fX12_oneTick_58 K12 (fun a0 a1 a2 w => fX12_oneTick_23 K12 n a0 a1 a2 w) x2 x3 x4 u))))))
noncomputable def fX12_oneTick_12 : Nat → Int32 → Int32 → Sg → Option (Int32 × Sg)
  | 0, _, _, _ => none
  | n + 1, x2, x3, u => obr (fX12_nodes u) (fun r3 => cnd (r3 ≤ x3) (fX12_oneTick_72 FU x2 0 u) (fX12_oneTick_23 (fun a0 a1 w => fX12_oneTick_12 n a0 a1 w) FU x2 x3 0 u))
noncomputable def fX12_oneTick_8 (u : Sg) : Option (Int32 × Sg) := fX12_oneTick_12 FU 0 0 u
noncomputable def fX12_oneTick_0 (x1 : Int32) (u : Sg) : Option (Int32 × Sg) := cnd (x1 = 0) (fX12_oneTick_8 u) (obr (fX12_allHappen u) (fun u53 => fX12_oneTick_8 u53))
noncomputable def fX12_oneTick (x1 : Int32) (u : Sg) : Option (Int32 × Sg) := fX12_oneTick_0 x1 u
set_option maxRecDepth 10000 in
set_option maxHeartbeats 4000000 in
theorem wX12_oneTick_174 (C : cx D (tyl cI cB cL) A RX12 cX12_oneTick 5 (some .int) p s m args c meth) (hR : 9 ≤ R.frames ∧ 211 ≤ R.locals) {r : Int32} {σ' : Sg} (u : Sg) {K133 : Int32 → Int32 → Sg → Option (Int32 × Sg)} (hK133 : ∀ (y2 : Int32) (y3 : Int32) (v : Sg) (H : Heap) (locs : List Loc) (ls : Array Slot), lv_has ls 5 [(0, .ref (ad 0)), (2, .int y2), (3, .int y3)] → st D (wM cI cB ad) A s v H locs → K133 y2 y3 v = some (r, σ') → W p l e R s m args below meth c H locs 0 0 (MQ below (qI D (tyl cI cB cL) (wM cI cB ad) A r σ') args s 0 0 A) (F0 m 133 ls [])) {K144 : Int32 → Int32 → Int32 → Sg → Option (Int32 × Sg)} (hK144 : ∀ (y2 : Int32) (y3 : Int32) (y4 : Int32) (v : Sg) (H : Heap) (locs : List Loc) (ls : Array Slot), lv_has ls 5 [(0, .ref (ad 0)), (2, .int y2), (3, .int y3), (4, .int y4)] → st D (wM cI cB ad) A s v H locs → K144 y2 y3 y4 v = some (r, σ') → W p l e R s m args below meth c H locs 0 0 (MQ below (qI D (tyl cI cB cL) (wM cI cB ad) A r σ') args s 0 0 A) (F0 m 144 ls [])) (x2 : Int32) (x3 : Int32) (x4 : Int32) {H : Heap} {locs : List Loc} {ls : Array Slot} (hl : lv_has ls 5 [(0, .ref (ad 0)), (2, .int x2), (3, .int x3), (4, .int x4)]) (S : st D (wM cI cB ad) A s u H locs) (h : fX12_oneTick_174 K133 K144 x2 x3 x4 u = some (r, σ')) : W p l e R s m args below meth c H locs 0 0 (MQ below (qI D (tyl cI cB cL) (wM cI cB ad) A r σ') args s 0 0 A) (F0 m 174 ls []) := by
  have hx := C.1
  have hb := C.2.1
  have hsz := hl.1
  unfold fX12_oneTick_174 at h
  obtain ⟨v22, ev22⟩ : ∃ y : Int32, y = x4 + 1 := ⟨_, rfl⟩
  have h := bnd_of ev22 h
  refine lv_iinc (v := v22) (lv' := [(4, .int v22), (0, .ref (ad 0)), (2, .int x2), (3, .int x3)]) hx hb dX12_oneTick_174 hl (k := 3) rfl (by rw [ev22]; rfl) (by decide) rfl (fun ls hl => ?_)
  have hsz := hl.1
  refine lv_goto (tgt := 144) hx hb dX12_oneTick_177 (by decide) ?_
  exact hK144 x2 x3 v22 u H locs ls (lv_sub hl [1, 2, 3, 0] rfl) S h
set_option maxRecDepth 10000 in
set_option maxHeartbeats 4000000 in
theorem wX12_oneTick_144 (C : cx D (tyl cI cB cL) A RX12 cX12_oneTick 5 (some .int) p s m args c meth) (hR : 9 ≤ R.frames ∧ 211 ≤ R.locals) {r : Int32} {σ' : Sg} {K133 : Int32 → Int32 → Sg → Option (Int32 × Sg)} (hK133 : ∀ (y2 : Int32) (y3 : Int32) (v : Sg) (H : Heap) (locs : List Loc) (ls : Array Slot), lv_has ls 5 [(0, .ref (ad 0)), (2, .int y2), (3, .int y3)] → st D (wM cI cB ad) A s v H locs → K133 y2 y3 v = some (r, σ') → W p l e R s m args below meth c H locs 0 0 (MQ below (qI D (tyl cI cB cL) (wM cI cB ad) A r σ') args s 0 0 A) (F0 m 133 ls [])) : ∀ (n : Nat) (x2 : Int32) (x3 : Int32) (x4 : Int32) (u : Sg) (H : Heap) (locs : List Loc) (ls : Array Slot), lv_has ls 5 [(0, .ref (ad 0)), (2, .int x2), (3, .int x3), (4, .int x4)] → st D (wM cI cB ad) A s u H locs → fX12_oneTick_144 K133 n x2 x3 x4 u = some (r, σ') → W p l e R s m args below meth c H locs 0 0 (MQ below (qI D (tyl cI cB cL) (wM cI cB ad) A r σ') args s 0 0 A) (F0 m 144 ls []) := by
  have hx := C.1
  have hb := C.2.1
  intro n
  induction n with
  | zero =>
    intro x2 x3 x4 u H locs ls hl S h
    cases h
  | succ n ih =>
    intro x2 x3 x4 u H locs ls hl S h
    rw [fX12_oneTick_144] at h
    have hsz := hl.1
    refine lv_iload hx hb dX12_oneTick_144 (lv_at hl 3 rfl) ?_
    refine lv_aload_n hx hb dX12_oneTick_146 rfl (lv_at hl 0 rfl) ?_
    obtain ⟨r16, h15, h⟩ := obr_some h
    refine q_callVi (As := []) (na := 0) C S (oM0 cI cB ad) rfl (ct_X12_nodes l D cI cB cL ad u h15) mw_24 mw_23 mw_25 mw_5 mw_22 hdX12_nodes ⟨Nat.le_trans (Nat.le_of_ble_eq_true rfl) hR.1, Nat.le_trans (Nat.le_of_ble_eq_true rfl) hR.2⟩ rfl hsz ⟨Nat.zero_le _, Nat.zero_le _⟩ (Nat.le_of_ble_eq_true rfl) dX12_oneTick_147 rfl (fun H locs S => ?_)
    refine lv_icmp_ge (tgt := 180) hx hb dX12_oneTick_150 (by decide) (fun c17 => ?_) (fun c17 => ?_)
    · have h := cnd_t c17 h
      obtain ⟨v18, ev18⟩ : ∃ y : Int32, y = x3 + 1 := ⟨_, rfl⟩
      have h := bnd_of ev18 h
      refine lv_iinc (v := v18) (lv' := [(3, .int v18), (0, .ref (ad 0)), (2, .int x2), (4, .int x4)]) hx hb dX12_oneTick_180 hl (k := 2) rfl (by rw [ev18]; rfl) (by decide) rfl (fun ls hl => ?_)
      have hsz := hl.1
      refine lv_goto (tgt := 133) hx hb dX12_oneTick_183 (by decide) ?_
      exact hK133 x2 v18 u H locs ls (lv_sub hl [1, 2, 0] rfl) S h
    · have h := cnd_f c17 h
      refine lv_aload_n hx hb dX12_oneTick_153 rfl (lv_at hl 0 rfl) ?_
      refine lv_iload_n hx hb dX12_oneTick_154 rfl (lv_at hl 2 rfl) ?_
      obtain ⟨r20, h19, h⟩ := obr_some h
      refine q_callVi (As := [.int x3]) (na := 1) C S (oM0 cI cB ad) rfl (ct_X12_isUp l D cI cB cL ad x3 u h19) mw_39 mw_38 mw_40 mw_5 mw_37 hdX12_isUp ⟨Nat.le_trans (Nat.le_of_ble_eq_true rfl) hR.1, Nat.le_trans (Nat.le_of_ble_eq_true rfl) hR.2⟩ rfl hsz ⟨Nat.zero_le _, Nat.zero_le _⟩ (Nat.le_of_ble_eq_true rfl) dX12_oneTick_155 rfl (fun H locs S => ?_)
      refine lv_if_ne (tgt := 174) hx hb dX12_oneTick_158 (by decide) (fun c21 => ?_) (fun c21 => ?_)
      · have h := cnd_f c21 h
        exact wX12_oneTick_174 C hR u hK133 ih x2 x3 x4 (lv_sub hl [0, 1, 2, 3] rfl) S h
      · have h := cnd_t c21 h
        refine lv_aload_n hx hb dX12_oneTick_161 rfl (lv_at hl 0 rfl) ?_
        refine q_get (v := .ref (ad 1)) C S (oM0 cI cB ad) rfl iwX12 1 (by decide) mw_14 rfl dX12_oneTick_162 ?_
        refine lv_iload hx hb dX12_oneTick_165 (lv_at hl 3 rfl) ?_
        refine lv_iload_n hx hb dX12_oneTick_167 rfl (lv_at hl 2 rfl) ?_
        refine lv_iconst (v := 2) hx hb dX12_oneTick_168 (by decide) ?_
        refine q_callP (As := [.int x4, .int x3, .int 2]) (na := 3) C S (ct_X12_channelAt l D cI cB cL x4 x3 2) mw_10 mw_9 mw_5 mw_8 hdX12_channelAt ⟨Nat.le_trans (Nat.le_of_ble_eq_true rfl) hR.1, Nat.le_trans (Nat.le_of_ble_eq_true rfl) hR.2⟩ rfl hsz ⟨Nat.zero_le _, Nat.zero_le _⟩ (Nat.le_of_ble_eq_true rfl) dX12_oneTick_169 rfl (fun H locs S => ?_)
        refine lv_iconst (v := 0) hx hb dX12_oneTick_172 (by decide) ?_
        obtain ⟨g23, h⟩ := grd_some h
        obtain ⟨u24, eu24⟩ : ∃ z : Sg, z = s2 u 1 (((fX12_channelAt x4 x3 2) : Int32).toNatClampNeg) 0 := ⟨_, rfl⟩
        have h := bnd_of eu24 h
        refine q_iast C S (aM1 cI cB ad) 0 rfl g23 dX12_oneTick_173 (j := ((fX12_channelAt x4 x3 2) : Int32).toNatClampNeg) rfl eu24 (fun H locs S => ?_)
        exact wX12_oneTick_174 C hR u24 hK133 ih x2 x3 x4 (lv_sub hl [0, 1, 2, 3] rfl) S h
set_option maxRecDepth 10000 in
set_option maxHeartbeats 4000000 in
theorem wX12_oneTick_133 (C : cx D (tyl cI cB cL) A RX12 cX12_oneTick 5 (some .int) p s m args c meth) (hR : 9 ≤ R.frames ∧ 211 ≤ R.locals) {r : Int32} {σ' : Sg} : ∀ (n : Nat) (x2 : Int32) (x3 : Int32) (u : Sg) (H : Heap) (locs : List Loc) (ls : Array Slot), lv_has ls 5 [(0, .ref (ad 0)), (2, .int x2), (3, .int x3)] → st D (wM cI cB ad) A s u H locs → fX12_oneTick_133 n x2 x3 u = some (r, σ') → W p l e R s m args below meth c H locs 0 0 (MQ below (qI D (tyl cI cB cL) (wM cI cB ad) A r σ') args s 0 0 A) (F0 m 133 ls []) := by
  have hx := C.1
  have hb := C.2.1
  intro n
  induction n with
  | zero =>
    intro x2 x3 u H locs ls hl S h
    cases h
  | succ n ih =>
    intro x2 x3 u H locs ls hl S h
    rw [fX12_oneTick_133] at h
    have hsz := hl.1
    refine lv_iload_n hx hb dX12_oneTick_133 rfl (lv_at hl 2 rfl) ?_
    refine lv_aload_n hx hb dX12_oneTick_134 rfl (lv_at hl 0 rfl) ?_
    obtain ⟨r12, h11, h⟩ := obr_some h
    refine q_callVi (As := []) (na := 0) C S (oM0 cI cB ad) rfl (ct_X12_nodes l D cI cB cL ad u h11) mw_24 mw_23 mw_25 mw_5 mw_22 hdX12_nodes ⟨Nat.le_trans (Nat.le_of_ble_eq_true rfl) hR.1, Nat.le_trans (Nat.le_of_ble_eq_true rfl) hR.2⟩ rfl hsz ⟨Nat.zero_le _, Nat.zero_le _⟩ (Nat.le_of_ble_eq_true rfl) dX12_oneTick_135 rfl (fun H locs S => ?_)
    refine lv_icmp_ge (tgt := 186) hx hb dX12_oneTick_138 (by decide) (fun c13 => ?_) (fun c13 => ?_)
    · have h := cnd_t c13 h
      refine lv_aload_n hx hb dX12_oneTick_186 rfl (lv_at hl 0 rfl) ?_
      refine q_get (v := .ref (ad 1)) C S (oM0 cI cB ad) rfl iwX12 1 (by decide) mw_14 rfl dX12_oneTick_187 ?_
      refine lv_iconst (v := 4) hx hb dX12_oneTick_190 (by decide) ?_
      refine lv_dup2_11 hx hb dX12_oneTick_191 rfl rfl ?_
      refine q_iald C S (aM1 cI cB ad) 0 rfl (show vp_in 4 32243 by unfold vp_in; decide) dX12_oneTick_192 (j := 4) (by decide) ?_
      refine lv_iconst (v := 1) hx hb dX12_oneTick_193 (by decide) ?_
      refine lv_iadd hx hb dX12_oneTick_194 ?_
      obtain ⟨u14, eu14⟩ : ∃ z : Sg, z = s2 u 1 4 ((u 1 4) + 1) := ⟨_, rfl⟩
      have h := bnd_of eu14 h
      refine q_iast C S (aM1 cI cB ad) 0 rfl (show vp_in 4 32243 by unfold vp_in; decide) dX12_oneTick_195 (j := 4) (by decide) eu14 (fun H locs S => ?_)
      refine lv_iload_n hx hb dX12_oneTick_196 rfl (lv_at hl 1 rfl) ?_
      exact q_iret C S (rt_S h) dX12_oneTick_197
    · have h := cnd_f c13 h
      refine lv_iconst (v := 0) hx hb dX12_oneTick_141 (by decide) ?_
      refine lv_istore (lv' := [(4, .int 0), (0, .ref (ad 0)), (2, .int x2), (3, .int x3)]) hx hb dX12_oneTick_142 hl (by decide) rfl (fun ls hl => ?_)
      have hsz := hl.1
      exact wX12_oneTick_144 C hR ih FU x2 x3 0 u H locs ls (lv_sub hl [1, 2, 3, 0] rfl) S h
set_option maxRecDepth 10000 in
set_option maxHeartbeats 4000000 in
theorem wX12_oneTick_125 (C : cx D (tyl cI cB cL) A RX12 cX12_oneTick 5 (some .int) p s m args c meth) (hR : 9 ≤ R.frames ∧ 211 ≤ R.locals) {r : Int32} {σ' : Sg} (u : Sg) {K101 : Int32 → Int32 → Sg → Option (Int32 × Sg)} (hK101 : ∀ (y2 : Int32) (y3 : Int32) (v : Sg) (H : Heap) (locs : List Loc) (ls : Array Slot), lv_has ls 5 [(0, .ref (ad 0)), (2, .int y2), (3, .int y3)] → st D (wM cI cB ad) A s v H locs → K101 y2 y3 v = some (r, σ') → W p l e R s m args below meth c H locs 0 0 (MQ below (qI D (tyl cI cB cL) (wM cI cB ad) A r σ') args s 0 0 A) (F0 m 101 ls [])) (x2 : Int32) (x3 : Int32) {H : Heap} {locs : List Loc} {ls : Array Slot} (hl : lv_has ls 5 [(0, .ref (ad 0)), (2, .int x2), (3, .int x3)]) (S : st D (wM cI cB ad) A s u H locs) (h : fX12_oneTick_125 K101 x2 x3 u = some (r, σ')) : W p l e R s m args below meth c H locs 0 0 (MQ below (qI D (tyl cI cB cL) (wM cI cB ad) A r σ') args s 0 0 A) (F0 m 125 ls []) := by
  have hx := C.1
  have hb := C.2.1
  have hsz := hl.1
  unfold fX12_oneTick_125 at h
  obtain ⟨v28, ev28⟩ : ∃ y : Int32, y = x3 + 1 := ⟨_, rfl⟩
  have h := bnd_of ev28 h
  refine lv_iinc (v := v28) (lv' := [(3, .int v28), (0, .ref (ad 0)), (2, .int x2)]) hx hb dX12_oneTick_125 hl (k := 2) rfl (by rw [ev28]; rfl) (by decide) rfl (fun ls hl => ?_)
  have hsz := hl.1
  refine lv_goto (tgt := 101) hx hb dX12_oneTick_128 (by decide) ?_
  exact hK101 x2 v28 u H locs ls (lv_sub hl [1, 2, 0] rfl) S h
set_option maxRecDepth 10000 in
set_option maxHeartbeats 4000000 in
theorem wX12_oneTick_101 (C : cx D (tyl cI cB cL) A RX12 cX12_oneTick 5 (some .int) p s m args c meth) (hR : 9 ≤ R.frames ∧ 211 ≤ R.locals) {r : Int32} {σ' : Sg} : ∀ (n : Nat) (x2 : Int32) (x3 : Int32) (u : Sg) (H : Heap) (locs : List Loc) (ls : Array Slot), lv_has ls 5 [(0, .ref (ad 0)), (2, .int x2), (3, .int x3)] → st D (wM cI cB ad) A s u H locs → fX12_oneTick_101 n x2 x3 u = some (r, σ') → W p l e R s m args below meth c H locs 0 0 (MQ below (qI D (tyl cI cB cL) (wM cI cB ad) A r σ') args s 0 0 A) (F0 m 101 ls []) := by
  have hx := C.1
  have hb := C.2.1
  intro n
  induction n with
  | zero =>
    intro x2 x3 u H locs ls hl S h
    cases h
  | succ n ih =>
    intro x2 x3 u H locs ls hl S h
    rw [fX12_oneTick_101] at h
    have hsz := hl.1
    refine lv_iload_n hx hb dX12_oneTick_101 rfl (lv_at hl 2 rfl) ?_
    refine lv_aload_n hx hb dX12_oneTick_102 rfl (lv_at hl 0 rfl) ?_
    obtain ⟨r9, h8, h⟩ := obr_some h
    refine q_callVi (As := []) (na := 0) C S (oM0 cI cB ad) rfl (ct_X12_nodes l D cI cB cL ad u h8) mw_24 mw_23 mw_25 mw_5 mw_22 hdX12_nodes ⟨Nat.le_trans (Nat.le_of_ble_eq_true rfl) hR.1, Nat.le_trans (Nat.le_of_ble_eq_true rfl) hR.2⟩ rfl hsz ⟨Nat.zero_le _, Nat.zero_le _⟩ (Nat.le_of_ble_eq_true rfl) dX12_oneTick_103 rfl (fun H locs S => ?_)
    refine lv_icmp_ge (tgt := 131) hx hb dX12_oneTick_106 (by decide) (fun c10 => ?_) (fun c10 => ?_)
    · have h := cnd_t c10 h
      refine lv_iconst (v := 0) hx hb dX12_oneTick_131 (by decide) ?_
      refine lv_istore_n (lv' := [(3, .int 0), (0, .ref (ad 0)), (2, .int x2)]) hx hb dX12_oneTick_132 rfl hl (by decide) rfl (fun ls hl => ?_)
      have hsz := hl.1
      exact wX12_oneTick_133 C hR FU x2 0 u H locs ls (lv_sub hl [1, 2, 0] rfl) S h
    · have h := cnd_f c10 h
      refine lv_aload_n hx hb dX12_oneTick_109 rfl (lv_at hl 0 rfl) ?_
      refine lv_iload_n hx hb dX12_oneTick_110 rfl (lv_at hl 2 rfl) ?_
      obtain ⟨r26, h25, h⟩ := obr_some h
      refine q_callVi (As := [.int x3]) (na := 1) C S (oM0 cI cB ad) rfl (ct_X12_isUp l D cI cB cL ad x3 u h25) mw_39 mw_38 mw_40 mw_5 mw_37 hdX12_isUp ⟨Nat.le_trans (Nat.le_of_ble_eq_true rfl) hR.1, Nat.le_trans (Nat.le_of_ble_eq_true rfl) hR.2⟩ rfl hsz ⟨Nat.zero_le _, Nat.zero_le _⟩ (Nat.le_of_ble_eq_true rfl) dX12_oneTick_111 rfl (fun H locs S => ?_)
      refine lv_if_eq (tgt := 125) hx hb dX12_oneTick_114 (by decide) (fun c27 => ?_) (fun c27 => ?_)
      · have h := cnd_t c27 h
        exact wX12_oneTick_125 C hR u ih x2 x3 (lv_sub hl [0, 1, 2] rfl) S h
      · have h := cnd_f c27 h
        refine lv_iload_n hx hb dX12_oneTick_117 rfl (lv_at hl 1 rfl) ?_
        refine lv_aload_n hx hb dX12_oneTick_118 rfl (lv_at hl 0 rfl) ?_
        refine lv_iload_n hx hb dX12_oneTick_119 rfl (lv_at hl 2 rfl) ?_
        obtain ⟨r30, u31, h29, h⟩ := obd_some h
        refine q_callVi (As := [.int x3]) (na := 1) C S (oM0 cI cB ad) rfl (ct_X12_delivers l D cI cB cL ad x3 u h29) mw_194 mw_193 mw_195 mw_5 mw_192 hdX12_delivers ⟨Nat.le_trans (Nat.le_of_ble_eq_true rfl) hR.1, Nat.le_trans (Nat.le_of_ble_eq_true rfl) hR.2⟩ rfl hsz ⟨Nat.zero_le _, Nat.zero_le _⟩ (Nat.le_of_ble_eq_true rfl) dX12_oneTick_120 rfl (fun H locs S => ?_)
        refine lv_iadd hx hb dX12_oneTick_123 ?_
        refine lv_topi (fun v32 ev32 => ?_)
        have h := bnd_of ev32 h
        refine lv_istore_n (lv' := [(2, .int v32), (0, .ref (ad 0)), (3, .int x3)]) hx hb dX12_oneTick_124 rfl hl (by decide) rfl (fun ls hl => ?_)
        have hsz := hl.1
        exact wX12_oneTick_125 C hR u31 ih v32 x3 (lv_sub hl [1, 0, 2] rfl) S h
set_option maxRecDepth 10000 in
set_option maxHeartbeats 4000000 in
theorem wX12_oneTick_93 (C : cx D (tyl cI cB cL) A RX12 cX12_oneTick 5 (some .int) p s m args c meth) (hR : 9 ≤ R.frames ∧ 211 ≤ R.locals) {r : Int32} {σ' : Sg} (u : Sg) {K72 : Int32 → Int32 → Sg → Option (Int32 × Sg)} (hK72 : ∀ (y2 : Int32) (y3 : Int32) (v : Sg) (H : Heap) (locs : List Loc) (ls : Array Slot), lv_has ls 5 [(0, .ref (ad 0)), (2, .int y2), (3, .int y3)] → st D (wM cI cB ad) A s v H locs → K72 y2 y3 v = some (r, σ') → W p l e R s m args below meth c H locs 0 0 (MQ below (qI D (tyl cI cB cL) (wM cI cB ad) A r σ') args s 0 0 A) (F0 m 72 ls [])) (x2 : Int32) (x3 : Int32) {H : Heap} {locs : List Loc} {ls : Array Slot} (hl : lv_has ls 5 [(0, .ref (ad 0)), (2, .int x2), (3, .int x3)]) (S : st D (wM cI cB ad) A s u H locs) (h : fX12_oneTick_93 K72 x2 x3 u = some (r, σ')) : W p l e R s m args below meth c H locs 0 0 (MQ below (qI D (tyl cI cB cL) (wM cI cB ad) A r σ') args s 0 0 A) (F0 m 93 ls []) := by
  have hx := C.1
  have hb := C.2.1
  have hsz := hl.1
  unfold fX12_oneTick_93 at h
  obtain ⟨v36, ev36⟩ : ∃ y : Int32, y = x3 + 1 := ⟨_, rfl⟩
  have h := bnd_of ev36 h
  refine lv_iinc (v := v36) (lv' := [(3, .int v36), (0, .ref (ad 0)), (2, .int x2)]) hx hb dX12_oneTick_93 hl (k := 2) rfl (by rw [ev36]; rfl) (by decide) rfl (fun ls hl => ?_)
  have hsz := hl.1
  refine lv_goto (tgt := 72) hx hb dX12_oneTick_96 (by decide) ?_
  exact hK72 x2 v36 u H locs ls (lv_sub hl [1, 2, 0] rfl) S h
set_option maxRecDepth 10000 in
set_option maxHeartbeats 4000000 in
theorem wX12_oneTick_72 (C : cx D (tyl cI cB cL) A RX12 cX12_oneTick 5 (some .int) p s m args c meth) (hR : 9 ≤ R.frames ∧ 211 ≤ R.locals) {r : Int32} {σ' : Sg} : ∀ (n : Nat) (x2 : Int32) (x3 : Int32) (u : Sg) (H : Heap) (locs : List Loc) (ls : Array Slot), lv_has ls 5 [(0, .ref (ad 0)), (2, .int x2), (3, .int x3)] → st D (wM cI cB ad) A s u H locs → fX12_oneTick_72 n x2 x3 u = some (r, σ') → W p l e R s m args below meth c H locs 0 0 (MQ below (qI D (tyl cI cB cL) (wM cI cB ad) A r σ') args s 0 0 A) (F0 m 72 ls []) := by
  have hx := C.1
  have hb := C.2.1
  intro n
  induction n with
  | zero =>
    intro x2 x3 u H locs ls hl S h
    cases h
  | succ n ih =>
    intro x2 x3 u H locs ls hl S h
    rw [fX12_oneTick_72] at h
    have hsz := hl.1
    refine lv_iload_n hx hb dX12_oneTick_72 rfl (lv_at hl 2 rfl) ?_
    refine lv_aload_n hx hb dX12_oneTick_73 rfl (lv_at hl 0 rfl) ?_
    obtain ⟨r6, h5, h⟩ := obr_some h
    refine q_callVi (As := []) (na := 0) C S (oM0 cI cB ad) rfl (ct_X12_nodes l D cI cB cL ad u h5) mw_24 mw_23 mw_25 mw_5 mw_22 hdX12_nodes ⟨Nat.le_trans (Nat.le_of_ble_eq_true rfl) hR.1, Nat.le_trans (Nat.le_of_ble_eq_true rfl) hR.2⟩ rfl hsz ⟨Nat.zero_le _, Nat.zero_le _⟩ (Nat.le_of_ble_eq_true rfl) dX12_oneTick_74 rfl (fun H locs S => ?_)
    refine lv_icmp_ge (tgt := 99) hx hb dX12_oneTick_77 (by decide) (fun c7 => ?_) (fun c7 => ?_)
    · have h := cnd_t c7 h
      refine lv_iconst (v := 0) hx hb dX12_oneTick_99 (by decide) ?_
      refine lv_istore_n (lv' := [(3, .int 0), (0, .ref (ad 0)), (2, .int x2)]) hx hb dX12_oneTick_100 rfl hl (by decide) rfl (fun ls hl => ?_)
      have hsz := hl.1
      exact wX12_oneTick_101 C hR FU x2 0 u H locs ls (lv_sub hl [1, 2, 0] rfl) S h
    · have h := cnd_f c7 h
      refine lv_aload_n hx hb dX12_oneTick_80 rfl (lv_at hl 0 rfl) ?_
      refine lv_iload_n hx hb dX12_oneTick_81 rfl (lv_at hl 2 rfl) ?_
      obtain ⟨r34, h33, h⟩ := obr_some h
      refine q_callVi (As := [.int x3]) (na := 1) C S (oM0 cI cB ad) rfl (ct_X12_isUp l D cI cB cL ad x3 u h33) mw_39 mw_38 mw_40 mw_5 mw_37 hdX12_isUp ⟨Nat.le_trans (Nat.le_of_ble_eq_true rfl) hR.1, Nat.le_trans (Nat.le_of_ble_eq_true rfl) hR.2⟩ rfl hsz ⟨Nat.zero_le _, Nat.zero_le _⟩ (Nat.le_of_ble_eq_true rfl) dX12_oneTick_82 rfl (fun H locs S => ?_)
      refine lv_if_eq (tgt := 93) hx hb dX12_oneTick_85 (by decide) (fun c35 => ?_) (fun c35 => ?_)
      · have h := cnd_t c35 h
        exact wX12_oneTick_93 C hR u ih x2 x3 (lv_sub hl [0, 1, 2] rfl) S h
      · have h := cnd_f c35 h
        refine lv_aload_n hx hb dX12_oneTick_88 rfl (lv_at hl 0 rfl) ?_
        refine lv_iload_n hx hb dX12_oneTick_89 rfl (lv_at hl 2 rfl) ?_
        obtain ⟨u38, h37, h⟩ := obr_some h
        refine q_callVv (As := [.int x3]) (na := 1) C S (oM0 cI cB ad) rfl (ct_X12_leads l D cI cB cL ad x3 u h37) mw_198 mw_197 mw_199 mw_5 mw_196 hdX12_leads ⟨Nat.le_trans (Nat.le_of_ble_eq_true rfl) hR.1, Nat.le_trans (Nat.le_of_ble_eq_true rfl) hR.2⟩ rfl hsz ⟨Nat.zero_le _, Nat.zero_le _⟩ (Nat.le_of_ble_eq_true rfl) dX12_oneTick_90 rfl (fun H locs S => ?_)
        exact wX12_oneTick_93 C hR u38 ih x2 x3 (lv_sub hl [0, 1, 2] rfl) S h
set_option maxRecDepth 10000 in
set_option maxHeartbeats 4000000 in
theorem wX12_oneTick_58 (C : cx D (tyl cI cB cL) A RX12 cX12_oneTick 5 (some .int) p s m args c meth) (hR : 9 ≤ R.frames ∧ 211 ≤ R.locals) {r : Int32} {σ' : Sg} (u : Sg) {K12 : Int32 → Int32 → Sg → Option (Int32 × Sg)} (hK12 : ∀ (y2 : Int32) (y3 : Int32) (v : Sg) (H : Heap) (locs : List Loc) (ls : Array Slot), lv_has ls 5 [(0, .ref (ad 0)), (2, .int y2), (3, .int y3)] → st D (wM cI cB ad) A s v H locs → K12 y2 y3 v = some (r, σ') → W p l e R s m args below meth c H locs 0 0 (MQ below (qI D (tyl cI cB cL) (wM cI cB ad) A r σ') args s 0 0 A) (F0 m 12 ls [])) {K23 : Int32 → Int32 → Int32 → Sg → Option (Int32 × Sg)} (hK23 : ∀ (y2 : Int32) (y3 : Int32) (y4 : Int32) (v : Sg) (H : Heap) (locs : List Loc) (ls : Array Slot), lv_has ls 5 [(0, .ref (ad 0)), (2, .int y2), (3, .int y3), (4, .int y4)] → st D (wM cI cB ad) A s v H locs → K23 y2 y3 y4 v = some (r, σ') → W p l e R s m args below meth c H locs 0 0 (MQ below (qI D (tyl cI cB cL) (wM cI cB ad) A r σ') args s 0 0 A) (F0 m 23 ls [])) (x2 : Int32) (x3 : Int32) (x4 : Int32) {H : Heap} {locs : List Loc} {ls : Array Slot} (hl : lv_has ls 5 [(0, .ref (ad 0)), (2, .int x2), (3, .int x3), (4, .int x4)]) (S : st D (wM cI cB ad) A s u H locs) (h : fX12_oneTick_58 K12 K23 x2 x3 x4 u = some (r, σ')) : W p l e R s m args below meth c H locs 0 0 (MQ below (qI D (tyl cI cB cL) (wM cI cB ad) A r σ') args s 0 0 A) (F0 m 58 ls []) := by
  have hx := C.1
  have hb := C.2.1
  have hsz := hl.1
  unfold fX12_oneTick_58 at h
  obtain ⟨v46, ev46⟩ : ∃ y : Int32, y = x4 + 1 := ⟨_, rfl⟩
  have h := bnd_of ev46 h
  refine lv_iinc (v := v46) (lv' := [(4, .int v46), (0, .ref (ad 0)), (2, .int x2), (3, .int x3)]) hx hb dX12_oneTick_58 hl (k := 3) rfl (by rw [ev46]; rfl) (by decide) rfl (fun ls hl => ?_)
  have hsz := hl.1
  refine lv_goto (tgt := 23) hx hb dX12_oneTick_61 (by decide) ?_
  exact hK23 x2 x3 v46 u H locs ls (lv_sub hl [1, 2, 3, 0] rfl) S h
set_option maxRecDepth 10000 in
set_option maxHeartbeats 4000000 in
theorem wX12_oneTick_23 (C : cx D (tyl cI cB cL) A RX12 cX12_oneTick 5 (some .int) p s m args c meth) (hR : 9 ≤ R.frames ∧ 211 ≤ R.locals) {r : Int32} {σ' : Sg} {K12 : Int32 → Int32 → Sg → Option (Int32 × Sg)} (hK12 : ∀ (y2 : Int32) (y3 : Int32) (v : Sg) (H : Heap) (locs : List Loc) (ls : Array Slot), lv_has ls 5 [(0, .ref (ad 0)), (2, .int y2), (3, .int y3)] → st D (wM cI cB ad) A s v H locs → K12 y2 y3 v = some (r, σ') → W p l e R s m args below meth c H locs 0 0 (MQ below (qI D (tyl cI cB cL) (wM cI cB ad) A r σ') args s 0 0 A) (F0 m 12 ls [])) : ∀ (n : Nat) (x2 : Int32) (x3 : Int32) (x4 : Int32) (u : Sg) (H : Heap) (locs : List Loc) (ls : Array Slot), lv_has ls 5 [(0, .ref (ad 0)), (2, .int x2), (3, .int x3), (4, .int x4)] → st D (wM cI cB ad) A s u H locs → fX12_oneTick_23 K12 n x2 x3 x4 u = some (r, σ') → W p l e R s m args below meth c H locs 0 0 (MQ below (qI D (tyl cI cB cL) (wM cI cB ad) A r σ') args s 0 0 A) (F0 m 23 ls []) := by
  have hx := C.1
  have hb := C.2.1
  intro n
  induction n with
  | zero =>
    intro x2 x3 x4 u H locs ls hl S h
    cases h
  | succ n ih =>
    intro x2 x3 x4 u H locs ls hl S h
    rw [fX12_oneTick_23] at h
    have hsz := hl.1
    refine lv_iload hx hb dX12_oneTick_23 (lv_at hl 3 rfl) ?_
    refine lv_aload_n hx hb dX12_oneTick_25 rfl (lv_at hl 0 rfl) ?_
    obtain ⟨r40, h39, h⟩ := obr_some h
    refine q_callVi (As := []) (na := 0) C S (oM0 cI cB ad) rfl (ct_X12_nodes l D cI cB cL ad u h39) mw_24 mw_23 mw_25 mw_5 mw_22 hdX12_nodes ⟨Nat.le_trans (Nat.le_of_ble_eq_true rfl) hR.1, Nat.le_trans (Nat.le_of_ble_eq_true rfl) hR.2⟩ rfl hsz ⟨Nat.zero_le _, Nat.zero_le _⟩ (Nat.le_of_ble_eq_true rfl) dX12_oneTick_26 rfl (fun H locs S => ?_)
    refine lv_icmp_ge (tgt := 64) hx hb dX12_oneTick_29 (by decide) (fun c41 => ?_) (fun c41 => ?_)
    · have h := cnd_t c41 h
      obtain ⟨v42, ev42⟩ : ∃ y : Int32, y = x3 + 1 := ⟨_, rfl⟩
      have h := bnd_of ev42 h
      refine lv_iinc (v := v42) (lv' := [(3, .int v42), (0, .ref (ad 0)), (2, .int x2), (4, .int x4)]) hx hb dX12_oneTick_64 hl (k := 2) rfl (by rw [ev42]; rfl) (by decide) rfl (fun ls hl => ?_)
      have hsz := hl.1
      refine lv_goto (tgt := 12) hx hb dX12_oneTick_67 (by decide) ?_
      exact hK12 x2 v42 u H locs ls (lv_sub hl [1, 2, 0] rfl) S h
    · have h := cnd_f c41 h
      refine lv_aload_n hx hb dX12_oneTick_32 rfl (lv_at hl 0 rfl) ?_
      refine lv_iload_n hx hb dX12_oneTick_33 rfl (lv_at hl 2 rfl) ?_
      obtain ⟨r44, h43, h⟩ := obr_some h
      refine q_callVi (As := [.int x3]) (na := 1) C S (oM0 cI cB ad) rfl (ct_X12_isUp l D cI cB cL ad x3 u h43) mw_39 mw_38 mw_40 mw_5 mw_37 hdX12_isUp ⟨Nat.le_trans (Nat.le_of_ble_eq_true rfl) hR.1, Nat.le_trans (Nat.le_of_ble_eq_true rfl) hR.2⟩ rfl hsz ⟨Nat.zero_le _, Nat.zero_le _⟩ (Nat.le_of_ble_eq_true rfl) dX12_oneTick_34 rfl (fun H locs S => ?_)
      refine lv_if_eq (tgt := 58) hx hb dX12_oneTick_37 (by decide) (fun c45 => ?_) (fun c45 => ?_)
      · have h := cnd_t c45 h
        exact wX12_oneTick_58 C hR u hK12 ih x2 x3 x4 (lv_sub hl [0, 1, 2, 3] rfl) S h
      · have h := cnd_f c45 h
        refine lv_aload_n hx hb dX12_oneTick_40 rfl (lv_at hl 0 rfl) ?_
        refine lv_iload hx hb dX12_oneTick_41 (lv_at hl 3 rfl) ?_
        refine lv_iload_n hx hb dX12_oneTick_43 rfl (lv_at hl 2 rfl) ?_
        refine lv_iconst (v := 1) hx hb dX12_oneTick_44 (by decide) ?_
        obtain ⟨r48, h47, h⟩ := obr_some h
        refine q_callVi (As := [.int x4, .int x3, .int 1]) (na := 3) C S (oM0 cI cB ad) rfl (ct_X12_ofChannel l D cI cB cL ad x4 x3 1 u h47) mw_84 mw_83 mw_85 mw_5 mw_82 hdX12_ofChannel ⟨Nat.le_trans (Nat.le_of_ble_eq_true rfl) hR.1, Nat.le_trans (Nat.le_of_ble_eq_true rfl) hR.2⟩ rfl hsz ⟨Nat.zero_le _, Nat.zero_le _⟩ (Nat.le_of_ble_eq_true rfl) dX12_oneTick_45 rfl (fun H locs S => ?_)
        refine lv_if_ne (tgt := 58) hx hb dX12_oneTick_48 (by decide) (fun c49 => ?_) (fun c49 => ?_)
        · have h := cnd_f c49 h
          exact wX12_oneTick_58 C hR u hK12 ih x2 x3 x4 (lv_sub hl [0, 1, 2, 3] rfl) S h
        · have h := cnd_t c49 h
          refine lv_aload_n hx hb dX12_oneTick_51 rfl (lv_at hl 0 rfl) ?_
          refine lv_iload hx hb dX12_oneTick_52 (lv_at hl 3 rfl) ?_
          refine lv_iload_n hx hb dX12_oneTick_54 rfl (lv_at hl 2 rfl) ?_
          obtain ⟨u51, h50, h⟩ := obr_some h
          refine q_callVv (As := [.int x4, .int x3]) (na := 2) C S (oM0 cI cB ad) rfl (ct_X12_hearsAll l D cI cB cL ad x4 x3 u h50) mw_202 mw_201 mw_203 mw_5 mw_200 hdX12_hearsAll ⟨Nat.le_trans (Nat.le_of_ble_eq_true rfl) hR.1, Nat.le_trans (Nat.le_of_ble_eq_true rfl) hR.2⟩ rfl hsz ⟨Nat.zero_le _, Nat.zero_le _⟩ (Nat.le_of_ble_eq_true rfl) dX12_oneTick_55 rfl (fun H locs S => ?_)
          exact wX12_oneTick_58 C hR u51 hK12 ih x2 x3 x4 (lv_sub hl [0, 1, 2, 3] rfl) S h
set_option maxRecDepth 10000 in
set_option maxHeartbeats 4000000 in
theorem wX12_oneTick_12 (C : cx D (tyl cI cB cL) A RX12 cX12_oneTick 5 (some .int) p s m args c meth) (hR : 9 ≤ R.frames ∧ 211 ≤ R.locals) {r : Int32} {σ' : Sg} : ∀ (n : Nat) (x2 : Int32) (x3 : Int32) (u : Sg) (H : Heap) (locs : List Loc) (ls : Array Slot), lv_has ls 5 [(0, .ref (ad 0)), (2, .int x2), (3, .int x3)] → st D (wM cI cB ad) A s u H locs → fX12_oneTick_12 n x2 x3 u = some (r, σ') → W p l e R s m args below meth c H locs 0 0 (MQ below (qI D (tyl cI cB cL) (wM cI cB ad) A r σ') args s 0 0 A) (F0 m 12 ls []) := by
  have hx := C.1
  have hb := C.2.1
  intro n
  induction n with
  | zero =>
    intro x2 x3 u H locs ls hl S h
    cases h
  | succ n ih =>
    intro x2 x3 u H locs ls hl S h
    rw [fX12_oneTick_12] at h
    have hsz := hl.1
    refine lv_iload_n hx hb dX12_oneTick_12 rfl (lv_at hl 2 rfl) ?_
    refine lv_aload_n hx hb dX12_oneTick_13 rfl (lv_at hl 0 rfl) ?_
    obtain ⟨r3, h2, h⟩ := obr_some h
    refine q_callVi (As := []) (na := 0) C S (oM0 cI cB ad) rfl (ct_X12_nodes l D cI cB cL ad u h2) mw_24 mw_23 mw_25 mw_5 mw_22 hdX12_nodes ⟨Nat.le_trans (Nat.le_of_ble_eq_true rfl) hR.1, Nat.le_trans (Nat.le_of_ble_eq_true rfl) hR.2⟩ rfl hsz ⟨Nat.zero_le _, Nat.zero_le _⟩ (Nat.le_of_ble_eq_true rfl) dX12_oneTick_14 rfl (fun H locs S => ?_)
    refine lv_icmp_ge (tgt := 70) hx hb dX12_oneTick_17 (by decide) (fun c4 => ?_) (fun c4 => ?_)
    · have h := cnd_t c4 h
      refine lv_iconst (v := 0) hx hb dX12_oneTick_70 (by decide) ?_
      refine lv_istore_n (lv' := [(3, .int 0), (0, .ref (ad 0)), (2, .int x2)]) hx hb dX12_oneTick_71 rfl hl (by decide) rfl (fun ls hl => ?_)
      have hsz := hl.1
      exact wX12_oneTick_72 C hR FU x2 0 u H locs ls (lv_sub hl [1, 2, 0] rfl) S h
    · have h := cnd_f c4 h
      refine lv_iconst (v := 0) hx hb dX12_oneTick_20 (by decide) ?_
      refine lv_istore (lv' := [(4, .int 0), (0, .ref (ad 0)), (2, .int x2), (3, .int x3)]) hx hb dX12_oneTick_21 hl (by decide) rfl (fun ls hl => ?_)
      have hsz := hl.1
      exact wX12_oneTick_23 C hR ih FU x2 x3 0 u H locs ls (lv_sub hl [1, 2, 3, 0] rfl) S h
set_option maxRecDepth 10000 in
set_option maxHeartbeats 4000000 in
theorem wX12_oneTick_8 (C : cx D (tyl cI cB cL) A RX12 cX12_oneTick 5 (some .int) p s m args c meth) (hR : 9 ≤ R.frames ∧ 211 ≤ R.locals) {r : Int32} {σ' : Sg} (u : Sg) {H : Heap} {locs : List Loc} {ls : Array Slot} (hl : lv_has ls 5 [(0, .ref (ad 0))]) (S : st D (wM cI cB ad) A s u H locs) (h : fX12_oneTick_8 u = some (r, σ')) : W p l e R s m args below meth c H locs 0 0 (MQ below (qI D (tyl cI cB cL) (wM cI cB ad) A r σ') args s 0 0 A) (F0 m 8 ls []) := by
  have hx := C.1
  have hb := C.2.1
  have hsz := hl.1
  unfold fX12_oneTick_8 at h
  refine lv_iconst (v := 0) hx hb dX12_oneTick_8 (by decide) ?_
  refine lv_istore_n (lv' := [(2, .int 0), (0, .ref (ad 0))]) hx hb dX12_oneTick_9 rfl hl (by decide) rfl (fun ls hl => ?_)
  have hsz := hl.1
  refine lv_iconst (v := 0) hx hb dX12_oneTick_10 (by decide) ?_
  refine lv_istore_n (lv' := [(3, .int 0), (2, .int 0), (0, .ref (ad 0))]) hx hb dX12_oneTick_11 rfl hl (by decide) rfl (fun ls hl => ?_)
  have hsz := hl.1
  exact wX12_oneTick_12 C hR FU 0 0 u H locs ls (lv_sub hl [2, 1, 0] rfl) S h
set_option maxRecDepth 10000 in
set_option maxHeartbeats 4000000 in
theorem wX12_oneTick_0 (C : cx D (tyl cI cB cL) A RX12 cX12_oneTick 5 (some .int) p s m args c meth) (hR : 9 ≤ R.frames ∧ 211 ≤ R.locals) {r : Int32} {σ' : Sg} (u : Sg) (x1 : Int32) {H : Heap} {locs : List Loc} {ls : Array Slot} (hl : lv_has ls 5 [(0, .ref (ad 0)), (1, .int x1)]) (S : st D (wM cI cB ad) A s u H locs) (h : fX12_oneTick_0 x1 u = some (r, σ')) : W p l e R s m args below meth c H locs 0 0 (MQ below (qI D (tyl cI cB cL) (wM cI cB ad) A r σ') args s 0 0 A) (F0 m 0 ls []) := by
  have hx := C.1
  have hb := C.2.1
  have hsz := hl.1
  unfold fX12_oneTick_0 at h
  refine lv_iload_n hx hb dX12_oneTick_0 rfl (lv_at hl 1 rfl) ?_
  refine lv_if_eq (tgt := 8) hx hb dX12_oneTick_1 (by decide) (fun c1 => ?_) (fun c1 => ?_)
  · have h := cnd_t c1 h
    exact wX12_oneTick_8 C hR u (lv_sub hl [0] rfl) S h
  · have h := cnd_f c1 h
    refine lv_aload_n hx hb dX12_oneTick_4 rfl (lv_at hl 0 rfl) ?_
    obtain ⟨u53, h52, h⟩ := obr_some h
    refine q_callVv (As := []) (na := 0) C S (oM0 cI cB ad) rfl (ct_X12_allHappen l D cI cB cL ad u h52) mw_206 mw_205 mw_207 mw_5 mw_204 hdX12_allHappen ⟨Nat.le_trans (Nat.le_of_ble_eq_true rfl) hR.1, Nat.le_trans (Nat.le_of_ble_eq_true rfl) hR.2⟩ rfl hsz ⟨Nat.zero_le _, Nat.zero_le _⟩ (Nat.le_of_ble_eq_true rfl) dX12_oneTick_5 rfl (fun H locs S => ?_)
    exact wX12_oneTick_8 C hR u53 (lv_sub hl [0] rfl) S h
set_option maxRecDepth 10000 in
set_option maxHeartbeats 4000000 in
theorem ct_X12_oneTick (l : Launch) (D : va_G) (cI cB cL : ClassId) (ad : Nat → Nat) (x1 : Int32) (u : Sg) {r : Int32} {σ' : Sg} (h : fX12_oneTick x1 u = some (r, σ')) : metI l D (tyl cI cB cL) yX12_oneTick cX12_oneTick 5 (some .int) 9 211 (wM cI cB ad) [.ref (ad 0), .int x1] u r σ' := by
  intro sz
  refine Met.ofW (cc := cX12_oneTick) (maxL := 5) (ret := (some .int)) (by decide) rfl ?_
  intro p e s m args below meth c s₁ B hml hv
  obtain ⟨rfl, C, S⟩ := q_entry B hml hv
  have hl := lv_entry ([.ref (ad 0), .int x1]) (n := 5) (Nat.le_of_ble_eq_true rfl)
  rw [lg_entry_eq]
  generalize (lg_sl ([.ref (ad 0), .int x1]) ++ List.replicate (5 - (lg_sl ([.ref (ad 0), .int x1])).length) Slot.unset).toArray = ls at hl ⊢
  exact wX12_oneTick_0 C ⟨Nat.le_refl _, Nat.le_refl _⟩ u x1 (lv_sub hl [0, 1] rfl) S h
noncomputable def fX12_ticks_34 : Nat → Int32 → Int32 → Int32 → Sg → Option (Int32 × Sg)
  | 0, _, _, _, _ => none
  | n + 1, x1, x2, x3, u => cnd (x1 ≤ x3) (some (x2, u)) (obd (fX12_oneTick 1 u) (fun r9 u10 => bnd (x2 + r9) (fun v11 => bnd (x3 + 1) (fun v12 => fX12_ticks_34 n x1 v11 v12 u10))))
noncomputable def fX12_ticks_21 (x1 : Int32) (t0 : Int32) (u : Sg) : Option (Int32 × Sg) := obd (fX12_throwsIf t0 1 u) (fun r4 u5 => cnd (r4 = 0) (fX12_ticks_34 FU x1 0 0 u5) (some (0, u5)))
noncomputable def fX12_ticks_0 (x1 : Int32) (u : Sg) : Option (Int32 × Sg) := bnd (s2 u 0 0 0) (fun u1 => cnd ((fX12_in x1 1 60) = 0) (fX12_ticks_21 x1 1 u1) (fX12_ticks_21 x1 0 u1))
noncomputable def fX12_ticks (x1 : Int32) (u : Sg) : Option (Int32 × Sg) := fX12_ticks_0 x1 u
set_option maxRecDepth 10000 in
set_option maxHeartbeats 4000000 in
theorem wX12_ticks_34 (C : cx D (tyl cI cB cL) A RX12 cX12_ticks 4 (some .int) p s m args c meth) (hR : 10 ≤ R.frames ∧ 235 ≤ R.locals) {r : Int32} {σ' : Sg} : ∀ (n : Nat) (x1 : Int32) (x2 : Int32) (x3 : Int32) (u : Sg) (H : Heap) (locs : List Loc) (ls : Array Slot), lv_has ls 4 [(0, .ref (ad 0)), (1, .int x1), (2, .int x2), (3, .int x3)] → st D (wM cI cB ad) A s u H locs → fX12_ticks_34 n x1 x2 x3 u = some (r, σ') → W p l e R s m args below meth c H locs 0 0 (MQ below (qI D (tyl cI cB cL) (wM cI cB ad) A r σ') args s 0 0 A) (F0 m 34 ls []) := by
  have hx := C.1
  have hb := C.2.1
  intro n
  induction n with
  | zero =>
    intro x1 x2 x3 u H locs ls hl S h
    cases h
  | succ n ih =>
    intro x1 x2 x3 u H locs ls hl S h
    rw [fX12_ticks_34] at h
    have hsz := hl.1
    refine lv_iload_n hx hb dX12_ticks_34 rfl (lv_at hl 3 rfl) ?_
    refine lv_iload_n hx hb dX12_ticks_35 rfl (lv_at hl 1 rfl) ?_
    refine lv_icmp_ge (tgt := 53) hx hb dX12_ticks_36 (by decide) (fun c7 => ?_) (fun c7 => ?_)
    · have h := cnd_t c7 h
      refine lv_iload_n hx hb dX12_ticks_53 rfl (lv_at hl 2 rfl) ?_
      exact q_iret C S (rt_S h) dX12_ticks_54
    · have h := cnd_f c7 h
      refine lv_iload_n hx hb dX12_ticks_39 rfl (lv_at hl 2 rfl) ?_
      refine lv_aload_n hx hb dX12_ticks_40 rfl (lv_at hl 0 rfl) ?_
      refine lv_iconst (v := 1) hx hb dX12_ticks_41 (by decide) ?_
      obtain ⟨r9, u10, h8, h⟩ := obd_some h
      refine q_callVi (As := [.int 1]) (na := 1) C S (oM0 cI cB ad) rfl (ct_X12_oneTick l D cI cB cL ad 1 u h8) mw_214 mw_213 mw_215 mw_5 mw_212 hdX12_oneTick ⟨Nat.le_trans (Nat.le_of_ble_eq_true rfl) hR.1, Nat.le_trans (Nat.le_of_ble_eq_true rfl) hR.2⟩ rfl hsz ⟨Nat.zero_le _, Nat.zero_le _⟩ (Nat.le_of_ble_eq_true rfl) dX12_ticks_42 rfl (fun H locs S => ?_)
      refine lv_iadd hx hb dX12_ticks_45 ?_
      refine lv_topi (fun v11 ev11 => ?_)
      have h := bnd_of ev11 h
      refine lv_istore_n (lv' := [(2, .int v11), (0, .ref (ad 0)), (1, .int x1), (3, .int x3)]) hx hb dX12_ticks_46 rfl hl (by decide) rfl (fun ls hl => ?_)
      have hsz := hl.1
      obtain ⟨v12, ev12⟩ : ∃ y : Int32, y = x3 + 1 := ⟨_, rfl⟩
      have h := bnd_of ev12 h
      refine lv_iinc (v := v12) (lv' := [(3, .int v12), (2, .int v11), (0, .ref (ad 0)), (1, .int x1)]) hx hb dX12_ticks_47 hl (k := 3) rfl (by rw [ev12]; rfl) (by decide) rfl (fun ls hl => ?_)
      have hsz := hl.1
      refine lv_goto (tgt := 34) hx hb dX12_ticks_50 (by decide) ?_
      exact ih x1 v11 v12 u10 H locs ls (lv_sub hl [2, 3, 1, 0] rfl) S h
set_option maxRecDepth 10000 in
set_option maxHeartbeats 4000000 in
theorem wX12_ticks_21 (C : cx D (tyl cI cB cL) A RX12 cX12_ticks 4 (some .int) p s m args c meth) (hR : 10 ≤ R.frames ∧ 235 ≤ R.locals) {r : Int32} {σ' : Sg} (u : Sg) (x1 : Int32) (t0 : Int32) {H : Heap} {locs : List Loc} {ls : Array Slot} (hl : lv_has ls 4 [(0, .ref (ad 0)), (1, .int x1)]) (S : st D (wM cI cB ad) A s u H locs) (h : fX12_ticks_21 x1 t0 u = some (r, σ')) : W p l e R s m args below meth c H locs 0 0 (MQ below (qI D (tyl cI cB cL) (wM cI cB ad) A r σ') args s 0 0 A) (F0 m 21 ls [.int t0, .ref (ad 0)]) := by
  have hx := C.1
  have hb := C.2.1
  have hsz := hl.1
  unfold fX12_ticks_21 at h
  refine lv_iconst (v := 1) hx hb dX12_ticks_21 (by decide) ?_
  obtain ⟨r4, u5, h3, h⟩ := obd_some h
  refine q_callVi (As := [.int t0, .int 1]) (na := 2) C S (oM0 cI cB ad) rfl (ct_X12_throwsIf l D cI cB cL ad t0 1 u h3) mw_210 mw_209 mw_211 mw_5 mw_208 hdX12_throwsIf ⟨Nat.le_trans (Nat.le_of_ble_eq_true rfl) hR.1, Nat.le_trans (Nat.le_of_ble_eq_true rfl) hR.2⟩ rfl hsz ⟨Nat.zero_le _, Nat.zero_le _⟩ (Nat.le_of_ble_eq_true rfl) dX12_ticks_22 rfl (fun H locs S => ?_)
  refine lv_if_eq (tgt := 30) hx hb dX12_ticks_25 (by decide) (fun c6 => ?_) (fun c6 => ?_)
  · have h := cnd_t c6 h
    refine lv_iconst (v := 0) hx hb dX12_ticks_30 (by decide) ?_
    refine lv_istore_n (lv' := [(2, .int 0), (0, .ref (ad 0)), (1, .int x1)]) hx hb dX12_ticks_31 rfl hl (by decide) rfl (fun ls hl => ?_)
    have hsz := hl.1
    refine lv_iconst (v := 0) hx hb dX12_ticks_32 (by decide) ?_
    refine lv_istore_n (lv' := [(3, .int 0), (2, .int 0), (0, .ref (ad 0)), (1, .int x1)]) hx hb dX12_ticks_33 rfl hl (by decide) rfl (fun ls hl => ?_)
    have hsz := hl.1
    exact wX12_ticks_34 C hR FU x1 0 0 u5 H locs ls (lv_sub hl [2, 3, 1, 0] rfl) S h
  · have h := cnd_f c6 h
    refine lv_iconst (v := 0) hx hb dX12_ticks_28 (by decide) ?_
    exact q_iret C S (rt_S h) dX12_ticks_29
set_option maxRecDepth 10000 in
set_option maxHeartbeats 4000000 in
theorem wX12_ticks_0 (C : cx D (tyl cI cB cL) A RX12 cX12_ticks 4 (some .int) p s m args c meth) (hR : 10 ≤ R.frames ∧ 235 ≤ R.locals) {r : Int32} {σ' : Sg} (u : Sg) (x1 : Int32) {H : Heap} {locs : List Loc} {ls : Array Slot} (hl : lv_has ls 4 [(0, .ref (ad 0)), (1, .int x1)]) (S : st D (wM cI cB ad) A s u H locs) (h : fX12_ticks_0 x1 u = some (r, σ')) : W p l e R s m args below meth c H locs 0 0 (MQ below (qI D (tyl cI cB cL) (wM cI cB ad) A r σ') args s 0 0 A) (F0 m 0 ls []) := by
  have hx := C.1
  have hb := C.2.1
  have hsz := hl.1
  unfold fX12_ticks_0 at h
  refine lv_aload_n hx hb dX12_ticks_0 rfl (lv_at hl 0 rfl) ?_
  refine lv_iconst (v := 0) hx hb dX12_ticks_1 (by decide) ?_
  obtain ⟨u1, eu1⟩ : ∃ z : Sg, z = s2 u 0 0 0 := ⟨_, rfl⟩
  have h := bnd_of eu1 h
  refine q_put C S (oM0 cI cB ad) rfl iwX12 tyX12 tyX12_ok nmX12 0 (by decide) mw_11 rfl (iM0_0 cI cB ad) rfl rfl dX12_ticks_2 eu1 (fun H locs S => ?_)
  refine lv_aload_n hx hb dX12_ticks_5 rfl (lv_at hl 0 rfl) ?_
  refine lv_iload_n hx hb dX12_ticks_6 rfl (lv_at hl 1 rfl) ?_
  refine lv_iconst (v := 1) hx hb dX12_ticks_7 (by decide) ?_
  refine lv_bipush (v := 60) hx hb dX12_ticks_8 (by decide) ?_
  refine q_callP (As := [.int x1, .int 1, .int 60]) (na := 3) C S (ct_X12_in l D cI cB cL x1 1 60) mw_28 mw_27 mw_5 mw_26 hdX12_in ⟨Nat.le_trans (Nat.le_of_ble_eq_true rfl) hR.1, Nat.le_trans (Nat.le_of_ble_eq_true rfl) hR.2⟩ rfl hsz ⟨Nat.zero_le _, Nat.zero_le _⟩ (Nat.le_of_ble_eq_true rfl) dX12_ticks_10 rfl (fun H locs S => ?_)
  refine lv_if_ne (tgt := 20) hx hb dX12_ticks_13 (by decide) (fun c2 => ?_) (fun c2 => ?_)
  · have h := cnd_f c2 h
    refine lv_iconst (v := 0) hx hb dX12_ticks_20 (by decide) ?_
    exact wX12_ticks_21 C hR u1 x1 0 (lv_sub hl [0, 1] rfl) S h
  · have h := cnd_t c2 h
    refine lv_iconst (v := 1) hx hb dX12_ticks_16 (by decide) ?_
    refine lv_goto (tgt := 21) hx hb dX12_ticks_17 (by decide) ?_
    exact wX12_ticks_21 C hR u1 x1 1 (lv_sub hl [0, 1] rfl) S h
set_option maxRecDepth 10000 in
set_option maxHeartbeats 4000000 in
theorem ct_X12_ticks (l : Launch) (D : va_G) (cI cB cL : ClassId) (ad : Nat → Nat) (x1 : Int32) (u : Sg) {r : Int32} {σ' : Sg} (h : fX12_ticks x1 u = some (r, σ')) : metI l D (tyl cI cB cL) yX12_ticks cX12_ticks 4 (some .int) 10 235 (wM cI cB ad) [.ref (ad 0), .int x1] u r σ' := by
  intro sz
  refine Met.ofW (cc := cX12_ticks) (maxL := 4) (ret := (some .int)) (by decide) rfl ?_
  intro p e s m args below meth c s₁ B hml hv
  obtain ⟨rfl, C, S⟩ := q_entry B hml hv
  have hl := lv_entry ([.ref (ad 0), .int x1]) (n := 4) (Nat.le_of_ble_eq_true rfl)
  rw [lg_entry_eq]
  generalize (lg_sl ([.ref (ad 0), .int x1]) ++ List.replicate (4 - (lg_sl ([.ref (ad 0), .int x1])).length) Slot.unset).toArray = ls at hl ⊢
  exact wX12_ticks_0 C ⟨Nat.le_refl _, Nat.le_refl _⟩ u x1 (lv_sub hl [0, 1] rfl) S h
noncomputable def fX12_goesOn_2 : Nat → Int32 → Int32 → Sg → Option Sg
  | 0, _, _, _ => none
  | n + 1, x1, x2, u => cnd (x1 ≤ x2) (some u) (obd (fX12_oneTick 0 u) (fun r3 u4 => bnd (x2 + 1) (fun v5 => fX12_goesOn_2 n x1 v5 u4)))
noncomputable def fX12_goesOn_0 (x1 : Int32) (u : Sg) : Option Sg := fX12_goesOn_2 FU x1 0 u
noncomputable def fX12_goesOn (x1 : Int32) (u : Sg) : Option Sg := fX12_goesOn_0 x1 u
set_option maxRecDepth 10000 in
set_option maxHeartbeats 4000000 in
theorem wX12_goesOn_2 (C : cx D (tyl cI cB cL) A RX12 cX12_goesOn 3 none p s m args c meth) (hR : 10 ≤ R.frames ∧ 235 ≤ R.locals) {σ' : Sg} : ∀ (n : Nat) (x1 : Int32) (x2 : Int32) (u : Sg) (H : Heap) (locs : List Loc) (ls : Array Slot), lv_has ls 3 [(0, .ref (ad 0)), (1, .int x1), (2, .int x2)] → st D (wM cI cB ad) A s u H locs → fX12_goesOn_2 n x1 x2 u = some σ' → W p l e R s m args below meth c H locs 0 0 (MQ below (qV D (tyl cI cB cL) (wM cI cB ad) A σ') args s 0 0 A) (F0 m 2 ls []) := by
  have hx := C.1
  have hb := C.2.1
  intro n
  induction n with
  | zero =>
    intro x1 x2 u H locs ls hl S h
    cases h
  | succ n ih =>
    intro x1 x2 u H locs ls hl S h
    rw [fX12_goesOn_2] at h
    have hsz := hl.1
    refine lv_iload_n hx hb dX12_goesOn_2 rfl (lv_at hl 2 rfl) ?_
    refine lv_iload_n hx hb dX12_goesOn_3 rfl (lv_at hl 1 rfl) ?_
    refine lv_icmp_ge (tgt := 19) hx hb dX12_goesOn_4 (by decide) (fun c1 => ?_) (fun c1 => ?_)
    · have h := cnd_t c1 h
      exact q_vret C S (Option.some.inj h) dX12_goesOn_19
    · have h := cnd_f c1 h
      refine lv_aload_n hx hb dX12_goesOn_7 rfl (lv_at hl 0 rfl) ?_
      refine lv_iconst (v := 0) hx hb dX12_goesOn_8 (by decide) ?_
      obtain ⟨r3, u4, h2, h⟩ := obd_some h
      refine q_callVi (As := [.int 0]) (na := 1) C S (oM0 cI cB ad) rfl (ct_X12_oneTick l D cI cB cL ad 0 u h2) mw_214 mw_213 mw_215 mw_5 mw_212 hdX12_oneTick ⟨Nat.le_trans (Nat.le_of_ble_eq_true rfl) hR.1, Nat.le_trans (Nat.le_of_ble_eq_true rfl) hR.2⟩ rfl hsz ⟨Nat.zero_le _, Nat.zero_le _⟩ (Nat.le_of_ble_eq_true rfl) dX12_goesOn_9 rfl (fun H locs S => ?_)
      refine lv_pop hx hb dX12_goesOn_12 rfl ?_
      obtain ⟨v5, ev5⟩ : ∃ y : Int32, y = x2 + 1 := ⟨_, rfl⟩
      have h := bnd_of ev5 h
      refine lv_iinc (v := v5) (lv' := [(2, .int v5), (0, .ref (ad 0)), (1, .int x1)]) hx hb dX12_goesOn_13 hl (k := 2) rfl (by rw [ev5]; rfl) (by decide) rfl (fun ls hl => ?_)
      have hsz := hl.1
      refine lv_goto (tgt := 2) hx hb dX12_goesOn_16 (by decide) ?_
      exact ih x1 v5 u4 H locs ls (lv_sub hl [1, 2, 0] rfl) S h
set_option maxRecDepth 10000 in
set_option maxHeartbeats 4000000 in
theorem wX12_goesOn_0 (C : cx D (tyl cI cB cL) A RX12 cX12_goesOn 3 none p s m args c meth) (hR : 10 ≤ R.frames ∧ 235 ≤ R.locals) {σ' : Sg} (u : Sg) (x1 : Int32) {H : Heap} {locs : List Loc} {ls : Array Slot} (hl : lv_has ls 3 [(0, .ref (ad 0)), (1, .int x1)]) (S : st D (wM cI cB ad) A s u H locs) (h : fX12_goesOn_0 x1 u = some σ') : W p l e R s m args below meth c H locs 0 0 (MQ below (qV D (tyl cI cB cL) (wM cI cB ad) A σ') args s 0 0 A) (F0 m 0 ls []) := by
  have hx := C.1
  have hb := C.2.1
  have hsz := hl.1
  unfold fX12_goesOn_0 at h
  refine lv_iconst (v := 0) hx hb dX12_goesOn_0 (by decide) ?_
  refine lv_istore_n (lv' := [(2, .int 0), (0, .ref (ad 0)), (1, .int x1)]) hx hb dX12_goesOn_1 rfl hl (by decide) rfl (fun ls hl => ?_)
  have hsz := hl.1
  exact wX12_goesOn_2 C hR FU x1 0 u H locs ls (lv_sub hl [1, 2, 0] rfl) S h
set_option maxRecDepth 10000 in
set_option maxHeartbeats 4000000 in
theorem ct_X12_goesOn (l : Launch) (D : va_G) (cI cB cL : ClassId) (ad : Nat → Nat) (x1 : Int32) (u : Sg) {σ' : Sg} (h : fX12_goesOn x1 u = some σ') : metV l D (tyl cI cB cL) yX12_goesOn cX12_goesOn 3 10 235 (wM cI cB ad) [.ref (ad 0), .int x1] u σ' := by
  intro sz
  refine Met.ofW (cc := cX12_goesOn) (maxL := 3) (ret := none) (by decide) rfl ?_
  intro p e s m args below meth c s₁ B hml hv
  obtain ⟨rfl, C, S⟩ := q_entry B hml hv
  have hl := lv_entry ([.ref (ad 0), .int x1]) (n := 3) (Nat.le_of_ble_eq_true rfl)
  rw [lg_entry_eq]
  generalize (lg_sl ([.ref (ad 0), .int x1]) ++ List.replicate (3 - (lg_sl ([.ref (ad 0), .int x1])).length) Slot.unset).toArray = ls at hl ⊢
  exact wX12_goesOn_0 C ⟨Nat.le_refl _, Nat.le_refl _⟩ u x1 (lv_sub hl [0, 1] rfl) S h
noncomputable def fX12_beginsAhead_0 (u : Sg) : Option Sg := obr (fX12_keepsAll u) (fun u2 => bnd (s2 u2 0 14 0) (fun u3 => some u3))
noncomputable def fX12_beginsAhead (u : Sg) : Option Sg := fX12_beginsAhead_0 u
set_option maxRecDepth 10000 in
set_option maxHeartbeats 4000000 in
theorem wX12_beginsAhead_0 (C : cx D (tyl cI cB cL) A RX12 cX12_beginsAhead 1 none p s m args c meth) (hR : 1 ≤ R.frames ∧ 21 ≤ R.locals) {σ' : Sg} (u : Sg) {H : Heap} {locs : List Loc} {ls : Array Slot} (hl : lv_has ls 1 [(0, .ref (ad 0))]) (S : st D (wM cI cB ad) A s u H locs) (h : fX12_beginsAhead_0 u = some σ') : W p l e R s m args below meth c H locs 0 0 (MQ below (qV D (tyl cI cB cL) (wM cI cB ad) A σ') args s 0 0 A) (F0 m 0 ls []) := by
  have hx := C.1
  have hb := C.2.1
  have hsz := hl.1
  unfold fX12_beginsAhead_0 at h
  refine lv_aload_n hx hb dX12_beginsAhead_0 rfl (lv_at hl 0 rfl) ?_
  obtain ⟨u2, h1, h⟩ := obr_some h
  refine q_callVv (As := []) (na := 0) C S (oM0 cI cB ad) rfl (ct_X12_keepsAll l D cI cB cL ad u h1) mw_218 mw_217 mw_219 mw_5 mw_216 hdX12_keepsAll ⟨Nat.le_trans (Nat.le_of_ble_eq_true rfl) hR.1, Nat.le_trans (Nat.le_of_ble_eq_true rfl) hR.2⟩ rfl hsz ⟨Nat.zero_le _, Nat.zero_le _⟩ (Nat.le_of_ble_eq_true rfl) dX12_beginsAhead_1 rfl (fun H locs S => ?_)
  refine lv_aload_n hx hb dX12_beginsAhead_4 rfl (lv_at hl 0 rfl) ?_
  refine lv_iconst (v := 0) hx hb dX12_beginsAhead_5 (by decide) ?_
  obtain ⟨u3, eu3⟩ : ∃ z : Sg, z = s2 u2 0 14 0 := ⟨_, rfl⟩
  have h := bnd_of eu3 h
  refine q_put C S (oM0 cI cB ad) rfl iwX12 tyX12 tyX12_ok nmX12 14 (by decide) mw_76 rfl (iM0_14 cI cB ad) rfl rfl dX12_beginsAhead_6 eu3 (fun H locs S => ?_)
  exact q_vret C S (Option.some.inj h) dX12_beginsAhead_9
set_option maxRecDepth 10000 in
set_option maxHeartbeats 4000000 in
theorem ct_X12_beginsAhead (l : Launch) (D : va_G) (cI cB cL : ClassId) (ad : Nat → Nat) (u : Sg) {σ' : Sg} (h : fX12_beginsAhead u = some σ') : metV l D (tyl cI cB cL) yX12_beginsAhead cX12_beginsAhead 1 1 21 (wM cI cB ad) [.ref (ad 0)] u σ' := by
  intro sz
  refine Met.ofW (cc := cX12_beginsAhead) (maxL := 1) (ret := none) (by decide) rfl ?_
  intro p e s m args below meth c s₁ B hml hv
  obtain ⟨rfl, C, S⟩ := q_entry B hml hv
  have hl := lv_entry ([.ref (ad 0)]) (n := 1) (Nat.le_of_ble_eq_true rfl)
  rw [lg_entry_eq]
  generalize (lg_sl ([.ref (ad 0)]) ++ List.replicate (1 - (lg_sl ([.ref (ad 0)])).length) Slot.unset).toArray = ls at hl ⊢
  exact wX12_beginsAhead_0 C ⟨Nat.le_refl _, Nat.le_refl _⟩ u (lv_sub hl [0] rfl) S h
noncomputable def fX12_endsAhead_0 (u : Sg) : Option Sg := bnd (s2 u 0 14 1) (fun u1 => obr (fX12_bringsBack u1) (fun u3 => some u3))
noncomputable def fX12_endsAhead (u : Sg) : Option Sg := fX12_endsAhead_0 u
set_option maxRecDepth 10000 in
set_option maxHeartbeats 4000000 in
theorem wX12_endsAhead_0 (C : cx D (tyl cI cB cL) A RX12 cX12_endsAhead 1 none p s m args c meth) (hR : 1 ≤ R.frames ∧ 21 ≤ R.locals) {σ' : Sg} (u : Sg) {H : Heap} {locs : List Loc} {ls : Array Slot} (hl : lv_has ls 1 [(0, .ref (ad 0))]) (S : st D (wM cI cB ad) A s u H locs) (h : fX12_endsAhead_0 u = some σ') : W p l e R s m args below meth c H locs 0 0 (MQ below (qV D (tyl cI cB cL) (wM cI cB ad) A σ') args s 0 0 A) (F0 m 0 ls []) := by
  have hx := C.1
  have hb := C.2.1
  have hsz := hl.1
  unfold fX12_endsAhead_0 at h
  refine lv_aload_n hx hb dX12_endsAhead_0 rfl (lv_at hl 0 rfl) ?_
  refine lv_iconst (v := 1) hx hb dX12_endsAhead_1 (by decide) ?_
  obtain ⟨u1, eu1⟩ : ∃ z : Sg, z = s2 u 0 14 1 := ⟨_, rfl⟩
  have h := bnd_of eu1 h
  refine q_put C S (oM0 cI cB ad) rfl iwX12 tyX12 tyX12_ok nmX12 14 (by decide) mw_76 rfl (iM0_14 cI cB ad) rfl rfl dX12_endsAhead_2 eu1 (fun H locs S => ?_)
  refine lv_aload_n hx hb dX12_endsAhead_5 rfl (lv_at hl 0 rfl) ?_
  obtain ⟨u3, h2, h⟩ := obr_some h
  refine q_callVv (As := []) (na := 0) C S (oM0 cI cB ad) rfl (ct_X12_bringsBack l D cI cB cL ad u1 h2) mw_222 mw_221 mw_223 mw_5 mw_220 hdX12_bringsBack ⟨Nat.le_trans (Nat.le_of_ble_eq_true rfl) hR.1, Nat.le_trans (Nat.le_of_ble_eq_true rfl) hR.2⟩ rfl hsz ⟨Nat.zero_le _, Nat.zero_le _⟩ (Nat.le_of_ble_eq_true rfl) dX12_endsAhead_6 rfl (fun H locs S => ?_)
  exact q_vret C S (Option.some.inj h) dX12_endsAhead_9
set_option maxRecDepth 10000 in
set_option maxHeartbeats 4000000 in
theorem ct_X12_endsAhead (l : Launch) (D : va_G) (cI cB cL : ClassId) (ad : Nat → Nat) (u : Sg) {σ' : Sg} (h : fX12_endsAhead u = some σ') : metV l D (tyl cI cB cL) yX12_endsAhead cX12_endsAhead 1 1 21 (wM cI cB ad) [.ref (ad 0)] u σ' := by
  intro sz
  refine Met.ofW (cc := cX12_endsAhead) (maxL := 1) (ret := none) (by decide) rfl ?_
  intro p e s m args below meth c s₁ B hml hv
  obtain ⟨rfl, C, S⟩ := q_entry B hml hv
  have hl := lv_entry ([.ref (ad 0)]) (n := 1) (Nat.le_of_ble_eq_true rfl)
  rw [lg_entry_eq]
  generalize (lg_sl ([.ref (ad 0)]) ++ List.replicate (1 - (lg_sl ([.ref (ad 0)])).length) Slot.unset).toArray = ls at hl ⊢
  exact wX12_endsAhead_0 C ⟨Nat.le_refl _, Nat.le_refl _⟩ u (lv_sub hl [0] rfl) S h
noncomputable def fX12_send_57 (x1 : Int32) (x2 : Int32) (t0 : Int32) (u : Sg) : Option (Int32 × Sg) := obd (fX12_throwsIf t0 2 u) (fun r13 u14 => cnd (r13 = 0) (obd (fX12_isSent x1 x2 u14) (fun r17 u18 => some (r17, u18))) (some (0, u14)))
noncomputable def fX12_send_52 (x1 : Int32) (x2 : Int32) (u : Sg) : Option (Int32 × Sg) := fX12_send_57 x1 x2 1 u
noncomputable def fX12_send_27 (x1 : Int32) (x2 : Int32) (t0 : Int32) (u : Sg) : Option (Int32 × Sg) := obd (fX12_throwsIf t0 1 u) (fun r6 u7 => cnd (r6 = 0) (obr (fX12_isUp x1 u7) (fun r10 => cnd (r10 = 0) (fX12_send_52 x1 x2 u7) (obr (fX12_messages u7) (fun r20 => cnd (r20 = 20) (fX12_send_52 x1 x2 u7) (fX12_send_57 x1 x2 0 u7))))) (some (0, u7)))
noncomputable def fX12_send_22 (x1 : Int32) (x2 : Int32) (u : Sg) : Option (Int32 × Sg) := fX12_send_27 x1 x2 1 u
noncomputable def fX12_send_0 (x1 : Int32) (x2 : Int32) (u : Sg) : Option (Int32 × Sg) := bnd (s2 u 0 0 0) (fun u1 => obr (fX12_noNode x1 u1) (fun r3 => cnd (r3 = 0) (obr (fX12_noGroup x2 u1) (fun r23 => cnd (r23 = 0) (fX12_send_27 x1 x2 0 u1) (fX12_send_22 x1 x2 u1))) (fX12_send_22 x1 x2 u1)))
noncomputable def fX12_send (x1 : Int32) (x2 : Int32) (u : Sg) : Option (Int32 × Sg) := fX12_send_0 x1 x2 u
set_option maxRecDepth 10000 in
set_option maxHeartbeats 4000000 in
theorem wX12_send_57 (C : cx D (tyl cI cB cL) A RX12 cX12_send 3 (some .int) p s m args c meth) (hR : 7 ≤ R.frames ∧ 164 ≤ R.locals) {r : Int32} {σ' : Sg} (u : Sg) (x1 : Int32) (x2 : Int32) (t0 : Int32) {H : Heap} {locs : List Loc} {ls : Array Slot} (hl : lv_has ls 3 [(0, .ref (ad 0)), (1, .int x1), (2, .int x2)]) (S : st D (wM cI cB ad) A s u H locs) (h : fX12_send_57 x1 x2 t0 u = some (r, σ')) : W p l e R s m args below meth c H locs 0 0 (MQ below (qI D (tyl cI cB cL) (wM cI cB ad) A r σ') args s 0 0 A) (F0 m 57 ls [.int t0, .ref (ad 0)]) := by
  have hx := C.1
  have hb := C.2.1
  have hsz := hl.1
  unfold fX12_send_57 at h
  refine lv_iconst (v := 2) hx hb dX12_send_57 (by decide) ?_
  obtain ⟨r13, u14, h12, h⟩ := obd_some h
  refine q_callVi (As := [.int t0, .int 2]) (na := 2) C S (oM0 cI cB ad) rfl (ct_X12_throwsIf l D cI cB cL ad t0 2 u h12) mw_210 mw_209 mw_211 mw_5 mw_208 hdX12_throwsIf ⟨Nat.le_trans (Nat.le_of_ble_eq_true rfl) hR.1, Nat.le_trans (Nat.le_of_ble_eq_true rfl) hR.2⟩ rfl hsz ⟨Nat.zero_le _, Nat.zero_le _⟩ (Nat.le_of_ble_eq_true rfl) dX12_send_58 rfl (fun H locs S => ?_)
  refine lv_if_eq (tgt := 66) hx hb dX12_send_61 (by decide) (fun c15 => ?_) (fun c15 => ?_)
  · have h := cnd_t c15 h
    refine lv_aload_n hx hb dX12_send_66 rfl (lv_at hl 0 rfl) ?_
    refine lv_iload_n hx hb dX12_send_67 rfl (lv_at hl 1 rfl) ?_
    refine lv_iload_n hx hb dX12_send_68 rfl (lv_at hl 2 rfl) ?_
    obtain ⟨r17, u18, h16, h⟩ := obd_some h
    refine q_callVi (As := [.int x1, .int x2]) (na := 2) C S (oM0 cI cB ad) rfl (ct_X12_isSent l D cI cB cL ad x1 x2 u14 h16) mw_182 mw_181 mw_183 mw_5 mw_180 hdX12_isSent ⟨Nat.le_trans (Nat.le_of_ble_eq_true rfl) hR.1, Nat.le_trans (Nat.le_of_ble_eq_true rfl) hR.2⟩ rfl hsz ⟨Nat.zero_le _, Nat.zero_le _⟩ (Nat.le_of_ble_eq_true rfl) dX12_send_69 rfl (fun H locs S => ?_)
    exact q_iret C S (rt_S h) dX12_send_72
  · have h := cnd_f c15 h
    refine lv_iconst (v := 0) hx hb dX12_send_64 (by decide) ?_
    exact q_iret C S (rt_S h) dX12_send_65
set_option maxRecDepth 10000 in
set_option maxHeartbeats 4000000 in
theorem wX12_send_52 (C : cx D (tyl cI cB cL) A RX12 cX12_send 3 (some .int) p s m args c meth) (hR : 7 ≤ R.frames ∧ 164 ≤ R.locals) {r : Int32} {σ' : Sg} (u : Sg) (x1 : Int32) (x2 : Int32) {H : Heap} {locs : List Loc} {ls : Array Slot} (hl : lv_has ls 3 [(0, .ref (ad 0)), (1, .int x1), (2, .int x2)]) (S : st D (wM cI cB ad) A s u H locs) (h : fX12_send_52 x1 x2 u = some (r, σ')) : W p l e R s m args below meth c H locs 0 0 (MQ below (qI D (tyl cI cB cL) (wM cI cB ad) A r σ') args s 0 0 A) (F0 m 52 ls [.ref (ad 0)]) := by
  have hx := C.1
  have hb := C.2.1
  have hsz := hl.1
  unfold fX12_send_52 at h
  refine lv_iconst (v := 1) hx hb dX12_send_52 (by decide) ?_
  refine lv_goto (tgt := 57) hx hb dX12_send_53 (by decide) ?_
  exact wX12_send_57 C hR u x1 x2 1 (lv_sub hl [0, 1, 2] rfl) S h
set_option maxRecDepth 10000 in
set_option maxHeartbeats 4000000 in
theorem wX12_send_27 (C : cx D (tyl cI cB cL) A RX12 cX12_send 3 (some .int) p s m args c meth) (hR : 7 ≤ R.frames ∧ 164 ≤ R.locals) {r : Int32} {σ' : Sg} (u : Sg) (x1 : Int32) (x2 : Int32) (t0 : Int32) {H : Heap} {locs : List Loc} {ls : Array Slot} (hl : lv_has ls 3 [(0, .ref (ad 0)), (1, .int x1), (2, .int x2)]) (S : st D (wM cI cB ad) A s u H locs) (h : fX12_send_27 x1 x2 t0 u = some (r, σ')) : W p l e R s m args below meth c H locs 0 0 (MQ below (qI D (tyl cI cB cL) (wM cI cB ad) A r σ') args s 0 0 A) (F0 m 27 ls [.int t0, .ref (ad 0)]) := by
  have hx := C.1
  have hb := C.2.1
  have hsz := hl.1
  unfold fX12_send_27 at h
  refine lv_iconst (v := 1) hx hb dX12_send_27 (by decide) ?_
  obtain ⟨r6, u7, h5, h⟩ := obd_some h
  refine q_callVi (As := [.int t0, .int 1]) (na := 2) C S (oM0 cI cB ad) rfl (ct_X12_throwsIf l D cI cB cL ad t0 1 u h5) mw_210 mw_209 mw_211 mw_5 mw_208 hdX12_throwsIf ⟨Nat.le_trans (Nat.le_of_ble_eq_true rfl) hR.1, Nat.le_trans (Nat.le_of_ble_eq_true rfl) hR.2⟩ rfl hsz ⟨Nat.zero_le _, Nat.zero_le _⟩ (Nat.le_of_ble_eq_true rfl) dX12_send_28 rfl (fun H locs S => ?_)
  refine lv_if_ne (tgt := 64) hx hb dX12_send_31 (by decide) (fun c8 => ?_) (fun c8 => ?_)
  · have h := cnd_f c8 h
    refine lv_iconst (v := 0) hx hb dX12_send_64 (by decide) ?_
    exact q_iret C S (rt_S h) dX12_send_65
  · have h := cnd_t c8 h
    refine lv_aload_n hx hb dX12_send_34 rfl (lv_at hl 0 rfl) ?_
    refine lv_aload_n hx hb dX12_send_35 rfl (lv_at hl 0 rfl) ?_
    refine lv_iload_n hx hb dX12_send_36 rfl (lv_at hl 1 rfl) ?_
    obtain ⟨r10, h9, h⟩ := obr_some h
    refine q_callVi (As := [.int x1]) (na := 1) C S (oM0 cI cB ad) rfl (ct_X12_isUp l D cI cB cL ad x1 u7 h9) mw_39 mw_38 mw_40 mw_5 mw_37 hdX12_isUp ⟨Nat.le_trans (Nat.le_of_ble_eq_true rfl) hR.1, Nat.le_trans (Nat.le_of_ble_eq_true rfl) hR.2⟩ rfl hsz ⟨Nat.zero_le _, Nat.zero_le _⟩ (Nat.le_of_ble_eq_true rfl) dX12_send_37 rfl (fun H locs S => ?_)
    refine lv_if_eq (tgt := 52) hx hb dX12_send_40 (by decide) (fun c11 => ?_) (fun c11 => ?_)
    · have h := cnd_t c11 h
      exact wX12_send_52 C hR u7 x1 x2 (lv_sub hl [0, 1, 2] rfl) S h
    · have h := cnd_f c11 h
      refine lv_aload_n hx hb dX12_send_43 rfl (lv_at hl 0 rfl) ?_
      obtain ⟨r20, h19, h⟩ := obr_some h
      refine q_callVi (As := []) (na := 0) C S (oM0 cI cB ad) rfl (ct_X12_messages l D cI cB cL ad u7 h19) mw_31 mw_30 mw_32 mw_5 mw_29 hdX12_messages ⟨Nat.le_trans (Nat.le_of_ble_eq_true rfl) hR.1, Nat.le_trans (Nat.le_of_ble_eq_true rfl) hR.2⟩ rfl hsz ⟨Nat.zero_le _, Nat.zero_le _⟩ (Nat.le_of_ble_eq_true rfl) dX12_send_44 rfl (fun H locs S => ?_)
      refine lv_bipush (v := 20) hx hb dX12_send_47 (by decide) ?_
      refine lv_icmp_ne (tgt := 56) hx hb dX12_send_49 (by decide) (fun c21 => ?_) (fun c21 => ?_)
      · have h := cnd_f c21 h
        refine lv_iconst (v := 0) hx hb dX12_send_56 (by decide) ?_
        exact wX12_send_57 C hR u7 x1 x2 0 (lv_sub hl [0, 1, 2] rfl) S h
      · have h := cnd_t c21 h
        exact wX12_send_52 C hR u7 x1 x2 (lv_sub hl [0, 1, 2] rfl) S h
set_option maxRecDepth 10000 in
set_option maxHeartbeats 4000000 in
theorem wX12_send_22 (C : cx D (tyl cI cB cL) A RX12 cX12_send 3 (some .int) p s m args c meth) (hR : 7 ≤ R.frames ∧ 164 ≤ R.locals) {r : Int32} {σ' : Sg} (u : Sg) (x1 : Int32) (x2 : Int32) {H : Heap} {locs : List Loc} {ls : Array Slot} (hl : lv_has ls 3 [(0, .ref (ad 0)), (1, .int x1), (2, .int x2)]) (S : st D (wM cI cB ad) A s u H locs) (h : fX12_send_22 x1 x2 u = some (r, σ')) : W p l e R s m args below meth c H locs 0 0 (MQ below (qI D (tyl cI cB cL) (wM cI cB ad) A r σ') args s 0 0 A) (F0 m 22 ls [.ref (ad 0)]) := by
  have hx := C.1
  have hb := C.2.1
  have hsz := hl.1
  unfold fX12_send_22 at h
  refine lv_iconst (v := 1) hx hb dX12_send_22 (by decide) ?_
  refine lv_goto (tgt := 27) hx hb dX12_send_23 (by decide) ?_
  exact wX12_send_27 C hR u x1 x2 1 (lv_sub hl [0, 1, 2] rfl) S h
set_option maxRecDepth 10000 in
set_option maxHeartbeats 4000000 in
theorem wX12_send_0 (C : cx D (tyl cI cB cL) A RX12 cX12_send 3 (some .int) p s m args c meth) (hR : 7 ≤ R.frames ∧ 164 ≤ R.locals) {r : Int32} {σ' : Sg} (u : Sg) (x1 : Int32) (x2 : Int32) {H : Heap} {locs : List Loc} {ls : Array Slot} (hl : lv_has ls 3 [(0, .ref (ad 0)), (1, .int x1), (2, .int x2)]) (S : st D (wM cI cB ad) A s u H locs) (h : fX12_send_0 x1 x2 u = some (r, σ')) : W p l e R s m args below meth c H locs 0 0 (MQ below (qI D (tyl cI cB cL) (wM cI cB ad) A r σ') args s 0 0 A) (F0 m 0 ls []) := by
  have hx := C.1
  have hb := C.2.1
  have hsz := hl.1
  unfold fX12_send_0 at h
  refine lv_aload_n hx hb dX12_send_0 rfl (lv_at hl 0 rfl) ?_
  refine lv_iconst (v := 0) hx hb dX12_send_1 (by decide) ?_
  obtain ⟨u1, eu1⟩ : ∃ z : Sg, z = s2 u 0 0 0 := ⟨_, rfl⟩
  have h := bnd_of eu1 h
  refine q_put C S (oM0 cI cB ad) rfl iwX12 tyX12 tyX12_ok nmX12 0 (by decide) mw_11 rfl (iM0_0 cI cB ad) rfl rfl dX12_send_2 eu1 (fun H locs S => ?_)
  refine lv_aload_n hx hb dX12_send_5 rfl (lv_at hl 0 rfl) ?_
  refine lv_aload_n hx hb dX12_send_6 rfl (lv_at hl 0 rfl) ?_
  refine lv_iload_n hx hb dX12_send_7 rfl (lv_at hl 1 rfl) ?_
  obtain ⟨r3, h2, h⟩ := obr_some h
  refine q_callVi (As := [.int x1]) (na := 1) C S (oM0 cI cB ad) rfl (ct_X12_noNode l D cI cB cL ad x1 u1 h2) mw_226 mw_225 mw_227 mw_5 mw_224 hdX12_noNode ⟨Nat.le_trans (Nat.le_of_ble_eq_true rfl) hR.1, Nat.le_trans (Nat.le_of_ble_eq_true rfl) hR.2⟩ rfl hsz ⟨Nat.zero_le _, Nat.zero_le _⟩ (Nat.le_of_ble_eq_true rfl) dX12_send_8 rfl (fun H locs S => ?_)
  refine lv_if_ne (tgt := 22) hx hb dX12_send_11 (by decide) (fun c4 => ?_) (fun c4 => ?_)
  · have h := cnd_f c4 h
    exact wX12_send_22 C hR u1 x1 x2 (lv_sub hl [0, 1, 2] rfl) S h
  · have h := cnd_t c4 h
    refine lv_aload_n hx hb dX12_send_14 rfl (lv_at hl 0 rfl) ?_
    refine lv_iload_n hx hb dX12_send_15 rfl (lv_at hl 2 rfl) ?_
    obtain ⟨r23, h22, h⟩ := obr_some h
    refine q_callVi (As := [.int x2]) (na := 1) C S (oM0 cI cB ad) rfl (ct_X12_noGroup l D cI cB cL ad x2 u1 h22) mw_230 mw_229 mw_231 mw_5 mw_228 hdX12_noGroup ⟨Nat.le_trans (Nat.le_of_ble_eq_true rfl) hR.1, Nat.le_trans (Nat.le_of_ble_eq_true rfl) hR.2⟩ rfl hsz ⟨Nat.zero_le _, Nat.zero_le _⟩ (Nat.le_of_ble_eq_true rfl) dX12_send_16 rfl (fun H locs S => ?_)
    refine lv_if_eq (tgt := 26) hx hb dX12_send_19 (by decide) (fun c24 => ?_) (fun c24 => ?_)
    · have h := cnd_t c24 h
      refine lv_iconst (v := 0) hx hb dX12_send_26 (by decide) ?_
      exact wX12_send_27 C hR u1 x1 x2 0 (lv_sub hl [0, 1, 2] rfl) S h
    · have h := cnd_f c24 h
      exact wX12_send_22 C hR u1 x1 x2 (lv_sub hl [0, 1, 2] rfl) S h
set_option maxRecDepth 10000 in
set_option maxHeartbeats 4000000 in
theorem ct_X12_send (l : Launch) (D : va_G) (cI cB cL : ClassId) (ad : Nat → Nat) (x1 : Int32) (x2 : Int32) (u : Sg) {r : Int32} {σ' : Sg} (h : fX12_send x1 x2 u = some (r, σ')) : metI l D (tyl cI cB cL) yX12_send cX12_send 3 (some .int) 7 164 (wM cI cB ad) [.ref (ad 0), .int x1, .int x2] u r σ' := by
  intro sz
  refine Met.ofW (cc := cX12_send) (maxL := 3) (ret := (some .int)) (by decide) rfl ?_
  intro p e s m args below meth c s₁ B hml hv
  obtain ⟨rfl, C, S⟩ := q_entry B hml hv
  have hl := lv_entry ([.ref (ad 0), .int x1, .int x2]) (n := 3) (Nat.le_of_ble_eq_true rfl)
  rw [lg_entry_eq]
  generalize (lg_sl ([.ref (ad 0), .int x1, .int x2]) ++ List.replicate (3 - (lg_sl ([.ref (ad 0), .int x1, .int x2])).length) Slot.unset).toArray = ls at hl ⊢
  exact wX12_send_0 C ⟨Nat.le_refl _, Nat.le_refl _⟩ u x1 x2 (lv_sub hl [0, 1, 2] rfl) S h
noncomputable def fX12_crash_32 (x1 : Int32) (t0 : Int32) (u : Sg) : Option Sg := obd (fX12_throwsIf t0 2 u) (fun r12 u13 => cnd (r12 = 0) (obr (fX12_isDown x1 u13) (fun u16 => obr (fX12_isTold x1 2 (-1) u16) (fun u18 => some u18))) (some u13))
noncomputable def fX12_crash_0 (x1 : Int32) (u : Sg) : Option Sg := bnd (s2 u 0 0 0) (fun u1 => obr (fX12_noNode x1 u1) (fun r3 => obd (fX12_throwsIf r3 1 u1) (fun r5 u6 => cnd (r5 = 0) (obr (fX12_isUp x1 u6) (fun r9 => cnd (r9 = 0) (fX12_crash_32 x1 1 u6) (fX12_crash_32 x1 0 u6))) (some u6))))
noncomputable def fX12_crash (x1 : Int32) (u : Sg) : Option Sg := fX12_crash_0 x1 u
set_option maxRecDepth 10000 in
set_option maxHeartbeats 4000000 in
theorem wX12_crash_32 (C : cx D (tyl cI cB cL) A RX12 cX12_crash 2 none p s m args c meth) (hR : 3 ≤ R.frames ∧ 64 ≤ R.locals) {σ' : Sg} (u : Sg) (x1 : Int32) (t0 : Int32) {H : Heap} {locs : List Loc} {ls : Array Slot} (hl : lv_has ls 2 [(0, .ref (ad 0)), (1, .int x1)]) (S : st D (wM cI cB ad) A s u H locs) (h : fX12_crash_32 x1 t0 u = some σ') : W p l e R s m args below meth c H locs 0 0 (MQ below (qV D (tyl cI cB cL) (wM cI cB ad) A σ') args s 0 0 A) (F0 m 32 ls [.int t0, .ref (ad 0)]) := by
  have hx := C.1
  have hb := C.2.1
  have hsz := hl.1
  unfold fX12_crash_32 at h
  refine lv_iconst (v := 2) hx hb dX12_crash_32 (by decide) ?_
  obtain ⟨r12, u13, h11, h⟩ := obd_some h
  refine q_callVi (As := [.int t0, .int 2]) (na := 2) C S (oM0 cI cB ad) rfl (ct_X12_throwsIf l D cI cB cL ad t0 2 u h11) mw_210 mw_209 mw_211 mw_5 mw_208 hdX12_throwsIf ⟨Nat.le_trans (Nat.le_of_ble_eq_true rfl) hR.1, Nat.le_trans (Nat.le_of_ble_eq_true rfl) hR.2⟩ rfl hsz ⟨Nat.zero_le _, Nat.zero_le _⟩ (Nat.le_of_ble_eq_true rfl) dX12_crash_33 rfl (fun H locs S => ?_)
  refine lv_if_eq (tgt := 40) hx hb dX12_crash_36 (by decide) (fun c14 => ?_) (fun c14 => ?_)
  · have h := cnd_t c14 h
    refine lv_aload_n hx hb dX12_crash_40 rfl (lv_at hl 0 rfl) ?_
    refine lv_iload_n hx hb dX12_crash_41 rfl (lv_at hl 1 rfl) ?_
    obtain ⟨u16, h15, h⟩ := obr_some h
    refine q_callVv (As := [.int x1]) (na := 1) C S (oM0 cI cB ad) rfl (ct_X12_isDown l D cI cB cL ad x1 u13 h15) mw_186 mw_185 mw_187 mw_5 mw_184 hdX12_isDown ⟨Nat.le_trans (Nat.le_of_ble_eq_true rfl) hR.1, Nat.le_trans (Nat.le_of_ble_eq_true rfl) hR.2⟩ rfl hsz ⟨Nat.zero_le _, Nat.zero_le _⟩ (Nat.le_of_ble_eq_true rfl) dX12_crash_42 rfl (fun H locs S => ?_)
    refine lv_aload_n hx hb dX12_crash_45 rfl (lv_at hl 0 rfl) ?_
    refine lv_iload_n hx hb dX12_crash_46 rfl (lv_at hl 1 rfl) ?_
    refine lv_iconst (v := 2) hx hb dX12_crash_47 (by decide) ?_
    refine lv_iconst (v := (-1)) hx hb dX12_crash_48 (by decide) ?_
    obtain ⟨u18, h17, h⟩ := obr_some h
    refine q_callVv (As := [.int x1, .int 2, .int (-1)]) (na := 3) C S (oM0 cI cB ad) rfl (ct_X12_isTold l D cI cB cL ad x1 2 (-1) u16 h17) mw_114 mw_113 mw_115 mw_5 mw_112 hdX12_isTold ⟨Nat.le_trans (Nat.le_of_ble_eq_true rfl) hR.1, Nat.le_trans (Nat.le_of_ble_eq_true rfl) hR.2⟩ rfl hsz ⟨Nat.zero_le _, Nat.zero_le _⟩ (Nat.le_of_ble_eq_true rfl) dX12_crash_49 rfl (fun H locs S => ?_)
    exact q_vret C S (Option.some.inj h) dX12_crash_52
  · have h := cnd_f c14 h
    exact q_vret C S (Option.some.inj h) dX12_crash_39
set_option maxRecDepth 10000 in
set_option maxHeartbeats 4000000 in
theorem wX12_crash_0 (C : cx D (tyl cI cB cL) A RX12 cX12_crash 2 none p s m args c meth) (hR : 3 ≤ R.frames ∧ 64 ≤ R.locals) {σ' : Sg} (u : Sg) (x1 : Int32) {H : Heap} {locs : List Loc} {ls : Array Slot} (hl : lv_has ls 2 [(0, .ref (ad 0)), (1, .int x1)]) (S : st D (wM cI cB ad) A s u H locs) (h : fX12_crash_0 x1 u = some σ') : W p l e R s m args below meth c H locs 0 0 (MQ below (qV D (tyl cI cB cL) (wM cI cB ad) A σ') args s 0 0 A) (F0 m 0 ls []) := by
  have hx := C.1
  have hb := C.2.1
  have hsz := hl.1
  unfold fX12_crash_0 at h
  refine lv_aload_n hx hb dX12_crash_0 rfl (lv_at hl 0 rfl) ?_
  refine lv_iconst (v := 0) hx hb dX12_crash_1 (by decide) ?_
  obtain ⟨u1, eu1⟩ : ∃ z : Sg, z = s2 u 0 0 0 := ⟨_, rfl⟩
  have h := bnd_of eu1 h
  refine q_put C S (oM0 cI cB ad) rfl iwX12 tyX12 tyX12_ok nmX12 0 (by decide) mw_11 rfl (iM0_0 cI cB ad) rfl rfl dX12_crash_2 eu1 (fun H locs S => ?_)
  refine lv_aload_n hx hb dX12_crash_5 rfl (lv_at hl 0 rfl) ?_
  refine lv_aload_n hx hb dX12_crash_6 rfl (lv_at hl 0 rfl) ?_
  refine lv_iload_n hx hb dX12_crash_7 rfl (lv_at hl 1 rfl) ?_
  obtain ⟨r3, h2, h⟩ := obr_some h
  refine q_callVi (As := [.int x1]) (na := 1) C S (oM0 cI cB ad) rfl (ct_X12_noNode l D cI cB cL ad x1 u1 h2) mw_226 mw_225 mw_227 mw_5 mw_224 hdX12_noNode ⟨Nat.le_trans (Nat.le_of_ble_eq_true rfl) hR.1, Nat.le_trans (Nat.le_of_ble_eq_true rfl) hR.2⟩ rfl hsz ⟨Nat.zero_le _, Nat.zero_le _⟩ (Nat.le_of_ble_eq_true rfl) dX12_crash_8 rfl (fun H locs S => ?_)
  refine lv_iconst (v := 1) hx hb dX12_crash_11 (by decide) ?_
  obtain ⟨r5, u6, h4, h⟩ := obd_some h
  refine q_callVi (As := [.int r3, .int 1]) (na := 2) C S (oM0 cI cB ad) rfl (ct_X12_throwsIf l D cI cB cL ad r3 1 u1 h4) mw_210 mw_209 mw_211 mw_5 mw_208 hdX12_throwsIf ⟨Nat.le_trans (Nat.le_of_ble_eq_true rfl) hR.1, Nat.le_trans (Nat.le_of_ble_eq_true rfl) hR.2⟩ rfl hsz ⟨Nat.zero_le _, Nat.zero_le _⟩ (Nat.le_of_ble_eq_true rfl) dX12_crash_12 rfl (fun H locs S => ?_)
  refine lv_if_ne (tgt := 39) hx hb dX12_crash_15 (by decide) (fun c7 => ?_) (fun c7 => ?_)
  · have h := cnd_f c7 h
    exact q_vret C S (Option.some.inj h) dX12_crash_39
  · have h := cnd_t c7 h
    refine lv_aload_n hx hb dX12_crash_18 rfl (lv_at hl 0 rfl) ?_
    refine lv_aload_n hx hb dX12_crash_19 rfl (lv_at hl 0 rfl) ?_
    refine lv_iload_n hx hb dX12_crash_20 rfl (lv_at hl 1 rfl) ?_
    obtain ⟨r9, h8, h⟩ := obr_some h
    refine q_callVi (As := [.int x1]) (na := 1) C S (oM0 cI cB ad) rfl (ct_X12_isUp l D cI cB cL ad x1 u6 h8) mw_39 mw_38 mw_40 mw_5 mw_37 hdX12_isUp ⟨Nat.le_trans (Nat.le_of_ble_eq_true rfl) hR.1, Nat.le_trans (Nat.le_of_ble_eq_true rfl) hR.2⟩ rfl hsz ⟨Nat.zero_le _, Nat.zero_le _⟩ (Nat.le_of_ble_eq_true rfl) dX12_crash_21 rfl (fun H locs S => ?_)
    refine lv_if_ne (tgt := 31) hx hb dX12_crash_24 (by decide) (fun c10 => ?_) (fun c10 => ?_)
    · have h := cnd_f c10 h
      refine lv_iconst (v := 0) hx hb dX12_crash_31 (by decide) ?_
      exact wX12_crash_32 C hR u6 x1 0 (lv_sub hl [0, 1] rfl) S h
    · have h := cnd_t c10 h
      refine lv_iconst (v := 1) hx hb dX12_crash_27 (by decide) ?_
      refine lv_goto (tgt := 32) hx hb dX12_crash_28 (by decide) ?_
      exact wX12_crash_32 C hR u6 x1 1 (lv_sub hl [0, 1] rfl) S h
set_option maxRecDepth 10000 in
set_option maxHeartbeats 4000000 in
theorem ct_X12_crash (l : Launch) (D : va_G) (cI cB cL : ClassId) (ad : Nat → Nat) (x1 : Int32) (u : Sg) {σ' : Sg} (h : fX12_crash x1 u = some σ') : metV l D (tyl cI cB cL) yX12_crash cX12_crash 2 3 64 (wM cI cB ad) [.ref (ad 0), .int x1] u σ' := by
  intro sz
  refine Met.ofW (cc := cX12_crash) (maxL := 2) (ret := none) (by decide) rfl ?_
  intro p e s m args below meth c s₁ B hml hv
  obtain ⟨rfl, C, S⟩ := q_entry B hml hv
  have hl := lv_entry ([.ref (ad 0), .int x1]) (n := 2) (Nat.le_of_ble_eq_true rfl)
  rw [lg_entry_eq]
  generalize (lg_sl ([.ref (ad 0), .int x1]) ++ List.replicate (2 - (lg_sl ([.ref (ad 0), .int x1])).length) Slot.unset).toArray = ls at hl ⊢
  exact wX12_crash_0 C ⟨Nat.le_refl _, Nat.le_refl _⟩ u x1 (lv_sub hl [0, 1] rfl) S h
noncomputable def fX12_hold_73 (x3 : Int32) (x4 : Int32) (t0 : Int32) (t1 : Int32) (u : Sg) : Option (Int32 × Sg) := grd (vp_in t1 32243) (bnd (s2 u 1 ((t1 : Int32).toNatClampNeg) t0) (fun u14 => cnd (x4 = x3) (some (0, u14)) (some (1, u14))))
noncomputable def fX12_hold_52 (x1 : Int32) (x2 : Int32) (x3 : Int32) (t0 : Int32) (u : Sg) : Option (Int32 × Sg) := cnd (x3 = 0) (fX12_hold_73 x3 t0 0 (fX12_channelAt x1 x2 1) u) (fX12_hold_73 x3 t0 1 (fX12_channelAt x1 x2 1) u)
noncomputable def fX12_hold_27 (x1 : Int32) (x2 : Int32) (x3 : Int32) (t0 : Int32) (u : Sg) : Option (Int32 × Sg) := obd (fX12_throwsIf t0 1 u) (fun r6 u7 => cnd (r6 = 0) (obr (fX12_ofChannel x1 x2 1 u7) (fun r10 => cnd (r10 = 1) (fX12_hold_52 x1 x2 x3 1 u7) (fX12_hold_52 x1 x2 x3 0 u7))) (some (0, u7)))
noncomputable def fX12_hold_22 (x1 : Int32) (x2 : Int32) (x3 : Int32) (u : Sg) : Option (Int32 × Sg) := fX12_hold_27 x1 x2 x3 1 u
noncomputable def fX12_hold_0 (x1 : Int32) (x2 : Int32) (x3 : Int32) (u : Sg) : Option (Int32 × Sg) := bnd (s2 u 0 0 0) (fun u1 => obr (fX12_noNode x1 u1) (fun r3 => cnd (r3 = 0) (obr (fX12_noNode x2 u1) (fun r17 => cnd (r17 = 0) (fX12_hold_27 x1 x2 x3 0 u1) (fX12_hold_22 x1 x2 x3 u1))) (fX12_hold_22 x1 x2 x3 u1)))
noncomputable def fX12_hold (x1 : Int32) (x2 : Int32) (x3 : Int32) (u : Sg) : Option (Int32 × Sg) := fX12_hold_0 x1 x2 x3 u
set_option maxRecDepth 10000 in
set_option maxHeartbeats 4000000 in
theorem wX12_hold_73 (C : cx D (tyl cI cB cL) A RX12 cX12_hold 5 (some .boolean) p s m args c meth) (hR : 2 ≤ R.frames ∧ 45 ≤ R.locals) {r : Int32} {σ' : Sg} (u : Sg) (x3 : Int32) (x4 : Int32) (t0 : Int32) (t1 : Int32) {H : Heap} {locs : List Loc} {ls : Array Slot} (hl : lv_has ls 5 [(3, .int x3), (4, .int x4)]) (S : st D (wM cI cB ad) A s u H locs) (h : fX12_hold_73 x3 x4 t0 t1 u = some (r, σ')) : W p l e R s m args below meth c H locs 0 0 (MQ below (qI D (tyl cI cB cL) (wM cI cB ad) A r σ') args s 0 0 A) (F0 m 73 ls [.int t0, .int t1, .ref (ad 1)]) := by
  have hx := C.1
  have hb := C.2.1
  have hsz := hl.1
  unfold fX12_hold_73 at h
  obtain ⟨g13, h⟩ := grd_some h
  obtain ⟨u14, eu14⟩ : ∃ z : Sg, z = s2 u 1 ((t1 : Int32).toNatClampNeg) t0 := ⟨_, rfl⟩
  have h := bnd_of eu14 h
  refine q_iast C S (aM1 cI cB ad) 0 rfl g13 dX12_hold_73 (j := (t1 : Int32).toNatClampNeg) rfl eu14 (fun H locs S => ?_)
  refine lv_iload hx hb dX12_hold_74 (lv_at hl 1 rfl) ?_
  refine lv_iload_n hx hb dX12_hold_76 rfl (lv_at hl 0 rfl) ?_
  refine lv_icmp_eq (tgt := 84) hx hb dX12_hold_77 (by decide) (fun c15 => ?_) (fun c15 => ?_)
  · have h := cnd_t c15 h
    refine lv_iconst (v := 0) hx hb dX12_hold_84 (by decide) ?_
    exact q_zret C S rfl (rt_S h) dX12_hold_85
  · have h := cnd_f c15 h
    refine lv_iconst (v := 1) hx hb dX12_hold_80 (by decide) ?_
    refine lv_goto (tgt := 85) hx hb dX12_hold_81 (by decide) ?_
    exact q_zret C S rfl (rt_S h) dX12_hold_85
set_option maxRecDepth 10000 in
set_option maxHeartbeats 4000000 in
theorem wX12_hold_52 (C : cx D (tyl cI cB cL) A RX12 cX12_hold 5 (some .boolean) p s m args c meth) (hR : 2 ≤ R.frames ∧ 45 ≤ R.locals) {r : Int32} {σ' : Sg} (u : Sg) (x1 : Int32) (x2 : Int32) (x3 : Int32) (t0 : Int32) {H : Heap} {locs : List Loc} {ls : Array Slot} (hl : lv_has ls 5 [(0, .ref (ad 0)), (1, .int x1), (2, .int x2), (3, .int x3)]) (S : st D (wM cI cB ad) A s u H locs) (h : fX12_hold_52 x1 x2 x3 t0 u = some (r, σ')) : W p l e R s m args below meth c H locs 0 0 (MQ below (qI D (tyl cI cB cL) (wM cI cB ad) A r σ') args s 0 0 A) (F0 m 52 ls [.int t0]) := by
  have hx := C.1
  have hb := C.2.1
  have hsz := hl.1
  unfold fX12_hold_52 at h
  refine lv_istore (lv' := [(4, .int t0), (0, .ref (ad 0)), (1, .int x1), (2, .int x2), (3, .int x3)]) hx hb dX12_hold_52 hl (by decide) rfl (fun ls hl => ?_)
  have hsz := hl.1
  refine lv_aload_n hx hb dX12_hold_54 rfl (lv_at hl 1 rfl) ?_
  refine q_get (v := .ref (ad 1)) C S (oM0 cI cB ad) rfl iwX12 1 (by decide) mw_14 rfl dX12_hold_55 ?_
  refine lv_iload_n hx hb dX12_hold_58 rfl (lv_at hl 2 rfl) ?_
  refine lv_iload_n hx hb dX12_hold_59 rfl (lv_at hl 3 rfl) ?_
  refine lv_iconst (v := 1) hx hb dX12_hold_60 (by decide) ?_
  refine q_callP (As := [.int x1, .int x2, .int 1]) (na := 3) C S (ct_X12_channelAt l D cI cB cL x1 x2 1) mw_10 mw_9 mw_5 mw_8 hdX12_channelAt ⟨Nat.le_trans (Nat.le_of_ble_eq_true rfl) hR.1, Nat.le_trans (Nat.le_of_ble_eq_true rfl) hR.2⟩ rfl hsz ⟨Nat.zero_le _, Nat.zero_le _⟩ (Nat.le_of_ble_eq_true rfl) dX12_hold_61 rfl (fun H locs S => ?_)
  refine lv_iload_n hx hb dX12_hold_64 rfl (lv_at hl 4 rfl) ?_
  refine lv_if_eq (tgt := 72) hx hb dX12_hold_65 (by decide) (fun c12 => ?_) (fun c12 => ?_)
  · have h := cnd_t c12 h
    refine lv_iconst (v := 0) hx hb dX12_hold_72 (by decide) ?_
    exact wX12_hold_73 C hR u x3 t0 0 (fX12_channelAt x1 x2 1) (lv_sub hl [4, 0] rfl) S h
  · have h := cnd_f c12 h
    refine lv_iconst (v := 1) hx hb dX12_hold_68 (by decide) ?_
    refine lv_goto (tgt := 73) hx hb dX12_hold_69 (by decide) ?_
    exact wX12_hold_73 C hR u x3 t0 1 (fX12_channelAt x1 x2 1) (lv_sub hl [4, 0] rfl) S h
set_option maxRecDepth 10000 in
set_option maxHeartbeats 4000000 in
theorem wX12_hold_27 (C : cx D (tyl cI cB cL) A RX12 cX12_hold 5 (some .boolean) p s m args c meth) (hR : 2 ≤ R.frames ∧ 45 ≤ R.locals) {r : Int32} {σ' : Sg} (u : Sg) (x1 : Int32) (x2 : Int32) (x3 : Int32) (t0 : Int32) {H : Heap} {locs : List Loc} {ls : Array Slot} (hl : lv_has ls 5 [(0, .ref (ad 0)), (1, .int x1), (2, .int x2), (3, .int x3)]) (S : st D (wM cI cB ad) A s u H locs) (h : fX12_hold_27 x1 x2 x3 t0 u = some (r, σ')) : W p l e R s m args below meth c H locs 0 0 (MQ below (qI D (tyl cI cB cL) (wM cI cB ad) A r σ') args s 0 0 A) (F0 m 27 ls [.int t0, .ref (ad 0)]) := by
  have hx := C.1
  have hb := C.2.1
  have hsz := hl.1
  unfold fX12_hold_27 at h
  refine lv_iconst (v := 1) hx hb dX12_hold_27 (by decide) ?_
  obtain ⟨r6, u7, h5, h⟩ := obd_some h
  refine q_callVi (As := [.int t0, .int 1]) (na := 2) C S (oM0 cI cB ad) rfl (ct_X12_throwsIf l D cI cB cL ad t0 1 u h5) mw_210 mw_209 mw_211 mw_5 mw_208 hdX12_throwsIf ⟨Nat.le_trans (Nat.le_of_ble_eq_true rfl) hR.1, Nat.le_trans (Nat.le_of_ble_eq_true rfl) hR.2⟩ rfl hsz ⟨Nat.zero_le _, Nat.zero_le _⟩ (Nat.le_of_ble_eq_true rfl) dX12_hold_28 rfl (fun H locs S => ?_)
  refine lv_if_eq (tgt := 36) hx hb dX12_hold_31 (by decide) (fun c8 => ?_) (fun c8 => ?_)
  · have h := cnd_t c8 h
    refine lv_aload_n hx hb dX12_hold_36 rfl (lv_at hl 0 rfl) ?_
    refine lv_iload_n hx hb dX12_hold_37 rfl (lv_at hl 1 rfl) ?_
    refine lv_iload_n hx hb dX12_hold_38 rfl (lv_at hl 2 rfl) ?_
    refine lv_iconst (v := 1) hx hb dX12_hold_39 (by decide) ?_
    obtain ⟨r10, h9, h⟩ := obr_some h
    refine q_callVi (As := [.int x1, .int x2, .int 1]) (na := 3) C S (oM0 cI cB ad) rfl (ct_X12_ofChannel l D cI cB cL ad x1 x2 1 u7 h9) mw_84 mw_83 mw_85 mw_5 mw_82 hdX12_ofChannel ⟨Nat.le_trans (Nat.le_of_ble_eq_true rfl) hR.1, Nat.le_trans (Nat.le_of_ble_eq_true rfl) hR.2⟩ rfl hsz ⟨Nat.zero_le _, Nat.zero_le _⟩ (Nat.le_of_ble_eq_true rfl) dX12_hold_40 rfl (fun H locs S => ?_)
    refine lv_iconst (v := 1) hx hb dX12_hold_43 (by decide) ?_
    refine lv_icmp_ne (tgt := 51) hx hb dX12_hold_44 (by decide) (fun c11 => ?_) (fun c11 => ?_)
    · have h := cnd_f c11 h
      refine lv_iconst (v := 0) hx hb dX12_hold_51 (by decide) ?_
      exact wX12_hold_52 C hR u7 x1 x2 x3 0 (lv_sub hl [0, 1, 2, 3] rfl) S h
    · have h := cnd_t c11 h
      refine lv_iconst (v := 1) hx hb dX12_hold_47 (by decide) ?_
      refine lv_goto (tgt := 52) hx hb dX12_hold_48 (by decide) ?_
      exact wX12_hold_52 C hR u7 x1 x2 x3 1 (lv_sub hl [0, 1, 2, 3] rfl) S h
  · have h := cnd_f c8 h
    refine lv_iconst (v := 0) hx hb dX12_hold_34 (by decide) ?_
    exact q_zret C S rfl (rt_S h) dX12_hold_35
set_option maxRecDepth 10000 in
set_option maxHeartbeats 4000000 in
theorem wX12_hold_22 (C : cx D (tyl cI cB cL) A RX12 cX12_hold 5 (some .boolean) p s m args c meth) (hR : 2 ≤ R.frames ∧ 45 ≤ R.locals) {r : Int32} {σ' : Sg} (u : Sg) (x1 : Int32) (x2 : Int32) (x3 : Int32) {H : Heap} {locs : List Loc} {ls : Array Slot} (hl : lv_has ls 5 [(0, .ref (ad 0)), (1, .int x1), (2, .int x2), (3, .int x3)]) (S : st D (wM cI cB ad) A s u H locs) (h : fX12_hold_22 x1 x2 x3 u = some (r, σ')) : W p l e R s m args below meth c H locs 0 0 (MQ below (qI D (tyl cI cB cL) (wM cI cB ad) A r σ') args s 0 0 A) (F0 m 22 ls [.ref (ad 0)]) := by
  have hx := C.1
  have hb := C.2.1
  have hsz := hl.1
  unfold fX12_hold_22 at h
  refine lv_iconst (v := 1) hx hb dX12_hold_22 (by decide) ?_
  refine lv_goto (tgt := 27) hx hb dX12_hold_23 (by decide) ?_
  exact wX12_hold_27 C hR u x1 x2 x3 1 (lv_sub hl [0, 1, 2, 3] rfl) S h
set_option maxRecDepth 10000 in
set_option maxHeartbeats 4000000 in
theorem wX12_hold_0 (C : cx D (tyl cI cB cL) A RX12 cX12_hold 5 (some .boolean) p s m args c meth) (hR : 2 ≤ R.frames ∧ 45 ≤ R.locals) {r : Int32} {σ' : Sg} (u : Sg) (x1 : Int32) (x2 : Int32) (x3 : Int32) {H : Heap} {locs : List Loc} {ls : Array Slot} (hl : lv_has ls 5 [(0, .ref (ad 0)), (1, .int x1), (2, .int x2), (3, .int x3)]) (S : st D (wM cI cB ad) A s u H locs) (h : fX12_hold_0 x1 x2 x3 u = some (r, σ')) : W p l e R s m args below meth c H locs 0 0 (MQ below (qI D (tyl cI cB cL) (wM cI cB ad) A r σ') args s 0 0 A) (F0 m 0 ls []) := by
  have hx := C.1
  have hb := C.2.1
  have hsz := hl.1
  unfold fX12_hold_0 at h
  refine lv_aload_n hx hb dX12_hold_0 rfl (lv_at hl 0 rfl) ?_
  refine lv_iconst (v := 0) hx hb dX12_hold_1 (by decide) ?_
  obtain ⟨u1, eu1⟩ : ∃ z : Sg, z = s2 u 0 0 0 := ⟨_, rfl⟩
  have h := bnd_of eu1 h
  refine q_put C S (oM0 cI cB ad) rfl iwX12 tyX12 tyX12_ok nmX12 0 (by decide) mw_11 rfl (iM0_0 cI cB ad) rfl rfl dX12_hold_2 eu1 (fun H locs S => ?_)
  refine lv_aload_n hx hb dX12_hold_5 rfl (lv_at hl 0 rfl) ?_
  refine lv_aload_n hx hb dX12_hold_6 rfl (lv_at hl 0 rfl) ?_
  refine lv_iload_n hx hb dX12_hold_7 rfl (lv_at hl 1 rfl) ?_
  obtain ⟨r3, h2, h⟩ := obr_some h
  refine q_callVi (As := [.int x1]) (na := 1) C S (oM0 cI cB ad) rfl (ct_X12_noNode l D cI cB cL ad x1 u1 h2) mw_226 mw_225 mw_227 mw_5 mw_224 hdX12_noNode ⟨Nat.le_trans (Nat.le_of_ble_eq_true rfl) hR.1, Nat.le_trans (Nat.le_of_ble_eq_true rfl) hR.2⟩ rfl hsz ⟨Nat.zero_le _, Nat.zero_le _⟩ (Nat.le_of_ble_eq_true rfl) dX12_hold_8 rfl (fun H locs S => ?_)
  refine lv_if_ne (tgt := 22) hx hb dX12_hold_11 (by decide) (fun c4 => ?_) (fun c4 => ?_)
  · have h := cnd_f c4 h
    exact wX12_hold_22 C hR u1 x1 x2 x3 (lv_sub hl [0, 1, 2, 3] rfl) S h
  · have h := cnd_t c4 h
    refine lv_aload_n hx hb dX12_hold_14 rfl (lv_at hl 0 rfl) ?_
    refine lv_iload_n hx hb dX12_hold_15 rfl (lv_at hl 2 rfl) ?_
    obtain ⟨r17, h16, h⟩ := obr_some h
    refine q_callVi (As := [.int x2]) (na := 1) C S (oM0 cI cB ad) rfl (ct_X12_noNode l D cI cB cL ad x2 u1 h16) mw_226 mw_225 mw_227 mw_5 mw_224 hdX12_noNode ⟨Nat.le_trans (Nat.le_of_ble_eq_true rfl) hR.1, Nat.le_trans (Nat.le_of_ble_eq_true rfl) hR.2⟩ rfl hsz ⟨Nat.zero_le _, Nat.zero_le _⟩ (Nat.le_of_ble_eq_true rfl) dX12_hold_16 rfl (fun H locs S => ?_)
    refine lv_if_eq (tgt := 26) hx hb dX12_hold_19 (by decide) (fun c18 => ?_) (fun c18 => ?_)
    · have h := cnd_t c18 h
      refine lv_iconst (v := 0) hx hb dX12_hold_26 (by decide) ?_
      exact wX12_hold_27 C hR u1 x1 x2 x3 0 (lv_sub hl [0, 1, 2, 3] rfl) S h
    · have h := cnd_f c18 h
      exact wX12_hold_22 C hR u1 x1 x2 x3 (lv_sub hl [0, 1, 2, 3] rfl) S h
set_option maxRecDepth 10000 in
set_option maxHeartbeats 4000000 in
theorem ct_X12_hold (l : Launch) (D : va_G) (cI cB cL : ClassId) (ad : Nat → Nat) (x1 : Int32) (x2 : Int32) (x3 : Int32) (u : Sg) {r : Int32} {σ' : Sg} (h : fX12_hold x1 x2 x3 u = some (r, σ')) : metI l D (tyl cI cB cL) yX12_hold cX12_hold 5 (some .boolean) 2 45 (wM cI cB ad) [.ref (ad 0), .int x1, .int x2, .int x3] u r σ' := by
  intro sz
  refine Met.ofW (cc := cX12_hold) (maxL := 5) (ret := (some .boolean)) (by decide) rfl ?_
  intro p e s m args below meth c s₁ B hml hv
  obtain ⟨rfl, C, S⟩ := q_entry B hml hv
  have hl := lv_entry ([.ref (ad 0), .int x1, .int x2, .int x3]) (n := 5) (Nat.le_of_ble_eq_true rfl)
  rw [lg_entry_eq]
  generalize (lg_sl ([.ref (ad 0), .int x1, .int x2, .int x3]) ++ List.replicate (5 - (lg_sl ([.ref (ad 0), .int x1, .int x2, .int x3])).length) Slot.unset).toArray = ls at hl ⊢
  exact wX12_hold_0 C ⟨Nat.le_refl _, Nat.le_refl _⟩ u x1 x2 x3 (lv_sub hl [0, 1, 2, 3] rfl) S h
noncomputable def fX12_bitsWith_35 (K5 : Int32 → Int32 → Int32 → Int32 → Option Int32) (x1 : Int32) (x2 : Int32) (x4 : Int32) (t0 : Int32) (t1 : Int32) (u : Sg) : Option Int32 := bnd (t1 ||| t0) (fun v7 => bnd (x4 + 1) (fun v8 => K5 x1 x2 v7 v8))
noncomputable def fX12_bitsWith_5 (u : Sg) : Nat → Int32 → Int32 → Int32 → Int32 → Option Int32
  | 0, _, _, _, _ => none
  | n + 1, x1, x2, x3, x4 => obr (fX12_messages u) (fun r2 => cnd (r2 ≤ x4) (some x3) (obr (fX12_ofPair x1 x4 0 u) (fun r5 => cnd (r5 = x2) (fX12_bitsWith_35 (fun a0 a1 a2 a3 => fX12_bitsWith_5 u n a0 a1 a2 a3) x1 x2 x4 ((1 : Int32) <<< ((x4 &&& 31 : Int32))) x3 u) (fX12_bitsWith_35 (fun a0 a1 a2 a3 => fX12_bitsWith_5 u n a0 a1 a2 a3) x1 x2 x4 0 x3 u))))
noncomputable def fX12_bitsWith_0 (x1 : Int32) (x2 : Int32) (u : Sg) : Option Int32 := fX12_bitsWith_5 u FU x1 x2 0 0
noncomputable def fX12_bitsWith (x1 : Int32) (x2 : Int32) (u : Sg) : Option Int32 := fX12_bitsWith_0 x1 x2 u
set_option maxRecDepth 10000 in
set_option maxHeartbeats 4000000 in
theorem wX12_bitsWith_35 (C : cx D (tyl cI cB cL) A RX12 cX12_bitsWith 5 (some .int) p s m args c meth) (hR : 3 ≤ R.frames ∧ 66 ≤ R.locals) {r : Int32} (u : Sg) {K5 : Int32 → Int32 → Int32 → Int32 → Option Int32} (hK5 : ∀ (y1 : Int32) (y2 : Int32) (y3 : Int32) (y4 : Int32) (H : Heap) (locs : List Loc) (ls : Array Slot), lv_has ls 5 [(0, .ref (ad 0)), (1, .int y1), (2, .int y2), (3, .int y3), (4, .int y4)] → st D (wM cI cB ad) A s u H locs → K5 y1 y2 y3 y4 = some r → W p l e R s m args below meth c H locs 0 0 (MQ below (qI D (tyl cI cB cL) (wM cI cB ad) A r u) args s 0 0 A) (F0 m 5 ls [])) (x1 : Int32) (x2 : Int32) (x4 : Int32) (t0 : Int32) (t1 : Int32) {H : Heap} {locs : List Loc} {ls : Array Slot} (hl : lv_has ls 5 [(0, .ref (ad 0)), (1, .int x1), (2, .int x2), (4, .int x4)]) (S : st D (wM cI cB ad) A s u H locs) (h : fX12_bitsWith_35 K5 x1 x2 x4 t0 t1 u = some r) : W p l e R s m args below meth c H locs 0 0 (MQ below (qI D (tyl cI cB cL) (wM cI cB ad) A r u) args s 0 0 A) (F0 m 35 ls [.int t0, .int t1]) := by
  have hx := C.1
  have hb := C.2.1
  have hsz := hl.1
  unfold fX12_bitsWith_35 at h
  refine lv_ior hx hb dX12_bitsWith_35 ?_
  refine lv_topi (fun v7 ev7 => ?_)
  have h := bnd_of ev7 h
  refine lv_istore_n (lv' := [(3, .int v7), (0, .ref (ad 0)), (1, .int x1), (2, .int x2), (4, .int x4)]) hx hb dX12_bitsWith_36 rfl hl (by decide) rfl (fun ls hl => ?_)
  have hsz := hl.1
  obtain ⟨v8, ev8⟩ : ∃ y : Int32, y = x4 + 1 := ⟨_, rfl⟩
  have h := bnd_of ev8 h
  refine lv_iinc (v := v8) (lv' := [(4, .int v8), (3, .int v7), (0, .ref (ad 0)), (1, .int x1), (2, .int x2)]) hx hb dX12_bitsWith_37 hl (k := 4) rfl (by rw [ev8]; rfl) (by decide) rfl (fun ls hl => ?_)
  have hsz := hl.1
  refine lv_goto (tgt := 5) hx hb dX12_bitsWith_40 (by decide) ?_
  exact hK5 x1 x2 v7 v8 H locs ls (lv_sub hl [2, 3, 4, 1, 0] rfl) S h
set_option maxRecDepth 10000 in
set_option maxHeartbeats 4000000 in
theorem wX12_bitsWith_5 (C : cx D (tyl cI cB cL) A RX12 cX12_bitsWith 5 (some .int) p s m args c meth) (hR : 3 ≤ R.frames ∧ 66 ≤ R.locals) {r : Int32} (u : Sg) : ∀ (n : Nat) (x1 : Int32) (x2 : Int32) (x3 : Int32) (x4 : Int32) (H : Heap) (locs : List Loc) (ls : Array Slot), lv_has ls 5 [(0, .ref (ad 0)), (1, .int x1), (2, .int x2), (3, .int x3), (4, .int x4)] → st D (wM cI cB ad) A s u H locs → fX12_bitsWith_5 u n x1 x2 x3 x4 = some r → W p l e R s m args below meth c H locs 0 0 (MQ below (qI D (tyl cI cB cL) (wM cI cB ad) A r u) args s 0 0 A) (F0 m 5 ls []) := by
  have hx := C.1
  have hb := C.2.1
  intro n
  induction n with
  | zero =>
    intro x1 x2 x3 x4 H locs ls hl S h
    cases h
  | succ n ih =>
    intro x1 x2 x3 x4 H locs ls hl S h
    rw [fX12_bitsWith_5] at h
    have hsz := hl.1
    refine lv_iload hx hb dX12_bitsWith_5 (lv_at hl 4 rfl) ?_
    refine lv_aload_n hx hb dX12_bitsWith_7 rfl (lv_at hl 0 rfl) ?_
    obtain ⟨r2, h1, h⟩ := obr_some h
    refine q_callVi (As := []) (na := 0) C S (oM0 cI cB ad) rfl (ct_X12_messages l D cI cB cL ad u h1) mw_31 mw_30 mw_32 mw_5 mw_29 hdX12_messages ⟨Nat.le_trans (Nat.le_of_ble_eq_true rfl) hR.1, Nat.le_trans (Nat.le_of_ble_eq_true rfl) hR.2⟩ rfl hsz ⟨Nat.zero_le _, Nat.zero_le _⟩ (Nat.le_of_ble_eq_true rfl) dX12_bitsWith_8 rfl (fun H locs S => ?_)
    refine lv_icmp_ge (tgt := 43) hx hb dX12_bitsWith_11 (by decide) (fun c3 => ?_) (fun c3 => ?_)
    · have h := cnd_t c3 h
      refine lv_iload_n hx hb dX12_bitsWith_43 rfl (lv_at hl 3 rfl) ?_
      exact q_iret C S (rt_R h) dX12_bitsWith_44
    · have h := cnd_f c3 h
      refine lv_iload_n hx hb dX12_bitsWith_14 rfl (lv_at hl 3 rfl) ?_
      refine lv_aload_n hx hb dX12_bitsWith_15 rfl (lv_at hl 0 rfl) ?_
      refine lv_iload_n hx hb dX12_bitsWith_16 rfl (lv_at hl 1 rfl) ?_
      refine lv_iload hx hb dX12_bitsWith_17 (lv_at hl 4 rfl) ?_
      refine lv_iconst (v := 0) hx hb dX12_bitsWith_19 (by decide) ?_
      obtain ⟨r5, h4, h⟩ := obr_some h
      refine q_callVi (As := [.int x1, .int x4, .int 0]) (na := 3) C S (oM0 cI cB ad) rfl (ct_X12_ofPair l D cI cB cL ad x1 x4 0 u h4) mw_126 mw_125 mw_127 mw_5 mw_124 hdX12_ofPair ⟨Nat.le_trans (Nat.le_of_ble_eq_true rfl) hR.1, Nat.le_trans (Nat.le_of_ble_eq_true rfl) hR.2⟩ rfl hsz ⟨Nat.zero_le _, Nat.zero_le _⟩ (Nat.le_of_ble_eq_true rfl) dX12_bitsWith_20 rfl (fun H locs S => ?_)
      refine lv_iload_n hx hb dX12_bitsWith_23 rfl (lv_at hl 2 rfl) ?_
      refine lv_icmp_ne (tgt := 34) hx hb dX12_bitsWith_24 (by decide) (fun c6 => ?_) (fun c6 => ?_)
      · have h := cnd_f c6 h
        refine lv_iconst (v := 0) hx hb dX12_bitsWith_34 (by decide) ?_
        exact wX12_bitsWith_35 C hR u ih x1 x2 x4 0 x3 (lv_sub hl [0, 1, 2, 4] rfl) S h
      · have h := cnd_t c6 h
        refine lv_iconst (v := 1) hx hb dX12_bitsWith_27 (by decide) ?_
        refine lv_iload hx hb dX12_bitsWith_28 (lv_at hl 4 rfl) ?_
        refine lv_ishl hx hb dX12_bitsWith_30 ?_
        refine lv_goto (tgt := 35) hx hb dX12_bitsWith_31 (by decide) ?_
        exact wX12_bitsWith_35 C hR u ih x1 x2 x4 ((1 : Int32) <<< ((x4 &&& 31 : Int32))) x3 (lv_sub hl [0, 1, 2, 4] rfl) S h
set_option maxRecDepth 10000 in
set_option maxHeartbeats 4000000 in
theorem wX12_bitsWith_0 (C : cx D (tyl cI cB cL) A RX12 cX12_bitsWith 5 (some .int) p s m args c meth) (hR : 3 ≤ R.frames ∧ 66 ≤ R.locals) {r : Int32} (u : Sg) (x1 : Int32) (x2 : Int32) {H : Heap} {locs : List Loc} {ls : Array Slot} (hl : lv_has ls 5 [(0, .ref (ad 0)), (1, .int x1), (2, .int x2)]) (S : st D (wM cI cB ad) A s u H locs) (h : fX12_bitsWith_0 x1 x2 u = some r) : W p l e R s m args below meth c H locs 0 0 (MQ below (qI D (tyl cI cB cL) (wM cI cB ad) A r u) args s 0 0 A) (F0 m 0 ls []) := by
  have hx := C.1
  have hb := C.2.1
  have hsz := hl.1
  unfold fX12_bitsWith_0 at h
  refine lv_iconst (v := 0) hx hb dX12_bitsWith_0 (by decide) ?_
  refine lv_istore_n (lv' := [(3, .int 0), (0, .ref (ad 0)), (1, .int x1), (2, .int x2)]) hx hb dX12_bitsWith_1 rfl hl (by decide) rfl (fun ls hl => ?_)
  have hsz := hl.1
  refine lv_iconst (v := 0) hx hb dX12_bitsWith_2 (by decide) ?_
  refine lv_istore (lv' := [(4, .int 0), (3, .int 0), (0, .ref (ad 0)), (1, .int x1), (2, .int x2)]) hx hb dX12_bitsWith_3 hl (by decide) rfl (fun ls hl => ?_)
  have hsz := hl.1
  exact wX12_bitsWith_5 C hR u FU x1 x2 0 0 H locs ls (lv_sub hl [2, 3, 4, 1, 0] rfl) S h
set_option maxRecDepth 10000 in
set_option maxHeartbeats 4000000 in
theorem ct_X12_bitsWith (l : Launch) (D : va_G) (cI cB cL : ClassId) (ad : Nat → Nat) (x1 : Int32) (x2 : Int32) (u : Sg) {r : Int32} (h : fX12_bitsWith x1 x2 u = some r) : metI l D (tyl cI cB cL) yX12_bitsWith cX12_bitsWith 5 (some .int) 3 66 (wM cI cB ad) [.ref (ad 0), .int x1, .int x2] u r u := by
  intro sz
  refine Met.ofW (cc := cX12_bitsWith) (maxL := 5) (ret := (some .int)) (by decide) rfl ?_
  intro p e s m args below meth c s₁ B hml hv
  obtain ⟨rfl, C, S⟩ := q_entry B hml hv
  have hl := lv_entry ([.ref (ad 0), .int x1, .int x2]) (n := 5) (Nat.le_of_ble_eq_true rfl)
  rw [lg_entry_eq]
  generalize (lg_sl ([.ref (ad 0), .int x1, .int x2]) ++ List.replicate (5 - (lg_sl ([.ref (ad 0), .int x1, .int x2])).length) Slot.unset).toArray = ls at hl ⊢
  exact wX12_bitsWith_0 C ⟨Nat.le_refl _, Nat.le_refl _⟩ u x1 x2 (lv_sub hl [0, 1, 2] rfl) S h
end S_13_m03
