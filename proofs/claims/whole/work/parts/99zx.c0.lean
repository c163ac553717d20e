/-! cases of the law -/
theorem lw_9000 : Cond.methodLink RL 124 yX11_feed ∈ gw := gw_t2 163 rfl rfl
theorem lw_9001 : Cond.instanceMethod yX11_feed ∈ gw := gw_t2 164 rfl rfl
theorem lw_9002 : Cond.selects RX11 yX11_feed yX11_feed ∈ gw := gw_t2 165 rfl rfl
theorem lw_9003 : Cond.code yX11_feed cX11_feed 6 (some .int) ∈ gw := gw_t2 166 rfl rfl
theorem hdX11_feed : yX11_feed.cls = RX11 ∧ yX11_feed.cls ≠ "java/lang/invoke/MethodHandle" ∧ yX11_feed.cls ≠ "java/lang/invoke/VarHandle" ∧ (parseMethodDescriptor yX11_feed.desc).map (fun d => d.parameters.length) = some 5 := by decide +kernel
theorem lw_9004 : Cond.methodLink RL 128 yX12_feed ∈ gw := gw_t6 182 rfl rfl
theorem lw_9005 : Cond.instanceMethod yX12_feed ∈ gw := gw_t6 183 rfl rfl
theorem lw_9006 : Cond.selects RX12 yX12_feed yX12_feed ∈ gw := gw_t6 184 rfl rfl
theorem lw_9007 : Cond.code yX12_feed cX12_feed 7 (some .int) ∈ gw := gw_t6 185 rfl rfl
theorem hdX12_feed : yX12_feed.cls = RX12 ∧ yX12_feed.cls ≠ "java/lang/invoke/MethodHandle" ∧ yX12_feed.cls ≠ "java/lang/invoke/VarHandle" ∧ (parseMethodDescriptor yX12_feed.desc).map (fun d => d.parameters.length) = some 5 := by decide +kernel
theorem lw_9008 : Cond.methodLink RL 129 yX11_end ∈ gw := gw_t2 171 rfl rfl
theorem lw_9009 : Cond.instanceMethod yX11_end ∈ gw := gw_t2 172 rfl rfl
theorem lw_9010 : Cond.selects RX11 yX11_end yX11_end ∈ gw := gw_t2 173 rfl rfl
theorem lw_9011 : Cond.code yX11_end cX11_end 2 (some .boolean) ∈ gw := gw_t2 174 rfl rfl
theorem hdX11_end : yX11_end.cls = RX11 ∧ yX11_end.cls ≠ "java/lang/invoke/MethodHandle" ∧ yX11_end.cls ≠ "java/lang/invoke/VarHandle" ∧ (parseMethodDescriptor yX11_end.desc).map (fun d => d.parameters.length) = some 1 := by decide +kernel
theorem lw_9012 : Cond.methodLink RL 133 yX12_end ∈ gw := gw_t6 186 rfl rfl
theorem lw_9013 : Cond.instanceMethod yX12_end ∈ gw := gw_t6 187 rfl rfl
theorem lw_9014 : Cond.selects RX12 yX12_end yX12_end ∈ gw := gw_t6 188 rfl rfl
theorem lw_9015 : Cond.code yX12_end cX12_end 2 (some .boolean) ∈ gw := gw_t6 189 rfl rfl
theorem hdX12_end : yX12_end.cls = RX12 ∧ yX12_end.cls ≠ "java/lang/invoke/MethodHandle" ∧ yX12_end.cls ≠ "java/lang/invoke/VarHandle" ∧ (parseMethodDescriptor yX12_end.desc).map (fun d => d.parameters.length) = some 1 := by decide +kernel
theorem lw_9016 : Cond.methodLink RL 134 yL_net ∈ gw := gw_t3 67 rfl rfl
theorem lw_9017 : Cond.static yL_net ∈ gw := gw_t3 68 rfl rfl
theorem lw_9018 : Cond.codeWith yL_net cL_net 3 (some .int) [(0, 8, 11, 13), (0, 8, 14, 15)] ∈ gw := gw_t3 69 rfl rfl
theorem hdL_net : yL_net.cls ≠ "java/lang/invoke/MethodHandle" ∧ yL_net.cls ≠ "java/lang/invoke/VarHandle" ∧ (parseMethodDescriptor yL_net.desc).map (fun d => d.parameters.length) = some 2 := by decide +kernel
theorem lw_9019 : Cond.methodLink RL 139 yX12_net ∈ gw := gw_t6 194 rfl rfl
theorem lw_9020 : Cond.instanceMethod yX12_net ∈ gw := gw_t6 195 rfl rfl
theorem lw_9021 : Cond.selects RX12 yX12_net yX12_net ∈ gw := gw_t6 196 rfl rfl
theorem lw_9022 : Cond.code yX12_net cX12_net 3 (some .int) ∈ gw := gw_t6 197 rfl rfl
theorem hdX12_net : yX12_net.cls = RX12 ∧ yX12_net.cls ≠ "java/lang/invoke/MethodHandle" ∧ yX12_net.cls ≠ "java/lang/invoke/VarHandle" ∧ (parseMethodDescriptor yX12_net.desc).map (fun d => d.parameters.length) = some 0 := by decide +kernel
theorem lw_9023 : Cond.methodLink RL 143 yX11_fault ∈ gw := gw_t2 175 rfl rfl
theorem lw_9024 : Cond.instanceMethod yX11_fault ∈ gw := gw_t2 176 rfl rfl
theorem lw_9025 : Cond.selects RX11 yX11_fault yX11_fault ∈ gw := gw_t2 177 rfl rfl
theorem lw_9026 : Cond.code yX11_fault cX11_fault 1 (some .int) ∈ gw := gw_t2 178 rfl rfl
theorem hdX11_fault : yX11_fault.cls = RX11 ∧ yX11_fault.cls ≠ "java/lang/invoke/MethodHandle" ∧ yX11_fault.cls ≠ "java/lang/invoke/VarHandle" ∧ (parseMethodDescriptor yX11_fault.desc).map (fun d => d.parameters.length) = some 0 := by decide +kernel
theorem lw_9027 : Cond.methodLink RL 146 yX12_fault ∈ gw := gw_t6 190 rfl rfl
theorem lw_9028 : Cond.instanceMethod yX12_fault ∈ gw := gw_t6 191 rfl rfl
theorem lw_9029 : Cond.selects RX12 yX12_fault yX12_fault ∈ gw := gw_t6 192 rfl rfl
theorem lw_9030 : Cond.code yX12_fault cX12_fault 1 (some .int) ∈ gw := gw_t6 193 rfl rfl
theorem hdX12_fault : yX12_fault.cls = RX12 ∧ yX12_fault.cls ≠ "java/lang/invoke/MethodHandle" ∧ yX12_fault.cls ≠ "java/lang/invoke/VarHandle" ∧ (parseMethodDescriptor yX12_fault.desc).map (fun d => d.parameters.length) = some 0 := by decide +kernel
theorem lw_9031 : Cond.methodLink RL 147 yL_node ∈ gw := gw_t4 29 rfl rfl
theorem lw_9032 : Cond.static yL_node ∈ gw := gw_t4 30 rfl rfl
theorem lw_9033 : Cond.codeWith yL_node cL_node 5 (some .int) [(0, 10, 13, 21), (0, 10, 17, 23)] ∈ gw := gw_t4 31 rfl rfl
theorem hdL_node : yL_node.cls ≠ "java/lang/invoke/MethodHandle" ∧ yL_node.cls ≠ "java/lang/invoke/VarHandle" ∧ (parseMethodDescriptor yL_node.desc).map (fun d => d.parameters.length) = some 4 := by decide +kernel
theorem lw_9034 : Cond.methodLink RL 150 yX12_node ∈ gw := gw_t7 212 rfl rfl
theorem lw_9035 : Cond.instanceMethod yX12_node ∈ gw := gw_t7 213 rfl rfl
theorem lw_9036 : Cond.selects RX12 yX12_node yX12_node ∈ gw := gw_t7 214 rfl rfl
theorem lw_9037 : Cond.code yX12_node cX12_node 3 (some .int) ∈ gw := gw_t7 215 rfl rfl
theorem hdX12_node : yX12_node.cls = RX12 ∧ yX12_node.cls ≠ "java/lang/invoke/MethodHandle" ∧ yX12_node.cls ≠ "java/lang/invoke/VarHandle" ∧ (parseMethodDescriptor yX12_node.desc).map (fun d => d.parameters.length) = some 2 := by decide +kernel
theorem lw_9038 : Cond.methodLink RL 151 yL_group ∈ gw := gw_t4 90 rfl rfl
theorem lw_9039 : Cond.static yL_group ∈ gw := gw_t4 91 rfl rfl
theorem lw_9040 : Cond.codeWith yL_group cL_group 4 (some .int) [(0, 9, 12, 21)] ∈ gw := gw_t4 92 rfl rfl
theorem hdL_group : yL_group.cls ≠ "java/lang/invoke/MethodHandle" ∧ yL_group.cls ≠ "java/lang/invoke/VarHandle" ∧ (parseMethodDescriptor yL_group.desc).map (fun d => d.parameters.length) = some 3 := by decide +kernel
theorem lw_9041 : Cond.methodLink RL 154 yX12_group ∈ gw := gw_t7 221 rfl rfl
theorem lw_9042 : Cond.instanceMethod yX12_group ∈ gw := gw_t7 222 rfl rfl
theorem lw_9043 : Cond.selects RX12 yX12_group yX12_group ∈ gw := gw_t7 223 rfl rfl
theorem lw_9044 : Cond.code yX12_group cX12_group 2 (some .int) ∈ gw := gw_t7 224 rfl rfl
theorem hdX12_group : yX12_group.cls = RX12 ∧ yX12_group.cls ≠ "java/lang/invoke/MethodHandle" ∧ yX12_group.cls ≠ "java/lang/invoke/VarHandle" ∧ (parseMethodDescriptor yX12_group.desc).map (fun d => d.parameters.length) = some 1 := by decide +kernel
theorem lw_9045 : Cond.methodLink RL 155 yL_message ∈ gw := gw_t4 102 rfl rfl
theorem lw_9046 : Cond.static yL_message ∈ gw := gw_t4 103 rfl rfl
theorem lw_9047 : Cond.codeWith yL_message cL_message 5 (some .int) [(0, 10, 13, 21), (0, 10, 17, 23)] ∈ gw := gw_t4 104 rfl rfl
theorem hdL_message : yL_message.cls ≠ "java/lang/invoke/MethodHandle" ∧ yL_message.cls ≠ "java/lang/invoke/VarHandle" ∧ (parseMethodDescriptor yL_message.desc).map (fun d => d.parameters.length) = some 4 := by decide +kernel
theorem lw_9048 : Cond.methodLink RL 157 yX12_message ∈ gw := gw_t7 225 rfl rfl
theorem lw_9049 : Cond.instanceMethod yX12_message ∈ gw := gw_t7 226 rfl rfl
theorem lw_9050 : Cond.selects RX12 yX12_message yX12_message ∈ gw := gw_t7 227 rfl rfl
theorem lw_9051 : Cond.code yX12_message cX12_message 3 (some .int) ∈ gw := gw_t7 228 rfl rfl
theorem hdX12_message : yX12_message.cls = RX12 ∧ yX12_message.cls ≠ "java/lang/invoke/MethodHandle" ∧ yX12_message.cls ≠ "java/lang/invoke/VarHandle" ∧ (parseMethodDescriptor yX12_message.desc).map (fun d => d.parameters.length) = some 2 := by decide +kernel
theorem dl_220 : decode code 220 = .ok (.aload_n 1, 1) := by decide +kernel
theorem dl_221 : decode code 221 = .ok (.aload_n 0, 1) := by decide +kernel
theorem dl_222 : decode code 222 = .ok (.iload 4, 2) := by decide +kernel
theorem dl_224 : decode code 224 = .ok (.iconst 1, 1) := by decide +kernel
theorem dl_225 : decode code 225 = .ok (.iadd, 1) := by decide +kernel
theorem dl_226 : decode code 226 = .ok (.iaload, 1) := by decide +kernel
theorem dl_227 : decode code 227 = .ok (.aload_n 0, 1) := by decide +kernel
theorem dl_228 : decode code 228 = .ok (.iload 4, 2) := by decide +kernel
theorem dl_230 : decode code 230 = .ok (.iconst 2, 1) := by decide +kernel
theorem dl_231 : decode code 231 = .ok (.iadd, 1) := by decide +kernel
theorem dl_232 : decode code 232 = .ok (.iaload, 1) := by decide +kernel
theorem dl_233 : decode code 233 = .ok (.aload_n 0, 1) := by decide +kernel
theorem dl_234 : decode code 234 = .ok (.iload 4, 2) := by decide +kernel
theorem dl_236 : decode code 236 = .ok (.iconst 3, 1) := by decide +kernel
theorem dl_237 : decode code 237 = .ok (.iadd, 1) := by decide +kernel
theorem dl_238 : decode code 238 = .ok (.iaload, 1) := by decide +kernel
theorem dl_239 : decode code 239 = .ok (.aload_n 0, 1) := by decide +kernel
theorem dl_240 : decode code 240 = .ok (.iload 4, 2) := by decide +kernel
theorem dl_242 : decode code 242 = .ok (.iconst 4, 1) := by decide +kernel
theorem dl_243 : decode code 243 = .ok (.iadd, 1) := by decide +kernel
theorem dl_244 : decode code 244 = .ok (.iaload, 1) := by decide +kernel
theorem dl_245 : decode code 245 = .ok (.aload_n 0, 1) := by decide +kernel
theorem dl_246 : decode code 246 = .ok (.iload 4, 2) := by decide +kernel
theorem dl_248 : decode code 248 = .ok (.iconst 5, 1) := by decide +kernel
theorem dl_249 : decode code 249 = .ok (.iadd, 1) := by decide +kernel
theorem dl_250 : decode code 250 = .ok (.iaload, 1) := by decide +kernel
theorem dl_251 : decode code 251 = .ok (.invokevirtual 124, 3) := by decide +kernel
theorem dl_254 : decode code 254 = .ok (.aload_n 2, 1) := by decide +kernel
theorem dl_255 : decode code 255 = .ok (.aload_n 0, 1) := by decide +kernel
theorem dl_256 : decode code 256 = .ok (.iload 4, 2) := by decide +kernel
theorem dl_258 : decode code 258 = .ok (.iconst 1, 1) := by decide +kernel
theorem dl_259 : decode code 259 = .ok (.iadd, 1) := by decide +kernel
theorem dl_260 : decode code 260 = .ok (.iaload, 1) := by decide +kernel
theorem dl_261 : decode code 261 = .ok (.aload_n 0, 1) := by decide +kernel
theorem dl_262 : decode code 262 = .ok (.iload 4, 2) := by decide +kernel
theorem dl_264 : decode code 264 = .ok (.iconst 2, 1) := by decide +kernel
theorem dl_265 : decode code 265 = .ok (.iadd, 1) := by decide +kernel
theorem dl_266 : decode code 266 = .ok (.iaload, 1) := by decide +kernel
theorem dl_267 : decode code 267 = .ok (.aload_n 0, 1) := by decide +kernel
theorem dl_268 : decode code 268 = .ok (.iload 4, 2) := by decide +kernel
theorem dl_270 : decode code 270 = .ok (.iconst 3, 1) := by decide +kernel
theorem dl_271 : decode code 271 = .ok (.iadd, 1) := by decide +kernel
theorem dl_272 : decode code 272 = .ok (.iaload, 1) := by decide +kernel
theorem dl_273 : decode code 273 = .ok (.aload_n 0, 1) := by decide +kernel
theorem dl_274 : decode code 274 = .ok (.iload 4, 2) := by decide +kernel
theorem dl_276 : decode code 276 = .ok (.iconst 4, 1) := by decide +kernel
theorem dl_277 : decode code 277 = .ok (.iadd, 1) := by decide +kernel
theorem dl_278 : decode code 278 = .ok (.iaload, 1) := by decide +kernel
theorem dl_279 : decode code 279 = .ok (.aload_n 0, 1) := by decide +kernel
theorem dl_280 : decode code 280 = .ok (.iload 4, 2) := by decide +kernel
theorem dl_282 : decode code 282 = .ok (.iconst 5, 1) := by decide +kernel
theorem dl_283 : decode code 283 = .ok (.iadd, 1) := by decide +kernel
theorem dl_284 : decode code 284 = .ok (.iaload, 1) := by decide +kernel
theorem dl_285 : decode code 285 = .ok (.invokevirtual 128, 3) := by decide +kernel
theorem dl_288 : decode code 288 = .ok (.if_icmp .eq 2238, 3) := by decide +kernel
theorem dl_293 : decode code 293 = .ok (.aload_n 1, 1) := by decide +kernel
theorem dl_294 : decode code 294 = .ok (.aload_n 0, 1) := by decide +kernel
theorem dl_295 : decode code 295 = .ok (.iload 4, 2) := by decide +kernel
theorem dl_297 : decode code 297 = .ok (.iconst 1, 1) := by decide +kernel
theorem dl_298 : decode code 298 = .ok (.iadd, 1) := by decide +kernel
theorem dl_299 : decode code 299 = .ok (.iaload, 1) := by decide +kernel
theorem dl_300 : decode code 300 = .ok (.invokevirtual 129, 3) := by decide +kernel
theorem dl_303 : decode code 303 = .ok (.aload_n 2, 1) := by decide +kernel
theorem dl_304 : decode code 304 = .ok (.aload_n 0, 1) := by decide +kernel
theorem dl_305 : decode code 305 = .ok (.iload 4, 2) := by decide +kernel
theorem dl_307 : decode code 307 = .ok (.iconst 1, 1) := by decide +kernel
theorem dl_308 : decode code 308 = .ok (.iadd, 1) := by decide +kernel
theorem dl_309 : decode code 309 = .ok (.iaload, 1) := by decide +kernel
theorem dl_310 : decode code 310 = .ok (.invokevirtual 133, 3) := by decide +kernel
theorem dl_313 : decode code 313 = .ok (.if_icmp .eq 2213, 3) := by decide +kernel
theorem dl_318 : decode code 318 = .ok (.aload_n 1, 1) := by decide +kernel
theorem dl_319 : decode code 319 = .ok (.aload_n 3, 1) := by decide +kernel
theorem dl_320 : decode code 320 = .ok (.invokestatic 134, 3) := by decide +kernel
theorem dl_323 : decode code 323 = .ok (.istore 5, 2) := by decide +kernel
theorem dl_325 : decode code 325 = .ok (.aload_n 2, 1) := by decide +kernel
theorem dl_326 : decode code 326 = .ok (.invokevirtual 139, 3) := by decide +kernel
theorem dl_329 : decode code 329 = .ok (.istore 6, 2) := by decide +kernel
theorem dl_331 : decode code 331 = .ok (.aload_n 2, 1) := by decide +kernel
theorem dl_332 : decode code 332 = .ok (.invokevirtual 140, 3) := by decide +kernel
theorem dl_335 : decode code 335 = .ok (.iload 5, 2) := by decide +kernel
theorem dl_337 : decode code 337 = .ok (.if_icmp .eq 5, 3) := by decide +kernel
theorem dl_342 : decode code 342 = .ok (.iload 5, 2) := by decide +kernel
theorem dl_344 : decode code 344 = .ok (.ifCond .ne 15, 3) := by decide +kernel
theorem dl_347 : decode code 347 = .ok (.aload_n 3, 1) := by decide +kernel
theorem dl_348 : decode code 348 = .ok (.iconst 0, 1) := by decide +kernel
theorem dl_349 : decode code 349 = .ok (.laload, 1) := by decide +kernel
theorem dl_350 : decode code 350 = .ok (.iload 6, 2) := by decide +kernel
theorem dl_352 : decode code 352 = .ok (.i2l, 1) := by decide +kernel
theorem dl_353 : decode code 353 = .ok (.lcmp, 1) := by decide +kernel
theorem dl_354 : decode code 354 = .ok (.ifCond .eq 5, 3) := by decide +kernel
theorem dl_359 : decode code 359 = .ok (.goto 2167, 3) := by decide +kernel
theorem dl_362 : decode code 362 = .ok (.aload_n 1, 1) := by decide +kernel
theorem dl_363 : decode code 363 = .ok (.invokevirtual 143, 3) := by decide +kernel
theorem dl_366 : decode code 366 = .ok (.aload_n 2, 1) := by decide +kernel
theorem dl_367 : decode code 367 = .ok (.invokevirtual 146, 3) := by decide +kernel
theorem dl_370 : decode code 370 = .ok (.if_icmp .eq 2156, 3) := by decide +kernel
theorem dl_375 : decode code 375 = .ok (.aload_n 1, 1) := by decide +kernel
theorem dl_376 : decode code 376 = .ok (.aload_n 0, 1) := by decide +kernel
theorem dl_377 : decode code 377 = .ok (.iload 4, 2) := by decide +kernel
theorem dl_379 : decode code 379 = .ok (.iconst 1, 1) := by decide +kernel
theorem dl_380 : decode code 380 = .ok (.iadd, 1) := by decide +kernel
theorem dl_381 : decode code 381 = .ok (.iaload, 1) := by decide +kernel
theorem dl_382 : decode code 382 = .ok (.aload_n 0, 1) := by decide +kernel
theorem dl_383 : decode code 383 = .ok (.iload 4, 2) := by decide +kernel
theorem dl_385 : decode code 385 = .ok (.iconst 2, 1) := by decide +kernel
theorem dl_386 : decode code 386 = .ok (.iadd, 1) := by decide +kernel
theorem dl_387 : decode code 387 = .ok (.iaload, 1) := by decide +kernel
theorem dl_388 : decode code 388 = .ok (.aload_n 3, 1) := by decide +kernel
theorem dl_389 : decode code 389 = .ok (.invokestatic 147, 3) := by decide +kernel
theorem dl_392 : decode code 392 = .ok (.istore 5, 2) := by decide +kernel
theorem dl_394 : decode code 394 = .ok (.aload_n 2, 1) := by decide +kernel
theorem dl_395 : decode code 395 = .ok (.aload_n 0, 1) := by decide +kernel
theorem dl_396 : decode code 396 = .ok (.iload 4, 2) := by decide +kernel
theorem dl_398 : decode code 398 = .ok (.iconst 1, 1) := by decide +kernel
theorem dl_399 : decode code 399 = .ok (.iadd, 1) := by decide +kernel
theorem dl_400 : decode code 400 = .ok (.iaload, 1) := by decide +kernel
theorem dl_401 : decode code 401 = .ok (.aload_n 0, 1) := by decide +kernel
theorem dl_402 : decode code 402 = .ok (.iload 4, 2) := by decide +kernel
theorem dl_404 : decode code 404 = .ok (.iconst 2, 1) := by decide +kernel
theorem dl_405 : decode code 405 = .ok (.iadd, 1) := by decide +kernel
theorem dl_406 : decode code 406 = .ok (.iaload, 1) := by decide +kernel
theorem dl_407 : decode code 407 = .ok (.invokevirtual 150, 3) := by decide +kernel
theorem dl_410 : decode code 410 = .ok (.istore 6, 2) := by decide +kernel
theorem dl_412 : decode code 412 = .ok (.aload_n 2, 1) := by decide +kernel
theorem dl_413 : decode code 413 = .ok (.invokevirtual 140, 3) := by decide +kernel
theorem dl_416 : decode code 416 = .ok (.iload 5, 2) := by decide +kernel
theorem dl_418 : decode code 418 = .ok (.if_icmp .eq 5, 3) := by decide +kernel
theorem dl_423 : decode code 423 = .ok (.iload 5, 2) := by decide +kernel
theorem dl_425 : decode code 425 = .ok (.ifCond .ne 15, 3) := by decide +kernel
theorem dl_428 : decode code 428 = .ok (.aload_n 3, 1) := by decide +kernel
theorem dl_429 : decode code 429 = .ok (.iconst 0, 1) := by decide +kernel
theorem dl_430 : decode code 430 = .ok (.laload, 1) := by decide +kernel
theorem dl_431 : decode code 431 = .ok (.iload 6, 2) := by decide +kernel
theorem dl_433 : decode code 433 = .ok (.i2l, 1) := by decide +kernel
theorem dl_434 : decode code 434 = .ok (.lcmp, 1) := by decide +kernel
theorem dl_435 : decode code 435 = .ok (.ifCond .eq 5, 3) := by decide +kernel
theorem dl_440 : decode code 440 = .ok (.goto 2086, 3) := by decide +kernel
theorem dl_443 : decode code 443 = .ok (.aload_n 1, 1) := by decide +kernel
theorem dl_444 : decode code 444 = .ok (.aload_n 0, 1) := by decide +kernel
theorem dl_445 : decode code 445 = .ok (.iload 4, 2) := by decide +kernel
theorem dl_447 : decode code 447 = .ok (.iconst 1, 1) := by decide +kernel
theorem dl_448 : decode code 448 = .ok (.iadd, 1) := by decide +kernel
theorem dl_449 : decode code 449 = .ok (.iaload, 1) := by decide +kernel
theorem dl_450 : decode code 450 = .ok (.aload_n 3, 1) := by decide +kernel
theorem dl_451 : decode code 451 = .ok (.invokestatic 151, 3) := by decide +kernel
theorem dl_454 : decode code 454 = .ok (.istore 5, 2) := by decide +kernel
theorem dl_456 : decode code 456 = .ok (.aload_n 2, 1) := by decide +kernel
theorem dl_457 : decode code 457 = .ok (.aload_n 0, 1) := by decide +kernel
theorem dl_458 : decode code 458 = .ok (.iload 4, 2) := by decide +kernel
theorem dl_460 : decode code 460 = .ok (.iconst 1, 1) := by decide +kernel
theorem dl_461 : decode code 461 = .ok (.iadd, 1) := by decide +kernel
theorem dl_462 : decode code 462 = .ok (.iaload, 1) := by decide +kernel
theorem dl_463 : decode code 463 = .ok (.invokevirtual 154, 3) := by decide +kernel
theorem dl_466 : decode code 466 = .ok (.istore 6, 2) := by decide +kernel
theorem dl_468 : decode code 468 = .ok (.aload_n 2, 1) := by decide +kernel
theorem dl_469 : decode code 469 = .ok (.invokevirtual 140, 3) := by decide +kernel
theorem dl_472 : decode code 472 = .ok (.iload 5, 2) := by decide +kernel
theorem dl_474 : decode code 474 = .ok (.if_icmp .eq 5, 3) := by decide +kernel
theorem dl_479 : decode code 479 = .ok (.iload 5, 2) := by decide +kernel
theorem dl_481 : decode code 481 = .ok (.ifCond .ne 15, 3) := by decide +kernel
theorem dl_484 : decode code 484 = .ok (.aload_n 3, 1) := by decide +kernel
theorem dl_485 : decode code 485 = .ok (.iconst 0, 1) := by decide +kernel
theorem dl_486 : decode code 486 = .ok (.laload, 1) := by decide +kernel
theorem dl_487 : decode code 487 = .ok (.iload 6, 2) := by decide +kernel
theorem dl_489 : decode code 489 = .ok (.i2l, 1) := by decide +kernel
theorem dl_490 : decode code 490 = .ok (.lcmp, 1) := by decide +kernel
theorem dl_491 : decode code 491 = .ok (.ifCond .eq 5, 3) := by decide +kernel
theorem dl_496 : decode code 496 = .ok (.goto 2030, 3) := by decide +kernel
theorem dl_499 : decode code 499 = .ok (.aload_n 1, 1) := by decide +kernel
theorem dl_500 : decode code 500 = .ok (.aload_n 0, 1) := by decide +kernel
theorem dl_501 : decode code 501 = .ok (.iload 4, 2) := by decide +kernel
theorem dl_503 : decode code 503 = .ok (.iconst 1, 1) := by decide +kernel
theorem dl_504 : decode code 504 = .ok (.iadd, 1) := by decide +kernel
theorem dl_505 : decode code 505 = .ok (.iaload, 1) := by decide +kernel
theorem dl_506 : decode code 506 = .ok (.aload_n 0, 1) := by decide +kernel
theorem dl_507 : decode code 507 = .ok (.iload 4, 2) := by decide +kernel
theorem dl_509 : decode code 509 = .ok (.iconst 2, 1) := by decide +kernel
theorem dl_510 : decode code 510 = .ok (.iadd, 1) := by decide +kernel
theorem dl_511 : decode code 511 = .ok (.iaload, 1) := by decide +kernel
theorem dl_512 : decode code 512 = .ok (.aload_n 3, 1) := by decide +kernel
theorem dl_513 : decode code 513 = .ok (.invokestatic 155, 3) := by decide +kernel
theorem dl_516 : decode code 516 = .ok (.istore 5, 2) := by decide +kernel
theorem dl_518 : decode code 518 = .ok (.aload_n 2, 1) := by decide +kernel
theorem dl_519 : decode code 519 = .ok (.aload_n 0, 1) := by decide +kernel
theorem dl_520 : decode code 520 = .ok (.iload 4, 2) := by decide +kernel
theorem dl_522 : decode code 522 = .ok (.iconst 1, 1) := by decide +kernel
theorem dl_523 : decode code 523 = .ok (.iadd, 1) := by decide +kernel
theorem dl_524 : decode code 524 = .ok (.iaload, 1) := by decide +kernel
theorem dl_525 : decode code 525 = .ok (.aload_n 0, 1) := by decide +kernel
theorem dl_526 : decode code 526 = .ok (.iload 4, 2) := by decide +kernel
theorem dl_528 : decode code 528 = .ok (.iconst 2, 1) := by decide +kernel
theorem dl_529 : decode code 529 = .ok (.iadd, 1) := by decide +kernel
theorem dl_530 : decode code 530 = .ok (.iaload, 1) := by decide +kernel
theorem dl_531 : decode code 531 = .ok (.invokevirtual 157, 3) := by decide +kernel
theorem dl_534 : decode code 534 = .ok (.istore 6, 2) := by decide +kernel
theorem dl_536 : decode code 536 = .ok (.aload_n 2, 1) := by decide +kernel
theorem dl_537 : decode code 537 = .ok (.invokevirtual 140, 3) := by decide +kernel
theorem dl_540 : decode code 540 = .ok (.iload 5, 2) := by decide +kernel
theorem dl_542 : decode code 542 = .ok (.if_icmp .eq 5, 3) := by decide +kernel
theorem dl_547 : decode code 547 = .ok (.iload 5, 2) := by decide +kernel
theorem dl_549 : decode code 549 = .ok (.ifCond .ne 15, 3) := by decide +kernel
theorem dl_552 : decode code 552 = .ok (.aload_n 3, 1) := by decide +kernel
theorem dl_553 : decode code 553 = .ok (.iconst 0, 1) := by decide +kernel
theorem dl_554 : decode code 554 = .ok (.laload, 1) := by decide +kernel
theorem dl_555 : decode code 555 = .ok (.iload 6, 2) := by decide +kernel
theorem dl_557 : decode code 557 = .ok (.i2l, 1) := by decide +kernel
theorem dl_558 : decode code 558 = .ok (.lcmp, 1) := by decide +kernel
theorem dl_559 : decode code 559 = .ok (.ifCond .eq 5, 3) := by decide +kernel
theorem dl_564 : decode code 564 = .ok (.goto 1962, 3) := by decide +kernel
section LX
variable {p : Program} {l : Launch} {e : Env} {s : State} {m : MethodId} {below : List Frame} {meth : Method} {c0 : Code} {D : va_G} {cI cB cL : ClassId} {ka kv : Nat → Nat} {fv : Value} {b L x o i c : Nat} {xs : Nat → Int32} {am : Nat → Nat}
theorem lc_feed (LC : lawC l D cI cB cL ka kv fv p s m c0 meth b L xs) (hi : i + 5 < L) (hc : c < 512) (KE : lawAt l D cI cB cL p e s m below meth c0 b x o am i 2526 (c + 1)) : lawAt l D cI cB cL p e s m below meth c0 b x o am i 220 c := by
  intro lay t μ f H locs ls hxx hI S hl
  subst hxx
  have LC' := LC
  obtain ⟨C, Kx, Np, hX, hbl, hst, hL⟩ := LC
  have hx := C.1
  have hb := C.2.1
  have hbA : ¬ (fun q => s.heap.size ≤ q) b := Nat.not_le.mpr hbl
  obtain ⟨r, μ', hm, mc, ms, g, g1, g2, g3, hop⟩ := op_feed (l := l) (D := D) (cI := cI) (cB := cB) (cL := cL) (ka := ka) (kv := kv) (fv := fv) hst hI (xs (i + 1)) (xs (i + 2)) (xs (i + 3)) (xs (i + 4)) (xs (i + 5))
  have hM := hop lay
  refine lv_aload_n hx hb dl_220 rfl (lv_at hl 1 rfl) ?_
  refine g_arg (j := 1) hx hb hX hbl hbA S.2.2 hL (by omega) (lv_at hl 0 rfl) (lv_at hl 4 rfl) rfl dl_221 dl_222 dl_224 dl_225 dl_226 ?_
  refine g_arg (j := 2) hx hb hX hbl hbA S.2.2 hL (by omega) (lv_at hl 0 rfl) (lv_at hl 4 rfl) rfl dl_227 dl_228 dl_230 dl_231 dl_232 ?_
  refine g_arg (j := 3) hx hb hX hbl hbA S.2.2 hL (by omega) (lv_at hl 0 rfl) (lv_at hl 4 rfl) rfl dl_233 dl_234 dl_236 dl_237 dl_238 ?_
  refine g_arg (j := 4) hx hb hX hbl hbA S.2.2 hL (by omega) (lv_at hl 0 rfl) (lv_at hl 4 rfl) rfl dl_239 dl_240 dl_242 dl_243 dl_244 ?_
  refine g_arg (j := 5) hx hb hX hbl hbA S.2.2 hL (by omega) (lv_at hl 0 rfl) (lv_at hl 4 rfl) rfl dl_245 dl_246 dl_248 dl_249 dl_250 ?_
  refine g_callVi (As := [.int (xs (i + 1)), .int (xs (i + 2)), .int (xs (i + 3)), .int (xs (i + 4)), .int (xs (i + 5))]) (na := 5) C Kx (g_assoc S) (lpX_obj cI cB lay t) rfl hM lw_9000 lw_9001 lw_9002 mw_321 lw_9003 hdX11_feed ⟨Nat.le_of_ble_eq_true rfl, Nat.le_of_ble_eq_true rfl⟩ rfl hl.1 ⟨(by show _ ≤ 601024; omega), (by show _ ≤ 7293034; omega)⟩ (Nat.le_of_ble_eq_true rfl) dl_251 rfl (fun E X' ce q9 H locs hRX _ _ _ _ => absurd hRX.1 List.not_mem_nil) (fun r1 X' H locs hRI S => ?_)
  obtain ⟨rfl, hth, lay', t', rfl, h36, ht, hI'⟩ := hRI
  refine W.widen (k := 1000 + 4 * (c + 1) + tot t') (n := 150000 + 24 * (c + 1) + 2 * tot t') (by omega) (by omega) ?_
  have S := g_comm (g_assoc' S)
  refine lv_aload_n hx hb dl_254 rfl (lv_at hl 2 rfl) ?_
  refine g_arg (j := 1) hx hb hX hbl hbA S.2.2 hL (by omega) (lv_at hl 0 rfl) (lv_at hl 4 rfl) rfl dl_255 dl_256 dl_258 dl_259 dl_260 ?_
  refine g_arg (j := 2) hx hb hX hbl hbA S.2.2 hL (by omega) (lv_at hl 0 rfl) (lv_at hl 4 rfl) rfl dl_261 dl_262 dl_264 dl_265 dl_266 ?_
  refine g_arg (j := 3) hx hb hX hbl hbA S.2.2 hL (by omega) (lv_at hl 0 rfl) (lv_at hl 4 rfl) rfl dl_267 dl_268 dl_270 dl_271 dl_272 ?_
  refine g_arg (j := 4) hx hb hX hbl hbA S.2.2 hL (by omega) (lv_at hl 0 rfl) (lv_at hl 4 rfl) rfl dl_273 dl_274 dl_276 dl_277 dl_278 ?_
  refine g_arg (j := 5) hx hb hX hbl hbA S.2.2 hL (by omega) (lv_at hl 0 rfl) (lv_at hl 4 rfl) rfl dl_279 dl_280 dl_282 dl_283 dl_284 ?_
  refine h_callVi (As := [.int (xs (i + 1)), .int (xs (i + 2)), .int (xs (i + 3)), .int (xs (i + 4)), .int (xs (i + 5))]) (na := 5) C Kx S (wM_obj cI cB am μ) rfl ((ct_X12_feed l D cI cB cL am (xs (i + 1)) (xs (i + 2)) (xs (i + 3)) (xs (i + 4)) (xs (i + 5)) μ hm).toH) lw_9004 lw_9005 lw_9006 mw_5 lw_9007 hdX12_feed ⟨Nat.le_of_ble_eq_true rfl, Nat.le_of_ble_eq_true rfl⟩ rfl hl.1 ⟨(by show _ ≤ 601024; omega), (by show _ ≤ 7293034; omega)⟩ (Nat.le_of_ble_eq_true rfl) dl_285 rfl (fun r2 X' H locs hRI S => ?_)
  obtain ⟨rfl, rfl⟩ := hRI
  have S := g_comm S
  refine lv_icmp_eq (tgt := 2526) hx hb dl_288 (by decide) (fun _ => ?_) (fun h => absurd rfl h)
  exact KE lay' t' μ' f H locs ls h36 hI' S hl
theorem lc_end (LC : lawC l D cI cB cL ka kv fv p s m c0 meth b L xs) (hi : i + 5 < L) (hc : c < 512) (KE : lawAt l D cI cB cL p e s m below meth c0 b x o am i 2526 (c + 1)) : lawAt l D cI cB cL p e s m below meth c0 b x o am i 293 c := by
  intro lay t μ f H locs ls hxx hI S hl
  subst hxx
  have LC' := LC
  obtain ⟨C, Kx, Np, hX, hbl, hst, hL⟩ := LC
  have hx := C.1
  have hb := C.2.1
  have hbA : ¬ (fun q => s.heap.size ≤ q) b := Nat.not_le.mpr hbl
  obtain ⟨r, μ', hm, mc, ms, g, g1, g2, g3, hop⟩ := op_end (l := l) (D := D) (cI := cI) (cB := cB) (cL := cL) (ka := ka) (kv := kv) (fv := fv) hst hI (xs (i + 1))
  have hM := hop lay
  refine lv_aload_n hx hb dl_293 rfl (lv_at hl 1 rfl) ?_
  refine g_arg (j := 1) hx hb hX hbl hbA S.2.2 hL (by omega) (lv_at hl 0 rfl) (lv_at hl 4 rfl) rfl dl_294 dl_295 dl_297 dl_298 dl_299 ?_
  refine g_callVi (As := [.int (xs (i + 1))]) (na := 1) C Kx (g_assoc S) (lpX_obj cI cB lay t) rfl hM lw_9008 lw_9009 lw_9010 mw_321 lw_9011 hdX11_end ⟨Nat.le_of_ble_eq_true rfl, Nat.le_of_ble_eq_true rfl⟩ rfl hl.1 ⟨(by show _ ≤ 601024; omega), (by show _ ≤ 7293034; omega)⟩ (Nat.le_of_ble_eq_true rfl) dl_300 rfl (fun E X' ce q9 H locs hRX _ _ _ _ => absurd hRX.1 List.not_mem_nil) (fun r1 X' H locs hRI S => ?_)
  obtain ⟨rfl, hth, lay', t', rfl, h36, ht, hI'⟩ := hRI
  refine W.widen (k := 1000 + 4 * (c + 1) + tot t') (n := 150000 + 24 * (c + 1) + 2 * tot t') (by omega) (by omega) ?_
  have S := g_comm (g_assoc' S)
  refine lv_aload_n hx hb dl_303 rfl (lv_at hl 2 rfl) ?_
  refine g_arg (j := 1) hx hb hX hbl hbA S.2.2 hL (by omega) (lv_at hl 0 rfl) (lv_at hl 4 rfl) rfl dl_304 dl_305 dl_307 dl_308 dl_309 ?_
  refine h_callVi (As := [.int (xs (i + 1))]) (na := 1) C Kx S (wM_obj cI cB am μ) rfl ((ct_X12_end l D cI cB cL am (xs (i + 1)) μ hm).toH) lw_9012 lw_9013 lw_9014 mw_5 lw_9015 hdX12_end ⟨Nat.le_of_ble_eq_true rfl, Nat.le_of_ble_eq_true rfl⟩ rfl hl.1 ⟨(by show _ ≤ 601024; omega), (by show _ ≤ 7293034; omega)⟩ (Nat.le_of_ble_eq_true rfl) dl_310 rfl (fun r2 X' H locs hRI S => ?_)
  obtain ⟨rfl, rfl⟩ := hRI
  have S := g_comm S
  refine lv_icmp_eq (tgt := 2526) hx hb dl_313 (by decide) (fun _ => ?_) (fun h => absurd rfl h)
  exact KE lay' t' μ' f H locs ls h36 hI' S hl
theorem lc_net (LC : lawC l D cI cB cL ka kv fv p s m c0 meth b L xs) (hi : i + 5 < L) (hc : c < 512) (KE : lawAt l D cI cB cL p e s m below meth c0 b x o am i 2526 (c + 1)) : lawAt l D cI cB cL p e s m below meth c0 b x o am i 318 c := by
  intro lay t μ f H locs ls hxx hI S hl
  subst hxx
  have LC' := LC
  obtain ⟨C, Kx, Np, hX, hbl, hst, hL⟩ := LC
  have hx := C.1
  have hb := C.2.1
  have hbA : ¬ (fun q => s.heap.size ≤ q) b := Nat.not_le.mpr hbl
  obtain ⟨r, μ', hm, mc, ms, g, g1, g2, g3, hop⟩ := op_net (l := l) (D := D) (cI := cI) (cB := cB) (cL := cL) (ka := ka) (kv := kv) (fv := fv) hst hI
  have hM := hop lay
  refine lv_aload_n hx hb dl_318 rfl (lv_at hl 1 rfl) ?_
  refine lv_aload_n hx hb dl_319 rfl (lv_at hl 3 rfl) ?_
  refine h_callSW (As := [.ref (lay.1 36), .ref o]) (na := 2) C Kx Np S (wl_net l D cI cB cL ka kv fv (lay.1 36) o f (lpX_obj cI cB lay t) hM (fun E X' h => by have h := h.1; simpa using h)) lw_9016 lw_9017 lth_6 lw_9018 hdL_net ⟨Nat.le_of_ble_eq_true rfl, Nat.le_of_ble_eq_true rfl⟩ rfl hl.1 ⟨(by show _ ≤ 601024; omega), (by show _ ≤ 7293034; omega)⟩ (Nat.le_of_ble_eq_true rfl) dl_320 rfl (fun k X' H locs hRW S => ?_)
  obtain ⟨lay', t', g', rfl, h36, ht, hI', hth, hg⟩ := rW_key hRW kcN
  refine W.widen (k := 1000 + 4 * (c + 1) + tot t') (n := 150000 + 24 * (c + 1) + 2 * tot t') (by omega) (by omega) ?_
  have S := g_comm S
  refine lv_istore (lv' := [(5, .int k), (0, .ref b), (1, .ref (lay.1 36)), (2, .ref (am 0)), (3, .ref o), (4, .int (nI i))]) hx hb dl_323 hl (by decide) rfl (fun ls hl => ?_)
  refine lv_aload_n hx hb dl_325 rfl (lv_at hl 3 rfl) ?_
  refine h_callVi (As := []) (na := 0) C Kx S (wM_obj cI cB am μ) rfl ((ct_X12_net l D cI cB cL ka kv fv am μ hm).toH) lw_9019 lw_9020 lw_9021 mw_5 lw_9022 hdX12_net ⟨Nat.le_of_ble_eq_true rfl, Nat.le_of_ble_eq_true rfl⟩ rfl hl.1 ⟨(by show _ ≤ 601024; omega), (by show _ ≤ 7293034; omega)⟩ (Nat.le_of_ble_eq_true rfl) dl_326 rfl (fun r2 X' H locs hRI S => ?_)
  obtain ⟨rfl, rfl⟩ := hRI
  exact law_tail LC' hc KE h36 hI' hth hg hl S dl_329 dl_331 dl_332 dl_335 dl_337 dl_342 dl_344 dl_347 dl_348 dl_349 dl_350 dl_352 dl_353 dl_354 dl_359 (by decide)
theorem lc_fault (LC : lawC l D cI cB cL ka kv fv p s m c0 meth b L xs) (hi : i + 5 < L) (hc : c < 512) (KE : lawAt l D cI cB cL p e s m below meth c0 b x o am i 2526 (c + 1)) : lawAt l D cI cB cL p e s m below meth c0 b x o am i 362 c := by
  intro lay t μ f H locs ls hxx hI S hl
  subst hxx
  have LC' := LC
  obtain ⟨C, Kx, Np, hX, hbl, hst, hL⟩ := LC
  have hx := C.1
  have hb := C.2.1
  have hbA : ¬ (fun q => s.heap.size ≤ q) b := Nat.not_le.mpr hbl
  obtain ⟨r, μ', hm, mc, ms, g, g1, g2, g3, hop⟩ := op_fault (l := l) (D := D) (cI := cI) (cB := cB) (cL := cL) (ka := ka) (kv := kv) (fv := fv) hst hI
  have hM := hop lay
  refine lv_aload_n hx hb dl_362 rfl (lv_at hl 1 rfl) ?_
  refine g_callVi (As := []) (na := 0) C Kx (g_assoc S) (lpX_obj cI cB lay t) rfl hM lw_9023 lw_9024 lw_9025 mw_321 lw_9026 hdX11_fault ⟨Nat.le_of_ble_eq_true rfl, Nat.le_of_ble_eq_true rfl⟩ rfl hl.1 ⟨(by show _ ≤ 601024; omega), (by show _ ≤ 7293034; omega)⟩ (Nat.le_of_ble_eq_true rfl) dl_363 rfl (fun E X' ce q9 H locs hRX _ _ _ _ => absurd hRX.1 List.not_mem_nil) (fun r1 X' H locs hRI S => ?_)
  obtain ⟨rfl, hth, lay', t', rfl, h36, ht, hI'⟩ := hRI
  refine W.widen (k := 1000 + 4 * (c + 1) + tot t') (n := 150000 + 24 * (c + 1) + 2 * tot t') (by omega) (by omega) ?_
  have S := g_comm (g_assoc' S)
  refine lv_aload_n hx hb dl_366 rfl (lv_at hl 2 rfl) ?_
  refine h_callVi (As := []) (na := 0) C Kx S (wM_obj cI cB am μ) rfl ((ct_X12_fault l D cI cB cL am μ hm).toH) lw_9027 lw_9028 lw_9029 mw_5 lw_9030 hdX12_fault ⟨Nat.le_of_ble_eq_true rfl, Nat.le_of_ble_eq_true rfl⟩ rfl hl.1 ⟨(by show _ ≤ 601024; omega), (by show _ ≤ 7293034; omega)⟩ (Nat.le_of_ble_eq_true rfl) dl_367 rfl (fun r2 X' H locs hRI S => ?_)
  obtain ⟨rfl, rfl⟩ := hRI
  have S := g_comm S
  refine lv_icmp_eq (tgt := 2526) hx hb dl_370 (by decide) (fun _ => ?_) (fun h => absurd rfl h)
  exact KE lay' t' μ' f H locs ls h36 hI' S hl
theorem lc_node (LC : lawC l D cI cB cL ka kv fv p s m c0 meth b L xs) (hi : i + 5 < L) (hc : c < 512) (KE : lawAt l D cI cB cL p e s m below meth c0 b x o am i 2526 (c + 1)) : lawAt l D cI cB cL p e s m below meth c0 b x o am i 375 c := by
  intro lay t μ f H locs ls hxx hI S hl
  subst hxx
  have LC' := LC
  obtain ⟨C, Kx, Np, hX, hbl, hst, hL⟩ := LC
  have hx := C.1
  have hb := C.2.1
  have hbA : ¬ (fun q => s.heap.size ≤ q) b := Nat.not_le.mpr hbl
  obtain ⟨r, μ', hm, mc, ms, g, g1, g2, g3, hop⟩ := op_node (l := l) (D := D) (cI := cI) (cB := cB) (cL := cL) (ka := ka) (kv := kv) (fv := fv) hst hI (xs (i + 1)) (xs (i + 2))
  have hM := hop lay
  refine lv_aload_n hx hb dl_375 rfl (lv_at hl 1 rfl) ?_
  refine g_arg (j := 1) hx hb hX hbl hbA S.2.2 hL (by omega) (lv_at hl 0 rfl) (lv_at hl 4 rfl) rfl dl_376 dl_377 dl_379 dl_380 dl_381 ?_
  refine g_arg (j := 2) hx hb hX hbl hbA S.2.2 hL (by omega) (lv_at hl 0 rfl) (lv_at hl 4 rfl) rfl dl_382 dl_383 dl_385 dl_386 dl_387 ?_
  refine lv_aload_n hx hb dl_388 rfl (lv_at hl 3 rfl) ?_
  refine h_callSW (As := [.ref (lay.1 36), .int (xs (i + 1)), .int (xs (i + 2)), .ref o]) (na := 4) C Kx Np S (wl_node l D cI cB cL ka kv fv (lay.1 36) o f (xs (i + 1)) (xs (i + 2)) (lpX_obj cI cB lay t) hM (fun E X' h => by have h := h.1; simpa using h)) lw_9031 lw_9032 lth_6 lw_9033 hdL_node ⟨Nat.le_of_ble_eq_true rfl, Nat.le_of_ble_eq_true rfl⟩ rfl hl.1 ⟨(by show _ ≤ 601024; omega), (by show _ ≤ 7293034; omega)⟩ (Nat.le_of_ble_eq_true rfl) dl_389 rfl (fun k X' H locs hRW S => ?_)
  obtain ⟨lay', t', g', rfl, h36, ht, hI', hth, hg⟩ := rW_key hRW kcB
  refine W.widen (k := 1000 + 4 * (c + 1) + tot t') (n := 150000 + 24 * (c + 1) + 2 * tot t') (by omega) (by omega) ?_
  have S := g_comm S
  refine lv_istore (lv' := [(5, .int k), (0, .ref b), (1, .ref (lay.1 36)), (2, .ref (am 0)), (3, .ref o), (4, .int (nI i))]) hx hb dl_392 hl (by decide) rfl (fun ls hl => ?_)
  refine lv_aload_n hx hb dl_394 rfl (lv_at hl 3 rfl) ?_
  refine g_arg (j := 1) hx hb hX hbl hbA S.2.2 hL (by omega) (lv_at hl 1 rfl) (lv_at hl 5 rfl) rfl dl_395 dl_396 dl_398 dl_399 dl_400 ?_
  refine g_arg (j := 2) hx hb hX hbl hbA S.2.2 hL (by omega) (lv_at hl 1 rfl) (lv_at hl 5 rfl) rfl dl_401 dl_402 dl_404 dl_405 dl_406 ?_
  refine h_callVi (As := [.int (xs (i + 1)), .int (xs (i + 2))]) (na := 2) C Kx S (wM_obj cI cB am μ) rfl ((ct_X12_node l D cI cB cL am (xs (i + 1)) (xs (i + 2)) μ hm).toH) lw_9034 lw_9035 lw_9036 mw_5 lw_9037 hdX12_node ⟨Nat.le_of_ble_eq_true rfl, Nat.le_of_ble_eq_true rfl⟩ rfl hl.1 ⟨(by show _ ≤ 601024; omega), (by show _ ≤ 7293034; omega)⟩ (Nat.le_of_ble_eq_true rfl) dl_407 rfl (fun r2 X' H locs hRI S => ?_)
  obtain ⟨rfl, rfl⟩ := hRI
  exact law_tail LC' hc KE h36 hI' hth hg hl S dl_410 dl_412 dl_413 dl_416 dl_418 dl_423 dl_425 dl_428 dl_429 dl_430 dl_431 dl_433 dl_434 dl_435 dl_440 (by decide)
theorem lc_group (LC : lawC l D cI cB cL ka kv fv p s m c0 meth b L xs) (hi : i + 5 < L) (hc : c < 512) (KE : lawAt l D cI cB cL p e s m below meth c0 b x o am i 2526 (c + 1)) : lawAt l D cI cB cL p e s m below meth c0 b x o am i 443 c := by
  intro lay t μ f H locs ls hxx hI S hl
  subst hxx
  have LC' := LC
  obtain ⟨C, Kx, Np, hX, hbl, hst, hL⟩ := LC
  have hx := C.1
  have hb := C.2.1
  have hbA : ¬ (fun q => s.heap.size ≤ q) b := Nat.not_le.mpr hbl
  obtain ⟨r, μ', hm, mc, ms, g, g1, g2, g3, hop⟩ := op_group (l := l) (D := D) (cI := cI) (cB := cB) (cL := cL) (ka := ka) (kv := kv) (fv := fv) hst hI (xs (i + 1))
  have hM := hop lay
  refine lv_aload_n hx hb dl_443 rfl (lv_at hl 1 rfl) ?_
  refine g_arg (j := 1) hx hb hX hbl hbA S.2.2 hL (by omega) (lv_at hl 0 rfl) (lv_at hl 4 rfl) rfl dl_444 dl_445 dl_447 dl_448 dl_449 ?_
  refine lv_aload_n hx hb dl_450 rfl (lv_at hl 3 rfl) ?_
  refine h_callSW (As := [.ref (lay.1 36), .int (xs (i + 1)), .ref o]) (na := 3) C Kx Np S (wl_group l D cI cB cL ka kv fv (lay.1 36) o f (xs (i + 1)) (lpX_obj cI cB lay t) hM (fun E X' h => by have h := h.1; simpa using h)) lw_9038 lw_9039 lth_6 lw_9040 hdL_group ⟨Nat.le_of_ble_eq_true rfl, Nat.le_of_ble_eq_true rfl⟩ rfl hl.1 ⟨(by show _ ≤ 601024; omega), (by show _ ≤ 7293034; omega)⟩ (Nat.le_of_ble_eq_true rfl) dl_451 rfl (fun k X' H locs hRW S => ?_)
  obtain ⟨lay', t', g', rfl, h36, ht, hI', hth, hg⟩ := rW_key hRW kcA
  refine W.widen (k := 1000 + 4 * (c + 1) + tot t') (n := 150000 + 24 * (c + 1) + 2 * tot t') (by omega) (by omega) ?_
  have S := g_comm S
  refine lv_istore (lv' := [(5, .int k), (0, .ref b), (1, .ref (lay.1 36)), (2, .ref (am 0)), (3, .ref o), (4, .int (nI i))]) hx hb dl_454 hl (by decide) rfl (fun ls hl => ?_)
  refine lv_aload_n hx hb dl_456 rfl (lv_at hl 3 rfl) ?_
  refine g_arg (j := 1) hx hb hX hbl hbA S.2.2 hL (by omega) (lv_at hl 1 rfl) (lv_at hl 5 rfl) rfl dl_457 dl_458 dl_460 dl_461 dl_462 ?_
  refine h_callVi (As := [.int (xs (i + 1))]) (na := 1) C Kx S (wM_obj cI cB am μ) rfl ((ct_X12_group l D cI cB cL am (xs (i + 1)) μ hm).toH) lw_9041 lw_9042 lw_9043 mw_5 lw_9044 hdX12_group ⟨Nat.le_of_ble_eq_true rfl, Nat.le_of_ble_eq_true rfl⟩ rfl hl.1 ⟨(by show _ ≤ 601024; omega), (by show _ ≤ 7293034; omega)⟩ (Nat.le_of_ble_eq_true rfl) dl_463 rfl (fun r2 X' H locs hRI S => ?_)
  obtain ⟨rfl, rfl⟩ := hRI
  exact law_tail LC' hc KE h36 hI' hth hg hl S dl_466 dl_468 dl_469 dl_472 dl_474 dl_479 dl_481 dl_484 dl_485 dl_486 dl_487 dl_489 dl_490 dl_491 dl_496 (by decide)
theorem lc_message (LC : lawC l D cI cB cL ka kv fv p s m c0 meth b L xs) (hi : i + 5 < L) (hc : c < 512) (KE : lawAt l D cI cB cL p e s m below meth c0 b x o am i 2526 (c + 1)) : lawAt l D cI cB cL p e s m below meth c0 b x o am i 499 c := by
  intro lay t μ f H locs ls hxx hI S hl
  subst hxx
  have LC' := LC
  obtain ⟨C, Kx, Np, hX, hbl, hst, hL⟩ := LC
  have hx := C.1
  have hb := C.2.1
  have hbA : ¬ (fun q => s.heap.size ≤ q) b := Nat.not_le.mpr hbl
  obtain ⟨r, μ', hm, mc, ms, g, g1, g2, g3, hop⟩ := op_message (l := l) (D := D) (cI := cI) (cB := cB) (cL := cL) (ka := ka) (kv := kv) (fv := fv) hst hI (xs (i + 1)) (xs (i + 2))
  have hM := hop lay
  refine lv_aload_n hx hb dl_499 rfl (lv_at hl 1 rfl) ?_
  refine g_arg (j := 1) hx hb hX hbl hbA S.2.2 hL (by omega) (lv_at hl 0 rfl) (lv_at hl 4 rfl) rfl dl_500 dl_501 dl_503 dl_504 dl_505 ?_
  refine g_arg (j := 2) hx hb hX hbl hbA S.2.2 hL (by omega) (lv_at hl 0 rfl) (lv_at hl 4 rfl) rfl dl_506 dl_507 dl_509 dl_510 dl_511 ?_
  refine lv_aload_n hx hb dl_512 rfl (lv_at hl 3 rfl) ?_
  refine h_callSW (As := [.ref (lay.1 36), .int (xs (i + 1)), .int (xs (i + 2)), .ref o]) (na := 4) C Kx Np S (wl_message l D cI cB cL ka kv fv (lay.1 36) o f (xs (i + 1)) (xs (i + 2)) (lpX_obj cI cB lay t) hM (fun E X' h => by have h := h.1; simpa using h)) lw_9045 lw_9046 lth_6 lw_9047 hdL_message ⟨Nat.le_of_ble_eq_true rfl, Nat.le_of_ble_eq_true rfl⟩ rfl hl.1 ⟨(by show _ ≤ 601024; omega), (by show _ ≤ 7293034; omega)⟩ (Nat.le_of_ble_eq_true rfl) dl_513 rfl (fun k X' H locs hRW S => ?_)
  obtain ⟨lay', t', g', rfl, h36, ht, hI', hth, hg⟩ := rW_key hRW kcB
  refine W.widen (k := 1000 + 4 * (c + 1) + tot t') (n := 150000 + 24 * (c + 1) + 2 * tot t') (by omega) (by omega) ?_
  have S := g_comm S
  refine lv_istore (lv' := [(5, .int k), (0, .ref b), (1, .ref (lay.1 36)), (2, .ref (am 0)), (3, .ref o), (4, .int (nI i))]) hx hb dl_516 hl (by decide) rfl (fun ls hl => ?_)
  refine lv_aload_n hx hb dl_518 rfl (lv_at hl 3 rfl) ?_
  refine g_arg (j := 1) hx hb hX hbl hbA S.2.2 hL (by omega) (lv_at hl 1 rfl) (lv_at hl 5 rfl) rfl dl_519 dl_520 dl_522 dl_523 dl_524 ?_
  refine g_arg (j := 2) hx hb hX hbl hbA S.2.2 hL (by omega) (lv_at hl 1 rfl) (lv_at hl 5 rfl) rfl dl_525 dl_526 dl_528 dl_529 dl_530 ?_
  refine h_callVi (As := [.int (xs (i + 1)), .int (xs (i + 2))]) (na := 2) C Kx S (wM_obj cI cB am μ) rfl ((ct_X12_message l D cI cB cL am (xs (i + 1)) (xs (i + 2)) μ hm).toH) lw_9048 lw_9049 lw_9050 mw_5 lw_9051 hdX12_message ⟨Nat.le_of_ble_eq_true rfl, Nat.le_of_ble_eq_true rfl⟩ rfl hl.1 ⟨(by show _ ≤ 601024; omega), (by show _ ≤ 7293034; omega)⟩ (Nat.le_of_ble_eq_true rfl) dl_531 rfl (fun r2 X' H locs hRI S => ?_)
  obtain ⟨rfl, rfl⟩ := hRI
  exact law_tail LC' hc KE h36 hI' hth hg hl S dl_534 dl_536 dl_537 dl_540 dl_542 dl_547 dl_549 dl_552 dl_553 dl_554 dl_555 dl_557 dl_558 dl_559 dl_564 (by decide)
end LX
