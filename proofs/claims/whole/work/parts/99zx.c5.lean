/-! cases of the law -/
theorem lw_9251 : Cond.methodLink RL 249 yL_event ∈ gw := gw_t6 85 rfl rfl
theorem lw_9252 : Cond.static yL_event ∈ gw := gw_t6 86 rfl rfl
theorem lw_9253 : Cond.codeWith yL_event cL_event 5 (some .int) [(0, 10, 13, 21), (0, 10, 17, 23)] ∈ gw := gw_t6 87 rfl rfl
theorem hdL_event : yL_event.cls ≠ "java/lang/invoke/MethodHandle" ∧ yL_event.cls ≠ "java/lang/invoke/VarHandle" ∧ (parseMethodDescriptor yL_event.desc).map (fun d => d.parameters.length) = some 4 := by decide +kernel
theorem lw_9254 : Cond.methodLink RL 251 yX12_event ∈ gw := gw_t8 33 rfl rfl
theorem lw_9255 : Cond.instanceMethod yX12_event ∈ gw := gw_t8 34 rfl rfl
theorem lw_9256 : Cond.selects RX12 yX12_event yX12_event ∈ gw := gw_t8 35 rfl rfl
theorem lw_9257 : Cond.code yX12_event cX12_event 3 (some .int) ∈ gw := gw_t8 36 rfl rfl
theorem hdX12_event : yX12_event.cls = RX12 ∧ yX12_event.cls ≠ "java/lang/invoke/MethodHandle" ∧ yX12_event.cls ≠ "java/lang/invoke/VarHandle" ∧ (parseMethodDescriptor yX12_event.desc).map (fun d => d.parameters.length) = some 2 := by decide +kernel
theorem lw_9258 : Cond.methodLink RL 252 yL_log ∈ gw := gw_t6 95 rfl rfl
theorem lw_9259 : Cond.static yL_log ∈ gw := gw_t6 96 rfl rfl
theorem lw_9260 : Cond.codeWith yL_log cL_log 5 (some .int) [(0, 10, 13, 23)] ∈ gw := gw_t6 97 rfl rfl
theorem hdL_log : yL_log.cls ≠ "java/lang/invoke/MethodHandle" ∧ yL_log.cls ≠ "java/lang/invoke/VarHandle" ∧ (parseMethodDescriptor yL_log.desc).map (fun d => d.parameters.length) = some 4 := by decide +kernel
theorem lw_9261 : Cond.methodLink RL 254 yX12_log ∈ gw := gw_t8 37 rfl rfl
theorem lw_9262 : Cond.instanceMethod yX12_log ∈ gw := gw_t8 38 rfl rfl
theorem lw_9263 : Cond.selects RX12 yX12_log yX12_log ∈ gw := gw_t8 39 rfl rfl
theorem lw_9264 : Cond.code yX12_log cX12_log 3 (some .int) ∈ gw := gw_t8 40 rfl rfl
theorem hdX12_log : yX12_log.cls = RX12 ∧ yX12_log.cls ≠ "java/lang/invoke/MethodHandle" ∧ yX12_log.cls ≠ "java/lang/invoke/VarHandle" ∧ (parseMethodDescriptor yX12_log.desc).map (fun d => d.parameters.length) = some 2 := by decide +kernel
theorem lw_9265 : Cond.methodLink RL 255 yX11_seed ∈ gw := gw_t3 3 rfl rfl
theorem lw_9266 : Cond.instanceMethod yX11_seed ∈ gw := gw_t3 4 rfl rfl
theorem lw_9267 : Cond.selects RX11 yX11_seed yX11_seed ∈ gw := gw_t3 5 rfl rfl
theorem lw_9268 : Cond.code yX11_seed cX11_seed 3 (some .int) ∈ gw := gw_t3 6 rfl rfl
theorem hdX11_seed : yX11_seed.cls = RX11 ∧ yX11_seed.cls ≠ "java/lang/invoke/MethodHandle" ∧ yX11_seed.cls ≠ "java/lang/invoke/VarHandle" ∧ (parseMethodDescriptor yX11_seed.desc).map (fun d => d.parameters.length) = some 1 := by decide +kernel
theorem lw_9269 : Cond.methodLink RL 258 yX12_seed ∈ gw := gw_t8 41 rfl rfl
theorem lw_9270 : Cond.instanceMethod yX12_seed ∈ gw := gw_t8 42 rfl rfl
theorem lw_9271 : Cond.selects RX12 yX12_seed yX12_seed ∈ gw := gw_t8 43 rfl rfl
theorem lw_9272 : Cond.code yX12_seed cX12_seed 3 (some .int) ∈ gw := gw_t8 44 rfl rfl
theorem hdX12_seed : yX12_seed.cls = RX12 ∧ yX12_seed.cls ≠ "java/lang/invoke/MethodHandle" ∧ yX12_seed.cls ≠ "java/lang/invoke/VarHandle" ∧ (parseMethodDescriptor yX12_seed.desc).map (fun d => d.parameters.length) = some 1 := by decide +kernel
theorem lw_9273 : Cond.methodLink RL 259 yX11_image ∈ gw := gw_t3 7 rfl rfl
theorem lw_9274 : Cond.instanceMethod yX11_image ∈ gw := gw_t3 8 rfl rfl
theorem lw_9275 : Cond.selects RX11 yX11_image yX11_image ∈ gw := gw_t3 9 rfl rfl
theorem lw_9276 : Cond.code yX11_image cX11_image 1 none ∈ gw := gw_t3 10 rfl rfl
theorem hdX11_image : yX11_image.cls = RX11 ∧ yX11_image.cls ≠ "java/lang/invoke/MethodHandle" ∧ yX11_image.cls ≠ "java/lang/invoke/VarHandle" ∧ (parseMethodDescriptor yX11_image.desc).map (fun d => d.parameters.length) = some 0 := by decide +kernel
theorem lw_9277 : Cond.methodLink RL 262 yX12_image ∈ gw := gw_t6 174 rfl rfl
theorem lw_9278 : Cond.instanceMethod yX12_image ∈ gw := gw_t6 175 rfl rfl
theorem lw_9279 : Cond.selects RX12 yX12_image yX12_image ∈ gw := gw_t6 176 rfl rfl
theorem lw_9280 : Cond.code yX12_image cX12_image 2 none ∈ gw := gw_t6 177 rfl rfl
theorem hdX12_image : yX12_image.cls = RX12 ∧ yX12_image.cls ≠ "java/lang/invoke/MethodHandle" ∧ yX12_image.cls ≠ "java/lang/invoke/VarHandle" ∧ (parseMethodDescriptor yX12_image.desc).map (fun d => d.parameters.length) = some 0 := by decide +kernel
theorem lw_9281 : Cond.methodLink RL 263 yX11_back ∈ gw := gw_t3 55 rfl rfl
theorem lw_9282 : Cond.instanceMethod yX11_back ∈ gw := gw_t3 56 rfl rfl
theorem lw_9283 : Cond.selects RX11 yX11_back yX11_back ∈ gw := gw_t3 57 rfl rfl
theorem lw_9284 : Cond.code yX11_back cX11_back 1 (some .boolean) ∈ gw := gw_t3 58 rfl rfl
theorem hdX11_back : yX11_back.cls = RX11 ∧ yX11_back.cls ≠ "java/lang/invoke/MethodHandle" ∧ yX11_back.cls ≠ "java/lang/invoke/VarHandle" ∧ (parseMethodDescriptor yX11_back.desc).map (fun d => d.parameters.length) = some 0 := by decide +kernel
theorem lw_9285 : Cond.methodLink RL 267 yX12_back ∈ gw := gw_t6 178 rfl rfl
theorem lw_9286 : Cond.instanceMethod yX12_back ∈ gw := gw_t6 179 rfl rfl
theorem lw_9287 : Cond.selects RX12 yX12_back yX12_back ∈ gw := gw_t6 180 rfl rfl
theorem lw_9288 : Cond.code yX12_back cX12_back 2 (some .boolean) ∈ gw := gw_t6 181 rfl rfl
theorem hdX12_back : yX12_back.cls = RX12 ∧ yX12_back.cls ≠ "java/lang/invoke/MethodHandle" ∧ yX12_back.cls ≠ "java/lang/invoke/VarHandle" ∧ (parseMethodDescriptor yX12_back.desc).map (fun d => d.parameters.length) = some 0 := by decide +kernel
theorem lw_9289 : Cond.methodLink RL 268 yX11_count ∈ gw := gw_t3 59 rfl rfl
theorem lw_9290 : Cond.instanceMethod yX11_count ∈ gw := gw_t3 60 rfl rfl
theorem lw_9291 : Cond.selects RX11 yX11_count yX11_count ∈ gw := gw_t3 61 rfl rfl
theorem lw_9292 : Cond.code yX11_count cX11_count 2 (some .int) ∈ gw := gw_t3 62 rfl rfl
theorem hdX11_count : yX11_count.cls = RX11 ∧ yX11_count.cls ≠ "java/lang/invoke/MethodHandle" ∧ yX11_count.cls ≠ "java/lang/invoke/VarHandle" ∧ (parseMethodDescriptor yX11_count.desc).map (fun d => d.parameters.length) = some 1 := by decide +kernel
theorem lw_9293 : Cond.methodLink RL 271 yX12_count ∈ gw := gw_t8 45 rfl rfl
theorem lw_9294 : Cond.instanceMethod yX12_count ∈ gw := gw_t8 46 rfl rfl
theorem lw_9295 : Cond.selects RX12 yX12_count yX12_count ∈ gw := gw_t8 47 rfl rfl
theorem lw_9296 : Cond.code yX12_count cX12_count 2 (some .int) ∈ gw := gw_t8 48 rfl rfl
theorem hdX12_count : yX12_count.cls = RX12 ∧ yX12_count.cls ≠ "java/lang/invoke/MethodHandle" ∧ yX12_count.cls ≠ "java/lang/invoke/VarHandle" ∧ (parseMethodDescriptor yX12_count.desc).map (fun d => d.parameters.length) = some 1 := by decide +kernel
theorem dl_2316 : decode code 2316 = .ok (.aload_n 1, 1) := by decide +kernel
theorem dl_2317 : decode code 2317 = .ok (.aload_n 0, 1) := by decide +kernel
theorem dl_2318 : decode code 2318 = .ok (.iload 4, 2) := by decide +kernel
theorem dl_2320 : decode code 2320 = .ok (.iconst 1, 1) := by decide +kernel
theorem dl_2321 : decode code 2321 = .ok (.iadd, 1) := by decide +kernel
theorem dl_2322 : decode code 2322 = .ok (.iaload, 1) := by decide +kernel
theorem dl_2323 : decode code 2323 = .ok (.aload_n 0, 1) := by decide +kernel
theorem dl_2324 : decode code 2324 = .ok (.iload 4, 2) := by decide +kernel
theorem dl_2326 : decode code 2326 = .ok (.iconst 2, 1) := by decide +kernel
theorem dl_2327 : decode code 2327 = .ok (.iadd, 1) := by decide +kernel
theorem dl_2328 : decode code 2328 = .ok (.iaload, 1) := by decide +kernel
theorem dl_2329 : decode code 2329 = .ok (.aload_n 3, 1) := by decide +kernel
theorem dl_2330 : decode code 2330 = .ok (.invokestatic 249, 3) := by decide +kernel
theorem dl_2333 : decode code 2333 = .ok (.istore 5, 2) := by decide +kernel
theorem dl_2335 : decode code 2335 = .ok (.aload_n 2, 1) := by decide +kernel
theorem dl_2336 : decode code 2336 = .ok (.aload_n 0, 1) := by decide +kernel
theorem dl_2337 : decode code 2337 = .ok (.iload 4, 2) := by decide +kernel
theorem dl_2339 : decode code 2339 = .ok (.iconst 1, 1) := by decide +kernel
theorem dl_2340 : decode code 2340 = .ok (.iadd, 1) := by decide +kernel
theorem dl_2341 : decode code 2341 = .ok (.iaload, 1) := by decide +kernel
theorem dl_2342 : decode code 2342 = .ok (.aload_n 0, 1) := by decide +kernel
theorem dl_2343 : decode code 2343 = .ok (.iload 4, 2) := by decide +kernel
theorem dl_2345 : decode code 2345 = .ok (.iconst 2, 1) := by decide +kernel
theorem dl_2346 : decode code 2346 = .ok (.iadd, 1) := by decide +kernel
theorem dl_2347 : decode code 2347 = .ok (.iaload, 1) := by decide +kernel
theorem dl_2348 : decode code 2348 = .ok (.invokevirtual 251, 3) := by decide +kernel
theorem dl_2351 : decode code 2351 = .ok (.istore 6, 2) := by decide +kernel
theorem dl_2353 : decode code 2353 = .ok (.aload_n 2, 1) := by decide +kernel
theorem dl_2354 : decode code 2354 = .ok (.invokevirtual 140, 3) := by decide +kernel
theorem dl_2357 : decode code 2357 = .ok (.iload 5, 2) := by decide +kernel
theorem dl_2359 : decode code 2359 = .ok (.if_icmp .eq 5, 3) := by decide +kernel
theorem dl_2364 : decode code 2364 = .ok (.iload 5, 2) := by decide +kernel
theorem dl_2366 : decode code 2366 = .ok (.ifCond .ne 15, 3) := by decide +kernel
theorem dl_2369 : decode code 2369 = .ok (.aload_n 3, 1) := by decide +kernel
theorem dl_2370 : decode code 2370 = .ok (.iconst 0, 1) := by decide +kernel
theorem dl_2371 : decode code 2371 = .ok (.laload, 1) := by decide +kernel
theorem dl_2372 : decode code 2372 = .ok (.iload 6, 2) := by decide +kernel
theorem dl_2374 : decode code 2374 = .ok (.i2l, 1) := by decide +kernel
theorem dl_2375 : decode code 2375 = .ok (.lcmp, 1) := by decide +kernel
theorem dl_2376 : decode code 2376 = .ok (.ifCond .eq 5, 3) := by decide +kernel
theorem dl_2381 : decode code 2381 = .ok (.goto 145, 3) := by decide +kernel
theorem dl_2384 : decode code 2384 = .ok (.aload_n 1, 1) := by decide +kernel
theorem dl_2385 : decode code 2385 = .ok (.aload_n 0, 1) := by decide +kernel
theorem dl_2386 : decode code 2386 = .ok (.iload 4, 2) := by decide +kernel
theorem dl_2388 : decode code 2388 = .ok (.iconst 1, 1) := by decide +kernel
theorem dl_2389 : decode code 2389 = .ok (.iadd, 1) := by decide +kernel
theorem dl_2390 : decode code 2390 = .ok (.iaload, 1) := by decide +kernel
theorem dl_2391 : decode code 2391 = .ok (.aload_n 0, 1) := by decide +kernel
theorem dl_2392 : decode code 2392 = .ok (.iload 4, 2) := by decide +kernel
theorem dl_2394 : decode code 2394 = .ok (.iconst 2, 1) := by decide +kernel
theorem dl_2395 : decode code 2395 = .ok (.iadd, 1) := by decide +kernel
theorem dl_2396 : decode code 2396 = .ok (.iaload, 1) := by decide +kernel
theorem dl_2397 : decode code 2397 = .ok (.aload_n 3, 1) := by decide +kernel
theorem dl_2398 : decode code 2398 = .ok (.invokestatic 252, 3) := by decide +kernel
theorem dl_2401 : decode code 2401 = .ok (.istore 5, 2) := by decide +kernel
theorem dl_2403 : decode code 2403 = .ok (.aload_n 2, 1) := by decide +kernel
theorem dl_2404 : decode code 2404 = .ok (.aload_n 0, 1) := by decide +kernel
theorem dl_2405 : decode code 2405 = .ok (.iload 4, 2) := by decide +kernel
theorem dl_2407 : decode code 2407 = .ok (.iconst 1, 1) := by decide +kernel
theorem dl_2408 : decode code 2408 = .ok (.iadd, 1) := by decide +kernel
theorem dl_2409 : decode code 2409 = .ok (.iaload, 1) := by decide +kernel
theorem dl_2410 : decode code 2410 = .ok (.aload_n 0, 1) := by decide +kernel
theorem dl_2411 : decode code 2411 = .ok (.iload 4, 2) := by decide +kernel
theorem dl_2413 : decode code 2413 = .ok (.iconst 2, 1) := by decide +kernel
theorem dl_2414 : decode code 2414 = .ok (.iadd, 1) := by decide +kernel
theorem dl_2415 : decode code 2415 = .ok (.iaload, 1) := by decide +kernel
theorem dl_2416 : decode code 2416 = .ok (.invokevirtual 254, 3) := by decide +kernel
theorem dl_2419 : decode code 2419 = .ok (.istore 6, 2) := by decide +kernel
theorem dl_2421 : decode code 2421 = .ok (.aload_n 2, 1) := by decide +kernel
theorem dl_2422 : decode code 2422 = .ok (.invokevirtual 140, 3) := by decide +kernel
theorem dl_2425 : decode code 2425 = .ok (.iload 5, 2) := by decide +kernel
theorem dl_2427 : decode code 2427 = .ok (.if_icmp .eq 5, 3) := by decide +kernel
theorem dl_2432 : decode code 2432 = .ok (.iload 5, 2) := by decide +kernel
theorem dl_2434 : decode code 2434 = .ok (.ifCond .ne 15, 3) := by decide +kernel
theorem dl_2437 : decode code 2437 = .ok (.aload_n 3, 1) := by decide +kernel
theorem dl_2438 : decode code 2438 = .ok (.iconst 0, 1) := by decide +kernel
theorem dl_2439 : decode code 2439 = .ok (.laload, 1) := by decide +kernel
theorem dl_2440 : decode code 2440 = .ok (.iload 6, 2) := by decide +kernel
theorem dl_2442 : decode code 2442 = .ok (.i2l, 1) := by decide +kernel
theorem dl_2443 : decode code 2443 = .ok (.lcmp, 1) := by decide +kernel
theorem dl_2444 : decode code 2444 = .ok (.ifCond .eq 5, 3) := by decide +kernel
theorem dl_2449 : decode code 2449 = .ok (.goto 77, 3) := by decide +kernel
theorem dl_2452 : decode code 2452 = .ok (.aload_n 1, 1) := by decide +kernel
theorem dl_2453 : decode code 2453 = .ok (.aload_n 0, 1) := by decide +kernel
theorem dl_2454 : decode code 2454 = .ok (.iload 4, 2) := by decide +kernel
theorem dl_2456 : decode code 2456 = .ok (.iconst 1, 1) := by decide +kernel
theorem dl_2457 : decode code 2457 = .ok (.iadd, 1) := by decide +kernel
theorem dl_2458 : decode code 2458 = .ok (.iaload, 1) := by decide +kernel
theorem dl_2459 : decode code 2459 = .ok (.invokevirtual 255, 3) := by decide +kernel
theorem dl_2462 : decode code 2462 = .ok (.aload_n 2, 1) := by decide +kernel
theorem dl_2463 : decode code 2463 = .ok (.aload_n 0, 1) := by decide +kernel
theorem dl_2464 : decode code 2464 = .ok (.iload 4, 2) := by decide +kernel
theorem dl_2466 : decode code 2466 = .ok (.iconst 1, 1) := by decide +kernel
theorem dl_2467 : decode code 2467 = .ok (.iadd, 1) := by decide +kernel
theorem dl_2468 : decode code 2468 = .ok (.iaload, 1) := by decide +kernel
theorem dl_2469 : decode code 2469 = .ok (.invokevirtual 258, 3) := by decide +kernel
theorem dl_2472 : decode code 2472 = .ok (.if_icmp .eq 54, 3) := by decide +kernel
theorem dl_2477 : decode code 2477 = .ok (.aload_n 1, 1) := by decide +kernel
theorem dl_2478 : decode code 2478 = .ok (.invokevirtual 259, 3) := by decide +kernel
theorem dl_2481 : decode code 2481 = .ok (.aload_n 2, 1) := by decide +kernel
theorem dl_2482 : decode code 2482 = .ok (.invokevirtual 262, 3) := by decide +kernel
theorem dl_2485 : decode code 2485 = .ok (.goto 41, 3) := by decide +kernel
theorem dl_2488 : decode code 2488 = .ok (.aload_n 1, 1) := by decide +kernel
theorem dl_2489 : decode code 2489 = .ok (.invokevirtual 263, 3) := by decide +kernel
theorem dl_2492 : decode code 2492 = .ok (.aload_n 2, 1) := by decide +kernel
theorem dl_2493 : decode code 2493 = .ok (.invokevirtual 267, 3) := by decide +kernel
theorem dl_2496 : decode code 2496 = .ok (.if_icmp .eq 30, 3) := by decide +kernel
theorem dl_2501 : decode code 2501 = .ok (.aload_n 1, 1) := by decide +kernel
theorem dl_2502 : decode code 2502 = .ok (.aload_n 0, 1) := by decide +kernel
theorem dl_2503 : decode code 2503 = .ok (.iload 4, 2) := by decide +kernel
theorem dl_2505 : decode code 2505 = .ok (.iconst 1, 1) := by decide +kernel
theorem dl_2506 : decode code 2506 = .ok (.iadd, 1) := by decide +kernel
theorem dl_2507 : decode code 2507 = .ok (.iaload, 1) := by decide +kernel
theorem dl_2508 : decode code 2508 = .ok (.invokevirtual 268, 3) := by decide +kernel
theorem dl_2511 : decode code 2511 = .ok (.aload_n 2, 1) := by decide +kernel
theorem dl_2512 : decode code 2512 = .ok (.aload_n 0, 1) := by decide +kernel
theorem dl_2513 : decode code 2513 = .ok (.iload 4, 2) := by decide +kernel
theorem dl_2515 : decode code 2515 = .ok (.iconst 1, 1) := by decide +kernel
theorem dl_2516 : decode code 2516 = .ok (.iadd, 1) := by decide +kernel
theorem dl_2517 : decode code 2517 = .ok (.iaload, 1) := by decide +kernel
theorem dl_2518 : decode code 2518 = .ok (.invokevirtual 271, 3) := by decide +kernel
theorem dl_2521 : decode code 2521 = .ok (.if_icmp .eq 5, 3) := by decide +kernel
section LX
variable {p : Program} {l : Launch} {e : Env} {s : State} {m : MethodId} {below : List Frame} {meth : Method} {c0 : Code} {D : va_G} {cI cB cL : ClassId} {ka kv : Nat → Nat} {fv : Value} {b L x o i c : Nat} {xs : Nat → Int32} {am : Nat → Nat}
theorem lc_event (LC : lawC l D cI cB cL ka kv fv p s m c0 meth b L xs) (hi : i + 5 < L) (hc : c < 512) (KE : lawAt l D cI cB cL p e s m below meth c0 b x o am i 2526 (c + 1)) : lawAt l D cI cB cL p e s m below meth c0 b x o am i 2316 c := by
  intro lay t μ f H locs ls hxx hI S hl
  subst hxx
  have LC' := LC
  obtain ⟨C, Kx, Np, hX, hbl, hst, hL⟩ := LC
  have hx := C.1
  have hb := C.2.1
  have hbA : ¬ (fun q => s.heap.size ≤ q) b := Nat.not_le.mpr hbl
  obtain ⟨r, μ', hm, mc, ms, g, g1, g2, g3, hop⟩ := op_event (l := l) (D := D) (cI := cI) (cB := cB) (cL := cL) (ka := ka) (kv := kv) (fv := fv) hst hI (xs (i + 1)) (xs (i + 2))
  have hM := hop lay
  refine lv_aload_n hx hb dl_2316 rfl (lv_at hl 1 rfl) ?_
  refine g_arg (j := 1) hx hb hX hbl hbA S.2.2 hL (by omega) (lv_at hl 0 rfl) (lv_at hl 4 rfl) rfl dl_2317 dl_2318 dl_2320 dl_2321 dl_2322 ?_
  refine g_arg (j := 2) hx hb hX hbl hbA S.2.2 hL (by omega) (lv_at hl 0 rfl) (lv_at hl 4 rfl) rfl dl_2323 dl_2324 dl_2326 dl_2327 dl_2328 ?_
  refine lv_aload_n hx hb dl_2329 rfl (lv_at hl 3 rfl) ?_
  refine h_callSW (As := [.ref (lay.1 36), .int (xs (i + 1)), .int (xs (i + 2)), .ref o]) (na := 4) C Kx Np S (wl_event l D cI cB cL ka kv fv (lay.1 36) o f (xs (i + 1)) (xs (i + 2)) (lpX_obj cI cB lay t) hM (fun E X' h => by have h := h.1; simpa using h)) lw_9251 lw_9252 lth_6 lw_9253 hdL_event ⟨Nat.le_of_ble_eq_true rfl, Nat.le_of_ble_eq_true rfl⟩ rfl hl.1 ⟨(by show _ ≤ 601024; omega), (by show _ ≤ 7293034; omega)⟩ (Nat.le_of_ble_eq_true rfl) dl_2330 rfl (fun k X' H locs hRW S => ?_)
  obtain ⟨lay', t', g', rfl, h36, ht, hI', hth, hg⟩ := rW_key hRW kcB
  refine W.widen (k := 1000 + 4 * (c + 1) + tot t') (n := 150000 + 24 * (c + 1) + 2 * tot t') (by omega) (by omega) ?_
  have S := g_comm S
  refine lv_istore (lv' := [(5, .int k), (0, .ref b), (1, .ref (lay.1 36)), (2, .ref (am 0)), (3, .ref o), (4, .int (nI i))]) hx hb dl_2333 hl (by decide) rfl (fun ls hl => ?_)
  refine lv_aload_n hx hb dl_2335 rfl (lv_at hl 3 rfl) ?_
  refine g_arg (j := 1) hx hb hX hbl hbA S.2.2 hL (by omega) (lv_at hl 1 rfl) (lv_at hl 5 rfl) rfl dl_2336 dl_2337 dl_2339 dl_2340 dl_2341 ?_
  refine g_arg (j := 2) hx hb hX hbl hbA S.2.2 hL (by omega) (lv_at hl 1 rfl) (lv_at hl 5 rfl) rfl dl_2342 dl_2343 dl_2345 dl_2346 dl_2347 ?_
  refine h_callVi (As := [.int (xs (i + 1)), .int (xs (i + 2))]) (na := 2) C Kx S (wM_obj cI cB am μ) rfl ((ct_X12_event l D cI cB cL am (xs (i + 1)) (xs (i + 2)) μ hm).toH) lw_9254 lw_9255 lw_9256 mw_5 lw_9257 hdX12_event ⟨Nat.le_of_ble_eq_true rfl, Nat.le_of_ble_eq_true rfl⟩ rfl hl.1 ⟨(by show _ ≤ 601024; omega), (by show _ ≤ 7293034; omega)⟩ (Nat.le_of_ble_eq_true rfl) dl_2348 rfl (fun r2 X' H locs hRI S => ?_)
  obtain ⟨rfl, rfl⟩ := hRI
  exact law_tail LC' hc KE h36 hI' hth hg hl S dl_2351 dl_2353 dl_2354 dl_2357 dl_2359 dl_2364 dl_2366 dl_2369 dl_2370 dl_2371 dl_2372 dl_2374 dl_2375 dl_2376 dl_2381 (by decide)
theorem lc_log (LC : lawC l D cI cB cL ka kv fv p s m c0 meth b L xs) (hi : i + 5 < L) (hc : c < 512) (KE : lawAt l D cI cB cL p e s m below meth c0 b x o am i 2526 (c + 1)) : lawAt l D cI cB cL p e s m below meth c0 b x o am i 2384 c := by
  intro lay t μ f H locs ls hxx hI S hl
  subst hxx
  have LC' := LC
  obtain ⟨C, Kx, Np, hX, hbl, hst, hL⟩ := LC
  have hx := C.1
  have hb := C.2.1
  have hbA : ¬ (fun q => s.heap.size ≤ q) b := Nat.not_le.mpr hbl
  obtain ⟨r, μ', hm, mc, ms, g, g1, g2, g3, hop⟩ := op_log (l := l) (D := D) (cI := cI) (cB := cB) (cL := cL) (ka := ka) (kv := kv) (fv := fv) hst hI (xs (i + 1)) (xs (i + 2))
  have hM := hop lay
  refine lv_aload_n hx hb dl_2384 rfl (lv_at hl 1 rfl) ?_
  refine g_arg (j := 1) hx hb hX hbl hbA S.2.2 hL (by omega) (lv_at hl 0 rfl) (lv_at hl 4 rfl) rfl dl_2385 dl_2386 dl_2388 dl_2389 dl_2390 ?_
  refine g_arg (j := 2) hx hb hX hbl hbA S.2.2 hL (by omega) (lv_at hl 0 rfl) (lv_at hl 4 rfl) rfl dl_2391 dl_2392 dl_2394 dl_2395 dl_2396 ?_
  refine lv_aload_n hx hb dl_2397 rfl (lv_at hl 3 rfl) ?_
  refine h_callSW (As := [.ref (lay.1 36), .int (xs (i + 1)), .int (xs (i + 2)), .ref o]) (na := 4) C Kx Np S (wl_log l D cI cB cL ka kv fv (lay.1 36) o f (xs (i + 1)) (xs (i + 2)) (lpX_obj cI cB lay t) hM (fun E X' h => by have h := h.1; simpa using h)) lw_9258 lw_9259 lth_6 lw_9260 hdL_log ⟨Nat.le_of_ble_eq_true rfl, Nat.le_of_ble_eq_true rfl⟩ rfl hl.1 ⟨(by show _ ≤ 601024; omega), (by show _ ≤ 7293034; omega)⟩ (Nat.le_of_ble_eq_true rfl) dl_2398 rfl (fun k X' H locs hRW S => ?_)
  obtain ⟨lay', t', g', rfl, h36, ht, hI', hth, hg⟩ := rW_key hRW kcG
  refine W.widen (k := 1000 + 4 * (c + 1) + tot t') (n := 150000 + 24 * (c + 1) + 2 * tot t') (by omega) (by omega) ?_
  have S := g_comm S
  refine lv_istore (lv' := [(5, .int k), (0, .ref b), (1, .ref (lay.1 36)), (2, .ref (am 0)), (3, .ref o), (4, .int (nI i))]) hx hb dl_2401 hl (by decide) rfl (fun ls hl => ?_)
  refine lv_aload_n hx hb dl_2403 rfl (lv_at hl 3 rfl) ?_
  refine g_arg (j := 1) hx hb hX hbl hbA S.2.2 hL (by omega) (lv_at hl 1 rfl) (lv_at hl 5 rfl) rfl dl_2404 dl_2405 dl_2407 dl_2408 dl_2409 ?_
  refine g_arg (j := 2) hx hb hX hbl hbA S.2.2 hL (by omega) (lv_at hl 1 rfl) (lv_at hl 5 rfl) rfl dl_2410 dl_2411 dl_2413 dl_2414 dl_2415 ?_
  refine h_callVi (As := [.int (xs (i + 1)), .int (xs (i + 2))]) (na := 2) C Kx S (wM_obj cI cB am μ) rfl ((ct_X12_log l D cI cB cL am (xs (i + 1)) (xs (i + 2)) μ hm).toH) lw_9261 lw_9262 lw_9263 mw_5 lw_9264 hdX12_log ⟨Nat.le_of_ble_eq_true rfl, Nat.le_of_ble_eq_true rfl⟩ rfl hl.1 ⟨(by show _ ≤ 601024; omega), (by show _ ≤ 7293034; omega)⟩ (Nat.le_of_ble_eq_true rfl) dl_2416 rfl (fun r2 X' H locs hRI S => ?_)
  obtain ⟨rfl, rfl⟩ := hRI
  exact law_tail LC' hc KE h36 hI' hth hg hl S dl_2419 dl_2421 dl_2422 dl_2425 dl_2427 dl_2432 dl_2434 dl_2437 dl_2438 dl_2439 dl_2440 dl_2442 dl_2443 dl_2444 dl_2449 (by decide)
theorem lc_seed (LC : lawC l D cI cB cL ka kv fv p s m c0 meth b L xs) (hi : i + 5 < L) (hc : c < 512) (KE : lawAt l D cI cB cL p e s m below meth c0 b x o am i 2526 (c + 1)) : lawAt l D cI cB cL p e s m below meth c0 b x o am i 2452 c := by
  intro lay t μ f H locs ls hxx hI S hl
  subst hxx
  have LC' := LC
  obtain ⟨C, Kx, Np, hX, hbl, hst, hL⟩ := LC
  have hx := C.1
  have hb := C.2.1
  have hbA : ¬ (fun q => s.heap.size ≤ q) b := Nat.not_le.mpr hbl
  obtain ⟨r, μ', hm, mc, ms, g, g1, g2, g3, hop⟩ := op_seed (l := l) (D := D) (cI := cI) (cB := cB) (cL := cL) (ka := ka) (kv := kv) (fv := fv) hst hI (xs (i + 1))
  have hM := hop lay
  refine lv_aload_n hx hb dl_2452 rfl (lv_at hl 1 rfl) ?_
  refine g_arg (j := 1) hx hb hX hbl hbA S.2.2 hL (by omega) (lv_at hl 0 rfl) (lv_at hl 4 rfl) rfl dl_2453 dl_2454 dl_2456 dl_2457 dl_2458 ?_
  refine g_callVi (As := [.int (xs (i + 1))]) (na := 1) C Kx (g_assoc S) (lpX_obj cI cB lay t) rfl hM lw_9265 lw_9266 lw_9267 mw_321 lw_9268 hdX11_seed ⟨Nat.le_of_ble_eq_true rfl, Nat.le_of_ble_eq_true rfl⟩ rfl hl.1 ⟨(by show _ ≤ 601024; omega), (by show _ ≤ 7293034; omega)⟩ (Nat.le_of_ble_eq_true rfl) dl_2459 rfl (fun E X' ce q9 H locs hRX _ _ _ _ => absurd hRX.1 List.not_mem_nil) (fun r1 X' H locs hRI S => ?_)
  obtain ⟨rfl, hth, lay', t', rfl, h36, ht, hI'⟩ := hRI
  refine W.widen (k := 1000 + 4 * (c + 1) + tot t') (n := 150000 + 24 * (c + 1) + 2 * tot t') (by omega) (by omega) ?_
  have S := g_comm (g_assoc' S)
  refine lv_aload_n hx hb dl_2462 rfl (lv_at hl 2 rfl) ?_
  refine g_arg (j := 1) hx hb hX hbl hbA S.2.2 hL (by omega) (lv_at hl 0 rfl) (lv_at hl 4 rfl) rfl dl_2463 dl_2464 dl_2466 dl_2467 dl_2468 ?_
  refine h_callVi (As := [.int (xs (i + 1))]) (na := 1) C Kx S (wM_obj cI cB am μ) rfl ((ct_X12_seed l D cI cB cL am (xs (i + 1)) μ hm).toH) lw_9269 lw_9270 lw_9271 mw_5 lw_9272 hdX12_seed ⟨Nat.le_of_ble_eq_true rfl, Nat.le_of_ble_eq_true rfl⟩ rfl hl.1 ⟨(by show _ ≤ 601024; omega), (by show _ ≤ 7293034; omega)⟩ (Nat.le_of_ble_eq_true rfl) dl_2469 rfl (fun r2 X' H locs hRI S => ?_)
  obtain ⟨rfl, rfl⟩ := hRI
  have S := g_comm S
  refine lv_icmp_eq (tgt := 2526) hx hb dl_2472 (by decide) (fun _ => ?_) (fun h => absurd rfl h)
  exact KE lay' t' μ' f H locs ls h36 hI' S hl
theorem lc_image (LC : lawC l D cI cB cL ka kv fv p s m c0 meth b L xs) (hi : i + 5 < L) (hc : c < 512) (KE : lawAt l D cI cB cL p e s m below meth c0 b x o am i 2526 (c + 1)) : lawAt l D cI cB cL p e s m below meth c0 b x o am i 2477 c := by
  intro lay t μ f H locs ls hxx hI S hl
  subst hxx
  have LC' := LC
  obtain ⟨C, Kx, Np, hX, hbl, hst, hL⟩ := LC
  have hx := C.1
  have hb := C.2.1
  have hbA : ¬ (fun q => s.heap.size ≤ q) b := Nat.not_le.mpr hbl
  obtain ⟨μ', hm, mc, ms, g, g1, g2, g3, hop⟩ := op_image (l := l) (D := D) (cI := cI) (cB := cB) (cL := cL) (ka := ka) (kv := kv) (fv := fv) hst hI
  have hM := hop lay
  refine lv_aload_n hx hb dl_2477 rfl (lv_at hl 1 rfl) ?_
  refine g_callVv (As := []) (na := 0) C Kx (g_assoc S) (lpX_obj cI cB lay t) rfl hM lw_9273 lw_9274 lw_9275 mw_321 lw_9276 hdX11_image ⟨Nat.le_of_ble_eq_true rfl, Nat.le_of_ble_eq_true rfl⟩ rfl hl.1 ⟨(by show _ ≤ 601024; omega), (by show _ ≤ 7293034; omega)⟩ (Nat.le_of_ble_eq_true rfl) dl_2478 rfl (fun E X' ce q9 H locs hRX _ _ _ _ => absurd hRX.1 List.not_mem_nil) (fun X' H locs hRI S => ?_)
  obtain ⟨hth, lay', t', rfl, h36, ht, hI'⟩ := hRI
  refine W.widen (k := 1000 + 4 * (c + 1) + tot t') (n := 150000 + 24 * (c + 1) + 2 * tot t') (by omega) (by omega) ?_
  have S := g_comm (g_assoc' S)
  refine lv_aload_n hx hb dl_2481 rfl (lv_at hl 2 rfl) ?_
  refine h_callVv (As := []) (na := 0) C Kx S (wM_obj cI cB am μ) rfl ((ct_X12_image l D cI cB cL am μ hm).toH) lw_9277 lw_9278 lw_9279 mw_5 lw_9280 hdX12_image ⟨Nat.le_of_ble_eq_true rfl, Nat.le_of_ble_eq_true rfl⟩ rfl hl.1 ⟨(by show _ ≤ 601024; omega), (by show _ ≤ 7293034; omega)⟩ (Nat.le_of_ble_eq_true rfl) dl_2482 rfl (fun X' H locs hRI S => ?_)
  subst hRI
  have S := g_comm S
  refine lv_goto (tgt := 2526) hx hb dl_2485 (by decide) ?_
  exact KE lay' t' μ' f H locs ls h36 hI' S hl
theorem lc_back (LC : lawC l D cI cB cL ka kv fv p s m c0 meth b L xs) (hi : i + 5 < L) (hc : c < 512) (KE : lawAt l D cI cB cL p e s m below meth c0 b x o am i 2526 (c + 1)) : lawAt l D cI cB cL p e s m below meth c0 b x o am i 2488 c := by
  intro lay t μ f H locs ls hxx hI S hl
  subst hxx
  have LC' := LC
  obtain ⟨C, Kx, Np, hX, hbl, hst, hL⟩ := LC
  have hx := C.1
  have hb := C.2.1
  have hbA : ¬ (fun q => s.heap.size ≤ q) b := Nat.not_le.mpr hbl
  obtain ⟨r, μ', hm, mc, ms, g, g1, g2, g3, hop⟩ := op_back (l := l) (D := D) (cI := cI) (cB := cB) (cL := cL) (ka := ka) (kv := kv) (fv := fv) hst hI
  have hM := hop lay
  refine lv_aload_n hx hb dl_2488 rfl (lv_at hl 1 rfl) ?_
  refine g_callVi (As := []) (na := 0) C Kx (g_assoc S) (lpX_obj cI cB lay t) rfl hM lw_9281 lw_9282 lw_9283 mw_321 lw_9284 hdX11_back ⟨Nat.le_of_ble_eq_true rfl, Nat.le_of_ble_eq_true rfl⟩ rfl hl.1 ⟨(by show _ ≤ 601024; omega), (by show _ ≤ 7293034; omega)⟩ (Nat.le_of_ble_eq_true rfl) dl_2489 rfl (fun E X' ce q9 H locs hRX _ _ _ _ => absurd hRX.1 List.not_mem_nil) (fun r1 X' H locs hRI S => ?_)
  obtain ⟨rfl, hth, lay', t', rfl, h36, ht, hI'⟩ := hRI
  refine W.widen (k := 1000 + 4 * (c + 1) + tot t') (n := 150000 + 24 * (c + 1) + 2 * tot t') (by omega) (by omega) ?_
  have S := g_comm (g_assoc' S)
  refine lv_aload_n hx hb dl_2492 rfl (lv_at hl 2 rfl) ?_
  refine h_callVi (As := []) (na := 0) C Kx S (wM_obj cI cB am μ) rfl ((ct_X12_back l D cI cB cL am μ hm).toH) lw_9285 lw_9286 lw_9287 mw_5 lw_9288 hdX12_back ⟨Nat.le_of_ble_eq_true rfl, Nat.le_of_ble_eq_true rfl⟩ rfl hl.1 ⟨(by show _ ≤ 601024; omega), (by show _ ≤ 7293034; omega)⟩ (Nat.le_of_ble_eq_true rfl) dl_2493 rfl (fun r2 X' H locs hRI S => ?_)
  obtain ⟨rfl, rfl⟩ := hRI
  have S := g_comm S
  refine lv_icmp_eq (tgt := 2526) hx hb dl_2496 (by decide) (fun _ => ?_) (fun h => absurd rfl h)
  exact KE lay' t' μ' f H locs ls h36 hI' S hl
theorem lc_count (LC : lawC l D cI cB cL ka kv fv p s m c0 meth b L xs) (hi : i + 5 < L) (hc : c < 512) (KE : lawAt l D cI cB cL p e s m below meth c0 b x o am i 2526 (c + 1)) : lawAt l D cI cB cL p e s m below meth c0 b x o am i 2501 c := by
  intro lay t μ f H locs ls hxx hI S hl
  subst hxx
  have LC' := LC
  obtain ⟨C, Kx, Np, hX, hbl, hst, hL⟩ := LC
  have hx := C.1
  have hb := C.2.1
  have hbA : ¬ (fun q => s.heap.size ≤ q) b := Nat.not_le.mpr hbl
  obtain ⟨r, μ', hm, mc, ms, g, g1, g2, g3, hop⟩ := op_count (l := l) (D := D) (cI := cI) (cB := cB) (cL := cL) (ka := ka) (kv := kv) (fv := fv) hst hI (xs (i + 1))
  have hM := hop lay
  refine lv_aload_n hx hb dl_2501 rfl (lv_at hl 1 rfl) ?_
  refine g_arg (j := 1) hx hb hX hbl hbA S.2.2 hL (by omega) (lv_at hl 0 rfl) (lv_at hl 4 rfl) rfl dl_2502 dl_2503 dl_2505 dl_2506 dl_2507 ?_
  refine g_callVi (As := [.int (xs (i + 1))]) (na := 1) C Kx (g_assoc S) (lpX_obj cI cB lay t) rfl hM lw_9289 lw_9290 lw_9291 mw_321 lw_9292 hdX11_count ⟨Nat.le_of_ble_eq_true rfl, Nat.le_of_ble_eq_true rfl⟩ rfl hl.1 ⟨(by show _ ≤ 601024; omega), (by show _ ≤ 7293034; omega)⟩ (Nat.le_of_ble_eq_true rfl) dl_2508 rfl (fun E X' ce q9 H locs hRX _ _ _ _ => absurd hRX.1 List.not_mem_nil) (fun r1 X' H locs hRI S => ?_)
  obtain ⟨rfl, hth, lay', t', rfl, h36, ht, hI'⟩ := hRI
  refine W.widen (k := 1000 + 4 * (c + 1) + tot t') (n := 150000 + 24 * (c + 1) + 2 * tot t') (by omega) (by omega) ?_
  have S := g_comm (g_assoc' S)
  refine lv_aload_n hx hb dl_2511 rfl (lv_at hl 2 rfl) ?_
  refine g_arg (j := 1) hx hb hX hbl hbA S.2.2 hL (by omega) (lv_at hl 0 rfl) (lv_at hl 4 rfl) rfl dl_2512 dl_2513 dl_2515 dl_2516 dl_2517 ?_
  refine h_callVi (As := [.int (xs (i + 1))]) (na := 1) C Kx S (wM_obj cI cB am μ) rfl ((ct_X12_count l D cI cB cL am (xs (i + 1)) μ hm).toH) lw_9293 lw_9294 lw_9295 mw_5 lw_9296 hdX12_count ⟨Nat.le_of_ble_eq_true rfl, Nat.le_of_ble_eq_true rfl⟩ rfl hl.1 ⟨(by show _ ≤ 601024; omega), (by show _ ≤ 7293034; omega)⟩ (Nat.le_of_ble_eq_true rfl) dl_2518 rfl (fun r2 X' H locs hRI S => ?_)
  obtain ⟨rfl, rfl⟩ := hRI
  have S := g_comm S
  refine lv_icmp_eq (tgt := 2526) hx hb dl_2521 (by decide) (fun _ => ?_) (fun h => absurd rfl h)
  exact KE lay' t' μ' f H locs ls h36 hI' S hl
end LX
