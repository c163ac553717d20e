theorem mw_256 : Cond.code yX12_packets cX12_packets 4 (some .int) ∈ gw := gw_t8 52 rfl rfl
theorem mw_257 : Cond.instanceMethod yX12_packets ∈ gw := gw_t8 51 rfl rfl
theorem mw_258 : Cond.methodLink RX12 322 yX12_packets ∈ gw := gw_t8 49 rfl rfl
theorem mw_259 : Cond.selects RX12 yX12_packets yX12_packets ∈ gw := gw_pv (n := 18) (List.mem_of_getElem? (i := 84) rfl)
theorem mw_260 : Cond.code yX12_blockOf cX12_blockOf 6 (some .int) ∈ gw := gw_t8 60 rfl rfl
theorem mw_261 : Cond.instanceMethod yX12_blockOf ∈ gw := gw_t8 59 rfl rfl
theorem mw_262 : Cond.methodLink RX12 325 yX12_blockOf ∈ gw := gw_t8 57 rfl rfl
theorem mw_263 : Cond.selects RX12 yX12_blockOf yX12_blockOf ∈ gw := gw_pv (n := 18) (List.mem_of_getElem? (i := 85) rfl)
theorem mw_264 : Cond.code yX12_waitsOf cX12_waitsOf 6 (some .int) ∈ gw := gw_t8 68 rfl rfl
theorem mw_265 : Cond.instanceMethod yX12_waitsOf ∈ gw := gw_t8 67 rfl rfl
theorem mw_266 : Cond.methodLink RX12 328 yX12_waitsOf ∈ gw := gw_t8 65 rfl rfl
theorem mw_267 : Cond.selects RX12 yX12_waitsOf yX12_waitsOf ∈ gw := gw_pv (n := 18) (List.mem_of_getElem? (i := 86) rfl)
theorem mw_268 : Cond.fieldLink RX12 43 "LeastPendingModel" "links" "[I" ∈ gw := gw_t6 135 rfl rfl
theorem mw_269 : Cond.code yJ6_numberOfTrailingZeros_0f7a4 cJ6_numberOfTrailingZeros_0f7a4 2 (some .int) ∈ gw := gw_t8 79 rfl rfl
theorem mw_270 : Cond.static yJ6_numberOfTrailingZeros_0f7a4 ∈ gw := gw_t8 78 rfl rfl
theorem mw_271 : Cond.methodLink RX12 331 yJ6_numberOfTrailingZeros_0f7a4 ∈ gw := gw_t8 77 rfl rfl
theorem mw_272 : Cond.code yX12_laysChain cX12_laysChain 7 (some .int) ∈ gw := gw_t8 76 rfl rfl
theorem mw_273 : Cond.instanceMethod yX12_laysChain ∈ gw := gw_t8 75 rfl rfl
theorem mw_274 : Cond.methodLink RX12 334 yX12_laysChain ∈ gw := gw_t8 73 rfl rfl
theorem mw_275 : Cond.selects RX12 yX12_laysChain yX12_laysChain ∈ gw := gw_pv (n := 18) (List.mem_of_getElem? (i := 87) rfl)
theorem mw_276 : Cond.fieldLink RX12 46 "LeastPendingModel" "aheads" "[I" ∈ gw := gw_t6 136 rfl rfl
theorem mw_277 : Cond.code yX12_hasAhead cX12_hasAhead 7 (some .boolean) ∈ gw := gw_t8 92 rfl rfl
theorem mw_278 : Cond.instanceMethod yX12_hasAhead ∈ gw := gw_t8 91 rfl rfl
theorem mw_279 : Cond.methodLink RX12 337 yX12_hasAhead ∈ gw := gw_t8 89 rfl rfl
theorem mw_280 : Cond.selects RX12 yX12_hasAhead yX12_hasAhead ∈ gw := gw_pv (n := 18) (List.mem_of_getElem? (i := 89) rfl)
theorem mw_281 : Cond.code yX12_laysAheads cX12_laysAheads 4 none ∈ gw := gw_t8 88 rfl rfl
theorem mw_282 : Cond.instanceMethod yX12_laysAheads ∈ gw := gw_t8 87 rfl rfl
theorem mw_283 : Cond.methodLink RX12 340 yX12_laysAheads ∈ gw := gw_t8 85 rfl rfl
theorem mw_284 : Cond.selects RX12 yX12_laysAheads yX12_laysAheads ∈ gw := gw_pv (n := 18) (List.mem_of_getElem? (i := 88) rfl)
theorem mw_285 : Cond.code yX12_isBehindNone cX12_isBehindNone 5 (some .boolean) ∈ gw := gw_t8 104 rfl rfl
theorem mw_286 : Cond.instanceMethod yX12_isBehindNone ∈ gw := gw_t8 103 rfl rfl
theorem mw_287 : Cond.methodLink RX12 346 yX12_isBehindNone ∈ gw := gw_t8 101 rfl rfl
theorem mw_288 : Cond.selects RX12 yX12_isBehindNone yX12_isBehindNone ∈ gw := gw_pv (n := 18) (List.mem_of_getElem? (i := 91) rfl)
theorem mw_289 : Cond.code yX12_deliveredBy cX12_deliveredBy 2 (some .int) ∈ gw := gw_t8 100 rfl rfl
theorem mw_290 : Cond.instanceMethod yX12_deliveredBy ∈ gw := gw_t8 99 rfl rfl
theorem mw_291 : Cond.methodLink RX12 343 yX12_deliveredBy ∈ gw := gw_t8 97 rfl rfl
theorem mw_292 : Cond.selects RX12 yX12_deliveredBy yX12_deliveredBy ∈ gw := gw_pv (n := 18) (List.mem_of_getElem? (i := 90) rfl)
theorem mw_293 : Cond.code yX12_beginsAhead cX12_beginsAhead 1 none ∈ gw := gw_t8 116 rfl rfl
theorem mw_294 : Cond.instanceMethod yX12_beginsAhead ∈ gw := gw_t8 115 rfl rfl
theorem mw_295 : Cond.methodLink RX12 349 yX12_beginsAhead ∈ gw := gw_t8 113 rfl rfl
theorem mw_296 : Cond.selects RX12 yX12_beginsAhead yX12_beginsAhead ∈ gw := gw_pv (n := 18) (List.mem_of_getElem? (i := 92) rfl)
theorem mw_297 : Cond.code yX12_endsAhead cX12_endsAhead 1 none ∈ gw := gw_t8 124 rfl rfl
theorem mw_298 : Cond.instanceMethod yX12_endsAhead ∈ gw := gw_t8 123 rfl rfl
theorem mw_299 : Cond.methodLink RX12 352 yX12_endsAhead ∈ gw := gw_t8 121 rfl rfl
theorem mw_300 : Cond.selects RX12 yX12_endsAhead yX12_endsAhead ∈ gw := gw_pv (n := 18) (List.mem_of_getElem? (i := 94) rfl)
theorem hdX12_beginsAhead : yX12_beginsAhead.cls = RX12 ∧ yX12_beginsAhead.cls ≠ "java/lang/invoke/MethodHandle" ∧ yX12_beginsAhead.cls ≠ "java/lang/invoke/VarHandle" ∧ (parseMethodDescriptor yX12_beginsAhead.desc).map (fun d => d.parameters.length) = some 0 := by decide +kernel
theorem hdX12_blockOf : yX12_blockOf.cls = RX12 ∧ yX12_blockOf.cls ≠ "java/lang/invoke/MethodHandle" ∧ yX12_blockOf.cls ≠ "java/lang/invoke/VarHandle" ∧ (parseMethodDescriptor yX12_blockOf.desc).map (fun d => d.parameters.length) = some 2 := by decide +kernel
theorem hdX12_deliveredBy : yX12_deliveredBy.cls = RX12 ∧ yX12_deliveredBy.cls ≠ "java/lang/invoke/MethodHandle" ∧ yX12_deliveredBy.cls ≠ "java/lang/invoke/VarHandle" ∧ (parseMethodDescriptor yX12_deliveredBy.desc).map (fun d => d.parameters.length) = some 1 := by decide +kernel
theorem hdX12_endsAhead : yX12_endsAhead.cls = RX12 ∧ yX12_endsAhead.cls ≠ "java/lang/invoke/MethodHandle" ∧ yX12_endsAhead.cls ≠ "java/lang/invoke/VarHandle" ∧ (parseMethodDescriptor yX12_endsAhead.desc).map (fun d => d.parameters.length) = some 0 := by decide +kernel
theorem hdX12_hasAhead : yX12_hasAhead.cls = RX12 ∧ yX12_hasAhead.cls ≠ "java/lang/invoke/MethodHandle" ∧ yX12_hasAhead.cls ≠ "java/lang/invoke/VarHandle" ∧ (parseMethodDescriptor yX12_hasAhead.desc).map (fun d => d.parameters.length) = some 3 := by decide +kernel
theorem hdX12_isBehindNone : yX12_isBehindNone.cls = RX12 ∧ yX12_isBehindNone.cls ≠ "java/lang/invoke/MethodHandle" ∧ yX12_isBehindNone.cls ≠ "java/lang/invoke/VarHandle" ∧ (parseMethodDescriptor yX12_isBehindNone.desc).map (fun d => d.parameters.length) = some 2 := by decide +kernel
theorem hdX12_laysAheads : yX12_laysAheads.cls = RX12 ∧ yX12_laysAheads.cls ≠ "java/lang/invoke/MethodHandle" ∧ yX12_laysAheads.cls ≠ "java/lang/invoke/VarHandle" ∧ (parseMethodDescriptor yX12_laysAheads.desc).map (fun d => d.parameters.length) = some 0 := by decide +kernel
theorem hdX12_laysChain : yX12_laysChain.cls = RX12 ∧ yX12_laysChain.cls ≠ "java/lang/invoke/MethodHandle" ∧ yX12_laysChain.cls ≠ "java/lang/invoke/VarHandle" ∧ (parseMethodDescriptor yX12_laysChain.desc).map (fun d => d.parameters.length) = some 2 := by decide +kernel
theorem hdX12_packets : yX12_packets.cls = RX12 ∧ yX12_packets.cls ≠ "java/lang/invoke/MethodHandle" ∧ yX12_packets.cls ≠ "java/lang/invoke/VarHandle" ∧ (parseMethodDescriptor yX12_packets.desc).map (fun d => d.parameters.length) = some 0 := by decide +kernel
theorem hdX12_waitsOf : yX12_waitsOf.cls = RX12 ∧ yX12_waitsOf.cls ≠ "java/lang/invoke/MethodHandle" ∧ yX12_waitsOf.cls ≠ "java/lang/invoke/VarHandle" ∧ (parseMethodDescriptor yX12_waitsOf.desc).map (fun d => d.parameters.length) = some 1 := by decide +kernel
theorem hdJ6_numberOfTrailingZeros_0f7a4 : yJ6_numberOfTrailingZeros_0f7a4.cls ≠ "java/lang/invoke/MethodHandle" ∧ yJ6_numberOfTrailingZeros_0f7a4.cls ≠ "java/lang/invoke/VarHandle" ∧ (parseMethodDescriptor yJ6_numberOfTrailingZeros_0f7a4.desc).map (fun d => d.parameters.length) = some 1 := by decide +kernel
theorem dX12_packets_0 : decode cX12_packets 0 = .ok (.iconst 0, 1) := by decide +kernel
theorem dX12_packets_1 : decode cX12_packets 1 = .ok (.istore_n 1, 1) := by decide +kernel
theorem dX12_packets_2 : decode cX12_packets 2 = .ok (.iconst 0, 1) := by decide +kernel
theorem dX12_packets_3 : decode cX12_packets 3 = .ok (.istore_n 2, 1) := by decide +kernel
theorem dX12_packets_4 : decode cX12_packets 4 = .ok (.iload_n 2, 1) := by decide +kernel
theorem dX12_packets_5 : decode cX12_packets 5 = .ok (.aload_n 0, 1) := by decide +kernel
theorem dX12_packets_6 : decode cX12_packets 6 = .ok (.invokevirtual 66, 3) := by decide +kernel
theorem dX12_packets_9 : decode cX12_packets 9 = .ok (.if_icmp .ge 35, 3) := by decide +kernel
theorem dX12_packets_12 : decode cX12_packets 12 = .ok (.iconst 0, 1) := by decide +kernel
theorem dX12_packets_13 : decode cX12_packets 13 = .ok (.istore_n 3, 1) := by decide +kernel
theorem dX12_packets_14 : decode cX12_packets 14 = .ok (.iload_n 3, 1) := by decide +kernel
theorem dX12_packets_15 : decode cX12_packets 15 = .ok (.aload_n 0, 1) := by decide +kernel
theorem dX12_packets_16 : decode cX12_packets 16 = .ok (.invokevirtual 66, 3) := by decide +kernel
theorem dX12_packets_19 : decode cX12_packets 19 = .ok (.if_icmp .ge 19, 3) := by decide +kernel
theorem dX12_packets_22 : decode cX12_packets 22 = .ok (.iload_n 1, 1) := by decide +kernel
theorem dX12_packets_23 : decode cX12_packets 23 = .ok (.aload_n 0, 1) := by decide +kernel
theorem dX12_packets_24 : decode cX12_packets 24 = .ok (.iload_n 2, 1) := by decide +kernel
theorem dX12_packets_25 : decode cX12_packets 25 = .ok (.iload_n 3, 1) := by decide +kernel
theorem dX12_packets_26 : decode cX12_packets 26 = .ok (.iconst 2, 1) := by decide +kernel
theorem dX12_packets_27 : decode cX12_packets 27 = .ok (.invokevirtual 184, 3) := by decide +kernel
theorem dX12_packets_30 : decode cX12_packets 30 = .ok (.iadd, 1) := by decide +kernel
theorem dX12_packets_31 : decode cX12_packets 31 = .ok (.istore_n 1, 1) := by decide +kernel
theorem dX12_packets_32 : decode cX12_packets 32 = .ok (.iinc 3 1, 3) := by decide +kernel
theorem dX12_packets_35 : decode cX12_packets 35 = .ok (.goto (-21), 3) := by decide +kernel
theorem dX12_packets_38 : decode cX12_packets 38 = .ok (.iinc 2 1, 3) := by decide +kernel
theorem dX12_packets_41 : decode cX12_packets 41 = .ok (.goto (-37), 3) := by decide +kernel
theorem dX12_packets_44 : decode cX12_packets 44 = .ok (.iload_n 1, 1) := by decide +kernel
theorem dX12_packets_45 : decode cX12_packets 45 = .ok (.ireturn, 1) := by decide +kernel
theorem dX12_count_0 : decode cX12_count 0 = .ok (.aload_n 0, 1) := by decide +kernel
theorem dX12_count_1 : decode cX12_count 1 = .ok (.iconst 0, 1) := by decide +kernel
theorem dX12_count_2 : decode cX12_count 2 = .ok (.putfield 3, 3) := by decide +kernel
theorem dX12_count_5 : decode cX12_count 5 = .ok (.iload_n 1, 1) := by decide +kernel
theorem dX12_count_6 : decode cX12_count 6 = .ok (.tableswitch 121 0 9 #[54, 59, 66, 73, 78, 85, 92, 100, 108, 113], 54) := by decide +kernel
theorem dX12_count_60 : decode cX12_count 60 = .ok (.aload_n 0, 1) := by decide +kernel
theorem dX12_count_61 : decode cX12_count 61 = .ok (.invokevirtual 66, 3) := by decide +kernel
theorem dX12_count_64 : decode cX12_count 64 = .ok (.ireturn, 1) := by decide +kernel
theorem dX12_count_65 : decode cX12_count 65 = .ok (.aload_n 0, 1) := by decide +kernel
theorem dX12_count_66 : decode cX12_count 66 = .ok (.getfield 13, 3) := by decide +kernel
theorem dX12_count_69 : decode cX12_count 69 = .ok (.iconst 1, 1) := by decide +kernel
theorem dX12_count_70 : decode cX12_count 70 = .ok (.iaload, 1) := by decide +kernel
theorem dX12_count_71 : decode cX12_count 71 = .ok (.ireturn, 1) := by decide +kernel
theorem dX12_count_72 : decode cX12_count 72 = .ok (.aload_n 0, 1) := by decide +kernel
theorem dX12_count_73 : decode cX12_count 73 = .ok (.getfield 13, 3) := by decide +kernel
theorem dX12_count_76 : decode cX12_count 76 = .ok (.iconst 2, 1) := by decide +kernel
theorem dX12_count_77 : decode cX12_count 77 = .ok (.iaload, 1) := by decide +kernel
theorem dX12_count_78 : decode cX12_count 78 = .ok (.ireturn, 1) := by decide +kernel
theorem dX12_count_79 : decode cX12_count 79 = .ok (.aload_n 0, 1) := by decide +kernel
theorem dX12_count_80 : decode cX12_count 80 = .ok (.invokevirtual 74, 3) := by decide +kernel
theorem dX12_count_83 : decode cX12_count 83 = .ok (.ireturn, 1) := by decide +kernel
theorem dX12_count_84 : decode cX12_count 84 = .ok (.aload_n 0, 1) := by decide +kernel
theorem dX12_count_85 : decode cX12_count 85 = .ok (.getfield 13, 3) := by decide +kernel
theorem dX12_count_88 : decode cX12_count 88 = .ok (.iconst 4, 1) := by decide +kernel
theorem dX12_count_89 : decode cX12_count 89 = .ok (.iaload, 1) := by decide +kernel
theorem dX12_count_90 : decode cX12_count 90 = .ok (.ireturn, 1) := by decide +kernel
theorem dX12_count_91 : decode cX12_count 91 = .ok (.aload_n 0, 1) := by decide +kernel
theorem dX12_count_92 : decode cX12_count 92 = .ok (.getfield 13, 3) := by decide +kernel
theorem dX12_count_95 : decode cX12_count 95 = .ok (.iconst 5, 1) := by decide +kernel
theorem dX12_count_96 : decode cX12_count 96 = .ok (.iaload, 1) := by decide +kernel
theorem dX12_count_97 : decode cX12_count 97 = .ok (.ireturn, 1) := by decide +kernel
theorem dX12_count_98 : decode cX12_count 98 = .ok (.aload_n 0, 1) := by decide +kernel
theorem dX12_count_99 : decode cX12_count 99 = .ok (.getfield 13, 3) := by decide +kernel
theorem dX12_count_102 : decode cX12_count 102 = .ok (.bipush 6, 2) := by decide +kernel
theorem dX12_count_104 : decode cX12_count 104 = .ok (.iaload, 1) := by decide +kernel
theorem dX12_count_105 : decode cX12_count 105 = .ok (.ireturn, 1) := by decide +kernel
theorem dX12_count_106 : decode cX12_count 106 = .ok (.aload_n 0, 1) := by decide +kernel
theorem dX12_count_107 : decode cX12_count 107 = .ok (.getfield 13, 3) := by decide +kernel
theorem dX12_count_110 : decode cX12_count 110 = .ok (.bipush 7, 2) := by decide +kernel
theorem dX12_count_112 : decode cX12_count 112 = .ok (.iaload, 1) := by decide +kernel
theorem dX12_count_113 : decode cX12_count 113 = .ok (.ireturn, 1) := by decide +kernel
theorem dX12_count_114 : decode cX12_count 114 = .ok (.aload_n 0, 1) := by decide +kernel
theorem dX12_count_115 : decode cX12_count 115 = .ok (.invokevirtual 322, 3) := by decide +kernel
theorem dX12_count_118 : decode cX12_count 118 = .ok (.ireturn, 1) := by decide +kernel
theorem dX12_count_119 : decode cX12_count 119 = .ok (.aload_n 0, 1) := by decide +kernel
theorem dX12_count_120 : decode cX12_count 120 = .ok (.getfield 13, 3) := by decide +kernel
theorem dX12_count_123 : decode cX12_count 123 = .ok (.bipush 9, 2) := by decide +kernel
theorem dX12_count_125 : decode cX12_count 125 = .ok (.iaload, 1) := by decide +kernel
theorem dX12_count_126 : decode cX12_count 126 = .ok (.ireturn, 1) := by decide +kernel
theorem dX12_count_127 : decode cX12_count 127 = .ok (.iconst (-1), 1) := by decide +kernel
theorem dX12_count_128 : decode cX12_count 128 = .ok (.ireturn, 1) := by decide +kernel
theorem dX12_blockOf_0 : decode cX12_blockOf 0 = .ok (.aload_n 0, 1) := by decide +kernel
theorem dX12_blockOf_1 : decode cX12_blockOf 1 = .ok (.iload_n 1, 1) := by decide +kernel
theorem dX12_blockOf_2 : decode cX12_blockOf 2 = .ok (.iload_n 2, 1) := by decide +kernel
theorem dX12_blockOf_3 : decode cX12_blockOf 3 = .ok (.iconst 0, 1) := by decide +kernel
theorem dX12_blockOf_4 : decode cX12_blockOf 4 = .ok (.invokevirtual 219, 3) := by decide +kernel
theorem dX12_blockOf_7 : decode cX12_blockOf 7 = .ok (.iconst 1, 1) := by decide +kernel
theorem dX12_blockOf_8 : decode cX12_blockOf 8 = .ok (.iconst 2, 1) := by decide +kernel
theorem dX12_blockOf_9 : decode cX12_blockOf 9 = .ok (.invokestatic 70, 3) := by decide +kernel
theorem dX12_blockOf_12 : decode cX12_blockOf 12 = .ok (.ifCond .ne 5, 3) := by decide +kernel
theorem dX12_blockOf_15 : decode cX12_blockOf 15 = .ok (.iconst (-1), 1) := by decide +kernel
theorem dX12_blockOf_16 : decode cX12_blockOf 16 = .ok (.ireturn, 1) := by decide +kernel
theorem dX12_blockOf_17 : decode cX12_blockOf 17 = .ok (.iconst (-1), 1) := by decide +kernel
theorem dX12_blockOf_18 : decode cX12_blockOf 18 = .ok (.istore_n 3, 1) := by decide +kernel
theorem dX12_blockOf_19 : decode cX12_blockOf 19 = .ok (.iconst 0, 1) := by decide +kernel
theorem dX12_blockOf_20 : decode cX12_blockOf 20 = .ok (.istore 4, 2) := by decide +kernel
theorem dX12_blockOf_22 : decode cX12_blockOf 22 = .ok (.iload 4, 2) := by decide +kernel
theorem dX12_blockOf_24 : decode cX12_blockOf 24 = .ok (.aload_n 0, 1) := by decide +kernel
theorem dX12_blockOf_25 : decode cX12_blockOf 25 = .ok (.invokevirtual 74, 3) := by decide +kernel
theorem dX12_blockOf_28 : decode cX12_blockOf 28 = .ok (.if_icmp .ge 69, 3) := by decide +kernel
theorem dX12_blockOf_31 : decode cX12_blockOf 31 = .ok (.aload_n 0, 1) := by decide +kernel
theorem dX12_blockOf_32 : decode cX12_blockOf 32 = .ok (.iload_n 1, 1) := by decide +kernel
theorem dX12_blockOf_33 : decode cX12_blockOf 33 = .ok (.iload 4, 2) := by decide +kernel
theorem dX12_blockOf_35 : decode cX12_blockOf 35 = .ok (.iconst 0, 1) := by decide +kernel
theorem dX12_blockOf_36 : decode cX12_blockOf 36 = .ok (.invokevirtual 219, 3) := by decide +kernel
theorem dX12_blockOf_39 : decode cX12_blockOf 39 = .ok (.iconst 1, 1) := by decide +kernel
theorem dX12_blockOf_40 : decode cX12_blockOf 40 = .ok (.if_icmp .ne 24, 3) := by decide +kernel
theorem dX12_blockOf_43 : decode cX12_blockOf 43 = .ok (.iload 4, 2) := by decide +kernel
theorem dX12_blockOf_45 : decode cX12_blockOf 45 = .ok (.iload_n 2, 1) := by decide +kernel
theorem dX12_blockOf_46 : decode cX12_blockOf 46 = .ok (.if_icmp .eq 14, 3) := by decide +kernel
theorem dX12_blockOf_49 : decode cX12_blockOf 49 = .ok (.aload_n 0, 1) := by decide +kernel
theorem dX12_blockOf_50 : decode cX12_blockOf 50 = .ok (.iload_n 1, 1) := by decide +kernel
theorem dX12_blockOf_51 : decode cX12_blockOf 51 = .ok (.iload 4, 2) := by decide +kernel
theorem dX12_blockOf_53 : decode cX12_blockOf 53 = .ok (.iload_n 2, 1) := by decide +kernel
theorem dX12_blockOf_54 : decode cX12_blockOf 54 = .ok (.invokevirtual 257, 3) := by decide +kernel
theorem dX12_blockOf_57 : decode cX12_blockOf 57 = .ok (.ifCond .eq 7, 3) := by decide +kernel
theorem dX12_blockOf_60 : decode cX12_blockOf 60 = .ok (.iconst 1, 1) := by decide +kernel
theorem dX12_blockOf_61 : decode cX12_blockOf 61 = .ok (.goto 4, 3) := by decide +kernel
theorem dX12_blockOf_64 : decode cX12_blockOf 64 = .ok (.iconst 0, 1) := by decide +kernel
theorem dX12_blockOf_65 : decode cX12_blockOf 65 = .ok (.istore 5, 2) := by decide +kernel
theorem dX12_blockOf_67 : decode cX12_blockOf 67 = .ok (.iload 5, 2) := by decide +kernel
theorem dX12_blockOf_69 : decode cX12_blockOf 69 = .ok (.ifCond .eq 22, 3) := by decide +kernel
theorem dX12_blockOf_72 : decode cX12_blockOf 72 = .ok (.iload_n 3, 1) := by decide +kernel
theorem dX12_blockOf_73 : decode cX12_blockOf 73 = .ok (.iconst (-1), 1) := by decide +kernel
theorem dX12_blockOf_74 : decode cX12_blockOf 74 = .ok (.if_icmp .eq 14, 3) := by decide +kernel
theorem dX12_blockOf_77 : decode cX12_blockOf 77 = .ok (.aload_n 0, 1) := by decide +kernel
theorem dX12_blockOf_78 : decode cX12_blockOf 78 = .ok (.iload_n 1, 1) := by decide +kernel
theorem dX12_blockOf_79 : decode cX12_blockOf 79 = .ok (.iload 4, 2) := by decide +kernel
theorem dX12_blockOf_81 : decode cX12_blockOf 81 = .ok (.iload_n 3, 1) := by decide +kernel
theorem dX12_blockOf_82 : decode cX12_blockOf 82 = .ok (.invokevirtual 257, 3) := by decide +kernel
theorem dX12_blockOf_85 : decode cX12_blockOf 85 = .ok (.ifCond .eq 6, 3) := by decide +kernel
theorem dX12_blockOf_88 : decode cX12_blockOf 88 = .ok (.iload 4, 2) := by decide +kernel
theorem dX12_blockOf_90 : decode cX12_blockOf 90 = .ok (.istore_n 3, 1) := by decide +kernel
theorem dX12_blockOf_91 : decode cX12_blockOf 91 = .ok (.iinc 4 1, 3) := by decide +kernel
theorem dX12_blockOf_94 : decode cX12_blockOf 94 = .ok (.goto (-72), 3) := by decide +kernel
theorem dX12_blockOf_97 : decode cX12_blockOf 97 = .ok (.iload_n 3, 1) := by decide +kernel
theorem dX12_blockOf_98 : decode cX12_blockOf 98 = .ok (.ireturn, 1) := by decide +kernel
theorem dX12_block_0 : decode cX12_block 0 = .ok (.aload_n 0, 1) := by decide +kernel
theorem dX12_block_1 : decode cX12_block 1 = .ok (.iload_n 1, 1) := by decide +kernel
theorem dX12_block_2 : decode cX12_block 2 = .ok (.iload_n 2, 1) := by decide +kernel
theorem dX12_block_3 : decode cX12_block 3 = .ok (.invokevirtual 316, 3) := by decide +kernel
theorem dX12_block_6 : decode cX12_block 6 = .ok (.ifCond .eq 7, 3) := by decide +kernel
theorem dX12_block_9 : decode cX12_block 9 = .ok (.iconst 0, 1) := by decide +kernel
theorem dX12_block_10 : decode cX12_block 10 = .ok (.goto 9, 3) := by decide +kernel
theorem dX12_block_13 : decode cX12_block 13 = .ok (.aload_n 0, 1) := by decide +kernel
theorem dX12_block_14 : decode cX12_block 14 = .ok (.iload_n 1, 1) := by decide +kernel
theorem dX12_block_15 : decode cX12_block 15 = .ok (.iload_n 2, 1) := by decide +kernel
theorem dX12_block_16 : decode cX12_block 16 = .ok (.invokevirtual 325, 3) := by decide +kernel
theorem dX12_block_19 : decode cX12_block 19 = .ok (.ireturn, 1) := by decide +kernel
theorem dX12_waitsOf_0 : decode cX12_waitsOf 0 = .ok (.iconst (-1), 1) := by decide +kernel
theorem dX12_waitsOf_1 : decode cX12_waitsOf 1 = .ok (.istore_n 2, 1) := by decide +kernel
theorem dX12_waitsOf_2 : decode cX12_waitsOf 2 = .ok (.iconst 0, 1) := by decide +kernel
theorem dX12_waitsOf_3 : decode cX12_waitsOf 3 = .ok (.istore_n 3, 1) := by decide +kernel
theorem dX12_waitsOf_4 : decode cX12_waitsOf 4 = .ok (.iload_n 3, 1) := by decide +kernel
theorem dX12_waitsOf_5 : decode cX12_waitsOf 5 = .ok (.aload_n 0, 1) := by decide +kernel
theorem dX12_waitsOf_6 : decode cX12_waitsOf 6 = .ok (.invokevirtual 66, 3) := by decide +kernel
theorem dX12_waitsOf_9 : decode cX12_waitsOf 9 = .ok (.if_icmp .ge 114, 3) := by decide +kernel
theorem dX12_waitsOf_12 : decode cX12_waitsOf 12 = .ok (.aload_n 0, 1) := by decide +kernel
theorem dX12_waitsOf_13 : decode cX12_waitsOf 13 = .ok (.iload_n 3, 1) := by decide +kernel
theorem dX12_waitsOf_14 : decode cX12_waitsOf 14 = .ok (.invokevirtual 80, 3) := by decide +kernel
theorem dX12_waitsOf_17 : decode cX12_waitsOf 17 = .ok (.ifCond .eq 100, 3) := by decide +kernel
theorem dX12_waitsOf_20 : decode cX12_waitsOf 20 = .ok (.aload_n 0, 1) := by decide +kernel
theorem dX12_waitsOf_21 : decode cX12_waitsOf 21 = .ok (.iload_n 3, 1) := by decide +kernel
theorem dX12_waitsOf_22 : decode cX12_waitsOf 22 = .ok (.iload_n 1, 1) := by decide +kernel
theorem dX12_waitsOf_23 : decode cX12_waitsOf 23 = .ok (.iconst 5, 1) := by decide +kernel
theorem dX12_waitsOf_24 : decode cX12_waitsOf 24 = .ok (.invokevirtual 219, 3) := by decide +kernel
theorem dX12_waitsOf_27 : decode cX12_waitsOf 27 = .ok (.ifCond .ne 6, 3) := by decide +kernel
theorem dX12_waitsOf_30 : decode cX12_waitsOf 30 = .ok (.goto 87, 3) := by decide +kernel
theorem dX12_waitsOf_33 : decode cX12_waitsOf 33 = .ok (.iconst 0, 1) := by decide +kernel
theorem dX12_waitsOf_34 : decode cX12_waitsOf 34 = .ok (.istore 4, 2) := by decide +kernel
theorem dX12_waitsOf_36 : decode cX12_waitsOf 36 = .ok (.iconst 0, 1) := by decide +kernel
theorem dX12_waitsOf_37 : decode cX12_waitsOf 37 = .ok (.istore 5, 2) := by decide +kernel
theorem dX12_waitsOf_39 : decode cX12_waitsOf 39 = .ok (.iload 5, 2) := by decide +kernel
theorem dX12_waitsOf_41 : decode cX12_waitsOf 41 = .ok (.aload_n 0, 1) := by decide +kernel
theorem dX12_waitsOf_42 : decode cX12_waitsOf 42 = .ok (.invokevirtual 66, 3) := by decide +kernel
theorem dX12_waitsOf_45 : decode cX12_waitsOf 45 = .ok (.if_icmp .ge 57, 3) := by decide +kernel
theorem dX12_waitsOf_48 : decode cX12_waitsOf 48 = .ok (.iload 4, 2) := by decide +kernel
theorem dX12_waitsOf_50 : decode cX12_waitsOf 50 = .ok (.aload_n 0, 1) := by decide +kernel
theorem dX12_waitsOf_51 : decode cX12_waitsOf 51 = .ok (.iload_n 1, 1) := by decide +kernel
theorem dX12_waitsOf_52 : decode cX12_waitsOf 52 = .ok (.iload 5, 2) := by decide +kernel
theorem dX12_waitsOf_54 : decode cX12_waitsOf 54 = .ok (.invokevirtual 196, 3) := by decide +kernel
theorem dX12_waitsOf_57 : decode cX12_waitsOf 57 = .ok (.ifCond .eq 35, 3) := by decide +kernel
theorem dX12_waitsOf_60 : decode cX12_waitsOf 60 = .ok (.aload_n 0, 1) := by decide +kernel
theorem dX12_waitsOf_61 : decode cX12_waitsOf 61 = .ok (.iload 5, 2) := by decide +kernel
theorem dX12_waitsOf_63 : decode cX12_waitsOf 63 = .ok (.invokevirtual 181, 3) := by decide +kernel
theorem dX12_waitsOf_66 : decode cX12_waitsOf 66 = .ok (.ifCond .ne 26, 3) := by decide +kernel
theorem dX12_waitsOf_69 : decode cX12_waitsOf 69 = .ok (.aload_n 0, 1) := by decide +kernel
theorem dX12_waitsOf_70 : decode cX12_waitsOf 70 = .ok (.iload_n 3, 1) := by decide +kernel
theorem dX12_waitsOf_71 : decode cX12_waitsOf 71 = .ok (.iload_n 1, 1) := by decide +kernel
theorem dX12_waitsOf_72 : decode cX12_waitsOf 72 = .ok (.bipush 6, 2) := by decide +kernel
theorem dX12_waitsOf_74 : decode cX12_waitsOf 74 = .ok (.invokevirtual 219, 3) := by decide +kernel
theorem dX12_waitsOf_77 : decode cX12_waitsOf 77 = .ok (.iload 5, 2) := by decide +kernel
theorem dX12_waitsOf_79 : decode cX12_waitsOf 79 = .ok (.invokestatic 87, 3) := by decide +kernel
theorem dX12_waitsOf_82 : decode cX12_waitsOf 82 = .ok (.ifCond .ne 10, 3) := by decide +kernel
theorem dX12_waitsOf_85 : decode cX12_waitsOf 85 = .ok (.iconst 1, 1) := by decide +kernel
theorem dX12_waitsOf_86 : decode cX12_waitsOf 86 = .ok (.iload 5, 2) := by decide +kernel
theorem dX12_waitsOf_88 : decode cX12_waitsOf 88 = .ok (.ishl, 1) := by decide +kernel
theorem dX12_waitsOf_89 : decode cX12_waitsOf 89 = .ok (.goto 4, 3) := by decide +kernel
theorem dX12_waitsOf_92 : decode cX12_waitsOf 92 = .ok (.iconst 0, 1) := by decide +kernel
theorem dX12_waitsOf_93 : decode cX12_waitsOf 93 = .ok (.ior, 1) := by decide +kernel
theorem dX12_waitsOf_94 : decode cX12_waitsOf 94 = .ok (.istore 4, 2) := by decide +kernel
theorem dX12_waitsOf_96 : decode cX12_waitsOf 96 = .ok (.iinc 5 1, 3) := by decide +kernel
theorem dX12_waitsOf_99 : decode cX12_waitsOf 99 = .ok (.goto (-60), 3) := by decide +kernel
theorem dX12_waitsOf_102 : decode cX12_waitsOf 102 = .ok (.iload_n 2, 1) := by decide +kernel
theorem dX12_waitsOf_103 : decode cX12_waitsOf 103 = .ok (.iconst (-1), 1) := by decide +kernel
theorem dX12_waitsOf_104 : decode cX12_waitsOf 104 = .ok (.if_icmp .ne 8, 3) := by decide +kernel
theorem dX12_waitsOf_107 : decode cX12_waitsOf 107 = .ok (.iload 4, 2) := by decide +kernel
theorem dX12_waitsOf_109 : decode cX12_waitsOf 109 = .ok (.goto 7, 3) := by decide +kernel
theorem dX12_waitsOf_112 : decode cX12_waitsOf 112 = .ok (.iload_n 2, 1) := by decide +kernel
theorem dX12_waitsOf_113 : decode cX12_waitsOf 113 = .ok (.iload 4, 2) := by decide +kernel
theorem dX12_waitsOf_115 : decode cX12_waitsOf 115 = .ok (.ior, 1) := by decide +kernel
theorem dX12_waitsOf_116 : decode cX12_waitsOf 116 = .ok (.istore_n 2, 1) := by decide +kernel
theorem dX12_waitsOf_117 : decode cX12_waitsOf 117 = .ok (.iinc 3 1, 3) := by decide +kernel
theorem dX12_waitsOf_120 : decode cX12_waitsOf 120 = .ok (.goto (-116), 3) := by decide +kernel
theorem dX12_waitsOf_123 : decode cX12_waitsOf 123 = .ok (.iload_n 2, 1) := by decide +kernel
theorem dX12_waitsOf_124 : decode cX12_waitsOf 124 = .ok (.ireturn, 1) := by decide +kernel
theorem dX12_waits_0 : decode cX12_waits 0 = .ok (.aload_n 0, 1) := by decide +kernel
theorem dX12_waits_1 : decode cX12_waits 1 = .ok (.iconst 0, 1) := by decide +kernel
theorem dX12_waits_2 : decode cX12_waits 2 = .ok (.putfield 3, 3) := by decide +kernel
theorem dX12_waits_5 : decode cX12_waits 5 = .ok (.aload_n 0, 1) := by decide +kernel
theorem dX12_waits_6 : decode cX12_waits 6 = .ok (.aload_n 0, 1) := by decide +kernel
theorem dX12_waits_7 : decode cX12_waits 7 = .ok (.iload_n 1, 1) := by decide +kernel
theorem dX12_waits_8 : decode cX12_waits 8 = .ok (.invokevirtual 310, 3) := by decide +kernel
theorem dX12_waits_11 : decode cX12_waits 11 = .ok (.iconst 1, 1) := by decide +kernel
theorem dX12_waits_12 : decode cX12_waits 12 = .ok (.invokevirtual 176, 3) := by decide +kernel
theorem dX12_waits_15 : decode cX12_waits 15 = .ok (.ifCond .eq 7, 3) := by decide +kernel
theorem dX12_waits_18 : decode cX12_waits 18 = .ok (.iconst 0, 1) := by decide +kernel
theorem dX12_waits_19 : decode cX12_waits 19 = .ok (.goto 8, 3) := by decide +kernel
theorem dX12_waits_22 : decode cX12_waits 22 = .ok (.aload_n 0, 1) := by decide +kernel
theorem dX12_waits_23 : decode cX12_waits 23 = .ok (.iload_n 1, 1) := by decide +kernel
theorem dX12_waits_24 : decode cX12_waits 24 = .ok (.invokevirtual 328, 3) := by decide +kernel
theorem dX12_waits_27 : decode cX12_waits 27 = .ok (.ireturn, 1) := by decide +kernel
theorem dX12_laysChain_0 : decode cX12_laysChain 0 = .ok (.iconst 0, 1) := by decide +kernel
theorem dX12_laysChain_1 : decode cX12_laysChain 1 = .ok (.istore_n 3, 1) := by decide +kernel
theorem dX12_laysChain_2 : decode cX12_laysChain 2 = .ok (.iconst 1, 1) := by decide +kernel
theorem dX12_laysChain_3 : decode cX12_laysChain 3 = .ok (.iload_n 2, 1) := by decide +kernel
theorem dX12_laysChain_4 : decode cX12_laysChain 4 = .ok (.ishl, 1) := by decide +kernel
theorem dX12_laysChain_5 : decode cX12_laysChain 5 = .ok (.istore 4, 2) := by decide +kernel
theorem dX12_laysChain_7 : decode cX12_laysChain 7 = .ok (.aload_n 0, 1) := by decide +kernel
theorem dX12_laysChain_8 : decode cX12_laysChain 8 = .ok (.iload_n 1, 1) := by decide +kernel
theorem dX12_laysChain_9 : decode cX12_laysChain 9 = .ok (.iload_n 2, 1) := by decide +kernel
theorem dX12_laysChain_10 : decode cX12_laysChain 10 = .ok (.invokevirtual 325, 3) := by decide +kernel
theorem dX12_laysChain_13 : decode cX12_laysChain 13 = .ok (.istore 5, 2) := by decide +kernel
theorem dX12_laysChain_15 : decode cX12_laysChain 15 = .ok (.iload 5, 2) := by decide +kernel
theorem dX12_laysChain_17 : decode cX12_laysChain 17 = .ok (.iconst (-1), 1) := by decide +kernel
theorem dX12_laysChain_18 : decode cX12_laysChain 18 = .ok (.if_icmp .eq 72, 3) := by decide +kernel
theorem dX12_laysChain_21 : decode cX12_laysChain 21 = .ok (.iload 4, 2) := by decide +kernel
theorem dX12_laysChain_23 : decode cX12_laysChain 23 = .ok (.iload 5, 2) := by decide +kernel
theorem dX12_laysChain_25 : decode cX12_laysChain 25 = .ok (.invokestatic 87, 3) := by decide +kernel
theorem dX12_laysChain_28 : decode cX12_laysChain 28 = .ok (.ifCond .ne 62, 3) := by decide +kernel
theorem dX12_laysChain_31 : decode cX12_laysChain 31 = .ok (.aload_n 0, 1) := by decide +kernel
theorem dX12_laysChain_32 : decode cX12_laysChain 32 = .ok (.getfield 43, 3) := by decide +kernel
theorem dX12_laysChain_35 : decode cX12_laysChain 35 = .ok (.iload_n 3, 1) := by decide +kernel
theorem dX12_laysChain_36 : decode cX12_laysChain 36 = .ok (.iload 5, 2) := by decide +kernel
theorem dX12_laysChain_38 : decode cX12_laysChain 38 = .ok (.iastore, 1) := by decide +kernel
theorem dX12_laysChain_39 : decode cX12_laysChain 39 = .ok (.iinc 3 1, 3) := by decide +kernel
theorem dX12_laysChain_42 : decode cX12_laysChain 42 = .ok (.iload 4, 2) := by decide +kernel
theorem dX12_laysChain_44 : decode cX12_laysChain 44 = .ok (.iconst 1, 1) := by decide +kernel
theorem dX12_laysChain_45 : decode cX12_laysChain 45 = .ok (.iload 5, 2) := by decide +kernel
theorem dX12_laysChain_47 : decode cX12_laysChain 47 = .ok (.ishl, 1) := by decide +kernel
theorem dX12_laysChain_48 : decode cX12_laysChain 48 = .ok (.ior, 1) := by decide +kernel
theorem dX12_laysChain_49 : decode cX12_laysChain 49 = .ok (.istore 4, 2) := by decide +kernel
theorem dX12_laysChain_51 : decode cX12_laysChain 51 = .ok (.aload_n 0, 1) := by decide +kernel
theorem dX12_laysChain_52 : decode cX12_laysChain 52 = .ok (.iload 5, 2) := by decide +kernel
theorem dX12_laysChain_54 : decode cX12_laysChain 54 = .ok (.invokevirtual 328, 3) := by decide +kernel
theorem dX12_laysChain_57 : decode cX12_laysChain 57 = .ok (.istore 6, 2) := by decide +kernel
theorem dX12_laysChain_59 : decode cX12_laysChain 59 = .ok (.aload_n 0, 1) := by decide +kernel
theorem dX12_laysChain_60 : decode cX12_laysChain 60 = .ok (.iload 6, 2) := by decide +kernel
theorem dX12_laysChain_62 : decode cX12_laysChain 62 = .ok (.iconst (-1), 1) := by decide +kernel
theorem dX12_laysChain_63 : decode cX12_laysChain 63 = .ok (.if_icmp .eq 8, 3) := by decide +kernel
theorem dX12_laysChain_66 : decode cX12_laysChain 66 = .ok (.iload 6, 2) := by decide +kernel
theorem dX12_laysChain_68 : decode cX12_laysChain 68 = .ok (.ifCond .ne 7, 3) := by decide +kernel
theorem dX12_laysChain_71 : decode cX12_laysChain 71 = .ok (.iload_n 1, 1) := by decide +kernel
theorem dX12_laysChain_72 : decode cX12_laysChain 72 = .ok (.goto 8, 3) := by decide +kernel
theorem dX12_laysChain_75 : decode cX12_laysChain 75 = .ok (.iload 6, 2) := by decide +kernel
theorem dX12_laysChain_77 : decode cX12_laysChain 77 = .ok (.invokestatic 331, 3) := by decide +kernel
theorem dX12_laysChain_80 : decode cX12_laysChain 80 = .ok (.iload 5, 2) := by decide +kernel
theorem dX12_laysChain_82 : decode cX12_laysChain 82 = .ok (.invokevirtual 325, 3) := by decide +kernel
theorem dX12_laysChain_85 : decode cX12_laysChain 85 = .ok (.istore 5, 2) := by decide +kernel
theorem dX12_laysChain_87 : decode cX12_laysChain 87 = .ok (.goto (-72), 3) := by decide +kernel
theorem dX12_laysChain_90 : decode cX12_laysChain 90 = .ok (.iload_n 3, 1) := by decide +kernel
theorem dX12_laysChain_91 : decode cX12_laysChain 91 = .ok (.ireturn, 1) := by decide +kernel
theorem dX12_chain_0 : decode cX12_chain 0 = .ok (.aload_n 0, 1) := by decide +kernel
theorem dX12_chain_1 : decode cX12_chain 1 = .ok (.iload_n 1, 1) := by decide +kernel
theorem dX12_chain_2 : decode cX12_chain 2 = .ok (.iload_n 2, 1) := by decide +kernel
theorem dX12_chain_3 : decode cX12_chain 3 = .ok (.invokevirtual 316, 3) := by decide +kernel
theorem dX12_chain_6 : decode cX12_chain 6 = .ok (.ifCond .eq 5, 3) := by decide +kernel
theorem dX12_chain_9 : decode cX12_chain 9 = .ok (.iconst 0, 1) := by decide +kernel
theorem dX12_chain_10 : decode cX12_chain 10 = .ok (.ireturn, 1) := by decide +kernel
theorem dX12_chain_11 : decode cX12_chain 11 = .ok (.iload_n 3, 1) := by decide +kernel
theorem dX12_chain_12 : decode cX12_chain 12 = .ok (.iconst 0, 1) := by decide +kernel
theorem dX12_chain_13 : decode cX12_chain 13 = .ok (.aload_n 0, 1) := by decide +kernel
theorem dX12_chain_14 : decode cX12_chain 14 = .ok (.iload_n 1, 1) := by decide +kernel
theorem dX12_chain_15 : decode cX12_chain 15 = .ok (.iload_n 2, 1) := by decide +kernel
theorem dX12_chain_16 : decode cX12_chain 16 = .ok (.invokevirtual 334, 3) := by decide +kernel
theorem dX12_chain_19 : decode cX12_chain 19 = .ok (.iconst 1, 1) := by decide +kernel
theorem dX12_chain_20 : decode cX12_chain 20 = .ok (.isub, 1) := by decide +kernel
theorem dX12_chain_21 : decode cX12_chain 21 = .ok (.invokestatic 70, 3) := by decide +kernel
theorem dX12_chain_24 : decode cX12_chain 24 = .ok (.ifCond .eq 12, 3) := by decide +kernel
theorem dX12_chain_27 : decode cX12_chain 27 = .ok (.aload_n 0, 1) := by decide +kernel
theorem dX12_chain_28 : decode cX12_chain 28 = .ok (.getfield 43, 3) := by decide +kernel
theorem dX12_chain_31 : decode cX12_chain 31 = .ok (.iload_n 3, 1) := by decide +kernel
theorem dX12_chain_32 : decode cX12_chain 32 = .ok (.iaload, 1) := by decide +kernel
theorem dX12_chain_33 : decode cX12_chain 33 = .ok (.goto 4, 3) := by decide +kernel
theorem dX12_chain_36 : decode cX12_chain 36 = .ok (.iconst (-1), 1) := by decide +kernel
theorem dX12_chain_37 : decode cX12_chain 37 = .ok (.ireturn, 1) := by decide +kernel
theorem dX12_hasAhead_0 : decode cX12_hasAhead 0 = .ok (.iconst 0, 1) := by decide +kernel
theorem dX12_hasAhead_1 : decode cX12_hasAhead 1 = .ok (.istore 4, 2) := by decide +kernel
theorem dX12_hasAhead_3 : decode cX12_hasAhead 3 = .ok (.iconst 0, 1) := by decide +kernel
theorem dX12_hasAhead_4 : decode cX12_hasAhead 4 = .ok (.istore 5, 2) := by decide +kernel
theorem dX12_hasAhead_6 : decode cX12_hasAhead 6 = .ok (.iconst 0, 1) := by decide +kernel
theorem dX12_hasAhead_7 : decode cX12_hasAhead 7 = .ok (.istore 6, 2) := by decide +kernel
theorem dX12_hasAhead_9 : decode cX12_hasAhead 9 = .ok (.iload 6, 2) := by decide +kernel
theorem dX12_hasAhead_11 : decode cX12_hasAhead 11 = .ok (.aload_n 0, 1) := by decide +kernel
theorem dX12_hasAhead_12 : decode cX12_hasAhead 12 = .ok (.iload_n 1, 1) := by decide +kernel
theorem dX12_hasAhead_13 : decode cX12_hasAhead 13 = .ok (.iconst 4, 1) := by decide +kernel
theorem dX12_hasAhead_14 : decode cX12_hasAhead 14 = .ok (.invokevirtual 77, 3) := by decide +kernel
theorem dX12_hasAhead_17 : decode cX12_hasAhead 17 = .ok (.if_icmp .ge 64, 3) := by decide +kernel
theorem dX12_hasAhead_20 : decode cX12_hasAhead 20 = .ok (.iload 5, 2) := by decide +kernel
theorem dX12_hasAhead_22 : decode cX12_hasAhead 22 = .ok (.ifCond .ne 21, 3) := by decide +kernel
theorem dX12_hasAhead_25 : decode cX12_hasAhead 25 = .ok (.iload 4, 2) := by decide +kernel
theorem dX12_hasAhead_27 : decode cX12_hasAhead 27 = .ok (.ifCond .eq 20, 3) := by decide +kernel
theorem dX12_hasAhead_30 : decode cX12_hasAhead 30 = .ok (.aload_n 0, 1) := by decide +kernel
theorem dX12_hasAhead_31 : decode cX12_hasAhead 31 = .ok (.iload_n 1, 1) := by decide +kernel
theorem dX12_hasAhead_32 : decode cX12_hasAhead 32 = .ok (.iconst 5, 1) := by decide +kernel
theorem dX12_hasAhead_33 : decode cX12_hasAhead 33 = .ok (.iload 6, 2) := by decide +kernel
theorem dX12_hasAhead_35 : decode cX12_hasAhead 35 = .ok (.iadd, 1) := by decide +kernel
theorem dX12_hasAhead_36 : decode cX12_hasAhead 36 = .ok (.invokevirtual 77, 3) := by decide +kernel
theorem dX12_hasAhead_39 : decode cX12_hasAhead 39 = .ok (.iload_n 3, 1) := by decide +kernel
theorem dX12_hasAhead_40 : decode cX12_hasAhead 40 = .ok (.if_icmp .ne 7, 3) := by decide +kernel
theorem dX12_hasAhead_43 : decode cX12_hasAhead 43 = .ok (.iconst 1, 1) := by decide +kernel
theorem dX12_hasAhead_44 : decode cX12_hasAhead 44 = .ok (.goto 4, 3) := by decide +kernel
theorem dX12_hasAhead_47 : decode cX12_hasAhead 47 = .ok (.iconst 0, 1) := by decide +kernel
theorem dX12_hasAhead_48 : decode cX12_hasAhead 48 = .ok (.istore 5, 2) := by decide +kernel
theorem dX12_hasAhead_50 : decode cX12_hasAhead 50 = .ok (.iload 4, 2) := by decide +kernel
theorem dX12_hasAhead_52 : decode cX12_hasAhead 52 = .ok (.ifCond .ne 16, 3) := by decide +kernel
theorem dX12_hasAhead_55 : decode cX12_hasAhead 55 = .ok (.aload_n 0, 1) := by decide +kernel
theorem dX12_hasAhead_56 : decode cX12_hasAhead 56 = .ok (.iload_n 1, 1) := by decide +kernel
theorem dX12_hasAhead_57 : decode cX12_hasAhead 57 = .ok (.iconst 5, 1) := by decide +kernel
theorem dX12_hasAhead_58 : decode cX12_hasAhead 58 = .ok (.iload 6, 2) := by decide +kernel
theorem dX12_hasAhead_60 : decode cX12_hasAhead 60 = .ok (.iadd, 1) := by decide +kernel
theorem dX12_hasAhead_61 : decode cX12_hasAhead 61 = .ok (.invokevirtual 77, 3) := by decide +kernel
theorem dX12_hasAhead_64 : decode cX12_hasAhead 64 = .ok (.iload_n 2, 1) := by decide +kernel
theorem dX12_hasAhead_65 : decode cX12_hasAhead 65 = .ok (.if_icmp .ne 7, 3) := by decide +kernel
theorem dX12_hasAhead_68 : decode cX12_hasAhead 68 = .ok (.iconst 1, 1) := by decide +kernel
theorem dX12_hasAhead_69 : decode cX12_hasAhead 69 = .ok (.goto 4, 3) := by decide +kernel
theorem dX12_hasAhead_72 : decode cX12_hasAhead 72 = .ok (.iconst 0, 1) := by decide +kernel
theorem dX12_hasAhead_73 : decode cX12_hasAhead 73 = .ok (.istore 4, 2) := by decide +kernel
theorem dX12_hasAhead_75 : decode cX12_hasAhead 75 = .ok (.iinc 6 1, 3) := by decide +kernel
theorem dX12_hasAhead_78 : decode cX12_hasAhead 78 = .ok (.goto (-69), 3) := by decide +kernel
theorem dX12_hasAhead_81 : decode cX12_hasAhead 81 = .ok (.iload 5, 2) := by decide +kernel
theorem dX12_hasAhead_83 : decode cX12_hasAhead 83 = .ok (.ireturn, 1) := by decide +kernel
theorem dX12_laysAheads_0 : decode cX12_laysAheads 0 = .ok (.iconst 0, 1) := by decide +kernel
theorem dX12_laysAheads_1 : decode cX12_laysAheads 1 = .ok (.istore_n 1, 1) := by decide +kernel
theorem dX12_laysAheads_2 : decode cX12_laysAheads 2 = .ok (.iload_n 1, 1) := by decide +kernel
theorem dX12_laysAheads_3 : decode cX12_laysAheads 3 = .ok (.aload_n 0, 1) := by decide +kernel
theorem dX12_laysAheads_4 : decode cX12_laysAheads 4 = .ok (.invokevirtual 74, 3) := by decide +kernel
theorem dX12_laysAheads_7 : decode cX12_laysAheads 7 = .ok (.if_icmp .ge 74, 3) := by decide +kernel
theorem dX12_laysAheads_10 : decode cX12_laysAheads 10 = .ok (.aload_n 0, 1) := by decide +kernel
theorem dX12_laysAheads_11 : decode cX12_laysAheads 11 = .ok (.getfield 46, 3) := by decide +kernel
theorem dX12_laysAheads_14 : decode cX12_laysAheads 14 = .ok (.iload_n 1, 1) := by decide +kernel
theorem dX12_laysAheads_15 : decode cX12_laysAheads 15 = .ok (.iconst 0, 1) := by decide +kernel
theorem dX12_laysAheads_16 : decode cX12_laysAheads 16 = .ok (.iastore, 1) := by decide +kernel
theorem dX12_laysAheads_17 : decode cX12_laysAheads 17 = .ok (.iconst 0, 1) := by decide +kernel
theorem dX12_laysAheads_18 : decode cX12_laysAheads 18 = .ok (.istore_n 2, 1) := by decide +kernel
theorem dX12_laysAheads_19 : decode cX12_laysAheads 19 = .ok (.iload_n 2, 1) := by decide +kernel
theorem dX12_laysAheads_20 : decode cX12_laysAheads 20 = .ok (.aload_n 0, 1) := by decide +kernel
theorem dX12_laysAheads_21 : decode cX12_laysAheads 21 = .ok (.invokevirtual 74, 3) := by decide +kernel
theorem dX12_laysAheads_24 : decode cX12_laysAheads 24 = .ok (.if_icmp .ge 51, 3) := by decide +kernel
theorem dX12_laysAheads_27 : decode cX12_laysAheads 27 = .ok (.iconst 0, 1) := by decide +kernel
theorem dX12_laysAheads_28 : decode cX12_laysAheads 28 = .ok (.istore_n 3, 1) := by decide +kernel
theorem dX12_laysAheads_29 : decode cX12_laysAheads 29 = .ok (.iload_n 3, 1) := by decide +kernel
theorem dX12_laysAheads_30 : decode cX12_laysAheads 30 = .ok (.aload_n 0, 1) := by decide +kernel
theorem dX12_laysAheads_31 : decode cX12_laysAheads 31 = .ok (.invokevirtual 66, 3) := by decide +kernel
theorem dX12_laysAheads_34 : decode cX12_laysAheads 34 = .ok (.if_icmp .ge 35, 3) := by decide +kernel
theorem dX12_laysAheads_37 : decode cX12_laysAheads 37 = .ok (.aload_n 0, 1) := by decide +kernel
theorem dX12_laysAheads_38 : decode cX12_laysAheads 38 = .ok (.getfield 46, 3) := by decide +kernel
theorem dX12_laysAheads_41 : decode cX12_laysAheads 41 = .ok (.iload_n 1, 1) := by decide +kernel
theorem dX12_laysAheads_42 : decode cX12_laysAheads 42 = .ok (.dup2, 1) := by decide +kernel
theorem dX12_laysAheads_43 : decode cX12_laysAheads 43 = .ok (.iaload, 1) := by decide +kernel
theorem dX12_laysAheads_44 : decode cX12_laysAheads 44 = .ok (.aload_n 0, 1) := by decide +kernel
theorem dX12_laysAheads_45 : decode cX12_laysAheads 45 = .ok (.iload_n 3, 1) := by decide +kernel
theorem dX12_laysAheads_46 : decode cX12_laysAheads 46 = .ok (.iload_n 1, 1) := by decide +kernel
theorem dX12_laysAheads_47 : decode cX12_laysAheads 47 = .ok (.iload_n 2, 1) := by decide +kernel
theorem dX12_laysAheads_48 : decode cX12_laysAheads 48 = .ok (.invokevirtual 337, 3) := by decide +kernel
theorem dX12_laysAheads_51 : decode cX12_laysAheads 51 = .ok (.ifCond .eq 9, 3) := by decide +kernel
theorem dX12_laysAheads_54 : decode cX12_laysAheads 54 = .ok (.iconst 1, 1) := by decide +kernel
theorem dX12_laysAheads_55 : decode cX12_laysAheads 55 = .ok (.iload_n 2, 1) := by decide +kernel
theorem dX12_laysAheads_56 : decode cX12_laysAheads 56 = .ok (.ishl, 1) := by decide +kernel
theorem dX12_laysAheads_57 : decode cX12_laysAheads 57 = .ok (.goto 4, 3) := by decide +kernel
theorem dX12_laysAheads_60 : decode cX12_laysAheads 60 = .ok (.iconst 0, 1) := by decide +kernel
theorem dX12_laysAheads_61 : decode cX12_laysAheads 61 = .ok (.ior, 1) := by decide +kernel
theorem dX12_laysAheads_62 : decode cX12_laysAheads 62 = .ok (.iastore, 1) := by decide +kernel
theorem dX12_laysAheads_63 : decode cX12_laysAheads 63 = .ok (.iinc 3 1, 3) := by decide +kernel
theorem dX12_laysAheads_66 : decode cX12_laysAheads 66 = .ok (.goto (-37), 3) := by decide +kernel
theorem dX12_laysAheads_69 : decode cX12_laysAheads 69 = .ok (.iinc 2 1, 3) := by decide +kernel
theorem dX12_laysAheads_72 : decode cX12_laysAheads 72 = .ok (.goto (-53), 3) := by decide +kernel
theorem dX12_laysAheads_75 : decode cX12_laysAheads 75 = .ok (.iinc 1 1, 3) := by decide +kernel
theorem dX12_laysAheads_78 : decode cX12_laysAheads 78 = .ok (.goto (-76), 3) := by decide +kernel
theorem dX12_laysAheads_81 : decode cX12_laysAheads 81 = .ok (.iconst 0, 1) := by decide +kernel
theorem dX12_laysAheads_82 : decode cX12_laysAheads 82 = .ok (.istore_n 1, 1) := by decide +kernel
theorem dX12_laysAheads_83 : decode cX12_laysAheads 83 = .ok (.iload_n 1, 1) := by decide +kernel
theorem dX12_laysAheads_84 : decode cX12_laysAheads 84 = .ok (.aload_n 0, 1) := by decide +kernel
theorem dX12_laysAheads_85 : decode cX12_laysAheads 85 = .ok (.invokevirtual 74, 3) := by decide +kernel
theorem dX12_laysAheads_88 : decode cX12_laysAheads 88 = .ok (.if_icmp .ge 57, 3) := by decide +kernel
theorem dX12_laysAheads_91 : decode cX12_laysAheads 91 = .ok (.iconst 0, 1) := by decide +kernel
theorem dX12_laysAheads_92 : decode cX12_laysAheads 92 = .ok (.istore_n 2, 1) := by decide +kernel
theorem dX12_laysAheads_93 : decode cX12_laysAheads 93 = .ok (.iload_n 2, 1) := by decide +kernel
theorem dX12_laysAheads_94 : decode cX12_laysAheads 94 = .ok (.aload_n 0, 1) := by decide +kernel
theorem dX12_laysAheads_95 : decode cX12_laysAheads 95 = .ok (.invokevirtual 74, 3) := by decide +kernel
theorem dX12_laysAheads_98 : decode cX12_laysAheads 98 = .ok (.if_icmp .ge 41, 3) := by decide +kernel
theorem dX12_laysAheads_101 : decode cX12_laysAheads 101 = .ok (.aload_n 0, 1) := by decide +kernel
theorem dX12_laysAheads_102 : decode cX12_laysAheads 102 = .ok (.getfield 46, 3) := by decide +kernel
theorem dX12_laysAheads_105 : decode cX12_laysAheads 105 = .ok (.iload_n 2, 1) := by decide +kernel
theorem dX12_laysAheads_106 : decode cX12_laysAheads 106 = .ok (.dup2, 1) := by decide +kernel
theorem dX12_laysAheads_107 : decode cX12_laysAheads 107 = .ok (.iaload, 1) := by decide +kernel
theorem dX12_laysAheads_108 : decode cX12_laysAheads 108 = .ok (.aload_n 0, 1) := by decide +kernel
theorem dX12_laysAheads_109 : decode cX12_laysAheads 109 = .ok (.getfield 46, 3) := by decide +kernel
theorem dX12_laysAheads_112 : decode cX12_laysAheads 112 = .ok (.iload_n 2, 1) := by decide +kernel
theorem dX12_laysAheads_113 : decode cX12_laysAheads 113 = .ok (.iaload, 1) := by decide +kernel
theorem dX12_laysAheads_114 : decode cX12_laysAheads 114 = .ok (.iload_n 1, 1) := by decide +kernel
theorem dX12_laysAheads_115 : decode cX12_laysAheads 115 = .ok (.invokestatic 87, 3) := by decide +kernel
theorem dX12_laysAheads_118 : decode cX12_laysAheads 118 = .ok (.ifCond .eq 12, 3) := by decide +kernel
theorem dX12_laysAheads_121 : decode cX12_laysAheads 121 = .ok (.aload_n 0, 1) := by decide +kernel
theorem dX12_laysAheads_122 : decode cX12_laysAheads 122 = .ok (.getfield 46, 3) := by decide +kernel
theorem dX12_laysAheads_125 : decode cX12_laysAheads 125 = .ok (.iload_n 1, 1) := by decide +kernel
theorem dX12_laysAheads_126 : decode cX12_laysAheads 126 = .ok (.iaload, 1) := by decide +kernel
theorem dX12_laysAheads_127 : decode cX12_laysAheads 127 = .ok (.goto 4, 3) := by decide +kernel
theorem dX12_laysAheads_130 : decode cX12_laysAheads 130 = .ok (.iconst 0, 1) := by decide +kernel
theorem dX12_laysAheads_131 : decode cX12_laysAheads 131 = .ok (.ior, 1) := by decide +kernel
theorem dX12_laysAheads_132 : decode cX12_laysAheads 132 = .ok (.iastore, 1) := by decide +kernel
theorem dX12_laysAheads_133 : decode cX12_laysAheads 133 = .ok (.iinc 2 1, 3) := by decide +kernel
theorem dX12_laysAheads_136 : decode cX12_laysAheads 136 = .ok (.goto (-43), 3) := by decide +kernel
theorem dX12_laysAheads_139 : decode cX12_laysAheads 139 = .ok (.iinc 1 1, 3) := by decide +kernel
theorem dX12_laysAheads_142 : decode cX12_laysAheads 142 = .ok (.goto (-59), 3) := by decide +kernel
theorem dX12_laysAheads_145 : decode cX12_laysAheads 145 = .ok (.return_, 1) := by decide +kernel
theorem dX12_ahead_0 : decode cX12_ahead 0 = .ok (.aload_n 0, 1) := by decide +kernel
theorem dX12_ahead_1 : decode cX12_ahead 1 = .ok (.iconst 0, 1) := by decide +kernel
theorem dX12_ahead_2 : decode cX12_ahead 2 = .ok (.putfield 3, 3) := by decide +kernel
theorem dX12_ahead_5 : decode cX12_ahead 5 = .ok (.aload_n 0, 1) := by decide +kernel
theorem dX12_ahead_6 : decode cX12_ahead 6 = .ok (.aload_n 0, 1) := by decide +kernel
theorem dX12_ahead_7 : decode cX12_ahead 7 = .ok (.iload_n 1, 1) := by decide +kernel
theorem dX12_ahead_8 : decode cX12_ahead 8 = .ok (.invokevirtual 310, 3) := by decide +kernel
theorem dX12_ahead_11 : decode cX12_ahead 11 = .ok (.ifCond .ne 11, 3) := by decide +kernel
theorem dX12_ahead_14 : decode cX12_ahead 14 = .ok (.aload_n 0, 1) := by decide +kernel
theorem dX12_ahead_15 : decode cX12_ahead 15 = .ok (.iload_n 2, 1) := by decide +kernel
theorem dX12_ahead_16 : decode cX12_ahead 16 = .ok (.invokevirtual 310, 3) := by decide +kernel
theorem dX12_ahead_19 : decode cX12_ahead 19 = .ok (.ifCond .eq 7, 3) := by decide +kernel
theorem dX12_ahead_22 : decode cX12_ahead 22 = .ok (.iconst 1, 1) := by decide +kernel
theorem dX12_ahead_23 : decode cX12_ahead 23 = .ok (.goto 4, 3) := by decide +kernel
theorem dX12_ahead_26 : decode cX12_ahead 26 = .ok (.iconst 0, 1) := by decide +kernel
theorem dX12_ahead_27 : decode cX12_ahead 27 = .ok (.iconst 1, 1) := by decide +kernel
theorem dX12_ahead_28 : decode cX12_ahead 28 = .ok (.invokevirtual 176, 3) := by decide +kernel
theorem dX12_ahead_31 : decode cX12_ahead 31 = .ok (.ifCond .ne 21, 3) := by decide +kernel
theorem dX12_ahead_34 : decode cX12_ahead 34 = .ok (.aload_n 0, 1) := by decide +kernel
theorem dX12_ahead_35 : decode cX12_ahead 35 = .ok (.iload_n 1, 1) := by decide +kernel
theorem dX12_ahead_36 : decode cX12_ahead 36 = .ok (.iload_n 2, 1) := by decide +kernel
theorem dX12_ahead_37 : decode cX12_ahead 37 = .ok (.if_icmp .ne 7, 3) := by decide +kernel
theorem dX12_ahead_40 : decode cX12_ahead 40 = .ok (.iconst 1, 1) := by decide +kernel
theorem dX12_ahead_41 : decode cX12_ahead 41 = .ok (.goto 4, 3) := by decide +kernel
theorem dX12_ahead_44 : decode cX12_ahead 44 = .ok (.iconst 0, 1) := by decide +kernel
theorem dX12_ahead_45 : decode cX12_ahead 45 = .ok (.iconst 2, 1) := by decide +kernel
theorem dX12_ahead_46 : decode cX12_ahead 46 = .ok (.invokevirtual 176, 3) := by decide +kernel
theorem dX12_ahead_49 : decode cX12_ahead 49 = .ok (.ifCond .eq 5, 3) := by decide +kernel
theorem dX12_ahead_52 : decode cX12_ahead 52 = .ok (.iconst 0, 1) := by decide +kernel
theorem dX12_ahead_53 : decode cX12_ahead 53 = .ok (.ireturn, 1) := by decide +kernel
theorem dX12_ahead_54 : decode cX12_ahead 54 = .ok (.aload_n 0, 1) := by decide +kernel
theorem dX12_ahead_55 : decode cX12_ahead 55 = .ok (.invokevirtual 340, 3) := by decide +kernel
theorem dX12_ahead_58 : decode cX12_ahead 58 = .ok (.aload_n 0, 1) := by decide +kernel
theorem dX12_ahead_59 : decode cX12_ahead 59 = .ok (.getfield 46, 3) := by decide +kernel
theorem dX12_ahead_62 : decode cX12_ahead 62 = .ok (.iload_n 1, 1) := by decide +kernel
theorem dX12_ahead_63 : decode cX12_ahead 63 = .ok (.iaload, 1) := by decide +kernel
theorem dX12_ahead_64 : decode cX12_ahead 64 = .ok (.iload_n 2, 1) := by decide +kernel
theorem dX12_ahead_65 : decode cX12_ahead 65 = .ok (.invokestatic 87, 3) := by decide +kernel
theorem dX12_ahead_68 : decode cX12_ahead 68 = .ok (.ireturn, 1) := by decide +kernel
theorem dX12_isBehindNone_0 : decode cX12_isBehindNone 0 = .ok (.iconst 1, 1) := by decide +kernel
theorem dX12_isBehindNone_1 : decode cX12_isBehindNone 1 = .ok (.istore_n 3, 1) := by decide +kernel
theorem dX12_isBehindNone_2 : decode cX12_isBehindNone 2 = .ok (.iconst 0, 1) := by decide +kernel
theorem dX12_isBehindNone_3 : decode cX12_isBehindNone 3 = .ok (.istore 4, 2) := by decide +kernel
theorem dX12_isBehindNone_5 : decode cX12_isBehindNone 5 = .ok (.iload 4, 2) := by decide +kernel
theorem dX12_isBehindNone_7 : decode cX12_isBehindNone 7 = .ok (.aload_n 0, 1) := by decide +kernel
theorem dX12_isBehindNone_8 : decode cX12_isBehindNone 8 = .ok (.invokevirtual 74, 3) := by decide +kernel
theorem dX12_isBehindNone_11 : decode cX12_isBehindNone 11 = .ok (.if_icmp .ge 48, 3) := by decide +kernel
theorem dX12_isBehindNone_14 : decode cX12_isBehindNone 14 = .ok (.iload_n 3, 1) := by decide +kernel
theorem dX12_isBehindNone_15 : decode cX12_isBehindNone 15 = .ok (.ifCond .eq 36, 3) := by decide +kernel
theorem dX12_isBehindNone_18 : decode cX12_isBehindNone 18 = .ok (.iload 4, 2) := by decide +kernel
theorem dX12_isBehindNone_20 : decode cX12_isBehindNone 20 = .ok (.iload_n 1, 1) := by decide +kernel
theorem dX12_isBehindNone_21 : decode cX12_isBehindNone 21 = .ok (.if_icmp .eq 26, 3) := by decide +kernel
theorem dX12_isBehindNone_24 : decode cX12_isBehindNone 24 = .ok (.iload_n 2, 1) := by decide +kernel
theorem dX12_isBehindNone_25 : decode cX12_isBehindNone 25 = .ok (.iload 4, 2) := by decide +kernel
theorem dX12_isBehindNone_27 : decode cX12_isBehindNone 27 = .ok (.invokestatic 87, 3) := by decide +kernel
theorem dX12_isBehindNone_30 : decode cX12_isBehindNone 30 = .ok (.ifCond .eq 17, 3) := by decide +kernel
theorem dX12_isBehindNone_33 : decode cX12_isBehindNone 33 = .ok (.aload_n 0, 1) := by decide +kernel
theorem dX12_isBehindNone_34 : decode cX12_isBehindNone 34 = .ok (.getfield 46, 3) := by decide +kernel
theorem dX12_isBehindNone_37 : decode cX12_isBehindNone 37 = .ok (.iload 4, 2) := by decide +kernel
theorem dX12_isBehindNone_39 : decode cX12_isBehindNone 39 = .ok (.iaload, 1) := by decide +kernel
theorem dX12_isBehindNone_40 : decode cX12_isBehindNone 40 = .ok (.iload_n 1, 1) := by decide +kernel
theorem dX12_isBehindNone_41 : decode cX12_isBehindNone 41 = .ok (.invokestatic 87, 3) := by decide +kernel
theorem dX12_isBehindNone_44 : decode cX12_isBehindNone 44 = .ok (.ifCond .ne 7, 3) := by decide +kernel
theorem dX12_isBehindNone_47 : decode cX12_isBehindNone 47 = .ok (.iconst 1, 1) := by decide +kernel
theorem dX12_isBehindNone_48 : decode cX12_isBehindNone 48 = .ok (.goto 4, 3) := by decide +kernel
theorem dX12_isBehindNone_51 : decode cX12_isBehindNone 51 = .ok (.iconst 0, 1) := by decide +kernel
theorem dX12_isBehindNone_52 : decode cX12_isBehindNone 52 = .ok (.istore_n 3, 1) := by decide +kernel
theorem dX12_isBehindNone_53 : decode cX12_isBehindNone 53 = .ok (.iinc 4 1, 3) := by decide +kernel
theorem dX12_isBehindNone_56 : decode cX12_isBehindNone 56 = .ok (.goto (-51), 3) := by decide +kernel
theorem dX12_isBehindNone_59 : decode cX12_isBehindNone 59 = .ok (.iload_n 3, 1) := by decide +kernel
theorem dX12_isBehindNone_60 : decode cX12_isBehindNone 60 = .ok (.ireturn, 1) := by decide +kernel
theorem dX12_deliveredBy_0 : decode cX12_deliveredBy 0 = .ok (.aload_n 0, 1) := by decide +kernel
theorem dX12_deliveredBy_1 : decode cX12_deliveredBy 1 = .ok (.iload_n 1, 1) := by decide +kernel
theorem dX12_deliveredBy_2 : decode cX12_deliveredBy 2 = .ok (.iconst 0, 1) := by decide +kernel
theorem dX12_deliveredBy_3 : decode cX12_deliveredBy 3 = .ok (.iconst 3, 1) := by decide +kernel
theorem dX12_deliveredBy_4 : decode cX12_deliveredBy 4 = .ok (.invokevirtual 313, 3) := by decide +kernel
theorem dX12_deliveredBy_7 : decode cX12_deliveredBy 7 = .ok (.ireturn, 1) := by decide +kernel
theorem dX12_line_0 : decode cX12_line 0 = .ok (.aload_n 0, 1) := by decide +kernel
theorem dX12_line_1 : decode cX12_line 1 = .ok (.iconst 0, 1) := by decide +kernel
theorem dX12_line_2 : decode cX12_line 2 = .ok (.putfield 3, 3) := by decide +kernel
theorem dX12_line_5 : decode cX12_line 5 = .ok (.aload_n 0, 1) := by decide +kernel
theorem dX12_line_6 : decode cX12_line 6 = .ok (.invokevirtual 340, 3) := by decide +kernel
theorem dX12_line_9 : decode cX12_line 9 = .ok (.iconst 0, 1) := by decide +kernel
theorem dX12_line_10 : decode cX12_line 10 = .ok (.istore_n 2, 1) := by decide +kernel
theorem dX12_line_11 : decode cX12_line 11 = .ok (.iconst 0, 1) := by decide +kernel
theorem dX12_line_12 : decode cX12_line 12 = .ok (.istore_n 3, 1) := by decide +kernel
theorem dX12_line_13 : decode cX12_line 13 = .ok (.iload_n 3, 1) := by decide +kernel
theorem dX12_line_14 : decode cX12_line 14 = .ok (.aload_n 0, 1) := by decide +kernel
theorem dX12_line_15 : decode cX12_line 15 = .ok (.invokevirtual 74, 3) := by decide +kernel
theorem dX12_line_18 : decode cX12_line 18 = .ok (.if_icmp .ge 27, 3) := by decide +kernel
theorem dX12_line_21 : decode cX12_line 21 = .ok (.iload_n 2, 1) := by decide +kernel
theorem dX12_line_22 : decode cX12_line 22 = .ok (.aload_n 0, 1) := by decide +kernel
theorem dX12_line_23 : decode cX12_line 23 = .ok (.iload_n 3, 1) := by decide +kernel
theorem dX12_line_24 : decode cX12_line 24 = .ok (.invokevirtual 343, 3) := by decide +kernel
theorem dX12_line_27 : decode cX12_line 27 = .ok (.ifCond .eq 9, 3) := by decide +kernel
theorem dX12_line_30 : decode cX12_line 30 = .ok (.iconst 1, 1) := by decide +kernel
theorem dX12_line_31 : decode cX12_line 31 = .ok (.iload_n 3, 1) := by decide +kernel
theorem dX12_line_32 : decode cX12_line 32 = .ok (.ishl, 1) := by decide +kernel
theorem dX12_line_33 : decode cX12_line 33 = .ok (.goto 4, 3) := by decide +kernel
theorem dX12_line_36 : decode cX12_line 36 = .ok (.iconst 0, 1) := by decide +kernel
theorem dX12_line_37 : decode cX12_line 37 = .ok (.ior, 1) := by decide +kernel
theorem dX12_line_38 : decode cX12_line 38 = .ok (.istore_n 2, 1) := by decide +kernel
theorem dX12_line_39 : decode cX12_line 39 = .ok (.iinc 3 1, 3) := by decide +kernel
theorem dX12_line_42 : decode cX12_line 42 = .ok (.goto (-29), 3) := by decide +kernel
theorem dX12_line_45 : decode cX12_line 45 = .ok (.iload_n 1, 1) := by decide +kernel
theorem dX12_line_46 : decode cX12_line 46 = .ok (.iconst 0, 1) := by decide +kernel
theorem dX12_line_47 : decode cX12_line 47 = .ok (.iload_n 2, 1) := by decide +kernel
theorem dX12_line_48 : decode cX12_line 48 = .ok (.invokestatic 305, 3) := by decide +kernel
theorem dX12_line_51 : decode cX12_line 51 = .ok (.iconst 1, 1) := by decide +kernel
theorem dX12_line_52 : decode cX12_line 52 = .ok (.isub, 1) := by decide +kernel
theorem dX12_line_53 : decode cX12_line 53 = .ok (.invokestatic 70, 3) := by decide +kernel
theorem dX12_line_56 : decode cX12_line 56 = .ok (.ifCond .ne 5, 3) := by decide +kernel
theorem dX12_line_59 : decode cX12_line 59 = .ok (.iconst (-1), 1) := by decide +kernel
theorem dX12_line_60 : decode cX12_line 60 = .ok (.ireturn, 1) := by decide +kernel
theorem dX12_line_61 : decode cX12_line 61 = .ok (.iconst (-1), 1) := by decide +kernel
theorem dX12_line_62 : decode cX12_line 62 = .ok (.istore_n 3, 1) := by decide +kernel
theorem dX12_line_63 : decode cX12_line 63 = .ok (.iconst 0, 1) := by decide +kernel
theorem dX12_line_64 : decode cX12_line 64 = .ok (.istore 4, 2) := by decide +kernel
theorem dX12_line_66 : decode cX12_line 66 = .ok (.iload 4, 2) := by decide +kernel
theorem dX12_line_68 : decode cX12_line 68 = .ok (.iload_n 1, 1) := by decide +kernel
theorem dX12_line_69 : decode cX12_line 69 = .ok (.if_icmp .gt 78, 3) := by decide +kernel
theorem dX12_line_72 : decode cX12_line 72 = .ok (.iconst (-1), 1) := by decide +kernel
theorem dX12_line_73 : decode cX12_line 73 = .ok (.istore_n 3, 1) := by decide +kernel
theorem dX12_line_74 : decode cX12_line 74 = .ok (.aload_n 0, 1) := by decide +kernel
theorem dX12_line_75 : decode cX12_line 75 = .ok (.invokevirtual 74, 3) := by decide +kernel
theorem dX12_line_78 : decode cX12_line 78 = .ok (.iconst 1, 1) := by decide +kernel
theorem dX12_line_79 : decode cX12_line 79 = .ok (.isub, 1) := by decide +kernel
theorem dX12_line_80 : decode cX12_line 80 = .ok (.istore 5, 2) := by decide +kernel
theorem dX12_line_82 : decode cX12_line 82 = .ok (.iload 5, 2) := by decide +kernel
theorem dX12_line_84 : decode cX12_line 84 = .ok (.ifCond .lt 35, 3) := by decide +kernel
theorem dX12_line_87 : decode cX12_line 87 = .ok (.iload_n 2, 1) := by decide +kernel
theorem dX12_line_88 : decode cX12_line 88 = .ok (.iload 5, 2) := by decide +kernel
theorem dX12_line_90 : decode cX12_line 90 = .ok (.invokestatic 87, 3) := by decide +kernel
theorem dX12_line_93 : decode cX12_line 93 = .ok (.ifCond .eq 18, 3) := by decide +kernel
theorem dX12_line_96 : decode cX12_line 96 = .ok (.aload_n 0, 1) := by decide +kernel
theorem dX12_line_97 : decode cX12_line 97 = .ok (.iload 5, 2) := by decide +kernel
theorem dX12_line_99 : decode cX12_line 99 = .ok (.iload_n 2, 1) := by decide +kernel
theorem dX12_line_100 : decode cX12_line 100 = .ok (.invokevirtual 346, 3) := by decide +kernel
theorem dX12_line_103 : decode cX12_line 103 = .ok (.ifCond .eq 8, 3) := by decide +kernel
theorem dX12_line_106 : decode cX12_line 106 = .ok (.iload 5, 2) := by decide +kernel
theorem dX12_line_108 : decode cX12_line 108 = .ok (.goto 4, 3) := by decide +kernel
theorem dX12_line_111 : decode cX12_line 111 = .ok (.iload_n 3, 1) := by decide +kernel
theorem dX12_line_112 : decode cX12_line 112 = .ok (.istore_n 3, 1) := by decide +kernel
theorem dX12_line_113 : decode cX12_line 113 = .ok (.iinc 5 (-1), 3) := by decide +kernel
theorem dX12_line_116 : decode cX12_line 116 = .ok (.goto (-34), 3) := by decide +kernel
theorem dX12_line_119 : decode cX12_line 119 = .ok (.iload_n 3, 1) := by decide +kernel
theorem dX12_line_120 : decode cX12_line 120 = .ok (.iconst (-1), 1) := by decide +kernel
theorem dX12_line_121 : decode cX12_line 121 = .ok (.if_icmp .ne 10, 3) := by decide +kernel
theorem dX12_line_124 : decode cX12_line 124 = .ok (.iload_n 2, 1) := by decide +kernel
theorem dX12_line_125 : decode cX12_line 125 = .ok (.invokestatic 331, 3) := by decide +kernel
theorem dX12_line_128 : decode cX12_line 128 = .ok (.goto 4, 3) := by decide +kernel
theorem dX12_line_131 : decode cX12_line 131 = .ok (.iload_n 3, 1) := by decide +kernel
theorem dX12_line_132 : decode cX12_line 132 = .ok (.istore_n 3, 1) := by decide +kernel
theorem dX12_line_133 : decode cX12_line 133 = .ok (.iload_n 2, 1) := by decide +kernel
theorem dX12_line_134 : decode cX12_line 134 = .ok (.iconst 1, 1) := by decide +kernel
theorem dX12_line_135 : decode cX12_line 135 = .ok (.iload_n 3, 1) := by decide +kernel
theorem dX12_line_136 : decode cX12_line 136 = .ok (.ishl, 1) := by decide +kernel
theorem dX12_line_137 : decode cX12_line 137 = .ok (.iconst (-1), 1) := by decide +kernel
theorem dX12_line_138 : decode cX12_line 138 = .ok (.ixor, 1) := by decide +kernel
theorem dX12_line_139 : decode cX12_line 139 = .ok (.iand, 1) := by decide +kernel
theorem dX12_line_140 : decode cX12_line 140 = .ok (.istore_n 2, 1) := by decide +kernel
theorem dX12_line_141 : decode cX12_line 141 = .ok (.iinc 4 1, 3) := by decide +kernel
theorem dX12_line_144 : decode cX12_line 144 = .ok (.goto (-78), 3) := by decide +kernel
theorem dX12_line_147 : decode cX12_line 147 = .ok (.iload_n 3, 1) := by decide +kernel
theorem dX12_line_148 : decode cX12_line 148 = .ok (.ireturn, 1) := by decide +kernel
theorem dX12_parted_0 : decode cX12_parted 0 = .ok (.aload_n 0, 1) := by decide +kernel
theorem dX12_parted_1 : decode cX12_parted 1 = .ok (.iload_n 1, 1) := by decide +kernel
theorem dX12_parted_2 : decode cX12_parted 2 = .ok (.iload_n 2, 1) := by decide +kernel
theorem dX12_parted_3 : decode cX12_parted 3 = .ok (.invokevirtual 319, 3) := by decide +kernel
theorem dX12_parted_6 : decode cX12_parted 6 = .ok (.ifCond .ne 21, 3) := by decide +kernel
theorem dX12_parted_9 : decode cX12_parted 9 = .ok (.aload_n 0, 1) := by decide +kernel
theorem dX12_parted_10 : decode cX12_parted 10 = .ok (.iload_n 1, 1) := by decide +kernel
theorem dX12_parted_11 : decode cX12_parted 11 = .ok (.iload_n 2, 1) := by decide +kernel
theorem dX12_parted_12 : decode cX12_parted 12 = .ok (.if_icmp .ne 7, 3) := by decide +kernel
theorem dX12_parted_15 : decode cX12_parted 15 = .ok (.iconst 1, 1) := by decide +kernel
theorem dX12_parted_16 : decode cX12_parted 16 = .ok (.goto 4, 3) := by decide +kernel
theorem dX12_parted_19 : decode cX12_parted 19 = .ok (.iconst 0, 1) := by decide +kernel
theorem dX12_parted_20 : decode cX12_parted 20 = .ok (.iconst 2, 1) := by decide +kernel
theorem dX12_parted_21 : decode cX12_parted 21 = .ok (.invokevirtual 176, 3) := by decide +kernel
theorem dX12_parted_24 : decode cX12_parted 24 = .ok (.ifCond .eq 5, 3) := by decide +kernel
theorem dX12_parted_27 : decode cX12_parted 27 = .ok (.iconst 0, 1) := by decide +kernel
theorem dX12_parted_28 : decode cX12_parted 28 = .ok (.ireturn, 1) := by decide +kernel
theorem dX12_parted_29 : decode cX12_parted 29 = .ok (.iconst 0, 1) := by decide +kernel
theorem dX12_parted_30 : decode cX12_parted 30 = .ok (.istore_n 3, 1) := by decide +kernel
theorem dX12_parted_31 : decode cX12_parted 31 = .ok (.iconst 0, 1) := by decide +kernel
theorem dX12_parted_32 : decode cX12_parted 32 = .ok (.istore 4, 2) := by decide +kernel
theorem dX12_parted_34 : decode cX12_parted 34 = .ok (.iload 4, 2) := by decide +kernel
theorem dX12_parted_36 : decode cX12_parted 36 = .ok (.aload_n 0, 1) := by decide +kernel
theorem dX12_parted_37 : decode cX12_parted 37 = .ok (.invokevirtual 74, 3) := by decide +kernel
theorem dX12_parted_40 : decode cX12_parted 40 = .ok (.if_icmp .ge 59, 3) := by decide +kernel
theorem dX12_parted_43 : decode cX12_parted 43 = .ok (.iconst 0, 1) := by decide +kernel
theorem dX12_parted_44 : decode cX12_parted 44 = .ok (.istore 5, 2) := by decide +kernel
theorem dX12_parted_46 : decode cX12_parted 46 = .ok (.iload 5, 2) := by decide +kernel
theorem dX12_parted_48 : decode cX12_parted 48 = .ok (.aload_n 0, 1) := by decide +kernel
theorem dX12_parted_49 : decode cX12_parted 49 = .ok (.invokevirtual 74, 3) := by decide +kernel
theorem dX12_parted_52 : decode cX12_parted 52 = .ok (.if_icmp .ge 41, 3) := by decide +kernel
theorem dX12_parted_55 : decode cX12_parted 55 = .ok (.iload_n 3, 1) := by decide +kernel
theorem dX12_parted_56 : decode cX12_parted 56 = .ok (.aload_n 0, 1) := by decide +kernel
theorem dX12_parted_57 : decode cX12_parted 57 = .ok (.iload_n 1, 1) := by decide +kernel
theorem dX12_parted_58 : decode cX12_parted 58 = .ok (.iload 4, 2) := by decide +kernel
theorem dX12_parted_60 : decode cX12_parted 60 = .ok (.iload 5, 2) := by decide +kernel
theorem dX12_parted_62 : decode cX12_parted 62 = .ok (.invokevirtual 337, 3) := by decide +kernel
theorem dX12_parted_65 : decode cX12_parted 65 = .ok (.ifCond .eq 19, 3) := by decide +kernel
theorem dX12_parted_68 : decode cX12_parted 68 = .ok (.aload_n 0, 1) := by decide +kernel
theorem dX12_parted_69 : decode cX12_parted 69 = .ok (.iload_n 2, 1) := by decide +kernel
theorem dX12_parted_70 : decode cX12_parted 70 = .ok (.iload 5, 2) := by decide +kernel
theorem dX12_parted_72 : decode cX12_parted 72 = .ok (.iload 4, 2) := by decide +kernel
theorem dX12_parted_74 : decode cX12_parted 74 = .ok (.invokevirtual 337, 3) := by decide +kernel
theorem dX12_parted_77 : decode cX12_parted 77 = .ok (.ifCond .eq 7, 3) := by decide +kernel
theorem dX12_parted_80 : decode cX12_parted 80 = .ok (.iconst 1, 1) := by decide +kernel
theorem dX12_parted_81 : decode cX12_parted 81 = .ok (.goto 4, 3) := by decide +kernel
theorem dX12_parted_84 : decode cX12_parted 84 = .ok (.iconst 0, 1) := by decide +kernel
theorem dX12_parted_85 : decode cX12_parted 85 = .ok (.iadd, 1) := by decide +kernel
theorem dX12_parted_86 : decode cX12_parted 86 = .ok (.istore_n 3, 1) := by decide +kernel
theorem dX12_parted_87 : decode cX12_parted 87 = .ok (.iinc 5 1, 3) := by decide +kernel
theorem dX12_parted_90 : decode cX12_parted 90 = .ok (.goto (-44), 3) := by decide +kernel
theorem dX12_parted_93 : decode cX12_parted 93 = .ok (.iinc 4 1, 3) := by decide +kernel
theorem dX12_parted_96 : decode cX12_parted 96 = .ok (.goto (-62), 3) := by decide +kernel
theorem dX12_parted_99 : decode cX12_parted 99 = .ok (.iload_n 3, 1) := by decide +kernel
theorem dX12_parted_100 : decode cX12_parted 100 = .ok (.ireturn, 1) := by decide +kernel
theorem dX12_due_0 : decode cX12_due 0 = .ok (.aload_n 0, 1) := by decide +kernel
theorem dX12_due_1 : decode cX12_due 1 = .ok (.iload_n 1, 1) := by decide +kernel
theorem dX12_due_2 : decode cX12_due 2 = .ok (.iload_n 2, 1) := by decide +kernel
theorem dX12_due_3 : decode cX12_due 3 = .ok (.invokevirtual 316, 3) := by decide +kernel
theorem dX12_due_6 : decode cX12_due 6 = .ok (.ifCond .eq 5, 3) := by decide +kernel
theorem dX12_due_9 : decode cX12_due 9 = .ok (.iconst 0, 1) := by decide +kernel
theorem dX12_due_10 : decode cX12_due 10 = .ok (.ireturn, 1) := by decide +kernel
theorem dX12_due_11 : decode cX12_due 11 = .ok (.aload_n 0, 1) := by decide +kernel
theorem dX12_due_12 : decode cX12_due 12 = .ok (.invokevirtual 349, 3) := by decide +kernel
theorem dX12_due_15 : decode cX12_due 15 = .ok (.iconst 0, 1) := by decide +kernel
theorem dX12_due_16 : decode cX12_due 16 = .ok (.istore_n 3, 1) := by decide +kernel
theorem dX12_due_17 : decode cX12_due 17 = .ok (.iload_n 3, 1) := by decide +kernel
theorem dX12_due_18 : decode cX12_due 18 = .ok (.bipush 120, 2) := by decide +kernel
theorem dX12_due_20 : decode cX12_due 20 = .ok (.if_icmp .gt 26, 3) := by decide +kernel
theorem dX12_due_23 : decode cX12_due 23 = .ok (.aload_n 0, 1) := by decide +kernel
theorem dX12_due_24 : decode cX12_due 24 = .ok (.iload_n 1, 1) := by decide +kernel
theorem dX12_due_25 : decode cX12_due 25 = .ok (.iload_n 2, 1) := by decide +kernel
theorem dX12_due_26 : decode cX12_due 26 = .ok (.iconst 0, 1) := by decide +kernel
theorem dX12_due_27 : decode cX12_due 27 = .ok (.invokevirtual 219, 3) := by decide +kernel
theorem dX12_due_30 : decode cX12_due 30 = .ok (.iconst 3, 1) := by decide +kernel
theorem dX12_due_31 : decode cX12_due 31 = .ok (.if_icmp .eq 15, 3) := by decide +kernel
theorem dX12_due_34 : decode cX12_due 34 = .ok (.aload_n 0, 1) := by decide +kernel
theorem dX12_due_35 : decode cX12_due 35 = .ok (.iconst 0, 1) := by decide +kernel
theorem dX12_due_36 : decode cX12_due 36 = .ok (.invokevirtual 286, 3) := by decide +kernel
theorem dX12_due_39 : decode cX12_due 39 = .ok (.pop, 1) := by decide +kernel
theorem dX12_due_40 : decode cX12_due 40 = .ok (.iinc 3 1, 3) := by decide +kernel
theorem dX12_due_43 : decode cX12_due 43 = .ok (.goto (-26), 3) := by decide +kernel
theorem dX12_due_46 : decode cX12_due 46 = .ok (.aload_n 0, 1) := by decide +kernel
theorem dX12_due_47 : decode cX12_due 47 = .ok (.invokevirtual 352, 3) := by decide +kernel
theorem dX12_due_50 : decode cX12_due 50 = .ok (.iload_n 3, 1) := by decide +kernel
theorem dX12_due_51 : decode cX12_due 51 = .ok (.bipush 120, 2) := by decide +kernel
theorem dX12_due_53 : decode cX12_due 53 = .ok (.if_icmp .le 7, 3) := by decide +kernel
theorem dX12_due_56 : decode cX12_due 56 = .ok (.iconst (-1), 1) := by decide +kernel
theorem dX12_due_57 : decode cX12_due 57 = .ok (.goto 4, 3) := by decide +kernel
theorem dX12_due_60 : decode cX12_due 60 = .ok (.iload_n 3, 1) := by decide +kernel
theorem dX12_due_61 : decode cX12_due 61 = .ok (.ireturn, 1) := by decide +kernel
section S_15_m05
variable {p : Program} {l : Launch} {e : Env} {R : Room} {s : State} {m : MethodId} {args : Array Value} {below : List Frame} {meth : Method} {c : Code} {A : Nat → Prop} {D : va_G} {cI cB cL : ClassId} {ad : Nat → Nat} {pa pl : Nat}
noncomputable def fX12_packets_14 (K4 : Int32 → Int32 → Option Int32) (u : Sg) : Nat → Int32 → Int32 → Int32 → Option Int32
  | 0, _, _, _ => none
  | n + 1, x1, x2, x3 => obr (fX12_nodes u) (fun r5 => cnd (r5 ≤ x3) (bnd (x2 + 1) (fun v7 => K4 x1 v7)) (obr (fX12_ofChannel x2 x3 2 u) (fun r9 => bnd (x1 + r9) (fun v10 => bnd (x3 + 1) (fun v11 => fX12_packets_14 K4 u n v10 x2 v11)))))
noncomputable def fX12_packets_4 (u : Sg) : Nat → Int32 → Int32 → Option Int32
  | 0, _, _ => none
  | n + 1, x1, x2 => obr (fX12_nodes u) (fun r2 => cnd (r2 ≤ x2) (some x1) (fX12_packets_14 (fun a0 a1 => fX12_packets_4 u n a0 a1) u FU x1 x2 0))
noncomputable def fX12_packets_0 (u : Sg) : Option Int32 := fX12_packets_4 u FU 0 0
noncomputable def fX12_packets (u : Sg) : Option Int32 := fX12_packets_0 u
set_option maxRecDepth 10000 in
set_option maxHeartbeats 4000000 in
theorem wX12_packets_14 (C : cx D (tyl cI cB cL) A RX12 cX12_packets 4 (some .int) p s m args c meth) (hR : 2 ≤ R.frames ∧ 45 ≤ R.locals) {r : Int32} (u : Sg) {K4 : Int32 → Int32 → Option Int32} (hK4 : ∀ (y1 : Int32) (y2 : Int32) (H : Heap) (locs : List Loc) (ls : Array Slot), lv_has ls 4 [(0, .ref (ad 0)), (1, .int y1), (2, .int y2)] → st D (wM cI cB ad) A s u H locs → K4 y1 y2 = some r → W p l e R s m args below meth c H locs 0 0 (MQ below (qI D (tyl cI cB cL) (wM cI cB ad) A r u) args s 0 0 A) (F0 m 4 ls [])) : ∀ (n : Nat) (x1 : Int32) (x2 : Int32) (x3 : Int32) (H : Heap) (locs : List Loc) (ls : Array Slot), lv_has ls 4 [(0, .ref (ad 0)), (1, .int x1), (2, .int x2), (3, .int x3)] → st D (wM cI cB ad) A s u H locs → fX12_packets_14 K4 u n x1 x2 x3 = some r → W p l e R s m args below meth c H locs 0 0 (MQ below (qI D (tyl cI cB cL) (wM cI cB ad) A r u) args s 0 0 A) (F0 m 14 ls []) := by
  have hx := C.1
  have hb := C.2.1
  intro n
  induction n with
  | zero =>
    intro x1 x2 x3 H locs ls hl S h
    cases h
  | succ n ih =>
    intro x1 x2 x3 H locs ls hl S h
    rw [fX12_packets_14] at h
    have hsz := hl.1
    refine lv_iload_n hx hb dX12_packets_14 rfl (lv_at hl 3 rfl) ?_
    refine lv_aload_n hx hb dX12_packets_15 rfl (lv_at hl 0 rfl) ?_
    obtain ⟨r5, h4, h⟩ := obr_some h
    refine q_callVi (As := []) (na := 0) C S (oM0 cI cB ad) rfl (ct_X12_nodes l D cI cB cL ad u h4) mw_24 mw_23 mw_25 mw_5 mw_22 hdX12_nodes ⟨Nat.le_trans (Nat.le_of_ble_eq_true rfl) hR.1, Nat.le_trans (Nat.le_of_ble_eq_true rfl) hR.2⟩ rfl hsz ⟨Nat.zero_le _, Nat.zero_le _⟩ (Nat.le_of_ble_eq_true rfl) dX12_packets_16 rfl (fun H locs S => ?_)
    refine lv_icmp_ge (tgt := 38) hx hb dX12_packets_19 (by decide) (fun c6 => ?_) (fun c6 => ?_)
    · have h := cnd_t c6 h
      obtain ⟨v7, ev7⟩ : ∃ y : Int32, y = x2 + 1 := ⟨_, rfl⟩
      have h := bnd_of ev7 h
      refine lv_iinc (v := v7) (lv' := [(2, .int v7), (0, .ref (ad 0)), (1, .int x1), (3, .int x3)]) hx hb dX12_packets_38 hl (k := 2) rfl (by rw [ev7]; rfl) (by decide) rfl (fun ls hl => ?_)
      have hsz := hl.1
      refine lv_goto (tgt := 4) hx hb dX12_packets_41 (by decide) ?_
      exact hK4 x1 v7 H locs ls (lv_sub hl [1, 2, 0] rfl) S h
    · have h := cnd_f c6 h
      refine lv_iload_n hx hb dX12_packets_22 rfl (lv_at hl 1 rfl) ?_
      refine lv_aload_n hx hb dX12_packets_23 rfl (lv_at hl 0 rfl) ?_
      refine lv_iload_n hx hb dX12_packets_24 rfl (lv_at hl 2 rfl) ?_
      refine lv_iload_n hx hb dX12_packets_25 rfl (lv_at hl 3 rfl) ?_
      refine lv_iconst (v := 2) hx hb dX12_packets_26 (by decide) ?_
      obtain ⟨r9, h8, h⟩ := obr_some h
      refine q_callVi (As := [.int x2, .int x3, .int 2]) (na := 3) C S (oM0 cI cB ad) rfl (ct_X12_ofChannel l D cI cB cL ad x2 x3 2 u h8) mw_84 mw_83 mw_85 mw_5 mw_82 hdX12_ofChannel ⟨Nat.le_trans (Nat.le_of_ble_eq_true rfl) hR.1, Nat.le_trans (Nat.le_of_ble_eq_true rfl) hR.2⟩ rfl hsz ⟨Nat.zero_le _, Nat.zero_le _⟩ (Nat.le_of_ble_eq_true rfl) dX12_packets_27 rfl (fun H locs S => ?_)
      refine lv_iadd hx hb dX12_packets_30 ?_
      refine lv_topi (fun v10 ev10 => ?_)
      have h := bnd_of ev10 h
      refine lv_istore_n (lv' := [(1, .int v10), (0, .ref (ad 0)), (2, .int x2), (3, .int x3)]) hx hb dX12_packets_31 rfl hl (by decide) rfl (fun ls hl => ?_)
      have hsz := hl.1
      obtain ⟨v11, ev11⟩ : ∃ y : Int32, y = x3 + 1 := ⟨_, rfl⟩
      have h := bnd_of ev11 h
      refine lv_iinc (v := v11) (lv' := [(3, .int v11), (1, .int v10), (0, .ref (ad 0)), (2, .int x2)]) hx hb dX12_packets_32 hl (k := 3) rfl (by rw [ev11]; rfl) (by decide) rfl (fun ls hl => ?_)
      have hsz := hl.1
      refine lv_goto (tgt := 14) hx hb dX12_packets_35 (by decide) ?_
      exact ih v10 x2 v11 H locs ls (lv_sub hl [2, 1, 3, 0] rfl) S h
set_option maxRecDepth 10000 in
set_option maxHeartbeats 4000000 in
theorem wX12_packets_4 (C : cx D (tyl cI cB cL) A RX12 cX12_packets 4 (some .int) p s m args c meth) (hR : 2 ≤ R.frames ∧ 45 ≤ R.locals) {r : Int32} (u : Sg) : ∀ (n : Nat) (x1 : Int32) (x2 : Int32) (H : Heap) (locs : List Loc) (ls : Array Slot), lv_has ls 4 [(0, .ref (ad 0)), (1, .int x1), (2, .int x2)] → st D (wM cI cB ad) A s u H locs → fX12_packets_4 u n x1 x2 = some r → W p l e R s m args below meth c H locs 0 0 (MQ below (qI D (tyl cI cB cL) (wM cI cB ad) A r u) args s 0 0 A) (F0 m 4 ls []) := by
  have hx := C.1
  have hb := C.2.1
  intro n
  induction n with
  | zero =>
    intro x1 x2 H locs ls hl S h
    cases h
  | succ n ih =>
    intro x1 x2 H locs ls hl S h
    rw [fX12_packets_4] at h
    have hsz := hl.1
    refine lv_iload_n hx hb dX12_packets_4 rfl (lv_at hl 2 rfl) ?_
    refine lv_aload_n hx hb dX12_packets_5 rfl (lv_at hl 0 rfl) ?_
    obtain ⟨r2, h1, h⟩ := obr_some h
    refine q_callVi (As := []) (na := 0) C S (oM0 cI cB ad) rfl (ct_X12_nodes l D cI cB cL ad u h1) mw_24 mw_23 mw_25 mw_5 mw_22 hdX12_nodes ⟨Nat.le_trans (Nat.le_of_ble_eq_true rfl) hR.1, Nat.le_trans (Nat.le_of_ble_eq_true rfl) hR.2⟩ rfl hsz ⟨Nat.zero_le _, Nat.zero_le _⟩ (Nat.le_of_ble_eq_true rfl) dX12_packets_6 rfl (fun H locs S => ?_)
    refine lv_icmp_ge (tgt := 44) hx hb dX12_packets_9 (by decide) (fun c3 => ?_) (fun c3 => ?_)
    · have h := cnd_t c3 h
      refine lv_iload_n hx hb dX12_packets_44 rfl (lv_at hl 1 rfl) ?_
      exact q_iret C S (rt_R h) dX12_packets_45
    · have h := cnd_f c3 h
      refine lv_iconst (v := 0) hx hb dX12_packets_12 (by decide) ?_
      refine lv_istore_n (lv' := [(3, .int 0), (0, .ref (ad 0)), (1, .int x1), (2, .int x2)]) hx hb dX12_packets_13 rfl hl (by decide) rfl (fun ls hl => ?_)
      have hsz := hl.1
      exact wX12_packets_14 C hR u ih FU x1 x2 0 H locs ls (lv_sub hl [1, 2, 3, 0] rfl) S h
set_option maxRecDepth 10000 in
set_option maxHeartbeats 4000000 in
theorem wX12_packets_0 (C : cx D (tyl cI cB cL) A RX12 cX12_packets 4 (some .int) p s m args c meth) (hR : 2 ≤ R.frames ∧ 45 ≤ R.locals) {r : Int32} (u : Sg) {H : Heap} {locs : List Loc} {ls : Array Slot} (hl : lv_has ls 4 [(0, .ref (ad 0))]) (S : st D (wM cI cB ad) A s u H locs) (h : fX12_packets_0 u = some r) : W p l e R s m args below meth c H locs 0 0 (MQ below (qI D (tyl cI cB cL) (wM cI cB ad) A r u) args s 0 0 A) (F0 m 0 ls []) := by
  have hx := C.1
  have hb := C.2.1
  have hsz := hl.1
  unfold fX12_packets_0 at h
  refine lv_iconst (v := 0) hx hb dX12_packets_0 (by decide) ?_
  refine lv_istore_n (lv' := [(1, .int 0), (0, .ref (ad 0))]) hx hb dX12_packets_1 rfl hl (by decide) rfl (fun ls hl => ?_)
  have hsz := hl.1
  refine lv_iconst (v := 0) hx hb dX12_packets_2 (by decide) ?_
  refine lv_istore_n (lv' := [(2, .int 0), (1, .int 0), (0, .ref (ad 0))]) hx hb dX12_packets_3 rfl hl (by decide) rfl (fun ls hl => ?_)
  have hsz := hl.1
  exact wX12_packets_4 C hR u FU 0 0 H locs ls (lv_sub hl [2, 1, 0] rfl) S h
set_option maxRecDepth 10000 in
set_option maxHeartbeats 4000000 in
theorem ct_X12_packets (l : Launch) (D : va_G) (cI cB cL : ClassId) (ad : Nat → Nat) (u : Sg) {r : Int32} (h : fX12_packets u = some r) : metI l D (tyl cI cB cL) yX12_packets cX12_packets 4 (some .int) 2 45 (wM cI cB ad) [.ref (ad 0)] u r u := by
  intro sz
  refine Met.ofW (cc := cX12_packets) (maxL := 4) (ret := (some .int)) (by decide) rfl ?_
  intro p e s m args below meth c s₁ B hml hv
  obtain ⟨rfl, C, S⟩ := q_entry B hml hv
  have hl := lv_entry ([.ref (ad 0)]) (n := 4) (Nat.le_of_ble_eq_true rfl)
  rw [lg_entry_eq]
  generalize (lg_sl ([.ref (ad 0)]) ++ List.replicate (4 - (lg_sl ([.ref (ad 0)])).length) Slot.unset).toArray = ls at hl ⊢
  exact wX12_packets_0 C ⟨Nat.le_refl _, Nat.le_refl _⟩ u (lv_sub hl [0] rfl) S h
noncomputable def fX12_count_0 (x1 : Int32) (u : Sg) : Option (Int32 × Sg) := bnd (s2 u 0 0 0) (fun u1 => cnd (x1 = 0) (obr (fX12_nodes u1) (fun r4 => some (r4, u1))) (cnd (x1 = 1) (some ((u1 1 1), u1)) (cnd (x1 = 2) (some ((u1 1 2), u1)) (cnd (x1 = 3) (obr (fX12_messages u1) (fun r9 => some (r9, u1))) (cnd (x1 = 4) (some ((u1 1 4), u1)) (cnd (x1 = 5) (some ((u1 1 5), u1)) (cnd (x1 = 6) (some ((u1 1 6), u1)) (cnd (x1 = 7) (some ((u1 1 7), u1)) (cnd (x1 = 8) (obr (fX12_packets u1) (fun r16 => some (r16, u1))) (cnd (x1 = 9) (some ((u1 1 9), u1)) (some ((-1), u1))))))))))))
noncomputable def fX12_count (x1 : Int32) (u : Sg) : Option (Int32 × Sg) := fX12_count_0 x1 u
set_option maxRecDepth 10000 in
set_option maxHeartbeats 4000000 in
theorem wX12_count_0 (C : cx D (tyl cI cB cL) A RX12 cX12_count 2 (some .int) p s m args c meth) (hR : 3 ≤ R.frames ∧ 68 ≤ R.locals) {r : Int32} {σ' : Sg} (u : Sg) (x1 : Int32) {H : Heap} {locs : List Loc} {ls : Array Slot} (hl : lv_has ls 2 [(0, .ref (ad 0)), (1, .int x1)]) (S : st D (wM cI cB ad) A s u H locs) (h : fX12_count_0 x1 u = some (r, σ')) : W p l e R s m args below meth c H locs 0 0 (MQ below (qI D (tyl cI cB cL) (wM cI cB ad) A r σ') args s 0 0 A) (F0 m 0 ls []) := by
  have hx := C.1
  have hb := C.2.1
  have hsz := hl.1
  unfold fX12_count_0 at h
  refine lv_aload_n hx hb dX12_count_0 rfl (lv_at hl 0 rfl) ?_
  refine lv_iconst (v := 0) hx hb dX12_count_1 (by decide) ?_
  obtain ⟨u1, eu1⟩ : ∃ z : Sg, z = s2 u 0 0 0 := ⟨_, rfl⟩
  have h := bnd_of eu1 h
  refine q_put C S (oM0 cI cB ad) rfl iwX12 tyX12 tyX12_ok nmX12 0 (by decide) mw_11 rfl (iM0_0 cI cB ad) rfl rfl dX12_count_2 eu1 (fun H locs S => ?_)
  refine lv_iload_n hx hb dX12_count_5 rfl (lv_at hl 1 rfl) ?_
  by_cases c2 : x1 = 0
  · have h := cnd_t c2 h
    refine lv_tableIn (off := 54) (tgt := 60) hx hb dX12_count_6 (by rw [c2]; decide) (by rw [c2]; decide) (by rw [c2]; rfl) (by decide) ?_
    refine lv_aload_n hx hb dX12_count_60 rfl (lv_at hl 0 rfl) ?_
    obtain ⟨r4, h3, h⟩ := obr_some h
    refine q_callVi (As := []) (na := 0) C S (oM0 cI cB ad) rfl (ct_X12_nodes l D cI cB cL ad u1 h3) mw_24 mw_23 mw_25 mw_5 mw_22 hdX12_nodes ⟨Nat.le_trans (Nat.le_of_ble_eq_true rfl) hR.1, Nat.le_trans (Nat.le_of_ble_eq_true rfl) hR.2⟩ rfl hsz ⟨Nat.zero_le _, Nat.zero_le _⟩ (Nat.le_of_ble_eq_true rfl) dX12_count_61 rfl (fun H locs S => ?_)
    exact q_iret C S (rt_S h) dX12_count_64
  · have h := cnd_f c2 h
    by_cases c5 : x1 = 1
    · have h := cnd_t c5 h
      refine lv_tableIn (off := 59) (tgt := 65) hx hb dX12_count_6 (by rw [c5]; decide) (by rw [c5]; decide) (by rw [c5]; rfl) (by decide) ?_
      refine lv_aload_n hx hb dX12_count_65 rfl (lv_at hl 0 rfl) ?_
      refine q_get (v := .ref (ad 1)) C S (oM0 cI cB ad) rfl iwX12 1 (by decide) mw_14 rfl dX12_count_66 ?_
      refine lv_iconst (v := 1) hx hb dX12_count_69 (by decide) ?_
      refine q_iald C S (aM1 cI cB ad) 0 rfl (show vp_in 1 32243 by unfold vp_in; decide) dX12_count_70 (j := 1) (by decide) ?_
      exact q_iret C S (rt_S h) dX12_count_71
    · have h := cnd_f c5 h
      by_cases c6 : x1 = 2
      · have h := cnd_t c6 h
        refine lv_tableIn (off := 66) (tgt := 72) hx hb dX12_count_6 (by rw [c6]; decide) (by rw [c6]; decide) (by rw [c6]; rfl) (by decide) ?_
        refine lv_aload_n hx hb dX12_count_72 rfl (lv_at hl 0 rfl) ?_
        refine q_get (v := .ref (ad 1)) C S (oM0 cI cB ad) rfl iwX12 1 (by decide) mw_14 rfl dX12_count_73 ?_
        refine lv_iconst (v := 2) hx hb dX12_count_76 (by decide) ?_
        refine q_iald C S (aM1 cI cB ad) 0 rfl (show vp_in 2 32243 by unfold vp_in; decide) dX12_count_77 (j := 2) (by decide) ?_
        exact q_iret C S (rt_S h) dX12_count_78
      · have h := cnd_f c6 h
        by_cases c7 : x1 = 3
        · have h := cnd_t c7 h
          refine lv_tableIn (off := 73) (tgt := 79) hx hb dX12_count_6 (by rw [c7]; decide) (by rw [c7]; decide) (by rw [c7]; rfl) (by decide) ?_
          refine lv_aload_n hx hb dX12_count_79 rfl (lv_at hl 0 rfl) ?_
          obtain ⟨r9, h8, h⟩ := obr_some h
          refine q_callVi (As := []) (na := 0) C S (oM0 cI cB ad) rfl (ct_X12_messages l D cI cB cL ad u1 h8) mw_31 mw_30 mw_32 mw_5 mw_29 hdX12_messages ⟨Nat.le_trans (Nat.le_of_ble_eq_true rfl) hR.1, Nat.le_trans (Nat.le_of_ble_eq_true rfl) hR.2⟩ rfl hsz ⟨Nat.zero_le _, Nat.zero_le _⟩ (Nat.le_of_ble_eq_true rfl) dX12_count_80 rfl (fun H locs S => ?_)
          exact q_iret C S (rt_S h) dX12_count_83
        · have h := cnd_f c7 h
          by_cases c10 : x1 = 4
          · have h := cnd_t c10 h
            refine lv_tableIn (off := 78) (tgt := 84) hx hb dX12_count_6 (by rw [c10]; decide) (by rw [c10]; decide) (by rw [c10]; rfl) (by decide) ?_
            refine lv_aload_n hx hb dX12_count_84 rfl (lv_at hl 0 rfl) ?_
            refine q_get (v := .ref (ad 1)) C S (oM0 cI cB ad) rfl iwX12 1 (by decide) mw_14 rfl dX12_count_85 ?_
            refine lv_iconst (v := 4) hx hb dX12_count_88 (by decide) ?_
            refine q_iald C S (aM1 cI cB ad) 0 rfl (show vp_in 4 32243 by unfold vp_in; decide) dX12_count_89 (j := 4) (by decide) ?_
            exact q_iret C S (rt_S h) dX12_count_90
          · have h := cnd_f c10 h
            by_cases c11 : x1 = 5
            · have h := cnd_t c11 h
              refine lv_tableIn (off := 85) (tgt := 91) hx hb dX12_count_6 (by rw [c11]; decide) (by rw [c11]; decide) (by rw [c11]; rfl) (by decide) ?_
              refine lv_aload_n hx hb dX12_count_91 rfl (lv_at hl 0 rfl) ?_
              refine q_get (v := .ref (ad 1)) C S (oM0 cI cB ad) rfl iwX12 1 (by decide) mw_14 rfl dX12_count_92 ?_
              refine lv_iconst (v := 5) hx hb dX12_count_95 (by decide) ?_
              refine q_iald C S (aM1 cI cB ad) 0 rfl (show vp_in 5 32243 by unfold vp_in; decide) dX12_count_96 (j := 5) (by decide) ?_
              exact q_iret C S (rt_S h) dX12_count_97
            · have h := cnd_f c11 h
              by_cases c12 : x1 = 6
              · have h := cnd_t c12 h
                refine lv_tableIn (off := 92) (tgt := 98) hx hb dX12_count_6 (by rw [c12]; decide) (by rw [c12]; decide) (by rw [c12]; rfl) (by decide) ?_
                refine lv_aload_n hx hb dX12_count_98 rfl (lv_at hl 0 rfl) ?_
                refine q_get (v := .ref (ad 1)) C S (oM0 cI cB ad) rfl iwX12 1 (by decide) mw_14 rfl dX12_count_99 ?_
                refine lv_bipush (v := 6) hx hb dX12_count_102 (by decide) ?_
                refine q_iald C S (aM1 cI cB ad) 0 rfl (show vp_in 6 32243 by unfold vp_in; decide) dX12_count_104 (j := 6) (by decide) ?_
                exact q_iret C S (rt_S h) dX12_count_105
              · have h := cnd_f c12 h
                by_cases c13 : x1 = 7
                · have h := cnd_t c13 h
                  refine lv_tableIn (off := 100) (tgt := 106) hx hb dX12_count_6 (by rw [c13]; decide) (by rw [c13]; decide) (by rw [c13]; rfl) (by decide) ?_
                  refine lv_aload_n hx hb dX12_count_106 rfl (lv_at hl 0 rfl) ?_
                  refine q_get (v := .ref (ad 1)) C S (oM0 cI cB ad) rfl iwX12 1 (by decide) mw_14 rfl dX12_count_107 ?_
                  refine lv_bipush (v := 7) hx hb dX12_count_110 (by decide) ?_
                  refine q_iald C S (aM1 cI cB ad) 0 rfl (show vp_in 7 32243 by unfold vp_in; decide) dX12_count_112 (j := 7) (by decide) ?_
                  exact q_iret C S (rt_S h) dX12_count_113
                · have h := cnd_f c13 h
                  by_cases c14 : x1 = 8
                  · have h := cnd_t c14 h
                    refine lv_tableIn (off := 108) (tgt := 114) hx hb dX12_count_6 (by rw [c14]; decide) (by rw [c14]; decide) (by rw [c14]; rfl) (by decide) ?_
                    refine lv_aload_n hx hb dX12_count_114 rfl (lv_at hl 0 rfl) ?_
                    obtain ⟨r16, h15, h⟩ := obr_some h
                    refine q_callVi (As := []) (na := 0) C S (oM0 cI cB ad) rfl (ct_X12_packets l D cI cB cL ad u1 h15) mw_258 mw_257 mw_259 mw_5 mw_256 hdX12_packets ⟨Nat.le_trans (Nat.le_of_ble_eq_true rfl) hR.1, Nat.le_trans (Nat.le_of_ble_eq_true rfl) hR.2⟩ rfl hsz ⟨Nat.zero_le _, Nat.zero_le _⟩ (Nat.le_of_ble_eq_true rfl) dX12_count_115 rfl (fun H locs S => ?_)
                    exact q_iret C S (rt_S h) dX12_count_118
                  · have h := cnd_f c14 h
                    by_cases c17 : x1 = 9
                    · have h := cnd_t c17 h
                      refine lv_tableIn (off := 113) (tgt := 119) hx hb dX12_count_6 (by rw [c17]; decide) (by rw [c17]; decide) (by rw [c17]; rfl) (by decide) ?_
                      refine lv_aload_n hx hb dX12_count_119 rfl (lv_at hl 0 rfl) ?_
                      refine q_get (v := .ref (ad 1)) C S (oM0 cI cB ad) rfl iwX12 1 (by decide) mw_14 rfl dX12_count_120 ?_
                      refine lv_bipush (v := 9) hx hb dX12_count_123 (by decide) ?_
                      refine q_iald C S (aM1 cI cB ad) 0 rfl (show vp_in 9 32243 by unfold vp_in; decide) dX12_count_125 (j := 9) (by decide) ?_
                      exact q_iret C S (rt_S h) dX12_count_126
                    · have h := cnd_f c17 h
                      refine lv_tableOut (tgt := 127) hx hb dX12_count_6 (sw_out (0) 10 (fun k hk => by
                        rcases (show k = 0 ∨ k = 1 ∨ k = 2 ∨ k = 3 ∨ k = 4 ∨ k = 5 ∨ k = 6 ∨ k = 7 ∨ k = 8 ∨ k = 9 by omega) with rfl | rfl | rfl | rfl | rfl | rfl | rfl | rfl | rfl | rfl
                        · exact sw_ne 0 _ (by decide) c2
                        · exact sw_ne 1 _ (by decide) c5
                        · exact sw_ne 2 _ (by decide) c6
                        · exact sw_ne 3 _ (by decide) c7
                        · exact sw_ne 4 _ (by decide) c10
                        · exact sw_ne 5 _ (by decide) c11
                        · exact sw_ne 6 _ (by decide) c12
                        · exact sw_ne 7 _ (by decide) c13
                        · exact sw_ne 8 _ (by decide) c14
                        · exact sw_ne 9 _ (by decide) c17)) (by decide) ?_
                      refine lv_iconst (v := (-1)) hx hb dX12_count_127 (by decide) ?_
                      exact q_iret C S (rt_S h) dX12_count_128
set_option maxRecDepth 10000 in
set_option maxHeartbeats 4000000 in
theorem ct_X12_count (l : Launch) (D : va_G) (cI cB cL : ClassId) (ad : Nat → Nat) (x1 : Int32) (u : Sg) {r : Int32} {σ' : Sg} (h : fX12_count x1 u = some (r, σ')) : metI l D (tyl cI cB cL) yX12_count cX12_count 2 (some .int) 3 68 (wM cI cB ad) [.ref (ad 0), .int x1] u r σ' := by
  intro sz
  refine Met.ofW (cc := cX12_count) (maxL := 2) (ret := (some .int)) (by decide) rfl ?_
  intro p e s m args below meth c s₁ B hml hv
  obtain ⟨rfl, C, S⟩ := q_entry B hml hv
  have hl := lv_entry ([.ref (ad 0), .int x1]) (n := 2) (Nat.le_of_ble_eq_true rfl)
  rw [lg_entry_eq]
  generalize (lg_sl ([.ref (ad 0), .int x1]) ++ List.replicate (2 - (lg_sl ([.ref (ad 0), .int x1])).length) Slot.unset).toArray = ls at hl ⊢
  exact wX12_count_0 C ⟨Nat.le_refl _, Nat.le_refl _⟩ u x1 (lv_sub hl [0, 1] rfl) S h
noncomputable def fX12_blockOf_91 (K22 : Int32 → Int32 → Int32 → Int32 → Option Int32) (x1 : Int32) (x2 : Int32) (x3 : Int32) (x4 : Int32) (u : Sg) : Option Int32 := bnd (x4 + 1) (fun v11 => K22 x1 x2 x3 v11)
noncomputable def fX12_blockOf_88 (K22 : Int32 → Int32 → Int32 → Int32 → Option Int32) (x1 : Int32) (x2 : Int32) (x4 : Int32) (u : Sg) : Option Int32 := fX12_blockOf_91 K22 x1 x2 x4 x4 u
noncomputable def fX12_blockOf_65 (K22 : Int32 → Int32 → Int32 → Int32 → Option Int32) (x1 : Int32) (x2 : Int32) (x3 : Int32) (x4 : Int32) (t0 : Int32) (u : Sg) : Option Int32 := cnd (t0 = 0) (fX12_blockOf_91 K22 x1 x2 x3 x4 u) (cnd (x3 = (-1)) (fX12_blockOf_88 K22 x1 x2 x4 u) (obr (fX12_isAhead x1 x4 x3 u) (fun r14 => cnd (r14 = 0) (fX12_blockOf_91 K22 x1 x2 x3 x4 u) (fX12_blockOf_88 K22 x1 x2 x4 u))))
noncomputable def fX12_blockOf_64 (K22 : Int32 → Int32 → Int32 → Int32 → Option Int32) (x1 : Int32) (x2 : Int32) (x3 : Int32) (x4 : Int32) (u : Sg) : Option Int32 := fX12_blockOf_65 K22 x1 x2 x3 x4 0 u
noncomputable def fX12_blockOf_60 (K22 : Int32 → Int32 → Int32 → Int32 → Option Int32) (x1 : Int32) (x2 : Int32) (x3 : Int32) (x4 : Int32) (u : Sg) : Option Int32 := fX12_blockOf_65 K22 x1 x2 x3 x4 1 u
noncomputable def fX12_blockOf_22 (u : Sg) : Nat → Int32 → Int32 → Int32 → Int32 → Option Int32
  | 0, _, _, _, _ => none
  | n + 1, x1, x2, x3, x4 => obr (fX12_messages u) (fun r5 => cnd (r5 ≤ x4) (some x3) (obr (fX12_ofPair x1 x4 0 u) (fun r8 => cnd (r8 = 1) (cnd (x4 = x2) (fX12_blockOf_60 (fun a0 a1 a2 a3 => fX12_blockOf_22 u n a0 a1 a2 a3) x1 x2 x3 x4 u) (obr (fX12_isAhead x1 x4 x2 u) (fun r18 => cnd (r18 = 0) (fX12_blockOf_64 (fun a0 a1 a2 a3 => fX12_blockOf_22 u n a0 a1 a2 a3) x1 x2 x3 x4 u) (fX12_blockOf_60 (fun a0 a1 a2 a3 => fX12_blockOf_22 u n a0 a1 a2 a3) x1 x2 x3 x4 u)))) (fX12_blockOf_64 (fun a0 a1 a2 a3 => fX12_blockOf_22 u n a0 a1 a2 a3) x1 x2 x3 x4 u))))
noncomputable def fX12_blockOf_0 (x1 : Int32) (x2 : Int32) (u : Sg) : Option Int32 := obr (fX12_ofPair x1 x2 0 u) (fun r2 => cnd ((fX12_in r2 1 2) = 0) (some (-1)) (fX12_blockOf_22 u FU x1 x2 (-1) 0))
noncomputable def fX12_blockOf (x1 : Int32) (x2 : Int32) (u : Sg) : Option Int32 := fX12_blockOf_0 x1 x2 u
set_option maxRecDepth 10000 in
set_option maxHeartbeats 4000000 in
theorem wX12_blockOf_91 (C : cx D (tyl cI cB cL) A RX12 cX12_blockOf 6 (some .int) p s m args c meth) (hR : 4 ≤ R.frames ∧ 90 ≤ R.locals) {r : Int32} (u : Sg) {K22 : Int32 → Int32 → Int32 → Int32 → Option Int32} (hK22 : ∀ (y1 : Int32) (y2 : Int32) (y3 : Int32) (y4 : Int32) (H : Heap) (locs : List Loc) (ls : Array Slot), lv_has ls 6 [(0, .ref (ad 0)), (1, .int y1), (2, .int y2), (3, .int y3), (4, .int y4)] → st D (wM cI cB ad) A s u H locs → K22 y1 y2 y3 y4 = some r → W p l e R s m args below meth c H locs 0 0 (MQ below (qI D (tyl cI cB cL) (wM cI cB ad) A r u) args s 0 0 A) (F0 m 22 ls [])) (x1 : Int32) (x2 : Int32) (x3 : Int32) (x4 : Int32) {H : Heap} {locs : List Loc} {ls : Array Slot} (hl : lv_has ls 6 [(0, .ref (ad 0)), (1, .int x1), (2, .int x2), (3, .int x3), (4, .int x4)]) (S : st D (wM cI cB ad) A s u H locs) (h : fX12_blockOf_91 K22 x1 x2 x3 x4 u = some r) : W p l e R s m args below meth c H locs 0 0 (MQ below (qI D (tyl cI cB cL) (wM cI cB ad) A r u) args s 0 0 A) (F0 m 91 ls []) := by
  have hx := C.1
  have hb := C.2.1
  have hsz := hl.1
  unfold fX12_blockOf_91 at h
  obtain ⟨v11, ev11⟩ : ∃ y : Int32, y = x4 + 1 := ⟨_, rfl⟩
  have h := bnd_of ev11 h
  refine lv_iinc (v := v11) (lv' := [(4, .int v11), (0, .ref (ad 0)), (1, .int x1), (2, .int x2), (3, .int x3)]) hx hb dX12_blockOf_91 hl (k := 4) rfl (by rw [ev11]; rfl) (by decide) rfl (fun ls hl => ?_)
  have hsz := hl.1
  refine lv_goto (tgt := 22) hx hb dX12_blockOf_94 (by decide) ?_
  exact hK22 x1 x2 x3 v11 H locs ls (lv_sub hl [1, 2, 3, 4, 0] rfl) S h
set_option maxRecDepth 10000 in
set_option maxHeartbeats 4000000 in
theorem wX12_blockOf_88 (C : cx D (tyl cI cB cL) A RX12 cX12_blockOf 6 (some .int) p s m args c meth) (hR : 4 ≤ R.frames ∧ 90 ≤ R.locals) {r : Int32} (u : Sg) {K22 : Int32 → Int32 → Int32 → Int32 → Option Int32} (hK22 : ∀ (y1 : Int32) (y2 : Int32) (y3 : Int32) (y4 : Int32) (H : Heap) (locs : List Loc) (ls : Array Slot), lv_has ls 6 [(0, .ref (ad 0)), (1, .int y1), (2, .int y2), (3, .int y3), (4, .int y4)] → st D (wM cI cB ad) A s u H locs → K22 y1 y2 y3 y4 = some r → W p l e R s m args below meth c H locs 0 0 (MQ below (qI D (tyl cI cB cL) (wM cI cB ad) A r u) args s 0 0 A) (F0 m 22 ls [])) (x1 : Int32) (x2 : Int32) (x4 : Int32) {H : Heap} {locs : List Loc} {ls : Array Slot} (hl : lv_has ls 6 [(0, .ref (ad 0)), (1, .int x1), (2, .int x2), (4, .int x4)]) (S : st D (wM cI cB ad) A s u H locs) (h : fX12_blockOf_88 K22 x1 x2 x4 u = some r) : W p l e R s m args below meth c H locs 0 0 (MQ below (qI D (tyl cI cB cL) (wM cI cB ad) A r u) args s 0 0 A) (F0 m 88 ls []) := by
  have hx := C.1
  have hb := C.2.1
  have hsz := hl.1
  unfold fX12_blockOf_88 at h
  refine lv_iload hx hb dX12_blockOf_88 (lv_at hl 3 rfl) ?_
  refine lv_istore_n (lv' := [(3, .int x4), (0, .ref (ad 0)), (1, .int x1), (2, .int x2), (4, .int x4)]) hx hb dX12_blockOf_90 rfl hl (by decide) rfl (fun ls hl => ?_)
  have hsz := hl.1
  exact wX12_blockOf_91 C hR u hK22 x1 x2 x4 x4 (lv_sub hl [1, 2, 3, 0, 4] rfl) S h
set_option maxRecDepth 10000 in
set_option maxHeartbeats 4000000 in
theorem wX12_blockOf_65 (C : cx D (tyl cI cB cL) A RX12 cX12_blockOf 6 (some .int) p s m args c meth) (hR : 4 ≤ R.frames ∧ 90 ≤ R.locals) {r : Int32} (u : Sg) {K22 : Int32 → Int32 → Int32 → Int32 → Option Int32} (hK22 : ∀ (y1 : Int32) (y2 : Int32) (y3 : Int32) (y4 : Int32) (H : Heap) (locs : List Loc) (ls : Array Slot), lv_has ls 6 [(0, .ref (ad 0)), (1, .int y1), (2, .int y2), (3, .int y3), (4, .int y4)] → st D (wM cI cB ad) A s u H locs → K22 y1 y2 y3 y4 = some r → W p l e R s m args below meth c H locs 0 0 (MQ below (qI D (tyl cI cB cL) (wM cI cB ad) A r u) args s 0 0 A) (F0 m 22 ls [])) (x1 : Int32) (x2 : Int32) (x3 : Int32) (x4 : Int32) (t0 : Int32) {H : Heap} {locs : List Loc} {ls : Array Slot} (hl : lv_has ls 6 [(0, .ref (ad 0)), (1, .int x1), (2, .int x2), (3, .int x3), (4, .int x4)]) (S : st D (wM cI cB ad) A s u H locs) (h : fX12_blockOf_65 K22 x1 x2 x3 x4 t0 u = some r) : W p l e R s m args below meth c H locs 0 0 (MQ below (qI D (tyl cI cB cL) (wM cI cB ad) A r u) args s 0 0 A) (F0 m 65 ls [.int t0]) := by
  have hx := C.1
  have hb := C.2.1
  have hsz := hl.1
  unfold fX12_blockOf_65 at h
  refine lv_istore (lv' := [(5, .int t0), (0, .ref (ad 0)), (1, .int x1), (2, .int x2), (3, .int x3), (4, .int x4)]) hx hb dX12_blockOf_65 hl (by decide) rfl (fun ls hl => ?_)
  have hsz := hl.1
  refine lv_iload hx hb dX12_blockOf_67 (lv_at hl 0 rfl) ?_
  refine lv_if_eq (tgt := 91) hx hb dX12_blockOf_69 (by decide) (fun c10 => ?_) (fun c10 => ?_)
  · have h := cnd_t c10 h
    exact wX12_blockOf_91 C hR u hK22 x1 x2 x3 x4 (lv_sub hl [1, 2, 3, 4, 5] rfl) S h
  · have h := cnd_f c10 h
    refine lv_iload_n hx hb dX12_blockOf_72 rfl (lv_at hl 4 rfl) ?_
    refine lv_iconst (v := (-1)) hx hb dX12_blockOf_73 (by decide) ?_
    refine lv_icmp_eq (tgt := 88) hx hb dX12_blockOf_74 (by decide) (fun c12 => ?_) (fun c12 => ?_)
    · have h := cnd_t c12 h
      exact wX12_blockOf_88 C hR u hK22 x1 x2 x4 (lv_sub hl [1, 2, 3, 5] rfl) S h
    · have h := cnd_f c12 h
      refine lv_aload_n hx hb dX12_blockOf_77 rfl (lv_at hl 1 rfl) ?_
      refine lv_iload_n hx hb dX12_blockOf_78 rfl (lv_at hl 2 rfl) ?_
      refine lv_iload hx hb dX12_blockOf_79 (lv_at hl 5 rfl) ?_
      refine lv_iload_n hx hb dX12_blockOf_81 rfl (lv_at hl 4 rfl) ?_
      obtain ⟨r14, h13, h⟩ := obr_some h
      refine q_callVi (As := [.int x1, .int x4, .int x3]) (na := 3) C S (oM0 cI cB ad) rfl (ct_X12_isAhead l D cI cB cL ad x1 x4 x3 u h13) mw_174 mw_173 mw_175 mw_5 mw_172 hdX12_isAhead ⟨Nat.le_trans (Nat.le_of_ble_eq_true rfl) hR.1, Nat.le_trans (Nat.le_of_ble_eq_true rfl) hR.2⟩ rfl hsz ⟨Nat.zero_le _, Nat.zero_le _⟩ (Nat.le_of_ble_eq_true rfl) dX12_blockOf_82 rfl (fun H locs S => ?_)
      refine lv_if_eq (tgt := 91) hx hb dX12_blockOf_85 (by decide) (fun c15 => ?_) (fun c15 => ?_)
      · have h := cnd_t c15 h
        exact wX12_blockOf_91 C hR u hK22 x1 x2 x3 x4 (lv_sub hl [1, 2, 3, 4, 5] rfl) S h
      · have h := cnd_f c15 h
        exact wX12_blockOf_88 C hR u hK22 x1 x2 x4 (lv_sub hl [1, 2, 3, 5] rfl) S h
set_option maxRecDepth 10000 in
set_option maxHeartbeats 4000000 in
theorem wX12_blockOf_64 (C : cx D (tyl cI cB cL) A RX12 cX12_blockOf 6 (some .int) p s m args c meth) (hR : 4 ≤ R.frames ∧ 90 ≤ R.locals) {r : Int32} (u : Sg) {K22 : Int32 → Int32 → Int32 → Int32 → Option Int32} (hK22 : ∀ (y1 : Int32) (y2 : Int32) (y3 : Int32) (y4 : Int32) (H : Heap) (locs : List Loc) (ls : Array Slot), lv_has ls 6 [(0, .ref (ad 0)), (1, .int y1), (2, .int y2), (3, .int y3), (4, .int y4)] → st D (wM cI cB ad) A s u H locs → K22 y1 y2 y3 y4 = some r → W p l e R s m args below meth c H locs 0 0 (MQ below (qI D (tyl cI cB cL) (wM cI cB ad) A r u) args s 0 0 A) (F0 m 22 ls [])) (x1 : Int32) (x2 : Int32) (x3 : Int32) (x4 : Int32) {H : Heap} {locs : List Loc} {ls : Array Slot} (hl : lv_has ls 6 [(0, .ref (ad 0)), (1, .int x1), (2, .int x2), (3, .int x3), (4, .int x4)]) (S : st D (wM cI cB ad) A s u H locs) (h : fX12_blockOf_64 K22 x1 x2 x3 x4 u = some r) : W p l e R s m args below meth c H locs 0 0 (MQ below (qI D (tyl cI cB cL) (wM cI cB ad) A r u) args s 0 0 A) (F0 m 64 ls []) := by
  have hx := C.1
  have hb := C.2.1
  have hsz := hl.1
  unfold fX12_blockOf_64 at h
  refine lv_iconst (v := 0) hx hb dX12_blockOf_64 (by decide) ?_
  exact wX12_blockOf_65 C hR u hK22 x1 x2 x3 x4 0 (lv_sub hl [0, 1, 2, 3, 4] rfl) S h
set_option maxRecDepth 10000 in
set_option maxHeartbeats 4000000 in
theorem wX12_blockOf_60 (C : cx D (tyl cI cB cL) A RX12 cX12_blockOf 6 (some .int) p s m args c meth) (hR : 4 ≤ R.frames ∧ 90 ≤ R.locals) {r : Int32} (u : Sg) {K22 : Int32 → Int32 → Int32 → Int32 → Option Int32} (hK22 : ∀ (y1 : Int32) (y2 : Int32) (y3 : Int32) (y4 : Int32) (H : Heap) (locs : List Loc) (ls : Array Slot), lv_has ls 6 [(0, .ref (ad 0)), (1, .int y1), (2, .int y2), (3, .int y3), (4, .int y4)] → st D (wM cI cB ad) A s u H locs → K22 y1 y2 y3 y4 = some r → W p l e R s m args below meth c H locs 0 0 (MQ below (qI D (tyl cI cB cL) (wM cI cB ad) A r u) args s 0 0 A) (F0 m 22 ls [])) (x1 : Int32) (x2 : Int32) (x3 : Int32) (x4 : Int32) {H : Heap} {locs : List Loc} {ls : Array Slot} (hl : lv_has ls 6 [(0, .ref (ad 0)), (1, .int x1), (2, .int x2), (3, .int x3), (4, .int x4)]) (S : st D (wM cI cB ad) A s u H locs) (h : fX12_blockOf_60 K22 x1 x2 x3 x4 u = some r) : W p l e R s m args below meth c H locs 0 0 (MQ below (qI D (tyl cI cB cL) (wM cI cB ad) A r u) args s 0 0 A) (F0 m 60 ls []) := by
  have hx := C.1
  have hb := C.2.1
  have hsz := hl.1
  unfold fX12_blockOf_60 at h
  refine lv_iconst (v := 1) hx hb dX12_blockOf_60 (by decide) ?_
  refine lv_goto (tgt := 65) hx hb dX12_blockOf_61 (by decide) ?_
  exact wX12_blockOf_65 C hR u hK22 x1 x2 x3 x4 1 (lv_sub hl [0, 1, 2, 3, 4] rfl) S h
set_option maxRecDepth 10000 in
set_option maxHeartbeats 4000000 in
theorem wX12_blockOf_22 (C : cx D (tyl cI cB cL) A RX12 cX12_blockOf 6 (some .int) p s m args c meth) (hR : 4 ≤ R.frames ∧ 90 ≤ R.locals) {r : Int32} (u : Sg) : ∀ (n : Nat) (x1 : Int32) (x2 : Int32) (x3 : Int32) (x4 : Int32) (H : Heap) (locs : List Loc) (ls : Array Slot), lv_has ls 6 [(0, .ref (ad 0)), (1, .int x1), (2, .int x2), (3, .int x3), (4, .int x4)] → st D (wM cI cB ad) A s u H locs → fX12_blockOf_22 u n x1 x2 x3 x4 = some r → W p l e R s m args below meth c H locs 0 0 (MQ below (qI D (tyl cI cB cL) (wM cI cB ad) A r u) args s 0 0 A) (F0 m 22 ls []) := by
  have hx := C.1
  have hb := C.2.1
  intro n
  induction n with
  | zero =>
    intro x1 x2 x3 x4 H locs ls hl S h
    cases h
  | succ n ih =>
    intro x1 x2 x3 x4 H locs ls hl S h
    rw [fX12_blockOf_22] at h
    have hsz := hl.1
    refine lv_iload hx hb dX12_blockOf_22 (lv_at hl 4 rfl) ?_
    refine lv_aload_n hx hb dX12_blockOf_24 rfl (lv_at hl 0 rfl) ?_
    obtain ⟨r5, h4, h⟩ := obr_some h
    refine q_callVi (As := []) (na := 0) C S (oM0 cI cB ad) rfl (ct_X12_messages l D cI cB cL ad u h4) mw_31 mw_30 mw_32 mw_5 mw_29 hdX12_messages ⟨Nat.le_trans (Nat.le_of_ble_eq_true rfl) hR.1, Nat.le_trans (Nat.le_of_ble_eq_true rfl) hR.2⟩ rfl hsz ⟨Nat.zero_le _, Nat.zero_le _⟩ (Nat.le_of_ble_eq_true rfl) dX12_blockOf_25 rfl (fun H locs S => ?_)
    refine lv_icmp_ge (tgt := 97) hx hb dX12_blockOf_28 (by decide) (fun c6 => ?_) (fun c6 => ?_)
    · have h := cnd_t c6 h
      refine lv_iload_n hx hb dX12_blockOf_97 rfl (lv_at hl 3 rfl) ?_
      exact q_iret C S (rt_R h) dX12_blockOf_98
    · have h := cnd_f c6 h
      refine lv_aload_n hx hb dX12_blockOf_31 rfl (lv_at hl 0 rfl) ?_
      refine lv_iload_n hx hb dX12_blockOf_32 rfl (lv_at hl 1 rfl) ?_
      refine lv_iload hx hb dX12_blockOf_33 (lv_at hl 4 rfl) ?_
      refine lv_iconst (v := 0) hx hb dX12_blockOf_35 (by decide) ?_
      obtain ⟨r8, h7, h⟩ := obr_some h
      refine q_callVi (As := [.int x1, .int x4, .int 0]) (na := 3) C S (oM0 cI cB ad) rfl (ct_X12_ofPair l D cI cB cL ad x1 x4 0 u h7) mw_126 mw_125 mw_127 mw_5 mw_124 hdX12_ofPair ⟨Nat.le_trans (Nat.le_of_ble_eq_true rfl) hR.1, Nat.le_trans (Nat.le_of_ble_eq_true rfl) hR.2⟩ rfl hsz ⟨Nat.zero_le _, Nat.zero_le _⟩ (Nat.le_of_ble_eq_true rfl) dX12_blockOf_36 rfl (fun H locs S => ?_)
      refine lv_iconst (v := 1) hx hb dX12_blockOf_39 (by decide) ?_
      refine lv_icmp_ne (tgt := 64) hx hb dX12_blockOf_40 (by decide) (fun c9 => ?_) (fun c9 => ?_)
      · have h := cnd_f c9 h
        exact wX12_blockOf_64 C hR u ih x1 x2 x3 x4 (lv_sub hl [0, 1, 2, 3, 4] rfl) S h
      · have h := cnd_t c9 h
        refine lv_iload hx hb dX12_blockOf_43 (lv_at hl 4 rfl) ?_
        refine lv_iload_n hx hb dX12_blockOf_45 rfl (lv_at hl 2 rfl) ?_
        refine lv_icmp_eq (tgt := 60) hx hb dX12_blockOf_46 (by decide) (fun c16 => ?_) (fun c16 => ?_)
        · have h := cnd_t c16 h
          exact wX12_blockOf_60 C hR u ih x1 x2 x3 x4 (lv_sub hl [0, 1, 2, 3, 4] rfl) S h
        · have h := cnd_f c16 h
          refine lv_aload_n hx hb dX12_blockOf_49 rfl (lv_at hl 0 rfl) ?_
          refine lv_iload_n hx hb dX12_blockOf_50 rfl (lv_at hl 1 rfl) ?_
          refine lv_iload hx hb dX12_blockOf_51 (lv_at hl 4 rfl) ?_
          refine lv_iload_n hx hb dX12_blockOf_53 rfl (lv_at hl 2 rfl) ?_
          obtain ⟨r18, h17, h⟩ := obr_some h
          refine q_callVi (As := [.int x1, .int x4, .int x2]) (na := 3) C S (oM0 cI cB ad) rfl (ct_X12_isAhead l D cI cB cL ad x1 x4 x2 u h17) mw_174 mw_173 mw_175 mw_5 mw_172 hdX12_isAhead ⟨Nat.le_trans (Nat.le_of_ble_eq_true rfl) hR.1, Nat.le_trans (Nat.le_of_ble_eq_true rfl) hR.2⟩ rfl hsz ⟨Nat.zero_le _, Nat.zero_le _⟩ (Nat.le_of_ble_eq_true rfl) dX12_blockOf_54 rfl (fun H locs S => ?_)
          refine lv_if_eq (tgt := 64) hx hb dX12_blockOf_57 (by decide) (fun c19 => ?_) (fun c19 => ?_)
          · have h := cnd_t c19 h
            exact wX12_blockOf_64 C hR u ih x1 x2 x3 x4 (lv_sub hl [0, 1, 2, 3, 4] rfl) S h
          · have h := cnd_f c19 h
            exact wX12_blockOf_60 C hR u ih x1 x2 x3 x4 (lv_sub hl [0, 1, 2, 3, 4] rfl) S h
set_option maxRecDepth 10000 in
set_option maxHeartbeats 4000000 in
theorem wX12_blockOf_0 (C : cx D (tyl cI cB cL) A RX12 cX12_blockOf 6 (some .int) p s m args c meth) (hR : 4 ≤ R.frames ∧ 90 ≤ R.locals) {r : Int32} (u : Sg) (x1 : Int32) (x2 : Int32) {H : Heap} {locs : List Loc} {ls : Array Slot} (hl : lv_has ls 6 [(0, .ref (ad 0)), (1, .int x1), (2, .int x2)]) (S : st D (wM cI cB ad) A s u H locs) (h : fX12_blockOf_0 x1 x2 u = some r) : W p l e R s m args below meth c H locs 0 0 (MQ below (qI D (tyl cI cB cL) (wM cI cB ad) A r u) args s 0 0 A) (F0 m 0 ls []) := by
  have hx := C.1
  have hb := C.2.1
  have hsz := hl.1
  unfold fX12_blockOf_0 at h
  refine lv_aload_n hx hb dX12_blockOf_0 rfl (lv_at hl 0 rfl) ?_
  refine lv_iload_n hx hb dX12_blockOf_1 rfl (lv_at hl 1 rfl) ?_
  refine lv_iload_n hx hb dX12_blockOf_2 rfl (lv_at hl 2 rfl) ?_
  refine lv_iconst (v := 0) hx hb dX12_blockOf_3 (by decide) ?_
  obtain ⟨r2, h1, h⟩ := obr_some h
  refine q_callVi (As := [.int x1, .int x2, .int 0]) (na := 3) C S (oM0 cI cB ad) rfl (ct_X12_ofPair l D cI cB cL ad x1 x2 0 u h1) mw_126 mw_125 mw_127 mw_5 mw_124 hdX12_ofPair ⟨Nat.le_trans (Nat.le_of_ble_eq_true rfl) hR.1, Nat.le_trans (Nat.le_of_ble_eq_true rfl) hR.2⟩ rfl hsz ⟨Nat.zero_le _, Nat.zero_le _⟩ (Nat.le_of_ble_eq_true rfl) dX12_blockOf_4 rfl (fun H locs S => ?_)
  refine lv_iconst (v := 1) hx hb dX12_blockOf_7 (by decide) ?_
  refine lv_iconst (v := 2) hx hb dX12_blockOf_8 (by decide) ?_
  refine q_callP (As := [.int r2, .int 1, .int 2]) (na := 3) C S (ct_X12_in l D cI cB cL r2 1 2) mw_28 mw_27 mw_5 mw_26 hdX12_in ⟨Nat.le_trans (Nat.le_of_ble_eq_true rfl) hR.1, Nat.le_trans (Nat.le_of_ble_eq_true rfl) hR.2⟩ rfl hsz ⟨Nat.zero_le _, Nat.zero_le _⟩ (Nat.le_of_ble_eq_true rfl) dX12_blockOf_9 rfl (fun H locs S => ?_)
  refine lv_if_ne (tgt := 17) hx hb dX12_blockOf_12 (by decide) (fun c3 => ?_) (fun c3 => ?_)
  · have h := cnd_f c3 h
    refine lv_iconst (v := (-1)) hx hb dX12_blockOf_17 (by decide) ?_
    refine lv_istore_n (lv' := [(3, .int (-1)), (0, .ref (ad 0)), (1, .int x1), (2, .int x2)]) hx hb dX12_blockOf_18 rfl hl (by decide) rfl (fun ls hl => ?_)
    have hsz := hl.1
    refine lv_iconst (v := 0) hx hb dX12_blockOf_19 (by decide) ?_
    refine lv_istore (lv' := [(4, .int 0), (3, .int (-1)), (0, .ref (ad 0)), (1, .int x1), (2, .int x2)]) hx hb dX12_blockOf_20 hl (by decide) rfl (fun ls hl => ?_)
    have hsz := hl.1
    exact wX12_blockOf_22 C hR u FU x1 x2 (-1) 0 H locs ls (lv_sub hl [2, 3, 4, 1, 0] rfl) S h
  · have h := cnd_t c3 h
    refine lv_iconst (v := (-1)) hx hb dX12_blockOf_15 (by decide) ?_
    exact q_iret C S (rt_R h) dX12_blockOf_16
set_option maxRecDepth 10000 in
set_option maxHeartbeats 4000000 in
theorem ct_X12_blockOf (l : Launch) (D : va_G) (cI cB cL : ClassId) (ad : Nat → Nat) (x1 : Int32) (x2 : Int32) (u : Sg) {r : Int32} (h : fX12_blockOf x1 x2 u = some r) : metI l D (tyl cI cB cL) yX12_blockOf cX12_blockOf 6 (some .int) 4 90 (wM cI cB ad) [.ref (ad 0), .int x1, .int x2] u r u := by
  intro sz
  refine Met.ofW (cc := cX12_blockOf) (maxL := 6) (ret := (some .int)) (by decide) rfl ?_
  intro p e s m args below meth c s₁ B hml hv
  obtain ⟨rfl, C, S⟩ := q_entry B hml hv
  have hl := lv_entry ([.ref (ad 0), .int x1, .int x2]) (n := 6) (Nat.le_of_ble_eq_true rfl)
  rw [lg_entry_eq]
  generalize (lg_sl ([.ref (ad 0), .int x1, .int x2]) ++ List.replicate (6 - (lg_sl ([.ref (ad 0), .int x1, .int x2])).length) Slot.unset).toArray = ls at hl ⊢
  exact wX12_blockOf_0 C ⟨Nat.le_refl _, Nat.le_refl _⟩ u x1 x2 (lv_sub hl [0, 1, 2] rfl) S h
noncomputable def fX12_block_0 (x1 : Int32) (x2 : Int32) (u : Sg) : Option (Int32 × Sg) := obd (fX12_noPair x1 x2 u) (fun r2 u3 => cnd (r2 = 0) (obr (fX12_blockOf x1 x2 u3) (fun r6 => some (r6, u3))) (some (0, u3)))
noncomputable def fX12_block (x1 : Int32) (x2 : Int32) (u : Sg) : Option (Int32 × Sg) := fX12_block_0 x1 x2 u
set_option maxRecDepth 10000 in
set_option maxHeartbeats 4000000 in
theorem wX12_block_0 (C : cx D (tyl cI cB cL) A RX12 cX12_block 3 (some .int) p s m args c meth) (hR : 5 ≤ R.frames ∧ 115 ≤ R.locals) {r : Int32} {σ' : Sg} (u : Sg) (x1 : Int32) (x2 : Int32) {H : Heap} {locs : List Loc} {ls : Array Slot} (hl : lv_has ls 3 [(0, .ref (ad 0)), (1, .int x1), (2, .int x2)]) (S : st D (wM cI cB ad) A s u H locs) (h : fX12_block_0 x1 x2 u = some (r, σ')) : W p l e R s m args below meth c H locs 0 0 (MQ below (qI D (tyl cI cB cL) (wM cI cB ad) A r σ') args s 0 0 A) (F0 m 0 ls []) := by
  have hx := C.1
  have hb := C.2.1
  have hsz := hl.1
  unfold fX12_block_0 at h
  refine lv_aload_n hx hb dX12_block_0 rfl (lv_at hl 0 rfl) ?_
  refine lv_iload_n hx hb dX12_block_1 rfl (lv_at hl 1 rfl) ?_
  refine lv_iload_n hx hb dX12_block_2 rfl (lv_at hl 2 rfl) ?_
  obtain ⟨r2, u3, h1, h⟩ := obd_some h
  refine q_callVi (As := [.int x1, .int x2]) (na := 2) C S (oM0 cI cB ad) rfl (ct_X12_noPair l D cI cB cL ad x1 x2 u h1) mw_250 mw_249 mw_251 mw_5 mw_248 hdX12_noPair ⟨Nat.le_trans (Nat.le_of_ble_eq_true rfl) hR.1, Nat.le_trans (Nat.le_of_ble_eq_true rfl) hR.2⟩ rfl hsz ⟨Nat.zero_le _, Nat.zero_le _⟩ (Nat.le_of_ble_eq_true rfl) dX12_block_3 rfl (fun H locs S => ?_)
  refine lv_if_eq (tgt := 13) hx hb dX12_block_6 (by decide) (fun c4 => ?_) (fun c4 => ?_)
  · have h := cnd_t c4 h
    refine lv_aload_n hx hb dX12_block_13 rfl (lv_at hl 0 rfl) ?_
    refine lv_iload_n hx hb dX12_block_14 rfl (lv_at hl 1 rfl) ?_
    refine lv_iload_n hx hb dX12_block_15 rfl (lv_at hl 2 rfl) ?_
    obtain ⟨r6, h5, h⟩ := obr_some h
    refine q_callVi (As := [.int x1, .int x2]) (na := 2) C S (oM0 cI cB ad) rfl (ct_X12_blockOf l D cI cB cL ad x1 x2 u3 h5) mw_262 mw_261 mw_263 mw_5 mw_260 hdX12_blockOf ⟨Nat.le_trans (Nat.le_of_ble_eq_true rfl) hR.1, Nat.le_trans (Nat.le_of_ble_eq_true rfl) hR.2⟩ rfl hsz ⟨Nat.zero_le _, Nat.zero_le _⟩ (Nat.le_of_ble_eq_true rfl) dX12_block_16 rfl (fun H locs S => ?_)
    exact q_iret C S (rt_S h) dX12_block_19
  · have h := cnd_f c4 h
    refine lv_iconst (v := 0) hx hb dX12_block_9 (by decide) ?_
    refine lv_goto (tgt := 19) hx hb dX12_block_10 (by decide) ?_
    exact q_iret C S (rt_S h) dX12_block_19
set_option maxRecDepth 10000 in
set_option maxHeartbeats 4000000 in
theorem ct_X12_block (l : Launch) (D : va_G) (cI cB cL : ClassId) (ad : Nat → Nat) (x1 : Int32) (x2 : Int32) (u : Sg) {r : Int32} {σ' : Sg} (h : fX12_block x1 x2 u = some (r, σ')) : metI l D (tyl cI cB cL) yX12_block cX12_block 3 (some .int) 5 115 (wM cI cB ad) [.ref (ad 0), .int x1, .int x2] u r σ' := by
  intro sz
  refine Met.ofW (cc := cX12_block) (maxL := 3) (ret := (some .int)) (by decide) rfl ?_
  intro p e s m args below meth c s₁ B hml hv
  obtain ⟨rfl, C, S⟩ := q_entry B hml hv
  have hl := lv_entry ([.ref (ad 0), .int x1, .int x2]) (n := 3) (Nat.le_of_ble_eq_true rfl)
  rw [lg_entry_eq]
  generalize (lg_sl ([.ref (ad 0), .int x1, .int x2]) ++ List.replicate (3 - (lg_sl ([.ref (ad 0), .int x1, .int x2])).length) Slot.unset).toArray = ls at hl ⊢
  exact wX12_block_0 C ⟨Nat.le_refl _, Nat.le_refl _⟩ u x1 x2 (lv_sub hl [0, 1, 2] rfl) S h
noncomputable def fX12_waitsOf_117 (K4 : Int32 → Int32 → Int32 → Option Int32) (x1 : Int32) (x2 : Int32) (x3 : Int32) (u : Sg) : Option Int32 := bnd (x3 + 1) (fun v7 => K4 x1 x2 v7)
noncomputable def fX12_waitsOf_116 (K4 : Int32 → Int32 → Int32 → Option Int32) (x1 : Int32) (x3 : Int32) (t0 : Int32) (u : Sg) : Option Int32 := fX12_waitsOf_117 K4 x1 t0 x3 u
noncomputable def fX12_waitsOf_93 (K4 : Int32 → Int32 → Int32 → Option Int32) (K39 : Int32 → Int32 → Int32 → Int32 → Int32 → Option Int32) (x1 : Int32) (x2 : Int32) (x3 : Int32) (x5 : Int32) (t0 : Int32) (t1 : Int32) (u : Sg) : Option Int32 := bnd (t1 ||| t0) (fun v18 => bnd (x5 + 1) (fun v19 => K39 x1 x2 x3 v18 v19))
noncomputable def fX12_waitsOf_92 (K4 : Int32 → Int32 → Int32 → Option Int32) (K39 : Int32 → Int32 → Int32 → Int32 → Int32 → Option Int32) (x1 : Int32) (x2 : Int32) (x3 : Int32) (x5 : Int32) (t0 : Int32) (u : Sg) : Option Int32 := fX12_waitsOf_93 K4 K39 x1 x2 x3 x5 0 t0 u
noncomputable def fX12_waitsOf_39 (K4 : Int32 → Int32 → Int32 → Option Int32) (u : Sg) : Nat → Int32 → Int32 → Int32 → Int32 → Int32 → Option Int32
  | 0, _, _, _, _, _ => none
  | n + 1, x1, x2, x3, x4, x5 => obr (fX12_nodes u) (fun r12 => cnd (r12 ≤ x5) (cnd (x2 = (-1)) (fX12_waitsOf_116 K4 x1 x3 x4 u) (fX12_waitsOf_116 K4 x1 x3 (x2 ||| x4) u)) (obr (fX12_isTo x1 x5 u) (fun r16 => cnd (r16 = 0) (fX12_waitsOf_92 K4 (fun a0 a1 a2 a3 a4 => fX12_waitsOf_39 K4 u n a0 a1 a2 a3 a4) x1 x2 x3 x5 x4 u) (obr (fX12_isNoticed x5 u) (fun r21 => cnd (r21 = 0) (obr (fX12_ofPair x3 x1 6 u) (fun r24 => cnd ((fX12_holds r24 x5) = 0) (fX12_waitsOf_93 K4 (fun a0 a1 a2 a3 a4 => fX12_waitsOf_39 K4 u n a0 a1 a2 a3 a4) x1 x2 x3 x5 ((1 : Int32) <<< ((x5 &&& 31 : Int32))) x4 u) (fX12_waitsOf_92 K4 (fun a0 a1 a2 a3 a4 => fX12_waitsOf_39 K4 u n a0 a1 a2 a3 a4) x1 x2 x3 x5 x4 u))) (fX12_waitsOf_92 K4 (fun a0 a1 a2 a3 a4 => fX12_waitsOf_39 K4 u n a0 a1 a2 a3 a4) x1 x2 x3 x5 x4 u))))))
noncomputable def fX12_waitsOf_4 (u : Sg) : Nat → Int32 → Int32 → Int32 → Option Int32
  | 0, _, _, _ => none
  | n + 1, x1, x2, x3 => obr (fX12_nodes u) (fun r2 => cnd (r2 ≤ x3) (some x2) (obr (fX12_isUp x3 u) (fun r5 => cnd (r5 = 0) (fX12_waitsOf_117 (fun a0 a1 a2 => fX12_waitsOf_4 u n a0 a1 a2) x1 x2 x3 u) (obr (fX12_ofPair x3 x1 5 u) (fun r9 => cnd (r9 = 0) (fX12_waitsOf_117 (fun a0 a1 a2 => fX12_waitsOf_4 u n a0 a1 a2) x1 x2 x3 u) (fX12_waitsOf_39 (fun a0 a1 a2 => fX12_waitsOf_4 u n a0 a1 a2) u FU x1 x2 x3 0 0))))))
noncomputable def fX12_waitsOf_0 (x1 : Int32) (u : Sg) : Option Int32 := fX12_waitsOf_4 u FU x1 (-1) 0
noncomputable def fX12_waitsOf (x1 : Int32) (u : Sg) : Option Int32 := fX12_waitsOf_0 x1 u
set_option maxRecDepth 10000 in
set_option maxHeartbeats 4000000 in
theorem wX12_waitsOf_117 (C : cx D (tyl cI cB cL) A RX12 cX12_waitsOf 6 (some .int) p s m args c meth) (hR : 4 ≤ R.frames ∧ 85 ≤ R.locals) {r : Int32} (u : Sg) {K4 : Int32 → Int32 → Int32 → Option Int32} (hK4 : ∀ (y1 : Int32) (y2 : Int32) (y3 : Int32) (H : Heap) (locs : List Loc) (ls : Array Slot), lv_has ls 6 [(0, .ref (ad 0)), (1, .int y1), (2, .int y2), (3, .int y3)] → st D (wM cI cB ad) A s u H locs → K4 y1 y2 y3 = some r → W p l e R s m args below meth c H locs 0 0 (MQ below (qI D (tyl cI cB cL) (wM cI cB ad) A r u) args s 0 0 A) (F0 m 4 ls [])) (x1 : Int32) (x2 : Int32) (x3 : Int32) {H : Heap} {locs : List Loc} {ls : Array Slot} (hl : lv_has ls 6 [(0, .ref (ad 0)), (1, .int x1), (2, .int x2), (3, .int x3)]) (S : st D (wM cI cB ad) A s u H locs) (h : fX12_waitsOf_117 K4 x1 x2 x3 u = some r) : W p l e R s m args below meth c H locs 0 0 (MQ below (qI D (tyl cI cB cL) (wM cI cB ad) A r u) args s 0 0 A) (F0 m 117 ls []) := by
  have hx := C.1
  have hb := C.2.1
  have hsz := hl.1
  unfold fX12_waitsOf_117 at h
  obtain ⟨v7, ev7⟩ : ∃ y : Int32, y = x3 + 1 := ⟨_, rfl⟩
  have h := bnd_of ev7 h
  refine lv_iinc (v := v7) (lv' := [(3, .int v7), (0, .ref (ad 0)), (1, .int x1), (2, .int x2)]) hx hb dX12_waitsOf_117 hl (k := 3) rfl (by rw [ev7]; rfl) (by decide) rfl (fun ls hl => ?_)
  have hsz := hl.1
  refine lv_goto (tgt := 4) hx hb dX12_waitsOf_120 (by decide) ?_
  exact hK4 x1 x2 v7 H locs ls (lv_sub hl [1, 2, 3, 0] rfl) S h
set_option maxRecDepth 10000 in
set_option maxHeartbeats 4000000 in
theorem wX12_waitsOf_116 (C : cx D (tyl cI cB cL) A RX12 cX12_waitsOf 6 (some .int) p s m args c meth) (hR : 4 ≤ R.frames ∧ 85 ≤ R.locals) {r : Int32} (u : Sg) {K4 : Int32 → Int32 → Int32 → Option Int32} (hK4 : ∀ (y1 : Int32) (y2 : Int32) (y3 : Int32) (H : Heap) (locs : List Loc) (ls : Array Slot), lv_has ls 6 [(0, .ref (ad 0)), (1, .int y1), (2, .int y2), (3, .int y3)] → st D (wM cI cB ad) A s u H locs → K4 y1 y2 y3 = some r → W p l e R s m args below meth c H locs 0 0 (MQ below (qI D (tyl cI cB cL) (wM cI cB ad) A r u) args s 0 0 A) (F0 m 4 ls [])) (x1 : Int32) (x3 : Int32) (t0 : Int32) {H : Heap} {locs : List Loc} {ls : Array Slot} (hl : lv_has ls 6 [(0, .ref (ad 0)), (1, .int x1), (3, .int x3)]) (S : st D (wM cI cB ad) A s u H locs) (h : fX12_waitsOf_116 K4 x1 x3 t0 u = some r) : W p l e R s m args below meth c H locs 0 0 (MQ below (qI D (tyl cI cB cL) (wM cI cB ad) A r u) args s 0 0 A) (F0 m 116 ls [.int t0]) := by
  have hx := C.1
  have hb := C.2.1
  have hsz := hl.1
  unfold fX12_waitsOf_116 at h
  refine lv_istore_n (lv' := [(2, .int t0), (0, .ref (ad 0)), (1, .int x1), (3, .int x3)]) hx hb dX12_waitsOf_116 rfl hl (by decide) rfl (fun ls hl => ?_)
  have hsz := hl.1
  exact wX12_waitsOf_117 C hR u hK4 x1 t0 x3 (lv_sub hl [1, 2, 0, 3] rfl) S h
set_option maxRecDepth 10000 in
set_option maxHeartbeats 4000000 in
theorem wX12_waitsOf_93 (C : cx D (tyl cI cB cL) A RX12 cX12_waitsOf 6 (some .int) p s m args c meth) (hR : 4 ≤ R.frames ∧ 85 ≤ R.locals) {r : Int32} (u : Sg) {K4 : Int32 → Int32 → Int32 → Option Int32} (hK4 : ∀ (y1 : Int32) (y2 : Int32) (y3 : Int32) (H : Heap) (locs : List Loc) (ls : Array Slot), lv_has ls 6 [(0, .ref (ad 0)), (1, .int y1), (2, .int y2), (3, .int y3)] → st D (wM cI cB ad) A s u H locs → K4 y1 y2 y3 = some r → W p l e R s m args below meth c H locs 0 0 (MQ below (qI D (tyl cI cB cL) (wM cI cB ad) A r u) args s 0 0 A) (F0 m 4 ls [])) {K39 : Int32 → Int32 → Int32 → Int32 → Int32 → Option Int32} (hK39 : ∀ (y1 : Int32) (y2 : Int32) (y3 : Int32) (y4 : Int32) (y5 : Int32) (H : Heap) (locs : List Loc) (ls : Array Slot), lv_has ls 6 [(0, .ref (ad 0)), (1, .int y1), (2, .int y2), (3, .int y3), (4, .int y4), (5, .int y5)] → st D (wM cI cB ad) A s u H locs → K39 y1 y2 y3 y4 y5 = some r → W p l e R s m args below meth c H locs 0 0 (MQ below (qI D (tyl cI cB cL) (wM cI cB ad) A r u) args s 0 0 A) (F0 m 39 ls [])) (x1 : Int32) (x2 : Int32) (x3 : Int32) (x5 : Int32) (t0 : Int32) (t1 : Int32) {H : Heap} {locs : List Loc} {ls : Array Slot} (hl : lv_has ls 6 [(0, .ref (ad 0)), (1, .int x1), (2, .int x2), (3, .int x3), (5, .int x5)]) (S : st D (wM cI cB ad) A s u H locs) (h : fX12_waitsOf_93 K4 K39 x1 x2 x3 x5 t0 t1 u = some r) : W p l e R s m args below meth c H locs 0 0 (MQ below (qI D (tyl cI cB cL) (wM cI cB ad) A r u) args s 0 0 A) (F0 m 93 ls [.int t0, .int t1]) := by
  have hx := C.1
  have hb := C.2.1
  have hsz := hl.1
  unfold fX12_waitsOf_93 at h
  refine lv_ior hx hb dX12_waitsOf_93 ?_
  refine lv_topi (fun v18 ev18 => ?_)
  have h := bnd_of ev18 h
  refine lv_istore (lv' := [(4, .int v18), (0, .ref (ad 0)), (1, .int x1), (2, .int x2), (3, .int x3), (5, .int x5)]) hx hb dX12_waitsOf_94 hl (by decide) rfl (fun ls hl => ?_)
  have hsz := hl.1
  obtain ⟨v19, ev19⟩ : ∃ y : Int32, y = x5 + 1 := ⟨_, rfl⟩
  have h := bnd_of ev19 h
  refine lv_iinc (v := v19) (lv' := [(5, .int v19), (4, .int v18), (0, .ref (ad 0)), (1, .int x1), (2, .int x2), (3, .int x3)]) hx hb dX12_waitsOf_96 hl (k := 5) rfl (by rw [ev19]; rfl) (by decide) rfl (fun ls hl => ?_)
  have hsz := hl.1
  refine lv_goto (tgt := 39) hx hb dX12_waitsOf_99 (by decide) ?_
  exact hK39 x1 x2 x3 v18 v19 H locs ls (lv_sub hl [2, 3, 4, 5, 1, 0] rfl) S h
set_option maxRecDepth 10000 in
set_option maxHeartbeats 4000000 in
theorem wX12_waitsOf_92 (C : cx D (tyl cI cB cL) A RX12 cX12_waitsOf 6 (some .int) p s m args c meth) (hR : 4 ≤ R.frames ∧ 85 ≤ R.locals) {r : Int32} (u : Sg) {K4 : Int32 → Int32 → Int32 → Option Int32} (hK4 : ∀ (y1 : Int32) (y2 : Int32) (y3 : Int32) (H : Heap) (locs : List Loc) (ls : Array Slot), lv_has ls 6 [(0, .ref (ad 0)), (1, .int y1), (2, .int y2), (3, .int y3)] → st D (wM cI cB ad) A s u H locs → K4 y1 y2 y3 = some r → W p l e R s m args below meth c H locs 0 0 (MQ below (qI D (tyl cI cB cL) (wM cI cB ad) A r u) args s 0 0 A) (F0 m 4 ls [])) {K39 : Int32 → Int32 → Int32 → Int32 → Int32 → Option Int32} (hK39 : ∀ (y1 : Int32) (y2 : Int32) (y3 : Int32) (y4 : Int32) (y5 : Int32) (H : Heap) (locs : List Loc) (ls : Array Slot), lv_has ls 6 [(0, .ref (ad 0)), (1, .int y1), (2, .int y2), (3, .int y3), (4, .int y4), (5, .int y5)] → st D (wM cI cB ad) A s u H locs → K39 y1 y2 y3 y4 y5 = some r → W p l e R s m args below meth c H locs 0 0 (MQ below (qI D (tyl cI cB cL) (wM cI cB ad) A r u) args s 0 0 A) (F0 m 39 ls [])) (x1 : Int32) (x2 : Int32) (x3 : Int32) (x5 : Int32) (t0 : Int32) {H : Heap} {locs : List Loc} {ls : Array Slot} (hl : lv_has ls 6 [(0, .ref (ad 0)), (1, .int x1), (2, .int x2), (3, .int x3), (5, .int x5)]) (S : st D (wM cI cB ad) A s u H locs) (h : fX12_waitsOf_92 K4 K39 x1 x2 x3 x5 t0 u = some r) : W p l e R s m args below meth c H locs 0 0 (MQ below (qI D (tyl cI cB cL) (wM cI cB ad) A r u) args s 0 0 A) (F0 m 92 ls [.int t0]) := by
  have hx := C.1
  have hb := C.2.1
  have hsz := hl.1
  unfold fX12_waitsOf_92 at h
  refine lv_iconst (v := 0) hx hb dX12_waitsOf_92 (by decide) ?_
  exact wX12_waitsOf_93 C hR u hK4 hK39 x1 x2 x3 x5 0 t0 (lv_sub hl [0, 1, 2, 3, 4] rfl) S h
set_option maxRecDepth 10000 in
set_option maxHeartbeats 4000000 in
theorem wX12_waitsOf_39 (C : cx D (tyl cI cB cL) A RX12 cX12_waitsOf 6 (some .int) p s m args c meth) (hR : 4 ≤ R.frames ∧ 85 ≤ R.locals) {r : Int32} (u : Sg) {K4 : Int32 → Int32 → Int32 → Option Int32} (hK4 : ∀ (y1 : Int32) (y2 : Int32) (y3 : Int32) (H : Heap) (locs : List Loc) (ls : Array Slot), lv_has ls 6 [(0, .ref (ad 0)), (1, .int y1), (2, .int y2), (3, .int y3)] → st D (wM cI cB ad) A s u H locs → K4 y1 y2 y3 = some r → W p l e R s m args below meth c H locs 0 0 (MQ below (qI D (tyl cI cB cL) (wM cI cB ad) A r u) args s 0 0 A) (F0 m 4 ls [])) : ∀ (n : Nat) (x1 : Int32) (x2 : Int32) (x3 : Int32) (x4 : Int32) (x5 : Int32) (H : Heap) (locs : List Loc) (ls : Array Slot), lv_has ls 6 [(0, .ref (ad 0)), (1, .int x1), (2, .int x2), (3, .int x3), (4, .int x4), (5, .int x5)] → st D (wM cI cB ad) A s u H locs → fX12_waitsOf_39 K4 u n x1 x2 x3 x4 x5 = some r → W p l e R s m args below meth c H locs 0 0 (MQ below (qI D (tyl cI cB cL) (wM cI cB ad) A r u) args s 0 0 A) (F0 m 39 ls []) := by
  have hx := C.1
  have hb := C.2.1
  intro n
  induction n with
  | zero =>
    intro x1 x2 x3 x4 x5 H locs ls hl S h
    cases h
  | succ n ih =>
    intro x1 x2 x3 x4 x5 H locs ls hl S h
    rw [fX12_waitsOf_39] at h
    have hsz := hl.1
    refine lv_iload hx hb dX12_waitsOf_39 (lv_at hl 5 rfl) ?_
    refine lv_aload_n hx hb dX12_waitsOf_41 rfl (lv_at hl 0 rfl) ?_
    obtain ⟨r12, h11, h⟩ := obr_some h
    refine q_callVi (As := []) (na := 0) C S (oM0 cI cB ad) rfl (ct_X12_nodes l D cI cB cL ad u h11) mw_24 mw_23 mw_25 mw_5 mw_22 hdX12_nodes ⟨Nat.le_trans (Nat.le_of_ble_eq_true rfl) hR.1, Nat.le_trans (Nat.le_of_ble_eq_true rfl) hR.2⟩ rfl hsz ⟨Nat.zero_le _, Nat.zero_le _⟩ (Nat.le_of_ble_eq_true rfl) dX12_waitsOf_42 rfl (fun H locs S => ?_)
    refine lv_icmp_ge (tgt := 102) hx hb dX12_waitsOf_45 (by decide) (fun c13 => ?_) (fun c13 => ?_)
    · have h := cnd_t c13 h
      refine lv_iload_n hx hb dX12_waitsOf_102 rfl (lv_at hl 2 rfl) ?_
      refine lv_iconst (v := (-1)) hx hb dX12_waitsOf_103 (by decide) ?_
      refine lv_icmp_ne (tgt := 112) hx hb dX12_waitsOf_104 (by decide) (fun c14 => ?_) (fun c14 => ?_)
      · have h := cnd_f c14 h
        refine lv_iload_n hx hb dX12_waitsOf_112 rfl (lv_at hl 2 rfl) ?_
        refine lv_iload hx hb dX12_waitsOf_113 (lv_at hl 4 rfl) ?_
        refine lv_ior hx hb dX12_waitsOf_115 ?_
        exact wX12_waitsOf_116 C hR u hK4 x1 x3 (x2 ||| x4) (lv_sub hl [0, 1, 3] rfl) S h
      · have h := cnd_t c14 h
        refine lv_iload hx hb dX12_waitsOf_107 (lv_at hl 4 rfl) ?_
        refine lv_goto (tgt := 116) hx hb dX12_waitsOf_109 (by decide) ?_
        exact wX12_waitsOf_116 C hR u hK4 x1 x3 x4 (lv_sub hl [0, 1, 3] rfl) S h
    · have h := cnd_f c13 h
      refine lv_iload hx hb dX12_waitsOf_48 (lv_at hl 4 rfl) ?_
      refine lv_aload_n hx hb dX12_waitsOf_50 rfl (lv_at hl 0 rfl) ?_
      refine lv_iload_n hx hb dX12_waitsOf_51 rfl (lv_at hl 1 rfl) ?_
      refine lv_iload hx hb dX12_waitsOf_52 (lv_at hl 5 rfl) ?_
      obtain ⟨r16, h15, h⟩ := obr_some h
      refine q_callVi (As := [.int x1, .int x5]) (na := 2) C S (oM0 cI cB ad) rfl (ct_X12_isTo l D cI cB cL ad x1 x5 u h15) mw_99 mw_98 mw_100 mw_5 mw_97 hdX12_isTo ⟨Nat.le_trans (Nat.le_of_ble_eq_true rfl) hR.1, Nat.le_trans (Nat.le_of_ble_eq_true rfl) hR.2⟩ rfl hsz ⟨Nat.zero_le _, Nat.zero_le _⟩ (Nat.le_of_ble_eq_true rfl) dX12_waitsOf_54 rfl (fun H locs S => ?_)
      refine lv_if_eq (tgt := 92) hx hb dX12_waitsOf_57 (by decide) (fun c17 => ?_) (fun c17 => ?_)
      · have h := cnd_t c17 h
        exact wX12_waitsOf_92 C hR u hK4 ih x1 x2 x3 x5 x4 (lv_sub hl [0, 1, 2, 3, 5] rfl) S h
      · have h := cnd_f c17 h
        refine lv_aload_n hx hb dX12_waitsOf_60 rfl (lv_at hl 0 rfl) ?_
        refine lv_iload hx hb dX12_waitsOf_61 (lv_at hl 5 rfl) ?_
        obtain ⟨r21, h20, h⟩ := obr_some h
        refine q_callVi (As := [.int x5]) (na := 1) C S (oM0 cI cB ad) rfl (ct_X12_isNoticed l D cI cB cL ad x5 u h20) mw_80 mw_79 mw_81 mw_5 mw_78 hdX12_isNoticed ⟨Nat.le_trans (Nat.le_of_ble_eq_true rfl) hR.1, Nat.le_trans (Nat.le_of_ble_eq_true rfl) hR.2⟩ rfl hsz ⟨Nat.zero_le _, Nat.zero_le _⟩ (Nat.le_of_ble_eq_true rfl) dX12_waitsOf_63 rfl (fun H locs S => ?_)
        refine lv_if_ne (tgt := 92) hx hb dX12_waitsOf_66 (by decide) (fun c22 => ?_) (fun c22 => ?_)
        · have h := cnd_f c22 h
          exact wX12_waitsOf_92 C hR u hK4 ih x1 x2 x3 x5 x4 (lv_sub hl [0, 1, 2, 3, 5] rfl) S h
        · have h := cnd_t c22 h
          refine lv_aload_n hx hb dX12_waitsOf_69 rfl (lv_at hl 0 rfl) ?_
          refine lv_iload_n hx hb dX12_waitsOf_70 rfl (lv_at hl 3 rfl) ?_
          refine lv_iload_n hx hb dX12_waitsOf_71 rfl (lv_at hl 1 rfl) ?_
          refine lv_bipush (v := 6) hx hb dX12_waitsOf_72 (by decide) ?_
          obtain ⟨r24, h23, h⟩ := obr_some h
          refine q_callVi (As := [.int x3, .int x1, .int 6]) (na := 3) C S (oM0 cI cB ad) rfl (ct_X12_ofPair l D cI cB cL ad x3 x1 6 u h23) mw_126 mw_125 mw_127 mw_5 mw_124 hdX12_ofPair ⟨Nat.le_trans (Nat.le_of_ble_eq_true rfl) hR.1, Nat.le_trans (Nat.le_of_ble_eq_true rfl) hR.2⟩ rfl hsz ⟨Nat.zero_le _, Nat.zero_le _⟩ (Nat.le_of_ble_eq_true rfl) dX12_waitsOf_74 rfl (fun H locs S => ?_)
          refine lv_iload hx hb dX12_waitsOf_77 (lv_at hl 5 rfl) ?_
          refine q_callP (As := [.int r24, .int x5]) (na := 2) C S (ct_X12_holds l D cI cB cL r24 x5) mw_47 mw_46 mw_5 mw_45 hdX12_holds ⟨Nat.le_trans (Nat.le_of_ble_eq_true rfl) hR.1, Nat.le_trans (Nat.le_of_ble_eq_true rfl) hR.2⟩ rfl hsz ⟨Nat.zero_le _, Nat.zero_le _⟩ (Nat.le_of_ble_eq_true rfl) dX12_waitsOf_79 rfl (fun H locs S => ?_)
          refine lv_if_ne (tgt := 92) hx hb dX12_waitsOf_82 (by decide) (fun c25 => ?_) (fun c25 => ?_)
          · have h := cnd_f c25 h
            exact wX12_waitsOf_92 C hR u hK4 ih x1 x2 x3 x5 x4 (lv_sub hl [0, 1, 2, 3, 5] rfl) S h
          · have h := cnd_t c25 h
            refine lv_iconst (v := 1) hx hb dX12_waitsOf_85 (by decide) ?_
            refine lv_iload hx hb dX12_waitsOf_86 (lv_at hl 5 rfl) ?_
            refine lv_ishl hx hb dX12_waitsOf_88 ?_
            refine lv_goto (tgt := 93) hx hb dX12_waitsOf_89 (by decide) ?_
            exact wX12_waitsOf_93 C hR u hK4 ih x1 x2 x3 x5 ((1 : Int32) <<< ((x5 &&& 31 : Int32))) x4 (lv_sub hl [0, 1, 2, 3, 5] rfl) S h
set_option maxRecDepth 10000 in
set_option maxHeartbeats 4000000 in
theorem wX12_waitsOf_4 (C : cx D (tyl cI cB cL) A RX12 cX12_waitsOf 6 (some .int) p s m args c meth) (hR : 4 ≤ R.frames ∧ 85 ≤ R.locals) {r : Int32} (u : Sg) : ∀ (n : Nat) (x1 : Int32) (x2 : Int32) (x3 : Int32) (H : Heap) (locs : List Loc) (ls : Array Slot), lv_has ls 6 [(0, .ref (ad 0)), (1, .int x1), (2, .int x2), (3, .int x3)] → st D (wM cI cB ad) A s u H locs → fX12_waitsOf_4 u n x1 x2 x3 = some r → W p l e R s m args below meth c H locs 0 0 (MQ below (qI D (tyl cI cB cL) (wM cI cB ad) A r u) args s 0 0 A) (F0 m 4 ls []) := by
  have hx := C.1
  have hb := C.2.1
  intro n
  induction n with
  | zero =>
    intro x1 x2 x3 H locs ls hl S h
    cases h
  | succ n ih =>
    intro x1 x2 x3 H locs ls hl S h
    rw [fX12_waitsOf_4] at h
    have hsz := hl.1
    refine lv_iload_n hx hb dX12_waitsOf_4 rfl (lv_at hl 3 rfl) ?_
    refine lv_aload_n hx hb dX12_waitsOf_5 rfl (lv_at hl 0 rfl) ?_
    obtain ⟨r2, h1, h⟩ := obr_some h
    refine q_callVi (As := []) (na := 0) C S (oM0 cI cB ad) rfl (ct_X12_nodes l D cI cB cL ad u h1) mw_24 mw_23 mw_25 mw_5 mw_22 hdX12_nodes ⟨Nat.le_trans (Nat.le_of_ble_eq_true rfl) hR.1, Nat.le_trans (Nat.le_of_ble_eq_true rfl) hR.2⟩ rfl hsz ⟨Nat.zero_le _, Nat.zero_le _⟩ (Nat.le_of_ble_eq_true rfl) dX12_waitsOf_6 rfl (fun H locs S => ?_)
    refine lv_icmp_ge (tgt := 123) hx hb dX12_waitsOf_9 (by decide) (fun c3 => ?_) (fun c3 => ?_)
    · have h := cnd_t c3 h
      refine lv_iload_n hx hb dX12_waitsOf_123 rfl (lv_at hl 2 rfl) ?_
      exact q_iret C S (rt_R h) dX12_waitsOf_124
    · have h := cnd_f c3 h
      refine lv_aload_n hx hb dX12_waitsOf_12 rfl (lv_at hl 0 rfl) ?_
      refine lv_iload_n hx hb dX12_waitsOf_13 rfl (lv_at hl 3 rfl) ?_
      obtain ⟨r5, h4, h⟩ := obr_some h
      refine q_callVi (As := [.int x3]) (na := 1) C S (oM0 cI cB ad) rfl (ct_X12_isUp l D cI cB cL ad x3 u h4) mw_39 mw_38 mw_40 mw_5 mw_37 hdX12_isUp ⟨Nat.le_trans (Nat.le_of_ble_eq_true rfl) hR.1, Nat.le_trans (Nat.le_of_ble_eq_true rfl) hR.2⟩ rfl hsz ⟨Nat.zero_le _, Nat.zero_le _⟩ (Nat.le_of_ble_eq_true rfl) dX12_waitsOf_14 rfl (fun H locs S => ?_)
      refine lv_if_eq (tgt := 117) hx hb dX12_waitsOf_17 (by decide) (fun c6 => ?_) (fun c6 => ?_)
      · have h := cnd_t c6 h
        exact wX12_waitsOf_117 C hR u ih x1 x2 x3 (lv_sub hl [0, 1, 2, 3] rfl) S h
      · have h := cnd_f c6 h
        refine lv_aload_n hx hb dX12_waitsOf_20 rfl (lv_at hl 0 rfl) ?_
        refine lv_iload_n hx hb dX12_waitsOf_21 rfl (lv_at hl 3 rfl) ?_
        refine lv_iload_n hx hb dX12_waitsOf_22 rfl (lv_at hl 1 rfl) ?_
        refine lv_iconst (v := 5) hx hb dX12_waitsOf_23 (by decide) ?_
        obtain ⟨r9, h8, h⟩ := obr_some h
        refine q_callVi (As := [.int x3, .int x1, .int 5]) (na := 3) C S (oM0 cI cB ad) rfl (ct_X12_ofPair l D cI cB cL ad x3 x1 5 u h8) mw_126 mw_125 mw_127 mw_5 mw_124 hdX12_ofPair ⟨Nat.le_trans (Nat.le_of_ble_eq_true rfl) hR.1, Nat.le_trans (Nat.le_of_ble_eq_true rfl) hR.2⟩ rfl hsz ⟨Nat.zero_le _, Nat.zero_le _⟩ (Nat.le_of_ble_eq_true rfl) dX12_waitsOf_24 rfl (fun H locs S => ?_)
        refine lv_if_ne (tgt := 33) hx hb dX12_waitsOf_27 (by decide) (fun c10 => ?_) (fun c10 => ?_)
        · have h := cnd_f c10 h
          refine lv_iconst (v := 0) hx hb dX12_waitsOf_33 (by decide) ?_
          refine lv_istore (lv' := [(4, .int 0), (0, .ref (ad 0)), (1, .int x1), (2, .int x2), (3, .int x3)]) hx hb dX12_waitsOf_34 hl (by decide) rfl (fun ls hl => ?_)
          have hsz := hl.1
          refine lv_iconst (v := 0) hx hb dX12_waitsOf_36 (by decide) ?_
          refine lv_istore (lv' := [(5, .int 0), (4, .int 0), (0, .ref (ad 0)), (1, .int x1), (2, .int x2), (3, .int x3)]) hx hb dX12_waitsOf_37 hl (by decide) rfl (fun ls hl => ?_)
          have hsz := hl.1
          exact wX12_waitsOf_39 C hR u ih FU x1 x2 x3 0 0 H locs ls (lv_sub hl [2, 3, 4, 5, 1, 0] rfl) S h
        · have h := cnd_t c10 h
          refine lv_goto (tgt := 117) hx hb dX12_waitsOf_30 (by decide) ?_
          exact wX12_waitsOf_117 C hR u ih x1 x2 x3 (lv_sub hl [0, 1, 2, 3] rfl) S h
set_option maxRecDepth 10000 in
set_option maxHeartbeats 4000000 in
theorem wX12_waitsOf_0 (C : cx D (tyl cI cB cL) A RX12 cX12_waitsOf 6 (some .int) p s m args c meth) (hR : 4 ≤ R.frames ∧ 85 ≤ R.locals) {r : Int32} (u : Sg) (x1 : Int32) {H : Heap} {locs : List Loc} {ls : Array Slot} (hl : lv_has ls 6 [(0, .ref (ad 0)), (1, .int x1)]) (S : st D (wM cI cB ad) A s u H locs) (h : fX12_waitsOf_0 x1 u = some r) : W p l e R s m args below meth c H locs 0 0 (MQ below (qI D (tyl cI cB cL) (wM cI cB ad) A r u) args s 0 0 A) (F0 m 0 ls []) := by
  have hx := C.1
  have hb := C.2.1
  have hsz := hl.1
  unfold fX12_waitsOf_0 at h
  refine lv_iconst (v := (-1)) hx hb dX12_waitsOf_0 (by decide) ?_
  refine lv_istore_n (lv' := [(2, .int (-1)), (0, .ref (ad 0)), (1, .int x1)]) hx hb dX12_waitsOf_1 rfl hl (by decide) rfl (fun ls hl => ?_)
  have hsz := hl.1
  refine lv_iconst (v := 0) hx hb dX12_waitsOf_2 (by decide) ?_
  refine lv_istore_n (lv' := [(3, .int 0), (2, .int (-1)), (0, .ref (ad 0)), (1, .int x1)]) hx hb dX12_waitsOf_3 rfl hl (by decide) rfl (fun ls hl => ?_)
  have hsz := hl.1
  exact wX12_waitsOf_4 C hR u FU x1 (-1) 0 H locs ls (lv_sub hl [2, 3, 1, 0] rfl) S h
set_option maxRecDepth 10000 in
set_option maxHeartbeats 4000000 in
theorem ct_X12_waitsOf (l : Launch) (D : va_G) (cI cB cL : ClassId) (ad : Nat → Nat) (x1 : Int32) (u : Sg) {r : Int32} (h : fX12_waitsOf x1 u = some r) : metI l D (tyl cI cB cL) yX12_waitsOf cX12_waitsOf 6 (some .int) 4 85 (wM cI cB ad) [.ref (ad 0), .int x1] u r u := by
  intro sz
  refine Met.ofW (cc := cX12_waitsOf) (maxL := 6) (ret := (some .int)) (by decide) rfl ?_
  intro p e s m args below meth c s₁ B hml hv
  obtain ⟨rfl, C, S⟩ := q_entry B hml hv
  have hl := lv_entry ([.ref (ad 0), .int x1]) (n := 6) (Nat.le_of_ble_eq_true rfl)
  rw [lg_entry_eq]
  generalize (lg_sl ([.ref (ad 0), .int x1]) ++ List.replicate (6 - (lg_sl ([.ref (ad 0), .int x1])).length) Slot.unset).toArray = ls at hl ⊢
  exact wX12_waitsOf_0 C ⟨Nat.le_refl _, Nat.le_refl _⟩ u x1 (lv_sub hl [0, 1] rfl) S h
noncomputable def fX12_waits_0 (x1 : Int32) (u : Sg) : Option (Int32 × Sg) := bnd (s2 u 0 0 0) (fun u1 => obr (fX12_noMessage x1 u1) (fun r3 => obd (fX12_throwsIf r3 1 u1) (fun r5 u6 => cnd (r5 = 0) (obr (fX12_waitsOf x1 u6) (fun r9 => some (r9, u6))) (some (0, u6)))))
noncomputable def fX12_waits (x1 : Int32) (u : Sg) : Option (Int32 × Sg) := fX12_waits_0 x1 u
set_option maxRecDepth 10000 in
set_option maxHeartbeats 4000000 in
theorem wX12_waits_0 (C : cx D (tyl cI cB cL) A RX12 cX12_waits 2 (some .int) p s m args c meth) (hR : 5 ≤ R.frames ∧ 110 ≤ R.locals) {r : Int32} {σ' : Sg} (u : Sg) (x1 : Int32) {H : Heap} {locs : List Loc} {ls : Array Slot} (hl : lv_has ls 2 [(0, .ref (ad 0)), (1, .int x1)]) (S : st D (wM cI cB ad) A s u H locs) (h : fX12_waits_0 x1 u = some (r, σ')) : W p l e R s m args below meth c H locs 0 0 (MQ below (qI D (tyl cI cB cL) (wM cI cB ad) A r σ') args s 0 0 A) (F0 m 0 ls []) := by
  have hx := C.1
  have hb := C.2.1
  have hsz := hl.1
  unfold fX12_waits_0 at h
  refine lv_aload_n hx hb dX12_waits_0 rfl (lv_at hl 0 rfl) ?_
  refine lv_iconst (v := 0) hx hb dX12_waits_1 (by decide) ?_
  obtain ⟨u1, eu1⟩ : ∃ z : Sg, z = s2 u 0 0 0 := ⟨_, rfl⟩
  have h := bnd_of eu1 h
  refine q_put C S (oM0 cI cB ad) rfl iwX12 tyX12 tyX12_ok nmX12 0 (by decide) mw_11 rfl (iM0_0 cI cB ad) rfl rfl dX12_waits_2 eu1 (fun H locs S => ?_)
  refine lv_aload_n hx hb dX12_waits_5 rfl (lv_at hl 0 rfl) ?_
  refine lv_aload_n hx hb dX12_waits_6 rfl (lv_at hl 0 rfl) ?_
  refine lv_iload_n hx hb dX12_waits_7 rfl (lv_at hl 1 rfl) ?_
  obtain ⟨r3, h2, h⟩ := obr_some h
  refine q_callVi (As := [.int x1]) (na := 1) C S (oM0 cI cB ad) rfl (ct_X12_noMessage l D cI cB cL ad x1 u1 h2) mw_242 mw_241 mw_243 mw_5 mw_240 hdX12_noMessage ⟨Nat.le_trans (Nat.le_of_ble_eq_true rfl) hR.1, Nat.le_trans (Nat.le_of_ble_eq_true rfl) hR.2⟩ rfl hsz ⟨Nat.zero_le _, Nat.zero_le _⟩ (Nat.le_of_ble_eq_true rfl) dX12_waits_8 rfl (fun H locs S => ?_)
  refine lv_iconst (v := 1) hx hb dX12_waits_11 (by decide) ?_
  obtain ⟨r5, u6, h4, h⟩ := obd_some h
  refine q_callVi (As := [.int r3, .int 1]) (na := 2) C S (oM0 cI cB ad) rfl (ct_X12_throwsIf l D cI cB cL ad r3 1 u1 h4) mw_210 mw_209 mw_211 mw_5 mw_208 hdX12_throwsIf ⟨Nat.le_trans (Nat.le_of_ble_eq_true rfl) hR.1, Nat.le_trans (Nat.le_of_ble_eq_true rfl) hR.2⟩ rfl hsz ⟨Nat.zero_le _, Nat.zero_le _⟩ (Nat.le_of_ble_eq_true rfl) dX12_waits_12 rfl (fun H locs S => ?_)
  refine lv_if_eq (tgt := 22) hx hb dX12_waits_15 (by decide) (fun c7 => ?_) (fun c7 => ?_)
  · have h := cnd_t c7 h
    refine lv_aload_n hx hb dX12_waits_22 rfl (lv_at hl 0 rfl) ?_
    refine lv_iload_n hx hb dX12_waits_23 rfl (lv_at hl 1 rfl) ?_
    obtain ⟨r9, h8, h⟩ := obr_some h
    refine q_callVi (As := [.int x1]) (na := 1) C S (oM0 cI cB ad) rfl (ct_X12_waitsOf l D cI cB cL ad x1 u6 h8) mw_266 mw_265 mw_267 mw_5 mw_264 hdX12_waitsOf ⟨Nat.le_trans (Nat.le_of_ble_eq_true rfl) hR.1, Nat.le_trans (Nat.le_of_ble_eq_true rfl) hR.2⟩ rfl hsz ⟨Nat.zero_le _, Nat.zero_le _⟩ (Nat.le_of_ble_eq_true rfl) dX12_waits_24 rfl (fun H locs S => ?_)
    exact q_iret C S (rt_S h) dX12_waits_27
  · have h := cnd_f c7 h
    refine lv_iconst (v := 0) hx hb dX12_waits_18 (by decide) ?_
    refine lv_goto (tgt := 27) hx hb dX12_waits_19 (by decide) ?_
    exact q_iret C S (rt_S h) dX12_waits_27
set_option maxRecDepth 10000 in
set_option maxHeartbeats 4000000 in
theorem ct_X12_waits (l : Launch) (D : va_G) (cI cB cL : ClassId) (ad : Nat → Nat) (x1 : Int32) (u : Sg) {r : Int32} {σ' : Sg} (h : fX12_waits x1 u = some (r, σ')) : metI l D (tyl cI cB cL) yX12_waits cX12_waits 2 (some .int) 5 110 (wM cI cB ad) [.ref (ad 0), .int x1] u r σ' := by
  intro sz
  refine Met.ofW (cc := cX12_waits) (maxL := 2) (ret := (some .int)) (by decide) rfl ?_
  intro p e s m args below meth c s₁ B hml hv
  obtain ⟨rfl, C, S⟩ := q_entry B hml hv
  have hl := lv_entry ([.ref (ad 0), .int x1]) (n := 2) (Nat.le_of_ble_eq_true rfl)
  rw [lg_entry_eq]
  generalize (lg_sl ([.ref (ad 0), .int x1]) ++ List.replicate (2 - (lg_sl ([.ref (ad 0), .int x1])).length) Slot.unset).toArray = ls at hl ⊢
  exact wX12_waits_0 C ⟨Nat.le_refl _, Nat.le_refl _⟩ u x1 (lv_sub hl [0, 1] rfl) S h
noncomputable def fX12_laysChain_80 (K15 : Int32 → Int32 → Int32 → Int32 → Sg → Option (Int32 × Sg)) (x1 : Int32) (x3 : Int32) (x4 : Int32) (x5 : Int32) (t0 : Int32) (u : Sg) : Option (Int32 × Sg) := obr (fX12_blockOf t0 x5 u) (fun r14 => K15 x1 x3 x4 r14 u)
noncomputable def fX12_laysChain_71 (K15 : Int32 → Int32 → Int32 → Int32 → Sg → Option (Int32 × Sg)) (x1 : Int32) (x3 : Int32) (x4 : Int32) (x5 : Int32) (u : Sg) : Option (Int32 × Sg) := fX12_laysChain_80 K15 x1 x3 x4 x5 x1 u
noncomputable def fX12_laysChain_15 : Nat → Int32 → Int32 → Int32 → Int32 → Sg → Option (Int32 × Sg)
  | 0, _, _, _, _, _ => none
  | n + 1, x1, x3, x4, x5, u => cnd (x5 = (-1)) (some (x3, u)) (cnd ((fX12_holds x4 x5) = 0) (grd (vp_in x3 21) (bnd (s2 u 8 ((x3 : Int32).toNatClampNeg) x5) (fun u7 => bnd (x3 + 1) (fun v8 => bnd (x4 ||| ((1 : Int32) <<< ((x5 &&& 31 : Int32)))) (fun v9 => obr (fX12_waitsOf x5 u7) (fun r11 => cnd (r11 = (-1)) (fX12_laysChain_71 (fun a0 a1 a2 a3 w => fX12_laysChain_15 n a0 a1 a2 a3 w) x1 v8 v9 x5 u7) (cnd (r11 = 0) (fX12_laysChain_71 (fun a0 a1 a2 a3 w => fX12_laysChain_15 n a0 a1 a2 a3 w) x1 v8 v9 x5 u7) (fX12_laysChain_80 (fun a0 a1 a2 a3 w => fX12_laysChain_15 n a0 a1 a2 a3 w) x1 v8 v9 x5 (fJ6_numberOfTrailingZeros_0f7a4 r11) u7)))))))) (some (x3, u)))
noncomputable def fX12_laysChain_0 (x1 : Int32) (x2 : Int32) (u : Sg) : Option (Int32 × Sg) := bnd ((1 : Int32) <<< ((x2 &&& 31 : Int32))) (fun v1 => obr (fX12_blockOf x1 x2 u) (fun r3 => fX12_laysChain_15 FU x1 0 v1 r3 u))
noncomputable def fX12_laysChain (x1 : Int32) (x2 : Int32) (u : Sg) : Option (Int32 × Sg) := fX12_laysChain_0 x1 x2 u
set_option maxRecDepth 10000 in
set_option maxHeartbeats 4000000 in
theorem wX12_laysChain_80 (C : cx D (tyl cI cB cL) A RX12 cX12_laysChain 7 (some .int) p s m args c meth) (hR : 5 ≤ R.frames ∧ 115 ≤ R.locals) {r : Int32} {σ' : Sg} (u : Sg) {K15 : Int32 → Int32 → Int32 → Int32 → Sg → Option (Int32 × Sg)} (hK15 : ∀ (y1 : Int32) (y3 : Int32) (y4 : Int32) (y5 : Int32) (v : Sg) (H : Heap) (locs : List Loc) (ls : Array Slot), lv_has ls 7 [(0, .ref (ad 0)), (1, .int y1), (3, .int y3), (4, .int y4), (5, .int y5)] → st D (wM cI cB ad) A s v H locs → K15 y1 y3 y4 y5 v = some (r, σ') → W p l e R s m args below meth c H locs 0 0 (MQ below (qI D (tyl cI cB cL) (wM cI cB ad) A r σ') args s 0 0 A) (F0 m 15 ls [])) (x1 : Int32) (x3 : Int32) (x4 : Int32) (x5 : Int32) (t0 : Int32) {H : Heap} {locs : List Loc} {ls : Array Slot} (hl : lv_has ls 7 [(0, .ref (ad 0)), (1, .int x1), (3, .int x3), (4, .int x4), (5, .int x5)]) (S : st D (wM cI cB ad) A s u H locs) (h : fX12_laysChain_80 K15 x1 x3 x4 x5 t0 u = some (r, σ')) : W p l e R s m args below meth c H locs 0 0 (MQ below (qI D (tyl cI cB cL) (wM cI cB ad) A r σ') args s 0 0 A) (F0 m 80 ls [.int t0, .ref (ad 0)]) := by
  have hx := C.1
  have hb := C.2.1
  have hsz := hl.1
  unfold fX12_laysChain_80 at h
  refine lv_iload hx hb dX12_laysChain_80 (lv_at hl 4 rfl) ?_
  obtain ⟨r14, h13, h⟩ := obr_some h
  refine q_callVi (As := [.int t0, .int x5]) (na := 2) C S (oM0 cI cB ad) rfl (ct_X12_blockOf l D cI cB cL ad t0 x5 u h13) mw_262 mw_261 mw_263 mw_5 mw_260 hdX12_blockOf ⟨Nat.le_trans (Nat.le_of_ble_eq_true rfl) hR.1, Nat.le_trans (Nat.le_of_ble_eq_true rfl) hR.2⟩ rfl hsz ⟨Nat.zero_le _, Nat.zero_le _⟩ (Nat.le_of_ble_eq_true rfl) dX12_laysChain_82 rfl (fun H locs S => ?_)
  refine lv_istore (lv' := [(5, .int r14), (0, .ref (ad 0)), (1, .int x1), (3, .int x3), (4, .int x4)]) hx hb dX12_laysChain_85 hl (by decide) rfl (fun ls hl => ?_)
  have hsz := hl.1
  refine lv_goto (tgt := 15) hx hb dX12_laysChain_87 (by decide) ?_
  exact hK15 x1 x3 x4 r14 u H locs ls (lv_sub hl [1, 2, 3, 4, 0] rfl) S h
set_option maxRecDepth 10000 in
set_option maxHeartbeats 4000000 in
theorem wX12_laysChain_71 (C : cx D (tyl cI cB cL) A RX12 cX12_laysChain 7 (some .int) p s m args c meth) (hR : 5 ≤ R.frames ∧ 115 ≤ R.locals) {r : Int32} {σ' : Sg} (u : Sg) {K15 : Int32 → Int32 → Int32 → Int32 → Sg → Option (Int32 × Sg)} (hK15 : ∀ (y1 : Int32) (y3 : Int32) (y4 : Int32) (y5 : Int32) (v : Sg) (H : Heap) (locs : List Loc) (ls : Array Slot), lv_has ls 7 [(0, .ref (ad 0)), (1, .int y1), (3, .int y3), (4, .int y4), (5, .int y5)] → st D (wM cI cB ad) A s v H locs → K15 y1 y3 y4 y5 v = some (r, σ') → W p l e R s m args below meth c H locs 0 0 (MQ below (qI D (tyl cI cB cL) (wM cI cB ad) A r σ') args s 0 0 A) (F0 m 15 ls [])) (x1 : Int32) (x3 : Int32) (x4 : Int32) (x5 : Int32) {H : Heap} {locs : List Loc} {ls : Array Slot} (hl : lv_has ls 7 [(0, .ref (ad 0)), (1, .int x1), (3, .int x3), (4, .int x4), (5, .int x5)]) (S : st D (wM cI cB ad) A s u H locs) (h : fX12_laysChain_71 K15 x1 x3 x4 x5 u = some (r, σ')) : W p l e R s m args below meth c H locs 0 0 (MQ below (qI D (tyl cI cB cL) (wM cI cB ad) A r σ') args s 0 0 A) (F0 m 71 ls [.ref (ad 0)]) := by
  have hx := C.1
  have hb := C.2.1
  have hsz := hl.1
  unfold fX12_laysChain_71 at h
  refine lv_iload_n hx hb dX12_laysChain_71 rfl (lv_at hl 1 rfl) ?_
  refine lv_goto (tgt := 80) hx hb dX12_laysChain_72 (by decide) ?_
  exact wX12_laysChain_80 C hR u hK15 x1 x3 x4 x5 x1 (lv_sub hl [0, 1, 2, 3, 4] rfl) S h
set_option maxRecDepth 10000 in
set_option maxHeartbeats 4000000 in
theorem wX12_laysChain_15 (C : cx D (tyl cI cB cL) A RX12 cX12_laysChain 7 (some .int) p s m args c meth) (hR : 5 ≤ R.frames ∧ 115 ≤ R.locals) {r : Int32} {σ' : Sg} : ∀ (n : Nat) (x1 : Int32) (x3 : Int32) (x4 : Int32) (x5 : Int32) (u : Sg) (H : Heap) (locs : List Loc) (ls : Array Slot), lv_has ls 7 [(0, .ref (ad 0)), (1, .int x1), (3, .int x3), (4, .int x4), (5, .int x5)] → st D (wM cI cB ad) A s u H locs → fX12_laysChain_15 n x1 x3 x4 x5 u = some (r, σ') → W p l e R s m args below meth c H locs 0 0 (MQ below (qI D (tyl cI cB cL) (wM cI cB ad) A r σ') args s 0 0 A) (F0 m 15 ls []) := by
  have hx := C.1
  have hb := C.2.1
  intro n
  induction n with
  | zero =>
    intro x1 x3 x4 x5 u H locs ls hl S h
    cases h
  | succ n ih =>
    intro x1 x3 x4 x5 u H locs ls hl S h
    rw [fX12_laysChain_15] at h
    have hsz := hl.1
    refine lv_iload hx hb dX12_laysChain_15 (lv_at hl 4 rfl) ?_
    refine lv_iconst (v := (-1)) hx hb dX12_laysChain_17 (by decide) ?_
    refine lv_icmp_eq (tgt := 90) hx hb dX12_laysChain_18 (by decide) (fun c4 => ?_) (fun c4 => ?_)
    · have h := cnd_t c4 h
      refine lv_iload_n hx hb dX12_laysChain_90 rfl (lv_at hl 2 rfl) ?_
      exact q_iret C S (rt_S h) dX12_laysChain_91
    · have h := cnd_f c4 h
      refine lv_iload hx hb dX12_laysChain_21 (lv_at hl 3 rfl) ?_
      refine lv_iload hx hb dX12_laysChain_23 (lv_at hl 4 rfl) ?_
      refine q_callP (As := [.int x4, .int x5]) (na := 2) C S (ct_X12_holds l D cI cB cL x4 x5) mw_47 mw_46 mw_5 mw_45 hdX12_holds ⟨Nat.le_trans (Nat.le_of_ble_eq_true rfl) hR.1, Nat.le_trans (Nat.le_of_ble_eq_true rfl) hR.2⟩ rfl hsz ⟨Nat.zero_le _, Nat.zero_le _⟩ (Nat.le_of_ble_eq_true rfl) dX12_laysChain_25 rfl (fun H locs S => ?_)
      refine lv_if_ne (tgt := 90) hx hb dX12_laysChain_28 (by decide) (fun c5 => ?_) (fun c5 => ?_)
      · have h := cnd_f c5 h
        refine lv_iload_n hx hb dX12_laysChain_90 rfl (lv_at hl 2 rfl) ?_
        exact q_iret C S (rt_S h) dX12_laysChain_91
      · have h := cnd_t c5 h
        refine lv_aload_n hx hb dX12_laysChain_31 rfl (lv_at hl 0 rfl) ?_
        refine q_get (v := .ref (ad 8)) C S (oM0 cI cB ad) rfl iwX12 16 (by decide) mw_268 rfl dX12_laysChain_32 ?_
        refine lv_iload_n hx hb dX12_laysChain_35 rfl (lv_at hl 2 rfl) ?_
        refine lv_iload hx hb dX12_laysChain_36 (lv_at hl 4 rfl) ?_
        obtain ⟨g6, h⟩ := grd_some h
        obtain ⟨u7, eu7⟩ : ∃ z : Sg, z = s2 u 8 ((x3 : Int32).toNatClampNeg) x5 := ⟨_, rfl⟩
        have h := bnd_of eu7 h
        refine q_iast C S (aM8 cI cB ad) 0 rfl g6 dX12_laysChain_38 (j := (x3 : Int32).toNatClampNeg) rfl eu7 (fun H locs S => ?_)
        obtain ⟨v8, ev8⟩ : ∃ y : Int32, y = x3 + 1 := ⟨_, rfl⟩
        have h := bnd_of ev8 h
        refine lv_iinc (v := v8) (lv' := [(3, .int v8), (0, .ref (ad 0)), (1, .int x1), (4, .int x4), (5, .int x5)]) hx hb dX12_laysChain_39 hl (k := 2) rfl (by rw [ev8]; rfl) (by decide) rfl (fun ls hl => ?_)
        have hsz := hl.1
        refine lv_iload hx hb dX12_laysChain_42 (lv_at hl 3 rfl) ?_
        refine lv_iconst (v := 1) hx hb dX12_laysChain_44 (by decide) ?_
        refine lv_iload hx hb dX12_laysChain_45 (lv_at hl 4 rfl) ?_
        refine lv_ishl hx hb dX12_laysChain_47 ?_
        refine lv_ior hx hb dX12_laysChain_48 ?_
        refine lv_topi (fun v9 ev9 => ?_)
        have h := bnd_of ev9 h
        refine lv_istore (lv' := [(4, .int v9), (3, .int v8), (0, .ref (ad 0)), (1, .int x1), (5, .int x5)]) hx hb dX12_laysChain_49 hl (by decide) rfl (fun ls hl => ?_)
        have hsz := hl.1
        refine lv_aload_n hx hb dX12_laysChain_51 rfl (lv_at hl 2 rfl) ?_
        refine lv_iload hx hb dX12_laysChain_52 (lv_at hl 4 rfl) ?_
        obtain ⟨r11, h10, h⟩ := obr_some h
        refine q_callVi (As := [.int x5]) (na := 1) C S (oM0 cI cB ad) rfl (ct_X12_waitsOf l D cI cB cL ad x5 u7 h10) mw_266 mw_265 mw_267 mw_5 mw_264 hdX12_waitsOf ⟨Nat.le_trans (Nat.le_of_ble_eq_true rfl) hR.1, Nat.le_trans (Nat.le_of_ble_eq_true rfl) hR.2⟩ rfl hsz ⟨Nat.zero_le _, Nat.zero_le _⟩ (Nat.le_of_ble_eq_true rfl) dX12_laysChain_54 rfl (fun H locs S => ?_)
        refine lv_istore (lv' := [(6, .int r11), (4, .int v9), (3, .int v8), (0, .ref (ad 0)), (1, .int x1), (5, .int x5)]) hx hb dX12_laysChain_57 hl (by decide) rfl (fun ls hl => ?_)
        have hsz := hl.1
        refine lv_aload_n hx hb dX12_laysChain_59 rfl (lv_at hl 3 rfl) ?_
        refine lv_iload hx hb dX12_laysChain_60 (lv_at hl 0 rfl) ?_
        refine lv_iconst (v := (-1)) hx hb dX12_laysChain_62 (by decide) ?_
        refine lv_icmp_eq (tgt := 71) hx hb dX12_laysChain_63 (by decide) (fun c12 => ?_) (fun c12 => ?_)
        · have h := cnd_t c12 h
          exact wX12_laysChain_71 C hR u7 ih x1 v8 v9 x5 (lv_sub hl [3, 4, 2, 1, 5] rfl) S h
        · have h := cnd_f c12 h
          refine lv_iload hx hb dX12_laysChain_66 (lv_at hl 0 rfl) ?_
          refine lv_if_ne (tgt := 75) hx hb dX12_laysChain_68 (by decide) (fun c15 => ?_) (fun c15 => ?_)
          · have h := cnd_f c15 h
            refine lv_iload hx hb dX12_laysChain_75 (lv_at hl 0 rfl) ?_
            refine q_callP (As := [.int r11]) (na := 1) C S (ct_J6_numberOfTrailingZeros_0f7a4 l D cI cB cL r11) mw_271 mw_270 mw_237 mw_269 hdJ6_numberOfTrailingZeros_0f7a4 ⟨Nat.le_trans (Nat.le_of_ble_eq_true rfl) hR.1, Nat.le_trans (Nat.le_of_ble_eq_true rfl) hR.2⟩ rfl hsz ⟨Nat.zero_le _, Nat.zero_le _⟩ (Nat.le_of_ble_eq_true rfl) dX12_laysChain_77 rfl (fun H locs S => ?_)
            exact wX12_laysChain_80 C hR u7 ih x1 v8 v9 x5 (fJ6_numberOfTrailingZeros_0f7a4 r11) (lv_sub hl [3, 4, 2, 1, 5] rfl) S h
          · have h := cnd_t c15 h
            exact wX12_laysChain_71 C hR u7 ih x1 v8 v9 x5 (lv_sub hl [3, 4, 2, 1, 5] rfl) S h
set_option maxRecDepth 10000 in
set_option maxHeartbeats 4000000 in
theorem wX12_laysChain_0 (C : cx D (tyl cI cB cL) A RX12 cX12_laysChain 7 (some .int) p s m args c meth) (hR : 5 ≤ R.frames ∧ 115 ≤ R.locals) {r : Int32} {σ' : Sg} (u : Sg) (x1 : Int32) (x2 : Int32) {H : Heap} {locs : List Loc} {ls : Array Slot} (hl : lv_has ls 7 [(0, .ref (ad 0)), (1, .int x1), (2, .int x2)]) (S : st D (wM cI cB ad) A s u H locs) (h : fX12_laysChain_0 x1 x2 u = some (r, σ')) : W p l e R s m args below meth c H locs 0 0 (MQ below (qI D (tyl cI cB cL) (wM cI cB ad) A r σ') args s 0 0 A) (F0 m 0 ls []) := by
  have hx := C.1
  have hb := C.2.1
  have hsz := hl.1
  unfold fX12_laysChain_0 at h
  refine lv_iconst (v := 0) hx hb dX12_laysChain_0 (by decide) ?_
  refine lv_istore_n (lv' := [(3, .int 0), (0, .ref (ad 0)), (1, .int x1), (2, .int x2)]) hx hb dX12_laysChain_1 rfl hl (by decide) rfl (fun ls hl => ?_)
  have hsz := hl.1
  refine lv_iconst (v := 1) hx hb dX12_laysChain_2 (by decide) ?_
  refine lv_iload_n hx hb dX12_laysChain_3 rfl (lv_at hl 3 rfl) ?_
  refine lv_ishl hx hb dX12_laysChain_4 ?_
  refine lv_topi (fun v1 ev1 => ?_)
  have h := bnd_of ev1 h
  refine lv_istore (lv' := [(4, .int v1), (3, .int 0), (0, .ref (ad 0)), (1, .int x1), (2, .int x2)]) hx hb dX12_laysChain_5 hl (by decide) rfl (fun ls hl => ?_)
  have hsz := hl.1
  refine lv_aload_n hx hb dX12_laysChain_7 rfl (lv_at hl 2 rfl) ?_
  refine lv_iload_n hx hb dX12_laysChain_8 rfl (lv_at hl 3 rfl) ?_
  refine lv_iload_n hx hb dX12_laysChain_9 rfl (lv_at hl 4 rfl) ?_
  obtain ⟨r3, h2, h⟩ := obr_some h
  refine q_callVi (As := [.int x1, .int x2]) (na := 2) C S (oM0 cI cB ad) rfl (ct_X12_blockOf l D cI cB cL ad x1 x2 u h2) mw_262 mw_261 mw_263 mw_5 mw_260 hdX12_blockOf ⟨Nat.le_trans (Nat.le_of_ble_eq_true rfl) hR.1, Nat.le_trans (Nat.le_of_ble_eq_true rfl) hR.2⟩ rfl hsz ⟨Nat.zero_le _, Nat.zero_le _⟩ (Nat.le_of_ble_eq_true rfl) dX12_laysChain_10 rfl (fun H locs S => ?_)
  refine lv_istore (lv' := [(5, .int r3), (4, .int v1), (3, .int 0), (0, .ref (ad 0)), (1, .int x1), (2, .int x2)]) hx hb dX12_laysChain_13 hl (by decide) rfl (fun ls hl => ?_)
  have hsz := hl.1
  exact wX12_laysChain_15 C hR FU x1 0 v1 r3 u H locs ls (lv_sub hl [3, 4, 2, 1, 0] rfl) S h
set_option maxRecDepth 10000 in
set_option maxHeartbeats 4000000 in
theorem ct_X12_laysChain (l : Launch) (D : va_G) (cI cB cL : ClassId) (ad : Nat → Nat) (x1 : Int32) (x2 : Int32) (u : Sg) {r : Int32} {σ' : Sg} (h : fX12_laysChain x1 x2 u = some (r, σ')) : metI l D (tyl cI cB cL) yX12_laysChain cX12_laysChain 7 (some .int) 5 115 (wM cI cB ad) [.ref (ad 0), .int x1, .int x2] u r σ' := by
  intro sz
  refine Met.ofW (cc := cX12_laysChain) (maxL := 7) (ret := (some .int)) (by decide) rfl ?_
  intro p e s m args below meth c s₁ B hml hv
  obtain ⟨rfl, C, S⟩ := q_entry B hml hv
  have hl := lv_entry ([.ref (ad 0), .int x1, .int x2]) (n := 7) (Nat.le_of_ble_eq_true rfl)
  rw [lg_entry_eq]
  generalize (lg_sl ([.ref (ad 0), .int x1, .int x2]) ++ List.replicate (7 - (lg_sl ([.ref (ad 0), .int x1, .int x2])).length) Slot.unset).toArray = ls at hl ⊢
  exact wX12_laysChain_0 C ⟨Nat.le_refl _, Nat.le_refl _⟩ u x1 x2 (lv_sub hl [0, 1, 2] rfl) S h
noncomputable def fX12_chain_0 (x1 : Int32) (x2 : Int32) (x3 : Int32) (u : Sg) : Option (Int32 × Sg) := obd (fX12_noPair x1 x2 u) (fun r2 u3 => cnd (r2 = 0) (obd (fX12_laysChain x1 x2 u3) (fun r6 u7 => cnd ((fX12_in x3 0 (r6 - 1)) = 0) (some ((-1), u7)) (grd (vp_in x3 21) (some ((u7 8 ((x3 : Int32).toNatClampNeg)), u7))))) (some (0, u3)))
noncomputable def fX12_chain (x1 : Int32) (x2 : Int32) (x3 : Int32) (u : Sg) : Option (Int32 × Sg) := fX12_chain_0 x1 x2 x3 u
set_option maxRecDepth 10000 in
set_option maxHeartbeats 4000000 in
theorem wX12_chain_0 (C : cx D (tyl cI cB cL) A RX12 cX12_chain 4 (some .int) p s m args c meth) (hR : 6 ≤ R.frames ∧ 141 ≤ R.locals) {r : Int32} {σ' : Sg} (u : Sg) (x1 : Int32) (x2 : Int32) (x3 : Int32) {H : Heap} {locs : List Loc} {ls : Array Slot} (hl : lv_has ls 4 [(0, .ref (ad 0)), (1, .int x1), (2, .int x2), (3, .int x3)]) (S : st D (wM cI cB ad) A s u H locs) (h : fX12_chain_0 x1 x2 x3 u = some (r, σ')) : W p l e R s m args below meth c H locs 0 0 (MQ below (qI D (tyl cI cB cL) (wM cI cB ad) A r σ') args s 0 0 A) (F0 m 0 ls []) := by
  have hx := C.1
  have hb := C.2.1
  have hsz := hl.1
  unfold fX12_chain_0 at h
  refine lv_aload_n hx hb dX12_chain_0 rfl (lv_at hl 0 rfl) ?_
  refine lv_iload_n hx hb dX12_chain_1 rfl (lv_at hl 1 rfl) ?_
  refine lv_iload_n hx hb dX12_chain_2 rfl (lv_at hl 2 rfl) ?_
  obtain ⟨r2, u3, h1, h⟩ := obd_some h
  refine q_callVi (As := [.int x1, .int x2]) (na := 2) C S (oM0 cI cB ad) rfl (ct_X12_noPair l D cI cB cL ad x1 x2 u h1) mw_250 mw_249 mw_251 mw_5 mw_248 hdX12_noPair ⟨Nat.le_trans (Nat.le_of_ble_eq_true rfl) hR.1, Nat.le_trans (Nat.le_of_ble_eq_true rfl) hR.2⟩ rfl hsz ⟨Nat.zero_le _, Nat.zero_le _⟩ (Nat.le_of_ble_eq_true rfl) dX12_chain_3 rfl (fun H locs S => ?_)
  refine lv_if_eq (tgt := 11) hx hb dX12_chain_6 (by decide) (fun c4 => ?_) (fun c4 => ?_)
  · have h := cnd_t c4 h
    refine lv_iload_n hx hb dX12_chain_11 rfl (lv_at hl 3 rfl) ?_
    refine lv_iconst (v := 0) hx hb dX12_chain_12 (by decide) ?_
    refine lv_aload_n hx hb dX12_chain_13 rfl (lv_at hl 0 rfl) ?_
    refine lv_iload_n hx hb dX12_chain_14 rfl (lv_at hl 1 rfl) ?_
    refine lv_iload_n hx hb dX12_chain_15 rfl (lv_at hl 2 rfl) ?_
    obtain ⟨r6, u7, h5, h⟩ := obd_some h
    refine q_callVi (As := [.int x1, .int x2]) (na := 2) C S (oM0 cI cB ad) rfl (ct_X12_laysChain l D cI cB cL ad x1 x2 u3 h5) mw_274 mw_273 mw_275 mw_5 mw_272 hdX12_laysChain ⟨Nat.le_trans (Nat.le_of_ble_eq_true rfl) hR.1, Nat.le_trans (Nat.le_of_ble_eq_true rfl) hR.2⟩ rfl hsz ⟨Nat.zero_le _, Nat.zero_le _⟩ (Nat.le_of_ble_eq_true rfl) dX12_chain_16 rfl (fun H locs S => ?_)
    refine lv_iconst (v := 1) hx hb dX12_chain_19 (by decide) ?_
    refine lv_isub hx hb dX12_chain_20 ?_
    refine q_callP (As := [.int x3, .int 0, .int (r6 - 1)]) (na := 3) C S (ct_X12_in l D cI cB cL x3 0 (r6 - 1)) mw_28 mw_27 mw_5 mw_26 hdX12_in ⟨Nat.le_trans (Nat.le_of_ble_eq_true rfl) hR.1, Nat.le_trans (Nat.le_of_ble_eq_true rfl) hR.2⟩ rfl hsz ⟨Nat.zero_le _, Nat.zero_le _⟩ (Nat.le_of_ble_eq_true rfl) dX12_chain_21 rfl (fun H locs S => ?_)
    refine lv_if_eq (tgt := 36) hx hb dX12_chain_24 (by decide) (fun c8 => ?_) (fun c8 => ?_)
    · have h := cnd_t c8 h
      refine lv_iconst (v := (-1)) hx hb dX12_chain_36 (by decide) ?_
      exact q_iret C S (rt_S h) dX12_chain_37
    · have h := cnd_f c8 h
      refine lv_aload_n hx hb dX12_chain_27 rfl (lv_at hl 0 rfl) ?_
      refine q_get (v := .ref (ad 8)) C S (oM0 cI cB ad) rfl iwX12 16 (by decide) mw_268 rfl dX12_chain_28 ?_
      refine lv_iload_n hx hb dX12_chain_31 rfl (lv_at hl 3 rfl) ?_
      obtain ⟨g9, h⟩ := grd_some h
      refine q_iald C S (aM8 cI cB ad) 0 rfl g9 dX12_chain_32 (j := (x3 : Int32).toNatClampNeg) rfl ?_
      refine lv_goto (tgt := 37) hx hb dX12_chain_33 (by decide) ?_
      exact q_iret C S (rt_S h) dX12_chain_37
  · have h := cnd_f c4 h
    refine lv_iconst (v := 0) hx hb dX12_chain_9 (by decide) ?_
    exact q_iret C S (rt_S h) dX12_chain_10
set_option maxRecDepth 10000 in
set_option maxHeartbeats 4000000 in
theorem ct_X12_chain (l : Launch) (D : va_G) (cI cB cL : ClassId) (ad : Nat → Nat) (x1 : Int32) (x2 : Int32) (x3 : Int32) (u : Sg) {r : Int32} {σ' : Sg} (h : fX12_chain x1 x2 x3 u = some (r, σ')) : metI l D (tyl cI cB cL) yX12_chain cX12_chain 4 (some .int) 6 141 (wM cI cB ad) [.ref (ad 0), .int x1, .int x2, .int x3] u r σ' := by
  intro sz
  refine Met.ofW (cc := cX12_chain) (maxL := 4) (ret := (some .int)) (by decide) rfl ?_
  intro p e s m args below meth c s₁ B hml hv
  obtain ⟨rfl, C, S⟩ := q_entry B hml hv
  have hl := lv_entry ([.ref (ad 0), .int x1, .int x2, .int x3]) (n := 4) (Nat.le_of_ble_eq_true rfl)
  rw [lg_entry_eq]
  generalize (lg_sl ([.ref (ad 0), .int x1, .int x2, .int x3]) ++ List.replicate (4 - (lg_sl ([.ref (ad 0), .int x1, .int x2, .int x3])).length) Slot.unset).toArray = ls at hl ⊢
  exact wX12_chain_0 C ⟨Nat.le_refl _, Nat.le_refl _⟩ u x1 x2 x3 (lv_sub hl [0, 1, 2, 3] rfl) S h
noncomputable def fX12_hasAhead_73 (K9 : Int32 → Int32 → Int32 → Int32 → Int32 → Int32 → Option Int32) (x1 : Int32) (x2 : Int32) (x3 : Int32) (x5 : Int32) (x6 : Int32) (t0 : Int32) (u : Sg) : Option Int32 := bnd (x6 + 1) (fun v7 => K9 x1 x2 x3 t0 x5 v7)
noncomputable def fX12_hasAhead_68 (K9 : Int32 → Int32 → Int32 → Int32 → Int32 → Int32 → Option Int32) (x1 : Int32) (x2 : Int32) (x3 : Int32) (x5 : Int32) (x6 : Int32) (u : Sg) : Option Int32 := fX12_hasAhead_73 K9 x1 x2 x3 x5 x6 1 u
noncomputable def fX12_hasAhead_48 (K9 : Int32 → Int32 → Int32 → Int32 → Int32 → Int32 → Option Int32) (x1 : Int32) (x2 : Int32) (x3 : Int32) (x4 : Int32) (x6 : Int32) (t0 : Int32) (u : Sg) : Option Int32 := cnd (x4 = 0) (obr (fX12_of x1 (5 + x6) u) (fun r9 => cnd (r9 = x2) (fX12_hasAhead_68 K9 x1 x2 x3 t0 x6 u) (fX12_hasAhead_73 K9 x1 x2 x3 t0 x6 0 u))) (fX12_hasAhead_68 K9 x1 x2 x3 t0 x6 u)
noncomputable def fX12_hasAhead_43 (K9 : Int32 → Int32 → Int32 → Int32 → Int32 → Int32 → Option Int32) (x1 : Int32) (x2 : Int32) (x3 : Int32) (x4 : Int32) (x6 : Int32) (u : Sg) : Option Int32 := fX12_hasAhead_48 K9 x1 x2 x3 x4 x6 1 u
noncomputable def fX12_hasAhead_47 (K9 : Int32 → Int32 → Int32 → Int32 → Int32 → Int32 → Option Int32) (x1 : Int32) (x2 : Int32) (x3 : Int32) (x4 : Int32) (x6 : Int32) (u : Sg) : Option Int32 := fX12_hasAhead_48 K9 x1 x2 x3 x4 x6 0 u
noncomputable def fX12_hasAhead_9 (u : Sg) : Nat → Int32 → Int32 → Int32 → Int32 → Int32 → Int32 → Option Int32
  | 0, _, _, _, _, _, _ => none
  | n + 1, x1, x2, x3, x4, x5, x6 => obr (fX12_of x1 4 u) (fun r2 => cnd (r2 ≤ x6) (grd (isB x5) (some x5)) (cnd (x5 = 0) (cnd (x4 = 0) (fX12_hasAhead_47 (fun a0 a1 a2 a3 a4 a5 => fX12_hasAhead_9 u n a0 a1 a2 a3 a4 a5) x1 x2 x3 x4 x6 u) (obr (fX12_of x1 (5 + x6) u) (fun r13 => cnd (r13 = x3) (fX12_hasAhead_43 (fun a0 a1 a2 a3 a4 a5 => fX12_hasAhead_9 u n a0 a1 a2 a3 a4 a5) x1 x2 x3 x4 x6 u) (fX12_hasAhead_47 (fun a0 a1 a2 a3 a4 a5 => fX12_hasAhead_9 u n a0 a1 a2 a3 a4 a5) x1 x2 x3 x4 x6 u)))) (fX12_hasAhead_43 (fun a0 a1 a2 a3 a4 a5 => fX12_hasAhead_9 u n a0 a1 a2 a3 a4 a5) x1 x2 x3 x4 x6 u)))
noncomputable def fX12_hasAhead_0 (x1 : Int32) (x2 : Int32) (x3 : Int32) (u : Sg) : Option Int32 := fX12_hasAhead_9 u FU x1 x2 x3 0 0 0
noncomputable def fX12_hasAhead (x1 : Int32) (x2 : Int32) (x3 : Int32) (u : Sg) : Option Int32 := fX12_hasAhead_0 x1 x2 x3 u
set_option maxRecDepth 10000 in
set_option maxHeartbeats 4000000 in
theorem wX12_hasAhead_73 (C : cx D (tyl cI cB cL) A RX12 cX12_hasAhead 7 (some .boolean) p s m args c meth) (hR : 2 ≤ R.frames ∧ 43 ≤ R.locals) {r : Int32} (u : Sg) {K9 : Int32 → Int32 → Int32 → Int32 → Int32 → Int32 → Option Int32} (hK9 : ∀ (y1 : Int32) (y2 : Int32) (y3 : Int32) (y4 : Int32) (y5 : Int32) (y6 : Int32) (H : Heap) (locs : List Loc) (ls : Array Slot), lv_has ls 7 [(0, .ref (ad 0)), (1, .int y1), (2, .int y2), (3, .int y3), (4, .int y4), (5, .int y5), (6, .int y6)] → st D (wM cI cB ad) A s u H locs → K9 y1 y2 y3 y4 y5 y6 = some r → W p l e R s m args below meth c H locs 0 0 (MQ below (qI D (tyl cI cB cL) (wM cI cB ad) A r u) args s 0 0 A) (F0 m 9 ls [])) (x1 : Int32) (x2 : Int32) (x3 : Int32) (x5 : Int32) (x6 : Int32) (t0 : Int32) {H : Heap} {locs : List Loc} {ls : Array Slot} (hl : lv_has ls 7 [(0, .ref (ad 0)), (1, .int x1), (2, .int x2), (3, .int x3), (5, .int x5), (6, .int x6)]) (S : st D (wM cI cB ad) A s u H locs) (h : fX12_hasAhead_73 K9 x1 x2 x3 x5 x6 t0 u = some r) : W p l e R s m args below meth c H locs 0 0 (MQ below (qI D (tyl cI cB cL) (wM cI cB ad) A r u) args s 0 0 A) (F0 m 73 ls [.int t0]) := by
  have hx := C.1
  have hb := C.2.1
  have hsz := hl.1
  unfold fX12_hasAhead_73 at h
  refine lv_istore (lv' := [(4, .int t0), (0, .ref (ad 0)), (1, .int x1), (2, .int x2), (3, .int x3), (5, .int x5), (6, .int x6)]) hx hb dX12_hasAhead_73 hl (by decide) rfl (fun ls hl => ?_)
  have hsz := hl.1
  obtain ⟨v7, ev7⟩ : ∃ y : Int32, y = x6 + 1 := ⟨_, rfl⟩
  have h := bnd_of ev7 h
  refine lv_iinc (v := v7) (lv' := [(6, .int v7), (4, .int t0), (0, .ref (ad 0)), (1, .int x1), (2, .int x2), (3, .int x3), (5, .int x5)]) hx hb dX12_hasAhead_75 hl (k := 6) rfl (by rw [ev7]; rfl) (by decide) rfl (fun ls hl => ?_)
  have hsz := hl.1
  refine lv_goto (tgt := 9) hx hb dX12_hasAhead_78 (by decide) ?_
  exact hK9 x1 x2 x3 t0 x5 v7 H locs ls (lv_sub hl [2, 3, 4, 5, 1, 6, 0] rfl) S h
set_option maxRecDepth 10000 in
set_option maxHeartbeats 4000000 in
theorem wX12_hasAhead_68 (C : cx D (tyl cI cB cL) A RX12 cX12_hasAhead 7 (some .boolean) p s m args c meth) (hR : 2 ≤ R.frames ∧ 43 ≤ R.locals) {r : Int32} (u : Sg) {K9 : Int32 → Int32 → Int32 → Int32 → Int32 → Int32 → Option Int32} (hK9 : ∀ (y1 : Int32) (y2 : Int32) (y3 : Int32) (y4 : Int32) (y5 : Int32) (y6 : Int32) (H : Heap) (locs : List Loc) (ls : Array Slot), lv_has ls 7 [(0, .ref (ad 0)), (1, .int y1), (2, .int y2), (3, .int y3), (4, .int y4), (5, .int y5), (6, .int y6)] → st D (wM cI cB ad) A s u H locs → K9 y1 y2 y3 y4 y5 y6 = some r → W p l e R s m args below meth c H locs 0 0 (MQ below (qI D (tyl cI cB cL) (wM cI cB ad) A r u) args s 0 0 A) (F0 m 9 ls [])) (x1 : Int32) (x2 : Int32) (x3 : Int32) (x5 : Int32) (x6 : Int32) {H : Heap} {locs : List Loc} {ls : Array Slot} (hl : lv_has ls 7 [(0, .ref (ad 0)), (1, .int x1), (2, .int x2), (3, .int x3), (5, .int x5), (6, .int x6)]) (S : st D (wM cI cB ad) A s u H locs) (h : fX12_hasAhead_68 K9 x1 x2 x3 x5 x6 u = some r) : W p l e R s m args below meth c H locs 0 0 (MQ below (qI D (tyl cI cB cL) (wM cI cB ad) A r u) args s 0 0 A) (F0 m 68 ls []) := by
  have hx := C.1
  have hb := C.2.1
  have hsz := hl.1
  unfold fX12_hasAhead_68 at h
  refine lv_iconst (v := 1) hx hb dX12_hasAhead_68 (by decide) ?_
  refine lv_goto (tgt := 73) hx hb dX12_hasAhead_69 (by decide) ?_
  exact wX12_hasAhead_73 C hR u hK9 x1 x2 x3 x5 x6 1 (lv_sub hl [0, 1, 2, 3, 4, 5] rfl) S h
set_option maxRecDepth 10000 in
set_option maxHeartbeats 4000000 in
theorem wX12_hasAhead_48 (C : cx D (tyl cI cB cL) A RX12 cX12_hasAhead 7 (some .boolean) p s m args c meth) (hR : 2 ≤ R.frames ∧ 43 ≤ R.locals) {r : Int32} (u : Sg) {K9 : Int32 → Int32 → Int32 → Int32 → Int32 → Int32 → Option Int32} (hK9 : ∀ (y1 : Int32) (y2 : Int32) (y3 : Int32) (y4 : Int32) (y5 : Int32) (y6 : Int32) (H : Heap) (locs : List Loc) (ls : Array Slot), lv_has ls 7 [(0, .ref (ad 0)), (1, .int y1), (2, .int y2), (3, .int y3), (4, .int y4), (5, .int y5), (6, .int y6)] → st D (wM cI cB ad) A s u H locs → K9 y1 y2 y3 y4 y5 y6 = some r → W p l e R s m args below meth c H locs 0 0 (MQ below (qI D (tyl cI cB cL) (wM cI cB ad) A r u) args s 0 0 A) (F0 m 9 ls [])) (x1 : Int32) (x2 : Int32) (x3 : Int32) (x4 : Int32) (x6 : Int32) (t0 : Int32) {H : Heap} {locs : List Loc} {ls : Array Slot} (hl : lv_has ls 7 [(0, .ref (ad 0)), (1, .int x1), (2, .int x2), (3, .int x3), (4, .int x4), (6, .int x6)]) (S : st D (wM cI cB ad) A s u H locs) (h : fX12_hasAhead_48 K9 x1 x2 x3 x4 x6 t0 u = some r) : W p l e R s m args below meth c H locs 0 0 (MQ below (qI D (tyl cI cB cL) (wM cI cB ad) A r u) args s 0 0 A) (F0 m 48 ls [.int t0]) := by
  have hx := C.1
  have hb := C.2.1
  have hsz := hl.1
  unfold fX12_hasAhead_48 at h
  refine lv_istore (lv' := [(5, .int t0), (0, .ref (ad 0)), (1, .int x1), (2, .int x2), (3, .int x3), (4, .int x4), (6, .int x6)]) hx hb dX12_hasAhead_48 hl (by decide) rfl (fun ls hl => ?_)
  have hsz := hl.1
  refine lv_iload hx hb dX12_hasAhead_50 (lv_at hl 5 rfl) ?_
  refine lv_if_ne (tgt := 68) hx hb dX12_hasAhead_52 (by decide) (fun c6 => ?_) (fun c6 => ?_)
  · have h := cnd_f c6 h
    exact wX12_hasAhead_68 C hR u hK9 x1 x2 x3 t0 x6 (lv_sub hl [1, 2, 3, 4, 0, 6] rfl) S h
  · have h := cnd_t c6 h
    refine lv_aload_n hx hb dX12_hasAhead_55 rfl (lv_at hl 1 rfl) ?_
    refine lv_iload_n hx hb dX12_hasAhead_56 rfl (lv_at hl 2 rfl) ?_
    refine lv_iconst (v := 5) hx hb dX12_hasAhead_57 (by decide) ?_
    refine lv_iload hx hb dX12_hasAhead_58 (lv_at hl 6 rfl) ?_
    refine lv_iadd hx hb dX12_hasAhead_60 ?_
    obtain ⟨r9, h8, h⟩ := obr_some h
    refine q_callVi (As := [.int x1, .int (5 + x6)]) (na := 2) C S (oM0 cI cB ad) rfl (ct_X12_of l D cI cB cL ad x1 (5 + x6) u h8) mw_35 mw_34 mw_36 mw_5 mw_33 hdX12_of ⟨Nat.le_trans (Nat.le_of_ble_eq_true rfl) hR.1, Nat.le_trans (Nat.le_of_ble_eq_true rfl) hR.2⟩ rfl hsz ⟨Nat.zero_le _, Nat.zero_le _⟩ (Nat.le_of_ble_eq_true rfl) dX12_hasAhead_61 rfl (fun H locs S => ?_)
    refine lv_iload_n hx hb dX12_hasAhead_64 rfl (lv_at hl 3 rfl) ?_
    refine lv_icmp_ne (tgt := 72) hx hb dX12_hasAhead_65 (by decide) (fun c10 => ?_) (fun c10 => ?_)
    · have h := cnd_f c10 h
      refine lv_iconst (v := 0) hx hb dX12_hasAhead_72 (by decide) ?_
      exact wX12_hasAhead_73 C hR u hK9 x1 x2 x3 t0 x6 0 (lv_sub hl [1, 2, 3, 4, 0, 6] rfl) S h
    · have h := cnd_t c10 h
      exact wX12_hasAhead_68 C hR u hK9 x1 x2 x3 t0 x6 (lv_sub hl [1, 2, 3, 4, 0, 6] rfl) S h
set_option maxRecDepth 10000 in
set_option maxHeartbeats 4000000 in
theorem wX12_hasAhead_43 (C : cx D (tyl cI cB cL) A RX12 cX12_hasAhead 7 (some .boolean) p s m args c meth) (hR : 2 ≤ R.frames ∧ 43 ≤ R.locals) {r : Int32} (u : Sg) {K9 : Int32 → Int32 → Int32 → Int32 → Int32 → Int32 → Option Int32} (hK9 : ∀ (y1 : Int32) (y2 : Int32) (y3 : Int32) (y4 : Int32) (y5 : Int32) (y6 : Int32) (H : Heap) (locs : List Loc) (ls : Array Slot), lv_has ls 7 [(0, .ref (ad 0)), (1, .int y1), (2, .int y2), (3, .int y3), (4, .int y4), (5, .int y5), (6, .int y6)] → st D (wM cI cB ad) A s u H locs → K9 y1 y2 y3 y4 y5 y6 = some r → W p l e R s m args below meth c H locs 0 0 (MQ below (qI D (tyl cI cB cL) (wM cI cB ad) A r u) args s 0 0 A) (F0 m 9 ls [])) (x1 : Int32) (x2 : Int32) (x3 : Int32) (x4 : Int32) (x6 : Int32) {H : Heap} {locs : List Loc} {ls : Array Slot} (hl : lv_has ls 7 [(0, .ref (ad 0)), (1, .int x1), (2, .int x2), (3, .int x3), (4, .int x4), (6, .int x6)]) (S : st D (wM cI cB ad) A s u H locs) (h : fX12_hasAhead_43 K9 x1 x2 x3 x4 x6 u = some r) : W p l e R s m args below meth c H locs 0 0 (MQ below (qI D (tyl cI cB cL) (wM cI cB ad) A r u) args s 0 0 A) (F0 m 43 ls []) := by
  have hx := C.1
  have hb := C.2.1
  have hsz := hl.1
  unfold fX12_hasAhead_43 at h
  refine lv_iconst (v := 1) hx hb dX12_hasAhead_43 (by decide) ?_
  refine lv_goto (tgt := 48) hx hb dX12_hasAhead_44 (by decide) ?_
  exact wX12_hasAhead_48 C hR u hK9 x1 x2 x3 x4 x6 1 (lv_sub hl [0, 1, 2, 3, 4, 5] rfl) S h
set_option maxRecDepth 10000 in
set_option maxHeartbeats 4000000 in
theorem wX12_hasAhead_47 (C : cx D (tyl cI cB cL) A RX12 cX12_hasAhead 7 (some .boolean) p s m args c meth) (hR : 2 ≤ R.frames ∧ 43 ≤ R.locals) {r : Int32} (u : Sg) {K9 : Int32 → Int32 → Int32 → Int32 → Int32 → Int32 → Option Int32} (hK9 : ∀ (y1 : Int32) (y2 : Int32) (y3 : Int32) (y4 : Int32) (y5 : Int32) (y6 : Int32) (H : Heap) (locs : List Loc) (ls : Array Slot), lv_has ls 7 [(0, .ref (ad 0)), (1, .int y1), (2, .int y2), (3, .int y3), (4, .int y4), (5, .int y5), (6, .int y6)] → st D (wM cI cB ad) A s u H locs → K9 y1 y2 y3 y4 y5 y6 = some r → W p l e R s m args below meth c H locs 0 0 (MQ below (qI D (tyl cI cB cL) (wM cI cB ad) A r u) args s 0 0 A) (F0 m 9 ls [])) (x1 : Int32) (x2 : Int32) (x3 : Int32) (x4 : Int32) (x6 : Int32) {H : Heap} {locs : List Loc} {ls : Array Slot} (hl : lv_has ls 7 [(0, .ref (ad 0)), (1, .int x1), (2, .int x2), (3, .int x3), (4, .int x4), (6, .int x6)]) (S : st D (wM cI cB ad) A s u H locs) (h : fX12_hasAhead_47 K9 x1 x2 x3 x4 x6 u = some r) : W p l e R s m args below meth c H locs 0 0 (MQ below (qI D (tyl cI cB cL) (wM cI cB ad) A r u) args s 0 0 A) (F0 m 47 ls []) := by
  have hx := C.1
  have hb := C.2.1
  have hsz := hl.1
  unfold fX12_hasAhead_47 at h
  refine lv_iconst (v := 0) hx hb dX12_hasAhead_47 (by decide) ?_
  exact wX12_hasAhead_48 C hR u hK9 x1 x2 x3 x4 x6 0 (lv_sub hl [0, 1, 2, 3, 4, 5] rfl) S h
set_option maxRecDepth 10000 in
set_option maxHeartbeats 4000000 in
theorem wX12_hasAhead_9 (C : cx D (tyl cI cB cL) A RX12 cX12_hasAhead 7 (some .boolean) p s m args c meth) (hR : 2 ≤ R.frames ∧ 43 ≤ R.locals) {r : Int32} (u : Sg) : ∀ (n : Nat) (x1 : Int32) (x2 : Int32) (x3 : Int32) (x4 : Int32) (x5 : Int32) (x6 : Int32) (H : Heap) (locs : List Loc) (ls : Array Slot), lv_has ls 7 [(0, .ref (ad 0)), (1, .int x1), (2, .int x2), (3, .int x3), (4, .int x4), (5, .int x5), (6, .int x6)] → st D (wM cI cB ad) A s u H locs → fX12_hasAhead_9 u n x1 x2 x3 x4 x5 x6 = some r → W p l e R s m args below meth c H locs 0 0 (MQ below (qI D (tyl cI cB cL) (wM cI cB ad) A r u) args s 0 0 A) (F0 m 9 ls []) := by
  have hx := C.1
  have hb := C.2.1
  intro n
  induction n with
  | zero =>
    intro x1 x2 x3 x4 x5 x6 H locs ls hl S h
    cases h
  | succ n ih =>
    intro x1 x2 x3 x4 x5 x6 H locs ls hl S h
    rw [fX12_hasAhead_9] at h
    have hsz := hl.1
    refine lv_iload hx hb dX12_hasAhead_9 (lv_at hl 6 rfl) ?_
    refine lv_aload_n hx hb dX12_hasAhead_11 rfl (lv_at hl 0 rfl) ?_
    refine lv_iload_n hx hb dX12_hasAhead_12 rfl (lv_at hl 1 rfl) ?_
    refine lv_iconst (v := 4) hx hb dX12_hasAhead_13 (by decide) ?_
    obtain ⟨r2, h1, h⟩ := obr_some h
    refine q_callVi (As := [.int x1, .int 4]) (na := 2) C S (oM0 cI cB ad) rfl (ct_X12_of l D cI cB cL ad x1 4 u h1) mw_35 mw_34 mw_36 mw_5 mw_33 hdX12_of ⟨Nat.le_trans (Nat.le_of_ble_eq_true rfl) hR.1, Nat.le_trans (Nat.le_of_ble_eq_true rfl) hR.2⟩ rfl hsz ⟨Nat.zero_le _, Nat.zero_le _⟩ (Nat.le_of_ble_eq_true rfl) dX12_hasAhead_14 rfl (fun H locs S => ?_)
    refine lv_icmp_ge (tgt := 81) hx hb dX12_hasAhead_17 (by decide) (fun c3 => ?_) (fun c3 => ?_)
    · have h := cnd_t c3 h
      refine lv_iload hx hb dX12_hasAhead_81 (lv_at hl 5 rfl) ?_
      obtain ⟨g4, h⟩ := grd_some h
      exact q_zret C S (isB_n g4) (rt_R h) dX12_hasAhead_83
    · have h := cnd_f c3 h
      refine lv_iload hx hb dX12_hasAhead_20 (lv_at hl 5 rfl) ?_
      refine lv_if_ne (tgt := 43) hx hb dX12_hasAhead_22 (by decide) (fun c5 => ?_) (fun c5 => ?_)
      · have h := cnd_f c5 h
        exact wX12_hasAhead_43 C hR u ih x1 x2 x3 x4 x6 (lv_sub hl [0, 1, 2, 3, 4, 6] rfl) S h
      · have h := cnd_t c5 h
        refine lv_iload hx hb dX12_hasAhead_25 (lv_at hl 4 rfl) ?_
        refine lv_if_eq (tgt := 47) hx hb dX12_hasAhead_27 (by decide) (fun c11 => ?_) (fun c11 => ?_)
        · have h := cnd_t c11 h
          exact wX12_hasAhead_47 C hR u ih x1 x2 x3 x4 x6 (lv_sub hl [0, 1, 2, 3, 4, 6] rfl) S h
        · have h := cnd_f c11 h
          refine lv_aload_n hx hb dX12_hasAhead_30 rfl (lv_at hl 0 rfl) ?_
          refine lv_iload_n hx hb dX12_hasAhead_31 rfl (lv_at hl 1 rfl) ?_
          refine lv_iconst (v := 5) hx hb dX12_hasAhead_32 (by decide) ?_
          refine lv_iload hx hb dX12_hasAhead_33 (lv_at hl 6 rfl) ?_
          refine lv_iadd hx hb dX12_hasAhead_35 ?_
          obtain ⟨r13, h12, h⟩ := obr_some h
          refine q_callVi (As := [.int x1, .int (5 + x6)]) (na := 2) C S (oM0 cI cB ad) rfl (ct_X12_of l D cI cB cL ad x1 (5 + x6) u h12) mw_35 mw_34 mw_36 mw_5 mw_33 hdX12_of ⟨Nat.le_trans (Nat.le_of_ble_eq_true rfl) hR.1, Nat.le_trans (Nat.le_of_ble_eq_true rfl) hR.2⟩ rfl hsz ⟨Nat.zero_le _, Nat.zero_le _⟩ (Nat.le_of_ble_eq_true rfl) dX12_hasAhead_36 rfl (fun H locs S => ?_)
          refine lv_iload_n hx hb dX12_hasAhead_39 rfl (lv_at hl 3 rfl) ?_
          refine lv_icmp_ne (tgt := 47) hx hb dX12_hasAhead_40 (by decide) (fun c14 => ?_) (fun c14 => ?_)
          · have h := cnd_f c14 h
            exact wX12_hasAhead_47 C hR u ih x1 x2 x3 x4 x6 (lv_sub hl [0, 1, 2, 3, 4, 6] rfl) S h
          · have h := cnd_t c14 h
            exact wX12_hasAhead_43 C hR u ih x1 x2 x3 x4 x6 (lv_sub hl [0, 1, 2, 3, 4, 6] rfl) S h
set_option maxRecDepth 10000 in
set_option maxHeartbeats 4000000 in
theorem wX12_hasAhead_0 (C : cx D (tyl cI cB cL) A RX12 cX12_hasAhead 7 (some .boolean) p s m args c meth) (hR : 2 ≤ R.frames ∧ 43 ≤ R.locals) {r : Int32} (u : Sg) (x1 : Int32) (x2 : Int32) (x3 : Int32) {H : Heap} {locs : List Loc} {ls : Array Slot} (hl : lv_has ls 7 [(0, .ref (ad 0)), (1, .int x1), (2, .int x2), (3, .int x3)]) (S : st D (wM cI cB ad) A s u H locs) (h : fX12_hasAhead_0 x1 x2 x3 u = some r) : W p l e R s m args below meth c H locs 0 0 (MQ below (qI D (tyl cI cB cL) (wM cI cB ad) A r u) args s 0 0 A) (F0 m 0 ls []) := by
  have hx := C.1
  have hb := C.2.1
  have hsz := hl.1
  unfold fX12_hasAhead_0 at h
  refine lv_iconst (v := 0) hx hb dX12_hasAhead_0 (by decide) ?_
  refine lv_istore (lv' := [(4, .int 0), (0, .ref (ad 0)), (1, .int x1), (2, .int x2), (3, .int x3)]) hx hb dX12_hasAhead_1 hl (by decide) rfl (fun ls hl => ?_)
  have hsz := hl.1
  refine lv_iconst (v := 0) hx hb dX12_hasAhead_3 (by decide) ?_
  refine lv_istore (lv' := [(5, .int 0), (4, .int 0), (0, .ref (ad 0)), (1, .int x1), (2, .int x2), (3, .int x3)]) hx hb dX12_hasAhead_4 hl (by decide) rfl (fun ls hl => ?_)
  have hsz := hl.1
  refine lv_iconst (v := 0) hx hb dX12_hasAhead_6 (by decide) ?_
  refine lv_istore (lv' := [(6, .int 0), (5, .int 0), (4, .int 0), (0, .ref (ad 0)), (1, .int x1), (2, .int x2), (3, .int x3)]) hx hb dX12_hasAhead_7 hl (by decide) rfl (fun ls hl => ?_)
  have hsz := hl.1
  exact wX12_hasAhead_9 C hR u FU x1 x2 x3 0 0 0 H locs ls (lv_sub hl [3, 4, 5, 6, 2, 1, 0] rfl) S h
set_option maxRecDepth 10000 in
set_option maxHeartbeats 4000000 in
theorem ct_X12_hasAhead (l : Launch) (D : va_G) (cI cB cL : ClassId) (ad : Nat → Nat) (x1 : Int32) (x2 : Int32) (x3 : Int32) (u : Sg) {r : Int32} (h : fX12_hasAhead x1 x2 x3 u = some r) : metI l D (tyl cI cB cL) yX12_hasAhead cX12_hasAhead 7 (some .boolean) 2 43 (wM cI cB ad) [.ref (ad 0), .int x1, .int x2, .int x3] u r u := by
  intro sz
  refine Met.ofW (cc := cX12_hasAhead) (maxL := 7) (ret := (some .boolean)) (by decide) rfl ?_
  intro p e s m args below meth c s₁ B hml hv
  obtain ⟨rfl, C, S⟩ := q_entry B hml hv
  have hl := lv_entry ([.ref (ad 0), .int x1, .int x2, .int x3]) (n := 7) (Nat.le_of_ble_eq_true rfl)
  rw [lg_entry_eq]
  generalize (lg_sl ([.ref (ad 0), .int x1, .int x2, .int x3]) ++ List.replicate (7 - (lg_sl ([.ref (ad 0), .int x1, .int x2, .int x3])).length) Slot.unset).toArray = ls at hl ⊢
  exact wX12_hasAhead_0 C ⟨Nat.le_refl _, Nat.le_refl _⟩ u x1 x2 x3 (lv_sub hl [0, 1, 2, 3] rfl) S h
noncomputable def fX12_laysAheads_131 (K83 : Int32 → Sg → Option Sg) (K93 : Int32 → Int32 → Sg → Option Sg) (x1 : Int32) (x2 : Int32) (t0 : Int32) (t1 : Int32) (t2 : Int32) (u : Sg) : Option Sg := grd (vp_in t2 20) (bnd (s2 u 9 ((t2 : Int32).toNatClampNeg) (t1 ||| t0)) (fun u15 => bnd (x2 + 1) (fun v16 => K93 x1 v16 u15)))
noncomputable def fX12_laysAheads_93 (K83 : Int32 → Sg → Option Sg) : Nat → Int32 → Int32 → Sg → Option Sg
  | 0, _, _, _ => none
  | n + 1, x1, x2, u => obr (fX12_messages u) (fun r8 => cnd (r8 ≤ x2) (bnd (x1 + 1) (fun v10 => K83 v10 u)) (grd (vp_in x2 20) (grd (vp_in x2 20) (cnd ((fX12_holds (u 9 ((x2 : Int32).toNatClampNeg)) x1) = 0) (fX12_laysAheads_131 K83 (fun a0 a1 w => fX12_laysAheads_93 K83 n a0 a1 w) x1 x2 0 (u 9 ((x2 : Int32).toNatClampNeg)) x2 u) (grd (vp_in x1 20) (fX12_laysAheads_131 K83 (fun a0 a1 w => fX12_laysAheads_93 K83 n a0 a1 w) x1 x2 (u 9 ((x1 : Int32).toNatClampNeg)) (u 9 ((x2 : Int32).toNatClampNeg)) x2 u))))))
noncomputable def fX12_laysAheads_83 : Nat → Int32 → Sg → Option Sg
  | 0, _, _ => none
  | n + 1, x1, u => obr (fX12_messages u) (fun r5 => cnd (r5 ≤ x1) (some u) (fX12_laysAheads_93 (fun a0 w => fX12_laysAheads_83 n a0 w) FU x1 0 u))
noncomputable def fX12_laysAheads_61 (K2 : Int32 → Sg → Option Sg) (K19 : Int32 → Int32 → Sg → Option Sg) (K29 : Int32 → Int32 → Int32 → Sg → Option Sg) (x1 : Int32) (x2 : Int32) (x3 : Int32) (t0 : Int32) (t1 : Int32) (t2 : Int32) (u : Sg) : Option Sg := grd (vp_in t2 20) (bnd (s2 u 9 ((t2 : Int32).toNatClampNeg) (t1 ||| t0)) (fun u33 => bnd (x3 + 1) (fun v34 => K29 x1 x2 v34 u33)))
noncomputable def fX12_laysAheads_29 (K2 : Int32 → Sg → Option Sg) (K19 : Int32 → Int32 → Sg → Option Sg) : Nat → Int32 → Int32 → Int32 → Sg → Option Sg
  | 0, _, _, _, _ => none
  | n + 1, x1, x2, x3, u => obr (fX12_nodes u) (fun r25 => cnd (r25 ≤ x3) (bnd (x2 + 1) (fun v27 => K19 x1 v27 u)) (grd (vp_in x1 20) (obr (fX12_hasAhead x3 x1 x2 u) (fun r30 => cnd (r30 = 0) (fX12_laysAheads_61 K2 K19 (fun a0 a1 a2 w => fX12_laysAheads_29 K2 K19 n a0 a1 a2 w) x1 x2 x3 0 (u 9 ((x1 : Int32).toNatClampNeg)) x1 u) (fX12_laysAheads_61 K2 K19 (fun a0 a1 a2 w => fX12_laysAheads_29 K2 K19 n a0 a1 a2 w) x1 x2 x3 ((1 : Int32) <<< ((x2 &&& 31 : Int32))) (u 9 ((x1 : Int32).toNatClampNeg)) x1 u)))))
noncomputable def fX12_laysAheads_19 (K2 : Int32 → Sg → Option Sg) : Nat → Int32 → Int32 → Sg → Option Sg
  | 0, _, _, _ => none
  | n + 1, x1, x2, u => obr (fX12_messages u) (fun r21 => cnd (r21 ≤ x2) (bnd (x1 + 1) (fun v23 => K2 v23 u)) (fX12_laysAheads_29 K2 (fun a0 a1 w => fX12_laysAheads_19 K2 n a0 a1 w) FU x1 x2 0 u))
noncomputable def fX12_laysAheads_2 : Nat → Int32 → Sg → Option Sg
  | 0, _, _ => none
  | n + 1, x1, u => obr (fX12_messages u) (fun r2 => cnd (r2 ≤ x1) (fX12_laysAheads_83 FU 0 u) (grd (vp_in x1 20) (bnd (s2 u 9 ((x1 : Int32).toNatClampNeg) 0) (fun u19 => fX12_laysAheads_19 (fun a0 w => fX12_laysAheads_2 n a0 w) FU x1 0 u19))))
noncomputable def fX12_laysAheads_0 (u : Sg) : Option Sg := fX12_laysAheads_2 FU 0 u
noncomputable def fX12_laysAheads (u : Sg) : Option Sg := fX12_laysAheads_0 u
set_option maxRecDepth 10000 in
set_option maxHeartbeats 4000000 in
theorem wX12_laysAheads_131 (C : cx D (tyl cI cB cL) A RX12 cX12_laysAheads 4 none p s m args c meth) (hR : 3 ≤ R.frames ∧ 69 ≤ R.locals) {σ' : Sg} (u : Sg) {K83 : Int32 → Sg → Option Sg} (hK83 : ∀ (y1 : Int32) (v : Sg) (H : Heap) (locs : List Loc) (ls : Array Slot), lv_has ls 4 [(0, .ref (ad 0)), (1, .int y1)] → st D (wM cI cB ad) A s v H locs → K83 y1 v = some σ' → W p l e R s m args below meth c H locs 0 0 (MQ below (qV D (tyl cI cB cL) (wM cI cB ad) A σ') args s 0 0 A) (F0 m 83 ls [])) {K93 : Int32 → Int32 → Sg → Option Sg} (hK93 : ∀ (y1 : Int32) (y2 : Int32) (v : Sg) (H : Heap) (locs : List Loc) (ls : Array Slot), lv_has ls 4 [(0, .ref (ad 0)), (1, .int y1), (2, .int y2)] → st D (wM cI cB ad) A s v H locs → K93 y1 y2 v = some σ' → W p l e R s m args below meth c H locs 0 0 (MQ below (qV D (tyl cI cB cL) (wM cI cB ad) A σ') args s 0 0 A) (F0 m 93 ls [])) (x1 : Int32) (x2 : Int32) (t0 : Int32) (t1 : Int32) (t2 : Int32) {H : Heap} {locs : List Loc} {ls : Array Slot} (hl : lv_has ls 4 [(0, .ref (ad 0)), (1, .int x1), (2, .int x2)]) (S : st D (wM cI cB ad) A s u H locs) (h : fX12_laysAheads_131 K83 K93 x1 x2 t0 t1 t2 u = some σ') : W p l e R s m args below meth c H locs 0 0 (MQ below (qV D (tyl cI cB cL) (wM cI cB ad) A σ') args s 0 0 A) (F0 m 131 ls [.int t0, .int t1, .int t2, .ref (ad 9)]) := by
  have hx := C.1
  have hb := C.2.1
  have hsz := hl.1
  unfold fX12_laysAheads_131 at h
  refine lv_ior hx hb dX12_laysAheads_131 ?_
  obtain ⟨g14, h⟩ := grd_some h
  obtain ⟨u15, eu15⟩ : ∃ z : Sg, z = s2 u 9 ((t2 : Int32).toNatClampNeg) (t1 ||| t0) := ⟨_, rfl⟩
  have h := bnd_of eu15 h
  refine q_iast C S (aM9 cI cB ad) 0 rfl g14 dX12_laysAheads_132 (j := (t2 : Int32).toNatClampNeg) rfl eu15 (fun H locs S => ?_)
  obtain ⟨v16, ev16⟩ : ∃ y : Int32, y = x2 + 1 := ⟨_, rfl⟩
  have h := bnd_of ev16 h
  refine lv_iinc (v := v16) (lv' := [(2, .int v16), (0, .ref (ad 0)), (1, .int x1)]) hx hb dX12_laysAheads_133 hl (k := 2) rfl (by rw [ev16]; rfl) (by decide) rfl (fun ls hl => ?_)
  have hsz := hl.1
  refine lv_goto (tgt := 93) hx hb dX12_laysAheads_136 (by decide) ?_
  exact hK93 x1 v16 u15 H locs ls (lv_sub hl [1, 2, 0] rfl) S h
set_option maxRecDepth 10000 in
set_option maxHeartbeats 4000000 in
theorem wX12_laysAheads_93 (C : cx D (tyl cI cB cL) A RX12 cX12_laysAheads 4 none p s m args c meth) (hR : 3 ≤ R.frames ∧ 69 ≤ R.locals) {σ' : Sg} {K83 : Int32 → Sg → Option Sg} (hK83 : ∀ (y1 : Int32) (v : Sg) (H : Heap) (locs : List Loc) (ls : Array Slot), lv_has ls 4 [(0, .ref (ad 0)), (1, .int y1)] → st D (wM cI cB ad) A s v H locs → K83 y1 v = some σ' → W p l e R s m args below meth c H locs 0 0 (MQ below (qV D (tyl cI cB cL) (wM cI cB ad) A σ') args s 0 0 A) (F0 m 83 ls [])) : ∀ (n : Nat) (x1 : Int32) (x2 : Int32) (u : Sg) (H : Heap) (locs : List Loc) (ls : Array Slot), lv_has ls 4 [(0, .ref (ad 0)), (1, .int x1), (2, .int x2)] → st D (wM cI cB ad) A s u H locs → fX12_laysAheads_93 K83 n x1 x2 u = some σ' → W p l e R s m args below meth c H locs 0 0 (MQ below (qV D (tyl cI cB cL) (wM cI cB ad) A σ') args s 0 0 A) (F0 m 93 ls []) := by
  have hx := C.1
  have hb := C.2.1
  intro n
  induction n with
  | zero =>
    intro x1 x2 u H locs ls hl S h
    cases h
  | succ n ih =>
    intro x1 x2 u H locs ls hl S h
    rw [fX12_laysAheads_93] at h
    have hsz := hl.1
    refine lv_iload_n hx hb dX12_laysAheads_93 rfl (lv_at hl 2 rfl) ?_
    refine lv_aload_n hx hb dX12_laysAheads_94 rfl (lv_at hl 0 rfl) ?_
    obtain ⟨r8, h7, h⟩ := obr_some h
    refine q_callVi (As := []) (na := 0) C S (oM0 cI cB ad) rfl (ct_X12_messages l D cI cB cL ad u h7) mw_31 mw_30 mw_32 mw_5 mw_29 hdX12_messages ⟨Nat.le_trans (Nat.le_of_ble_eq_true rfl) hR.1, Nat.le_trans (Nat.le_of_ble_eq_true rfl) hR.2⟩ rfl hsz ⟨Nat.zero_le _, Nat.zero_le _⟩ (Nat.le_of_ble_eq_true rfl) dX12_laysAheads_95 rfl (fun H locs S => ?_)
    refine lv_icmp_ge (tgt := 139) hx hb dX12_laysAheads_98 (by decide) (fun c9 => ?_) (fun c9 => ?_)
    · have h := cnd_t c9 h
      obtain ⟨v10, ev10⟩ : ∃ y : Int32, y = x1 + 1 := ⟨_, rfl⟩
      have h := bnd_of ev10 h
      refine lv_iinc (v := v10) (lv' := [(1, .int v10), (0, .ref (ad 0)), (2, .int x2)]) hx hb dX12_laysAheads_139 hl (k := 1) rfl (by rw [ev10]; rfl) (by decide) rfl (fun ls hl => ?_)
      have hsz := hl.1
      refine lv_goto (tgt := 83) hx hb dX12_laysAheads_142 (by decide) ?_
      exact hK83 v10 u H locs ls (lv_sub hl [1, 0] rfl) S h
    · have h := cnd_f c9 h
      refine lv_aload_n hx hb dX12_laysAheads_101 rfl (lv_at hl 0 rfl) ?_
      refine q_get (v := .ref (ad 9)) C S (oM0 cI cB ad) rfl iwX12 17 (by decide) mw_276 rfl dX12_laysAheads_102 ?_
      refine lv_iload_n hx hb dX12_laysAheads_105 rfl (lv_at hl 2 rfl) ?_
      refine lv_dup2_11 hx hb dX12_laysAheads_106 rfl rfl ?_
      obtain ⟨g11, h⟩ := grd_some h
      refine q_iald C S (aM9 cI cB ad) 0 rfl g11 dX12_laysAheads_107 (j := (x2 : Int32).toNatClampNeg) rfl ?_
      refine lv_aload_n hx hb dX12_laysAheads_108 rfl (lv_at hl 0 rfl) ?_
      refine q_get (v := .ref (ad 9)) C S (oM0 cI cB ad) rfl iwX12 17 (by decide) mw_276 rfl dX12_laysAheads_109 ?_
      refine lv_iload_n hx hb dX12_laysAheads_112 rfl (lv_at hl 2 rfl) ?_
      obtain ⟨g12, h⟩ := grd_some h
      refine q_iald C S (aM9 cI cB ad) 0 rfl g12 dX12_laysAheads_113 (j := (x2 : Int32).toNatClampNeg) rfl ?_
      refine lv_iload_n hx hb dX12_laysAheads_114 rfl (lv_at hl 1 rfl) ?_
      refine q_callP (As := [.int (u 9 ((x2 : Int32).toNatClampNeg)), .int x1]) (na := 2) C S (ct_X12_holds l D cI cB cL (u 9 ((x2 : Int32).toNatClampNeg)) x1) mw_47 mw_46 mw_5 mw_45 hdX12_holds ⟨Nat.le_trans (Nat.le_of_ble_eq_true rfl) hR.1, Nat.le_trans (Nat.le_of_ble_eq_true rfl) hR.2⟩ rfl hsz ⟨Nat.zero_le _, Nat.zero_le _⟩ (Nat.le_of_ble_eq_true rfl) dX12_laysAheads_115 rfl (fun H locs S => ?_)
      refine lv_if_eq (tgt := 130) hx hb dX12_laysAheads_118 (by decide) (fun c13 => ?_) (fun c13 => ?_)
      · have h := cnd_t c13 h
        refine lv_iconst (v := 0) hx hb dX12_laysAheads_130 (by decide) ?_
        exact wX12_laysAheads_131 C hR u hK83 ih x1 x2 0 (u 9 ((x2 : Int32).toNatClampNeg)) x2 (lv_sub hl [0, 1, 2] rfl) S h
      · have h := cnd_f c13 h
        refine lv_aload_n hx hb dX12_laysAheads_121 rfl (lv_at hl 0 rfl) ?_
        refine q_get (v := .ref (ad 9)) C S (oM0 cI cB ad) rfl iwX12 17 (by decide) mw_276 rfl dX12_laysAheads_122 ?_
        refine lv_iload_n hx hb dX12_laysAheads_125 rfl (lv_at hl 1 rfl) ?_
        obtain ⟨g17, h⟩ := grd_some h
        refine q_iald C S (aM9 cI cB ad) 0 rfl g17 dX12_laysAheads_126 (j := (x1 : Int32).toNatClampNeg) rfl ?_
        refine lv_goto (tgt := 131) hx hb dX12_laysAheads_127 (by decide) ?_
        exact wX12_laysAheads_131 C hR u hK83 ih x1 x2 (u 9 ((x1 : Int32).toNatClampNeg)) (u 9 ((x2 : Int32).toNatClampNeg)) x2 (lv_sub hl [0, 1, 2] rfl) S h
set_option maxRecDepth 10000 in
set_option maxHeartbeats 4000000 in
theorem wX12_laysAheads_83 (C : cx D (tyl cI cB cL) A RX12 cX12_laysAheads 4 none p s m args c meth) (hR : 3 ≤ R.frames ∧ 69 ≤ R.locals) {σ' : Sg} : ∀ (n : Nat) (x1 : Int32) (u : Sg) (H : Heap) (locs : List Loc) (ls : Array Slot), lv_has ls 4 [(0, .ref (ad 0)), (1, .int x1)] → st D (wM cI cB ad) A s u H locs → fX12_laysAheads_83 n x1 u = some σ' → W p l e R s m args below meth c H locs 0 0 (MQ below (qV D (tyl cI cB cL) (wM cI cB ad) A σ') args s 0 0 A) (F0 m 83 ls []) := by
  have hx := C.1
  have hb := C.2.1
  intro n
  induction n with
  | zero =>
    intro x1 u H locs ls hl S h
    cases h
  | succ n ih =>
    intro x1 u H locs ls hl S h
    rw [fX12_laysAheads_83] at h
    have hsz := hl.1
    refine lv_iload_n hx hb dX12_laysAheads_83 rfl (lv_at hl 1 rfl) ?_
    refine lv_aload_n hx hb dX12_laysAheads_84 rfl (lv_at hl 0 rfl) ?_
    obtain ⟨r5, h4, h⟩ := obr_some h
    refine q_callVi (As := []) (na := 0) C S (oM0 cI cB ad) rfl (ct_X12_messages l D cI cB cL ad u h4) mw_31 mw_30 mw_32 mw_5 mw_29 hdX12_messages ⟨Nat.le_trans (Nat.le_of_ble_eq_true rfl) hR.1, Nat.le_trans (Nat.le_of_ble_eq_true rfl) hR.2⟩ rfl hsz ⟨Nat.zero_le _, Nat.zero_le _⟩ (Nat.le_of_ble_eq_true rfl) dX12_laysAheads_85 rfl (fun H locs S => ?_)
    refine lv_icmp_ge (tgt := 145) hx hb dX12_laysAheads_88 (by decide) (fun c6 => ?_) (fun c6 => ?_)
    · have h := cnd_t c6 h
      exact q_vret C S (Option.some.inj h) dX12_laysAheads_145
    · have h := cnd_f c6 h
      refine lv_iconst (v := 0) hx hb dX12_laysAheads_91 (by decide) ?_
      refine lv_istore_n (lv' := [(2, .int 0), (0, .ref (ad 0)), (1, .int x1)]) hx hb dX12_laysAheads_92 rfl hl (by decide) rfl (fun ls hl => ?_)
      have hsz := hl.1
      exact wX12_laysAheads_93 C hR ih FU x1 0 u H locs ls (lv_sub hl [1, 2, 0] rfl) S h
set_option maxRecDepth 10000 in
set_option maxHeartbeats 4000000 in
theorem wX12_laysAheads_61 (C : cx D (tyl cI cB cL) A RX12 cX12_laysAheads 4 none p s m args c meth) (hR : 3 ≤ R.frames ∧ 69 ≤ R.locals) {σ' : Sg} (u : Sg) {K2 : Int32 → Sg → Option Sg} (hK2 : ∀ (y1 : Int32) (v : Sg) (H : Heap) (locs : List Loc) (ls : Array Slot), lv_has ls 4 [(0, .ref (ad 0)), (1, .int y1)] → st D (wM cI cB ad) A s v H locs → K2 y1 v = some σ' → W p l e R s m args below meth c H locs 0 0 (MQ below (qV D (tyl cI cB cL) (wM cI cB ad) A σ') args s 0 0 A) (F0 m 2 ls [])) {K19 : Int32 → Int32 → Sg → Option Sg} (hK19 : ∀ (y1 : Int32) (y2 : Int32) (v : Sg) (H : Heap) (locs : List Loc) (ls : Array Slot), lv_has ls 4 [(0, .ref (ad 0)), (1, .int y1), (2, .int y2)] → st D (wM cI cB ad) A s v H locs → K19 y1 y2 v = some σ' → W p l e R s m args below meth c H locs 0 0 (MQ below (qV D (tyl cI cB cL) (wM cI cB ad) A σ') args s 0 0 A) (F0 m 19 ls [])) {K29 : Int32 → Int32 → Int32 → Sg → Option Sg} (hK29 : ∀ (y1 : Int32) (y2 : Int32) (y3 : Int32) (v : Sg) (H : Heap) (locs : List Loc) (ls : Array Slot), lv_has ls 4 [(0, .ref (ad 0)), (1, .int y1), (2, .int y2), (3, .int y3)] → st D (wM cI cB ad) A s v H locs → K29 y1 y2 y3 v = some σ' → W p l e R s m args below meth c H locs 0 0 (MQ below (qV D (tyl cI cB cL) (wM cI cB ad) A σ') args s 0 0 A) (F0 m 29 ls [])) (x1 : Int32) (x2 : Int32) (x3 : Int32) (t0 : Int32) (t1 : Int32) (t2 : Int32) {H : Heap} {locs : List Loc} {ls : Array Slot} (hl : lv_has ls 4 [(0, .ref (ad 0)), (1, .int x1), (2, .int x2), (3, .int x3)]) (S : st D (wM cI cB ad) A s u H locs) (h : fX12_laysAheads_61 K2 K19 K29 x1 x2 x3 t0 t1 t2 u = some σ') : W p l e R s m args below meth c H locs 0 0 (MQ below (qV D (tyl cI cB cL) (wM cI cB ad) A σ') args s 0 0 A) (F0 m 61 ls [.int t0, .int t1, .int t2, .ref (ad 9)]) := by
  have hx := C.1
  have hb := C.2.1
  have hsz := hl.1
  unfold fX12_laysAheads_61 at h
  refine lv_ior hx hb dX12_laysAheads_61 ?_
  obtain ⟨g32, h⟩ := grd_some h
  obtain ⟨u33, eu33⟩ : ∃ z : Sg, z = s2 u 9 ((t2 : Int32).toNatClampNeg) (t1 ||| t0) := ⟨_, rfl⟩
  have h := bnd_of eu33 h
  refine q_iast C S (aM9 cI cB ad) 0 rfl g32 dX12_laysAheads_62 (j := (t2 : Int32).toNatClampNeg) rfl eu33 (fun H locs S => ?_)
  obtain ⟨v34, ev34⟩ : ∃ y : Int32, y = x3 + 1 := ⟨_, rfl⟩
  have h := bnd_of ev34 h
  refine lv_iinc (v := v34) (lv' := [(3, .int v34), (0, .ref (ad 0)), (1, .int x1), (2, .int x2)]) hx hb dX12_laysAheads_63 hl (k := 3) rfl (by rw [ev34]; rfl) (by decide) rfl (fun ls hl => ?_)
  have hsz := hl.1
  refine lv_goto (tgt := 29) hx hb dX12_laysAheads_66 (by decide) ?_
  exact hK29 x1 x2 v34 u33 H locs ls (lv_sub hl [1, 2, 3, 0] rfl) S h
set_option maxRecDepth 10000 in
set_option maxHeartbeats 4000000 in
theorem wX12_laysAheads_29 (C : cx D (tyl cI cB cL) A RX12 cX12_laysAheads 4 none p s m args c meth) (hR : 3 ≤ R.frames ∧ 69 ≤ R.locals) {σ' : Sg} {K2 : Int32 → Sg → Option Sg} (hK2 : ∀ (y1 : Int32) (v : Sg) (H : Heap) (locs : List Loc) (ls : Array Slot), lv_has ls 4 [(0, .ref (ad 0)), (1, .int y1)] → st D (wM cI cB ad) A s v H locs → K2 y1 v = some σ' → W p l e R s m args below meth c H locs 0 0 (MQ below (qV D (tyl cI cB cL) (wM cI cB ad) A σ') args s 0 0 A) (F0 m 2 ls [])) {K19 : Int32 → Int32 → Sg → Option Sg} (hK19 : ∀ (y1 : Int32) (y2 : Int32) (v : Sg) (H : Heap) (locs : List Loc) (ls : Array Slot), lv_has ls 4 [(0, .ref (ad 0)), (1, .int y1), (2, .int y2)] → st D (wM cI cB ad) A s v H locs → K19 y1 y2 v = some σ' → W p l e R s m args below meth c H locs 0 0 (MQ below (qV D (tyl cI cB cL) (wM cI cB ad) A σ') args s 0 0 A) (F0 m 19 ls [])) : ∀ (n : Nat) (x1 : Int32) (x2 : Int32) (x3 : Int32) (u : Sg) (H : Heap) (locs : List Loc) (ls : Array Slot), lv_has ls 4 [(0, .ref (ad 0)), (1, .int x1), (2, .int x2), (3, .int x3)] → st D (wM cI cB ad) A s u H locs → fX12_laysAheads_29 K2 K19 n x1 x2 x3 u = some σ' → W p l e R s m args below meth c H locs 0 0 (MQ below (qV D (tyl cI cB cL) (wM cI cB ad) A σ') args s 0 0 A) (F0 m 29 ls []) := by
  have hx := C.1
  have hb := C.2.1
  intro n
  induction n with
  | zero =>
    intro x1 x2 x3 u H locs ls hl S h
    cases h
  | succ n ih =>
    intro x1 x2 x3 u H locs ls hl S h
    rw [fX12_laysAheads_29] at h
    have hsz := hl.1
    refine lv_iload_n hx hb dX12_laysAheads_29 rfl (lv_at hl 3 rfl) ?_
    refine lv_aload_n hx hb dX12_laysAheads_30 rfl (lv_at hl 0 rfl) ?_
    obtain ⟨r25, h24, h⟩ := obr_some h
    refine q_callVi (As := []) (na := 0) C S (oM0 cI cB ad) rfl (ct_X12_nodes l D cI cB cL ad u h24) mw_24 mw_23 mw_25 mw_5 mw_22 hdX12_nodes ⟨Nat.le_trans (Nat.le_of_ble_eq_true rfl) hR.1, Nat.le_trans (Nat.le_of_ble_eq_true rfl) hR.2⟩ rfl hsz ⟨Nat.zero_le _, Nat.zero_le _⟩ (Nat.le_of_ble_eq_true rfl) dX12_laysAheads_31 rfl (fun H locs S => ?_)
    refine lv_icmp_ge (tgt := 69) hx hb dX12_laysAheads_34 (by decide) (fun c26 => ?_) (fun c26 => ?_)
    · have h := cnd_t c26 h
      obtain ⟨v27, ev27⟩ : ∃ y : Int32, y = x2 + 1 := ⟨_, rfl⟩
      have h := bnd_of ev27 h
      refine lv_iinc (v := v27) (lv' := [(2, .int v27), (0, .ref (ad 0)), (1, .int x1), (3, .int x3)]) hx hb dX12_laysAheads_69 hl (k := 2) rfl (by rw [ev27]; rfl) (by decide) rfl (fun ls hl => ?_)
      have hsz := hl.1
      refine lv_goto (tgt := 19) hx hb dX12_laysAheads_72 (by decide) ?_
      exact hK19 x1 v27 u H locs ls (lv_sub hl [1, 2, 0] rfl) S h
    · have h := cnd_f c26 h
      refine lv_aload_n hx hb dX12_laysAheads_37 rfl (lv_at hl 0 rfl) ?_
      refine q_get (v := .ref (ad 9)) C S (oM0 cI cB ad) rfl iwX12 17 (by decide) mw_276 rfl dX12_laysAheads_38 ?_
      refine lv_iload_n hx hb dX12_laysAheads_41 rfl (lv_at hl 1 rfl) ?_
      refine lv_dup2_11 hx hb dX12_laysAheads_42 rfl rfl ?_
      obtain ⟨g28, h⟩ := grd_some h
      refine q_iald C S (aM9 cI cB ad) 0 rfl g28 dX12_laysAheads_43 (j := (x1 : Int32).toNatClampNeg) rfl ?_
      refine lv_aload_n hx hb dX12_laysAheads_44 rfl (lv_at hl 0 rfl) ?_
      refine lv_iload_n hx hb dX12_laysAheads_45 rfl (lv_at hl 3 rfl) ?_
      refine lv_iload_n hx hb dX12_laysAheads_46 rfl (lv_at hl 1 rfl) ?_
      refine lv_iload_n hx hb dX12_laysAheads_47 rfl (lv_at hl 2 rfl) ?_
      obtain ⟨r30, h29, h⟩ := obr_some h
      refine q_callVi (As := [.int x3, .int x1, .int x2]) (na := 3) C S (oM0 cI cB ad) rfl (ct_X12_hasAhead l D cI cB cL ad x3 x1 x2 u h29) mw_279 mw_278 mw_280 mw_5 mw_277 hdX12_hasAhead ⟨Nat.le_trans (Nat.le_of_ble_eq_true rfl) hR.1, Nat.le_trans (Nat.le_of_ble_eq_true rfl) hR.2⟩ rfl hsz ⟨Nat.zero_le _, Nat.zero_le _⟩ (Nat.le_of_ble_eq_true rfl) dX12_laysAheads_48 rfl (fun H locs S => ?_)
      refine lv_if_eq (tgt := 60) hx hb dX12_laysAheads_51 (by decide) (fun c31 => ?_) (fun c31 => ?_)
      · have h := cnd_t c31 h
        refine lv_iconst (v := 0) hx hb dX12_laysAheads_60 (by decide) ?_
        exact wX12_laysAheads_61 C hR u hK2 hK19 ih x1 x2 x3 0 (u 9 ((x1 : Int32).toNatClampNeg)) x1 (lv_sub hl [0, 1, 2, 3] rfl) S h
      · have h := cnd_f c31 h
        refine lv_iconst (v := 1) hx hb dX12_laysAheads_54 (by decide) ?_
        refine lv_iload_n hx hb dX12_laysAheads_55 rfl (lv_at hl 2 rfl) ?_
        refine lv_ishl hx hb dX12_laysAheads_56 ?_
        refine lv_goto (tgt := 61) hx hb dX12_laysAheads_57 (by decide) ?_
        exact wX12_laysAheads_61 C hR u hK2 hK19 ih x1 x2 x3 ((1 : Int32) <<< ((x2 &&& 31 : Int32))) (u 9 ((x1 : Int32).toNatClampNeg)) x1 (lv_sub hl [0, 1, 2, 3] rfl) S h
set_option maxRecDepth 10000 in
set_option maxHeartbeats 4000000 in
theorem wX12_laysAheads_19 (C : cx D (tyl cI cB cL) A RX12 cX12_laysAheads 4 none p s m args c meth) (hR : 3 ≤ R.frames ∧ 69 ≤ R.locals) {σ' : Sg} {K2 : Int32 → Sg → Option Sg} (hK2 : ∀ (y1 : Int32) (v : Sg) (H : Heap) (locs : List Loc) (ls : Array Slot), lv_has ls 4 [(0, .ref (ad 0)), (1, .int y1)] → st D (wM cI cB ad) A s v H locs → K2 y1 v = some σ' → W p l e R s m args below meth c H locs 0 0 (MQ below (qV D (tyl cI cB cL) (wM cI cB ad) A σ') args s 0 0 A) (F0 m 2 ls [])) : ∀ (n : Nat) (x1 : Int32) (x2 : Int32) (u : Sg) (H : Heap) (locs : List Loc) (ls : Array Slot), lv_has ls 4 [(0, .ref (ad 0)), (1, .int x1), (2, .int x2)] → st D (wM cI cB ad) A s u H locs → fX12_laysAheads_19 K2 n x1 x2 u = some σ' → W p l e R s m args below meth c H locs 0 0 (MQ below (qV D (tyl cI cB cL) (wM cI cB ad) A σ') args s 0 0 A) (F0 m 19 ls []) := by
  have hx := C.1
  have hb := C.2.1
  intro n
  induction n with
  | zero =>
    intro x1 x2 u H locs ls hl S h
    cases h
  | succ n ih =>
    intro x1 x2 u H locs ls hl S h
    rw [fX12_laysAheads_19] at h
    have hsz := hl.1
    refine lv_iload_n hx hb dX12_laysAheads_19 rfl (lv_at hl 2 rfl) ?_
    refine lv_aload_n hx hb dX12_laysAheads_20 rfl (lv_at hl 0 rfl) ?_
    obtain ⟨r21, h20, h⟩ := obr_some h
    refine q_callVi (As := []) (na := 0) C S (oM0 cI cB ad) rfl (ct_X12_messages l D cI cB cL ad u h20) mw_31 mw_30 mw_32 mw_5 mw_29 hdX12_messages ⟨Nat.le_trans (Nat.le_of_ble_eq_true rfl) hR.1, Nat.le_trans (Nat.le_of_ble_eq_true rfl) hR.2⟩ rfl hsz ⟨Nat.zero_le _, Nat.zero_le _⟩ (Nat.le_of_ble_eq_true rfl) dX12_laysAheads_21 rfl (fun H locs S => ?_)
    refine lv_icmp_ge (tgt := 75) hx hb dX12_laysAheads_24 (by decide) (fun c22 => ?_) (fun c22 => ?_)
    · have h := cnd_t c22 h
      obtain ⟨v23, ev23⟩ : ∃ y : Int32, y = x1 + 1 := ⟨_, rfl⟩
      have h := bnd_of ev23 h
      refine lv_iinc (v := v23) (lv' := [(1, .int v23), (0, .ref (ad 0)), (2, .int x2)]) hx hb dX12_laysAheads_75 hl (k := 1) rfl (by rw [ev23]; rfl) (by decide) rfl (fun ls hl => ?_)
      have hsz := hl.1
      refine lv_goto (tgt := 2) hx hb dX12_laysAheads_78 (by decide) ?_
      exact hK2 v23 u H locs ls (lv_sub hl [1, 0] rfl) S h
    · have h := cnd_f c22 h
      refine lv_iconst (v := 0) hx hb dX12_laysAheads_27 (by decide) ?_
      refine lv_istore_n (lv' := [(3, .int 0), (0, .ref (ad 0)), (1, .int x1), (2, .int x2)]) hx hb dX12_laysAheads_28 rfl hl (by decide) rfl (fun ls hl => ?_)
      have hsz := hl.1
      exact wX12_laysAheads_29 C hR hK2 ih FU x1 x2 0 u H locs ls (lv_sub hl [1, 2, 3, 0] rfl) S h
set_option maxRecDepth 10000 in
set_option maxHeartbeats 4000000 in
theorem wX12_laysAheads_2 (C : cx D (tyl cI cB cL) A RX12 cX12_laysAheads 4 none p s m args c meth) (hR : 3 ≤ R.frames ∧ 69 ≤ R.locals) {σ' : Sg} : ∀ (n : Nat) (x1 : Int32) (u : Sg) (H : Heap) (locs : List Loc) (ls : Array Slot), lv_has ls 4 [(0, .ref (ad 0)), (1, .int x1)] → st D (wM cI cB ad) A s u H locs → fX12_laysAheads_2 n x1 u = some σ' → W p l e R s m args below meth c H locs 0 0 (MQ below (qV D (tyl cI cB cL) (wM cI cB ad) A σ') args s 0 0 A) (F0 m 2 ls []) := by
  have hx := C.1
  have hb := C.2.1
  intro n
  induction n with
  | zero =>
    intro x1 u H locs ls hl S h
    cases h
  | succ n ih =>
    intro x1 u H locs ls hl S h
    rw [fX12_laysAheads_2] at h
    have hsz := hl.1
    refine lv_iload_n hx hb dX12_laysAheads_2 rfl (lv_at hl 1 rfl) ?_
    refine lv_aload_n hx hb dX12_laysAheads_3 rfl (lv_at hl 0 rfl) ?_
    obtain ⟨r2, h1, h⟩ := obr_some h
    refine q_callVi (As := []) (na := 0) C S (oM0 cI cB ad) rfl (ct_X12_messages l D cI cB cL ad u h1) mw_31 mw_30 mw_32 mw_5 mw_29 hdX12_messages ⟨Nat.le_trans (Nat.le_of_ble_eq_true rfl) hR.1, Nat.le_trans (Nat.le_of_ble_eq_true rfl) hR.2⟩ rfl hsz ⟨Nat.zero_le _, Nat.zero_le _⟩ (Nat.le_of_ble_eq_true rfl) dX12_laysAheads_4 rfl (fun H locs S => ?_)
    refine lv_icmp_ge (tgt := 81) hx hb dX12_laysAheads_7 (by decide) (fun c3 => ?_) (fun c3 => ?_)
    · have h := cnd_t c3 h
      refine lv_iconst (v := 0) hx hb dX12_laysAheads_81 (by decide) ?_
      refine lv_istore_n (lv' := [(1, .int 0), (0, .ref (ad 0))]) hx hb dX12_laysAheads_82 rfl hl (by decide) rfl (fun ls hl => ?_)
      have hsz := hl.1
      exact wX12_laysAheads_83 C hR FU 0 u H locs ls (lv_sub hl [1, 0] rfl) S h
    · have h := cnd_f c3 h
      refine lv_aload_n hx hb dX12_laysAheads_10 rfl (lv_at hl 0 rfl) ?_
      refine q_get (v := .ref (ad 9)) C S (oM0 cI cB ad) rfl iwX12 17 (by decide) mw_276 rfl dX12_laysAheads_11 ?_
      refine lv_iload_n hx hb dX12_laysAheads_14 rfl (lv_at hl 1 rfl) ?_
      refine lv_iconst (v := 0) hx hb dX12_laysAheads_15 (by decide) ?_
      obtain ⟨g18, h⟩ := grd_some h
      obtain ⟨u19, eu19⟩ : ∃ z : Sg, z = s2 u 9 ((x1 : Int32).toNatClampNeg) 0 := ⟨_, rfl⟩
      have h := bnd_of eu19 h
      refine q_iast C S (aM9 cI cB ad) 0 rfl g18 dX12_laysAheads_16 (j := (x1 : Int32).toNatClampNeg) rfl eu19 (fun H locs S => ?_)
      refine lv_iconst (v := 0) hx hb dX12_laysAheads_17 (by decide) ?_
      refine lv_istore_n (lv' := [(2, .int 0), (0, .ref (ad 0)), (1, .int x1)]) hx hb dX12_laysAheads_18 rfl hl (by decide) rfl (fun ls hl => ?_)
      have hsz := hl.1
      exact wX12_laysAheads_19 C hR ih FU x1 0 u19 H locs ls (lv_sub hl [1, 2, 0] rfl) S h
set_option maxRecDepth 10000 in
set_option maxHeartbeats 4000000 in
theorem wX12_laysAheads_0 (C : cx D (tyl cI cB cL) A RX12 cX12_laysAheads 4 none p s m args c meth) (hR : 3 ≤ R.frames ∧ 69 ≤ R.locals) {σ' : Sg} (u : Sg) {H : Heap} {locs : List Loc} {ls : Array Slot} (hl : lv_has ls 4 [(0, .ref (ad 0))]) (S : st D (wM cI cB ad) A s u H locs) (h : fX12_laysAheads_0 u = some σ') : W p l e R s m args below meth c H locs 0 0 (MQ below (qV D (tyl cI cB cL) (wM cI cB ad) A σ') args s 0 0 A) (F0 m 0 ls []) := by
  have hx := C.1
  have hb := C.2.1
  have hsz := hl.1
  unfold fX12_laysAheads_0 at h
  refine lv_iconst (v := 0) hx hb dX12_laysAheads_0 (by decide) ?_
  refine lv_istore_n (lv' := [(1, .int 0), (0, .ref (ad 0))]) hx hb dX12_laysAheads_1 rfl hl (by decide) rfl (fun ls hl => ?_)
  have hsz := hl.1
  exact wX12_laysAheads_2 C hR FU 0 u H locs ls (lv_sub hl [1, 0] rfl) S h
set_option maxRecDepth 10000 in
set_option maxHeartbeats 4000000 in
theorem ct_X12_laysAheads (l : Launch) (D : va_G) (cI cB cL : ClassId) (ad : Nat → Nat) (u : Sg) {σ' : Sg} (h : fX12_laysAheads u = some σ') : metV l D (tyl cI cB cL) yX12_laysAheads cX12_laysAheads 4 3 69 (wM cI cB ad) [.ref (ad 0)] u σ' := by
  intro sz
  refine Met.ofW (cc := cX12_laysAheads) (maxL := 4) (ret := none) (by decide) rfl ?_
  intro p e s m args below meth c s₁ B hml hv
  obtain ⟨rfl, C, S⟩ := q_entry B hml hv
  have hl := lv_entry ([.ref (ad 0)]) (n := 4) (Nat.le_of_ble_eq_true rfl)
  rw [lg_entry_eq]
  generalize (lg_sl ([.ref (ad 0)]) ++ List.replicate (4 - (lg_sl ([.ref (ad 0)])).length) Slot.unset).toArray = ls at hl ⊢
  exact wX12_laysAheads_0 C ⟨Nat.le_refl _, Nat.le_refl _⟩ u (lv_sub hl [0] rfl) S h
noncomputable def fX12_ahead_45 (x1 : Int32) (x2 : Int32) (t0 : Int32) (u : Sg) : Option (Int32 × Sg) := obd (fX12_throwsIf t0 2 u) (fun r11 u12 => cnd (r11 = 0) (obr (fX12_laysAheads u12) (fun u15 => grd (vp_in x1 20) (grd (isB (fX12_holds (u15 9 ((x1 : Int32).toNatClampNeg)) x2)) (some ((fX12_holds (u15 9 ((x1 : Int32).toNatClampNeg)) x2), u15))))) (some (0, u12)))
noncomputable def fX12_ahead_27 (x1 : Int32) (x2 : Int32) (t0 : Int32) (u : Sg) : Option (Int32 × Sg) := obd (fX12_throwsIf t0 1 u) (fun r6 u7 => cnd (r6 = 0) (cnd (x1 = x2) (fX12_ahead_45 x1 x2 1 u7) (fX12_ahead_45 x1 x2 0 u7)) (some (0, u7)))
noncomputable def fX12_ahead_22 (x1 : Int32) (x2 : Int32) (u : Sg) : Option (Int32 × Sg) := fX12_ahead_27 x1 x2 1 u
noncomputable def fX12_ahead_0 (x1 : Int32) (x2 : Int32) (u : Sg) : Option (Int32 × Sg) := bnd (s2 u 0 0 0) (fun u1 => obr (fX12_noMessage x1 u1) (fun r3 => cnd (r3 = 0) (obr (fX12_noMessage x2 u1) (fun r19 => cnd (r19 = 0) (fX12_ahead_27 x1 x2 0 u1) (fX12_ahead_22 x1 x2 u1))) (fX12_ahead_22 x1 x2 u1)))
noncomputable def fX12_ahead (x1 : Int32) (x2 : Int32) (u : Sg) : Option (Int32 × Sg) := fX12_ahead_0 x1 x2 u
set_option maxRecDepth 10000 in
set_option maxHeartbeats 4000000 in
theorem wX12_ahead_45 (C : cx D (tyl cI cB cL) A RX12 cX12_ahead 3 (some .boolean) p s m args c meth) (hR : 4 ≤ R.frames ∧ 92 ≤ R.locals) {r : Int32} {σ' : Sg} (u : Sg) (x1 : Int32) (x2 : Int32) (t0 : Int32) {H : Heap} {locs : List Loc} {ls : Array Slot} (hl : lv_has ls 3 [(0, .ref (ad 0)), (1, .int x1), (2, .int x2)]) (S : st D (wM cI cB ad) A s u H locs) (h : fX12_ahead_45 x1 x2 t0 u = some (r, σ')) : W p l e R s m args below meth c H locs 0 0 (MQ below (qI D (tyl cI cB cL) (wM cI cB ad) A r σ') args s 0 0 A) (F0 m 45 ls [.int t0, .ref (ad 0)]) := by
  have hx := C.1
  have hb := C.2.1
  have hsz := hl.1
  unfold fX12_ahead_45 at h
  refine lv_iconst (v := 2) hx hb dX12_ahead_45 (by decide) ?_
  obtain ⟨r11, u12, h10, h⟩ := obd_some h
  refine q_callVi (As := [.int t0, .int 2]) (na := 2) C S (oM0 cI cB ad) rfl (ct_X12_throwsIf l D cI cB cL ad t0 2 u h10) mw_210 mw_209 mw_211 mw_5 mw_208 hdX12_throwsIf ⟨Nat.le_trans (Nat.le_of_ble_eq_true rfl) hR.1, Nat.le_trans (Nat.le_of_ble_eq_true rfl) hR.2⟩ rfl hsz ⟨Nat.zero_le _, Nat.zero_le _⟩ (Nat.le_of_ble_eq_true rfl) dX12_ahead_46 rfl (fun H locs S => ?_)
  refine lv_if_eq (tgt := 54) hx hb dX12_ahead_49 (by decide) (fun c13 => ?_) (fun c13 => ?_)
  · have h := cnd_t c13 h
    refine lv_aload_n hx hb dX12_ahead_54 rfl (lv_at hl 0 rfl) ?_
    obtain ⟨u15, h14, h⟩ := obr_some h
    refine q_callVv (As := []) (na := 0) C S (oM0 cI cB ad) rfl (ct_X12_laysAheads l D cI cB cL ad u12 h14) mw_283 mw_282 mw_284 mw_5 mw_281 hdX12_laysAheads ⟨Nat.le_trans (Nat.le_of_ble_eq_true rfl) hR.1, Nat.le_trans (Nat.le_of_ble_eq_true rfl) hR.2⟩ rfl hsz ⟨Nat.zero_le _, Nat.zero_le _⟩ (Nat.le_of_ble_eq_true rfl) dX12_ahead_55 rfl (fun H locs S => ?_)
    refine lv_aload_n hx hb dX12_ahead_58 rfl (lv_at hl 0 rfl) ?_
    refine q_get (v := .ref (ad 9)) C S (oM0 cI cB ad) rfl iwX12 17 (by decide) mw_276 rfl dX12_ahead_59 ?_
    refine lv_iload_n hx hb dX12_ahead_62 rfl (lv_at hl 1 rfl) ?_
    obtain ⟨g16, h⟩ := grd_some h
    refine q_iald C S (aM9 cI cB ad) 0 rfl g16 dX12_ahead_63 (j := (x1 : Int32).toNatClampNeg) rfl ?_
    refine lv_iload_n hx hb dX12_ahead_64 rfl (lv_at hl 2 rfl) ?_
    refine q_callP (As := [.int (u15 9 ((x1 : Int32).toNatClampNeg)), .int x2]) (na := 2) C S (ct_X12_holds l D cI cB cL (u15 9 ((x1 : Int32).toNatClampNeg)) x2) mw_47 mw_46 mw_5 mw_45 hdX12_holds ⟨Nat.le_trans (Nat.le_of_ble_eq_true rfl) hR.1, Nat.le_trans (Nat.le_of_ble_eq_true rfl) hR.2⟩ rfl hsz ⟨Nat.zero_le _, Nat.zero_le _⟩ (Nat.le_of_ble_eq_true rfl) dX12_ahead_65 rfl (fun H locs S => ?_)
    obtain ⟨g17, h⟩ := grd_some h
    exact q_zret C S (isB_n g17) (rt_S h) dX12_ahead_68
  · have h := cnd_f c13 h
    refine lv_iconst (v := 0) hx hb dX12_ahead_52 (by decide) ?_
    exact q_zret C S rfl (rt_S h) dX12_ahead_53
set_option maxRecDepth 10000 in
set_option maxHeartbeats 4000000 in
theorem wX12_ahead_27 (C : cx D (tyl cI cB cL) A RX12 cX12_ahead 3 (some .boolean) p s m args c meth) (hR : 4 ≤ R.frames ∧ 92 ≤ R.locals) {r : Int32} {σ' : Sg} (u : Sg) (x1 : Int32) (x2 : Int32) (t0 : Int32) {H : Heap} {locs : List Loc} {ls : Array Slot} (hl : lv_has ls 3 [(0, .ref (ad 0)), (1, .int x1), (2, .int x2)]) (S : st D (wM cI cB ad) A s u H locs) (h : fX12_ahead_27 x1 x2 t0 u = some (r, σ')) : W p l e R s m args below meth c H locs 0 0 (MQ below (qI D (tyl cI cB cL) (wM cI cB ad) A r σ') args s 0 0 A) (F0 m 27 ls [.int t0, .ref (ad 0)]) := by
  have hx := C.1
  have hb := C.2.1
  have hsz := hl.1
  unfold fX12_ahead_27 at h
  refine lv_iconst (v := 1) hx hb dX12_ahead_27 (by decide) ?_
  obtain ⟨r6, u7, h5, h⟩ := obd_some h
  refine q_callVi (As := [.int t0, .int 1]) (na := 2) C S (oM0 cI cB ad) rfl (ct_X12_throwsIf l D cI cB cL ad t0 1 u h5) mw_210 mw_209 mw_211 mw_5 mw_208 hdX12_throwsIf ⟨Nat.le_trans (Nat.le_of_ble_eq_true rfl) hR.1, Nat.le_trans (Nat.le_of_ble_eq_true rfl) hR.2⟩ rfl hsz ⟨Nat.zero_le _, Nat.zero_le _⟩ (Nat.le_of_ble_eq_true rfl) dX12_ahead_28 rfl (fun H locs S => ?_)
  refine lv_if_ne (tgt := 52) hx hb dX12_ahead_31 (by decide) (fun c8 => ?_) (fun c8 => ?_)
  · have h := cnd_f c8 h
    refine lv_iconst (v := 0) hx hb dX12_ahead_52 (by decide) ?_
    exact q_zret C S rfl (rt_S h) dX12_ahead_53
  · have h := cnd_t c8 h
    refine lv_aload_n hx hb dX12_ahead_34 rfl (lv_at hl 0 rfl) ?_
    refine lv_iload_n hx hb dX12_ahead_35 rfl (lv_at hl 1 rfl) ?_
    refine lv_iload_n hx hb dX12_ahead_36 rfl (lv_at hl 2 rfl) ?_
    refine lv_icmp_ne (tgt := 44) hx hb dX12_ahead_37 (by decide) (fun c9 => ?_) (fun c9 => ?_)
    · have h := cnd_f c9 h
      refine lv_iconst (v := 0) hx hb dX12_ahead_44 (by decide) ?_
      exact wX12_ahead_45 C hR u7 x1 x2 0 (lv_sub hl [0, 1, 2] rfl) S h
    · have h := cnd_t c9 h
      refine lv_iconst (v := 1) hx hb dX12_ahead_40 (by decide) ?_
      refine lv_goto (tgt := 45) hx hb dX12_ahead_41 (by decide) ?_
      exact wX12_ahead_45 C hR u7 x1 x2 1 (lv_sub hl [0, 1, 2] rfl) S h
set_option maxRecDepth 10000 in
set_option maxHeartbeats 4000000 in
theorem wX12_ahead_22 (C : cx D (tyl cI cB cL) A RX12 cX12_ahead 3 (some .boolean) p s m args c meth) (hR : 4 ≤ R.frames ∧ 92 ≤ R.locals) {r : Int32} {σ' : Sg} (u : Sg) (x1 : Int32) (x2 : Int32) {H : Heap} {locs : List Loc} {ls : Array Slot} (hl : lv_has ls 3 [(0, .ref (ad 0)), (1, .int x1), (2, .int x2)]) (S : st D (wM cI cB ad) A s u H locs) (h : fX12_ahead_22 x1 x2 u = some (r, σ')) : W p l e R s m args below meth c H locs 0 0 (MQ below (qI D (tyl cI cB cL) (wM cI cB ad) A r σ') args s 0 0 A) (F0 m 22 ls [.ref (ad 0)]) := by
  have hx := C.1
  have hb := C.2.1
  have hsz := hl.1
  unfold fX12_ahead_22 at h
  refine lv_iconst (v := 1) hx hb dX12_ahead_22 (by decide) ?_
  refine lv_goto (tgt := 27) hx hb dX12_ahead_23 (by decide) ?_
  exact wX12_ahead_27 C hR u x1 x2 1 (lv_sub hl [0, 1, 2] rfl) S h
set_option maxRecDepth 10000 in
set_option maxHeartbeats 4000000 in
theorem wX12_ahead_0 (C : cx D (tyl cI cB cL) A RX12 cX12_ahead 3 (some .boolean) p s m args c meth) (hR : 4 ≤ R.frames ∧ 92 ≤ R.locals) {r : Int32} {σ' : Sg} (u : Sg) (x1 : Int32) (x2 : Int32) {H : Heap} {locs : List Loc} {ls : Array Slot} (hl : lv_has ls 3 [(0, .ref (ad 0)), (1, .int x1), (2, .int x2)]) (S : st D (wM cI cB ad) A s u H locs) (h : fX12_ahead_0 x1 x2 u = some (r, σ')) : W p l e R s m args below meth c H locs 0 0 (MQ below (qI D (tyl cI cB cL) (wM cI cB ad) A r σ') args s 0 0 A) (F0 m 0 ls []) := by
  have hx := C.1
  have hb := C.2.1
  have hsz := hl.1
  unfold fX12_ahead_0 at h
  refine lv_aload_n hx hb dX12_ahead_0 rfl (lv_at hl 0 rfl) ?_
  refine lv_iconst (v := 0) hx hb dX12_ahead_1 (by decide) ?_
  obtain ⟨u1, eu1⟩ : ∃ z : Sg, z = s2 u 0 0 0 := ⟨_, rfl⟩
  have h := bnd_of eu1 h
  refine q_put C S (oM0 cI cB ad) rfl iwX12 tyX12 tyX12_ok nmX12 0 (by decide) mw_11 rfl (iM0_0 cI cB ad) rfl rfl dX12_ahead_2 eu1 (fun H locs S => ?_)
  refine lv_aload_n hx hb dX12_ahead_5 rfl (lv_at hl 0 rfl) ?_
  refine lv_aload_n hx hb dX12_ahead_6 rfl (lv_at hl 0 rfl) ?_
  refine lv_iload_n hx hb dX12_ahead_7 rfl (lv_at hl 1 rfl) ?_
  obtain ⟨r3, h2, h⟩ := obr_some h
  refine q_callVi (As := [.int x1]) (na := 1) C S (oM0 cI cB ad) rfl (ct_X12_noMessage l D cI cB cL ad x1 u1 h2) mw_242 mw_241 mw_243 mw_5 mw_240 hdX12_noMessage ⟨Nat.le_trans (Nat.le_of_ble_eq_true rfl) hR.1, Nat.le_trans (Nat.le_of_ble_eq_true rfl) hR.2⟩ rfl hsz ⟨Nat.zero_le _, Nat.zero_le _⟩ (Nat.le_of_ble_eq_true rfl) dX12_ahead_8 rfl (fun H locs S => ?_)
  refine lv_if_ne (tgt := 22) hx hb dX12_ahead_11 (by decide) (fun c4 => ?_) (fun c4 => ?_)
  · have h := cnd_f c4 h
    exact wX12_ahead_22 C hR u1 x1 x2 (lv_sub hl [0, 1, 2] rfl) S h
  · have h := cnd_t c4 h
    refine lv_aload_n hx hb dX12_ahead_14 rfl (lv_at hl 0 rfl) ?_
    refine lv_iload_n hx hb dX12_ahead_15 rfl (lv_at hl 2 rfl) ?_
    obtain ⟨r19, h18, h⟩ := obr_some h
    refine q_callVi (As := [.int x2]) (na := 1) C S (oM0 cI cB ad) rfl (ct_X12_noMessage l D cI cB cL ad x2 u1 h18) mw_242 mw_241 mw_243 mw_5 mw_240 hdX12_noMessage ⟨Nat.le_trans (Nat.le_of_ble_eq_true rfl) hR.1, Nat.le_trans (Nat.le_of_ble_eq_true rfl) hR.2⟩ rfl hsz ⟨Nat.zero_le _, Nat.zero_le _⟩ (Nat.le_of_ble_eq_true rfl) dX12_ahead_16 rfl (fun H locs S => ?_)
    refine lv_if_eq (tgt := 26) hx hb dX12_ahead_19 (by decide) (fun c20 => ?_) (fun c20 => ?_)
    · have h := cnd_t c20 h
      refine lv_iconst (v := 0) hx hb dX12_ahead_26 (by decide) ?_
      exact wX12_ahead_27 C hR u1 x1 x2 0 (lv_sub hl [0, 1, 2] rfl) S h
    · have h := cnd_f c20 h
      exact wX12_ahead_22 C hR u1 x1 x2 (lv_sub hl [0, 1, 2] rfl) S h
set_option maxRecDepth 10000 in
set_option maxHeartbeats 4000000 in
theorem ct_X12_ahead (l : Launch) (D : va_G) (cI cB cL : ClassId) (ad : Nat → Nat) (x1 : Int32) (x2 : Int32) (u : Sg) {r : Int32} {σ' : Sg} (h : fX12_ahead x1 x2 u = some (r, σ')) : metI l D (tyl cI cB cL) yX12_ahead cX12_ahead 3 (some .boolean) 4 92 (wM cI cB ad) [.ref (ad 0), .int x1, .int x2] u r σ' := by
  intro sz
  refine Met.ofW (cc := cX12_ahead) (maxL := 3) (ret := (some .boolean)) (by decide) rfl ?_
  intro p e s m args below meth c s₁ B hml hv
  obtain ⟨rfl, C, S⟩ := q_entry B hml hv
  have hl := lv_entry ([.ref (ad 0), .int x1, .int x2]) (n := 3) (Nat.le_of_ble_eq_true rfl)
  rw [lg_entry_eq]
  generalize (lg_sl ([.ref (ad 0), .int x1, .int x2]) ++ List.replicate (3 - (lg_sl ([.ref (ad 0), .int x1, .int x2])).length) Slot.unset).toArray = ls at hl ⊢
  exact wX12_ahead_0 C ⟨Nat.le_refl _, Nat.le_refl _⟩ u x1 x2 (lv_sub hl [0, 1, 2] rfl) S h
noncomputable def fX12_isBehindNone_52 (K5 : Int32 → Int32 → Int32 → Int32 → Option Int32) (x1 : Int32) (x2 : Int32) (x4 : Int32) (t0 : Int32) (u : Sg) : Option Int32 := bnd (x4 + 1) (fun v6 => K5 x1 x2 t0 v6)
noncomputable def fX12_isBehindNone_51 (K5 : Int32 → Int32 → Int32 → Int32 → Option Int32) (x1 : Int32) (x2 : Int32) (x4 : Int32) (u : Sg) : Option Int32 := fX12_isBehindNone_52 K5 x1 x2 x4 0 u
noncomputable def fX12_isBehindNone_47 (K5 : Int32 → Int32 → Int32 → Int32 → Option Int32) (x1 : Int32) (x2 : Int32) (x4 : Int32) (u : Sg) : Option Int32 := fX12_isBehindNone_52 K5 x1 x2 x4 1 u
noncomputable def fX12_isBehindNone_5 (u : Sg) : Nat → Int32 → Int32 → Int32 → Int32 → Option Int32
  | 0, _, _, _, _ => none
  | n + 1, x1, x2, x3, x4 => obr (fX12_messages u) (fun r2 => cnd (r2 ≤ x4) (grd (isB x3) (some x3)) (cnd (x3 = 0) (fX12_isBehindNone_51 (fun a0 a1 a2 a3 => fX12_isBehindNone_5 u n a0 a1 a2 a3) x1 x2 x4 u) (cnd (x4 = x1) (fX12_isBehindNone_47 (fun a0 a1 a2 a3 => fX12_isBehindNone_5 u n a0 a1 a2 a3) x1 x2 x4 u) (cnd ((fX12_holds x2 x4) = 0) (fX12_isBehindNone_47 (fun a0 a1 a2 a3 => fX12_isBehindNone_5 u n a0 a1 a2 a3) x1 x2 x4 u) (grd (vp_in x4 20) (cnd ((fX12_holds (u 9 ((x4 : Int32).toNatClampNeg)) x1) = 0) (fX12_isBehindNone_47 (fun a0 a1 a2 a3 => fX12_isBehindNone_5 u n a0 a1 a2 a3) x1 x2 x4 u) (fX12_isBehindNone_51 (fun a0 a1 a2 a3 => fX12_isBehindNone_5 u n a0 a1 a2 a3) x1 x2 x4 u)))))))
noncomputable def fX12_isBehindNone_0 (x1 : Int32) (x2 : Int32) (u : Sg) : Option Int32 := fX12_isBehindNone_5 u FU x1 x2 1 0
noncomputable def fX12_isBehindNone (x1 : Int32) (x2 : Int32) (u : Sg) : Option Int32 := fX12_isBehindNone_0 x1 x2 u
set_option maxRecDepth 10000 in
set_option maxHeartbeats 4000000 in
theorem wX12_isBehindNone_52 (C : cx D (tyl cI cB cL) A RX12 cX12_isBehindNone 5 (some .boolean) p s m args c meth) (hR : 1 ≤ R.frames ∧ 21 ≤ R.locals) {r : Int32} (u : Sg) {K5 : Int32 → Int32 → Int32 → Int32 → Option Int32} (hK5 : ∀ (y1 : Int32) (y2 : Int32) (y3 : Int32) (y4 : Int32) (H : Heap) (locs : List Loc) (ls : Array Slot), lv_has ls 5 [(0, .ref (ad 0)), (1, .int y1), (2, .int y2), (3, .int y3), (4, .int y4)] → st D (wM cI cB ad) A s u H locs → K5 y1 y2 y3 y4 = some r → W p l e R s m args below meth c H locs 0 0 (MQ below (qI D (tyl cI cB cL) (wM cI cB ad) A r u) args s 0 0 A) (F0 m 5 ls [])) (x1 : Int32) (x2 : Int32) (x4 : Int32) (t0 : Int32) {H : Heap} {locs : List Loc} {ls : Array Slot} (hl : lv_has ls 5 [(0, .ref (ad 0)), (1, .int x1), (2, .int x2), (4, .int x4)]) (S : st D (wM cI cB ad) A s u H locs) (h : fX12_isBehindNone_52 K5 x1 x2 x4 t0 u = some r) : W p l e R s m args below meth c H locs 0 0 (MQ below (qI D (tyl cI cB cL) (wM cI cB ad) A r u) args s 0 0 A) (F0 m 52 ls [.int t0]) := by
  have hx := C.1
  have hb := C.2.1
  have hsz := hl.1
  unfold fX12_isBehindNone_52 at h
  refine lv_istore_n (lv' := [(3, .int t0), (0, .ref (ad 0)), (1, .int x1), (2, .int x2), (4, .int x4)]) hx hb dX12_isBehindNone_52 rfl hl (by decide) rfl (fun ls hl => ?_)
  have hsz := hl.1
  obtain ⟨v6, ev6⟩ : ∃ y : Int32, y = x4 + 1 := ⟨_, rfl⟩
  have h := bnd_of ev6 h
  refine lv_iinc (v := v6) (lv' := [(4, .int v6), (3, .int t0), (0, .ref (ad 0)), (1, .int x1), (2, .int x2)]) hx hb dX12_isBehindNone_53 hl (k := 4) rfl (by rw [ev6]; rfl) (by decide) rfl (fun ls hl => ?_)
  have hsz := hl.1
  refine lv_goto (tgt := 5) hx hb dX12_isBehindNone_56 (by decide) ?_
  exact hK5 x1 x2 t0 v6 H locs ls (lv_sub hl [2, 3, 4, 1, 0] rfl) S h
set_option maxRecDepth 10000 in
set_option maxHeartbeats 4000000 in
theorem wX12_isBehindNone_51 (C : cx D (tyl cI cB cL) A RX12 cX12_isBehindNone 5 (some .boolean) p s m args c meth) (hR : 1 ≤ R.frames ∧ 21 ≤ R.locals) {r : Int32} (u : Sg) {K5 : Int32 → Int32 → Int32 → Int32 → Option Int32} (hK5 : ∀ (y1 : Int32) (y2 : Int32) (y3 : Int32) (y4 : Int32) (H : Heap) (locs : List Loc) (ls : Array Slot), lv_has ls 5 [(0, .ref (ad 0)), (1, .int y1), (2, .int y2), (3, .int y3), (4, .int y4)] → st D (wM cI cB ad) A s u H locs → K5 y1 y2 y3 y4 = some r → W p l e R s m args below meth c H locs 0 0 (MQ below (qI D (tyl cI cB cL) (wM cI cB ad) A r u) args s 0 0 A) (F0 m 5 ls [])) (x1 : Int32) (x2 : Int32) (x4 : Int32) {H : Heap} {locs : List Loc} {ls : Array Slot} (hl : lv_has ls 5 [(0, .ref (ad 0)), (1, .int x1), (2, .int x2), (4, .int x4)]) (S : st D (wM cI cB ad) A s u H locs) (h : fX12_isBehindNone_51 K5 x1 x2 x4 u = some r) : W p l e R s m args below meth c H locs 0 0 (MQ below (qI D (tyl cI cB cL) (wM cI cB ad) A r u) args s 0 0 A) (F0 m 51 ls []) := by
  have hx := C.1
  have hb := C.2.1
  have hsz := hl.1
  unfold fX12_isBehindNone_51 at h
  refine lv_iconst (v := 0) hx hb dX12_isBehindNone_51 (by decide) ?_
  exact wX12_isBehindNone_52 C hR u hK5 x1 x2 x4 0 (lv_sub hl [0, 1, 2, 3] rfl) S h
set_option maxRecDepth 10000 in
set_option maxHeartbeats 4000000 in
theorem wX12_isBehindNone_47 (C : cx D (tyl cI cB cL) A RX12 cX12_isBehindNone 5 (some .boolean) p s m args c meth) (hR : 1 ≤ R.frames ∧ 21 ≤ R.locals) {r : Int32} (u : Sg) {K5 : Int32 → Int32 → Int32 → Int32 → Option Int32} (hK5 : ∀ (y1 : Int32) (y2 : Int32) (y3 : Int32) (y4 : Int32) (H : Heap) (locs : List Loc) (ls : Array Slot), lv_has ls 5 [(0, .ref (ad 0)), (1, .int y1), (2, .int y2), (3, .int y3), (4, .int y4)] → st D (wM cI cB ad) A s u H locs → K5 y1 y2 y3 y4 = some r → W p l e R s m args below meth c H locs 0 0 (MQ below (qI D (tyl cI cB cL) (wM cI cB ad) A r u) args s 0 0 A) (F0 m 5 ls [])) (x1 : Int32) (x2 : Int32) (x4 : Int32) {H : Heap} {locs : List Loc} {ls : Array Slot} (hl : lv_has ls 5 [(0, .ref (ad 0)), (1, .int x1), (2, .int x2), (4, .int x4)]) (S : st D (wM cI cB ad) A s u H locs) (h : fX12_isBehindNone_47 K5 x1 x2 x4 u = some r) : W p l e R s m args below meth c H locs 0 0 (MQ below (qI D (tyl cI cB cL) (wM cI cB ad) A r u) args s 0 0 A) (F0 m 47 ls []) := by
  have hx := C.1
  have hb := C.2.1
  have hsz := hl.1
  unfold fX12_isBehindNone_47 at h
  refine lv_iconst (v := 1) hx hb dX12_isBehindNone_47 (by decide) ?_
  refine lv_goto (tgt := 52) hx hb dX12_isBehindNone_48 (by decide) ?_
  exact wX12_isBehindNone_52 C hR u hK5 x1 x2 x4 1 (lv_sub hl [0, 1, 2, 3] rfl) S h
set_option maxRecDepth 10000 in
set_option maxHeartbeats 4000000 in
theorem wX12_isBehindNone_5 (C : cx D (tyl cI cB cL) A RX12 cX12_isBehindNone 5 (some .boolean) p s m args c meth) (hR : 1 ≤ R.frames ∧ 21 ≤ R.locals) {r : Int32} (u : Sg) : ∀ (n : Nat) (x1 : Int32) (x2 : Int32) (x3 : Int32) (x4 : Int32) (H : Heap) (locs : List Loc) (ls : Array Slot), lv_has ls 5 [(0, .ref (ad 0)), (1, .int x1), (2, .int x2), (3, .int x3), (4, .int x4)] → st D (wM cI cB ad) A s u H locs → fX12_isBehindNone_5 u n x1 x2 x3 x4 = some r → W p l e R s m args below meth c H locs 0 0 (MQ below (qI D (tyl cI cB cL) (wM cI cB ad) A r u) args s 0 0 A) (F0 m 5 ls []) := by
  have hx := C.1
  have hb := C.2.1
  intro n
  induction n with
  | zero =>
    intro x1 x2 x3 x4 H locs ls hl S h
    cases h
  | succ n ih =>
    intro x1 x2 x3 x4 H locs ls hl S h
    rw [fX12_isBehindNone_5] at h
    have hsz := hl.1
    refine lv_iload hx hb dX12_isBehindNone_5 (lv_at hl 4 rfl) ?_
    refine lv_aload_n hx hb dX12_isBehindNone_7 rfl (lv_at hl 0 rfl) ?_
    obtain ⟨r2, h1, h⟩ := obr_some h
    refine q_callVi (As := []) (na := 0) C S (oM0 cI cB ad) rfl (ct_X12_messages l D cI cB cL ad u h1) mw_31 mw_30 mw_32 mw_5 mw_29 hdX12_messages ⟨Nat.le_trans (Nat.le_of_ble_eq_true rfl) hR.1, Nat.le_trans (Nat.le_of_ble_eq_true rfl) hR.2⟩ rfl hsz ⟨Nat.zero_le _, Nat.zero_le _⟩ (Nat.le_of_ble_eq_true rfl) dX12_isBehindNone_8 rfl (fun H locs S => ?_)
    refine lv_icmp_ge (tgt := 59) hx hb dX12_isBehindNone_11 (by decide) (fun c3 => ?_) (fun c3 => ?_)
    · have h := cnd_t c3 h
      refine lv_iload_n hx hb dX12_isBehindNone_59 rfl (lv_at hl 3 rfl) ?_
      obtain ⟨g4, h⟩ := grd_some h
      exact q_zret C S (isB_n g4) (rt_R h) dX12_isBehindNone_60
    · have h := cnd_f c3 h
      refine lv_iload_n hx hb dX12_isBehindNone_14 rfl (lv_at hl 3 rfl) ?_
      refine lv_if_eq (tgt := 51) hx hb dX12_isBehindNone_15 (by decide) (fun c5 => ?_) (fun c5 => ?_)
      · have h := cnd_t c5 h
        exact wX12_isBehindNone_51 C hR u ih x1 x2 x4 (lv_sub hl [0, 1, 2, 4] rfl) S h
      · have h := cnd_f c5 h
        refine lv_iload hx hb dX12_isBehindNone_18 (lv_at hl 4 rfl) ?_
        refine lv_iload_n hx hb dX12_isBehindNone_20 rfl (lv_at hl 1 rfl) ?_
        refine lv_icmp_eq (tgt := 47) hx hb dX12_isBehindNone_21 (by decide) (fun c7 => ?_) (fun c7 => ?_)
        · have h := cnd_t c7 h
          exact wX12_isBehindNone_47 C hR u ih x1 x2 x4 (lv_sub hl [0, 1, 2, 4] rfl) S h
        · have h := cnd_f c7 h
          refine lv_iload_n hx hb dX12_isBehindNone_24 rfl (lv_at hl 2 rfl) ?_
          refine lv_iload hx hb dX12_isBehindNone_25 (lv_at hl 4 rfl) ?_
          refine q_callP (As := [.int x2, .int x4]) (na := 2) C S (ct_X12_holds l D cI cB cL x2 x4) mw_47 mw_46 mw_5 mw_45 hdX12_holds ⟨Nat.le_trans (Nat.le_of_ble_eq_true rfl) hR.1, Nat.le_trans (Nat.le_of_ble_eq_true rfl) hR.2⟩ rfl hsz ⟨Nat.zero_le _, Nat.zero_le _⟩ (Nat.le_of_ble_eq_true rfl) dX12_isBehindNone_27 rfl (fun H locs S => ?_)
          refine lv_if_eq (tgt := 47) hx hb dX12_isBehindNone_30 (by decide) (fun c8 => ?_) (fun c8 => ?_)
          · have h := cnd_t c8 h
            exact wX12_isBehindNone_47 C hR u ih x1 x2 x4 (lv_sub hl [0, 1, 2, 4] rfl) S h
          · have h := cnd_f c8 h
            refine lv_aload_n hx hb dX12_isBehindNone_33 rfl (lv_at hl 0 rfl) ?_
            refine q_get (v := .ref (ad 9)) C S (oM0 cI cB ad) rfl iwX12 17 (by decide) mw_276 rfl dX12_isBehindNone_34 ?_
            refine lv_iload hx hb dX12_isBehindNone_37 (lv_at hl 4 rfl) ?_
            obtain ⟨g9, h⟩ := grd_some h
            refine q_iald C S (aM9 cI cB ad) 0 rfl g9 dX12_isBehindNone_39 (j := (x4 : Int32).toNatClampNeg) rfl ?_
            refine lv_iload_n hx hb dX12_isBehindNone_40 rfl (lv_at hl 1 rfl) ?_
            refine q_callP (As := [.int (u 9 ((x4 : Int32).toNatClampNeg)), .int x1]) (na := 2) C S (ct_X12_holds l D cI cB cL (u 9 ((x4 : Int32).toNatClampNeg)) x1) mw_47 mw_46 mw_5 mw_45 hdX12_holds ⟨Nat.le_trans (Nat.le_of_ble_eq_true rfl) hR.1, Nat.le_trans (Nat.le_of_ble_eq_true rfl) hR.2⟩ rfl hsz ⟨Nat.zero_le _, Nat.zero_le _⟩ (Nat.le_of_ble_eq_true rfl) dX12_isBehindNone_41 rfl (fun H locs S => ?_)
            refine lv_if_ne (tgt := 51) hx hb dX12_isBehindNone_44 (by decide) (fun c10 => ?_) (fun c10 => ?_)
            · have h := cnd_f c10 h
              exact wX12_isBehindNone_51 C hR u ih x1 x2 x4 (lv_sub hl [0, 1, 2, 4] rfl) S h
            · have h := cnd_t c10 h
              exact wX12_isBehindNone_47 C hR u ih x1 x2 x4 (lv_sub hl [0, 1, 2, 4] rfl) S h
set_option maxRecDepth 10000 in
set_option maxHeartbeats 4000000 in
theorem wX12_isBehindNone_0 (C : cx D (tyl cI cB cL) A RX12 cX12_isBehindNone 5 (some .boolean) p s m args c meth) (hR : 1 ≤ R.frames ∧ 21 ≤ R.locals) {r : Int32} (u : Sg) (x1 : Int32) (x2 : Int32) {H : Heap} {locs : List Loc} {ls : Array Slot} (hl : lv_has ls 5 [(0, .ref (ad 0)), (1, .int x1), (2, .int x2)]) (S : st D (wM cI cB ad) A s u H locs) (h : fX12_isBehindNone_0 x1 x2 u = some r) : W p l e R s m args below meth c H locs 0 0 (MQ below (qI D (tyl cI cB cL) (wM cI cB ad) A r u) args s 0 0 A) (F0 m 0 ls []) := by
  have hx := C.1
  have hb := C.2.1
  have hsz := hl.1
  unfold fX12_isBehindNone_0 at h
  refine lv_iconst (v := 1) hx hb dX12_isBehindNone_0 (by decide) ?_
  refine lv_istore_n (lv' := [(3, .int 1), (0, .ref (ad 0)), (1, .int x1), (2, .int x2)]) hx hb dX12_isBehindNone_1 rfl hl (by decide) rfl (fun ls hl => ?_)
  have hsz := hl.1
  refine lv_iconst (v := 0) hx hb dX12_isBehindNone_2 (by decide) ?_
  refine lv_istore (lv' := [(4, .int 0), (3, .int 1), (0, .ref (ad 0)), (1, .int x1), (2, .int x2)]) hx hb dX12_isBehindNone_3 hl (by decide) rfl (fun ls hl => ?_)
  have hsz := hl.1
  exact wX12_isBehindNone_5 C hR u FU x1 x2 1 0 H locs ls (lv_sub hl [2, 3, 4, 1, 0] rfl) S h
set_option maxRecDepth 10000 in
set_option maxHeartbeats 4000000 in
theorem ct_X12_isBehindNone (l : Launch) (D : va_G) (cI cB cL : ClassId) (ad : Nat → Nat) (x1 : Int32) (x2 : Int32) (u : Sg) {r : Int32} (h : fX12_isBehindNone x1 x2 u = some r) : metI l D (tyl cI cB cL) yX12_isBehindNone cX12_isBehindNone 5 (some .boolean) 1 21 (wM cI cB ad) [.ref (ad 0), .int x1, .int x2] u r u := by
  intro sz
  refine Met.ofW (cc := cX12_isBehindNone) (maxL := 5) (ret := (some .boolean)) (by decide) rfl ?_
  intro p e s m args below meth c s₁ B hml hv
  obtain ⟨rfl, C, S⟩ := q_entry B hml hv
  have hl := lv_entry ([.ref (ad 0), .int x1, .int x2]) (n := 5) (Nat.le_of_ble_eq_true rfl)
  rw [lg_entry_eq]
  generalize (lg_sl ([.ref (ad 0), .int x1, .int x2]) ++ List.replicate (5 - (lg_sl ([.ref (ad 0), .int x1, .int x2])).length) Slot.unset).toArray = ls at hl ⊢
  exact wX12_isBehindNone_0 C ⟨Nat.le_refl _, Nat.le_refl _⟩ u x1 x2 (lv_sub hl [0, 1, 2] rfl) S h
noncomputable def fX12_deliveredBy_0 (x1 : Int32) (u : Sg) : Option Int32 := obr (fX12_nodesWith x1 0 3 u) (fun r2 => some r2)
noncomputable def fX12_deliveredBy (x1 : Int32) (u : Sg) : Option Int32 := fX12_deliveredBy_0 x1 u
set_option maxRecDepth 10000 in
set_option maxHeartbeats 4000000 in
theorem wX12_deliveredBy_0 (C : cx D (tyl cI cB cL) A RX12 cX12_deliveredBy 2 (some .int) p s m args c meth) (hR : 4 ≤ R.frames ∧ 91 ≤ R.locals) {r : Int32} (u : Sg) (x1 : Int32) {H : Heap} {locs : List Loc} {ls : Array Slot} (hl : lv_has ls 2 [(0, .ref (ad 0)), (1, .int x1)]) (S : st D (wM cI cB ad) A s u H locs) (h : fX12_deliveredBy_0 x1 u = some r) : W p l e R s m args below meth c H locs 0 0 (MQ below (qI D (tyl cI cB cL) (wM cI cB ad) A r u) args s 0 0 A) (F0 m 0 ls []) := by
  have hx := C.1
  have hb := C.2.1
  have hsz := hl.1
  unfold fX12_deliveredBy_0 at h
  refine lv_aload_n hx hb dX12_deliveredBy_0 rfl (lv_at hl 0 rfl) ?_
  refine lv_iload_n hx hb dX12_deliveredBy_1 rfl (lv_at hl 1 rfl) ?_
  refine lv_iconst (v := 0) hx hb dX12_deliveredBy_2 (by decide) ?_
  refine lv_iconst (v := 3) hx hb dX12_deliveredBy_3 (by decide) ?_
  obtain ⟨r2, h1, h⟩ := obr_some h
  refine q_callVi (As := [.int x1, .int 0, .int 3]) (na := 3) C S (oM0 cI cB ad) rfl (ct_X12_nodesWith l D cI cB cL ad x1 0 3 u h1) mw_246 mw_245 mw_247 mw_5 mw_244 hdX12_nodesWith ⟨Nat.le_trans (Nat.le_of_ble_eq_true rfl) hR.1, Nat.le_trans (Nat.le_of_ble_eq_true rfl) hR.2⟩ rfl hsz ⟨Nat.zero_le _, Nat.zero_le _⟩ (Nat.le_of_ble_eq_true rfl) dX12_deliveredBy_4 rfl (fun H locs S => ?_)
  exact q_iret C S (rt_R h) dX12_deliveredBy_7
set_option maxRecDepth 10000 in
set_option maxHeartbeats 4000000 in
theorem ct_X12_deliveredBy (l : Launch) (D : va_G) (cI cB cL : ClassId) (ad : Nat → Nat) (x1 : Int32) (u : Sg) {r : Int32} (h : fX12_deliveredBy x1 u = some r) : metI l D (tyl cI cB cL) yX12_deliveredBy cX12_deliveredBy 2 (some .int) 4 91 (wM cI cB ad) [.ref (ad 0), .int x1] u r u := by
  intro sz
  refine Met.ofW (cc := cX12_deliveredBy) (maxL := 2) (ret := (some .int)) (by decide) rfl ?_
  intro p e s m args below meth c s₁ B hml hv
  obtain ⟨rfl, C, S⟩ := q_entry B hml hv
  have hl := lv_entry ([.ref (ad 0), .int x1]) (n := 2) (Nat.le_of_ble_eq_true rfl)
  rw [lg_entry_eq]
  generalize (lg_sl ([.ref (ad 0), .int x1]) ++ List.replicate (2 - (lg_sl ([.ref (ad 0), .int x1])).length) Slot.unset).toArray = ls at hl ⊢
  exact wX12_deliveredBy_0 C ⟨Nat.le_refl _, Nat.le_refl _⟩ u x1 (lv_sub hl [0, 1] rfl) S h
noncomputable def fX12_line_132 (K66 : Int32 → Int32 → Int32 → Int32 → Sg → Option (Int32 × Sg)) (x1 : Int32) (x2 : Int32) (x4 : Int32) (t0 : Int32) (u : Sg) : Option (Int32 × Sg) := bnd (x2 &&& (((1 : Int32) <<< ((t0 &&& 31 : Int32))) ^^^ (-1))) (fun v14 => bnd (x4 + 1) (fun v15 => K66 x1 v14 t0 v15 u))
noncomputable def fX12_line_112 (K66 : Int32 → Int32 → Int32 → Int32 → Sg → Option (Int32 × Sg)) (K82 : Int32 → Int32 → Int32 → Int32 → Int32 → Sg → Option (Int32 × Sg)) (x1 : Int32) (x2 : Int32) (x4 : Int32) (x5 : Int32) (t0 : Int32) (u : Sg) : Option (Int32 × Sg) := bnd (x5 + (-1)) (fun v17 => K82 x1 x2 t0 x4 v17 u)
noncomputable def fX12_line_111 (K66 : Int32 → Int32 → Int32 → Int32 → Sg → Option (Int32 × Sg)) (K82 : Int32 → Int32 → Int32 → Int32 → Int32 → Sg → Option (Int32 × Sg)) (x1 : Int32) (x2 : Int32) (x3 : Int32) (x4 : Int32) (x5 : Int32) (u : Sg) : Option (Int32 × Sg) := fX12_line_112 K66 K82 x1 x2 x4 x5 x3 u
noncomputable def fX12_line_82 (K66 : Int32 → Int32 → Int32 → Int32 → Sg → Option (Int32 × Sg)) : Nat → Int32 → Int32 → Int32 → Int32 → Int32 → Sg → Option (Int32 × Sg)
  | 0, _, _, _, _, _, _ => none
  | n + 1, x1, x2, x3, x4, x5, u => cnd (x5 < 0) (cnd (x3 = (-1)) (fX12_line_132 K66 x1 x2 x4 (fJ6_numberOfTrailingZeros_0f7a4 x2) u) (fX12_line_132 K66 x1 x2 x4 x3 u)) (cnd ((fX12_holds x2 x5) = 0) (fX12_line_111 K66 (fun a0 a1 a2 a3 a4 w => fX12_line_82 K66 n a0 a1 a2 a3 a4 w) x1 x2 x3 x4 x5 u) (obr (fX12_isBehindNone x5 x2 u) (fun r19 => cnd (r19 = 0) (fX12_line_111 K66 (fun a0 a1 a2 a3 a4 w => fX12_line_82 K66 n a0 a1 a2 a3 a4 w) x1 x2 x3 x4 x5 u) (fX12_line_112 K66 (fun a0 a1 a2 a3 a4 w => fX12_line_82 K66 n a0 a1 a2 a3 a4 w) x1 x2 x4 x5 x5 u))))
noncomputable def fX12_line_66 : Nat → Int32 → Int32 → Int32 → Int32 → Sg → Option (Int32 × Sg)
  | 0, _, _, _, _, _ => none
  | n + 1, x1, x2, x3, x4, u => cnd (x1 < x4) (some (x3, u)) (obr (fX12_messages u) (fun r10 => bnd (r10 - 1) (fun v11 => fX12_line_82 (fun a0 a1 a2 a3 w => fX12_line_66 n a0 a1 a2 a3 w) FU x1 x2 (-1) x4 v11 u)))
noncomputable def fX12_line_37 (K13 : Int32 → Int32 → Int32 → Sg → Option (Int32 × Sg)) (x1 : Int32) (x3 : Int32) (t0 : Int32) (t1 : Int32) (u : Sg) : Option (Int32 × Sg) := bnd (t1 ||| t0) (fun v24 => bnd (x3 + 1) (fun v25 => K13 x1 v24 v25 u))
noncomputable def fX12_line_13 : Nat → Int32 → Int32 → Int32 → Sg → Option (Int32 × Sg)
  | 0, _, _, _, _ => none
  | n + 1, x1, x2, x3, u => obr (fX12_messages u) (fun r5 => cnd (r5 ≤ x3) (cnd ((fX12_in x1 0 ((fJ6_bitCount_0f7a4 x2) - 1)) = 0) (some ((-1), u)) (fX12_line_66 FU x1 x2 (-1) 0 u)) (obr (fX12_deliveredBy x3 u) (fun r22 => cnd (r22 = 0) (fX12_line_37 (fun a0 a1 a2 w => fX12_line_13 n a0 a1 a2 w) x1 x3 0 x2 u) (fX12_line_37 (fun a0 a1 a2 w => fX12_line_13 n a0 a1 a2 w) x1 x3 ((1 : Int32) <<< ((x3 &&& 31 : Int32))) x2 u))))
noncomputable def fX12_line_0 (x1 : Int32) (u : Sg) : Option (Int32 × Sg) := bnd (s2 u 0 0 0) (fun u1 => obr (fX12_laysAheads u1) (fun u3 => fX12_line_13 FU x1 0 0 u3))
noncomputable def fX12_line (x1 : Int32) (u : Sg) : Option (Int32 × Sg) := fX12_line_0 x1 u
set_option maxRecDepth 10000 in
set_option maxHeartbeats 4000000 in
theorem wX12_line_132 (C : cx D (tyl cI cB cL) A RX12 cX12_line 6 (some .int) p s m args c meth) (hR : 5 ≤ R.frames ∧ 112 ≤ R.locals) {r : Int32} {σ' : Sg} (u : Sg) {K66 : Int32 → Int32 → Int32 → Int32 → Sg → Option (Int32 × Sg)} (hK66 : ∀ (y1 : Int32) (y2 : Int32) (y3 : Int32) (y4 : Int32) (v : Sg) (H : Heap) (locs : List Loc) (ls : Array Slot), lv_has ls 6 [(0, .ref (ad 0)), (1, .int y1), (2, .int y2), (3, .int y3), (4, .int y4)] → st D (wM cI cB ad) A s v H locs → K66 y1 y2 y3 y4 v = some (r, σ') → W p l e R s m args below meth c H locs 0 0 (MQ below (qI D (tyl cI cB cL) (wM cI cB ad) A r σ') args s 0 0 A) (F0 m 66 ls [])) (x1 : Int32) (x2 : Int32) (x4 : Int32) (t0 : Int32) {H : Heap} {locs : List Loc} {ls : Array Slot} (hl : lv_has ls 6 [(0, .ref (ad 0)), (1, .int x1), (2, .int x2), (4, .int x4)]) (S : st D (wM cI cB ad) A s u H locs) (h : fX12_line_132 K66 x1 x2 x4 t0 u = some (r, σ')) : W p l e R s m args below meth c H locs 0 0 (MQ below (qI D (tyl cI cB cL) (wM cI cB ad) A r σ') args s 0 0 A) (F0 m 132 ls [.int t0]) := by
  have hx := C.1
  have hb := C.2.1
  have hsz := hl.1
  unfold fX12_line_132 at h
  refine lv_istore_n (lv' := [(3, .int t0), (0, .ref (ad 0)), (1, .int x1), (2, .int x2), (4, .int x4)]) hx hb dX12_line_132 rfl hl (by decide) rfl (fun ls hl => ?_)
  have hsz := hl.1
  refine lv_iload_n hx hb dX12_line_133 rfl (lv_at hl 3 rfl) ?_
  refine lv_iconst (v := 1) hx hb dX12_line_134 (by decide) ?_
  refine lv_iload_n hx hb dX12_line_135 rfl (lv_at hl 0 rfl) ?_
  refine lv_ishl hx hb dX12_line_136 ?_
  refine lv_iconst (v := (-1)) hx hb dX12_line_137 (by decide) ?_
  refine lv_ixor hx hb dX12_line_138 ?_
  refine lv_iand hx hb dX12_line_139 ?_
  refine lv_topi (fun v14 ev14 => ?_)
  have h := bnd_of ev14 h
  refine lv_istore_n (lv' := [(2, .int v14), (3, .int t0), (0, .ref (ad 0)), (1, .int x1), (4, .int x4)]) hx hb dX12_line_140 rfl hl (by decide) rfl (fun ls hl => ?_)
  have hsz := hl.1
  obtain ⟨v15, ev15⟩ : ∃ y : Int32, y = x4 + 1 := ⟨_, rfl⟩
  have h := bnd_of ev15 h
  refine lv_iinc (v := v15) (lv' := [(4, .int v15), (2, .int v14), (3, .int t0), (0, .ref (ad 0)), (1, .int x1)]) hx hb dX12_line_141 hl (k := 4) rfl (by rw [ev15]; rfl) (by decide) rfl (fun ls hl => ?_)
  have hsz := hl.1
  refine lv_goto (tgt := 66) hx hb dX12_line_144 (by decide) ?_
  exact hK66 x1 v14 t0 v15 u H locs ls (lv_sub hl [3, 4, 1, 2, 0] rfl) S h
set_option maxRecDepth 10000 in
set_option maxHeartbeats 4000000 in
theorem wX12_line_112 (C : cx D (tyl cI cB cL) A RX12 cX12_line 6 (some .int) p s m args c meth) (hR : 5 ≤ R.frames ∧ 112 ≤ R.locals) {r : Int32} {σ' : Sg} (u : Sg) {K66 : Int32 → Int32 → Int32 → Int32 → Sg → Option (Int32 × Sg)} (hK66 : ∀ (y1 : Int32) (y2 : Int32) (y3 : Int32) (y4 : Int32) (v : Sg) (H : Heap) (locs : List Loc) (ls : Array Slot), lv_has ls 6 [(0, .ref (ad 0)), (1, .int y1), (2, .int y2), (3, .int y3), (4, .int y4)] → st D (wM cI cB ad) A s v H locs → K66 y1 y2 y3 y4 v = some (r, σ') → W p l e R s m args below meth c H locs 0 0 (MQ below (qI D (tyl cI cB cL) (wM cI cB ad) A r σ') args s 0 0 A) (F0 m 66 ls [])) {K82 : Int32 → Int32 → Int32 → Int32 → Int32 → Sg → Option (Int32 × Sg)} (hK82 : ∀ (y1 : Int32) (y2 : Int32) (y3 : Int32) (y4 : Int32) (y5 : Int32) (v : Sg) (H : Heap) (locs : List Loc) (ls : Array Slot), lv_has ls 6 [(0, .ref (ad 0)), (1, .int y1), (2, .int y2), (3, .int y3), (4, .int y4), (5, .int y5)] → st D (wM cI cB ad) A s v H locs → K82 y1 y2 y3 y4 y5 v = some (r, σ') → W p l e R s m args below meth c H locs 0 0 (MQ below (qI D (tyl cI cB cL) (wM cI cB ad) A r σ') args s 0 0 A) (F0 m 82 ls [])) (x1 : Int32) (x2 : Int32) (x4 : Int32) (x5 : Int32) (t0 : Int32) {H : Heap} {locs : List Loc} {ls : Array Slot} (hl : lv_has ls 6 [(0, .ref (ad 0)), (1, .int x1), (2, .int x2), (4, .int x4), (5, .int x5)]) (S : st D (wM cI cB ad) A s u H locs) (h : fX12_line_112 K66 K82 x1 x2 x4 x5 t0 u = some (r, σ')) : W p l e R s m args below meth c H locs 0 0 (MQ below (qI D (tyl cI cB cL) (wM cI cB ad) A r σ') args s 0 0 A) (F0 m 112 ls [.int t0]) := by
  have hx := C.1
  have hb := C.2.1
  have hsz := hl.1
  unfold fX12_line_112 at h
  refine lv_istore_n (lv' := [(3, .int t0), (0, .ref (ad 0)), (1, .int x1), (2, .int x2), (4, .int x4), (5, .int x5)]) hx hb dX12_line_112 rfl hl (by decide) rfl (fun ls hl => ?_)
  have hsz := hl.1
  obtain ⟨v17, ev17⟩ : ∃ y : Int32, y = x5 + (-1) := ⟨_, rfl⟩
  have h := bnd_of ev17 h
  refine lv_iinc (v := v17) (lv' := [(5, .int v17), (3, .int t0), (0, .ref (ad 0)), (1, .int x1), (2, .int x2), (4, .int x4)]) hx hb dX12_line_113 hl (k := 5) rfl (by rw [ev17]; rfl) (by decide) rfl (fun ls hl => ?_)
  have hsz := hl.1
  refine lv_goto (tgt := 82) hx hb dX12_line_116 (by decide) ?_
  exact hK82 x1 x2 t0 x4 v17 u H locs ls (lv_sub hl [2, 3, 4, 1, 5, 0] rfl) S h
set_option maxRecDepth 10000 in
set_option maxHeartbeats 4000000 in
theorem wX12_line_111 (C : cx D (tyl cI cB cL) A RX12 cX12_line 6 (some .int) p s m args c meth) (hR : 5 ≤ R.frames ∧ 112 ≤ R.locals) {r : Int32} {σ' : Sg} (u : Sg) {K66 : Int32 → Int32 → Int32 → Int32 → Sg → Option (Int32 × Sg)} (hK66 : ∀ (y1 : Int32) (y2 : Int32) (y3 : Int32) (y4 : Int32) (v : Sg) (H : Heap) (locs : List Loc) (ls : Array Slot), lv_has ls 6 [(0, .ref (ad 0)), (1, .int y1), (2, .int y2), (3, .int y3), (4, .int y4)] → st D (wM cI cB ad) A s v H locs → K66 y1 y2 y3 y4 v = some (r, σ') → W p l e R s m args below meth c H locs 0 0 (MQ below (qI D (tyl cI cB cL) (wM cI cB ad) A r σ') args s 0 0 A) (F0 m 66 ls [])) {K82 : Int32 → Int32 → Int32 → Int32 → Int32 → Sg → Option (Int32 × Sg)} (hK82 : ∀ (y1 : Int32) (y2 : Int32) (y3 : Int32) (y4 : Int32) (y5 : Int32) (v : Sg) (H : Heap) (locs : List Loc) (ls : Array Slot), lv_has ls 6 [(0, .ref (ad 0)), (1, .int y1), (2, .int y2), (3, .int y3), (4, .int y4), (5, .int y5)] → st D (wM cI cB ad) A s v H locs → K82 y1 y2 y3 y4 y5 v = some (r, σ') → W p l e R s m args below meth c H locs 0 0 (MQ below (qI D (tyl cI cB cL) (wM cI cB ad) A r σ') args s 0 0 A) (F0 m 82 ls [])) (x1 : Int32) (x2 : Int32) (x3 : Int32) (x4 : Int32) (x5 : Int32) {H : Heap} {locs : List Loc} {ls : Array Slot} (hl : lv_has ls 6 [(0, .ref (ad 0)), (1, .int x1), (2, .int x2), (3, .int x3), (4, .int x4), (5, .int x5)]) (S : st D (wM cI cB ad) A s u H locs) (h : fX12_line_111 K66 K82 x1 x2 x3 x4 x5 u = some (r, σ')) : W p l e R s m args below meth c H locs 0 0 (MQ below (qI D (tyl cI cB cL) (wM cI cB ad) A r σ') args s 0 0 A) (F0 m 111 ls []) := by
  have hx := C.1
  have hb := C.2.1
  have hsz := hl.1
  unfold fX12_line_111 at h
  refine lv_iload_n hx hb dX12_line_111 rfl (lv_at hl 3 rfl) ?_
  exact wX12_line_112 C hR u hK66 hK82 x1 x2 x4 x5 x3 (lv_sub hl [0, 1, 2, 4, 5] rfl) S h
set_option maxRecDepth 10000 in
set_option maxHeartbeats 4000000 in
theorem wX12_line_82 (C : cx D (tyl cI cB cL) A RX12 cX12_line 6 (some .int) p s m args c meth) (hR : 5 ≤ R.frames ∧ 112 ≤ R.locals) {r : Int32} {σ' : Sg} {K66 : Int32 → Int32 → Int32 → Int32 → Sg → Option (Int32 × Sg)} (hK66 : ∀ (y1 : Int32) (y2 : Int32) (y3 : Int32) (y4 : Int32) (v : Sg) (H : Heap) (locs : List Loc) (ls : Array Slot), lv_has ls 6 [(0, .ref (ad 0)), (1, .int y1), (2, .int y2), (3, .int y3), (4, .int y4)] → st D (wM cI cB ad) A s v H locs → K66 y1 y2 y3 y4 v = some (r, σ') → W p l e R s m args below meth c H locs 0 0 (MQ below (qI D (tyl cI cB cL) (wM cI cB ad) A r σ') args s 0 0 A) (F0 m 66 ls [])) : ∀ (n : Nat) (x1 : Int32) (x2 : Int32) (x3 : Int32) (x4 : Int32) (x5 : Int32) (u : Sg) (H : Heap) (locs : List Loc) (ls : Array Slot), lv_has ls 6 [(0, .ref (ad 0)), (1, .int x1), (2, .int x2), (3, .int x3), (4, .int x4), (5, .int x5)] → st D (wM cI cB ad) A s u H locs → fX12_line_82 K66 n x1 x2 x3 x4 x5 u = some (r, σ') → W p l e R s m args below meth c H locs 0 0 (MQ below (qI D (tyl cI cB cL) (wM cI cB ad) A r σ') args s 0 0 A) (F0 m 82 ls []) := by
  have hx := C.1
  have hb := C.2.1
  intro n
  induction n with
  | zero =>
    intro x1 x2 x3 x4 x5 u H locs ls hl S h
    cases h
  | succ n ih =>
    intro x1 x2 x3 x4 x5 u H locs ls hl S h
    rw [fX12_line_82] at h
    have hsz := hl.1
    refine lv_iload hx hb dX12_line_82 (lv_at hl 5 rfl) ?_
    refine lv_if_lt (tgt := 119) hx hb dX12_line_84 (by decide) (fun c12 => ?_) (fun c12 => ?_)
    · have h := cnd_t c12 h
      refine lv_iload_n hx hb dX12_line_119 rfl (lv_at hl 3 rfl) ?_
      refine lv_iconst (v := (-1)) hx hb dX12_line_120 (by decide) ?_
      refine lv_icmp_ne (tgt := 131) hx hb dX12_line_121 (by decide) (fun c13 => ?_) (fun c13 => ?_)
      · have h := cnd_f c13 h
        refine lv_iload_n hx hb dX12_line_131 rfl (lv_at hl 3 rfl) ?_
        exact wX12_line_132 C hR u hK66 x1 x2 x4 x3 (lv_sub hl [0, 1, 2, 4] rfl) S h
      · have h := cnd_t c13 h
        refine lv_iload_n hx hb dX12_line_124 rfl (lv_at hl 2 rfl) ?_
        refine q_callP (As := [.int x2]) (na := 1) C S (ct_J6_numberOfTrailingZeros_0f7a4 l D cI cB cL x2) mw_271 mw_270 mw_237 mw_269 hdJ6_numberOfTrailingZeros_0f7a4 ⟨Nat.le_trans (Nat.le_of_ble_eq_true rfl) hR.1, Nat.le_trans (Nat.le_of_ble_eq_true rfl) hR.2⟩ rfl hsz ⟨Nat.zero_le _, Nat.zero_le _⟩ (Nat.le_of_ble_eq_true rfl) dX12_line_125 rfl (fun H locs S => ?_)
        refine lv_goto (tgt := 132) hx hb dX12_line_128 (by decide) ?_
        exact wX12_line_132 C hR u hK66 x1 x2 x4 (fJ6_numberOfTrailingZeros_0f7a4 x2) (lv_sub hl [0, 1, 2, 4] rfl) S h
    · have h := cnd_f c12 h
      refine lv_iload_n hx hb dX12_line_87 rfl (lv_at hl 2 rfl) ?_
      refine lv_iload hx hb dX12_line_88 (lv_at hl 5 rfl) ?_
      refine q_callP (As := [.int x2, .int x5]) (na := 2) C S (ct_X12_holds l D cI cB cL x2 x5) mw_47 mw_46 mw_5 mw_45 hdX12_holds ⟨Nat.le_trans (Nat.le_of_ble_eq_true rfl) hR.1, Nat.le_trans (Nat.le_of_ble_eq_true rfl) hR.2⟩ rfl hsz ⟨Nat.zero_le _, Nat.zero_le _⟩ (Nat.le_of_ble_eq_true rfl) dX12_line_90 rfl (fun H locs S => ?_)
      refine lv_if_eq (tgt := 111) hx hb dX12_line_93 (by decide) (fun c16 => ?_) (fun c16 => ?_)
      · have h := cnd_t c16 h
        exact wX12_line_111 C hR u hK66 ih x1 x2 x3 x4 x5 (lv_sub hl [0, 1, 2, 3, 4, 5] rfl) S h
      · have h := cnd_f c16 h
        refine lv_aload_n hx hb dX12_line_96 rfl (lv_at hl 0 rfl) ?_
        refine lv_iload hx hb dX12_line_97 (lv_at hl 5 rfl) ?_
        refine lv_iload_n hx hb dX12_line_99 rfl (lv_at hl 2 rfl) ?_
        obtain ⟨r19, h18, h⟩ := obr_some h
        refine q_callVi (As := [.int x5, .int x2]) (na := 2) C S (oM0 cI cB ad) rfl (ct_X12_isBehindNone l D cI cB cL ad x5 x2 u h18) mw_287 mw_286 mw_288 mw_5 mw_285 hdX12_isBehindNone ⟨Nat.le_trans (Nat.le_of_ble_eq_true rfl) hR.1, Nat.le_trans (Nat.le_of_ble_eq_true rfl) hR.2⟩ rfl hsz ⟨Nat.zero_le _, Nat.zero_le _⟩ (Nat.le_of_ble_eq_true rfl) dX12_line_100 rfl (fun H locs S => ?_)
        refine lv_if_eq (tgt := 111) hx hb dX12_line_103 (by decide) (fun c20 => ?_) (fun c20 => ?_)
        · have h := cnd_t c20 h
          exact wX12_line_111 C hR u hK66 ih x1 x2 x3 x4 x5 (lv_sub hl [0, 1, 2, 3, 4, 5] rfl) S h
        · have h := cnd_f c20 h
          refine lv_iload hx hb dX12_line_106 (lv_at hl 5 rfl) ?_
          refine lv_goto (tgt := 112) hx hb dX12_line_108 (by decide) ?_
          exact wX12_line_112 C hR u hK66 ih x1 x2 x4 x5 x5 (lv_sub hl [0, 1, 2, 4, 5] rfl) S h
set_option maxRecDepth 10000 in
set_option maxHeartbeats 4000000 in
theorem wX12_line_66 (C : cx D (tyl cI cB cL) A RX12 cX12_line 6 (some .int) p s m args c meth) (hR : 5 ≤ R.frames ∧ 112 ≤ R.locals) {r : Int32} {σ' : Sg} : ∀ (n : Nat) (x1 : Int32) (x2 : Int32) (x3 : Int32) (x4 : Int32) (u : Sg) (H : Heap) (locs : List Loc) (ls : Array Slot), lv_has ls 6 [(0, .ref (ad 0)), (1, .int x1), (2, .int x2), (3, .int x3), (4, .int x4)] → st D (wM cI cB ad) A s u H locs → fX12_line_66 n x1 x2 x3 x4 u = some (r, σ') → W p l e R s m args below meth c H locs 0 0 (MQ below (qI D (tyl cI cB cL) (wM cI cB ad) A r σ') args s 0 0 A) (F0 m 66 ls []) := by
  have hx := C.1
  have hb := C.2.1
  intro n
  induction n with
  | zero =>
    intro x1 x2 x3 x4 u H locs ls hl S h
    cases h
  | succ n ih =>
    intro x1 x2 x3 x4 u H locs ls hl S h
    rw [fX12_line_66] at h
    have hsz := hl.1
    refine lv_iload hx hb dX12_line_66 (lv_at hl 4 rfl) ?_
    refine lv_iload_n hx hb dX12_line_68 rfl (lv_at hl 1 rfl) ?_
    refine lv_icmp_gt (tgt := 147) hx hb dX12_line_69 (by decide) (fun c8 => ?_) (fun c8 => ?_)
    · have h := cnd_t c8 h
      refine lv_iload_n hx hb dX12_line_147 rfl (lv_at hl 3 rfl) ?_
      exact q_iret C S (rt_S h) dX12_line_148
    · have h := cnd_f c8 h
      refine lv_iconst (v := (-1)) hx hb dX12_line_72 (by decide) ?_
      refine lv_istore_n (lv' := [(3, .int (-1)), (0, .ref (ad 0)), (1, .int x1), (2, .int x2), (4, .int x4)]) hx hb dX12_line_73 rfl hl (by decide) rfl (fun ls hl => ?_)
      have hsz := hl.1
      refine lv_aload_n hx hb dX12_line_74 rfl (lv_at hl 1 rfl) ?_
      obtain ⟨r10, h9, h⟩ := obr_some h
      refine q_callVi (As := []) (na := 0) C S (oM0 cI cB ad) rfl (ct_X12_messages l D cI cB cL ad u h9) mw_31 mw_30 mw_32 mw_5 mw_29 hdX12_messages ⟨Nat.le_trans (Nat.le_of_ble_eq_true rfl) hR.1, Nat.le_trans (Nat.le_of_ble_eq_true rfl) hR.2⟩ rfl hsz ⟨Nat.zero_le _, Nat.zero_le _⟩ (Nat.le_of_ble_eq_true rfl) dX12_line_75 rfl (fun H locs S => ?_)
      refine lv_iconst (v := 1) hx hb dX12_line_78 (by decide) ?_
      refine lv_isub hx hb dX12_line_79 ?_
      refine lv_topi (fun v11 ev11 => ?_)
      have h := bnd_of ev11 h
      refine lv_istore (lv' := [(5, .int v11), (3, .int (-1)), (0, .ref (ad 0)), (1, .int x1), (2, .int x2), (4, .int x4)]) hx hb dX12_line_80 hl (by decide) rfl (fun ls hl => ?_)
      have hsz := hl.1
      exact wX12_line_82 C hR ih FU x1 x2 (-1) x4 v11 u H locs ls (lv_sub hl [2, 3, 4, 1, 5, 0] rfl) S h
set_option maxRecDepth 10000 in
set_option maxHeartbeats 4000000 in
theorem wX12_line_37 (C : cx D (tyl cI cB cL) A RX12 cX12_line 6 (some .int) p s m args c meth) (hR : 5 ≤ R.frames ∧ 112 ≤ R.locals) {r : Int32} {σ' : Sg} (u : Sg) {K13 : Int32 → Int32 → Int32 → Sg → Option (Int32 × Sg)} (hK13 : ∀ (y1 : Int32) (y2 : Int32) (y3 : Int32) (v : Sg) (H : Heap) (locs : List Loc) (ls : Array Slot), lv_has ls 6 [(0, .ref (ad 0)), (1, .int y1), (2, .int y2), (3, .int y3)] → st D (wM cI cB ad) A s v H locs → K13 y1 y2 y3 v = some (r, σ') → W p l e R s m args below meth c H locs 0 0 (MQ below (qI D (tyl cI cB cL) (wM cI cB ad) A r σ') args s 0 0 A) (F0 m 13 ls [])) (x1 : Int32) (x3 : Int32) (t0 : Int32) (t1 : Int32) {H : Heap} {locs : List Loc} {ls : Array Slot} (hl : lv_has ls 6 [(0, .ref (ad 0)), (1, .int x1), (3, .int x3)]) (S : st D (wM cI cB ad) A s u H locs) (h : fX12_line_37 K13 x1 x3 t0 t1 u = some (r, σ')) : W p l e R s m args below meth c H locs 0 0 (MQ below (qI D (tyl cI cB cL) (wM cI cB ad) A r σ') args s 0 0 A) (F0 m 37 ls [.int t0, .int t1]) := by
  have hx := C.1
  have hb := C.2.1
  have hsz := hl.1
  unfold fX12_line_37 at h
  refine lv_ior hx hb dX12_line_37 ?_
  refine lv_topi (fun v24 ev24 => ?_)
  have h := bnd_of ev24 h
  refine lv_istore_n (lv' := [(2, .int v24), (0, .ref (ad 0)), (1, .int x1), (3, .int x3)]) hx hb dX12_line_38 rfl hl (by decide) rfl (fun ls hl => ?_)
  have hsz := hl.1
  obtain ⟨v25, ev25⟩ : ∃ y : Int32, y = x3 + 1 := ⟨_, rfl⟩
  have h := bnd_of ev25 h
  refine lv_iinc (v := v25) (lv' := [(3, .int v25), (2, .int v24), (0, .ref (ad 0)), (1, .int x1)]) hx hb dX12_line_39 hl (k := 3) rfl (by rw [ev25]; rfl) (by decide) rfl (fun ls hl => ?_)
  have hsz := hl.1
  refine lv_goto (tgt := 13) hx hb dX12_line_42 (by decide) ?_
  exact hK13 x1 v24 v25 u H locs ls (lv_sub hl [2, 3, 1, 0] rfl) S h
set_option maxRecDepth 10000 in
set_option maxHeartbeats 4000000 in
theorem wX12_line_13 (C : cx D (tyl cI cB cL) A RX12 cX12_line 6 (some .int) p s m args c meth) (hR : 5 ≤ R.frames ∧ 112 ≤ R.locals) {r : Int32} {σ' : Sg} : ∀ (n : Nat) (x1 : Int32) (x2 : Int32) (x3 : Int32) (u : Sg) (H : Heap) (locs : List Loc) (ls : Array Slot), lv_has ls 6 [(0, .ref (ad 0)), (1, .int x1), (2, .int x2), (3, .int x3)] → st D (wM cI cB ad) A s u H locs → fX12_line_13 n x1 x2 x3 u = some (r, σ') → W p l e R s m args below meth c H locs 0 0 (MQ below (qI D (tyl cI cB cL) (wM cI cB ad) A r σ') args s 0 0 A) (F0 m 13 ls []) := by
  have hx := C.1
  have hb := C.2.1
  intro n
  induction n with
  | zero =>
    intro x1 x2 x3 u H locs ls hl S h
    cases h
  | succ n ih =>
    intro x1 x2 x3 u H locs ls hl S h
    rw [fX12_line_13] at h
    have hsz := hl.1
    refine lv_iload_n hx hb dX12_line_13 rfl (lv_at hl 3 rfl) ?_
    refine lv_aload_n hx hb dX12_line_14 rfl (lv_at hl 0 rfl) ?_
    obtain ⟨r5, h4, h⟩ := obr_some h
    refine q_callVi (As := []) (na := 0) C S (oM0 cI cB ad) rfl (ct_X12_messages l D cI cB cL ad u h4) mw_31 mw_30 mw_32 mw_5 mw_29 hdX12_messages ⟨Nat.le_trans (Nat.le_of_ble_eq_true rfl) hR.1, Nat.le_trans (Nat.le_of_ble_eq_true rfl) hR.2⟩ rfl hsz ⟨Nat.zero_le _, Nat.zero_le _⟩ (Nat.le_of_ble_eq_true rfl) dX12_line_15 rfl (fun H locs S => ?_)
    refine lv_icmp_ge (tgt := 45) hx hb dX12_line_18 (by decide) (fun c6 => ?_) (fun c6 => ?_)
    · have h := cnd_t c6 h
      refine lv_iload_n hx hb dX12_line_45 rfl (lv_at hl 1 rfl) ?_
      refine lv_iconst (v := 0) hx hb dX12_line_46 (by decide) ?_
      refine lv_iload_n hx hb dX12_line_47 rfl (lv_at hl 2 rfl) ?_
      refine q_callP (As := [.int x2]) (na := 1) C S (ct_J6_bitCount_0f7a4 l D cI cB cL x2) mw_239 mw_238 mw_237 mw_236 hdJ6_bitCount_0f7a4 ⟨Nat.le_trans (Nat.le_of_ble_eq_true rfl) hR.1, Nat.le_trans (Nat.le_of_ble_eq_true rfl) hR.2⟩ rfl hsz ⟨Nat.zero_le _, Nat.zero_le _⟩ (Nat.le_of_ble_eq_true rfl) dX12_line_48 rfl (fun H locs S => ?_)
      refine lv_iconst (v := 1) hx hb dX12_line_51 (by decide) ?_
      refine lv_isub hx hb dX12_line_52 ?_
      refine q_callP (As := [.int x1, .int 0, .int ((fJ6_bitCount_0f7a4 x2) - 1)]) (na := 3) C S (ct_X12_in l D cI cB cL x1 0 ((fJ6_bitCount_0f7a4 x2) - 1)) mw_28 mw_27 mw_5 mw_26 hdX12_in ⟨Nat.le_trans (Nat.le_of_ble_eq_true rfl) hR.1, Nat.le_trans (Nat.le_of_ble_eq_true rfl) hR.2⟩ rfl hsz ⟨Nat.zero_le _, Nat.zero_le _⟩ (Nat.le_of_ble_eq_true rfl) dX12_line_53 rfl (fun H locs S => ?_)
      refine lv_if_ne (tgt := 61) hx hb dX12_line_56 (by decide) (fun c7 => ?_) (fun c7 => ?_)
      · have h := cnd_f c7 h
        refine lv_iconst (v := (-1)) hx hb dX12_line_61 (by decide) ?_
        refine lv_istore_n (lv' := [(3, .int (-1)), (0, .ref (ad 0)), (1, .int x1), (2, .int x2)]) hx hb dX12_line_62 rfl hl (by decide) rfl (fun ls hl => ?_)
        have hsz := hl.1
        refine lv_iconst (v := 0) hx hb dX12_line_63 (by decide) ?_
        refine lv_istore (lv' := [(4, .int 0), (3, .int (-1)), (0, .ref (ad 0)), (1, .int x1), (2, .int x2)]) hx hb dX12_line_64 hl (by decide) rfl (fun ls hl => ?_)
        have hsz := hl.1
        exact wX12_line_66 C hR FU x1 x2 (-1) 0 u H locs ls (lv_sub hl [2, 3, 4, 1, 0] rfl) S h
      · have h := cnd_t c7 h
        refine lv_iconst (v := (-1)) hx hb dX12_line_59 (by decide) ?_
        exact q_iret C S (rt_S h) dX12_line_60
    · have h := cnd_f c6 h
      refine lv_iload_n hx hb dX12_line_21 rfl (lv_at hl 2 rfl) ?_
      refine lv_aload_n hx hb dX12_line_22 rfl (lv_at hl 0 rfl) ?_
      refine lv_iload_n hx hb dX12_line_23 rfl (lv_at hl 3 rfl) ?_
      obtain ⟨r22, h21, h⟩ := obr_some h
      refine q_callVi (As := [.int x3]) (na := 1) C S (oM0 cI cB ad) rfl (ct_X12_deliveredBy l D cI cB cL ad x3 u h21) mw_291 mw_290 mw_292 mw_5 mw_289 hdX12_deliveredBy ⟨Nat.le_trans (Nat.le_of_ble_eq_true rfl) hR.1, Nat.le_trans (Nat.le_of_ble_eq_true rfl) hR.2⟩ rfl hsz ⟨Nat.zero_le _, Nat.zero_le _⟩ (Nat.le_of_ble_eq_true rfl) dX12_line_24 rfl (fun H locs S => ?_)
      refine lv_if_eq (tgt := 36) hx hb dX12_line_27 (by decide) (fun c23 => ?_) (fun c23 => ?_)
      · have h := cnd_t c23 h
        refine lv_iconst (v := 0) hx hb dX12_line_36 (by decide) ?_
        exact wX12_line_37 C hR u ih x1 x3 0 x2 (lv_sub hl [0, 1, 3] rfl) S h
      · have h := cnd_f c23 h
        refine lv_iconst (v := 1) hx hb dX12_line_30 (by decide) ?_
        refine lv_iload_n hx hb dX12_line_31 rfl (lv_at hl 3 rfl) ?_
        refine lv_ishl hx hb dX12_line_32 ?_
        refine lv_goto (tgt := 37) hx hb dX12_line_33 (by decide) ?_
        exact wX12_line_37 C hR u ih x1 x3 ((1 : Int32) <<< ((x3 &&& 31 : Int32))) x2 (lv_sub hl [0, 1, 3] rfl) S h
set_option maxRecDepth 10000 in
set_option maxHeartbeats 4000000 in
theorem wX12_line_0 (C : cx D (tyl cI cB cL) A RX12 cX12_line 6 (some .int) p s m args c meth) (hR : 5 ≤ R.frames ∧ 112 ≤ R.locals) {r : Int32} {σ' : Sg} (u : Sg) (x1 : Int32) {H : Heap} {locs : List Loc} {ls : Array Slot} (hl : lv_has ls 6 [(0, .ref (ad 0)), (1, .int x1)]) (S : st D (wM cI cB ad) A s u H locs) (h : fX12_line_0 x1 u = some (r, σ')) : W p l e R s m args below meth c H locs 0 0 (MQ below (qI D (tyl cI cB cL) (wM cI cB ad) A r σ') args s 0 0 A) (F0 m 0 ls []) := by
  have hx := C.1
  have hb := C.2.1
  have hsz := hl.1
  unfold fX12_line_0 at h
  refine lv_aload_n hx hb dX12_line_0 rfl (lv_at hl 0 rfl) ?_
  refine lv_iconst (v := 0) hx hb dX12_line_1 (by decide) ?_
  obtain ⟨u1, eu1⟩ : ∃ z : Sg, z = s2 u 0 0 0 := ⟨_, rfl⟩
  have h := bnd_of eu1 h
  refine q_put C S (oM0 cI cB ad) rfl iwX12 tyX12 tyX12_ok nmX12 0 (by decide) mw_11 rfl (iM0_0 cI cB ad) rfl rfl dX12_line_2 eu1 (fun H locs S => ?_)
  refine lv_aload_n hx hb dX12_line_5 rfl (lv_at hl 0 rfl) ?_
  obtain ⟨u3, h2, h⟩ := obr_some h
  refine q_callVv (As := []) (na := 0) C S (oM0 cI cB ad) rfl (ct_X12_laysAheads l D cI cB cL ad u1 h2) mw_283 mw_282 mw_284 mw_5 mw_281 hdX12_laysAheads ⟨Nat.le_trans (Nat.le_of_ble_eq_true rfl) hR.1, Nat.le_trans (Nat.le_of_ble_eq_true rfl) hR.2⟩ rfl hsz ⟨Nat.zero_le _, Nat.zero_le _⟩ (Nat.le_of_ble_eq_true rfl) dX12_line_6 rfl (fun H locs S => ?_)
  refine lv_iconst (v := 0) hx hb dX12_line_9 (by decide) ?_
  refine lv_istore_n (lv' := [(2, .int 0), (0, .ref (ad 0)), (1, .int x1)]) hx hb dX12_line_10 rfl hl (by decide) rfl (fun ls hl => ?_)
  have hsz := hl.1
  refine lv_iconst (v := 0) hx hb dX12_line_11 (by decide) ?_
  refine lv_istore_n (lv' := [(3, .int 0), (2, .int 0), (0, .ref (ad 0)), (1, .int x1)]) hx hb dX12_line_12 rfl hl (by decide) rfl (fun ls hl => ?_)
  have hsz := hl.1
  exact wX12_line_13 C hR FU x1 0 0 u3 H locs ls (lv_sub hl [2, 3, 1, 0] rfl) S h
set_option maxRecDepth 10000 in
set_option maxHeartbeats 4000000 in
theorem ct_X12_line (l : Launch) (D : va_G) (cI cB cL : ClassId) (ad : Nat → Nat) (x1 : Int32) (u : Sg) {r : Int32} {σ' : Sg} (h : fX12_line x1 u = some (r, σ')) : metI l D (tyl cI cB cL) yX12_line cX12_line 6 (some .int) 5 112 (wM cI cB ad) [.ref (ad 0), .int x1] u r σ' := by
  intro sz
  refine Met.ofW (cc := cX12_line) (maxL := 6) (ret := (some .int)) (by decide) rfl ?_
  intro p e s m args below meth c s₁ B hml hv
  obtain ⟨rfl, C, S⟩ := q_entry B hml hv
  have hl := lv_entry ([.ref (ad 0), .int x1]) (n := 6) (Nat.le_of_ble_eq_true rfl)
  rw [lg_entry_eq]
  generalize (lg_sl ([.ref (ad 0), .int x1]) ++ List.replicate (6 - (lg_sl ([.ref (ad 0), .int x1])).length) Slot.unset).toArray = ls at hl ⊢
  exact wX12_line_0 C ⟨Nat.le_refl _, Nat.le_refl _⟩ u x1 (lv_sub hl [0, 1] rfl) S h
noncomputable def fX12_parted_85 (K34 : Int32 → Int32 → Int32 → Int32 → Sg → Option (Int32 × Sg)) (K46 : Int32 → Int32 → Int32 → Int32 → Int32 → Sg → Option (Int32 × Sg)) (x1 : Int32) (x2 : Int32) (x4 : Int32) (x5 : Int32) (t0 : Int32) (t1 : Int32) (u : Sg) : Option (Int32 × Sg) := bnd (t1 + t0) (fun v20 => bnd (x5 + 1) (fun v21 => K46 x1 x2 v20 x4 v21 u))
noncomputable def fX12_parted_84 (K34 : Int32 → Int32 → Int32 → Int32 → Sg → Option (Int32 × Sg)) (K46 : Int32 → Int32 → Int32 → Int32 → Int32 → Sg → Option (Int32 × Sg)) (x1 : Int32) (x2 : Int32) (x4 : Int32) (x5 : Int32) (t0 : Int32) (u : Sg) : Option (Int32 × Sg) := fX12_parted_85 K34 K46 x1 x2 x4 x5 0 t0 u
noncomputable def fX12_parted_46 (K34 : Int32 → Int32 → Int32 → Int32 → Sg → Option (Int32 × Sg)) : Nat → Int32 → Int32 → Int32 → Int32 → Int32 → Sg → Option (Int32 × Sg)
  | 0, _, _, _, _, _, _ => none
  | n + 1, x1, x2, x3, x4, x5, u => obr (fX12_messages u) (fun r14 => cnd (r14 ≤ x5) (bnd (x4 + 1) (fun v16 => K34 x1 x2 x3 v16 u)) (obr (fX12_hasAhead x1 x4 x5 u) (fun r18 => cnd (r18 = 0) (fX12_parted_84 K34 (fun a0 a1 a2 a3 a4 w => fX12_parted_46 K34 n a0 a1 a2 a3 a4 w) x1 x2 x4 x5 x3 u) (obr (fX12_hasAhead x2 x5 x4 u) (fun r23 => cnd (r23 = 0) (fX12_parted_84 K34 (fun a0 a1 a2 a3 a4 w => fX12_parted_46 K34 n a0 a1 a2 a3 a4 w) x1 x2 x4 x5 x3 u) (fX12_parted_85 K34 (fun a0 a1 a2 a3 a4 w => fX12_parted_46 K34 n a0 a1 a2 a3 a4 w) x1 x2 x4 x5 1 x3 u))))))
noncomputable def fX12_parted_34 : Nat → Int32 → Int32 → Int32 → Int32 → Sg → Option (Int32 × Sg)
  | 0, _, _, _, _, _ => none
  | n + 1, x1, x2, x3, x4, u => obr (fX12_messages u) (fun r11 => cnd (r11 ≤ x4) (some (x3, u)) (fX12_parted_46 (fun a0 a1 a2 a3 w => fX12_parted_34 n a0 a1 a2 a3 w) FU x1 x2 x3 x4 0 u))
noncomputable def fX12_parted_20 (x1 : Int32) (x2 : Int32) (t0 : Int32) (u : Sg) : Option (Int32 × Sg) := obd (fX12_throwsIf t0 2 u) (fun r7 u8 => cnd (r7 = 0) (fX12_parted_34 FU x1 x2 0 0 u8) (some (0, u8)))
noncomputable def fX12_parted_0 (x1 : Int32) (x2 : Int32) (u : Sg) : Option (Int32 × Sg) := obd (fX12_noTwo x1 x2 u) (fun r2 u3 => cnd (r2 = 0) (cnd (x1 = x2) (fX12_parted_20 x1 x2 1 u3) (fX12_parted_20 x1 x2 0 u3)) (some (0, u3)))
noncomputable def fX12_parted (x1 : Int32) (x2 : Int32) (u : Sg) : Option (Int32 × Sg) := fX12_parted_0 x1 x2 u
set_option maxRecDepth 10000 in
set_option maxHeartbeats 4000000 in
theorem wX12_parted_85 (C : cx D (tyl cI cB cL) A RX12 cX12_parted 6 (some .int) p s m args c meth) (hR : 3 ≤ R.frames ∧ 69 ≤ R.locals) {r : Int32} {σ' : Sg} (u : Sg) {K34 : Int32 → Int32 → Int32 → Int32 → Sg → Option (Int32 × Sg)} (hK34 : ∀ (y1 : Int32) (y2 : Int32) (y3 : Int32) (y4 : Int32) (v : Sg) (H : Heap) (locs : List Loc) (ls : Array Slot), lv_has ls 6 [(0, .ref (ad 0)), (1, .int y1), (2, .int y2), (3, .int y3), (4, .int y4)] → st D (wM cI cB ad) A s v H locs → K34 y1 y2 y3 y4 v = some (r, σ') → W p l e R s m args below meth c H locs 0 0 (MQ below (qI D (tyl cI cB cL) (wM cI cB ad) A r σ') args s 0 0 A) (F0 m 34 ls [])) {K46 : Int32 → Int32 → Int32 → Int32 → Int32 → Sg → Option (Int32 × Sg)} (hK46 : ∀ (y1 : Int32) (y2 : Int32) (y3 : Int32) (y4 : Int32) (y5 : Int32) (v : Sg) (H : Heap) (locs : List Loc) (ls : Array Slot), lv_has ls 6 [(0, .ref (ad 0)), (1, .int y1), (2, .int y2), (3, .int y3), (4, .int y4), (5, .int y5)] → st D (wM cI cB ad) A s v H locs → K46 y1 y2 y3 y4 y5 v = some (r, σ') → W p l e R s m args below meth c H locs 0 0 (MQ below (qI D (tyl cI cB cL) (wM cI cB ad) A r σ') args s 0 0 A) (F0 m 46 ls [])) (x1 : Int32) (x2 : Int32) (x4 : Int32) (x5 : Int32) (t0 : Int32) (t1 : Int32) {H : Heap} {locs : List Loc} {ls : Array Slot} (hl : lv_has ls 6 [(0, .ref (ad 0)), (1, .int x1), (2, .int x2), (4, .int x4), (5, .int x5)]) (S : st D (wM cI cB ad) A s u H locs) (h : fX12_parted_85 K34 K46 x1 x2 x4 x5 t0 t1 u = some (r, σ')) : W p l e R s m args below meth c H locs 0 0 (MQ below (qI D (tyl cI cB cL) (wM cI cB ad) A r σ') args s 0 0 A) (F0 m 85 ls [.int t0, .int t1]) := by
  have hx := C.1
  have hb := C.2.1
  have hsz := hl.1
  unfold fX12_parted_85 at h
  refine lv_iadd hx hb dX12_parted_85 ?_
  refine lv_topi (fun v20 ev20 => ?_)
  have h := bnd_of ev20 h
  refine lv_istore_n (lv' := [(3, .int v20), (0, .ref (ad 0)), (1, .int x1), (2, .int x2), (4, .int x4), (5, .int x5)]) hx hb dX12_parted_86 rfl hl (by decide) rfl (fun ls hl => ?_)
  have hsz := hl.1
  obtain ⟨v21, ev21⟩ : ∃ y : Int32, y = x5 + 1 := ⟨_, rfl⟩
  have h := bnd_of ev21 h
  refine lv_iinc (v := v21) (lv' := [(5, .int v21), (3, .int v20), (0, .ref (ad 0)), (1, .int x1), (2, .int x2), (4, .int x4)]) hx hb dX12_parted_87 hl (k := 5) rfl (by rw [ev21]; rfl) (by decide) rfl (fun ls hl => ?_)
  have hsz := hl.1
  refine lv_goto (tgt := 46) hx hb dX12_parted_90 (by decide) ?_
  exact hK46 x1 x2 v20 x4 v21 u H locs ls (lv_sub hl [2, 3, 4, 1, 5, 0] rfl) S h
set_option maxRecDepth 10000 in
set_option maxHeartbeats 4000000 in
theorem wX12_parted_84 (C : cx D (tyl cI cB cL) A RX12 cX12_parted 6 (some .int) p s m args c meth) (hR : 3 ≤ R.frames ∧ 69 ≤ R.locals) {r : Int32} {σ' : Sg} (u : Sg) {K34 : Int32 → Int32 → Int32 → Int32 → Sg → Option (Int32 × Sg)} (hK34 : ∀ (y1 : Int32) (y2 : Int32) (y3 : Int32) (y4 : Int32) (v : Sg) (H : Heap) (locs : List Loc) (ls : Array Slot), lv_has ls 6 [(0, .ref (ad 0)), (1, .int y1), (2, .int y2), (3, .int y3), (4, .int y4)] → st D (wM cI cB ad) A s v H locs → K34 y1 y2 y3 y4 v = some (r, σ') → W p l e R s m args below meth c H locs 0 0 (MQ below (qI D (tyl cI cB cL) (wM cI cB ad) A r σ') args s 0 0 A) (F0 m 34 ls [])) {K46 : Int32 → Int32 → Int32 → Int32 → Int32 → Sg → Option (Int32 × Sg)} (hK46 : ∀ (y1 : Int32) (y2 : Int32) (y3 : Int32) (y4 : Int32) (y5 : Int32) (v : Sg) (H : Heap) (locs : List Loc) (ls : Array Slot), lv_has ls 6 [(0, .ref (ad 0)), (1, .int y1), (2, .int y2), (3, .int y3), (4, .int y4), (5, .int y5)] → st D (wM cI cB ad) A s v H locs → K46 y1 y2 y3 y4 y5 v = some (r, σ') → W p l e R s m args below meth c H locs 0 0 (MQ below (qI D (tyl cI cB cL) (wM cI cB ad) A r σ') args s 0 0 A) (F0 m 46 ls [])) (x1 : Int32) (x2 : Int32) (x4 : Int32) (x5 : Int32) (t0 : Int32) {H : Heap} {locs : List Loc} {ls : Array Slot} (hl : lv_has ls 6 [(0, .ref (ad 0)), (1, .int x1), (2, .int x2), (4, .int x4), (5, .int x5)]) (S : st D (wM cI cB ad) A s u H locs) (h : fX12_parted_84 K34 K46 x1 x2 x4 x5 t0 u = some (r, σ')) : W p l e R s m args below meth c H locs 0 0 (MQ below (qI D (tyl cI cB cL) (wM cI cB ad) A r σ') args s 0 0 A) (F0 m 84 ls [.int t0]) := by
  have hx := C.1
  have hb := C.2.1
  have hsz := hl.1
  unfold fX12_parted_84 at h
  refine lv_iconst (v := 0) hx hb dX12_parted_84 (by decide) ?_
  exact wX12_parted_85 C hR u hK34 hK46 x1 x2 x4 x5 0 t0 (lv_sub hl [0, 1, 2, 3, 4] rfl) S h
set_option maxRecDepth 10000 in
set_option maxHeartbeats 4000000 in
theorem wX12_parted_46 (C : cx D (tyl cI cB cL) A RX12 cX12_parted 6 (some .int) p s m args c meth) (hR : 3 ≤ R.frames ∧ 69 ≤ R.locals) {r : Int32} {σ' : Sg} {K34 : Int32 → Int32 → Int32 → Int32 → Sg → Option (Int32 × Sg)} (hK34 : ∀ (y1 : Int32) (y2 : Int32) (y3 : Int32) (y4 : Int32) (v : Sg) (H : Heap) (locs : List Loc) (ls : Array Slot), lv_has ls 6 [(0, .ref (ad 0)), (1, .int y1), (2, .int y2), (3, .int y3), (4, .int y4)] → st D (wM cI cB ad) A s v H locs → K34 y1 y2 y3 y4 v = some (r, σ') → W p l e R s m args below meth c H locs 0 0 (MQ below (qI D (tyl cI cB cL) (wM cI cB ad) A r σ') args s 0 0 A) (F0 m 34 ls [])) : ∀ (n : Nat) (x1 : Int32) (x2 : Int32) (x3 : Int32) (x4 : Int32) (x5 : Int32) (u : Sg) (H : Heap) (locs : List Loc) (ls : Array Slot), lv_has ls 6 [(0, .ref (ad 0)), (1, .int x1), (2, .int x2), (3, .int x3), (4, .int x4), (5, .int x5)] → st D (wM cI cB ad) A s u H locs → fX12_parted_46 K34 n x1 x2 x3 x4 x5 u = some (r, σ') → W p l e R s m args below meth c H locs 0 0 (MQ below (qI D (tyl cI cB cL) (wM cI cB ad) A r σ') args s 0 0 A) (F0 m 46 ls []) := by
  have hx := C.1
  have hb := C.2.1
  intro n
  induction n with
  | zero =>
    intro x1 x2 x3 x4 x5 u H locs ls hl S h
    cases h
  | succ n ih =>
    intro x1 x2 x3 x4 x5 u H locs ls hl S h
    rw [fX12_parted_46] at h
    have hsz := hl.1
    refine lv_iload hx hb dX12_parted_46 (lv_at hl 5 rfl) ?_
    refine lv_aload_n hx hb dX12_parted_48 rfl (lv_at hl 0 rfl) ?_
    obtain ⟨r14, h13, h⟩ := obr_some h
    refine q_callVi (As := []) (na := 0) C S (oM0 cI cB ad) rfl (ct_X12_messages l D cI cB cL ad u h13) mw_31 mw_30 mw_32 mw_5 mw_29 hdX12_messages ⟨Nat.le_trans (Nat.le_of_ble_eq_true rfl) hR.1, Nat.le_trans (Nat.le_of_ble_eq_true rfl) hR.2⟩ rfl hsz ⟨Nat.zero_le _, Nat.zero_le _⟩ (Nat.le_of_ble_eq_true rfl) dX12_parted_49 rfl (fun H locs S => ?_)
    refine lv_icmp_ge (tgt := 93) hx hb dX12_parted_52 (by decide) (fun c15 => ?_) (fun c15 => ?_)
    · have h := cnd_t c15 h
      obtain ⟨v16, ev16⟩ : ∃ y : Int32, y = x4 + 1 := ⟨_, rfl⟩
      have h := bnd_of ev16 h
      refine lv_iinc (v := v16) (lv' := [(4, .int v16), (0, .ref (ad 0)), (1, .int x1), (2, .int x2), (3, .int x3), (5, .int x5)]) hx hb dX12_parted_93 hl (k := 4) rfl (by rw [ev16]; rfl) (by decide) rfl (fun ls hl => ?_)
      have hsz := hl.1
      refine lv_goto (tgt := 34) hx hb dX12_parted_96 (by decide) ?_
      exact hK34 x1 x2 x3 v16 u H locs ls (lv_sub hl [1, 2, 3, 4, 0] rfl) S h
    · have h := cnd_f c15 h
      refine lv_iload_n hx hb dX12_parted_55 rfl (lv_at hl 3 rfl) ?_
      refine lv_aload_n hx hb dX12_parted_56 rfl (lv_at hl 0 rfl) ?_
      refine lv_iload_n hx hb dX12_parted_57 rfl (lv_at hl 1 rfl) ?_
      refine lv_iload hx hb dX12_parted_58 (lv_at hl 4 rfl) ?_
      refine lv_iload hx hb dX12_parted_60 (lv_at hl 5 rfl) ?_
      obtain ⟨r18, h17, h⟩ := obr_some h
      refine q_callVi (As := [.int x1, .int x4, .int x5]) (na := 3) C S (oM0 cI cB ad) rfl (ct_X12_hasAhead l D cI cB cL ad x1 x4 x5 u h17) mw_279 mw_278 mw_280 mw_5 mw_277 hdX12_hasAhead ⟨Nat.le_trans (Nat.le_of_ble_eq_true rfl) hR.1, Nat.le_trans (Nat.le_of_ble_eq_true rfl) hR.2⟩ rfl hsz ⟨Nat.zero_le _, Nat.zero_le _⟩ (Nat.le_of_ble_eq_true rfl) dX12_parted_62 rfl (fun H locs S => ?_)
      refine lv_if_eq (tgt := 84) hx hb dX12_parted_65 (by decide) (fun c19 => ?_) (fun c19 => ?_)
      · have h := cnd_t c19 h
        exact wX12_parted_84 C hR u hK34 ih x1 x2 x4 x5 x3 (lv_sub hl [0, 1, 2, 4, 5] rfl) S h
      · have h := cnd_f c19 h
        refine lv_aload_n hx hb dX12_parted_68 rfl (lv_at hl 0 rfl) ?_
        refine lv_iload_n hx hb dX12_parted_69 rfl (lv_at hl 2 rfl) ?_
        refine lv_iload hx hb dX12_parted_70 (lv_at hl 5 rfl) ?_
        refine lv_iload hx hb dX12_parted_72 (lv_at hl 4 rfl) ?_
        obtain ⟨r23, h22, h⟩ := obr_some h
        refine q_callVi (As := [.int x2, .int x5, .int x4]) (na := 3) C S (oM0 cI cB ad) rfl (ct_X12_hasAhead l D cI cB cL ad x2 x5 x4 u h22) mw_279 mw_278 mw_280 mw_5 mw_277 hdX12_hasAhead ⟨Nat.le_trans (Nat.le_of_ble_eq_true rfl) hR.1, Nat.le_trans (Nat.le_of_ble_eq_true rfl) hR.2⟩ rfl hsz ⟨Nat.zero_le _, Nat.zero_le _⟩ (Nat.le_of_ble_eq_true rfl) dX12_parted_74 rfl (fun H locs S => ?_)
        refine lv_if_eq (tgt := 84) hx hb dX12_parted_77 (by decide) (fun c24 => ?_) (fun c24 => ?_)
        · have h := cnd_t c24 h
          exact wX12_parted_84 C hR u hK34 ih x1 x2 x4 x5 x3 (lv_sub hl [0, 1, 2, 4, 5] rfl) S h
        · have h := cnd_f c24 h
          refine lv_iconst (v := 1) hx hb dX12_parted_80 (by decide) ?_
          refine lv_goto (tgt := 85) hx hb dX12_parted_81 (by decide) ?_
          exact wX12_parted_85 C hR u hK34 ih x1 x2 x4 x5 1 x3 (lv_sub hl [0, 1, 2, 4, 5] rfl) S h
set_option maxRecDepth 10000 in
set_option maxHeartbeats 4000000 in
theorem wX12_parted_34 (C : cx D (tyl cI cB cL) A RX12 cX12_parted 6 (some .int) p s m args c meth) (hR : 3 ≤ R.frames ∧ 69 ≤ R.locals) {r : Int32} {σ' : Sg} : ∀ (n : Nat) (x1 : Int32) (x2 : Int32) (x3 : Int32) (x4 : Int32) (u : Sg) (H : Heap) (locs : List Loc) (ls : Array Slot), lv_has ls 6 [(0, .ref (ad 0)), (1, .int x1), (2, .int x2), (3, .int x3), (4, .int x4)] → st D (wM cI cB ad) A s u H locs → fX12_parted_34 n x1 x2 x3 x4 u = some (r, σ') → W p l e R s m args below meth c H locs 0 0 (MQ below (qI D (tyl cI cB cL) (wM cI cB ad) A r σ') args s 0 0 A) (F0 m 34 ls []) := by
  have hx := C.1
  have hb := C.2.1
  intro n
  induction n with
  | zero =>
    intro x1 x2 x3 x4 u H locs ls hl S h
    cases h
  | succ n ih =>
    intro x1 x2 x3 x4 u H locs ls hl S h
    rw [fX12_parted_34] at h
    have hsz := hl.1
    refine lv_iload hx hb dX12_parted_34 (lv_at hl 4 rfl) ?_
    refine lv_aload_n hx hb dX12_parted_36 rfl (lv_at hl 0 rfl) ?_
    obtain ⟨r11, h10, h⟩ := obr_some h
    refine q_callVi (As := []) (na := 0) C S (oM0 cI cB ad) rfl (ct_X12_messages l D cI cB cL ad u h10) mw_31 mw_30 mw_32 mw_5 mw_29 hdX12_messages ⟨Nat.le_trans (Nat.le_of_ble_eq_true rfl) hR.1, Nat.le_trans (Nat.le_of_ble_eq_true rfl) hR.2⟩ rfl hsz ⟨Nat.zero_le _, Nat.zero_le _⟩ (Nat.le_of_ble_eq_true rfl) dX12_parted_37 rfl (fun H locs S => ?_)
    refine lv_icmp_ge (tgt := 99) hx hb dX12_parted_40 (by decide) (fun c12 => ?_) (fun c12 => ?_)
    · have h := cnd_t c12 h
      refine lv_iload_n hx hb dX12_parted_99 rfl (lv_at hl 3 rfl) ?_
      exact q_iret C S (rt_S h) dX12_parted_100
    · have h := cnd_f c12 h
      refine lv_iconst (v := 0) hx hb dX12_parted_43 (by decide) ?_
      refine lv_istore (lv' := [(5, .int 0), (0, .ref (ad 0)), (1, .int x1), (2, .int x2), (3, .int x3), (4, .int x4)]) hx hb dX12_parted_44 hl (by decide) rfl (fun ls hl => ?_)
      have hsz := hl.1
      exact wX12_parted_46 C hR ih FU x1 x2 x3 x4 0 u H locs ls (lv_sub hl [1, 2, 3, 4, 5, 0] rfl) S h
set_option maxRecDepth 10000 in
set_option maxHeartbeats 4000000 in
theorem wX12_parted_20 (C : cx D (tyl cI cB cL) A RX12 cX12_parted 6 (some .int) p s m args c meth) (hR : 3 ≤ R.frames ∧ 69 ≤ R.locals) {r : Int32} {σ' : Sg} (u : Sg) (x1 : Int32) (x2 : Int32) (t0 : Int32) {H : Heap} {locs : List Loc} {ls : Array Slot} (hl : lv_has ls 6 [(0, .ref (ad 0)), (1, .int x1), (2, .int x2)]) (S : st D (wM cI cB ad) A s u H locs) (h : fX12_parted_20 x1 x2 t0 u = some (r, σ')) : W p l e R s m args below meth c H locs 0 0 (MQ below (qI D (tyl cI cB cL) (wM cI cB ad) A r σ') args s 0 0 A) (F0 m 20 ls [.int t0, .ref (ad 0)]) := by
  have hx := C.1
  have hb := C.2.1
  have hsz := hl.1
  unfold fX12_parted_20 at h
  refine lv_iconst (v := 2) hx hb dX12_parted_20 (by decide) ?_
  obtain ⟨r7, u8, h6, h⟩ := obd_some h
  refine q_callVi (As := [.int t0, .int 2]) (na := 2) C S (oM0 cI cB ad) rfl (ct_X12_throwsIf l D cI cB cL ad t0 2 u h6) mw_210 mw_209 mw_211 mw_5 mw_208 hdX12_throwsIf ⟨Nat.le_trans (Nat.le_of_ble_eq_true rfl) hR.1, Nat.le_trans (Nat.le_of_ble_eq_true rfl) hR.2⟩ rfl hsz ⟨Nat.zero_le _, Nat.zero_le _⟩ (Nat.le_of_ble_eq_true rfl) dX12_parted_21 rfl (fun H locs S => ?_)
  refine lv_if_eq (tgt := 29) hx hb dX12_parted_24 (by decide) (fun c9 => ?_) (fun c9 => ?_)
  · have h := cnd_t c9 h
    refine lv_iconst (v := 0) hx hb dX12_parted_29 (by decide) ?_
    refine lv_istore_n (lv' := [(3, .int 0), (0, .ref (ad 0)), (1, .int x1), (2, .int x2)]) hx hb dX12_parted_30 rfl hl (by decide) rfl (fun ls hl => ?_)
    have hsz := hl.1
    refine lv_iconst (v := 0) hx hb dX12_parted_31 (by decide) ?_
    refine lv_istore (lv' := [(4, .int 0), (3, .int 0), (0, .ref (ad 0)), (1, .int x1), (2, .int x2)]) hx hb dX12_parted_32 hl (by decide) rfl (fun ls hl => ?_)
    have hsz := hl.1
    exact wX12_parted_34 C hR FU x1 x2 0 0 u8 H locs ls (lv_sub hl [2, 3, 4, 1, 0] rfl) S h
  · have h := cnd_f c9 h
    refine lv_iconst (v := 0) hx hb dX12_parted_27 (by decide) ?_
    exact q_iret C S (rt_S h) dX12_parted_28
set_option maxRecDepth 10000 in
set_option maxHeartbeats 4000000 in
theorem wX12_parted_0 (C : cx D (tyl cI cB cL) A RX12 cX12_parted 6 (some .int) p s m args c meth) (hR : 3 ≤ R.frames ∧ 69 ≤ R.locals) {r : Int32} {σ' : Sg} (u : Sg) (x1 : Int32) (x2 : Int32) {H : Heap} {locs : List Loc} {ls : Array Slot} (hl : lv_has ls 6 [(0, .ref (ad 0)), (1, .int x1), (2, .int x2)]) (S : st D (wM cI cB ad) A s u H locs) (h : fX12_parted_0 x1 x2 u = some (r, σ')) : W p l e R s m args below meth c H locs 0 0 (MQ below (qI D (tyl cI cB cL) (wM cI cB ad) A r σ') args s 0 0 A) (F0 m 0 ls []) := by
  have hx := C.1
  have hb := C.2.1
  have hsz := hl.1
  unfold fX12_parted_0 at h
  refine lv_aload_n hx hb dX12_parted_0 rfl (lv_at hl 0 rfl) ?_
  refine lv_iload_n hx hb dX12_parted_1 rfl (lv_at hl 1 rfl) ?_
  refine lv_iload_n hx hb dX12_parted_2 rfl (lv_at hl 2 rfl) ?_
  obtain ⟨r2, u3, h1, h⟩ := obd_some h
  refine q_callVi (As := [.int x1, .int x2]) (na := 2) C S (oM0 cI cB ad) rfl (ct_X12_noTwo l D cI cB cL ad x1 x2 u h1) mw_254 mw_253 mw_255 mw_5 mw_252 hdX12_noTwo ⟨Nat.le_trans (Nat.le_of_ble_eq_true rfl) hR.1, Nat.le_trans (Nat.le_of_ble_eq_true rfl) hR.2⟩ rfl hsz ⟨Nat.zero_le _, Nat.zero_le _⟩ (Nat.le_of_ble_eq_true rfl) dX12_parted_3 rfl (fun H locs S => ?_)
  refine lv_if_ne (tgt := 27) hx hb dX12_parted_6 (by decide) (fun c4 => ?_) (fun c4 => ?_)
  · have h := cnd_f c4 h
    refine lv_iconst (v := 0) hx hb dX12_parted_27 (by decide) ?_
    exact q_iret C S (rt_S h) dX12_parted_28
  · have h := cnd_t c4 h
    refine lv_aload_n hx hb dX12_parted_9 rfl (lv_at hl 0 rfl) ?_
    refine lv_iload_n hx hb dX12_parted_10 rfl (lv_at hl 1 rfl) ?_
    refine lv_iload_n hx hb dX12_parted_11 rfl (lv_at hl 2 rfl) ?_
    refine lv_icmp_ne (tgt := 19) hx hb dX12_parted_12 (by decide) (fun c5 => ?_) (fun c5 => ?_)
    · have h := cnd_f c5 h
      refine lv_iconst (v := 0) hx hb dX12_parted_19 (by decide) ?_
      exact wX12_parted_20 C hR u3 x1 x2 0 (lv_sub hl [0, 1, 2] rfl) S h
    · have h := cnd_t c5 h
      refine lv_iconst (v := 1) hx hb dX12_parted_15 (by decide) ?_
      refine lv_goto (tgt := 20) hx hb dX12_parted_16 (by decide) ?_
      exact wX12_parted_20 C hR u3 x1 x2 1 (lv_sub hl [0, 1, 2] rfl) S h
set_option maxRecDepth 10000 in
set_option maxHeartbeats 4000000 in
theorem ct_X12_parted (l : Launch) (D : va_G) (cI cB cL : ClassId) (ad : Nat → Nat) (x1 : Int32) (x2 : Int32) (u : Sg) {r : Int32} {σ' : Sg} (h : fX12_parted x1 x2 u = some (r, σ')) : metI l D (tyl cI cB cL) yX12_parted cX12_parted 6 (some .int) 3 69 (wM cI cB ad) [.ref (ad 0), .int x1, .int x2] u r σ' := by
  intro sz
  refine Met.ofW (cc := cX12_parted) (maxL := 6) (ret := (some .int)) (by decide) rfl ?_
  intro p e s m args below meth c s₁ B hml hv
  obtain ⟨rfl, C, S⟩ := q_entry B hml hv
  have hl := lv_entry ([.ref (ad 0), .int x1, .int x2]) (n := 6) (Nat.le_of_ble_eq_true rfl)
  rw [lg_entry_eq]
  generalize (lg_sl ([.ref (ad 0), .int x1, .int x2]) ++ List.replicate (6 - (lg_sl ([.ref (ad 0), .int x1, .int x2])).length) Slot.unset).toArray = ls at hl ⊢
  exact wX12_parted_0 C ⟨Nat.le_refl _, Nat.le_refl _⟩ u x1 x2 (lv_sub hl [0, 1, 2] rfl) S h
noncomputable def fX12_due_46 (x3 : Int32) (u : Sg) : Option (Int32 × Sg) := obr (fX12_endsAhead u) (fun u9 => cnd (x3 ≤ 120) (some (x3, u9)) (some ((-1), u9)))
noncomputable def fX12_due_17 : Nat → Int32 → Int32 → Int32 → Sg → Option (Int32 × Sg)
  | 0, _, _, _, _ => none
  | n + 1, x1, x2, x3, u => cnd (120 < x3) (fX12_due_46 x3 u) (obr (fX12_ofPair x1 x2 0 u) (fun r12 => cnd (r12 = 3) (fX12_due_46 x3 u) (obd (fX12_oneTick 0 u) (fun r15 u16 => bnd (x3 + 1) (fun v17 => fX12_due_17 n x1 x2 v17 u16)))))
noncomputable def fX12_due_0 (x1 : Int32) (x2 : Int32) (u : Sg) : Option (Int32 × Sg) := obd (fX12_noPair x1 x2 u) (fun r2 u3 => cnd (r2 = 0) (obr (fX12_beginsAhead u3) (fun u6 => fX12_due_17 FU x1 x2 0 u6)) (some (0, u3)))
noncomputable def fX12_due (x1 : Int32) (x2 : Int32) (u : Sg) : Option (Int32 × Sg) := fX12_due_0 x1 x2 u
set_option maxRecDepth 10000 in
set_option maxHeartbeats 4000000 in
theorem wX12_due_46 (C : cx D (tyl cI cB cL) A RX12 cX12_due 4 (some .int) p s m args c meth) (hR : 10 ≤ R.frames ∧ 235 ≤ R.locals) {r : Int32} {σ' : Sg} (u : Sg) (x3 : Int32) {H : Heap} {locs : List Loc} {ls : Array Slot} (hl : lv_has ls 4 [(0, .ref (ad 0)), (3, .int x3)]) (S : st D (wM cI cB ad) A s u H locs) (h : fX12_due_46 x3 u = some (r, σ')) : W p l e R s m args below meth c H locs 0 0 (MQ below (qI D (tyl cI cB cL) (wM cI cB ad) A r σ') args s 0 0 A) (F0 m 46 ls []) := by
  have hx := C.1
  have hb := C.2.1
  have hsz := hl.1
  unfold fX12_due_46 at h
  refine lv_aload_n hx hb dX12_due_46 rfl (lv_at hl 0 rfl) ?_
  obtain ⟨u9, h8, h⟩ := obr_some h
  refine q_callVv (As := []) (na := 0) C S (oM0 cI cB ad) rfl (ct_X12_endsAhead l D cI cB cL ad u h8) mw_299 mw_298 mw_300 mw_5 mw_297 hdX12_endsAhead ⟨Nat.le_trans (Nat.le_of_ble_eq_true rfl) hR.1, Nat.le_trans (Nat.le_of_ble_eq_true rfl) hR.2⟩ rfl hsz ⟨Nat.zero_le _, Nat.zero_le _⟩ (Nat.le_of_ble_eq_true rfl) dX12_due_47 rfl (fun H locs S => ?_)
  refine lv_iload_n hx hb dX12_due_50 rfl (lv_at hl 1 rfl) ?_
  refine lv_bipush (v := 120) hx hb dX12_due_51 (by decide) ?_
  refine lv_icmp_le (tgt := 60) hx hb dX12_due_53 (by decide) (fun c10 => ?_) (fun c10 => ?_)
  · have h := cnd_t c10 h
    refine lv_iload_n hx hb dX12_due_60 rfl (lv_at hl 1 rfl) ?_
    exact q_iret C S (rt_S h) dX12_due_61
  · have h := cnd_f c10 h
    refine lv_iconst (v := (-1)) hx hb dX12_due_56 (by decide) ?_
    refine lv_goto (tgt := 61) hx hb dX12_due_57 (by decide) ?_
    exact q_iret C S (rt_S h) dX12_due_61
set_option maxRecDepth 10000 in
set_option maxHeartbeats 4000000 in
theorem wX12_due_17 (C : cx D (tyl cI cB cL) A RX12 cX12_due 4 (some .int) p s m args c meth) (hR : 10 ≤ R.frames ∧ 235 ≤ R.locals) {r : Int32} {σ' : Sg} : ∀ (n : Nat) (x1 : Int32) (x2 : Int32) (x3 : Int32) (u : Sg) (H : Heap) (locs : List Loc) (ls : Array Slot), lv_has ls 4 [(0, .ref (ad 0)), (1, .int x1), (2, .int x2), (3, .int x3)] → st D (wM cI cB ad) A s u H locs → fX12_due_17 n x1 x2 x3 u = some (r, σ') → W p l e R s m args below meth c H locs 0 0 (MQ below (qI D (tyl cI cB cL) (wM cI cB ad) A r σ') args s 0 0 A) (F0 m 17 ls []) := by
  have hx := C.1
  have hb := C.2.1
  intro n
  induction n with
  | zero =>
    intro x1 x2 x3 u H locs ls hl S h
    cases h
  | succ n ih =>
    intro x1 x2 x3 u H locs ls hl S h
    rw [fX12_due_17] at h
    have hsz := hl.1
    refine lv_iload_n hx hb dX12_due_17 rfl (lv_at hl 3 rfl) ?_
    refine lv_bipush (v := 120) hx hb dX12_due_18 (by decide) ?_
    refine lv_icmp_gt (tgt := 46) hx hb dX12_due_20 (by decide) (fun c7 => ?_) (fun c7 => ?_)
    · have h := cnd_t c7 h
      exact wX12_due_46 C hR u x3 (lv_sub hl [0, 3] rfl) S h
    · have h := cnd_f c7 h
      refine lv_aload_n hx hb dX12_due_23 rfl (lv_at hl 0 rfl) ?_
      refine lv_iload_n hx hb dX12_due_24 rfl (lv_at hl 1 rfl) ?_
      refine lv_iload_n hx hb dX12_due_25 rfl (lv_at hl 2 rfl) ?_
      refine lv_iconst (v := 0) hx hb dX12_due_26 (by decide) ?_
      obtain ⟨r12, h11, h⟩ := obr_some h
      refine q_callVi (As := [.int x1, .int x2, .int 0]) (na := 3) C S (oM0 cI cB ad) rfl (ct_X12_ofPair l D cI cB cL ad x1 x2 0 u h11) mw_126 mw_125 mw_127 mw_5 mw_124 hdX12_ofPair ⟨Nat.le_trans (Nat.le_of_ble_eq_true rfl) hR.1, Nat.le_trans (Nat.le_of_ble_eq_true rfl) hR.2⟩ rfl hsz ⟨Nat.zero_le _, Nat.zero_le _⟩ (Nat.le_of_ble_eq_true rfl) dX12_due_27 rfl (fun H locs S => ?_)
      refine lv_iconst (v := 3) hx hb dX12_due_30 (by decide) ?_
      refine lv_icmp_eq (tgt := 46) hx hb dX12_due_31 (by decide) (fun c13 => ?_) (fun c13 => ?_)
      · have h := cnd_t c13 h
        exact wX12_due_46 C hR u x3 (lv_sub hl [0, 3] rfl) S h
      · have h := cnd_f c13 h
        refine lv_aload_n hx hb dX12_due_34 rfl (lv_at hl 0 rfl) ?_
        refine lv_iconst (v := 0) hx hb dX12_due_35 (by decide) ?_
        obtain ⟨r15, u16, h14, h⟩ := obd_some h
        refine q_callVi (As := [.int 0]) (na := 1) C S (oM0 cI cB ad) rfl (ct_X12_oneTick l D cI cB cL ad 0 u h14) mw_214 mw_213 mw_215 mw_5 mw_212 hdX12_oneTick ⟨Nat.le_trans (Nat.le_of_ble_eq_true rfl) hR.1, Nat.le_trans (Nat.le_of_ble_eq_true rfl) hR.2⟩ rfl hsz ⟨Nat.zero_le _, Nat.zero_le _⟩ (Nat.le_of_ble_eq_true rfl) dX12_due_36 rfl (fun H locs S => ?_)
        refine lv_pop hx hb dX12_due_39 rfl ?_
        obtain ⟨v17, ev17⟩ : ∃ y : Int32, y = x3 + 1 := ⟨_, rfl⟩
        have h := bnd_of ev17 h
        refine lv_iinc (v := v17) (lv' := [(3, .int v17), (0, .ref (ad 0)), (1, .int x1), (2, .int x2)]) hx hb dX12_due_40 hl (k := 3) rfl (by rw [ev17]; rfl) (by decide) rfl (fun ls hl => ?_)
        have hsz := hl.1
        refine lv_goto (tgt := 17) hx hb dX12_due_43 (by decide) ?_
        exact ih x1 x2 v17 u16 H locs ls (lv_sub hl [1, 2, 3, 0] rfl) S h
set_option maxRecDepth 10000 in
set_option maxHeartbeats 4000000 in
theorem wX12_due_0 (C : cx D (tyl cI cB cL) A RX12 cX12_due 4 (some .int) p s m args c meth) (hR : 10 ≤ R.frames ∧ 235 ≤ R.locals) {r : Int32} {σ' : Sg} (u : Sg) (x1 : Int32) (x2 : Int32) {H : Heap} {locs : List Loc} {ls : Array Slot} (hl : lv_has ls 4 [(0, .ref (ad 0)), (1, .int x1), (2, .int x2)]) (S : st D (wM cI cB ad) A s u H locs) (h : fX12_due_0 x1 x2 u = some (r, σ')) : W p l e R s m args below meth c H locs 0 0 (MQ below (qI D (tyl cI cB cL) (wM cI cB ad) A r σ') args s 0 0 A) (F0 m 0 ls []) := by
  have hx := C.1
  have hb := C.2.1
  have hsz := hl.1
  unfold fX12_due_0 at h
  refine lv_aload_n hx hb dX12_due_0 rfl (lv_at hl 0 rfl) ?_
  refine lv_iload_n hx hb dX12_due_1 rfl (lv_at hl 1 rfl) ?_
  refine lv_iload_n hx hb dX12_due_2 rfl (lv_at hl 2 rfl) ?_
  obtain ⟨r2, u3, h1, h⟩ := obd_some h
  refine q_callVi (As := [.int x1, .int x2]) (na := 2) C S (oM0 cI cB ad) rfl (ct_X12_noPair l D cI cB cL ad x1 x2 u h1) mw_250 mw_249 mw_251 mw_5 mw_248 hdX12_noPair ⟨Nat.le_trans (Nat.le_of_ble_eq_true rfl) hR.1, Nat.le_trans (Nat.le_of_ble_eq_true rfl) hR.2⟩ rfl hsz ⟨Nat.zero_le _, Nat.zero_le _⟩ (Nat.le_of_ble_eq_true rfl) dX12_due_3 rfl (fun H locs S => ?_)
  refine lv_if_eq (tgt := 11) hx hb dX12_due_6 (by decide) (fun c4 => ?_) (fun c4 => ?_)
  · have h := cnd_t c4 h
    refine lv_aload_n hx hb dX12_due_11 rfl (lv_at hl 0 rfl) ?_
    obtain ⟨u6, h5, h⟩ := obr_some h
    refine q_callVv (As := []) (na := 0) C S (oM0 cI cB ad) rfl (ct_X12_beginsAhead l D cI cB cL ad u3 h5) mw_295 mw_294 mw_296 mw_5 mw_293 hdX12_beginsAhead ⟨Nat.le_trans (Nat.le_of_ble_eq_true rfl) hR.1, Nat.le_trans (Nat.le_of_ble_eq_true rfl) hR.2⟩ rfl hsz ⟨Nat.zero_le _, Nat.zero_le _⟩ (Nat.le_of_ble_eq_true rfl) dX12_due_12 rfl (fun H locs S => ?_)
    refine lv_iconst (v := 0) hx hb dX12_due_15 (by decide) ?_
    refine lv_istore_n (lv' := [(3, .int 0), (0, .ref (ad 0)), (1, .int x1), (2, .int x2)]) hx hb dX12_due_16 rfl hl (by decide) rfl (fun ls hl => ?_)
    have hsz := hl.1
    exact wX12_due_17 C hR FU x1 x2 0 u6 H locs ls (lv_sub hl [1, 2, 3, 0] rfl) S h
  · have h := cnd_f c4 h
    refine lv_iconst (v := 0) hx hb dX12_due_9 (by decide) ?_
    exact q_iret C S (rt_S h) dX12_due_10
set_option maxRecDepth 10000 in
set_option maxHeartbeats 4000000 in
theorem ct_X12_due (l : Launch) (D : va_G) (cI cB cL : ClassId) (ad : Nat → Nat) (x1 : Int32) (x2 : Int32) (u : Sg) {r : Int32} {σ' : Sg} (h : fX12_due x1 x2 u = some (r, σ')) : metI l D (tyl cI cB cL) yX12_due cX12_due 4 (some .int) 10 235 (wM cI cB ad) [.ref (ad 0), .int x1, .int x2] u r σ' := by
  intro sz
  refine Met.ofW (cc := cX12_due) (maxL := 4) (ret := (some .int)) (by decide) rfl ?_
  intro p e s m args below meth c s₁ B hml hv
  obtain ⟨rfl, C, S⟩ := q_entry B hml hv
  have hl := lv_entry ([.ref (ad 0), .int x1, .int x2]) (n := 4) (Nat.le_of_ble_eq_true rfl)
  rw [lg_entry_eq]
  generalize (lg_sl ([.ref (ad 0), .int x1, .int x2]) ++ List.replicate (4 - (lg_sl ([.ref (ad 0), .int x1, .int x2])).length) Slot.unset).toArray = ls at hl ⊢
  exact wX12_due_0 C ⟨Nat.le_refl _, Nat.le_refl _⟩ u x1 x2 (lv_sub hl [0, 1, 2] rfl) S h
end S_15_m05
