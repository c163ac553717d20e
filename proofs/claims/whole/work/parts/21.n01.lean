theorem mw_389 : Cond.fieldLink RX0 111 "LeastPending$Net" "groupCount" "I" ∈ gw := gw_t2 53 rfl rfl
theorem mw_390 : Cond.fieldLink RX0 114 "LeastPending$Net" "groups" "[I" ∈ gw := gw_t2 75 rfl rfl
theorem mw_391 : Cond.code yX0_isRing cX0_isRing 3 (some .boolean) ∈ gw := gw_t3 2 rfl rfl
theorem mw_392 : Cond.static yX0_isRing ∈ gw := gw_t3 1 rfl rfl
theorem mw_393 : Cond.methodLink RX0 117 yX0_isRing ∈ gw := gw_t3 0 rfl rfl
theorem mw_394 : Cond.fieldLink RX1 33 "LeastPending$Channels" "head" "[I" ∈ gw := gw_t1 118 rfl rfl
theorem mw_395 : Cond.fieldLink RX1 30 "LeastPending$Channels" "pool" "[I" ∈ gw := gw_t1 115 rfl rfl
theorem mw_396 : Cond.fieldLink RX1 21 "LeastPending$Channels" "held" "[I" ∈ gw := gw_t1 108 rfl rfl
theorem mw_397 : Cond.fieldLink RX1 43 "LeastPending$Channels" "free" "I" ∈ gw := gw_t1 121 rfl rfl
theorem mw_398 : Cond.fieldLink RX1 27 "LeastPending$Channels" "size" "[I" ∈ gw := gw_t1 112 rfl rfl
theorem mw_399 : Cond.fieldLink RX1 36 "LeastPending$Channels" "tail" "[I" ∈ gw := gw_t1 119 rfl rfl
theorem mw_400 : Cond.code yX1_dropFirst cX1_dropFirst 3 none ∈ gw := gw_t5 54 rfl rfl
theorem mw_401 : Cond.initialized RX1 ∈ gw := gw_t1 7 rfl rfl
theorem mw_402 : Cond.instanceMethod yX1_dropFirst ∈ gw := gw_t5 52 rfl rfl
theorem mw_403 : Cond.methodLink RX1 67 yX1_dropFirst ∈ gw := gw_t5 128 rfl rfl
theorem mw_404 : Cond.selects RX1 yX1_dropFirst yX1_dropFirst ∈ gw := gw_t5 53 rfl rfl
theorem mw_405 : Cond.code yX11_channelOf cX11_channelOf 2 (some .int) ∈ gw := gw_t3 170 rfl rfl
theorem mw_406 : Cond.static yX11_channelOf ∈ gw := gw_t3 169 rfl rfl
theorem mw_407 : Cond.fieldLink RX2 22 "LeastPending$Events" "toGroup" "[I" ∈ gw := gw_t2 17 rfl rfl
theorem mw_408 : Cond.fieldLink RX2 15 "LeastPending$Events" "time" "[I" ∈ gw := gw_t2 11 rfl rfl
theorem mw_409 : Cond.fieldLink RX2 9 "LeastPending$Events" "waiting" "I" ∈ gw := gw_t2 7 rfl rfl
theorem mw_410 : Cond.fieldLink RX2 19 "LeastPending$Events" "who" "[I" ∈ gw := gw_t2 14 rfl rfl
theorem mw_411 : Cond.fieldLink RX3 21 "LeastPending$Gathers" "greatest" "[I" ∈ gw := gw_t1 230 rfl rfl
theorem mw_412 : Cond.fieldLink RX3 24 "LeastPending$Gathers" "greatestFinal" "[I" ∈ gw := gw_t1 232 rfl rfl
theorem mw_413 : Cond.methodLink RX3 31 yX3_isOn ∈ gw := gw_t5 76 rfl rfl
theorem mw_414 : Cond.methodLink RX3 35 Lib.Math.max.name ∈ gw := gw_t5 77 rfl rfl
theorem mw_415 : Cond.fieldLink RX4 15 "LeastPending$Holdings" "stamp" "[I" ∈ gw := gw_t1 188 rfl rfl
theorem mw_416 : Cond.fieldLink RX4 18 "LeastPending$Holdings" "leader" "[I" ∈ gw := gw_t1 192 rfl rfl
theorem mw_417 : Cond.methodLink RX4 38 yX4_isPending ∈ gw := gw_t5 112 rfl rfl
theorem hdX0_isRing : yX0_isRing.cls ≠ "java/lang/invoke/MethodHandle" ∧ yX0_isRing.cls ≠ "java/lang/invoke/VarHandle" ∧ (parseMethodDescriptor yX0_isRing.desc).map (fun d => d.parameters.length) = some 3 := by decide +kernel
theorem hdX1_dropFirst : yX1_dropFirst.cls = RX1 ∧ yX1_dropFirst.cls ≠ "java/lang/invoke/MethodHandle" ∧ yX1_dropFirst.cls ≠ "java/lang/invoke/VarHandle" ∧ (parseMethodDescriptor yX1_dropFirst.desc).map (fun d => d.parameters.length) = some 1 := by decide +kernel
theorem hdX11_channelOf : yX11_channelOf.cls ≠ "java/lang/invoke/MethodHandle" ∧ yX11_channelOf.cls ≠ "java/lang/invoke/VarHandle" ∧ (parseMethodDescriptor yX11_channelOf.desc).map (fun d => d.parameters.length) = some 2 := by decide +kernel
theorem dX0_ringOf_0 : decode cX0_ringOf 0 = .ok (.iconst 0, 1) := by decide +kernel
theorem dX0_ringOf_1 : decode cX0_ringOf 1 = .ok (.istore_n 1, 1) := by decide +kernel
theorem dX0_ringOf_2 : decode cX0_ringOf 2 = .ok (.iload_n 1, 1) := by decide +kernel
theorem dX0_ringOf_3 : decode cX0_ringOf 3 = .ok (.aload_n 0, 1) := by decide +kernel
theorem dX0_ringOf_4 : decode cX0_ringOf 4 = .ok (.getfield 111, 3) := by decide +kernel
theorem dX0_ringOf_7 : decode cX0_ringOf 7 = .ok (.if_icmp .ge 81, 3) := by decide +kernel
theorem dX0_ringOf_10 : decode cX0_ringOf 10 = .ok (.iload_n 1, 1) := by decide +kernel
theorem dX0_ringOf_11 : decode cX0_ringOf 11 = .ok (.iconst 1, 1) := by decide +kernel
theorem dX0_ringOf_12 : decode cX0_ringOf 12 = .ok (.iadd, 1) := by decide +kernel
theorem dX0_ringOf_13 : decode cX0_ringOf 13 = .ok (.istore_n 2, 1) := by decide +kernel
theorem dX0_ringOf_14 : decode cX0_ringOf 14 = .ok (.iload_n 2, 1) := by decide +kernel
theorem dX0_ringOf_15 : decode cX0_ringOf 15 = .ok (.aload_n 0, 1) := by decide +kernel
theorem dX0_ringOf_16 : decode cX0_ringOf 16 = .ok (.getfield 111, 3) := by decide +kernel
theorem dX0_ringOf_19 : decode cX0_ringOf 19 = .ok (.if_icmp .ge 63, 3) := by decide +kernel
theorem dX0_ringOf_22 : decode cX0_ringOf 22 = .ok (.iload_n 2, 1) := by decide +kernel
theorem dX0_ringOf_23 : decode cX0_ringOf 23 = .ok (.iconst 1, 1) := by decide +kernel
theorem dX0_ringOf_24 : decode cX0_ringOf 24 = .ok (.iadd, 1) := by decide +kernel
theorem dX0_ringOf_25 : decode cX0_ringOf 25 = .ok (.istore_n 3, 1) := by decide +kernel
theorem dX0_ringOf_26 : decode cX0_ringOf 26 = .ok (.iload_n 3, 1) := by decide +kernel
theorem dX0_ringOf_27 : decode cX0_ringOf 27 = .ok (.aload_n 0, 1) := by decide +kernel
theorem dX0_ringOf_28 : decode cX0_ringOf 28 = .ok (.getfield 111, 3) := by decide +kernel
theorem dX0_ringOf_31 : decode cX0_ringOf 31 = .ok (.if_icmp .ge 45, 3) := by decide +kernel
theorem dX0_ringOf_34 : decode cX0_ringOf 34 = .ok (.aload_n 0, 1) := by decide +kernel
theorem dX0_ringOf_35 : decode cX0_ringOf 35 = .ok (.getfield 114, 3) := by decide +kernel
theorem dX0_ringOf_38 : decode cX0_ringOf 38 = .ok (.iload_n 1, 1) := by decide +kernel
theorem dX0_ringOf_39 : decode cX0_ringOf 39 = .ok (.iaload, 1) := by decide +kernel
theorem dX0_ringOf_40 : decode cX0_ringOf 40 = .ok (.aload_n 0, 1) := by decide +kernel
theorem dX0_ringOf_41 : decode cX0_ringOf 41 = .ok (.getfield 114, 3) := by decide +kernel
theorem dX0_ringOf_44 : decode cX0_ringOf 44 = .ok (.iload_n 2, 1) := by decide +kernel
theorem dX0_ringOf_45 : decode cX0_ringOf 45 = .ok (.iaload, 1) := by decide +kernel
theorem dX0_ringOf_46 : decode cX0_ringOf 46 = .ok (.aload_n 0, 1) := by decide +kernel
theorem dX0_ringOf_47 : decode cX0_ringOf 47 = .ok (.getfield 114, 3) := by decide +kernel
theorem dX0_ringOf_50 : decode cX0_ringOf 50 = .ok (.iload_n 3, 1) := by decide +kernel
theorem dX0_ringOf_51 : decode cX0_ringOf 51 = .ok (.iaload, 1) := by decide +kernel
theorem dX0_ringOf_52 : decode cX0_ringOf 52 = .ok (.invokestatic 117, 3) := by decide +kernel
theorem dX0_ringOf_55 : decode cX0_ringOf 55 = .ok (.ifCond .eq 15, 3) := by decide +kernel
theorem dX0_ringOf_58 : decode cX0_ringOf 58 = .ok (.iconst 1, 1) := by decide +kernel
theorem dX0_ringOf_59 : decode cX0_ringOf 59 = .ok (.iload_n 1, 1) := by decide +kernel
theorem dX0_ringOf_60 : decode cX0_ringOf 60 = .ok (.ishl, 1) := by decide +kernel
theorem dX0_ringOf_61 : decode cX0_ringOf 61 = .ok (.iconst 1, 1) := by decide +kernel
theorem dX0_ringOf_62 : decode cX0_ringOf 62 = .ok (.iload_n 2, 1) := by decide +kernel
theorem dX0_ringOf_63 : decode cX0_ringOf 63 = .ok (.ishl, 1) := by decide +kernel
theorem dX0_ringOf_64 : decode cX0_ringOf 64 = .ok (.ior, 1) := by decide +kernel
theorem dX0_ringOf_65 : decode cX0_ringOf 65 = .ok (.iconst 1, 1) := by decide +kernel
theorem dX0_ringOf_66 : decode cX0_ringOf 66 = .ok (.iload_n 3, 1) := by decide +kernel
theorem dX0_ringOf_67 : decode cX0_ringOf 67 = .ok (.ishl, 1) := by decide +kernel
theorem dX0_ringOf_68 : decode cX0_ringOf 68 = .ok (.ior, 1) := by decide +kernel
theorem dX0_ringOf_69 : decode cX0_ringOf 69 = .ok (.ireturn, 1) := by decide +kernel
theorem dX0_ringOf_70 : decode cX0_ringOf 70 = .ok (.iinc 3 1, 3) := by decide +kernel
theorem dX0_ringOf_73 : decode cX0_ringOf 73 = .ok (.goto (-47), 3) := by decide +kernel
theorem dX0_ringOf_76 : decode cX0_ringOf 76 = .ok (.iinc 2 1, 3) := by decide +kernel
theorem dX0_ringOf_79 : decode cX0_ringOf 79 = .ok (.goto (-65), 3) := by decide +kernel
theorem dX0_ringOf_82 : decode cX0_ringOf 82 = .ok (.iinc 1 1, 3) := by decide +kernel
theorem dX0_ringOf_85 : decode cX0_ringOf 85 = .ok (.goto (-83), 3) := by decide +kernel
theorem dX0_ringOf_88 : decode cX0_ringOf 88 = .ok (.iconst (-1), 1) := by decide +kernel
theorem dX0_ringOf_89 : decode cX0_ringOf 89 = .ok (.ireturn, 1) := by decide +kernel
theorem dX1_cellAt_0 : decode cX1_cellAt 0 = .ok (.aload_n 0, 1) := by decide +kernel
theorem dX1_cellAt_1 : decode cX1_cellAt 1 = .ok (.getfield 33, 3) := by decide +kernel
theorem dX1_cellAt_4 : decode cX1_cellAt 4 = .ok (.iload_n 1, 1) := by decide +kernel
theorem dX1_cellAt_5 : decode cX1_cellAt 5 = .ok (.iaload, 1) := by decide +kernel
theorem dX1_cellAt_6 : decode cX1_cellAt 6 = .ok (.istore_n 3, 1) := by decide +kernel
theorem dX1_cellAt_7 : decode cX1_cellAt 7 = .ok (.iconst 0, 1) := by decide +kernel
theorem dX1_cellAt_8 : decode cX1_cellAt 8 = .ok (.istore 4, 2) := by decide +kernel
theorem dX1_cellAt_10 : decode cX1_cellAt 10 = .ok (.iload 4, 2) := by decide +kernel
theorem dX1_cellAt_12 : decode cX1_cellAt 12 = .ok (.iload_n 2, 1) := by decide +kernel
theorem dX1_cellAt_13 : decode cX1_cellAt 13 = .ok (.if_icmp .ge 18, 3) := by decide +kernel
theorem dX1_cellAt_16 : decode cX1_cellAt 16 = .ok (.aload_n 0, 1) := by decide +kernel
theorem dX1_cellAt_17 : decode cX1_cellAt 17 = .ok (.getfield 30, 3) := by decide +kernel
theorem dX1_cellAt_20 : decode cX1_cellAt 20 = .ok (.iload_n 3, 1) := by decide +kernel
theorem dX1_cellAt_21 : decode cX1_cellAt 21 = .ok (.iconst 5, 1) := by decide +kernel
theorem dX1_cellAt_22 : decode cX1_cellAt 22 = .ok (.iadd, 1) := by decide +kernel
theorem dX1_cellAt_23 : decode cX1_cellAt 23 = .ok (.iaload, 1) := by decide +kernel
theorem dX1_cellAt_24 : decode cX1_cellAt 24 = .ok (.istore_n 3, 1) := by decide +kernel
theorem dX1_cellAt_25 : decode cX1_cellAt 25 = .ok (.iinc 4 1, 3) := by decide +kernel
theorem dX1_cellAt_28 : decode cX1_cellAt 28 = .ok (.goto (-18), 3) := by decide +kernel
theorem dX1_cellAt_31 : decode cX1_cellAt 31 = .ok (.iload_n 3, 1) := by decide +kernel
theorem dX1_cellAt_32 : decode cX1_cellAt 32 = .ok (.ireturn, 1) := by decide +kernel
theorem dX1_openCell_0 : decode cX1_openCell 0 = .ok (.aload_n 0, 1) := by decide +kernel
theorem dX1_openCell_1 : decode cX1_openCell 1 = .ok (.getfield 33, 3) := by decide +kernel
theorem dX1_openCell_4 : decode cX1_openCell 4 = .ok (.iload_n 1, 1) := by decide +kernel
theorem dX1_openCell_5 : decode cX1_openCell 5 = .ok (.iaload, 1) := by decide +kernel
theorem dX1_openCell_6 : decode cX1_openCell 6 = .ok (.istore_n 3, 1) := by decide +kernel
theorem dX1_openCell_7 : decode cX1_openCell 7 = .ok (.iload_n 3, 1) := by decide +kernel
theorem dX1_openCell_8 : decode cX1_openCell 8 = .ok (.iconst (-1), 1) := by decide +kernel
theorem dX1_openCell_9 : decode cX1_openCell 9 = .ok (.if_icmp .eq 24, 3) := by decide +kernel
theorem dX1_openCell_12 : decode cX1_openCell 12 = .ok (.aload_n 0, 1) := by decide +kernel
theorem dX1_openCell_13 : decode cX1_openCell 13 = .ok (.getfield 21, 3) := by decide +kernel
theorem dX1_openCell_16 : decode cX1_openCell 16 = .ok (.iload_n 1, 1) := by decide +kernel
theorem dX1_openCell_17 : decode cX1_openCell 17 = .ok (.iaload, 1) := by decide +kernel
theorem dX1_openCell_18 : decode cX1_openCell 18 = .ok (.ifCond .ne 15, 3) := by decide +kernel
theorem dX1_openCell_21 : decode cX1_openCell 21 = .ok (.aload_n 0, 1) := by decide +kernel
theorem dX1_openCell_22 : decode cX1_openCell 22 = .ok (.getfield 30, 3) := by decide +kernel
theorem dX1_openCell_25 : decode cX1_openCell 25 = .ok (.iload_n 3, 1) := by decide +kernel
theorem dX1_openCell_26 : decode cX1_openCell 26 = .ok (.iconst 0, 1) := by decide +kernel
theorem dX1_openCell_27 : decode cX1_openCell 27 = .ok (.iadd, 1) := by decide +kernel
theorem dX1_openCell_28 : decode cX1_openCell 28 = .ok (.iaload, 1) := by decide +kernel
theorem dX1_openCell_29 : decode cX1_openCell 29 = .ok (.iload_n 2, 1) := by decide +kernel
theorem dX1_openCell_30 : decode cX1_openCell 30 = .ok (.if_icmp .le 5, 3) := by decide +kernel
theorem dX1_openCell_33 : decode cX1_openCell 33 = .ok (.iconst (-1), 1) := by decide +kernel
theorem dX1_openCell_34 : decode cX1_openCell 34 = .ok (.ireturn, 1) := by decide +kernel
theorem dX1_openCell_35 : decode cX1_openCell 35 = .ok (.iload_n 3, 1) := by decide +kernel
theorem dX1_openCell_36 : decode cX1_openCell 36 = .ok (.ireturn, 1) := by decide +kernel
theorem dX1_dropFirst_0 : decode cX1_dropFirst 0 = .ok (.aload_n 0, 1) := by decide +kernel
theorem dX1_dropFirst_1 : decode cX1_dropFirst 1 = .ok (.getfield 33, 3) := by decide +kernel
theorem dX1_dropFirst_4 : decode cX1_dropFirst 4 = .ok (.iload_n 1, 1) := by decide +kernel
theorem dX1_dropFirst_5 : decode cX1_dropFirst 5 = .ok (.iaload, 1) := by decide +kernel
theorem dX1_dropFirst_6 : decode cX1_dropFirst 6 = .ok (.istore_n 2, 1) := by decide +kernel
theorem dX1_dropFirst_7 : decode cX1_dropFirst 7 = .ok (.iload_n 2, 1) := by decide +kernel
theorem dX1_dropFirst_8 : decode cX1_dropFirst 8 = .ok (.iconst (-1), 1) := by decide +kernel
theorem dX1_dropFirst_9 : decode cX1_dropFirst 9 = .ok (.if_icmp .ne 4, 3) := by decide +kernel
theorem dX1_dropFirst_12 : decode cX1_dropFirst 12 = .ok (.return_, 1) := by decide +kernel
theorem dX1_dropFirst_13 : decode cX1_dropFirst 13 = .ok (.aload_n 0, 1) := by decide +kernel
theorem dX1_dropFirst_14 : decode cX1_dropFirst 14 = .ok (.getfield 33, 3) := by decide +kernel
theorem dX1_dropFirst_17 : decode cX1_dropFirst 17 = .ok (.iload_n 1, 1) := by decide +kernel
theorem dX1_dropFirst_18 : decode cX1_dropFirst 18 = .ok (.aload_n 0, 1) := by decide +kernel
theorem dX1_dropFirst_19 : decode cX1_dropFirst 19 = .ok (.getfield 30, 3) := by decide +kernel
theorem dX1_dropFirst_22 : decode cX1_dropFirst 22 = .ok (.iload_n 2, 1) := by decide +kernel
theorem dX1_dropFirst_23 : decode cX1_dropFirst 23 = .ok (.iconst 5, 1) := by decide +kernel
theorem dX1_dropFirst_24 : decode cX1_dropFirst 24 = .ok (.iadd, 1) := by decide +kernel
theorem dX1_dropFirst_25 : decode cX1_dropFirst 25 = .ok (.iaload, 1) := by decide +kernel
theorem dX1_dropFirst_26 : decode cX1_dropFirst 26 = .ok (.iastore, 1) := by decide +kernel
theorem dX1_dropFirst_27 : decode cX1_dropFirst 27 = .ok (.aload_n 0, 1) := by decide +kernel
theorem dX1_dropFirst_28 : decode cX1_dropFirst 28 = .ok (.getfield 33, 3) := by decide +kernel
theorem dX1_dropFirst_31 : decode cX1_dropFirst 31 = .ok (.iload_n 1, 1) := by decide +kernel
theorem dX1_dropFirst_32 : decode cX1_dropFirst 32 = .ok (.iaload, 1) := by decide +kernel
theorem dX1_dropFirst_33 : decode cX1_dropFirst 33 = .ok (.iconst (-1), 1) := by decide +kernel
theorem dX1_dropFirst_34 : decode cX1_dropFirst 34 = .ok (.if_icmp .ne 10, 3) := by decide +kernel
theorem dX1_dropFirst_37 : decode cX1_dropFirst 37 = .ok (.aload_n 0, 1) := by decide +kernel
theorem dX1_dropFirst_38 : decode cX1_dropFirst 38 = .ok (.getfield 36, 3) := by decide +kernel
theorem dX1_dropFirst_41 : decode cX1_dropFirst 41 = .ok (.iload_n 1, 1) := by decide +kernel
theorem dX1_dropFirst_42 : decode cX1_dropFirst 42 = .ok (.iconst (-1), 1) := by decide +kernel
theorem dX1_dropFirst_43 : decode cX1_dropFirst 43 = .ok (.iastore, 1) := by decide +kernel
theorem dX1_dropFirst_44 : decode cX1_dropFirst 44 = .ok (.aload_n 0, 1) := by decide +kernel
theorem dX1_dropFirst_45 : decode cX1_dropFirst 45 = .ok (.getfield 30, 3) := by decide +kernel
theorem dX1_dropFirst_48 : decode cX1_dropFirst 48 = .ok (.iload_n 2, 1) := by decide +kernel
theorem dX1_dropFirst_49 : decode cX1_dropFirst 49 = .ok (.iconst 5, 1) := by decide +kernel
theorem dX1_dropFirst_50 : decode cX1_dropFirst 50 = .ok (.iadd, 1) := by decide +kernel
theorem dX1_dropFirst_51 : decode cX1_dropFirst 51 = .ok (.aload_n 0, 1) := by decide +kernel
theorem dX1_dropFirst_52 : decode cX1_dropFirst 52 = .ok (.getfield 43, 3) := by decide +kernel
theorem dX1_dropFirst_55 : decode cX1_dropFirst 55 = .ok (.iastore, 1) := by decide +kernel
theorem dX1_dropFirst_56 : decode cX1_dropFirst 56 = .ok (.aload_n 0, 1) := by decide +kernel
theorem dX1_dropFirst_57 : decode cX1_dropFirst 57 = .ok (.iload_n 2, 1) := by decide +kernel
theorem dX1_dropFirst_58 : decode cX1_dropFirst 58 = .ok (.putfield 43, 3) := by decide +kernel
theorem dX1_dropFirst_61 : decode cX1_dropFirst 61 = .ok (.aload_n 0, 1) := by decide +kernel
theorem dX1_dropFirst_62 : decode cX1_dropFirst 62 = .ok (.getfield 27, 3) := by decide +kernel
theorem dX1_dropFirst_65 : decode cX1_dropFirst 65 = .ok (.iload_n 1, 1) := by decide +kernel
theorem dX1_dropFirst_66 : decode cX1_dropFirst 66 = .ok (.dup2, 1) := by decide +kernel
theorem dX1_dropFirst_67 : decode cX1_dropFirst 67 = .ok (.iaload, 1) := by decide +kernel
theorem dX1_dropFirst_68 : decode cX1_dropFirst 68 = .ok (.iconst 1, 1) := by decide +kernel
theorem dX1_dropFirst_69 : decode cX1_dropFirst 69 = .ok (.isub, 1) := by decide +kernel
theorem dX1_dropFirst_70 : decode cX1_dropFirst 70 = .ok (.iastore, 1) := by decide +kernel
theorem dX1_dropFirst_71 : decode cX1_dropFirst 71 = .ok (.return_, 1) := by decide +kernel
theorem dX1_dropAll_0 : decode cX1_dropAll 0 = .ok (.aload_n 0, 1) := by decide +kernel
theorem dX1_dropAll_1 : decode cX1_dropAll 1 = .ok (.getfield 27, 3) := by decide +kernel
theorem dX1_dropAll_4 : decode cX1_dropAll 4 = .ok (.iload_n 1, 1) := by decide +kernel
theorem dX1_dropAll_5 : decode cX1_dropAll 5 = .ok (.iaload, 1) := by decide +kernel
theorem dX1_dropAll_6 : decode cX1_dropAll 6 = .ok (.istore_n 2, 1) := by decide +kernel
theorem dX1_dropAll_7 : decode cX1_dropAll 7 = .ok (.iload_n 2, 1) := by decide +kernel
theorem dX1_dropAll_8 : decode cX1_dropAll 8 = .ok (.ifCond .le 14, 3) := by decide +kernel
theorem dX1_dropAll_11 : decode cX1_dropAll 11 = .ok (.aload_n 0, 1) := by decide +kernel
theorem dX1_dropAll_12 : decode cX1_dropAll 12 = .ok (.iload_n 1, 1) := by decide +kernel
theorem dX1_dropAll_13 : decode cX1_dropAll 13 = .ok (.invokevirtual 67, 3) := by decide +kernel
theorem dX1_dropAll_16 : decode cX1_dropAll 16 = .ok (.iinc 2 (-1), 3) := by decide +kernel
theorem dX1_dropAll_19 : decode cX1_dropAll 19 = .ok (.goto (-12), 3) := by decide +kernel
theorem dX1_dropAll_22 : decode cX1_dropAll 22 = .ok (.return_, 1) := by decide +kernel
theorem dX1_hasOpen_0 : decode cX1_hasOpen 0 = .ok (.iconst 0, 1) := by decide +kernel
theorem dX1_hasOpen_1 : decode cX1_hasOpen 1 = .ok (.istore_n 2, 1) := by decide +kernel
theorem dX1_hasOpen_2 : decode cX1_hasOpen 2 = .ok (.iload_n 2, 1) := by decide +kernel
theorem dX1_hasOpen_3 : decode cX1_hasOpen 3 = .ok (.bipush 6, 2) := by decide +kernel
theorem dX1_hasOpen_5 : decode cX1_hasOpen 5 = .ok (.if_icmp .ge 35, 3) := by decide +kernel
theorem dX1_hasOpen_8 : decode cX1_hasOpen 8 = .ok (.iload_n 2, 1) := by decide +kernel
theorem dX1_hasOpen_9 : decode cX1_hasOpen 9 = .ok (.iload_n 1, 1) := by decide +kernel
theorem dX1_hasOpen_10 : decode cX1_hasOpen 10 = .ok (.invokestatic 71, 3) := by decide +kernel
theorem dX1_hasOpen_13 : decode cX1_hasOpen 13 = .ok (.istore_n 3, 1) := by decide +kernel
theorem dX1_hasOpen_14 : decode cX1_hasOpen 14 = .ok (.aload_n 0, 1) := by decide +kernel
theorem dX1_hasOpen_15 : decode cX1_hasOpen 15 = .ok (.getfield 27, 3) := by decide +kernel
theorem dX1_hasOpen_18 : decode cX1_hasOpen 18 = .ok (.iload_n 3, 1) := by decide +kernel
theorem dX1_hasOpen_19 : decode cX1_hasOpen 19 = .ok (.iaload, 1) := by decide +kernel
theorem dX1_hasOpen_20 : decode cX1_hasOpen 20 = .ok (.ifCond .le 14, 3) := by decide +kernel
theorem dX1_hasOpen_23 : decode cX1_hasOpen 23 = .ok (.aload_n 0, 1) := by decide +kernel
theorem dX1_hasOpen_24 : decode cX1_hasOpen 24 = .ok (.getfield 21, 3) := by decide +kernel
theorem dX1_hasOpen_27 : decode cX1_hasOpen 27 = .ok (.iload_n 3, 1) := by decide +kernel
theorem dX1_hasOpen_28 : decode cX1_hasOpen 28 = .ok (.iaload, 1) := by decide +kernel
theorem dX1_hasOpen_29 : decode cX1_hasOpen 29 = .ok (.ifCond .ne 5, 3) := by decide +kernel
theorem dX1_hasOpen_32 : decode cX1_hasOpen 32 = .ok (.iconst 1, 1) := by decide +kernel
theorem dX1_hasOpen_33 : decode cX1_hasOpen 33 = .ok (.ireturn, 1) := by decide +kernel
theorem dX1_hasOpen_34 : decode cX1_hasOpen 34 = .ok (.iinc 2 1, 3) := by decide +kernel
theorem dX1_hasOpen_37 : decode cX1_hasOpen 37 = .ok (.goto (-35), 3) := by decide +kernel
theorem dX1_hasOpen_40 : decode cX1_hasOpen 40 = .ok (.iconst 0, 1) := by decide +kernel
theorem dX1_hasOpen_41 : decode cX1_hasOpen 41 = .ok (.ireturn, 1) := by decide +kernel
theorem dX1_sizeOfAll_0 : decode cX1_sizeOfAll 0 = .ok (.iconst 0, 1) := by decide +kernel
theorem dX1_sizeOfAll_1 : decode cX1_sizeOfAll 1 = .ok (.istore_n 1, 1) := by decide +kernel
theorem dX1_sizeOfAll_2 : decode cX1_sizeOfAll 2 = .ok (.iconst 0, 1) := by decide +kernel
theorem dX1_sizeOfAll_3 : decode cX1_sizeOfAll 3 = .ok (.istore_n 2, 1) := by decide +kernel
theorem dX1_sizeOfAll_4 : decode cX1_sizeOfAll 4 = .ok (.iload_n 2, 1) := by decide +kernel
theorem dX1_sizeOfAll_5 : decode cX1_sizeOfAll 5 = .ok (.aload_n 0, 1) := by decide +kernel
theorem dX1_sizeOfAll_6 : decode cX1_sizeOfAll 6 = .ok (.getfield 27, 3) := by decide +kernel
theorem dX1_sizeOfAll_9 : decode cX1_sizeOfAll 9 = .ok (.arraylength, 1) := by decide +kernel
theorem dX1_sizeOfAll_10 : decode cX1_sizeOfAll 10 = .ok (.if_icmp .ge 18, 3) := by decide +kernel
theorem dX1_sizeOfAll_13 : decode cX1_sizeOfAll 13 = .ok (.iload_n 1, 1) := by decide +kernel
theorem dX1_sizeOfAll_14 : decode cX1_sizeOfAll 14 = .ok (.aload_n 0, 1) := by decide +kernel
theorem dX1_sizeOfAll_15 : decode cX1_sizeOfAll 15 = .ok (.getfield 27, 3) := by decide +kernel
theorem dX1_sizeOfAll_18 : decode cX1_sizeOfAll 18 = .ok (.iload_n 2, 1) := by decide +kernel
theorem dX1_sizeOfAll_19 : decode cX1_sizeOfAll 19 = .ok (.iaload, 1) := by decide +kernel
theorem dX1_sizeOfAll_20 : decode cX1_sizeOfAll 20 = .ok (.iadd, 1) := by decide +kernel
theorem dX1_sizeOfAll_21 : decode cX1_sizeOfAll 21 = .ok (.istore_n 1, 1) := by decide +kernel
theorem dX1_sizeOfAll_22 : decode cX1_sizeOfAll 22 = .ok (.iinc 2 1, 3) := by decide +kernel
theorem dX1_sizeOfAll_25 : decode cX1_sizeOfAll 25 = .ok (.goto (-21), 3) := by decide +kernel
theorem dX1_sizeOfAll_28 : decode cX1_sizeOfAll 28 = .ok (.iload_n 1, 1) := by decide +kernel
theorem dX1_sizeOfAll_29 : decode cX1_sizeOfAll 29 = .ok (.ireturn, 1) := by decide +kernel
theorem dX2_isCrash_0 : decode cX2_isCrash 0 = .ok (.aload_n 0, 1) := by decide +kernel
theorem dX2_isCrash_1 : decode cX2_isCrash 1 = .ok (.getfield 22, 3) := by decide +kernel
theorem dX2_isCrash_4 : decode cX2_isCrash 4 = .ok (.iload_n 1, 1) := by decide +kernel
theorem dX2_isCrash_5 : decode cX2_isCrash 5 = .ok (.iaload, 1) := by decide +kernel
theorem dX2_isCrash_6 : decode cX2_isCrash 6 = .ok (.iconst (-1), 1) := by decide +kernel
theorem dX2_isCrash_7 : decode cX2_isCrash 7 = .ok (.if_icmp .ne 7, 3) := by decide +kernel
theorem dX2_isCrash_10 : decode cX2_isCrash 10 = .ok (.iconst 1, 1) := by decide +kernel
theorem dX2_isCrash_11 : decode cX2_isCrash 11 = .ok (.goto 4, 3) := by decide +kernel
theorem dX2_isCrash_14 : decode cX2_isCrash 14 = .ok (.iconst 0, 1) := by decide +kernel
theorem dX2_isCrash_15 : decode cX2_isCrash 15 = .ok (.ireturn, 1) := by decide +kernel
theorem dX2_add_0 : decode cX2_add 0 = .ok (.aload_n 0, 1) := by decide +kernel
theorem dX2_add_1 : decode cX2_add 1 = .ok (.getfield 15, 3) := by decide +kernel
theorem dX2_add_4 : decode cX2_add 4 = .ok (.aload_n 0, 1) := by decide +kernel
theorem dX2_add_5 : decode cX2_add 5 = .ok (.getfield 9, 3) := by decide +kernel
theorem dX2_add_8 : decode cX2_add 8 = .ok (.iload_n 1, 1) := by decide +kernel
theorem dX2_add_9 : decode cX2_add 9 = .ok (.iastore, 1) := by decide +kernel
theorem dX2_add_10 : decode cX2_add 10 = .ok (.aload_n 0, 1) := by decide +kernel
theorem dX2_add_11 : decode cX2_add 11 = .ok (.getfield 19, 3) := by decide +kernel
theorem dX2_add_14 : decode cX2_add 14 = .ok (.aload_n 0, 1) := by decide +kernel
theorem dX2_add_15 : decode cX2_add 15 = .ok (.getfield 9, 3) := by decide +kernel
theorem dX2_add_18 : decode cX2_add 18 = .ok (.iload_n 2, 1) := by decide +kernel
theorem dX2_add_19 : decode cX2_add 19 = .ok (.iastore, 1) := by decide +kernel
theorem dX2_add_20 : decode cX2_add 20 = .ok (.aload_n 0, 1) := by decide +kernel
theorem dX2_add_21 : decode cX2_add 21 = .ok (.getfield 22, 3) := by decide +kernel
theorem dX2_add_24 : decode cX2_add 24 = .ok (.aload_n 0, 1) := by decide +kernel
theorem dX2_add_25 : decode cX2_add 25 = .ok (.getfield 9, 3) := by decide +kernel
theorem dX2_add_28 : decode cX2_add 28 = .ok (.iload_n 3, 1) := by decide +kernel
theorem dX2_add_29 : decode cX2_add 29 = .ok (.iastore, 1) := by decide +kernel
theorem dX2_add_30 : decode cX2_add 30 = .ok (.aload_n 0, 1) := by decide +kernel
theorem dX2_add_31 : decode cX2_add 31 = .ok (.dup, 1) := by decide +kernel
theorem dX2_add_32 : decode cX2_add 32 = .ok (.getfield 9, 3) := by decide +kernel
theorem dX2_add_35 : decode cX2_add 35 = .ok (.iconst 1, 1) := by decide +kernel
theorem dX2_add_36 : decode cX2_add 36 = .ok (.iadd, 1) := by decide +kernel
theorem dX2_add_37 : decode cX2_add 37 = .ok (.putfield 9, 3) := by decide +kernel
theorem dX2_add_40 : decode cX2_add 40 = .ok (.return_, 1) := by decide +kernel
theorem dX2_move_0 : decode cX2_move 0 = .ok (.aload_n 0, 1) := by decide +kernel
theorem dX2_move_1 : decode cX2_move 1 = .ok (.getfield 15, 3) := by decide +kernel
theorem dX2_move_4 : decode cX2_move 4 = .ok (.iload_n 2, 1) := by decide +kernel
theorem dX2_move_5 : decode cX2_move 5 = .ok (.aload_n 0, 1) := by decide +kernel
theorem dX2_move_6 : decode cX2_move 6 = .ok (.getfield 15, 3) := by decide +kernel
theorem dX2_move_9 : decode cX2_move 9 = .ok (.iload_n 1, 1) := by decide +kernel
theorem dX2_move_10 : decode cX2_move 10 = .ok (.iaload, 1) := by decide +kernel
theorem dX2_move_11 : decode cX2_move 11 = .ok (.iastore, 1) := by decide +kernel
theorem dX2_move_12 : decode cX2_move 12 = .ok (.aload_n 0, 1) := by decide +kernel
theorem dX2_move_13 : decode cX2_move 13 = .ok (.getfield 19, 3) := by decide +kernel
theorem dX2_move_16 : decode cX2_move 16 = .ok (.iload_n 2, 1) := by decide +kernel
theorem dX2_move_17 : decode cX2_move 17 = .ok (.aload_n 0, 1) := by decide +kernel
theorem dX2_move_18 : decode cX2_move 18 = .ok (.getfield 19, 3) := by decide +kernel
theorem dX2_move_21 : decode cX2_move 21 = .ok (.iload_n 1, 1) := by decide +kernel
theorem dX2_move_22 : decode cX2_move 22 = .ok (.iaload, 1) := by decide +kernel
theorem dX2_move_23 : decode cX2_move 23 = .ok (.iastore, 1) := by decide +kernel
theorem dX2_move_24 : decode cX2_move 24 = .ok (.aload_n 0, 1) := by decide +kernel
theorem dX2_move_25 : decode cX2_move 25 = .ok (.getfield 22, 3) := by decide +kernel
theorem dX2_move_28 : decode cX2_move 28 = .ok (.iload_n 2, 1) := by decide +kernel
theorem dX2_move_29 : decode cX2_move 29 = .ok (.aload_n 0, 1) := by decide +kernel
theorem dX2_move_30 : decode cX2_move 30 = .ok (.getfield 22, 3) := by decide +kernel
theorem dX2_move_33 : decode cX2_move 33 = .ok (.iload_n 1, 1) := by decide +kernel
theorem dX2_move_34 : decode cX2_move 34 = .ok (.iaload, 1) := by decide +kernel
theorem dX2_move_35 : decode cX2_move 35 = .ok (.iastore, 1) := by decide +kernel
theorem dX2_move_36 : decode cX2_move 36 = .ok (.return_, 1) := by decide +kernel
theorem dX3_begin_0 : decode cX3_begin 0 = .ok (.aload_n 0, 1) := by decide +kernel
theorem dX3_begin_1 : decode cX3_begin 1 = .ok (.getfield 9, 3) := by decide +kernel
theorem dX3_begin_4 : decode cX3_begin 4 = .ok (.iload_n 1, 1) := by decide +kernel
theorem dX3_begin_5 : decode cX3_begin 5 = .ok (.iconst 0, 1) := by decide +kernel
theorem dX3_begin_6 : decode cX3_begin 6 = .ok (.iastore, 1) := by decide +kernel
theorem dX3_begin_7 : decode cX3_begin 7 = .ok (.aload_n 0, 1) := by decide +kernel
theorem dX3_begin_8 : decode cX3_begin 8 = .ok (.getfield 21, 3) := by decide +kernel
theorem dX3_begin_11 : decode cX3_begin 11 = .ok (.iload_n 1, 1) := by decide +kernel
theorem dX3_begin_12 : decode cX3_begin 12 = .ok (.iconst (-1), 1) := by decide +kernel
theorem dX3_begin_13 : decode cX3_begin 13 = .ok (.iastore, 1) := by decide +kernel
theorem dX3_begin_14 : decode cX3_begin 14 = .ok (.aload_n 0, 1) := by decide +kernel
theorem dX3_begin_15 : decode cX3_begin 15 = .ok (.getfield 24, 3) := by decide +kernel
theorem dX3_begin_18 : decode cX3_begin 18 = .ok (.iload_n 1, 1) := by decide +kernel
theorem dX3_begin_19 : decode cX3_begin 19 = .ok (.iconst (-1), 1) := by decide +kernel
theorem dX3_begin_20 : decode cX3_begin 20 = .ok (.iastore, 1) := by decide +kernel
theorem dX3_begin_21 : decode cX3_begin 21 = .ok (.return_, 1) := by decide +kernel
theorem dX3_cease_0 : decode cX3_cease 0 = .ok (.aload_n 0, 1) := by decide +kernel
theorem dX3_cease_1 : decode cX3_cease 1 = .ok (.getfield 9, 3) := by decide +kernel
theorem dX3_cease_4 : decode cX3_cease 4 = .ok (.iload_n 1, 1) := by decide +kernel
theorem dX3_cease_5 : decode cX3_cease 5 = .ok (.iconst (-1), 1) := by decide +kernel
theorem dX3_cease_6 : decode cX3_cease 6 = .ok (.iastore, 1) := by decide +kernel
theorem dX3_cease_7 : decode cX3_cease 7 = .ok (.return_, 1) := by decide +kernel
theorem dX3_hear_0 : decode cX3_hear 0 = .ok (.aload_n 0, 1) := by decide +kernel
theorem dX3_hear_1 : decode cX3_hear 1 = .ok (.iload_n 1, 1) := by decide +kernel
theorem dX3_hear_2 : decode cX3_hear 2 = .ok (.invokevirtual 31, 3) := by decide +kernel
theorem dX3_hear_5 : decode cX3_hear 5 = .ok (.ifCond .ne 4, 3) := by decide +kernel
theorem dX3_hear_8 : decode cX3_hear 8 = .ok (.return_, 1) := by decide +kernel
theorem dX3_hear_9 : decode cX3_hear 9 = .ok (.aload_n 0, 1) := by decide +kernel
theorem dX3_hear_10 : decode cX3_hear 10 = .ok (.getfield 9, 3) := by decide +kernel
theorem dX3_hear_13 : decode cX3_hear 13 = .ok (.iload_n 1, 1) := by decide +kernel
theorem dX3_hear_14 : decode cX3_hear 14 = .ok (.dup2, 1) := by decide +kernel
theorem dX3_hear_15 : decode cX3_hear 15 = .ok (.iaload, 1) := by decide +kernel
theorem dX3_hear_16 : decode cX3_hear 16 = .ok (.iconst 1, 1) := by decide +kernel
theorem dX3_hear_17 : decode cX3_hear 17 = .ok (.iload_n 2, 1) := by decide +kernel
theorem dX3_hear_18 : decode cX3_hear 18 = .ok (.ishl, 1) := by decide +kernel
theorem dX3_hear_19 : decode cX3_hear 19 = .ok (.ior, 1) := by decide +kernel
theorem dX3_hear_20 : decode cX3_hear 20 = .ok (.iastore, 1) := by decide +kernel
theorem dX3_hear_21 : decode cX3_hear 21 = .ok (.aload_n 0, 1) := by decide +kernel
theorem dX3_hear_22 : decode cX3_hear 22 = .ok (.getfield 21, 3) := by decide +kernel
theorem dX3_hear_25 : decode cX3_hear 25 = .ok (.iload_n 1, 1) := by decide +kernel
theorem dX3_hear_26 : decode cX3_hear 26 = .ok (.aload_n 0, 1) := by decide +kernel
theorem dX3_hear_27 : decode cX3_hear 27 = .ok (.getfield 21, 3) := by decide +kernel
theorem dX3_hear_30 : decode cX3_hear 30 = .ok (.iload_n 1, 1) := by decide +kernel
theorem dX3_hear_31 : decode cX3_hear 31 = .ok (.iaload, 1) := by decide +kernel
theorem dX3_hear_32 : decode cX3_hear 32 = .ok (.iload_n 3, 1) := by decide +kernel
theorem dX3_hear_33 : decode cX3_hear 33 = .ok (.invokestatic 35, 3) := by decide +kernel
theorem dX3_hear_36 : decode cX3_hear 36 = .ok (.iastore, 1) := by decide +kernel
theorem dX3_hear_37 : decode cX3_hear 37 = .ok (.iload 4, 2) := by decide +kernel
theorem dX3_hear_39 : decode cX3_hear 39 = .ok (.ifCond .eq 19, 3) := by decide +kernel
theorem dX3_hear_42 : decode cX3_hear 42 = .ok (.aload_n 0, 1) := by decide +kernel
theorem dX3_hear_43 : decode cX3_hear 43 = .ok (.getfield 24, 3) := by decide +kernel
theorem dX3_hear_46 : decode cX3_hear 46 = .ok (.iload_n 1, 1) := by decide +kernel
theorem dX3_hear_47 : decode cX3_hear 47 = .ok (.aload_n 0, 1) := by decide +kernel
theorem dX3_hear_48 : decode cX3_hear 48 = .ok (.getfield 24, 3) := by decide +kernel
theorem dX3_hear_51 : decode cX3_hear 51 = .ok (.iload_n 1, 1) := by decide +kernel
theorem dX3_hear_52 : decode cX3_hear 52 = .ok (.iaload, 1) := by decide +kernel
theorem dX3_hear_53 : decode cX3_hear 53 = .ok (.iload_n 3, 1) := by decide +kernel
theorem dX3_hear_54 : decode cX3_hear 54 = .ok (.invokestatic 35, 3) := by decide +kernel
theorem dX3_hear_57 : decode cX3_hear 57 = .ok (.iastore, 1) := by decide +kernel
theorem dX3_hear_58 : decode cX3_hear 58 = .ok (.return_, 1) := by decide +kernel
theorem dX3_outcome_0 : decode cX3_outcome 0 = .ok (.aload_n 0, 1) := by decide +kernel
theorem dX3_outcome_1 : decode cX3_outcome 1 = .ok (.getfield 24, 3) := by decide +kernel
theorem dX3_outcome_4 : decode cX3_outcome 4 = .ok (.iload_n 1, 1) := by decide +kernel
theorem dX3_outcome_5 : decode cX3_outcome 5 = .ok (.iaload, 1) := by decide +kernel
theorem dX3_outcome_6 : decode cX3_outcome 6 = .ok (.iconst (-1), 1) := by decide +kernel
theorem dX3_outcome_7 : decode cX3_outcome 7 = .ok (.if_icmp .eq 12, 3) := by decide +kernel
theorem dX3_outcome_10 : decode cX3_outcome 10 = .ok (.aload_n 0, 1) := by decide +kernel
theorem dX3_outcome_11 : decode cX3_outcome 11 = .ok (.getfield 24, 3) := by decide +kernel
theorem dX3_outcome_14 : decode cX3_outcome 14 = .ok (.iload_n 1, 1) := by decide +kernel
theorem dX3_outcome_15 : decode cX3_outcome 15 = .ok (.iaload, 1) := by decide +kernel
theorem dX3_outcome_16 : decode cX3_outcome 16 = .ok (.goto 9, 3) := by decide +kernel
theorem dX3_outcome_19 : decode cX3_outcome 19 = .ok (.aload_n 0, 1) := by decide +kernel
theorem dX3_outcome_20 : decode cX3_outcome 20 = .ok (.getfield 21, 3) := by decide +kernel
theorem dX3_outcome_23 : decode cX3_outcome 23 = .ok (.iload_n 1, 1) := by decide +kernel
theorem dX3_outcome_24 : decode cX3_outcome 24 = .ok (.iaload, 1) := by decide +kernel
theorem dX3_outcome_25 : decode cX3_outcome 25 = .ok (.ireturn, 1) := by decide +kernel
theorem dX4_settle_0 : decode cX4_settle 0 = .ok (.aload_n 0, 1) := by decide +kernel
theorem dX4_settle_1 : decode cX4_settle 1 = .ok (.getfield 9, 3) := by decide +kernel
theorem dX4_settle_4 : decode cX4_settle 4 = .ok (.iload_n 1, 1) := by decide +kernel
theorem dX4_settle_5 : decode cX4_settle 5 = .ok (.iaload, 1) := by decide +kernel
theorem dX4_settle_6 : decode cX4_settle 6 = .ok (.ifCond .ne 7, 3) := by decide +kernel
theorem dX4_settle_9 : decode cX4_settle 9 = .ok (.iconst 1, 1) := by decide +kernel
theorem dX4_settle_10 : decode cX4_settle 10 = .ok (.goto 4, 3) := by decide +kernel
theorem dX4_settle_13 : decode cX4_settle 13 = .ok (.iconst 0, 1) := by decide +kernel
theorem dX4_settle_14 : decode cX4_settle 14 = .ok (.istore 4, 2) := by decide +kernel
theorem dX4_settle_16 : decode cX4_settle 16 = .ok (.iload 4, 2) := by decide +kernel
theorem dX4_settle_18 : decode cX4_settle 18 = .ok (.ifCond .ne 23, 3) := by decide +kernel
theorem dX4_settle_21 : decode cX4_settle 21 = .ok (.aload_n 0, 1) := by decide +kernel
theorem dX4_settle_22 : decode cX4_settle 22 = .ok (.getfield 9, 3) := by decide +kernel
theorem dX4_settle_25 : decode cX4_settle 25 = .ok (.iload_n 1, 1) := by decide +kernel
theorem dX4_settle_26 : decode cX4_settle 26 = .ok (.iaload, 1) := by decide +kernel
theorem dX4_settle_27 : decode cX4_settle 27 = .ok (.iconst 1, 1) := by decide +kernel
theorem dX4_settle_28 : decode cX4_settle 28 = .ok (.if_icmp .ne 34, 3) := by decide +kernel
theorem dX4_settle_31 : decode cX4_settle 31 = .ok (.aload_n 0, 1) := by decide +kernel
theorem dX4_settle_32 : decode cX4_settle 32 = .ok (.getfield 18, 3) := by decide +kernel
theorem dX4_settle_35 : decode cX4_settle 35 = .ok (.iload_n 1, 1) := by decide +kernel
theorem dX4_settle_36 : decode cX4_settle 36 = .ok (.iaload, 1) := by decide +kernel
theorem dX4_settle_37 : decode cX4_settle 37 = .ok (.iload_n 2, 1) := by decide +kernel
theorem dX4_settle_38 : decode cX4_settle 38 = .ok (.if_icmp .ne 24, 3) := by decide +kernel
theorem dX4_settle_41 : decode cX4_settle 41 = .ok (.aload_n 0, 1) := by decide +kernel
theorem dX4_settle_42 : decode cX4_settle 42 = .ok (.getfield 9, 3) := by decide +kernel
theorem dX4_settle_45 : decode cX4_settle 45 = .ok (.iload_n 1, 1) := by decide +kernel
theorem dX4_settle_46 : decode cX4_settle 46 = .ok (.iconst 2, 1) := by decide +kernel
theorem dX4_settle_47 : decode cX4_settle 47 = .ok (.iastore, 1) := by decide +kernel
theorem dX4_settle_48 : decode cX4_settle 48 = .ok (.aload_n 0, 1) := by decide +kernel
theorem dX4_settle_49 : decode cX4_settle 49 = .ok (.getfield 15, 3) := by decide +kernel
theorem dX4_settle_52 : decode cX4_settle 52 = .ok (.iload_n 1, 1) := by decide +kernel
theorem dX4_settle_53 : decode cX4_settle 53 = .ok (.iload_n 3, 1) := by decide +kernel
theorem dX4_settle_54 : decode cX4_settle 54 = .ok (.iastore, 1) := by decide +kernel
theorem dX4_settle_55 : decode cX4_settle 55 = .ok (.aload_n 0, 1) := by decide +kernel
theorem dX4_settle_56 : decode cX4_settle 56 = .ok (.getfield 18, 3) := by decide +kernel
theorem dX4_settle_59 : decode cX4_settle 59 = .ok (.iload_n 1, 1) := by decide +kernel
theorem dX4_settle_60 : decode cX4_settle 60 = .ok (.iload_n 2, 1) := by decide +kernel
theorem dX4_settle_61 : decode cX4_settle 61 = .ok (.iastore, 1) := by decide +kernel
theorem dX4_settle_62 : decode cX4_settle 62 = .ok (.return_, 1) := by decide +kernel
theorem dX4_leastPending_0 : decode cX4_leastPending 0 = .ok (.iconst (-1), 1) := by decide +kernel
theorem dX4_leastPending_1 : decode cX4_leastPending 1 = .ok (.istore_n 3, 1) := by decide +kernel
theorem dX4_leastPending_2 : decode cX4_leastPending 2 = .ok (.iconst 0, 1) := by decide +kernel
theorem dX4_leastPending_3 : decode cX4_leastPending 3 = .ok (.istore 4, 2) := by decide +kernel
theorem dX4_leastPending_5 : decode cX4_leastPending 5 = .ok (.iload 4, 2) := by decide +kernel
theorem dX4_leastPending_7 : decode cX4_leastPending 7 = .ok (.iload_n 2, 1) := by decide +kernel
theorem dX4_leastPending_8 : decode cX4_leastPending 8 = .ok (.if_icmp .ge 54, 3) := by decide +kernel
theorem dX4_leastPending_11 : decode cX4_leastPending 11 = .ok (.iload_n 1, 1) := by decide +kernel
theorem dX4_leastPending_12 : decode cX4_leastPending 12 = .ok (.iload 4, 2) := by decide +kernel
theorem dX4_leastPending_14 : decode cX4_leastPending 14 = .ok (.invokestatic 34, 3) := by decide +kernel
theorem dX4_leastPending_17 : decode cX4_leastPending 17 = .ok (.istore 5, 2) := by decide +kernel
theorem dX4_leastPending_19 : decode cX4_leastPending 19 = .ok (.aload_n 0, 1) := by decide +kernel
theorem dX4_leastPending_20 : decode cX4_leastPending 20 = .ok (.iload 5, 2) := by decide +kernel
theorem dX4_leastPending_22 : decode cX4_leastPending 22 = .ok (.invokevirtual 38, 3) := by decide +kernel
theorem dX4_leastPending_25 : decode cX4_leastPending 25 = .ok (.ifCond .eq 31, 3) := by decide +kernel
theorem dX4_leastPending_28 : decode cX4_leastPending 28 = .ok (.iload_n 3, 1) := by decide +kernel
theorem dX4_leastPending_29 : decode cX4_leastPending 29 = .ok (.iconst (-1), 1) := by decide +kernel
theorem dX4_leastPending_30 : decode cX4_leastPending 30 = .ok (.if_icmp .eq 23, 3) := by decide +kernel
theorem dX4_leastPending_33 : decode cX4_leastPending 33 = .ok (.aload_n 0, 1) := by decide +kernel
theorem dX4_leastPending_34 : decode cX4_leastPending 34 = .ok (.getfield 15, 3) := by decide +kernel
theorem dX4_leastPending_37 : decode cX4_leastPending 37 = .ok (.iload 5, 2) := by decide +kernel
theorem dX4_leastPending_39 : decode cX4_leastPending 39 = .ok (.iaload, 1) := by decide +kernel
theorem dX4_leastPending_40 : decode cX4_leastPending 40 = .ok (.aload_n 0, 1) := by decide +kernel
theorem dX4_leastPending_41 : decode cX4_leastPending 41 = .ok (.getfield 15, 3) := by decide +kernel
theorem dX4_leastPending_44 : decode cX4_leastPending 44 = .ok (.iload_n 1, 1) := by decide +kernel
theorem dX4_leastPending_45 : decode cX4_leastPending 45 = .ok (.iload_n 3, 1) := by decide +kernel
theorem dX4_leastPending_46 : decode cX4_leastPending 46 = .ok (.invokestatic 34, 3) := by decide +kernel
theorem dX4_leastPending_49 : decode cX4_leastPending 49 = .ok (.iaload, 1) := by decide +kernel
theorem dX4_leastPending_50 : decode cX4_leastPending 50 = .ok (.if_icmp .ge 6, 3) := by decide +kernel
theorem dX4_leastPending_53 : decode cX4_leastPending 53 = .ok (.iload 4, 2) := by decide +kernel
theorem dX4_leastPending_55 : decode cX4_leastPending 55 = .ok (.istore_n 3, 1) := by decide +kernel
theorem dX4_leastPending_56 : decode cX4_leastPending 56 = .ok (.iinc 4 1, 3) := by decide +kernel
theorem dX4_leastPending_59 : decode cX4_leastPending 59 = .ok (.goto (-54), 3) := by decide +kernel
theorem dX4_leastPending_62 : decode cX4_leastPending 62 = .ok (.iload_n 3, 1) := by decide +kernel
theorem dX4_leastPending_63 : decode cX4_leastPending 63 = .ok (.ireturn, 1) := by decide +kernel
section S_21_n01
variable {p : Program} {l : Launch} {e : Env} {R : Room} {s : State} {m : MethodId} {args : Array Value} {below : List Frame} {meth : Method} {c : Code} {A : Nat → Prop} {D : va_G} {cI cB cL : ClassId} {ad : Nat → Nat} {pa pl : Nat}
noncomputable def fX0_ringOf_26 (K2 : Int32 → Option Int32) (K14 : Int32 → Int32 → Option Int32) (u : Sg) : Nat → Int32 → Int32 → Int32 → Option Int32
  | 0, _, _, _ => none
  | n + 1, x1, x2, x3 => cnd ((u 0 1) ≤ x3) (bnd (x2 + 1) (fun v7 => K14 x1 v7)) (grd (vp_in x1 6) (grd (vp_in x2 6) (grd (vp_in x3 6) (cnd ((fX0_isRing (u 1 ((x1 : Int32).toNatClampNeg)) (u 1 ((x2 : Int32).toNatClampNeg)) (u 1 ((x3 : Int32).toNatClampNeg))) = 0) (bnd (x3 + 1) (fun v12 => fX0_ringOf_26 K2 K14 u n x1 x2 v12)) (some ((((1 : Int32) <<< ((x1 &&& 31 : Int32))) ||| ((1 : Int32) <<< ((x2 &&& 31 : Int32)))) ||| ((1 : Int32) <<< ((x3 &&& 31 : Int32)))))))))
noncomputable def fX0_ringOf_14 (K2 : Int32 → Option Int32) (u : Sg) : Nat → Int32 → Int32 → Option Int32
  | 0, _, _ => none
  | n + 1, x1, x2 => cnd ((u 0 1) ≤ x2) (bnd (x1 + 1) (fun v4 => K2 v4)) (bnd (x2 + 1) (fun v5 => fX0_ringOf_26 K2 (fun a0 a1 => fX0_ringOf_14 K2 u n a0 a1) u FU x1 x2 v5))
noncomputable def fX0_ringOf_2 (u : Sg) : Nat → Int32 → Option Int32
  | 0, _ => none
  | n + 1, x1 => cnd ((u 0 1) ≤ x1) (some (-1)) (bnd (x1 + 1) (fun v2 => fX0_ringOf_14 (fun a0 => fX0_ringOf_2 u n a0) u FU x1 v2))
noncomputable def fX0_ringOf_0 (u : Sg) : Option Int32 := fX0_ringOf_2 u FU 0
noncomputable def fX0_ringOf (u : Sg) : Option Int32 := fX0_ringOf_0 u
set_option maxRecDepth 10000 in
set_option maxHeartbeats 4000000 in
theorem wX0_ringOf_26 (C : cx D (tyl cI cB cL) A RX0 cX0_ringOf 4 (some .int) p s m args c meth) (hR : 1 ≤ R.frames ∧ 22 ≤ R.locals) {r : Int32} (u : Sg) {K2 : Int32 → Option Int32} (hK2 : ∀ (y1 : Int32) (H : Heap) (locs : List Loc) (ls : Array Slot), lv_has ls 4 [(0, .ref (ad 0)), (1, .int y1)] → st D (wN cI ad pa pl) A s u H locs → K2 y1 = some r → W p l e R s m args below meth c H locs 0 0 (MQ below (qI D (tyl cI cB cL) (wN cI ad pa pl) A r u) args s 0 0 A) (F0 m 2 ls [])) {K14 : Int32 → Int32 → Option Int32} (hK14 : ∀ (y1 : Int32) (y2 : Int32) (H : Heap) (locs : List Loc) (ls : Array Slot), lv_has ls 4 [(0, .ref (ad 0)), (1, .int y1), (2, .int y2)] → st D (wN cI ad pa pl) A s u H locs → K14 y1 y2 = some r → W p l e R s m args below meth c H locs 0 0 (MQ below (qI D (tyl cI cB cL) (wN cI ad pa pl) A r u) args s 0 0 A) (F0 m 14 ls [])) : ∀ (n : Nat) (x1 : Int32) (x2 : Int32) (x3 : Int32) (H : Heap) (locs : List Loc) (ls : Array Slot), lv_has ls 4 [(0, .ref (ad 0)), (1, .int x1), (2, .int x2), (3, .int x3)] → st D (wN cI ad pa pl) A s u H locs → fX0_ringOf_26 K2 K14 u n x1 x2 x3 = some r → W p l e R s m args below meth c H locs 0 0 (MQ below (qI D (tyl cI cB cL) (wN cI ad pa pl) A r u) args s 0 0 A) (F0 m 26 ls []) := by
  have hx := C.1
  have hb := C.2.1
  intro n
  induction n with
  | zero =>
    intro x1 x2 x3 H locs ls hl S h
    cases h
  | succ n ih =>
    intro x1 x2 x3 H locs ls hl S h
    rw [fX0_ringOf_26] at h
    have hsz := hl.1
    refine lv_iload_n hx hb dX0_ringOf_26 rfl (lv_at hl 3 rfl) ?_
    refine lv_aload_n hx hb dX0_ringOf_27 rfl (lv_at hl 0 rfl) ?_
    refine q_get (v := .int (u 0 1)) C S (oN0 cI ad pa pl) rfl iwX7 1 (by decide) mw_389 rfl dX0_ringOf_28 ?_
    refine lv_icmp_ge (tgt := 76) hx hb dX0_ringOf_31 (by decide) (fun c6 => ?_) (fun c6 => ?_)
    · have h := cnd_t c6 h
      obtain ⟨v7, ev7⟩ : ∃ y : Int32, y = x2 + 1 := ⟨_, rfl⟩
      have h := bnd_of ev7 h
      refine lv_iinc (v := v7) (lv' := [(2, .int v7), (0, .ref (ad 0)), (1, .int x1), (3, .int x3)]) hx hb dX0_ringOf_76 hl (k := 2) rfl (by rw [ev7]; rfl) (by decide) rfl (fun ls hl => ?_)
      have hsz := hl.1
      refine lv_goto (tgt := 14) hx hb dX0_ringOf_79 (by decide) ?_
      exact hK14 x1 v7 H locs ls (lv_sub hl [1, 2, 0] rfl) S h
    · have h := cnd_f c6 h
      refine lv_aload_n hx hb dX0_ringOf_34 rfl (lv_at hl 0 rfl) ?_
      refine q_get (v := .ref (ad 1)) C S (oN0 cI ad pa pl) rfl iwX7 9 (by decide) mw_390 rfl dX0_ringOf_35 ?_
      refine lv_iload_n hx hb dX0_ringOf_38 rfl (lv_at hl 1 rfl) ?_
      obtain ⟨g8, h⟩ := grd_some h
      refine q_iald C S (aN1 cI ad pa pl) 0 rfl g8 dX0_ringOf_39 (j := (x1 : Int32).toNatClampNeg) rfl ?_
      refine lv_aload_n hx hb dX0_ringOf_40 rfl (lv_at hl 0 rfl) ?_
      refine q_get (v := .ref (ad 1)) C S (oN0 cI ad pa pl) rfl iwX7 9 (by decide) mw_390 rfl dX0_ringOf_41 ?_
      refine lv_iload_n hx hb dX0_ringOf_44 rfl (lv_at hl 2 rfl) ?_
      obtain ⟨g9, h⟩ := grd_some h
      refine q_iald C S (aN1 cI ad pa pl) 0 rfl g9 dX0_ringOf_45 (j := (x2 : Int32).toNatClampNeg) rfl ?_
      refine lv_aload_n hx hb dX0_ringOf_46 rfl (lv_at hl 0 rfl) ?_
      refine q_get (v := .ref (ad 1)) C S (oN0 cI ad pa pl) rfl iwX7 9 (by decide) mw_390 rfl dX0_ringOf_47 ?_
      refine lv_iload_n hx hb dX0_ringOf_50 rfl (lv_at hl 3 rfl) ?_
      obtain ⟨g10, h⟩ := grd_some h
      refine q_iald C S (aN1 cI ad pa pl) 0 rfl g10 dX0_ringOf_51 (j := (x3 : Int32).toNatClampNeg) rfl ?_
      refine q_callP (As := [.int (u 1 ((x1 : Int32).toNatClampNeg)), .int (u 1 ((x2 : Int32).toNatClampNeg)), .int (u 1 ((x3 : Int32).toNatClampNeg))]) (na := 3) C S (ct_X0_isRing l D cI cB cL (u 1 ((x1 : Int32).toNatClampNeg)) (u 1 ((x2 : Int32).toNatClampNeg)) (u 1 ((x3 : Int32).toNatClampNeg))) mw_393 mw_392 mw_362 mw_391 hdX0_isRing ⟨Nat.le_trans (Nat.le_of_ble_eq_true rfl) hR.1, Nat.le_trans (Nat.le_of_ble_eq_true rfl) hR.2⟩ rfl hsz ⟨Nat.zero_le _, Nat.zero_le _⟩ (Nat.le_of_ble_eq_true rfl) dX0_ringOf_52 rfl (fun H locs S => ?_)
      refine lv_if_eq (tgt := 70) hx hb dX0_ringOf_55 (by decide) (fun c11 => ?_) (fun c11 => ?_)
      · have h := cnd_t c11 h
        obtain ⟨v12, ev12⟩ : ∃ y : Int32, y = x3 + 1 := ⟨_, rfl⟩
        have h := bnd_of ev12 h
        refine lv_iinc (v := v12) (lv' := [(3, .int v12), (0, .ref (ad 0)), (1, .int x1), (2, .int x2)]) hx hb dX0_ringOf_70 hl (k := 3) rfl (by rw [ev12]; rfl) (by decide) rfl (fun ls hl => ?_)
        have hsz := hl.1
        refine lv_goto (tgt := 26) hx hb dX0_ringOf_73 (by decide) ?_
        exact ih x1 x2 v12 H locs ls (lv_sub hl [1, 2, 3, 0] rfl) S h
      · have h := cnd_f c11 h
        refine lv_iconst (v := 1) hx hb dX0_ringOf_58 (by decide) ?_
        refine lv_iload_n hx hb dX0_ringOf_59 rfl (lv_at hl 1 rfl) ?_
        refine lv_ishl hx hb dX0_ringOf_60 ?_
        refine lv_iconst (v := 1) hx hb dX0_ringOf_61 (by decide) ?_
        refine lv_iload_n hx hb dX0_ringOf_62 rfl (lv_at hl 2 rfl) ?_
        refine lv_ishl hx hb dX0_ringOf_63 ?_
        refine lv_ior hx hb dX0_ringOf_64 ?_
        refine lv_iconst (v := 1) hx hb dX0_ringOf_65 (by decide) ?_
        refine lv_iload_n hx hb dX0_ringOf_66 rfl (lv_at hl 3 rfl) ?_
        refine lv_ishl hx hb dX0_ringOf_67 ?_
        refine lv_ior hx hb dX0_ringOf_68 ?_
        exact q_iret C S (rt_R h) dX0_ringOf_69
set_option maxRecDepth 10000 in
set_option maxHeartbeats 4000000 in
theorem wX0_ringOf_14 (C : cx D (tyl cI cB cL) A RX0 cX0_ringOf 4 (some .int) p s m args c meth) (hR : 1 ≤ R.frames ∧ 22 ≤ R.locals) {r : Int32} (u : Sg) {K2 : Int32 → Option Int32} (hK2 : ∀ (y1 : Int32) (H : Heap) (locs : List Loc) (ls : Array Slot), lv_has ls 4 [(0, .ref (ad 0)), (1, .int y1)] → st D (wN cI ad pa pl) A s u H locs → K2 y1 = some r → W p l e R s m args below meth c H locs 0 0 (MQ below (qI D (tyl cI cB cL) (wN cI ad pa pl) A r u) args s 0 0 A) (F0 m 2 ls [])) : ∀ (n : Nat) (x1 : Int32) (x2 : Int32) (H : Heap) (locs : List Loc) (ls : Array Slot), lv_has ls 4 [(0, .ref (ad 0)), (1, .int x1), (2, .int x2)] → st D (wN cI ad pa pl) A s u H locs → fX0_ringOf_14 K2 u n x1 x2 = some r → W p l e R s m args below meth c H locs 0 0 (MQ below (qI D (tyl cI cB cL) (wN cI ad pa pl) A r u) args s 0 0 A) (F0 m 14 ls []) := by
  have hx := C.1
  have hb := C.2.1
  intro n
  induction n with
  | zero =>
    intro x1 x2 H locs ls hl S h
    cases h
  | succ n ih =>
    intro x1 x2 H locs ls hl S h
    rw [fX0_ringOf_14] at h
    have hsz := hl.1
    refine lv_iload_n hx hb dX0_ringOf_14 rfl (lv_at hl 2 rfl) ?_
    refine lv_aload_n hx hb dX0_ringOf_15 rfl (lv_at hl 0 rfl) ?_
    refine q_get (v := .int (u 0 1)) C S (oN0 cI ad pa pl) rfl iwX7 1 (by decide) mw_389 rfl dX0_ringOf_16 ?_
    refine lv_icmp_ge (tgt := 82) hx hb dX0_ringOf_19 (by decide) (fun c3 => ?_) (fun c3 => ?_)
    · have h := cnd_t c3 h
      obtain ⟨v4, ev4⟩ : ∃ y : Int32, y = x1 + 1 := ⟨_, rfl⟩
      have h := bnd_of ev4 h
      refine lv_iinc (v := v4) (lv' := [(1, .int v4), (0, .ref (ad 0)), (2, .int x2)]) hx hb dX0_ringOf_82 hl (k := 1) rfl (by rw [ev4]; rfl) (by decide) rfl (fun ls hl => ?_)
      have hsz := hl.1
      refine lv_goto (tgt := 2) hx hb dX0_ringOf_85 (by decide) ?_
      exact hK2 v4 H locs ls (lv_sub hl [1, 0] rfl) S h
    · have h := cnd_f c3 h
      refine lv_iload_n hx hb dX0_ringOf_22 rfl (lv_at hl 2 rfl) ?_
      refine lv_iconst (v := 1) hx hb dX0_ringOf_23 (by decide) ?_
      refine lv_iadd hx hb dX0_ringOf_24 ?_
      refine lv_topi (fun v5 ev5 => ?_)
      have h := bnd_of ev5 h
      refine lv_istore_n (lv' := [(3, .int v5), (0, .ref (ad 0)), (1, .int x1), (2, .int x2)]) hx hb dX0_ringOf_25 rfl hl (by decide) rfl (fun ls hl => ?_)
      have hsz := hl.1
      exact wX0_ringOf_26 C hR u hK2 ih FU x1 x2 v5 H locs ls (lv_sub hl [1, 2, 3, 0] rfl) S h
set_option maxRecDepth 10000 in
set_option maxHeartbeats 4000000 in
theorem wX0_ringOf_2 (C : cx D (tyl cI cB cL) A RX0 cX0_ringOf 4 (some .int) p s m args c meth) (hR : 1 ≤ R.frames ∧ 22 ≤ R.locals) {r : Int32} (u : Sg) : ∀ (n : Nat) (x1 : Int32) (H : Heap) (locs : List Loc) (ls : Array Slot), lv_has ls 4 [(0, .ref (ad 0)), (1, .int x1)] → st D (wN cI ad pa pl) A s u H locs → fX0_ringOf_2 u n x1 = some r → W p l e R s m args below meth c H locs 0 0 (MQ below (qI D (tyl cI cB cL) (wN cI ad pa pl) A r u) args s 0 0 A) (F0 m 2 ls []) := by
  have hx := C.1
  have hb := C.2.1
  intro n
  induction n with
  | zero =>
    intro x1 H locs ls hl S h
    cases h
  | succ n ih =>
    intro x1 H locs ls hl S h
    rw [fX0_ringOf_2] at h
    have hsz := hl.1
    refine lv_iload_n hx hb dX0_ringOf_2 rfl (lv_at hl 1 rfl) ?_
    refine lv_aload_n hx hb dX0_ringOf_3 rfl (lv_at hl 0 rfl) ?_
    refine q_get (v := .int (u 0 1)) C S (oN0 cI ad pa pl) rfl iwX7 1 (by decide) mw_389 rfl dX0_ringOf_4 ?_
    refine lv_icmp_ge (tgt := 88) hx hb dX0_ringOf_7 (by decide) (fun c1 => ?_) (fun c1 => ?_)
    · have h := cnd_t c1 h
      refine lv_iconst (v := (-1)) hx hb dX0_ringOf_88 (by decide) ?_
      exact q_iret C S (rt_R h) dX0_ringOf_89
    · have h := cnd_f c1 h
      refine lv_iload_n hx hb dX0_ringOf_10 rfl (lv_at hl 1 rfl) ?_
      refine lv_iconst (v := 1) hx hb dX0_ringOf_11 (by decide) ?_
      refine lv_iadd hx hb dX0_ringOf_12 ?_
      refine lv_topi (fun v2 ev2 => ?_)
      have h := bnd_of ev2 h
      refine lv_istore_n (lv' := [(2, .int v2), (0, .ref (ad 0)), (1, .int x1)]) hx hb dX0_ringOf_13 rfl hl (by decide) rfl (fun ls hl => ?_)
      have hsz := hl.1
      exact wX0_ringOf_14 C hR u ih FU x1 v2 H locs ls (lv_sub hl [1, 2, 0] rfl) S h
set_option maxRecDepth 10000 in
set_option maxHeartbeats 4000000 in
theorem wX0_ringOf_0 (C : cx D (tyl cI cB cL) A RX0 cX0_ringOf 4 (some .int) p s m args c meth) (hR : 1 ≤ R.frames ∧ 22 ≤ R.locals) {r : Int32} (u : Sg) {H : Heap} {locs : List Loc} {ls : Array Slot} (hl : lv_has ls 4 [(0, .ref (ad 0))]) (S : st D (wN cI ad pa pl) A s u H locs) (h : fX0_ringOf_0 u = some r) : W p l e R s m args below meth c H locs 0 0 (MQ below (qI D (tyl cI cB cL) (wN cI ad pa pl) A r u) args s 0 0 A) (F0 m 0 ls []) := by
  have hx := C.1
  have hb := C.2.1
  have hsz := hl.1
  unfold fX0_ringOf_0 at h
  refine lv_iconst (v := 0) hx hb dX0_ringOf_0 (by decide) ?_
  refine lv_istore_n (lv' := [(1, .int 0), (0, .ref (ad 0))]) hx hb dX0_ringOf_1 rfl hl (by decide) rfl (fun ls hl => ?_)
  have hsz := hl.1
  exact wX0_ringOf_2 C hR u FU 0 H locs ls (lv_sub hl [1, 0] rfl) S h
set_option maxRecDepth 10000 in
set_option maxHeartbeats 4000000 in
theorem ct_X0_ringOf (l : Launch) (D : va_G) (cI cB cL : ClassId) (ad : Nat → Nat) (pa pl : Nat) (u : Sg) {r : Int32} (h : fX0_ringOf u = some r) : metI l D (tyl cI cB cL) yX0_ringOf cX0_ringOf 4 (some .int) 1 22 (wN cI ad pa pl) [.ref (ad 0)] u r u := by
  intro sz
  refine Met.ofW (cc := cX0_ringOf) (maxL := 4) (ret := (some .int)) (by decide) rfl ?_
  intro p e s m args below meth c s₁ B hml hv
  obtain ⟨rfl, C, S⟩ := q_entry B hml hv
  have hl := lv_entry ([.ref (ad 0)]) (n := 4) (Nat.le_of_ble_eq_true rfl)
  rw [lg_entry_eq]
  generalize (lg_sl ([.ref (ad 0)]) ++ List.replicate (4 - (lg_sl ([.ref (ad 0)])).length) Slot.unset).toArray = ls at hl ⊢
  exact wX0_ringOf_0 C ⟨Nat.le_refl _, Nat.le_refl _⟩ u (lv_sub hl [0] rfl) S h
noncomputable def fX1_cellAt_10 (pl : Nat) (u : Sg) : Nat → Int32 → Int32 → Int32 → Option Int32
  | 0, _, _, _ => none
  | n + 1, x2, x3, x4 => cnd (x2 ≤ x4) (some x3) (grd (vp_in (x3 + 5) pl) (bnd (u 10 (((x3 + 5) : Int32).toNatClampNeg)) (fun v5 => bnd (x4 + 1) (fun v6 => fX1_cellAt_10 pl u n x2 v5 v6))))
noncomputable def fX1_cellAt_0 (pl : Nat) (x1 : Int32) (x2 : Int32) (u : Sg) : Option Int32 := grd (vp_in x1 36) (bnd (u 11 ((x1 : Int32).toNatClampNeg)) (fun v2 => fX1_cellAt_10 pl u FU x2 v2 0))
noncomputable def fX1_cellAt (pl : Nat) (x1 : Int32) (x2 : Int32) (u : Sg) : Option Int32 := fX1_cellAt_0 pl x1 x2 u
set_option maxRecDepth 10000 in
set_option maxHeartbeats 4000000 in
theorem wX1_cellAt_10 (C : cx D (tyl cI cB cL) A RX1 cX1_cellAt 5 (some .int) p s m args c meth) (hR : 0 ≤ R.frames ∧ 0 ≤ R.locals) {r : Int32} (u : Sg) : ∀ (n : Nat) (x2 : Int32) (x3 : Int32) (x4 : Int32) (H : Heap) (locs : List Loc) (ls : Array Slot), lv_has ls 5 [(0, .ref (ad 5)), (2, .int x2), (3, .int x3), (4, .int x4)] → st D (wN cI ad pa pl) A s u H locs → fX1_cellAt_10 pl u n x2 x3 x4 = some r → W p l e R s m args below meth c H locs 0 0 (MQ below (qI D (tyl cI cB cL) (wN cI ad pa pl) A r u) args s 0 0 A) (F0 m 10 ls []) := by
  have hx := C.1
  have hb := C.2.1
  intro n
  induction n with
  | zero =>
    intro x2 x3 x4 H locs ls hl S h
    cases h
  | succ n ih =>
    intro x2 x3 x4 H locs ls hl S h
    rw [fX1_cellAt_10] at h
    have hsz := hl.1
    refine lv_iload hx hb dX1_cellAt_10 (lv_at hl 3 rfl) ?_
    refine lv_iload_n hx hb dX1_cellAt_12 rfl (lv_at hl 1 rfl) ?_
    refine lv_icmp_ge (tgt := 31) hx hb dX1_cellAt_13 (by decide) (fun c3 => ?_) (fun c3 => ?_)
    · have h := cnd_t c3 h
      refine lv_iload_n hx hb dX1_cellAt_31 rfl (lv_at hl 2 rfl) ?_
      exact q_iret C S (rt_R h) dX1_cellAt_32
    · have h := cnd_f c3 h
      refine lv_aload_n hx hb dX1_cellAt_16 rfl (lv_at hl 0 rfl) ?_
      refine q_get (v := .ref pa) C S (oN5 cI ad pa pl) rfl iwX1 4 (by decide) mw_395 rfl dX1_cellAt_17 ?_
      refine lv_iload_n hx hb dX1_cellAt_20 rfl (lv_at hl 2 rfl) ?_
      refine lv_iconst (v := 5) hx hb dX1_cellAt_21 (by decide) ?_
      refine lv_iadd hx hb dX1_cellAt_22 ?_
      obtain ⟨g4, h⟩ := grd_some h
      refine q_iald C S (aN10 cI ad pa pl) 0 rfl g4 dX1_cellAt_23 (j := ((x3 + 5) : Int32).toNatClampNeg) rfl ?_
      refine lv_topi (fun v5 ev5 => ?_)
      have h := bnd_of ev5 h
      refine lv_istore_n (lv' := [(3, .int v5), (0, .ref (ad 5)), (2, .int x2), (4, .int x4)]) hx hb dX1_cellAt_24 rfl hl (by decide) rfl (fun ls hl => ?_)
      have hsz := hl.1
      obtain ⟨v6, ev6⟩ : ∃ y : Int32, y = x4 + 1 := ⟨_, rfl⟩
      have h := bnd_of ev6 h
      refine lv_iinc (v := v6) (lv' := [(4, .int v6), (3, .int v5), (0, .ref (ad 5)), (2, .int x2)]) hx hb dX1_cellAt_25 hl (k := 3) rfl (by rw [ev6]; rfl) (by decide) rfl (fun ls hl => ?_)
      have hsz := hl.1
      refine lv_goto (tgt := 10) hx hb dX1_cellAt_28 (by decide) ?_
      exact ih x2 v5 v6 H locs ls (lv_sub hl [2, 3, 1, 0] rfl) S h
set_option maxRecDepth 10000 in
set_option maxHeartbeats 4000000 in
theorem wX1_cellAt_0 (C : cx D (tyl cI cB cL) A RX1 cX1_cellAt 5 (some .int) p s m args c meth) (hR : 0 ≤ R.frames ∧ 0 ≤ R.locals) {r : Int32} (u : Sg) (x1 : Int32) (x2 : Int32) {H : Heap} {locs : List Loc} {ls : Array Slot} (hl : lv_has ls 5 [(0, .ref (ad 5)), (1, .int x1), (2, .int x2)]) (S : st D (wN cI ad pa pl) A s u H locs) (h : fX1_cellAt_0 pl x1 x2 u = some r) : W p l e R s m args below meth c H locs 0 0 (MQ below (qI D (tyl cI cB cL) (wN cI ad pa pl) A r u) args s 0 0 A) (F0 m 0 ls []) := by
  have hx := C.1
  have hb := C.2.1
  have hsz := hl.1
  unfold fX1_cellAt_0 at h
  refine lv_aload_n hx hb dX1_cellAt_0 rfl (lv_at hl 0 rfl) ?_
  refine q_get (v := .ref (ad 11)) C S (oN5 cI ad pa pl) rfl iwX1 5 (by decide) mw_394 rfl dX1_cellAt_1 ?_
  refine lv_iload_n hx hb dX1_cellAt_4 rfl (lv_at hl 1 rfl) ?_
  obtain ⟨g1, h⟩ := grd_some h
  refine q_iald C S (aN11 cI ad pa pl) 0 rfl g1 dX1_cellAt_5 (j := (x1 : Int32).toNatClampNeg) rfl ?_
  refine lv_topi (fun v2 ev2 => ?_)
  have h := bnd_of ev2 h
  refine lv_istore_n (lv' := [(3, .int v2), (0, .ref (ad 5)), (1, .int x1), (2, .int x2)]) hx hb dX1_cellAt_6 rfl hl (by decide) rfl (fun ls hl => ?_)
  have hsz := hl.1
  refine lv_iconst (v := 0) hx hb dX1_cellAt_7 (by decide) ?_
  refine lv_istore (lv' := [(4, .int 0), (3, .int v2), (0, .ref (ad 5)), (1, .int x1), (2, .int x2)]) hx hb dX1_cellAt_8 hl (by decide) rfl (fun ls hl => ?_)
  have hsz := hl.1
  exact wX1_cellAt_10 C hR u FU x2 v2 0 H locs ls (lv_sub hl [2, 4, 1, 0] rfl) S h
set_option maxRecDepth 10000 in
set_option maxHeartbeats 4000000 in
theorem ct_X1_cellAt (l : Launch) (D : va_G) (cI cB cL : ClassId) (ad : Nat → Nat) (pa pl : Nat) (x1 : Int32) (x2 : Int32) (u : Sg) {r : Int32} (h : fX1_cellAt pl x1 x2 u = some r) : metI l D (tyl cI cB cL) yX1_cellAt cX1_cellAt 5 (some .int) 0 0 (wN cI ad pa pl) [.ref (ad 5), .int x1, .int x2] u r u := by
  intro sz
  refine Met.ofW (cc := cX1_cellAt) (maxL := 5) (ret := (some .int)) (by decide) rfl ?_
  intro p e s m args below meth c s₁ B hml hv
  obtain ⟨rfl, C, S⟩ := q_entry B hml hv
  have hl := lv_entry ([.ref (ad 5), .int x1, .int x2]) (n := 5) (Nat.le_of_ble_eq_true rfl)
  rw [lg_entry_eq]
  generalize (lg_sl ([.ref (ad 5), .int x1, .int x2]) ++ List.replicate (5 - (lg_sl ([.ref (ad 5), .int x1, .int x2])).length) Slot.unset).toArray = ls at hl ⊢
  exact wX1_cellAt_0 C ⟨Nat.le_refl _, Nat.le_refl _⟩ u x1 x2 (lv_sub hl [0, 1, 2] rfl) S h
noncomputable def fX1_openCell_0 (pl : Nat) (x1 : Int32) (x2 : Int32) (u : Sg) : Option Int32 := grd (vp_in x1 36) (bnd (u 11 ((x1 : Int32).toNatClampNeg)) (fun v2 => cnd (v2 = (-1)) (some (-1)) (grd (vp_in x1 36) (cnd ((u 7 ((x1 : Int32).toNatClampNeg)) = 0) (grd (vp_in (v2 + 0) pl) (cnd ((u 10 (((v2 + 0) : Int32).toNatClampNeg)) ≤ x2) (some v2) (some (-1)))) (some (-1))))))
noncomputable def fX1_openCell (pl : Nat) (x1 : Int32) (x2 : Int32) (u : Sg) : Option Int32 := fX1_openCell_0 pl x1 x2 u
set_option maxRecDepth 10000 in
set_option maxHeartbeats 4000000 in
theorem wX1_openCell_0 (C : cx D (tyl cI cB cL) A RX1 cX1_openCell 4 (some .int) p s m args c meth) (hR : 0 ≤ R.frames ∧ 0 ≤ R.locals) {r : Int32} (u : Sg) (x1 : Int32) (x2 : Int32) {H : Heap} {locs : List Loc} {ls : Array Slot} (hl : lv_has ls 4 [(0, .ref (ad 5)), (1, .int x1), (2, .int x2)]) (S : st D (wN cI ad pa pl) A s u H locs) (h : fX1_openCell_0 pl x1 x2 u = some r) : W p l e R s m args below meth c H locs 0 0 (MQ below (qI D (tyl cI cB cL) (wN cI ad pa pl) A r u) args s 0 0 A) (F0 m 0 ls []) := by
  have hx := C.1
  have hb := C.2.1
  have hsz := hl.1
  unfold fX1_openCell_0 at h
  refine lv_aload_n hx hb dX1_openCell_0 rfl (lv_at hl 0 rfl) ?_
  refine q_get (v := .ref (ad 11)) C S (oN5 cI ad pa pl) rfl iwX1 5 (by decide) mw_394 rfl dX1_openCell_1 ?_
  refine lv_iload_n hx hb dX1_openCell_4 rfl (lv_at hl 1 rfl) ?_
  obtain ⟨g1, h⟩ := grd_some h
  refine q_iald C S (aN11 cI ad pa pl) 0 rfl g1 dX1_openCell_5 (j := (x1 : Int32).toNatClampNeg) rfl ?_
  refine lv_topi (fun v2 ev2 => ?_)
  have h := bnd_of ev2 h
  refine lv_istore_n (lv' := [(3, .int v2), (0, .ref (ad 5)), (1, .int x1), (2, .int x2)]) hx hb dX1_openCell_6 rfl hl (by decide) rfl (fun ls hl => ?_)
  have hsz := hl.1
  refine lv_iload_n hx hb dX1_openCell_7 rfl (lv_at hl 0 rfl) ?_
  refine lv_iconst (v := (-1)) hx hb dX1_openCell_8 (by decide) ?_
  refine lv_icmp_eq (tgt := 33) hx hb dX1_openCell_9 (by decide) (fun c3 => ?_) (fun c3 => ?_)
  · have h := cnd_t c3 h
    refine lv_iconst (v := (-1)) hx hb dX1_openCell_33 (by decide) ?_
    exact q_iret C S (rt_R h) dX1_openCell_34
  · have h := cnd_f c3 h
    refine lv_aload_n hx hb dX1_openCell_12 rfl (lv_at hl 1 rfl) ?_
    refine q_get (v := .ref (ad 7)) C S (oN5 cI ad pa pl) rfl iwX1 1 (by decide) mw_396 rfl dX1_openCell_13 ?_
    refine lv_iload_n hx hb dX1_openCell_16 rfl (lv_at hl 2 rfl) ?_
    obtain ⟨g4, h⟩ := grd_some h
    refine q_iald C S (aN7 cI ad pa pl) 0 rfl g4 dX1_openCell_17 (j := (x1 : Int32).toNatClampNeg) rfl ?_
    refine lv_if_ne (tgt := 33) hx hb dX1_openCell_18 (by decide) (fun c5 => ?_) (fun c5 => ?_)
    · have h := cnd_f c5 h
      refine lv_iconst (v := (-1)) hx hb dX1_openCell_33 (by decide) ?_
      exact q_iret C S (rt_R h) dX1_openCell_34
    · have h := cnd_t c5 h
      refine lv_aload_n hx hb dX1_openCell_21 rfl (lv_at hl 1 rfl) ?_
      refine q_get (v := .ref pa) C S (oN5 cI ad pa pl) rfl iwX1 4 (by decide) mw_395 rfl dX1_openCell_22 ?_
      refine lv_iload_n hx hb dX1_openCell_25 rfl (lv_at hl 0 rfl) ?_
      refine lv_iconst (v := 0) hx hb dX1_openCell_26 (by decide) ?_
      refine lv_iadd hx hb dX1_openCell_27 ?_
      obtain ⟨g6, h⟩ := grd_some h
      refine q_iald C S (aN10 cI ad pa pl) 0 rfl g6 dX1_openCell_28 (j := ((v2 + 0) : Int32).toNatClampNeg) rfl ?_
      refine lv_iload_n hx hb dX1_openCell_29 rfl (lv_at hl 3 rfl) ?_
      refine lv_icmp_le (tgt := 35) hx hb dX1_openCell_30 (by decide) (fun c7 => ?_) (fun c7 => ?_)
      · have h := cnd_t c7 h
        refine lv_iload_n hx hb dX1_openCell_35 rfl (lv_at hl 0 rfl) ?_
        exact q_iret C S (rt_R h) dX1_openCell_36
      · have h := cnd_f c7 h
        refine lv_iconst (v := (-1)) hx hb dX1_openCell_33 (by decide) ?_
        exact q_iret C S (rt_R h) dX1_openCell_34
set_option maxRecDepth 10000 in
set_option maxHeartbeats 4000000 in
theorem ct_X1_openCell (l : Launch) (D : va_G) (cI cB cL : ClassId) (ad : Nat → Nat) (pa pl : Nat) (x1 : Int32) (x2 : Int32) (u : Sg) {r : Int32} (h : fX1_openCell pl x1 x2 u = some r) : metI l D (tyl cI cB cL) yX1_openCell cX1_openCell 4 (some .int) 0 0 (wN cI ad pa pl) [.ref (ad 5), .int x1, .int x2] u r u := by
  intro sz
  refine Met.ofW (cc := cX1_openCell) (maxL := 4) (ret := (some .int)) (by decide) rfl ?_
  intro p e s m args below meth c s₁ B hml hv
  obtain ⟨rfl, C, S⟩ := q_entry B hml hv
  have hl := lv_entry ([.ref (ad 5), .int x1, .int x2]) (n := 4) (Nat.le_of_ble_eq_true rfl)
  rw [lg_entry_eq]
  generalize (lg_sl ([.ref (ad 5), .int x1, .int x2]) ++ List.replicate (4 - (lg_sl ([.ref (ad 5), .int x1, .int x2])).length) Slot.unset).toArray = ls at hl ⊢
  exact wX1_openCell_0 C ⟨Nat.le_refl _, Nat.le_refl _⟩ u x1 x2 (lv_sub hl [0, 1, 2] rfl) S h
noncomputable def fX1_dropFirst_44 (pl : Nat) (x1 : Int32) (x2 : Int32) (u : Sg) : Option Sg := grd (vp_in (x2 + 5) pl) (bnd (s2 u 10 (((x2 + 5) : Int32).toNatClampNeg) (u 5 8)) (fun u10 => bnd (s2 u10 5 8 x2) (fun u11 => grd (vp_in x1 36) (grd (vp_in x1 36) (bnd (s2 u11 9 ((x1 : Int32).toNatClampNeg) ((u11 9 ((x1 : Int32).toNatClampNeg)) - 1)) (fun u14 => some u14))))))
noncomputable def fX1_dropFirst_0 (pl : Nat) (x1 : Int32) (u : Sg) : Option Sg := grd (vp_in x1 36) (bnd (u 11 ((x1 : Int32).toNatClampNeg)) (fun v2 => cnd (v2 = (-1)) (some u) (grd (vp_in (v2 + 5) pl) (grd (vp_in x1 36) (bnd (s2 u 11 ((x1 : Int32).toNatClampNeg) (u 10 (((v2 + 5) : Int32).toNatClampNeg))) (fun u6 => grd (vp_in x1 36) (cnd ((u6 11 ((x1 : Int32).toNatClampNeg)) = (-1)) (grd (vp_in x1 36) (bnd (s2 u6 12 ((x1 : Int32).toNatClampNeg) (-1)) (fun u16 => fX1_dropFirst_44 pl x1 v2 u16))) (fX1_dropFirst_44 pl x1 v2 u6))))))))
noncomputable def fX1_dropFirst (pl : Nat) (x1 : Int32) (u : Sg) : Option Sg := fX1_dropFirst_0 pl x1 u
set_option maxRecDepth 10000 in
set_option maxHeartbeats 4000000 in
theorem wX1_dropFirst_44 (C : cx D (tyl cI cB cL) A RX1 cX1_dropFirst 3 none p s m args c meth) (hR : 0 ≤ R.frames ∧ 0 ≤ R.locals) {σ' : Sg} (u : Sg) (x1 : Int32) (x2 : Int32) {H : Heap} {locs : List Loc} {ls : Array Slot} (hl : lv_has ls 3 [(0, .ref (ad 5)), (1, .int x1), (2, .int x2)]) (S : st D (wN cI ad pa pl) A s u H locs) (h : fX1_dropFirst_44 pl x1 x2 u = some σ') : W p l e R s m args below meth c H locs 0 0 (MQ below (qV D (tyl cI cB cL) (wN cI ad pa pl) A σ') args s 0 0 A) (F0 m 44 ls []) := by
  have hx := C.1
  have hb := C.2.1
  have hsz := hl.1
  unfold fX1_dropFirst_44 at h
  refine lv_aload_n hx hb dX1_dropFirst_44 rfl (lv_at hl 0 rfl) ?_
  refine q_get (v := .ref pa) C S (oN5 cI ad pa pl) rfl iwX1 4 (by decide) mw_395 rfl dX1_dropFirst_45 ?_
  refine lv_iload_n hx hb dX1_dropFirst_48 rfl (lv_at hl 2 rfl) ?_
  refine lv_iconst (v := 5) hx hb dX1_dropFirst_49 (by decide) ?_
  refine lv_iadd hx hb dX1_dropFirst_50 ?_
  refine lv_aload_n hx hb dX1_dropFirst_51 rfl (lv_at hl 0 rfl) ?_
  refine q_get (v := .int (u 5 8)) C S (oN5 cI ad pa pl) rfl iwX1 8 (by decide) mw_397 rfl dX1_dropFirst_52 ?_
  obtain ⟨g9, h⟩ := grd_some h
  obtain ⟨u10, eu10⟩ : ∃ z : Sg, z = s2 u 10 (((x2 + 5) : Int32).toNatClampNeg) (u 5 8) := ⟨_, rfl⟩
  have h := bnd_of eu10 h
  refine q_iast C S (aN10 cI ad pa pl) 0 rfl g9 dX1_dropFirst_55 (j := ((x2 + 5) : Int32).toNatClampNeg) rfl eu10 (fun H locs S => ?_)
  refine lv_aload_n hx hb dX1_dropFirst_56 rfl (lv_at hl 0 rfl) ?_
  refine lv_iload_n hx hb dX1_dropFirst_57 rfl (lv_at hl 2 rfl) ?_
  obtain ⟨u11, eu11⟩ : ∃ z : Sg, z = s2 u10 5 8 x2 := ⟨_, rfl⟩
  have h := bnd_of eu11 h
  refine q_put C S (oN5 cI ad pa pl) rfl iwX1 tyX1 tyX1_ok nmX1 8 (by decide) mw_397 rfl (iN5_8 cI ad pa pl) rfl rfl dX1_dropFirst_58 eu11 (fun H locs S => ?_)
  refine lv_aload_n hx hb dX1_dropFirst_61 rfl (lv_at hl 0 rfl) ?_
  refine q_get (v := .ref (ad 9)) C S (oN5 cI ad pa pl) rfl iwX1 3 (by decide) mw_398 rfl dX1_dropFirst_62 ?_
  refine lv_iload_n hx hb dX1_dropFirst_65 rfl (lv_at hl 1 rfl) ?_
  refine lv_dup2_11 hx hb dX1_dropFirst_66 rfl rfl ?_
  obtain ⟨g12, h⟩ := grd_some h
  refine q_iald C S (aN9 cI ad pa pl) 0 rfl g12 dX1_dropFirst_67 (j := (x1 : Int32).toNatClampNeg) rfl ?_
  refine lv_iconst (v := 1) hx hb dX1_dropFirst_68 (by decide) ?_
  refine lv_isub hx hb dX1_dropFirst_69 ?_
  obtain ⟨g13, h⟩ := grd_some h
  obtain ⟨u14, eu14⟩ : ∃ z : Sg, z = s2 u11 9 ((x1 : Int32).toNatClampNeg) ((u11 9 ((x1 : Int32).toNatClampNeg)) - 1) := ⟨_, rfl⟩
  have h := bnd_of eu14 h
  refine q_iast C S (aN9 cI ad pa pl) 0 rfl g13 dX1_dropFirst_70 (j := (x1 : Int32).toNatClampNeg) rfl eu14 (fun H locs S => ?_)
  exact q_vret C S (Option.some.inj h) dX1_dropFirst_71
set_option maxRecDepth 10000 in
set_option maxHeartbeats 4000000 in
theorem wX1_dropFirst_0 (C : cx D (tyl cI cB cL) A RX1 cX1_dropFirst 3 none p s m args c meth) (hR : 0 ≤ R.frames ∧ 0 ≤ R.locals) {σ' : Sg} (u : Sg) (x1 : Int32) {H : Heap} {locs : List Loc} {ls : Array Slot} (hl : lv_has ls 3 [(0, .ref (ad 5)), (1, .int x1)]) (S : st D (wN cI ad pa pl) A s u H locs) (h : fX1_dropFirst_0 pl x1 u = some σ') : W p l e R s m args below meth c H locs 0 0 (MQ below (qV D (tyl cI cB cL) (wN cI ad pa pl) A σ') args s 0 0 A) (F0 m 0 ls []) := by
  have hx := C.1
  have hb := C.2.1
  have hsz := hl.1
  unfold fX1_dropFirst_0 at h
  refine lv_aload_n hx hb dX1_dropFirst_0 rfl (lv_at hl 0 rfl) ?_
  refine q_get (v := .ref (ad 11)) C S (oN5 cI ad pa pl) rfl iwX1 5 (by decide) mw_394 rfl dX1_dropFirst_1 ?_
  refine lv_iload_n hx hb dX1_dropFirst_4 rfl (lv_at hl 1 rfl) ?_
  obtain ⟨g1, h⟩ := grd_some h
  refine q_iald C S (aN11 cI ad pa pl) 0 rfl g1 dX1_dropFirst_5 (j := (x1 : Int32).toNatClampNeg) rfl ?_
  refine lv_topi (fun v2 ev2 => ?_)
  have h := bnd_of ev2 h
  refine lv_istore_n (lv' := [(2, .int v2), (0, .ref (ad 5)), (1, .int x1)]) hx hb dX1_dropFirst_6 rfl hl (by decide) rfl (fun ls hl => ?_)
  have hsz := hl.1
  refine lv_iload_n hx hb dX1_dropFirst_7 rfl (lv_at hl 0 rfl) ?_
  refine lv_iconst (v := (-1)) hx hb dX1_dropFirst_8 (by decide) ?_
  refine lv_icmp_ne (tgt := 13) hx hb dX1_dropFirst_9 (by decide) (fun c3 => ?_) (fun c3 => ?_)
  · have h := cnd_f c3 h
    refine lv_aload_n hx hb dX1_dropFirst_13 rfl (lv_at hl 1 rfl) ?_
    refine q_get (v := .ref (ad 11)) C S (oN5 cI ad pa pl) rfl iwX1 5 (by decide) mw_394 rfl dX1_dropFirst_14 ?_
    refine lv_iload_n hx hb dX1_dropFirst_17 rfl (lv_at hl 2 rfl) ?_
    refine lv_aload_n hx hb dX1_dropFirst_18 rfl (lv_at hl 1 rfl) ?_
    refine q_get (v := .ref pa) C S (oN5 cI ad pa pl) rfl iwX1 4 (by decide) mw_395 rfl dX1_dropFirst_19 ?_
    refine lv_iload_n hx hb dX1_dropFirst_22 rfl (lv_at hl 0 rfl) ?_
    refine lv_iconst (v := 5) hx hb dX1_dropFirst_23 (by decide) ?_
    refine lv_iadd hx hb dX1_dropFirst_24 ?_
    obtain ⟨g4, h⟩ := grd_some h
    refine q_iald C S (aN10 cI ad pa pl) 0 rfl g4 dX1_dropFirst_25 (j := ((v2 + 5) : Int32).toNatClampNeg) rfl ?_
    obtain ⟨g5, h⟩ := grd_some h
    obtain ⟨u6, eu6⟩ : ∃ z : Sg, z = s2 u 11 ((x1 : Int32).toNatClampNeg) (u 10 (((v2 + 5) : Int32).toNatClampNeg)) := ⟨_, rfl⟩
    have h := bnd_of eu6 h
    refine q_iast C S (aN11 cI ad pa pl) 0 rfl g5 dX1_dropFirst_26 (j := (x1 : Int32).toNatClampNeg) rfl eu6 (fun H locs S => ?_)
    refine lv_aload_n hx hb dX1_dropFirst_27 rfl (lv_at hl 1 rfl) ?_
    refine q_get (v := .ref (ad 11)) C S (oN5 cI ad pa pl) rfl iwX1 5 (by decide) mw_394 rfl dX1_dropFirst_28 ?_
    refine lv_iload_n hx hb dX1_dropFirst_31 rfl (lv_at hl 2 rfl) ?_
    obtain ⟨g7, h⟩ := grd_some h
    refine q_iald C S (aN11 cI ad pa pl) 0 rfl g7 dX1_dropFirst_32 (j := (x1 : Int32).toNatClampNeg) rfl ?_
    refine lv_iconst (v := (-1)) hx hb dX1_dropFirst_33 (by decide) ?_
    refine lv_icmp_ne (tgt := 44) hx hb dX1_dropFirst_34 (by decide) (fun c8 => ?_) (fun c8 => ?_)
    · have h := cnd_f c8 h
      exact wX1_dropFirst_44 C hR u6 x1 v2 (lv_sub hl [1, 2, 0] rfl) S h
    · have h := cnd_t c8 h
      refine lv_aload_n hx hb dX1_dropFirst_37 rfl (lv_at hl 1 rfl) ?_
      refine q_get (v := .ref (ad 12)) C S (oN5 cI ad pa pl) rfl iwX1 6 (by decide) mw_399 rfl dX1_dropFirst_38 ?_
      refine lv_iload_n hx hb dX1_dropFirst_41 rfl (lv_at hl 2 rfl) ?_
      refine lv_iconst (v := (-1)) hx hb dX1_dropFirst_42 (by decide) ?_
      obtain ⟨g15, h⟩ := grd_some h
      obtain ⟨u16, eu16⟩ : ∃ z : Sg, z = s2 u6 12 ((x1 : Int32).toNatClampNeg) (-1) := ⟨_, rfl⟩
      have h := bnd_of eu16 h
      refine q_iast C S (aN12 cI ad pa pl) 0 rfl g15 dX1_dropFirst_43 (j := (x1 : Int32).toNatClampNeg) rfl eu16 (fun H locs S => ?_)
      exact wX1_dropFirst_44 C hR u16 x1 v2 (lv_sub hl [1, 2, 0] rfl) S h
  · have h := cnd_t c3 h
    exact q_vret C S (Option.some.inj h) dX1_dropFirst_12
set_option maxRecDepth 10000 in
set_option maxHeartbeats 4000000 in
theorem ct_X1_dropFirst (l : Launch) (D : va_G) (cI cB cL : ClassId) (ad : Nat → Nat) (pa pl : Nat) (x1 : Int32) (u : Sg) {σ' : Sg} (h : fX1_dropFirst pl x1 u = some σ') : metV l D (tyl cI cB cL) yX1_dropFirst cX1_dropFirst 3 0 0 (wN cI ad pa pl) [.ref (ad 5), .int x1] u σ' := by
  intro sz
  refine Met.ofW (cc := cX1_dropFirst) (maxL := 3) (ret := none) (by decide) rfl ?_
  intro p e s m args below meth c s₁ B hml hv
  obtain ⟨rfl, C, S⟩ := q_entry B hml hv
  have hl := lv_entry ([.ref (ad 5), .int x1]) (n := 3) (Nat.le_of_ble_eq_true rfl)
  rw [lg_entry_eq]
  generalize (lg_sl ([.ref (ad 5), .int x1]) ++ List.replicate (3 - (lg_sl ([.ref (ad 5), .int x1])).length) Slot.unset).toArray = ls at hl ⊢
  exact wX1_dropFirst_0 C ⟨Nat.le_refl _, Nat.le_refl _⟩ u x1 (lv_sub hl [0, 1] rfl) S h
noncomputable def fX1_dropAll_7 (pl : Nat) : Nat → Int32 → Int32 → Sg → Option Sg
  | 0, _, _, _ => none
  | n + 1, x1, x2, u => cnd (x2 ≤ 0) (some u) (obr (fX1_dropFirst pl x1 u) (fun u5 => bnd (x2 + (-1)) (fun v6 => fX1_dropAll_7 pl n x1 v6 u5)))
noncomputable def fX1_dropAll_0 (pl : Nat) (x1 : Int32) (u : Sg) : Option Sg := grd (vp_in x1 36) (bnd (u 9 ((x1 : Int32).toNatClampNeg)) (fun v2 => fX1_dropAll_7 pl FU x1 v2 u))
noncomputable def fX1_dropAll (pl : Nat) (x1 : Int32) (u : Sg) : Option Sg := fX1_dropAll_0 pl x1 u
set_option maxRecDepth 10000 in
set_option maxHeartbeats 4000000 in
theorem wX1_dropAll_7 (C : cx D (tyl cI cB cL) A RX1 cX1_dropAll 3 none p s m args c meth) (hR : 1 ≤ R.frames ∧ 22 ≤ R.locals) {σ' : Sg} : ∀ (n : Nat) (x1 : Int32) (x2 : Int32) (u : Sg) (H : Heap) (locs : List Loc) (ls : Array Slot), lv_has ls 3 [(0, .ref (ad 5)), (1, .int x1), (2, .int x2)] → st D (wN cI ad pa pl) A s u H locs → fX1_dropAll_7 pl n x1 x2 u = some σ' → W p l e R s m args below meth c H locs 0 0 (MQ below (qV D (tyl cI cB cL) (wN cI ad pa pl) A σ') args s 0 0 A) (F0 m 7 ls []) := by
  have hx := C.1
  have hb := C.2.1
  intro n
  induction n with
  | zero =>
    intro x1 x2 u H locs ls hl S h
    cases h
  | succ n ih =>
    intro x1 x2 u H locs ls hl S h
    rw [fX1_dropAll_7] at h
    have hsz := hl.1
    refine lv_iload_n hx hb dX1_dropAll_7 rfl (lv_at hl 2 rfl) ?_
    refine lv_if_le (tgt := 22) hx hb dX1_dropAll_8 (by decide) (fun c3 => ?_) (fun c3 => ?_)
    · have h := cnd_t c3 h
      exact q_vret C S (Option.some.inj h) dX1_dropAll_22
    · have h := cnd_f c3 h
      refine lv_aload_n hx hb dX1_dropAll_11 rfl (lv_at hl 0 rfl) ?_
      refine lv_iload_n hx hb dX1_dropAll_12 rfl (lv_at hl 1 rfl) ?_
      obtain ⟨u5, h4, h⟩ := obr_some h
      refine q_callVv (As := [.int x1]) (na := 1) C S (oN5 cI ad pa pl) rfl (ct_X1_dropFirst l D cI cB cL ad pa pl x1 u h4) mw_403 mw_402 mw_404 mw_401 mw_400 hdX1_dropFirst ⟨Nat.le_trans (Nat.le_of_ble_eq_true rfl) hR.1, Nat.le_trans (Nat.le_of_ble_eq_true rfl) hR.2⟩ rfl hsz ⟨Nat.zero_le _, Nat.zero_le _⟩ (Nat.le_of_ble_eq_true rfl) dX1_dropAll_13 rfl (fun H locs S => ?_)
      obtain ⟨v6, ev6⟩ : ∃ y : Int32, y = x2 + (-1) := ⟨_, rfl⟩
      have h := bnd_of ev6 h
      refine lv_iinc (v := v6) (lv' := [(2, .int v6), (0, .ref (ad 5)), (1, .int x1)]) hx hb dX1_dropAll_16 hl (k := 2) rfl (by rw [ev6]; rfl) (by decide) rfl (fun ls hl => ?_)
      have hsz := hl.1
      refine lv_goto (tgt := 7) hx hb dX1_dropAll_19 (by decide) ?_
      exact ih x1 v6 u5 H locs ls (lv_sub hl [1, 2, 0] rfl) S h
set_option maxRecDepth 10000 in
set_option maxHeartbeats 4000000 in
theorem wX1_dropAll_0 (C : cx D (tyl cI cB cL) A RX1 cX1_dropAll 3 none p s m args c meth) (hR : 1 ≤ R.frames ∧ 22 ≤ R.locals) {σ' : Sg} (u : Sg) (x1 : Int32) {H : Heap} {locs : List Loc} {ls : Array Slot} (hl : lv_has ls 3 [(0, .ref (ad 5)), (1, .int x1)]) (S : st D (wN cI ad pa pl) A s u H locs) (h : fX1_dropAll_0 pl x1 u = some σ') : W p l e R s m args below meth c H locs 0 0 (MQ below (qV D (tyl cI cB cL) (wN cI ad pa pl) A σ') args s 0 0 A) (F0 m 0 ls []) := by
  have hx := C.1
  have hb := C.2.1
  have hsz := hl.1
  unfold fX1_dropAll_0 at h
  refine lv_aload_n hx hb dX1_dropAll_0 rfl (lv_at hl 0 rfl) ?_
  refine q_get (v := .ref (ad 9)) C S (oN5 cI ad pa pl) rfl iwX1 3 (by decide) mw_398 rfl dX1_dropAll_1 ?_
  refine lv_iload_n hx hb dX1_dropAll_4 rfl (lv_at hl 1 rfl) ?_
  obtain ⟨g1, h⟩ := grd_some h
  refine q_iald C S (aN9 cI ad pa pl) 0 rfl g1 dX1_dropAll_5 (j := (x1 : Int32).toNatClampNeg) rfl ?_
  refine lv_topi (fun v2 ev2 => ?_)
  have h := bnd_of ev2 h
  refine lv_istore_n (lv' := [(2, .int v2), (0, .ref (ad 5)), (1, .int x1)]) hx hb dX1_dropAll_6 rfl hl (by decide) rfl (fun ls hl => ?_)
  have hsz := hl.1
  exact wX1_dropAll_7 C hR FU x1 v2 u H locs ls (lv_sub hl [1, 2, 0] rfl) S h
set_option maxRecDepth 10000 in
set_option maxHeartbeats 4000000 in
theorem ct_X1_dropAll (l : Launch) (D : va_G) (cI cB cL : ClassId) (ad : Nat → Nat) (pa pl : Nat) (x1 : Int32) (u : Sg) {σ' : Sg} (h : fX1_dropAll pl x1 u = some σ') : metV l D (tyl cI cB cL) yX1_dropAll cX1_dropAll 3 1 22 (wN cI ad pa pl) [.ref (ad 5), .int x1] u σ' := by
  intro sz
  refine Met.ofW (cc := cX1_dropAll) (maxL := 3) (ret := none) (by decide) rfl ?_
  intro p e s m args below meth c s₁ B hml hv
  obtain ⟨rfl, C, S⟩ := q_entry B hml hv
  have hl := lv_entry ([.ref (ad 5), .int x1]) (n := 3) (Nat.le_of_ble_eq_true rfl)
  rw [lg_entry_eq]
  generalize (lg_sl ([.ref (ad 5), .int x1]) ++ List.replicate (3 - (lg_sl ([.ref (ad 5), .int x1])).length) Slot.unset).toArray = ls at hl ⊢
  exact wX1_dropAll_0 C ⟨Nat.le_refl _, Nat.le_refl _⟩ u x1 (lv_sub hl [0, 1] rfl) S h
noncomputable def fX1_hasOpen_34 (K2 : Int32 → Int32 → Option Int32) (x1 : Int32) (x2 : Int32) (u : Sg) : Option Int32 := bnd (x2 + 1) (fun v5 => K2 x1 v5)
noncomputable def fX1_hasOpen_2 (u : Sg) : Nat → Int32 → Int32 → Option Int32
  | 0, _, _ => none
  | n + 1, x1, x2 => cnd (6 ≤ x2) (some 0) (bnd (fX11_channelOf x2 x1) (fun v2 => grd (vp_in v2 36) (cnd ((u 9 ((v2 : Int32).toNatClampNeg)) ≤ 0) (fX1_hasOpen_34 (fun a0 a1 => fX1_hasOpen_2 u n a0 a1) x1 x2 u) (grd (vp_in v2 36) (cnd ((u 7 ((v2 : Int32).toNatClampNeg)) = 0) (some 1) (fX1_hasOpen_34 (fun a0 a1 => fX1_hasOpen_2 u n a0 a1) x1 x2 u))))))
noncomputable def fX1_hasOpen_0 (x1 : Int32) (u : Sg) : Option Int32 := fX1_hasOpen_2 u FU x1 0
noncomputable def fX1_hasOpen (x1 : Int32) (u : Sg) : Option Int32 := fX1_hasOpen_0 x1 u
set_option maxRecDepth 10000 in
set_option maxHeartbeats 4000000 in
theorem wX1_hasOpen_34 (C : cx D (tyl cI cB cL) A RX1 cX1_hasOpen 4 (some .boolean) p s m args c meth) (hR : 1 ≤ R.frames ∧ 21 ≤ R.locals) {r : Int32} (u : Sg) {K2 : Int32 → Int32 → Option Int32} (hK2 : ∀ (y1 : Int32) (y2 : Int32) (H : Heap) (locs : List Loc) (ls : Array Slot), lv_has ls 4 [(0, .ref (ad 5)), (1, .int y1), (2, .int y2)] → st D (wN cI ad pa pl) A s u H locs → K2 y1 y2 = some r → W p l e R s m args below meth c H locs 0 0 (MQ below (qI D (tyl cI cB cL) (wN cI ad pa pl) A r u) args s 0 0 A) (F0 m 2 ls [])) (x1 : Int32) (x2 : Int32) {H : Heap} {locs : List Loc} {ls : Array Slot} (hl : lv_has ls 4 [(0, .ref (ad 5)), (1, .int x1), (2, .int x2)]) (S : st D (wN cI ad pa pl) A s u H locs) (h : fX1_hasOpen_34 K2 x1 x2 u = some r) : W p l e R s m args below meth c H locs 0 0 (MQ below (qI D (tyl cI cB cL) (wN cI ad pa pl) A r u) args s 0 0 A) (F0 m 34 ls []) := by
  have hx := C.1
  have hb := C.2.1
  have hsz := hl.1
  unfold fX1_hasOpen_34 at h
  obtain ⟨v5, ev5⟩ : ∃ y : Int32, y = x2 + 1 := ⟨_, rfl⟩
  have h := bnd_of ev5 h
  refine lv_iinc (v := v5) (lv' := [(2, .int v5), (0, .ref (ad 5)), (1, .int x1)]) hx hb dX1_hasOpen_34 hl (k := 2) rfl (by rw [ev5]; rfl) (by decide) rfl (fun ls hl => ?_)
  have hsz := hl.1
  refine lv_goto (tgt := 2) hx hb dX1_hasOpen_37 (by decide) ?_
  exact hK2 x1 v5 H locs ls (lv_sub hl [1, 2, 0] rfl) S h
set_option maxRecDepth 10000 in
set_option maxHeartbeats 4000000 in
theorem wX1_hasOpen_2 (C : cx D (tyl cI cB cL) A RX1 cX1_hasOpen 4 (some .boolean) p s m args c meth) (hR : 1 ≤ R.frames ∧ 21 ≤ R.locals) {r : Int32} (u : Sg) : ∀ (n : Nat) (x1 : Int32) (x2 : Int32) (H : Heap) (locs : List Loc) (ls : Array Slot), lv_has ls 4 [(0, .ref (ad 5)), (1, .int x1), (2, .int x2)] → st D (wN cI ad pa pl) A s u H locs → fX1_hasOpen_2 u n x1 x2 = some r → W p l e R s m args below meth c H locs 0 0 (MQ below (qI D (tyl cI cB cL) (wN cI ad pa pl) A r u) args s 0 0 A) (F0 m 2 ls []) := by
  have hx := C.1
  have hb := C.2.1
  intro n
  induction n with
  | zero =>
    intro x1 x2 H locs ls hl S h
    cases h
  | succ n ih =>
    intro x1 x2 H locs ls hl S h
    rw [fX1_hasOpen_2] at h
    have hsz := hl.1
    refine lv_iload_n hx hb dX1_hasOpen_2 rfl (lv_at hl 2 rfl) ?_
    refine lv_bipush (v := 6) hx hb dX1_hasOpen_3 (by decide) ?_
    refine lv_icmp_ge (tgt := 40) hx hb dX1_hasOpen_5 (by decide) (fun c1 => ?_) (fun c1 => ?_)
    · have h := cnd_t c1 h
      refine lv_iconst (v := 0) hx hb dX1_hasOpen_40 (by decide) ?_
      exact q_zret C S rfl (rt_R h) dX1_hasOpen_41
    · have h := cnd_f c1 h
      refine lv_iload_n hx hb dX1_hasOpen_8 rfl (lv_at hl 2 rfl) ?_
      refine lv_iload_n hx hb dX1_hasOpen_9 rfl (lv_at hl 1 rfl) ?_
      refine q_callPN (As := [.int x2, .int x1]) (na := 2) C S (ct_X11_channelOf l D cI cB cL x2 x1) (List.mem_of_getElem? (i := 19) rfl) mw_406 mw_321 mw_405 hdX11_channelOf ⟨Nat.le_trans (Nat.le_of_ble_eq_true rfl) hR.1, Nat.le_trans (Nat.le_of_ble_eq_true rfl) hR.2⟩ rfl hsz ⟨Nat.zero_le _, Nat.zero_le _⟩ (Nat.le_of_ble_eq_true rfl) dX1_hasOpen_10 rfl (fun H locs S => ?_)
      refine lv_topi (fun v2 ev2 => ?_)
      have h := bnd_of ev2 h
      refine lv_istore_n (lv' := [(3, .int v2), (0, .ref (ad 5)), (1, .int x1), (2, .int x2)]) hx hb dX1_hasOpen_13 rfl hl (by decide) rfl (fun ls hl => ?_)
      have hsz := hl.1
      refine lv_aload_n hx hb dX1_hasOpen_14 rfl (lv_at hl 1 rfl) ?_
      refine q_get (v := .ref (ad 9)) C S (oN5 cI ad pa pl) rfl iwX1 3 (by decide) mw_398 rfl dX1_hasOpen_15 ?_
      refine lv_iload_n hx hb dX1_hasOpen_18 rfl (lv_at hl 0 rfl) ?_
      obtain ⟨g3, h⟩ := grd_some h
      refine q_iald C S (aN9 cI ad pa pl) 0 rfl g3 dX1_hasOpen_19 (j := (v2 : Int32).toNatClampNeg) rfl ?_
      refine lv_if_le (tgt := 34) hx hb dX1_hasOpen_20 (by decide) (fun c4 => ?_) (fun c4 => ?_)
      · have h := cnd_t c4 h
        exact wX1_hasOpen_34 C hR u ih x1 x2 (lv_sub hl [1, 2, 3] rfl) S h
      · have h := cnd_f c4 h
        refine lv_aload_n hx hb dX1_hasOpen_23 rfl (lv_at hl 1 rfl) ?_
        refine q_get (v := .ref (ad 7)) C S (oN5 cI ad pa pl) rfl iwX1 1 (by decide) mw_396 rfl dX1_hasOpen_24 ?_
        refine lv_iload_n hx hb dX1_hasOpen_27 rfl (lv_at hl 0 rfl) ?_
        obtain ⟨g6, h⟩ := grd_some h
        refine q_iald C S (aN7 cI ad pa pl) 0 rfl g6 dX1_hasOpen_28 (j := (v2 : Int32).toNatClampNeg) rfl ?_
        refine lv_if_ne (tgt := 34) hx hb dX1_hasOpen_29 (by decide) (fun c7 => ?_) (fun c7 => ?_)
        · have h := cnd_f c7 h
          exact wX1_hasOpen_34 C hR u ih x1 x2 (lv_sub hl [1, 2, 3] rfl) S h
        · have h := cnd_t c7 h
          refine lv_iconst (v := 1) hx hb dX1_hasOpen_32 (by decide) ?_
          exact q_zret C S rfl (rt_R h) dX1_hasOpen_33
set_option maxRecDepth 10000 in
set_option maxHeartbeats 4000000 in
theorem wX1_hasOpen_0 (C : cx D (tyl cI cB cL) A RX1 cX1_hasOpen 4 (some .boolean) p s m args c meth) (hR : 1 ≤ R.frames ∧ 21 ≤ R.locals) {r : Int32} (u : Sg) (x1 : Int32) {H : Heap} {locs : List Loc} {ls : Array Slot} (hl : lv_has ls 4 [(0, .ref (ad 5)), (1, .int x1)]) (S : st D (wN cI ad pa pl) A s u H locs) (h : fX1_hasOpen_0 x1 u = some r) : W p l e R s m args below meth c H locs 0 0 (MQ below (qI D (tyl cI cB cL) (wN cI ad pa pl) A r u) args s 0 0 A) (F0 m 0 ls []) := by
  have hx := C.1
  have hb := C.2.1
  have hsz := hl.1
  unfold fX1_hasOpen_0 at h
  refine lv_iconst (v := 0) hx hb dX1_hasOpen_0 (by decide) ?_
  refine lv_istore_n (lv' := [(2, .int 0), (0, .ref (ad 5)), (1, .int x1)]) hx hb dX1_hasOpen_1 rfl hl (by decide) rfl (fun ls hl => ?_)
  have hsz := hl.1
  exact wX1_hasOpen_2 C hR u FU x1 0 H locs ls (lv_sub hl [1, 2, 0] rfl) S h
set_option maxRecDepth 10000 in
set_option maxHeartbeats 4000000 in
theorem ct_X1_hasOpen (l : Launch) (D : va_G) (cI cB cL : ClassId) (ad : Nat → Nat) (pa pl : Nat) (x1 : Int32) (u : Sg) {r : Int32} (h : fX1_hasOpen x1 u = some r) : metI l D (tyl cI cB cL) yX1_hasOpen cX1_hasOpen 4 (some .boolean) 1 21 (wN cI ad pa pl) [.ref (ad 5), .int x1] u r u := by
  intro sz
  refine Met.ofW (cc := cX1_hasOpen) (maxL := 4) (ret := (some .boolean)) (by decide) rfl ?_
  intro p e s m args below meth c s₁ B hml hv
  obtain ⟨rfl, C, S⟩ := q_entry B hml hv
  have hl := lv_entry ([.ref (ad 5), .int x1]) (n := 4) (Nat.le_of_ble_eq_true rfl)
  rw [lg_entry_eq]
  generalize (lg_sl ([.ref (ad 5), .int x1]) ++ List.replicate (4 - (lg_sl ([.ref (ad 5), .int x1])).length) Slot.unset).toArray = ls at hl ⊢
  exact wX1_hasOpen_0 C ⟨Nat.le_refl _, Nat.le_refl _⟩ u x1 (lv_sub hl [0, 1] rfl) S h
noncomputable def fX1_sizeOfAll_4 (u : Sg) : Nat → Int32 → Int32 → Option Int32
  | 0, _, _ => none
  | n + 1, x1, x2 => cnd (36 ≤ x2) (some x1) (grd (vp_in x2 36) (bnd (x1 + (u 9 ((x2 : Int32).toNatClampNeg))) (fun v3 => bnd (x2 + 1) (fun v4 => fX1_sizeOfAll_4 u n v3 v4))))
noncomputable def fX1_sizeOfAll_0 (u : Sg) : Option Int32 := fX1_sizeOfAll_4 u FU 0 0
noncomputable def fX1_sizeOfAll (u : Sg) : Option Int32 := fX1_sizeOfAll_0 u
set_option maxRecDepth 10000 in
set_option maxHeartbeats 4000000 in
theorem wX1_sizeOfAll_4 (C : cx D (tyl cI cB cL) A RX1 cX1_sizeOfAll 3 (some .int) p s m args c meth) (hR : 0 ≤ R.frames ∧ 0 ≤ R.locals) {r : Int32} (u : Sg) : ∀ (n : Nat) (x1 : Int32) (x2 : Int32) (H : Heap) (locs : List Loc) (ls : Array Slot), lv_has ls 3 [(0, .ref (ad 5)), (1, .int x1), (2, .int x2)] → st D (wN cI ad pa pl) A s u H locs → fX1_sizeOfAll_4 u n x1 x2 = some r → W p l e R s m args below meth c H locs 0 0 (MQ below (qI D (tyl cI cB cL) (wN cI ad pa pl) A r u) args s 0 0 A) (F0 m 4 ls []) := by
  have hx := C.1
  have hb := C.2.1
  intro n
  induction n with
  | zero =>
    intro x1 x2 H locs ls hl S h
    cases h
  | succ n ih =>
    intro x1 x2 H locs ls hl S h
    rw [fX1_sizeOfAll_4] at h
    have hsz := hl.1
    refine lv_iload_n hx hb dX1_sizeOfAll_4 rfl (lv_at hl 2 rfl) ?_
    refine lv_aload_n hx hb dX1_sizeOfAll_5 rfl (lv_at hl 0 rfl) ?_
    refine q_get (v := .ref (ad 9)) C S (oN5 cI ad pa pl) rfl iwX1 3 (by decide) mw_398 rfl dX1_sizeOfAll_6 ?_
    refine q_alen (v := 36) C S (aN9 cI ad pa pl) 0 rfl (by decide) dX1_sizeOfAll_9 ?_
    refine lv_icmp_ge (tgt := 28) hx hb dX1_sizeOfAll_10 (by decide) (fun c1 => ?_) (fun c1 => ?_)
    · have h := cnd_t c1 h
      refine lv_iload_n hx hb dX1_sizeOfAll_28 rfl (lv_at hl 1 rfl) ?_
      exact q_iret C S (rt_R h) dX1_sizeOfAll_29
    · have h := cnd_f c1 h
      refine lv_iload_n hx hb dX1_sizeOfAll_13 rfl (lv_at hl 1 rfl) ?_
      refine lv_aload_n hx hb dX1_sizeOfAll_14 rfl (lv_at hl 0 rfl) ?_
      refine q_get (v := .ref (ad 9)) C S (oN5 cI ad pa pl) rfl iwX1 3 (by decide) mw_398 rfl dX1_sizeOfAll_15 ?_
      refine lv_iload_n hx hb dX1_sizeOfAll_18 rfl (lv_at hl 2 rfl) ?_
      obtain ⟨g2, h⟩ := grd_some h
      refine q_iald C S (aN9 cI ad pa pl) 0 rfl g2 dX1_sizeOfAll_19 (j := (x2 : Int32).toNatClampNeg) rfl ?_
      refine lv_iadd hx hb dX1_sizeOfAll_20 ?_
      refine lv_topi (fun v3 ev3 => ?_)
      have h := bnd_of ev3 h
      refine lv_istore_n (lv' := [(1, .int v3), (0, .ref (ad 5)), (2, .int x2)]) hx hb dX1_sizeOfAll_21 rfl hl (by decide) rfl (fun ls hl => ?_)
      have hsz := hl.1
      obtain ⟨v4, ev4⟩ : ∃ y : Int32, y = x2 + 1 := ⟨_, rfl⟩
      have h := bnd_of ev4 h
      refine lv_iinc (v := v4) (lv' := [(2, .int v4), (1, .int v3), (0, .ref (ad 5))]) hx hb dX1_sizeOfAll_22 hl (k := 2) rfl (by rw [ev4]; rfl) (by decide) rfl (fun ls hl => ?_)
      have hsz := hl.1
      refine lv_goto (tgt := 4) hx hb dX1_sizeOfAll_25 (by decide) ?_
      exact ih v3 v4 H locs ls (lv_sub hl [2, 1, 0] rfl) S h
set_option maxRecDepth 10000 in
set_option maxHeartbeats 4000000 in
theorem wX1_sizeOfAll_0 (C : cx D (tyl cI cB cL) A RX1 cX1_sizeOfAll 3 (some .int) p s m args c meth) (hR : 0 ≤ R.frames ∧ 0 ≤ R.locals) {r : Int32} (u : Sg) {H : Heap} {locs : List Loc} {ls : Array Slot} (hl : lv_has ls 3 [(0, .ref (ad 5))]) (S : st D (wN cI ad pa pl) A s u H locs) (h : fX1_sizeOfAll_0 u = some r) : W p l e R s m args below meth c H locs 0 0 (MQ below (qI D (tyl cI cB cL) (wN cI ad pa pl) A r u) args s 0 0 A) (F0 m 0 ls []) := by
  have hx := C.1
  have hb := C.2.1
  have hsz := hl.1
  unfold fX1_sizeOfAll_0 at h
  refine lv_iconst (v := 0) hx hb dX1_sizeOfAll_0 (by decide) ?_
  refine lv_istore_n (lv' := [(1, .int 0), (0, .ref (ad 5))]) hx hb dX1_sizeOfAll_1 rfl hl (by decide) rfl (fun ls hl => ?_)
  have hsz := hl.1
  refine lv_iconst (v := 0) hx hb dX1_sizeOfAll_2 (by decide) ?_
  refine lv_istore_n (lv' := [(2, .int 0), (1, .int 0), (0, .ref (ad 5))]) hx hb dX1_sizeOfAll_3 rfl hl (by decide) rfl (fun ls hl => ?_)
  have hsz := hl.1
  exact wX1_sizeOfAll_4 C hR u FU 0 0 H locs ls (lv_sub hl [2, 1, 0] rfl) S h
set_option maxRecDepth 10000 in
set_option maxHeartbeats 4000000 in
theorem ct_X1_sizeOfAll (l : Launch) (D : va_G) (cI cB cL : ClassId) (ad : Nat → Nat) (pa pl : Nat) (u : Sg) {r : Int32} (h : fX1_sizeOfAll u = some r) : metI l D (tyl cI cB cL) yX1_sizeOfAll cX1_sizeOfAll 3 (some .int) 0 0 (wN cI ad pa pl) [.ref (ad 5)] u r u := by
  intro sz
  refine Met.ofW (cc := cX1_sizeOfAll) (maxL := 3) (ret := (some .int)) (by decide) rfl ?_
  intro p e s m args below meth c s₁ B hml hv
  obtain ⟨rfl, C, S⟩ := q_entry B hml hv
  have hl := lv_entry ([.ref (ad 5)]) (n := 3) (Nat.le_of_ble_eq_true rfl)
  rw [lg_entry_eq]
  generalize (lg_sl ([.ref (ad 5)]) ++ List.replicate (3 - (lg_sl ([.ref (ad 5)])).length) Slot.unset).toArray = ls at hl ⊢
  exact wX1_sizeOfAll_0 C ⟨Nat.le_refl _, Nat.le_refl _⟩ u (lv_sub hl [0] rfl) S h
noncomputable def fX2_isCrash_0 (x1 : Int32) (u : Sg) : Option Int32 := grd (vp_in x1 8) (cnd ((u 33 ((x1 : Int32).toNatClampNeg)) = (-1)) (some 1) (some 0))
noncomputable def fX2_isCrash (x1 : Int32) (u : Sg) : Option Int32 := fX2_isCrash_0 x1 u
set_option maxRecDepth 10000 in
set_option maxHeartbeats 4000000 in
theorem wX2_isCrash_0 (C : cx D (tyl cI cB cL) A RX2 cX2_isCrash 2 (some .boolean) p s m args c meth) (hR : 0 ≤ R.frames ∧ 0 ≤ R.locals) {r : Int32} (u : Sg) (x1 : Int32) {H : Heap} {locs : List Loc} {ls : Array Slot} (hl : lv_has ls 2 [(0, .ref (ad 30)), (1, .int x1)]) (S : st D (wN cI ad pa pl) A s u H locs) (h : fX2_isCrash_0 x1 u = some r) : W p l e R s m args below meth c H locs 0 0 (MQ below (qI D (tyl cI cB cL) (wN cI ad pa pl) A r u) args s 0 0 A) (F0 m 0 ls []) := by
  have hx := C.1
  have hb := C.2.1
  have hsz := hl.1
  unfold fX2_isCrash_0 at h
  refine lv_aload_n hx hb dX2_isCrash_0 rfl (lv_at hl 0 rfl) ?_
  refine q_get (v := .ref (ad 33)) C S (oN30 cI ad pa pl) rfl iwX2 3 (by decide) mw_407 rfl dX2_isCrash_1 ?_
  refine lv_iload_n hx hb dX2_isCrash_4 rfl (lv_at hl 1 rfl) ?_
  obtain ⟨g1, h⟩ := grd_some h
  refine q_iald C S (aN33 cI ad pa pl) 0 rfl g1 dX2_isCrash_5 (j := (x1 : Int32).toNatClampNeg) rfl ?_
  refine lv_iconst (v := (-1)) hx hb dX2_isCrash_6 (by decide) ?_
  refine lv_icmp_ne (tgt := 14) hx hb dX2_isCrash_7 (by decide) (fun c2 => ?_) (fun c2 => ?_)
  · have h := cnd_f c2 h
    refine lv_iconst (v := 0) hx hb dX2_isCrash_14 (by decide) ?_
    exact q_zret C S rfl (rt_R h) dX2_isCrash_15
  · have h := cnd_t c2 h
    refine lv_iconst (v := 1) hx hb dX2_isCrash_10 (by decide) ?_
    refine lv_goto (tgt := 15) hx hb dX2_isCrash_11 (by decide) ?_
    exact q_zret C S rfl (rt_R h) dX2_isCrash_15
set_option maxRecDepth 10000 in
set_option maxHeartbeats 4000000 in
theorem ct_X2_isCrash (l : Launch) (D : va_G) (cI cB cL : ClassId) (ad : Nat → Nat) (pa pl : Nat) (x1 : Int32) (u : Sg) {r : Int32} (h : fX2_isCrash x1 u = some r) : metI l D (tyl cI cB cL) yX2_isCrash cX2_isCrash 2 (some .boolean) 0 0 (wN cI ad pa pl) [.ref (ad 30), .int x1] u r u := by
  intro sz
  refine Met.ofW (cc := cX2_isCrash) (maxL := 2) (ret := (some .boolean)) (by decide) rfl ?_
  intro p e s m args below meth c s₁ B hml hv
  obtain ⟨rfl, C, S⟩ := q_entry B hml hv
  have hl := lv_entry ([.ref (ad 30), .int x1]) (n := 2) (Nat.le_of_ble_eq_true rfl)
  rw [lg_entry_eq]
  generalize (lg_sl ([.ref (ad 30), .int x1]) ++ List.replicate (2 - (lg_sl ([.ref (ad 30), .int x1])).length) Slot.unset).toArray = ls at hl ⊢
  exact wX2_isCrash_0 C ⟨Nat.le_refl _, Nat.le_refl _⟩ u x1 (lv_sub hl [0, 1] rfl) S h
noncomputable def fX2_add_0 (x1 : Int32) (x2 : Int32) (x3 : Int32) (u : Sg) : Option Sg := grd (vp_in (u 30 0) 8) (bnd (s2 u 31 (((u 30 0) : Int32).toNatClampNeg) x1) (fun u2 => grd (vp_in (u2 30 0) 8) (bnd (s2 u2 32 (((u2 30 0) : Int32).toNatClampNeg) x2) (fun u4 => grd (vp_in (u4 30 0) 8) (bnd (s2 u4 33 (((u4 30 0) : Int32).toNatClampNeg) x3) (fun u6 => bnd (s2 u6 30 0 ((u6 30 0) + 1)) (fun u7 => some u7)))))))
noncomputable def fX2_add (x1 : Int32) (x2 : Int32) (x3 : Int32) (u : Sg) : Option Sg := fX2_add_0 x1 x2 x3 u
set_option maxRecDepth 10000 in
set_option maxHeartbeats 4000000 in
theorem wX2_add_0 (C : cx D (tyl cI cB cL) A RX2 cX2_add 4 none p s m args c meth) (hR : 0 ≤ R.frames ∧ 0 ≤ R.locals) {σ' : Sg} (u : Sg) (x1 : Int32) (x2 : Int32) (x3 : Int32) {H : Heap} {locs : List Loc} {ls : Array Slot} (hl : lv_has ls 4 [(0, .ref (ad 30)), (1, .int x1), (2, .int x2), (3, .int x3)]) (S : st D (wN cI ad pa pl) A s u H locs) (h : fX2_add_0 x1 x2 x3 u = some σ') : W p l e R s m args below meth c H locs 0 0 (MQ below (qV D (tyl cI cB cL) (wN cI ad pa pl) A σ') args s 0 0 A) (F0 m 0 ls []) := by
  have hx := C.1
  have hb := C.2.1
  have hsz := hl.1
  unfold fX2_add_0 at h
  refine lv_aload_n hx hb dX2_add_0 rfl (lv_at hl 0 rfl) ?_
  refine q_get (v := .ref (ad 31)) C S (oN30 cI ad pa pl) rfl iwX2 1 (by decide) mw_408 rfl dX2_add_1 ?_
  refine lv_aload_n hx hb dX2_add_4 rfl (lv_at hl 0 rfl) ?_
  refine q_get (v := .int (u 30 0)) C S (oN30 cI ad pa pl) rfl iwX2 0 (by decide) mw_409 rfl dX2_add_5 ?_
  refine lv_iload_n hx hb dX2_add_8 rfl (lv_at hl 1 rfl) ?_
  obtain ⟨g1, h⟩ := grd_some h
  obtain ⟨u2, eu2⟩ : ∃ z : Sg, z = s2 u 31 (((u 30 0) : Int32).toNatClampNeg) x1 := ⟨_, rfl⟩
  have h := bnd_of eu2 h
  refine q_iast C S (aN31 cI ad pa pl) 0 rfl g1 dX2_add_9 (j := ((u 30 0) : Int32).toNatClampNeg) rfl eu2 (fun H locs S => ?_)
  refine lv_aload_n hx hb dX2_add_10 rfl (lv_at hl 0 rfl) ?_
  refine q_get (v := .ref (ad 32)) C S (oN30 cI ad pa pl) rfl iwX2 2 (by decide) mw_410 rfl dX2_add_11 ?_
  refine lv_aload_n hx hb dX2_add_14 rfl (lv_at hl 0 rfl) ?_
  refine q_get (v := .int (u2 30 0)) C S (oN30 cI ad pa pl) rfl iwX2 0 (by decide) mw_409 rfl dX2_add_15 ?_
  refine lv_iload_n hx hb dX2_add_18 rfl (lv_at hl 2 rfl) ?_
  obtain ⟨g3, h⟩ := grd_some h
  obtain ⟨u4, eu4⟩ : ∃ z : Sg, z = s2 u2 32 (((u2 30 0) : Int32).toNatClampNeg) x2 := ⟨_, rfl⟩
  have h := bnd_of eu4 h
  refine q_iast C S (aN32 cI ad pa pl) 0 rfl g3 dX2_add_19 (j := ((u2 30 0) : Int32).toNatClampNeg) rfl eu4 (fun H locs S => ?_)
  refine lv_aload_n hx hb dX2_add_20 rfl (lv_at hl 0 rfl) ?_
  refine q_get (v := .ref (ad 33)) C S (oN30 cI ad pa pl) rfl iwX2 3 (by decide) mw_407 rfl dX2_add_21 ?_
  refine lv_aload_n hx hb dX2_add_24 rfl (lv_at hl 0 rfl) ?_
  refine q_get (v := .int (u4 30 0)) C S (oN30 cI ad pa pl) rfl iwX2 0 (by decide) mw_409 rfl dX2_add_25 ?_
  refine lv_iload_n hx hb dX2_add_28 rfl (lv_at hl 3 rfl) ?_
  obtain ⟨g5, h⟩ := grd_some h
  obtain ⟨u6, eu6⟩ : ∃ z : Sg, z = s2 u4 33 (((u4 30 0) : Int32).toNatClampNeg) x3 := ⟨_, rfl⟩
  have h := bnd_of eu6 h
  refine q_iast C S (aN33 cI ad pa pl) 0 rfl g5 dX2_add_29 (j := ((u4 30 0) : Int32).toNatClampNeg) rfl eu6 (fun H locs S => ?_)
  refine lv_aload_n hx hb dX2_add_30 rfl (lv_at hl 0 rfl) ?_
  refine lv_dup hx hb dX2_add_31 rfl ?_
  refine q_get (v := .int (u6 30 0)) C S (oN30 cI ad pa pl) rfl iwX2 0 (by decide) mw_409 rfl dX2_add_32 ?_
  refine lv_iconst (v := 1) hx hb dX2_add_35 (by decide) ?_
  refine lv_iadd hx hb dX2_add_36 ?_
  obtain ⟨u7, eu7⟩ : ∃ z : Sg, z = s2 u6 30 0 ((u6 30 0) + 1) := ⟨_, rfl⟩
  have h := bnd_of eu7 h
  refine q_put C S (oN30 cI ad pa pl) rfl iwX2 tyX2 tyX2_ok nmX2 0 (by decide) mw_409 rfl (iN30_0 cI ad pa pl) rfl rfl dX2_add_37 eu7 (fun H locs S => ?_)
  exact q_vret C S (Option.some.inj h) dX2_add_40
set_option maxRecDepth 10000 in
set_option maxHeartbeats 4000000 in
theorem ct_X2_add (l : Launch) (D : va_G) (cI cB cL : ClassId) (ad : Nat → Nat) (pa pl : Nat) (x1 : Int32) (x2 : Int32) (x3 : Int32) (u : Sg) {σ' : Sg} (h : fX2_add x1 x2 x3 u = some σ') : metV l D (tyl cI cB cL) yX2_add cX2_add 4 0 0 (wN cI ad pa pl) [.ref (ad 30), .int x1, .int x2, .int x3] u σ' := by
  intro sz
  refine Met.ofW (cc := cX2_add) (maxL := 4) (ret := none) (by decide) rfl ?_
  intro p e s m args below meth c s₁ B hml hv
  obtain ⟨rfl, C, S⟩ := q_entry B hml hv
  have hl := lv_entry ([.ref (ad 30), .int x1, .int x2, .int x3]) (n := 4) (Nat.le_of_ble_eq_true rfl)
  rw [lg_entry_eq]
  generalize (lg_sl ([.ref (ad 30), .int x1, .int x2, .int x3]) ++ List.replicate (4 - (lg_sl ([.ref (ad 30), .int x1, .int x2, .int x3])).length) Slot.unset).toArray = ls at hl ⊢
  exact wX2_add_0 C ⟨Nat.le_refl _, Nat.le_refl _⟩ u x1 x2 x3 (lv_sub hl [0, 1, 2, 3] rfl) S h
noncomputable def fX2_move_0 (x1 : Int32) (x2 : Int32) (u : Sg) : Option Sg := grd (vp_in x1 8) (grd (vp_in x2 8) (bnd (s2 u 31 ((x2 : Int32).toNatClampNeg) (u 31 ((x1 : Int32).toNatClampNeg))) (fun u3 => grd (vp_in x1 8) (grd (vp_in x2 8) (bnd (s2 u3 32 ((x2 : Int32).toNatClampNeg) (u3 32 ((x1 : Int32).toNatClampNeg))) (fun u6 => grd (vp_in x1 8) (grd (vp_in x2 8) (bnd (s2 u6 33 ((x2 : Int32).toNatClampNeg) (u6 33 ((x1 : Int32).toNatClampNeg))) (fun u9 => some u9)))))))))
noncomputable def fX2_move (x1 : Int32) (x2 : Int32) (u : Sg) : Option Sg := fX2_move_0 x1 x2 u
set_option maxRecDepth 10000 in
set_option maxHeartbeats 4000000 in
theorem wX2_move_0 (C : cx D (tyl cI cB cL) A RX2 cX2_move 3 none p s m args c meth) (hR : 0 ≤ R.frames ∧ 0 ≤ R.locals) {σ' : Sg} (u : Sg) (x1 : Int32) (x2 : Int32) {H : Heap} {locs : List Loc} {ls : Array Slot} (hl : lv_has ls 3 [(0, .ref (ad 30)), (1, .int x1), (2, .int x2)]) (S : st D (wN cI ad pa pl) A s u H locs) (h : fX2_move_0 x1 x2 u = some σ') : W p l e R s m args below meth c H locs 0 0 (MQ below (qV D (tyl cI cB cL) (wN cI ad pa pl) A σ') args s 0 0 A) (F0 m 0 ls []) := by
  have hx := C.1
  have hb := C.2.1
  have hsz := hl.1
  unfold fX2_move_0 at h
  refine lv_aload_n hx hb dX2_move_0 rfl (lv_at hl 0 rfl) ?_
  refine q_get (v := .ref (ad 31)) C S (oN30 cI ad pa pl) rfl iwX2 1 (by decide) mw_408 rfl dX2_move_1 ?_
  refine lv_iload_n hx hb dX2_move_4 rfl (lv_at hl 2 rfl) ?_
  refine lv_aload_n hx hb dX2_move_5 rfl (lv_at hl 0 rfl) ?_
  refine q_get (v := .ref (ad 31)) C S (oN30 cI ad pa pl) rfl iwX2 1 (by decide) mw_408 rfl dX2_move_6 ?_
  refine lv_iload_n hx hb dX2_move_9 rfl (lv_at hl 1 rfl) ?_
  obtain ⟨g1, h⟩ := grd_some h
  refine q_iald C S (aN31 cI ad pa pl) 0 rfl g1 dX2_move_10 (j := (x1 : Int32).toNatClampNeg) rfl ?_
  obtain ⟨g2, h⟩ := grd_some h
  obtain ⟨u3, eu3⟩ : ∃ z : Sg, z = s2 u 31 ((x2 : Int32).toNatClampNeg) (u 31 ((x1 : Int32).toNatClampNeg)) := ⟨_, rfl⟩
  have h := bnd_of eu3 h
  refine q_iast C S (aN31 cI ad pa pl) 0 rfl g2 dX2_move_11 (j := (x2 : Int32).toNatClampNeg) rfl eu3 (fun H locs S => ?_)
  refine lv_aload_n hx hb dX2_move_12 rfl (lv_at hl 0 rfl) ?_
  refine q_get (v := .ref (ad 32)) C S (oN30 cI ad pa pl) rfl iwX2 2 (by decide) mw_410 rfl dX2_move_13 ?_
  refine lv_iload_n hx hb dX2_move_16 rfl (lv_at hl 2 rfl) ?_
  refine lv_aload_n hx hb dX2_move_17 rfl (lv_at hl 0 rfl) ?_
  refine q_get (v := .ref (ad 32)) C S (oN30 cI ad pa pl) rfl iwX2 2 (by decide) mw_410 rfl dX2_move_18 ?_
  refine lv_iload_n hx hb dX2_move_21 rfl (lv_at hl 1 rfl) ?_
  obtain ⟨g4, h⟩ := grd_some h
  refine q_iald C S (aN32 cI ad pa pl) 0 rfl g4 dX2_move_22 (j := (x1 : Int32).toNatClampNeg) rfl ?_
  obtain ⟨g5, h⟩ := grd_some h
  obtain ⟨u6, eu6⟩ : ∃ z : Sg, z = s2 u3 32 ((x2 : Int32).toNatClampNeg) (u3 32 ((x1 : Int32).toNatClampNeg)) := ⟨_, rfl⟩
  have h := bnd_of eu6 h
  refine q_iast C S (aN32 cI ad pa pl) 0 rfl g5 dX2_move_23 (j := (x2 : Int32).toNatClampNeg) rfl eu6 (fun H locs S => ?_)
  refine lv_aload_n hx hb dX2_move_24 rfl (lv_at hl 0 rfl) ?_
  refine q_get (v := .ref (ad 33)) C S (oN30 cI ad pa pl) rfl iwX2 3 (by decide) mw_407 rfl dX2_move_25 ?_
  refine lv_iload_n hx hb dX2_move_28 rfl (lv_at hl 2 rfl) ?_
  refine lv_aload_n hx hb dX2_move_29 rfl (lv_at hl 0 rfl) ?_
  refine q_get (v := .ref (ad 33)) C S (oN30 cI ad pa pl) rfl iwX2 3 (by decide) mw_407 rfl dX2_move_30 ?_
  refine lv_iload_n hx hb dX2_move_33 rfl (lv_at hl 1 rfl) ?_
  obtain ⟨g7, h⟩ := grd_some h
  refine q_iald C S (aN33 cI ad pa pl) 0 rfl g7 dX2_move_34 (j := (x1 : Int32).toNatClampNeg) rfl ?_
  obtain ⟨g8, h⟩ := grd_some h
  obtain ⟨u9, eu9⟩ : ∃ z : Sg, z = s2 u6 33 ((x2 : Int32).toNatClampNeg) (u6 33 ((x1 : Int32).toNatClampNeg)) := ⟨_, rfl⟩
  have h := bnd_of eu9 h
  refine q_iast C S (aN33 cI ad pa pl) 0 rfl g8 dX2_move_35 (j := (x2 : Int32).toNatClampNeg) rfl eu9 (fun H locs S => ?_)
  exact q_vret C S (Option.some.inj h) dX2_move_36
set_option maxRecDepth 10000 in
set_option maxHeartbeats 4000000 in
theorem ct_X2_move (l : Launch) (D : va_G) (cI cB cL : ClassId) (ad : Nat → Nat) (pa pl : Nat) (x1 : Int32) (x2 : Int32) (u : Sg) {σ' : Sg} (h : fX2_move x1 x2 u = some σ') : metV l D (tyl cI cB cL) yX2_move cX2_move 3 0 0 (wN cI ad pa pl) [.ref (ad 30), .int x1, .int x2] u σ' := by
  intro sz
  refine Met.ofW (cc := cX2_move) (maxL := 3) (ret := none) (by decide) rfl ?_
  intro p e s m args below meth c s₁ B hml hv
  obtain ⟨rfl, C, S⟩ := q_entry B hml hv
  have hl := lv_entry ([.ref (ad 30), .int x1, .int x2]) (n := 3) (Nat.le_of_ble_eq_true rfl)
  rw [lg_entry_eq]
  generalize (lg_sl ([.ref (ad 30), .int x1, .int x2]) ++ List.replicate (3 - (lg_sl ([.ref (ad 30), .int x1, .int x2])).length) Slot.unset).toArray = ls at hl ⊢
  exact wX2_move_0 C ⟨Nat.le_refl _, Nat.le_refl _⟩ u x1 x2 (lv_sub hl [0, 1, 2] rfl) S h
noncomputable def fX3_begin_0 (x1 : Int32) (u : Sg) : Option Sg := grd (vp_in x1 120) (bnd (s2 u 27 ((x1 : Int32).toNatClampNeg) 0) (fun u2 => grd (vp_in x1 120) (bnd (s2 u2 28 ((x1 : Int32).toNatClampNeg) (-1)) (fun u4 => grd (vp_in x1 120) (bnd (s2 u4 29 ((x1 : Int32).toNatClampNeg) (-1)) (fun u6 => some u6))))))
noncomputable def fX3_begin (x1 : Int32) (u : Sg) : Option Sg := fX3_begin_0 x1 u
set_option maxRecDepth 10000 in
set_option maxHeartbeats 4000000 in
theorem wX3_begin_0 (C : cx D (tyl cI cB cL) A RX3 cX3_begin 2 none p s m args c meth) (hR : 0 ≤ R.frames ∧ 0 ≤ R.locals) {σ' : Sg} (u : Sg) (x1 : Int32) {H : Heap} {locs : List Loc} {ls : Array Slot} (hl : lv_has ls 2 [(0, .ref (ad 26)), (1, .int x1)]) (S : st D (wN cI ad pa pl) A s u H locs) (h : fX3_begin_0 x1 u = some σ') : W p l e R s m args below meth c H locs 0 0 (MQ below (qV D (tyl cI cB cL) (wN cI ad pa pl) A σ') args s 0 0 A) (F0 m 0 ls []) := by
  have hx := C.1
  have hb := C.2.1
  have hsz := hl.1
  unfold fX3_begin_0 at h
  refine lv_aload_n hx hb dX3_begin_0 rfl (lv_at hl 0 rfl) ?_
  refine q_get (v := .ref (ad 27)) C S (oN26 cI ad pa pl) rfl iwX3 0 (by decide) mw_323 rfl dX3_begin_1 ?_
  refine lv_iload_n hx hb dX3_begin_4 rfl (lv_at hl 1 rfl) ?_
  refine lv_iconst (v := 0) hx hb dX3_begin_5 (by decide) ?_
  obtain ⟨g1, h⟩ := grd_some h
  obtain ⟨u2, eu2⟩ : ∃ z : Sg, z = s2 u 27 ((x1 : Int32).toNatClampNeg) 0 := ⟨_, rfl⟩
  have h := bnd_of eu2 h
  refine q_iast C S (aN27 cI ad pa pl) 0 rfl g1 dX3_begin_6 (j := (x1 : Int32).toNatClampNeg) rfl eu2 (fun H locs S => ?_)
  refine lv_aload_n hx hb dX3_begin_7 rfl (lv_at hl 0 rfl) ?_
  refine q_get (v := .ref (ad 28)) C S (oN26 cI ad pa pl) rfl iwX3 1 (by decide) mw_411 rfl dX3_begin_8 ?_
  refine lv_iload_n hx hb dX3_begin_11 rfl (lv_at hl 1 rfl) ?_
  refine lv_iconst (v := (-1)) hx hb dX3_begin_12 (by decide) ?_
  obtain ⟨g3, h⟩ := grd_some h
  obtain ⟨u4, eu4⟩ : ∃ z : Sg, z = s2 u2 28 ((x1 : Int32).toNatClampNeg) (-1) := ⟨_, rfl⟩
  have h := bnd_of eu4 h
  refine q_iast C S (aN28 cI ad pa pl) 0 rfl g3 dX3_begin_13 (j := (x1 : Int32).toNatClampNeg) rfl eu4 (fun H locs S => ?_)
  refine lv_aload_n hx hb dX3_begin_14 rfl (lv_at hl 0 rfl) ?_
  refine q_get (v := .ref (ad 29)) C S (oN26 cI ad pa pl) rfl iwX3 2 (by decide) mw_412 rfl dX3_begin_15 ?_
  refine lv_iload_n hx hb dX3_begin_18 rfl (lv_at hl 1 rfl) ?_
  refine lv_iconst (v := (-1)) hx hb dX3_begin_19 (by decide) ?_
  obtain ⟨g5, h⟩ := grd_some h
  obtain ⟨u6, eu6⟩ : ∃ z : Sg, z = s2 u4 29 ((x1 : Int32).toNatClampNeg) (-1) := ⟨_, rfl⟩
  have h := bnd_of eu6 h
  refine q_iast C S (aN29 cI ad pa pl) 0 rfl g5 dX3_begin_20 (j := (x1 : Int32).toNatClampNeg) rfl eu6 (fun H locs S => ?_)
  exact q_vret C S (Option.some.inj h) dX3_begin_21
set_option maxRecDepth 10000 in
set_option maxHeartbeats 4000000 in
theorem ct_X3_begin (l : Launch) (D : va_G) (cI cB cL : ClassId) (ad : Nat → Nat) (pa pl : Nat) (x1 : Int32) (u : Sg) {σ' : Sg} (h : fX3_begin x1 u = some σ') : metV l D (tyl cI cB cL) yX3_begin cX3_begin 2 0 0 (wN cI ad pa pl) [.ref (ad 26), .int x1] u σ' := by
  intro sz
  refine Met.ofW (cc := cX3_begin) (maxL := 2) (ret := none) (by decide) rfl ?_
  intro p e s m args below meth c s₁ B hml hv
  obtain ⟨rfl, C, S⟩ := q_entry B hml hv
  have hl := lv_entry ([.ref (ad 26), .int x1]) (n := 2) (Nat.le_of_ble_eq_true rfl)
  rw [lg_entry_eq]
  generalize (lg_sl ([.ref (ad 26), .int x1]) ++ List.replicate (2 - (lg_sl ([.ref (ad 26), .int x1])).length) Slot.unset).toArray = ls at hl ⊢
  exact wX3_begin_0 C ⟨Nat.le_refl _, Nat.le_refl _⟩ u x1 (lv_sub hl [0, 1] rfl) S h
noncomputable def fX3_cease_0 (x1 : Int32) (u : Sg) : Option Sg := grd (vp_in x1 120) (bnd (s2 u 27 ((x1 : Int32).toNatClampNeg) (-1)) (fun u2 => some u2))
noncomputable def fX3_cease (x1 : Int32) (u : Sg) : Option Sg := fX3_cease_0 x1 u
set_option maxRecDepth 10000 in
set_option maxHeartbeats 4000000 in
theorem wX3_cease_0 (C : cx D (tyl cI cB cL) A RX3 cX3_cease 2 none p s m args c meth) (hR : 0 ≤ R.frames ∧ 0 ≤ R.locals) {σ' : Sg} (u : Sg) (x1 : Int32) {H : Heap} {locs : List Loc} {ls : Array Slot} (hl : lv_has ls 2 [(0, .ref (ad 26)), (1, .int x1)]) (S : st D (wN cI ad pa pl) A s u H locs) (h : fX3_cease_0 x1 u = some σ') : W p l e R s m args below meth c H locs 0 0 (MQ below (qV D (tyl cI cB cL) (wN cI ad pa pl) A σ') args s 0 0 A) (F0 m 0 ls []) := by
  have hx := C.1
  have hb := C.2.1
  have hsz := hl.1
  unfold fX3_cease_0 at h
  refine lv_aload_n hx hb dX3_cease_0 rfl (lv_at hl 0 rfl) ?_
  refine q_get (v := .ref (ad 27)) C S (oN26 cI ad pa pl) rfl iwX3 0 (by decide) mw_323 rfl dX3_cease_1 ?_
  refine lv_iload_n hx hb dX3_cease_4 rfl (lv_at hl 1 rfl) ?_
  refine lv_iconst (v := (-1)) hx hb dX3_cease_5 (by decide) ?_
  obtain ⟨g1, h⟩ := grd_some h
  obtain ⟨u2, eu2⟩ : ∃ z : Sg, z = s2 u 27 ((x1 : Int32).toNatClampNeg) (-1) := ⟨_, rfl⟩
  have h := bnd_of eu2 h
  refine q_iast C S (aN27 cI ad pa pl) 0 rfl g1 dX3_cease_6 (j := (x1 : Int32).toNatClampNeg) rfl eu2 (fun H locs S => ?_)
  exact q_vret C S (Option.some.inj h) dX3_cease_7
set_option maxRecDepth 10000 in
set_option maxHeartbeats 4000000 in
theorem ct_X3_cease (l : Launch) (D : va_G) (cI cB cL : ClassId) (ad : Nat → Nat) (pa pl : Nat) (x1 : Int32) (u : Sg) {σ' : Sg} (h : fX3_cease x1 u = some σ') : metV l D (tyl cI cB cL) yX3_cease cX3_cease 2 0 0 (wN cI ad pa pl) [.ref (ad 26), .int x1] u σ' := by
  intro sz
  refine Met.ofW (cc := cX3_cease) (maxL := 2) (ret := none) (by decide) rfl ?_
  intro p e s m args below meth c s₁ B hml hv
  obtain ⟨rfl, C, S⟩ := q_entry B hml hv
  have hl := lv_entry ([.ref (ad 26), .int x1]) (n := 2) (Nat.le_of_ble_eq_true rfl)
  rw [lg_entry_eq]
  generalize (lg_sl ([.ref (ad 26), .int x1]) ++ List.replicate (2 - (lg_sl ([.ref (ad 26), .int x1])).length) Slot.unset).toArray = ls at hl ⊢
  exact wX3_cease_0 C ⟨Nat.le_refl _, Nat.le_refl _⟩ u x1 (lv_sub hl [0, 1] rfl) S h
noncomputable def fX3_hear_0 (x1 : Int32) (x2 : Int32) (x3 : Int32) (x4 : Int32) (u : Sg) : Option Sg := obr (fX3_isOn x1 u) (fun r2 => cnd (r2 = 0) (some u) (grd (vp_in x1 120) (grd (vp_in x1 120) (bnd (s2 u 27 ((x1 : Int32).toNatClampNeg) ((u 27 ((x1 : Int32).toNatClampNeg)) ||| ((1 : Int32) <<< ((x2 &&& 31 : Int32))))) (fun u6 => grd (vp_in x1 120) (grd (vp_in x1 120) (bnd (s2 u6 28 ((x1 : Int32).toNatClampNeg) (if (u6 28 ((x1 : Int32).toNatClampNeg)) < x3 then x3 else (u6 28 ((x1 : Int32).toNatClampNeg)))) (fun u9 => cnd (x4 = 0) (some u9) (grd (vp_in x1 120) (grd (vp_in x1 120) (bnd (s2 u9 29 ((x1 : Int32).toNatClampNeg) (if (u9 29 ((x1 : Int32).toNatClampNeg)) < x3 then x3 else (u9 29 ((x1 : Int32).toNatClampNeg)))) (fun u13 => some u13))))))))))))
noncomputable def fX3_hear (x1 : Int32) (x2 : Int32) (x3 : Int32) (x4 : Int32) (u : Sg) : Option Sg := fX3_hear_0 x1 x2 x3 x4 u
set_option maxRecDepth 10000 in
set_option maxHeartbeats 4000000 in
theorem wX3_hear_0 (C : cx D (tyl cI cB cL) A RX3 cX3_hear 5 none p s m args c meth) (hR : 1 ≤ R.frames ∧ 21 ≤ R.locals) {σ' : Sg} (u : Sg) (x1 : Int32) (x2 : Int32) (x3 : Int32) (x4 : Int32) {H : Heap} {locs : List Loc} {ls : Array Slot} (hl : lv_has ls 5 [(0, .ref (ad 26)), (1, .int x1), (2, .int x2), (3, .int x3), (4, .int x4)]) (S : st D (wN cI ad pa pl) A s u H locs) (h : fX3_hear_0 x1 x2 x3 x4 u = some σ') : W p l e R s m args below meth c H locs 0 0 (MQ below (qV D (tyl cI cB cL) (wN cI ad pa pl) A σ') args s 0 0 A) (F0 m 0 ls []) := by
  have hx := C.1
  have hb := C.2.1
  have hsz := hl.1
  unfold fX3_hear_0 at h
  refine lv_aload_n hx hb dX3_hear_0 rfl (lv_at hl 0 rfl) ?_
  refine lv_iload_n hx hb dX3_hear_1 rfl (lv_at hl 1 rfl) ?_
  obtain ⟨r2, h1, h⟩ := obr_some h
  refine q_callVi (As := [.int x1]) (na := 1) C S (oN26 cI ad pa pl) rfl (ct_X3_isOn l D cI cB cL ad pa pl x1 u h1) mw_413 mw_327 mw_329 mw_326 mw_325 hdX3_isOn ⟨Nat.le_trans (Nat.le_of_ble_eq_true rfl) hR.1, Nat.le_trans (Nat.le_of_ble_eq_true rfl) hR.2⟩ rfl hsz ⟨Nat.zero_le _, Nat.zero_le _⟩ (Nat.le_of_ble_eq_true rfl) dX3_hear_2 rfl (fun H locs S => ?_)
  refine lv_if_ne (tgt := 9) hx hb dX3_hear_5 (by decide) (fun c3 => ?_) (fun c3 => ?_)
  · have h := cnd_f c3 h
    refine lv_aload_n hx hb dX3_hear_9 rfl (lv_at hl 0 rfl) ?_
    refine q_get (v := .ref (ad 27)) C S (oN26 cI ad pa pl) rfl iwX3 0 (by decide) mw_323 rfl dX3_hear_10 ?_
    refine lv_iload_n hx hb dX3_hear_13 rfl (lv_at hl 1 rfl) ?_
    refine lv_dup2_11 hx hb dX3_hear_14 rfl rfl ?_
    obtain ⟨g4, h⟩ := grd_some h
    refine q_iald C S (aN27 cI ad pa pl) 0 rfl g4 dX3_hear_15 (j := (x1 : Int32).toNatClampNeg) rfl ?_
    refine lv_iconst (v := 1) hx hb dX3_hear_16 (by decide) ?_
    refine lv_iload_n hx hb dX3_hear_17 rfl (lv_at hl 2 rfl) ?_
    refine lv_ishl hx hb dX3_hear_18 ?_
    refine lv_ior hx hb dX3_hear_19 ?_
    obtain ⟨g5, h⟩ := grd_some h
    obtain ⟨u6, eu6⟩ : ∃ z : Sg, z = s2 u 27 ((x1 : Int32).toNatClampNeg) ((u 27 ((x1 : Int32).toNatClampNeg)) ||| ((1 : Int32) <<< ((x2 &&& 31 : Int32)))) := ⟨_, rfl⟩
    have h := bnd_of eu6 h
    refine q_iast C S (aN27 cI ad pa pl) 0 rfl g5 dX3_hear_20 (j := (x1 : Int32).toNatClampNeg) rfl eu6 (fun H locs S => ?_)
    refine lv_aload_n hx hb dX3_hear_21 rfl (lv_at hl 0 rfl) ?_
    refine q_get (v := .ref (ad 28)) C S (oN26 cI ad pa pl) rfl iwX3 1 (by decide) mw_411 rfl dX3_hear_22 ?_
    refine lv_iload_n hx hb dX3_hear_25 rfl (lv_at hl 1 rfl) ?_
    refine lv_aload_n hx hb dX3_hear_26 rfl (lv_at hl 0 rfl) ?_
    refine q_get (v := .ref (ad 28)) C S (oN26 cI ad pa pl) rfl iwX3 1 (by decide) mw_411 rfl dX3_hear_27 ?_
    refine lv_iload_n hx hb dX3_hear_30 rfl (lv_at hl 1 rfl) ?_
    obtain ⟨g7, h⟩ := grd_some h
    refine q_iald C S (aN28 cI ad pa pl) 0 rfl g7 dX3_hear_31 (j := (x1 : Int32).toNatClampNeg) rfl ?_
    refine lv_iload_n hx hb dX3_hear_32 rfl (lv_at hl 3 rfl) ?_
    refine q_mmax C mw_414 mw_91 mw_92 mw_93 ⟨Nat.le_trans (Nat.le_of_ble_eq_true rfl) hR.1, Nat.le_trans (Nat.le_of_ble_eq_true rfl) hR.2⟩ hsz ⟨Nat.zero_le _, Nat.zero_le _⟩ (Nat.le_of_ble_eq_true rfl) dX3_hear_33 ?_
    obtain ⟨g8, h⟩ := grd_some h
    obtain ⟨u9, eu9⟩ : ∃ z : Sg, z = s2 u6 28 ((x1 : Int32).toNatClampNeg) (if (u6 28 ((x1 : Int32).toNatClampNeg)) < x3 then x3 else (u6 28 ((x1 : Int32).toNatClampNeg))) := ⟨_, rfl⟩
    have h := bnd_of eu9 h
    refine q_iast C S (aN28 cI ad pa pl) 0 rfl g8 dX3_hear_36 (j := (x1 : Int32).toNatClampNeg) rfl eu9 (fun H locs S => ?_)
    refine lv_iload hx hb dX3_hear_37 (lv_at hl 4 rfl) ?_
    refine lv_if_eq (tgt := 58) hx hb dX3_hear_39 (by decide) (fun c10 => ?_) (fun c10 => ?_)
    · have h := cnd_t c10 h
      exact q_vret C S (Option.some.inj h) dX3_hear_58
    · have h := cnd_f c10 h
      refine lv_aload_n hx hb dX3_hear_42 rfl (lv_at hl 0 rfl) ?_
      refine q_get (v := .ref (ad 29)) C S (oN26 cI ad pa pl) rfl iwX3 2 (by decide) mw_412 rfl dX3_hear_43 ?_
      refine lv_iload_n hx hb dX3_hear_46 rfl (lv_at hl 1 rfl) ?_
      refine lv_aload_n hx hb dX3_hear_47 rfl (lv_at hl 0 rfl) ?_
      refine q_get (v := .ref (ad 29)) C S (oN26 cI ad pa pl) rfl iwX3 2 (by decide) mw_412 rfl dX3_hear_48 ?_
      refine lv_iload_n hx hb dX3_hear_51 rfl (lv_at hl 1 rfl) ?_
      obtain ⟨g11, h⟩ := grd_some h
      refine q_iald C S (aN29 cI ad pa pl) 0 rfl g11 dX3_hear_52 (j := (x1 : Int32).toNatClampNeg) rfl ?_
      refine lv_iload_n hx hb dX3_hear_53 rfl (lv_at hl 3 rfl) ?_
      refine q_mmax C mw_414 mw_91 mw_92 mw_93 ⟨Nat.le_trans (Nat.le_of_ble_eq_true rfl) hR.1, Nat.le_trans (Nat.le_of_ble_eq_true rfl) hR.2⟩ hsz ⟨Nat.zero_le _, Nat.zero_le _⟩ (Nat.le_of_ble_eq_true rfl) dX3_hear_54 ?_
      obtain ⟨g12, h⟩ := grd_some h
      obtain ⟨u13, eu13⟩ : ∃ z : Sg, z = s2 u9 29 ((x1 : Int32).toNatClampNeg) (if (u9 29 ((x1 : Int32).toNatClampNeg)) < x3 then x3 else (u9 29 ((x1 : Int32).toNatClampNeg))) := ⟨_, rfl⟩
      have h := bnd_of eu13 h
      refine q_iast C S (aN29 cI ad pa pl) 0 rfl g12 dX3_hear_57 (j := (x1 : Int32).toNatClampNeg) rfl eu13 (fun H locs S => ?_)
      exact q_vret C S (Option.some.inj h) dX3_hear_58
  · have h := cnd_t c3 h
    exact q_vret C S (Option.some.inj h) dX3_hear_8
set_option maxRecDepth 10000 in
set_option maxHeartbeats 4000000 in
theorem ct_X3_hear (l : Launch) (D : va_G) (cI cB cL : ClassId) (ad : Nat → Nat) (pa pl : Nat) (x1 : Int32) (x2 : Int32) (x3 : Int32) (x4 : Int32) (u : Sg) {σ' : Sg} (h : fX3_hear x1 x2 x3 x4 u = some σ') : metV l D (tyl cI cB cL) yX3_hear cX3_hear 5 1 21 (wN cI ad pa pl) [.ref (ad 26), .int x1, .int x2, .int x3, .int x4] u σ' := by
  intro sz
  refine Met.ofW (cc := cX3_hear) (maxL := 5) (ret := none) (by decide) rfl ?_
  intro p e s m args below meth c s₁ B hml hv
  obtain ⟨rfl, C, S⟩ := q_entry B hml hv
  have hl := lv_entry ([.ref (ad 26), .int x1, .int x2, .int x3, .int x4]) (n := 5) (Nat.le_of_ble_eq_true rfl)
  rw [lg_entry_eq]
  generalize (lg_sl ([.ref (ad 26), .int x1, .int x2, .int x3, .int x4]) ++ List.replicate (5 - (lg_sl ([.ref (ad 26), .int x1, .int x2, .int x3, .int x4])).length) Slot.unset).toArray = ls at hl ⊢
  exact wX3_hear_0 C ⟨Nat.le_refl _, Nat.le_refl _⟩ u x1 x2 x3 x4 (lv_sub hl [0, 1, 2, 3, 4] rfl) S h
noncomputable def fX3_outcome_0 (x1 : Int32) (u : Sg) : Option Int32 := grd (vp_in x1 120) (cnd ((u 29 ((x1 : Int32).toNatClampNeg)) = (-1)) (grd (vp_in x1 120) (some (u 28 ((x1 : Int32).toNatClampNeg)))) (grd (vp_in x1 120) (some (u 29 ((x1 : Int32).toNatClampNeg)))))
noncomputable def fX3_outcome (x1 : Int32) (u : Sg) : Option Int32 := fX3_outcome_0 x1 u
set_option maxRecDepth 10000 in
set_option maxHeartbeats 4000000 in
theorem wX3_outcome_0 (C : cx D (tyl cI cB cL) A RX3 cX3_outcome 2 (some .int) p s m args c meth) (hR : 0 ≤ R.frames ∧ 0 ≤ R.locals) {r : Int32} (u : Sg) (x1 : Int32) {H : Heap} {locs : List Loc} {ls : Array Slot} (hl : lv_has ls 2 [(0, .ref (ad 26)), (1, .int x1)]) (S : st D (wN cI ad pa pl) A s u H locs) (h : fX3_outcome_0 x1 u = some r) : W p l e R s m args below meth c H locs 0 0 (MQ below (qI D (tyl cI cB cL) (wN cI ad pa pl) A r u) args s 0 0 A) (F0 m 0 ls []) := by
  have hx := C.1
  have hb := C.2.1
  have hsz := hl.1
  unfold fX3_outcome_0 at h
  refine lv_aload_n hx hb dX3_outcome_0 rfl (lv_at hl 0 rfl) ?_
  refine q_get (v := .ref (ad 29)) C S (oN26 cI ad pa pl) rfl iwX3 2 (by decide) mw_412 rfl dX3_outcome_1 ?_
  refine lv_iload_n hx hb dX3_outcome_4 rfl (lv_at hl 1 rfl) ?_
  obtain ⟨g1, h⟩ := grd_some h
  refine q_iald C S (aN29 cI ad pa pl) 0 rfl g1 dX3_outcome_5 (j := (x1 : Int32).toNatClampNeg) rfl ?_
  refine lv_iconst (v := (-1)) hx hb dX3_outcome_6 (by decide) ?_
  refine lv_icmp_eq (tgt := 19) hx hb dX3_outcome_7 (by decide) (fun c2 => ?_) (fun c2 => ?_)
  · have h := cnd_t c2 h
    refine lv_aload_n hx hb dX3_outcome_19 rfl (lv_at hl 0 rfl) ?_
    refine q_get (v := .ref (ad 28)) C S (oN26 cI ad pa pl) rfl iwX3 1 (by decide) mw_411 rfl dX3_outcome_20 ?_
    refine lv_iload_n hx hb dX3_outcome_23 rfl (lv_at hl 1 rfl) ?_
    obtain ⟨g3, h⟩ := grd_some h
    refine q_iald C S (aN28 cI ad pa pl) 0 rfl g3 dX3_outcome_24 (j := (x1 : Int32).toNatClampNeg) rfl ?_
    exact q_iret C S (rt_R h) dX3_outcome_25
  · have h := cnd_f c2 h
    refine lv_aload_n hx hb dX3_outcome_10 rfl (lv_at hl 0 rfl) ?_
    refine q_get (v := .ref (ad 29)) C S (oN26 cI ad pa pl) rfl iwX3 2 (by decide) mw_412 rfl dX3_outcome_11 ?_
    refine lv_iload_n hx hb dX3_outcome_14 rfl (lv_at hl 1 rfl) ?_
    obtain ⟨g4, h⟩ := grd_some h
    refine q_iald C S (aN29 cI ad pa pl) 0 rfl g4 dX3_outcome_15 (j := (x1 : Int32).toNatClampNeg) rfl ?_
    refine lv_goto (tgt := 25) hx hb dX3_outcome_16 (by decide) ?_
    exact q_iret C S (rt_R h) dX3_outcome_25
set_option maxRecDepth 10000 in
set_option maxHeartbeats 4000000 in
theorem ct_X3_outcome (l : Launch) (D : va_G) (cI cB cL : ClassId) (ad : Nat → Nat) (pa pl : Nat) (x1 : Int32) (u : Sg) {r : Int32} (h : fX3_outcome x1 u = some r) : metI l D (tyl cI cB cL) yX3_outcome cX3_outcome 2 (some .int) 0 0 (wN cI ad pa pl) [.ref (ad 26), .int x1] u r u := by
  intro sz
  refine Met.ofW (cc := cX3_outcome) (maxL := 2) (ret := (some .int)) (by decide) rfl ?_
  intro p e s m args below meth c s₁ B hml hv
  obtain ⟨rfl, C, S⟩ := q_entry B hml hv
  have hl := lv_entry ([.ref (ad 26), .int x1]) (n := 2) (Nat.le_of_ble_eq_true rfl)
  rw [lg_entry_eq]
  generalize (lg_sl ([.ref (ad 26), .int x1]) ++ List.replicate (2 - (lg_sl ([.ref (ad 26), .int x1])).length) Slot.unset).toArray = ls at hl ⊢
  exact wX3_outcome_0 C ⟨Nat.le_refl _, Nat.le_refl _⟩ u x1 (lv_sub hl [0, 1] rfl) S h
noncomputable def fX4_settle_41 (x1 : Int32) (x2 : Int32) (x3 : Int32) (u : Sg) : Option Sg := grd (vp_in x1 120) (bnd (s2 u 20 ((x1 : Int32).toNatClampNeg) 2) (fun u5 => grd (vp_in x1 120) (bnd (s2 u5 21 ((x1 : Int32).toNatClampNeg) x3) (fun u7 => grd (vp_in x1 120) (bnd (s2 u7 22 ((x1 : Int32).toNatClampNeg) x2) (fun u9 => some u9))))))
noncomputable def fX4_settle_14 (x1 : Int32) (x2 : Int32) (x3 : Int32) (t0 : Int32) (u : Sg) : Option Sg := cnd (t0 = 0) (grd (vp_in x1 120) (cnd ((u 20 ((x1 : Int32).toNatClampNeg)) = 1) (grd (vp_in x1 120) (cnd ((u 22 ((x1 : Int32).toNatClampNeg)) = x2) (fX4_settle_41 x1 x2 x3 u) (some u))) (some u))) (fX4_settle_41 x1 x2 x3 u)
noncomputable def fX4_settle_0 (x1 : Int32) (x2 : Int32) (x3 : Int32) (u : Sg) : Option Sg := grd (vp_in x1 120) (cnd ((u 20 ((x1 : Int32).toNatClampNeg)) = 0) (fX4_settle_14 x1 x2 x3 1 u) (fX4_settle_14 x1 x2 x3 0 u))
noncomputable def fX4_settle (x1 : Int32) (x2 : Int32) (x3 : Int32) (u : Sg) : Option Sg := fX4_settle_0 x1 x2 x3 u
set_option maxRecDepth 10000 in
set_option maxHeartbeats 4000000 in
theorem wX4_settle_41 (C : cx D (tyl cI cB cL) A RX4 cX4_settle 5 none p s m args c meth) (hR : 0 ≤ R.frames ∧ 0 ≤ R.locals) {σ' : Sg} (u : Sg) (x1 : Int32) (x2 : Int32) (x3 : Int32) {H : Heap} {locs : List Loc} {ls : Array Slot} (hl : lv_has ls 5 [(0, .ref (ad 19)), (1, .int x1), (2, .int x2), (3, .int x3)]) (S : st D (wN cI ad pa pl) A s u H locs) (h : fX4_settle_41 x1 x2 x3 u = some σ') : W p l e R s m args below meth c H locs 0 0 (MQ below (qV D (tyl cI cB cL) (wN cI ad pa pl) A σ') args s 0 0 A) (F0 m 41 ls []) := by
  have hx := C.1
  have hb := C.2.1
  have hsz := hl.1
  unfold fX4_settle_41 at h
  refine lv_aload_n hx hb dX4_settle_41 rfl (lv_at hl 0 rfl) ?_
  refine q_get (v := .ref (ad 20)) C S (oN19 cI ad pa pl) rfl iwX4 0 (by decide) mw_330 rfl dX4_settle_42 ?_
  refine lv_iload_n hx hb dX4_settle_45 rfl (lv_at hl 1 rfl) ?_
  refine lv_iconst (v := 2) hx hb dX4_settle_46 (by decide) ?_
  obtain ⟨g4, h⟩ := grd_some h
  obtain ⟨u5, eu5⟩ : ∃ z : Sg, z = s2 u 20 ((x1 : Int32).toNatClampNeg) 2 := ⟨_, rfl⟩
  have h := bnd_of eu5 h
  refine q_iast C S (aN20 cI ad pa pl) 0 rfl g4 dX4_settle_47 (j := (x1 : Int32).toNatClampNeg) rfl eu5 (fun H locs S => ?_)
  refine lv_aload_n hx hb dX4_settle_48 rfl (lv_at hl 0 rfl) ?_
  refine q_get (v := .ref (ad 21)) C S (oN19 cI ad pa pl) rfl iwX4 1 (by decide) mw_415 rfl dX4_settle_49 ?_
  refine lv_iload_n hx hb dX4_settle_52 rfl (lv_at hl 1 rfl) ?_
  refine lv_iload_n hx hb dX4_settle_53 rfl (lv_at hl 3 rfl) ?_
  obtain ⟨g6, h⟩ := grd_some h
  obtain ⟨u7, eu7⟩ : ∃ z : Sg, z = s2 u5 21 ((x1 : Int32).toNatClampNeg) x3 := ⟨_, rfl⟩
  have h := bnd_of eu7 h
  refine q_iast C S (aN21 cI ad pa pl) 0 rfl g6 dX4_settle_54 (j := (x1 : Int32).toNatClampNeg) rfl eu7 (fun H locs S => ?_)
  refine lv_aload_n hx hb dX4_settle_55 rfl (lv_at hl 0 rfl) ?_
  refine q_get (v := .ref (ad 22)) C S (oN19 cI ad pa pl) rfl iwX4 2 (by decide) mw_416 rfl dX4_settle_56 ?_
  refine lv_iload_n hx hb dX4_settle_59 rfl (lv_at hl 1 rfl) ?_
  refine lv_iload_n hx hb dX4_settle_60 rfl (lv_at hl 2 rfl) ?_
  obtain ⟨g8, h⟩ := grd_some h
  obtain ⟨u9, eu9⟩ : ∃ z : Sg, z = s2 u7 22 ((x1 : Int32).toNatClampNeg) x2 := ⟨_, rfl⟩
  have h := bnd_of eu9 h
  refine q_iast C S (aN22 cI ad pa pl) 0 rfl g8 dX4_settle_61 (j := (x1 : Int32).toNatClampNeg) rfl eu9 (fun H locs S => ?_)
  exact q_vret C S (Option.some.inj h) dX4_settle_62
set_option maxRecDepth 10000 in
set_option maxHeartbeats 4000000 in
theorem wX4_settle_14 (C : cx D (tyl cI cB cL) A RX4 cX4_settle 5 none p s m args c meth) (hR : 0 ≤ R.frames ∧ 0 ≤ R.locals) {σ' : Sg} (u : Sg) (x1 : Int32) (x2 : Int32) (x3 : Int32) (t0 : Int32) {H : Heap} {locs : List Loc} {ls : Array Slot} (hl : lv_has ls 5 [(0, .ref (ad 19)), (1, .int x1), (2, .int x2), (3, .int x3)]) (S : st D (wN cI ad pa pl) A s u H locs) (h : fX4_settle_14 x1 x2 x3 t0 u = some σ') : W p l e R s m args below meth c H locs 0 0 (MQ below (qV D (tyl cI cB cL) (wN cI ad pa pl) A σ') args s 0 0 A) (F0 m 14 ls [.int t0]) := by
  have hx := C.1
  have hb := C.2.1
  have hsz := hl.1
  unfold fX4_settle_14 at h
  refine lv_istore (lv' := [(4, .int t0), (0, .ref (ad 19)), (1, .int x1), (2, .int x2), (3, .int x3)]) hx hb dX4_settle_14 hl (by decide) rfl (fun ls hl => ?_)
  have hsz := hl.1
  refine lv_iload hx hb dX4_settle_16 (lv_at hl 0 rfl) ?_
  refine lv_if_ne (tgt := 41) hx hb dX4_settle_18 (by decide) (fun c3 => ?_) (fun c3 => ?_)
  · have h := cnd_f c3 h
    exact wX4_settle_41 C hR u x1 x2 x3 (lv_sub hl [1, 2, 3, 4] rfl) S h
  · have h := cnd_t c3 h
    refine lv_aload_n hx hb dX4_settle_21 rfl (lv_at hl 1 rfl) ?_
    refine q_get (v := .ref (ad 20)) C S (oN19 cI ad pa pl) rfl iwX4 0 (by decide) mw_330 rfl dX4_settle_22 ?_
    refine lv_iload_n hx hb dX4_settle_25 rfl (lv_at hl 2 rfl) ?_
    obtain ⟨g10, h⟩ := grd_some h
    refine q_iald C S (aN20 cI ad pa pl) 0 rfl g10 dX4_settle_26 (j := (x1 : Int32).toNatClampNeg) rfl ?_
    refine lv_iconst (v := 1) hx hb dX4_settle_27 (by decide) ?_
    refine lv_icmp_ne (tgt := 62) hx hb dX4_settle_28 (by decide) (fun c11 => ?_) (fun c11 => ?_)
    · have h := cnd_f c11 h
      exact q_vret C S (Option.some.inj h) dX4_settle_62
    · have h := cnd_t c11 h
      refine lv_aload_n hx hb dX4_settle_31 rfl (lv_at hl 1 rfl) ?_
      refine q_get (v := .ref (ad 22)) C S (oN19 cI ad pa pl) rfl iwX4 2 (by decide) mw_416 rfl dX4_settle_32 ?_
      refine lv_iload_n hx hb dX4_settle_35 rfl (lv_at hl 2 rfl) ?_
      obtain ⟨g12, h⟩ := grd_some h
      refine q_iald C S (aN22 cI ad pa pl) 0 rfl g12 dX4_settle_36 (j := (x1 : Int32).toNatClampNeg) rfl ?_
      refine lv_iload_n hx hb dX4_settle_37 rfl (lv_at hl 3 rfl) ?_
      refine lv_icmp_ne (tgt := 62) hx hb dX4_settle_38 (by decide) (fun c13 => ?_) (fun c13 => ?_)
      · have h := cnd_f c13 h
        exact q_vret C S (Option.some.inj h) dX4_settle_62
      · have h := cnd_t c13 h
        exact wX4_settle_41 C hR u x1 x2 x3 (lv_sub hl [1, 2, 3, 4] rfl) S h
set_option maxRecDepth 10000 in
set_option maxHeartbeats 4000000 in
theorem wX4_settle_0 (C : cx D (tyl cI cB cL) A RX4 cX4_settle 5 none p s m args c meth) (hR : 0 ≤ R.frames ∧ 0 ≤ R.locals) {σ' : Sg} (u : Sg) (x1 : Int32) (x2 : Int32) (x3 : Int32) {H : Heap} {locs : List Loc} {ls : Array Slot} (hl : lv_has ls 5 [(0, .ref (ad 19)), (1, .int x1), (2, .int x2), (3, .int x3)]) (S : st D (wN cI ad pa pl) A s u H locs) (h : fX4_settle_0 x1 x2 x3 u = some σ') : W p l e R s m args below meth c H locs 0 0 (MQ below (qV D (tyl cI cB cL) (wN cI ad pa pl) A σ') args s 0 0 A) (F0 m 0 ls []) := by
  have hx := C.1
  have hb := C.2.1
  have hsz := hl.1
  unfold fX4_settle_0 at h
  refine lv_aload_n hx hb dX4_settle_0 rfl (lv_at hl 0 rfl) ?_
  refine q_get (v := .ref (ad 20)) C S (oN19 cI ad pa pl) rfl iwX4 0 (by decide) mw_330 rfl dX4_settle_1 ?_
  refine lv_iload_n hx hb dX4_settle_4 rfl (lv_at hl 1 rfl) ?_
  obtain ⟨g1, h⟩ := grd_some h
  refine q_iald C S (aN20 cI ad pa pl) 0 rfl g1 dX4_settle_5 (j := (x1 : Int32).toNatClampNeg) rfl ?_
  refine lv_if_ne (tgt := 13) hx hb dX4_settle_6 (by decide) (fun c2 => ?_) (fun c2 => ?_)
  · have h := cnd_f c2 h
    refine lv_iconst (v := 0) hx hb dX4_settle_13 (by decide) ?_
    exact wX4_settle_14 C hR u x1 x2 x3 0 (lv_sub hl [0, 1, 2, 3] rfl) S h
  · have h := cnd_t c2 h
    refine lv_iconst (v := 1) hx hb dX4_settle_9 (by decide) ?_
    refine lv_goto (tgt := 14) hx hb dX4_settle_10 (by decide) ?_
    exact wX4_settle_14 C hR u x1 x2 x3 1 (lv_sub hl [0, 1, 2, 3] rfl) S h
set_option maxRecDepth 10000 in
set_option maxHeartbeats 4000000 in
theorem ct_X4_settle (l : Launch) (D : va_G) (cI cB cL : ClassId) (ad : Nat → Nat) (pa pl : Nat) (x1 : Int32) (x2 : Int32) (x3 : Int32) (u : Sg) {σ' : Sg} (h : fX4_settle x1 x2 x3 u = some σ') : metV l D (tyl cI cB cL) yX4_settle cX4_settle 5 0 0 (wN cI ad pa pl) [.ref (ad 19), .int x1, .int x2, .int x3] u σ' := by
  intro sz
  refine Met.ofW (cc := cX4_settle) (maxL := 5) (ret := none) (by decide) rfl ?_
  intro p e s m args below meth c s₁ B hml hv
  obtain ⟨rfl, C, S⟩ := q_entry B hml hv
  have hl := lv_entry ([.ref (ad 19), .int x1, .int x2, .int x3]) (n := 5) (Nat.le_of_ble_eq_true rfl)
  rw [lg_entry_eq]
  generalize (lg_sl ([.ref (ad 19), .int x1, .int x2, .int x3]) ++ List.replicate (5 - (lg_sl ([.ref (ad 19), .int x1, .int x2, .int x3])).length) Slot.unset).toArray = ls at hl ⊢
  exact wX4_settle_0 C ⟨Nat.le_refl _, Nat.le_refl _⟩ u x1 x2 x3 (lv_sub hl [0, 1, 2, 3] rfl) S h
noncomputable def fX4_leastPending_56 (K5 : Int32 → Int32 → Int32 → Int32 → Option Int32) (x1 : Int32) (x2 : Int32) (x3 : Int32) (x4 : Int32) (u : Sg) : Option Int32 := bnd (x4 + 1) (fun v6 => K5 x1 x2 x3 v6)
noncomputable def fX4_leastPending_53 (K5 : Int32 → Int32 → Int32 → Int32 → Option Int32) (x1 : Int32) (x2 : Int32) (x4 : Int32) (u : Sg) : Option Int32 := fX4_leastPending_56 K5 x1 x2 x4 x4 u
noncomputable def fX4_leastPending_5 (u : Sg) : Nat → Int32 → Int32 → Int32 → Int32 → Option Int32
  | 0, _, _, _, _ => none
  | n + 1, x1, x2, x3, x4 => cnd (x2 ≤ x4) (some x3) (bnd (fX11_spotOf x1 x4) (fun v2 => obr (fX4_isPending v2 u) (fun r4 => cnd (r4 = 0) (fX4_leastPending_56 (fun a0 a1 a2 a3 => fX4_leastPending_5 u n a0 a1 a2 a3) x1 x2 x3 x4 u) (cnd (x3 = (-1)) (fX4_leastPending_53 (fun a0 a1 a2 a3 => fX4_leastPending_5 u n a0 a1 a2 a3) x1 x2 x4 u) (grd (vp_in v2 120) (grd (vp_in (fX11_spotOf x1 x3) 120) (cnd ((u 21 (((fX11_spotOf x1 x3) : Int32).toNatClampNeg)) ≤ (u 21 ((v2 : Int32).toNatClampNeg))) (fX4_leastPending_56 (fun a0 a1 a2 a3 => fX4_leastPending_5 u n a0 a1 a2 a3) x1 x2 x3 x4 u) (fX4_leastPending_53 (fun a0 a1 a2 a3 => fX4_leastPending_5 u n a0 a1 a2 a3) x1 x2 x4 u))))))))
noncomputable def fX4_leastPending_0 (x1 : Int32) (x2 : Int32) (u : Sg) : Option Int32 := fX4_leastPending_5 u FU x1 x2 (-1) 0
noncomputable def fX4_leastPending (x1 : Int32) (x2 : Int32) (u : Sg) : Option Int32 := fX4_leastPending_0 x1 x2 u
set_option maxRecDepth 10000 in
set_option maxHeartbeats 4000000 in
theorem wX4_leastPending_56 (C : cx D (tyl cI cB cL) A RX4 cX4_leastPending 6 (some .int) p s m args c meth) (hR : 1 ≤ R.frames ∧ 21 ≤ R.locals) {r : Int32} (u : Sg) {K5 : Int32 → Int32 → Int32 → Int32 → Option Int32} (hK5 : ∀ (y1 : Int32) (y2 : Int32) (y3 : Int32) (y4 : Int32) (H : Heap) (locs : List Loc) (ls : Array Slot), lv_has ls 6 [(0, .ref (ad 19)), (1, .int y1), (2, .int y2), (3, .int y3), (4, .int y4)] → st D (wN cI ad pa pl) A s u H locs → K5 y1 y2 y3 y4 = some r → W p l e R s m args below meth c H locs 0 0 (MQ below (qI D (tyl cI cB cL) (wN cI ad pa pl) A r u) args s 0 0 A) (F0 m 5 ls [])) (x1 : Int32) (x2 : Int32) (x3 : Int32) (x4 : Int32) {H : Heap} {locs : List Loc} {ls : Array Slot} (hl : lv_has ls 6 [(0, .ref (ad 19)), (1, .int x1), (2, .int x2), (3, .int x3), (4, .int x4)]) (S : st D (wN cI ad pa pl) A s u H locs) (h : fX4_leastPending_56 K5 x1 x2 x3 x4 u = some r) : W p l e R s m args below meth c H locs 0 0 (MQ below (qI D (tyl cI cB cL) (wN cI ad pa pl) A r u) args s 0 0 A) (F0 m 56 ls []) := by
  have hx := C.1
  have hb := C.2.1
  have hsz := hl.1
  unfold fX4_leastPending_56 at h
  obtain ⟨v6, ev6⟩ : ∃ y : Int32, y = x4 + 1 := ⟨_, rfl⟩
  have h := bnd_of ev6 h
  refine lv_iinc (v := v6) (lv' := [(4, .int v6), (0, .ref (ad 19)), (1, .int x1), (2, .int x2), (3, .int x3)]) hx hb dX4_leastPending_56 hl (k := 4) rfl (by rw [ev6]; rfl) (by decide) rfl (fun ls hl => ?_)
  have hsz := hl.1
  refine lv_goto (tgt := 5) hx hb dX4_leastPending_59 (by decide) ?_
  exact hK5 x1 x2 x3 v6 H locs ls (lv_sub hl [1, 2, 3, 4, 0] rfl) S h
set_option maxRecDepth 10000 in
set_option maxHeartbeats 4000000 in
theorem wX4_leastPending_53 (C : cx D (tyl cI cB cL) A RX4 cX4_leastPending 6 (some .int) p s m args c meth) (hR : 1 ≤ R.frames ∧ 21 ≤ R.locals) {r : Int32} (u : Sg) {K5 : Int32 → Int32 → Int32 → Int32 → Option Int32} (hK5 : ∀ (y1 : Int32) (y2 : Int32) (y3 : Int32) (y4 : Int32) (H : Heap) (locs : List Loc) (ls : Array Slot), lv_has ls 6 [(0, .ref (ad 19)), (1, .int y1), (2, .int y2), (3, .int y3), (4, .int y4)] → st D (wN cI ad pa pl) A s u H locs → K5 y1 y2 y3 y4 = some r → W p l e R s m args below meth c H locs 0 0 (MQ below (qI D (tyl cI cB cL) (wN cI ad pa pl) A r u) args s 0 0 A) (F0 m 5 ls [])) (x1 : Int32) (x2 : Int32) (x4 : Int32) {H : Heap} {locs : List Loc} {ls : Array Slot} (hl : lv_has ls 6 [(0, .ref (ad 19)), (1, .int x1), (2, .int x2), (4, .int x4)]) (S : st D (wN cI ad pa pl) A s u H locs) (h : fX4_leastPending_53 K5 x1 x2 x4 u = some r) : W p l e R s m args below meth c H locs 0 0 (MQ below (qI D (tyl cI cB cL) (wN cI ad pa pl) A r u) args s 0 0 A) (F0 m 53 ls []) := by
  have hx := C.1
  have hb := C.2.1
  have hsz := hl.1
  unfold fX4_leastPending_53 at h
  refine lv_iload hx hb dX4_leastPending_53 (lv_at hl 3 rfl) ?_
  refine lv_istore_n (lv' := [(3, .int x4), (0, .ref (ad 19)), (1, .int x1), (2, .int x2), (4, .int x4)]) hx hb dX4_leastPending_55 rfl hl (by decide) rfl (fun ls hl => ?_)
  have hsz := hl.1
  exact wX4_leastPending_56 C hR u hK5 x1 x2 x4 x4 (lv_sub hl [1, 2, 3, 0, 4] rfl) S h
set_option maxRecDepth 10000 in
set_option maxHeartbeats 4000000 in
theorem wX4_leastPending_5 (C : cx D (tyl cI cB cL) A RX4 cX4_leastPending 6 (some .int) p s m args c meth) (hR : 1 ≤ R.frames ∧ 21 ≤ R.locals) {r : Int32} (u : Sg) : ∀ (n : Nat) (x1 : Int32) (x2 : Int32) (x3 : Int32) (x4 : Int32) (H : Heap) (locs : List Loc) (ls : Array Slot), lv_has ls 6 [(0, .ref (ad 19)), (1, .int x1), (2, .int x2), (3, .int x3), (4, .int x4)] → st D (wN cI ad pa pl) A s u H locs → fX4_leastPending_5 u n x1 x2 x3 x4 = some r → W p l e R s m args below meth c H locs 0 0 (MQ below (qI D (tyl cI cB cL) (wN cI ad pa pl) A r u) args s 0 0 A) (F0 m 5 ls []) := by
  have hx := C.1
  have hb := C.2.1
  intro n
  induction n with
  | zero =>
    intro x1 x2 x3 x4 H locs ls hl S h
    cases h
  | succ n ih =>
    intro x1 x2 x3 x4 H locs ls hl S h
    rw [fX4_leastPending_5] at h
    have hsz := hl.1
    refine lv_iload hx hb dX4_leastPending_5 (lv_at hl 4 rfl) ?_
    refine lv_iload_n hx hb dX4_leastPending_7 rfl (lv_at hl 2 rfl) ?_
    refine lv_icmp_ge (tgt := 62) hx hb dX4_leastPending_8 (by decide) (fun c1 => ?_) (fun c1 => ?_)
    · have h := cnd_t c1 h
      refine lv_iload_n hx hb dX4_leastPending_62 rfl (lv_at hl 3 rfl) ?_
      exact q_iret C S (rt_R h) dX4_leastPending_63
    · have h := cnd_f c1 h
      refine lv_iload_n hx hb dX4_leastPending_11 rfl (lv_at hl 1 rfl) ?_
      refine lv_iload hx hb dX4_leastPending_12 (lv_at hl 4 rfl) ?_
      refine q_callPN (As := [.int x1, .int x4]) (na := 2) C S (ct_X11_spotOf l D cI cB cL x1 x4) (List.mem_of_getElem? (i := 18) rfl) mw_322 mw_321 mw_320 hdX11_spotOf ⟨Nat.le_trans (Nat.le_of_ble_eq_true rfl) hR.1, Nat.le_trans (Nat.le_of_ble_eq_true rfl) hR.2⟩ rfl hsz ⟨Nat.zero_le _, Nat.zero_le _⟩ (Nat.le_of_ble_eq_true rfl) dX4_leastPending_14 rfl (fun H locs S => ?_)
      refine lv_topi (fun v2 ev2 => ?_)
      have h := bnd_of ev2 h
      refine lv_istore (lv' := [(5, .int v2), (0, .ref (ad 19)), (1, .int x1), (2, .int x2), (3, .int x3), (4, .int x4)]) hx hb dX4_leastPending_17 hl (by decide) rfl (fun ls hl => ?_)
      have hsz := hl.1
      refine lv_aload_n hx hb dX4_leastPending_19 rfl (lv_at hl 1 rfl) ?_
      refine lv_iload hx hb dX4_leastPending_20 (lv_at hl 0 rfl) ?_
      obtain ⟨r4, h3, h⟩ := obr_some h
      refine q_callVi (As := [.int v2]) (na := 1) C S (oN19 cI ad pa pl) rfl (ct_X4_isPending l D cI cB cL ad pa pl v2 u h3) mw_417 mw_333 mw_335 mw_332 mw_331 hdX4_isPending ⟨Nat.le_trans (Nat.le_of_ble_eq_true rfl) hR.1, Nat.le_trans (Nat.le_of_ble_eq_true rfl) hR.2⟩ rfl hsz ⟨Nat.zero_le _, Nat.zero_le _⟩ (Nat.le_of_ble_eq_true rfl) dX4_leastPending_22 rfl (fun H locs S => ?_)
      refine lv_if_eq (tgt := 56) hx hb dX4_leastPending_25 (by decide) (fun c5 => ?_) (fun c5 => ?_)
      · have h := cnd_t c5 h
        exact wX4_leastPending_56 C hR u ih x1 x2 x3 x4 (lv_sub hl [1, 2, 3, 4, 5] rfl) S h
      · have h := cnd_f c5 h
        refine lv_iload_n hx hb dX4_leastPending_28 rfl (lv_at hl 4 rfl) ?_
        refine lv_iconst (v := (-1)) hx hb dX4_leastPending_29 (by decide) ?_
        refine lv_icmp_eq (tgt := 53) hx hb dX4_leastPending_30 (by decide) (fun c7 => ?_) (fun c7 => ?_)
        · have h := cnd_t c7 h
          exact wX4_leastPending_53 C hR u ih x1 x2 x4 (lv_sub hl [1, 2, 3, 5] rfl) S h
        · have h := cnd_f c7 h
          refine lv_aload_n hx hb dX4_leastPending_33 rfl (lv_at hl 1 rfl) ?_
          refine q_get (v := .ref (ad 21)) C S (oN19 cI ad pa pl) rfl iwX4 1 (by decide) mw_415 rfl dX4_leastPending_34 ?_
          refine lv_iload hx hb dX4_leastPending_37 (lv_at hl 0 rfl) ?_
          obtain ⟨g8, h⟩ := grd_some h
          refine q_iald C S (aN21 cI ad pa pl) 0 rfl g8 dX4_leastPending_39 (j := (v2 : Int32).toNatClampNeg) rfl ?_
          refine lv_aload_n hx hb dX4_leastPending_40 rfl (lv_at hl 1 rfl) ?_
          refine q_get (v := .ref (ad 21)) C S (oN19 cI ad pa pl) rfl iwX4 1 (by decide) mw_415 rfl dX4_leastPending_41 ?_
          refine lv_iload_n hx hb dX4_leastPending_44 rfl (lv_at hl 2 rfl) ?_
          refine lv_iload_n hx hb dX4_leastPending_45 rfl (lv_at hl 4 rfl) ?_
          refine q_callPN (As := [.int x1, .int x3]) (na := 2) C S (ct_X11_spotOf l D cI cB cL x1 x3) (List.mem_of_getElem? (i := 18) rfl) mw_322 mw_321 mw_320 hdX11_spotOf ⟨Nat.le_trans (Nat.le_of_ble_eq_true rfl) hR.1, Nat.le_trans (Nat.le_of_ble_eq_true rfl) hR.2⟩ rfl hsz ⟨Nat.zero_le _, Nat.zero_le _⟩ (Nat.le_of_ble_eq_true rfl) dX4_leastPending_46 rfl (fun H locs S => ?_)
          obtain ⟨g9, h⟩ := grd_some h
          refine q_iald C S (aN21 cI ad pa pl) 0 rfl g9 dX4_leastPending_49 (j := ((fX11_spotOf x1 x3) : Int32).toNatClampNeg) rfl ?_
          refine lv_icmp_ge (tgt := 56) hx hb dX4_leastPending_50 (by decide) (fun c10 => ?_) (fun c10 => ?_)
          · have h := cnd_t c10 h
            exact wX4_leastPending_56 C hR u ih x1 x2 x3 x4 (lv_sub hl [1, 2, 3, 4, 5] rfl) S h
          · have h := cnd_f c10 h
            exact wX4_leastPending_53 C hR u ih x1 x2 x4 (lv_sub hl [1, 2, 3, 5] rfl) S h
set_option maxRecDepth 10000 in
set_option maxHeartbeats 4000000 in
theorem wX4_leastPending_0 (C : cx D (tyl cI cB cL) A RX4 cX4_leastPending 6 (some .int) p s m args c meth) (hR : 1 ≤ R.frames ∧ 21 ≤ R.locals) {r : Int32} (u : Sg) (x1 : Int32) (x2 : Int32) {H : Heap} {locs : List Loc} {ls : Array Slot} (hl : lv_has ls 6 [(0, .ref (ad 19)), (1, .int x1), (2, .int x2)]) (S : st D (wN cI ad pa pl) A s u H locs) (h : fX4_leastPending_0 x1 x2 u = some r) : W p l e R s m args below meth c H locs 0 0 (MQ below (qI D (tyl cI cB cL) (wN cI ad pa pl) A r u) args s 0 0 A) (F0 m 0 ls []) := by
  have hx := C.1
  have hb := C.2.1
  have hsz := hl.1
  unfold fX4_leastPending_0 at h
  refine lv_iconst (v := (-1)) hx hb dX4_leastPending_0 (by decide) ?_
  refine lv_istore_n (lv' := [(3, .int (-1)), (0, .ref (ad 19)), (1, .int x1), (2, .int x2)]) hx hb dX4_leastPending_1 rfl hl (by decide) rfl (fun ls hl => ?_)
  have hsz := hl.1
  refine lv_iconst (v := 0) hx hb dX4_leastPending_2 (by decide) ?_
  refine lv_istore (lv' := [(4, .int 0), (3, .int (-1)), (0, .ref (ad 19)), (1, .int x1), (2, .int x2)]) hx hb dX4_leastPending_3 hl (by decide) rfl (fun ls hl => ?_)
  have hsz := hl.1
  exact wX4_leastPending_5 C hR u FU x1 x2 (-1) 0 H locs ls (lv_sub hl [2, 3, 4, 1, 0] rfl) S h
set_option maxRecDepth 10000 in
set_option maxHeartbeats 4000000 in
theorem ct_X4_leastPending (l : Launch) (D : va_G) (cI cB cL : ClassId) (ad : Nat → Nat) (pa pl : Nat) (x1 : Int32) (x2 : Int32) (u : Sg) {r : Int32} (h : fX4_leastPending x1 x2 u = some r) : metI l D (tyl cI cB cL) yX4_leastPending cX4_leastPending 6 (some .int) 1 21 (wN cI ad pa pl) [.ref (ad 19), .int x1, .int x2] u r u := by
  intro sz
  refine Met.ofW (cc := cX4_leastPending) (maxL := 6) (ret := (some .int)) (by decide) rfl ?_
  intro p e s m args below meth c s₁ B hml hv
  obtain ⟨rfl, C, S⟩ := q_entry B hml hv
  have hl := lv_entry ([.ref (ad 19), .int x1, .int x2]) (n := 6) (Nat.le_of_ble_eq_true rfl)
  rw [lg_entry_eq]
  generalize (lg_sl ([.ref (ad 19), .int x1, .int x2]) ++ List.replicate (6 - (lg_sl ([.ref (ad 19), .int x1, .int x2])).length) Slot.unset).toArray = ls at hl ⊢
  exact wX4_leastPending_0 C ⟨Nat.le_refl _, Nat.le_refl _⟩ u x1 x2 (lv_sub hl [0, 1, 2] rfl) S h
end S_21_n01
